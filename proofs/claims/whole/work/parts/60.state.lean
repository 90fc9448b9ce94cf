/-! The state of the system, in words: what is kept of the four functions, by the places that the reference gives it; a step of a way through a function. -/
abbrev Sg : Type := (Nat → Nat) × (Nat → Nat → Int32) × (Nat → Nat → Int32) × (Nat → Nat → Int32) × (Nat → Nat) × (Nat → Int32) × (Nat → Int32) × (Nat → Int32) × (Nat → Int32) × (Nat → Int32) × (Nat → Int32)
def rn (σ : Sg) : Nat → Nat := σ.1
def rA (σ : Sg) : Nat → Nat → Int32 := σ.2.1
def rB (σ : Sg) : Nat → Nat → Int32 := σ.2.2.1
def rK (σ : Sg) : Nat → Nat → Int32 := σ.2.2.2.1
def sz (σ : Sg) : Nat → Nat := σ.2.2.2.2.1
def sk (σ : Sg) : Nat → Int32 := σ.2.2.2.2.2.1
def sa (σ : Sg) : Nat → Int32 := σ.2.2.2.2.2.2.1
def sb (σ : Sg) : Nat → Int32 := σ.2.2.2.2.2.2.2.1
def sc (σ : Sg) : Nat → Int32 := σ.2.2.2.2.2.2.2.2.1
def sK (σ : Sg) : Nat → Int32 := σ.2.2.2.2.2.2.2.2.2.1
def sl (σ : Sg) : Nat → Int32 := σ.2.2.2.2.2.2.2.2.2.2
def nt (x : Int32) : Nat := x.toNatClampNeg
theorem nt_nI {n : Nat} (h : n < 2 ^ 31) : nt (nI n) = n := nI_clamp h
/-- relation row r: learned, shown, with the numbers u and v as parameters -/
def s_rels (σ : Sg) (r u v : Nat) (K : kl_K) : kl_K := r_it (kl_rel u v (fun j => nt (rA σ r j)) (fun j => nt (rB σ r j)) (fun j => rK σ r j)) (rn σ r) 0 K
def s_shw (σ : Sg) (r u v : Nat) (K : kl_K) : Bool := allB (kl_sh u v (fun j => nt (rA σ r j)) (fun j => nt (rB σ r j)) (fun j => rK σ r j) K) (rn σ r) 0
def RelOk (σ : Sg) (r : Nat) : Prop := rn σ r ≤ 4 ∧ ∀ j, j < rn σ r → (rA σ r j = nI (nt (rA σ r j)) ∧ nt (rA σ r j) < 4) ∧ (rB σ r j = nI (nt (rB σ r j)) ∧ nt (rB σ r j) < 4) ∧ -1000 ≤ (rK σ r j).toInt ∧ (rK σ r j).toInt ≤ 1000
/-- a name that a way uses: nothing but the result's -/
def NmOk (x : Int32) : Prop := x = nI (nt x) ∧ nt x < 12 ∧ nt x ≠ 3
def StOk (σ : Sg) (x : Nat) : Prop := (∃ n, n < 8 ∧ sk σ x = nI n) ∧ (sk σ x = nI 0 ∨ sk σ x = nI 1 ∨ sk σ x = nI 7 ∨ sk σ x = nI 2 ∨ sk σ x = nI 5 → NmOk (sa σ x)) ∧ (sk σ x = nI 0 ∨ sk σ x = nI 1 ∨ sk σ x = nI 2 ∨ sk σ x = nI 5 ∨ sk σ x = nI 6 → NmOk (sb σ x)) ∧ (sk σ x = nI 1 → NmOk (sc σ x) ∧ sK σ x = nI (nt (sK σ x)) ∧ nt (sK σ x) < 4) ∧ (sk σ x = nI 0 ∨ sk σ x = nI 2 ∨ sk σ x = nI 5 ∨ sk σ x = nI 6 → -1000 ≤ (sK σ x).toInt ∧ (sK σ x).toInt ≤ 1000)
/-- what is to be shown at a statement is shown; what is known behind it; what is known on an IF's other side -/
def st_sh (σ : Sg) (i p : Nat) (K : kl_K) : Bool :=
  if sk σ (16 * i + p) = nI 1 then s_shw σ (2 * nt (sK σ (16 * i + p))) (nt (sb σ (16 * i + p))) (nt (sc σ (16 * i + p))) K
  else if sk σ (16 * i + p) = nI 5 then kl_le (K.2 (nt (sa σ (16 * i + p))) (nt (sb σ (16 * i + p)))) (sK σ (16 * i + p)).toInt
  else if sk σ (16 * i + p) = nI 6 then s_shw σ (2 * i + 1) 1 2 (kl_give 3 (nt (sb σ (16 * i + p))) (sK σ (16 * i + p)).toInt K)
  else true
def st_K (σ : Sg) (i p : Nat) (K : kl_K) : kl_K :=
  if sk σ (16 * i + p) = nI 0 then kl_give (nt (sa σ (16 * i + p))) (nt (sb σ (16 * i + p))) (sK σ (16 * i + p)).toInt K
  else if sk σ (16 * i + p) = nI 1 then kl_forget 3 (kl_give (nt (sa σ (16 * i + p))) 3 0 (s_rels σ (2 * nt (sK σ (16 * i + p)) + 1) (nt (sb σ (16 * i + p))) (nt (sc σ (16 * i + p))) K))
  else if sk σ (16 * i + p) = nI 2 then kl_learn (nt (sa σ (16 * i + p))) (nt (sb σ (16 * i + p))) (sK σ (16 * i + p)).toInt K
  else if sk σ (16 * i + p) = nI 5 then kl_learn (nt (sa σ (16 * i + p))) (nt (sb σ (16 * i + p))) (sK σ (16 * i + p)).toInt K
  else if sk σ (16 * i + p) = nI 6 then kl_give 3 (nt (sb σ (16 * i + p))) (sK σ (16 * i + p)).toInt K
  else if sk σ (16 * i + p) = nI 7 then kl_forget (nt (sa σ (16 * i + p))) K
  else K
def st_ot (σ : Sg) (i p : Nat) (K : kl_K) : kl_K := kl_learn (nt (sb σ (16 * i + p))) (nt (sa σ (16 * i + p))) (-(sK σ (16 * i + p)).toInt - 1) K
def st_tg (σ : Sg) (i p : Nat) : Int32 := if sl σ (16 * i + p) = -1 then nI (sz σ i) else sl σ (16 * i + p)
def st_nx (σ : Sg) (i p : Nat) : Int32 := if sk σ (16 * i + p) = nI 3 then st_tg σ i p else nI (p + 1)
theorem s_rels_ok {σ : Sg} {T : Int} {r u v : Nat} {K : kl_K} (hr : RelOk σ r) (hu : u < 12) (hv : v < 12) (hok : kl_ok T K) : kl_ok (T + 4004) (s_rels σ r u v K) := rels_ok hu hv (fun j hj => (hr.2 j hj).1.2) (fun j hj => (hr.2 j hj).2.1.2) (fun j hj => by have := (hr.2 j hj).2.2; omega) hr.1 hok
/-- the four functions, in the class's memory -/
def FnsAt (tys : List (ClassId × FieldType)) (L : List Nat) (f : Nat → va_E) (fa : Nat) (fn dr pr sA oA : Nat → Nat) (ra rb rk : Nat → Nat) (sq : Nat → Nat → Nat) (oi ni : Nat → Nat) (gv : Nat → Int32) (go : Nat → Nat → Int32) (σ : Sg) : Prop :=
  (fa ∈ L ∧ mm_Q tys "LiquidChecker$Function" f fa 4 (fun i => some (fn i))) ∧ ∀ i, i < 4 →
    (fn i ∈ L ∧ f (fn i) = .inr (0, [.ref (dr i), .ref (pr i), .ref (sA i), .ref (oA i), .int (nI (sz σ i)), .int (nI (oi i)), .int (nI (ni i)), .int (gv i)])) ∧
    RelAt tys L f (dr i) (ra (2 * i)) (rb (2 * i)) (rk (2 * i)) (rn σ (2 * i)) (fun j => rA σ (2 * i) j) (fun j => rB σ (2 * i) j) (fun j => rK σ (2 * i) j) (fun j => nt (rA σ (2 * i) j)) (fun j => nt (rB σ (2 * i) j)) ∧
    RelAt tys L f (pr i) (ra (2 * i + 1)) (rb (2 * i + 1)) (rk (2 * i + 1)) (rn σ (2 * i + 1)) (fun j => rA σ (2 * i + 1) j) (fun j => rB σ (2 * i + 1) j) (fun j => rK σ (2 * i + 1) j) (fun j => nt (rA σ (2 * i + 1) j)) (fun j => nt (rB σ (2 * i + 1) j)) ∧
    (sA i ∈ L ∧ mm_Q tys "LiquidChecker$Statement" f (sA i) 16 (fun j => some (sq i j))) ∧ (∀ j, j < 16 → sq i j ∈ L) ∧
    StAll f (sq i) (fun p => sk σ (16 * i + p)) (fun p => sa σ (16 * i + p)) (fun p => sb σ (16 * i + p)) (fun p => sc σ (16 * i + p)) (fun p => sK σ (16 * i + p)) (fun p => sl σ (16 * i + p)) ∧
    (oA i ∈ L ∧ mm_I tys f (oA i) 6 (go i))
/-- cells that a walk may change: its own -/
def WReg (W wk wkb wp : Nat) (wq wqb : Nat → Nat) (z : Nat) : Prop := z = W ∨ z = wk ∨ z = wkb ∨ z = wp ∨ ∃ j, j < 6 ∧ (z = wq j ∨ z = wqb j)
/-- the walk's own cells -/
def WkAt (tys : List (ClassId × FieldType)) (L : List Nat) (f : Nat → va_E) (W wk wkb wa wp : Nat) (wq wqb : Nat → Nat) : Prop :=
  (W ∈ L ∧ wk ∈ L ∧ wkb ∈ L ∧ wa ∈ L ∧ wp ∈ L) ∧ mm_Q tys "LiquidChecker$Known" f wa 6 (fun j => some (wq j)) ∧ (∀ j, j < 6 → wq j ∈ L ∧ wqb j ∈ L) ∧ (∀ j, j < 6 → wk ≠ wq j ∧ wkb ≠ wqb j) ∧ (∀ i j, i < 6 → j < 6 → i ≠ j → wq i ≠ wq j ∧ wqb i ≠ wqb j) ∧ (∀ j, j < 6 → KnAny tys f (wq j) (wqb j))
