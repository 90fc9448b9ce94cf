/-! What is noted over a set of nodes does not depend on their order: the class's walk and the model's notes agree. -/
theorem bv_one (y : BitVec 32) : y &&& 1#32 = 1#32 ↔ y.getLsbD 0 = true := by
  constructor
  · intro h
    have := congrArg (fun z : BitVec 32 => z.getLsbD 0) h
    simpa using this
  · intro h
    apply BitVec.eq_of_getLsbD_eq
    intro i hi
    rw [BitVec.getLsbD_and]
    cases i with
    | zero => simp [h]
    | succ i => simp
theorem bt_at (x : Int32) (k : Nat) (hk : k < 17) : ((x >>> (nI k &&& 31)) &&& nI 1 = nI 1) ↔ x.toBitVec.getLsbD k = true := by
  rw [← Int32.toBitVec_inj, Int32.toBitVec_and, Int32.toBitVec_shiftRight]
  show (x.toBitVec.sshiftRight' _ &&& 1#32 = 1#32) ↔ _
  have h : ∀ k, k < 17 → ((nI k &&& 31).toBitVec.smod 32).toNat = k := by decide +kernel
  rw [bv_one]
  show (BitVec.sshiftRight _ (BitVec.toNat _)).getLsbD 0 = true ↔ _
  rw [h k hk, BitVec.getLsbD_sshiftRight]
  simp
  intro _
  omega
theorem bt_or (x : Int32) (a k : Nat) (ha : a < 17) (hk : k < 17) : (x ||| (nI 1 <<< (nI a &&& 31))).toBitVec.getLsbD k = (x.toBitVec.getLsbD k || decide (k = a)) := by
  rw [Int32.toBitVec_or, BitVec.getLsbD_or]
  congr 1
  have h : ∀ a, a < 17 → ∀ k, k < 17 → (nI 1 <<< (nI a &&& 31)).toBitVec.getLsbD k = decide (k = a) := by decide +kernel
  exact h a ha k hk
theorem cm_add {pm : Int32} {a k : Nat} (ha : a < 17) (hk : k < 17) : q_cm (n_pm pm a) k = true ↔ q_cm pm k = true ∨ k = a := by
  unfold q_cm n_pm
  rw [decide_eq_true_eq, decide_eq_true_eq, bt_at _ k hk, bt_at _ k hk, bt_or _ a k ha hk, Bool.or_eq_true, decide_eq_true_eq]
theorem cm_0 {p : Nat} (hp : p < 17) : q_cm (nI 0) p = false := by
  have h9 : ∀ p, p < 17 → q_cm (nI 0) p = false := by decide +kernel
  exact h9 p hp
abbrev Nd : Type := Nat × kl_K
def Lst (σ : Sg) (i : Nat) (S : Nd → Prop) (le : Int32) : Prop := (∀ x, S x → x.1 < 17) ∧ ((le = -1 ∧ ∀ x, S x → nSh σ i x = true) ∨ ∃ x, S x ∧ nSh σ i x = false ∧ le = nI x.1 ∧ ∀ y, S y → nSh σ i y = false → x.1 ≤ y.1)
theorem Lst.add {σ : Sg} {i : Nat} {S : Nd → Prop} {le : Int32} {x : Nd} (h : Lst σ i S le) (hx : x.1 < 17) : Lst σ i (fun y => S y ∨ y = x) (n_lu le (nI x.1) (nSh σ i x)) := by
  obtain ⟨h0, h⟩ := h
  refine ⟨fun y hy => hy.elim (h0 y) (fun e => by rw [e]; exact hx), ?_⟩
  unfold n_lu
  rcases h with ⟨h1, h2⟩ | ⟨z, h1, h2, h3, h4⟩
  · cases hb : nSh σ i x with
    | true =>
      rw [if_neg (fun c => by cases c.1)]
      exact Or.inl ⟨h1, fun y hy => hy.elim (h2 y) (fun e => by rw [e]; exact hb)⟩
    | false =>
      rw [if_pos ⟨rfl, Or.inl h1⟩]
      refine Or.inr ⟨x, Or.inr rfl, hb, rfl, fun y hy hf => ?_⟩
      rcases hy with hy | hy
      · rw [h2 y hy] at hf; cases hf
      · rw [hy]; exact Nat.le_refl _
  · have hz := h0 z h1
    have hle : le ≤ nI x.1 ↔ z.1 ≤ x.1 := by rw [h3, Int32.le_iff_toInt_le, nI_toInt (by omega), nI_toInt (by omega)]; omega
    have hne : ¬ le = -1 := by rw [h3]; exact nI_m1 (by omega)
    cases hb : nSh σ i x with
    | true =>
      rw [if_neg (fun c => by cases c.1)]
      refine Or.inr ⟨z, Or.inl h1, h2, h3, fun y hy hf => ?_⟩
      rcases hy with hy | hy
      · exact h4 y hy hf
      · rw [hy, hb] at hf; cases hf
    | false =>
      by_cases c : le ≤ nI x.1
      · rw [if_neg (fun d => d.2.elim hne (fun e => e c))]
        refine Or.inr ⟨z, Or.inl h1, h2, h3, fun y hy hf => ?_⟩
        rcases hy with hy | hy
        · exact h4 y hy hf
        · rw [hy]; exact hle.mp c
      · rw [if_pos ⟨rfl, Or.inr c⟩]
        refine Or.inr ⟨x, Or.inr rfl, hb, rfl, fun y hy hf => ?_⟩
        have h9 : ¬ z.1 ≤ x.1 := fun e => c (hle.mpr e)
        rcases hy with hy | hy
        · have := h4 y hy hf; omega
        · rw [hy]; exact Nat.le_refl _
theorem Lst.ext {σ : Sg} {i : Nat} {S T : Nd → Prop} {le : Int32} (hs : ∀ x, S x ↔ T x) (h : Lst σ i S le) : Lst σ i T le := by
  rw [show T = S from funext (fun x => propext (hs x).symm)]
  exact h
theorem Lst.uniq {σ : Sg} {i : Nat} {S : Nd → Prop} {a b : Int32} (h : Lst σ i S a) (h' : Lst σ i S b) : a = b := by
  rcases h.2 with ⟨h1, h2⟩ | ⟨z, h1, h2, h3, h4⟩ <;> rcases h'.2 with ⟨k1, k2⟩ | ⟨w, k1, k2, k3, k4⟩
  · rw [h1, k1]
  · rw [h2 w k1] at k2; cases k2
  · rw [k2 z h1] at h2; cases h2
  · rw [h3, k3, show z.1 = w.1 from Nat.le_antisymm (h4 w k1 k2) (k4 z h1 h2)]
def Cam (S : Nd → Prop) (gc : Nat → Int32) : Prop := ∀ p, p < 17 → (gc p = nI 1 ∧ ∃ x, S x ∧ x.1 = p) ∨ (gc p = nI 0 ∧ ∀ x, S x → x.1 ≠ p)
theorem Cam.add {S : Nd → Prop} {gc : Nat → Int32} {x : Nd} (h : Cam S gc) : Cam (fun y => S y ∨ y = x) (upd gc x.1 (nI 1)) := by
  intro p hp
  by_cases e : p = x.1
  · rw [e, pk_us]
    exact Or.inl ⟨rfl, x, Or.inr rfl, rfl⟩
  · rw [pk_un e]
    rcases h p hp with ⟨h1, z, h2, h3⟩ | ⟨h1, h2⟩
    · exact Or.inl ⟨h1, z, Or.inl h2, h3⟩
    · exact Or.inr ⟨h1, fun y hy => hy.elim (h2 y) (fun e2 => by rw [e2]; exact Ne.symm e)⟩
def CamP (S : Nd → Prop) (pm : Int32) : Prop := ∀ p, p < 17 → (q_cm pm p = true ↔ ∃ x, S x ∧ x.1 = p)
theorem CamP.add {S : Nd → Prop} {pm : Int32} {x : Nd} (h : CamP S pm) (hx : x.1 < 17) : CamP (fun y => S y ∨ y = x) (n_pm pm x.1) := by
  intro p hp
  rw [cm_add hx hp, h p hp]
  constructor
  · rintro (⟨z, h2, h3⟩ | e)
    · exact ⟨z, Or.inl h2, h3⟩
    · exact ⟨x, Or.inr rfl, e.symm⟩
  · rintro ⟨z, h2 | h2, h3⟩
    · exact Or.inl ⟨z, h2, h3⟩
    · exact Or.inr (by rw [← h3, h2])
def bnd (o : Option Int) : Prop := ∀ d, o = some d → -300000 ≤ d ∧ d ≤ 300000
theorem encI_int {o : Option Int} (h : bnd o) : (encI o).toInt = match o with
  | none => 1000000
  | some d => d := by
  cases o with
  | none => exact i32_max
  | some d => have := h d rfl; exact i32_of (by omega)
/-- the order of the two encodings is one -/
theorem enc_ord {o o' : Option Int} (h : bnd o) (h' : bnd o') : (encI o).toInt ≤ (encI o').toInt ↔ (encL o).toInt ≤ (encL o').toInt := by
  rw [encI_int h, encI_int h', encL_int h, encL_int h']
  cases o with
  | none =>
    cases o' with
    | none => exact ⟨fun _ => Int.le_refl _, fun _ => Int.le_refl _⟩
    | some d => have := h' d rfl; simp only []; omega
  | some c =>
    have := h c rfl
    cases o' with
    | none => simp only []; omega
    | some d => have := h' d rfl; simp only []
theorem encI_low {o : Option Int} (h : bnd o) : (-1000000 : Int32).toInt < (encI o).toInt := by
  rw [encI_int h, show (-1000000 : Int32).toInt = -1000000 by decide +kernel]
  cases o with
  | none => simp only []; omega
  | some d => have := h d rfl; simp only []; omega
theorem encI_inj {o o' : Option Int} (h : bnd o) (h' : bnd o') (e : encI o = encI o') : o = o' := by
  have h1 := congrArg Int32.toInt e
  rw [encI_int h, encI_int h'] at h1
  cases o with
  | none =>
    cases o' with
    | none => rfl
    | some d => have := h' d rfl; simp only [] at h1; omega
  | some c =>
    have := h c rfl
    cases o' with
    | none => simp only [] at h1; omega
    | some d => have := h' d rfl; simp only [] at h1; rw [h1]
def vlo (a b : Nat) (x : Nd) : Option Int := x.2.2 a b
def Grt (ap : Int32) (a b : Nat) (S : Nd → Prop) (gr : Int32) : Prop := (∀ x, S x → bnd (vlo a b x)) ∧ ((gr = -1000000 ∧ ∀ x, S x → ¬ nI x.1 = ap) ∨ ∃ x, S x ∧ nI x.1 = ap ∧ gr = encI (vlo a b x) ∧ ∀ y, S y → nI y.1 = ap → (encI (vlo a b y)).toInt ≤ gr.toInt)
theorem Grt.add {ap : Int32} {a b : Nat} {S : Nd → Prop} {gr : Int32} {x : Nd} (h : Grt ap a b S gr) (hx : bnd (vlo a b x)) : Grt ap a b (fun y => S y ∨ y = x) (if nI x.1 = ap then n_gr gr (encI (vlo a b x)) else gr) := by
  obtain ⟨h0, h⟩ := h
  refine ⟨fun y hy => hy.elim (h0 y) (fun e => by rw [e]; exact hx), ?_⟩
  by_cases hp : nI x.1 = ap
  · rw [if_pos hp]
    unfold n_gr
    have hlow := encI_low hx
    rcases h with ⟨h1, h2⟩ | ⟨z, h1, h2, h3, h4⟩
    · rw [if_pos (by rw [Int32.lt_iff_toInt_lt, h1]; exact hlow)]
      refine Or.inr ⟨x, Or.inr rfl, hp, rfl, fun y hy hq => ?_⟩
      rcases hy with hy | hy
      · exact absurd hq (h2 y hy)
      · rw [hy]; exact Int.le_refl _
    · by_cases c : gr < encI (vlo a b x)
      · rw [if_pos c]
        rw [Int32.lt_iff_toInt_lt] at c
        refine Or.inr ⟨x, Or.inr rfl, hp, rfl, fun y hy hq => ?_⟩
        rcases hy with hy | hy
        · have := h4 y hy hq; omega
        · rw [hy]; exact Int.le_refl _
      · rw [if_neg c]
        rw [Int32.lt_iff_toInt_lt] at c
        refine Or.inr ⟨z, Or.inl h1, h2, h3, fun y hy hq => ?_⟩
        rcases hy with hy | hy
        · exact h4 y hy hq
        · rw [hy]; omega
  · rw [if_neg hp]
    rcases h with ⟨h1, h2⟩ | ⟨z, h1, h2, h3, h4⟩
    · exact Or.inl ⟨h1, fun y hy => hy.elim (h2 y) (fun e => by rw [e]; exact hp)⟩
    · refine Or.inr ⟨z, Or.inl h1, h2, h3, fun y hy hq => ?_⟩
      rcases hy with hy | hy
      · exact h4 y hy hq
      · rw [hy] at hq; exact absurd hq hp
def Mxt (ap : Int32) (a b : Nat) (S : Nd → Prop) (mx : Int64) (se : Int32) : Prop := (∀ x, S x → bnd (vlo a b x)) ∧ ((se = nI 0 ∧ ∀ x, S x → ¬ nI x.1 = ap) ∨ (se = nI 1 ∧ ∃ x, S x ∧ nI x.1 = ap ∧ mx = encL (vlo a b x) ∧ ∀ y, S y → nI y.1 = ap → (encL (vlo a b y)).toInt ≤ mx.toInt))
theorem Mxt.add {ap : Int32} {a b : Nat} {S : Nd → Prop} {mx : Int64} {se : Int32} {x : Nd} (h : Mxt ap a b S mx se) (hx : bnd (vlo a b x)) : Mxt ap a b (fun y => S y ∨ y = x) (m_mx ap x.1 se mx (encL (vlo a b x))) (m_se ap x.1 se) := by
  obtain ⟨h0, h⟩ := h
  refine ⟨fun y hy => hy.elim (h0 y) (fun e => by rw [e]; exact hx), ?_⟩
  unfold m_mx m_se
  by_cases hp : nI x.1 = ap
  · rw [if_pos hp, if_pos hp]
    rcases h with ⟨h1, h2⟩ | ⟨h0s, z, h1, h2, h3, h4⟩
    · rw [if_pos (Or.inl (show se = 0 from h1))]
      refine Or.inr ⟨rfl, x, Or.inr rfl, hp, rfl, fun y hy hq => ?_⟩
      rcases hy with hy | hy
      · exact absurd hq (h2 y hy)
      · rw [hy]; exact Int.le_refl _
    · by_cases c : mx < encL (vlo a b x)
      · rw [if_pos (Or.inr c)]
        rw [Int64.lt_iff_toInt_lt] at c
        refine Or.inr ⟨rfl, x, Or.inr rfl, hp, rfl, fun y hy hq => ?_⟩
        rcases hy with hy | hy
        · have := h4 y hy hq; omega
        · rw [hy]; exact Int.le_refl _
      · rw [if_neg (fun d => d.elim (fun e => by rw [h0s] at e; exact absurd e (by decide +kernel)) c)]
        rw [Int64.lt_iff_toInt_lt] at c
        refine Or.inr ⟨rfl, z, Or.inl h1, h2, h3, fun y hy hq => ?_⟩
        rcases hy with hy | hy
        · exact h4 y hy hq
        · rw [hy]; omega
  · rw [if_neg hp, if_neg hp]
    rcases h with ⟨h1, h2⟩ | ⟨h0s, z, h1, h2, h3, h4⟩
    · exact Or.inl ⟨h1, fun y hy => hy.elim (h2 y) (fun e => by rw [e]; exact hp)⟩
    · refine Or.inr ⟨h0s, z, Or.inl h1, h2, h3, fun y hy hq => ?_⟩
      rcases hy with hy | hy
      · exact h4 y hy hq
      · rw [hy] at hq; exact absurd hq hp
/-- both greatest values stand for one -/
theorem gr_mx {ap : Int32} {a b : Nat} {S : Nd → Prop} {gr : Int32} {mx : Int64} {se : Int32} (h : Grt ap a b S gr) (h' : Mxt ap a b S mx se) : (se = nI 0 ∧ ∀ x, S x → ¬ nI x.1 = ap) ∨ (se = nI 1 ∧ (∃ x, S x ∧ nI x.1 = ap) ∧ ∃ o, bnd o ∧ gr = encI o ∧ mx = encL o) := by
  rcases h'.2 with ⟨k1, k2⟩ | ⟨k0, w, k1, k2, k3, k4⟩
  · exact Or.inl ⟨k1, k2⟩
  · refine Or.inr ⟨k0, ⟨w, k1, k2⟩, vlo a b w, h.1 w k1, ?_, k3⟩
    rcases h.2 with ⟨h1, h2⟩ | ⟨z, h1, h2, h3, h4⟩
    · exact absurd k2 (h2 w k1)
    · rw [h3]
      have e1 := h4 w k1 k2
      have e2 := k4 z h1 h2
      rw [h3] at e1
      rw [k3, ← enc_ord (h.1 z h1) (h.1 w k1)] at e2
      exact Int32.toInt_inj.mp (by omega)
theorem fold_add {α : Type} (P : (Nd → Prop) → α → Prop) (f : α → Nd → α) (ok : Nd → Prop) (hadd : ∀ S u x, ok x → P S u → P (fun y => S y ∨ y = x) (f u x)) : ∀ (l : List Nd) (S : Nd → Prop) (u : α), (∀ x ∈ l, ok x) → P S u → P (fun y => S y ∨ y ∈ l) (l.foldl f u) := by
  intro l
  induction l with
  | nil =>
    intro S u _ h
    rw [show (fun y => S y ∨ y ∈ ([] : List Nd)) = S by funext y; simp]
    exact h
  | cons x l ih =>
    intro S u ho h
    have h1 := ih (fun y => S y ∨ y = x) (f u x) (fun y hy => ho y (List.mem_cons_of_mem _ hy)) (hadd S u x (ho x List.mem_cons_self) h)
    rw [show (fun y => S y ∨ y ∈ x :: l) = (fun y => (S y ∨ y = x) ∨ y ∈ l) by
      funext y
      rw [List.mem_cons, or_assoc]]
    exact h1
def PC (σ : Sg) (i : Nat) (ap : Int32) (a b : Nat) (S : Nd → Prop) (u : Ac) : Prop := Lst σ i S u.2.2.1 ∧ CamP S u.2.1 ∧ Grt ap a b S u.1
def PM (σ : Sg) (i : Nat) (ap : Int32) (a b : Nat) (S : Nd → Prop) (u : Mq) : Prop := Lst σ i S u.1 ∧ Cam S u.2.1 ∧ Mxt ap a b S u.2.2.1 u.2.2.2
def nOk (a b : Nat) (x : Nd) : Prop := x.1 < 17 ∧ bnd (vlo a b x)
theorem PC.fold {σ : Sg} {i : Nat} {ap : Int32} {a b : Nat} {l : List Nd} {S : Nd → Prop} {u : Ac} (ho : ∀ x ∈ l, nOk a b x) (h : PC σ i ap a b S u) : PC σ i ap a b (fun y => S y ∨ y ∈ l) (l.foldl (nAc σ i ap a b) u) :=
  fold_add (PC σ i ap a b) (nAc σ i ap a b) (nOk a b) (fun S u x hx h => ⟨h.1.add hx.1, h.2.1.add hx.1, h.2.2.add hx.2⟩) l S u ho h
theorem PM.fold {σ : Sg} {i : Nat} {ap : Int32} {a b : Nat} {l : List Nd} {S : Nd → Prop} {u : Mq} (ho : ∀ x ∈ l, nOk a b x) (h : PM σ i ap a b S u) : PM σ i ap a b (fun y => S y ∨ y ∈ l) (l.foldl (mAc σ i ap a b) u) :=
  fold_add (PM σ i ap a b) (mAc σ i ap a b) (nOk a b) (fun S u x hx h => ⟨h.1.add hx.1, h.2.1.add, h.2.2.add hx.2⟩) l S u ho h
/-- nodes are in order -/
theorem nds_ok {σ : Sg} {i : Nat} (hR : RlOk σ) (hi : i < 4) (hf : FnOk σ i) : ∀ (n p : Nat) (K : kl_K), p ≤ sz σ i → kl_ok (tb p) K → ∀ x ∈ nds σ i n p K, x.1 ≤ sz σ i ∧ kl_ok (tb x.1) x.2 := by
  intro n
  have h16 := hf.1
  induction n with
  | zero => intro p K _ _ x hx; cases hx
  | succ n ih =>
    intro p K hp hok x hx
    rw [nds_step hf] at hx
    rcases List.mem_cons.mp hx with h | h
    · rw [h]; exact ⟨hp, hok⟩
    · by_cases hE : nEnd σ i p = true
      · rw [if_pos hE] at h; cases h
      · obtain ⟨hlt, h6⟩ := not_end hE
        have hs := hf.2.1 p hlt
        rw [if_neg hE] at h
        rcases List.mem_append.mp h with h | h
        · by_cases hk : (st_K σ i p K).1 = true
          · rw [if_pos hk] at h
            have hq := pN_cases (bt := fun _ => false) hf hlt
            rw [show pN σ i (fun _ => false) p = nt (st_nx σ i p) from if_neg (fun z => by cases z.2)] at hq
            exact ih _ _ hq.2 ((st_K_ok hR hi hs hok).mono (by unfold tb; omega)) x h
          · rw [if_neg hk] at h; cases h
        · by_cases ho : sk σ (16 * i + p) = nI 2 ∧ (st_ot σ i p K).1 = true
          · rw [if_pos ho] at h
            obtain ⟨t, ht1, ht2, ht3⟩ := hf.2.2.1 p hlt (Or.inl ho.1)
            rw [show nt (st_tg σ i p) = t by rw [ht1, nt_nI (by omega)]] at h
            exact ih t _ ht3 ((st_ot_ok hs ho.1 hok).mono (by unfold tb; omega)) x h
          · rw [if_neg ho] at h; cases h
def allN (σ : Sg) (i : Nat) : List Nd := if (th_K σ i).1 = true then nds σ i 17 0 (th_K σ i) else []
theorem allN_ok {σ : Sg} {i a b : Nat} (hR : RlOk σ) (hi : i < 4) (hf : FnOk σ i) (ha : a < 12) (hb : b < 12) : ∀ x ∈ allN σ i, nOk a b x := by
  intro x hx
  unfold allN at hx
  split at hx
  · have h := nds_ok hR hi hf 17 0 (th_K σ i) (Nat.zero_le _) ((s_rels_ok (hR _ (by omega)) (by omega) (by omega) kl_0_ok).mono (by unfold tb; omega)) x hx
    have h16 := hf.1
    refine ⟨by omega, fun d hd => ?_⟩
    exact Sml.of h.2.2 (by unfold tb; omega) a b d ha hb hd
  · cases hx
/-- the class's notes -/
theorem class_notes {σ : Sg} {i a b : Nat} {ap : Int32} {wpl : Nat → Int32} (hR : RlOk σ) (hi : i < 4) (hf : FnOk σ i) (ha : a < 12) (hb : b < 12) : PC σ i ap a b (fun y => y ∈ allN σ i) (acOf (th_run σ i ap a b 64 (th_o σ i) (th_c σ i wpl))) := by
  rw [through_tree hR hi hf]
  have h := PC.fold (σ := σ) (i := i) (ap := ap) (a := a) (b := b) (S := fun _ => False) (u := (-1000000, nI 0, -1, 0)) (allN_ok hR hi hf ha hb) ⟨⟨fun _ h => h.elim, Or.inl ⟨rfl, fun _ h => h.elim⟩⟩, fun p hp => ⟨fun h => absurd h (by rw [cm_0 hp]; decide), fun ⟨_, h, _⟩ => h.elim⟩, fun _ h => h.elim, Or.inl ⟨rfl, fun _ h => h.elim⟩⟩
  rw [show (fun y : Nd => False ∨ y ∈ allN σ i) = (fun y => y ∈ allN σ i) by funext y; simp] at h
  exact h
/-- the model's notes -/
def mskN (σ : Sg) (i m : Nat) : List Nd := if (th_K σ i).1 = true then pth σ i (mBt (nI m)) 17 0 (th_K σ i) else []
theorem m_walk_eff {σ : Sg} {i ka kc m : Nat} {sp : Int32} {u : MC} (hf : FnOk σ i) : mqOf (m_walk σ i sp ka kc m u) = (mskN σ i m).foldl (mAc σ i sp ka kc) (mqOf u) ∧ (m_walk σ i sp ka kc m u).en = u.en + (if (th_K σ i).1 = true ∧ pEnds σ i (mBt (nI m)) 17 0 (th_K σ i) = true ∧ nI m &&& (meF (pIf σ i (mBt (nI m)) 17 0 (th_K σ i)) (nI 0) ^^^ -1) = 0 then 1 else 0) := by
  unfold m_walk mskN th_o
  by_cases h : (th_K σ i).1 = true
  · rw [if_pos h, if_pos h]
    have := m_run_eff (mask := nI m) (sp := sp) (ka := ka) (kc := kc) hf 17 0 (m_w0 σ i u) (Nat.zero_le _)
    refine ⟨this.1, ?_⟩
    rw [this.2]
    show u.en + _ = u.en + _
    congr 1
    simp only [h, true_and]
    rfl
  · rw [if_neg h, if_neg h, if_neg (fun z => h z.1), m_run_none]
    exact ⟨rfl, rfl⟩
theorem mask_of (bt : Nat → Bool) : ∀ N, ∃ m, m < 2 ^ N ∧ ∀ k, k < N → m.testBit k = bt k := by
  intro N
  induction N generalizing bt with
  | zero => exact ⟨0, by decide, fun k hk => by omega⟩
  | succ N ih =>
    obtain ⟨m, h1, h2⟩ := ih (fun k => bt (k + 1))
    refine ⟨2 * m + (bt 0).toNat, ?_, fun k hk => ?_⟩
    · rw [Nat.pow_succ]
      cases bt 0 <;> simp <;> omega
    · cases k with
      | zero =>
        rw [Nat.testBit_zero]
        cases bt 0 <;> simp <;> omega
      | succ k =>
        rw [Nat.testBit_succ, show (2 * m + (bt 0).toNat) / 2 = m by cases bt 0 <;> simp <;> omega]
        exact h2 k (by omega)
theorem masks_cover {σ : Sg} {i : Nat} (hf : FnOk σ i) (x : Nd) : x ∈ allN σ i ↔ ∃ m, m < 2 ^ nif σ i (sz σ i) ∧ x ∈ mskN σ i m := by
  have h6 := hf.2.2.2
  unfold allN mskN
  by_cases h : (th_K σ i).1 = true
  · simp only [if_pos h]
    constructor
    · intro hx
      obtain ⟨bt, hb⟩ := nds_pth hf 17 0 _ x (Nat.zero_le _) hx
      obtain ⟨m, h1, h2⟩ := mask_of bt (nif σ i (sz σ i))
      refine ⟨m, h1, ?_⟩
      have h64 : m < 64 := Nat.lt_of_lt_of_le h1 (Nat.le_trans (Nat.pow_le_pow_right (by omega) h6) (by decide))
      rw [(p_local (b2 := bt) hf 17 0 _ (Nat.zero_le _) (fun k _ hk => by rw [mBt_test h64 (by omega), h2 k hk])).1]
      exact hb
    · rintro ⟨m, _, hx⟩
      exact pth_sub hf 17 0 _ x hx
  · simp only [if_neg h]
    constructor
    · intro hx; cases hx
    · rintro ⟨m, _, hx⟩; cases hx
theorem model_notes {σ : Sg} {i a b : Nat} {sp me : Int32} {gc : Nat → Int32} {K0 : kl_K} (hR : RlOk σ) (hi : i < 4) (hf : FnOk σ i) (ha : a < 12) (hb : b < 12) : PM σ i sp a b (fun y => y ∈ allN σ i) (mqOf (m_ex σ i sp a b gc me K0)) := by
  have hok := allN_ok (σ := σ) (i := i) hR hi hf ha hb
  have h := r_it_inv (m_walk σ i sp a b) (fun j u => j ≤ 2 ^ nif σ i (sz σ i) → PM σ i sp a b (fun y => ∃ m, m < j ∧ y ∈ mskN σ i m) (mqOf u)) (2 ^ nif σ i (sz σ i)) 0 (me, -1, 0, K0, m_c0 17 0 gc, 0, nI 0) (fun _ => by
      rw [show (fun y : Nd => ∃ m, m < 0 ∧ y ∈ mskN σ i m) = (fun _ => False) by funext y; exact propext ⟨fun ⟨m, h, _⟩ => by omega, fun h => h.elim⟩]
      exact ⟨⟨fun _ h => h.elim, Or.inl ⟨rfl, fun _ h => h.elim⟩⟩, fun p hp => Or.inr ⟨m_c0_at hp, fun _ h => h.elim⟩, fun _ h => h.elim, Or.inl ⟨rfl, fun _ h => h.elim⟩⟩) (fun j u _ hj hI hle => by
      rw [(m_walk_eff hf).1]
      have h2 := (hI (by omega)).fold (l := mskN σ i j) (fun x hx => hok x ((masks_cover hf x).mpr ⟨j, by omega, hx⟩))
      rw [show (fun y : Nd => ∃ m, m < j + 1 ∧ y ∈ mskN σ i m) = (fun y => (∃ m, m < j ∧ y ∈ mskN σ i m) ∨ y ∈ mskN σ i j) by
        funext y
        refine propext ⟨fun ⟨m, h1, h2⟩ => ?_, fun h => ?_⟩
        · by_cases e : m = j
          · exact Or.inr (by rw [← e]; exact h2)
          · exact Or.inl ⟨m, by omega, h2⟩
        · rcases h with ⟨m, h1, h2⟩ | h
          · exact ⟨m, by omega, h2⟩
          · exact ⟨j, by omega, h⟩]
      exact h2)
  have h9 := h (by omega)
  rw [show (fun y : Nd => ∃ m, m < 0 + 2 ^ nif σ i (sz σ i) ∧ y ∈ mskN σ i m) = (fun y => y ∈ allN σ i) by
    funext y
    rw [Nat.zero_add]
    exact propext (masks_cover hf y).symm] at h9
  exact h9
theorem model_ends {σ : Sg} {i a b : Nat} {sp me : Int32} {gc : Nat → Int32} {K0 : kl_K} (hf : FnOk σ i) : (m_ex σ i sp a b gc me K0).en = if (th_K σ i).1 = true then lvs σ i 17 0 (th_K σ i) else 0 := by
  have h6 := hf.2.2.2
  have h := r_it_inv (m_walk σ i sp a b) (fun j u => u.en = sumN (fun m => if (th_K σ i).1 = true ∧ pEnds σ i (mBt (nI m)) 17 0 (th_K σ i) = true ∧ nI m &&& (meF (pIf σ i (mBt (nI m)) 17 0 (th_K σ i)) (nI 0) ^^^ -1) = 0 then 1 else 0) j) (2 ^ nif σ i (sz σ i)) 0 (me, -1, 0, K0, m_c0 17 0 gc, 0, nI 0) rfl (fun j u _ _ hI => by
    rw [(m_walk_eff hf).2, hI]
    rfl)
  rw [Nat.zero_add] at h
  show (r_it (m_walk σ i sp a b) _ 0 _).en = _
  rw [h]
  by_cases hp : (th_K σ i).1 = true
  · rw [if_pos hp]
    have hl := leaves hf 17 0 (th_K σ i) (Nat.zero_le _) (nif σ i (sz σ i)) 0 (fun _ => false) (by omega) (Nat.zero_le _)
    rw [← hl, ← sum_mask _ _ 0 _ (fun _ _ => rfl)]
    refine sumN_congr _ (fun m hm => ?_)
    have h64 : m < 64 := Nat.lt_of_lt_of_le hm (Nat.le_trans (Nat.pow_le_pow_right (by omega) h6) (by decide))
    have hbt : (fun k => if k < 0 then (fun _ => false) k else m.testBit (k - 0)) = (fun k => m.testBit k) := by
      funext k
      rw [if_neg (by omega), Nat.sub_zero]
    rw [hbt]
    have hloc := p_local (b1 := mBt (nI m)) (b2 := fun k => m.testBit k) hf 17 0 (th_K σ i) (Nat.zero_le _) (fun k _ hk => mBt_test h64 (by omega))
    rw [hloc.2.1, hloc.2.2]
    have hin := pIf_in (bt := fun k => m.testBit k) hf 17 0 (th_K σ i) (Nat.zero_le _)
    unfold cF
    have hiff : ((th_K σ i).1 = true ∧ pEnds σ i (fun k => m.testBit k) 17 0 (th_K σ i) = true ∧ nI m &&& (meF (pIf σ i (fun k => m.testBit k) 17 0 (th_K σ i)) (nI 0) ^^^ -1) = 0) ↔ (pEnds σ i (fun k => m.testBit k) 17 0 (th_K σ i) && cOk (fun k => m.testBit k) 0 (nif σ i (sz σ i)) (pIf σ i (fun k => m.testBit k) 17 0 (th_K σ i))) = true := by
      rw [Bool.and_eq_true, cOk_iff, meF_sub h64 (fun k hk => by have := (hin k hk).2; omega)]
      constructor
      · rintro ⟨-, h1, h2⟩
        exact ⟨h1, fun k _ hk hb => h2 k (by omega) hb⟩
      · rintro ⟨h1, h2⟩
        refine ⟨hp, h1, fun k hk hb => ?_⟩
        by_cases c : k < nif σ i (sz σ i)
        · exact h2 k (Nat.zero_le _) c hb
        · have := Nat.testBit_lt_two_pow (Nat.lt_of_lt_of_le hm (Nat.pow_le_pow_right (n := 2) (by omega) (show nif σ i (sz σ i) ≤ k by omega)))
          rw [this] at hb
          cases hb
    by_cases c : (pEnds σ i (fun k => m.testBit k) 17 0 (th_K σ i) && cOk (fun k => m.testBit k) 0 (nif σ i (sz σ i)) (pIf σ i (fun k => m.testBit k) 17 0 (th_K σ i))) = true
    · rw [if_pos c, if_pos (hiff.mpr c)]
    · rw [if_neg c, if_neg (fun z => c (hiff.mp z))]
  · rw [if_neg hp]
    have e0 : ∀ n, sumN (fun _ => 0) n = 0 := fun n => by
      induction n with
      | zero => rfl
      | succ n ih => show sumN _ n + 0 = 0; rw [ih]
    rw [sumN_congr (g := fun _ => 0) _ (fun m _ => if_neg (fun z => hp z.1)), e0]
/-- THE TWO WALKS AGREE -/
theorem same_walk {σ : Sg} {i a b ka kc : Nat} {ap sp me : Int32} {wpl : Nat → Int32} {gc : Nat → Int32} {K0 : kl_K} (hR : RlOk σ) (hi : i < 4) (hf : FnOk σ i) (ha : a < 12) (hb : b < 12) (hka : ka < 12) (hkc : kc < 12) :
    (th_run σ i ap a b 64 (th_o σ i) (th_c σ i wpl)).lu = (m_ex σ i sp ka kc gc me K0).le ∧ (th_run σ i ap a b 64 (th_o σ i) (th_c σ i wpl)).en = (m_ex σ i sp ka kc gc me K0).en ∧ (∀ p, p < 17 → (q_cm (th_run σ i ap a b 64 (th_o σ i) (th_c σ i wpl)).pm p = true ∧ (m_ex σ i sp ka kc gc me K0).gc p = nI 1) ∨ (q_cm (th_run σ i ap a b 64 (th_o σ i) (th_c σ i wpl)).pm p = false ∧ (m_ex σ i sp ka kc gc me K0).gc p = nI 0)) := by
  have h1 := class_notes (ap := ap) (wpl := wpl) hR hi hf ha hb
  have h2 := model_notes (sp := sp) (me := me) (gc := gc) (K0 := K0) hR hi hf hka hkc
  refine ⟨h1.1.uniq h2.1, ?_, fun p hp => ?_⟩
  · rw [model_ends hf]
    have := through_tree (ap := ap) (aA := a) (aB := b) (wpl := wpl) hR hi hf
    have h3 : (th_run σ i ap a b 64 (th_o σ i) (th_c σ i wpl)).en = ((if (th_K σ i).1 = true then nds σ i 17 0 (th_K σ i) else []).foldl (nAc σ i ap a b) (-1000000, nI 0, -1, 0)).2.2.2 := by rw [← this]
    rw [h3, en_fold]
    by_cases c : (th_K σ i).1 = true
    · rw [if_pos c, if_pos c, nds_count hf]
      exact Nat.zero_add _
    · rw [if_neg c, if_neg c]
      rfl
  · rcases h2.2.1 p hp with ⟨k1, k2⟩ | ⟨k1, k2⟩
    · exact Or.inl ⟨(h1.2.1 p hp).mpr k2, k1⟩
    · refine Or.inr ⟨?_, k1⟩
      cases e : q_cm (th_run σ i ap a b 64 (th_o σ i) (th_c σ i wpl)).pm p with
      | false => rfl
      | true =>
        obtain ⟨x, hx, hxp⟩ := (h1.2.1 p hp).mp e
        exact absurd hxp (k2 x hx)
theorem same_most {σ : Sg} {i a b pl : Nat} {me : Int32} {wpl : Nat → Int32} {gc : Nat → Int32} {K0 : kl_K} (hR : RlOk σ) (hi : i < 4) (hf : FnOk σ i) (ha : a < 12) (hb : b < 12) (hpl : pl < 17) :
    ((m_ex σ i (nI pl) a b gc me K0).se = nI 0 ∧ q_cm (th_run σ i (nI pl) a b 64 (th_o σ i) (th_c σ i wpl)).pm pl = false) ∨ ((m_ex σ i (nI pl) a b gc me K0).se = nI 1 ∧ q_cm (th_run σ i (nI pl) a b 64 (th_o σ i) (th_c σ i wpl)).pm pl = true ∧ ∃ o, bnd o ∧ (th_run σ i (nI pl) a b 64 (th_o σ i) (th_c σ i wpl)).gr = encI o ∧ (m_ex σ i (nI pl) a b gc me K0).mx = encL o) := by
  have h1 := class_notes (ap := nI pl) (wpl := wpl) hR hi hf ha hb
  have h2 := model_notes (sp := nI pl) (me := me) (gc := gc) (K0 := K0) hR hi hf ha hb
  have hn : ∀ x, x ∈ allN σ i → (nI x.1 = nI pl ↔ x.1 = pl) := fun x hx => nI_eq (by have := (allN_ok hR hi hf ha hb x hx).1; omega) (by omega)
  rcases gr_mx h1.2.2 h2.2.2 with ⟨k1, k2⟩ | ⟨k1, ⟨x, hx, hxp⟩, k3⟩
  · refine Or.inl ⟨k1, ?_⟩
    cases e : q_cm (th_run σ i (nI pl) a b 64 (th_o σ i) (th_c σ i wpl)).pm pl with
    | false => rfl
    | true =>
      obtain ⟨x, hx, hxp⟩ := (h1.2.1 pl hpl).mp e
      exact absurd ((hn x hx).mpr hxp) (k2 x hx)
  · exact Or.inr ⟨k1, (h1.2.1 pl hpl).mpr ⟨x, hx, (hn x hx).mp hxp⟩, k3⟩
