/-! A statement more, in words. -/
def s_sl (σ : Sg) (i t : Nat) (kd : Int32) : Nat → Int32 := if kd = nI 3 then upd (upd (sl σ) (16 * i + sz σ i) (-1)) (16 * i + t) (nI (sz σ i + 1)) else if kd = nI 4 then upd (upd (sl σ) (16 * i + sz σ i) (-1)) (16 * i + t) (nI (sz σ i)) else upd (sl σ) (16 * i + sz σ i) (-1)
def s_stmt (σ : Sg) (i t : Nat) (kd a b c k : Int32) : Sg := (rn σ, rA σ, rB σ, rK σ, va_up (sz σ) i (sz σ i + 1), upd (sk σ) (16 * i + sz σ i) kd, upd (sa σ) (16 * i + sz σ i) a, upd (sb σ) (16 * i + sz σ i) b, upd (sc σ) (16 * i + sz σ i) c, upd (sK σ) (16 * i + sz σ i) k, s_sl σ i t kd)
theorem upd_row {g : Nat → Int32} {i n : Nat} {v : Int32} : (fun p => upd g (16 * i + n) v (16 * i + p)) = upd (fun p => g (16 * i + p)) n v := by
  funext p
  by_cases e : p = n
  · rw [e, pk_us, pk_us]
  · rw [pk_un e, pk_un (by omega)]
theorem upd_other {g : Nat → Int32} {i j n p : Nat} {v : Int32} (hn : n < 16) (hp : p < 16) (e : j ≠ i) : upd g (16 * i + n) v (16 * j + p) = g (16 * j + p) := pk_un (by omega)
theorem s_sl_row {σ : Sg} {i t : Nat} {kd : Int32} : (fun p => s_sl σ i t kd (16 * i + p)) = a_sl (fun p => sl σ (16 * i + p)) t (sz σ i) kd := by
  unfold s_sl a_sl
  by_cases h3 : kd = nI 3
  · rw [if_pos h3, if_pos h3, upd_row, upd_row]
  · rw [if_neg h3, if_neg h3]
    by_cases h4 : kd = nI 4
    · rw [if_pos h4, if_pos h4, upd_row, upd_row]
    · rw [if_neg h4, if_neg h4, upd_row]
theorem s_sl_other {σ : Sg} {i j t p : Nat} {kd : Int32} (hz : sz σ i < 16) (ht : kd = nI 3 ∨ kd = nI 4 → t < 16) (hp : p < 16) (e : j ≠ i) : s_sl σ i t kd (16 * j + p) = sl σ (16 * j + p) := by
  unfold s_sl
  by_cases h3 : kd = nI 3
  · rw [if_pos h3, upd_other (ht (Or.inl h3)) hp e, upd_other hz hp e]
  · rw [if_neg h3]
    by_cases h4 : kd = nI 4
    · rw [if_pos h4, upd_other (ht (Or.inr h4)) hp e, upd_other hz hp e]
    · rw [if_neg h4, upd_other hz hp e]
section SM
variable {tys : List (ClassId × FieldType)} {L : List Nat} {f f' : Nat → va_E} {fa : Nat} {fn dr pr sA oA ra rb rk : Nat → Nat} {sq : Nat → Nat → Nat} {oi ni : Nat → Nat} {gv : Nat → Int32} {go : Nat → Nat → Int32} {σ : Sg}
theorem FnsAt.stmt (hF : FnsAt tys L f fa fn dr pr sA oA ra rb rk sq oi ni gv go σ) (hD : FnsD fn dr pr sA oA ra rb rk sq) {i t : Nat} (hi : i < 4) (hz : sz σ i < 16) {kd a b c k : Int32} (ht : kd = nI 3 ∨ kd = nI 4 → t < 16) {o' n' : Nat} {g' : Int32} {go' : Nat → Int32} (h1 : f' (fn i) = .inr (0, [.ref (dr i), .ref (pr i), .ref (sA i), .ref (oA i), .int (nI (sz σ i + 1)), .int (nI o'), .int (nI n'), .int g'])) (h2 : mm_I tys f' (oA i) 6 go') (h3 : StAll f' (sq i) (upd (fun p => sk σ (16 * i + p)) (sz σ i) kd) (upd (fun p => sa σ (16 * i + p)) (sz σ i) a) (upd (fun p => sb σ (16 * i + p)) (sz σ i) b) (upd (fun p => sc σ (16 * i + p)) (sz σ i) c) (upd (fun p => sK σ (16 * i + p)) (sz σ i) k) (a_sl (fun p => sl σ (16 * i + p)) t (sz σ i) kd)) (hs : ∀ z, z ≠ fn i → z ≠ oA i → (∀ j, j < 16 → z ≠ sq i j) → f' z = f z) :
    FnsAt tys L f' fa fn dr pr sA oA ra rb rk sq (va_up oi i o') (va_up ni i n') (va_up gv i g') (va_up go i go') (s_stmt σ i t kd a b c k) := by
  obtain ⟨⟨a1, a2⟩, a3⟩ := hF
  obtain ⟨⟨d1, d2⟩, -, -, -, -, d8, -, d10⟩ := a3 i hi
  have kO : ∀ {z ci : Nat} {fs : List Value}, f z = .inr (ci, fs) → ci ≠ 0 → ci ≠ 3 → f' z = f z := fun hz0 n0 n3 => hs _ (mm_OO hz0 d2 n0) (mm_IO d10 hz0) (fun j hj => mm_OO hz0 (d8 j hj) n3)
  have kQ : ∀ {z n : Nat} {C : String} {g : Nat → Option Nat}, mm_Q tys C f z n g → f' z = f z := fun hz0 => hs _ (Ne.symm (mm_QO hz0 d2)) (Ne.symm (mm_IQ d10 hz0)) (fun j hj => Ne.symm (mm_QO hz0 (d8 j hj)))
  have kI : ∀ {z n : Nat} {g : Nat → Int32}, mm_I tys f z n g → z ≠ oA i → f' z = f z := fun hz0 hne => hs _ (Ne.symm (mm_IO hz0 d2)) hne (fun j hj => Ne.symm (mm_IO hz0 (d8 j hj)))
  have kR : ∀ {r a b k N : Nat} {ga gb gk : Nat → Int32} {xa xb : Nat → Nat}, RelAt tys L f r a b k N ga gb gk xa xb → RelAt tys L f' r a b k N ga gb gk xa xb := fun h => h.eq (kO h.2.1 (by decide) (by decide)) (kI h.2.2.1 (mm_II h.2.2.1 d10 (by decide))) (kI h.2.2.2.1 (mm_II h.2.2.2.1 d10 (by decide))) (kI h.2.2.2.2.1 (mm_II h.2.2.2.2.1 d10 (by decide)))
  refine ⟨⟨a1, a2.eq (kQ a2)⟩, fun j hj => ?_⟩
  obtain ⟨⟨b1, b2⟩, b3, b4, ⟨b5, b6⟩, b7, b8, b9, b10⟩ := a3 j hj
  by_cases e : j = i
  · subst e
    have e1 : sz (s_stmt σ j t kd a b c k) j = sz σ j + 1 := va_up_self _ _ _
    refine ⟨⟨b1, ?_⟩, kR b3, kR b4, ⟨b5, b6.eq (kQ b6)⟩, b7, ?_, b9, ?_⟩
    · rw [e1, va_up_self, va_up_self, va_up_self]; exact h1
    · show StAll f' (sq j) (fun p => upd (sk σ) (16 * j + sz σ j) kd (16 * j + p)) (fun p => upd (sa σ) (16 * j + sz σ j) a (16 * j + p)) (fun p => upd (sb σ) (16 * j + sz σ j) b (16 * j + p)) (fun p => upd (sc σ) (16 * j + sz σ j) c (16 * j + p)) (fun p => upd (sK σ) (16 * j + sz σ j) k (16 * j + p)) (fun p => s_sl σ j t kd (16 * j + p))
      rw [upd_row, upd_row, upd_row, upd_row, upd_row, s_sl_row]
      exact h3
    · rw [va_up_self]; exact h2
  · have e1 : sz (s_stmt σ i t kd a b c k) j = sz σ j := va_up_ne _ _ e
    obtain ⟨n1, -, -, n4, -⟩ := hD.1 j i hj hi e
    refine ⟨⟨b1, ?_⟩, kR b3, kR b4, ⟨b5, b6.eq (kQ b6)⟩, b7, fun p hp => ?_, b9, ?_⟩
    · rw [e1, va_up_ne _ _ e, va_up_ne _ _ e, va_up_ne _ _ e, hs _ n1 (mm_IO d10 b2) (fun q hq => mm_OO b2 (d8 q hq) (by decide))]; exact b2
    · show f' (sq j p) = .inr (3, [.int (upd (sk σ) (16 * i + sz σ i) kd (16 * j + p)), .int (upd (sa σ) (16 * i + sz σ i) a (16 * j + p)), .int (upd (sb σ) (16 * i + sz σ i) b (16 * j + p)), .int (upd (sc σ) (16 * i + sz σ i) c (16 * j + p)), .int (upd (sK σ) (16 * i + sz σ i) k (16 * j + p)), .int (s_sl σ i t kd (16 * j + p))])
      rw [upd_other hz hp e, upd_other hz hp e, upd_other hz hp e, upd_other hz hp e, upd_other hz hp e, s_sl_other hz ht hp e, hs _ (mm_OO (b8 p hp) d2 (by decide)) (mm_IO d10 (b8 p hp)) (fun q hq h9 => e (hD.2.2.2.2 j i p q hj hi hp hq h9).1)]
      exact b8 p hp
    · rw [va_up_ne _ _ e]; exact b10.eq (kI b10 n4)
end SM
