/-! The functions' cells are apart; a function emptied. -/
def FnsD (fn dr pr sA oA ra rb rk : Nat → Nat) (sq : Nat → Nat → Nat) : Prop :=
  (∀ i j, i < 4 → j < 4 → i ≠ j → fn i ≠ fn j ∧ dr i ≠ dr j ∧ pr i ≠ pr j ∧ oA i ≠ oA j ∧ sA i ≠ sA j) ∧ (∀ i j, i < 4 → j < 4 → dr i ≠ pr j) ∧
  (∀ r s, r < 8 → s < 8 → r ≠ s → ra r ≠ ra s ∧ rb r ≠ rb s ∧ rk r ≠ rk s) ∧ (∀ r s, r < 8 → s < 8 → ra r ≠ rb s ∧ ra r ≠ rk s ∧ rb r ≠ rk s) ∧
  (∀ i j a b, i < 4 → j < 4 → a < 16 → b < 16 → sq i a = sq j b → i = j ∧ a = b)
def s_clear (σ : Sg) (i : Nat) : Sg := (fun r => if r = 2 * i ∨ r = 2 * i + 1 then 0 else rn σ r, rA σ, rB σ, rK σ, fun j => if j = i then 0 else sz σ j, sk σ, sa σ, sb σ, sc σ, sK σ, sl σ)
section CL
variable {tys : List (ClassId × FieldType)} {L : List Nat} {f f' : Nat → va_E} {fa : Nat} {fn dr pr sA oA ra rb rk : Nat → Nat} {sq : Nat → Nat → Nat} {oi ni : Nat → Nat} {gv : Nat → Int32} {go : Nat → Nat → Int32} {σ : Sg}
theorem RelAt.keep3 {r a b k N x y z : Nat} {ga gb gk : Nat → Int32} {xa xb : Nat → Nat} (h : RelAt tys L f r a b k N ga gb gk xa xb) {c1 c2 c3 : Nat} {s1 s2 s3 : List Value} (hx : f x = .inr (c1, s1)) (hy : f y = .inr (c2, s2)) (hz : f z = .inr (c3, s3)) (n1 : r ≠ x) (n2 : r ≠ y) (n3 : r ≠ z) (hs : ∀ q, q ≠ x → q ≠ y → q ≠ z → f' q = f q) : RelAt tys L f' r a b k N ga gb gk xa xb := by
  obtain ⟨h1, h2, h3, h4, h5, h6⟩ := id h
  exact h.eq (hs _ n1 n2 n3) (hs _ (Ne.symm (mm_IO h3 hx)) (Ne.symm (mm_IO h3 hy)) (Ne.symm (mm_IO h3 hz))) (hs _ (Ne.symm (mm_IO h4 hx)) (Ne.symm (mm_IO h4 hy)) (Ne.symm (mm_IO h4 hz))) (hs _ (Ne.symm (mm_IO h5 hx)) (Ne.symm (mm_IO h5 hy)) (Ne.symm (mm_IO h5 hz)))
theorem RelAt.none {r a b k N x y z : Nat} {ga gb gk : Nat → Int32} {xa xb : Nat → Nat} (h : RelAt tys L f r a b k N ga gb gk xa xb) {c1 c2 c3 : Nat} {s1 s2 s3 : List Value} (hx : f x = .inr (c1, s1)) (hy : f y = .inr (c2, s2)) (hz : f z = .inr (c3, s3)) (h0 : f' r = .inr (2, [.ref a, .ref b, .ref k, .int (nI 0)])) (hs : ∀ q, q ≠ x → q ≠ y → q ≠ z → f' q = f q) : RelAt tys L f' r a b k 0 ga gb gk xa xb := by
  obtain ⟨h1, h2, h3, h4, h5, h6⟩ := id h
  exact ⟨h1, h0, h3.eq (hs _ (Ne.symm (mm_IO h3 hx)) (Ne.symm (mm_IO h3 hy)) (Ne.symm (mm_IO h3 hz))), h4.eq (hs _ (Ne.symm (mm_IO h4 hx)) (Ne.symm (mm_IO h4 hy)) (Ne.symm (mm_IO h4 hz))), h5.eq (hs _ (Ne.symm (mm_IO h5 hx)) (Ne.symm (mm_IO h5 hy)) (Ne.symm (mm_IO h5 hz))), Nat.zero_le _, fun j hj => absurd hj (Nat.not_lt_zero j), fun j hj => absurd hj (Nat.not_lt_zero j), fun j hj => absurd hj (Nat.not_lt_zero j)⟩
theorem FnsAt.clear (hF : FnsAt tys L f fa fn dr pr sA oA ra rb rk sq oi ni gv go σ) (hD : FnsD fn dr pr sA oA ra rb rk sq) {i : Nat} (hi : i < 4) (h1 : f' (fn i) = .inr (0, [.ref (dr i), .ref (pr i), .ref (sA i), .ref (oA i), .int (nI 0), .int (nI 0), .int (nI 0), .int (nI 0)])) (h2 : f' (dr i) = .inr (2, [.ref (ra (2 * i)), .ref (rb (2 * i)), .ref (rk (2 * i)), .int (nI 0)])) (h3 : f' (pr i) = .inr (2, [.ref (ra (2 * i + 1)), .ref (rb (2 * i + 1)), .ref (rk (2 * i + 1)), .int (nI 0)])) (hs : ∀ z, z ≠ fn i → z ≠ dr i → z ≠ pr i → f' z = f z) :
    FnsAt tys L f' fa fn dr pr sA oA ra rb rk sq (va_up oi i 0) (va_up ni i 0) (va_up gv i (nI 0)) go (s_clear σ i) := by
  obtain ⟨⟨a1, a2⟩, a3⟩ := hF
  obtain ⟨⟨d1, d2⟩, d3, d4, -⟩ := a3 i hi
  refine ⟨⟨a1, a2.eq (hs _ (Ne.symm (mm_QO a2 d2)) (Ne.symm (mm_QO a2 d3.2.1)) (Ne.symm (mm_QO a2 d4.2.1)))⟩, fun j hj => ?_⟩
  obtain ⟨⟨b1, b2⟩, b3, b4, ⟨b5, b6⟩, b7, b8, b9, b10⟩ := a3 j hj
  have q1 := b6.eq (hs _ (Ne.symm (mm_QO b6 d2)) (Ne.symm (mm_QO b6 d3.2.1)) (Ne.symm (mm_QO b6 d4.2.1)))
  have q2 := b10.eq (hs _ (Ne.symm (mm_IO b10 d2)) (Ne.symm (mm_IO b10 d3.2.1)) (Ne.symm (mm_IO b10 d4.2.1)))
  have q3 : StAll f' (sq j) (fun p => sk σ (16 * j + p)) (fun p => sa σ (16 * j + p)) (fun p => sb σ (16 * j + p)) (fun p => sc σ (16 * j + p)) (fun p => sK σ (16 * j + p)) (fun p => sl σ (16 * j + p)) := fun p hp => by
    rw [hs _ (mm_OO (b8 p hp) d2 (by decide)) (mm_OO (b8 p hp) d3.2.1 (by decide)) (mm_OO (b8 p hp) d4.2.1 (by decide))]
    exact b8 p hp
  by_cases e : j = i
  · subst e
    have e1 : sz (s_clear σ j) j = 0 := if_pos rfl
    have e2 : rn (s_clear σ j) (2 * j) = 0 := if_pos (Or.inl rfl)
    have e3 : rn (s_clear σ j) (2 * j + 1) = 0 := if_pos (Or.inr rfl)
    refine ⟨⟨b1, ?_⟩, ?_, ?_, ⟨b5, q1⟩, b7, q3, b9, q2⟩
    · rw [e1, va_up_self, va_up_self, va_up_self]; exact h1
    · rw [e2]; exact b3.none d2 d3.2.1 d4.2.1 h2 hs
    · rw [e3]; exact b4.none d2 d3.2.1 d4.2.1 h3 hs
  · have e1 : sz (s_clear σ i) j = sz σ j := if_neg e
    have e2 : rn (s_clear σ i) (2 * j) = rn σ (2 * j) := if_neg (by omega)
    have e3 : rn (s_clear σ i) (2 * j + 1) = rn σ (2 * j + 1) := if_neg (by omega)
    obtain ⟨n1, n2, n3, -, -⟩ := hD.1 j i hj hi e
    refine ⟨⟨b1, ?_⟩, ?_, ?_, ⟨b5, q1⟩, b7, q3, b9, q2⟩
    · rw [e1, va_up_ne _ _ e, va_up_ne _ _ e, va_up_ne _ _ e, hs _ n1 (mm_OO b2 d3.2.1 (by decide)) (mm_OO b2 d4.2.1 (by decide))]
      exact b2
    · rw [e2]
      exact b3.keep3 d2 d3.2.1 d4.2.1 (mm_OO b3.2.1 d2 (by decide)) n2 (hD.2.1 j i hj hi) hs
    · rw [e3]
      exact b4.keep3 d2 d3.2.1 d4.2.1 (mm_OO b4.2.1 d2 (by decide)) (Ne.symm (hD.2.1 i j hi hj)) n3 hs
end CL
