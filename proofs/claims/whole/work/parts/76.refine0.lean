/-! A relation more, in words. -/
def s_refine (σ : Sg) (r : Nat) (a b k : Int32) : Sg := (va_up (rn σ) r (rn σ r + 1), va_up (rA σ) r (upd (rA σ r) (rn σ r) a), va_up (rB σ) r (upd (rB σ r) (rn σ r) b), va_up (rK σ) r (upd (rK σ r) (rn σ r) k), sz σ, sk σ, sa σ, sb σ, sc σ, sK σ, sl σ)
section RF
variable {tys : List (ClassId × FieldType)} {L : List Nat} {f f' : Nat → va_E} {fa : Nat} {fn dr pr sA oA ra rb rk : Nat → Nat} {sq : Nat → Nat → Nat} {oi ni : Nat → Nat} {gv : Nat → Int32} {go : Nat → Nat → Int32} {σ : Sg}
abbrev RelS (tys : List (ClassId × FieldType)) (L : List Nat) (f : Nat → va_E) (ro : Nat) (ra rb rk : Nat → Nat) (r : Nat) (σ : Sg) : Prop := RelAt tys L f ro (ra r) (rb r) (rk r) (rn σ r) (fun j => rA σ r j) (fun j => rB σ r j) (fun j => rK σ r j) (fun j => nt (rA σ r j)) (fun j => nt (rB σ r j))
theorem RelS.app {ro r : Nat} {a b k : Int32} (h : RelS tys L f ro ra rb rk r σ) (hN : rn σ r < 4) (ha : a = nI (nt a) ∧ nt a < 4) (hb : b = nI (nt b) ∧ nt b < 4) (hk : -1001 ≤ k.toInt ∧ k.toInt ≤ 1001) (h1 : f' ro = .inr (2, [.ref (ra r), .ref (rb r), .ref (rk r), .int (nI (rn σ r + 1))])) (h2 : mm_I tys f' (ra r) 4 (upd (rA σ r) (rn σ r) a)) (h3 : mm_I tys f' (rb r) 4 (upd (rB σ r) (rn σ r) b)) (h4 : mm_I tys f' (rk r) 4 (upd (rK σ r) (rn σ r) k)) : RelS tys L f' ro ra rb rk r (s_refine σ r a b k) := by
  obtain ⟨g1, g2, g3, g4, g5, g6, g7, g8, g9⟩ := h
  have e1 : rn (s_refine σ r a b k) r = rn σ r + 1 := va_up_self _ _ _
  have e2 : rA (s_refine σ r a b k) r = upd (rA σ r) (rn σ r) a := va_up_self _ _ _
  have e3 : rB (s_refine σ r a b k) r = upd (rB σ r) (rn σ r) b := va_up_self _ _ _
  have e4 : rK (s_refine σ r a b k) r = upd (rK σ r) (rn σ r) k := va_up_self _ _ _
  unfold RelS
  rw [e1, e2, e3, e4]
  refine ⟨g1, h1, h2, h3, h4, by omega, fun j hj => ?_, fun j hj => ?_, fun j hj => ?_⟩
  · dsimp only
    by_cases e : j = rn σ r
    · rw [e, pk_us]; exact ha
    · rw [pk_un e]; exact g7 j (by omega)
  · dsimp only
    by_cases e : j = rn σ r
    · rw [e, pk_us]; exact hb
    · rw [pk_un e]; exact g8 j (by omega)
  · dsimp only
    by_cases e : j = rn σ r
    · rw [e, pk_us]; exact hk
    · rw [pk_un e]; exact g9 j (by omega)
theorem RelS.keep {ro ro' r q : Nat} {a b k : Int32} (hD : FnsD fn dr pr sA oA ra rb rk sq) (hr : r < 8) (hq : q < 8) (hrq : q ≠ r) (h : RelS tys L f ro ra rb rk r σ) (h' : RelS tys L f ro' ra rb rk q σ) (hne : ro' ≠ ro) (hs : ∀ z, z ≠ ro → z ≠ ra r → z ≠ rb r → z ≠ rk r → f' z = f z) : RelS tys L f' ro' ra rb rk q (s_refine σ r a b k) := by
  have e1 : rn (s_refine σ r a b k) q = rn σ q := va_up_ne _ _ hrq
  have e2 : rA (s_refine σ r a b k) q = rA σ q := va_up_ne _ _ hrq
  have e3 : rB (s_refine σ r a b k) q = rB σ q := va_up_ne _ _ hrq
  have e4 : rK (s_refine σ r a b k) q = rK σ q := va_up_ne _ _ hrq
  unfold RelS
  rw [e1, e2, e3, e4]
  obtain ⟨n1, n2, n3⟩ := hD.2.2.1 q r hq hr hrq
  obtain ⟨m1, m2, m3⟩ := hD.2.2.2.1 q r hq hr
  obtain ⟨p1, p2, p3⟩ := hD.2.2.2.1 r q hr hq
  obtain ⟨-, g2, g3, g4, g5, -⟩ := h
  obtain ⟨-, k2, k3, k4, k5, -⟩ := id h'
  exact RelAt.eq h' (hs _ hne (mm_IO g3 k2) (mm_IO g4 k2) (mm_IO g5 k2)) (hs _ (Ne.symm (mm_IO k3 g2)) n1 m1 m2) (hs _ (Ne.symm (mm_IO k4 g2)) (Ne.symm p1) n2 m3) (hs _ (Ne.symm (mm_IO k5 g2)) (Ne.symm p2) (Ne.symm p3) n3)
theorem FnsAt.refine (hF : FnsAt tys L f fa fn dr pr sA oA ra rb rk sq oi ni gv go σ) (hD : FnsD fn dr pr sA oA ra rb rk sq) {i kd : Nat} (hi : i < 4) (hkd : kd < 2) {a b k : Int32} (hN : rn σ (2 * i + kd) < 4) (ha : a = nI (nt a) ∧ nt a < 4) (hb : b = nI (nt b) ∧ nt b < 4) (hk : -1001 ≤ k.toInt ∧ k.toInt ≤ 1001) {ro : Nat} (hro : ro = if kd = 0 then dr i else pr i) (h1 : f' ro = .inr (2, [.ref (ra (2 * i + kd)), .ref (rb (2 * i + kd)), .ref (rk (2 * i + kd)), .int (nI (rn σ (2 * i + kd) + 1))])) (h2 : mm_I tys f' (ra (2 * i + kd)) 4 (upd (rA σ (2 * i + kd)) (rn σ (2 * i + kd)) a)) (h3 : mm_I tys f' (rb (2 * i + kd)) 4 (upd (rB σ (2 * i + kd)) (rn σ (2 * i + kd)) b)) (h4 : mm_I tys f' (rk (2 * i + kd)) 4 (upd (rK σ (2 * i + kd)) (rn σ (2 * i + kd)) k)) (hs : ∀ z, z ≠ ro → z ≠ ra (2 * i + kd) → z ≠ rb (2 * i + kd) → z ≠ rk (2 * i + kd) → f' z = f z) :
    FnsAt tys L f' fa fn dr pr sA oA ra rb rk sq oi ni gv go (s_refine σ (2 * i + kd) a b k) := by
  obtain ⟨⟨a1, a2⟩, a3⟩ := hF
  have hRow : RelS tys L f ro ra rb rk (2 * i + kd) σ := by
    rcases (show kd = 0 ∨ kd = 1 by omega) with e | e
    · subst e; rw [hro, if_pos rfl]; exact (a3 i hi).2.1
    · subst e; rw [hro, if_neg (by decide)]; exact (a3 i hi).2.2.1
  obtain ⟨-, g2, g3, g4, g5, -⟩ := id hRow
  refine ⟨⟨a1, a2.eq (hs _ (Ne.symm (mm_QO a2 g2)) (Ne.symm (mm_IQ g3 a2)) (Ne.symm (mm_IQ g4 a2)) (Ne.symm (mm_IQ g5 a2)))⟩, fun j hj => ?_⟩
  obtain ⟨⟨b1, b2⟩, b3, b4, ⟨b5, b6⟩, b7, b8, b9, b10⟩ := a3 j hj
  have app := hRow.app hN ha hb hk h1 h2 h3 h4
  refine ⟨⟨b1, ?_⟩, ?_, ?_, ⟨b5, b6.eq (hs _ (Ne.symm (mm_QO b6 g2)) (Ne.symm (mm_IQ g3 b6)) (Ne.symm (mm_IQ g4 b6)) (Ne.symm (mm_IQ g5 b6)))⟩, b7, fun p hp => ?_, b9, b10.eq (hs _ (Ne.symm (mm_IO b10 g2)) (mm_II b10 g3 (by decide)) (mm_II b10 g4 (by decide)) (mm_II b10 g5 (by decide)))⟩
  · rw [hs _ (mm_OO b2 g2 (by decide)) (mm_IO g3 b2) (mm_IO g4 b2) (mm_IO g5 b2)]
    exact b2
  · by_cases e : 2 * j = 2 * i + kd
    · have e0 : kd = 0 := by omega
      have ej : j = i := by omega
      subst e0; subst ej
      rw [hro, if_pos rfl] at app
      exact app
    · refine RelS.keep hD (by omega) (by omega) e hRow b3 ?_ hs
      rw [hro]
      by_cases e0 : kd = 0
      · rw [if_pos e0]; exact (hD.1 j i hj hi (by omega)).2.1
      · rw [if_neg e0]; exact hD.2.1 j i hj hi
  · by_cases e : 2 * j + 1 = 2 * i + kd
    · have e0 : kd = 1 := by omega
      have ej : j = i := by omega
      subst e0; subst ej
      rw [hro, if_neg (by decide)] at app
      exact app
    · refine RelS.keep hD (by omega) (by omega) e hRow b4 ?_ hs
      rw [hro]
      by_cases e0 : kd = 0
      · rw [if_pos e0]; exact Ne.symm (hD.2.1 i j hi hj)
      · rw [if_neg e0]; exact (hD.1 j i hj hi (by omega)).2.2.1
  · rw [hs _ (mm_OO (b8 p hp) g2 (by decide)) (mm_IO g3 (b8 p hp)) (mm_IO g4 (b8 p hp)) (mm_IO g5 (b8 p hp))]
    exact b8 p hp
end RF
