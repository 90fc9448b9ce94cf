/-! The walk's cells with what they hold; what the small methods do to them; the functions stay. -/
abbrev wObj (wk wa wp ws : Nat) (ap : Int32) (aA aB : Nat) (gr pm lu : Int32) (en : Nat) : va_E := .inr (4, [.ref wk, .ref wa, .ref wp, .int (nI ws), .int ap, .int (nI aA), .int (nI aB), .int gr, .int pm, .int lu, .int (nI en)])
def WSt (tys : List (ClassId × FieldType)) (L : List Nat) (f : Nat → va_E) (W wk wkb wa wp : Nat) (wq wqb : Nat → Nat) (ap : Int32) (aA aB ws : Nat) (gr pm lu : Int32) (en : Nat) (K : kl_K) (wpl : Nat → Int32) (SK : Nat → kl_K) : Prop :=
  WkAt tys L f W wk wkb wa wp wq wqb ∧ f W = wObj wk wa wp ws ap aA aB gr pm lu en ∧ KnAt tys f wk wkb K ∧ mm_I tys f wp 6 wpl ∧ ∀ j, j < ws → j < 6 → KnAt tys f (wq j) (wqb j) (SK j)
/-- nothing but the walk's own cells has changed -/
def Fr (W wk wkb wp : Nat) (wq wqb : Nat → Nat) (f f' : Nat → va_E) : Prop := ∀ z, ¬ WReg W wk wkb wp wq wqb z → f' z = f z
theorem Fr.trans {W wk wkb wp : Nat} {wq wqb : Nat → Nat} {f g h : Nat → va_E} (h1 : Fr W wk wkb wp wq wqb f g) (h2 : Fr W wk wkb wp wq wqb g h) : Fr W wk wkb wp wq wqb f h := fun z hz => by rw [h2 z hz, h1 z hz]
theorem Fr.refl {W wk wkb wp : Nat} {wq wqb : Nat → Nat} {f : Nat → va_E} : Fr W wk wkb wp wq wqb f f := fun _ _ => rfl
section WS
variable {tys : List (ClassId × FieldType)} {L : List Nat} {f f' : Nat → va_E} {W wk wkb wa wp : Nat} {wq wqb : Nat → Nat} {ap : Int32} {aA aB ws : Nat} {gr pm lu : Int32} {en : Nat} {K : kl_K} {wpl : Nat → Int32} {SK : Nat → kl_K}
theorem WSt.upd3 (h : WSt tys L f W wk wkb wa wp wq wqb ap aA aB ws gr pm lu en K wpl SK) {ws' : Nat} {gr' pm' lu' : Int32} {en' : Nat} {K' : kl_K} (hws : ws' ≤ ws) (h1 : f' W = wObj wk wa wp ws' ap aA aB gr' pm' lu' en') (h2 : KnAt tys f' wk wkb K') (hs : Same3 f f' W wk wkb) : WSt tys L f' W wk wkb wa wp wq wqb ap aA aB ws' gr' pm' lu' en' K' wpl SK ∧ Fr W wk wkb wp wq wqb f f' := by
  obtain ⟨⟨a1, a2, a3, a4, a5, a6⟩, b1, b2, b3, b4⟩ := h
  obtain ⟨k1, g, k2, -⟩ := b2
  have q1 : ∀ j, j < 6 → f' (wq j) = f (wq j) := fun j hj => by
    obtain ⟨⟨pv, c1⟩, g2, c2⟩ := a6 j hj
    exact hs _ (mm_OO c1 b1 (by decide)) (Ne.symm (a4 j hj).1) (mm_IO k2 c1)
  have q2 : ∀ j, j < 6 → f' (wqb j) = f (wqb j) := fun j hj => by
    obtain ⟨⟨pv, c1⟩, g2, c2⟩ := a6 j hj
    exact hs _ (Ne.symm (mm_IO c2 b1)) (Ne.symm (mm_IO c2 k1)) (Ne.symm (a4 j hj).2)
  refine ⟨⟨⟨a1, a2.eq (hs _ (Ne.symm (mm_QO a2 b1)) (Ne.symm (mm_QO a2 k1)) (Ne.symm (mm_IQ k2 a2))), a3, a4, a5, fun j hj => (a6 j hj).eq (q1 j hj) (q2 j hj)⟩, h1, h2, b3.eq (hs _ (Ne.symm (mm_IO b3 b1)) (Ne.symm (mm_IO b3 k1)) (mm_II b3 k2 (by decide))), fun j hj h6 => (b4 j (by omega) h6).eq (q1 j h6) (q2 j h6)⟩, fun z hz => hs z (fun e => hz (Or.inl e)) (fun e => hz (Or.inr (Or.inl e))) (fun e => hz (Or.inr (Or.inr (Or.inl e))))⟩
theorem WSt.updK (h : WSt tys L f W wk wkb wa wp wq wqb ap aA aB ws gr pm lu en K wpl SK) {K' : kl_K} (h2 : KnAt tys f' wk wkb K') (hs : Same2 f f' wk wkb) : WSt tys L f' W wk wkb wa wp wq wqb ap aA aB ws gr pm lu en K' wpl SK ∧ Fr W wk wkb wp wq wqb f f' := by
  have hk := h.2.2.1
  obtain ⟨k1, g, k2, -⟩ := id hk
  exact h.upd3 (Nat.le_refl _) (by rw [hs _ (mm_OO h.2.1 k1 (by decide)) (mm_IO k2 h.2.1)]; exact h.2.1) h2 (fun z _ z2 z3 => hs z z2 z3)
theorem WSt.updW (h : WSt tys L f W wk wkb wa wp wq wqb ap aA aB ws gr pm lu en K wpl SK) {gr' pm' lu' : Int32} {en' : Nat} (h1 : f' W = wObj wk wa wp ws ap aA aB gr' pm' lu' en') (hs : Same1 f f' W) : WSt tys L f' W wk wkb wa wp wq wqb ap aA aB ws gr' pm' lu' en' K wpl SK ∧ Fr W wk wkb wp wq wqb f f' := by
  obtain ⟨k1, g, k2, k3⟩ := id h.2.2.1
  exact h.upd3 (Nat.le_refl _) h1 ⟨by rw [hs _ (mm_OO k1 h.2.1 (by decide))]; exact k1, g, k2.eq (hs _ (Ne.symm (mm_IO k2 h.2.1))), k3⟩ (fun z z1 _ _ => hs z z1)
/-- an IF's other side was left -/
theorem WSt.push (h : WSt tys L f W wk wkb wa wp wq wqb ap aA aB ws gr pm lu en K wpl SK) (hws : ws < 6) {Ko : kl_K} {tg : Int32} (h1 : f' W = wObj wk wa wp (if Ko.1 = true then ws + 1 else ws) ap aA aB gr pm lu en) (h2 : mm_I tys f' wp 6 (if Ko.1 = true then upd wpl ws tg else wpl)) (h3 : KnAt tys f' (wq ws) (wqb ws) Ko) (h4 : KnAt tys f' wk wkb K) (hs : ∀ z, z ≠ W → z ≠ wp → z ≠ wq ws → z ≠ wqb ws → f' z = f z) :
    WSt tys L f' W wk wkb wa wp wq wqb ap aA aB (if Ko.1 = true then ws + 1 else ws) gr pm lu en K (if Ko.1 = true then upd wpl ws tg else wpl) (fun j => if j = ws then Ko else SK j) ∧ Fr W wk wkb wp wq wqb f f' := by
  obtain ⟨⟨a1, a2, a3, a4, a5, a6⟩, b1, b2, b3, b4⟩ := h
  obtain ⟨⟨pv, c1⟩, g2, c2⟩ := a6 ws hws
  have q1 : ∀ j, j < 6 → j ≠ ws → f' (wq j) = f (wq j) ∧ f' (wqb j) = f (wqb j) := fun j hj e => by
    obtain ⟨⟨pv, d1⟩, g3, d2⟩ := a6 j hj
    exact ⟨hs _ (mm_OO d1 b1 (by decide)) (mm_IO b3 d1) (a5 j ws hj hws e).1 (mm_IO c2 d1), hs _ (Ne.symm (mm_IO d2 b1)) (mm_II d2 b3 (by decide)) (Ne.symm (mm_IO d2 c1)) (a5 j ws hj hws e).2⟩
  refine ⟨⟨⟨a1, a2.eq (hs _ (Ne.symm (mm_QO a2 b1)) (Ne.symm (mm_IQ b3 a2)) (Ne.symm (mm_QO a2 c1)) (Ne.symm (mm_IQ c2 a2))), a3, a4, a5, fun j hj => ?_⟩, h1, h4, h2, fun j hj h6 => ?_⟩, fun z hz => hs z (fun e => hz (Or.inl e)) (fun e => hz (Or.inr (Or.inr (Or.inr (Or.inl e))))) (fun e => hz (Or.inr (Or.inr (Or.inr (Or.inr ⟨ws, hws, Or.inl e⟩))))) (fun e => hz (Or.inr (Or.inr (Or.inr (Or.inr ⟨ws, hws, Or.inr e⟩)))))⟩
  · by_cases e : j = ws
    · rw [e]; exact h3.any
    · exact (a6 j hj).eq (q1 j hj e).1 (q1 j hj e).2
  · by_cases e : j = ws
    · show KnAt tys f' (wq j) (wqb j) (if j = ws then Ko else SK j)
      rw [if_pos e, e]; exact h3
    · show KnAt tys f' (wq j) (wqb j) (if j = ws then Ko else SK j)
      rw [if_neg e]
      have hj2 : j < ws := by
        by_cases c : Ko.1 = true
        · rw [if_pos c] at hj; omega
        · rw [if_neg c] at hj; exact hj
      exact (b4 j hj2 h6).eq (q1 j h6 e).1 (q1 j h6 e).2
variable {fa : Nat} {fn dr pr sA oA ra rb rk : Nat → Nat} {sq : Nat → Nat → Nat} {oi ni : Nat → Nat} {gv : Nat → Int32} {go : Nat → Nat → Int32} {σ : Sg}
/-- a cell of another kind isn't the walk's -/
theorem WSt.notO (h : WSt tys L f W wk wkb wa wp wq wqb ap aA aB ws gr pm lu en K wpl SK) {z ci : Nat} {fs : List Value} (hz : f z = .inr (ci, fs)) (h1 : ci ≠ 4) (h2 : ci ≠ 1) : ¬ WReg W wk wkb wp wq wqb z := by
  obtain ⟨⟨a1, a2, a3, a4, a5, a6⟩, b1, ⟨k1, g, k2, -⟩, b3, -⟩ := h
  rintro (e | e | e | e | ⟨j, hj, e | e⟩)
  · exact mm_OO hz b1 h1 e
  · exact mm_OO hz k1 h2 e
  · exact mm_IO k2 hz e
  · exact mm_IO b3 hz e
  · obtain ⟨⟨pv, c1⟩, -⟩ := a6 j hj
    exact mm_OO hz c1 h2 e
  · obtain ⟨-, g2, c2⟩ := a6 j hj
    exact mm_IO c2 hz e
theorem WSt.notQ (h : WSt tys L f W wk wkb wa wp wq wqb ap aA aB ws gr pm lu en K wpl SK) {z n : Nat} {C : String} {g : Nat → Option Nat} (hz : mm_Q tys C f z n g) : ¬ WReg W wk wkb wp wq wqb z := by
  obtain ⟨⟨a1, a2, a3, a4, a5, a6⟩, b1, ⟨k1, g, k2, -⟩, b3, -⟩ := h
  rintro (e | e | e | e | ⟨j, hj, e | e⟩)
  · exact mm_QO hz b1 e.symm
  · exact mm_QO hz k1 e.symm
  · exact mm_IQ k2 hz e.symm
  · exact mm_IQ b3 hz e.symm
  · obtain ⟨⟨pv, c1⟩, -⟩ := a6 j hj
    exact mm_QO hz c1 e.symm
  · obtain ⟨-, g2, c2⟩ := a6 j hj
    exact mm_IQ c2 hz e.symm
theorem WSt.notI (h : WSt tys L f W wk wkb wa wp wq wqb ap aA aB ws gr pm lu en K wpl SK) {z n : Nat} {g : Nat → Int32} (hz : mm_I tys f z n g) (h1 : n ≠ 144) (h2 : z ≠ wp) : ¬ WReg W wk wkb wp wq wqb z := by
  obtain ⟨⟨a1, a2, a3, a4, a5, a6⟩, b1, ⟨k1, g, k2, -⟩, b3, -⟩ := h
  rintro (e | e | e | e | ⟨j, hj, e | e⟩)
  · exact mm_IO hz b1 e.symm
  · exact mm_IO hz k1 e.symm
  · exact mm_II hz k2 h1 e
  · exact h2 e
  · obtain ⟨⟨pv, c1⟩, -⟩ := a6 j hj
    exact mm_IO hz c1 e.symm
  · obtain ⟨-, g2, c2⟩ := a6 j hj
    exact mm_II hz c2 h1 e
theorem WSt.notR (h : WSt tys L f W wk wkb wa wp wq wqb ap aA aB ws gr pm lu en K wpl SK) (hs : Fr W wk wkb wp wq wqb f f') {r a b k N : Nat} {ga gb gk : Nat → Int32} {xa xb : Nat → Nat} (hR : RelAt tys L f r a b k N ga gb gk xa xb) : RelAt tys L f' r a b k N ga gb gk xa xb := by
  obtain ⟨h1, h2, h3, h4, h5, h6⟩ := id hR
  have nw : ∀ {z : Nat} {g : Nat → Int32}, mm_I tys f z 4 g → z ≠ wp := fun hz => mm_II hz h.2.2.2.1 (by decide)
  exact hR.eq (hs _ (h.notO h2 (by decide) (by decide))) (hs _ (h.notI h3 (by decide) (nw h3))) (hs _ (h.notI h4 (by decide) (nw h4))) (hs _ (h.notI h5 (by decide) (nw h5)))
theorem FnsAt.fr (hF : FnsAt tys L f fa fn dr pr sA oA ra rb rk sq oi ni gv go σ) (h : WSt tys L f W wk wkb wa wp wq wqb ap aA aB ws gr pm lu en K wpl SK) (hs : Fr W wk wkb wp wq wqb f f') (ho : ∀ i, i < 4 → oA i ≠ wp) : FnsAt tys L f' fa fn dr pr sA oA ra rb rk sq oi ni gv go σ := by
  obtain ⟨⟨a1, a2⟩, a3⟩ := hF
  refine ⟨⟨a1, a2.eq (hs _ (h.notQ a2))⟩, fun i hi => ?_⟩
  obtain ⟨⟨b1, b2⟩, b3, b4, ⟨b5, b6⟩, b7, b8, b9, b10⟩ := a3 i hi
  exact ⟨⟨b1, by rw [hs _ (h.notO b2 (by decide) (by decide))]; exact b2⟩, h.notR hs b3, h.notR hs b4, ⟨b5, b6.eq (hs _ (h.notQ b6))⟩, b7, fun j hj => by rw [hs _ (h.notO (b8 j hj) (by decide) (by decide))]; exact b8 j hj, b9, b10.eq (hs _ (h.notI b10 (by decide) (ho i hi)))⟩
end WS
