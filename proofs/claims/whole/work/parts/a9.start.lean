/-! The state at the start. -/
def sg0 : Sg := (fun _ => 0, fun _ _ => 0, fun _ _ => 0, fun _ _ => 0, fun _ => 0, fun _ => 0, fun _ => 0, fun _ => 0, fun _ => 0, fun _ => 0, fun _ => 0)
def two (x y : Nat → Nat) : Nat → Nat := fun r => if r % 2 = 0 then x (r / 2) else y (r / 2)
theorem two_0 {x y : Nat → Nat} {i : Nat} : two x y (2 * i) = x i := by
  unfold two
  rw [if_pos (by omega), show 2 * i / 2 = i by omega]
theorem two_1 {x y : Nat → Nat} {i : Nat} : two x y (2 * i + 1) = y i := by
  unfold two
  rw [if_neg (by omega), show (2 * i + 1) / 2 = i by omega]
theorem tie_0 : Tie sg0 (fun _ _ => 0) (fun _ => 0) (fun _ => 0) (fun _ => nI 0) (fun _ _ => 0) := by
  refine ⟨⟨fun r _ => rfl, fun r j _ _ => ⟨rfl, rfl, rfl⟩, fun x _ => ⟨rfl, rfl, rfl, rfl, rfl⟩, fun i _ => rfl⟩, fun r _ => ⟨Nat.zero_le _, fun j hj => absurd hj (Nat.not_lt_zero j)⟩, fun i _ j hj => absurd hj (Nat.not_lt_zero j), fun i _ => ⟨Nat.zero_le _, fun p hp => absurd hp (Nat.not_lt_zero p), ⟨rfl, rfl⟩, TieR.empty⟩⟩
section ST
variable {t : List (ClassId × FieldType)} {L L1 : List Nat} {f : Nat → va_E} {fn dr pr sA oA a0 b0 k0 a1 b1 k1 : Nat → Nat} {sq : Nat → Nat → Nat} {Lb : Nat → List Nat}
def own (fn dr pr sA oA a0 b0 k0 a1 b1 k1 : Nat → Nat) (sq : Nat → Nat → Nat) (i x : Nat) : Prop := x = fn i ∨ x ∈ FnAd (dr i) (pr i) (sA i) (oA i) (a0 i) (b0 i) (k0 i) (a1 i) (b1 i) (k1 i) ∨ ∃ a, a < 16 ∧ x = sq i a
theorem own_ne (h : FnsNew t L f L1 4 fn dr pr sA oA a0 b0 k0 a1 b1 k1 sq Lb) {i j x y : Nat} (hi : i < 4) (hj : j < 4) (hne : i ≠ j) (hx : own fn dr pr sA oA a0 b0 k0 a1 b1 k1 sq i x) (hy : own fn dr pr sA oA a0 b0 k0 a1 b1 k1 sq j y) : x ≠ y := by
  have key : ∀ {i j x y : Nat}, i < j → j < 4 → own fn dr pr sA oA a0 b0 k0 a1 b1 k1 sq i x → own fn dr pr sA oA a0 b0 k0 a1 b1 k1 sq j y → x ≠ y := by
    intro i j x y hij hj hx hy e
    have h1 := h.2 i j hij hj
    have h2 := h.1 j hj
    have hin : x ∈ Lb j := by
      rcases hx with hx | hx | ⟨a, ha, hx⟩
      · rw [hx]; exact h1.1
      · exact h1.2.1 x hx
      · rw [hx]; exact h1.2.2 a ha
    have hout : y ∉ Lb j := by
      rcases hy with hy | hy | ⟨a, ha, hy⟩
      · rw [hy]; exact h2.1.2
      · exact (h2.2.2.2.2.2.2.2.2.1 y hy).2
      · rw [hy]; exact (h2.2.2.2.2.2.2.2.2.2.1 a ha).2
    exact hout (e ▸ hin)
  rcases Nat.lt_or_ge i j with c | c
  · exact key c hj hx hy
  · exact Ne.symm (key (by omega) hi hy hx)
theorem fns_start (h : FnsNew t L f L1 4 fn dr pr sA oA a0 b0 k0 a1 b1 k1 sq Lb) {fa : Nat} (hfa : fa ∈ L) (hQ : mm_Q t "LiquidChecker$Function" f fa 4 (fun j => some (fn j))) : FnsAt t L f fa fn dr pr sA oA (two a0 a1) (two b0 b1) (two k0 k1) sq (fun _ => 0) (fun _ => 0) (fun _ => nI 0) (fun _ _ => 0) sg0 := by
  refine ⟨⟨hfa, hQ⟩, fun i hi => ?_⟩
  obtain ⟨⟨m0, -⟩, -, c1, ⟨c2, c3⟩, ⟨d1, d2, d3, d4, d5, d6⟩, e1, e3, e4, m1, m2, -⟩ := h.1 i hi
  rw [two_0, two_1, two_0, two_1, two_0, two_1]
  have q : ∀ x ∈ FnAd (dr i) (pr i) (sA i) (oA i) (a0 i) (b0 i) (k0 i) (a1 i) (b1 i) (k1 i), x ∈ L := fun x hx => (m1 x hx).1
  have hm : dr i ∈ L ∧ pr i ∈ L ∧ sA i ∈ L ∧ oA i ∈ L ∧ a0 i ∈ L ∧ b0 i ∈ L ∧ k0 i ∈ L ∧ a1 i ∈ L ∧ b1 i ∈ L ∧ k1 i ∈ L := by
    refine ⟨q _ ?_, q _ ?_, q _ ?_, q _ ?_, q _ ?_, q _ ?_, q _ ?_, q _ ?_, q _ ?_, q _ ?_⟩ <;> simp [FnAd]
  obtain ⟨n1, n2, n3, n4, n5, n6, n7, n8, n9, n10⟩ := hm
  refine ⟨⟨m0, c1⟩, ⟨⟨n1, n5, n6, n7⟩, c2, d1, d2, d3, Nat.zero_le _, fun j hj => absurd hj (Nat.not_lt_zero j), fun j hj => absurd hj (Nat.not_lt_zero j), fun j hj => absurd hj (Nat.not_lt_zero j)⟩, ⟨⟨n2, n8, n9, n10⟩, c3, d4, d5, d6, Nat.zero_le _, fun j hj => absurd hj (Nat.not_lt_zero j), fun j hj => absurd hj (Nat.not_lt_zero j), fun j hj => absurd hj (Nat.not_lt_zero j)⟩, ⟨n3, e1⟩, fun j hj => (m2 j hj).1, fun j hj => e4 j hj, n4, e3⟩
set_option maxHeartbeats 4000000 in
theorem fnsD_start (h : FnsNew t L f L1 4 fn dr pr sA oA a0 b0 k0 a1 b1 k1 sq Lb) : FnsD fn dr pr sA oA (two a0 a1) (two b0 b1) (two k0 k1) sq := by
  have ow : ∀ i x, x ∈ FnAd (dr i) (pr i) (sA i) (oA i) (a0 i) (b0 i) (k0 i) (a1 i) (b1 i) (k1 i) → own fn dr pr sA oA a0 b0 k0 a1 b1 k1 sq i x := fun i x hx => Or.inr (Or.inl hx)
  have oR : ∀ r, own fn dr pr sA oA a0 b0 k0 a1 b1 k1 sq (r / 2) (two a0 a1 r) ∧ own fn dr pr sA oA a0 b0 k0 a1 b1 k1 sq (r / 2) (two b0 b1 r) ∧ own fn dr pr sA oA a0 b0 k0 a1 b1 k1 sq (r / 2) (two k0 k1 r) := fun r => by
    unfold two
    split
    · exact ⟨ow _ _ (by simp [FnAd]), ow _ _ (by simp [FnAd]), ow _ _ (by simp [FnAd])⟩
    · exact ⟨ow _ _ (by simp [FnAd]), ow _ _ (by simp [FnAd]), ow _ _ (by simp [FnAd])⟩
  have nd : ∀ i, i < 4 → (a0 i ≠ b0 i ∧ a0 i ≠ k0 i ∧ a0 i ≠ a1 i ∧ a0 i ≠ b1 i ∧ a0 i ≠ k1 i) ∧ (b0 i ≠ k0 i ∧ b0 i ≠ a1 i ∧ b0 i ≠ b1 i ∧ b0 i ≠ k1 i) ∧ (k0 i ≠ a1 i ∧ k0 i ≠ b1 i ∧ k0 i ≠ k1 i) ∧ (a1 i ≠ b1 i ∧ a1 i ≠ k1 i) ∧ b1 i ≠ k1 i := fun i hi => by
    have := (h.1 i hi).2.2.2.2.2.2.2.2.2.2.2.2
    simp only [List.nodup_cons, List.mem_cons, List.not_mem_nil, or_false, not_or, List.nodup_nil, and_true, not_false_eq_true] at this
    exact this
  refine ⟨fun i j hi hj hne => ⟨own_ne h hi hj hne (Or.inl rfl) (Or.inl rfl), own_ne h hi hj hne (ow _ _ (by simp [FnAd])) (ow _ _ (by simp [FnAd])), own_ne h hi hj hne (ow _ _ (by simp [FnAd])) (ow _ _ (by simp [FnAd])), own_ne h hi hj hne (ow _ _ (by simp [FnAd])) (ow _ _ (by simp [FnAd])), own_ne h hi hj hne (ow _ _ (by simp [FnAd])) (ow _ _ (by simp [FnAd]))⟩, fun i j hi hj => ?_, fun r s hr hs hne => ?_, fun r s hr hs => ?_, fun i j a b hi hj ha hb e => ?_⟩
  · by_cases c : i = j
    · rw [c]; exact (h.1 j hj).2.2.2.2.2.2.2.2.2.2.2.1
    · exact own_ne h hi hj c (ow _ _ (by simp [FnAd])) (ow _ _ (by simp [FnAd]))
  · by_cases c : r / 2 = s / 2
    · obtain ⟨n1, n2, n3, n4, n5⟩ := nd (s / 2) (by omega)
      unfold two
      rw [c]
      rcases Nat.mod_two_eq_zero_or_one r with c1 | c1 <;> rcases Nat.mod_two_eq_zero_or_one s with c2 | c2
      · omega
      · rw [if_pos c1, if_neg (by omega), if_pos c1, if_neg (by omega), if_pos c1, if_neg (by omega)]
        exact ⟨n1.2.2.1, n2.2.2.1, n3.2.2⟩
      · rw [if_neg (by omega), if_pos c2, if_neg (by omega), if_pos c2, if_neg (by omega), if_pos c2]
        exact ⟨Ne.symm n1.2.2.1, Ne.symm n2.2.2.1, Ne.symm n3.2.2⟩
      · omega
    · exact ⟨own_ne h (by omega) (by omega) c (oR r).1 (oR s).1, own_ne h (by omega) (by omega) c (oR r).2.1 (oR s).2.1, own_ne h (by omega) (by omega) c (oR r).2.2 (oR s).2.2⟩
  · by_cases c : r / 2 = s / 2
    · obtain ⟨n1, n2, n3, n4, n5⟩ := nd (s / 2) (by omega)
      unfold two
      rw [c]
      rcases Nat.mod_two_eq_zero_or_one r with c1 | c1 <;> rcases Nat.mod_two_eq_zero_or_one s with c2 | c2
      · rw [if_pos c1, if_pos c2, if_pos c2, if_pos c1]
        exact ⟨n1.1, n1.2.1, n2.1⟩
      · rw [if_pos c1, if_neg (by omega), if_neg (by omega), if_pos c1]
        exact ⟨n1.2.2.2.1, n1.2.2.2.2, n2.2.2.2⟩
      · rw [if_neg (by omega), if_pos c2, if_pos c2, if_neg (by omega)]
        exact ⟨Ne.symm n2.2.1, Ne.symm n3.1, Ne.symm n3.2.1⟩
      · rw [if_neg (by omega), if_neg (by omega), if_neg (by omega), if_neg (by omega)]
        exact ⟨n4.1, n4.2, n5⟩
    · exact ⟨own_ne h (by omega) (by omega) c (oR r).1 (oR s).2.1, own_ne h (by omega) (by omega) c (oR r).1 (oR s).2.2, own_ne h (by omega) (by omega) c (oR r).2.1 (oR s).2.2⟩
  · by_cases c : i = j
    · refine ⟨c, ?_⟩
      subst c
      rcases Nat.decEq a b with c2 | c2
      · exact absurd e ((h.1 i hi).2.2.2.2.2.2.2.2.2.2.1 a b ha hb c2)
      · exact c2
    · exact absurd e (own_ne h hi hj c (Or.inr (Or.inr ⟨a, ha, rfl⟩)) (Or.inr (Or.inr ⟨b, hb, rfl⟩)))
end ST
theorem wk_start {t : List (ClassId × FieldType)} {L Lb : List Nat} {f : Nat → va_E} {ww wk wkb wa wp : Nat} {wq wqb : Nat → Nat} (h : WkNew t L f Lb ww wk wkb wa wp wq wqb) (hw : ww ∈ L) : WTy t L f ww wk wkb wa wp wq wqb := by
  obtain ⟨c1, ⟨c2, c3⟩, c4, c5, c6, m1, m2, m3, m4⟩ := h
  exact ⟨⟨⟨hw, (m1 wk (by simp)).1, (m1 wkb (by simp)).1, (m1 wa (by simp)).1, (m1 wp (by simp)).1⟩, c4, fun j hj => ⟨(m2 j hj).1.1, (m2 j hj).2.1⟩, m3, m4, fun j hj => ⟨⟨_, (c6 j hj).1⟩, _, (c6 j hj).2⟩⟩, ⟨_, _, _, _, _, _, _, _, c1⟩, ⟨⟨_, c2⟩, _, c3⟩, _, c5⟩
/-! What stays, cell by cell. -/
theorem FnsAt.keepL {tys tys0 : List (ClassId × FieldType)} {L Lc : List Nat} {f f0 f' : Nat → va_E} {fa : Nat} {fn dr pr sA oA ra rb rk : Nat → Nat} {sq : Nat → Nat → Nat} {oi ni oi0 ni0 : Nat → Nat} {gv gv0 : Nat → Int32} {go go0 : Nat → Nat → Int32} {σ σ0 : Sg} (h0 : FnsAt tys0 Lc f0 fa fn dr pr sA oA ra rb rk sq oi0 ni0 gv0 go0 σ0) (h : FnsAt tys L f fa fn dr pr sA oA ra rb rk sq oi ni gv go σ) (hs : ∀ z ∈ Lc, f' z = f z) : FnsAt tys L f' fa fn dr pr sA oA ra rb rk sq oi ni gv go σ := by
  obtain ⟨⟨a1, a2⟩, a3⟩ := h
  obtain ⟨⟨k1, -⟩, k3⟩ := h0
  refine ⟨⟨a1, a2.eq (hs _ k1)⟩, fun i hi => ?_⟩
  obtain ⟨⟨b1, b2⟩, b3, b4, ⟨b5, b6⟩, b7, b8, b9, b10⟩ := a3 i hi
  obtain ⟨⟨l1, -⟩, l3, l4, ⟨l5, -⟩, l7, -, l9, -⟩ := k3 i hi
  exact ⟨⟨b1, (hs _ l1).trans b2⟩, b3.eq (hs _ l3.1.1) (hs _ l3.1.2.1) (hs _ l3.1.2.2.1) (hs _ l3.1.2.2.2), b4.eq (hs _ l4.1.1) (hs _ l4.1.2.1) (hs _ l4.1.2.2.1) (hs _ l4.1.2.2.2), ⟨b5, b6.eq (hs _ l5)⟩, b7, fun j hj => (hs _ (l7 j hj)).trans (b8 j hj), b9, b10.eq (hs _ l9)⟩
theorem WTy.keepE {tys : List (ClassId × FieldType)} {L : List Nat} {f f' : Nat → va_E} {ww wk wkb wa wp : Nat} {wq wqb : Nat → Nat} (h : WTy tys L f ww wk wkb wa wp wq wqb) (hw : f' ww = f ww) (hk : f' wk = f wk) (hkb : f' wkb = f wkb) (ha : f' wa = f wa) (hp : f' wp = f wp) (hq : ∀ j, j < 6 → f' (wq j) = f (wq j) ∧ f' (wqb j) = f (wqb j)) : WTy tys L f' ww wk wkb wa wp wq wqb := by
  obtain ⟨⟨a1, a2, a3, a4, a5, a6⟩, ⟨x3, x4, x5, x6, x7, x8, x9, x10, b1⟩, b2, wpl, b3⟩ := h
  exact ⟨⟨a1, a2.eq ha, a3, a4, a5, fun j hj => (a6 j hj).eq (hq j hj).1 (hq j hj).2⟩, ⟨x3, x4, x5, x6, x7, x8, x9, x10, hw.trans b1⟩, b2.eq hk hkb, wpl, b3.eq hp⟩
theorem MD.keepA {tys : List (ClassId × FieldType)} {L : List Nat} {f f' : Nat → va_E} {mo ap cm : Nat} {ad : Nat → Nat} {G : Nat → Nat → Int32} {th fe me fu le en sp ka kc : Int32} {mx : Int64} {se : Int32} {gc : Nat → Int32} (h : MD tys L f mo ap cm ad G th fe me fu le en sp ka kc mx se gc) (h1 : f' mo = f mo) (h2 : f' ap = f ap) (h3 : f' cm = f cm) (h4 : ∀ k, k < 16 → f' (ad k) = f (ad k)) : MD tys L f' mo ap cm ad G th fe me fu le en sp ka kc mx se gc := by
  obtain ⟨a1, a2, ⟨g, a3⟩, a4⟩ := h
  exact ⟨⟨a1.1, fun k hk => ⟨(a1.2 k hk).1, (a1.2 k hk).2.eq (h4 k hk)⟩⟩, h1.trans a2, ⟨g, a3.eq h2⟩, a4.eq h3⟩
theorem MdI.keepA {tys : List (ClassId × FieldType)} {L : List Nat} {f f' : Nat → va_E} {mo ap cm : Nat} {ad : Nat → Nat} {G : Nat → Nat → Int32} {th : Int32} (h : MdI tys L f mo ap cm ad G th) (h1 : f' mo = f mo) (h2 : f' ap = f ap) (h3 : f' cm = f cm) (h4 : ∀ k, k < 16 → f' (ad k) = f (ad k)) : MdI tys L f' mo ap cm ad G th := by
  obtain ⟨fe, me, fu, le, en, sp, ka, kc, mx, se, gc, k1, k2, k3, k4⟩ := h
  exact ⟨fe, me, fu, le, en, sp, ka, kc, mx, se, gc, k1, k2, k3, k4.keepA h1 h2 h3 h4⟩
