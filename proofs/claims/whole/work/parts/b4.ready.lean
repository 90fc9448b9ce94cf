/-! The law's start: the words, and both memories behind their makers. -/
section RD
variable {args : Array Value} {s : State}
theorem lw_gw (hts : ∀ w ∈ lw_tbl, w.before args s = true) : ∀ w ∈ GW, w.before args s = true := fun w hw => hts w (List.mem_filter.mp hw).1
theorem lw_nx (hts : ∀ w ∈ lw_tbl, w.before args s = true) : Nx s := fun w hw => by
  have h1 := hts w (List.mem_append_right _ (List.mem_filter.mp hw).1)
  have h2 := (List.mem_filter.mp hw).2
  cases w with
  | fieldLinkNest => exact va_Nw.of rfl h1
  | methodLinkNest => exact va_Nw.of rfl h1
  | _ => cases h2
theorem lw_xw (hts : ∀ w ∈ lw_tbl, w.before args s = true) : Xw s := fun w hw => by
  have h1 := hts w (List.mem_append_right _ (List.mem_filter.mp hw).1)
  have h2 := (List.mem_filter.mp hw).2
  cases w with
  | castable => exact va_Nw.of rfl h1
  | declares => exact va_Nw.of rfl h1
  | _ => cases h2
theorem lw_ao (hts : ∀ w ∈ lw_tbl, w.before args s = true) : Ao s := fun C hC => va_AO.of (hts _ ((show ∀ C ∈ aoL, Cond.arrayOver (.object C) ∈ lw_tbl by decide +kernel) C hC))
theorem lw_nn (hgv : (Jvm.Cond.and given_1 narrow_1).before args s = true) : Nn s := fun q hq => va_Nc.of (flat_of_before _ hgv _ ((show ∀ q ∈ ncL, Cond.not (.castable q.1 q.2) ∈ flatC (Jvm.Cond.and given_1 narrow_1) by decide +kernel) q hq))
theorem lw_zs (hts : ∀ w ∈ lw_tbl, w.before args s = true) (hgv : (Jvm.Cond.and given_1 narrow_1).before args s = true) {L : List Nat} (hL : ∀ a ∈ L, s.heap.size ≤ a) : Zs L s s.heap :=
  ⟨vx_Zqof (hts _ (List.mem_append_right _ (List.mem_of_getElem? (i := 235) (by decide +kernel)))) (hts _ (List.mem_append_right _ (List.mem_of_getElem? (i := 8) (by decide +kernel)))) (flat_of_before _ hgv _ (by decide +kernel)) (fun a h1 h2 => Nat.not_le.mpr h1 (hL a h2)), vx_Zqof (hts _ (List.mem_append_right _ (List.mem_of_getElem? (i := 237) (by decide +kernel)))) (hts _ (List.mem_append_right _ (List.mem_of_getElem? (i := 8) (by decide +kernel)))) (flat_of_before _ hgv _ (by decide +kernel)) (fun a h1 h2 => Nat.not_le.mpr h1 (hL a h2))⟩
theorem lw_str (hts : ∀ w ∈ lw_tbl, w.before args s = true) (hc : ∃ cur, s.vm.findClass "LiquidChecker" = some cur) : ∃ sAd, Str sAd s := str_all (args := args) (fun q hq => hts _ ((show ∀ q ∈ strL, Cond.stringRef "LiquidChecker" q.1 q.2 ∈ lw_tbl by decide +kernel) q hq)) hc
theorem lw_k (hg : ∀ w ∈ GW, w.before args s = true) : ∃ D, va_K D zCl [] s := by
  have h0 := u_known (n := 8) hg inF (hg _ gw91)
  have h1 := u_known (n := 2) hg inK (hg _ gw36)
  have h2 := u_known (n := 4) hg inR (hg _ gw97)
  have h3 := u_known (n := 6) hg inS (hg _ gw119)
  have h4 := u_known (n := 11) hg inW (hg _ gw30)
  have h5 := u_known (n := 3) hg inC (hg _ gw20)
  have h6 := u_known (n := 29) hg inM (hg _ gw588)
  obtain ⟨z0, z1, z2⟩ := id h0
  have h : ∀ c : Nat, ∃ x : ClassId × (Nat → Nat), ∀ q : vw_C, zCl[c]? = some q → u_Kn s q.1 q.2.1 q.2.2 x.1 x.2 := by
    intro c
    rcases (show c = 0 ∨ c = 1 ∨ c = 2 ∨ c = 3 ∨ c = 4 ∨ c = 5 ∨ c = 6 ∨ 7 ≤ c by omega) with rfl | rfl | rfl | rfl | rfl | rfl | rfl | hc
    · obtain ⟨a, b, h⟩ := h0
      exact ⟨(a, b), fun q hq => by cases hq; exact h⟩
    · obtain ⟨a, b, h⟩ := h1
      exact ⟨(a, b), fun q hq => by cases hq; exact h⟩
    · obtain ⟨a, b, h⟩ := h2
      exact ⟨(a, b), fun q hq => by cases hq; exact h⟩
    · obtain ⟨a, b, h⟩ := h3
      exact ⟨(a, b), fun q hq => by cases hq; exact h⟩
    · obtain ⟨a, b, h⟩ := h4
      exact ⟨(a, b), fun q hq => by cases hq; exact h⟩
    · obtain ⟨a, b, h⟩ := h5
      exact ⟨(a, b), fun q hq => by cases hq; exact h⟩
    · obtain ⟨a, b, h⟩ := h6
      exact ⟨(a, b), fun q hq => by cases hq; exact h⟩
    · refine ⟨(z0, z1), fun q hq => ?_⟩
      rw [List.getElem?_eq_none (by simpa using hc)] at hq
      cases hq
  obtain ⟨g, hg2⟩ := Classical.axiomOfChoice h
  exact ⟨(fun c => (g c).1, fun c => (g c).2), fun c q hq => hg2 c q hq, fun k q hk => by cases hk⟩
theorem lw_found (hg : ∀ w ∈ GW, w.before args s = true) : ∃ cur, s.vm.findClass "LiquidChecker" = some cur := by
  obtain ⟨a, b, h⟩ := u_known (n := 3) hg inC (hg _ gw20)
  exact ⟨a, h.2.1⟩
end RD
theorem MD.grow {tys ty2 : List (ClassId × FieldType)} {L L2 : List Nat} {f f' : Nat → va_E} {mo ap cm : Nat} {ad : Nat → Nat} {G : Nat → Nat → Int32} {th fe me fu le en sp ka kc : Int32} {mx : Int64} {se : Int32} {gc : Nat → Int32} (h : MD tys L f mo ap cm ad G th fe me fu le en sp ka kc mx se gc) (hi : ∀ z ∈ L, z ∈ L2) (hs : ∀ z ∈ L, f' z = f z) (hy : ∀ z ∈ tys, z ∈ ty2) : MD ty2 L2 f' mo ap cm ad G th fe me fu le en sp ka kc mx se gc := by
  obtain ⟨⟨⟨a1, a2, a3⟩, a4⟩, b, ⟨g, c1⟩, d⟩ := h
  refine ⟨⟨⟨hi _ a1, hi _ a2, hi _ a3⟩, fun k hk => ⟨hi _ (a4 k hk).1, ((a4 k hk).2.eq (hs _ (a4 k hk).1)).more hy⟩⟩, (hs _ a1).trans b, ⟨g, ?_⟩, ?_⟩
  · obtain ⟨cA, e1, e2⟩ := c1
    exact ⟨cA, (hs _ a2).trans e1, hy _ e2⟩
  · obtain ⟨cA, e1, e2⟩ := d
    exact ⟨cA, (hs _ a3).trans e1, hy _ e2⟩
set_option maxHeartbeats 4000000 in
theorem law_ready {Lc Lm : List Nat} {f0 f2 : Nat → va_E} {t0 t2 : List (ClassId × FieldType)} {cc mo ot sz : Nat} {cA : ClassId} {x : va_E} {L9 : List Nat} (hcc : cc ∈ Lc) (hC : ∃ fa ww kk kkb wk wkb wa wp wq wqb fn dr pr sA oA a0 b0 k0 a1 b1 k1 sq Lb L1, f0 cc = .inr (5, [.ref fa, .ref ww, .ref kk]) ∧ (∀ x ∈ [fa, ww, kk, kkb, wk, wkb, wa, wp], x ∈ L1 ∧ x ∈ Lc) ∧ mm_Q t0 "LiquidChecker$Function" f0 fa 4 (fun j => some (fn j)) ∧ FnsNew t0 Lc f0 L1 4 fn dr pr sA oA a0 b0 k0 a1 b1 k1 sq Lb ∧ WkNew t0 Lc f0 L9 ww wk wkb wa wp wq wqb ∧ f0 kk = .inr (1, [.ref kkb, .int 0]) ∧ mm_I t0 f0 kkb 144 (fun _ => 0) ∧ (wk ≠ kk ∧ wkb ≠ kkb) ∧ ∀ j, j < 6 → wq j ≠ kk ∧ wqb j ≠ kkb)
    (hmo : mo ∉ Lc) (hG : Gro (Lc ++ [mo]) (va_up f0 mo x) t0 mo sz (Lm, f2, t2)) (hM : ∃ ad ap cm, (∀ k, k < 16 → ad k ∉ Lc ++ [mo]) ∧ ap ∉ Lc ++ [mo] ∧ cm ∉ Lc ++ [mo] ∧ (∀ i j, i < 16 → j < 16 → i ≠ j → ad i ≠ ad j) ∧ MD t2 Lm f2 mo ap cm ad (fun _ _ => 0) 0 0 0 0 0 0 0 0 0 0 0 (fun _ => 0)) (hot : ot ∉ Lm) :
    ∃ fa ww kk kkb wk wkb wa wp wq wqb fn dr pr sA oA ra rb rk sq ap cm ad, Stc (Lm ++ [ot]) Lc t0 f0 cc fa ww kk kkb wk wkb wa wp wq wqb fn dr pr sA oA ra rb rk sq mo ap cm ad ot ∧ Inv (t2 ++ [(cA, .long)]) (Lm ++ [ot]) (va_up f2 ot (.inl (cA, 1, .inr (.inl (fun _ => 0))))) cc fa ww kk kkb wk wkb wa wp wq wqb fn dr pr sA oA ra rb rk sq mo ap cm ad ot (nI 0) := by
  obtain ⟨fa, ww, kk, kkb, wk, wkb, wa, wp, wq, wqb, fn, dr, pr, sA, oA, a0, b0, k0, a1, b1, k1, sq, Lb, L1, c1, c2, c3, c4, c5, c6, c7, c8, c9⟩ := hC
  obtain ⟨ad, ap, cm, m1, m2, m3, m4, m5⟩ := hM
  obtain ⟨g1, g2, g3, g4⟩ := hG
  have nL : ∀ {z : Nat}, z ∉ Lc ++ [mo] → z ∉ Lc := fun h h2 => h (List.mem_append_left _ h2)
  have hi1 : ∀ z ∈ Lc, z ∈ Lm := fun z hz => (g3 z (List.mem_append_left _ hz)).1
  have hs1 : ∀ z ∈ Lc, f2 z = f0 z := fun z hz => by
    have h1 : z ≠ mo := fun e => hmo (e ▸ hz)
    rw [show f2 z = va_up f0 mo x z from (g3 z (List.mem_append_left _ hz)).2 h1, va_up_ne _ _ h1]
  have hi2 : ∀ z ∈ Lm, z ∈ Lm ++ [ot] := fun z hz => List.mem_append_left _ hz
  have hs2 : ∀ z ∈ Lm, va_up f2 ot (.inl (cA, 1, .inr (.inl (fun _ => 0)))) z = f2 z := fun z hz => va_up_ne _ _ (fun e => hot (e ▸ hz))
  have hy2 : ∀ z ∈ t2, z ∈ t2 ++ [(cA, .long)] := fun z hz => List.mem_append_left _ hz
  have hi3 : ∀ z ∈ Lc, z ∈ Lm ++ [ot] := fun z hz => hi2 z (hi1 z hz)
  have hs3 : ∀ z ∈ Lc, va_up f2 ot (.inl (cA, 1, .inr (.inl (fun _ => 0)))) z = f0 z := fun z hz => (hs2 z (hi1 z hz)).trans (hs1 z hz)
  have hy3 : ∀ z ∈ t0, z ∈ t2 ++ [(cA, .long)] := fun z hz => hy2 z (g4 z hz)
  have hF := fns_start c4 (c2 fa (by simp)).2 c3
  have hW := wk_start c5 (c2 ww (by simp)).2
  have hkk := (c2 kk (by simp)).2
  have hkb := (c2 kkb (by simp)).2
  have hne : ∀ {z : Nat}, z ∈ Lm → ot ≠ z := fun hz e => hot (e ▸ hz)
  have hmd := m5
  obtain ⟨⟨⟨x1, x2, x3⟩, x4⟩, -⟩ := m5
  refine ⟨fa, ww, kk, kkb, wk, wkb, wa, wp, wq, wqb, fn, dr, pr, sA, oA, two a0 a1, two b0 b1, two k0 k1, sq, ap, cm, ad, ?_, ?_⟩
  · refine ⟨mg_nd g1 hot, hi3, ⟨hF, hW, hcc, hkk, hkb⟩, fnsD_start c4, fun i hi e => ?_, ⟨c8, c9⟩, ⟨hmo, nL m2, nL m3, fun k hk => nL (m1 k hk)⟩, m4, ⟨List.mem_append_right _ (List.mem_singleton.mpr rfl), fun h => hot (hi1 _ h), hne x1, hne x2, hne x3, fun k hk => hne (x4 k hk).1⟩⟩
    obtain ⟨-, d1, d2⟩ := c4.1 i hi
    have d3 : oA i ∉ Lb i := (d2.2.2.2.2.2.2.1 _ (by simp [FnAd])).2
    exact d3 (e ▸ d1 _ (c2 wp (by simp)).1)
  · refine ⟨sg0, fun _ => 0, fun _ => 0, fun _ => nI 0, fun _ _ => 0, fun _ _ => 0, ⟨hF.grow hi3 hs3 hy3, hW.grow hi3 hs3 hy3, KnAny.grow ⟨⟨_, c6⟩, _, c7⟩ (hs3 _ hkk) (hs3 _ hkb) hy3, (hs3 _ hcc).trans c1⟩, ⟨0, 0, 0, 0, 0, 0, 0, 0, 0, 0, fun _ => 0, Or.inl nI_0.symm, ⟨by omega, by omega⟩, ⟨by omega, by omega⟩, ?_⟩, ⟨fun _ => 0, cA, va_up_self _ _ _, List.mem_append_right _ (List.mem_singleton.mpr rfl)⟩, tie_0⟩
    rw [nI_0]
    exact hmd.grow hi2 hs2 hy2
