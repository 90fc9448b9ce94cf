/-! LiquidChecker: check, ways, isPlace, comes -/
set_option maxRecDepth 100000 in
set_option maxHeartbeats 4000000 in
theorem c_check {l : Launch} {D : va_G} {tys : List (ClassId × FieldType)} {L : List Nat} {f : Nat → va_E} {sAd : Nat → Nat} (hn : L.Nodup) {fa : Nat} {fn dr pr sA oA ra rb rk : Nat → Nat} {sq : Nat → Nat → Nat} {oi ni : Nat → Nat} {gv : Nat → Int32} {go : Nat → Nat → Int32} {σ : Sg} {cc ww kk : Nat} {wk wkb wa wp : Nat} {wq wqb : Nat → Nat} (hst : l.stackTraces = false) (hF : FnsAt tys L f fa fn dr pr sA oA ra rb rk sq oi ni gv go σ) (hcL : cc ∈ L) (hc : f cc = .inr (5, [.ref fa, .ref ww, .ref kk])) (hty : WTy tys L f ww wk wkb wa wp wq wqb) (ho : ∀ i, i < 4 → oA i ≠ wp) (hR : RlOk σ) (hfn : ∀ i, i < 4 → FnOk σ i) {x : Int32} : MetX l yC_check wC_check ({ frames := 6, cells := 1, slots := 6, locals := 152 } : Room) D tys L f sAd [.ref cc, .int x] (fun r f' => q_fn x = true ∧ ∀ i, x = nI i → i < 4 → (∃ wpl, r = (th_run σ i (-1) 0 0 64 (th_o σ i) (th_c σ i wpl)).lu) ∧ WTy tys L f' ww wk wkb wa wp wq wqb ∧ FnsAt tys L f' fa fn dr pr sA oA ra rb rk sq oi ni gv go σ ∧ Fr ww wk wkb wp wq wqb f f') (fun E => E = "java/lang/IllegalArgumentException" ∧ q_fn x = false) := by
  refine metx_of "LiquidChecker" (by decide) rfl (Nat.le_of_ble_eq_true rfl) ?_
  intro pgm e s m below meth cd ls C0 hX hno hP hl
  obtain ⟨hx, hb, hml, hown, hg, hr, hlocks, hK, hN⟩ := id C0
  have hA : ∀ a ∈ L, inL L a := fun _ h => h
  obtain ⟨H, hH⟩ : ∃ z, z = s.heap := ⟨_, rfl⟩
  rw [← hH] at hP ⊢
  have hS : va_S (inL L) s.heap H [] := by rw [hH]; exact va_S.rf
  have hl : lv_has ls 2 [(0, .ref cc), (1, .int x)] := hl
  refine lv_iload_n hx hb dC_check_0 rfl (lv_at hl 1 rfl) ?_
  refine then_i (run_S (n := 1) (As := [.int x]) (rest := []) C0 (qC_isFunction hn) gw204 gw202 gw203 gw1 (by decide +kernel) ⟨Nat.le_of_ble_eq_true rfl, Nat.le_of_ble_eq_true rfl⟩ rfl rfl ⟨Nat.le_of_ble_eq_true rfl, Nat.le_of_ble_eq_true rfl⟩ hP rfl hl.1 rfl (Nat.le_of_ble_eq_true rfl) dC_check_1) hS hA (fun r2 f1 H locs hq1 hP hS => ?_)
  obtain ⟨er2, ef1⟩ := hq1
  subst er2
  rw [ef1] at hP
  refine lv_if_ne (tgt := 17) hx hb dC_check_4 (by decide) (fun c4 => ?_) (fun c4 => ?_)
  · have c4 : (q_fn x) = true := kb_t.mp c4
    obtain ⟨i, hi4, hxi⟩ := q_fn_nI c4
    have hl : lv_has ls 2 [(0, .ref cc), (1, .int (nI i))] := by rw [← hxi]; exact hl
    obtain ⟨x3, x4, x5, x6, x7, x8, x9, x10, v1⟩ := id hty.2.1
    refine lv_aload_n hx hb dC_check_17 rfl (lv_at hl 0 rfl) ?_
    refine mm_get (v := .ref ww) hx hb hg inC hown hK hP hcL hc rfl 1 (by decide) (hg _ gw184) (fun _ h9 => h9) rfl dC_check_18 ?_
    refine lv_aload_n hx hb dC_check_21 rfl (lv_at hl 0 rfl) ?_
    refine mm_get (v := .ref fa) hx hb hg inC hown hK hP hcL hc rfl 0 (by decide) (hg _ gw183) (fun _ h9 => h9) rfl dC_check_22 ?_
    refine lv_aload_n hx hb dC_check_25 rfl (lv_at hl 0 rfl) ?_
    refine mm_get (v := .ref fa) hx hb hg inC hown hK hP hcL hc rfl 0 (by decide) (hg _ gw183) (fun _ h9 => h9) rfl dC_check_26 ?_
    refine lv_iload_n hx hb dC_check_29 rfl (lv_at hl 1 rfl) ?_
    refine mm_aldq hx hb hK hP hF.1.1 hF.1.2 (vp_in_nI (show i < 4 by omega) (by omega)) (q := (fn i)) (by rw [nI_clamp (by omega)]) dC_check_30 ?_
    refine lv_iconst (v := (-1)) hx hb dC_check_31 (by decide) ?_
    refine lv_iconst (v := nI 0) hx hb dC_check_32 (by decide) ?_
    refine lv_iconst (v := nI 0) hx hb dC_check_33 (by decide) ?_
    refine then_v (run_VN (n := 5) (As := [.ref fa, .ref (fn i), .int (-1), .int (nI 0), .int (nI 0)]) (rest := []) C0 (w_through hn hty hF ho hR hi4 (hfn i hi4) (by omega) (by omega)) gw411 nx408 gw410 gsW_through gw2 (by decide +kernel) ⟨Nat.le_of_ble_eq_true rfl, Nat.le_of_ble_eq_true rfl⟩ rfl rfl ⟨Nat.le_of_ble_eq_true rfl, Nat.le_of_ble_eq_true rfl⟩ hP hty.1.1.1 v1 rfl rfl rfl hl.1 rfl (Nat.le_of_ble_eq_true rfl) dC_check_34) hS hA (fun f3 H locs hq34 hP hS => ?_)
    obtain ⟨⟨wpl, hw⟩, hF2, hfr⟩ := hq34
    obtain ⟨c9, hc9⟩ : ∃ z, z = (th_run σ i (-1) 0 0 64 (th_o σ i) (th_c σ i wpl)) := ⟨_, rfl⟩
    rw [← hc9] at hw
    have hc2 : f3 cc = .inr (5, [.ref fa, .ref ww, .ref kk]) := by rw [hfr _ (hty.notO hc (by decide) (by decide))]; exact hc
    refine lv_aload_n hx hb dC_check_37 rfl (lv_at hl 0 rfl) ?_
    refine mm_get (v := .ref ww) hx hb hg inC hown hK hP hcL hc2 rfl 1 (by decide) (hg _ gw184) (fun _ h9 => h9) rfl dC_check_38 ?_
    refine mm_getN (v := .int c9.lu) hx hb hg inW hown hK hP hw.1.1.1 hw.2.1 rfl 9 (by decide) (va_Nw.use rfl (hN _ nx63)) (fun _ h9 => h9) rfl dC_check_41 ?_
    refine retx_i C0 hP hS ⟨c4, fun j hj hj4 => ?_⟩ dC_check_44
    obtain rfl : i = j := (nI_eq (by omega) (by omega)).mp (hxi.symm.trans hj)
    exact ⟨⟨wpl, by rw [← hc9]⟩, WSt.ty hw, hF2, hfr⟩
  · have c4 : (q_fn x) = false := kb_0.mp c4
    exact thr (text := "no such function") (names := ["java/lang/RuntimeException", "java/lang/Exception"]) C0 hst hX hno hP hS hl.1 (by decide +kernel) (by decide +kernel) gw208 gw11 rfl (by decide +kernel) gx_IllegalArgumentException (vo_c rfl rfl go_IllegalArgumentException) dC_check_7 dC_check_10 dC_check_11 dC_check_13 dC_check_16 (Nat.le_of_ble_eq_true rfl) (Nat.le_of_ble_eq_true rfl) (Nat.le_of_ble_eq_true rfl) (Nat.le_of_ble_eq_true rfl) ⟨rfl, c4⟩
set_option maxRecDepth 100000 in
set_option maxHeartbeats 4000000 in
theorem c_ways {l : Launch} {D : va_G} {tys : List (ClassId × FieldType)} {L : List Nat} {f : Nat → va_E} {sAd : Nat → Nat} (hn : L.Nodup) {fa : Nat} {fn dr pr sA oA ra rb rk : Nat → Nat} {sq : Nat → Nat → Nat} {oi ni : Nat → Nat} {gv : Nat → Int32} {go : Nat → Nat → Int32} {σ : Sg} {cc ww kk : Nat} {wk wkb wa wp : Nat} {wq wqb : Nat → Nat} (hst : l.stackTraces = false) (hF : FnsAt tys L f fa fn dr pr sA oA ra rb rk sq oi ni gv go σ) (hcL : cc ∈ L) (hc : f cc = .inr (5, [.ref fa, .ref ww, .ref kk])) (hty : WTy tys L f ww wk wkb wa wp wq wqb) (ho : ∀ i, i < 4 → oA i ≠ wp) (hR : RlOk σ) (hfn : ∀ i, i < 4 → FnOk σ i) {x : Int32} : MetX l yC_ways wC_ways ({ frames := 6, cells := 1, slots := 6, locals := 152 } : Room) D tys L f sAd [.ref cc, .int x] (fun r f' => q_fn x = true ∧ ∀ i, x = nI i → i < 4 → (∃ wpl, r = nI (th_run σ i (-1) 0 0 64 (th_o σ i) (th_c σ i wpl)).en) ∧ WTy tys L f' ww wk wkb wa wp wq wqb ∧ FnsAt tys L f' fa fn dr pr sA oA ra rb rk sq oi ni gv go σ ∧ Fr ww wk wkb wp wq wqb f f') (fun E => E = "java/lang/IllegalArgumentException" ∧ q_fn x = false) := by
  refine metx_of "LiquidChecker" (by decide) rfl (Nat.le_of_ble_eq_true rfl) ?_
  intro pgm e s m below meth cd ls C0 hX hno hP hl
  obtain ⟨hx, hb, hml, hown, hg, hr, hlocks, hK, hN⟩ := id C0
  have hA : ∀ a ∈ L, inL L a := fun _ h => h
  obtain ⟨H, hH⟩ : ∃ z, z = s.heap := ⟨_, rfl⟩
  rw [← hH] at hP ⊢
  have hS : va_S (inL L) s.heap H [] := by rw [hH]; exact va_S.rf
  have hl : lv_has ls 2 [(0, .ref cc), (1, .int x)] := hl
  refine lv_iload_n hx hb dC_ways_0 rfl (lv_at hl 1 rfl) ?_
  refine then_i (run_S (n := 1) (As := [.int x]) (rest := []) C0 (qC_isFunction hn) gw204 gw202 gw203 gw1 (by decide +kernel) ⟨Nat.le_of_ble_eq_true rfl, Nat.le_of_ble_eq_true rfl⟩ rfl rfl ⟨Nat.le_of_ble_eq_true rfl, Nat.le_of_ble_eq_true rfl⟩ hP rfl hl.1 rfl (Nat.le_of_ble_eq_true rfl) dC_ways_1) hS hA (fun r2 f1 H locs hq1 hP hS => ?_)
  obtain ⟨er2, ef1⟩ := hq1
  subst er2
  rw [ef1] at hP
  refine lv_if_ne (tgt := 17) hx hb dC_ways_4 (by decide) (fun c4 => ?_) (fun c4 => ?_)
  · have c4 : (q_fn x) = true := kb_t.mp c4
    obtain ⟨i, hi4, hxi⟩ := q_fn_nI c4
    have hl : lv_has ls 2 [(0, .ref cc), (1, .int (nI i))] := by rw [← hxi]; exact hl
    obtain ⟨x3, x4, x5, x6, x7, x8, x9, x10, v1⟩ := id hty.2.1
    refine lv_aload_n hx hb dC_ways_17 rfl (lv_at hl 0 rfl) ?_
    refine mm_get (v := .ref ww) hx hb hg inC hown hK hP hcL hc rfl 1 (by decide) (hg _ gw184) (fun _ h9 => h9) rfl dC_ways_18 ?_
    refine lv_aload_n hx hb dC_ways_21 rfl (lv_at hl 0 rfl) ?_
    refine mm_get (v := .ref fa) hx hb hg inC hown hK hP hcL hc rfl 0 (by decide) (hg _ gw183) (fun _ h9 => h9) rfl dC_ways_22 ?_
    refine lv_aload_n hx hb dC_ways_25 rfl (lv_at hl 0 rfl) ?_
    refine mm_get (v := .ref fa) hx hb hg inC hown hK hP hcL hc rfl 0 (by decide) (hg _ gw183) (fun _ h9 => h9) rfl dC_ways_26 ?_
    refine lv_iload_n hx hb dC_ways_29 rfl (lv_at hl 1 rfl) ?_
    refine mm_aldq hx hb hK hP hF.1.1 hF.1.2 (vp_in_nI (show i < 4 by omega) (by omega)) (q := (fn i)) (by rw [nI_clamp (by omega)]) dC_ways_30 ?_
    refine lv_iconst (v := (-1)) hx hb dC_ways_31 (by decide) ?_
    refine lv_iconst (v := nI 0) hx hb dC_ways_32 (by decide) ?_
    refine lv_iconst (v := nI 0) hx hb dC_ways_33 (by decide) ?_
    refine then_v (run_VN (n := 5) (As := [.ref fa, .ref (fn i), .int (-1), .int (nI 0), .int (nI 0)]) (rest := []) C0 (w_through hn hty hF ho hR hi4 (hfn i hi4) (by omega) (by omega)) gw411 nx408 gw410 gsW_through gw2 (by decide +kernel) ⟨Nat.le_of_ble_eq_true rfl, Nat.le_of_ble_eq_true rfl⟩ rfl rfl ⟨Nat.le_of_ble_eq_true rfl, Nat.le_of_ble_eq_true rfl⟩ hP hty.1.1.1 v1 rfl rfl rfl hl.1 rfl (Nat.le_of_ble_eq_true rfl) dC_ways_34) hS hA (fun f3 H locs hq34 hP hS => ?_)
    obtain ⟨⟨wpl, hw⟩, hF2, hfr⟩ := hq34
    obtain ⟨c9, hc9⟩ : ∃ z, z = (th_run σ i (-1) 0 0 64 (th_o σ i) (th_c σ i wpl)) := ⟨_, rfl⟩
    rw [← hc9] at hw
    have hc2 : f3 cc = .inr (5, [.ref fa, .ref ww, .ref kk]) := by rw [hfr _ (hty.notO hc (by decide) (by decide))]; exact hc
    refine lv_aload_n hx hb dC_ways_37 rfl (lv_at hl 0 rfl) ?_
    refine mm_get (v := .ref ww) hx hb hg inC hown hK hP hcL hc2 rfl 1 (by decide) (hg _ gw184) (fun _ h9 => h9) rfl dC_ways_38 ?_
    refine mm_getN (v := .int (nI c9.en)) hx hb hg inW hown hK hP hw.1.1.1 hw.2.1 rfl 10 (by decide) (va_Nw.use rfl (hN _ nx65)) (fun _ h9 => h9) rfl dC_ways_41 ?_
    refine retx_i C0 hP hS ⟨c4, fun j hj hj4 => ?_⟩ dC_ways_44
    obtain rfl : i = j := (nI_eq (by omega) (by omega)).mp (hxi.symm.trans hj)
    exact ⟨⟨wpl, by rw [← hc9]⟩, WSt.ty hw, hF2, hfr⟩
  · have c4 : (q_fn x) = false := kb_0.mp c4
    exact thr (text := "no such function") (names := ["java/lang/RuntimeException", "java/lang/Exception"]) C0 hst hX hno hP hS hl.1 (by decide +kernel) (by decide +kernel) gw208 gw11 rfl (by decide +kernel) gx_IllegalArgumentException (vo_c rfl rfl go_IllegalArgumentException) dC_ways_7 dC_ways_10 dC_ways_11 dC_ways_13 dC_ways_16 (Nat.le_of_ble_eq_true rfl) (Nat.le_of_ble_eq_true rfl) (Nat.le_of_ble_eq_true rfl) (Nat.le_of_ble_eq_true rfl) ⟨rfl, c4⟩
set_option maxRecDepth 100000 in
set_option maxHeartbeats 4000000 in
theorem c_isPlace {l : Launch} {D : va_G} {tys : List (ClassId × FieldType)} {L : List Nat} {f : Nat → va_E} (hn : L.Nodup) {fa : Nat} {fn dr pr sA oA ra rb rk : Nat → Nat} {sq : Nat → Nat → Nat} {oi ni : Nat → Nat} {gv : Nat → Int32} {go : Nat → Nat → Int32} {σ : Sg} {cc ww kk : Nat} (hF : FnsAt tys L f fa fn dr pr sA oA ra rb rk sq oi ni gv go σ) (hcL : cc ∈ L) (hc : f cc = .inr (5, [.ref fa, .ref ww, .ref kk])) {i : Nat} (hi4 : i < 4) {y : Int32} : MetI l yC_isPlace wC_isPlace ({ frames := 1, cells := 0, slots := 0, locals := 22 } : Room) D tys L f [.ref cc, .int (nI i), .int y] (fun r f' => r = kb (q_in y (nI 0) (nI (sz σ i))) ∧ f' = f) := by
  refine met_of "LiquidChecker" (by decide) rfl (Nat.le_of_ble_eq_true rfl) ?_
  intro pgm e s m below meth cd ls C0 hP hl
  obtain ⟨hx, hb, hml, hown, hg, hr, hlocks, hK, hN⟩ := id C0
  have hA : ∀ a ∈ L, inL L a := fun _ h => h
  obtain ⟨H, hH⟩ : ∃ z, z = s.heap := ⟨_, rfl⟩
  rw [← hH] at hP ⊢
  have hS : va_S (inL L) s.heap H [] := by rw [hH]; exact va_S.rf
  have hl : lv_has ls 3 [(0, .ref cc), (1, .int (nI i)), (2, .int y)] := hl
  refine lv_iload_n hx hb dC_isPlace_0 rfl (lv_at hl 2 rfl) ?_
  refine lv_iconst (v := nI 0) hx hb dC_isPlace_1 (by decide) ?_
  refine lv_aload_n hx hb dC_isPlace_2 rfl (lv_at hl 0 rfl) ?_
  refine mm_get (v := .ref fa) hx hb hg inC hown hK hP hcL hc rfl 0 (by decide) (hg _ gw183) (fun _ h9 => h9) rfl dC_isPlace_3 ?_
  refine lv_iload_n hx hb dC_isPlace_6 rfl (lv_at hl 1 rfl) ?_
  refine mm_aldq hx hb hK hP hF.1.1 hF.1.2 (vp_in_nI (show i < 4 by omega) (by omega)) (q := (fn i)) (by rw [nI_clamp (by omega)]) dC_isPlace_7 ?_
  refine mm_getN (v := .int (nI (sz σ i))) hx hb hg inF hown hK hP (hF.2 i hi4).1.1 (hF.2 i hi4).1.2 rfl 4 (by decide) (va_Nw.use rfl (hN _ nx160)) (fun _ h9 => h9) rfl dC_isPlace_8 ?_
  refine then_i (run_S (n := 3) (As := [.int y, .int (nI 0), .int (nI (sz σ i))]) (rest := []) C0 (qC_isWithin hn) gw207 gw205 gw206 gw1 (by decide +kernel) ⟨Nat.le_of_ble_eq_true rfl, Nat.le_of_ble_eq_true rfl⟩ rfl rfl ⟨Nat.le_of_ble_eq_true rfl, Nat.le_of_ble_eq_true rfl⟩ hP rfl hl.1 rfl (Nat.le_of_ble_eq_true rfl) dC_isPlace_11) hS hA (fun r2 f1 H locs hq11 hP hS => ?_)
  obtain ⟨er2, ef1⟩ := hq11
  subst er2
  rw [ef1] at hP
  exact ret_z C0 (b01 (kb_or _)).1 hP hS ⟨rfl, rfl⟩ dC_isPlace_14
theorem q_in_nI {y : Int32} {n : Nat} (hn : n < 2 ^ 31) (h : q_in y (nI 0) (nI n) = true) : ∃ p, p ≤ n ∧ y = nI p := by
  unfold q_in at h
  simp only [Bool.and_eq_true, Bool.not_eq_true', decide_eq_false_iff_not] at h
  exact nI_of2 (M := nI n) (nI_toInt hn) h.1 (Int32.not_lt.mp h.2)
set_option maxRecDepth 100000 in
set_option maxHeartbeats 4000000 in
theorem c_comes {l : Launch} {D : va_G} {tys : List (ClassId × FieldType)} {L : List Nat} {f : Nat → va_E} {sAd : Nat → Nat} (hn : L.Nodup) {fa : Nat} {fn dr pr sA oA ra rb rk : Nat → Nat} {sq : Nat → Nat → Nat} {oi ni : Nat → Nat} {gv : Nat → Int32} {go : Nat → Nat → Int32} {σ : Sg} {cc ww kk : Nat} {wk wkb wa wp : Nat} {wq wqb : Nat → Nat} (hst : l.stackTraces = false) (hF : FnsAt tys L f fa fn dr pr sA oA ra rb rk sq oi ni gv go σ) (hcL : cc ∈ L) (hc : f cc = .inr (5, [.ref fa, .ref ww, .ref kk])) (hty : WTy tys L f ww wk wkb wa wp wq wqb) (ho : ∀ i, i < 4 → oA i ≠ wp) (hR : RlOk σ) (hfn : ∀ i, i < 4 → FnOk σ i) {x y : Int32} : MetX l yC_comes wC_comes ({ frames := 6, cells := 1, slots := 6, locals := 152 } : Room) D tys L f sAd [.ref cc, .int x, .int y] (fun r f' => q_fn x = true ∧ ∀ i, x = nI i → i < 4 → q_in y (nI 0) (nI (sz σ i)) = true ∧ ∀ p, y = nI p → p ≤ sz σ i → (∃ wpl, r = kb (q_cm (th_run σ i (-1) 0 0 64 (th_o σ i) (th_c σ i wpl)).pm p)) ∧ WTy tys L f' ww wk wkb wa wp wq wqb ∧ FnsAt tys L f' fa fn dr pr sA oA ra rb rk sq oi ni gv go σ ∧ Fr ww wk wkb wp wq wqb f f') (fun E => E = "java/lang/IllegalArgumentException" ∧ (q_fn x = false ∨ ∀ i, x = nI i → i < 4 → q_in y (nI 0) (nI (sz σ i)) = false)) := by
  refine metx_of "LiquidChecker" (by decide) rfl (Nat.le_of_ble_eq_true rfl) ?_
  intro pgm e s m below meth cd ls C0 hX hno hP hl
  obtain ⟨hx, hb, hml, hown, hg, hr, hlocks, hK, hN⟩ := id C0
  have hA : ∀ a ∈ L, inL L a := fun _ h => h
  obtain ⟨H, hH⟩ : ∃ z, z = s.heap := ⟨_, rfl⟩
  rw [← hH] at hP ⊢
  have hS : va_S (inL L) s.heap H [] := by rw [hH]; exact va_S.rf
  have hl : lv_has ls 3 [(0, .ref cc), (1, .int x), (2, .int y)] := hl
  refine lv_iload_n hx hb dC_comes_0 rfl (lv_at hl 1 rfl) ?_
  refine then_i (run_S (n := 1) (As := [.int x]) (rest := []) C0 (qC_isFunction hn) gw204 gw202 gw203 gw1 (by decide +kernel) ⟨Nat.le_of_ble_eq_true rfl, Nat.le_of_ble_eq_true rfl⟩ rfl rfl ⟨Nat.le_of_ble_eq_true rfl, Nat.le_of_ble_eq_true rfl⟩ hP rfl hl.1 rfl (Nat.le_of_ble_eq_true rfl) dC_comes_1) hS hA (fun r2 f1 H locs hq1 hP hS => ?_)
  obtain ⟨er2, ef1⟩ := hq1
  subst er2
  rw [ef1] at hP
  refine lv_if_eq (tgt := 16) hx hb dC_comes_4 (by decide) (fun c4 => ?_) (fun c4 => ?_)
  · have c4 : (q_fn x) = false := kb_0.mp c4
    exact thr (text := "no such function or place") (names := ["java/lang/RuntimeException", "java/lang/Exception"]) C0 hst hX hno hP hS hl.1 (by decide +kernel) (by decide +kernel) gw208 gw11 rfl (by decide +kernel) gx_IllegalArgumentException (vo_c rfl rfl go_IllegalArgumentException) dC_comes_16 dC_comes_19 dC_comes_20 dC_comes_22 dC_comes_25 (Nat.le_of_ble_eq_true rfl) (Nat.le_of_ble_eq_true rfl) (Nat.le_of_ble_eq_true rfl) (Nat.le_of_ble_eq_true rfl) ⟨rfl, Or.inl c4⟩
  · have c4 : (q_fn x) = true := kb_t.mp c4
    obtain ⟨i, hi4, hxi⟩ := q_fn_nI c4
    have hl : lv_has ls 3 [(0, .ref cc), (1, .int (nI i)), (2, .int y)] := by rw [← hxi]; exact hl
    refine lv_aload_n hx hb dC_comes_7 rfl (lv_at hl 0 rfl) ?_
    refine lv_iload_n hx hb dC_comes_8 rfl (lv_at hl 1 rfl) ?_
    refine lv_iload_n hx hb dC_comes_9 rfl (lv_at hl 2 rfl) ?_
    refine then_i (run_V (n := 2) (As := [.int (nI i), .int y]) (rest := []) C0 (c_isPlace hn hF hcL hc hi4) gw520 gw517 gw519 gsC_isPlace gw1 (by decide +kernel) ⟨Nat.le_of_ble_eq_true rfl, Nat.le_of_ble_eq_true rfl⟩ rfl rfl ⟨Nat.le_of_ble_eq_true rfl, Nat.le_of_ble_eq_true rfl⟩ hP hcL hc rfl rfl rfl hl.1 rfl (Nat.le_of_ble_eq_true rfl) dC_comes_10) hS hA (fun r4 f3 H locs hq10 hP hS => ?_)
    obtain ⟨er4, ef3⟩ := hq10
    subst er4
    rw [ef3] at hP
    refine lv_if_ne (tgt := 26) hx hb dC_comes_13 (by decide) (fun c13 => ?_) (fun c13 => ?_)
    · have c13 : (q_in y (nI 0) (nI (sz σ i))) = true := kb_t.mp c13
      obtain ⟨pl, hpl, hyp⟩ := q_in_nI (by have := (hfn i hi4).1; omega) c13
      have hl : lv_has ls 3 [(0, .ref cc), (1, .int (nI i)), (2, .int (nI pl))] := by rw [← hyp]; exact hl
      obtain ⟨x3, x4, x5, x6, x7, x8, x9, x10, v1⟩ := id hty.2.1
      refine lv_aload_n hx hb dC_comes_26 rfl (lv_at hl 0 rfl) ?_
      refine mm_get (v := .ref ww) hx hb hg inC hown hK hP hcL hc rfl 1 (by decide) (hg _ gw184) (fun _ h9 => h9) rfl dC_comes_27 ?_
      refine lv_aload_n hx hb dC_comes_30 rfl (lv_at hl 0 rfl) ?_
      refine mm_get (v := .ref fa) hx hb hg inC hown hK hP hcL hc rfl 0 (by decide) (hg _ gw183) (fun _ h9 => h9) rfl dC_comes_31 ?_
      refine lv_aload_n hx hb dC_comes_34 rfl (lv_at hl 0 rfl) ?_
      refine mm_get (v := .ref fa) hx hb hg inC hown hK hP hcL hc rfl 0 (by decide) (hg _ gw183) (fun _ h9 => h9) rfl dC_comes_35 ?_
      refine lv_iload_n hx hb dC_comes_38 rfl (lv_at hl 1 rfl) ?_
      refine mm_aldq hx hb hK hP hF.1.1 hF.1.2 (vp_in_nI (show i < 4 by omega) (by omega)) (q := (fn i)) (by rw [nI_clamp (by omega)]) dC_comes_39 ?_
      refine lv_iconst (v := (-1)) hx hb dC_comes_40 (by decide) ?_
      refine lv_iconst (v := nI 0) hx hb dC_comes_41 (by decide) ?_
      refine lv_iconst (v := nI 0) hx hb dC_comes_42 (by decide) ?_
      refine then_v (run_VN (n := 5) (As := [.ref fa, .ref (fn i), .int (-1), .int (nI 0), .int (nI 0)]) (rest := []) C0 (w_through hn hty hF ho hR hi4 (hfn i hi4) (by omega) (by omega)) gw411 nx408 gw410 gsW_through gw2 (by decide +kernel) ⟨Nat.le_of_ble_eq_true rfl, Nat.le_of_ble_eq_true rfl⟩ rfl rfl ⟨Nat.le_of_ble_eq_true rfl, Nat.le_of_ble_eq_true rfl⟩ hP hty.1.1.1 v1 rfl rfl rfl hl.1 rfl (Nat.le_of_ble_eq_true rfl) dC_comes_43) hS hA (fun f5 H locs hq43 hP hS => ?_)
      obtain ⟨⟨wpl, hw⟩, hF2, hfr⟩ := hq43
      obtain ⟨c9, hc9⟩ : ∃ z, z = (th_run σ i (-1) 0 0 64 (th_o σ i) (th_c σ i wpl)) := ⟨_, rfl⟩
      rw [← hc9] at hw
      have hc2 : f5 cc = .inr (5, [.ref fa, .ref ww, .ref kk]) := by rw [hfr _ (hty.notO hc (by decide) (by decide))]; exact hc
      refine lv_aload_n hx hb dC_comes_46 rfl (lv_at hl 0 rfl) ?_
      refine mm_get (v := .ref ww) hx hb hg inC hown hK hP hcL hc2 rfl 1 (by decide) (hg _ gw184) (fun _ h9 => h9) rfl dC_comes_47 ?_
      refine lv_iload_n hx hb dC_comes_50 rfl (lv_at hl 2 rfl) ?_
      refine then_i (run_VN (n := 1) (As := [.int (nI pl)]) (rest := []) C0 (w_cameTo hn hw.1.1.1 hw.2.1) gw525 nx522 gw524 gsW_cameTo gw2 (by decide +kernel) ⟨Nat.le_of_ble_eq_true rfl, Nat.le_of_ble_eq_true rfl⟩ rfl rfl ⟨Nat.le_of_ble_eq_true rfl, Nat.le_of_ble_eq_true rfl⟩ hP hw.1.1.1 hw.2.1 rfl rfl rfl hl.1 rfl (Nat.le_of_ble_eq_true rfl) dC_comes_51) hS hA (fun r7 f6 H locs hq51 hP hS => ?_)
      obtain ⟨er7, ef6⟩ := hq51
      subst er7
      rw [ef6] at hP
      refine lv_if_eq (tgt := 61) hx hb dC_comes_54 (by decide) (fun c54 => ?_) (fun c54 => ?_)
      · have c54 : (q_cm c9.pm pl) = false := kb_0.mp c54
        refine lv_iconst (v := nI 0) hx hb dC_comes_61 (by decide) ?_
        refine retx_i C0 hP hS ⟨c4, fun j hj hj4 => ?_⟩ dC_comes_62
        obtain rfl : i = j := (nI_eq (by omega) (by omega)).mp (hxi.symm.trans hj)
        have hsz := (hfn i hi4).1
        refine ⟨c13, fun q hq hqs => ⟨⟨wpl, ?_⟩, WSt.ty hw, hF2, hfr⟩⟩
        obtain rfl : pl = q := (nI_eq (by omega) (by omega)).mp (hyp.symm.trans hq)
        rw [← hc9, c54]; rfl
      · have c54 : (q_cm c9.pm pl) = true := kb_t.mp c54
        refine lv_iconst (v := nI 1) hx hb dC_comes_57 (by decide) ?_
        refine lv_goto (tgt := 62) hx hb dC_comes_58 (by decide) ?_
        refine retx_i C0 hP hS ⟨c4, fun j hj hj4 => ?_⟩ dC_comes_62
        obtain rfl : i = j := (nI_eq (by omega) (by omega)).mp (hxi.symm.trans hj)
        have hsz := (hfn i hi4).1
        refine ⟨c13, fun q hq hqs => ⟨⟨wpl, ?_⟩, WSt.ty hw, hF2, hfr⟩⟩
        obtain rfl : pl = q := (nI_eq (by omega) (by omega)).mp (hyp.symm.trans hq)
        rw [← hc9, c54]; rfl
    · have c13 : (q_in y (nI 0) (nI (sz σ i))) = false := kb_0.mp c13
      exact thr (text := "no such function or place") (names := ["java/lang/RuntimeException", "java/lang/Exception"]) C0 hst hX hno hP hS hl.1 (by decide +kernel) (by decide +kernel) gw208 gw11 rfl (by decide +kernel) gx_IllegalArgumentException (vo_c rfl rfl go_IllegalArgumentException) dC_comes_16 dC_comes_19 dC_comes_20 dC_comes_22 dC_comes_25 (Nat.le_of_ble_eq_true rfl) (Nat.le_of_ble_eq_true rfl) (Nat.le_of_ble_eq_true rfl) (Nat.le_of_ble_eq_true rfl) ⟨rfl, Or.inr (fun j hj hj4 => by obtain rfl : i = j := (nI_eq (by omega) (by omega)).mp (hxi.symm.trans hj); exact c13)⟩
