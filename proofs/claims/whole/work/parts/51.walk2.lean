/-! Walk: endAt, passCall, leaveOtherSide, takeWaitingSide -/
theorem nI0_toInt : (nI 0).toInt = 0 := by decide +kernel
theorem i32_other {k : Int32} (hk : -1000 ≤ k.toInt ∧ k.toInt ≤ 1000) : (-k - nI 1).toInt = -k.toInt - 1 := by
  have h1 : (-k).toInt = -k.toInt := i32_neg (by omega)
  have h2 : (nI 1).toInt = 1 := by decide +kernel
  rw [Int32.toInt_sub, h1, h2]
  exact Int.bmod_eq_of_le (by omega) (by omega)
set_option maxRecDepth 100000 in
set_option maxHeartbeats 4000000 in
theorem w_endAt {l : Launch} {D : va_G} {tys : List (ClassId × FieldType)} {L : List Nat} {f : Nat → va_E} (hn : L.Nodup) {W wk wa wp ws aA aB en : Nat} {ap gr pm lu : Int32} (hWL : W ∈ L) (v1 : f W = .inr (4, [.ref wk, .ref wa, .ref wp, .int (nI ws), .int ap, .int (nI aA), .int (nI aB), .int gr, .int pm, .int lu, .int (nI en)])) {wkb : Nat} {K : kl_K} (hwk : wk ∈ L) (hwkb : wkb ∈ L) (hk : KnAt tys f wk wkb K) {T : Int} (hok : kl_ok T K) (hT : T ≤ 290000) {dr : Nat} {pr pra prb prk prN : Nat} {prga prgb prgk : Nat → Int32} {prxa prxb : Nat → Nat} (prH : RelAt tys L f pr pra prb prk prN prga prgb prgk prxa prxb) {F sA oA sz oi ni : Nat} {gv : Int32} (hFL : F ∈ L) (w1 : f F = .inr (0, [.ref dr, .ref pr, .ref sA, .ref oA, .int (nI sz), .int (nI oi), .int (nI ni), .int gv])) {pl b : Nat} {k : Int32} (hb12 : b < 12) (hkk : -1001 ≤ k.toInt ∧ k.toInt ≤ 1001) : MetV l yW_endAt wW_endAt ({ frames := 2, cells := 0, slots := 0, locals := 47 } : Room) D tys L f [.ref W, .int (nI pl), .ref F, .int (nI b), .int k] (fun f' => f' W = .inr (4, [.ref wk, .ref wa, .ref wp, .int (nI ws), .int ap, .int (nI aA), .int (nI aB), .int gr, .int pm, .int (n_lu lu (nI pl) (allB (kl_sh 1 2 prxa prxb prgk (kl_give 3 b k.toInt K)) prN 0)), .int (nI (en + 1))]) ∧ KnAt tys f' wk wkb (kl_give 3 b k.toInt K) ∧ Same3 f f' W wk wkb) := by
  refine met_of "LiquidChecker$Walk" (by decide) rfl (Nat.le_of_ble_eq_true rfl) ?_
  intro pgm e s m below meth c ls C0 hP hl
  obtain ⟨hx, hb, hml, hown, hg, hr, hlocks, hK, hN⟩ := id C0
  have hA : ∀ a ∈ L, inL L a := fun _ h => h
  obtain ⟨H, hH⟩ : ∃ z, z = s.heap := ⟨_, rfl⟩
  rw [← hH] at hP ⊢
  have hS : va_S (inL L) s.heap H [] := by rw [hH]; exact va_S.rf
  have hl : lv_has ls 5 [(0, .ref W), (1, .int (nI pl)), (2, .ref F), (3, .int (nI b)), (4, .int k)] := hl
  refine lv_aload_n hx hb dW_endAt_0 rfl (lv_at hl 0 rfl) ?_
  refine mm_get (v := .ref wk) hx hb hg inW hown hK hP hWL v1 rfl 0 (by decide) (hg _ gw52) (fun _ h9 => h9) rfl dW_endAt_1 ?_
  refine lv_iconst (v := nI 3) hx hb dW_endAt_4 (by decide) ?_
  refine lv_iload_n hx hb dW_endAt_5 rfl (lv_at hl 3 rfl) ?_
  refine lv_iload hx hb dW_endAt_6 (lv_at hl 4 rfl) ?_
  refine then_v (run_VN (n := 3) (As := [.int (nI 3), .int (nI b), .int k]) (rest := []) C0 (ka_give hn hwk hwkb hk hok (by omega) (by omega) hb12 hkk) gw454 nx451 gw453 gsK_give gw3 (by decide +kernel) ⟨Nat.le_of_ble_eq_true rfl, Nat.le_of_ble_eq_true rfl⟩ rfl rfl ⟨Nat.le_of_ble_eq_true rfl, Nat.le_of_ble_eq_true rfl⟩ hP hwk (hk).1 rfl rfl rfl hl.1 rfl (Nat.le_of_ble_eq_true rfl) dW_endAt_8) hS hA (fun f1 H locs hq8 hP hS => ?_)
  obtain ⟨hk2, hsm⟩ := hq8
  have prH2 := prH.wk v1 hk (f' := f1) (fun z z1 z2 z3 => hsm z z2 z3)
  have p2 : f1 W = .inr (4, [.ref wk, .ref wa, .ref wp, .int (nI ws), .int ap, .int (nI aA), .int (nI aB), .int gr, .int pm, .int lu, .int (nI en)]) := by rw [hsm _ (mm_OO v1 (hk).1 (by decide)) (mm_IO (hk).2.choose_spec.1 v1)]; exact v1
  have p3 : f1 F = .inr (0, [.ref dr, .ref pr, .ref sA, .ref oA, .int (nI sz), .int (nI oi), .int (nI ni), .int gv]) := by rw [hsm _ (mm_OO w1 (hk).1 (by decide)) (mm_IO (hk).2.choose_spec.1 w1)]; exact w1
  have hok2 := kl_give_ok (a := 3) (b := b) (k := k.toInt) hb12 hkk hok
  refine lv_aload_n hx hb dW_endAt_11 rfl (lv_at hl 0 rfl) ?_
  refine lv_iload_n hx hb dW_endAt_12 rfl (lv_at hl 1 rfl) ?_
  refine lv_aload_n hx hb dW_endAt_13 rfl (lv_at hl 2 rfl) ?_
  refine mm_getN (v := .ref pr) hx hb hg inF hown hK hP hFL p3 rfl 1 (by decide) (va_Nw.use rfl (hN _ nx155)) (fun _ h9 => h9) rfl dW_endAt_14 ?_
  refine lv_aload_n hx hb dW_endAt_17 rfl (lv_at hl 0 rfl) ?_
  refine mm_get (v := .ref wk) hx hb hg inW hown hK hP hWL p2 rfl 0 (by decide) (hg _ gw52) (fun _ h9 => h9) rfl dW_endAt_18 ?_
  refine lv_iconst (v := nI 1) hx hb dW_endAt_21 (by decide) ?_
  refine lv_iconst (v := nI 2) hx hb dW_endAt_22 (by decide) ?_
  refine then_i (run_VN (n := 3) (As := [.ref wk, .int (nI 1), .int (nI 2)]) (rest := [.int (nI pl), .ref W]) C0 (ra_shownBy hn prH2 hwk hwkb (by omega) (by omega) (by omega) hk2 hok2) gw461 nx458 gw460 gsR_shownBy gw5 (by decide +kernel) ⟨Nat.le_of_ble_eq_true rfl, Nat.le_of_ble_eq_true rfl⟩ rfl rfl ⟨Nat.le_of_ble_eq_true rfl, Nat.le_of_ble_eq_true rfl⟩ hP (prH2).1.1 (prH2).2.1 rfl rfl rfl hl.1 rfl (Nat.le_of_ble_eq_true rfl) dW_endAt_23) hS hA (fun r6 f5 H locs hq23 hP hS => ?_)
  obtain ⟨er6, ef5⟩ := hq23
  subst er6
  rw [ef5] at hP
  refine then_v (run_V (n := 2) (As := [.int (nI pl), .int (kb (allB (kl_sh 1 2 prxa prxb prgk (kl_give 3 b k.toInt K)) prN 0))]) (rest := []) C0 (w_noteShown hn hWL p2) gw469 gw466 gw468 gsW_noteShown gw2 (by decide +kernel) ⟨Nat.le_of_ble_eq_true rfl, Nat.le_of_ble_eq_true rfl⟩ rfl rfl ⟨Nat.le_of_ble_eq_true rfl, Nat.le_of_ble_eq_true rfl⟩ hP hWL p2 rfl rfl rfl hl.1 rfl (Nat.le_of_ble_eq_true rfl) dW_endAt_26) hS hA (fun f7 H locs hq26 hP hS => ?_)
  obtain ⟨hv2, hsv⟩ := hq26
  have p8 : f7 F = .inr (0, [.ref dr, .ref pr, .ref sA, .ref oA, .int (nI sz), .int (nI oi), .int (nI ni), .int gv]) := by rw [hsv _ (mm_OO p3 p2 (by decide))]; exact p3
  have p9 : KnAt tys f7 wk wkb (kl_give 3 b k.toInt K) := hk2.eq (hsv _ (mm_OO (hk2).1 p2 (by decide))) (hsv _ (Ne.symm (mm_IO (hk2).2.choose_spec.1 p2)))
  refine lv_aload_n hx hb dW_endAt_29 rfl (lv_at hl 0 rfl) ?_
  refine lv_dup hx hb dW_endAt_30 rfl ?_
  refine mm_get (v := .int (nI en)) hx hb hg inW hown hK hP hWL hv2 rfl 10 (by decide) (hg _ gw64) (fun _ h9 => h9) rfl dW_endAt_31 ?_
  refine lv_iconst (v := nI 1) hx hb dW_endAt_34 (by decide) ?_
  refine lv_iadd hx hb dW_endAt_35 ?_
  rw [nI_add]
  refine mm_put (v := .int (nI (en + 1))) (ty := .int) hx hb hg inW tyW tyW_ok nmW hown hK hn hA hP hS hWL hv2 rfl 10 (by decide) (hg _ gw64) (fun _ h9 => h9) rfl (by decide +kernel) rfl rfl (Nat.le_of_ble_eq_true rfl) dW_endAt_36 (fun H locs hP hS => ?_)
  obtain ⟨f10, hf10⟩ : ∃ z, z = va_up f7 W (.inr (4, [.ref wk, .ref wa, .ref wp, .int (nI ws), .int ap, .int (nI aA), .int (nI aB), .int gr, .int pm, .int (n_lu lu (nI pl) (allB (kl_sh 1 2 prxa prxb prgk (kl_give 3 b k.toInt K)) prN 0)), .int (nI (en + 1))])) := ⟨_, rfl⟩
  have hP : va_P D zCl (va_pl L f10) H := by rw [hf10]; exact hP
  have p11 : f10 F = .inr (0, [.ref dr, .ref pr, .ref sA, .ref oA, .int (nI sz), .int (nI oi), .int (nI ni), .int gv]) := by rw [hf10, va_up_ne _ _ (mm_OO p8 hv2 (by decide))]; exact p8
  have p12 : KnAt tys f10 wk wkb (kl_give 3 b k.toInt K) := p9.eq (by rw [hf10, va_up_ne _ _ (mm_OO (p9).1 hv2 (by decide))]) (by rw [hf10, va_up_ne _ _ (Ne.symm (mm_IO (p9).2.choose_spec.1 hv2))])
  have p13 : f10 W = .inr (4, [.ref wk, .ref wa, .ref wp, .int (nI ws), .int ap, .int (nI aA), .int (nI aB), .int gr, .int pm, .int (n_lu lu (nI pl) (allB (kl_sh 1 2 prxa prxb prgk (kl_give 3 b k.toInt K)) prN 0)), .int (nI (en + 1))]) := by rw [hf10]; exact va_up_self _ _ _
  exact ret_v C0 hP hS ⟨p13, p12, fun z z1 z2 z3 => by rw [hf10, va_up_ne _ _ z1, hsv z z1, hsm z z2 z3]⟩ dW_endAt_39
set_option maxRecDepth 100000 in
set_option maxHeartbeats 4000000 in
theorem w_passCall {l : Launch} {D : va_G} {tys : List (ClassId × FieldType)} {L : List Nat} {f : Nat → va_E} (hn : L.Nodup) {W wk wa wp ws aA aB en : Nat} {ap gr pm lu : Int32} (hWL : W ∈ L) (v1 : f W = .inr (4, [.ref wk, .ref wa, .ref wp, .int (nI ws), .int ap, .int (nI aA), .int (nI aB), .int gr, .int pm, .int lu, .int (nI en)])) {wkb : Nat} {K : kl_K} (hwk : wk ∈ L) (hwkb : wkb ∈ L) (hk : KnAt tys f wk wkb K) {T : Int} (hok : kl_ok T K) (hT : T ≤ 290000) {dr dra drb drk drN : Nat} {drga drgb drgk : Nat → Int32} {drxa drxb : Nat → Nat} (drH : RelAt tys L f dr dra drb drk drN drga drgb drgk drxa drxb) {pr pra prb prk prN : Nat} {prga prgb prgk : Nat → Int32} {prxa prxb : Nat → Nat} (prH : RelAt tys L f pr pra prb prk prN prga prgb prgk prxa prxb) {F sA oA sz oi ni : Nat} {gv : Int32} (hFL : F ∈ L) (w1 : f F = .inr (0, [.ref dr, .ref pr, .ref sA, .ref oA, .int (nI sz), .int (nI oi), .int (nI ni), .int gv])) {q a b cc : Nat} {kd k ld : Int32} (hqL : q ∈ L) (y1 : f q = .inr (3, [.int kd, .int (nI a), .int (nI b), .int (nI cc), .int k, .int ld])) (ha12 : a < 12) (hb12 : b < 12) (hc12 : cc < 12) {pl : Nat} : MetV l yW_passCall wW_passCall ({ frames := 2, cells := 0, slots := 0, locals := 52 } : Room) D tys L f [.ref W, .int (nI pl), .ref q, .ref F] (fun f' => f' W = .inr (4, [.ref wk, .ref wa, .ref wp, .int (nI ws), .int ap, .int (nI aA), .int (nI aB), .int gr, .int pm, .int (n_lu lu (nI pl) (allB (kl_sh b cc drxa drxb drgk K) drN 0)), .int (nI en)]) ∧ KnAt tys f' wk wkb (kl_forget 3 (kl_give a 3 0 (r_it (kl_rel b cc prxa prxb prgk) prN 0 K))) ∧ Same3 f f' W wk wkb) := by
  refine met_of "LiquidChecker$Walk" (by decide) rfl (Nat.le_of_ble_eq_true rfl) ?_
  intro pgm e s m below meth c ls C0 hP hl
  obtain ⟨hx, hb, hml, hown, hg, hr, hlocks, hK, hN⟩ := id C0
  have hA : ∀ a ∈ L, inL L a := fun _ h => h
  obtain ⟨H, hH⟩ : ∃ z, z = s.heap := ⟨_, rfl⟩
  rw [← hH] at hP ⊢
  have hS : va_S (inL L) s.heap H [] := by rw [hH]; exact va_S.rf
  have hl : lv_has ls 4 [(0, .ref W), (1, .int (nI pl)), (2, .ref q), (3, .ref F)] := hl
  refine lv_aload_n hx hb dW_passCall_0 rfl (lv_at hl 0 rfl) ?_
  refine lv_iload_n hx hb dW_passCall_1 rfl (lv_at hl 1 rfl) ?_
  refine lv_aload_n hx hb dW_passCall_2 rfl (lv_at hl 3 rfl) ?_
  refine mm_getN (v := .ref dr) hx hb hg inF hown hK hP hFL w1 rfl 0 (by decide) (va_Nw.use rfl (hN _ nx152)) (fun _ h9 => h9) rfl dW_passCall_3 ?_
  refine lv_aload_n hx hb dW_passCall_6 rfl (lv_at hl 0 rfl) ?_
  refine mm_get (v := .ref wk) hx hb hg inW hown hK hP hWL v1 rfl 0 (by decide) (hg _ gw52) (fun _ h9 => h9) rfl dW_passCall_7 ?_
  refine lv_aload_n hx hb dW_passCall_10 rfl (lv_at hl 2 rfl) ?_
  refine mm_getN (v := .int (nI b)) hx hb hg inS hown hK hP hqL y1 rfl 2 (by decide) (va_Nw.use rfl (hN _ nx130)) (fun _ h9 => h9) rfl dW_passCall_11 ?_
  refine lv_aload_n hx hb dW_passCall_14 rfl (lv_at hl 2 rfl) ?_
  refine mm_getN (v := .int (nI cc)) hx hb hg inS hown hK hP hqL y1 rfl 3 (by decide) (va_Nw.use rfl (hN _ nx132)) (fun _ h9 => h9) rfl dW_passCall_15 ?_
  refine then_i (run_VN (n := 3) (As := [.ref wk, .int (nI b), .int (nI cc)]) (rest := [.int (nI pl), .ref W]) C0 (ra_shownBy hn drH hwk hwkb (by omega) hb12 hc12 hk hok) gw461 nx458 gw460 gsR_shownBy gw5 (by decide +kernel) ⟨Nat.le_of_ble_eq_true rfl, Nat.le_of_ble_eq_true rfl⟩ rfl rfl ⟨Nat.le_of_ble_eq_true rfl, Nat.le_of_ble_eq_true rfl⟩ hP (drH).1.1 (drH).2.1 rfl rfl rfl hl.1 rfl (Nat.le_of_ble_eq_true rfl) dW_passCall_18) hS hA (fun r2 f1 H locs hq18 hP hS => ?_)
  obtain ⟨er2, ef1⟩ := hq18
  subst er2
  rw [ef1] at hP
  refine then_v (run_V (n := 2) (As := [.int (nI pl), .int (kb (allB (kl_sh b cc drxa drxb drgk K) drN 0))]) (rest := []) C0 (w_noteShown hn hWL v1) gw469 gw466 gw468 gsW_noteShown gw2 (by decide +kernel) ⟨Nat.le_of_ble_eq_true rfl, Nat.le_of_ble_eq_true rfl⟩ rfl rfl ⟨Nat.le_of_ble_eq_true rfl, Nat.le_of_ble_eq_true rfl⟩ hP hWL v1 rfl rfl rfl hl.1 rfl (Nat.le_of_ble_eq_true rfl) dW_passCall_21) hS hA (fun f3 H locs hq21 hP hS => ?_)
  obtain ⟨hv2, hsv⟩ := hq21
  have prH2 := prH.wk v1 hk (f' := f3) (fun z z1 z2 z3 => hsv z z1)
  have p4 : f3 F = .inr (0, [.ref dr, .ref pr, .ref sA, .ref oA, .int (nI sz), .int (nI oi), .int (nI ni), .int gv]) := by rw [hsv _ (mm_OO w1 v1 (by decide))]; exact w1
  have p5 : f3 q = .inr (3, [.int kd, .int (nI a), .int (nI b), .int (nI cc), .int k, .int ld]) := by rw [hsv _ (mm_OO y1 v1 (by decide))]; exact y1
  have p6 : KnAt tys f3 wk wkb K := hk.eq (hsv _ (mm_OO (hk).1 v1 (by decide))) (hsv _ (Ne.symm (mm_IO (hk).2.choose_spec.1 v1)))
  refine lv_aload_n hx hb dW_passCall_24 rfl (lv_at hl 3 rfl) ?_
  refine mm_getN (v := .ref pr) hx hb hg inF hown hK hP hFL p4 rfl 1 (by decide) (va_Nw.use rfl (hN _ nx155)) (fun _ h9 => h9) rfl dW_passCall_25 ?_
  refine lv_aload_n hx hb dW_passCall_28 rfl (lv_at hl 0 rfl) ?_
  refine mm_get (v := .ref wk) hx hb hg inW hown hK hP hWL hv2 rfl 0 (by decide) (hg _ gw52) (fun _ h9 => h9) rfl dW_passCall_29 ?_
  refine lv_aload_n hx hb dW_passCall_32 rfl (lv_at hl 2 rfl) ?_
  refine mm_getN (v := .int (nI b)) hx hb hg inS hown hK hP hqL p5 rfl 2 (by decide) (va_Nw.use rfl (hN _ nx130)) (fun _ h9 => h9) rfl dW_passCall_33 ?_
  refine lv_aload_n hx hb dW_passCall_36 rfl (lv_at hl 2 rfl) ?_
  refine mm_getN (v := .int (nI cc)) hx hb hg inS hown hK hP hqL p5 rfl 3 (by decide) (va_Nw.use rfl (hN _ nx132)) (fun _ h9 => h9) rfl dW_passCall_37 ?_
  refine then_v (run_VN (n := 3) (As := [.ref wk, .int (nI b), .int (nI cc)]) (rest := []) C0 (ra_learnedBy hn prH2 hwk hwkb (by omega) hb12 hc12 p6 hok) gw424 nx421 gw423 gsR_learnedBy gw5 (by decide +kernel) ⟨Nat.le_of_ble_eq_true rfl, Nat.le_of_ble_eq_true rfl⟩ rfl rfl ⟨Nat.le_of_ble_eq_true rfl, Nat.le_of_ble_eq_true rfl⟩ hP (prH2).1.1 (prH2).2.1 rfl rfl rfl hl.1 rfl (Nat.le_of_ble_eq_true rfl) dW_passCall_40) hS hA (fun f7 H locs hq40 hP hS => ?_)
  obtain ⟨hk3, hs3⟩ := hq40
  have p8 : f7 F = .inr (0, [.ref dr, .ref pr, .ref sA, .ref oA, .int (nI sz), .int (nI oi), .int (nI ni), .int gv]) := by rw [hs3 _ (mm_OO p4 (p6).1 (by decide)) (mm_IO (p6).2.choose_spec.1 p4)]; exact p4
  have p9 : f7 q = .inr (3, [.int kd, .int (nI a), .int (nI b), .int (nI cc), .int k, .int ld]) := by rw [hs3 _ (mm_OO p5 (p6).1 (by decide)) (mm_IO (p6).2.choose_spec.1 p5)]; exact p5
  have p11 : f7 W = .inr (4, [.ref wk, .ref wa, .ref wp, .int (nI ws), .int ap, .int (nI aA), .int (nI aB), .int gr, .int pm, .int (n_lu lu (nI pl) (allB (kl_sh b cc drxa drxb drgk K) drN 0)), .int (nI en)]) := by rw [hs3 _ (mm_OO hv2 (p6).1 (by decide)) (mm_IO (p6).2.choose_spec.1 hv2)]; exact hv2
  have hok3 := rels_ok hb12 hc12 (fun j hj => (prH.2.2.2.2.2.2.1 j hj).2) (fun j hj => (prH.2.2.2.2.2.2.2.1 j hj).2) prH.2.2.2.2.2.2.2.2 prH.2.2.2.2.2.1 hok
  refine lv_aload_n hx hb dW_passCall_43 rfl (lv_at hl 0 rfl) ?_
  refine mm_get (v := .ref wk) hx hb hg inW hown hK hP hWL p11 rfl 0 (by decide) (hg _ gw52) (fun _ h9 => h9) rfl dW_passCall_44 ?_
  refine lv_aload_n hx hb dW_passCall_47 rfl (lv_at hl 2 rfl) ?_
  refine mm_getN (v := .int (nI a)) hx hb hg inS hown hK hP hqL p9 rfl 1 (by decide) (va_Nw.use rfl (hN _ nx128)) (fun _ h9 => h9) rfl dW_passCall_48 ?_
  refine lv_iconst (v := nI 3) hx hb dW_passCall_51 (by decide) ?_
  refine lv_iconst (v := nI 0) hx hb dW_passCall_52 (by decide) ?_
  refine then_v (run_VN (n := 3) (As := [.int (nI a), .int (nI 3), .int (nI 0)]) (rest := []) C0 (ka_give hn hwk hwkb hk3 hok3 (by omega) ha12 (by omega) (by rw [nI0_toInt]; omega)) gw454 nx451 gw453 gsK_give gw3 (by decide +kernel) ⟨Nat.le_of_ble_eq_true rfl, Nat.le_of_ble_eq_true rfl⟩ rfl rfl ⟨Nat.le_of_ble_eq_true rfl, Nat.le_of_ble_eq_true rfl⟩ hP hwk (hk3).1 rfl rfl rfl hl.1 rfl (Nat.le_of_ble_eq_true rfl) dW_passCall_53) hS hA (fun f12 H locs hq53 hP hS => ?_)
  obtain ⟨hk4, hs4⟩ := hq53
  rw [nI0_toInt] at hk4
  have p13 : f12 F = .inr (0, [.ref dr, .ref pr, .ref sA, .ref oA, .int (nI sz), .int (nI oi), .int (nI ni), .int gv]) := by rw [hs4 _ (mm_OO p8 (hk3).1 (by decide)) (mm_IO (hk3).2.choose_spec.1 p8)]; exact p8
  have p14 : f12 q = .inr (3, [.int kd, .int (nI a), .int (nI b), .int (nI cc), .int k, .int ld]) := by rw [hs4 _ (mm_OO p9 (hk3).1 (by decide)) (mm_IO (hk3).2.choose_spec.1 p9)]; exact p9
  have p15 : f12 W = .inr (4, [.ref wk, .ref wa, .ref wp, .int (nI ws), .int ap, .int (nI aA), .int (nI aB), .int gr, .int pm, .int (n_lu lu (nI pl) (allB (kl_sh b cc drxa drxb drgk K) drN 0)), .int (nI en)]) := by rw [hs4 _ (mm_OO p11 (hk3).1 (by decide)) (mm_IO (hk3).2.choose_spec.1 p11)]; exact p11
  have hok4 := kl_give0_ok (a := a) (b := 3) (by omega) hok3
  refine lv_aload_n hx hb dW_passCall_56 rfl (lv_at hl 0 rfl) ?_
  refine mm_get (v := .ref wk) hx hb hg inW hown hK hP hWL p15 rfl 0 (by decide) (hg _ gw52) (fun _ h9 => h9) rfl dW_passCall_57 ?_
  refine lv_iconst (v := nI 3) hx hb dW_passCall_60 (by decide) ?_
  refine then_v (run_VN (n := 1) (As := [.int (nI 3)]) (rest := []) C0 (ka_forget hn hwk hwkb hk4 hok4 (by omega)) gw481 nx478 gw480 gsK_forget gw3 (by decide +kernel) ⟨Nat.le_of_ble_eq_true rfl, Nat.le_of_ble_eq_true rfl⟩ rfl rfl ⟨Nat.le_of_ble_eq_true rfl, Nat.le_of_ble_eq_true rfl⟩ hP hwk (hk4).1 rfl rfl rfl hl.1 rfl (Nat.le_of_ble_eq_true rfl) dW_passCall_61) hS hA (fun f17 H locs hq61 hP hS => ?_)
  obtain ⟨hk5, hs5⟩ := hq61
  have p18 : f17 F = .inr (0, [.ref dr, .ref pr, .ref sA, .ref oA, .int (nI sz), .int (nI oi), .int (nI ni), .int gv]) := by rw [hs5 _ (mm_OO p13 (hk4).1 (by decide)) (mm_IO (hk4).2.choose_spec.1 p13)]; exact p13
  have p19 : f17 q = .inr (3, [.int kd, .int (nI a), .int (nI b), .int (nI cc), .int k, .int ld]) := by rw [hs5 _ (mm_OO p14 (hk4).1 (by decide)) (mm_IO (hk4).2.choose_spec.1 p14)]; exact p14
  have p20 : f17 W = .inr (4, [.ref wk, .ref wa, .ref wp, .int (nI ws), .int ap, .int (nI aA), .int (nI aB), .int gr, .int pm, .int (n_lu lu (nI pl) (allB (kl_sh b cc drxa drxb drgk K) drN 0)), .int (nI en)]) := by rw [hs5 _ (mm_OO p15 (hk4).1 (by decide)) (mm_IO (hk4).2.choose_spec.1 p15)]; exact p15
  exact ret_v C0 hP hS ⟨p20, hk5, fun z z1 z2 z3 => by rw [hs5 z z2 z3, hs4 z z2 z3, hs3 z z2 z3, hsv z z1]⟩ dW_passCall_64
set_option maxRecDepth 100000 in
set_option maxHeartbeats 4000000 in
theorem w_leaveOtherSide {l : Launch} {D : va_G} {tys : List (ClassId × FieldType)} {L : List Nat} {f : Nat → va_E} (hn : L.Nodup) {W wk wa wp ws aA aB en : Nat} {ap gr pm lu : Int32} (hWL : W ∈ L) (v1 : f W = .inr (4, [.ref wk, .ref wa, .ref wp, .int (nI ws), .int ap, .int (nI aA), .int (nI aB), .int gr, .int pm, .int lu, .int (nI en)])) {wkb : Nat} {K : kl_K} (hwk : wk ∈ L) (hwkb : wkb ∈ L) (hk : KnAt tys f wk wkb K) {T : Int} (hok : kl_ok T K) (hT : T ≤ 290000) {q a b : Nat} {cc : Int32} {kd k ld : Int32} (hqL : q ∈ L) (y1 : f q = .inr (3, [.int kd, .int (nI a), .int (nI b), .int cc, .int k, .int ld])) (ha12 : a < 12) (hb12 : b < 12) {wq wqb : Nat → Nat} {wpl : Nat → Int32} (hwaL : wa ∈ L) (x1 : mm_Q tys "LiquidChecker$Known" f wa 6 (fun j => some (wq j))) (hwpL : wp ∈ L) (x2 : mm_I tys f wp 6 wpl) (hwqL : ∀ j, j < 6 → wq j ∈ L ∧ wqb j ∈ L) (dwq : ∀ j, j < 6 → wk ≠ wq j ∧ wkb ≠ wqb j) (hws : ws < 6) (hany : KnAny tys f (wq ws) (wqb ws)) (hk1 : -1000 ≤ k.toInt ∧ k.toInt ≤ 1000) {tg : Int32} : MetV l yW_leaveOtherSide wW_leaveOtherSide ({ frames := 2, cells := 0, slots := 0, locals := 39 } : Room) D tys L f [.ref W, .ref q, .int tg] (fun f' => f' W = .inr (4, [.ref wk, .ref wa, .ref wp, .int (nI (if (kl_learn b a (-k.toInt - 1) K).1 = true then ws + 1 else ws)), .int ap, .int (nI aA), .int (nI aB), .int gr, .int pm, .int lu, .int (nI en)]) ∧ mm_I tys f' wp 6 (if (kl_learn b a (-k.toInt - 1) K).1 = true then upd wpl ws tg else wpl) ∧ KnAt tys f' (wq ws) (wqb ws) (kl_learn b a (-k.toInt - 1) K) ∧ KnAt tys f' wk wkb K ∧ ∀ z, z ≠ W → z ≠ wp → z ≠ wq ws → z ≠ wqb ws → f' z = f z) := by
  refine met_of "LiquidChecker$Walk" (by decide) rfl (Nat.le_of_ble_eq_true rfl) ?_
  intro pgm e s m below meth c ls C0 hP hl
  obtain ⟨hx, hb, hml, hown, hg, hr, hlocks, hK, hN⟩ := id C0
  have hA : ∀ a ∈ L, inL L a := fun _ h => h
  obtain ⟨H, hH⟩ : ∃ z, z = s.heap := ⟨_, rfl⟩
  rw [← hH] at hP ⊢
  have hS : va_S (inL L) s.heap H [] := by rw [hH]; exact va_S.rf
  have hl : lv_has ls 4 [(0, .ref W), (1, .ref q), (2, .int tg)] := hl
  refine lv_aload_n hx hb dW_leaveOtherSide_0 rfl (lv_at hl 0 rfl) ?_
  refine mm_get (v := .int (nI ws)) hx hb hg inW hown hK hP hWL v1 rfl 3 (by decide) (hg _ gw55) (fun _ h9 => h9) rfl dW_leaveOtherSide_1 ?_
  refine lv_bipush (v := nI 6) hx hb dW_leaveOtherSide_4 (by decide) ?_
  refine lv_icmp_lt (tgt := 10) hx hb dW_leaveOtherSide_6 (by decide) (fun c6 => ?_) (fun c6 => absurd (nI_lt hws (by omega)) c6)
  refine lv_aload_n hx hb dW_leaveOtherSide_10 rfl (lv_at hl 0 rfl) ?_
  refine mm_get (v := .ref wa) hx hb hg inW hown hK hP hWL v1 rfl 1 (by decide) (hg _ gw53) (fun _ h9 => h9) rfl dW_leaveOtherSide_11 ?_
  refine lv_aload_n hx hb dW_leaveOtherSide_14 rfl (lv_at hl 0 rfl) ?_
  refine mm_get (v := .int (nI ws)) hx hb hg inW hown hK hP hWL v1 rfl 3 (by decide) (hg _ gw55) (fun _ h9 => h9) rfl dW_leaveOtherSide_15 ?_
  refine mm_aldq hx hb hK hP hwaL x1 (vp_in_nI (show ws < 6 by omega) (by omega)) (q := (wq ws)) (by rw [nI_clamp (by omega)]) dW_leaveOtherSide_18 ?_
  refine lv_astore_n (lv' := [(3, .ref (wq ws)), (0, .ref W), (1, .ref q), (2, .int tg)]) hx hb dW_leaveOtherSide_19 rfl hl (by decide) rfl (fun ls hl => ?_)
  refine lv_aload_n hx hb dW_leaveOtherSide_20 rfl (lv_at hl 0 rfl) ?_
  refine lv_aload_n hx hb dW_leaveOtherSide_21 rfl (lv_at hl 1 rfl) ?_
  refine mm_get (v := .ref wk) hx hb hg inW hown hK hP hWL v1 rfl 0 (by decide) (hg _ gw52) (fun _ h9 => h9) rfl dW_leaveOtherSide_22 ?_
  refine then_v (run_VN (n := 1) (As := [.ref wk]) (rest := []) C0 (ka_copyFrom hn (hwqL ws hws).1 (hwqL ws hws).2 hany hwk hwkb hk (dwq ws hws).2 (dwq ws hws).1) gw493 nx490 gw492 gsK_copyFrom gw3 (by decide +kernel) ⟨Nat.le_of_ble_eq_true rfl, Nat.le_of_ble_eq_true rfl⟩ rfl rfl ⟨Nat.le_of_ble_eq_true rfl, Nat.le_of_ble_eq_true rfl⟩ hP (hwqL ws hws).1 hany.1.choose_spec rfl rfl rfl hl.1 rfl (Nat.le_of_ble_eq_true rfl) dW_leaveOtherSide_25) hS hA (fun f1 H locs hq25 hP hS => ?_)
  obtain ⟨hk6, hs6⟩ := hq25
  have p2 : f1 W = .inr (4, [.ref wk, .ref wa, .ref wp, .int (nI ws), .int ap, .int (nI aA), .int (nI aB), .int gr, .int pm, .int lu, .int (nI en)]) := by rw [hs6 _ (mm_OO v1 hany.1.choose_spec (by decide)) (mm_IO hany.2.choose_spec v1)]; exact v1
  have p3 : f1 q = .inr (3, [.int kd, .int (nI a), .int (nI b), .int cc, .int k, .int ld]) := by rw [hs6 _ (mm_OO y1 hany.1.choose_spec (by decide)) (mm_IO hany.2.choose_spec y1)]; exact y1
  have p4 : mm_Q tys "LiquidChecker$Known" f1 wa 6 (fun j => some (wq j)) := x1.eq (hs6 _ (Ne.symm (mm_QO x1 hany.1.choose_spec)) (Ne.symm (mm_IQ hany.2.choose_spec x1)))
  have p5 : mm_I tys f1 wp 6 wpl := x2.eq (hs6 _ (Ne.symm (mm_IO x2 hany.1.choose_spec)) (mm_II x2 hany.2.choose_spec (by decide)))
  have p6 : KnAt tys f1 wk wkb K := hk.eq (hs6 _ (dwq ws hws).1 (mm_IO hany.2.choose_spec hk.1)) (hs6 _ (Ne.symm (mm_IO hk.2.choose_spec.1 hany.1.choose_spec)) (dwq ws hws).2)
  refine lv_aload_n hx hb dW_leaveOtherSide_28 rfl (lv_at hl 0 rfl) ?_
  refine lv_aload_n hx hb dW_leaveOtherSide_29 rfl (lv_at hl 2 rfl) ?_
  refine mm_getN (v := .int (nI b)) hx hb hg inS hown hK hP hqL p3 rfl 2 (by decide) (va_Nw.use rfl (hN _ nx130)) (fun _ h9 => h9) rfl dW_leaveOtherSide_30 ?_
  refine lv_aload_n hx hb dW_leaveOtherSide_33 rfl (lv_at hl 2 rfl) ?_
  refine mm_getN (v := .int (nI a)) hx hb hg inS hown hK hP hqL p3 rfl 1 (by decide) (va_Nw.use rfl (hN _ nx128)) (fun _ h9 => h9) rfl dW_leaveOtherSide_34 ?_
  refine lv_aload_n hx hb dW_leaveOtherSide_37 rfl (lv_at hl 2 rfl) ?_
  refine mm_getN (v := .int k) hx hb hg inS hown hK hP hqL p3 rfl 4 (by decide) (va_Nw.use rfl (hN _ nx134)) (fun _ h9 => h9) rfl dW_leaveOtherSide_38 ?_
  refine lv_ineg hx hb dW_leaveOtherSide_41 ?_
  refine lv_iconst (v := nI 1) hx hb dW_leaveOtherSide_42 (by decide) ?_
  refine lv_isub hx hb dW_leaveOtherSide_43 ?_
  refine then_v (run_VN (n := 3) (As := [.int (nI b), .int (nI a), .int ((-k) - (nI 1))]) (rest := []) C0 (ka_learn hn (hwqL ws hws).1 (hwqL ws hws).2 hk6 hok (by omega) hb12 ha12 (by rw [i32_other hk1]; omega)) gw431 nx497 gw430 gsK_learn gw3 (by decide +kernel) ⟨Nat.le_of_ble_eq_true rfl, Nat.le_of_ble_eq_true rfl⟩ rfl rfl ⟨Nat.le_of_ble_eq_true rfl, Nat.le_of_ble_eq_true rfl⟩ hP (hwqL ws hws).1 (hk6).1 rfl rfl rfl hl.1 rfl (Nat.le_of_ble_eq_true rfl) dW_leaveOtherSide_44) hS hA (fun f7 H locs hq44 hP hS => ?_)
  obtain ⟨hk7, hs7⟩ := hq44
  rw [i32_other hk1] at hk7
  have p8 : f7 W = .inr (4, [.ref wk, .ref wa, .ref wp, .int (nI ws), .int ap, .int (nI aA), .int (nI aB), .int gr, .int pm, .int lu, .int (nI en)]) := by rw [hs7 _ (mm_OO v1 hany.1.choose_spec (by decide)) (mm_IO hany.2.choose_spec v1)]; exact p2
  have p9 : f7 q = .inr (3, [.int kd, .int (nI a), .int (nI b), .int cc, .int k, .int ld]) := by rw [hs7 _ (mm_OO y1 hany.1.choose_spec (by decide)) (mm_IO hany.2.choose_spec y1)]; exact p3
  have p10 : mm_Q tys "LiquidChecker$Known" f7 wa 6 (fun j => some (wq j)) := p4.eq (hs7 _ (Ne.symm (mm_QO x1 hany.1.choose_spec)) (Ne.symm (mm_IQ hany.2.choose_spec x1)))
  have p11 : mm_I tys f7 wp 6 wpl := p5.eq (hs7 _ (Ne.symm (mm_IO x2 hany.1.choose_spec)) (mm_II x2 hany.2.choose_spec (by decide)))
  have p12 : KnAt tys f7 wk wkb K := p6.eq (hs7 _ (dwq ws hws).1 (mm_IO hany.2.choose_spec hk.1)) (hs7 _ (Ne.symm (mm_IO hk.2.choose_spec.1 hany.1.choose_spec)) (dwq ws hws).2)
  refine lv_aload_n hx hb dW_leaveOtherSide_47 rfl (lv_at hl 0 rfl) ?_
  refine mm_getN (v := .int (kb (kl_learn b a (-k.toInt - 1) K).1)) hx hb hg inK hown hK hP (hwqL ws hws).1 (hk7).1 rfl 1 (by decide) (va_Nw.use rfl (hN _ nx43)) (fun _ h9 => h9) rfl dW_leaveOtherSide_48 ?_
  refine lv_if_eq (tgt := 74) hx hb dW_leaveOtherSide_51 (by decide) (fun c51 => ?_) (fun c51 => ?_)
  · have c51 : ((kl_learn b a (-k.toInt - 1) K).1) = false := kb_0.mp c51
    refine ret_v C0 hP hS ⟨?_, ?_, ?_, ?_, ?_⟩ dW_leaveOtherSide_74
    · rw [if_neg (by rw [c51]; decide)]; exact p8
    · rw [if_neg (by rw [c51]; decide)]; exact p11
    · exact hk7
    · exact p12
    · intro z z1 z2 z3 z4; rw [hs7 z z3 z4, hs6 z z3 z4]
  · have c51 : ((kl_learn b a (-k.toInt - 1) K).1) = true := kb_t.mp c51
    refine lv_aload_n hx hb dW_leaveOtherSide_54 rfl (lv_at hl 1 rfl) ?_
    refine mm_get (v := .ref wp) hx hb hg inW hown hK hP hWL p8 rfl 2 (by decide) (hg _ gw54) (fun _ h9 => h9) rfl dW_leaveOtherSide_55 ?_
    refine lv_aload_n hx hb dW_leaveOtherSide_58 rfl (lv_at hl 1 rfl) ?_
    refine mm_get (v := .int (nI ws)) hx hb hg inW hown hK hP hWL p8 rfl 3 (by decide) (hg _ gw55) (fun _ h9 => h9) rfl dW_leaveOtherSide_59 ?_
    refine lv_iload_n hx hb dW_leaveOtherSide_62 rfl (lv_at hl 3 rfl) ?_
    refine mm_iast hx hb hK hn hA hP hS hwpL p11 (vp_in_nI (show ws < 6 by omega) (by omega)) dW_leaveOtherSide_63 (fun H locs hP hS => ?_)
    rw [nI_clamp (by omega)] at hP
    obtain ⟨f14, hf14⟩ : ∃ z, z = mm_si f7 wp (upd wpl ws tg) := ⟨_, rfl⟩
    have hP : va_P D zCl (va_pl L f14) H := by rw [hf14]; exact hP
    have p15 : f14 W = .inr (4, [.ref wk, .ref wa, .ref wp, .int (nI ws), .int ap, .int (nI aA), .int (nI aB), .int gr, .int pm, .int lu, .int (nI en)]) := by rw [hf14, mm_si_ne (mm_IO p11 p8)]; exact p8
    have p16 : f14 q = .inr (3, [.int kd, .int (nI a), .int (nI b), .int cc, .int k, .int ld]) := by rw [hf14, mm_si_ne (mm_IO p11 p9)]; exact p9
    have p17 : mm_Q tys "LiquidChecker$Known" f14 wa 6 (fun j => some (wq j)) := p10.eq (by rw [hf14, mm_si_ne (Ne.symm (mm_IQ p11 p10))])
    have p18 : KnAt tys f14 wk wkb K := p12.eq (by rw [hf14, mm_si_ne (mm_IO p11 (p12).1)]) (by rw [hf14, mm_si_ne (mm_II (p12).2.choose_spec.1 p11 (by decide))])
    have p19 : KnAt tys f14 (wq ws) (wqb ws) (kl_learn b a (-k.toInt - 1) K) := hk7.eq (by rw [hf14, mm_si_ne (Ne.symm (Ne.symm (mm_IO x2 hany.1.choose_spec)))]) (by rw [hf14, mm_si_ne (Ne.symm (mm_II x2 hany.2.choose_spec (by decide)))])
    have p20 : mm_I tys f14 wp 6 (upd wpl ws tg) := by rw [hf14]; exact p11.set
    refine lv_aload_n hx hb dW_leaveOtherSide_64 rfl (lv_at hl 1 rfl) ?_
    refine lv_dup hx hb dW_leaveOtherSide_65 rfl ?_
    refine mm_get (v := .int (nI ws)) hx hb hg inW hown hK hP hWL p15 rfl 3 (by decide) (hg _ gw55) (fun _ h9 => h9) rfl dW_leaveOtherSide_66 ?_
    refine lv_iconst (v := nI 1) hx hb dW_leaveOtherSide_69 (by decide) ?_
    refine lv_iadd hx hb dW_leaveOtherSide_70 ?_
    rw [nI_add]
    refine mm_put (v := .int (nI (ws + 1))) (ty := .int) hx hb hg inW tyW tyW_ok nmW hown hK hn hA hP hS hWL p15 rfl 3 (by decide) (hg _ gw55) (fun _ h9 => h9) rfl (by decide +kernel) rfl rfl (Nat.le_of_ble_eq_true rfl) dW_leaveOtherSide_71 (fun H locs hP hS => ?_)
    obtain ⟨f21, hf21⟩ : ∃ z, z = va_up f14 W (.inr (4, [.ref wk, .ref wa, .ref wp, .int (nI (ws + 1)), .int ap, .int (nI aA), .int (nI aB), .int gr, .int pm, .int lu, .int (nI en)])) := ⟨_, rfl⟩
    have hP : va_P D zCl (va_pl L f21) H := by rw [hf21]; exact hP
    have p22 : f21 q = .inr (3, [.int kd, .int (nI a), .int (nI b), .int cc, .int k, .int ld]) := by rw [hf21, va_up_ne _ _ (mm_OO p16 p15 (by decide))]; exact p16
    have p23 : mm_Q tys "LiquidChecker$Known" f21 wa 6 (fun j => some (wq j)) := p17.eq (by rw [hf21, va_up_ne _ _ (Ne.symm (mm_QO p17 p15))])
    have p24 : KnAt tys f21 wk wkb K := p18.eq (by rw [hf21, va_up_ne _ _ (mm_OO (p18).1 p15 (by decide))]) (by rw [hf21, va_up_ne _ _ (Ne.symm (mm_IO (p18).2.choose_spec.1 p15))])
    have p25 : KnAt tys f21 (wq ws) (wqb ws) (kl_learn b a (-k.toInt - 1) K) := p19.eq (by rw [hf21, va_up_ne _ _ (Ne.symm (mm_OO v1 hany.1.choose_spec (by decide)))]) (by rw [hf21, va_up_ne _ _ (Ne.symm (mm_IO hany.2.choose_spec v1))])
    have p26 : mm_I tys f21 wp 6 (upd wpl ws tg) := p20.eq (by rw [hf21, va_up_ne _ _ (Ne.symm (mm_IO p20 p15))])
    have p27 : f21 W = .inr (4, [.ref wk, .ref wa, .ref wp, .int (nI (ws + 1)), .int ap, .int (nI aA), .int (nI aB), .int gr, .int pm, .int lu, .int (nI en)]) := by rw [hf21]; exact va_up_self _ _ _
    refine ret_v C0 hP hS ⟨?_, ?_, ?_, ?_, ?_⟩ dW_leaveOtherSide_74
    · rw [if_pos c51]; exact p27
    · rw [if_pos c51]; exact p26
    · exact p25
    · exact p24
    · intro z z1 z2 z3 z4; rw [hf21, hf14, va_up_ne _ _ z1, mm_si_ne z2, hs7 z z3 z4, hs6 z z3 z4]
set_option maxRecDepth 100000 in
set_option maxHeartbeats 4000000 in
theorem w_take0 {l : Launch} {D : va_G} {tys : List (ClassId × FieldType)} {L : List Nat} {f : Nat → va_E} (hn : L.Nodup) {W wk wa wp ws aA aB en : Nat} {ap gr pm lu : Int32} (hWL : W ∈ L) (v1 : f W = .inr (4, [.ref wk, .ref wa, .ref wp, .int (nI ws), .int ap, .int (nI aA), .int (nI aB), .int gr, .int pm, .int lu, .int (nI en)])) (hws0 : ws = 0) : MetI l yW_takeWaitingSide wW_takeWaitingSide ({ frames := 2, cells := 0, slots := 0, locals := 39 } : Room) D tys L f [.ref W] (fun r f' => r = -1 ∧ f' = f) := by
  refine met_of "LiquidChecker$Walk" (by decide) rfl (Nat.le_of_ble_eq_true rfl) ?_
  intro pgm e s m below meth c ls C0 hP hl
  obtain ⟨hx, hb, hml, hown, hg, hr, hlocks, hK, hN⟩ := id C0
  have hA : ∀ a ∈ L, inL L a := fun _ h => h
  obtain ⟨H, hH⟩ : ∃ z, z = s.heap := ⟨_, rfl⟩
  rw [← hH] at hP ⊢
  have hS : va_S (inL L) s.heap H [] := by rw [hH]; exact va_S.rf
  have hl : lv_has ls 1 [(0, .ref W)] := hl
  refine lv_aload_n hx hb dW_takeWaitingSide_0 rfl (lv_at hl 0 rfl) ?_
  refine mm_get (v := .int (nI ws)) hx hb hg inW hown hK hP hWL v1 rfl 3 (by decide) (hg _ gw55) (fun _ h9 => h9) rfl dW_takeWaitingSide_1 ?_
  refine lv_if_ne (tgt := 9) hx hb dW_takeWaitingSide_4 (by decide) (fun c4 => absurd (by rw [hws0]; rfl) c4) (fun c4 => ?_)
  refine lv_iconst (v := (-1)) hx hb dW_takeWaitingSide_7 (by decide) ?_
  exact ret_i C0 hP hS ⟨rfl, rfl⟩ dW_takeWaitingSide_8
set_option maxRecDepth 100000 in
set_option maxHeartbeats 4000000 in
theorem w_take {l : Launch} {D : va_G} {tys : List (ClassId × FieldType)} {L : List Nat} {f : Nat → va_E} (hn : L.Nodup) {W wk wa wp ws aA aB en : Nat} {ap gr pm lu : Int32} (hWL : W ∈ L) (v1 : f W = .inr (4, [.ref wk, .ref wa, .ref wp, .int (nI ws), .int ap, .int (nI aA), .int (nI aB), .int gr, .int pm, .int lu, .int (nI en)])) {wkb : Nat} {K : kl_K} (hwk : wk ∈ L) (hwkb : wkb ∈ L) (hk : KnAt tys f wk wkb K) {wq wqb : Nat → Nat} {wpl : Nat → Int32} (hwaL : wa ∈ L) (x1 : mm_Q tys "LiquidChecker$Known" f wa 6 (fun j => some (wq j))) (hwpL : wp ∈ L) (x2 : mm_I tys f wp 6 wpl) (hwqL : ∀ j, j < 6 → wq j ∈ L ∧ wqb j ∈ L) (dwq : ∀ j, j < 6 → wk ≠ wq j ∧ wkb ≠ wqb j) (hws0 : 0 < ws) (hws : ws ≤ 6) {K1 : kl_K} (ho : KnAt tys f (wq (ws - 1)) (wqb (ws - 1)) K1) : MetI l yW_takeWaitingSide wW_takeWaitingSide ({ frames := 2, cells := 0, slots := 0, locals := 39 } : Room) D tys L f [.ref W] (fun r f' => r = wpl (ws - 1) ∧ f' W = .inr (4, [.ref wk, .ref wa, .ref wp, .int (nI (ws - 1)), .int ap, .int (nI aA), .int (nI aB), .int gr, .int pm, .int lu, .int (nI en)]) ∧ KnAt tys f' wk wkb K1 ∧ Same3 f f' W wk wkb) := by
  refine met_of "LiquidChecker$Walk" (by decide) rfl (Nat.le_of_ble_eq_true rfl) ?_
  intro pgm e s m below meth c ls C0 hP hl
  obtain ⟨hx, hb, hml, hown, hg, hr, hlocks, hK, hN⟩ := id C0
  have hA : ∀ a ∈ L, inL L a := fun _ h => h
  obtain ⟨H, hH⟩ : ∃ z, z = s.heap := ⟨_, rfl⟩
  rw [← hH] at hP ⊢
  have hS : va_S (inL L) s.heap H [] := by rw [hH]; exact va_S.rf
  have hl : lv_has ls 1 [(0, .ref W)] := hl
  refine lv_aload_n hx hb dW_takeWaitingSide_0 rfl (lv_at hl 0 rfl) ?_
  refine mm_get (v := .int (nI ws)) hx hb hg inW hown hK hP hWL v1 rfl 3 (by decide) (hg _ gw55) (fun _ h9 => h9) rfl dW_takeWaitingSide_1 ?_
  refine lv_if_ne (tgt := 9) hx hb dW_takeWaitingSide_4 (by decide) (fun c4 => ?_) (fun c4 => absurd c4 (nI_ne0 hws0 (by omega)))
  refine lv_aload_n hx hb dW_takeWaitingSide_9 rfl (lv_at hl 0 rfl) ?_
  refine lv_dup hx hb dW_takeWaitingSide_10 rfl ?_
  refine mm_get (v := .int (nI ws)) hx hb hg inW hown hK hP hWL v1 rfl 3 (by decide) (hg _ gw55) (fun _ h9 => h9) rfl dW_takeWaitingSide_11 ?_
  refine lv_iconst (v := nI 1) hx hb dW_takeWaitingSide_14 (by decide) ?_
  refine lv_isub hx hb dW_takeWaitingSide_15 ?_
  rw [nI_sub1 hws0]
  refine mm_put (v := .int (nI (ws - 1))) (ty := .int) hx hb hg inW tyW tyW_ok nmW hown hK hn hA hP hS hWL v1 rfl 3 (by decide) (hg _ gw55) (fun _ h9 => h9) rfl (by decide +kernel) rfl rfl (Nat.le_of_ble_eq_true rfl) dW_takeWaitingSide_16 (fun H locs hP hS => ?_)
  obtain ⟨f1, hf1⟩ : ∃ z, z = va_up f W (.inr (4, [.ref wk, .ref wa, .ref wp, .int (nI (ws - 1)), .int ap, .int (nI aA), .int (nI aB), .int gr, .int pm, .int lu, .int (nI en)])) := ⟨_, rfl⟩
  have hP : va_P D zCl (va_pl L f1) H := by rw [hf1]; exact hP
  have p2 : mm_Q tys "LiquidChecker$Known" f1 wa 6 (fun j => some (wq j)) := x1.eq (by rw [hf1, va_up_ne _ _ (Ne.symm (mm_QO x1 v1))])
  have p3 : mm_I tys f1 wp 6 wpl := x2.eq (by rw [hf1, va_up_ne _ _ (Ne.symm (mm_IO x2 v1))])
  have p4 : KnAt tys f1 (wq (ws - 1)) (wqb (ws - 1)) K1 := ho.eq (by rw [hf1, va_up_ne _ _ (mm_OO (ho).1 v1 (by decide))]) (by rw [hf1, va_up_ne _ _ (Ne.symm (mm_IO (ho).2.choose_spec.1 v1))])
  have p5 : KnAt tys f1 wk wkb K := hk.eq (by rw [hf1, va_up_ne _ _ (mm_OO (hk).1 v1 (by decide))]) (by rw [hf1, va_up_ne _ _ (Ne.symm (mm_IO (hk).2.choose_spec.1 v1))])
  have p6 : f1 W = .inr (4, [.ref wk, .ref wa, .ref wp, .int (nI (ws - 1)), .int ap, .int (nI aA), .int (nI aB), .int gr, .int pm, .int lu, .int (nI en)]) := by rw [hf1]; exact va_up_self _ _ _
  refine lv_aload_n hx hb dW_takeWaitingSide_19 rfl (lv_at hl 0 rfl) ?_
  refine mm_get (v := .ref wk) hx hb hg inW hown hK hP hWL p6 rfl 0 (by decide) (hg _ gw52) (fun _ h9 => h9) rfl dW_takeWaitingSide_20 ?_
  refine lv_aload_n hx hb dW_takeWaitingSide_23 rfl (lv_at hl 0 rfl) ?_
  refine mm_get (v := .ref wa) hx hb hg inW hown hK hP hWL p6 rfl 1 (by decide) (hg _ gw53) (fun _ h9 => h9) rfl dW_takeWaitingSide_24 ?_
  refine lv_aload_n hx hb dW_takeWaitingSide_27 rfl (lv_at hl 0 rfl) ?_
  refine mm_get (v := .int (nI (ws - 1))) hx hb hg inW hown hK hP hWL p6 rfl 3 (by decide) (hg _ gw55) (fun _ h9 => h9) rfl dW_takeWaitingSide_28 ?_
  refine mm_aldq hx hb hK hP hwaL p2 (vp_in_nI (show ws - 1 < 6 by omega) (by omega)) (q := (wq (ws - 1))) (by rw [nI_clamp (by omega)]) dW_takeWaitingSide_31 ?_
  refine then_v (run_VN (n := 1) (As := [.ref (wq (ws - 1))]) (rest := []) C0 (ka_copyFrom hn hwk hwkb (p5).any (hwqL (ws - 1) (by omega)).1 (hwqL (ws - 1) (by omega)).2 p4 (Ne.symm (dwq (ws - 1) (by omega)).2) (Ne.symm (dwq (ws - 1) (by omega)).1)) gw493 nx490 gw492 gsK_copyFrom gw3 (by decide +kernel) ⟨Nat.le_of_ble_eq_true rfl, Nat.le_of_ble_eq_true rfl⟩ rfl rfl ⟨Nat.le_of_ble_eq_true rfl, Nat.le_of_ble_eq_true rfl⟩ hP hwk (p5).1 rfl rfl rfl hl.1 rfl (Nat.le_of_ble_eq_true rfl) dW_takeWaitingSide_32) hS hA (fun f7 H locs hq32 hP hS => ?_)
  obtain ⟨hk6, hs6⟩ := hq32
  have p8 : mm_Q tys "LiquidChecker$Known" f7 wa 6 (fun j => some (wq j)) := p2.eq (hs6 _ (Ne.symm (mm_QO p2 (p5).1)) (Ne.symm (mm_IQ (p5).2.choose_spec.1 p2)))
  have p9 : mm_I tys f7 wp 6 wpl := p3.eq (hs6 _ (Ne.symm (mm_IO p3 (p5).1)) (mm_II x2 hk.2.choose_spec.1 (by decide)))
  have p10 : KnAt tys f7 (wq (ws - 1)) (wqb (ws - 1)) K1 := p4.eq (hs6 _ (Ne.symm (dwq (ws - 1) (by omega)).1) (mm_IO (p5).2.choose_spec.1 (p4).1)) (hs6 _ (Ne.symm (mm_IO (p4).2.choose_spec.1 (p5).1)) (Ne.symm (dwq (ws - 1) (by omega)).2))
  have p12 : f7 W = .inr (4, [.ref wk, .ref wa, .ref wp, .int (nI (ws - 1)), .int ap, .int (nI aA), .int (nI aB), .int gr, .int pm, .int lu, .int (nI en)]) := by rw [hs6 _ (mm_OO p6 (p5).1 (by decide)) (mm_IO (p5).2.choose_spec.1 p6)]; exact p6
  refine lv_aload_n hx hb dW_takeWaitingSide_35 rfl (lv_at hl 0 rfl) ?_
  refine mm_get (v := .ref wp) hx hb hg inW hown hK hP hWL p12 rfl 2 (by decide) (hg _ gw54) (fun _ h9 => h9) rfl dW_takeWaitingSide_36 ?_
  refine lv_aload_n hx hb dW_takeWaitingSide_39 rfl (lv_at hl 0 rfl) ?_
  refine mm_get (v := .int (nI (ws - 1))) hx hb hg inW hown hK hP hWL p12 rfl 3 (by decide) (hg _ gw55) (fun _ h9 => h9) rfl dW_takeWaitingSide_40 ?_
  refine mm_iald hx hb hK hP hwpL p9 (vp_in_nI (show ws - 1 < 6 by omega) (by omega)) dW_takeWaitingSide_43 ?_
  rw [nI_clamp (by omega)]
  exact ret_i C0 hP hS ⟨rfl, p12, hk6, fun z z1 z2 z3 => by rw [hs6 z z2 z3, hf1, va_up_ne _ _ z1]⟩ dW_takeWaitingSide_44
