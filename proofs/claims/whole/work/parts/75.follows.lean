/-! LiquidChecker: follows -/
theorem RelAt.kn {tys : List (ClassId × FieldType)} {L : List Nat} {f f' : Nat → va_E} {r ra rb rk N wk wkb : Nat} {ga gb gk : Nat → Int32} {xa xb : Nat → Nat} (h : RelAt tys L f r ra rb rk N ga gb gk xa xb) (hk : KnAny tys f wk wkb) (hs : Same2 f f' wk wkb) : RelAt tys L f' r ra rb rk N ga gb gk xa xb := by
  obtain ⟨h1, h2, h3, h4, h5, h6⟩ := id h
  obtain ⟨⟨pv, k1⟩, g, k2⟩ := hk
  exact h.eq (hs _ (mm_OO h2 k1 (by decide)) (mm_IO k2 h2)) (hs _ (Ne.symm (mm_IO h3 k1)) (mm_II h3 k2 (by decide))) (hs _ (Ne.symm (mm_IO h4 k1)) (mm_II h4 k2 (by decide))) (hs _ (Ne.symm (mm_IO h5 k1)) (mm_II h5 k2 (by decide)))
def q_fw (σ : Sg) (i j : Nat) : Bool := !(s_rels σ (2 * j + 1) 1 2 (s_rels σ (2 * i) 1 2 kl_0)).1 || s_shw σ (2 * i + 1) 1 2 (s_rels σ (2 * j + 1) 1 2 (s_rels σ (2 * i) 1 2 kl_0))
set_option maxRecDepth 100000 in
set_option maxHeartbeats 4000000 in
theorem c_follows {l : Launch} {D : va_G} {tys : List (ClassId × FieldType)} {L : List Nat} {f : Nat → va_E} {sAd : Nat → Nat} (hn : L.Nodup) {fa : Nat} {fn dr pr sA oA ra rb rk : Nat → Nat} {sq : Nat → Nat → Nat} {oi ni : Nat → Nat} {gv : Nat → Int32} {go : Nat → Nat → Int32} {σ : Sg} {cc ww kk : Nat} (hst : l.stackTraces = false) (hF : FnsAt tys L f fa fn dr pr sA oA ra rb rk sq oi ni gv go σ) (hcL : cc ∈ L) (hc : f cc = .inr (5, [.ref fa, .ref ww, .ref kk])) {kkb : Nat} (hkL : kk ∈ L) (hkbL : kkb ∈ L) (hany : KnAny tys f kk kkb) (hR : RlOk σ) {x y : Int32} : MetX l yC_follows wC_follows ({ frames := 6, cells := 1, slots := 6, locals := 100 } : Room) D tys L f sAd [.ref cc, .int x, .int y] (fun r f' => q_fn x = true ∧ q_fn y = true ∧ KnAny tys f' kk kkb ∧ Same2 f f' kk kkb ∧ ∀ i j, x = nI i → y = nI j → i < 4 → j < 4 → r = kb (q_fw σ i j)) (fun E => E = "java/lang/IllegalArgumentException" ∧ (q_fn x && q_fn y) = false) := by
  refine metx_of "LiquidChecker" (by decide) rfl (Nat.le_of_ble_eq_true rfl) ?_
  intro pgm e s m below meth cd ls C0 hX hno hP hl
  obtain ⟨hx, hb, hml, hown, hg, hr, hlocks, hK, hN⟩ := id C0
  have hA : ∀ a ∈ L, inL L a := fun _ h => h
  obtain ⟨H, hH⟩ : ∃ z, z = s.heap := ⟨_, rfl⟩
  rw [← hH] at hP ⊢
  have hS : va_S (inL L) s.heap H [] := by rw [hH]; exact va_S.rf
  have hl : lv_has ls 4 [(0, .ref cc), (1, .int x), (2, .int y)] := hl
  refine lv_iload_n hx hb dC_follows_0 rfl (lv_at hl 1 rfl) ?_
  refine then_i (run_S (n := 1) (As := [.int x]) (rest := []) C0 (qC_isFunction hn) gw204 gw202 gw203 gw1 (by decide +kernel) ⟨Nat.le_of_ble_eq_true rfl, Nat.le_of_ble_eq_true rfl⟩ rfl rfl ⟨Nat.le_of_ble_eq_true rfl, Nat.le_of_ble_eq_true rfl⟩ hP rfl hl.1 rfl (Nat.le_of_ble_eq_true rfl) dC_follows_1) hS hA (fun r2 f1 H locs hq1 hP hS => ?_)
  obtain ⟨er2, ef1⟩ := hq1
  subst er2
  rw [ef1] at hP
  refine lv_if_eq (tgt := 14) hx hb dC_follows_4 (by decide) (fun c4 => ?_) (fun c4 => ?_)
  · have c4 : (q_fn x) = false := kb_0.mp c4
    exact thr (text := "no such function") (names := ["java/lang/RuntimeException", "java/lang/Exception"]) C0 hst hX hno hP hS hl.1 (by decide +kernel) (by decide +kernel) gw208 gw11 rfl (by decide +kernel) gx_IllegalArgumentException (vo_c rfl rfl go_IllegalArgumentException) dC_follows_14 dC_follows_17 dC_follows_18 dC_follows_20 dC_follows_23 (Nat.le_of_ble_eq_true rfl) (Nat.le_of_ble_eq_true rfl) (Nat.le_of_ble_eq_true rfl) (Nat.le_of_ble_eq_true rfl) ⟨rfl, by rw [c4]; rfl⟩
  · have c4 : (q_fn x) = true := kb_t.mp c4
    refine lv_iload_n hx hb dC_follows_7 rfl (lv_at hl 2 rfl) ?_
    refine then_i (run_S (n := 1) (As := [.int y]) (rest := []) C0 (qC_isFunction hn) gw204 gw202 gw203 gw1 (by decide +kernel) ⟨Nat.le_of_ble_eq_true rfl, Nat.le_of_ble_eq_true rfl⟩ rfl rfl ⟨Nat.le_of_ble_eq_true rfl, Nat.le_of_ble_eq_true rfl⟩ hP rfl hl.1 rfl (Nat.le_of_ble_eq_true rfl) dC_follows_8) hS hA (fun r4 f3 H locs hq8 hP hS => ?_)
    obtain ⟨er4, ef3⟩ := hq8
    subst er4
    rw [ef3] at hP
    refine lv_if_ne (tgt := 24) hx hb dC_follows_11 (by decide) (fun c11 => ?_) (fun c11 => ?_)
    · have c11 : (q_fn y) = true := kb_t.mp c11
      obtain ⟨i, hi4, hxi⟩ := q_fn_nI c4
      obtain ⟨j, hj4, hyj⟩ := q_fn_nI c11
      have hl : lv_has ls 4 [(0, .ref cc), (1, .int (nI i)), (2, .int (nI j))] := by rw [← hxi, ← hyj]; exact hl
      refine lv_aload_n hx hb dC_follows_24 rfl (lv_at hl 0 rfl) ?_
      refine mm_get (v := .ref kk) hx hb hg inC hown hK hP hcL hc rfl 2 (by decide) (hg _ gw185) (fun _ h9 => h9) rfl dC_follows_25 ?_
      refine then_v (run_VN (n := 0) (As := []) (rest := []) C0 (ka_forgetAll hn hkL hkbL hany) gw416 nx576 gw415 gsK_forgetAll gw3 (by decide +kernel) ⟨Nat.le_of_ble_eq_true rfl, Nat.le_of_ble_eq_true rfl⟩ rfl rfl ⟨Nat.le_of_ble_eq_true rfl, Nat.le_of_ble_eq_true rfl⟩ hP hkL hany.1.choose_spec rfl rfl rfl hl.1 rfl (Nat.le_of_ble_eq_true rfl) dC_follows_28) hS hA (fun f5 H locs hq28 hP hS => ?_)
      obtain ⟨hk1, hs1⟩ := hq28
      have Rd1 := RelAt.kn (hF.2 i hi4).2.1 hany hs1
      have Rp1 := RelAt.kn (hF.2 j hj4).2.2.1 hany hs1
      have Rq1 := RelAt.kn (hF.2 i hi4).2.2.1 hany hs1
      have p6 : f5 cc = .inr (5, [.ref fa, .ref ww, .ref kk]) := by rw [hs1 _ (mm_OO hc hany.1.choose_spec (by decide)) (mm_IO hany.2.choose_spec hc)]; exact hc
      have p7 : mm_Q tys "LiquidChecker$Function" f5 fa 4 (fun i => some (fn i)) := hF.1.2.eq (hs1 _ (Ne.symm (mm_QO hF.1.2 hany.1.choose_spec)) (Ne.symm (mm_IQ hany.2.choose_spec hF.1.2)))
      have p8 : f5 (fn i) = .inr (0, [.ref (dr i), .ref (pr i), .ref (sA i), .ref (oA i), .int (nI (sz σ i)), .int (nI (oi i)), .int (nI (ni i)), .int (gv i)]) := by rw [hs1 _ (mm_OO (hF.2 i hi4).1.2 hany.1.choose_spec (by decide)) (mm_IO hany.2.choose_spec (hF.2 i hi4).1.2)]; exact (hF.2 i hi4).1.2
      have p9 : f5 (fn j) = .inr (0, [.ref (dr j), .ref (pr j), .ref (sA j), .ref (oA j), .int (nI (sz σ j)), .int (nI (oi j)), .int (nI (ni j)), .int (gv j)]) := by rw [hs1 _ (mm_OO (hF.2 j hj4).1.2 hany.1.choose_spec (by decide)) (mm_IO hany.2.choose_spec (hF.2 j hj4).1.2)]; exact (hF.2 j hj4).1.2
      refine lv_aload_n hx hb dC_follows_31 rfl (lv_at hl 0 rfl) ?_
      refine mm_get (v := .ref fa) hx hb hg inC hown hK hP hcL p6 rfl 0 (by decide) (hg _ gw183) (fun _ h9 => h9) rfl dC_follows_32 ?_
      refine lv_iload_n hx hb dC_follows_35 rfl (lv_at hl 1 rfl) ?_
      refine mm_aldq hx hb hK hP hF.1.1 p7 (vp_in_nI (show i < 4 by omega) (by omega)) (q := (fn i)) (by rw [nI_clamp (by omega)]) dC_follows_36 ?_
      refine mm_getN (v := .ref (dr i)) hx hb hg inF hown hK hP (hF.2 i hi4).1.1 p8 rfl 0 (by decide) (va_Nw.use rfl (hN _ nx151)) (fun _ h9 => h9) rfl dC_follows_37 ?_
      refine lv_aload_n hx hb dC_follows_40 rfl (lv_at hl 0 rfl) ?_
      refine mm_get (v := .ref kk) hx hb hg inC hown hK hP hcL p6 rfl 2 (by decide) (hg _ gw185) (fun _ h9 => h9) rfl dC_follows_41 ?_
      refine lv_iconst (v := nI 1) hx hb dC_follows_44 (by decide) ?_
      refine lv_iconst (v := nI 2) hx hb dC_follows_45 (by decide) ?_
      refine then_v (run_VN (n := 3) (As := [.ref kk, .int (nI 1), .int (nI 2)]) (rest := []) C0 (ra_learnedBy hn Rd1 hkL hkbL (T := 0) (by omega) (by omega) (by omega) hk1 kl_0_ok) gw424 nx577 gw423 gsR_learnedBy gw5 (by decide +kernel) ⟨Nat.le_of_ble_eq_true rfl, Nat.le_of_ble_eq_true rfl⟩ rfl rfl ⟨Nat.le_of_ble_eq_true rfl, Nat.le_of_ble_eq_true rfl⟩ hP (Rd1).1.1 (Rd1).2.1 rfl rfl rfl hl.1 rfl (Nat.le_of_ble_eq_true rfl) dC_follows_46) hS hA (fun f10 H locs hq46 hP hS => ?_)
      obtain ⟨hk2, hs2⟩ := hq46
      have Rd2 := RelAt.kn Rd1 hk1.any hs2
      have Rp2 := RelAt.kn Rp1 hk1.any hs2
      have Rq2 := RelAt.kn Rq1 hk1.any hs2
      have p11 : f10 cc = .inr (5, [.ref fa, .ref ww, .ref kk]) := by rw [hs2 _ (mm_OO p6 (hk1).1 (by decide)) (mm_IO (hk1).2.choose_spec.1 p6)]; exact p6
      have p12 : mm_Q tys "LiquidChecker$Function" f10 fa 4 (fun i => some (fn i)) := p7.eq (hs2 _ (Ne.symm (mm_QO p7 (hk1).1)) (Ne.symm (mm_IQ (hk1).2.choose_spec.1 p7)))
      have p13 : f10 (fn i) = .inr (0, [.ref (dr i), .ref (pr i), .ref (sA i), .ref (oA i), .int (nI (sz σ i)), .int (nI (oi i)), .int (nI (ni i)), .int (gv i)]) := by rw [hs2 _ (mm_OO p8 (hk1).1 (by decide)) (mm_IO (hk1).2.choose_spec.1 p8)]; exact p8
      have p14 : f10 (fn j) = .inr (0, [.ref (dr j), .ref (pr j), .ref (sA j), .ref (oA j), .int (nI (sz σ j)), .int (nI (oi j)), .int (nI (ni j)), .int (gv j)]) := by rw [hs2 _ (mm_OO p9 (hk1).1 (by decide)) (mm_IO (hk1).2.choose_spec.1 p9)]; exact p9
      have ok2 := s_rels_ok (u := 1) (v := 2) (hR (2 * i) (by omega)) (by omega) (by omega) kl_0_ok
      refine lv_aload_n hx hb dC_follows_49 rfl (lv_at hl 0 rfl) ?_
      refine mm_get (v := .ref fa) hx hb hg inC hown hK hP hcL p11 rfl 0 (by decide) (hg _ gw183) (fun _ h9 => h9) rfl dC_follows_50 ?_
      refine lv_iload_n hx hb dC_follows_53 rfl (lv_at hl 2 rfl) ?_
      refine mm_aldq hx hb hK hP hF.1.1 p12 (vp_in_nI (show j < 4 by omega) (by omega)) (q := (fn j)) (by rw [nI_clamp (by omega)]) dC_follows_54 ?_
      refine mm_getN (v := .ref (pr j)) hx hb hg inF hown hK hP (hF.2 j hj4).1.1 p14 rfl 1 (by decide) (va_Nw.use rfl (hN _ nx154)) (fun _ h9 => h9) rfl dC_follows_55 ?_
      refine lv_aload_n hx hb dC_follows_58 rfl (lv_at hl 0 rfl) ?_
      refine mm_get (v := .ref kk) hx hb hg inC hown hK hP hcL p11 rfl 2 (by decide) (hg _ gw185) (fun _ h9 => h9) rfl dC_follows_59 ?_
      refine lv_iconst (v := nI 1) hx hb dC_follows_62 (by decide) ?_
      refine lv_iconst (v := nI 2) hx hb dC_follows_63 (by decide) ?_
      refine then_v (run_VN (n := 3) (As := [.ref kk, .int (nI 1), .int (nI 2)]) (rest := []) C0 (ra_learnedBy hn Rp2 hkL hkbL (by omega) (by omega) (by omega) hk2 ok2) gw424 nx577 gw423 gsR_learnedBy gw5 (by decide +kernel) ⟨Nat.le_of_ble_eq_true rfl, Nat.le_of_ble_eq_true rfl⟩ rfl rfl ⟨Nat.le_of_ble_eq_true rfl, Nat.le_of_ble_eq_true rfl⟩ hP (Rp2).1.1 (Rp2).2.1 rfl rfl rfl hl.1 rfl (Nat.le_of_ble_eq_true rfl) dC_follows_64) hS hA (fun f16 H locs hq64 hP hS => ?_)
      obtain ⟨hk3, hs3⟩ := hq64
      have Rd3 := RelAt.kn Rd2 hk2.any hs3
      have Rp3 := RelAt.kn Rp2 hk2.any hs3
      have Rq3 := RelAt.kn Rq2 hk2.any hs3
      have p17 : f16 cc = .inr (5, [.ref fa, .ref ww, .ref kk]) := by rw [hs3 _ (mm_OO p11 (hk2).1 (by decide)) (mm_IO (hk2).2.choose_spec.1 p11)]; exact p11
      have p18 : mm_Q tys "LiquidChecker$Function" f16 fa 4 (fun i => some (fn i)) := p12.eq (hs3 _ (Ne.symm (mm_QO p12 (hk2).1)) (Ne.symm (mm_IQ (hk2).2.choose_spec.1 p12)))
      have p19 : f16 (fn i) = .inr (0, [.ref (dr i), .ref (pr i), .ref (sA i), .ref (oA i), .int (nI (sz σ i)), .int (nI (oi i)), .int (nI (ni i)), .int (gv i)]) := by rw [hs3 _ (mm_OO p13 (hk2).1 (by decide)) (mm_IO (hk2).2.choose_spec.1 p13)]; exact p13
      have p20 : f16 (fn j) = .inr (0, [.ref (dr j), .ref (pr j), .ref (sA j), .ref (oA j), .int (nI (sz σ j)), .int (nI (oi j)), .int (nI (ni j)), .int (gv j)]) := by rw [hs3 _ (mm_OO p14 (hk2).1 (by decide)) (mm_IO (hk2).2.choose_spec.1 p14)]; exact p14
      have ok3 := s_rels_ok (u := 1) (v := 2) (hR (2 * j + 1) (by omega)) (by omega) (by omega) ok2
      refine lv_aload_n hx hb dC_follows_67 rfl (lv_at hl 0 rfl) ?_
      refine mm_get (v := .ref kk) hx hb hg inC hown hK hP hcL p17 rfl 2 (by decide) (hg _ gw185) (fun _ h9 => h9) rfl dC_follows_68 ?_
      refine mm_getN (v := .int (kb (s_rels σ (2 * j + 1) 1 2 (s_rels σ (2 * i) 1 2 kl_0)).1)) hx hb hg inK hown hK hP hkL (hk3).1 rfl 1 (by decide) (va_Nw.use rfl (hN _ nx44)) (fun _ h9 => h9) rfl dC_follows_71 ?_
      refine lv_if_eq (tgt := 98) hx hb dC_follows_74 (by decide) (fun c74 => ?_) (fun c74 => ?_)
      · have c74 : ((s_rels σ (2 * j + 1) 1 2 (s_rels σ (2 * i) 1 2 kl_0)).1) = false := kb_0.mp c74
        refine lv_iconst (v := nI 1) hx hb dC_follows_98 (by decide) ?_
        refine lv_goto (tgt := 103) hx hb dC_follows_99 (by decide) ?_
        refine lv_istore_n (lv' := [(3, .int (nI 1)), (0, .ref cc), (1, .int (nI i)), (2, .int (nI j))]) hx hb dC_follows_103 rfl hl (by decide) rfl (fun ls hl => ?_)
        refine lv_iload_n hx hb dC_follows_104 rfl (lv_at hl 0 rfl) ?_
        refine lv_if_eq (tgt := 112) hx hb dC_follows_105 (by decide) (fun c105 => absurd c105 (by decide +kernel)) (fun c105 => ?_)
        refine lv_iconst (v := nI 1) hx hb dC_follows_108 (by decide) ?_
        refine lv_goto (tgt := 113) hx hb dC_follows_109 (by decide) ?_
        refine retx_i C0 hP hS ⟨c4, c11, hk3.any, fun z z1 z2 => by rw [hs3 z z1 z2, hs2 z z1 z2, hs1 z z1 z2], fun i2 j2 e1 e2 h1 h2 => ?_⟩ dC_follows_113
        obtain rfl : i = i2 := (nI_eq (by omega) (by omega)).mp (hxi.symm.trans e1)
        obtain rfl : j = j2 := (nI_eq (by omega) (by omega)).mp (hyj.symm.trans e2)
        unfold q_fw
        rw [c74]; rfl
      · have c74 : ((s_rels σ (2 * j + 1) 1 2 (s_rels σ (2 * i) 1 2 kl_0)).1) = true := kb_t.mp c74
        refine lv_aload_n hx hb dC_follows_77 rfl (lv_at hl 0 rfl) ?_
        refine mm_get (v := .ref fa) hx hb hg inC hown hK hP hcL p17 rfl 0 (by decide) (hg _ gw183) (fun _ h9 => h9) rfl dC_follows_78 ?_
        refine lv_iload_n hx hb dC_follows_81 rfl (lv_at hl 1 rfl) ?_
        refine mm_aldq hx hb hK hP hF.1.1 p18 (vp_in_nI (show i < 4 by omega) (by omega)) (q := (fn i)) (by rw [nI_clamp (by omega)]) dC_follows_82 ?_
        refine mm_getN (v := .ref (pr i)) hx hb hg inF hown hK hP (hF.2 i hi4).1.1 p19 rfl 1 (by decide) (va_Nw.use rfl (hN _ nx154)) (fun _ h9 => h9) rfl dC_follows_83 ?_
        refine lv_aload_n hx hb dC_follows_86 rfl (lv_at hl 0 rfl) ?_
        refine mm_get (v := .ref kk) hx hb hg inC hown hK hP hcL p17 rfl 2 (by decide) (hg _ gw185) (fun _ h9 => h9) rfl dC_follows_87 ?_
        refine lv_iconst (v := nI 1) hx hb dC_follows_90 (by decide) ?_
        refine lv_iconst (v := nI 2) hx hb dC_follows_91 (by decide) ?_
        refine then_i (run_VN (n := 3) (As := [.ref kk, .int (nI 1), .int (nI 2)]) (rest := []) C0 (ra_shownBy hn Rq3 hkL hkbL (by omega) (by omega) (by omega) hk3 ok3) gw461 nx578 gw460 gsR_shownBy gw5 (by decide +kernel) ⟨Nat.le_of_ble_eq_true rfl, Nat.le_of_ble_eq_true rfl⟩ rfl rfl ⟨Nat.le_of_ble_eq_true rfl, Nat.le_of_ble_eq_true rfl⟩ hP (Rq3).1.1 (Rq3).2.1 rfl rfl rfl hl.1 rfl (Nat.le_of_ble_eq_true rfl) dC_follows_92) hS hA (fun r23 f22 H locs hq92 hP hS => ?_)
        obtain ⟨er23, ef22⟩ := hq92
        subst er23
        rw [ef22] at hP
        refine lv_if_eq (tgt := 102) hx hb dC_follows_95 (by decide) (fun c95 => ?_) (fun c95 => ?_)
        · have c95 : (s_shw σ (2 * i + 1) 1 2 (s_rels σ (2 * j + 1) 1 2 (s_rels σ (2 * i) 1 2 kl_0))) = false := kb_0.mp c95
          refine lv_iconst (v := nI 0) hx hb dC_follows_102 (by decide) ?_
          refine lv_istore_n (lv' := [(3, .int (nI 0)), (0, .ref cc), (1, .int (nI i)), (2, .int (nI j))]) hx hb dC_follows_103 rfl hl (by decide) rfl (fun ls hl => ?_)
          refine lv_iload_n hx hb dC_follows_104 rfl (lv_at hl 0 rfl) ?_
          refine lv_if_eq (tgt := 112) hx hb dC_follows_105 (by decide) (fun c105 => ?_) (fun c105 => absurd nI_0 c105)
          refine lv_iconst (v := nI 0) hx hb dC_follows_112 (by decide) ?_
          refine retx_i C0 hP hS ⟨c4, c11, hk3.any, fun z z1 z2 => by rw [hs3 z z1 z2, hs2 z z1 z2, hs1 z z1 z2], fun i2 j2 e1 e2 h1 h2 => ?_⟩ dC_follows_113
          obtain rfl : i = i2 := (nI_eq (by omega) (by omega)).mp (hxi.symm.trans e1)
          obtain rfl : j = j2 := (nI_eq (by omega) (by omega)).mp (hyj.symm.trans e2)
          unfold q_fw
          rw [c74, c95]; rfl
        · have c95 : (s_shw σ (2 * i + 1) 1 2 (s_rels σ (2 * j + 1) 1 2 (s_rels σ (2 * i) 1 2 kl_0))) = true := kb_t.mp c95
          refine lv_iconst (v := nI 1) hx hb dC_follows_98 (by decide) ?_
          refine lv_goto (tgt := 103) hx hb dC_follows_99 (by decide) ?_
          refine lv_istore_n (lv' := [(3, .int (nI 1)), (0, .ref cc), (1, .int (nI i)), (2, .int (nI j))]) hx hb dC_follows_103 rfl hl (by decide) rfl (fun ls hl => ?_)
          refine lv_iload_n hx hb dC_follows_104 rfl (lv_at hl 0 rfl) ?_
          refine lv_if_eq (tgt := 112) hx hb dC_follows_105 (by decide) (fun c105 => absurd c105 (by decide +kernel)) (fun c105 => ?_)
          refine lv_iconst (v := nI 1) hx hb dC_follows_108 (by decide) ?_
          refine lv_goto (tgt := 113) hx hb dC_follows_109 (by decide) ?_
          refine retx_i C0 hP hS ⟨c4, c11, hk3.any, fun z z1 z2 => by rw [hs3 z z1 z2, hs2 z z1 z2, hs1 z z1 z2], fun i2 j2 e1 e2 h1 h2 => ?_⟩ dC_follows_113
          obtain rfl : i = i2 := (nI_eq (by omega) (by omega)).mp (hxi.symm.trans e1)
          obtain rfl : j = j2 := (nI_eq (by omega) (by omega)).mp (hyj.symm.trans e2)
          unfold q_fw
          rw [c74, c95]; rfl
    · have c11 : (q_fn y) = false := kb_0.mp c11
      exact thr (text := "no such function") (names := ["java/lang/RuntimeException", "java/lang/Exception"]) C0 hst hX hno hP hS hl.1 (by decide +kernel) (by decide +kernel) gw208 gw11 rfl (by decide +kernel) gx_IllegalArgumentException (vo_c rfl rfl go_IllegalArgumentException) dC_follows_14 dC_follows_17 dC_follows_18 dC_follows_20 dC_follows_23 (Nat.le_of_ble_eq_true rfl) (Nat.le_of_ble_eq_true rfl) (Nat.le_of_ble_eq_true rfl) (Nat.le_of_ble_eq_true rfl) ⟨rfl, by rw [c11]; cases q_fn x <;> rfl⟩
