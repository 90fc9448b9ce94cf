/-! LiquidChecker: count -/
theorem vo_c {a b : Cond} {L : List Cond} (h1 : vx_ot a = true) (h2 : vx_ot b = true) (h : L.all vx_ot = true) : ∀ w ∈ a :: b :: L, vx_ot w = true := fun w hw => by
  rcases List.mem_cons.mp hw with rfl | hw
  · exact h1
  · rcases List.mem_cons.mp hw with rfl | hw
    · exact h2
    · exact List.all_eq_true.mp h w hw
theorem q_fn_nI {x : Int32} (h : q_fn x = true) : ∃ i, i < 4 ∧ x = nI i := by
  unfold q_fn q_in at h
  simp only [Bool.and_eq_true, Bool.not_eq_true', decide_eq_false_iff_not] at h
  have h0 : ¬ x < 0 := h.1
  obtain ⟨j, hj, e⟩ := nI_of2 (M := nI 3) (n := 3) (nI_toInt (by omega)) h0 (Int32.not_lt.mp h.2)
  exact ⟨j, by omega, e⟩
def q_ct (σ : Sg) (oi : Nat → Nat) (i : Nat) (what : Int32) : Nat := if what = nI 0 then sz σ i else if what = nI 1 then oi i else if what = nI 2 then rn σ (2 * i) else rn σ (2 * i + 1)
set_option maxRecDepth 100000 in
set_option maxHeartbeats 4000000 in
theorem c_count {l : Launch} {D : va_G} {tys : List (ClassId × FieldType)} {L : List Nat} {f : Nat → va_E} {sAd : Nat → Nat} (hn : L.Nodup) {fa : Nat} {fn dr pr sA oA ra rb rk : Nat → Nat} {sq : Nat → Nat → Nat} {oi ni : Nat → Nat} {gv : Nat → Int32} {go : Nat → Nat → Int32} {σ : Sg} {cc ww kk : Nat} (hst : l.stackTraces = false) (hF : FnsAt tys L f fa fn dr pr sA oA ra rb rk sq oi ni gv go σ) (hcL : cc ∈ L) (hc : f cc = .inr (5, [.ref fa, .ref ww, .ref kk])) {x what : Int32} : MetX l yC_count wC_count ({ frames := 6, cells := 1, slots := 6, locals := 100 } : Room) D tys L f sAd [.ref cc, .int x, .int what] (fun r f' => f' = f ∧ q_fn x = true ∧ q_in what (nI 0) (nI 3) = true ∧ ∀ i, x = nI i → i < 4 → r = nI (q_ct σ oi i what)) (fun E => E = "java/lang/IllegalArgumentException" ∧ (q_fn x && q_in what (nI 0) (nI 3)) = false) := by
  refine metx_of "LiquidChecker" (by decide) rfl (Nat.le_of_ble_eq_true rfl) ?_
  intro pgm e s m below meth cd ls C0 hX hno hP hl
  obtain ⟨hx, hb, hml, hown, hg, hr, hlocks, hK, hN⟩ := id C0
  have hA : ∀ a ∈ L, inL L a := fun _ h => h
  obtain ⟨H, hH⟩ : ∃ z, z = s.heap := ⟨_, rfl⟩
  rw [← hH] at hP ⊢
  have hS : va_S (inL L) s.heap H [] := by rw [hH]; exact va_S.rf
  have hl : lv_has ls 4 [(0, .ref cc), (1, .int x), (2, .int what)] := hl
  refine lv_iload_n hx hb dC_count_0 rfl (lv_at hl 1 rfl) ?_
  refine then_i (run_S (n := 1) (As := [.int x]) (rest := []) C0 (qC_isFunction hn) gw204 gw202 gw203 gw1 (by decide +kernel) ⟨Nat.le_of_ble_eq_true rfl, Nat.le_of_ble_eq_true rfl⟩ rfl rfl ⟨Nat.le_of_ble_eq_true rfl, Nat.le_of_ble_eq_true rfl⟩ hP rfl hl.1 rfl (Nat.le_of_ble_eq_true rfl) dC_count_1) hS hA (fun r2 f1 H locs hq1 hP hS => ?_)
  obtain ⟨er2, ef1⟩ := hq1
  subst er2
  rw [ef1] at hP
  refine lv_if_eq (tgt := 16) hx hb dC_count_4 (by decide) (fun c4 => ?_) (fun c4 => ?_)
  · have c4 : (q_fn x) = false := kb_0.mp c4
    exact thr (text := "no such function, or nothing to count") (names := ["java/lang/RuntimeException", "java/lang/Exception"]) C0 hst hX hno hP hS hl.1 (by decide +kernel) (by decide +kernel) gw208 gw11 rfl (by decide +kernel) gx_IllegalArgumentException (vo_c rfl rfl go_IllegalArgumentException) dC_count_16 dC_count_19 dC_count_20 dC_count_22 dC_count_25 (Nat.le_of_ble_eq_true rfl) (Nat.le_of_ble_eq_true rfl) (Nat.le_of_ble_eq_true rfl) (Nat.le_of_ble_eq_true rfl) ⟨rfl, by rw [c4]; rfl⟩
  · have c4 : (q_fn x) = true := kb_t.mp c4
    refine lv_iload_n hx hb dC_count_7 rfl (lv_at hl 2 rfl) ?_
    refine lv_iconst (v := nI 0) hx hb dC_count_8 (by decide) ?_
    refine lv_iconst (v := nI 3) hx hb dC_count_9 (by decide) ?_
    refine then_i (run_S (n := 3) (As := [.int what, .int (nI 0), .int (nI 3)]) (rest := []) C0 (qC_isWithin hn) gw207 gw205 gw206 gw1 (by decide +kernel) ⟨Nat.le_of_ble_eq_true rfl, Nat.le_of_ble_eq_true rfl⟩ rfl rfl ⟨Nat.le_of_ble_eq_true rfl, Nat.le_of_ble_eq_true rfl⟩ hP rfl hl.1 rfl (Nat.le_of_ble_eq_true rfl) dC_count_10) hS hA (fun r4 f3 H locs hq10 hP hS => ?_)
    obtain ⟨er4, ef3⟩ := hq10
    subst er4
    rw [ef3] at hP
    refine lv_if_ne (tgt := 26) hx hb dC_count_13 (by decide) (fun c13 => ?_) (fun c13 => ?_)
    · have c13 : (q_in what (nI 0) (nI 3)) = true := kb_t.mp c13
      obtain ⟨i, hi4, hxi⟩ := q_fn_nI c4
      have hl : lv_has ls 4 [(0, .ref cc), (1, .int (nI i)), (2, .int what)] := by rw [← hxi]; exact hl
      refine lv_aload_n hx hb dC_count_26 rfl (lv_at hl 0 rfl) ?_
      refine mm_get (v := .ref fa) hx hb hg inC hown hK hP hcL hc rfl 0 (by decide) (hg _ gw183) (fun _ h9 => h9) rfl dC_count_27 ?_
      refine lv_iload_n hx hb dC_count_30 rfl (lv_at hl 1 rfl) ?_
      refine mm_aldq hx hb hK hP hF.1.1 hF.1.2 (vp_in_nI (show i < 4 by omega) (by omega)) (q := (fn i)) (by rw [nI_clamp (by omega)]) dC_count_31 ?_
      refine lv_astore_n (lv' := [(3, .ref (fn i)), (0, .ref cc), (1, .int (nI i)), (2, .int what)]) hx hb dC_count_32 rfl hl (by decide) rfl (fun ls hl => ?_)
      refine lv_iload_n hx hb dC_count_33 rfl (lv_at hl 3 rfl) ?_
      by_cases w34_0 : what = nI 0
      · refine lv_tableIn (tgt := 60) (off := 26) hx hb dC_count_34 (by rw [w34_0]; decide +kernel) (by rw [w34_0]; decide +kernel) (by rw [w34_0]; decide +kernel) (by decide) ?_
        refine lv_aload_n hx hb dC_count_60 rfl (lv_at hl 0 rfl) ?_
        refine mm_getN (v := .int (nI (sz σ i))) hx hb hg inF hown hK hP (hF.2 i hi4).1.1 (hF.2 i hi4).1.2 rfl 4 (by decide) (va_Nw.use rfl (hN _ nx160)) (fun _ h9 => h9) rfl dC_count_61 ?_
        refine retx_i C0 hP hS ⟨rfl, c4, c13, fun j hj hj4 => ?_⟩ dC_count_64
        obtain rfl : i = j := (nI_eq (by omega) (by omega)).mp (hxi.symm.trans hj)
        unfold q_ct
        rw [if_pos w34_0]
      · skip
        by_cases w34_1 : what = nI 1
        · refine lv_tableIn (tgt := 65) (off := 31) hx hb dC_count_34 (by rw [w34_1]; decide +kernel) (by rw [w34_1]; decide +kernel) (by rw [w34_1]; decide +kernel) (by decide) ?_
          refine lv_aload_n hx hb dC_count_65 rfl (lv_at hl 0 rfl) ?_
          refine mm_getN (v := .int (nI (oi i))) hx hb hg inF hown hK hP (hF.2 i hi4).1.1 (hF.2 i hi4).1.2 rfl 5 (by decide) (va_Nw.use rfl (hN _ nx163)) (fun _ h9 => h9) rfl dC_count_66 ?_
          refine retx_i C0 hP hS ⟨rfl, c4, c13, fun j hj hj4 => ?_⟩ dC_count_69
          obtain rfl : i = j := (nI_eq (by omega) (by omega)).mp (hxi.symm.trans hj)
          unfold q_ct
          rw [if_neg w34_0, if_pos w34_1]
        · skip
          by_cases w34_2 : what = nI 2
          · refine lv_tableIn (tgt := 70) (off := 36) hx hb dC_count_34 (by rw [w34_2]; decide +kernel) (by rw [w34_2]; decide +kernel) (by rw [w34_2]; decide +kernel) (by decide) ?_
            refine lv_aload_n hx hb dC_count_70 rfl (lv_at hl 0 rfl) ?_
            refine mm_getN (v := .ref (dr i)) hx hb hg inF hown hK hP (hF.2 i hi4).1.1 (hF.2 i hi4).1.2 rfl 0 (by decide) (va_Nw.use rfl (hN _ nx151)) (fun _ h9 => h9) rfl dC_count_71 ?_
            refine mm_getN (v := .int (nI (rn σ (2 * i)))) hx hb hg inR hown hK hP (hF.2 i hi4).2.1.1.1 (hF.2 i hi4).2.1.2.1 rfl 3 (by decide) (va_Nw.use rfl (hN _ nx107)) (fun _ h9 => h9) rfl dC_count_74 ?_
            refine retx_i C0 hP hS ⟨rfl, c4, c13, fun j hj hj4 => ?_⟩ dC_count_77
            obtain rfl : i = j := (nI_eq (by omega) (by omega)).mp (hxi.symm.trans hj)
            unfold q_ct
            rw [if_neg w34_0, if_neg w34_1, if_pos w34_2]
          · skip
            refine lv_tableOut (tgt := 78) hx hb dC_count_34 (by
              have z0 : what.toInt ≠ 0 := fun e => w34_0 (Int32.toInt_inj.mp (e.trans (by decide +kernel)))
              have z1 : what.toInt ≠ 1 := fun e => w34_1 (Int32.toInt_inj.mp (e.trans (by decide +kernel)))
              have z2 : what.toInt ≠ 2 := fun e => w34_2 (Int32.toInt_inj.mp (e.trans (by decide +kernel)))
              omega) (by decide) ?_
            refine lv_aload_n hx hb dC_count_78 rfl (lv_at hl 0 rfl) ?_
            refine mm_getN (v := .ref (pr i)) hx hb hg inF hown hK hP (hF.2 i hi4).1.1 (hF.2 i hi4).1.2 rfl 1 (by decide) (va_Nw.use rfl (hN _ nx154)) (fun _ h9 => h9) rfl dC_count_79 ?_
            refine mm_getN (v := .int (nI (rn σ (2 * i + 1)))) hx hb hg inR hown hK hP (hF.2 i hi4).2.2.1.1.1 (hF.2 i hi4).2.2.1.2.1 rfl 3 (by decide) (va_Nw.use rfl (hN _ nx107)) (fun _ h9 => h9) rfl dC_count_82 ?_
            refine retx_i C0 hP hS ⟨rfl, c4, c13, fun j hj hj4 => ?_⟩ dC_count_85
            obtain rfl : i = j := (nI_eq (by omega) (by omega)).mp (hxi.symm.trans hj)
            unfold q_ct
            rw [if_neg w34_0, if_neg w34_1, if_neg w34_2]
    · have c13 : (q_in what (nI 0) (nI 3)) = false := kb_0.mp c13
      exact thr (text := "no such function, or nothing to count") (names := ["java/lang/RuntimeException", "java/lang/Exception"]) C0 hst hX hno hP hS hl.1 (by decide +kernel) (by decide +kernel) gw208 gw11 rfl (by decide +kernel) gx_IllegalArgumentException (vo_c rfl rfl go_IllegalArgumentException) dC_count_16 dC_count_19 dC_count_20 dC_count_22 dC_count_25 (Nat.le_of_ble_eq_true rfl) (Nat.le_of_ble_eq_true rfl) (Nat.le_of_ble_eq_true rfl) (Nat.le_of_ble_eq_true rfl) ⟨rfl, by rw [c13]; cases q_fn x <;> rfl⟩
