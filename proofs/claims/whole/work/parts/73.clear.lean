/-! LiquidChecker: clear -/
set_option maxRecDepth 100000 in
set_option maxHeartbeats 4000000 in
theorem c_clear {l : Launch} {D : va_G} {tys : List (ClassId × FieldType)} {L : List Nat} {f : Nat → va_E} {sAd : Nat → Nat} (hn : L.Nodup) {fa : Nat} {fn dr pr sA oA ra rb rk : Nat → Nat} {sq : Nat → Nat → Nat} {oi ni : Nat → Nat} {gv : Nat → Int32} {go : Nat → Nat → Int32} {σ : Sg} {cc ww kk : Nat} (hst : l.stackTraces = false) (hF : FnsAt tys L f fa fn dr pr sA oA ra rb rk sq oi ni gv go σ) (hcL : cc ∈ L) (hc : f cc = .inr (5, [.ref fa, .ref ww, .ref kk])) (hD : FnsD fn dr pr sA oA ra rb rk sq) {x : Int32} : MetX l yC_clear wC_clear ({ frames := 6, cells := 1, slots := 6, locals := 100 } : Room) D tys L f sAd [.ref cc, .int x] (fun r f' => q_fn x = true ∧ ∀ i, x = nI i → i < 4 → r = nI (sz σ i) ∧ FnsAt tys L f' fa fn dr pr sA oA ra rb rk sq (va_up oi i 0) (va_up ni i 0) (va_up gv i (nI 0)) go (s_clear σ i) ∧ ∀ z, z ≠ fn i → z ≠ dr i → z ≠ pr i → f' z = f z) (fun E => E = "java/lang/IllegalArgumentException" ∧ q_fn x = false) := by
  refine metx_of "LiquidChecker" (by decide) rfl (Nat.le_of_ble_eq_true rfl) ?_
  intro pgm e s m below meth cd ls C0 hX hno hP hl
  obtain ⟨hx, hb, hml, hown, hg, hr, hlocks, hK, hN⟩ := id C0
  have hA : ∀ a ∈ L, inL L a := fun _ h => h
  obtain ⟨H, hH⟩ : ∃ z, z = s.heap := ⟨_, rfl⟩
  rw [← hH] at hP ⊢
  have hS : va_S (inL L) s.heap H [] := by rw [hH]; exact va_S.rf
  have hl : lv_has ls 3 [(0, .ref cc), (1, .int x)] := hl
  refine lv_iload_n hx hb dC_clear_0 rfl (lv_at hl 1 rfl) ?_
  refine then_i (run_S (n := 1) (As := [.int x]) (rest := []) C0 (qC_isFunction hn) gw204 gw202 gw203 gw1 (by decide +kernel) ⟨Nat.le_of_ble_eq_true rfl, Nat.le_of_ble_eq_true rfl⟩ rfl rfl ⟨Nat.le_of_ble_eq_true rfl, Nat.le_of_ble_eq_true rfl⟩ hP rfl hl.1 rfl (Nat.le_of_ble_eq_true rfl) dC_clear_1) hS hA (fun r2 f1 H locs hq1 hP hS => ?_)
  obtain ⟨er2, ef1⟩ := hq1
  subst er2
  rw [ef1] at hP
  refine lv_if_ne (tgt := 17) hx hb dC_clear_4 (by decide) (fun c4 => ?_) (fun c4 => ?_)
  · have c4 : (q_fn x) = true := kb_t.mp c4
    obtain ⟨i, hi4, hxi⟩ := q_fn_nI c4
    have hl : lv_has ls 3 [(0, .ref cc), (1, .int (nI i))] := by rw [← hxi]; exact hl
    refine lv_aload_n hx hb dC_clear_17 rfl (lv_at hl 0 rfl) ?_
    refine mm_get (v := .ref fa) hx hb hg inC hown hK hP hcL hc rfl 0 (by decide) (hg _ gw183) (fun _ h9 => h9) rfl dC_clear_18 ?_
    refine lv_iload_n hx hb dC_clear_21 rfl (lv_at hl 1 rfl) ?_
    refine mm_aldq hx hb hK hP hF.1.1 hF.1.2 (vp_in_nI (show i < 4 by omega) (by omega)) (q := (fn i)) (by rw [nI_clamp (by omega)]) dC_clear_22 ?_
    refine mm_getN (v := .int (nI (sz σ i))) hx hb hg inF hown hK hP (hF.2 i hi4).1.1 (hF.2 i hi4).1.2 rfl 4 (by decide) (va_Nw.use rfl (hN _ nx160)) (fun _ h9 => h9) rfl dC_clear_23 ?_
    refine lv_istore_n (lv' := [(2, .int (nI (sz σ i))), (0, .ref cc), (1, .int (nI i))]) hx hb dC_clear_26 rfl hl (by decide) rfl (fun ls hl => ?_)
    refine lv_aload_n hx hb dC_clear_27 rfl (lv_at hl 1 rfl) ?_
    refine mm_get (v := .ref fa) hx hb hg inC hown hK hP hcL hc rfl 0 (by decide) (hg _ gw183) (fun _ h9 => h9) rfl dC_clear_28 ?_
    refine lv_iload_n hx hb dC_clear_31 rfl (lv_at hl 2 rfl) ?_
    refine mm_aldq hx hb hK hP hF.1.1 hF.1.2 (vp_in_nI (show i < 4 by omega) (by omega)) (q := (fn i)) (by rw [nI_clamp (by omega)]) dC_clear_32 ?_
    refine then_v (run_VN (n := 0) (As := []) (rest := []) C0 (f_empty hn (hF.2 i hi4).1.1 (hF.2 i hi4).1.2 (hF.2 i hi4).2.1.1.1 (hF.2 i hi4).2.2.1.1.1 (hF.2 i hi4).2.1.2.1 (hF.2 i hi4).2.2.1.2.1 (hD.2.1 i i hi4 hi4)) gw400 nx397 gw399 gsF_empty gw4 (by decide +kernel) ⟨Nat.le_of_ble_eq_true rfl, Nat.le_of_ble_eq_true rfl⟩ rfl rfl ⟨Nat.le_of_ble_eq_true rfl, Nat.le_of_ble_eq_true rfl⟩ hP (hF.2 i hi4).1.1 (hF.2 i hi4).1.2 rfl rfl rfl hl.1 rfl (Nat.le_of_ble_eq_true rfl) dC_clear_33) hS hA (fun f3 H locs hq33 hP hS => ?_)
    obtain ⟨k1, k2, k3, k4⟩ := hq33
    refine lv_iload_n hx hb dC_clear_36 rfl (lv_at hl 0 rfl) ?_
    refine retx_i C0 hP hS ⟨c4, fun j hj hj4 => ?_⟩ dC_clear_37
    obtain rfl : i = j := (nI_eq (by omega) (by omega)).mp (hxi.symm.trans hj)
    exact ⟨rfl, hF.clear hD hi4 k1 k2 k3 k4, k4⟩
  · have c4 : (q_fn x) = false := kb_0.mp c4
    exact thr (text := "no such function") (names := ["java/lang/RuntimeException", "java/lang/Exception"]) C0 hst hX hno hP hS hl.1 (by decide +kernel) (by decide +kernel) gw208 gw11 rfl (by decide +kernel) gx_IllegalArgumentException (vo_c rfl rfl go_IllegalArgumentException) dC_clear_7 dC_clear_10 dC_clear_11 dC_clear_13 dC_clear_16 (Nat.le_of_ble_eq_true rfl) (Nat.le_of_ble_eq_true rfl) (Nat.le_of_ble_eq_true rfl) (Nat.le_of_ble_eq_true rfl) ⟨rfl, c4⟩
