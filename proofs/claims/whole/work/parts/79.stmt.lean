/-! LiquidChecker: statement -/
def OpOk (σ : Sg) (oi ni : Nat → Nat) (go : Nat → Nat → Int32) (tt : Nat → Nat) : Prop := ∀ i, i < 4 → oi i ≤ ni i ∧ ni i ≤ 6 ∧ sz σ i ≤ 16 ∧ (oi i ≠ 0 → go i (oi i - 1) = nI (tt i) ∧ tt i < 16)
theorem q_rm_iff {n m : Nat} {kd : Int32} (hn : n ≤ 16) (hm : m ≤ 6) : q_rm n m kd = true ↔ n < 16 ∧ (kd = nI 2 → m < 6) := by
  unfold q_rm
  have h1 : nI 16 ≤ nI n ↔ 16 ≤ n := by rw [Int32.le_iff_toInt_le, nI_toInt (by omega), nI_toInt (by omega)]; omega
  have h2 : nI 6 ≤ nI m ↔ 6 ≤ m := by rw [Int32.le_iff_toInt_le, nI_toInt (by omega), nI_toInt (by omega)]; omega
  simp only [Bool.and_eq_true, Bool.or_eq_true, Bool.not_eq_true', decide_eq_false_iff_not, h1, h2]
  constructor
  · rintro ⟨a, b | b⟩
    · exact ⟨by omega, fun e => absurd e b⟩
    · exact ⟨by omega, fun _ => by omega⟩
  · rintro ⟨a, b⟩
    refine ⟨by omega, ?_⟩
    by_cases e : kd = nI 2
    · exact Or.inr (by have := b e; omega)
    · exact Or.inl e
theorem q_op_pos {oi : Nat} {top kd : Int32} (h : q_op oi top kd = true) (e : kd = nI 3 ∨ kd = nI 4) : oi ≠ 0 := by
  intro h0
  subst h0
  unfold q_op at h
  rw [show nI 0 = (0 : Int32) from nI_0] at h
  rcases e with e | e <;> subst e <;> revert h <;> cases decide (top = nI 2) <;> decide +kernel
set_option maxRecDepth 100000 in
set_option maxHeartbeats 4000000 in
theorem c_statement {l : Launch} {D : va_G} {tys : List (ClassId × FieldType)} {L : List Nat} {f : Nat → va_E} {sAd : Nat → Nat} (hn : L.Nodup) {fa : Nat} {fn dr pr sA oA ra rb rk : Nat → Nat} {sq : Nat → Nat → Nat} {oi ni : Nat → Nat} {gv : Nat → Int32} {go : Nat → Nat → Int32} {σ : Sg} {cc ww kk : Nat} (hst : l.stackTraces = false) (hF : FnsAt tys L f fa fn dr pr sA oA ra rb rk sq oi ni gv go σ) (hcL : cc ∈ L) (hc : f cc = .inr (5, [.ref fa, .ref ww, .ref kk])) (hD : FnsD fn dr pr sA oA ra rb rk sq) {tt : Nat → Nat} (hop : OpOk σ oi ni go tt) {x kd a b c2 k : Int32} : MetX l yC_statement wC_statement ({ frames := 6, cells := 1, slots := 6, locals := 100 } : Room) D tys L f sAd [.ref cc, .int x, .int kd, .int a, .int b, .int c2, .int k] (fun r f' => q_fn x = true ∧ q_st kd a b c2 k = true ∧ ∀ i, x = nI i → i < 4 → q_hw (gv i) kd a b c2 = true ∧ q_op (oi i) (sk σ (16 * i + tt i)) kd = true ∧ q_rm (sz σ i) (ni i) kd = true ∧ r = nI (sz σ i) ∧ FnsAt tys L f' fa fn dr pr sA oA ra rb rk sq (va_up oi i (a_oi (oi i) kd)) (va_up ni i (a_ni (ni i) kd)) (va_up gv i (a_gv (gv i) kd a)) (va_up go i (a_go (go i) (oi i) (sz σ i) kd)) (s_stmt σ i (tt i) kd a b c2 k) ∧ ∀ z, z ≠ fn i → z ≠ oA i → (∀ j, j < 16 → z ≠ sq i j) → f' z = f z) (fun E => (E = "java/lang/IllegalArgumentException" ∧ (q_fn x && q_st kd a b c2 k) = false) ∨ (q_fn x = true ∧ q_st kd a b c2 k = true ∧ ∀ i, x = nI i → i < 4 → (E = "java/lang/UnsupportedOperationException" ∧ (q_hw (gv i) kd a b c2 && q_op (oi i) (sk σ (16 * i + tt i)) kd) = false) ∨ (E = "java/lang/IllegalStateException" ∧ q_hw (gv i) kd a b c2 = true ∧ q_op (oi i) (sk σ (16 * i + tt i)) kd = true ∧ q_rm (sz σ i) (ni i) kd = false))) := by
  refine metx_of "LiquidChecker" (by decide) rfl (Nat.le_of_ble_eq_true rfl) ?_
  intro pgm e s m below meth cd ls C0 hX hno hP hl
  obtain ⟨hx, hb, hml, hown, hg, hr, hlocks, hK, hN⟩ := id C0
  have hA : ∀ a ∈ L, inL L a := fun _ h => h
  obtain ⟨H, hH⟩ : ∃ z, z = s.heap := ⟨_, rfl⟩
  rw [← hH] at hP ⊢
  have hS : va_S (inL L) s.heap H [] := by rw [hH]; exact va_S.rf
  have hl : lv_has ls 8 [(0, .ref cc), (1, .int x), (2, .int kd), (3, .int a), (4, .int b), (5, .int c2), (6, .int k)] := hl
  refine lv_iload_n hx hb dC_statement_0 rfl (lv_at hl 1 rfl) ?_
  refine then_i (run_S (n := 1) (As := [.int x]) (rest := []) C0 (qC_isFunction hn) gw204 gw202 gw203 gw1 (by decide +kernel) ⟨Nat.le_of_ble_eq_true rfl, Nat.le_of_ble_eq_true rfl⟩ rfl rfl ⟨Nat.le_of_ble_eq_true rfl, Nat.le_of_ble_eq_true rfl⟩ hP rfl hl.1 rfl (Nat.le_of_ble_eq_true rfl) dC_statement_1) hS hA (fun r2 f1 H locs hq1 hP hS => ?_)
  obtain ⟨er2, ef1⟩ := hq1
  subst er2
  rw [ef1] at hP
  refine lv_if_eq (tgt := 21) hx hb dC_statement_4 (by decide) (fun c4 => ?_) (fun c4 => ?_)
  · have c4 : (q_fn x) = false := kb_0.mp c4
    exact thr (text := "no such function or statement") (names := ["java/lang/RuntimeException", "java/lang/Exception"]) C0 hst hX hno hP hS hl.1 (by decide +kernel) (by decide +kernel) gw208 gw11 rfl (by decide +kernel) gx_IllegalArgumentException (vo_c rfl rfl go_IllegalArgumentException) dC_statement_21 dC_statement_24 dC_statement_25 dC_statement_27 dC_statement_30 (Nat.le_of_ble_eq_true rfl) (Nat.le_of_ble_eq_true rfl) (Nat.le_of_ble_eq_true rfl) (Nat.le_of_ble_eq_true rfl) (Or.inl ⟨rfl, by rw [c4]; rfl⟩)
  · have c4 : (q_fn x) = true := kb_t.mp c4
    refine lv_iload_n hx hb dC_statement_7 rfl (lv_at hl 2 rfl) ?_
    refine lv_iload_n hx hb dC_statement_8 rfl (lv_at hl 3 rfl) ?_
    refine lv_iload hx hb dC_statement_9 (lv_at hl 4 rfl) ?_
    refine lv_iload hx hb dC_statement_11 (lv_at hl 5 rfl) ?_
    refine lv_iload hx hb dC_statement_13 (lv_at hl 6 rfl) ?_
    refine then_i (run_S (n := 5) (As := [.int kd, .int a, .int b, .int c2, .int k]) (rest := []) C0 (qC_isStatement hn) gw312 gw310 gw311 gw1 (by decide +kernel) ⟨Nat.le_of_ble_eq_true rfl, Nat.le_of_ble_eq_true rfl⟩ rfl rfl ⟨Nat.le_of_ble_eq_true rfl, Nat.le_of_ble_eq_true rfl⟩ hP rfl hl.1 rfl (Nat.le_of_ble_eq_true rfl) dC_statement_15) hS hA (fun r4 f3 H locs hq15 hP hS => ?_)
    obtain ⟨er4, ef3⟩ := hq15
    subst er4
    rw [ef3] at hP
    refine lv_if_ne (tgt := 31) hx hb dC_statement_18 (by decide) (fun c18 => ?_) (fun c18 => ?_)
    · have c18 : (q_st kd a b c2 k) = true := kb_t.mp c18
      obtain ⟨i, hi4, hxi⟩ := q_fn_nI c4
      have hl : lv_has ls 8 [(0, .ref cc), (1, .int (nI i)), (2, .int kd), (3, .int a), (4, .int b), (5, .int c2), (6, .int k)] := by rw [← hxi]; exact hl
      refine lv_aload_n hx hb dC_statement_31 rfl (lv_at hl 0 rfl) ?_
      refine mm_get (v := .ref fa) hx hb hg inC hown hK hP hcL hc rfl 0 (by decide) (hg _ gw183) (fun _ h9 => h9) rfl dC_statement_32 ?_
      refine lv_iload_n hx hb dC_statement_35 rfl (lv_at hl 1 rfl) ?_
      refine mm_aldq hx hb hK hP hF.1.1 hF.1.2 (vp_in_nI (show i < 4 by omega) (by omega)) (q := (fn i)) (by rw [nI_clamp (by omega)]) dC_statement_36 ?_
      refine lv_astore (lv' := [(7, .ref (fn i)), (0, .ref cc), (1, .int (nI i)), (2, .int kd), (3, .int a), (4, .int b), (5, .int c2), (6, .int k)]) hx hb dC_statement_37 hl (by decide) rfl (fun ls hl => ?_)
      refine lv_aload hx hb dC_statement_39 (lv_at hl 0 rfl) ?_
      refine lv_iload_n hx hb dC_statement_41 rfl (lv_at hl 3 rfl) ?_
      refine lv_iload_n hx hb dC_statement_42 rfl (lv_at hl 4 rfl) ?_
      refine lv_iload hx hb dC_statement_43 (lv_at hl 5 rfl) ?_
      refine lv_iload hx hb dC_statement_45 (lv_at hl 6 rfl) ?_
      refine then_i (run_VN (n := 4) (As := [.int kd, .int a, .int b, .int c2]) (rest := []) C0 (f_hasGivenWhatIsUsed hn (hF.2 i hi4).1.1 (hF.2 i hi4).1.2) gw335 nx332 gw334 gsF_hasGivenWhatIsUsed gw4 (by decide +kernel) ⟨Nat.le_of_ble_eq_true rfl, Nat.le_of_ble_eq_true rfl⟩ rfl rfl ⟨Nat.le_of_ble_eq_true rfl, Nat.le_of_ble_eq_true rfl⟩ hP (hF.2 i hi4).1.1 (hF.2 i hi4).1.2 rfl rfl rfl hl.1 rfl (Nat.le_of_ble_eq_true rfl) dC_statement_47) hS hA (fun r6 f5 H locs hq47 hP hS => ?_)
      obtain ⟨er6, ef5⟩ := hq47
      subst er6
      rw [ef5] at hP
      refine lv_if_eq (tgt := 62) hx hb dC_statement_50 (by decide) (fun c50 => ?_) (fun c50 => ?_)
      · have c50 : (q_hw (gv i) kd a b c2) = false := kb_0.mp c50
        exact thr (text := "a name not given, or an ELSE or END out of place") (names := ["java/lang/RuntimeException", "java/lang/Exception"]) C0 hst hX hno hP hS hl.1 (by decide +kernel) (by decide +kernel) gw347 gw13 rfl (by decide +kernel) gx_UnsupportedOperationException (vo_c rfl rfl go_UnsupportedOperationException) dC_statement_62 dC_statement_65 dC_statement_66 dC_statement_68 dC_statement_71 (Nat.le_of_ble_eq_true rfl) (Nat.le_of_ble_eq_true rfl) (Nat.le_of_ble_eq_true rfl) (Nat.le_of_ble_eq_true rfl) (Or.inr ⟨c4, c18, fun j hj hj4 => by obtain rfl : i = j := (nI_eq (by omega) (by omega)).mp (hxi.symm.trans hj); exact Or.inl ⟨rfl, by rw [c50]; rfl⟩⟩)
      · have c50 : (q_hw (gv i) kd a b c2) = true := kb_t.mp c50
        refine lv_aload hx hb dC_statement_53 (lv_at hl 0 rfl) ?_
        refine lv_iload_n hx hb dC_statement_55 rfl (lv_at hl 3 rfl) ?_
        refine then_i (run_VN (n := 1) (As := [.int kd]) (rest := []) C0 (f_isOpenFor hn (hF.2 i hi4).1.1 (hF.2 i hi4).1.2 (hF.2 i hi4).2.2.2.1.1 (hF.2 i hi4).2.2.2.1.2 (hF.2 i hi4).2.2.2.2.2.2.1 (hF.2 i hi4).2.2.2.2.2.2.2 (hF.2 i hi4).2.2.2.2.1 (hF.2 i hi4).2.2.2.2.2.1 (t := tt i) (hop i hi4).2.2.2 (by have := hop i hi4; omega)) gw346 nx343 gw345 gsF_isOpenFor gw4 (by decide +kernel) ⟨Nat.le_of_ble_eq_true rfl, Nat.le_of_ble_eq_true rfl⟩ rfl rfl ⟨Nat.le_of_ble_eq_true rfl, Nat.le_of_ble_eq_true rfl⟩ hP (hF.2 i hi4).1.1 (hF.2 i hi4).1.2 rfl rfl rfl hl.1 rfl (Nat.le_of_ble_eq_true rfl) dC_statement_56) hS hA (fun r8 f7 H locs hq56 hP hS => ?_)
        obtain ⟨er8, ef7⟩ := hq56
        subst er8
        rw [ef7] at hP
        refine lv_if_ne (tgt := 72) hx hb dC_statement_59 (by decide) (fun c59 => ?_) (fun c59 => ?_)
        · have c59 : (q_op (oi i) (sk σ (16 * i + tt i)) kd) = true := kb_t.mp c59
          refine lv_aload hx hb dC_statement_72 (lv_at hl 0 rfl) ?_
          refine lv_iload_n hx hb dC_statement_74 rfl (lv_at hl 3 rfl) ?_
          refine then_i (run_VN (n := 1) (As := [.int kd]) (rest := []) C0 (f_hasRoomFor hn (hF.2 i hi4).1.1 (hF.2 i hi4).1.2) gw366 nx363 gw365 gsF_hasRoomFor gw4 (by decide +kernel) ⟨Nat.le_of_ble_eq_true rfl, Nat.le_of_ble_eq_true rfl⟩ rfl rfl ⟨Nat.le_of_ble_eq_true rfl, Nat.le_of_ble_eq_true rfl⟩ hP (hF.2 i hi4).1.1 (hF.2 i hi4).1.2 rfl rfl rfl hl.1 rfl (Nat.le_of_ble_eq_true rfl) dC_statement_75) hS hA (fun r10 f9 H locs hq75 hP hS => ?_)
          obtain ⟨er10, ef9⟩ := hq75
          subst er10
          rw [ef9] at hP
          refine lv_if_ne (tgt := 91) hx hb dC_statement_78 (by decide) (fun c78 => ?_) (fun c78 => ?_)
          · have c78 : (q_rm (sz σ i) (ni i) kd) = true := kb_t.mp c78
            refine lv_aload hx hb dC_statement_91 (lv_at hl 0 rfl) ?_
            refine lv_iload_n hx hb dC_statement_93 rfl (lv_at hl 3 rfl) ?_
            refine lv_iload_n hx hb dC_statement_94 rfl (lv_at hl 4 rfl) ?_
            refine lv_iload hx hb dC_statement_95 (lv_at hl 5 rfl) ?_
            refine lv_iload hx hb dC_statement_97 (lv_at hl 6 rfl) ?_
            refine lv_iload hx hb dC_statement_99 (lv_at hl 7 rfl) ?_
            have hrm := (q_rm_iff (hop i hi4).2.2.1 (hop i hi4).2.1).mp c78
            have h34 : kd = nI 3 ∨ kd = nI 4 → 0 < oi i ∧ go i (oi i - 1) = nI (tt i) ∧ tt i < 16 := fun e9 => by have z9 := q_op_pos c59 e9; exact ⟨by omega, (hop i hi4).2.2.2 z9⟩
            refine then_i (run_VN (n := 5) (As := [.int kd, .int a, .int b, .int c2, .int k]) (rest := []) C0 (f_append hn (hF.2 i hi4).1.1 (hF.2 i hi4).1.2 (hF.2 i hi4).2.2.2.1.1 (hF.2 i hi4).2.2.2.1.2 (hF.2 i hi4).2.2.2.2.2.2.1 (hF.2 i hi4).2.2.2.2.2.2.2 (hF.2 i hi4).2.2.2.2.1 (hF.2 i hi4).2.2.2.2.2.1 (fun i2 j2 h2 h3 h4 => (hD.2.2.2.2 i i i2 j2 hi4 hi4 h2 h3 h4).2) hrm.1 (by have := hop i hi4; omega) (t := tt i) (fun e9 => by have := hrm.2 e9; have := hop i hi4; omega) h34) gw371 nx368 gw370 gsF_append gw4 (by decide +kernel) ⟨Nat.le_of_ble_eq_true rfl, Nat.le_of_ble_eq_true rfl⟩ rfl rfl ⟨Nat.le_of_ble_eq_true rfl, Nat.le_of_ble_eq_true rfl⟩ hP (hF.2 i hi4).1.1 (hF.2 i hi4).1.2 rfl rfl rfl hl.1 rfl (Nat.le_of_ble_eq_true rfl) dC_statement_101) hS hA (fun r12 f11 H locs hq101 hP hS => ?_)
            obtain ⟨k0, k1, k2, k3, k4⟩ := hq101
            refine retx_i C0 hP hS ⟨c4, c18, fun j hj hj4 => ?_⟩ dC_statement_104
            obtain rfl : i = j := (nI_eq (by omega) (by omega)).mp (hxi.symm.trans hj)
            exact ⟨c50, c59, c78, k0, hF.stmt hD hi4 hrm.1 (fun e9 => (h34 e9).2.2) k1 k2 k3 k4, k4⟩
          · have c78 : (q_rm (sz σ i) (ni i) kd) = false := kb_0.mp c78
            exact thr (text := "no room for a statement more") (names := ["java/lang/RuntimeException", "java/lang/Exception"]) C0 hst hX hno hP hS hl.1 (by decide +kernel) (by decide +kernel) gw282 gw12 rfl (by decide +kernel) gx_IllegalStateException (vo_c rfl rfl go_IllegalStateException) dC_statement_81 dC_statement_84 dC_statement_85 dC_statement_87 dC_statement_90 (Nat.le_of_ble_eq_true rfl) (Nat.le_of_ble_eq_true rfl) (Nat.le_of_ble_eq_true rfl) (Nat.le_of_ble_eq_true rfl) (Or.inr ⟨c4, c18, fun j hj hj4 => by obtain rfl : i = j := (nI_eq (by omega) (by omega)).mp (hxi.symm.trans hj); exact Or.inr ⟨rfl, c50, c59, c78⟩⟩)
        · have c59 : (q_op (oi i) (sk σ (16 * i + tt i)) kd) = false := kb_0.mp c59
          exact thr (text := "a name not given, or an ELSE or END out of place") (names := ["java/lang/RuntimeException", "java/lang/Exception"]) C0 hst hX hno hP hS hl.1 (by decide +kernel) (by decide +kernel) gw347 gw13 rfl (by decide +kernel) gx_UnsupportedOperationException (vo_c rfl rfl go_UnsupportedOperationException) dC_statement_62 dC_statement_65 dC_statement_66 dC_statement_68 dC_statement_71 (Nat.le_of_ble_eq_true rfl) (Nat.le_of_ble_eq_true rfl) (Nat.le_of_ble_eq_true rfl) (Nat.le_of_ble_eq_true rfl) (Or.inr ⟨c4, c18, fun j hj hj4 => by obtain rfl : i = j := (nI_eq (by omega) (by omega)).mp (hxi.symm.trans hj); exact Or.inl ⟨rfl, by rw [c50, c59]; rfl⟩⟩)
    · have c18 : (q_st kd a b c2 k) = false := kb_0.mp c18
      exact thr (text := "no such function or statement") (names := ["java/lang/RuntimeException", "java/lang/Exception"]) C0 hst hX hno hP hS hl.1 (by decide +kernel) (by decide +kernel) gw208 gw11 rfl (by decide +kernel) gx_IllegalArgumentException (vo_c rfl rfl go_IllegalArgumentException) dC_statement_21 dC_statement_24 dC_statement_25 dC_statement_27 dC_statement_30 (Nat.le_of_ble_eq_true rfl) (Nat.le_of_ble_eq_true rfl) (Nat.le_of_ble_eq_true rfl) (Nat.le_of_ble_eq_true rfl) (Or.inl ⟨rfl, by rw [c18]; cases q_fn x <;> rfl⟩)
