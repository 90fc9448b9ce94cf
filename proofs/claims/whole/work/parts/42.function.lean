/-! Function: its methods -/
def q_hg (gv x : Int32) : Bool := decide (x < nI 4) || decide ((gv >>> (x &&& 31)) &&& nI 1 = nI 1)
def q_hw (gv kd a b c : Int32) : Bool := (!q_uA kd || q_hg gv a) && (!q_uB kd || q_hg gv b) && (!q_uC kd || q_hg gv c)
def q_op (oi : Nat) (top kd : Int32) : Bool := (!decide (kd = nI 3) && !decide (kd = nI 4)) || (!decide (nI oi = 0) && (decide (kd = nI 4) || decide (top = nI 2)))
def q_rm (sz ni : Nat) (kd : Int32) : Bool := !decide (nI 16 ≤ nI sz) && (!decide (kd = nI 2) || !decide (nI 6 ≤ nI ni))
theorem nl34 : ¬ nI 3 = nI 4 := by decide +kernel
theorem nI_sub1 {n : Nat} (h : 0 < n) : nI n - nI 1 = nI (n - 1) := pk_sub h
set_option maxRecDepth 100000 in
set_option maxHeartbeats 4000000 in
theorem f_hasGiven {l : Launch} {D : va_G} {tys : List (ClassId × FieldType)} {L : List Nat} {f : Nat → va_E} (hn : L.Nodup) {F dR pR sA oA sz oi ni : Nat} {gv : Int32} (hFL : F ∈ L) (u1 : f F = .inr (0, [.ref dR, .ref pR, .ref sA, .ref oA, .int (nI sz), .int (nI oi), .int (nI ni), .int gv])) {x : Int32} : MetI l yF_hasGiven wF_hasGiven ({ frames := 0, cells := 0, slots := 0, locals := 0 } : Room) D tys L f [.ref F, .int x] (fun r f' => r = kb (q_hg gv x) ∧ f' = f) := by
  refine met_of "LiquidChecker$Function" (by decide) rfl (Nat.le_of_ble_eq_true rfl) ?_
  intro p e s m below meth c ls C0 hP hl
  obtain ⟨hx, hb, hml, hown, hg, hr, hlocks, hK, hN⟩ := id C0
  have hA : ∀ a ∈ L, inL L a := fun _ h => h
  obtain ⟨H, hH⟩ : ∃ z, z = s.heap := ⟨_, rfl⟩
  rw [← hH] at hP ⊢
  have hS : va_S (inL L) s.heap H [] := by rw [hH]; exact va_S.rf
  have hl : lv_has ls 2 [(0, .ref F), (1, .int x)] := hl
  refine lv_iload_n hx hb dF_hasGiven_0 rfl (lv_at hl 1 rfl) ?_
  refine lv_iconst (v := nI 4) hx hb dF_hasGiven_1 (by decide) ?_
  refine lv_icmp_lt (tgt := 17) hx hb dF_hasGiven_2 (by decide) (fun c2 => ?_) (fun c2 => ?_)
  · refine lv_iconst (v := nI 1) hx hb dF_hasGiven_17 (by decide) ?_
    refine lv_goto (tgt := 22) hx hb dF_hasGiven_18 (by decide) ?_
    exact ret_z C0 rfl hP hS ⟨by first | (simp [q_hg, kb, nl34, c2]; done), rfl⟩ dF_hasGiven_22
  · refine lv_aload_n hx hb dF_hasGiven_5 rfl (lv_at hl 0 rfl) ?_
    refine mm_get (v := .int gv) hx hb hg inF hown hK hP hFL u1 rfl 7 (by decide) (hg _ gw165) (fun _ h9 => h9) rfl dF_hasGiven_6 ?_
    refine lv_iload_n hx hb dF_hasGiven_9 rfl (lv_at hl 1 rfl) ?_
    refine lv_ishr hx hb dF_hasGiven_10 ?_
    refine lv_iconst (v := nI 1) hx hb dF_hasGiven_11 (by decide) ?_
    refine lv_iand hx hb dF_hasGiven_12 ?_
    refine lv_iconst (v := nI 1) hx hb dF_hasGiven_13 (by decide) ?_
    refine lv_icmp_ne (tgt := 21) hx hb dF_hasGiven_14 (by decide) (fun c14 => ?_) (fun c14 => ?_)
    · refine lv_iconst (v := nI 0) hx hb dF_hasGiven_21 (by decide) ?_
      exact ret_z C0 rfl hP hS ⟨by first | (simp [q_hg, kb, nl34, c2, c14]; done), rfl⟩ dF_hasGiven_22
    · refine lv_iconst (v := nI 1) hx hb dF_hasGiven_17 (by decide) ?_
      refine lv_goto (tgt := 22) hx hb dF_hasGiven_18 (by decide) ?_
      exact ret_z C0 rfl hP hS ⟨by first | (simp [q_hg, kb, nl34, c2, c14]; done) | exact absurd c14 c2, rfl⟩ dF_hasGiven_22
set_option maxRecDepth 100000 in
set_option maxHeartbeats 4000000 in
theorem f_hasGivenWhatIsUsed {l : Launch} {D : va_G} {tys : List (ClassId × FieldType)} {L : List Nat} {f : Nat → va_E} (hn : L.Nodup) {F dR pR sA oA sz oi ni : Nat} {gv : Int32} (hFL : F ∈ L) (u1 : f F = .inr (0, [.ref dR, .ref pR, .ref sA, .ref oA, .int (nI sz), .int (nI oi), .int (nI ni), .int gv])) {kd a b cc : Int32} : MetI l yF_hasGivenWhatIsUsed wF_hasGivenWhatIsUsed ({ frames := 1, cells := 0, slots := 0, locals := 21 } : Room) D tys L f [.ref F, .int kd, .int a, .int b, .int cc] (fun r f' => r = kb (q_hw gv kd a b cc) ∧ f' = f) := by
  refine met_of "LiquidChecker$Function" (by decide) rfl (Nat.le_of_ble_eq_true rfl) ?_
  intro p e s m below meth c ls C0 hP hl
  obtain ⟨hx, hb, hml, hown, hg, hr, hlocks, hK, hN⟩ := id C0
  have hA : ∀ a ∈ L, inL L a := fun _ h => h
  obtain ⟨H, hH⟩ : ∃ z, z = s.heap := ⟨_, rfl⟩
  rw [← hH] at hP ⊢
  have hS : va_S (inL L) s.heap H [] := by rw [hH]; exact va_S.rf
  have hl : lv_has ls 5 [(0, .ref F), (1, .int kd), (2, .int a), (3, .int b), (4, .int cc)] := hl
  refine lv_iload_n hx hb dF_hasGivenWhatIsUsed_0 rfl (lv_at hl 1 rfl) ?_
  refine then_i (run_SN (n := 1) (As := [.int kd]) (rest := []) C0 (qC_usesA hn) gw321 nx336 gw320 gw1 (by decide +kernel) ⟨Nat.le_of_ble_eq_true rfl, Nat.le_of_ble_eq_true rfl⟩ rfl rfl ⟨Nat.le_of_ble_eq_true rfl, Nat.le_of_ble_eq_true rfl⟩ hP rfl hl.1 rfl (Nat.le_of_ble_eq_true rfl) dF_hasGivenWhatIsUsed_1) hS hA (fun r2 f1 H locs hq1 hP hS => ?_)
  obtain ⟨er2, ef1⟩ := hq1
  subst er2
  rw [ef1] at hP
  refine lv_if_eq (tgt := 15) hx hb dF_hasGivenWhatIsUsed_4 (by decide) (fun c4 => ?_) (fun c4 => ?_)
  · have c4 : (q_uA kd) = false := kb_0.mp c4
    refine lv_iload_n hx hb dF_hasGivenWhatIsUsed_15 rfl (lv_at hl 1 rfl) ?_
    refine then_i (run_SN (n := 1) (As := [.int kd]) (rest := []) C0 (qC_usesB hn) gw327 nx341 gw326 gw1 (by decide +kernel) ⟨Nat.le_of_ble_eq_true rfl, Nat.le_of_ble_eq_true rfl⟩ rfl rfl ⟨Nat.le_of_ble_eq_true rfl, Nat.le_of_ble_eq_true rfl⟩ hP rfl hl.1 rfl (Nat.le_of_ble_eq_true rfl) dF_hasGivenWhatIsUsed_16) hS hA (fun r4 f3 H locs hq16 hP hS => ?_)
    obtain ⟨er4, ef3⟩ := hq16
    subst er4
    rw [ef3] at hP
    refine lv_if_eq (tgt := 30) hx hb dF_hasGivenWhatIsUsed_19 (by decide) (fun c19 => ?_) (fun c19 => ?_)
    · have c19 : (q_uB kd) = false := kb_0.mp c19
      refine lv_iload_n hx hb dF_hasGivenWhatIsUsed_30 rfl (lv_at hl 1 rfl) ?_
      refine then_i (run_SN (n := 1) (As := [.int kd]) (rest := []) C0 (qC_usesC hn) gw330 nx342 gw329 gw1 (by decide +kernel) ⟨Nat.le_of_ble_eq_true rfl, Nat.le_of_ble_eq_true rfl⟩ rfl rfl ⟨Nat.le_of_ble_eq_true rfl, Nat.le_of_ble_eq_true rfl⟩ hP rfl hl.1 rfl (Nat.le_of_ble_eq_true rfl) dF_hasGivenWhatIsUsed_31) hS hA (fun r6 f5 H locs hq31 hP hS => ?_)
      obtain ⟨er6, ef5⟩ := hq31
      subst er6
      rw [ef5] at hP
      refine lv_if_eq (tgt := 46) hx hb dF_hasGivenWhatIsUsed_34 (by decide) (fun c34 => ?_) (fun c34 => ?_)
      · have c34 : (q_uC kd) = false := kb_0.mp c34
        refine lv_iconst (v := nI 1) hx hb dF_hasGivenWhatIsUsed_46 (by decide) ?_
        refine lv_goto (tgt := 51) hx hb dF_hasGivenWhatIsUsed_47 (by decide) ?_
        exact ret_z C0 rfl hP hS ⟨by first | (simp [q_hw, kb, nl34, c4, c19, c34]; done) | exact absurd (c4.symm.trans c19) (by decide +kernel) | exact absurd (c4.symm.trans c34) (by decide +kernel) | exact absurd (c19.symm.trans c34) (by decide +kernel), rfl⟩ dF_hasGivenWhatIsUsed_51
      · have c34 : (q_uC kd) = true := kb_t.mp c34
        refine lv_aload_n hx hb dF_hasGivenWhatIsUsed_37 rfl (lv_at hl 0 rfl) ?_
        refine lv_iload hx hb dF_hasGivenWhatIsUsed_38 (lv_at hl 4 rfl) ?_
        refine then_i (run_V (n := 1) (As := [.int cc]) (rest := []) C0 (f_hasGiven hn hFL u1) gw340 gw337 gw339 gsF_hasGiven gw4 (by decide +kernel) ⟨Nat.le_of_ble_eq_true rfl, Nat.le_of_ble_eq_true rfl⟩ rfl rfl ⟨Nat.le_of_ble_eq_true rfl, Nat.le_of_ble_eq_true rfl⟩ hP hFL u1 rfl rfl rfl hl.1 rfl (Nat.le_of_ble_eq_true rfl) dF_hasGivenWhatIsUsed_40) hS hA (fun r8 f7 H locs hq40 hP hS => ?_)
        obtain ⟨er8, ef7⟩ := hq40
        subst er8
        rw [ef7] at hP
        refine lv_if_eq (tgt := 50) hx hb dF_hasGivenWhatIsUsed_43 (by decide) (fun c43 => ?_) (fun c43 => ?_)
        · have c43 : (q_hg gv cc) = false := kb_0.mp c43
          refine lv_iconst (v := nI 0) hx hb dF_hasGivenWhatIsUsed_50 (by decide) ?_
          exact ret_z C0 rfl hP hS ⟨by first | (simp [q_hw, kb, nl34, c4, c19, c34, c43]; done) | exact absurd (c4.symm.trans c19) (by decide +kernel) | exact absurd (c4.symm.trans c43) (by decide +kernel) | exact absurd (c19.symm.trans c43) (by decide +kernel) | exact absurd c4 c34 | exact absurd c19 c34 | exact absurd c43 c34, rfl⟩ dF_hasGivenWhatIsUsed_51
        · have c43 : (q_hg gv cc) = true := kb_t.mp c43
          refine lv_iconst (v := nI 1) hx hb dF_hasGivenWhatIsUsed_46 (by decide) ?_
          refine lv_goto (tgt := 51) hx hb dF_hasGivenWhatIsUsed_47 (by decide) ?_
          exact ret_z C0 rfl hP hS ⟨by first | (simp [q_hw, kb, nl34, c4, c19, c34, c43]; done) | exact absurd (c4.symm.trans c19) (by decide +kernel) | exact absurd c4 c34 | exact absurd c4 c43 | exact absurd c19 c34 | exact absurd c19 c43, rfl⟩ dF_hasGivenWhatIsUsed_51
    · have c19 : (q_uB kd) = true := kb_t.mp c19
      refine lv_aload_n hx hb dF_hasGivenWhatIsUsed_22 rfl (lv_at hl 0 rfl) ?_
      refine lv_iload_n hx hb dF_hasGivenWhatIsUsed_23 rfl (lv_at hl 3 rfl) ?_
      refine then_i (run_V (n := 1) (As := [.int b]) (rest := []) C0 (f_hasGiven hn hFL u1) gw340 gw337 gw339 gsF_hasGiven gw4 (by decide +kernel) ⟨Nat.le_of_ble_eq_true rfl, Nat.le_of_ble_eq_true rfl⟩ rfl rfl ⟨Nat.le_of_ble_eq_true rfl, Nat.le_of_ble_eq_true rfl⟩ hP hFL u1 rfl rfl rfl hl.1 rfl (Nat.le_of_ble_eq_true rfl) dF_hasGivenWhatIsUsed_24) hS hA (fun r10 f9 H locs hq24 hP hS => ?_)
      obtain ⟨er10, ef9⟩ := hq24
      subst er10
      rw [ef9] at hP
      refine lv_if_eq (tgt := 50) hx hb dF_hasGivenWhatIsUsed_27 (by decide) (fun c27 => ?_) (fun c27 => ?_)
      · have c27 : (q_hg gv b) = false := kb_0.mp c27
        refine lv_iconst (v := nI 0) hx hb dF_hasGivenWhatIsUsed_50 (by decide) ?_
        exact ret_z C0 rfl hP hS ⟨by first | (simp [q_hw, kb, nl34, c4, c19, c27]; done) | exact absurd (c4.symm.trans c27) (by decide +kernel) | exact absurd c4 c19 | exact absurd c27 c19, rfl⟩ dF_hasGivenWhatIsUsed_51
      · have c27 : (q_hg gv b) = true := kb_t.mp c27
        refine lv_iload_n hx hb dF_hasGivenWhatIsUsed_30 rfl (lv_at hl 1 rfl) ?_
        refine then_i (run_SN (n := 1) (As := [.int kd]) (rest := []) C0 (qC_usesC hn) gw330 nx342 gw329 gw1 (by decide +kernel) ⟨Nat.le_of_ble_eq_true rfl, Nat.le_of_ble_eq_true rfl⟩ rfl rfl ⟨Nat.le_of_ble_eq_true rfl, Nat.le_of_ble_eq_true rfl⟩ hP rfl hl.1 rfl (Nat.le_of_ble_eq_true rfl) dF_hasGivenWhatIsUsed_31) hS hA (fun r12 f11 H locs hq31 hP hS => ?_)
        obtain ⟨er12, ef11⟩ := hq31
        subst er12
        rw [ef11] at hP
        refine lv_if_eq (tgt := 46) hx hb dF_hasGivenWhatIsUsed_34 (by decide) (fun c34 => ?_) (fun c34 => ?_)
        · have c34 : (q_uC kd) = false := kb_0.mp c34
          refine lv_iconst (v := nI 1) hx hb dF_hasGivenWhatIsUsed_46 (by decide) ?_
          refine lv_goto (tgt := 51) hx hb dF_hasGivenWhatIsUsed_47 (by decide) ?_
          exact ret_z C0 rfl hP hS ⟨by first | (simp [q_hw, kb, nl34, c4, c19, c27, c34]; done) | exact absurd (c4.symm.trans c34) (by decide +kernel) | exact absurd c4 c19 | exact absurd c4 c27 | exact absurd c34 c19 | exact absurd c34 c27, rfl⟩ dF_hasGivenWhatIsUsed_51
        · have c34 : (q_uC kd) = true := kb_t.mp c34
          refine lv_aload_n hx hb dF_hasGivenWhatIsUsed_37 rfl (lv_at hl 0 rfl) ?_
          refine lv_iload hx hb dF_hasGivenWhatIsUsed_38 (lv_at hl 4 rfl) ?_
          refine then_i (run_V (n := 1) (As := [.int cc]) (rest := []) C0 (f_hasGiven hn hFL u1) gw340 gw337 gw339 gsF_hasGiven gw4 (by decide +kernel) ⟨Nat.le_of_ble_eq_true rfl, Nat.le_of_ble_eq_true rfl⟩ rfl rfl ⟨Nat.le_of_ble_eq_true rfl, Nat.le_of_ble_eq_true rfl⟩ hP hFL u1 rfl rfl rfl hl.1 rfl (Nat.le_of_ble_eq_true rfl) dF_hasGivenWhatIsUsed_40) hS hA (fun r14 f13 H locs hq40 hP hS => ?_)
          obtain ⟨er14, ef13⟩ := hq40
          subst er14
          rw [ef13] at hP
          refine lv_if_eq (tgt := 50) hx hb dF_hasGivenWhatIsUsed_43 (by decide) (fun c43 => ?_) (fun c43 => ?_)
          · have c43 : (q_hg gv cc) = false := kb_0.mp c43
            refine lv_iconst (v := nI 0) hx hb dF_hasGivenWhatIsUsed_50 (by decide) ?_
            exact ret_z C0 rfl hP hS ⟨by first | (simp [q_hw, kb, nl34, c4, c19, c27, c34, c43]; done) | exact absurd (c4.symm.trans c43) (by decide +kernel) | exact absurd c4 c19 | exact absurd c4 c27 | exact absurd c4 c34 | exact absurd c43 c19 | exact absurd c43 c27 | exact absurd c43 c34, rfl⟩ dF_hasGivenWhatIsUsed_51
          · have c43 : (q_hg gv cc) = true := kb_t.mp c43
            refine lv_iconst (v := nI 1) hx hb dF_hasGivenWhatIsUsed_46 (by decide) ?_
            refine lv_goto (tgt := 51) hx hb dF_hasGivenWhatIsUsed_47 (by decide) ?_
            exact ret_z C0 rfl hP hS ⟨by first | (simp [q_hw, kb, nl34, c4, c19, c27, c34, c43]; done) | exact absurd c4 c19 | exact absurd c4 c27 | exact absurd c4 c34 | exact absurd c4 c43, rfl⟩ dF_hasGivenWhatIsUsed_51
  · have c4 : (q_uA kd) = true := kb_t.mp c4
    refine lv_aload_n hx hb dF_hasGivenWhatIsUsed_7 rfl (lv_at hl 0 rfl) ?_
    refine lv_iload_n hx hb dF_hasGivenWhatIsUsed_8 rfl (lv_at hl 2 rfl) ?_
    refine then_i (run_V (n := 1) (As := [.int a]) (rest := []) C0 (f_hasGiven hn hFL u1) gw340 gw337 gw339 gsF_hasGiven gw4 (by decide +kernel) ⟨Nat.le_of_ble_eq_true rfl, Nat.le_of_ble_eq_true rfl⟩ rfl rfl ⟨Nat.le_of_ble_eq_true rfl, Nat.le_of_ble_eq_true rfl⟩ hP hFL u1 rfl rfl rfl hl.1 rfl (Nat.le_of_ble_eq_true rfl) dF_hasGivenWhatIsUsed_9) hS hA (fun r16 f15 H locs hq9 hP hS => ?_)
    obtain ⟨er16, ef15⟩ := hq9
    subst er16
    rw [ef15] at hP
    refine lv_if_eq (tgt := 50) hx hb dF_hasGivenWhatIsUsed_12 (by decide) (fun c12 => ?_) (fun c12 => ?_)
    · have c12 : (q_hg gv a) = false := kb_0.mp c12
      refine lv_iconst (v := nI 0) hx hb dF_hasGivenWhatIsUsed_50 (by decide) ?_
      exact ret_z C0 rfl hP hS ⟨by first | (simp [q_hw, kb, nl34, c4, c12]; done) | exact absurd c12 c4, rfl⟩ dF_hasGivenWhatIsUsed_51
    · have c12 : (q_hg gv a) = true := kb_t.mp c12
      refine lv_iload_n hx hb dF_hasGivenWhatIsUsed_15 rfl (lv_at hl 1 rfl) ?_
      refine then_i (run_SN (n := 1) (As := [.int kd]) (rest := []) C0 (qC_usesB hn) gw327 nx341 gw326 gw1 (by decide +kernel) ⟨Nat.le_of_ble_eq_true rfl, Nat.le_of_ble_eq_true rfl⟩ rfl rfl ⟨Nat.le_of_ble_eq_true rfl, Nat.le_of_ble_eq_true rfl⟩ hP rfl hl.1 rfl (Nat.le_of_ble_eq_true rfl) dF_hasGivenWhatIsUsed_16) hS hA (fun r18 f17 H locs hq16 hP hS => ?_)
      obtain ⟨er18, ef17⟩ := hq16
      subst er18
      rw [ef17] at hP
      refine lv_if_eq (tgt := 30) hx hb dF_hasGivenWhatIsUsed_19 (by decide) (fun c19 => ?_) (fun c19 => ?_)
      · have c19 : (q_uB kd) = false := kb_0.mp c19
        refine lv_iload_n hx hb dF_hasGivenWhatIsUsed_30 rfl (lv_at hl 1 rfl) ?_
        refine then_i (run_SN (n := 1) (As := [.int kd]) (rest := []) C0 (qC_usesC hn) gw330 nx342 gw329 gw1 (by decide +kernel) ⟨Nat.le_of_ble_eq_true rfl, Nat.le_of_ble_eq_true rfl⟩ rfl rfl ⟨Nat.le_of_ble_eq_true rfl, Nat.le_of_ble_eq_true rfl⟩ hP rfl hl.1 rfl (Nat.le_of_ble_eq_true rfl) dF_hasGivenWhatIsUsed_31) hS hA (fun r20 f19 H locs hq31 hP hS => ?_)
        obtain ⟨er20, ef19⟩ := hq31
        subst er20
        rw [ef19] at hP
        refine lv_if_eq (tgt := 46) hx hb dF_hasGivenWhatIsUsed_34 (by decide) (fun c34 => ?_) (fun c34 => ?_)
        · have c34 : (q_uC kd) = false := kb_0.mp c34
          refine lv_iconst (v := nI 1) hx hb dF_hasGivenWhatIsUsed_46 (by decide) ?_
          refine lv_goto (tgt := 51) hx hb dF_hasGivenWhatIsUsed_47 (by decide) ?_
          exact ret_z C0 rfl hP hS ⟨by first | (simp [q_hw, kb, nl34, c4, c12, c19, c34]; done) | exact absurd (c19.symm.trans c34) (by decide +kernel) | exact absurd c19 c4 | exact absurd c19 c12 | exact absurd c34 c4 | exact absurd c34 c12, rfl⟩ dF_hasGivenWhatIsUsed_51
        · have c34 : (q_uC kd) = true := kb_t.mp c34
          refine lv_aload_n hx hb dF_hasGivenWhatIsUsed_37 rfl (lv_at hl 0 rfl) ?_
          refine lv_iload hx hb dF_hasGivenWhatIsUsed_38 (lv_at hl 4 rfl) ?_
          refine then_i (run_V (n := 1) (As := [.int cc]) (rest := []) C0 (f_hasGiven hn hFL u1) gw340 gw337 gw339 gsF_hasGiven gw4 (by decide +kernel) ⟨Nat.le_of_ble_eq_true rfl, Nat.le_of_ble_eq_true rfl⟩ rfl rfl ⟨Nat.le_of_ble_eq_true rfl, Nat.le_of_ble_eq_true rfl⟩ hP hFL u1 rfl rfl rfl hl.1 rfl (Nat.le_of_ble_eq_true rfl) dF_hasGivenWhatIsUsed_40) hS hA (fun r22 f21 H locs hq40 hP hS => ?_)
          obtain ⟨er22, ef21⟩ := hq40
          subst er22
          rw [ef21] at hP
          refine lv_if_eq (tgt := 50) hx hb dF_hasGivenWhatIsUsed_43 (by decide) (fun c43 => ?_) (fun c43 => ?_)
          · have c43 : (q_hg gv cc) = false := kb_0.mp c43
            refine lv_iconst (v := nI 0) hx hb dF_hasGivenWhatIsUsed_50 (by decide) ?_
            exact ret_z C0 rfl hP hS ⟨by first | (simp [q_hw, kb, nl34, c4, c12, c19, c34, c43]; done) | exact absurd (c19.symm.trans c43) (by decide +kernel) | exact absurd c19 c4 | exact absurd c19 c12 | exact absurd c19 c34 | exact absurd c43 c4 | exact absurd c43 c12 | exact absurd c43 c34, rfl⟩ dF_hasGivenWhatIsUsed_51
          · have c43 : (q_hg gv cc) = true := kb_t.mp c43
            refine lv_iconst (v := nI 1) hx hb dF_hasGivenWhatIsUsed_46 (by decide) ?_
            refine lv_goto (tgt := 51) hx hb dF_hasGivenWhatIsUsed_47 (by decide) ?_
            exact ret_z C0 rfl hP hS ⟨by first | (simp [q_hw, kb, nl34, c4, c12, c19, c34, c43]; done) | exact absurd c19 c4 | exact absurd c19 c12 | exact absurd c19 c34 | exact absurd c19 c43, rfl⟩ dF_hasGivenWhatIsUsed_51
      · have c19 : (q_uB kd) = true := kb_t.mp c19
        refine lv_aload_n hx hb dF_hasGivenWhatIsUsed_22 rfl (lv_at hl 0 rfl) ?_
        refine lv_iload_n hx hb dF_hasGivenWhatIsUsed_23 rfl (lv_at hl 3 rfl) ?_
        refine then_i (run_V (n := 1) (As := [.int b]) (rest := []) C0 (f_hasGiven hn hFL u1) gw340 gw337 gw339 gsF_hasGiven gw4 (by decide +kernel) ⟨Nat.le_of_ble_eq_true rfl, Nat.le_of_ble_eq_true rfl⟩ rfl rfl ⟨Nat.le_of_ble_eq_true rfl, Nat.le_of_ble_eq_true rfl⟩ hP hFL u1 rfl rfl rfl hl.1 rfl (Nat.le_of_ble_eq_true rfl) dF_hasGivenWhatIsUsed_24) hS hA (fun r24 f23 H locs hq24 hP hS => ?_)
        obtain ⟨er24, ef23⟩ := hq24
        subst er24
        rw [ef23] at hP
        refine lv_if_eq (tgt := 50) hx hb dF_hasGivenWhatIsUsed_27 (by decide) (fun c27 => ?_) (fun c27 => ?_)
        · have c27 : (q_hg gv b) = false := kb_0.mp c27
          refine lv_iconst (v := nI 0) hx hb dF_hasGivenWhatIsUsed_50 (by decide) ?_
          exact ret_z C0 rfl hP hS ⟨by first | (simp [q_hw, kb, nl34, c4, c12, c19, c27]; done) | exact absurd c27 c4 | exact absurd c27 c12 | exact absurd c27 c19, rfl⟩ dF_hasGivenWhatIsUsed_51
        · have c27 : (q_hg gv b) = true := kb_t.mp c27
          refine lv_iload_n hx hb dF_hasGivenWhatIsUsed_30 rfl (lv_at hl 1 rfl) ?_
          refine then_i (run_SN (n := 1) (As := [.int kd]) (rest := []) C0 (qC_usesC hn) gw330 nx342 gw329 gw1 (by decide +kernel) ⟨Nat.le_of_ble_eq_true rfl, Nat.le_of_ble_eq_true rfl⟩ rfl rfl ⟨Nat.le_of_ble_eq_true rfl, Nat.le_of_ble_eq_true rfl⟩ hP rfl hl.1 rfl (Nat.le_of_ble_eq_true rfl) dF_hasGivenWhatIsUsed_31) hS hA (fun r26 f25 H locs hq31 hP hS => ?_)
          obtain ⟨er26, ef25⟩ := hq31
          subst er26
          rw [ef25] at hP
          refine lv_if_eq (tgt := 46) hx hb dF_hasGivenWhatIsUsed_34 (by decide) (fun c34 => ?_) (fun c34 => ?_)
          · have c34 : (q_uC kd) = false := kb_0.mp c34
            refine lv_iconst (v := nI 1) hx hb dF_hasGivenWhatIsUsed_46 (by decide) ?_
            refine lv_goto (tgt := 51) hx hb dF_hasGivenWhatIsUsed_47 (by decide) ?_
            exact ret_z C0 rfl hP hS ⟨by first | (simp [q_hw, kb, nl34, c4, c12, c19, c27, c34]; done) | exact absurd c34 c4 | exact absurd c34 c12 | exact absurd c34 c19 | exact absurd c34 c27, rfl⟩ dF_hasGivenWhatIsUsed_51
          · have c34 : (q_uC kd) = true := kb_t.mp c34
            refine lv_aload_n hx hb dF_hasGivenWhatIsUsed_37 rfl (lv_at hl 0 rfl) ?_
            refine lv_iload hx hb dF_hasGivenWhatIsUsed_38 (lv_at hl 4 rfl) ?_
            refine then_i (run_V (n := 1) (As := [.int cc]) (rest := []) C0 (f_hasGiven hn hFL u1) gw340 gw337 gw339 gsF_hasGiven gw4 (by decide +kernel) ⟨Nat.le_of_ble_eq_true rfl, Nat.le_of_ble_eq_true rfl⟩ rfl rfl ⟨Nat.le_of_ble_eq_true rfl, Nat.le_of_ble_eq_true rfl⟩ hP hFL u1 rfl rfl rfl hl.1 rfl (Nat.le_of_ble_eq_true rfl) dF_hasGivenWhatIsUsed_40) hS hA (fun r28 f27 H locs hq40 hP hS => ?_)
            obtain ⟨er28, ef27⟩ := hq40
            subst er28
            rw [ef27] at hP
            refine lv_if_eq (tgt := 50) hx hb dF_hasGivenWhatIsUsed_43 (by decide) (fun c43 => ?_) (fun c43 => ?_)
            · have c43 : (q_hg gv cc) = false := kb_0.mp c43
              refine lv_iconst (v := nI 0) hx hb dF_hasGivenWhatIsUsed_50 (by decide) ?_
              exact ret_z C0 rfl hP hS ⟨by first | (simp [q_hw, kb, nl34, c4, c12, c19, c27, c34, c43]; done) | exact absurd c43 c4 | exact absurd c43 c12 | exact absurd c43 c19 | exact absurd c43 c27 | exact absurd c43 c34, rfl⟩ dF_hasGivenWhatIsUsed_51
            · have c43 : (q_hg gv cc) = true := kb_t.mp c43
              refine lv_iconst (v := nI 1) hx hb dF_hasGivenWhatIsUsed_46 (by decide) ?_
              refine lv_goto (tgt := 51) hx hb dF_hasGivenWhatIsUsed_47 (by decide) ?_
              exact ret_z C0 rfl hP hS ⟨by first | (simp [q_hw, kb, nl34, c4, c12, c19, c27, c34, c43]; done), rfl⟩ dF_hasGivenWhatIsUsed_51
set_option maxRecDepth 100000 in
set_option maxHeartbeats 4000000 in
theorem f_hasRoomFor {l : Launch} {D : va_G} {tys : List (ClassId × FieldType)} {L : List Nat} {f : Nat → va_E} (hn : L.Nodup) {F dR pR sA oA sz oi ni : Nat} {gv : Int32} (hFL : F ∈ L) (u1 : f F = .inr (0, [.ref dR, .ref pR, .ref sA, .ref oA, .int (nI sz), .int (nI oi), .int (nI ni), .int gv])) {kd : Int32} : MetI l yF_hasRoomFor wF_hasRoomFor ({ frames := 0, cells := 0, slots := 0, locals := 0 } : Room) D tys L f [.ref F, .int kd] (fun r f' => r = kb (q_rm sz ni kd) ∧ f' = f) := by
  refine met_of "LiquidChecker$Function" (by decide) rfl (Nat.le_of_ble_eq_true rfl) ?_
  intro p e s m below meth c ls C0 hP hl
  obtain ⟨hx, hb, hml, hown, hg, hr, hlocks, hK, hN⟩ := id C0
  have hA : ∀ a ∈ L, inL L a := fun _ h => h
  obtain ⟨H, hH⟩ : ∃ z, z = s.heap := ⟨_, rfl⟩
  rw [← hH] at hP ⊢
  have hS : va_S (inL L) s.heap H [] := by rw [hH]; exact va_S.rf
  have hl : lv_has ls 2 [(0, .ref F), (1, .int kd)] := hl
  refine lv_aload_n hx hb dF_hasRoomFor_0 rfl (lv_at hl 0 rfl) ?_
  refine mm_get (v := .int (nI sz)) hx hb hg inF hown hK hP hFL u1 rfl 4 (by decide) (hg _ gw159) (fun _ h9 => h9) rfl dF_hasRoomFor_1 ?_
  refine lv_bipush (v := nI 16) hx hb dF_hasRoomFor_4 (by decide) ?_
  refine lv_icmp_ge (tgt := 27) hx hb dF_hasRoomFor_6 (by decide) (fun c6 => ?_) (fun c6 => ?_)
  · refine lv_iconst (v := nI 0) hx hb dF_hasRoomFor_27 (by decide) ?_
    exact ret_z C0 rfl hP hS ⟨by first | (simp [q_rm, kb, nl34, c6]; done), rfl⟩ dF_hasRoomFor_28
  · refine lv_iload_n hx hb dF_hasRoomFor_9 rfl (lv_at hl 1 rfl) ?_
    refine lv_iconst (v := nI 2) hx hb dF_hasRoomFor_10 (by decide) ?_
    refine lv_icmp_ne (tgt := 23) hx hb dF_hasRoomFor_11 (by decide) (fun c11 => ?_) (fun c11 => ?_)
    · refine lv_iconst (v := nI 1) hx hb dF_hasRoomFor_23 (by decide) ?_
      refine lv_goto (tgt := 28) hx hb dF_hasRoomFor_24 (by decide) ?_
      exact ret_z C0 rfl hP hS ⟨by first | (simp [q_rm, kb, nl34, c6, c11]; done), rfl⟩ dF_hasRoomFor_28
    · refine lv_aload_n hx hb dF_hasRoomFor_14 rfl (lv_at hl 0 rfl) ?_
      refine mm_get (v := .int (nI ni)) hx hb hg inF hown hK hP hFL u1 rfl 6 (by decide) (hg _ gw164) (fun _ h9 => h9) rfl dF_hasRoomFor_15 ?_
      refine lv_bipush (v := nI 6) hx hb dF_hasRoomFor_18 (by decide) ?_
      refine lv_icmp_ge (tgt := 27) hx hb dF_hasRoomFor_20 (by decide) (fun c20 => ?_) (fun c20 => ?_)
      · refine lv_iconst (v := nI 0) hx hb dF_hasRoomFor_27 (by decide) ?_
        exact ret_z C0 rfl hP hS ⟨by first | (simp [q_rm, kb, nl34, c6, c11, c20]; done) | exact absurd (c11.symm.trans c20) (by decide +kernel) | exact absurd c11 c6 | exact absurd c20 c6, rfl⟩ dF_hasRoomFor_28
      · refine lv_iconst (v := nI 1) hx hb dF_hasRoomFor_23 (by decide) ?_
        refine lv_goto (tgt := 28) hx hb dF_hasRoomFor_24 (by decide) ?_
        exact ret_z C0 rfl hP hS ⟨by first | (simp [q_rm, kb, nl34, c6, c11, c20]; done) | exact absurd c11 c6 | exact absurd c11 c20, rfl⟩ dF_hasRoomFor_28
set_option maxRecDepth 100000 in
set_option maxHeartbeats 4000000 in
theorem f_isOpenFor {l : Launch} {D : va_G} {tys : List (ClassId × FieldType)} {L : List Nat} {f : Nat → va_E} (hn : L.Nodup) {F dR pR sA oA sz oi ni : Nat} {gv : Int32} (hFL : F ∈ L) (u1 : f F = .inr (0, [.ref dR, .ref pR, .ref sA, .ref oA, .int (nI sz), .int (nI oi), .int (nI ni), .int gv])) {sq : Nat → Nat} {sk sa sb sc sK sl go : Nat → Int32} (hsAL : sA ∈ L) (u2 : mm_Q tys "LiquidChecker$Statement" f sA 16 (fun j => some (sq j))) (hoAL : oA ∈ L) (u3 : mm_I tys f oA 6 go) (hsqL : ∀ j, j < 16 → sq j ∈ L) (u4 : ∀ j, j < 16 → f (sq j) = .inr (3, [.int (sk j), .int (sa j), .int (sb j), .int (sc j), .int (sK j), .int (sl j)])) {t : Nat} (ht : oi ≠ 0 → go (oi - 1) = nI t ∧ t < 16) (hoi : oi ≤ 6) {kd : Int32} : MetI l yF_isOpenFor wF_isOpenFor ({ frames := 0, cells := 0, slots := 0, locals := 0 } : Room) D tys L f [.ref F, .int kd] (fun r f' => r = kb (q_op oi (sk t) kd) ∧ f' = f) := by
  refine met_of "LiquidChecker$Function" (by decide) rfl (Nat.le_of_ble_eq_true rfl) ?_
  intro p e s m below meth c ls C0 hP hl
  obtain ⟨hx, hb, hml, hown, hg, hr, hlocks, hK, hN⟩ := id C0
  have hA : ∀ a ∈ L, inL L a := fun _ h => h
  obtain ⟨H, hH⟩ : ∃ z, z = s.heap := ⟨_, rfl⟩
  rw [← hH] at hP ⊢
  have hS : va_S (inL L) s.heap H [] := by rw [hH]; exact va_S.rf
  have hl : lv_has ls 2 [(0, .ref F), (1, .int kd)] := hl
  refine lv_iload_n hx hb dF_isOpenFor_0 rfl (lv_at hl 1 rfl) ?_
  refine lv_iconst (v := nI 3) hx hb dF_isOpenFor_1 (by decide) ?_
  refine lv_icmp_eq (tgt := 12) hx hb dF_isOpenFor_2 (by decide) (fun c2 => ?_) (fun c2 => ?_)
  · refine lv_aload_n hx hb dF_isOpenFor_12 rfl (lv_at hl 0 rfl) ?_
    refine mm_get (v := .int (nI oi)) hx hb hg inF hown hK hP hFL u1 rfl 5 (by decide) (hg _ gw162) (fun _ h9 => h9) rfl dF_isOpenFor_13 ?_
    refine lv_if_ne (tgt := 21) hx hb dF_isOpenFor_16 (by decide) (fun c16 => ?_) (fun c16 => ?_)
    · refine lv_iload_n hx hb dF_isOpenFor_21 rfl (lv_at hl 1 rfl) ?_
      refine lv_iconst (v := nI 4) hx hb dF_isOpenFor_22 (by decide) ?_
      refine lv_icmp_eq (tgt := 49) hx hb dF_isOpenFor_23 (by decide) (fun c23 => ?_) (fun c23 => ?_)
      · refine lv_iconst (v := nI 1) hx hb dF_isOpenFor_49 (by decide) ?_
        refine lv_goto (tgt := 54) hx hb dF_isOpenFor_50 (by decide) ?_
        exact ret_z C0 rfl hP hS ⟨by first | (simp [q_op, kb, nl34, c2, c16, c23]; done) | exact absurd (c2.symm.trans c23) (by decide +kernel) | exact absurd c2 c16 | exact absurd c23 c16, rfl⟩ dF_isOpenFor_54
      · refine lv_aload_n hx hb dF_isOpenFor_26 rfl (lv_at hl 0 rfl) ?_
        refine mm_get (v := .ref sA) hx hb hg inF hown hK hP hFL u1 rfl 2 (by decide) (hg _ gw156) (fun _ h9 => h9) rfl dF_isOpenFor_27 ?_
        refine lv_aload_n hx hb dF_isOpenFor_30 rfl (lv_at hl 0 rfl) ?_
        refine mm_get (v := .ref oA) hx hb hg inF hown hK hP hFL u1 rfl 3 (by decide) (hg _ gw158) (fun _ h9 => h9) rfl dF_isOpenFor_31 ?_
        refine lv_aload_n hx hb dF_isOpenFor_34 rfl (lv_at hl 0 rfl) ?_
        refine mm_get (v := .int (nI oi)) hx hb hg inF hown hK hP hFL u1 rfl 5 (by decide) (hg _ gw162) (fun _ h9 => h9) rfl dF_isOpenFor_35 ?_
        refine lv_iconst (v := nI 1) hx hb dF_isOpenFor_38 (by decide) ?_
        refine lv_isub hx hb dF_isOpenFor_39 ?_
        have hoi0 : oi ≠ 0 := fun z => c16 (by rw [z]; rfl)
        rw [nI_sub1 (by omega)]
        refine mm_iald hx hb hK hP hoAL u3 (vp_in_nI (show oi - 1 < 6 by omega) (by omega)) dF_isOpenFor_40 ?_
        rw [nI_clamp (by omega)]
        rw [(ht hoi0).1]
        refine mm_aldq hx hb hK hP hsAL u2 (vp_in_nI (show t < 16 from (ht hoi0).2) (by omega)) (q := (sq t)) (by rw [nI_clamp (by omega)]) dF_isOpenFor_41 ?_
        refine mm_getN (v := .int (sk t)) hx hb hg inS hown hK hP (hsqL t (ht hoi0).2) (u4 t (ht hoi0).2) rfl 0 (by decide) (va_Nw.use rfl (hN _ nx125)) (fun _ h9 => h9) rfl dF_isOpenFor_42 ?_
        refine lv_iconst (v := nI 2) hx hb dF_isOpenFor_45 (by decide) ?_
        refine lv_icmp_ne (tgt := 53) hx hb dF_isOpenFor_46 (by decide) (fun c46 => ?_) (fun c46 => ?_)
        · refine lv_iconst (v := nI 0) hx hb dF_isOpenFor_53 (by decide) ?_
          exact ret_z C0 rfl hP hS ⟨by first | (simp [q_op, kb, nl34, c2, c16, c23, c46]; done) | exact absurd c2 c16 | exact absurd c2 c23 | exact absurd c2 c46, rfl⟩ dF_isOpenFor_54
        · refine lv_iconst (v := nI 1) hx hb dF_isOpenFor_49 (by decide) ?_
          refine lv_goto (tgt := 54) hx hb dF_isOpenFor_50 (by decide) ?_
          exact ret_z C0 rfl hP hS ⟨by first | (simp [q_op, kb, nl34, c2, c16, c23, c46]; done) | exact absurd (c2.symm.trans c46) (by decide +kernel) | exact absurd c2 c16 | exact absurd c2 c23 | exact absurd c46 c16 | exact absurd c46 c23, rfl⟩ dF_isOpenFor_54
    · refine lv_iconst (v := nI 0) hx hb dF_isOpenFor_19 (by decide) ?_
      exact ret_z C0 rfl hP hS ⟨by first | (simp [q_op, kb, nl34, c2, c16]; done) | exact absurd (c2.symm.trans c16) (by decide +kernel), rfl⟩ dF_isOpenFor_20
  · refine lv_iload_n hx hb dF_isOpenFor_5 rfl (lv_at hl 1 rfl) ?_
    refine lv_iconst (v := nI 4) hx hb dF_isOpenFor_6 (by decide) ?_
    refine lv_icmp_eq (tgt := 12) hx hb dF_isOpenFor_7 (by decide) (fun c7 => ?_) (fun c7 => ?_)
    · refine lv_aload_n hx hb dF_isOpenFor_12 rfl (lv_at hl 0 rfl) ?_
      refine mm_get (v := .int (nI oi)) hx hb hg inF hown hK hP hFL u1 rfl 5 (by decide) (hg _ gw162) (fun _ h9 => h9) rfl dF_isOpenFor_13 ?_
      refine lv_if_ne (tgt := 21) hx hb dF_isOpenFor_16 (by decide) (fun c16 => ?_) (fun c16 => ?_)
      · refine lv_iload_n hx hb dF_isOpenFor_21 rfl (lv_at hl 1 rfl) ?_
        refine lv_iconst (v := nI 4) hx hb dF_isOpenFor_22 (by decide) ?_
        refine lv_icmp_eq (tgt := 49) hx hb dF_isOpenFor_23 (by decide) (fun c23 => ?_) (fun c23 => ?_)
        · refine lv_iconst (v := nI 1) hx hb dF_isOpenFor_49 (by decide) ?_
          refine lv_goto (tgt := 54) hx hb dF_isOpenFor_50 (by decide) ?_
          exact ret_z C0 rfl hP hS ⟨by first | (simp [q_op, kb, nl34, c2, c7, c16, c23]; done) | exact absurd (c7.symm.trans c23) (by decide +kernel) | exact absurd c7 c2 | exact absurd c7 c16 | exact absurd c23 c2 | exact absurd c23 c16, rfl⟩ dF_isOpenFor_54
        · refine lv_aload_n hx hb dF_isOpenFor_26 rfl (lv_at hl 0 rfl) ?_
          refine mm_get (v := .ref sA) hx hb hg inF hown hK hP hFL u1 rfl 2 (by decide) (hg _ gw156) (fun _ h9 => h9) rfl dF_isOpenFor_27 ?_
          refine lv_aload_n hx hb dF_isOpenFor_30 rfl (lv_at hl 0 rfl) ?_
          refine mm_get (v := .ref oA) hx hb hg inF hown hK hP hFL u1 rfl 3 (by decide) (hg _ gw158) (fun _ h9 => h9) rfl dF_isOpenFor_31 ?_
          refine lv_aload_n hx hb dF_isOpenFor_34 rfl (lv_at hl 0 rfl) ?_
          refine mm_get (v := .int (nI oi)) hx hb hg inF hown hK hP hFL u1 rfl 5 (by decide) (hg _ gw162) (fun _ h9 => h9) rfl dF_isOpenFor_35 ?_
          refine lv_iconst (v := nI 1) hx hb dF_isOpenFor_38 (by decide) ?_
          refine lv_isub hx hb dF_isOpenFor_39 ?_
          have hoi0 : oi ≠ 0 := fun z => c16 (by rw [z]; rfl)
          rw [nI_sub1 (by omega)]
          refine mm_iald hx hb hK hP hoAL u3 (vp_in_nI (show oi - 1 < 6 by omega) (by omega)) dF_isOpenFor_40 ?_
          rw [nI_clamp (by omega)]
          rw [(ht hoi0).1]
          refine mm_aldq hx hb hK hP hsAL u2 (vp_in_nI (show t < 16 from (ht hoi0).2) (by omega)) (q := (sq t)) (by rw [nI_clamp (by omega)]) dF_isOpenFor_41 ?_
          refine mm_getN (v := .int (sk t)) hx hb hg inS hown hK hP (hsqL t (ht hoi0).2) (u4 t (ht hoi0).2) rfl 0 (by decide) (va_Nw.use rfl (hN _ nx125)) (fun _ h9 => h9) rfl dF_isOpenFor_42 ?_
          refine lv_iconst (v := nI 2) hx hb dF_isOpenFor_45 (by decide) ?_
          refine lv_icmp_ne (tgt := 53) hx hb dF_isOpenFor_46 (by decide) (fun c46 => ?_) (fun c46 => ?_)
          · refine lv_iconst (v := nI 0) hx hb dF_isOpenFor_53 (by decide) ?_
            exact ret_z C0 rfl hP hS ⟨by first | (simp [q_op, kb, nl34, c2, c7, c16, c23, c46]; done) | exact absurd c7 c2 | exact absurd c7 c16 | exact absurd c7 c23 | exact absurd c7 c46, rfl⟩ dF_isOpenFor_54
          · refine lv_iconst (v := nI 1) hx hb dF_isOpenFor_49 (by decide) ?_
            refine lv_goto (tgt := 54) hx hb dF_isOpenFor_50 (by decide) ?_
            exact ret_z C0 rfl hP hS ⟨by first | (simp [q_op, kb, nl34, c2, c7, c16, c23, c46]; done) | exact absurd (c7.symm.trans c46) (by decide +kernel) | exact absurd c7 c2 | exact absurd c7 c16 | exact absurd c7 c23 | exact absurd c46 c2 | exact absurd c46 c16 | exact absurd c46 c23, rfl⟩ dF_isOpenFor_54
      · refine lv_iconst (v := nI 0) hx hb dF_isOpenFor_19 (by decide) ?_
        exact ret_z C0 rfl hP hS ⟨by first | (simp [q_op, kb, nl34, c2, c7, c16]; done) | exact absurd (c7.symm.trans c16) (by decide +kernel) | exact absurd c7 c2 | exact absurd c16 c2, rfl⟩ dF_isOpenFor_20
    · refine lv_iconst (v := nI 1) hx hb dF_isOpenFor_10 (by decide) ?_
      exact ret_z C0 rfl hP hS ⟨by first | (simp [q_op, kb, nl34, c2, c7]; done), rfl⟩ dF_isOpenFor_11
set_option maxRecDepth 100000 in
set_option maxHeartbeats 4000000 in
theorem f_targetOf {l : Launch} {D : va_G} {tys : List (ClassId × FieldType)} {L : List Nat} {f : Nat → va_E} (hn : L.Nodup) {F dR pR sA oA sz oi ni : Nat} {gv : Int32} (hFL : F ∈ L) (u1 : f F = .inr (0, [.ref dR, .ref pR, .ref sA, .ref oA, .int (nI sz), .int (nI oi), .int (nI ni), .int gv])) {q : Nat} {i0 i1 i2 i3 i4 i5 : Int32} (hqL : q ∈ L) (q1 : f q = .inr (3, [.int i0, .int i1, .int i2, .int i3, .int i4, .int i5])) : MetI l yF_targetOf wF_targetOf ({ frames := 0, cells := 0, slots := 0, locals := 0 } : Room) D tys L f [.ref F, .ref q] (fun r f' => r = (if i5 = -1 then nI sz else i5) ∧ f' = f) := by
  refine met_of "LiquidChecker$Function" (by decide) rfl (Nat.le_of_ble_eq_true rfl) ?_
  intro p e s m below meth c ls C0 hP hl
  obtain ⟨hx, hb, hml, hown, hg, hr, hlocks, hK, hN⟩ := id C0
  have hA : ∀ a ∈ L, inL L a := fun _ h => h
  obtain ⟨H, hH⟩ : ∃ z, z = s.heap := ⟨_, rfl⟩
  rw [← hH] at hP ⊢
  have hS : va_S (inL L) s.heap H [] := by rw [hH]; exact va_S.rf
  have hl : lv_has ls 2 [(0, .ref F), (1, .ref q)] := hl
  refine lv_aload_n hx hb dF_targetOf_0 rfl (lv_at hl 1 rfl) ?_
  refine mm_getN (v := .int i5) hx hb hg inS hown hK hP hqL q1 rfl 5 (by decide) (va_Nw.use rfl (hN _ nx136)) (fun _ h9 => h9) rfl dF_targetOf_1 ?_
  refine lv_iconst (v := (-1)) hx hb dF_targetOf_4 (by decide) ?_
  refine lv_icmp_ne (tgt := 15) hx hb dF_targetOf_5 (by decide) (fun c5 => ?_) (fun c5 => ?_)
  · refine lv_aload_n hx hb dF_targetOf_15 rfl (lv_at hl 1 rfl) ?_
    refine mm_getN (v := .int i5) hx hb hg inS hown hK hP hqL q1 rfl 5 (by decide) (va_Nw.use rfl (hN _ nx136)) (fun _ h9 => h9) rfl dF_targetOf_16 ?_
    exact ret_i C0 hP hS ⟨(if_neg c5).symm, rfl⟩ dF_targetOf_19
  · refine lv_aload_n hx hb dF_targetOf_8 rfl (lv_at hl 0 rfl) ?_
    refine mm_get (v := .int (nI sz)) hx hb hg inF hown hK hP hFL u1 rfl 4 (by decide) (hg _ gw159) (fun _ h9 => h9) rfl dF_targetOf_9 ?_
    refine lv_goto (tgt := 19) hx hb dF_targetOf_12 (by decide) ?_
    exact ret_i C0 hP hS ⟨(if_pos c5).symm, rfl⟩ dF_targetOf_19
set_option maxRecDepth 100000 in
set_option maxHeartbeats 4000000 in
theorem f_openIf {l : Launch} {D : va_G} {tys : List (ClassId × FieldType)} {L : List Nat} {f : Nat → va_E} (hn : L.Nodup) {F dR pR sA oA sz oi ni : Nat} {gv : Int32} (hFL : F ∈ L) (u1 : f F = .inr (0, [.ref dR, .ref pR, .ref sA, .ref oA, .int (nI sz), .int (nI oi), .int (nI ni), .int gv])) {go : Nat → Int32} (hoAL : oA ∈ L) (u3 : mm_I tys f oA 6 go) (hoi : oi < 6) {pl : Nat} : MetV l yF_openIf wF_openIf ({ frames := 0, cells := 0, slots := 0, locals := 0 } : Room) D tys L f [.ref F, .int (nI pl)] (fun f' => f' F = .inr (0, [.ref dR, .ref pR, .ref sA, .ref oA, .int (nI sz), .int (nI (oi + 1)), .int (nI (ni + 1)), .int gv]) ∧ mm_I tys f' oA 6 (upd go oi (nI pl)) ∧ ∀ z, z ≠ F → z ≠ oA → f' z = f z) := by
  refine met_of "LiquidChecker$Function" (by decide) rfl (Nat.le_of_ble_eq_true rfl) ?_
  intro p e s m below meth c ls C0 hP hl
  obtain ⟨hx, hb, hml, hown, hg, hr, hlocks, hK, hN⟩ := id C0
  have hA : ∀ a ∈ L, inL L a := fun _ h => h
  obtain ⟨H, hH⟩ : ∃ z, z = s.heap := ⟨_, rfl⟩
  rw [← hH] at hP ⊢
  have hS : va_S (inL L) s.heap H [] := by rw [hH]; exact va_S.rf
  have hl : lv_has ls 2 [(0, .ref F), (1, .int (nI pl))] := hl
  refine lv_aload_n hx hb dF_openIf_0 rfl (lv_at hl 0 rfl) ?_
  refine mm_get (v := .ref oA) hx hb hg inF hown hK hP hFL u1 rfl 3 (by decide) (hg _ gw158) (fun _ h9 => h9) rfl dF_openIf_1 ?_
  refine lv_aload_n hx hb dF_openIf_4 rfl (lv_at hl 0 rfl) ?_
  refine mm_get (v := .int (nI oi)) hx hb hg inF hown hK hP hFL u1 rfl 5 (by decide) (hg _ gw162) (fun _ h9 => h9) rfl dF_openIf_5 ?_
  refine lv_iload_n hx hb dF_openIf_8 rfl (lv_at hl 1 rfl) ?_
  refine mm_iast hx hb hK hn hA hP hS hoAL u3 (vp_in_nI (show oi < 6 by omega) (by omega)) dF_openIf_9 (fun H locs hP hS => ?_)
  rw [nI_clamp (by omega)] at hP
  obtain ⟨f1, hf1⟩ : ∃ z, z = mm_si f oA (upd go oi (nI pl)) := ⟨_, rfl⟩
  have hP : va_P D zCl (va_pl L f1) H := by rw [hf1]; exact hP
  have p2 : f1 F = .inr (0, [.ref dR, .ref pR, .ref sA, .ref oA, .int (nI sz), .int (nI oi), .int (nI ni), .int gv]) := by rw [hf1, mm_si_ne (mm_IO u3 u1)]; exact u1
  have p3 : mm_I tys f1 oA 6 (upd go oi (nI pl)) := by rw [hf1]; exact u3.set
  refine lv_aload_n hx hb dF_openIf_10 rfl (lv_at hl 0 rfl) ?_
  refine lv_dup hx hb dF_openIf_11 rfl ?_
  refine mm_get (v := .int (nI oi)) hx hb hg inF hown hK hP hFL p2 rfl 5 (by decide) (hg _ gw162) (fun _ h9 => h9) rfl dF_openIf_12 ?_
  refine lv_iconst (v := nI 1) hx hb dF_openIf_15 (by decide) ?_
  refine lv_iadd hx hb dF_openIf_16 ?_
  rw [nI_add]
  refine mm_put (v := .int (nI (oi + 1))) (ty := .int) hx hb hg inF tyF tyF_ok nmF hown hK hn hA hP hS hFL p2 rfl 5 (by decide) (hg _ gw162) (fun _ h9 => h9) rfl (by decide +kernel) rfl rfl (Nat.le_of_ble_eq_true rfl) dF_openIf_17 (fun H locs hP hS => ?_)
  obtain ⟨f4, hf4⟩ : ∃ z, z = va_up f1 F (.inr (0, [.ref dR, .ref pR, .ref sA, .ref oA, .int (nI sz), .int (nI (oi + 1)), .int (nI ni), .int gv])) := ⟨_, rfl⟩
  have hP : va_P D zCl (va_pl L f4) H := by rw [hf4]; exact hP
  have p5 : mm_I tys f4 oA 6 (upd go oi (nI pl)) := p3.eq (by rw [hf4, va_up_ne _ _ (Ne.symm (mm_IO p3 p2))])
  have p6 : f4 F = .inr (0, [.ref dR, .ref pR, .ref sA, .ref oA, .int (nI sz), .int (nI (oi + 1)), .int (nI ni), .int gv]) := by rw [hf4]; exact va_up_self _ _ _
  refine lv_aload_n hx hb dF_openIf_20 rfl (lv_at hl 0 rfl) ?_
  refine lv_dup hx hb dF_openIf_21 rfl ?_
  refine mm_get (v := .int (nI ni)) hx hb hg inF hown hK hP hFL p6 rfl 6 (by decide) (hg _ gw164) (fun _ h9 => h9) rfl dF_openIf_22 ?_
  refine lv_iconst (v := nI 1) hx hb dF_openIf_25 (by decide) ?_
  refine lv_iadd hx hb dF_openIf_26 ?_
  rw [nI_add]
  refine mm_put (v := .int (nI (ni + 1))) (ty := .int) hx hb hg inF tyF tyF_ok nmF hown hK hn hA hP hS hFL p6 rfl 6 (by decide) (hg _ gw164) (fun _ h9 => h9) rfl (by decide +kernel) rfl rfl (Nat.le_of_ble_eq_true rfl) dF_openIf_27 (fun H locs hP hS => ?_)
  obtain ⟨f7, hf7⟩ : ∃ z, z = va_up f4 F (.inr (0, [.ref dR, .ref pR, .ref sA, .ref oA, .int (nI sz), .int (nI (oi + 1)), .int (nI (ni + 1)), .int gv])) := ⟨_, rfl⟩
  have hP : va_P D zCl (va_pl L f7) H := by rw [hf7]; exact hP
  have p8 : mm_I tys f7 oA 6 (upd go oi (nI pl)) := p5.eq (by rw [hf7, va_up_ne _ _ (Ne.symm (mm_IO p5 p6))])
  have p9 : f7 F = .inr (0, [.ref dR, .ref pR, .ref sA, .ref oA, .int (nI sz), .int (nI (oi + 1)), .int (nI (ni + 1)), .int gv]) := by rw [hf7]; exact va_up_self _ _ _
  exact ret_v C0 hP hS ⟨p9, p8, fun z z1 z2 => by rw [hf7, hf4, hf1, va_up_ne _ _ z1, va_up_ne _ _ z1, mm_si_ne z2]⟩ dF_openIf_30
set_option maxRecDepth 100000 in
set_option maxHeartbeats 4000000 in
theorem f_turnToElse {l : Launch} {D : va_G} {tys : List (ClassId × FieldType)} {L : List Nat} {f : Nat → va_E} (hn : L.Nodup) {F dR pR sA oA sz oi ni : Nat} {gv : Int32} (hFL : F ∈ L) (u1 : f F = .inr (0, [.ref dR, .ref pR, .ref sA, .ref oA, .int (nI sz), .int (nI oi), .int (nI ni), .int gv])) {sq : Nat → Nat} {sk sa sb sc sK sl go : Nat → Int32} (hsAL : sA ∈ L) (u2 : mm_Q tys "LiquidChecker$Statement" f sA 16 (fun j => some (sq j))) (hoAL : oA ∈ L) (u3 : mm_I tys f oA 6 go) (hsqL : ∀ j, j < 16 → sq j ∈ L) (u4 : ∀ j, j < 16 → f (sq j) = .inr (3, [.int (sk j), .int (sa j), .int (sb j), .int (sc j), .int (sK j), .int (sl j)])) {t : Nat} (hoi0 : 0 < oi) (htg : go (oi - 1) = nI t) (ht : t < 16) (hoi : oi ≤ 6) {pl : Nat} : MetV l yF_turnToElse wF_turnToElse ({ frames := 0, cells := 0, slots := 0, locals := 0 } : Room) D tys L f [.ref F, .int (nI pl)] (fun f' => f' (sq t) = .inr (3, [.int (sk t), .int (sa t), .int (sb t), .int (sc t), .int (sK t), .int (nI (pl + 1))]) ∧ mm_I tys f' oA 6 (upd go (oi - 1) (nI pl)) ∧ ∀ z, z ≠ sq t → z ≠ oA → f' z = f z) := by
  refine met_of "LiquidChecker$Function" (by decide) rfl (Nat.le_of_ble_eq_true rfl) ?_
  intro p e s m below meth c ls C0 hP hl
  obtain ⟨hx, hb, hml, hown, hg, hr, hlocks, hK, hN⟩ := id C0
  have hA : ∀ a ∈ L, inL L a := fun _ h => h
  obtain ⟨H, hH⟩ : ∃ z, z = s.heap := ⟨_, rfl⟩
  rw [← hH] at hP ⊢
  have hS : va_S (inL L) s.heap H [] := by rw [hH]; exact va_S.rf
  have hl : lv_has ls 2 [(0, .ref F), (1, .int (nI pl))] := hl
  refine lv_aload_n hx hb dF_turnToElse_0 rfl (lv_at hl 0 rfl) ?_
  refine mm_get (v := .ref sA) hx hb hg inF hown hK hP hFL u1 rfl 2 (by decide) (hg _ gw156) (fun _ h9 => h9) rfl dF_turnToElse_1 ?_
  refine lv_aload_n hx hb dF_turnToElse_4 rfl (lv_at hl 0 rfl) ?_
  refine mm_get (v := .ref oA) hx hb hg inF hown hK hP hFL u1 rfl 3 (by decide) (hg _ gw158) (fun _ h9 => h9) rfl dF_turnToElse_5 ?_
  refine lv_aload_n hx hb dF_turnToElse_8 rfl (lv_at hl 0 rfl) ?_
  refine mm_get (v := .int (nI oi)) hx hb hg inF hown hK hP hFL u1 rfl 5 (by decide) (hg _ gw162) (fun _ h9 => h9) rfl dF_turnToElse_9 ?_
  refine lv_iconst (v := nI 1) hx hb dF_turnToElse_12 (by decide) ?_
  refine lv_isub hx hb dF_turnToElse_13 ?_
  rw [nI_sub1 hoi0]
  refine mm_iald hx hb hK hP hoAL u3 (vp_in_nI (show oi - 1 < 6 by omega) (by omega)) dF_turnToElse_14 ?_
  rw [nI_clamp (by omega)]
  rw [htg]
  refine mm_aldq hx hb hK hP hsAL u2 (vp_in_nI (show t < 16 by omega) (by omega)) (q := (sq t)) (by rw [nI_clamp (by omega)]) dF_turnToElse_15 ?_
  refine lv_iload_n hx hb dF_turnToElse_16 rfl (lv_at hl 1 rfl) ?_
  refine lv_iconst (v := nI 1) hx hb dF_turnToElse_17 (by decide) ?_
  refine lv_iadd hx hb dF_turnToElse_18 ?_
  rw [nI_add]
  refine mm_putN (v := .int (nI (pl + 1))) (ty := .int) hx hb hg inS tyS tyS_ok nmS hown hK hn hA hP hS (hsqL t ht) (u4 t ht) rfl 5 (by decide) (va_Nw.use rfl (hN _ nx136)) (fun _ h9 => h9) rfl (by decide +kernel) rfl rfl (Nat.le_of_ble_eq_true rfl) dF_turnToElse_19 (fun H locs hP hS => ?_)
  obtain ⟨f1, hf1⟩ : ∃ z, z = va_up f (sq t) (.inr (3, [.int (sk t), .int (sa t), .int (sb t), .int (sc t), .int (sK t), .int (nI (pl + 1))])) := ⟨_, rfl⟩
  have hP : va_P D zCl (va_pl L f1) H := by rw [hf1]; exact hP
  have p2 : mm_Q tys "LiquidChecker$Statement" f1 sA 16 (fun j => some (sq j)) := u2.eq (by rw [hf1, va_up_ne _ _ (Ne.symm (mm_QO u2 (u4 t ht)))])
  have p3 : mm_I tys f1 oA 6 go := u3.eq (by rw [hf1, va_up_ne _ _ (Ne.symm (mm_IO u3 (u4 t ht)))])
  have p4 : f1 F = .inr (0, [.ref dR, .ref pR, .ref sA, .ref oA, .int (nI sz), .int (nI oi), .int (nI ni), .int gv]) := by rw [hf1, va_up_ne _ _ (mm_OO u1 (u4 t ht) (by decide))]; exact u1
  have p5 : f1 (sq t) = .inr (3, [.int (sk t), .int (sa t), .int (sb t), .int (sc t), .int (sK t), .int (nI (pl + 1))]) := by rw [hf1]; exact va_up_self _ _ _
  refine lv_aload_n hx hb dF_turnToElse_22 rfl (lv_at hl 0 rfl) ?_
  refine mm_get (v := .ref oA) hx hb hg inF hown hK hP hFL p4 rfl 3 (by decide) (hg _ gw158) (fun _ h9 => h9) rfl dF_turnToElse_23 ?_
  refine lv_aload_n hx hb dF_turnToElse_26 rfl (lv_at hl 0 rfl) ?_
  refine mm_get (v := .int (nI oi)) hx hb hg inF hown hK hP hFL p4 rfl 5 (by decide) (hg _ gw162) (fun _ h9 => h9) rfl dF_turnToElse_27 ?_
  refine lv_iconst (v := nI 1) hx hb dF_turnToElse_30 (by decide) ?_
  refine lv_isub hx hb dF_turnToElse_31 ?_
  rw [nI_sub1 hoi0]
  refine lv_iload_n hx hb dF_turnToElse_32 rfl (lv_at hl 1 rfl) ?_
  refine mm_iast hx hb hK hn hA hP hS hoAL p3 (vp_in_nI (show oi - 1 < 6 by omega) (by omega)) dF_turnToElse_33 (fun H locs hP hS => ?_)
  rw [nI_clamp (by omega)] at hP
  obtain ⟨f6, hf6⟩ : ∃ z, z = mm_si f1 oA (upd go (oi - 1) (nI pl)) := ⟨_, rfl⟩
  have hP : va_P D zCl (va_pl L f6) H := by rw [hf6]; exact hP
  have p7 : mm_Q tys "LiquidChecker$Statement" f6 sA 16 (fun j => some (sq j)) := p2.eq (by rw [hf6, mm_si_ne (Ne.symm (mm_IQ p3 p2))])
  have p8 : f6 F = .inr (0, [.ref dR, .ref pR, .ref sA, .ref oA, .int (nI sz), .int (nI oi), .int (nI ni), .int gv]) := by rw [hf6, mm_si_ne (mm_IO p3 p4)]; exact p4
  have p9 : f6 (sq t) = .inr (3, [.int (sk t), .int (sa t), .int (sb t), .int (sc t), .int (sK t), .int (nI (pl + 1))]) := by rw [hf6, mm_si_ne (mm_IO p3 p5)]; exact p5
  have p10 : mm_I tys f6 oA 6 (upd go (oi - 1) (nI pl)) := by rw [hf6]; exact p3.set
  exact ret_v C0 hP hS ⟨p9, p10, fun z z1 z2 => by rw [hf6, hf1, mm_si_ne z2, va_up_ne _ _ z1]⟩ dF_turnToElse_34
set_option maxRecDepth 100000 in
set_option maxHeartbeats 4000000 in
theorem f_closeIf {l : Launch} {D : va_G} {tys : List (ClassId × FieldType)} {L : List Nat} {f : Nat → va_E} (hn : L.Nodup) {F dR pR sA oA sz oi ni : Nat} {gv : Int32} (hFL : F ∈ L) (u1 : f F = .inr (0, [.ref dR, .ref pR, .ref sA, .ref oA, .int (nI sz), .int (nI oi), .int (nI ni), .int gv])) {sq : Nat → Nat} {sk sa sb sc sK sl go : Nat → Int32} (hsAL : sA ∈ L) (u2 : mm_Q tys "LiquidChecker$Statement" f sA 16 (fun j => some (sq j))) (hoAL : oA ∈ L) (u3 : mm_I tys f oA 6 go) (hsqL : ∀ j, j < 16 → sq j ∈ L) (u4 : ∀ j, j < 16 → f (sq j) = .inr (3, [.int (sk j), .int (sa j), .int (sb j), .int (sc j), .int (sK j), .int (sl j)])) {t : Nat} (hoi0 : 0 < oi) (htg : go (oi - 1) = nI t) (ht : t < 16) (hoi : oi ≤ 6) {pl : Nat} : MetV l yF_closeIf wF_closeIf ({ frames := 0, cells := 0, slots := 0, locals := 0 } : Room) D tys L f [.ref F, .int (nI pl)] (fun f' => f' F = .inr (0, [.ref dR, .ref pR, .ref sA, .ref oA, .int (nI sz), .int (nI (oi - 1)), .int (nI ni), .int gv]) ∧ f' (sq t) = .inr (3, [.int (sk t), .int (sa t), .int (sb t), .int (sc t), .int (sK t), .int (nI pl)]) ∧ ∀ z, z ≠ F → z ≠ sq t → f' z = f z) := by
  refine met_of "LiquidChecker$Function" (by decide) rfl (Nat.le_of_ble_eq_true rfl) ?_
  intro p e s m below meth c ls C0 hP hl
  obtain ⟨hx, hb, hml, hown, hg, hr, hlocks, hK, hN⟩ := id C0
  have hA : ∀ a ∈ L, inL L a := fun _ h => h
  obtain ⟨H, hH⟩ : ∃ z, z = s.heap := ⟨_, rfl⟩
  rw [← hH] at hP ⊢
  have hS : va_S (inL L) s.heap H [] := by rw [hH]; exact va_S.rf
  have hl : lv_has ls 2 [(0, .ref F), (1, .int (nI pl))] := hl
  refine lv_aload_n hx hb dF_closeIf_0 rfl (lv_at hl 0 rfl) ?_
  refine lv_dup hx hb dF_closeIf_1 rfl ?_
  refine mm_get (v := .int (nI oi)) hx hb hg inF hown hK hP hFL u1 rfl 5 (by decide) (hg _ gw162) (fun _ h9 => h9) rfl dF_closeIf_2 ?_
  refine lv_iconst (v := nI 1) hx hb dF_closeIf_5 (by decide) ?_
  refine lv_isub hx hb dF_closeIf_6 ?_
  rw [nI_sub1 hoi0]
  refine mm_put (v := .int (nI (oi - 1))) (ty := .int) hx hb hg inF tyF tyF_ok nmF hown hK hn hA hP hS hFL u1 rfl 5 (by decide) (hg _ gw162) (fun _ h9 => h9) rfl (by decide +kernel) rfl rfl (Nat.le_of_ble_eq_true rfl) dF_closeIf_7 (fun H locs hP hS => ?_)
  obtain ⟨f1, hf1⟩ : ∃ z, z = va_up f F (.inr (0, [.ref dR, .ref pR, .ref sA, .ref oA, .int (nI sz), .int (nI (oi - 1)), .int (nI ni), .int gv])) := ⟨_, rfl⟩
  have hP : va_P D zCl (va_pl L f1) H := by rw [hf1]; exact hP
  have p2 : mm_Q tys "LiquidChecker$Statement" f1 sA 16 (fun j => some (sq j)) := u2.eq (by rw [hf1, va_up_ne _ _ (Ne.symm (mm_QO u2 u1))])
  have p3 : mm_I tys f1 oA 6 go := u3.eq (by rw [hf1, va_up_ne _ _ (Ne.symm (mm_IO u3 u1))])
  have p4 : f1 F = .inr (0, [.ref dR, .ref pR, .ref sA, .ref oA, .int (nI sz), .int (nI (oi - 1)), .int (nI ni), .int gv]) := by rw [hf1]; exact va_up_self _ _ _
  refine lv_aload_n hx hb dF_closeIf_10 rfl (lv_at hl 0 rfl) ?_
  refine mm_get (v := .ref sA) hx hb hg inF hown hK hP hFL p4 rfl 2 (by decide) (hg _ gw156) (fun _ h9 => h9) rfl dF_closeIf_11 ?_
  refine lv_aload_n hx hb dF_closeIf_14 rfl (lv_at hl 0 rfl) ?_
  refine mm_get (v := .ref oA) hx hb hg inF hown hK hP hFL p4 rfl 3 (by decide) (hg _ gw158) (fun _ h9 => h9) rfl dF_closeIf_15 ?_
  refine lv_aload_n hx hb dF_closeIf_18 rfl (lv_at hl 0 rfl) ?_
  refine mm_get (v := .int (nI (oi - 1))) hx hb hg inF hown hK hP hFL p4 rfl 5 (by decide) (hg _ gw162) (fun _ h9 => h9) rfl dF_closeIf_19 ?_
  refine mm_iald hx hb hK hP hoAL p3 (vp_in_nI (show oi - 1 < 6 by omega) (by omega)) dF_closeIf_22 ?_
  rw [nI_clamp (by omega)]
  rw [htg]
  refine mm_aldq hx hb hK hP hsAL p2 (vp_in_nI (show t < 16 by omega) (by omega)) (q := (sq t)) (by rw [nI_clamp (by omega)]) dF_closeIf_23 ?_
  have p5 : f1 (sq t) = .inr (3, [.int (sk t), .int (sa t), .int (sb t), .int (sc t), .int (sK t), .int (sl t)]) := by rw [hf1, va_up_ne _ _ (mm_OO (u4 t ht) u1 (by decide))]; exact u4 t ht
  refine lv_iload_n hx hb dF_closeIf_24 rfl (lv_at hl 1 rfl) ?_
  refine mm_putN (v := .int (nI pl)) (ty := .int) hx hb hg inS tyS tyS_ok nmS hown hK hn hA hP hS (hsqL t ht) p5 rfl 5 (by decide) (va_Nw.use rfl (hN _ nx136)) (fun _ h9 => h9) rfl (by decide +kernel) rfl rfl (Nat.le_of_ble_eq_true rfl) dF_closeIf_25 (fun H locs hP hS => ?_)
  obtain ⟨f6, hf6⟩ : ∃ z, z = va_up f1 (sq t) (.inr (3, [.int (sk t), .int (sa t), .int (sb t), .int (sc t), .int (sK t), .int (nI pl)])) := ⟨_, rfl⟩
  have hP : va_P D zCl (va_pl L f6) H := by rw [hf6]; exact hP
  have p7 : mm_Q tys "LiquidChecker$Statement" f6 sA 16 (fun j => some (sq j)) := p2.eq (by rw [hf6, va_up_ne _ _ (Ne.symm (mm_QO p2 p5))])
  have p8 : mm_I tys f6 oA 6 go := p3.eq (by rw [hf6, va_up_ne _ _ (Ne.symm (mm_IO p3 p5))])
  have p9 : f6 F = .inr (0, [.ref dR, .ref pR, .ref sA, .ref oA, .int (nI sz), .int (nI (oi - 1)), .int (nI ni), .int gv]) := by rw [hf6, va_up_ne _ _ (mm_OO p4 p5 (by decide))]; exact p4
  have p10 : f6 (sq t) = .inr (3, [.int (sk t), .int (sa t), .int (sb t), .int (sc t), .int (sK t), .int (nI pl)]) := by rw [hf6]; exact va_up_self _ _ _
  exact ret_v C0 hP hS ⟨p9, p10, fun z z1 z2 => by rw [hf6, hf1, va_up_ne _ _ z2, va_up_ne _ _ z1]⟩ dF_closeIf_28
set_option maxRecDepth 100000 in
set_option maxHeartbeats 4000000 in
theorem f_empty {l : Launch} {D : va_G} {tys : List (ClassId × FieldType)} {L : List Nat} {f : Nat → va_E} (hn : L.Nodup) {F dR pR sA oA sz oi ni : Nat} {gv : Int32} (hFL : F ∈ L) (u1 : f F = .inr (0, [.ref dR, .ref pR, .ref sA, .ref oA, .int (nI sz), .int (nI oi), .int (nI ni), .int gv])) {a1 a2 a3 b1 b2 b3 : Nat} {n1 n2 : Int32} (hdL : dR ∈ L) (hpL : pR ∈ L) (g1 : f dR = .inr (2, [.ref a1, .ref a2, .ref a3, .int n1])) (g2 : f pR = .inr (2, [.ref b1, .ref b2, .ref b3, .int n2])) (hdp : dR ≠ pR) : MetV l yF_empty wF_empty ({ frames := 0, cells := 0, slots := 0, locals := 0 } : Room) D tys L f [.ref F] (fun f' => f' F = .inr (0, [.ref dR, .ref pR, .ref sA, .ref oA, .int (nI 0), .int (nI 0), .int (nI 0), .int (nI 0)]) ∧ f' dR = .inr (2, [.ref a1, .ref a2, .ref a3, .int (nI 0)]) ∧ f' pR = .inr (2, [.ref b1, .ref b2, .ref b3, .int (nI 0)]) ∧ ∀ z, z ≠ F → z ≠ dR → z ≠ pR → f' z = f z) := by
  refine met_of "LiquidChecker$Function" (by decide) rfl (Nat.le_of_ble_eq_true rfl) ?_
  intro p e s m below meth c ls C0 hP hl
  obtain ⟨hx, hb, hml, hown, hg, hr, hlocks, hK, hN⟩ := id C0
  have hA : ∀ a ∈ L, inL L a := fun _ h => h
  obtain ⟨H, hH⟩ : ∃ z, z = s.heap := ⟨_, rfl⟩
  rw [← hH] at hP ⊢
  have hS : va_S (inL L) s.heap H [] := by rw [hH]; exact va_S.rf
  have hl : lv_has ls 1 [(0, .ref F)] := hl
  refine lv_aload_n hx hb dF_empty_0 rfl (lv_at hl 0 rfl) ?_
  refine mm_get (v := .ref dR) hx hb hg inF hown hK hP hFL u1 rfl 0 (by decide) (hg _ gw150) (fun _ h9 => h9) rfl dF_empty_1 ?_
  refine lv_iconst (v := nI 0) hx hb dF_empty_4 (by decide) ?_
  refine mm_putN (v := .int (nI 0)) (ty := .int) hx hb hg inR tyR tyR_ok nmR hown hK hn hA hP hS hdL g1 rfl 3 (by decide) (va_Nw.use rfl (hN _ nx106)) (fun _ h9 => h9) rfl (by decide +kernel) rfl rfl (Nat.le_of_ble_eq_true rfl) dF_empty_5 (fun H locs hP hS => ?_)
  obtain ⟨f1, hf1⟩ : ∃ z, z = va_up f dR (.inr (2, [.ref a1, .ref a2, .ref a3, .int (nI 0)])) := ⟨_, rfl⟩
  have hP : va_P D zCl (va_pl L f1) H := by rw [hf1]; exact hP
  have p2 : f1 F = .inr (0, [.ref dR, .ref pR, .ref sA, .ref oA, .int (nI sz), .int (nI oi), .int (nI ni), .int gv]) := by rw [hf1, va_up_ne _ _ (mm_OO u1 g1 (by decide))]; exact u1
  have p3 : f1 pR = .inr (2, [.ref b1, .ref b2, .ref b3, .int n2]) := by rw [hf1, va_up_ne _ _ (Ne.symm hdp)]; exact g2
  have p4 : f1 dR = .inr (2, [.ref a1, .ref a2, .ref a3, .int (nI 0)]) := by rw [hf1]; exact va_up_self _ _ _
  refine lv_aload_n hx hb dF_empty_8 rfl (lv_at hl 0 rfl) ?_
  refine mm_get (v := .ref pR) hx hb hg inF hown hK hP hFL p2 rfl 1 (by decide) (hg _ gw153) (fun _ h9 => h9) rfl dF_empty_9 ?_
  refine lv_iconst (v := nI 0) hx hb dF_empty_12 (by decide) ?_
  refine mm_putN (v := .int (nI 0)) (ty := .int) hx hb hg inR tyR tyR_ok nmR hown hK hn hA hP hS hpL p3 rfl 3 (by decide) (va_Nw.use rfl (hN _ nx106)) (fun _ h9 => h9) rfl (by decide +kernel) rfl rfl (Nat.le_of_ble_eq_true rfl) dF_empty_13 (fun H locs hP hS => ?_)
  obtain ⟨f5, hf5⟩ : ∃ z, z = va_up f1 pR (.inr (2, [.ref b1, .ref b2, .ref b3, .int (nI 0)])) := ⟨_, rfl⟩
  have hP : va_P D zCl (va_pl L f5) H := by rw [hf5]; exact hP
  have p6 : f5 F = .inr (0, [.ref dR, .ref pR, .ref sA, .ref oA, .int (nI sz), .int (nI oi), .int (nI ni), .int gv]) := by rw [hf5, va_up_ne _ _ (mm_OO p2 p3 (by decide))]; exact p2
  have p7 : f5 dR = .inr (2, [.ref a1, .ref a2, .ref a3, .int (nI 0)]) := by rw [hf5, va_up_ne _ _ hdp]; exact p4
  have p8 : f5 pR = .inr (2, [.ref b1, .ref b2, .ref b3, .int (nI 0)]) := by rw [hf5]; exact va_up_self _ _ _
  refine lv_aload_n hx hb dF_empty_16 rfl (lv_at hl 0 rfl) ?_
  refine lv_iconst (v := nI 0) hx hb dF_empty_17 (by decide) ?_
  refine mm_put (v := .int (nI 0)) (ty := .int) hx hb hg inF tyF tyF_ok nmF hown hK hn hA hP hS hFL p6 rfl 4 (by decide) (hg _ gw159) (fun _ h9 => h9) rfl (by decide +kernel) rfl rfl (Nat.le_of_ble_eq_true rfl) dF_empty_18 (fun H locs hP hS => ?_)
  obtain ⟨f9, hf9⟩ : ∃ z, z = va_up f5 F (.inr (0, [.ref dR, .ref pR, .ref sA, .ref oA, .int (nI 0), .int (nI oi), .int (nI ni), .int gv])) := ⟨_, rfl⟩
  have hP : va_P D zCl (va_pl L f9) H := by rw [hf9]; exact hP
  have p10 : f9 dR = .inr (2, [.ref a1, .ref a2, .ref a3, .int (nI 0)]) := by rw [hf9, va_up_ne _ _ (mm_OO p7 p6 (by decide))]; exact p7
  have p11 : f9 pR = .inr (2, [.ref b1, .ref b2, .ref b3, .int (nI 0)]) := by rw [hf9, va_up_ne _ _ (mm_OO p8 p6 (by decide))]; exact p8
  have p12 : f9 F = .inr (0, [.ref dR, .ref pR, .ref sA, .ref oA, .int (nI 0), .int (nI oi), .int (nI ni), .int gv]) := by rw [hf9]; exact va_up_self _ _ _
  refine lv_aload_n hx hb dF_empty_21 rfl (lv_at hl 0 rfl) ?_
  refine lv_iconst (v := nI 0) hx hb dF_empty_22 (by decide) ?_
  refine mm_put (v := .int (nI 0)) (ty := .int) hx hb hg inF tyF tyF_ok nmF hown hK hn hA hP hS hFL p12 rfl 5 (by decide) (hg _ gw162) (fun _ h9 => h9) rfl (by decide +kernel) rfl rfl (Nat.le_of_ble_eq_true rfl) dF_empty_23 (fun H locs hP hS => ?_)
  obtain ⟨f13, hf13⟩ : ∃ z, z = va_up f9 F (.inr (0, [.ref dR, .ref pR, .ref sA, .ref oA, .int (nI 0), .int (nI 0), .int (nI ni), .int gv])) := ⟨_, rfl⟩
  have hP : va_P D zCl (va_pl L f13) H := by rw [hf13]; exact hP
  have p14 : f13 dR = .inr (2, [.ref a1, .ref a2, .ref a3, .int (nI 0)]) := by rw [hf13, va_up_ne _ _ (mm_OO p10 p12 (by decide))]; exact p10
  have p15 : f13 pR = .inr (2, [.ref b1, .ref b2, .ref b3, .int (nI 0)]) := by rw [hf13, va_up_ne _ _ (mm_OO p11 p12 (by decide))]; exact p11
  have p16 : f13 F = .inr (0, [.ref dR, .ref pR, .ref sA, .ref oA, .int (nI 0), .int (nI 0), .int (nI ni), .int gv]) := by rw [hf13]; exact va_up_self _ _ _
  refine lv_aload_n hx hb dF_empty_26 rfl (lv_at hl 0 rfl) ?_
  refine lv_iconst (v := nI 0) hx hb dF_empty_27 (by decide) ?_
  refine mm_put (v := .int (nI 0)) (ty := .int) hx hb hg inF tyF tyF_ok nmF hown hK hn hA hP hS hFL p16 rfl 6 (by decide) (hg _ gw164) (fun _ h9 => h9) rfl (by decide +kernel) rfl rfl (Nat.le_of_ble_eq_true rfl) dF_empty_28 (fun H locs hP hS => ?_)
  obtain ⟨f17, hf17⟩ : ∃ z, z = va_up f13 F (.inr (0, [.ref dR, .ref pR, .ref sA, .ref oA, .int (nI 0), .int (nI 0), .int (nI 0), .int gv])) := ⟨_, rfl⟩
  have hP : va_P D zCl (va_pl L f17) H := by rw [hf17]; exact hP
  have p18 : f17 dR = .inr (2, [.ref a1, .ref a2, .ref a3, .int (nI 0)]) := by rw [hf17, va_up_ne _ _ (mm_OO p14 p16 (by decide))]; exact p14
  have p19 : f17 pR = .inr (2, [.ref b1, .ref b2, .ref b3, .int (nI 0)]) := by rw [hf17, va_up_ne _ _ (mm_OO p15 p16 (by decide))]; exact p15
  have p20 : f17 F = .inr (0, [.ref dR, .ref pR, .ref sA, .ref oA, .int (nI 0), .int (nI 0), .int (nI 0), .int gv]) := by rw [hf17]; exact va_up_self _ _ _
  refine lv_aload_n hx hb dF_empty_31 rfl (lv_at hl 0 rfl) ?_
  refine lv_iconst (v := nI 0) hx hb dF_empty_32 (by decide) ?_
  refine mm_put (v := .int (nI 0)) (ty := .int) hx hb hg inF tyF tyF_ok nmF hown hK hn hA hP hS hFL p20 rfl 7 (by decide) (hg _ gw165) (fun _ h9 => h9) rfl (by decide +kernel) rfl rfl (Nat.le_of_ble_eq_true rfl) dF_empty_33 (fun H locs hP hS => ?_)
  obtain ⟨f21, hf21⟩ : ∃ z, z = va_up f17 F (.inr (0, [.ref dR, .ref pR, .ref sA, .ref oA, .int (nI 0), .int (nI 0), .int (nI 0), .int (nI 0)])) := ⟨_, rfl⟩
  have hP : va_P D zCl (va_pl L f21) H := by rw [hf21]; exact hP
  have p22 : f21 dR = .inr (2, [.ref a1, .ref a2, .ref a3, .int (nI 0)]) := by rw [hf21, va_up_ne _ _ (mm_OO p18 p20 (by decide))]; exact p18
  have p23 : f21 pR = .inr (2, [.ref b1, .ref b2, .ref b3, .int (nI 0)]) := by rw [hf21, va_up_ne _ _ (mm_OO p19 p20 (by decide))]; exact p19
  have p24 : f21 F = .inr (0, [.ref dR, .ref pR, .ref sA, .ref oA, .int (nI 0), .int (nI 0), .int (nI 0), .int (nI 0)]) := by rw [hf21]; exact va_up_self _ _ _
  exact ret_v C0 hP hS ⟨p24, p22, p23, fun z z1 z2 z3 => by rw [hf21, hf17, hf13, hf9, hf5, hf1, va_up_ne _ _ z1, va_up_ne _ _ z1, va_up_ne _ _ z1, va_up_ne _ _ z1, va_up_ne _ _ z3, va_up_ne _ _ z2]⟩ dF_empty_36
