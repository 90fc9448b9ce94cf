/-! LiquidChecker: its small questions -/
theorem kb_t {x : Bool} : ¬ kb x = 0 ↔ x = true := by
  cases x
  · exact ⟨fun h => absurd rfl h, fun h => by cases h⟩
  · exact ⟨fun _ => rfl, fun _ => by decide +kernel⟩
def q_in (x lo hi : Int32) : Bool := !decide (x < lo) && !decide (hi < x)
def q_fn (x : Int32) : Bool := q_in x (nI 0) (nI 3)
def q_df (x : Int32) : Bool := q_in x (-1000) (nI 1000)
def q_gv (x : Int32) : Bool := q_in x (nI 4) (nI 11)
def q_us (x : Int32) : Bool := q_in x (nI 0) (nI 2) || q_gv x
def q_gA (x : Int32) : Bool := decide (x = 0) || decide (x = nI 1) || decide (x = nI 7)
def q_uA (x : Int32) : Bool := decide (x = nI 2) || decide (x = nI 5)
def q_uB (x : Int32) : Bool := decide (x = 0) || decide (x = nI 1) || decide (x = nI 2) || decide (x = nI 5) || decide (x = nI 6)
def q_uC (x : Int32) : Bool := decide (x = nI 1)
def q_st (kd a b c k : Int32) : Bool := q_in kd (nI 0) (nI 7) && (!q_gA kd || q_gv a) && (!q_uA kd || q_us a) && (!q_uB kd || q_us b) && (!q_uC kd || q_us c) && (if kd = nI 1 then q_fn k else !q_uB kd || q_df k)
set_option maxRecDepth 100000 in
set_option maxHeartbeats 4000000 in
theorem qC_isWithin {l : Launch} {D : va_G} {tys : List (ClassId × FieldType)} {L : List Nat} {f : Nat → va_E} (hn : L.Nodup) {x lo hi : Int32} : MetI l yC_isWithin wC_isWithin ({ frames := 0, cells := 0, slots := 0, locals := 0 } : Room) D tys L f [.int x, .int lo, .int hi] (fun r f' => r = kb (q_in x lo hi) ∧ f' = f) := by
  refine met_of "LiquidChecker" (by decide) rfl (Nat.le_of_ble_eq_true rfl) ?_
  intro p e s m below meth c ls C0 hP hl
  obtain ⟨hx, hb, hml, hown, hg, hr, hlocks, hK, hN⟩ := id C0
  have hA : ∀ a ∈ L, inL L a := fun _ h => h
  obtain ⟨H, hH⟩ : ∃ z, z = s.heap := ⟨_, rfl⟩
  rw [← hH] at hP ⊢
  have hS : va_S (inL L) s.heap H [] := by rw [hH]; exact va_S.rf
  have hl : lv_has ls 3 [(0, .int x), (1, .int lo), (2, .int hi)] := hl
  refine lv_iload_n hx hb dC_isWithin_0 rfl (lv_at hl 0 rfl) ?_
  refine lv_iload_n hx hb dC_isWithin_1 rfl (lv_at hl 1 rfl) ?_
  refine lv_icmp_lt (tgt := 14) hx hb dC_isWithin_2 (by decide) (fun c2 => ?_) (fun c2 => ?_)
  · refine lv_iconst (v := nI 0) hx hb dC_isWithin_14 (by decide) ?_
    exact ret_z C0 rfl hP hS ⟨by simp [q_in, kb, c2], rfl⟩ dC_isWithin_15
  · refine lv_iload_n hx hb dC_isWithin_5 rfl (lv_at hl 0 rfl) ?_
    refine lv_iload_n hx hb dC_isWithin_6 rfl (lv_at hl 2 rfl) ?_
    refine lv_icmp_gt (tgt := 14) hx hb dC_isWithin_7 (by decide) (fun c7 => ?_) (fun c7 => ?_)
    · refine lv_iconst (v := nI 0) hx hb dC_isWithin_14 (by decide) ?_
      exact ret_z C0 rfl hP hS ⟨by simp [q_in, kb, c2, c7], rfl⟩ dC_isWithin_15
    · refine lv_iconst (v := nI 1) hx hb dC_isWithin_10 (by decide) ?_
      refine lv_goto (tgt := 15) hx hb dC_isWithin_11 (by decide) ?_
      exact ret_z C0 rfl hP hS ⟨by simp [q_in, kb, c2, c7], rfl⟩ dC_isWithin_15
set_option maxRecDepth 100000 in
set_option maxHeartbeats 4000000 in
theorem qC_isFunction {l : Launch} {D : va_G} {tys : List (ClassId × FieldType)} {L : List Nat} {f : Nat → va_E} (hn : L.Nodup) {x : Int32} : MetI l yC_isFunction wC_isFunction ({ frames := 1, cells := 0, slots := 0, locals := 22 } : Room) D tys L f [.int x] (fun r f' => r = kb (q_fn x) ∧ f' = f) := by
  refine met_of "LiquidChecker" (by decide) rfl (Nat.le_of_ble_eq_true rfl) ?_
  intro p e s m below meth c ls C0 hP hl
  obtain ⟨hx, hb, hml, hown, hg, hr, hlocks, hK, hN⟩ := id C0
  have hA : ∀ a ∈ L, inL L a := fun _ h => h
  obtain ⟨H, hH⟩ : ∃ z, z = s.heap := ⟨_, rfl⟩
  rw [← hH] at hP ⊢
  have hS : va_S (inL L) s.heap H [] := by rw [hH]; exact va_S.rf
  have hl : lv_has ls 1 [(0, .int x)] := hl
  refine lv_iload_n hx hb dC_isFunction_0 rfl (lv_at hl 0 rfl) ?_
  refine lv_iconst (v := nI 0) hx hb dC_isFunction_1 (by decide) ?_
  refine lv_iconst (v := nI 3) hx hb dC_isFunction_2 (by decide) ?_
  refine then_i (run_S (n := 3) (As := [.int x, .int (nI 0), .int (nI 3)]) (rest := []) C0 (qC_isWithin hn) gw207 gw205 gw206 gw1 (by decide +kernel) ⟨Nat.le_of_ble_eq_true rfl, Nat.le_of_ble_eq_true rfl⟩ rfl rfl ⟨Nat.le_of_ble_eq_true rfl, Nat.le_of_ble_eq_true rfl⟩ hP rfl hl.1 rfl (Nat.le_of_ble_eq_true rfl) dC_isFunction_3) hS hA (fun r2 f1 H locs hq3 hP hS => ?_)
  obtain ⟨er2, ef1⟩ := hq3
  subst er2
  rw [ef1] at hP
  exact ret_z C0 (b01 (kb_or _)).1 hP hS ⟨by simp [q_fn], rfl⟩ dC_isFunction_6
set_option maxRecDepth 100000 in
set_option maxHeartbeats 4000000 in
theorem qC_isDifference {l : Launch} {D : va_G} {tys : List (ClassId × FieldType)} {L : List Nat} {f : Nat → va_E} (hn : L.Nodup) {x : Int32} : MetI l yC_isDifference wC_isDifference ({ frames := 1, cells := 0, slots := 0, locals := 22 } : Room) D tys L f [.int x] (fun r f' => r = kb (q_df x) ∧ f' = f) := by
  refine met_of "LiquidChecker" (by decide) rfl (Nat.le_of_ble_eq_true rfl) ?_
  intro p e s m below meth c ls C0 hP hl
  obtain ⟨hx, hb, hml, hown, hg, hr, hlocks, hK, hN⟩ := id C0
  have hA : ∀ a ∈ L, inL L a := fun _ h => h
  obtain ⟨H, hH⟩ : ∃ z, z = s.heap := ⟨_, rfl⟩
  rw [← hH] at hP ⊢
  have hS : va_S (inL L) s.heap H [] := by rw [hH]; exact va_S.rf
  have hl : lv_has ls 1 [(0, .int x)] := hl
  refine lv_iload_n hx hb dC_isDifference_0 rfl (lv_at hl 0 rfl) ?_
  refine lv_sipush (v := (-1000)) hx hb dC_isDifference_1 (by decide) ?_
  refine lv_sipush (v := nI 1000) hx hb dC_isDifference_4 (by decide) ?_
  refine then_i (run_S (n := 3) (As := [.int x, .int (-1000), .int (nI 1000)]) (rest := []) C0 (qC_isWithin hn) gw207 gw205 gw206 gw1 (by decide +kernel) ⟨Nat.le_of_ble_eq_true rfl, Nat.le_of_ble_eq_true rfl⟩ rfl rfl ⟨Nat.le_of_ble_eq_true rfl, Nat.le_of_ble_eq_true rfl⟩ hP rfl hl.1 rfl (Nat.le_of_ble_eq_true rfl) dC_isDifference_7) hS hA (fun r2 f1 H locs hq7 hP hS => ?_)
  obtain ⟨er2, ef1⟩ := hq7
  subst er2
  rw [ef1] at hP
  exact ret_z C0 (b01 (kb_or _)).1 hP hS ⟨by simp [q_df], rfl⟩ dC_isDifference_10
set_option maxRecDepth 100000 in
set_option maxHeartbeats 4000000 in
theorem qC_isGivable {l : Launch} {D : va_G} {tys : List (ClassId × FieldType)} {L : List Nat} {f : Nat → va_E} (hn : L.Nodup) {x : Int32} : MetI l yC_isGivable wC_isGivable ({ frames := 1, cells := 0, slots := 0, locals := 22 } : Room) D tys L f [.int x] (fun r f' => r = kb (q_gv x) ∧ f' = f) := by
  refine met_of "LiquidChecker" (by decide) rfl (Nat.le_of_ble_eq_true rfl) ?_
  intro p e s m below meth c ls C0 hP hl
  obtain ⟨hx, hb, hml, hown, hg, hr, hlocks, hK, hN⟩ := id C0
  have hA : ∀ a ∈ L, inL L a := fun _ h => h
  obtain ⟨H, hH⟩ : ∃ z, z = s.heap := ⟨_, rfl⟩
  rw [← hH] at hP ⊢
  have hS : va_S (inL L) s.heap H [] := by rw [hH]; exact va_S.rf
  have hl : lv_has ls 1 [(0, .int x)] := hl
  refine lv_iload_n hx hb dC_isGivable_0 rfl (lv_at hl 0 rfl) ?_
  refine lv_iconst (v := nI 4) hx hb dC_isGivable_1 (by decide) ?_
  refine lv_bipush (v := nI 11) hx hb dC_isGivable_2 (by decide) ?_
  refine then_i (run_S (n := 3) (As := [.int x, .int (nI 4), .int (nI 11)]) (rest := []) C0 (qC_isWithin hn) gw207 gw205 gw206 gw1 (by decide +kernel) ⟨Nat.le_of_ble_eq_true rfl, Nat.le_of_ble_eq_true rfl⟩ rfl rfl ⟨Nat.le_of_ble_eq_true rfl, Nat.le_of_ble_eq_true rfl⟩ hP rfl hl.1 rfl (Nat.le_of_ble_eq_true rfl) dC_isGivable_4) hS hA (fun r2 f1 H locs hq4 hP hS => ?_)
  obtain ⟨er2, ef1⟩ := hq4
  subst er2
  rw [ef1] at hP
  exact ret_z C0 (b01 (kb_or _)).1 hP hS ⟨by simp [q_gv], rfl⟩ dC_isGivable_7
set_option maxRecDepth 100000 in
set_option maxHeartbeats 4000000 in
theorem qC_isUsable {l : Launch} {D : va_G} {tys : List (ClassId × FieldType)} {L : List Nat} {f : Nat → va_E} (hn : L.Nodup) {x : Int32} : MetI l yC_isUsable wC_isUsable ({ frames := 2, cells := 0, slots := 0, locals := 42 } : Room) D tys L f [.int x] (fun r f' => r = kb (q_us x) ∧ f' = f) := by
  refine met_of "LiquidChecker" (by decide) rfl (Nat.le_of_ble_eq_true rfl) ?_
  intro p e s m below meth c ls C0 hP hl
  obtain ⟨hx, hb, hml, hown, hg, hr, hlocks, hK, hN⟩ := id C0
  have hA : ∀ a ∈ L, inL L a := fun _ h => h
  obtain ⟨H, hH⟩ : ∃ z, z = s.heap := ⟨_, rfl⟩
  rw [← hH] at hP ⊢
  have hS : va_S (inL L) s.heap H [] := by rw [hH]; exact va_S.rf
  have hl : lv_has ls 1 [(0, .int x)] := hl
  refine lv_iload_n hx hb dC_isUsable_0 rfl (lv_at hl 0 rfl) ?_
  refine lv_iconst (v := nI 0) hx hb dC_isUsable_1 (by decide) ?_
  refine lv_iconst (v := nI 2) hx hb dC_isUsable_2 (by decide) ?_
  refine then_i (run_S (n := 3) (As := [.int x, .int (nI 0), .int (nI 2)]) (rest := []) C0 (qC_isWithin hn) gw207 gw205 gw206 gw1 (by decide +kernel) ⟨Nat.le_of_ble_eq_true rfl, Nat.le_of_ble_eq_true rfl⟩ rfl rfl ⟨Nat.le_of_ble_eq_true rfl, Nat.le_of_ble_eq_true rfl⟩ hP rfl hl.1 rfl (Nat.le_of_ble_eq_true rfl) dC_isUsable_3) hS hA (fun r2 f1 H locs hq3 hP hS => ?_)
  obtain ⟨er2, ef1⟩ := hq3
  subst er2
  rw [ef1] at hP
  refine lv_if_ne (tgt := 16) hx hb dC_isUsable_6 (by decide) (fun c6 => ?_) (fun c6 => ?_)
  · have c6 : (q_in x (nI 0) (nI 2)) = true := kb_t.mp c6
    refine lv_iconst (v := nI 1) hx hb dC_isUsable_16 (by decide) ?_
    refine lv_goto (tgt := 21) hx hb dC_isUsable_17 (by decide) ?_
    exact ret_z C0 rfl hP hS ⟨by simp [q_us, kb, c6], rfl⟩ dC_isUsable_21
  · have c6 : (q_in x (nI 0) (nI 2)) = false := kb_0.mp c6
    refine lv_iload_n hx hb dC_isUsable_9 rfl (lv_at hl 0 rfl) ?_
    refine then_i (run_S (n := 1) (As := [.int x]) (rest := []) C0 (qC_isGivable hn) gw318 gw316 gw317 gw1 (by decide +kernel) ⟨Nat.le_of_ble_eq_true rfl, Nat.le_of_ble_eq_true rfl⟩ rfl rfl ⟨Nat.le_of_ble_eq_true rfl, Nat.le_of_ble_eq_true rfl⟩ hP rfl hl.1 rfl (Nat.le_of_ble_eq_true rfl) dC_isUsable_10) hS hA (fun r4 f3 H locs hq10 hP hS => ?_)
    obtain ⟨er4, ef3⟩ := hq10
    subst er4
    rw [ef3] at hP
    refine lv_if_eq (tgt := 20) hx hb dC_isUsable_13 (by decide) (fun c13 => ?_) (fun c13 => ?_)
    · have c13 : (q_gv x) = false := kb_0.mp c13
      refine lv_iconst (v := nI 0) hx hb dC_isUsable_20 (by decide) ?_
      exact ret_z C0 rfl hP hS ⟨by simp [q_us, kb, c6, c13], rfl⟩ dC_isUsable_21
    · have c13 : (q_gv x) = true := kb_t.mp c13
      refine lv_iconst (v := nI 1) hx hb dC_isUsable_16 (by decide) ?_
      refine lv_goto (tgt := 21) hx hb dC_isUsable_17 (by decide) ?_
      exact ret_z C0 rfl hP hS ⟨by simp [q_us, kb, c6, c13], rfl⟩ dC_isUsable_21
set_option maxRecDepth 100000 in
set_option maxHeartbeats 4000000 in
theorem qC_givesA {l : Launch} {D : va_G} {tys : List (ClassId × FieldType)} {L : List Nat} {f : Nat → va_E} (hn : L.Nodup) {x : Int32} : MetI l yC_givesA wC_givesA ({ frames := 0, cells := 0, slots := 0, locals := 0 } : Room) D tys L f [.int x] (fun r f' => r = kb (q_gA x) ∧ f' = f) := by
  refine met_of "LiquidChecker" (by decide) rfl (Nat.le_of_ble_eq_true rfl) ?_
  intro p e s m below meth c ls C0 hP hl
  obtain ⟨hx, hb, hml, hown, hg, hr, hlocks, hK, hN⟩ := id C0
  have hA : ∀ a ∈ L, inL L a := fun _ h => h
  obtain ⟨H, hH⟩ : ∃ z, z = s.heap := ⟨_, rfl⟩
  rw [← hH] at hP ⊢
  have hS : va_S (inL L) s.heap H [] := by rw [hH]; exact va_S.rf
  have hl : lv_has ls 1 [(0, .int x)] := hl
  refine lv_iload_n hx hb dC_givesA_0 rfl (lv_at hl 0 rfl) ?_
  refine lv_if_eq (tgt := 15) hx hb dC_givesA_1 (by decide) (fun c1 => ?_) (fun c1 => ?_)
  · refine lv_iconst (v := nI 1) hx hb dC_givesA_15 (by decide) ?_
    refine lv_goto (tgt := 20) hx hb dC_givesA_16 (by decide) ?_
    exact ret_z C0 rfl hP hS ⟨by simp [q_gA, kb, c1], rfl⟩ dC_givesA_20
  · refine lv_iload_n hx hb dC_givesA_4 rfl (lv_at hl 0 rfl) ?_
    refine lv_iconst (v := nI 1) hx hb dC_givesA_5 (by decide) ?_
    refine lv_icmp_eq (tgt := 15) hx hb dC_givesA_6 (by decide) (fun c6 => ?_) (fun c6 => ?_)
    · refine lv_iconst (v := nI 1) hx hb dC_givesA_15 (by decide) ?_
      refine lv_goto (tgt := 20) hx hb dC_givesA_16 (by decide) ?_
      exact ret_z C0 rfl hP hS ⟨by simp [q_gA, kb, c1, c6], rfl⟩ dC_givesA_20
    · refine lv_iload_n hx hb dC_givesA_9 rfl (lv_at hl 0 rfl) ?_
      refine lv_bipush (v := nI 7) hx hb dC_givesA_10 (by decide) ?_
      refine lv_icmp_ne (tgt := 19) hx hb dC_givesA_12 (by decide) (fun c12 => ?_) (fun c12 => ?_)
      · refine lv_iconst (v := nI 0) hx hb dC_givesA_19 (by decide) ?_
        exact ret_z C0 rfl hP hS ⟨by simp [q_gA, kb, c1, c6, c12], rfl⟩ dC_givesA_20
      · refine lv_iconst (v := nI 1) hx hb dC_givesA_15 (by decide) ?_
        refine lv_goto (tgt := 20) hx hb dC_givesA_16 (by decide) ?_
        exact ret_z C0 rfl hP hS ⟨by simp [q_gA, kb, c1, c6, c12], rfl⟩ dC_givesA_20
set_option maxRecDepth 100000 in
set_option maxHeartbeats 4000000 in
theorem qC_usesA {l : Launch} {D : va_G} {tys : List (ClassId × FieldType)} {L : List Nat} {f : Nat → va_E} (hn : L.Nodup) {x : Int32} : MetI l yC_usesA wC_usesA ({ frames := 0, cells := 0, slots := 0, locals := 0 } : Room) D tys L f [.int x] (fun r f' => r = kb (q_uA x) ∧ f' = f) := by
  refine met_of "LiquidChecker" (by decide) rfl (Nat.le_of_ble_eq_true rfl) ?_
  intro p e s m below meth c ls C0 hP hl
  obtain ⟨hx, hb, hml, hown, hg, hr, hlocks, hK, hN⟩ := id C0
  have hA : ∀ a ∈ L, inL L a := fun _ h => h
  obtain ⟨H, hH⟩ : ∃ z, z = s.heap := ⟨_, rfl⟩
  rw [← hH] at hP ⊢
  have hS : va_S (inL L) s.heap H [] := by rw [hH]; exact va_S.rf
  have hl : lv_has ls 1 [(0, .int x)] := hl
  refine lv_iload_n hx hb dC_usesA_0 rfl (lv_at hl 0 rfl) ?_
  refine lv_iconst (v := nI 2) hx hb dC_usesA_1 (by decide) ?_
  refine lv_icmp_eq (tgt := 10) hx hb dC_usesA_2 (by decide) (fun c2 => ?_) (fun c2 => ?_)
  · refine lv_iconst (v := nI 1) hx hb dC_usesA_10 (by decide) ?_
    refine lv_goto (tgt := 15) hx hb dC_usesA_11 (by decide) ?_
    exact ret_z C0 rfl hP hS ⟨by simp [q_uA, kb, c2], rfl⟩ dC_usesA_15
  · refine lv_iload_n hx hb dC_usesA_5 rfl (lv_at hl 0 rfl) ?_
    refine lv_iconst (v := nI 5) hx hb dC_usesA_6 (by decide) ?_
    refine lv_icmp_ne (tgt := 14) hx hb dC_usesA_7 (by decide) (fun c7 => ?_) (fun c7 => ?_)
    · refine lv_iconst (v := nI 0) hx hb dC_usesA_14 (by decide) ?_
      exact ret_z C0 rfl hP hS ⟨by simp [q_uA, kb, c2, c7], rfl⟩ dC_usesA_15
    · refine lv_iconst (v := nI 1) hx hb dC_usesA_10 (by decide) ?_
      refine lv_goto (tgt := 15) hx hb dC_usesA_11 (by decide) ?_
      exact ret_z C0 rfl hP hS ⟨by simp [q_uA, kb, c2, c7], rfl⟩ dC_usesA_15
set_option maxRecDepth 100000 in
set_option maxHeartbeats 4000000 in
theorem qC_usesB {l : Launch} {D : va_G} {tys : List (ClassId × FieldType)} {L : List Nat} {f : Nat → va_E} (hn : L.Nodup) {x : Int32} : MetI l yC_usesB wC_usesB ({ frames := 0, cells := 0, slots := 0, locals := 0 } : Room) D tys L f [.int x] (fun r f' => r = kb (q_uB x) ∧ f' = f) := by
  refine met_of "LiquidChecker" (by decide) rfl (Nat.le_of_ble_eq_true rfl) ?_
  intro p e s m below meth c ls C0 hP hl
  obtain ⟨hx, hb, hml, hown, hg, hr, hlocks, hK, hN⟩ := id C0
  have hA : ∀ a ∈ L, inL L a := fun _ h => h
  obtain ⟨H, hH⟩ : ∃ z, z = s.heap := ⟨_, rfl⟩
  rw [← hH] at hP ⊢
  have hS : va_S (inL L) s.heap H [] := by rw [hH]; exact va_S.rf
  have hl : lv_has ls 1 [(0, .int x)] := hl
  refine lv_iload_n hx hb dC_usesB_0 rfl (lv_at hl 0 rfl) ?_
  refine lv_if_eq (tgt := 25) hx hb dC_usesB_1 (by decide) (fun c1 => ?_) (fun c1 => ?_)
  · refine lv_iconst (v := nI 1) hx hb dC_usesB_25 (by decide) ?_
    refine lv_goto (tgt := 30) hx hb dC_usesB_26 (by decide) ?_
    exact ret_z C0 rfl hP hS ⟨by simp [q_uB, kb, c1], rfl⟩ dC_usesB_30
  · refine lv_iload_n hx hb dC_usesB_4 rfl (lv_at hl 0 rfl) ?_
    refine lv_iconst (v := nI 1) hx hb dC_usesB_5 (by decide) ?_
    refine lv_icmp_eq (tgt := 25) hx hb dC_usesB_6 (by decide) (fun c6 => ?_) (fun c6 => ?_)
    · refine lv_iconst (v := nI 1) hx hb dC_usesB_25 (by decide) ?_
      refine lv_goto (tgt := 30) hx hb dC_usesB_26 (by decide) ?_
      exact ret_z C0 rfl hP hS ⟨by simp [q_uB, kb, c1, c6], rfl⟩ dC_usesB_30
    · refine lv_iload_n hx hb dC_usesB_9 rfl (lv_at hl 0 rfl) ?_
      refine lv_iconst (v := nI 2) hx hb dC_usesB_10 (by decide) ?_
      refine lv_icmp_eq (tgt := 25) hx hb dC_usesB_11 (by decide) (fun c11 => ?_) (fun c11 => ?_)
      · refine lv_iconst (v := nI 1) hx hb dC_usesB_25 (by decide) ?_
        refine lv_goto (tgt := 30) hx hb dC_usesB_26 (by decide) ?_
        exact ret_z C0 rfl hP hS ⟨by simp [q_uB, kb, c1, c6, c11], rfl⟩ dC_usesB_30
      · refine lv_iload_n hx hb dC_usesB_14 rfl (lv_at hl 0 rfl) ?_
        refine lv_iconst (v := nI 5) hx hb dC_usesB_15 (by decide) ?_
        refine lv_icmp_eq (tgt := 25) hx hb dC_usesB_16 (by decide) (fun c16 => ?_) (fun c16 => ?_)
        · refine lv_iconst (v := nI 1) hx hb dC_usesB_25 (by decide) ?_
          refine lv_goto (tgt := 30) hx hb dC_usesB_26 (by decide) ?_
          exact ret_z C0 rfl hP hS ⟨by simp [q_uB, kb, c1, c6, c11, c16], rfl⟩ dC_usesB_30
        · refine lv_iload_n hx hb dC_usesB_19 rfl (lv_at hl 0 rfl) ?_
          refine lv_bipush (v := nI 6) hx hb dC_usesB_20 (by decide) ?_
          refine lv_icmp_ne (tgt := 29) hx hb dC_usesB_22 (by decide) (fun c22 => ?_) (fun c22 => ?_)
          · refine lv_iconst (v := nI 0) hx hb dC_usesB_29 (by decide) ?_
            exact ret_z C0 rfl hP hS ⟨by simp [q_uB, kb, c1, c6, c11, c16, c22], rfl⟩ dC_usesB_30
          · refine lv_iconst (v := nI 1) hx hb dC_usesB_25 (by decide) ?_
            refine lv_goto (tgt := 30) hx hb dC_usesB_26 (by decide) ?_
            exact ret_z C0 rfl hP hS ⟨by simp [q_uB, kb, c1, c6, c11, c16, c22], rfl⟩ dC_usesB_30
set_option maxRecDepth 100000 in
set_option maxHeartbeats 4000000 in
theorem qC_usesC {l : Launch} {D : va_G} {tys : List (ClassId × FieldType)} {L : List Nat} {f : Nat → va_E} (hn : L.Nodup) {x : Int32} : MetI l yC_usesC wC_usesC ({ frames := 0, cells := 0, slots := 0, locals := 0 } : Room) D tys L f [.int x] (fun r f' => r = kb (q_uC x) ∧ f' = f) := by
  refine met_of "LiquidChecker" (by decide) rfl (Nat.le_of_ble_eq_true rfl) ?_
  intro p e s m below meth c ls C0 hP hl
  obtain ⟨hx, hb, hml, hown, hg, hr, hlocks, hK, hN⟩ := id C0
  have hA : ∀ a ∈ L, inL L a := fun _ h => h
  obtain ⟨H, hH⟩ : ∃ z, z = s.heap := ⟨_, rfl⟩
  rw [← hH] at hP ⊢
  have hS : va_S (inL L) s.heap H [] := by rw [hH]; exact va_S.rf
  have hl : lv_has ls 1 [(0, .int x)] := hl
  refine lv_iload_n hx hb dC_usesC_0 rfl (lv_at hl 0 rfl) ?_
  refine lv_iconst (v := nI 1) hx hb dC_usesC_1 (by decide) ?_
  refine lv_icmp_ne (tgt := 9) hx hb dC_usesC_2 (by decide) (fun c2 => ?_) (fun c2 => ?_)
  · refine lv_iconst (v := nI 0) hx hb dC_usesC_9 (by decide) ?_
    exact ret_z C0 rfl hP hS ⟨by simp [q_uC, kb, c2], rfl⟩ dC_usesC_10
  · refine lv_iconst (v := nI 1) hx hb dC_usesC_5 (by decide) ?_
    refine lv_goto (tgt := 10) hx hb dC_usesC_6 (by decide) ?_
    exact ret_z C0 rfl hP hS ⟨by simp [q_uC, kb, c2], rfl⟩ dC_usesC_10
set_option maxRecDepth 100000 in
set_option maxHeartbeats 4000000 in
theorem qC_isStatement {l : Launch} {D : va_G} {tys : List (ClassId × FieldType)} {L : List Nat} {f : Nat → va_E} (hn : L.Nodup) {kd a b cc k : Int32} : MetI l yC_isStatement wC_isStatement ({ frames := 3, cells := 0, slots := 0, locals := 62 } : Room) D tys L f [.int kd, .int a, .int b, .int cc, .int k] (fun r f' => r = kb (q_st kd a b cc k) ∧ f' = f) := by
  refine met_of "LiquidChecker" (by decide) rfl (Nat.le_of_ble_eq_true rfl) ?_
  intro p e s m below meth c ls C0 hP hl
  obtain ⟨hx, hb, hml, hown, hg, hr, hlocks, hK, hN⟩ := id C0
  have hA : ∀ a ∈ L, inL L a := fun _ h => h
  obtain ⟨H, hH⟩ : ∃ z, z = s.heap := ⟨_, rfl⟩
  rw [← hH] at hP ⊢
  have hS : va_S (inL L) s.heap H [] := by rw [hH]; exact va_S.rf
  have hl : lv_has ls 5 [(0, .int kd), (1, .int a), (2, .int b), (3, .int cc), (4, .int k)] := hl
  refine lv_iload_n hx hb dC_isStatement_0 rfl (lv_at hl 0 rfl) ?_
  refine lv_iconst (v := nI 0) hx hb dC_isStatement_1 (by decide) ?_
  refine lv_bipush (v := nI 7) hx hb dC_isStatement_2 (by decide) ?_
  refine then_i (run_S (n := 3) (As := [.int kd, .int (nI 0), .int (nI 7)]) (rest := []) C0 (qC_isWithin hn) gw207 gw205 gw206 gw1 (by decide +kernel) ⟨Nat.le_of_ble_eq_true rfl, Nat.le_of_ble_eq_true rfl⟩ rfl rfl ⟨Nat.le_of_ble_eq_true rfl, Nat.le_of_ble_eq_true rfl⟩ hP rfl hl.1 rfl (Nat.le_of_ble_eq_true rfl) dC_isStatement_4) hS hA (fun r2 f1 H locs hq4 hP hS => ?_)
  obtain ⟨er2, ef1⟩ := hq4
  subst er2
  rw [ef1] at hP
  refine lv_if_ne (tgt := 12) hx hb dC_isStatement_7 (by decide) (fun c7 => ?_) (fun c7 => ?_)
  · have c7 : (q_in kd (nI 0) (nI 7)) = true := kb_t.mp c7
    refine lv_iload_n hx hb dC_isStatement_12 rfl (lv_at hl 0 rfl) ?_
    refine then_i (run_S (n := 1) (As := [.int kd]) (rest := []) C0 (qC_givesA hn) gw315 gw313 gw314 gw1 (by decide +kernel) ⟨Nat.le_of_ble_eq_true rfl, Nat.le_of_ble_eq_true rfl⟩ rfl rfl ⟨Nat.le_of_ble_eq_true rfl, Nat.le_of_ble_eq_true rfl⟩ hP rfl hl.1 rfl (Nat.le_of_ble_eq_true rfl) dC_isStatement_13) hS hA (fun r4 f3 H locs hq13 hP hS => ?_)
    obtain ⟨er4, ef3⟩ := hq13
    subst er4
    rw [ef3] at hP
    refine lv_if_eq (tgt := 28) hx hb dC_isStatement_16 (by decide) (fun c16 => ?_) (fun c16 => ?_)
    · have c16 : (q_gA kd) = false := kb_0.mp c16
      refine lv_iload_n hx hb dC_isStatement_28 rfl (lv_at hl 0 rfl) ?_
      refine then_i (run_S (n := 1) (As := [.int kd]) (rest := []) C0 (qC_usesA hn) gw321 gw319 gw320 gw1 (by decide +kernel) ⟨Nat.le_of_ble_eq_true rfl, Nat.le_of_ble_eq_true rfl⟩ rfl rfl ⟨Nat.le_of_ble_eq_true rfl, Nat.le_of_ble_eq_true rfl⟩ hP rfl hl.1 rfl (Nat.le_of_ble_eq_true rfl) dC_isStatement_29) hS hA (fun r6 f5 H locs hq29 hP hS => ?_)
      obtain ⟨er6, ef5⟩ := hq29
      subst er6
      rw [ef5] at hP
      refine lv_if_eq (tgt := 42) hx hb dC_isStatement_32 (by decide) (fun c32 => ?_) (fun c32 => ?_)
      · have c32 : (q_uA kd) = false := kb_0.mp c32
        refine lv_iload_n hx hb dC_isStatement_42 rfl (lv_at hl 0 rfl) ?_
        refine then_i (run_S (n := 1) (As := [.int kd]) (rest := []) C0 (qC_usesB hn) gw327 gw325 gw326 gw1 (by decide +kernel) ⟨Nat.le_of_ble_eq_true rfl, Nat.le_of_ble_eq_true rfl⟩ rfl rfl ⟨Nat.le_of_ble_eq_true rfl, Nat.le_of_ble_eq_true rfl⟩ hP rfl hl.1 rfl (Nat.le_of_ble_eq_true rfl) dC_isStatement_43) hS hA (fun r8 f7 H locs hq43 hP hS => ?_)
        obtain ⟨er8, ef7⟩ := hq43
        subst er8
        rw [ef7] at hP
        refine lv_if_eq (tgt := 56) hx hb dC_isStatement_46 (by decide) (fun c46 => ?_) (fun c46 => ?_)
        · have c46 : (q_uB kd) = false := kb_0.mp c46
          refine lv_iload_n hx hb dC_isStatement_56 rfl (lv_at hl 0 rfl) ?_
          refine then_i (run_S (n := 1) (As := [.int kd]) (rest := []) C0 (qC_usesC hn) gw330 gw328 gw329 gw1 (by decide +kernel) ⟨Nat.le_of_ble_eq_true rfl, Nat.le_of_ble_eq_true rfl⟩ rfl rfl ⟨Nat.le_of_ble_eq_true rfl, Nat.le_of_ble_eq_true rfl⟩ hP rfl hl.1 rfl (Nat.le_of_ble_eq_true rfl) dC_isStatement_57) hS hA (fun r10 f9 H locs hq57 hP hS => ?_)
          obtain ⟨er10, ef9⟩ := hq57
          subst er10
          rw [ef9] at hP
          refine lv_if_eq (tgt := 72) hx hb dC_isStatement_60 (by decide) (fun c60 => ?_) (fun c60 => ?_)
          · have c60 : (q_uC kd) = false := kb_0.mp c60
            refine lv_iload_n hx hb dC_isStatement_72 rfl (lv_at hl 0 rfl) ?_
            refine lv_iconst (v := nI 1) hx hb dC_isStatement_73 (by decide) ?_
            refine lv_icmp_ne (tgt := 83) hx hb dC_isStatement_74 (by decide) (fun c74 => ?_) (fun c74 => ?_)
            · refine lv_iload_n hx hb dC_isStatement_83 rfl (lv_at hl 0 rfl) ?_
              refine then_i (run_S (n := 1) (As := [.int kd]) (rest := []) C0 (qC_usesB hn) gw327 gw325 gw326 gw1 (by decide +kernel) ⟨Nat.le_of_ble_eq_true rfl, Nat.le_of_ble_eq_true rfl⟩ rfl rfl ⟨Nat.le_of_ble_eq_true rfl, Nat.le_of_ble_eq_true rfl⟩ hP rfl hl.1 rfl (Nat.le_of_ble_eq_true rfl) dC_isStatement_84) hS hA (fun r12 f11 H locs hq84 hP hS => ?_)
              obtain ⟨er12, ef11⟩ := hq84
              subst er12
              rw [ef11] at hP
              refine lv_if_eq (tgt := 98) hx hb dC_isStatement_87 (by decide) (fun _ => ?_) (fun c87 => absurd (kb_0.mpr c46) c87)
              refine lv_iconst (v := nI 1) hx hb dC_isStatement_98 (by decide) ?_
              refine lv_goto (tgt := 103) hx hb dC_isStatement_99 (by decide) ?_
              exact ret_z C0 rfl hP hS ⟨by simp [q_st, kb, c7, c16, c32, c46, c60, if_neg c74], rfl⟩ dC_isStatement_103
            · refine lv_iload hx hb dC_isStatement_77 (lv_at hl 4 rfl) ?_
              refine then_i (run_S (n := 1) (As := [.int k]) (rest := []) C0 (qC_isFunction hn) gw204 gw202 gw203 gw1 (by decide +kernel) ⟨Nat.le_of_ble_eq_true rfl, Nat.le_of_ble_eq_true rfl⟩ rfl rfl ⟨Nat.le_of_ble_eq_true rfl, Nat.le_of_ble_eq_true rfl⟩ hP rfl hl.1 rfl (Nat.le_of_ble_eq_true rfl) dC_isStatement_79) hS hA (fun r14 f13 H locs hq79 hP hS => ?_)
              obtain ⟨er14, ef13⟩ := hq79
              subst er14
              rw [ef13] at hP
              exact ret_z C0 (b01 (kb_or _)).1 hP hS ⟨by simp [q_st, c7, c16, c32, c46, c60, if_pos c74], rfl⟩ dC_isStatement_82
          · have c60 : (q_uC kd) = true := kb_t.mp c60
            refine lv_iload_n hx hb dC_isStatement_63 rfl (lv_at hl 3 rfl) ?_
            refine then_i (run_S (n := 1) (As := [.int cc]) (rest := []) C0 (qC_isUsable hn) gw324 gw322 gw323 gw1 (by decide +kernel) ⟨Nat.le_of_ble_eq_true rfl, Nat.le_of_ble_eq_true rfl⟩ rfl rfl ⟨Nat.le_of_ble_eq_true rfl, Nat.le_of_ble_eq_true rfl⟩ hP rfl hl.1 rfl (Nat.le_of_ble_eq_true rfl) dC_isStatement_64) hS hA (fun r16 f15 H locs hq64 hP hS => ?_)
            obtain ⟨er16, ef15⟩ := hq64
            subst er16
            rw [ef15] at hP
            refine lv_if_ne (tgt := 72) hx hb dC_isStatement_67 (by decide) (fun c67 => ?_) (fun c67 => ?_)
            · have c67 : (q_us cc) = true := kb_t.mp c67
              refine lv_iload_n hx hb dC_isStatement_72 rfl (lv_at hl 0 rfl) ?_
              refine lv_iconst (v := nI 1) hx hb dC_isStatement_73 (by decide) ?_
              refine lv_icmp_ne (tgt := 83) hx hb dC_isStatement_74 (by decide) (fun c74 => ?_) (fun c74 => ?_)
              · refine lv_iload_n hx hb dC_isStatement_83 rfl (lv_at hl 0 rfl) ?_
                refine then_i (run_S (n := 1) (As := [.int kd]) (rest := []) C0 (qC_usesB hn) gw327 gw325 gw326 gw1 (by decide +kernel) ⟨Nat.le_of_ble_eq_true rfl, Nat.le_of_ble_eq_true rfl⟩ rfl rfl ⟨Nat.le_of_ble_eq_true rfl, Nat.le_of_ble_eq_true rfl⟩ hP rfl hl.1 rfl (Nat.le_of_ble_eq_true rfl) dC_isStatement_84) hS hA (fun r18 f17 H locs hq84 hP hS => ?_)
                obtain ⟨er18, ef17⟩ := hq84
                subst er18
                rw [ef17] at hP
                refine lv_if_eq (tgt := 98) hx hb dC_isStatement_87 (by decide) (fun _ => ?_) (fun c87 => absurd (kb_0.mpr c46) c87)
                refine lv_iconst (v := nI 1) hx hb dC_isStatement_98 (by decide) ?_
                refine lv_goto (tgt := 103) hx hb dC_isStatement_99 (by decide) ?_
                exact ret_z C0 rfl hP hS ⟨by simp [q_st, kb, c7, c16, c32, c46, c60, c67, if_neg c74], rfl⟩ dC_isStatement_103
              · refine lv_iload hx hb dC_isStatement_77 (lv_at hl 4 rfl) ?_
                refine then_i (run_S (n := 1) (As := [.int k]) (rest := []) C0 (qC_isFunction hn) gw204 gw202 gw203 gw1 (by decide +kernel) ⟨Nat.le_of_ble_eq_true rfl, Nat.le_of_ble_eq_true rfl⟩ rfl rfl ⟨Nat.le_of_ble_eq_true rfl, Nat.le_of_ble_eq_true rfl⟩ hP rfl hl.1 rfl (Nat.le_of_ble_eq_true rfl) dC_isStatement_79) hS hA (fun r20 f19 H locs hq79 hP hS => ?_)
                obtain ⟨er20, ef19⟩ := hq79
                subst er20
                rw [ef19] at hP
                exact ret_z C0 (b01 (kb_or _)).1 hP hS ⟨by simp [q_st, c7, c16, c32, c46, c60, c67, if_pos c74], rfl⟩ dC_isStatement_82
            · have c67 : (q_us cc) = false := kb_0.mp c67
              refine lv_iconst (v := nI 0) hx hb dC_isStatement_70 (by decide) ?_
              exact ret_z C0 rfl hP hS ⟨by simp [q_st, kb, c7, c16, c32, c46, c60, c67], rfl⟩ dC_isStatement_71
        · have c46 : (q_uB kd) = true := kb_t.mp c46
          refine lv_iload_n hx hb dC_isStatement_49 rfl (lv_at hl 2 rfl) ?_
          refine then_i (run_S (n := 1) (As := [.int b]) (rest := []) C0 (qC_isUsable hn) gw324 gw322 gw323 gw1 (by decide +kernel) ⟨Nat.le_of_ble_eq_true rfl, Nat.le_of_ble_eq_true rfl⟩ rfl rfl ⟨Nat.le_of_ble_eq_true rfl, Nat.le_of_ble_eq_true rfl⟩ hP rfl hl.1 rfl (Nat.le_of_ble_eq_true rfl) dC_isStatement_50) hS hA (fun r22 f21 H locs hq50 hP hS => ?_)
          obtain ⟨er22, ef21⟩ := hq50
          subst er22
          rw [ef21] at hP
          refine lv_if_eq (tgt := 70) hx hb dC_isStatement_53 (by decide) (fun c53 => ?_) (fun c53 => ?_)
          · have c53 : (q_us b) = false := kb_0.mp c53
            refine lv_iconst (v := nI 0) hx hb dC_isStatement_70 (by decide) ?_
            exact ret_z C0 rfl hP hS ⟨by simp [q_st, kb, c7, c16, c32, c46, c53], rfl⟩ dC_isStatement_71
          · have c53 : (q_us b) = true := kb_t.mp c53
            refine lv_iload_n hx hb dC_isStatement_56 rfl (lv_at hl 0 rfl) ?_
            refine then_i (run_S (n := 1) (As := [.int kd]) (rest := []) C0 (qC_usesC hn) gw330 gw328 gw329 gw1 (by decide +kernel) ⟨Nat.le_of_ble_eq_true rfl, Nat.le_of_ble_eq_true rfl⟩ rfl rfl ⟨Nat.le_of_ble_eq_true rfl, Nat.le_of_ble_eq_true rfl⟩ hP rfl hl.1 rfl (Nat.le_of_ble_eq_true rfl) dC_isStatement_57) hS hA (fun r24 f23 H locs hq57 hP hS => ?_)
            obtain ⟨er24, ef23⟩ := hq57
            subst er24
            rw [ef23] at hP
            refine lv_if_eq (tgt := 72) hx hb dC_isStatement_60 (by decide) (fun c60 => ?_) (fun c60 => ?_)
            · have c60 : (q_uC kd) = false := kb_0.mp c60
              refine lv_iload_n hx hb dC_isStatement_72 rfl (lv_at hl 0 rfl) ?_
              refine lv_iconst (v := nI 1) hx hb dC_isStatement_73 (by decide) ?_
              refine lv_icmp_ne (tgt := 83) hx hb dC_isStatement_74 (by decide) (fun c74 => ?_) (fun c74 => ?_)
              · refine lv_iload_n hx hb dC_isStatement_83 rfl (lv_at hl 0 rfl) ?_
                refine then_i (run_S (n := 1) (As := [.int kd]) (rest := []) C0 (qC_usesB hn) gw327 gw325 gw326 gw1 (by decide +kernel) ⟨Nat.le_of_ble_eq_true rfl, Nat.le_of_ble_eq_true rfl⟩ rfl rfl ⟨Nat.le_of_ble_eq_true rfl, Nat.le_of_ble_eq_true rfl⟩ hP rfl hl.1 rfl (Nat.le_of_ble_eq_true rfl) dC_isStatement_84) hS hA (fun r26 f25 H locs hq84 hP hS => ?_)
                obtain ⟨er26, ef25⟩ := hq84
                subst er26
                rw [ef25] at hP
                refine lv_if_eq (tgt := 98) hx hb dC_isStatement_87 (by decide) (fun c87 => absurd c87 (kb_t.mpr c46)) (fun _ => ?_)
                refine lv_iload hx hb dC_isStatement_90 (lv_at hl 4 rfl) ?_
                refine then_i (run_S (n := 1) (As := [.int k]) (rest := []) C0 (qC_isDifference hn) gw280 gw278 gw279 gw1 (by decide +kernel) ⟨Nat.le_of_ble_eq_true rfl, Nat.le_of_ble_eq_true rfl⟩ rfl rfl ⟨Nat.le_of_ble_eq_true rfl, Nat.le_of_ble_eq_true rfl⟩ hP rfl hl.1 rfl (Nat.le_of_ble_eq_true rfl) dC_isStatement_92) hS hA (fun r28 f27 H locs hq92 hP hS => ?_)
                obtain ⟨er28, ef27⟩ := hq92
                subst er28
                rw [ef27] at hP
                refine lv_if_eq (tgt := 102) hx hb dC_isStatement_95 (by decide) (fun c95 => ?_) (fun c95 => ?_)
                · have c95 : (q_df k) = false := kb_0.mp c95
                  refine lv_iconst (v := nI 0) hx hb dC_isStatement_102 (by decide) ?_
                  exact ret_z C0 rfl hP hS ⟨by simp [q_st, kb, c7, c16, c32, c46, c53, c60, if_neg c74, c95], rfl⟩ dC_isStatement_103
                · have c95 : (q_df k) = true := kb_t.mp c95
                  refine lv_iconst (v := nI 1) hx hb dC_isStatement_98 (by decide) ?_
                  refine lv_goto (tgt := 103) hx hb dC_isStatement_99 (by decide) ?_
                  exact ret_z C0 rfl hP hS ⟨by simp [q_st, kb, c7, c16, c32, c46, c53, c60, if_neg c74, c95], rfl⟩ dC_isStatement_103
              · refine lv_iload hx hb dC_isStatement_77 (lv_at hl 4 rfl) ?_
                refine then_i (run_S (n := 1) (As := [.int k]) (rest := []) C0 (qC_isFunction hn) gw204 gw202 gw203 gw1 (by decide +kernel) ⟨Nat.le_of_ble_eq_true rfl, Nat.le_of_ble_eq_true rfl⟩ rfl rfl ⟨Nat.le_of_ble_eq_true rfl, Nat.le_of_ble_eq_true rfl⟩ hP rfl hl.1 rfl (Nat.le_of_ble_eq_true rfl) dC_isStatement_79) hS hA (fun r30 f29 H locs hq79 hP hS => ?_)
                obtain ⟨er30, ef29⟩ := hq79
                subst er30
                rw [ef29] at hP
                exact ret_z C0 (b01 (kb_or _)).1 hP hS ⟨by simp [q_st, c7, c16, c32, c46, c53, c60, if_pos c74], rfl⟩ dC_isStatement_82
            · have c60 : (q_uC kd) = true := kb_t.mp c60
              refine lv_iload_n hx hb dC_isStatement_63 rfl (lv_at hl 3 rfl) ?_
              refine then_i (run_S (n := 1) (As := [.int cc]) (rest := []) C0 (qC_isUsable hn) gw324 gw322 gw323 gw1 (by decide +kernel) ⟨Nat.le_of_ble_eq_true rfl, Nat.le_of_ble_eq_true rfl⟩ rfl rfl ⟨Nat.le_of_ble_eq_true rfl, Nat.le_of_ble_eq_true rfl⟩ hP rfl hl.1 rfl (Nat.le_of_ble_eq_true rfl) dC_isStatement_64) hS hA (fun r32 f31 H locs hq64 hP hS => ?_)
              obtain ⟨er32, ef31⟩ := hq64
              subst er32
              rw [ef31] at hP
              refine lv_if_ne (tgt := 72) hx hb dC_isStatement_67 (by decide) (fun c67 => ?_) (fun c67 => ?_)
              · have c67 : (q_us cc) = true := kb_t.mp c67
                refine lv_iload_n hx hb dC_isStatement_72 rfl (lv_at hl 0 rfl) ?_
                refine lv_iconst (v := nI 1) hx hb dC_isStatement_73 (by decide) ?_
                refine lv_icmp_ne (tgt := 83) hx hb dC_isStatement_74 (by decide) (fun c74 => ?_) (fun c74 => ?_)
                · refine lv_iload_n hx hb dC_isStatement_83 rfl (lv_at hl 0 rfl) ?_
                  refine then_i (run_S (n := 1) (As := [.int kd]) (rest := []) C0 (qC_usesB hn) gw327 gw325 gw326 gw1 (by decide +kernel) ⟨Nat.le_of_ble_eq_true rfl, Nat.le_of_ble_eq_true rfl⟩ rfl rfl ⟨Nat.le_of_ble_eq_true rfl, Nat.le_of_ble_eq_true rfl⟩ hP rfl hl.1 rfl (Nat.le_of_ble_eq_true rfl) dC_isStatement_84) hS hA (fun r34 f33 H locs hq84 hP hS => ?_)
                  obtain ⟨er34, ef33⟩ := hq84
                  subst er34
                  rw [ef33] at hP
                  refine lv_if_eq (tgt := 98) hx hb dC_isStatement_87 (by decide) (fun c87 => absurd c87 (kb_t.mpr c46)) (fun _ => ?_)
                  refine lv_iload hx hb dC_isStatement_90 (lv_at hl 4 rfl) ?_
                  refine then_i (run_S (n := 1) (As := [.int k]) (rest := []) C0 (qC_isDifference hn) gw280 gw278 gw279 gw1 (by decide +kernel) ⟨Nat.le_of_ble_eq_true rfl, Nat.le_of_ble_eq_true rfl⟩ rfl rfl ⟨Nat.le_of_ble_eq_true rfl, Nat.le_of_ble_eq_true rfl⟩ hP rfl hl.1 rfl (Nat.le_of_ble_eq_true rfl) dC_isStatement_92) hS hA (fun r36 f35 H locs hq92 hP hS => ?_)
                  obtain ⟨er36, ef35⟩ := hq92
                  subst er36
                  rw [ef35] at hP
                  refine lv_if_eq (tgt := 102) hx hb dC_isStatement_95 (by decide) (fun c95 => ?_) (fun c95 => ?_)
                  · have c95 : (q_df k) = false := kb_0.mp c95
                    refine lv_iconst (v := nI 0) hx hb dC_isStatement_102 (by decide) ?_
                    exact ret_z C0 rfl hP hS ⟨by simp [q_st, kb, c7, c16, c32, c46, c53, c60, c67, if_neg c74, c95], rfl⟩ dC_isStatement_103
                  · have c95 : (q_df k) = true := kb_t.mp c95
                    refine lv_iconst (v := nI 1) hx hb dC_isStatement_98 (by decide) ?_
                    refine lv_goto (tgt := 103) hx hb dC_isStatement_99 (by decide) ?_
                    exact ret_z C0 rfl hP hS ⟨by simp [q_st, kb, c7, c16, c32, c46, c53, c60, c67, if_neg c74, c95], rfl⟩ dC_isStatement_103
                · refine lv_iload hx hb dC_isStatement_77 (lv_at hl 4 rfl) ?_
                  refine then_i (run_S (n := 1) (As := [.int k]) (rest := []) C0 (qC_isFunction hn) gw204 gw202 gw203 gw1 (by decide +kernel) ⟨Nat.le_of_ble_eq_true rfl, Nat.le_of_ble_eq_true rfl⟩ rfl rfl ⟨Nat.le_of_ble_eq_true rfl, Nat.le_of_ble_eq_true rfl⟩ hP rfl hl.1 rfl (Nat.le_of_ble_eq_true rfl) dC_isStatement_79) hS hA (fun r38 f37 H locs hq79 hP hS => ?_)
                  obtain ⟨er38, ef37⟩ := hq79
                  subst er38
                  rw [ef37] at hP
                  exact ret_z C0 (b01 (kb_or _)).1 hP hS ⟨by simp [q_st, c7, c16, c32, c46, c53, c60, c67, if_pos c74], rfl⟩ dC_isStatement_82
              · have c67 : (q_us cc) = false := kb_0.mp c67
                refine lv_iconst (v := nI 0) hx hb dC_isStatement_70 (by decide) ?_
                exact ret_z C0 rfl hP hS ⟨by simp [q_st, kb, c7, c16, c32, c46, c53, c60, c67], rfl⟩ dC_isStatement_71
      · have c32 : (q_uA kd) = true := kb_t.mp c32
        refine lv_iload_n hx hb dC_isStatement_35 rfl (lv_at hl 1 rfl) ?_
        refine then_i (run_S (n := 1) (As := [.int a]) (rest := []) C0 (qC_isUsable hn) gw324 gw322 gw323 gw1 (by decide +kernel) ⟨Nat.le_of_ble_eq_true rfl, Nat.le_of_ble_eq_true rfl⟩ rfl rfl ⟨Nat.le_of_ble_eq_true rfl, Nat.le_of_ble_eq_true rfl⟩ hP rfl hl.1 rfl (Nat.le_of_ble_eq_true rfl) dC_isStatement_36) hS hA (fun r40 f39 H locs hq36 hP hS => ?_)
        obtain ⟨er40, ef39⟩ := hq36
        subst er40
        rw [ef39] at hP
        refine lv_if_eq (tgt := 70) hx hb dC_isStatement_39 (by decide) (fun c39 => ?_) (fun c39 => ?_)
        · have c39 : (q_us a) = false := kb_0.mp c39
          refine lv_iconst (v := nI 0) hx hb dC_isStatement_70 (by decide) ?_
          exact ret_z C0 rfl hP hS ⟨by simp [q_st, kb, c7, c16, c32, c39], rfl⟩ dC_isStatement_71
        · have c39 : (q_us a) = true := kb_t.mp c39
          refine lv_iload_n hx hb dC_isStatement_42 rfl (lv_at hl 0 rfl) ?_
          refine then_i (run_S (n := 1) (As := [.int kd]) (rest := []) C0 (qC_usesB hn) gw327 gw325 gw326 gw1 (by decide +kernel) ⟨Nat.le_of_ble_eq_true rfl, Nat.le_of_ble_eq_true rfl⟩ rfl rfl ⟨Nat.le_of_ble_eq_true rfl, Nat.le_of_ble_eq_true rfl⟩ hP rfl hl.1 rfl (Nat.le_of_ble_eq_true rfl) dC_isStatement_43) hS hA (fun r42 f41 H locs hq43 hP hS => ?_)
          obtain ⟨er42, ef41⟩ := hq43
          subst er42
          rw [ef41] at hP
          refine lv_if_eq (tgt := 56) hx hb dC_isStatement_46 (by decide) (fun c46 => ?_) (fun c46 => ?_)
          · have c46 : (q_uB kd) = false := kb_0.mp c46
            refine lv_iload_n hx hb dC_isStatement_56 rfl (lv_at hl 0 rfl) ?_
            refine then_i (run_S (n := 1) (As := [.int kd]) (rest := []) C0 (qC_usesC hn) gw330 gw328 gw329 gw1 (by decide +kernel) ⟨Nat.le_of_ble_eq_true rfl, Nat.le_of_ble_eq_true rfl⟩ rfl rfl ⟨Nat.le_of_ble_eq_true rfl, Nat.le_of_ble_eq_true rfl⟩ hP rfl hl.1 rfl (Nat.le_of_ble_eq_true rfl) dC_isStatement_57) hS hA (fun r44 f43 H locs hq57 hP hS => ?_)
            obtain ⟨er44, ef43⟩ := hq57
            subst er44
            rw [ef43] at hP
            refine lv_if_eq (tgt := 72) hx hb dC_isStatement_60 (by decide) (fun c60 => ?_) (fun c60 => ?_)
            · have c60 : (q_uC kd) = false := kb_0.mp c60
              refine lv_iload_n hx hb dC_isStatement_72 rfl (lv_at hl 0 rfl) ?_
              refine lv_iconst (v := nI 1) hx hb dC_isStatement_73 (by decide) ?_
              refine lv_icmp_ne (tgt := 83) hx hb dC_isStatement_74 (by decide) (fun c74 => ?_) (fun c74 => ?_)
              · refine lv_iload_n hx hb dC_isStatement_83 rfl (lv_at hl 0 rfl) ?_
                refine then_i (run_S (n := 1) (As := [.int kd]) (rest := []) C0 (qC_usesB hn) gw327 gw325 gw326 gw1 (by decide +kernel) ⟨Nat.le_of_ble_eq_true rfl, Nat.le_of_ble_eq_true rfl⟩ rfl rfl ⟨Nat.le_of_ble_eq_true rfl, Nat.le_of_ble_eq_true rfl⟩ hP rfl hl.1 rfl (Nat.le_of_ble_eq_true rfl) dC_isStatement_84) hS hA (fun r46 f45 H locs hq84 hP hS => ?_)
                obtain ⟨er46, ef45⟩ := hq84
                subst er46
                rw [ef45] at hP
                refine lv_if_eq (tgt := 98) hx hb dC_isStatement_87 (by decide) (fun _ => ?_) (fun c87 => absurd (kb_0.mpr c46) c87)
                refine lv_iconst (v := nI 1) hx hb dC_isStatement_98 (by decide) ?_
                refine lv_goto (tgt := 103) hx hb dC_isStatement_99 (by decide) ?_
                exact ret_z C0 rfl hP hS ⟨by simp [q_st, kb, c7, c16, c32, c39, c46, c60, if_neg c74], rfl⟩ dC_isStatement_103
              · refine lv_iload hx hb dC_isStatement_77 (lv_at hl 4 rfl) ?_
                refine then_i (run_S (n := 1) (As := [.int k]) (rest := []) C0 (qC_isFunction hn) gw204 gw202 gw203 gw1 (by decide +kernel) ⟨Nat.le_of_ble_eq_true rfl, Nat.le_of_ble_eq_true rfl⟩ rfl rfl ⟨Nat.le_of_ble_eq_true rfl, Nat.le_of_ble_eq_true rfl⟩ hP rfl hl.1 rfl (Nat.le_of_ble_eq_true rfl) dC_isStatement_79) hS hA (fun r48 f47 H locs hq79 hP hS => ?_)
                obtain ⟨er48, ef47⟩ := hq79
                subst er48
                rw [ef47] at hP
                exact ret_z C0 (b01 (kb_or _)).1 hP hS ⟨by simp [q_st, c7, c16, c32, c39, c46, c60, if_pos c74], rfl⟩ dC_isStatement_82
            · have c60 : (q_uC kd) = true := kb_t.mp c60
              refine lv_iload_n hx hb dC_isStatement_63 rfl (lv_at hl 3 rfl) ?_
              refine then_i (run_S (n := 1) (As := [.int cc]) (rest := []) C0 (qC_isUsable hn) gw324 gw322 gw323 gw1 (by decide +kernel) ⟨Nat.le_of_ble_eq_true rfl, Nat.le_of_ble_eq_true rfl⟩ rfl rfl ⟨Nat.le_of_ble_eq_true rfl, Nat.le_of_ble_eq_true rfl⟩ hP rfl hl.1 rfl (Nat.le_of_ble_eq_true rfl) dC_isStatement_64) hS hA (fun r50 f49 H locs hq64 hP hS => ?_)
              obtain ⟨er50, ef49⟩ := hq64
              subst er50
              rw [ef49] at hP
              refine lv_if_ne (tgt := 72) hx hb dC_isStatement_67 (by decide) (fun c67 => ?_) (fun c67 => ?_)
              · have c67 : (q_us cc) = true := kb_t.mp c67
                refine lv_iload_n hx hb dC_isStatement_72 rfl (lv_at hl 0 rfl) ?_
                refine lv_iconst (v := nI 1) hx hb dC_isStatement_73 (by decide) ?_
                refine lv_icmp_ne (tgt := 83) hx hb dC_isStatement_74 (by decide) (fun c74 => ?_) (fun c74 => ?_)
                · refine lv_iload_n hx hb dC_isStatement_83 rfl (lv_at hl 0 rfl) ?_
                  refine then_i (run_S (n := 1) (As := [.int kd]) (rest := []) C0 (qC_usesB hn) gw327 gw325 gw326 gw1 (by decide +kernel) ⟨Nat.le_of_ble_eq_true rfl, Nat.le_of_ble_eq_true rfl⟩ rfl rfl ⟨Nat.le_of_ble_eq_true rfl, Nat.le_of_ble_eq_true rfl⟩ hP rfl hl.1 rfl (Nat.le_of_ble_eq_true rfl) dC_isStatement_84) hS hA (fun r52 f51 H locs hq84 hP hS => ?_)
                  obtain ⟨er52, ef51⟩ := hq84
                  subst er52
                  rw [ef51] at hP
                  refine lv_if_eq (tgt := 98) hx hb dC_isStatement_87 (by decide) (fun _ => ?_) (fun c87 => absurd (kb_0.mpr c46) c87)
                  refine lv_iconst (v := nI 1) hx hb dC_isStatement_98 (by decide) ?_
                  refine lv_goto (tgt := 103) hx hb dC_isStatement_99 (by decide) ?_
                  exact ret_z C0 rfl hP hS ⟨by simp [q_st, kb, c7, c16, c32, c39, c46, c60, c67, if_neg c74], rfl⟩ dC_isStatement_103
                · refine lv_iload hx hb dC_isStatement_77 (lv_at hl 4 rfl) ?_
                  refine then_i (run_S (n := 1) (As := [.int k]) (rest := []) C0 (qC_isFunction hn) gw204 gw202 gw203 gw1 (by decide +kernel) ⟨Nat.le_of_ble_eq_true rfl, Nat.le_of_ble_eq_true rfl⟩ rfl rfl ⟨Nat.le_of_ble_eq_true rfl, Nat.le_of_ble_eq_true rfl⟩ hP rfl hl.1 rfl (Nat.le_of_ble_eq_true rfl) dC_isStatement_79) hS hA (fun r54 f53 H locs hq79 hP hS => ?_)
                  obtain ⟨er54, ef53⟩ := hq79
                  subst er54
                  rw [ef53] at hP
                  exact ret_z C0 (b01 (kb_or _)).1 hP hS ⟨by simp [q_st, c7, c16, c32, c39, c46, c60, c67, if_pos c74], rfl⟩ dC_isStatement_82
              · have c67 : (q_us cc) = false := kb_0.mp c67
                refine lv_iconst (v := nI 0) hx hb dC_isStatement_70 (by decide) ?_
                exact ret_z C0 rfl hP hS ⟨by simp [q_st, kb, c7, c16, c32, c39, c46, c60, c67], rfl⟩ dC_isStatement_71
          · have c46 : (q_uB kd) = true := kb_t.mp c46
            refine lv_iload_n hx hb dC_isStatement_49 rfl (lv_at hl 2 rfl) ?_
            refine then_i (run_S (n := 1) (As := [.int b]) (rest := []) C0 (qC_isUsable hn) gw324 gw322 gw323 gw1 (by decide +kernel) ⟨Nat.le_of_ble_eq_true rfl, Nat.le_of_ble_eq_true rfl⟩ rfl rfl ⟨Nat.le_of_ble_eq_true rfl, Nat.le_of_ble_eq_true rfl⟩ hP rfl hl.1 rfl (Nat.le_of_ble_eq_true rfl) dC_isStatement_50) hS hA (fun r56 f55 H locs hq50 hP hS => ?_)
            obtain ⟨er56, ef55⟩ := hq50
            subst er56
            rw [ef55] at hP
            refine lv_if_eq (tgt := 70) hx hb dC_isStatement_53 (by decide) (fun c53 => ?_) (fun c53 => ?_)
            · have c53 : (q_us b) = false := kb_0.mp c53
              refine lv_iconst (v := nI 0) hx hb dC_isStatement_70 (by decide) ?_
              exact ret_z C0 rfl hP hS ⟨by simp [q_st, kb, c7, c16, c32, c39, c46, c53], rfl⟩ dC_isStatement_71
            · have c53 : (q_us b) = true := kb_t.mp c53
              refine lv_iload_n hx hb dC_isStatement_56 rfl (lv_at hl 0 rfl) ?_
              refine then_i (run_S (n := 1) (As := [.int kd]) (rest := []) C0 (qC_usesC hn) gw330 gw328 gw329 gw1 (by decide +kernel) ⟨Nat.le_of_ble_eq_true rfl, Nat.le_of_ble_eq_true rfl⟩ rfl rfl ⟨Nat.le_of_ble_eq_true rfl, Nat.le_of_ble_eq_true rfl⟩ hP rfl hl.1 rfl (Nat.le_of_ble_eq_true rfl) dC_isStatement_57) hS hA (fun r58 f57 H locs hq57 hP hS => ?_)
              obtain ⟨er58, ef57⟩ := hq57
              subst er58
              rw [ef57] at hP
              refine lv_if_eq (tgt := 72) hx hb dC_isStatement_60 (by decide) (fun c60 => ?_) (fun c60 => ?_)
              · have c60 : (q_uC kd) = false := kb_0.mp c60
                refine lv_iload_n hx hb dC_isStatement_72 rfl (lv_at hl 0 rfl) ?_
                refine lv_iconst (v := nI 1) hx hb dC_isStatement_73 (by decide) ?_
                refine lv_icmp_ne (tgt := 83) hx hb dC_isStatement_74 (by decide) (fun c74 => ?_) (fun c74 => ?_)
                · refine lv_iload_n hx hb dC_isStatement_83 rfl (lv_at hl 0 rfl) ?_
                  refine then_i (run_S (n := 1) (As := [.int kd]) (rest := []) C0 (qC_usesB hn) gw327 gw325 gw326 gw1 (by decide +kernel) ⟨Nat.le_of_ble_eq_true rfl, Nat.le_of_ble_eq_true rfl⟩ rfl rfl ⟨Nat.le_of_ble_eq_true rfl, Nat.le_of_ble_eq_true rfl⟩ hP rfl hl.1 rfl (Nat.le_of_ble_eq_true rfl) dC_isStatement_84) hS hA (fun r60 f59 H locs hq84 hP hS => ?_)
                  obtain ⟨er60, ef59⟩ := hq84
                  subst er60
                  rw [ef59] at hP
                  refine lv_if_eq (tgt := 98) hx hb dC_isStatement_87 (by decide) (fun c87 => absurd c87 (kb_t.mpr c46)) (fun _ => ?_)
                  refine lv_iload hx hb dC_isStatement_90 (lv_at hl 4 rfl) ?_
                  refine then_i (run_S (n := 1) (As := [.int k]) (rest := []) C0 (qC_isDifference hn) gw280 gw278 gw279 gw1 (by decide +kernel) ⟨Nat.le_of_ble_eq_true rfl, Nat.le_of_ble_eq_true rfl⟩ rfl rfl ⟨Nat.le_of_ble_eq_true rfl, Nat.le_of_ble_eq_true rfl⟩ hP rfl hl.1 rfl (Nat.le_of_ble_eq_true rfl) dC_isStatement_92) hS hA (fun r62 f61 H locs hq92 hP hS => ?_)
                  obtain ⟨er62, ef61⟩ := hq92
                  subst er62
                  rw [ef61] at hP
                  refine lv_if_eq (tgt := 102) hx hb dC_isStatement_95 (by decide) (fun c95 => ?_) (fun c95 => ?_)
                  · have c95 : (q_df k) = false := kb_0.mp c95
                    refine lv_iconst (v := nI 0) hx hb dC_isStatement_102 (by decide) ?_
                    exact ret_z C0 rfl hP hS ⟨by simp [q_st, kb, c7, c16, c32, c39, c46, c53, c60, if_neg c74, c95], rfl⟩ dC_isStatement_103
                  · have c95 : (q_df k) = true := kb_t.mp c95
                    refine lv_iconst (v := nI 1) hx hb dC_isStatement_98 (by decide) ?_
                    refine lv_goto (tgt := 103) hx hb dC_isStatement_99 (by decide) ?_
                    exact ret_z C0 rfl hP hS ⟨by simp [q_st, kb, c7, c16, c32, c39, c46, c53, c60, if_neg c74, c95], rfl⟩ dC_isStatement_103
                · refine lv_iload hx hb dC_isStatement_77 (lv_at hl 4 rfl) ?_
                  refine then_i (run_S (n := 1) (As := [.int k]) (rest := []) C0 (qC_isFunction hn) gw204 gw202 gw203 gw1 (by decide +kernel) ⟨Nat.le_of_ble_eq_true rfl, Nat.le_of_ble_eq_true rfl⟩ rfl rfl ⟨Nat.le_of_ble_eq_true rfl, Nat.le_of_ble_eq_true rfl⟩ hP rfl hl.1 rfl (Nat.le_of_ble_eq_true rfl) dC_isStatement_79) hS hA (fun r64 f63 H locs hq79 hP hS => ?_)
                  obtain ⟨er64, ef63⟩ := hq79
                  subst er64
                  rw [ef63] at hP
                  exact ret_z C0 (b01 (kb_or _)).1 hP hS ⟨by simp [q_st, c7, c16, c32, c39, c46, c53, c60, if_pos c74], rfl⟩ dC_isStatement_82
              · have c60 : (q_uC kd) = true := kb_t.mp c60
                refine lv_iload_n hx hb dC_isStatement_63 rfl (lv_at hl 3 rfl) ?_
                refine then_i (run_S (n := 1) (As := [.int cc]) (rest := []) C0 (qC_isUsable hn) gw324 gw322 gw323 gw1 (by decide +kernel) ⟨Nat.le_of_ble_eq_true rfl, Nat.le_of_ble_eq_true rfl⟩ rfl rfl ⟨Nat.le_of_ble_eq_true rfl, Nat.le_of_ble_eq_true rfl⟩ hP rfl hl.1 rfl (Nat.le_of_ble_eq_true rfl) dC_isStatement_64) hS hA (fun r66 f65 H locs hq64 hP hS => ?_)
                obtain ⟨er66, ef65⟩ := hq64
                subst er66
                rw [ef65] at hP
                refine lv_if_ne (tgt := 72) hx hb dC_isStatement_67 (by decide) (fun c67 => ?_) (fun c67 => ?_)
                · have c67 : (q_us cc) = true := kb_t.mp c67
                  refine lv_iload_n hx hb dC_isStatement_72 rfl (lv_at hl 0 rfl) ?_
                  refine lv_iconst (v := nI 1) hx hb dC_isStatement_73 (by decide) ?_
                  refine lv_icmp_ne (tgt := 83) hx hb dC_isStatement_74 (by decide) (fun c74 => ?_) (fun c74 => ?_)
                  · refine lv_iload_n hx hb dC_isStatement_83 rfl (lv_at hl 0 rfl) ?_
                    refine then_i (run_S (n := 1) (As := [.int kd]) (rest := []) C0 (qC_usesB hn) gw327 gw325 gw326 gw1 (by decide +kernel) ⟨Nat.le_of_ble_eq_true rfl, Nat.le_of_ble_eq_true rfl⟩ rfl rfl ⟨Nat.le_of_ble_eq_true rfl, Nat.le_of_ble_eq_true rfl⟩ hP rfl hl.1 rfl (Nat.le_of_ble_eq_true rfl) dC_isStatement_84) hS hA (fun r68 f67 H locs hq84 hP hS => ?_)
                    obtain ⟨er68, ef67⟩ := hq84
                    subst er68
                    rw [ef67] at hP
                    refine lv_if_eq (tgt := 98) hx hb dC_isStatement_87 (by decide) (fun c87 => absurd c87 (kb_t.mpr c46)) (fun _ => ?_)
                    refine lv_iload hx hb dC_isStatement_90 (lv_at hl 4 rfl) ?_
                    refine then_i (run_S (n := 1) (As := [.int k]) (rest := []) C0 (qC_isDifference hn) gw280 gw278 gw279 gw1 (by decide +kernel) ⟨Nat.le_of_ble_eq_true rfl, Nat.le_of_ble_eq_true rfl⟩ rfl rfl ⟨Nat.le_of_ble_eq_true rfl, Nat.le_of_ble_eq_true rfl⟩ hP rfl hl.1 rfl (Nat.le_of_ble_eq_true rfl) dC_isStatement_92) hS hA (fun r70 f69 H locs hq92 hP hS => ?_)
                    obtain ⟨er70, ef69⟩ := hq92
                    subst er70
                    rw [ef69] at hP
                    refine lv_if_eq (tgt := 102) hx hb dC_isStatement_95 (by decide) (fun c95 => ?_) (fun c95 => ?_)
                    · have c95 : (q_df k) = false := kb_0.mp c95
                      refine lv_iconst (v := nI 0) hx hb dC_isStatement_102 (by decide) ?_
                      exact ret_z C0 rfl hP hS ⟨by simp [q_st, kb, c7, c16, c32, c39, c46, c53, c60, c67, if_neg c74, c95], rfl⟩ dC_isStatement_103
                    · have c95 : (q_df k) = true := kb_t.mp c95
                      refine lv_iconst (v := nI 1) hx hb dC_isStatement_98 (by decide) ?_
                      refine lv_goto (tgt := 103) hx hb dC_isStatement_99 (by decide) ?_
                      exact ret_z C0 rfl hP hS ⟨by simp [q_st, kb, c7, c16, c32, c39, c46, c53, c60, c67, if_neg c74, c95], rfl⟩ dC_isStatement_103
                  · refine lv_iload hx hb dC_isStatement_77 (lv_at hl 4 rfl) ?_
                    refine then_i (run_S (n := 1) (As := [.int k]) (rest := []) C0 (qC_isFunction hn) gw204 gw202 gw203 gw1 (by decide +kernel) ⟨Nat.le_of_ble_eq_true rfl, Nat.le_of_ble_eq_true rfl⟩ rfl rfl ⟨Nat.le_of_ble_eq_true rfl, Nat.le_of_ble_eq_true rfl⟩ hP rfl hl.1 rfl (Nat.le_of_ble_eq_true rfl) dC_isStatement_79) hS hA (fun r72 f71 H locs hq79 hP hS => ?_)
                    obtain ⟨er72, ef71⟩ := hq79
                    subst er72
                    rw [ef71] at hP
                    exact ret_z C0 (b01 (kb_or _)).1 hP hS ⟨by simp [q_st, c7, c16, c32, c39, c46, c53, c60, c67, if_pos c74], rfl⟩ dC_isStatement_82
                · have c67 : (q_us cc) = false := kb_0.mp c67
                  refine lv_iconst (v := nI 0) hx hb dC_isStatement_70 (by decide) ?_
                  exact ret_z C0 rfl hP hS ⟨by simp [q_st, kb, c7, c16, c32, c39, c46, c53, c60, c67], rfl⟩ dC_isStatement_71
    · have c16 : (q_gA kd) = true := kb_t.mp c16
      refine lv_iload_n hx hb dC_isStatement_19 rfl (lv_at hl 1 rfl) ?_
      refine then_i (run_S (n := 1) (As := [.int a]) (rest := []) C0 (qC_isGivable hn) gw318 gw316 gw317 gw1 (by decide +kernel) ⟨Nat.le_of_ble_eq_true rfl, Nat.le_of_ble_eq_true rfl⟩ rfl rfl ⟨Nat.le_of_ble_eq_true rfl, Nat.le_of_ble_eq_true rfl⟩ hP rfl hl.1 rfl (Nat.le_of_ble_eq_true rfl) dC_isStatement_20) hS hA (fun r74 f73 H locs hq20 hP hS => ?_)
      obtain ⟨er74, ef73⟩ := hq20
      subst er74
      rw [ef73] at hP
      refine lv_if_ne (tgt := 28) hx hb dC_isStatement_23 (by decide) (fun c23 => ?_) (fun c23 => ?_)
      · have c23 : (q_gv a) = true := kb_t.mp c23
        refine lv_iload_n hx hb dC_isStatement_28 rfl (lv_at hl 0 rfl) ?_
        refine then_i (run_S (n := 1) (As := [.int kd]) (rest := []) C0 (qC_usesA hn) gw321 gw319 gw320 gw1 (by decide +kernel) ⟨Nat.le_of_ble_eq_true rfl, Nat.le_of_ble_eq_true rfl⟩ rfl rfl ⟨Nat.le_of_ble_eq_true rfl, Nat.le_of_ble_eq_true rfl⟩ hP rfl hl.1 rfl (Nat.le_of_ble_eq_true rfl) dC_isStatement_29) hS hA (fun r76 f75 H locs hq29 hP hS => ?_)
        obtain ⟨er76, ef75⟩ := hq29
        subst er76
        rw [ef75] at hP
        refine lv_if_eq (tgt := 42) hx hb dC_isStatement_32 (by decide) (fun c32 => ?_) (fun c32 => ?_)
        · have c32 : (q_uA kd) = false := kb_0.mp c32
          refine lv_iload_n hx hb dC_isStatement_42 rfl (lv_at hl 0 rfl) ?_
          refine then_i (run_S (n := 1) (As := [.int kd]) (rest := []) C0 (qC_usesB hn) gw327 gw325 gw326 gw1 (by decide +kernel) ⟨Nat.le_of_ble_eq_true rfl, Nat.le_of_ble_eq_true rfl⟩ rfl rfl ⟨Nat.le_of_ble_eq_true rfl, Nat.le_of_ble_eq_true rfl⟩ hP rfl hl.1 rfl (Nat.le_of_ble_eq_true rfl) dC_isStatement_43) hS hA (fun r78 f77 H locs hq43 hP hS => ?_)
          obtain ⟨er78, ef77⟩ := hq43
          subst er78
          rw [ef77] at hP
          refine lv_if_eq (tgt := 56) hx hb dC_isStatement_46 (by decide) (fun c46 => ?_) (fun c46 => ?_)
          · have c46 : (q_uB kd) = false := kb_0.mp c46
            refine lv_iload_n hx hb dC_isStatement_56 rfl (lv_at hl 0 rfl) ?_
            refine then_i (run_S (n := 1) (As := [.int kd]) (rest := []) C0 (qC_usesC hn) gw330 gw328 gw329 gw1 (by decide +kernel) ⟨Nat.le_of_ble_eq_true rfl, Nat.le_of_ble_eq_true rfl⟩ rfl rfl ⟨Nat.le_of_ble_eq_true rfl, Nat.le_of_ble_eq_true rfl⟩ hP rfl hl.1 rfl (Nat.le_of_ble_eq_true rfl) dC_isStatement_57) hS hA (fun r80 f79 H locs hq57 hP hS => ?_)
            obtain ⟨er80, ef79⟩ := hq57
            subst er80
            rw [ef79] at hP
            refine lv_if_eq (tgt := 72) hx hb dC_isStatement_60 (by decide) (fun c60 => ?_) (fun c60 => ?_)
            · have c60 : (q_uC kd) = false := kb_0.mp c60
              refine lv_iload_n hx hb dC_isStatement_72 rfl (lv_at hl 0 rfl) ?_
              refine lv_iconst (v := nI 1) hx hb dC_isStatement_73 (by decide) ?_
              refine lv_icmp_ne (tgt := 83) hx hb dC_isStatement_74 (by decide) (fun c74 => ?_) (fun c74 => ?_)
              · refine lv_iload_n hx hb dC_isStatement_83 rfl (lv_at hl 0 rfl) ?_
                refine then_i (run_S (n := 1) (As := [.int kd]) (rest := []) C0 (qC_usesB hn) gw327 gw325 gw326 gw1 (by decide +kernel) ⟨Nat.le_of_ble_eq_true rfl, Nat.le_of_ble_eq_true rfl⟩ rfl rfl ⟨Nat.le_of_ble_eq_true rfl, Nat.le_of_ble_eq_true rfl⟩ hP rfl hl.1 rfl (Nat.le_of_ble_eq_true rfl) dC_isStatement_84) hS hA (fun r82 f81 H locs hq84 hP hS => ?_)
                obtain ⟨er82, ef81⟩ := hq84
                subst er82
                rw [ef81] at hP
                refine lv_if_eq (tgt := 98) hx hb dC_isStatement_87 (by decide) (fun _ => ?_) (fun c87 => absurd (kb_0.mpr c46) c87)
                refine lv_iconst (v := nI 1) hx hb dC_isStatement_98 (by decide) ?_
                refine lv_goto (tgt := 103) hx hb dC_isStatement_99 (by decide) ?_
                exact ret_z C0 rfl hP hS ⟨by simp [q_st, kb, c7, c16, c23, c32, c46, c60, if_neg c74], rfl⟩ dC_isStatement_103
              · refine lv_iload hx hb dC_isStatement_77 (lv_at hl 4 rfl) ?_
                refine then_i (run_S (n := 1) (As := [.int k]) (rest := []) C0 (qC_isFunction hn) gw204 gw202 gw203 gw1 (by decide +kernel) ⟨Nat.le_of_ble_eq_true rfl, Nat.le_of_ble_eq_true rfl⟩ rfl rfl ⟨Nat.le_of_ble_eq_true rfl, Nat.le_of_ble_eq_true rfl⟩ hP rfl hl.1 rfl (Nat.le_of_ble_eq_true rfl) dC_isStatement_79) hS hA (fun r84 f83 H locs hq79 hP hS => ?_)
                obtain ⟨er84, ef83⟩ := hq79
                subst er84
                rw [ef83] at hP
                exact ret_z C0 (b01 (kb_or _)).1 hP hS ⟨by simp [q_st, c7, c16, c23, c32, c46, c60, if_pos c74], rfl⟩ dC_isStatement_82
            · have c60 : (q_uC kd) = true := kb_t.mp c60
              refine lv_iload_n hx hb dC_isStatement_63 rfl (lv_at hl 3 rfl) ?_
              refine then_i (run_S (n := 1) (As := [.int cc]) (rest := []) C0 (qC_isUsable hn) gw324 gw322 gw323 gw1 (by decide +kernel) ⟨Nat.le_of_ble_eq_true rfl, Nat.le_of_ble_eq_true rfl⟩ rfl rfl ⟨Nat.le_of_ble_eq_true rfl, Nat.le_of_ble_eq_true rfl⟩ hP rfl hl.1 rfl (Nat.le_of_ble_eq_true rfl) dC_isStatement_64) hS hA (fun r86 f85 H locs hq64 hP hS => ?_)
              obtain ⟨er86, ef85⟩ := hq64
              subst er86
              rw [ef85] at hP
              refine lv_if_ne (tgt := 72) hx hb dC_isStatement_67 (by decide) (fun c67 => ?_) (fun c67 => ?_)
              · have c67 : (q_us cc) = true := kb_t.mp c67
                refine lv_iload_n hx hb dC_isStatement_72 rfl (lv_at hl 0 rfl) ?_
                refine lv_iconst (v := nI 1) hx hb dC_isStatement_73 (by decide) ?_
                refine lv_icmp_ne (tgt := 83) hx hb dC_isStatement_74 (by decide) (fun c74 => ?_) (fun c74 => ?_)
                · refine lv_iload_n hx hb dC_isStatement_83 rfl (lv_at hl 0 rfl) ?_
                  refine then_i (run_S (n := 1) (As := [.int kd]) (rest := []) C0 (qC_usesB hn) gw327 gw325 gw326 gw1 (by decide +kernel) ⟨Nat.le_of_ble_eq_true rfl, Nat.le_of_ble_eq_true rfl⟩ rfl rfl ⟨Nat.le_of_ble_eq_true rfl, Nat.le_of_ble_eq_true rfl⟩ hP rfl hl.1 rfl (Nat.le_of_ble_eq_true rfl) dC_isStatement_84) hS hA (fun r88 f87 H locs hq84 hP hS => ?_)
                  obtain ⟨er88, ef87⟩ := hq84
                  subst er88
                  rw [ef87] at hP
                  refine lv_if_eq (tgt := 98) hx hb dC_isStatement_87 (by decide) (fun _ => ?_) (fun c87 => absurd (kb_0.mpr c46) c87)
                  refine lv_iconst (v := nI 1) hx hb dC_isStatement_98 (by decide) ?_
                  refine lv_goto (tgt := 103) hx hb dC_isStatement_99 (by decide) ?_
                  exact ret_z C0 rfl hP hS ⟨by simp [q_st, kb, c7, c16, c23, c32, c46, c60, c67, if_neg c74], rfl⟩ dC_isStatement_103
                · refine lv_iload hx hb dC_isStatement_77 (lv_at hl 4 rfl) ?_
                  refine then_i (run_S (n := 1) (As := [.int k]) (rest := []) C0 (qC_isFunction hn) gw204 gw202 gw203 gw1 (by decide +kernel) ⟨Nat.le_of_ble_eq_true rfl, Nat.le_of_ble_eq_true rfl⟩ rfl rfl ⟨Nat.le_of_ble_eq_true rfl, Nat.le_of_ble_eq_true rfl⟩ hP rfl hl.1 rfl (Nat.le_of_ble_eq_true rfl) dC_isStatement_79) hS hA (fun r90 f89 H locs hq79 hP hS => ?_)
                  obtain ⟨er90, ef89⟩ := hq79
                  subst er90
                  rw [ef89] at hP
                  exact ret_z C0 (b01 (kb_or _)).1 hP hS ⟨by simp [q_st, c7, c16, c23, c32, c46, c60, c67, if_pos c74], rfl⟩ dC_isStatement_82
              · have c67 : (q_us cc) = false := kb_0.mp c67
                refine lv_iconst (v := nI 0) hx hb dC_isStatement_70 (by decide) ?_
                exact ret_z C0 rfl hP hS ⟨by simp [q_st, kb, c7, c16, c23, c32, c46, c60, c67], rfl⟩ dC_isStatement_71
          · have c46 : (q_uB kd) = true := kb_t.mp c46
            refine lv_iload_n hx hb dC_isStatement_49 rfl (lv_at hl 2 rfl) ?_
            refine then_i (run_S (n := 1) (As := [.int b]) (rest := []) C0 (qC_isUsable hn) gw324 gw322 gw323 gw1 (by decide +kernel) ⟨Nat.le_of_ble_eq_true rfl, Nat.le_of_ble_eq_true rfl⟩ rfl rfl ⟨Nat.le_of_ble_eq_true rfl, Nat.le_of_ble_eq_true rfl⟩ hP rfl hl.1 rfl (Nat.le_of_ble_eq_true rfl) dC_isStatement_50) hS hA (fun r92 f91 H locs hq50 hP hS => ?_)
            obtain ⟨er92, ef91⟩ := hq50
            subst er92
            rw [ef91] at hP
            refine lv_if_eq (tgt := 70) hx hb dC_isStatement_53 (by decide) (fun c53 => ?_) (fun c53 => ?_)
            · have c53 : (q_us b) = false := kb_0.mp c53
              refine lv_iconst (v := nI 0) hx hb dC_isStatement_70 (by decide) ?_
              exact ret_z C0 rfl hP hS ⟨by simp [q_st, kb, c7, c16, c23, c32, c46, c53], rfl⟩ dC_isStatement_71
            · have c53 : (q_us b) = true := kb_t.mp c53
              refine lv_iload_n hx hb dC_isStatement_56 rfl (lv_at hl 0 rfl) ?_
              refine then_i (run_S (n := 1) (As := [.int kd]) (rest := []) C0 (qC_usesC hn) gw330 gw328 gw329 gw1 (by decide +kernel) ⟨Nat.le_of_ble_eq_true rfl, Nat.le_of_ble_eq_true rfl⟩ rfl rfl ⟨Nat.le_of_ble_eq_true rfl, Nat.le_of_ble_eq_true rfl⟩ hP rfl hl.1 rfl (Nat.le_of_ble_eq_true rfl) dC_isStatement_57) hS hA (fun r94 f93 H locs hq57 hP hS => ?_)
              obtain ⟨er94, ef93⟩ := hq57
              subst er94
              rw [ef93] at hP
              refine lv_if_eq (tgt := 72) hx hb dC_isStatement_60 (by decide) (fun c60 => ?_) (fun c60 => ?_)
              · have c60 : (q_uC kd) = false := kb_0.mp c60
                refine lv_iload_n hx hb dC_isStatement_72 rfl (lv_at hl 0 rfl) ?_
                refine lv_iconst (v := nI 1) hx hb dC_isStatement_73 (by decide) ?_
                refine lv_icmp_ne (tgt := 83) hx hb dC_isStatement_74 (by decide) (fun c74 => ?_) (fun c74 => ?_)
                · refine lv_iload_n hx hb dC_isStatement_83 rfl (lv_at hl 0 rfl) ?_
                  refine then_i (run_S (n := 1) (As := [.int kd]) (rest := []) C0 (qC_usesB hn) gw327 gw325 gw326 gw1 (by decide +kernel) ⟨Nat.le_of_ble_eq_true rfl, Nat.le_of_ble_eq_true rfl⟩ rfl rfl ⟨Nat.le_of_ble_eq_true rfl, Nat.le_of_ble_eq_true rfl⟩ hP rfl hl.1 rfl (Nat.le_of_ble_eq_true rfl) dC_isStatement_84) hS hA (fun r96 f95 H locs hq84 hP hS => ?_)
                  obtain ⟨er96, ef95⟩ := hq84
                  subst er96
                  rw [ef95] at hP
                  refine lv_if_eq (tgt := 98) hx hb dC_isStatement_87 (by decide) (fun c87 => absurd c87 (kb_t.mpr c46)) (fun _ => ?_)
                  refine lv_iload hx hb dC_isStatement_90 (lv_at hl 4 rfl) ?_
                  refine then_i (run_S (n := 1) (As := [.int k]) (rest := []) C0 (qC_isDifference hn) gw280 gw278 gw279 gw1 (by decide +kernel) ⟨Nat.le_of_ble_eq_true rfl, Nat.le_of_ble_eq_true rfl⟩ rfl rfl ⟨Nat.le_of_ble_eq_true rfl, Nat.le_of_ble_eq_true rfl⟩ hP rfl hl.1 rfl (Nat.le_of_ble_eq_true rfl) dC_isStatement_92) hS hA (fun r98 f97 H locs hq92 hP hS => ?_)
                  obtain ⟨er98, ef97⟩ := hq92
                  subst er98
                  rw [ef97] at hP
                  refine lv_if_eq (tgt := 102) hx hb dC_isStatement_95 (by decide) (fun c95 => ?_) (fun c95 => ?_)
                  · have c95 : (q_df k) = false := kb_0.mp c95
                    refine lv_iconst (v := nI 0) hx hb dC_isStatement_102 (by decide) ?_
                    exact ret_z C0 rfl hP hS ⟨by simp [q_st, kb, c7, c16, c23, c32, c46, c53, c60, if_neg c74, c95], rfl⟩ dC_isStatement_103
                  · have c95 : (q_df k) = true := kb_t.mp c95
                    refine lv_iconst (v := nI 1) hx hb dC_isStatement_98 (by decide) ?_
                    refine lv_goto (tgt := 103) hx hb dC_isStatement_99 (by decide) ?_
                    exact ret_z C0 rfl hP hS ⟨by simp [q_st, kb, c7, c16, c23, c32, c46, c53, c60, if_neg c74, c95], rfl⟩ dC_isStatement_103
                · refine lv_iload hx hb dC_isStatement_77 (lv_at hl 4 rfl) ?_
                  refine then_i (run_S (n := 1) (As := [.int k]) (rest := []) C0 (qC_isFunction hn) gw204 gw202 gw203 gw1 (by decide +kernel) ⟨Nat.le_of_ble_eq_true rfl, Nat.le_of_ble_eq_true rfl⟩ rfl rfl ⟨Nat.le_of_ble_eq_true rfl, Nat.le_of_ble_eq_true rfl⟩ hP rfl hl.1 rfl (Nat.le_of_ble_eq_true rfl) dC_isStatement_79) hS hA (fun r100 f99 H locs hq79 hP hS => ?_)
                  obtain ⟨er100, ef99⟩ := hq79
                  subst er100
                  rw [ef99] at hP
                  exact ret_z C0 (b01 (kb_or _)).1 hP hS ⟨by simp [q_st, c7, c16, c23, c32, c46, c53, c60, if_pos c74], rfl⟩ dC_isStatement_82
              · have c60 : (q_uC kd) = true := kb_t.mp c60
                refine lv_iload_n hx hb dC_isStatement_63 rfl (lv_at hl 3 rfl) ?_
                refine then_i (run_S (n := 1) (As := [.int cc]) (rest := []) C0 (qC_isUsable hn) gw324 gw322 gw323 gw1 (by decide +kernel) ⟨Nat.le_of_ble_eq_true rfl, Nat.le_of_ble_eq_true rfl⟩ rfl rfl ⟨Nat.le_of_ble_eq_true rfl, Nat.le_of_ble_eq_true rfl⟩ hP rfl hl.1 rfl (Nat.le_of_ble_eq_true rfl) dC_isStatement_64) hS hA (fun r102 f101 H locs hq64 hP hS => ?_)
                obtain ⟨er102, ef101⟩ := hq64
                subst er102
                rw [ef101] at hP
                refine lv_if_ne (tgt := 72) hx hb dC_isStatement_67 (by decide) (fun c67 => ?_) (fun c67 => ?_)
                · have c67 : (q_us cc) = true := kb_t.mp c67
                  refine lv_iload_n hx hb dC_isStatement_72 rfl (lv_at hl 0 rfl) ?_
                  refine lv_iconst (v := nI 1) hx hb dC_isStatement_73 (by decide) ?_
                  refine lv_icmp_ne (tgt := 83) hx hb dC_isStatement_74 (by decide) (fun c74 => ?_) (fun c74 => ?_)
                  · refine lv_iload_n hx hb dC_isStatement_83 rfl (lv_at hl 0 rfl) ?_
                    refine then_i (run_S (n := 1) (As := [.int kd]) (rest := []) C0 (qC_usesB hn) gw327 gw325 gw326 gw1 (by decide +kernel) ⟨Nat.le_of_ble_eq_true rfl, Nat.le_of_ble_eq_true rfl⟩ rfl rfl ⟨Nat.le_of_ble_eq_true rfl, Nat.le_of_ble_eq_true rfl⟩ hP rfl hl.1 rfl (Nat.le_of_ble_eq_true rfl) dC_isStatement_84) hS hA (fun r104 f103 H locs hq84 hP hS => ?_)
                    obtain ⟨er104, ef103⟩ := hq84
                    subst er104
                    rw [ef103] at hP
                    refine lv_if_eq (tgt := 98) hx hb dC_isStatement_87 (by decide) (fun c87 => absurd c87 (kb_t.mpr c46)) (fun _ => ?_)
                    refine lv_iload hx hb dC_isStatement_90 (lv_at hl 4 rfl) ?_
                    refine then_i (run_S (n := 1) (As := [.int k]) (rest := []) C0 (qC_isDifference hn) gw280 gw278 gw279 gw1 (by decide +kernel) ⟨Nat.le_of_ble_eq_true rfl, Nat.le_of_ble_eq_true rfl⟩ rfl rfl ⟨Nat.le_of_ble_eq_true rfl, Nat.le_of_ble_eq_true rfl⟩ hP rfl hl.1 rfl (Nat.le_of_ble_eq_true rfl) dC_isStatement_92) hS hA (fun r106 f105 H locs hq92 hP hS => ?_)
                    obtain ⟨er106, ef105⟩ := hq92
                    subst er106
                    rw [ef105] at hP
                    refine lv_if_eq (tgt := 102) hx hb dC_isStatement_95 (by decide) (fun c95 => ?_) (fun c95 => ?_)
                    · have c95 : (q_df k) = false := kb_0.mp c95
                      refine lv_iconst (v := nI 0) hx hb dC_isStatement_102 (by decide) ?_
                      exact ret_z C0 rfl hP hS ⟨by simp [q_st, kb, c7, c16, c23, c32, c46, c53, c60, c67, if_neg c74, c95], rfl⟩ dC_isStatement_103
                    · have c95 : (q_df k) = true := kb_t.mp c95
                      refine lv_iconst (v := nI 1) hx hb dC_isStatement_98 (by decide) ?_
                      refine lv_goto (tgt := 103) hx hb dC_isStatement_99 (by decide) ?_
                      exact ret_z C0 rfl hP hS ⟨by simp [q_st, kb, c7, c16, c23, c32, c46, c53, c60, c67, if_neg c74, c95], rfl⟩ dC_isStatement_103
                  · refine lv_iload hx hb dC_isStatement_77 (lv_at hl 4 rfl) ?_
                    refine then_i (run_S (n := 1) (As := [.int k]) (rest := []) C0 (qC_isFunction hn) gw204 gw202 gw203 gw1 (by decide +kernel) ⟨Nat.le_of_ble_eq_true rfl, Nat.le_of_ble_eq_true rfl⟩ rfl rfl ⟨Nat.le_of_ble_eq_true rfl, Nat.le_of_ble_eq_true rfl⟩ hP rfl hl.1 rfl (Nat.le_of_ble_eq_true rfl) dC_isStatement_79) hS hA (fun r108 f107 H locs hq79 hP hS => ?_)
                    obtain ⟨er108, ef107⟩ := hq79
                    subst er108
                    rw [ef107] at hP
                    exact ret_z C0 (b01 (kb_or _)).1 hP hS ⟨by simp [q_st, c7, c16, c23, c32, c46, c53, c60, c67, if_pos c74], rfl⟩ dC_isStatement_82
                · have c67 : (q_us cc) = false := kb_0.mp c67
                  refine lv_iconst (v := nI 0) hx hb dC_isStatement_70 (by decide) ?_
                  exact ret_z C0 rfl hP hS ⟨by simp [q_st, kb, c7, c16, c23, c32, c46, c53, c60, c67], rfl⟩ dC_isStatement_71
        · have c32 : (q_uA kd) = true := kb_t.mp c32
          refine lv_iload_n hx hb dC_isStatement_35 rfl (lv_at hl 1 rfl) ?_
          refine then_i (run_S (n := 1) (As := [.int a]) (rest := []) C0 (qC_isUsable hn) gw324 gw322 gw323 gw1 (by decide +kernel) ⟨Nat.le_of_ble_eq_true rfl, Nat.le_of_ble_eq_true rfl⟩ rfl rfl ⟨Nat.le_of_ble_eq_true rfl, Nat.le_of_ble_eq_true rfl⟩ hP rfl hl.1 rfl (Nat.le_of_ble_eq_true rfl) dC_isStatement_36) hS hA (fun r110 f109 H locs hq36 hP hS => ?_)
          obtain ⟨er110, ef109⟩ := hq36
          subst er110
          rw [ef109] at hP
          refine lv_if_eq (tgt := 70) hx hb dC_isStatement_39 (by decide) (fun c39 => ?_) (fun c39 => ?_)
          · have c39 : (q_us a) = false := kb_0.mp c39
            refine lv_iconst (v := nI 0) hx hb dC_isStatement_70 (by decide) ?_
            exact ret_z C0 rfl hP hS ⟨by simp [q_st, kb, c7, c16, c23, c32, c39], rfl⟩ dC_isStatement_71
          · have c39 : (q_us a) = true := kb_t.mp c39
            refine lv_iload_n hx hb dC_isStatement_42 rfl (lv_at hl 0 rfl) ?_
            refine then_i (run_S (n := 1) (As := [.int kd]) (rest := []) C0 (qC_usesB hn) gw327 gw325 gw326 gw1 (by decide +kernel) ⟨Nat.le_of_ble_eq_true rfl, Nat.le_of_ble_eq_true rfl⟩ rfl rfl ⟨Nat.le_of_ble_eq_true rfl, Nat.le_of_ble_eq_true rfl⟩ hP rfl hl.1 rfl (Nat.le_of_ble_eq_true rfl) dC_isStatement_43) hS hA (fun r112 f111 H locs hq43 hP hS => ?_)
            obtain ⟨er112, ef111⟩ := hq43
            subst er112
            rw [ef111] at hP
            refine lv_if_eq (tgt := 56) hx hb dC_isStatement_46 (by decide) (fun c46 => ?_) (fun c46 => ?_)
            · have c46 : (q_uB kd) = false := kb_0.mp c46
              refine lv_iload_n hx hb dC_isStatement_56 rfl (lv_at hl 0 rfl) ?_
              refine then_i (run_S (n := 1) (As := [.int kd]) (rest := []) C0 (qC_usesC hn) gw330 gw328 gw329 gw1 (by decide +kernel) ⟨Nat.le_of_ble_eq_true rfl, Nat.le_of_ble_eq_true rfl⟩ rfl rfl ⟨Nat.le_of_ble_eq_true rfl, Nat.le_of_ble_eq_true rfl⟩ hP rfl hl.1 rfl (Nat.le_of_ble_eq_true rfl) dC_isStatement_57) hS hA (fun r114 f113 H locs hq57 hP hS => ?_)
              obtain ⟨er114, ef113⟩ := hq57
              subst er114
              rw [ef113] at hP
              refine lv_if_eq (tgt := 72) hx hb dC_isStatement_60 (by decide) (fun c60 => ?_) (fun c60 => ?_)
              · have c60 : (q_uC kd) = false := kb_0.mp c60
                refine lv_iload_n hx hb dC_isStatement_72 rfl (lv_at hl 0 rfl) ?_
                refine lv_iconst (v := nI 1) hx hb dC_isStatement_73 (by decide) ?_
                refine lv_icmp_ne (tgt := 83) hx hb dC_isStatement_74 (by decide) (fun c74 => ?_) (fun c74 => ?_)
                · refine lv_iload_n hx hb dC_isStatement_83 rfl (lv_at hl 0 rfl) ?_
                  refine then_i (run_S (n := 1) (As := [.int kd]) (rest := []) C0 (qC_usesB hn) gw327 gw325 gw326 gw1 (by decide +kernel) ⟨Nat.le_of_ble_eq_true rfl, Nat.le_of_ble_eq_true rfl⟩ rfl rfl ⟨Nat.le_of_ble_eq_true rfl, Nat.le_of_ble_eq_true rfl⟩ hP rfl hl.1 rfl (Nat.le_of_ble_eq_true rfl) dC_isStatement_84) hS hA (fun r116 f115 H locs hq84 hP hS => ?_)
                  obtain ⟨er116, ef115⟩ := hq84
                  subst er116
                  rw [ef115] at hP
                  refine lv_if_eq (tgt := 98) hx hb dC_isStatement_87 (by decide) (fun _ => ?_) (fun c87 => absurd (kb_0.mpr c46) c87)
                  refine lv_iconst (v := nI 1) hx hb dC_isStatement_98 (by decide) ?_
                  refine lv_goto (tgt := 103) hx hb dC_isStatement_99 (by decide) ?_
                  exact ret_z C0 rfl hP hS ⟨by simp [q_st, kb, c7, c16, c23, c32, c39, c46, c60, if_neg c74], rfl⟩ dC_isStatement_103
                · refine lv_iload hx hb dC_isStatement_77 (lv_at hl 4 rfl) ?_
                  refine then_i (run_S (n := 1) (As := [.int k]) (rest := []) C0 (qC_isFunction hn) gw204 gw202 gw203 gw1 (by decide +kernel) ⟨Nat.le_of_ble_eq_true rfl, Nat.le_of_ble_eq_true rfl⟩ rfl rfl ⟨Nat.le_of_ble_eq_true rfl, Nat.le_of_ble_eq_true rfl⟩ hP rfl hl.1 rfl (Nat.le_of_ble_eq_true rfl) dC_isStatement_79) hS hA (fun r118 f117 H locs hq79 hP hS => ?_)
                  obtain ⟨er118, ef117⟩ := hq79
                  subst er118
                  rw [ef117] at hP
                  exact ret_z C0 (b01 (kb_or _)).1 hP hS ⟨by simp [q_st, c7, c16, c23, c32, c39, c46, c60, if_pos c74], rfl⟩ dC_isStatement_82
              · have c60 : (q_uC kd) = true := kb_t.mp c60
                refine lv_iload_n hx hb dC_isStatement_63 rfl (lv_at hl 3 rfl) ?_
                refine then_i (run_S (n := 1) (As := [.int cc]) (rest := []) C0 (qC_isUsable hn) gw324 gw322 gw323 gw1 (by decide +kernel) ⟨Nat.le_of_ble_eq_true rfl, Nat.le_of_ble_eq_true rfl⟩ rfl rfl ⟨Nat.le_of_ble_eq_true rfl, Nat.le_of_ble_eq_true rfl⟩ hP rfl hl.1 rfl (Nat.le_of_ble_eq_true rfl) dC_isStatement_64) hS hA (fun r120 f119 H locs hq64 hP hS => ?_)
                obtain ⟨er120, ef119⟩ := hq64
                subst er120
                rw [ef119] at hP
                refine lv_if_ne (tgt := 72) hx hb dC_isStatement_67 (by decide) (fun c67 => ?_) (fun c67 => ?_)
                · have c67 : (q_us cc) = true := kb_t.mp c67
                  refine lv_iload_n hx hb dC_isStatement_72 rfl (lv_at hl 0 rfl) ?_
                  refine lv_iconst (v := nI 1) hx hb dC_isStatement_73 (by decide) ?_
                  refine lv_icmp_ne (tgt := 83) hx hb dC_isStatement_74 (by decide) (fun c74 => ?_) (fun c74 => ?_)
                  · refine lv_iload_n hx hb dC_isStatement_83 rfl (lv_at hl 0 rfl) ?_
                    refine then_i (run_S (n := 1) (As := [.int kd]) (rest := []) C0 (qC_usesB hn) gw327 gw325 gw326 gw1 (by decide +kernel) ⟨Nat.le_of_ble_eq_true rfl, Nat.le_of_ble_eq_true rfl⟩ rfl rfl ⟨Nat.le_of_ble_eq_true rfl, Nat.le_of_ble_eq_true rfl⟩ hP rfl hl.1 rfl (Nat.le_of_ble_eq_true rfl) dC_isStatement_84) hS hA (fun r122 f121 H locs hq84 hP hS => ?_)
                    obtain ⟨er122, ef121⟩ := hq84
                    subst er122
                    rw [ef121] at hP
                    refine lv_if_eq (tgt := 98) hx hb dC_isStatement_87 (by decide) (fun _ => ?_) (fun c87 => absurd (kb_0.mpr c46) c87)
                    refine lv_iconst (v := nI 1) hx hb dC_isStatement_98 (by decide) ?_
                    refine lv_goto (tgt := 103) hx hb dC_isStatement_99 (by decide) ?_
                    exact ret_z C0 rfl hP hS ⟨by simp [q_st, kb, c7, c16, c23, c32, c39, c46, c60, c67, if_neg c74], rfl⟩ dC_isStatement_103
                  · refine lv_iload hx hb dC_isStatement_77 (lv_at hl 4 rfl) ?_
                    refine then_i (run_S (n := 1) (As := [.int k]) (rest := []) C0 (qC_isFunction hn) gw204 gw202 gw203 gw1 (by decide +kernel) ⟨Nat.le_of_ble_eq_true rfl, Nat.le_of_ble_eq_true rfl⟩ rfl rfl ⟨Nat.le_of_ble_eq_true rfl, Nat.le_of_ble_eq_true rfl⟩ hP rfl hl.1 rfl (Nat.le_of_ble_eq_true rfl) dC_isStatement_79) hS hA (fun r124 f123 H locs hq79 hP hS => ?_)
                    obtain ⟨er124, ef123⟩ := hq79
                    subst er124
                    rw [ef123] at hP
                    exact ret_z C0 (b01 (kb_or _)).1 hP hS ⟨by simp [q_st, c7, c16, c23, c32, c39, c46, c60, c67, if_pos c74], rfl⟩ dC_isStatement_82
                · have c67 : (q_us cc) = false := kb_0.mp c67
                  refine lv_iconst (v := nI 0) hx hb dC_isStatement_70 (by decide) ?_
                  exact ret_z C0 rfl hP hS ⟨by simp [q_st, kb, c7, c16, c23, c32, c39, c46, c60, c67], rfl⟩ dC_isStatement_71
            · have c46 : (q_uB kd) = true := kb_t.mp c46
              refine lv_iload_n hx hb dC_isStatement_49 rfl (lv_at hl 2 rfl) ?_
              refine then_i (run_S (n := 1) (As := [.int b]) (rest := []) C0 (qC_isUsable hn) gw324 gw322 gw323 gw1 (by decide +kernel) ⟨Nat.le_of_ble_eq_true rfl, Nat.le_of_ble_eq_true rfl⟩ rfl rfl ⟨Nat.le_of_ble_eq_true rfl, Nat.le_of_ble_eq_true rfl⟩ hP rfl hl.1 rfl (Nat.le_of_ble_eq_true rfl) dC_isStatement_50) hS hA (fun r126 f125 H locs hq50 hP hS => ?_)
              obtain ⟨er126, ef125⟩ := hq50
              subst er126
              rw [ef125] at hP
              refine lv_if_eq (tgt := 70) hx hb dC_isStatement_53 (by decide) (fun c53 => ?_) (fun c53 => ?_)
              · have c53 : (q_us b) = false := kb_0.mp c53
                refine lv_iconst (v := nI 0) hx hb dC_isStatement_70 (by decide) ?_
                exact ret_z C0 rfl hP hS ⟨by simp [q_st, kb, c7, c16, c23, c32, c39, c46, c53], rfl⟩ dC_isStatement_71
              · have c53 : (q_us b) = true := kb_t.mp c53
                refine lv_iload_n hx hb dC_isStatement_56 rfl (lv_at hl 0 rfl) ?_
                refine then_i (run_S (n := 1) (As := [.int kd]) (rest := []) C0 (qC_usesC hn) gw330 gw328 gw329 gw1 (by decide +kernel) ⟨Nat.le_of_ble_eq_true rfl, Nat.le_of_ble_eq_true rfl⟩ rfl rfl ⟨Nat.le_of_ble_eq_true rfl, Nat.le_of_ble_eq_true rfl⟩ hP rfl hl.1 rfl (Nat.le_of_ble_eq_true rfl) dC_isStatement_57) hS hA (fun r128 f127 H locs hq57 hP hS => ?_)
                obtain ⟨er128, ef127⟩ := hq57
                subst er128
                rw [ef127] at hP
                refine lv_if_eq (tgt := 72) hx hb dC_isStatement_60 (by decide) (fun c60 => ?_) (fun c60 => ?_)
                · have c60 : (q_uC kd) = false := kb_0.mp c60
                  refine lv_iload_n hx hb dC_isStatement_72 rfl (lv_at hl 0 rfl) ?_
                  refine lv_iconst (v := nI 1) hx hb dC_isStatement_73 (by decide) ?_
                  refine lv_icmp_ne (tgt := 83) hx hb dC_isStatement_74 (by decide) (fun c74 => ?_) (fun c74 => ?_)
                  · refine lv_iload_n hx hb dC_isStatement_83 rfl (lv_at hl 0 rfl) ?_
                    refine then_i (run_S (n := 1) (As := [.int kd]) (rest := []) C0 (qC_usesB hn) gw327 gw325 gw326 gw1 (by decide +kernel) ⟨Nat.le_of_ble_eq_true rfl, Nat.le_of_ble_eq_true rfl⟩ rfl rfl ⟨Nat.le_of_ble_eq_true rfl, Nat.le_of_ble_eq_true rfl⟩ hP rfl hl.1 rfl (Nat.le_of_ble_eq_true rfl) dC_isStatement_84) hS hA (fun r130 f129 H locs hq84 hP hS => ?_)
                    obtain ⟨er130, ef129⟩ := hq84
                    subst er130
                    rw [ef129] at hP
                    refine lv_if_eq (tgt := 98) hx hb dC_isStatement_87 (by decide) (fun c87 => absurd c87 (kb_t.mpr c46)) (fun _ => ?_)
                    refine lv_iload hx hb dC_isStatement_90 (lv_at hl 4 rfl) ?_
                    refine then_i (run_S (n := 1) (As := [.int k]) (rest := []) C0 (qC_isDifference hn) gw280 gw278 gw279 gw1 (by decide +kernel) ⟨Nat.le_of_ble_eq_true rfl, Nat.le_of_ble_eq_true rfl⟩ rfl rfl ⟨Nat.le_of_ble_eq_true rfl, Nat.le_of_ble_eq_true rfl⟩ hP rfl hl.1 rfl (Nat.le_of_ble_eq_true rfl) dC_isStatement_92) hS hA (fun r132 f131 H locs hq92 hP hS => ?_)
                    obtain ⟨er132, ef131⟩ := hq92
                    subst er132
                    rw [ef131] at hP
                    refine lv_if_eq (tgt := 102) hx hb dC_isStatement_95 (by decide) (fun c95 => ?_) (fun c95 => ?_)
                    · have c95 : (q_df k) = false := kb_0.mp c95
                      refine lv_iconst (v := nI 0) hx hb dC_isStatement_102 (by decide) ?_
                      exact ret_z C0 rfl hP hS ⟨by simp [q_st, kb, c7, c16, c23, c32, c39, c46, c53, c60, if_neg c74, c95], rfl⟩ dC_isStatement_103
                    · have c95 : (q_df k) = true := kb_t.mp c95
                      refine lv_iconst (v := nI 1) hx hb dC_isStatement_98 (by decide) ?_
                      refine lv_goto (tgt := 103) hx hb dC_isStatement_99 (by decide) ?_
                      exact ret_z C0 rfl hP hS ⟨by simp [q_st, kb, c7, c16, c23, c32, c39, c46, c53, c60, if_neg c74, c95], rfl⟩ dC_isStatement_103
                  · refine lv_iload hx hb dC_isStatement_77 (lv_at hl 4 rfl) ?_
                    refine then_i (run_S (n := 1) (As := [.int k]) (rest := []) C0 (qC_isFunction hn) gw204 gw202 gw203 gw1 (by decide +kernel) ⟨Nat.le_of_ble_eq_true rfl, Nat.le_of_ble_eq_true rfl⟩ rfl rfl ⟨Nat.le_of_ble_eq_true rfl, Nat.le_of_ble_eq_true rfl⟩ hP rfl hl.1 rfl (Nat.le_of_ble_eq_true rfl) dC_isStatement_79) hS hA (fun r134 f133 H locs hq79 hP hS => ?_)
                    obtain ⟨er134, ef133⟩ := hq79
                    subst er134
                    rw [ef133] at hP
                    exact ret_z C0 (b01 (kb_or _)).1 hP hS ⟨by simp [q_st, c7, c16, c23, c32, c39, c46, c53, c60, if_pos c74], rfl⟩ dC_isStatement_82
                · have c60 : (q_uC kd) = true := kb_t.mp c60
                  refine lv_iload_n hx hb dC_isStatement_63 rfl (lv_at hl 3 rfl) ?_
                  refine then_i (run_S (n := 1) (As := [.int cc]) (rest := []) C0 (qC_isUsable hn) gw324 gw322 gw323 gw1 (by decide +kernel) ⟨Nat.le_of_ble_eq_true rfl, Nat.le_of_ble_eq_true rfl⟩ rfl rfl ⟨Nat.le_of_ble_eq_true rfl, Nat.le_of_ble_eq_true rfl⟩ hP rfl hl.1 rfl (Nat.le_of_ble_eq_true rfl) dC_isStatement_64) hS hA (fun r136 f135 H locs hq64 hP hS => ?_)
                  obtain ⟨er136, ef135⟩ := hq64
                  subst er136
                  rw [ef135] at hP
                  refine lv_if_ne (tgt := 72) hx hb dC_isStatement_67 (by decide) (fun c67 => ?_) (fun c67 => ?_)
                  · have c67 : (q_us cc) = true := kb_t.mp c67
                    refine lv_iload_n hx hb dC_isStatement_72 rfl (lv_at hl 0 rfl) ?_
                    refine lv_iconst (v := nI 1) hx hb dC_isStatement_73 (by decide) ?_
                    refine lv_icmp_ne (tgt := 83) hx hb dC_isStatement_74 (by decide) (fun c74 => ?_) (fun c74 => ?_)
                    · refine lv_iload_n hx hb dC_isStatement_83 rfl (lv_at hl 0 rfl) ?_
                      refine then_i (run_S (n := 1) (As := [.int kd]) (rest := []) C0 (qC_usesB hn) gw327 gw325 gw326 gw1 (by decide +kernel) ⟨Nat.le_of_ble_eq_true rfl, Nat.le_of_ble_eq_true rfl⟩ rfl rfl ⟨Nat.le_of_ble_eq_true rfl, Nat.le_of_ble_eq_true rfl⟩ hP rfl hl.1 rfl (Nat.le_of_ble_eq_true rfl) dC_isStatement_84) hS hA (fun r138 f137 H locs hq84 hP hS => ?_)
                      obtain ⟨er138, ef137⟩ := hq84
                      subst er138
                      rw [ef137] at hP
                      refine lv_if_eq (tgt := 98) hx hb dC_isStatement_87 (by decide) (fun c87 => absurd c87 (kb_t.mpr c46)) (fun _ => ?_)
                      refine lv_iload hx hb dC_isStatement_90 (lv_at hl 4 rfl) ?_
                      refine then_i (run_S (n := 1) (As := [.int k]) (rest := []) C0 (qC_isDifference hn) gw280 gw278 gw279 gw1 (by decide +kernel) ⟨Nat.le_of_ble_eq_true rfl, Nat.le_of_ble_eq_true rfl⟩ rfl rfl ⟨Nat.le_of_ble_eq_true rfl, Nat.le_of_ble_eq_true rfl⟩ hP rfl hl.1 rfl (Nat.le_of_ble_eq_true rfl) dC_isStatement_92) hS hA (fun r140 f139 H locs hq92 hP hS => ?_)
                      obtain ⟨er140, ef139⟩ := hq92
                      subst er140
                      rw [ef139] at hP
                      refine lv_if_eq (tgt := 102) hx hb dC_isStatement_95 (by decide) (fun c95 => ?_) (fun c95 => ?_)
                      · have c95 : (q_df k) = false := kb_0.mp c95
                        refine lv_iconst (v := nI 0) hx hb dC_isStatement_102 (by decide) ?_
                        exact ret_z C0 rfl hP hS ⟨by simp [q_st, kb, c7, c16, c23, c32, c39, c46, c53, c60, c67, if_neg c74, c95], rfl⟩ dC_isStatement_103
                      · have c95 : (q_df k) = true := kb_t.mp c95
                        refine lv_iconst (v := nI 1) hx hb dC_isStatement_98 (by decide) ?_
                        refine lv_goto (tgt := 103) hx hb dC_isStatement_99 (by decide) ?_
                        exact ret_z C0 rfl hP hS ⟨by simp [q_st, kb, c7, c16, c23, c32, c39, c46, c53, c60, c67, if_neg c74, c95], rfl⟩ dC_isStatement_103
                    · refine lv_iload hx hb dC_isStatement_77 (lv_at hl 4 rfl) ?_
                      refine then_i (run_S (n := 1) (As := [.int k]) (rest := []) C0 (qC_isFunction hn) gw204 gw202 gw203 gw1 (by decide +kernel) ⟨Nat.le_of_ble_eq_true rfl, Nat.le_of_ble_eq_true rfl⟩ rfl rfl ⟨Nat.le_of_ble_eq_true rfl, Nat.le_of_ble_eq_true rfl⟩ hP rfl hl.1 rfl (Nat.le_of_ble_eq_true rfl) dC_isStatement_79) hS hA (fun r142 f141 H locs hq79 hP hS => ?_)
                      obtain ⟨er142, ef141⟩ := hq79
                      subst er142
                      rw [ef141] at hP
                      exact ret_z C0 (b01 (kb_or _)).1 hP hS ⟨by simp [q_st, c7, c16, c23, c32, c39, c46, c53, c60, c67, if_pos c74], rfl⟩ dC_isStatement_82
                  · have c67 : (q_us cc) = false := kb_0.mp c67
                    refine lv_iconst (v := nI 0) hx hb dC_isStatement_70 (by decide) ?_
                    exact ret_z C0 rfl hP hS ⟨by simp [q_st, kb, c7, c16, c23, c32, c39, c46, c53, c60, c67], rfl⟩ dC_isStatement_71
      · have c23 : (q_gv a) = false := kb_0.mp c23
        refine lv_iconst (v := nI 0) hx hb dC_isStatement_26 (by decide) ?_
        exact ret_z C0 rfl hP hS ⟨by simp [q_st, kb, c7, c16, c23], rfl⟩ dC_isStatement_27
  · have c7 : (q_in kd (nI 0) (nI 7)) = false := kb_0.mp c7
    refine lv_iconst (v := nI 0) hx hb dC_isStatement_10 (by decide) ?_
    exact ret_z C0 rfl hP hS ⟨by simp [q_st, kb, c7], rfl⟩ dC_isStatement_11
