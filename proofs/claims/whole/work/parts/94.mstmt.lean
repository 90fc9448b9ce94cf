/-! LiquidCheckerModel.statement. -/
def anyB (p : Nat → Bool) : Nat → Nat → Bool
  | 0, _ => false
  | n + 1, j => p j || anyB p n (j + 1)
def m_gk (k : Int32) : Bool := decide (k < nI 2) || decide (k = nI 7)
def m_gP (σ : Sg) (i : Nat) (x : Int32) (j : Nat) : Bool := m_gk (sk σ (16 * i + j)) && decide (sa σ (16 * i + j) = x)
def m_gvn (σ : Sg) (i : Nat) (x : Int32) : Bool := decide (x < nI 4) || anyB (m_gP σ i x) (sz σ i) 0
def m_hw (σ : Sg) (i : Nat) (kd a b c : Int32) : Bool := (!q_uA kd || m_gvn σ i a) && (!q_uB kd || m_gvn σ i b) && (!q_uC kd || m_gvn σ i c)
def m_op (oi : Nat) (ea kd : Int32) : Bool := (!decide (kd = nI 3) && !decide (kd = nI 4)) || (!decide (nI oi = 0) && (decide (kd = nI 4) || decide (ea < 0)))
def m_Gs (G : Nat → Nat → Int32) (i n oi ni tm q : Nat) (a b c k : Int32) : Nat → Nat → Int32 := fun j =>
  if j = 9 then upd (G 9) i (nI (n + 1))
  else if j = 15 then (if q = 2 then upd (G 15) i (nI (oi + 1)) else if q = 4 then upd (G 15) i (nI (oi - 1)) else G 15)
  else if j = 14 then (if q = 2 then upd (G 14) (6 * i + oi) (nI (16 * i + n)) else G 14)
  else if j = 13 then (if q = 2 then upd (G 13) i (nI (ni + 1)) else G 13)
  else if j = 10 then (if q = 2 then upd (G 10) (16 * i + n) (nI ni) else G 10)
  else if j = 12 then (if q = 4 then upd (upd (G 12) (16 * i + n) (-1)) tm (nI n) else upd (G 12) (16 * i + n) (-1))
  else if j = 11 then (if q = 3 then upd (upd (G 11) (16 * i + n) (-1)) tm (nI n) else upd (G 11) (16 * i + n) (-1))
  else if j = 8 then upd (G 8) (16 * i + n) k
  else if j = 7 then upd (G 7) (16 * i + n) c
  else if j = 6 then upd (G 6) (16 * i + n) b
  else if j = 5 then upd (G 5) (16 * i + n) a
  else if j = 4 then upd (G 4) (16 * i + n) (nI q)
  else G j
theorem q_st_0 {a b c k : Int32} : q_st (nI 0) a b c k = (q_gv a && q_us b && q_df k) := by
  unfold q_st
  rw [show q_in (nI 0) (nI 0) (nI 7) = true by decide +kernel, show q_gA (nI 0) = true by decide +kernel, show q_uA (nI 0) = false by decide +kernel, show q_uB (nI 0) = true by decide +kernel, show q_uC (nI 0) = false by decide +kernel, if_neg (show ¬ nI 0 = nI 1 by decide +kernel)]
  generalize q_gv a = b1
  generalize q_us a = b2
  generalize q_us b = b3
  generalize q_us c = b4
  generalize q_df k = b5
  generalize q_fn k = b6
  cases b1 <;> cases b2 <;> cases b3 <;> cases b4 <;> cases b5 <;> cases b6 <;> rfl
theorem m_std_0 {σ : Sg} {i oi : Nat} {a b c ea : Int32} : (m_hw σ i (nI 0) a b c && m_op oi ea (nI 0)) = (m_gvn σ i b) := by
  unfold m_hw m_op
  rw [show q_uA (nI 0) = false by decide +kernel, show q_uB (nI 0) = true by decide +kernel, show q_uC (nI 0) = false by decide +kernel, show decide (nI 0 = nI 3) = false by decide +kernel, show decide (nI 0 = nI 4) = false by decide +kernel]
  generalize m_gvn σ i a = b1
  generalize m_gvn σ i b = b2
  generalize m_gvn σ i c = b3
  generalize decide (nI oi = 0) = b4
  generalize decide (ea < 0) = b5
  cases b1 <;> cases b2 <;> cases b3 <;> cases b4 <;> cases b5 <;> rfl
theorem q_st_1 {a b c k : Int32} : q_st (nI 1) a b c k = (q_gv a && q_us b && q_us c && q_fn k) := by
  unfold q_st
  rw [show q_in (nI 1) (nI 0) (nI 7) = true by decide +kernel, show q_gA (nI 1) = true by decide +kernel, show q_uA (nI 1) = false by decide +kernel, show q_uB (nI 1) = true by decide +kernel, show q_uC (nI 1) = true by decide +kernel, if_pos rfl]
  generalize q_gv a = b1
  generalize q_us a = b2
  generalize q_us b = b3
  generalize q_us c = b4
  generalize q_df k = b5
  generalize q_fn k = b6
  cases b1 <;> cases b2 <;> cases b3 <;> cases b4 <;> cases b5 <;> cases b6 <;> rfl
theorem m_std_1 {σ : Sg} {i oi : Nat} {a b c ea : Int32} : (m_hw σ i (nI 1) a b c && m_op oi ea (nI 1)) = ((m_gvn σ i b && m_gvn σ i c)) := by
  unfold m_hw m_op
  rw [show q_uA (nI 1) = false by decide +kernel, show q_uB (nI 1) = true by decide +kernel, show q_uC (nI 1) = true by decide +kernel, show decide (nI 1 = nI 3) = false by decide +kernel, show decide (nI 1 = nI 4) = false by decide +kernel]
  generalize m_gvn σ i a = b1
  generalize m_gvn σ i b = b2
  generalize m_gvn σ i c = b3
  generalize decide (nI oi = 0) = b4
  generalize decide (ea < 0) = b5
  cases b1 <;> cases b2 <;> cases b3 <;> cases b4 <;> cases b5 <;> rfl
theorem q_st_2 {a b c k : Int32} : q_st (nI 2) a b c k = (q_us a && q_us b && q_df k) := by
  unfold q_st
  rw [show q_in (nI 2) (nI 0) (nI 7) = true by decide +kernel, show q_gA (nI 2) = false by decide +kernel, show q_uA (nI 2) = true by decide +kernel, show q_uB (nI 2) = true by decide +kernel, show q_uC (nI 2) = false by decide +kernel, if_neg (show ¬ nI 2 = nI 1 by decide +kernel)]
  generalize q_gv a = b1
  generalize q_us a = b2
  generalize q_us b = b3
  generalize q_us c = b4
  generalize q_df k = b5
  generalize q_fn k = b6
  cases b1 <;> cases b2 <;> cases b3 <;> cases b4 <;> cases b5 <;> cases b6 <;> rfl
theorem m_std_2 {σ : Sg} {i oi : Nat} {a b c ea : Int32} : (m_hw σ i (nI 2) a b c && m_op oi ea (nI 2)) = ((m_gvn σ i a && m_gvn σ i b)) := by
  unfold m_hw m_op
  rw [show q_uA (nI 2) = true by decide +kernel, show q_uB (nI 2) = true by decide +kernel, show q_uC (nI 2) = false by decide +kernel, show decide (nI 2 = nI 3) = false by decide +kernel, show decide (nI 2 = nI 4) = false by decide +kernel]
  generalize m_gvn σ i a = b1
  generalize m_gvn σ i b = b2
  generalize m_gvn σ i c = b3
  generalize decide (nI oi = 0) = b4
  generalize decide (ea < 0) = b5
  cases b1 <;> cases b2 <;> cases b3 <;> cases b4 <;> cases b5 <;> rfl
theorem q_st_3 {a b c k : Int32} : q_st (nI 3) a b c k = (true) := by
  unfold q_st
  rw [show q_in (nI 3) (nI 0) (nI 7) = true by decide +kernel, show q_gA (nI 3) = false by decide +kernel, show q_uA (nI 3) = false by decide +kernel, show q_uB (nI 3) = false by decide +kernel, show q_uC (nI 3) = false by decide +kernel, if_neg (show ¬ nI 3 = nI 1 by decide +kernel)]
  generalize q_gv a = b1
  generalize q_us a = b2
  generalize q_us b = b3
  generalize q_us c = b4
  generalize q_df k = b5
  generalize q_fn k = b6
  cases b1 <;> cases b2 <;> cases b3 <;> cases b4 <;> cases b5 <;> cases b6 <;> rfl
theorem m_std_3 {σ : Sg} {i oi : Nat} {a b c ea : Int32} : (m_hw σ i (nI 3) a b c && m_op oi ea (nI 3)) = ((!decide (nI oi = 0) && decide (ea < 0))) := by
  unfold m_hw m_op
  rw [show q_uA (nI 3) = false by decide +kernel, show q_uB (nI 3) = false by decide +kernel, show q_uC (nI 3) = false by decide +kernel, show decide (nI 3 = nI 3) = true by decide +kernel, show decide (nI 3 = nI 4) = false by decide +kernel]
  generalize m_gvn σ i a = b1
  generalize m_gvn σ i b = b2
  generalize m_gvn σ i c = b3
  generalize decide (nI oi = 0) = b4
  generalize decide (ea < 0) = b5
  cases b1 <;> cases b2 <;> cases b3 <;> cases b4 <;> cases b5 <;> rfl
theorem q_st_4 {a b c k : Int32} : q_st (nI 4) a b c k = (true) := by
  unfold q_st
  rw [show q_in (nI 4) (nI 0) (nI 7) = true by decide +kernel, show q_gA (nI 4) = false by decide +kernel, show q_uA (nI 4) = false by decide +kernel, show q_uB (nI 4) = false by decide +kernel, show q_uC (nI 4) = false by decide +kernel, if_neg (show ¬ nI 4 = nI 1 by decide +kernel)]
  generalize q_gv a = b1
  generalize q_us a = b2
  generalize q_us b = b3
  generalize q_us c = b4
  generalize q_df k = b5
  generalize q_fn k = b6
  cases b1 <;> cases b2 <;> cases b3 <;> cases b4 <;> cases b5 <;> cases b6 <;> rfl
theorem m_std_4 {σ : Sg} {i oi : Nat} {a b c ea : Int32} : (m_hw σ i (nI 4) a b c && m_op oi ea (nI 4)) = (!decide (nI oi = 0)) := by
  unfold m_hw m_op
  rw [show q_uA (nI 4) = false by decide +kernel, show q_uB (nI 4) = false by decide +kernel, show q_uC (nI 4) = false by decide +kernel, show decide (nI 4 = nI 3) = false by decide +kernel, show decide (nI 4 = nI 4) = true by decide +kernel]
  generalize m_gvn σ i a = b1
  generalize m_gvn σ i b = b2
  generalize m_gvn σ i c = b3
  generalize decide (nI oi = 0) = b4
  generalize decide (ea < 0) = b5
  cases b1 <;> cases b2 <;> cases b3 <;> cases b4 <;> cases b5 <;> rfl
theorem q_st_5 {a b c k : Int32} : q_st (nI 5) a b c k = (q_us a && q_us b && q_df k) := by
  unfold q_st
  rw [show q_in (nI 5) (nI 0) (nI 7) = true by decide +kernel, show q_gA (nI 5) = false by decide +kernel, show q_uA (nI 5) = true by decide +kernel, show q_uB (nI 5) = true by decide +kernel, show q_uC (nI 5) = false by decide +kernel, if_neg (show ¬ nI 5 = nI 1 by decide +kernel)]
  generalize q_gv a = b1
  generalize q_us a = b2
  generalize q_us b = b3
  generalize q_us c = b4
  generalize q_df k = b5
  generalize q_fn k = b6
  cases b1 <;> cases b2 <;> cases b3 <;> cases b4 <;> cases b5 <;> cases b6 <;> rfl
theorem m_std_5 {σ : Sg} {i oi : Nat} {a b c ea : Int32} : (m_hw σ i (nI 5) a b c && m_op oi ea (nI 5)) = ((m_gvn σ i a && m_gvn σ i b)) := by
  unfold m_hw m_op
  rw [show q_uA (nI 5) = true by decide +kernel, show q_uB (nI 5) = true by decide +kernel, show q_uC (nI 5) = false by decide +kernel, show decide (nI 5 = nI 3) = false by decide +kernel, show decide (nI 5 = nI 4) = false by decide +kernel]
  generalize m_gvn σ i a = b1
  generalize m_gvn σ i b = b2
  generalize m_gvn σ i c = b3
  generalize decide (nI oi = 0) = b4
  generalize decide (ea < 0) = b5
  cases b1 <;> cases b2 <;> cases b3 <;> cases b4 <;> cases b5 <;> rfl
theorem q_st_6 {a b c k : Int32} : q_st (nI 6) a b c k = (q_us b && q_df k) := by
  unfold q_st
  rw [show q_in (nI 6) (nI 0) (nI 7) = true by decide +kernel, show q_gA (nI 6) = false by decide +kernel, show q_uA (nI 6) = false by decide +kernel, show q_uB (nI 6) = true by decide +kernel, show q_uC (nI 6) = false by decide +kernel, if_neg (show ¬ nI 6 = nI 1 by decide +kernel)]
  generalize q_gv a = b1
  generalize q_us a = b2
  generalize q_us b = b3
  generalize q_us c = b4
  generalize q_df k = b5
  generalize q_fn k = b6
  cases b1 <;> cases b2 <;> cases b3 <;> cases b4 <;> cases b5 <;> cases b6 <;> rfl
theorem m_std_6 {σ : Sg} {i oi : Nat} {a b c ea : Int32} : (m_hw σ i (nI 6) a b c && m_op oi ea (nI 6)) = (m_gvn σ i b) := by
  unfold m_hw m_op
  rw [show q_uA (nI 6) = false by decide +kernel, show q_uB (nI 6) = true by decide +kernel, show q_uC (nI 6) = false by decide +kernel, show decide (nI 6 = nI 3) = false by decide +kernel, show decide (nI 6 = nI 4) = false by decide +kernel]
  generalize m_gvn σ i a = b1
  generalize m_gvn σ i b = b2
  generalize m_gvn σ i c = b3
  generalize decide (nI oi = 0) = b4
  generalize decide (ea < 0) = b5
  cases b1 <;> cases b2 <;> cases b3 <;> cases b4 <;> cases b5 <;> rfl
theorem q_st_7 {a b c k : Int32} : q_st (nI 7) a b c k = (q_gv a) := by
  unfold q_st
  rw [show q_in (nI 7) (nI 0) (nI 7) = true by decide +kernel, show q_gA (nI 7) = true by decide +kernel, show q_uA (nI 7) = false by decide +kernel, show q_uB (nI 7) = false by decide +kernel, show q_uC (nI 7) = false by decide +kernel, if_neg (show ¬ nI 7 = nI 1 by decide +kernel)]
  generalize q_gv a = b1
  generalize q_us a = b2
  generalize q_us b = b3
  generalize q_us c = b4
  generalize q_df k = b5
  generalize q_fn k = b6
  cases b1 <;> cases b2 <;> cases b3 <;> cases b4 <;> cases b5 <;> cases b6 <;> rfl
theorem m_std_7 {σ : Sg} {i oi : Nat} {a b c ea : Int32} : (m_hw σ i (nI 7) a b c && m_op oi ea (nI 7)) = (true) := by
  unfold m_hw m_op
  rw [show q_uA (nI 7) = false by decide +kernel, show q_uB (nI 7) = false by decide +kernel, show q_uC (nI 7) = false by decide +kernel, show decide (nI 7 = nI 3) = false by decide +kernel, show decide (nI 7 = nI 4) = false by decide +kernel]
  generalize m_gvn σ i a = b1
  generalize m_gvn σ i b = b2
  generalize m_gvn σ i c = b3
  generalize decide (nI oi = 0) = b4
  generalize decide (ea < 0) = b5
  cases b1 <;> cases b2 <;> cases b3 <;> cases b4 <;> cases b5 <;> rfl
set_option maxRecDepth 100000 in
set_option maxHeartbeats 4000000 in
theorem m_fits_0 {l : Launch} {D : va_G} {tys : List (ClassId × FieldType)} {L : List Nat} {f : Nat → va_E} (hn : L.Nodup) {a b cr k : Int32} : MetI l yM_fits wM_fits ({ frames := 2, cells := 0, slots := 0, locals := 42 } : Room) D tys L f [.int (nI 0), .int a, .int b, .int cr, .int k] (fun r f' => r = kb (q_st (nI 0) a b cr k) ∧ f' = f) := by
  refine met_of "LiquidCheckerModel" (by decide) rfl (Nat.le_of_ble_eq_true rfl) ?_
  intro pgm e s m below meth c ls C0 hP hl
  obtain ⟨hx, hb, hml, hown, hg, hr, hlocks, hK, hN⟩ := id C0
  have hA : ∀ a ∈ L, inL L a := fun _ h => h
  obtain ⟨H, hH⟩ : ∃ z, z = s.heap := ⟨_, rfl⟩
  rw [← hH] at hP ⊢
  have hS : va_S (inL L) s.heap H [] := by rw [hH]; exact va_S.rf
  have hl : lv_has ls 7 [(0, .int (nI 0)), (1, .int a), (2, .int b), (3, .int cr), (4, .int k)] := hl
  refine lv_iload_n hx hb dM_fits_0 rfl (lv_at hl 0 rfl) ?_
  refine lv_iconst (v := nI 2) hx hb dM_fits_1 (by decide) ?_
  refine lv_icmp_lt (tgt := 11) hx hb dM_fits_2 (by decide) (fun c2 => ?_) (fun c2 => absurd (by decide +kernel) c2)
  refine lv_iconst (v := nI 1) hx hb dM_fits_11 (by decide) ?_
  refine lv_goto (tgt := 16) hx hb dM_fits_12 (by decide) ?_
  refine lv_istore (lv' := [(5, .int (nI 1)), (0, .int (nI 0)), (1, .int a), (2, .int b), (3, .int cr), (4, .int k)]) hx hb dM_fits_16 hl (by decide) rfl (fun ls hl => ?_)
  refine lv_iload_n hx hb dM_fits_18 rfl (lv_at hl 1 rfl) ?_
  refine lv_iconst (v := nI 2) hx hb dM_fits_19 (by decide) ?_
  refine lv_icmp_eq (tgt := 28) hx hb dM_fits_20 (by decide) (fun c20 => absurd c20 (by decide +kernel)) (fun c20 => ?_)
  refine lv_iload_n hx hb dM_fits_23 rfl (lv_at hl 1 rfl) ?_
  refine lv_iconst (v := nI 5) hx hb dM_fits_24 (by decide) ?_
  refine lv_icmp_ne (tgt := 32) hx hb dM_fits_25 (by decide) (fun c25 => ?_) (fun c25 => absurd c25 (by decide +kernel))
  refine lv_iconst (v := nI 0) hx hb dM_fits_32 (by decide) ?_
  refine lv_istore (lv' := [(6, .int (nI 0)), (5, .int (nI 1)), (0, .int (nI 0)), (1, .int a), (2, .int b), (3, .int cr), (4, .int k)]) hx hb dM_fits_33 hl (by decide) rfl (fun ls hl => ?_)
  refine lv_iload_n hx hb dM_fits_35 rfl (lv_at hl 2 rfl) ?_
  refine lv_iconst (v := nI 0) hx hb dM_fits_36 (by decide) ?_
  refine lv_bipush (v := nI 7) hx hb dM_fits_37 (by decide) ?_
  refine then_i (run_S (n := 3) (As := [.int (nI 0), .int (nI 0), .int (nI 7)]) (rest := []) C0 (m_in hn) gw696 gw694 gw695 gw7 (by decide +kernel) ⟨Nat.le_of_ble_eq_true rfl, Nat.le_of_ble_eq_true rfl⟩ rfl rfl ⟨Nat.le_of_ble_eq_true rfl, Nat.le_of_ble_eq_true rfl⟩ hP rfl hl.1 rfl (Nat.le_of_ble_eq_true rfl) dM_fits_39) hS hA (fun r2 f1 H locs hq39 hP hS => ?_)
  obtain ⟨er2, ef1⟩ := hq39
  subst er2
  rw [ef1] at hP
  refine lv_if_eq (tgt := 60) hx hb dM_fits_42 (by decide) (fun c42 => absurd c42 (show ¬ kb (q_in (nI 0) (nI 0) (nI 7)) = 0 by decide +kernel)) (fun c42 => ?_)
  refine lv_iload hx hb dM_fits_45 (lv_at hl 1 rfl) ?_
  refine lv_if_eq (tgt := 62) hx hb dM_fits_47 (by decide) (fun c47 => absurd c47 (by decide +kernel)) (fun c47 => ?_)
  refine lv_iload_n hx hb dM_fits_50 rfl (lv_at hl 3 rfl) ?_
  refine lv_iconst (v := nI 4) hx hb dM_fits_51 (by decide) ?_
  refine lv_bipush (v := nI 11) hx hb dM_fits_52 (by decide) ?_
  refine then_i (run_S (n := 3) (As := [.int a, .int (nI 4), .int (nI 11)]) (rest := []) C0 (m_in hn) gw696 gw694 gw695 gw7 (by decide +kernel) ⟨Nat.le_of_ble_eq_true rfl, Nat.le_of_ble_eq_true rfl⟩ rfl rfl ⟨Nat.le_of_ble_eq_true rfl, Nat.le_of_ble_eq_true rfl⟩ hP rfl hl.1 rfl (Nat.le_of_ble_eq_true rfl) dM_fits_54) hS hA (fun r4 f3 H locs hq54 hP hS => ?_)
  obtain ⟨er4, ef3⟩ := hq54
  subst er4
  rw [ef3] at hP
  refine lv_if_ne (tgt := 62) hx hb dM_fits_57 (by decide) (fun c57 => ?_) (fun c57 => ?_)
  · have c57 : (q_in a (nI 4) (nI 11)) = true := kb_t.mp c57
    refine lv_iload hx hb dM_fits_62 (lv_at hl 0 rfl) ?_
    refine lv_if_eq (tgt := 74) hx hb dM_fits_64 (by decide) (fun c64 => ?_) (fun c64 => absurd nI_0 c64)
    refine lv_iload_n hx hb dM_fits_74 rfl (lv_at hl 2 rfl) ?_
    refine lv_iconst (v := nI 2) hx hb dM_fits_75 (by decide) ?_
    refine lv_icmp_lt (tgt := 90) hx hb dM_fits_76 (by decide) (fun c76 => ?_) (fun c76 => absurd (by decide +kernel) c76)
    refine lv_iload_n hx hb dM_fits_90 rfl (lv_at hl 4 rfl) ?_
    refine then_i (run_S (n := 1) (As := [.int b]) (rest := []) C0 (m_name hn) gw710 gw708 gw709 gw7 (by decide +kernel) ⟨Nat.le_of_ble_eq_true rfl, Nat.le_of_ble_eq_true rfl⟩ rfl rfl ⟨Nat.le_of_ble_eq_true rfl, Nat.le_of_ble_eq_true rfl⟩ hP rfl hl.1 rfl (Nat.le_of_ble_eq_true rfl) dM_fits_91) hS hA (fun r6 f5 H locs hq91 hP hS => ?_)
    obtain ⟨er6, ef5⟩ := hq91
    subst er6
    rw [ef5] at hP
    refine lv_if_eq (tgt := 109) hx hb dM_fits_94 (by decide) (fun c94 => ?_) (fun c94 => ?_)
    · have c94 : (q_us b) = false := kb_0.mp c94
      refine lv_iconst (v := nI 0) hx hb dM_fits_109 (by decide) ?_
      exact ret_z C0 rfl hP hS ⟨by rw [q_st_0, show q_gv a = _ from c57, show q_us b = _ from c94]; simp [kb], rfl⟩ dM_fits_110
    · have c94 : (q_us b) = true := kb_t.mp c94
      refine lv_iload_n hx hb dM_fits_97 rfl (lv_at hl 2 rfl) ?_
      refine lv_iconst (v := nI 1) hx hb dM_fits_98 (by decide) ?_
      refine lv_icmp_ne (tgt := 111) hx hb dM_fits_99 (by decide) (fun c99 => ?_) (fun c99 => absurd c99 (by decide +kernel))
      refine lv_iload_n hx hb dM_fits_111 rfl (lv_at hl 2 rfl) ?_
      refine lv_iconst (v := nI 1) hx hb dM_fits_112 (by decide) ?_
      refine lv_icmp_ne (tgt := 124) hx hb dM_fits_113 (by decide) (fun c113 => ?_) (fun c113 => absurd c113 (by decide +kernel))
      refine lv_iload_n hx hb dM_fits_124 rfl (lv_at hl 2 rfl) ?_
      refine lv_iconst (v := nI 3) hx hb dM_fits_125 (by decide) ?_
      refine lv_icmp_eq (tgt := 154) hx hb dM_fits_126 (by decide) (fun c126 => absurd c126 (by decide +kernel)) (fun c126 => ?_)
      refine lv_iload_n hx hb dM_fits_129 rfl (lv_at hl 2 rfl) ?_
      refine lv_iconst (v := nI 4) hx hb dM_fits_130 (by decide) ?_
      refine lv_icmp_eq (tgt := 154) hx hb dM_fits_131 (by decide) (fun c131 => absurd c131 (by decide +kernel)) (fun c131 => ?_)
      refine lv_iload_n hx hb dM_fits_134 rfl (lv_at hl 2 rfl) ?_
      refine lv_bipush (v := nI 7) hx hb dM_fits_135 (by decide) ?_
      refine lv_icmp_eq (tgt := 154) hx hb dM_fits_137 (by decide) (fun c137 => absurd c137 (by decide +kernel)) (fun c137 => ?_)
      refine lv_iload hx hb dM_fits_140 (lv_at hl 6 rfl) ?_
      refine lv_sipush (v := (-1000)) hx hb dM_fits_142 (by decide) ?_
      refine lv_sipush (v := nI 1000) hx hb dM_fits_145 (by decide) ?_
      refine then_i (run_S (n := 3) (As := [.int k, .int (-1000), .int (nI 1000)]) (rest := []) C0 (m_in hn) gw696 gw694 gw695 gw7 (by decide +kernel) ⟨Nat.le_of_ble_eq_true rfl, Nat.le_of_ble_eq_true rfl⟩ rfl rfl ⟨Nat.le_of_ble_eq_true rfl, Nat.le_of_ble_eq_true rfl⟩ hP rfl hl.1 rfl (Nat.le_of_ble_eq_true rfl) dM_fits_148) hS hA (fun r8 f7 H locs hq148 hP hS => ?_)
      obtain ⟨er8, ef7⟩ := hq148
      subst er8
      rw [ef7] at hP
      refine lv_if_eq (tgt := 158) hx hb dM_fits_151 (by decide) (fun c151 => ?_) (fun c151 => ?_)
      · have c151 : (q_in k (-1000) (nI 1000)) = false := kb_0.mp c151
        refine lv_iconst (v := nI 0) hx hb dM_fits_158 (by decide) ?_
        exact ret_z C0 rfl hP hS ⟨by rw [q_st_0, show q_gv a = _ from c57, show q_us b = _ from c94, show q_df k = _ from c151]; simp [kb], rfl⟩ dM_fits_159
      · have c151 : (q_in k (-1000) (nI 1000)) = true := kb_t.mp c151
        refine lv_iconst (v := nI 1) hx hb dM_fits_154 (by decide) ?_
        refine lv_goto (tgt := 159) hx hb dM_fits_155 (by decide) ?_
        exact ret_z C0 rfl hP hS ⟨by rw [q_st_0, show q_gv a = _ from c57, show q_us b = _ from c94, show q_df k = _ from c151]; rfl, rfl⟩ dM_fits_159
  · have c57 : (q_in a (nI 4) (nI 11)) = false := kb_0.mp c57
    refine lv_iconst (v := nI 0) hx hb dM_fits_60 (by decide) ?_
    exact ret_z C0 rfl hP hS ⟨by rw [q_st_0, show q_gv a = _ from c57]; simp [kb], rfl⟩ dM_fits_61
set_option maxRecDepth 100000 in
set_option maxHeartbeats 4000000 in
theorem m_fits_1 {l : Launch} {D : va_G} {tys : List (ClassId × FieldType)} {L : List Nat} {f : Nat → va_E} (hn : L.Nodup) {a b cr k : Int32} : MetI l yM_fits wM_fits ({ frames := 2, cells := 0, slots := 0, locals := 42 } : Room) D tys L f [.int (nI 1), .int a, .int b, .int cr, .int k] (fun r f' => r = kb (q_st (nI 1) a b cr k) ∧ f' = f) := by
  refine met_of "LiquidCheckerModel" (by decide) rfl (Nat.le_of_ble_eq_true rfl) ?_
  intro pgm e s m below meth c ls C0 hP hl
  obtain ⟨hx, hb, hml, hown, hg, hr, hlocks, hK, hN⟩ := id C0
  have hA : ∀ a ∈ L, inL L a := fun _ h => h
  obtain ⟨H, hH⟩ : ∃ z, z = s.heap := ⟨_, rfl⟩
  rw [← hH] at hP ⊢
  have hS : va_S (inL L) s.heap H [] := by rw [hH]; exact va_S.rf
  have hl : lv_has ls 7 [(0, .int (nI 1)), (1, .int a), (2, .int b), (3, .int cr), (4, .int k)] := hl
  refine lv_iload_n hx hb dM_fits_0 rfl (lv_at hl 0 rfl) ?_
  refine lv_iconst (v := nI 2) hx hb dM_fits_1 (by decide) ?_
  refine lv_icmp_lt (tgt := 11) hx hb dM_fits_2 (by decide) (fun c2 => ?_) (fun c2 => absurd (by decide +kernel) c2)
  refine lv_iconst (v := nI 1) hx hb dM_fits_11 (by decide) ?_
  refine lv_goto (tgt := 16) hx hb dM_fits_12 (by decide) ?_
  refine lv_istore (lv' := [(5, .int (nI 1)), (0, .int (nI 1)), (1, .int a), (2, .int b), (3, .int cr), (4, .int k)]) hx hb dM_fits_16 hl (by decide) rfl (fun ls hl => ?_)
  refine lv_iload_n hx hb dM_fits_18 rfl (lv_at hl 1 rfl) ?_
  refine lv_iconst (v := nI 2) hx hb dM_fits_19 (by decide) ?_
  refine lv_icmp_eq (tgt := 28) hx hb dM_fits_20 (by decide) (fun c20 => absurd c20 (by decide +kernel)) (fun c20 => ?_)
  refine lv_iload_n hx hb dM_fits_23 rfl (lv_at hl 1 rfl) ?_
  refine lv_iconst (v := nI 5) hx hb dM_fits_24 (by decide) ?_
  refine lv_icmp_ne (tgt := 32) hx hb dM_fits_25 (by decide) (fun c25 => ?_) (fun c25 => absurd c25 (by decide +kernel))
  refine lv_iconst (v := nI 0) hx hb dM_fits_32 (by decide) ?_
  refine lv_istore (lv' := [(6, .int (nI 0)), (5, .int (nI 1)), (0, .int (nI 1)), (1, .int a), (2, .int b), (3, .int cr), (4, .int k)]) hx hb dM_fits_33 hl (by decide) rfl (fun ls hl => ?_)
  refine lv_iload_n hx hb dM_fits_35 rfl (lv_at hl 2 rfl) ?_
  refine lv_iconst (v := nI 0) hx hb dM_fits_36 (by decide) ?_
  refine lv_bipush (v := nI 7) hx hb dM_fits_37 (by decide) ?_
  refine then_i (run_S (n := 3) (As := [.int (nI 1), .int (nI 0), .int (nI 7)]) (rest := []) C0 (m_in hn) gw696 gw694 gw695 gw7 (by decide +kernel) ⟨Nat.le_of_ble_eq_true rfl, Nat.le_of_ble_eq_true rfl⟩ rfl rfl ⟨Nat.le_of_ble_eq_true rfl, Nat.le_of_ble_eq_true rfl⟩ hP rfl hl.1 rfl (Nat.le_of_ble_eq_true rfl) dM_fits_39) hS hA (fun r2 f1 H locs hq39 hP hS => ?_)
  obtain ⟨er2, ef1⟩ := hq39
  subst er2
  rw [ef1] at hP
  refine lv_if_eq (tgt := 60) hx hb dM_fits_42 (by decide) (fun c42 => absurd c42 (show ¬ kb (q_in (nI 1) (nI 0) (nI 7)) = 0 by decide +kernel)) (fun c42 => ?_)
  refine lv_iload hx hb dM_fits_45 (lv_at hl 1 rfl) ?_
  refine lv_if_eq (tgt := 62) hx hb dM_fits_47 (by decide) (fun c47 => absurd c47 (by decide +kernel)) (fun c47 => ?_)
  refine lv_iload_n hx hb dM_fits_50 rfl (lv_at hl 3 rfl) ?_
  refine lv_iconst (v := nI 4) hx hb dM_fits_51 (by decide) ?_
  refine lv_bipush (v := nI 11) hx hb dM_fits_52 (by decide) ?_
  refine then_i (run_S (n := 3) (As := [.int a, .int (nI 4), .int (nI 11)]) (rest := []) C0 (m_in hn) gw696 gw694 gw695 gw7 (by decide +kernel) ⟨Nat.le_of_ble_eq_true rfl, Nat.le_of_ble_eq_true rfl⟩ rfl rfl ⟨Nat.le_of_ble_eq_true rfl, Nat.le_of_ble_eq_true rfl⟩ hP rfl hl.1 rfl (Nat.le_of_ble_eq_true rfl) dM_fits_54) hS hA (fun r4 f3 H locs hq54 hP hS => ?_)
  obtain ⟨er4, ef3⟩ := hq54
  subst er4
  rw [ef3] at hP
  refine lv_if_ne (tgt := 62) hx hb dM_fits_57 (by decide) (fun c57 => ?_) (fun c57 => ?_)
  · have c57 : (q_in a (nI 4) (nI 11)) = true := kb_t.mp c57
    refine lv_iload hx hb dM_fits_62 (lv_at hl 0 rfl) ?_
    refine lv_if_eq (tgt := 74) hx hb dM_fits_64 (by decide) (fun c64 => ?_) (fun c64 => absurd nI_0 c64)
    refine lv_iload_n hx hb dM_fits_74 rfl (lv_at hl 2 rfl) ?_
    refine lv_iconst (v := nI 2) hx hb dM_fits_75 (by decide) ?_
    refine lv_icmp_lt (tgt := 90) hx hb dM_fits_76 (by decide) (fun c76 => ?_) (fun c76 => absurd (by decide +kernel) c76)
    refine lv_iload_n hx hb dM_fits_90 rfl (lv_at hl 4 rfl) ?_
    refine then_i (run_S (n := 1) (As := [.int b]) (rest := []) C0 (m_name hn) gw710 gw708 gw709 gw7 (by decide +kernel) ⟨Nat.le_of_ble_eq_true rfl, Nat.le_of_ble_eq_true rfl⟩ rfl rfl ⟨Nat.le_of_ble_eq_true rfl, Nat.le_of_ble_eq_true rfl⟩ hP rfl hl.1 rfl (Nat.le_of_ble_eq_true rfl) dM_fits_91) hS hA (fun r6 f5 H locs hq91 hP hS => ?_)
    obtain ⟨er6, ef5⟩ := hq91
    subst er6
    rw [ef5] at hP
    refine lv_if_eq (tgt := 109) hx hb dM_fits_94 (by decide) (fun c94 => ?_) (fun c94 => ?_)
    · have c94 : (q_us b) = false := kb_0.mp c94
      refine lv_iconst (v := nI 0) hx hb dM_fits_109 (by decide) ?_
      exact ret_z C0 rfl hP hS ⟨by rw [q_st_1, show q_gv a = _ from c57, show q_us b = _ from c94]; simp [kb], rfl⟩ dM_fits_110
    · have c94 : (q_us b) = true := kb_t.mp c94
      refine lv_iload_n hx hb dM_fits_97 rfl (lv_at hl 2 rfl) ?_
      refine lv_iconst (v := nI 1) hx hb dM_fits_98 (by decide) ?_
      refine lv_icmp_ne (tgt := 111) hx hb dM_fits_99 (by decide) (fun c99 => absurd (by decide +kernel) c99) (fun c99 => ?_)
      refine lv_iload_n hx hb dM_fits_102 rfl (lv_at hl 5 rfl) ?_
      refine then_i (run_S (n := 1) (As := [.int cr]) (rest := []) C0 (m_name hn) gw710 gw708 gw709 gw7 (by decide +kernel) ⟨Nat.le_of_ble_eq_true rfl, Nat.le_of_ble_eq_true rfl⟩ rfl rfl ⟨Nat.le_of_ble_eq_true rfl, Nat.le_of_ble_eq_true rfl⟩ hP rfl hl.1 rfl (Nat.le_of_ble_eq_true rfl) dM_fits_103) hS hA (fun r8 f7 H locs hq103 hP hS => ?_)
      obtain ⟨er8, ef7⟩ := hq103
      subst er8
      rw [ef7] at hP
      refine lv_if_ne (tgt := 111) hx hb dM_fits_106 (by decide) (fun c106 => ?_) (fun c106 => ?_)
      · have c106 : (q_us cr) = true := kb_t.mp c106
        refine lv_iload_n hx hb dM_fits_111 rfl (lv_at hl 2 rfl) ?_
        refine lv_iconst (v := nI 1) hx hb dM_fits_112 (by decide) ?_
        refine lv_icmp_ne (tgt := 124) hx hb dM_fits_113 (by decide) (fun c113 => absurd (by decide +kernel) c113) (fun c113 => ?_)
        refine lv_iload hx hb dM_fits_116 (lv_at hl 6 rfl) ?_
        refine lv_iconst (v := nI 0) hx hb dM_fits_118 (by decide) ?_
        refine lv_iconst (v := nI 3) hx hb dM_fits_119 (by decide) ?_
        refine then_i (run_S (n := 3) (As := [.int k, .int (nI 0), .int (nI 3)]) (rest := []) C0 (m_in hn) gw696 gw694 gw695 gw7 (by decide +kernel) ⟨Nat.le_of_ble_eq_true rfl, Nat.le_of_ble_eq_true rfl⟩ rfl rfl ⟨Nat.le_of_ble_eq_true rfl, Nat.le_of_ble_eq_true rfl⟩ hP rfl hl.1 rfl (Nat.le_of_ble_eq_true rfl) dM_fits_120) hS hA (fun r10 f9 H locs hq120 hP hS => ?_)
        obtain ⟨er10, ef9⟩ := hq120
        subst er10
        rw [ef9] at hP
        exact ret_z C0 (b01 (kb_or _)).1 hP hS ⟨by rw [q_st_1, show q_gv a = _ from c57, show q_us b = _ from c94, show q_us cr = _ from c106]; rfl, rfl⟩ dM_fits_123
      · have c106 : (q_us cr) = false := kb_0.mp c106
        refine lv_iconst (v := nI 0) hx hb dM_fits_109 (by decide) ?_
        exact ret_z C0 rfl hP hS ⟨by rw [q_st_1, show q_gv a = _ from c57, show q_us b = _ from c94, show q_us cr = _ from c106]; simp [kb], rfl⟩ dM_fits_110
  · have c57 : (q_in a (nI 4) (nI 11)) = false := kb_0.mp c57
    refine lv_iconst (v := nI 0) hx hb dM_fits_60 (by decide) ?_
    exact ret_z C0 rfl hP hS ⟨by rw [q_st_1, show q_gv a = _ from c57]; simp [kb], rfl⟩ dM_fits_61
set_option maxRecDepth 100000 in
set_option maxHeartbeats 4000000 in
theorem m_fits_2 {l : Launch} {D : va_G} {tys : List (ClassId × FieldType)} {L : List Nat} {f : Nat → va_E} (hn : L.Nodup) {a b cr k : Int32} : MetI l yM_fits wM_fits ({ frames := 2, cells := 0, slots := 0, locals := 42 } : Room) D tys L f [.int (nI 2), .int a, .int b, .int cr, .int k] (fun r f' => r = kb (q_st (nI 2) a b cr k) ∧ f' = f) := by
  refine met_of "LiquidCheckerModel" (by decide) rfl (Nat.le_of_ble_eq_true rfl) ?_
  intro pgm e s m below meth c ls C0 hP hl
  obtain ⟨hx, hb, hml, hown, hg, hr, hlocks, hK, hN⟩ := id C0
  have hA : ∀ a ∈ L, inL L a := fun _ h => h
  obtain ⟨H, hH⟩ : ∃ z, z = s.heap := ⟨_, rfl⟩
  rw [← hH] at hP ⊢
  have hS : va_S (inL L) s.heap H [] := by rw [hH]; exact va_S.rf
  have hl : lv_has ls 7 [(0, .int (nI 2)), (1, .int a), (2, .int b), (3, .int cr), (4, .int k)] := hl
  refine lv_iload_n hx hb dM_fits_0 rfl (lv_at hl 0 rfl) ?_
  refine lv_iconst (v := nI 2) hx hb dM_fits_1 (by decide) ?_
  refine lv_icmp_lt (tgt := 11) hx hb dM_fits_2 (by decide) (fun c2 => absurd c2 (by decide +kernel)) (fun c2 => ?_)
  refine lv_iload_n hx hb dM_fits_5 rfl (lv_at hl 0 rfl) ?_
  refine lv_bipush (v := nI 7) hx hb dM_fits_6 (by decide) ?_
  refine lv_icmp_ne (tgt := 15) hx hb dM_fits_8 (by decide) (fun c8 => ?_) (fun c8 => absurd c8 (by decide +kernel))
  refine lv_iconst (v := nI 0) hx hb dM_fits_15 (by decide) ?_
  refine lv_istore (lv' := [(5, .int (nI 0)), (0, .int (nI 2)), (1, .int a), (2, .int b), (3, .int cr), (4, .int k)]) hx hb dM_fits_16 hl (by decide) rfl (fun ls hl => ?_)
  refine lv_iload_n hx hb dM_fits_18 rfl (lv_at hl 1 rfl) ?_
  refine lv_iconst (v := nI 2) hx hb dM_fits_19 (by decide) ?_
  refine lv_icmp_eq (tgt := 28) hx hb dM_fits_20 (by decide) (fun c20 => ?_) (fun c20 => absurd (by decide +kernel) c20)
  refine lv_iconst (v := nI 1) hx hb dM_fits_28 (by decide) ?_
  refine lv_goto (tgt := 33) hx hb dM_fits_29 (by decide) ?_
  refine lv_istore (lv' := [(6, .int (nI 1)), (5, .int (nI 0)), (0, .int (nI 2)), (1, .int a), (2, .int b), (3, .int cr), (4, .int k)]) hx hb dM_fits_33 hl (by decide) rfl (fun ls hl => ?_)
  refine lv_iload_n hx hb dM_fits_35 rfl (lv_at hl 2 rfl) ?_
  refine lv_iconst (v := nI 0) hx hb dM_fits_36 (by decide) ?_
  refine lv_bipush (v := nI 7) hx hb dM_fits_37 (by decide) ?_
  refine then_i (run_S (n := 3) (As := [.int (nI 2), .int (nI 0), .int (nI 7)]) (rest := []) C0 (m_in hn) gw696 gw694 gw695 gw7 (by decide +kernel) ⟨Nat.le_of_ble_eq_true rfl, Nat.le_of_ble_eq_true rfl⟩ rfl rfl ⟨Nat.le_of_ble_eq_true rfl, Nat.le_of_ble_eq_true rfl⟩ hP rfl hl.1 rfl (Nat.le_of_ble_eq_true rfl) dM_fits_39) hS hA (fun r2 f1 H locs hq39 hP hS => ?_)
  obtain ⟨er2, ef1⟩ := hq39
  subst er2
  rw [ef1] at hP
  refine lv_if_eq (tgt := 60) hx hb dM_fits_42 (by decide) (fun c42 => absurd c42 (show ¬ kb (q_in (nI 2) (nI 0) (nI 7)) = 0 by decide +kernel)) (fun c42 => ?_)
  refine lv_iload hx hb dM_fits_45 (lv_at hl 1 rfl) ?_
  refine lv_if_eq (tgt := 62) hx hb dM_fits_47 (by decide) (fun c47 => ?_) (fun c47 => absurd nI_0 c47)
  refine lv_iload hx hb dM_fits_62 (lv_at hl 0 rfl) ?_
  refine lv_if_eq (tgt := 74) hx hb dM_fits_64 (by decide) (fun c64 => absurd c64 (by decide +kernel)) (fun c64 => ?_)
  refine lv_iload_n hx hb dM_fits_67 rfl (lv_at hl 3 rfl) ?_
  refine then_i (run_S (n := 1) (As := [.int a]) (rest := []) C0 (m_name hn) gw710 gw708 gw709 gw7 (by decide +kernel) ⟨Nat.le_of_ble_eq_true rfl, Nat.le_of_ble_eq_true rfl⟩ rfl rfl ⟨Nat.le_of_ble_eq_true rfl, Nat.le_of_ble_eq_true rfl⟩ hP rfl hl.1 rfl (Nat.le_of_ble_eq_true rfl) dM_fits_68) hS hA (fun r4 f3 H locs hq68 hP hS => ?_)
  obtain ⟨er4, ef3⟩ := hq68
  subst er4
  rw [ef3] at hP
  refine lv_if_eq (tgt := 109) hx hb dM_fits_71 (by decide) (fun c71 => ?_) (fun c71 => ?_)
  · have c71 : (q_us a) = false := kb_0.mp c71
    refine lv_iconst (v := nI 0) hx hb dM_fits_109 (by decide) ?_
    exact ret_z C0 rfl hP hS ⟨by rw [q_st_2, show q_us a = _ from c71]; simp [kb], rfl⟩ dM_fits_110
  · have c71 : (q_us a) = true := kb_t.mp c71
    refine lv_iload_n hx hb dM_fits_74 rfl (lv_at hl 2 rfl) ?_
    refine lv_iconst (v := nI 2) hx hb dM_fits_75 (by decide) ?_
    refine lv_icmp_lt (tgt := 90) hx hb dM_fits_76 (by decide) (fun c76 => absurd c76 (by decide +kernel)) (fun c76 => ?_)
    refine lv_iload hx hb dM_fits_79 (lv_at hl 0 rfl) ?_
    refine lv_if_ne (tgt := 90) hx hb dM_fits_81 (by decide) (fun c81 => ?_) (fun c81 => absurd c81 (by decide +kernel))
    refine lv_iload_n hx hb dM_fits_90 rfl (lv_at hl 4 rfl) ?_
    refine then_i (run_S (n := 1) (As := [.int b]) (rest := []) C0 (m_name hn) gw710 gw708 gw709 gw7 (by decide +kernel) ⟨Nat.le_of_ble_eq_true rfl, Nat.le_of_ble_eq_true rfl⟩ rfl rfl ⟨Nat.le_of_ble_eq_true rfl, Nat.le_of_ble_eq_true rfl⟩ hP rfl hl.1 rfl (Nat.le_of_ble_eq_true rfl) dM_fits_91) hS hA (fun r6 f5 H locs hq91 hP hS => ?_)
    obtain ⟨er6, ef5⟩ := hq91
    subst er6
    rw [ef5] at hP
    refine lv_if_eq (tgt := 109) hx hb dM_fits_94 (by decide) (fun c94 => ?_) (fun c94 => ?_)
    · have c94 : (q_us b) = false := kb_0.mp c94
      refine lv_iconst (v := nI 0) hx hb dM_fits_109 (by decide) ?_
      exact ret_z C0 rfl hP hS ⟨by rw [q_st_2, show q_us a = _ from c71, show q_us b = _ from c94]; simp [kb], rfl⟩ dM_fits_110
    · have c94 : (q_us b) = true := kb_t.mp c94
      refine lv_iload_n hx hb dM_fits_97 rfl (lv_at hl 2 rfl) ?_
      refine lv_iconst (v := nI 1) hx hb dM_fits_98 (by decide) ?_
      refine lv_icmp_ne (tgt := 111) hx hb dM_fits_99 (by decide) (fun c99 => ?_) (fun c99 => absurd c99 (by decide +kernel))
      refine lv_iload_n hx hb dM_fits_111 rfl (lv_at hl 2 rfl) ?_
      refine lv_iconst (v := nI 1) hx hb dM_fits_112 (by decide) ?_
      refine lv_icmp_ne (tgt := 124) hx hb dM_fits_113 (by decide) (fun c113 => ?_) (fun c113 => absurd c113 (by decide +kernel))
      refine lv_iload_n hx hb dM_fits_124 rfl (lv_at hl 2 rfl) ?_
      refine lv_iconst (v := nI 3) hx hb dM_fits_125 (by decide) ?_
      refine lv_icmp_eq (tgt := 154) hx hb dM_fits_126 (by decide) (fun c126 => absurd c126 (by decide +kernel)) (fun c126 => ?_)
      refine lv_iload_n hx hb dM_fits_129 rfl (lv_at hl 2 rfl) ?_
      refine lv_iconst (v := nI 4) hx hb dM_fits_130 (by decide) ?_
      refine lv_icmp_eq (tgt := 154) hx hb dM_fits_131 (by decide) (fun c131 => absurd c131 (by decide +kernel)) (fun c131 => ?_)
      refine lv_iload_n hx hb dM_fits_134 rfl (lv_at hl 2 rfl) ?_
      refine lv_bipush (v := nI 7) hx hb dM_fits_135 (by decide) ?_
      refine lv_icmp_eq (tgt := 154) hx hb dM_fits_137 (by decide) (fun c137 => absurd c137 (by decide +kernel)) (fun c137 => ?_)
      refine lv_iload hx hb dM_fits_140 (lv_at hl 6 rfl) ?_
      refine lv_sipush (v := (-1000)) hx hb dM_fits_142 (by decide) ?_
      refine lv_sipush (v := nI 1000) hx hb dM_fits_145 (by decide) ?_
      refine then_i (run_S (n := 3) (As := [.int k, .int (-1000), .int (nI 1000)]) (rest := []) C0 (m_in hn) gw696 gw694 gw695 gw7 (by decide +kernel) ⟨Nat.le_of_ble_eq_true rfl, Nat.le_of_ble_eq_true rfl⟩ rfl rfl ⟨Nat.le_of_ble_eq_true rfl, Nat.le_of_ble_eq_true rfl⟩ hP rfl hl.1 rfl (Nat.le_of_ble_eq_true rfl) dM_fits_148) hS hA (fun r8 f7 H locs hq148 hP hS => ?_)
      obtain ⟨er8, ef7⟩ := hq148
      subst er8
      rw [ef7] at hP
      refine lv_if_eq (tgt := 158) hx hb dM_fits_151 (by decide) (fun c151 => ?_) (fun c151 => ?_)
      · have c151 : (q_in k (-1000) (nI 1000)) = false := kb_0.mp c151
        refine lv_iconst (v := nI 0) hx hb dM_fits_158 (by decide) ?_
        exact ret_z C0 rfl hP hS ⟨by rw [q_st_2, show q_us a = _ from c71, show q_us b = _ from c94, show q_df k = _ from c151]; simp [kb], rfl⟩ dM_fits_159
      · have c151 : (q_in k (-1000) (nI 1000)) = true := kb_t.mp c151
        refine lv_iconst (v := nI 1) hx hb dM_fits_154 (by decide) ?_
        refine lv_goto (tgt := 159) hx hb dM_fits_155 (by decide) ?_
        exact ret_z C0 rfl hP hS ⟨by rw [q_st_2, show q_us a = _ from c71, show q_us b = _ from c94, show q_df k = _ from c151]; rfl, rfl⟩ dM_fits_159
set_option maxRecDepth 100000 in
set_option maxHeartbeats 4000000 in
theorem m_fits_3 {l : Launch} {D : va_G} {tys : List (ClassId × FieldType)} {L : List Nat} {f : Nat → va_E} (hn : L.Nodup) {a b cr k : Int32} : MetI l yM_fits wM_fits ({ frames := 2, cells := 0, slots := 0, locals := 42 } : Room) D tys L f [.int (nI 3), .int a, .int b, .int cr, .int k] (fun r f' => r = kb (q_st (nI 3) a b cr k) ∧ f' = f) := by
  refine met_of "LiquidCheckerModel" (by decide) rfl (Nat.le_of_ble_eq_true rfl) ?_
  intro pgm e s m below meth c ls C0 hP hl
  obtain ⟨hx, hb, hml, hown, hg, hr, hlocks, hK, hN⟩ := id C0
  have hA : ∀ a ∈ L, inL L a := fun _ h => h
  obtain ⟨H, hH⟩ : ∃ z, z = s.heap := ⟨_, rfl⟩
  rw [← hH] at hP ⊢
  have hS : va_S (inL L) s.heap H [] := by rw [hH]; exact va_S.rf
  have hl : lv_has ls 7 [(0, .int (nI 3)), (1, .int a), (2, .int b), (3, .int cr), (4, .int k)] := hl
  refine lv_iload_n hx hb dM_fits_0 rfl (lv_at hl 0 rfl) ?_
  refine lv_iconst (v := nI 2) hx hb dM_fits_1 (by decide) ?_
  refine lv_icmp_lt (tgt := 11) hx hb dM_fits_2 (by decide) (fun c2 => absurd c2 (by decide +kernel)) (fun c2 => ?_)
  refine lv_iload_n hx hb dM_fits_5 rfl (lv_at hl 0 rfl) ?_
  refine lv_bipush (v := nI 7) hx hb dM_fits_6 (by decide) ?_
  refine lv_icmp_ne (tgt := 15) hx hb dM_fits_8 (by decide) (fun c8 => ?_) (fun c8 => absurd c8 (by decide +kernel))
  refine lv_iconst (v := nI 0) hx hb dM_fits_15 (by decide) ?_
  refine lv_istore (lv' := [(5, .int (nI 0)), (0, .int (nI 3)), (1, .int a), (2, .int b), (3, .int cr), (4, .int k)]) hx hb dM_fits_16 hl (by decide) rfl (fun ls hl => ?_)
  refine lv_iload_n hx hb dM_fits_18 rfl (lv_at hl 1 rfl) ?_
  refine lv_iconst (v := nI 2) hx hb dM_fits_19 (by decide) ?_
  refine lv_icmp_eq (tgt := 28) hx hb dM_fits_20 (by decide) (fun c20 => absurd c20 (by decide +kernel)) (fun c20 => ?_)
  refine lv_iload_n hx hb dM_fits_23 rfl (lv_at hl 1 rfl) ?_
  refine lv_iconst (v := nI 5) hx hb dM_fits_24 (by decide) ?_
  refine lv_icmp_ne (tgt := 32) hx hb dM_fits_25 (by decide) (fun c25 => ?_) (fun c25 => absurd c25 (by decide +kernel))
  refine lv_iconst (v := nI 0) hx hb dM_fits_32 (by decide) ?_
  refine lv_istore (lv' := [(6, .int (nI 0)), (5, .int (nI 0)), (0, .int (nI 3)), (1, .int a), (2, .int b), (3, .int cr), (4, .int k)]) hx hb dM_fits_33 hl (by decide) rfl (fun ls hl => ?_)
  refine lv_iload_n hx hb dM_fits_35 rfl (lv_at hl 2 rfl) ?_
  refine lv_iconst (v := nI 0) hx hb dM_fits_36 (by decide) ?_
  refine lv_bipush (v := nI 7) hx hb dM_fits_37 (by decide) ?_
  refine then_i (run_S (n := 3) (As := [.int (nI 3), .int (nI 0), .int (nI 7)]) (rest := []) C0 (m_in hn) gw696 gw694 gw695 gw7 (by decide +kernel) ⟨Nat.le_of_ble_eq_true rfl, Nat.le_of_ble_eq_true rfl⟩ rfl rfl ⟨Nat.le_of_ble_eq_true rfl, Nat.le_of_ble_eq_true rfl⟩ hP rfl hl.1 rfl (Nat.le_of_ble_eq_true rfl) dM_fits_39) hS hA (fun r2 f1 H locs hq39 hP hS => ?_)
  obtain ⟨er2, ef1⟩ := hq39
  subst er2
  rw [ef1] at hP
  refine lv_if_eq (tgt := 60) hx hb dM_fits_42 (by decide) (fun c42 => absurd c42 (show ¬ kb (q_in (nI 3) (nI 0) (nI 7)) = 0 by decide +kernel)) (fun c42 => ?_)
  refine lv_iload hx hb dM_fits_45 (lv_at hl 1 rfl) ?_
  refine lv_if_eq (tgt := 62) hx hb dM_fits_47 (by decide) (fun c47 => ?_) (fun c47 => absurd nI_0 c47)
  refine lv_iload hx hb dM_fits_62 (lv_at hl 0 rfl) ?_
  refine lv_if_eq (tgt := 74) hx hb dM_fits_64 (by decide) (fun c64 => ?_) (fun c64 => absurd nI_0 c64)
  refine lv_iload_n hx hb dM_fits_74 rfl (lv_at hl 2 rfl) ?_
  refine lv_iconst (v := nI 2) hx hb dM_fits_75 (by decide) ?_
  refine lv_icmp_lt (tgt := 90) hx hb dM_fits_76 (by decide) (fun c76 => absurd c76 (by decide +kernel)) (fun c76 => ?_)
  refine lv_iload hx hb dM_fits_79 (lv_at hl 0 rfl) ?_
  refine lv_if_ne (tgt := 90) hx hb dM_fits_81 (by decide) (fun c81 => absurd nI_0 c81) (fun c81 => ?_)
  refine lv_iload_n hx hb dM_fits_84 rfl (lv_at hl 2 rfl) ?_
  refine lv_bipush (v := nI 6) hx hb dM_fits_85 (by decide) ?_
  refine lv_icmp_ne (tgt := 97) hx hb dM_fits_87 (by decide) (fun c87 => ?_) (fun c87 => absurd c87 (by decide +kernel))
  refine lv_iload_n hx hb dM_fits_97 rfl (lv_at hl 2 rfl) ?_
  refine lv_iconst (v := nI 1) hx hb dM_fits_98 (by decide) ?_
  refine lv_icmp_ne (tgt := 111) hx hb dM_fits_99 (by decide) (fun c99 => ?_) (fun c99 => absurd c99 (by decide +kernel))
  refine lv_iload_n hx hb dM_fits_111 rfl (lv_at hl 2 rfl) ?_
  refine lv_iconst (v := nI 1) hx hb dM_fits_112 (by decide) ?_
  refine lv_icmp_ne (tgt := 124) hx hb dM_fits_113 (by decide) (fun c113 => ?_) (fun c113 => absurd c113 (by decide +kernel))
  refine lv_iload_n hx hb dM_fits_124 rfl (lv_at hl 2 rfl) ?_
  refine lv_iconst (v := nI 3) hx hb dM_fits_125 (by decide) ?_
  refine lv_icmp_eq (tgt := 154) hx hb dM_fits_126 (by decide) (fun c126 => ?_) (fun c126 => absurd (by decide +kernel) c126)
  refine lv_iconst (v := nI 1) hx hb dM_fits_154 (by decide) ?_
  refine lv_goto (tgt := 159) hx hb dM_fits_155 (by decide) ?_
  exact ret_z C0 rfl hP hS ⟨by rw [q_st_3]; rfl, rfl⟩ dM_fits_159
set_option maxRecDepth 100000 in
set_option maxHeartbeats 4000000 in
theorem m_fits_4 {l : Launch} {D : va_G} {tys : List (ClassId × FieldType)} {L : List Nat} {f : Nat → va_E} (hn : L.Nodup) {a b cr k : Int32} : MetI l yM_fits wM_fits ({ frames := 2, cells := 0, slots := 0, locals := 42 } : Room) D tys L f [.int (nI 4), .int a, .int b, .int cr, .int k] (fun r f' => r = kb (q_st (nI 4) a b cr k) ∧ f' = f) := by
  refine met_of "LiquidCheckerModel" (by decide) rfl (Nat.le_of_ble_eq_true rfl) ?_
  intro pgm e s m below meth c ls C0 hP hl
  obtain ⟨hx, hb, hml, hown, hg, hr, hlocks, hK, hN⟩ := id C0
  have hA : ∀ a ∈ L, inL L a := fun _ h => h
  obtain ⟨H, hH⟩ : ∃ z, z = s.heap := ⟨_, rfl⟩
  rw [← hH] at hP ⊢
  have hS : va_S (inL L) s.heap H [] := by rw [hH]; exact va_S.rf
  have hl : lv_has ls 7 [(0, .int (nI 4)), (1, .int a), (2, .int b), (3, .int cr), (4, .int k)] := hl
  refine lv_iload_n hx hb dM_fits_0 rfl (lv_at hl 0 rfl) ?_
  refine lv_iconst (v := nI 2) hx hb dM_fits_1 (by decide) ?_
  refine lv_icmp_lt (tgt := 11) hx hb dM_fits_2 (by decide) (fun c2 => absurd c2 (by decide +kernel)) (fun c2 => ?_)
  refine lv_iload_n hx hb dM_fits_5 rfl (lv_at hl 0 rfl) ?_
  refine lv_bipush (v := nI 7) hx hb dM_fits_6 (by decide) ?_
  refine lv_icmp_ne (tgt := 15) hx hb dM_fits_8 (by decide) (fun c8 => ?_) (fun c8 => absurd c8 (by decide +kernel))
  refine lv_iconst (v := nI 0) hx hb dM_fits_15 (by decide) ?_
  refine lv_istore (lv' := [(5, .int (nI 0)), (0, .int (nI 4)), (1, .int a), (2, .int b), (3, .int cr), (4, .int k)]) hx hb dM_fits_16 hl (by decide) rfl (fun ls hl => ?_)
  refine lv_iload_n hx hb dM_fits_18 rfl (lv_at hl 1 rfl) ?_
  refine lv_iconst (v := nI 2) hx hb dM_fits_19 (by decide) ?_
  refine lv_icmp_eq (tgt := 28) hx hb dM_fits_20 (by decide) (fun c20 => absurd c20 (by decide +kernel)) (fun c20 => ?_)
  refine lv_iload_n hx hb dM_fits_23 rfl (lv_at hl 1 rfl) ?_
  refine lv_iconst (v := nI 5) hx hb dM_fits_24 (by decide) ?_
  refine lv_icmp_ne (tgt := 32) hx hb dM_fits_25 (by decide) (fun c25 => ?_) (fun c25 => absurd c25 (by decide +kernel))
  refine lv_iconst (v := nI 0) hx hb dM_fits_32 (by decide) ?_
  refine lv_istore (lv' := [(6, .int (nI 0)), (5, .int (nI 0)), (0, .int (nI 4)), (1, .int a), (2, .int b), (3, .int cr), (4, .int k)]) hx hb dM_fits_33 hl (by decide) rfl (fun ls hl => ?_)
  refine lv_iload_n hx hb dM_fits_35 rfl (lv_at hl 2 rfl) ?_
  refine lv_iconst (v := nI 0) hx hb dM_fits_36 (by decide) ?_
  refine lv_bipush (v := nI 7) hx hb dM_fits_37 (by decide) ?_
  refine then_i (run_S (n := 3) (As := [.int (nI 4), .int (nI 0), .int (nI 7)]) (rest := []) C0 (m_in hn) gw696 gw694 gw695 gw7 (by decide +kernel) ⟨Nat.le_of_ble_eq_true rfl, Nat.le_of_ble_eq_true rfl⟩ rfl rfl ⟨Nat.le_of_ble_eq_true rfl, Nat.le_of_ble_eq_true rfl⟩ hP rfl hl.1 rfl (Nat.le_of_ble_eq_true rfl) dM_fits_39) hS hA (fun r2 f1 H locs hq39 hP hS => ?_)
  obtain ⟨er2, ef1⟩ := hq39
  subst er2
  rw [ef1] at hP
  refine lv_if_eq (tgt := 60) hx hb dM_fits_42 (by decide) (fun c42 => absurd c42 (show ¬ kb (q_in (nI 4) (nI 0) (nI 7)) = 0 by decide +kernel)) (fun c42 => ?_)
  refine lv_iload hx hb dM_fits_45 (lv_at hl 1 rfl) ?_
  refine lv_if_eq (tgt := 62) hx hb dM_fits_47 (by decide) (fun c47 => ?_) (fun c47 => absurd nI_0 c47)
  refine lv_iload hx hb dM_fits_62 (lv_at hl 0 rfl) ?_
  refine lv_if_eq (tgt := 74) hx hb dM_fits_64 (by decide) (fun c64 => ?_) (fun c64 => absurd nI_0 c64)
  refine lv_iload_n hx hb dM_fits_74 rfl (lv_at hl 2 rfl) ?_
  refine lv_iconst (v := nI 2) hx hb dM_fits_75 (by decide) ?_
  refine lv_icmp_lt (tgt := 90) hx hb dM_fits_76 (by decide) (fun c76 => absurd c76 (by decide +kernel)) (fun c76 => ?_)
  refine lv_iload hx hb dM_fits_79 (lv_at hl 0 rfl) ?_
  refine lv_if_ne (tgt := 90) hx hb dM_fits_81 (by decide) (fun c81 => absurd nI_0 c81) (fun c81 => ?_)
  refine lv_iload_n hx hb dM_fits_84 rfl (lv_at hl 2 rfl) ?_
  refine lv_bipush (v := nI 6) hx hb dM_fits_85 (by decide) ?_
  refine lv_icmp_ne (tgt := 97) hx hb dM_fits_87 (by decide) (fun c87 => ?_) (fun c87 => absurd c87 (by decide +kernel))
  refine lv_iload_n hx hb dM_fits_97 rfl (lv_at hl 2 rfl) ?_
  refine lv_iconst (v := nI 1) hx hb dM_fits_98 (by decide) ?_
  refine lv_icmp_ne (tgt := 111) hx hb dM_fits_99 (by decide) (fun c99 => ?_) (fun c99 => absurd c99 (by decide +kernel))
  refine lv_iload_n hx hb dM_fits_111 rfl (lv_at hl 2 rfl) ?_
  refine lv_iconst (v := nI 1) hx hb dM_fits_112 (by decide) ?_
  refine lv_icmp_ne (tgt := 124) hx hb dM_fits_113 (by decide) (fun c113 => ?_) (fun c113 => absurd c113 (by decide +kernel))
  refine lv_iload_n hx hb dM_fits_124 rfl (lv_at hl 2 rfl) ?_
  refine lv_iconst (v := nI 3) hx hb dM_fits_125 (by decide) ?_
  refine lv_icmp_eq (tgt := 154) hx hb dM_fits_126 (by decide) (fun c126 => absurd c126 (by decide +kernel)) (fun c126 => ?_)
  refine lv_iload_n hx hb dM_fits_129 rfl (lv_at hl 2 rfl) ?_
  refine lv_iconst (v := nI 4) hx hb dM_fits_130 (by decide) ?_
  refine lv_icmp_eq (tgt := 154) hx hb dM_fits_131 (by decide) (fun c131 => ?_) (fun c131 => absurd (by decide +kernel) c131)
  refine lv_iconst (v := nI 1) hx hb dM_fits_154 (by decide) ?_
  refine lv_goto (tgt := 159) hx hb dM_fits_155 (by decide) ?_
  exact ret_z C0 rfl hP hS ⟨by rw [q_st_4]; rfl, rfl⟩ dM_fits_159
set_option maxRecDepth 100000 in
set_option maxHeartbeats 4000000 in
theorem m_fits_5 {l : Launch} {D : va_G} {tys : List (ClassId × FieldType)} {L : List Nat} {f : Nat → va_E} (hn : L.Nodup) {a b cr k : Int32} : MetI l yM_fits wM_fits ({ frames := 2, cells := 0, slots := 0, locals := 42 } : Room) D tys L f [.int (nI 5), .int a, .int b, .int cr, .int k] (fun r f' => r = kb (q_st (nI 5) a b cr k) ∧ f' = f) := by
  refine met_of "LiquidCheckerModel" (by decide) rfl (Nat.le_of_ble_eq_true rfl) ?_
  intro pgm e s m below meth c ls C0 hP hl
  obtain ⟨hx, hb, hml, hown, hg, hr, hlocks, hK, hN⟩ := id C0
  have hA : ∀ a ∈ L, inL L a := fun _ h => h
  obtain ⟨H, hH⟩ : ∃ z, z = s.heap := ⟨_, rfl⟩
  rw [← hH] at hP ⊢
  have hS : va_S (inL L) s.heap H [] := by rw [hH]; exact va_S.rf
  have hl : lv_has ls 7 [(0, .int (nI 5)), (1, .int a), (2, .int b), (3, .int cr), (4, .int k)] := hl
  refine lv_iload_n hx hb dM_fits_0 rfl (lv_at hl 0 rfl) ?_
  refine lv_iconst (v := nI 2) hx hb dM_fits_1 (by decide) ?_
  refine lv_icmp_lt (tgt := 11) hx hb dM_fits_2 (by decide) (fun c2 => absurd c2 (by decide +kernel)) (fun c2 => ?_)
  refine lv_iload_n hx hb dM_fits_5 rfl (lv_at hl 0 rfl) ?_
  refine lv_bipush (v := nI 7) hx hb dM_fits_6 (by decide) ?_
  refine lv_icmp_ne (tgt := 15) hx hb dM_fits_8 (by decide) (fun c8 => ?_) (fun c8 => absurd c8 (by decide +kernel))
  refine lv_iconst (v := nI 0) hx hb dM_fits_15 (by decide) ?_
  refine lv_istore (lv' := [(5, .int (nI 0)), (0, .int (nI 5)), (1, .int a), (2, .int b), (3, .int cr), (4, .int k)]) hx hb dM_fits_16 hl (by decide) rfl (fun ls hl => ?_)
  refine lv_iload_n hx hb dM_fits_18 rfl (lv_at hl 1 rfl) ?_
  refine lv_iconst (v := nI 2) hx hb dM_fits_19 (by decide) ?_
  refine lv_icmp_eq (tgt := 28) hx hb dM_fits_20 (by decide) (fun c20 => absurd c20 (by decide +kernel)) (fun c20 => ?_)
  refine lv_iload_n hx hb dM_fits_23 rfl (lv_at hl 1 rfl) ?_
  refine lv_iconst (v := nI 5) hx hb dM_fits_24 (by decide) ?_
  refine lv_icmp_ne (tgt := 32) hx hb dM_fits_25 (by decide) (fun c25 => absurd (by decide +kernel) c25) (fun c25 => ?_)
  refine lv_iconst (v := nI 1) hx hb dM_fits_28 (by decide) ?_
  refine lv_goto (tgt := 33) hx hb dM_fits_29 (by decide) ?_
  refine lv_istore (lv' := [(6, .int (nI 1)), (5, .int (nI 0)), (0, .int (nI 5)), (1, .int a), (2, .int b), (3, .int cr), (4, .int k)]) hx hb dM_fits_33 hl (by decide) rfl (fun ls hl => ?_)
  refine lv_iload_n hx hb dM_fits_35 rfl (lv_at hl 2 rfl) ?_
  refine lv_iconst (v := nI 0) hx hb dM_fits_36 (by decide) ?_
  refine lv_bipush (v := nI 7) hx hb dM_fits_37 (by decide) ?_
  refine then_i (run_S (n := 3) (As := [.int (nI 5), .int (nI 0), .int (nI 7)]) (rest := []) C0 (m_in hn) gw696 gw694 gw695 gw7 (by decide +kernel) ⟨Nat.le_of_ble_eq_true rfl, Nat.le_of_ble_eq_true rfl⟩ rfl rfl ⟨Nat.le_of_ble_eq_true rfl, Nat.le_of_ble_eq_true rfl⟩ hP rfl hl.1 rfl (Nat.le_of_ble_eq_true rfl) dM_fits_39) hS hA (fun r2 f1 H locs hq39 hP hS => ?_)
  obtain ⟨er2, ef1⟩ := hq39
  subst er2
  rw [ef1] at hP
  refine lv_if_eq (tgt := 60) hx hb dM_fits_42 (by decide) (fun c42 => absurd c42 (show ¬ kb (q_in (nI 5) (nI 0) (nI 7)) = 0 by decide +kernel)) (fun c42 => ?_)
  refine lv_iload hx hb dM_fits_45 (lv_at hl 1 rfl) ?_
  refine lv_if_eq (tgt := 62) hx hb dM_fits_47 (by decide) (fun c47 => ?_) (fun c47 => absurd nI_0 c47)
  refine lv_iload hx hb dM_fits_62 (lv_at hl 0 rfl) ?_
  refine lv_if_eq (tgt := 74) hx hb dM_fits_64 (by decide) (fun c64 => absurd c64 (by decide +kernel)) (fun c64 => ?_)
  refine lv_iload_n hx hb dM_fits_67 rfl (lv_at hl 3 rfl) ?_
  refine then_i (run_S (n := 1) (As := [.int a]) (rest := []) C0 (m_name hn) gw710 gw708 gw709 gw7 (by decide +kernel) ⟨Nat.le_of_ble_eq_true rfl, Nat.le_of_ble_eq_true rfl⟩ rfl rfl ⟨Nat.le_of_ble_eq_true rfl, Nat.le_of_ble_eq_true rfl⟩ hP rfl hl.1 rfl (Nat.le_of_ble_eq_true rfl) dM_fits_68) hS hA (fun r4 f3 H locs hq68 hP hS => ?_)
  obtain ⟨er4, ef3⟩ := hq68
  subst er4
  rw [ef3] at hP
  refine lv_if_eq (tgt := 109) hx hb dM_fits_71 (by decide) (fun c71 => ?_) (fun c71 => ?_)
  · have c71 : (q_us a) = false := kb_0.mp c71
    refine lv_iconst (v := nI 0) hx hb dM_fits_109 (by decide) ?_
    exact ret_z C0 rfl hP hS ⟨by rw [q_st_5, show q_us a = _ from c71]; simp [kb], rfl⟩ dM_fits_110
  · have c71 : (q_us a) = true := kb_t.mp c71
    refine lv_iload_n hx hb dM_fits_74 rfl (lv_at hl 2 rfl) ?_
    refine lv_iconst (v := nI 2) hx hb dM_fits_75 (by decide) ?_
    refine lv_icmp_lt (tgt := 90) hx hb dM_fits_76 (by decide) (fun c76 => absurd c76 (by decide +kernel)) (fun c76 => ?_)
    refine lv_iload hx hb dM_fits_79 (lv_at hl 0 rfl) ?_
    refine lv_if_ne (tgt := 90) hx hb dM_fits_81 (by decide) (fun c81 => ?_) (fun c81 => absurd c81 (by decide +kernel))
    refine lv_iload_n hx hb dM_fits_90 rfl (lv_at hl 4 rfl) ?_
    refine then_i (run_S (n := 1) (As := [.int b]) (rest := []) C0 (m_name hn) gw710 gw708 gw709 gw7 (by decide +kernel) ⟨Nat.le_of_ble_eq_true rfl, Nat.le_of_ble_eq_true rfl⟩ rfl rfl ⟨Nat.le_of_ble_eq_true rfl, Nat.le_of_ble_eq_true rfl⟩ hP rfl hl.1 rfl (Nat.le_of_ble_eq_true rfl) dM_fits_91) hS hA (fun r6 f5 H locs hq91 hP hS => ?_)
    obtain ⟨er6, ef5⟩ := hq91
    subst er6
    rw [ef5] at hP
    refine lv_if_eq (tgt := 109) hx hb dM_fits_94 (by decide) (fun c94 => ?_) (fun c94 => ?_)
    · have c94 : (q_us b) = false := kb_0.mp c94
      refine lv_iconst (v := nI 0) hx hb dM_fits_109 (by decide) ?_
      exact ret_z C0 rfl hP hS ⟨by rw [q_st_5, show q_us a = _ from c71, show q_us b = _ from c94]; simp [kb], rfl⟩ dM_fits_110
    · have c94 : (q_us b) = true := kb_t.mp c94
      refine lv_iload_n hx hb dM_fits_97 rfl (lv_at hl 2 rfl) ?_
      refine lv_iconst (v := nI 1) hx hb dM_fits_98 (by decide) ?_
      refine lv_icmp_ne (tgt := 111) hx hb dM_fits_99 (by decide) (fun c99 => ?_) (fun c99 => absurd c99 (by decide +kernel))
      refine lv_iload_n hx hb dM_fits_111 rfl (lv_at hl 2 rfl) ?_
      refine lv_iconst (v := nI 1) hx hb dM_fits_112 (by decide) ?_
      refine lv_icmp_ne (tgt := 124) hx hb dM_fits_113 (by decide) (fun c113 => ?_) (fun c113 => absurd c113 (by decide +kernel))
      refine lv_iload_n hx hb dM_fits_124 rfl (lv_at hl 2 rfl) ?_
      refine lv_iconst (v := nI 3) hx hb dM_fits_125 (by decide) ?_
      refine lv_icmp_eq (tgt := 154) hx hb dM_fits_126 (by decide) (fun c126 => absurd c126 (by decide +kernel)) (fun c126 => ?_)
      refine lv_iload_n hx hb dM_fits_129 rfl (lv_at hl 2 rfl) ?_
      refine lv_iconst (v := nI 4) hx hb dM_fits_130 (by decide) ?_
      refine lv_icmp_eq (tgt := 154) hx hb dM_fits_131 (by decide) (fun c131 => absurd c131 (by decide +kernel)) (fun c131 => ?_)
      refine lv_iload_n hx hb dM_fits_134 rfl (lv_at hl 2 rfl) ?_
      refine lv_bipush (v := nI 7) hx hb dM_fits_135 (by decide) ?_
      refine lv_icmp_eq (tgt := 154) hx hb dM_fits_137 (by decide) (fun c137 => absurd c137 (by decide +kernel)) (fun c137 => ?_)
      refine lv_iload hx hb dM_fits_140 (lv_at hl 6 rfl) ?_
      refine lv_sipush (v := (-1000)) hx hb dM_fits_142 (by decide) ?_
      refine lv_sipush (v := nI 1000) hx hb dM_fits_145 (by decide) ?_
      refine then_i (run_S (n := 3) (As := [.int k, .int (-1000), .int (nI 1000)]) (rest := []) C0 (m_in hn) gw696 gw694 gw695 gw7 (by decide +kernel) ⟨Nat.le_of_ble_eq_true rfl, Nat.le_of_ble_eq_true rfl⟩ rfl rfl ⟨Nat.le_of_ble_eq_true rfl, Nat.le_of_ble_eq_true rfl⟩ hP rfl hl.1 rfl (Nat.le_of_ble_eq_true rfl) dM_fits_148) hS hA (fun r8 f7 H locs hq148 hP hS => ?_)
      obtain ⟨er8, ef7⟩ := hq148
      subst er8
      rw [ef7] at hP
      refine lv_if_eq (tgt := 158) hx hb dM_fits_151 (by decide) (fun c151 => ?_) (fun c151 => ?_)
      · have c151 : (q_in k (-1000) (nI 1000)) = false := kb_0.mp c151
        refine lv_iconst (v := nI 0) hx hb dM_fits_158 (by decide) ?_
        exact ret_z C0 rfl hP hS ⟨by rw [q_st_5, show q_us a = _ from c71, show q_us b = _ from c94, show q_df k = _ from c151]; simp [kb], rfl⟩ dM_fits_159
      · have c151 : (q_in k (-1000) (nI 1000)) = true := kb_t.mp c151
        refine lv_iconst (v := nI 1) hx hb dM_fits_154 (by decide) ?_
        refine lv_goto (tgt := 159) hx hb dM_fits_155 (by decide) ?_
        exact ret_z C0 rfl hP hS ⟨by rw [q_st_5, show q_us a = _ from c71, show q_us b = _ from c94, show q_df k = _ from c151]; rfl, rfl⟩ dM_fits_159
set_option maxRecDepth 100000 in
set_option maxHeartbeats 4000000 in
theorem m_fits_6 {l : Launch} {D : va_G} {tys : List (ClassId × FieldType)} {L : List Nat} {f : Nat → va_E} (hn : L.Nodup) {a b cr k : Int32} : MetI l yM_fits wM_fits ({ frames := 2, cells := 0, slots := 0, locals := 42 } : Room) D tys L f [.int (nI 6), .int a, .int b, .int cr, .int k] (fun r f' => r = kb (q_st (nI 6) a b cr k) ∧ f' = f) := by
  refine met_of "LiquidCheckerModel" (by decide) rfl (Nat.le_of_ble_eq_true rfl) ?_
  intro pgm e s m below meth c ls C0 hP hl
  obtain ⟨hx, hb, hml, hown, hg, hr, hlocks, hK, hN⟩ := id C0
  have hA : ∀ a ∈ L, inL L a := fun _ h => h
  obtain ⟨H, hH⟩ : ∃ z, z = s.heap := ⟨_, rfl⟩
  rw [← hH] at hP ⊢
  have hS : va_S (inL L) s.heap H [] := by rw [hH]; exact va_S.rf
  have hl : lv_has ls 7 [(0, .int (nI 6)), (1, .int a), (2, .int b), (3, .int cr), (4, .int k)] := hl
  refine lv_iload_n hx hb dM_fits_0 rfl (lv_at hl 0 rfl) ?_
  refine lv_iconst (v := nI 2) hx hb dM_fits_1 (by decide) ?_
  refine lv_icmp_lt (tgt := 11) hx hb dM_fits_2 (by decide) (fun c2 => absurd c2 (by decide +kernel)) (fun c2 => ?_)
  refine lv_iload_n hx hb dM_fits_5 rfl (lv_at hl 0 rfl) ?_
  refine lv_bipush (v := nI 7) hx hb dM_fits_6 (by decide) ?_
  refine lv_icmp_ne (tgt := 15) hx hb dM_fits_8 (by decide) (fun c8 => ?_) (fun c8 => absurd c8 (by decide +kernel))
  refine lv_iconst (v := nI 0) hx hb dM_fits_15 (by decide) ?_
  refine lv_istore (lv' := [(5, .int (nI 0)), (0, .int (nI 6)), (1, .int a), (2, .int b), (3, .int cr), (4, .int k)]) hx hb dM_fits_16 hl (by decide) rfl (fun ls hl => ?_)
  refine lv_iload_n hx hb dM_fits_18 rfl (lv_at hl 1 rfl) ?_
  refine lv_iconst (v := nI 2) hx hb dM_fits_19 (by decide) ?_
  refine lv_icmp_eq (tgt := 28) hx hb dM_fits_20 (by decide) (fun c20 => absurd c20 (by decide +kernel)) (fun c20 => ?_)
  refine lv_iload_n hx hb dM_fits_23 rfl (lv_at hl 1 rfl) ?_
  refine lv_iconst (v := nI 5) hx hb dM_fits_24 (by decide) ?_
  refine lv_icmp_ne (tgt := 32) hx hb dM_fits_25 (by decide) (fun c25 => ?_) (fun c25 => absurd c25 (by decide +kernel))
  refine lv_iconst (v := nI 0) hx hb dM_fits_32 (by decide) ?_
  refine lv_istore (lv' := [(6, .int (nI 0)), (5, .int (nI 0)), (0, .int (nI 6)), (1, .int a), (2, .int b), (3, .int cr), (4, .int k)]) hx hb dM_fits_33 hl (by decide) rfl (fun ls hl => ?_)
  refine lv_iload_n hx hb dM_fits_35 rfl (lv_at hl 2 rfl) ?_
  refine lv_iconst (v := nI 0) hx hb dM_fits_36 (by decide) ?_
  refine lv_bipush (v := nI 7) hx hb dM_fits_37 (by decide) ?_
  refine then_i (run_S (n := 3) (As := [.int (nI 6), .int (nI 0), .int (nI 7)]) (rest := []) C0 (m_in hn) gw696 gw694 gw695 gw7 (by decide +kernel) ⟨Nat.le_of_ble_eq_true rfl, Nat.le_of_ble_eq_true rfl⟩ rfl rfl ⟨Nat.le_of_ble_eq_true rfl, Nat.le_of_ble_eq_true rfl⟩ hP rfl hl.1 rfl (Nat.le_of_ble_eq_true rfl) dM_fits_39) hS hA (fun r2 f1 H locs hq39 hP hS => ?_)
  obtain ⟨er2, ef1⟩ := hq39
  subst er2
  rw [ef1] at hP
  refine lv_if_eq (tgt := 60) hx hb dM_fits_42 (by decide) (fun c42 => absurd c42 (show ¬ kb (q_in (nI 6) (nI 0) (nI 7)) = 0 by decide +kernel)) (fun c42 => ?_)
  refine lv_iload hx hb dM_fits_45 (lv_at hl 1 rfl) ?_
  refine lv_if_eq (tgt := 62) hx hb dM_fits_47 (by decide) (fun c47 => ?_) (fun c47 => absurd nI_0 c47)
  refine lv_iload hx hb dM_fits_62 (lv_at hl 0 rfl) ?_
  refine lv_if_eq (tgt := 74) hx hb dM_fits_64 (by decide) (fun c64 => ?_) (fun c64 => absurd nI_0 c64)
  refine lv_iload_n hx hb dM_fits_74 rfl (lv_at hl 2 rfl) ?_
  refine lv_iconst (v := nI 2) hx hb dM_fits_75 (by decide) ?_
  refine lv_icmp_lt (tgt := 90) hx hb dM_fits_76 (by decide) (fun c76 => absurd c76 (by decide +kernel)) (fun c76 => ?_)
  refine lv_iload hx hb dM_fits_79 (lv_at hl 0 rfl) ?_
  refine lv_if_ne (tgt := 90) hx hb dM_fits_81 (by decide) (fun c81 => absurd nI_0 c81) (fun c81 => ?_)
  refine lv_iload_n hx hb dM_fits_84 rfl (lv_at hl 2 rfl) ?_
  refine lv_bipush (v := nI 6) hx hb dM_fits_85 (by decide) ?_
  refine lv_icmp_ne (tgt := 97) hx hb dM_fits_87 (by decide) (fun c87 => absurd (by decide +kernel) c87) (fun c87 => ?_)
  refine lv_iload_n hx hb dM_fits_90 rfl (lv_at hl 4 rfl) ?_
  refine then_i (run_S (n := 1) (As := [.int b]) (rest := []) C0 (m_name hn) gw710 gw708 gw709 gw7 (by decide +kernel) ⟨Nat.le_of_ble_eq_true rfl, Nat.le_of_ble_eq_true rfl⟩ rfl rfl ⟨Nat.le_of_ble_eq_true rfl, Nat.le_of_ble_eq_true rfl⟩ hP rfl hl.1 rfl (Nat.le_of_ble_eq_true rfl) dM_fits_91) hS hA (fun r4 f3 H locs hq91 hP hS => ?_)
  obtain ⟨er4, ef3⟩ := hq91
  subst er4
  rw [ef3] at hP
  refine lv_if_eq (tgt := 109) hx hb dM_fits_94 (by decide) (fun c94 => ?_) (fun c94 => ?_)
  · have c94 : (q_us b) = false := kb_0.mp c94
    refine lv_iconst (v := nI 0) hx hb dM_fits_109 (by decide) ?_
    exact ret_z C0 rfl hP hS ⟨by rw [q_st_6, show q_us b = _ from c94]; simp [kb], rfl⟩ dM_fits_110
  · have c94 : (q_us b) = true := kb_t.mp c94
    refine lv_iload_n hx hb dM_fits_97 rfl (lv_at hl 2 rfl) ?_
    refine lv_iconst (v := nI 1) hx hb dM_fits_98 (by decide) ?_
    refine lv_icmp_ne (tgt := 111) hx hb dM_fits_99 (by decide) (fun c99 => ?_) (fun c99 => absurd c99 (by decide +kernel))
    refine lv_iload_n hx hb dM_fits_111 rfl (lv_at hl 2 rfl) ?_
    refine lv_iconst (v := nI 1) hx hb dM_fits_112 (by decide) ?_
    refine lv_icmp_ne (tgt := 124) hx hb dM_fits_113 (by decide) (fun c113 => ?_) (fun c113 => absurd c113 (by decide +kernel))
    refine lv_iload_n hx hb dM_fits_124 rfl (lv_at hl 2 rfl) ?_
    refine lv_iconst (v := nI 3) hx hb dM_fits_125 (by decide) ?_
    refine lv_icmp_eq (tgt := 154) hx hb dM_fits_126 (by decide) (fun c126 => absurd c126 (by decide +kernel)) (fun c126 => ?_)
    refine lv_iload_n hx hb dM_fits_129 rfl (lv_at hl 2 rfl) ?_
    refine lv_iconst (v := nI 4) hx hb dM_fits_130 (by decide) ?_
    refine lv_icmp_eq (tgt := 154) hx hb dM_fits_131 (by decide) (fun c131 => absurd c131 (by decide +kernel)) (fun c131 => ?_)
    refine lv_iload_n hx hb dM_fits_134 rfl (lv_at hl 2 rfl) ?_
    refine lv_bipush (v := nI 7) hx hb dM_fits_135 (by decide) ?_
    refine lv_icmp_eq (tgt := 154) hx hb dM_fits_137 (by decide) (fun c137 => absurd c137 (by decide +kernel)) (fun c137 => ?_)
    refine lv_iload hx hb dM_fits_140 (lv_at hl 6 rfl) ?_
    refine lv_sipush (v := (-1000)) hx hb dM_fits_142 (by decide) ?_
    refine lv_sipush (v := nI 1000) hx hb dM_fits_145 (by decide) ?_
    refine then_i (run_S (n := 3) (As := [.int k, .int (-1000), .int (nI 1000)]) (rest := []) C0 (m_in hn) gw696 gw694 gw695 gw7 (by decide +kernel) ⟨Nat.le_of_ble_eq_true rfl, Nat.le_of_ble_eq_true rfl⟩ rfl rfl ⟨Nat.le_of_ble_eq_true rfl, Nat.le_of_ble_eq_true rfl⟩ hP rfl hl.1 rfl (Nat.le_of_ble_eq_true rfl) dM_fits_148) hS hA (fun r6 f5 H locs hq148 hP hS => ?_)
    obtain ⟨er6, ef5⟩ := hq148
    subst er6
    rw [ef5] at hP
    refine lv_if_eq (tgt := 158) hx hb dM_fits_151 (by decide) (fun c151 => ?_) (fun c151 => ?_)
    · have c151 : (q_in k (-1000) (nI 1000)) = false := kb_0.mp c151
      refine lv_iconst (v := nI 0) hx hb dM_fits_158 (by decide) ?_
      exact ret_z C0 rfl hP hS ⟨by rw [q_st_6, show q_us b = _ from c94, show q_df k = _ from c151]; simp [kb], rfl⟩ dM_fits_159
    · have c151 : (q_in k (-1000) (nI 1000)) = true := kb_t.mp c151
      refine lv_iconst (v := nI 1) hx hb dM_fits_154 (by decide) ?_
      refine lv_goto (tgt := 159) hx hb dM_fits_155 (by decide) ?_
      exact ret_z C0 rfl hP hS ⟨by rw [q_st_6, show q_us b = _ from c94, show q_df k = _ from c151]; rfl, rfl⟩ dM_fits_159
set_option maxRecDepth 100000 in
set_option maxHeartbeats 4000000 in
theorem m_fits_7 {l : Launch} {D : va_G} {tys : List (ClassId × FieldType)} {L : List Nat} {f : Nat → va_E} (hn : L.Nodup) {a b cr k : Int32} : MetI l yM_fits wM_fits ({ frames := 2, cells := 0, slots := 0, locals := 42 } : Room) D tys L f [.int (nI 7), .int a, .int b, .int cr, .int k] (fun r f' => r = kb (q_st (nI 7) a b cr k) ∧ f' = f) := by
  refine met_of "LiquidCheckerModel" (by decide) rfl (Nat.le_of_ble_eq_true rfl) ?_
  intro pgm e s m below meth c ls C0 hP hl
  obtain ⟨hx, hb, hml, hown, hg, hr, hlocks, hK, hN⟩ := id C0
  have hA : ∀ a ∈ L, inL L a := fun _ h => h
  obtain ⟨H, hH⟩ : ∃ z, z = s.heap := ⟨_, rfl⟩
  rw [← hH] at hP ⊢
  have hS : va_S (inL L) s.heap H [] := by rw [hH]; exact va_S.rf
  have hl : lv_has ls 7 [(0, .int (nI 7)), (1, .int a), (2, .int b), (3, .int cr), (4, .int k)] := hl
  refine lv_iload_n hx hb dM_fits_0 rfl (lv_at hl 0 rfl) ?_
  refine lv_iconst (v := nI 2) hx hb dM_fits_1 (by decide) ?_
  refine lv_icmp_lt (tgt := 11) hx hb dM_fits_2 (by decide) (fun c2 => absurd c2 (by decide +kernel)) (fun c2 => ?_)
  refine lv_iload_n hx hb dM_fits_5 rfl (lv_at hl 0 rfl) ?_
  refine lv_bipush (v := nI 7) hx hb dM_fits_6 (by decide) ?_
  refine lv_icmp_ne (tgt := 15) hx hb dM_fits_8 (by decide) (fun c8 => absurd (by decide +kernel) c8) (fun c8 => ?_)
  refine lv_iconst (v := nI 1) hx hb dM_fits_11 (by decide) ?_
  refine lv_goto (tgt := 16) hx hb dM_fits_12 (by decide) ?_
  refine lv_istore (lv' := [(5, .int (nI 1)), (0, .int (nI 7)), (1, .int a), (2, .int b), (3, .int cr), (4, .int k)]) hx hb dM_fits_16 hl (by decide) rfl (fun ls hl => ?_)
  refine lv_iload_n hx hb dM_fits_18 rfl (lv_at hl 1 rfl) ?_
  refine lv_iconst (v := nI 2) hx hb dM_fits_19 (by decide) ?_
  refine lv_icmp_eq (tgt := 28) hx hb dM_fits_20 (by decide) (fun c20 => absurd c20 (by decide +kernel)) (fun c20 => ?_)
  refine lv_iload_n hx hb dM_fits_23 rfl (lv_at hl 1 rfl) ?_
  refine lv_iconst (v := nI 5) hx hb dM_fits_24 (by decide) ?_
  refine lv_icmp_ne (tgt := 32) hx hb dM_fits_25 (by decide) (fun c25 => ?_) (fun c25 => absurd c25 (by decide +kernel))
  refine lv_iconst (v := nI 0) hx hb dM_fits_32 (by decide) ?_
  refine lv_istore (lv' := [(6, .int (nI 0)), (5, .int (nI 1)), (0, .int (nI 7)), (1, .int a), (2, .int b), (3, .int cr), (4, .int k)]) hx hb dM_fits_33 hl (by decide) rfl (fun ls hl => ?_)
  refine lv_iload_n hx hb dM_fits_35 rfl (lv_at hl 2 rfl) ?_
  refine lv_iconst (v := nI 0) hx hb dM_fits_36 (by decide) ?_
  refine lv_bipush (v := nI 7) hx hb dM_fits_37 (by decide) ?_
  refine then_i (run_S (n := 3) (As := [.int (nI 7), .int (nI 0), .int (nI 7)]) (rest := []) C0 (m_in hn) gw696 gw694 gw695 gw7 (by decide +kernel) ⟨Nat.le_of_ble_eq_true rfl, Nat.le_of_ble_eq_true rfl⟩ rfl rfl ⟨Nat.le_of_ble_eq_true rfl, Nat.le_of_ble_eq_true rfl⟩ hP rfl hl.1 rfl (Nat.le_of_ble_eq_true rfl) dM_fits_39) hS hA (fun r2 f1 H locs hq39 hP hS => ?_)
  obtain ⟨er2, ef1⟩ := hq39
  subst er2
  rw [ef1] at hP
  refine lv_if_eq (tgt := 60) hx hb dM_fits_42 (by decide) (fun c42 => absurd c42 (show ¬ kb (q_in (nI 7) (nI 0) (nI 7)) = 0 by decide +kernel)) (fun c42 => ?_)
  refine lv_iload hx hb dM_fits_45 (lv_at hl 1 rfl) ?_
  refine lv_if_eq (tgt := 62) hx hb dM_fits_47 (by decide) (fun c47 => absurd c47 (by decide +kernel)) (fun c47 => ?_)
  refine lv_iload_n hx hb dM_fits_50 rfl (lv_at hl 3 rfl) ?_
  refine lv_iconst (v := nI 4) hx hb dM_fits_51 (by decide) ?_
  refine lv_bipush (v := nI 11) hx hb dM_fits_52 (by decide) ?_
  refine then_i (run_S (n := 3) (As := [.int a, .int (nI 4), .int (nI 11)]) (rest := []) C0 (m_in hn) gw696 gw694 gw695 gw7 (by decide +kernel) ⟨Nat.le_of_ble_eq_true rfl, Nat.le_of_ble_eq_true rfl⟩ rfl rfl ⟨Nat.le_of_ble_eq_true rfl, Nat.le_of_ble_eq_true rfl⟩ hP rfl hl.1 rfl (Nat.le_of_ble_eq_true rfl) dM_fits_54) hS hA (fun r4 f3 H locs hq54 hP hS => ?_)
  obtain ⟨er4, ef3⟩ := hq54
  subst er4
  rw [ef3] at hP
  refine lv_if_ne (tgt := 62) hx hb dM_fits_57 (by decide) (fun c57 => ?_) (fun c57 => ?_)
  · have c57 : (q_in a (nI 4) (nI 11)) = true := kb_t.mp c57
    refine lv_iload hx hb dM_fits_62 (lv_at hl 0 rfl) ?_
    refine lv_if_eq (tgt := 74) hx hb dM_fits_64 (by decide) (fun c64 => ?_) (fun c64 => absurd nI_0 c64)
    refine lv_iload_n hx hb dM_fits_74 rfl (lv_at hl 2 rfl) ?_
    refine lv_iconst (v := nI 2) hx hb dM_fits_75 (by decide) ?_
    refine lv_icmp_lt (tgt := 90) hx hb dM_fits_76 (by decide) (fun c76 => absurd c76 (by decide +kernel)) (fun c76 => ?_)
    refine lv_iload hx hb dM_fits_79 (lv_at hl 0 rfl) ?_
    refine lv_if_ne (tgt := 90) hx hb dM_fits_81 (by decide) (fun c81 => absurd nI_0 c81) (fun c81 => ?_)
    refine lv_iload_n hx hb dM_fits_84 rfl (lv_at hl 2 rfl) ?_
    refine lv_bipush (v := nI 6) hx hb dM_fits_85 (by decide) ?_
    refine lv_icmp_ne (tgt := 97) hx hb dM_fits_87 (by decide) (fun c87 => ?_) (fun c87 => absurd c87 (by decide +kernel))
    refine lv_iload_n hx hb dM_fits_97 rfl (lv_at hl 2 rfl) ?_
    refine lv_iconst (v := nI 1) hx hb dM_fits_98 (by decide) ?_
    refine lv_icmp_ne (tgt := 111) hx hb dM_fits_99 (by decide) (fun c99 => ?_) (fun c99 => absurd c99 (by decide +kernel))
    refine lv_iload_n hx hb dM_fits_111 rfl (lv_at hl 2 rfl) ?_
    refine lv_iconst (v := nI 1) hx hb dM_fits_112 (by decide) ?_
    refine lv_icmp_ne (tgt := 124) hx hb dM_fits_113 (by decide) (fun c113 => ?_) (fun c113 => absurd c113 (by decide +kernel))
    refine lv_iload_n hx hb dM_fits_124 rfl (lv_at hl 2 rfl) ?_
    refine lv_iconst (v := nI 3) hx hb dM_fits_125 (by decide) ?_
    refine lv_icmp_eq (tgt := 154) hx hb dM_fits_126 (by decide) (fun c126 => absurd c126 (by decide +kernel)) (fun c126 => ?_)
    refine lv_iload_n hx hb dM_fits_129 rfl (lv_at hl 2 rfl) ?_
    refine lv_iconst (v := nI 4) hx hb dM_fits_130 (by decide) ?_
    refine lv_icmp_eq (tgt := 154) hx hb dM_fits_131 (by decide) (fun c131 => absurd c131 (by decide +kernel)) (fun c131 => ?_)
    refine lv_iload_n hx hb dM_fits_134 rfl (lv_at hl 2 rfl) ?_
    refine lv_bipush (v := nI 7) hx hb dM_fits_135 (by decide) ?_
    refine lv_icmp_eq (tgt := 154) hx hb dM_fits_137 (by decide) (fun c137 => ?_) (fun c137 => absurd (by decide +kernel) c137)
    refine lv_iconst (v := nI 1) hx hb dM_fits_154 (by decide) ?_
    refine lv_goto (tgt := 159) hx hb dM_fits_155 (by decide) ?_
    exact ret_z C0 rfl hP hS ⟨by rw [q_st_7, show q_gv a = _ from c57]; rfl, rfl⟩ dM_fits_159
  · have c57 : (q_in a (nI 4) (nI 11)) = false := kb_0.mp c57
    refine lv_iconst (v := nI 0) hx hb dM_fits_60 (by decide) ?_
    exact ret_z C0 rfl hP hS ⟨by rw [q_st_7, show q_gv a = _ from c57]; simp [kb], rfl⟩ dM_fits_61
set_option maxRecDepth 100000 in
set_option maxHeartbeats 4000000 in
theorem m_fits_out {l : Launch} {D : va_G} {tys : List (ClassId × FieldType)} {L : List Nat} {f : Nat → va_E} (hn : L.Nodup) {kd a b cr k : Int32} (hq : q_in kd (nI 0) (nI 7) = false) : MetI l yM_fits wM_fits ({ frames := 2, cells := 0, slots := 0, locals := 42 } : Room) D tys L f [.int kd, .int a, .int b, .int cr, .int k] (fun r f' => r = kb (q_st kd a b cr k) ∧ f' = f) := by
  refine met_of "LiquidCheckerModel" (by decide) rfl (Nat.le_of_ble_eq_true rfl) ?_
  intro pgm e s m below meth c ls C0 hP hl
  obtain ⟨hx, hb, hml, hown, hg, hr, hlocks, hK, hN⟩ := id C0
  have hA : ∀ a ∈ L, inL L a := fun _ h => h
  obtain ⟨H, hH⟩ : ∃ z, z = s.heap := ⟨_, rfl⟩
  rw [← hH] at hP ⊢
  have hS : va_S (inL L) s.heap H [] := by rw [hH]; exact va_S.rf
  have hl : lv_has ls 7 [(0, .int kd), (1, .int a), (2, .int b), (3, .int cr), (4, .int k)] := hl
  have hq0 : q_st kd a b cr k = false := by unfold q_st; rw [hq]; rfl
  refine lv_iload_n hx hb dM_fits_0 rfl (lv_at hl 0 rfl) ?_
  refine lv_iconst (v := nI 2) hx hb dM_fits_1 (by decide) ?_
  refine lv_icmp_lt (tgt := 11) hx hb dM_fits_2 (by decide) (fun c2 => ?_) (fun c2 => ?_)
  · refine lv_iconst (v := nI 1) hx hb dM_fits_11 (by decide) ?_
    refine lv_goto (tgt := 16) hx hb dM_fits_12 (by decide) ?_
    refine lv_istore (lv' := [(5, .int (nI 1)), (0, .int kd), (1, .int a), (2, .int b), (3, .int cr), (4, .int k)]) hx hb dM_fits_16 hl (by decide) rfl (fun ls hl => ?_)
    refine lv_iload_n hx hb dM_fits_18 rfl (lv_at hl 1 rfl) ?_
    refine lv_iconst (v := nI 2) hx hb dM_fits_19 (by decide) ?_
    refine lv_icmp_eq (tgt := 28) hx hb dM_fits_20 (by decide) (fun c20 => ?_) (fun c20 => ?_)
    · refine lv_iconst (v := nI 1) hx hb dM_fits_28 (by decide) ?_
      refine lv_goto (tgt := 33) hx hb dM_fits_29 (by decide) ?_
      refine lv_istore (lv' := [(6, .int (nI 1)), (5, .int (nI 1)), (0, .int kd), (1, .int a), (2, .int b), (3, .int cr), (4, .int k)]) hx hb dM_fits_33 hl (by decide) rfl (fun ls hl => ?_)
      refine lv_iload_n hx hb dM_fits_35 rfl (lv_at hl 2 rfl) ?_
      refine lv_iconst (v := nI 0) hx hb dM_fits_36 (by decide) ?_
      refine lv_bipush (v := nI 7) hx hb dM_fits_37 (by decide) ?_
      refine then_i (run_S (n := 3) (As := [.int kd, .int (nI 0), .int (nI 7)]) (rest := []) C0 (m_in hn) gw696 gw694 gw695 gw7 (by decide +kernel) ⟨Nat.le_of_ble_eq_true rfl, Nat.le_of_ble_eq_true rfl⟩ rfl rfl ⟨Nat.le_of_ble_eq_true rfl, Nat.le_of_ble_eq_true rfl⟩ hP rfl hl.1 rfl (Nat.le_of_ble_eq_true rfl) dM_fits_39) hS hA (fun r2 f1 H locs hq39 hP hS => ?_)
      obtain ⟨er2, ef1⟩ := hq39
      subst er2
      rw [ef1] at hP
      refine lv_if_eq (tgt := 60) hx hb dM_fits_42 (by decide) (fun c42 => ?_) (fun c42 => absurd (kb_0.mpr hq) c42)
      refine lv_iconst (v := nI 0) hx hb dM_fits_60 (by decide) ?_
      exact ret_z C0 rfl hP hS ⟨by rw [hq0]; rfl, rfl⟩ dM_fits_61
    · refine lv_iload_n hx hb dM_fits_23 rfl (lv_at hl 1 rfl) ?_
      refine lv_iconst (v := nI 5) hx hb dM_fits_24 (by decide) ?_
      refine lv_icmp_ne (tgt := 32) hx hb dM_fits_25 (by decide) (fun c25 => ?_) (fun c25 => ?_)
      · refine lv_iconst (v := nI 0) hx hb dM_fits_32 (by decide) ?_
        refine lv_istore (lv' := [(6, .int (nI 0)), (5, .int (nI 1)), (0, .int kd), (1, .int a), (2, .int b), (3, .int cr), (4, .int k)]) hx hb dM_fits_33 hl (by decide) rfl (fun ls hl => ?_)
        refine lv_iload_n hx hb dM_fits_35 rfl (lv_at hl 2 rfl) ?_
        refine lv_iconst (v := nI 0) hx hb dM_fits_36 (by decide) ?_
        refine lv_bipush (v := nI 7) hx hb dM_fits_37 (by decide) ?_
        refine then_i (run_S (n := 3) (As := [.int kd, .int (nI 0), .int (nI 7)]) (rest := []) C0 (m_in hn) gw696 gw694 gw695 gw7 (by decide +kernel) ⟨Nat.le_of_ble_eq_true rfl, Nat.le_of_ble_eq_true rfl⟩ rfl rfl ⟨Nat.le_of_ble_eq_true rfl, Nat.le_of_ble_eq_true rfl⟩ hP rfl hl.1 rfl (Nat.le_of_ble_eq_true rfl) dM_fits_39) hS hA (fun r4 f3 H locs hq39 hP hS => ?_)
        obtain ⟨er4, ef3⟩ := hq39
        subst er4
        rw [ef3] at hP
        refine lv_if_eq (tgt := 60) hx hb dM_fits_42 (by decide) (fun c42 => ?_) (fun c42 => absurd (kb_0.mpr hq) c42)
        refine lv_iconst (v := nI 0) hx hb dM_fits_60 (by decide) ?_
        exact ret_z C0 rfl hP hS ⟨by rw [hq0]; rfl, rfl⟩ dM_fits_61
      · refine lv_iconst (v := nI 1) hx hb dM_fits_28 (by decide) ?_
        refine lv_goto (tgt := 33) hx hb dM_fits_29 (by decide) ?_
        refine lv_istore (lv' := [(6, .int (nI 1)), (5, .int (nI 1)), (0, .int kd), (1, .int a), (2, .int b), (3, .int cr), (4, .int k)]) hx hb dM_fits_33 hl (by decide) rfl (fun ls hl => ?_)
        refine lv_iload_n hx hb dM_fits_35 rfl (lv_at hl 2 rfl) ?_
        refine lv_iconst (v := nI 0) hx hb dM_fits_36 (by decide) ?_
        refine lv_bipush (v := nI 7) hx hb dM_fits_37 (by decide) ?_
        refine then_i (run_S (n := 3) (As := [.int kd, .int (nI 0), .int (nI 7)]) (rest := []) C0 (m_in hn) gw696 gw694 gw695 gw7 (by decide +kernel) ⟨Nat.le_of_ble_eq_true rfl, Nat.le_of_ble_eq_true rfl⟩ rfl rfl ⟨Nat.le_of_ble_eq_true rfl, Nat.le_of_ble_eq_true rfl⟩ hP rfl hl.1 rfl (Nat.le_of_ble_eq_true rfl) dM_fits_39) hS hA (fun r6 f5 H locs hq39 hP hS => ?_)
        obtain ⟨er6, ef5⟩ := hq39
        subst er6
        rw [ef5] at hP
        refine lv_if_eq (tgt := 60) hx hb dM_fits_42 (by decide) (fun c42 => ?_) (fun c42 => absurd (kb_0.mpr hq) c42)
        refine lv_iconst (v := nI 0) hx hb dM_fits_60 (by decide) ?_
        exact ret_z C0 rfl hP hS ⟨by rw [hq0]; rfl, rfl⟩ dM_fits_61
  · refine lv_iload_n hx hb dM_fits_5 rfl (lv_at hl 0 rfl) ?_
    refine lv_bipush (v := nI 7) hx hb dM_fits_6 (by decide) ?_
    refine lv_icmp_ne (tgt := 15) hx hb dM_fits_8 (by decide) (fun c8 => ?_) (fun c8 => ?_)
    · refine lv_iconst (v := nI 0) hx hb dM_fits_15 (by decide) ?_
      refine lv_istore (lv' := [(5, .int (nI 0)), (0, .int kd), (1, .int a), (2, .int b), (3, .int cr), (4, .int k)]) hx hb dM_fits_16 hl (by decide) rfl (fun ls hl => ?_)
      refine lv_iload_n hx hb dM_fits_18 rfl (lv_at hl 1 rfl) ?_
      refine lv_iconst (v := nI 2) hx hb dM_fits_19 (by decide) ?_
      refine lv_icmp_eq (tgt := 28) hx hb dM_fits_20 (by decide) (fun c20 => ?_) (fun c20 => ?_)
      · refine lv_iconst (v := nI 1) hx hb dM_fits_28 (by decide) ?_
        refine lv_goto (tgt := 33) hx hb dM_fits_29 (by decide) ?_
        refine lv_istore (lv' := [(6, .int (nI 1)), (5, .int (nI 0)), (0, .int kd), (1, .int a), (2, .int b), (3, .int cr), (4, .int k)]) hx hb dM_fits_33 hl (by decide) rfl (fun ls hl => ?_)
        refine lv_iload_n hx hb dM_fits_35 rfl (lv_at hl 2 rfl) ?_
        refine lv_iconst (v := nI 0) hx hb dM_fits_36 (by decide) ?_
        refine lv_bipush (v := nI 7) hx hb dM_fits_37 (by decide) ?_
        refine then_i (run_S (n := 3) (As := [.int kd, .int (nI 0), .int (nI 7)]) (rest := []) C0 (m_in hn) gw696 gw694 gw695 gw7 (by decide +kernel) ⟨Nat.le_of_ble_eq_true rfl, Nat.le_of_ble_eq_true rfl⟩ rfl rfl ⟨Nat.le_of_ble_eq_true rfl, Nat.le_of_ble_eq_true rfl⟩ hP rfl hl.1 rfl (Nat.le_of_ble_eq_true rfl) dM_fits_39) hS hA (fun r8 f7 H locs hq39 hP hS => ?_)
        obtain ⟨er8, ef7⟩ := hq39
        subst er8
        rw [ef7] at hP
        refine lv_if_eq (tgt := 60) hx hb dM_fits_42 (by decide) (fun c42 => ?_) (fun c42 => absurd (kb_0.mpr hq) c42)
        refine lv_iconst (v := nI 0) hx hb dM_fits_60 (by decide) ?_
        exact ret_z C0 rfl hP hS ⟨by rw [hq0]; rfl, rfl⟩ dM_fits_61
      · refine lv_iload_n hx hb dM_fits_23 rfl (lv_at hl 1 rfl) ?_
        refine lv_iconst (v := nI 5) hx hb dM_fits_24 (by decide) ?_
        refine lv_icmp_ne (tgt := 32) hx hb dM_fits_25 (by decide) (fun c25 => ?_) (fun c25 => ?_)
        · refine lv_iconst (v := nI 0) hx hb dM_fits_32 (by decide) ?_
          refine lv_istore (lv' := [(6, .int (nI 0)), (5, .int (nI 0)), (0, .int kd), (1, .int a), (2, .int b), (3, .int cr), (4, .int k)]) hx hb dM_fits_33 hl (by decide) rfl (fun ls hl => ?_)
          refine lv_iload_n hx hb dM_fits_35 rfl (lv_at hl 2 rfl) ?_
          refine lv_iconst (v := nI 0) hx hb dM_fits_36 (by decide) ?_
          refine lv_bipush (v := nI 7) hx hb dM_fits_37 (by decide) ?_
          refine then_i (run_S (n := 3) (As := [.int kd, .int (nI 0), .int (nI 7)]) (rest := []) C0 (m_in hn) gw696 gw694 gw695 gw7 (by decide +kernel) ⟨Nat.le_of_ble_eq_true rfl, Nat.le_of_ble_eq_true rfl⟩ rfl rfl ⟨Nat.le_of_ble_eq_true rfl, Nat.le_of_ble_eq_true rfl⟩ hP rfl hl.1 rfl (Nat.le_of_ble_eq_true rfl) dM_fits_39) hS hA (fun r10 f9 H locs hq39 hP hS => ?_)
          obtain ⟨er10, ef9⟩ := hq39
          subst er10
          rw [ef9] at hP
          refine lv_if_eq (tgt := 60) hx hb dM_fits_42 (by decide) (fun c42 => ?_) (fun c42 => absurd (kb_0.mpr hq) c42)
          refine lv_iconst (v := nI 0) hx hb dM_fits_60 (by decide) ?_
          exact ret_z C0 rfl hP hS ⟨by rw [hq0]; rfl, rfl⟩ dM_fits_61
        · refine lv_iconst (v := nI 1) hx hb dM_fits_28 (by decide) ?_
          refine lv_goto (tgt := 33) hx hb dM_fits_29 (by decide) ?_
          refine lv_istore (lv' := [(6, .int (nI 1)), (5, .int (nI 0)), (0, .int kd), (1, .int a), (2, .int b), (3, .int cr), (4, .int k)]) hx hb dM_fits_33 hl (by decide) rfl (fun ls hl => ?_)
          refine lv_iload_n hx hb dM_fits_35 rfl (lv_at hl 2 rfl) ?_
          refine lv_iconst (v := nI 0) hx hb dM_fits_36 (by decide) ?_
          refine lv_bipush (v := nI 7) hx hb dM_fits_37 (by decide) ?_
          refine then_i (run_S (n := 3) (As := [.int kd, .int (nI 0), .int (nI 7)]) (rest := []) C0 (m_in hn) gw696 gw694 gw695 gw7 (by decide +kernel) ⟨Nat.le_of_ble_eq_true rfl, Nat.le_of_ble_eq_true rfl⟩ rfl rfl ⟨Nat.le_of_ble_eq_true rfl, Nat.le_of_ble_eq_true rfl⟩ hP rfl hl.1 rfl (Nat.le_of_ble_eq_true rfl) dM_fits_39) hS hA (fun r12 f11 H locs hq39 hP hS => ?_)
          obtain ⟨er12, ef11⟩ := hq39
          subst er12
          rw [ef11] at hP
          refine lv_if_eq (tgt := 60) hx hb dM_fits_42 (by decide) (fun c42 => ?_) (fun c42 => absurd (kb_0.mpr hq) c42)
          refine lv_iconst (v := nI 0) hx hb dM_fits_60 (by decide) ?_
          exact ret_z C0 rfl hP hS ⟨by rw [hq0]; rfl, rfl⟩ dM_fits_61
    · refine lv_iconst (v := nI 1) hx hb dM_fits_11 (by decide) ?_
      refine lv_goto (tgt := 16) hx hb dM_fits_12 (by decide) ?_
      refine lv_istore (lv' := [(5, .int (nI 1)), (0, .int kd), (1, .int a), (2, .int b), (3, .int cr), (4, .int k)]) hx hb dM_fits_16 hl (by decide) rfl (fun ls hl => ?_)
      refine lv_iload_n hx hb dM_fits_18 rfl (lv_at hl 1 rfl) ?_
      refine lv_iconst (v := nI 2) hx hb dM_fits_19 (by decide) ?_
      refine lv_icmp_eq (tgt := 28) hx hb dM_fits_20 (by decide) (fun c20 => ?_) (fun c20 => ?_)
      · refine lv_iconst (v := nI 1) hx hb dM_fits_28 (by decide) ?_
        refine lv_goto (tgt := 33) hx hb dM_fits_29 (by decide) ?_
        refine lv_istore (lv' := [(6, .int (nI 1)), (5, .int (nI 1)), (0, .int kd), (1, .int a), (2, .int b), (3, .int cr), (4, .int k)]) hx hb dM_fits_33 hl (by decide) rfl (fun ls hl => ?_)
        refine lv_iload_n hx hb dM_fits_35 rfl (lv_at hl 2 rfl) ?_
        refine lv_iconst (v := nI 0) hx hb dM_fits_36 (by decide) ?_
        refine lv_bipush (v := nI 7) hx hb dM_fits_37 (by decide) ?_
        refine then_i (run_S (n := 3) (As := [.int kd, .int (nI 0), .int (nI 7)]) (rest := []) C0 (m_in hn) gw696 gw694 gw695 gw7 (by decide +kernel) ⟨Nat.le_of_ble_eq_true rfl, Nat.le_of_ble_eq_true rfl⟩ rfl rfl ⟨Nat.le_of_ble_eq_true rfl, Nat.le_of_ble_eq_true rfl⟩ hP rfl hl.1 rfl (Nat.le_of_ble_eq_true rfl) dM_fits_39) hS hA (fun r14 f13 H locs hq39 hP hS => ?_)
        obtain ⟨er14, ef13⟩ := hq39
        subst er14
        rw [ef13] at hP
        refine lv_if_eq (tgt := 60) hx hb dM_fits_42 (by decide) (fun c42 => ?_) (fun c42 => absurd (kb_0.mpr hq) c42)
        refine lv_iconst (v := nI 0) hx hb dM_fits_60 (by decide) ?_
        exact ret_z C0 rfl hP hS ⟨by rw [hq0]; rfl, rfl⟩ dM_fits_61
      · refine lv_iload_n hx hb dM_fits_23 rfl (lv_at hl 1 rfl) ?_
        refine lv_iconst (v := nI 5) hx hb dM_fits_24 (by decide) ?_
        refine lv_icmp_ne (tgt := 32) hx hb dM_fits_25 (by decide) (fun c25 => ?_) (fun c25 => ?_)
        · refine lv_iconst (v := nI 0) hx hb dM_fits_32 (by decide) ?_
          refine lv_istore (lv' := [(6, .int (nI 0)), (5, .int (nI 1)), (0, .int kd), (1, .int a), (2, .int b), (3, .int cr), (4, .int k)]) hx hb dM_fits_33 hl (by decide) rfl (fun ls hl => ?_)
          refine lv_iload_n hx hb dM_fits_35 rfl (lv_at hl 2 rfl) ?_
          refine lv_iconst (v := nI 0) hx hb dM_fits_36 (by decide) ?_
          refine lv_bipush (v := nI 7) hx hb dM_fits_37 (by decide) ?_
          refine then_i (run_S (n := 3) (As := [.int kd, .int (nI 0), .int (nI 7)]) (rest := []) C0 (m_in hn) gw696 gw694 gw695 gw7 (by decide +kernel) ⟨Nat.le_of_ble_eq_true rfl, Nat.le_of_ble_eq_true rfl⟩ rfl rfl ⟨Nat.le_of_ble_eq_true rfl, Nat.le_of_ble_eq_true rfl⟩ hP rfl hl.1 rfl (Nat.le_of_ble_eq_true rfl) dM_fits_39) hS hA (fun r16 f15 H locs hq39 hP hS => ?_)
          obtain ⟨er16, ef15⟩ := hq39
          subst er16
          rw [ef15] at hP
          refine lv_if_eq (tgt := 60) hx hb dM_fits_42 (by decide) (fun c42 => ?_) (fun c42 => absurd (kb_0.mpr hq) c42)
          refine lv_iconst (v := nI 0) hx hb dM_fits_60 (by decide) ?_
          exact ret_z C0 rfl hP hS ⟨by rw [hq0]; rfl, rfl⟩ dM_fits_61
        · refine lv_iconst (v := nI 1) hx hb dM_fits_28 (by decide) ?_
          refine lv_goto (tgt := 33) hx hb dM_fits_29 (by decide) ?_
          refine lv_istore (lv' := [(6, .int (nI 1)), (5, .int (nI 1)), (0, .int kd), (1, .int a), (2, .int b), (3, .int cr), (4, .int k)]) hx hb dM_fits_33 hl (by decide) rfl (fun ls hl => ?_)
          refine lv_iload_n hx hb dM_fits_35 rfl (lv_at hl 2 rfl) ?_
          refine lv_iconst (v := nI 0) hx hb dM_fits_36 (by decide) ?_
          refine lv_bipush (v := nI 7) hx hb dM_fits_37 (by decide) ?_
          refine then_i (run_S (n := 3) (As := [.int kd, .int (nI 0), .int (nI 7)]) (rest := []) C0 (m_in hn) gw696 gw694 gw695 gw7 (by decide +kernel) ⟨Nat.le_of_ble_eq_true rfl, Nat.le_of_ble_eq_true rfl⟩ rfl rfl ⟨Nat.le_of_ble_eq_true rfl, Nat.le_of_ble_eq_true rfl⟩ hP rfl hl.1 rfl (Nat.le_of_ble_eq_true rfl) dM_fits_39) hS hA (fun r18 f17 H locs hq39 hP hS => ?_)
          obtain ⟨er18, ef17⟩ := hq39
          subst er18
          rw [ef17] at hP
          refine lv_if_eq (tgt := 60) hx hb dM_fits_42 (by decide) (fun c42 => ?_) (fun c42 => absurd (kb_0.mpr hq) c42)
          refine lv_iconst (v := nI 0) hx hb dM_fits_60 (by decide) ?_
          exact ret_z C0 rfl hP hS ⟨by rw [hq0]; rfl, rfl⟩ dM_fits_61
theorem m_fits {l : Launch} {D : va_G} {tys : List (ClassId × FieldType)} {L : List Nat} {f : Nat → va_E} (hn : L.Nodup) {kd a b cr k : Int32} : MetI l yM_fits wM_fits ({ frames := 2, cells := 0, slots := 0, locals := 42 } : Room) D tys L f [.int kd, .int a, .int b, .int cr, .int k] (fun r f' => r = kb (q_st kd a b cr k) ∧ f' = f) := by
  cases hq : q_in kd (nI 0) (nI 7) with
  | false => exact m_fits_out hn hq
  | true =>
    obtain ⟨n, hn8, rfl⟩ := q_in_nI (by omega) hq
    rcases (show n = 0 ∨ n = 1 ∨ n = 2 ∨ n = 3 ∨ n = 4 ∨ n = 5 ∨ n = 6 ∨ n = 7 by omega) with e | e | e | e | e | e | e | e <;> subst e
    · exact m_fits_0 hn
    · exact m_fits_1 hn
    · exact m_fits_2 hn
    · exact m_fits_3 hn
    · exact m_fits_4 hn
    · exact m_fits_5 hn
    · exact m_fits_6 hn
    · exact m_fits_7 hn
set_option maxRecDepth 100000 in
set_option maxHeartbeats 4000000 in
theorem m_given_loop {p : Program} {l : Launch} {e : Env} {s : State} {m : MethodId} {args : Array Value} {below : List Frame} {meth : Method} {c : Code} {D : va_G} {tys : List (ClassId × FieldType)} {L : List Nat} {f : Nat → va_E} (C0 : Cx p s m args meth c cM_given 4 "LiquidCheckerModel" (some .boolean) D tys) (hn : L.Nodup) {mo ap cm : Nat} {ad : Nat → Nat} {G : Nat → Nat → Int32} {th fe me fu le en sp ka kc se : Int32} {mx : Int64} {gc : Nat → Int32} {σ : Sg} {i : Nat} {x : Int32} (hi4 : i < 4) (hz16 : sz σ i ≤ 16) (hM : MT σ G) (hD : MD tys L f mo ap cm ad G th fe me fu le en sp ka kc mx se gc) : ∀ (n j : Nat), j + n = sz σ i → m_gvn σ i x = anyB (m_gP σ i x) n j → ∀ (H : Heap) (locs : List Loc) (ls : Array Slot), va_P D zCl (va_pl L f) H → va_S (inL L) s.heap H locs → lv_has ls 4 [(3, .int (nI (16 * i + j))), (0, .ref mo), (1, .int (nI i)), (2, .int x)] → W p l e ({ frames := 0, cells := 0, slots := 0, locals := 0 } : Room) s m args below meth c H locs 0 0 (MQ below (va_Qi (fun r f' => r = kb (m_gvn σ i x) ∧ f' = f) (cB D L) (inL L)) args s 0 0 (inL L)) (F0 m 12 ls []) := by
  obtain ⟨hx, hb, hml, hown, hg, hr, hlocks, hK, hN⟩ := id C0
  have hA : ∀ a ∈ L, inL L a := fun _ h => h
  intro n
  induction n with
  | zero =>
    intro j hj hal H locs ls hP hS hl
    obtain rfl : j = sz σ i := by omega
    refine lv_iload_n hx hb dM_given_12 rfl (lv_at hl 0 rfl) ?_
    refine lv_bipush (v := nI 16) hx hb dM_given_13 (by decide) ?_
    refine lv_iload_n hx hb dM_given_15 rfl (lv_at hl 2 rfl) ?_
    refine lv_imul hx hb dM_given_16 ?_
    rw [pk_mul]
    refine lv_aload_n hx hb dM_given_17 rfl (lv_at hl 1 rfl) ?_
    refine mm_get (v := .ref (ad 9)) hx hb hg inM hown hK hP hD.1.1.1 hD.2.1 rfl 10 (by decide) (hg _ gw603) (fun _ h9 => h9) rfl dM_given_18 ?_
    refine lv_iload_n hx hb dM_given_21 rfl (lv_at hl 2 rfl) ?_
    refine mm_iald hx hb hK hP (hD.1.2 9 (by decide)).1 (show mm_I tys f (ad 9) 4 (G 9) from (hD.1.2 9 (by decide)).2) (vp_in_nI (show i < 4 by omega) (by omega)) dM_given_22 ?_
    rw [nI_clamp (by omega)]
    rw [hM.2.2.2 i hi4]
    refine lv_iadd hx hb dM_given_23 ?_
    rw [nI_add]
    refine lv_icmp_ge (tgt := 66) hx hb dM_given_24 (by decide) (fun c24 => ?_) (fun c24 => absurd (nI_le (by omega) (by omega)) c24)
    refine lv_iconst (v := nI 0) hx hb dM_given_66 (by decide) ?_
    exact ret_z C0 rfl hP hS ⟨by rw [hal]; rfl, rfl⟩ dM_given_67
  | succ n ih =>
    intro j hj hal H locs ls hP hS hl
    refine lv_iload_n hx hb dM_given_12 rfl (lv_at hl 0 rfl) ?_
    refine lv_bipush (v := nI 16) hx hb dM_given_13 (by decide) ?_
    refine lv_iload_n hx hb dM_given_15 rfl (lv_at hl 2 rfl) ?_
    refine lv_imul hx hb dM_given_16 ?_
    rw [pk_mul]
    refine lv_aload_n hx hb dM_given_17 rfl (lv_at hl 1 rfl) ?_
    refine mm_get (v := .ref (ad 9)) hx hb hg inM hown hK hP hD.1.1.1 hD.2.1 rfl 10 (by decide) (hg _ gw603) (fun _ h9 => h9) rfl dM_given_18 ?_
    refine lv_iload_n hx hb dM_given_21 rfl (lv_at hl 2 rfl) ?_
    refine mm_iald hx hb hK hP (hD.1.2 9 (by decide)).1 (show mm_I tys f (ad 9) 4 (G 9) from (hD.1.2 9 (by decide)).2) (vp_in_nI (show i < 4 by omega) (by omega)) dM_given_22 ?_
    rw [nI_clamp (by omega)]
    rw [hM.2.2.2 i hi4]
    refine lv_iadd hx hb dM_given_23 ?_
    rw [nI_add]
    refine lv_icmp_ge (tgt := 66) hx hb dM_given_24 (by decide) (fun c24 => absurd c24 (nI_ge (show 16 * i + j < 16 * i + sz σ i by omega) (by omega))) (fun c24 => ?_)
    refine lv_aload_n hx hb dM_given_27 rfl (lv_at hl 1 rfl) ?_
    refine mm_get (v := .ref (ad 4)) hx hb hg inM hown hK hP hD.1.1.1 hD.2.1 rfl 5 (by decide) (hg _ gw598) (fun _ h9 => h9) rfl dM_given_28 ?_
    refine lv_iload_n hx hb dM_given_31 rfl (lv_at hl 0 rfl) ?_
    refine mm_iald hx hb hK hP (hD.1.2 4 (by decide)).1 (show mm_I tys f (ad 4) 64 (G 4) from (hD.1.2 4 (by decide)).2) (vp_in_nI (show 16 * i + j < 64 by omega) (by omega)) dM_given_32 ?_
    rw [nI_clamp (by omega)]
    rw [(hM.2.2.1 (16 * i + j) (by omega)).1]
    refine lv_iconst (v := nI 2) hx hb dM_given_33 (by decide) ?_
    refine lv_icmp_lt (tgt := 48) hx hb dM_given_34 (by decide) (fun c34 => ?_) (fun c34 => ?_)
    · refine lv_aload_n hx hb dM_given_48 rfl (lv_at hl 1 rfl) ?_
      refine mm_get (v := .ref (ad 5)) hx hb hg inM hown hK hP hD.1.1.1 hD.2.1 rfl 6 (by decide) (hg _ gw599) (fun _ h9 => h9) rfl dM_given_49 ?_
      refine lv_iload_n hx hb dM_given_52 rfl (lv_at hl 0 rfl) ?_
      refine mm_iald hx hb hK hP (hD.1.2 5 (by decide)).1 (show mm_I tys f (ad 5) 64 (G 5) from (hD.1.2 5 (by decide)).2) (vp_in_nI (show 16 * i + j < 64 by omega) (by omega)) dM_given_53 ?_
      rw [nI_clamp (by omega)]
      rw [(hM.2.2.1 (16 * i + j) (by omega)).2.1]
      refine lv_iload_n hx hb dM_given_54 rfl (lv_at hl 3 rfl) ?_
      refine lv_icmp_ne (tgt := 60) hx hb dM_given_55 (by decide) (fun c55 => ?_) (fun c55 => ?_)
      · refine lv_iinc (v := nI ((16 * i + j) + 1)) (lv' := [(3, .int (nI ((16 * i + j) + 1))), (0, .ref mo), (1, .int (nI i)), (2, .int x)]) hx hb dM_given_60 hl (k := 0) rfl (nI_add (16 * i + j) 1) (by decide) rfl (fun ls hl => ?_)
        refine lv_goto (tgt := 12) hx hb dM_given_63 (by decide) ?_
        exact ih (j + 1) (by omega) (by rw [hal]; show (m_gP σ i x j || _) = _; rw [show m_gP σ i x j = false from by unfold m_gP m_gk; simp [c55]]; rfl) H locs ls hP hS (lv_sub hl [0, 1, 2, 3] rfl)
      · refine lv_iconst (v := nI 1) hx hb dM_given_58 (by decide) ?_
        exact ret_z C0 rfl hP hS ⟨by rw [hal]; show _ = kb (m_gP σ i x j || _); rw [show m_gP σ i x j = true from by unfold m_gP m_gk; simp [c34, c55]]; rfl, rfl⟩ dM_given_59
    · refine lv_aload_n hx hb dM_given_37 rfl (lv_at hl 1 rfl) ?_
      refine mm_get (v := .ref (ad 4)) hx hb hg inM hown hK hP hD.1.1.1 hD.2.1 rfl 5 (by decide) (hg _ gw598) (fun _ h9 => h9) rfl dM_given_38 ?_
      refine lv_iload_n hx hb dM_given_41 rfl (lv_at hl 0 rfl) ?_
      refine mm_iald hx hb hK hP (hD.1.2 4 (by decide)).1 (show mm_I tys f (ad 4) 64 (G 4) from (hD.1.2 4 (by decide)).2) (vp_in_nI (show 16 * i + j < 64 by omega) (by omega)) dM_given_42 ?_
      rw [nI_clamp (by omega)]
      rw [(hM.2.2.1 (16 * i + j) (by omega)).1]
      refine lv_bipush (v := nI 7) hx hb dM_given_43 (by decide) ?_
      refine lv_icmp_ne (tgt := 60) hx hb dM_given_45 (by decide) (fun c45 => ?_) (fun c45 => ?_)
      · refine lv_iinc (v := nI ((16 * i + j) + 1)) (lv' := [(3, .int (nI ((16 * i + j) + 1))), (0, .ref mo), (1, .int (nI i)), (2, .int x)]) hx hb dM_given_60 hl (k := 0) rfl (nI_add (16 * i + j) 1) (by decide) rfl (fun ls hl => ?_)
        refine lv_goto (tgt := 12) hx hb dM_given_63 (by decide) ?_
        exact ih (j + 1) (by omega) (by rw [hal]; show (m_gP σ i x j || _) = _; rw [show m_gP σ i x j = false from by unfold m_gP m_gk; simp [c34, c45]]; rfl) H locs ls hP hS (lv_sub hl [0, 1, 2, 3] rfl)
      · refine lv_aload_n hx hb dM_given_48 rfl (lv_at hl 1 rfl) ?_
        refine mm_get (v := .ref (ad 5)) hx hb hg inM hown hK hP hD.1.1.1 hD.2.1 rfl 6 (by decide) (hg _ gw599) (fun _ h9 => h9) rfl dM_given_49 ?_
        refine lv_iload_n hx hb dM_given_52 rfl (lv_at hl 0 rfl) ?_
        refine mm_iald hx hb hK hP (hD.1.2 5 (by decide)).1 (show mm_I tys f (ad 5) 64 (G 5) from (hD.1.2 5 (by decide)).2) (vp_in_nI (show 16 * i + j < 64 by omega) (by omega)) dM_given_53 ?_
        rw [nI_clamp (by omega)]
        rw [(hM.2.2.1 (16 * i + j) (by omega)).2.1]
        refine lv_iload_n hx hb dM_given_54 rfl (lv_at hl 3 rfl) ?_
        refine lv_icmp_ne (tgt := 60) hx hb dM_given_55 (by decide) (fun c55 => ?_) (fun c55 => ?_)
        · refine lv_iinc (v := nI ((16 * i + j) + 1)) (lv' := [(3, .int (nI ((16 * i + j) + 1))), (0, .ref mo), (1, .int (nI i)), (2, .int x)]) hx hb dM_given_60 hl (k := 0) rfl (nI_add (16 * i + j) 1) (by decide) rfl (fun ls hl => ?_)
          refine lv_goto (tgt := 12) hx hb dM_given_63 (by decide) ?_
          exact ih (j + 1) (by omega) (by rw [hal]; show (m_gP σ i x j || _) = _; rw [show m_gP σ i x j = false from by unfold m_gP m_gk; simp [c55]]; rfl) H locs ls hP hS (lv_sub hl [0, 1, 2, 3] rfl)
        · refine lv_iconst (v := nI 1) hx hb dM_given_58 (by decide) ?_
          exact ret_z C0 rfl hP hS ⟨by rw [hal]; show _ = kb (m_gP σ i x j || _); rw [show m_gP σ i x j = true from by unfold m_gP m_gk; simp [c45, c55]]; rfl, rfl⟩ dM_given_59
set_option maxRecDepth 100000 in
set_option maxHeartbeats 4000000 in
theorem m_given {l : Launch} {D : va_G} {tys : List (ClassId × FieldType)} {L : List Nat} {f : Nat → va_E} (hn : L.Nodup) {mo ap cm : Nat} {ad : Nat → Nat} {G : Nat → Nat → Int32} {th fe me fu le en sp ka kc se : Int32} {mx : Int64} {gc : Nat → Int32} {σ : Sg} {i : Nat} {x : Int32} (hi4 : i < 4) (hz16 : sz σ i ≤ 16) (hM : MT σ G) (hD : MD tys L f mo ap cm ad G th fe me fu le en sp ka kc mx se gc) : MetI l yM_given wM_given ({ frames := 0, cells := 0, slots := 0, locals := 0 } : Room) D tys L f [.ref mo, .int (nI i), .int x] (fun r f' => r = kb (m_gvn σ i x) ∧ f' = f) := by
  refine met_of "LiquidCheckerModel" (by decide) rfl (Nat.le_of_ble_eq_true rfl) ?_
  intro pgm e s m below meth c ls C0 hP hl
  obtain ⟨hx, hb, hml, hown, hg, hr, hlocks, hK, hN⟩ := id C0
  have hA : ∀ a ∈ L, inL L a := fun _ h => h
  obtain ⟨H, hH⟩ : ∃ z, z = s.heap := ⟨_, rfl⟩
  rw [← hH] at hP ⊢
  have hS : va_S (inL L) s.heap H [] := by rw [hH]; exact va_S.rf
  have hl : lv_has ls 4 [(0, .ref mo), (1, .int (nI i)), (2, .int x)] := hl
  refine lv_iload_n hx hb dM_given_0 rfl (lv_at hl 2 rfl) ?_
  refine lv_iconst (v := nI 4) hx hb dM_given_1 (by decide) ?_
  refine lv_icmp_ge (tgt := 7) hx hb dM_given_2 (by decide) (fun c2 => ?_) (fun c2 => ?_)
  · refine lv_bipush (v := nI 16) hx hb dM_given_7 (by decide) ?_
    refine lv_iload_n hx hb dM_given_9 rfl (lv_at hl 1 rfl) ?_
    refine lv_imul hx hb dM_given_10 ?_
    rw [pk_mul]
    refine lv_istore_n (lv' := [(3, .int (nI (16 * i))), (0, .ref mo), (1, .int (nI i)), (2, .int x)]) hx hb dM_given_11 rfl hl (by decide) rfl (fun ls hl => ?_)
    exact m_given_loop C0 hn hi4 hz16 hM hD (sz σ i) 0 (by omega) (by unfold m_gvn; rw [show decide (x < nI 4) = false from decide_eq_false (Int32.not_lt.mpr c2)]; rfl) H [] ls hP hS (lv_sub hl [0, 1, 2, 3] rfl)
  · refine lv_iconst (v := nI 1) hx hb dM_given_5 (by decide) ?_
    exact ret_z C0 rfl hP hS ⟨by unfold m_gvn; rw [show decide (x < nI 4) = true from decide_eq_true (Int32.not_le.mp c2)]; rfl, rfl⟩ dM_given_6
theorem nI_0le {n : Nat} (hn : n < 2 ^ 31) (h : nI n ≤ 0) : nI n = 0 := by
  rw [Int32.le_iff_toInt_le, nI_toInt hn, show (0 : Int32).toInt = 0 by decide +kernel] at h
  rw [show n = 0 by omega]
  rfl
set_option maxRecDepth 100000 in
set_option maxHeartbeats 4000000 in
theorem m_stands_0 {l : Launch} {D : va_G} {tys : List (ClassId × FieldType)} {L : List Nat} {f : Nat → va_E} (hn : L.Nodup) {mo ap cm : Nat} {ad : Nat → Nat} {G : Nat → Nat → Int32} {th fe me fu le en sp ka kc se : Int32} {mx : Int64} {gc : Nat → Int32} {σ : Sg} {i oi tm : Nat} {a b cr : Int32} (hi4 : i < 4) (hz16 : sz σ i ≤ 16) (hM : MT σ G) (ho : G 15 i = nI oi) (ho6 : oi ≤ 6) (ht : 0 < oi → G 14 (6 * i + oi - 1) = nI tm ∧ tm < 64) (hD : MD tys L f mo ap cm ad G th fe me fu le en sp ka kc mx se gc) : MetI l yM_stands wM_stands ({ frames := 1, cells := 0, slots := 0, locals := 23 } : Room) D tys L f [.ref mo, .int (nI i), .int (nI 0), .int a, .int b, .int cr] (fun r f' => r = kb (m_hw σ i (nI 0) a b cr && m_op oi (G 11 tm) (nI 0)) ∧ f' = f) := by
  refine met_of "LiquidCheckerModel" (by decide) rfl (Nat.le_of_ble_eq_true rfl) ?_
  intro pgm e s m below meth c ls C0 hP hl
  obtain ⟨hx, hb, hml, hown, hg, hr, hlocks, hK, hN⟩ := id C0
  have hA : ∀ a ∈ L, inL L a := fun _ h => h
  obtain ⟨H, hH⟩ : ∃ z, z = s.heap := ⟨_, rfl⟩
  rw [← hH] at hP ⊢
  have hS : va_S (inL L) s.heap H [] := by rw [hH]; exact va_S.rf
  have hl : lv_has ls 7 [(0, .ref mo), (1, .int (nI i)), (2, .int (nI 0)), (3, .int a), (4, .int b), (5, .int cr)] := hl
  refine lv_iload_n hx hb dM_stands_0 rfl (lv_at hl 2 rfl) ?_
  refine lv_iconst (v := nI 2) hx hb dM_stands_1 (by decide) ?_
  refine lv_icmp_eq (tgt := 10) hx hb dM_stands_2 (by decide) (fun c2 => absurd c2 (by decide +kernel)) (fun c2 => ?_)
  refine lv_iload_n hx hb dM_stands_5 rfl (lv_at hl 2 rfl) ?_
  refine lv_iconst (v := nI 5) hx hb dM_stands_6 (by decide) ?_
  refine lv_icmp_ne (tgt := 14) hx hb dM_stands_7 (by decide) (fun c7 => ?_) (fun c7 => absurd c7 (by decide +kernel))
  refine lv_iconst (v := nI 0) hx hb dM_stands_14 (by decide) ?_
  refine lv_istore (lv' := [(6, .int (nI 0)), (0, .ref mo), (1, .int (nI i)), (2, .int (nI 0)), (3, .int a), (4, .int b), (5, .int cr)]) hx hb dM_stands_15 hl (by decide) rfl (fun ls hl => ?_)
  refine lv_iload hx hb dM_stands_17 (lv_at hl 0 rfl) ?_
  refine lv_if_eq (tgt := 31) hx hb dM_stands_19 (by decide) (fun c19 => ?_) (fun c19 => absurd nI_0 c19)
  refine lv_iload_n hx hb dM_stands_31 rfl (lv_at hl 3 rfl) ?_
  refine lv_iconst (v := nI 2) hx hb dM_stands_32 (by decide) ?_
  refine lv_icmp_lt (tgt := 47) hx hb dM_stands_33 (by decide) (fun c33 => ?_) (fun c33 => absurd (by decide +kernel) c33)
  refine lv_aload_n hx hb dM_stands_47 rfl (lv_at hl 1 rfl) ?_
  refine lv_iload_n hx hb dM_stands_48 rfl (lv_at hl 2 rfl) ?_
  refine lv_iload hx hb dM_stands_49 (lv_at hl 5 rfl) ?_
  refine then_i (run_V (n := 2) (As := [.int (nI i), .int b]) (rest := []) C0 (m_given hn hi4 hz16 hM hD) gw718 gw715 gw717 gsM_given gw7 (by decide +kernel) ⟨Nat.le_of_ble_eq_true rfl, Nat.le_of_ble_eq_true rfl⟩ rfl rfl ⟨Nat.le_of_ble_eq_true rfl, Nat.le_of_ble_eq_true rfl⟩ hP hD.1.1.1 hD.2.1 rfl rfl rfl hl.1 rfl (Nat.le_of_ble_eq_true rfl) dM_stands_51) hS hA (fun r2 f1 H locs hq51 hP hS => ?_)
  obtain ⟨er2, ef1⟩ := hq51
  subst er2
  rw [ef1] at hP
  refine lv_if_eq (tgt := 72) hx hb dM_stands_54 (by decide) (fun c54 => ?_) (fun c54 => ?_)
  · have c54 : (m_gvn σ i b) = false := kb_0.mp c54
    refine lv_iconst (v := nI 0) hx hb dM_stands_72 (by decide) ?_
    exact ret_z C0 rfl hP hS ⟨by rw [m_std_0, show m_gvn σ i b = _ from c54]; simp [kb], rfl⟩ dM_stands_73
  · have c54 : (m_gvn σ i b) = true := kb_t.mp c54
    refine lv_iload_n hx hb dM_stands_57 rfl (lv_at hl 3 rfl) ?_
    refine lv_iconst (v := nI 1) hx hb dM_stands_58 (by decide) ?_
    refine lv_icmp_ne (tgt := 74) hx hb dM_stands_59 (by decide) (fun c59 => ?_) (fun c59 => absurd c59 (by decide +kernel))
    refine lv_iload_n hx hb dM_stands_74 rfl (lv_at hl 3 rfl) ?_
    refine lv_iconst (v := nI 3) hx hb dM_stands_75 (by decide) ?_
    refine lv_icmp_eq (tgt := 86) hx hb dM_stands_76 (by decide) (fun c76 => absurd c76 (by decide +kernel)) (fun c76 => ?_)
    refine lv_iload_n hx hb dM_stands_79 rfl (lv_at hl 3 rfl) ?_
    refine lv_iconst (v := nI 4) hx hb dM_stands_80 (by decide) ?_
    refine lv_icmp_eq (tgt := 86) hx hb dM_stands_81 (by decide) (fun c81 => absurd c81 (by decide +kernel)) (fun c81 => ?_)
    refine lv_iconst (v := nI 1) hx hb dM_stands_84 (by decide) ?_
    exact ret_z C0 rfl hP hS ⟨by rw [m_std_0, show m_gvn σ i b = _ from c54]; rfl, rfl⟩ dM_stands_85
set_option maxRecDepth 100000 in
set_option maxHeartbeats 4000000 in
theorem m_stands_1 {l : Launch} {D : va_G} {tys : List (ClassId × FieldType)} {L : List Nat} {f : Nat → va_E} (hn : L.Nodup) {mo ap cm : Nat} {ad : Nat → Nat} {G : Nat → Nat → Int32} {th fe me fu le en sp ka kc se : Int32} {mx : Int64} {gc : Nat → Int32} {σ : Sg} {i oi tm : Nat} {a b cr : Int32} (hi4 : i < 4) (hz16 : sz σ i ≤ 16) (hM : MT σ G) (ho : G 15 i = nI oi) (ho6 : oi ≤ 6) (ht : 0 < oi → G 14 (6 * i + oi - 1) = nI tm ∧ tm < 64) (hD : MD tys L f mo ap cm ad G th fe me fu le en sp ka kc mx se gc) : MetI l yM_stands wM_stands ({ frames := 1, cells := 0, slots := 0, locals := 23 } : Room) D tys L f [.ref mo, .int (nI i), .int (nI 1), .int a, .int b, .int cr] (fun r f' => r = kb (m_hw σ i (nI 1) a b cr && m_op oi (G 11 tm) (nI 1)) ∧ f' = f) := by
  refine met_of "LiquidCheckerModel" (by decide) rfl (Nat.le_of_ble_eq_true rfl) ?_
  intro pgm e s m below meth c ls C0 hP hl
  obtain ⟨hx, hb, hml, hown, hg, hr, hlocks, hK, hN⟩ := id C0
  have hA : ∀ a ∈ L, inL L a := fun _ h => h
  obtain ⟨H, hH⟩ : ∃ z, z = s.heap := ⟨_, rfl⟩
  rw [← hH] at hP ⊢
  have hS : va_S (inL L) s.heap H [] := by rw [hH]; exact va_S.rf
  have hl : lv_has ls 7 [(0, .ref mo), (1, .int (nI i)), (2, .int (nI 1)), (3, .int a), (4, .int b), (5, .int cr)] := hl
  refine lv_iload_n hx hb dM_stands_0 rfl (lv_at hl 2 rfl) ?_
  refine lv_iconst (v := nI 2) hx hb dM_stands_1 (by decide) ?_
  refine lv_icmp_eq (tgt := 10) hx hb dM_stands_2 (by decide) (fun c2 => absurd c2 (by decide +kernel)) (fun c2 => ?_)
  refine lv_iload_n hx hb dM_stands_5 rfl (lv_at hl 2 rfl) ?_
  refine lv_iconst (v := nI 5) hx hb dM_stands_6 (by decide) ?_
  refine lv_icmp_ne (tgt := 14) hx hb dM_stands_7 (by decide) (fun c7 => ?_) (fun c7 => absurd c7 (by decide +kernel))
  refine lv_iconst (v := nI 0) hx hb dM_stands_14 (by decide) ?_
  refine lv_istore (lv' := [(6, .int (nI 0)), (0, .ref mo), (1, .int (nI i)), (2, .int (nI 1)), (3, .int a), (4, .int b), (5, .int cr)]) hx hb dM_stands_15 hl (by decide) rfl (fun ls hl => ?_)
  refine lv_iload hx hb dM_stands_17 (lv_at hl 0 rfl) ?_
  refine lv_if_eq (tgt := 31) hx hb dM_stands_19 (by decide) (fun c19 => ?_) (fun c19 => absurd nI_0 c19)
  refine lv_iload_n hx hb dM_stands_31 rfl (lv_at hl 3 rfl) ?_
  refine lv_iconst (v := nI 2) hx hb dM_stands_32 (by decide) ?_
  refine lv_icmp_lt (tgt := 47) hx hb dM_stands_33 (by decide) (fun c33 => ?_) (fun c33 => absurd (by decide +kernel) c33)
  refine lv_aload_n hx hb dM_stands_47 rfl (lv_at hl 1 rfl) ?_
  refine lv_iload_n hx hb dM_stands_48 rfl (lv_at hl 2 rfl) ?_
  refine lv_iload hx hb dM_stands_49 (lv_at hl 5 rfl) ?_
  refine then_i (run_V (n := 2) (As := [.int (nI i), .int b]) (rest := []) C0 (m_given hn hi4 hz16 hM hD) gw718 gw715 gw717 gsM_given gw7 (by decide +kernel) ⟨Nat.le_of_ble_eq_true rfl, Nat.le_of_ble_eq_true rfl⟩ rfl rfl ⟨Nat.le_of_ble_eq_true rfl, Nat.le_of_ble_eq_true rfl⟩ hP hD.1.1.1 hD.2.1 rfl rfl rfl hl.1 rfl (Nat.le_of_ble_eq_true rfl) dM_stands_51) hS hA (fun r2 f1 H locs hq51 hP hS => ?_)
  obtain ⟨er2, ef1⟩ := hq51
  subst er2
  rw [ef1] at hP
  refine lv_if_eq (tgt := 72) hx hb dM_stands_54 (by decide) (fun c54 => ?_) (fun c54 => ?_)
  · have c54 : (m_gvn σ i b) = false := kb_0.mp c54
    refine lv_iconst (v := nI 0) hx hb dM_stands_72 (by decide) ?_
    exact ret_z C0 rfl hP hS ⟨by rw [m_std_1, show m_gvn σ i b = _ from c54]; simp [kb], rfl⟩ dM_stands_73
  · have c54 : (m_gvn σ i b) = true := kb_t.mp c54
    refine lv_iload_n hx hb dM_stands_57 rfl (lv_at hl 3 rfl) ?_
    refine lv_iconst (v := nI 1) hx hb dM_stands_58 (by decide) ?_
    refine lv_icmp_ne (tgt := 74) hx hb dM_stands_59 (by decide) (fun c59 => absurd (by decide +kernel) c59) (fun c59 => ?_)
    refine lv_aload_n hx hb dM_stands_62 rfl (lv_at hl 1 rfl) ?_
    refine lv_iload_n hx hb dM_stands_63 rfl (lv_at hl 2 rfl) ?_
    refine lv_iload hx hb dM_stands_64 (lv_at hl 6 rfl) ?_
    refine then_i (run_V (n := 2) (As := [.int (nI i), .int cr]) (rest := []) C0 (m_given hn hi4 hz16 hM hD) gw718 gw715 gw717 gsM_given gw7 (by decide +kernel) ⟨Nat.le_of_ble_eq_true rfl, Nat.le_of_ble_eq_true rfl⟩ rfl rfl ⟨Nat.le_of_ble_eq_true rfl, Nat.le_of_ble_eq_true rfl⟩ hP hD.1.1.1 hD.2.1 rfl rfl rfl hl.1 rfl (Nat.le_of_ble_eq_true rfl) dM_stands_66) hS hA (fun r4 f3 H locs hq66 hP hS => ?_)
    obtain ⟨er4, ef3⟩ := hq66
    subst er4
    rw [ef3] at hP
    refine lv_if_ne (tgt := 74) hx hb dM_stands_69 (by decide) (fun c69 => ?_) (fun c69 => ?_)
    · have c69 : (m_gvn σ i cr) = true := kb_t.mp c69
      refine lv_iload_n hx hb dM_stands_74 rfl (lv_at hl 3 rfl) ?_
      refine lv_iconst (v := nI 3) hx hb dM_stands_75 (by decide) ?_
      refine lv_icmp_eq (tgt := 86) hx hb dM_stands_76 (by decide) (fun c76 => absurd c76 (by decide +kernel)) (fun c76 => ?_)
      refine lv_iload_n hx hb dM_stands_79 rfl (lv_at hl 3 rfl) ?_
      refine lv_iconst (v := nI 4) hx hb dM_stands_80 (by decide) ?_
      refine lv_icmp_eq (tgt := 86) hx hb dM_stands_81 (by decide) (fun c81 => absurd c81 (by decide +kernel)) (fun c81 => ?_)
      refine lv_iconst (v := nI 1) hx hb dM_stands_84 (by decide) ?_
      exact ret_z C0 rfl hP hS ⟨by rw [m_std_1, show m_gvn σ i b = _ from c54, show m_gvn σ i cr = _ from c69]; rfl, rfl⟩ dM_stands_85
    · have c69 : (m_gvn σ i cr) = false := kb_0.mp c69
      refine lv_iconst (v := nI 0) hx hb dM_stands_72 (by decide) ?_
      exact ret_z C0 rfl hP hS ⟨by rw [m_std_1, show m_gvn σ i b = _ from c54, show m_gvn σ i cr = _ from c69]; simp [kb], rfl⟩ dM_stands_73
set_option maxRecDepth 100000 in
set_option maxHeartbeats 4000000 in
theorem m_stands_2 {l : Launch} {D : va_G} {tys : List (ClassId × FieldType)} {L : List Nat} {f : Nat → va_E} (hn : L.Nodup) {mo ap cm : Nat} {ad : Nat → Nat} {G : Nat → Nat → Int32} {th fe me fu le en sp ka kc se : Int32} {mx : Int64} {gc : Nat → Int32} {σ : Sg} {i oi tm : Nat} {a b cr : Int32} (hi4 : i < 4) (hz16 : sz σ i ≤ 16) (hM : MT σ G) (ho : G 15 i = nI oi) (ho6 : oi ≤ 6) (ht : 0 < oi → G 14 (6 * i + oi - 1) = nI tm ∧ tm < 64) (hD : MD tys L f mo ap cm ad G th fe me fu le en sp ka kc mx se gc) : MetI l yM_stands wM_stands ({ frames := 1, cells := 0, slots := 0, locals := 23 } : Room) D tys L f [.ref mo, .int (nI i), .int (nI 2), .int a, .int b, .int cr] (fun r f' => r = kb (m_hw σ i (nI 2) a b cr && m_op oi (G 11 tm) (nI 2)) ∧ f' = f) := by
  refine met_of "LiquidCheckerModel" (by decide) rfl (Nat.le_of_ble_eq_true rfl) ?_
  intro pgm e s m below meth c ls C0 hP hl
  obtain ⟨hx, hb, hml, hown, hg, hr, hlocks, hK, hN⟩ := id C0
  have hA : ∀ a ∈ L, inL L a := fun _ h => h
  obtain ⟨H, hH⟩ : ∃ z, z = s.heap := ⟨_, rfl⟩
  rw [← hH] at hP ⊢
  have hS : va_S (inL L) s.heap H [] := by rw [hH]; exact va_S.rf
  have hl : lv_has ls 7 [(0, .ref mo), (1, .int (nI i)), (2, .int (nI 2)), (3, .int a), (4, .int b), (5, .int cr)] := hl
  refine lv_iload_n hx hb dM_stands_0 rfl (lv_at hl 2 rfl) ?_
  refine lv_iconst (v := nI 2) hx hb dM_stands_1 (by decide) ?_
  refine lv_icmp_eq (tgt := 10) hx hb dM_stands_2 (by decide) (fun c2 => ?_) (fun c2 => absurd (by decide +kernel) c2)
  refine lv_iconst (v := nI 1) hx hb dM_stands_10 (by decide) ?_
  refine lv_goto (tgt := 15) hx hb dM_stands_11 (by decide) ?_
  refine lv_istore (lv' := [(6, .int (nI 1)), (0, .ref mo), (1, .int (nI i)), (2, .int (nI 2)), (3, .int a), (4, .int b), (5, .int cr)]) hx hb dM_stands_15 hl (by decide) rfl (fun ls hl => ?_)
  refine lv_iload hx hb dM_stands_17 (lv_at hl 0 rfl) ?_
  refine lv_if_eq (tgt := 31) hx hb dM_stands_19 (by decide) (fun c19 => absurd c19 (by decide +kernel)) (fun c19 => ?_)
  refine lv_aload_n hx hb dM_stands_22 rfl (lv_at hl 1 rfl) ?_
  refine lv_iload_n hx hb dM_stands_23 rfl (lv_at hl 2 rfl) ?_
  refine lv_iload_n hx hb dM_stands_24 rfl (lv_at hl 4 rfl) ?_
  refine then_i (run_V (n := 2) (As := [.int (nI i), .int a]) (rest := []) C0 (m_given hn hi4 hz16 hM hD) gw718 gw715 gw717 gsM_given gw7 (by decide +kernel) ⟨Nat.le_of_ble_eq_true rfl, Nat.le_of_ble_eq_true rfl⟩ rfl rfl ⟨Nat.le_of_ble_eq_true rfl, Nat.le_of_ble_eq_true rfl⟩ hP hD.1.1.1 hD.2.1 rfl rfl rfl hl.1 rfl (Nat.le_of_ble_eq_true rfl) dM_stands_25) hS hA (fun r2 f1 H locs hq25 hP hS => ?_)
  obtain ⟨er2, ef1⟩ := hq25
  subst er2
  rw [ef1] at hP
  refine lv_if_eq (tgt := 72) hx hb dM_stands_28 (by decide) (fun c28 => ?_) (fun c28 => ?_)
  · have c28 : (m_gvn σ i a) = false := kb_0.mp c28
    refine lv_iconst (v := nI 0) hx hb dM_stands_72 (by decide) ?_
    exact ret_z C0 rfl hP hS ⟨by rw [m_std_2, show m_gvn σ i a = _ from c28]; simp [kb], rfl⟩ dM_stands_73
  · have c28 : (m_gvn σ i a) = true := kb_t.mp c28
    refine lv_iload_n hx hb dM_stands_31 rfl (lv_at hl 3 rfl) ?_
    refine lv_iconst (v := nI 2) hx hb dM_stands_32 (by decide) ?_
    refine lv_icmp_lt (tgt := 47) hx hb dM_stands_33 (by decide) (fun c33 => absurd c33 (by decide +kernel)) (fun c33 => ?_)
    refine lv_iload hx hb dM_stands_36 (lv_at hl 0 rfl) ?_
    refine lv_if_ne (tgt := 47) hx hb dM_stands_38 (by decide) (fun c38 => ?_) (fun c38 => absurd c38 (by decide +kernel))
    refine lv_aload_n hx hb dM_stands_47 rfl (lv_at hl 1 rfl) ?_
    refine lv_iload_n hx hb dM_stands_48 rfl (lv_at hl 2 rfl) ?_
    refine lv_iload hx hb dM_stands_49 (lv_at hl 5 rfl) ?_
    refine then_i (run_V (n := 2) (As := [.int (nI i), .int b]) (rest := []) C0 (m_given hn hi4 hz16 hM hD) gw718 gw715 gw717 gsM_given gw7 (by decide +kernel) ⟨Nat.le_of_ble_eq_true rfl, Nat.le_of_ble_eq_true rfl⟩ rfl rfl ⟨Nat.le_of_ble_eq_true rfl, Nat.le_of_ble_eq_true rfl⟩ hP hD.1.1.1 hD.2.1 rfl rfl rfl hl.1 rfl (Nat.le_of_ble_eq_true rfl) dM_stands_51) hS hA (fun r4 f3 H locs hq51 hP hS => ?_)
    obtain ⟨er4, ef3⟩ := hq51
    subst er4
    rw [ef3] at hP
    refine lv_if_eq (tgt := 72) hx hb dM_stands_54 (by decide) (fun c54 => ?_) (fun c54 => ?_)
    · have c54 : (m_gvn σ i b) = false := kb_0.mp c54
      refine lv_iconst (v := nI 0) hx hb dM_stands_72 (by decide) ?_
      exact ret_z C0 rfl hP hS ⟨by rw [m_std_2, show m_gvn σ i a = _ from c28, show m_gvn σ i b = _ from c54]; simp [kb], rfl⟩ dM_stands_73
    · have c54 : (m_gvn σ i b) = true := kb_t.mp c54
      refine lv_iload_n hx hb dM_stands_57 rfl (lv_at hl 3 rfl) ?_
      refine lv_iconst (v := nI 1) hx hb dM_stands_58 (by decide) ?_
      refine lv_icmp_ne (tgt := 74) hx hb dM_stands_59 (by decide) (fun c59 => ?_) (fun c59 => absurd c59 (by decide +kernel))
      refine lv_iload_n hx hb dM_stands_74 rfl (lv_at hl 3 rfl) ?_
      refine lv_iconst (v := nI 3) hx hb dM_stands_75 (by decide) ?_
      refine lv_icmp_eq (tgt := 86) hx hb dM_stands_76 (by decide) (fun c76 => absurd c76 (by decide +kernel)) (fun c76 => ?_)
      refine lv_iload_n hx hb dM_stands_79 rfl (lv_at hl 3 rfl) ?_
      refine lv_iconst (v := nI 4) hx hb dM_stands_80 (by decide) ?_
      refine lv_icmp_eq (tgt := 86) hx hb dM_stands_81 (by decide) (fun c81 => absurd c81 (by decide +kernel)) (fun c81 => ?_)
      refine lv_iconst (v := nI 1) hx hb dM_stands_84 (by decide) ?_
      exact ret_z C0 rfl hP hS ⟨by rw [m_std_2, show m_gvn σ i a = _ from c28, show m_gvn σ i b = _ from c54]; rfl, rfl⟩ dM_stands_85
set_option maxRecDepth 100000 in
set_option maxHeartbeats 4000000 in
theorem m_stands_3 {l : Launch} {D : va_G} {tys : List (ClassId × FieldType)} {L : List Nat} {f : Nat → va_E} (hn : L.Nodup) {mo ap cm : Nat} {ad : Nat → Nat} {G : Nat → Nat → Int32} {th fe me fu le en sp ka kc se : Int32} {mx : Int64} {gc : Nat → Int32} {σ : Sg} {i oi tm : Nat} {a b cr : Int32} (hi4 : i < 4) (hz16 : sz σ i ≤ 16) (hM : MT σ G) (ho : G 15 i = nI oi) (ho6 : oi ≤ 6) (ht : 0 < oi → G 14 (6 * i + oi - 1) = nI tm ∧ tm < 64) (hD : MD tys L f mo ap cm ad G th fe me fu le en sp ka kc mx se gc) : MetI l yM_stands wM_stands ({ frames := 1, cells := 0, slots := 0, locals := 23 } : Room) D tys L f [.ref mo, .int (nI i), .int (nI 3), .int a, .int b, .int cr] (fun r f' => r = kb (m_hw σ i (nI 3) a b cr && m_op oi (G 11 tm) (nI 3)) ∧ f' = f) := by
  refine met_of "LiquidCheckerModel" (by decide) rfl (Nat.le_of_ble_eq_true rfl) ?_
  intro pgm e s m below meth c ls C0 hP hl
  obtain ⟨hx, hb, hml, hown, hg, hr, hlocks, hK, hN⟩ := id C0
  have hA : ∀ a ∈ L, inL L a := fun _ h => h
  obtain ⟨H, hH⟩ : ∃ z, z = s.heap := ⟨_, rfl⟩
  rw [← hH] at hP ⊢
  have hS : va_S (inL L) s.heap H [] := by rw [hH]; exact va_S.rf
  have hl : lv_has ls 7 [(0, .ref mo), (1, .int (nI i)), (2, .int (nI 3)), (3, .int a), (4, .int b), (5, .int cr)] := hl
  refine lv_iload_n hx hb dM_stands_0 rfl (lv_at hl 2 rfl) ?_
  refine lv_iconst (v := nI 2) hx hb dM_stands_1 (by decide) ?_
  refine lv_icmp_eq (tgt := 10) hx hb dM_stands_2 (by decide) (fun c2 => absurd c2 (by decide +kernel)) (fun c2 => ?_)
  refine lv_iload_n hx hb dM_stands_5 rfl (lv_at hl 2 rfl) ?_
  refine lv_iconst (v := nI 5) hx hb dM_stands_6 (by decide) ?_
  refine lv_icmp_ne (tgt := 14) hx hb dM_stands_7 (by decide) (fun c7 => ?_) (fun c7 => absurd c7 (by decide +kernel))
  refine lv_iconst (v := nI 0) hx hb dM_stands_14 (by decide) ?_
  refine lv_istore (lv' := [(6, .int (nI 0)), (0, .ref mo), (1, .int (nI i)), (2, .int (nI 3)), (3, .int a), (4, .int b), (5, .int cr)]) hx hb dM_stands_15 hl (by decide) rfl (fun ls hl => ?_)
  refine lv_iload hx hb dM_stands_17 (lv_at hl 0 rfl) ?_
  refine lv_if_eq (tgt := 31) hx hb dM_stands_19 (by decide) (fun c19 => ?_) (fun c19 => absurd nI_0 c19)
  refine lv_iload_n hx hb dM_stands_31 rfl (lv_at hl 3 rfl) ?_
  refine lv_iconst (v := nI 2) hx hb dM_stands_32 (by decide) ?_
  refine lv_icmp_lt (tgt := 47) hx hb dM_stands_33 (by decide) (fun c33 => absurd c33 (by decide +kernel)) (fun c33 => ?_)
  refine lv_iload hx hb dM_stands_36 (lv_at hl 0 rfl) ?_
  refine lv_if_ne (tgt := 47) hx hb dM_stands_38 (by decide) (fun c38 => absurd nI_0 c38) (fun c38 => ?_)
  refine lv_iload_n hx hb dM_stands_41 rfl (lv_at hl 3 rfl) ?_
  refine lv_bipush (v := nI 6) hx hb dM_stands_42 (by decide) ?_
  refine lv_icmp_ne (tgt := 57) hx hb dM_stands_44 (by decide) (fun c44 => ?_) (fun c44 => absurd c44 (by decide +kernel))
  refine lv_iload_n hx hb dM_stands_57 rfl (lv_at hl 3 rfl) ?_
  refine lv_iconst (v := nI 1) hx hb dM_stands_58 (by decide) ?_
  refine lv_icmp_ne (tgt := 74) hx hb dM_stands_59 (by decide) (fun c59 => ?_) (fun c59 => absurd c59 (by decide +kernel))
  refine lv_iload_n hx hb dM_stands_74 rfl (lv_at hl 3 rfl) ?_
  refine lv_iconst (v := nI 3) hx hb dM_stands_75 (by decide) ?_
  refine lv_icmp_eq (tgt := 86) hx hb dM_stands_76 (by decide) (fun c76 => ?_) (fun c76 => absurd (by decide +kernel) c76)
  have hz0 : oi < 2 ^ 31 := by omega
  refine lv_aload_n hx hb dM_stands_86 rfl (lv_at hl 1 rfl) ?_
  refine mm_get (v := .ref (ad 15)) hx hb hg inM hown hK hP hD.1.1.1 hD.2.1 rfl 16 (by decide) (hg _ gw609) (fun _ h9 => h9) rfl dM_stands_87 ?_
  refine lv_iload_n hx hb dM_stands_90 rfl (lv_at hl 2 rfl) ?_
  refine mm_iald hx hb hK hP (hD.1.2 15 (by decide)).1 (show mm_I tys f (ad 15) 4 (G 15) from (hD.1.2 15 (by decide)).2) (vp_in_nI (show i < 4 by omega) (by omega)) dM_stands_91 ?_
  rw [nI_clamp (by omega)]
  rw [ho]
  refine lv_if_le (tgt := 130) hx hb dM_stands_92 (by decide) (fun c92 => ?_) (fun c92 => ?_)
  · refine lv_iconst (v := nI 0) hx hb dM_stands_130 (by decide) ?_
    exact ret_z C0 rfl hP hS ⟨by rw [m_std_3, show decide (nI oi = 0) = true from decide_eq_true (nI_0le hz0 c92)]; simp [kb], rfl⟩ dM_stands_131
  · have hop : 0 < oi := by rcases Nat.eq_zero_or_pos oi with e | e; exact absurd (show nI oi ≤ 0 by rw [e]; decide +kernel) c92; exact e
    have htm := (ht hop).2
    refine lv_iload_n hx hb dM_stands_95 rfl (lv_at hl 3 rfl) ?_
    refine lv_iconst (v := nI 4) hx hb dM_stands_96 (by decide) ?_
    refine lv_icmp_eq (tgt := 126) hx hb dM_stands_97 (by decide) (fun c97 => absurd c97 (by decide +kernel)) (fun c97 => ?_)
    refine lv_aload_n hx hb dM_stands_100 rfl (lv_at hl 1 rfl) ?_
    refine mm_get (v := .ref (ad 11)) hx hb hg inM hown hK hP hD.1.1.1 hD.2.1 rfl 12 (by decide) (hg _ gw605) (fun _ h9 => h9) rfl dM_stands_101 ?_
    refine lv_aload_n hx hb dM_stands_104 rfl (lv_at hl 1 rfl) ?_
    refine mm_get (v := .ref (ad 14)) hx hb hg inM hown hK hP hD.1.1.1 hD.2.1 rfl 15 (by decide) (hg _ gw608) (fun _ h9 => h9) rfl dM_stands_105 ?_
    refine lv_bipush (v := nI 6) hx hb dM_stands_108 (by decide) ?_
    refine lv_iload_n hx hb dM_stands_110 rfl (lv_at hl 2 rfl) ?_
    refine lv_imul hx hb dM_stands_111 ?_
    rw [pk_mul]
    refine lv_aload_n hx hb dM_stands_112 rfl (lv_at hl 1 rfl) ?_
    refine mm_get (v := .ref (ad 15)) hx hb hg inM hown hK hP hD.1.1.1 hD.2.1 rfl 16 (by decide) (hg _ gw609) (fun _ h9 => h9) rfl dM_stands_113 ?_
    refine lv_iload_n hx hb dM_stands_116 rfl (lv_at hl 2 rfl) ?_
    refine mm_iald hx hb hK hP (hD.1.2 15 (by decide)).1 (show mm_I tys f (ad 15) 4 (G 15) from (hD.1.2 15 (by decide)).2) (vp_in_nI (show i < 4 by omega) (by omega)) dM_stands_117 ?_
    rw [nI_clamp (by omega)]
    rw [ho]
    refine lv_iadd hx hb dM_stands_118 ?_
    rw [nI_add]
    refine lv_iconst (v := nI 1) hx hb dM_stands_119 (by decide) ?_
    refine lv_isub hx hb dM_stands_120 ?_
    rw [nI_sub1 (by omega)]
    refine mm_iald hx hb hK hP (hD.1.2 14 (by decide)).1 (show mm_I tys f (ad 14) 24 (G 14) from (hD.1.2 14 (by decide)).2) (vp_in_nI (show 6 * i + oi - 1 < 24 by omega) (by omega)) dM_stands_121 ?_
    rw [nI_clamp (by omega)]
    rw [(ht hop).1]
    refine mm_iald hx hb hK hP (hD.1.2 11 (by decide)).1 (show mm_I tys f (ad 11) 64 (G 11) from (hD.1.2 11 (by decide)).2) (vp_in_nI (show tm < 64 by omega) (by omega)) dM_stands_122 ?_
    rw [nI_clamp (by omega)]
    refine lv_if_ge (tgt := 130) hx hb dM_stands_123 (by decide) (fun c123 => ?_) (fun c123 => ?_)
    · refine lv_iconst (v := nI 0) hx hb dM_stands_130 (by decide) ?_
      exact ret_z C0 rfl hP hS ⟨by rw [m_std_3, show decide (nI oi = 0) = false from decide_eq_false (fun z => c92 (by rw [z]; decide +kernel)), show decide (G 11 tm < 0) = false from decide_eq_false (Int32.not_lt.mpr c123)]; simp [kb], rfl⟩ dM_stands_131
    · refine lv_iconst (v := nI 1) hx hb dM_stands_126 (by decide) ?_
      refine lv_goto (tgt := 131) hx hb dM_stands_127 (by decide) ?_
      exact ret_z C0 rfl hP hS ⟨by rw [m_std_3, show decide (nI oi = 0) = false from decide_eq_false (fun z => c92 (by rw [z]; decide +kernel)), show decide (G 11 tm < 0) = true from decide_eq_true (Int32.not_le.mp c123)]; rfl, rfl⟩ dM_stands_131
set_option maxRecDepth 100000 in
set_option maxHeartbeats 4000000 in
theorem m_stands_4 {l : Launch} {D : va_G} {tys : List (ClassId × FieldType)} {L : List Nat} {f : Nat → va_E} (hn : L.Nodup) {mo ap cm : Nat} {ad : Nat → Nat} {G : Nat → Nat → Int32} {th fe me fu le en sp ka kc se : Int32} {mx : Int64} {gc : Nat → Int32} {σ : Sg} {i oi tm : Nat} {a b cr : Int32} (hi4 : i < 4) (hz16 : sz σ i ≤ 16) (hM : MT σ G) (ho : G 15 i = nI oi) (ho6 : oi ≤ 6) (ht : 0 < oi → G 14 (6 * i + oi - 1) = nI tm ∧ tm < 64) (hD : MD tys L f mo ap cm ad G th fe me fu le en sp ka kc mx se gc) : MetI l yM_stands wM_stands ({ frames := 1, cells := 0, slots := 0, locals := 23 } : Room) D tys L f [.ref mo, .int (nI i), .int (nI 4), .int a, .int b, .int cr] (fun r f' => r = kb (m_hw σ i (nI 4) a b cr && m_op oi (G 11 tm) (nI 4)) ∧ f' = f) := by
  refine met_of "LiquidCheckerModel" (by decide) rfl (Nat.le_of_ble_eq_true rfl) ?_
  intro pgm e s m below meth c ls C0 hP hl
  obtain ⟨hx, hb, hml, hown, hg, hr, hlocks, hK, hN⟩ := id C0
  have hA : ∀ a ∈ L, inL L a := fun _ h => h
  obtain ⟨H, hH⟩ : ∃ z, z = s.heap := ⟨_, rfl⟩
  rw [← hH] at hP ⊢
  have hS : va_S (inL L) s.heap H [] := by rw [hH]; exact va_S.rf
  have hl : lv_has ls 7 [(0, .ref mo), (1, .int (nI i)), (2, .int (nI 4)), (3, .int a), (4, .int b), (5, .int cr)] := hl
  refine lv_iload_n hx hb dM_stands_0 rfl (lv_at hl 2 rfl) ?_
  refine lv_iconst (v := nI 2) hx hb dM_stands_1 (by decide) ?_
  refine lv_icmp_eq (tgt := 10) hx hb dM_stands_2 (by decide) (fun c2 => absurd c2 (by decide +kernel)) (fun c2 => ?_)
  refine lv_iload_n hx hb dM_stands_5 rfl (lv_at hl 2 rfl) ?_
  refine lv_iconst (v := nI 5) hx hb dM_stands_6 (by decide) ?_
  refine lv_icmp_ne (tgt := 14) hx hb dM_stands_7 (by decide) (fun c7 => ?_) (fun c7 => absurd c7 (by decide +kernel))
  refine lv_iconst (v := nI 0) hx hb dM_stands_14 (by decide) ?_
  refine lv_istore (lv' := [(6, .int (nI 0)), (0, .ref mo), (1, .int (nI i)), (2, .int (nI 4)), (3, .int a), (4, .int b), (5, .int cr)]) hx hb dM_stands_15 hl (by decide) rfl (fun ls hl => ?_)
  refine lv_iload hx hb dM_stands_17 (lv_at hl 0 rfl) ?_
  refine lv_if_eq (tgt := 31) hx hb dM_stands_19 (by decide) (fun c19 => ?_) (fun c19 => absurd nI_0 c19)
  refine lv_iload_n hx hb dM_stands_31 rfl (lv_at hl 3 rfl) ?_
  refine lv_iconst (v := nI 2) hx hb dM_stands_32 (by decide) ?_
  refine lv_icmp_lt (tgt := 47) hx hb dM_stands_33 (by decide) (fun c33 => absurd c33 (by decide +kernel)) (fun c33 => ?_)
  refine lv_iload hx hb dM_stands_36 (lv_at hl 0 rfl) ?_
  refine lv_if_ne (tgt := 47) hx hb dM_stands_38 (by decide) (fun c38 => absurd nI_0 c38) (fun c38 => ?_)
  refine lv_iload_n hx hb dM_stands_41 rfl (lv_at hl 3 rfl) ?_
  refine lv_bipush (v := nI 6) hx hb dM_stands_42 (by decide) ?_
  refine lv_icmp_ne (tgt := 57) hx hb dM_stands_44 (by decide) (fun c44 => ?_) (fun c44 => absurd c44 (by decide +kernel))
  refine lv_iload_n hx hb dM_stands_57 rfl (lv_at hl 3 rfl) ?_
  refine lv_iconst (v := nI 1) hx hb dM_stands_58 (by decide) ?_
  refine lv_icmp_ne (tgt := 74) hx hb dM_stands_59 (by decide) (fun c59 => ?_) (fun c59 => absurd c59 (by decide +kernel))
  refine lv_iload_n hx hb dM_stands_74 rfl (lv_at hl 3 rfl) ?_
  refine lv_iconst (v := nI 3) hx hb dM_stands_75 (by decide) ?_
  refine lv_icmp_eq (tgt := 86) hx hb dM_stands_76 (by decide) (fun c76 => absurd c76 (by decide +kernel)) (fun c76 => ?_)
  refine lv_iload_n hx hb dM_stands_79 rfl (lv_at hl 3 rfl) ?_
  refine lv_iconst (v := nI 4) hx hb dM_stands_80 (by decide) ?_
  refine lv_icmp_eq (tgt := 86) hx hb dM_stands_81 (by decide) (fun c81 => ?_) (fun c81 => absurd (by decide +kernel) c81)
  have hz0 : oi < 2 ^ 31 := by omega
  refine lv_aload_n hx hb dM_stands_86 rfl (lv_at hl 1 rfl) ?_
  refine mm_get (v := .ref (ad 15)) hx hb hg inM hown hK hP hD.1.1.1 hD.2.1 rfl 16 (by decide) (hg _ gw609) (fun _ h9 => h9) rfl dM_stands_87 ?_
  refine lv_iload_n hx hb dM_stands_90 rfl (lv_at hl 2 rfl) ?_
  refine mm_iald hx hb hK hP (hD.1.2 15 (by decide)).1 (show mm_I tys f (ad 15) 4 (G 15) from (hD.1.2 15 (by decide)).2) (vp_in_nI (show i < 4 by omega) (by omega)) dM_stands_91 ?_
  rw [nI_clamp (by omega)]
  rw [ho]
  refine lv_if_le (tgt := 130) hx hb dM_stands_92 (by decide) (fun c92 => ?_) (fun c92 => ?_)
  · refine lv_iconst (v := nI 0) hx hb dM_stands_130 (by decide) ?_
    exact ret_z C0 rfl hP hS ⟨by rw [m_std_4, show decide (nI oi = 0) = true from decide_eq_true (nI_0le hz0 c92)]; simp [kb], rfl⟩ dM_stands_131
  · have hop : 0 < oi := by rcases Nat.eq_zero_or_pos oi with e | e; exact absurd (show nI oi ≤ 0 by rw [e]; decide +kernel) c92; exact e
    have htm := (ht hop).2
    refine lv_iload_n hx hb dM_stands_95 rfl (lv_at hl 3 rfl) ?_
    refine lv_iconst (v := nI 4) hx hb dM_stands_96 (by decide) ?_
    refine lv_icmp_eq (tgt := 126) hx hb dM_stands_97 (by decide) (fun c97 => ?_) (fun c97 => absurd (by decide +kernel) c97)
    refine lv_iconst (v := nI 1) hx hb dM_stands_126 (by decide) ?_
    refine lv_goto (tgt := 131) hx hb dM_stands_127 (by decide) ?_
    exact ret_z C0 rfl hP hS ⟨by rw [m_std_4, show decide (nI oi = 0) = false from decide_eq_false (fun z => c92 (by rw [z]; decide +kernel))]; rfl, rfl⟩ dM_stands_131
set_option maxRecDepth 100000 in
set_option maxHeartbeats 4000000 in
theorem m_stands_5 {l : Launch} {D : va_G} {tys : List (ClassId × FieldType)} {L : List Nat} {f : Nat → va_E} (hn : L.Nodup) {mo ap cm : Nat} {ad : Nat → Nat} {G : Nat → Nat → Int32} {th fe me fu le en sp ka kc se : Int32} {mx : Int64} {gc : Nat → Int32} {σ : Sg} {i oi tm : Nat} {a b cr : Int32} (hi4 : i < 4) (hz16 : sz σ i ≤ 16) (hM : MT σ G) (ho : G 15 i = nI oi) (ho6 : oi ≤ 6) (ht : 0 < oi → G 14 (6 * i + oi - 1) = nI tm ∧ tm < 64) (hD : MD tys L f mo ap cm ad G th fe me fu le en sp ka kc mx se gc) : MetI l yM_stands wM_stands ({ frames := 1, cells := 0, slots := 0, locals := 23 } : Room) D tys L f [.ref mo, .int (nI i), .int (nI 5), .int a, .int b, .int cr] (fun r f' => r = kb (m_hw σ i (nI 5) a b cr && m_op oi (G 11 tm) (nI 5)) ∧ f' = f) := by
  refine met_of "LiquidCheckerModel" (by decide) rfl (Nat.le_of_ble_eq_true rfl) ?_
  intro pgm e s m below meth c ls C0 hP hl
  obtain ⟨hx, hb, hml, hown, hg, hr, hlocks, hK, hN⟩ := id C0
  have hA : ∀ a ∈ L, inL L a := fun _ h => h
  obtain ⟨H, hH⟩ : ∃ z, z = s.heap := ⟨_, rfl⟩
  rw [← hH] at hP ⊢
  have hS : va_S (inL L) s.heap H [] := by rw [hH]; exact va_S.rf
  have hl : lv_has ls 7 [(0, .ref mo), (1, .int (nI i)), (2, .int (nI 5)), (3, .int a), (4, .int b), (5, .int cr)] := hl
  refine lv_iload_n hx hb dM_stands_0 rfl (lv_at hl 2 rfl) ?_
  refine lv_iconst (v := nI 2) hx hb dM_stands_1 (by decide) ?_
  refine lv_icmp_eq (tgt := 10) hx hb dM_stands_2 (by decide) (fun c2 => absurd c2 (by decide +kernel)) (fun c2 => ?_)
  refine lv_iload_n hx hb dM_stands_5 rfl (lv_at hl 2 rfl) ?_
  refine lv_iconst (v := nI 5) hx hb dM_stands_6 (by decide) ?_
  refine lv_icmp_ne (tgt := 14) hx hb dM_stands_7 (by decide) (fun c7 => absurd (by decide +kernel) c7) (fun c7 => ?_)
  refine lv_iconst (v := nI 1) hx hb dM_stands_10 (by decide) ?_
  refine lv_goto (tgt := 15) hx hb dM_stands_11 (by decide) ?_
  refine lv_istore (lv' := [(6, .int (nI 1)), (0, .ref mo), (1, .int (nI i)), (2, .int (nI 5)), (3, .int a), (4, .int b), (5, .int cr)]) hx hb dM_stands_15 hl (by decide) rfl (fun ls hl => ?_)
  refine lv_iload hx hb dM_stands_17 (lv_at hl 0 rfl) ?_
  refine lv_if_eq (tgt := 31) hx hb dM_stands_19 (by decide) (fun c19 => absurd c19 (by decide +kernel)) (fun c19 => ?_)
  refine lv_aload_n hx hb dM_stands_22 rfl (lv_at hl 1 rfl) ?_
  refine lv_iload_n hx hb dM_stands_23 rfl (lv_at hl 2 rfl) ?_
  refine lv_iload_n hx hb dM_stands_24 rfl (lv_at hl 4 rfl) ?_
  refine then_i (run_V (n := 2) (As := [.int (nI i), .int a]) (rest := []) C0 (m_given hn hi4 hz16 hM hD) gw718 gw715 gw717 gsM_given gw7 (by decide +kernel) ⟨Nat.le_of_ble_eq_true rfl, Nat.le_of_ble_eq_true rfl⟩ rfl rfl ⟨Nat.le_of_ble_eq_true rfl, Nat.le_of_ble_eq_true rfl⟩ hP hD.1.1.1 hD.2.1 rfl rfl rfl hl.1 rfl (Nat.le_of_ble_eq_true rfl) dM_stands_25) hS hA (fun r2 f1 H locs hq25 hP hS => ?_)
  obtain ⟨er2, ef1⟩ := hq25
  subst er2
  rw [ef1] at hP
  refine lv_if_eq (tgt := 72) hx hb dM_stands_28 (by decide) (fun c28 => ?_) (fun c28 => ?_)
  · have c28 : (m_gvn σ i a) = false := kb_0.mp c28
    refine lv_iconst (v := nI 0) hx hb dM_stands_72 (by decide) ?_
    exact ret_z C0 rfl hP hS ⟨by rw [m_std_5, show m_gvn σ i a = _ from c28]; simp [kb], rfl⟩ dM_stands_73
  · have c28 : (m_gvn σ i a) = true := kb_t.mp c28
    refine lv_iload_n hx hb dM_stands_31 rfl (lv_at hl 3 rfl) ?_
    refine lv_iconst (v := nI 2) hx hb dM_stands_32 (by decide) ?_
    refine lv_icmp_lt (tgt := 47) hx hb dM_stands_33 (by decide) (fun c33 => absurd c33 (by decide +kernel)) (fun c33 => ?_)
    refine lv_iload hx hb dM_stands_36 (lv_at hl 0 rfl) ?_
    refine lv_if_ne (tgt := 47) hx hb dM_stands_38 (by decide) (fun c38 => ?_) (fun c38 => absurd c38 (by decide +kernel))
    refine lv_aload_n hx hb dM_stands_47 rfl (lv_at hl 1 rfl) ?_
    refine lv_iload_n hx hb dM_stands_48 rfl (lv_at hl 2 rfl) ?_
    refine lv_iload hx hb dM_stands_49 (lv_at hl 5 rfl) ?_
    refine then_i (run_V (n := 2) (As := [.int (nI i), .int b]) (rest := []) C0 (m_given hn hi4 hz16 hM hD) gw718 gw715 gw717 gsM_given gw7 (by decide +kernel) ⟨Nat.le_of_ble_eq_true rfl, Nat.le_of_ble_eq_true rfl⟩ rfl rfl ⟨Nat.le_of_ble_eq_true rfl, Nat.le_of_ble_eq_true rfl⟩ hP hD.1.1.1 hD.2.1 rfl rfl rfl hl.1 rfl (Nat.le_of_ble_eq_true rfl) dM_stands_51) hS hA (fun r4 f3 H locs hq51 hP hS => ?_)
    obtain ⟨er4, ef3⟩ := hq51
    subst er4
    rw [ef3] at hP
    refine lv_if_eq (tgt := 72) hx hb dM_stands_54 (by decide) (fun c54 => ?_) (fun c54 => ?_)
    · have c54 : (m_gvn σ i b) = false := kb_0.mp c54
      refine lv_iconst (v := nI 0) hx hb dM_stands_72 (by decide) ?_
      exact ret_z C0 rfl hP hS ⟨by rw [m_std_5, show m_gvn σ i a = _ from c28, show m_gvn σ i b = _ from c54]; simp [kb], rfl⟩ dM_stands_73
    · have c54 : (m_gvn σ i b) = true := kb_t.mp c54
      refine lv_iload_n hx hb dM_stands_57 rfl (lv_at hl 3 rfl) ?_
      refine lv_iconst (v := nI 1) hx hb dM_stands_58 (by decide) ?_
      refine lv_icmp_ne (tgt := 74) hx hb dM_stands_59 (by decide) (fun c59 => ?_) (fun c59 => absurd c59 (by decide +kernel))
      refine lv_iload_n hx hb dM_stands_74 rfl (lv_at hl 3 rfl) ?_
      refine lv_iconst (v := nI 3) hx hb dM_stands_75 (by decide) ?_
      refine lv_icmp_eq (tgt := 86) hx hb dM_stands_76 (by decide) (fun c76 => absurd c76 (by decide +kernel)) (fun c76 => ?_)
      refine lv_iload_n hx hb dM_stands_79 rfl (lv_at hl 3 rfl) ?_
      refine lv_iconst (v := nI 4) hx hb dM_stands_80 (by decide) ?_
      refine lv_icmp_eq (tgt := 86) hx hb dM_stands_81 (by decide) (fun c81 => absurd c81 (by decide +kernel)) (fun c81 => ?_)
      refine lv_iconst (v := nI 1) hx hb dM_stands_84 (by decide) ?_
      exact ret_z C0 rfl hP hS ⟨by rw [m_std_5, show m_gvn σ i a = _ from c28, show m_gvn σ i b = _ from c54]; rfl, rfl⟩ dM_stands_85
set_option maxRecDepth 100000 in
set_option maxHeartbeats 4000000 in
theorem m_stands_6 {l : Launch} {D : va_G} {tys : List (ClassId × FieldType)} {L : List Nat} {f : Nat → va_E} (hn : L.Nodup) {mo ap cm : Nat} {ad : Nat → Nat} {G : Nat → Nat → Int32} {th fe me fu le en sp ka kc se : Int32} {mx : Int64} {gc : Nat → Int32} {σ : Sg} {i oi tm : Nat} {a b cr : Int32} (hi4 : i < 4) (hz16 : sz σ i ≤ 16) (hM : MT σ G) (ho : G 15 i = nI oi) (ho6 : oi ≤ 6) (ht : 0 < oi → G 14 (6 * i + oi - 1) = nI tm ∧ tm < 64) (hD : MD tys L f mo ap cm ad G th fe me fu le en sp ka kc mx se gc) : MetI l yM_stands wM_stands ({ frames := 1, cells := 0, slots := 0, locals := 23 } : Room) D tys L f [.ref mo, .int (nI i), .int (nI 6), .int a, .int b, .int cr] (fun r f' => r = kb (m_hw σ i (nI 6) a b cr && m_op oi (G 11 tm) (nI 6)) ∧ f' = f) := by
  refine met_of "LiquidCheckerModel" (by decide) rfl (Nat.le_of_ble_eq_true rfl) ?_
  intro pgm e s m below meth c ls C0 hP hl
  obtain ⟨hx, hb, hml, hown, hg, hr, hlocks, hK, hN⟩ := id C0
  have hA : ∀ a ∈ L, inL L a := fun _ h => h
  obtain ⟨H, hH⟩ : ∃ z, z = s.heap := ⟨_, rfl⟩
  rw [← hH] at hP ⊢
  have hS : va_S (inL L) s.heap H [] := by rw [hH]; exact va_S.rf
  have hl : lv_has ls 7 [(0, .ref mo), (1, .int (nI i)), (2, .int (nI 6)), (3, .int a), (4, .int b), (5, .int cr)] := hl
  refine lv_iload_n hx hb dM_stands_0 rfl (lv_at hl 2 rfl) ?_
  refine lv_iconst (v := nI 2) hx hb dM_stands_1 (by decide) ?_
  refine lv_icmp_eq (tgt := 10) hx hb dM_stands_2 (by decide) (fun c2 => absurd c2 (by decide +kernel)) (fun c2 => ?_)
  refine lv_iload_n hx hb dM_stands_5 rfl (lv_at hl 2 rfl) ?_
  refine lv_iconst (v := nI 5) hx hb dM_stands_6 (by decide) ?_
  refine lv_icmp_ne (tgt := 14) hx hb dM_stands_7 (by decide) (fun c7 => ?_) (fun c7 => absurd c7 (by decide +kernel))
  refine lv_iconst (v := nI 0) hx hb dM_stands_14 (by decide) ?_
  refine lv_istore (lv' := [(6, .int (nI 0)), (0, .ref mo), (1, .int (nI i)), (2, .int (nI 6)), (3, .int a), (4, .int b), (5, .int cr)]) hx hb dM_stands_15 hl (by decide) rfl (fun ls hl => ?_)
  refine lv_iload hx hb dM_stands_17 (lv_at hl 0 rfl) ?_
  refine lv_if_eq (tgt := 31) hx hb dM_stands_19 (by decide) (fun c19 => ?_) (fun c19 => absurd nI_0 c19)
  refine lv_iload_n hx hb dM_stands_31 rfl (lv_at hl 3 rfl) ?_
  refine lv_iconst (v := nI 2) hx hb dM_stands_32 (by decide) ?_
  refine lv_icmp_lt (tgt := 47) hx hb dM_stands_33 (by decide) (fun c33 => absurd c33 (by decide +kernel)) (fun c33 => ?_)
  refine lv_iload hx hb dM_stands_36 (lv_at hl 0 rfl) ?_
  refine lv_if_ne (tgt := 47) hx hb dM_stands_38 (by decide) (fun c38 => absurd nI_0 c38) (fun c38 => ?_)
  refine lv_iload_n hx hb dM_stands_41 rfl (lv_at hl 3 rfl) ?_
  refine lv_bipush (v := nI 6) hx hb dM_stands_42 (by decide) ?_
  refine lv_icmp_ne (tgt := 57) hx hb dM_stands_44 (by decide) (fun c44 => absurd (by decide +kernel) c44) (fun c44 => ?_)
  refine lv_aload_n hx hb dM_stands_47 rfl (lv_at hl 1 rfl) ?_
  refine lv_iload_n hx hb dM_stands_48 rfl (lv_at hl 2 rfl) ?_
  refine lv_iload hx hb dM_stands_49 (lv_at hl 5 rfl) ?_
  refine then_i (run_V (n := 2) (As := [.int (nI i), .int b]) (rest := []) C0 (m_given hn hi4 hz16 hM hD) gw718 gw715 gw717 gsM_given gw7 (by decide +kernel) ⟨Nat.le_of_ble_eq_true rfl, Nat.le_of_ble_eq_true rfl⟩ rfl rfl ⟨Nat.le_of_ble_eq_true rfl, Nat.le_of_ble_eq_true rfl⟩ hP hD.1.1.1 hD.2.1 rfl rfl rfl hl.1 rfl (Nat.le_of_ble_eq_true rfl) dM_stands_51) hS hA (fun r2 f1 H locs hq51 hP hS => ?_)
  obtain ⟨er2, ef1⟩ := hq51
  subst er2
  rw [ef1] at hP
  refine lv_if_eq (tgt := 72) hx hb dM_stands_54 (by decide) (fun c54 => ?_) (fun c54 => ?_)
  · have c54 : (m_gvn σ i b) = false := kb_0.mp c54
    refine lv_iconst (v := nI 0) hx hb dM_stands_72 (by decide) ?_
    exact ret_z C0 rfl hP hS ⟨by rw [m_std_6, show m_gvn σ i b = _ from c54]; simp [kb], rfl⟩ dM_stands_73
  · have c54 : (m_gvn σ i b) = true := kb_t.mp c54
    refine lv_iload_n hx hb dM_stands_57 rfl (lv_at hl 3 rfl) ?_
    refine lv_iconst (v := nI 1) hx hb dM_stands_58 (by decide) ?_
    refine lv_icmp_ne (tgt := 74) hx hb dM_stands_59 (by decide) (fun c59 => ?_) (fun c59 => absurd c59 (by decide +kernel))
    refine lv_iload_n hx hb dM_stands_74 rfl (lv_at hl 3 rfl) ?_
    refine lv_iconst (v := nI 3) hx hb dM_stands_75 (by decide) ?_
    refine lv_icmp_eq (tgt := 86) hx hb dM_stands_76 (by decide) (fun c76 => absurd c76 (by decide +kernel)) (fun c76 => ?_)
    refine lv_iload_n hx hb dM_stands_79 rfl (lv_at hl 3 rfl) ?_
    refine lv_iconst (v := nI 4) hx hb dM_stands_80 (by decide) ?_
    refine lv_icmp_eq (tgt := 86) hx hb dM_stands_81 (by decide) (fun c81 => absurd c81 (by decide +kernel)) (fun c81 => ?_)
    refine lv_iconst (v := nI 1) hx hb dM_stands_84 (by decide) ?_
    exact ret_z C0 rfl hP hS ⟨by rw [m_std_6, show m_gvn σ i b = _ from c54]; rfl, rfl⟩ dM_stands_85
set_option maxRecDepth 100000 in
set_option maxHeartbeats 4000000 in
theorem m_stands_7 {l : Launch} {D : va_G} {tys : List (ClassId × FieldType)} {L : List Nat} {f : Nat → va_E} (hn : L.Nodup) {mo ap cm : Nat} {ad : Nat → Nat} {G : Nat → Nat → Int32} {th fe me fu le en sp ka kc se : Int32} {mx : Int64} {gc : Nat → Int32} {σ : Sg} {i oi tm : Nat} {a b cr : Int32} (hi4 : i < 4) (hz16 : sz σ i ≤ 16) (hM : MT σ G) (ho : G 15 i = nI oi) (ho6 : oi ≤ 6) (ht : 0 < oi → G 14 (6 * i + oi - 1) = nI tm ∧ tm < 64) (hD : MD tys L f mo ap cm ad G th fe me fu le en sp ka kc mx se gc) : MetI l yM_stands wM_stands ({ frames := 1, cells := 0, slots := 0, locals := 23 } : Room) D tys L f [.ref mo, .int (nI i), .int (nI 7), .int a, .int b, .int cr] (fun r f' => r = kb (m_hw σ i (nI 7) a b cr && m_op oi (G 11 tm) (nI 7)) ∧ f' = f) := by
  refine met_of "LiquidCheckerModel" (by decide) rfl (Nat.le_of_ble_eq_true rfl) ?_
  intro pgm e s m below meth c ls C0 hP hl
  obtain ⟨hx, hb, hml, hown, hg, hr, hlocks, hK, hN⟩ := id C0
  have hA : ∀ a ∈ L, inL L a := fun _ h => h
  obtain ⟨H, hH⟩ : ∃ z, z = s.heap := ⟨_, rfl⟩
  rw [← hH] at hP ⊢
  have hS : va_S (inL L) s.heap H [] := by rw [hH]; exact va_S.rf
  have hl : lv_has ls 7 [(0, .ref mo), (1, .int (nI i)), (2, .int (nI 7)), (3, .int a), (4, .int b), (5, .int cr)] := hl
  refine lv_iload_n hx hb dM_stands_0 rfl (lv_at hl 2 rfl) ?_
  refine lv_iconst (v := nI 2) hx hb dM_stands_1 (by decide) ?_
  refine lv_icmp_eq (tgt := 10) hx hb dM_stands_2 (by decide) (fun c2 => absurd c2 (by decide +kernel)) (fun c2 => ?_)
  refine lv_iload_n hx hb dM_stands_5 rfl (lv_at hl 2 rfl) ?_
  refine lv_iconst (v := nI 5) hx hb dM_stands_6 (by decide) ?_
  refine lv_icmp_ne (tgt := 14) hx hb dM_stands_7 (by decide) (fun c7 => ?_) (fun c7 => absurd c7 (by decide +kernel))
  refine lv_iconst (v := nI 0) hx hb dM_stands_14 (by decide) ?_
  refine lv_istore (lv' := [(6, .int (nI 0)), (0, .ref mo), (1, .int (nI i)), (2, .int (nI 7)), (3, .int a), (4, .int b), (5, .int cr)]) hx hb dM_stands_15 hl (by decide) rfl (fun ls hl => ?_)
  refine lv_iload hx hb dM_stands_17 (lv_at hl 0 rfl) ?_
  refine lv_if_eq (tgt := 31) hx hb dM_stands_19 (by decide) (fun c19 => ?_) (fun c19 => absurd nI_0 c19)
  refine lv_iload_n hx hb dM_stands_31 rfl (lv_at hl 3 rfl) ?_
  refine lv_iconst (v := nI 2) hx hb dM_stands_32 (by decide) ?_
  refine lv_icmp_lt (tgt := 47) hx hb dM_stands_33 (by decide) (fun c33 => absurd c33 (by decide +kernel)) (fun c33 => ?_)
  refine lv_iload hx hb dM_stands_36 (lv_at hl 0 rfl) ?_
  refine lv_if_ne (tgt := 47) hx hb dM_stands_38 (by decide) (fun c38 => absurd nI_0 c38) (fun c38 => ?_)
  refine lv_iload_n hx hb dM_stands_41 rfl (lv_at hl 3 rfl) ?_
  refine lv_bipush (v := nI 6) hx hb dM_stands_42 (by decide) ?_
  refine lv_icmp_ne (tgt := 57) hx hb dM_stands_44 (by decide) (fun c44 => ?_) (fun c44 => absurd c44 (by decide +kernel))
  refine lv_iload_n hx hb dM_stands_57 rfl (lv_at hl 3 rfl) ?_
  refine lv_iconst (v := nI 1) hx hb dM_stands_58 (by decide) ?_
  refine lv_icmp_ne (tgt := 74) hx hb dM_stands_59 (by decide) (fun c59 => ?_) (fun c59 => absurd c59 (by decide +kernel))
  refine lv_iload_n hx hb dM_stands_74 rfl (lv_at hl 3 rfl) ?_
  refine lv_iconst (v := nI 3) hx hb dM_stands_75 (by decide) ?_
  refine lv_icmp_eq (tgt := 86) hx hb dM_stands_76 (by decide) (fun c76 => absurd c76 (by decide +kernel)) (fun c76 => ?_)
  refine lv_iload_n hx hb dM_stands_79 rfl (lv_at hl 3 rfl) ?_
  refine lv_iconst (v := nI 4) hx hb dM_stands_80 (by decide) ?_
  refine lv_icmp_eq (tgt := 86) hx hb dM_stands_81 (by decide) (fun c81 => absurd c81 (by decide +kernel)) (fun c81 => ?_)
  refine lv_iconst (v := nI 1) hx hb dM_stands_84 (by decide) ?_
  exact ret_z C0 rfl hP hS ⟨by rw [m_std_7]; rfl, rfl⟩ dM_stands_85
set_option maxRecDepth 100000 in
set_option maxHeartbeats 4000000 in
theorem m_statement_0 {l : Launch} {D : va_G} {tys : List (ClassId × FieldType)} {L : List Nat} {f : Nat → va_E} (hn : L.Nodup) {mo ap cm : Nat} {ad : Nat → Nat} {G : Nat → Nat → Int32} {th : Int32} {σ : Sg} {x a b cr k : Int32} {oi ni tm : Nat → Nat} (hoi : ∀ i, i < 4 → G 15 i = nI (oi i) ∧ oi i ≤ ni i) (hni : ∀ i, i < 4 → G 13 i = nI (ni i) ∧ ni i ≤ 6) (htm : ∀ i, i < 4 → 0 < oi i → G 14 (6 * i + oi i - 1) = nI (tm i) ∧ tm i < 64) (hinj : ∀ i j, i < 16 → j < 16 → i ≠ j → ad i ≠ ad j) (hO : MOk σ G) (hI0 : MdI tys L f mo ap cm ad G th) : MetI l yM_statement wM_statement ({ frames := 3, cells := 0, slots := 0, locals := 68 } : Room) D tys L f [.ref mo, .int x, .int (nI 0), .int a, .int b, .int cr, .int k] (fun r f' => ∃ t, SmA f f' mo ap cm ad ∧ (((q_fn x && q_st (nI 0) a b cr k) = false ∧ t = nI 1 ∧ MdI tys L f' mo ap cm ad G t) ∨ (q_fn x = true ∧ q_st (nI 0) a b cr k = true ∧ ∀ i, x = nI i → i < 4 → (((m_hw σ i (nI 0) a b cr && m_op (oi i) (G 11 (tm i)) (nI 0)) = false ∧ t = nI 2 ∧ MdI tys L f' mo ap cm ad G t) ∨ ((m_hw σ i (nI 0) a b cr && m_op (oi i) (G 11 (tm i)) (nI 0)) = true ∧ q_rm (sz σ i) (ni i) (nI 0) = false ∧ t = nI 3 ∧ MdI tys L f' mo ap cm ad G t) ∨ ((m_hw σ i (nI 0) a b cr && m_op (oi i) (G 11 (tm i)) (nI 0)) = true ∧ q_rm (sz σ i) (ni i) (nI 0) = true ∧ t = nI 0 ∧ r = nI (sz σ i) ∧ MdI tys L f' mo ap cm ad (m_Gs G i (sz σ i) (oi i) (ni i) (tm i) 0 a b cr k) t))))) := by
  refine met_of "LiquidCheckerModel" (by decide) rfl (Nat.le_of_ble_eq_true rfl) ?_
  intro pgm e s m below meth c ls C0 hP hl
  obtain ⟨hx, hb, hml, hown, hg, hr, hlocks, hK, hN⟩ := id C0
  have hA : ∀ a ∈ L, inL L a := fun _ h => h
  obtain ⟨H, hH⟩ : ∃ z, z = s.heap := ⟨_, rfl⟩
  rw [← hH] at hP ⊢
  have hS : va_S (inL L) s.heap H [] := by rw [hH]; exact va_S.rf
  have hl : lv_has ls 9 [(0, .ref mo), (1, .int x), (2, .int (nI 0)), (3, .int a), (4, .int b), (5, .int cr), (6, .int k)] := hl
  obtain ⟨fe, me, fu, le, en, sp, ka, kc, mx, se, gc, hfe, hka, hkc, hD⟩ := hI0
  obtain ⟨hM, hRl, h3d, hW⟩ := hO
  refine lv_aload_n hx hb dM_statement_0 rfl (lv_at hl 0 rfl) ?_
  refine lv_iconst (v := nI 0) hx hb dM_statement_1 (by decide) ?_
  refine mm_put (v := .int (nI 0)) (ty := .int) hx hb hg inM tyM tyM_ok nmM hown hK hn hA hP hS hD.1.1.1 (show f mo = .inr (6, [.int th, .ref (ad 0), .ref (ad 1), .ref (ad 2), .ref (ad 3), .ref (ad 4), .ref (ad 5), .ref (ad 6), .ref (ad 7), .ref (ad 8), .ref (ad 9), .ref (ad 10), .ref (ad 11), .ref (ad 12), .ref (ad 13), .ref (ad 14), .ref (ad 15), .ref ap, .int fe, .int me, .int fu, .int le, .int en, .ref cm, .int sp, .int (nI ka), .int (nI kc), .long mx, .int se]) from hD.2.1) rfl 0 (by decide) (hg _ gw593) (fun _ h9 => h9) rfl (by decide +kernel) rfl rfl (Nat.le_of_ble_eq_true rfl) dM_statement_2 (fun H locs hP hS => ?_)
  obtain ⟨f1, hf1⟩ : ∃ z, z = va_up f mo (.inr (6, [.int (nI 0), .ref (ad 0), .ref (ad 1), .ref (ad 2), .ref (ad 3), .ref (ad 4), .ref (ad 5), .ref (ad 6), .ref (ad 7), .ref (ad 8), .ref (ad 9), .ref (ad 10), .ref (ad 11), .ref (ad 12), .ref (ad 13), .ref (ad 14), .ref (ad 15), .ref ap, .int fe, .int me, .int fu, .int le, .int en, .ref cm, .int sp, .int (nI ka), .int (nI kc), .long mx, .int se])) := ⟨_, rfl⟩
  have hP : va_P D zCl (va_pl L f1) H := by rw [hf1]; exact hP
  have hs2 : Same1 f f1 mo := fun z hz => by rw [hf1, va_up_ne _ _ hz]
  have hD2 : MD tys L f1 mo ap cm ad G (nI 0) fe me fu le en sp (nI ka) (nI kc) mx se gc := hD.updO (by rw [hf1]; exact va_up_self _ _ _) hs2
  have ha3 : SmA f _ mo ap cm ad := SmA.of3 (Sm3.ofO hs2)
  refine lv_iload_n hx hb dM_statement_5 rfl (lv_at hl 1 rfl) ?_
  refine then_i (run_S (n := 1) (As := [.int x]) (rest := []) C0 (m_noFunction hn) gw693 gw691 gw692 gw7 (by decide +kernel) ⟨Nat.le_of_ble_eq_true rfl, Nat.le_of_ble_eq_true rfl⟩ rfl rfl ⟨Nat.le_of_ble_eq_true rfl, Nat.le_of_ble_eq_true rfl⟩ hP rfl hl.1 rfl (Nat.le_of_ble_eq_true rfl) dM_statement_6) hS hA (fun r5 f4 H locs hq6 hP hS => ?_)
  obtain ⟨er5, ef4⟩ := hq6
  subst er5
  rw [ef4] at hP
  refine lv_if_ne (tgt := 26) hx hb dM_statement_9 (by decide) (fun c9 => ?_) (fun c9 => ?_)
  · have c9 : (!q_fn x) = true := kb_t.mp c9
    refine lv_aload_n hx hb dM_statement_26 rfl (lv_at hl 0 rfl) ?_
    refine lv_iconst (v := nI 1) hx hb dM_statement_27 (by decide) ?_
    refine then_i (run_V (n := 1) (As := [.int (nI 1)]) (rest := []) C0 (m_raise hn hD2) gw700 gw697 gw699 gsM_raise gw7 (by decide +kernel) ⟨Nat.le_of_ble_eq_true rfl, Nat.le_of_ble_eq_true rfl⟩ rfl rfl ⟨Nat.le_of_ble_eq_true rfl, Nat.le_of_ble_eq_true rfl⟩ hP hD2.1.1.1 hD2.2.1 rfl rfl rfl hl.1 rfl (Nat.le_of_ble_eq_true rfl) dM_statement_28) hS hA (fun r7 f6 H locs hq28 hP hS => ?_)
    obtain ⟨hr8, hD8, hs8⟩ := hq28
    have ha8 := ha3.trans (SmA.of3 (Sm3.ofO hs8))
    exact ret_i C0 hP hS ⟨_, ha8, Or.inl ⟨by rw [nb_t c9]; rfl, rfl, ⟨_, _, _, _, _, _, ka, kc, _, _, _, hfe, hka, hkc, hD8⟩⟩⟩ dM_statement_31
  · have c9 : (!q_fn x) = false := kb_0.mp c9
    refine lv_iload_n hx hb dM_statement_12 rfl (lv_at hl 2 rfl) ?_
    refine lv_iload_n hx hb dM_statement_13 rfl (lv_at hl 3 rfl) ?_
    refine lv_iload hx hb dM_statement_14 (lv_at hl 4 rfl) ?_
    refine lv_iload hx hb dM_statement_16 (lv_at hl 5 rfl) ?_
    refine lv_iload hx hb dM_statement_18 (lv_at hl 6 rfl) ?_
    refine then_i (run_S (n := 5) (As := [.int (nI 0), .int a, .int b, .int cr, .int k]) (rest := []) C0 (m_fits hn) gw707 gw705 gw706 gw7 (by decide +kernel) ⟨Nat.le_of_ble_eq_true rfl, Nat.le_of_ble_eq_true rfl⟩ rfl rfl ⟨Nat.le_of_ble_eq_true rfl, Nat.le_of_ble_eq_true rfl⟩ hP rfl hl.1 rfl (Nat.le_of_ble_eq_true rfl) dM_statement_20) hS hA (fun r10 f9 H locs hq20 hP hS => ?_)
    obtain ⟨er10, ef9⟩ := hq20
    subst er10
    rw [ef9] at hP
    refine lv_if_ne (tgt := 32) hx hb dM_statement_23 (by decide) (fun c23 => ?_) (fun c23 => ?_)
    · have c23 : (q_st (nI 0) a b cr k) = true := kb_t.mp c23
      obtain ⟨i0, hi0, rfl⟩ := q_fn_nI (nb_f c9)
      have hz16 := (hW i0 hi0).2.1.1
      have h6n := (hni i0 hi0).2
      have hon := (hoi i0 hi0).2
      refine lv_aload_n hx hb dM_statement_32 rfl (lv_at hl 0 rfl) ?_
      refine lv_iload_n hx hb dM_statement_33 rfl (lv_at hl 1 rfl) ?_
      refine lv_iload_n hx hb dM_statement_34 rfl (lv_at hl 2 rfl) ?_
      refine lv_iload_n hx hb dM_statement_35 rfl (lv_at hl 3 rfl) ?_
      refine lv_iload hx hb dM_statement_36 (lv_at hl 4 rfl) ?_
      refine lv_iload hx hb dM_statement_38 (lv_at hl 5 rfl) ?_
      refine then_i (run_V (n := 5) (As := [.int (nI i0), .int (nI 0), .int a, .int b, .int cr]) (rest := []) C0 (m_stands_0 hn hi0 hz16 hM (hoi i0 hi0).1 (by omega) (htm i0 hi0) hD2) gw714 gw711 gw713 gsM_stands gw7 (by decide +kernel) ⟨Nat.le_of_ble_eq_true rfl, Nat.le_of_ble_eq_true rfl⟩ rfl rfl ⟨Nat.le_of_ble_eq_true rfl, Nat.le_of_ble_eq_true rfl⟩ hP hD2.1.1.1 hD2.2.1 rfl rfl rfl hl.1 rfl (Nat.le_of_ble_eq_true rfl) dM_statement_40) hS hA (fun r12 f11 H locs hq40 hP hS => ?_)
      obtain ⟨er12, ef11⟩ := hq40
      subst er12
      rw [ef11] at hP
      refine lv_if_ne (tgt := 52) hx hb dM_statement_43 (by decide) (fun c43 => ?_) (fun c43 => ?_)
      · have c43 : (m_hw σ i0 (nI 0) a b cr && m_op (oi i0) (G 11 (tm i0)) (nI 0)) = true := kb_t.mp c43
        refine lv_aload_n hx hb dM_statement_52 rfl (lv_at hl 0 rfl) ?_
        refine mm_get (v := .ref (ad 9)) hx hb hg inM hown hK hP hD2.1.1.1 hD2.2.1 rfl 10 (by decide) (hg _ gw603) (fun _ h9 => h9) rfl dM_statement_53 ?_
        refine lv_iload_n hx hb dM_statement_56 rfl (lv_at hl 1 rfl) ?_
        refine mm_iald hx hb hK hP (hD2.1.2 9 (by decide)).1 (show mm_I tys f1 (ad 9) 4 (G 9) from (hD2.1.2 9 (by decide)).2) (vp_in_nI (show i0 < 4 by omega) (by omega)) dM_statement_57 ?_
        rw [nI_clamp (by omega)]
        rw [hM.2.2.2 i0 hi0]
        refine lv_bipush (v := nI 16) hx hb dM_statement_58 (by decide) ?_
        refine lv_icmp_eq (tgt := 79) hx hb dM_statement_60 (by decide) (fun c60 => ?_) (fun c60 => ?_)
        · refine lv_aload_n hx hb dM_statement_79 rfl (lv_at hl 0 rfl) ?_
          refine lv_iconst (v := nI 3) hx hb dM_statement_80 (by decide) ?_
          refine then_i (run_V (n := 1) (As := [.int (nI 3)]) (rest := []) C0 (m_raise hn hD2) gw700 gw697 gw699 gsM_raise gw7 (by decide +kernel) ⟨Nat.le_of_ble_eq_true rfl, Nat.le_of_ble_eq_true rfl⟩ rfl rfl ⟨Nat.le_of_ble_eq_true rfl, Nat.le_of_ble_eq_true rfl⟩ hP hD2.1.1.1 hD2.2.1 rfl rfl rfl hl.1 rfl (Nat.le_of_ble_eq_true rfl) dM_statement_81) hS hA (fun r14 f13 H locs hq81 hP hS => ?_)
          obtain ⟨hr15, hD15, hs15⟩ := hq81
          have ha15 := ha3.trans (SmA.of3 (Sm3.ofO hs15))
          refine ret_i C0 hP hS ⟨nI 3, ha15, Or.inr ⟨nb_f c9, c23, fun i2 e2 h2 => Or.inr (Or.inl ?_)⟩⟩ dM_statement_84
          obtain rfl := (nI_eq (by omega) (by omega)).mp e2
          refine ⟨c43, ?_, rfl, ⟨_, _, _, _, _, _, ka, kc, _, _, _, hfe, hka, hkc, hD15⟩⟩
          cases e9 : q_rm (sz σ i0) (ni i0) (nI 0) with
          | false => rfl
          | true =>
            have e8 := (q_rm_iff hz16 h6n).mp e9
            have e6 := (nI_eq (by omega) (by omega)).mp c60
            omega
        · refine lv_iload_n hx hb dM_statement_63 rfl (lv_at hl 2 rfl) ?_
          refine lv_iconst (v := nI 2) hx hb dM_statement_64 (by decide) ?_
          refine lv_icmp_ne (tgt := 85) hx hb dM_statement_65 (by decide) (fun c65 => ?_) (fun c65 => absurd c65 (by decide +kernel))
          have hlt : sz σ i0 < 16 := by have h9 : ¬ sz σ i0 = 16 := fun z => c60 (by rw [z]); omega
          refine lv_bipush (v := nI 16) hx hb dM_statement_85 (by decide) ?_
          refine lv_iload_n hx hb dM_statement_87 rfl (lv_at hl 1 rfl) ?_
          refine lv_imul hx hb dM_statement_88 ?_
          rw [pk_mul]
          refine lv_aload_n hx hb dM_statement_89 rfl (lv_at hl 0 rfl) ?_
          refine mm_get (v := .ref (ad 9)) hx hb hg inM hown hK hP hD2.1.1.1 hD2.2.1 rfl 10 (by decide) (hg _ gw603) (fun _ h9 => h9) rfl dM_statement_90 ?_
          refine lv_iload_n hx hb dM_statement_93 rfl (lv_at hl 1 rfl) ?_
          refine mm_iald hx hb hK hP (hD2.1.2 9 (by decide)).1 (show mm_I tys f1 (ad 9) 4 (G 9) from (hD2.1.2 9 (by decide)).2) (vp_in_nI (show i0 < 4 by omega) (by omega)) dM_statement_94 ?_
          rw [nI_clamp (by omega)]
          rw [hM.2.2.2 i0 hi0]
          refine lv_iadd hx hb dM_statement_95 ?_
          rw [nI_add]
          refine lv_istore (lv' := [(7, .int (nI ((16 * i0) + (sz σ i0)))), (0, .ref mo), (1, .int (nI i0)), (2, .int (nI 0)), (3, .int a), (4, .int b), (5, .int cr), (6, .int k)]) hx hb dM_statement_96 hl (by decide) rfl (fun ls hl => ?_)
          refine lv_aload_n hx hb dM_statement_98 rfl (lv_at hl 1 rfl) ?_
          refine mm_get (v := .ref (ad 4)) hx hb hg inM hown hK hP hD2.1.1.1 hD2.2.1 rfl 5 (by decide) (hg _ gw598) (fun _ h9 => h9) rfl dM_statement_99 ?_
          refine lv_iload hx hb dM_statement_102 (lv_at hl 0 rfl) ?_
          refine lv_iload_n hx hb dM_statement_104 rfl (lv_at hl 3 rfl) ?_
          refine mm_iast hx hb hK hn hA hP hS (hD2.1.2 4 (by decide)).1 (show mm_I tys f1 (ad 4) 64 (G 4) from (hD2.1.2 4 (by decide)).2) (vp_in_nI (show (16 * i0) + (sz σ i0) < 64 by omega) (by omega)) dM_statement_105 (fun H locs hP hS => ?_)
          rw [nI_clamp (by omega)] at hP
          obtain ⟨f16, hf16⟩ : ∃ z, z = mm_si f1 (ad 4) (upd (G 4) ((16 * i0) + (sz σ i0)) (nI 0)) := ⟨_, rfl⟩
          have hP : va_P D zCl (va_pl L f16) H := by rw [hf16]; exact hP
          have hs17 : Same1 f1 f16 (ad 4) := fun z hz => by rw [hf16, mm_si_ne hz]
          have hD17 : MD tys L f16 mo ap cm ad (fun j => if j = 4 then upd (G 4) ((16 * i0) + (sz σ i0)) (nI 0) else G j) (nI 0) fe me fu le en sp (nI ka) (nI kc) mx se gc := hD2.updA hinj (k := 4) (by decide) (by rw [hf16]; exact (show mm_I tys f1 (ad 4) 64 (G 4) from (hD2.1.2 4 (by decide)).2).set) hs17
          have ha18 := ha3.trans (SmA.of1 (k := 4) (by decide) hs17)
          refine lv_aload_n hx hb dM_statement_106 rfl (lv_at hl 1 rfl) ?_
          refine mm_get (v := .ref (ad 5)) hx hb hg inM hown hK hP hD17.1.1.1 hD17.2.1 rfl 6 (by decide) (hg _ gw599) (fun _ h9 => h9) rfl dM_statement_107 ?_
          refine lv_iload hx hb dM_statement_110 (lv_at hl 0 rfl) ?_
          refine lv_iload_n hx hb dM_statement_112 rfl (lv_at hl 4 rfl) ?_
          refine mm_iast hx hb hK hn hA hP hS (hD17.1.2 5 (by decide)).1 (show mm_I tys f16 (ad 5) 64 (G 5) from (hD17.1.2 5 (by decide)).2) (vp_in_nI (show (16 * i0) + (sz σ i0) < 64 by omega) (by omega)) dM_statement_113 (fun H locs hP hS => ?_)
          rw [nI_clamp (by omega)] at hP
          obtain ⟨f19, hf19⟩ : ∃ z, z = mm_si f16 (ad 5) (upd (G 5) ((16 * i0) + (sz σ i0)) a) := ⟨_, rfl⟩
          have hP : va_P D zCl (va_pl L f19) H := by rw [hf19]; exact hP
          have hs20 : Same1 f16 f19 (ad 5) := fun z hz => by rw [hf19, mm_si_ne hz]
          have hD20 : MD tys L f19 mo ap cm ad (fun j => if j = 5 then upd (G 5) ((16 * i0) + (sz σ i0)) a else (fun j => if j = 4 then upd (G 4) ((16 * i0) + (sz σ i0)) (nI 0) else G j) j) (nI 0) fe me fu le en sp (nI ka) (nI kc) mx se gc := hD17.updA hinj (k := 5) (by decide) (by rw [hf19]; exact (show mm_I tys f16 (ad 5) 64 (G 5) from (hD17.1.2 5 (by decide)).2).set) hs20
          have ha21 := ha18.trans (SmA.of1 (k := 5) (by decide) hs20)
          refine lv_aload_n hx hb dM_statement_114 rfl (lv_at hl 1 rfl) ?_
          refine mm_get (v := .ref (ad 6)) hx hb hg inM hown hK hP hD20.1.1.1 hD20.2.1 rfl 7 (by decide) (hg _ gw600) (fun _ h9 => h9) rfl dM_statement_115 ?_
          refine lv_iload hx hb dM_statement_118 (lv_at hl 0 rfl) ?_
          refine lv_iload hx hb dM_statement_120 (lv_at hl 5 rfl) ?_
          refine mm_iast hx hb hK hn hA hP hS (hD20.1.2 6 (by decide)).1 (show mm_I tys f19 (ad 6) 64 (G 6) from (hD20.1.2 6 (by decide)).2) (vp_in_nI (show (16 * i0) + (sz σ i0) < 64 by omega) (by omega)) dM_statement_122 (fun H locs hP hS => ?_)
          rw [nI_clamp (by omega)] at hP
          obtain ⟨f22, hf22⟩ : ∃ z, z = mm_si f19 (ad 6) (upd (G 6) ((16 * i0) + (sz σ i0)) b) := ⟨_, rfl⟩
          have hP : va_P D zCl (va_pl L f22) H := by rw [hf22]; exact hP
          have hs23 : Same1 f19 f22 (ad 6) := fun z hz => by rw [hf22, mm_si_ne hz]
          have hD23 : MD tys L f22 mo ap cm ad (fun j => if j = 6 then upd (G 6) ((16 * i0) + (sz σ i0)) b else (fun j => if j = 5 then upd (G 5) ((16 * i0) + (sz σ i0)) a else (fun j => if j = 4 then upd (G 4) ((16 * i0) + (sz σ i0)) (nI 0) else G j) j) j) (nI 0) fe me fu le en sp (nI ka) (nI kc) mx se gc := hD20.updA hinj (k := 6) (by decide) (by rw [hf22]; exact (show mm_I tys f19 (ad 6) 64 (G 6) from (hD20.1.2 6 (by decide)).2).set) hs23
          have ha24 := ha21.trans (SmA.of1 (k := 6) (by decide) hs23)
          refine lv_aload_n hx hb dM_statement_123 rfl (lv_at hl 1 rfl) ?_
          refine mm_get (v := .ref (ad 7)) hx hb hg inM hown hK hP hD23.1.1.1 hD23.2.1 rfl 8 (by decide) (hg _ gw601) (fun _ h9 => h9) rfl dM_statement_124 ?_
          refine lv_iload hx hb dM_statement_127 (lv_at hl 0 rfl) ?_
          refine lv_iload hx hb dM_statement_129 (lv_at hl 6 rfl) ?_
          refine mm_iast hx hb hK hn hA hP hS (hD23.1.2 7 (by decide)).1 (show mm_I tys f22 (ad 7) 64 (G 7) from (hD23.1.2 7 (by decide)).2) (vp_in_nI (show (16 * i0) + (sz σ i0) < 64 by omega) (by omega)) dM_statement_131 (fun H locs hP hS => ?_)
          rw [nI_clamp (by omega)] at hP
          obtain ⟨f25, hf25⟩ : ∃ z, z = mm_si f22 (ad 7) (upd (G 7) ((16 * i0) + (sz σ i0)) cr) := ⟨_, rfl⟩
          have hP : va_P D zCl (va_pl L f25) H := by rw [hf25]; exact hP
          have hs26 : Same1 f22 f25 (ad 7) := fun z hz => by rw [hf25, mm_si_ne hz]
          have hD26 : MD tys L f25 mo ap cm ad (fun j => if j = 7 then upd (G 7) ((16 * i0) + (sz σ i0)) cr else (fun j => if j = 6 then upd (G 6) ((16 * i0) + (sz σ i0)) b else (fun j => if j = 5 then upd (G 5) ((16 * i0) + (sz σ i0)) a else (fun j => if j = 4 then upd (G 4) ((16 * i0) + (sz σ i0)) (nI 0) else G j) j) j) j) (nI 0) fe me fu le en sp (nI ka) (nI kc) mx se gc := hD23.updA hinj (k := 7) (by decide) (by rw [hf25]; exact (show mm_I tys f22 (ad 7) 64 (G 7) from (hD23.1.2 7 (by decide)).2).set) hs26
          have ha27 := ha24.trans (SmA.of1 (k := 7) (by decide) hs26)
          refine lv_aload_n hx hb dM_statement_132 rfl (lv_at hl 1 rfl) ?_
          refine mm_get (v := .ref (ad 8)) hx hb hg inM hown hK hP hD26.1.1.1 hD26.2.1 rfl 9 (by decide) (hg _ gw602) (fun _ h9 => h9) rfl dM_statement_133 ?_
          refine lv_iload hx hb dM_statement_136 (lv_at hl 0 rfl) ?_
          refine lv_iload hx hb dM_statement_138 (lv_at hl 7 rfl) ?_
          refine mm_iast hx hb hK hn hA hP hS (hD26.1.2 8 (by decide)).1 (show mm_I tys f25 (ad 8) 64 (G 8) from (hD26.1.2 8 (by decide)).2) (vp_in_nI (show (16 * i0) + (sz σ i0) < 64 by omega) (by omega)) dM_statement_140 (fun H locs hP hS => ?_)
          rw [nI_clamp (by omega)] at hP
          obtain ⟨f28, hf28⟩ : ∃ z, z = mm_si f25 (ad 8) (upd (G 8) ((16 * i0) + (sz σ i0)) k) := ⟨_, rfl⟩
          have hP : va_P D zCl (va_pl L f28) H := by rw [hf28]; exact hP
          have hs29 : Same1 f25 f28 (ad 8) := fun z hz => by rw [hf28, mm_si_ne hz]
          have hD29 : MD tys L f28 mo ap cm ad (fun j => if j = 8 then upd (G 8) ((16 * i0) + (sz σ i0)) k else (fun j => if j = 7 then upd (G 7) ((16 * i0) + (sz σ i0)) cr else (fun j => if j = 6 then upd (G 6) ((16 * i0) + (sz σ i0)) b else (fun j => if j = 5 then upd (G 5) ((16 * i0) + (sz σ i0)) a else (fun j => if j = 4 then upd (G 4) ((16 * i0) + (sz σ i0)) (nI 0) else G j) j) j) j) j) (nI 0) fe me fu le en sp (nI ka) (nI kc) mx se gc := hD26.updA hinj (k := 8) (by decide) (by rw [hf28]; exact (show mm_I tys f25 (ad 8) 64 (G 8) from (hD26.1.2 8 (by decide)).2).set) hs29
          have ha30 := ha27.trans (SmA.of1 (k := 8) (by decide) hs29)
          refine lv_aload_n hx hb dM_statement_141 rfl (lv_at hl 1 rfl) ?_
          refine mm_get (v := .ref (ad 11)) hx hb hg inM hown hK hP hD29.1.1.1 hD29.2.1 rfl 12 (by decide) (hg _ gw605) (fun _ h9 => h9) rfl dM_statement_142 ?_
          refine lv_iload hx hb dM_statement_145 (lv_at hl 0 rfl) ?_
          refine lv_iconst (v := (-1)) hx hb dM_statement_147 (by decide) ?_
          refine mm_iast hx hb hK hn hA hP hS (hD29.1.2 11 (by decide)).1 (show mm_I tys f28 (ad 11) 64 (G 11) from (hD29.1.2 11 (by decide)).2) (vp_in_nI (show (16 * i0) + (sz σ i0) < 64 by omega) (by omega)) dM_statement_148 (fun H locs hP hS => ?_)
          rw [nI_clamp (by omega)] at hP
          obtain ⟨f31, hf31⟩ : ∃ z, z = mm_si f28 (ad 11) (upd (G 11) ((16 * i0) + (sz σ i0)) (-1)) := ⟨_, rfl⟩
          have hP : va_P D zCl (va_pl L f31) H := by rw [hf31]; exact hP
          have hs32 : Same1 f28 f31 (ad 11) := fun z hz => by rw [hf31, mm_si_ne hz]
          have hD32 : MD tys L f31 mo ap cm ad (fun j => if j = 11 then upd (G 11) ((16 * i0) + (sz σ i0)) (-1) else (fun j => if j = 8 then upd (G 8) ((16 * i0) + (sz σ i0)) k else (fun j => if j = 7 then upd (G 7) ((16 * i0) + (sz σ i0)) cr else (fun j => if j = 6 then upd (G 6) ((16 * i0) + (sz σ i0)) b else (fun j => if j = 5 then upd (G 5) ((16 * i0) + (sz σ i0)) a else (fun j => if j = 4 then upd (G 4) ((16 * i0) + (sz σ i0)) (nI 0) else G j) j) j) j) j) j) (nI 0) fe me fu le en sp (nI ka) (nI kc) mx se gc := hD29.updA hinj (k := 11) (by decide) (by rw [hf31]; exact (show mm_I tys f28 (ad 11) 64 (G 11) from (hD29.1.2 11 (by decide)).2).set) hs32
          have ha33 := ha30.trans (SmA.of1 (k := 11) (by decide) hs32)
          refine lv_aload_n hx hb dM_statement_149 rfl (lv_at hl 1 rfl) ?_
          refine mm_get (v := .ref (ad 12)) hx hb hg inM hown hK hP hD32.1.1.1 hD32.2.1 rfl 13 (by decide) (hg _ gw606) (fun _ h9 => h9) rfl dM_statement_150 ?_
          refine lv_iload hx hb dM_statement_153 (lv_at hl 0 rfl) ?_
          refine lv_iconst (v := (-1)) hx hb dM_statement_155 (by decide) ?_
          refine mm_iast hx hb hK hn hA hP hS (hD32.1.2 12 (by decide)).1 (show mm_I tys f31 (ad 12) 64 (G 12) from (hD32.1.2 12 (by decide)).2) (vp_in_nI (show (16 * i0) + (sz σ i0) < 64 by omega) (by omega)) dM_statement_156 (fun H locs hP hS => ?_)
          rw [nI_clamp (by omega)] at hP
          obtain ⟨f34, hf34⟩ : ∃ z, z = mm_si f31 (ad 12) (upd (G 12) ((16 * i0) + (sz σ i0)) (-1)) := ⟨_, rfl⟩
          have hP : va_P D zCl (va_pl L f34) H := by rw [hf34]; exact hP
          have hs35 : Same1 f31 f34 (ad 12) := fun z hz => by rw [hf34, mm_si_ne hz]
          have hD35 : MD tys L f34 mo ap cm ad (fun j => if j = 12 then upd (G 12) ((16 * i0) + (sz σ i0)) (-1) else (fun j => if j = 11 then upd (G 11) ((16 * i0) + (sz σ i0)) (-1) else (fun j => if j = 8 then upd (G 8) ((16 * i0) + (sz σ i0)) k else (fun j => if j = 7 then upd (G 7) ((16 * i0) + (sz σ i0)) cr else (fun j => if j = 6 then upd (G 6) ((16 * i0) + (sz σ i0)) b else (fun j => if j = 5 then upd (G 5) ((16 * i0) + (sz σ i0)) a else (fun j => if j = 4 then upd (G 4) ((16 * i0) + (sz σ i0)) (nI 0) else G j) j) j) j) j) j) j) (nI 0) fe me fu le en sp (nI ka) (nI kc) mx se gc := hD32.updA hinj (k := 12) (by decide) (by rw [hf34]; exact (show mm_I tys f31 (ad 12) 64 (G 12) from (hD32.1.2 12 (by decide)).2).set) hs35
          have ha36 := ha33.trans (SmA.of1 (k := 12) (by decide) hs35)
          refine lv_bipush (v := nI 6) hx hb dM_statement_157 (by decide) ?_
          refine lv_iload_n hx hb dM_statement_159 rfl (lv_at hl 2 rfl) ?_
          refine lv_imul hx hb dM_statement_160 ?_
          rw [pk_mul]
          refine lv_aload_n hx hb dM_statement_161 rfl (lv_at hl 1 rfl) ?_
          refine mm_get (v := .ref (ad 15)) hx hb hg inM hown hK hP hD35.1.1.1 hD35.2.1 rfl 16 (by decide) (hg _ gw609) (fun _ h9 => h9) rfl dM_statement_162 ?_
          refine lv_iload_n hx hb dM_statement_165 rfl (lv_at hl 2 rfl) ?_
          refine mm_iald hx hb hK hP (hD35.1.2 15 (by decide)).1 (show mm_I tys f34 (ad 15) 4 (G 15) from (hD35.1.2 15 (by decide)).2) (vp_in_nI (show i0 < 4 by omega) (by omega)) dM_statement_166 ?_
          rw [nI_clamp (by omega)]
          rw [(hoi i0 hi0).1]
          refine lv_iadd hx hb dM_statement_167 ?_
          rw [nI_add]
          refine lv_istore (lv' := [(8, .int (nI ((6 * i0) + (oi i0)))), (7, .int (nI ((16 * i0) + (sz σ i0)))), (0, .ref mo), (1, .int (nI i0)), (2, .int (nI 0)), (3, .int a), (4, .int b), (5, .int cr), (6, .int k)]) hx hb dM_statement_168 hl (by decide) rfl (fun ls hl => ?_)
          refine lv_iload_n hx hb dM_statement_170 rfl (lv_at hl 4 rfl) ?_
          refine lv_iconst (v := nI 2) hx hb dM_statement_171 (by decide) ?_
          refine lv_icmp_ne (tgt := 217) hx hb dM_statement_172 (by decide) (fun c172 => ?_) (fun c172 => absurd c172 (by decide +kernel))
          refine lv_iload_n hx hb dM_statement_217 rfl (lv_at hl 4 rfl) ?_
          refine lv_iconst (v := nI 3) hx hb dM_statement_218 (by decide) ?_
          refine lv_icmp_ne (tgt := 242) hx hb dM_statement_219 (by decide) (fun c219 => ?_) (fun c219 => absurd c219 (by decide +kernel))
          refine lv_iload_n hx hb dM_statement_242 rfl (lv_at hl 4 rfl) ?_
          refine lv_iconst (v := nI 4) hx hb dM_statement_243 (by decide) ?_
          refine lv_icmp_ne (tgt := 277) hx hb dM_statement_244 (by decide) (fun c244 => ?_) (fun c244 => absurd c244 (by decide +kernel))
          refine lv_aload_n hx hb dM_statement_277 rfl (lv_at hl 2 rfl) ?_
          refine mm_get (v := .ref (ad 9)) hx hb hg inM hown hK hP hD35.1.1.1 hD35.2.1 rfl 10 (by decide) (hg _ gw603) (fun _ h9 => h9) rfl dM_statement_278 ?_
          refine lv_iload_n hx hb dM_statement_281 rfl (lv_at hl 3 rfl) ?_
          refine lv_dup2_11 hx hb dM_statement_282 rfl rfl ?_
          refine mm_iald hx hb hK hP (hD35.1.2 9 (by decide)).1 (show mm_I tys f34 (ad 9) 4 (G 9) from (hD35.1.2 9 (by decide)).2) (vp_in_nI (show i0 < 4 by omega) (by omega)) dM_statement_283 ?_
          rw [nI_clamp (by omega)]
          rw [hM.2.2.2 i0 hi0]
          refine lv_iconst (v := nI 1) hx hb dM_statement_284 (by decide) ?_
          refine lv_iadd hx hb dM_statement_285 ?_
          rw [nI_add]
          refine mm_iast hx hb hK hn hA hP hS (hD35.1.2 9 (by decide)).1 (show mm_I tys f34 (ad 9) 4 (G 9) from (hD35.1.2 9 (by decide)).2) (vp_in_nI (show i0 < 4 by omega) (by omega)) dM_statement_286 (fun H locs hP hS => ?_)
          rw [nI_clamp (by omega)] at hP
          obtain ⟨f37, hf37⟩ : ∃ z, z = mm_si f34 (ad 9) (upd (G 9) i0 (nI ((sz σ i0) + 1))) := ⟨_, rfl⟩
          have hP : va_P D zCl (va_pl L f37) H := by rw [hf37]; exact hP
          have hs38 : Same1 f34 f37 (ad 9) := fun z hz => by rw [hf37, mm_si_ne hz]
          have hD38 : MD tys L f37 mo ap cm ad (fun j => if j = 9 then upd (G 9) i0 (nI ((sz σ i0) + 1)) else (fun j => if j = 12 then upd (G 12) ((16 * i0) + (sz σ i0)) (-1) else (fun j => if j = 11 then upd (G 11) ((16 * i0) + (sz σ i0)) (-1) else (fun j => if j = 8 then upd (G 8) ((16 * i0) + (sz σ i0)) k else (fun j => if j = 7 then upd (G 7) ((16 * i0) + (sz σ i0)) cr else (fun j => if j = 6 then upd (G 6) ((16 * i0) + (sz σ i0)) b else (fun j => if j = 5 then upd (G 5) ((16 * i0) + (sz σ i0)) a else (fun j => if j = 4 then upd (G 4) ((16 * i0) + (sz σ i0)) (nI 0) else G j) j) j) j) j) j) j) j) (nI 0) fe me fu le en sp (nI ka) (nI kc) mx se gc := hD35.updA hinj (k := 9) (by decide) (by rw [hf37]; exact (show mm_I tys f34 (ad 9) 4 (G 9) from (hD35.1.2 9 (by decide)).2).set) hs38
          have ha39 := ha36.trans (SmA.of1 (k := 9) (by decide) hs38)
          refine lv_aload_n hx hb dM_statement_287 rfl (lv_at hl 2 rfl) ?_
          refine mm_get (v := .ref (ad 9)) hx hb hg inM hown hK hP hD38.1.1.1 hD38.2.1 rfl 10 (by decide) (hg _ gw603) (fun _ h9 => h9) rfl dM_statement_288 ?_
          refine lv_iload_n hx hb dM_statement_291 rfl (lv_at hl 3 rfl) ?_
          refine mm_iald hx hb hK hP (hD38.1.2 9 (by decide)).1 (show mm_I tys f37 (ad 9) 4 (upd (G 9) i0 (nI ((sz σ i0) + 1))) from (hD38.1.2 9 (by decide)).2) (vp_in_nI (show i0 < 4 by omega) (by omega)) dM_statement_292 ?_
          rw [nI_clamp (by omega)]
          rw [pk_us]
          refine lv_iconst (v := nI 1) hx hb dM_statement_293 (by decide) ?_
          refine lv_isub hx hb dM_statement_294 ?_
          rw [nI_sub1 (by omega)]
          refine ret_i C0 hP hS ⟨nI 0, ha39, Or.inr ⟨nb_f c9, c23, fun i2 e2 h2 => Or.inr (Or.inr ?_)⟩⟩ dM_statement_295
          obtain rfl := (nI_eq (by omega) (by omega)).mp e2
          refine ⟨c43, (q_rm_iff hz16 h6n).mpr ⟨hlt, fun z => absurd z (by decide +kernel)⟩, rfl, rfl, ?_⟩
          exact MdI.eqG ⟨_, _, _, _, _, _, ka, kc, _, _, _, hfe, hka, hkc, hD38⟩ (fun k2 hk2 => by
            rcases (show k2 = 0 ∨ k2 = 1 ∨ k2 = 2 ∨ k2 = 3 ∨ k2 = 4 ∨ k2 = 5 ∨ k2 = 6 ∨ k2 = 7 ∨ k2 = 8 ∨ k2 = 9 ∨ k2 = 10 ∨ k2 = 11 ∨ k2 = 12 ∨ k2 = 13 ∨ k2 = 14 ∨ k2 = 15 by omega) with e | e | e | e | e | e | e | e | e | e | e | e | e | e | e | e <;> subst e <;> rfl)
      · have c43 : (m_hw σ i0 (nI 0) a b cr && m_op (oi i0) (G 11 (tm i0)) (nI 0)) = false := kb_0.mp c43
        refine lv_aload_n hx hb dM_statement_46 rfl (lv_at hl 0 rfl) ?_
        refine lv_iconst (v := nI 2) hx hb dM_statement_47 (by decide) ?_
        refine then_i (run_V (n := 1) (As := [.int (nI 2)]) (rest := []) C0 (m_raise hn hD2) gw700 gw697 gw699 gsM_raise gw7 (by decide +kernel) ⟨Nat.le_of_ble_eq_true rfl, Nat.le_of_ble_eq_true rfl⟩ rfl rfl ⟨Nat.le_of_ble_eq_true rfl, Nat.le_of_ble_eq_true rfl⟩ hP hD2.1.1.1 hD2.2.1 rfl rfl rfl hl.1 rfl (Nat.le_of_ble_eq_true rfl) dM_statement_48) hS hA (fun r41 f40 H locs hq48 hP hS => ?_)
        obtain ⟨hr42, hD42, hs42⟩ := hq48
        have ha42 := ha3.trans (SmA.of3 (Sm3.ofO hs42))
        refine ret_i C0 hP hS ⟨nI 2, ha42, Or.inr ⟨nb_f c9, c23, fun i2 e2 h2 => Or.inl ?_⟩⟩ dM_statement_51
        obtain rfl := (nI_eq (by omega) (by omega)).mp e2
        exact ⟨c43, rfl, ⟨_, _, _, _, _, _, ka, kc, _, _, _, hfe, hka, hkc, hD42⟩⟩
    · have c23 : (q_st (nI 0) a b cr k) = false := kb_0.mp c23
      refine lv_aload_n hx hb dM_statement_26 rfl (lv_at hl 0 rfl) ?_
      refine lv_iconst (v := nI 1) hx hb dM_statement_27 (by decide) ?_
      refine then_i (run_V (n := 1) (As := [.int (nI 1)]) (rest := []) C0 (m_raise hn hD2) gw700 gw697 gw699 gsM_raise gw7 (by decide +kernel) ⟨Nat.le_of_ble_eq_true rfl, Nat.le_of_ble_eq_true rfl⟩ rfl rfl ⟨Nat.le_of_ble_eq_true rfl, Nat.le_of_ble_eq_true rfl⟩ hP hD2.1.1.1 hD2.2.1 rfl rfl rfl hl.1 rfl (Nat.le_of_ble_eq_true rfl) dM_statement_28) hS hA (fun r44 f43 H locs hq28 hP hS => ?_)
      obtain ⟨hr45, hD45, hs45⟩ := hq28
      have ha45 := ha3.trans (SmA.of3 (Sm3.ofO hs45))
      exact ret_i C0 hP hS ⟨_, ha45, Or.inl ⟨by rw [c23]; cases q_fn x <;> rfl, rfl, ⟨_, _, _, _, _, _, ka, kc, _, _, _, hfe, hka, hkc, hD45⟩⟩⟩ dM_statement_31
set_option maxRecDepth 100000 in
set_option maxHeartbeats 4000000 in
theorem m_statement_1 {l : Launch} {D : va_G} {tys : List (ClassId × FieldType)} {L : List Nat} {f : Nat → va_E} (hn : L.Nodup) {mo ap cm : Nat} {ad : Nat → Nat} {G : Nat → Nat → Int32} {th : Int32} {σ : Sg} {x a b cr k : Int32} {oi ni tm : Nat → Nat} (hoi : ∀ i, i < 4 → G 15 i = nI (oi i) ∧ oi i ≤ ni i) (hni : ∀ i, i < 4 → G 13 i = nI (ni i) ∧ ni i ≤ 6) (htm : ∀ i, i < 4 → 0 < oi i → G 14 (6 * i + oi i - 1) = nI (tm i) ∧ tm i < 64) (hinj : ∀ i j, i < 16 → j < 16 → i ≠ j → ad i ≠ ad j) (hO : MOk σ G) (hI0 : MdI tys L f mo ap cm ad G th) : MetI l yM_statement wM_statement ({ frames := 3, cells := 0, slots := 0, locals := 68 } : Room) D tys L f [.ref mo, .int x, .int (nI 1), .int a, .int b, .int cr, .int k] (fun r f' => ∃ t, SmA f f' mo ap cm ad ∧ (((q_fn x && q_st (nI 1) a b cr k) = false ∧ t = nI 1 ∧ MdI tys L f' mo ap cm ad G t) ∨ (q_fn x = true ∧ q_st (nI 1) a b cr k = true ∧ ∀ i, x = nI i → i < 4 → (((m_hw σ i (nI 1) a b cr && m_op (oi i) (G 11 (tm i)) (nI 1)) = false ∧ t = nI 2 ∧ MdI tys L f' mo ap cm ad G t) ∨ ((m_hw σ i (nI 1) a b cr && m_op (oi i) (G 11 (tm i)) (nI 1)) = true ∧ q_rm (sz σ i) (ni i) (nI 1) = false ∧ t = nI 3 ∧ MdI tys L f' mo ap cm ad G t) ∨ ((m_hw σ i (nI 1) a b cr && m_op (oi i) (G 11 (tm i)) (nI 1)) = true ∧ q_rm (sz σ i) (ni i) (nI 1) = true ∧ t = nI 0 ∧ r = nI (sz σ i) ∧ MdI tys L f' mo ap cm ad (m_Gs G i (sz σ i) (oi i) (ni i) (tm i) 1 a b cr k) t))))) := by
  refine met_of "LiquidCheckerModel" (by decide) rfl (Nat.le_of_ble_eq_true rfl) ?_
  intro pgm e s m below meth c ls C0 hP hl
  obtain ⟨hx, hb, hml, hown, hg, hr, hlocks, hK, hN⟩ := id C0
  have hA : ∀ a ∈ L, inL L a := fun _ h => h
  obtain ⟨H, hH⟩ : ∃ z, z = s.heap := ⟨_, rfl⟩
  rw [← hH] at hP ⊢
  have hS : va_S (inL L) s.heap H [] := by rw [hH]; exact va_S.rf
  have hl : lv_has ls 9 [(0, .ref mo), (1, .int x), (2, .int (nI 1)), (3, .int a), (4, .int b), (5, .int cr), (6, .int k)] := hl
  obtain ⟨fe, me, fu, le, en, sp, ka, kc, mx, se, gc, hfe, hka, hkc, hD⟩ := hI0
  obtain ⟨hM, hRl, h3d, hW⟩ := hO
  refine lv_aload_n hx hb dM_statement_0 rfl (lv_at hl 0 rfl) ?_
  refine lv_iconst (v := nI 0) hx hb dM_statement_1 (by decide) ?_
  refine mm_put (v := .int (nI 0)) (ty := .int) hx hb hg inM tyM tyM_ok nmM hown hK hn hA hP hS hD.1.1.1 (show f mo = .inr (6, [.int th, .ref (ad 0), .ref (ad 1), .ref (ad 2), .ref (ad 3), .ref (ad 4), .ref (ad 5), .ref (ad 6), .ref (ad 7), .ref (ad 8), .ref (ad 9), .ref (ad 10), .ref (ad 11), .ref (ad 12), .ref (ad 13), .ref (ad 14), .ref (ad 15), .ref ap, .int fe, .int me, .int fu, .int le, .int en, .ref cm, .int sp, .int (nI ka), .int (nI kc), .long mx, .int se]) from hD.2.1) rfl 0 (by decide) (hg _ gw593) (fun _ h9 => h9) rfl (by decide +kernel) rfl rfl (Nat.le_of_ble_eq_true rfl) dM_statement_2 (fun H locs hP hS => ?_)
  obtain ⟨f1, hf1⟩ : ∃ z, z = va_up f mo (.inr (6, [.int (nI 0), .ref (ad 0), .ref (ad 1), .ref (ad 2), .ref (ad 3), .ref (ad 4), .ref (ad 5), .ref (ad 6), .ref (ad 7), .ref (ad 8), .ref (ad 9), .ref (ad 10), .ref (ad 11), .ref (ad 12), .ref (ad 13), .ref (ad 14), .ref (ad 15), .ref ap, .int fe, .int me, .int fu, .int le, .int en, .ref cm, .int sp, .int (nI ka), .int (nI kc), .long mx, .int se])) := ⟨_, rfl⟩
  have hP : va_P D zCl (va_pl L f1) H := by rw [hf1]; exact hP
  have hs2 : Same1 f f1 mo := fun z hz => by rw [hf1, va_up_ne _ _ hz]
  have hD2 : MD tys L f1 mo ap cm ad G (nI 0) fe me fu le en sp (nI ka) (nI kc) mx se gc := hD.updO (by rw [hf1]; exact va_up_self _ _ _) hs2
  have ha3 : SmA f _ mo ap cm ad := SmA.of3 (Sm3.ofO hs2)
  refine lv_iload_n hx hb dM_statement_5 rfl (lv_at hl 1 rfl) ?_
  refine then_i (run_S (n := 1) (As := [.int x]) (rest := []) C0 (m_noFunction hn) gw693 gw691 gw692 gw7 (by decide +kernel) ⟨Nat.le_of_ble_eq_true rfl, Nat.le_of_ble_eq_true rfl⟩ rfl rfl ⟨Nat.le_of_ble_eq_true rfl, Nat.le_of_ble_eq_true rfl⟩ hP rfl hl.1 rfl (Nat.le_of_ble_eq_true rfl) dM_statement_6) hS hA (fun r5 f4 H locs hq6 hP hS => ?_)
  obtain ⟨er5, ef4⟩ := hq6
  subst er5
  rw [ef4] at hP
  refine lv_if_ne (tgt := 26) hx hb dM_statement_9 (by decide) (fun c9 => ?_) (fun c9 => ?_)
  · have c9 : (!q_fn x) = true := kb_t.mp c9
    refine lv_aload_n hx hb dM_statement_26 rfl (lv_at hl 0 rfl) ?_
    refine lv_iconst (v := nI 1) hx hb dM_statement_27 (by decide) ?_
    refine then_i (run_V (n := 1) (As := [.int (nI 1)]) (rest := []) C0 (m_raise hn hD2) gw700 gw697 gw699 gsM_raise gw7 (by decide +kernel) ⟨Nat.le_of_ble_eq_true rfl, Nat.le_of_ble_eq_true rfl⟩ rfl rfl ⟨Nat.le_of_ble_eq_true rfl, Nat.le_of_ble_eq_true rfl⟩ hP hD2.1.1.1 hD2.2.1 rfl rfl rfl hl.1 rfl (Nat.le_of_ble_eq_true rfl) dM_statement_28) hS hA (fun r7 f6 H locs hq28 hP hS => ?_)
    obtain ⟨hr8, hD8, hs8⟩ := hq28
    have ha8 := ha3.trans (SmA.of3 (Sm3.ofO hs8))
    exact ret_i C0 hP hS ⟨_, ha8, Or.inl ⟨by rw [nb_t c9]; rfl, rfl, ⟨_, _, _, _, _, _, ka, kc, _, _, _, hfe, hka, hkc, hD8⟩⟩⟩ dM_statement_31
  · have c9 : (!q_fn x) = false := kb_0.mp c9
    refine lv_iload_n hx hb dM_statement_12 rfl (lv_at hl 2 rfl) ?_
    refine lv_iload_n hx hb dM_statement_13 rfl (lv_at hl 3 rfl) ?_
    refine lv_iload hx hb dM_statement_14 (lv_at hl 4 rfl) ?_
    refine lv_iload hx hb dM_statement_16 (lv_at hl 5 rfl) ?_
    refine lv_iload hx hb dM_statement_18 (lv_at hl 6 rfl) ?_
    refine then_i (run_S (n := 5) (As := [.int (nI 1), .int a, .int b, .int cr, .int k]) (rest := []) C0 (m_fits hn) gw707 gw705 gw706 gw7 (by decide +kernel) ⟨Nat.le_of_ble_eq_true rfl, Nat.le_of_ble_eq_true rfl⟩ rfl rfl ⟨Nat.le_of_ble_eq_true rfl, Nat.le_of_ble_eq_true rfl⟩ hP rfl hl.1 rfl (Nat.le_of_ble_eq_true rfl) dM_statement_20) hS hA (fun r10 f9 H locs hq20 hP hS => ?_)
    obtain ⟨er10, ef9⟩ := hq20
    subst er10
    rw [ef9] at hP
    refine lv_if_ne (tgt := 32) hx hb dM_statement_23 (by decide) (fun c23 => ?_) (fun c23 => ?_)
    · have c23 : (q_st (nI 1) a b cr k) = true := kb_t.mp c23
      obtain ⟨i0, hi0, rfl⟩ := q_fn_nI (nb_f c9)
      have hz16 := (hW i0 hi0).2.1.1
      have h6n := (hni i0 hi0).2
      have hon := (hoi i0 hi0).2
      refine lv_aload_n hx hb dM_statement_32 rfl (lv_at hl 0 rfl) ?_
      refine lv_iload_n hx hb dM_statement_33 rfl (lv_at hl 1 rfl) ?_
      refine lv_iload_n hx hb dM_statement_34 rfl (lv_at hl 2 rfl) ?_
      refine lv_iload_n hx hb dM_statement_35 rfl (lv_at hl 3 rfl) ?_
      refine lv_iload hx hb dM_statement_36 (lv_at hl 4 rfl) ?_
      refine lv_iload hx hb dM_statement_38 (lv_at hl 5 rfl) ?_
      refine then_i (run_V (n := 5) (As := [.int (nI i0), .int (nI 1), .int a, .int b, .int cr]) (rest := []) C0 (m_stands_1 hn hi0 hz16 hM (hoi i0 hi0).1 (by omega) (htm i0 hi0) hD2) gw714 gw711 gw713 gsM_stands gw7 (by decide +kernel) ⟨Nat.le_of_ble_eq_true rfl, Nat.le_of_ble_eq_true rfl⟩ rfl rfl ⟨Nat.le_of_ble_eq_true rfl, Nat.le_of_ble_eq_true rfl⟩ hP hD2.1.1.1 hD2.2.1 rfl rfl rfl hl.1 rfl (Nat.le_of_ble_eq_true rfl) dM_statement_40) hS hA (fun r12 f11 H locs hq40 hP hS => ?_)
      obtain ⟨er12, ef11⟩ := hq40
      subst er12
      rw [ef11] at hP
      refine lv_if_ne (tgt := 52) hx hb dM_statement_43 (by decide) (fun c43 => ?_) (fun c43 => ?_)
      · have c43 : (m_hw σ i0 (nI 1) a b cr && m_op (oi i0) (G 11 (tm i0)) (nI 1)) = true := kb_t.mp c43
        refine lv_aload_n hx hb dM_statement_52 rfl (lv_at hl 0 rfl) ?_
        refine mm_get (v := .ref (ad 9)) hx hb hg inM hown hK hP hD2.1.1.1 hD2.2.1 rfl 10 (by decide) (hg _ gw603) (fun _ h9 => h9) rfl dM_statement_53 ?_
        refine lv_iload_n hx hb dM_statement_56 rfl (lv_at hl 1 rfl) ?_
        refine mm_iald hx hb hK hP (hD2.1.2 9 (by decide)).1 (show mm_I tys f1 (ad 9) 4 (G 9) from (hD2.1.2 9 (by decide)).2) (vp_in_nI (show i0 < 4 by omega) (by omega)) dM_statement_57 ?_
        rw [nI_clamp (by omega)]
        rw [hM.2.2.2 i0 hi0]
        refine lv_bipush (v := nI 16) hx hb dM_statement_58 (by decide) ?_
        refine lv_icmp_eq (tgt := 79) hx hb dM_statement_60 (by decide) (fun c60 => ?_) (fun c60 => ?_)
        · refine lv_aload_n hx hb dM_statement_79 rfl (lv_at hl 0 rfl) ?_
          refine lv_iconst (v := nI 3) hx hb dM_statement_80 (by decide) ?_
          refine then_i (run_V (n := 1) (As := [.int (nI 3)]) (rest := []) C0 (m_raise hn hD2) gw700 gw697 gw699 gsM_raise gw7 (by decide +kernel) ⟨Nat.le_of_ble_eq_true rfl, Nat.le_of_ble_eq_true rfl⟩ rfl rfl ⟨Nat.le_of_ble_eq_true rfl, Nat.le_of_ble_eq_true rfl⟩ hP hD2.1.1.1 hD2.2.1 rfl rfl rfl hl.1 rfl (Nat.le_of_ble_eq_true rfl) dM_statement_81) hS hA (fun r14 f13 H locs hq81 hP hS => ?_)
          obtain ⟨hr15, hD15, hs15⟩ := hq81
          have ha15 := ha3.trans (SmA.of3 (Sm3.ofO hs15))
          refine ret_i C0 hP hS ⟨nI 3, ha15, Or.inr ⟨nb_f c9, c23, fun i2 e2 h2 => Or.inr (Or.inl ?_)⟩⟩ dM_statement_84
          obtain rfl := (nI_eq (by omega) (by omega)).mp e2
          refine ⟨c43, ?_, rfl, ⟨_, _, _, _, _, _, ka, kc, _, _, _, hfe, hka, hkc, hD15⟩⟩
          cases e9 : q_rm (sz σ i0) (ni i0) (nI 1) with
          | false => rfl
          | true =>
            have e8 := (q_rm_iff hz16 h6n).mp e9
            have e6 := (nI_eq (by omega) (by omega)).mp c60
            omega
        · refine lv_iload_n hx hb dM_statement_63 rfl (lv_at hl 2 rfl) ?_
          refine lv_iconst (v := nI 2) hx hb dM_statement_64 (by decide) ?_
          refine lv_icmp_ne (tgt := 85) hx hb dM_statement_65 (by decide) (fun c65 => ?_) (fun c65 => absurd c65 (by decide +kernel))
          have hlt : sz σ i0 < 16 := by have h9 : ¬ sz σ i0 = 16 := fun z => c60 (by rw [z]); omega
          refine lv_bipush (v := nI 16) hx hb dM_statement_85 (by decide) ?_
          refine lv_iload_n hx hb dM_statement_87 rfl (lv_at hl 1 rfl) ?_
          refine lv_imul hx hb dM_statement_88 ?_
          rw [pk_mul]
          refine lv_aload_n hx hb dM_statement_89 rfl (lv_at hl 0 rfl) ?_
          refine mm_get (v := .ref (ad 9)) hx hb hg inM hown hK hP hD2.1.1.1 hD2.2.1 rfl 10 (by decide) (hg _ gw603) (fun _ h9 => h9) rfl dM_statement_90 ?_
          refine lv_iload_n hx hb dM_statement_93 rfl (lv_at hl 1 rfl) ?_
          refine mm_iald hx hb hK hP (hD2.1.2 9 (by decide)).1 (show mm_I tys f1 (ad 9) 4 (G 9) from (hD2.1.2 9 (by decide)).2) (vp_in_nI (show i0 < 4 by omega) (by omega)) dM_statement_94 ?_
          rw [nI_clamp (by omega)]
          rw [hM.2.2.2 i0 hi0]
          refine lv_iadd hx hb dM_statement_95 ?_
          rw [nI_add]
          refine lv_istore (lv' := [(7, .int (nI ((16 * i0) + (sz σ i0)))), (0, .ref mo), (1, .int (nI i0)), (2, .int (nI 1)), (3, .int a), (4, .int b), (5, .int cr), (6, .int k)]) hx hb dM_statement_96 hl (by decide) rfl (fun ls hl => ?_)
          refine lv_aload_n hx hb dM_statement_98 rfl (lv_at hl 1 rfl) ?_
          refine mm_get (v := .ref (ad 4)) hx hb hg inM hown hK hP hD2.1.1.1 hD2.2.1 rfl 5 (by decide) (hg _ gw598) (fun _ h9 => h9) rfl dM_statement_99 ?_
          refine lv_iload hx hb dM_statement_102 (lv_at hl 0 rfl) ?_
          refine lv_iload_n hx hb dM_statement_104 rfl (lv_at hl 3 rfl) ?_
          refine mm_iast hx hb hK hn hA hP hS (hD2.1.2 4 (by decide)).1 (show mm_I tys f1 (ad 4) 64 (G 4) from (hD2.1.2 4 (by decide)).2) (vp_in_nI (show (16 * i0) + (sz σ i0) < 64 by omega) (by omega)) dM_statement_105 (fun H locs hP hS => ?_)
          rw [nI_clamp (by omega)] at hP
          obtain ⟨f16, hf16⟩ : ∃ z, z = mm_si f1 (ad 4) (upd (G 4) ((16 * i0) + (sz σ i0)) (nI 1)) := ⟨_, rfl⟩
          have hP : va_P D zCl (va_pl L f16) H := by rw [hf16]; exact hP
          have hs17 : Same1 f1 f16 (ad 4) := fun z hz => by rw [hf16, mm_si_ne hz]
          have hD17 : MD tys L f16 mo ap cm ad (fun j => if j = 4 then upd (G 4) ((16 * i0) + (sz σ i0)) (nI 1) else G j) (nI 0) fe me fu le en sp (nI ka) (nI kc) mx se gc := hD2.updA hinj (k := 4) (by decide) (by rw [hf16]; exact (show mm_I tys f1 (ad 4) 64 (G 4) from (hD2.1.2 4 (by decide)).2).set) hs17
          have ha18 := ha3.trans (SmA.of1 (k := 4) (by decide) hs17)
          refine lv_aload_n hx hb dM_statement_106 rfl (lv_at hl 1 rfl) ?_
          refine mm_get (v := .ref (ad 5)) hx hb hg inM hown hK hP hD17.1.1.1 hD17.2.1 rfl 6 (by decide) (hg _ gw599) (fun _ h9 => h9) rfl dM_statement_107 ?_
          refine lv_iload hx hb dM_statement_110 (lv_at hl 0 rfl) ?_
          refine lv_iload_n hx hb dM_statement_112 rfl (lv_at hl 4 rfl) ?_
          refine mm_iast hx hb hK hn hA hP hS (hD17.1.2 5 (by decide)).1 (show mm_I tys f16 (ad 5) 64 (G 5) from (hD17.1.2 5 (by decide)).2) (vp_in_nI (show (16 * i0) + (sz σ i0) < 64 by omega) (by omega)) dM_statement_113 (fun H locs hP hS => ?_)
          rw [nI_clamp (by omega)] at hP
          obtain ⟨f19, hf19⟩ : ∃ z, z = mm_si f16 (ad 5) (upd (G 5) ((16 * i0) + (sz σ i0)) a) := ⟨_, rfl⟩
          have hP : va_P D zCl (va_pl L f19) H := by rw [hf19]; exact hP
          have hs20 : Same1 f16 f19 (ad 5) := fun z hz => by rw [hf19, mm_si_ne hz]
          have hD20 : MD tys L f19 mo ap cm ad (fun j => if j = 5 then upd (G 5) ((16 * i0) + (sz σ i0)) a else (fun j => if j = 4 then upd (G 4) ((16 * i0) + (sz σ i0)) (nI 1) else G j) j) (nI 0) fe me fu le en sp (nI ka) (nI kc) mx se gc := hD17.updA hinj (k := 5) (by decide) (by rw [hf19]; exact (show mm_I tys f16 (ad 5) 64 (G 5) from (hD17.1.2 5 (by decide)).2).set) hs20
          have ha21 := ha18.trans (SmA.of1 (k := 5) (by decide) hs20)
          refine lv_aload_n hx hb dM_statement_114 rfl (lv_at hl 1 rfl) ?_
          refine mm_get (v := .ref (ad 6)) hx hb hg inM hown hK hP hD20.1.1.1 hD20.2.1 rfl 7 (by decide) (hg _ gw600) (fun _ h9 => h9) rfl dM_statement_115 ?_
          refine lv_iload hx hb dM_statement_118 (lv_at hl 0 rfl) ?_
          refine lv_iload hx hb dM_statement_120 (lv_at hl 5 rfl) ?_
          refine mm_iast hx hb hK hn hA hP hS (hD20.1.2 6 (by decide)).1 (show mm_I tys f19 (ad 6) 64 (G 6) from (hD20.1.2 6 (by decide)).2) (vp_in_nI (show (16 * i0) + (sz σ i0) < 64 by omega) (by omega)) dM_statement_122 (fun H locs hP hS => ?_)
          rw [nI_clamp (by omega)] at hP
          obtain ⟨f22, hf22⟩ : ∃ z, z = mm_si f19 (ad 6) (upd (G 6) ((16 * i0) + (sz σ i0)) b) := ⟨_, rfl⟩
          have hP : va_P D zCl (va_pl L f22) H := by rw [hf22]; exact hP
          have hs23 : Same1 f19 f22 (ad 6) := fun z hz => by rw [hf22, mm_si_ne hz]
          have hD23 : MD tys L f22 mo ap cm ad (fun j => if j = 6 then upd (G 6) ((16 * i0) + (sz σ i0)) b else (fun j => if j = 5 then upd (G 5) ((16 * i0) + (sz σ i0)) a else (fun j => if j = 4 then upd (G 4) ((16 * i0) + (sz σ i0)) (nI 1) else G j) j) j) (nI 0) fe me fu le en sp (nI ka) (nI kc) mx se gc := hD20.updA hinj (k := 6) (by decide) (by rw [hf22]; exact (show mm_I tys f19 (ad 6) 64 (G 6) from (hD20.1.2 6 (by decide)).2).set) hs23
          have ha24 := ha21.trans (SmA.of1 (k := 6) (by decide) hs23)
          refine lv_aload_n hx hb dM_statement_123 rfl (lv_at hl 1 rfl) ?_
          refine mm_get (v := .ref (ad 7)) hx hb hg inM hown hK hP hD23.1.1.1 hD23.2.1 rfl 8 (by decide) (hg _ gw601) (fun _ h9 => h9) rfl dM_statement_124 ?_
          refine lv_iload hx hb dM_statement_127 (lv_at hl 0 rfl) ?_
          refine lv_iload hx hb dM_statement_129 (lv_at hl 6 rfl) ?_
          refine mm_iast hx hb hK hn hA hP hS (hD23.1.2 7 (by decide)).1 (show mm_I tys f22 (ad 7) 64 (G 7) from (hD23.1.2 7 (by decide)).2) (vp_in_nI (show (16 * i0) + (sz σ i0) < 64 by omega) (by omega)) dM_statement_131 (fun H locs hP hS => ?_)
          rw [nI_clamp (by omega)] at hP
          obtain ⟨f25, hf25⟩ : ∃ z, z = mm_si f22 (ad 7) (upd (G 7) ((16 * i0) + (sz σ i0)) cr) := ⟨_, rfl⟩
          have hP : va_P D zCl (va_pl L f25) H := by rw [hf25]; exact hP
          have hs26 : Same1 f22 f25 (ad 7) := fun z hz => by rw [hf25, mm_si_ne hz]
          have hD26 : MD tys L f25 mo ap cm ad (fun j => if j = 7 then upd (G 7) ((16 * i0) + (sz σ i0)) cr else (fun j => if j = 6 then upd (G 6) ((16 * i0) + (sz σ i0)) b else (fun j => if j = 5 then upd (G 5) ((16 * i0) + (sz σ i0)) a else (fun j => if j = 4 then upd (G 4) ((16 * i0) + (sz σ i0)) (nI 1) else G j) j) j) j) (nI 0) fe me fu le en sp (nI ka) (nI kc) mx se gc := hD23.updA hinj (k := 7) (by decide) (by rw [hf25]; exact (show mm_I tys f22 (ad 7) 64 (G 7) from (hD23.1.2 7 (by decide)).2).set) hs26
          have ha27 := ha24.trans (SmA.of1 (k := 7) (by decide) hs26)
          refine lv_aload_n hx hb dM_statement_132 rfl (lv_at hl 1 rfl) ?_
          refine mm_get (v := .ref (ad 8)) hx hb hg inM hown hK hP hD26.1.1.1 hD26.2.1 rfl 9 (by decide) (hg _ gw602) (fun _ h9 => h9) rfl dM_statement_133 ?_
          refine lv_iload hx hb dM_statement_136 (lv_at hl 0 rfl) ?_
          refine lv_iload hx hb dM_statement_138 (lv_at hl 7 rfl) ?_
          refine mm_iast hx hb hK hn hA hP hS (hD26.1.2 8 (by decide)).1 (show mm_I tys f25 (ad 8) 64 (G 8) from (hD26.1.2 8 (by decide)).2) (vp_in_nI (show (16 * i0) + (sz σ i0) < 64 by omega) (by omega)) dM_statement_140 (fun H locs hP hS => ?_)
          rw [nI_clamp (by omega)] at hP
          obtain ⟨f28, hf28⟩ : ∃ z, z = mm_si f25 (ad 8) (upd (G 8) ((16 * i0) + (sz σ i0)) k) := ⟨_, rfl⟩
          have hP : va_P D zCl (va_pl L f28) H := by rw [hf28]; exact hP
          have hs29 : Same1 f25 f28 (ad 8) := fun z hz => by rw [hf28, mm_si_ne hz]
          have hD29 : MD tys L f28 mo ap cm ad (fun j => if j = 8 then upd (G 8) ((16 * i0) + (sz σ i0)) k else (fun j => if j = 7 then upd (G 7) ((16 * i0) + (sz σ i0)) cr else (fun j => if j = 6 then upd (G 6) ((16 * i0) + (sz σ i0)) b else (fun j => if j = 5 then upd (G 5) ((16 * i0) + (sz σ i0)) a else (fun j => if j = 4 then upd (G 4) ((16 * i0) + (sz σ i0)) (nI 1) else G j) j) j) j) j) (nI 0) fe me fu le en sp (nI ka) (nI kc) mx se gc := hD26.updA hinj (k := 8) (by decide) (by rw [hf28]; exact (show mm_I tys f25 (ad 8) 64 (G 8) from (hD26.1.2 8 (by decide)).2).set) hs29
          have ha30 := ha27.trans (SmA.of1 (k := 8) (by decide) hs29)
          refine lv_aload_n hx hb dM_statement_141 rfl (lv_at hl 1 rfl) ?_
          refine mm_get (v := .ref (ad 11)) hx hb hg inM hown hK hP hD29.1.1.1 hD29.2.1 rfl 12 (by decide) (hg _ gw605) (fun _ h9 => h9) rfl dM_statement_142 ?_
          refine lv_iload hx hb dM_statement_145 (lv_at hl 0 rfl) ?_
          refine lv_iconst (v := (-1)) hx hb dM_statement_147 (by decide) ?_
          refine mm_iast hx hb hK hn hA hP hS (hD29.1.2 11 (by decide)).1 (show mm_I tys f28 (ad 11) 64 (G 11) from (hD29.1.2 11 (by decide)).2) (vp_in_nI (show (16 * i0) + (sz σ i0) < 64 by omega) (by omega)) dM_statement_148 (fun H locs hP hS => ?_)
          rw [nI_clamp (by omega)] at hP
          obtain ⟨f31, hf31⟩ : ∃ z, z = mm_si f28 (ad 11) (upd (G 11) ((16 * i0) + (sz σ i0)) (-1)) := ⟨_, rfl⟩
          have hP : va_P D zCl (va_pl L f31) H := by rw [hf31]; exact hP
          have hs32 : Same1 f28 f31 (ad 11) := fun z hz => by rw [hf31, mm_si_ne hz]
          have hD32 : MD tys L f31 mo ap cm ad (fun j => if j = 11 then upd (G 11) ((16 * i0) + (sz σ i0)) (-1) else (fun j => if j = 8 then upd (G 8) ((16 * i0) + (sz σ i0)) k else (fun j => if j = 7 then upd (G 7) ((16 * i0) + (sz σ i0)) cr else (fun j => if j = 6 then upd (G 6) ((16 * i0) + (sz σ i0)) b else (fun j => if j = 5 then upd (G 5) ((16 * i0) + (sz σ i0)) a else (fun j => if j = 4 then upd (G 4) ((16 * i0) + (sz σ i0)) (nI 1) else G j) j) j) j) j) j) (nI 0) fe me fu le en sp (nI ka) (nI kc) mx se gc := hD29.updA hinj (k := 11) (by decide) (by rw [hf31]; exact (show mm_I tys f28 (ad 11) 64 (G 11) from (hD29.1.2 11 (by decide)).2).set) hs32
          have ha33 := ha30.trans (SmA.of1 (k := 11) (by decide) hs32)
          refine lv_aload_n hx hb dM_statement_149 rfl (lv_at hl 1 rfl) ?_
          refine mm_get (v := .ref (ad 12)) hx hb hg inM hown hK hP hD32.1.1.1 hD32.2.1 rfl 13 (by decide) (hg _ gw606) (fun _ h9 => h9) rfl dM_statement_150 ?_
          refine lv_iload hx hb dM_statement_153 (lv_at hl 0 rfl) ?_
          refine lv_iconst (v := (-1)) hx hb dM_statement_155 (by decide) ?_
          refine mm_iast hx hb hK hn hA hP hS (hD32.1.2 12 (by decide)).1 (show mm_I tys f31 (ad 12) 64 (G 12) from (hD32.1.2 12 (by decide)).2) (vp_in_nI (show (16 * i0) + (sz σ i0) < 64 by omega) (by omega)) dM_statement_156 (fun H locs hP hS => ?_)
          rw [nI_clamp (by omega)] at hP
          obtain ⟨f34, hf34⟩ : ∃ z, z = mm_si f31 (ad 12) (upd (G 12) ((16 * i0) + (sz σ i0)) (-1)) := ⟨_, rfl⟩
          have hP : va_P D zCl (va_pl L f34) H := by rw [hf34]; exact hP
          have hs35 : Same1 f31 f34 (ad 12) := fun z hz => by rw [hf34, mm_si_ne hz]
          have hD35 : MD tys L f34 mo ap cm ad (fun j => if j = 12 then upd (G 12) ((16 * i0) + (sz σ i0)) (-1) else (fun j => if j = 11 then upd (G 11) ((16 * i0) + (sz σ i0)) (-1) else (fun j => if j = 8 then upd (G 8) ((16 * i0) + (sz σ i0)) k else (fun j => if j = 7 then upd (G 7) ((16 * i0) + (sz σ i0)) cr else (fun j => if j = 6 then upd (G 6) ((16 * i0) + (sz σ i0)) b else (fun j => if j = 5 then upd (G 5) ((16 * i0) + (sz σ i0)) a else (fun j => if j = 4 then upd (G 4) ((16 * i0) + (sz σ i0)) (nI 1) else G j) j) j) j) j) j) j) (nI 0) fe me fu le en sp (nI ka) (nI kc) mx se gc := hD32.updA hinj (k := 12) (by decide) (by rw [hf34]; exact (show mm_I tys f31 (ad 12) 64 (G 12) from (hD32.1.2 12 (by decide)).2).set) hs35
          have ha36 := ha33.trans (SmA.of1 (k := 12) (by decide) hs35)
          refine lv_bipush (v := nI 6) hx hb dM_statement_157 (by decide) ?_
          refine lv_iload_n hx hb dM_statement_159 rfl (lv_at hl 2 rfl) ?_
          refine lv_imul hx hb dM_statement_160 ?_
          rw [pk_mul]
          refine lv_aload_n hx hb dM_statement_161 rfl (lv_at hl 1 rfl) ?_
          refine mm_get (v := .ref (ad 15)) hx hb hg inM hown hK hP hD35.1.1.1 hD35.2.1 rfl 16 (by decide) (hg _ gw609) (fun _ h9 => h9) rfl dM_statement_162 ?_
          refine lv_iload_n hx hb dM_statement_165 rfl (lv_at hl 2 rfl) ?_
          refine mm_iald hx hb hK hP (hD35.1.2 15 (by decide)).1 (show mm_I tys f34 (ad 15) 4 (G 15) from (hD35.1.2 15 (by decide)).2) (vp_in_nI (show i0 < 4 by omega) (by omega)) dM_statement_166 ?_
          rw [nI_clamp (by omega)]
          rw [(hoi i0 hi0).1]
          refine lv_iadd hx hb dM_statement_167 ?_
          rw [nI_add]
          refine lv_istore (lv' := [(8, .int (nI ((6 * i0) + (oi i0)))), (7, .int (nI ((16 * i0) + (sz σ i0)))), (0, .ref mo), (1, .int (nI i0)), (2, .int (nI 1)), (3, .int a), (4, .int b), (5, .int cr), (6, .int k)]) hx hb dM_statement_168 hl (by decide) rfl (fun ls hl => ?_)
          refine lv_iload_n hx hb dM_statement_170 rfl (lv_at hl 4 rfl) ?_
          refine lv_iconst (v := nI 2) hx hb dM_statement_171 (by decide) ?_
          refine lv_icmp_ne (tgt := 217) hx hb dM_statement_172 (by decide) (fun c172 => ?_) (fun c172 => absurd c172 (by decide +kernel))
          refine lv_iload_n hx hb dM_statement_217 rfl (lv_at hl 4 rfl) ?_
          refine lv_iconst (v := nI 3) hx hb dM_statement_218 (by decide) ?_
          refine lv_icmp_ne (tgt := 242) hx hb dM_statement_219 (by decide) (fun c219 => ?_) (fun c219 => absurd c219 (by decide +kernel))
          refine lv_iload_n hx hb dM_statement_242 rfl (lv_at hl 4 rfl) ?_
          refine lv_iconst (v := nI 4) hx hb dM_statement_243 (by decide) ?_
          refine lv_icmp_ne (tgt := 277) hx hb dM_statement_244 (by decide) (fun c244 => ?_) (fun c244 => absurd c244 (by decide +kernel))
          refine lv_aload_n hx hb dM_statement_277 rfl (lv_at hl 2 rfl) ?_
          refine mm_get (v := .ref (ad 9)) hx hb hg inM hown hK hP hD35.1.1.1 hD35.2.1 rfl 10 (by decide) (hg _ gw603) (fun _ h9 => h9) rfl dM_statement_278 ?_
          refine lv_iload_n hx hb dM_statement_281 rfl (lv_at hl 3 rfl) ?_
          refine lv_dup2_11 hx hb dM_statement_282 rfl rfl ?_
          refine mm_iald hx hb hK hP (hD35.1.2 9 (by decide)).1 (show mm_I tys f34 (ad 9) 4 (G 9) from (hD35.1.2 9 (by decide)).2) (vp_in_nI (show i0 < 4 by omega) (by omega)) dM_statement_283 ?_
          rw [nI_clamp (by omega)]
          rw [hM.2.2.2 i0 hi0]
          refine lv_iconst (v := nI 1) hx hb dM_statement_284 (by decide) ?_
          refine lv_iadd hx hb dM_statement_285 ?_
          rw [nI_add]
          refine mm_iast hx hb hK hn hA hP hS (hD35.1.2 9 (by decide)).1 (show mm_I tys f34 (ad 9) 4 (G 9) from (hD35.1.2 9 (by decide)).2) (vp_in_nI (show i0 < 4 by omega) (by omega)) dM_statement_286 (fun H locs hP hS => ?_)
          rw [nI_clamp (by omega)] at hP
          obtain ⟨f37, hf37⟩ : ∃ z, z = mm_si f34 (ad 9) (upd (G 9) i0 (nI ((sz σ i0) + 1))) := ⟨_, rfl⟩
          have hP : va_P D zCl (va_pl L f37) H := by rw [hf37]; exact hP
          have hs38 : Same1 f34 f37 (ad 9) := fun z hz => by rw [hf37, mm_si_ne hz]
          have hD38 : MD tys L f37 mo ap cm ad (fun j => if j = 9 then upd (G 9) i0 (nI ((sz σ i0) + 1)) else (fun j => if j = 12 then upd (G 12) ((16 * i0) + (sz σ i0)) (-1) else (fun j => if j = 11 then upd (G 11) ((16 * i0) + (sz σ i0)) (-1) else (fun j => if j = 8 then upd (G 8) ((16 * i0) + (sz σ i0)) k else (fun j => if j = 7 then upd (G 7) ((16 * i0) + (sz σ i0)) cr else (fun j => if j = 6 then upd (G 6) ((16 * i0) + (sz σ i0)) b else (fun j => if j = 5 then upd (G 5) ((16 * i0) + (sz σ i0)) a else (fun j => if j = 4 then upd (G 4) ((16 * i0) + (sz σ i0)) (nI 1) else G j) j) j) j) j) j) j) j) (nI 0) fe me fu le en sp (nI ka) (nI kc) mx se gc := hD35.updA hinj (k := 9) (by decide) (by rw [hf37]; exact (show mm_I tys f34 (ad 9) 4 (G 9) from (hD35.1.2 9 (by decide)).2).set) hs38
          have ha39 := ha36.trans (SmA.of1 (k := 9) (by decide) hs38)
          refine lv_aload_n hx hb dM_statement_287 rfl (lv_at hl 2 rfl) ?_
          refine mm_get (v := .ref (ad 9)) hx hb hg inM hown hK hP hD38.1.1.1 hD38.2.1 rfl 10 (by decide) (hg _ gw603) (fun _ h9 => h9) rfl dM_statement_288 ?_
          refine lv_iload_n hx hb dM_statement_291 rfl (lv_at hl 3 rfl) ?_
          refine mm_iald hx hb hK hP (hD38.1.2 9 (by decide)).1 (show mm_I tys f37 (ad 9) 4 (upd (G 9) i0 (nI ((sz σ i0) + 1))) from (hD38.1.2 9 (by decide)).2) (vp_in_nI (show i0 < 4 by omega) (by omega)) dM_statement_292 ?_
          rw [nI_clamp (by omega)]
          rw [pk_us]
          refine lv_iconst (v := nI 1) hx hb dM_statement_293 (by decide) ?_
          refine lv_isub hx hb dM_statement_294 ?_
          rw [nI_sub1 (by omega)]
          refine ret_i C0 hP hS ⟨nI 0, ha39, Or.inr ⟨nb_f c9, c23, fun i2 e2 h2 => Or.inr (Or.inr ?_)⟩⟩ dM_statement_295
          obtain rfl := (nI_eq (by omega) (by omega)).mp e2
          refine ⟨c43, (q_rm_iff hz16 h6n).mpr ⟨hlt, fun z => absurd z (by decide +kernel)⟩, rfl, rfl, ?_⟩
          exact MdI.eqG ⟨_, _, _, _, _, _, ka, kc, _, _, _, hfe, hka, hkc, hD38⟩ (fun k2 hk2 => by
            rcases (show k2 = 0 ∨ k2 = 1 ∨ k2 = 2 ∨ k2 = 3 ∨ k2 = 4 ∨ k2 = 5 ∨ k2 = 6 ∨ k2 = 7 ∨ k2 = 8 ∨ k2 = 9 ∨ k2 = 10 ∨ k2 = 11 ∨ k2 = 12 ∨ k2 = 13 ∨ k2 = 14 ∨ k2 = 15 by omega) with e | e | e | e | e | e | e | e | e | e | e | e | e | e | e | e <;> subst e <;> rfl)
      · have c43 : (m_hw σ i0 (nI 1) a b cr && m_op (oi i0) (G 11 (tm i0)) (nI 1)) = false := kb_0.mp c43
        refine lv_aload_n hx hb dM_statement_46 rfl (lv_at hl 0 rfl) ?_
        refine lv_iconst (v := nI 2) hx hb dM_statement_47 (by decide) ?_
        refine then_i (run_V (n := 1) (As := [.int (nI 2)]) (rest := []) C0 (m_raise hn hD2) gw700 gw697 gw699 gsM_raise gw7 (by decide +kernel) ⟨Nat.le_of_ble_eq_true rfl, Nat.le_of_ble_eq_true rfl⟩ rfl rfl ⟨Nat.le_of_ble_eq_true rfl, Nat.le_of_ble_eq_true rfl⟩ hP hD2.1.1.1 hD2.2.1 rfl rfl rfl hl.1 rfl (Nat.le_of_ble_eq_true rfl) dM_statement_48) hS hA (fun r41 f40 H locs hq48 hP hS => ?_)
        obtain ⟨hr42, hD42, hs42⟩ := hq48
        have ha42 := ha3.trans (SmA.of3 (Sm3.ofO hs42))
        refine ret_i C0 hP hS ⟨nI 2, ha42, Or.inr ⟨nb_f c9, c23, fun i2 e2 h2 => Or.inl ?_⟩⟩ dM_statement_51
        obtain rfl := (nI_eq (by omega) (by omega)).mp e2
        exact ⟨c43, rfl, ⟨_, _, _, _, _, _, ka, kc, _, _, _, hfe, hka, hkc, hD42⟩⟩
    · have c23 : (q_st (nI 1) a b cr k) = false := kb_0.mp c23
      refine lv_aload_n hx hb dM_statement_26 rfl (lv_at hl 0 rfl) ?_
      refine lv_iconst (v := nI 1) hx hb dM_statement_27 (by decide) ?_
      refine then_i (run_V (n := 1) (As := [.int (nI 1)]) (rest := []) C0 (m_raise hn hD2) gw700 gw697 gw699 gsM_raise gw7 (by decide +kernel) ⟨Nat.le_of_ble_eq_true rfl, Nat.le_of_ble_eq_true rfl⟩ rfl rfl ⟨Nat.le_of_ble_eq_true rfl, Nat.le_of_ble_eq_true rfl⟩ hP hD2.1.1.1 hD2.2.1 rfl rfl rfl hl.1 rfl (Nat.le_of_ble_eq_true rfl) dM_statement_28) hS hA (fun r44 f43 H locs hq28 hP hS => ?_)
      obtain ⟨hr45, hD45, hs45⟩ := hq28
      have ha45 := ha3.trans (SmA.of3 (Sm3.ofO hs45))
      exact ret_i C0 hP hS ⟨_, ha45, Or.inl ⟨by rw [c23]; cases q_fn x <;> rfl, rfl, ⟨_, _, _, _, _, _, ka, kc, _, _, _, hfe, hka, hkc, hD45⟩⟩⟩ dM_statement_31
set_option maxRecDepth 100000 in
set_option maxHeartbeats 4000000 in
theorem m_statement_2 {l : Launch} {D : va_G} {tys : List (ClassId × FieldType)} {L : List Nat} {f : Nat → va_E} (hn : L.Nodup) {mo ap cm : Nat} {ad : Nat → Nat} {G : Nat → Nat → Int32} {th : Int32} {σ : Sg} {x a b cr k : Int32} {oi ni tm : Nat → Nat} (hoi : ∀ i, i < 4 → G 15 i = nI (oi i) ∧ oi i ≤ ni i) (hni : ∀ i, i < 4 → G 13 i = nI (ni i) ∧ ni i ≤ 6) (htm : ∀ i, i < 4 → 0 < oi i → G 14 (6 * i + oi i - 1) = nI (tm i) ∧ tm i < 64) (hinj : ∀ i j, i < 16 → j < 16 → i ≠ j → ad i ≠ ad j) (hO : MOk σ G) (hI0 : MdI tys L f mo ap cm ad G th) : MetI l yM_statement wM_statement ({ frames := 3, cells := 0, slots := 0, locals := 68 } : Room) D tys L f [.ref mo, .int x, .int (nI 2), .int a, .int b, .int cr, .int k] (fun r f' => ∃ t, SmA f f' mo ap cm ad ∧ (((q_fn x && q_st (nI 2) a b cr k) = false ∧ t = nI 1 ∧ MdI tys L f' mo ap cm ad G t) ∨ (q_fn x = true ∧ q_st (nI 2) a b cr k = true ∧ ∀ i, x = nI i → i < 4 → (((m_hw σ i (nI 2) a b cr && m_op (oi i) (G 11 (tm i)) (nI 2)) = false ∧ t = nI 2 ∧ MdI tys L f' mo ap cm ad G t) ∨ ((m_hw σ i (nI 2) a b cr && m_op (oi i) (G 11 (tm i)) (nI 2)) = true ∧ q_rm (sz σ i) (ni i) (nI 2) = false ∧ t = nI 3 ∧ MdI tys L f' mo ap cm ad G t) ∨ ((m_hw σ i (nI 2) a b cr && m_op (oi i) (G 11 (tm i)) (nI 2)) = true ∧ q_rm (sz σ i) (ni i) (nI 2) = true ∧ t = nI 0 ∧ r = nI (sz σ i) ∧ MdI tys L f' mo ap cm ad (m_Gs G i (sz σ i) (oi i) (ni i) (tm i) 2 a b cr k) t))))) := by
  refine met_of "LiquidCheckerModel" (by decide) rfl (Nat.le_of_ble_eq_true rfl) ?_
  intro pgm e s m below meth c ls C0 hP hl
  obtain ⟨hx, hb, hml, hown, hg, hr, hlocks, hK, hN⟩ := id C0
  have hA : ∀ a ∈ L, inL L a := fun _ h => h
  obtain ⟨H, hH⟩ : ∃ z, z = s.heap := ⟨_, rfl⟩
  rw [← hH] at hP ⊢
  have hS : va_S (inL L) s.heap H [] := by rw [hH]; exact va_S.rf
  have hl : lv_has ls 9 [(0, .ref mo), (1, .int x), (2, .int (nI 2)), (3, .int a), (4, .int b), (5, .int cr), (6, .int k)] := hl
  obtain ⟨fe, me, fu, le, en, sp, ka, kc, mx, se, gc, hfe, hka, hkc, hD⟩ := hI0
  obtain ⟨hM, hRl, h3d, hW⟩ := hO
  refine lv_aload_n hx hb dM_statement_0 rfl (lv_at hl 0 rfl) ?_
  refine lv_iconst (v := nI 0) hx hb dM_statement_1 (by decide) ?_
  refine mm_put (v := .int (nI 0)) (ty := .int) hx hb hg inM tyM tyM_ok nmM hown hK hn hA hP hS hD.1.1.1 (show f mo = .inr (6, [.int th, .ref (ad 0), .ref (ad 1), .ref (ad 2), .ref (ad 3), .ref (ad 4), .ref (ad 5), .ref (ad 6), .ref (ad 7), .ref (ad 8), .ref (ad 9), .ref (ad 10), .ref (ad 11), .ref (ad 12), .ref (ad 13), .ref (ad 14), .ref (ad 15), .ref ap, .int fe, .int me, .int fu, .int le, .int en, .ref cm, .int sp, .int (nI ka), .int (nI kc), .long mx, .int se]) from hD.2.1) rfl 0 (by decide) (hg _ gw593) (fun _ h9 => h9) rfl (by decide +kernel) rfl rfl (Nat.le_of_ble_eq_true rfl) dM_statement_2 (fun H locs hP hS => ?_)
  obtain ⟨f1, hf1⟩ : ∃ z, z = va_up f mo (.inr (6, [.int (nI 0), .ref (ad 0), .ref (ad 1), .ref (ad 2), .ref (ad 3), .ref (ad 4), .ref (ad 5), .ref (ad 6), .ref (ad 7), .ref (ad 8), .ref (ad 9), .ref (ad 10), .ref (ad 11), .ref (ad 12), .ref (ad 13), .ref (ad 14), .ref (ad 15), .ref ap, .int fe, .int me, .int fu, .int le, .int en, .ref cm, .int sp, .int (nI ka), .int (nI kc), .long mx, .int se])) := ⟨_, rfl⟩
  have hP : va_P D zCl (va_pl L f1) H := by rw [hf1]; exact hP
  have hs2 : Same1 f f1 mo := fun z hz => by rw [hf1, va_up_ne _ _ hz]
  have hD2 : MD tys L f1 mo ap cm ad G (nI 0) fe me fu le en sp (nI ka) (nI kc) mx se gc := hD.updO (by rw [hf1]; exact va_up_self _ _ _) hs2
  have ha3 : SmA f _ mo ap cm ad := SmA.of3 (Sm3.ofO hs2)
  refine lv_iload_n hx hb dM_statement_5 rfl (lv_at hl 1 rfl) ?_
  refine then_i (run_S (n := 1) (As := [.int x]) (rest := []) C0 (m_noFunction hn) gw693 gw691 gw692 gw7 (by decide +kernel) ⟨Nat.le_of_ble_eq_true rfl, Nat.le_of_ble_eq_true rfl⟩ rfl rfl ⟨Nat.le_of_ble_eq_true rfl, Nat.le_of_ble_eq_true rfl⟩ hP rfl hl.1 rfl (Nat.le_of_ble_eq_true rfl) dM_statement_6) hS hA (fun r5 f4 H locs hq6 hP hS => ?_)
  obtain ⟨er5, ef4⟩ := hq6
  subst er5
  rw [ef4] at hP
  refine lv_if_ne (tgt := 26) hx hb dM_statement_9 (by decide) (fun c9 => ?_) (fun c9 => ?_)
  · have c9 : (!q_fn x) = true := kb_t.mp c9
    refine lv_aload_n hx hb dM_statement_26 rfl (lv_at hl 0 rfl) ?_
    refine lv_iconst (v := nI 1) hx hb dM_statement_27 (by decide) ?_
    refine then_i (run_V (n := 1) (As := [.int (nI 1)]) (rest := []) C0 (m_raise hn hD2) gw700 gw697 gw699 gsM_raise gw7 (by decide +kernel) ⟨Nat.le_of_ble_eq_true rfl, Nat.le_of_ble_eq_true rfl⟩ rfl rfl ⟨Nat.le_of_ble_eq_true rfl, Nat.le_of_ble_eq_true rfl⟩ hP hD2.1.1.1 hD2.2.1 rfl rfl rfl hl.1 rfl (Nat.le_of_ble_eq_true rfl) dM_statement_28) hS hA (fun r7 f6 H locs hq28 hP hS => ?_)
    obtain ⟨hr8, hD8, hs8⟩ := hq28
    have ha8 := ha3.trans (SmA.of3 (Sm3.ofO hs8))
    exact ret_i C0 hP hS ⟨_, ha8, Or.inl ⟨by rw [nb_t c9]; rfl, rfl, ⟨_, _, _, _, _, _, ka, kc, _, _, _, hfe, hka, hkc, hD8⟩⟩⟩ dM_statement_31
  · have c9 : (!q_fn x) = false := kb_0.mp c9
    refine lv_iload_n hx hb dM_statement_12 rfl (lv_at hl 2 rfl) ?_
    refine lv_iload_n hx hb dM_statement_13 rfl (lv_at hl 3 rfl) ?_
    refine lv_iload hx hb dM_statement_14 (lv_at hl 4 rfl) ?_
    refine lv_iload hx hb dM_statement_16 (lv_at hl 5 rfl) ?_
    refine lv_iload hx hb dM_statement_18 (lv_at hl 6 rfl) ?_
    refine then_i (run_S (n := 5) (As := [.int (nI 2), .int a, .int b, .int cr, .int k]) (rest := []) C0 (m_fits hn) gw707 gw705 gw706 gw7 (by decide +kernel) ⟨Nat.le_of_ble_eq_true rfl, Nat.le_of_ble_eq_true rfl⟩ rfl rfl ⟨Nat.le_of_ble_eq_true rfl, Nat.le_of_ble_eq_true rfl⟩ hP rfl hl.1 rfl (Nat.le_of_ble_eq_true rfl) dM_statement_20) hS hA (fun r10 f9 H locs hq20 hP hS => ?_)
    obtain ⟨er10, ef9⟩ := hq20
    subst er10
    rw [ef9] at hP
    refine lv_if_ne (tgt := 32) hx hb dM_statement_23 (by decide) (fun c23 => ?_) (fun c23 => ?_)
    · have c23 : (q_st (nI 2) a b cr k) = true := kb_t.mp c23
      obtain ⟨i0, hi0, rfl⟩ := q_fn_nI (nb_f c9)
      have hz16 := (hW i0 hi0).2.1.1
      have h6n := (hni i0 hi0).2
      have hon := (hoi i0 hi0).2
      refine lv_aload_n hx hb dM_statement_32 rfl (lv_at hl 0 rfl) ?_
      refine lv_iload_n hx hb dM_statement_33 rfl (lv_at hl 1 rfl) ?_
      refine lv_iload_n hx hb dM_statement_34 rfl (lv_at hl 2 rfl) ?_
      refine lv_iload_n hx hb dM_statement_35 rfl (lv_at hl 3 rfl) ?_
      refine lv_iload hx hb dM_statement_36 (lv_at hl 4 rfl) ?_
      refine lv_iload hx hb dM_statement_38 (lv_at hl 5 rfl) ?_
      refine then_i (run_V (n := 5) (As := [.int (nI i0), .int (nI 2), .int a, .int b, .int cr]) (rest := []) C0 (m_stands_2 hn hi0 hz16 hM (hoi i0 hi0).1 (by omega) (htm i0 hi0) hD2) gw714 gw711 gw713 gsM_stands gw7 (by decide +kernel) ⟨Nat.le_of_ble_eq_true rfl, Nat.le_of_ble_eq_true rfl⟩ rfl rfl ⟨Nat.le_of_ble_eq_true rfl, Nat.le_of_ble_eq_true rfl⟩ hP hD2.1.1.1 hD2.2.1 rfl rfl rfl hl.1 rfl (Nat.le_of_ble_eq_true rfl) dM_statement_40) hS hA (fun r12 f11 H locs hq40 hP hS => ?_)
      obtain ⟨er12, ef11⟩ := hq40
      subst er12
      rw [ef11] at hP
      refine lv_if_ne (tgt := 52) hx hb dM_statement_43 (by decide) (fun c43 => ?_) (fun c43 => ?_)
      · have c43 : (m_hw σ i0 (nI 2) a b cr && m_op (oi i0) (G 11 (tm i0)) (nI 2)) = true := kb_t.mp c43
        refine lv_aload_n hx hb dM_statement_52 rfl (lv_at hl 0 rfl) ?_
        refine mm_get (v := .ref (ad 9)) hx hb hg inM hown hK hP hD2.1.1.1 hD2.2.1 rfl 10 (by decide) (hg _ gw603) (fun _ h9 => h9) rfl dM_statement_53 ?_
        refine lv_iload_n hx hb dM_statement_56 rfl (lv_at hl 1 rfl) ?_
        refine mm_iald hx hb hK hP (hD2.1.2 9 (by decide)).1 (show mm_I tys f1 (ad 9) 4 (G 9) from (hD2.1.2 9 (by decide)).2) (vp_in_nI (show i0 < 4 by omega) (by omega)) dM_statement_57 ?_
        rw [nI_clamp (by omega)]
        rw [hM.2.2.2 i0 hi0]
        refine lv_bipush (v := nI 16) hx hb dM_statement_58 (by decide) ?_
        refine lv_icmp_eq (tgt := 79) hx hb dM_statement_60 (by decide) (fun c60 => ?_) (fun c60 => ?_)
        · refine lv_aload_n hx hb dM_statement_79 rfl (lv_at hl 0 rfl) ?_
          refine lv_iconst (v := nI 3) hx hb dM_statement_80 (by decide) ?_
          refine then_i (run_V (n := 1) (As := [.int (nI 3)]) (rest := []) C0 (m_raise hn hD2) gw700 gw697 gw699 gsM_raise gw7 (by decide +kernel) ⟨Nat.le_of_ble_eq_true rfl, Nat.le_of_ble_eq_true rfl⟩ rfl rfl ⟨Nat.le_of_ble_eq_true rfl, Nat.le_of_ble_eq_true rfl⟩ hP hD2.1.1.1 hD2.2.1 rfl rfl rfl hl.1 rfl (Nat.le_of_ble_eq_true rfl) dM_statement_81) hS hA (fun r14 f13 H locs hq81 hP hS => ?_)
          obtain ⟨hr15, hD15, hs15⟩ := hq81
          have ha15 := ha3.trans (SmA.of3 (Sm3.ofO hs15))
          refine ret_i C0 hP hS ⟨nI 3, ha15, Or.inr ⟨nb_f c9, c23, fun i2 e2 h2 => Or.inr (Or.inl ?_)⟩⟩ dM_statement_84
          obtain rfl := (nI_eq (by omega) (by omega)).mp e2
          refine ⟨c43, ?_, rfl, ⟨_, _, _, _, _, _, ka, kc, _, _, _, hfe, hka, hkc, hD15⟩⟩
          cases e9 : q_rm (sz σ i0) (ni i0) (nI 2) with
          | false => rfl
          | true =>
            have e8 := (q_rm_iff hz16 h6n).mp e9
            have e6 := (nI_eq (by omega) (by omega)).mp c60
            omega
        · refine lv_iload_n hx hb dM_statement_63 rfl (lv_at hl 2 rfl) ?_
          refine lv_iconst (v := nI 2) hx hb dM_statement_64 (by decide) ?_
          refine lv_icmp_ne (tgt := 85) hx hb dM_statement_65 (by decide) (fun c65 => absurd (by decide +kernel) c65) (fun c65 => ?_)
          refine lv_aload_n hx hb dM_statement_68 rfl (lv_at hl 0 rfl) ?_
          refine mm_get (v := .ref (ad 13)) hx hb hg inM hown hK hP hD2.1.1.1 hD2.2.1 rfl 14 (by decide) (hg _ gw607) (fun _ h9 => h9) rfl dM_statement_69 ?_
          refine lv_iload_n hx hb dM_statement_72 rfl (lv_at hl 1 rfl) ?_
          refine mm_iald hx hb hK hP (hD2.1.2 13 (by decide)).1 (show mm_I tys f1 (ad 13) 4 (G 13) from (hD2.1.2 13 (by decide)).2) (vp_in_nI (show i0 < 4 by omega) (by omega)) dM_statement_73 ?_
          rw [nI_clamp (by omega)]
          rw [(hni i0 hi0).1]
          refine lv_bipush (v := nI 6) hx hb dM_statement_74 (by decide) ?_
          refine lv_icmp_ne (tgt := 85) hx hb dM_statement_76 (by decide) (fun c76 => ?_) (fun c76 => ?_)
          · have hlt : sz σ i0 < 16 := by have h9 : ¬ sz σ i0 = 16 := fun z => c60 (by rw [z]); omega
            have hl6 : ni i0 < 6 := by have h9 : ¬ ni i0 = 6 := fun z => c76 (by rw [z]); omega
            refine lv_bipush (v := nI 16) hx hb dM_statement_85 (by decide) ?_
            refine lv_iload_n hx hb dM_statement_87 rfl (lv_at hl 1 rfl) ?_
            refine lv_imul hx hb dM_statement_88 ?_
            rw [pk_mul]
            refine lv_aload_n hx hb dM_statement_89 rfl (lv_at hl 0 rfl) ?_
            refine mm_get (v := .ref (ad 9)) hx hb hg inM hown hK hP hD2.1.1.1 hD2.2.1 rfl 10 (by decide) (hg _ gw603) (fun _ h9 => h9) rfl dM_statement_90 ?_
            refine lv_iload_n hx hb dM_statement_93 rfl (lv_at hl 1 rfl) ?_
            refine mm_iald hx hb hK hP (hD2.1.2 9 (by decide)).1 (show mm_I tys f1 (ad 9) 4 (G 9) from (hD2.1.2 9 (by decide)).2) (vp_in_nI (show i0 < 4 by omega) (by omega)) dM_statement_94 ?_
            rw [nI_clamp (by omega)]
            rw [hM.2.2.2 i0 hi0]
            refine lv_iadd hx hb dM_statement_95 ?_
            rw [nI_add]
            refine lv_istore (lv' := [(7, .int (nI ((16 * i0) + (sz σ i0)))), (0, .ref mo), (1, .int (nI i0)), (2, .int (nI 2)), (3, .int a), (4, .int b), (5, .int cr), (6, .int k)]) hx hb dM_statement_96 hl (by decide) rfl (fun ls hl => ?_)
            refine lv_aload_n hx hb dM_statement_98 rfl (lv_at hl 1 rfl) ?_
            refine mm_get (v := .ref (ad 4)) hx hb hg inM hown hK hP hD2.1.1.1 hD2.2.1 rfl 5 (by decide) (hg _ gw598) (fun _ h9 => h9) rfl dM_statement_99 ?_
            refine lv_iload hx hb dM_statement_102 (lv_at hl 0 rfl) ?_
            refine lv_iload_n hx hb dM_statement_104 rfl (lv_at hl 3 rfl) ?_
            refine mm_iast hx hb hK hn hA hP hS (hD2.1.2 4 (by decide)).1 (show mm_I tys f1 (ad 4) 64 (G 4) from (hD2.1.2 4 (by decide)).2) (vp_in_nI (show (16 * i0) + (sz σ i0) < 64 by omega) (by omega)) dM_statement_105 (fun H locs hP hS => ?_)
            rw [nI_clamp (by omega)] at hP
            obtain ⟨f16, hf16⟩ : ∃ z, z = mm_si f1 (ad 4) (upd (G 4) ((16 * i0) + (sz σ i0)) (nI 2)) := ⟨_, rfl⟩
            have hP : va_P D zCl (va_pl L f16) H := by rw [hf16]; exact hP
            have hs17 : Same1 f1 f16 (ad 4) := fun z hz => by rw [hf16, mm_si_ne hz]
            have hD17 : MD tys L f16 mo ap cm ad (fun j => if j = 4 then upd (G 4) ((16 * i0) + (sz σ i0)) (nI 2) else G j) (nI 0) fe me fu le en sp (nI ka) (nI kc) mx se gc := hD2.updA hinj (k := 4) (by decide) (by rw [hf16]; exact (show mm_I tys f1 (ad 4) 64 (G 4) from (hD2.1.2 4 (by decide)).2).set) hs17
            have ha18 := ha3.trans (SmA.of1 (k := 4) (by decide) hs17)
            refine lv_aload_n hx hb dM_statement_106 rfl (lv_at hl 1 rfl) ?_
            refine mm_get (v := .ref (ad 5)) hx hb hg inM hown hK hP hD17.1.1.1 hD17.2.1 rfl 6 (by decide) (hg _ gw599) (fun _ h9 => h9) rfl dM_statement_107 ?_
            refine lv_iload hx hb dM_statement_110 (lv_at hl 0 rfl) ?_
            refine lv_iload_n hx hb dM_statement_112 rfl (lv_at hl 4 rfl) ?_
            refine mm_iast hx hb hK hn hA hP hS (hD17.1.2 5 (by decide)).1 (show mm_I tys f16 (ad 5) 64 (G 5) from (hD17.1.2 5 (by decide)).2) (vp_in_nI (show (16 * i0) + (sz σ i0) < 64 by omega) (by omega)) dM_statement_113 (fun H locs hP hS => ?_)
            rw [nI_clamp (by omega)] at hP
            obtain ⟨f19, hf19⟩ : ∃ z, z = mm_si f16 (ad 5) (upd (G 5) ((16 * i0) + (sz σ i0)) a) := ⟨_, rfl⟩
            have hP : va_P D zCl (va_pl L f19) H := by rw [hf19]; exact hP
            have hs20 : Same1 f16 f19 (ad 5) := fun z hz => by rw [hf19, mm_si_ne hz]
            have hD20 : MD tys L f19 mo ap cm ad (fun j => if j = 5 then upd (G 5) ((16 * i0) + (sz σ i0)) a else (fun j => if j = 4 then upd (G 4) ((16 * i0) + (sz σ i0)) (nI 2) else G j) j) (nI 0) fe me fu le en sp (nI ka) (nI kc) mx se gc := hD17.updA hinj (k := 5) (by decide) (by rw [hf19]; exact (show mm_I tys f16 (ad 5) 64 (G 5) from (hD17.1.2 5 (by decide)).2).set) hs20
            have ha21 := ha18.trans (SmA.of1 (k := 5) (by decide) hs20)
            refine lv_aload_n hx hb dM_statement_114 rfl (lv_at hl 1 rfl) ?_
            refine mm_get (v := .ref (ad 6)) hx hb hg inM hown hK hP hD20.1.1.1 hD20.2.1 rfl 7 (by decide) (hg _ gw600) (fun _ h9 => h9) rfl dM_statement_115 ?_
            refine lv_iload hx hb dM_statement_118 (lv_at hl 0 rfl) ?_
            refine lv_iload hx hb dM_statement_120 (lv_at hl 5 rfl) ?_
            refine mm_iast hx hb hK hn hA hP hS (hD20.1.2 6 (by decide)).1 (show mm_I tys f19 (ad 6) 64 (G 6) from (hD20.1.2 6 (by decide)).2) (vp_in_nI (show (16 * i0) + (sz σ i0) < 64 by omega) (by omega)) dM_statement_122 (fun H locs hP hS => ?_)
            rw [nI_clamp (by omega)] at hP
            obtain ⟨f22, hf22⟩ : ∃ z, z = mm_si f19 (ad 6) (upd (G 6) ((16 * i0) + (sz σ i0)) b) := ⟨_, rfl⟩
            have hP : va_P D zCl (va_pl L f22) H := by rw [hf22]; exact hP
            have hs23 : Same1 f19 f22 (ad 6) := fun z hz => by rw [hf22, mm_si_ne hz]
            have hD23 : MD tys L f22 mo ap cm ad (fun j => if j = 6 then upd (G 6) ((16 * i0) + (sz σ i0)) b else (fun j => if j = 5 then upd (G 5) ((16 * i0) + (sz σ i0)) a else (fun j => if j = 4 then upd (G 4) ((16 * i0) + (sz σ i0)) (nI 2) else G j) j) j) (nI 0) fe me fu le en sp (nI ka) (nI kc) mx se gc := hD20.updA hinj (k := 6) (by decide) (by rw [hf22]; exact (show mm_I tys f19 (ad 6) 64 (G 6) from (hD20.1.2 6 (by decide)).2).set) hs23
            have ha24 := ha21.trans (SmA.of1 (k := 6) (by decide) hs23)
            refine lv_aload_n hx hb dM_statement_123 rfl (lv_at hl 1 rfl) ?_
            refine mm_get (v := .ref (ad 7)) hx hb hg inM hown hK hP hD23.1.1.1 hD23.2.1 rfl 8 (by decide) (hg _ gw601) (fun _ h9 => h9) rfl dM_statement_124 ?_
            refine lv_iload hx hb dM_statement_127 (lv_at hl 0 rfl) ?_
            refine lv_iload hx hb dM_statement_129 (lv_at hl 6 rfl) ?_
            refine mm_iast hx hb hK hn hA hP hS (hD23.1.2 7 (by decide)).1 (show mm_I tys f22 (ad 7) 64 (G 7) from (hD23.1.2 7 (by decide)).2) (vp_in_nI (show (16 * i0) + (sz σ i0) < 64 by omega) (by omega)) dM_statement_131 (fun H locs hP hS => ?_)
            rw [nI_clamp (by omega)] at hP
            obtain ⟨f25, hf25⟩ : ∃ z, z = mm_si f22 (ad 7) (upd (G 7) ((16 * i0) + (sz σ i0)) cr) := ⟨_, rfl⟩
            have hP : va_P D zCl (va_pl L f25) H := by rw [hf25]; exact hP
            have hs26 : Same1 f22 f25 (ad 7) := fun z hz => by rw [hf25, mm_si_ne hz]
            have hD26 : MD tys L f25 mo ap cm ad (fun j => if j = 7 then upd (G 7) ((16 * i0) + (sz σ i0)) cr else (fun j => if j = 6 then upd (G 6) ((16 * i0) + (sz σ i0)) b else (fun j => if j = 5 then upd (G 5) ((16 * i0) + (sz σ i0)) a else (fun j => if j = 4 then upd (G 4) ((16 * i0) + (sz σ i0)) (nI 2) else G j) j) j) j) (nI 0) fe me fu le en sp (nI ka) (nI kc) mx se gc := hD23.updA hinj (k := 7) (by decide) (by rw [hf25]; exact (show mm_I tys f22 (ad 7) 64 (G 7) from (hD23.1.2 7 (by decide)).2).set) hs26
            have ha27 := ha24.trans (SmA.of1 (k := 7) (by decide) hs26)
            refine lv_aload_n hx hb dM_statement_132 rfl (lv_at hl 1 rfl) ?_
            refine mm_get (v := .ref (ad 8)) hx hb hg inM hown hK hP hD26.1.1.1 hD26.2.1 rfl 9 (by decide) (hg _ gw602) (fun _ h9 => h9) rfl dM_statement_133 ?_
            refine lv_iload hx hb dM_statement_136 (lv_at hl 0 rfl) ?_
            refine lv_iload hx hb dM_statement_138 (lv_at hl 7 rfl) ?_
            refine mm_iast hx hb hK hn hA hP hS (hD26.1.2 8 (by decide)).1 (show mm_I tys f25 (ad 8) 64 (G 8) from (hD26.1.2 8 (by decide)).2) (vp_in_nI (show (16 * i0) + (sz σ i0) < 64 by omega) (by omega)) dM_statement_140 (fun H locs hP hS => ?_)
            rw [nI_clamp (by omega)] at hP
            obtain ⟨f28, hf28⟩ : ∃ z, z = mm_si f25 (ad 8) (upd (G 8) ((16 * i0) + (sz σ i0)) k) := ⟨_, rfl⟩
            have hP : va_P D zCl (va_pl L f28) H := by rw [hf28]; exact hP
            have hs29 : Same1 f25 f28 (ad 8) := fun z hz => by rw [hf28, mm_si_ne hz]
            have hD29 : MD tys L f28 mo ap cm ad (fun j => if j = 8 then upd (G 8) ((16 * i0) + (sz σ i0)) k else (fun j => if j = 7 then upd (G 7) ((16 * i0) + (sz σ i0)) cr else (fun j => if j = 6 then upd (G 6) ((16 * i0) + (sz σ i0)) b else (fun j => if j = 5 then upd (G 5) ((16 * i0) + (sz σ i0)) a else (fun j => if j = 4 then upd (G 4) ((16 * i0) + (sz σ i0)) (nI 2) else G j) j) j) j) j) (nI 0) fe me fu le en sp (nI ka) (nI kc) mx se gc := hD26.updA hinj (k := 8) (by decide) (by rw [hf28]; exact (show mm_I tys f25 (ad 8) 64 (G 8) from (hD26.1.2 8 (by decide)).2).set) hs29
            have ha30 := ha27.trans (SmA.of1 (k := 8) (by decide) hs29)
            refine lv_aload_n hx hb dM_statement_141 rfl (lv_at hl 1 rfl) ?_
            refine mm_get (v := .ref (ad 11)) hx hb hg inM hown hK hP hD29.1.1.1 hD29.2.1 rfl 12 (by decide) (hg _ gw605) (fun _ h9 => h9) rfl dM_statement_142 ?_
            refine lv_iload hx hb dM_statement_145 (lv_at hl 0 rfl) ?_
            refine lv_iconst (v := (-1)) hx hb dM_statement_147 (by decide) ?_
            refine mm_iast hx hb hK hn hA hP hS (hD29.1.2 11 (by decide)).1 (show mm_I tys f28 (ad 11) 64 (G 11) from (hD29.1.2 11 (by decide)).2) (vp_in_nI (show (16 * i0) + (sz σ i0) < 64 by omega) (by omega)) dM_statement_148 (fun H locs hP hS => ?_)
            rw [nI_clamp (by omega)] at hP
            obtain ⟨f31, hf31⟩ : ∃ z, z = mm_si f28 (ad 11) (upd (G 11) ((16 * i0) + (sz σ i0)) (-1)) := ⟨_, rfl⟩
            have hP : va_P D zCl (va_pl L f31) H := by rw [hf31]; exact hP
            have hs32 : Same1 f28 f31 (ad 11) := fun z hz => by rw [hf31, mm_si_ne hz]
            have hD32 : MD tys L f31 mo ap cm ad (fun j => if j = 11 then upd (G 11) ((16 * i0) + (sz σ i0)) (-1) else (fun j => if j = 8 then upd (G 8) ((16 * i0) + (sz σ i0)) k else (fun j => if j = 7 then upd (G 7) ((16 * i0) + (sz σ i0)) cr else (fun j => if j = 6 then upd (G 6) ((16 * i0) + (sz σ i0)) b else (fun j => if j = 5 then upd (G 5) ((16 * i0) + (sz σ i0)) a else (fun j => if j = 4 then upd (G 4) ((16 * i0) + (sz σ i0)) (nI 2) else G j) j) j) j) j) j) (nI 0) fe me fu le en sp (nI ka) (nI kc) mx se gc := hD29.updA hinj (k := 11) (by decide) (by rw [hf31]; exact (show mm_I tys f28 (ad 11) 64 (G 11) from (hD29.1.2 11 (by decide)).2).set) hs32
            have ha33 := ha30.trans (SmA.of1 (k := 11) (by decide) hs32)
            refine lv_aload_n hx hb dM_statement_149 rfl (lv_at hl 1 rfl) ?_
            refine mm_get (v := .ref (ad 12)) hx hb hg inM hown hK hP hD32.1.1.1 hD32.2.1 rfl 13 (by decide) (hg _ gw606) (fun _ h9 => h9) rfl dM_statement_150 ?_
            refine lv_iload hx hb dM_statement_153 (lv_at hl 0 rfl) ?_
            refine lv_iconst (v := (-1)) hx hb dM_statement_155 (by decide) ?_
            refine mm_iast hx hb hK hn hA hP hS (hD32.1.2 12 (by decide)).1 (show mm_I tys f31 (ad 12) 64 (G 12) from (hD32.1.2 12 (by decide)).2) (vp_in_nI (show (16 * i0) + (sz σ i0) < 64 by omega) (by omega)) dM_statement_156 (fun H locs hP hS => ?_)
            rw [nI_clamp (by omega)] at hP
            obtain ⟨f34, hf34⟩ : ∃ z, z = mm_si f31 (ad 12) (upd (G 12) ((16 * i0) + (sz σ i0)) (-1)) := ⟨_, rfl⟩
            have hP : va_P D zCl (va_pl L f34) H := by rw [hf34]; exact hP
            have hs35 : Same1 f31 f34 (ad 12) := fun z hz => by rw [hf34, mm_si_ne hz]
            have hD35 : MD tys L f34 mo ap cm ad (fun j => if j = 12 then upd (G 12) ((16 * i0) + (sz σ i0)) (-1) else (fun j => if j = 11 then upd (G 11) ((16 * i0) + (sz σ i0)) (-1) else (fun j => if j = 8 then upd (G 8) ((16 * i0) + (sz σ i0)) k else (fun j => if j = 7 then upd (G 7) ((16 * i0) + (sz σ i0)) cr else (fun j => if j = 6 then upd (G 6) ((16 * i0) + (sz σ i0)) b else (fun j => if j = 5 then upd (G 5) ((16 * i0) + (sz σ i0)) a else (fun j => if j = 4 then upd (G 4) ((16 * i0) + (sz σ i0)) (nI 2) else G j) j) j) j) j) j) j) (nI 0) fe me fu le en sp (nI ka) (nI kc) mx se gc := hD32.updA hinj (k := 12) (by decide) (by rw [hf34]; exact (show mm_I tys f31 (ad 12) 64 (G 12) from (hD32.1.2 12 (by decide)).2).set) hs35
            have ha36 := ha33.trans (SmA.of1 (k := 12) (by decide) hs35)
            refine lv_bipush (v := nI 6) hx hb dM_statement_157 (by decide) ?_
            refine lv_iload_n hx hb dM_statement_159 rfl (lv_at hl 2 rfl) ?_
            refine lv_imul hx hb dM_statement_160 ?_
            rw [pk_mul]
            refine lv_aload_n hx hb dM_statement_161 rfl (lv_at hl 1 rfl) ?_
            refine mm_get (v := .ref (ad 15)) hx hb hg inM hown hK hP hD35.1.1.1 hD35.2.1 rfl 16 (by decide) (hg _ gw609) (fun _ h9 => h9) rfl dM_statement_162 ?_
            refine lv_iload_n hx hb dM_statement_165 rfl (lv_at hl 2 rfl) ?_
            refine mm_iald hx hb hK hP (hD35.1.2 15 (by decide)).1 (show mm_I tys f34 (ad 15) 4 (G 15) from (hD35.1.2 15 (by decide)).2) (vp_in_nI (show i0 < 4 by omega) (by omega)) dM_statement_166 ?_
            rw [nI_clamp (by omega)]
            rw [(hoi i0 hi0).1]
            refine lv_iadd hx hb dM_statement_167 ?_
            rw [nI_add]
            refine lv_istore (lv' := [(8, .int (nI ((6 * i0) + (oi i0)))), (7, .int (nI ((16 * i0) + (sz σ i0)))), (0, .ref mo), (1, .int (nI i0)), (2, .int (nI 2)), (3, .int a), (4, .int b), (5, .int cr), (6, .int k)]) hx hb dM_statement_168 hl (by decide) rfl (fun ls hl => ?_)
            refine lv_iload_n hx hb dM_statement_170 rfl (lv_at hl 4 rfl) ?_
            refine lv_iconst (v := nI 2) hx hb dM_statement_171 (by decide) ?_
            refine lv_icmp_ne (tgt := 217) hx hb dM_statement_172 (by decide) (fun c172 => absurd (by decide +kernel) c172) (fun c172 => ?_)
            refine lv_aload_n hx hb dM_statement_175 rfl (lv_at hl 2 rfl) ?_
            refine mm_get (v := .ref (ad 10)) hx hb hg inM hown hK hP hD35.1.1.1 hD35.2.1 rfl 11 (by decide) (hg _ gw604) (fun _ h9 => h9) rfl dM_statement_176 ?_
            refine lv_iload hx hb dM_statement_179 (lv_at hl 1 rfl) ?_
            refine lv_aload_n hx hb dM_statement_181 rfl (lv_at hl 2 rfl) ?_
            refine mm_get (v := .ref (ad 13)) hx hb hg inM hown hK hP hD35.1.1.1 hD35.2.1 rfl 14 (by decide) (hg _ gw607) (fun _ h9 => h9) rfl dM_statement_182 ?_
            refine lv_iload_n hx hb dM_statement_185 rfl (lv_at hl 3 rfl) ?_
            refine mm_iald hx hb hK hP (hD35.1.2 13 (by decide)).1 (show mm_I tys f34 (ad 13) 4 (G 13) from (hD35.1.2 13 (by decide)).2) (vp_in_nI (show i0 < 4 by omega) (by omega)) dM_statement_186 ?_
            rw [nI_clamp (by omega)]
            rw [(hni i0 hi0).1]
            refine mm_iast hx hb hK hn hA hP hS (hD35.1.2 10 (by decide)).1 (show mm_I tys f34 (ad 10) 64 (G 10) from (hD35.1.2 10 (by decide)).2) (vp_in_nI (show (16 * i0) + (sz σ i0) < 64 by omega) (by omega)) dM_statement_187 (fun H locs hP hS => ?_)
            rw [nI_clamp (by omega)] at hP
            obtain ⟨f37, hf37⟩ : ∃ z, z = mm_si f34 (ad 10) (upd (G 10) ((16 * i0) + (sz σ i0)) (nI (ni i0))) := ⟨_, rfl⟩
            have hP : va_P D zCl (va_pl L f37) H := by rw [hf37]; exact hP
            have hs38 : Same1 f34 f37 (ad 10) := fun z hz => by rw [hf37, mm_si_ne hz]
            have hD38 : MD tys L f37 mo ap cm ad (fun j => if j = 10 then upd (G 10) ((16 * i0) + (sz σ i0)) (nI (ni i0)) else (fun j => if j = 12 then upd (G 12) ((16 * i0) + (sz σ i0)) (-1) else (fun j => if j = 11 then upd (G 11) ((16 * i0) + (sz σ i0)) (-1) else (fun j => if j = 8 then upd (G 8) ((16 * i0) + (sz σ i0)) k else (fun j => if j = 7 then upd (G 7) ((16 * i0) + (sz σ i0)) cr else (fun j => if j = 6 then upd (G 6) ((16 * i0) + (sz σ i0)) b else (fun j => if j = 5 then upd (G 5) ((16 * i0) + (sz σ i0)) a else (fun j => if j = 4 then upd (G 4) ((16 * i0) + (sz σ i0)) (nI 2) else G j) j) j) j) j) j) j) j) (nI 0) fe me fu le en sp (nI ka) (nI kc) mx se gc := hD35.updA hinj (k := 10) (by decide) (by rw [hf37]; exact (show mm_I tys f34 (ad 10) 64 (G 10) from (hD35.1.2 10 (by decide)).2).set) hs38
            have ha39 := ha36.trans (SmA.of1 (k := 10) (by decide) hs38)
            refine lv_aload_n hx hb dM_statement_188 rfl (lv_at hl 2 rfl) ?_
            refine mm_get (v := .ref (ad 13)) hx hb hg inM hown hK hP hD38.1.1.1 hD38.2.1 rfl 14 (by decide) (hg _ gw607) (fun _ h9 => h9) rfl dM_statement_189 ?_
            refine lv_iload_n hx hb dM_statement_192 rfl (lv_at hl 3 rfl) ?_
            refine lv_dup2_11 hx hb dM_statement_193 rfl rfl ?_
            refine mm_iald hx hb hK hP (hD38.1.2 13 (by decide)).1 (show mm_I tys f37 (ad 13) 4 (G 13) from (hD38.1.2 13 (by decide)).2) (vp_in_nI (show i0 < 4 by omega) (by omega)) dM_statement_194 ?_
            rw [nI_clamp (by omega)]
            rw [(hni i0 hi0).1]
            refine lv_iconst (v := nI 1) hx hb dM_statement_195 (by decide) ?_
            refine lv_iadd hx hb dM_statement_196 ?_
            rw [nI_add]
            refine mm_iast hx hb hK hn hA hP hS (hD38.1.2 13 (by decide)).1 (show mm_I tys f37 (ad 13) 4 (G 13) from (hD38.1.2 13 (by decide)).2) (vp_in_nI (show i0 < 4 by omega) (by omega)) dM_statement_197 (fun H locs hP hS => ?_)
            rw [nI_clamp (by omega)] at hP
            obtain ⟨f40, hf40⟩ : ∃ z, z = mm_si f37 (ad 13) (upd (G 13) i0 (nI ((ni i0) + 1))) := ⟨_, rfl⟩
            have hP : va_P D zCl (va_pl L f40) H := by rw [hf40]; exact hP
            have hs41 : Same1 f37 f40 (ad 13) := fun z hz => by rw [hf40, mm_si_ne hz]
            have hD41 : MD tys L f40 mo ap cm ad (fun j => if j = 13 then upd (G 13) i0 (nI ((ni i0) + 1)) else (fun j => if j = 10 then upd (G 10) ((16 * i0) + (sz σ i0)) (nI (ni i0)) else (fun j => if j = 12 then upd (G 12) ((16 * i0) + (sz σ i0)) (-1) else (fun j => if j = 11 then upd (G 11) ((16 * i0) + (sz σ i0)) (-1) else (fun j => if j = 8 then upd (G 8) ((16 * i0) + (sz σ i0)) k else (fun j => if j = 7 then upd (G 7) ((16 * i0) + (sz σ i0)) cr else (fun j => if j = 6 then upd (G 6) ((16 * i0) + (sz σ i0)) b else (fun j => if j = 5 then upd (G 5) ((16 * i0) + (sz σ i0)) a else (fun j => if j = 4 then upd (G 4) ((16 * i0) + (sz σ i0)) (nI 2) else G j) j) j) j) j) j) j) j) j) (nI 0) fe me fu le en sp (nI ka) (nI kc) mx se gc := hD38.updA hinj (k := 13) (by decide) (by rw [hf40]; exact (show mm_I tys f37 (ad 13) 4 (G 13) from (hD38.1.2 13 (by decide)).2).set) hs41
            have ha42 := ha39.trans (SmA.of1 (k := 13) (by decide) hs41)
            refine lv_aload_n hx hb dM_statement_198 rfl (lv_at hl 2 rfl) ?_
            refine mm_get (v := .ref (ad 14)) hx hb hg inM hown hK hP hD41.1.1.1 hD41.2.1 rfl 15 (by decide) (hg _ gw608) (fun _ h9 => h9) rfl dM_statement_199 ?_
            refine lv_iload hx hb dM_statement_202 (lv_at hl 0 rfl) ?_
            refine lv_iload hx hb dM_statement_204 (lv_at hl 1 rfl) ?_
            refine mm_iast hx hb hK hn hA hP hS (hD41.1.2 14 (by decide)).1 (show mm_I tys f40 (ad 14) 24 (G 14) from (hD41.1.2 14 (by decide)).2) (vp_in_nI (show (6 * i0) + (oi i0) < 24 by omega) (by omega)) dM_statement_206 (fun H locs hP hS => ?_)
            rw [nI_clamp (by omega)] at hP
            obtain ⟨f43, hf43⟩ : ∃ z, z = mm_si f40 (ad 14) (upd (G 14) ((6 * i0) + (oi i0)) (nI ((16 * i0) + (sz σ i0)))) := ⟨_, rfl⟩
            have hP : va_P D zCl (va_pl L f43) H := by rw [hf43]; exact hP
            have hs44 : Same1 f40 f43 (ad 14) := fun z hz => by rw [hf43, mm_si_ne hz]
            have hD44 : MD tys L f43 mo ap cm ad (fun j => if j = 14 then upd (G 14) ((6 * i0) + (oi i0)) (nI ((16 * i0) + (sz σ i0))) else (fun j => if j = 13 then upd (G 13) i0 (nI ((ni i0) + 1)) else (fun j => if j = 10 then upd (G 10) ((16 * i0) + (sz σ i0)) (nI (ni i0)) else (fun j => if j = 12 then upd (G 12) ((16 * i0) + (sz σ i0)) (-1) else (fun j => if j = 11 then upd (G 11) ((16 * i0) + (sz σ i0)) (-1) else (fun j => if j = 8 then upd (G 8) ((16 * i0) + (sz σ i0)) k else (fun j => if j = 7 then upd (G 7) ((16 * i0) + (sz σ i0)) cr else (fun j => if j = 6 then upd (G 6) ((16 * i0) + (sz σ i0)) b else (fun j => if j = 5 then upd (G 5) ((16 * i0) + (sz σ i0)) a else (fun j => if j = 4 then upd (G 4) ((16 * i0) + (sz σ i0)) (nI 2) else G j) j) j) j) j) j) j) j) j) j) (nI 0) fe me fu le en sp (nI ka) (nI kc) mx se gc := hD41.updA hinj (k := 14) (by decide) (by rw [hf43]; exact (show mm_I tys f40 (ad 14) 24 (G 14) from (hD41.1.2 14 (by decide)).2).set) hs44
            have ha45 := ha42.trans (SmA.of1 (k := 14) (by decide) hs44)
            refine lv_aload_n hx hb dM_statement_207 rfl (lv_at hl 2 rfl) ?_
            refine mm_get (v := .ref (ad 15)) hx hb hg inM hown hK hP hD44.1.1.1 hD44.2.1 rfl 16 (by decide) (hg _ gw609) (fun _ h9 => h9) rfl dM_statement_208 ?_
            refine lv_iload_n hx hb dM_statement_211 rfl (lv_at hl 3 rfl) ?_
            refine lv_dup2_11 hx hb dM_statement_212 rfl rfl ?_
            refine mm_iald hx hb hK hP (hD44.1.2 15 (by decide)).1 (show mm_I tys f43 (ad 15) 4 (G 15) from (hD44.1.2 15 (by decide)).2) (vp_in_nI (show i0 < 4 by omega) (by omega)) dM_statement_213 ?_
            rw [nI_clamp (by omega)]
            rw [(hoi i0 hi0).1]
            refine lv_iconst (v := nI 1) hx hb dM_statement_214 (by decide) ?_
            refine lv_iadd hx hb dM_statement_215 ?_
            rw [nI_add]
            refine mm_iast hx hb hK hn hA hP hS (hD44.1.2 15 (by decide)).1 (show mm_I tys f43 (ad 15) 4 (G 15) from (hD44.1.2 15 (by decide)).2) (vp_in_nI (show i0 < 4 by omega) (by omega)) dM_statement_216 (fun H locs hP hS => ?_)
            rw [nI_clamp (by omega)] at hP
            obtain ⟨f46, hf46⟩ : ∃ z, z = mm_si f43 (ad 15) (upd (G 15) i0 (nI ((oi i0) + 1))) := ⟨_, rfl⟩
            have hP : va_P D zCl (va_pl L f46) H := by rw [hf46]; exact hP
            have hs47 : Same1 f43 f46 (ad 15) := fun z hz => by rw [hf46, mm_si_ne hz]
            have hD47 : MD tys L f46 mo ap cm ad (fun j => if j = 15 then upd (G 15) i0 (nI ((oi i0) + 1)) else (fun j => if j = 14 then upd (G 14) ((6 * i0) + (oi i0)) (nI ((16 * i0) + (sz σ i0))) else (fun j => if j = 13 then upd (G 13) i0 (nI ((ni i0) + 1)) else (fun j => if j = 10 then upd (G 10) ((16 * i0) + (sz σ i0)) (nI (ni i0)) else (fun j => if j = 12 then upd (G 12) ((16 * i0) + (sz σ i0)) (-1) else (fun j => if j = 11 then upd (G 11) ((16 * i0) + (sz σ i0)) (-1) else (fun j => if j = 8 then upd (G 8) ((16 * i0) + (sz σ i0)) k else (fun j => if j = 7 then upd (G 7) ((16 * i0) + (sz σ i0)) cr else (fun j => if j = 6 then upd (G 6) ((16 * i0) + (sz σ i0)) b else (fun j => if j = 5 then upd (G 5) ((16 * i0) + (sz σ i0)) a else (fun j => if j = 4 then upd (G 4) ((16 * i0) + (sz σ i0)) (nI 2) else G j) j) j) j) j) j) j) j) j) j) j) (nI 0) fe me fu le en sp (nI ka) (nI kc) mx se gc := hD44.updA hinj (k := 15) (by decide) (by rw [hf46]; exact (show mm_I tys f43 (ad 15) 4 (G 15) from (hD44.1.2 15 (by decide)).2).set) hs47
            have ha48 := ha45.trans (SmA.of1 (k := 15) (by decide) hs47)
            refine lv_iload_n hx hb dM_statement_217 rfl (lv_at hl 4 rfl) ?_
            refine lv_iconst (v := nI 3) hx hb dM_statement_218 (by decide) ?_
            refine lv_icmp_ne (tgt := 242) hx hb dM_statement_219 (by decide) (fun c219 => ?_) (fun c219 => absurd c219 (by decide +kernel))
            refine lv_iload_n hx hb dM_statement_242 rfl (lv_at hl 4 rfl) ?_
            refine lv_iconst (v := nI 4) hx hb dM_statement_243 (by decide) ?_
            refine lv_icmp_ne (tgt := 277) hx hb dM_statement_244 (by decide) (fun c244 => ?_) (fun c244 => absurd c244 (by decide +kernel))
            refine lv_aload_n hx hb dM_statement_277 rfl (lv_at hl 2 rfl) ?_
            refine mm_get (v := .ref (ad 9)) hx hb hg inM hown hK hP hD47.1.1.1 hD47.2.1 rfl 10 (by decide) (hg _ gw603) (fun _ h9 => h9) rfl dM_statement_278 ?_
            refine lv_iload_n hx hb dM_statement_281 rfl (lv_at hl 3 rfl) ?_
            refine lv_dup2_11 hx hb dM_statement_282 rfl rfl ?_
            refine mm_iald hx hb hK hP (hD47.1.2 9 (by decide)).1 (show mm_I tys f46 (ad 9) 4 (G 9) from (hD47.1.2 9 (by decide)).2) (vp_in_nI (show i0 < 4 by omega) (by omega)) dM_statement_283 ?_
            rw [nI_clamp (by omega)]
            rw [hM.2.2.2 i0 hi0]
            refine lv_iconst (v := nI 1) hx hb dM_statement_284 (by decide) ?_
            refine lv_iadd hx hb dM_statement_285 ?_
            rw [nI_add]
            refine mm_iast hx hb hK hn hA hP hS (hD47.1.2 9 (by decide)).1 (show mm_I tys f46 (ad 9) 4 (G 9) from (hD47.1.2 9 (by decide)).2) (vp_in_nI (show i0 < 4 by omega) (by omega)) dM_statement_286 (fun H locs hP hS => ?_)
            rw [nI_clamp (by omega)] at hP
            obtain ⟨f49, hf49⟩ : ∃ z, z = mm_si f46 (ad 9) (upd (G 9) i0 (nI ((sz σ i0) + 1))) := ⟨_, rfl⟩
            have hP : va_P D zCl (va_pl L f49) H := by rw [hf49]; exact hP
            have hs50 : Same1 f46 f49 (ad 9) := fun z hz => by rw [hf49, mm_si_ne hz]
            have hD50 : MD tys L f49 mo ap cm ad (fun j => if j = 9 then upd (G 9) i0 (nI ((sz σ i0) + 1)) else (fun j => if j = 15 then upd (G 15) i0 (nI ((oi i0) + 1)) else (fun j => if j = 14 then upd (G 14) ((6 * i0) + (oi i0)) (nI ((16 * i0) + (sz σ i0))) else (fun j => if j = 13 then upd (G 13) i0 (nI ((ni i0) + 1)) else (fun j => if j = 10 then upd (G 10) ((16 * i0) + (sz σ i0)) (nI (ni i0)) else (fun j => if j = 12 then upd (G 12) ((16 * i0) + (sz σ i0)) (-1) else (fun j => if j = 11 then upd (G 11) ((16 * i0) + (sz σ i0)) (-1) else (fun j => if j = 8 then upd (G 8) ((16 * i0) + (sz σ i0)) k else (fun j => if j = 7 then upd (G 7) ((16 * i0) + (sz σ i0)) cr else (fun j => if j = 6 then upd (G 6) ((16 * i0) + (sz σ i0)) b else (fun j => if j = 5 then upd (G 5) ((16 * i0) + (sz σ i0)) a else (fun j => if j = 4 then upd (G 4) ((16 * i0) + (sz σ i0)) (nI 2) else G j) j) j) j) j) j) j) j) j) j) j) j) (nI 0) fe me fu le en sp (nI ka) (nI kc) mx se gc := hD47.updA hinj (k := 9) (by decide) (by rw [hf49]; exact (show mm_I tys f46 (ad 9) 4 (G 9) from (hD47.1.2 9 (by decide)).2).set) hs50
            have ha51 := ha48.trans (SmA.of1 (k := 9) (by decide) hs50)
            refine lv_aload_n hx hb dM_statement_287 rfl (lv_at hl 2 rfl) ?_
            refine mm_get (v := .ref (ad 9)) hx hb hg inM hown hK hP hD50.1.1.1 hD50.2.1 rfl 10 (by decide) (hg _ gw603) (fun _ h9 => h9) rfl dM_statement_288 ?_
            refine lv_iload_n hx hb dM_statement_291 rfl (lv_at hl 3 rfl) ?_
            refine mm_iald hx hb hK hP (hD50.1.2 9 (by decide)).1 (show mm_I tys f49 (ad 9) 4 (upd (G 9) i0 (nI ((sz σ i0) + 1))) from (hD50.1.2 9 (by decide)).2) (vp_in_nI (show i0 < 4 by omega) (by omega)) dM_statement_292 ?_
            rw [nI_clamp (by omega)]
            rw [pk_us]
            refine lv_iconst (v := nI 1) hx hb dM_statement_293 (by decide) ?_
            refine lv_isub hx hb dM_statement_294 ?_
            rw [nI_sub1 (by omega)]
            refine ret_i C0 hP hS ⟨nI 0, ha51, Or.inr ⟨nb_f c9, c23, fun i2 e2 h2 => Or.inr (Or.inr ?_)⟩⟩ dM_statement_295
            obtain rfl := (nI_eq (by omega) (by omega)).mp e2
            refine ⟨c43, (q_rm_iff hz16 h6n).mpr ⟨hlt, fun _ => hl6⟩, rfl, rfl, ?_⟩
            exact MdI.eqG ⟨_, _, _, _, _, _, ka, kc, _, _, _, hfe, hka, hkc, hD50⟩ (fun k2 hk2 => by
              rcases (show k2 = 0 ∨ k2 = 1 ∨ k2 = 2 ∨ k2 = 3 ∨ k2 = 4 ∨ k2 = 5 ∨ k2 = 6 ∨ k2 = 7 ∨ k2 = 8 ∨ k2 = 9 ∨ k2 = 10 ∨ k2 = 11 ∨ k2 = 12 ∨ k2 = 13 ∨ k2 = 14 ∨ k2 = 15 by omega) with e | e | e | e | e | e | e | e | e | e | e | e | e | e | e | e <;> subst e <;> rfl)
          · refine lv_aload_n hx hb dM_statement_79 rfl (lv_at hl 0 rfl) ?_
            refine lv_iconst (v := nI 3) hx hb dM_statement_80 (by decide) ?_
            refine then_i (run_V (n := 1) (As := [.int (nI 3)]) (rest := []) C0 (m_raise hn hD2) gw700 gw697 gw699 gsM_raise gw7 (by decide +kernel) ⟨Nat.le_of_ble_eq_true rfl, Nat.le_of_ble_eq_true rfl⟩ rfl rfl ⟨Nat.le_of_ble_eq_true rfl, Nat.le_of_ble_eq_true rfl⟩ hP hD2.1.1.1 hD2.2.1 rfl rfl rfl hl.1 rfl (Nat.le_of_ble_eq_true rfl) dM_statement_81) hS hA (fun r53 f52 H locs hq81 hP hS => ?_)
            obtain ⟨hr54, hD54, hs54⟩ := hq81
            have ha54 := ha3.trans (SmA.of3 (Sm3.ofO hs54))
            refine ret_i C0 hP hS ⟨nI 3, ha54, Or.inr ⟨nb_f c9, c23, fun i2 e2 h2 => Or.inr (Or.inl ?_)⟩⟩ dM_statement_84
            obtain rfl := (nI_eq (by omega) (by omega)).mp e2
            refine ⟨c43, ?_, rfl, ⟨_, _, _, _, _, _, ka, kc, _, _, _, hfe, hka, hkc, hD54⟩⟩
            cases e9 : q_rm (sz σ i0) (ni i0) (nI 2) with
            | false => rfl
            | true =>
              have e8 := (q_rm_iff hz16 h6n).mp e9
              have e7 := e8.2 rfl
              have e6 := (nI_eq (by omega) (by omega)).mp c76
              omega
      · have c43 : (m_hw σ i0 (nI 2) a b cr && m_op (oi i0) (G 11 (tm i0)) (nI 2)) = false := kb_0.mp c43
        refine lv_aload_n hx hb dM_statement_46 rfl (lv_at hl 0 rfl) ?_
        refine lv_iconst (v := nI 2) hx hb dM_statement_47 (by decide) ?_
        refine then_i (run_V (n := 1) (As := [.int (nI 2)]) (rest := []) C0 (m_raise hn hD2) gw700 gw697 gw699 gsM_raise gw7 (by decide +kernel) ⟨Nat.le_of_ble_eq_true rfl, Nat.le_of_ble_eq_true rfl⟩ rfl rfl ⟨Nat.le_of_ble_eq_true rfl, Nat.le_of_ble_eq_true rfl⟩ hP hD2.1.1.1 hD2.2.1 rfl rfl rfl hl.1 rfl (Nat.le_of_ble_eq_true rfl) dM_statement_48) hS hA (fun r56 f55 H locs hq48 hP hS => ?_)
        obtain ⟨hr57, hD57, hs57⟩ := hq48
        have ha57 := ha3.trans (SmA.of3 (Sm3.ofO hs57))
        refine ret_i C0 hP hS ⟨nI 2, ha57, Or.inr ⟨nb_f c9, c23, fun i2 e2 h2 => Or.inl ?_⟩⟩ dM_statement_51
        obtain rfl := (nI_eq (by omega) (by omega)).mp e2
        exact ⟨c43, rfl, ⟨_, _, _, _, _, _, ka, kc, _, _, _, hfe, hka, hkc, hD57⟩⟩
    · have c23 : (q_st (nI 2) a b cr k) = false := kb_0.mp c23
      refine lv_aload_n hx hb dM_statement_26 rfl (lv_at hl 0 rfl) ?_
      refine lv_iconst (v := nI 1) hx hb dM_statement_27 (by decide) ?_
      refine then_i (run_V (n := 1) (As := [.int (nI 1)]) (rest := []) C0 (m_raise hn hD2) gw700 gw697 gw699 gsM_raise gw7 (by decide +kernel) ⟨Nat.le_of_ble_eq_true rfl, Nat.le_of_ble_eq_true rfl⟩ rfl rfl ⟨Nat.le_of_ble_eq_true rfl, Nat.le_of_ble_eq_true rfl⟩ hP hD2.1.1.1 hD2.2.1 rfl rfl rfl hl.1 rfl (Nat.le_of_ble_eq_true rfl) dM_statement_28) hS hA (fun r59 f58 H locs hq28 hP hS => ?_)
      obtain ⟨hr60, hD60, hs60⟩ := hq28
      have ha60 := ha3.trans (SmA.of3 (Sm3.ofO hs60))
      exact ret_i C0 hP hS ⟨_, ha60, Or.inl ⟨by rw [c23]; cases q_fn x <;> rfl, rfl, ⟨_, _, _, _, _, _, ka, kc, _, _, _, hfe, hka, hkc, hD60⟩⟩⟩ dM_statement_31
set_option maxRecDepth 100000 in
set_option maxHeartbeats 4000000 in
theorem m_statement_3 {l : Launch} {D : va_G} {tys : List (ClassId × FieldType)} {L : List Nat} {f : Nat → va_E} (hn : L.Nodup) {mo ap cm : Nat} {ad : Nat → Nat} {G : Nat → Nat → Int32} {th : Int32} {σ : Sg} {x a b cr k : Int32} {oi ni tm : Nat → Nat} (hoi : ∀ i, i < 4 → G 15 i = nI (oi i) ∧ oi i ≤ ni i) (hni : ∀ i, i < 4 → G 13 i = nI (ni i) ∧ ni i ≤ 6) (htm : ∀ i, i < 4 → 0 < oi i → G 14 (6 * i + oi i - 1) = nI (tm i) ∧ tm i < 64) (hinj : ∀ i j, i < 16 → j < 16 → i ≠ j → ad i ≠ ad j) (hO : MOk σ G) (hI0 : MdI tys L f mo ap cm ad G th) : MetI l yM_statement wM_statement ({ frames := 3, cells := 0, slots := 0, locals := 68 } : Room) D tys L f [.ref mo, .int x, .int (nI 3), .int a, .int b, .int cr, .int k] (fun r f' => ∃ t, SmA f f' mo ap cm ad ∧ (((q_fn x && q_st (nI 3) a b cr k) = false ∧ t = nI 1 ∧ MdI tys L f' mo ap cm ad G t) ∨ (q_fn x = true ∧ q_st (nI 3) a b cr k = true ∧ ∀ i, x = nI i → i < 4 → (((m_hw σ i (nI 3) a b cr && m_op (oi i) (G 11 (tm i)) (nI 3)) = false ∧ t = nI 2 ∧ MdI tys L f' mo ap cm ad G t) ∨ ((m_hw σ i (nI 3) a b cr && m_op (oi i) (G 11 (tm i)) (nI 3)) = true ∧ q_rm (sz σ i) (ni i) (nI 3) = false ∧ t = nI 3 ∧ MdI tys L f' mo ap cm ad G t) ∨ ((m_hw σ i (nI 3) a b cr && m_op (oi i) (G 11 (tm i)) (nI 3)) = true ∧ q_rm (sz σ i) (ni i) (nI 3) = true ∧ t = nI 0 ∧ r = nI (sz σ i) ∧ MdI tys L f' mo ap cm ad (m_Gs G i (sz σ i) (oi i) (ni i) (tm i) 3 a b cr k) t))))) := by
  refine met_of "LiquidCheckerModel" (by decide) rfl (Nat.le_of_ble_eq_true rfl) ?_
  intro pgm e s m below meth c ls C0 hP hl
  obtain ⟨hx, hb, hml, hown, hg, hr, hlocks, hK, hN⟩ := id C0
  have hA : ∀ a ∈ L, inL L a := fun _ h => h
  obtain ⟨H, hH⟩ : ∃ z, z = s.heap := ⟨_, rfl⟩
  rw [← hH] at hP ⊢
  have hS : va_S (inL L) s.heap H [] := by rw [hH]; exact va_S.rf
  have hl : lv_has ls 9 [(0, .ref mo), (1, .int x), (2, .int (nI 3)), (3, .int a), (4, .int b), (5, .int cr), (6, .int k)] := hl
  obtain ⟨fe, me, fu, le, en, sp, ka, kc, mx, se, gc, hfe, hka, hkc, hD⟩ := hI0
  obtain ⟨hM, hRl, h3d, hW⟩ := hO
  refine lv_aload_n hx hb dM_statement_0 rfl (lv_at hl 0 rfl) ?_
  refine lv_iconst (v := nI 0) hx hb dM_statement_1 (by decide) ?_
  refine mm_put (v := .int (nI 0)) (ty := .int) hx hb hg inM tyM tyM_ok nmM hown hK hn hA hP hS hD.1.1.1 (show f mo = .inr (6, [.int th, .ref (ad 0), .ref (ad 1), .ref (ad 2), .ref (ad 3), .ref (ad 4), .ref (ad 5), .ref (ad 6), .ref (ad 7), .ref (ad 8), .ref (ad 9), .ref (ad 10), .ref (ad 11), .ref (ad 12), .ref (ad 13), .ref (ad 14), .ref (ad 15), .ref ap, .int fe, .int me, .int fu, .int le, .int en, .ref cm, .int sp, .int (nI ka), .int (nI kc), .long mx, .int se]) from hD.2.1) rfl 0 (by decide) (hg _ gw593) (fun _ h9 => h9) rfl (by decide +kernel) rfl rfl (Nat.le_of_ble_eq_true rfl) dM_statement_2 (fun H locs hP hS => ?_)
  obtain ⟨f1, hf1⟩ : ∃ z, z = va_up f mo (.inr (6, [.int (nI 0), .ref (ad 0), .ref (ad 1), .ref (ad 2), .ref (ad 3), .ref (ad 4), .ref (ad 5), .ref (ad 6), .ref (ad 7), .ref (ad 8), .ref (ad 9), .ref (ad 10), .ref (ad 11), .ref (ad 12), .ref (ad 13), .ref (ad 14), .ref (ad 15), .ref ap, .int fe, .int me, .int fu, .int le, .int en, .ref cm, .int sp, .int (nI ka), .int (nI kc), .long mx, .int se])) := ⟨_, rfl⟩
  have hP : va_P D zCl (va_pl L f1) H := by rw [hf1]; exact hP
  have hs2 : Same1 f f1 mo := fun z hz => by rw [hf1, va_up_ne _ _ hz]
  have hD2 : MD tys L f1 mo ap cm ad G (nI 0) fe me fu le en sp (nI ka) (nI kc) mx se gc := hD.updO (by rw [hf1]; exact va_up_self _ _ _) hs2
  have ha3 : SmA f _ mo ap cm ad := SmA.of3 (Sm3.ofO hs2)
  refine lv_iload_n hx hb dM_statement_5 rfl (lv_at hl 1 rfl) ?_
  refine then_i (run_S (n := 1) (As := [.int x]) (rest := []) C0 (m_noFunction hn) gw693 gw691 gw692 gw7 (by decide +kernel) ⟨Nat.le_of_ble_eq_true rfl, Nat.le_of_ble_eq_true rfl⟩ rfl rfl ⟨Nat.le_of_ble_eq_true rfl, Nat.le_of_ble_eq_true rfl⟩ hP rfl hl.1 rfl (Nat.le_of_ble_eq_true rfl) dM_statement_6) hS hA (fun r5 f4 H locs hq6 hP hS => ?_)
  obtain ⟨er5, ef4⟩ := hq6
  subst er5
  rw [ef4] at hP
  refine lv_if_ne (tgt := 26) hx hb dM_statement_9 (by decide) (fun c9 => ?_) (fun c9 => ?_)
  · have c9 : (!q_fn x) = true := kb_t.mp c9
    refine lv_aload_n hx hb dM_statement_26 rfl (lv_at hl 0 rfl) ?_
    refine lv_iconst (v := nI 1) hx hb dM_statement_27 (by decide) ?_
    refine then_i (run_V (n := 1) (As := [.int (nI 1)]) (rest := []) C0 (m_raise hn hD2) gw700 gw697 gw699 gsM_raise gw7 (by decide +kernel) ⟨Nat.le_of_ble_eq_true rfl, Nat.le_of_ble_eq_true rfl⟩ rfl rfl ⟨Nat.le_of_ble_eq_true rfl, Nat.le_of_ble_eq_true rfl⟩ hP hD2.1.1.1 hD2.2.1 rfl rfl rfl hl.1 rfl (Nat.le_of_ble_eq_true rfl) dM_statement_28) hS hA (fun r7 f6 H locs hq28 hP hS => ?_)
    obtain ⟨hr8, hD8, hs8⟩ := hq28
    have ha8 := ha3.trans (SmA.of3 (Sm3.ofO hs8))
    exact ret_i C0 hP hS ⟨_, ha8, Or.inl ⟨by rw [nb_t c9]; rfl, rfl, ⟨_, _, _, _, _, _, ka, kc, _, _, _, hfe, hka, hkc, hD8⟩⟩⟩ dM_statement_31
  · have c9 : (!q_fn x) = false := kb_0.mp c9
    refine lv_iload_n hx hb dM_statement_12 rfl (lv_at hl 2 rfl) ?_
    refine lv_iload_n hx hb dM_statement_13 rfl (lv_at hl 3 rfl) ?_
    refine lv_iload hx hb dM_statement_14 (lv_at hl 4 rfl) ?_
    refine lv_iload hx hb dM_statement_16 (lv_at hl 5 rfl) ?_
    refine lv_iload hx hb dM_statement_18 (lv_at hl 6 rfl) ?_
    refine then_i (run_S (n := 5) (As := [.int (nI 3), .int a, .int b, .int cr, .int k]) (rest := []) C0 (m_fits hn) gw707 gw705 gw706 gw7 (by decide +kernel) ⟨Nat.le_of_ble_eq_true rfl, Nat.le_of_ble_eq_true rfl⟩ rfl rfl ⟨Nat.le_of_ble_eq_true rfl, Nat.le_of_ble_eq_true rfl⟩ hP rfl hl.1 rfl (Nat.le_of_ble_eq_true rfl) dM_statement_20) hS hA (fun r10 f9 H locs hq20 hP hS => ?_)
    obtain ⟨er10, ef9⟩ := hq20
    subst er10
    rw [ef9] at hP
    refine lv_if_ne (tgt := 32) hx hb dM_statement_23 (by decide) (fun c23 => ?_) (fun c23 => ?_)
    · have c23 : (q_st (nI 3) a b cr k) = true := kb_t.mp c23
      obtain ⟨i0, hi0, rfl⟩ := q_fn_nI (nb_f c9)
      have hz16 := (hW i0 hi0).2.1.1
      have h6n := (hni i0 hi0).2
      have hon := (hoi i0 hi0).2
      refine lv_aload_n hx hb dM_statement_32 rfl (lv_at hl 0 rfl) ?_
      refine lv_iload_n hx hb dM_statement_33 rfl (lv_at hl 1 rfl) ?_
      refine lv_iload_n hx hb dM_statement_34 rfl (lv_at hl 2 rfl) ?_
      refine lv_iload_n hx hb dM_statement_35 rfl (lv_at hl 3 rfl) ?_
      refine lv_iload hx hb dM_statement_36 (lv_at hl 4 rfl) ?_
      refine lv_iload hx hb dM_statement_38 (lv_at hl 5 rfl) ?_
      refine then_i (run_V (n := 5) (As := [.int (nI i0), .int (nI 3), .int a, .int b, .int cr]) (rest := []) C0 (m_stands_3 hn hi0 hz16 hM (hoi i0 hi0).1 (by omega) (htm i0 hi0) hD2) gw714 gw711 gw713 gsM_stands gw7 (by decide +kernel) ⟨Nat.le_of_ble_eq_true rfl, Nat.le_of_ble_eq_true rfl⟩ rfl rfl ⟨Nat.le_of_ble_eq_true rfl, Nat.le_of_ble_eq_true rfl⟩ hP hD2.1.1.1 hD2.2.1 rfl rfl rfl hl.1 rfl (Nat.le_of_ble_eq_true rfl) dM_statement_40) hS hA (fun r12 f11 H locs hq40 hP hS => ?_)
      obtain ⟨er12, ef11⟩ := hq40
      subst er12
      rw [ef11] at hP
      refine lv_if_ne (tgt := 52) hx hb dM_statement_43 (by decide) (fun c43 => ?_) (fun c43 => ?_)
      · have c43 : (m_hw σ i0 (nI 3) a b cr && m_op (oi i0) (G 11 (tm i0)) (nI 3)) = true := kb_t.mp c43
        refine lv_aload_n hx hb dM_statement_52 rfl (lv_at hl 0 rfl) ?_
        refine mm_get (v := .ref (ad 9)) hx hb hg inM hown hK hP hD2.1.1.1 hD2.2.1 rfl 10 (by decide) (hg _ gw603) (fun _ h9 => h9) rfl dM_statement_53 ?_
        refine lv_iload_n hx hb dM_statement_56 rfl (lv_at hl 1 rfl) ?_
        refine mm_iald hx hb hK hP (hD2.1.2 9 (by decide)).1 (show mm_I tys f1 (ad 9) 4 (G 9) from (hD2.1.2 9 (by decide)).2) (vp_in_nI (show i0 < 4 by omega) (by omega)) dM_statement_57 ?_
        rw [nI_clamp (by omega)]
        rw [hM.2.2.2 i0 hi0]
        refine lv_bipush (v := nI 16) hx hb dM_statement_58 (by decide) ?_
        refine lv_icmp_eq (tgt := 79) hx hb dM_statement_60 (by decide) (fun c60 => ?_) (fun c60 => ?_)
        · refine lv_aload_n hx hb dM_statement_79 rfl (lv_at hl 0 rfl) ?_
          refine lv_iconst (v := nI 3) hx hb dM_statement_80 (by decide) ?_
          refine then_i (run_V (n := 1) (As := [.int (nI 3)]) (rest := []) C0 (m_raise hn hD2) gw700 gw697 gw699 gsM_raise gw7 (by decide +kernel) ⟨Nat.le_of_ble_eq_true rfl, Nat.le_of_ble_eq_true rfl⟩ rfl rfl ⟨Nat.le_of_ble_eq_true rfl, Nat.le_of_ble_eq_true rfl⟩ hP hD2.1.1.1 hD2.2.1 rfl rfl rfl hl.1 rfl (Nat.le_of_ble_eq_true rfl) dM_statement_81) hS hA (fun r14 f13 H locs hq81 hP hS => ?_)
          obtain ⟨hr15, hD15, hs15⟩ := hq81
          have ha15 := ha3.trans (SmA.of3 (Sm3.ofO hs15))
          refine ret_i C0 hP hS ⟨nI 3, ha15, Or.inr ⟨nb_f c9, c23, fun i2 e2 h2 => Or.inr (Or.inl ?_)⟩⟩ dM_statement_84
          obtain rfl := (nI_eq (by omega) (by omega)).mp e2
          refine ⟨c43, ?_, rfl, ⟨_, _, _, _, _, _, ka, kc, _, _, _, hfe, hka, hkc, hD15⟩⟩
          cases e9 : q_rm (sz σ i0) (ni i0) (nI 3) with
          | false => rfl
          | true =>
            have e8 := (q_rm_iff hz16 h6n).mp e9
            have e6 := (nI_eq (by omega) (by omega)).mp c60
            omega
        · refine lv_iload_n hx hb dM_statement_63 rfl (lv_at hl 2 rfl) ?_
          refine lv_iconst (v := nI 2) hx hb dM_statement_64 (by decide) ?_
          refine lv_icmp_ne (tgt := 85) hx hb dM_statement_65 (by decide) (fun c65 => ?_) (fun c65 => absurd c65 (by decide +kernel))
          have hlt : sz σ i0 < 16 := by have h9 : ¬ sz σ i0 = 16 := fun z => c60 (by rw [z]); omega
          have hop : 0 < oi i0 := by
            rcases Nat.eq_zero_or_pos (oi i0) with e | e
            · exfalso
              rw [m_std_3, e, show decide (nI 0 = 0) = true by decide +kernel] at c43
              cases c43
            · exact e
          have ht64 := (htm i0 hi0 hop).2
          refine lv_bipush (v := nI 16) hx hb dM_statement_85 (by decide) ?_
          refine lv_iload_n hx hb dM_statement_87 rfl (lv_at hl 1 rfl) ?_
          refine lv_imul hx hb dM_statement_88 ?_
          rw [pk_mul]
          refine lv_aload_n hx hb dM_statement_89 rfl (lv_at hl 0 rfl) ?_
          refine mm_get (v := .ref (ad 9)) hx hb hg inM hown hK hP hD2.1.1.1 hD2.2.1 rfl 10 (by decide) (hg _ gw603) (fun _ h9 => h9) rfl dM_statement_90 ?_
          refine lv_iload_n hx hb dM_statement_93 rfl (lv_at hl 1 rfl) ?_
          refine mm_iald hx hb hK hP (hD2.1.2 9 (by decide)).1 (show mm_I tys f1 (ad 9) 4 (G 9) from (hD2.1.2 9 (by decide)).2) (vp_in_nI (show i0 < 4 by omega) (by omega)) dM_statement_94 ?_
          rw [nI_clamp (by omega)]
          rw [hM.2.2.2 i0 hi0]
          refine lv_iadd hx hb dM_statement_95 ?_
          rw [nI_add]
          refine lv_istore (lv' := [(7, .int (nI ((16 * i0) + (sz σ i0)))), (0, .ref mo), (1, .int (nI i0)), (2, .int (nI 3)), (3, .int a), (4, .int b), (5, .int cr), (6, .int k)]) hx hb dM_statement_96 hl (by decide) rfl (fun ls hl => ?_)
          refine lv_aload_n hx hb dM_statement_98 rfl (lv_at hl 1 rfl) ?_
          refine mm_get (v := .ref (ad 4)) hx hb hg inM hown hK hP hD2.1.1.1 hD2.2.1 rfl 5 (by decide) (hg _ gw598) (fun _ h9 => h9) rfl dM_statement_99 ?_
          refine lv_iload hx hb dM_statement_102 (lv_at hl 0 rfl) ?_
          refine lv_iload_n hx hb dM_statement_104 rfl (lv_at hl 3 rfl) ?_
          refine mm_iast hx hb hK hn hA hP hS (hD2.1.2 4 (by decide)).1 (show mm_I tys f1 (ad 4) 64 (G 4) from (hD2.1.2 4 (by decide)).2) (vp_in_nI (show (16 * i0) + (sz σ i0) < 64 by omega) (by omega)) dM_statement_105 (fun H locs hP hS => ?_)
          rw [nI_clamp (by omega)] at hP
          obtain ⟨f16, hf16⟩ : ∃ z, z = mm_si f1 (ad 4) (upd (G 4) ((16 * i0) + (sz σ i0)) (nI 3)) := ⟨_, rfl⟩
          have hP : va_P D zCl (va_pl L f16) H := by rw [hf16]; exact hP
          have hs17 : Same1 f1 f16 (ad 4) := fun z hz => by rw [hf16, mm_si_ne hz]
          have hD17 : MD tys L f16 mo ap cm ad (fun j => if j = 4 then upd (G 4) ((16 * i0) + (sz σ i0)) (nI 3) else G j) (nI 0) fe me fu le en sp (nI ka) (nI kc) mx se gc := hD2.updA hinj (k := 4) (by decide) (by rw [hf16]; exact (show mm_I tys f1 (ad 4) 64 (G 4) from (hD2.1.2 4 (by decide)).2).set) hs17
          have ha18 := ha3.trans (SmA.of1 (k := 4) (by decide) hs17)
          refine lv_aload_n hx hb dM_statement_106 rfl (lv_at hl 1 rfl) ?_
          refine mm_get (v := .ref (ad 5)) hx hb hg inM hown hK hP hD17.1.1.1 hD17.2.1 rfl 6 (by decide) (hg _ gw599) (fun _ h9 => h9) rfl dM_statement_107 ?_
          refine lv_iload hx hb dM_statement_110 (lv_at hl 0 rfl) ?_
          refine lv_iload_n hx hb dM_statement_112 rfl (lv_at hl 4 rfl) ?_
          refine mm_iast hx hb hK hn hA hP hS (hD17.1.2 5 (by decide)).1 (show mm_I tys f16 (ad 5) 64 (G 5) from (hD17.1.2 5 (by decide)).2) (vp_in_nI (show (16 * i0) + (sz σ i0) < 64 by omega) (by omega)) dM_statement_113 (fun H locs hP hS => ?_)
          rw [nI_clamp (by omega)] at hP
          obtain ⟨f19, hf19⟩ : ∃ z, z = mm_si f16 (ad 5) (upd (G 5) ((16 * i0) + (sz σ i0)) a) := ⟨_, rfl⟩
          have hP : va_P D zCl (va_pl L f19) H := by rw [hf19]; exact hP
          have hs20 : Same1 f16 f19 (ad 5) := fun z hz => by rw [hf19, mm_si_ne hz]
          have hD20 : MD tys L f19 mo ap cm ad (fun j => if j = 5 then upd (G 5) ((16 * i0) + (sz σ i0)) a else (fun j => if j = 4 then upd (G 4) ((16 * i0) + (sz σ i0)) (nI 3) else G j) j) (nI 0) fe me fu le en sp (nI ka) (nI kc) mx se gc := hD17.updA hinj (k := 5) (by decide) (by rw [hf19]; exact (show mm_I tys f16 (ad 5) 64 (G 5) from (hD17.1.2 5 (by decide)).2).set) hs20
          have ha21 := ha18.trans (SmA.of1 (k := 5) (by decide) hs20)
          refine lv_aload_n hx hb dM_statement_114 rfl (lv_at hl 1 rfl) ?_
          refine mm_get (v := .ref (ad 6)) hx hb hg inM hown hK hP hD20.1.1.1 hD20.2.1 rfl 7 (by decide) (hg _ gw600) (fun _ h9 => h9) rfl dM_statement_115 ?_
          refine lv_iload hx hb dM_statement_118 (lv_at hl 0 rfl) ?_
          refine lv_iload hx hb dM_statement_120 (lv_at hl 5 rfl) ?_
          refine mm_iast hx hb hK hn hA hP hS (hD20.1.2 6 (by decide)).1 (show mm_I tys f19 (ad 6) 64 (G 6) from (hD20.1.2 6 (by decide)).2) (vp_in_nI (show (16 * i0) + (sz σ i0) < 64 by omega) (by omega)) dM_statement_122 (fun H locs hP hS => ?_)
          rw [nI_clamp (by omega)] at hP
          obtain ⟨f22, hf22⟩ : ∃ z, z = mm_si f19 (ad 6) (upd (G 6) ((16 * i0) + (sz σ i0)) b) := ⟨_, rfl⟩
          have hP : va_P D zCl (va_pl L f22) H := by rw [hf22]; exact hP
          have hs23 : Same1 f19 f22 (ad 6) := fun z hz => by rw [hf22, mm_si_ne hz]
          have hD23 : MD tys L f22 mo ap cm ad (fun j => if j = 6 then upd (G 6) ((16 * i0) + (sz σ i0)) b else (fun j => if j = 5 then upd (G 5) ((16 * i0) + (sz σ i0)) a else (fun j => if j = 4 then upd (G 4) ((16 * i0) + (sz σ i0)) (nI 3) else G j) j) j) (nI 0) fe me fu le en sp (nI ka) (nI kc) mx se gc := hD20.updA hinj (k := 6) (by decide) (by rw [hf22]; exact (show mm_I tys f19 (ad 6) 64 (G 6) from (hD20.1.2 6 (by decide)).2).set) hs23
          have ha24 := ha21.trans (SmA.of1 (k := 6) (by decide) hs23)
          refine lv_aload_n hx hb dM_statement_123 rfl (lv_at hl 1 rfl) ?_
          refine mm_get (v := .ref (ad 7)) hx hb hg inM hown hK hP hD23.1.1.1 hD23.2.1 rfl 8 (by decide) (hg _ gw601) (fun _ h9 => h9) rfl dM_statement_124 ?_
          refine lv_iload hx hb dM_statement_127 (lv_at hl 0 rfl) ?_
          refine lv_iload hx hb dM_statement_129 (lv_at hl 6 rfl) ?_
          refine mm_iast hx hb hK hn hA hP hS (hD23.1.2 7 (by decide)).1 (show mm_I tys f22 (ad 7) 64 (G 7) from (hD23.1.2 7 (by decide)).2) (vp_in_nI (show (16 * i0) + (sz σ i0) < 64 by omega) (by omega)) dM_statement_131 (fun H locs hP hS => ?_)
          rw [nI_clamp (by omega)] at hP
          obtain ⟨f25, hf25⟩ : ∃ z, z = mm_si f22 (ad 7) (upd (G 7) ((16 * i0) + (sz σ i0)) cr) := ⟨_, rfl⟩
          have hP : va_P D zCl (va_pl L f25) H := by rw [hf25]; exact hP
          have hs26 : Same1 f22 f25 (ad 7) := fun z hz => by rw [hf25, mm_si_ne hz]
          have hD26 : MD tys L f25 mo ap cm ad (fun j => if j = 7 then upd (G 7) ((16 * i0) + (sz σ i0)) cr else (fun j => if j = 6 then upd (G 6) ((16 * i0) + (sz σ i0)) b else (fun j => if j = 5 then upd (G 5) ((16 * i0) + (sz σ i0)) a else (fun j => if j = 4 then upd (G 4) ((16 * i0) + (sz σ i0)) (nI 3) else G j) j) j) j) (nI 0) fe me fu le en sp (nI ka) (nI kc) mx se gc := hD23.updA hinj (k := 7) (by decide) (by rw [hf25]; exact (show mm_I tys f22 (ad 7) 64 (G 7) from (hD23.1.2 7 (by decide)).2).set) hs26
          have ha27 := ha24.trans (SmA.of1 (k := 7) (by decide) hs26)
          refine lv_aload_n hx hb dM_statement_132 rfl (lv_at hl 1 rfl) ?_
          refine mm_get (v := .ref (ad 8)) hx hb hg inM hown hK hP hD26.1.1.1 hD26.2.1 rfl 9 (by decide) (hg _ gw602) (fun _ h9 => h9) rfl dM_statement_133 ?_
          refine lv_iload hx hb dM_statement_136 (lv_at hl 0 rfl) ?_
          refine lv_iload hx hb dM_statement_138 (lv_at hl 7 rfl) ?_
          refine mm_iast hx hb hK hn hA hP hS (hD26.1.2 8 (by decide)).1 (show mm_I tys f25 (ad 8) 64 (G 8) from (hD26.1.2 8 (by decide)).2) (vp_in_nI (show (16 * i0) + (sz σ i0) < 64 by omega) (by omega)) dM_statement_140 (fun H locs hP hS => ?_)
          rw [nI_clamp (by omega)] at hP
          obtain ⟨f28, hf28⟩ : ∃ z, z = mm_si f25 (ad 8) (upd (G 8) ((16 * i0) + (sz σ i0)) k) := ⟨_, rfl⟩
          have hP : va_P D zCl (va_pl L f28) H := by rw [hf28]; exact hP
          have hs29 : Same1 f25 f28 (ad 8) := fun z hz => by rw [hf28, mm_si_ne hz]
          have hD29 : MD tys L f28 mo ap cm ad (fun j => if j = 8 then upd (G 8) ((16 * i0) + (sz σ i0)) k else (fun j => if j = 7 then upd (G 7) ((16 * i0) + (sz σ i0)) cr else (fun j => if j = 6 then upd (G 6) ((16 * i0) + (sz σ i0)) b else (fun j => if j = 5 then upd (G 5) ((16 * i0) + (sz σ i0)) a else (fun j => if j = 4 then upd (G 4) ((16 * i0) + (sz σ i0)) (nI 3) else G j) j) j) j) j) (nI 0) fe me fu le en sp (nI ka) (nI kc) mx se gc := hD26.updA hinj (k := 8) (by decide) (by rw [hf28]; exact (show mm_I tys f25 (ad 8) 64 (G 8) from (hD26.1.2 8 (by decide)).2).set) hs29
          have ha30 := ha27.trans (SmA.of1 (k := 8) (by decide) hs29)
          refine lv_aload_n hx hb dM_statement_141 rfl (lv_at hl 1 rfl) ?_
          refine mm_get (v := .ref (ad 11)) hx hb hg inM hown hK hP hD29.1.1.1 hD29.2.1 rfl 12 (by decide) (hg _ gw605) (fun _ h9 => h9) rfl dM_statement_142 ?_
          refine lv_iload hx hb dM_statement_145 (lv_at hl 0 rfl) ?_
          refine lv_iconst (v := (-1)) hx hb dM_statement_147 (by decide) ?_
          refine mm_iast hx hb hK hn hA hP hS (hD29.1.2 11 (by decide)).1 (show mm_I tys f28 (ad 11) 64 (G 11) from (hD29.1.2 11 (by decide)).2) (vp_in_nI (show (16 * i0) + (sz σ i0) < 64 by omega) (by omega)) dM_statement_148 (fun H locs hP hS => ?_)
          rw [nI_clamp (by omega)] at hP
          obtain ⟨f31, hf31⟩ : ∃ z, z = mm_si f28 (ad 11) (upd (G 11) ((16 * i0) + (sz σ i0)) (-1)) := ⟨_, rfl⟩
          have hP : va_P D zCl (va_pl L f31) H := by rw [hf31]; exact hP
          have hs32 : Same1 f28 f31 (ad 11) := fun z hz => by rw [hf31, mm_si_ne hz]
          have hD32 : MD tys L f31 mo ap cm ad (fun j => if j = 11 then upd (G 11) ((16 * i0) + (sz σ i0)) (-1) else (fun j => if j = 8 then upd (G 8) ((16 * i0) + (sz σ i0)) k else (fun j => if j = 7 then upd (G 7) ((16 * i0) + (sz σ i0)) cr else (fun j => if j = 6 then upd (G 6) ((16 * i0) + (sz σ i0)) b else (fun j => if j = 5 then upd (G 5) ((16 * i0) + (sz σ i0)) a else (fun j => if j = 4 then upd (G 4) ((16 * i0) + (sz σ i0)) (nI 3) else G j) j) j) j) j) j) (nI 0) fe me fu le en sp (nI ka) (nI kc) mx se gc := hD29.updA hinj (k := 11) (by decide) (by rw [hf31]; exact (show mm_I tys f28 (ad 11) 64 (G 11) from (hD29.1.2 11 (by decide)).2).set) hs32
          have ha33 := ha30.trans (SmA.of1 (k := 11) (by decide) hs32)
          refine lv_aload_n hx hb dM_statement_149 rfl (lv_at hl 1 rfl) ?_
          refine mm_get (v := .ref (ad 12)) hx hb hg inM hown hK hP hD32.1.1.1 hD32.2.1 rfl 13 (by decide) (hg _ gw606) (fun _ h9 => h9) rfl dM_statement_150 ?_
          refine lv_iload hx hb dM_statement_153 (lv_at hl 0 rfl) ?_
          refine lv_iconst (v := (-1)) hx hb dM_statement_155 (by decide) ?_
          refine mm_iast hx hb hK hn hA hP hS (hD32.1.2 12 (by decide)).1 (show mm_I tys f31 (ad 12) 64 (G 12) from (hD32.1.2 12 (by decide)).2) (vp_in_nI (show (16 * i0) + (sz σ i0) < 64 by omega) (by omega)) dM_statement_156 (fun H locs hP hS => ?_)
          rw [nI_clamp (by omega)] at hP
          obtain ⟨f34, hf34⟩ : ∃ z, z = mm_si f31 (ad 12) (upd (G 12) ((16 * i0) + (sz σ i0)) (-1)) := ⟨_, rfl⟩
          have hP : va_P D zCl (va_pl L f34) H := by rw [hf34]; exact hP
          have hs35 : Same1 f31 f34 (ad 12) := fun z hz => by rw [hf34, mm_si_ne hz]
          have hD35 : MD tys L f34 mo ap cm ad (fun j => if j = 12 then upd (G 12) ((16 * i0) + (sz σ i0)) (-1) else (fun j => if j = 11 then upd (G 11) ((16 * i0) + (sz σ i0)) (-1) else (fun j => if j = 8 then upd (G 8) ((16 * i0) + (sz σ i0)) k else (fun j => if j = 7 then upd (G 7) ((16 * i0) + (sz σ i0)) cr else (fun j => if j = 6 then upd (G 6) ((16 * i0) + (sz σ i0)) b else (fun j => if j = 5 then upd (G 5) ((16 * i0) + (sz σ i0)) a else (fun j => if j = 4 then upd (G 4) ((16 * i0) + (sz σ i0)) (nI 3) else G j) j) j) j) j) j) j) (nI 0) fe me fu le en sp (nI ka) (nI kc) mx se gc := hD32.updA hinj (k := 12) (by decide) (by rw [hf34]; exact (show mm_I tys f31 (ad 12) 64 (G 12) from (hD32.1.2 12 (by decide)).2).set) hs35
          have ha36 := ha33.trans (SmA.of1 (k := 12) (by decide) hs35)
          refine lv_bipush (v := nI 6) hx hb dM_statement_157 (by decide) ?_
          refine lv_iload_n hx hb dM_statement_159 rfl (lv_at hl 2 rfl) ?_
          refine lv_imul hx hb dM_statement_160 ?_
          rw [pk_mul]
          refine lv_aload_n hx hb dM_statement_161 rfl (lv_at hl 1 rfl) ?_
          refine mm_get (v := .ref (ad 15)) hx hb hg inM hown hK hP hD35.1.1.1 hD35.2.1 rfl 16 (by decide) (hg _ gw609) (fun _ h9 => h9) rfl dM_statement_162 ?_
          refine lv_iload_n hx hb dM_statement_165 rfl (lv_at hl 2 rfl) ?_
          refine mm_iald hx hb hK hP (hD35.1.2 15 (by decide)).1 (show mm_I tys f34 (ad 15) 4 (G 15) from (hD35.1.2 15 (by decide)).2) (vp_in_nI (show i0 < 4 by omega) (by omega)) dM_statement_166 ?_
          rw [nI_clamp (by omega)]
          rw [(hoi i0 hi0).1]
          refine lv_iadd hx hb dM_statement_167 ?_
          rw [nI_add]
          refine lv_istore (lv' := [(8, .int (nI ((6 * i0) + (oi i0)))), (7, .int (nI ((16 * i0) + (sz σ i0)))), (0, .ref mo), (1, .int (nI i0)), (2, .int (nI 3)), (3, .int a), (4, .int b), (5, .int cr), (6, .int k)]) hx hb dM_statement_168 hl (by decide) rfl (fun ls hl => ?_)
          refine lv_iload_n hx hb dM_statement_170 rfl (lv_at hl 4 rfl) ?_
          refine lv_iconst (v := nI 2) hx hb dM_statement_171 (by decide) ?_
          refine lv_icmp_ne (tgt := 217) hx hb dM_statement_172 (by decide) (fun c172 => ?_) (fun c172 => absurd c172 (by decide +kernel))
          refine lv_iload_n hx hb dM_statement_217 rfl (lv_at hl 4 rfl) ?_
          refine lv_iconst (v := nI 3) hx hb dM_statement_218 (by decide) ?_
          refine lv_icmp_ne (tgt := 242) hx hb dM_statement_219 (by decide) (fun c219 => absurd (by decide +kernel) c219) (fun c219 => ?_)
          refine lv_aload_n hx hb dM_statement_222 rfl (lv_at hl 2 rfl) ?_
          refine mm_get (v := .ref (ad 11)) hx hb hg inM hown hK hP hD35.1.1.1 hD35.2.1 rfl 12 (by decide) (hg _ gw605) (fun _ h9 => h9) rfl dM_statement_223 ?_
          refine lv_aload_n hx hb dM_statement_226 rfl (lv_at hl 2 rfl) ?_
          refine mm_get (v := .ref (ad 14)) hx hb hg inM hown hK hP hD35.1.1.1 hD35.2.1 rfl 15 (by decide) (hg _ gw608) (fun _ h9 => h9) rfl dM_statement_227 ?_
          refine lv_iload hx hb dM_statement_230 (lv_at hl 0 rfl) ?_
          refine lv_iconst (v := nI 1) hx hb dM_statement_232 (by decide) ?_
          refine lv_isub hx hb dM_statement_233 ?_
          rw [nI_sub1 (by omega)]
          refine mm_iald hx hb hK hP (hD35.1.2 14 (by decide)).1 (show mm_I tys f34 (ad 14) 24 (G 14) from (hD35.1.2 14 (by decide)).2) (vp_in_nI (show 6 * i0 + oi i0 - 1 < 24 by omega) (by omega)) dM_statement_234 ?_
          rw [nI_clamp (by omega)]
          rw [(htm i0 hi0 hop).1]
          refine lv_aload_n hx hb dM_statement_235 rfl (lv_at hl 2 rfl) ?_
          refine mm_get (v := .ref (ad 9)) hx hb hg inM hown hK hP hD35.1.1.1 hD35.2.1 rfl 10 (by decide) (hg _ gw603) (fun _ h9 => h9) rfl dM_statement_236 ?_
          refine lv_iload_n hx hb dM_statement_239 rfl (lv_at hl 3 rfl) ?_
          refine mm_iald hx hb hK hP (hD35.1.2 9 (by decide)).1 (show mm_I tys f34 (ad 9) 4 (G 9) from (hD35.1.2 9 (by decide)).2) (vp_in_nI (show i0 < 4 by omega) (by omega)) dM_statement_240 ?_
          rw [nI_clamp (by omega)]
          rw [hM.2.2.2 i0 hi0]
          refine mm_iast hx hb hK hn hA hP hS (hD35.1.2 11 (by decide)).1 (show mm_I tys f34 (ad 11) 64 (upd (G 11) ((16 * i0) + (sz σ i0)) (-1)) from (hD35.1.2 11 (by decide)).2) (vp_in_nI (show tm i0 < 64 by omega) (by omega)) dM_statement_241 (fun H locs hP hS => ?_)
          rw [nI_clamp (by omega)] at hP
          obtain ⟨f37, hf37⟩ : ∃ z, z = mm_si f34 (ad 11) (upd (upd (G 11) ((16 * i0) + (sz σ i0)) (-1)) (tm i0) (nI (sz σ i0))) := ⟨_, rfl⟩
          have hP : va_P D zCl (va_pl L f37) H := by rw [hf37]; exact hP
          have hs38 : Same1 f34 f37 (ad 11) := fun z hz => by rw [hf37, mm_si_ne hz]
          have hD38 : MD tys L f37 mo ap cm ad (fun j => if j = 11 then upd (upd (G 11) ((16 * i0) + (sz σ i0)) (-1)) (tm i0) (nI (sz σ i0)) else (fun j => if j = 12 then upd (G 12) ((16 * i0) + (sz σ i0)) (-1) else (fun j => if j = 11 then upd (G 11) ((16 * i0) + (sz σ i0)) (-1) else (fun j => if j = 8 then upd (G 8) ((16 * i0) + (sz σ i0)) k else (fun j => if j = 7 then upd (G 7) ((16 * i0) + (sz σ i0)) cr else (fun j => if j = 6 then upd (G 6) ((16 * i0) + (sz σ i0)) b else (fun j => if j = 5 then upd (G 5) ((16 * i0) + (sz σ i0)) a else (fun j => if j = 4 then upd (G 4) ((16 * i0) + (sz σ i0)) (nI 3) else G j) j) j) j) j) j) j) j) (nI 0) fe me fu le en sp (nI ka) (nI kc) mx se gc := hD35.updA hinj (k := 11) (by decide) (by rw [hf37]; exact (show mm_I tys f34 (ad 11) 64 (upd (G 11) ((16 * i0) + (sz σ i0)) (-1)) from (hD35.1.2 11 (by decide)).2).set) hs38
          have ha39 := ha36.trans (SmA.of1 (k := 11) (by decide) hs38)
          refine lv_iload_n hx hb dM_statement_242 rfl (lv_at hl 4 rfl) ?_
          refine lv_iconst (v := nI 4) hx hb dM_statement_243 (by decide) ?_
          refine lv_icmp_ne (tgt := 277) hx hb dM_statement_244 (by decide) (fun c244 => ?_) (fun c244 => absurd c244 (by decide +kernel))
          refine lv_aload_n hx hb dM_statement_277 rfl (lv_at hl 2 rfl) ?_
          refine mm_get (v := .ref (ad 9)) hx hb hg inM hown hK hP hD38.1.1.1 hD38.2.1 rfl 10 (by decide) (hg _ gw603) (fun _ h9 => h9) rfl dM_statement_278 ?_
          refine lv_iload_n hx hb dM_statement_281 rfl (lv_at hl 3 rfl) ?_
          refine lv_dup2_11 hx hb dM_statement_282 rfl rfl ?_
          refine mm_iald hx hb hK hP (hD38.1.2 9 (by decide)).1 (show mm_I tys f37 (ad 9) 4 (G 9) from (hD38.1.2 9 (by decide)).2) (vp_in_nI (show i0 < 4 by omega) (by omega)) dM_statement_283 ?_
          rw [nI_clamp (by omega)]
          rw [hM.2.2.2 i0 hi0]
          refine lv_iconst (v := nI 1) hx hb dM_statement_284 (by decide) ?_
          refine lv_iadd hx hb dM_statement_285 ?_
          rw [nI_add]
          refine mm_iast hx hb hK hn hA hP hS (hD38.1.2 9 (by decide)).1 (show mm_I tys f37 (ad 9) 4 (G 9) from (hD38.1.2 9 (by decide)).2) (vp_in_nI (show i0 < 4 by omega) (by omega)) dM_statement_286 (fun H locs hP hS => ?_)
          rw [nI_clamp (by omega)] at hP
          obtain ⟨f40, hf40⟩ : ∃ z, z = mm_si f37 (ad 9) (upd (G 9) i0 (nI ((sz σ i0) + 1))) := ⟨_, rfl⟩
          have hP : va_P D zCl (va_pl L f40) H := by rw [hf40]; exact hP
          have hs41 : Same1 f37 f40 (ad 9) := fun z hz => by rw [hf40, mm_si_ne hz]
          have hD41 : MD tys L f40 mo ap cm ad (fun j => if j = 9 then upd (G 9) i0 (nI ((sz σ i0) + 1)) else (fun j => if j = 11 then upd (upd (G 11) ((16 * i0) + (sz σ i0)) (-1)) (tm i0) (nI (sz σ i0)) else (fun j => if j = 12 then upd (G 12) ((16 * i0) + (sz σ i0)) (-1) else (fun j => if j = 11 then upd (G 11) ((16 * i0) + (sz σ i0)) (-1) else (fun j => if j = 8 then upd (G 8) ((16 * i0) + (sz σ i0)) k else (fun j => if j = 7 then upd (G 7) ((16 * i0) + (sz σ i0)) cr else (fun j => if j = 6 then upd (G 6) ((16 * i0) + (sz σ i0)) b else (fun j => if j = 5 then upd (G 5) ((16 * i0) + (sz σ i0)) a else (fun j => if j = 4 then upd (G 4) ((16 * i0) + (sz σ i0)) (nI 3) else G j) j) j) j) j) j) j) j) j) (nI 0) fe me fu le en sp (nI ka) (nI kc) mx se gc := hD38.updA hinj (k := 9) (by decide) (by rw [hf40]; exact (show mm_I tys f37 (ad 9) 4 (G 9) from (hD38.1.2 9 (by decide)).2).set) hs41
          have ha42 := ha39.trans (SmA.of1 (k := 9) (by decide) hs41)
          refine lv_aload_n hx hb dM_statement_287 rfl (lv_at hl 2 rfl) ?_
          refine mm_get (v := .ref (ad 9)) hx hb hg inM hown hK hP hD41.1.1.1 hD41.2.1 rfl 10 (by decide) (hg _ gw603) (fun _ h9 => h9) rfl dM_statement_288 ?_
          refine lv_iload_n hx hb dM_statement_291 rfl (lv_at hl 3 rfl) ?_
          refine mm_iald hx hb hK hP (hD41.1.2 9 (by decide)).1 (show mm_I tys f40 (ad 9) 4 (upd (G 9) i0 (nI ((sz σ i0) + 1))) from (hD41.1.2 9 (by decide)).2) (vp_in_nI (show i0 < 4 by omega) (by omega)) dM_statement_292 ?_
          rw [nI_clamp (by omega)]
          rw [pk_us]
          refine lv_iconst (v := nI 1) hx hb dM_statement_293 (by decide) ?_
          refine lv_isub hx hb dM_statement_294 ?_
          rw [nI_sub1 (by omega)]
          refine ret_i C0 hP hS ⟨nI 0, ha42, Or.inr ⟨nb_f c9, c23, fun i2 e2 h2 => Or.inr (Or.inr ?_)⟩⟩ dM_statement_295
          obtain rfl := (nI_eq (by omega) (by omega)).mp e2
          refine ⟨c43, (q_rm_iff hz16 h6n).mpr ⟨hlt, fun z => absurd z (by decide +kernel)⟩, rfl, rfl, ?_⟩
          exact MdI.eqG ⟨_, _, _, _, _, _, ka, kc, _, _, _, hfe, hka, hkc, hD41⟩ (fun k2 hk2 => by
            rcases (show k2 = 0 ∨ k2 = 1 ∨ k2 = 2 ∨ k2 = 3 ∨ k2 = 4 ∨ k2 = 5 ∨ k2 = 6 ∨ k2 = 7 ∨ k2 = 8 ∨ k2 = 9 ∨ k2 = 10 ∨ k2 = 11 ∨ k2 = 12 ∨ k2 = 13 ∨ k2 = 14 ∨ k2 = 15 by omega) with e | e | e | e | e | e | e | e | e | e | e | e | e | e | e | e <;> subst e <;> rfl)
      · have c43 : (m_hw σ i0 (nI 3) a b cr && m_op (oi i0) (G 11 (tm i0)) (nI 3)) = false := kb_0.mp c43
        refine lv_aload_n hx hb dM_statement_46 rfl (lv_at hl 0 rfl) ?_
        refine lv_iconst (v := nI 2) hx hb dM_statement_47 (by decide) ?_
        refine then_i (run_V (n := 1) (As := [.int (nI 2)]) (rest := []) C0 (m_raise hn hD2) gw700 gw697 gw699 gsM_raise gw7 (by decide +kernel) ⟨Nat.le_of_ble_eq_true rfl, Nat.le_of_ble_eq_true rfl⟩ rfl rfl ⟨Nat.le_of_ble_eq_true rfl, Nat.le_of_ble_eq_true rfl⟩ hP hD2.1.1.1 hD2.2.1 rfl rfl rfl hl.1 rfl (Nat.le_of_ble_eq_true rfl) dM_statement_48) hS hA (fun r44 f43 H locs hq48 hP hS => ?_)
        obtain ⟨hr45, hD45, hs45⟩ := hq48
        have ha45 := ha3.trans (SmA.of3 (Sm3.ofO hs45))
        refine ret_i C0 hP hS ⟨nI 2, ha45, Or.inr ⟨nb_f c9, c23, fun i2 e2 h2 => Or.inl ?_⟩⟩ dM_statement_51
        obtain rfl := (nI_eq (by omega) (by omega)).mp e2
        exact ⟨c43, rfl, ⟨_, _, _, _, _, _, ka, kc, _, _, _, hfe, hka, hkc, hD45⟩⟩
    · have c23 : (q_st (nI 3) a b cr k) = false := kb_0.mp c23
      refine lv_aload_n hx hb dM_statement_26 rfl (lv_at hl 0 rfl) ?_
      refine lv_iconst (v := nI 1) hx hb dM_statement_27 (by decide) ?_
      refine then_i (run_V (n := 1) (As := [.int (nI 1)]) (rest := []) C0 (m_raise hn hD2) gw700 gw697 gw699 gsM_raise gw7 (by decide +kernel) ⟨Nat.le_of_ble_eq_true rfl, Nat.le_of_ble_eq_true rfl⟩ rfl rfl ⟨Nat.le_of_ble_eq_true rfl, Nat.le_of_ble_eq_true rfl⟩ hP hD2.1.1.1 hD2.2.1 rfl rfl rfl hl.1 rfl (Nat.le_of_ble_eq_true rfl) dM_statement_28) hS hA (fun r47 f46 H locs hq28 hP hS => ?_)
      obtain ⟨hr48, hD48, hs48⟩ := hq28
      have ha48 := ha3.trans (SmA.of3 (Sm3.ofO hs48))
      exact ret_i C0 hP hS ⟨_, ha48, Or.inl ⟨by rw [c23]; cases q_fn x <;> rfl, rfl, ⟨_, _, _, _, _, _, ka, kc, _, _, _, hfe, hka, hkc, hD48⟩⟩⟩ dM_statement_31
set_option maxRecDepth 100000 in
set_option maxHeartbeats 4000000 in
theorem m_statement_4 {l : Launch} {D : va_G} {tys : List (ClassId × FieldType)} {L : List Nat} {f : Nat → va_E} (hn : L.Nodup) {mo ap cm : Nat} {ad : Nat → Nat} {G : Nat → Nat → Int32} {th : Int32} {σ : Sg} {x a b cr k : Int32} {oi ni tm : Nat → Nat} (hoi : ∀ i, i < 4 → G 15 i = nI (oi i) ∧ oi i ≤ ni i) (hni : ∀ i, i < 4 → G 13 i = nI (ni i) ∧ ni i ≤ 6) (htm : ∀ i, i < 4 → 0 < oi i → G 14 (6 * i + oi i - 1) = nI (tm i) ∧ tm i < 64) (hinj : ∀ i j, i < 16 → j < 16 → i ≠ j → ad i ≠ ad j) (hO : MOk σ G) (hI0 : MdI tys L f mo ap cm ad G th) : MetI l yM_statement wM_statement ({ frames := 3, cells := 0, slots := 0, locals := 68 } : Room) D tys L f [.ref mo, .int x, .int (nI 4), .int a, .int b, .int cr, .int k] (fun r f' => ∃ t, SmA f f' mo ap cm ad ∧ (((q_fn x && q_st (nI 4) a b cr k) = false ∧ t = nI 1 ∧ MdI tys L f' mo ap cm ad G t) ∨ (q_fn x = true ∧ q_st (nI 4) a b cr k = true ∧ ∀ i, x = nI i → i < 4 → (((m_hw σ i (nI 4) a b cr && m_op (oi i) (G 11 (tm i)) (nI 4)) = false ∧ t = nI 2 ∧ MdI tys L f' mo ap cm ad G t) ∨ ((m_hw σ i (nI 4) a b cr && m_op (oi i) (G 11 (tm i)) (nI 4)) = true ∧ q_rm (sz σ i) (ni i) (nI 4) = false ∧ t = nI 3 ∧ MdI tys L f' mo ap cm ad G t) ∨ ((m_hw σ i (nI 4) a b cr && m_op (oi i) (G 11 (tm i)) (nI 4)) = true ∧ q_rm (sz σ i) (ni i) (nI 4) = true ∧ t = nI 0 ∧ r = nI (sz σ i) ∧ MdI tys L f' mo ap cm ad (m_Gs G i (sz σ i) (oi i) (ni i) (tm i) 4 a b cr k) t))))) := by
  refine met_of "LiquidCheckerModel" (by decide) rfl (Nat.le_of_ble_eq_true rfl) ?_
  intro pgm e s m below meth c ls C0 hP hl
  obtain ⟨hx, hb, hml, hown, hg, hr, hlocks, hK, hN⟩ := id C0
  have hA : ∀ a ∈ L, inL L a := fun _ h => h
  obtain ⟨H, hH⟩ : ∃ z, z = s.heap := ⟨_, rfl⟩
  rw [← hH] at hP ⊢
  have hS : va_S (inL L) s.heap H [] := by rw [hH]; exact va_S.rf
  have hl : lv_has ls 9 [(0, .ref mo), (1, .int x), (2, .int (nI 4)), (3, .int a), (4, .int b), (5, .int cr), (6, .int k)] := hl
  obtain ⟨fe, me, fu, le, en, sp, ka, kc, mx, se, gc, hfe, hka, hkc, hD⟩ := hI0
  obtain ⟨hM, hRl, h3d, hW⟩ := hO
  refine lv_aload_n hx hb dM_statement_0 rfl (lv_at hl 0 rfl) ?_
  refine lv_iconst (v := nI 0) hx hb dM_statement_1 (by decide) ?_
  refine mm_put (v := .int (nI 0)) (ty := .int) hx hb hg inM tyM tyM_ok nmM hown hK hn hA hP hS hD.1.1.1 (show f mo = .inr (6, [.int th, .ref (ad 0), .ref (ad 1), .ref (ad 2), .ref (ad 3), .ref (ad 4), .ref (ad 5), .ref (ad 6), .ref (ad 7), .ref (ad 8), .ref (ad 9), .ref (ad 10), .ref (ad 11), .ref (ad 12), .ref (ad 13), .ref (ad 14), .ref (ad 15), .ref ap, .int fe, .int me, .int fu, .int le, .int en, .ref cm, .int sp, .int (nI ka), .int (nI kc), .long mx, .int se]) from hD.2.1) rfl 0 (by decide) (hg _ gw593) (fun _ h9 => h9) rfl (by decide +kernel) rfl rfl (Nat.le_of_ble_eq_true rfl) dM_statement_2 (fun H locs hP hS => ?_)
  obtain ⟨f1, hf1⟩ : ∃ z, z = va_up f mo (.inr (6, [.int (nI 0), .ref (ad 0), .ref (ad 1), .ref (ad 2), .ref (ad 3), .ref (ad 4), .ref (ad 5), .ref (ad 6), .ref (ad 7), .ref (ad 8), .ref (ad 9), .ref (ad 10), .ref (ad 11), .ref (ad 12), .ref (ad 13), .ref (ad 14), .ref (ad 15), .ref ap, .int fe, .int me, .int fu, .int le, .int en, .ref cm, .int sp, .int (nI ka), .int (nI kc), .long mx, .int se])) := ⟨_, rfl⟩
  have hP : va_P D zCl (va_pl L f1) H := by rw [hf1]; exact hP
  have hs2 : Same1 f f1 mo := fun z hz => by rw [hf1, va_up_ne _ _ hz]
  have hD2 : MD tys L f1 mo ap cm ad G (nI 0) fe me fu le en sp (nI ka) (nI kc) mx se gc := hD.updO (by rw [hf1]; exact va_up_self _ _ _) hs2
  have ha3 : SmA f _ mo ap cm ad := SmA.of3 (Sm3.ofO hs2)
  refine lv_iload_n hx hb dM_statement_5 rfl (lv_at hl 1 rfl) ?_
  refine then_i (run_S (n := 1) (As := [.int x]) (rest := []) C0 (m_noFunction hn) gw693 gw691 gw692 gw7 (by decide +kernel) ⟨Nat.le_of_ble_eq_true rfl, Nat.le_of_ble_eq_true rfl⟩ rfl rfl ⟨Nat.le_of_ble_eq_true rfl, Nat.le_of_ble_eq_true rfl⟩ hP rfl hl.1 rfl (Nat.le_of_ble_eq_true rfl) dM_statement_6) hS hA (fun r5 f4 H locs hq6 hP hS => ?_)
  obtain ⟨er5, ef4⟩ := hq6
  subst er5
  rw [ef4] at hP
  refine lv_if_ne (tgt := 26) hx hb dM_statement_9 (by decide) (fun c9 => ?_) (fun c9 => ?_)
  · have c9 : (!q_fn x) = true := kb_t.mp c9
    refine lv_aload_n hx hb dM_statement_26 rfl (lv_at hl 0 rfl) ?_
    refine lv_iconst (v := nI 1) hx hb dM_statement_27 (by decide) ?_
    refine then_i (run_V (n := 1) (As := [.int (nI 1)]) (rest := []) C0 (m_raise hn hD2) gw700 gw697 gw699 gsM_raise gw7 (by decide +kernel) ⟨Nat.le_of_ble_eq_true rfl, Nat.le_of_ble_eq_true rfl⟩ rfl rfl ⟨Nat.le_of_ble_eq_true rfl, Nat.le_of_ble_eq_true rfl⟩ hP hD2.1.1.1 hD2.2.1 rfl rfl rfl hl.1 rfl (Nat.le_of_ble_eq_true rfl) dM_statement_28) hS hA (fun r7 f6 H locs hq28 hP hS => ?_)
    obtain ⟨hr8, hD8, hs8⟩ := hq28
    have ha8 := ha3.trans (SmA.of3 (Sm3.ofO hs8))
    exact ret_i C0 hP hS ⟨_, ha8, Or.inl ⟨by rw [nb_t c9]; rfl, rfl, ⟨_, _, _, _, _, _, ka, kc, _, _, _, hfe, hka, hkc, hD8⟩⟩⟩ dM_statement_31
  · have c9 : (!q_fn x) = false := kb_0.mp c9
    refine lv_iload_n hx hb dM_statement_12 rfl (lv_at hl 2 rfl) ?_
    refine lv_iload_n hx hb dM_statement_13 rfl (lv_at hl 3 rfl) ?_
    refine lv_iload hx hb dM_statement_14 (lv_at hl 4 rfl) ?_
    refine lv_iload hx hb dM_statement_16 (lv_at hl 5 rfl) ?_
    refine lv_iload hx hb dM_statement_18 (lv_at hl 6 rfl) ?_
    refine then_i (run_S (n := 5) (As := [.int (nI 4), .int a, .int b, .int cr, .int k]) (rest := []) C0 (m_fits hn) gw707 gw705 gw706 gw7 (by decide +kernel) ⟨Nat.le_of_ble_eq_true rfl, Nat.le_of_ble_eq_true rfl⟩ rfl rfl ⟨Nat.le_of_ble_eq_true rfl, Nat.le_of_ble_eq_true rfl⟩ hP rfl hl.1 rfl (Nat.le_of_ble_eq_true rfl) dM_statement_20) hS hA (fun r10 f9 H locs hq20 hP hS => ?_)
    obtain ⟨er10, ef9⟩ := hq20
    subst er10
    rw [ef9] at hP
    refine lv_if_ne (tgt := 32) hx hb dM_statement_23 (by decide) (fun c23 => ?_) (fun c23 => ?_)
    · have c23 : (q_st (nI 4) a b cr k) = true := kb_t.mp c23
      obtain ⟨i0, hi0, rfl⟩ := q_fn_nI (nb_f c9)
      have hz16 := (hW i0 hi0).2.1.1
      have h6n := (hni i0 hi0).2
      have hon := (hoi i0 hi0).2
      refine lv_aload_n hx hb dM_statement_32 rfl (lv_at hl 0 rfl) ?_
      refine lv_iload_n hx hb dM_statement_33 rfl (lv_at hl 1 rfl) ?_
      refine lv_iload_n hx hb dM_statement_34 rfl (lv_at hl 2 rfl) ?_
      refine lv_iload_n hx hb dM_statement_35 rfl (lv_at hl 3 rfl) ?_
      refine lv_iload hx hb dM_statement_36 (lv_at hl 4 rfl) ?_
      refine lv_iload hx hb dM_statement_38 (lv_at hl 5 rfl) ?_
      refine then_i (run_V (n := 5) (As := [.int (nI i0), .int (nI 4), .int a, .int b, .int cr]) (rest := []) C0 (m_stands_4 hn hi0 hz16 hM (hoi i0 hi0).1 (by omega) (htm i0 hi0) hD2) gw714 gw711 gw713 gsM_stands gw7 (by decide +kernel) ⟨Nat.le_of_ble_eq_true rfl, Nat.le_of_ble_eq_true rfl⟩ rfl rfl ⟨Nat.le_of_ble_eq_true rfl, Nat.le_of_ble_eq_true rfl⟩ hP hD2.1.1.1 hD2.2.1 rfl rfl rfl hl.1 rfl (Nat.le_of_ble_eq_true rfl) dM_statement_40) hS hA (fun r12 f11 H locs hq40 hP hS => ?_)
      obtain ⟨er12, ef11⟩ := hq40
      subst er12
      rw [ef11] at hP
      refine lv_if_ne (tgt := 52) hx hb dM_statement_43 (by decide) (fun c43 => ?_) (fun c43 => ?_)
      · have c43 : (m_hw σ i0 (nI 4) a b cr && m_op (oi i0) (G 11 (tm i0)) (nI 4)) = true := kb_t.mp c43
        refine lv_aload_n hx hb dM_statement_52 rfl (lv_at hl 0 rfl) ?_
        refine mm_get (v := .ref (ad 9)) hx hb hg inM hown hK hP hD2.1.1.1 hD2.2.1 rfl 10 (by decide) (hg _ gw603) (fun _ h9 => h9) rfl dM_statement_53 ?_
        refine lv_iload_n hx hb dM_statement_56 rfl (lv_at hl 1 rfl) ?_
        refine mm_iald hx hb hK hP (hD2.1.2 9 (by decide)).1 (show mm_I tys f1 (ad 9) 4 (G 9) from (hD2.1.2 9 (by decide)).2) (vp_in_nI (show i0 < 4 by omega) (by omega)) dM_statement_57 ?_
        rw [nI_clamp (by omega)]
        rw [hM.2.2.2 i0 hi0]
        refine lv_bipush (v := nI 16) hx hb dM_statement_58 (by decide) ?_
        refine lv_icmp_eq (tgt := 79) hx hb dM_statement_60 (by decide) (fun c60 => ?_) (fun c60 => ?_)
        · refine lv_aload_n hx hb dM_statement_79 rfl (lv_at hl 0 rfl) ?_
          refine lv_iconst (v := nI 3) hx hb dM_statement_80 (by decide) ?_
          refine then_i (run_V (n := 1) (As := [.int (nI 3)]) (rest := []) C0 (m_raise hn hD2) gw700 gw697 gw699 gsM_raise gw7 (by decide +kernel) ⟨Nat.le_of_ble_eq_true rfl, Nat.le_of_ble_eq_true rfl⟩ rfl rfl ⟨Nat.le_of_ble_eq_true rfl, Nat.le_of_ble_eq_true rfl⟩ hP hD2.1.1.1 hD2.2.1 rfl rfl rfl hl.1 rfl (Nat.le_of_ble_eq_true rfl) dM_statement_81) hS hA (fun r14 f13 H locs hq81 hP hS => ?_)
          obtain ⟨hr15, hD15, hs15⟩ := hq81
          have ha15 := ha3.trans (SmA.of3 (Sm3.ofO hs15))
          refine ret_i C0 hP hS ⟨nI 3, ha15, Or.inr ⟨nb_f c9, c23, fun i2 e2 h2 => Or.inr (Or.inl ?_)⟩⟩ dM_statement_84
          obtain rfl := (nI_eq (by omega) (by omega)).mp e2
          refine ⟨c43, ?_, rfl, ⟨_, _, _, _, _, _, ka, kc, _, _, _, hfe, hka, hkc, hD15⟩⟩
          cases e9 : q_rm (sz σ i0) (ni i0) (nI 4) with
          | false => rfl
          | true =>
            have e8 := (q_rm_iff hz16 h6n).mp e9
            have e6 := (nI_eq (by omega) (by omega)).mp c60
            omega
        · refine lv_iload_n hx hb dM_statement_63 rfl (lv_at hl 2 rfl) ?_
          refine lv_iconst (v := nI 2) hx hb dM_statement_64 (by decide) ?_
          refine lv_icmp_ne (tgt := 85) hx hb dM_statement_65 (by decide) (fun c65 => ?_) (fun c65 => absurd c65 (by decide +kernel))
          have hlt : sz σ i0 < 16 := by have h9 : ¬ sz σ i0 = 16 := fun z => c60 (by rw [z]); omega
          have hop : 0 < oi i0 := by
            rcases Nat.eq_zero_or_pos (oi i0) with e | e
            · exfalso
              rw [m_std_4, e, show decide (nI 0 = 0) = true by decide +kernel] at c43
              cases c43
            · exact e
          have ht64 := (htm i0 hi0 hop).2
          refine lv_bipush (v := nI 16) hx hb dM_statement_85 (by decide) ?_
          refine lv_iload_n hx hb dM_statement_87 rfl (lv_at hl 1 rfl) ?_
          refine lv_imul hx hb dM_statement_88 ?_
          rw [pk_mul]
          refine lv_aload_n hx hb dM_statement_89 rfl (lv_at hl 0 rfl) ?_
          refine mm_get (v := .ref (ad 9)) hx hb hg inM hown hK hP hD2.1.1.1 hD2.2.1 rfl 10 (by decide) (hg _ gw603) (fun _ h9 => h9) rfl dM_statement_90 ?_
          refine lv_iload_n hx hb dM_statement_93 rfl (lv_at hl 1 rfl) ?_
          refine mm_iald hx hb hK hP (hD2.1.2 9 (by decide)).1 (show mm_I tys f1 (ad 9) 4 (G 9) from (hD2.1.2 9 (by decide)).2) (vp_in_nI (show i0 < 4 by omega) (by omega)) dM_statement_94 ?_
          rw [nI_clamp (by omega)]
          rw [hM.2.2.2 i0 hi0]
          refine lv_iadd hx hb dM_statement_95 ?_
          rw [nI_add]
          refine lv_istore (lv' := [(7, .int (nI ((16 * i0) + (sz σ i0)))), (0, .ref mo), (1, .int (nI i0)), (2, .int (nI 4)), (3, .int a), (4, .int b), (5, .int cr), (6, .int k)]) hx hb dM_statement_96 hl (by decide) rfl (fun ls hl => ?_)
          refine lv_aload_n hx hb dM_statement_98 rfl (lv_at hl 1 rfl) ?_
          refine mm_get (v := .ref (ad 4)) hx hb hg inM hown hK hP hD2.1.1.1 hD2.2.1 rfl 5 (by decide) (hg _ gw598) (fun _ h9 => h9) rfl dM_statement_99 ?_
          refine lv_iload hx hb dM_statement_102 (lv_at hl 0 rfl) ?_
          refine lv_iload_n hx hb dM_statement_104 rfl (lv_at hl 3 rfl) ?_
          refine mm_iast hx hb hK hn hA hP hS (hD2.1.2 4 (by decide)).1 (show mm_I tys f1 (ad 4) 64 (G 4) from (hD2.1.2 4 (by decide)).2) (vp_in_nI (show (16 * i0) + (sz σ i0) < 64 by omega) (by omega)) dM_statement_105 (fun H locs hP hS => ?_)
          rw [nI_clamp (by omega)] at hP
          obtain ⟨f16, hf16⟩ : ∃ z, z = mm_si f1 (ad 4) (upd (G 4) ((16 * i0) + (sz σ i0)) (nI 4)) := ⟨_, rfl⟩
          have hP : va_P D zCl (va_pl L f16) H := by rw [hf16]; exact hP
          have hs17 : Same1 f1 f16 (ad 4) := fun z hz => by rw [hf16, mm_si_ne hz]
          have hD17 : MD tys L f16 mo ap cm ad (fun j => if j = 4 then upd (G 4) ((16 * i0) + (sz σ i0)) (nI 4) else G j) (nI 0) fe me fu le en sp (nI ka) (nI kc) mx se gc := hD2.updA hinj (k := 4) (by decide) (by rw [hf16]; exact (show mm_I tys f1 (ad 4) 64 (G 4) from (hD2.1.2 4 (by decide)).2).set) hs17
          have ha18 := ha3.trans (SmA.of1 (k := 4) (by decide) hs17)
          refine lv_aload_n hx hb dM_statement_106 rfl (lv_at hl 1 rfl) ?_
          refine mm_get (v := .ref (ad 5)) hx hb hg inM hown hK hP hD17.1.1.1 hD17.2.1 rfl 6 (by decide) (hg _ gw599) (fun _ h9 => h9) rfl dM_statement_107 ?_
          refine lv_iload hx hb dM_statement_110 (lv_at hl 0 rfl) ?_
          refine lv_iload_n hx hb dM_statement_112 rfl (lv_at hl 4 rfl) ?_
          refine mm_iast hx hb hK hn hA hP hS (hD17.1.2 5 (by decide)).1 (show mm_I tys f16 (ad 5) 64 (G 5) from (hD17.1.2 5 (by decide)).2) (vp_in_nI (show (16 * i0) + (sz σ i0) < 64 by omega) (by omega)) dM_statement_113 (fun H locs hP hS => ?_)
          rw [nI_clamp (by omega)] at hP
          obtain ⟨f19, hf19⟩ : ∃ z, z = mm_si f16 (ad 5) (upd (G 5) ((16 * i0) + (sz σ i0)) a) := ⟨_, rfl⟩
          have hP : va_P D zCl (va_pl L f19) H := by rw [hf19]; exact hP
          have hs20 : Same1 f16 f19 (ad 5) := fun z hz => by rw [hf19, mm_si_ne hz]
          have hD20 : MD tys L f19 mo ap cm ad (fun j => if j = 5 then upd (G 5) ((16 * i0) + (sz σ i0)) a else (fun j => if j = 4 then upd (G 4) ((16 * i0) + (sz σ i0)) (nI 4) else G j) j) (nI 0) fe me fu le en sp (nI ka) (nI kc) mx se gc := hD17.updA hinj (k := 5) (by decide) (by rw [hf19]; exact (show mm_I tys f16 (ad 5) 64 (G 5) from (hD17.1.2 5 (by decide)).2).set) hs20
          have ha21 := ha18.trans (SmA.of1 (k := 5) (by decide) hs20)
          refine lv_aload_n hx hb dM_statement_114 rfl (lv_at hl 1 rfl) ?_
          refine mm_get (v := .ref (ad 6)) hx hb hg inM hown hK hP hD20.1.1.1 hD20.2.1 rfl 7 (by decide) (hg _ gw600) (fun _ h9 => h9) rfl dM_statement_115 ?_
          refine lv_iload hx hb dM_statement_118 (lv_at hl 0 rfl) ?_
          refine lv_iload hx hb dM_statement_120 (lv_at hl 5 rfl) ?_
          refine mm_iast hx hb hK hn hA hP hS (hD20.1.2 6 (by decide)).1 (show mm_I tys f19 (ad 6) 64 (G 6) from (hD20.1.2 6 (by decide)).2) (vp_in_nI (show (16 * i0) + (sz σ i0) < 64 by omega) (by omega)) dM_statement_122 (fun H locs hP hS => ?_)
          rw [nI_clamp (by omega)] at hP
          obtain ⟨f22, hf22⟩ : ∃ z, z = mm_si f19 (ad 6) (upd (G 6) ((16 * i0) + (sz σ i0)) b) := ⟨_, rfl⟩
          have hP : va_P D zCl (va_pl L f22) H := by rw [hf22]; exact hP
          have hs23 : Same1 f19 f22 (ad 6) := fun z hz => by rw [hf22, mm_si_ne hz]
          have hD23 : MD tys L f22 mo ap cm ad (fun j => if j = 6 then upd (G 6) ((16 * i0) + (sz σ i0)) b else (fun j => if j = 5 then upd (G 5) ((16 * i0) + (sz σ i0)) a else (fun j => if j = 4 then upd (G 4) ((16 * i0) + (sz σ i0)) (nI 4) else G j) j) j) (nI 0) fe me fu le en sp (nI ka) (nI kc) mx se gc := hD20.updA hinj (k := 6) (by decide) (by rw [hf22]; exact (show mm_I tys f19 (ad 6) 64 (G 6) from (hD20.1.2 6 (by decide)).2).set) hs23
          have ha24 := ha21.trans (SmA.of1 (k := 6) (by decide) hs23)
          refine lv_aload_n hx hb dM_statement_123 rfl (lv_at hl 1 rfl) ?_
          refine mm_get (v := .ref (ad 7)) hx hb hg inM hown hK hP hD23.1.1.1 hD23.2.1 rfl 8 (by decide) (hg _ gw601) (fun _ h9 => h9) rfl dM_statement_124 ?_
          refine lv_iload hx hb dM_statement_127 (lv_at hl 0 rfl) ?_
          refine lv_iload hx hb dM_statement_129 (lv_at hl 6 rfl) ?_
          refine mm_iast hx hb hK hn hA hP hS (hD23.1.2 7 (by decide)).1 (show mm_I tys f22 (ad 7) 64 (G 7) from (hD23.1.2 7 (by decide)).2) (vp_in_nI (show (16 * i0) + (sz σ i0) < 64 by omega) (by omega)) dM_statement_131 (fun H locs hP hS => ?_)
          rw [nI_clamp (by omega)] at hP
          obtain ⟨f25, hf25⟩ : ∃ z, z = mm_si f22 (ad 7) (upd (G 7) ((16 * i0) + (sz σ i0)) cr) := ⟨_, rfl⟩
          have hP : va_P D zCl (va_pl L f25) H := by rw [hf25]; exact hP
          have hs26 : Same1 f22 f25 (ad 7) := fun z hz => by rw [hf25, mm_si_ne hz]
          have hD26 : MD tys L f25 mo ap cm ad (fun j => if j = 7 then upd (G 7) ((16 * i0) + (sz σ i0)) cr else (fun j => if j = 6 then upd (G 6) ((16 * i0) + (sz σ i0)) b else (fun j => if j = 5 then upd (G 5) ((16 * i0) + (sz σ i0)) a else (fun j => if j = 4 then upd (G 4) ((16 * i0) + (sz σ i0)) (nI 4) else G j) j) j) j) (nI 0) fe me fu le en sp (nI ka) (nI kc) mx se gc := hD23.updA hinj (k := 7) (by decide) (by rw [hf25]; exact (show mm_I tys f22 (ad 7) 64 (G 7) from (hD23.1.2 7 (by decide)).2).set) hs26
          have ha27 := ha24.trans (SmA.of1 (k := 7) (by decide) hs26)
          refine lv_aload_n hx hb dM_statement_132 rfl (lv_at hl 1 rfl) ?_
          refine mm_get (v := .ref (ad 8)) hx hb hg inM hown hK hP hD26.1.1.1 hD26.2.1 rfl 9 (by decide) (hg _ gw602) (fun _ h9 => h9) rfl dM_statement_133 ?_
          refine lv_iload hx hb dM_statement_136 (lv_at hl 0 rfl) ?_
          refine lv_iload hx hb dM_statement_138 (lv_at hl 7 rfl) ?_
          refine mm_iast hx hb hK hn hA hP hS (hD26.1.2 8 (by decide)).1 (show mm_I tys f25 (ad 8) 64 (G 8) from (hD26.1.2 8 (by decide)).2) (vp_in_nI (show (16 * i0) + (sz σ i0) < 64 by omega) (by omega)) dM_statement_140 (fun H locs hP hS => ?_)
          rw [nI_clamp (by omega)] at hP
          obtain ⟨f28, hf28⟩ : ∃ z, z = mm_si f25 (ad 8) (upd (G 8) ((16 * i0) + (sz σ i0)) k) := ⟨_, rfl⟩
          have hP : va_P D zCl (va_pl L f28) H := by rw [hf28]; exact hP
          have hs29 : Same1 f25 f28 (ad 8) := fun z hz => by rw [hf28, mm_si_ne hz]
          have hD29 : MD tys L f28 mo ap cm ad (fun j => if j = 8 then upd (G 8) ((16 * i0) + (sz σ i0)) k else (fun j => if j = 7 then upd (G 7) ((16 * i0) + (sz σ i0)) cr else (fun j => if j = 6 then upd (G 6) ((16 * i0) + (sz σ i0)) b else (fun j => if j = 5 then upd (G 5) ((16 * i0) + (sz σ i0)) a else (fun j => if j = 4 then upd (G 4) ((16 * i0) + (sz σ i0)) (nI 4) else G j) j) j) j) j) (nI 0) fe me fu le en sp (nI ka) (nI kc) mx se gc := hD26.updA hinj (k := 8) (by decide) (by rw [hf28]; exact (show mm_I tys f25 (ad 8) 64 (G 8) from (hD26.1.2 8 (by decide)).2).set) hs29
          have ha30 := ha27.trans (SmA.of1 (k := 8) (by decide) hs29)
          refine lv_aload_n hx hb dM_statement_141 rfl (lv_at hl 1 rfl) ?_
          refine mm_get (v := .ref (ad 11)) hx hb hg inM hown hK hP hD29.1.1.1 hD29.2.1 rfl 12 (by decide) (hg _ gw605) (fun _ h9 => h9) rfl dM_statement_142 ?_
          refine lv_iload hx hb dM_statement_145 (lv_at hl 0 rfl) ?_
          refine lv_iconst (v := (-1)) hx hb dM_statement_147 (by decide) ?_
          refine mm_iast hx hb hK hn hA hP hS (hD29.1.2 11 (by decide)).1 (show mm_I tys f28 (ad 11) 64 (G 11) from (hD29.1.2 11 (by decide)).2) (vp_in_nI (show (16 * i0) + (sz σ i0) < 64 by omega) (by omega)) dM_statement_148 (fun H locs hP hS => ?_)
          rw [nI_clamp (by omega)] at hP
          obtain ⟨f31, hf31⟩ : ∃ z, z = mm_si f28 (ad 11) (upd (G 11) ((16 * i0) + (sz σ i0)) (-1)) := ⟨_, rfl⟩
          have hP : va_P D zCl (va_pl L f31) H := by rw [hf31]; exact hP
          have hs32 : Same1 f28 f31 (ad 11) := fun z hz => by rw [hf31, mm_si_ne hz]
          have hD32 : MD tys L f31 mo ap cm ad (fun j => if j = 11 then upd (G 11) ((16 * i0) + (sz σ i0)) (-1) else (fun j => if j = 8 then upd (G 8) ((16 * i0) + (sz σ i0)) k else (fun j => if j = 7 then upd (G 7) ((16 * i0) + (sz σ i0)) cr else (fun j => if j = 6 then upd (G 6) ((16 * i0) + (sz σ i0)) b else (fun j => if j = 5 then upd (G 5) ((16 * i0) + (sz σ i0)) a else (fun j => if j = 4 then upd (G 4) ((16 * i0) + (sz σ i0)) (nI 4) else G j) j) j) j) j) j) (nI 0) fe me fu le en sp (nI ka) (nI kc) mx se gc := hD29.updA hinj (k := 11) (by decide) (by rw [hf31]; exact (show mm_I tys f28 (ad 11) 64 (G 11) from (hD29.1.2 11 (by decide)).2).set) hs32
          have ha33 := ha30.trans (SmA.of1 (k := 11) (by decide) hs32)
          refine lv_aload_n hx hb dM_statement_149 rfl (lv_at hl 1 rfl) ?_
          refine mm_get (v := .ref (ad 12)) hx hb hg inM hown hK hP hD32.1.1.1 hD32.2.1 rfl 13 (by decide) (hg _ gw606) (fun _ h9 => h9) rfl dM_statement_150 ?_
          refine lv_iload hx hb dM_statement_153 (lv_at hl 0 rfl) ?_
          refine lv_iconst (v := (-1)) hx hb dM_statement_155 (by decide) ?_
          refine mm_iast hx hb hK hn hA hP hS (hD32.1.2 12 (by decide)).1 (show mm_I tys f31 (ad 12) 64 (G 12) from (hD32.1.2 12 (by decide)).2) (vp_in_nI (show (16 * i0) + (sz σ i0) < 64 by omega) (by omega)) dM_statement_156 (fun H locs hP hS => ?_)
          rw [nI_clamp (by omega)] at hP
          obtain ⟨f34, hf34⟩ : ∃ z, z = mm_si f31 (ad 12) (upd (G 12) ((16 * i0) + (sz σ i0)) (-1)) := ⟨_, rfl⟩
          have hP : va_P D zCl (va_pl L f34) H := by rw [hf34]; exact hP
          have hs35 : Same1 f31 f34 (ad 12) := fun z hz => by rw [hf34, mm_si_ne hz]
          have hD35 : MD tys L f34 mo ap cm ad (fun j => if j = 12 then upd (G 12) ((16 * i0) + (sz σ i0)) (-1) else (fun j => if j = 11 then upd (G 11) ((16 * i0) + (sz σ i0)) (-1) else (fun j => if j = 8 then upd (G 8) ((16 * i0) + (sz σ i0)) k else (fun j => if j = 7 then upd (G 7) ((16 * i0) + (sz σ i0)) cr else (fun j => if j = 6 then upd (G 6) ((16 * i0) + (sz σ i0)) b else (fun j => if j = 5 then upd (G 5) ((16 * i0) + (sz σ i0)) a else (fun j => if j = 4 then upd (G 4) ((16 * i0) + (sz σ i0)) (nI 4) else G j) j) j) j) j) j) j) (nI 0) fe me fu le en sp (nI ka) (nI kc) mx se gc := hD32.updA hinj (k := 12) (by decide) (by rw [hf34]; exact (show mm_I tys f31 (ad 12) 64 (G 12) from (hD32.1.2 12 (by decide)).2).set) hs35
          have ha36 := ha33.trans (SmA.of1 (k := 12) (by decide) hs35)
          refine lv_bipush (v := nI 6) hx hb dM_statement_157 (by decide) ?_
          refine lv_iload_n hx hb dM_statement_159 rfl (lv_at hl 2 rfl) ?_
          refine lv_imul hx hb dM_statement_160 ?_
          rw [pk_mul]
          refine lv_aload_n hx hb dM_statement_161 rfl (lv_at hl 1 rfl) ?_
          refine mm_get (v := .ref (ad 15)) hx hb hg inM hown hK hP hD35.1.1.1 hD35.2.1 rfl 16 (by decide) (hg _ gw609) (fun _ h9 => h9) rfl dM_statement_162 ?_
          refine lv_iload_n hx hb dM_statement_165 rfl (lv_at hl 2 rfl) ?_
          refine mm_iald hx hb hK hP (hD35.1.2 15 (by decide)).1 (show mm_I tys f34 (ad 15) 4 (G 15) from (hD35.1.2 15 (by decide)).2) (vp_in_nI (show i0 < 4 by omega) (by omega)) dM_statement_166 ?_
          rw [nI_clamp (by omega)]
          rw [(hoi i0 hi0).1]
          refine lv_iadd hx hb dM_statement_167 ?_
          rw [nI_add]
          refine lv_istore (lv' := [(8, .int (nI ((6 * i0) + (oi i0)))), (7, .int (nI ((16 * i0) + (sz σ i0)))), (0, .ref mo), (1, .int (nI i0)), (2, .int (nI 4)), (3, .int a), (4, .int b), (5, .int cr), (6, .int k)]) hx hb dM_statement_168 hl (by decide) rfl (fun ls hl => ?_)
          refine lv_iload_n hx hb dM_statement_170 rfl (lv_at hl 4 rfl) ?_
          refine lv_iconst (v := nI 2) hx hb dM_statement_171 (by decide) ?_
          refine lv_icmp_ne (tgt := 217) hx hb dM_statement_172 (by decide) (fun c172 => ?_) (fun c172 => absurd c172 (by decide +kernel))
          refine lv_iload_n hx hb dM_statement_217 rfl (lv_at hl 4 rfl) ?_
          refine lv_iconst (v := nI 3) hx hb dM_statement_218 (by decide) ?_
          refine lv_icmp_ne (tgt := 242) hx hb dM_statement_219 (by decide) (fun c219 => ?_) (fun c219 => absurd c219 (by decide +kernel))
          refine lv_iload_n hx hb dM_statement_242 rfl (lv_at hl 4 rfl) ?_
          refine lv_iconst (v := nI 4) hx hb dM_statement_243 (by decide) ?_
          refine lv_icmp_ne (tgt := 277) hx hb dM_statement_244 (by decide) (fun c244 => absurd (by decide +kernel) c244) (fun c244 => ?_)
          refine lv_aload_n hx hb dM_statement_247 rfl (lv_at hl 2 rfl) ?_
          refine mm_get (v := .ref (ad 12)) hx hb hg inM hown hK hP hD35.1.1.1 hD35.2.1 rfl 13 (by decide) (hg _ gw606) (fun _ h9 => h9) rfl dM_statement_248 ?_
          refine lv_aload_n hx hb dM_statement_251 rfl (lv_at hl 2 rfl) ?_
          refine mm_get (v := .ref (ad 14)) hx hb hg inM hown hK hP hD35.1.1.1 hD35.2.1 rfl 15 (by decide) (hg _ gw608) (fun _ h9 => h9) rfl dM_statement_252 ?_
          refine lv_iload hx hb dM_statement_255 (lv_at hl 0 rfl) ?_
          refine lv_iconst (v := nI 1) hx hb dM_statement_257 (by decide) ?_
          refine lv_isub hx hb dM_statement_258 ?_
          rw [nI_sub1 (by omega)]
          refine mm_iald hx hb hK hP (hD35.1.2 14 (by decide)).1 (show mm_I tys f34 (ad 14) 24 (G 14) from (hD35.1.2 14 (by decide)).2) (vp_in_nI (show 6 * i0 + oi i0 - 1 < 24 by omega) (by omega)) dM_statement_259 ?_
          rw [nI_clamp (by omega)]
          rw [(htm i0 hi0 hop).1]
          refine lv_aload_n hx hb dM_statement_260 rfl (lv_at hl 2 rfl) ?_
          refine mm_get (v := .ref (ad 9)) hx hb hg inM hown hK hP hD35.1.1.1 hD35.2.1 rfl 10 (by decide) (hg _ gw603) (fun _ h9 => h9) rfl dM_statement_261 ?_
          refine lv_iload_n hx hb dM_statement_264 rfl (lv_at hl 3 rfl) ?_
          refine mm_iald hx hb hK hP (hD35.1.2 9 (by decide)).1 (show mm_I tys f34 (ad 9) 4 (G 9) from (hD35.1.2 9 (by decide)).2) (vp_in_nI (show i0 < 4 by omega) (by omega)) dM_statement_265 ?_
          rw [nI_clamp (by omega)]
          rw [hM.2.2.2 i0 hi0]
          refine mm_iast hx hb hK hn hA hP hS (hD35.1.2 12 (by decide)).1 (show mm_I tys f34 (ad 12) 64 (upd (G 12) ((16 * i0) + (sz σ i0)) (-1)) from (hD35.1.2 12 (by decide)).2) (vp_in_nI (show tm i0 < 64 by omega) (by omega)) dM_statement_266 (fun H locs hP hS => ?_)
          rw [nI_clamp (by omega)] at hP
          obtain ⟨f37, hf37⟩ : ∃ z, z = mm_si f34 (ad 12) (upd (upd (G 12) ((16 * i0) + (sz σ i0)) (-1)) (tm i0) (nI (sz σ i0))) := ⟨_, rfl⟩
          have hP : va_P D zCl (va_pl L f37) H := by rw [hf37]; exact hP
          have hs38 : Same1 f34 f37 (ad 12) := fun z hz => by rw [hf37, mm_si_ne hz]
          have hD38 : MD tys L f37 mo ap cm ad (fun j => if j = 12 then upd (upd (G 12) ((16 * i0) + (sz σ i0)) (-1)) (tm i0) (nI (sz σ i0)) else (fun j => if j = 12 then upd (G 12) ((16 * i0) + (sz σ i0)) (-1) else (fun j => if j = 11 then upd (G 11) ((16 * i0) + (sz σ i0)) (-1) else (fun j => if j = 8 then upd (G 8) ((16 * i0) + (sz σ i0)) k else (fun j => if j = 7 then upd (G 7) ((16 * i0) + (sz σ i0)) cr else (fun j => if j = 6 then upd (G 6) ((16 * i0) + (sz σ i0)) b else (fun j => if j = 5 then upd (G 5) ((16 * i0) + (sz σ i0)) a else (fun j => if j = 4 then upd (G 4) ((16 * i0) + (sz σ i0)) (nI 4) else G j) j) j) j) j) j) j) j) (nI 0) fe me fu le en sp (nI ka) (nI kc) mx se gc := hD35.updA hinj (k := 12) (by decide) (by rw [hf37]; exact (show mm_I tys f34 (ad 12) 64 (upd (G 12) ((16 * i0) + (sz σ i0)) (-1)) from (hD35.1.2 12 (by decide)).2).set) hs38
          have ha39 := ha36.trans (SmA.of1 (k := 12) (by decide) hs38)
          refine lv_aload_n hx hb dM_statement_267 rfl (lv_at hl 2 rfl) ?_
          refine mm_get (v := .ref (ad 15)) hx hb hg inM hown hK hP hD38.1.1.1 hD38.2.1 rfl 16 (by decide) (hg _ gw609) (fun _ h9 => h9) rfl dM_statement_268 ?_
          refine lv_iload_n hx hb dM_statement_271 rfl (lv_at hl 3 rfl) ?_
          refine lv_dup2_11 hx hb dM_statement_272 rfl rfl ?_
          refine mm_iald hx hb hK hP (hD38.1.2 15 (by decide)).1 (show mm_I tys f37 (ad 15) 4 (G 15) from (hD38.1.2 15 (by decide)).2) (vp_in_nI (show i0 < 4 by omega) (by omega)) dM_statement_273 ?_
          rw [nI_clamp (by omega)]
          rw [(hoi i0 hi0).1]
          refine lv_iconst (v := nI 1) hx hb dM_statement_274 (by decide) ?_
          refine lv_isub hx hb dM_statement_275 ?_
          rw [nI_sub1 (by omega)]
          refine mm_iast hx hb hK hn hA hP hS (hD38.1.2 15 (by decide)).1 (show mm_I tys f37 (ad 15) 4 (G 15) from (hD38.1.2 15 (by decide)).2) (vp_in_nI (show i0 < 4 by omega) (by omega)) dM_statement_276 (fun H locs hP hS => ?_)
          rw [nI_clamp (by omega)] at hP
          obtain ⟨f40, hf40⟩ : ∃ z, z = mm_si f37 (ad 15) (upd (G 15) i0 (nI (oi i0 - 1))) := ⟨_, rfl⟩
          have hP : va_P D zCl (va_pl L f40) H := by rw [hf40]; exact hP
          have hs41 : Same1 f37 f40 (ad 15) := fun z hz => by rw [hf40, mm_si_ne hz]
          have hD41 : MD tys L f40 mo ap cm ad (fun j => if j = 15 then upd (G 15) i0 (nI (oi i0 - 1)) else (fun j => if j = 12 then upd (upd (G 12) ((16 * i0) + (sz σ i0)) (-1)) (tm i0) (nI (sz σ i0)) else (fun j => if j = 12 then upd (G 12) ((16 * i0) + (sz σ i0)) (-1) else (fun j => if j = 11 then upd (G 11) ((16 * i0) + (sz σ i0)) (-1) else (fun j => if j = 8 then upd (G 8) ((16 * i0) + (sz σ i0)) k else (fun j => if j = 7 then upd (G 7) ((16 * i0) + (sz σ i0)) cr else (fun j => if j = 6 then upd (G 6) ((16 * i0) + (sz σ i0)) b else (fun j => if j = 5 then upd (G 5) ((16 * i0) + (sz σ i0)) a else (fun j => if j = 4 then upd (G 4) ((16 * i0) + (sz σ i0)) (nI 4) else G j) j) j) j) j) j) j) j) j) (nI 0) fe me fu le en sp (nI ka) (nI kc) mx se gc := hD38.updA hinj (k := 15) (by decide) (by rw [hf40]; exact (show mm_I tys f37 (ad 15) 4 (G 15) from (hD38.1.2 15 (by decide)).2).set) hs41
          have ha42 := ha39.trans (SmA.of1 (k := 15) (by decide) hs41)
          refine lv_aload_n hx hb dM_statement_277 rfl (lv_at hl 2 rfl) ?_
          refine mm_get (v := .ref (ad 9)) hx hb hg inM hown hK hP hD41.1.1.1 hD41.2.1 rfl 10 (by decide) (hg _ gw603) (fun _ h9 => h9) rfl dM_statement_278 ?_
          refine lv_iload_n hx hb dM_statement_281 rfl (lv_at hl 3 rfl) ?_
          refine lv_dup2_11 hx hb dM_statement_282 rfl rfl ?_
          refine mm_iald hx hb hK hP (hD41.1.2 9 (by decide)).1 (show mm_I tys f40 (ad 9) 4 (G 9) from (hD41.1.2 9 (by decide)).2) (vp_in_nI (show i0 < 4 by omega) (by omega)) dM_statement_283 ?_
          rw [nI_clamp (by omega)]
          rw [hM.2.2.2 i0 hi0]
          refine lv_iconst (v := nI 1) hx hb dM_statement_284 (by decide) ?_
          refine lv_iadd hx hb dM_statement_285 ?_
          rw [nI_add]
          refine mm_iast hx hb hK hn hA hP hS (hD41.1.2 9 (by decide)).1 (show mm_I tys f40 (ad 9) 4 (G 9) from (hD41.1.2 9 (by decide)).2) (vp_in_nI (show i0 < 4 by omega) (by omega)) dM_statement_286 (fun H locs hP hS => ?_)
          rw [nI_clamp (by omega)] at hP
          obtain ⟨f43, hf43⟩ : ∃ z, z = mm_si f40 (ad 9) (upd (G 9) i0 (nI ((sz σ i0) + 1))) := ⟨_, rfl⟩
          have hP : va_P D zCl (va_pl L f43) H := by rw [hf43]; exact hP
          have hs44 : Same1 f40 f43 (ad 9) := fun z hz => by rw [hf43, mm_si_ne hz]
          have hD44 : MD tys L f43 mo ap cm ad (fun j => if j = 9 then upd (G 9) i0 (nI ((sz σ i0) + 1)) else (fun j => if j = 15 then upd (G 15) i0 (nI (oi i0 - 1)) else (fun j => if j = 12 then upd (upd (G 12) ((16 * i0) + (sz σ i0)) (-1)) (tm i0) (nI (sz σ i0)) else (fun j => if j = 12 then upd (G 12) ((16 * i0) + (sz σ i0)) (-1) else (fun j => if j = 11 then upd (G 11) ((16 * i0) + (sz σ i0)) (-1) else (fun j => if j = 8 then upd (G 8) ((16 * i0) + (sz σ i0)) k else (fun j => if j = 7 then upd (G 7) ((16 * i0) + (sz σ i0)) cr else (fun j => if j = 6 then upd (G 6) ((16 * i0) + (sz σ i0)) b else (fun j => if j = 5 then upd (G 5) ((16 * i0) + (sz σ i0)) a else (fun j => if j = 4 then upd (G 4) ((16 * i0) + (sz σ i0)) (nI 4) else G j) j) j) j) j) j) j) j) j) j) (nI 0) fe me fu le en sp (nI ka) (nI kc) mx se gc := hD41.updA hinj (k := 9) (by decide) (by rw [hf43]; exact (show mm_I tys f40 (ad 9) 4 (G 9) from (hD41.1.2 9 (by decide)).2).set) hs44
          have ha45 := ha42.trans (SmA.of1 (k := 9) (by decide) hs44)
          refine lv_aload_n hx hb dM_statement_287 rfl (lv_at hl 2 rfl) ?_
          refine mm_get (v := .ref (ad 9)) hx hb hg inM hown hK hP hD44.1.1.1 hD44.2.1 rfl 10 (by decide) (hg _ gw603) (fun _ h9 => h9) rfl dM_statement_288 ?_
          refine lv_iload_n hx hb dM_statement_291 rfl (lv_at hl 3 rfl) ?_
          refine mm_iald hx hb hK hP (hD44.1.2 9 (by decide)).1 (show mm_I tys f43 (ad 9) 4 (upd (G 9) i0 (nI ((sz σ i0) + 1))) from (hD44.1.2 9 (by decide)).2) (vp_in_nI (show i0 < 4 by omega) (by omega)) dM_statement_292 ?_
          rw [nI_clamp (by omega)]
          rw [pk_us]
          refine lv_iconst (v := nI 1) hx hb dM_statement_293 (by decide) ?_
          refine lv_isub hx hb dM_statement_294 ?_
          rw [nI_sub1 (by omega)]
          refine ret_i C0 hP hS ⟨nI 0, ha45, Or.inr ⟨nb_f c9, c23, fun i2 e2 h2 => Or.inr (Or.inr ?_)⟩⟩ dM_statement_295
          obtain rfl := (nI_eq (by omega) (by omega)).mp e2
          refine ⟨c43, (q_rm_iff hz16 h6n).mpr ⟨hlt, fun z => absurd z (by decide +kernel)⟩, rfl, rfl, ?_⟩
          exact MdI.eqG ⟨_, _, _, _, _, _, ka, kc, _, _, _, hfe, hka, hkc, hD44⟩ (fun k2 hk2 => by
            rcases (show k2 = 0 ∨ k2 = 1 ∨ k2 = 2 ∨ k2 = 3 ∨ k2 = 4 ∨ k2 = 5 ∨ k2 = 6 ∨ k2 = 7 ∨ k2 = 8 ∨ k2 = 9 ∨ k2 = 10 ∨ k2 = 11 ∨ k2 = 12 ∨ k2 = 13 ∨ k2 = 14 ∨ k2 = 15 by omega) with e | e | e | e | e | e | e | e | e | e | e | e | e | e | e | e <;> subst e <;> rfl)
      · have c43 : (m_hw σ i0 (nI 4) a b cr && m_op (oi i0) (G 11 (tm i0)) (nI 4)) = false := kb_0.mp c43
        refine lv_aload_n hx hb dM_statement_46 rfl (lv_at hl 0 rfl) ?_
        refine lv_iconst (v := nI 2) hx hb dM_statement_47 (by decide) ?_
        refine then_i (run_V (n := 1) (As := [.int (nI 2)]) (rest := []) C0 (m_raise hn hD2) gw700 gw697 gw699 gsM_raise gw7 (by decide +kernel) ⟨Nat.le_of_ble_eq_true rfl, Nat.le_of_ble_eq_true rfl⟩ rfl rfl ⟨Nat.le_of_ble_eq_true rfl, Nat.le_of_ble_eq_true rfl⟩ hP hD2.1.1.1 hD2.2.1 rfl rfl rfl hl.1 rfl (Nat.le_of_ble_eq_true rfl) dM_statement_48) hS hA (fun r47 f46 H locs hq48 hP hS => ?_)
        obtain ⟨hr48, hD48, hs48⟩ := hq48
        have ha48 := ha3.trans (SmA.of3 (Sm3.ofO hs48))
        refine ret_i C0 hP hS ⟨nI 2, ha48, Or.inr ⟨nb_f c9, c23, fun i2 e2 h2 => Or.inl ?_⟩⟩ dM_statement_51
        obtain rfl := (nI_eq (by omega) (by omega)).mp e2
        exact ⟨c43, rfl, ⟨_, _, _, _, _, _, ka, kc, _, _, _, hfe, hka, hkc, hD48⟩⟩
    · have c23 : (q_st (nI 4) a b cr k) = false := kb_0.mp c23
      refine lv_aload_n hx hb dM_statement_26 rfl (lv_at hl 0 rfl) ?_
      refine lv_iconst (v := nI 1) hx hb dM_statement_27 (by decide) ?_
      refine then_i (run_V (n := 1) (As := [.int (nI 1)]) (rest := []) C0 (m_raise hn hD2) gw700 gw697 gw699 gsM_raise gw7 (by decide +kernel) ⟨Nat.le_of_ble_eq_true rfl, Nat.le_of_ble_eq_true rfl⟩ rfl rfl ⟨Nat.le_of_ble_eq_true rfl, Nat.le_of_ble_eq_true rfl⟩ hP hD2.1.1.1 hD2.2.1 rfl rfl rfl hl.1 rfl (Nat.le_of_ble_eq_true rfl) dM_statement_28) hS hA (fun r50 f49 H locs hq28 hP hS => ?_)
      obtain ⟨hr51, hD51, hs51⟩ := hq28
      have ha51 := ha3.trans (SmA.of3 (Sm3.ofO hs51))
      exact ret_i C0 hP hS ⟨_, ha51, Or.inl ⟨by rw [c23]; cases q_fn x <;> rfl, rfl, ⟨_, _, _, _, _, _, ka, kc, _, _, _, hfe, hka, hkc, hD51⟩⟩⟩ dM_statement_31
set_option maxRecDepth 100000 in
set_option maxHeartbeats 4000000 in
theorem m_statement_5 {l : Launch} {D : va_G} {tys : List (ClassId × FieldType)} {L : List Nat} {f : Nat → va_E} (hn : L.Nodup) {mo ap cm : Nat} {ad : Nat → Nat} {G : Nat → Nat → Int32} {th : Int32} {σ : Sg} {x a b cr k : Int32} {oi ni tm : Nat → Nat} (hoi : ∀ i, i < 4 → G 15 i = nI (oi i) ∧ oi i ≤ ni i) (hni : ∀ i, i < 4 → G 13 i = nI (ni i) ∧ ni i ≤ 6) (htm : ∀ i, i < 4 → 0 < oi i → G 14 (6 * i + oi i - 1) = nI (tm i) ∧ tm i < 64) (hinj : ∀ i j, i < 16 → j < 16 → i ≠ j → ad i ≠ ad j) (hO : MOk σ G) (hI0 : MdI tys L f mo ap cm ad G th) : MetI l yM_statement wM_statement ({ frames := 3, cells := 0, slots := 0, locals := 68 } : Room) D tys L f [.ref mo, .int x, .int (nI 5), .int a, .int b, .int cr, .int k] (fun r f' => ∃ t, SmA f f' mo ap cm ad ∧ (((q_fn x && q_st (nI 5) a b cr k) = false ∧ t = nI 1 ∧ MdI tys L f' mo ap cm ad G t) ∨ (q_fn x = true ∧ q_st (nI 5) a b cr k = true ∧ ∀ i, x = nI i → i < 4 → (((m_hw σ i (nI 5) a b cr && m_op (oi i) (G 11 (tm i)) (nI 5)) = false ∧ t = nI 2 ∧ MdI tys L f' mo ap cm ad G t) ∨ ((m_hw σ i (nI 5) a b cr && m_op (oi i) (G 11 (tm i)) (nI 5)) = true ∧ q_rm (sz σ i) (ni i) (nI 5) = false ∧ t = nI 3 ∧ MdI tys L f' mo ap cm ad G t) ∨ ((m_hw σ i (nI 5) a b cr && m_op (oi i) (G 11 (tm i)) (nI 5)) = true ∧ q_rm (sz σ i) (ni i) (nI 5) = true ∧ t = nI 0 ∧ r = nI (sz σ i) ∧ MdI tys L f' mo ap cm ad (m_Gs G i (sz σ i) (oi i) (ni i) (tm i) 5 a b cr k) t))))) := by
  refine met_of "LiquidCheckerModel" (by decide) rfl (Nat.le_of_ble_eq_true rfl) ?_
  intro pgm e s m below meth c ls C0 hP hl
  obtain ⟨hx, hb, hml, hown, hg, hr, hlocks, hK, hN⟩ := id C0
  have hA : ∀ a ∈ L, inL L a := fun _ h => h
  obtain ⟨H, hH⟩ : ∃ z, z = s.heap := ⟨_, rfl⟩
  rw [← hH] at hP ⊢
  have hS : va_S (inL L) s.heap H [] := by rw [hH]; exact va_S.rf
  have hl : lv_has ls 9 [(0, .ref mo), (1, .int x), (2, .int (nI 5)), (3, .int a), (4, .int b), (5, .int cr), (6, .int k)] := hl
  obtain ⟨fe, me, fu, le, en, sp, ka, kc, mx, se, gc, hfe, hka, hkc, hD⟩ := hI0
  obtain ⟨hM, hRl, h3d, hW⟩ := hO
  refine lv_aload_n hx hb dM_statement_0 rfl (lv_at hl 0 rfl) ?_
  refine lv_iconst (v := nI 0) hx hb dM_statement_1 (by decide) ?_
  refine mm_put (v := .int (nI 0)) (ty := .int) hx hb hg inM tyM tyM_ok nmM hown hK hn hA hP hS hD.1.1.1 (show f mo = .inr (6, [.int th, .ref (ad 0), .ref (ad 1), .ref (ad 2), .ref (ad 3), .ref (ad 4), .ref (ad 5), .ref (ad 6), .ref (ad 7), .ref (ad 8), .ref (ad 9), .ref (ad 10), .ref (ad 11), .ref (ad 12), .ref (ad 13), .ref (ad 14), .ref (ad 15), .ref ap, .int fe, .int me, .int fu, .int le, .int en, .ref cm, .int sp, .int (nI ka), .int (nI kc), .long mx, .int se]) from hD.2.1) rfl 0 (by decide) (hg _ gw593) (fun _ h9 => h9) rfl (by decide +kernel) rfl rfl (Nat.le_of_ble_eq_true rfl) dM_statement_2 (fun H locs hP hS => ?_)
  obtain ⟨f1, hf1⟩ : ∃ z, z = va_up f mo (.inr (6, [.int (nI 0), .ref (ad 0), .ref (ad 1), .ref (ad 2), .ref (ad 3), .ref (ad 4), .ref (ad 5), .ref (ad 6), .ref (ad 7), .ref (ad 8), .ref (ad 9), .ref (ad 10), .ref (ad 11), .ref (ad 12), .ref (ad 13), .ref (ad 14), .ref (ad 15), .ref ap, .int fe, .int me, .int fu, .int le, .int en, .ref cm, .int sp, .int (nI ka), .int (nI kc), .long mx, .int se])) := ⟨_, rfl⟩
  have hP : va_P D zCl (va_pl L f1) H := by rw [hf1]; exact hP
  have hs2 : Same1 f f1 mo := fun z hz => by rw [hf1, va_up_ne _ _ hz]
  have hD2 : MD tys L f1 mo ap cm ad G (nI 0) fe me fu le en sp (nI ka) (nI kc) mx se gc := hD.updO (by rw [hf1]; exact va_up_self _ _ _) hs2
  have ha3 : SmA f _ mo ap cm ad := SmA.of3 (Sm3.ofO hs2)
  refine lv_iload_n hx hb dM_statement_5 rfl (lv_at hl 1 rfl) ?_
  refine then_i (run_S (n := 1) (As := [.int x]) (rest := []) C0 (m_noFunction hn) gw693 gw691 gw692 gw7 (by decide +kernel) ⟨Nat.le_of_ble_eq_true rfl, Nat.le_of_ble_eq_true rfl⟩ rfl rfl ⟨Nat.le_of_ble_eq_true rfl, Nat.le_of_ble_eq_true rfl⟩ hP rfl hl.1 rfl (Nat.le_of_ble_eq_true rfl) dM_statement_6) hS hA (fun r5 f4 H locs hq6 hP hS => ?_)
  obtain ⟨er5, ef4⟩ := hq6
  subst er5
  rw [ef4] at hP
  refine lv_if_ne (tgt := 26) hx hb dM_statement_9 (by decide) (fun c9 => ?_) (fun c9 => ?_)
  · have c9 : (!q_fn x) = true := kb_t.mp c9
    refine lv_aload_n hx hb dM_statement_26 rfl (lv_at hl 0 rfl) ?_
    refine lv_iconst (v := nI 1) hx hb dM_statement_27 (by decide) ?_
    refine then_i (run_V (n := 1) (As := [.int (nI 1)]) (rest := []) C0 (m_raise hn hD2) gw700 gw697 gw699 gsM_raise gw7 (by decide +kernel) ⟨Nat.le_of_ble_eq_true rfl, Nat.le_of_ble_eq_true rfl⟩ rfl rfl ⟨Nat.le_of_ble_eq_true rfl, Nat.le_of_ble_eq_true rfl⟩ hP hD2.1.1.1 hD2.2.1 rfl rfl rfl hl.1 rfl (Nat.le_of_ble_eq_true rfl) dM_statement_28) hS hA (fun r7 f6 H locs hq28 hP hS => ?_)
    obtain ⟨hr8, hD8, hs8⟩ := hq28
    have ha8 := ha3.trans (SmA.of3 (Sm3.ofO hs8))
    exact ret_i C0 hP hS ⟨_, ha8, Or.inl ⟨by rw [nb_t c9]; rfl, rfl, ⟨_, _, _, _, _, _, ka, kc, _, _, _, hfe, hka, hkc, hD8⟩⟩⟩ dM_statement_31
  · have c9 : (!q_fn x) = false := kb_0.mp c9
    refine lv_iload_n hx hb dM_statement_12 rfl (lv_at hl 2 rfl) ?_
    refine lv_iload_n hx hb dM_statement_13 rfl (lv_at hl 3 rfl) ?_
    refine lv_iload hx hb dM_statement_14 (lv_at hl 4 rfl) ?_
    refine lv_iload hx hb dM_statement_16 (lv_at hl 5 rfl) ?_
    refine lv_iload hx hb dM_statement_18 (lv_at hl 6 rfl) ?_
    refine then_i (run_S (n := 5) (As := [.int (nI 5), .int a, .int b, .int cr, .int k]) (rest := []) C0 (m_fits hn) gw707 gw705 gw706 gw7 (by decide +kernel) ⟨Nat.le_of_ble_eq_true rfl, Nat.le_of_ble_eq_true rfl⟩ rfl rfl ⟨Nat.le_of_ble_eq_true rfl, Nat.le_of_ble_eq_true rfl⟩ hP rfl hl.1 rfl (Nat.le_of_ble_eq_true rfl) dM_statement_20) hS hA (fun r10 f9 H locs hq20 hP hS => ?_)
    obtain ⟨er10, ef9⟩ := hq20
    subst er10
    rw [ef9] at hP
    refine lv_if_ne (tgt := 32) hx hb dM_statement_23 (by decide) (fun c23 => ?_) (fun c23 => ?_)
    · have c23 : (q_st (nI 5) a b cr k) = true := kb_t.mp c23
      obtain ⟨i0, hi0, rfl⟩ := q_fn_nI (nb_f c9)
      have hz16 := (hW i0 hi0).2.1.1
      have h6n := (hni i0 hi0).2
      have hon := (hoi i0 hi0).2
      refine lv_aload_n hx hb dM_statement_32 rfl (lv_at hl 0 rfl) ?_
      refine lv_iload_n hx hb dM_statement_33 rfl (lv_at hl 1 rfl) ?_
      refine lv_iload_n hx hb dM_statement_34 rfl (lv_at hl 2 rfl) ?_
      refine lv_iload_n hx hb dM_statement_35 rfl (lv_at hl 3 rfl) ?_
      refine lv_iload hx hb dM_statement_36 (lv_at hl 4 rfl) ?_
      refine lv_iload hx hb dM_statement_38 (lv_at hl 5 rfl) ?_
      refine then_i (run_V (n := 5) (As := [.int (nI i0), .int (nI 5), .int a, .int b, .int cr]) (rest := []) C0 (m_stands_5 hn hi0 hz16 hM (hoi i0 hi0).1 (by omega) (htm i0 hi0) hD2) gw714 gw711 gw713 gsM_stands gw7 (by decide +kernel) ⟨Nat.le_of_ble_eq_true rfl, Nat.le_of_ble_eq_true rfl⟩ rfl rfl ⟨Nat.le_of_ble_eq_true rfl, Nat.le_of_ble_eq_true rfl⟩ hP hD2.1.1.1 hD2.2.1 rfl rfl rfl hl.1 rfl (Nat.le_of_ble_eq_true rfl) dM_statement_40) hS hA (fun r12 f11 H locs hq40 hP hS => ?_)
      obtain ⟨er12, ef11⟩ := hq40
      subst er12
      rw [ef11] at hP
      refine lv_if_ne (tgt := 52) hx hb dM_statement_43 (by decide) (fun c43 => ?_) (fun c43 => ?_)
      · have c43 : (m_hw σ i0 (nI 5) a b cr && m_op (oi i0) (G 11 (tm i0)) (nI 5)) = true := kb_t.mp c43
        refine lv_aload_n hx hb dM_statement_52 rfl (lv_at hl 0 rfl) ?_
        refine mm_get (v := .ref (ad 9)) hx hb hg inM hown hK hP hD2.1.1.1 hD2.2.1 rfl 10 (by decide) (hg _ gw603) (fun _ h9 => h9) rfl dM_statement_53 ?_
        refine lv_iload_n hx hb dM_statement_56 rfl (lv_at hl 1 rfl) ?_
        refine mm_iald hx hb hK hP (hD2.1.2 9 (by decide)).1 (show mm_I tys f1 (ad 9) 4 (G 9) from (hD2.1.2 9 (by decide)).2) (vp_in_nI (show i0 < 4 by omega) (by omega)) dM_statement_57 ?_
        rw [nI_clamp (by omega)]
        rw [hM.2.2.2 i0 hi0]
        refine lv_bipush (v := nI 16) hx hb dM_statement_58 (by decide) ?_
        refine lv_icmp_eq (tgt := 79) hx hb dM_statement_60 (by decide) (fun c60 => ?_) (fun c60 => ?_)
        · refine lv_aload_n hx hb dM_statement_79 rfl (lv_at hl 0 rfl) ?_
          refine lv_iconst (v := nI 3) hx hb dM_statement_80 (by decide) ?_
          refine then_i (run_V (n := 1) (As := [.int (nI 3)]) (rest := []) C0 (m_raise hn hD2) gw700 gw697 gw699 gsM_raise gw7 (by decide +kernel) ⟨Nat.le_of_ble_eq_true rfl, Nat.le_of_ble_eq_true rfl⟩ rfl rfl ⟨Nat.le_of_ble_eq_true rfl, Nat.le_of_ble_eq_true rfl⟩ hP hD2.1.1.1 hD2.2.1 rfl rfl rfl hl.1 rfl (Nat.le_of_ble_eq_true rfl) dM_statement_81) hS hA (fun r14 f13 H locs hq81 hP hS => ?_)
          obtain ⟨hr15, hD15, hs15⟩ := hq81
          have ha15 := ha3.trans (SmA.of3 (Sm3.ofO hs15))
          refine ret_i C0 hP hS ⟨nI 3, ha15, Or.inr ⟨nb_f c9, c23, fun i2 e2 h2 => Or.inr (Or.inl ?_)⟩⟩ dM_statement_84
          obtain rfl := (nI_eq (by omega) (by omega)).mp e2
          refine ⟨c43, ?_, rfl, ⟨_, _, _, _, _, _, ka, kc, _, _, _, hfe, hka, hkc, hD15⟩⟩
          cases e9 : q_rm (sz σ i0) (ni i0) (nI 5) with
          | false => rfl
          | true =>
            have e8 := (q_rm_iff hz16 h6n).mp e9
            have e6 := (nI_eq (by omega) (by omega)).mp c60
            omega
        · refine lv_iload_n hx hb dM_statement_63 rfl (lv_at hl 2 rfl) ?_
          refine lv_iconst (v := nI 2) hx hb dM_statement_64 (by decide) ?_
          refine lv_icmp_ne (tgt := 85) hx hb dM_statement_65 (by decide) (fun c65 => ?_) (fun c65 => absurd c65 (by decide +kernel))
          have hlt : sz σ i0 < 16 := by have h9 : ¬ sz σ i0 = 16 := fun z => c60 (by rw [z]); omega
          refine lv_bipush (v := nI 16) hx hb dM_statement_85 (by decide) ?_
          refine lv_iload_n hx hb dM_statement_87 rfl (lv_at hl 1 rfl) ?_
          refine lv_imul hx hb dM_statement_88 ?_
          rw [pk_mul]
          refine lv_aload_n hx hb dM_statement_89 rfl (lv_at hl 0 rfl) ?_
          refine mm_get (v := .ref (ad 9)) hx hb hg inM hown hK hP hD2.1.1.1 hD2.2.1 rfl 10 (by decide) (hg _ gw603) (fun _ h9 => h9) rfl dM_statement_90 ?_
          refine lv_iload_n hx hb dM_statement_93 rfl (lv_at hl 1 rfl) ?_
          refine mm_iald hx hb hK hP (hD2.1.2 9 (by decide)).1 (show mm_I tys f1 (ad 9) 4 (G 9) from (hD2.1.2 9 (by decide)).2) (vp_in_nI (show i0 < 4 by omega) (by omega)) dM_statement_94 ?_
          rw [nI_clamp (by omega)]
          rw [hM.2.2.2 i0 hi0]
          refine lv_iadd hx hb dM_statement_95 ?_
          rw [nI_add]
          refine lv_istore (lv' := [(7, .int (nI ((16 * i0) + (sz σ i0)))), (0, .ref mo), (1, .int (nI i0)), (2, .int (nI 5)), (3, .int a), (4, .int b), (5, .int cr), (6, .int k)]) hx hb dM_statement_96 hl (by decide) rfl (fun ls hl => ?_)
          refine lv_aload_n hx hb dM_statement_98 rfl (lv_at hl 1 rfl) ?_
          refine mm_get (v := .ref (ad 4)) hx hb hg inM hown hK hP hD2.1.1.1 hD2.2.1 rfl 5 (by decide) (hg _ gw598) (fun _ h9 => h9) rfl dM_statement_99 ?_
          refine lv_iload hx hb dM_statement_102 (lv_at hl 0 rfl) ?_
          refine lv_iload_n hx hb dM_statement_104 rfl (lv_at hl 3 rfl) ?_
          refine mm_iast hx hb hK hn hA hP hS (hD2.1.2 4 (by decide)).1 (show mm_I tys f1 (ad 4) 64 (G 4) from (hD2.1.2 4 (by decide)).2) (vp_in_nI (show (16 * i0) + (sz σ i0) < 64 by omega) (by omega)) dM_statement_105 (fun H locs hP hS => ?_)
          rw [nI_clamp (by omega)] at hP
          obtain ⟨f16, hf16⟩ : ∃ z, z = mm_si f1 (ad 4) (upd (G 4) ((16 * i0) + (sz σ i0)) (nI 5)) := ⟨_, rfl⟩
          have hP : va_P D zCl (va_pl L f16) H := by rw [hf16]; exact hP
          have hs17 : Same1 f1 f16 (ad 4) := fun z hz => by rw [hf16, mm_si_ne hz]
          have hD17 : MD tys L f16 mo ap cm ad (fun j => if j = 4 then upd (G 4) ((16 * i0) + (sz σ i0)) (nI 5) else G j) (nI 0) fe me fu le en sp (nI ka) (nI kc) mx se gc := hD2.updA hinj (k := 4) (by decide) (by rw [hf16]; exact (show mm_I tys f1 (ad 4) 64 (G 4) from (hD2.1.2 4 (by decide)).2).set) hs17
          have ha18 := ha3.trans (SmA.of1 (k := 4) (by decide) hs17)
          refine lv_aload_n hx hb dM_statement_106 rfl (lv_at hl 1 rfl) ?_
          refine mm_get (v := .ref (ad 5)) hx hb hg inM hown hK hP hD17.1.1.1 hD17.2.1 rfl 6 (by decide) (hg _ gw599) (fun _ h9 => h9) rfl dM_statement_107 ?_
          refine lv_iload hx hb dM_statement_110 (lv_at hl 0 rfl) ?_
          refine lv_iload_n hx hb dM_statement_112 rfl (lv_at hl 4 rfl) ?_
          refine mm_iast hx hb hK hn hA hP hS (hD17.1.2 5 (by decide)).1 (show mm_I tys f16 (ad 5) 64 (G 5) from (hD17.1.2 5 (by decide)).2) (vp_in_nI (show (16 * i0) + (sz σ i0) < 64 by omega) (by omega)) dM_statement_113 (fun H locs hP hS => ?_)
          rw [nI_clamp (by omega)] at hP
          obtain ⟨f19, hf19⟩ : ∃ z, z = mm_si f16 (ad 5) (upd (G 5) ((16 * i0) + (sz σ i0)) a) := ⟨_, rfl⟩
          have hP : va_P D zCl (va_pl L f19) H := by rw [hf19]; exact hP
          have hs20 : Same1 f16 f19 (ad 5) := fun z hz => by rw [hf19, mm_si_ne hz]
          have hD20 : MD tys L f19 mo ap cm ad (fun j => if j = 5 then upd (G 5) ((16 * i0) + (sz σ i0)) a else (fun j => if j = 4 then upd (G 4) ((16 * i0) + (sz σ i0)) (nI 5) else G j) j) (nI 0) fe me fu le en sp (nI ka) (nI kc) mx se gc := hD17.updA hinj (k := 5) (by decide) (by rw [hf19]; exact (show mm_I tys f16 (ad 5) 64 (G 5) from (hD17.1.2 5 (by decide)).2).set) hs20
          have ha21 := ha18.trans (SmA.of1 (k := 5) (by decide) hs20)
          refine lv_aload_n hx hb dM_statement_114 rfl (lv_at hl 1 rfl) ?_
          refine mm_get (v := .ref (ad 6)) hx hb hg inM hown hK hP hD20.1.1.1 hD20.2.1 rfl 7 (by decide) (hg _ gw600) (fun _ h9 => h9) rfl dM_statement_115 ?_
          refine lv_iload hx hb dM_statement_118 (lv_at hl 0 rfl) ?_
          refine lv_iload hx hb dM_statement_120 (lv_at hl 5 rfl) ?_
          refine mm_iast hx hb hK hn hA hP hS (hD20.1.2 6 (by decide)).1 (show mm_I tys f19 (ad 6) 64 (G 6) from (hD20.1.2 6 (by decide)).2) (vp_in_nI (show (16 * i0) + (sz σ i0) < 64 by omega) (by omega)) dM_statement_122 (fun H locs hP hS => ?_)
          rw [nI_clamp (by omega)] at hP
          obtain ⟨f22, hf22⟩ : ∃ z, z = mm_si f19 (ad 6) (upd (G 6) ((16 * i0) + (sz σ i0)) b) := ⟨_, rfl⟩
          have hP : va_P D zCl (va_pl L f22) H := by rw [hf22]; exact hP
          have hs23 : Same1 f19 f22 (ad 6) := fun z hz => by rw [hf22, mm_si_ne hz]
          have hD23 : MD tys L f22 mo ap cm ad (fun j => if j = 6 then upd (G 6) ((16 * i0) + (sz σ i0)) b else (fun j => if j = 5 then upd (G 5) ((16 * i0) + (sz σ i0)) a else (fun j => if j = 4 then upd (G 4) ((16 * i0) + (sz σ i0)) (nI 5) else G j) j) j) (nI 0) fe me fu le en sp (nI ka) (nI kc) mx se gc := hD20.updA hinj (k := 6) (by decide) (by rw [hf22]; exact (show mm_I tys f19 (ad 6) 64 (G 6) from (hD20.1.2 6 (by decide)).2).set) hs23
          have ha24 := ha21.trans (SmA.of1 (k := 6) (by decide) hs23)
          refine lv_aload_n hx hb dM_statement_123 rfl (lv_at hl 1 rfl) ?_
          refine mm_get (v := .ref (ad 7)) hx hb hg inM hown hK hP hD23.1.1.1 hD23.2.1 rfl 8 (by decide) (hg _ gw601) (fun _ h9 => h9) rfl dM_statement_124 ?_
          refine lv_iload hx hb dM_statement_127 (lv_at hl 0 rfl) ?_
          refine lv_iload hx hb dM_statement_129 (lv_at hl 6 rfl) ?_
          refine mm_iast hx hb hK hn hA hP hS (hD23.1.2 7 (by decide)).1 (show mm_I tys f22 (ad 7) 64 (G 7) from (hD23.1.2 7 (by decide)).2) (vp_in_nI (show (16 * i0) + (sz σ i0) < 64 by omega) (by omega)) dM_statement_131 (fun H locs hP hS => ?_)
          rw [nI_clamp (by omega)] at hP
          obtain ⟨f25, hf25⟩ : ∃ z, z = mm_si f22 (ad 7) (upd (G 7) ((16 * i0) + (sz σ i0)) cr) := ⟨_, rfl⟩
          have hP : va_P D zCl (va_pl L f25) H := by rw [hf25]; exact hP
          have hs26 : Same1 f22 f25 (ad 7) := fun z hz => by rw [hf25, mm_si_ne hz]
          have hD26 : MD tys L f25 mo ap cm ad (fun j => if j = 7 then upd (G 7) ((16 * i0) + (sz σ i0)) cr else (fun j => if j = 6 then upd (G 6) ((16 * i0) + (sz σ i0)) b else (fun j => if j = 5 then upd (G 5) ((16 * i0) + (sz σ i0)) a else (fun j => if j = 4 then upd (G 4) ((16 * i0) + (sz σ i0)) (nI 5) else G j) j) j) j) (nI 0) fe me fu le en sp (nI ka) (nI kc) mx se gc := hD23.updA hinj (k := 7) (by decide) (by rw [hf25]; exact (show mm_I tys f22 (ad 7) 64 (G 7) from (hD23.1.2 7 (by decide)).2).set) hs26
          have ha27 := ha24.trans (SmA.of1 (k := 7) (by decide) hs26)
          refine lv_aload_n hx hb dM_statement_132 rfl (lv_at hl 1 rfl) ?_
          refine mm_get (v := .ref (ad 8)) hx hb hg inM hown hK hP hD26.1.1.1 hD26.2.1 rfl 9 (by decide) (hg _ gw602) (fun _ h9 => h9) rfl dM_statement_133 ?_
          refine lv_iload hx hb dM_statement_136 (lv_at hl 0 rfl) ?_
          refine lv_iload hx hb dM_statement_138 (lv_at hl 7 rfl) ?_
          refine mm_iast hx hb hK hn hA hP hS (hD26.1.2 8 (by decide)).1 (show mm_I tys f25 (ad 8) 64 (G 8) from (hD26.1.2 8 (by decide)).2) (vp_in_nI (show (16 * i0) + (sz σ i0) < 64 by omega) (by omega)) dM_statement_140 (fun H locs hP hS => ?_)
          rw [nI_clamp (by omega)] at hP
          obtain ⟨f28, hf28⟩ : ∃ z, z = mm_si f25 (ad 8) (upd (G 8) ((16 * i0) + (sz σ i0)) k) := ⟨_, rfl⟩
          have hP : va_P D zCl (va_pl L f28) H := by rw [hf28]; exact hP
          have hs29 : Same1 f25 f28 (ad 8) := fun z hz => by rw [hf28, mm_si_ne hz]
          have hD29 : MD tys L f28 mo ap cm ad (fun j => if j = 8 then upd (G 8) ((16 * i0) + (sz σ i0)) k else (fun j => if j = 7 then upd (G 7) ((16 * i0) + (sz σ i0)) cr else (fun j => if j = 6 then upd (G 6) ((16 * i0) + (sz σ i0)) b else (fun j => if j = 5 then upd (G 5) ((16 * i0) + (sz σ i0)) a else (fun j => if j = 4 then upd (G 4) ((16 * i0) + (sz σ i0)) (nI 5) else G j) j) j) j) j) (nI 0) fe me fu le en sp (nI ka) (nI kc) mx se gc := hD26.updA hinj (k := 8) (by decide) (by rw [hf28]; exact (show mm_I tys f25 (ad 8) 64 (G 8) from (hD26.1.2 8 (by decide)).2).set) hs29
          have ha30 := ha27.trans (SmA.of1 (k := 8) (by decide) hs29)
          refine lv_aload_n hx hb dM_statement_141 rfl (lv_at hl 1 rfl) ?_
          refine mm_get (v := .ref (ad 11)) hx hb hg inM hown hK hP hD29.1.1.1 hD29.2.1 rfl 12 (by decide) (hg _ gw605) (fun _ h9 => h9) rfl dM_statement_142 ?_
          refine lv_iload hx hb dM_statement_145 (lv_at hl 0 rfl) ?_
          refine lv_iconst (v := (-1)) hx hb dM_statement_147 (by decide) ?_
          refine mm_iast hx hb hK hn hA hP hS (hD29.1.2 11 (by decide)).1 (show mm_I tys f28 (ad 11) 64 (G 11) from (hD29.1.2 11 (by decide)).2) (vp_in_nI (show (16 * i0) + (sz σ i0) < 64 by omega) (by omega)) dM_statement_148 (fun H locs hP hS => ?_)
          rw [nI_clamp (by omega)] at hP
          obtain ⟨f31, hf31⟩ : ∃ z, z = mm_si f28 (ad 11) (upd (G 11) ((16 * i0) + (sz σ i0)) (-1)) := ⟨_, rfl⟩
          have hP : va_P D zCl (va_pl L f31) H := by rw [hf31]; exact hP
          have hs32 : Same1 f28 f31 (ad 11) := fun z hz => by rw [hf31, mm_si_ne hz]
          have hD32 : MD tys L f31 mo ap cm ad (fun j => if j = 11 then upd (G 11) ((16 * i0) + (sz σ i0)) (-1) else (fun j => if j = 8 then upd (G 8) ((16 * i0) + (sz σ i0)) k else (fun j => if j = 7 then upd (G 7) ((16 * i0) + (sz σ i0)) cr else (fun j => if j = 6 then upd (G 6) ((16 * i0) + (sz σ i0)) b else (fun j => if j = 5 then upd (G 5) ((16 * i0) + (sz σ i0)) a else (fun j => if j = 4 then upd (G 4) ((16 * i0) + (sz σ i0)) (nI 5) else G j) j) j) j) j) j) (nI 0) fe me fu le en sp (nI ka) (nI kc) mx se gc := hD29.updA hinj (k := 11) (by decide) (by rw [hf31]; exact (show mm_I tys f28 (ad 11) 64 (G 11) from (hD29.1.2 11 (by decide)).2).set) hs32
          have ha33 := ha30.trans (SmA.of1 (k := 11) (by decide) hs32)
          refine lv_aload_n hx hb dM_statement_149 rfl (lv_at hl 1 rfl) ?_
          refine mm_get (v := .ref (ad 12)) hx hb hg inM hown hK hP hD32.1.1.1 hD32.2.1 rfl 13 (by decide) (hg _ gw606) (fun _ h9 => h9) rfl dM_statement_150 ?_
          refine lv_iload hx hb dM_statement_153 (lv_at hl 0 rfl) ?_
          refine lv_iconst (v := (-1)) hx hb dM_statement_155 (by decide) ?_
          refine mm_iast hx hb hK hn hA hP hS (hD32.1.2 12 (by decide)).1 (show mm_I tys f31 (ad 12) 64 (G 12) from (hD32.1.2 12 (by decide)).2) (vp_in_nI (show (16 * i0) + (sz σ i0) < 64 by omega) (by omega)) dM_statement_156 (fun H locs hP hS => ?_)
          rw [nI_clamp (by omega)] at hP
          obtain ⟨f34, hf34⟩ : ∃ z, z = mm_si f31 (ad 12) (upd (G 12) ((16 * i0) + (sz σ i0)) (-1)) := ⟨_, rfl⟩
          have hP : va_P D zCl (va_pl L f34) H := by rw [hf34]; exact hP
          have hs35 : Same1 f31 f34 (ad 12) := fun z hz => by rw [hf34, mm_si_ne hz]
          have hD35 : MD tys L f34 mo ap cm ad (fun j => if j = 12 then upd (G 12) ((16 * i0) + (sz σ i0)) (-1) else (fun j => if j = 11 then upd (G 11) ((16 * i0) + (sz σ i0)) (-1) else (fun j => if j = 8 then upd (G 8) ((16 * i0) + (sz σ i0)) k else (fun j => if j = 7 then upd (G 7) ((16 * i0) + (sz σ i0)) cr else (fun j => if j = 6 then upd (G 6) ((16 * i0) + (sz σ i0)) b else (fun j => if j = 5 then upd (G 5) ((16 * i0) + (sz σ i0)) a else (fun j => if j = 4 then upd (G 4) ((16 * i0) + (sz σ i0)) (nI 5) else G j) j) j) j) j) j) j) (nI 0) fe me fu le en sp (nI ka) (nI kc) mx se gc := hD32.updA hinj (k := 12) (by decide) (by rw [hf34]; exact (show mm_I tys f31 (ad 12) 64 (G 12) from (hD32.1.2 12 (by decide)).2).set) hs35
          have ha36 := ha33.trans (SmA.of1 (k := 12) (by decide) hs35)
          refine lv_bipush (v := nI 6) hx hb dM_statement_157 (by decide) ?_
          refine lv_iload_n hx hb dM_statement_159 rfl (lv_at hl 2 rfl) ?_
          refine lv_imul hx hb dM_statement_160 ?_
          rw [pk_mul]
          refine lv_aload_n hx hb dM_statement_161 rfl (lv_at hl 1 rfl) ?_
          refine mm_get (v := .ref (ad 15)) hx hb hg inM hown hK hP hD35.1.1.1 hD35.2.1 rfl 16 (by decide) (hg _ gw609) (fun _ h9 => h9) rfl dM_statement_162 ?_
          refine lv_iload_n hx hb dM_statement_165 rfl (lv_at hl 2 rfl) ?_
          refine mm_iald hx hb hK hP (hD35.1.2 15 (by decide)).1 (show mm_I tys f34 (ad 15) 4 (G 15) from (hD35.1.2 15 (by decide)).2) (vp_in_nI (show i0 < 4 by omega) (by omega)) dM_statement_166 ?_
          rw [nI_clamp (by omega)]
          rw [(hoi i0 hi0).1]
          refine lv_iadd hx hb dM_statement_167 ?_
          rw [nI_add]
          refine lv_istore (lv' := [(8, .int (nI ((6 * i0) + (oi i0)))), (7, .int (nI ((16 * i0) + (sz σ i0)))), (0, .ref mo), (1, .int (nI i0)), (2, .int (nI 5)), (3, .int a), (4, .int b), (5, .int cr), (6, .int k)]) hx hb dM_statement_168 hl (by decide) rfl (fun ls hl => ?_)
          refine lv_iload_n hx hb dM_statement_170 rfl (lv_at hl 4 rfl) ?_
          refine lv_iconst (v := nI 2) hx hb dM_statement_171 (by decide) ?_
          refine lv_icmp_ne (tgt := 217) hx hb dM_statement_172 (by decide) (fun c172 => ?_) (fun c172 => absurd c172 (by decide +kernel))
          refine lv_iload_n hx hb dM_statement_217 rfl (lv_at hl 4 rfl) ?_
          refine lv_iconst (v := nI 3) hx hb dM_statement_218 (by decide) ?_
          refine lv_icmp_ne (tgt := 242) hx hb dM_statement_219 (by decide) (fun c219 => ?_) (fun c219 => absurd c219 (by decide +kernel))
          refine lv_iload_n hx hb dM_statement_242 rfl (lv_at hl 4 rfl) ?_
          refine lv_iconst (v := nI 4) hx hb dM_statement_243 (by decide) ?_
          refine lv_icmp_ne (tgt := 277) hx hb dM_statement_244 (by decide) (fun c244 => ?_) (fun c244 => absurd c244 (by decide +kernel))
          refine lv_aload_n hx hb dM_statement_277 rfl (lv_at hl 2 rfl) ?_
          refine mm_get (v := .ref (ad 9)) hx hb hg inM hown hK hP hD35.1.1.1 hD35.2.1 rfl 10 (by decide) (hg _ gw603) (fun _ h9 => h9) rfl dM_statement_278 ?_
          refine lv_iload_n hx hb dM_statement_281 rfl (lv_at hl 3 rfl) ?_
          refine lv_dup2_11 hx hb dM_statement_282 rfl rfl ?_
          refine mm_iald hx hb hK hP (hD35.1.2 9 (by decide)).1 (show mm_I tys f34 (ad 9) 4 (G 9) from (hD35.1.2 9 (by decide)).2) (vp_in_nI (show i0 < 4 by omega) (by omega)) dM_statement_283 ?_
          rw [nI_clamp (by omega)]
          rw [hM.2.2.2 i0 hi0]
          refine lv_iconst (v := nI 1) hx hb dM_statement_284 (by decide) ?_
          refine lv_iadd hx hb dM_statement_285 ?_
          rw [nI_add]
          refine mm_iast hx hb hK hn hA hP hS (hD35.1.2 9 (by decide)).1 (show mm_I tys f34 (ad 9) 4 (G 9) from (hD35.1.2 9 (by decide)).2) (vp_in_nI (show i0 < 4 by omega) (by omega)) dM_statement_286 (fun H locs hP hS => ?_)
          rw [nI_clamp (by omega)] at hP
          obtain ⟨f37, hf37⟩ : ∃ z, z = mm_si f34 (ad 9) (upd (G 9) i0 (nI ((sz σ i0) + 1))) := ⟨_, rfl⟩
          have hP : va_P D zCl (va_pl L f37) H := by rw [hf37]; exact hP
          have hs38 : Same1 f34 f37 (ad 9) := fun z hz => by rw [hf37, mm_si_ne hz]
          have hD38 : MD tys L f37 mo ap cm ad (fun j => if j = 9 then upd (G 9) i0 (nI ((sz σ i0) + 1)) else (fun j => if j = 12 then upd (G 12) ((16 * i0) + (sz σ i0)) (-1) else (fun j => if j = 11 then upd (G 11) ((16 * i0) + (sz σ i0)) (-1) else (fun j => if j = 8 then upd (G 8) ((16 * i0) + (sz σ i0)) k else (fun j => if j = 7 then upd (G 7) ((16 * i0) + (sz σ i0)) cr else (fun j => if j = 6 then upd (G 6) ((16 * i0) + (sz σ i0)) b else (fun j => if j = 5 then upd (G 5) ((16 * i0) + (sz σ i0)) a else (fun j => if j = 4 then upd (G 4) ((16 * i0) + (sz σ i0)) (nI 5) else G j) j) j) j) j) j) j) j) (nI 0) fe me fu le en sp (nI ka) (nI kc) mx se gc := hD35.updA hinj (k := 9) (by decide) (by rw [hf37]; exact (show mm_I tys f34 (ad 9) 4 (G 9) from (hD35.1.2 9 (by decide)).2).set) hs38
          have ha39 := ha36.trans (SmA.of1 (k := 9) (by decide) hs38)
          refine lv_aload_n hx hb dM_statement_287 rfl (lv_at hl 2 rfl) ?_
          refine mm_get (v := .ref (ad 9)) hx hb hg inM hown hK hP hD38.1.1.1 hD38.2.1 rfl 10 (by decide) (hg _ gw603) (fun _ h9 => h9) rfl dM_statement_288 ?_
          refine lv_iload_n hx hb dM_statement_291 rfl (lv_at hl 3 rfl) ?_
          refine mm_iald hx hb hK hP (hD38.1.2 9 (by decide)).1 (show mm_I tys f37 (ad 9) 4 (upd (G 9) i0 (nI ((sz σ i0) + 1))) from (hD38.1.2 9 (by decide)).2) (vp_in_nI (show i0 < 4 by omega) (by omega)) dM_statement_292 ?_
          rw [nI_clamp (by omega)]
          rw [pk_us]
          refine lv_iconst (v := nI 1) hx hb dM_statement_293 (by decide) ?_
          refine lv_isub hx hb dM_statement_294 ?_
          rw [nI_sub1 (by omega)]
          refine ret_i C0 hP hS ⟨nI 0, ha39, Or.inr ⟨nb_f c9, c23, fun i2 e2 h2 => Or.inr (Or.inr ?_)⟩⟩ dM_statement_295
          obtain rfl := (nI_eq (by omega) (by omega)).mp e2
          refine ⟨c43, (q_rm_iff hz16 h6n).mpr ⟨hlt, fun z => absurd z (by decide +kernel)⟩, rfl, rfl, ?_⟩
          exact MdI.eqG ⟨_, _, _, _, _, _, ka, kc, _, _, _, hfe, hka, hkc, hD38⟩ (fun k2 hk2 => by
            rcases (show k2 = 0 ∨ k2 = 1 ∨ k2 = 2 ∨ k2 = 3 ∨ k2 = 4 ∨ k2 = 5 ∨ k2 = 6 ∨ k2 = 7 ∨ k2 = 8 ∨ k2 = 9 ∨ k2 = 10 ∨ k2 = 11 ∨ k2 = 12 ∨ k2 = 13 ∨ k2 = 14 ∨ k2 = 15 by omega) with e | e | e | e | e | e | e | e | e | e | e | e | e | e | e | e <;> subst e <;> rfl)
      · have c43 : (m_hw σ i0 (nI 5) a b cr && m_op (oi i0) (G 11 (tm i0)) (nI 5)) = false := kb_0.mp c43
        refine lv_aload_n hx hb dM_statement_46 rfl (lv_at hl 0 rfl) ?_
        refine lv_iconst (v := nI 2) hx hb dM_statement_47 (by decide) ?_
        refine then_i (run_V (n := 1) (As := [.int (nI 2)]) (rest := []) C0 (m_raise hn hD2) gw700 gw697 gw699 gsM_raise gw7 (by decide +kernel) ⟨Nat.le_of_ble_eq_true rfl, Nat.le_of_ble_eq_true rfl⟩ rfl rfl ⟨Nat.le_of_ble_eq_true rfl, Nat.le_of_ble_eq_true rfl⟩ hP hD2.1.1.1 hD2.2.1 rfl rfl rfl hl.1 rfl (Nat.le_of_ble_eq_true rfl) dM_statement_48) hS hA (fun r41 f40 H locs hq48 hP hS => ?_)
        obtain ⟨hr42, hD42, hs42⟩ := hq48
        have ha42 := ha3.trans (SmA.of3 (Sm3.ofO hs42))
        refine ret_i C0 hP hS ⟨nI 2, ha42, Or.inr ⟨nb_f c9, c23, fun i2 e2 h2 => Or.inl ?_⟩⟩ dM_statement_51
        obtain rfl := (nI_eq (by omega) (by omega)).mp e2
        exact ⟨c43, rfl, ⟨_, _, _, _, _, _, ka, kc, _, _, _, hfe, hka, hkc, hD42⟩⟩
    · have c23 : (q_st (nI 5) a b cr k) = false := kb_0.mp c23
      refine lv_aload_n hx hb dM_statement_26 rfl (lv_at hl 0 rfl) ?_
      refine lv_iconst (v := nI 1) hx hb dM_statement_27 (by decide) ?_
      refine then_i (run_V (n := 1) (As := [.int (nI 1)]) (rest := []) C0 (m_raise hn hD2) gw700 gw697 gw699 gsM_raise gw7 (by decide +kernel) ⟨Nat.le_of_ble_eq_true rfl, Nat.le_of_ble_eq_true rfl⟩ rfl rfl ⟨Nat.le_of_ble_eq_true rfl, Nat.le_of_ble_eq_true rfl⟩ hP hD2.1.1.1 hD2.2.1 rfl rfl rfl hl.1 rfl (Nat.le_of_ble_eq_true rfl) dM_statement_28) hS hA (fun r44 f43 H locs hq28 hP hS => ?_)
      obtain ⟨hr45, hD45, hs45⟩ := hq28
      have ha45 := ha3.trans (SmA.of3 (Sm3.ofO hs45))
      exact ret_i C0 hP hS ⟨_, ha45, Or.inl ⟨by rw [c23]; cases q_fn x <;> rfl, rfl, ⟨_, _, _, _, _, _, ka, kc, _, _, _, hfe, hka, hkc, hD45⟩⟩⟩ dM_statement_31
set_option maxRecDepth 100000 in
set_option maxHeartbeats 4000000 in
theorem m_statement_6 {l : Launch} {D : va_G} {tys : List (ClassId × FieldType)} {L : List Nat} {f : Nat → va_E} (hn : L.Nodup) {mo ap cm : Nat} {ad : Nat → Nat} {G : Nat → Nat → Int32} {th : Int32} {σ : Sg} {x a b cr k : Int32} {oi ni tm : Nat → Nat} (hoi : ∀ i, i < 4 → G 15 i = nI (oi i) ∧ oi i ≤ ni i) (hni : ∀ i, i < 4 → G 13 i = nI (ni i) ∧ ni i ≤ 6) (htm : ∀ i, i < 4 → 0 < oi i → G 14 (6 * i + oi i - 1) = nI (tm i) ∧ tm i < 64) (hinj : ∀ i j, i < 16 → j < 16 → i ≠ j → ad i ≠ ad j) (hO : MOk σ G) (hI0 : MdI tys L f mo ap cm ad G th) : MetI l yM_statement wM_statement ({ frames := 3, cells := 0, slots := 0, locals := 68 } : Room) D tys L f [.ref mo, .int x, .int (nI 6), .int a, .int b, .int cr, .int k] (fun r f' => ∃ t, SmA f f' mo ap cm ad ∧ (((q_fn x && q_st (nI 6) a b cr k) = false ∧ t = nI 1 ∧ MdI tys L f' mo ap cm ad G t) ∨ (q_fn x = true ∧ q_st (nI 6) a b cr k = true ∧ ∀ i, x = nI i → i < 4 → (((m_hw σ i (nI 6) a b cr && m_op (oi i) (G 11 (tm i)) (nI 6)) = false ∧ t = nI 2 ∧ MdI tys L f' mo ap cm ad G t) ∨ ((m_hw σ i (nI 6) a b cr && m_op (oi i) (G 11 (tm i)) (nI 6)) = true ∧ q_rm (sz σ i) (ni i) (nI 6) = false ∧ t = nI 3 ∧ MdI tys L f' mo ap cm ad G t) ∨ ((m_hw σ i (nI 6) a b cr && m_op (oi i) (G 11 (tm i)) (nI 6)) = true ∧ q_rm (sz σ i) (ni i) (nI 6) = true ∧ t = nI 0 ∧ r = nI (sz σ i) ∧ MdI tys L f' mo ap cm ad (m_Gs G i (sz σ i) (oi i) (ni i) (tm i) 6 a b cr k) t))))) := by
  refine met_of "LiquidCheckerModel" (by decide) rfl (Nat.le_of_ble_eq_true rfl) ?_
  intro pgm e s m below meth c ls C0 hP hl
  obtain ⟨hx, hb, hml, hown, hg, hr, hlocks, hK, hN⟩ := id C0
  have hA : ∀ a ∈ L, inL L a := fun _ h => h
  obtain ⟨H, hH⟩ : ∃ z, z = s.heap := ⟨_, rfl⟩
  rw [← hH] at hP ⊢
  have hS : va_S (inL L) s.heap H [] := by rw [hH]; exact va_S.rf
  have hl : lv_has ls 9 [(0, .ref mo), (1, .int x), (2, .int (nI 6)), (3, .int a), (4, .int b), (5, .int cr), (6, .int k)] := hl
  obtain ⟨fe, me, fu, le, en, sp, ka, kc, mx, se, gc, hfe, hka, hkc, hD⟩ := hI0
  obtain ⟨hM, hRl, h3d, hW⟩ := hO
  refine lv_aload_n hx hb dM_statement_0 rfl (lv_at hl 0 rfl) ?_
  refine lv_iconst (v := nI 0) hx hb dM_statement_1 (by decide) ?_
  refine mm_put (v := .int (nI 0)) (ty := .int) hx hb hg inM tyM tyM_ok nmM hown hK hn hA hP hS hD.1.1.1 (show f mo = .inr (6, [.int th, .ref (ad 0), .ref (ad 1), .ref (ad 2), .ref (ad 3), .ref (ad 4), .ref (ad 5), .ref (ad 6), .ref (ad 7), .ref (ad 8), .ref (ad 9), .ref (ad 10), .ref (ad 11), .ref (ad 12), .ref (ad 13), .ref (ad 14), .ref (ad 15), .ref ap, .int fe, .int me, .int fu, .int le, .int en, .ref cm, .int sp, .int (nI ka), .int (nI kc), .long mx, .int se]) from hD.2.1) rfl 0 (by decide) (hg _ gw593) (fun _ h9 => h9) rfl (by decide +kernel) rfl rfl (Nat.le_of_ble_eq_true rfl) dM_statement_2 (fun H locs hP hS => ?_)
  obtain ⟨f1, hf1⟩ : ∃ z, z = va_up f mo (.inr (6, [.int (nI 0), .ref (ad 0), .ref (ad 1), .ref (ad 2), .ref (ad 3), .ref (ad 4), .ref (ad 5), .ref (ad 6), .ref (ad 7), .ref (ad 8), .ref (ad 9), .ref (ad 10), .ref (ad 11), .ref (ad 12), .ref (ad 13), .ref (ad 14), .ref (ad 15), .ref ap, .int fe, .int me, .int fu, .int le, .int en, .ref cm, .int sp, .int (nI ka), .int (nI kc), .long mx, .int se])) := ⟨_, rfl⟩
  have hP : va_P D zCl (va_pl L f1) H := by rw [hf1]; exact hP
  have hs2 : Same1 f f1 mo := fun z hz => by rw [hf1, va_up_ne _ _ hz]
  have hD2 : MD tys L f1 mo ap cm ad G (nI 0) fe me fu le en sp (nI ka) (nI kc) mx se gc := hD.updO (by rw [hf1]; exact va_up_self _ _ _) hs2
  have ha3 : SmA f _ mo ap cm ad := SmA.of3 (Sm3.ofO hs2)
  refine lv_iload_n hx hb dM_statement_5 rfl (lv_at hl 1 rfl) ?_
  refine then_i (run_S (n := 1) (As := [.int x]) (rest := []) C0 (m_noFunction hn) gw693 gw691 gw692 gw7 (by decide +kernel) ⟨Nat.le_of_ble_eq_true rfl, Nat.le_of_ble_eq_true rfl⟩ rfl rfl ⟨Nat.le_of_ble_eq_true rfl, Nat.le_of_ble_eq_true rfl⟩ hP rfl hl.1 rfl (Nat.le_of_ble_eq_true rfl) dM_statement_6) hS hA (fun r5 f4 H locs hq6 hP hS => ?_)
  obtain ⟨er5, ef4⟩ := hq6
  subst er5
  rw [ef4] at hP
  refine lv_if_ne (tgt := 26) hx hb dM_statement_9 (by decide) (fun c9 => ?_) (fun c9 => ?_)
  · have c9 : (!q_fn x) = true := kb_t.mp c9
    refine lv_aload_n hx hb dM_statement_26 rfl (lv_at hl 0 rfl) ?_
    refine lv_iconst (v := nI 1) hx hb dM_statement_27 (by decide) ?_
    refine then_i (run_V (n := 1) (As := [.int (nI 1)]) (rest := []) C0 (m_raise hn hD2) gw700 gw697 gw699 gsM_raise gw7 (by decide +kernel) ⟨Nat.le_of_ble_eq_true rfl, Nat.le_of_ble_eq_true rfl⟩ rfl rfl ⟨Nat.le_of_ble_eq_true rfl, Nat.le_of_ble_eq_true rfl⟩ hP hD2.1.1.1 hD2.2.1 rfl rfl rfl hl.1 rfl (Nat.le_of_ble_eq_true rfl) dM_statement_28) hS hA (fun r7 f6 H locs hq28 hP hS => ?_)
    obtain ⟨hr8, hD8, hs8⟩ := hq28
    have ha8 := ha3.trans (SmA.of3 (Sm3.ofO hs8))
    exact ret_i C0 hP hS ⟨_, ha8, Or.inl ⟨by rw [nb_t c9]; rfl, rfl, ⟨_, _, _, _, _, _, ka, kc, _, _, _, hfe, hka, hkc, hD8⟩⟩⟩ dM_statement_31
  · have c9 : (!q_fn x) = false := kb_0.mp c9
    refine lv_iload_n hx hb dM_statement_12 rfl (lv_at hl 2 rfl) ?_
    refine lv_iload_n hx hb dM_statement_13 rfl (lv_at hl 3 rfl) ?_
    refine lv_iload hx hb dM_statement_14 (lv_at hl 4 rfl) ?_
    refine lv_iload hx hb dM_statement_16 (lv_at hl 5 rfl) ?_
    refine lv_iload hx hb dM_statement_18 (lv_at hl 6 rfl) ?_
    refine then_i (run_S (n := 5) (As := [.int (nI 6), .int a, .int b, .int cr, .int k]) (rest := []) C0 (m_fits hn) gw707 gw705 gw706 gw7 (by decide +kernel) ⟨Nat.le_of_ble_eq_true rfl, Nat.le_of_ble_eq_true rfl⟩ rfl rfl ⟨Nat.le_of_ble_eq_true rfl, Nat.le_of_ble_eq_true rfl⟩ hP rfl hl.1 rfl (Nat.le_of_ble_eq_true rfl) dM_statement_20) hS hA (fun r10 f9 H locs hq20 hP hS => ?_)
    obtain ⟨er10, ef9⟩ := hq20
    subst er10
    rw [ef9] at hP
    refine lv_if_ne (tgt := 32) hx hb dM_statement_23 (by decide) (fun c23 => ?_) (fun c23 => ?_)
    · have c23 : (q_st (nI 6) a b cr k) = true := kb_t.mp c23
      obtain ⟨i0, hi0, rfl⟩ := q_fn_nI (nb_f c9)
      have hz16 := (hW i0 hi0).2.1.1
      have h6n := (hni i0 hi0).2
      have hon := (hoi i0 hi0).2
      refine lv_aload_n hx hb dM_statement_32 rfl (lv_at hl 0 rfl) ?_
      refine lv_iload_n hx hb dM_statement_33 rfl (lv_at hl 1 rfl) ?_
      refine lv_iload_n hx hb dM_statement_34 rfl (lv_at hl 2 rfl) ?_
      refine lv_iload_n hx hb dM_statement_35 rfl (lv_at hl 3 rfl) ?_
      refine lv_iload hx hb dM_statement_36 (lv_at hl 4 rfl) ?_
      refine lv_iload hx hb dM_statement_38 (lv_at hl 5 rfl) ?_
      refine then_i (run_V (n := 5) (As := [.int (nI i0), .int (nI 6), .int a, .int b, .int cr]) (rest := []) C0 (m_stands_6 hn hi0 hz16 hM (hoi i0 hi0).1 (by omega) (htm i0 hi0) hD2) gw714 gw711 gw713 gsM_stands gw7 (by decide +kernel) ⟨Nat.le_of_ble_eq_true rfl, Nat.le_of_ble_eq_true rfl⟩ rfl rfl ⟨Nat.le_of_ble_eq_true rfl, Nat.le_of_ble_eq_true rfl⟩ hP hD2.1.1.1 hD2.2.1 rfl rfl rfl hl.1 rfl (Nat.le_of_ble_eq_true rfl) dM_statement_40) hS hA (fun r12 f11 H locs hq40 hP hS => ?_)
      obtain ⟨er12, ef11⟩ := hq40
      subst er12
      rw [ef11] at hP
      refine lv_if_ne (tgt := 52) hx hb dM_statement_43 (by decide) (fun c43 => ?_) (fun c43 => ?_)
      · have c43 : (m_hw σ i0 (nI 6) a b cr && m_op (oi i0) (G 11 (tm i0)) (nI 6)) = true := kb_t.mp c43
        refine lv_aload_n hx hb dM_statement_52 rfl (lv_at hl 0 rfl) ?_
        refine mm_get (v := .ref (ad 9)) hx hb hg inM hown hK hP hD2.1.1.1 hD2.2.1 rfl 10 (by decide) (hg _ gw603) (fun _ h9 => h9) rfl dM_statement_53 ?_
        refine lv_iload_n hx hb dM_statement_56 rfl (lv_at hl 1 rfl) ?_
        refine mm_iald hx hb hK hP (hD2.1.2 9 (by decide)).1 (show mm_I tys f1 (ad 9) 4 (G 9) from (hD2.1.2 9 (by decide)).2) (vp_in_nI (show i0 < 4 by omega) (by omega)) dM_statement_57 ?_
        rw [nI_clamp (by omega)]
        rw [hM.2.2.2 i0 hi0]
        refine lv_bipush (v := nI 16) hx hb dM_statement_58 (by decide) ?_
        refine lv_icmp_eq (tgt := 79) hx hb dM_statement_60 (by decide) (fun c60 => ?_) (fun c60 => ?_)
        · refine lv_aload_n hx hb dM_statement_79 rfl (lv_at hl 0 rfl) ?_
          refine lv_iconst (v := nI 3) hx hb dM_statement_80 (by decide) ?_
          refine then_i (run_V (n := 1) (As := [.int (nI 3)]) (rest := []) C0 (m_raise hn hD2) gw700 gw697 gw699 gsM_raise gw7 (by decide +kernel) ⟨Nat.le_of_ble_eq_true rfl, Nat.le_of_ble_eq_true rfl⟩ rfl rfl ⟨Nat.le_of_ble_eq_true rfl, Nat.le_of_ble_eq_true rfl⟩ hP hD2.1.1.1 hD2.2.1 rfl rfl rfl hl.1 rfl (Nat.le_of_ble_eq_true rfl) dM_statement_81) hS hA (fun r14 f13 H locs hq81 hP hS => ?_)
          obtain ⟨hr15, hD15, hs15⟩ := hq81
          have ha15 := ha3.trans (SmA.of3 (Sm3.ofO hs15))
          refine ret_i C0 hP hS ⟨nI 3, ha15, Or.inr ⟨nb_f c9, c23, fun i2 e2 h2 => Or.inr (Or.inl ?_)⟩⟩ dM_statement_84
          obtain rfl := (nI_eq (by omega) (by omega)).mp e2
          refine ⟨c43, ?_, rfl, ⟨_, _, _, _, _, _, ka, kc, _, _, _, hfe, hka, hkc, hD15⟩⟩
          cases e9 : q_rm (sz σ i0) (ni i0) (nI 6) with
          | false => rfl
          | true =>
            have e8 := (q_rm_iff hz16 h6n).mp e9
            have e6 := (nI_eq (by omega) (by omega)).mp c60
            omega
        · refine lv_iload_n hx hb dM_statement_63 rfl (lv_at hl 2 rfl) ?_
          refine lv_iconst (v := nI 2) hx hb dM_statement_64 (by decide) ?_
          refine lv_icmp_ne (tgt := 85) hx hb dM_statement_65 (by decide) (fun c65 => ?_) (fun c65 => absurd c65 (by decide +kernel))
          have hlt : sz σ i0 < 16 := by have h9 : ¬ sz σ i0 = 16 := fun z => c60 (by rw [z]); omega
          refine lv_bipush (v := nI 16) hx hb dM_statement_85 (by decide) ?_
          refine lv_iload_n hx hb dM_statement_87 rfl (lv_at hl 1 rfl) ?_
          refine lv_imul hx hb dM_statement_88 ?_
          rw [pk_mul]
          refine lv_aload_n hx hb dM_statement_89 rfl (lv_at hl 0 rfl) ?_
          refine mm_get (v := .ref (ad 9)) hx hb hg inM hown hK hP hD2.1.1.1 hD2.2.1 rfl 10 (by decide) (hg _ gw603) (fun _ h9 => h9) rfl dM_statement_90 ?_
          refine lv_iload_n hx hb dM_statement_93 rfl (lv_at hl 1 rfl) ?_
          refine mm_iald hx hb hK hP (hD2.1.2 9 (by decide)).1 (show mm_I tys f1 (ad 9) 4 (G 9) from (hD2.1.2 9 (by decide)).2) (vp_in_nI (show i0 < 4 by omega) (by omega)) dM_statement_94 ?_
          rw [nI_clamp (by omega)]
          rw [hM.2.2.2 i0 hi0]
          refine lv_iadd hx hb dM_statement_95 ?_
          rw [nI_add]
          refine lv_istore (lv' := [(7, .int (nI ((16 * i0) + (sz σ i0)))), (0, .ref mo), (1, .int (nI i0)), (2, .int (nI 6)), (3, .int a), (4, .int b), (5, .int cr), (6, .int k)]) hx hb dM_statement_96 hl (by decide) rfl (fun ls hl => ?_)
          refine lv_aload_n hx hb dM_statement_98 rfl (lv_at hl 1 rfl) ?_
          refine mm_get (v := .ref (ad 4)) hx hb hg inM hown hK hP hD2.1.1.1 hD2.2.1 rfl 5 (by decide) (hg _ gw598) (fun _ h9 => h9) rfl dM_statement_99 ?_
          refine lv_iload hx hb dM_statement_102 (lv_at hl 0 rfl) ?_
          refine lv_iload_n hx hb dM_statement_104 rfl (lv_at hl 3 rfl) ?_
          refine mm_iast hx hb hK hn hA hP hS (hD2.1.2 4 (by decide)).1 (show mm_I tys f1 (ad 4) 64 (G 4) from (hD2.1.2 4 (by decide)).2) (vp_in_nI (show (16 * i0) + (sz σ i0) < 64 by omega) (by omega)) dM_statement_105 (fun H locs hP hS => ?_)
          rw [nI_clamp (by omega)] at hP
          obtain ⟨f16, hf16⟩ : ∃ z, z = mm_si f1 (ad 4) (upd (G 4) ((16 * i0) + (sz σ i0)) (nI 6)) := ⟨_, rfl⟩
          have hP : va_P D zCl (va_pl L f16) H := by rw [hf16]; exact hP
          have hs17 : Same1 f1 f16 (ad 4) := fun z hz => by rw [hf16, mm_si_ne hz]
          have hD17 : MD tys L f16 mo ap cm ad (fun j => if j = 4 then upd (G 4) ((16 * i0) + (sz σ i0)) (nI 6) else G j) (nI 0) fe me fu le en sp (nI ka) (nI kc) mx se gc := hD2.updA hinj (k := 4) (by decide) (by rw [hf16]; exact (show mm_I tys f1 (ad 4) 64 (G 4) from (hD2.1.2 4 (by decide)).2).set) hs17
          have ha18 := ha3.trans (SmA.of1 (k := 4) (by decide) hs17)
          refine lv_aload_n hx hb dM_statement_106 rfl (lv_at hl 1 rfl) ?_
          refine mm_get (v := .ref (ad 5)) hx hb hg inM hown hK hP hD17.1.1.1 hD17.2.1 rfl 6 (by decide) (hg _ gw599) (fun _ h9 => h9) rfl dM_statement_107 ?_
          refine lv_iload hx hb dM_statement_110 (lv_at hl 0 rfl) ?_
          refine lv_iload_n hx hb dM_statement_112 rfl (lv_at hl 4 rfl) ?_
          refine mm_iast hx hb hK hn hA hP hS (hD17.1.2 5 (by decide)).1 (show mm_I tys f16 (ad 5) 64 (G 5) from (hD17.1.2 5 (by decide)).2) (vp_in_nI (show (16 * i0) + (sz σ i0) < 64 by omega) (by omega)) dM_statement_113 (fun H locs hP hS => ?_)
          rw [nI_clamp (by omega)] at hP
          obtain ⟨f19, hf19⟩ : ∃ z, z = mm_si f16 (ad 5) (upd (G 5) ((16 * i0) + (sz σ i0)) a) := ⟨_, rfl⟩
          have hP : va_P D zCl (va_pl L f19) H := by rw [hf19]; exact hP
          have hs20 : Same1 f16 f19 (ad 5) := fun z hz => by rw [hf19, mm_si_ne hz]
          have hD20 : MD tys L f19 mo ap cm ad (fun j => if j = 5 then upd (G 5) ((16 * i0) + (sz σ i0)) a else (fun j => if j = 4 then upd (G 4) ((16 * i0) + (sz σ i0)) (nI 6) else G j) j) (nI 0) fe me fu le en sp (nI ka) (nI kc) mx se gc := hD17.updA hinj (k := 5) (by decide) (by rw [hf19]; exact (show mm_I tys f16 (ad 5) 64 (G 5) from (hD17.1.2 5 (by decide)).2).set) hs20
          have ha21 := ha18.trans (SmA.of1 (k := 5) (by decide) hs20)
          refine lv_aload_n hx hb dM_statement_114 rfl (lv_at hl 1 rfl) ?_
          refine mm_get (v := .ref (ad 6)) hx hb hg inM hown hK hP hD20.1.1.1 hD20.2.1 rfl 7 (by decide) (hg _ gw600) (fun _ h9 => h9) rfl dM_statement_115 ?_
          refine lv_iload hx hb dM_statement_118 (lv_at hl 0 rfl) ?_
          refine lv_iload hx hb dM_statement_120 (lv_at hl 5 rfl) ?_
          refine mm_iast hx hb hK hn hA hP hS (hD20.1.2 6 (by decide)).1 (show mm_I tys f19 (ad 6) 64 (G 6) from (hD20.1.2 6 (by decide)).2) (vp_in_nI (show (16 * i0) + (sz σ i0) < 64 by omega) (by omega)) dM_statement_122 (fun H locs hP hS => ?_)
          rw [nI_clamp (by omega)] at hP
          obtain ⟨f22, hf22⟩ : ∃ z, z = mm_si f19 (ad 6) (upd (G 6) ((16 * i0) + (sz σ i0)) b) := ⟨_, rfl⟩
          have hP : va_P D zCl (va_pl L f22) H := by rw [hf22]; exact hP
          have hs23 : Same1 f19 f22 (ad 6) := fun z hz => by rw [hf22, mm_si_ne hz]
          have hD23 : MD tys L f22 mo ap cm ad (fun j => if j = 6 then upd (G 6) ((16 * i0) + (sz σ i0)) b else (fun j => if j = 5 then upd (G 5) ((16 * i0) + (sz σ i0)) a else (fun j => if j = 4 then upd (G 4) ((16 * i0) + (sz σ i0)) (nI 6) else G j) j) j) (nI 0) fe me fu le en sp (nI ka) (nI kc) mx se gc := hD20.updA hinj (k := 6) (by decide) (by rw [hf22]; exact (show mm_I tys f19 (ad 6) 64 (G 6) from (hD20.1.2 6 (by decide)).2).set) hs23
          have ha24 := ha21.trans (SmA.of1 (k := 6) (by decide) hs23)
          refine lv_aload_n hx hb dM_statement_123 rfl (lv_at hl 1 rfl) ?_
          refine mm_get (v := .ref (ad 7)) hx hb hg inM hown hK hP hD23.1.1.1 hD23.2.1 rfl 8 (by decide) (hg _ gw601) (fun _ h9 => h9) rfl dM_statement_124 ?_
          refine lv_iload hx hb dM_statement_127 (lv_at hl 0 rfl) ?_
          refine lv_iload hx hb dM_statement_129 (lv_at hl 6 rfl) ?_
          refine mm_iast hx hb hK hn hA hP hS (hD23.1.2 7 (by decide)).1 (show mm_I tys f22 (ad 7) 64 (G 7) from (hD23.1.2 7 (by decide)).2) (vp_in_nI (show (16 * i0) + (sz σ i0) < 64 by omega) (by omega)) dM_statement_131 (fun H locs hP hS => ?_)
          rw [nI_clamp (by omega)] at hP
          obtain ⟨f25, hf25⟩ : ∃ z, z = mm_si f22 (ad 7) (upd (G 7) ((16 * i0) + (sz σ i0)) cr) := ⟨_, rfl⟩
          have hP : va_P D zCl (va_pl L f25) H := by rw [hf25]; exact hP
          have hs26 : Same1 f22 f25 (ad 7) := fun z hz => by rw [hf25, mm_si_ne hz]
          have hD26 : MD tys L f25 mo ap cm ad (fun j => if j = 7 then upd (G 7) ((16 * i0) + (sz σ i0)) cr else (fun j => if j = 6 then upd (G 6) ((16 * i0) + (sz σ i0)) b else (fun j => if j = 5 then upd (G 5) ((16 * i0) + (sz σ i0)) a else (fun j => if j = 4 then upd (G 4) ((16 * i0) + (sz σ i0)) (nI 6) else G j) j) j) j) (nI 0) fe me fu le en sp (nI ka) (nI kc) mx se gc := hD23.updA hinj (k := 7) (by decide) (by rw [hf25]; exact (show mm_I tys f22 (ad 7) 64 (G 7) from (hD23.1.2 7 (by decide)).2).set) hs26
          have ha27 := ha24.trans (SmA.of1 (k := 7) (by decide) hs26)
          refine lv_aload_n hx hb dM_statement_132 rfl (lv_at hl 1 rfl) ?_
          refine mm_get (v := .ref (ad 8)) hx hb hg inM hown hK hP hD26.1.1.1 hD26.2.1 rfl 9 (by decide) (hg _ gw602) (fun _ h9 => h9) rfl dM_statement_133 ?_
          refine lv_iload hx hb dM_statement_136 (lv_at hl 0 rfl) ?_
          refine lv_iload hx hb dM_statement_138 (lv_at hl 7 rfl) ?_
          refine mm_iast hx hb hK hn hA hP hS (hD26.1.2 8 (by decide)).1 (show mm_I tys f25 (ad 8) 64 (G 8) from (hD26.1.2 8 (by decide)).2) (vp_in_nI (show (16 * i0) + (sz σ i0) < 64 by omega) (by omega)) dM_statement_140 (fun H locs hP hS => ?_)
          rw [nI_clamp (by omega)] at hP
          obtain ⟨f28, hf28⟩ : ∃ z, z = mm_si f25 (ad 8) (upd (G 8) ((16 * i0) + (sz σ i0)) k) := ⟨_, rfl⟩
          have hP : va_P D zCl (va_pl L f28) H := by rw [hf28]; exact hP
          have hs29 : Same1 f25 f28 (ad 8) := fun z hz => by rw [hf28, mm_si_ne hz]
          have hD29 : MD tys L f28 mo ap cm ad (fun j => if j = 8 then upd (G 8) ((16 * i0) + (sz σ i0)) k else (fun j => if j = 7 then upd (G 7) ((16 * i0) + (sz σ i0)) cr else (fun j => if j = 6 then upd (G 6) ((16 * i0) + (sz σ i0)) b else (fun j => if j = 5 then upd (G 5) ((16 * i0) + (sz σ i0)) a else (fun j => if j = 4 then upd (G 4) ((16 * i0) + (sz σ i0)) (nI 6) else G j) j) j) j) j) (nI 0) fe me fu le en sp (nI ka) (nI kc) mx se gc := hD26.updA hinj (k := 8) (by decide) (by rw [hf28]; exact (show mm_I tys f25 (ad 8) 64 (G 8) from (hD26.1.2 8 (by decide)).2).set) hs29
          have ha30 := ha27.trans (SmA.of1 (k := 8) (by decide) hs29)
          refine lv_aload_n hx hb dM_statement_141 rfl (lv_at hl 1 rfl) ?_
          refine mm_get (v := .ref (ad 11)) hx hb hg inM hown hK hP hD29.1.1.1 hD29.2.1 rfl 12 (by decide) (hg _ gw605) (fun _ h9 => h9) rfl dM_statement_142 ?_
          refine lv_iload hx hb dM_statement_145 (lv_at hl 0 rfl) ?_
          refine lv_iconst (v := (-1)) hx hb dM_statement_147 (by decide) ?_
          refine mm_iast hx hb hK hn hA hP hS (hD29.1.2 11 (by decide)).1 (show mm_I tys f28 (ad 11) 64 (G 11) from (hD29.1.2 11 (by decide)).2) (vp_in_nI (show (16 * i0) + (sz σ i0) < 64 by omega) (by omega)) dM_statement_148 (fun H locs hP hS => ?_)
          rw [nI_clamp (by omega)] at hP
          obtain ⟨f31, hf31⟩ : ∃ z, z = mm_si f28 (ad 11) (upd (G 11) ((16 * i0) + (sz σ i0)) (-1)) := ⟨_, rfl⟩
          have hP : va_P D zCl (va_pl L f31) H := by rw [hf31]; exact hP
          have hs32 : Same1 f28 f31 (ad 11) := fun z hz => by rw [hf31, mm_si_ne hz]
          have hD32 : MD tys L f31 mo ap cm ad (fun j => if j = 11 then upd (G 11) ((16 * i0) + (sz σ i0)) (-1) else (fun j => if j = 8 then upd (G 8) ((16 * i0) + (sz σ i0)) k else (fun j => if j = 7 then upd (G 7) ((16 * i0) + (sz σ i0)) cr else (fun j => if j = 6 then upd (G 6) ((16 * i0) + (sz σ i0)) b else (fun j => if j = 5 then upd (G 5) ((16 * i0) + (sz σ i0)) a else (fun j => if j = 4 then upd (G 4) ((16 * i0) + (sz σ i0)) (nI 6) else G j) j) j) j) j) j) (nI 0) fe me fu le en sp (nI ka) (nI kc) mx se gc := hD29.updA hinj (k := 11) (by decide) (by rw [hf31]; exact (show mm_I tys f28 (ad 11) 64 (G 11) from (hD29.1.2 11 (by decide)).2).set) hs32
          have ha33 := ha30.trans (SmA.of1 (k := 11) (by decide) hs32)
          refine lv_aload_n hx hb dM_statement_149 rfl (lv_at hl 1 rfl) ?_
          refine mm_get (v := .ref (ad 12)) hx hb hg inM hown hK hP hD32.1.1.1 hD32.2.1 rfl 13 (by decide) (hg _ gw606) (fun _ h9 => h9) rfl dM_statement_150 ?_
          refine lv_iload hx hb dM_statement_153 (lv_at hl 0 rfl) ?_
          refine lv_iconst (v := (-1)) hx hb dM_statement_155 (by decide) ?_
          refine mm_iast hx hb hK hn hA hP hS (hD32.1.2 12 (by decide)).1 (show mm_I tys f31 (ad 12) 64 (G 12) from (hD32.1.2 12 (by decide)).2) (vp_in_nI (show (16 * i0) + (sz σ i0) < 64 by omega) (by omega)) dM_statement_156 (fun H locs hP hS => ?_)
          rw [nI_clamp (by omega)] at hP
          obtain ⟨f34, hf34⟩ : ∃ z, z = mm_si f31 (ad 12) (upd (G 12) ((16 * i0) + (sz σ i0)) (-1)) := ⟨_, rfl⟩
          have hP : va_P D zCl (va_pl L f34) H := by rw [hf34]; exact hP
          have hs35 : Same1 f31 f34 (ad 12) := fun z hz => by rw [hf34, mm_si_ne hz]
          have hD35 : MD tys L f34 mo ap cm ad (fun j => if j = 12 then upd (G 12) ((16 * i0) + (sz σ i0)) (-1) else (fun j => if j = 11 then upd (G 11) ((16 * i0) + (sz σ i0)) (-1) else (fun j => if j = 8 then upd (G 8) ((16 * i0) + (sz σ i0)) k else (fun j => if j = 7 then upd (G 7) ((16 * i0) + (sz σ i0)) cr else (fun j => if j = 6 then upd (G 6) ((16 * i0) + (sz σ i0)) b else (fun j => if j = 5 then upd (G 5) ((16 * i0) + (sz σ i0)) a else (fun j => if j = 4 then upd (G 4) ((16 * i0) + (sz σ i0)) (nI 6) else G j) j) j) j) j) j) j) (nI 0) fe me fu le en sp (nI ka) (nI kc) mx se gc := hD32.updA hinj (k := 12) (by decide) (by rw [hf34]; exact (show mm_I tys f31 (ad 12) 64 (G 12) from (hD32.1.2 12 (by decide)).2).set) hs35
          have ha36 := ha33.trans (SmA.of1 (k := 12) (by decide) hs35)
          refine lv_bipush (v := nI 6) hx hb dM_statement_157 (by decide) ?_
          refine lv_iload_n hx hb dM_statement_159 rfl (lv_at hl 2 rfl) ?_
          refine lv_imul hx hb dM_statement_160 ?_
          rw [pk_mul]
          refine lv_aload_n hx hb dM_statement_161 rfl (lv_at hl 1 rfl) ?_
          refine mm_get (v := .ref (ad 15)) hx hb hg inM hown hK hP hD35.1.1.1 hD35.2.1 rfl 16 (by decide) (hg _ gw609) (fun _ h9 => h9) rfl dM_statement_162 ?_
          refine lv_iload_n hx hb dM_statement_165 rfl (lv_at hl 2 rfl) ?_
          refine mm_iald hx hb hK hP (hD35.1.2 15 (by decide)).1 (show mm_I tys f34 (ad 15) 4 (G 15) from (hD35.1.2 15 (by decide)).2) (vp_in_nI (show i0 < 4 by omega) (by omega)) dM_statement_166 ?_
          rw [nI_clamp (by omega)]
          rw [(hoi i0 hi0).1]
          refine lv_iadd hx hb dM_statement_167 ?_
          rw [nI_add]
          refine lv_istore (lv' := [(8, .int (nI ((6 * i0) + (oi i0)))), (7, .int (nI ((16 * i0) + (sz σ i0)))), (0, .ref mo), (1, .int (nI i0)), (2, .int (nI 6)), (3, .int a), (4, .int b), (5, .int cr), (6, .int k)]) hx hb dM_statement_168 hl (by decide) rfl (fun ls hl => ?_)
          refine lv_iload_n hx hb dM_statement_170 rfl (lv_at hl 4 rfl) ?_
          refine lv_iconst (v := nI 2) hx hb dM_statement_171 (by decide) ?_
          refine lv_icmp_ne (tgt := 217) hx hb dM_statement_172 (by decide) (fun c172 => ?_) (fun c172 => absurd c172 (by decide +kernel))
          refine lv_iload_n hx hb dM_statement_217 rfl (lv_at hl 4 rfl) ?_
          refine lv_iconst (v := nI 3) hx hb dM_statement_218 (by decide) ?_
          refine lv_icmp_ne (tgt := 242) hx hb dM_statement_219 (by decide) (fun c219 => ?_) (fun c219 => absurd c219 (by decide +kernel))
          refine lv_iload_n hx hb dM_statement_242 rfl (lv_at hl 4 rfl) ?_
          refine lv_iconst (v := nI 4) hx hb dM_statement_243 (by decide) ?_
          refine lv_icmp_ne (tgt := 277) hx hb dM_statement_244 (by decide) (fun c244 => ?_) (fun c244 => absurd c244 (by decide +kernel))
          refine lv_aload_n hx hb dM_statement_277 rfl (lv_at hl 2 rfl) ?_
          refine mm_get (v := .ref (ad 9)) hx hb hg inM hown hK hP hD35.1.1.1 hD35.2.1 rfl 10 (by decide) (hg _ gw603) (fun _ h9 => h9) rfl dM_statement_278 ?_
          refine lv_iload_n hx hb dM_statement_281 rfl (lv_at hl 3 rfl) ?_
          refine lv_dup2_11 hx hb dM_statement_282 rfl rfl ?_
          refine mm_iald hx hb hK hP (hD35.1.2 9 (by decide)).1 (show mm_I tys f34 (ad 9) 4 (G 9) from (hD35.1.2 9 (by decide)).2) (vp_in_nI (show i0 < 4 by omega) (by omega)) dM_statement_283 ?_
          rw [nI_clamp (by omega)]
          rw [hM.2.2.2 i0 hi0]
          refine lv_iconst (v := nI 1) hx hb dM_statement_284 (by decide) ?_
          refine lv_iadd hx hb dM_statement_285 ?_
          rw [nI_add]
          refine mm_iast hx hb hK hn hA hP hS (hD35.1.2 9 (by decide)).1 (show mm_I tys f34 (ad 9) 4 (G 9) from (hD35.1.2 9 (by decide)).2) (vp_in_nI (show i0 < 4 by omega) (by omega)) dM_statement_286 (fun H locs hP hS => ?_)
          rw [nI_clamp (by omega)] at hP
          obtain ⟨f37, hf37⟩ : ∃ z, z = mm_si f34 (ad 9) (upd (G 9) i0 (nI ((sz σ i0) + 1))) := ⟨_, rfl⟩
          have hP : va_P D zCl (va_pl L f37) H := by rw [hf37]; exact hP
          have hs38 : Same1 f34 f37 (ad 9) := fun z hz => by rw [hf37, mm_si_ne hz]
          have hD38 : MD tys L f37 mo ap cm ad (fun j => if j = 9 then upd (G 9) i0 (nI ((sz σ i0) + 1)) else (fun j => if j = 12 then upd (G 12) ((16 * i0) + (sz σ i0)) (-1) else (fun j => if j = 11 then upd (G 11) ((16 * i0) + (sz σ i0)) (-1) else (fun j => if j = 8 then upd (G 8) ((16 * i0) + (sz σ i0)) k else (fun j => if j = 7 then upd (G 7) ((16 * i0) + (sz σ i0)) cr else (fun j => if j = 6 then upd (G 6) ((16 * i0) + (sz σ i0)) b else (fun j => if j = 5 then upd (G 5) ((16 * i0) + (sz σ i0)) a else (fun j => if j = 4 then upd (G 4) ((16 * i0) + (sz σ i0)) (nI 6) else G j) j) j) j) j) j) j) j) (nI 0) fe me fu le en sp (nI ka) (nI kc) mx se gc := hD35.updA hinj (k := 9) (by decide) (by rw [hf37]; exact (show mm_I tys f34 (ad 9) 4 (G 9) from (hD35.1.2 9 (by decide)).2).set) hs38
          have ha39 := ha36.trans (SmA.of1 (k := 9) (by decide) hs38)
          refine lv_aload_n hx hb dM_statement_287 rfl (lv_at hl 2 rfl) ?_
          refine mm_get (v := .ref (ad 9)) hx hb hg inM hown hK hP hD38.1.1.1 hD38.2.1 rfl 10 (by decide) (hg _ gw603) (fun _ h9 => h9) rfl dM_statement_288 ?_
          refine lv_iload_n hx hb dM_statement_291 rfl (lv_at hl 3 rfl) ?_
          refine mm_iald hx hb hK hP (hD38.1.2 9 (by decide)).1 (show mm_I tys f37 (ad 9) 4 (upd (G 9) i0 (nI ((sz σ i0) + 1))) from (hD38.1.2 9 (by decide)).2) (vp_in_nI (show i0 < 4 by omega) (by omega)) dM_statement_292 ?_
          rw [nI_clamp (by omega)]
          rw [pk_us]
          refine lv_iconst (v := nI 1) hx hb dM_statement_293 (by decide) ?_
          refine lv_isub hx hb dM_statement_294 ?_
          rw [nI_sub1 (by omega)]
          refine ret_i C0 hP hS ⟨nI 0, ha39, Or.inr ⟨nb_f c9, c23, fun i2 e2 h2 => Or.inr (Or.inr ?_)⟩⟩ dM_statement_295
          obtain rfl := (nI_eq (by omega) (by omega)).mp e2
          refine ⟨c43, (q_rm_iff hz16 h6n).mpr ⟨hlt, fun z => absurd z (by decide +kernel)⟩, rfl, rfl, ?_⟩
          exact MdI.eqG ⟨_, _, _, _, _, _, ka, kc, _, _, _, hfe, hka, hkc, hD38⟩ (fun k2 hk2 => by
            rcases (show k2 = 0 ∨ k2 = 1 ∨ k2 = 2 ∨ k2 = 3 ∨ k2 = 4 ∨ k2 = 5 ∨ k2 = 6 ∨ k2 = 7 ∨ k2 = 8 ∨ k2 = 9 ∨ k2 = 10 ∨ k2 = 11 ∨ k2 = 12 ∨ k2 = 13 ∨ k2 = 14 ∨ k2 = 15 by omega) with e | e | e | e | e | e | e | e | e | e | e | e | e | e | e | e <;> subst e <;> rfl)
      · have c43 : (m_hw σ i0 (nI 6) a b cr && m_op (oi i0) (G 11 (tm i0)) (nI 6)) = false := kb_0.mp c43
        refine lv_aload_n hx hb dM_statement_46 rfl (lv_at hl 0 rfl) ?_
        refine lv_iconst (v := nI 2) hx hb dM_statement_47 (by decide) ?_
        refine then_i (run_V (n := 1) (As := [.int (nI 2)]) (rest := []) C0 (m_raise hn hD2) gw700 gw697 gw699 gsM_raise gw7 (by decide +kernel) ⟨Nat.le_of_ble_eq_true rfl, Nat.le_of_ble_eq_true rfl⟩ rfl rfl ⟨Nat.le_of_ble_eq_true rfl, Nat.le_of_ble_eq_true rfl⟩ hP hD2.1.1.1 hD2.2.1 rfl rfl rfl hl.1 rfl (Nat.le_of_ble_eq_true rfl) dM_statement_48) hS hA (fun r41 f40 H locs hq48 hP hS => ?_)
        obtain ⟨hr42, hD42, hs42⟩ := hq48
        have ha42 := ha3.trans (SmA.of3 (Sm3.ofO hs42))
        refine ret_i C0 hP hS ⟨nI 2, ha42, Or.inr ⟨nb_f c9, c23, fun i2 e2 h2 => Or.inl ?_⟩⟩ dM_statement_51
        obtain rfl := (nI_eq (by omega) (by omega)).mp e2
        exact ⟨c43, rfl, ⟨_, _, _, _, _, _, ka, kc, _, _, _, hfe, hka, hkc, hD42⟩⟩
    · have c23 : (q_st (nI 6) a b cr k) = false := kb_0.mp c23
      refine lv_aload_n hx hb dM_statement_26 rfl (lv_at hl 0 rfl) ?_
      refine lv_iconst (v := nI 1) hx hb dM_statement_27 (by decide) ?_
      refine then_i (run_V (n := 1) (As := [.int (nI 1)]) (rest := []) C0 (m_raise hn hD2) gw700 gw697 gw699 gsM_raise gw7 (by decide +kernel) ⟨Nat.le_of_ble_eq_true rfl, Nat.le_of_ble_eq_true rfl⟩ rfl rfl ⟨Nat.le_of_ble_eq_true rfl, Nat.le_of_ble_eq_true rfl⟩ hP hD2.1.1.1 hD2.2.1 rfl rfl rfl hl.1 rfl (Nat.le_of_ble_eq_true rfl) dM_statement_28) hS hA (fun r44 f43 H locs hq28 hP hS => ?_)
      obtain ⟨hr45, hD45, hs45⟩ := hq28
      have ha45 := ha3.trans (SmA.of3 (Sm3.ofO hs45))
      exact ret_i C0 hP hS ⟨_, ha45, Or.inl ⟨by rw [c23]; cases q_fn x <;> rfl, rfl, ⟨_, _, _, _, _, _, ka, kc, _, _, _, hfe, hka, hkc, hD45⟩⟩⟩ dM_statement_31
set_option maxRecDepth 100000 in
set_option maxHeartbeats 4000000 in
theorem m_statement_7 {l : Launch} {D : va_G} {tys : List (ClassId × FieldType)} {L : List Nat} {f : Nat → va_E} (hn : L.Nodup) {mo ap cm : Nat} {ad : Nat → Nat} {G : Nat → Nat → Int32} {th : Int32} {σ : Sg} {x a b cr k : Int32} {oi ni tm : Nat → Nat} (hoi : ∀ i, i < 4 → G 15 i = nI (oi i) ∧ oi i ≤ ni i) (hni : ∀ i, i < 4 → G 13 i = nI (ni i) ∧ ni i ≤ 6) (htm : ∀ i, i < 4 → 0 < oi i → G 14 (6 * i + oi i - 1) = nI (tm i) ∧ tm i < 64) (hinj : ∀ i j, i < 16 → j < 16 → i ≠ j → ad i ≠ ad j) (hO : MOk σ G) (hI0 : MdI tys L f mo ap cm ad G th) : MetI l yM_statement wM_statement ({ frames := 3, cells := 0, slots := 0, locals := 68 } : Room) D tys L f [.ref mo, .int x, .int (nI 7), .int a, .int b, .int cr, .int k] (fun r f' => ∃ t, SmA f f' mo ap cm ad ∧ (((q_fn x && q_st (nI 7) a b cr k) = false ∧ t = nI 1 ∧ MdI tys L f' mo ap cm ad G t) ∨ (q_fn x = true ∧ q_st (nI 7) a b cr k = true ∧ ∀ i, x = nI i → i < 4 → (((m_hw σ i (nI 7) a b cr && m_op (oi i) (G 11 (tm i)) (nI 7)) = false ∧ t = nI 2 ∧ MdI tys L f' mo ap cm ad G t) ∨ ((m_hw σ i (nI 7) a b cr && m_op (oi i) (G 11 (tm i)) (nI 7)) = true ∧ q_rm (sz σ i) (ni i) (nI 7) = false ∧ t = nI 3 ∧ MdI tys L f' mo ap cm ad G t) ∨ ((m_hw σ i (nI 7) a b cr && m_op (oi i) (G 11 (tm i)) (nI 7)) = true ∧ q_rm (sz σ i) (ni i) (nI 7) = true ∧ t = nI 0 ∧ r = nI (sz σ i) ∧ MdI tys L f' mo ap cm ad (m_Gs G i (sz σ i) (oi i) (ni i) (tm i) 7 a b cr k) t))))) := by
  refine met_of "LiquidCheckerModel" (by decide) rfl (Nat.le_of_ble_eq_true rfl) ?_
  intro pgm e s m below meth c ls C0 hP hl
  obtain ⟨hx, hb, hml, hown, hg, hr, hlocks, hK, hN⟩ := id C0
  have hA : ∀ a ∈ L, inL L a := fun _ h => h
  obtain ⟨H, hH⟩ : ∃ z, z = s.heap := ⟨_, rfl⟩
  rw [← hH] at hP ⊢
  have hS : va_S (inL L) s.heap H [] := by rw [hH]; exact va_S.rf
  have hl : lv_has ls 9 [(0, .ref mo), (1, .int x), (2, .int (nI 7)), (3, .int a), (4, .int b), (5, .int cr), (6, .int k)] := hl
  obtain ⟨fe, me, fu, le, en, sp, ka, kc, mx, se, gc, hfe, hka, hkc, hD⟩ := hI0
  obtain ⟨hM, hRl, h3d, hW⟩ := hO
  refine lv_aload_n hx hb dM_statement_0 rfl (lv_at hl 0 rfl) ?_
  refine lv_iconst (v := nI 0) hx hb dM_statement_1 (by decide) ?_
  refine mm_put (v := .int (nI 0)) (ty := .int) hx hb hg inM tyM tyM_ok nmM hown hK hn hA hP hS hD.1.1.1 (show f mo = .inr (6, [.int th, .ref (ad 0), .ref (ad 1), .ref (ad 2), .ref (ad 3), .ref (ad 4), .ref (ad 5), .ref (ad 6), .ref (ad 7), .ref (ad 8), .ref (ad 9), .ref (ad 10), .ref (ad 11), .ref (ad 12), .ref (ad 13), .ref (ad 14), .ref (ad 15), .ref ap, .int fe, .int me, .int fu, .int le, .int en, .ref cm, .int sp, .int (nI ka), .int (nI kc), .long mx, .int se]) from hD.2.1) rfl 0 (by decide) (hg _ gw593) (fun _ h9 => h9) rfl (by decide +kernel) rfl rfl (Nat.le_of_ble_eq_true rfl) dM_statement_2 (fun H locs hP hS => ?_)
  obtain ⟨f1, hf1⟩ : ∃ z, z = va_up f mo (.inr (6, [.int (nI 0), .ref (ad 0), .ref (ad 1), .ref (ad 2), .ref (ad 3), .ref (ad 4), .ref (ad 5), .ref (ad 6), .ref (ad 7), .ref (ad 8), .ref (ad 9), .ref (ad 10), .ref (ad 11), .ref (ad 12), .ref (ad 13), .ref (ad 14), .ref (ad 15), .ref ap, .int fe, .int me, .int fu, .int le, .int en, .ref cm, .int sp, .int (nI ka), .int (nI kc), .long mx, .int se])) := ⟨_, rfl⟩
  have hP : va_P D zCl (va_pl L f1) H := by rw [hf1]; exact hP
  have hs2 : Same1 f f1 mo := fun z hz => by rw [hf1, va_up_ne _ _ hz]
  have hD2 : MD tys L f1 mo ap cm ad G (nI 0) fe me fu le en sp (nI ka) (nI kc) mx se gc := hD.updO (by rw [hf1]; exact va_up_self _ _ _) hs2
  have ha3 : SmA f _ mo ap cm ad := SmA.of3 (Sm3.ofO hs2)
  refine lv_iload_n hx hb dM_statement_5 rfl (lv_at hl 1 rfl) ?_
  refine then_i (run_S (n := 1) (As := [.int x]) (rest := []) C0 (m_noFunction hn) gw693 gw691 gw692 gw7 (by decide +kernel) ⟨Nat.le_of_ble_eq_true rfl, Nat.le_of_ble_eq_true rfl⟩ rfl rfl ⟨Nat.le_of_ble_eq_true rfl, Nat.le_of_ble_eq_true rfl⟩ hP rfl hl.1 rfl (Nat.le_of_ble_eq_true rfl) dM_statement_6) hS hA (fun r5 f4 H locs hq6 hP hS => ?_)
  obtain ⟨er5, ef4⟩ := hq6
  subst er5
  rw [ef4] at hP
  refine lv_if_ne (tgt := 26) hx hb dM_statement_9 (by decide) (fun c9 => ?_) (fun c9 => ?_)
  · have c9 : (!q_fn x) = true := kb_t.mp c9
    refine lv_aload_n hx hb dM_statement_26 rfl (lv_at hl 0 rfl) ?_
    refine lv_iconst (v := nI 1) hx hb dM_statement_27 (by decide) ?_
    refine then_i (run_V (n := 1) (As := [.int (nI 1)]) (rest := []) C0 (m_raise hn hD2) gw700 gw697 gw699 gsM_raise gw7 (by decide +kernel) ⟨Nat.le_of_ble_eq_true rfl, Nat.le_of_ble_eq_true rfl⟩ rfl rfl ⟨Nat.le_of_ble_eq_true rfl, Nat.le_of_ble_eq_true rfl⟩ hP hD2.1.1.1 hD2.2.1 rfl rfl rfl hl.1 rfl (Nat.le_of_ble_eq_true rfl) dM_statement_28) hS hA (fun r7 f6 H locs hq28 hP hS => ?_)
    obtain ⟨hr8, hD8, hs8⟩ := hq28
    have ha8 := ha3.trans (SmA.of3 (Sm3.ofO hs8))
    exact ret_i C0 hP hS ⟨_, ha8, Or.inl ⟨by rw [nb_t c9]; rfl, rfl, ⟨_, _, _, _, _, _, ka, kc, _, _, _, hfe, hka, hkc, hD8⟩⟩⟩ dM_statement_31
  · have c9 : (!q_fn x) = false := kb_0.mp c9
    refine lv_iload_n hx hb dM_statement_12 rfl (lv_at hl 2 rfl) ?_
    refine lv_iload_n hx hb dM_statement_13 rfl (lv_at hl 3 rfl) ?_
    refine lv_iload hx hb dM_statement_14 (lv_at hl 4 rfl) ?_
    refine lv_iload hx hb dM_statement_16 (lv_at hl 5 rfl) ?_
    refine lv_iload hx hb dM_statement_18 (lv_at hl 6 rfl) ?_
    refine then_i (run_S (n := 5) (As := [.int (nI 7), .int a, .int b, .int cr, .int k]) (rest := []) C0 (m_fits hn) gw707 gw705 gw706 gw7 (by decide +kernel) ⟨Nat.le_of_ble_eq_true rfl, Nat.le_of_ble_eq_true rfl⟩ rfl rfl ⟨Nat.le_of_ble_eq_true rfl, Nat.le_of_ble_eq_true rfl⟩ hP rfl hl.1 rfl (Nat.le_of_ble_eq_true rfl) dM_statement_20) hS hA (fun r10 f9 H locs hq20 hP hS => ?_)
    obtain ⟨er10, ef9⟩ := hq20
    subst er10
    rw [ef9] at hP
    refine lv_if_ne (tgt := 32) hx hb dM_statement_23 (by decide) (fun c23 => ?_) (fun c23 => ?_)
    · have c23 : (q_st (nI 7) a b cr k) = true := kb_t.mp c23
      obtain ⟨i0, hi0, rfl⟩ := q_fn_nI (nb_f c9)
      have hz16 := (hW i0 hi0).2.1.1
      have h6n := (hni i0 hi0).2
      have hon := (hoi i0 hi0).2
      refine lv_aload_n hx hb dM_statement_32 rfl (lv_at hl 0 rfl) ?_
      refine lv_iload_n hx hb dM_statement_33 rfl (lv_at hl 1 rfl) ?_
      refine lv_iload_n hx hb dM_statement_34 rfl (lv_at hl 2 rfl) ?_
      refine lv_iload_n hx hb dM_statement_35 rfl (lv_at hl 3 rfl) ?_
      refine lv_iload hx hb dM_statement_36 (lv_at hl 4 rfl) ?_
      refine lv_iload hx hb dM_statement_38 (lv_at hl 5 rfl) ?_
      refine then_i (run_V (n := 5) (As := [.int (nI i0), .int (nI 7), .int a, .int b, .int cr]) (rest := []) C0 (m_stands_7 hn hi0 hz16 hM (hoi i0 hi0).1 (by omega) (htm i0 hi0) hD2) gw714 gw711 gw713 gsM_stands gw7 (by decide +kernel) ⟨Nat.le_of_ble_eq_true rfl, Nat.le_of_ble_eq_true rfl⟩ rfl rfl ⟨Nat.le_of_ble_eq_true rfl, Nat.le_of_ble_eq_true rfl⟩ hP hD2.1.1.1 hD2.2.1 rfl rfl rfl hl.1 rfl (Nat.le_of_ble_eq_true rfl) dM_statement_40) hS hA (fun r12 f11 H locs hq40 hP hS => ?_)
      obtain ⟨er12, ef11⟩ := hq40
      subst er12
      rw [ef11] at hP
      refine lv_if_ne (tgt := 52) hx hb dM_statement_43 (by decide) (fun c43 => ?_) (fun c43 => ?_)
      · have c43 : (m_hw σ i0 (nI 7) a b cr && m_op (oi i0) (G 11 (tm i0)) (nI 7)) = true := kb_t.mp c43
        refine lv_aload_n hx hb dM_statement_52 rfl (lv_at hl 0 rfl) ?_
        refine mm_get (v := .ref (ad 9)) hx hb hg inM hown hK hP hD2.1.1.1 hD2.2.1 rfl 10 (by decide) (hg _ gw603) (fun _ h9 => h9) rfl dM_statement_53 ?_
        refine lv_iload_n hx hb dM_statement_56 rfl (lv_at hl 1 rfl) ?_
        refine mm_iald hx hb hK hP (hD2.1.2 9 (by decide)).1 (show mm_I tys f1 (ad 9) 4 (G 9) from (hD2.1.2 9 (by decide)).2) (vp_in_nI (show i0 < 4 by omega) (by omega)) dM_statement_57 ?_
        rw [nI_clamp (by omega)]
        rw [hM.2.2.2 i0 hi0]
        refine lv_bipush (v := nI 16) hx hb dM_statement_58 (by decide) ?_
        refine lv_icmp_eq (tgt := 79) hx hb dM_statement_60 (by decide) (fun c60 => ?_) (fun c60 => ?_)
        · refine lv_aload_n hx hb dM_statement_79 rfl (lv_at hl 0 rfl) ?_
          refine lv_iconst (v := nI 3) hx hb dM_statement_80 (by decide) ?_
          refine then_i (run_V (n := 1) (As := [.int (nI 3)]) (rest := []) C0 (m_raise hn hD2) gw700 gw697 gw699 gsM_raise gw7 (by decide +kernel) ⟨Nat.le_of_ble_eq_true rfl, Nat.le_of_ble_eq_true rfl⟩ rfl rfl ⟨Nat.le_of_ble_eq_true rfl, Nat.le_of_ble_eq_true rfl⟩ hP hD2.1.1.1 hD2.2.1 rfl rfl rfl hl.1 rfl (Nat.le_of_ble_eq_true rfl) dM_statement_81) hS hA (fun r14 f13 H locs hq81 hP hS => ?_)
          obtain ⟨hr15, hD15, hs15⟩ := hq81
          have ha15 := ha3.trans (SmA.of3 (Sm3.ofO hs15))
          refine ret_i C0 hP hS ⟨nI 3, ha15, Or.inr ⟨nb_f c9, c23, fun i2 e2 h2 => Or.inr (Or.inl ?_)⟩⟩ dM_statement_84
          obtain rfl := (nI_eq (by omega) (by omega)).mp e2
          refine ⟨c43, ?_, rfl, ⟨_, _, _, _, _, _, ka, kc, _, _, _, hfe, hka, hkc, hD15⟩⟩
          cases e9 : q_rm (sz σ i0) (ni i0) (nI 7) with
          | false => rfl
          | true =>
            have e8 := (q_rm_iff hz16 h6n).mp e9
            have e6 := (nI_eq (by omega) (by omega)).mp c60
            omega
        · refine lv_iload_n hx hb dM_statement_63 rfl (lv_at hl 2 rfl) ?_
          refine lv_iconst (v := nI 2) hx hb dM_statement_64 (by decide) ?_
          refine lv_icmp_ne (tgt := 85) hx hb dM_statement_65 (by decide) (fun c65 => ?_) (fun c65 => absurd c65 (by decide +kernel))
          have hlt : sz σ i0 < 16 := by have h9 : ¬ sz σ i0 = 16 := fun z => c60 (by rw [z]); omega
          refine lv_bipush (v := nI 16) hx hb dM_statement_85 (by decide) ?_
          refine lv_iload_n hx hb dM_statement_87 rfl (lv_at hl 1 rfl) ?_
          refine lv_imul hx hb dM_statement_88 ?_
          rw [pk_mul]
          refine lv_aload_n hx hb dM_statement_89 rfl (lv_at hl 0 rfl) ?_
          refine mm_get (v := .ref (ad 9)) hx hb hg inM hown hK hP hD2.1.1.1 hD2.2.1 rfl 10 (by decide) (hg _ gw603) (fun _ h9 => h9) rfl dM_statement_90 ?_
          refine lv_iload_n hx hb dM_statement_93 rfl (lv_at hl 1 rfl) ?_
          refine mm_iald hx hb hK hP (hD2.1.2 9 (by decide)).1 (show mm_I tys f1 (ad 9) 4 (G 9) from (hD2.1.2 9 (by decide)).2) (vp_in_nI (show i0 < 4 by omega) (by omega)) dM_statement_94 ?_
          rw [nI_clamp (by omega)]
          rw [hM.2.2.2 i0 hi0]
          refine lv_iadd hx hb dM_statement_95 ?_
          rw [nI_add]
          refine lv_istore (lv' := [(7, .int (nI ((16 * i0) + (sz σ i0)))), (0, .ref mo), (1, .int (nI i0)), (2, .int (nI 7)), (3, .int a), (4, .int b), (5, .int cr), (6, .int k)]) hx hb dM_statement_96 hl (by decide) rfl (fun ls hl => ?_)
          refine lv_aload_n hx hb dM_statement_98 rfl (lv_at hl 1 rfl) ?_
          refine mm_get (v := .ref (ad 4)) hx hb hg inM hown hK hP hD2.1.1.1 hD2.2.1 rfl 5 (by decide) (hg _ gw598) (fun _ h9 => h9) rfl dM_statement_99 ?_
          refine lv_iload hx hb dM_statement_102 (lv_at hl 0 rfl) ?_
          refine lv_iload_n hx hb dM_statement_104 rfl (lv_at hl 3 rfl) ?_
          refine mm_iast hx hb hK hn hA hP hS (hD2.1.2 4 (by decide)).1 (show mm_I tys f1 (ad 4) 64 (G 4) from (hD2.1.2 4 (by decide)).2) (vp_in_nI (show (16 * i0) + (sz σ i0) < 64 by omega) (by omega)) dM_statement_105 (fun H locs hP hS => ?_)
          rw [nI_clamp (by omega)] at hP
          obtain ⟨f16, hf16⟩ : ∃ z, z = mm_si f1 (ad 4) (upd (G 4) ((16 * i0) + (sz σ i0)) (nI 7)) := ⟨_, rfl⟩
          have hP : va_P D zCl (va_pl L f16) H := by rw [hf16]; exact hP
          have hs17 : Same1 f1 f16 (ad 4) := fun z hz => by rw [hf16, mm_si_ne hz]
          have hD17 : MD tys L f16 mo ap cm ad (fun j => if j = 4 then upd (G 4) ((16 * i0) + (sz σ i0)) (nI 7) else G j) (nI 0) fe me fu le en sp (nI ka) (nI kc) mx se gc := hD2.updA hinj (k := 4) (by decide) (by rw [hf16]; exact (show mm_I tys f1 (ad 4) 64 (G 4) from (hD2.1.2 4 (by decide)).2).set) hs17
          have ha18 := ha3.trans (SmA.of1 (k := 4) (by decide) hs17)
          refine lv_aload_n hx hb dM_statement_106 rfl (lv_at hl 1 rfl) ?_
          refine mm_get (v := .ref (ad 5)) hx hb hg inM hown hK hP hD17.1.1.1 hD17.2.1 rfl 6 (by decide) (hg _ gw599) (fun _ h9 => h9) rfl dM_statement_107 ?_
          refine lv_iload hx hb dM_statement_110 (lv_at hl 0 rfl) ?_
          refine lv_iload_n hx hb dM_statement_112 rfl (lv_at hl 4 rfl) ?_
          refine mm_iast hx hb hK hn hA hP hS (hD17.1.2 5 (by decide)).1 (show mm_I tys f16 (ad 5) 64 (G 5) from (hD17.1.2 5 (by decide)).2) (vp_in_nI (show (16 * i0) + (sz σ i0) < 64 by omega) (by omega)) dM_statement_113 (fun H locs hP hS => ?_)
          rw [nI_clamp (by omega)] at hP
          obtain ⟨f19, hf19⟩ : ∃ z, z = mm_si f16 (ad 5) (upd (G 5) ((16 * i0) + (sz σ i0)) a) := ⟨_, rfl⟩
          have hP : va_P D zCl (va_pl L f19) H := by rw [hf19]; exact hP
          have hs20 : Same1 f16 f19 (ad 5) := fun z hz => by rw [hf19, mm_si_ne hz]
          have hD20 : MD tys L f19 mo ap cm ad (fun j => if j = 5 then upd (G 5) ((16 * i0) + (sz σ i0)) a else (fun j => if j = 4 then upd (G 4) ((16 * i0) + (sz σ i0)) (nI 7) else G j) j) (nI 0) fe me fu le en sp (nI ka) (nI kc) mx se gc := hD17.updA hinj (k := 5) (by decide) (by rw [hf19]; exact (show mm_I tys f16 (ad 5) 64 (G 5) from (hD17.1.2 5 (by decide)).2).set) hs20
          have ha21 := ha18.trans (SmA.of1 (k := 5) (by decide) hs20)
          refine lv_aload_n hx hb dM_statement_114 rfl (lv_at hl 1 rfl) ?_
          refine mm_get (v := .ref (ad 6)) hx hb hg inM hown hK hP hD20.1.1.1 hD20.2.1 rfl 7 (by decide) (hg _ gw600) (fun _ h9 => h9) rfl dM_statement_115 ?_
          refine lv_iload hx hb dM_statement_118 (lv_at hl 0 rfl) ?_
          refine lv_iload hx hb dM_statement_120 (lv_at hl 5 rfl) ?_
          refine mm_iast hx hb hK hn hA hP hS (hD20.1.2 6 (by decide)).1 (show mm_I tys f19 (ad 6) 64 (G 6) from (hD20.1.2 6 (by decide)).2) (vp_in_nI (show (16 * i0) + (sz σ i0) < 64 by omega) (by omega)) dM_statement_122 (fun H locs hP hS => ?_)
          rw [nI_clamp (by omega)] at hP
          obtain ⟨f22, hf22⟩ : ∃ z, z = mm_si f19 (ad 6) (upd (G 6) ((16 * i0) + (sz σ i0)) b) := ⟨_, rfl⟩
          have hP : va_P D zCl (va_pl L f22) H := by rw [hf22]; exact hP
          have hs23 : Same1 f19 f22 (ad 6) := fun z hz => by rw [hf22, mm_si_ne hz]
          have hD23 : MD tys L f22 mo ap cm ad (fun j => if j = 6 then upd (G 6) ((16 * i0) + (sz σ i0)) b else (fun j => if j = 5 then upd (G 5) ((16 * i0) + (sz σ i0)) a else (fun j => if j = 4 then upd (G 4) ((16 * i0) + (sz σ i0)) (nI 7) else G j) j) j) (nI 0) fe me fu le en sp (nI ka) (nI kc) mx se gc := hD20.updA hinj (k := 6) (by decide) (by rw [hf22]; exact (show mm_I tys f19 (ad 6) 64 (G 6) from (hD20.1.2 6 (by decide)).2).set) hs23
          have ha24 := ha21.trans (SmA.of1 (k := 6) (by decide) hs23)
          refine lv_aload_n hx hb dM_statement_123 rfl (lv_at hl 1 rfl) ?_
          refine mm_get (v := .ref (ad 7)) hx hb hg inM hown hK hP hD23.1.1.1 hD23.2.1 rfl 8 (by decide) (hg _ gw601) (fun _ h9 => h9) rfl dM_statement_124 ?_
          refine lv_iload hx hb dM_statement_127 (lv_at hl 0 rfl) ?_
          refine lv_iload hx hb dM_statement_129 (lv_at hl 6 rfl) ?_
          refine mm_iast hx hb hK hn hA hP hS (hD23.1.2 7 (by decide)).1 (show mm_I tys f22 (ad 7) 64 (G 7) from (hD23.1.2 7 (by decide)).2) (vp_in_nI (show (16 * i0) + (sz σ i0) < 64 by omega) (by omega)) dM_statement_131 (fun H locs hP hS => ?_)
          rw [nI_clamp (by omega)] at hP
          obtain ⟨f25, hf25⟩ : ∃ z, z = mm_si f22 (ad 7) (upd (G 7) ((16 * i0) + (sz σ i0)) cr) := ⟨_, rfl⟩
          have hP : va_P D zCl (va_pl L f25) H := by rw [hf25]; exact hP
          have hs26 : Same1 f22 f25 (ad 7) := fun z hz => by rw [hf25, mm_si_ne hz]
          have hD26 : MD tys L f25 mo ap cm ad (fun j => if j = 7 then upd (G 7) ((16 * i0) + (sz σ i0)) cr else (fun j => if j = 6 then upd (G 6) ((16 * i0) + (sz σ i0)) b else (fun j => if j = 5 then upd (G 5) ((16 * i0) + (sz σ i0)) a else (fun j => if j = 4 then upd (G 4) ((16 * i0) + (sz σ i0)) (nI 7) else G j) j) j) j) (nI 0) fe me fu le en sp (nI ka) (nI kc) mx se gc := hD23.updA hinj (k := 7) (by decide) (by rw [hf25]; exact (show mm_I tys f22 (ad 7) 64 (G 7) from (hD23.1.2 7 (by decide)).2).set) hs26
          have ha27 := ha24.trans (SmA.of1 (k := 7) (by decide) hs26)
          refine lv_aload_n hx hb dM_statement_132 rfl (lv_at hl 1 rfl) ?_
          refine mm_get (v := .ref (ad 8)) hx hb hg inM hown hK hP hD26.1.1.1 hD26.2.1 rfl 9 (by decide) (hg _ gw602) (fun _ h9 => h9) rfl dM_statement_133 ?_
          refine lv_iload hx hb dM_statement_136 (lv_at hl 0 rfl) ?_
          refine lv_iload hx hb dM_statement_138 (lv_at hl 7 rfl) ?_
          refine mm_iast hx hb hK hn hA hP hS (hD26.1.2 8 (by decide)).1 (show mm_I tys f25 (ad 8) 64 (G 8) from (hD26.1.2 8 (by decide)).2) (vp_in_nI (show (16 * i0) + (sz σ i0) < 64 by omega) (by omega)) dM_statement_140 (fun H locs hP hS => ?_)
          rw [nI_clamp (by omega)] at hP
          obtain ⟨f28, hf28⟩ : ∃ z, z = mm_si f25 (ad 8) (upd (G 8) ((16 * i0) + (sz σ i0)) k) := ⟨_, rfl⟩
          have hP : va_P D zCl (va_pl L f28) H := by rw [hf28]; exact hP
          have hs29 : Same1 f25 f28 (ad 8) := fun z hz => by rw [hf28, mm_si_ne hz]
          have hD29 : MD tys L f28 mo ap cm ad (fun j => if j = 8 then upd (G 8) ((16 * i0) + (sz σ i0)) k else (fun j => if j = 7 then upd (G 7) ((16 * i0) + (sz σ i0)) cr else (fun j => if j = 6 then upd (G 6) ((16 * i0) + (sz σ i0)) b else (fun j => if j = 5 then upd (G 5) ((16 * i0) + (sz σ i0)) a else (fun j => if j = 4 then upd (G 4) ((16 * i0) + (sz σ i0)) (nI 7) else G j) j) j) j) j) (nI 0) fe me fu le en sp (nI ka) (nI kc) mx se gc := hD26.updA hinj (k := 8) (by decide) (by rw [hf28]; exact (show mm_I tys f25 (ad 8) 64 (G 8) from (hD26.1.2 8 (by decide)).2).set) hs29
          have ha30 := ha27.trans (SmA.of1 (k := 8) (by decide) hs29)
          refine lv_aload_n hx hb dM_statement_141 rfl (lv_at hl 1 rfl) ?_
          refine mm_get (v := .ref (ad 11)) hx hb hg inM hown hK hP hD29.1.1.1 hD29.2.1 rfl 12 (by decide) (hg _ gw605) (fun _ h9 => h9) rfl dM_statement_142 ?_
          refine lv_iload hx hb dM_statement_145 (lv_at hl 0 rfl) ?_
          refine lv_iconst (v := (-1)) hx hb dM_statement_147 (by decide) ?_
          refine mm_iast hx hb hK hn hA hP hS (hD29.1.2 11 (by decide)).1 (show mm_I tys f28 (ad 11) 64 (G 11) from (hD29.1.2 11 (by decide)).2) (vp_in_nI (show (16 * i0) + (sz σ i0) < 64 by omega) (by omega)) dM_statement_148 (fun H locs hP hS => ?_)
          rw [nI_clamp (by omega)] at hP
          obtain ⟨f31, hf31⟩ : ∃ z, z = mm_si f28 (ad 11) (upd (G 11) ((16 * i0) + (sz σ i0)) (-1)) := ⟨_, rfl⟩
          have hP : va_P D zCl (va_pl L f31) H := by rw [hf31]; exact hP
          have hs32 : Same1 f28 f31 (ad 11) := fun z hz => by rw [hf31, mm_si_ne hz]
          have hD32 : MD tys L f31 mo ap cm ad (fun j => if j = 11 then upd (G 11) ((16 * i0) + (sz σ i0)) (-1) else (fun j => if j = 8 then upd (G 8) ((16 * i0) + (sz σ i0)) k else (fun j => if j = 7 then upd (G 7) ((16 * i0) + (sz σ i0)) cr else (fun j => if j = 6 then upd (G 6) ((16 * i0) + (sz σ i0)) b else (fun j => if j = 5 then upd (G 5) ((16 * i0) + (sz σ i0)) a else (fun j => if j = 4 then upd (G 4) ((16 * i0) + (sz σ i0)) (nI 7) else G j) j) j) j) j) j) (nI 0) fe me fu le en sp (nI ka) (nI kc) mx se gc := hD29.updA hinj (k := 11) (by decide) (by rw [hf31]; exact (show mm_I tys f28 (ad 11) 64 (G 11) from (hD29.1.2 11 (by decide)).2).set) hs32
          have ha33 := ha30.trans (SmA.of1 (k := 11) (by decide) hs32)
          refine lv_aload_n hx hb dM_statement_149 rfl (lv_at hl 1 rfl) ?_
          refine mm_get (v := .ref (ad 12)) hx hb hg inM hown hK hP hD32.1.1.1 hD32.2.1 rfl 13 (by decide) (hg _ gw606) (fun _ h9 => h9) rfl dM_statement_150 ?_
          refine lv_iload hx hb dM_statement_153 (lv_at hl 0 rfl) ?_
          refine lv_iconst (v := (-1)) hx hb dM_statement_155 (by decide) ?_
          refine mm_iast hx hb hK hn hA hP hS (hD32.1.2 12 (by decide)).1 (show mm_I tys f31 (ad 12) 64 (G 12) from (hD32.1.2 12 (by decide)).2) (vp_in_nI (show (16 * i0) + (sz σ i0) < 64 by omega) (by omega)) dM_statement_156 (fun H locs hP hS => ?_)
          rw [nI_clamp (by omega)] at hP
          obtain ⟨f34, hf34⟩ : ∃ z, z = mm_si f31 (ad 12) (upd (G 12) ((16 * i0) + (sz σ i0)) (-1)) := ⟨_, rfl⟩
          have hP : va_P D zCl (va_pl L f34) H := by rw [hf34]; exact hP
          have hs35 : Same1 f31 f34 (ad 12) := fun z hz => by rw [hf34, mm_si_ne hz]
          have hD35 : MD tys L f34 mo ap cm ad (fun j => if j = 12 then upd (G 12) ((16 * i0) + (sz σ i0)) (-1) else (fun j => if j = 11 then upd (G 11) ((16 * i0) + (sz σ i0)) (-1) else (fun j => if j = 8 then upd (G 8) ((16 * i0) + (sz σ i0)) k else (fun j => if j = 7 then upd (G 7) ((16 * i0) + (sz σ i0)) cr else (fun j => if j = 6 then upd (G 6) ((16 * i0) + (sz σ i0)) b else (fun j => if j = 5 then upd (G 5) ((16 * i0) + (sz σ i0)) a else (fun j => if j = 4 then upd (G 4) ((16 * i0) + (sz σ i0)) (nI 7) else G j) j) j) j) j) j) j) (nI 0) fe me fu le en sp (nI ka) (nI kc) mx se gc := hD32.updA hinj (k := 12) (by decide) (by rw [hf34]; exact (show mm_I tys f31 (ad 12) 64 (G 12) from (hD32.1.2 12 (by decide)).2).set) hs35
          have ha36 := ha33.trans (SmA.of1 (k := 12) (by decide) hs35)
          refine lv_bipush (v := nI 6) hx hb dM_statement_157 (by decide) ?_
          refine lv_iload_n hx hb dM_statement_159 rfl (lv_at hl 2 rfl) ?_
          refine lv_imul hx hb dM_statement_160 ?_
          rw [pk_mul]
          refine lv_aload_n hx hb dM_statement_161 rfl (lv_at hl 1 rfl) ?_
          refine mm_get (v := .ref (ad 15)) hx hb hg inM hown hK hP hD35.1.1.1 hD35.2.1 rfl 16 (by decide) (hg _ gw609) (fun _ h9 => h9) rfl dM_statement_162 ?_
          refine lv_iload_n hx hb dM_statement_165 rfl (lv_at hl 2 rfl) ?_
          refine mm_iald hx hb hK hP (hD35.1.2 15 (by decide)).1 (show mm_I tys f34 (ad 15) 4 (G 15) from (hD35.1.2 15 (by decide)).2) (vp_in_nI (show i0 < 4 by omega) (by omega)) dM_statement_166 ?_
          rw [nI_clamp (by omega)]
          rw [(hoi i0 hi0).1]
          refine lv_iadd hx hb dM_statement_167 ?_
          rw [nI_add]
          refine lv_istore (lv' := [(8, .int (nI ((6 * i0) + (oi i0)))), (7, .int (nI ((16 * i0) + (sz σ i0)))), (0, .ref mo), (1, .int (nI i0)), (2, .int (nI 7)), (3, .int a), (4, .int b), (5, .int cr), (6, .int k)]) hx hb dM_statement_168 hl (by decide) rfl (fun ls hl => ?_)
          refine lv_iload_n hx hb dM_statement_170 rfl (lv_at hl 4 rfl) ?_
          refine lv_iconst (v := nI 2) hx hb dM_statement_171 (by decide) ?_
          refine lv_icmp_ne (tgt := 217) hx hb dM_statement_172 (by decide) (fun c172 => ?_) (fun c172 => absurd c172 (by decide +kernel))
          refine lv_iload_n hx hb dM_statement_217 rfl (lv_at hl 4 rfl) ?_
          refine lv_iconst (v := nI 3) hx hb dM_statement_218 (by decide) ?_
          refine lv_icmp_ne (tgt := 242) hx hb dM_statement_219 (by decide) (fun c219 => ?_) (fun c219 => absurd c219 (by decide +kernel))
          refine lv_iload_n hx hb dM_statement_242 rfl (lv_at hl 4 rfl) ?_
          refine lv_iconst (v := nI 4) hx hb dM_statement_243 (by decide) ?_
          refine lv_icmp_ne (tgt := 277) hx hb dM_statement_244 (by decide) (fun c244 => ?_) (fun c244 => absurd c244 (by decide +kernel))
          refine lv_aload_n hx hb dM_statement_277 rfl (lv_at hl 2 rfl) ?_
          refine mm_get (v := .ref (ad 9)) hx hb hg inM hown hK hP hD35.1.1.1 hD35.2.1 rfl 10 (by decide) (hg _ gw603) (fun _ h9 => h9) rfl dM_statement_278 ?_
          refine lv_iload_n hx hb dM_statement_281 rfl (lv_at hl 3 rfl) ?_
          refine lv_dup2_11 hx hb dM_statement_282 rfl rfl ?_
          refine mm_iald hx hb hK hP (hD35.1.2 9 (by decide)).1 (show mm_I tys f34 (ad 9) 4 (G 9) from (hD35.1.2 9 (by decide)).2) (vp_in_nI (show i0 < 4 by omega) (by omega)) dM_statement_283 ?_
          rw [nI_clamp (by omega)]
          rw [hM.2.2.2 i0 hi0]
          refine lv_iconst (v := nI 1) hx hb dM_statement_284 (by decide) ?_
          refine lv_iadd hx hb dM_statement_285 ?_
          rw [nI_add]
          refine mm_iast hx hb hK hn hA hP hS (hD35.1.2 9 (by decide)).1 (show mm_I tys f34 (ad 9) 4 (G 9) from (hD35.1.2 9 (by decide)).2) (vp_in_nI (show i0 < 4 by omega) (by omega)) dM_statement_286 (fun H locs hP hS => ?_)
          rw [nI_clamp (by omega)] at hP
          obtain ⟨f37, hf37⟩ : ∃ z, z = mm_si f34 (ad 9) (upd (G 9) i0 (nI ((sz σ i0) + 1))) := ⟨_, rfl⟩
          have hP : va_P D zCl (va_pl L f37) H := by rw [hf37]; exact hP
          have hs38 : Same1 f34 f37 (ad 9) := fun z hz => by rw [hf37, mm_si_ne hz]
          have hD38 : MD tys L f37 mo ap cm ad (fun j => if j = 9 then upd (G 9) i0 (nI ((sz σ i0) + 1)) else (fun j => if j = 12 then upd (G 12) ((16 * i0) + (sz σ i0)) (-1) else (fun j => if j = 11 then upd (G 11) ((16 * i0) + (sz σ i0)) (-1) else (fun j => if j = 8 then upd (G 8) ((16 * i0) + (sz σ i0)) k else (fun j => if j = 7 then upd (G 7) ((16 * i0) + (sz σ i0)) cr else (fun j => if j = 6 then upd (G 6) ((16 * i0) + (sz σ i0)) b else (fun j => if j = 5 then upd (G 5) ((16 * i0) + (sz σ i0)) a else (fun j => if j = 4 then upd (G 4) ((16 * i0) + (sz σ i0)) (nI 7) else G j) j) j) j) j) j) j) j) (nI 0) fe me fu le en sp (nI ka) (nI kc) mx se gc := hD35.updA hinj (k := 9) (by decide) (by rw [hf37]; exact (show mm_I tys f34 (ad 9) 4 (G 9) from (hD35.1.2 9 (by decide)).2).set) hs38
          have ha39 := ha36.trans (SmA.of1 (k := 9) (by decide) hs38)
          refine lv_aload_n hx hb dM_statement_287 rfl (lv_at hl 2 rfl) ?_
          refine mm_get (v := .ref (ad 9)) hx hb hg inM hown hK hP hD38.1.1.1 hD38.2.1 rfl 10 (by decide) (hg _ gw603) (fun _ h9 => h9) rfl dM_statement_288 ?_
          refine lv_iload_n hx hb dM_statement_291 rfl (lv_at hl 3 rfl) ?_
          refine mm_iald hx hb hK hP (hD38.1.2 9 (by decide)).1 (show mm_I tys f37 (ad 9) 4 (upd (G 9) i0 (nI ((sz σ i0) + 1))) from (hD38.1.2 9 (by decide)).2) (vp_in_nI (show i0 < 4 by omega) (by omega)) dM_statement_292 ?_
          rw [nI_clamp (by omega)]
          rw [pk_us]
          refine lv_iconst (v := nI 1) hx hb dM_statement_293 (by decide) ?_
          refine lv_isub hx hb dM_statement_294 ?_
          rw [nI_sub1 (by omega)]
          refine ret_i C0 hP hS ⟨nI 0, ha39, Or.inr ⟨nb_f c9, c23, fun i2 e2 h2 => Or.inr (Or.inr ?_)⟩⟩ dM_statement_295
          obtain rfl := (nI_eq (by omega) (by omega)).mp e2
          refine ⟨c43, (q_rm_iff hz16 h6n).mpr ⟨hlt, fun z => absurd z (by decide +kernel)⟩, rfl, rfl, ?_⟩
          exact MdI.eqG ⟨_, _, _, _, _, _, ka, kc, _, _, _, hfe, hka, hkc, hD38⟩ (fun k2 hk2 => by
            rcases (show k2 = 0 ∨ k2 = 1 ∨ k2 = 2 ∨ k2 = 3 ∨ k2 = 4 ∨ k2 = 5 ∨ k2 = 6 ∨ k2 = 7 ∨ k2 = 8 ∨ k2 = 9 ∨ k2 = 10 ∨ k2 = 11 ∨ k2 = 12 ∨ k2 = 13 ∨ k2 = 14 ∨ k2 = 15 by omega) with e | e | e | e | e | e | e | e | e | e | e | e | e | e | e | e <;> subst e <;> rfl)
      · have c43 : (m_hw σ i0 (nI 7) a b cr && m_op (oi i0) (G 11 (tm i0)) (nI 7)) = false := kb_0.mp c43
        refine lv_aload_n hx hb dM_statement_46 rfl (lv_at hl 0 rfl) ?_
        refine lv_iconst (v := nI 2) hx hb dM_statement_47 (by decide) ?_
        refine then_i (run_V (n := 1) (As := [.int (nI 2)]) (rest := []) C0 (m_raise hn hD2) gw700 gw697 gw699 gsM_raise gw7 (by decide +kernel) ⟨Nat.le_of_ble_eq_true rfl, Nat.le_of_ble_eq_true rfl⟩ rfl rfl ⟨Nat.le_of_ble_eq_true rfl, Nat.le_of_ble_eq_true rfl⟩ hP hD2.1.1.1 hD2.2.1 rfl rfl rfl hl.1 rfl (Nat.le_of_ble_eq_true rfl) dM_statement_48) hS hA (fun r41 f40 H locs hq48 hP hS => ?_)
        obtain ⟨hr42, hD42, hs42⟩ := hq48
        have ha42 := ha3.trans (SmA.of3 (Sm3.ofO hs42))
        refine ret_i C0 hP hS ⟨nI 2, ha42, Or.inr ⟨nb_f c9, c23, fun i2 e2 h2 => Or.inl ?_⟩⟩ dM_statement_51
        obtain rfl := (nI_eq (by omega) (by omega)).mp e2
        exact ⟨c43, rfl, ⟨_, _, _, _, _, _, ka, kc, _, _, _, hfe, hka, hkc, hD42⟩⟩
    · have c23 : (q_st (nI 7) a b cr k) = false := kb_0.mp c23
      refine lv_aload_n hx hb dM_statement_26 rfl (lv_at hl 0 rfl) ?_
      refine lv_iconst (v := nI 1) hx hb dM_statement_27 (by decide) ?_
      refine then_i (run_V (n := 1) (As := [.int (nI 1)]) (rest := []) C0 (m_raise hn hD2) gw700 gw697 gw699 gsM_raise gw7 (by decide +kernel) ⟨Nat.le_of_ble_eq_true rfl, Nat.le_of_ble_eq_true rfl⟩ rfl rfl ⟨Nat.le_of_ble_eq_true rfl, Nat.le_of_ble_eq_true rfl⟩ hP hD2.1.1.1 hD2.2.1 rfl rfl rfl hl.1 rfl (Nat.le_of_ble_eq_true rfl) dM_statement_28) hS hA (fun r44 f43 H locs hq28 hP hS => ?_)
      obtain ⟨hr45, hD45, hs45⟩ := hq28
      have ha45 := ha3.trans (SmA.of3 (Sm3.ofO hs45))
      exact ret_i C0 hP hS ⟨_, ha45, Or.inl ⟨by rw [c23]; cases q_fn x <;> rfl, rfl, ⟨_, _, _, _, _, _, ka, kc, _, _, _, hfe, hka, hkc, hD45⟩⟩⟩ dM_statement_31
set_option maxRecDepth 100000 in
set_option maxHeartbeats 4000000 in
theorem m_statement_out {l : Launch} {D : va_G} {tys : List (ClassId × FieldType)} {L : List Nat} {f : Nat → va_E} (hn : L.Nodup) {mo ap cm : Nat} {ad : Nat → Nat} {G : Nat → Nat → Int32} {th : Int32} {σ : Sg} {x kd a b cr k : Int32} (hq : q_in kd (nI 0) (nI 7) = false) {oi ni tm : Nat → Nat} (hoi : ∀ i, i < 4 → G 15 i = nI (oi i) ∧ oi i ≤ ni i) (hni : ∀ i, i < 4 → G 13 i = nI (ni i) ∧ ni i ≤ 6) (htm : ∀ i, i < 4 → 0 < oi i → G 14 (6 * i + oi i - 1) = nI (tm i) ∧ tm i < 64) (hinj : ∀ i j, i < 16 → j < 16 → i ≠ j → ad i ≠ ad j) (hO : MOk σ G) (hI0 : MdI tys L f mo ap cm ad G th) : MetI l yM_statement wM_statement ({ frames := 3, cells := 0, slots := 0, locals := 68 } : Room) D tys L f [.ref mo, .int x, .int kd, .int a, .int b, .int cr, .int k] (fun r f' => ∃ t, SmA f f' mo ap cm ad ∧ (((q_fn x && q_st kd a b cr k) = false ∧ t = nI 1 ∧ MdI tys L f' mo ap cm ad G t) ∨ (q_fn x = true ∧ q_st kd a b cr k = true ∧ ∀ i, x = nI i → i < 4 → (((m_hw σ i kd a b cr && m_op (oi i) (G 11 (tm i)) kd) = false ∧ t = nI 2 ∧ MdI tys L f' mo ap cm ad G t) ∨ ((m_hw σ i kd a b cr && m_op (oi i) (G 11 (tm i)) kd) = true ∧ q_rm (sz σ i) (ni i) kd = false ∧ t = nI 3 ∧ MdI tys L f' mo ap cm ad G t) ∨ ((m_hw σ i kd a b cr && m_op (oi i) (G 11 (tm i)) kd) = true ∧ q_rm (sz σ i) (ni i) kd = true ∧ t = nI 0 ∧ r = nI (sz σ i) ∧ MdI tys L f' mo ap cm ad (m_Gs G i (sz σ i) (oi i) (ni i) (tm i) (nt kd) a b cr k) t))))) := by
  refine met_of "LiquidCheckerModel" (by decide) rfl (Nat.le_of_ble_eq_true rfl) ?_
  intro pgm e s m below meth c ls C0 hP hl
  obtain ⟨hx, hb, hml, hown, hg, hr, hlocks, hK, hN⟩ := id C0
  have hA : ∀ a ∈ L, inL L a := fun _ h => h
  obtain ⟨H, hH⟩ : ∃ z, z = s.heap := ⟨_, rfl⟩
  rw [← hH] at hP ⊢
  have hS : va_S (inL L) s.heap H [] := by rw [hH]; exact va_S.rf
  have hl : lv_has ls 9 [(0, .ref mo), (1, .int x), (2, .int kd), (3, .int a), (4, .int b), (5, .int cr), (6, .int k)] := hl
  obtain ⟨fe, me, fu, le, en, sp, ka, kc, mx, se, gc, hfe, hka, hkc, hD⟩ := hI0
  obtain ⟨hM, hRl, h3d, hW⟩ := hO
  refine lv_aload_n hx hb dM_statement_0 rfl (lv_at hl 0 rfl) ?_
  refine lv_iconst (v := nI 0) hx hb dM_statement_1 (by decide) ?_
  refine mm_put (v := .int (nI 0)) (ty := .int) hx hb hg inM tyM tyM_ok nmM hown hK hn hA hP hS hD.1.1.1 (show f mo = .inr (6, [.int th, .ref (ad 0), .ref (ad 1), .ref (ad 2), .ref (ad 3), .ref (ad 4), .ref (ad 5), .ref (ad 6), .ref (ad 7), .ref (ad 8), .ref (ad 9), .ref (ad 10), .ref (ad 11), .ref (ad 12), .ref (ad 13), .ref (ad 14), .ref (ad 15), .ref ap, .int fe, .int me, .int fu, .int le, .int en, .ref cm, .int sp, .int (nI ka), .int (nI kc), .long mx, .int se]) from hD.2.1) rfl 0 (by decide) (hg _ gw593) (fun _ h9 => h9) rfl (by decide +kernel) rfl rfl (Nat.le_of_ble_eq_true rfl) dM_statement_2 (fun H locs hP hS => ?_)
  obtain ⟨f1, hf1⟩ : ∃ z, z = va_up f mo (.inr (6, [.int (nI 0), .ref (ad 0), .ref (ad 1), .ref (ad 2), .ref (ad 3), .ref (ad 4), .ref (ad 5), .ref (ad 6), .ref (ad 7), .ref (ad 8), .ref (ad 9), .ref (ad 10), .ref (ad 11), .ref (ad 12), .ref (ad 13), .ref (ad 14), .ref (ad 15), .ref ap, .int fe, .int me, .int fu, .int le, .int en, .ref cm, .int sp, .int (nI ka), .int (nI kc), .long mx, .int se])) := ⟨_, rfl⟩
  have hP : va_P D zCl (va_pl L f1) H := by rw [hf1]; exact hP
  have hs2 : Same1 f f1 mo := fun z hz => by rw [hf1, va_up_ne _ _ hz]
  have hD2 : MD tys L f1 mo ap cm ad G (nI 0) fe me fu le en sp (nI ka) (nI kc) mx se gc := hD.updO (by rw [hf1]; exact va_up_self _ _ _) hs2
  have ha3 : SmA f _ mo ap cm ad := SmA.of3 (Sm3.ofO hs2)
  refine lv_iload_n hx hb dM_statement_5 rfl (lv_at hl 1 rfl) ?_
  refine then_i (run_S (n := 1) (As := [.int x]) (rest := []) C0 (m_noFunction hn) gw693 gw691 gw692 gw7 (by decide +kernel) ⟨Nat.le_of_ble_eq_true rfl, Nat.le_of_ble_eq_true rfl⟩ rfl rfl ⟨Nat.le_of_ble_eq_true rfl, Nat.le_of_ble_eq_true rfl⟩ hP rfl hl.1 rfl (Nat.le_of_ble_eq_true rfl) dM_statement_6) hS hA (fun r5 f4 H locs hq6 hP hS => ?_)
  obtain ⟨er5, ef4⟩ := hq6
  subst er5
  rw [ef4] at hP
  refine lv_if_ne (tgt := 26) hx hb dM_statement_9 (by decide) (fun c9 => ?_) (fun c9 => ?_)
  · have c9 : (!q_fn x) = true := kb_t.mp c9
    refine lv_aload_n hx hb dM_statement_26 rfl (lv_at hl 0 rfl) ?_
    refine lv_iconst (v := nI 1) hx hb dM_statement_27 (by decide) ?_
    refine then_i (run_V (n := 1) (As := [.int (nI 1)]) (rest := []) C0 (m_raise hn hD2) gw700 gw697 gw699 gsM_raise gw7 (by decide +kernel) ⟨Nat.le_of_ble_eq_true rfl, Nat.le_of_ble_eq_true rfl⟩ rfl rfl ⟨Nat.le_of_ble_eq_true rfl, Nat.le_of_ble_eq_true rfl⟩ hP hD2.1.1.1 hD2.2.1 rfl rfl rfl hl.1 rfl (Nat.le_of_ble_eq_true rfl) dM_statement_28) hS hA (fun r7 f6 H locs hq28 hP hS => ?_)
    obtain ⟨hr8, hD8, hs8⟩ := hq28
    have ha8 := ha3.trans (SmA.of3 (Sm3.ofO hs8))
    exact ret_i C0 hP hS ⟨_, ha8, Or.inl ⟨by rw [show q_st kd a b cr k = false from by unfold q_st; rw [hq]; rfl]; cases q_fn x <;> rfl, rfl, ⟨_, _, _, _, _, _, ka, kc, _, _, _, hfe, hka, hkc, hD8⟩⟩⟩ dM_statement_31
  · have c9 : (!q_fn x) = false := kb_0.mp c9
    refine lv_iload_n hx hb dM_statement_12 rfl (lv_at hl 2 rfl) ?_
    refine lv_iload_n hx hb dM_statement_13 rfl (lv_at hl 3 rfl) ?_
    refine lv_iload hx hb dM_statement_14 (lv_at hl 4 rfl) ?_
    refine lv_iload hx hb dM_statement_16 (lv_at hl 5 rfl) ?_
    refine lv_iload hx hb dM_statement_18 (lv_at hl 6 rfl) ?_
    refine then_i (run_S (n := 5) (As := [.int kd, .int a, .int b, .int cr, .int k]) (rest := []) C0 (m_fits hn) gw707 gw705 gw706 gw7 (by decide +kernel) ⟨Nat.le_of_ble_eq_true rfl, Nat.le_of_ble_eq_true rfl⟩ rfl rfl ⟨Nat.le_of_ble_eq_true rfl, Nat.le_of_ble_eq_true rfl⟩ hP rfl hl.1 rfl (Nat.le_of_ble_eq_true rfl) dM_statement_20) hS hA (fun r10 f9 H locs hq20 hP hS => ?_)
    obtain ⟨er10, ef9⟩ := hq20
    subst er10
    rw [ef9] at hP
    refine lv_if_ne (tgt := 32) hx hb dM_statement_23 (by decide) (fun c23 => absurd (kb_0.mpr (show q_st kd a b cr k = false from by unfold q_st; rw [hq]; rfl)) c23) (fun c23 => ?_)
    refine lv_aload_n hx hb dM_statement_26 rfl (lv_at hl 0 rfl) ?_
    refine lv_iconst (v := nI 1) hx hb dM_statement_27 (by decide) ?_
    refine then_i (run_V (n := 1) (As := [.int (nI 1)]) (rest := []) C0 (m_raise hn hD2) gw700 gw697 gw699 gsM_raise gw7 (by decide +kernel) ⟨Nat.le_of_ble_eq_true rfl, Nat.le_of_ble_eq_true rfl⟩ rfl rfl ⟨Nat.le_of_ble_eq_true rfl, Nat.le_of_ble_eq_true rfl⟩ hP hD2.1.1.1 hD2.2.1 rfl rfl rfl hl.1 rfl (Nat.le_of_ble_eq_true rfl) dM_statement_28) hS hA (fun r12 f11 H locs hq28 hP hS => ?_)
    obtain ⟨hr13, hD13, hs13⟩ := hq28
    have ha13 := ha3.trans (SmA.of3 (Sm3.ofO hs13))
    exact ret_i C0 hP hS ⟨_, ha13, Or.inl ⟨by rw [show q_st kd a b cr k = false from by unfold q_st; rw [hq]; rfl]; cases q_fn x <;> rfl, rfl, ⟨_, _, _, _, _, _, ka, kc, _, _, _, hfe, hka, hkc, hD13⟩⟩⟩ dM_statement_31
theorem m_statement {l : Launch} {D : va_G} {tys : List (ClassId × FieldType)} {L : List Nat} {f : Nat → va_E} (hn : L.Nodup) {mo ap cm : Nat} {ad : Nat → Nat} {G : Nat → Nat → Int32} {th : Int32} {σ : Sg} {x kd a b cr k : Int32} {oi ni tm : Nat → Nat} (hoi : ∀ i, i < 4 → G 15 i = nI (oi i) ∧ oi i ≤ ni i) (hni : ∀ i, i < 4 → G 13 i = nI (ni i) ∧ ni i ≤ 6) (htm : ∀ i, i < 4 → 0 < oi i → G 14 (6 * i + oi i - 1) = nI (tm i) ∧ tm i < 64) (hinj : ∀ i j, i < 16 → j < 16 → i ≠ j → ad i ≠ ad j) (hO : MOk σ G) (hI0 : MdI tys L f mo ap cm ad G th) : MetI l yM_statement wM_statement ({ frames := 3, cells := 0, slots := 0, locals := 68 } : Room) D tys L f [.ref mo, .int x, .int kd, .int a, .int b, .int cr, .int k] (fun r f' => ∃ t, SmA f f' mo ap cm ad ∧ (((q_fn x && q_st kd a b cr k) = false ∧ t = nI 1 ∧ MdI tys L f' mo ap cm ad G t) ∨ (q_fn x = true ∧ q_st kd a b cr k = true ∧ ∀ i, x = nI i → i < 4 → (((m_hw σ i kd a b cr && m_op (oi i) (G 11 (tm i)) kd) = false ∧ t = nI 2 ∧ MdI tys L f' mo ap cm ad G t) ∨ ((m_hw σ i kd a b cr && m_op (oi i) (G 11 (tm i)) kd) = true ∧ q_rm (sz σ i) (ni i) kd = false ∧ t = nI 3 ∧ MdI tys L f' mo ap cm ad G t) ∨ ((m_hw σ i kd a b cr && m_op (oi i) (G 11 (tm i)) kd) = true ∧ q_rm (sz σ i) (ni i) kd = true ∧ t = nI 0 ∧ r = nI (sz σ i) ∧ MdI tys L f' mo ap cm ad (m_Gs G i (sz σ i) (oi i) (ni i) (tm i) (nt kd) a b cr k) t))))) := by
  cases hq : q_in kd (nI 0) (nI 7) with
  | false => exact m_statement_out hn hq hoi hni htm hinj hO hI0
  | true =>
    obtain ⟨n, hn8, rfl⟩ := q_in_nI (by omega) hq
    rcases (show n = 0 ∨ n = 1 ∨ n = 2 ∨ n = 3 ∨ n = 4 ∨ n = 5 ∨ n = 6 ∨ n = 7 by omega) with e | e | e | e | e | e | e | e <;> subst e
    · exact m_statement_0 hn hoi hni htm hinj hO hI0
    · exact m_statement_1 hn hoi hni htm hinj hO hI0
    · exact m_statement_2 hn hoi hni htm hinj hO hI0
    · exact m_statement_3 hn hoi hni htm hinj hO hI0
    · exact m_statement_4 hn hoi hni htm hinj hO hI0
    · exact m_statement_5 hn hoi hni htm hinj hO hI0
    · exact m_statement_6 hn hoi hni htm hinj hO hI0
    · exact m_statement_7 hn hoi hni htm hinj hO hI0
