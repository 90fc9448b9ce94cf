/-! LiquidCheckerModel: the small methods. -/
set_option maxRecDepth 100000 in
set_option maxHeartbeats 4000000 in
theorem m_in {l : Launch} {D : va_G} {tys : List (ClassId × FieldType)} {L : List Nat} {f : Nat → va_E} (hn : L.Nodup) {v lo hi : Int32} : MetI l yM_in wM_in ({ frames := 0, cells := 0, slots := 0, locals := 0 } : Room) D tys L f [.int v, .int lo, .int hi] (fun r f' => r = kb (q_in v lo hi) ∧ f' = f) := by
  refine met_of "LiquidCheckerModel" (by decide) rfl (Nat.le_of_ble_eq_true rfl) ?_
  intro pgm e s m below meth c ls C0 hP hl
  obtain ⟨hx, hb, hml, hown, hg, hr, hlocks, hK, hN⟩ := id C0
  have hA : ∀ a ∈ L, inL L a := fun _ h => h
  obtain ⟨H, hH⟩ : ∃ z, z = s.heap := ⟨_, rfl⟩
  rw [← hH] at hP ⊢
  have hS : va_S (inL L) s.heap H [] := by rw [hH]; exact va_S.rf
  have hl : lv_has ls 3 [(0, .int v), (1, .int lo), (2, .int hi)] := hl
  refine lv_iload_n hx hb dM_in_0 rfl (lv_at hl 0 rfl) ?_
  refine lv_iload_n hx hb dM_in_1 rfl (lv_at hl 1 rfl) ?_
  refine lv_icmp_lt (tgt := 14) hx hb dM_in_2 (by decide) (fun c2 => ?_) (fun c2 => ?_)
  · refine lv_iconst (v := nI 0) hx hb dM_in_14 (by decide) ?_
    exact ret_z C0 rfl hP hS ⟨by rw [show q_in v lo hi = false from by simp [q_in, c2]]; rfl, rfl⟩ dM_in_15
  · refine lv_iload_n hx hb dM_in_5 rfl (lv_at hl 0 rfl) ?_
    refine lv_iload_n hx hb dM_in_6 rfl (lv_at hl 2 rfl) ?_
    refine lv_icmp_gt (tgt := 14) hx hb dM_in_7 (by decide) (fun c7 => ?_) (fun c7 => ?_)
    · refine lv_iconst (v := nI 0) hx hb dM_in_14 (by decide) ?_
      exact ret_z C0 rfl hP hS ⟨by rw [show q_in v lo hi = false from by simp [q_in, c2, c7]]; rfl, rfl⟩ dM_in_15
    · refine lv_iconst (v := nI 1) hx hb dM_in_10 (by decide) ?_
      refine lv_goto (tgt := 15) hx hb dM_in_11 (by decide) ?_
      exact ret_z C0 rfl hP hS ⟨by rw [show q_in v lo hi = true from by simp [q_in, c2, c7]]; rfl, rfl⟩ dM_in_15
set_option maxRecDepth 100000 in
set_option maxHeartbeats 4000000 in
theorem m_noFunction {l : Launch} {D : va_G} {tys : List (ClassId × FieldType)} {L : List Nat} {f : Nat → va_E} (hn : L.Nodup) {v : Int32} : MetI l yM_noFunction wM_noFunction ({ frames := 1, cells := 0, slots := 0, locals := 22 } : Room) D tys L f [.int v] (fun r f' => r = kb (!q_fn v) ∧ f' = f) := by
  refine met_of "LiquidCheckerModel" (by decide) rfl (Nat.le_of_ble_eq_true rfl) ?_
  intro pgm e s m below meth c ls C0 hP hl
  obtain ⟨hx, hb, hml, hown, hg, hr, hlocks, hK, hN⟩ := id C0
  have hA : ∀ a ∈ L, inL L a := fun _ h => h
  obtain ⟨H, hH⟩ : ∃ z, z = s.heap := ⟨_, rfl⟩
  rw [← hH] at hP ⊢
  have hS : va_S (inL L) s.heap H [] := by rw [hH]; exact va_S.rf
  have hl : lv_has ls 1 [(0, .int v)] := hl
  refine lv_iload_n hx hb dM_noFunction_0 rfl (lv_at hl 0 rfl) ?_
  refine lv_iconst (v := nI 0) hx hb dM_noFunction_1 (by decide) ?_
  refine lv_iconst (v := nI 3) hx hb dM_noFunction_2 (by decide) ?_
  refine then_i (run_S (n := 3) (As := [.int v, .int (nI 0), .int (nI 3)]) (rest := []) C0 (m_in hn) gw696 gw694 gw695 gw7 (by decide +kernel) ⟨Nat.le_of_ble_eq_true rfl, Nat.le_of_ble_eq_true rfl⟩ rfl rfl ⟨Nat.le_of_ble_eq_true rfl, Nat.le_of_ble_eq_true rfl⟩ hP rfl hl.1 rfl (Nat.le_of_ble_eq_true rfl) dM_noFunction_3) hS hA (fun r2 f1 H locs hq3 hP hS => ?_)
  obtain ⟨er2, ef1⟩ := hq3
  subst er2
  rw [ef1] at hP
  refine lv_if_ne (tgt := 13) hx hb dM_noFunction_6 (by decide) (fun c6 => ?_) (fun c6 => ?_)
  · have c6 : (q_in v (nI 0) (nI 3)) = true := kb_t.mp c6
    refine lv_iconst (v := nI 0) hx hb dM_noFunction_13 (by decide) ?_
    exact ret_z C0 rfl hP hS ⟨by unfold q_fn; rw [c6]; rfl, rfl⟩ dM_noFunction_14
  · have c6 : (q_in v (nI 0) (nI 3)) = false := kb_0.mp c6
    refine lv_iconst (v := nI 1) hx hb dM_noFunction_9 (by decide) ?_
    refine lv_goto (tgt := 14) hx hb dM_noFunction_10 (by decide) ?_
    exact ret_z C0 rfl hP hS ⟨by unfold q_fn; rw [c6]; rfl, rfl⟩ dM_noFunction_14
set_option maxRecDepth 100000 in
set_option maxHeartbeats 4000000 in
theorem m_name {l : Launch} {D : va_G} {tys : List (ClassId × FieldType)} {L : List Nat} {f : Nat → va_E} (hn : L.Nodup) {v : Int32} : MetI l yM_name wM_name ({ frames := 1, cells := 0, slots := 0, locals := 22 } : Room) D tys L f [.int v] (fun r f' => r = kb (q_us v) ∧ f' = f) := by
  refine met_of "LiquidCheckerModel" (by decide) rfl (Nat.le_of_ble_eq_true rfl) ?_
  intro pgm e s m below meth c ls C0 hP hl
  obtain ⟨hx, hb, hml, hown, hg, hr, hlocks, hK, hN⟩ := id C0
  have hA : ∀ a ∈ L, inL L a := fun _ h => h
  obtain ⟨H, hH⟩ : ∃ z, z = s.heap := ⟨_, rfl⟩
  rw [← hH] at hP ⊢
  have hS : va_S (inL L) s.heap H [] := by rw [hH]; exact va_S.rf
  have hl : lv_has ls 1 [(0, .int v)] := hl
  refine lv_iload_n hx hb dM_name_0 rfl (lv_at hl 0 rfl) ?_
  refine lv_iconst (v := nI 0) hx hb dM_name_1 (by decide) ?_
  refine lv_iconst (v := nI 2) hx hb dM_name_2 (by decide) ?_
  refine then_i (run_S (n := 3) (As := [.int v, .int (nI 0), .int (nI 2)]) (rest := []) C0 (m_in hn) gw696 gw694 gw695 gw7 (by decide +kernel) ⟨Nat.le_of_ble_eq_true rfl, Nat.le_of_ble_eq_true rfl⟩ rfl rfl ⟨Nat.le_of_ble_eq_true rfl, Nat.le_of_ble_eq_true rfl⟩ hP rfl hl.1 rfl (Nat.le_of_ble_eq_true rfl) dM_name_3) hS hA (fun r2 f1 H locs hq3 hP hS => ?_)
  obtain ⟨er2, ef1⟩ := hq3
  subst er2
  rw [ef1] at hP
  refine lv_if_ne (tgt := 19) hx hb dM_name_6 (by decide) (fun c6 => ?_) (fun c6 => ?_)
  · have c6 : (q_in v (nI 0) (nI 2)) = true := kb_t.mp c6
    refine lv_iconst (v := nI 1) hx hb dM_name_19 (by decide) ?_
    refine lv_goto (tgt := 24) hx hb dM_name_20 (by decide) ?_
    exact ret_z C0 rfl hP hS ⟨by unfold q_us q_gv; rw [c6]; rfl, rfl⟩ dM_name_24
  · have c6 : (q_in v (nI 0) (nI 2)) = false := kb_0.mp c6
    refine lv_iload_n hx hb dM_name_9 rfl (lv_at hl 0 rfl) ?_
    refine lv_iconst (v := nI 4) hx hb dM_name_10 (by decide) ?_
    refine lv_bipush (v := nI 11) hx hb dM_name_11 (by decide) ?_
    refine then_i (run_S (n := 3) (As := [.int v, .int (nI 4), .int (nI 11)]) (rest := []) C0 (m_in hn) gw696 gw694 gw695 gw7 (by decide +kernel) ⟨Nat.le_of_ble_eq_true rfl, Nat.le_of_ble_eq_true rfl⟩ rfl rfl ⟨Nat.le_of_ble_eq_true rfl, Nat.le_of_ble_eq_true rfl⟩ hP rfl hl.1 rfl (Nat.le_of_ble_eq_true rfl) dM_name_13) hS hA (fun r4 f3 H locs hq13 hP hS => ?_)
    obtain ⟨er4, ef3⟩ := hq13
    subst er4
    rw [ef3] at hP
    refine lv_if_eq (tgt := 23) hx hb dM_name_16 (by decide) (fun c16 => ?_) (fun c16 => ?_)
    · have c16 : (q_in v (nI 4) (nI 11)) = false := kb_0.mp c16
      refine lv_iconst (v := nI 0) hx hb dM_name_23 (by decide) ?_
      exact ret_z C0 rfl hP hS ⟨by unfold q_us q_gv; rw [c6, c16]; rfl, rfl⟩ dM_name_24
    · have c16 : (q_in v (nI 4) (nI 11)) = true := kb_t.mp c16
      refine lv_iconst (v := nI 1) hx hb dM_name_19 (by decide) ?_
      refine lv_goto (tgt := 24) hx hb dM_name_20 (by decide) ?_
      exact ret_z C0 rfl hP hS ⟨by unfold q_us q_gv; rw [c6, c16]; rfl, rfl⟩ dM_name_24
set_option maxRecDepth 100000 in
set_option maxHeartbeats 4000000 in
theorem m_raise {l : Launch} {D : va_G} {tys : List (ClassId × FieldType)} {L : List Nat} {f : Nat → va_E} (hn : L.Nodup) {mo ap cm : Nat} {ad : Nat → Nat} {G : Nat → Nat → Int32} {th fe me fu le en sp ka kc se : Int32} {mx : Int64} {gc : Nat → Int32} {t : Int32} (hD : MD tys L f mo ap cm ad G th fe me fu le en sp ka kc mx se gc) : MetI l yM_raise wM_raise ({ frames := 0, cells := 0, slots := 0, locals := 0 } : Room) D tys L f [.ref mo, .int t] (fun r f' => r = nI 0 ∧ MD tys L f' mo ap cm ad G t fe me fu le en sp ka kc mx se gc ∧ Same1 f f' mo) := by
  refine met_of "LiquidCheckerModel" (by decide) rfl (Nat.le_of_ble_eq_true rfl) ?_
  intro pgm e s m below meth c ls C0 hP hl
  obtain ⟨hx, hb, hml, hown, hg, hr, hlocks, hK, hN⟩ := id C0
  have hA : ∀ a ∈ L, inL L a := fun _ h => h
  obtain ⟨H, hH⟩ : ∃ z, z = s.heap := ⟨_, rfl⟩
  rw [← hH] at hP ⊢
  have hS : va_S (inL L) s.heap H [] := by rw [hH]; exact va_S.rf
  have hl : lv_has ls 2 [(0, .ref mo), (1, .int t)] := hl
  refine lv_aload_n hx hb dM_raise_0 rfl (lv_at hl 0 rfl) ?_
  refine lv_iload_n hx hb dM_raise_1 rfl (lv_at hl 1 rfl) ?_
  refine mm_put (v := .int t) (ty := .int) hx hb hg inM tyM tyM_ok nmM hown hK hn hA hP hS hD.1.1.1 (show f mo = .inr (6, [.int th, .ref (ad 0), .ref (ad 1), .ref (ad 2), .ref (ad 3), .ref (ad 4), .ref (ad 5), .ref (ad 6), .ref (ad 7), .ref (ad 8), .ref (ad 9), .ref (ad 10), .ref (ad 11), .ref (ad 12), .ref (ad 13), .ref (ad 14), .ref (ad 15), .ref ap, .int fe, .int me, .int fu, .int le, .int en, .ref cm, .int sp, .int ka, .int kc, .long mx, .int se]) from hD.2.1) rfl 0 (by decide) (hg _ gw593) (fun _ h9 => h9) rfl (by decide +kernel) rfl rfl (Nat.le_of_ble_eq_true rfl) dM_raise_2 (fun H locs hP hS => ?_)
  obtain ⟨f1, hf1⟩ : ∃ z, z = va_up f mo (.inr (6, [.int t, .ref (ad 0), .ref (ad 1), .ref (ad 2), .ref (ad 3), .ref (ad 4), .ref (ad 5), .ref (ad 6), .ref (ad 7), .ref (ad 8), .ref (ad 9), .ref (ad 10), .ref (ad 11), .ref (ad 12), .ref (ad 13), .ref (ad 14), .ref (ad 15), .ref ap, .int fe, .int me, .int fu, .int le, .int en, .ref cm, .int sp, .int ka, .int kc, .long mx, .int se])) := ⟨_, rfl⟩
  have hP : va_P D zCl (va_pl L f1) H := by rw [hf1]; exact hP
  have hs2 : Same1 f f1 mo := fun z hz => by rw [hf1, va_up_ne _ _ hz]
  have hD2 : MD tys L f1 mo ap cm ad G t fe me fu le en sp ka kc mx se gc := hD.updO (by rw [hf1]; exact va_up_self _ _ _) hs2
  have hm2 : Sm3 f _ mo ap cm := Sm3.ofO hs2
  refine lv_iconst (v := nI 0) hx hb dM_raise_5 (by decide) ?_
  exact ret_i C0 hP hS ⟨rfl, hD2, fun z hz => by rw [hf1]; exact va_up_ne _ _ hz⟩ dM_raise_6
set_option maxRecDepth 100000 in
set_option maxHeartbeats 4000000 in
theorem m_thrown {l : Launch} {D : va_G} {tys : List (ClassId × FieldType)} {L : List Nat} {f : Nat → va_E} (hn : L.Nodup) {mo ap cm : Nat} {ad : Nat → Nat} {G : Nat → Nat → Int32} {th fe me fu le en sp ka kc se : Int32} {mx : Int64} {gc : Nat → Int32} (hD : MD tys L f mo ap cm ad G th fe me fu le en sp ka kc mx se gc) : MetI l yM_thrown wM_thrown ({ frames := 0, cells := 0, slots := 0, locals := 0 } : Room) D tys L f [.ref mo] (fun r f' => r = th ∧ f' = f) := by
  refine met_of "LiquidCheckerModel" (by decide) rfl (Nat.le_of_ble_eq_true rfl) ?_
  intro pgm e s m below meth c ls C0 hP hl
  obtain ⟨hx, hb, hml, hown, hg, hr, hlocks, hK, hN⟩ := id C0
  have hA : ∀ a ∈ L, inL L a := fun _ h => h
  obtain ⟨H, hH⟩ : ∃ z, z = s.heap := ⟨_, rfl⟩
  rw [← hH] at hP ⊢
  have hS : va_S (inL L) s.heap H [] := by rw [hH]; exact va_S.rf
  have hl : lv_has ls 1 [(0, .ref mo)] := hl
  refine lv_aload_n hx hb dM_thrown_0 rfl (lv_at hl 0 rfl) ?_
  refine mm_get (v := .int th) hx hb hg inM hown hK hP hD.1.1.1 hD.2.1 rfl 0 (by decide) (hg _ gw593) (fun _ h9 => h9) rfl dM_thrown_1 ?_
  exact ret_i C0 hP hS ⟨rfl, rfl⟩ dM_thrown_4
set_option maxRecDepth 100000 in
set_option maxHeartbeats 4000000 in
theorem m_stand {l : Launch} {D : va_G} {tys : List (ClassId × FieldType)} {L : List Nat} {f : Nat → va_E} (hn : L.Nodup) {x u v : Nat} (hx0 : x < 4) : MetI l yM_stand wM_stand ({ frames := 0, cells := 0, slots := 0, locals := 0 } : Room) D tys L f [.int (nI x), .int (nI u), .int (nI v)] (fun r f' => r = nI (mst x u v) ∧ f' = f) := by
  refine met_of "LiquidCheckerModel" (by decide) rfl (Nat.le_of_ble_eq_true rfl) ?_
  intro pgm e s m below meth c ls C0 hP hl
  obtain ⟨hx, hb, hml, hown, hg, hr, hlocks, hK, hN⟩ := id C0
  have hA : ∀ a ∈ L, inL L a := fun _ h => h
  obtain ⟨H, hH⟩ : ∃ z, z = s.heap := ⟨_, rfl⟩
  rw [← hH] at hP ⊢
  have hS : va_S (inL L) s.heap H [] := by rw [hH]; exact va_S.rf
  have hl : lv_has ls 3 [(0, .int (nI x)), (1, .int (nI u)), (2, .int (nI v))] := hl
  refine lv_iload_n hx hb dM_stand_0 rfl (lv_at hl 0 rfl) ?_
  refine lv_if_ne (tgt := 8) hx hb dM_stand_1 (by decide) (fun c1 => ?_) (fun c1 => ?_)
  · refine lv_iload_n hx hb dM_stand_8 rfl (lv_at hl 0 rfl) ?_
    refine lv_iconst (v := nI 1) hx hb dM_stand_9 (by decide) ?_
    refine lv_icmp_ne (tgt := 17) hx hb dM_stand_10 (by decide) (fun c10 => ?_) (fun c10 => ?_)
    · refine lv_iload_n hx hb dM_stand_17 rfl (lv_at hl 0 rfl) ?_
      refine lv_iconst (v := nI 2) hx hb dM_stand_18 (by decide) ?_
      refine lv_icmp_ne (tgt := 26) hx hb dM_stand_19 (by decide) (fun c19 => ?_) (fun c19 => ?_)
      · refine lv_bipush (v := nI 12) hx hb dM_stand_26 (by decide) ?_
        exact ret_i C0 hP hS ⟨congrArg nI (Eq.symm (show mst x u v = _ from (if_neg (fun z => c1 (by rw [z]; rfl))).trans ((if_neg (fun z => c10 (by rw [z]))).trans (if_neg (fun z => c19 (by rw [z])))))), rfl⟩ dM_stand_28
      · refine lv_iload_n hx hb dM_stand_22 rfl (lv_at hl 2 rfl) ?_
        refine lv_goto (tgt := 28) hx hb dM_stand_23 (by decide) ?_
        exact ret_i C0 hP hS ⟨congrArg nI (Eq.symm (show mst x u v = _ from (if_neg (fun z => c1 (by rw [z]; rfl))).trans ((if_neg (fun z => c10 (by rw [z]))).trans (if_pos ((nI_eq (a := x) (b := 2) (by omega) (by omega)).mp c19))))), rfl⟩ dM_stand_28
    · refine lv_iload_n hx hb dM_stand_13 rfl (lv_at hl 1 rfl) ?_
      refine lv_goto (tgt := 28) hx hb dM_stand_14 (by decide) ?_
      exact ret_i C0 hP hS ⟨congrArg nI (Eq.symm (show mst x u v = _ from (if_neg (fun z => c1 (by rw [z]; rfl))).trans (if_pos ((nI_eq (a := x) (b := 1) (by omega) (by omega)).mp c10)))), rfl⟩ dM_stand_28
  · refine lv_iconst (v := nI 0) hx hb dM_stand_4 (by decide) ?_
    refine lv_goto (tgt := 28) hx hb dM_stand_5 (by decide) ?_
    exact ret_i C0 hP hS ⟨congrArg nI (Eq.symm (show mst x u v = _ from if_pos ((nI_eq (a := x) (b := 0) (by omega) (by omega)).mp c1))), rfl⟩ dM_stand_28
theorem mst_nf {x u v : Nat} (hx : x < 4) (hu : u ≠ 3) (hv : v ≠ 3) : mst x u v = jn (nf x u v) := by
  unfold mst nf
  by_cases e0 : x = 0
  · rw [if_pos e0, if_neg (by omega), if_neg (by omega), e0]; rfl
  · rw [if_neg e0]
    by_cases e1 : x = 1
    · rw [if_pos e1, if_pos e1]; exact jn_id hu
    · rw [if_neg e1, if_neg e1]
      by_cases e2 : x = 2
      · rw [if_pos e2, if_pos e2]; exact jn_id hv
      · rw [if_neg e2, if_neg e2, show x = 3 by omega]; rfl
set_option maxRecDepth 100000 in
set_option maxHeartbeats 4000000 in
theorem m_blame {l : Launch} {D : va_G} {tys : List (ClassId × FieldType)} {L : List Nat} {f : Nat → va_E} (hn : L.Nodup) {mo ap cm : Nat} {ad : Nat → Nat} {G : Nat → Nat → Int32} {th fe me fu le en sp ka kc se : Int32} {mx : Int64} {gc : Nat → Int32} {pl : Int32} (hle : -1 ≤ le.toInt) (hD : MD tys L f mo ap cm ad G th fe me fu le en sp ka kc mx se gc) : MetV l yM_blame wM_blame ({ frames := 0, cells := 0, slots := 0, locals := 0 } : Room) D tys L f [.ref mo, .int pl] (fun f' => MD tys L f' mo ap cm ad G th fe me fu (n_lu le pl false) en sp ka kc mx se gc ∧ Same1 f f' mo) := by
  refine met_of "LiquidCheckerModel" (by decide) rfl (Nat.le_of_ble_eq_true rfl) ?_
  intro pgm e s m below meth c ls C0 hP hl
  obtain ⟨hx, hb, hml, hown, hg, hr, hlocks, hK, hN⟩ := id C0
  have hA : ∀ a ∈ L, inL L a := fun _ h => h
  obtain ⟨H, hH⟩ : ∃ z, z = s.heap := ⟨_, rfl⟩
  rw [← hH] at hP ⊢
  have hS : va_S (inL L) s.heap H [] := by rw [hH]; exact va_S.rf
  have hl : lv_has ls 2 [(0, .ref mo), (1, .int pl)] := hl
  refine lv_aload_n hx hb dM_blame_0 rfl (lv_at hl 0 rfl) ?_
  refine mm_get (v := .int le) hx hb hg inM hown hK hP hD.1.1.1 hD.2.1 rfl 21 (by decide) (hg _ gw614) (fun _ h9 => h9) rfl dM_blame_1 ?_
  refine lv_if_lt (tgt := 15) hx hb dM_blame_4 (by decide) (fun c4 => ?_) (fun c4 => ?_)
  · refine lv_aload_n hx hb dM_blame_15 rfl (lv_at hl 0 rfl) ?_
    refine lv_iload_n hx hb dM_blame_16 rfl (lv_at hl 1 rfl) ?_
    refine mm_put (v := .int pl) (ty := .int) hx hb hg inM tyM tyM_ok nmM hown hK hn hA hP hS hD.1.1.1 (show f mo = .inr (6, [.int th, .ref (ad 0), .ref (ad 1), .ref (ad 2), .ref (ad 3), .ref (ad 4), .ref (ad 5), .ref (ad 6), .ref (ad 7), .ref (ad 8), .ref (ad 9), .ref (ad 10), .ref (ad 11), .ref (ad 12), .ref (ad 13), .ref (ad 14), .ref (ad 15), .ref ap, .int fe, .int me, .int fu, .int le, .int en, .ref cm, .int sp, .int ka, .int kc, .long mx, .int se]) from hD.2.1) rfl 21 (by decide) (hg _ gw614) (fun _ h9 => h9) rfl (by decide +kernel) rfl rfl (Nat.le_of_ble_eq_true rfl) dM_blame_17 (fun H locs hP hS => ?_)
    obtain ⟨f1, hf1⟩ : ∃ z, z = va_up f mo (.inr (6, [.int th, .ref (ad 0), .ref (ad 1), .ref (ad 2), .ref (ad 3), .ref (ad 4), .ref (ad 5), .ref (ad 6), .ref (ad 7), .ref (ad 8), .ref (ad 9), .ref (ad 10), .ref (ad 11), .ref (ad 12), .ref (ad 13), .ref (ad 14), .ref (ad 15), .ref ap, .int fe, .int me, .int fu, .int pl, .int en, .ref cm, .int sp, .int ka, .int kc, .long mx, .int se])) := ⟨_, rfl⟩
    have hP : va_P D zCl (va_pl L f1) H := by rw [hf1]; exact hP
    have hs2 : Same1 f f1 mo := fun z hz => by rw [hf1, va_up_ne _ _ hz]
    have hD2 : MD tys L f1 mo ap cm ad G th fe me fu pl en sp ka kc mx se gc := hD.updO (by rw [hf1]; exact va_up_self _ _ _) hs2
    have hm2 : Sm3 f _ mo ap cm := Sm3.ofO hs2
    have e9 : n_lu le pl false = pl := if_pos ⟨rfl, (n_bl hle).mp (Or.inl c4)⟩
    exact ret_v C0 hP hS ⟨by rw [e9]; exact hD2, fun z hz => by rw [hf1]; exact va_up_ne _ _ hz⟩ dM_blame_20
  · refine lv_iload_n hx hb dM_blame_7 rfl (lv_at hl 1 rfl) ?_
    refine lv_aload_n hx hb dM_blame_8 rfl (lv_at hl 0 rfl) ?_
    refine mm_get (v := .int le) hx hb hg inM hown hK hP hD.1.1.1 hD.2.1 rfl 21 (by decide) (hg _ gw614) (fun _ h9 => h9) rfl dM_blame_9 ?_
    refine lv_icmp_ge (tgt := 20) hx hb dM_blame_12 (by decide) (fun c12 => ?_) (fun c12 => ?_)
    · have e9 : n_lu le pl false = le := if_neg (fun z => ((n_bl hle).mpr z.2).elim c4 (fun z => z (by exact c12)))
      exact ret_v C0 hP hS ⟨by rw [e9]; exact hD, fun _ _ => rfl⟩ dM_blame_20
    · refine lv_aload_n hx hb dM_blame_15 rfl (lv_at hl 0 rfl) ?_
      refine lv_iload_n hx hb dM_blame_16 rfl (lv_at hl 1 rfl) ?_
      refine mm_put (v := .int pl) (ty := .int) hx hb hg inM tyM tyM_ok nmM hown hK hn hA hP hS hD.1.1.1 (show f mo = .inr (6, [.int th, .ref (ad 0), .ref (ad 1), .ref (ad 2), .ref (ad 3), .ref (ad 4), .ref (ad 5), .ref (ad 6), .ref (ad 7), .ref (ad 8), .ref (ad 9), .ref (ad 10), .ref (ad 11), .ref (ad 12), .ref (ad 13), .ref (ad 14), .ref (ad 15), .ref ap, .int fe, .int me, .int fu, .int le, .int en, .ref cm, .int sp, .int ka, .int kc, .long mx, .int se]) from hD.2.1) rfl 21 (by decide) (hg _ gw614) (fun _ h9 => h9) rfl (by decide +kernel) rfl rfl (Nat.le_of_ble_eq_true rfl) dM_blame_17 (fun H locs hP hS => ?_)
      obtain ⟨f3, hf3⟩ : ∃ z, z = va_up f mo (.inr (6, [.int th, .ref (ad 0), .ref (ad 1), .ref (ad 2), .ref (ad 3), .ref (ad 4), .ref (ad 5), .ref (ad 6), .ref (ad 7), .ref (ad 8), .ref (ad 9), .ref (ad 10), .ref (ad 11), .ref (ad 12), .ref (ad 13), .ref (ad 14), .ref (ad 15), .ref ap, .int fe, .int me, .int fu, .int pl, .int en, .ref cm, .int sp, .int ka, .int kc, .long mx, .int se])) := ⟨_, rfl⟩
      have hP : va_P D zCl (va_pl L f3) H := by rw [hf3]; exact hP
      have hs4 : Same1 f f3 mo := fun z hz => by rw [hf3, va_up_ne _ _ hz]
      have hD4 : MD tys L f3 mo ap cm ad G th fe me fu pl en sp ka kc mx se gc := hD.updO (by rw [hf3]; exact va_up_self _ _ _) hs4
      have hm4 : Sm3 f _ mo ap cm := Sm3.ofO hs4
      have e9 : n_lu le pl false = pl := if_pos ⟨rfl, (n_bl hle).mp (Or.inr c12)⟩
      exact ret_v C0 hP hS ⟨by rw [e9]; exact hD4, fun z hz => by rw [hf3]; exact va_up_ne _ _ hz⟩ dM_blame_20
set_option maxRecDepth 100000 in
set_option maxHeartbeats 4000000 in
theorem m_look {l : Launch} {D : va_G} {tys : List (ClassId × FieldType)} {L : List Nat} {f : Nat → va_E} (hn : L.Nodup) {mo ap cm : Nat} {ad : Nat → Nat} {G : Nat → Nat → Int32} {th fe me fu le en sp se : Int32} {mx : Int64} {gc : Nat → Int32} {ka kc p : Nat} {K : kl_K} {T : Int} (hok : kl_ok T K) (hT : T ≤ 300000) (hka : ka < 12 ∧ ka ≠ 3) (hkc : kc < 12 ∧ kc ≠ 3) (hp : p < 17) (hD : MD tys L f mo ap cm ad G th fe me fu le en sp (nI ka) (nI kc) mx se gc) (hk : MnK tys f ap K) : MetV l yM_look wM_look ({ frames := 0, cells := 0, slots := 0, locals := 0 } : Room) D tys L f [.ref mo, .int (nI p)] (fun f' => MD tys L f' mo ap cm ad G th fe me fu le en sp (nI ka) (nI kc) (m_mx sp p se mx (encL (K.2 ka kc))) (m_se sp p se) (upd gc p (nI 1)) ∧ MnK tys f' ap K ∧ Sm3 f f' mo ap cm) := by
  refine met_of "LiquidCheckerModel" (by decide) rfl (Nat.le_of_ble_eq_true rfl) ?_
  intro pgm e s m below meth c ls C0 hP hl
  obtain ⟨hx, hb, hml, hown, hg, hr, hlocks, hK, hN⟩ := id C0
  have hA : ∀ a ∈ L, inL L a := fun _ h => h
  obtain ⟨H, hH⟩ : ∃ z, z = s.heap := ⟨_, rfl⟩
  rw [← hH] at hP ⊢
  have hS : va_S (inL L) s.heap H [] := by rw [hH]; exact va_S.rf
  have hl : lv_has ls 4 [(0, .ref mo), (1, .int (nI p))] := hl
  refine lv_aload_n hx hb dM_look_0 rfl (lv_at hl 0 rfl) ?_
  refine mm_get (v := .ref cm) hx hb hg inM hown hK hP hD.1.1.1 hD.2.1 rfl 23 (by decide) (hg _ gw616) (fun _ h9 => h9) rfl dM_look_1 ?_
  refine lv_iload_n hx hb dM_look_4 rfl (lv_at hl 1 rfl) ?_
  refine lv_iconst (v := nI 1) hx hb dM_look_5 (by decide) ?_
  refine mm_zast hx hb hK hn hA hP hS hD.1.1.2.2 hD.2.2.2 (vp_in_nI (show p < 17 by omega) (by omega)) rfl dM_look_6 (fun H locs hP hS => ?_)
  rw [nI_clamp (by omega)] at hP
  obtain ⟨f1, hf1⟩ : ∃ z, z = mm_si f cm (upd gc p (nI 1)) := ⟨_, rfl⟩
  have hP : va_P D zCl (va_pl L f1) H := by rw [hf1]; exact hP
  have hs2 : Same1 f f1 cm := fun z hz => by rw [hf1, mm_si_ne hz]
  have hD2 : MD tys L f1 mo ap cm ad G th fe me fu le en sp (nI ka) (nI kc) mx se (upd gc p (nI 1)) := hD.updC (by rw [hf1]; exact hD.2.2.2.set) hs2
  have hk2 := hD.keepC hk hs2
  have hm2 : Sm3 f _ mo ap cm := Sm3.ofC hs2
  refine lv_iload_n hx hb dM_look_7 rfl (lv_at hl 1 rfl) ?_
  refine lv_aload_n hx hb dM_look_8 rfl (lv_at hl 0 rfl) ?_
  refine mm_get (v := .int sp) hx hb hg inM hown hK hP hD2.1.1.1 hD2.2.1 rfl 24 (by decide) (hg _ gw617) (fun _ h9 => h9) rfl dM_look_9 ?_
  refine lv_icmp_eq (tgt := 16) hx hb dM_look_12 (by decide) (fun c12 => ?_) (fun c12 => ?_)
  · refine lv_aload_n hx hb dM_look_16 rfl (lv_at hl 0 rfl) ?_
    refine mm_get (v := .int (nI ka)) hx hb hg inM hown hK hP hD2.1.1.1 hD2.2.1 rfl 25 (by decide) (hg _ gw618) (fun _ h9 => h9) rfl dM_look_17 ?_
    refine lv_aload_n hx hb dM_look_20 rfl (lv_at hl 0 rfl) ?_
    refine mm_get (v := .int (nI kc)) hx hb hg inM hown hK hP hD2.1.1.1 hD2.2.1 rfl 26 (by decide) (hg _ gw619) (fun _ h9 => h9) rfl dM_look_21 ?_
    refine lv_icmp_ne (tgt := 31) hx hb dM_look_24 (by decide) (fun c24 => ?_) (fun c24 => ?_)
    · obtain ⟨g, q2, q3⟩ := id hk2
      refine lv_aload_n hx hb dM_look_31 rfl (lv_at hl 0 rfl) ?_
      refine mm_get (v := .ref ap) hx hb hg inM hown hK hP hD2.1.1.1 hD2.2.1 rfl 17 (by decide) (hg _ gw610) (fun _ h9 => h9) rfl dM_look_32 ?_
      refine lv_bipush (v := nI 13) hx hb dM_look_35 (by decide) ?_
      refine lv_aload_n hx hb dM_look_37 rfl (lv_at hl 0 rfl) ?_
      refine mm_get (v := .int (nI ka)) hx hb hg inM hown hK hP hD2.1.1.1 hD2.2.1 rfl 25 (by decide) (hg _ gw618) (fun _ h9 => h9) rfl dM_look_38 ?_
      refine lv_imul hx hb dM_look_41 ?_
      rw [pk_mul]
      refine lv_aload_n hx hb dM_look_42 rfl (lv_at hl 0 rfl) ?_
      refine mm_get (v := .int (nI kc)) hx hb hg inM hown hK hP hD2.1.1.1 hD2.2.1 rfl 26 (by decide) (hg _ gw619) (fun _ h9 => h9) rfl dM_look_43 ?_
      refine lv_iadd hx hb dM_look_46 ?_
      rw [nI_add]
      refine mm_lald hx hb hK hP hD2.1.1.2.1 q2 (vp_in_nI (show (13 * ka) + kc < 169 by omega) (by omega)) dM_look_47 ?_
      rw [nI_clamp (by omega)]
      have e7 : g ((13 * ka) + kc) = encL (K.2 ka kc) := by rw [q3 ka kc (by omega) (by omega), show jG K.2 ka kc = K.2 ka kc from by rw [jn_id hka.2, jn_id hkc.2, jG_at hka.1 hkc.1, ← jn_id hka.2, ← jn_id hkc.2]]
      refine lv_topl (fun v ev0 => ?_)
      have ev : v = encL (K.2 ka kc) := ev0.trans e7
      refine lv_lstore_n (lv' := [(2, .long v), (0, .ref mo), (1, .int (nI p))]) hx hb dM_look_48 rfl hl (by decide) rfl (fun ls hl => ?_)
      refine lv_aload_n hx hb dM_look_49 rfl (lv_at hl 1 rfl) ?_
      refine mm_get (v := .int se) hx hb hg inM hown hK hP hD2.1.1.1 hD2.2.1 rfl 28 (by decide) (hg _ gw621) (fun _ h9 => h9) rfl dM_look_50 ?_
      refine lv_if_eq (tgt := 65) hx hb dM_look_53 (by decide) (fun c53 => ?_) (fun c53 => ?_)
      · refine lv_aload_n hx hb dM_look_65 rfl (lv_at hl 1 rfl) ?_
        refine lv_lload_n hx hb dM_look_66 rfl (lv_at hl 0 rfl) ?_
        refine mm_put (v := .long v) (ty := .long) hx hb hg inM tyM tyM_ok nmM hown hK hn hA hP hS hD2.1.1.1 (show f1 mo = .inr (6, [.int th, .ref (ad 0), .ref (ad 1), .ref (ad 2), .ref (ad 3), .ref (ad 4), .ref (ad 5), .ref (ad 6), .ref (ad 7), .ref (ad 8), .ref (ad 9), .ref (ad 10), .ref (ad 11), .ref (ad 12), .ref (ad 13), .ref (ad 14), .ref (ad 15), .ref ap, .int fe, .int me, .int fu, .int le, .int en, .ref cm, .int sp, .int (nI ka), .int (nI kc), .long mx, .int se]) from hD2.2.1) rfl 27 (by decide) (hg _ gw620) (fun _ h9 => h9) rfl (by decide +kernel) rfl rfl (Nat.le_of_ble_eq_true rfl) dM_look_67 (fun H locs hP hS => ?_)
        obtain ⟨f3, hf3⟩ : ∃ z, z = va_up f1 mo (.inr (6, [.int th, .ref (ad 0), .ref (ad 1), .ref (ad 2), .ref (ad 3), .ref (ad 4), .ref (ad 5), .ref (ad 6), .ref (ad 7), .ref (ad 8), .ref (ad 9), .ref (ad 10), .ref (ad 11), .ref (ad 12), .ref (ad 13), .ref (ad 14), .ref (ad 15), .ref ap, .int fe, .int me, .int fu, .int le, .int en, .ref cm, .int sp, .int (nI ka), .int (nI kc), .long v, .int se])) := ⟨_, rfl⟩
        have hP : va_P D zCl (va_pl L f3) H := by rw [hf3]; exact hP
        have hs4 : Same1 f1 f3 mo := fun z hz => by rw [hf3, va_up_ne _ _ hz]
        have hD4 : MD tys L f3 mo ap cm ad G th fe me fu le en sp (nI ka) (nI kc) v se (upd gc p (nI 1)) := hD2.updO (by rw [hf3]; exact va_up_self _ _ _) hs4
        have hk4 := hD2.keepO hk2 hs4
        have hm4 := hm2.trans (Sm3.ofO hs4)
        refine lv_aload_n hx hb dM_look_70 rfl (lv_at hl 1 rfl) ?_
        refine lv_iconst (v := nI 1) hx hb dM_look_71 (by decide) ?_
        refine mm_put (v := .int (nI 1)) (ty := .boolean) hx hb hg inM tyM tyM_ok nmM hown hK hn hA hP hS hD4.1.1.1 (show f3 mo = .inr (6, [.int th, .ref (ad 0), .ref (ad 1), .ref (ad 2), .ref (ad 3), .ref (ad 4), .ref (ad 5), .ref (ad 6), .ref (ad 7), .ref (ad 8), .ref (ad 9), .ref (ad 10), .ref (ad 11), .ref (ad 12), .ref (ad 13), .ref (ad 14), .ref (ad 15), .ref ap, .int fe, .int me, .int fu, .int le, .int en, .ref cm, .int sp, .int (nI ka), .int (nI kc), .long v, .int se]) from hD4.2.1) rfl 28 (by decide) (hg _ gw621) (fun _ h9 => h9) rfl (by decide +kernel) rfl rfl (Nat.le_of_ble_eq_true rfl) dM_look_72 (fun H locs hP hS => ?_)
        obtain ⟨f5, hf5⟩ : ∃ z, z = va_up f3 mo (.inr (6, [.int th, .ref (ad 0), .ref (ad 1), .ref (ad 2), .ref (ad 3), .ref (ad 4), .ref (ad 5), .ref (ad 6), .ref (ad 7), .ref (ad 8), .ref (ad 9), .ref (ad 10), .ref (ad 11), .ref (ad 12), .ref (ad 13), .ref (ad 14), .ref (ad 15), .ref ap, .int fe, .int me, .int fu, .int le, .int en, .ref cm, .int sp, .int (nI ka), .int (nI kc), .long v, .int (nI 1)])) := ⟨_, rfl⟩
        have hP : va_P D zCl (va_pl L f5) H := by rw [hf5]; exact hP
        have hs6 : Same1 f3 f5 mo := fun z hz => by rw [hf5, va_up_ne _ _ hz]
        have hD6 : MD tys L f5 mo ap cm ad G th fe me fu le en sp (nI ka) (nI kc) v (nI 1) (upd gc p (nI 1)) := hD4.updO (by rw [hf5]; exact va_up_self _ _ _) hs6
        have hk6 := hD4.keepO hk4 hs6
        have hm6 := hm4.trans (Sm3.ofO hs6)
        have e8 : m_mx sp p se mx (encL (K.2 ka kc)) = v := by unfold m_mx; rw [if_pos c12, if_pos (Or.inl c53)]; exact ev.symm
        have e9 : m_se sp p se = nI 1 := if_pos c12
        exact ret_v C0 hP hS ⟨by rw [e8, e9]; exact hD6, hk6, hm6⟩ dM_look_75
      · refine lv_lload_n hx hb dM_look_56 rfl (lv_at hl 0 rfl) ?_
        refine lv_aload_n hx hb dM_look_57 rfl (lv_at hl 1 rfl) ?_
        refine mm_get (v := .long mx) hx hb hg inM hown hK hP hD2.1.1.1 hD2.2.1 rfl 27 (by decide) (hg _ gw620) (fun _ h9 => h9) rfl dM_look_58 ?_
        refine W.lcmp hx hb dM_look_61 ?_
        refine lv_if_le (tgt := 70) hx hb dM_look_62 (by decide) (fun c62 => ?_) (fun c62 => ?_)
        · refine lv_aload_n hx hb dM_look_70 rfl (lv_at hl 1 rfl) ?_
          refine lv_iconst (v := nI 1) hx hb dM_look_71 (by decide) ?_
          refine mm_put (v := .int (nI 1)) (ty := .boolean) hx hb hg inM tyM tyM_ok nmM hown hK hn hA hP hS hD2.1.1.1 (show f1 mo = .inr (6, [.int th, .ref (ad 0), .ref (ad 1), .ref (ad 2), .ref (ad 3), .ref (ad 4), .ref (ad 5), .ref (ad 6), .ref (ad 7), .ref (ad 8), .ref (ad 9), .ref (ad 10), .ref (ad 11), .ref (ad 12), .ref (ad 13), .ref (ad 14), .ref (ad 15), .ref ap, .int fe, .int me, .int fu, .int le, .int en, .ref cm, .int sp, .int (nI ka), .int (nI kc), .long mx, .int se]) from hD2.2.1) rfl 28 (by decide) (hg _ gw621) (fun _ h9 => h9) rfl (by decide +kernel) rfl rfl (Nat.le_of_ble_eq_true rfl) dM_look_72 (fun H locs hP hS => ?_)
          obtain ⟨f7, hf7⟩ : ∃ z, z = va_up f1 mo (.inr (6, [.int th, .ref (ad 0), .ref (ad 1), .ref (ad 2), .ref (ad 3), .ref (ad 4), .ref (ad 5), .ref (ad 6), .ref (ad 7), .ref (ad 8), .ref (ad 9), .ref (ad 10), .ref (ad 11), .ref (ad 12), .ref (ad 13), .ref (ad 14), .ref (ad 15), .ref ap, .int fe, .int me, .int fu, .int le, .int en, .ref cm, .int sp, .int (nI ka), .int (nI kc), .long mx, .int (nI 1)])) := ⟨_, rfl⟩
          have hP : va_P D zCl (va_pl L f7) H := by rw [hf7]; exact hP
          have hs8 : Same1 f1 f7 mo := fun z hz => by rw [hf7, va_up_ne _ _ hz]
          have hD8 : MD tys L f7 mo ap cm ad G th fe me fu le en sp (nI ka) (nI kc) mx (nI 1) (upd gc p (nI 1)) := hD2.updO (by rw [hf7]; exact va_up_self _ _ _) hs8
          have hk8 := hD2.keepO hk2 hs8
          have hm8 := hm2.trans (Sm3.ofO hs8)
          have e8 : m_mx sp p se mx (encL (K.2 ka kc)) = mx := by unfold m_mx; rw [if_pos c12, if_neg (fun z => z.elim c53 (fun z => absurd ((lg_cmp_le _ _).mp (by rw [ev] at c62; exact c62)) (Int64.not_le.mpr z)))]
          have e9 : m_se sp p se = nI 1 := if_pos c12
          exact ret_v C0 hP hS ⟨by rw [e8, e9]; exact hD8, hk8, hm8⟩ dM_look_75
        · refine lv_aload_n hx hb dM_look_65 rfl (lv_at hl 1 rfl) ?_
          refine lv_lload_n hx hb dM_look_66 rfl (lv_at hl 0 rfl) ?_
          refine mm_put (v := .long v) (ty := .long) hx hb hg inM tyM tyM_ok nmM hown hK hn hA hP hS hD2.1.1.1 (show f1 mo = .inr (6, [.int th, .ref (ad 0), .ref (ad 1), .ref (ad 2), .ref (ad 3), .ref (ad 4), .ref (ad 5), .ref (ad 6), .ref (ad 7), .ref (ad 8), .ref (ad 9), .ref (ad 10), .ref (ad 11), .ref (ad 12), .ref (ad 13), .ref (ad 14), .ref (ad 15), .ref ap, .int fe, .int me, .int fu, .int le, .int en, .ref cm, .int sp, .int (nI ka), .int (nI kc), .long mx, .int se]) from hD2.2.1) rfl 27 (by decide) (hg _ gw620) (fun _ h9 => h9) rfl (by decide +kernel) rfl rfl (Nat.le_of_ble_eq_true rfl) dM_look_67 (fun H locs hP hS => ?_)
          obtain ⟨f9, hf9⟩ : ∃ z, z = va_up f1 mo (.inr (6, [.int th, .ref (ad 0), .ref (ad 1), .ref (ad 2), .ref (ad 3), .ref (ad 4), .ref (ad 5), .ref (ad 6), .ref (ad 7), .ref (ad 8), .ref (ad 9), .ref (ad 10), .ref (ad 11), .ref (ad 12), .ref (ad 13), .ref (ad 14), .ref (ad 15), .ref ap, .int fe, .int me, .int fu, .int le, .int en, .ref cm, .int sp, .int (nI ka), .int (nI kc), .long v, .int se])) := ⟨_, rfl⟩
          have hP : va_P D zCl (va_pl L f9) H := by rw [hf9]; exact hP
          have hs10 : Same1 f1 f9 mo := fun z hz => by rw [hf9, va_up_ne _ _ hz]
          have hD10 : MD tys L f9 mo ap cm ad G th fe me fu le en sp (nI ka) (nI kc) v se (upd gc p (nI 1)) := hD2.updO (by rw [hf9]; exact va_up_self _ _ _) hs10
          have hk10 := hD2.keepO hk2 hs10
          have hm10 := hm2.trans (Sm3.ofO hs10)
          refine lv_aload_n hx hb dM_look_70 rfl (lv_at hl 1 rfl) ?_
          refine lv_iconst (v := nI 1) hx hb dM_look_71 (by decide) ?_
          refine mm_put (v := .int (nI 1)) (ty := .boolean) hx hb hg inM tyM tyM_ok nmM hown hK hn hA hP hS hD10.1.1.1 (show f9 mo = .inr (6, [.int th, .ref (ad 0), .ref (ad 1), .ref (ad 2), .ref (ad 3), .ref (ad 4), .ref (ad 5), .ref (ad 6), .ref (ad 7), .ref (ad 8), .ref (ad 9), .ref (ad 10), .ref (ad 11), .ref (ad 12), .ref (ad 13), .ref (ad 14), .ref (ad 15), .ref ap, .int fe, .int me, .int fu, .int le, .int en, .ref cm, .int sp, .int (nI ka), .int (nI kc), .long v, .int se]) from hD10.2.1) rfl 28 (by decide) (hg _ gw621) (fun _ h9 => h9) rfl (by decide +kernel) rfl rfl (Nat.le_of_ble_eq_true rfl) dM_look_72 (fun H locs hP hS => ?_)
          obtain ⟨f11, hf11⟩ : ∃ z, z = va_up f9 mo (.inr (6, [.int th, .ref (ad 0), .ref (ad 1), .ref (ad 2), .ref (ad 3), .ref (ad 4), .ref (ad 5), .ref (ad 6), .ref (ad 7), .ref (ad 8), .ref (ad 9), .ref (ad 10), .ref (ad 11), .ref (ad 12), .ref (ad 13), .ref (ad 14), .ref (ad 15), .ref ap, .int fe, .int me, .int fu, .int le, .int en, .ref cm, .int sp, .int (nI ka), .int (nI kc), .long v, .int (nI 1)])) := ⟨_, rfl⟩
          have hP : va_P D zCl (va_pl L f11) H := by rw [hf11]; exact hP
          have hs12 : Same1 f9 f11 mo := fun z hz => by rw [hf11, va_up_ne _ _ hz]
          have hD12 : MD tys L f11 mo ap cm ad G th fe me fu le en sp (nI ka) (nI kc) v (nI 1) (upd gc p (nI 1)) := hD10.updO (by rw [hf11]; exact va_up_self _ _ _) hs12
          have hk12 := hD10.keepO hk10 hs12
          have hm12 := hm10.trans (Sm3.ofO hs12)
          have e8 : m_mx sp p se mx (encL (K.2 ka kc)) = v := by unfold m_mx; rw [if_pos c12, if_pos (Or.inr (Int64.not_le.mp (fun z => c62 (by rw [ev]; exact (lg_cmp_le _ _).mpr z))))]; exact ev.symm
          have e9 : m_se sp p se = nI 1 := if_pos c12
          exact ret_v C0 hP hS ⟨by rw [e8, e9]; exact hD12, hk12, hm12⟩ dM_look_75
    · refine lv_lconst (v := 0) hx hb dM_look_27 (by decide) ?_
      refine lv_goto (tgt := 48) hx hb dM_look_28 (by decide) ?_
      have e7 : (0 : Int64) = encL (K.2 ka kc) := by rw [(nI_eq (by omega) (by omega)).mp c24, hok.1.1 kc hkc.1]; rfl
      refine lv_topl (fun v ev0 => ?_)
      have ev : v = encL (K.2 ka kc) := ev0.trans e7
      refine lv_lstore_n (lv' := [(2, .long v), (0, .ref mo), (1, .int (nI p))]) hx hb dM_look_48 rfl hl (by decide) rfl (fun ls hl => ?_)
      refine lv_aload_n hx hb dM_look_49 rfl (lv_at hl 1 rfl) ?_
      refine mm_get (v := .int se) hx hb hg inM hown hK hP hD2.1.1.1 hD2.2.1 rfl 28 (by decide) (hg _ gw621) (fun _ h9 => h9) rfl dM_look_50 ?_
      refine lv_if_eq (tgt := 65) hx hb dM_look_53 (by decide) (fun c53 => ?_) (fun c53 => ?_)
      · refine lv_aload_n hx hb dM_look_65 rfl (lv_at hl 1 rfl) ?_
        refine lv_lload_n hx hb dM_look_66 rfl (lv_at hl 0 rfl) ?_
        refine mm_put (v := .long v) (ty := .long) hx hb hg inM tyM tyM_ok nmM hown hK hn hA hP hS hD2.1.1.1 (show f1 mo = .inr (6, [.int th, .ref (ad 0), .ref (ad 1), .ref (ad 2), .ref (ad 3), .ref (ad 4), .ref (ad 5), .ref (ad 6), .ref (ad 7), .ref (ad 8), .ref (ad 9), .ref (ad 10), .ref (ad 11), .ref (ad 12), .ref (ad 13), .ref (ad 14), .ref (ad 15), .ref ap, .int fe, .int me, .int fu, .int le, .int en, .ref cm, .int sp, .int (nI ka), .int (nI kc), .long mx, .int se]) from hD2.2.1) rfl 27 (by decide) (hg _ gw620) (fun _ h9 => h9) rfl (by decide +kernel) rfl rfl (Nat.le_of_ble_eq_true rfl) dM_look_67 (fun H locs hP hS => ?_)
        obtain ⟨f13, hf13⟩ : ∃ z, z = va_up f1 mo (.inr (6, [.int th, .ref (ad 0), .ref (ad 1), .ref (ad 2), .ref (ad 3), .ref (ad 4), .ref (ad 5), .ref (ad 6), .ref (ad 7), .ref (ad 8), .ref (ad 9), .ref (ad 10), .ref (ad 11), .ref (ad 12), .ref (ad 13), .ref (ad 14), .ref (ad 15), .ref ap, .int fe, .int me, .int fu, .int le, .int en, .ref cm, .int sp, .int (nI ka), .int (nI kc), .long v, .int se])) := ⟨_, rfl⟩
        have hP : va_P D zCl (va_pl L f13) H := by rw [hf13]; exact hP
        have hs14 : Same1 f1 f13 mo := fun z hz => by rw [hf13, va_up_ne _ _ hz]
        have hD14 : MD tys L f13 mo ap cm ad G th fe me fu le en sp (nI ka) (nI kc) v se (upd gc p (nI 1)) := hD2.updO (by rw [hf13]; exact va_up_self _ _ _) hs14
        have hk14 := hD2.keepO hk2 hs14
        have hm14 := hm2.trans (Sm3.ofO hs14)
        refine lv_aload_n hx hb dM_look_70 rfl (lv_at hl 1 rfl) ?_
        refine lv_iconst (v := nI 1) hx hb dM_look_71 (by decide) ?_
        refine mm_put (v := .int (nI 1)) (ty := .boolean) hx hb hg inM tyM tyM_ok nmM hown hK hn hA hP hS hD14.1.1.1 (show f13 mo = .inr (6, [.int th, .ref (ad 0), .ref (ad 1), .ref (ad 2), .ref (ad 3), .ref (ad 4), .ref (ad 5), .ref (ad 6), .ref (ad 7), .ref (ad 8), .ref (ad 9), .ref (ad 10), .ref (ad 11), .ref (ad 12), .ref (ad 13), .ref (ad 14), .ref (ad 15), .ref ap, .int fe, .int me, .int fu, .int le, .int en, .ref cm, .int sp, .int (nI ka), .int (nI kc), .long v, .int se]) from hD14.2.1) rfl 28 (by decide) (hg _ gw621) (fun _ h9 => h9) rfl (by decide +kernel) rfl rfl (Nat.le_of_ble_eq_true rfl) dM_look_72 (fun H locs hP hS => ?_)
        obtain ⟨f15, hf15⟩ : ∃ z, z = va_up f13 mo (.inr (6, [.int th, .ref (ad 0), .ref (ad 1), .ref (ad 2), .ref (ad 3), .ref (ad 4), .ref (ad 5), .ref (ad 6), .ref (ad 7), .ref (ad 8), .ref (ad 9), .ref (ad 10), .ref (ad 11), .ref (ad 12), .ref (ad 13), .ref (ad 14), .ref (ad 15), .ref ap, .int fe, .int me, .int fu, .int le, .int en, .ref cm, .int sp, .int (nI ka), .int (nI kc), .long v, .int (nI 1)])) := ⟨_, rfl⟩
        have hP : va_P D zCl (va_pl L f15) H := by rw [hf15]; exact hP
        have hs16 : Same1 f13 f15 mo := fun z hz => by rw [hf15, va_up_ne _ _ hz]
        have hD16 : MD tys L f15 mo ap cm ad G th fe me fu le en sp (nI ka) (nI kc) v (nI 1) (upd gc p (nI 1)) := hD14.updO (by rw [hf15]; exact va_up_self _ _ _) hs16
        have hk16 := hD14.keepO hk14 hs16
        have hm16 := hm14.trans (Sm3.ofO hs16)
        have e8 : m_mx sp p se mx (encL (K.2 ka kc)) = v := by unfold m_mx; rw [if_pos c12, if_pos (Or.inl c53)]; exact ev.symm
        have e9 : m_se sp p se = nI 1 := if_pos c12
        exact ret_v C0 hP hS ⟨by rw [e8, e9]; exact hD16, hk16, hm16⟩ dM_look_75
      · refine lv_lload_n hx hb dM_look_56 rfl (lv_at hl 0 rfl) ?_
        refine lv_aload_n hx hb dM_look_57 rfl (lv_at hl 1 rfl) ?_
        refine mm_get (v := .long mx) hx hb hg inM hown hK hP hD2.1.1.1 hD2.2.1 rfl 27 (by decide) (hg _ gw620) (fun _ h9 => h9) rfl dM_look_58 ?_
        refine W.lcmp hx hb dM_look_61 ?_
        refine lv_if_le (tgt := 70) hx hb dM_look_62 (by decide) (fun c62 => ?_) (fun c62 => ?_)
        · refine lv_aload_n hx hb dM_look_70 rfl (lv_at hl 1 rfl) ?_
          refine lv_iconst (v := nI 1) hx hb dM_look_71 (by decide) ?_
          refine mm_put (v := .int (nI 1)) (ty := .boolean) hx hb hg inM tyM tyM_ok nmM hown hK hn hA hP hS hD2.1.1.1 (show f1 mo = .inr (6, [.int th, .ref (ad 0), .ref (ad 1), .ref (ad 2), .ref (ad 3), .ref (ad 4), .ref (ad 5), .ref (ad 6), .ref (ad 7), .ref (ad 8), .ref (ad 9), .ref (ad 10), .ref (ad 11), .ref (ad 12), .ref (ad 13), .ref (ad 14), .ref (ad 15), .ref ap, .int fe, .int me, .int fu, .int le, .int en, .ref cm, .int sp, .int (nI ka), .int (nI kc), .long mx, .int se]) from hD2.2.1) rfl 28 (by decide) (hg _ gw621) (fun _ h9 => h9) rfl (by decide +kernel) rfl rfl (Nat.le_of_ble_eq_true rfl) dM_look_72 (fun H locs hP hS => ?_)
          obtain ⟨f17, hf17⟩ : ∃ z, z = va_up f1 mo (.inr (6, [.int th, .ref (ad 0), .ref (ad 1), .ref (ad 2), .ref (ad 3), .ref (ad 4), .ref (ad 5), .ref (ad 6), .ref (ad 7), .ref (ad 8), .ref (ad 9), .ref (ad 10), .ref (ad 11), .ref (ad 12), .ref (ad 13), .ref (ad 14), .ref (ad 15), .ref ap, .int fe, .int me, .int fu, .int le, .int en, .ref cm, .int sp, .int (nI ka), .int (nI kc), .long mx, .int (nI 1)])) := ⟨_, rfl⟩
          have hP : va_P D zCl (va_pl L f17) H := by rw [hf17]; exact hP
          have hs18 : Same1 f1 f17 mo := fun z hz => by rw [hf17, va_up_ne _ _ hz]
          have hD18 : MD tys L f17 mo ap cm ad G th fe me fu le en sp (nI ka) (nI kc) mx (nI 1) (upd gc p (nI 1)) := hD2.updO (by rw [hf17]; exact va_up_self _ _ _) hs18
          have hk18 := hD2.keepO hk2 hs18
          have hm18 := hm2.trans (Sm3.ofO hs18)
          have e8 : m_mx sp p se mx (encL (K.2 ka kc)) = mx := by unfold m_mx; rw [if_pos c12, if_neg (fun z => z.elim c53 (fun z => absurd ((lg_cmp_le _ _).mp (by rw [ev] at c62; exact c62)) (Int64.not_le.mpr z)))]
          have e9 : m_se sp p se = nI 1 := if_pos c12
          exact ret_v C0 hP hS ⟨by rw [e8, e9]; exact hD18, hk18, hm18⟩ dM_look_75
        · refine lv_aload_n hx hb dM_look_65 rfl (lv_at hl 1 rfl) ?_
          refine lv_lload_n hx hb dM_look_66 rfl (lv_at hl 0 rfl) ?_
          refine mm_put (v := .long v) (ty := .long) hx hb hg inM tyM tyM_ok nmM hown hK hn hA hP hS hD2.1.1.1 (show f1 mo = .inr (6, [.int th, .ref (ad 0), .ref (ad 1), .ref (ad 2), .ref (ad 3), .ref (ad 4), .ref (ad 5), .ref (ad 6), .ref (ad 7), .ref (ad 8), .ref (ad 9), .ref (ad 10), .ref (ad 11), .ref (ad 12), .ref (ad 13), .ref (ad 14), .ref (ad 15), .ref ap, .int fe, .int me, .int fu, .int le, .int en, .ref cm, .int sp, .int (nI ka), .int (nI kc), .long mx, .int se]) from hD2.2.1) rfl 27 (by decide) (hg _ gw620) (fun _ h9 => h9) rfl (by decide +kernel) rfl rfl (Nat.le_of_ble_eq_true rfl) dM_look_67 (fun H locs hP hS => ?_)
          obtain ⟨f19, hf19⟩ : ∃ z, z = va_up f1 mo (.inr (6, [.int th, .ref (ad 0), .ref (ad 1), .ref (ad 2), .ref (ad 3), .ref (ad 4), .ref (ad 5), .ref (ad 6), .ref (ad 7), .ref (ad 8), .ref (ad 9), .ref (ad 10), .ref (ad 11), .ref (ad 12), .ref (ad 13), .ref (ad 14), .ref (ad 15), .ref ap, .int fe, .int me, .int fu, .int le, .int en, .ref cm, .int sp, .int (nI ka), .int (nI kc), .long v, .int se])) := ⟨_, rfl⟩
          have hP : va_P D zCl (va_pl L f19) H := by rw [hf19]; exact hP
          have hs20 : Same1 f1 f19 mo := fun z hz => by rw [hf19, va_up_ne _ _ hz]
          have hD20 : MD tys L f19 mo ap cm ad G th fe me fu le en sp (nI ka) (nI kc) v se (upd gc p (nI 1)) := hD2.updO (by rw [hf19]; exact va_up_self _ _ _) hs20
          have hk20 := hD2.keepO hk2 hs20
          have hm20 := hm2.trans (Sm3.ofO hs20)
          refine lv_aload_n hx hb dM_look_70 rfl (lv_at hl 1 rfl) ?_
          refine lv_iconst (v := nI 1) hx hb dM_look_71 (by decide) ?_
          refine mm_put (v := .int (nI 1)) (ty := .boolean) hx hb hg inM tyM tyM_ok nmM hown hK hn hA hP hS hD20.1.1.1 (show f19 mo = .inr (6, [.int th, .ref (ad 0), .ref (ad 1), .ref (ad 2), .ref (ad 3), .ref (ad 4), .ref (ad 5), .ref (ad 6), .ref (ad 7), .ref (ad 8), .ref (ad 9), .ref (ad 10), .ref (ad 11), .ref (ad 12), .ref (ad 13), .ref (ad 14), .ref (ad 15), .ref ap, .int fe, .int me, .int fu, .int le, .int en, .ref cm, .int sp, .int (nI ka), .int (nI kc), .long v, .int se]) from hD20.2.1) rfl 28 (by decide) (hg _ gw621) (fun _ h9 => h9) rfl (by decide +kernel) rfl rfl (Nat.le_of_ble_eq_true rfl) dM_look_72 (fun H locs hP hS => ?_)
          obtain ⟨f21, hf21⟩ : ∃ z, z = va_up f19 mo (.inr (6, [.int th, .ref (ad 0), .ref (ad 1), .ref (ad 2), .ref (ad 3), .ref (ad 4), .ref (ad 5), .ref (ad 6), .ref (ad 7), .ref (ad 8), .ref (ad 9), .ref (ad 10), .ref (ad 11), .ref (ad 12), .ref (ad 13), .ref (ad 14), .ref (ad 15), .ref ap, .int fe, .int me, .int fu, .int le, .int en, .ref cm, .int sp, .int (nI ka), .int (nI kc), .long v, .int (nI 1)])) := ⟨_, rfl⟩
          have hP : va_P D zCl (va_pl L f21) H := by rw [hf21]; exact hP
          have hs22 : Same1 f19 f21 mo := fun z hz => by rw [hf21, va_up_ne _ _ hz]
          have hD22 : MD tys L f21 mo ap cm ad G th fe me fu le en sp (nI ka) (nI kc) v (nI 1) (upd gc p (nI 1)) := hD20.updO (by rw [hf21]; exact va_up_self _ _ _) hs22
          have hk22 := hD20.keepO hk20 hs22
          have hm22 := hm20.trans (Sm3.ofO hs22)
          have e8 : m_mx sp p se mx (encL (K.2 ka kc)) = v := by unfold m_mx; rw [if_pos c12, if_pos (Or.inr (Int64.not_le.mp (fun z => c62 (by rw [ev]; exact (lg_cmp_le _ _).mpr z))))]; exact ev.symm
          have e9 : m_se sp p se = nI 1 := if_pos c12
          exact ret_v C0 hP hS ⟨by rw [e8, e9]; exact hD22, hk22, hm22⟩ dM_look_75
  · have e8 : m_mx sp p se mx (encL (K.2 ka kc)) = mx := if_neg c12
    have e9 : m_se sp p se = se := if_neg c12
    exact ret_v C0 hP hS ⟨by rw [e8, e9]; exact hD2, hk2, hm2⟩ dM_look_15
theorem nb_f {b : Bool} (h : (!b) = false) : b = true := by cases b; cases h; rfl
def m_np (σ : Sg) (x y : Int32) : Bool := !q_fn x || !q_in y (nI 0) (nI (sz σ (nt x)))
set_option maxRecDepth 100000 in
set_option maxHeartbeats 4000000 in
theorem m_noPlace {l : Launch} {D : va_G} {tys : List (ClassId × FieldType)} {L : List Nat} {f : Nat → va_E} (hn : L.Nodup) {mo ap cm : Nat} {ad : Nat → Nat} {G : Nat → Nat → Int32} {th fe me fu le en sp ka kc se : Int32} {mx : Int64} {gc : Nat → Int32} {σ : Sg} {x y : Int32} (hM : MT σ G) (hD : MD tys L f mo ap cm ad G th fe me fu le en sp ka kc mx se gc) : MetI l yM_noPlace wM_noPlace ({ frames := 2, cells := 0, slots := 0, locals := 42 } : Room) D tys L f [.ref mo, .int x, .int y] (fun r f' => r = kb (m_np σ x y) ∧ f' = f) := by
  refine met_of "LiquidCheckerModel" (by decide) rfl (Nat.le_of_ble_eq_true rfl) ?_
  intro pgm e s m below meth c ls C0 hP hl
  obtain ⟨hx, hb, hml, hown, hg, hr, hlocks, hK, hN⟩ := id C0
  have hA : ∀ a ∈ L, inL L a := fun _ h => h
  obtain ⟨H, hH⟩ : ∃ z, z = s.heap := ⟨_, rfl⟩
  rw [← hH] at hP ⊢
  have hS : va_S (inL L) s.heap H [] := by rw [hH]; exact va_S.rf
  have hl : lv_has ls 3 [(0, .ref mo), (1, .int x), (2, .int y)] := hl
  refine lv_iload_n hx hb dM_noPlace_0 rfl (lv_at hl 1 rfl) ?_
  refine then_i (run_S (n := 1) (As := [.int x]) (rest := []) C0 (m_noFunction hn) gw693 gw691 gw692 gw7 (by decide +kernel) ⟨Nat.le_of_ble_eq_true rfl, Nat.le_of_ble_eq_true rfl⟩ rfl rfl ⟨Nat.le_of_ble_eq_true rfl, Nat.le_of_ble_eq_true rfl⟩ hP rfl hl.1 rfl (Nat.le_of_ble_eq_true rfl) dM_noPlace_1) hS hA (fun r2 f1 H locs hq1 hP hS => ?_)
  obtain ⟨er2, ef1⟩ := hq1
  subst er2
  rw [ef1] at hP
  refine lv_if_ne (tgt := 21) hx hb dM_noPlace_4 (by decide) (fun c4 => ?_) (fun c4 => ?_)
  · have c4 : (!q_fn x) = true := kb_t.mp c4
    refine lv_iconst (v := nI 1) hx hb dM_noPlace_21 (by decide) ?_
    refine lv_goto (tgt := 26) hx hb dM_noPlace_22 (by decide) ?_
    exact ret_z C0 rfl hP hS ⟨by unfold m_np; rw [c4]; rfl, rfl⟩ dM_noPlace_26
  · have c4 : (!q_fn x) = false := kb_0.mp c4
    obtain ⟨i0, hi0, hx1⟩ := q_fn_nI (nb_f c4)
    refine lv_iload_n hx hb dM_noPlace_7 rfl (lv_at hl 2 rfl) ?_
    refine lv_iconst (v := nI 0) hx hb dM_noPlace_8 (by decide) ?_
    refine lv_aload_n hx hb dM_noPlace_9 rfl (lv_at hl 0 rfl) ?_
    refine mm_get (v := .ref (ad 9)) hx hb hg inM hown hK hP hD.1.1.1 hD.2.1 rfl 10 (by decide) (hg _ gw603) (fun _ h9 => h9) rfl dM_noPlace_10 ?_
    refine lv_iload_n hx hb dM_noPlace_13 rfl (lv_at hl 1 rfl) ?_
    refine lv_topi (fun x9 e9 => ?_)
    obtain rfl : x9 = nI i0 := e9.trans hx1
    refine mm_iald hx hb hK hP (hD.1.2 9 (by decide)).1 (show mm_I tys f (ad 9) 4 (G 9) from (hD.1.2 9 (by decide)).2) (vp_in_nI (show i0 < 4 by omega) (by omega)) dM_noPlace_14 ?_
    rw [nI_clamp (by omega)]
    rw [hM.2.2.2 i0 hi0]
    refine then_i (run_S (n := 3) (As := [.int y, .int (nI 0), .int (nI (sz σ i0))]) (rest := []) C0 (m_in hn) gw696 gw694 gw695 gw7 (by decide +kernel) ⟨Nat.le_of_ble_eq_true rfl, Nat.le_of_ble_eq_true rfl⟩ rfl rfl ⟨Nat.le_of_ble_eq_true rfl, Nat.le_of_ble_eq_true rfl⟩ hP rfl hl.1 rfl (Nat.le_of_ble_eq_true rfl) dM_noPlace_15) hS hA (fun r4 f3 H locs hq15 hP hS => ?_)
    obtain ⟨er4, ef3⟩ := hq15
    subst er4
    rw [ef3] at hP
    refine lv_if_ne (tgt := 25) hx hb dM_noPlace_18 (by decide) (fun c18 => ?_) (fun c18 => ?_)
    · have c18 : (q_in y (nI 0) (nI (sz σ i0))) = true := kb_t.mp c18
      refine lv_iconst (v := nI 0) hx hb dM_noPlace_25 (by decide) ?_
      exact ret_z C0 rfl hP hS ⟨by unfold m_np; rw [nb_f c4, show nt x = i0 by rw [hx1, nt_nI (n := i0) (by omega)], c18]; rfl, rfl⟩ dM_noPlace_26
    · have c18 : (q_in y (nI 0) (nI (sz σ i0))) = false := kb_0.mp c18
      refine lv_iconst (v := nI 1) hx hb dM_noPlace_21 (by decide) ?_
      refine lv_goto (tgt := 26) hx hb dM_noPlace_22 (by decide) ?_
      exact ret_z C0 rfl hP hS ⟨by unfold m_np; rw [nb_f c4, show nt x = i0 by rw [hx1, nt_nI (n := i0) (by omega)], c18]; rfl, rfl⟩ dM_noPlace_26
