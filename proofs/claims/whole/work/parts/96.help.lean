/-! The law's nine helpers. -/
theorem xc_IAE : Cond.castable "java/lang/IllegalArgumentException" "java/lang/IllegalArgumentException" ∈ XWW := List.mem_filter.mpr ⟨by decide +kernel, rfl⟩
theorem xc_ISE : Cond.castable "java/lang/IllegalStateException" "java/lang/IllegalStateException" ∈ XWW := List.mem_filter.mpr ⟨by decide +kernel, rfl⟩
theorem xc_UOE : Cond.castable "java/lang/UnsupportedOperationException" "java/lang/UnsupportedOperationException" ∈ XWW := List.mem_filter.mpr ⟨by decide +kernel, rfl⟩
theorem xc_NSE : Cond.castable "java/util/NoSuchElementException" "java/util/NoSuchElementException" ∈ XWW := List.mem_filter.mpr ⟨by decide +kernel, rfl⟩
theorem xc_AE : Cond.castable "java/lang/ArithmeticException" "java/lang/ArithmeticException" ∈ XWW := List.mem_filter.mpr ⟨by decide +kernel, rfl⟩
abbrev hL_refine : List (Nat × Nat × Nat × Nat) := [(0, 16, 19, 13), (0, 16, 23, 15)]
abbrev wL_refine : List Cond := Cond.codeWith yL_refine cL_refine 8 (some .int) hL_refine :: GW
theorem gcL_refine : Cond.codeWith yL_refine cL_refine 8 (some .int) hL_refine ∈ GW := gw195
set_option maxRecDepth 100000 in
set_option maxHeartbeats 4000000 in
theorem h_refine {l : Launch} {D : va_G} {tys : List (ClassId × FieldType)} {L : List Nat} {f : Nat → va_E} {sAd : Nat → Nat} (hn : L.Nodup) {cc ot : Nat} {fs : List Value} {p0 p1 p2 p3 p4 : Int32} {post : Int32 → (Nat → va_E) → Prop} {xp : String → Prop} (hcL : cc ∈ L) (hc : f cc = .inr (5, fs)) (hot : ot ∈ L) (hM : MetX l yC_refine wC_refine ({ frames := 6, cells := 1, slots := 6, locals := 100 } : Room) D tys L f sAd [.ref cc, .int p0, .int p1, .int p2, .int p3, .int p4] post xp) (hpo : ∀ r f3, post r f3 → ∃ g, mm_J tys f3 ot 1 g) (hxp : ∀ E, xp E → E = "java/lang/IllegalArgumentException" ∨ E = "java/lang/IllegalStateException") : MetH l yL_refine wL_refine ({ frames := 7, cells := 1, slots := 6, locals := 127 } : Room) D tys L f sAd [.ref cc, .int p0, .int p1, .int p2, .int p3, .int p4, .ref ot] (fun k f2 => (k = nI 0 ∧ ∃ v f3 g, post v f3 ∧ mm_J tys f3 ot 1 g ∧ f2 = mm_sj f3 ot (vp_updL g 0 v.toInt64)) ∨ (k = nI 1 ∧ xp "java/lang/IllegalArgumentException" ∧ f2 = f) ∨ (k = nI 2 ∧ xp "java/lang/IllegalStateException" ∧ f2 = f)) := by
  refine meth_of "LiquidCheckerLaw" (by decide) rfl (Nat.le_of_ble_eq_true rfl) ?_
  intro pgm e s m below meth cd ls C0 hX hnn ht hP hl
  obtain ⟨hx, hb, hml, hown, hg, hr, hlocks, hK, hN⟩ := id C0
  have hA : ∀ a ∈ L, inL L a := fun _ h => h
  obtain ⟨H, hH⟩ : ∃ z, z = s.heap := ⟨_, rfl⟩
  rw [← hH] at hP ⊢
  have hS : va_S (inL L) s.heap H [] := by rw [hH]; exact va_S.rf
  have hl : lv_has ls 8 [(0, .ref cc), (1, .int p0), (2, .int p1), (3, .int p2), (4, .int p3), (5, .int p4), (6, .ref ot)] := hl
  refine lv_aload hx hb dL_refine_0 (lv_at hl 6 rfl) ?_
  refine lv_iconst (v := nI 0) hx hb dL_refine_2 (by decide) ?_
  refine lv_aload_n hx hb dL_refine_3 rfl (lv_at hl 0 rfl) ?_
  refine lv_iload_n hx hb dL_refine_4 rfl (lv_at hl 1 rfl) ?_
  refine lv_iload_n hx hb dL_refine_5 rfl (lv_at hl 2 rfl) ?_
  refine lv_iload_n hx hb dL_refine_6 rfl (lv_at hl 3 rfl) ?_
  refine lv_iload hx hb dL_refine_7 (lv_at hl 4 rfl) ?_
  refine lv_iload hx hb dL_refine_9 (lv_at hl 5 rfl) ?_
  refine then_x (run_X (n := 5) (As := [.int p0, .int p1, .int p2, .int p3, .int p4]) (rest := [.int (nI 0), .ref ot]) C0 hX hS hM gw201 gw198 gw199 gsC_refine gw1 (by decide +kernel) ⟨Nat.le_of_ble_eq_true rfl, Nat.le_of_ble_eq_true rfl⟩ rfl rfl ⟨Nat.le_of_ble_eq_true rfl, Nat.le_of_ble_eq_true rfl⟩ hP hcL hc rfl rfl rfl hl.1 rfl (Nat.le_of_ble_eq_true rfl) dL_refine_11) hS (fun E ce q9 H locs hx9 hP hS hce hcv hcf => ?_) (fun r1 fq H locs hq9 hP hS => ?_)
  · rcases hxp E hx9 with rfl | rfl
    · refine catch_h (k := 0) (name := "java/lang/IllegalArgumentException") (hpc := 19) (ty := 13) (ep := 16) C0 hX hnn ht (by decide) rfl (by decide) (by decide) gw196 xc_IAE (fun z hz => by cases hz) hce hcv hcf ?_
      refine lv_astore (lv' := [(7, .ref q9), (0, .ref cc), (1, .int p0), (2, .int p1), (3, .int p2), (4, .int p3), (5, .int p4), (6, .ref ot)]) hx hb dL_refine_19 hl (by decide) rfl (fun ls hl => ?_)
      refine lv_iconst (v := nI 1) hx hb dL_refine_21 (by decide) ?_
      exact ret_h C0 hP hS (Or.inr (Or.inl ⟨rfl, hx9, rfl⟩)) dL_refine_22
    · refine catch_h (k := 1) (name := "java/lang/IllegalStateException") (hpc := 23) (ty := 15) (ep := 16) C0 hX hnn ht (by decide) rfl (by decide) (by decide) gw197 xc_ISE (List.forall_mem_cons.mpr ⟨⟨by decide, "java/lang/IllegalArgumentException", gw196, by decide +kernel⟩, fun z hz => by cases hz⟩) hce hcv hcf ?_
      refine lv_astore (lv' := [(7, .ref q9), (0, .ref cc), (1, .int p0), (2, .int p1), (3, .int p2), (4, .int p3), (5, .int p4), (6, .ref ot)]) hx hb dL_refine_23 hl (by decide) rfl (fun ls hl => ?_)
      refine lv_iconst (v := nI 2) hx hb dL_refine_25 (by decide) ?_
      exact ret_h C0 hP hS (Or.inr (Or.inr (⟨rfl, hx9, rfl⟩))) dL_refine_26
  · obtain ⟨g9, hj9⟩ := hpo r1 fq hq9
    refine lv_i2l hx hb dL_refine_14 rfl ?_
    refine mm_last hx hb hK hn hA hP hS hot hj9 (vp_in_nI (show 0 < 1 by omega) (by omega)) dL_refine_15 (fun H locs hP hS => ?_)
    rw [nI_clamp (by omega)] at hP
    obtain ⟨f1, hf1⟩ : ∃ z, z = mm_sj fq ot (vp_updL g9 0 r1.toInt64) := ⟨_, rfl⟩
    have hP : va_P D zCl (va_pl L f1) H := by rw [hf1]; exact hP
    have p2 : mm_J tys f1 ot 1 (vp_updL g9 0 r1.toInt64) := by rw [hf1]; exact hj9.set
    refine lv_goto (tgt := 27) hx hb dL_refine_16 (by decide) ?_
    refine lv_iconst (v := nI 0) hx hb dL_refine_27 (by decide) ?_
    exact ret_h C0 hP hS (Or.inl ⟨rfl, r1, fq, g9, hq9, hj9, hf1⟩) dL_refine_28
abbrev hL_statement : List (Nat × Nat × Nat × Nat) := [(0, 18, 21, 13), (0, 18, 25, 21), (0, 18, 29, 15)]
abbrev wL_statement : List Cond := Cond.codeWith yL_statement cL_statement 9 (some .int) hL_statement :: GW
theorem gcL_statement : Cond.codeWith yL_statement cL_statement 9 (some .int) hL_statement ∈ GW := gw304
set_option maxRecDepth 100000 in
set_option maxHeartbeats 4000000 in
theorem h_statement {l : Launch} {D : va_G} {tys : List (ClassId × FieldType)} {L : List Nat} {f : Nat → va_E} {sAd : Nat → Nat} (hn : L.Nodup) {cc ot : Nat} {fs : List Value} {p0 p1 p2 p3 p4 p5 : Int32} {post : Int32 → (Nat → va_E) → Prop} {xp : String → Prop} (hcL : cc ∈ L) (hc : f cc = .inr (5, fs)) (hot : ot ∈ L) (hM : MetX l yC_statement wC_statement ({ frames := 6, cells := 1, slots := 6, locals := 100 } : Room) D tys L f sAd [.ref cc, .int p0, .int p1, .int p2, .int p3, .int p4, .int p5] post xp) (hpo : ∀ r f3, post r f3 → ∃ g, mm_J tys f3 ot 1 g) (hxp : ∀ E, xp E → E = "java/lang/IllegalArgumentException" ∨ E = "java/lang/UnsupportedOperationException" ∨ E = "java/lang/IllegalStateException") : MetH l yL_statement wL_statement ({ frames := 7, cells := 1, slots := 6, locals := 127 } : Room) D tys L f sAd [.ref cc, .int p0, .int p1, .int p2, .int p3, .int p4, .int p5, .ref ot] (fun k f2 => (k = nI 0 ∧ ∃ v f3 g, post v f3 ∧ mm_J tys f3 ot 1 g ∧ f2 = mm_sj f3 ot (vp_updL g 0 v.toInt64)) ∨ (k = nI 1 ∧ xp "java/lang/IllegalArgumentException" ∧ f2 = f) ∨ (k = nI 2 ∧ xp "java/lang/UnsupportedOperationException" ∧ f2 = f) ∨ (k = nI 3 ∧ xp "java/lang/IllegalStateException" ∧ f2 = f)) := by
  refine meth_of "LiquidCheckerLaw" (by decide) rfl (Nat.le_of_ble_eq_true rfl) ?_
  intro pgm e s m below meth cd ls C0 hX hnn ht hP hl
  obtain ⟨hx, hb, hml, hown, hg, hr, hlocks, hK, hN⟩ := id C0
  have hA : ∀ a ∈ L, inL L a := fun _ h => h
  obtain ⟨H, hH⟩ : ∃ z, z = s.heap := ⟨_, rfl⟩
  rw [← hH] at hP ⊢
  have hS : va_S (inL L) s.heap H [] := by rw [hH]; exact va_S.rf
  have hl : lv_has ls 9 [(0, .ref cc), (1, .int p0), (2, .int p1), (3, .int p2), (4, .int p3), (5, .int p4), (6, .int p5), (7, .ref ot)] := hl
  refine lv_aload hx hb dL_statement_0 (lv_at hl 7 rfl) ?_
  refine lv_iconst (v := nI 0) hx hb dL_statement_2 (by decide) ?_
  refine lv_aload_n hx hb dL_statement_3 rfl (lv_at hl 0 rfl) ?_
  refine lv_iload_n hx hb dL_statement_4 rfl (lv_at hl 1 rfl) ?_
  refine lv_iload_n hx hb dL_statement_5 rfl (lv_at hl 2 rfl) ?_
  refine lv_iload_n hx hb dL_statement_6 rfl (lv_at hl 3 rfl) ?_
  refine lv_iload hx hb dL_statement_7 (lv_at hl 4 rfl) ?_
  refine lv_iload hx hb dL_statement_9 (lv_at hl 5 rfl) ?_
  refine lv_iload hx hb dL_statement_11 (lv_at hl 6 rfl) ?_
  refine then_x (run_X (n := 6) (As := [.int p0, .int p1, .int p2, .int p3, .int p4, .int p5]) (rest := [.int (nI 0), .ref ot]) C0 hX hS hM gw309 gw306 gw307 gsC_statement gw1 (by decide +kernel) ⟨Nat.le_of_ble_eq_true rfl, Nat.le_of_ble_eq_true rfl⟩ rfl rfl ⟨Nat.le_of_ble_eq_true rfl, Nat.le_of_ble_eq_true rfl⟩ hP hcL hc rfl rfl rfl hl.1 rfl (Nat.le_of_ble_eq_true rfl) dL_statement_13) hS (fun E ce q9 H locs hx9 hP hS hce hcv hcf => ?_) (fun r1 fq H locs hq9 hP hS => ?_)
  · rcases hxp E hx9 with rfl | rfl | rfl
    · refine catch_h (k := 0) (name := "java/lang/IllegalArgumentException") (hpc := 21) (ty := 13) (ep := 18) C0 hX hnn ht (by decide) rfl (by decide) (by decide) gw196 xc_IAE (fun z hz => by cases hz) hce hcv hcf ?_
      refine lv_astore (lv' := [(8, .ref q9), (0, .ref cc), (1, .int p0), (2, .int p1), (3, .int p2), (4, .int p3), (5, .int p4), (6, .int p5), (7, .ref ot)]) hx hb dL_statement_21 hl (by decide) rfl (fun ls hl => ?_)
      refine lv_iconst (v := nI 1) hx hb dL_statement_23 (by decide) ?_
      exact ret_h C0 hP hS (Or.inr (Or.inl ⟨rfl, hx9, rfl⟩)) dL_statement_24
    · refine catch_h (k := 1) (name := "java/lang/UnsupportedOperationException") (hpc := 25) (ty := 21) (ep := 18) C0 hX hnn ht (by decide) rfl (by decide) (by decide) gw305 xc_UOE (List.forall_mem_cons.mpr ⟨⟨by decide, "java/lang/IllegalArgumentException", gw196, by decide +kernel⟩, fun z hz => by cases hz⟩) hce hcv hcf ?_
      refine lv_astore (lv' := [(8, .ref q9), (0, .ref cc), (1, .int p0), (2, .int p1), (3, .int p2), (4, .int p3), (5, .int p4), (6, .int p5), (7, .ref ot)]) hx hb dL_statement_25 hl (by decide) rfl (fun ls hl => ?_)
      refine lv_iconst (v := nI 2) hx hb dL_statement_27 (by decide) ?_
      exact ret_h C0 hP hS (Or.inr (Or.inr (Or.inl ⟨rfl, hx9, rfl⟩))) dL_statement_28
    · refine catch_h (k := 2) (name := "java/lang/IllegalStateException") (hpc := 29) (ty := 15) (ep := 18) C0 hX hnn ht (by decide) rfl (by decide) (by decide) gw197 xc_ISE (List.forall_mem_cons.mpr ⟨⟨by decide, "java/lang/IllegalArgumentException", gw196, by decide +kernel⟩, List.forall_mem_cons.mpr ⟨⟨by decide, "java/lang/UnsupportedOperationException", gw305, by decide +kernel⟩, fun z hz => by cases hz⟩⟩) hce hcv hcf ?_
      refine lv_astore (lv' := [(8, .ref q9), (0, .ref cc), (1, .int p0), (2, .int p1), (3, .int p2), (4, .int p3), (5, .int p4), (6, .int p5), (7, .ref ot)]) hx hb dL_statement_29 hl (by decide) rfl (fun ls hl => ?_)
      refine lv_iconst (v := nI 3) hx hb dL_statement_31 (by decide) ?_
      exact ret_h C0 hP hS (Or.inr (Or.inr (Or.inr (⟨rfl, hx9, rfl⟩)))) dL_statement_32
  · obtain ⟨g9, hj9⟩ := hpo r1 fq hq9
    refine lv_i2l hx hb dL_statement_16 rfl ?_
    refine mm_last hx hb hK hn hA hP hS hot hj9 (vp_in_nI (show 0 < 1 by omega) (by omega)) dL_statement_17 (fun H locs hP hS => ?_)
    rw [nI_clamp (by omega)] at hP
    obtain ⟨f1, hf1⟩ : ∃ z, z = mm_sj fq ot (vp_updL g9 0 r1.toInt64) := ⟨_, rfl⟩
    have hP : va_P D zCl (va_pl L f1) H := by rw [hf1]; exact hP
    have p2 : mm_J tys f1 ot 1 (vp_updL g9 0 r1.toInt64) := by rw [hf1]; exact hj9.set
    refine lv_goto (tgt := 33) hx hb dL_statement_18 (by decide) ?_
    refine lv_iconst (v := nI 0) hx hb dL_statement_33 (by decide) ?_
    exact ret_h C0 hP hS (Or.inl ⟨rfl, r1, fq, g9, hq9, hj9, hf1⟩) dL_statement_34
abbrev hL_clear : List (Nat × Nat × Nat × Nat) := [(0, 9, 12, 13)]
abbrev wL_clear : List Cond := Cond.codeWith yL_clear cL_clear 4 (some .int) hL_clear :: GW
theorem gcL_clear : Cond.codeWith yL_clear cL_clear 4 (some .int) hL_clear ∈ GW := gw391
set_option maxRecDepth 100000 in
set_option maxHeartbeats 4000000 in
theorem h_clear {l : Launch} {D : va_G} {tys : List (ClassId × FieldType)} {L : List Nat} {f : Nat → va_E} {sAd : Nat → Nat} (hn : L.Nodup) {cc ot : Nat} {fs : List Value} {p0 : Int32} {post : Int32 → (Nat → va_E) → Prop} {xp : String → Prop} (hcL : cc ∈ L) (hc : f cc = .inr (5, fs)) (hot : ot ∈ L) (hM : MetX l yC_clear wC_clear ({ frames := 6, cells := 1, slots := 6, locals := 100 } : Room) D tys L f sAd [.ref cc, .int p0] post xp) (hpo : ∀ r f3, post r f3 → ∃ g, mm_J tys f3 ot 1 g) (hxp : ∀ E, xp E → E = "java/lang/IllegalArgumentException") : MetH l yL_clear wL_clear ({ frames := 7, cells := 1, slots := 6, locals := 122 } : Room) D tys L f sAd [.ref cc, .int p0, .ref ot] (fun k f2 => (k = nI 0 ∧ ∃ v f3 g, post v f3 ∧ mm_J tys f3 ot 1 g ∧ f2 = mm_sj f3 ot (vp_updL g 0 v.toInt64)) ∨ (k = nI 1 ∧ xp "java/lang/IllegalArgumentException" ∧ f2 = f)) := by
  refine meth_of "LiquidCheckerLaw" (by decide) rfl (Nat.le_of_ble_eq_true rfl) ?_
  intro pgm e s m below meth cd ls C0 hX hnn ht hP hl
  obtain ⟨hx, hb, hml, hown, hg, hr, hlocks, hK, hN⟩ := id C0
  have hA : ∀ a ∈ L, inL L a := fun _ h => h
  obtain ⟨H, hH⟩ : ∃ z, z = s.heap := ⟨_, rfl⟩
  rw [← hH] at hP ⊢
  have hS : va_S (inL L) s.heap H [] := by rw [hH]; exact va_S.rf
  have hl : lv_has ls 4 [(0, .ref cc), (1, .int p0), (2, .ref ot)] := hl
  refine lv_aload_n hx hb dL_clear_0 rfl (lv_at hl 2 rfl) ?_
  refine lv_iconst (v := nI 0) hx hb dL_clear_1 (by decide) ?_
  refine lv_aload_n hx hb dL_clear_2 rfl (lv_at hl 0 rfl) ?_
  refine lv_iload_n hx hb dL_clear_3 rfl (lv_at hl 1 rfl) ?_
  refine then_x (run_X (n := 1) (As := [.int p0]) (rest := [.int (nI 0), .ref ot]) C0 hX hS hM gw395 gw392 gw393 gsC_clear gw1 (by decide +kernel) ⟨Nat.le_of_ble_eq_true rfl, Nat.le_of_ble_eq_true rfl⟩ rfl rfl ⟨Nat.le_of_ble_eq_true rfl, Nat.le_of_ble_eq_true rfl⟩ hP hcL hc rfl rfl rfl hl.1 rfl (Nat.le_of_ble_eq_true rfl) dL_clear_4) hS (fun E ce q9 H locs hx9 hP hS hce hcv hcf => ?_) (fun r1 fq H locs hq9 hP hS => ?_)
  · rcases hxp E hx9 with rfl
    refine catch_h (k := 0) (name := "java/lang/IllegalArgumentException") (hpc := 12) (ty := 13) (ep := 9) C0 hX hnn ht (by decide) rfl (by decide) (by decide) gw196 xc_IAE (fun z hz => by cases hz) hce hcv hcf ?_
    refine lv_astore_n (lv' := [(3, .ref q9), (0, .ref cc), (1, .int p0), (2, .ref ot)]) hx hb dL_clear_12 rfl hl (by decide) rfl (fun ls hl => ?_)
    refine lv_iconst (v := nI 1) hx hb dL_clear_13 (by decide) ?_
    exact ret_h C0 hP hS (Or.inr (⟨rfl, hx9, rfl⟩)) dL_clear_14
  · obtain ⟨g9, hj9⟩ := hpo r1 fq hq9
    refine lv_i2l hx hb dL_clear_7 rfl ?_
    refine mm_last hx hb hK hn hA hP hS hot hj9 (vp_in_nI (show 0 < 1 by omega) (by omega)) dL_clear_8 (fun H locs hP hS => ?_)
    rw [nI_clamp (by omega)] at hP
    obtain ⟨f1, hf1⟩ : ∃ z, z = mm_sj fq ot (vp_updL g9 0 r1.toInt64) := ⟨_, rfl⟩
    have hP : va_P D zCl (va_pl L f1) H := by rw [hf1]; exact hP
    have p2 : mm_J tys f1 ot 1 (vp_updL g9 0 r1.toInt64) := by rw [hf1]; exact hj9.set
    refine lv_goto (tgt := 15) hx hb dL_clear_9 (by decide) ?_
    refine lv_iconst (v := nI 0) hx hb dL_clear_15 (by decide) ?_
    exact ret_h C0 hP hS (Or.inl ⟨rfl, r1, fq, g9, hq9, hj9, hf1⟩) dL_clear_16
abbrev hL_check : List (Nat × Nat × Nat × Nat) := [(0, 9, 12, 13)]
abbrev wL_check : List Cond := Cond.codeWith yL_check cL_check 4 (some .int) hL_check :: GW
theorem gcL_check : Cond.codeWith yL_check cL_check 4 (some .int) hL_check ∈ GW := gw403
set_option maxRecDepth 100000 in
set_option maxHeartbeats 4000000 in
theorem h_check {l : Launch} {D : va_G} {tys : List (ClassId × FieldType)} {L : List Nat} {f : Nat → va_E} {sAd : Nat → Nat} (hn : L.Nodup) {cc ot : Nat} {fs : List Value} {p0 : Int32} {post : Int32 → (Nat → va_E) → Prop} {xp : String → Prop} (hcL : cc ∈ L) (hc : f cc = .inr (5, fs)) (hot : ot ∈ L) (hM : MetX l yC_check wC_check ({ frames := 6, cells := 1, slots := 6, locals := 152 } : Room) D tys L f sAd [.ref cc, .int p0] post xp) (hpo : ∀ r f3, post r f3 → ∃ g, mm_J tys f3 ot 1 g) (hxp : ∀ E, xp E → E = "java/lang/IllegalArgumentException") : MetH l yL_check wL_check ({ frames := 7, cells := 1, slots := 6, locals := 173 } : Room) D tys L f sAd [.ref cc, .int p0, .ref ot] (fun k f2 => (k = nI 0 ∧ ∃ v f3 g, post v f3 ∧ mm_J tys f3 ot 1 g ∧ f2 = mm_sj f3 ot (vp_updL g 0 v.toInt64)) ∨ (k = nI 1 ∧ xp "java/lang/IllegalArgumentException" ∧ f2 = f)) := by
  refine meth_of "LiquidCheckerLaw" (by decide) rfl (Nat.le_of_ble_eq_true rfl) ?_
  intro pgm e s m below meth cd ls C0 hX hnn ht hP hl
  obtain ⟨hx, hb, hml, hown, hg, hr, hlocks, hK, hN⟩ := id C0
  have hA : ∀ a ∈ L, inL L a := fun _ h => h
  obtain ⟨H, hH⟩ : ∃ z, z = s.heap := ⟨_, rfl⟩
  rw [← hH] at hP ⊢
  have hS : va_S (inL L) s.heap H [] := by rw [hH]; exact va_S.rf
  have hl : lv_has ls 4 [(0, .ref cc), (1, .int p0), (2, .ref ot)] := hl
  refine lv_aload_n hx hb dL_check_0 rfl (lv_at hl 2 rfl) ?_
  refine lv_iconst (v := nI 0) hx hb dL_check_1 (by decide) ?_
  refine lv_aload_n hx hb dL_check_2 rfl (lv_at hl 0 rfl) ?_
  refine lv_iload_n hx hb dL_check_3 rfl (lv_at hl 1 rfl) ?_
  refine then_x (run_X (n := 1) (As := [.int p0]) (rest := [.int (nI 0), .ref ot]) C0 hX hS hM gw407 gw404 gw405 gsC_check gw1 (by decide +kernel) ⟨Nat.le_of_ble_eq_true rfl, Nat.le_of_ble_eq_true rfl⟩ rfl rfl ⟨Nat.le_of_ble_eq_true rfl, Nat.le_of_ble_eq_true rfl⟩ hP hcL hc rfl rfl rfl hl.1 rfl (Nat.le_of_ble_eq_true rfl) dL_check_4) hS (fun E ce q9 H locs hx9 hP hS hce hcv hcf => ?_) (fun r1 fq H locs hq9 hP hS => ?_)
  · rcases hxp E hx9 with rfl
    refine catch_h (k := 0) (name := "java/lang/IllegalArgumentException") (hpc := 12) (ty := 13) (ep := 9) C0 hX hnn ht (by decide) rfl (by decide) (by decide) gw196 xc_IAE (fun z hz => by cases hz) hce hcv hcf ?_
    refine lv_astore_n (lv' := [(3, .ref q9), (0, .ref cc), (1, .int p0), (2, .ref ot)]) hx hb dL_check_12 rfl hl (by decide) rfl (fun ls hl => ?_)
    refine lv_iconst (v := nI 1) hx hb dL_check_13 (by decide) ?_
    exact ret_h C0 hP hS (Or.inr (⟨rfl, hx9, rfl⟩)) dL_check_14
  · obtain ⟨g9, hj9⟩ := hpo r1 fq hq9
    refine lv_i2l hx hb dL_check_7 rfl ?_
    refine mm_last hx hb hK hn hA hP hS hot hj9 (vp_in_nI (show 0 < 1 by omega) (by omega)) dL_check_8 (fun H locs hP hS => ?_)
    rw [nI_clamp (by omega)] at hP
    obtain ⟨f1, hf1⟩ : ∃ z, z = mm_sj fq ot (vp_updL g9 0 r1.toInt64) := ⟨_, rfl⟩
    have hP : va_P D zCl (va_pl L f1) H := by rw [hf1]; exact hP
    have p2 : mm_J tys f1 ot 1 (vp_updL g9 0 r1.toInt64) := by rw [hf1]; exact hj9.set
    refine lv_goto (tgt := 15) hx hb dL_check_9 (by decide) ?_
    refine lv_iconst (v := nI 0) hx hb dL_check_15 (by decide) ?_
    exact ret_h C0 hP hS (Or.inl ⟨rfl, r1, fq, g9, hq9, hj9, hf1⟩) dL_check_16
abbrev hL_ways : List (Nat × Nat × Nat × Nat) := [(0, 9, 12, 13)]
abbrev wL_ways : List Cond := Cond.codeWith yL_ways cL_ways 4 (some .int) hL_ways :: GW
theorem gcL_ways : Cond.codeWith yL_ways cL_ways 4 (some .int) hL_ways ∈ GW := gw505
set_option maxRecDepth 100000 in
set_option maxHeartbeats 4000000 in
theorem h_ways {l : Launch} {D : va_G} {tys : List (ClassId × FieldType)} {L : List Nat} {f : Nat → va_E} {sAd : Nat → Nat} (hn : L.Nodup) {cc ot : Nat} {fs : List Value} {p0 : Int32} {post : Int32 → (Nat → va_E) → Prop} {xp : String → Prop} (hcL : cc ∈ L) (hc : f cc = .inr (5, fs)) (hot : ot ∈ L) (hM : MetX l yC_ways wC_ways ({ frames := 6, cells := 1, slots := 6, locals := 152 } : Room) D tys L f sAd [.ref cc, .int p0] post xp) (hpo : ∀ r f3, post r f3 → ∃ g, mm_J tys f3 ot 1 g) (hxp : ∀ E, xp E → E = "java/lang/IllegalArgumentException") : MetH l yL_ways wL_ways ({ frames := 7, cells := 1, slots := 6, locals := 173 } : Room) D tys L f sAd [.ref cc, .int p0, .ref ot] (fun k f2 => (k = nI 0 ∧ ∃ v f3 g, post v f3 ∧ mm_J tys f3 ot 1 g ∧ f2 = mm_sj f3 ot (vp_updL g 0 v.toInt64)) ∨ (k = nI 1 ∧ xp "java/lang/IllegalArgumentException" ∧ f2 = f)) := by
  refine meth_of "LiquidCheckerLaw" (by decide) rfl (Nat.le_of_ble_eq_true rfl) ?_
  intro pgm e s m below meth cd ls C0 hX hnn ht hP hl
  obtain ⟨hx, hb, hml, hown, hg, hr, hlocks, hK, hN⟩ := id C0
  have hA : ∀ a ∈ L, inL L a := fun _ h => h
  obtain ⟨H, hH⟩ : ∃ z, z = s.heap := ⟨_, rfl⟩
  rw [← hH] at hP ⊢
  have hS : va_S (inL L) s.heap H [] := by rw [hH]; exact va_S.rf
  have hl : lv_has ls 4 [(0, .ref cc), (1, .int p0), (2, .ref ot)] := hl
  refine lv_aload_n hx hb dL_ways_0 rfl (lv_at hl 2 rfl) ?_
  refine lv_iconst (v := nI 0) hx hb dL_ways_1 (by decide) ?_
  refine lv_aload_n hx hb dL_ways_2 rfl (lv_at hl 0 rfl) ?_
  refine lv_iload_n hx hb dL_ways_3 rfl (lv_at hl 1 rfl) ?_
  refine then_x (run_X (n := 1) (As := [.int p0]) (rest := [.int (nI 0), .ref ot]) C0 hX hS hM gw509 gw506 gw507 gsC_ways gw1 (by decide +kernel) ⟨Nat.le_of_ble_eq_true rfl, Nat.le_of_ble_eq_true rfl⟩ rfl rfl ⟨Nat.le_of_ble_eq_true rfl, Nat.le_of_ble_eq_true rfl⟩ hP hcL hc rfl rfl rfl hl.1 rfl (Nat.le_of_ble_eq_true rfl) dL_ways_4) hS (fun E ce q9 H locs hx9 hP hS hce hcv hcf => ?_) (fun r1 fq H locs hq9 hP hS => ?_)
  · rcases hxp E hx9 with rfl
    refine catch_h (k := 0) (name := "java/lang/IllegalArgumentException") (hpc := 12) (ty := 13) (ep := 9) C0 hX hnn ht (by decide) rfl (by decide) (by decide) gw196 xc_IAE (fun z hz => by cases hz) hce hcv hcf ?_
    refine lv_astore_n (lv' := [(3, .ref q9), (0, .ref cc), (1, .int p0), (2, .ref ot)]) hx hb dL_ways_12 rfl hl (by decide) rfl (fun ls hl => ?_)
    refine lv_iconst (v := nI 1) hx hb dL_ways_13 (by decide) ?_
    exact ret_h C0 hP hS (Or.inr (⟨rfl, hx9, rfl⟩)) dL_ways_14
  · obtain ⟨g9, hj9⟩ := hpo r1 fq hq9
    refine lv_i2l hx hb dL_ways_7 rfl ?_
    refine mm_last hx hb hK hn hA hP hS hot hj9 (vp_in_nI (show 0 < 1 by omega) (by omega)) dL_ways_8 (fun H locs hP hS => ?_)
    rw [nI_clamp (by omega)] at hP
    obtain ⟨f1, hf1⟩ : ∃ z, z = mm_sj fq ot (vp_updL g9 0 r1.toInt64) := ⟨_, rfl⟩
    have hP : va_P D zCl (va_pl L f1) H := by rw [hf1]; exact hP
    have p2 : mm_J tys f1 ot 1 (vp_updL g9 0 r1.toInt64) := by rw [hf1]; exact hj9.set
    refine lv_goto (tgt := 15) hx hb dL_ways_9 (by decide) ?_
    refine lv_iconst (v := nI 0) hx hb dL_ways_15 (by decide) ?_
    exact ret_h C0 hP hS (Or.inl ⟨rfl, r1, fq, g9, hq9, hj9, hf1⟩) dL_ways_16
abbrev hL_comes : List (Nat × Nat × Nat × Nat) := [(0, 10, 13, 13)]
abbrev wL_comes : List Cond := Cond.codeWith yL_comes cL_comes 5 (some .int) hL_comes :: GW
theorem gcL_comes : Cond.codeWith yL_comes cL_comes 5 (some .int) hL_comes ∈ GW := gw512
set_option maxRecDepth 100000 in
set_option maxHeartbeats 4000000 in
theorem h_comes {l : Launch} {D : va_G} {tys : List (ClassId × FieldType)} {L : List Nat} {f : Nat → va_E} {sAd : Nat → Nat} (hn : L.Nodup) {cc ot : Nat} {fs : List Value} {p0 p1 : Int32} {post : Int32 → (Nat → va_E) → Prop} {xp : String → Prop} (hcL : cc ∈ L) (hc : f cc = .inr (5, fs)) (hot : ot ∈ L) (hM : MetX l yC_comes wC_comes ({ frames := 6, cells := 1, slots := 6, locals := 152 } : Room) D tys L f sAd [.ref cc, .int p0, .int p1] post xp) (hpo : ∀ r f3, post r f3 → ∃ g, mm_J tys f3 ot 1 g) (hxp : ∀ E, xp E → E = "java/lang/IllegalArgumentException") : MetH l yL_comes wL_comes ({ frames := 7, cells := 1, slots := 6, locals := 174 } : Room) D tys L f sAd [.ref cc, .int p0, .int p1, .ref ot] (fun k f2 => (k = nI 0 ∧ ∃ v f3 g, post v f3 ∧ mm_J tys f3 ot 1 g ∧ f2 = mm_sj f3 ot (vp_updL g 0 v.toInt64)) ∨ (k = nI 1 ∧ xp "java/lang/IllegalArgumentException" ∧ f2 = f)) := by
  refine meth_of "LiquidCheckerLaw" (by decide) rfl (Nat.le_of_ble_eq_true rfl) ?_
  intro pgm e s m below meth cd ls C0 hX hnn ht hP hl
  obtain ⟨hx, hb, hml, hown, hg, hr, hlocks, hK, hN⟩ := id C0
  have hA : ∀ a ∈ L, inL L a := fun _ h => h
  obtain ⟨H, hH⟩ : ∃ z, z = s.heap := ⟨_, rfl⟩
  rw [← hH] at hP ⊢
  have hS : va_S (inL L) s.heap H [] := by rw [hH]; exact va_S.rf
  have hl : lv_has ls 5 [(0, .ref cc), (1, .int p0), (2, .int p1), (3, .ref ot)] := hl
  refine lv_aload_n hx hb dL_comes_0 rfl (lv_at hl 3 rfl) ?_
  refine lv_iconst (v := nI 0) hx hb dL_comes_1 (by decide) ?_
  refine lv_aload_n hx hb dL_comes_2 rfl (lv_at hl 0 rfl) ?_
  refine lv_iload_n hx hb dL_comes_3 rfl (lv_at hl 1 rfl) ?_
  refine lv_iload_n hx hb dL_comes_4 rfl (lv_at hl 2 rfl) ?_
  refine then_x (run_X (n := 2) (As := [.int p0, .int p1]) (rest := [.int (nI 0), .ref ot]) C0 hX hS hM gw516 gw513 gw514 gsC_comes gw1 (by decide +kernel) ⟨Nat.le_of_ble_eq_true rfl, Nat.le_of_ble_eq_true rfl⟩ rfl rfl ⟨Nat.le_of_ble_eq_true rfl, Nat.le_of_ble_eq_true rfl⟩ hP hcL hc rfl rfl rfl hl.1 rfl (Nat.le_of_ble_eq_true rfl) dL_comes_5) hS (fun E ce q9 H locs hx9 hP hS hce hcv hcf => ?_) (fun r1 fq H locs hq9 hP hS => ?_)
  · rcases hxp E hx9 with rfl
    refine catch_h (k := 0) (name := "java/lang/IllegalArgumentException") (hpc := 13) (ty := 13) (ep := 10) C0 hX hnn ht (by decide) rfl (by decide) (by decide) gw196 xc_IAE (fun z hz => by cases hz) hce hcv hcf ?_
    refine lv_astore (lv' := [(4, .ref q9), (0, .ref cc), (1, .int p0), (2, .int p1), (3, .ref ot)]) hx hb dL_comes_13 hl (by decide) rfl (fun ls hl => ?_)
    refine lv_iconst (v := nI 1) hx hb dL_comes_15 (by decide) ?_
    exact ret_h C0 hP hS (Or.inr (⟨rfl, hx9, rfl⟩)) dL_comes_16
  · obtain ⟨g9, hj9⟩ := hpo r1 fq hq9
    refine lv_i2l hx hb dL_comes_8 rfl ?_
    refine mm_last hx hb hK hn hA hP hS hot hj9 (vp_in_nI (show 0 < 1 by omega) (by omega)) dL_comes_9 (fun H locs hP hS => ?_)
    rw [nI_clamp (by omega)] at hP
    obtain ⟨f1, hf1⟩ : ∃ z, z = mm_sj fq ot (vp_updL g9 0 r1.toInt64) := ⟨_, rfl⟩
    have hP : va_P D zCl (va_pl L f1) H := by rw [hf1]; exact hP
    have p2 : mm_J tys f1 ot 1 (vp_updL g9 0 r1.toInt64) := by rw [hf1]; exact hj9.set
    refine lv_goto (tgt := 17) hx hb dL_comes_10 (by decide) ?_
    refine lv_iconst (v := nI 0) hx hb dL_comes_17 (by decide) ?_
    exact ret_h C0 hP hS (Or.inl ⟨rfl, r1, fq, g9, hq9, hj9, hf1⟩) dL_comes_18
abbrev hL_most : List (Nat × Nat × Nat × Nat) := [(0, 14, 17, 13), (0, 14, 21, 41), (0, 14, 25, 43)]
abbrev wL_most : List Cond := Cond.codeWith yL_most cL_most 7 (some .int) hL_most :: GW
theorem gcL_most : Cond.codeWith yL_most cL_most 7 (some .int) hL_most ∈ GW := gw528
set_option maxRecDepth 100000 in
set_option maxHeartbeats 4000000 in
theorem h_most {l : Launch} {D : va_G} {tys : List (ClassId × FieldType)} {L : List Nat} {f : Nat → va_E} {sAd : Nat → Nat} (hn : L.Nodup) {cc ot : Nat} {fs : List Value} {p0 p1 p2 p3 : Int32} {post : Int32 → (Nat → va_E) → Prop} {xp : String → (Nat → va_E) → Prop} (hcL : cc ∈ L) (hc : f cc = .inr (5, fs)) (hot : ot ∈ L) (hM : MetY l yC_most wC_most ({ frames := 6, cells := 1, slots := 6, locals := 152 } : Room) D tys L f sAd [.ref cc, .int p0, .int p1, .int p2, .int p3] post xp) (hpo : ∀ r f3, post r f3 → ∃ g, mm_J tys f3 ot 1 g) (hxp : ∀ E f3, xp E f3 → E = "java/lang/IllegalArgumentException" ∨ E = "java/util/NoSuchElementException" ∨ E = "java/lang/ArithmeticException") : MetH l yL_most wL_most ({ frames := 7, cells := 1, slots := 6, locals := 176 } : Room) D tys L f sAd [.ref cc, .int p0, .int p1, .int p2, .int p3, .ref ot] (fun k f2 => (k = nI 0 ∧ ∃ v f3 g, post v f3 ∧ mm_J tys f3 ot 1 g ∧ f2 = mm_sj f3 ot (vp_updL g 0 v.toInt64)) ∨ (k = nI 1 ∧ xp "java/lang/IllegalArgumentException" f2) ∨ (k = nI 2 ∧ xp "java/util/NoSuchElementException" f2) ∨ (k = nI 3 ∧ xp "java/lang/ArithmeticException" f2)) := by
  refine meth_of "LiquidCheckerLaw" (by decide) rfl (Nat.le_of_ble_eq_true rfl) ?_
  intro pgm e s m below meth cd ls C0 hX hnn ht hP hl
  obtain ⟨hx, hb, hml, hown, hg, hr, hlocks, hK, hN⟩ := id C0
  have hA : ∀ a ∈ L, inL L a := fun _ h => h
  obtain ⟨H, hH⟩ : ∃ z, z = s.heap := ⟨_, rfl⟩
  rw [← hH] at hP ⊢
  have hS : va_S (inL L) s.heap H [] := by rw [hH]; exact va_S.rf
  have hl : lv_has ls 7 [(0, .ref cc), (1, .int p0), (2, .int p1), (3, .int p2), (4, .int p3), (5, .ref ot)] := hl
  refine lv_aload hx hb dL_most_0 (lv_at hl 5 rfl) ?_
  refine lv_iconst (v := nI 0) hx hb dL_most_2 (by decide) ?_
  refine lv_aload_n hx hb dL_most_3 rfl (lv_at hl 0 rfl) ?_
  refine lv_iload_n hx hb dL_most_4 rfl (lv_at hl 1 rfl) ?_
  refine lv_iload_n hx hb dL_most_5 rfl (lv_at hl 2 rfl) ?_
  refine lv_iload_n hx hb dL_most_6 rfl (lv_at hl 3 rfl) ?_
  refine lv_iload hx hb dL_most_7 (lv_at hl 4 rfl) ?_
  refine then_y (run_X (n := 4) (As := [.int p0, .int p1, .int p2, .int p3]) (rest := [.int (nI 0), .ref ot]) C0 hX hS hM gw534 gw531 gw532 gsC_most gw1 (by decide +kernel) ⟨Nat.le_of_ble_eq_true rfl, Nat.le_of_ble_eq_true rfl⟩ rfl rfl ⟨Nat.le_of_ble_eq_true rfl, Nat.le_of_ble_eq_true rfl⟩ hP hcL hc rfl rfl rfl hl.1 rfl (Nat.le_of_ble_eq_true rfl) dL_most_9) hS (fun E ce q9 fe H locs hx9 hP hS hce hcv hcf => ?_) (fun r1 fq H locs hq9 hP hS => ?_)
  · rcases hxp E fe hx9 with rfl | rfl | rfl
    · refine catch_h (k := 0) (name := "java/lang/IllegalArgumentException") (hpc := 17) (ty := 13) (ep := 14) C0 hX hnn ht (by decide) rfl (by decide) (by decide) gw196 xc_IAE (fun z hz => by cases hz) hce hcv hcf ?_
      refine lv_astore (lv' := [(6, .ref q9), (0, .ref cc), (1, .int p0), (2, .int p1), (3, .int p2), (4, .int p3), (5, .ref ot)]) hx hb dL_most_17 hl (by decide) rfl (fun ls hl => ?_)
      refine lv_iconst (v := nI 1) hx hb dL_most_19 (by decide) ?_
      exact ret_h C0 hP hS (Or.inr (Or.inl ⟨rfl, hx9⟩)) dL_most_20
    · refine catch_h (k := 1) (name := "java/util/NoSuchElementException") (hpc := 21) (ty := 41) (ep := 14) C0 hX hnn ht (by decide) rfl (by decide) (by decide) gw529 xc_NSE (List.forall_mem_cons.mpr ⟨⟨by decide, "java/lang/IllegalArgumentException", gw196, by decide +kernel⟩, fun z hz => by cases hz⟩) hce hcv hcf ?_
      refine lv_astore (lv' := [(6, .ref q9), (0, .ref cc), (1, .int p0), (2, .int p1), (3, .int p2), (4, .int p3), (5, .ref ot)]) hx hb dL_most_21 hl (by decide) rfl (fun ls hl => ?_)
      refine lv_iconst (v := nI 2) hx hb dL_most_23 (by decide) ?_
      exact ret_h C0 hP hS (Or.inr (Or.inr (Or.inl ⟨rfl, hx9⟩))) dL_most_24
    · refine catch_h (k := 2) (name := "java/lang/ArithmeticException") (hpc := 25) (ty := 43) (ep := 14) C0 hX hnn ht (by decide) rfl (by decide) (by decide) gw530 xc_AE (List.forall_mem_cons.mpr ⟨⟨by decide, "java/lang/IllegalArgumentException", gw196, by decide +kernel⟩, List.forall_mem_cons.mpr ⟨⟨by decide, "java/util/NoSuchElementException", gw529, by decide +kernel⟩, fun z hz => by cases hz⟩⟩) hce hcv hcf ?_
      refine lv_astore (lv' := [(6, .ref q9), (0, .ref cc), (1, .int p0), (2, .int p1), (3, .int p2), (4, .int p3), (5, .ref ot)]) hx hb dL_most_25 hl (by decide) rfl (fun ls hl => ?_)
      refine lv_iconst (v := nI 3) hx hb dL_most_27 (by decide) ?_
      exact ret_h C0 hP hS (Or.inr (Or.inr (Or.inr (⟨rfl, hx9⟩)))) dL_most_28
  · obtain ⟨g9, hj9⟩ := hpo r1 fq hq9
    refine lv_i2l hx hb dL_most_12 rfl ?_
    refine mm_last hx hb hK hn hA hP hS hot hj9 (vp_in_nI (show 0 < 1 by omega) (by omega)) dL_most_13 (fun H locs hP hS => ?_)
    rw [nI_clamp (by omega)] at hP
    obtain ⟨f1, hf1⟩ : ∃ z, z = mm_sj fq ot (vp_updL g9 0 r1.toInt64) := ⟨_, rfl⟩
    have hP : va_P D zCl (va_pl L f1) H := by rw [hf1]; exact hP
    have p2 : mm_J tys f1 ot 1 (vp_updL g9 0 r1.toInt64) := by rw [hf1]; exact hj9.set
    refine lv_goto (tgt := 29) hx hb dL_most_14 (by decide) ?_
    refine lv_iconst (v := nI 0) hx hb dL_most_29 (by decide) ?_
    exact ret_h C0 hP hS (Or.inl ⟨rfl, r1, fq, g9, hq9, hj9, hf1⟩) dL_most_30
abbrev hL_follows : List (Nat × Nat × Nat × Nat) := [(0, 10, 13, 13)]
abbrev wL_follows : List Cond := Cond.codeWith yL_follows cL_follows 5 (some .int) hL_follows :: GW
theorem gcL_follows : Cond.codeWith yL_follows cL_follows 5 (some .int) hL_follows ∈ GW := gw571
set_option maxRecDepth 100000 in
set_option maxHeartbeats 4000000 in
theorem h_follows {l : Launch} {D : va_G} {tys : List (ClassId × FieldType)} {L : List Nat} {f : Nat → va_E} {sAd : Nat → Nat} (hn : L.Nodup) {cc ot : Nat} {fs : List Value} {p0 p1 : Int32} {post : Int32 → (Nat → va_E) → Prop} {xp : String → Prop} (hcL : cc ∈ L) (hc : f cc = .inr (5, fs)) (hot : ot ∈ L) (hM : MetX l yC_follows wC_follows ({ frames := 6, cells := 1, slots := 6, locals := 100 } : Room) D tys L f sAd [.ref cc, .int p0, .int p1] post xp) (hpo : ∀ r f3, post r f3 → ∃ g, mm_J tys f3 ot 1 g) (hxp : ∀ E, xp E → E = "java/lang/IllegalArgumentException") : MetH l yL_follows wL_follows ({ frames := 7, cells := 1, slots := 6, locals := 123 } : Room) D tys L f sAd [.ref cc, .int p0, .int p1, .ref ot] (fun k f2 => (k = nI 0 ∧ ∃ v f3 g, post v f3 ∧ mm_J tys f3 ot 1 g ∧ f2 = mm_sj f3 ot (vp_updL g 0 v.toInt64)) ∨ (k = nI 1 ∧ xp "java/lang/IllegalArgumentException" ∧ f2 = f)) := by
  refine meth_of "LiquidCheckerLaw" (by decide) rfl (Nat.le_of_ble_eq_true rfl) ?_
  intro pgm e s m below meth cd ls C0 hX hnn ht hP hl
  obtain ⟨hx, hb, hml, hown, hg, hr, hlocks, hK, hN⟩ := id C0
  have hA : ∀ a ∈ L, inL L a := fun _ h => h
  obtain ⟨H, hH⟩ : ∃ z, z = s.heap := ⟨_, rfl⟩
  rw [← hH] at hP ⊢
  have hS : va_S (inL L) s.heap H [] := by rw [hH]; exact va_S.rf
  have hl : lv_has ls 5 [(0, .ref cc), (1, .int p0), (2, .int p1), (3, .ref ot)] := hl
  refine lv_aload_n hx hb dL_follows_0 rfl (lv_at hl 3 rfl) ?_
  refine lv_iconst (v := nI 0) hx hb dL_follows_1 (by decide) ?_
  refine lv_aload_n hx hb dL_follows_2 rfl (lv_at hl 0 rfl) ?_
  refine lv_iload_n hx hb dL_follows_3 rfl (lv_at hl 1 rfl) ?_
  refine lv_iload_n hx hb dL_follows_4 rfl (lv_at hl 2 rfl) ?_
  refine then_x (run_X (n := 2) (As := [.int p0, .int p1]) (rest := [.int (nI 0), .ref ot]) C0 hX hS hM gw575 gw572 gw573 gsC_follows gw1 (by decide +kernel) ⟨Nat.le_of_ble_eq_true rfl, Nat.le_of_ble_eq_true rfl⟩ rfl rfl ⟨Nat.le_of_ble_eq_true rfl, Nat.le_of_ble_eq_true rfl⟩ hP hcL hc rfl rfl rfl hl.1 rfl (Nat.le_of_ble_eq_true rfl) dL_follows_5) hS (fun E ce q9 H locs hx9 hP hS hce hcv hcf => ?_) (fun r1 fq H locs hq9 hP hS => ?_)
  · rcases hxp E hx9 with rfl
    refine catch_h (k := 0) (name := "java/lang/IllegalArgumentException") (hpc := 13) (ty := 13) (ep := 10) C0 hX hnn ht (by decide) rfl (by decide) (by decide) gw196 xc_IAE (fun z hz => by cases hz) hce hcv hcf ?_
    refine lv_astore (lv' := [(4, .ref q9), (0, .ref cc), (1, .int p0), (2, .int p1), (3, .ref ot)]) hx hb dL_follows_13 hl (by decide) rfl (fun ls hl => ?_)
    refine lv_iconst (v := nI 1) hx hb dL_follows_15 (by decide) ?_
    exact ret_h C0 hP hS (Or.inr (⟨rfl, hx9, rfl⟩)) dL_follows_16
  · obtain ⟨g9, hj9⟩ := hpo r1 fq hq9
    refine lv_i2l hx hb dL_follows_8 rfl ?_
    refine mm_last hx hb hK hn hA hP hS hot hj9 (vp_in_nI (show 0 < 1 by omega) (by omega)) dL_follows_9 (fun H locs hP hS => ?_)
    rw [nI_clamp (by omega)] at hP
    obtain ⟨f1, hf1⟩ : ∃ z, z = mm_sj fq ot (vp_updL g9 0 r1.toInt64) := ⟨_, rfl⟩
    have hP : va_P D zCl (va_pl L f1) H := by rw [hf1]; exact hP
    have p2 : mm_J tys f1 ot 1 (vp_updL g9 0 r1.toInt64) := by rw [hf1]; exact hj9.set
    refine lv_goto (tgt := 17) hx hb dL_follows_10 (by decide) ?_
    refine lv_iconst (v := nI 0) hx hb dL_follows_17 (by decide) ?_
    exact ret_h C0 hP hS (Or.inl ⟨rfl, r1, fq, g9, hq9, hj9, hf1⟩) dL_follows_18
abbrev hL_count : List (Nat × Nat × Nat × Nat) := [(0, 10, 13, 13)]
abbrev wL_count : List Cond := Cond.codeWith yL_count cL_count 5 (some .int) hL_count :: GW
theorem gcL_count : Cond.codeWith yL_count cL_count 5 (some .int) hL_count ∈ GW := gw581
set_option maxRecDepth 100000 in
set_option maxHeartbeats 4000000 in
theorem h_count {l : Launch} {D : va_G} {tys : List (ClassId × FieldType)} {L : List Nat} {f : Nat → va_E} {sAd : Nat → Nat} (hn : L.Nodup) {cc ot : Nat} {fs : List Value} {p0 p1 : Int32} {post : Int32 → (Nat → va_E) → Prop} {xp : String → Prop} (hcL : cc ∈ L) (hc : f cc = .inr (5, fs)) (hot : ot ∈ L) (hM : MetX l yC_count wC_count ({ frames := 6, cells := 1, slots := 6, locals := 100 } : Room) D tys L f sAd [.ref cc, .int p0, .int p1] post xp) (hpo : ∀ r f3, post r f3 → ∃ g, mm_J tys f3 ot 1 g) (hxp : ∀ E, xp E → E = "java/lang/IllegalArgumentException") : MetH l yL_count wL_count ({ frames := 7, cells := 1, slots := 6, locals := 123 } : Room) D tys L f sAd [.ref cc, .int p0, .int p1, .ref ot] (fun k f2 => (k = nI 0 ∧ ∃ v f3 g, post v f3 ∧ mm_J tys f3 ot 1 g ∧ f2 = mm_sj f3 ot (vp_updL g 0 v.toInt64)) ∨ (k = nI 1 ∧ xp "java/lang/IllegalArgumentException" ∧ f2 = f)) := by
  refine meth_of "LiquidCheckerLaw" (by decide) rfl (Nat.le_of_ble_eq_true rfl) ?_
  intro pgm e s m below meth cd ls C0 hX hnn ht hP hl
  obtain ⟨hx, hb, hml, hown, hg, hr, hlocks, hK, hN⟩ := id C0
  have hA : ∀ a ∈ L, inL L a := fun _ h => h
  obtain ⟨H, hH⟩ : ∃ z, z = s.heap := ⟨_, rfl⟩
  rw [← hH] at hP ⊢
  have hS : va_S (inL L) s.heap H [] := by rw [hH]; exact va_S.rf
  have hl : lv_has ls 5 [(0, .ref cc), (1, .int p0), (2, .int p1), (3, .ref ot)] := hl
  refine lv_aload_n hx hb dL_count_0 rfl (lv_at hl 3 rfl) ?_
  refine lv_iconst (v := nI 0) hx hb dL_count_1 (by decide) ?_
  refine lv_aload_n hx hb dL_count_2 rfl (lv_at hl 0 rfl) ?_
  refine lv_iload_n hx hb dL_count_3 rfl (lv_at hl 1 rfl) ?_
  refine lv_iload_n hx hb dL_count_4 rfl (lv_at hl 2 rfl) ?_
  refine then_x (run_X (n := 2) (As := [.int p0, .int p1]) (rest := [.int (nI 0), .ref ot]) C0 hX hS hM gw585 gw582 gw583 gsC_count gw1 (by decide +kernel) ⟨Nat.le_of_ble_eq_true rfl, Nat.le_of_ble_eq_true rfl⟩ rfl rfl ⟨Nat.le_of_ble_eq_true rfl, Nat.le_of_ble_eq_true rfl⟩ hP hcL hc rfl rfl rfl hl.1 rfl (Nat.le_of_ble_eq_true rfl) dL_count_5) hS (fun E ce q9 H locs hx9 hP hS hce hcv hcf => ?_) (fun r1 fq H locs hq9 hP hS => ?_)
  · rcases hxp E hx9 with rfl
    refine catch_h (k := 0) (name := "java/lang/IllegalArgumentException") (hpc := 13) (ty := 13) (ep := 10) C0 hX hnn ht (by decide) rfl (by decide) (by decide) gw196 xc_IAE (fun z hz => by cases hz) hce hcv hcf ?_
    refine lv_astore (lv' := [(4, .ref q9), (0, .ref cc), (1, .int p0), (2, .int p1), (3, .ref ot)]) hx hb dL_count_13 hl (by decide) rfl (fun ls hl => ?_)
    refine lv_iconst (v := nI 1) hx hb dL_count_15 (by decide) ?_
    exact ret_h C0 hP hS (Or.inr (⟨rfl, hx9, rfl⟩)) dL_count_16
  · obtain ⟨g9, hj9⟩ := hpo r1 fq hq9
    refine lv_i2l hx hb dL_count_8 rfl ?_
    refine mm_last hx hb hK hn hA hP hS hot hj9 (vp_in_nI (show 0 < 1 by omega) (by omega)) dL_count_9 (fun H locs hP hS => ?_)
    rw [nI_clamp (by omega)] at hP
    obtain ⟨f1, hf1⟩ : ∃ z, z = mm_sj fq ot (vp_updL g9 0 r1.toInt64) := ⟨_, rfl⟩
    have hP : va_P D zCl (va_pl L f1) H := by rw [hf1]; exact hP
    have p2 : mm_J tys f1 ot 1 (vp_updL g9 0 r1.toInt64) := by rw [hf1]; exact hj9.set
    refine lv_goto (tgt := 17) hx hb dL_count_10 (by decide) ?_
    refine lv_iconst (v := nI 0) hx hb dL_count_17 (by decide) ?_
    exact ret_h C0 hP hS (Or.inl ⟨rfl, r1, fq, g9, hq9, hj9, hf1⟩) dL_count_18
