/-! LiquidCheckerModel: its questions. -/
/-- the model's memory between calls: what it holds of the system is G, the last call threw th -/
def MdI (tys : List (ClassId × FieldType)) (L : List Nat) (f : Nat → va_E) (mo ap cm : Nat) (ad : Nat → Nat) (G : Nat → Nat → Int32) (th : Int32) : Prop := ∃ fe me fu le en sp ka kc mx se gc, (fe = nI 0 ∨ fe = nI 1) ∧ (ka < 12 ∧ ka ≠ 3) ∧ (kc < 12 ∧ kc ≠ 3) ∧ MD tys L f mo ap cm ad G th fe me fu le en sp (nI ka) (nI kc) mx se gc
def MOk (σ : Sg) (G : Nat → Nat → Int32) : Prop := MT σ G ∧ RlOk σ ∧ Dm3 σ ∧ ∀ i, i < 4 → MLk σ G i ∧ FnOk σ i ∧ G 13 i = nI (nif σ i (sz σ i))
theorem nb_t {b : Bool} (h : (!b) = true) : b = false := by cases b; rfl; cases h
theorem nI_sub2 {n : Nat} : nI (n + 2) - nI 2 = nI n := by
  rw [← nI_add]
  exact Int32.add_sub_cancel _ _
set_option maxRecDepth 100000 in
set_option maxHeartbeats 4000000 in
theorem m_check {l : Launch} {D : va_G} {tys : List (ClassId × FieldType)} {L : List Nat} {f : Nat → va_E} (hn : L.Nodup) {mo ap cm : Nat} {ad : Nat → Nat} {G : Nat → Nat → Int32} {th : Int32} {σ : Sg} {x : Int32} (hO : MOk σ G) (hI0 : MdI tys L f mo ap cm ad G th) : MetI l yM_check wM_check ({ frames := 6, cells := 0, slots := 0, locals := 148 } : Room) D tys L f [.ref mo, .int x] (fun r f' => ∃ t, MdI tys L f' mo ap cm ad G t ∧ Sm3 f f' mo ap cm ∧ ((q_fn x = false ∧ t = nI 1) ∨ (q_fn x = true ∧ t = nI 0 ∧ ∀ i, x = nI i → i < 4 → ∃ ka kc gc me K0, (ka < 12 ∧ ka ≠ 3) ∧ (kc < 12 ∧ kc ≠ 3) ∧ r = (m_ex σ i (-1) ka kc gc me K0).le))) := by
  refine met_of "LiquidCheckerModel" (by decide) rfl (Nat.le_of_ble_eq_true rfl) ?_
  intro pgm e s m below meth c ls C0 hP hl
  obtain ⟨hx, hb, hml, hown, hg, hr, hlocks, hK, hN⟩ := id C0
  have hA : ∀ a ∈ L, inL L a := fun _ h => h
  obtain ⟨H, hH⟩ : ∃ z, z = s.heap := ⟨_, rfl⟩
  rw [← hH] at hP ⊢
  have hS : va_S (inL L) s.heap H [] := by rw [hH]; exact va_S.rf
  have hl : lv_has ls 2 [(0, .ref mo), (1, .int x)] := hl
  obtain ⟨fe, me, fu, le, en, sp, ka, kc, mx, se, gc, hfe, hka, hkc, hD⟩ := hI0
  obtain ⟨hM, hRl, h3d, hW⟩ := hO
  refine lv_aload_n hx hb dM_check_0 rfl (lv_at hl 0 rfl) ?_
  refine lv_iconst (v := nI 0) hx hb dM_check_1 (by decide) ?_
  refine mm_put (v := .int (nI 0)) (ty := .int) hx hb hg inM tyM tyM_ok nmM hown hK hn hA hP hS hD.1.1.1 (show f mo = .inr (6, [.int th, .ref (ad 0), .ref (ad 1), .ref (ad 2), .ref (ad 3), .ref (ad 4), .ref (ad 5), .ref (ad 6), .ref (ad 7), .ref (ad 8), .ref (ad 9), .ref (ad 10), .ref (ad 11), .ref (ad 12), .ref (ad 13), .ref (ad 14), .ref (ad 15), .ref ap, .int fe, .int me, .int fu, .int le, .int en, .ref cm, .int sp, .int (nI ka), .int (nI kc), .long mx, .int se]) from hD.2.1) rfl 0 (by decide) (hg _ gw593) (fun _ h9 => h9) rfl (by decide +kernel) rfl rfl (Nat.le_of_ble_eq_true rfl) dM_check_2 (fun H locs hP hS => ?_)
  obtain ⟨f1, hf1⟩ : ∃ z, z = va_up f mo (.inr (6, [.int (nI 0), .ref (ad 0), .ref (ad 1), .ref (ad 2), .ref (ad 3), .ref (ad 4), .ref (ad 5), .ref (ad 6), .ref (ad 7), .ref (ad 8), .ref (ad 9), .ref (ad 10), .ref (ad 11), .ref (ad 12), .ref (ad 13), .ref (ad 14), .ref (ad 15), .ref ap, .int fe, .int me, .int fu, .int le, .int en, .ref cm, .int sp, .int (nI ka), .int (nI kc), .long mx, .int se])) := ⟨_, rfl⟩
  have hP : va_P D zCl (va_pl L f1) H := by rw [hf1]; exact hP
  have hs2 : Same1 f f1 mo := fun z hz => by rw [hf1, va_up_ne _ _ hz]
  have hD2 : MD tys L f1 mo ap cm ad G (nI 0) fe me fu le en sp (nI ka) (nI kc) mx se gc := hD.updO (by rw [hf1]; exact va_up_self _ _ _) hs2
  have hm2 : Sm3 f _ mo ap cm := Sm3.ofO hs2
  refine lv_iload_n hx hb dM_check_5 rfl (lv_at hl 1 rfl) ?_
  refine then_i (run_S (n := 1) (As := [.int x]) (rest := []) C0 (m_noFunction hn) gw693 gw691 gw692 gw7 (by decide +kernel) ⟨Nat.le_of_ble_eq_true rfl, Nat.le_of_ble_eq_true rfl⟩ rfl rfl ⟨Nat.le_of_ble_eq_true rfl, Nat.le_of_ble_eq_true rfl⟩ hP rfl hl.1 rfl (Nat.le_of_ble_eq_true rfl) dM_check_6) hS hA (fun r4 f3 H locs hq6 hP hS => ?_)
  obtain ⟨er4, ef3⟩ := hq6
  subst er4
  rw [ef3] at hP
  refine lv_if_eq (tgt := 18) hx hb dM_check_9 (by decide) (fun c9 => ?_) (fun c9 => ?_)
  · have c9 : (!q_fn x) = false := kb_0.mp c9
    obtain ⟨i0, hi0, rfl⟩ := q_fn_nI (nb_f c9)
    refine lv_aload_n hx hb dM_check_18 rfl (lv_at hl 0 rfl) ?_
    refine lv_iconst (v := (-1)) hx hb dM_check_19 (by decide) ?_
    refine mm_put (v := .int (-1)) (ty := .int) hx hb hg inM tyM tyM_ok nmM hown hK hn hA hP hS hD2.1.1.1 (show f1 mo = .inr (6, [.int (nI 0), .ref (ad 0), .ref (ad 1), .ref (ad 2), .ref (ad 3), .ref (ad 4), .ref (ad 5), .ref (ad 6), .ref (ad 7), .ref (ad 8), .ref (ad 9), .ref (ad 10), .ref (ad 11), .ref (ad 12), .ref (ad 13), .ref (ad 14), .ref (ad 15), .ref ap, .int fe, .int me, .int fu, .int le, .int en, .ref cm, .int sp, .int (nI ka), .int (nI kc), .long mx, .int se]) from hD2.2.1) rfl 24 (by decide) (hg _ gw617) (fun _ h9 => h9) rfl (by decide +kernel) rfl rfl (Nat.le_of_ble_eq_true rfl) dM_check_20 (fun H locs hP hS => ?_)
    obtain ⟨f5, hf5⟩ : ∃ z, z = va_up f1 mo (.inr (6, [.int (nI 0), .ref (ad 0), .ref (ad 1), .ref (ad 2), .ref (ad 3), .ref (ad 4), .ref (ad 5), .ref (ad 6), .ref (ad 7), .ref (ad 8), .ref (ad 9), .ref (ad 10), .ref (ad 11), .ref (ad 12), .ref (ad 13), .ref (ad 14), .ref (ad 15), .ref ap, .int fe, .int me, .int fu, .int le, .int en, .ref cm, .int (-1), .int (nI ka), .int (nI kc), .long mx, .int se])) := ⟨_, rfl⟩
    have hP : va_P D zCl (va_pl L f5) H := by rw [hf5]; exact hP
    have hs6 : Same1 f1 f5 mo := fun z hz => by rw [hf5, va_up_ne _ _ hz]
    have hD6 : MD tys L f5 mo ap cm ad G (nI 0) fe me fu le en (-1) (nI ka) (nI kc) mx se gc := hD2.updO (by rw [hf5]; exact va_up_self _ _ _) hs6
    have hm6 := hm2.trans (Sm3.ofO hs6)
    refine lv_aload_n hx hb dM_check_23 rfl (lv_at hl 0 rfl) ?_
    refine lv_iload_n hx hb dM_check_24 rfl (lv_at hl 1 rfl) ?_
    refine then_v (run_V (n := 1) (As := [.int (nI i0)]) (rest := []) C0 (m_explore hn hi0 hka hkc hM (hW i0 hi0).1 hRl (hW i0 hi0).2.1 h3d (hW i0 hi0).2.2 hfe hD6) gw730 gw727 gw729 gsM_explore gw7 (by decide +kernel) ⟨Nat.le_of_ble_eq_true rfl, Nat.le_of_ble_eq_true rfl⟩ rfl rfl ⟨Nat.le_of_ble_eq_true rfl, Nat.le_of_ble_eq_true rfl⟩ hP hD6.1.1.1 hD6.2.1 rfl rfl rfl hl.1 rfl (Nat.le_of_ble_eq_true rfl) dM_check_25) hS hA (fun f7 H locs hq25 hP hS => ?_)
    obtain ⟨⟨me0, K0, hD8⟩, hs8⟩ := hq25
    have hm8 := hm6.trans (hs8)
    refine lv_aload_n hx hb dM_check_28 rfl (lv_at hl 0 rfl) ?_
    refine mm_get (v := .int ((m_ex σ i0 (-1) ka kc gc me0 K0).le)) hx hb hg inM hown hK hP hD8.1.1.1 hD8.2.1 rfl 21 (by decide) (hg _ gw614) (fun _ h9 => h9) rfl dM_check_29 ?_
    refine ret_i C0 hP hS ⟨_, ⟨_, _, _, _, _, _, ka, kc, _, _, _, (kb_or _), hka, hkc, hD8⟩, hm8, Or.inr ⟨nb_f c9, rfl, fun i2 e2 h2 => ?_⟩⟩ dM_check_32
    obtain rfl := (nI_eq (by omega) (by omega)).mp e2
    exact ⟨ka, kc, gc, me0, K0, hka, hkc, rfl⟩
  · have c9 : (!q_fn x) = true := kb_t.mp c9
    refine lv_aload_n hx hb dM_check_12 rfl (lv_at hl 0 rfl) ?_
    refine lv_iconst (v := nI 1) hx hb dM_check_13 (by decide) ?_
    refine then_i (run_V (n := 1) (As := [.int (nI 1)]) (rest := []) C0 (m_raise hn hD2) gw700 gw697 gw699 gsM_raise gw7 (by decide +kernel) ⟨Nat.le_of_ble_eq_true rfl, Nat.le_of_ble_eq_true rfl⟩ rfl rfl ⟨Nat.le_of_ble_eq_true rfl, Nat.le_of_ble_eq_true rfl⟩ hP hD2.1.1.1 hD2.2.1 rfl rfl rfl hl.1 rfl (Nat.le_of_ble_eq_true rfl) dM_check_14) hS hA (fun r10 f9 H locs hq14 hP hS => ?_)
    obtain ⟨hr11, hD11, hs11⟩ := hq14
    have hm11 := hm2.trans (Sm3.ofO hs11)
    exact ret_i C0 hP hS ⟨_, ⟨_, _, _, _, _, _, ka, kc, _, _, _, hfe, hka, hkc, hD11⟩, hm11, Or.inl ⟨nb_t c9, rfl⟩⟩ dM_check_17
set_option maxRecDepth 100000 in
set_option maxHeartbeats 4000000 in
theorem m_ways {l : Launch} {D : va_G} {tys : List (ClassId × FieldType)} {L : List Nat} {f : Nat → va_E} (hn : L.Nodup) {mo ap cm : Nat} {ad : Nat → Nat} {G : Nat → Nat → Int32} {th : Int32} {σ : Sg} {x : Int32} (hO : MOk σ G) (hI0 : MdI tys L f mo ap cm ad G th) : MetI l yM_ways wM_ways ({ frames := 6, cells := 0, slots := 0, locals := 148 } : Room) D tys L f [.ref mo, .int x] (fun r f' => ∃ t, MdI tys L f' mo ap cm ad G t ∧ Sm3 f f' mo ap cm ∧ ((q_fn x = false ∧ t = nI 1) ∨ (q_fn x = true ∧ t = nI 0 ∧ ∀ i, x = nI i → i < 4 → ∃ ka kc gc me K0, (ka < 12 ∧ ka ≠ 3) ∧ (kc < 12 ∧ kc ≠ 3) ∧ r = nI (m_ex σ i (-1) ka kc gc me K0).en))) := by
  refine met_of "LiquidCheckerModel" (by decide) rfl (Nat.le_of_ble_eq_true rfl) ?_
  intro pgm e s m below meth c ls C0 hP hl
  obtain ⟨hx, hb, hml, hown, hg, hr, hlocks, hK, hN⟩ := id C0
  have hA : ∀ a ∈ L, inL L a := fun _ h => h
  obtain ⟨H, hH⟩ : ∃ z, z = s.heap := ⟨_, rfl⟩
  rw [← hH] at hP ⊢
  have hS : va_S (inL L) s.heap H [] := by rw [hH]; exact va_S.rf
  have hl : lv_has ls 2 [(0, .ref mo), (1, .int x)] := hl
  obtain ⟨fe, me, fu, le, en, sp, ka, kc, mx, se, gc, hfe, hka, hkc, hD⟩ := hI0
  obtain ⟨hM, hRl, h3d, hW⟩ := hO
  refine lv_aload_n hx hb dM_ways_0 rfl (lv_at hl 0 rfl) ?_
  refine lv_iconst (v := nI 0) hx hb dM_ways_1 (by decide) ?_
  refine mm_put (v := .int (nI 0)) (ty := .int) hx hb hg inM tyM tyM_ok nmM hown hK hn hA hP hS hD.1.1.1 (show f mo = .inr (6, [.int th, .ref (ad 0), .ref (ad 1), .ref (ad 2), .ref (ad 3), .ref (ad 4), .ref (ad 5), .ref (ad 6), .ref (ad 7), .ref (ad 8), .ref (ad 9), .ref (ad 10), .ref (ad 11), .ref (ad 12), .ref (ad 13), .ref (ad 14), .ref (ad 15), .ref ap, .int fe, .int me, .int fu, .int le, .int en, .ref cm, .int sp, .int (nI ka), .int (nI kc), .long mx, .int se]) from hD.2.1) rfl 0 (by decide) (hg _ gw593) (fun _ h9 => h9) rfl (by decide +kernel) rfl rfl (Nat.le_of_ble_eq_true rfl) dM_ways_2 (fun H locs hP hS => ?_)
  obtain ⟨f1, hf1⟩ : ∃ z, z = va_up f mo (.inr (6, [.int (nI 0), .ref (ad 0), .ref (ad 1), .ref (ad 2), .ref (ad 3), .ref (ad 4), .ref (ad 5), .ref (ad 6), .ref (ad 7), .ref (ad 8), .ref (ad 9), .ref (ad 10), .ref (ad 11), .ref (ad 12), .ref (ad 13), .ref (ad 14), .ref (ad 15), .ref ap, .int fe, .int me, .int fu, .int le, .int en, .ref cm, .int sp, .int (nI ka), .int (nI kc), .long mx, .int se])) := ⟨_, rfl⟩
  have hP : va_P D zCl (va_pl L f1) H := by rw [hf1]; exact hP
  have hs2 : Same1 f f1 mo := fun z hz => by rw [hf1, va_up_ne _ _ hz]
  have hD2 : MD tys L f1 mo ap cm ad G (nI 0) fe me fu le en sp (nI ka) (nI kc) mx se gc := hD.updO (by rw [hf1]; exact va_up_self _ _ _) hs2
  have hm2 : Sm3 f _ mo ap cm := Sm3.ofO hs2
  refine lv_iload_n hx hb dM_ways_5 rfl (lv_at hl 1 rfl) ?_
  refine then_i (run_S (n := 1) (As := [.int x]) (rest := []) C0 (m_noFunction hn) gw693 gw691 gw692 gw7 (by decide +kernel) ⟨Nat.le_of_ble_eq_true rfl, Nat.le_of_ble_eq_true rfl⟩ rfl rfl ⟨Nat.le_of_ble_eq_true rfl, Nat.le_of_ble_eq_true rfl⟩ hP rfl hl.1 rfl (Nat.le_of_ble_eq_true rfl) dM_ways_6) hS hA (fun r4 f3 H locs hq6 hP hS => ?_)
  obtain ⟨er4, ef3⟩ := hq6
  subst er4
  rw [ef3] at hP
  refine lv_if_eq (tgt := 18) hx hb dM_ways_9 (by decide) (fun c9 => ?_) (fun c9 => ?_)
  · have c9 : (!q_fn x) = false := kb_0.mp c9
    obtain ⟨i0, hi0, rfl⟩ := q_fn_nI (nb_f c9)
    refine lv_aload_n hx hb dM_ways_18 rfl (lv_at hl 0 rfl) ?_
    refine lv_iconst (v := (-1)) hx hb dM_ways_19 (by decide) ?_
    refine mm_put (v := .int (-1)) (ty := .int) hx hb hg inM tyM tyM_ok nmM hown hK hn hA hP hS hD2.1.1.1 (show f1 mo = .inr (6, [.int (nI 0), .ref (ad 0), .ref (ad 1), .ref (ad 2), .ref (ad 3), .ref (ad 4), .ref (ad 5), .ref (ad 6), .ref (ad 7), .ref (ad 8), .ref (ad 9), .ref (ad 10), .ref (ad 11), .ref (ad 12), .ref (ad 13), .ref (ad 14), .ref (ad 15), .ref ap, .int fe, .int me, .int fu, .int le, .int en, .ref cm, .int sp, .int (nI ka), .int (nI kc), .long mx, .int se]) from hD2.2.1) rfl 24 (by decide) (hg _ gw617) (fun _ h9 => h9) rfl (by decide +kernel) rfl rfl (Nat.le_of_ble_eq_true rfl) dM_ways_20 (fun H locs hP hS => ?_)
    obtain ⟨f5, hf5⟩ : ∃ z, z = va_up f1 mo (.inr (6, [.int (nI 0), .ref (ad 0), .ref (ad 1), .ref (ad 2), .ref (ad 3), .ref (ad 4), .ref (ad 5), .ref (ad 6), .ref (ad 7), .ref (ad 8), .ref (ad 9), .ref (ad 10), .ref (ad 11), .ref (ad 12), .ref (ad 13), .ref (ad 14), .ref (ad 15), .ref ap, .int fe, .int me, .int fu, .int le, .int en, .ref cm, .int (-1), .int (nI ka), .int (nI kc), .long mx, .int se])) := ⟨_, rfl⟩
    have hP : va_P D zCl (va_pl L f5) H := by rw [hf5]; exact hP
    have hs6 : Same1 f1 f5 mo := fun z hz => by rw [hf5, va_up_ne _ _ hz]
    have hD6 : MD tys L f5 mo ap cm ad G (nI 0) fe me fu le en (-1) (nI ka) (nI kc) mx se gc := hD2.updO (by rw [hf5]; exact va_up_self _ _ _) hs6
    have hm6 := hm2.trans (Sm3.ofO hs6)
    refine lv_aload_n hx hb dM_ways_23 rfl (lv_at hl 0 rfl) ?_
    refine lv_iload_n hx hb dM_ways_24 rfl (lv_at hl 1 rfl) ?_
    refine then_v (run_V (n := 1) (As := [.int (nI i0)]) (rest := []) C0 (m_explore hn hi0 hka hkc hM (hW i0 hi0).1 hRl (hW i0 hi0).2.1 h3d (hW i0 hi0).2.2 hfe hD6) gw730 gw727 gw729 gsM_explore gw7 (by decide +kernel) ⟨Nat.le_of_ble_eq_true rfl, Nat.le_of_ble_eq_true rfl⟩ rfl rfl ⟨Nat.le_of_ble_eq_true rfl, Nat.le_of_ble_eq_true rfl⟩ hP hD6.1.1.1 hD6.2.1 rfl rfl rfl hl.1 rfl (Nat.le_of_ble_eq_true rfl) dM_ways_25) hS hA (fun f7 H locs hq25 hP hS => ?_)
    obtain ⟨⟨me0, K0, hD8⟩, hs8⟩ := hq25
    have hm8 := hm6.trans (hs8)
    refine lv_aload_n hx hb dM_ways_28 rfl (lv_at hl 0 rfl) ?_
    refine mm_get (v := .int (nI ((m_ex σ i0 (-1) ka kc gc me0 K0).en))) hx hb hg inM hown hK hP hD8.1.1.1 hD8.2.1 rfl 22 (by decide) (hg _ gw615) (fun _ h9 => h9) rfl dM_ways_29 ?_
    refine ret_i C0 hP hS ⟨_, ⟨_, _, _, _, _, _, ka, kc, _, _, _, (kb_or _), hka, hkc, hD8⟩, hm8, Or.inr ⟨nb_f c9, rfl, fun i2 e2 h2 => ?_⟩⟩ dM_ways_32
    obtain rfl := (nI_eq (by omega) (by omega)).mp e2
    exact ⟨ka, kc, gc, me0, K0, hka, hkc, rfl⟩
  · have c9 : (!q_fn x) = true := kb_t.mp c9
    refine lv_aload_n hx hb dM_ways_12 rfl (lv_at hl 0 rfl) ?_
    refine lv_iconst (v := nI 1) hx hb dM_ways_13 (by decide) ?_
    refine then_i (run_V (n := 1) (As := [.int (nI 1)]) (rest := []) C0 (m_raise hn hD2) gw700 gw697 gw699 gsM_raise gw7 (by decide +kernel) ⟨Nat.le_of_ble_eq_true rfl, Nat.le_of_ble_eq_true rfl⟩ rfl rfl ⟨Nat.le_of_ble_eq_true rfl, Nat.le_of_ble_eq_true rfl⟩ hP hD2.1.1.1 hD2.2.1 rfl rfl rfl hl.1 rfl (Nat.le_of_ble_eq_true rfl) dM_ways_14) hS hA (fun r10 f9 H locs hq14 hP hS => ?_)
    obtain ⟨hr11, hD11, hs11⟩ := hq14
    have hm11 := hm2.trans (Sm3.ofO hs11)
    exact ret_i C0 hP hS ⟨_, ⟨_, _, _, _, _, _, ka, kc, _, _, _, hfe, hka, hkc, hD11⟩, hm11, Or.inl ⟨nb_t c9, rfl⟩⟩ dM_ways_17
set_option maxRecDepth 100000 in
set_option maxHeartbeats 4000000 in
theorem m_comes {l : Launch} {D : va_G} {tys : List (ClassId × FieldType)} {L : List Nat} {f : Nat → va_E} (hn : L.Nodup) {mo ap cm : Nat} {ad : Nat → Nat} {G : Nat → Nat → Int32} {th : Int32} {σ : Sg} {x y : Int32} (hO : MOk σ G) (hI0 : MdI tys L f mo ap cm ad G th) : MetI l yM_comes wM_comes ({ frames := 6, cells := 0, slots := 0, locals := 148 } : Room) D tys L f [.ref mo, .int x, .int y] (fun r f' => ∃ t, MdI tys L f' mo ap cm ad G t ∧ Sm3 f f' mo ap cm ∧ ((m_np σ x y = true ∧ t = nI 1) ∨ (m_np σ x y = false ∧ t = nI 0 ∧ ∀ i p, x = nI i → y = nI p → i < 4 → p ≤ sz σ i → ∃ ka kc gc me K0, (ka < 12 ∧ ka ≠ 3) ∧ (kc < 12 ∧ kc ≠ 3) ∧ r = if (m_ex σ i (-1) ka kc gc me K0).gc p = 0 then nI 0 else nI 1))) := by
  refine met_of "LiquidCheckerModel" (by decide) rfl (Nat.le_of_ble_eq_true rfl) ?_
  intro pgm e s m below meth c ls C0 hP hl
  obtain ⟨hx, hb, hml, hown, hg, hr, hlocks, hK, hN⟩ := id C0
  have hA : ∀ a ∈ L, inL L a := fun _ h => h
  obtain ⟨H, hH⟩ : ∃ z, z = s.heap := ⟨_, rfl⟩
  rw [← hH] at hP ⊢
  have hS : va_S (inL L) s.heap H [] := by rw [hH]; exact va_S.rf
  have hl : lv_has ls 3 [(0, .ref mo), (1, .int x), (2, .int y)] := hl
  obtain ⟨fe, me, fu, le, en, sp, ka, kc, mx, se, gc, hfe, hka, hkc, hD⟩ := hI0
  obtain ⟨hM, hRl, h3d, hW⟩ := hO
  refine lv_aload_n hx hb dM_comes_0 rfl (lv_at hl 0 rfl) ?_
  refine lv_iconst (v := nI 0) hx hb dM_comes_1 (by decide) ?_
  refine mm_put (v := .int (nI 0)) (ty := .int) hx hb hg inM tyM tyM_ok nmM hown hK hn hA hP hS hD.1.1.1 (show f mo = .inr (6, [.int th, .ref (ad 0), .ref (ad 1), .ref (ad 2), .ref (ad 3), .ref (ad 4), .ref (ad 5), .ref (ad 6), .ref (ad 7), .ref (ad 8), .ref (ad 9), .ref (ad 10), .ref (ad 11), .ref (ad 12), .ref (ad 13), .ref (ad 14), .ref (ad 15), .ref ap, .int fe, .int me, .int fu, .int le, .int en, .ref cm, .int sp, .int (nI ka), .int (nI kc), .long mx, .int se]) from hD.2.1) rfl 0 (by decide) (hg _ gw593) (fun _ h9 => h9) rfl (by decide +kernel) rfl rfl (Nat.le_of_ble_eq_true rfl) dM_comes_2 (fun H locs hP hS => ?_)
  obtain ⟨f1, hf1⟩ : ∃ z, z = va_up f mo (.inr (6, [.int (nI 0), .ref (ad 0), .ref (ad 1), .ref (ad 2), .ref (ad 3), .ref (ad 4), .ref (ad 5), .ref (ad 6), .ref (ad 7), .ref (ad 8), .ref (ad 9), .ref (ad 10), .ref (ad 11), .ref (ad 12), .ref (ad 13), .ref (ad 14), .ref (ad 15), .ref ap, .int fe, .int me, .int fu, .int le, .int en, .ref cm, .int sp, .int (nI ka), .int (nI kc), .long mx, .int se])) := ⟨_, rfl⟩
  have hP : va_P D zCl (va_pl L f1) H := by rw [hf1]; exact hP
  have hs2 : Same1 f f1 mo := fun z hz => by rw [hf1, va_up_ne _ _ hz]
  have hD2 : MD tys L f1 mo ap cm ad G (nI 0) fe me fu le en sp (nI ka) (nI kc) mx se gc := hD.updO (by rw [hf1]; exact va_up_self _ _ _) hs2
  have hm2 : Sm3 f _ mo ap cm := Sm3.ofO hs2
  refine lv_aload_n hx hb dM_comes_5 rfl (lv_at hl 0 rfl) ?_
  refine lv_iload_n hx hb dM_comes_6 rfl (lv_at hl 1 rfl) ?_
  refine lv_iload_n hx hb dM_comes_7 rfl (lv_at hl 2 rfl) ?_
  refine then_i (run_V (n := 2) (As := [.int x, .int y]) (rest := []) C0 (m_noPlace hn hM hD2) gw798 gw795 gw797 gsM_noPlace gw7 (by decide +kernel) ⟨Nat.le_of_ble_eq_true rfl, Nat.le_of_ble_eq_true rfl⟩ rfl rfl ⟨Nat.le_of_ble_eq_true rfl, Nat.le_of_ble_eq_true rfl⟩ hP hD2.1.1.1 hD2.2.1 rfl rfl rfl hl.1 rfl (Nat.le_of_ble_eq_true rfl) dM_comes_8) hS hA (fun r4 f3 H locs hq8 hP hS => ?_)
  obtain ⟨er4, ef3⟩ := hq8
  subst er4
  rw [ef3] at hP
  refine lv_if_eq (tgt := 20) hx hb dM_comes_11 (by decide) (fun c11 => ?_) (fun c11 => ?_)
  · have c11 : (m_np σ x y) = false := kb_0.mp c11
    have e0 : q_fn x = true := by cases e : q_fn x; (unfold m_np at c11; rw [e] at c11; cases c11); rfl
    have e1 : q_in y (nI 0) (nI (sz σ (nt x))) = true := by cases e : q_in y (nI 0) (nI (sz σ (nt x))); (unfold m_np at c11; rw [e0, e] at c11; cases c11); rfl
    obtain ⟨i0, hi0, rfl⟩ := q_fn_nI e0
    rw [nt_nI (by omega)] at e1
    have hz16 := (hW i0 hi0).2.1.1
    obtain ⟨p0, hp0, rfl⟩ := q_in_nI (by omega) e1
    refine lv_aload_n hx hb dM_comes_20 rfl (lv_at hl 0 rfl) ?_
    refine lv_iconst (v := (-1)) hx hb dM_comes_21 (by decide) ?_
    refine mm_put (v := .int (-1)) (ty := .int) hx hb hg inM tyM tyM_ok nmM hown hK hn hA hP hS hD2.1.1.1 (show f1 mo = .inr (6, [.int (nI 0), .ref (ad 0), .ref (ad 1), .ref (ad 2), .ref (ad 3), .ref (ad 4), .ref (ad 5), .ref (ad 6), .ref (ad 7), .ref (ad 8), .ref (ad 9), .ref (ad 10), .ref (ad 11), .ref (ad 12), .ref (ad 13), .ref (ad 14), .ref (ad 15), .ref ap, .int fe, .int me, .int fu, .int le, .int en, .ref cm, .int sp, .int (nI ka), .int (nI kc), .long mx, .int se]) from hD2.2.1) rfl 24 (by decide) (hg _ gw617) (fun _ h9 => h9) rfl (by decide +kernel) rfl rfl (Nat.le_of_ble_eq_true rfl) dM_comes_22 (fun H locs hP hS => ?_)
    obtain ⟨f5, hf5⟩ : ∃ z, z = va_up f1 mo (.inr (6, [.int (nI 0), .ref (ad 0), .ref (ad 1), .ref (ad 2), .ref (ad 3), .ref (ad 4), .ref (ad 5), .ref (ad 6), .ref (ad 7), .ref (ad 8), .ref (ad 9), .ref (ad 10), .ref (ad 11), .ref (ad 12), .ref (ad 13), .ref (ad 14), .ref (ad 15), .ref ap, .int fe, .int me, .int fu, .int le, .int en, .ref cm, .int (-1), .int (nI ka), .int (nI kc), .long mx, .int se])) := ⟨_, rfl⟩
    have hP : va_P D zCl (va_pl L f5) H := by rw [hf5]; exact hP
    have hs6 : Same1 f1 f5 mo := fun z hz => by rw [hf5, va_up_ne _ _ hz]
    have hD6 : MD tys L f5 mo ap cm ad G (nI 0) fe me fu le en (-1) (nI ka) (nI kc) mx se gc := hD2.updO (by rw [hf5]; exact va_up_self _ _ _) hs6
    have hm6 := hm2.trans (Sm3.ofO hs6)
    refine lv_aload_n hx hb dM_comes_25 rfl (lv_at hl 0 rfl) ?_
    refine lv_iload_n hx hb dM_comes_26 rfl (lv_at hl 1 rfl) ?_
    refine then_v (run_V (n := 1) (As := [.int (nI i0)]) (rest := []) C0 (m_explore hn hi0 hka hkc hM (hW i0 hi0).1 hRl (hW i0 hi0).2.1 h3d (hW i0 hi0).2.2 hfe hD6) gw730 gw727 gw729 gsM_explore gw7 (by decide +kernel) ⟨Nat.le_of_ble_eq_true rfl, Nat.le_of_ble_eq_true rfl⟩ rfl rfl ⟨Nat.le_of_ble_eq_true rfl, Nat.le_of_ble_eq_true rfl⟩ hP hD6.1.1.1 hD6.2.1 rfl rfl rfl hl.1 rfl (Nat.le_of_ble_eq_true rfl) dM_comes_27) hS hA (fun f7 H locs hq27 hP hS => ?_)
    obtain ⟨⟨me0, K0, hD8⟩, hs8⟩ := hq27
    have hm8 := hm6.trans (hs8)
    refine lv_aload_n hx hb dM_comes_30 rfl (lv_at hl 0 rfl) ?_
    refine mm_get (v := .ref cm) hx hb hg inM hown hK hP hD8.1.1.1 hD8.2.1 rfl 23 (by decide) (hg _ gw616) (fun _ h9 => h9) rfl dM_comes_31 ?_
    refine lv_iload_n hx hb dM_comes_34 rfl (lv_at hl 2 rfl) ?_
    refine mm_zald hx hb hK hP hD8.1.1.2.2 hD8.2.2.2 (vp_in_nI (show p0 < 17 by omega) (by omega)) dM_comes_35 ?_
    rw [nI_clamp (by omega)]
    refine lv_if_eq (tgt := 43) hx hb dM_comes_36 (by decide) (fun c36 => ?_) (fun c36 => ?_)
    · refine lv_iconst (v := nI 0) hx hb dM_comes_43 (by decide) ?_
      refine ret_i C0 hP hS ⟨_, ⟨_, _, _, _, _, _, ka, kc, _, _, _, (kb_or _), hka, hkc, hD8⟩, hm8, Or.inr ⟨c11, rfl, fun i2 p2 e2 e3 h2 h3 => ?_⟩⟩ dM_comes_44
      obtain rfl := (nI_eq (by omega) (by omega)).mp e2
      obtain rfl := (nI_eq (by omega) (by omega)).mp e3
      exact ⟨ka, kc, gc, me0, K0, hka, hkc, by rw [if_pos c36]⟩
    · refine lv_iconst (v := nI 1) hx hb dM_comes_39 (by decide) ?_
      refine lv_goto (tgt := 44) hx hb dM_comes_40 (by decide) ?_
      refine ret_i C0 hP hS ⟨_, ⟨_, _, _, _, _, _, ka, kc, _, _, _, (kb_or _), hka, hkc, hD8⟩, hm8, Or.inr ⟨c11, rfl, fun i2 p2 e2 e3 h2 h3 => ?_⟩⟩ dM_comes_44
      obtain rfl := (nI_eq (by omega) (by omega)).mp e2
      obtain rfl := (nI_eq (by omega) (by omega)).mp e3
      exact ⟨ka, kc, gc, me0, K0, hka, hkc, by rw [if_neg c36]⟩
  · have c11 : (m_np σ x y) = true := kb_t.mp c11
    refine lv_aload_n hx hb dM_comes_14 rfl (lv_at hl 0 rfl) ?_
    refine lv_iconst (v := nI 1) hx hb dM_comes_15 (by decide) ?_
    refine then_i (run_V (n := 1) (As := [.int (nI 1)]) (rest := []) C0 (m_raise hn hD2) gw700 gw697 gw699 gsM_raise gw7 (by decide +kernel) ⟨Nat.le_of_ble_eq_true rfl, Nat.le_of_ble_eq_true rfl⟩ rfl rfl ⟨Nat.le_of_ble_eq_true rfl, Nat.le_of_ble_eq_true rfl⟩ hP hD2.1.1.1 hD2.2.1 rfl rfl rfl hl.1 rfl (Nat.le_of_ble_eq_true rfl) dM_comes_16) hS hA (fun r10 f9 H locs hq16 hP hS => ?_)
    obtain ⟨hr11, hD11, hs11⟩ := hq16
    have hm11 := hm2.trans (Sm3.ofO hs11)
    exact ret_i C0 hP hS ⟨_, ⟨_, _, _, _, _, _, ka, kc, _, _, _, hfe, hka, hkc, hD11⟩, hm11, Or.inl ⟨c11, rfl⟩⟩ dM_comes_19
set_option maxRecDepth 100000 in
set_option maxHeartbeats 4000000 in
theorem m_most {l : Launch} {D : va_G} {tys : List (ClassId × FieldType)} {L : List Nat} {f : Nat → va_E} (hn : L.Nodup) {mo ap cm : Nat} {ad : Nat → Nat} {G : Nat → Nat → Int32} {th : Int32} {σ : Sg} {x y a b : Int32} (hO : MOk σ G) (hI0 : MdI tys L f mo ap cm ad G th) : MetI l yM_most wM_most ({ frames := 6, cells := 0, slots := 0, locals := 148 } : Room) D tys L f [.ref mo, .int x, .int y, .int a, .int b] (fun r f' => ∃ t, MdI tys L f' mo ap cm ad G t ∧ Sm3 f f' mo ap cm ∧ (((m_np σ x y = true ∨ q_us a = false ∨ q_us b = false) ∧ t = nI 1) ∨ (m_np σ x y = false ∧ q_us a = true ∧ q_us b = true ∧ ∀ i p, x = nI i → y = nI p → i < 4 → p ≤ sz σ i → ∃ gc me K0, ((m_ex σ i (nI p) (nt a) (nt b) gc me K0).se = 0 ∧ t = nI 2) ∨ (¬ (m_ex σ i (nI p) (nt a) (nt b) gc me K0).se = 0 ∧ (m_ex σ i (nI p) (nt a) (nt b) gc me K0).mx = 1000000000000 ∧ t = nI 3) ∨ (¬ (m_ex σ i (nI p) (nt a) (nt b) gc me K0).se = 0 ∧ ¬ (m_ex σ i (nI p) (nt a) (nt b) gc me K0).mx = 1000000000000 ∧ t = nI 0 ∧ r = (m_ex σ i (nI p) (nt a) (nt b) gc me K0).mx.toInt32)))) := by
  refine met_of "LiquidCheckerModel" (by decide) rfl (Nat.le_of_ble_eq_true rfl) ?_
  intro pgm e s m below meth c ls C0 hP hl
  obtain ⟨hx, hb, hml, hown, hg, hr, hlocks, hK, hN⟩ := id C0
  have hA : ∀ a ∈ L, inL L a := fun _ h => h
  obtain ⟨H, hH⟩ : ∃ z, z = s.heap := ⟨_, rfl⟩
  rw [← hH] at hP ⊢
  have hS : va_S (inL L) s.heap H [] := by rw [hH]; exact va_S.rf
  have hl : lv_has ls 5 [(0, .ref mo), (1, .int x), (2, .int y), (3, .int a), (4, .int b)] := hl
  obtain ⟨fe, me, fu, le, en, sp, ka, kc, mx, se, gc, hfe, hka, hkc, hD⟩ := hI0
  obtain ⟨hM, hRl, h3d, hW⟩ := hO
  refine lv_aload_n hx hb dM_most_0 rfl (lv_at hl 0 rfl) ?_
  refine lv_iconst (v := nI 0) hx hb dM_most_1 (by decide) ?_
  refine mm_put (v := .int (nI 0)) (ty := .int) hx hb hg inM tyM tyM_ok nmM hown hK hn hA hP hS hD.1.1.1 (show f mo = .inr (6, [.int th, .ref (ad 0), .ref (ad 1), .ref (ad 2), .ref (ad 3), .ref (ad 4), .ref (ad 5), .ref (ad 6), .ref (ad 7), .ref (ad 8), .ref (ad 9), .ref (ad 10), .ref (ad 11), .ref (ad 12), .ref (ad 13), .ref (ad 14), .ref (ad 15), .ref ap, .int fe, .int me, .int fu, .int le, .int en, .ref cm, .int sp, .int (nI ka), .int (nI kc), .long mx, .int se]) from hD.2.1) rfl 0 (by decide) (hg _ gw593) (fun _ h9 => h9) rfl (by decide +kernel) rfl rfl (Nat.le_of_ble_eq_true rfl) dM_most_2 (fun H locs hP hS => ?_)
  obtain ⟨f1, hf1⟩ : ∃ z, z = va_up f mo (.inr (6, [.int (nI 0), .ref (ad 0), .ref (ad 1), .ref (ad 2), .ref (ad 3), .ref (ad 4), .ref (ad 5), .ref (ad 6), .ref (ad 7), .ref (ad 8), .ref (ad 9), .ref (ad 10), .ref (ad 11), .ref (ad 12), .ref (ad 13), .ref (ad 14), .ref (ad 15), .ref ap, .int fe, .int me, .int fu, .int le, .int en, .ref cm, .int sp, .int (nI ka), .int (nI kc), .long mx, .int se])) := ⟨_, rfl⟩
  have hP : va_P D zCl (va_pl L f1) H := by rw [hf1]; exact hP
  have hs2 : Same1 f f1 mo := fun z hz => by rw [hf1, va_up_ne _ _ hz]
  have hD2 : MD tys L f1 mo ap cm ad G (nI 0) fe me fu le en sp (nI ka) (nI kc) mx se gc := hD.updO (by rw [hf1]; exact va_up_self _ _ _) hs2
  have hm2 : Sm3 f _ mo ap cm := Sm3.ofO hs2
  refine lv_aload_n hx hb dM_most_5 rfl (lv_at hl 0 rfl) ?_
  refine lv_iload_n hx hb dM_most_6 rfl (lv_at hl 1 rfl) ?_
  refine lv_iload_n hx hb dM_most_7 rfl (lv_at hl 2 rfl) ?_
  refine then_i (run_V (n := 2) (As := [.int x, .int y]) (rest := []) C0 (m_noPlace hn hM hD2) gw798 gw795 gw797 gsM_noPlace gw7 (by decide +kernel) ⟨Nat.le_of_ble_eq_true rfl, Nat.le_of_ble_eq_true rfl⟩ rfl rfl ⟨Nat.le_of_ble_eq_true rfl, Nat.le_of_ble_eq_true rfl⟩ hP hD2.1.1.1 hD2.2.1 rfl rfl rfl hl.1 rfl (Nat.le_of_ble_eq_true rfl) dM_most_8) hS hA (fun r4 f3 H locs hq8 hP hS => ?_)
  obtain ⟨er4, ef3⟩ := hq8
  subst er4
  rw [ef3] at hP
  refine lv_if_ne (tgt := 29) hx hb dM_most_11 (by decide) (fun c11 => ?_) (fun c11 => ?_)
  · have c11 : (m_np σ x y) = true := kb_t.mp c11
    refine lv_aload_n hx hb dM_most_29 rfl (lv_at hl 0 rfl) ?_
    refine lv_iconst (v := nI 1) hx hb dM_most_30 (by decide) ?_
    refine then_i (run_V (n := 1) (As := [.int (nI 1)]) (rest := []) C0 (m_raise hn hD2) gw700 gw697 gw699 gsM_raise gw7 (by decide +kernel) ⟨Nat.le_of_ble_eq_true rfl, Nat.le_of_ble_eq_true rfl⟩ rfl rfl ⟨Nat.le_of_ble_eq_true rfl, Nat.le_of_ble_eq_true rfl⟩ hP hD2.1.1.1 hD2.2.1 rfl rfl rfl hl.1 rfl (Nat.le_of_ble_eq_true rfl) dM_most_31) hS hA (fun r6 f5 H locs hq31 hP hS => ?_)
    obtain ⟨hr7, hD7, hs7⟩ := hq31
    have hm7 := hm2.trans (Sm3.ofO hs7)
    exact ret_i C0 hP hS ⟨_, ⟨_, _, _, _, _, _, ka, kc, _, _, _, hfe, hka, hkc, hD7⟩, hm7, Or.inl ⟨Or.inl c11, rfl⟩⟩ dM_most_34
  · have c11 : (m_np σ x y) = false := kb_0.mp c11
    refine lv_iload_n hx hb dM_most_14 rfl (lv_at hl 3 rfl) ?_
    refine then_i (run_S (n := 1) (As := [.int a]) (rest := []) C0 (m_name hn) gw710 gw708 gw709 gw7 (by decide +kernel) ⟨Nat.le_of_ble_eq_true rfl, Nat.le_of_ble_eq_true rfl⟩ rfl rfl ⟨Nat.le_of_ble_eq_true rfl, Nat.le_of_ble_eq_true rfl⟩ hP rfl hl.1 rfl (Nat.le_of_ble_eq_true rfl) dM_most_15) hS hA (fun r9 f8 H locs hq15 hP hS => ?_)
    obtain ⟨er9, ef8⟩ := hq15
    subst er9
    rw [ef8] at hP
    refine lv_if_eq (tgt := 29) hx hb dM_most_18 (by decide) (fun c18 => ?_) (fun c18 => ?_)
    · have c18 : (q_us a) = false := kb_0.mp c18
      refine lv_aload_n hx hb dM_most_29 rfl (lv_at hl 0 rfl) ?_
      refine lv_iconst (v := nI 1) hx hb dM_most_30 (by decide) ?_
      refine then_i (run_V (n := 1) (As := [.int (nI 1)]) (rest := []) C0 (m_raise hn hD2) gw700 gw697 gw699 gsM_raise gw7 (by decide +kernel) ⟨Nat.le_of_ble_eq_true rfl, Nat.le_of_ble_eq_true rfl⟩ rfl rfl ⟨Nat.le_of_ble_eq_true rfl, Nat.le_of_ble_eq_true rfl⟩ hP hD2.1.1.1 hD2.2.1 rfl rfl rfl hl.1 rfl (Nat.le_of_ble_eq_true rfl) dM_most_31) hS hA (fun r11 f10 H locs hq31 hP hS => ?_)
      obtain ⟨hr12, hD12, hs12⟩ := hq31
      have hm12 := hm2.trans (Sm3.ofO hs12)
      exact ret_i C0 hP hS ⟨_, ⟨_, _, _, _, _, _, ka, kc, _, _, _, hfe, hka, hkc, hD12⟩, hm12, Or.inl ⟨Or.inr (Or.inl c18), rfl⟩⟩ dM_most_34
    · have c18 : (q_us a) = true := kb_t.mp c18
      refine lv_iload hx hb dM_most_21 (lv_at hl 4 rfl) ?_
      refine then_i (run_S (n := 1) (As := [.int b]) (rest := []) C0 (m_name hn) gw710 gw708 gw709 gw7 (by decide +kernel) ⟨Nat.le_of_ble_eq_true rfl, Nat.le_of_ble_eq_true rfl⟩ rfl rfl ⟨Nat.le_of_ble_eq_true rfl, Nat.le_of_ble_eq_true rfl⟩ hP rfl hl.1 rfl (Nat.le_of_ble_eq_true rfl) dM_most_23) hS hA (fun r14 f13 H locs hq23 hP hS => ?_)
      obtain ⟨er14, ef13⟩ := hq23
      subst er14
      rw [ef13] at hP
      refine lv_if_ne (tgt := 35) hx hb dM_most_26 (by decide) (fun c26 => ?_) (fun c26 => ?_)
      · have c26 : (q_us b) = true := kb_t.mp c26
        have e0 : q_fn x = true := by cases e : q_fn x; (unfold m_np at c11; rw [e] at c11; cases c11); rfl
        have e1 : q_in y (nI 0) (nI (sz σ (nt x))) = true := by cases e : q_in y (nI 0) (nI (sz σ (nt x))); (unfold m_np at c11; rw [e0, e] at c11; cases c11); rfl
        obtain ⟨i0, hi0, rfl⟩ := q_fn_nI e0
        rw [nt_nI (by omega)] at e1
        have hz16 := (hW i0 hi0).2.1.1
        obtain ⟨p0, hp0, rfl⟩ := q_in_nI (by omega) e1
        have hna := q_us_nm c18
        have hnb := q_us_nm c26
        have ea := hna.1
        have eb := hnb.1
        have hl : lv_has ls 5 [(0, .ref mo), (1, .int (nI i0)), (2, .int (nI p0)), (3, .int (nI (nt a))), (4, .int (nI (nt b)))] := by rw [← ea, ← eb]; exact hl
        refine lv_aload_n hx hb dM_most_35 rfl (lv_at hl 0 rfl) ?_
        refine lv_iload_n hx hb dM_most_36 rfl (lv_at hl 2 rfl) ?_
        refine mm_put (v := .int (nI p0)) (ty := .int) hx hb hg inM tyM tyM_ok nmM hown hK hn hA hP hS hD2.1.1.1 (show f1 mo = .inr (6, [.int (nI 0), .ref (ad 0), .ref (ad 1), .ref (ad 2), .ref (ad 3), .ref (ad 4), .ref (ad 5), .ref (ad 6), .ref (ad 7), .ref (ad 8), .ref (ad 9), .ref (ad 10), .ref (ad 11), .ref (ad 12), .ref (ad 13), .ref (ad 14), .ref (ad 15), .ref ap, .int fe, .int me, .int fu, .int le, .int en, .ref cm, .int sp, .int (nI ka), .int (nI kc), .long mx, .int se]) from hD2.2.1) rfl 24 (by decide) (hg _ gw617) (fun _ h9 => h9) rfl (by decide +kernel) rfl rfl (Nat.le_of_ble_eq_true rfl) dM_most_37 (fun H locs hP hS => ?_)
        obtain ⟨f15, hf15⟩ : ∃ z, z = va_up f1 mo (.inr (6, [.int (nI 0), .ref (ad 0), .ref (ad 1), .ref (ad 2), .ref (ad 3), .ref (ad 4), .ref (ad 5), .ref (ad 6), .ref (ad 7), .ref (ad 8), .ref (ad 9), .ref (ad 10), .ref (ad 11), .ref (ad 12), .ref (ad 13), .ref (ad 14), .ref (ad 15), .ref ap, .int fe, .int me, .int fu, .int le, .int en, .ref cm, .int (nI p0), .int (nI ka), .int (nI kc), .long mx, .int se])) := ⟨_, rfl⟩
        have hP : va_P D zCl (va_pl L f15) H := by rw [hf15]; exact hP
        have hs16 : Same1 f1 f15 mo := fun z hz => by rw [hf15, va_up_ne _ _ hz]
        have hD16 : MD tys L f15 mo ap cm ad G (nI 0) fe me fu le en (nI p0) (nI ka) (nI kc) mx se gc := hD2.updO (by rw [hf15]; exact va_up_self _ _ _) hs16
        have hm16 := hm2.trans (Sm3.ofO hs16)
        refine lv_aload_n hx hb dM_most_40 rfl (lv_at hl 0 rfl) ?_
        refine lv_iload_n hx hb dM_most_41 rfl (lv_at hl 3 rfl) ?_
        refine mm_put (v := .int (nI (nt a))) (ty := .int) hx hb hg inM tyM tyM_ok nmM hown hK hn hA hP hS hD16.1.1.1 (show f15 mo = .inr (6, [.int (nI 0), .ref (ad 0), .ref (ad 1), .ref (ad 2), .ref (ad 3), .ref (ad 4), .ref (ad 5), .ref (ad 6), .ref (ad 7), .ref (ad 8), .ref (ad 9), .ref (ad 10), .ref (ad 11), .ref (ad 12), .ref (ad 13), .ref (ad 14), .ref (ad 15), .ref ap, .int fe, .int me, .int fu, .int le, .int en, .ref cm, .int (nI p0), .int (nI ka), .int (nI kc), .long mx, .int se]) from hD16.2.1) rfl 25 (by decide) (hg _ gw618) (fun _ h9 => h9) rfl (by decide +kernel) rfl rfl (Nat.le_of_ble_eq_true rfl) dM_most_42 (fun H locs hP hS => ?_)
        obtain ⟨f17, hf17⟩ : ∃ z, z = va_up f15 mo (.inr (6, [.int (nI 0), .ref (ad 0), .ref (ad 1), .ref (ad 2), .ref (ad 3), .ref (ad 4), .ref (ad 5), .ref (ad 6), .ref (ad 7), .ref (ad 8), .ref (ad 9), .ref (ad 10), .ref (ad 11), .ref (ad 12), .ref (ad 13), .ref (ad 14), .ref (ad 15), .ref ap, .int fe, .int me, .int fu, .int le, .int en, .ref cm, .int (nI p0), .int (nI (nt a)), .int (nI kc), .long mx, .int se])) := ⟨_, rfl⟩
        have hP : va_P D zCl (va_pl L f17) H := by rw [hf17]; exact hP
        have hs18 : Same1 f15 f17 mo := fun z hz => by rw [hf17, va_up_ne _ _ hz]
        have hD18 : MD tys L f17 mo ap cm ad G (nI 0) fe me fu le en (nI p0) (nI (nt a)) (nI kc) mx se gc := hD16.updO (by rw [hf17]; exact va_up_self _ _ _) hs18
        have hm18 := hm16.trans (Sm3.ofO hs18)
        refine lv_aload_n hx hb dM_most_45 rfl (lv_at hl 0 rfl) ?_
        refine lv_iload hx hb dM_most_46 (lv_at hl 4 rfl) ?_
        refine mm_put (v := .int (nI (nt b))) (ty := .int) hx hb hg inM tyM tyM_ok nmM hown hK hn hA hP hS hD18.1.1.1 (show f17 mo = .inr (6, [.int (nI 0), .ref (ad 0), .ref (ad 1), .ref (ad 2), .ref (ad 3), .ref (ad 4), .ref (ad 5), .ref (ad 6), .ref (ad 7), .ref (ad 8), .ref (ad 9), .ref (ad 10), .ref (ad 11), .ref (ad 12), .ref (ad 13), .ref (ad 14), .ref (ad 15), .ref ap, .int fe, .int me, .int fu, .int le, .int en, .ref cm, .int (nI p0), .int (nI (nt a)), .int (nI kc), .long mx, .int se]) from hD18.2.1) rfl 26 (by decide) (hg _ gw619) (fun _ h9 => h9) rfl (by decide +kernel) rfl rfl (Nat.le_of_ble_eq_true rfl) dM_most_48 (fun H locs hP hS => ?_)
        obtain ⟨f19, hf19⟩ : ∃ z, z = va_up f17 mo (.inr (6, [.int (nI 0), .ref (ad 0), .ref (ad 1), .ref (ad 2), .ref (ad 3), .ref (ad 4), .ref (ad 5), .ref (ad 6), .ref (ad 7), .ref (ad 8), .ref (ad 9), .ref (ad 10), .ref (ad 11), .ref (ad 12), .ref (ad 13), .ref (ad 14), .ref (ad 15), .ref ap, .int fe, .int me, .int fu, .int le, .int en, .ref cm, .int (nI p0), .int (nI (nt a)), .int (nI (nt b)), .long mx, .int se])) := ⟨_, rfl⟩
        have hP : va_P D zCl (va_pl L f19) H := by rw [hf19]; exact hP
        have hs20 : Same1 f17 f19 mo := fun z hz => by rw [hf19, va_up_ne _ _ hz]
        have hD20 : MD tys L f19 mo ap cm ad G (nI 0) fe me fu le en (nI p0) (nI (nt a)) (nI (nt b)) mx se gc := hD18.updO (by rw [hf19]; exact va_up_self _ _ _) hs20
        have hm20 := hm18.trans (Sm3.ofO hs20)
        refine lv_aload_n hx hb dM_most_51 rfl (lv_at hl 0 rfl) ?_
        refine lv_iload_n hx hb dM_most_52 rfl (lv_at hl 1 rfl) ?_
        refine then_v (run_V (n := 1) (As := [.int (nI i0)]) (rest := []) C0 (m_explore hn hi0 hna.2 hnb.2 hM (hW i0 hi0).1 hRl (hW i0 hi0).2.1 h3d (hW i0 hi0).2.2 hfe hD20) gw730 gw727 gw729 gsM_explore gw7 (by decide +kernel) ⟨Nat.le_of_ble_eq_true rfl, Nat.le_of_ble_eq_true rfl⟩ rfl rfl ⟨Nat.le_of_ble_eq_true rfl, Nat.le_of_ble_eq_true rfl⟩ hP hD20.1.1.1 hD20.2.1 rfl rfl rfl hl.1 rfl (Nat.le_of_ble_eq_true rfl) dM_most_53) hS hA (fun f21 H locs hq53 hP hS => ?_)
        obtain ⟨⟨me0, K0, hD22⟩, hs22⟩ := hq53
        have hm22 := hm20.trans (hs22)
        refine lv_aload_n hx hb dM_most_56 rfl (lv_at hl 0 rfl) ?_
        refine mm_get (v := .int ((m_ex σ i0 (nI p0) (nt a) (nt b) gc me0 K0).se)) hx hb hg inM hown hK hP hD22.1.1.1 hD22.2.1 rfl 28 (by decide) (hg _ gw621) (fun _ h9 => h9) rfl dM_most_57 ?_
        refine lv_if_ne (tgt := 69) hx hb dM_most_60 (by decide) (fun c60 => ?_) (fun c60 => ?_)
        · refine lv_aload_n hx hb dM_most_69 rfl (lv_at hl 0 rfl) ?_
          refine mm_get (v := .long ((m_ex σ i0 (nI p0) (nt a) (nt b) gc me0 K0).mx)) hx hb hg inM hown hK hP hD22.1.1.1 hD22.2.1 rfl 27 (by decide) (hg _ gw620) (fun _ h9 => h9) rfl dM_most_70 ?_
          refine lv_ldc2 hx hb hown (hg _ gw739) dM_most_73 ?_
          refine W.lcmp hx hb dM_most_76 ?_
          refine lv_if_ne (tgt := 88) hx hb dM_most_77 (by decide) (fun c77 => ?_) (fun c77 => ?_)
          · refine lv_aload_n hx hb dM_most_88 rfl (lv_at hl 0 rfl) ?_
            refine mm_get (v := .long ((m_ex σ i0 (nI p0) (nt a) (nt b) gc me0 K0).mx)) hx hb hg inM hown hK hP hD22.1.1.1 hD22.2.1 rfl 27 (by decide) (hg _ gw620) (fun _ h9 => h9) rfl dM_most_89 ?_
            refine lv_l2i hx hb dM_most_92 rfl ?_
            refine ret_i C0 hP hS ⟨_, ⟨_, _, _, _, _, _, nt a, nt b, _, _, _, (kb_or _), hna.2, hnb.2, hD22⟩, hm22, Or.inr ⟨c11, c18, c26, fun i2 p2 e2 e3 h2 h3 => ?_⟩⟩ dM_most_93
            obtain rfl := (nI_eq (by omega) (by omega)).mp e2
            obtain rfl := (nI_eq (by omega) (by omega)).mp e3
            exact ⟨gc, me0, K0, Or.inr (Or.inr ⟨c60, fun z => c77 ((lg_cmp_eq _ _).mpr z), rfl, rfl⟩)⟩
          · refine lv_aload_n hx hb dM_most_80 rfl (lv_at hl 0 rfl) ?_
            refine lv_iconst (v := nI 3) hx hb dM_most_81 (by decide) ?_
            refine then_i (run_V (n := 1) (As := [.int (nI 3)]) (rest := []) C0 (m_raise hn hD22) gw700 gw697 gw699 gsM_raise gw7 (by decide +kernel) ⟨Nat.le_of_ble_eq_true rfl, Nat.le_of_ble_eq_true rfl⟩ rfl rfl ⟨Nat.le_of_ble_eq_true rfl, Nat.le_of_ble_eq_true rfl⟩ hP hD22.1.1.1 hD22.2.1 rfl rfl rfl hl.1 rfl (Nat.le_of_ble_eq_true rfl) dM_most_82) hS hA (fun r24 f23 H locs hq82 hP hS => ?_)
            obtain ⟨hr25, hD25, hs25⟩ := hq82
            have hm25 := hm22.trans (Sm3.ofO hs25)
            refine lv_goto (tgt := 93) hx hb dM_most_85 (by decide) ?_
            refine ret_i C0 hP hS ⟨_, ⟨_, _, _, _, _, _, nt a, nt b, _, _, _, (kb_or _), hna.2, hnb.2, hD25⟩, hm25, Or.inr ⟨c11, c18, c26, fun i2 p2 e2 e3 h2 h3 => ?_⟩⟩ dM_most_93
            obtain rfl := (nI_eq (by omega) (by omega)).mp e2
            obtain rfl := (nI_eq (by omega) (by omega)).mp e3
            exact ⟨gc, me0, K0, Or.inr (Or.inl ⟨c60, (lg_cmp_eq _ _).mp c77, rfl⟩)⟩
        · refine lv_aload_n hx hb dM_most_63 rfl (lv_at hl 0 rfl) ?_
          refine lv_iconst (v := nI 2) hx hb dM_most_64 (by decide) ?_
          refine then_i (run_V (n := 1) (As := [.int (nI 2)]) (rest := []) C0 (m_raise hn hD22) gw700 gw697 gw699 gsM_raise gw7 (by decide +kernel) ⟨Nat.le_of_ble_eq_true rfl, Nat.le_of_ble_eq_true rfl⟩ rfl rfl ⟨Nat.le_of_ble_eq_true rfl, Nat.le_of_ble_eq_true rfl⟩ hP hD22.1.1.1 hD22.2.1 rfl rfl rfl hl.1 rfl (Nat.le_of_ble_eq_true rfl) dM_most_65) hS hA (fun r27 f26 H locs hq65 hP hS => ?_)
          obtain ⟨hr28, hD28, hs28⟩ := hq65
          have hm28 := hm22.trans (Sm3.ofO hs28)
          refine ret_i C0 hP hS ⟨_, ⟨_, _, _, _, _, _, nt a, nt b, _, _, _, (kb_or _), hna.2, hnb.2, hD28⟩, hm28, Or.inr ⟨c11, c18, c26, fun i2 p2 e2 e3 h2 h3 => ?_⟩⟩ dM_most_68
          obtain rfl := (nI_eq (by omega) (by omega)).mp e2
          obtain rfl := (nI_eq (by omega) (by omega)).mp e3
          exact ⟨gc, me0, K0, Or.inl ⟨c60, rfl⟩⟩
      · have c26 : (q_us b) = false := kb_0.mp c26
        refine lv_aload_n hx hb dM_most_29 rfl (lv_at hl 0 rfl) ?_
        refine lv_iconst (v := nI 1) hx hb dM_most_30 (by decide) ?_
        refine then_i (run_V (n := 1) (As := [.int (nI 1)]) (rest := []) C0 (m_raise hn hD2) gw700 gw697 gw699 gsM_raise gw7 (by decide +kernel) ⟨Nat.le_of_ble_eq_true rfl, Nat.le_of_ble_eq_true rfl⟩ rfl rfl ⟨Nat.le_of_ble_eq_true rfl, Nat.le_of_ble_eq_true rfl⟩ hP hD2.1.1.1 hD2.2.1 rfl rfl rfl hl.1 rfl (Nat.le_of_ble_eq_true rfl) dM_most_31) hS hA (fun r30 f29 H locs hq31 hP hS => ?_)
        obtain ⟨hr31, hD31, hs31⟩ := hq31
        have hm31 := hm2.trans (Sm3.ofO hs31)
        exact ret_i C0 hP hS ⟨_, ⟨_, _, _, _, _, _, ka, kc, _, _, _, hfe, hka, hkc, hD31⟩, hm31, Or.inl ⟨Or.inr (Or.inr c26), rfl⟩⟩ dM_most_34
set_option maxRecDepth 100000 in
set_option maxHeartbeats 4000000 in
theorem m_follows {l : Launch} {D : va_G} {tys : List (ClassId × FieldType)} {L : List Nat} {f : Nat → va_E} (hn : L.Nodup) {mo ap cm : Nat} {ad : Nat → Nat} {G : Nat → Nat → Int32} {th : Int32} {σ : Sg} {x y : Int32} (hO : MOk σ G) (hI0 : MdI tys L f mo ap cm ad G th) : MetI l yM_follows wM_follows ({ frames := 2, cells := 0, slots := 0, locals := 52 } : Room) D tys L f [.ref mo, .int x, .int y] (fun r f' => ∃ t, MdI tys L f' mo ap cm ad G t ∧ Sm3 f f' mo ap cm ∧ (((q_fn x && q_fn y) = false ∧ t = nI 1) ∨ (q_fn x = true ∧ q_fn y = true ∧ t = nI 0 ∧ ∀ i j, x = nI i → y = nI j → i < 4 → j < 4 → r = kb (q_fw σ i j)))) := by
  refine met_of "LiquidCheckerModel" (by decide) rfl (Nat.le_of_ble_eq_true rfl) ?_
  intro pgm e s m below meth c ls C0 hP hl
  obtain ⟨hx, hb, hml, hown, hg, hr, hlocks, hK, hN⟩ := id C0
  have hA : ∀ a ∈ L, inL L a := fun _ h => h
  obtain ⟨H, hH⟩ : ∃ z, z = s.heap := ⟨_, rfl⟩
  rw [← hH] at hP ⊢
  have hS : va_S (inL L) s.heap H [] := by rw [hH]; exact va_S.rf
  have hl : lv_has ls 3 [(0, .ref mo), (1, .int x), (2, .int y)] := hl
  obtain ⟨fe, me, fu, le, en, sp, ka, kc, mx, se, gc, hfe, hka, hkc, hD⟩ := hI0
  obtain ⟨hM, hRl, h3d, hW⟩ := hO
  refine lv_aload_n hx hb dM_follows_0 rfl (lv_at hl 0 rfl) ?_
  refine lv_iconst (v := nI 0) hx hb dM_follows_1 (by decide) ?_
  refine mm_put (v := .int (nI 0)) (ty := .int) hx hb hg inM tyM tyM_ok nmM hown hK hn hA hP hS hD.1.1.1 (show f mo = .inr (6, [.int th, .ref (ad 0), .ref (ad 1), .ref (ad 2), .ref (ad 3), .ref (ad 4), .ref (ad 5), .ref (ad 6), .ref (ad 7), .ref (ad 8), .ref (ad 9), .ref (ad 10), .ref (ad 11), .ref (ad 12), .ref (ad 13), .ref (ad 14), .ref (ad 15), .ref ap, .int fe, .int me, .int fu, .int le, .int en, .ref cm, .int sp, .int (nI ka), .int (nI kc), .long mx, .int se]) from hD.2.1) rfl 0 (by decide) (hg _ gw593) (fun _ h9 => h9) rfl (by decide +kernel) rfl rfl (Nat.le_of_ble_eq_true rfl) dM_follows_2 (fun H locs hP hS => ?_)
  obtain ⟨f1, hf1⟩ : ∃ z, z = va_up f mo (.inr (6, [.int (nI 0), .ref (ad 0), .ref (ad 1), .ref (ad 2), .ref (ad 3), .ref (ad 4), .ref (ad 5), .ref (ad 6), .ref (ad 7), .ref (ad 8), .ref (ad 9), .ref (ad 10), .ref (ad 11), .ref (ad 12), .ref (ad 13), .ref (ad 14), .ref (ad 15), .ref ap, .int fe, .int me, .int fu, .int le, .int en, .ref cm, .int sp, .int (nI ka), .int (nI kc), .long mx, .int se])) := ⟨_, rfl⟩
  have hP : va_P D zCl (va_pl L f1) H := by rw [hf1]; exact hP
  have hs2 : Same1 f f1 mo := fun z hz => by rw [hf1, va_up_ne _ _ hz]
  have hD2 : MD tys L f1 mo ap cm ad G (nI 0) fe me fu le en sp (nI ka) (nI kc) mx se gc := hD.updO (by rw [hf1]; exact va_up_self _ _ _) hs2
  have hm2 : Sm3 f _ mo ap cm := Sm3.ofO hs2
  refine lv_iload_n hx hb dM_follows_5 rfl (lv_at hl 1 rfl) ?_
  refine then_i (run_S (n := 1) (As := [.int x]) (rest := []) C0 (m_noFunction hn) gw693 gw691 gw692 gw7 (by decide +kernel) ⟨Nat.le_of_ble_eq_true rfl, Nat.le_of_ble_eq_true rfl⟩ rfl rfl ⟨Nat.le_of_ble_eq_true rfl, Nat.le_of_ble_eq_true rfl⟩ hP rfl hl.1 rfl (Nat.le_of_ble_eq_true rfl) dM_follows_6) hS hA (fun r4 f3 H locs hq6 hP hS => ?_)
  obtain ⟨er4, ef3⟩ := hq6
  subst er4
  rw [ef3] at hP
  refine lv_if_ne (tgt := 19) hx hb dM_follows_9 (by decide) (fun c9 => ?_) (fun c9 => ?_)
  · have c9 : (!q_fn x) = true := kb_t.mp c9
    refine lv_aload_n hx hb dM_follows_19 rfl (lv_at hl 0 rfl) ?_
    refine lv_iconst (v := nI 1) hx hb dM_follows_20 (by decide) ?_
    refine then_i (run_V (n := 1) (As := [.int (nI 1)]) (rest := []) C0 (m_raise hn hD2) gw700 gw697 gw699 gsM_raise gw7 (by decide +kernel) ⟨Nat.le_of_ble_eq_true rfl, Nat.le_of_ble_eq_true rfl⟩ rfl rfl ⟨Nat.le_of_ble_eq_true rfl, Nat.le_of_ble_eq_true rfl⟩ hP hD2.1.1.1 hD2.2.1 rfl rfl rfl hl.1 rfl (Nat.le_of_ble_eq_true rfl) dM_follows_21) hS hA (fun r6 f5 H locs hq21 hP hS => ?_)
    obtain ⟨hr7, hD7, hs7⟩ := hq21
    have hm7 := hm2.trans (Sm3.ofO hs7)
    exact ret_i C0 hP hS ⟨_, ⟨_, _, _, _, _, _, ka, kc, _, _, _, hfe, hka, hkc, hD7⟩, hm7, Or.inl ⟨by rw [nb_t c9]; rfl, rfl⟩⟩ dM_follows_24
  · have c9 : (!q_fn x) = false := kb_0.mp c9
    refine lv_iload_n hx hb dM_follows_12 rfl (lv_at hl 2 rfl) ?_
    refine then_i (run_S (n := 1) (As := [.int y]) (rest := []) C0 (m_noFunction hn) gw693 gw691 gw692 gw7 (by decide +kernel) ⟨Nat.le_of_ble_eq_true rfl, Nat.le_of_ble_eq_true rfl⟩ rfl rfl ⟨Nat.le_of_ble_eq_true rfl, Nat.le_of_ble_eq_true rfl⟩ hP rfl hl.1 rfl (Nat.le_of_ble_eq_true rfl) dM_follows_13) hS hA (fun r9 f8 H locs hq13 hP hS => ?_)
    obtain ⟨er9, ef8⟩ := hq13
    subst er9
    rw [ef8] at hP
    refine lv_if_eq (tgt := 25) hx hb dM_follows_16 (by decide) (fun c16 => ?_) (fun c16 => ?_)
    · have c16 : (!q_fn y) = false := kb_0.mp c16
      obtain ⟨i0, hi0, rfl⟩ := q_fn_nI (nb_f c9)
      obtain ⟨j0, hj0, rfl⟩ := q_fn_nI (nb_f c16)
      refine lv_aload_n hx hb dM_follows_25 rfl (lv_at hl 0 rfl) ?_
      refine then_v (run_V (n := 0) (As := []) (rest := []) C0 (ma_begin hn hD2.1.1.1 hD2.1.1.2.1 hD2.2.1 hD2.2.2.1) gw738 gw735 gw737 gsM_begin gw7 (by decide +kernel) ⟨Nat.le_of_ble_eq_true rfl, Nat.le_of_ble_eq_true rfl⟩ rfl rfl ⟨Nat.le_of_ble_eq_true rfl, Nat.le_of_ble_eq_true rfl⟩ hP hD2.1.1.1 hD2.2.1 rfl rfl rfl hl.1 rfl (Nat.le_of_ble_eq_true rfl) dM_follows_26) hS hA (fun f10 H locs hq26 hP hS => ?_)
      obtain ⟨ho11, hk11, hs11⟩ := hq26
      have hD11 : MD tys L f10 mo ap cm ad G (nI 0) (kb kl_0.1) me fu le en sp (nI ka) (nI kc) mx se gc := hD2.upd2 ho11 (MnK.J hk11) hs11
      have hm11 := hm2.trans (Sm3.of2 hs11)
      refine lv_aload_n hx hb dM_follows_29 rfl (lv_at hl 0 rfl) ?_
      refine lv_iconst (v := nI 2) hx hb dM_follows_30 (by decide) ?_
      refine lv_iload_n hx hb dM_follows_31 rfl (lv_at hl 1 rfl) ?_
      refine lv_imul hx hb dM_follows_32 ?_
      rw [pk_mul]
      refine lv_iconst (v := nI 1) hx hb dM_follows_33 (by decide) ?_
      refine lv_iconst (v := nI 2) hx hb dM_follows_34 (by decide) ?_
      refine then_v (run_V (n := 3) (As := [.int (nI (2 * i0)), .int (nI 1), .int (nI 2)]) (rest := []) C0 (m_knowAll hn (T := 0) (by omega) ⟨by omega, by omega⟩ ⟨by omega, by omega⟩ hM (hRl _ (by omega)) (by omega) kl_0_ok hD11 hk11) gw743 gw740 gw742 gsM_knowAll gw7 (by decide +kernel) ⟨Nat.le_of_ble_eq_true rfl, Nat.le_of_ble_eq_true rfl⟩ rfl rfl ⟨Nat.le_of_ble_eq_true rfl, Nat.le_of_ble_eq_true rfl⟩ hP hD11.1.1.1 hD11.2.1 rfl rfl rfl hl.1 rfl (Nat.le_of_ble_eq_true rfl) dM_follows_35) hS hA (fun f12 H locs hq35 hP hS => ?_)
      obtain ⟨ho13, hk13, hs13⟩ := hq35
      have hD13 : MD tys L f12 mo ap cm ad G (nI 0) (kb (s_rels σ (2 * i0) 1 2 kl_0).1) me fu le en sp (nI ka) (nI kc) mx se gc := hD11.upd2 ho13 (MnK.J hk13) hs13
      have hm13 := hm11.trans (Sm3.of2 hs13)
      refine lv_aload_n hx hb dM_follows_38 rfl (lv_at hl 0 rfl) ?_
      refine lv_iconst (v := nI 2) hx hb dM_follows_39 (by decide) ?_
      refine lv_iload_n hx hb dM_follows_40 rfl (lv_at hl 2 rfl) ?_
      refine lv_imul hx hb dM_follows_41 ?_
      rw [pk_mul]
      refine lv_iconst (v := nI 1) hx hb dM_follows_42 (by decide) ?_
      refine lv_iadd hx hb dM_follows_43 ?_
      rw [nI_add]
      refine lv_iconst (v := nI 1) hx hb dM_follows_44 (by decide) ?_
      refine lv_iconst (v := nI 2) hx hb dM_follows_45 (by decide) ?_
      refine then_v (run_V (n := 3) (As := [.int (nI ((2 * j0) + 1)), .int (nI 1), .int (nI 2)]) (rest := []) C0 (m_knowAll hn (T := 0 + 4004) (by omega) ⟨by omega, by omega⟩ ⟨by omega, by omega⟩ hM (hRl _ (by omega)) (by omega) (s_rels_ok (hRl _ (by omega)) (by omega) (by omega) kl_0_ok) hD13 hk13) gw743 gw740 gw742 gsM_knowAll gw7 (by decide +kernel) ⟨Nat.le_of_ble_eq_true rfl, Nat.le_of_ble_eq_true rfl⟩ rfl rfl ⟨Nat.le_of_ble_eq_true rfl, Nat.le_of_ble_eq_true rfl⟩ hP hD13.1.1.1 hD13.2.1 rfl rfl rfl hl.1 rfl (Nat.le_of_ble_eq_true rfl) dM_follows_46) hS hA (fun f14 H locs hq46 hP hS => ?_)
      obtain ⟨ho15, hk15, hs15⟩ := hq46
      have hD15 : MD tys L f14 mo ap cm ad G (nI 0) (kb (s_rels σ (2 * j0 + 1) 1 2 (s_rels σ (2 * i0) 1 2 kl_0)).1) me fu le en sp (nI ka) (nI kc) mx se gc := hD13.upd2 ho15 (MnK.J hk15) hs15
      have hm15 := hm13.trans (Sm3.of2 hs15)
      refine lv_aload_n hx hb dM_follows_49 rfl (lv_at hl 0 rfl) ?_
      refine mm_get (v := .int (kb (s_rels σ (2 * j0 + 1) 1 2 (s_rels σ (2 * i0) 1 2 kl_0)).1)) hx hb hg inM hown hK hP hD15.1.1.1 hD15.2.1 rfl 18 (by decide) (hg _ gw611) (fun _ h9 => h9) rfl dM_follows_50 ?_
      refine lv_if_eq (tgt := 70) hx hb dM_follows_53 (by decide) (fun c53 => ?_) (fun c53 => ?_)
      · have c53 : ((s_rels σ (2 * j0 + 1) 1 2 (s_rels σ (2 * i0) 1 2 kl_0)).1) = false := kb_0.mp c53
        refine lv_iconst (v := nI 1) hx hb dM_follows_70 (by decide) ?_
        refine lv_goto (tgt := 75) hx hb dM_follows_71 (by decide) ?_
        refine ret_i C0 hP hS ⟨_, ⟨_, _, _, _, _, _, ka, kc, _, _, _, (kb_or _), hka, hkc, hD15⟩, hm15, Or.inr ⟨nb_f c9, nb_f c16, rfl, fun i2 j2 e2 e3 h2 h3 => ?_⟩⟩ dM_follows_75
        obtain rfl := (nI_eq (by omega) (by omega)).mp e2
        obtain rfl := (nI_eq (by omega) (by omega)).mp e3
        unfold q_fw
        rw [c53]; rfl
      · have c53 : ((s_rels σ (2 * j0 + 1) 1 2 (s_rels σ (2 * i0) 1 2 kl_0)).1) = true := kb_t.mp c53
        refine lv_aload_n hx hb dM_follows_56 rfl (lv_at hl 0 rfl) ?_
        refine lv_iconst (v := nI 2) hx hb dM_follows_57 (by decide) ?_
        refine lv_iload_n hx hb dM_follows_58 rfl (lv_at hl 1 rfl) ?_
        refine lv_imul hx hb dM_follows_59 ?_
        rw [pk_mul]
        refine lv_iconst (v := nI 1) hx hb dM_follows_60 (by decide) ?_
        refine lv_iadd hx hb dM_follows_61 ?_
        rw [nI_add]
        refine lv_iconst (v := nI 1) hx hb dM_follows_62 (by decide) ?_
        refine lv_iconst (v := nI 2) hx hb dM_follows_63 (by decide) ?_
        refine then_i (run_V (n := 3) (As := [.int (nI ((2 * i0) + 1)), .int (nI 1), .int (nI 2)]) (rest := []) C0 (m_showsAll hn (T := 0 + 4004 + 4004) (by omega) ⟨by omega, by omega⟩ ⟨by omega, by omega⟩ hM (hRl _ (by omega)) (by omega) (s_rels_ok (hRl _ (by omega)) (by omega) (by omega) (s_rels_ok (hRl _ (by omega)) (by omega) (by omega) kl_0_ok)) hD15 hk15) gw762 gw759 gw761 gsM_showsAll gw7 (by decide +kernel) ⟨Nat.le_of_ble_eq_true rfl, Nat.le_of_ble_eq_true rfl⟩ rfl rfl ⟨Nat.le_of_ble_eq_true rfl, Nat.le_of_ble_eq_true rfl⟩ hP hD15.1.1.1 hD15.2.1 rfl rfl rfl hl.1 rfl (Nat.le_of_ble_eq_true rfl) dM_follows_64) hS hA (fun r17 f16 H locs hq64 hP hS => ?_)
        obtain ⟨er17, ef16⟩ := hq64
        subst er17
        rw [ef16] at hP
        refine lv_if_eq (tgt := 74) hx hb dM_follows_67 (by decide) (fun c67 => ?_) (fun c67 => ?_)
        · have c67 : (s_shw σ (2 * i0 + 1) 1 2 (s_rels σ (2 * j0 + 1) 1 2 (s_rels σ (2 * i0) 1 2 kl_0))) = false := kb_0.mp c67
          refine lv_iconst (v := nI 0) hx hb dM_follows_74 (by decide) ?_
          refine ret_i C0 hP hS ⟨_, ⟨_, _, _, _, _, _, ka, kc, _, _, _, (kb_or _), hka, hkc, hD15⟩, hm15, Or.inr ⟨nb_f c9, nb_f c16, rfl, fun i2 j2 e2 e3 h2 h3 => ?_⟩⟩ dM_follows_75
          obtain rfl := (nI_eq (by omega) (by omega)).mp e2
          obtain rfl := (nI_eq (by omega) (by omega)).mp e3
          unfold q_fw
          rw [c53, c67]; rfl
        · have c67 : (s_shw σ (2 * i0 + 1) 1 2 (s_rels σ (2 * j0 + 1) 1 2 (s_rels σ (2 * i0) 1 2 kl_0))) = true := kb_t.mp c67
          refine lv_iconst (v := nI 1) hx hb dM_follows_70 (by decide) ?_
          refine lv_goto (tgt := 75) hx hb dM_follows_71 (by decide) ?_
          refine ret_i C0 hP hS ⟨_, ⟨_, _, _, _, _, _, ka, kc, _, _, _, (kb_or _), hka, hkc, hD15⟩, hm15, Or.inr ⟨nb_f c9, nb_f c16, rfl, fun i2 j2 e2 e3 h2 h3 => ?_⟩⟩ dM_follows_75
          obtain rfl := (nI_eq (by omega) (by omega)).mp e2
          obtain rfl := (nI_eq (by omega) (by omega)).mp e3
          unfold q_fw
          rw [c53, c67]; rfl
    · have c16 : (!q_fn y) = true := kb_t.mp c16
      refine lv_aload_n hx hb dM_follows_19 rfl (lv_at hl 0 rfl) ?_
      refine lv_iconst (v := nI 1) hx hb dM_follows_20 (by decide) ?_
      refine then_i (run_V (n := 1) (As := [.int (nI 1)]) (rest := []) C0 (m_raise hn hD2) gw700 gw697 gw699 gsM_raise gw7 (by decide +kernel) ⟨Nat.le_of_ble_eq_true rfl, Nat.le_of_ble_eq_true rfl⟩ rfl rfl ⟨Nat.le_of_ble_eq_true rfl, Nat.le_of_ble_eq_true rfl⟩ hP hD2.1.1.1 hD2.2.1 rfl rfl rfl hl.1 rfl (Nat.le_of_ble_eq_true rfl) dM_follows_21) hS hA (fun r19 f18 H locs hq21 hP hS => ?_)
      obtain ⟨hr20, hD20, hs20⟩ := hq21
      have hm20 := hm2.trans (Sm3.ofO hs20)
      exact ret_i C0 hP hS ⟨_, ⟨_, _, _, _, _, _, ka, kc, _, _, _, hfe, hka, hkc, hD20⟩, hm20, Or.inl ⟨by rw [nb_t c16]; cases q_fn x <;> rfl, rfl⟩⟩ dM_follows_24
set_option maxRecDepth 100000 in
set_option maxHeartbeats 4000000 in
theorem m_count {l : Launch} {D : va_G} {tys : List (ClassId × FieldType)} {L : List Nat} {f : Nat → va_E} (hn : L.Nodup) {mo ap cm : Nat} {ad : Nat → Nat} {G : Nat → Nat → Int32} {th : Int32} {σ : Sg} {x wh : Int32} {oi : Nat → Nat} (ho : ∀ i, i < 4 → G 15 i = nI (oi i)) (hO : MOk σ G) (hI0 : MdI tys L f mo ap cm ad G th) : MetI l yM_count wM_count ({ frames := 2, cells := 0, slots := 0, locals := 42 } : Room) D tys L f [.ref mo, .int x, .int wh] (fun r f' => ∃ t, MdI tys L f' mo ap cm ad G t ∧ Sm3 f f' mo ap cm ∧ (((q_fn x && q_in wh (nI 0) (nI 3)) = false ∧ t = nI 1) ∨ (q_fn x = true ∧ q_in wh (nI 0) (nI 3) = true ∧ t = nI 0 ∧ ∀ i, x = nI i → i < 4 → r = nI (q_ct σ oi i wh)))) := by
  refine met_of "LiquidCheckerModel" (by decide) rfl (Nat.le_of_ble_eq_true rfl) ?_
  intro pgm e s m below meth c ls C0 hP hl
  obtain ⟨hx, hb, hml, hown, hg, hr, hlocks, hK, hN⟩ := id C0
  have hA : ∀ a ∈ L, inL L a := fun _ h => h
  obtain ⟨H, hH⟩ : ∃ z, z = s.heap := ⟨_, rfl⟩
  rw [← hH] at hP ⊢
  have hS : va_S (inL L) s.heap H [] := by rw [hH]; exact va_S.rf
  have hl : lv_has ls 3 [(0, .ref mo), (1, .int x), (2, .int wh)] := hl
  obtain ⟨fe, me, fu, le, en, sp, ka, kc, mx, se, gc, hfe, hka, hkc, hD⟩ := hI0
  obtain ⟨hM, hRl, h3d, hW⟩ := hO
  refine lv_aload_n hx hb dM_count_0 rfl (lv_at hl 0 rfl) ?_
  refine lv_iconst (v := nI 0) hx hb dM_count_1 (by decide) ?_
  refine mm_put (v := .int (nI 0)) (ty := .int) hx hb hg inM tyM tyM_ok nmM hown hK hn hA hP hS hD.1.1.1 (show f mo = .inr (6, [.int th, .ref (ad 0), .ref (ad 1), .ref (ad 2), .ref (ad 3), .ref (ad 4), .ref (ad 5), .ref (ad 6), .ref (ad 7), .ref (ad 8), .ref (ad 9), .ref (ad 10), .ref (ad 11), .ref (ad 12), .ref (ad 13), .ref (ad 14), .ref (ad 15), .ref ap, .int fe, .int me, .int fu, .int le, .int en, .ref cm, .int sp, .int (nI ka), .int (nI kc), .long mx, .int se]) from hD.2.1) rfl 0 (by decide) (hg _ gw593) (fun _ h9 => h9) rfl (by decide +kernel) rfl rfl (Nat.le_of_ble_eq_true rfl) dM_count_2 (fun H locs hP hS => ?_)
  obtain ⟨f1, hf1⟩ : ∃ z, z = va_up f mo (.inr (6, [.int (nI 0), .ref (ad 0), .ref (ad 1), .ref (ad 2), .ref (ad 3), .ref (ad 4), .ref (ad 5), .ref (ad 6), .ref (ad 7), .ref (ad 8), .ref (ad 9), .ref (ad 10), .ref (ad 11), .ref (ad 12), .ref (ad 13), .ref (ad 14), .ref (ad 15), .ref ap, .int fe, .int me, .int fu, .int le, .int en, .ref cm, .int sp, .int (nI ka), .int (nI kc), .long mx, .int se])) := ⟨_, rfl⟩
  have hP : va_P D zCl (va_pl L f1) H := by rw [hf1]; exact hP
  have hs2 : Same1 f f1 mo := fun z hz => by rw [hf1, va_up_ne _ _ hz]
  have hD2 : MD tys L f1 mo ap cm ad G (nI 0) fe me fu le en sp (nI ka) (nI kc) mx se gc := hD.updO (by rw [hf1]; exact va_up_self _ _ _) hs2
  have hm2 : Sm3 f _ mo ap cm := Sm3.ofO hs2
  refine lv_iload_n hx hb dM_count_5 rfl (lv_at hl 1 rfl) ?_
  refine then_i (run_S (n := 1) (As := [.int x]) (rest := []) C0 (m_noFunction hn) gw693 gw691 gw692 gw7 (by decide +kernel) ⟨Nat.le_of_ble_eq_true rfl, Nat.le_of_ble_eq_true rfl⟩ rfl rfl ⟨Nat.le_of_ble_eq_true rfl, Nat.le_of_ble_eq_true rfl⟩ hP rfl hl.1 rfl (Nat.le_of_ble_eq_true rfl) dM_count_6) hS hA (fun r4 f3 H locs hq6 hP hS => ?_)
  obtain ⟨er4, ef3⟩ := hq6
  subst er4
  rw [ef3] at hP
  refine lv_if_eq (tgt := 18) hx hb dM_count_9 (by decide) (fun c9 => ?_) (fun c9 => ?_)
  · have c9 : (!q_fn x) = false := kb_0.mp c9
    obtain ⟨i0, hi0, rfl⟩ := q_fn_nI (nb_f c9)
    refine lv_iload_n hx hb dM_count_18 rfl (lv_at hl 2 rfl) ?_
    by_cases w19_0 : wh = nI 0
    · refine lv_tableIn (tgt := 48) (off := 29) hx hb dM_count_19 (by rw [w19_0]; decide +kernel) (by rw [w19_0]; decide +kernel) (by rw [w19_0]; decide +kernel) (by decide) ?_
      refine lv_aload_n hx hb dM_count_48 rfl (lv_at hl 0 rfl) ?_
      refine mm_get (v := .ref (ad 9)) hx hb hg inM hown hK hP hD2.1.1.1 hD2.2.1 rfl 10 (by decide) (hg _ gw603) (fun _ h9 => h9) rfl dM_count_49 ?_
      refine lv_iload_n hx hb dM_count_52 rfl (lv_at hl 1 rfl) ?_
      refine mm_iald hx hb hK hP (hD2.1.2 9 (by decide)).1 (show mm_I tys f1 (ad 9) 4 (G 9) from (hD2.1.2 9 (by decide)).2) (vp_in_nI (show i0 < 4 by omega) (by omega)) dM_count_53 ?_
      rw [nI_clamp (by omega)]
      rw [hM.2.2.2 i0 hi0]
      refine ret_i C0 hP hS ⟨_, ⟨_, _, _, _, _, _, ka, kc, _, _, _, hfe, hka, hkc, hD2⟩, hm2, Or.inr ⟨nb_f c9, by rw [w19_0]; decide +kernel, rfl, fun i2 e2 h2 => ?_⟩⟩ dM_count_54
      obtain rfl := (nI_eq (by omega) (by omega)).mp e2
      unfold q_ct
      rw [if_pos w19_0]
    · skip
      by_cases w19_1 : wh = nI 1
      · refine lv_tableIn (tgt := 55) (off := 36) hx hb dM_count_19 (by rw [w19_1]; decide +kernel) (by rw [w19_1]; decide +kernel) (by rw [w19_1]; decide +kernel) (by decide) ?_
        refine lv_aload_n hx hb dM_count_55 rfl (lv_at hl 0 rfl) ?_
        refine mm_get (v := .ref (ad 15)) hx hb hg inM hown hK hP hD2.1.1.1 hD2.2.1 rfl 16 (by decide) (hg _ gw609) (fun _ h9 => h9) rfl dM_count_56 ?_
        refine lv_iload_n hx hb dM_count_59 rfl (lv_at hl 1 rfl) ?_
        refine mm_iald hx hb hK hP (hD2.1.2 15 (by decide)).1 (show mm_I tys f1 (ad 15) 4 (G 15) from (hD2.1.2 15 (by decide)).2) (vp_in_nI (show i0 < 4 by omega) (by omega)) dM_count_60 ?_
        rw [nI_clamp (by omega)]
        rw [ho i0 hi0]
        refine ret_i C0 hP hS ⟨_, ⟨_, _, _, _, _, _, ka, kc, _, _, _, hfe, hka, hkc, hD2⟩, hm2, Or.inr ⟨nb_f c9, by rw [w19_1]; decide +kernel, rfl, fun i2 e2 h2 => ?_⟩⟩ dM_count_61
        obtain rfl := (nI_eq (by omega) (by omega)).mp e2
        unfold q_ct
        rw [if_neg (by rw [w19_1]; decide +kernel), if_pos w19_1]
      · skip
        by_cases w19_2 : wh = nI 2
        · refine lv_tableIn (tgt := 62) (off := 43) hx hb dM_count_19 (by rw [w19_2]; decide +kernel) (by rw [w19_2]; decide +kernel) (by rw [w19_2]; decide +kernel) (by decide) ?_
          have hl : lv_has ls 3 [(0, .ref mo), (1, .int (nI i0)), (2, .int (nI 2))] := by rw [← w19_2]; exact hl
          refine lv_aload_n hx hb dM_count_62 rfl (lv_at hl 0 rfl) ?_
          refine mm_get (v := .ref (ad 3)) hx hb hg inM hown hK hP hD2.1.1.1 hD2.2.1 rfl 4 (by decide) (hg _ gw597) (fun _ h9 => h9) rfl dM_count_63 ?_
          refine lv_iconst (v := nI 2) hx hb dM_count_66 (by decide) ?_
          refine lv_iload_n hx hb dM_count_67 rfl (lv_at hl 1 rfl) ?_
          refine lv_imul hx hb dM_count_68 ?_
          rw [pk_mul]
          refine lv_iload_n hx hb dM_count_69 rfl (lv_at hl 2 rfl) ?_
          refine lv_iadd hx hb dM_count_70 ?_
          rw [nI_add]
          refine lv_iconst (v := nI 2) hx hb dM_count_71 (by decide) ?_
          refine lv_isub hx hb dM_count_72 ?_
          rw [nI_sub2]
          refine mm_iald hx hb hK hP (hD2.1.2 3 (by decide)).1 (show mm_I tys f1 (ad 3) 8 (G 3) from (hD2.1.2 3 (by decide)).2) (vp_in_nI (show 2 * i0 < 8 by omega) (by omega)) dM_count_73 ?_
          rw [nI_clamp (by omega)]
          rw [hM.1 (2 * i0) (by omega)]
          refine ret_i C0 hP hS ⟨_, ⟨_, _, _, _, _, _, ka, kc, _, _, _, hfe, hka, hkc, hD2⟩, hm2, Or.inr ⟨nb_f c9, by rw [w19_2]; decide +kernel, rfl, fun i2 e2 h2 => ?_⟩⟩ dM_count_74
          obtain rfl := (nI_eq (by omega) (by omega)).mp e2
          unfold q_ct
          rw [if_neg (by rw [w19_2]; decide +kernel), if_neg (by rw [w19_2]; decide +kernel), if_pos w19_2]
        · skip
          by_cases w19_3 : wh = nI 3
          · refine lv_tableIn (tgt := 62) (off := 43) hx hb dM_count_19 (by rw [w19_3]; decide +kernel) (by rw [w19_3]; decide +kernel) (by rw [w19_3]; decide +kernel) (by decide) ?_
            have hl : lv_has ls 3 [(0, .ref mo), (1, .int (nI i0)), (2, .int (nI 3))] := by rw [← w19_3]; exact hl
            refine lv_aload_n hx hb dM_count_62 rfl (lv_at hl 0 rfl) ?_
            refine mm_get (v := .ref (ad 3)) hx hb hg inM hown hK hP hD2.1.1.1 hD2.2.1 rfl 4 (by decide) (hg _ gw597) (fun _ h9 => h9) rfl dM_count_63 ?_
            refine lv_iconst (v := nI 2) hx hb dM_count_66 (by decide) ?_
            refine lv_iload_n hx hb dM_count_67 rfl (lv_at hl 1 rfl) ?_
            refine lv_imul hx hb dM_count_68 ?_
            rw [pk_mul]
            refine lv_iload_n hx hb dM_count_69 rfl (lv_at hl 2 rfl) ?_
            refine lv_iadd hx hb dM_count_70 ?_
            rw [nI_add]
            refine lv_iconst (v := nI 2) hx hb dM_count_71 (by decide) ?_
            refine lv_isub hx hb dM_count_72 ?_
            rw [show 2 * i0 + 3 = (2 * i0 + 1) + 2 by omega, nI_sub2]
            refine mm_iald hx hb hK hP (hD2.1.2 3 (by decide)).1 (show mm_I tys f1 (ad 3) 8 (G 3) from (hD2.1.2 3 (by decide)).2) (vp_in_nI (show 2 * i0 + 1 < 8 by omega) (by omega)) dM_count_73 ?_
            rw [nI_clamp (by omega)]
            rw [hM.1 (2 * i0 + 1) (by omega)]
            refine ret_i C0 hP hS ⟨_, ⟨_, _, _, _, _, _, ka, kc, _, _, _, hfe, hka, hkc, hD2⟩, hm2, Or.inr ⟨nb_f c9, by rw [w19_3]; decide +kernel, rfl, fun i2 e2 h2 => ?_⟩⟩ dM_count_74
            obtain rfl := (nI_eq (by omega) (by omega)).mp e2
            unfold q_ct
            rw [if_neg (by rw [w19_3]; decide +kernel), if_neg (by rw [w19_3]; decide +kernel), if_neg (by rw [w19_3]; decide +kernel)]
          · skip
            refine lv_tableOut (tgt := 75) hx hb dM_count_19 (by
              have z0 : wh.toInt ≠ 0 := fun e => w19_0 (Int32.toInt_inj.mp (e.trans (by decide +kernel)))
              have z1 : wh.toInt ≠ 1 := fun e => w19_1 (Int32.toInt_inj.mp (e.trans (by decide +kernel)))
              have z2 : wh.toInt ≠ 2 := fun e => w19_2 (Int32.toInt_inj.mp (e.trans (by decide +kernel)))
              have z3 : wh.toInt ≠ 3 := fun e => w19_3 (Int32.toInt_inj.mp (e.trans (by decide +kernel)))
              omega) (by decide) ?_
            refine lv_aload_n hx hb dM_count_75 rfl (lv_at hl 0 rfl) ?_
            refine lv_iconst (v := nI 1) hx hb dM_count_76 (by decide) ?_
            refine then_i (run_V (n := 1) (As := [.int (nI 1)]) (rest := []) C0 (m_raise hn hD2) gw700 gw697 gw699 gsM_raise gw7 (by decide +kernel) ⟨Nat.le_of_ble_eq_true rfl, Nat.le_of_ble_eq_true rfl⟩ rfl rfl ⟨Nat.le_of_ble_eq_true rfl, Nat.le_of_ble_eq_true rfl⟩ hP hD2.1.1.1 hD2.2.1 rfl rfl rfl hl.1 rfl (Nat.le_of_ble_eq_true rfl) dM_count_77) hS hA (fun r6 f5 H locs hq77 hP hS => ?_)
            obtain ⟨hr7, hD7, hs7⟩ := hq77
            have hm7 := hm2.trans (Sm3.ofO hs7)
            have hq : q_in wh (nI 0) (nI 3) = false := by
              cases e : q_in wh (nI 0) (nI 3) with
              | false => rfl
              | true =>
                obtain ⟨n, hn8, hn9⟩ := q_in_nI (by omega) e
                exfalso
                rcases (show n = 0 ∨ n = 1 ∨ n = 2 ∨ n = 3 by omega) with e | e | e | e <;> rw [e] at hn9
                · exact w19_0 hn9
                · exact w19_1 hn9
                · exact w19_2 hn9
                · exact w19_3 hn9
            exact ret_i C0 hP hS ⟨_, ⟨_, _, _, _, _, _, ka, kc, _, _, _, hfe, hka, hkc, hD7⟩, hm7, Or.inl ⟨by rw [hq]; cases q_fn (nI i0) <;> rfl, rfl⟩⟩ dM_count_80
  · have c9 : (!q_fn x) = true := kb_t.mp c9
    refine lv_aload_n hx hb dM_count_12 rfl (lv_at hl 0 rfl) ?_
    refine lv_iconst (v := nI 1) hx hb dM_count_13 (by decide) ?_
    refine then_i (run_V (n := 1) (As := [.int (nI 1)]) (rest := []) C0 (m_raise hn hD2) gw700 gw697 gw699 gsM_raise gw7 (by decide +kernel) ⟨Nat.le_of_ble_eq_true rfl, Nat.le_of_ble_eq_true rfl⟩ rfl rfl ⟨Nat.le_of_ble_eq_true rfl, Nat.le_of_ble_eq_true rfl⟩ hP hD2.1.1.1 hD2.2.1 rfl rfl rfl hl.1 rfl (Nat.le_of_ble_eq_true rfl) dM_count_14) hS hA (fun r9 f8 H locs hq14 hP hS => ?_)
    obtain ⟨hr10, hD10, hs10⟩ := hq14
    have hm10 := hm2.trans (Sm3.ofO hs10)
    exact ret_i C0 hP hS ⟨_, ⟨_, _, _, _, _, _, ka, kc, _, _, _, hfe, hka, hkc, hD10⟩, hm10, Or.inl ⟨by rw [nb_t c9]; rfl, rfl⟩⟩ dM_count_17
