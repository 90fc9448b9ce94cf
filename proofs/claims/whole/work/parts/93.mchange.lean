/-! LiquidCheckerModel: clear and refine. -/
/-- nothing but the model's cells has changed -/
def SmA (f f' : Nat → va_E) (mo ap cm : Nat) (ad : Nat → Nat) : Prop := ∀ z, z ≠ mo → z ≠ ap → z ≠ cm → (∀ k, k < 16 → z ≠ ad k) → f' z = f z
theorem SmA.of3 {f f' : Nat → va_E} {mo ap cm : Nat} {ad : Nat → Nat} (h : Sm3 f f' mo ap cm) : SmA f f' mo ap cm ad := fun z a b c _ => h z a b c
theorem SmA.of1 {f f' : Nat → va_E} {mo ap cm : Nat} {ad : Nat → Nat} {k : Nat} (hk : k < 16) (h : Same1 f f' (ad k)) : SmA f f' mo ap cm ad := fun z _ _ _ d => h z (d k hk)
theorem SmA.trans {f g h : Nat → va_E} {mo ap cm : Nat} {ad : Nat → Nat} (h1 : SmA f g mo ap cm ad) (h2 : SmA g h mo ap cm ad) : SmA f h mo ap cm ad := fun z a b c d => by rw [h2 z a b c d, h1 z a b c d]
def m_Gc (G : Nat → Nat → Int32) (i : Nat) : Nat → Nat → Int32 := fun j => if j = 3 then upd (upd (G 3) (2 * i) (nI 0)) (2 * i + 1) (nI 0) else if j = 15 then upd (G 15) i (nI 0) else if j = 13 then upd (G 13) i (nI 0) else if j = 9 then upd (G 9) i (nI 0) else G j
def m_Gr (G : Nat → Nat → Int32) (r n : Nat) (a b k : Int32) : Nat → Nat → Int32 := fun j => if j = 3 then upd (G 3) r (nI (n + 1)) else if j = 2 then upd (G 2) (4 * r + n) k else if j = 1 then upd (G 1) (4 * r + n) b else if j = 0 then upd (G 0) (4 * r + n) a else G j
theorem MdI.eqG {tys : List (ClassId × FieldType)} {L : List Nat} {f : Nat → va_E} {mo ap cm : Nat} {ad : Nat → Nat} {G G' : Nat → Nat → Int32} {th : Int32} (h : MdI tys L f mo ap cm ad G th) (e : ∀ k, k < 16 → G k = G' k) : MdI tys L f mo ap cm ad G' th := by
  obtain ⟨fe, me, fu, le, en, sp, ka, kc, mx, se, gc, h1, h2, h3, h4⟩ := h
  refine ⟨fe, me, fu, le, en, sp, ka, kc, mx, se, gc, h1, h2, h3, ⟨⟨h4.1.1, fun k hk => ?_⟩, h4.2⟩⟩
  rw [← e k hk]
  exact h4.1.2 k hk
set_option maxRecDepth 100000 in
set_option maxHeartbeats 4000000 in
theorem m_clear {l : Launch} {D : va_G} {tys : List (ClassId × FieldType)} {L : List Nat} {f : Nat → va_E} (hn : L.Nodup) {mo ap cm : Nat} {ad : Nat → Nat} {G : Nat → Nat → Int32} {th : Int32} {σ : Sg} {x : Int32} (hinj : ∀ i j, i < 16 → j < 16 → i ≠ j → ad i ≠ ad j) (hO : MOk σ G) (hI0 : MdI tys L f mo ap cm ad G th) : MetI l yM_clear wM_clear ({ frames := 2, cells := 0, slots := 0, locals := 42 } : Room) D tys L f [.ref mo, .int x] (fun r f' => ∃ t, SmA f f' mo ap cm ad ∧ ((q_fn x = false ∧ t = nI 1 ∧ MdI tys L f' mo ap cm ad G t) ∨ (q_fn x = true ∧ t = nI 0 ∧ ∀ i, x = nI i → i < 4 → r = nI (sz σ i) ∧ MdI tys L f' mo ap cm ad (m_Gc G i) t))) := by
  refine met_of "LiquidCheckerModel" (by decide) rfl (Nat.le_of_ble_eq_true rfl) ?_
  intro pgm e s m below meth c ls C0 hP hl
  obtain ⟨hx, hb, hml, hown, hg, hr, hlocks, hK, hN⟩ := id C0
  have hA : ∀ a ∈ L, inL L a := fun _ h => h
  obtain ⟨H, hH⟩ : ∃ z, z = s.heap := ⟨_, rfl⟩
  rw [← hH] at hP ⊢
  have hS : va_S (inL L) s.heap H [] := by rw [hH]; exact va_S.rf
  have hl : lv_has ls 3 [(0, .ref mo), (1, .int x)] := hl
  obtain ⟨fe, me, fu, le, en, sp, ka, kc, mx, se, gc, hfe, hka, hkc, hD⟩ := hI0
  obtain ⟨hM, hRl, h3d, hW⟩ := hO
  refine lv_aload_n hx hb dM_clear_0 rfl (lv_at hl 0 rfl) ?_
  refine lv_iconst (v := nI 0) hx hb dM_clear_1 (by decide) ?_
  refine mm_put (v := .int (nI 0)) (ty := .int) hx hb hg inM tyM tyM_ok nmM hown hK hn hA hP hS hD.1.1.1 (show f mo = .inr (6, [.int th, .ref (ad 0), .ref (ad 1), .ref (ad 2), .ref (ad 3), .ref (ad 4), .ref (ad 5), .ref (ad 6), .ref (ad 7), .ref (ad 8), .ref (ad 9), .ref (ad 10), .ref (ad 11), .ref (ad 12), .ref (ad 13), .ref (ad 14), .ref (ad 15), .ref ap, .int fe, .int me, .int fu, .int le, .int en, .ref cm, .int sp, .int (nI ka), .int (nI kc), .long mx, .int se]) from hD.2.1) rfl 0 (by decide) (hg _ gw593) (fun _ h9 => h9) rfl (by decide +kernel) rfl rfl (Nat.le_of_ble_eq_true rfl) dM_clear_2 (fun H locs hP hS => ?_)
  obtain ⟨f1, hf1⟩ : ∃ z, z = va_up f mo (.inr (6, [.int (nI 0), .ref (ad 0), .ref (ad 1), .ref (ad 2), .ref (ad 3), .ref (ad 4), .ref (ad 5), .ref (ad 6), .ref (ad 7), .ref (ad 8), .ref (ad 9), .ref (ad 10), .ref (ad 11), .ref (ad 12), .ref (ad 13), .ref (ad 14), .ref (ad 15), .ref ap, .int fe, .int me, .int fu, .int le, .int en, .ref cm, .int sp, .int (nI ka), .int (nI kc), .long mx, .int se])) := ⟨_, rfl⟩
  have hP : va_P D zCl (va_pl L f1) H := by rw [hf1]; exact hP
  have hs2 : Same1 f f1 mo := fun z hz => by rw [hf1, va_up_ne _ _ hz]
  have hD2 : MD tys L f1 mo ap cm ad G (nI 0) fe me fu le en sp (nI ka) (nI kc) mx se gc := hD.updO (by rw [hf1]; exact va_up_self _ _ _) hs2
  have ha3 : SmA f _ mo ap cm ad := SmA.of3 (Sm3.ofO hs2)
  refine lv_iload_n hx hb dM_clear_5 rfl (lv_at hl 1 rfl) ?_
  refine then_i (run_S (n := 1) (As := [.int x]) (rest := []) C0 (m_noFunction hn) gw693 gw691 gw692 gw7 (by decide +kernel) ⟨Nat.le_of_ble_eq_true rfl, Nat.le_of_ble_eq_true rfl⟩ rfl rfl ⟨Nat.le_of_ble_eq_true rfl, Nat.le_of_ble_eq_true rfl⟩ hP rfl hl.1 rfl (Nat.le_of_ble_eq_true rfl) dM_clear_6) hS hA (fun r5 f4 H locs hq6 hP hS => ?_)
  obtain ⟨er5, ef4⟩ := hq6
  subst er5
  rw [ef4] at hP
  refine lv_if_eq (tgt := 18) hx hb dM_clear_9 (by decide) (fun c9 => ?_) (fun c9 => ?_)
  · have c9 : (!q_fn x) = false := kb_0.mp c9
    obtain ⟨i0, hi0, rfl⟩ := q_fn_nI (nb_f c9)
    refine lv_aload_n hx hb dM_clear_18 rfl (lv_at hl 0 rfl) ?_
    refine mm_get (v := .ref (ad 9)) hx hb hg inM hown hK hP hD2.1.1.1 hD2.2.1 rfl 10 (by decide) (hg _ gw603) (fun _ h9 => h9) rfl dM_clear_19 ?_
    refine lv_iload_n hx hb dM_clear_22 rfl (lv_at hl 1 rfl) ?_
    refine mm_iald hx hb hK hP (hD2.1.2 9 (by decide)).1 (show mm_I tys f1 (ad 9) 4 (G 9) from (hD2.1.2 9 (by decide)).2) (vp_in_nI (show i0 < 4 by omega) (by omega)) dM_clear_23 ?_
    rw [nI_clamp (by omega)]
    rw [hM.2.2.2 i0 hi0]
    refine lv_topi (fun x6 ex2 => ?_)
    refine lv_istore_n (lv' := [(2, .int x6), (0, .ref mo), (1, .int (nI i0))]) hx hb dM_clear_24 rfl hl (by decide) rfl (fun ls hl => ?_)
    refine lv_aload_n hx hb dM_clear_25 rfl (lv_at hl 1 rfl) ?_
    refine mm_get (v := .ref (ad 9)) hx hb hg inM hown hK hP hD2.1.1.1 hD2.2.1 rfl 10 (by decide) (hg _ gw603) (fun _ h9 => h9) rfl dM_clear_26 ?_
    refine lv_iload_n hx hb dM_clear_29 rfl (lv_at hl 2 rfl) ?_
    refine lv_iconst (v := nI 0) hx hb dM_clear_30 (by decide) ?_
    refine mm_iast hx hb hK hn hA hP hS (hD2.1.2 9 (by decide)).1 (show mm_I tys f1 (ad 9) 4 (G 9) from (hD2.1.2 9 (by decide)).2) (vp_in_nI (show i0 < 4 by omega) (by omega)) dM_clear_31 (fun H locs hP hS => ?_)
    rw [nI_clamp (by omega)] at hP
    obtain ⟨f7, hf7⟩ : ∃ z, z = mm_si f1 (ad 9) (upd (G 9) i0 (nI 0)) := ⟨_, rfl⟩
    have hP : va_P D zCl (va_pl L f7) H := by rw [hf7]; exact hP
    have hs8 : Same1 f1 f7 (ad 9) := fun z hz => by rw [hf7, mm_si_ne hz]
    have hD8 : MD tys L f7 mo ap cm ad (fun j => if j = 9 then upd (G 9) i0 (nI 0) else G j) (nI 0) fe me fu le en sp (nI ka) (nI kc) mx se gc := hD2.updA hinj (k := 9) (by decide) (by rw [hf7]; exact (show mm_I tys f1 (ad 9) 4 (G 9) from (hD2.1.2 9 (by decide)).2).set) hs8
    have ha9 := ha3.trans (SmA.of1 (k := 9) (by decide) hs8)
    refine lv_aload_n hx hb dM_clear_32 rfl (lv_at hl 1 rfl) ?_
    refine mm_get (v := .ref (ad 13)) hx hb hg inM hown hK hP hD8.1.1.1 hD8.2.1 rfl 14 (by decide) (hg _ gw607) (fun _ h9 => h9) rfl dM_clear_33 ?_
    refine lv_iload_n hx hb dM_clear_36 rfl (lv_at hl 2 rfl) ?_
    refine lv_iconst (v := nI 0) hx hb dM_clear_37 (by decide) ?_
    refine mm_iast hx hb hK hn hA hP hS (hD8.1.2 13 (by decide)).1 (show mm_I tys f7 (ad 13) 4 (G 13) from (hD8.1.2 13 (by decide)).2) (vp_in_nI (show i0 < 4 by omega) (by omega)) dM_clear_38 (fun H locs hP hS => ?_)
    rw [nI_clamp (by omega)] at hP
    obtain ⟨f10, hf10⟩ : ∃ z, z = mm_si f7 (ad 13) (upd (G 13) i0 (nI 0)) := ⟨_, rfl⟩
    have hP : va_P D zCl (va_pl L f10) H := by rw [hf10]; exact hP
    have hs11 : Same1 f7 f10 (ad 13) := fun z hz => by rw [hf10, mm_si_ne hz]
    have hD11 : MD tys L f10 mo ap cm ad (fun j => if j = 13 then upd (G 13) i0 (nI 0) else (fun j => if j = 9 then upd (G 9) i0 (nI 0) else G j) j) (nI 0) fe me fu le en sp (nI ka) (nI kc) mx se gc := hD8.updA hinj (k := 13) (by decide) (by rw [hf10]; exact (show mm_I tys f7 (ad 13) 4 (G 13) from (hD8.1.2 13 (by decide)).2).set) hs11
    have ha12 := ha9.trans (SmA.of1 (k := 13) (by decide) hs11)
    refine lv_aload_n hx hb dM_clear_39 rfl (lv_at hl 1 rfl) ?_
    refine mm_get (v := .ref (ad 15)) hx hb hg inM hown hK hP hD11.1.1.1 hD11.2.1 rfl 16 (by decide) (hg _ gw609) (fun _ h9 => h9) rfl dM_clear_40 ?_
    refine lv_iload_n hx hb dM_clear_43 rfl (lv_at hl 2 rfl) ?_
    refine lv_iconst (v := nI 0) hx hb dM_clear_44 (by decide) ?_
    refine mm_iast hx hb hK hn hA hP hS (hD11.1.2 15 (by decide)).1 (show mm_I tys f10 (ad 15) 4 (G 15) from (hD11.1.2 15 (by decide)).2) (vp_in_nI (show i0 < 4 by omega) (by omega)) dM_clear_45 (fun H locs hP hS => ?_)
    rw [nI_clamp (by omega)] at hP
    obtain ⟨f13, hf13⟩ : ∃ z, z = mm_si f10 (ad 15) (upd (G 15) i0 (nI 0)) := ⟨_, rfl⟩
    have hP : va_P D zCl (va_pl L f13) H := by rw [hf13]; exact hP
    have hs14 : Same1 f10 f13 (ad 15) := fun z hz => by rw [hf13, mm_si_ne hz]
    have hD14 : MD tys L f13 mo ap cm ad (fun j => if j = 15 then upd (G 15) i0 (nI 0) else (fun j => if j = 13 then upd (G 13) i0 (nI 0) else (fun j => if j = 9 then upd (G 9) i0 (nI 0) else G j) j) j) (nI 0) fe me fu le en sp (nI ka) (nI kc) mx se gc := hD11.updA hinj (k := 15) (by decide) (by rw [hf13]; exact (show mm_I tys f10 (ad 15) 4 (G 15) from (hD11.1.2 15 (by decide)).2).set) hs14
    have ha15 := ha12.trans (SmA.of1 (k := 15) (by decide) hs14)
    refine lv_aload_n hx hb dM_clear_46 rfl (lv_at hl 1 rfl) ?_
    refine mm_get (v := .ref (ad 3)) hx hb hg inM hown hK hP hD14.1.1.1 hD14.2.1 rfl 4 (by decide) (hg _ gw597) (fun _ h9 => h9) rfl dM_clear_47 ?_
    refine lv_iconst (v := nI 2) hx hb dM_clear_50 (by decide) ?_
    refine lv_iload_n hx hb dM_clear_51 rfl (lv_at hl 2 rfl) ?_
    refine lv_imul hx hb dM_clear_52 ?_
    rw [pk_mul]
    refine lv_iconst (v := nI 0) hx hb dM_clear_53 (by decide) ?_
    refine mm_iast hx hb hK hn hA hP hS (hD14.1.2 3 (by decide)).1 (show mm_I tys f13 (ad 3) 8 (G 3) from (hD14.1.2 3 (by decide)).2) (vp_in_nI (show 2 * i0 < 8 by omega) (by omega)) dM_clear_54 (fun H locs hP hS => ?_)
    rw [nI_clamp (by omega)] at hP
    obtain ⟨f16, hf16⟩ : ∃ z, z = mm_si f13 (ad 3) (upd (G 3) (2 * i0) (nI 0)) := ⟨_, rfl⟩
    have hP : va_P D zCl (va_pl L f16) H := by rw [hf16]; exact hP
    have hs17 : Same1 f13 f16 (ad 3) := fun z hz => by rw [hf16, mm_si_ne hz]
    have hD17 : MD tys L f16 mo ap cm ad (fun j => if j = 3 then upd (G 3) (2 * i0) (nI 0) else (fun j => if j = 15 then upd (G 15) i0 (nI 0) else (fun j => if j = 13 then upd (G 13) i0 (nI 0) else (fun j => if j = 9 then upd (G 9) i0 (nI 0) else G j) j) j) j) (nI 0) fe me fu le en sp (nI ka) (nI kc) mx se gc := hD14.updA hinj (k := 3) (by decide) (by rw [hf16]; exact (show mm_I tys f13 (ad 3) 8 (G 3) from (hD14.1.2 3 (by decide)).2).set) hs17
    have ha18 := ha15.trans (SmA.of1 (k := 3) (by decide) hs17)
    refine lv_aload_n hx hb dM_clear_55 rfl (lv_at hl 1 rfl) ?_
    refine mm_get (v := .ref (ad 3)) hx hb hg inM hown hK hP hD17.1.1.1 hD17.2.1 rfl 4 (by decide) (hg _ gw597) (fun _ h9 => h9) rfl dM_clear_56 ?_
    refine lv_iconst (v := nI 2) hx hb dM_clear_59 (by decide) ?_
    refine lv_iload_n hx hb dM_clear_60 rfl (lv_at hl 2 rfl) ?_
    refine lv_imul hx hb dM_clear_61 ?_
    rw [pk_mul]
    refine lv_iconst (v := nI 1) hx hb dM_clear_62 (by decide) ?_
    refine lv_iadd hx hb dM_clear_63 ?_
    rw [nI_add]
    refine lv_iconst (v := nI 0) hx hb dM_clear_64 (by decide) ?_
    refine mm_iast hx hb hK hn hA hP hS (hD17.1.2 3 (by decide)).1 (show mm_I tys f16 (ad 3) 8 (upd (G 3) (2 * i0) (nI 0)) from (hD17.1.2 3 (by decide)).2) (vp_in_nI (show (2 * i0) + 1 < 8 by omega) (by omega)) dM_clear_65 (fun H locs hP hS => ?_)
    rw [nI_clamp (by omega)] at hP
    obtain ⟨f19, hf19⟩ : ∃ z, z = mm_si f16 (ad 3) (upd (upd (G 3) (2 * i0) (nI 0)) ((2 * i0) + 1) (nI 0)) := ⟨_, rfl⟩
    have hP : va_P D zCl (va_pl L f19) H := by rw [hf19]; exact hP
    have hs20 : Same1 f16 f19 (ad 3) := fun z hz => by rw [hf19, mm_si_ne hz]
    have hD20 : MD tys L f19 mo ap cm ad (fun j => if j = 3 then upd (upd (G 3) (2 * i0) (nI 0)) ((2 * i0) + 1) (nI 0) else (fun j => if j = 3 then upd (G 3) (2 * i0) (nI 0) else (fun j => if j = 15 then upd (G 15) i0 (nI 0) else (fun j => if j = 13 then upd (G 13) i0 (nI 0) else (fun j => if j = 9 then upd (G 9) i0 (nI 0) else G j) j) j) j) j) (nI 0) fe me fu le en sp (nI ka) (nI kc) mx se gc := hD17.updA hinj (k := 3) (by decide) (by rw [hf19]; exact (show mm_I tys f16 (ad 3) 8 (upd (G 3) (2 * i0) (nI 0)) from (hD17.1.2 3 (by decide)).2).set) hs20
    have ha21 := ha18.trans (SmA.of1 (k := 3) (by decide) hs20)
    refine lv_iload_n hx hb dM_clear_66 rfl (lv_at hl 0 rfl) ?_
    refine ret_i C0 hP hS ⟨_, ha21, Or.inr ⟨nb_f c9, rfl, fun i2 e2 h2 => ?_⟩⟩ dM_clear_67
    obtain rfl := (nI_eq (by omega) (by omega)).mp e2
    refine ⟨ex2, ?_⟩
    exact MdI.eqG ⟨_, _, _, _, _, _, ka, kc, _, _, _, hfe, hka, hkc, hD20⟩ (fun k hk => by rcases (show k = 3 ∨ k = 15 ∨ k = 13 ∨ k = 9 ∨ (k ≠ 3 ∧ k ≠ 15 ∧ k ≠ 13 ∧ k ≠ 9) by omega) with e | e | e | e | e <;> simp [m_Gc, e])
  · have c9 : (!q_fn x) = true := kb_t.mp c9
    refine lv_aload_n hx hb dM_clear_12 rfl (lv_at hl 0 rfl) ?_
    refine lv_iconst (v := nI 1) hx hb dM_clear_13 (by decide) ?_
    refine then_i (run_V (n := 1) (As := [.int (nI 1)]) (rest := []) C0 (m_raise hn hD2) gw700 gw697 gw699 gsM_raise gw7 (by decide +kernel) ⟨Nat.le_of_ble_eq_true rfl, Nat.le_of_ble_eq_true rfl⟩ rfl rfl ⟨Nat.le_of_ble_eq_true rfl, Nat.le_of_ble_eq_true rfl⟩ hP hD2.1.1.1 hD2.2.1 rfl rfl rfl hl.1 rfl (Nat.le_of_ble_eq_true rfl) dM_clear_14) hS hA (fun r23 f22 H locs hq14 hP hS => ?_)
    obtain ⟨hr24, hD24, hs24⟩ := hq14
    have ha24 := ha3.trans (SmA.of3 (Sm3.ofO hs24))
    exact ret_i C0 hP hS ⟨_, ha24, Or.inl ⟨nb_t c9, rfl, ⟨_, _, _, _, _, _, ka, kc, _, _, _, hfe, hka, hkc, hD24⟩⟩⟩ dM_clear_17
set_option maxRecDepth 100000 in
set_option maxHeartbeats 4000000 in
theorem m_refine {l : Launch} {D : va_G} {tys : List (ClassId × FieldType)} {L : List Nat} {f : Nat → va_E} (hn : L.Nodup) {mo ap cm : Nat} {ad : Nat → Nat} {G : Nat → Nat → Int32} {th : Int32} {σ : Sg} {x kd a b k : Int32} (hinj : ∀ i j, i < 16 → j < 16 → i ≠ j → ad i ≠ ad j) (hO : MOk σ G) (hI0 : MdI tys L f mo ap cm ad G th) : MetI l yM_refine wM_refine ({ frames := 2, cells := 0, slots := 0, locals := 42 } : Room) D tys L f [.ref mo, .int x, .int kd, .int a, .int b, .int k] (fun r f' => ∃ t, SmA f f' mo ap cm ad ∧ ((q_rf x kd a b k = false ∧ t = nI 1 ∧ MdI tys L f' mo ap cm ad G t) ∨ (q_rf x kd a b k = true ∧ t = nI 2 ∧ MdI tys L f' mo ap cm ad G t ∧ ∀ i j, x = nI i → kd = nI j → i < 4 → j < 2 → ¬ rn σ (2 * i + j) < 4) ∨ (q_rf x kd a b k = true ∧ t = nI 0 ∧ ∀ i j, x = nI i → kd = nI j → i < 4 → j < 2 → rn σ (2 * i + j) < 4 ∧ r = nI (rn σ (2 * i + j) + 1) ∧ MdI tys L f' mo ap cm ad (m_Gr G (2 * i + j) (rn σ (2 * i + j)) a b k) t))) := by
  refine met_of "LiquidCheckerModel" (by decide) rfl (Nat.le_of_ble_eq_true rfl) ?_
  intro pgm e s m below meth c ls C0 hP hl
  obtain ⟨hx, hb, hml, hown, hg, hr, hlocks, hK, hN⟩ := id C0
  have hA : ∀ a ∈ L, inL L a := fun _ h => h
  obtain ⟨H, hH⟩ : ∃ z, z = s.heap := ⟨_, rfl⟩
  rw [← hH] at hP ⊢
  have hS : va_S (inL L) s.heap H [] := by rw [hH]; exact va_S.rf
  have hl : lv_has ls 8 [(0, .ref mo), (1, .int x), (2, .int kd), (3, .int a), (4, .int b), (5, .int k)] := hl
  obtain ⟨fe, me, fu, le, en, sp, ka, kc, mx, se, gc, hfe, hka, hkc, hD⟩ := hI0
  obtain ⟨hM, hRl, h3d, hW⟩ := hO
  refine lv_aload_n hx hb dM_refine_0 rfl (lv_at hl 0 rfl) ?_
  refine lv_iconst (v := nI 0) hx hb dM_refine_1 (by decide) ?_
  refine mm_put (v := .int (nI 0)) (ty := .int) hx hb hg inM tyM tyM_ok nmM hown hK hn hA hP hS hD.1.1.1 (show f mo = .inr (6, [.int th, .ref (ad 0), .ref (ad 1), .ref (ad 2), .ref (ad 3), .ref (ad 4), .ref (ad 5), .ref (ad 6), .ref (ad 7), .ref (ad 8), .ref (ad 9), .ref (ad 10), .ref (ad 11), .ref (ad 12), .ref (ad 13), .ref (ad 14), .ref (ad 15), .ref ap, .int fe, .int me, .int fu, .int le, .int en, .ref cm, .int sp, .int (nI ka), .int (nI kc), .long mx, .int se]) from hD.2.1) rfl 0 (by decide) (hg _ gw593) (fun _ h9 => h9) rfl (by decide +kernel) rfl rfl (Nat.le_of_ble_eq_true rfl) dM_refine_2 (fun H locs hP hS => ?_)
  obtain ⟨f1, hf1⟩ : ∃ z, z = va_up f mo (.inr (6, [.int (nI 0), .ref (ad 0), .ref (ad 1), .ref (ad 2), .ref (ad 3), .ref (ad 4), .ref (ad 5), .ref (ad 6), .ref (ad 7), .ref (ad 8), .ref (ad 9), .ref (ad 10), .ref (ad 11), .ref (ad 12), .ref (ad 13), .ref (ad 14), .ref (ad 15), .ref ap, .int fe, .int me, .int fu, .int le, .int en, .ref cm, .int sp, .int (nI ka), .int (nI kc), .long mx, .int se])) := ⟨_, rfl⟩
  have hP : va_P D zCl (va_pl L f1) H := by rw [hf1]; exact hP
  have hs2 : Same1 f f1 mo := fun z hz => by rw [hf1, va_up_ne _ _ hz]
  have hD2 : MD tys L f1 mo ap cm ad G (nI 0) fe me fu le en sp (nI ka) (nI kc) mx se gc := hD.updO (by rw [hf1]; exact va_up_self _ _ _) hs2
  have ha3 : SmA f _ mo ap cm ad := SmA.of3 (Sm3.ofO hs2)
  refine lv_iload_n hx hb dM_refine_5 rfl (lv_at hl 1 rfl) ?_
  refine then_i (run_S (n := 1) (As := [.int x]) (rest := []) C0 (m_noFunction hn) gw693 gw691 gw692 gw7 (by decide +kernel) ⟨Nat.le_of_ble_eq_true rfl, Nat.le_of_ble_eq_true rfl⟩ rfl rfl ⟨Nat.le_of_ble_eq_true rfl, Nat.le_of_ble_eq_true rfl⟩ hP rfl hl.1 rfl (Nat.le_of_ble_eq_true rfl) dM_refine_6) hS hA (fun r5 f4 H locs hq6 hP hS => ?_)
  obtain ⟨er5, ef4⟩ := hq6
  subst er5
  rw [ef4] at hP
  refine lv_if_ne (tgt := 58) hx hb dM_refine_9 (by decide) (fun c9 => ?_) (fun c9 => ?_)
  · have c9 : (!q_fn x) = true := kb_t.mp c9
    refine lv_aload_n hx hb dM_refine_58 rfl (lv_at hl 0 rfl) ?_
    refine lv_iconst (v := nI 1) hx hb dM_refine_59 (by decide) ?_
    refine then_i (run_V (n := 1) (As := [.int (nI 1)]) (rest := []) C0 (m_raise hn hD2) gw700 gw697 gw699 gsM_raise gw7 (by decide +kernel) ⟨Nat.le_of_ble_eq_true rfl, Nat.le_of_ble_eq_true rfl⟩ rfl rfl ⟨Nat.le_of_ble_eq_true rfl, Nat.le_of_ble_eq_true rfl⟩ hP hD2.1.1.1 hD2.2.1 rfl rfl rfl hl.1 rfl (Nat.le_of_ble_eq_true rfl) dM_refine_60) hS hA (fun r7 f6 H locs hq60 hP hS => ?_)
    obtain ⟨hr8, hD8, hs8⟩ := hq60
    have ha8 := ha3.trans (SmA.of3 (Sm3.ofO hs8))
    have hq9 : q_rf x kd a b k = false := by unfold q_rf q_df; rw [nb_t c9]; simp
    exact ret_i C0 hP hS ⟨_, ha8, Or.inl ⟨hq9, rfl, ⟨_, _, _, _, _, _, ka, kc, _, _, _, hfe, hka, hkc, hD8⟩⟩⟩ dM_refine_63
  · have c9 : (!q_fn x) = false := kb_0.mp c9
    refine lv_iload_n hx hb dM_refine_12 rfl (lv_at hl 2 rfl) ?_
    refine lv_iconst (v := nI 0) hx hb dM_refine_13 (by decide) ?_
    refine lv_iconst (v := nI 1) hx hb dM_refine_14 (by decide) ?_
    refine then_i (run_S (n := 3) (As := [.int kd, .int (nI 0), .int (nI 1)]) (rest := []) C0 (m_in hn) gw696 gw694 gw695 gw7 (by decide +kernel) ⟨Nat.le_of_ble_eq_true rfl, Nat.le_of_ble_eq_true rfl⟩ rfl rfl ⟨Nat.le_of_ble_eq_true rfl, Nat.le_of_ble_eq_true rfl⟩ hP rfl hl.1 rfl (Nat.le_of_ble_eq_true rfl) dM_refine_15) hS hA (fun r10 f9 H locs hq15 hP hS => ?_)
    obtain ⟨er10, ef9⟩ := hq15
    subst er10
    rw [ef9] at hP
    refine lv_if_eq (tgt := 58) hx hb dM_refine_18 (by decide) (fun c18 => ?_) (fun c18 => ?_)
    · have c18 : (q_in kd (nI 0) (nI 1)) = false := kb_0.mp c18
      refine lv_aload_n hx hb dM_refine_58 rfl (lv_at hl 0 rfl) ?_
      refine lv_iconst (v := nI 1) hx hb dM_refine_59 (by decide) ?_
      refine then_i (run_V (n := 1) (As := [.int (nI 1)]) (rest := []) C0 (m_raise hn hD2) gw700 gw697 gw699 gsM_raise gw7 (by decide +kernel) ⟨Nat.le_of_ble_eq_true rfl, Nat.le_of_ble_eq_true rfl⟩ rfl rfl ⟨Nat.le_of_ble_eq_true rfl, Nat.le_of_ble_eq_true rfl⟩ hP hD2.1.1.1 hD2.2.1 rfl rfl rfl hl.1 rfl (Nat.le_of_ble_eq_true rfl) dM_refine_60) hS hA (fun r12 f11 H locs hq60 hP hS => ?_)
      obtain ⟨hr13, hD13, hs13⟩ := hq60
      have ha13 := ha3.trans (SmA.of3 (Sm3.ofO hs13))
      have hq9 : q_rf x kd a b k = false := by unfold q_rf q_df; rw [nb_f c9, c18]; simp
      exact ret_i C0 hP hS ⟨_, ha13, Or.inl ⟨hq9, rfl, ⟨_, _, _, _, _, _, ka, kc, _, _, _, hfe, hka, hkc, hD13⟩⟩⟩ dM_refine_63
    · have c18 : (q_in kd (nI 0) (nI 1)) = true := kb_t.mp c18
      refine lv_iload_n hx hb dM_refine_21 rfl (lv_at hl 3 rfl) ?_
      refine lv_iconst (v := nI 0) hx hb dM_refine_22 (by decide) ?_
      refine lv_iconst (v := nI 2) hx hb dM_refine_23 (by decide) ?_
      refine lv_iload_n hx hb dM_refine_24 rfl (lv_at hl 2 rfl) ?_
      refine lv_iadd hx hb dM_refine_25 ?_
      refine then_i (run_S (n := 3) (As := [.int a, .int (nI 0), .int ((nI 2) + kd)]) (rest := []) C0 (m_in hn) gw696 gw694 gw695 gw7 (by decide +kernel) ⟨Nat.le_of_ble_eq_true rfl, Nat.le_of_ble_eq_true rfl⟩ rfl rfl ⟨Nat.le_of_ble_eq_true rfl, Nat.le_of_ble_eq_true rfl⟩ hP rfl hl.1 rfl (Nat.le_of_ble_eq_true rfl) dM_refine_26) hS hA (fun r15 f14 H locs hq26 hP hS => ?_)
      obtain ⟨er15, ef14⟩ := hq26
      subst er15
      rw [ef14] at hP
      refine lv_if_eq (tgt := 58) hx hb dM_refine_29 (by decide) (fun c29 => ?_) (fun c29 => ?_)
      · have c29 : (q_in a (nI 0) ((nI 2) + kd)) = false := kb_0.mp c29
        refine lv_aload_n hx hb dM_refine_58 rfl (lv_at hl 0 rfl) ?_
        refine lv_iconst (v := nI 1) hx hb dM_refine_59 (by decide) ?_
        refine then_i (run_V (n := 1) (As := [.int (nI 1)]) (rest := []) C0 (m_raise hn hD2) gw700 gw697 gw699 gsM_raise gw7 (by decide +kernel) ⟨Nat.le_of_ble_eq_true rfl, Nat.le_of_ble_eq_true rfl⟩ rfl rfl ⟨Nat.le_of_ble_eq_true rfl, Nat.le_of_ble_eq_true rfl⟩ hP hD2.1.1.1 hD2.2.1 rfl rfl rfl hl.1 rfl (Nat.le_of_ble_eq_true rfl) dM_refine_60) hS hA (fun r17 f16 H locs hq60 hP hS => ?_)
        obtain ⟨hr18, hD18, hs18⟩ := hq60
        have ha18 := ha3.trans (SmA.of3 (Sm3.ofO hs18))
        have hq9 : q_rf x kd a b k = false := by unfold q_rf q_df; rw [nb_f c9, c18, c29]; simp
        exact ret_i C0 hP hS ⟨_, ha18, Or.inl ⟨hq9, rfl, ⟨_, _, _, _, _, _, ka, kc, _, _, _, hfe, hka, hkc, hD18⟩⟩⟩ dM_refine_63
      · have c29 : (q_in a (nI 0) ((nI 2) + kd)) = true := kb_t.mp c29
        refine lv_iload hx hb dM_refine_32 (lv_at hl 4 rfl) ?_
        refine lv_iconst (v := nI 0) hx hb dM_refine_34 (by decide) ?_
        refine lv_iconst (v := nI 2) hx hb dM_refine_35 (by decide) ?_
        refine lv_iload_n hx hb dM_refine_36 rfl (lv_at hl 2 rfl) ?_
        refine lv_iadd hx hb dM_refine_37 ?_
        refine then_i (run_S (n := 3) (As := [.int b, .int (nI 0), .int ((nI 2) + kd)]) (rest := []) C0 (m_in hn) gw696 gw694 gw695 gw7 (by decide +kernel) ⟨Nat.le_of_ble_eq_true rfl, Nat.le_of_ble_eq_true rfl⟩ rfl rfl ⟨Nat.le_of_ble_eq_true rfl, Nat.le_of_ble_eq_true rfl⟩ hP rfl hl.1 rfl (Nat.le_of_ble_eq_true rfl) dM_refine_38) hS hA (fun r20 f19 H locs hq38 hP hS => ?_)
        obtain ⟨er20, ef19⟩ := hq38
        subst er20
        rw [ef19] at hP
        refine lv_if_eq (tgt := 58) hx hb dM_refine_41 (by decide) (fun c41 => ?_) (fun c41 => ?_)
        · have c41 : (q_in b (nI 0) ((nI 2) + kd)) = false := kb_0.mp c41
          refine lv_aload_n hx hb dM_refine_58 rfl (lv_at hl 0 rfl) ?_
          refine lv_iconst (v := nI 1) hx hb dM_refine_59 (by decide) ?_
          refine then_i (run_V (n := 1) (As := [.int (nI 1)]) (rest := []) C0 (m_raise hn hD2) gw700 gw697 gw699 gsM_raise gw7 (by decide +kernel) ⟨Nat.le_of_ble_eq_true rfl, Nat.le_of_ble_eq_true rfl⟩ rfl rfl ⟨Nat.le_of_ble_eq_true rfl, Nat.le_of_ble_eq_true rfl⟩ hP hD2.1.1.1 hD2.2.1 rfl rfl rfl hl.1 rfl (Nat.le_of_ble_eq_true rfl) dM_refine_60) hS hA (fun r22 f21 H locs hq60 hP hS => ?_)
          obtain ⟨hr23, hD23, hs23⟩ := hq60
          have ha23 := ha3.trans (SmA.of3 (Sm3.ofO hs23))
          have hq9 : q_rf x kd a b k = false := by unfold q_rf q_df; rw [nb_f c9, c18, c29, c41]; simp
          exact ret_i C0 hP hS ⟨_, ha23, Or.inl ⟨hq9, rfl, ⟨_, _, _, _, _, _, ka, kc, _, _, _, hfe, hka, hkc, hD23⟩⟩⟩ dM_refine_63
        · have c41 : (q_in b (nI 0) ((nI 2) + kd)) = true := kb_t.mp c41
          refine lv_iload hx hb dM_refine_44 (lv_at hl 5 rfl) ?_
          refine lv_sipush (v := (-1000)) hx hb dM_refine_46 (by decide) ?_
          refine lv_sipush (v := nI 1000) hx hb dM_refine_49 (by decide) ?_
          refine then_i (run_S (n := 3) (As := [.int k, .int (-1000), .int (nI 1000)]) (rest := []) C0 (m_in hn) gw696 gw694 gw695 gw7 (by decide +kernel) ⟨Nat.le_of_ble_eq_true rfl, Nat.le_of_ble_eq_true rfl⟩ rfl rfl ⟨Nat.le_of_ble_eq_true rfl, Nat.le_of_ble_eq_true rfl⟩ hP rfl hl.1 rfl (Nat.le_of_ble_eq_true rfl) dM_refine_52) hS hA (fun r25 f24 H locs hq52 hP hS => ?_)
          obtain ⟨er25, ef24⟩ := hq52
          subst er25
          rw [ef24] at hP
          refine lv_if_ne (tgt := 64) hx hb dM_refine_55 (by decide) (fun c55 => ?_) (fun c55 => ?_)
          · have c55 : (q_in k (-1000) (nI 1000)) = true := kb_t.mp c55
            have hq9 : q_rf x kd a b k = true := by unfold q_rf q_df; rw [nb_f c9, c18, c29, c41, c55]; rfl
            obtain ⟨i0, hi0, rfl⟩ := q_fn_nI (nb_f c9)
            obtain ⟨j0, hj0, rfl⟩ : ∃ j0, j0 < 2 ∧ kd = nI j0 := by rcases q_in01 c18 with e | e; exact ⟨0, by omega, e⟩; exact ⟨1, by omega, e⟩
            have hr4 := (hRl (2 * i0 + j0) (by omega)).1
            refine lv_iconst (v := nI 2) hx hb dM_refine_64 (by decide) ?_
            refine lv_iload_n hx hb dM_refine_65 rfl (lv_at hl 1 rfl) ?_
            refine lv_imul hx hb dM_refine_66 ?_
            rw [pk_mul]
            refine lv_iload_n hx hb dM_refine_67 rfl (lv_at hl 2 rfl) ?_
            refine lv_iadd hx hb dM_refine_68 ?_
            rw [nI_add]
            refine lv_istore (lv' := [(6, .int (nI ((2 * i0) + j0))), (0, .ref mo), (1, .int (nI i0)), (2, .int (nI j0)), (3, .int a), (4, .int b), (5, .int k)]) hx hb dM_refine_69 hl (by decide) rfl (fun ls hl => ?_)
            refine lv_aload_n hx hb dM_refine_71 rfl (lv_at hl 1 rfl) ?_
            refine mm_get (v := .ref (ad 3)) hx hb hg inM hown hK hP hD2.1.1.1 hD2.2.1 rfl 4 (by decide) (hg _ gw597) (fun _ h9 => h9) rfl dM_refine_72 ?_
            refine lv_iload hx hb dM_refine_75 (lv_at hl 0 rfl) ?_
            refine mm_iald hx hb hK hP (hD2.1.2 3 (by decide)).1 (show mm_I tys f1 (ad 3) 8 (G 3) from (hD2.1.2 3 (by decide)).2) (vp_in_nI (show (2 * i0) + j0 < 8 by omega) (by omega)) dM_refine_77 ?_
            rw [nI_clamp (by omega)]
            rw [hM.1 (2 * i0 + j0) (by omega)]
            refine lv_iconst (v := nI 4) hx hb dM_refine_78 (by decide) ?_
            refine lv_icmp_ne (tgt := 88) hx hb dM_refine_79 (by decide) (fun c79 => ?_) (fun c79 => ?_)
            · have hn4 : rn σ (2 * i0 + j0) < 4 := by have h9 : ¬ rn σ (2 * i0 + j0) = 4 := fun z => c79 (by rw [z]); omega
              refine lv_iconst (v := nI 4) hx hb dM_refine_88 (by decide) ?_
              refine lv_iload hx hb dM_refine_89 (lv_at hl 0 rfl) ?_
              refine lv_imul hx hb dM_refine_91 ?_
              rw [pk_mul]
              refine lv_aload_n hx hb dM_refine_92 rfl (lv_at hl 1 rfl) ?_
              refine mm_get (v := .ref (ad 3)) hx hb hg inM hown hK hP hD2.1.1.1 hD2.2.1 rfl 4 (by decide) (hg _ gw597) (fun _ h9 => h9) rfl dM_refine_93 ?_
              refine lv_iload hx hb dM_refine_96 (lv_at hl 0 rfl) ?_
              refine mm_iald hx hb hK hP (hD2.1.2 3 (by decide)).1 (show mm_I tys f1 (ad 3) 8 (G 3) from (hD2.1.2 3 (by decide)).2) (vp_in_nI (show (2 * i0) + j0 < 8 by omega) (by omega)) dM_refine_98 ?_
              rw [nI_clamp (by omega)]
              rw [hM.1 (2 * i0 + j0) (by omega)]
              refine lv_iadd hx hb dM_refine_99 ?_
              rw [nI_add]
              refine lv_istore (lv' := [(7, .int (nI ((4 * ((2 * i0) + j0)) + (rn σ (2 * i0 + j0))))), (6, .int (nI ((2 * i0) + j0))), (0, .ref mo), (1, .int (nI i0)), (2, .int (nI j0)), (3, .int a), (4, .int b), (5, .int k)]) hx hb dM_refine_100 hl (by decide) rfl (fun ls hl => ?_)
              refine lv_aload_n hx hb dM_refine_102 rfl (lv_at hl 2 rfl) ?_
              refine mm_get (v := .ref (ad 0)) hx hb hg inM hown hK hP hD2.1.1.1 hD2.2.1 rfl 1 (by decide) (hg _ gw594) (fun _ h9 => h9) rfl dM_refine_103 ?_
              refine lv_iload hx hb dM_refine_106 (lv_at hl 0 rfl) ?_
              refine lv_iload_n hx hb dM_refine_108 rfl (lv_at hl 5 rfl) ?_
              refine mm_iast hx hb hK hn hA hP hS (hD2.1.2 0 (by decide)).1 (show mm_I tys f1 (ad 0) 32 (G 0) from (hD2.1.2 0 (by decide)).2) (vp_in_nI (show (4 * ((2 * i0) + j0)) + (rn σ (2 * i0 + j0)) < 32 by omega) (by omega)) dM_refine_109 (fun H locs hP hS => ?_)
              rw [nI_clamp (by omega)] at hP
              obtain ⟨f26, hf26⟩ : ∃ z, z = mm_si f1 (ad 0) (upd (G 0) ((4 * ((2 * i0) + j0)) + (rn σ (2 * i0 + j0))) a) := ⟨_, rfl⟩
              have hP : va_P D zCl (va_pl L f26) H := by rw [hf26]; exact hP
              have hs27 : Same1 f1 f26 (ad 0) := fun z hz => by rw [hf26, mm_si_ne hz]
              have hD27 : MD tys L f26 mo ap cm ad (fun j => if j = 0 then upd (G 0) ((4 * ((2 * i0) + j0)) + (rn σ (2 * i0 + j0))) a else G j) (nI 0) fe me fu le en sp (nI ka) (nI kc) mx se gc := hD2.updA hinj (k := 0) (by decide) (by rw [hf26]; exact (show mm_I tys f1 (ad 0) 32 (G 0) from (hD2.1.2 0 (by decide)).2).set) hs27
              have ha28 := ha3.trans (SmA.of1 (k := 0) (by decide) hs27)
              refine lv_aload_n hx hb dM_refine_110 rfl (lv_at hl 2 rfl) ?_
              refine mm_get (v := .ref (ad 1)) hx hb hg inM hown hK hP hD27.1.1.1 hD27.2.1 rfl 2 (by decide) (hg _ gw595) (fun _ h9 => h9) rfl dM_refine_111 ?_
              refine lv_iload hx hb dM_refine_114 (lv_at hl 0 rfl) ?_
              refine lv_iload hx hb dM_refine_116 (lv_at hl 6 rfl) ?_
              refine mm_iast hx hb hK hn hA hP hS (hD27.1.2 1 (by decide)).1 (show mm_I tys f26 (ad 1) 32 (G 1) from (hD27.1.2 1 (by decide)).2) (vp_in_nI (show (4 * ((2 * i0) + j0)) + (rn σ (2 * i0 + j0)) < 32 by omega) (by omega)) dM_refine_118 (fun H locs hP hS => ?_)
              rw [nI_clamp (by omega)] at hP
              obtain ⟨f29, hf29⟩ : ∃ z, z = mm_si f26 (ad 1) (upd (G 1) ((4 * ((2 * i0) + j0)) + (rn σ (2 * i0 + j0))) b) := ⟨_, rfl⟩
              have hP : va_P D zCl (va_pl L f29) H := by rw [hf29]; exact hP
              have hs30 : Same1 f26 f29 (ad 1) := fun z hz => by rw [hf29, mm_si_ne hz]
              have hD30 : MD tys L f29 mo ap cm ad (fun j => if j = 1 then upd (G 1) ((4 * ((2 * i0) + j0)) + (rn σ (2 * i0 + j0))) b else (fun j => if j = 0 then upd (G 0) ((4 * ((2 * i0) + j0)) + (rn σ (2 * i0 + j0))) a else G j) j) (nI 0) fe me fu le en sp (nI ka) (nI kc) mx se gc := hD27.updA hinj (k := 1) (by decide) (by rw [hf29]; exact (show mm_I tys f26 (ad 1) 32 (G 1) from (hD27.1.2 1 (by decide)).2).set) hs30
              have ha31 := ha28.trans (SmA.of1 (k := 1) (by decide) hs30)
              refine lv_aload_n hx hb dM_refine_119 rfl (lv_at hl 2 rfl) ?_
              refine mm_get (v := .ref (ad 2)) hx hb hg inM hown hK hP hD30.1.1.1 hD30.2.1 rfl 3 (by decide) (hg _ gw596) (fun _ h9 => h9) rfl dM_refine_120 ?_
              refine lv_iload hx hb dM_refine_123 (lv_at hl 0 rfl) ?_
              refine lv_iload hx hb dM_refine_125 (lv_at hl 7 rfl) ?_
              refine mm_iast hx hb hK hn hA hP hS (hD30.1.2 2 (by decide)).1 (show mm_I tys f29 (ad 2) 32 (G 2) from (hD30.1.2 2 (by decide)).2) (vp_in_nI (show (4 * ((2 * i0) + j0)) + (rn σ (2 * i0 + j0)) < 32 by omega) (by omega)) dM_refine_127 (fun H locs hP hS => ?_)
              rw [nI_clamp (by omega)] at hP
              obtain ⟨f32, hf32⟩ : ∃ z, z = mm_si f29 (ad 2) (upd (G 2) ((4 * ((2 * i0) + j0)) + (rn σ (2 * i0 + j0))) k) := ⟨_, rfl⟩
              have hP : va_P D zCl (va_pl L f32) H := by rw [hf32]; exact hP
              have hs33 : Same1 f29 f32 (ad 2) := fun z hz => by rw [hf32, mm_si_ne hz]
              have hD33 : MD tys L f32 mo ap cm ad (fun j => if j = 2 then upd (G 2) ((4 * ((2 * i0) + j0)) + (rn σ (2 * i0 + j0))) k else (fun j => if j = 1 then upd (G 1) ((4 * ((2 * i0) + j0)) + (rn σ (2 * i0 + j0))) b else (fun j => if j = 0 then upd (G 0) ((4 * ((2 * i0) + j0)) + (rn σ (2 * i0 + j0))) a else G j) j) j) (nI 0) fe me fu le en sp (nI ka) (nI kc) mx se gc := hD30.updA hinj (k := 2) (by decide) (by rw [hf32]; exact (show mm_I tys f29 (ad 2) 32 (G 2) from (hD30.1.2 2 (by decide)).2).set) hs33
              have ha34 := ha31.trans (SmA.of1 (k := 2) (by decide) hs33)
              refine lv_aload_n hx hb dM_refine_128 rfl (lv_at hl 2 rfl) ?_
              refine mm_get (v := .ref (ad 3)) hx hb hg inM hown hK hP hD33.1.1.1 hD33.2.1 rfl 4 (by decide) (hg _ gw597) (fun _ h9 => h9) rfl dM_refine_129 ?_
              refine lv_iload hx hb dM_refine_132 (lv_at hl 1 rfl) ?_
              refine lv_dup2_11 hx hb dM_refine_134 rfl rfl ?_
              refine mm_iald hx hb hK hP (hD33.1.2 3 (by decide)).1 (show mm_I tys f32 (ad 3) 8 (G 3) from (hD33.1.2 3 (by decide)).2) (vp_in_nI (show (2 * i0) + j0 < 8 by omega) (by omega)) dM_refine_135 ?_
              rw [nI_clamp (by omega)]
              rw [hM.1 (2 * i0 + j0) (by omega)]
              refine lv_iconst (v := nI 1) hx hb dM_refine_136 (by decide) ?_
              refine lv_iadd hx hb dM_refine_137 ?_
              rw [nI_add]
              refine mm_iast hx hb hK hn hA hP hS (hD33.1.2 3 (by decide)).1 (show mm_I tys f32 (ad 3) 8 (G 3) from (hD33.1.2 3 (by decide)).2) (vp_in_nI (show (2 * i0) + j0 < 8 by omega) (by omega)) dM_refine_138 (fun H locs hP hS => ?_)
              rw [nI_clamp (by omega)] at hP
              obtain ⟨f35, hf35⟩ : ∃ z, z = mm_si f32 (ad 3) (upd (G 3) ((2 * i0) + j0) (nI ((rn σ (2 * i0 + j0)) + 1))) := ⟨_, rfl⟩
              have hP : va_P D zCl (va_pl L f35) H := by rw [hf35]; exact hP
              have hs36 : Same1 f32 f35 (ad 3) := fun z hz => by rw [hf35, mm_si_ne hz]
              have hD36 : MD tys L f35 mo ap cm ad (fun j => if j = 3 then upd (G 3) ((2 * i0) + j0) (nI ((rn σ (2 * i0 + j0)) + 1)) else (fun j => if j = 2 then upd (G 2) ((4 * ((2 * i0) + j0)) + (rn σ (2 * i0 + j0))) k else (fun j => if j = 1 then upd (G 1) ((4 * ((2 * i0) + j0)) + (rn σ (2 * i0 + j0))) b else (fun j => if j = 0 then upd (G 0) ((4 * ((2 * i0) + j0)) + (rn σ (2 * i0 + j0))) a else G j) j) j) j) (nI 0) fe me fu le en sp (nI ka) (nI kc) mx se gc := hD33.updA hinj (k := 3) (by decide) (by rw [hf35]; exact (show mm_I tys f32 (ad 3) 8 (G 3) from (hD33.1.2 3 (by decide)).2).set) hs36
              have ha37 := ha34.trans (SmA.of1 (k := 3) (by decide) hs36)
              refine lv_aload_n hx hb dM_refine_139 rfl (lv_at hl 2 rfl) ?_
              refine mm_get (v := .ref (ad 3)) hx hb hg inM hown hK hP hD36.1.1.1 hD36.2.1 rfl 4 (by decide) (hg _ gw597) (fun _ h9 => h9) rfl dM_refine_140 ?_
              refine lv_iload hx hb dM_refine_143 (lv_at hl 1 rfl) ?_
              refine mm_iald hx hb hK hP (hD36.1.2 3 (by decide)).1 (show mm_I tys f35 (ad 3) 8 (upd (G 3) ((2 * i0) + j0) (nI ((rn σ (2 * i0 + j0)) + 1))) from (hD36.1.2 3 (by decide)).2) (vp_in_nI (show (2 * i0) + j0 < 8 by omega) (by omega)) dM_refine_145 ?_
              rw [nI_clamp (by omega)]
              rw [pk_us]
              refine ret_i C0 hP hS ⟨_, ha37, Or.inr (Or.inr ⟨hq9, rfl, fun i2 j2 e2 e3 h2 h3 => ?_⟩)⟩ dM_refine_146
              obtain rfl := (nI_eq (by omega) (by omega)).mp e2
              obtain rfl := (nI_eq (by omega) (by omega)).mp e3
              refine ⟨hn4, rfl, ?_⟩
              exact MdI.eqG ⟨_, _, _, _, _, _, ka, kc, _, _, _, hfe, hka, hkc, hD36⟩ (fun k hk => by rcases (show k = 3 ∨ k = 2 ∨ k = 1 ∨ k = 0 ∨ (k ≠ 3 ∧ k ≠ 2 ∧ k ≠ 1 ∧ k ≠ 0) by omega) with e | e | e | e | e <;> simp [m_Gr, e])
            · refine lv_aload_n hx hb dM_refine_82 rfl (lv_at hl 1 rfl) ?_
              refine lv_iconst (v := nI 2) hx hb dM_refine_83 (by decide) ?_
              refine then_i (run_V (n := 1) (As := [.int (nI 2)]) (rest := []) C0 (m_raise hn hD2) gw700 gw697 gw699 gsM_raise gw7 (by decide +kernel) ⟨Nat.le_of_ble_eq_true rfl, Nat.le_of_ble_eq_true rfl⟩ rfl rfl ⟨Nat.le_of_ble_eq_true rfl, Nat.le_of_ble_eq_true rfl⟩ hP hD2.1.1.1 hD2.2.1 rfl rfl rfl hl.1 rfl (Nat.le_of_ble_eq_true rfl) dM_refine_84) hS hA (fun r39 f38 H locs hq84 hP hS => ?_)
              obtain ⟨hr40, hD40, hs40⟩ := hq84
              have ha40 := ha3.trans (SmA.of3 (Sm3.ofO hs40))
              refine ret_i C0 hP hS ⟨_, ha40, Or.inr (Or.inl ⟨hq9, rfl, ⟨_, _, _, _, _, _, ka, kc, _, _, _, hfe, hka, hkc, hD40⟩, fun i2 j2 e2 e3 h2 h3 => ?_⟩)⟩ dM_refine_87
              obtain rfl := (nI_eq (by omega) (by omega)).mp e2
              obtain rfl := (nI_eq (by omega) (by omega)).mp e3
              rw [(nI_eq (by omega) (by omega)).mp c79]; omega
          · have c55 : (q_in k (-1000) (nI 1000)) = false := kb_0.mp c55
            refine lv_aload_n hx hb dM_refine_58 rfl (lv_at hl 0 rfl) ?_
            refine lv_iconst (v := nI 1) hx hb dM_refine_59 (by decide) ?_
            refine then_i (run_V (n := 1) (As := [.int (nI 1)]) (rest := []) C0 (m_raise hn hD2) gw700 gw697 gw699 gsM_raise gw7 (by decide +kernel) ⟨Nat.le_of_ble_eq_true rfl, Nat.le_of_ble_eq_true rfl⟩ rfl rfl ⟨Nat.le_of_ble_eq_true rfl, Nat.le_of_ble_eq_true rfl⟩ hP hD2.1.1.1 hD2.2.1 rfl rfl rfl hl.1 rfl (Nat.le_of_ble_eq_true rfl) dM_refine_60) hS hA (fun r42 f41 H locs hq60 hP hS => ?_)
            obtain ⟨hr43, hD43, hs43⟩ := hq60
            have ha43 := ha3.trans (SmA.of3 (Sm3.ofO hs43))
            have hq9 : q_rf x kd a b k = false := by unfold q_rf q_df; rw [nb_f c9, c18, c29, c41, c55]; simp
            exact ret_i C0 hP hS ⟨_, ha43, Or.inl ⟨hq9, rfl, ⟨_, _, _, _, _, _, ka, kc, _, _, _, hfe, hka, hkc, hD43⟩⟩⟩ dM_refine_63
