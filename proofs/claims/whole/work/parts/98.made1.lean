/-! Constructors: Statement, Known, Relations, the model. -/
theorem n9 {L L2 : List Nat} {q : Nat} (h : ∀ a ∈ L, a ∈ L2) (hq : q ∉ L2) : q ∉ L := fun h9 => hq (h _ h9)
set_option maxRecDepth 100000 in
set_option maxHeartbeats 4000000 in
theorem n_S_init {l : Launch} {D : va_G} {tys : List (ClassId × FieldType)} {L : List Nat} {f : Nat → va_E} {sz h : Nat} (hn : L.Nodup) (hh : h ∈ L) (h1 : f h = .inr (3, [.int 0, .int 0, .int 0, .int 0, .int 0, .int 0])) : MetG l yS_init wS_init ({ frames := 1, cells := 0, slots := 0, locals := 14 } : Room) D tys L f sz h (fun u => u.2.1 h = f h) 0 0 := by
  refine metg_of "LiquidChecker$Statement" (by decide) rfl rfl (Nat.le_of_ble_eq_true rfl) ?_
  intro pgm e s m below meth cd ls C0 hsz hK hP hl
  obtain ⟨hx, hb, hml, hown, hg, hr, hlocks, hnm9, hN, hAo⟩ := id C0
  have hA : ∀ a ∈ L, gA L sz a := fun _ h => Or.inl h
  have hA0 : ∀ q, s.heap.size ≤ q → gA L sz q := fun q h9 => Or.inr (by rw [← hsz]; exact h9)
  have w9 : ∀ {q : Nat}, gA L sz q → gA L sz q := fun h9 => h9
  have hG : Gro L f tys h sz (L, f, tys) := Gro.rfl2 hn
  have hG0 : ∀ a ∈ L, a ∈ L := fun _ h9 => h9
  obtain ⟨H, hH⟩ : ∃ z, z = s.heap := ⟨_, rfl⟩
  have hP : va_P D zCl (va_pl L f) H := by rw [hH]; exact hP
  have hS : va_S (gA L sz) s.heap H [] := by rw [hH]; exact va_S.rf
  rw [← hH]
  have hl : lv_has ls 1 [(0, .ref h)] := hl
  refine lv_aload_n hx hb dS_init_0 rfl (lv_at hl 0 rfl) ?_
  refine W.objInit hx hb hown (hg _ gw123) (hg _ gw25) (hg _ gw26) rfl (hl.1.trans hml.symm) rfl dS_init_1 (Nat.le_of_ble_eq_true rfl) (Nat.le_of_ble_eq_true rfl) ?_
  exact ret_g C0 hK hP hS ⟨hG, rfl⟩ dS_init_4
set_option maxRecDepth 100000 in
set_option maxHeartbeats 4000000 in
theorem n_K_init {l : Launch} {D : va_G} {tys : List (ClassId × FieldType)} {L : List Nat} {f : Nat → va_E} {sz h : Nat} (hn : L.Nodup) (hh : h ∈ L) (h1 : f h = .inr (1, [.null, .int 0])) : MetG l yK_init wK_init ({ frames := 1, cells := 1, slots := 144, locals := 14 } : Room) D tys L f sz h (fun u => ∃ b, b ∉ L ∧ b ∈ u.1 ∧ u.2.1 h = .inr (1, [.ref b, .int 0]) ∧ mm_I u.2.2 u.2.1 b 144 (fun _ => 0)) 1 144 := by
  refine metg_of "LiquidChecker$Known" (by decide) rfl rfl (Nat.le_of_ble_eq_true rfl) ?_
  intro pgm e s m below meth cd ls C0 hsz hK hP hl
  obtain ⟨hx, hb, hml, hown, hg, hr, hlocks, hnm9, hN, hAo⟩ := id C0
  have hA : ∀ a ∈ L, gA L sz a := fun _ h => Or.inl h
  have hA0 : ∀ q, s.heap.size ≤ q → gA L sz q := fun q h9 => Or.inr (by rw [← hsz]; exact h9)
  have w9 : ∀ {q : Nat}, gA L sz q → gA L sz q := fun h9 => h9
  have hG : Gro L f tys h sz (L, f, tys) := Gro.rfl2 hn
  have hG0 : ∀ a ∈ L, a ∈ L := fun _ h9 => h9
  obtain ⟨H, hH⟩ : ∃ z, z = s.heap := ⟨_, rfl⟩
  have hP : va_P D zCl (va_pl L f) H := by rw [hH]; exact hP
  have hS : va_S (gA L sz) s.heap H [] := by rw [hH]; exact va_S.rf
  rw [← hH]
  have hl : lv_has ls 1 [(0, .ref h)] := hl
  refine lv_aload_n hx hb dK_init_0 rfl (lv_at hl 0 rfl) ?_
  refine W.objInit hx hb hown (hg _ gw40) (hg _ gw25) (hg _ gw26) rfl (hl.1.trans hml.symm) rfl dK_init_1 (Nat.le_of_ble_eq_true rfl) (Nat.le_of_ble_eq_true rfl) ?_
  refine lv_aload_n hx hb dK_init_4 rfl (lv_at hl 0 rfl) ?_
  refine lv_sipush (v := nI 144) hx hb dK_init_5 (by decide) ?_
  refine mg_newa (atype := .int) (a0 := (144, .inl (fun _ => 0))) (ty := .int) hx hb (hg _ gw50) rfl hK hP hn hA hS hA0 (fun _ => rfl) (by decide +kernel) (nI_clamp (by omega)) (by decide) (Nat.le_of_ble_eq_true rfl) (Nat.le_of_ble_eq_true rfl) dK_init_8 (fun q1 cq1 H hqq1 hAq1 hK hP hS => ?_)
  obtain ⟨L2, eL2⟩ : ∃ z, z = L ++ [q1] := ⟨_, rfl⟩
  obtain ⟨f2, ef2⟩ : ∃ z, z = va_up f q1 (.inl (cq1, 144, .inl (fun _ => 0))) := ⟨_, rfl⟩
  rw [← eL2, ← ef2] at hP
  obtain ⟨t2, et2⟩ : ∃ z, z = tys ++ [(cq1, .int)] := ⟨_, rfl⟩
  rw [← et2] at hK
  have hy2 : ∀ z ∈ tys, z ∈ t2 := fun z hz => by rw [et2]; exact List.mem_append_left _ hz
  have hi2 : ∀ z ∈ L, z ∈ L2 := fun z hz => by rw [eL2]; exact List.mem_append_left _ hz
  have he2 : ∀ z ∈ L, f2 z = f z := fun z hz => by rw [ef2]; exact va_up_ne _ _ (fun e => hqq1 (e ▸ hz))
  have hG : Gro L f tys h sz (L2, f2, t2) := by rw [eL2, ef2, et2]; exact (hG.new hqq1 (w9 hAq1)).ty
  have hn : L2.Nodup := hG.1
  have hA : ∀ a ∈ L2, (gA L sz) a := fun a ha => by rw [eL2] at ha; rcases List.mem_append.mp ha with h9 | h9; exact hA a h9; rw [List.mem_singleton.mp h9]; exact hAq1
  have i3 : h ∈ L2 := hi2 _ hh
  have p4 : f2 h = .inr (1, [.null, .int 0]) := (he2 _ hh).trans h1
  have iqq1 : q1 ∈ L2 := by rw [eL2]; exact List.mem_append_right _ (List.mem_singleton.mpr rfl)
  have nqq1 : q1 ∉ L := n9 hG0 hqq1
  have hG0 : ∀ a ∈ L, a ∈ L2 := fun a ha => (hG.2.2.1 a ha).1
  have pqq1 : mm_I t2 f2 q1 144 (fun _ => 0) := ⟨cq1, by rw [ef2]; exact va_up_self _ _ _, by rw [et2]; exact List.mem_append_right _ (List.mem_singleton.mpr rfl)⟩
  refine mg_putF (v := .ref q1) (ty := .array .int) hx hb hg inK tyK tyK_ok nmK hown hK hn hA hP hS i3 p4 rfl 0 (by decide) (hg _ gw41) (fun _ h9 => h9) rfl hnm9 rfl (by decide +kernel) rfl rfl (Nat.le_of_ble_eq_true rfl) dK_init_10 (fun H locs hP hS => ?_)
  obtain ⟨f5, hf5⟩ : ∃ z, z = va_up f2 h (.inr (1, [.ref q1, .int 0])) := ⟨_, rfl⟩
  have hP : va_P D zCl (va_pl L2 f5) H := by rw [hf5]; exact hP
  have hs6 : Same1 f2 f5 h := fun z hz => by rw [hf5, va_up_ne _ _ hz]
  have hG : Gro L f tys h sz (L2, f5, t2) := hG.put (Or.inl rfl) hs6
  have p7 : mm_I t2 f5 q1 144 (fun _ => 0) := pqq1.eq (hs6 _ (Ne.symm (mm_IO pqq1 p4)))
  have p8 : f5 h = .inr (1, [.ref q1, .int 0]) := by rw [hf5]; exact va_up_self _ _ _
  exact ret_g C0 hK hP hS ⟨hG, q1, nqq1, iqq1, p8, p7⟩ dK_init_13
set_option maxRecDepth 100000 in
set_option maxHeartbeats 4000000 in
theorem n_R_init {l : Launch} {D : va_G} {tys : List (ClassId × FieldType)} {L : List Nat} {f : Nat → va_E} {sz h : Nat} (hn : L.Nodup) (hh : h ∈ L) (h1 : f h = .inr (2, [.null, .null, .null, .int 0])) : MetG l yR_init wR_init ({ frames := 1, cells := 3, slots := 12, locals := 14 } : Room) D tys L f sz h (fun u => ∃ ra rb rk, (ra ∉ L ∧ rb ∉ L ∧ rk ∉ L) ∧ (ra ∈ u.1 ∧ rb ∈ u.1 ∧ rk ∈ u.1) ∧ (ra ≠ rb ∧ ra ≠ rk ∧ rb ≠ rk) ∧ u.2.1 h = .inr (2, [.ref ra, .ref rb, .ref rk, .int 0]) ∧ mm_I u.2.2 u.2.1 ra 4 (fun _ => 0) ∧ mm_I u.2.2 u.2.1 rb 4 (fun _ => 0) ∧ mm_I u.2.2 u.2.1 rk 4 (fun _ => 0)) 3 12 := by
  refine metg_of "LiquidChecker$Relations" (by decide) rfl rfl (Nat.le_of_ble_eq_true rfl) ?_
  intro pgm e s m below meth cd ls C0 hsz hK hP hl
  obtain ⟨hx, hb, hml, hown, hg, hr, hlocks, hnm9, hN, hAo⟩ := id C0
  have hA : ∀ a ∈ L, gA L sz a := fun _ h => Or.inl h
  have hA0 : ∀ q, s.heap.size ≤ q → gA L sz q := fun q h9 => Or.inr (by rw [← hsz]; exact h9)
  have w9 : ∀ {q : Nat}, gA L sz q → gA L sz q := fun h9 => h9
  have hG : Gro L f tys h sz (L, f, tys) := Gro.rfl2 hn
  have hG0 : ∀ a ∈ L, a ∈ L := fun _ h9 => h9
  obtain ⟨H, hH⟩ : ∃ z, z = s.heap := ⟨_, rfl⟩
  have hP : va_P D zCl (va_pl L f) H := by rw [hH]; exact hP
  have hS : va_S (gA L sz) s.heap H [] := by rw [hH]; exact va_S.rf
  rw [← hH]
  have hl : lv_has ls 1 [(0, .ref h)] := hl
  refine lv_aload_n hx hb dR_init_0 rfl (lv_at hl 0 rfl) ?_
  refine W.objInit hx hb hown (hg _ gw101) (hg _ gw25) (hg _ gw26) rfl (hl.1.trans hml.symm) rfl dR_init_1 (Nat.le_of_ble_eq_true rfl) (Nat.le_of_ble_eq_true rfl) ?_
  refine lv_aload_n hx hb dR_init_4 rfl (lv_at hl 0 rfl) ?_
  refine lv_iconst (v := nI 4) hx hb dR_init_5 (by decide) ?_
  refine mg_newa (atype := .int) (a0 := (4, .inl (fun _ => 0))) (ty := .int) hx hb (hg _ gw50) rfl hK hP hn hA hS hA0 (fun _ => rfl) (by decide +kernel) (nI_clamp (by omega)) (by decide) (Nat.le_of_ble_eq_true rfl) (Nat.le_of_ble_eq_true rfl) dR_init_6 (fun q1 cq1 H hqq1 hAq1 hK hP hS => ?_)
  have ne_h_q1 : h ≠ q1 := fun e => hqq1 (e ▸ hh)
  obtain ⟨L2, eL2⟩ : ∃ z, z = L ++ [q1] := ⟨_, rfl⟩
  obtain ⟨f2, ef2⟩ : ∃ z, z = va_up f q1 (.inl (cq1, 4, .inl (fun _ => 0))) := ⟨_, rfl⟩
  rw [← eL2, ← ef2] at hP
  obtain ⟨t2, et2⟩ : ∃ z, z = tys ++ [(cq1, .int)] := ⟨_, rfl⟩
  rw [← et2] at hK
  have hy2 : ∀ z ∈ tys, z ∈ t2 := fun z hz => by rw [et2]; exact List.mem_append_left _ hz
  have hi2 : ∀ z ∈ L, z ∈ L2 := fun z hz => by rw [eL2]; exact List.mem_append_left _ hz
  have he2 : ∀ z ∈ L, f2 z = f z := fun z hz => by rw [ef2]; exact va_up_ne _ _ (fun e => hqq1 (e ▸ hz))
  have hG : Gro L f tys h sz (L2, f2, t2) := by rw [eL2, ef2, et2]; exact (hG.new hqq1 (w9 hAq1)).ty
  have hn : L2.Nodup := hG.1
  have hA : ∀ a ∈ L2, (gA L sz) a := fun a ha => by rw [eL2] at ha; rcases List.mem_append.mp ha with h9 | h9; exact hA a h9; rw [List.mem_singleton.mp h9]; exact hAq1
  have i3 : h ∈ L2 := hi2 _ hh
  have p4 : f2 h = .inr (2, [.null, .null, .null, .int 0]) := (he2 _ hh).trans h1
  have iqq1 : q1 ∈ L2 := by rw [eL2]; exact List.mem_append_right _ (List.mem_singleton.mpr rfl)
  have nqq1 : q1 ∉ L := n9 hG0 hqq1
  have hG0 : ∀ a ∈ L, a ∈ L2 := fun a ha => (hG.2.2.1 a ha).1
  have pqq1 : mm_I t2 f2 q1 4 (fun _ => 0) := ⟨cq1, by rw [ef2]; exact va_up_self _ _ _, by rw [et2]; exact List.mem_append_right _ (List.mem_singleton.mpr rfl)⟩
  refine mg_putF (v := .ref q1) (ty := .array .int) hx hb hg inR tyR tyR_ok nmR hown hK hn hA hP hS i3 p4 rfl 0 (by decide) (hg _ gw102) (fun _ h9 => h9) rfl hnm9 rfl (by decide +kernel) rfl rfl (Nat.le_of_ble_eq_true rfl) dR_init_8 (fun H locs hP hS => ?_)
  obtain ⟨f5, hf5⟩ : ∃ z, z = va_up f2 h (.inr (2, [.ref q1, .null, .null, .int 0])) := ⟨_, rfl⟩
  have hP : va_P D zCl (va_pl L2 f5) H := by rw [hf5]; exact hP
  have hs6 : Same1 f2 f5 h := fun z hz => by rw [hf5, va_up_ne _ _ hz]
  have hG : Gro L f tys h sz (L2, f5, t2) := hG.put (Or.inl rfl) hs6
  have p7 : mm_I t2 f5 q1 4 (fun _ => 0) := pqq1.eq (hs6 _ (Ne.symm ne_h_q1))
  have p8 : f5 h = .inr (2, [.ref q1, .null, .null, .int 0]) := by rw [hf5]; exact va_up_self _ _ _
  refine lv_aload_n hx hb dR_init_11 rfl (lv_at hl 0 rfl) ?_
  refine lv_iconst (v := nI 4) hx hb dR_init_12 (by decide) ?_
  refine mg_newa (atype := .int) (a0 := (4, .inl (fun _ => 0))) (ty := .int) hx hb (hg _ gw50) rfl hK hP hn hA hS hA0 (fun _ => rfl) (by decide +kernel) (nI_clamp (by omega)) (by decide) (Nat.le_of_ble_eq_true rfl) (Nat.le_of_ble_eq_true rfl) dR_init_13 (fun q9 cq9 H hqq9 hAq9 hK hP hS => ?_)
  have ne_q1_q9 : q1 ≠ q9 := fun e => hqq9 (e ▸ iqq1)
  have ne_h_q9 : h ≠ q9 := fun e => hqq9 (e ▸ i3)
  obtain ⟨L10, eL10⟩ : ∃ z, z = L2 ++ [q9] := ⟨_, rfl⟩
  obtain ⟨f10, ef10⟩ : ∃ z, z = va_up f5 q9 (.inl (cq9, 4, .inl (fun _ => 0))) := ⟨_, rfl⟩
  rw [← eL10, ← ef10] at hP
  obtain ⟨t10, et10⟩ : ∃ z, z = t2 ++ [(cq9, .int)] := ⟨_, rfl⟩
  rw [← et10] at hK
  have hy10 : ∀ z ∈ t2, z ∈ t10 := fun z hz => by rw [et10]; exact List.mem_append_left _ hz
  have hi10 : ∀ z ∈ L2, z ∈ L10 := fun z hz => by rw [eL10]; exact List.mem_append_left _ hz
  have he10 : ∀ z ∈ L2, f10 z = f5 z := fun z hz => by rw [ef10]; exact va_up_ne _ _ (fun e => hqq9 (e ▸ hz))
  have hG : Gro L f tys h sz (L10, f10, t10) := by rw [eL10, ef10, et10]; exact (hG.new hqq9 (w9 hAq9)).ty
  have hn : L10.Nodup := hG.1
  have hA : ∀ a ∈ L10, (gA L sz) a := fun a ha => by rw [eL10] at ha; rcases List.mem_append.mp ha with h9 | h9; exact hA a h9; rw [List.mem_singleton.mp h9]; exact hAq9
  have i11 : q1 ∈ L10 := hi10 _ iqq1
  have p12 : mm_I t10 f10 q1 4 (fun _ => 0) := (p7.eq (he10 _ iqq1)).more hy10
  have i13 : h ∈ L10 := hi10 _ i3
  have p14 : f10 h = .inr (2, [.ref q1, .null, .null, .int 0]) := (he10 _ i3).trans p8
  have iqq9 : q9 ∈ L10 := by rw [eL10]; exact List.mem_append_right _ (List.mem_singleton.mpr rfl)
  have nqq9 : q9 ∉ L := n9 hG0 hqq9
  have hG0 : ∀ a ∈ L, a ∈ L10 := fun a ha => (hG.2.2.1 a ha).1
  have pqq9 : mm_I t10 f10 q9 4 (fun _ => 0) := ⟨cq9, by rw [ef10]; exact va_up_self _ _ _, by rw [et10]; exact List.mem_append_right _ (List.mem_singleton.mpr rfl)⟩
  refine mg_putF (v := .ref q9) (ty := .array .int) hx hb hg inR tyR tyR_ok nmR hown hK hn hA hP hS i13 p14 rfl 1 (by decide) (hg _ gw103) (fun _ h9 => h9) rfl hnm9 rfl (by decide +kernel) rfl rfl (Nat.le_of_ble_eq_true rfl) dR_init_15 (fun H locs hP hS => ?_)
  obtain ⟨f15, hf15⟩ : ∃ z, z = va_up f10 h (.inr (2, [.ref q1, .ref q9, .null, .int 0])) := ⟨_, rfl⟩
  have hP : va_P D zCl (va_pl L10 f15) H := by rw [hf15]; exact hP
  have hs16 : Same1 f10 f15 h := fun z hz => by rw [hf15, va_up_ne _ _ hz]
  have hG : Gro L f tys h sz (L10, f15, t10) := hG.put (Or.inl rfl) hs16
  have p17 : mm_I t10 f15 q1 4 (fun _ => 0) := p12.eq (hs16 _ (Ne.symm ne_h_q1))
  have p18 : mm_I t10 f15 q9 4 (fun _ => 0) := pqq9.eq (hs16 _ (Ne.symm ne_h_q9))
  have p19 : f15 h = .inr (2, [.ref q1, .ref q9, .null, .int 0]) := by rw [hf15]; exact va_up_self _ _ _
  refine lv_aload_n hx hb dR_init_18 rfl (lv_at hl 0 rfl) ?_
  refine lv_iconst (v := nI 4) hx hb dR_init_19 (by decide) ?_
  refine mg_newa (atype := .int) (a0 := (4, .inl (fun _ => 0))) (ty := .int) hx hb (hg _ gw50) rfl hK hP hn hA hS hA0 (fun _ => rfl) (by decide +kernel) (nI_clamp (by omega)) (by decide) (Nat.le_of_ble_eq_true rfl) (Nat.le_of_ble_eq_true rfl) dR_init_20 (fun q20 cq20 H hqq20 hAq20 hK hP hS => ?_)
  have ne_q1_q20 : q1 ≠ q20 := fun e => hqq20 (e ▸ i11)
  have ne_q9_q20 : q9 ≠ q20 := fun e => hqq20 (e ▸ iqq9)
  have ne_h_q20 : h ≠ q20 := fun e => hqq20 (e ▸ i13)
  obtain ⟨L21, eL21⟩ : ∃ z, z = L10 ++ [q20] := ⟨_, rfl⟩
  obtain ⟨f21, ef21⟩ : ∃ z, z = va_up f15 q20 (.inl (cq20, 4, .inl (fun _ => 0))) := ⟨_, rfl⟩
  rw [← eL21, ← ef21] at hP
  obtain ⟨t21, et21⟩ : ∃ z, z = t10 ++ [(cq20, .int)] := ⟨_, rfl⟩
  rw [← et21] at hK
  have hy21 : ∀ z ∈ t10, z ∈ t21 := fun z hz => by rw [et21]; exact List.mem_append_left _ hz
  have hi21 : ∀ z ∈ L10, z ∈ L21 := fun z hz => by rw [eL21]; exact List.mem_append_left _ hz
  have he21 : ∀ z ∈ L10, f21 z = f15 z := fun z hz => by rw [ef21]; exact va_up_ne _ _ (fun e => hqq20 (e ▸ hz))
  have hG : Gro L f tys h sz (L21, f21, t21) := by rw [eL21, ef21, et21]; exact (hG.new hqq20 (w9 hAq20)).ty
  have hn : L21.Nodup := hG.1
  have hA : ∀ a ∈ L21, (gA L sz) a := fun a ha => by rw [eL21] at ha; rcases List.mem_append.mp ha with h9 | h9; exact hA a h9; rw [List.mem_singleton.mp h9]; exact hAq20
  have i22 : q1 ∈ L21 := hi21 _ i11
  have p23 : mm_I t21 f21 q1 4 (fun _ => 0) := (p17.eq (he21 _ i11)).more hy21
  have i24 : q9 ∈ L21 := hi21 _ iqq9
  have p25 : mm_I t21 f21 q9 4 (fun _ => 0) := (p18.eq (he21 _ iqq9)).more hy21
  have i26 : h ∈ L21 := hi21 _ i13
  have p27 : f21 h = .inr (2, [.ref q1, .ref q9, .null, .int 0]) := (he21 _ i13).trans p19
  have iqq20 : q20 ∈ L21 := by rw [eL21]; exact List.mem_append_right _ (List.mem_singleton.mpr rfl)
  have nqq20 : q20 ∉ L := n9 hG0 hqq20
  have hG0 : ∀ a ∈ L, a ∈ L21 := fun a ha => (hG.2.2.1 a ha).1
  have pqq20 : mm_I t21 f21 q20 4 (fun _ => 0) := ⟨cq20, by rw [ef21]; exact va_up_self _ _ _, by rw [et21]; exact List.mem_append_right _ (List.mem_singleton.mpr rfl)⟩
  refine mg_putF (v := .ref q20) (ty := .array .int) hx hb hg inR tyR tyR_ok nmR hown hK hn hA hP hS i26 p27 rfl 2 (by decide) (hg _ gw104) (fun _ h9 => h9) rfl hnm9 rfl (by decide +kernel) rfl rfl (Nat.le_of_ble_eq_true rfl) dR_init_22 (fun H locs hP hS => ?_)
  obtain ⟨f28, hf28⟩ : ∃ z, z = va_up f21 h (.inr (2, [.ref q1, .ref q9, .ref q20, .int 0])) := ⟨_, rfl⟩
  have hP : va_P D zCl (va_pl L21 f28) H := by rw [hf28]; exact hP
  have hs29 : Same1 f21 f28 h := fun z hz => by rw [hf28, va_up_ne _ _ hz]
  have hG : Gro L f tys h sz (L21, f28, t21) := hG.put (Or.inl rfl) hs29
  have p30 : mm_I t21 f28 q1 4 (fun _ => 0) := p23.eq (hs29 _ (Ne.symm ne_h_q1))
  have p31 : mm_I t21 f28 q9 4 (fun _ => 0) := p25.eq (hs29 _ (Ne.symm ne_h_q9))
  have p32 : mm_I t21 f28 q20 4 (fun _ => 0) := pqq20.eq (hs29 _ (Ne.symm ne_h_q20))
  have p33 : f28 h = .inr (2, [.ref q1, .ref q9, .ref q20, .int 0]) := by rw [hf28]; exact va_up_self _ _ _
  exact ret_g C0 hK hP hS ⟨hG, q1, q9, q20, ⟨nqq1, nqq9, nqq20⟩, ⟨i22, i24, iqq20⟩, ⟨ne_q1_q9, ne_q1_q20, ne_q9_q20⟩, p33, p30, p31, p32⟩ dR_init_25
set_option maxRecDepth 100000 in
set_option maxHeartbeats 4000000 in
theorem n_M_init {l : Launch} {D : va_G} {tys : List (ClassId × FieldType)} {L : List Nat} {f : Nat → va_E} {sz h : Nat} (hn : L.Nodup) (hh : h ∈ L) (h1 : f h = .inr (6, [.int 0, .null, .null, .null, .null, .null, .null, .null, .null, .null, .null, .null, .null, .null, .null, .null, .null, .null, .int 0, .int 0, .int 0, .int 0, .int 0, .null, .int 0, .int 0, .int 0, .long 0, .int 0])) : MetG l yM_init wM_init ({ frames := 1, cells := 18, slots := 838, locals := 14 } : Room) D tys L f sz h (fun u => ∃ ad ap cm, (∀ k, k < 16 → ad k ∉ L) ∧ ap ∉ L ∧ cm ∉ L ∧ (∀ i j, i < 16 → j < 16 → i ≠ j → ad i ≠ ad j) ∧ MD u.2.2 u.1 u.2.1 h ap cm ad (fun _ _ => 0) 0 0 0 0 0 0 0 0 0 0 0 (fun _ => 0)) 18 838 := by
  refine metg_of "LiquidCheckerModel" (by decide) rfl rfl (Nat.le_of_ble_eq_true rfl) ?_
  intro pgm e s m below meth cd ls C0 hsz hK hP hl
  obtain ⟨hx, hb, hml, hown, hg, hr, hlocks, hnm9, hN, hAo⟩ := id C0
  have hA : ∀ a ∈ L, gA L sz a := fun _ h => Or.inl h
  have hA0 : ∀ q, s.heap.size ≤ q → gA L sz q := fun q h9 => Or.inr (by rw [← hsz]; exact h9)
  have w9 : ∀ {q : Nat}, gA L sz q → gA L sz q := fun h9 => h9
  have hG : Gro L f tys h sz (L, f, tys) := Gro.rfl2 hn
  have hG0 : ∀ a ∈ L, a ∈ L := fun _ h9 => h9
  obtain ⟨H, hH⟩ : ∃ z, z = s.heap := ⟨_, rfl⟩
  have hP : va_P D zCl (va_pl L f) H := by rw [hH]; exact hP
  have hS : va_S (gA L sz) s.heap H [] := by rw [hH]; exact va_S.rf
  rw [← hH]
  have hl : lv_has ls 1 [(0, .ref h)] := hl
  refine lv_aload_n hx hb dM_init_0 rfl (lv_at hl 0 rfl) ?_
  refine W.objInit hx hb hown (hg _ gw592) (hg _ gw25) (hg _ gw26) rfl (hl.1.trans hml.symm) rfl dM_init_1 (Nat.le_of_ble_eq_true rfl) (Nat.le_of_ble_eq_true rfl) ?_
  refine lv_aload_n hx hb dM_init_4 rfl (lv_at hl 0 rfl) ?_
  refine lv_bipush (v := nI 32) hx hb dM_init_5 (by decide) ?_
  refine mg_newa (atype := .int) (a0 := (32, .inl (fun _ => 0))) (ty := .int) hx hb (hg _ gw50) rfl hK hP hn hA hS hA0 (fun _ => rfl) (by decide +kernel) (nI_clamp (by omega)) (by decide) (Nat.le_of_ble_eq_true rfl) (Nat.le_of_ble_eq_true rfl) dM_init_7 (fun q1 cq1 H hqq1 hAq1 hK hP hS => ?_)
  have ne_h_q1 : h ≠ q1 := fun e => hqq1 (e ▸ hh)
  obtain ⟨L2, eL2⟩ : ∃ z, z = L ++ [q1] := ⟨_, rfl⟩
  obtain ⟨f2, ef2⟩ : ∃ z, z = va_up f q1 (.inl (cq1, 32, .inl (fun _ => 0))) := ⟨_, rfl⟩
  rw [← eL2, ← ef2] at hP
  obtain ⟨t2, et2⟩ : ∃ z, z = tys ++ [(cq1, .int)] := ⟨_, rfl⟩
  rw [← et2] at hK
  have hy2 : ∀ z ∈ tys, z ∈ t2 := fun z hz => by rw [et2]; exact List.mem_append_left _ hz
  have hi2 : ∀ z ∈ L, z ∈ L2 := fun z hz => by rw [eL2]; exact List.mem_append_left _ hz
  have he2 : ∀ z ∈ L, f2 z = f z := fun z hz => by rw [ef2]; exact va_up_ne _ _ (fun e => hqq1 (e ▸ hz))
  have hG : Gro L f tys h sz (L2, f2, t2) := by rw [eL2, ef2, et2]; exact (hG.new hqq1 (w9 hAq1)).ty
  have hn : L2.Nodup := hG.1
  have hA : ∀ a ∈ L2, (gA L sz) a := fun a ha => by rw [eL2] at ha; rcases List.mem_append.mp ha with h9 | h9; exact hA a h9; rw [List.mem_singleton.mp h9]; exact hAq1
  have i3 : h ∈ L2 := hi2 _ hh
  have p4 : f2 h = .inr (6, [.int 0, .null, .null, .null, .null, .null, .null, .null, .null, .null, .null, .null, .null, .null, .null, .null, .null, .null, .int 0, .int 0, .int 0, .int 0, .int 0, .null, .int 0, .int 0, .int 0, .long 0, .int 0]) := (he2 _ hh).trans h1
  have iqq1 : q1 ∈ L2 := by rw [eL2]; exact List.mem_append_right _ (List.mem_singleton.mpr rfl)
  have nqq1 : q1 ∉ L := n9 hG0 hqq1
  have hG0 : ∀ a ∈ L, a ∈ L2 := fun a ha => (hG.2.2.1 a ha).1
  have pqq1 : mm_I t2 f2 q1 32 (fun _ => 0) := ⟨cq1, by rw [ef2]; exact va_up_self _ _ _, by rw [et2]; exact List.mem_append_right _ (List.mem_singleton.mpr rfl)⟩
  refine mg_putF (v := .ref q1) (ty := .array .int) hx hb hg inM tyM tyM_ok nmM hown hK hn hA hP hS i3 p4 rfl 1 (by decide) (hg _ gw594) (fun _ h9 => h9) rfl hnm9 rfl (by decide +kernel) rfl rfl (Nat.le_of_ble_eq_true rfl) dM_init_9 (fun H locs hP hS => ?_)
  obtain ⟨f5, hf5⟩ : ∃ z, z = va_up f2 h (.inr (6, [.int 0, .ref q1, .null, .null, .null, .null, .null, .null, .null, .null, .null, .null, .null, .null, .null, .null, .null, .null, .int 0, .int 0, .int 0, .int 0, .int 0, .null, .int 0, .int 0, .int 0, .long 0, .int 0])) := ⟨_, rfl⟩
  have hP : va_P D zCl (va_pl L2 f5) H := by rw [hf5]; exact hP
  have hs6 : Same1 f2 f5 h := fun z hz => by rw [hf5, va_up_ne _ _ hz]
  have hG : Gro L f tys h sz (L2, f5, t2) := hG.put (Or.inl rfl) hs6
  have p7 : mm_I t2 f5 q1 32 (fun _ => 0) := pqq1.eq (hs6 _ (Ne.symm ne_h_q1))
  have p8 : f5 h = .inr (6, [.int 0, .ref q1, .null, .null, .null, .null, .null, .null, .null, .null, .null, .null, .null, .null, .null, .null, .null, .null, .int 0, .int 0, .int 0, .int 0, .int 0, .null, .int 0, .int 0, .int 0, .long 0, .int 0]) := by rw [hf5]; exact va_up_self _ _ _
  refine lv_aload_n hx hb dM_init_12 rfl (lv_at hl 0 rfl) ?_
  refine lv_bipush (v := nI 32) hx hb dM_init_13 (by decide) ?_
  refine mg_newa (atype := .int) (a0 := (32, .inl (fun _ => 0))) (ty := .int) hx hb (hg _ gw50) rfl hK hP hn hA hS hA0 (fun _ => rfl) (by decide +kernel) (nI_clamp (by omega)) (by decide) (Nat.le_of_ble_eq_true rfl) (Nat.le_of_ble_eq_true rfl) dM_init_15 (fun q9 cq9 H hqq9 hAq9 hK hP hS => ?_)
  have ne_q1_q9 : q1 ≠ q9 := fun e => hqq9 (e ▸ iqq1)
  have ne_h_q9 : h ≠ q9 := fun e => hqq9 (e ▸ i3)
  obtain ⟨L10, eL10⟩ : ∃ z, z = L2 ++ [q9] := ⟨_, rfl⟩
  obtain ⟨f10, ef10⟩ : ∃ z, z = va_up f5 q9 (.inl (cq9, 32, .inl (fun _ => 0))) := ⟨_, rfl⟩
  rw [← eL10, ← ef10] at hP
  obtain ⟨t10, et10⟩ : ∃ z, z = t2 ++ [(cq9, .int)] := ⟨_, rfl⟩
  rw [← et10] at hK
  have hy10 : ∀ z ∈ t2, z ∈ t10 := fun z hz => by rw [et10]; exact List.mem_append_left _ hz
  have hi10 : ∀ z ∈ L2, z ∈ L10 := fun z hz => by rw [eL10]; exact List.mem_append_left _ hz
  have he10 : ∀ z ∈ L2, f10 z = f5 z := fun z hz => by rw [ef10]; exact va_up_ne _ _ (fun e => hqq9 (e ▸ hz))
  have hG : Gro L f tys h sz (L10, f10, t10) := by rw [eL10, ef10, et10]; exact (hG.new hqq9 (w9 hAq9)).ty
  have hn : L10.Nodup := hG.1
  have hA : ∀ a ∈ L10, (gA L sz) a := fun a ha => by rw [eL10] at ha; rcases List.mem_append.mp ha with h9 | h9; exact hA a h9; rw [List.mem_singleton.mp h9]; exact hAq9
  have i11 : q1 ∈ L10 := hi10 _ iqq1
  have p12 : mm_I t10 f10 q1 32 (fun _ => 0) := (p7.eq (he10 _ iqq1)).more hy10
  have i13 : h ∈ L10 := hi10 _ i3
  have p14 : f10 h = .inr (6, [.int 0, .ref q1, .null, .null, .null, .null, .null, .null, .null, .null, .null, .null, .null, .null, .null, .null, .null, .null, .int 0, .int 0, .int 0, .int 0, .int 0, .null, .int 0, .int 0, .int 0, .long 0, .int 0]) := (he10 _ i3).trans p8
  have iqq9 : q9 ∈ L10 := by rw [eL10]; exact List.mem_append_right _ (List.mem_singleton.mpr rfl)
  have nqq9 : q9 ∉ L := n9 hG0 hqq9
  have hG0 : ∀ a ∈ L, a ∈ L10 := fun a ha => (hG.2.2.1 a ha).1
  have pqq9 : mm_I t10 f10 q9 32 (fun _ => 0) := ⟨cq9, by rw [ef10]; exact va_up_self _ _ _, by rw [et10]; exact List.mem_append_right _ (List.mem_singleton.mpr rfl)⟩
  refine mg_putF (v := .ref q9) (ty := .array .int) hx hb hg inM tyM tyM_ok nmM hown hK hn hA hP hS i13 p14 rfl 2 (by decide) (hg _ gw595) (fun _ h9 => h9) rfl hnm9 rfl (by decide +kernel) rfl rfl (Nat.le_of_ble_eq_true rfl) dM_init_17 (fun H locs hP hS => ?_)
  obtain ⟨f15, hf15⟩ : ∃ z, z = va_up f10 h (.inr (6, [.int 0, .ref q1, .ref q9, .null, .null, .null, .null, .null, .null, .null, .null, .null, .null, .null, .null, .null, .null, .null, .int 0, .int 0, .int 0, .int 0, .int 0, .null, .int 0, .int 0, .int 0, .long 0, .int 0])) := ⟨_, rfl⟩
  have hP : va_P D zCl (va_pl L10 f15) H := by rw [hf15]; exact hP
  have hs16 : Same1 f10 f15 h := fun z hz => by rw [hf15, va_up_ne _ _ hz]
  have hG : Gro L f tys h sz (L10, f15, t10) := hG.put (Or.inl rfl) hs16
  have p17 : mm_I t10 f15 q1 32 (fun _ => 0) := p12.eq (hs16 _ (Ne.symm ne_h_q1))
  have p18 : mm_I t10 f15 q9 32 (fun _ => 0) := pqq9.eq (hs16 _ (Ne.symm ne_h_q9))
  have p19 : f15 h = .inr (6, [.int 0, .ref q1, .ref q9, .null, .null, .null, .null, .null, .null, .null, .null, .null, .null, .null, .null, .null, .null, .null, .int 0, .int 0, .int 0, .int 0, .int 0, .null, .int 0, .int 0, .int 0, .long 0, .int 0]) := by rw [hf15]; exact va_up_self _ _ _
  refine lv_aload_n hx hb dM_init_20 rfl (lv_at hl 0 rfl) ?_
  refine lv_bipush (v := nI 32) hx hb dM_init_21 (by decide) ?_
  refine mg_newa (atype := .int) (a0 := (32, .inl (fun _ => 0))) (ty := .int) hx hb (hg _ gw50) rfl hK hP hn hA hS hA0 (fun _ => rfl) (by decide +kernel) (nI_clamp (by omega)) (by decide) (Nat.le_of_ble_eq_true rfl) (Nat.le_of_ble_eq_true rfl) dM_init_23 (fun q20 cq20 H hqq20 hAq20 hK hP hS => ?_)
  have ne_q1_q20 : q1 ≠ q20 := fun e => hqq20 (e ▸ i11)
  have ne_q9_q20 : q9 ≠ q20 := fun e => hqq20 (e ▸ iqq9)
  have ne_h_q20 : h ≠ q20 := fun e => hqq20 (e ▸ i13)
  obtain ⟨L21, eL21⟩ : ∃ z, z = L10 ++ [q20] := ⟨_, rfl⟩
  obtain ⟨f21, ef21⟩ : ∃ z, z = va_up f15 q20 (.inl (cq20, 32, .inl (fun _ => 0))) := ⟨_, rfl⟩
  rw [← eL21, ← ef21] at hP
  obtain ⟨t21, et21⟩ : ∃ z, z = t10 ++ [(cq20, .int)] := ⟨_, rfl⟩
  rw [← et21] at hK
  have hy21 : ∀ z ∈ t10, z ∈ t21 := fun z hz => by rw [et21]; exact List.mem_append_left _ hz
  have hi21 : ∀ z ∈ L10, z ∈ L21 := fun z hz => by rw [eL21]; exact List.mem_append_left _ hz
  have he21 : ∀ z ∈ L10, f21 z = f15 z := fun z hz => by rw [ef21]; exact va_up_ne _ _ (fun e => hqq20 (e ▸ hz))
  have hG : Gro L f tys h sz (L21, f21, t21) := by rw [eL21, ef21, et21]; exact (hG.new hqq20 (w9 hAq20)).ty
  have hn : L21.Nodup := hG.1
  have hA : ∀ a ∈ L21, (gA L sz) a := fun a ha => by rw [eL21] at ha; rcases List.mem_append.mp ha with h9 | h9; exact hA a h9; rw [List.mem_singleton.mp h9]; exact hAq20
  have i22 : q1 ∈ L21 := hi21 _ i11
  have p23 : mm_I t21 f21 q1 32 (fun _ => 0) := (p17.eq (he21 _ i11)).more hy21
  have i24 : q9 ∈ L21 := hi21 _ iqq9
  have p25 : mm_I t21 f21 q9 32 (fun _ => 0) := (p18.eq (he21 _ iqq9)).more hy21
  have i26 : h ∈ L21 := hi21 _ i13
  have p27 : f21 h = .inr (6, [.int 0, .ref q1, .ref q9, .null, .null, .null, .null, .null, .null, .null, .null, .null, .null, .null, .null, .null, .null, .null, .int 0, .int 0, .int 0, .int 0, .int 0, .null, .int 0, .int 0, .int 0, .long 0, .int 0]) := (he21 _ i13).trans p19
  have iqq20 : q20 ∈ L21 := by rw [eL21]; exact List.mem_append_right _ (List.mem_singleton.mpr rfl)
  have nqq20 : q20 ∉ L := n9 hG0 hqq20
  have hG0 : ∀ a ∈ L, a ∈ L21 := fun a ha => (hG.2.2.1 a ha).1
  have pqq20 : mm_I t21 f21 q20 32 (fun _ => 0) := ⟨cq20, by rw [ef21]; exact va_up_self _ _ _, by rw [et21]; exact List.mem_append_right _ (List.mem_singleton.mpr rfl)⟩
  refine mg_putF (v := .ref q20) (ty := .array .int) hx hb hg inM tyM tyM_ok nmM hown hK hn hA hP hS i26 p27 rfl 3 (by decide) (hg _ gw596) (fun _ h9 => h9) rfl hnm9 rfl (by decide +kernel) rfl rfl (Nat.le_of_ble_eq_true rfl) dM_init_25 (fun H locs hP hS => ?_)
  obtain ⟨f28, hf28⟩ : ∃ z, z = va_up f21 h (.inr (6, [.int 0, .ref q1, .ref q9, .ref q20, .null, .null, .null, .null, .null, .null, .null, .null, .null, .null, .null, .null, .null, .null, .int 0, .int 0, .int 0, .int 0, .int 0, .null, .int 0, .int 0, .int 0, .long 0, .int 0])) := ⟨_, rfl⟩
  have hP : va_P D zCl (va_pl L21 f28) H := by rw [hf28]; exact hP
  have hs29 : Same1 f21 f28 h := fun z hz => by rw [hf28, va_up_ne _ _ hz]
  have hG : Gro L f tys h sz (L21, f28, t21) := hG.put (Or.inl rfl) hs29
  have p30 : mm_I t21 f28 q1 32 (fun _ => 0) := p23.eq (hs29 _ (Ne.symm ne_h_q1))
  have p31 : mm_I t21 f28 q9 32 (fun _ => 0) := p25.eq (hs29 _ (Ne.symm ne_h_q9))
  have p32 : mm_I t21 f28 q20 32 (fun _ => 0) := pqq20.eq (hs29 _ (Ne.symm ne_h_q20))
  have p33 : f28 h = .inr (6, [.int 0, .ref q1, .ref q9, .ref q20, .null, .null, .null, .null, .null, .null, .null, .null, .null, .null, .null, .null, .null, .null, .int 0, .int 0, .int 0, .int 0, .int 0, .null, .int 0, .int 0, .int 0, .long 0, .int 0]) := by rw [hf28]; exact va_up_self _ _ _
  refine lv_aload_n hx hb dM_init_28 rfl (lv_at hl 0 rfl) ?_
  refine lv_bipush (v := nI 8) hx hb dM_init_29 (by decide) ?_
  refine mg_newa (atype := .int) (a0 := (8, .inl (fun _ => 0))) (ty := .int) hx hb (hg _ gw50) rfl hK hP hn hA hS hA0 (fun _ => rfl) (by decide +kernel) (nI_clamp (by omega)) (by decide) (Nat.le_of_ble_eq_true rfl) (Nat.le_of_ble_eq_true rfl) dM_init_31 (fun q34 cq34 H hqq34 hAq34 hK hP hS => ?_)
  have ne_q1_q34 : q1 ≠ q34 := fun e => hqq34 (e ▸ i22)
  have ne_q9_q34 : q9 ≠ q34 := fun e => hqq34 (e ▸ i24)
  have ne_q20_q34 : q20 ≠ q34 := fun e => hqq34 (e ▸ iqq20)
  have ne_h_q34 : h ≠ q34 := fun e => hqq34 (e ▸ i26)
  obtain ⟨L35, eL35⟩ : ∃ z, z = L21 ++ [q34] := ⟨_, rfl⟩
  obtain ⟨f35, ef35⟩ : ∃ z, z = va_up f28 q34 (.inl (cq34, 8, .inl (fun _ => 0))) := ⟨_, rfl⟩
  rw [← eL35, ← ef35] at hP
  obtain ⟨t35, et35⟩ : ∃ z, z = t21 ++ [(cq34, .int)] := ⟨_, rfl⟩
  rw [← et35] at hK
  have hy35 : ∀ z ∈ t21, z ∈ t35 := fun z hz => by rw [et35]; exact List.mem_append_left _ hz
  have hi35 : ∀ z ∈ L21, z ∈ L35 := fun z hz => by rw [eL35]; exact List.mem_append_left _ hz
  have he35 : ∀ z ∈ L21, f35 z = f28 z := fun z hz => by rw [ef35]; exact va_up_ne _ _ (fun e => hqq34 (e ▸ hz))
  have hG : Gro L f tys h sz (L35, f35, t35) := by rw [eL35, ef35, et35]; exact (hG.new hqq34 (w9 hAq34)).ty
  have hn : L35.Nodup := hG.1
  have hA : ∀ a ∈ L35, (gA L sz) a := fun a ha => by rw [eL35] at ha; rcases List.mem_append.mp ha with h9 | h9; exact hA a h9; rw [List.mem_singleton.mp h9]; exact hAq34
  have i36 : q1 ∈ L35 := hi35 _ i22
  have p37 : mm_I t35 f35 q1 32 (fun _ => 0) := (p30.eq (he35 _ i22)).more hy35
  have i38 : q9 ∈ L35 := hi35 _ i24
  have p39 : mm_I t35 f35 q9 32 (fun _ => 0) := (p31.eq (he35 _ i24)).more hy35
  have i40 : q20 ∈ L35 := hi35 _ iqq20
  have p41 : mm_I t35 f35 q20 32 (fun _ => 0) := (p32.eq (he35 _ iqq20)).more hy35
  have i42 : h ∈ L35 := hi35 _ i26
  have p43 : f35 h = .inr (6, [.int 0, .ref q1, .ref q9, .ref q20, .null, .null, .null, .null, .null, .null, .null, .null, .null, .null, .null, .null, .null, .null, .int 0, .int 0, .int 0, .int 0, .int 0, .null, .int 0, .int 0, .int 0, .long 0, .int 0]) := (he35 _ i26).trans p33
  have iqq34 : q34 ∈ L35 := by rw [eL35]; exact List.mem_append_right _ (List.mem_singleton.mpr rfl)
  have nqq34 : q34 ∉ L := n9 hG0 hqq34
  have hG0 : ∀ a ∈ L, a ∈ L35 := fun a ha => (hG.2.2.1 a ha).1
  have pqq34 : mm_I t35 f35 q34 8 (fun _ => 0) := ⟨cq34, by rw [ef35]; exact va_up_self _ _ _, by rw [et35]; exact List.mem_append_right _ (List.mem_singleton.mpr rfl)⟩
  refine mg_putF (v := .ref q34) (ty := .array .int) hx hb hg inM tyM tyM_ok nmM hown hK hn hA hP hS i42 p43 rfl 4 (by decide) (hg _ gw597) (fun _ h9 => h9) rfl hnm9 rfl (by decide +kernel) rfl rfl (Nat.le_of_ble_eq_true rfl) dM_init_33 (fun H locs hP hS => ?_)
  obtain ⟨f44, hf44⟩ : ∃ z, z = va_up f35 h (.inr (6, [.int 0, .ref q1, .ref q9, .ref q20, .ref q34, .null, .null, .null, .null, .null, .null, .null, .null, .null, .null, .null, .null, .null, .int 0, .int 0, .int 0, .int 0, .int 0, .null, .int 0, .int 0, .int 0, .long 0, .int 0])) := ⟨_, rfl⟩
  have hP : va_P D zCl (va_pl L35 f44) H := by rw [hf44]; exact hP
  have hs45 : Same1 f35 f44 h := fun z hz => by rw [hf44, va_up_ne _ _ hz]
  have hG : Gro L f tys h sz (L35, f44, t35) := hG.put (Or.inl rfl) hs45
  have p46 : mm_I t35 f44 q1 32 (fun _ => 0) := p37.eq (hs45 _ (Ne.symm ne_h_q1))
  have p47 : mm_I t35 f44 q9 32 (fun _ => 0) := p39.eq (hs45 _ (Ne.symm ne_h_q9))
  have p48 : mm_I t35 f44 q20 32 (fun _ => 0) := p41.eq (hs45 _ (Ne.symm ne_h_q20))
  have p49 : mm_I t35 f44 q34 8 (fun _ => 0) := pqq34.eq (hs45 _ (Ne.symm ne_h_q34))
  have p50 : f44 h = .inr (6, [.int 0, .ref q1, .ref q9, .ref q20, .ref q34, .null, .null, .null, .null, .null, .null, .null, .null, .null, .null, .null, .null, .null, .int 0, .int 0, .int 0, .int 0, .int 0, .null, .int 0, .int 0, .int 0, .long 0, .int 0]) := by rw [hf44]; exact va_up_self _ _ _
  refine lv_aload_n hx hb dM_init_36 rfl (lv_at hl 0 rfl) ?_
  refine lv_bipush (v := nI 64) hx hb dM_init_37 (by decide) ?_
  refine mg_newa (atype := .int) (a0 := (64, .inl (fun _ => 0))) (ty := .int) hx hb (hg _ gw50) rfl hK hP hn hA hS hA0 (fun _ => rfl) (by decide +kernel) (nI_clamp (by omega)) (by decide) (Nat.le_of_ble_eq_true rfl) (Nat.le_of_ble_eq_true rfl) dM_init_39 (fun q51 cq51 H hqq51 hAq51 hK hP hS => ?_)
  have ne_q1_q51 : q1 ≠ q51 := fun e => hqq51 (e ▸ i36)
  have ne_q9_q51 : q9 ≠ q51 := fun e => hqq51 (e ▸ i38)
  have ne_q20_q51 : q20 ≠ q51 := fun e => hqq51 (e ▸ i40)
  have ne_q34_q51 : q34 ≠ q51 := fun e => hqq51 (e ▸ iqq34)
  have ne_h_q51 : h ≠ q51 := fun e => hqq51 (e ▸ i42)
  obtain ⟨L52, eL52⟩ : ∃ z, z = L35 ++ [q51] := ⟨_, rfl⟩
  obtain ⟨f52, ef52⟩ : ∃ z, z = va_up f44 q51 (.inl (cq51, 64, .inl (fun _ => 0))) := ⟨_, rfl⟩
  rw [← eL52, ← ef52] at hP
  obtain ⟨t52, et52⟩ : ∃ z, z = t35 ++ [(cq51, .int)] := ⟨_, rfl⟩
  rw [← et52] at hK
  have hy52 : ∀ z ∈ t35, z ∈ t52 := fun z hz => by rw [et52]; exact List.mem_append_left _ hz
  have hi52 : ∀ z ∈ L35, z ∈ L52 := fun z hz => by rw [eL52]; exact List.mem_append_left _ hz
  have he52 : ∀ z ∈ L35, f52 z = f44 z := fun z hz => by rw [ef52]; exact va_up_ne _ _ (fun e => hqq51 (e ▸ hz))
  have hG : Gro L f tys h sz (L52, f52, t52) := by rw [eL52, ef52, et52]; exact (hG.new hqq51 (w9 hAq51)).ty
  have hn : L52.Nodup := hG.1
  have hA : ∀ a ∈ L52, (gA L sz) a := fun a ha => by rw [eL52] at ha; rcases List.mem_append.mp ha with h9 | h9; exact hA a h9; rw [List.mem_singleton.mp h9]; exact hAq51
  have i53 : q1 ∈ L52 := hi52 _ i36
  have p54 : mm_I t52 f52 q1 32 (fun _ => 0) := (p46.eq (he52 _ i36)).more hy52
  have i55 : q9 ∈ L52 := hi52 _ i38
  have p56 : mm_I t52 f52 q9 32 (fun _ => 0) := (p47.eq (he52 _ i38)).more hy52
  have i57 : q20 ∈ L52 := hi52 _ i40
  have p58 : mm_I t52 f52 q20 32 (fun _ => 0) := (p48.eq (he52 _ i40)).more hy52
  have i59 : q34 ∈ L52 := hi52 _ iqq34
  have p60 : mm_I t52 f52 q34 8 (fun _ => 0) := (p49.eq (he52 _ iqq34)).more hy52
  have i61 : h ∈ L52 := hi52 _ i42
  have p62 : f52 h = .inr (6, [.int 0, .ref q1, .ref q9, .ref q20, .ref q34, .null, .null, .null, .null, .null, .null, .null, .null, .null, .null, .null, .null, .null, .int 0, .int 0, .int 0, .int 0, .int 0, .null, .int 0, .int 0, .int 0, .long 0, .int 0]) := (he52 _ i42).trans p50
  have iqq51 : q51 ∈ L52 := by rw [eL52]; exact List.mem_append_right _ (List.mem_singleton.mpr rfl)
  have nqq51 : q51 ∉ L := n9 hG0 hqq51
  have hG0 : ∀ a ∈ L, a ∈ L52 := fun a ha => (hG.2.2.1 a ha).1
  have pqq51 : mm_I t52 f52 q51 64 (fun _ => 0) := ⟨cq51, by rw [ef52]; exact va_up_self _ _ _, by rw [et52]; exact List.mem_append_right _ (List.mem_singleton.mpr rfl)⟩
  refine mg_putF (v := .ref q51) (ty := .array .int) hx hb hg inM tyM tyM_ok nmM hown hK hn hA hP hS i61 p62 rfl 5 (by decide) (hg _ gw598) (fun _ h9 => h9) rfl hnm9 rfl (by decide +kernel) rfl rfl (Nat.le_of_ble_eq_true rfl) dM_init_41 (fun H locs hP hS => ?_)
  obtain ⟨f63, hf63⟩ : ∃ z, z = va_up f52 h (.inr (6, [.int 0, .ref q1, .ref q9, .ref q20, .ref q34, .ref q51, .null, .null, .null, .null, .null, .null, .null, .null, .null, .null, .null, .null, .int 0, .int 0, .int 0, .int 0, .int 0, .null, .int 0, .int 0, .int 0, .long 0, .int 0])) := ⟨_, rfl⟩
  have hP : va_P D zCl (va_pl L52 f63) H := by rw [hf63]; exact hP
  have hs64 : Same1 f52 f63 h := fun z hz => by rw [hf63, va_up_ne _ _ hz]
  have hG : Gro L f tys h sz (L52, f63, t52) := hG.put (Or.inl rfl) hs64
  have p65 : mm_I t52 f63 q1 32 (fun _ => 0) := p54.eq (hs64 _ (Ne.symm ne_h_q1))
  have p66 : mm_I t52 f63 q9 32 (fun _ => 0) := p56.eq (hs64 _ (Ne.symm ne_h_q9))
  have p67 : mm_I t52 f63 q20 32 (fun _ => 0) := p58.eq (hs64 _ (Ne.symm ne_h_q20))
  have p68 : mm_I t52 f63 q34 8 (fun _ => 0) := p60.eq (hs64 _ (Ne.symm ne_h_q34))
  have p69 : mm_I t52 f63 q51 64 (fun _ => 0) := pqq51.eq (hs64 _ (Ne.symm ne_h_q51))
  have p70 : f63 h = .inr (6, [.int 0, .ref q1, .ref q9, .ref q20, .ref q34, .ref q51, .null, .null, .null, .null, .null, .null, .null, .null, .null, .null, .null, .null, .int 0, .int 0, .int 0, .int 0, .int 0, .null, .int 0, .int 0, .int 0, .long 0, .int 0]) := by rw [hf63]; exact va_up_self _ _ _
  refine lv_aload_n hx hb dM_init_44 rfl (lv_at hl 0 rfl) ?_
  refine lv_bipush (v := nI 64) hx hb dM_init_45 (by decide) ?_
  refine mg_newa (atype := .int) (a0 := (64, .inl (fun _ => 0))) (ty := .int) hx hb (hg _ gw50) rfl hK hP hn hA hS hA0 (fun _ => rfl) (by decide +kernel) (nI_clamp (by omega)) (by decide) (Nat.le_of_ble_eq_true rfl) (Nat.le_of_ble_eq_true rfl) dM_init_47 (fun q71 cq71 H hqq71 hAq71 hK hP hS => ?_)
  have ne_q1_q71 : q1 ≠ q71 := fun e => hqq71 (e ▸ i53)
  have ne_q9_q71 : q9 ≠ q71 := fun e => hqq71 (e ▸ i55)
  have ne_q20_q71 : q20 ≠ q71 := fun e => hqq71 (e ▸ i57)
  have ne_q34_q71 : q34 ≠ q71 := fun e => hqq71 (e ▸ i59)
  have ne_q51_q71 : q51 ≠ q71 := fun e => hqq71 (e ▸ iqq51)
  have ne_h_q71 : h ≠ q71 := fun e => hqq71 (e ▸ i61)
  obtain ⟨L72, eL72⟩ : ∃ z, z = L52 ++ [q71] := ⟨_, rfl⟩
  obtain ⟨f72, ef72⟩ : ∃ z, z = va_up f63 q71 (.inl (cq71, 64, .inl (fun _ => 0))) := ⟨_, rfl⟩
  rw [← eL72, ← ef72] at hP
  obtain ⟨t72, et72⟩ : ∃ z, z = t52 ++ [(cq71, .int)] := ⟨_, rfl⟩
  rw [← et72] at hK
  have hy72 : ∀ z ∈ t52, z ∈ t72 := fun z hz => by rw [et72]; exact List.mem_append_left _ hz
  have hi72 : ∀ z ∈ L52, z ∈ L72 := fun z hz => by rw [eL72]; exact List.mem_append_left _ hz
  have he72 : ∀ z ∈ L52, f72 z = f63 z := fun z hz => by rw [ef72]; exact va_up_ne _ _ (fun e => hqq71 (e ▸ hz))
  have hG : Gro L f tys h sz (L72, f72, t72) := by rw [eL72, ef72, et72]; exact (hG.new hqq71 (w9 hAq71)).ty
  have hn : L72.Nodup := hG.1
  have hA : ∀ a ∈ L72, (gA L sz) a := fun a ha => by rw [eL72] at ha; rcases List.mem_append.mp ha with h9 | h9; exact hA a h9; rw [List.mem_singleton.mp h9]; exact hAq71
  have i73 : q1 ∈ L72 := hi72 _ i53
  have p74 : mm_I t72 f72 q1 32 (fun _ => 0) := (p65.eq (he72 _ i53)).more hy72
  have i75 : q9 ∈ L72 := hi72 _ i55
  have p76 : mm_I t72 f72 q9 32 (fun _ => 0) := (p66.eq (he72 _ i55)).more hy72
  have i77 : q20 ∈ L72 := hi72 _ i57
  have p78 : mm_I t72 f72 q20 32 (fun _ => 0) := (p67.eq (he72 _ i57)).more hy72
  have i79 : q34 ∈ L72 := hi72 _ i59
  have p80 : mm_I t72 f72 q34 8 (fun _ => 0) := (p68.eq (he72 _ i59)).more hy72
  have i81 : q51 ∈ L72 := hi72 _ iqq51
  have p82 : mm_I t72 f72 q51 64 (fun _ => 0) := (p69.eq (he72 _ iqq51)).more hy72
  have i83 : h ∈ L72 := hi72 _ i61
  have p84 : f72 h = .inr (6, [.int 0, .ref q1, .ref q9, .ref q20, .ref q34, .ref q51, .null, .null, .null, .null, .null, .null, .null, .null, .null, .null, .null, .null, .int 0, .int 0, .int 0, .int 0, .int 0, .null, .int 0, .int 0, .int 0, .long 0, .int 0]) := (he72 _ i61).trans p70
  have iqq71 : q71 ∈ L72 := by rw [eL72]; exact List.mem_append_right _ (List.mem_singleton.mpr rfl)
  have nqq71 : q71 ∉ L := n9 hG0 hqq71
  have hG0 : ∀ a ∈ L, a ∈ L72 := fun a ha => (hG.2.2.1 a ha).1
  have pqq71 : mm_I t72 f72 q71 64 (fun _ => 0) := ⟨cq71, by rw [ef72]; exact va_up_self _ _ _, by rw [et72]; exact List.mem_append_right _ (List.mem_singleton.mpr rfl)⟩
  refine mg_putF (v := .ref q71) (ty := .array .int) hx hb hg inM tyM tyM_ok nmM hown hK hn hA hP hS i83 p84 rfl 6 (by decide) (hg _ gw599) (fun _ h9 => h9) rfl hnm9 rfl (by decide +kernel) rfl rfl (Nat.le_of_ble_eq_true rfl) dM_init_49 (fun H locs hP hS => ?_)
  obtain ⟨f85, hf85⟩ : ∃ z, z = va_up f72 h (.inr (6, [.int 0, .ref q1, .ref q9, .ref q20, .ref q34, .ref q51, .ref q71, .null, .null, .null, .null, .null, .null, .null, .null, .null, .null, .null, .int 0, .int 0, .int 0, .int 0, .int 0, .null, .int 0, .int 0, .int 0, .long 0, .int 0])) := ⟨_, rfl⟩
  have hP : va_P D zCl (va_pl L72 f85) H := by rw [hf85]; exact hP
  have hs86 : Same1 f72 f85 h := fun z hz => by rw [hf85, va_up_ne _ _ hz]
  have hG : Gro L f tys h sz (L72, f85, t72) := hG.put (Or.inl rfl) hs86
  have p87 : mm_I t72 f85 q1 32 (fun _ => 0) := p74.eq (hs86 _ (Ne.symm ne_h_q1))
  have p88 : mm_I t72 f85 q9 32 (fun _ => 0) := p76.eq (hs86 _ (Ne.symm ne_h_q9))
  have p89 : mm_I t72 f85 q20 32 (fun _ => 0) := p78.eq (hs86 _ (Ne.symm ne_h_q20))
  have p90 : mm_I t72 f85 q34 8 (fun _ => 0) := p80.eq (hs86 _ (Ne.symm ne_h_q34))
  have p91 : mm_I t72 f85 q51 64 (fun _ => 0) := p82.eq (hs86 _ (Ne.symm ne_h_q51))
  have p92 : mm_I t72 f85 q71 64 (fun _ => 0) := pqq71.eq (hs86 _ (Ne.symm ne_h_q71))
  have p93 : f85 h = .inr (6, [.int 0, .ref q1, .ref q9, .ref q20, .ref q34, .ref q51, .ref q71, .null, .null, .null, .null, .null, .null, .null, .null, .null, .null, .null, .int 0, .int 0, .int 0, .int 0, .int 0, .null, .int 0, .int 0, .int 0, .long 0, .int 0]) := by rw [hf85]; exact va_up_self _ _ _
  refine lv_aload_n hx hb dM_init_52 rfl (lv_at hl 0 rfl) ?_
  refine lv_bipush (v := nI 64) hx hb dM_init_53 (by decide) ?_
  refine mg_newa (atype := .int) (a0 := (64, .inl (fun _ => 0))) (ty := .int) hx hb (hg _ gw50) rfl hK hP hn hA hS hA0 (fun _ => rfl) (by decide +kernel) (nI_clamp (by omega)) (by decide) (Nat.le_of_ble_eq_true rfl) (Nat.le_of_ble_eq_true rfl) dM_init_55 (fun q94 cq94 H hqq94 hAq94 hK hP hS => ?_)
  have ne_q1_q94 : q1 ≠ q94 := fun e => hqq94 (e ▸ i73)
  have ne_q9_q94 : q9 ≠ q94 := fun e => hqq94 (e ▸ i75)
  have ne_q20_q94 : q20 ≠ q94 := fun e => hqq94 (e ▸ i77)
  have ne_q34_q94 : q34 ≠ q94 := fun e => hqq94 (e ▸ i79)
  have ne_q51_q94 : q51 ≠ q94 := fun e => hqq94 (e ▸ i81)
  have ne_q71_q94 : q71 ≠ q94 := fun e => hqq94 (e ▸ iqq71)
  have ne_h_q94 : h ≠ q94 := fun e => hqq94 (e ▸ i83)
  obtain ⟨L95, eL95⟩ : ∃ z, z = L72 ++ [q94] := ⟨_, rfl⟩
  obtain ⟨f95, ef95⟩ : ∃ z, z = va_up f85 q94 (.inl (cq94, 64, .inl (fun _ => 0))) := ⟨_, rfl⟩
  rw [← eL95, ← ef95] at hP
  obtain ⟨t95, et95⟩ : ∃ z, z = t72 ++ [(cq94, .int)] := ⟨_, rfl⟩
  rw [← et95] at hK
  have hy95 : ∀ z ∈ t72, z ∈ t95 := fun z hz => by rw [et95]; exact List.mem_append_left _ hz
  have hi95 : ∀ z ∈ L72, z ∈ L95 := fun z hz => by rw [eL95]; exact List.mem_append_left _ hz
  have he95 : ∀ z ∈ L72, f95 z = f85 z := fun z hz => by rw [ef95]; exact va_up_ne _ _ (fun e => hqq94 (e ▸ hz))
  have hG : Gro L f tys h sz (L95, f95, t95) := by rw [eL95, ef95, et95]; exact (hG.new hqq94 (w9 hAq94)).ty
  have hn : L95.Nodup := hG.1
  have hA : ∀ a ∈ L95, (gA L sz) a := fun a ha => by rw [eL95] at ha; rcases List.mem_append.mp ha with h9 | h9; exact hA a h9; rw [List.mem_singleton.mp h9]; exact hAq94
  have i96 : q1 ∈ L95 := hi95 _ i73
  have p97 : mm_I t95 f95 q1 32 (fun _ => 0) := (p87.eq (he95 _ i73)).more hy95
  have i98 : q9 ∈ L95 := hi95 _ i75
  have p99 : mm_I t95 f95 q9 32 (fun _ => 0) := (p88.eq (he95 _ i75)).more hy95
  have i100 : q20 ∈ L95 := hi95 _ i77
  have p101 : mm_I t95 f95 q20 32 (fun _ => 0) := (p89.eq (he95 _ i77)).more hy95
  have i102 : q34 ∈ L95 := hi95 _ i79
  have p103 : mm_I t95 f95 q34 8 (fun _ => 0) := (p90.eq (he95 _ i79)).more hy95
  have i104 : q51 ∈ L95 := hi95 _ i81
  have p105 : mm_I t95 f95 q51 64 (fun _ => 0) := (p91.eq (he95 _ i81)).more hy95
  have i106 : q71 ∈ L95 := hi95 _ iqq71
  have p107 : mm_I t95 f95 q71 64 (fun _ => 0) := (p92.eq (he95 _ iqq71)).more hy95
  have i108 : h ∈ L95 := hi95 _ i83
  have p109 : f95 h = .inr (6, [.int 0, .ref q1, .ref q9, .ref q20, .ref q34, .ref q51, .ref q71, .null, .null, .null, .null, .null, .null, .null, .null, .null, .null, .null, .int 0, .int 0, .int 0, .int 0, .int 0, .null, .int 0, .int 0, .int 0, .long 0, .int 0]) := (he95 _ i83).trans p93
  have iqq94 : q94 ∈ L95 := by rw [eL95]; exact List.mem_append_right _ (List.mem_singleton.mpr rfl)
  have nqq94 : q94 ∉ L := n9 hG0 hqq94
  have hG0 : ∀ a ∈ L, a ∈ L95 := fun a ha => (hG.2.2.1 a ha).1
  have pqq94 : mm_I t95 f95 q94 64 (fun _ => 0) := ⟨cq94, by rw [ef95]; exact va_up_self _ _ _, by rw [et95]; exact List.mem_append_right _ (List.mem_singleton.mpr rfl)⟩
  refine mg_putF (v := .ref q94) (ty := .array .int) hx hb hg inM tyM tyM_ok nmM hown hK hn hA hP hS i108 p109 rfl 7 (by decide) (hg _ gw600) (fun _ h9 => h9) rfl hnm9 rfl (by decide +kernel) rfl rfl (Nat.le_of_ble_eq_true rfl) dM_init_57 (fun H locs hP hS => ?_)
  obtain ⟨f110, hf110⟩ : ∃ z, z = va_up f95 h (.inr (6, [.int 0, .ref q1, .ref q9, .ref q20, .ref q34, .ref q51, .ref q71, .ref q94, .null, .null, .null, .null, .null, .null, .null, .null, .null, .null, .int 0, .int 0, .int 0, .int 0, .int 0, .null, .int 0, .int 0, .int 0, .long 0, .int 0])) := ⟨_, rfl⟩
  have hP : va_P D zCl (va_pl L95 f110) H := by rw [hf110]; exact hP
  have hs111 : Same1 f95 f110 h := fun z hz => by rw [hf110, va_up_ne _ _ hz]
  have hG : Gro L f tys h sz (L95, f110, t95) := hG.put (Or.inl rfl) hs111
  have p112 : mm_I t95 f110 q1 32 (fun _ => 0) := p97.eq (hs111 _ (Ne.symm ne_h_q1))
  have p113 : mm_I t95 f110 q9 32 (fun _ => 0) := p99.eq (hs111 _ (Ne.symm ne_h_q9))
  have p114 : mm_I t95 f110 q20 32 (fun _ => 0) := p101.eq (hs111 _ (Ne.symm ne_h_q20))
  have p115 : mm_I t95 f110 q34 8 (fun _ => 0) := p103.eq (hs111 _ (Ne.symm ne_h_q34))
  have p116 : mm_I t95 f110 q51 64 (fun _ => 0) := p105.eq (hs111 _ (Ne.symm ne_h_q51))
  have p117 : mm_I t95 f110 q71 64 (fun _ => 0) := p107.eq (hs111 _ (Ne.symm ne_h_q71))
  have p118 : mm_I t95 f110 q94 64 (fun _ => 0) := pqq94.eq (hs111 _ (Ne.symm ne_h_q94))
  have p119 : f110 h = .inr (6, [.int 0, .ref q1, .ref q9, .ref q20, .ref q34, .ref q51, .ref q71, .ref q94, .null, .null, .null, .null, .null, .null, .null, .null, .null, .null, .int 0, .int 0, .int 0, .int 0, .int 0, .null, .int 0, .int 0, .int 0, .long 0, .int 0]) := by rw [hf110]; exact va_up_self _ _ _
  refine lv_aload_n hx hb dM_init_60 rfl (lv_at hl 0 rfl) ?_
  refine lv_bipush (v := nI 64) hx hb dM_init_61 (by decide) ?_
  refine mg_newa (atype := .int) (a0 := (64, .inl (fun _ => 0))) (ty := .int) hx hb (hg _ gw50) rfl hK hP hn hA hS hA0 (fun _ => rfl) (by decide +kernel) (nI_clamp (by omega)) (by decide) (Nat.le_of_ble_eq_true rfl) (Nat.le_of_ble_eq_true rfl) dM_init_63 (fun q120 cq120 H hqq120 hAq120 hK hP hS => ?_)
  have ne_q1_q120 : q1 ≠ q120 := fun e => hqq120 (e ▸ i96)
  have ne_q9_q120 : q9 ≠ q120 := fun e => hqq120 (e ▸ i98)
  have ne_q20_q120 : q20 ≠ q120 := fun e => hqq120 (e ▸ i100)
  have ne_q34_q120 : q34 ≠ q120 := fun e => hqq120 (e ▸ i102)
  have ne_q51_q120 : q51 ≠ q120 := fun e => hqq120 (e ▸ i104)
  have ne_q71_q120 : q71 ≠ q120 := fun e => hqq120 (e ▸ i106)
  have ne_q94_q120 : q94 ≠ q120 := fun e => hqq120 (e ▸ iqq94)
  have ne_h_q120 : h ≠ q120 := fun e => hqq120 (e ▸ i108)
  obtain ⟨L121, eL121⟩ : ∃ z, z = L95 ++ [q120] := ⟨_, rfl⟩
  obtain ⟨f121, ef121⟩ : ∃ z, z = va_up f110 q120 (.inl (cq120, 64, .inl (fun _ => 0))) := ⟨_, rfl⟩
  rw [← eL121, ← ef121] at hP
  obtain ⟨t121, et121⟩ : ∃ z, z = t95 ++ [(cq120, .int)] := ⟨_, rfl⟩
  rw [← et121] at hK
  have hy121 : ∀ z ∈ t95, z ∈ t121 := fun z hz => by rw [et121]; exact List.mem_append_left _ hz
  have hi121 : ∀ z ∈ L95, z ∈ L121 := fun z hz => by rw [eL121]; exact List.mem_append_left _ hz
  have he121 : ∀ z ∈ L95, f121 z = f110 z := fun z hz => by rw [ef121]; exact va_up_ne _ _ (fun e => hqq120 (e ▸ hz))
  have hG : Gro L f tys h sz (L121, f121, t121) := by rw [eL121, ef121, et121]; exact (hG.new hqq120 (w9 hAq120)).ty
  have hn : L121.Nodup := hG.1
  have hA : ∀ a ∈ L121, (gA L sz) a := fun a ha => by rw [eL121] at ha; rcases List.mem_append.mp ha with h9 | h9; exact hA a h9; rw [List.mem_singleton.mp h9]; exact hAq120
  have i122 : q1 ∈ L121 := hi121 _ i96
  have p123 : mm_I t121 f121 q1 32 (fun _ => 0) := (p112.eq (he121 _ i96)).more hy121
  have i124 : q9 ∈ L121 := hi121 _ i98
  have p125 : mm_I t121 f121 q9 32 (fun _ => 0) := (p113.eq (he121 _ i98)).more hy121
  have i126 : q20 ∈ L121 := hi121 _ i100
  have p127 : mm_I t121 f121 q20 32 (fun _ => 0) := (p114.eq (he121 _ i100)).more hy121
  have i128 : q34 ∈ L121 := hi121 _ i102
  have p129 : mm_I t121 f121 q34 8 (fun _ => 0) := (p115.eq (he121 _ i102)).more hy121
  have i130 : q51 ∈ L121 := hi121 _ i104
  have p131 : mm_I t121 f121 q51 64 (fun _ => 0) := (p116.eq (he121 _ i104)).more hy121
  have i132 : q71 ∈ L121 := hi121 _ i106
  have p133 : mm_I t121 f121 q71 64 (fun _ => 0) := (p117.eq (he121 _ i106)).more hy121
  have i134 : q94 ∈ L121 := hi121 _ iqq94
  have p135 : mm_I t121 f121 q94 64 (fun _ => 0) := (p118.eq (he121 _ iqq94)).more hy121
  have i136 : h ∈ L121 := hi121 _ i108
  have p137 : f121 h = .inr (6, [.int 0, .ref q1, .ref q9, .ref q20, .ref q34, .ref q51, .ref q71, .ref q94, .null, .null, .null, .null, .null, .null, .null, .null, .null, .null, .int 0, .int 0, .int 0, .int 0, .int 0, .null, .int 0, .int 0, .int 0, .long 0, .int 0]) := (he121 _ i108).trans p119
  have iqq120 : q120 ∈ L121 := by rw [eL121]; exact List.mem_append_right _ (List.mem_singleton.mpr rfl)
  have nqq120 : q120 ∉ L := n9 hG0 hqq120
  have hG0 : ∀ a ∈ L, a ∈ L121 := fun a ha => (hG.2.2.1 a ha).1
  have pqq120 : mm_I t121 f121 q120 64 (fun _ => 0) := ⟨cq120, by rw [ef121]; exact va_up_self _ _ _, by rw [et121]; exact List.mem_append_right _ (List.mem_singleton.mpr rfl)⟩
  refine mg_putF (v := .ref q120) (ty := .array .int) hx hb hg inM tyM tyM_ok nmM hown hK hn hA hP hS i136 p137 rfl 8 (by decide) (hg _ gw601) (fun _ h9 => h9) rfl hnm9 rfl (by decide +kernel) rfl rfl (Nat.le_of_ble_eq_true rfl) dM_init_65 (fun H locs hP hS => ?_)
  obtain ⟨f138, hf138⟩ : ∃ z, z = va_up f121 h (.inr (6, [.int 0, .ref q1, .ref q9, .ref q20, .ref q34, .ref q51, .ref q71, .ref q94, .ref q120, .null, .null, .null, .null, .null, .null, .null, .null, .null, .int 0, .int 0, .int 0, .int 0, .int 0, .null, .int 0, .int 0, .int 0, .long 0, .int 0])) := ⟨_, rfl⟩
  have hP : va_P D zCl (va_pl L121 f138) H := by rw [hf138]; exact hP
  have hs139 : Same1 f121 f138 h := fun z hz => by rw [hf138, va_up_ne _ _ hz]
  have hG : Gro L f tys h sz (L121, f138, t121) := hG.put (Or.inl rfl) hs139
  have p140 : mm_I t121 f138 q1 32 (fun _ => 0) := p123.eq (hs139 _ (Ne.symm ne_h_q1))
  have p141 : mm_I t121 f138 q9 32 (fun _ => 0) := p125.eq (hs139 _ (Ne.symm ne_h_q9))
  have p142 : mm_I t121 f138 q20 32 (fun _ => 0) := p127.eq (hs139 _ (Ne.symm ne_h_q20))
  have p143 : mm_I t121 f138 q34 8 (fun _ => 0) := p129.eq (hs139 _ (Ne.symm ne_h_q34))
  have p144 : mm_I t121 f138 q51 64 (fun _ => 0) := p131.eq (hs139 _ (Ne.symm ne_h_q51))
  have p145 : mm_I t121 f138 q71 64 (fun _ => 0) := p133.eq (hs139 _ (Ne.symm ne_h_q71))
  have p146 : mm_I t121 f138 q94 64 (fun _ => 0) := p135.eq (hs139 _ (Ne.symm ne_h_q94))
  have p147 : mm_I t121 f138 q120 64 (fun _ => 0) := pqq120.eq (hs139 _ (Ne.symm ne_h_q120))
  have p148 : f138 h = .inr (6, [.int 0, .ref q1, .ref q9, .ref q20, .ref q34, .ref q51, .ref q71, .ref q94, .ref q120, .null, .null, .null, .null, .null, .null, .null, .null, .null, .int 0, .int 0, .int 0, .int 0, .int 0, .null, .int 0, .int 0, .int 0, .long 0, .int 0]) := by rw [hf138]; exact va_up_self _ _ _
  refine lv_aload_n hx hb dM_init_68 rfl (lv_at hl 0 rfl) ?_
  refine lv_bipush (v := nI 64) hx hb dM_init_69 (by decide) ?_
  refine mg_newa (atype := .int) (a0 := (64, .inl (fun _ => 0))) (ty := .int) hx hb (hg _ gw50) rfl hK hP hn hA hS hA0 (fun _ => rfl) (by decide +kernel) (nI_clamp (by omega)) (by decide) (Nat.le_of_ble_eq_true rfl) (Nat.le_of_ble_eq_true rfl) dM_init_71 (fun q149 cq149 H hqq149 hAq149 hK hP hS => ?_)
  have ne_q1_q149 : q1 ≠ q149 := fun e => hqq149 (e ▸ i122)
  have ne_q9_q149 : q9 ≠ q149 := fun e => hqq149 (e ▸ i124)
  have ne_q20_q149 : q20 ≠ q149 := fun e => hqq149 (e ▸ i126)
  have ne_q34_q149 : q34 ≠ q149 := fun e => hqq149 (e ▸ i128)
  have ne_q51_q149 : q51 ≠ q149 := fun e => hqq149 (e ▸ i130)
  have ne_q71_q149 : q71 ≠ q149 := fun e => hqq149 (e ▸ i132)
  have ne_q94_q149 : q94 ≠ q149 := fun e => hqq149 (e ▸ i134)
  have ne_q120_q149 : q120 ≠ q149 := fun e => hqq149 (e ▸ iqq120)
  have ne_h_q149 : h ≠ q149 := fun e => hqq149 (e ▸ i136)
  obtain ⟨L150, eL150⟩ : ∃ z, z = L121 ++ [q149] := ⟨_, rfl⟩
  obtain ⟨f150, ef150⟩ : ∃ z, z = va_up f138 q149 (.inl (cq149, 64, .inl (fun _ => 0))) := ⟨_, rfl⟩
  rw [← eL150, ← ef150] at hP
  obtain ⟨t150, et150⟩ : ∃ z, z = t121 ++ [(cq149, .int)] := ⟨_, rfl⟩
  rw [← et150] at hK
  have hy150 : ∀ z ∈ t121, z ∈ t150 := fun z hz => by rw [et150]; exact List.mem_append_left _ hz
  have hi150 : ∀ z ∈ L121, z ∈ L150 := fun z hz => by rw [eL150]; exact List.mem_append_left _ hz
  have he150 : ∀ z ∈ L121, f150 z = f138 z := fun z hz => by rw [ef150]; exact va_up_ne _ _ (fun e => hqq149 (e ▸ hz))
  have hG : Gro L f tys h sz (L150, f150, t150) := by rw [eL150, ef150, et150]; exact (hG.new hqq149 (w9 hAq149)).ty
  have hn : L150.Nodup := hG.1
  have hA : ∀ a ∈ L150, (gA L sz) a := fun a ha => by rw [eL150] at ha; rcases List.mem_append.mp ha with h9 | h9; exact hA a h9; rw [List.mem_singleton.mp h9]; exact hAq149
  have i151 : q1 ∈ L150 := hi150 _ i122
  have p152 : mm_I t150 f150 q1 32 (fun _ => 0) := (p140.eq (he150 _ i122)).more hy150
  have i153 : q9 ∈ L150 := hi150 _ i124
  have p154 : mm_I t150 f150 q9 32 (fun _ => 0) := (p141.eq (he150 _ i124)).more hy150
  have i155 : q20 ∈ L150 := hi150 _ i126
  have p156 : mm_I t150 f150 q20 32 (fun _ => 0) := (p142.eq (he150 _ i126)).more hy150
  have i157 : q34 ∈ L150 := hi150 _ i128
  have p158 : mm_I t150 f150 q34 8 (fun _ => 0) := (p143.eq (he150 _ i128)).more hy150
  have i159 : q51 ∈ L150 := hi150 _ i130
  have p160 : mm_I t150 f150 q51 64 (fun _ => 0) := (p144.eq (he150 _ i130)).more hy150
  have i161 : q71 ∈ L150 := hi150 _ i132
  have p162 : mm_I t150 f150 q71 64 (fun _ => 0) := (p145.eq (he150 _ i132)).more hy150
  have i163 : q94 ∈ L150 := hi150 _ i134
  have p164 : mm_I t150 f150 q94 64 (fun _ => 0) := (p146.eq (he150 _ i134)).more hy150
  have i165 : q120 ∈ L150 := hi150 _ iqq120
  have p166 : mm_I t150 f150 q120 64 (fun _ => 0) := (p147.eq (he150 _ iqq120)).more hy150
  have i167 : h ∈ L150 := hi150 _ i136
  have p168 : f150 h = .inr (6, [.int 0, .ref q1, .ref q9, .ref q20, .ref q34, .ref q51, .ref q71, .ref q94, .ref q120, .null, .null, .null, .null, .null, .null, .null, .null, .null, .int 0, .int 0, .int 0, .int 0, .int 0, .null, .int 0, .int 0, .int 0, .long 0, .int 0]) := (he150 _ i136).trans p148
  have iqq149 : q149 ∈ L150 := by rw [eL150]; exact List.mem_append_right _ (List.mem_singleton.mpr rfl)
  have nqq149 : q149 ∉ L := n9 hG0 hqq149
  have hG0 : ∀ a ∈ L, a ∈ L150 := fun a ha => (hG.2.2.1 a ha).1
  have pqq149 : mm_I t150 f150 q149 64 (fun _ => 0) := ⟨cq149, by rw [ef150]; exact va_up_self _ _ _, by rw [et150]; exact List.mem_append_right _ (List.mem_singleton.mpr rfl)⟩
  refine mg_putF (v := .ref q149) (ty := .array .int) hx hb hg inM tyM tyM_ok nmM hown hK hn hA hP hS i167 p168 rfl 9 (by decide) (hg _ gw602) (fun _ h9 => h9) rfl hnm9 rfl (by decide +kernel) rfl rfl (Nat.le_of_ble_eq_true rfl) dM_init_73 (fun H locs hP hS => ?_)
  obtain ⟨f169, hf169⟩ : ∃ z, z = va_up f150 h (.inr (6, [.int 0, .ref q1, .ref q9, .ref q20, .ref q34, .ref q51, .ref q71, .ref q94, .ref q120, .ref q149, .null, .null, .null, .null, .null, .null, .null, .null, .int 0, .int 0, .int 0, .int 0, .int 0, .null, .int 0, .int 0, .int 0, .long 0, .int 0])) := ⟨_, rfl⟩
  have hP : va_P D zCl (va_pl L150 f169) H := by rw [hf169]; exact hP
  have hs170 : Same1 f150 f169 h := fun z hz => by rw [hf169, va_up_ne _ _ hz]
  have hG : Gro L f tys h sz (L150, f169, t150) := hG.put (Or.inl rfl) hs170
  have p171 : mm_I t150 f169 q1 32 (fun _ => 0) := p152.eq (hs170 _ (Ne.symm ne_h_q1))
  have p172 : mm_I t150 f169 q9 32 (fun _ => 0) := p154.eq (hs170 _ (Ne.symm ne_h_q9))
  have p173 : mm_I t150 f169 q20 32 (fun _ => 0) := p156.eq (hs170 _ (Ne.symm ne_h_q20))
  have p174 : mm_I t150 f169 q34 8 (fun _ => 0) := p158.eq (hs170 _ (Ne.symm ne_h_q34))
  have p175 : mm_I t150 f169 q51 64 (fun _ => 0) := p160.eq (hs170 _ (Ne.symm ne_h_q51))
  have p176 : mm_I t150 f169 q71 64 (fun _ => 0) := p162.eq (hs170 _ (Ne.symm ne_h_q71))
  have p177 : mm_I t150 f169 q94 64 (fun _ => 0) := p164.eq (hs170 _ (Ne.symm ne_h_q94))
  have p178 : mm_I t150 f169 q120 64 (fun _ => 0) := p166.eq (hs170 _ (Ne.symm ne_h_q120))
  have p179 : mm_I t150 f169 q149 64 (fun _ => 0) := pqq149.eq (hs170 _ (Ne.symm ne_h_q149))
  have p180 : f169 h = .inr (6, [.int 0, .ref q1, .ref q9, .ref q20, .ref q34, .ref q51, .ref q71, .ref q94, .ref q120, .ref q149, .null, .null, .null, .null, .null, .null, .null, .null, .int 0, .int 0, .int 0, .int 0, .int 0, .null, .int 0, .int 0, .int 0, .long 0, .int 0]) := by rw [hf169]; exact va_up_self _ _ _
  refine lv_aload_n hx hb dM_init_76 rfl (lv_at hl 0 rfl) ?_
  refine lv_iconst (v := nI 4) hx hb dM_init_77 (by decide) ?_
  refine mg_newa (atype := .int) (a0 := (4, .inl (fun _ => 0))) (ty := .int) hx hb (hg _ gw50) rfl hK hP hn hA hS hA0 (fun _ => rfl) (by decide +kernel) (nI_clamp (by omega)) (by decide) (Nat.le_of_ble_eq_true rfl) (Nat.le_of_ble_eq_true rfl) dM_init_78 (fun q181 cq181 H hqq181 hAq181 hK hP hS => ?_)
  have ne_q1_q181 : q1 ≠ q181 := fun e => hqq181 (e ▸ i151)
  have ne_q9_q181 : q9 ≠ q181 := fun e => hqq181 (e ▸ i153)
  have ne_q20_q181 : q20 ≠ q181 := fun e => hqq181 (e ▸ i155)
  have ne_q34_q181 : q34 ≠ q181 := fun e => hqq181 (e ▸ i157)
  have ne_q51_q181 : q51 ≠ q181 := fun e => hqq181 (e ▸ i159)
  have ne_q71_q181 : q71 ≠ q181 := fun e => hqq181 (e ▸ i161)
  have ne_q94_q181 : q94 ≠ q181 := fun e => hqq181 (e ▸ i163)
  have ne_q120_q181 : q120 ≠ q181 := fun e => hqq181 (e ▸ i165)
  have ne_q149_q181 : q149 ≠ q181 := fun e => hqq181 (e ▸ iqq149)
  have ne_h_q181 : h ≠ q181 := fun e => hqq181 (e ▸ i167)
  obtain ⟨L182, eL182⟩ : ∃ z, z = L150 ++ [q181] := ⟨_, rfl⟩
  obtain ⟨f182, ef182⟩ : ∃ z, z = va_up f169 q181 (.inl (cq181, 4, .inl (fun _ => 0))) := ⟨_, rfl⟩
  rw [← eL182, ← ef182] at hP
  obtain ⟨t182, et182⟩ : ∃ z, z = t150 ++ [(cq181, .int)] := ⟨_, rfl⟩
  rw [← et182] at hK
  have hy182 : ∀ z ∈ t150, z ∈ t182 := fun z hz => by rw [et182]; exact List.mem_append_left _ hz
  have hi182 : ∀ z ∈ L150, z ∈ L182 := fun z hz => by rw [eL182]; exact List.mem_append_left _ hz
  have he182 : ∀ z ∈ L150, f182 z = f169 z := fun z hz => by rw [ef182]; exact va_up_ne _ _ (fun e => hqq181 (e ▸ hz))
  have hG : Gro L f tys h sz (L182, f182, t182) := by rw [eL182, ef182, et182]; exact (hG.new hqq181 (w9 hAq181)).ty
  have hn : L182.Nodup := hG.1
  have hA : ∀ a ∈ L182, (gA L sz) a := fun a ha => by rw [eL182] at ha; rcases List.mem_append.mp ha with h9 | h9; exact hA a h9; rw [List.mem_singleton.mp h9]; exact hAq181
  have i183 : q1 ∈ L182 := hi182 _ i151
  have p184 : mm_I t182 f182 q1 32 (fun _ => 0) := (p171.eq (he182 _ i151)).more hy182
  have i185 : q9 ∈ L182 := hi182 _ i153
  have p186 : mm_I t182 f182 q9 32 (fun _ => 0) := (p172.eq (he182 _ i153)).more hy182
  have i187 : q20 ∈ L182 := hi182 _ i155
  have p188 : mm_I t182 f182 q20 32 (fun _ => 0) := (p173.eq (he182 _ i155)).more hy182
  have i189 : q34 ∈ L182 := hi182 _ i157
  have p190 : mm_I t182 f182 q34 8 (fun _ => 0) := (p174.eq (he182 _ i157)).more hy182
  have i191 : q51 ∈ L182 := hi182 _ i159
  have p192 : mm_I t182 f182 q51 64 (fun _ => 0) := (p175.eq (he182 _ i159)).more hy182
  have i193 : q71 ∈ L182 := hi182 _ i161
  have p194 : mm_I t182 f182 q71 64 (fun _ => 0) := (p176.eq (he182 _ i161)).more hy182
  have i195 : q94 ∈ L182 := hi182 _ i163
  have p196 : mm_I t182 f182 q94 64 (fun _ => 0) := (p177.eq (he182 _ i163)).more hy182
  have i197 : q120 ∈ L182 := hi182 _ i165
  have p198 : mm_I t182 f182 q120 64 (fun _ => 0) := (p178.eq (he182 _ i165)).more hy182
  have i199 : q149 ∈ L182 := hi182 _ iqq149
  have p200 : mm_I t182 f182 q149 64 (fun _ => 0) := (p179.eq (he182 _ iqq149)).more hy182
  have i201 : h ∈ L182 := hi182 _ i167
  have p202 : f182 h = .inr (6, [.int 0, .ref q1, .ref q9, .ref q20, .ref q34, .ref q51, .ref q71, .ref q94, .ref q120, .ref q149, .null, .null, .null, .null, .null, .null, .null, .null, .int 0, .int 0, .int 0, .int 0, .int 0, .null, .int 0, .int 0, .int 0, .long 0, .int 0]) := (he182 _ i167).trans p180
  have iqq181 : q181 ∈ L182 := by rw [eL182]; exact List.mem_append_right _ (List.mem_singleton.mpr rfl)
  have nqq181 : q181 ∉ L := n9 hG0 hqq181
  have hG0 : ∀ a ∈ L, a ∈ L182 := fun a ha => (hG.2.2.1 a ha).1
  have pqq181 : mm_I t182 f182 q181 4 (fun _ => 0) := ⟨cq181, by rw [ef182]; exact va_up_self _ _ _, by rw [et182]; exact List.mem_append_right _ (List.mem_singleton.mpr rfl)⟩
  refine mg_putF (v := .ref q181) (ty := .array .int) hx hb hg inM tyM tyM_ok nmM hown hK hn hA hP hS i201 p202 rfl 10 (by decide) (hg _ gw603) (fun _ h9 => h9) rfl hnm9 rfl (by decide +kernel) rfl rfl (Nat.le_of_ble_eq_true rfl) dM_init_80 (fun H locs hP hS => ?_)
  obtain ⟨f203, hf203⟩ : ∃ z, z = va_up f182 h (.inr (6, [.int 0, .ref q1, .ref q9, .ref q20, .ref q34, .ref q51, .ref q71, .ref q94, .ref q120, .ref q149, .ref q181, .null, .null, .null, .null, .null, .null, .null, .int 0, .int 0, .int 0, .int 0, .int 0, .null, .int 0, .int 0, .int 0, .long 0, .int 0])) := ⟨_, rfl⟩
  have hP : va_P D zCl (va_pl L182 f203) H := by rw [hf203]; exact hP
  have hs204 : Same1 f182 f203 h := fun z hz => by rw [hf203, va_up_ne _ _ hz]
  have hG : Gro L f tys h sz (L182, f203, t182) := hG.put (Or.inl rfl) hs204
  have p205 : mm_I t182 f203 q1 32 (fun _ => 0) := p184.eq (hs204 _ (Ne.symm ne_h_q1))
  have p206 : mm_I t182 f203 q9 32 (fun _ => 0) := p186.eq (hs204 _ (Ne.symm ne_h_q9))
  have p207 : mm_I t182 f203 q20 32 (fun _ => 0) := p188.eq (hs204 _ (Ne.symm ne_h_q20))
  have p208 : mm_I t182 f203 q34 8 (fun _ => 0) := p190.eq (hs204 _ (Ne.symm ne_h_q34))
  have p209 : mm_I t182 f203 q51 64 (fun _ => 0) := p192.eq (hs204 _ (Ne.symm ne_h_q51))
  have p210 : mm_I t182 f203 q71 64 (fun _ => 0) := p194.eq (hs204 _ (Ne.symm ne_h_q71))
  have p211 : mm_I t182 f203 q94 64 (fun _ => 0) := p196.eq (hs204 _ (Ne.symm ne_h_q94))
  have p212 : mm_I t182 f203 q120 64 (fun _ => 0) := p198.eq (hs204 _ (Ne.symm ne_h_q120))
  have p213 : mm_I t182 f203 q149 64 (fun _ => 0) := p200.eq (hs204 _ (Ne.symm ne_h_q149))
  have p214 : mm_I t182 f203 q181 4 (fun _ => 0) := pqq181.eq (hs204 _ (Ne.symm ne_h_q181))
  have p215 : f203 h = .inr (6, [.int 0, .ref q1, .ref q9, .ref q20, .ref q34, .ref q51, .ref q71, .ref q94, .ref q120, .ref q149, .ref q181, .null, .null, .null, .null, .null, .null, .null, .int 0, .int 0, .int 0, .int 0, .int 0, .null, .int 0, .int 0, .int 0, .long 0, .int 0]) := by rw [hf203]; exact va_up_self _ _ _
  refine lv_aload_n hx hb dM_init_83 rfl (lv_at hl 0 rfl) ?_
  refine lv_bipush (v := nI 64) hx hb dM_init_84 (by decide) ?_
  refine mg_newa (atype := .int) (a0 := (64, .inl (fun _ => 0))) (ty := .int) hx hb (hg _ gw50) rfl hK hP hn hA hS hA0 (fun _ => rfl) (by decide +kernel) (nI_clamp (by omega)) (by decide) (Nat.le_of_ble_eq_true rfl) (Nat.le_of_ble_eq_true rfl) dM_init_86 (fun q216 cq216 H hqq216 hAq216 hK hP hS => ?_)
  have ne_q1_q216 : q1 ≠ q216 := fun e => hqq216 (e ▸ i183)
  have ne_q9_q216 : q9 ≠ q216 := fun e => hqq216 (e ▸ i185)
  have ne_q20_q216 : q20 ≠ q216 := fun e => hqq216 (e ▸ i187)
  have ne_q34_q216 : q34 ≠ q216 := fun e => hqq216 (e ▸ i189)
  have ne_q51_q216 : q51 ≠ q216 := fun e => hqq216 (e ▸ i191)
  have ne_q71_q216 : q71 ≠ q216 := fun e => hqq216 (e ▸ i193)
  have ne_q94_q216 : q94 ≠ q216 := fun e => hqq216 (e ▸ i195)
  have ne_q120_q216 : q120 ≠ q216 := fun e => hqq216 (e ▸ i197)
  have ne_q149_q216 : q149 ≠ q216 := fun e => hqq216 (e ▸ i199)
  have ne_q181_q216 : q181 ≠ q216 := fun e => hqq216 (e ▸ iqq181)
  have ne_h_q216 : h ≠ q216 := fun e => hqq216 (e ▸ i201)
  obtain ⟨L217, eL217⟩ : ∃ z, z = L182 ++ [q216] := ⟨_, rfl⟩
  obtain ⟨f217, ef217⟩ : ∃ z, z = va_up f203 q216 (.inl (cq216, 64, .inl (fun _ => 0))) := ⟨_, rfl⟩
  rw [← eL217, ← ef217] at hP
  obtain ⟨t217, et217⟩ : ∃ z, z = t182 ++ [(cq216, .int)] := ⟨_, rfl⟩
  rw [← et217] at hK
  have hy217 : ∀ z ∈ t182, z ∈ t217 := fun z hz => by rw [et217]; exact List.mem_append_left _ hz
  have hi217 : ∀ z ∈ L182, z ∈ L217 := fun z hz => by rw [eL217]; exact List.mem_append_left _ hz
  have he217 : ∀ z ∈ L182, f217 z = f203 z := fun z hz => by rw [ef217]; exact va_up_ne _ _ (fun e => hqq216 (e ▸ hz))
  have hG : Gro L f tys h sz (L217, f217, t217) := by rw [eL217, ef217, et217]; exact (hG.new hqq216 (w9 hAq216)).ty
  have hn : L217.Nodup := hG.1
  have hA : ∀ a ∈ L217, (gA L sz) a := fun a ha => by rw [eL217] at ha; rcases List.mem_append.mp ha with h9 | h9; exact hA a h9; rw [List.mem_singleton.mp h9]; exact hAq216
  have i218 : q1 ∈ L217 := hi217 _ i183
  have p219 : mm_I t217 f217 q1 32 (fun _ => 0) := (p205.eq (he217 _ i183)).more hy217
  have i220 : q9 ∈ L217 := hi217 _ i185
  have p221 : mm_I t217 f217 q9 32 (fun _ => 0) := (p206.eq (he217 _ i185)).more hy217
  have i222 : q20 ∈ L217 := hi217 _ i187
  have p223 : mm_I t217 f217 q20 32 (fun _ => 0) := (p207.eq (he217 _ i187)).more hy217
  have i224 : q34 ∈ L217 := hi217 _ i189
  have p225 : mm_I t217 f217 q34 8 (fun _ => 0) := (p208.eq (he217 _ i189)).more hy217
  have i226 : q51 ∈ L217 := hi217 _ i191
  have p227 : mm_I t217 f217 q51 64 (fun _ => 0) := (p209.eq (he217 _ i191)).more hy217
  have i228 : q71 ∈ L217 := hi217 _ i193
  have p229 : mm_I t217 f217 q71 64 (fun _ => 0) := (p210.eq (he217 _ i193)).more hy217
  have i230 : q94 ∈ L217 := hi217 _ i195
  have p231 : mm_I t217 f217 q94 64 (fun _ => 0) := (p211.eq (he217 _ i195)).more hy217
  have i232 : q120 ∈ L217 := hi217 _ i197
  have p233 : mm_I t217 f217 q120 64 (fun _ => 0) := (p212.eq (he217 _ i197)).more hy217
  have i234 : q149 ∈ L217 := hi217 _ i199
  have p235 : mm_I t217 f217 q149 64 (fun _ => 0) := (p213.eq (he217 _ i199)).more hy217
  have i236 : q181 ∈ L217 := hi217 _ iqq181
  have p237 : mm_I t217 f217 q181 4 (fun _ => 0) := (p214.eq (he217 _ iqq181)).more hy217
  have i238 : h ∈ L217 := hi217 _ i201
  have p239 : f217 h = .inr (6, [.int 0, .ref q1, .ref q9, .ref q20, .ref q34, .ref q51, .ref q71, .ref q94, .ref q120, .ref q149, .ref q181, .null, .null, .null, .null, .null, .null, .null, .int 0, .int 0, .int 0, .int 0, .int 0, .null, .int 0, .int 0, .int 0, .long 0, .int 0]) := (he217 _ i201).trans p215
  have iqq216 : q216 ∈ L217 := by rw [eL217]; exact List.mem_append_right _ (List.mem_singleton.mpr rfl)
  have nqq216 : q216 ∉ L := n9 hG0 hqq216
  have hG0 : ∀ a ∈ L, a ∈ L217 := fun a ha => (hG.2.2.1 a ha).1
  have pqq216 : mm_I t217 f217 q216 64 (fun _ => 0) := ⟨cq216, by rw [ef217]; exact va_up_self _ _ _, by rw [et217]; exact List.mem_append_right _ (List.mem_singleton.mpr rfl)⟩
  refine mg_putF (v := .ref q216) (ty := .array .int) hx hb hg inM tyM tyM_ok nmM hown hK hn hA hP hS i238 p239 rfl 11 (by decide) (hg _ gw604) (fun _ h9 => h9) rfl hnm9 rfl (by decide +kernel) rfl rfl (Nat.le_of_ble_eq_true rfl) dM_init_88 (fun H locs hP hS => ?_)
  obtain ⟨f240, hf240⟩ : ∃ z, z = va_up f217 h (.inr (6, [.int 0, .ref q1, .ref q9, .ref q20, .ref q34, .ref q51, .ref q71, .ref q94, .ref q120, .ref q149, .ref q181, .ref q216, .null, .null, .null, .null, .null, .null, .int 0, .int 0, .int 0, .int 0, .int 0, .null, .int 0, .int 0, .int 0, .long 0, .int 0])) := ⟨_, rfl⟩
  have hP : va_P D zCl (va_pl L217 f240) H := by rw [hf240]; exact hP
  have hs241 : Same1 f217 f240 h := fun z hz => by rw [hf240, va_up_ne _ _ hz]
  have hG : Gro L f tys h sz (L217, f240, t217) := hG.put (Or.inl rfl) hs241
  have p242 : mm_I t217 f240 q1 32 (fun _ => 0) := p219.eq (hs241 _ (Ne.symm ne_h_q1))
  have p243 : mm_I t217 f240 q9 32 (fun _ => 0) := p221.eq (hs241 _ (Ne.symm ne_h_q9))
  have p244 : mm_I t217 f240 q20 32 (fun _ => 0) := p223.eq (hs241 _ (Ne.symm ne_h_q20))
  have p245 : mm_I t217 f240 q34 8 (fun _ => 0) := p225.eq (hs241 _ (Ne.symm ne_h_q34))
  have p246 : mm_I t217 f240 q51 64 (fun _ => 0) := p227.eq (hs241 _ (Ne.symm ne_h_q51))
  have p247 : mm_I t217 f240 q71 64 (fun _ => 0) := p229.eq (hs241 _ (Ne.symm ne_h_q71))
  have p248 : mm_I t217 f240 q94 64 (fun _ => 0) := p231.eq (hs241 _ (Ne.symm ne_h_q94))
  have p249 : mm_I t217 f240 q120 64 (fun _ => 0) := p233.eq (hs241 _ (Ne.symm ne_h_q120))
  have p250 : mm_I t217 f240 q149 64 (fun _ => 0) := p235.eq (hs241 _ (Ne.symm ne_h_q149))
  have p251 : mm_I t217 f240 q181 4 (fun _ => 0) := p237.eq (hs241 _ (Ne.symm ne_h_q181))
  have p252 : mm_I t217 f240 q216 64 (fun _ => 0) := pqq216.eq (hs241 _ (Ne.symm ne_h_q216))
  have p253 : f240 h = .inr (6, [.int 0, .ref q1, .ref q9, .ref q20, .ref q34, .ref q51, .ref q71, .ref q94, .ref q120, .ref q149, .ref q181, .ref q216, .null, .null, .null, .null, .null, .null, .int 0, .int 0, .int 0, .int 0, .int 0, .null, .int 0, .int 0, .int 0, .long 0, .int 0]) := by rw [hf240]; exact va_up_self _ _ _
  refine lv_aload_n hx hb dM_init_91 rfl (lv_at hl 0 rfl) ?_
  refine lv_bipush (v := nI 64) hx hb dM_init_92 (by decide) ?_
  refine mg_newa (atype := .int) (a0 := (64, .inl (fun _ => 0))) (ty := .int) hx hb (hg _ gw50) rfl hK hP hn hA hS hA0 (fun _ => rfl) (by decide +kernel) (nI_clamp (by omega)) (by decide) (Nat.le_of_ble_eq_true rfl) (Nat.le_of_ble_eq_true rfl) dM_init_94 (fun q254 cq254 H hqq254 hAq254 hK hP hS => ?_)
  have ne_q1_q254 : q1 ≠ q254 := fun e => hqq254 (e ▸ i218)
  have ne_q9_q254 : q9 ≠ q254 := fun e => hqq254 (e ▸ i220)
  have ne_q20_q254 : q20 ≠ q254 := fun e => hqq254 (e ▸ i222)
  have ne_q34_q254 : q34 ≠ q254 := fun e => hqq254 (e ▸ i224)
  have ne_q51_q254 : q51 ≠ q254 := fun e => hqq254 (e ▸ i226)
  have ne_q71_q254 : q71 ≠ q254 := fun e => hqq254 (e ▸ i228)
  have ne_q94_q254 : q94 ≠ q254 := fun e => hqq254 (e ▸ i230)
  have ne_q120_q254 : q120 ≠ q254 := fun e => hqq254 (e ▸ i232)
  have ne_q149_q254 : q149 ≠ q254 := fun e => hqq254 (e ▸ i234)
  have ne_q181_q254 : q181 ≠ q254 := fun e => hqq254 (e ▸ i236)
  have ne_q216_q254 : q216 ≠ q254 := fun e => hqq254 (e ▸ iqq216)
  have ne_h_q254 : h ≠ q254 := fun e => hqq254 (e ▸ i238)
  obtain ⟨L255, eL255⟩ : ∃ z, z = L217 ++ [q254] := ⟨_, rfl⟩
  obtain ⟨f255, ef255⟩ : ∃ z, z = va_up f240 q254 (.inl (cq254, 64, .inl (fun _ => 0))) := ⟨_, rfl⟩
  rw [← eL255, ← ef255] at hP
  obtain ⟨t255, et255⟩ : ∃ z, z = t217 ++ [(cq254, .int)] := ⟨_, rfl⟩
  rw [← et255] at hK
  have hy255 : ∀ z ∈ t217, z ∈ t255 := fun z hz => by rw [et255]; exact List.mem_append_left _ hz
  have hi255 : ∀ z ∈ L217, z ∈ L255 := fun z hz => by rw [eL255]; exact List.mem_append_left _ hz
  have he255 : ∀ z ∈ L217, f255 z = f240 z := fun z hz => by rw [ef255]; exact va_up_ne _ _ (fun e => hqq254 (e ▸ hz))
  have hG : Gro L f tys h sz (L255, f255, t255) := by rw [eL255, ef255, et255]; exact (hG.new hqq254 (w9 hAq254)).ty
  have hn : L255.Nodup := hG.1
  have hA : ∀ a ∈ L255, (gA L sz) a := fun a ha => by rw [eL255] at ha; rcases List.mem_append.mp ha with h9 | h9; exact hA a h9; rw [List.mem_singleton.mp h9]; exact hAq254
  have i256 : q1 ∈ L255 := hi255 _ i218
  have p257 : mm_I t255 f255 q1 32 (fun _ => 0) := (p242.eq (he255 _ i218)).more hy255
  have i258 : q9 ∈ L255 := hi255 _ i220
  have p259 : mm_I t255 f255 q9 32 (fun _ => 0) := (p243.eq (he255 _ i220)).more hy255
  have i260 : q20 ∈ L255 := hi255 _ i222
  have p261 : mm_I t255 f255 q20 32 (fun _ => 0) := (p244.eq (he255 _ i222)).more hy255
  have i262 : q34 ∈ L255 := hi255 _ i224
  have p263 : mm_I t255 f255 q34 8 (fun _ => 0) := (p245.eq (he255 _ i224)).more hy255
  have i264 : q51 ∈ L255 := hi255 _ i226
  have p265 : mm_I t255 f255 q51 64 (fun _ => 0) := (p246.eq (he255 _ i226)).more hy255
  have i266 : q71 ∈ L255 := hi255 _ i228
  have p267 : mm_I t255 f255 q71 64 (fun _ => 0) := (p247.eq (he255 _ i228)).more hy255
  have i268 : q94 ∈ L255 := hi255 _ i230
  have p269 : mm_I t255 f255 q94 64 (fun _ => 0) := (p248.eq (he255 _ i230)).more hy255
  have i270 : q120 ∈ L255 := hi255 _ i232
  have p271 : mm_I t255 f255 q120 64 (fun _ => 0) := (p249.eq (he255 _ i232)).more hy255
  have i272 : q149 ∈ L255 := hi255 _ i234
  have p273 : mm_I t255 f255 q149 64 (fun _ => 0) := (p250.eq (he255 _ i234)).more hy255
  have i274 : q181 ∈ L255 := hi255 _ i236
  have p275 : mm_I t255 f255 q181 4 (fun _ => 0) := (p251.eq (he255 _ i236)).more hy255
  have i276 : q216 ∈ L255 := hi255 _ iqq216
  have p277 : mm_I t255 f255 q216 64 (fun _ => 0) := (p252.eq (he255 _ iqq216)).more hy255
  have i278 : h ∈ L255 := hi255 _ i238
  have p279 : f255 h = .inr (6, [.int 0, .ref q1, .ref q9, .ref q20, .ref q34, .ref q51, .ref q71, .ref q94, .ref q120, .ref q149, .ref q181, .ref q216, .null, .null, .null, .null, .null, .null, .int 0, .int 0, .int 0, .int 0, .int 0, .null, .int 0, .int 0, .int 0, .long 0, .int 0]) := (he255 _ i238).trans p253
  have iqq254 : q254 ∈ L255 := by rw [eL255]; exact List.mem_append_right _ (List.mem_singleton.mpr rfl)
  have nqq254 : q254 ∉ L := n9 hG0 hqq254
  have hG0 : ∀ a ∈ L, a ∈ L255 := fun a ha => (hG.2.2.1 a ha).1
  have pqq254 : mm_I t255 f255 q254 64 (fun _ => 0) := ⟨cq254, by rw [ef255]; exact va_up_self _ _ _, by rw [et255]; exact List.mem_append_right _ (List.mem_singleton.mpr rfl)⟩
  refine mg_putF (v := .ref q254) (ty := .array .int) hx hb hg inM tyM tyM_ok nmM hown hK hn hA hP hS i278 p279 rfl 12 (by decide) (hg _ gw605) (fun _ h9 => h9) rfl hnm9 rfl (by decide +kernel) rfl rfl (Nat.le_of_ble_eq_true rfl) dM_init_96 (fun H locs hP hS => ?_)
  obtain ⟨f280, hf280⟩ : ∃ z, z = va_up f255 h (.inr (6, [.int 0, .ref q1, .ref q9, .ref q20, .ref q34, .ref q51, .ref q71, .ref q94, .ref q120, .ref q149, .ref q181, .ref q216, .ref q254, .null, .null, .null, .null, .null, .int 0, .int 0, .int 0, .int 0, .int 0, .null, .int 0, .int 0, .int 0, .long 0, .int 0])) := ⟨_, rfl⟩
  have hP : va_P D zCl (va_pl L255 f280) H := by rw [hf280]; exact hP
  have hs281 : Same1 f255 f280 h := fun z hz => by rw [hf280, va_up_ne _ _ hz]
  have hG : Gro L f tys h sz (L255, f280, t255) := hG.put (Or.inl rfl) hs281
  have p282 : mm_I t255 f280 q1 32 (fun _ => 0) := p257.eq (hs281 _ (Ne.symm ne_h_q1))
  have p283 : mm_I t255 f280 q9 32 (fun _ => 0) := p259.eq (hs281 _ (Ne.symm ne_h_q9))
  have p284 : mm_I t255 f280 q20 32 (fun _ => 0) := p261.eq (hs281 _ (Ne.symm ne_h_q20))
  have p285 : mm_I t255 f280 q34 8 (fun _ => 0) := p263.eq (hs281 _ (Ne.symm ne_h_q34))
  have p286 : mm_I t255 f280 q51 64 (fun _ => 0) := p265.eq (hs281 _ (Ne.symm ne_h_q51))
  have p287 : mm_I t255 f280 q71 64 (fun _ => 0) := p267.eq (hs281 _ (Ne.symm ne_h_q71))
  have p288 : mm_I t255 f280 q94 64 (fun _ => 0) := p269.eq (hs281 _ (Ne.symm ne_h_q94))
  have p289 : mm_I t255 f280 q120 64 (fun _ => 0) := p271.eq (hs281 _ (Ne.symm ne_h_q120))
  have p290 : mm_I t255 f280 q149 64 (fun _ => 0) := p273.eq (hs281 _ (Ne.symm ne_h_q149))
  have p291 : mm_I t255 f280 q181 4 (fun _ => 0) := p275.eq (hs281 _ (Ne.symm ne_h_q181))
  have p292 : mm_I t255 f280 q216 64 (fun _ => 0) := p277.eq (hs281 _ (Ne.symm ne_h_q216))
  have p293 : mm_I t255 f280 q254 64 (fun _ => 0) := pqq254.eq (hs281 _ (Ne.symm ne_h_q254))
  have p294 : f280 h = .inr (6, [.int 0, .ref q1, .ref q9, .ref q20, .ref q34, .ref q51, .ref q71, .ref q94, .ref q120, .ref q149, .ref q181, .ref q216, .ref q254, .null, .null, .null, .null, .null, .int 0, .int 0, .int 0, .int 0, .int 0, .null, .int 0, .int 0, .int 0, .long 0, .int 0]) := by rw [hf280]; exact va_up_self _ _ _
  refine lv_aload_n hx hb dM_init_99 rfl (lv_at hl 0 rfl) ?_
  refine lv_bipush (v := nI 64) hx hb dM_init_100 (by decide) ?_
  refine mg_newa (atype := .int) (a0 := (64, .inl (fun _ => 0))) (ty := .int) hx hb (hg _ gw50) rfl hK hP hn hA hS hA0 (fun _ => rfl) (by decide +kernel) (nI_clamp (by omega)) (by decide) (Nat.le_of_ble_eq_true rfl) (Nat.le_of_ble_eq_true rfl) dM_init_102 (fun q295 cq295 H hqq295 hAq295 hK hP hS => ?_)
  have ne_q1_q295 : q1 ≠ q295 := fun e => hqq295 (e ▸ i256)
  have ne_q9_q295 : q9 ≠ q295 := fun e => hqq295 (e ▸ i258)
  have ne_q20_q295 : q20 ≠ q295 := fun e => hqq295 (e ▸ i260)
  have ne_q34_q295 : q34 ≠ q295 := fun e => hqq295 (e ▸ i262)
  have ne_q51_q295 : q51 ≠ q295 := fun e => hqq295 (e ▸ i264)
  have ne_q71_q295 : q71 ≠ q295 := fun e => hqq295 (e ▸ i266)
  have ne_q94_q295 : q94 ≠ q295 := fun e => hqq295 (e ▸ i268)
  have ne_q120_q295 : q120 ≠ q295 := fun e => hqq295 (e ▸ i270)
  have ne_q149_q295 : q149 ≠ q295 := fun e => hqq295 (e ▸ i272)
  have ne_q181_q295 : q181 ≠ q295 := fun e => hqq295 (e ▸ i274)
  have ne_q216_q295 : q216 ≠ q295 := fun e => hqq295 (e ▸ i276)
  have ne_q254_q295 : q254 ≠ q295 := fun e => hqq295 (e ▸ iqq254)
  have ne_h_q295 : h ≠ q295 := fun e => hqq295 (e ▸ i278)
  obtain ⟨L296, eL296⟩ : ∃ z, z = L255 ++ [q295] := ⟨_, rfl⟩
  obtain ⟨f296, ef296⟩ : ∃ z, z = va_up f280 q295 (.inl (cq295, 64, .inl (fun _ => 0))) := ⟨_, rfl⟩
  rw [← eL296, ← ef296] at hP
  obtain ⟨t296, et296⟩ : ∃ z, z = t255 ++ [(cq295, .int)] := ⟨_, rfl⟩
  rw [← et296] at hK
  have hy296 : ∀ z ∈ t255, z ∈ t296 := fun z hz => by rw [et296]; exact List.mem_append_left _ hz
  have hi296 : ∀ z ∈ L255, z ∈ L296 := fun z hz => by rw [eL296]; exact List.mem_append_left _ hz
  have he296 : ∀ z ∈ L255, f296 z = f280 z := fun z hz => by rw [ef296]; exact va_up_ne _ _ (fun e => hqq295 (e ▸ hz))
  have hG : Gro L f tys h sz (L296, f296, t296) := by rw [eL296, ef296, et296]; exact (hG.new hqq295 (w9 hAq295)).ty
  have hn : L296.Nodup := hG.1
  have hA : ∀ a ∈ L296, (gA L sz) a := fun a ha => by rw [eL296] at ha; rcases List.mem_append.mp ha with h9 | h9; exact hA a h9; rw [List.mem_singleton.mp h9]; exact hAq295
  have i297 : q1 ∈ L296 := hi296 _ i256
  have p298 : mm_I t296 f296 q1 32 (fun _ => 0) := (p282.eq (he296 _ i256)).more hy296
  have i299 : q9 ∈ L296 := hi296 _ i258
  have p300 : mm_I t296 f296 q9 32 (fun _ => 0) := (p283.eq (he296 _ i258)).more hy296
  have i301 : q20 ∈ L296 := hi296 _ i260
  have p302 : mm_I t296 f296 q20 32 (fun _ => 0) := (p284.eq (he296 _ i260)).more hy296
  have i303 : q34 ∈ L296 := hi296 _ i262
  have p304 : mm_I t296 f296 q34 8 (fun _ => 0) := (p285.eq (he296 _ i262)).more hy296
  have i305 : q51 ∈ L296 := hi296 _ i264
  have p306 : mm_I t296 f296 q51 64 (fun _ => 0) := (p286.eq (he296 _ i264)).more hy296
  have i307 : q71 ∈ L296 := hi296 _ i266
  have p308 : mm_I t296 f296 q71 64 (fun _ => 0) := (p287.eq (he296 _ i266)).more hy296
  have i309 : q94 ∈ L296 := hi296 _ i268
  have p310 : mm_I t296 f296 q94 64 (fun _ => 0) := (p288.eq (he296 _ i268)).more hy296
  have i311 : q120 ∈ L296 := hi296 _ i270
  have p312 : mm_I t296 f296 q120 64 (fun _ => 0) := (p289.eq (he296 _ i270)).more hy296
  have i313 : q149 ∈ L296 := hi296 _ i272
  have p314 : mm_I t296 f296 q149 64 (fun _ => 0) := (p290.eq (he296 _ i272)).more hy296
  have i315 : q181 ∈ L296 := hi296 _ i274
  have p316 : mm_I t296 f296 q181 4 (fun _ => 0) := (p291.eq (he296 _ i274)).more hy296
  have i317 : q216 ∈ L296 := hi296 _ i276
  have p318 : mm_I t296 f296 q216 64 (fun _ => 0) := (p292.eq (he296 _ i276)).more hy296
  have i319 : q254 ∈ L296 := hi296 _ iqq254
  have p320 : mm_I t296 f296 q254 64 (fun _ => 0) := (p293.eq (he296 _ iqq254)).more hy296
  have i321 : h ∈ L296 := hi296 _ i278
  have p322 : f296 h = .inr (6, [.int 0, .ref q1, .ref q9, .ref q20, .ref q34, .ref q51, .ref q71, .ref q94, .ref q120, .ref q149, .ref q181, .ref q216, .ref q254, .null, .null, .null, .null, .null, .int 0, .int 0, .int 0, .int 0, .int 0, .null, .int 0, .int 0, .int 0, .long 0, .int 0]) := (he296 _ i278).trans p294
  have iqq295 : q295 ∈ L296 := by rw [eL296]; exact List.mem_append_right _ (List.mem_singleton.mpr rfl)
  have nqq295 : q295 ∉ L := n9 hG0 hqq295
  have hG0 : ∀ a ∈ L, a ∈ L296 := fun a ha => (hG.2.2.1 a ha).1
  have pqq295 : mm_I t296 f296 q295 64 (fun _ => 0) := ⟨cq295, by rw [ef296]; exact va_up_self _ _ _, by rw [et296]; exact List.mem_append_right _ (List.mem_singleton.mpr rfl)⟩
  refine mg_putF (v := .ref q295) (ty := .array .int) hx hb hg inM tyM tyM_ok nmM hown hK hn hA hP hS i321 p322 rfl 13 (by decide) (hg _ gw606) (fun _ h9 => h9) rfl hnm9 rfl (by decide +kernel) rfl rfl (Nat.le_of_ble_eq_true rfl) dM_init_104 (fun H locs hP hS => ?_)
  obtain ⟨f323, hf323⟩ : ∃ z, z = va_up f296 h (.inr (6, [.int 0, .ref q1, .ref q9, .ref q20, .ref q34, .ref q51, .ref q71, .ref q94, .ref q120, .ref q149, .ref q181, .ref q216, .ref q254, .ref q295, .null, .null, .null, .null, .int 0, .int 0, .int 0, .int 0, .int 0, .null, .int 0, .int 0, .int 0, .long 0, .int 0])) := ⟨_, rfl⟩
  have hP : va_P D zCl (va_pl L296 f323) H := by rw [hf323]; exact hP
  have hs324 : Same1 f296 f323 h := fun z hz => by rw [hf323, va_up_ne _ _ hz]
  have hG : Gro L f tys h sz (L296, f323, t296) := hG.put (Or.inl rfl) hs324
  have p325 : mm_I t296 f323 q1 32 (fun _ => 0) := p298.eq (hs324 _ (Ne.symm ne_h_q1))
  have p326 : mm_I t296 f323 q9 32 (fun _ => 0) := p300.eq (hs324 _ (Ne.symm ne_h_q9))
  have p327 : mm_I t296 f323 q20 32 (fun _ => 0) := p302.eq (hs324 _ (Ne.symm ne_h_q20))
  have p328 : mm_I t296 f323 q34 8 (fun _ => 0) := p304.eq (hs324 _ (Ne.symm ne_h_q34))
  have p329 : mm_I t296 f323 q51 64 (fun _ => 0) := p306.eq (hs324 _ (Ne.symm ne_h_q51))
  have p330 : mm_I t296 f323 q71 64 (fun _ => 0) := p308.eq (hs324 _ (Ne.symm ne_h_q71))
  have p331 : mm_I t296 f323 q94 64 (fun _ => 0) := p310.eq (hs324 _ (Ne.symm ne_h_q94))
  have p332 : mm_I t296 f323 q120 64 (fun _ => 0) := p312.eq (hs324 _ (Ne.symm ne_h_q120))
  have p333 : mm_I t296 f323 q149 64 (fun _ => 0) := p314.eq (hs324 _ (Ne.symm ne_h_q149))
  have p334 : mm_I t296 f323 q181 4 (fun _ => 0) := p316.eq (hs324 _ (Ne.symm ne_h_q181))
  have p335 : mm_I t296 f323 q216 64 (fun _ => 0) := p318.eq (hs324 _ (Ne.symm ne_h_q216))
  have p336 : mm_I t296 f323 q254 64 (fun _ => 0) := p320.eq (hs324 _ (Ne.symm ne_h_q254))
  have p337 : mm_I t296 f323 q295 64 (fun _ => 0) := pqq295.eq (hs324 _ (Ne.symm ne_h_q295))
  have p338 : f323 h = .inr (6, [.int 0, .ref q1, .ref q9, .ref q20, .ref q34, .ref q51, .ref q71, .ref q94, .ref q120, .ref q149, .ref q181, .ref q216, .ref q254, .ref q295, .null, .null, .null, .null, .int 0, .int 0, .int 0, .int 0, .int 0, .null, .int 0, .int 0, .int 0, .long 0, .int 0]) := by rw [hf323]; exact va_up_self _ _ _
  refine lv_aload_n hx hb dM_init_107 rfl (lv_at hl 0 rfl) ?_
  refine lv_iconst (v := nI 4) hx hb dM_init_108 (by decide) ?_
  refine mg_newa (atype := .int) (a0 := (4, .inl (fun _ => 0))) (ty := .int) hx hb (hg _ gw50) rfl hK hP hn hA hS hA0 (fun _ => rfl) (by decide +kernel) (nI_clamp (by omega)) (by decide) (Nat.le_of_ble_eq_true rfl) (Nat.le_of_ble_eq_true rfl) dM_init_109 (fun q339 cq339 H hqq339 hAq339 hK hP hS => ?_)
  have ne_q1_q339 : q1 ≠ q339 := fun e => hqq339 (e ▸ i297)
  have ne_q9_q339 : q9 ≠ q339 := fun e => hqq339 (e ▸ i299)
  have ne_q20_q339 : q20 ≠ q339 := fun e => hqq339 (e ▸ i301)
  have ne_q34_q339 : q34 ≠ q339 := fun e => hqq339 (e ▸ i303)
  have ne_q51_q339 : q51 ≠ q339 := fun e => hqq339 (e ▸ i305)
  have ne_q71_q339 : q71 ≠ q339 := fun e => hqq339 (e ▸ i307)
  have ne_q94_q339 : q94 ≠ q339 := fun e => hqq339 (e ▸ i309)
  have ne_q120_q339 : q120 ≠ q339 := fun e => hqq339 (e ▸ i311)
  have ne_q149_q339 : q149 ≠ q339 := fun e => hqq339 (e ▸ i313)
  have ne_q181_q339 : q181 ≠ q339 := fun e => hqq339 (e ▸ i315)
  have ne_q216_q339 : q216 ≠ q339 := fun e => hqq339 (e ▸ i317)
  have ne_q254_q339 : q254 ≠ q339 := fun e => hqq339 (e ▸ i319)
  have ne_q295_q339 : q295 ≠ q339 := fun e => hqq339 (e ▸ iqq295)
  have ne_h_q339 : h ≠ q339 := fun e => hqq339 (e ▸ i321)
  obtain ⟨L340, eL340⟩ : ∃ z, z = L296 ++ [q339] := ⟨_, rfl⟩
  obtain ⟨f340, ef340⟩ : ∃ z, z = va_up f323 q339 (.inl (cq339, 4, .inl (fun _ => 0))) := ⟨_, rfl⟩
  rw [← eL340, ← ef340] at hP
  obtain ⟨t340, et340⟩ : ∃ z, z = t296 ++ [(cq339, .int)] := ⟨_, rfl⟩
  rw [← et340] at hK
  have hy340 : ∀ z ∈ t296, z ∈ t340 := fun z hz => by rw [et340]; exact List.mem_append_left _ hz
  have hi340 : ∀ z ∈ L296, z ∈ L340 := fun z hz => by rw [eL340]; exact List.mem_append_left _ hz
  have he340 : ∀ z ∈ L296, f340 z = f323 z := fun z hz => by rw [ef340]; exact va_up_ne _ _ (fun e => hqq339 (e ▸ hz))
  have hG : Gro L f tys h sz (L340, f340, t340) := by rw [eL340, ef340, et340]; exact (hG.new hqq339 (w9 hAq339)).ty
  have hn : L340.Nodup := hG.1
  have hA : ∀ a ∈ L340, (gA L sz) a := fun a ha => by rw [eL340] at ha; rcases List.mem_append.mp ha with h9 | h9; exact hA a h9; rw [List.mem_singleton.mp h9]; exact hAq339
  have i341 : q1 ∈ L340 := hi340 _ i297
  have p342 : mm_I t340 f340 q1 32 (fun _ => 0) := (p325.eq (he340 _ i297)).more hy340
  have i343 : q9 ∈ L340 := hi340 _ i299
  have p344 : mm_I t340 f340 q9 32 (fun _ => 0) := (p326.eq (he340 _ i299)).more hy340
  have i345 : q20 ∈ L340 := hi340 _ i301
  have p346 : mm_I t340 f340 q20 32 (fun _ => 0) := (p327.eq (he340 _ i301)).more hy340
  have i347 : q34 ∈ L340 := hi340 _ i303
  have p348 : mm_I t340 f340 q34 8 (fun _ => 0) := (p328.eq (he340 _ i303)).more hy340
  have i349 : q51 ∈ L340 := hi340 _ i305
  have p350 : mm_I t340 f340 q51 64 (fun _ => 0) := (p329.eq (he340 _ i305)).more hy340
  have i351 : q71 ∈ L340 := hi340 _ i307
  have p352 : mm_I t340 f340 q71 64 (fun _ => 0) := (p330.eq (he340 _ i307)).more hy340
  have i353 : q94 ∈ L340 := hi340 _ i309
  have p354 : mm_I t340 f340 q94 64 (fun _ => 0) := (p331.eq (he340 _ i309)).more hy340
  have i355 : q120 ∈ L340 := hi340 _ i311
  have p356 : mm_I t340 f340 q120 64 (fun _ => 0) := (p332.eq (he340 _ i311)).more hy340
  have i357 : q149 ∈ L340 := hi340 _ i313
  have p358 : mm_I t340 f340 q149 64 (fun _ => 0) := (p333.eq (he340 _ i313)).more hy340
  have i359 : q181 ∈ L340 := hi340 _ i315
  have p360 : mm_I t340 f340 q181 4 (fun _ => 0) := (p334.eq (he340 _ i315)).more hy340
  have i361 : q216 ∈ L340 := hi340 _ i317
  have p362 : mm_I t340 f340 q216 64 (fun _ => 0) := (p335.eq (he340 _ i317)).more hy340
  have i363 : q254 ∈ L340 := hi340 _ i319
  have p364 : mm_I t340 f340 q254 64 (fun _ => 0) := (p336.eq (he340 _ i319)).more hy340
  have i365 : q295 ∈ L340 := hi340 _ iqq295
  have p366 : mm_I t340 f340 q295 64 (fun _ => 0) := (p337.eq (he340 _ iqq295)).more hy340
  have i367 : h ∈ L340 := hi340 _ i321
  have p368 : f340 h = .inr (6, [.int 0, .ref q1, .ref q9, .ref q20, .ref q34, .ref q51, .ref q71, .ref q94, .ref q120, .ref q149, .ref q181, .ref q216, .ref q254, .ref q295, .null, .null, .null, .null, .int 0, .int 0, .int 0, .int 0, .int 0, .null, .int 0, .int 0, .int 0, .long 0, .int 0]) := (he340 _ i321).trans p338
  have iqq339 : q339 ∈ L340 := by rw [eL340]; exact List.mem_append_right _ (List.mem_singleton.mpr rfl)
  have nqq339 : q339 ∉ L := n9 hG0 hqq339
  have hG0 : ∀ a ∈ L, a ∈ L340 := fun a ha => (hG.2.2.1 a ha).1
  have pqq339 : mm_I t340 f340 q339 4 (fun _ => 0) := ⟨cq339, by rw [ef340]; exact va_up_self _ _ _, by rw [et340]; exact List.mem_append_right _ (List.mem_singleton.mpr rfl)⟩
  refine mg_putF (v := .ref q339) (ty := .array .int) hx hb hg inM tyM tyM_ok nmM hown hK hn hA hP hS i367 p368 rfl 14 (by decide) (hg _ gw607) (fun _ h9 => h9) rfl hnm9 rfl (by decide +kernel) rfl rfl (Nat.le_of_ble_eq_true rfl) dM_init_111 (fun H locs hP hS => ?_)
  obtain ⟨f369, hf369⟩ : ∃ z, z = va_up f340 h (.inr (6, [.int 0, .ref q1, .ref q9, .ref q20, .ref q34, .ref q51, .ref q71, .ref q94, .ref q120, .ref q149, .ref q181, .ref q216, .ref q254, .ref q295, .ref q339, .null, .null, .null, .int 0, .int 0, .int 0, .int 0, .int 0, .null, .int 0, .int 0, .int 0, .long 0, .int 0])) := ⟨_, rfl⟩
  have hP : va_P D zCl (va_pl L340 f369) H := by rw [hf369]; exact hP
  have hs370 : Same1 f340 f369 h := fun z hz => by rw [hf369, va_up_ne _ _ hz]
  have hG : Gro L f tys h sz (L340, f369, t340) := hG.put (Or.inl rfl) hs370
  have p371 : mm_I t340 f369 q1 32 (fun _ => 0) := p342.eq (hs370 _ (Ne.symm ne_h_q1))
  have p372 : mm_I t340 f369 q9 32 (fun _ => 0) := p344.eq (hs370 _ (Ne.symm ne_h_q9))
  have p373 : mm_I t340 f369 q20 32 (fun _ => 0) := p346.eq (hs370 _ (Ne.symm ne_h_q20))
  have p374 : mm_I t340 f369 q34 8 (fun _ => 0) := p348.eq (hs370 _ (Ne.symm ne_h_q34))
  have p375 : mm_I t340 f369 q51 64 (fun _ => 0) := p350.eq (hs370 _ (Ne.symm ne_h_q51))
  have p376 : mm_I t340 f369 q71 64 (fun _ => 0) := p352.eq (hs370 _ (Ne.symm ne_h_q71))
  have p377 : mm_I t340 f369 q94 64 (fun _ => 0) := p354.eq (hs370 _ (Ne.symm ne_h_q94))
  have p378 : mm_I t340 f369 q120 64 (fun _ => 0) := p356.eq (hs370 _ (Ne.symm ne_h_q120))
  have p379 : mm_I t340 f369 q149 64 (fun _ => 0) := p358.eq (hs370 _ (Ne.symm ne_h_q149))
  have p380 : mm_I t340 f369 q181 4 (fun _ => 0) := p360.eq (hs370 _ (Ne.symm ne_h_q181))
  have p381 : mm_I t340 f369 q216 64 (fun _ => 0) := p362.eq (hs370 _ (Ne.symm ne_h_q216))
  have p382 : mm_I t340 f369 q254 64 (fun _ => 0) := p364.eq (hs370 _ (Ne.symm ne_h_q254))
  have p383 : mm_I t340 f369 q295 64 (fun _ => 0) := p366.eq (hs370 _ (Ne.symm ne_h_q295))
  have p384 : mm_I t340 f369 q339 4 (fun _ => 0) := pqq339.eq (hs370 _ (Ne.symm ne_h_q339))
  have p385 : f369 h = .inr (6, [.int 0, .ref q1, .ref q9, .ref q20, .ref q34, .ref q51, .ref q71, .ref q94, .ref q120, .ref q149, .ref q181, .ref q216, .ref q254, .ref q295, .ref q339, .null, .null, .null, .int 0, .int 0, .int 0, .int 0, .int 0, .null, .int 0, .int 0, .int 0, .long 0, .int 0]) := by rw [hf369]; exact va_up_self _ _ _
  refine lv_aload_n hx hb dM_init_114 rfl (lv_at hl 0 rfl) ?_
  refine lv_bipush (v := nI 24) hx hb dM_init_115 (by decide) ?_
  refine mg_newa (atype := .int) (a0 := (24, .inl (fun _ => 0))) (ty := .int) hx hb (hg _ gw50) rfl hK hP hn hA hS hA0 (fun _ => rfl) (by decide +kernel) (nI_clamp (by omega)) (by decide) (Nat.le_of_ble_eq_true rfl) (Nat.le_of_ble_eq_true rfl) dM_init_117 (fun q386 cq386 H hqq386 hAq386 hK hP hS => ?_)
  have ne_q1_q386 : q1 ≠ q386 := fun e => hqq386 (e ▸ i341)
  have ne_q9_q386 : q9 ≠ q386 := fun e => hqq386 (e ▸ i343)
  have ne_q20_q386 : q20 ≠ q386 := fun e => hqq386 (e ▸ i345)
  have ne_q34_q386 : q34 ≠ q386 := fun e => hqq386 (e ▸ i347)
  have ne_q51_q386 : q51 ≠ q386 := fun e => hqq386 (e ▸ i349)
  have ne_q71_q386 : q71 ≠ q386 := fun e => hqq386 (e ▸ i351)
  have ne_q94_q386 : q94 ≠ q386 := fun e => hqq386 (e ▸ i353)
  have ne_q120_q386 : q120 ≠ q386 := fun e => hqq386 (e ▸ i355)
  have ne_q149_q386 : q149 ≠ q386 := fun e => hqq386 (e ▸ i357)
  have ne_q181_q386 : q181 ≠ q386 := fun e => hqq386 (e ▸ i359)
  have ne_q216_q386 : q216 ≠ q386 := fun e => hqq386 (e ▸ i361)
  have ne_q254_q386 : q254 ≠ q386 := fun e => hqq386 (e ▸ i363)
  have ne_q295_q386 : q295 ≠ q386 := fun e => hqq386 (e ▸ i365)
  have ne_q339_q386 : q339 ≠ q386 := fun e => hqq386 (e ▸ iqq339)
  have ne_h_q386 : h ≠ q386 := fun e => hqq386 (e ▸ i367)
  obtain ⟨L387, eL387⟩ : ∃ z, z = L340 ++ [q386] := ⟨_, rfl⟩
  obtain ⟨f387, ef387⟩ : ∃ z, z = va_up f369 q386 (.inl (cq386, 24, .inl (fun _ => 0))) := ⟨_, rfl⟩
  rw [← eL387, ← ef387] at hP
  obtain ⟨t387, et387⟩ : ∃ z, z = t340 ++ [(cq386, .int)] := ⟨_, rfl⟩
  rw [← et387] at hK
  have hy387 : ∀ z ∈ t340, z ∈ t387 := fun z hz => by rw [et387]; exact List.mem_append_left _ hz
  have hi387 : ∀ z ∈ L340, z ∈ L387 := fun z hz => by rw [eL387]; exact List.mem_append_left _ hz
  have he387 : ∀ z ∈ L340, f387 z = f369 z := fun z hz => by rw [ef387]; exact va_up_ne _ _ (fun e => hqq386 (e ▸ hz))
  have hG : Gro L f tys h sz (L387, f387, t387) := by rw [eL387, ef387, et387]; exact (hG.new hqq386 (w9 hAq386)).ty
  have hn : L387.Nodup := hG.1
  have hA : ∀ a ∈ L387, (gA L sz) a := fun a ha => by rw [eL387] at ha; rcases List.mem_append.mp ha with h9 | h9; exact hA a h9; rw [List.mem_singleton.mp h9]; exact hAq386
  have i388 : q1 ∈ L387 := hi387 _ i341
  have p389 : mm_I t387 f387 q1 32 (fun _ => 0) := (p371.eq (he387 _ i341)).more hy387
  have i390 : q9 ∈ L387 := hi387 _ i343
  have p391 : mm_I t387 f387 q9 32 (fun _ => 0) := (p372.eq (he387 _ i343)).more hy387
  have i392 : q20 ∈ L387 := hi387 _ i345
  have p393 : mm_I t387 f387 q20 32 (fun _ => 0) := (p373.eq (he387 _ i345)).more hy387
  have i394 : q34 ∈ L387 := hi387 _ i347
  have p395 : mm_I t387 f387 q34 8 (fun _ => 0) := (p374.eq (he387 _ i347)).more hy387
  have i396 : q51 ∈ L387 := hi387 _ i349
  have p397 : mm_I t387 f387 q51 64 (fun _ => 0) := (p375.eq (he387 _ i349)).more hy387
  have i398 : q71 ∈ L387 := hi387 _ i351
  have p399 : mm_I t387 f387 q71 64 (fun _ => 0) := (p376.eq (he387 _ i351)).more hy387
  have i400 : q94 ∈ L387 := hi387 _ i353
  have p401 : mm_I t387 f387 q94 64 (fun _ => 0) := (p377.eq (he387 _ i353)).more hy387
  have i402 : q120 ∈ L387 := hi387 _ i355
  have p403 : mm_I t387 f387 q120 64 (fun _ => 0) := (p378.eq (he387 _ i355)).more hy387
  have i404 : q149 ∈ L387 := hi387 _ i357
  have p405 : mm_I t387 f387 q149 64 (fun _ => 0) := (p379.eq (he387 _ i357)).more hy387
  have i406 : q181 ∈ L387 := hi387 _ i359
  have p407 : mm_I t387 f387 q181 4 (fun _ => 0) := (p380.eq (he387 _ i359)).more hy387
  have i408 : q216 ∈ L387 := hi387 _ i361
  have p409 : mm_I t387 f387 q216 64 (fun _ => 0) := (p381.eq (he387 _ i361)).more hy387
  have i410 : q254 ∈ L387 := hi387 _ i363
  have p411 : mm_I t387 f387 q254 64 (fun _ => 0) := (p382.eq (he387 _ i363)).more hy387
  have i412 : q295 ∈ L387 := hi387 _ i365
  have p413 : mm_I t387 f387 q295 64 (fun _ => 0) := (p383.eq (he387 _ i365)).more hy387
  have i414 : q339 ∈ L387 := hi387 _ iqq339
  have p415 : mm_I t387 f387 q339 4 (fun _ => 0) := (p384.eq (he387 _ iqq339)).more hy387
  have i416 : h ∈ L387 := hi387 _ i367
  have p417 : f387 h = .inr (6, [.int 0, .ref q1, .ref q9, .ref q20, .ref q34, .ref q51, .ref q71, .ref q94, .ref q120, .ref q149, .ref q181, .ref q216, .ref q254, .ref q295, .ref q339, .null, .null, .null, .int 0, .int 0, .int 0, .int 0, .int 0, .null, .int 0, .int 0, .int 0, .long 0, .int 0]) := (he387 _ i367).trans p385
  have iqq386 : q386 ∈ L387 := by rw [eL387]; exact List.mem_append_right _ (List.mem_singleton.mpr rfl)
  have nqq386 : q386 ∉ L := n9 hG0 hqq386
  have hG0 : ∀ a ∈ L, a ∈ L387 := fun a ha => (hG.2.2.1 a ha).1
  have pqq386 : mm_I t387 f387 q386 24 (fun _ => 0) := ⟨cq386, by rw [ef387]; exact va_up_self _ _ _, by rw [et387]; exact List.mem_append_right _ (List.mem_singleton.mpr rfl)⟩
  refine mg_putF (v := .ref q386) (ty := .array .int) hx hb hg inM tyM tyM_ok nmM hown hK hn hA hP hS i416 p417 rfl 15 (by decide) (hg _ gw608) (fun _ h9 => h9) rfl hnm9 rfl (by decide +kernel) rfl rfl (Nat.le_of_ble_eq_true rfl) dM_init_119 (fun H locs hP hS => ?_)
  obtain ⟨f418, hf418⟩ : ∃ z, z = va_up f387 h (.inr (6, [.int 0, .ref q1, .ref q9, .ref q20, .ref q34, .ref q51, .ref q71, .ref q94, .ref q120, .ref q149, .ref q181, .ref q216, .ref q254, .ref q295, .ref q339, .ref q386, .null, .null, .int 0, .int 0, .int 0, .int 0, .int 0, .null, .int 0, .int 0, .int 0, .long 0, .int 0])) := ⟨_, rfl⟩
  have hP : va_P D zCl (va_pl L387 f418) H := by rw [hf418]; exact hP
  have hs419 : Same1 f387 f418 h := fun z hz => by rw [hf418, va_up_ne _ _ hz]
  have hG : Gro L f tys h sz (L387, f418, t387) := hG.put (Or.inl rfl) hs419
  have p420 : mm_I t387 f418 q1 32 (fun _ => 0) := p389.eq (hs419 _ (Ne.symm ne_h_q1))
  have p421 : mm_I t387 f418 q9 32 (fun _ => 0) := p391.eq (hs419 _ (Ne.symm ne_h_q9))
  have p422 : mm_I t387 f418 q20 32 (fun _ => 0) := p393.eq (hs419 _ (Ne.symm ne_h_q20))
  have p423 : mm_I t387 f418 q34 8 (fun _ => 0) := p395.eq (hs419 _ (Ne.symm ne_h_q34))
  have p424 : mm_I t387 f418 q51 64 (fun _ => 0) := p397.eq (hs419 _ (Ne.symm ne_h_q51))
  have p425 : mm_I t387 f418 q71 64 (fun _ => 0) := p399.eq (hs419 _ (Ne.symm ne_h_q71))
  have p426 : mm_I t387 f418 q94 64 (fun _ => 0) := p401.eq (hs419 _ (Ne.symm ne_h_q94))
  have p427 : mm_I t387 f418 q120 64 (fun _ => 0) := p403.eq (hs419 _ (Ne.symm ne_h_q120))
  have p428 : mm_I t387 f418 q149 64 (fun _ => 0) := p405.eq (hs419 _ (Ne.symm ne_h_q149))
  have p429 : mm_I t387 f418 q181 4 (fun _ => 0) := p407.eq (hs419 _ (Ne.symm ne_h_q181))
  have p430 : mm_I t387 f418 q216 64 (fun _ => 0) := p409.eq (hs419 _ (Ne.symm ne_h_q216))
  have p431 : mm_I t387 f418 q254 64 (fun _ => 0) := p411.eq (hs419 _ (Ne.symm ne_h_q254))
  have p432 : mm_I t387 f418 q295 64 (fun _ => 0) := p413.eq (hs419 _ (Ne.symm ne_h_q295))
  have p433 : mm_I t387 f418 q339 4 (fun _ => 0) := p415.eq (hs419 _ (Ne.symm ne_h_q339))
  have p434 : mm_I t387 f418 q386 24 (fun _ => 0) := pqq386.eq (hs419 _ (Ne.symm ne_h_q386))
  have p435 : f418 h = .inr (6, [.int 0, .ref q1, .ref q9, .ref q20, .ref q34, .ref q51, .ref q71, .ref q94, .ref q120, .ref q149, .ref q181, .ref q216, .ref q254, .ref q295, .ref q339, .ref q386, .null, .null, .int 0, .int 0, .int 0, .int 0, .int 0, .null, .int 0, .int 0, .int 0, .long 0, .int 0]) := by rw [hf418]; exact va_up_self _ _ _
  refine lv_aload_n hx hb dM_init_122 rfl (lv_at hl 0 rfl) ?_
  refine lv_iconst (v := nI 4) hx hb dM_init_123 (by decide) ?_
  refine mg_newa (atype := .int) (a0 := (4, .inl (fun _ => 0))) (ty := .int) hx hb (hg _ gw50) rfl hK hP hn hA hS hA0 (fun _ => rfl) (by decide +kernel) (nI_clamp (by omega)) (by decide) (Nat.le_of_ble_eq_true rfl) (Nat.le_of_ble_eq_true rfl) dM_init_124 (fun q436 cq436 H hqq436 hAq436 hK hP hS => ?_)
  have ne_q1_q436 : q1 ≠ q436 := fun e => hqq436 (e ▸ i388)
  have ne_q9_q436 : q9 ≠ q436 := fun e => hqq436 (e ▸ i390)
  have ne_q20_q436 : q20 ≠ q436 := fun e => hqq436 (e ▸ i392)
  have ne_q34_q436 : q34 ≠ q436 := fun e => hqq436 (e ▸ i394)
  have ne_q51_q436 : q51 ≠ q436 := fun e => hqq436 (e ▸ i396)
  have ne_q71_q436 : q71 ≠ q436 := fun e => hqq436 (e ▸ i398)
  have ne_q94_q436 : q94 ≠ q436 := fun e => hqq436 (e ▸ i400)
  have ne_q120_q436 : q120 ≠ q436 := fun e => hqq436 (e ▸ i402)
  have ne_q149_q436 : q149 ≠ q436 := fun e => hqq436 (e ▸ i404)
  have ne_q181_q436 : q181 ≠ q436 := fun e => hqq436 (e ▸ i406)
  have ne_q216_q436 : q216 ≠ q436 := fun e => hqq436 (e ▸ i408)
  have ne_q254_q436 : q254 ≠ q436 := fun e => hqq436 (e ▸ i410)
  have ne_q295_q436 : q295 ≠ q436 := fun e => hqq436 (e ▸ i412)
  have ne_q339_q436 : q339 ≠ q436 := fun e => hqq436 (e ▸ i414)
  have ne_q386_q436 : q386 ≠ q436 := fun e => hqq436 (e ▸ iqq386)
  have ne_h_q436 : h ≠ q436 := fun e => hqq436 (e ▸ i416)
  obtain ⟨L437, eL437⟩ : ∃ z, z = L387 ++ [q436] := ⟨_, rfl⟩
  obtain ⟨f437, ef437⟩ : ∃ z, z = va_up f418 q436 (.inl (cq436, 4, .inl (fun _ => 0))) := ⟨_, rfl⟩
  rw [← eL437, ← ef437] at hP
  obtain ⟨t437, et437⟩ : ∃ z, z = t387 ++ [(cq436, .int)] := ⟨_, rfl⟩
  rw [← et437] at hK
  have hy437 : ∀ z ∈ t387, z ∈ t437 := fun z hz => by rw [et437]; exact List.mem_append_left _ hz
  have hi437 : ∀ z ∈ L387, z ∈ L437 := fun z hz => by rw [eL437]; exact List.mem_append_left _ hz
  have he437 : ∀ z ∈ L387, f437 z = f418 z := fun z hz => by rw [ef437]; exact va_up_ne _ _ (fun e => hqq436 (e ▸ hz))
  have hG : Gro L f tys h sz (L437, f437, t437) := by rw [eL437, ef437, et437]; exact (hG.new hqq436 (w9 hAq436)).ty
  have hn : L437.Nodup := hG.1
  have hA : ∀ a ∈ L437, (gA L sz) a := fun a ha => by rw [eL437] at ha; rcases List.mem_append.mp ha with h9 | h9; exact hA a h9; rw [List.mem_singleton.mp h9]; exact hAq436
  have i438 : q1 ∈ L437 := hi437 _ i388
  have p439 : mm_I t437 f437 q1 32 (fun _ => 0) := (p420.eq (he437 _ i388)).more hy437
  have i440 : q9 ∈ L437 := hi437 _ i390
  have p441 : mm_I t437 f437 q9 32 (fun _ => 0) := (p421.eq (he437 _ i390)).more hy437
  have i442 : q20 ∈ L437 := hi437 _ i392
  have p443 : mm_I t437 f437 q20 32 (fun _ => 0) := (p422.eq (he437 _ i392)).more hy437
  have i444 : q34 ∈ L437 := hi437 _ i394
  have p445 : mm_I t437 f437 q34 8 (fun _ => 0) := (p423.eq (he437 _ i394)).more hy437
  have i446 : q51 ∈ L437 := hi437 _ i396
  have p447 : mm_I t437 f437 q51 64 (fun _ => 0) := (p424.eq (he437 _ i396)).more hy437
  have i448 : q71 ∈ L437 := hi437 _ i398
  have p449 : mm_I t437 f437 q71 64 (fun _ => 0) := (p425.eq (he437 _ i398)).more hy437
  have i450 : q94 ∈ L437 := hi437 _ i400
  have p451 : mm_I t437 f437 q94 64 (fun _ => 0) := (p426.eq (he437 _ i400)).more hy437
  have i452 : q120 ∈ L437 := hi437 _ i402
  have p453 : mm_I t437 f437 q120 64 (fun _ => 0) := (p427.eq (he437 _ i402)).more hy437
  have i454 : q149 ∈ L437 := hi437 _ i404
  have p455 : mm_I t437 f437 q149 64 (fun _ => 0) := (p428.eq (he437 _ i404)).more hy437
  have i456 : q181 ∈ L437 := hi437 _ i406
  have p457 : mm_I t437 f437 q181 4 (fun _ => 0) := (p429.eq (he437 _ i406)).more hy437
  have i458 : q216 ∈ L437 := hi437 _ i408
  have p459 : mm_I t437 f437 q216 64 (fun _ => 0) := (p430.eq (he437 _ i408)).more hy437
  have i460 : q254 ∈ L437 := hi437 _ i410
  have p461 : mm_I t437 f437 q254 64 (fun _ => 0) := (p431.eq (he437 _ i410)).more hy437
  have i462 : q295 ∈ L437 := hi437 _ i412
  have p463 : mm_I t437 f437 q295 64 (fun _ => 0) := (p432.eq (he437 _ i412)).more hy437
  have i464 : q339 ∈ L437 := hi437 _ i414
  have p465 : mm_I t437 f437 q339 4 (fun _ => 0) := (p433.eq (he437 _ i414)).more hy437
  have i466 : q386 ∈ L437 := hi437 _ iqq386
  have p467 : mm_I t437 f437 q386 24 (fun _ => 0) := (p434.eq (he437 _ iqq386)).more hy437
  have i468 : h ∈ L437 := hi437 _ i416
  have p469 : f437 h = .inr (6, [.int 0, .ref q1, .ref q9, .ref q20, .ref q34, .ref q51, .ref q71, .ref q94, .ref q120, .ref q149, .ref q181, .ref q216, .ref q254, .ref q295, .ref q339, .ref q386, .null, .null, .int 0, .int 0, .int 0, .int 0, .int 0, .null, .int 0, .int 0, .int 0, .long 0, .int 0]) := (he437 _ i416).trans p435
  have iqq436 : q436 ∈ L437 := by rw [eL437]; exact List.mem_append_right _ (List.mem_singleton.mpr rfl)
  have nqq436 : q436 ∉ L := n9 hG0 hqq436
  have hG0 : ∀ a ∈ L, a ∈ L437 := fun a ha => (hG.2.2.1 a ha).1
  have pqq436 : mm_I t437 f437 q436 4 (fun _ => 0) := ⟨cq436, by rw [ef437]; exact va_up_self _ _ _, by rw [et437]; exact List.mem_append_right _ (List.mem_singleton.mpr rfl)⟩
  refine mg_putF (v := .ref q436) (ty := .array .int) hx hb hg inM tyM tyM_ok nmM hown hK hn hA hP hS i468 p469 rfl 16 (by decide) (hg _ gw609) (fun _ h9 => h9) rfl hnm9 rfl (by decide +kernel) rfl rfl (Nat.le_of_ble_eq_true rfl) dM_init_126 (fun H locs hP hS => ?_)
  obtain ⟨f470, hf470⟩ : ∃ z, z = va_up f437 h (.inr (6, [.int 0, .ref q1, .ref q9, .ref q20, .ref q34, .ref q51, .ref q71, .ref q94, .ref q120, .ref q149, .ref q181, .ref q216, .ref q254, .ref q295, .ref q339, .ref q386, .ref q436, .null, .int 0, .int 0, .int 0, .int 0, .int 0, .null, .int 0, .int 0, .int 0, .long 0, .int 0])) := ⟨_, rfl⟩
  have hP : va_P D zCl (va_pl L437 f470) H := by rw [hf470]; exact hP
  have hs471 : Same1 f437 f470 h := fun z hz => by rw [hf470, va_up_ne _ _ hz]
  have hG : Gro L f tys h sz (L437, f470, t437) := hG.put (Or.inl rfl) hs471
  have p472 : mm_I t437 f470 q1 32 (fun _ => 0) := p439.eq (hs471 _ (Ne.symm ne_h_q1))
  have p473 : mm_I t437 f470 q9 32 (fun _ => 0) := p441.eq (hs471 _ (Ne.symm ne_h_q9))
  have p474 : mm_I t437 f470 q20 32 (fun _ => 0) := p443.eq (hs471 _ (Ne.symm ne_h_q20))
  have p475 : mm_I t437 f470 q34 8 (fun _ => 0) := p445.eq (hs471 _ (Ne.symm ne_h_q34))
  have p476 : mm_I t437 f470 q51 64 (fun _ => 0) := p447.eq (hs471 _ (Ne.symm ne_h_q51))
  have p477 : mm_I t437 f470 q71 64 (fun _ => 0) := p449.eq (hs471 _ (Ne.symm ne_h_q71))
  have p478 : mm_I t437 f470 q94 64 (fun _ => 0) := p451.eq (hs471 _ (Ne.symm ne_h_q94))
  have p479 : mm_I t437 f470 q120 64 (fun _ => 0) := p453.eq (hs471 _ (Ne.symm ne_h_q120))
  have p480 : mm_I t437 f470 q149 64 (fun _ => 0) := p455.eq (hs471 _ (Ne.symm ne_h_q149))
  have p481 : mm_I t437 f470 q181 4 (fun _ => 0) := p457.eq (hs471 _ (Ne.symm ne_h_q181))
  have p482 : mm_I t437 f470 q216 64 (fun _ => 0) := p459.eq (hs471 _ (Ne.symm ne_h_q216))
  have p483 : mm_I t437 f470 q254 64 (fun _ => 0) := p461.eq (hs471 _ (Ne.symm ne_h_q254))
  have p484 : mm_I t437 f470 q295 64 (fun _ => 0) := p463.eq (hs471 _ (Ne.symm ne_h_q295))
  have p485 : mm_I t437 f470 q339 4 (fun _ => 0) := p465.eq (hs471 _ (Ne.symm ne_h_q339))
  have p486 : mm_I t437 f470 q386 24 (fun _ => 0) := p467.eq (hs471 _ (Ne.symm ne_h_q386))
  have p487 : mm_I t437 f470 q436 4 (fun _ => 0) := pqq436.eq (hs471 _ (Ne.symm ne_h_q436))
  have p488 : f470 h = .inr (6, [.int 0, .ref q1, .ref q9, .ref q20, .ref q34, .ref q51, .ref q71, .ref q94, .ref q120, .ref q149, .ref q181, .ref q216, .ref q254, .ref q295, .ref q339, .ref q386, .ref q436, .null, .int 0, .int 0, .int 0, .int 0, .int 0, .null, .int 0, .int 0, .int 0, .long 0, .int 0]) := by rw [hf470]; exact va_up_self _ _ _
  refine lv_aload_n hx hb dM_init_129 rfl (lv_at hl 0 rfl) ?_
  refine lv_sipush (v := nI 169) hx hb dM_init_130 (by decide) ?_
  refine mg_newa (atype := .long) (a0 := (169, .inr (.inl (fun _ => 0)))) (ty := .long) hx hb (hg _ gw681) rfl hK hP hn hA hS hA0 (fun _ => rfl) (by decide +kernel) (nI_clamp (by omega)) (by decide) (Nat.le_of_ble_eq_true rfl) (Nat.le_of_ble_eq_true rfl) dM_init_133 (fun q489 cq489 H hqq489 hAq489 hK hP hS => ?_)
  have ne_q1_q489 : q1 ≠ q489 := fun e => hqq489 (e ▸ i438)
  have ne_q9_q489 : q9 ≠ q489 := fun e => hqq489 (e ▸ i440)
  have ne_q20_q489 : q20 ≠ q489 := fun e => hqq489 (e ▸ i442)
  have ne_q34_q489 : q34 ≠ q489 := fun e => hqq489 (e ▸ i444)
  have ne_q51_q489 : q51 ≠ q489 := fun e => hqq489 (e ▸ i446)
  have ne_q71_q489 : q71 ≠ q489 := fun e => hqq489 (e ▸ i448)
  have ne_q94_q489 : q94 ≠ q489 := fun e => hqq489 (e ▸ i450)
  have ne_q120_q489 : q120 ≠ q489 := fun e => hqq489 (e ▸ i452)
  have ne_q149_q489 : q149 ≠ q489 := fun e => hqq489 (e ▸ i454)
  have ne_q181_q489 : q181 ≠ q489 := fun e => hqq489 (e ▸ i456)
  have ne_q216_q489 : q216 ≠ q489 := fun e => hqq489 (e ▸ i458)
  have ne_q254_q489 : q254 ≠ q489 := fun e => hqq489 (e ▸ i460)
  have ne_q295_q489 : q295 ≠ q489 := fun e => hqq489 (e ▸ i462)
  have ne_q339_q489 : q339 ≠ q489 := fun e => hqq489 (e ▸ i464)
  have ne_q386_q489 : q386 ≠ q489 := fun e => hqq489 (e ▸ i466)
  have ne_q436_q489 : q436 ≠ q489 := fun e => hqq489 (e ▸ iqq436)
  have ne_h_q489 : h ≠ q489 := fun e => hqq489 (e ▸ i468)
  obtain ⟨L490, eL490⟩ : ∃ z, z = L437 ++ [q489] := ⟨_, rfl⟩
  obtain ⟨f490, ef490⟩ : ∃ z, z = va_up f470 q489 (.inl (cq489, 169, .inr (.inl (fun _ => 0)))) := ⟨_, rfl⟩
  rw [← eL490, ← ef490] at hP
  obtain ⟨t490, et490⟩ : ∃ z, z = t437 ++ [(cq489, .long)] := ⟨_, rfl⟩
  rw [← et490] at hK
  have hy490 : ∀ z ∈ t437, z ∈ t490 := fun z hz => by rw [et490]; exact List.mem_append_left _ hz
  have hi490 : ∀ z ∈ L437, z ∈ L490 := fun z hz => by rw [eL490]; exact List.mem_append_left _ hz
  have he490 : ∀ z ∈ L437, f490 z = f470 z := fun z hz => by rw [ef490]; exact va_up_ne _ _ (fun e => hqq489 (e ▸ hz))
  have hG : Gro L f tys h sz (L490, f490, t490) := by rw [eL490, ef490, et490]; exact (hG.new hqq489 (w9 hAq489)).ty
  have hn : L490.Nodup := hG.1
  have hA : ∀ a ∈ L490, (gA L sz) a := fun a ha => by rw [eL490] at ha; rcases List.mem_append.mp ha with h9 | h9; exact hA a h9; rw [List.mem_singleton.mp h9]; exact hAq489
  have i491 : q1 ∈ L490 := hi490 _ i438
  have p492 : mm_I t490 f490 q1 32 (fun _ => 0) := (p472.eq (he490 _ i438)).more hy490
  have i493 : q9 ∈ L490 := hi490 _ i440
  have p494 : mm_I t490 f490 q9 32 (fun _ => 0) := (p473.eq (he490 _ i440)).more hy490
  have i495 : q20 ∈ L490 := hi490 _ i442
  have p496 : mm_I t490 f490 q20 32 (fun _ => 0) := (p474.eq (he490 _ i442)).more hy490
  have i497 : q34 ∈ L490 := hi490 _ i444
  have p498 : mm_I t490 f490 q34 8 (fun _ => 0) := (p475.eq (he490 _ i444)).more hy490
  have i499 : q51 ∈ L490 := hi490 _ i446
  have p500 : mm_I t490 f490 q51 64 (fun _ => 0) := (p476.eq (he490 _ i446)).more hy490
  have i501 : q71 ∈ L490 := hi490 _ i448
  have p502 : mm_I t490 f490 q71 64 (fun _ => 0) := (p477.eq (he490 _ i448)).more hy490
  have i503 : q94 ∈ L490 := hi490 _ i450
  have p504 : mm_I t490 f490 q94 64 (fun _ => 0) := (p478.eq (he490 _ i450)).more hy490
  have i505 : q120 ∈ L490 := hi490 _ i452
  have p506 : mm_I t490 f490 q120 64 (fun _ => 0) := (p479.eq (he490 _ i452)).more hy490
  have i507 : q149 ∈ L490 := hi490 _ i454
  have p508 : mm_I t490 f490 q149 64 (fun _ => 0) := (p480.eq (he490 _ i454)).more hy490
  have i509 : q181 ∈ L490 := hi490 _ i456
  have p510 : mm_I t490 f490 q181 4 (fun _ => 0) := (p481.eq (he490 _ i456)).more hy490
  have i511 : q216 ∈ L490 := hi490 _ i458
  have p512 : mm_I t490 f490 q216 64 (fun _ => 0) := (p482.eq (he490 _ i458)).more hy490
  have i513 : q254 ∈ L490 := hi490 _ i460
  have p514 : mm_I t490 f490 q254 64 (fun _ => 0) := (p483.eq (he490 _ i460)).more hy490
  have i515 : q295 ∈ L490 := hi490 _ i462
  have p516 : mm_I t490 f490 q295 64 (fun _ => 0) := (p484.eq (he490 _ i462)).more hy490
  have i517 : q339 ∈ L490 := hi490 _ i464
  have p518 : mm_I t490 f490 q339 4 (fun _ => 0) := (p485.eq (he490 _ i464)).more hy490
  have i519 : q386 ∈ L490 := hi490 _ i466
  have p520 : mm_I t490 f490 q386 24 (fun _ => 0) := (p486.eq (he490 _ i466)).more hy490
  have i521 : q436 ∈ L490 := hi490 _ iqq436
  have p522 : mm_I t490 f490 q436 4 (fun _ => 0) := (p487.eq (he490 _ iqq436)).more hy490
  have i523 : h ∈ L490 := hi490 _ i468
  have p524 : f490 h = .inr (6, [.int 0, .ref q1, .ref q9, .ref q20, .ref q34, .ref q51, .ref q71, .ref q94, .ref q120, .ref q149, .ref q181, .ref q216, .ref q254, .ref q295, .ref q339, .ref q386, .ref q436, .null, .int 0, .int 0, .int 0, .int 0, .int 0, .null, .int 0, .int 0, .int 0, .long 0, .int 0]) := (he490 _ i468).trans p488
  have iqq489 : q489 ∈ L490 := by rw [eL490]; exact List.mem_append_right _ (List.mem_singleton.mpr rfl)
  have nqq489 : q489 ∉ L := n9 hG0 hqq489
  have hG0 : ∀ a ∈ L, a ∈ L490 := fun a ha => (hG.2.2.1 a ha).1
  have pqq489 : mm_J t490 f490 q489 169 (fun _ => 0) := ⟨cq489, by rw [ef490]; exact va_up_self _ _ _, by rw [et490]; exact List.mem_append_right _ (List.mem_singleton.mpr rfl)⟩
  refine mg_putF (v := .ref q489) (ty := .array .long) hx hb hg inM tyM tyM_ok nmM hown hK hn hA hP hS i523 p524 rfl 17 (by decide) (hg _ gw610) (fun _ h9 => h9) rfl hnm9 rfl (by decide +kernel) rfl rfl (Nat.le_of_ble_eq_true rfl) dM_init_135 (fun H locs hP hS => ?_)
  obtain ⟨f525, hf525⟩ : ∃ z, z = va_up f490 h (.inr (6, [.int 0, .ref q1, .ref q9, .ref q20, .ref q34, .ref q51, .ref q71, .ref q94, .ref q120, .ref q149, .ref q181, .ref q216, .ref q254, .ref q295, .ref q339, .ref q386, .ref q436, .ref q489, .int 0, .int 0, .int 0, .int 0, .int 0, .null, .int 0, .int 0, .int 0, .long 0, .int 0])) := ⟨_, rfl⟩
  have hP : va_P D zCl (va_pl L490 f525) H := by rw [hf525]; exact hP
  have hs526 : Same1 f490 f525 h := fun z hz => by rw [hf525, va_up_ne _ _ hz]
  have hG : Gro L f tys h sz (L490, f525, t490) := hG.put (Or.inl rfl) hs526
  have p527 : mm_I t490 f525 q1 32 (fun _ => 0) := p492.eq (hs526 _ (Ne.symm ne_h_q1))
  have p528 : mm_I t490 f525 q9 32 (fun _ => 0) := p494.eq (hs526 _ (Ne.symm ne_h_q9))
  have p529 : mm_I t490 f525 q20 32 (fun _ => 0) := p496.eq (hs526 _ (Ne.symm ne_h_q20))
  have p530 : mm_I t490 f525 q34 8 (fun _ => 0) := p498.eq (hs526 _ (Ne.symm ne_h_q34))
  have p531 : mm_I t490 f525 q51 64 (fun _ => 0) := p500.eq (hs526 _ (Ne.symm ne_h_q51))
  have p532 : mm_I t490 f525 q71 64 (fun _ => 0) := p502.eq (hs526 _ (Ne.symm ne_h_q71))
  have p533 : mm_I t490 f525 q94 64 (fun _ => 0) := p504.eq (hs526 _ (Ne.symm ne_h_q94))
  have p534 : mm_I t490 f525 q120 64 (fun _ => 0) := p506.eq (hs526 _ (Ne.symm ne_h_q120))
  have p535 : mm_I t490 f525 q149 64 (fun _ => 0) := p508.eq (hs526 _ (Ne.symm ne_h_q149))
  have p536 : mm_I t490 f525 q181 4 (fun _ => 0) := p510.eq (hs526 _ (Ne.symm ne_h_q181))
  have p537 : mm_I t490 f525 q216 64 (fun _ => 0) := p512.eq (hs526 _ (Ne.symm ne_h_q216))
  have p538 : mm_I t490 f525 q254 64 (fun _ => 0) := p514.eq (hs526 _ (Ne.symm ne_h_q254))
  have p539 : mm_I t490 f525 q295 64 (fun _ => 0) := p516.eq (hs526 _ (Ne.symm ne_h_q295))
  have p540 : mm_I t490 f525 q339 4 (fun _ => 0) := p518.eq (hs526 _ (Ne.symm ne_h_q339))
  have p541 : mm_I t490 f525 q386 24 (fun _ => 0) := p520.eq (hs526 _ (Ne.symm ne_h_q386))
  have p542 : mm_I t490 f525 q436 4 (fun _ => 0) := p522.eq (hs526 _ (Ne.symm ne_h_q436))
  have p543 : mm_J t490 f525 q489 169 (fun _ => 0) := pqq489.eq (hs526 _ (Ne.symm ne_h_q489))
  have p544 : f525 h = .inr (6, [.int 0, .ref q1, .ref q9, .ref q20, .ref q34, .ref q51, .ref q71, .ref q94, .ref q120, .ref q149, .ref q181, .ref q216, .ref q254, .ref q295, .ref q339, .ref q386, .ref q436, .ref q489, .int 0, .int 0, .int 0, .int 0, .int 0, .null, .int 0, .int 0, .int 0, .long 0, .int 0]) := by rw [hf525]; exact va_up_self _ _ _
  refine lv_aload_n hx hb dM_init_138 rfl (lv_at hl 0 rfl) ?_
  refine lv_bipush (v := nI 17) hx hb dM_init_139 (by decide) ?_
  refine mg_newa (atype := .boolean) (a0 := (17, .inl (fun _ => 0))) (ty := .boolean) hx hb (hg _ gw682) rfl hK hP hn hA hS hA0 (fun _ => rfl) (by decide +kernel) (nI_clamp (by omega)) (by decide) (Nat.le_of_ble_eq_true rfl) (Nat.le_of_ble_eq_true rfl) dM_init_141 (fun q545 cq545 H hqq545 hAq545 hK hP hS => ?_)
  have ne_q1_q545 : q1 ≠ q545 := fun e => hqq545 (e ▸ i491)
  have ne_q9_q545 : q9 ≠ q545 := fun e => hqq545 (e ▸ i493)
  have ne_q20_q545 : q20 ≠ q545 := fun e => hqq545 (e ▸ i495)
  have ne_q34_q545 : q34 ≠ q545 := fun e => hqq545 (e ▸ i497)
  have ne_q51_q545 : q51 ≠ q545 := fun e => hqq545 (e ▸ i499)
  have ne_q71_q545 : q71 ≠ q545 := fun e => hqq545 (e ▸ i501)
  have ne_q94_q545 : q94 ≠ q545 := fun e => hqq545 (e ▸ i503)
  have ne_q120_q545 : q120 ≠ q545 := fun e => hqq545 (e ▸ i505)
  have ne_q149_q545 : q149 ≠ q545 := fun e => hqq545 (e ▸ i507)
  have ne_q181_q545 : q181 ≠ q545 := fun e => hqq545 (e ▸ i509)
  have ne_q216_q545 : q216 ≠ q545 := fun e => hqq545 (e ▸ i511)
  have ne_q254_q545 : q254 ≠ q545 := fun e => hqq545 (e ▸ i513)
  have ne_q295_q545 : q295 ≠ q545 := fun e => hqq545 (e ▸ i515)
  have ne_q339_q545 : q339 ≠ q545 := fun e => hqq545 (e ▸ i517)
  have ne_q386_q545 : q386 ≠ q545 := fun e => hqq545 (e ▸ i519)
  have ne_q436_q545 : q436 ≠ q545 := fun e => hqq545 (e ▸ i521)
  have ne_q489_q545 : q489 ≠ q545 := fun e => hqq545 (e ▸ iqq489)
  have ne_h_q545 : h ≠ q545 := fun e => hqq545 (e ▸ i523)
  obtain ⟨L546, eL546⟩ : ∃ z, z = L490 ++ [q545] := ⟨_, rfl⟩
  obtain ⟨f546, ef546⟩ : ∃ z, z = va_up f525 q545 (.inl (cq545, 17, .inl (fun _ => 0))) := ⟨_, rfl⟩
  rw [← eL546, ← ef546] at hP
  obtain ⟨t546, et546⟩ : ∃ z, z = t490 ++ [(cq545, .boolean)] := ⟨_, rfl⟩
  rw [← et546] at hK
  have hy546 : ∀ z ∈ t490, z ∈ t546 := fun z hz => by rw [et546]; exact List.mem_append_left _ hz
  have hi546 : ∀ z ∈ L490, z ∈ L546 := fun z hz => by rw [eL546]; exact List.mem_append_left _ hz
  have he546 : ∀ z ∈ L490, f546 z = f525 z := fun z hz => by rw [ef546]; exact va_up_ne _ _ (fun e => hqq545 (e ▸ hz))
  have hG : Gro L f tys h sz (L546, f546, t546) := by rw [eL546, ef546, et546]; exact (hG.new hqq545 (w9 hAq545)).ty
  have hn : L546.Nodup := hG.1
  have hA : ∀ a ∈ L546, (gA L sz) a := fun a ha => by rw [eL546] at ha; rcases List.mem_append.mp ha with h9 | h9; exact hA a h9; rw [List.mem_singleton.mp h9]; exact hAq545
  have i547 : q1 ∈ L546 := hi546 _ i491
  have p548 : mm_I t546 f546 q1 32 (fun _ => 0) := (p527.eq (he546 _ i491)).more hy546
  have i549 : q9 ∈ L546 := hi546 _ i493
  have p550 : mm_I t546 f546 q9 32 (fun _ => 0) := (p528.eq (he546 _ i493)).more hy546
  have i551 : q20 ∈ L546 := hi546 _ i495
  have p552 : mm_I t546 f546 q20 32 (fun _ => 0) := (p529.eq (he546 _ i495)).more hy546
  have i553 : q34 ∈ L546 := hi546 _ i497
  have p554 : mm_I t546 f546 q34 8 (fun _ => 0) := (p530.eq (he546 _ i497)).more hy546
  have i555 : q51 ∈ L546 := hi546 _ i499
  have p556 : mm_I t546 f546 q51 64 (fun _ => 0) := (p531.eq (he546 _ i499)).more hy546
  have i557 : q71 ∈ L546 := hi546 _ i501
  have p558 : mm_I t546 f546 q71 64 (fun _ => 0) := (p532.eq (he546 _ i501)).more hy546
  have i559 : q94 ∈ L546 := hi546 _ i503
  have p560 : mm_I t546 f546 q94 64 (fun _ => 0) := (p533.eq (he546 _ i503)).more hy546
  have i561 : q120 ∈ L546 := hi546 _ i505
  have p562 : mm_I t546 f546 q120 64 (fun _ => 0) := (p534.eq (he546 _ i505)).more hy546
  have i563 : q149 ∈ L546 := hi546 _ i507
  have p564 : mm_I t546 f546 q149 64 (fun _ => 0) := (p535.eq (he546 _ i507)).more hy546
  have i565 : q181 ∈ L546 := hi546 _ i509
  have p566 : mm_I t546 f546 q181 4 (fun _ => 0) := (p536.eq (he546 _ i509)).more hy546
  have i567 : q216 ∈ L546 := hi546 _ i511
  have p568 : mm_I t546 f546 q216 64 (fun _ => 0) := (p537.eq (he546 _ i511)).more hy546
  have i569 : q254 ∈ L546 := hi546 _ i513
  have p570 : mm_I t546 f546 q254 64 (fun _ => 0) := (p538.eq (he546 _ i513)).more hy546
  have i571 : q295 ∈ L546 := hi546 _ i515
  have p572 : mm_I t546 f546 q295 64 (fun _ => 0) := (p539.eq (he546 _ i515)).more hy546
  have i573 : q339 ∈ L546 := hi546 _ i517
  have p574 : mm_I t546 f546 q339 4 (fun _ => 0) := (p540.eq (he546 _ i517)).more hy546
  have i575 : q386 ∈ L546 := hi546 _ i519
  have p576 : mm_I t546 f546 q386 24 (fun _ => 0) := (p541.eq (he546 _ i519)).more hy546
  have i577 : q436 ∈ L546 := hi546 _ i521
  have p578 : mm_I t546 f546 q436 4 (fun _ => 0) := (p542.eq (he546 _ i521)).more hy546
  have i579 : q489 ∈ L546 := hi546 _ iqq489
  have p580 : mm_J t546 f546 q489 169 (fun _ => 0) := (p543.eq (he546 _ iqq489)).more hy546
  have i581 : h ∈ L546 := hi546 _ i523
  have p582 : f546 h = .inr (6, [.int 0, .ref q1, .ref q9, .ref q20, .ref q34, .ref q51, .ref q71, .ref q94, .ref q120, .ref q149, .ref q181, .ref q216, .ref q254, .ref q295, .ref q339, .ref q386, .ref q436, .ref q489, .int 0, .int 0, .int 0, .int 0, .int 0, .null, .int 0, .int 0, .int 0, .long 0, .int 0]) := (he546 _ i523).trans p544
  have iqq545 : q545 ∈ L546 := by rw [eL546]; exact List.mem_append_right _ (List.mem_singleton.mpr rfl)
  have nqq545 : q545 ∉ L := n9 hG0 hqq545
  have hG0 : ∀ a ∈ L, a ∈ L546 := fun a ha => (hG.2.2.1 a ha).1
  have pqq545 : mm_Z t546 f546 q545 17 (fun _ => 0) := ⟨cq545, by rw [ef546]; exact va_up_self _ _ _, by rw [et546]; exact List.mem_append_right _ (List.mem_singleton.mpr rfl)⟩
  refine mg_putF (v := .ref q545) (ty := .array .boolean) hx hb hg inM tyM tyM_ok nmM hown hK hn hA hP hS i581 p582 rfl 23 (by decide) (hg _ gw616) (fun _ h9 => h9) rfl hnm9 rfl (by decide +kernel) rfl rfl (Nat.le_of_ble_eq_true rfl) dM_init_143 (fun H locs hP hS => ?_)
  obtain ⟨f583, hf583⟩ : ∃ z, z = va_up f546 h (.inr (6, [.int 0, .ref q1, .ref q9, .ref q20, .ref q34, .ref q51, .ref q71, .ref q94, .ref q120, .ref q149, .ref q181, .ref q216, .ref q254, .ref q295, .ref q339, .ref q386, .ref q436, .ref q489, .int 0, .int 0, .int 0, .int 0, .int 0, .ref q545, .int 0, .int 0, .int 0, .long 0, .int 0])) := ⟨_, rfl⟩
  have hP : va_P D zCl (va_pl L546 f583) H := by rw [hf583]; exact hP
  have hs584 : Same1 f546 f583 h := fun z hz => by rw [hf583, va_up_ne _ _ hz]
  have hG : Gro L f tys h sz (L546, f583, t546) := hG.put (Or.inl rfl) hs584
  have p585 : mm_I t546 f583 q1 32 (fun _ => 0) := p548.eq (hs584 _ (Ne.symm ne_h_q1))
  have p586 : mm_I t546 f583 q9 32 (fun _ => 0) := p550.eq (hs584 _ (Ne.symm ne_h_q9))
  have p587 : mm_I t546 f583 q20 32 (fun _ => 0) := p552.eq (hs584 _ (Ne.symm ne_h_q20))
  have p588 : mm_I t546 f583 q34 8 (fun _ => 0) := p554.eq (hs584 _ (Ne.symm ne_h_q34))
  have p589 : mm_I t546 f583 q51 64 (fun _ => 0) := p556.eq (hs584 _ (Ne.symm ne_h_q51))
  have p590 : mm_I t546 f583 q71 64 (fun _ => 0) := p558.eq (hs584 _ (Ne.symm ne_h_q71))
  have p591 : mm_I t546 f583 q94 64 (fun _ => 0) := p560.eq (hs584 _ (Ne.symm ne_h_q94))
  have p592 : mm_I t546 f583 q120 64 (fun _ => 0) := p562.eq (hs584 _ (Ne.symm ne_h_q120))
  have p593 : mm_I t546 f583 q149 64 (fun _ => 0) := p564.eq (hs584 _ (Ne.symm ne_h_q149))
  have p594 : mm_I t546 f583 q181 4 (fun _ => 0) := p566.eq (hs584 _ (Ne.symm ne_h_q181))
  have p595 : mm_I t546 f583 q216 64 (fun _ => 0) := p568.eq (hs584 _ (Ne.symm ne_h_q216))
  have p596 : mm_I t546 f583 q254 64 (fun _ => 0) := p570.eq (hs584 _ (Ne.symm ne_h_q254))
  have p597 : mm_I t546 f583 q295 64 (fun _ => 0) := p572.eq (hs584 _ (Ne.symm ne_h_q295))
  have p598 : mm_I t546 f583 q339 4 (fun _ => 0) := p574.eq (hs584 _ (Ne.symm ne_h_q339))
  have p599 : mm_I t546 f583 q386 24 (fun _ => 0) := p576.eq (hs584 _ (Ne.symm ne_h_q386))
  have p600 : mm_I t546 f583 q436 4 (fun _ => 0) := p578.eq (hs584 _ (Ne.symm ne_h_q436))
  have p601 : mm_J t546 f583 q489 169 (fun _ => 0) := p580.eq (hs584 _ (Ne.symm ne_h_q489))
  have p602 : mm_Z t546 f583 q545 17 (fun _ => 0) := pqq545.eq (hs584 _ (Ne.symm ne_h_q545))
  have p603 : f583 h = .inr (6, [.int 0, .ref q1, .ref q9, .ref q20, .ref q34, .ref q51, .ref q71, .ref q94, .ref q120, .ref q149, .ref q181, .ref q216, .ref q254, .ref q295, .ref q339, .ref q386, .ref q436, .ref q489, .int 0, .int 0, .int 0, .int 0, .int 0, .ref q545, .int 0, .int 0, .int 0, .long 0, .int 0]) := by rw [hf583]; exact va_up_self _ _ _
  have fa : ∀ {P : Nat → Nat → Prop}, P 0 q1 → P 1 q9 → P 2 q20 → P 3 q34 → P 4 q51 → P 5 q71 → P 6 q94 → P 7 q120 → P 8 q149 → P 9 q181 → P 10 q216 → P 11 q254 → P 12 q295 → P 13 q339 → P 14 q386 → P 15 q436 → ∀ k, k < 16 → P k ((fun k => if k = 0 then q1 else if k = 1 then q9 else if k = 2 then q20 else if k = 3 then q34 else if k = 4 then q51 else if k = 5 then q71 else if k = 6 then q94 else if k = 7 then q120 else if k = 8 then q149 else if k = 9 then q181 else if k = 10 then q216 else if k = 11 then q254 else if k = 12 then q295 else if k = 13 then q339 else if k = 14 then q386 else q436) k) := fun {P} x0 x1 x2 x3 x4 x5 x6 x7 x8 x9 x10 x11 x12 x13 x14 x15 k hk => by
    rcases (show k = 0 ∨ k = 1 ∨ k = 2 ∨ k = 3 ∨ k = 4 ∨ k = 5 ∨ k = 6 ∨ k = 7 ∨ k = 8 ∨ k = 9 ∨ k = 10 ∨ k = 11 ∨ k = 12 ∨ k = 13 ∨ k = 14 ∨ k = 15 by omega) with rfl | rfl | rfl | rfl | rfl | rfl | rfl | rfl | rfl | rfl | rfl | rfl | rfl | rfl | rfl | rfl
    · exact x0
    · exact x1
    · exact x2
    · exact x3
    · exact x4
    · exact x5
    · exact x6
    · exact x7
    · exact x8
    · exact x9
    · exact x10
    · exact x11
    · exact x12
    · exact x13
    · exact x14
    · exact x15
  refine ret_g C0 hK hP hS ⟨hG, (fun k => if k = 0 then q1 else if k = 1 then q9 else if k = 2 then q20 else if k = 3 then q34 else if k = 4 then q51 else if k = 5 then q71 else if k = 6 then q94 else if k = 7 then q120 else if k = 8 then q149 else if k = 9 then q181 else if k = 10 then q216 else if k = 11 then q254 else if k = 12 then q295 else if k = 13 then q339 else if k = 14 then q386 else q436), q489, q545, fa (P := fun _ a => a ∉ L) nqq1 nqq9 nqq20 nqq34 nqq51 nqq71 nqq94 nqq120 nqq149 nqq181 nqq216 nqq254 nqq295 nqq339 nqq386 nqq436, nqq489, nqq545, fun i j hi hj => fa (P := fun i a => ∀ j, j < 16 → i ≠ j → a ≠ (fun k => if k = 0 then q1 else if k = 1 then q9 else if k = 2 then q20 else if k = 3 then q34 else if k = 4 then q51 else if k = 5 then q71 else if k = 6 then q94 else if k = 7 then q120 else if k = 8 then q149 else if k = 9 then q181 else if k = 10 then q216 else if k = 11 then q254 else if k = 12 then q295 else if k = 13 then q339 else if k = 14 then q386 else q436) j) (fa (P := fun j a => 0 ≠ j → q1 ≠ a) (fun z => absurd rfl z) (fun _ => ne_q1_q9) (fun _ => ne_q1_q20) (fun _ => ne_q1_q34) (fun _ => ne_q1_q51) (fun _ => ne_q1_q71) (fun _ => ne_q1_q94) (fun _ => ne_q1_q120) (fun _ => ne_q1_q149) (fun _ => ne_q1_q181) (fun _ => ne_q1_q216) (fun _ => ne_q1_q254) (fun _ => ne_q1_q295) (fun _ => ne_q1_q339) (fun _ => ne_q1_q386) (fun _ => ne_q1_q436)) (fa (P := fun j a => 1 ≠ j → q9 ≠ a) (fun _ => Ne.symm ne_q1_q9) (fun z => absurd rfl z) (fun _ => ne_q9_q20) (fun _ => ne_q9_q34) (fun _ => ne_q9_q51) (fun _ => ne_q9_q71) (fun _ => ne_q9_q94) (fun _ => ne_q9_q120) (fun _ => ne_q9_q149) (fun _ => ne_q9_q181) (fun _ => ne_q9_q216) (fun _ => ne_q9_q254) (fun _ => ne_q9_q295) (fun _ => ne_q9_q339) (fun _ => ne_q9_q386) (fun _ => ne_q9_q436)) (fa (P := fun j a => 2 ≠ j → q20 ≠ a) (fun _ => Ne.symm ne_q1_q20) (fun _ => Ne.symm ne_q9_q20) (fun z => absurd rfl z) (fun _ => ne_q20_q34) (fun _ => ne_q20_q51) (fun _ => ne_q20_q71) (fun _ => ne_q20_q94) (fun _ => ne_q20_q120) (fun _ => ne_q20_q149) (fun _ => ne_q20_q181) (fun _ => ne_q20_q216) (fun _ => ne_q20_q254) (fun _ => ne_q20_q295) (fun _ => ne_q20_q339) (fun _ => ne_q20_q386) (fun _ => ne_q20_q436)) (fa (P := fun j a => 3 ≠ j → q34 ≠ a) (fun _ => Ne.symm ne_q1_q34) (fun _ => Ne.symm ne_q9_q34) (fun _ => Ne.symm ne_q20_q34) (fun z => absurd rfl z) (fun _ => ne_q34_q51) (fun _ => ne_q34_q71) (fun _ => ne_q34_q94) (fun _ => ne_q34_q120) (fun _ => ne_q34_q149) (fun _ => ne_q34_q181) (fun _ => ne_q34_q216) (fun _ => ne_q34_q254) (fun _ => ne_q34_q295) (fun _ => ne_q34_q339) (fun _ => ne_q34_q386) (fun _ => ne_q34_q436)) (fa (P := fun j a => 4 ≠ j → q51 ≠ a) (fun _ => Ne.symm ne_q1_q51) (fun _ => Ne.symm ne_q9_q51) (fun _ => Ne.symm ne_q20_q51) (fun _ => Ne.symm ne_q34_q51) (fun z => absurd rfl z) (fun _ => ne_q51_q71) (fun _ => ne_q51_q94) (fun _ => ne_q51_q120) (fun _ => ne_q51_q149) (fun _ => ne_q51_q181) (fun _ => ne_q51_q216) (fun _ => ne_q51_q254) (fun _ => ne_q51_q295) (fun _ => ne_q51_q339) (fun _ => ne_q51_q386) (fun _ => ne_q51_q436)) (fa (P := fun j a => 5 ≠ j → q71 ≠ a) (fun _ => Ne.symm ne_q1_q71) (fun _ => Ne.symm ne_q9_q71) (fun _ => Ne.symm ne_q20_q71) (fun _ => Ne.symm ne_q34_q71) (fun _ => Ne.symm ne_q51_q71) (fun z => absurd rfl z) (fun _ => ne_q71_q94) (fun _ => ne_q71_q120) (fun _ => ne_q71_q149) (fun _ => ne_q71_q181) (fun _ => ne_q71_q216) (fun _ => ne_q71_q254) (fun _ => ne_q71_q295) (fun _ => ne_q71_q339) (fun _ => ne_q71_q386) (fun _ => ne_q71_q436)) (fa (P := fun j a => 6 ≠ j → q94 ≠ a) (fun _ => Ne.symm ne_q1_q94) (fun _ => Ne.symm ne_q9_q94) (fun _ => Ne.symm ne_q20_q94) (fun _ => Ne.symm ne_q34_q94) (fun _ => Ne.symm ne_q51_q94) (fun _ => Ne.symm ne_q71_q94) (fun z => absurd rfl z) (fun _ => ne_q94_q120) (fun _ => ne_q94_q149) (fun _ => ne_q94_q181) (fun _ => ne_q94_q216) (fun _ => ne_q94_q254) (fun _ => ne_q94_q295) (fun _ => ne_q94_q339) (fun _ => ne_q94_q386) (fun _ => ne_q94_q436)) (fa (P := fun j a => 7 ≠ j → q120 ≠ a) (fun _ => Ne.symm ne_q1_q120) (fun _ => Ne.symm ne_q9_q120) (fun _ => Ne.symm ne_q20_q120) (fun _ => Ne.symm ne_q34_q120) (fun _ => Ne.symm ne_q51_q120) (fun _ => Ne.symm ne_q71_q120) (fun _ => Ne.symm ne_q94_q120) (fun z => absurd rfl z) (fun _ => ne_q120_q149) (fun _ => ne_q120_q181) (fun _ => ne_q120_q216) (fun _ => ne_q120_q254) (fun _ => ne_q120_q295) (fun _ => ne_q120_q339) (fun _ => ne_q120_q386) (fun _ => ne_q120_q436)) (fa (P := fun j a => 8 ≠ j → q149 ≠ a) (fun _ => Ne.symm ne_q1_q149) (fun _ => Ne.symm ne_q9_q149) (fun _ => Ne.symm ne_q20_q149) (fun _ => Ne.symm ne_q34_q149) (fun _ => Ne.symm ne_q51_q149) (fun _ => Ne.symm ne_q71_q149) (fun _ => Ne.symm ne_q94_q149) (fun _ => Ne.symm ne_q120_q149) (fun z => absurd rfl z) (fun _ => ne_q149_q181) (fun _ => ne_q149_q216) (fun _ => ne_q149_q254) (fun _ => ne_q149_q295) (fun _ => ne_q149_q339) (fun _ => ne_q149_q386) (fun _ => ne_q149_q436)) (fa (P := fun j a => 9 ≠ j → q181 ≠ a) (fun _ => Ne.symm ne_q1_q181) (fun _ => Ne.symm ne_q9_q181) (fun _ => Ne.symm ne_q20_q181) (fun _ => Ne.symm ne_q34_q181) (fun _ => Ne.symm ne_q51_q181) (fun _ => Ne.symm ne_q71_q181) (fun _ => Ne.symm ne_q94_q181) (fun _ => Ne.symm ne_q120_q181) (fun _ => Ne.symm ne_q149_q181) (fun z => absurd rfl z) (fun _ => ne_q181_q216) (fun _ => ne_q181_q254) (fun _ => ne_q181_q295) (fun _ => ne_q181_q339) (fun _ => ne_q181_q386) (fun _ => ne_q181_q436)) (fa (P := fun j a => 10 ≠ j → q216 ≠ a) (fun _ => Ne.symm ne_q1_q216) (fun _ => Ne.symm ne_q9_q216) (fun _ => Ne.symm ne_q20_q216) (fun _ => Ne.symm ne_q34_q216) (fun _ => Ne.symm ne_q51_q216) (fun _ => Ne.symm ne_q71_q216) (fun _ => Ne.symm ne_q94_q216) (fun _ => Ne.symm ne_q120_q216) (fun _ => Ne.symm ne_q149_q216) (fun _ => Ne.symm ne_q181_q216) (fun z => absurd rfl z) (fun _ => ne_q216_q254) (fun _ => ne_q216_q295) (fun _ => ne_q216_q339) (fun _ => ne_q216_q386) (fun _ => ne_q216_q436)) (fa (P := fun j a => 11 ≠ j → q254 ≠ a) (fun _ => Ne.symm ne_q1_q254) (fun _ => Ne.symm ne_q9_q254) (fun _ => Ne.symm ne_q20_q254) (fun _ => Ne.symm ne_q34_q254) (fun _ => Ne.symm ne_q51_q254) (fun _ => Ne.symm ne_q71_q254) (fun _ => Ne.symm ne_q94_q254) (fun _ => Ne.symm ne_q120_q254) (fun _ => Ne.symm ne_q149_q254) (fun _ => Ne.symm ne_q181_q254) (fun _ => Ne.symm ne_q216_q254) (fun z => absurd rfl z) (fun _ => ne_q254_q295) (fun _ => ne_q254_q339) (fun _ => ne_q254_q386) (fun _ => ne_q254_q436)) (fa (P := fun j a => 12 ≠ j → q295 ≠ a) (fun _ => Ne.symm ne_q1_q295) (fun _ => Ne.symm ne_q9_q295) (fun _ => Ne.symm ne_q20_q295) (fun _ => Ne.symm ne_q34_q295) (fun _ => Ne.symm ne_q51_q295) (fun _ => Ne.symm ne_q71_q295) (fun _ => Ne.symm ne_q94_q295) (fun _ => Ne.symm ne_q120_q295) (fun _ => Ne.symm ne_q149_q295) (fun _ => Ne.symm ne_q181_q295) (fun _ => Ne.symm ne_q216_q295) (fun _ => Ne.symm ne_q254_q295) (fun z => absurd rfl z) (fun _ => ne_q295_q339) (fun _ => ne_q295_q386) (fun _ => ne_q295_q436)) (fa (P := fun j a => 13 ≠ j → q339 ≠ a) (fun _ => Ne.symm ne_q1_q339) (fun _ => Ne.symm ne_q9_q339) (fun _ => Ne.symm ne_q20_q339) (fun _ => Ne.symm ne_q34_q339) (fun _ => Ne.symm ne_q51_q339) (fun _ => Ne.symm ne_q71_q339) (fun _ => Ne.symm ne_q94_q339) (fun _ => Ne.symm ne_q120_q339) (fun _ => Ne.symm ne_q149_q339) (fun _ => Ne.symm ne_q181_q339) (fun _ => Ne.symm ne_q216_q339) (fun _ => Ne.symm ne_q254_q339) (fun _ => Ne.symm ne_q295_q339) (fun z => absurd rfl z) (fun _ => ne_q339_q386) (fun _ => ne_q339_q436)) (fa (P := fun j a => 14 ≠ j → q386 ≠ a) (fun _ => Ne.symm ne_q1_q386) (fun _ => Ne.symm ne_q9_q386) (fun _ => Ne.symm ne_q20_q386) (fun _ => Ne.symm ne_q34_q386) (fun _ => Ne.symm ne_q51_q386) (fun _ => Ne.symm ne_q71_q386) (fun _ => Ne.symm ne_q94_q386) (fun _ => Ne.symm ne_q120_q386) (fun _ => Ne.symm ne_q149_q386) (fun _ => Ne.symm ne_q181_q386) (fun _ => Ne.symm ne_q216_q386) (fun _ => Ne.symm ne_q254_q386) (fun _ => Ne.symm ne_q295_q386) (fun _ => Ne.symm ne_q339_q386) (fun z => absurd rfl z) (fun _ => ne_q386_q436)) (fa (P := fun j a => 15 ≠ j → q436 ≠ a) (fun _ => Ne.symm ne_q1_q436) (fun _ => Ne.symm ne_q9_q436) (fun _ => Ne.symm ne_q20_q436) (fun _ => Ne.symm ne_q34_q436) (fun _ => Ne.symm ne_q51_q436) (fun _ => Ne.symm ne_q71_q436) (fun _ => Ne.symm ne_q94_q436) (fun _ => Ne.symm ne_q120_q436) (fun _ => Ne.symm ne_q149_q436) (fun _ => Ne.symm ne_q181_q436) (fun _ => Ne.symm ne_q216_q436) (fun _ => Ne.symm ne_q254_q436) (fun _ => Ne.symm ne_q295_q436) (fun _ => Ne.symm ne_q339_q436) (fun _ => Ne.symm ne_q386_q436) (fun z => absurd rfl z)) i hi j hj, ⟨⟨⟨i581, i579, iqq545⟩, ?_⟩, ?_, ⟨_, p601⟩, p602⟩⟩ dM_init_146
  · exact fa (P := fun k a => a ∈ L546 ∧ mm_I t546 f583 a (mlen k) (fun _ => 0)) ⟨i547, p585⟩ ⟨i549, p586⟩ ⟨i551, p587⟩ ⟨i553, p588⟩ ⟨i555, p589⟩ ⟨i557, p590⟩ ⟨i559, p591⟩ ⟨i561, p592⟩ ⟨i563, p593⟩ ⟨i565, p594⟩ ⟨i567, p595⟩ ⟨i569, p596⟩ ⟨i571, p597⟩ ⟨i573, p598⟩ ⟨i575, p599⟩ ⟨i577, p600⟩
  · exact p603
