/-! Relations and Statement -/
theorem mm_OO {f : Nat → va_E} {a b i j : Nat} {fs gs : List Value} (h1 : f a = .inr (i, fs)) (h2 : f b = .inr (j, gs)) (hij : i ≠ j) : a ≠ b := by
  rintro rfl
  rw [h1] at h2
  cases h2
  exact hij rfl
theorem mm_II {tys : List (ClassId × FieldType)} {f : Nat → va_E} {a b n k : Nat} {g g' : Nat → Int32} (h1 : mm_I tys f a n g) (h2 : mm_I tys f b k g') (hij : n ≠ k) : a ≠ b := by
  rintro rfl
  obtain ⟨c1, e1, -⟩ := h1
  obtain ⟨c2, e2, -⟩ := h2
  rw [e1] at e2
  cases e2
  exact hij rfl
theorem mm_IQ {tys : List (ClassId × FieldType)} {C : String} {f : Nat → va_E} {a b n k : Nat} {g : Nat → Int32} {g' : Nat → Option Nat} (h1 : mm_I tys f a n g) (h2 : mm_Q tys C f b k g') : a ≠ b := by
  rintro rfl
  obtain ⟨c1, e1, -⟩ := h1
  obtain ⟨c2, e2, -⟩ := h2
  rw [e1] at e2
  cases e2
def nf (x u v : Nat) : Nat := if x = 1 then u else if x = 2 then v else x
theorem nf_lt {x u v : Nat} (hx : x < 4) (hu : u < 12) (hv : v < 12) : nf x u v < 12 := by
  unfold nf
  split
  · exact hu
  · split
    · exact hv
    · omega
/-- all relations learned; all shown -/
def kl_rel (u v : Nat) (xa xb : Nat → Nat) (xk : Nat → Int32) (j : Nat) (K : kl_K) : kl_K := kl_learn (nf (xa j) u v) (nf (xb j) u v) (xk j).toInt K
def kl_sh (u v : Nat) (xa xb : Nat → Nat) (xk : Nat → Int32) (K : kl_K) (j : Nat) : Bool := kl_le (K.2 (nf (xa j) u v) (nf (xb j) u v)) (xk j).toInt
def allB (p : Nat → Bool) : Nat → Nat → Bool
  | 0, _ => true
  | n + 1, i => p i && allB p n (i + 1)
set_option maxRecDepth 100000 in
set_option maxHeartbeats 4000000 in
theorem r_nameFor {l : Launch} {D : va_G} {tys : List (ClassId × FieldType)} {L : List Nat} {f : Nat → va_E} (hn : L.Nodup) {x u v : Nat} (hx0 : x < 4) : MetI l yR_nameFor wR_nameFor ({ frames := 0, cells := 0, slots := 0, locals := 0 } : Room) D tys L f [.int (nI x), .int (nI u), .int (nI v)] (fun r f' => r = nI (nf x u v) ∧ f' = f) := by
  refine met_of "LiquidChecker$Relations" (by decide) rfl (Nat.le_of_ble_eq_true rfl) ?_
  intro p e s m below meth c ls C0 hP hl
  obtain ⟨hx, hb, hml, hown, hg, hr, hlocks, hK, hN⟩ := id C0
  have hA : ∀ a ∈ L, inL L a := fun _ h => h
  obtain ⟨H, hH⟩ : ∃ z, z = s.heap := ⟨_, rfl⟩
  rw [← hH] at hP ⊢
  have hS : va_S (inL L) s.heap H [] := by rw [hH]; exact va_S.rf
  have hl : lv_has ls 3 [(0, .int (nI x)), (1, .int (nI u)), (2, .int (nI v))] := hl
  refine lv_iload_n hx hb dR_nameFor_0 rfl (lv_at hl 0 rfl) ?_
  refine lv_iconst (v := nI 1) hx hb dR_nameFor_1 (by decide) ?_
  refine lv_icmp_ne (tgt := 7) hx hb dR_nameFor_2 (by decide) (fun c2 => ?_) (fun c2 => ?_)
  · refine lv_iload_n hx hb dR_nameFor_7 rfl (lv_at hl 0 rfl) ?_
    refine lv_iconst (v := nI 2) hx hb dR_nameFor_8 (by decide) ?_
    refine lv_icmp_ne (tgt := 16) hx hb dR_nameFor_9 (by decide) (fun c9 => ?_) (fun c9 => ?_)
    · refine lv_iload_n hx hb dR_nameFor_16 rfl (lv_at hl 0 rfl) ?_
      exact ret_i C0 hP hS ⟨congrArg nI (Eq.symm ((if_neg (fun z => c2 (by rw [z]))).trans (if_neg (fun z => c9 (by rw [z]))))), rfl⟩ dR_nameFor_17
    · refine lv_iload_n hx hb dR_nameFor_12 rfl (lv_at hl 2 rfl) ?_
      refine lv_goto (tgt := 17) hx hb dR_nameFor_13 (by decide) ?_
      exact ret_i C0 hP hS ⟨congrArg nI (Eq.symm ((if_neg (fun z => c2 (by rw [z]))).trans (if_pos ((nI_eq (by omega) (by omega)).mp c9)))), rfl⟩ dR_nameFor_17
  · refine lv_iload_n hx hb dR_nameFor_5 rfl (lv_at hl 1 rfl) ?_
    exact ret_i C0 hP hS ⟨congrArg nI (Eq.symm (if_pos ((nI_eq (by omega) (by omega)).mp c2))), rfl⟩ dR_nameFor_6
set_option maxRecDepth 100000 in
set_option maxHeartbeats 4000000 in
theorem r_append {l : Launch} {D : va_G} {tys : List (ClassId × FieldType)} {L : List Nat} {f : Nat → va_E} (hn : L.Nodup) {r ra rb rk N : Nat} {ga gb gk : Nat → Int32} (hrL : r ∈ L) (hraL : ra ∈ L) (hrbL : rb ∈ L) (hrkL : rk ∈ L) (r1 : f r = .inr (2, [.ref ra, .ref rb, .ref rk, .int (nI N)])) (r2 : mm_I tys f ra 4 ga) (r3 : mm_I tys f rb 4 gb) (r4 : mm_I tys f rk 4 gk) (hNr : N < 4) (n1 : ra ≠ rb) (n2 : ra ≠ rk) (n3 : rb ≠ rk) {a b k : Int32} : MetI l yR_append wR_append ({ frames := 0, cells := 0, slots := 0, locals := 0 } : Room) D tys L f [.ref r, .int a, .int b, .int k] (fun x f' => x = nI (N + 1) ∧ f' r = .inr (2, [.ref ra, .ref rb, .ref rk, .int (nI (N + 1))]) ∧ mm_I tys f' ra 4 (upd ga N a) ∧ mm_I tys f' rb 4 (upd gb N b) ∧ mm_I tys f' rk 4 (upd gk N k) ∧ ∀ z, z ≠ r → z ≠ ra → z ≠ rb → z ≠ rk → f' z = f z) := by
  refine met_of "LiquidChecker$Relations" (by decide) rfl (Nat.le_of_ble_eq_true rfl) ?_
  intro p e s m below meth c ls C0 hP hl
  obtain ⟨hx, hb, hml, hown, hg, hr, hlocks, hK, hN⟩ := id C0
  have hA : ∀ a ∈ L, inL L a := fun _ h => h
  obtain ⟨H, hH⟩ : ∃ z, z = s.heap := ⟨_, rfl⟩
  rw [← hH] at hP ⊢
  have hS : va_S (inL L) s.heap H [] := by rw [hH]; exact va_S.rf
  have hl : lv_has ls 4 [(0, .ref r), (1, .int a), (2, .int b), (3, .int k)] := hl
  refine lv_aload_n hx hb dR_append_0 rfl (lv_at hl 0 rfl) ?_
  refine mm_get (v := .ref ra) hx hb hg inR hown hK hP hrL r1 rfl 0 (by decide) (hg _ gw102) (fun _ h9 => h9) rfl dR_append_1 ?_
  refine lv_aload_n hx hb dR_append_4 rfl (lv_at hl 0 rfl) ?_
  refine mm_get (v := .int (nI N)) hx hb hg inR hown hK hP hrL r1 rfl 3 (by decide) (hg _ gw105) (fun _ h9 => h9) rfl dR_append_5 ?_
  refine lv_iload_n hx hb dR_append_8 rfl (lv_at hl 1 rfl) ?_
  refine mm_iast hx hb hK hn hA hP hS hraL r2 (vp_in_nI (show N < 4 by omega) (by omega)) dR_append_9 (fun H locs hP hS => ?_)
  rw [nI_clamp (by omega)] at hP
  obtain ⟨f1, hf1⟩ : ∃ z, z = mm_si f ra (upd ga N a) := ⟨_, rfl⟩
  have hP : va_P D zCl (va_pl L f1) H := by rw [hf1]; exact hP
  have p2 : f1 r = .inr (2, [.ref ra, .ref rb, .ref rk, .int (nI N)]) := by rw [hf1, mm_si_ne (mm_IO r2 r1)]; exact r1
  have p3 : mm_I tys f1 rb 4 gb := r3.eq (by rw [hf1, mm_si_ne (Ne.symm n1)])
  have p4 : mm_I tys f1 rk 4 gk := r4.eq (by rw [hf1, mm_si_ne (Ne.symm n2)])
  have p5 : mm_I tys f1 ra 4 (upd ga N a) := by rw [hf1]; exact r2.set
  refine lv_aload_n hx hb dR_append_10 rfl (lv_at hl 0 rfl) ?_
  refine mm_get (v := .ref rb) hx hb hg inR hown hK hP hrL p2 rfl 1 (by decide) (hg _ gw103) (fun _ h9 => h9) rfl dR_append_11 ?_
  refine lv_aload_n hx hb dR_append_14 rfl (lv_at hl 0 rfl) ?_
  refine mm_get (v := .int (nI N)) hx hb hg inR hown hK hP hrL p2 rfl 3 (by decide) (hg _ gw105) (fun _ h9 => h9) rfl dR_append_15 ?_
  refine lv_iload_n hx hb dR_append_18 rfl (lv_at hl 2 rfl) ?_
  refine mm_iast hx hb hK hn hA hP hS hrbL p3 (vp_in_nI (show N < 4 by omega) (by omega)) dR_append_19 (fun H locs hP hS => ?_)
  rw [nI_clamp (by omega)] at hP
  obtain ⟨f6, hf6⟩ : ∃ z, z = mm_si f1 rb (upd gb N b) := ⟨_, rfl⟩
  have hP : va_P D zCl (va_pl L f6) H := by rw [hf6]; exact hP
  have p7 : f6 r = .inr (2, [.ref ra, .ref rb, .ref rk, .int (nI N)]) := by rw [hf6, mm_si_ne (mm_IO p3 p2)]; exact p2
  have p8 : mm_I tys f6 rk 4 gk := p4.eq (by rw [hf6, mm_si_ne (Ne.symm n3)])
  have p9 : mm_I tys f6 ra 4 (upd ga N a) := p5.eq (by rw [hf6, mm_si_ne n1])
  have p10 : mm_I tys f6 rb 4 (upd gb N b) := by rw [hf6]; exact p3.set
  refine lv_aload_n hx hb dR_append_20 rfl (lv_at hl 0 rfl) ?_
  refine mm_get (v := .ref rk) hx hb hg inR hown hK hP hrL p7 rfl 2 (by decide) (hg _ gw104) (fun _ h9 => h9) rfl dR_append_21 ?_
  refine lv_aload_n hx hb dR_append_24 rfl (lv_at hl 0 rfl) ?_
  refine mm_get (v := .int (nI N)) hx hb hg inR hown hK hP hrL p7 rfl 3 (by decide) (hg _ gw105) (fun _ h9 => h9) rfl dR_append_25 ?_
  refine lv_iload_n hx hb dR_append_28 rfl (lv_at hl 3 rfl) ?_
  refine mm_iast hx hb hK hn hA hP hS hrkL p8 (vp_in_nI (show N < 4 by omega) (by omega)) dR_append_29 (fun H locs hP hS => ?_)
  rw [nI_clamp (by omega)] at hP
  obtain ⟨f11, hf11⟩ : ∃ z, z = mm_si f6 rk (upd gk N k) := ⟨_, rfl⟩
  have hP : va_P D zCl (va_pl L f11) H := by rw [hf11]; exact hP
  have p12 : f11 r = .inr (2, [.ref ra, .ref rb, .ref rk, .int (nI N)]) := by rw [hf11, mm_si_ne (mm_IO p8 p7)]; exact p7
  have p13 : mm_I tys f11 ra 4 (upd ga N a) := p9.eq (by rw [hf11, mm_si_ne n2])
  have p14 : mm_I tys f11 rb 4 (upd gb N b) := p10.eq (by rw [hf11, mm_si_ne n3])
  have p15 : mm_I tys f11 rk 4 (upd gk N k) := by rw [hf11]; exact p8.set
  refine lv_aload_n hx hb dR_append_30 rfl (lv_at hl 0 rfl) ?_
  refine lv_dup hx hb dR_append_31 rfl ?_
  refine mm_get (v := .int (nI N)) hx hb hg inR hown hK hP hrL p12 rfl 3 (by decide) (hg _ gw105) (fun _ h9 => h9) rfl dR_append_32 ?_
  refine lv_iconst (v := nI 1) hx hb dR_append_35 (by decide) ?_
  refine lv_iadd hx hb dR_append_36 ?_
  rw [nI_add]
  refine mm_put (v := .int (nI (N + 1))) (ty := .int) hx hb hg inR tyR tyR_ok nmR hown hK hn hA hP hS hrL p12 rfl 3 (by decide) (hg _ gw105) (fun _ h9 => h9) rfl (by decide +kernel) rfl rfl (Nat.le_of_ble_eq_true rfl) dR_append_37 (fun H locs hP hS => ?_)
  obtain ⟨f16, hf16⟩ : ∃ z, z = va_up f11 r (.inr (2, [.ref ra, .ref rb, .ref rk, .int (nI (N + 1))])) := ⟨_, rfl⟩
  have hP : va_P D zCl (va_pl L f16) H := by rw [hf16]; exact hP
  have p17 : mm_I tys f16 ra 4 (upd ga N a) := p13.eq (by rw [hf16, va_up_ne _ _ (Ne.symm (mm_IO p13 p12))])
  have p18 : mm_I tys f16 rb 4 (upd gb N b) := p14.eq (by rw [hf16, va_up_ne _ _ (Ne.symm (mm_IO p14 p12))])
  have p19 : mm_I tys f16 rk 4 (upd gk N k) := p15.eq (by rw [hf16, va_up_ne _ _ (Ne.symm (mm_IO p15 p12))])
  have p20 : f16 r = .inr (2, [.ref ra, .ref rb, .ref rk, .int (nI (N + 1))]) := by rw [hf16]; exact va_up_self _ _ _
  refine lv_aload_n hx hb dR_append_40 rfl (lv_at hl 0 rfl) ?_
  refine mm_get (v := .int (nI (N + 1))) hx hb hg inR hown hK hP hrL p20 rfl 3 (by decide) (hg _ gw105) (fun _ h9 => h9) rfl dR_append_41 ?_
  exact ret_i C0 hP hS ⟨rfl, p20, p17, p18, p19, fun z z1 z2 z3 z4 => by rw [hf16, hf11, hf6, hf1, va_up_ne _ _ z1, mm_si_ne z4, mm_si_ne z3, mm_si_ne z2]⟩ dR_append_44
set_option maxRecDepth 100000 in
set_option maxHeartbeats 4000000 in
theorem s_write {l : Launch} {D : va_G} {tys : List (ClassId × FieldType)} {L : List Nat} {f : Nat → va_E} (hn : L.Nodup) {q : Nat} {i0 i1 i2 i3 i4 i5 kd a b cc k : Int32} (hqL : q ∈ L) (q1 : f q = .inr (3, [.int i0, .int i1, .int i2, .int i3, .int i4, .int i5])) : MetV l yS_write wS_write ({ frames := 0, cells := 0, slots := 0, locals := 0 } : Room) D tys L f [.ref q, .int kd, .int a, .int b, .int cc, .int k] (fun f' => f' q = .inr (3, [.int kd, .int a, .int b, .int cc, .int k, .int (-1)]) ∧ ∀ z, z ≠ q → f' z = f z) := by
  refine met_of "LiquidChecker$Statement" (by decide) rfl (Nat.le_of_ble_eq_true rfl) ?_
  intro p e s m below meth c ls C0 hP hl
  obtain ⟨hx, hb, hml, hown, hg, hr, hlocks, hK, hN⟩ := id C0
  have hA : ∀ a ∈ L, inL L a := fun _ h => h
  obtain ⟨H, hH⟩ : ∃ z, z = s.heap := ⟨_, rfl⟩
  rw [← hH] at hP ⊢
  have hS : va_S (inL L) s.heap H [] := by rw [hH]; exact va_S.rf
  have hl : lv_has ls 6 [(0, .ref q), (1, .int kd), (2, .int a), (3, .int b), (4, .int cc), (5, .int k)] := hl
  refine lv_aload_n hx hb dS_write_0 rfl (lv_at hl 0 rfl) ?_
  refine lv_iload_n hx hb dS_write_1 rfl (lv_at hl 1 rfl) ?_
  refine mm_put (v := .int kd) (ty := .int) hx hb hg inS tyS tyS_ok nmS hown hK hn hA hP hS hqL q1 rfl 0 (by decide) (hg _ gw124) (fun _ h9 => h9) rfl (by decide +kernel) rfl rfl (Nat.le_of_ble_eq_true rfl) dS_write_2 (fun H locs hP hS => ?_)
  obtain ⟨f1, hf1⟩ : ∃ z, z = va_up f q (.inr (3, [.int kd, .int i1, .int i2, .int i3, .int i4, .int i5])) := ⟨_, rfl⟩
  have hP : va_P D zCl (va_pl L f1) H := by rw [hf1]; exact hP
  have p2 : f1 q = .inr (3, [.int kd, .int i1, .int i2, .int i3, .int i4, .int i5]) := by rw [hf1]; exact va_up_self _ _ _
  refine lv_aload_n hx hb dS_write_5 rfl (lv_at hl 0 rfl) ?_
  refine lv_iload_n hx hb dS_write_6 rfl (lv_at hl 2 rfl) ?_
  refine mm_put (v := .int a) (ty := .int) hx hb hg inS tyS tyS_ok nmS hown hK hn hA hP hS hqL p2 rfl 1 (by decide) (hg _ gw127) (fun _ h9 => h9) rfl (by decide +kernel) rfl rfl (Nat.le_of_ble_eq_true rfl) dS_write_7 (fun H locs hP hS => ?_)
  obtain ⟨f3, hf3⟩ : ∃ z, z = va_up f1 q (.inr (3, [.int kd, .int a, .int i2, .int i3, .int i4, .int i5])) := ⟨_, rfl⟩
  have hP : va_P D zCl (va_pl L f3) H := by rw [hf3]; exact hP
  have p4 : f3 q = .inr (3, [.int kd, .int a, .int i2, .int i3, .int i4, .int i5]) := by rw [hf3]; exact va_up_self _ _ _
  refine lv_aload_n hx hb dS_write_10 rfl (lv_at hl 0 rfl) ?_
  refine lv_iload_n hx hb dS_write_11 rfl (lv_at hl 3 rfl) ?_
  refine mm_put (v := .int b) (ty := .int) hx hb hg inS tyS tyS_ok nmS hown hK hn hA hP hS hqL p4 rfl 2 (by decide) (hg _ gw129) (fun _ h9 => h9) rfl (by decide +kernel) rfl rfl (Nat.le_of_ble_eq_true rfl) dS_write_12 (fun H locs hP hS => ?_)
  obtain ⟨f5, hf5⟩ : ∃ z, z = va_up f3 q (.inr (3, [.int kd, .int a, .int b, .int i3, .int i4, .int i5])) := ⟨_, rfl⟩
  have hP : va_P D zCl (va_pl L f5) H := by rw [hf5]; exact hP
  have p6 : f5 q = .inr (3, [.int kd, .int a, .int b, .int i3, .int i4, .int i5]) := by rw [hf5]; exact va_up_self _ _ _
  refine lv_aload_n hx hb dS_write_15 rfl (lv_at hl 0 rfl) ?_
  refine lv_iload hx hb dS_write_16 (lv_at hl 4 rfl) ?_
  refine mm_put (v := .int cc) (ty := .int) hx hb hg inS tyS tyS_ok nmS hown hK hn hA hP hS hqL p6 rfl 3 (by decide) (hg _ gw131) (fun _ h9 => h9) rfl (by decide +kernel) rfl rfl (Nat.le_of_ble_eq_true rfl) dS_write_18 (fun H locs hP hS => ?_)
  obtain ⟨f7, hf7⟩ : ∃ z, z = va_up f5 q (.inr (3, [.int kd, .int a, .int b, .int cc, .int i4, .int i5])) := ⟨_, rfl⟩
  have hP : va_P D zCl (va_pl L f7) H := by rw [hf7]; exact hP
  have p8 : f7 q = .inr (3, [.int kd, .int a, .int b, .int cc, .int i4, .int i5]) := by rw [hf7]; exact va_up_self _ _ _
  refine lv_aload_n hx hb dS_write_21 rfl (lv_at hl 0 rfl) ?_
  refine lv_iload hx hb dS_write_22 (lv_at hl 5 rfl) ?_
  refine mm_put (v := .int k) (ty := .int) hx hb hg inS tyS tyS_ok nmS hown hK hn hA hP hS hqL p8 rfl 4 (by decide) (hg _ gw133) (fun _ h9 => h9) rfl (by decide +kernel) rfl rfl (Nat.le_of_ble_eq_true rfl) dS_write_24 (fun H locs hP hS => ?_)
  obtain ⟨f9, hf9⟩ : ∃ z, z = va_up f7 q (.inr (3, [.int kd, .int a, .int b, .int cc, .int k, .int i5])) := ⟨_, rfl⟩
  have hP : va_P D zCl (va_pl L f9) H := by rw [hf9]; exact hP
  have p10 : f9 q = .inr (3, [.int kd, .int a, .int b, .int cc, .int k, .int i5]) := by rw [hf9]; exact va_up_self _ _ _
  refine lv_aload_n hx hb dS_write_27 rfl (lv_at hl 0 rfl) ?_
  refine lv_iconst (v := (-1)) hx hb dS_write_28 (by decide) ?_
  refine mm_put (v := .int (-1)) (ty := .int) hx hb hg inS tyS tyS_ok nmS hown hK hn hA hP hS hqL p10 rfl 5 (by decide) (hg _ gw135) (fun _ h9 => h9) rfl (by decide +kernel) rfl rfl (Nat.le_of_ble_eq_true rfl) dS_write_29 (fun H locs hP hS => ?_)
  obtain ⟨f11, hf11⟩ : ∃ z, z = va_up f9 q (.inr (3, [.int kd, .int a, .int b, .int cc, .int k, .int (-1)])) := ⟨_, rfl⟩
  have hP : va_P D zCl (va_pl L f11) H := by rw [hf11]; exact hP
  have p12 : f11 q = .inr (3, [.int kd, .int a, .int b, .int cc, .int k, .int (-1)]) := by rw [hf11]; exact va_up_self _ _ _
  exact ret_v C0 hP hS ⟨p12, fun z z1 => by rw [hf11, hf9, hf7, hf5, hf3, hf1, va_up_ne _ _ z1, va_up_ne _ _ z1, va_up_ne _ _ z1, va_up_ne _ _ z1, va_up_ne _ _ z1, va_up_ne _ _ z1]⟩ dS_write_32
set_option maxRecDepth 100000 in
set_option maxHeartbeats 4000000 in
theorem r_learned_loop {p : Program} {l : Launch} {e : Env} {s : State} {m : MethodId} {args : Array Value} {below : List Frame} {meth : Method} {c : Code} {D : va_G} {tys : List (ClassId × FieldType)} {L : List Nat} {f : Nat → va_E} {Q : State → Prop} (C0 : Cx p s m args meth c cR_learnedBy 5 "LiquidChecker$Relations" none D tys) (hn : L.Nodup) {r ra rb rk N : Nat} {ga gb gk : Nat → Int32} (hrL : r ∈ L) (hraL : ra ∈ L) (hrbL : rb ∈ L) (hrkL : rk ∈ L) (r1 : f r = .inr (2, [.ref ra, .ref rb, .ref rk, .int (nI N)])) (r2 : mm_I tys f ra 4 ga) (r3 : mm_I tys f rb 4 gb) (r4 : mm_I tys f rk 4 gk) (hNr : N ≤ 4) {h b : Nat} (hh : h ∈ L) (hbL : b ∈ L) {T : Int} (hT : T + 4004 ≤ 300000) {xa xb : Nat → Nat} {u v : Nat} (hu : u < 12) (hv : v < 12) (hra : ∀ j, j < N → ga j = nI (xa j) ∧ xa j < 4) (hrb : ∀ j, j < N → gb j = nI (xb j) ∧ xb j < 4) (hrk : ∀ j, j < N → -1001 ≤ (gk j).toInt ∧ (gk j).toInt ≤ 1001) (dr : r ≠ h) (hr2 : r ≠ b) (da1 : ra ≠ h) (da2 : ra ≠ b) (db1 : rb ≠ h) (db2 : rb ≠ b) (dk1 : rk ≠ h) (dk2 : rk ≠ b) : ∀ (n i : Nat) (K : kl_K) (f1 : Nat → va_E), i + n = N → KnAt tys f1 h b K → Same2 f f1 h b → kl_ok (T + 1001 * (i : Int)) K → ∀ (H : Heap) (locs : List Loc) (ls : Array Slot), va_P D zCl (va_pl L f1) H → va_S (inL L) s.heap H locs → lv_has ls 5 [(4, .int (nI i)), (0, .ref r), (1, .ref h), (2, .int (nI u)), (3, .int (nI v))] → (∀ (f1 : Nat → va_E) (H : Heap) (locs : List Loc) (ls : Array Slot), KnAt tys f1 h b (r_it (kl_rel u v xa xb gk) n i K) → Same2 f f1 h b → va_P D zCl (va_pl L f1) H → va_S (inL L) s.heap H locs → lv_has ls 5 [(4, .int (nI N)), (0, .ref r), (1, .ref h), (2, .int (nI u)), (3, .int (nI v))] → W p l e ({ frames := 1, cells := 0, slots := 0, locals := 28 } : Room) s m args below meth c H locs 0 0 Q (F0 m 53 ls [])) → W p l e ({ frames := 1, cells := 0, slots := 0, locals := 28 } : Room) s m args below meth c H locs 0 0 Q (F0 m 3 ls []) := by
  obtain ⟨hx, hb, hml, hown, hg, hr, hlocks, hK, hN⟩ := id C0
  have hA : ∀ a ∈ L, inL L a := fun _ h => h
  intro n
  induction n with
  | zero =>
    intro i K f1 hi hk hsm hok H locs ls hP hS hl hx2
    obtain rfl : N = i := by omega
    have z1 : f1 r = .inr (2, [.ref ra, .ref rb, .ref rk, .int (nI N)]) := by rw [hsm r dr hr2]; exact r1
    have z2 : mm_I tys f1 ra 4 ga := r2.eq (hsm ra da1 da2)
    have z3 : mm_I tys f1 rb 4 gb := r3.eq (hsm rb db1 db2)
    have z4 : mm_I tys f1 rk 4 gk := r4.eq (hsm rk dk1 dk2)
    refine lv_iload hx hb dR_learnedBy_3 (lv_at hl 0 rfl) ?_
    refine lv_aload_n hx hb dR_learnedBy_5 rfl (lv_at hl 1 rfl) ?_
    refine mm_get (v := .int (nI N)) hx hb hg inR hown hK hP hrL z1 rfl 3 (by decide) (hg _ gw105) (fun _ h9 => h9) rfl dR_learnedBy_6 ?_
    refine lv_icmp_ge (tgt := 53) hx hb dR_learnedBy_9 (by decide) (fun c9 => ?_) (fun c9 => absurd (nI_le (by omega) (by omega)) c9)
    exact hx2 f1 H locs ls hk hsm hP hS (lv_sub hl [0, 1, 2, 3, 4] rfl)
  | succ n ih =>
    intro i K f1 hi hk hsm hok H locs ls hP hS hl hx2
    have z1 : f1 r = .inr (2, [.ref ra, .ref rb, .ref rk, .int (nI N)]) := by rw [hsm r dr hr2]; exact r1
    have z2 : mm_I tys f1 ra 4 ga := r2.eq (hsm ra da1 da2)
    have z3 : mm_I tys f1 rb 4 gb := r3.eq (hsm rb db1 db2)
    have z4 : mm_I tys f1 rk 4 gk := r4.eq (hsm rk dk1 dk2)
    refine lv_iload hx hb dR_learnedBy_3 (lv_at hl 0 rfl) ?_
    refine lv_aload_n hx hb dR_learnedBy_5 rfl (lv_at hl 1 rfl) ?_
    refine mm_get (v := .int (nI N)) hx hb hg inR hown hK hP hrL z1 rfl 3 (by decide) (hg _ gw105) (fun _ h9 => h9) rfl dR_learnedBy_6 ?_
    refine lv_icmp_ge (tgt := 53) hx hb dR_learnedBy_9 (by decide) (fun c9 => absurd c9 (nI_ge (show i < N by omega) (by omega))) (fun c9 => ?_)
    refine lv_aload_n hx hb dR_learnedBy_12 rfl (lv_at hl 2 rfl) ?_
    refine lv_aload_n hx hb dR_learnedBy_13 rfl (lv_at hl 1 rfl) ?_
    refine mm_get (v := .ref ra) hx hb hg inR hown hK hP hrL z1 rfl 0 (by decide) (hg _ gw102) (fun _ h9 => h9) rfl dR_learnedBy_14 ?_
    refine lv_iload hx hb dR_learnedBy_17 (lv_at hl 0 rfl) ?_
    refine mm_iald hx hb hK hP hraL z2 (vp_in_nI (show i < 4 by omega) (by omega)) dR_learnedBy_19 ?_
    rw [nI_clamp (by omega)]
    rw [(hra i (by omega)).1]
    refine lv_iload_n hx hb dR_learnedBy_20 rfl (lv_at hl 3 rfl) ?_
    refine lv_iload_n hx hb dR_learnedBy_21 rfl (lv_at hl 4 rfl) ?_
    refine then_i (run_S (n := 3) (As := [.int (nI (xa i)), .int (nI u), .int (nI v)]) (rest := [.ref h]) C0 (r_nameFor hn (hra i (by omega)).2) gw427 gw425 gw426 gw5 (by decide +kernel) ⟨Nat.le_of_ble_eq_true rfl, Nat.le_of_ble_eq_true rfl⟩ rfl rfl ⟨Nat.le_of_ble_eq_true rfl, Nat.le_of_ble_eq_true rfl⟩ hP rfl hl.1 rfl (Nat.le_of_ble_eq_true rfl) dR_learnedBy_22) hS hA (fun r2 f1 H locs hq22 hP hS => ?_)
    obtain ⟨er2, ef1⟩ := hq22
    subst er2
    rw [ef1] at hP
    refine lv_aload_n hx hb dR_learnedBy_25 rfl (lv_at hl 1 rfl) ?_
    refine mm_get (v := .ref rb) hx hb hg inR hown hK hP hrL z1 rfl 1 (by decide) (hg _ gw103) (fun _ h9 => h9) rfl dR_learnedBy_26 ?_
    refine lv_iload hx hb dR_learnedBy_29 (lv_at hl 0 rfl) ?_
    refine mm_iald hx hb hK hP hrbL z3 (vp_in_nI (show i < 4 by omega) (by omega)) dR_learnedBy_31 ?_
    rw [nI_clamp (by omega)]
    rw [(hrb i (by omega)).1]
    refine lv_iload_n hx hb dR_learnedBy_32 rfl (lv_at hl 3 rfl) ?_
    refine lv_iload_n hx hb dR_learnedBy_33 rfl (lv_at hl 4 rfl) ?_
    refine then_i (run_S (n := 3) (As := [.int (nI (xb i)), .int (nI u), .int (nI v)]) (rest := [.int (nI (nf (xa i) u v)), .ref h]) C0 (r_nameFor hn (hrb i (by omega)).2) gw427 gw425 gw426 gw5 (by decide +kernel) ⟨Nat.le_of_ble_eq_true rfl, Nat.le_of_ble_eq_true rfl⟩ rfl rfl ⟨Nat.le_of_ble_eq_true rfl, Nat.le_of_ble_eq_true rfl⟩ hP rfl hl.1 rfl (Nat.le_of_ble_eq_true rfl) dR_learnedBy_34) hS hA (fun r4 f3 H locs hq34 hP hS => ?_)
    obtain ⟨er4, ef3⟩ := hq34
    subst er4
    rw [ef3] at hP
    refine lv_aload_n hx hb dR_learnedBy_37 rfl (lv_at hl 1 rfl) ?_
    refine mm_get (v := .ref rk) hx hb hg inR hown hK hP hrL z1 rfl 2 (by decide) (hg _ gw104) (fun _ h9 => h9) rfl dR_learnedBy_38 ?_
    refine lv_iload hx hb dR_learnedBy_41 (lv_at hl 0 rfl) ?_
    refine mm_iald hx hb hK hP hrkL z4 (vp_in_nI (show i < 4 by omega) (by omega)) dR_learnedBy_43 ?_
    rw [nI_clamp (by omega)]
    refine then_v (run_VN (n := 3) (As := [.int (nI (nf (xa i) u v)), .int (nI (nf (xb i) u v)), .int (gk i)]) (rest := []) C0 (ka_learn hn hh hbL hk hok (by omega) (nf_lt (hra i (by omega)).2 hu hv) (nf_lt (hrb i (by omega)).2 hu hv) (hrk i (by omega))) gw431 nx428 gw430 gsK_learn gw3 (by decide +kernel) ⟨Nat.le_of_ble_eq_true rfl, Nat.le_of_ble_eq_true rfl⟩ rfl rfl ⟨Nat.le_of_ble_eq_true rfl, Nat.le_of_ble_eq_true rfl⟩ hP hh hk.1 rfl rfl rfl hl.1 rfl (Nat.le_of_ble_eq_true rfl) dR_learnedBy_44) hS hA (fun f5 H locs hq44 hP hS => ?_)
    obtain ⟨hk2, hsm2⟩ := hq44
    refine lv_iinc (v := nI (i + 1)) (lv' := [(4, .int (nI (i + 1))), (0, .ref r), (1, .ref h), (2, .int (nI u)), (3, .int (nI v))]) hx hb dR_learnedBy_47 hl (k := 0) rfl (nI_add i 1) (by decide) rfl (fun ls hl => ?_)
    refine lv_goto (tgt := 3) hx hb dR_learnedBy_50 (by decide) ?_
    exact ih (i + 1) (kl_rel u v xa xb gk i K) f5 (by omega) hk2 (fun z y1 y2 => by rw [hsm2 z y1 y2]; exact hsm z y1 y2) ((kl_learn_ok (nf_lt (hra i (by omega)).2 hu hv) (nf_lt (hrb i (by omega)).2 hu hv) (hrk i (by omega)) hok).mono (by omega)) H locs ls hP hS (lv_sub hl [0, 1, 2, 3, 4] rfl) hx2
set_option maxRecDepth 100000 in
set_option maxHeartbeats 4000000 in
theorem r_learnedBy {l : Launch} {D : va_G} {tys : List (ClassId × FieldType)} {L : List Nat} {f : Nat → va_E} (hn : L.Nodup) {r ra rb rk N : Nat} {ga gb gk : Nat → Int32} (hrL : r ∈ L) (hraL : ra ∈ L) (hrbL : rb ∈ L) (hrkL : rk ∈ L) (r1 : f r = .inr (2, [.ref ra, .ref rb, .ref rk, .int (nI N)])) (r2 : mm_I tys f ra 4 ga) (r3 : mm_I tys f rb 4 gb) (r4 : mm_I tys f rk 4 gk) (hNr : N ≤ 4) {h b : Nat} (hh : h ∈ L) (hbL : b ∈ L) {T : Int} (hT : T + 4004 ≤ 300000) {xa xb : Nat → Nat} {u v : Nat} (hu : u < 12) (hv : v < 12) (hra : ∀ j, j < N → ga j = nI (xa j) ∧ xa j < 4) (hrb : ∀ j, j < N → gb j = nI (xb j) ∧ xb j < 4) (hrk : ∀ j, j < N → -1001 ≤ (gk j).toInt ∧ (gk j).toInt ≤ 1001) (dr : r ≠ h) (hr2 : r ≠ b) (da1 : ra ≠ h) (da2 : ra ≠ b) (db1 : rb ≠ h) (db2 : rb ≠ b) (dk1 : rk ≠ h) (dk2 : rk ≠ b) {K : kl_K} (hk : KnAt tys f h b K) (hok : kl_ok T K) : MetV l yR_learnedBy wR_learnedBy ({ frames := 1, cells := 0, slots := 0, locals := 28 } : Room) D tys L f [.ref r, .ref h, .int (nI u), .int (nI v)] (fun f' => KnAt tys f' h b (r_it (kl_rel u v xa xb gk) N 0 K) ∧ Same2 f f' h b) := by
  refine met_of "LiquidChecker$Relations" (by decide) rfl (Nat.le_of_ble_eq_true rfl) ?_
  intro p e s m below meth c ls C0 hP hl
  obtain ⟨hx, hb, hml, hown, hg, hr, hlocks, hK, hN⟩ := id C0
  have hA : ∀ a ∈ L, inL L a := fun _ h => h
  obtain ⟨H, hH⟩ : ∃ z, z = s.heap := ⟨_, rfl⟩
  rw [← hH] at hP ⊢
  have hS : va_S (inL L) s.heap H [] := by rw [hH]; exact va_S.rf
  have hl : lv_has ls 5 [(0, .ref r), (1, .ref h), (2, .int (nI u)), (3, .int (nI v))] := hl
  refine lv_iconst (v := nI 0) hx hb dR_learnedBy_0 (by decide) ?_
  refine lv_istore (lv' := [(4, .int (nI 0)), (0, .ref r), (1, .ref h), (2, .int (nI u)), (3, .int (nI v))]) hx hb dR_learnedBy_1 hl (by decide) rfl (fun ls hl => ?_)
  refine r_learned_loop C0 hn hrL hraL hrbL hrkL r1 r2 r3 r4 hNr hh hbL hT hu hv hra hrb hrk dr hr2 da1 da2 db1 db2 dk1 dk2 N 0 K f (by omega) hk (fun _ _ _ => rfl) (hok.mono (by omega)) H [] ls hP hS (lv_sub hl [0, 1, 2, 3, 4] rfl) (fun f1 H locs ls hk1 hsm hP hS hl => ?_)
  exact ret_v C0 hP hS ⟨hk1, hsm⟩ dR_learnedBy_53
theorem ts_nf9 {x : Bool} (h : ¬ x = false) : x = true := by cases x; exact absurd rfl h; rfl
set_option maxRecDepth 100000 in
set_option maxHeartbeats 4000000 in
theorem r_shown_loop {p : Program} {l : Launch} {e : Env} {s : State} {m : MethodId} {args : Array Value} {below : List Frame} {meth : Method} {c : Code} {D : va_G} {tys : List (ClassId × FieldType)} {L : List Nat} {f : Nat → va_E} (C0 : Cx p s m args meth c cR_shownBy 5 "LiquidChecker$Relations" (some .boolean) D tys) (hn : L.Nodup) {r ra rb rk N : Nat} {ga gb gk : Nat → Int32} (hrL : r ∈ L) (hraL : ra ∈ L) (hrbL : rb ∈ L) (hrkL : rk ∈ L) (r1 : f r = .inr (2, [.ref ra, .ref rb, .ref rk, .int (nI N)])) (r2 : mm_I tys f ra 4 ga) (r3 : mm_I tys f rb 4 gb) (r4 : mm_I tys f rk 4 gk) (hNr : N ≤ 4) {h b : Nat} (hh : h ∈ L) (hbL : b ∈ L) {T : Int} (hT : T ≤ 300000) {xa xb : Nat → Nat} {u v : Nat} (hu : u < 12) (hv : v < 12) (hra : ∀ j, j < N → ga j = nI (xa j) ∧ xa j < 4) (hrb : ∀ j, j < N → gb j = nI (xb j) ∧ xb j < 4) (hrk : ∀ j, j < N → -1001 ≤ (gk j).toInt ∧ (gk j).toInt ≤ 1001) {K : kl_K} (hk : KnAt tys f h b K) (hok : kl_ok T K) : ∀ (n i : Nat), i + n = N → allB (kl_sh u v xa xb gk K) N 0 = allB (kl_sh u v xa xb gk K) n i → ∀ (H : Heap) (locs : List Loc) (ls : Array Slot), va_P D zCl (va_pl L f) H → va_S (inL L) s.heap H locs → lv_has ls 5 [(4, .int (nI i)), (0, .ref r), (1, .ref h), (2, .int (nI u)), (3, .int (nI v))] → W p l e ({ frames := 1, cells := 0, slots := 0, locals := 23 } : Room) s m args below meth c H locs 0 0 (MQ below (va_Qi (fun r f' => r = kb (allB (kl_sh u v xa xb gk K) N 0) ∧ f' = f) (cB D L) (inL L)) args s 0 0 (inL L)) (F0 m 3 ls []) := by
  obtain ⟨hx, hb, hml, hown, hg, hr, hlocks, hK, hN⟩ := id C0
  have hA : ∀ a ∈ L, inL L a := fun _ h => h
  intro n
  induction n with
  | zero =>
    intro i hi hal H locs ls hP hS hl
    obtain rfl : N = i := by omega
    refine lv_iload hx hb dR_shownBy_3 (lv_at hl 0 rfl) ?_
    refine lv_aload_n hx hb dR_shownBy_5 rfl (lv_at hl 1 rfl) ?_
    refine mm_get (v := .int (nI N)) hx hb hg inR hown hK hP hrL r1 rfl 3 (by decide) (hg _ gw105) (fun _ h9 => h9) rfl dR_shownBy_6 ?_
    refine lv_icmp_ge (tgt := 58) hx hb dR_shownBy_9 (by decide) (fun c9 => ?_) (fun c9 => absurd (nI_le (by omega) (by omega)) c9)
    refine lv_iconst (v := nI 1) hx hb dR_shownBy_58 (by decide) ?_
    exact ret_z C0 rfl hP hS ⟨by rw [hal]; rfl, rfl⟩ dR_shownBy_59
  | succ n ih =>
    intro i hi hal H locs ls hP hS hl
    refine lv_iload hx hb dR_shownBy_3 (lv_at hl 0 rfl) ?_
    refine lv_aload_n hx hb dR_shownBy_5 rfl (lv_at hl 1 rfl) ?_
    refine mm_get (v := .int (nI N)) hx hb hg inR hown hK hP hrL r1 rfl 3 (by decide) (hg _ gw105) (fun _ h9 => h9) rfl dR_shownBy_6 ?_
    refine lv_icmp_ge (tgt := 58) hx hb dR_shownBy_9 (by decide) (fun c9 => absurd c9 (nI_ge (show i < N by omega) (by omega))) (fun c9 => ?_)
    refine lv_aload_n hx hb dR_shownBy_12 rfl (lv_at hl 2 rfl) ?_
    refine lv_aload_n hx hb dR_shownBy_13 rfl (lv_at hl 1 rfl) ?_
    refine mm_get (v := .ref ra) hx hb hg inR hown hK hP hrL r1 rfl 0 (by decide) (hg _ gw102) (fun _ h9 => h9) rfl dR_shownBy_14 ?_
    refine lv_iload hx hb dR_shownBy_17 (lv_at hl 0 rfl) ?_
    refine mm_iald hx hb hK hP hraL r2 (vp_in_nI (show i < 4 by omega) (by omega)) dR_shownBy_19 ?_
    rw [nI_clamp (by omega)]
    rw [(hra i (by omega)).1]
    refine lv_iload_n hx hb dR_shownBy_20 rfl (lv_at hl 3 rfl) ?_
    refine lv_iload_n hx hb dR_shownBy_21 rfl (lv_at hl 4 rfl) ?_
    refine then_i (run_S (n := 3) (As := [.int (nI (xa i)), .int (nI u), .int (nI v)]) (rest := [.ref h]) C0 (r_nameFor hn (hra i (by omega)).2) gw427 gw425 gw426 gw5 (by decide +kernel) ⟨Nat.le_of_ble_eq_true rfl, Nat.le_of_ble_eq_true rfl⟩ rfl rfl ⟨Nat.le_of_ble_eq_true rfl, Nat.le_of_ble_eq_true rfl⟩ hP rfl hl.1 rfl (Nat.le_of_ble_eq_true rfl) dR_shownBy_22) hS hA (fun r2 f1 H locs hq22 hP hS => ?_)
    obtain ⟨er2, ef1⟩ := hq22
    subst er2
    rw [ef1] at hP
    refine lv_aload_n hx hb dR_shownBy_25 rfl (lv_at hl 1 rfl) ?_
    refine mm_get (v := .ref rb) hx hb hg inR hown hK hP hrL r1 rfl 1 (by decide) (hg _ gw103) (fun _ h9 => h9) rfl dR_shownBy_26 ?_
    refine lv_iload hx hb dR_shownBy_29 (lv_at hl 0 rfl) ?_
    refine mm_iald hx hb hK hP hrbL r3 (vp_in_nI (show i < 4 by omega) (by omega)) dR_shownBy_31 ?_
    rw [nI_clamp (by omega)]
    rw [(hrb i (by omega)).1]
    refine lv_iload_n hx hb dR_shownBy_32 rfl (lv_at hl 3 rfl) ?_
    refine lv_iload_n hx hb dR_shownBy_33 rfl (lv_at hl 4 rfl) ?_
    refine then_i (run_S (n := 3) (As := [.int (nI (xb i)), .int (nI u), .int (nI v)]) (rest := [.int (nI (nf (xa i) u v)), .ref h]) C0 (r_nameFor hn (hrb i (by omega)).2) gw427 gw425 gw426 gw5 (by decide +kernel) ⟨Nat.le_of_ble_eq_true rfl, Nat.le_of_ble_eq_true rfl⟩ rfl rfl ⟨Nat.le_of_ble_eq_true rfl, Nat.le_of_ble_eq_true rfl⟩ hP rfl hl.1 rfl (Nat.le_of_ble_eq_true rfl) dR_shownBy_34) hS hA (fun r4 f3 H locs hq34 hP hS => ?_)
    obtain ⟨er4, ef3⟩ := hq34
    subst er4
    rw [ef3] at hP
    refine lv_aload_n hx hb dR_shownBy_37 rfl (lv_at hl 1 rfl) ?_
    refine mm_get (v := .ref rk) hx hb hg inR hown hK hP hrL r1 rfl 2 (by decide) (hg _ gw104) (fun _ h9 => h9) rfl dR_shownBy_38 ?_
    refine lv_iload hx hb dR_shownBy_41 (lv_at hl 0 rfl) ?_
    refine mm_iald hx hb hK hP hrkL r4 (vp_in_nI (show i < 4 by omega) (by omega)) dR_shownBy_43 ?_
    rw [nI_clamp (by omega)]
    refine then_i (run_VN (n := 3) (As := [.int (nI (nf (xa i) u v)), .int (nI (nf (xb i) u v)), .int (gk i)]) (rest := []) C0 (ka_shows hn hh hbL hk hok hT (nf_lt (hra i (by omega)).2 hu hv) (nf_lt (hrb i (by omega)).2 hu hv) (hrk i (by omega))) gw465 nx462 gw464 gsK_shows gw3 (by decide +kernel) ⟨Nat.le_of_ble_eq_true rfl, Nat.le_of_ble_eq_true rfl⟩ rfl rfl ⟨Nat.le_of_ble_eq_true rfl, Nat.le_of_ble_eq_true rfl⟩ hP hh hk.1 rfl rfl rfl hl.1 rfl (Nat.le_of_ble_eq_true rfl) dR_shownBy_44) hS hA (fun r6 f5 H locs hq44 hP hS => ?_)
    obtain ⟨er6, ef5⟩ := hq44
    subst er6
    rw [ef5] at hP
    refine lv_if_ne (tgt := 52) hx hb dR_shownBy_47 (by decide) (fun c47 => ?_) (fun c47 => ?_)
    · refine lv_iinc (v := nI (i + 1)) (lv' := [(4, .int (nI (i + 1))), (0, .ref r), (1, .ref h), (2, .int (nI u)), (3, .int (nI v))]) hx hb dR_shownBy_52 hl (k := 0) rfl (nI_add i 1) (by decide) rfl (fun ls hl => ?_)
      refine lv_goto (tgt := 3) hx hb dR_shownBy_55 (by decide) ?_
      exact ih (i + 1) (by omega) (by rw [hal]; show (kl_sh u v xa xb gk K i && _) = _; rw [show kl_sh u v xa xb gk K i = true from ts_nf9 (fun z => c47 (kb_0.mpr z))]; rfl) H locs ls hP hS (lv_sub hl [0, 1, 2, 3, 4] rfl)
    · refine lv_iconst (v := nI 0) hx hb dR_shownBy_50 (by decide) ?_
      exact ret_z C0 rfl hP hS ⟨by rw [hal]; show _ = kb (kl_sh u v xa xb gk K i && _); rw [show kl_sh u v xa xb gk K i = false from kb_0.mp c47]; rfl, rfl⟩ dR_shownBy_51
set_option maxRecDepth 100000 in
set_option maxHeartbeats 4000000 in
theorem r_shownBy {l : Launch} {D : va_G} {tys : List (ClassId × FieldType)} {L : List Nat} {f : Nat → va_E} (hn : L.Nodup) {r ra rb rk N : Nat} {ga gb gk : Nat → Int32} (hrL : r ∈ L) (hraL : ra ∈ L) (hrbL : rb ∈ L) (hrkL : rk ∈ L) (r1 : f r = .inr (2, [.ref ra, .ref rb, .ref rk, .int (nI N)])) (r2 : mm_I tys f ra 4 ga) (r3 : mm_I tys f rb 4 gb) (r4 : mm_I tys f rk 4 gk) (hNr : N ≤ 4) {h b : Nat} (hh : h ∈ L) (hbL : b ∈ L) {T : Int} (hT : T ≤ 300000) {xa xb : Nat → Nat} {u v : Nat} (hu : u < 12) (hv : v < 12) (hra : ∀ j, j < N → ga j = nI (xa j) ∧ xa j < 4) (hrb : ∀ j, j < N → gb j = nI (xb j) ∧ xb j < 4) (hrk : ∀ j, j < N → -1001 ≤ (gk j).toInt ∧ (gk j).toInt ≤ 1001) {K : kl_K} (hk : KnAt tys f h b K) (hok : kl_ok T K) : MetI l yR_shownBy wR_shownBy ({ frames := 1, cells := 0, slots := 0, locals := 23 } : Room) D tys L f [.ref r, .ref h, .int (nI u), .int (nI v)] (fun r f' => r = kb (allB (kl_sh u v xa xb gk K) N 0) ∧ f' = f) := by
  refine met_of "LiquidChecker$Relations" (by decide) rfl (Nat.le_of_ble_eq_true rfl) ?_
  intro p e s m below meth c ls C0 hP hl
  obtain ⟨hx, hb, hml, hown, hg, hr, hlocks, hK, hN⟩ := id C0
  have hA : ∀ a ∈ L, inL L a := fun _ h => h
  obtain ⟨H, hH⟩ : ∃ z, z = s.heap := ⟨_, rfl⟩
  rw [← hH] at hP ⊢
  have hS : va_S (inL L) s.heap H [] := by rw [hH]; exact va_S.rf
  have hl : lv_has ls 5 [(0, .ref r), (1, .ref h), (2, .int (nI u)), (3, .int (nI v))] := hl
  refine lv_iconst (v := nI 0) hx hb dR_shownBy_0 (by decide) ?_
  refine lv_istore (lv' := [(4, .int (nI 0)), (0, .ref r), (1, .ref h), (2, .int (nI u)), (3, .int (nI v))]) hx hb dR_shownBy_1 hl (by decide) rfl (fun ls hl => ?_)
  exact r_shown_loop C0 hn hrL hraL hrbL hrkL r1 r2 r3 r4 hNr hh hbL hT hu hv hra hrb hrk hk hok N 0 (by omega) rfl H [] ls hP hS (lv_sub hl [0, 1, 2, 3, 4] rfl)
