/-! LiquidCheckerModel: what it knows, as it stands in the code: over the row of 169 numbers. -/
abbrev mO (ad : Nat → Nat) (ap cm : Nat) (th fe me fu le en sp ka kc : Int32) (mx : Int64) (se : Int32) : va_E := .inr (6, [.int th, .ref (ad 0), .ref (ad 1), .ref (ad 2), .ref (ad 3), .ref (ad 4), .ref (ad 5), .ref (ad 6), .ref (ad 7), .ref (ad 8), .ref (ad 9), .ref (ad 10), .ref (ad 11), .ref (ad 12), .ref (ad 13), .ref (ad 14), .ref (ad 15), .ref ap, .int fe, .int me, .int fu, .int le, .int en, .ref cm, .int sp, .int ka, .int kc, .long mx, .int se])
def m_fg (a i : Nat) (g : Nat → Int64) : Nat → Int64 := if i = a then g else vp_updL (vp_updL g (13 * a + i) 1000000000000) (13 * i + a) 1000000000000
def m_rn (a i : Nat) (g : Nat → Int64) : Nat → Int64 := if i = a then g else
  (let g1 := vp_updL g (13 * a + i) (g (156 + i))
  vp_updL g1 (13 * i + a) (g1 (13 * i + 12)))
def m_b1 (x y : Nat) (g : Nat → Int64) : Nat → Int64 := vp_updL g (13 * x + y) (if x = y then 0 else 1000000000000)
def m_b2 (x : Nat) (g : Nat → Int64) : Nat → Int64 := r_it (m_b1 x) 13 0 g
def m_l1 (x y : Nat) (k : Int64) (i j : Nat) (g : Nat → Int64) : Nat → Int64 :=
  if lg_cmp (g (13 * y + j)) 1000000000000 = 0 then g else if 0 ≤ lg_cmp (g (13 * i + x) + k + g (13 * y + j)) (g (13 * i + j)) then g else vp_updL g (13 * i + j) (g (13 * i + x) + k + g (13 * y + j))
def m_l2 (x y : Nat) (k : Int64) (i : Nat) (g : Nat → Int64) : Nat → Int64 := if lg_cmp (g (13 * i + x)) 1000000000000 = 0 then g else r_it (m_l1 x y k i) 13 0 g
set_option maxRecDepth 100000 in
set_option maxHeartbeats 4000000 in
theorem m_forget_loop {p : Program} {l : Launch} {e : Env} {s : State} {m : MethodId} {args : Array Value} {below : List Frame} {meth : Method} {c : Code} {D : va_G} {tys : List (ClassId × FieldType)} {L : List Nat} {f : Nat → va_E} {Q : State → Prop} (C0 : Cx p s m args meth c cM_forget 3 "LiquidCheckerModel" none D tys) (hn : L.Nodup) {mo ap cm : Nat} {ad : Nat → Nat} {th fe me fu le en sp ka kc se : Int32} {mx : Int64} {g : Nat → Int64} (hh : mo ∈ L) (hbL : ap ∈ L) (h1 : f mo = mO ad ap cm th fe me fu le en sp ka kc mx se) (h2 : mm_J tys f ap 169 g) {a : Nat} (ha : a < 13) : ∀ (n i : Nat) (g : Nat → Int64), i + n = 13 → ∀ (H : Heap) (locs : List Loc) (ls : Array Slot), va_P D zCl (va_pl L (mm_sj f ap g)) H → va_S (inL L) s.heap H locs → lv_has ls 3 [(2, .int (nI i)), (0, .ref mo), (1, .int (nI a))] → (∀ (H : Heap) (locs : List Loc) (ls : Array Slot), va_P D zCl (va_pl L (mm_sj f ap (r_it (m_fg a) n i g))) H → va_S (inL L) s.heap H locs → lv_has ls 3 [(2, .int (nI 13)), (0, .ref mo), (1, .int (nI a))] → W p l e ({ frames := 0, cells := 0, slots := 0, locals := 0 } : Room) s m args below meth c H locs 0 0 Q (F0 m 50 ls [])) → W p l e ({ frames := 0, cells := 0, slots := 0, locals := 0 } : Room) s m args below meth c H locs 0 0 Q (F0 m 2 ls []) := by
  obtain ⟨hx, hb, hml, hown, hg, hr, hlocks, hK, hN⟩ := id C0
  have hA : ∀ a ∈ L, inL L a := fun _ h => h
  intro n
  induction n with
  | zero =>
    intro i g hi H locs ls hP hS hl hk
    obtain rfl : i = 13 := by omega
    have q2 : mm_J tys (mm_sj f ap g) ap 169 g := h2.set
    have q1 : mm_sj f ap g mo = mO ad ap cm th fe me fu le en sp ka kc mx se := by rw [mm_sj_ne (mm_JO h2 h1)]; exact h1
    refine lv_iload_n hx hb dM_forget_2 rfl (lv_at hl 0 rfl) ?_
    refine lv_bipush (v := nI 13) hx hb dM_forget_3 (by decide) ?_
    refine lv_icmp_ge (tgt := 50) hx hb dM_forget_5 (by decide) (fun c5 => ?_) (fun c5 => absurd (nI_le (by omega) (by omega)) c5)
    exact hk H locs ls hP hS (lv_sub hl [0, 1, 2] rfl)
  | succ n ih =>
    intro i g hi H locs ls hP hS hl hk
    have q2 : mm_J tys (mm_sj f ap g) ap 169 g := h2.set
    have q1 : mm_sj f ap g mo = mO ad ap cm th fe me fu le en sp ka kc mx se := by rw [mm_sj_ne (mm_JO h2 h1)]; exact h1
    refine lv_iload_n hx hb dM_forget_2 rfl (lv_at hl 0 rfl) ?_
    refine lv_bipush (v := nI 13) hx hb dM_forget_3 (by decide) ?_
    refine lv_icmp_ge (tgt := 50) hx hb dM_forget_5 (by decide) (fun c5 => absurd c5 (nI_ge (show i < 13 by omega) (by omega))) (fun c5 => ?_)
    refine lv_iload_n hx hb dM_forget_8 rfl (lv_at hl 0 rfl) ?_
    refine lv_iload_n hx hb dM_forget_9 rfl (lv_at hl 2 rfl) ?_
    refine lv_icmp_ne (tgt := 16) hx hb dM_forget_10 (by decide) (fun c10 => ?_) (fun c10 => ?_)
    · refine lv_aload_n hx hb dM_forget_16 rfl (lv_at hl 1 rfl) ?_
      refine mm_get (v := .ref ap) hx hb hg inM hown hK hP hh q1 rfl 17 (by decide) (hg _ gw610) (fun _ h9 => h9) rfl dM_forget_17 ?_
      refine lv_bipush (v := nI 13) hx hb dM_forget_20 (by decide) ?_
      refine lv_iload_n hx hb dM_forget_22 rfl (lv_at hl 2 rfl) ?_
      refine lv_imul hx hb dM_forget_23 ?_
      rw [pk_mul]
      refine lv_iload_n hx hb dM_forget_24 rfl (lv_at hl 0 rfl) ?_
      refine lv_iadd hx hb dM_forget_25 ?_
      rw [nI_add]
      refine lv_ldc2 hx hb hown (hg _ gw739) dM_forget_26 ?_
      refine mm_last hx hb hK hn hA hP hS hbL q2 (vp_in_nI (show (13 * a) + i < 169 by omega) (by omega)) dM_forget_29 (fun H locs hP hS => ?_)
      rw [nI_clamp (by omega)] at hP
      obtain ⟨f1, hf1⟩ : ∃ z, z = mm_sj (mm_sj f ap g) ap (vp_updL g ((13 * a) + i) 1000000000000) := ⟨_, rfl⟩
      have hP : va_P D zCl (va_pl L f1) H := by rw [hf1]; exact hP
      have p2 : f1 mo = .inr (6, [.int th, .ref (ad 0), .ref (ad 1), .ref (ad 2), .ref (ad 3), .ref (ad 4), .ref (ad 5), .ref (ad 6), .ref (ad 7), .ref (ad 8), .ref (ad 9), .ref (ad 10), .ref (ad 11), .ref (ad 12), .ref (ad 13), .ref (ad 14), .ref (ad 15), .ref ap, .int fe, .int me, .int fu, .int le, .int en, .ref cm, .int sp, .int ka, .int kc, .long mx, .int se]) := by rw [hf1, mm_sj_ne (mm_JO q2 q1)]; exact q1
      have p3 : mm_J tys f1 ap 169 (vp_updL g ((13 * a) + i) 1000000000000) := by rw [hf1]; exact q2.set
      refine lv_aload_n hx hb dM_forget_30 rfl (lv_at hl 1 rfl) ?_
      refine mm_get (v := .ref ap) hx hb hg inM hown hK hP hh p2 rfl 17 (by decide) (hg _ gw610) (fun _ h9 => h9) rfl dM_forget_31 ?_
      refine lv_bipush (v := nI 13) hx hb dM_forget_34 (by decide) ?_
      refine lv_iload_n hx hb dM_forget_36 rfl (lv_at hl 0 rfl) ?_
      refine lv_imul hx hb dM_forget_37 ?_
      rw [pk_mul]
      refine lv_iload_n hx hb dM_forget_38 rfl (lv_at hl 2 rfl) ?_
      refine lv_iadd hx hb dM_forget_39 ?_
      rw [nI_add]
      refine lv_ldc2 hx hb hown (hg _ gw739) dM_forget_40 ?_
      refine mm_last hx hb hK hn hA hP hS hbL p3 (vp_in_nI (show (13 * i) + a < 169 by omega) (by omega)) dM_forget_43 (fun H locs hP hS => ?_)
      rw [nI_clamp (by omega)] at hP
      obtain ⟨f4, hf4⟩ : ∃ z, z = mm_sj f1 ap (vp_updL (vp_updL g ((13 * a) + i) 1000000000000) ((13 * i) + a) 1000000000000) := ⟨_, rfl⟩
      have hP : va_P D zCl (va_pl L f4) H := by rw [hf4]; exact hP
      have p5 : f4 mo = .inr (6, [.int th, .ref (ad 0), .ref (ad 1), .ref (ad 2), .ref (ad 3), .ref (ad 4), .ref (ad 5), .ref (ad 6), .ref (ad 7), .ref (ad 8), .ref (ad 9), .ref (ad 10), .ref (ad 11), .ref (ad 12), .ref (ad 13), .ref (ad 14), .ref (ad 15), .ref ap, .int fe, .int me, .int fu, .int le, .int en, .ref cm, .int sp, .int ka, .int kc, .long mx, .int se]) := by rw [hf4, mm_sj_ne (mm_JO p3 p2)]; exact p2
      have p6 : mm_J tys f4 ap 169 (vp_updL (vp_updL g ((13 * a) + i) 1000000000000) ((13 * i) + a) 1000000000000) := by rw [hf4]; exact p3.set
      refine lv_iinc (v := nI (i + 1)) (lv' := [(2, .int (nI (i + 1))), (0, .ref mo), (1, .int (nI a))]) hx hb dM_forget_44 hl (k := 0) rfl (nI_add i 1) (by decide) rfl (fun ls hl => ?_)
      refine lv_goto (tgt := 2) hx hb dM_forget_47 (by decide) ?_
      refine ih (i + 1) ((m_fg a) i g) (by omega) H locs ls ?_ hS (lv_sub hl [0, 1, 2] rfl) hk
      rw [show (m_fg a) i g = _ from if_neg (fun e9 => c10 (by rw [e9]))]
      rw [hf4, hf1, mm_sj_sj, mm_sj_sj] at hP
      exact hP
    · refine lv_goto (tgt := 44) hx hb dM_forget_13 (by decide) ?_
      refine lv_iinc (v := nI (i + 1)) (lv' := [(2, .int (nI (i + 1))), (0, .ref mo), (1, .int (nI a))]) hx hb dM_forget_44 hl (k := 0) rfl (nI_add i 1) (by decide) rfl (fun ls hl => ?_)
      refine lv_goto (tgt := 2) hx hb dM_forget_47 (by decide) ?_
      refine ih (i + 1) ((m_fg a) i g) (by omega) H locs ls ?_ hS (lv_sub hl [0, 1, 2] rfl) hk
      rw [show (m_fg a) i g = g from if_pos ((nI_eq (by omega) (by omega)).mp c10)]
      exact hP
set_option maxRecDepth 100000 in
set_option maxHeartbeats 4000000 in
theorem m_forget {l : Launch} {D : va_G} {tys : List (ClassId × FieldType)} {L : List Nat} {f : Nat → va_E} (hn : L.Nodup) {mo ap cm : Nat} {ad : Nat → Nat} {th fe me fu le en sp ka kc se : Int32} {mx : Int64} {g : Nat → Int64} (hh : mo ∈ L) (hbL : ap ∈ L) (h1 : f mo = mO ad ap cm th fe me fu le en sp ka kc mx se) (h2 : mm_J tys f ap 169 g) {a : Nat} (ha : a < 13) : MetV l yM_forget wM_forget ({ frames := 0, cells := 0, slots := 0, locals := 0 } : Room) D tys L f [.ref mo, .int (nI a)] (fun f' => f' = mm_sj f ap (r_it (m_fg a) 13 0 g)) := by
  refine met_of "LiquidCheckerModel" (by decide) rfl (Nat.le_of_ble_eq_true rfl) ?_
  intro pgm e s m below meth c ls C0 hP hl
  obtain ⟨hx, hb, hml, hown, hg, hr, hlocks, hK, hN⟩ := id C0
  have hA : ∀ a ∈ L, inL L a := fun _ h => h
  obtain ⟨H, hH⟩ : ∃ z, z = s.heap := ⟨_, rfl⟩
  rw [← hH] at hP ⊢
  have hS : va_S (inL L) s.heap H [] := by rw [hH]; exact va_S.rf
  have hl : lv_has ls 3 [(0, .ref mo), (1, .int (nI a))] := hl
  refine lv_iconst (v := nI 0) hx hb dM_forget_0 (by decide) ?_
  refine lv_istore_n (lv' := [(2, .int (nI 0)), (0, .ref mo), (1, .int (nI a))]) hx hb dM_forget_1 rfl hl (by decide) rfl (fun ls hl => ?_)
  refine m_forget_loop C0 hn hh hbL h1 h2 ha 13 0 g (by omega) H [] ls (by rw [mm_sj_id h2]; exact hP) hS (lv_sub hl [0, 1, 2] rfl) (fun H locs ls hP hS hl => ?_)
  exact ret_v C0 hP hS rfl dM_forget_50
set_option maxRecDepth 100000 in
set_option maxHeartbeats 4000000 in
theorem m_rename_loop {p : Program} {l : Launch} {e : Env} {s : State} {m : MethodId} {args : Array Value} {below : List Frame} {meth : Method} {c : Code} {D : va_G} {tys : List (ClassId × FieldType)} {L : List Nat} {f : Nat → va_E} {Q : State → Prop} (C0 : Cx p s m args meth c cM_rename 3 "LiquidCheckerModel" none D tys) (hn : L.Nodup) {mo ap cm : Nat} {ad : Nat → Nat} {th fe me fu le en sp ka kc se : Int32} {mx : Int64} {g : Nat → Int64} (hh : mo ∈ L) (hbL : ap ∈ L) (h1 : f mo = mO ad ap cm th fe me fu le en sp ka kc mx se) (h2 : mm_J tys f ap 169 g) {a : Nat} (ha : a < 12) : ∀ (n i : Nat) (g : Nat → Int64), i + n = 12 → ∀ (H : Heap) (locs : List Loc) (ls : Array Slot), va_P D zCl (va_pl L (mm_sj f ap g)) H → va_S (inL L) s.heap H locs → lv_has ls 3 [(2, .int (nI i)), (0, .ref mo), (1, .int (nI a))] → (∀ (H : Heap) (locs : List Loc) (ls : Array Slot), va_P D zCl (va_pl L (mm_sj f ap (r_it (m_rn a) n i g))) H → va_S (inL L) s.heap H locs → lv_has ls 3 [(2, .int (nI 12)), (0, .ref mo), (1, .int (nI a))] → W p l e ({ frames := 1, cells := 0, slots := 0, locals := 22 } : Room) s m args below meth c H locs 0 0 Q (F0 m 66 ls [])) → W p l e ({ frames := 1, cells := 0, slots := 0, locals := 22 } : Room) s m args below meth c H locs 0 0 Q (F0 m 2 ls []) := by
  obtain ⟨hx, hb, hml, hown, hg, hr, hlocks, hK, hN⟩ := id C0
  have hA : ∀ a ∈ L, inL L a := fun _ h => h
  intro n
  induction n with
  | zero =>
    intro i g hi H locs ls hP hS hl hk
    obtain rfl : i = 12 := by omega
    have q2 : mm_J tys (mm_sj f ap g) ap 169 g := h2.set
    have q1 : mm_sj f ap g mo = mO ad ap cm th fe me fu le en sp ka kc mx se := by rw [mm_sj_ne (mm_JO h2 h1)]; exact h1
    refine lv_iload_n hx hb dM_rename_2 rfl (lv_at hl 0 rfl) ?_
    refine lv_bipush (v := nI 12) hx hb dM_rename_3 (by decide) ?_
    refine lv_icmp_ge (tgt := 66) hx hb dM_rename_5 (by decide) (fun c5 => ?_) (fun c5 => absurd (nI_le (by omega) (by omega)) c5)
    exact hk H locs ls hP hS (lv_sub hl [0, 1, 2] rfl)
  | succ n ih =>
    intro i g hi H locs ls hP hS hl hk
    have q2 : mm_J tys (mm_sj f ap g) ap 169 g := h2.set
    have q1 : mm_sj f ap g mo = mO ad ap cm th fe me fu le en sp ka kc mx se := by rw [mm_sj_ne (mm_JO h2 h1)]; exact h1
    refine lv_iload_n hx hb dM_rename_2 rfl (lv_at hl 0 rfl) ?_
    refine lv_bipush (v := nI 12) hx hb dM_rename_3 (by decide) ?_
    refine lv_icmp_ge (tgt := 66) hx hb dM_rename_5 (by decide) (fun c5 => absurd c5 (nI_ge (show i < 12 by omega) (by omega))) (fun c5 => ?_)
    refine lv_iload_n hx hb dM_rename_8 rfl (lv_at hl 0 rfl) ?_
    refine lv_iload_n hx hb dM_rename_9 rfl (lv_at hl 2 rfl) ?_
    refine lv_icmp_ne (tgt := 16) hx hb dM_rename_10 (by decide) (fun c10 => ?_) (fun c10 => ?_)
    · refine lv_aload_n hx hb dM_rename_16 rfl (lv_at hl 1 rfl) ?_
      refine mm_get (v := .ref ap) hx hb hg inM hown hK hP hh q1 rfl 17 (by decide) (hg _ gw610) (fun _ h9 => h9) rfl dM_rename_17 ?_
      refine lv_bipush (v := nI 13) hx hb dM_rename_20 (by decide) ?_
      refine lv_iload_n hx hb dM_rename_22 rfl (lv_at hl 2 rfl) ?_
      refine lv_imul hx hb dM_rename_23 ?_
      rw [pk_mul]
      refine lv_iload_n hx hb dM_rename_24 rfl (lv_at hl 0 rfl) ?_
      refine lv_iadd hx hb dM_rename_25 ?_
      rw [nI_add]
      refine lv_aload_n hx hb dM_rename_26 rfl (lv_at hl 1 rfl) ?_
      refine mm_get (v := .ref ap) hx hb hg inM hown hK hP hh q1 rfl 17 (by decide) (hg _ gw610) (fun _ h9 => h9) rfl dM_rename_27 ?_
      refine lv_sipush (v := nI 156) hx hb dM_rename_30 (by decide) ?_
      refine lv_iload_n hx hb dM_rename_33 rfl (lv_at hl 0 rfl) ?_
      refine lv_iadd hx hb dM_rename_34 ?_
      rw [nI_add]
      refine mm_lald hx hb hK hP hbL q2 (vp_in_nI (show 156 + i < 169 by omega) (by omega)) dM_rename_35 ?_
      rw [nI_clamp (by omega)]
      refine mm_last hx hb hK hn hA hP hS hbL q2 (vp_in_nI (show (13 * a) + i < 169 by omega) (by omega)) dM_rename_36 (fun H locs hP hS => ?_)
      rw [nI_clamp (by omega)] at hP
      obtain ⟨f1, hf1⟩ : ∃ z, z = mm_sj (mm_sj f ap g) ap (vp_updL g ((13 * a) + i) (g (156 + i))) := ⟨_, rfl⟩
      have hP : va_P D zCl (va_pl L f1) H := by rw [hf1]; exact hP
      have p2 : f1 mo = .inr (6, [.int th, .ref (ad 0), .ref (ad 1), .ref (ad 2), .ref (ad 3), .ref (ad 4), .ref (ad 5), .ref (ad 6), .ref (ad 7), .ref (ad 8), .ref (ad 9), .ref (ad 10), .ref (ad 11), .ref (ad 12), .ref (ad 13), .ref (ad 14), .ref (ad 15), .ref ap, .int fe, .int me, .int fu, .int le, .int en, .ref cm, .int sp, .int ka, .int kc, .long mx, .int se]) := by rw [hf1, mm_sj_ne (mm_JO q2 q1)]; exact q1
      have p3 : mm_J tys f1 ap 169 (vp_updL g ((13 * a) + i) (g (156 + i))) := by rw [hf1]; exact q2.set
      refine lv_aload_n hx hb dM_rename_37 rfl (lv_at hl 1 rfl) ?_
      refine mm_get (v := .ref ap) hx hb hg inM hown hK hP hh p2 rfl 17 (by decide) (hg _ gw610) (fun _ h9 => h9) rfl dM_rename_38 ?_
      refine lv_bipush (v := nI 13) hx hb dM_rename_41 (by decide) ?_
      refine lv_iload_n hx hb dM_rename_43 rfl (lv_at hl 0 rfl) ?_
      refine lv_imul hx hb dM_rename_44 ?_
      rw [pk_mul]
      refine lv_iload_n hx hb dM_rename_45 rfl (lv_at hl 2 rfl) ?_
      refine lv_iadd hx hb dM_rename_46 ?_
      rw [nI_add]
      refine lv_aload_n hx hb dM_rename_47 rfl (lv_at hl 1 rfl) ?_
      refine mm_get (v := .ref ap) hx hb hg inM hown hK hP hh p2 rfl 17 (by decide) (hg _ gw610) (fun _ h9 => h9) rfl dM_rename_48 ?_
      refine lv_bipush (v := nI 13) hx hb dM_rename_51 (by decide) ?_
      refine lv_iload_n hx hb dM_rename_53 rfl (lv_at hl 0 rfl) ?_
      refine lv_imul hx hb dM_rename_54 ?_
      rw [pk_mul]
      refine lv_bipush (v := nI 12) hx hb dM_rename_55 (by decide) ?_
      refine lv_iadd hx hb dM_rename_57 ?_
      rw [nI_add]
      refine mm_lald hx hb hK hP hbL p3 (vp_in_nI (show (13 * i) + 12 < 169 by omega) (by omega)) dM_rename_58 ?_
      rw [nI_clamp (by omega)]
      refine mm_last hx hb hK hn hA hP hS hbL p3 (vp_in_nI (show (13 * i) + a < 169 by omega) (by omega)) dM_rename_59 (fun H locs hP hS => ?_)
      rw [nI_clamp (by omega)] at hP
      obtain ⟨f4, hf4⟩ : ∃ z, z = mm_sj f1 ap (vp_updL (vp_updL g ((13 * a) + i) (g (156 + i))) ((13 * i) + a) ((vp_updL g ((13 * a) + i) (g (156 + i))) ((13 * i) + 12))) := ⟨_, rfl⟩
      have hP : va_P D zCl (va_pl L f4) H := by rw [hf4]; exact hP
      have p5 : f4 mo = .inr (6, [.int th, .ref (ad 0), .ref (ad 1), .ref (ad 2), .ref (ad 3), .ref (ad 4), .ref (ad 5), .ref (ad 6), .ref (ad 7), .ref (ad 8), .ref (ad 9), .ref (ad 10), .ref (ad 11), .ref (ad 12), .ref (ad 13), .ref (ad 14), .ref (ad 15), .ref ap, .int fe, .int me, .int fu, .int le, .int en, .ref cm, .int sp, .int ka, .int kc, .long mx, .int se]) := by rw [hf4, mm_sj_ne (mm_JO p3 p2)]; exact p2
      have p6 : mm_J tys f4 ap 169 (vp_updL (vp_updL g ((13 * a) + i) (g (156 + i))) ((13 * i) + a) ((vp_updL g ((13 * a) + i) (g (156 + i))) ((13 * i) + 12))) := by rw [hf4]; exact p3.set
      refine lv_iinc (v := nI (i + 1)) (lv' := [(2, .int (nI (i + 1))), (0, .ref mo), (1, .int (nI a))]) hx hb dM_rename_60 hl (k := 0) rfl (nI_add i 1) (by decide) rfl (fun ls hl => ?_)
      refine lv_goto (tgt := 2) hx hb dM_rename_63 (by decide) ?_
      refine ih (i + 1) ((m_rn a) i g) (by omega) H locs ls ?_ hS (lv_sub hl [0, 1, 2] rfl) hk
      rw [show (m_rn a) i g = _ from if_neg (fun e9 => c10 (by rw [e9]))]
      rw [hf4, hf1, mm_sj_sj, mm_sj_sj] at hP
      exact hP
    · refine lv_goto (tgt := 60) hx hb dM_rename_13 (by decide) ?_
      refine lv_iinc (v := nI (i + 1)) (lv' := [(2, .int (nI (i + 1))), (0, .ref mo), (1, .int (nI a))]) hx hb dM_rename_60 hl (k := 0) rfl (nI_add i 1) (by decide) rfl (fun ls hl => ?_)
      refine lv_goto (tgt := 2) hx hb dM_rename_63 (by decide) ?_
      refine ih (i + 1) ((m_rn a) i g) (by omega) H locs ls ?_ hS (lv_sub hl [0, 1, 2] rfl) hk
      rw [show (m_rn a) i g = g from if_pos ((nI_eq (by omega) (by omega)).mp c10)]
      exact hP
set_option maxRecDepth 100000 in
set_option maxHeartbeats 4000000 in
theorem m_rename {l : Launch} {D : va_G} {tys : List (ClassId × FieldType)} {L : List Nat} {f : Nat → va_E} (hn : L.Nodup) {mo ap cm : Nat} {ad : Nat → Nat} {th fe me fu le en sp ka kc se : Int32} {mx : Int64} {g : Nat → Int64} (hh : mo ∈ L) (hbL : ap ∈ L) (h1 : f mo = mO ad ap cm th fe me fu le en sp ka kc mx se) (h2 : mm_J tys f ap 169 g) {a : Nat} (ha : a < 12) : MetV l yM_rename wM_rename ({ frames := 1, cells := 0, slots := 0, locals := 22 } : Room) D tys L f [.ref mo, .int (nI a)] (fun f' => f' = mm_sj f ap (r_it (m_fg 12) 13 0 (r_it (m_rn a) 12 0 g))) := by
  refine met_of "LiquidCheckerModel" (by decide) rfl (Nat.le_of_ble_eq_true rfl) ?_
  intro pgm e s m below meth c ls C0 hP hl
  obtain ⟨hx, hb, hml, hown, hg, hr, hlocks, hK, hN⟩ := id C0
  have hA : ∀ a ∈ L, inL L a := fun _ h => h
  obtain ⟨H, hH⟩ : ∃ z, z = s.heap := ⟨_, rfl⟩
  rw [← hH] at hP ⊢
  have hS : va_S (inL L) s.heap H [] := by rw [hH]; exact va_S.rf
  have hl : lv_has ls 3 [(0, .ref mo), (1, .int (nI a))] := hl
  refine lv_iconst (v := nI 0) hx hb dM_rename_0 (by decide) ?_
  refine lv_istore_n (lv' := [(2, .int (nI 0)), (0, .ref mo), (1, .int (nI a))]) hx hb dM_rename_1 rfl hl (by decide) rfl (fun ls hl => ?_)
  refine m_rename_loop C0 hn hh hbL h1 h2 ha 12 0 g (by omega) H [] ls (by rw [mm_sj_id h2]; exact hP) hS (lv_sub hl [0, 1, 2] rfl) (fun H locs ls hP hS hl => ?_)
  obtain ⟨g5, hg5⟩ : ∃ z, z = r_it (m_rn a) 12 0 g := ⟨_, rfl⟩
  rw [← hg5] at hP ⊢
  have q2 : mm_J tys (mm_sj f ap g5) ap 169 g5 := h2.set
  have q1 : mm_sj f ap g5 mo = mO ad ap cm th fe me fu le en sp ka kc mx se := by rw [mm_sj_ne (mm_JO h2 h1)]; exact h1
  refine lv_aload_n hx hb dM_rename_66 rfl (lv_at hl 1 rfl) ?_
  refine lv_bipush (v := nI 12) hx hb dM_rename_67 (by decide) ?_
  refine then_v (run_V (n := 1) (As := [.int (nI 12)]) (rest := []) C0 (m_forget hn hh hbL q1 q2 (by omega)) gw782 gw779 gw781 gsM_forget gw7 (by decide +kernel) ⟨Nat.le_of_ble_eq_true rfl, Nat.le_of_ble_eq_true rfl⟩ rfl rfl ⟨Nat.le_of_ble_eq_true rfl, Nat.le_of_ble_eq_true rfl⟩ hP hh q1 rfl rfl rfl hl.1 rfl (Nat.le_of_ble_eq_true rfl) dM_rename_69) hS hA (fun f1 H locs hq69 hP hS => ?_)
  subst hq69
  exact ret_v C0 hP hS (by rw [mm_sj_sj]) dM_rename_72
set_option maxRecDepth 100000 in
set_option maxHeartbeats 4000000 in
theorem m_begin_in {p : Program} {l : Launch} {e : Env} {s : State} {m : MethodId} {args : Array Value} {below : List Frame} {meth : Method} {c : Code} {D : va_G} {tys : List (ClassId × FieldType)} {L : List Nat} {f : Nat → va_E} {Q : State → Prop} (C0 : Cx p s m args meth c cM_begin 3 "LiquidCheckerModel" none D tys) (hn : L.Nodup) {mo ap cm : Nat} {ad : Nat → Nat} {th fe me fu le en sp ka kc se : Int32} {mx : Int64} {g : Nat → Int64} (hh : mo ∈ L) (hbL : ap ∈ L) (h1 : f mo = mO ad ap cm th fe me fu le en sp ka kc mx se) (h2 : mm_J tys f ap 169 g) {x : Nat} (hx0 : x < 13) : ∀ (n i : Nat) (g : Nat → Int64), i + n = 13 → ∀ (H : Heap) (locs : List Loc) (ls : Array Slot), va_P D zCl (va_pl L (mm_sj f ap g)) H → va_S (inL L) s.heap H locs → lv_has ls 3 [(2, .int (nI i)), (1, .int (nI x)), (0, .ref mo)] → (∀ (H : Heap) (locs : List Loc) (ls : Array Slot), va_P D zCl (va_pl L (mm_sj f ap (r_it (m_b1 x) n i g))) H → va_S (inL L) s.heap H locs → lv_has ls 3 [(2, .int (nI 13)), (1, .int (nI x)), (0, .ref mo)] → W p l e ({ frames := 0, cells := 0, slots := 0, locals := 0 } : Room) s m args below meth c H locs 0 0 Q (F0 m 45 ls [])) → W p l e ({ frames := 0, cells := 0, slots := 0, locals := 0 } : Room) s m args below meth c H locs 0 0 Q (F0 m 10 ls []) := by
  obtain ⟨hx, hb, hml, hown, hg, hr, hlocks, hK, hN⟩ := id C0
  have hA : ∀ a ∈ L, inL L a := fun _ h => h
  intro n
  induction n with
  | zero =>
    intro i g hi H locs ls hP hS hl hk
    obtain rfl : i = 13 := by omega
    have q2 : mm_J tys (mm_sj f ap g) ap 169 g := h2.set
    have q1 : mm_sj f ap g mo = mO ad ap cm th fe me fu le en sp ka kc mx se := by rw [mm_sj_ne (mm_JO h2 h1)]; exact h1
    refine lv_iload_n hx hb dM_begin_10 rfl (lv_at hl 0 rfl) ?_
    refine lv_bipush (v := nI 13) hx hb dM_begin_11 (by decide) ?_
    refine lv_icmp_ge (tgt := 45) hx hb dM_begin_13 (by decide) (fun c13 => ?_) (fun c13 => absurd (nI_le (by omega) (by omega)) c13)
    exact hk H locs ls hP hS (lv_sub hl [0, 1, 2] rfl)
  | succ n ih =>
    intro i g hi H locs ls hP hS hl hk
    have q2 : mm_J tys (mm_sj f ap g) ap 169 g := h2.set
    have q1 : mm_sj f ap g mo = mO ad ap cm th fe me fu le en sp ka kc mx se := by rw [mm_sj_ne (mm_JO h2 h1)]; exact h1
    refine lv_iload_n hx hb dM_begin_10 rfl (lv_at hl 0 rfl) ?_
    refine lv_bipush (v := nI 13) hx hb dM_begin_11 (by decide) ?_
    refine lv_icmp_ge (tgt := 45) hx hb dM_begin_13 (by decide) (fun c13 => absurd c13 (nI_ge (show i < 13 by omega) (by omega))) (fun c13 => ?_)
    refine lv_aload_n hx hb dM_begin_16 rfl (lv_at hl 2 rfl) ?_
    refine mm_get (v := .ref ap) hx hb hg inM hown hK hP hh q1 rfl 17 (by decide) (hg _ gw610) (fun _ h9 => h9) rfl dM_begin_17 ?_
    refine lv_bipush (v := nI 13) hx hb dM_begin_20 (by decide) ?_
    refine lv_iload_n hx hb dM_begin_22 rfl (lv_at hl 1 rfl) ?_
    refine lv_imul hx hb dM_begin_23 ?_
    rw [pk_mul]
    refine lv_iload_n hx hb dM_begin_24 rfl (lv_at hl 0 rfl) ?_
    refine lv_iadd hx hb dM_begin_25 ?_
    rw [nI_add]
    refine lv_iload_n hx hb dM_begin_26 rfl (lv_at hl 1 rfl) ?_
    refine lv_iload_n hx hb dM_begin_27 rfl (lv_at hl 0 rfl) ?_
    refine lv_icmp_ne (tgt := 35) hx hb dM_begin_28 (by decide) (fun c28 => ?_) (fun c28 => ?_)
    · refine lv_ldc2 hx hb hown (hg _ gw739) dM_begin_35 ?_
      refine mm_last hx hb hK hn hA hP hS hbL q2 (vp_in_nI (show (13 * x) + i < 169 by omega) (by omega)) dM_begin_38 (fun H locs hP hS => ?_)
      rw [nI_clamp (by omega)] at hP
      obtain ⟨f1, hf1⟩ : ∃ z, z = mm_sj (mm_sj f ap g) ap (vp_updL g ((13 * x) + i) 1000000000000) := ⟨_, rfl⟩
      have hP : va_P D zCl (va_pl L f1) H := by rw [hf1]; exact hP
      have p2 : f1 mo = .inr (6, [.int th, .ref (ad 0), .ref (ad 1), .ref (ad 2), .ref (ad 3), .ref (ad 4), .ref (ad 5), .ref (ad 6), .ref (ad 7), .ref (ad 8), .ref (ad 9), .ref (ad 10), .ref (ad 11), .ref (ad 12), .ref (ad 13), .ref (ad 14), .ref (ad 15), .ref ap, .int fe, .int me, .int fu, .int le, .int en, .ref cm, .int sp, .int ka, .int kc, .long mx, .int se]) := by rw [hf1, mm_sj_ne (mm_JO q2 q1)]; exact q1
      have p3 : mm_J tys f1 ap 169 (vp_updL g ((13 * x) + i) 1000000000000) := by rw [hf1]; exact q2.set
      refine lv_iinc (v := nI (i + 1)) (lv' := [(2, .int (nI (i + 1))), (1, .int (nI x)), (0, .ref mo)]) hx hb dM_begin_39 hl (k := 0) rfl (nI_add i 1) (by decide) rfl (fun ls hl => ?_)
      refine lv_goto (tgt := 10) hx hb dM_begin_42 (by decide) ?_
      refine ih (i + 1) ((m_b1 x) i g) (by omega) H locs ls ?_ hS (lv_sub hl [0, 1, 2] rfl) hk
      rw [show m_b1 x i g = vp_updL g (13 * x + i) 1000000000000 from by unfold m_b1; rw [if_neg (fun e9 => c28 (by rw [e9]))]]
      rw [hf1, mm_sj_sj] at hP
      exact hP
    · refine lv_lconst (v := 0) hx hb dM_begin_31 (by decide) ?_
      refine lv_goto (tgt := 38) hx hb dM_begin_32 (by decide) ?_
      refine mm_last hx hb hK hn hA hP hS hbL q2 (vp_in_nI (show (13 * x) + i < 169 by omega) (by omega)) dM_begin_38 (fun H locs hP hS => ?_)
      rw [nI_clamp (by omega)] at hP
      obtain ⟨f4, hf4⟩ : ∃ z, z = mm_sj (mm_sj f ap g) ap (vp_updL g ((13 * x) + i) 0) := ⟨_, rfl⟩
      have hP : va_P D zCl (va_pl L f4) H := by rw [hf4]; exact hP
      have p5 : f4 mo = .inr (6, [.int th, .ref (ad 0), .ref (ad 1), .ref (ad 2), .ref (ad 3), .ref (ad 4), .ref (ad 5), .ref (ad 6), .ref (ad 7), .ref (ad 8), .ref (ad 9), .ref (ad 10), .ref (ad 11), .ref (ad 12), .ref (ad 13), .ref (ad 14), .ref (ad 15), .ref ap, .int fe, .int me, .int fu, .int le, .int en, .ref cm, .int sp, .int ka, .int kc, .long mx, .int se]) := by rw [hf4, mm_sj_ne (mm_JO q2 q1)]; exact q1
      have p6 : mm_J tys f4 ap 169 (vp_updL g ((13 * x) + i) 0) := by rw [hf4]; exact q2.set
      refine lv_iinc (v := nI (i + 1)) (lv' := [(2, .int (nI (i + 1))), (1, .int (nI x)), (0, .ref mo)]) hx hb dM_begin_39 hl (k := 0) rfl (nI_add i 1) (by decide) rfl (fun ls hl => ?_)
      refine lv_goto (tgt := 10) hx hb dM_begin_42 (by decide) ?_
      refine ih (i + 1) ((m_b1 x) i g) (by omega) H locs ls ?_ hS (lv_sub hl [0, 1, 2] rfl) hk
      rw [show m_b1 x i g = vp_updL g (13 * x + i) 0 from by unfold m_b1; rw [if_pos ((nI_eq (by omega) (by omega)).mp c28)]]
      rw [hf4, mm_sj_sj] at hP
      exact hP
set_option maxRecDepth 100000 in
set_option maxHeartbeats 4000000 in
theorem m_begin_out {p : Program} {l : Launch} {e : Env} {s : State} {m : MethodId} {args : Array Value} {below : List Frame} {meth : Method} {c : Code} {D : va_G} {tys : List (ClassId × FieldType)} {L : List Nat} {f : Nat → va_E} {Q : State → Prop} (C0 : Cx p s m args meth c cM_begin 3 "LiquidCheckerModel" none D tys) (hn : L.Nodup) {mo ap cm : Nat} {ad : Nat → Nat} {th fe me fu le en sp ka kc se : Int32} {mx : Int64} {g : Nat → Int64} (hh : mo ∈ L) (hbL : ap ∈ L) (h1 : f mo = mO ad ap cm th fe me fu le en sp ka kc mx se) (h2 : mm_J tys f ap 169 g) : ∀ (n i : Nat) (g : Nat → Int64), i + n = 13 → ∀ (H : Heap) (locs : List Loc) (ls : Array Slot), va_P D zCl (va_pl L (mm_sj f ap g)) H → va_S (inL L) s.heap H locs → lv_has ls 3 [(1, .int (nI i)), (0, .ref mo)] → (∀ (H : Heap) (locs : List Loc) (ls : Array Slot), va_P D zCl (va_pl L (mm_sj f ap (r_it (m_b2) n i g))) H → va_S (inL L) s.heap H locs → lv_has ls 3 [(1, .int (nI 13)), (0, .ref mo)] → W p l e ({ frames := 0, cells := 0, slots := 0, locals := 0 } : Room) s m args below meth c H locs 0 0 Q (F0 m 51 ls [])) → W p l e ({ frames := 0, cells := 0, slots := 0, locals := 0 } : Room) s m args below meth c H locs 0 0 Q (F0 m 2 ls []) := by
  obtain ⟨hx, hb, hml, hown, hg, hr, hlocks, hK, hN⟩ := id C0
  have hA : ∀ a ∈ L, inL L a := fun _ h => h
  intro n
  induction n with
  | zero =>
    intro i g hi H locs ls hP hS hl hk
    obtain rfl : i = 13 := by omega
    have q2 : mm_J tys (mm_sj f ap g) ap 169 g := h2.set
    have q1 : mm_sj f ap g mo = mO ad ap cm th fe me fu le en sp ka kc mx se := by rw [mm_sj_ne (mm_JO h2 h1)]; exact h1
    refine lv_iload_n hx hb dM_begin_2 rfl (lv_at hl 0 rfl) ?_
    refine lv_bipush (v := nI 13) hx hb dM_begin_3 (by decide) ?_
    refine lv_icmp_ge (tgt := 51) hx hb dM_begin_5 (by decide) (fun c5 => ?_) (fun c5 => absurd (nI_le (by omega) (by omega)) c5)
    exact hk H locs ls hP hS (lv_sub hl [0, 1] rfl)
  | succ n ih =>
    intro i g hi H locs ls hP hS hl hk
    have q2 : mm_J tys (mm_sj f ap g) ap 169 g := h2.set
    have q1 : mm_sj f ap g mo = mO ad ap cm th fe me fu le en sp ka kc mx se := by rw [mm_sj_ne (mm_JO h2 h1)]; exact h1
    refine lv_iload_n hx hb dM_begin_2 rfl (lv_at hl 0 rfl) ?_
    refine lv_bipush (v := nI 13) hx hb dM_begin_3 (by decide) ?_
    refine lv_icmp_ge (tgt := 51) hx hb dM_begin_5 (by decide) (fun c5 => absurd c5 (nI_ge (show i < 13 by omega) (by omega))) (fun c5 => ?_)
    refine lv_iconst (v := nI 0) hx hb dM_begin_8 (by decide) ?_
    refine lv_istore_n (lv' := [(2, .int (nI 0)), (1, .int (nI i)), (0, .ref mo)]) hx hb dM_begin_9 rfl hl (by decide) rfl (fun ls hl => ?_)
    refine m_begin_in C0 hn hh hbL h1 h2 (show i < 13 by omega) 13 0 g (by omega) H locs ls hP hS (lv_sub hl [0, 1, 2] rfl) (fun H locs ls hP hS hl => ?_)
    refine lv_iinc (v := nI (i + 1)) (lv' := [(1, .int (nI (i + 1))), (2, .int (nI 13)), (0, .ref mo)]) hx hb dM_begin_45 hl (k := 1) rfl (nI_add i 1) (by decide) rfl (fun ls hl => ?_)
    refine lv_goto (tgt := 2) hx hb dM_begin_48 (by decide) ?_
    exact ih (i + 1) (m_b2 i g) (by omega) H locs ls hP hS (lv_sub hl [0, 2] rfl) hk
set_option maxRecDepth 100000 in
set_option maxHeartbeats 4000000 in
theorem m_begin {l : Launch} {D : va_G} {tys : List (ClassId × FieldType)} {L : List Nat} {f : Nat → va_E} (hn : L.Nodup) {mo ap cm : Nat} {ad : Nat → Nat} {th fe me fu le en sp ka kc se : Int32} {mx : Int64} {g : Nat → Int64} (hh : mo ∈ L) (hbL : ap ∈ L) (h1 : f mo = mO ad ap cm th fe me fu le en sp ka kc mx se) (h2 : mm_J tys f ap 169 g) : MetV l yM_begin wM_begin ({ frames := 0, cells := 0, slots := 0, locals := 0 } : Room) D tys L f [.ref mo] (fun f' => f' = va_up (mm_sj f ap (r_it m_b2 13 0 g)) mo (mO ad ap cm th (nI 1) me fu le en sp ka kc mx se)) := by
  refine met_of "LiquidCheckerModel" (by decide) rfl (Nat.le_of_ble_eq_true rfl) ?_
  intro pgm e s m below meth c ls C0 hP hl
  obtain ⟨hx, hb, hml, hown, hg, hr, hlocks, hK, hN⟩ := id C0
  have hA : ∀ a ∈ L, inL L a := fun _ h => h
  obtain ⟨H, hH⟩ : ∃ z, z = s.heap := ⟨_, rfl⟩
  rw [← hH] at hP ⊢
  have hS : va_S (inL L) s.heap H [] := by rw [hH]; exact va_S.rf
  have hl : lv_has ls 3 [(0, .ref mo)] := hl
  refine lv_iconst (v := nI 0) hx hb dM_begin_0 (by decide) ?_
  refine lv_istore_n (lv' := [(1, .int (nI 0)), (0, .ref mo)]) hx hb dM_begin_1 rfl hl (by decide) rfl (fun ls hl => ?_)
  refine m_begin_out C0 hn hh hbL h1 h2  13 0 g (by omega) H [] ls (by rw [mm_sj_id h2]; exact hP) hS (lv_sub hl [0, 1] rfl) (fun H locs ls hP hS hl => ?_)
  have q2 : mm_J tys (mm_sj f ap (r_it m_b2 13 0 g)) ap 169 (r_it m_b2 13 0 g) := h2.set
  have q1 : mm_sj f ap (r_it m_b2 13 0 g) mo = mO ad ap cm th fe me fu le en sp ka kc mx se := by rw [mm_sj_ne (mm_JO h2 h1)]; exact h1
  refine lv_aload_n hx hb dM_begin_51 rfl (lv_at hl 1 rfl) ?_
  refine lv_iconst (v := nI 1) hx hb dM_begin_52 (by decide) ?_
  refine mm_put (v := .int (nI 1)) (ty := .boolean) hx hb hg inM tyM tyM_ok nmM hown hK hn hA hP hS hh (show (mm_sj f ap (r_it m_b2 13 0 g)) mo = .inr (6, [.int th, .ref (ad 0), .ref (ad 1), .ref (ad 2), .ref (ad 3), .ref (ad 4), .ref (ad 5), .ref (ad 6), .ref (ad 7), .ref (ad 8), .ref (ad 9), .ref (ad 10), .ref (ad 11), .ref (ad 12), .ref (ad 13), .ref (ad 14), .ref (ad 15), .ref ap, .int fe, .int me, .int fu, .int le, .int en, .ref cm, .int sp, .int ka, .int kc, .long mx, .int se]) from q1) rfl 18 (by decide) (hg _ gw611) (fun _ h9 => h9) rfl (by decide +kernel) rfl rfl (Nat.le_of_ble_eq_true rfl) dM_begin_53 (fun H locs hP hS => ?_)
  obtain ⟨f1, hf1⟩ : ∃ z, z = va_up (mm_sj f ap (r_it m_b2 13 0 g)) mo (.inr (6, [.int th, .ref (ad 0), .ref (ad 1), .ref (ad 2), .ref (ad 3), .ref (ad 4), .ref (ad 5), .ref (ad 6), .ref (ad 7), .ref (ad 8), .ref (ad 9), .ref (ad 10), .ref (ad 11), .ref (ad 12), .ref (ad 13), .ref (ad 14), .ref (ad 15), .ref ap, .int (nI 1), .int me, .int fu, .int le, .int en, .ref cm, .int sp, .int ka, .int kc, .long mx, .int se])) := ⟨_, rfl⟩
  have hP : va_P D zCl (va_pl L f1) H := by rw [hf1]; exact hP
  have p2 : mm_J tys f1 ap 169 (r_it m_b2 13 0 g) := q2.eq (by rw [hf1, va_up_ne _ _ (Ne.symm (mm_JO q2 q1))])
  have p3 : f1 mo = .inr (6, [.int th, .ref (ad 0), .ref (ad 1), .ref (ad 2), .ref (ad 3), .ref (ad 4), .ref (ad 5), .ref (ad 6), .ref (ad 7), .ref (ad 8), .ref (ad 9), .ref (ad 10), .ref (ad 11), .ref (ad 12), .ref (ad 13), .ref (ad 14), .ref (ad 15), .ref ap, .int (nI 1), .int me, .int fu, .int le, .int en, .ref cm, .int sp, .int ka, .int kc, .long mx, .int se]) := by rw [hf1]; exact va_up_self _ _ _
  exact ret_v C0 hP hS hf1 dM_begin_56
set_option maxRecDepth 100000 in
set_option maxHeartbeats 4000000 in
theorem m_shows {l : Launch} {D : va_G} {tys : List (ClassId × FieldType)} {L : List Nat} {f : Nat → va_E} (hn : L.Nodup) {mo ap cm : Nat} {ad : Nat → Nat} {th fe me fu le en sp ka kc se : Int32} {mx : Int64} {g : Nat → Int64} (hh : mo ∈ L) (hbL : ap ∈ L) (h1 : f mo = mO ad ap cm th fe me fu le en sp ka kc mx se) (h2 : mm_J tys f ap 169 g) {x y : Nat} {k : Int64} (hx0 : x < 13) (hy0 : y < 13) : MetI l yM_shows wM_shows ({ frames := 0, cells := 0, slots := 0, locals := 0 } : Room) D tys L f [.ref mo, .int (nI x), .int (nI y), .long k] (fun r f' => r = (if 0 < lg_cmp (g (13 * x + y)) k then nI 0 else nI 1) ∧ f' = f) := by
  refine met_of "LiquidCheckerModel" (by decide) rfl (Nat.le_of_ble_eq_true rfl) ?_
  intro pgm e s m below meth c ls C0 hP hl
  obtain ⟨hx, hb, hml, hown, hg, hr, hlocks, hK, hN⟩ := id C0
  have hA : ∀ a ∈ L, inL L a := fun _ h => h
  obtain ⟨H, hH⟩ : ∃ z, z = s.heap := ⟨_, rfl⟩
  rw [← hH] at hP ⊢
  have hS : va_S (inL L) s.heap H [] := by rw [hH]; exact va_S.rf
  have hl : lv_has ls 5 [(0, .ref mo), (1, .int (nI x)), (2, .int (nI y)), (3, .long k)] := hl
  refine lv_aload_n hx hb dM_shows_0 rfl (lv_at hl 0 rfl) ?_
  refine mm_get (v := .ref ap) hx hb hg inM hown hK hP hh h1 rfl 17 (by decide) (hg _ gw610) (fun _ h9 => h9) rfl dM_shows_1 ?_
  refine lv_bipush (v := nI 13) hx hb dM_shows_4 (by decide) ?_
  refine lv_iload_n hx hb dM_shows_6 rfl (lv_at hl 1 rfl) ?_
  refine lv_imul hx hb dM_shows_7 ?_
  rw [pk_mul]
  refine lv_iload_n hx hb dM_shows_8 rfl (lv_at hl 2 rfl) ?_
  refine lv_iadd hx hb dM_shows_9 ?_
  rw [nI_add]
  refine mm_lald hx hb hK hP hbL h2 (vp_in_nI (show (13 * x) + y < 169 by omega) (by omega)) dM_shows_10 ?_
  rw [nI_clamp (by omega)]
  refine lv_lload_n hx hb dM_shows_11 rfl (lv_at hl 3 rfl) ?_
  refine W.lcmp hx hb dM_shows_12 ?_
  refine lv_if_gt (tgt := 20) hx hb dM_shows_13 (by decide) (fun c13 => ?_) (fun c13 => ?_)
  · refine lv_iconst (v := nI 0) hx hb dM_shows_20 (by decide) ?_
    exact ret_z C0 rfl hP hS ⟨(if_pos c13).symm, rfl⟩ dM_shows_21
  · refine lv_iconst (v := nI 1) hx hb dM_shows_16 (by decide) ?_
    refine lv_goto (tgt := 21) hx hb dM_shows_17 (by decide) ?_
    exact ret_z C0 rfl hP hS ⟨(if_neg c13).symm, rfl⟩ dM_shows_21
set_option maxRecDepth 100000 in
set_option maxHeartbeats 4000000 in
theorem m_know_in {p : Program} {l : Launch} {e : Env} {s : State} {m : MethodId} {args : Array Value} {below : List Frame} {meth : Method} {c : Code} {D : va_G} {tys : List (ClassId × FieldType)} {L : List Nat} {f : Nat → va_E} {Q : State → Prop} (C0 : Cx p s m args meth c cM_know 9 "LiquidCheckerModel" none D tys) (hn : L.Nodup) {mo ap cm : Nat} {ad : Nat → Nat} {th fe me fu le en sp ka kc se : Int32} {mx : Int64} {g : Nat → Int64} (hh : mo ∈ L) (hbL : ap ∈ L) (h1 : f mo = mO ad ap cm th fe me fu le en sp ka kc mx se) (h2 : mm_J tys f ap 169 g) {x y fr : Nat} {k : Int64} (hx0 : x < 13) (hy0 : y < 13) (hfr : fr < 13) : ∀ (n i : Nat) (g : Nat → Int64), i + n = 13 → ∀ (H : Heap) (locs : List Loc) (ls : Array Slot), va_P D zCl (va_pl L (mm_sj f ap g)) H → va_S (inL L) s.heap H locs → lv_has ls 9 [(6, .int (nI i)), (5, .int (nI fr)), (0, .ref mo), (1, .int (nI x)), (2, .int (nI y)), (3, .long k)] → (∀ (H : Heap) (locs : List Loc) (ls : Array Slot), va_P D zCl (va_pl L (mm_sj f ap (r_it (m_l1 x y k fr) n i g))) H → va_S (inL L) s.heap H locs → lv_has ls 9 [(6, .int (nI 13)), (5, .int (nI fr)), (0, .ref mo), (1, .int (nI x)), (2, .int (nI y)), (3, .long k)] → W p l e ({ frames := 0, cells := 0, slots := 0, locals := 0 } : Room) s m args below meth c H locs 0 0 Q (F0 m 182 ls [])) → W p l e ({ frames := 0, cells := 0, slots := 0, locals := 0 } : Room) s m args below meth c H locs 0 0 Q (F0 m 82 ls []) := by
  obtain ⟨hx, hb, hml, hown, hg, hr, hlocks, hK, hN⟩ := id C0
  have hA : ∀ a ∈ L, inL L a := fun _ h => h
  intro n
  induction n with
  | zero =>
    intro i g hi H locs ls hP hS hl hk
    obtain rfl : i = 13 := by omega
    have q2 : mm_J tys (mm_sj f ap g) ap 169 g := h2.set
    have q1 : mm_sj f ap g mo = mO ad ap cm th fe me fu le en sp ka kc mx se := by rw [mm_sj_ne (mm_JO h2 h1)]; exact h1
    refine lv_iload hx hb dM_know_82 (lv_at hl 0 rfl) ?_
    refine lv_bipush (v := nI 13) hx hb dM_know_84 (by decide) ?_
    refine lv_icmp_ge (tgt := 182) hx hb dM_know_86 (by decide) (fun c86 => ?_) (fun c86 => absurd (nI_le (by omega) (by omega)) c86)
    exact hk H locs ls hP hS (lv_sub hl [0, 1, 2, 3, 4, 5] rfl)
  | succ n ih =>
    intro i g hi H locs ls hP hS hl hk
    have q2 : mm_J tys (mm_sj f ap g) ap 169 g := h2.set
    have q1 : mm_sj f ap g mo = mO ad ap cm th fe me fu le en sp ka kc mx se := by rw [mm_sj_ne (mm_JO h2 h1)]; exact h1
    refine lv_iload hx hb dM_know_82 (lv_at hl 0 rfl) ?_
    refine lv_bipush (v := nI 13) hx hb dM_know_84 (by decide) ?_
    refine lv_icmp_ge (tgt := 182) hx hb dM_know_86 (by decide) (fun c86 => absurd c86 (nI_ge (show i < 13 by omega) (by omega))) (fun c86 => ?_)
    refine lv_aload_n hx hb dM_know_89 rfl (lv_at hl 2 rfl) ?_
    refine mm_get (v := .ref ap) hx hb hg inM hown hK hP hh q1 rfl 17 (by decide) (hg _ gw610) (fun _ h9 => h9) rfl dM_know_90 ?_
    refine lv_bipush (v := nI 13) hx hb dM_know_93 (by decide) ?_
    refine lv_iload_n hx hb dM_know_95 rfl (lv_at hl 4 rfl) ?_
    refine lv_imul hx hb dM_know_96 ?_
    rw [pk_mul]
    refine lv_iload hx hb dM_know_97 (lv_at hl 0 rfl) ?_
    refine lv_iadd hx hb dM_know_99 ?_
    rw [nI_add]
    refine mm_lald hx hb hK hP hbL q2 (vp_in_nI (show (13 * y) + i < 169 by omega) (by omega)) dM_know_100 ?_
    rw [nI_clamp (by omega)]
    refine lv_topl (fun v ev => ?_)
    refine lv_lstore (lv' := [(7, .long v), (6, .int (nI i)), (5, .int (nI fr)), (0, .ref mo), (1, .int (nI x)), (2, .int (nI y)), (3, .long k)]) hx hb dM_know_101 hl (by decide) rfl (fun ls hl => ?_)
    refine lv_lload hx hb dM_know_103 (lv_at hl 0 rfl) ?_
    refine lv_ldc2 hx hb hown (hg _ gw739) dM_know_105 ?_
    refine W.lcmp hx hb dM_know_108 ?_
    refine lv_if_eq (tgt := 176) hx hb dM_know_109 (by decide) (fun c109 => ?_) (fun c109 => ?_)
    · refine lv_iinc (v := nI (i + 1)) (lv' := [(6, .int (nI (i + 1))), (7, .long v), (5, .int (nI fr)), (0, .ref mo), (1, .int (nI x)), (2, .int (nI y)), (3, .long k)]) hx hb dM_know_176 hl (k := 1) rfl (nI_add i 1) (by decide) rfl (fun ls hl => ?_)
      refine lv_goto (tgt := 82) hx hb dM_know_179 (by decide) ?_
      refine ih (i + 1) ((m_l1 x y k fr) i g) (by omega) H locs ls ?_ hS (lv_sub hl [0, 2, 3, 4, 5, 6] rfl) hk
      rw [show m_l1 x y k fr i g = g from if_pos (by rw [← ev]; exact c109)]
      exact hP
    · refine lv_aload_n hx hb dM_know_112 rfl (lv_at hl 3 rfl) ?_
      refine mm_get (v := .ref ap) hx hb hg inM hown hK hP hh q1 rfl 17 (by decide) (hg _ gw610) (fun _ h9 => h9) rfl dM_know_113 ?_
      refine lv_bipush (v := nI 13) hx hb dM_know_116 (by decide) ?_
      refine lv_iload hx hb dM_know_118 (lv_at hl 2 rfl) ?_
      refine lv_imul hx hb dM_know_120 ?_
      rw [pk_mul]
      refine lv_iload_n hx hb dM_know_121 rfl (lv_at hl 4 rfl) ?_
      refine lv_iadd hx hb dM_know_122 ?_
      rw [nI_add]
      refine mm_lald hx hb hK hP hbL q2 (vp_in_nI (show (13 * fr) + x < 169 by omega) (by omega)) dM_know_123 ?_
      rw [nI_clamp (by omega)]
      refine lv_lload_n hx hb dM_know_124 rfl (lv_at hl 6 rfl) ?_
      refine lv_ladd hx hb dM_know_125 ?_
      refine lv_lload hx hb dM_know_126 (lv_at hl 0 rfl) ?_
      refine lv_ladd hx hb dM_know_128 ?_
      refine lv_aload_n hx hb dM_know_129 rfl (lv_at hl 3 rfl) ?_
      refine mm_get (v := .ref ap) hx hb hg inM hown hK hP hh q1 rfl 17 (by decide) (hg _ gw610) (fun _ h9 => h9) rfl dM_know_130 ?_
      refine lv_bipush (v := nI 13) hx hb dM_know_133 (by decide) ?_
      refine lv_iload hx hb dM_know_135 (lv_at hl 2 rfl) ?_
      refine lv_imul hx hb dM_know_137 ?_
      rw [pk_mul]
      refine lv_iload hx hb dM_know_138 (lv_at hl 1 rfl) ?_
      refine lv_iadd hx hb dM_know_140 ?_
      rw [nI_add]
      refine mm_lald hx hb hK hP hbL q2 (vp_in_nI (show (13 * fr) + i < 169 by omega) (by omega)) dM_know_141 ?_
      rw [nI_clamp (by omega)]
      refine W.lcmp hx hb dM_know_142 ?_
      refine lv_if_ge (tgt := 176) hx hb dM_know_143 (by decide) (fun c143 => ?_) (fun c143 => ?_)
      · refine lv_iinc (v := nI (i + 1)) (lv' := [(6, .int (nI (i + 1))), (7, .long v), (5, .int (nI fr)), (0, .ref mo), (1, .int (nI x)), (2, .int (nI y)), (3, .long k)]) hx hb dM_know_176 hl (k := 1) rfl (nI_add i 1) (by decide) rfl (fun ls hl => ?_)
        refine lv_goto (tgt := 82) hx hb dM_know_179 (by decide) ?_
        refine ih (i + 1) ((m_l1 x y k fr) i g) (by omega) H locs ls ?_ hS (lv_sub hl [0, 2, 3, 4, 5, 6] rfl) hk
        rw [show m_l1 x y k fr i g = g from by unfold m_l1; rw [if_neg (by rw [← ev]; exact c109), if_pos (by rw [← ev]; exact c143)]]
        exact hP
      · refine lv_aload_n hx hb dM_know_146 rfl (lv_at hl 3 rfl) ?_
        refine mm_get (v := .ref ap) hx hb hg inM hown hK hP hh q1 rfl 17 (by decide) (hg _ gw610) (fun _ h9 => h9) rfl dM_know_147 ?_
        refine lv_bipush (v := nI 13) hx hb dM_know_150 (by decide) ?_
        refine lv_iload hx hb dM_know_152 (lv_at hl 2 rfl) ?_
        refine lv_imul hx hb dM_know_154 ?_
        rw [pk_mul]
        refine lv_iload hx hb dM_know_155 (lv_at hl 1 rfl) ?_
        refine lv_iadd hx hb dM_know_157 ?_
        rw [nI_add]
        refine lv_aload_n hx hb dM_know_158 rfl (lv_at hl 3 rfl) ?_
        refine mm_get (v := .ref ap) hx hb hg inM hown hK hP hh q1 rfl 17 (by decide) (hg _ gw610) (fun _ h9 => h9) rfl dM_know_159 ?_
        refine lv_bipush (v := nI 13) hx hb dM_know_162 (by decide) ?_
        refine lv_iload hx hb dM_know_164 (lv_at hl 2 rfl) ?_
        refine lv_imul hx hb dM_know_166 ?_
        rw [pk_mul]
        refine lv_iload_n hx hb dM_know_167 rfl (lv_at hl 4 rfl) ?_
        refine lv_iadd hx hb dM_know_168 ?_
        rw [nI_add]
        refine mm_lald hx hb hK hP hbL q2 (vp_in_nI (show (13 * fr) + x < 169 by omega) (by omega)) dM_know_169 ?_
        rw [nI_clamp (by omega)]
        refine lv_lload_n hx hb dM_know_170 rfl (lv_at hl 6 rfl) ?_
        refine lv_ladd hx hb dM_know_171 ?_
        refine lv_lload hx hb dM_know_172 (lv_at hl 0 rfl) ?_
        refine lv_ladd hx hb dM_know_174 ?_
        refine mm_last hx hb hK hn hA hP hS hbL q2 (vp_in_nI (show (13 * fr) + i < 169 by omega) (by omega)) dM_know_175 (fun H locs hP hS => ?_)
        rw [nI_clamp (by omega)] at hP
        obtain ⟨f1, hf1⟩ : ∃ z, z = mm_sj (mm_sj f ap g) ap (vp_updL g ((13 * fr) + i) (((g ((13 * fr) + x)) + k) + v)) := ⟨_, rfl⟩
        have hP : va_P D zCl (va_pl L f1) H := by rw [hf1]; exact hP
        have p2 : f1 mo = .inr (6, [.int th, .ref (ad 0), .ref (ad 1), .ref (ad 2), .ref (ad 3), .ref (ad 4), .ref (ad 5), .ref (ad 6), .ref (ad 7), .ref (ad 8), .ref (ad 9), .ref (ad 10), .ref (ad 11), .ref (ad 12), .ref (ad 13), .ref (ad 14), .ref (ad 15), .ref ap, .int fe, .int me, .int fu, .int le, .int en, .ref cm, .int sp, .int ka, .int kc, .long mx, .int se]) := by rw [hf1, mm_sj_ne (mm_JO q2 q1)]; exact q1
        have p3 : mm_J tys f1 ap 169 (vp_updL g ((13 * fr) + i) (((g ((13 * fr) + x)) + k) + v)) := by rw [hf1]; exact q2.set
        refine lv_iinc (v := nI (i + 1)) (lv' := [(6, .int (nI (i + 1))), (7, .long v), (5, .int (nI fr)), (0, .ref mo), (1, .int (nI x)), (2, .int (nI y)), (3, .long k)]) hx hb dM_know_176 hl (k := 1) rfl (nI_add i 1) (by decide) rfl (fun ls hl => ?_)
        refine lv_goto (tgt := 82) hx hb dM_know_179 (by decide) ?_
        refine ih (i + 1) ((m_l1 x y k fr) i g) (by omega) H locs ls ?_ hS (lv_sub hl [0, 2, 3, 4, 5, 6] rfl) hk
        rw [show m_l1 x y k fr i g = vp_updL g (13 * fr + i) (g (13 * fr + x) + k + v) from by unfold m_l1; rw [if_neg (by rw [← ev]; exact c109), if_neg (by rw [← ev]; exact c143), ev]]
        rw [hf1, mm_sj_sj] at hP
        exact hP
set_option maxRecDepth 100000 in
set_option maxHeartbeats 4000000 in
theorem m_know_out {p : Program} {l : Launch} {e : Env} {s : State} {m : MethodId} {args : Array Value} {below : List Frame} {meth : Method} {c : Code} {D : va_G} {tys : List (ClassId × FieldType)} {L : List Nat} {f : Nat → va_E} {Q : State → Prop} (C0 : Cx p s m args meth c cM_know 9 "LiquidCheckerModel" none D tys) (hn : L.Nodup) {mo ap cm : Nat} {ad : Nat → Nat} {th fe me fu le en sp ka kc se : Int32} {mx : Int64} {g : Nat → Int64} (hh : mo ∈ L) (hbL : ap ∈ L) (h1 : f mo = mO ad ap cm th fe me fu le en sp ka kc mx se) (h2 : mm_J tys f ap 169 g) {x y : Nat} {k : Int64} (hx0 : x < 13) (hy0 : y < 13) : ∀ (n i : Nat) (g : Nat → Int64), i + n = 13 → ∀ (H : Heap) (locs : List Loc) (ls : Array Slot), va_P D zCl (va_pl L (mm_sj f ap g)) H → va_S (inL L) s.heap H locs → lv_has ls 9 [(5, .int (nI i)), (0, .ref mo), (1, .int (nI x)), (2, .int (nI y)), (3, .long k)] → (∀ (H : Heap) (locs : List Loc) (ls : Array Slot), va_P D zCl (va_pl L (mm_sj f ap (r_it (m_l2 x y k) n i g))) H → va_S (inL L) s.heap H locs → lv_has ls 9 [(5, .int (nI 13)), (0, .ref mo), (1, .int (nI x)), (2, .int (nI y)), (3, .long k)] → W p l e ({ frames := 0, cells := 0, slots := 0, locals := 0 } : Room) s m args below meth c H locs 0 0 Q (F0 m 188 ls [])) → W p l e ({ frames := 0, cells := 0, slots := 0, locals := 0 } : Room) s m args below meth c H locs 0 0 Q (F0 m 50 ls []) := by
  obtain ⟨hx, hb, hml, hown, hg, hr, hlocks, hK, hN⟩ := id C0
  have hA : ∀ a ∈ L, inL L a := fun _ h => h
  intro n
  induction n with
  | zero =>
    intro i g hi H locs ls hP hS hl hk
    obtain rfl : i = 13 := by omega
    have q2 : mm_J tys (mm_sj f ap g) ap 169 g := h2.set
    have q1 : mm_sj f ap g mo = mO ad ap cm th fe me fu le en sp ka kc mx se := by rw [mm_sj_ne (mm_JO h2 h1)]; exact h1
    refine lv_iload hx hb dM_know_50 (lv_at hl 0 rfl) ?_
    refine lv_bipush (v := nI 13) hx hb dM_know_52 (by decide) ?_
    refine lv_icmp_ge (tgt := 188) hx hb dM_know_54 (by decide) (fun c54 => ?_) (fun c54 => absurd (nI_le (by omega) (by omega)) c54)
    exact hk H locs ls hP hS (lv_sub hl [0, 1, 2, 3, 4] rfl)
  | succ n ih =>
    intro i g hi H locs ls hP hS hl hk
    have q2 : mm_J tys (mm_sj f ap g) ap 169 g := h2.set
    have q1 : mm_sj f ap g mo = mO ad ap cm th fe me fu le en sp ka kc mx se := by rw [mm_sj_ne (mm_JO h2 h1)]; exact h1
    refine lv_iload hx hb dM_know_50 (lv_at hl 0 rfl) ?_
    refine lv_bipush (v := nI 13) hx hb dM_know_52 (by decide) ?_
    refine lv_icmp_ge (tgt := 188) hx hb dM_know_54 (by decide) (fun c54 => absurd c54 (nI_ge (show i < 13 by omega) (by omega))) (fun c54 => ?_)
    refine lv_aload_n hx hb dM_know_57 rfl (lv_at hl 1 rfl) ?_
    refine mm_get (v := .ref ap) hx hb hg inM hown hK hP hh q1 rfl 17 (by decide) (hg _ gw610) (fun _ h9 => h9) rfl dM_know_58 ?_
    refine lv_bipush (v := nI 13) hx hb dM_know_61 (by decide) ?_
    refine lv_iload hx hb dM_know_63 (lv_at hl 0 rfl) ?_
    refine lv_imul hx hb dM_know_65 ?_
    rw [pk_mul]
    refine lv_iload_n hx hb dM_know_66 rfl (lv_at hl 2 rfl) ?_
    refine lv_iadd hx hb dM_know_67 ?_
    rw [nI_add]
    refine mm_lald hx hb hK hP hbL q2 (vp_in_nI (show (13 * i) + x < 169 by omega) (by omega)) dM_know_68 ?_
    rw [nI_clamp (by omega)]
    refine lv_ldc2 hx hb hown (hg _ gw739) dM_know_69 ?_
    refine W.lcmp hx hb dM_know_72 ?_
    refine lv_if_ne (tgt := 79) hx hb dM_know_73 (by decide) (fun c73 => ?_) (fun c73 => ?_)
    · refine lv_iconst (v := nI 0) hx hb dM_know_79 (by decide) ?_
      refine lv_istore (lv' := [(6, .int (nI 0)), (5, .int (nI i)), (0, .ref mo), (1, .int (nI x)), (2, .int (nI y)), (3, .long k)]) hx hb dM_know_80 hl (by decide) rfl (fun ls hl => ?_)
      refine m_know_in C0 hn hh hbL h1 h2 hx0 hy0 (show i < 13 by omega) 13 0 g (by omega) H locs ls hP hS (lv_sub hl [0, 1, 2, 3, 4, 5] rfl) (fun H locs ls hP hS hl => ?_)
      refine lv_iinc (v := nI (i + 1)) (lv' := [(5, .int (nI (i + 1))), (6, .int (nI 13)), (0, .ref mo), (1, .int (nI x)), (2, .int (nI y)), (3, .long k)]) hx hb dM_know_182 hl (k := 1) rfl (nI_add i 1) (by decide) rfl (fun ls hl => ?_)
      refine lv_goto (tgt := 50) hx hb dM_know_185 (by decide) ?_
      refine ih (i + 1) (m_l2 x y k i g) (by omega) H locs ls ?_ hS (lv_sub hl [0, 2, 3, 4, 5] rfl) hk
      rw [show m_l2 x y k i g = r_it (m_l1 x y k i) 13 0 g from if_neg c73]
      exact hP
    · refine lv_goto (tgt := 182) hx hb dM_know_76 (by decide) ?_
      refine lv_iinc (v := nI (i + 1)) (lv' := [(5, .int (nI (i + 1))), (0, .ref mo), (1, .int (nI x)), (2, .int (nI y)), (3, .long k)]) hx hb dM_know_182 hl (k := 0) rfl (nI_add i 1) (by decide) rfl (fun ls hl => ?_)
      refine lv_goto (tgt := 50) hx hb dM_know_185 (by decide) ?_
      refine ih (i + 1) ((m_l2 x y k) i g) (by omega) H locs ls ?_ hS (lv_sub hl [0, 1, 2, 3, 4] rfl) hk
      rw [show m_l2 x y k i g = g from if_pos c73]
      exact hP
def m_rk (x y : Nat) (k : Int64) (mo ap : Nat) (o0 : va_E) (fe : Int32) (g : Nat → Int64) (f : Nat → va_E) : Nat → va_E :=
  if ¬ 0 ≤ lg_cmp (g (13 * y + x) + k) 0 then va_up f mo o0 else if fe = 0 then f else if ¬ 0 < lg_cmp (g (13 * x + y)) k then f else mm_sj f ap (r_it (m_l2 x y k) 13 0 g)
set_option maxRecDepth 100000 in
set_option maxHeartbeats 4000000 in
theorem m_know {l : Launch} {D : va_G} {tys : List (ClassId × FieldType)} {L : List Nat} {f : Nat → va_E} (hn : L.Nodup) {mo ap cm : Nat} {ad : Nat → Nat} {th fe me fu le en sp ka kc se : Int32} {mx : Int64} {g : Nat → Int64} (hh : mo ∈ L) (hbL : ap ∈ L) (h1 : f mo = mO ad ap cm th fe me fu le en sp ka kc mx se) (h2 : mm_J tys f ap 169 g) {x y : Nat} {k : Int64} (hx0 : x < 13) (hy0 : y < 13) : MetV l yM_know wM_know ({ frames := 0, cells := 0, slots := 0, locals := 0 } : Room) D tys L f [.ref mo, .int (nI x), .int (nI y), .long k] (fun f' => f' = m_rk x y k mo ap (mO ad ap cm th (nI 0) me fu le en sp ka kc mx se) fe g f) := by
  refine met_of "LiquidCheckerModel" (by decide) rfl (Nat.le_of_ble_eq_true rfl) ?_
  intro pgm e s m below meth c ls C0 hP hl
  obtain ⟨hx, hb, hml, hown, hg, hr, hlocks, hK, hN⟩ := id C0
  have hA : ∀ a ∈ L, inL L a := fun _ h => h
  obtain ⟨H, hH⟩ : ∃ z, z = s.heap := ⟨_, rfl⟩
  rw [← hH] at hP ⊢
  have hS : va_S (inL L) s.heap H [] := by rw [hH]; exact va_S.rf
  have hl : lv_has ls 9 [(0, .ref mo), (1, .int (nI x)), (2, .int (nI y)), (3, .long k)] := hl
  refine lv_aload_n hx hb dM_know_0 rfl (lv_at hl 0 rfl) ?_
  refine mm_get (v := .ref ap) hx hb hg inM hown hK hP hh h1 rfl 17 (by decide) (hg _ gw610) (fun _ h9 => h9) rfl dM_know_1 ?_
  refine lv_bipush (v := nI 13) hx hb dM_know_4 (by decide) ?_
  refine lv_iload_n hx hb dM_know_6 rfl (lv_at hl 2 rfl) ?_
  refine lv_imul hx hb dM_know_7 ?_
  rw [pk_mul]
  refine lv_iload_n hx hb dM_know_8 rfl (lv_at hl 1 rfl) ?_
  refine lv_iadd hx hb dM_know_9 ?_
  rw [nI_add]
  refine mm_lald hx hb hK hP hbL h2 (vp_in_nI (show (13 * y) + x < 169 by omega) (by omega)) dM_know_10 ?_
  rw [nI_clamp (by omega)]
  refine lv_lload_n hx hb dM_know_11 rfl (lv_at hl 3 rfl) ?_
  refine lv_ladd hx hb dM_know_12 ?_
  refine lv_lconst (v := 0) hx hb dM_know_13 (by decide) ?_
  refine W.lcmp hx hb dM_know_14 ?_
  refine lv_if_ge (tgt := 23) hx hb dM_know_15 (by decide) (fun c15 => ?_) (fun c15 => ?_)
  · refine lv_aload_n hx hb dM_know_23 rfl (lv_at hl 0 rfl) ?_
    refine mm_get (v := .int fe) hx hb hg inM hown hK hP hh h1 rfl 18 (by decide) (hg _ gw611) (fun _ h9 => h9) rfl dM_know_24 ?_
    refine lv_if_eq (tgt := 46) hx hb dM_know_27 (by decide) (fun c27 => ?_) (fun c27 => ?_)
    · exact ret_v C0 hP hS (by unfold m_rk; rw [if_neg (Decidable.not_not.mpr c15), if_pos c27]) dM_know_46
    · refine lv_aload_n hx hb dM_know_30 rfl (lv_at hl 0 rfl) ?_
      refine mm_get (v := .ref ap) hx hb hg inM hown hK hP hh h1 rfl 17 (by decide) (hg _ gw610) (fun _ h9 => h9) rfl dM_know_31 ?_
      refine lv_bipush (v := nI 13) hx hb dM_know_34 (by decide) ?_
      refine lv_iload_n hx hb dM_know_36 rfl (lv_at hl 1 rfl) ?_
      refine lv_imul hx hb dM_know_37 ?_
      rw [pk_mul]
      refine lv_iload_n hx hb dM_know_38 rfl (lv_at hl 2 rfl) ?_
      refine lv_iadd hx hb dM_know_39 ?_
      rw [nI_add]
      refine mm_lald hx hb hK hP hbL h2 (vp_in_nI (show (13 * x) + y < 169 by omega) (by omega)) dM_know_40 ?_
      rw [nI_clamp (by omega)]
      refine lv_lload_n hx hb dM_know_41 rfl (lv_at hl 3 rfl) ?_
      refine W.lcmp hx hb dM_know_42 ?_
      refine lv_if_gt (tgt := 47) hx hb dM_know_43 (by decide) (fun c43 => ?_) (fun c43 => ?_)
      · refine lv_iconst (v := nI 0) hx hb dM_know_47 (by decide) ?_
        refine lv_istore (lv' := [(5, .int (nI 0)), (0, .ref mo), (1, .int (nI x)), (2, .int (nI y)), (3, .long k)]) hx hb dM_know_48 hl (by decide) rfl (fun ls hl => ?_)
        refine m_know_out C0 hn hh hbL h1 h2 hx0 hy0 13 0 g (by omega) H [] ls (by rw [mm_sj_id h2]; exact hP) hS (lv_sub hl [0, 1, 2, 3, 4] rfl) (fun H locs ls hP hS hl => ?_)
        exact ret_v C0 hP hS (by unfold m_rk; rw [if_neg (Decidable.not_not.mpr c15), if_neg c27, if_neg (Decidable.not_not.mpr c43)]) dM_know_188
      · exact ret_v C0 hP hS (by unfold m_rk; rw [if_neg (Decidable.not_not.mpr c15), if_neg c27, if_pos c43]) dM_know_46
  · refine lv_aload_n hx hb dM_know_18 rfl (lv_at hl 0 rfl) ?_
    refine lv_iconst (v := nI 0) hx hb dM_know_19 (by decide) ?_
    refine mm_put (v := .int (nI 0)) (ty := .boolean) hx hb hg inM tyM tyM_ok nmM hown hK hn hA hP hS hh (show f mo = .inr (6, [.int th, .ref (ad 0), .ref (ad 1), .ref (ad 2), .ref (ad 3), .ref (ad 4), .ref (ad 5), .ref (ad 6), .ref (ad 7), .ref (ad 8), .ref (ad 9), .ref (ad 10), .ref (ad 11), .ref (ad 12), .ref (ad 13), .ref (ad 14), .ref (ad 15), .ref ap, .int fe, .int me, .int fu, .int le, .int en, .ref cm, .int sp, .int ka, .int kc, .long mx, .int se]) from h1) rfl 18 (by decide) (hg _ gw611) (fun _ h9 => h9) rfl (by decide +kernel) rfl rfl (Nat.le_of_ble_eq_true rfl) dM_know_20 (fun H locs hP hS => ?_)
    obtain ⟨f1, hf1⟩ : ∃ z, z = va_up f mo (.inr (6, [.int th, .ref (ad 0), .ref (ad 1), .ref (ad 2), .ref (ad 3), .ref (ad 4), .ref (ad 5), .ref (ad 6), .ref (ad 7), .ref (ad 8), .ref (ad 9), .ref (ad 10), .ref (ad 11), .ref (ad 12), .ref (ad 13), .ref (ad 14), .ref (ad 15), .ref ap, .int (nI 0), .int me, .int fu, .int le, .int en, .ref cm, .int sp, .int ka, .int kc, .long mx, .int se])) := ⟨_, rfl⟩
    have hP : va_P D zCl (va_pl L f1) H := by rw [hf1]; exact hP
    have p2 : mm_J tys f1 ap 169 g := h2.eq (by rw [hf1, va_up_ne _ _ (Ne.symm (mm_JO h2 h1))])
    have p3 : f1 mo = .inr (6, [.int th, .ref (ad 0), .ref (ad 1), .ref (ad 2), .ref (ad 3), .ref (ad 4), .ref (ad 5), .ref (ad 6), .ref (ad 7), .ref (ad 8), .ref (ad 9), .ref (ad 10), .ref (ad 11), .ref (ad 12), .ref (ad 13), .ref (ad 14), .ref (ad 15), .ref ap, .int (nI 0), .int me, .int fu, .int le, .int en, .ref cm, .int sp, .int ka, .int kc, .long mx, .int se]) := by rw [hf1]; exact va_up_self _ _ _
    refine lv_aload_n hx hb dM_know_23 rfl (lv_at hl 0 rfl) ?_
    refine mm_get (v := .int (nI 0)) hx hb hg inM hown hK hP hh p3 rfl 18 (by decide) (hg _ gw611) (fun _ h9 => h9) rfl dM_know_24 ?_
    refine lv_if_eq (tgt := 46) hx hb dM_know_27 (by decide) (fun c27 => ?_) (fun c27 => absurd nI_0 c27)
    exact ret_v C0 hP hS (by rw [hf1]; unfold m_rk; rw [if_pos c15]) dM_know_46
