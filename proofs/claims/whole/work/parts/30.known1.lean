/-! Known: its methods, as they stand in the code: over the row of 144 numbers. -/
def r_it {σ : Type} (st : Nat → σ → σ) : Nat → Nat → σ → σ
  | 0, _, s => s
  | n + 1, i, s => r_it st n (i + 1) (st i s)
theorem mm_si_si {f : Nat → va_E} {a : Nat} {g g' : Nat → Int32} : mm_si (mm_si f a g) a g' = mm_si f a g' := by
  unfold mm_si
  rw [bx_uu, va_up_self]
  cases h : f a with
  | inl x => obtain ⟨cA, n, y⟩ := x; rfl
  | inr x => rfl
theorem mm_si_id {tys : List (ClassId × FieldType)} {f : Nat → va_E} {a n : Nat} {g : Nat → Int32} (h : mm_I tys f a n g) : mm_si f a g = f := by
  obtain ⟨cA, h1, -⟩ := h
  rw [mm_si_eq h1]
  funext x
  unfold va_up
  split
  · rename_i e; rw [e, h1]
  · rfl
set_option maxRecDepth 100000 in
set_option maxHeartbeats 4000000 in
theorem k_bound {l : Launch} {D : va_G} {tys : List (ClassId × FieldType)} {L : List Nat} {f : Nat → va_E} (hn : L.Nodup) {h b : Nat} {pv : Int32} {g : Nat → Int32} (hh : h ∈ L) (hbL : b ∈ L) (h1 : f h = .inr (1, [.ref b, .int pv])) (h2 : mm_I tys f b 144 g) {x y : Nat} (hx0 : x < 12) (hy0 : y < 12) : MetI l yK_bound wK_bound ({ frames := 0, cells := 0, slots := 0, locals := 0 } : Room) D tys L f [.ref h, .int (nI x), .int (nI y)] (fun r f' => r = g (x * 12 + y) ∧ f' = f) := by
  refine met_of "LiquidChecker$Known" (by decide) rfl (Nat.le_of_ble_eq_true rfl) ?_
  intro p e s m below meth c ls C0 hP hl
  obtain ⟨hx, hb, hml, hown, hg, hr, hlocks, hK, hN⟩ := id C0
  have hA : ∀ a ∈ L, inL L a := fun _ h => h
  obtain ⟨H, hH⟩ : ∃ z, z = s.heap := ⟨_, rfl⟩
  rw [← hH] at hP ⊢
  have hS : va_S (inL L) s.heap H [] := by rw [hH]; exact va_S.rf
  have hl : lv_has ls 3 [(0, .ref h), (1, .int (nI x)), (2, .int (nI y))] := hl
  refine lv_aload_n hx hb dK_bound_0 rfl (lv_at hl 0 rfl) ?_
  refine mm_get (v := .ref b) hx hb hg inK hown hK hP hh h1 rfl 0 (by decide) (hg _ gw41) (fun _ h9 => h9) rfl dK_bound_1 ?_
  refine lv_iload_n hx hb dK_bound_4 rfl (lv_at hl 1 rfl) ?_
  refine lv_bipush (v := nI 12) hx hb dK_bound_5 (by decide) ?_
  refine lv_imul hx hb dK_bound_7 ?_
  rw [pk_mul]
  refine lv_iload_n hx hb dK_bound_8 rfl (lv_at hl 2 rfl) ?_
  refine lv_iadd hx hb dK_bound_9 ?_
  rw [nI_add]
  refine mm_iald hx hb hK hP hbL h2 (vp_in_nI (show (x * 12) + y < 144 by omega) (by omega)) dK_bound_10 ?_
  rw [nI_clamp (by omega)]
  exact ret_i C0 hP hS ⟨rfl, rfl⟩ dK_bound_11
set_option maxRecDepth 100000 in
set_option maxHeartbeats 4000000 in
theorem k_shows {l : Launch} {D : va_G} {tys : List (ClassId × FieldType)} {L : List Nat} {f : Nat → va_E} (hn : L.Nodup) {h b : Nat} {pv : Int32} {g : Nat → Int32} (hh : h ∈ L) (hbL : b ∈ L) (h1 : f h = .inr (1, [.ref b, .int pv])) (h2 : mm_I tys f b 144 g) {x y : Nat} {k : Int32} (hx0 : x < 12) (hy0 : y < 12) : MetI l yK_shows wK_shows ({ frames := 0, cells := 0, slots := 0, locals := 0 } : Room) D tys L f [.ref h, .int (nI x), .int (nI y), .int k] (fun r f' => r = (if k < g (x * 12 + y) then nI 0 else nI 1) ∧ f' = f) := by
  refine met_of "LiquidChecker$Known" (by decide) rfl (Nat.le_of_ble_eq_true rfl) ?_
  intro p e s m below meth c ls C0 hP hl
  obtain ⟨hx, hb, hml, hown, hg, hr, hlocks, hK, hN⟩ := id C0
  have hA : ∀ a ∈ L, inL L a := fun _ h => h
  obtain ⟨H, hH⟩ : ∃ z, z = s.heap := ⟨_, rfl⟩
  rw [← hH] at hP ⊢
  have hS : va_S (inL L) s.heap H [] := by rw [hH]; exact va_S.rf
  have hl : lv_has ls 4 [(0, .ref h), (1, .int (nI x)), (2, .int (nI y)), (3, .int k)] := hl
  refine lv_aload_n hx hb dK_shows_0 rfl (lv_at hl 0 rfl) ?_
  refine mm_get (v := .ref b) hx hb hg inK hown hK hP hh h1 rfl 0 (by decide) (hg _ gw41) (fun _ h9 => h9) rfl dK_shows_1 ?_
  refine lv_iload_n hx hb dK_shows_4 rfl (lv_at hl 1 rfl) ?_
  refine lv_bipush (v := nI 12) hx hb dK_shows_5 (by decide) ?_
  refine lv_imul hx hb dK_shows_7 ?_
  rw [pk_mul]
  refine lv_iload_n hx hb dK_shows_8 rfl (lv_at hl 2 rfl) ?_
  refine lv_iadd hx hb dK_shows_9 ?_
  rw [nI_add]
  refine mm_iald hx hb hK hP hbL h2 (vp_in_nI (show (x * 12) + y < 144 by omega) (by omega)) dK_shows_10 ?_
  rw [nI_clamp (by omega)]
  refine lv_iload_n hx hb dK_shows_11 rfl (lv_at hl 3 rfl) ?_
  refine lv_icmp_gt (tgt := 19) hx hb dK_shows_12 (by decide) (fun c12 => ?_) (fun c12 => ?_)
  · refine lv_iconst (v := nI 0) hx hb dK_shows_19 (by decide) ?_
    exact ret_z C0 rfl hP hS ⟨(if_pos c12).symm, rfl⟩ dK_shows_20
  · refine lv_iconst (v := nI 1) hx hb dK_shows_15 (by decide) ?_
    refine lv_goto (tgt := 20) hx hb dK_shows_16 (by decide) ?_
    exact ret_z C0 rfl hP hS ⟨(if_neg c12).symm, rfl⟩ dK_shows_20
set_option maxRecDepth 100000 in
set_option maxHeartbeats 4000000 in
theorem k_moved {l : Launch} {D : va_G} {tys : List (ClassId × FieldType)} {L : List Nat} {f : Nat → va_E} (hn : L.Nodup) {x k : Int32} : MetI l yK_moved wK_moved ({ frames := 0, cells := 0, slots := 0, locals := 0 } : Room) D tys L f [.int x, .int k] (fun r f' => r = (if x = 1000000 then 1000000 else x + k) ∧ f' = f) := by
  refine met_of "LiquidChecker$Known" (by decide) rfl (Nat.le_of_ble_eq_true rfl) ?_
  intro p e s m below meth c ls C0 hP hl
  obtain ⟨hx, hb, hml, hown, hg, hr, hlocks, hK, hN⟩ := id C0
  have hA : ∀ a ∈ L, inL L a := fun _ h => h
  obtain ⟨H, hH⟩ : ∃ z, z = s.heap := ⟨_, rfl⟩
  rw [← hH] at hP ⊢
  have hS : va_S (inL L) s.heap H [] := by rw [hH]; exact va_S.rf
  have hl : lv_has ls 2 [(0, .int x), (1, .int k)] := hl
  refine lv_iload_n hx hb dK_moved_0 rfl (lv_at hl 0 rfl) ?_
  refine lv_ldc hx hb hown (hg _ gw417) dK_moved_1 ?_
  refine lv_icmp_ne (tgt := 11) hx hb dK_moved_3 (by decide) (fun c3 => ?_) (fun c3 => ?_)
  · refine lv_iload_n hx hb dK_moved_11 rfl (lv_at hl 0 rfl) ?_
    refine lv_iload_n hx hb dK_moved_12 rfl (lv_at hl 1 rfl) ?_
    refine lv_iadd hx hb dK_moved_13 ?_
    exact ret_i C0 hP hS ⟨(if_neg c3).symm, rfl⟩ dK_moved_14
  · refine lv_ldc hx hb hown (hg _ gw417) dK_moved_6 ?_
    refine lv_goto (tgt := 14) hx hb dK_moved_8 (by decide) ?_
    exact ret_i C0 hP hS ⟨(if_pos c3).symm, rfl⟩ dK_moved_14
/-- nothing is known of a: a step, a name -/
def r_fg (a i : Nat) (g : Nat → Int32) : Nat → Int32 := if i = a then g else upd (upd g (a * 12 + i) 1000000) (i * 12 + a) 1000000
def r_gv (a b : Nat) (k : Int32) (i : Nat) (g : Nat → Int32) : Nat → Int32 := if i = a then g else
  (let g1 := upd g (a * 12 + i) (if g (b * 12 + i) = 1000000 then 1000000 else g (b * 12 + i) + k)
  upd g1 (i * 12 + a) (if g1 (i * 12 + b) = 1000000 then 1000000 else g1 (i * 12 + b) + -k))
set_option maxRecDepth 100000 in
set_option maxHeartbeats 4000000 in
theorem k_forget_loop {p : Program} {l : Launch} {e : Env} {s : State} {m : MethodId} {args : Array Value} {below : List Frame} {meth : Method} {c : Code} {D : va_G} {tys : List (ClassId × FieldType)} {L : List Nat} {f : Nat → va_E} {Q : State → Prop} (C0 : Cx p s m args meth c cK_forget 3 "LiquidChecker$Known" none D tys) (hn : L.Nodup) {h b : Nat} {pv : Int32} {g : Nat → Int32} (hh : h ∈ L) (hbL : b ∈ L) (h1 : f h = .inr (1, [.ref b, .int pv])) (h2 : mm_I tys f b 144 g) {a : Nat} (ha : a < 12) : ∀ (n i : Nat) (g : Nat → Int32), i + n = 12 → ∀ (H : Heap) (locs : List Loc) (ls : Array Slot), va_P D zCl (va_pl L (mm_si f b g)) H → va_S (inL L) s.heap H locs → lv_has ls 3 [(2, .int (nI i)), (0, .ref h), (1, .int (nI a))] → (∀ (H : Heap) (locs : List Loc) (ls : Array Slot), va_P D zCl (va_pl L (mm_si f b (r_it (r_fg a) n i g))) H → va_S (inL L) s.heap H locs → lv_has ls 3 [(2, .int (nI 12)), (0, .ref h), (1, .int (nI a))] → W p l e ({ frames := 0, cells := 0, slots := 0, locals := 0 } : Room) s m args below meth c H locs 0 0 Q (F0 m 45 ls [])) → W p l e ({ frames := 0, cells := 0, slots := 0, locals := 0 } : Room) s m args below meth c H locs 0 0 Q (F0 m 2 ls []) := by
  obtain ⟨hx, hb, hml, hown, hg, hr, hlocks, hK, hN⟩ := id C0
  have hA : ∀ a ∈ L, inL L a := fun _ h => h
  intro n
  induction n with
  | zero =>
    intro i g hi H locs ls hP hS hl hk
    obtain rfl : i = 12 := by omega
    have q2 : mm_I tys (mm_si f b g) b 144 g := h2.set
    have q1 : mm_si f b g h = .inr (1, [.ref b, .int pv]) := by rw [mm_si_ne (mm_IO h2 h1)]; exact h1
    refine lv_iload_n hx hb dK_forget_2 rfl (lv_at hl 0 rfl) ?_
    refine lv_bipush (v := nI 12) hx hb dK_forget_3 (by decide) ?_
    refine lv_icmp_ge (tgt := 45) hx hb dK_forget_5 (by decide) (fun c5 => ?_) (fun c5 => absurd (nI_le (by omega) (by omega)) c5)
    exact hk H locs ls hP hS (lv_sub hl [0, 1, 2] rfl)
  | succ n ih =>
    intro i g hi H locs ls hP hS hl hk
    have q2 : mm_I tys (mm_si f b g) b 144 g := h2.set
    have q1 : mm_si f b g h = .inr (1, [.ref b, .int pv]) := by rw [mm_si_ne (mm_IO h2 h1)]; exact h1
    refine lv_iload_n hx hb dK_forget_2 rfl (lv_at hl 0 rfl) ?_
    refine lv_bipush (v := nI 12) hx hb dK_forget_3 (by decide) ?_
    refine lv_icmp_ge (tgt := 45) hx hb dK_forget_5 (by decide) (fun c5 => absurd c5 (nI_ge (show i < 12 by omega) (by omega))) (fun c5 => ?_)
    refine lv_iload_n hx hb dK_forget_8 rfl (lv_at hl 0 rfl) ?_
    refine lv_iload_n hx hb dK_forget_9 rfl (lv_at hl 2 rfl) ?_
    refine lv_icmp_eq (tgt := 39) hx hb dK_forget_10 (by decide) (fun c10 => ?_) (fun c10 => ?_)
    · refine lv_iinc (v := nI (i + 1)) (lv' := [(2, .int (nI (i + 1))), (0, .ref h), (1, .int (nI a))]) hx hb dK_forget_39 hl (k := 0) rfl (nI_add i 1) (by decide) rfl (fun ls hl => ?_)
      refine lv_goto (tgt := 2) hx hb dK_forget_42 (by decide) ?_
      refine ih (i + 1) ((r_fg a) i g) (by omega) H locs ls ?_ hS (lv_sub hl [0, 1, 2] rfl) hk
      rw [show (r_fg a) i g = g from if_pos ((nI_eq (by omega) (by omega)).mp c10)]
      exact hP
    · refine lv_aload_n hx hb dK_forget_13 rfl (lv_at hl 1 rfl) ?_
      refine mm_get (v := .ref b) hx hb hg inK hown hK hP hh q1 rfl 0 (by decide) (hg _ gw41) (fun _ h9 => h9) rfl dK_forget_14 ?_
      refine lv_iload_n hx hb dK_forget_17 rfl (lv_at hl 2 rfl) ?_
      refine lv_bipush (v := nI 12) hx hb dK_forget_18 (by decide) ?_
      refine lv_imul hx hb dK_forget_20 ?_
      rw [pk_mul]
      refine lv_iload_n hx hb dK_forget_21 rfl (lv_at hl 0 rfl) ?_
      refine lv_iadd hx hb dK_forget_22 ?_
      rw [nI_add]
      refine lv_ldc hx hb hown (hg _ gw417) dK_forget_23 ?_
      refine mm_iast hx hb hK hn hA hP hS hbL q2 (vp_in_nI (show (a * 12) + i < 144 by omega) (by omega)) dK_forget_25 (fun H locs hP hS => ?_)
      rw [nI_clamp (by omega)] at hP
      obtain ⟨f1, hf1⟩ : ∃ z, z = mm_si (mm_si f b g) b (upd g ((a * 12) + i) 1000000) := ⟨_, rfl⟩
      have hP : va_P D zCl (va_pl L f1) H := by rw [hf1]; exact hP
      have p2 : f1 h = .inr (1, [.ref b, .int pv]) := by rw [hf1, mm_si_ne (mm_IO q2 q1)]; exact q1
      have p3 : mm_I tys f1 b 144 (upd g ((a * 12) + i) 1000000) := by rw [hf1]; exact q2.set
      refine lv_aload_n hx hb dK_forget_26 rfl (lv_at hl 1 rfl) ?_
      refine mm_get (v := .ref b) hx hb hg inK hown hK hP hh p2 rfl 0 (by decide) (hg _ gw41) (fun _ h9 => h9) rfl dK_forget_27 ?_
      refine lv_iload_n hx hb dK_forget_30 rfl (lv_at hl 0 rfl) ?_
      refine lv_bipush (v := nI 12) hx hb dK_forget_31 (by decide) ?_
      refine lv_imul hx hb dK_forget_33 ?_
      rw [pk_mul]
      refine lv_iload_n hx hb dK_forget_34 rfl (lv_at hl 2 rfl) ?_
      refine lv_iadd hx hb dK_forget_35 ?_
      rw [nI_add]
      refine lv_ldc hx hb hown (hg _ gw417) dK_forget_36 ?_
      refine mm_iast hx hb hK hn hA hP hS hbL p3 (vp_in_nI (show (i * 12) + a < 144 by omega) (by omega)) dK_forget_38 (fun H locs hP hS => ?_)
      rw [nI_clamp (by omega)] at hP
      obtain ⟨f4, hf4⟩ : ∃ z, z = mm_si f1 b (upd (upd g ((a * 12) + i) 1000000) ((i * 12) + a) 1000000) := ⟨_, rfl⟩
      have hP : va_P D zCl (va_pl L f4) H := by rw [hf4]; exact hP
      have p5 : f4 h = .inr (1, [.ref b, .int pv]) := by rw [hf4, mm_si_ne (mm_IO p3 p2)]; exact p2
      have p6 : mm_I tys f4 b 144 (upd (upd g ((a * 12) + i) 1000000) ((i * 12) + a) 1000000) := by rw [hf4]; exact p3.set
      refine lv_iinc (v := nI (i + 1)) (lv' := [(2, .int (nI (i + 1))), (0, .ref h), (1, .int (nI a))]) hx hb dK_forget_39 hl (k := 0) rfl (nI_add i 1) (by decide) rfl (fun ls hl => ?_)
      refine lv_goto (tgt := 2) hx hb dK_forget_42 (by decide) ?_
      refine ih (i + 1) ((r_fg a) i g) (by omega) H locs ls ?_ hS (lv_sub hl [0, 1, 2] rfl) hk
      rw [show (r_fg a) i g = _ from if_neg (fun e9 => c10 (by rw [e9]))]
      rw [hf4, hf1, mm_si_si, mm_si_si] at hP
      exact hP
set_option maxRecDepth 100000 in
set_option maxHeartbeats 4000000 in
theorem k_forget {l : Launch} {D : va_G} {tys : List (ClassId × FieldType)} {L : List Nat} {f : Nat → va_E} (hn : L.Nodup) {h b : Nat} {pv : Int32} {g : Nat → Int32} (hh : h ∈ L) (hbL : b ∈ L) (h1 : f h = .inr (1, [.ref b, .int pv])) (h2 : mm_I tys f b 144 g) {a : Nat} (ha : a < 12) : MetV l yK_forget wK_forget ({ frames := 0, cells := 0, slots := 0, locals := 0 } : Room) D tys L f [.ref h, .int (nI a)] (fun f' => f' = mm_si f b (r_it (r_fg a) 12 0 g)) := by
  refine met_of "LiquidChecker$Known" (by decide) rfl (Nat.le_of_ble_eq_true rfl) ?_
  intro p e s m below meth c ls C0 hP hl
  obtain ⟨hx, hb, hml, hown, hg, hr, hlocks, hK, hN⟩ := id C0
  have hA : ∀ a ∈ L, inL L a := fun _ h => h
  obtain ⟨H, hH⟩ : ∃ z, z = s.heap := ⟨_, rfl⟩
  rw [← hH] at hP ⊢
  have hS : va_S (inL L) s.heap H [] := by rw [hH]; exact va_S.rf
  have hl : lv_has ls 3 [(0, .ref h), (1, .int (nI a))] := hl
  refine lv_iconst (v := nI 0) hx hb dK_forget_0 (by decide) ?_
  refine lv_istore_n (lv' := [(2, .int (nI 0)), (0, .ref h), (1, .int (nI a))]) hx hb dK_forget_1 rfl hl (by decide) rfl (fun ls hl => ?_)
  refine k_forget_loop C0 hn hh hbL h1 h2 ha 12 0 g (by omega) H [] ls (by rw [mm_si_id h2]; exact hP) hS (lv_sub hl [0, 1, 2] rfl) (fun H locs ls hP hS hl => ?_)
  exact ret_v C0 hP hS rfl dK_forget_45
set_option maxRecDepth 100000 in
set_option maxHeartbeats 4000000 in
theorem k_give_loop {p : Program} {l : Launch} {e : Env} {s : State} {m : MethodId} {args : Array Value} {below : List Frame} {meth : Method} {c : Code} {D : va_G} {tys : List (ClassId × FieldType)} {L : List Nat} {f : Nat → va_E} {Q : State → Prop} (C0 : Cx p s m args meth c cK_give 5 "LiquidChecker$Known" none D tys) (hn : L.Nodup) {h b : Nat} {pv : Int32} {g : Nat → Int32} (hh : h ∈ L) (hbL : b ∈ L) (h1 : f h = .inr (1, [.ref b, .int pv])) (h2 : mm_I tys f b 144 g) {a bb : Nat} {k : Int32} (ha : a < 12) (hbb : bb < 12) : ∀ (n i : Nat) (g : Nat → Int32), i + n = 12 → ∀ (H : Heap) (locs : List Loc) (ls : Array Slot), va_P D zCl (va_pl L (mm_si f b g)) H → va_S (inL L) s.heap H locs → lv_has ls 5 [(4, .int (nI i)), (0, .ref h), (1, .int (nI a)), (2, .int (nI bb)), (3, .int k)] → (∀ (H : Heap) (locs : List Loc) (ls : Array Slot), va_P D zCl (va_pl L (mm_si f b (r_it (r_gv a bb k) n i g))) H → va_S (inL L) s.heap H locs → lv_has ls 5 [(4, .int (nI 12)), (0, .ref h), (1, .int (nI a)), (2, .int (nI bb)), (3, .int k)] → W p l e ({ frames := 1, cells := 0, slots := 0, locals := 21 } : Room) s m args below meth c H locs 0 0 Q (F0 m 79 ls [])) → W p l e ({ frames := 1, cells := 0, slots := 0, locals := 21 } : Room) s m args below meth c H locs 0 0 Q (F0 m 3 ls []) := by
  obtain ⟨hx, hb, hml, hown, hg, hr, hlocks, hK, hN⟩ := id C0
  have hA : ∀ a ∈ L, inL L a := fun _ h => h
  intro n
  induction n with
  | zero =>
    intro i g hi H locs ls hP hS hl hk
    obtain rfl : i = 12 := by omega
    have q2 : mm_I tys (mm_si f b g) b 144 g := h2.set
    have q1 : mm_si f b g h = .inr (1, [.ref b, .int pv]) := by rw [mm_si_ne (mm_IO h2 h1)]; exact h1
    refine lv_iload hx hb dK_give_3 (lv_at hl 0 rfl) ?_
    refine lv_bipush (v := nI 12) hx hb dK_give_5 (by decide) ?_
    refine lv_icmp_ge (tgt := 79) hx hb dK_give_7 (by decide) (fun c7 => ?_) (fun c7 => absurd (nI_le (by omega) (by omega)) c7)
    exact hk H locs ls hP hS (lv_sub hl [0, 1, 2, 3, 4] rfl)
  | succ n ih =>
    intro i g hi H locs ls hP hS hl hk
    have q2 : mm_I tys (mm_si f b g) b 144 g := h2.set
    have q1 : mm_si f b g h = .inr (1, [.ref b, .int pv]) := by rw [mm_si_ne (mm_IO h2 h1)]; exact h1
    refine lv_iload hx hb dK_give_3 (lv_at hl 0 rfl) ?_
    refine lv_bipush (v := nI 12) hx hb dK_give_5 (by decide) ?_
    refine lv_icmp_ge (tgt := 79) hx hb dK_give_7 (by decide) (fun c7 => absurd c7 (nI_ge (show i < 12 by omega) (by omega))) (fun c7 => ?_)
    refine lv_iload hx hb dK_give_10 (lv_at hl 0 rfl) ?_
    refine lv_iload_n hx hb dK_give_12 rfl (lv_at hl 2 rfl) ?_
    refine lv_icmp_eq (tgt := 73) hx hb dK_give_13 (by decide) (fun c13 => ?_) (fun c13 => ?_)
    · refine lv_iinc (v := nI (i + 1)) (lv' := [(4, .int (nI (i + 1))), (0, .ref h), (1, .int (nI a)), (2, .int (nI bb)), (3, .int k)]) hx hb dK_give_73 hl (k := 0) rfl (nI_add i 1) (by decide) rfl (fun ls hl => ?_)
      refine lv_goto (tgt := 3) hx hb dK_give_76 (by decide) ?_
      refine ih (i + 1) ((r_gv a bb k) i g) (by omega) H locs ls ?_ hS (lv_sub hl [0, 1, 2, 3, 4] rfl) hk
      rw [show (r_gv a bb k) i g = g from if_pos ((nI_eq (by omega) (by omega)).mp c13)]
      exact hP
    · refine lv_aload_n hx hb dK_give_16 rfl (lv_at hl 1 rfl) ?_
      refine mm_get (v := .ref b) hx hb hg inK hown hK hP hh q1 rfl 0 (by decide) (hg _ gw41) (fun _ h9 => h9) rfl dK_give_17 ?_
      refine lv_iload_n hx hb dK_give_20 rfl (lv_at hl 2 rfl) ?_
      refine lv_bipush (v := nI 12) hx hb dK_give_21 (by decide) ?_
      refine lv_imul hx hb dK_give_23 ?_
      rw [pk_mul]
      refine lv_iload hx hb dK_give_24 (lv_at hl 0 rfl) ?_
      refine lv_iadd hx hb dK_give_26 ?_
      rw [nI_add]
      refine lv_aload_n hx hb dK_give_27 rfl (lv_at hl 1 rfl) ?_
      refine mm_get (v := .ref b) hx hb hg inK hown hK hP hh q1 rfl 0 (by decide) (hg _ gw41) (fun _ h9 => h9) rfl dK_give_28 ?_
      refine lv_iload_n hx hb dK_give_31 rfl (lv_at hl 3 rfl) ?_
      refine lv_bipush (v := nI 12) hx hb dK_give_32 (by decide) ?_
      refine lv_imul hx hb dK_give_34 ?_
      rw [pk_mul]
      refine lv_iload hx hb dK_give_35 (lv_at hl 0 rfl) ?_
      refine lv_iadd hx hb dK_give_37 ?_
      rw [nI_add]
      refine mm_iald hx hb hK hP hbL q2 (vp_in_nI (show (bb * 12) + i < 144 by omega) (by omega)) dK_give_38 ?_
      rw [nI_clamp (by omega)]
      refine lv_iload_n hx hb dK_give_39 rfl (lv_at hl 4 rfl) ?_
      refine then_i (run_S (n := 2) (As := [.int (g ((bb * 12) + i)), .int k]) (rest := [.int (nI ((a * 12) + i)), .ref b]) C0 (k_moved hn) gw457 gw455 gw456 gw3 (by decide +kernel) ⟨Nat.le_of_ble_eq_true rfl, Nat.le_of_ble_eq_true rfl⟩ rfl rfl ⟨Nat.le_of_ble_eq_true rfl, Nat.le_of_ble_eq_true rfl⟩ hP rfl hl.1 rfl (Nat.le_of_ble_eq_true rfl) dK_give_40) hS hA (fun r2 f1 H locs hq40 hP hS => ?_)
      obtain ⟨er2, ef1⟩ := hq40
      subst er2
      rw [ef1] at hP
      refine mm_iast hx hb hK hn hA hP hS hbL q2 (vp_in_nI (show (a * 12) + i < 144 by omega) (by omega)) dK_give_43 (fun H locs hP hS => ?_)
      rw [nI_clamp (by omega)] at hP
      obtain ⟨f3, hf3⟩ : ∃ z, z = mm_si (mm_si f b g) b (upd g ((a * 12) + i) (if (g ((bb * 12) + i)) = 1000000 then 1000000 else (g ((bb * 12) + i)) + k)) := ⟨_, rfl⟩
      have hP : va_P D zCl (va_pl L f3) H := by rw [hf3]; exact hP
      have p4 : f3 h = .inr (1, [.ref b, .int pv]) := by rw [hf3, mm_si_ne (mm_IO q2 q1)]; exact q1
      have p5 : mm_I tys f3 b 144 (upd g ((a * 12) + i) (if (g ((bb * 12) + i)) = 1000000 then 1000000 else (g ((bb * 12) + i)) + k)) := by rw [hf3]; exact q2.set
      refine lv_aload_n hx hb dK_give_44 rfl (lv_at hl 1 rfl) ?_
      refine mm_get (v := .ref b) hx hb hg inK hown hK hP hh p4 rfl 0 (by decide) (hg _ gw41) (fun _ h9 => h9) rfl dK_give_45 ?_
      refine lv_iload hx hb dK_give_48 (lv_at hl 0 rfl) ?_
      refine lv_bipush (v := nI 12) hx hb dK_give_50 (by decide) ?_
      refine lv_imul hx hb dK_give_52 ?_
      rw [pk_mul]
      refine lv_iload_n hx hb dK_give_53 rfl (lv_at hl 2 rfl) ?_
      refine lv_iadd hx hb dK_give_54 ?_
      rw [nI_add]
      refine lv_aload_n hx hb dK_give_55 rfl (lv_at hl 1 rfl) ?_
      refine mm_get (v := .ref b) hx hb hg inK hown hK hP hh p4 rfl 0 (by decide) (hg _ gw41) (fun _ h9 => h9) rfl dK_give_56 ?_
      refine lv_iload hx hb dK_give_59 (lv_at hl 0 rfl) ?_
      refine lv_bipush (v := nI 12) hx hb dK_give_61 (by decide) ?_
      refine lv_imul hx hb dK_give_63 ?_
      rw [pk_mul]
      refine lv_iload_n hx hb dK_give_64 rfl (lv_at hl 3 rfl) ?_
      refine lv_iadd hx hb dK_give_65 ?_
      rw [nI_add]
      refine mm_iald hx hb hK hP hbL p5 (vp_in_nI (show (i * 12) + bb < 144 by omega) (by omega)) dK_give_66 ?_
      rw [nI_clamp (by omega)]
      refine lv_iload_n hx hb dK_give_67 rfl (lv_at hl 4 rfl) ?_
      refine lv_ineg hx hb dK_give_68 ?_
      refine then_i (run_S (n := 2) (As := [.int ((upd g ((a * 12) + i) (if (g ((bb * 12) + i)) = 1000000 then 1000000 else (g ((bb * 12) + i)) + k)) ((i * 12) + bb)), .int (-k)]) (rest := [.int (nI ((i * 12) + a)), .ref b]) C0 (k_moved hn) gw457 gw455 gw456 gw3 (by decide +kernel) ⟨Nat.le_of_ble_eq_true rfl, Nat.le_of_ble_eq_true rfl⟩ rfl rfl ⟨Nat.le_of_ble_eq_true rfl, Nat.le_of_ble_eq_true rfl⟩ hP rfl hl.1 rfl (Nat.le_of_ble_eq_true rfl) dK_give_69) hS hA (fun r7 f6 H locs hq69 hP hS => ?_)
      obtain ⟨er7, ef6⟩ := hq69
      subst er7
      rw [ef6] at hP
      refine mm_iast hx hb hK hn hA hP hS hbL p5 (vp_in_nI (show (i * 12) + a < 144 by omega) (by omega)) dK_give_72 (fun H locs hP hS => ?_)
      rw [nI_clamp (by omega)] at hP
      obtain ⟨f8, hf8⟩ : ∃ z, z = mm_si f3 b (upd (upd g ((a * 12) + i) (if (g ((bb * 12) + i)) = 1000000 then 1000000 else (g ((bb * 12) + i)) + k)) ((i * 12) + a) (if ((upd g ((a * 12) + i) (if (g ((bb * 12) + i)) = 1000000 then 1000000 else (g ((bb * 12) + i)) + k)) ((i * 12) + bb)) = 1000000 then 1000000 else ((upd g ((a * 12) + i) (if (g ((bb * 12) + i)) = 1000000 then 1000000 else (g ((bb * 12) + i)) + k)) ((i * 12) + bb)) + (-k))) := ⟨_, rfl⟩
      have hP : va_P D zCl (va_pl L f8) H := by rw [hf8]; exact hP
      have p9 : f8 h = .inr (1, [.ref b, .int pv]) := by rw [hf8, mm_si_ne (mm_IO p5 p4)]; exact p4
      have p10 : mm_I tys f8 b 144 (upd (upd g ((a * 12) + i) (if (g ((bb * 12) + i)) = 1000000 then 1000000 else (g ((bb * 12) + i)) + k)) ((i * 12) + a) (if ((upd g ((a * 12) + i) (if (g ((bb * 12) + i)) = 1000000 then 1000000 else (g ((bb * 12) + i)) + k)) ((i * 12) + bb)) = 1000000 then 1000000 else ((upd g ((a * 12) + i) (if (g ((bb * 12) + i)) = 1000000 then 1000000 else (g ((bb * 12) + i)) + k)) ((i * 12) + bb)) + (-k))) := by rw [hf8]; exact p5.set
      refine lv_iinc (v := nI (i + 1)) (lv' := [(4, .int (nI (i + 1))), (0, .ref h), (1, .int (nI a)), (2, .int (nI bb)), (3, .int k)]) hx hb dK_give_73 hl (k := 0) rfl (nI_add i 1) (by decide) rfl (fun ls hl => ?_)
      refine lv_goto (tgt := 3) hx hb dK_give_76 (by decide) ?_
      refine ih (i + 1) ((r_gv a bb k) i g) (by omega) H locs ls ?_ hS (lv_sub hl [0, 1, 2, 3, 4] rfl) hk
      rw [show (r_gv a bb k) i g = _ from if_neg (fun e9 => c13 (by rw [e9]))]
      rw [hf8, hf3, mm_si_si, mm_si_si] at hP
      exact hP
set_option maxRecDepth 100000 in
set_option maxHeartbeats 4000000 in
theorem k_give {l : Launch} {D : va_G} {tys : List (ClassId × FieldType)} {L : List Nat} {f : Nat → va_E} (hn : L.Nodup) {h b : Nat} {pv : Int32} {g : Nat → Int32} (hh : h ∈ L) (hbL : b ∈ L) (h1 : f h = .inr (1, [.ref b, .int pv])) (h2 : mm_I tys f b 144 g) {a bb : Nat} {k : Int32} (ha : a < 12) (hbb : bb < 12) : MetV l yK_give wK_give ({ frames := 1, cells := 0, slots := 0, locals := 21 } : Room) D tys L f [.ref h, .int (nI a), .int (nI bb), .int k] (fun f' => f' = mm_si f b (r_it (r_gv a bb k) 12 0 g)) := by
  refine met_of "LiquidChecker$Known" (by decide) rfl (Nat.le_of_ble_eq_true rfl) ?_
  intro p e s m below meth c ls C0 hP hl
  obtain ⟨hx, hb, hml, hown, hg, hr, hlocks, hK, hN⟩ := id C0
  have hA : ∀ a ∈ L, inL L a := fun _ h => h
  obtain ⟨H, hH⟩ : ∃ z, z = s.heap := ⟨_, rfl⟩
  rw [← hH] at hP ⊢
  have hS : va_S (inL L) s.heap H [] := by rw [hH]; exact va_S.rf
  have hl : lv_has ls 5 [(0, .ref h), (1, .int (nI a)), (2, .int (nI bb)), (3, .int k)] := hl
  refine lv_iconst (v := nI 0) hx hb dK_give_0 (by decide) ?_
  refine lv_istore (lv' := [(4, .int (nI 0)), (0, .ref h), (1, .int (nI a)), (2, .int (nI bb)), (3, .int k)]) hx hb dK_give_1 hl (by decide) rfl (fun ls hl => ?_)
  refine k_give_loop C0 hn hh hbL h1 h2 ha hbb 12 0 g (by omega) H [] ls (by rw [mm_si_id h2]; exact hP) hS (lv_sub hl [0, 1, 2, 3, 4] rfl) (fun H locs ls hP hS hl => ?_)
  exact ret_v C0 hP hS rfl dK_give_79
