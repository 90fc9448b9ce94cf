/-! Known.learn -/
def r_l1 (fr b : Nat) (k ab : Int32) (to : Nat) (g : Nat → Int32) : Nat → Int32 :=
  if g (b * 12 + to) = 1000000 then g else if g (fr * 12 + to) ≤ ab + k + g (b * 12 + to) then g else upd g (fr * 12 + to) (ab + k + g (b * 12 + to))
def r_l2 (a b : Nat) (k : Int32) (fr : Nat) (g : Nat → Int32) : Nat → Int32 :=
  if g (fr * 12 + a) = 1000000 then g else r_it (r_l1 fr b k (g (fr * 12 + a))) 12 0 g
def r_ln (a b : Nat) (k : Int32) (g : Nat → Int32) : Nat → Int32 := r_it (r_l2 a b k) 12 0 g
set_option maxRecDepth 100000 in
set_option maxHeartbeats 4000000 in
theorem k_learn_in {p : Program} {l : Launch} {e : Env} {s : State} {m : MethodId} {args : Array Value} {below : List Frame} {meth : Method} {c : Code} {D : va_G} {tys : List (ClassId × FieldType)} {L : List Nat} {f : Nat → va_E} {Q : State → Prop} (C0 : Cx p s m args meth c cK_learn 9 "LiquidChecker$Known" none D tys) (hn : L.Nodup) {h b : Nat} {pv : Int32} {g0 : Nat → Int32} (hh : h ∈ L) (hbL : b ∈ L) (h1 : f h = .inr (1, [.ref b, .int pv])) (h2 : mm_I tys f b 144 g0) {a bb fr : Nat} {k bk ab : Int32} (ha : a < 12) (hbb : bb < 12) (hfr : fr < 12) (hab : ¬ ab = 1000000) : ∀ (n i : Nat) (g : Nat → Int32), i + n = 12 → ∀ (H : Heap) (locs : List Loc) (ls : Array Slot), va_P D zCl (va_pl L (mm_si f b g)) H → va_S (inL L) s.heap H locs → lv_has ls 9 [(7, .int (nI i)), (5, .int (nI fr)), (6, .int ab), (0, .ref h), (1, .int (nI a)), (2, .int (nI bb)), (3, .int k), (4, .int bk)] → (∀ (H : Heap) (locs : List Loc) (ls : Array Slot), va_P D zCl (va_pl L (mm_si f b (r_it (r_l1 fr bb k ab) n i g))) H → va_S (inL L) s.heap H locs → lv_has ls 9 [(7, .int (nI 12)), (5, .int (nI fr)), (6, .int ab), (0, .ref h), (1, .int (nI a)), (2, .int (nI bb)), (3, .int k), (4, .int bk)] → W p l e ({ frames := 0, cells := 0, slots := 0, locals := 0 } : Room) s m args below meth c H locs 0 0 Q (F0 m 167 ls [])) → W p l e ({ frames := 0, cells := 0, slots := 0, locals := 0 } : Room) s m args below meth c H locs 0 0 Q (F0 m 83 ls []) := by
  obtain ⟨hx, hb, hml, hown, hg, hr, hlocks, hK, hN⟩ := id C0
  have hA : ∀ a ∈ L, inL L a := fun _ h => h
  intro n
  induction n with
  | zero =>
    intro i g hi H locs ls hP hS hl hk
    obtain rfl : i = 12 := by omega
    have q2 : mm_I tys (mm_si f b g) b 144 g := h2.set
    have q1 : mm_si f b g h = .inr (1, [.ref b, .int pv]) := by rw [mm_si_ne (mm_IO h2 h1)]; exact h1
    refine lv_iload hx hb dK_learn_83 (lv_at hl 0 rfl) ?_
    refine lv_bipush (v := nI 12) hx hb dK_learn_85 (by decide) ?_
    refine lv_icmp_ge (tgt := 167) hx hb dK_learn_87 (by decide) (fun c87 => ?_) (fun c87 => absurd (nI_le (by omega) (by omega)) c87)
    exact hk H locs ls hP hS (lv_sub hl [0, 1, 2, 3, 4, 5, 6, 7] rfl)
  | succ n ih =>
    intro i g hi H locs ls hP hS hl hk
    have q2 : mm_I tys (mm_si f b g) b 144 g := h2.set
    have q1 : mm_si f b g h = .inr (1, [.ref b, .int pv]) := by rw [mm_si_ne (mm_IO h2 h1)]; exact h1
    refine lv_iload hx hb dK_learn_83 (lv_at hl 0 rfl) ?_
    refine lv_bipush (v := nI 12) hx hb dK_learn_85 (by decide) ?_
    refine lv_icmp_ge (tgt := 167) hx hb dK_learn_87 (by decide) (fun c87 => absurd c87 (nI_ge (show i < 12 by omega) (by omega))) (fun c87 => ?_)
    refine lv_iload hx hb dK_learn_90 (lv_at hl 2 rfl) ?_
    refine lv_ldc hx hb hown (hg _ gw417) dK_learn_92 ?_
    refine lv_icmp_eq (tgt := 167) hx hb dK_learn_94 (by decide) (fun c94 => absurd c94 hab) (fun c94 => ?_)
    refine lv_aload_n hx hb dK_learn_97 rfl (lv_at hl 3 rfl) ?_
    refine mm_get (v := .ref b) hx hb hg inK hown hK hP hh q1 rfl 0 (by decide) (hg _ gw41) (fun _ h9 => h9) rfl dK_learn_98 ?_
    refine lv_iload_n hx hb dK_learn_101 rfl (lv_at hl 5 rfl) ?_
    refine lv_bipush (v := nI 12) hx hb dK_learn_102 (by decide) ?_
    refine lv_imul hx hb dK_learn_104 ?_
    rw [pk_mul]
    refine lv_iload hx hb dK_learn_105 (lv_at hl 0 rfl) ?_
    refine lv_iadd hx hb dK_learn_107 ?_
    rw [nI_add]
    refine mm_iald hx hb hK hP hbL q2 (vp_in_nI (show (bb * 12) + i < 144 by omega) (by omega)) dK_learn_108 ?_
    rw [nI_clamp (by omega)]
    refine lv_topi (fun v ev => ?_)
    refine lv_istore (lv' := [(8, .int v), (7, .int (nI i)), (5, .int (nI fr)), (6, .int ab), (0, .ref h), (1, .int (nI a)), (2, .int (nI bb)), (3, .int k), (4, .int bk)]) hx hb dK_learn_109 hl (by decide) rfl (fun ls hl => ?_)
    refine lv_iload hx hb dK_learn_111 (lv_at hl 0 rfl) ?_
    refine lv_ldc hx hb hown (hg _ gw417) dK_learn_113 ?_
    refine lv_icmp_eq (tgt := 161) hx hb dK_learn_115 (by decide) (fun c115 => ?_) (fun c115 => ?_)
    · refine lv_iinc (v := nI (i + 1)) (lv' := [(7, .int (nI (i + 1))), (8, .int v), (5, .int (nI fr)), (6, .int ab), (0, .ref h), (1, .int (nI a)), (2, .int (nI bb)), (3, .int k), (4, .int bk)]) hx hb dK_learn_161 hl (k := 1) rfl (nI_add i 1) (by decide) rfl (fun ls hl => ?_)
      refine lv_goto (tgt := 83) hx hb dK_learn_164 (by decide) ?_
      refine ih (i + 1) (r_l1 fr bb k ab i g) (by omega) H locs ls ?_ hS (lv_sub hl [0, 2, 3, 4, 5, 6, 7, 8] rfl) hk
      rw [show r_l1 fr bb k ab i g = g from if_pos (by rw [← ev]; exact c115)]
      exact hP
    · refine lv_iload hx hb dK_learn_118 (lv_at hl 3 rfl) ?_
      refine lv_iload_n hx hb dK_learn_120 rfl (lv_at hl 7 rfl) ?_
      refine lv_iadd hx hb dK_learn_121 ?_
      refine lv_iload hx hb dK_learn_122 (lv_at hl 0 rfl) ?_
      refine lv_iadd hx hb dK_learn_124 ?_
      refine lv_aload_n hx hb dK_learn_125 rfl (lv_at hl 4 rfl) ?_
      refine mm_get (v := .ref b) hx hb hg inK hown hK hP hh q1 rfl 0 (by decide) (hg _ gw41) (fun _ h9 => h9) rfl dK_learn_126 ?_
      refine lv_iload hx hb dK_learn_129 (lv_at hl 2 rfl) ?_
      refine lv_bipush (v := nI 12) hx hb dK_learn_131 (by decide) ?_
      refine lv_imul hx hb dK_learn_133 ?_
      rw [pk_mul]
      refine lv_iload hx hb dK_learn_134 (lv_at hl 1 rfl) ?_
      refine lv_iadd hx hb dK_learn_136 ?_
      rw [nI_add]
      refine mm_iald hx hb hK hP hbL q2 (vp_in_nI (show (fr * 12) + i < 144 by omega) (by omega)) dK_learn_137 ?_
      rw [nI_clamp (by omega)]
      refine lv_icmp_ge (tgt := 161) hx hb dK_learn_138 (by decide) (fun c138 => ?_) (fun c138 => ?_)
      · refine lv_iinc (v := nI (i + 1)) (lv' := [(7, .int (nI (i + 1))), (8, .int v), (5, .int (nI fr)), (6, .int ab), (0, .ref h), (1, .int (nI a)), (2, .int (nI bb)), (3, .int k), (4, .int bk)]) hx hb dK_learn_161 hl (k := 1) rfl (nI_add i 1) (by decide) rfl (fun ls hl => ?_)
        refine lv_goto (tgt := 83) hx hb dK_learn_164 (by decide) ?_
        refine ih (i + 1) (r_l1 fr bb k ab i g) (by omega) H locs ls ?_ hS (lv_sub hl [0, 2, 3, 4, 5, 6, 7, 8] rfl) hk
        rw [show r_l1 fr bb k ab i g = g from by unfold r_l1; rw [if_neg (by rw [← ev]; exact c115), if_pos (by rw [← ev]; exact c138)]]
        exact hP
      · refine lv_aload_n hx hb dK_learn_141 rfl (lv_at hl 4 rfl) ?_
        refine mm_get (v := .ref b) hx hb hg inK hown hK hP hh q1 rfl 0 (by decide) (hg _ gw41) (fun _ h9 => h9) rfl dK_learn_142 ?_
        refine lv_iload hx hb dK_learn_145 (lv_at hl 2 rfl) ?_
        refine lv_bipush (v := nI 12) hx hb dK_learn_147 (by decide) ?_
        refine lv_imul hx hb dK_learn_149 ?_
        rw [pk_mul]
        refine lv_iload hx hb dK_learn_150 (lv_at hl 1 rfl) ?_
        refine lv_iadd hx hb dK_learn_152 ?_
        rw [nI_add]
        refine lv_iload hx hb dK_learn_153 (lv_at hl 3 rfl) ?_
        refine lv_iload_n hx hb dK_learn_155 rfl (lv_at hl 7 rfl) ?_
        refine lv_iadd hx hb dK_learn_156 ?_
        refine lv_iload hx hb dK_learn_157 (lv_at hl 0 rfl) ?_
        refine lv_iadd hx hb dK_learn_159 ?_
        refine mm_iast hx hb hK hn hA hP hS hbL q2 (vp_in_nI (show (fr * 12) + i < 144 by omega) (by omega)) dK_learn_160 (fun H locs hP hS => ?_)
        rw [nI_clamp (by omega)] at hP
        obtain ⟨f1, hf1⟩ : ∃ z, z = mm_si (mm_si f b g) b (upd g ((fr * 12) + i) ((ab + k) + v)) := ⟨_, rfl⟩
        have hP : va_P D zCl (va_pl L f1) H := by rw [hf1]; exact hP
        have p2 : f1 h = .inr (1, [.ref b, .int pv]) := by rw [hf1, mm_si_ne (mm_IO q2 q1)]; exact q1
        have p3 : mm_I tys f1 b 144 (upd g ((fr * 12) + i) ((ab + k) + v)) := by rw [hf1]; exact q2.set
        refine lv_iinc (v := nI (i + 1)) (lv' := [(7, .int (nI (i + 1))), (8, .int v), (5, .int (nI fr)), (6, .int ab), (0, .ref h), (1, .int (nI a)), (2, .int (nI bb)), (3, .int k), (4, .int bk)]) hx hb dK_learn_161 hl (k := 1) rfl (nI_add i 1) (by decide) rfl (fun ls hl => ?_)
        refine lv_goto (tgt := 83) hx hb dK_learn_164 (by decide) ?_
        refine ih (i + 1) (r_l1 fr bb k ab i g) (by omega) H locs ls ?_ hS (lv_sub hl [0, 2, 3, 4, 5, 6, 7, 8] rfl) hk
        rw [show r_l1 fr bb k ab i g = upd g (fr * 12 + i) (ab + k + v) from by unfold r_l1; rw [if_neg (by rw [← ev]; exact c115), if_neg (by rw [← ev]; exact c138), ev]]
        rw [hf1, mm_si_si] at hP
        exact hP
set_option maxRecDepth 100000 in
set_option maxHeartbeats 4000000 in
theorem k_learn_out {p : Program} {l : Launch} {e : Env} {s : State} {m : MethodId} {args : Array Value} {below : List Frame} {meth : Method} {c : Code} {D : va_G} {tys : List (ClassId × FieldType)} {L : List Nat} {f : Nat → va_E} {Q : State → Prop} (C0 : Cx p s m args meth c cK_learn 9 "LiquidChecker$Known" none D tys) (hn : L.Nodup) {h b : Nat} {pv : Int32} {g0 : Nat → Int32} (hh : h ∈ L) (hbL : b ∈ L) (h1 : f h = .inr (1, [.ref b, .int pv])) (h2 : mm_I tys f b 144 g0) {a bb : Nat} {k bk : Int32} (ha : a < 12) (hbb : bb < 12) : ∀ (n i : Nat) (g : Nat → Int32), i + n = 12 → ∀ (H : Heap) (locs : List Loc) (ls : Array Slot), va_P D zCl (va_pl L (mm_si f b g)) H → va_S (inL L) s.heap H locs → lv_has ls 9 [(5, .int (nI i)), (0, .ref h), (1, .int (nI a)), (2, .int (nI bb)), (3, .int k), (4, .int bk)] → (∀ (H : Heap) (locs : List Loc) (ls : Array Slot), va_P D zCl (va_pl L (mm_si f b (r_it (r_l2 a bb k) n i g))) H → va_S (inL L) s.heap H locs → lv_has ls 9 [(5, .int (nI 12)), (0, .ref h), (1, .int (nI a)), (2, .int (nI bb)), (3, .int k), (4, .int bk)] → W p l e ({ frames := 0, cells := 0, slots := 0, locals := 0 } : Room) s m args below meth c H locs 0 0 Q (F0 m 173 ls [])) → W p l e ({ frames := 0, cells := 0, slots := 0, locals := 0 } : Room) s m args below meth c H locs 0 0 Q (F0 m 59 ls []) := by
  obtain ⟨hx, hb, hml, hown, hg, hr, hlocks, hK, hN⟩ := id C0
  have hA : ∀ a ∈ L, inL L a := fun _ h => h
  intro n
  induction n with
  | zero =>
    intro i g hi H locs ls hP hS hl hk
    obtain rfl : i = 12 := by omega
    have q2 : mm_I tys (mm_si f b g) b 144 g := h2.set
    have q1 : mm_si f b g h = .inr (1, [.ref b, .int pv]) := by rw [mm_si_ne (mm_IO h2 h1)]; exact h1
    refine lv_iload hx hb dK_learn_59 (lv_at hl 0 rfl) ?_
    refine lv_bipush (v := nI 12) hx hb dK_learn_61 (by decide) ?_
    refine lv_icmp_ge (tgt := 173) hx hb dK_learn_63 (by decide) (fun c63 => ?_) (fun c63 => absurd (nI_le (by omega) (by omega)) c63)
    exact hk H locs ls hP hS (lv_sub hl [0, 1, 2, 3, 4, 5] rfl)
  | succ n ih =>
    intro i g hi H locs ls hP hS hl hk
    have q2 : mm_I tys (mm_si f b g) b 144 g := h2.set
    have q1 : mm_si f b g h = .inr (1, [.ref b, .int pv]) := by rw [mm_si_ne (mm_IO h2 h1)]; exact h1
    refine lv_iload hx hb dK_learn_59 (lv_at hl 0 rfl) ?_
    refine lv_bipush (v := nI 12) hx hb dK_learn_61 (by decide) ?_
    refine lv_icmp_ge (tgt := 173) hx hb dK_learn_63 (by decide) (fun c63 => absurd c63 (nI_ge (show i < 12 by omega) (by omega))) (fun c63 => ?_)
    refine lv_aload_n hx hb dK_learn_66 rfl (lv_at hl 1 rfl) ?_
    refine mm_get (v := .ref b) hx hb hg inK hown hK hP hh q1 rfl 0 (by decide) (hg _ gw41) (fun _ h9 => h9) rfl dK_learn_67 ?_
    refine lv_iload hx hb dK_learn_70 (lv_at hl 0 rfl) ?_
    refine lv_bipush (v := nI 12) hx hb dK_learn_72 (by decide) ?_
    refine lv_imul hx hb dK_learn_74 ?_
    rw [pk_mul]
    refine lv_iload_n hx hb dK_learn_75 rfl (lv_at hl 2 rfl) ?_
    refine lv_iadd hx hb dK_learn_76 ?_
    rw [nI_add]
    refine mm_iald hx hb hK hP hbL q2 (vp_in_nI (show (i * 12) + a < 144 by omega) (by omega)) dK_learn_77 ?_
    rw [nI_clamp (by omega)]
    refine lv_topi (fun ab eab => ?_)
    refine lv_istore (lv' := [(6, .int ab), (5, .int (nI i)), (0, .ref h), (1, .int (nI a)), (2, .int (nI bb)), (3, .int k), (4, .int bk)]) hx hb dK_learn_78 hl (by decide) rfl (fun ls hl => ?_)
    refine lv_iconst (v := nI 0) hx hb dK_learn_80 (by decide) ?_
    refine lv_istore (lv' := [(7, .int (nI 0)), (6, .int ab), (5, .int (nI i)), (0, .ref h), (1, .int (nI a)), (2, .int (nI bb)), (3, .int k), (4, .int bk)]) hx hb dK_learn_81 hl (by decide) rfl (fun ls hl => ?_)
    by_cases hab : ab = 1000000
    · refine lv_iload hx hb dK_learn_83 (lv_at hl 0 rfl) ?_
      refine lv_bipush (v := nI 12) hx hb dK_learn_85 (by decide) ?_
      refine lv_icmp_ge (tgt := 167) hx hb dK_learn_87 (by decide) (fun c87 => absurd c87 (nI_ge (show 0 < 12 by omega) (by omega))) (fun c87 => ?_)
      refine lv_iload hx hb dK_learn_90 (lv_at hl 1 rfl) ?_
      refine lv_ldc hx hb hown (hg _ gw417) dK_learn_92 ?_
      refine lv_icmp_eq (tgt := 167) hx hb dK_learn_94 (by decide) (fun c94 => ?_) (fun c94 => absurd hab c94)
      refine lv_iinc (v := nI (i + 1)) (lv' := [(5, .int (nI (i + 1))), (7, .int (nI 0)), (6, .int ab), (0, .ref h), (1, .int (nI a)), (2, .int (nI bb)), (3, .int k), (4, .int bk)]) hx hb dK_learn_167 hl (k := 2) rfl (nI_add i 1) (by decide) rfl (fun ls hl => ?_)
      refine lv_goto (tgt := 59) hx hb dK_learn_170 (by decide) ?_
      refine ih (i + 1) (r_l2 a bb k i g) (by omega) H locs ls ?_ hS (lv_sub hl [0, 3, 4, 5, 6, 7] rfl) hk
      rw [show r_l2 a bb k i g = g from if_pos (by rw [← eab]; exact hab)]
      exact hP
    · refine k_learn_in C0 hn hh hbL h1 h2 ha hbb (show i < 12 by omega) hab 12 0 g (by omega) H locs ls hP hS (lv_sub hl [0, 2, 1, 3, 4, 5, 6, 7] rfl) (fun H locs ls hP hS hl => ?_)
      refine lv_iinc (v := nI (i + 1)) (lv' := [(5, .int (nI (i + 1))), (7, .int (nI 12)), (6, .int ab), (0, .ref h), (1, .int (nI a)), (2, .int (nI bb)), (3, .int k), (4, .int bk)]) hx hb dK_learn_167 hl (k := 1) rfl (nI_add i 1) (by decide) rfl (fun ls hl => ?_)
      refine lv_goto (tgt := 59) hx hb dK_learn_170 (by decide) ?_
      refine ih (i + 1) (r_l2 a bb k i g) (by omega) H locs ls ?_ hS (lv_sub hl [0, 3, 4, 5, 6, 7] rfl) hk
      rw [show r_l2 a bb k i g = r_it (r_l1 i bb k ab) 12 0 g from by unfold r_l2; rw [← eab]; exact if_neg hab]
      exact hP
/-- what learn leaves -/
def r_learn (a b : Nat) (k pv : Int32) (g : Nat → Int32) (h hb : Nat) (f : Nat → va_E) : Nat → va_E :=
  if pv = 0 then f else if ¬ k < g (a * 12 + b) then f else if ¬ g (b * 12 + a) = 1000000 ∧ ¬ 0 ≤ g (b * 12 + a) + k then va_up f h (.inr (1, [.ref hb, .int (nI 0)])) else mm_si f hb (r_ln a b k g)
set_option maxRecDepth 100000 in
set_option maxHeartbeats 4000000 in
theorem k_learn {l : Launch} {D : va_G} {tys : List (ClassId × FieldType)} {L : List Nat} {f : Nat → va_E} (hn : L.Nodup) {h b : Nat} {pv : Int32} {g : Nat → Int32} (hh : h ∈ L) (hbL : b ∈ L) (h1 : f h = .inr (1, [.ref b, .int pv])) (h2 : mm_I tys f b 144 g) {a bb : Nat} {k : Int32} (ha : a < 12) (hbb : bb < 12) : MetV l yK_learn wK_learn ({ frames := 0, cells := 0, slots := 0, locals := 0 } : Room) D tys L f [.ref h, .int (nI a), .int (nI bb), .int k] (fun f' => f' = r_learn a bb k pv g h b f) := by
  refine met_of "LiquidChecker$Known" (by decide) rfl (Nat.le_of_ble_eq_true rfl) ?_
  intro p e s m below meth c ls C0 hP hl
  obtain ⟨hx, hb, hml, hown, hg, hr, hlocks, hK, hN⟩ := id C0
  have hA : ∀ a ∈ L, inL L a := fun _ h => h
  obtain ⟨H, hH⟩ : ∃ z, z = s.heap := ⟨_, rfl⟩
  rw [← hH] at hP ⊢
  have hS : va_S (inL L) s.heap H [] := by rw [hH]; exact va_S.rf
  have hl : lv_has ls 9 [(0, .ref h), (1, .int (nI a)), (2, .int (nI bb)), (3, .int k)] := hl
  refine lv_aload_n hx hb dK_learn_0 rfl (lv_at hl 0 rfl) ?_
  refine mm_get (v := .int pv) hx hb hg inK hown hK hP hh h1 rfl 1 (by decide) (hg _ gw42) (fun _ h9 => h9) rfl dK_learn_1 ?_
  refine lv_if_eq (tgt := 22) hx hb dK_learn_4 (by decide) (fun c4 => ?_) (fun c4 => ?_)
  · exact ret_v C0 hP hS (by unfold r_learn; rw [if_pos c4]) dK_learn_22
  · refine lv_aload_n hx hb dK_learn_7 rfl (lv_at hl 0 rfl) ?_
    refine mm_get (v := .ref b) hx hb hg inK hown hK hP hh h1 rfl 0 (by decide) (hg _ gw41) (fun _ h9 => h9) rfl dK_learn_8 ?_
    refine lv_iload_n hx hb dK_learn_11 rfl (lv_at hl 1 rfl) ?_
    refine lv_bipush (v := nI 12) hx hb dK_learn_12 (by decide) ?_
    refine lv_imul hx hb dK_learn_14 ?_
    rw [pk_mul]
    refine lv_iload_n hx hb dK_learn_15 rfl (lv_at hl 2 rfl) ?_
    refine lv_iadd hx hb dK_learn_16 ?_
    rw [nI_add]
    refine mm_iald hx hb hK hP hbL h2 (vp_in_nI (show (a * 12) + bb < 144 by omega) (by omega)) dK_learn_17 ?_
    rw [nI_clamp (by omega)]
    refine lv_iload_n hx hb dK_learn_18 rfl (lv_at hl 3 rfl) ?_
    refine lv_icmp_gt (tgt := 23) hx hb dK_learn_19 (by decide) (fun c19 => ?_) (fun c19 => ?_)
    · refine lv_aload_n hx hb dK_learn_23 rfl (lv_at hl 0 rfl) ?_
      refine mm_get (v := .ref b) hx hb hg inK hown hK hP hh h1 rfl 0 (by decide) (hg _ gw41) (fun _ h9 => h9) rfl dK_learn_24 ?_
      refine lv_iload_n hx hb dK_learn_27 rfl (lv_at hl 2 rfl) ?_
      refine lv_bipush (v := nI 12) hx hb dK_learn_28 (by decide) ?_
      refine lv_imul hx hb dK_learn_30 ?_
      rw [pk_mul]
      refine lv_iload_n hx hb dK_learn_31 rfl (lv_at hl 1 rfl) ?_
      refine lv_iadd hx hb dK_learn_32 ?_
      rw [nI_add]
      refine mm_iald hx hb hK hP hbL h2 (vp_in_nI (show (bb * 12) + a < 144 by omega) (by omega)) dK_learn_33 ?_
      rw [nI_clamp (by omega)]
      refine lv_topi (fun bk ebk => ?_)
      refine lv_istore (lv' := [(4, .int bk), (0, .ref h), (1, .int (nI a)), (2, .int (nI bb)), (3, .int k)]) hx hb dK_learn_34 hl (by decide) rfl (fun ls hl => ?_)
      refine lv_iload hx hb dK_learn_36 (lv_at hl 0 rfl) ?_
      refine lv_ldc hx hb hown (hg _ gw417) dK_learn_38 ?_
      refine lv_icmp_eq (tgt := 56) hx hb dK_learn_40 (by decide) (fun c40 => ?_) (fun c40 => ?_)
      · refine lv_iconst (v := nI 0) hx hb dK_learn_56 (by decide) ?_
        refine lv_istore (lv' := [(5, .int (nI 0)), (4, .int bk), (0, .ref h), (1, .int (nI a)), (2, .int (nI bb)), (3, .int k)]) hx hb dK_learn_57 hl (by decide) rfl (fun ls hl => ?_)
        refine k_learn_out C0 hn hh hbL h1 h2 ha hbb 12 0 g (by omega) H [] ls (by rw [mm_si_id h2]; exact hP) hS (lv_sub hl [0, 2, 3, 4, 5, 1] rfl) (fun H locs ls hP hS hl => ?_)
        exact ret_v C0 hP hS (by unfold r_learn; rw [if_neg c4, if_neg (Decidable.not_not.mpr c19), if_neg (by rw [← ebk]; exact fun h9 => h9.1 c40)]; rfl) dK_learn_173
      · refine lv_iload hx hb dK_learn_43 (lv_at hl 0 rfl) ?_
        refine lv_iload_n hx hb dK_learn_45 rfl (lv_at hl 4 rfl) ?_
        refine lv_iadd hx hb dK_learn_46 ?_
        refine lv_if_ge (tgt := 56) hx hb dK_learn_47 (by decide) (fun c47 => ?_) (fun c47 => ?_)
        · refine lv_iconst (v := nI 0) hx hb dK_learn_56 (by decide) ?_
          refine lv_istore (lv' := [(5, .int (nI 0)), (4, .int bk), (0, .ref h), (1, .int (nI a)), (2, .int (nI bb)), (3, .int k)]) hx hb dK_learn_57 hl (by decide) rfl (fun ls hl => ?_)
          refine k_learn_out C0 hn hh hbL h1 h2 ha hbb 12 0 g (by omega) H [] ls (by rw [mm_si_id h2]; exact hP) hS (lv_sub hl [0, 2, 3, 4, 5, 1] rfl) (fun H locs ls hP hS hl => ?_)
          exact ret_v C0 hP hS (by unfold r_learn; rw [if_neg c4, if_neg (Decidable.not_not.mpr c19), if_neg (by rw [← ebk]; exact fun h9 => h9.2 c47)]; rfl) dK_learn_173
        · refine lv_aload_n hx hb dK_learn_50 rfl (lv_at hl 1 rfl) ?_
          refine lv_iconst (v := nI 0) hx hb dK_learn_51 (by decide) ?_
          refine mm_put (v := .int (nI 0)) (ty := .boolean) hx hb hg inK tyK tyK_ok nmK hown hK hn hA hP hS hh h1 rfl 1 (by decide) (hg _ gw42) (fun _ h9 => h9) rfl (by decide +kernel) rfl rfl (Nat.le_of_ble_eq_true rfl) dK_learn_52 (fun H locs hP hS => ?_)
          obtain ⟨f1, hf1⟩ : ∃ z, z = va_up f h (.inr (1, [.ref b, .int (nI 0)])) := ⟨_, rfl⟩
          have hP : va_P D zCl (va_pl L f1) H := by rw [hf1]; exact hP
          have p2 : mm_I tys f1 b 144 g := h2.eq (by rw [hf1, va_up_ne _ _ (Ne.symm (mm_IO h2 h1))])
          have p3 : f1 h = .inr (1, [.ref b, .int (nI 0)]) := by rw [hf1]; exact va_up_self _ _ _
          exact ret_v C0 hP hS (by rw [hf1]; unfold r_learn; rw [if_neg c4, if_neg (Decidable.not_not.mpr c19), if_pos ⟨by rw [← ebk]; exact c40, by rw [← ebk]; exact c47⟩]) dK_learn_55
    · exact ret_v C0 hP hS (by unfold r_learn; rw [if_neg c4, if_pos c19]) dK_learn_22
