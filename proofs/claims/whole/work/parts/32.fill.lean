/-! Arrays.fill of ints, System.arraycopy of a whole row, Known.forgetAll, Known.copyFrom -/
theorem b01 {v : Int32} (h : v = nI 0 ∨ v = nI 1) : narrow .boolean (.int v) = .int v ∧ fits .boolean (.int v) = true := by
  rcases h with rfl | rfl <;> exact ⟨rfl, rfl⟩
theorem met_imp {l : Launch} {y : MethodName} {ws : List Cond} {rm : Room} {Pc : Array Value → State → Prop} {Qc Qc' : Array Value → State → Outcome → State → Prop} {mc ms : Nat} {free : Addr → Prop} (h : Met l y ws rm Pc Qc mc ms free) (hi : ∀ a s o t, Qc a s o t → Qc' a s o t) : Met l y ws rm Pc Qc' mc ms free := fun p e h1 h2 h3 s m args below h4 h5 h6 h7 => by
  obtain ⟨n, o, a1, a2, a3, a4, L, a5, a6⟩ := h p e h1 h2 h3 s m args below h4 h5 h6 h7
  exact ⟨n, o, a1, a2, a3, hi _ _ _ _ a4, L, a5, a6⟩
theorem metv_imp {l : Launch} {y : MethodName} {ws : List Cond} {rm : Room} {D : va_G} {tys : List (ClassId × FieldType)} {L : List Nat} {f : Nat → va_E} {av : List Value} {post post' : (Nat → va_E) → Prop} (h : MetV l y ws rm D tys L f av post) (hi : ∀ f', post f' → post' f') : MetV l y ws rm D tys L f av post' := met_imp h (fun a s o t ⟨⟨u, h1, h2, h3⟩, h4⟩ => ⟨⟨u, h1, hi u h2, h3⟩, h4⟩)
theorem meti_imp {l : Launch} {y : MethodName} {ws : List Cond} {rm : Room} {D : va_G} {tys : List (ClassId × FieldType)} {L : List Nat} {f : Nat → va_E} {av : List Value} {post post' : Int32 → (Nat → va_E) → Prop} (h : MetI l y ws rm D tys L f av post) (hi : ∀ r f', post r f' → post' r f') : MetI l y ws rm D tys L f av post' := met_imp h (fun a s o t ⟨⟨r, u, h1, h2, h3⟩, h4⟩ => ⟨⟨r, u, h1, hi r u h2, h3⟩, h4⟩)
section MCP
variable {p : Program} {l : Launch} {e : Env} {R : Room} {s : State} {m : MethodId} {args : Array Value} {below : List Frame} {meth : Method} {c : Code} {H : Heap} {locs : List Loc} {cells slots : Nat} {Q : State → Prop}
variable {cc : ByteArray} {pc : Nat} {ls : Array Slot} {rest : List Value} {D : va_G} {cl : List vw_C} {A : Nat → Prop} {a a0 : Nat} {tys : List (ClassId × FieldType)} {H0 : Heap} {L : List Nat} {f : Nat → va_E}
theorem mm_copyi (hexec : p.tables.exec = Jvm.exec) (hb : c.code = cc) (hml : c.maxLocals = ls.size) {own : String} {index : Nat} (hown : s.vm.findClass own = some m.cls) (hlink : (Cond.methodLink own index arraycopyName).before args s = true) (hnat : (Cond.native arraycopyName).before args s = true) (hstat : (Cond.static arraycopyName).before args s = true) (hini : (Cond.initialized "java/lang/System").before args s = true)
    (hK : va_K D cl tys s) (hn : L.Nodup) (hA : ∀ a ∈ L, A a) (hP : va_P D cl (va_pl L f) H) (hS : va_S A H0 H locs) {n0 n1 n : Nat} {g0 g1 : Nat → Int32} (h0 : a0 ∈ L) (hf0 : mm_I tys f a0 n0 g0) (ha : a ∈ L) (hf1 : mm_I tys f a n1 g1) (hn0 : n ≤ n0) (hn1 : n ≤ n1) (hn2 : n < 2 ^ 31)
    (hframes : 1 ≤ R.frames) (hlocals : (rest.map fun v => v.category).sum + (nativeFrameWords "java/lang/System" "arraycopy" 5 + 11) ≤ R.locals) (hdg : decode cc pc = .ok (.invokestatic index, 3))
    (kk : ∀ (H1 : Heap) (locs1 : List Loc), va_P D cl (va_pl L (mm_si f a (va_cpy g0 g1 0 0 n))) H1 → va_S A H0 H1 locs1 → W p l e R s m args below meth c H1 locs1 cells slots Q (F0 m (pc + 3) ls rest)) : W p l e R s m args below meth c H locs cells slots Q (F0 m pc ls (.int (nI n) :: .int (nI 0) :: .ref a :: .int (nI 0) :: .ref a0 :: rest)) := by
  obtain ⟨c0, e0, t0⟩ := hf0
  obtain ⟨c1, e1, t1⟩ := hf1
  obtain ⟨q0, hq0⟩ := mm_at h0 e0
  obtain ⟨q1, hq1⟩ := mm_at ha e1
  obtain ⟨u0, hu0⟩ := List.getElem?_of_mem t0
  obtain ⟨u1, hu1⟩ := List.getElem?_of_mem t1
  have hD : va_D A (va_pl L f) := mm_D hn hA
  have z0 : (nI 0).toNatClampNeg = 0 := nI_clamp (by omega)
  have zn : (nI n).toNatClampNeg = n := nI_clamp hn2
  refine va_copyi hexec hb hml hown hlink hnat hstat hini hK hP hD hS q0 q1 u0 u1 hq0 hq1 hu0 hu1 rfl (nI_pos (by omega)) (nI_pos (by omega)) (nI_pos hn2) (by rw [z0, zn]; omega) (by rw [z0, zn]; omega) (fun i _ => rfl) hframes hlocals hdg (fun H1 locs1 p1 _ p3 => kk H1 locs1 ?_ p3)
  rw [z0, zn] at p1
  rw [mm_si_eq e1, ← mm_set hD ha e1 hq1]
  exact p1
end MCP
set_option maxRecDepth 100000 in
set_option maxHeartbeats 4000000 in
theorem a_fill_loop {p : Program} {l : Launch} {e : Env} {s : State} {m : MethodId} {args : Array Value} {below : List Frame} {meth : Method} {c : Code} {D : va_G} {tys : List (ClassId × FieldType)} {L : List Nat} {f : Nat → va_E} {Q : State → Prop} (C0 : Cx p s m args meth c cA_fill 4 "java/util/Arrays" none D tys) (hn : L.Nodup) {b N : Nat} {v : Int32} {g0 : Nat → Int32} (hN2 : N < 2 ^ 31) (hbL : b ∈ L) (h2 : mm_I tys f b N g0) : ∀ (n i : Nat) (g : Nat → Int32), i + n = N → ∀ (H : Heap) (locs : List Loc) (ls : Array Slot), va_P D zCl (va_pl L (mm_si f b g)) H → va_S (inL L) s.heap H locs → lv_has ls 4 [(2, .int (nI i)), (0, .ref b), (1, .int v), (3, .int (nI N))] → (∀ (H : Heap) (locs : List Loc) (ls : Array Slot), va_P D zCl (va_pl L (mm_si f b (r_it (fun j g => upd g j v) n i g))) H → va_S (inL L) s.heap H locs → lv_has ls 4 [(2, .int (nI N)), (0, .ref b), (1, .int v), (3, .int (nI N))] → W p l e ({ frames := 0, cells := 0, slots := 0, locals := 0 } : Room) s m args below meth c H locs 0 0 Q (F0 m 20 ls [])) → W p l e ({ frames := 0, cells := 0, slots := 0, locals := 0 } : Room) s m args below meth c H locs 0 0 Q (F0 m 5 ls []) := by
  obtain ⟨hx, hb, hml, hown, hg, hr, hlocks, hK, hN⟩ := id C0
  have hA : ∀ a ∈ L, inL L a := fun _ h => h
  intro n
  induction n with
  | zero =>
    intro i g hi H locs ls hP hS hl hk
    obtain rfl : N = i := by omega
    have q2 : mm_I tys (mm_si f b g) b N g := h2.set
    refine lv_iload_n hx hb dA_fill_5 rfl (lv_at hl 0 rfl) ?_
    refine lv_iload_n hx hb dA_fill_6 rfl (lv_at hl 3 rfl) ?_
    refine lv_icmp_ge (tgt := 20) hx hb dA_fill_7 (by decide) (fun c7 => ?_) (fun c7 => absurd (nI_le (by omega) (by omega)) c7)
    exact hk H locs ls hP hS (lv_sub hl [0, 1, 2, 3] rfl)
  | succ n ih =>
    intro i g hi H locs ls hP hS hl hk
    have q2 : mm_I tys (mm_si f b g) b N g := h2.set
    refine lv_iload_n hx hb dA_fill_5 rfl (lv_at hl 0 rfl) ?_
    refine lv_iload_n hx hb dA_fill_6 rfl (lv_at hl 3 rfl) ?_
    refine lv_icmp_ge (tgt := 20) hx hb dA_fill_7 (by decide) (fun c7 => absurd c7 (nI_ge (show i < N by omega) (by omega))) (fun c7 => ?_)
    refine lv_aload_n hx hb dA_fill_10 rfl (lv_at hl 1 rfl) ?_
    refine lv_iload_n hx hb dA_fill_11 rfl (lv_at hl 0 rfl) ?_
    refine lv_iload_n hx hb dA_fill_12 rfl (lv_at hl 2 rfl) ?_
    refine mm_iast hx hb hK hn hA hP hS hbL q2 (vp_in_nI (show i < N by omega) (by omega)) dA_fill_13 (fun H locs hP hS => ?_)
    rw [nI_clamp (by omega)] at hP
    obtain ⟨f1, hf1⟩ : ∃ z, z = mm_si (mm_si f b g) b (upd g i v) := ⟨_, rfl⟩
    have hP : va_P D zCl (va_pl L f1) H := by rw [hf1]; exact hP
    have p2 : mm_I tys f1 b N (upd g i v) := by rw [hf1]; exact q2.set
    refine lv_iinc (v := nI (i + 1)) (lv' := [(2, .int (nI (i + 1))), (0, .ref b), (1, .int v), (3, .int (nI N))]) hx hb dA_fill_14 hl (k := 0) rfl (nI_add i 1) (by decide) rfl (fun ls hl => ?_)
    refine lv_goto (tgt := 5) hx hb dA_fill_17 (by decide) ?_
    refine ih (i + 1) (upd g i v) (by omega) H locs ls ?_ hS (lv_sub hl [0, 1, 2, 3] rfl) hk
    rw [hf1, mm_si_si] at hP
    exact hP
set_option maxRecDepth 100000 in
set_option maxHeartbeats 4000000 in
theorem a_fill {l : Launch} {D : va_G} {tys : List (ClassId × FieldType)} {L : List Nat} {f : Nat → va_E} (hn : L.Nodup) {b N : Nat} {v : Int32} {g0 : Nat → Int32} (hN2 : N < 2 ^ 31) (hbL : b ∈ L) (h2 : mm_I tys f b N g0) : MetV l yA_fill wA_fill ({ frames := 0, cells := 0, slots := 0, locals := 0 } : Room) D tys L f [.ref b, .int v] (fun f' => f' = mm_si f b (r_it (fun j g => upd g j v) N 0 g0)) := by
  refine met_of "java/util/Arrays" (by decide) rfl (Nat.le_of_ble_eq_true rfl) ?_
  intro p e s m below meth c ls C0 hP hl
  obtain ⟨hx, hb, hml, hown, hg, hr, hlocks, hK, hN⟩ := id C0
  have hA : ∀ a ∈ L, inL L a := fun _ h => h
  obtain ⟨H, hH⟩ : ∃ z, z = s.heap := ⟨_, rfl⟩
  rw [← hH] at hP ⊢
  have hS : va_S (inL L) s.heap H [] := by rw [hH]; exact va_S.rf
  have hl : lv_has ls 4 [(0, .ref b), (1, .int v)] := hl
  refine lv_iconst (v := nI 0) hx hb dA_fill_0 (by decide) ?_
  refine lv_istore_n (lv' := [(2, .int (nI 0)), (0, .ref b), (1, .int v)]) hx hb dA_fill_1 rfl hl (by decide) rfl (fun ls hl => ?_)
  refine lv_aload_n hx hb dA_fill_2 rfl (lv_at hl 1 rfl) ?_
  refine mm_alen hx hb hK hP hbL h2 dA_fill_3 ?_
  refine lv_istore_n (lv' := [(3, .int (nI N)), (2, .int (nI 0)), (0, .ref b), (1, .int v)]) hx hb dA_fill_4 rfl hl (by decide) rfl (fun ls hl => ?_)
  refine a_fill_loop C0 hn hN2 hbL h2 N 0 g0 (by omega) H [] ls (by rw [mm_si_id h2]; exact hP) hS (lv_sub hl [1, 2, 3, 0] rfl) (fun H locs ls hP hS hl => ?_)
  exact ret_v C0 hP hS rfl dA_fill_20
set_option maxRecDepth 100000 in
set_option maxHeartbeats 4000000 in
theorem k_fa_loop {p : Program} {l : Launch} {e : Env} {s : State} {m : MethodId} {args : Array Value} {below : List Frame} {meth : Method} {c : Code} {D : va_G} {tys : List (ClassId × FieldType)} {L : List Nat} {f : Nat → va_E} {Q : State → Prop} (C0 : Cx p s m args meth c cK_forgetAll 2 "LiquidChecker$Known" none D tys) (hn : L.Nodup) {h b : Nat} {pv : Int32} {g0 : Nat → Int32} (hh : h ∈ L) (hbL : b ∈ L) (h1 : f h = .inr (1, [.ref b, .int pv])) (h2 : mm_I tys f b 144 g0) : ∀ (n i : Nat) (g : Nat → Int32), i + n = 12 → ∀ (H : Heap) (locs : List Loc) (ls : Array Slot), va_P D zCl (va_pl L (mm_si f b g)) H → va_S (inL L) s.heap H locs → lv_has ls 2 [(1, .int (nI i)), (0, .ref h)] → (∀ (H : Heap) (locs : List Loc) (ls : Array Slot), va_P D zCl (va_pl L (mm_si f b (r_it (fun j g => upd g (j * 12 + j) (nI 0)) n i g))) H → va_S (inL L) s.heap H locs → lv_has ls 2 [(1, .int (nI 12)), (0, .ref h)] → W p l e ({ frames := 1, cells := 0, slots := 0, locals := 23 } : Room) s m args below meth c H locs 0 0 Q (F0 m 35 ls [])) → W p l e ({ frames := 1, cells := 0, slots := 0, locals := 23 } : Room) s m args below meth c H locs 0 0 Q (F0 m 11 ls []) := by
  obtain ⟨hx, hb, hml, hown, hg, hr, hlocks, hK, hN⟩ := id C0
  have hA : ∀ a ∈ L, inL L a := fun _ h => h
  intro n
  induction n with
  | zero =>
    intro i g hi H locs ls hP hS hl hk
    obtain rfl : i = 12 := by omega
    have q2 : mm_I tys (mm_si f b g) b 144 g := h2.set
    have q1 : mm_si f b g h = .inr (1, [.ref b, .int pv]) := by rw [mm_si_ne (mm_IO h2 h1)]; exact h1
    refine lv_iload_n hx hb dK_forgetAll_11 rfl (lv_at hl 0 rfl) ?_
    refine lv_bipush (v := nI 12) hx hb dK_forgetAll_12 (by decide) ?_
    refine lv_icmp_ge (tgt := 35) hx hb dK_forgetAll_14 (by decide) (fun c14 => ?_) (fun c14 => absurd (nI_le (by omega) (by omega)) c14)
    exact hk H locs ls hP hS (lv_sub hl [0, 1] rfl)
  | succ n ih =>
    intro i g hi H locs ls hP hS hl hk
    have q2 : mm_I tys (mm_si f b g) b 144 g := h2.set
    have q1 : mm_si f b g h = .inr (1, [.ref b, .int pv]) := by rw [mm_si_ne (mm_IO h2 h1)]; exact h1
    refine lv_iload_n hx hb dK_forgetAll_11 rfl (lv_at hl 0 rfl) ?_
    refine lv_bipush (v := nI 12) hx hb dK_forgetAll_12 (by decide) ?_
    refine lv_icmp_ge (tgt := 35) hx hb dK_forgetAll_14 (by decide) (fun c14 => absurd c14 (nI_ge (show i < 12 by omega) (by omega))) (fun c14 => ?_)
    refine lv_aload_n hx hb dK_forgetAll_17 rfl (lv_at hl 1 rfl) ?_
    refine mm_get (v := .ref b) hx hb hg inK hown hK hP hh q1 rfl 0 (by decide) (hg _ gw41) (fun _ h9 => h9) rfl dK_forgetAll_18 ?_
    refine lv_iload_n hx hb dK_forgetAll_21 rfl (lv_at hl 0 rfl) ?_
    refine lv_bipush (v := nI 12) hx hb dK_forgetAll_22 (by decide) ?_
    refine lv_imul hx hb dK_forgetAll_24 ?_
    rw [pk_mul]
    refine lv_iload_n hx hb dK_forgetAll_25 rfl (lv_at hl 0 rfl) ?_
    refine lv_iadd hx hb dK_forgetAll_26 ?_
    rw [nI_add]
    refine lv_iconst (v := nI 0) hx hb dK_forgetAll_27 (by decide) ?_
    refine mm_iast hx hb hK hn hA hP hS hbL q2 (vp_in_nI (show (i * 12) + i < 144 by omega) (by omega)) dK_forgetAll_28 (fun H locs hP hS => ?_)
    rw [nI_clamp (by omega)] at hP
    obtain ⟨f1, hf1⟩ : ∃ z, z = mm_si (mm_si f b g) b (upd g ((i * 12) + i) (nI 0)) := ⟨_, rfl⟩
    have hP : va_P D zCl (va_pl L f1) H := by rw [hf1]; exact hP
    have p2 : f1 h = .inr (1, [.ref b, .int pv]) := by rw [hf1, mm_si_ne (mm_IO q2 q1)]; exact q1
    have p3 : mm_I tys f1 b 144 (upd g ((i * 12) + i) (nI 0)) := by rw [hf1]; exact q2.set
    refine lv_iinc (v := nI (i + 1)) (lv' := [(1, .int (nI (i + 1))), (0, .ref h)]) hx hb dK_forgetAll_29 hl (k := 0) rfl (nI_add i 1) (by decide) rfl (fun ls hl => ?_)
    refine lv_goto (tgt := 11) hx hb dK_forgetAll_32 (by decide) ?_
    refine ih (i + 1) (upd g (i * 12 + i) (nI 0)) (by omega) H locs ls ?_ hS (lv_sub hl [0, 1] rfl) hk
    rw [hf1, mm_si_si] at hP
    exact hP
def r_fa (g : Nat → Int32) : Nat → Int32 := r_it (fun j g => upd g (j * 12 + j) (nI 0)) 12 0 (r_it (fun j g => upd g j 1000000) 144 0 g)
set_option maxRecDepth 100000 in
set_option maxHeartbeats 4000000 in
theorem k_forgetAll {l : Launch} {D : va_G} {tys : List (ClassId × FieldType)} {L : List Nat} {f : Nat → va_E} (hn : L.Nodup) {h b : Nat} {pv : Int32} {g0 : Nat → Int32} (hh : h ∈ L) (hbL : b ∈ L) (h1 : f h = .inr (1, [.ref b, .int pv])) (h2 : mm_I tys f b 144 g0) : MetV l yK_forgetAll wK_forgetAll ({ frames := 1, cells := 0, slots := 0, locals := 23 } : Room) D tys L f [.ref h] (fun f' => f' = va_up (mm_si f b (r_fa g0)) h (.inr (1, [.ref b, .int (nI 1)]))) := by
  refine met_of "LiquidChecker$Known" (by decide) rfl (Nat.le_of_ble_eq_true rfl) ?_
  intro p e s m below meth c ls C0 hP hl
  obtain ⟨hx, hb, hml, hown, hg, hr, hlocks, hK, hN⟩ := id C0
  have hA : ∀ a ∈ L, inL L a := fun _ h => h
  obtain ⟨H, hH⟩ : ∃ z, z = s.heap := ⟨_, rfl⟩
  rw [← hH] at hP ⊢
  have hS : va_S (inL L) s.heap H [] := by rw [hH]; exact va_S.rf
  have hl : lv_has ls 2 [(0, .ref h)] := hl
  refine lv_aload_n hx hb dK_forgetAll_0 rfl (lv_at hl 0 rfl) ?_
  refine mm_get (v := .ref b) hx hb hg inK hown hK hP hh h1 rfl 0 (by decide) (hg _ gw41) (fun _ h9 => h9) rfl dK_forgetAll_1 ?_
  refine lv_ldc hx hb hown (hg _ gw417) dK_forgetAll_4 ?_
  refine then_v (run_S (n := 2) (As := [.ref b, .int 1000000]) (rest := []) C0 (a_fill hn (by omega) hbL h2) gw420 gw418 gw419 gw14 (by decide +kernel) ⟨Nat.le_of_ble_eq_true rfl, Nat.le_of_ble_eq_true rfl⟩ rfl rfl ⟨Nat.le_of_ble_eq_true rfl, Nat.le_of_ble_eq_true rfl⟩ hP rfl hl.1 rfl (Nat.le_of_ble_eq_true rfl) dK_forgetAll_6) hS hA (fun f1 H locs hq6 hP hS => ?_)
  rw [hq6] at hP
  obtain ⟨g, hgg⟩ : ∃ z, z = r_it (fun j g => upd g j 1000000) 144 0 g0 := ⟨_, rfl⟩
  rw [← hgg] at hP
  have q2 : mm_I tys (mm_si f b g) b 144 g := h2.set
  have q1 : mm_si f b g h = .inr (1, [.ref b, .int pv]) := by rw [mm_si_ne (mm_IO h2 h1)]; exact h1
  refine lv_iconst (v := nI 0) hx hb dK_forgetAll_9 (by decide) ?_
  refine lv_istore_n (lv' := [(1, .int (nI 0)), (0, .ref h)]) hx hb dK_forgetAll_10 rfl hl (by decide) rfl (fun ls hl => ?_)
  refine k_fa_loop C0 hn hh hbL h1 h2 12 0 g (by omega) H locs ls hP hS (lv_sub hl [0, 1] rfl) (fun H locs ls hP hS hl => ?_)
  obtain ⟨g2, hg2⟩ : ∃ z, z = r_it (fun j g => upd g (j * 12 + j) (nI 0)) 12 0 g := ⟨_, rfl⟩
  rw [← hg2] at hP
  have q2 : mm_I tys (mm_si f b g2) b 144 g2 := h2.set
  have q1 : mm_si f b g2 h = .inr (1, [.ref b, .int pv]) := by rw [mm_si_ne (mm_IO h2 h1)]; exact h1
  refine lv_aload_n hx hb dK_forgetAll_35 rfl (lv_at hl 1 rfl) ?_
  refine lv_iconst (v := nI 1) hx hb dK_forgetAll_36 (by decide) ?_
  refine mm_put (v := .int (nI 1)) (ty := .boolean) hx hb hg inK tyK tyK_ok nmK hown hK hn hA hP hS hh q1 rfl 1 (by decide) (hg _ gw42) (fun _ h9 => h9) rfl (by decide +kernel) rfl rfl (Nat.le_of_ble_eq_true rfl) dK_forgetAll_37 (fun H locs hP hS => ?_)
  obtain ⟨f51, hf51⟩ : ∃ z, z = va_up (mm_si f b g2) h (.inr (1, [.ref b, .int (nI 1)])) := ⟨_, rfl⟩
  have hP : va_P D zCl (va_pl L f51) H := by rw [hf51]; exact hP
  have p52 : mm_I tys f51 b 144 g2 := q2.eq (by rw [hf51, va_up_ne _ _ (Ne.symm (mm_IO q2 q1))])
  have p53 : f51 h = .inr (1, [.ref b, .int (nI 1)]) := by rw [hf51]; exact va_up_self _ _ _
  exact ret_v C0 hP hS (by rw [hf51, hg2, hgg]; rfl) dK_forgetAll_40
set_option maxRecDepth 100000 in
set_option maxHeartbeats 4000000 in
theorem k_copyFrom {l : Launch} {D : va_G} {tys : List (ClassId × FieldType)} {L : List Nat} {f : Nat → va_E} (hn : L.Nodup) {h b h8 b8 : Nat} {pv pv8 : Int32} {g g8 : Nat → Int32} (hh : h ∈ L) (hbL : b ∈ L) (h1 : f h = .inr (1, [.ref b, .int pv])) (h2 : mm_I tys f b 144 g) (hh8 : h8 ∈ L) (hb8 : b8 ∈ L) (h18 : f h8 = .inr (1, [.ref b8, .int pv8])) (h28 : mm_I tys f b8 144 g8) (hbb : b8 ≠ b) (hhh : h8 ≠ h) (hz : pv8 = nI 0 ∨ pv8 = nI 1) : MetV l yK_copyFrom wK_copyFrom ({ frames := 1, cells := 0, slots := 0, locals := 18 } : Room) D tys L f [.ref h, .ref h8] (fun f' => f' = va_up (mm_si f b (va_cpy g8 g 0 0 144)) h (.inr (1, [.ref b, .int pv8]))) := by
  refine met_of "LiquidChecker$Known" (by decide) rfl (Nat.le_of_ble_eq_true rfl) ?_
  intro p e s m below meth c ls C0 hP hl
  obtain ⟨hx, hb, hml, hown, hg, hr, hlocks, hK, hN⟩ := id C0
  have hA : ∀ a ∈ L, inL L a := fun _ h => h
  obtain ⟨H, hH⟩ : ∃ z, z = s.heap := ⟨_, rfl⟩
  rw [← hH] at hP ⊢
  have hS : va_S (inL L) s.heap H [] := by rw [hH]; exact va_S.rf
  have hl : lv_has ls 2 [(0, .ref h), (1, .ref h8)] := hl
  refine lv_aload_n hx hb dK_copyFrom_0 rfl (lv_at hl 1 rfl) ?_
  refine mm_get (v := .ref b8) hx hb hg inK hown hK hP hh8 h18 rfl 0 (by decide) (hg _ gw41) (fun _ h9 => h9) rfl dK_copyFrom_1 ?_
  refine lv_iconst (v := nI 0) hx hb dK_copyFrom_4 (by decide) ?_
  refine lv_aload_n hx hb dK_copyFrom_5 rfl (lv_at hl 0 rfl) ?_
  refine mm_get (v := .ref b) hx hb hg inK hown hK hP hh h1 rfl 0 (by decide) (hg _ gw41) (fun _ h9 => h9) rfl dK_copyFrom_6 ?_
  refine lv_iconst (v := nI 0) hx hb dK_copyFrom_9 (by decide) ?_
  refine lv_aload_n hx hb dK_copyFrom_10 rfl (lv_at hl 0 rfl) ?_
  refine mm_get (v := .ref b) hx hb hg inK hown hK hP hh h1 rfl 0 (by decide) (hg _ gw41) (fun _ h9 => h9) rfl dK_copyFrom_11 ?_
  refine mm_alen hx hb hK hP hbL h2 dK_copyFrom_14 ?_
  refine mm_copyi (n := 144) hx hb (hml.trans hl.1.symm) hown (hg _ gw494) (hg _ gw496) (hg _ gw495) (hg _ gw16) hK hn hA hP hS hb8 h28 hbL h2 (by omega) (by omega) (by omega) (Nat.le_of_ble_eq_true rfl) (by decide +kernel) dK_copyFrom_15 (fun H locs hP hS => ?_)
  obtain ⟨f1, hf1⟩ : ∃ z, z = mm_si f b (va_cpy g8 g 0 0 144) := ⟨_, rfl⟩
  have hP : va_P D zCl (va_pl L f1) H := by rw [hf1]; exact hP
  have p2 : f1 h = .inr (1, [.ref b, .int pv]) := by rw [hf1, mm_si_ne (mm_IO h2 h1)]; exact h1
  have p3 : f1 h8 = .inr (1, [.ref b8, .int pv8]) := by rw [hf1, mm_si_ne (mm_IO h2 h18)]; exact h18
  have p4 : mm_I tys f1 b8 144 g8 := h28.eq (by rw [hf1, mm_si_ne hbb])
  have p5 : mm_I tys f1 b 144 (va_cpy g8 g 0 0 144) := by rw [hf1]; exact h2.set
  refine lv_aload_n hx hb dK_copyFrom_18 rfl (lv_at hl 0 rfl) ?_
  refine lv_aload_n hx hb dK_copyFrom_19 rfl (lv_at hl 1 rfl) ?_
  refine mm_get (v := .int pv8) hx hb hg inK hown hK hP hh8 p3 rfl 1 (by decide) (hg _ gw42) (fun _ h9 => h9) rfl dK_copyFrom_20 ?_
  refine mm_put (v := .int pv8) (ty := .boolean) hx hb hg inK tyK tyK_ok nmK hown hK hn hA hP hS hh p2 rfl 1 (by decide) (hg _ gw42) (fun _ h9 => h9) rfl (by decide +kernel) (b01 hz).1 (b01 hz).2 (Nat.le_of_ble_eq_true rfl) dK_copyFrom_23 (fun H locs hP hS => ?_)
  obtain ⟨f6, hf6⟩ : ∃ z, z = va_up f1 h (.inr (1, [.ref b, .int pv8])) := ⟨_, rfl⟩
  have hP : va_P D zCl (va_pl L f6) H := by rw [hf6]; exact hP
  have p7 : f6 h8 = .inr (1, [.ref b8, .int pv8]) := by rw [hf6, va_up_ne _ _ hhh]; exact p3
  have p8 : mm_I tys f6 b8 144 g8 := p4.eq (by rw [hf6, va_up_ne _ _ (Ne.symm (mm_IO p4 p2))])
  have p9 : mm_I tys f6 b 144 (va_cpy g8 g 0 0 144) := p5.eq (by rw [hf6, va_up_ne _ _ (Ne.symm (mm_IO p5 p2))])
  have p10 : f6 h = .inr (1, [.ref b, .int pv8]) := by rw [hf6]; exact va_up_self _ _ _
  exact ret_v C0 hP hS (by rw [hf6, hf1]) dK_copyFrom_26
