/-! Constructors: Walk, LiquidChecker. -/
def WkNew (t : List (ClassId × FieldType)) (L : List Nat) (f : Nat → va_E) (Lb : List Nat) (h wk wkb wa wp : Nat) (wq wqb : Nat → Nat) : Prop :=
  f h = .inr (4, [.ref wk, .ref wa, .ref wp, .int 0, .int 0, .int 0, .int 0, .int 0, .int 0, .int 0, .int 0]) ∧ (f wk = .inr (1, [.ref wkb, .int 0]) ∧ mm_I t f wkb 144 (fun _ => 0)) ∧ mm_Q t "LiquidChecker$Known" f wa 6 (fun j => some (wq j)) ∧ mm_I t f wp 6 (fun _ => 0) ∧
  (∀ j, j < 6 → f (wq j) = .inr (1, [.ref (wqb j), .int 0]) ∧ mm_I t f (wqb j) 144 (fun _ => 0)) ∧ (∀ x ∈ [wk, wkb, wa, wp], x ∈ L ∧ x ∉ Lb) ∧ (∀ j, j < 6 → (wq j ∈ L ∧ wq j ∉ Lb) ∧ (wqb j ∈ L ∧ wqb j ∉ Lb)) ∧ (∀ j, j < 6 → wk ≠ wq j ∧ wkb ≠ wqb j) ∧ (∀ i j, i < 6 → j < 6 → i ≠ j → wq i ≠ wq j ∧ wqb i ≠ wqb j)
theorem WkNew.keep {t t2 : List (ClassId × FieldType)} {L L2 : List Nat} {f f2 : Nat → va_E} {Lb : List Nat} {h wk wkb wa wp : Nat} {wq wqb : Nat → Nat} (hN : WkNew t L f Lb h wk wkb wa wp wq wqb) (hh : f2 h = f h) (hi : ∀ z ∈ L, z ∈ L2) (he : ∀ z ∈ L, z ∉ Lb → f2 z = f z) (hy : ∀ z ∈ t, z ∈ t2) : WkNew t2 L2 f2 Lb h wk wkb wa wp wq wqb := by
  obtain ⟨c1, ⟨c2, c3⟩, c4, c5, c6, m1, m2, m3, m4⟩ := hN
  have q : ∀ x ∈ [wk, wkb, wa, wp], f2 x = f x := fun x hx => he x (m1 x hx).1 (m1 x hx).2
  refine ⟨hh.trans c1, ⟨(q wk (by simp)).trans c2, (c3.eq (q wkb (by simp))).more hy⟩, (c4.eq (q wa (by simp))).more hy, (c5.eq (q wp (by simp))).more hy, fun j hj => ⟨(he _ (m2 j hj).1.1 (m2 j hj).1.2).trans (c6 j hj).1, ((c6 j hj).2.eq (he _ (m2 j hj).2.1 (m2 j hj).2.2)).more hy⟩, fun x hx => ⟨hi x (m1 x hx).1, (m1 x hx).2⟩, fun j hj => ⟨⟨hi _ (m2 j hj).1.1, (m2 j hj).1.2⟩, ⟨hi _ (m2 j hj).2.1, (m2 j hj).2.2⟩⟩, m3, m4⟩
theorem FnNew.less {t : List (ClassId × FieldType)} {L : List Nat} {f : Nat → va_E} {Lb Lc : List Nat} {h dr pr sA oA a0 b0 k0 a1 b1 k1 : Nat} {sq : Nat → Nat} (hN : FnNew t L f Lb h dr pr sA oA a0 b0 k0 a1 b1 k1 sq) (hs : ∀ a ∈ Lc, a ∈ Lb) : FnNew t L f Lc h dr pr sA oA a0 b0 k0 a1 b1 k1 sq := by
  obtain ⟨c1, c2, c3, c4, c5, c6, m1, m2, m3⟩ := hN
  exact ⟨c1, c2, c3, c4, c5, c6, fun x hx => ⟨(m1 x hx).1, fun h9 => (m1 x hx).2 (hs _ h9)⟩, fun j hj => ⟨(m2 j hj).1, fun h9 => (m2 j hj).2 (hs _ h9)⟩, m3⟩
theorem WkNew.less {t : List (ClassId × FieldType)} {L : List Nat} {f : Nat → va_E} {Lb Lc : List Nat} {h wk wkb wa wp : Nat} {wq wqb : Nat → Nat} (hN : WkNew t L f Lb h wk wkb wa wp wq wqb) (hs : ∀ a ∈ Lc, a ∈ Lb) : WkNew t L f Lc h wk wkb wa wp wq wqb := by
  obtain ⟨c1, c2, c3, c4, c5, m1, m2, m3⟩ := hN
  exact ⟨c1, c2, c3, c4, c5, fun x hx => ⟨(m1 x hx).1, fun h9 => (m1 x hx).2 (hs _ h9)⟩, fun j hj => ⟨⟨(m2 j hj).1.1, fun h9 => (m2 j hj).1.2 (hs _ h9)⟩, ⟨(m2 j hj).2.1, fun h9 => (m2 j hj).2.2 (hs _ h9)⟩⟩, m3⟩
set_option maxRecDepth 100000 in
set_option maxHeartbeats 4000000 in
theorem n_W_loop {pgm : Program} {l : Launch} {e : Env} {s : State} {m : MethodId} {args : Array Value} {below : List Frame} {meth : Method} {cd : Code} {D : va_G} {Q : State → Prop} {L0 L1 : List Nat} {f1 : Nat → va_E} {t1 : List (ClassId × FieldType)} {sz h : Nat} {wk wa wp : Nat} (C0 : Ci pgm s m args meth cd cW_init 2 "LiquidChecker$Walk") (hsz : s.heap.size = sz) (hA0 : ∀ q, s.heap.size ≤ q → gA L0 sz q) (hh1 : h ∈ L1) (h1 : f1 h = .inr (4, [.ref wk, .ref wa, .ref wp, .int 0, .int 0, .int 0, .int 0, .int 0, .int 0, .int 0, .int 0])) (hs1 : wa ∈ L1) (hne1 : h ≠ wa) (hL01 : ∀ a ∈ L0, a ∈ L1) : ∀ (n i : Nat) (Lk : List Nat) (fk : Nat → va_E) (tk : List (ClassId × FieldType)) (g : Nat → Option Nat) (wq wqb : Nat → Nat), i + n = 6 → Gro L1 f1 t1 wa sz (Lk, fk, tk) → (∀ a ∈ Lk, gA L0 sz a) → mm_Q tk "LiquidChecker$Known" fk wa 6 g → (∀ j, j < i → g j = some (wq j) ∧ (wq j ∈ Lk ∧ wq j ∉ L1) ∧ (wqb j ∈ Lk ∧ wqb j ∉ L1) ∧ fk (wq j) = .inr (1, [.ref (wqb j), .int 0]) ∧ mm_I tk fk (wqb j) 144 (fun _ => 0)) ∧ (∀ j k, j < i → k < i → j ≠ k → wq j ≠ wq k ∧ wqb j ≠ wqb k) → ∀ (H : Heap) (locs : List Loc) (ls : Array Slot), va_K D zCl tk s → va_P D zCl (va_pl Lk fk) H → va_S (gA L0 sz) s.heap H locs → lv_has ls 2 [(1, .int (nI i)), (0, .ref h)] → (∀ (Lk : List Nat) (fk : Nat → va_E) (tk : List (ClassId × FieldType)) (g : Nat → Option Nat) (wq wqb : Nat → Nat) (H : Heap) (locs : List Loc) (ls : Array Slot), Gro L1 f1 t1 wa sz (Lk, fk, tk) → (∀ a ∈ Lk, gA L0 sz a) → mm_Q tk "LiquidChecker$Known" fk wa 6 g → (∀ j, j < 6 → g j = some (wq j) ∧ (wq j ∈ Lk ∧ wq j ∉ L1) ∧ (wqb j ∈ Lk ∧ wqb j ∉ L1) ∧ fk (wq j) = .inr (1, [.ref (wqb j), .int 0]) ∧ mm_I tk fk (wqb j) 144 (fun _ => 0)) ∧ (∀ j k, j < 6 → k < 6 → j ≠ k → wq j ≠ wq k ∧ wqb j ≠ wqb k) → va_K D zCl tk s → va_P D zCl (va_pl Lk fk) H → va_S (gA L0 sz) s.heap H locs → lv_has ls 2 [(1, .int (nI 6)), (0, .ref h)] → W pgm l e ({ frames := 2, cells := 16, slots := 1034, locals := 34 } : Room) s m args below meth cd H locs (4 + 2 * 6) (158 + 146 * 6) Q (F0 m 59 ls [])) → W pgm l e ({ frames := 2, cells := 16, slots := 1034, locals := 34 } : Room) s m args below meth cd H locs (4 + 2 * i) (158 + 146 * i) Q (F0 m 34 ls []) := by
  obtain ⟨hx, hb, hml, hown, hg, hr, hlocks, hnm9, hN, hAo⟩ := id C0
  have w9 : ∀ {q : Nat}, gA L0 sz q → gA L1 sz q := fun h9 => h9.elim (fun h8 => Or.inl (hL01 _ h8)) Or.inr
  intro n
  induction n with
  | zero =>
    intro i Lk fk tk g wq wqb hi hG hA hQ hinv H locs ls hK hP hS hl hx2
    obtain rfl : i = 6 := by omega
    refine lv_iload_n hx hb dW_init_34 rfl (lv_at hl 0 rfl) ?_
    refine lv_bipush (v := nI 6) hx hb dW_init_35 (by decide) ?_
    refine lv_icmp_ge (tgt := 59) hx hb dW_init_37 (by decide) (fun c37 => ?_) (fun c37 => absurd (nI_le (by omega) (by omega)) c37)
    exact hx2 Lk fk tk g wq wqb H locs ls hG hA hQ hinv hK hP hS (lv_sub hl [0, 1] rfl)
  | succ n ih =>
    intro i Lk fk tk g wq wqb hi hG hA hQ hinv H locs ls hK hP hS hl hx2
    have hn : Lk.Nodup := hG.1
    have hG0 : ∀ a ∈ L1, a ∈ Lk := fun a ha => (hG.2.2.1 a ha).1
    have ih0 : h ∈ Lk := hG0 _ hh1
    have ins : wa ∈ Lk := hG0 _ hs1
    have hsn : h ≠ wa := hne1
    have p0 : fk h = .inr (4, [.ref wk, .ref wa, .ref wp, .int 0, .int 0, .int 0, .int 0, .int 0, .int 0, .int 0, .int 0]) := ((hG.2.2.1 h hh1).2 hsn).trans h1
    refine lv_iload_n hx hb dW_init_34 rfl (lv_at hl 0 rfl) ?_
    refine lv_bipush (v := nI 6) hx hb dW_init_35 (by decide) ?_
    refine lv_icmp_ge (tgt := 59) hx hb dW_init_37 (by decide) (fun c37 => absurd c37 (nI_ge (show i < 6 by omega) (by omega))) (fun c37 => ?_)
    refine lv_aload_n hx hb dW_init_40 rfl (lv_at hl 1 rfl) ?_
    refine mm_get (v := .ref wa) hx hb hg inW hown hK hP ih0 p0 rfl 1 (by decide) (hg _ gw53) (fun _ h9 => h9) rfl dW_init_41 ?_
    refine lv_iload_n hx hb dW_init_44 rfl (lv_at hl 0 rfl) ?_
    refine mg_new (ci := 1) (fs := [.null, .int 0]) hx hb hg inK tyK tyK_ok hown (hg _ gw35) (hg _ gw36) (hg _ gw3) hK hP hn hA hS hA0 rfl (fun j hj => by rcases (show j = 0 ∨ j = 1 by omega) with rfl | rfl <;> rfl) (show _ ≤ 16 by omega) (show _ ≤ 1034 by omega) dW_init_45 (fun q1 H hqq1 hAq1 hP hS => ?_)
    have ne_h_q1 : h ≠ q1 := fun e => hqq1 (e ▸ ih0)
    have ne_wa_q1 : wa ≠ q1 := fun e => hqq1 (e ▸ ins)
    obtain ⟨L2, eL2⟩ : ∃ z, z = Lk ++ [q1] := ⟨_, rfl⟩
    obtain ⟨f2, ef2⟩ : ∃ z, z = va_up fk q1 (.inr (1, [.null, .int 0])) := ⟨_, rfl⟩
    rw [← eL2, ← ef2] at hP
    have hi2 : ∀ z ∈ Lk, z ∈ L2 := fun z hz => by rw [eL2]; exact List.mem_append_left _ hz
    have he2 : ∀ z ∈ Lk, f2 z = fk z := fun z hz => by rw [ef2]; exact va_up_ne _ _ (fun e => hqq1 (e ▸ hz))
    have hG : Gro L1 f1 t1 wa sz (L2, f2, tk) := by rw [eL2, ef2]; exact hG.new hqq1 (w9 hAq1)
    have hn : L2.Nodup := hG.1
    have hA : ∀ a ∈ L2, (gA L0 sz) a := fun a ha => by rw [eL2] at ha; rcases List.mem_append.mp ha with h9 | h9; exact hA a h9; rw [List.mem_singleton.mp h9]; exact hAq1
    have i3 : h ∈ L2 := hi2 _ ih0
    have p4 : f2 h = .inr (4, [.ref wk, .ref wa, .ref wp, .int 0, .int 0, .int 0, .int 0, .int 0, .int 0, .int 0, .int 0]) := (he2 _ ih0).trans p0
    have i5 : wa ∈ L2 := hi2 _ ins
    have p6 : mm_Q tk "LiquidChecker$Known" f2 wa 6 g := (hQ.eq (he2 _ ins))
    have iqq1 : q1 ∈ L2 := by rw [eL2]; exact List.mem_append_right _ (List.mem_singleton.mpr rfl)
    have nqq1 : q1 ∉ L1 := n9 hG0 hqq1
    have hG0 : ∀ a ∈ L1, a ∈ L2 := fun a ha => (hG.2.2.1 a ha).1
    have pqq1 : f2 q1 = .inr (1, [.null, .int 0]) := by rw [ef2]; exact va_up_self _ _ _
    refine lv_dup hx hb dW_init_48 rfl ?_
    have hz7 : sz ≤ H.size := by rw [← hsz]; exact hS.1
    refine then_g (run_IN (rest := [.ref q1, .int (nI i), .ref wa]) C0 hK (n_K_init hn iqq1 pqq1) gw39 nx37 gw38 gw3 rfl (by decide +kernel) ⟨Nat.le_of_ble_eq_true rfl, Nat.le_of_ble_eq_true rfl⟩ rfl rfl ⟨show _ ≤ 16 by omega, show _ ≤ 1034 by omega⟩ hP hl.1 rfl (Nat.le_of_ble_eq_true rfl) dW_init_49) hS hA hA0 (fun u7 H locs hu7 hzz7 hP hK hS => ?_)
    obtain ⟨L7, f7, t7⟩ := u7
    obtain ⟨hg7, hpo7⟩ := hu7
    have hP : va_P D zCl (va_pl L7 f7) H := hP
    have hK : va_K D zCl t7 s := hK
    have hG : Gro L1 f1 t1 wa sz (L7, f7, t7) := hG.call nqq1 hz7 hg7
    have hG0o7 := hG0
    have hn : L7.Nodup := hG.1
    have hi7 : ∀ z ∈ L2, z ∈ L7 := fun z hz => (hg7.2.2.1 z hz).1
    have he7 : ∀ z ∈ L2, z ≠ q1 → f7 z = f2 z := fun z hz => (hg7.2.2.1 z hz).2
    have hy7 : ∀ z ∈ tk, z ∈ t7 := hg7.2.2.2
    have hA : ∀ a ∈ L7, (gA L0 sz) a := fun a ha => (hg7.2.1 a ha).elim (hA a) (fun h9 => hA0 a (by rw [hsz]; exact Nat.le_trans hz7 h9))
    have hG0 : ∀ a ∈ L1, a ∈ L7 := fun a ha => (hG.2.2.1 a ha).1
    have i8 : h ∈ L7 := hi7 _ i3
    have p9 : f7 h = .inr (4, [.ref wk, .ref wa, .ref wp, .int 0, .int 0, .int 0, .int 0, .int 0, .int 0, .int 0, .int 0]) := (he7 _ i3 ne_h_q1).trans p4
    have i10 : wa ∈ L7 := hi7 _ i5
    have p11 : mm_Q t7 "LiquidChecker$Known" f7 wa 6 g := (p6.eq (he7 _ i5 ne_wa_q1)).more hy7
    have i12 : q1 ∈ L7 := hi7 _ iqq1
    obtain ⟨bq, x17, y17, po7, pb7⟩ := hpo7
    have po7 : f7 q1 = .inr (1, [.ref bq, .int 0]) := po7
    have pb7 : mm_I t7 f7 bq 144 (fun _ => 0) := pb7
    have y17 : bq ∈ L7 := y17
    have nqbq : bq ∉ L1 := n9 hG0o7 x17
    have ne_h_bq : h ≠ bq := fun e => x17 (e ▸ i3)
    have ne_wa_bq : wa ≠ bq := fun e => x17 (e ▸ i5)
    have ne_q1_bq : q1 ≠ bq := fun e => x17 (e ▸ iqq1)
    refine mg_astq (C := "") hx hb hK hn hA hP hS i10 (r := (RK, TK, 2)) p11 i12 po7 rfl (vp_in_nI (show i < 6 by omega) (by omega)) dW_init_52 (fun H locs hP hS => ?_)
    rw [nI_clamp (by omega)] at hP
    obtain ⟨f13, hf13⟩ : ∃ z, z = mm_sq f7 wa (va_up g i (some q1)) := ⟨_, rfl⟩
    have hP : va_P D zCl (va_pl L7 f13) H := by rw [hf13]; exact hP
    have hs14 : Same1 f7 f13 wa := fun z hz => by rw [hf13, mm_sq_ne hz]
    have hG : Gro L1 f1 t1 wa sz (L7, f13, t7) := hG.put (Or.inl rfl) hs14
    have p15 : f13 h = .inr (4, [.ref wk, .ref wa, .ref wp, .int 0, .int 0, .int 0, .int 0, .int 0, .int 0, .int 0, .int 0]) := (hs14 _ hsn).trans p9
    have p16 : f13 q1 = .inr (1, [.ref bq, .int 0]) := (hs14 _ (Ne.symm ne_wa_q1)).trans po7
    have p17 : mm_I t7 f13 bq 144 (fun _ => 0) := pb7.eq (hs14 _ (Ne.symm ne_wa_bq))
    have p18 : mm_Q t7 "LiquidChecker$Known" f13 wa 6 (va_up g i (some q1)) := by rw [hf13]; exact p11.set
    refine lv_iinc (v := nI (i + 1)) (lv' := [(1, .int (nI (i + 1))), (0, .ref h)]) hx hb dW_init_53 hl (k := 0) rfl (nI_add i 1) (by decide) rfl (fun ls hl => ?_)
    refine lv_goto (tgt := 34) hx hb dW_init_56 (by decide) ?_
    have keep : ∀ z ∈ Lk, z ≠ wa → f13 z = fk z := fun z hz hne => by rw [hs14 z hne, he7 z (hi2 z hz) (fun e => hqq1 (e ▸ hz)), he2 z hz]
    have keepL : ∀ z ∈ Lk, z ∈ L7 := fun z hz => hi7 z (hi2 z hz)
    have keepT : ∀ z ∈ tk, z ∈ t7 := fun z hz => hy7 z hz
    refine W.widen (k := 4 + 2 * (i + 1)) (n := 158 + 146 * (i + 1)) (by omega) (by omega) ?_
    refine ih (i + 1) L7 f13 t7 _ (va_up wq i q1) (va_up wqb i bq) (by omega) hG hA p18 ?_ H locs ls hK hP hS (lv_sub hl [0, 1] rfl) hx2
    have hu_wq : ∀ j, j < i → va_up wq i q1 j = wq j := fun j hj => va_up_ne _ _ (by omega)
    have hv_wq : va_up wq i q1 i = q1 := va_up_self _ _ _
    have hu_wqb : ∀ j, j < i → va_up wqb i bq j = wqb j := fun j hj => va_up_ne _ _ (by omega)
    have hv_wqb : va_up wqb i bq i = bq := va_up_self _ _ _
    have hlt : ∀ j, j < i + 1 → j < i ∨ j = i := fun j hj => by omega
    refine ⟨fun j hj => ?_, fun j k hj hk hne => ?_⟩
    · rcases hlt j hj with h9 | rfl
      · obtain ⟨a1, a2, a3, a4, a5⟩ := hinv.1 j h9
        rw [hu_wq j h9, hu_wqb j h9]
        exact ⟨by rw [va_up_ne _ _ (by omega)]; exact a1, ⟨keepL _ a2.1, a2.2⟩, ⟨keepL _ a3.1, a3.2⟩, (keep _ a2.1 (fun e => absurd (e ▸ a4) (mm_Qno hQ))).trans a4, (a5.eq (keep _ a3.1 (mm_IQ a5 hQ))).more keepT⟩
      · rw [hv_wq, hv_wqb]
        exact ⟨va_up_self _ _ _, ⟨i12, nqq1⟩, ⟨y17, nqbq⟩, p16, p17⟩
    · rcases hlt j hj with h9 | rfl <;> rcases hlt k hk with h8 | rfl
      · rw [hu_wq j h9, hu_wq k h8, hu_wqb j h9, hu_wqb k h8]; exact hinv.2 j k h9 h8 hne
      · rw [hu_wq j h9, hu_wqb j h9, hv_wq, hv_wqb]; exact ⟨fun e => hqq1 (e ▸ (hinv.1 j h9).2.1.1), fun e => x17 (hi2 _ (e ▸ (hinv.1 j h9).2.2.1.1))⟩
      · rw [hu_wq k h8, hu_wqb k h8, hv_wq, hv_wqb]; exact ⟨fun e => hqq1 (e ▸ (hinv.1 k h8).2.1.1), fun e => x17 (hi2 _ (e ▸ (hinv.1 k h8).2.2.1.1))⟩
      · exact absurd rfl hne
set_option maxRecDepth 100000 in
set_option maxHeartbeats 4000000 in
theorem n_W_init {l : Launch} {D : va_G} {tys : List (ClassId × FieldType)} {L : List Nat} {f : Nat → va_E} {sz h : Nat} (hn : L.Nodup) (hh : h ∈ L) (h1 : f h = .inr (4, [.null, .null, .null, .int 0, .int 0, .int 0, .int 0, .int 0, .int 0, .int 0, .int 0])) : MetG l yW_init wW_init ({ frames := 2, cells := 16, slots := 1034, locals := 34 } : Room) D tys L f sz h (fun u => ∃ wk wkb wa wp wq wqb, WkNew u.2.2 u.1 u.2.1 L h wk wkb wa wp wq wqb) 16 1034 := by
  refine metg_of "LiquidChecker$Walk" (by decide) rfl rfl (Nat.le_of_ble_eq_true rfl) ?_
  intro pgm e s m below meth cd ls C0 hsz hK hP hl
  obtain ⟨hx, hb, hml, hown, hg, hr, hlocks, hnm9, hN, hAo⟩ := id C0
  have hA : ∀ a ∈ L, gA L sz a := fun _ h => Or.inl h
  have hA0 : ∀ q, s.heap.size ≤ q → gA L sz q := fun q h9 => Or.inr (by rw [← hsz]; exact h9)
  have w9 : ∀ {q : Nat}, gA L sz q → gA L sz q := fun h9 => h9
  have hG : Gro L f tys h sz (L, f, tys) := Gro.rfl2 hn
  have hG0 : ∀ a ∈ L, a ∈ L := fun _ h9 => h9
  obtain ⟨H, hH⟩ : ∃ z, z = s.heap := ⟨_, rfl⟩
  have hP : va_P D zCl (va_pl L f) H := by rw [hH]; exact hP
  have hS : va_S (gA L sz) s.heap H [] := by rw [hH]; exact va_S.rf
  rw [← hH]
  have hl : lv_has ls 2 [(0, .ref h)] := hl
  refine lv_aload_n hx hb dW_init_0 rfl (lv_at hl 0 rfl) ?_
  refine W.objInit hx hb hown (hg _ gw34) (hg _ gw25) (hg _ gw26) rfl (hl.1.trans hml.symm) rfl dW_init_1 (Nat.le_of_ble_eq_true rfl) (Nat.le_of_ble_eq_true rfl) ?_
  refine lv_aload_n hx hb dW_init_4 rfl (lv_at hl 0 rfl) ?_
  refine mg_new (ci := 1) (fs := [.null, .int 0]) hx hb hg inK tyK tyK_ok hown (hg _ gw35) (hg _ gw36) (hg _ gw3) hK hP hn hA hS hA0 rfl (fun j hj => by rcases (show j = 0 ∨ j = 1 by omega) with rfl | rfl <;> rfl) (Nat.le_of_ble_eq_true rfl) (Nat.le_of_ble_eq_true rfl) dW_init_5 (fun q1 H hqq1 hAq1 hP hS => ?_)
  have ne_h_q1 : h ≠ q1 := fun e => hqq1 (e ▸ hh)
  obtain ⟨L2, eL2⟩ : ∃ z, z = L ++ [q1] := ⟨_, rfl⟩
  obtain ⟨f2, ef2⟩ : ∃ z, z = va_up f q1 (.inr (1, [.null, .int 0])) := ⟨_, rfl⟩
  rw [← eL2, ← ef2] at hP
  have hi2 : ∀ z ∈ L, z ∈ L2 := fun z hz => by rw [eL2]; exact List.mem_append_left _ hz
  have he2 : ∀ z ∈ L, f2 z = f z := fun z hz => by rw [ef2]; exact va_up_ne _ _ (fun e => hqq1 (e ▸ hz))
  have hG : Gro L f tys h sz (L2, f2, tys) := by rw [eL2, ef2]; exact hG.new hqq1 (w9 hAq1)
  have hn : L2.Nodup := hG.1
  have hA : ∀ a ∈ L2, (gA L sz) a := fun a ha => by rw [eL2] at ha; rcases List.mem_append.mp ha with h9 | h9; exact hA a h9; rw [List.mem_singleton.mp h9]; exact hAq1
  have i3 : h ∈ L2 := hi2 _ hh
  have p4 : f2 h = .inr (4, [.null, .null, .null, .int 0, .int 0, .int 0, .int 0, .int 0, .int 0, .int 0, .int 0]) := (he2 _ hh).trans h1
  have iqq1 : q1 ∈ L2 := by rw [eL2]; exact List.mem_append_right _ (List.mem_singleton.mpr rfl)
  have nqq1 : q1 ∉ L := n9 hG0 hqq1
  have hG0 : ∀ a ∈ L, a ∈ L2 := fun a ha => (hG.2.2.1 a ha).1
  have pqq1 : f2 q1 = .inr (1, [.null, .int 0]) := by rw [ef2]; exact va_up_self _ _ _
  refine lv_dup hx hb dW_init_8 rfl ?_
  have hz5 : sz ≤ H.size := by rw [← hsz]; exact hS.1
  refine then_g (run_IN (rest := [.ref q1, .ref h]) C0 hK (n_K_init hn iqq1 pqq1) gw39 nx37 gw38 gw3 rfl (by decide +kernel) ⟨Nat.le_of_ble_eq_true rfl, Nat.le_of_ble_eq_true rfl⟩ rfl rfl ⟨Nat.le_of_ble_eq_true rfl, Nat.le_of_ble_eq_true rfl⟩ hP hl.1 rfl (Nat.le_of_ble_eq_true rfl) dW_init_9) hS hA hA0 (fun u5 H locs hu5 hzz5 hP hK hS => ?_)
  obtain ⟨L5, f5, t5⟩ := u5
  obtain ⟨hg5, hpo5⟩ := hu5
  have hP : va_P D zCl (va_pl L5 f5) H := hP
  have hK : va_K D zCl t5 s := hK
  have hG : Gro L f tys h sz (L5, f5, t5) := hG.call nqq1 hz5 hg5
  have hG0o5 := hG0
  have hn : L5.Nodup := hG.1
  have hi5 : ∀ z ∈ L2, z ∈ L5 := fun z hz => (hg5.2.2.1 z hz).1
  have he5 : ∀ z ∈ L2, z ≠ q1 → f5 z = f2 z := fun z hz => (hg5.2.2.1 z hz).2
  have hy5 : ∀ z ∈ tys, z ∈ t5 := hg5.2.2.2
  have hA : ∀ a ∈ L5, (gA L sz) a := fun a ha => (hg5.2.1 a ha).elim (hA a) (fun h9 => hA0 a (by rw [hsz]; exact Nat.le_trans hz5 h9))
  have hG0 : ∀ a ∈ L, a ∈ L5 := fun a ha => (hG.2.2.1 a ha).1
  have i6 : h ∈ L5 := hi5 _ i3
  have p7 : f5 h = .inr (4, [.null, .null, .null, .int 0, .int 0, .int 0, .int 0, .int 0, .int 0, .int 0, .int 0]) := (he5 _ i3 ne_h_q1).trans p4
  have i8 : q1 ∈ L5 := hi5 _ iqq1
  obtain ⟨wkb, x15, y15, po5, pb5⟩ := hpo5
  have po5 : f5 q1 = .inr (1, [.ref wkb, .int 0]) := po5
  have pb5 : mm_I t5 f5 wkb 144 (fun _ => 0) := pb5
  have y15 : wkb ∈ L5 := y15
  have nqwkb : wkb ∉ L := n9 hG0o5 x15
  have ne_h_wkb : h ≠ wkb := fun e => x15 (e ▸ i3)
  have ne_q1_wkb : q1 ≠ wkb := fun e => x15 (e ▸ iqq1)
  refine mg_putF (v := .ref q1) (ty := .object "LiquidChecker$Known") hx hb hg inW tyW tyW_ok nmW hown hK hn hA hP hS i6 p7 rfl 0 (by decide) (hg _ gw52) (fun _ h9 => h9) rfl hnm9 rfl (by decide +kernel) rfl rfl (Nat.le_of_ble_eq_true rfl) dW_init_12 (fun H locs hP hS => ?_)
  obtain ⟨f9, hf9⟩ : ∃ z, z = va_up f5 h (.inr (4, [.ref q1, .null, .null, .int 0, .int 0, .int 0, .int 0, .int 0, .int 0, .int 0, .int 0])) := ⟨_, rfl⟩
  have hP : va_P D zCl (va_pl L5 f9) H := by rw [hf9]; exact hP
  have hs10 : Same1 f5 f9 h := fun z hz => by rw [hf9, va_up_ne _ _ hz]
  have hG : Gro L f tys h sz (L5, f9, t5) := hG.put (Or.inl rfl) hs10
  have p11 : f9 q1 = .inr (1, [.ref wkb, .int 0]) := (hs10 _ (Ne.symm ne_h_q1)).trans po5
  have p12 : mm_I t5 f9 wkb 144 (fun _ => 0) := pb5.eq (hs10 _ (Ne.symm ne_h_wkb))
  have p13 : f9 h = .inr (4, [.ref q1, .null, .null, .int 0, .int 0, .int 0, .int 0, .int 0, .int 0, .int 0, .int 0]) := by rw [hf9]; exact va_up_self _ _ _
  refine lv_aload_n hx hb dW_init_15 rfl (lv_at hl 0 rfl) ?_
  refine lv_bipush (v := nI 6) hx hb dW_init_16 (by decide) ?_
  refine mg_newq (C := "LiquidChecker$Known") hx hb hown (hg _ gw35) (hAo _ (by decide +kernel)) hK hP hn hA hS hA0 (by decide +kernel) (nI_clamp (by omega)) (by decide) (Nat.le_of_ble_eq_true rfl) (Nat.le_of_ble_eq_true rfl) dW_init_18 (fun q14 cq14 H hqq14 hAq14 hK hP hS => ?_)
  have ne_q1_q14 : q1 ≠ q14 := fun e => hqq14 (e ▸ i8)
  have ne_wkb_q14 : wkb ≠ q14 := fun e => hqq14 (e ▸ y15)
  have ne_h_q14 : h ≠ q14 := fun e => hqq14 (e ▸ i6)
  obtain ⟨L15, eL15⟩ : ∃ z, z = L5 ++ [q14] := ⟨_, rfl⟩
  obtain ⟨f15, ef15⟩ : ∃ z, z = va_up f9 q14 (.inl (cq14, 6, .inr (.inr (.inr (.inr (fun _ => none)))))) := ⟨_, rfl⟩
  rw [← eL15, ← ef15] at hP
  obtain ⟨t15, et15⟩ : ∃ z, z = t5 ++ [(cq14, .object "LiquidChecker$Known")] := ⟨_, rfl⟩
  rw [← et15] at hK
  have hy15 : ∀ z ∈ t5, z ∈ t15 := fun z hz => by rw [et15]; exact List.mem_append_left _ hz
  have hi15 : ∀ z ∈ L5, z ∈ L15 := fun z hz => by rw [eL15]; exact List.mem_append_left _ hz
  have he15 : ∀ z ∈ L5, f15 z = f9 z := fun z hz => by rw [ef15]; exact va_up_ne _ _ (fun e => hqq14 (e ▸ hz))
  have hG : Gro L f tys h sz (L15, f15, t15) := by rw [eL15, ef15, et15]; exact (hG.new hqq14 (w9 hAq14)).ty
  have hn : L15.Nodup := hG.1
  have hA : ∀ a ∈ L15, (gA L sz) a := fun a ha => by rw [eL15] at ha; rcases List.mem_append.mp ha with h9 | h9; exact hA a h9; rw [List.mem_singleton.mp h9]; exact hAq14
  have i16 : q1 ∈ L15 := hi15 _ i8
  have p17 : f15 q1 = .inr (1, [.ref wkb, .int 0]) := (he15 _ i8).trans p11
  have i18 : wkb ∈ L15 := hi15 _ y15
  have p19 : mm_I t15 f15 wkb 144 (fun _ => 0) := (p12.eq (he15 _ y15)).more hy15
  have i20 : h ∈ L15 := hi15 _ i6
  have p21 : f15 h = .inr (4, [.ref q1, .null, .null, .int 0, .int 0, .int 0, .int 0, .int 0, .int 0, .int 0, .int 0]) := (he15 _ i6).trans p13
  have iqq14 : q14 ∈ L15 := by rw [eL15]; exact List.mem_append_right _ (List.mem_singleton.mpr rfl)
  have nqq14 : q14 ∉ L := n9 hG0 hqq14
  have hG0 : ∀ a ∈ L, a ∈ L15 := fun a ha => (hG.2.2.1 a ha).1
  have pqq14 : mm_Q t15 "LiquidChecker$Known" f15 q14 6 (fun _ => none) := ⟨cq14, by rw [ef15]; exact va_up_self _ _ _, by rw [et15]; exact List.mem_append_right _ (List.mem_singleton.mpr rfl)⟩
  refine mg_putF (v := .ref q14) (ty := .array (.object "LiquidChecker$Known")) hx hb hg inW tyW tyW_ok nmW hown hK hn hA hP hS i20 p21 rfl 1 (by decide) (hg _ gw53) (fun _ h9 => h9) rfl hnm9 rfl (by decide +kernel) rfl rfl (Nat.le_of_ble_eq_true rfl) dW_init_21 (fun H locs hP hS => ?_)
  obtain ⟨f22, hf22⟩ : ∃ z, z = va_up f15 h (.inr (4, [.ref q1, .ref q14, .null, .int 0, .int 0, .int 0, .int 0, .int 0, .int 0, .int 0, .int 0])) := ⟨_, rfl⟩
  have hP : va_P D zCl (va_pl L15 f22) H := by rw [hf22]; exact hP
  have hs23 : Same1 f15 f22 h := fun z hz => by rw [hf22, va_up_ne _ _ hz]
  have hG : Gro L f tys h sz (L15, f22, t15) := hG.put (Or.inl rfl) hs23
  have p24 : f22 q1 = .inr (1, [.ref wkb, .int 0]) := (hs23 _ (Ne.symm ne_h_q1)).trans p17
  have p25 : mm_I t15 f22 wkb 144 (fun _ => 0) := p19.eq (hs23 _ (Ne.symm ne_h_wkb))
  have p26 : mm_Q t15 "LiquidChecker$Known" f22 q14 6 (fun _ => none) := pqq14.eq (hs23 _ (Ne.symm ne_h_q14))
  have p27 : f22 h = .inr (4, [.ref q1, .ref q14, .null, .int 0, .int 0, .int 0, .int 0, .int 0, .int 0, .int 0, .int 0]) := by rw [hf22]; exact va_up_self _ _ _
  refine lv_aload_n hx hb dW_init_24 rfl (lv_at hl 0 rfl) ?_
  refine lv_bipush (v := nI 6) hx hb dW_init_25 (by decide) ?_
  refine mg_newa (atype := .int) (a0 := (6, .inl (fun _ => 0))) (ty := .int) hx hb (hg _ gw50) rfl hK hP hn hA hS hA0 (fun _ => rfl) (by decide +kernel) (nI_clamp (by omega)) (by decide) (Nat.le_of_ble_eq_true rfl) (Nat.le_of_ble_eq_true rfl) dW_init_27 (fun q28 cq28 H hqq28 hAq28 hK hP hS => ?_)
  have ne_q1_q28 : q1 ≠ q28 := fun e => hqq28 (e ▸ i16)
  have ne_wkb_q28 : wkb ≠ q28 := fun e => hqq28 (e ▸ i18)
  have ne_q14_q28 : q14 ≠ q28 := fun e => hqq28 (e ▸ iqq14)
  have ne_h_q28 : h ≠ q28 := fun e => hqq28 (e ▸ i20)
  obtain ⟨L29, eL29⟩ : ∃ z, z = L15 ++ [q28] := ⟨_, rfl⟩
  obtain ⟨f29, ef29⟩ : ∃ z, z = va_up f22 q28 (.inl (cq28, 6, .inl (fun _ => 0))) := ⟨_, rfl⟩
  rw [← eL29, ← ef29] at hP
  obtain ⟨t29, et29⟩ : ∃ z, z = t15 ++ [(cq28, .int)] := ⟨_, rfl⟩
  rw [← et29] at hK
  have hy29 : ∀ z ∈ t15, z ∈ t29 := fun z hz => by rw [et29]; exact List.mem_append_left _ hz
  have hi29 : ∀ z ∈ L15, z ∈ L29 := fun z hz => by rw [eL29]; exact List.mem_append_left _ hz
  have he29 : ∀ z ∈ L15, f29 z = f22 z := fun z hz => by rw [ef29]; exact va_up_ne _ _ (fun e => hqq28 (e ▸ hz))
  have hG : Gro L f tys h sz (L29, f29, t29) := by rw [eL29, ef29, et29]; exact (hG.new hqq28 (w9 hAq28)).ty
  have hn : L29.Nodup := hG.1
  have hA : ∀ a ∈ L29, (gA L sz) a := fun a ha => by rw [eL29] at ha; rcases List.mem_append.mp ha with h9 | h9; exact hA a h9; rw [List.mem_singleton.mp h9]; exact hAq28
  have i30 : q1 ∈ L29 := hi29 _ i16
  have p31 : f29 q1 = .inr (1, [.ref wkb, .int 0]) := (he29 _ i16).trans p24
  have i32 : wkb ∈ L29 := hi29 _ i18
  have p33 : mm_I t29 f29 wkb 144 (fun _ => 0) := (p25.eq (he29 _ i18)).more hy29
  have i34 : q14 ∈ L29 := hi29 _ iqq14
  have p35 : mm_Q t29 "LiquidChecker$Known" f29 q14 6 (fun _ => none) := (p26.eq (he29 _ iqq14)).more hy29
  have i36 : h ∈ L29 := hi29 _ i20
  have p37 : f29 h = .inr (4, [.ref q1, .ref q14, .null, .int 0, .int 0, .int 0, .int 0, .int 0, .int 0, .int 0, .int 0]) := (he29 _ i20).trans p27
  have iqq28 : q28 ∈ L29 := by rw [eL29]; exact List.mem_append_right _ (List.mem_singleton.mpr rfl)
  have nqq28 : q28 ∉ L := n9 hG0 hqq28
  have hG0 : ∀ a ∈ L, a ∈ L29 := fun a ha => (hG.2.2.1 a ha).1
  have pqq28 : mm_I t29 f29 q28 6 (fun _ => 0) := ⟨cq28, by rw [ef29]; exact va_up_self _ _ _, by rw [et29]; exact List.mem_append_right _ (List.mem_singleton.mpr rfl)⟩
  refine mg_putF (v := .ref q28) (ty := .array .int) hx hb hg inW tyW tyW_ok nmW hown hK hn hA hP hS i36 p37 rfl 2 (by decide) (hg _ gw54) (fun _ h9 => h9) rfl hnm9 rfl (by decide +kernel) rfl rfl (Nat.le_of_ble_eq_true rfl) dW_init_29 (fun H locs hP hS => ?_)
  obtain ⟨f38, hf38⟩ : ∃ z, z = va_up f29 h (.inr (4, [.ref q1, .ref q14, .ref q28, .int 0, .int 0, .int 0, .int 0, .int 0, .int 0, .int 0, .int 0])) := ⟨_, rfl⟩
  have hP : va_P D zCl (va_pl L29 f38) H := by rw [hf38]; exact hP
  have hs39 : Same1 f29 f38 h := fun z hz => by rw [hf38, va_up_ne _ _ hz]
  have hG : Gro L f tys h sz (L29, f38, t29) := hG.put (Or.inl rfl) hs39
  have p40 : f38 q1 = .inr (1, [.ref wkb, .int 0]) := (hs39 _ (Ne.symm ne_h_q1)).trans p31
  have p41 : mm_I t29 f38 wkb 144 (fun _ => 0) := p33.eq (hs39 _ (Ne.symm ne_h_wkb))
  have p42 : mm_Q t29 "LiquidChecker$Known" f38 q14 6 (fun _ => none) := p35.eq (hs39 _ (Ne.symm ne_h_q14))
  have p43 : mm_I t29 f38 q28 6 (fun _ => 0) := pqq28.eq (hs39 _ (Ne.symm ne_h_q28))
  have p44 : f38 h = .inr (4, [.ref q1, .ref q14, .ref q28, .int 0, .int 0, .int 0, .int 0, .int 0, .int 0, .int 0, .int 0]) := by rw [hf38]; exact va_up_self _ _ _
  refine lv_iconst (v := nI 0) hx hb dW_init_32 (by decide) ?_
  refine lv_istore_n (lv' := [(1, .int (nI 0)), (0, .ref h)]) hx hb dW_init_33 rfl hl (by decide) rfl (fun ls hl => ?_)
  refine n_W_loop (wk := q1) (wa := q14) (wp := q28) C0 hsz hA0 i36 p44 i34 (fun e => nqq14 (e ▸ hh)) hG0 6 0 _ _ _ _ (fun _ => 0) (fun _ => 0) (by omega) (Gro.rfl2 hn) hA p42 ⟨fun j hj => by omega, fun j k hj => by omega⟩ H _ ls hK hP hS (lv_sub hl [0, 1] rfl) (fun Lk fk tk g wq wqb H locs ls hG2 hA hQ hinv hK hP hS hl => ?_)
  have hP := mq_swap (g' := fun j => some (wq j)) hG2.1 hP ((hG2.2.2.1 _ i34).1) hQ (fun j hj => (hinv.1 j hj).1)
  have hQ2 : mm_Q tk "LiquidChecker$Known" (mm_sq fk q14 (fun j => some (wq j))) q14 6 (fun j => some (wq j)) := hQ.set
  have hs9 : Same1 fk (mm_sq fk q14 (fun j => some (wq j))) q14 := fun z hz => mm_sq_ne hz
  have hG2 := hG2.put (Or.inl rfl) hs9
  obtain ⟨f9, ef9⟩ : ∃ z, z = mm_sq fk q14 (fun j => some (wq j)) := ⟨_, rfl⟩
  rw [← ef9] at hP hQ2 hG2 hs9
  have kp : ∀ z ∈ L29, z ≠ q14 → f9 z = f38 z := fun z hz => (hG2.2.2.1 z hz).2
  have kl : ∀ z ∈ L29, z ∈ Lk := fun z hz => (hG2.2.2.1 z hz).1
  have kt : ∀ z ∈ t29, z ∈ tk := hG2.2.2.2
  have hGe : Gro L f tys h sz (Lk, f9, tk) := hG.call nqq14 (Nat.le_refl _) hG2
  refine ret_g C0 hK hP hS ⟨hGe, q1, wkb, q14, q28, wq, wqb, (kp _ i36 ne_h_q14).trans p44, ⟨(kp _ i30 ne_q1_q14).trans p40, (p41.eq (kp _ i32 ne_wkb_q14)).more kt⟩, hQ2, (p43.eq (kp _ iqq28 (Ne.symm ne_q14_q28))).more kt, fun j hj => ⟨(hs9 _ (fun e => absurd (e ▸ (hinv.1 j hj).2.2.2.1) (mm_Qno hQ))).trans (hinv.1 j hj).2.2.2.1, (hinv.1 j hj).2.2.2.2.eq (hs9 _ (mm_IQ (hinv.1 j hj).2.2.2.2 hQ))⟩, ?_, fun j hj => ⟨⟨(hinv.1 j hj).2.1.1, n9 hG0 (hinv.1 j hj).2.1.2⟩, ⟨(hinv.1 j hj).2.2.1.1, n9 hG0 (hinv.1 j hj).2.2.1.2⟩⟩, fun j hj => ⟨fun e => (hinv.1 j hj).2.1.2 (e ▸ i30), fun e => (hinv.1 j hj).2.2.1.2 (e ▸ i32)⟩, hinv.2⟩ dW_init_59
  intro x hx
  simp only [List.mem_cons, List.not_mem_nil, or_false] at hx
  rcases hx with rfl | rfl | rfl | rfl
  · exact ⟨kl _ i30, nqq1⟩
  · exact ⟨kl _ i32, nqwkb⟩
  · exact ⟨kl _ i34, nqq14⟩
  · exact ⟨kl _ iqq28, nqq28⟩
def FnsNew (t : List (ClassId × FieldType)) (L : List Nat) (f : Nat → va_E) (L1 : List Nat) (i : Nat) (fn dr pr sA oA a0 b0 k0 a1 b1 k1 : Nat → Nat) (sq : Nat → Nat → Nat) (Lb : Nat → List Nat) : Prop :=
  (∀ j, j < i → (fn j ∈ L ∧ fn j ∉ Lb j) ∧ (∀ a ∈ L1, a ∈ Lb j) ∧ FnNew t L f (Lb j) (fn j) (dr j) (pr j) (sA j) (oA j) (a0 j) (b0 j) (k0 j) (a1 j) (b1 j) (k1 j) (sq j)) ∧ ∀ j k, j < k → k < i → fn j ∈ Lb k ∧ (∀ x ∈ FnAd (dr j) (pr j) (sA j) (oA j) (a0 j) (b0 j) (k0 j) (a1 j) (b1 j) (k1 j), x ∈ Lb k) ∧ ∀ a, a < 16 → sq j a ∈ Lb k
set_option maxRecDepth 100000 in
set_option maxHeartbeats 4000000 in
theorem n_C_loop {pgm : Program} {l : Launch} {e : Env} {s : State} {m : MethodId} {args : Array Value} {below : List Frame} {meth : Method} {cd : Code} {D : va_G} {Q : State → Prop} {L0 L1 : List Nat} {f1 : Nat → va_E} {t1 : List (ClassId × FieldType)} {sz h : Nat} {fa ww kk : Nat} (C0 : Ci pgm s m args meth cd cC_init 2 "LiquidChecker") (hsz : s.heap.size = sz) (hA0 : ∀ q, s.heap.size ≤ q → gA L0 sz q) (hh1 : h ∈ L1) (h1 : f1 h = .inr (5, [.ref fa, .ref ww, .ref kk])) (hs1 : fa ∈ L1) (hne1 : h ≠ fa) (hL01 : ∀ a ∈ L0, a ∈ L1) : ∀ (n i : Nat) (Lk : List Nat) (fk : Nat → va_E) (tk : List (ClassId × FieldType)) (g : Nat → Option Nat) (fn dr pr sA oA a0 b0 k0 a1 b1 k1 : Nat → Nat) (sq : Nat → Nat → Nat) (Lb : Nat → List Nat), i + n = 4 → Gro L1 f1 t1 fa sz (Lk, fk, tk) → (∀ a ∈ Lk, gA L0 sz a) → mm_Q tk "LiquidChecker$Function" fk fa 4 g → (∀ j, j < i → g j = some (fn j)) ∧ FnsNew tk Lk fk L1 i fn dr pr sA oA a0 b0 k0 a1 b1 k1 sq Lb → ∀ (H : Heap) (locs : List Loc) (ls : Array Slot), va_K D zCl tk s → va_P D zCl (va_pl Lk fk) H → va_S (gA L0 sz) s.heap H locs → lv_has ls 2 [(1, .int (nI i)), (0, .ref h)] → (∀ (Lk : List Nat) (fk : Nat → va_E) (tk : List (ClassId × FieldType)) (g : Nat → Option Nat) (fn dr pr sA oA a0 b0 k0 a1 b1 k1 : Nat → Nat) (sq : Nat → Nat → Nat) (Lb : Nat → List Nat) (H : Heap) (locs : List Loc) (ls : Array Slot), Gro L1 f1 t1 fa sz (Lk, fk, tk) → (∀ a ∈ Lk, gA L0 sz a) → mm_Q tk "LiquidChecker$Function" fk fa 4 g → (∀ j, j < 4 → g j = some (fn j)) ∧ FnsNew tk Lk fk L1 4 fn dr pr sA oA a0 b0 k0 a1 b1 k1 sq Lb → va_K D zCl tk s → va_P D zCl (va_pl Lk fk) H → va_S (gA L0 sz) s.heap H locs → lv_has ls 2 [(1, .int (nI 4)), (0, .ref h)] → W pgm l e ({ frames := 3, cells := 128, slots := 1827, locals := 55 } : Room) s m args below meth cd H locs (20 + 27 * 4) (1195 + 158 * 4) Q (F0 m 60 ls [])) → W pgm l e ({ frames := 3, cells := 128, slots := 1827, locals := 55 } : Room) s m args below meth cd H locs (20 + 27 * i) (1195 + 158 * i) Q (F0 m 36 ls []) := by
  obtain ⟨hx, hb, hml, hown, hg, hr, hlocks, hnm9, hN, hAo⟩ := id C0
  have w9 : ∀ {q : Nat}, gA L0 sz q → gA L1 sz q := fun h9 => h9.elim (fun h8 => Or.inl (hL01 _ h8)) Or.inr
  intro n
  induction n with
  | zero =>
    intro i Lk fk tk g fn dr pr sA oA a0 b0 k0 a1 b1 k1 sq Lb hi hG hA hQ hinv H locs ls hK hP hS hl hx2
    obtain rfl : i = 4 := by omega
    refine lv_iload_n hx hb dC_init_36 rfl (lv_at hl 0 rfl) ?_
    refine lv_iconst (v := nI 4) hx hb dC_init_37 (by decide) ?_
    refine lv_icmp_ge (tgt := 60) hx hb dC_init_38 (by decide) (fun c38 => ?_) (fun c38 => absurd (nI_le (by omega) (by omega)) c38)
    exact hx2 Lk fk tk g fn dr pr sA oA a0 b0 k0 a1 b1 k1 sq Lb H locs ls hG hA hQ hinv hK hP hS (lv_sub hl [0, 1] rfl)
  | succ n ih =>
    intro i Lk fk tk g fn dr pr sA oA a0 b0 k0 a1 b1 k1 sq Lb hi hG hA hQ hinv H locs ls hK hP hS hl hx2
    have hn : Lk.Nodup := hG.1
    have hG0 : ∀ a ∈ L1, a ∈ Lk := fun a ha => (hG.2.2.1 a ha).1
    have hG0k : ∀ a ∈ L1, a ∈ Lk := hG0
    have ih0 : h ∈ Lk := hG0 _ hh1
    have ins : fa ∈ Lk := hG0 _ hs1
    have hsn : h ≠ fa := hne1
    have p0 : fk h = .inr (5, [.ref fa, .ref ww, .ref kk]) := ((hG.2.2.1 h hh1).2 hsn).trans h1
    refine lv_iload_n hx hb dC_init_36 rfl (lv_at hl 0 rfl) ?_
    refine lv_iconst (v := nI 4) hx hb dC_init_37 (by decide) ?_
    refine lv_icmp_ge (tgt := 60) hx hb dC_init_38 (by decide) (fun c38 => absurd c38 (nI_ge (show i < 4 by omega) (by omega))) (fun c38 => ?_)
    refine lv_aload_n hx hb dC_init_41 rfl (lv_at hl 1 rfl) ?_
    refine mm_get (v := .ref fa) hx hb hg inC hown hK hP ih0 p0 rfl 0 (by decide) (hg _ gw183) (fun _ h9 => h9) rfl dC_init_42 ?_
    refine lv_iload_n hx hb dC_init_45 rfl (lv_at hl 0 rfl) ?_
    refine mg_new (ci := 0) (fs := [.null, .null, .null, .null, .int 0, .int 0, .int 0, .int 0]) hx hb hg inF tyF tyF_ok hown (hg _ gw27) (hg _ gw91) (hg _ gw4) hK hP hn hA hS hA0 rfl (fun j hj => by rcases (show j = 0 ∨ j = 1 ∨ j = 2 ∨ j = 3 ∨ j = 4 ∨ j = 5 ∨ j = 6 ∨ j = 7 by omega) with rfl | rfl | rfl | rfl | rfl | rfl | rfl | rfl <;> rfl) (show _ ≤ 128 by omega) (show _ ≤ 1827 by omega) dC_init_46 (fun q1 H hqq1 hAq1 hP hS => ?_)
    have ne_h_q1 : h ≠ q1 := fun e => hqq1 (e ▸ ih0)
    have ne_fa_q1 : fa ≠ q1 := fun e => hqq1 (e ▸ ins)
    obtain ⟨L2, eL2⟩ : ∃ z, z = Lk ++ [q1] := ⟨_, rfl⟩
    obtain ⟨f2, ef2⟩ : ∃ z, z = va_up fk q1 (.inr (0, [.null, .null, .null, .null, .int 0, .int 0, .int 0, .int 0])) := ⟨_, rfl⟩
    rw [← eL2, ← ef2] at hP
    have hi2 : ∀ z ∈ Lk, z ∈ L2 := fun z hz => by rw [eL2]; exact List.mem_append_left _ hz
    have he2 : ∀ z ∈ Lk, f2 z = fk z := fun z hz => by rw [ef2]; exact va_up_ne _ _ (fun e => hqq1 (e ▸ hz))
    have hG : Gro L1 f1 t1 fa sz (L2, f2, tk) := by rw [eL2, ef2]; exact hG.new hqq1 (w9 hAq1)
    have hn : L2.Nodup := hG.1
    have hA : ∀ a ∈ L2, (gA L0 sz) a := fun a ha => by rw [eL2] at ha; rcases List.mem_append.mp ha with h9 | h9; exact hA a h9; rw [List.mem_singleton.mp h9]; exact hAq1
    have i3 : h ∈ L2 := hi2 _ ih0
    have p4 : f2 h = .inr (5, [.ref fa, .ref ww, .ref kk]) := (he2 _ ih0).trans p0
    have i5 : fa ∈ L2 := hi2 _ ins
    have p6 : mm_Q tk "LiquidChecker$Function" f2 fa 4 g := (hQ.eq (he2 _ ins))
    have iqq1 : q1 ∈ L2 := by rw [eL2]; exact List.mem_append_right _ (List.mem_singleton.mpr rfl)
    have nqq1 : q1 ∉ L1 := n9 hG0 hqq1
    have hG0 : ∀ a ∈ L1, a ∈ L2 := fun a ha => (hG.2.2.1 a ha).1
    have pqq1 : f2 q1 = .inr (0, [.null, .null, .null, .null, .int 0, .int 0, .int 0, .int 0]) := by rw [ef2]; exact va_up_self _ _ _
    refine lv_dup hx hb dC_init_49 rfl ?_
    have hz7 : sz ≤ H.size := by rw [← hsz]; exact hS.1
    refine then_g (run_IN (rest := [.ref q1, .int (nI i), .ref fa]) C0 hK (n_F_init hn iqq1 pqq1) gw94 nx92 gw93 gw4 rfl (by decide +kernel) ⟨Nat.le_of_ble_eq_true rfl, Nat.le_of_ble_eq_true rfl⟩ rfl rfl ⟨show _ ≤ 128 by omega, show _ ≤ 1827 by omega⟩ hP hl.1 rfl (Nat.le_of_ble_eq_true rfl) dC_init_50) hS hA hA0 (fun u7 H locs hu7 hzz7 hP hK hS => ?_)
    obtain ⟨L7, f7, t7⟩ := u7
    obtain ⟨hg7, hpo7⟩ := hu7
    have hP : va_P D zCl (va_pl L7 f7) H := hP
    have hK : va_K D zCl t7 s := hK
    have hG : Gro L1 f1 t1 fa sz (L7, f7, t7) := hG.call nqq1 hz7 hg7
    have hG0o7 := hG0
    have hn : L7.Nodup := hG.1
    have hi7 : ∀ z ∈ L2, z ∈ L7 := fun z hz => (hg7.2.2.1 z hz).1
    have he7 : ∀ z ∈ L2, z ≠ q1 → f7 z = f2 z := fun z hz => (hg7.2.2.1 z hz).2
    have hy7 : ∀ z ∈ tk, z ∈ t7 := hg7.2.2.2
    have hA : ∀ a ∈ L7, (gA L0 sz) a := fun a ha => (hg7.2.1 a ha).elim (hA a) (fun h9 => hA0 a (by rw [hsz]; exact Nat.le_trans hz7 h9))
    have hG0 : ∀ a ∈ L1, a ∈ L7 := fun a ha => (hG.2.2.1 a ha).1
    have i8 : h ∈ L7 := hi7 _ i3
    have p9 : f7 h = .inr (5, [.ref fa, .ref ww, .ref kk]) := (he7 _ i3 ne_h_q1).trans p4
    have i10 : fa ∈ L7 := hi7 _ i5
    have p11 : mm_Q t7 "LiquidChecker$Function" f7 fa 4 g := (p6.eq (he7 _ i5 ne_fa_q1)).more hy7
    have i12 : q1 ∈ L7 := hi7 _ iqq1
    obtain ⟨dq, pq, sAq, oAq, a0q, b0q, k0q, a1q, b1q, k1q, sqq, hN7⟩ := hpo7
    have hN7 : FnNew t7 L7 f7 L2 q1 dq pq sAq oAq a0q b0q k0q a1q b1q k1q sqq := hN7
    have po7 : f7 q1 = .inr (0, [.ref dq, .ref pq, .ref sAq, .ref oAq, .int 0, .int 0, .int 0, .int 0]) := hN7.1
    refine mg_astq (C := "") hx hb hK hn hA hP hS i10 (r := (RF, TF, 8)) p11 i12 po7 rfl (vp_in_nI (show i < 4 by omega) (by omega)) dC_init_53 (fun H locs hP hS => ?_)
    rw [nI_clamp (by omega)] at hP
    obtain ⟨f13, hf13⟩ : ∃ z, z = mm_sq f7 fa (va_up g i (some q1)) := ⟨_, rfl⟩
    have hP : va_P D zCl (va_pl L7 f13) H := by rw [hf13]; exact hP
    have hs14 : Same1 f7 f13 fa := fun z hz => by rw [hf13, mm_sq_ne hz]
    have hG : Gro L1 f1 t1 fa sz (L7, f13, t7) := hG.put (Or.inl rfl) hs14
    have p15 : f13 h = .inr (5, [.ref fa, .ref ww, .ref kk]) := (hs14 _ hsn).trans p9
    have p16 : f13 q1 = .inr (0, [.ref dq, .ref pq, .ref sAq, .ref oAq, .int 0, .int 0, .int 0, .int 0]) := (hs14 _ (Ne.symm ne_fa_q1)).trans po7
    have p17 : mm_Q t7 "LiquidChecker$Function" f13 fa 4 (va_up g i (some q1)) := by rw [hf13]; exact p11.set
    refine lv_iinc (v := nI (i + 1)) (lv' := [(1, .int (nI (i + 1))), (0, .ref h)]) hx hb dC_init_54 hl (k := 0) rfl (nI_add i 1) (by decide) rfl (fun ls hl => ?_)
    refine lv_goto (tgt := 36) hx hb dC_init_57 (by decide) ?_
    have keep : ∀ z ∈ Lk, z ≠ fa → f13 z = fk z := fun z hz hne => by rw [hs14 z hne, he7 z (hi2 z hz) (fun e => hqq1 (e ▸ hz)), he2 z hz]
    have keepL : ∀ z ∈ Lk, z ∈ L7 := fun z hz => hi7 z (hi2 z hz)
    have keepT : ∀ z ∈ tk, z ∈ t7 := fun z hz => hy7 z hz
    refine W.widen (k := 20 + 27 * (i + 1)) (n := 1195 + 158 * (i + 1)) (by omega) (by omega) ?_
    refine ih (i + 1) L7 f13 t7 _ (va_up fn i q1) (va_up dr i dq) (va_up pr i pq) (va_up sA i sAq) (va_up oA i oAq) (va_up a0 i a0q) (va_up b0 i b0q) (va_up k0 i k0q) (va_up a1 i a1q) (va_up b1 i b1q) (va_up k1 i k1q) (va_up sq i sqq) (va_up Lb i Lk) (by omega) hG hA p17 ?_ H locs ls hK hP hS (lv_sub hl [0, 1] rfl) hx2
    have hu_fn : ∀ j, j < i → va_up fn i q1 j = fn j := fun j hj => va_up_ne _ _ (by omega)
    have hv_fn : va_up fn i q1 i = q1 := va_up_self _ _ _
    have hu_dr : ∀ j, j < i → va_up dr i dq j = dr j := fun j hj => va_up_ne _ _ (by omega)
    have hv_dr : va_up dr i dq i = dq := va_up_self _ _ _
    have hu_pr : ∀ j, j < i → va_up pr i pq j = pr j := fun j hj => va_up_ne _ _ (by omega)
    have hv_pr : va_up pr i pq i = pq := va_up_self _ _ _
    have hu_sA : ∀ j, j < i → va_up sA i sAq j = sA j := fun j hj => va_up_ne _ _ (by omega)
    have hv_sA : va_up sA i sAq i = sAq := va_up_self _ _ _
    have hu_oA : ∀ j, j < i → va_up oA i oAq j = oA j := fun j hj => va_up_ne _ _ (by omega)
    have hv_oA : va_up oA i oAq i = oAq := va_up_self _ _ _
    have hu_a0 : ∀ j, j < i → va_up a0 i a0q j = a0 j := fun j hj => va_up_ne _ _ (by omega)
    have hv_a0 : va_up a0 i a0q i = a0q := va_up_self _ _ _
    have hu_b0 : ∀ j, j < i → va_up b0 i b0q j = b0 j := fun j hj => va_up_ne _ _ (by omega)
    have hv_b0 : va_up b0 i b0q i = b0q := va_up_self _ _ _
    have hu_k0 : ∀ j, j < i → va_up k0 i k0q j = k0 j := fun j hj => va_up_ne _ _ (by omega)
    have hv_k0 : va_up k0 i k0q i = k0q := va_up_self _ _ _
    have hu_a1 : ∀ j, j < i → va_up a1 i a1q j = a1 j := fun j hj => va_up_ne _ _ (by omega)
    have hv_a1 : va_up a1 i a1q i = a1q := va_up_self _ _ _
    have hu_b1 : ∀ j, j < i → va_up b1 i b1q j = b1 j := fun j hj => va_up_ne _ _ (by omega)
    have hv_b1 : va_up b1 i b1q i = b1q := va_up_self _ _ _
    have hu_k1 : ∀ j, j < i → va_up k1 i k1q j = k1 j := fun j hj => va_up_ne _ _ (by omega)
    have hv_k1 : va_up k1 i k1q i = k1q := va_up_self _ _ _
    have hu_sq : ∀ j, j < i → va_up sq i sqq j = sq j := fun j hj => va_up_ne _ _ (by omega)
    have hv_sq : va_up sq i sqq i = sqq := va_up_self _ _ _
    have hu_Lb : ∀ j, j < i → va_up Lb i Lk j = Lb j := fun j hj => va_up_ne _ _ (by omega)
    have hv_Lb : va_up Lb i Lk i = Lk := va_up_self _ _ _
    have hlt : ∀ j, j < i + 1 → j < i ∨ j = i := fun j hj => by omega
    have faL : fa ∈ L1 := hs1
    refine ⟨fun j hj => ?_, fun j hj => ?_, fun j k hjk hk => ?_⟩
    · rcases hlt j hj with h9 | rfl
      · rw [hu_fn j h9, va_up_ne _ _ (by omega)]; exact hinv.1 j h9
      · rw [hv_fn]; exact va_up_self _ _ _
    · rcases hlt j hj with h9 | rfl
      · obtain ⟨a1, a2, a3⟩ := hinv.2.1 j h9
        rw [hu_fn j h9, hu_dr j h9, hu_pr j h9, hu_sA j h9, hu_oA j h9, hu_a0 j h9, hu_b0 j h9, hu_k0 j h9, hu_a1 j h9, hu_b1 j h9, hu_k1 j h9, hu_sq j h9, hu_Lb j h9]
        exact ⟨⟨keepL _ a1.1, a1.2⟩, a2, a3.keep (keep _ a1.1 (fun e => a1.2 (e ▸ a2 _ faL))) keepL (fun z hz hzb => keep z hz (fun e => hzb (e ▸ a2 _ faL))) keepT⟩
      · rw [hv_fn, hv_dr, hv_pr, hv_sA, hv_oA, hv_a0, hv_b0, hv_k0, hv_a1, hv_b1, hv_k1, hv_sq, hv_Lb]
        refine ⟨⟨i12, hqq1⟩, hG0k, ?_⟩
        refine (hN7.less hi2).keep (hs14 _ (Ne.symm ne_fa_q1)) (fun z hz => hz) (fun z hz hzb => hs14 z (fun e => hzb (e ▸ ins))) (fun z hz => hz)
    · rcases hlt k hk with h9 | rfl
      · rw [hu_fn j (by omega), hu_dr j (by omega), hu_pr j (by omega), hu_sA j (by omega), hu_oA j (by omega), hu_a0 j (by omega), hu_b0 j (by omega), hu_k0 j (by omega), hu_a1 j (by omega), hu_b1 j (by omega), hu_k1 j (by omega), hu_sq j (by omega), hu_Lb k h9]; exact hinv.2.2 j k hjk h9
      · have h8 := (hinv.2.1 j hjk)
        rw [hu_fn j hjk, hu_dr j hjk, hu_pr j hjk, hu_sA j hjk, hu_oA j hjk, hu_a0 j hjk, hu_b0 j hjk, hu_k0 j hjk, hu_a1 j hjk, hu_b1 j hjk, hu_k1 j hjk, hu_sq j hjk, hv_Lb]
        exact ⟨h8.1.1, fun x hx => (h8.2.2.2.2.2.2.2.2.1 x hx).1, fun a ha => (h8.2.2.2.2.2.2.2.2.2.1 a ha).1⟩
set_option maxRecDepth 100000 in
set_option maxHeartbeats 4000000 in
theorem n_C_init {l : Launch} {D : va_G} {tys : List (ClassId × FieldType)} {L : List Nat} {f : Nat → va_E} {sz h : Nat} (hn : L.Nodup) (hh : h ∈ L) (h1 : f h = .inr (5, [.null, .null, .null])) : MetG l yC_init wC_init ({ frames := 3, cells := 128, slots := 1827, locals := 55 } : Room) D tys L f sz h (fun u => ∃ fa ww kk kkb wk wkb wa wp wq wqb fn dr pr sA oA a0 b0 k0 a1 b1 k1 sq Lb L1, u.2.1 h = .inr (5, [.ref fa, .ref ww, .ref kk]) ∧ (∀ x ∈ [fa, ww, kk, kkb, wk, wkb, wa, wp], x ∈ L1 ∧ x ∈ u.1) ∧ mm_Q u.2.2 "LiquidChecker$Function" u.2.1 fa 4 (fun j => some (fn j)) ∧ FnsNew u.2.2 u.1 u.2.1 L1 4 fn dr pr sA oA a0 b0 k0 a1 b1 k1 sq Lb ∧ WkNew u.2.2 u.1 u.2.1 L ww wk wkb wa wp wq wqb ∧ u.2.1 kk = .inr (1, [.ref kkb, .int 0]) ∧ mm_I u.2.2 u.2.1 kkb 144 (fun _ => 0) ∧ (wk ≠ kk ∧ wkb ≠ kkb) ∧ ∀ j, j < 6 → wq j ≠ kk ∧ wqb j ≠ kkb) 128 1827 := by
  refine metg_of "LiquidChecker" (by decide) rfl rfl (Nat.le_of_ble_eq_true rfl) ?_
  intro pgm e s m below meth cd ls C0 hsz hK hP hl
  obtain ⟨hx, hb, hml, hown, hg, hr, hlocks, hnm9, hN, hAo⟩ := id C0
  have hA : ∀ a ∈ L, gA L sz a := fun _ h => Or.inl h
  have hA0 : ∀ q, s.heap.size ≤ q → gA L sz q := fun q h9 => Or.inr (by rw [← hsz]; exact h9)
  have w9 : ∀ {q : Nat}, gA L sz q → gA L sz q := fun h9 => h9
  have hG : Gro L f tys h sz (L, f, tys) := Gro.rfl2 hn
  have hG0 : ∀ a ∈ L, a ∈ L := fun _ h9 => h9
  obtain ⟨H, hH⟩ : ∃ z, z = s.heap := ⟨_, rfl⟩
  have hP : va_P D zCl (va_pl L f) H := by rw [hH]; exact hP
  have hS : va_S (gA L sz) s.heap H [] := by rw [hH]; exact va_S.rf
  rw [← hH]
  have hl : lv_has ls 2 [(0, .ref h)] := hl
  refine lv_aload_n hx hb dC_init_0 rfl (lv_at hl 0 rfl) ?_
  refine W.objInit hx hb hown (hg _ gw24) (hg _ gw25) (hg _ gw26) rfl (hl.1.trans hml.symm) rfl dC_init_1 (Nat.le_of_ble_eq_true rfl) (Nat.le_of_ble_eq_true rfl) ?_
  refine lv_aload_n hx hb dC_init_4 rfl (lv_at hl 0 rfl) ?_
  refine lv_iconst (v := nI 4) hx hb dC_init_5 (by decide) ?_
  refine mg_newq (C := "LiquidChecker$Function") hx hb hown (hg _ gw27) (hAo _ (by decide +kernel)) hK hP hn hA hS hA0 (by decide +kernel) (nI_clamp (by omega)) (by decide) (Nat.le_of_ble_eq_true rfl) (Nat.le_of_ble_eq_true rfl) dC_init_6 (fun q1 cq1 H hqq1 hAq1 hK hP hS => ?_)
  have ne_h_q1 : h ≠ q1 := fun e => hqq1 (e ▸ hh)
  obtain ⟨L2, eL2⟩ : ∃ z, z = L ++ [q1] := ⟨_, rfl⟩
  obtain ⟨f2, ef2⟩ : ∃ z, z = va_up f q1 (.inl (cq1, 4, .inr (.inr (.inr (.inr (fun _ => none)))))) := ⟨_, rfl⟩
  rw [← eL2, ← ef2] at hP
  obtain ⟨t2, et2⟩ : ∃ z, z = tys ++ [(cq1, .object "LiquidChecker$Function")] := ⟨_, rfl⟩
  rw [← et2] at hK
  have hy2 : ∀ z ∈ tys, z ∈ t2 := fun z hz => by rw [et2]; exact List.mem_append_left _ hz
  have hi2 : ∀ z ∈ L, z ∈ L2 := fun z hz => by rw [eL2]; exact List.mem_append_left _ hz
  have he2 : ∀ z ∈ L, f2 z = f z := fun z hz => by rw [ef2]; exact va_up_ne _ _ (fun e => hqq1 (e ▸ hz))
  have hG : Gro L f tys h sz (L2, f2, t2) := by rw [eL2, ef2, et2]; exact (hG.new hqq1 (w9 hAq1)).ty
  have hn : L2.Nodup := hG.1
  have hA : ∀ a ∈ L2, (gA L sz) a := fun a ha => by rw [eL2] at ha; rcases List.mem_append.mp ha with h9 | h9; exact hA a h9; rw [List.mem_singleton.mp h9]; exact hAq1
  have i3 : h ∈ L2 := hi2 _ hh
  have p4 : f2 h = .inr (5, [.null, .null, .null]) := (he2 _ hh).trans h1
  have iqq1 : q1 ∈ L2 := by rw [eL2]; exact List.mem_append_right _ (List.mem_singleton.mpr rfl)
  have nqq1 : q1 ∉ L := n9 hG0 hqq1
  have hG0 : ∀ a ∈ L, a ∈ L2 := fun a ha => (hG.2.2.1 a ha).1
  have pqq1 : mm_Q t2 "LiquidChecker$Function" f2 q1 4 (fun _ => none) := ⟨cq1, by rw [ef2]; exact va_up_self _ _ _, by rw [et2]; exact List.mem_append_right _ (List.mem_singleton.mpr rfl)⟩
  refine mg_putF (v := .ref q1) (ty := .array (.object "LiquidChecker$Function")) hx hb hg inC tyC tyC_ok nmC hown hK hn hA hP hS i3 p4 rfl 0 (by decide) (hg _ gw183) (fun _ h9 => h9) rfl hnm9 rfl (by decide +kernel) rfl rfl (Nat.le_of_ble_eq_true rfl) dC_init_9 (fun H locs hP hS => ?_)
  obtain ⟨f5, hf5⟩ : ∃ z, z = va_up f2 h (.inr (5, [.ref q1, .null, .null])) := ⟨_, rfl⟩
  have hP : va_P D zCl (va_pl L2 f5) H := by rw [hf5]; exact hP
  have hs6 : Same1 f2 f5 h := fun z hz => by rw [hf5, va_up_ne _ _ hz]
  have hG : Gro L f tys h sz (L2, f5, t2) := hG.put (Or.inl rfl) hs6
  have p7 : mm_Q t2 "LiquidChecker$Function" f5 q1 4 (fun _ => none) := pqq1.eq (hs6 _ (Ne.symm ne_h_q1))
  have p8 : f5 h = .inr (5, [.ref q1, .null, .null]) := by rw [hf5]; exact va_up_self _ _ _
  refine lv_aload_n hx hb dC_init_12 rfl (lv_at hl 0 rfl) ?_
  refine mg_new (ci := 4) (fs := [.null, .null, .null, .int 0, .int 0, .int 0, .int 0, .int 0, .int 0, .int 0, .int 0]) hx hb hg inW tyW tyW_ok hown (hg _ gw29) (hg _ gw30) (hg _ gw2) hK hP hn hA hS hA0 rfl (fun j hj => by rcases (show j = 0 ∨ j = 1 ∨ j = 2 ∨ j = 3 ∨ j = 4 ∨ j = 5 ∨ j = 6 ∨ j = 7 ∨ j = 8 ∨ j = 9 ∨ j = 10 by omega) with rfl | rfl | rfl | rfl | rfl | rfl | rfl | rfl | rfl | rfl | rfl <;> rfl) (Nat.le_of_ble_eq_true rfl) (Nat.le_of_ble_eq_true rfl) dC_init_13 (fun q9 H hqq9 hAq9 hP hS => ?_)
  have ne_q1_q9 : q1 ≠ q9 := fun e => hqq9 (e ▸ iqq1)
  have ne_h_q9 : h ≠ q9 := fun e => hqq9 (e ▸ i3)
  obtain ⟨L10, eL10⟩ : ∃ z, z = L2 ++ [q9] := ⟨_, rfl⟩
  obtain ⟨f10, ef10⟩ : ∃ z, z = va_up f5 q9 (.inr (4, [.null, .null, .null, .int 0, .int 0, .int 0, .int 0, .int 0, .int 0, .int 0, .int 0])) := ⟨_, rfl⟩
  rw [← eL10, ← ef10] at hP
  have hi10 : ∀ z ∈ L2, z ∈ L10 := fun z hz => by rw [eL10]; exact List.mem_append_left _ hz
  have he10 : ∀ z ∈ L2, f10 z = f5 z := fun z hz => by rw [ef10]; exact va_up_ne _ _ (fun e => hqq9 (e ▸ hz))
  have hG : Gro L f tys h sz (L10, f10, t2) := by rw [eL10, ef10]; exact hG.new hqq9 (w9 hAq9)
  have hn : L10.Nodup := hG.1
  have hA : ∀ a ∈ L10, (gA L sz) a := fun a ha => by rw [eL10] at ha; rcases List.mem_append.mp ha with h9 | h9; exact hA a h9; rw [List.mem_singleton.mp h9]; exact hAq9
  have i11 : q1 ∈ L10 := hi10 _ iqq1
  have p12 : mm_Q t2 "LiquidChecker$Function" f10 q1 4 (fun _ => none) := (p7.eq (he10 _ iqq1))
  have i13 : h ∈ L10 := hi10 _ i3
  have p14 : f10 h = .inr (5, [.ref q1, .null, .null]) := (he10 _ i3).trans p8
  have iqq9 : q9 ∈ L10 := by rw [eL10]; exact List.mem_append_right _ (List.mem_singleton.mpr rfl)
  have nqq9 : q9 ∉ L := n9 hG0 hqq9
  have hG0 : ∀ a ∈ L, a ∈ L10 := fun a ha => (hG.2.2.1 a ha).1
  have pqq9 : f10 q9 = .inr (4, [.null, .null, .null, .int 0, .int 0, .int 0, .int 0, .int 0, .int 0, .int 0, .int 0]) := by rw [ef10]; exact va_up_self _ _ _
  refine lv_dup hx hb dC_init_16 rfl ?_
  have hz15 : sz ≤ H.size := by rw [← hsz]; exact hS.1
  refine then_g (run_IN (rest := [.ref q9, .ref h]) C0 hK (n_W_init hn iqq9 pqq9) gw33 nx31 gw32 gw2 rfl (by decide +kernel) ⟨Nat.le_of_ble_eq_true rfl, Nat.le_of_ble_eq_true rfl⟩ rfl rfl ⟨Nat.le_of_ble_eq_true rfl, Nat.le_of_ble_eq_true rfl⟩ hP hl.1 rfl (Nat.le_of_ble_eq_true rfl) dC_init_17) hS hA hA0 (fun u15 H locs hu15 hzz15 hP hK hS => ?_)
  obtain ⟨L15, f15, t15⟩ := u15
  obtain ⟨hg15, hpo15⟩ := hu15
  have hP : va_P D zCl (va_pl L15 f15) H := hP
  have hK : va_K D zCl t15 s := hK
  have hG : Gro L f tys h sz (L15, f15, t15) := hG.call nqq9 hz15 hg15
  have hG0o15 := hG0
  have hn : L15.Nodup := hG.1
  have hi15 : ∀ z ∈ L10, z ∈ L15 := fun z hz => (hg15.2.2.1 z hz).1
  have he15 : ∀ z ∈ L10, z ≠ q9 → f15 z = f10 z := fun z hz => (hg15.2.2.1 z hz).2
  have hy15 : ∀ z ∈ t2, z ∈ t15 := hg15.2.2.2
  have hA : ∀ a ∈ L15, (gA L sz) a := fun a ha => (hg15.2.1 a ha).elim (hA a) (fun h9 => hA0 a (by rw [hsz]; exact Nat.le_trans hz15 h9))
  have hG0 : ∀ a ∈ L, a ∈ L15 := fun a ha => (hG.2.2.1 a ha).1
  have i16 : q1 ∈ L15 := hi15 _ i11
  have p17 : mm_Q t15 "LiquidChecker$Function" f15 q1 4 (fun _ => none) := (p12.eq (he15 _ i11 ne_q1_q9)).more hy15
  have i18 : h ∈ L15 := hi15 _ i13
  have p19 : f15 h = .inr (5, [.ref q1, .null, .null]) := (he15 _ i13 ne_h_q9).trans p14
  have i20 : q9 ∈ L15 := hi15 _ iqq9
  obtain ⟨wk, wkb, wa, wp, wq, wqb, hN15⟩ := hpo15
  have hNW : WkNew t15 L15 f15 L q9 wk wkb wa wp wq wqb := hN15.less hG0o15
  have hNWo : ∀ x ∈ [wk, wkb, wa, wp], x ∉ L10 := fun x hx => (hN15.2.2.2.2.2.1 x hx).2
  have hNWq : ∀ j, j < 6 → wq j ∉ L10 ∧ wqb j ∉ L10 := fun j hj => ⟨(hN15.2.2.2.2.2.2.1 j hj).1.2, (hN15.2.2.2.2.2.2.1 j hj).2.2⟩
  have po15 : f15 q9 = .inr (4, [.ref wk, .ref wa, .ref wp, .int 0, .int 0, .int 0, .int 0, .int 0, .int 0, .int 0, .int 0]) := hNW.1
  refine mg_putF (v := .ref q9) (ty := .object "LiquidChecker$Walk") hx hb hg inC tyC tyC_ok nmC hown hK hn hA hP hS i18 p19 rfl 1 (by decide) (hg _ gw184) (fun _ h9 => h9) rfl hnm9 rfl (by decide +kernel) rfl rfl (Nat.le_of_ble_eq_true rfl) dC_init_20 (fun H locs hP hS => ?_)
  obtain ⟨f21, hf21⟩ : ∃ z, z = va_up f15 h (.inr (5, [.ref q1, .ref q9, .null])) := ⟨_, rfl⟩
  have hP : va_P D zCl (va_pl L15 f21) H := by rw [hf21]; exact hP
  have hs22 : Same1 f15 f21 h := fun z hz => by rw [hf21, va_up_ne _ _ hz]
  have hG : Gro L f tys h sz (L15, f21, t15) := hG.put (Or.inl rfl) hs22
  have p23 : mm_Q t15 "LiquidChecker$Function" f21 q1 4 (fun _ => none) := p17.eq (hs22 _ (Ne.symm ne_h_q1))
  have p24 : f21 q9 = .inr (4, [.ref wk, .ref wa, .ref wp, .int 0, .int 0, .int 0, .int 0, .int 0, .int 0, .int 0, .int 0]) := (hs22 _ (Ne.symm ne_h_q9)).trans po15
  have p25 : f21 h = .inr (5, [.ref q1, .ref q9, .null]) := by rw [hf21]; exact va_up_self _ _ _
  refine lv_aload_n hx hb dC_init_23 rfl (lv_at hl 0 rfl) ?_
  refine mg_new (ci := 1) (fs := [.null, .int 0]) hx hb hg inK tyK tyK_ok hown (hg _ gw89) (hg _ gw36) (hg _ gw3) hK hP hn hA hS hA0 rfl (fun j hj => by rcases (show j = 0 ∨ j = 1 by omega) with rfl | rfl <;> rfl) (Nat.le_of_ble_eq_true rfl) (Nat.le_of_ble_eq_true rfl) dC_init_24 (fun q26 H hqq26 hAq26 hP hS => ?_)
  have ne_q1_q26 : q1 ≠ q26 := fun e => hqq26 (e ▸ i16)
  have ne_q9_q26 : q9 ≠ q26 := fun e => hqq26 (e ▸ i20)
  have ne_h_q26 : h ≠ q26 := fun e => hqq26 (e ▸ i18)
  obtain ⟨L27, eL27⟩ : ∃ z, z = L15 ++ [q26] := ⟨_, rfl⟩
  obtain ⟨f27, ef27⟩ : ∃ z, z = va_up f21 q26 (.inr (1, [.null, .int 0])) := ⟨_, rfl⟩
  rw [← eL27, ← ef27] at hP
  have hi27 : ∀ z ∈ L15, z ∈ L27 := fun z hz => by rw [eL27]; exact List.mem_append_left _ hz
  have he27 : ∀ z ∈ L15, f27 z = f21 z := fun z hz => by rw [ef27]; exact va_up_ne _ _ (fun e => hqq26 (e ▸ hz))
  have hG : Gro L f tys h sz (L27, f27, t15) := by rw [eL27, ef27]; exact hG.new hqq26 (w9 hAq26)
  have hn : L27.Nodup := hG.1
  have hA : ∀ a ∈ L27, (gA L sz) a := fun a ha => by rw [eL27] at ha; rcases List.mem_append.mp ha with h9 | h9; exact hA a h9; rw [List.mem_singleton.mp h9]; exact hAq26
  have i28 : q1 ∈ L27 := hi27 _ i16
  have p29 : mm_Q t15 "LiquidChecker$Function" f27 q1 4 (fun _ => none) := (p23.eq (he27 _ i16))
  have i30 : q9 ∈ L27 := hi27 _ i20
  have p31 : f27 q9 = .inr (4, [.ref wk, .ref wa, .ref wp, .int 0, .int 0, .int 0, .int 0, .int 0, .int 0, .int 0, .int 0]) := (he27 _ i20).trans p24
  have i32 : h ∈ L27 := hi27 _ i18
  have p33 : f27 h = .inr (5, [.ref q1, .ref q9, .null]) := (he27 _ i18).trans p25
  have iqq26 : q26 ∈ L27 := by rw [eL27]; exact List.mem_append_right _ (List.mem_singleton.mpr rfl)
  have nqq26 : q26 ∉ L := n9 hG0 hqq26
  have hG0 : ∀ a ∈ L, a ∈ L27 := fun a ha => (hG.2.2.1 a ha).1
  have pqq26 : f27 q26 = .inr (1, [.null, .int 0]) := by rw [ef27]; exact va_up_self _ _ _
  refine lv_dup hx hb dC_init_27 rfl ?_
  have hz34 : sz ≤ H.size := by rw [← hsz]; exact hS.1
  refine then_g (run_IN (rest := [.ref q26, .ref h]) C0 hK (n_K_init hn iqq26 pqq26) gw39 nx90 gw38 gw3 rfl (by decide +kernel) ⟨Nat.le_of_ble_eq_true rfl, Nat.le_of_ble_eq_true rfl⟩ rfl rfl ⟨Nat.le_of_ble_eq_true rfl, Nat.le_of_ble_eq_true rfl⟩ hP hl.1 rfl (Nat.le_of_ble_eq_true rfl) dC_init_28) hS hA hA0 (fun u34 H locs hu34 hzz34 hP hK hS => ?_)
  obtain ⟨L34, f34, t34⟩ := u34
  obtain ⟨hg34, hpo34⟩ := hu34
  have hP : va_P D zCl (va_pl L34 f34) H := hP
  have hK : va_K D zCl t34 s := hK
  have hG : Gro L f tys h sz (L34, f34, t34) := hG.call nqq26 hz34 hg34
  have hG0o34 := hG0
  have hn : L34.Nodup := hG.1
  have hi34 : ∀ z ∈ L27, z ∈ L34 := fun z hz => (hg34.2.2.1 z hz).1
  have he34 : ∀ z ∈ L27, z ≠ q26 → f34 z = f27 z := fun z hz => (hg34.2.2.1 z hz).2
  have hy34 : ∀ z ∈ t15, z ∈ t34 := hg34.2.2.2
  have hA : ∀ a ∈ L34, (gA L sz) a := fun a ha => (hg34.2.1 a ha).elim (hA a) (fun h9 => hA0 a (by rw [hsz]; exact Nat.le_trans hz34 h9))
  have hG0 : ∀ a ∈ L, a ∈ L34 := fun a ha => (hG.2.2.1 a ha).1
  have i35 : q1 ∈ L34 := hi34 _ i28
  have p36 : mm_Q t34 "LiquidChecker$Function" f34 q1 4 (fun _ => none) := (p29.eq (he34 _ i28 ne_q1_q26)).more hy34
  have i37 : q9 ∈ L34 := hi34 _ i30
  have p38 : f34 q9 = .inr (4, [.ref wk, .ref wa, .ref wp, .int 0, .int 0, .int 0, .int 0, .int 0, .int 0, .int 0, .int 0]) := (he34 _ i30 ne_q9_q26).trans p31
  have i39 : h ∈ L34 := hi34 _ i32
  have p40 : f34 h = .inr (5, [.ref q1, .ref q9, .null]) := (he34 _ i32 ne_h_q26).trans p33
  have i41 : q26 ∈ L34 := hi34 _ iqq26
  obtain ⟨kkb, x134, y134, po34, pb34⟩ := hpo34
  have po34 : f34 q26 = .inr (1, [.ref kkb, .int 0]) := po34
  have pb34 : mm_I t34 f34 kkb 144 (fun _ => 0) := pb34
  have y134 : kkb ∈ L34 := y134
  have nqkkb : kkb ∉ L := n9 hG0o34 x134
  have ne_q1_kkb : q1 ≠ kkb := fun e => x134 (e ▸ i28)
  have ne_q9_kkb : q9 ≠ kkb := fun e => x134 (e ▸ i30)
  have ne_h_kkb : h ≠ kkb := fun e => x134 (e ▸ i32)
  have ne_q26_kkb : q26 ≠ kkb := fun e => x134 (e ▸ iqq26)
  refine mg_putF (v := .ref q26) (ty := .object "LiquidChecker$Known") hx hb hg inC tyC tyC_ok nmC hown hK hn hA hP hS i39 p40 rfl 2 (by decide) (hg _ gw185) (fun _ h9 => h9) rfl hnm9 rfl (by decide +kernel) rfl rfl (Nat.le_of_ble_eq_true rfl) dC_init_31 (fun H locs hP hS => ?_)
  obtain ⟨f42, hf42⟩ : ∃ z, z = va_up f34 h (.inr (5, [.ref q1, .ref q9, .ref q26])) := ⟨_, rfl⟩
  have hP : va_P D zCl (va_pl L34 f42) H := by rw [hf42]; exact hP
  have hs43 : Same1 f34 f42 h := fun z hz => by rw [hf42, va_up_ne _ _ hz]
  have hG : Gro L f tys h sz (L34, f42, t34) := hG.put (Or.inl rfl) hs43
  have p44 : mm_Q t34 "LiquidChecker$Function" f42 q1 4 (fun _ => none) := p36.eq (hs43 _ (Ne.symm ne_h_q1))
  have p45 : f42 q9 = .inr (4, [.ref wk, .ref wa, .ref wp, .int 0, .int 0, .int 0, .int 0, .int 0, .int 0, .int 0, .int 0]) := (hs43 _ (Ne.symm ne_h_q9)).trans p38
  have p46 : f42 q26 = .inr (1, [.ref kkb, .int 0]) := (hs43 _ (Ne.symm ne_h_q26)).trans po34
  have p47 : mm_I t34 f42 kkb 144 (fun _ => 0) := pb34.eq (hs43 _ (Ne.symm ne_h_kkb))
  have p48 : f42 h = .inr (5, [.ref q1, .ref q9, .ref q26]) := by rw [hf42]; exact va_up_self _ _ _
  refine lv_iconst (v := nI 0) hx hb dC_init_34 (by decide) ?_
  refine lv_istore_n (lv' := [(1, .int (nI 0)), (0, .ref h)]) hx hb dC_init_35 rfl hl (by decide) rfl (fun ls hl => ?_)
  have kw : ∀ z ∈ L15, z ≠ h → f42 z = f15 z := fun z hz hne => by
    rw [hs43 z hne, he34 z (hi27 z hz) (fun e => hqq26 (e ▸ hz)), he27 z hz, hs22 z hne]
  have nkk : ∀ z ∈ L15, z ≠ q26 := fun z hz e => hqq26 (e ▸ hz)
  have nkkb : ∀ z ∈ L15, z ≠ kkb := fun z hz e => x134 (e ▸ hi27 z hz)
  have kwL : ∀ z ∈ L15, z ∈ L34 := fun z hz => hi34 z (hi27 z hz)
  have kwT : ∀ z ∈ t15, z ∈ t34 := fun z hz => hy34 z hz
  have hNW2 : WkNew t34 L34 f42 L q9 wk wkb wa wp wq wqb := hNW.keep (kw _ i20 (fun e => nqq9 (e ▸ hh))) kwL (fun z hz hzb => kw z hz (fun e => hzb (e ▸ hh))) kwT
  refine n_C_loop (fa := q1) (ww := q9) (kk := q26) C0 hsz hA0 i39 p48 i35 (fun e => nqq1 (e ▸ hh)) hG0 4 0 _ _ _ _ (fun _ => 0) (fun _ => 0) (fun _ => 0) (fun _ => 0) (fun _ => 0) (fun _ => 0) (fun _ => 0) (fun _ => 0) (fun _ => 0) (fun _ => 0) (fun _ => 0) (fun _ _ => 0) (fun _ => []) (by omega) (Gro.rfl2 hn) hA p44 ⟨fun j hj => by omega, fun j hj => by omega, fun j k _ hk => by omega⟩ H _ ls hK hP hS (lv_sub hl [0, 1] rfl) (fun Lk fk tk g fn dr pr sA oA a0 b0 k0 a1 b1 k1 sq Lb H locs ls hG2 hA hQ hinv hK hP hS hl => ?_)
  have hinv : (∀ j, j < 4 → g j = some (fn j)) ∧ FnsNew tk Lk fk L34 4 fn dr pr sA oA a0 b0 k0 a1 b1 k1 sq Lb := hinv
  have hP := mq_swap (g' := fun j => some (fn j)) hG2.1 hP ((hG2.2.2.1 _ i35).1) hQ (fun j hj => hinv.1 j hj)
  have hQ2 : mm_Q tk "LiquidChecker$Function" (mm_sq fk q1 (fun j => some (fn j))) q1 4 (fun j => some (fn j)) := hQ.set
  have hs9 : Same1 fk (mm_sq fk q1 (fun j => some (fn j))) q1 := fun z hz => mm_sq_ne hz
  have hG2 := hG2.put (Or.inl rfl) hs9
  obtain ⟨f9, ef9⟩ : ∃ z, z = mm_sq fk q1 (fun j => some (fn j)) := ⟨_, rfl⟩
  rw [← ef9] at hP hQ2 hG2 hs9
  have kp : ∀ z ∈ L34, z ≠ q1 → f9 z = f42 z := fun z hz => (hG2.2.2.1 z hz).2
  have kl : ∀ z ∈ L34, z ∈ Lk := fun z hz => (hG2.2.2.1 z hz).1
  have kt : ∀ z ∈ t34, z ∈ tk := hG2.2.2.2
  have hGe : Gro L f tys h sz (Lk, f9, tk) := hG.call nqq1 (Nat.le_refl _) hG2
  have fi : q1 ∈ L34 := i35
  have hF9 : FnsNew tk Lk f9 L34 4 fn dr pr sA oA a0 b0 k0 a1 b1 k1 sq Lb := ⟨fun j hj => ⟨(hinv.2.1 j hj).1, (hinv.2.1 j hj).2.1, (hinv.2.1 j hj).2.2.keep (hs9 _ (fun e => (hinv.2.1 j hj).1.2 (e ▸ (hinv.2.1 j hj).2.1 _ fi))) (fun z hz => hz) (fun z hz hzb => hs9 z (fun e => hzb (e ▸ (hinv.2.1 j hj).2.1 _ fi))) (fun z hz => hz)⟩, hinv.2.2⟩
  have nfa : ∀ x ∈ [wk, wkb, wa, wp], x ≠ q1 := fun x hx e => hNWo x hx (e ▸ i11)
  have hNW3 : WkNew tk Lk f9 L q9 wk wkb wa wp wq wqb := by
    obtain ⟨c1, ⟨c2, c3⟩, c4, c5, c6, m1, m2, m3, m4⟩ := hNW2
    have q : ∀ x ∈ [wk, wkb, wa, wp], f9 x = f42 x := fun x hx => kp x (m1 x hx).1 (nfa x hx)
    exact ⟨(kp _ i37 (Ne.symm ne_q1_q9)).trans c1, ⟨(q wk (by simp)).trans c2, (c3.eq (q wkb (by simp))).more kt⟩, (c4.eq (q wa (by simp))).more kt, (c5.eq (q wp (by simp))).more kt, fun j hj => ⟨(kp _ (m2 j hj).1.1 (fun e => (hNWq j hj).1 (e ▸ i11))).trans (c6 j hj).1, ((c6 j hj).2.eq (kp _ (m2 j hj).2.1 (fun e => (hNWq j hj).2 (e ▸ i11)))).more kt⟩, fun x hx => ⟨kl x (m1 x hx).1, (m1 x hx).2⟩, fun j hj => ⟨⟨kl _ (m2 j hj).1.1, (m2 j hj).1.2⟩, ⟨kl _ (m2 j hj).2.1, (m2 j hj).2.2⟩⟩, m3, m4⟩
  refine ret_g C0 hK hP hS ⟨hGe, q1, q9, q26, kkb, wk, wkb, wa, wp, wq, wqb, fn, dr, pr, sA, oA, a0, b0, k0, a1, b1, k1, sq, Lb, L34, (kp _ i39 ne_h_q1).trans p48, ?_, hQ2, hF9, hNW3, (kp _ i41 (Ne.symm ne_q1_q26)).trans p46, (p47.eq (kp _ y134 (Ne.symm ne_q1_kkb))).more kt, ⟨nkk _ (hNW.2.2.2.2.2.1 wk (by simp)).1, nkkb _ (hNW.2.2.2.2.2.1 wkb (by simp)).1⟩, fun j hj => ⟨nkk _ (hNW.2.2.2.2.2.2.1 j hj).1.1, nkkb _ (hNW.2.2.2.2.2.2.1 j hj).2.1⟩⟩ dC_init_60
  have kw4 : ∀ x ∈ [wk, wkb, wa, wp], x ∈ L34 := fun x hx => (hNW2.2.2.2.2.2.1 x hx).1
  intro x hx
  simp only [List.mem_cons, List.not_mem_nil, or_false] at hx
  have hxL : x ∈ L34 := by
    rcases hx with rfl | rfl | rfl | rfl | rfl | rfl | rfl | rfl
    · exact i35
    · exact i37
    · exact i41
    · exact y134
    · exact kw4 _ (by simp)
    · exact kw4 _ (by simp)
    · exact kw4 _ (by simp)
    · exact kw4 _ (by simp)
  exact ⟨hxL, kl x hxL⟩
