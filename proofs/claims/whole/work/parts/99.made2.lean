/-! Constructors: Function, Walk. -/
def FnAd (dr pr sA oA a0 b0 k0 a1 b1 k1 : Nat) : List Nat := [dr, pr, sA, oA, a0, b0, k0, a1, b1, k1]
def FnNew (t : List (ClassId × FieldType)) (L : List Nat) (f : Nat → va_E) (Lb : List Nat) (h dr pr sA oA a0 b0 k0 a1 b1 k1 : Nat) (sq : Nat → Nat) : Prop :=
  f h = .inr (0, [.ref dr, .ref pr, .ref sA, .ref oA, .int 0, .int 0, .int 0, .int 0]) ∧ (f dr = .inr (2, [.ref a0, .ref b0, .ref k0, .int 0]) ∧ f pr = .inr (2, [.ref a1, .ref b1, .ref k1, .int 0])) ∧
  (mm_I t f a0 4 (fun _ => 0) ∧ mm_I t f b0 4 (fun _ => 0) ∧ mm_I t f k0 4 (fun _ => 0) ∧ mm_I t f a1 4 (fun _ => 0) ∧ mm_I t f b1 4 (fun _ => 0) ∧ mm_I t f k1 4 (fun _ => 0)) ∧
  mm_Q t "LiquidChecker$Statement" f sA 16 (fun j => some (sq j)) ∧ mm_I t f oA 6 (fun _ => 0) ∧ (∀ j, j < 16 → f (sq j) = .inr (3, [.int 0, .int 0, .int 0, .int 0, .int 0, .int 0])) ∧
  (∀ x ∈ FnAd dr pr sA oA a0 b0 k0 a1 b1 k1, x ∈ L ∧ x ∉ Lb) ∧ (∀ j, j < 16 → sq j ∈ L ∧ sq j ∉ Lb) ∧ (∀ i j, i < 16 → j < 16 → i ≠ j → sq i ≠ sq j) ∧ dr ≠ pr ∧ [a0, b0, k0, a1, b1, k1].Nodup
theorem FnNew.keep {t t2 : List (ClassId × FieldType)} {L L2 : List Nat} {f f2 : Nat → va_E} {Lb : List Nat} {h dr pr sA oA a0 b0 k0 a1 b1 k1 : Nat} {sq : Nat → Nat} (hN : FnNew t L f Lb h dr pr sA oA a0 b0 k0 a1 b1 k1 sq) (hh : f2 h = f h) (hi : ∀ z ∈ L, z ∈ L2) (he : ∀ z ∈ L, z ∉ Lb → f2 z = f z) (hy : ∀ z ∈ t, z ∈ t2) : FnNew t2 L2 f2 Lb h dr pr sA oA a0 b0 k0 a1 b1 k1 sq := by
  obtain ⟨c1, ⟨c2, c3⟩, ⟨d1, d2, d3, d4, d5, d6⟩, e1, e3, e4, m1, m2, m3, m4, m5⟩ := hN
  have hk : ∀ x ∈ FnAd dr pr sA oA a0 b0 k0 a1 b1 k1, f2 x = f x := fun x hx => he x (m1 x hx).1 (m1 x hx).2
  have q : ∀ k (hk9 : k < 10), f2 ((FnAd dr pr sA oA a0 b0 k0 a1 b1 k1)[k]'(by simpa [FnAd] using hk9)) = f ((FnAd dr pr sA oA a0 b0 k0 a1 b1 k1)[k]'(by simpa [FnAd] using hk9)) := fun k hk9 => hk _ (List.getElem_mem _)
  refine ⟨hh.trans c1, ⟨(q 0 (by omega)).trans c2, (q 1 (by omega)).trans c3⟩, ⟨(d1.eq (q 4 (by omega))).more hy, (d2.eq (q 5 (by omega))).more hy, (d3.eq (q 6 (by omega))).more hy, (d4.eq (q 7 (by omega))).more hy, (d5.eq (q 8 (by omega))).more hy, (d6.eq (q 9 (by omega))).more hy⟩, (e1.eq (q 2 (by omega))).more hy, (e3.eq (q 3 (by omega))).more hy, fun j hj => (he _ (m2 j hj).1 (m2 j hj).2).trans (e4 j hj), fun x hx => ⟨hi x (m1 x hx).1, (m1 x hx).2⟩, fun j hj => ⟨hi _ (m2 j hj).1, (m2 j hj).2⟩, m3, m4, m5⟩
theorem arrV_congr {cA : ClassId} {n : Nat} {f g : Nat → Value} (h : ∀ j, j < n → f j = g j) : arrV cA n f = arrV cA n g := by
  unfold arrV
  congr 1
  apply congrArg
  funext j
  exact h j.val j.isLt
/-- a row of references is what it holds at its places -/
theorem mq_swap {D : va_G} {L : List Nat} {f : Nat → va_E} {H : Heap} {tys : List (ClassId × FieldType)} {C : String} {a n : Nat} {g g' : Nat → Option Nat} (hn : L.Nodup) (hP : va_P D zCl (va_pl L f) H) (ha : a ∈ L) (hQ : mm_Q tys C f a n g) (hg : ∀ j, j < n → g j = g' j) : va_P D zCl (va_pl L (mm_sq f a g')) H := by
  obtain ⟨cA, h1, h2⟩ := hQ
  obtain ⟨k, hk⟩ := mm_at ha h1
  have hD : va_D (fun a => a ∈ L) (va_pl L f) := mm_D hn (fun _ h => h)
  rw [mm_sq_eq h1, ← mm_set hD ha h1 hk]
  refine hP.set hD hk ?_ (fun q _ => rfl)
  have h3 := hP k _ hk
  show H[a]? = some (vp_cell cA (n, .inr (.inr (.inr (.inr g')))))
  rw [show H[a]? = some (vp_cell cA (n, .inr (.inr (.inr (.inr g))))) from h3]
  show some (arrV cA n (fun j => va_rf (g j))) = some (arrV cA n (fun j => va_rf (g' j)))
  rw [arrV_congr (fun j hj => by rw [hg j hj])]
theorem mm_Qno {tys : List (ClassId × FieldType)} {C : String} {f : Nat → va_E} {a n : Nat} {g : Nat → Option Nat} (h : mm_Q tys C f a n g) {x : Nat × List Value} : ¬ f a = .inr x := fun e => by
  obtain ⟨cA, h1, -⟩ := h
  rw [h1] at e
  cases e
set_option maxRecDepth 100000 in
set_option maxHeartbeats 4000000 in
theorem n_F_loop {pgm : Program} {l : Launch} {e : Env} {s : State} {m : MethodId} {args : Array Value} {below : List Frame} {meth : Method} {cd : Code} {D : va_G} {Q : State → Prop} {L0 L1 : List Nat} {f1 : Nat → va_E} {t1 : List (ClassId × FieldType)} {sz h : Nat} {dr pr sA oA : Nat} (C0 : Ci pgm s m args meth cd cF_init 2 "LiquidChecker$Function") (hsz : s.heap.size = sz) (hA0 : ∀ q, s.heap.size ≤ q → gA L0 sz q) (hh1 : h ∈ L1) (h1 : f1 h = .inr (0, [.ref dr, .ref pr, .ref sA, .ref oA, .int 0, .int 0, .int 0, .int 0])) (hs1 : sA ∈ L1) (hne1 : h ≠ sA) (hL01 : ∀ a ∈ L0, a ∈ L1) : ∀ (n i : Nat) (Lk : List Nat) (fk : Nat → va_E) (tk : List (ClassId × FieldType)) (g : Nat → Option Nat) (sq : Nat → Nat), i + n = 16 → Gro L1 f1 t1 sA sz (Lk, fk, tk) → (∀ a ∈ Lk, gA L0 sz a) → mm_Q tk "LiquidChecker$Statement" fk sA 16 g → (∀ j, j < i → g j = some (sq j) ∧ sq j ∈ Lk ∧ sq j ∉ L1 ∧ fk (sq j) = .inr (3, [.int 0, .int 0, .int 0, .int 0, .int 0, .int 0])) ∧ (∀ j k, j < i → k < i → j ≠ k → sq j ≠ sq k) → ∀ (H : Heap) (locs : List Loc) (ls : Array Slot), va_K D zCl tk s → va_P D zCl (va_pl Lk fk) H → va_S (gA L0 sz) s.heap H locs → lv_has ls 2 [(1, .int (nI i)), (0, .ref h)] → (∀ (Lk : List Nat) (fk : Nat → va_E) (tk : List (ClassId × FieldType)) (g : Nat → Option Nat) (sq : Nat → Nat) (H : Heap) (locs : List Loc) (ls : Array Slot), Gro L1 f1 t1 sA sz (Lk, fk, tk) → (∀ a ∈ Lk, gA L0 sz a) → mm_Q tk "LiquidChecker$Statement" fk sA 16 g → (∀ j, j < 16 → g j = some (sq j) ∧ sq j ∈ Lk ∧ sq j ∉ L1 ∧ fk (sq j) = .inr (3, [.int 0, .int 0, .int 0, .int 0, .int 0, .int 0])) ∧ (∀ j k, j < 16 → k < 16 → j ≠ k → sq j ≠ sq k) → va_K D zCl tk s → va_P D zCl (va_pl Lk fk) H → va_S (gA L0 sz) s.heap H locs → lv_has ls 2 [(1, .int (nI 16)), (0, .ref h)] → W pgm l e ({ frames := 2, cells := 26, slots := 150, locals := 34 } : Room) s m args below meth cd H locs (10 + 1 * 16) (54 + 6 * 16) Q (F0 m 70 ls [])) → W pgm l e ({ frames := 2, cells := 26, slots := 150, locals := 34 } : Room) s m args below meth cd H locs (10 + 1 * i) (54 + 6 * i) Q (F0 m 45 ls []) := by
  obtain ⟨hx, hb, hml, hown, hg, hr, hlocks, hnm9, hN, hAo⟩ := id C0
  have w9 : ∀ {q : Nat}, gA L0 sz q → gA L1 sz q := fun h9 => h9.elim (fun h8 => Or.inl (hL01 _ h8)) Or.inr
  intro n
  induction n with
  | zero =>
    intro i Lk fk tk g sq hi hG hA hQ hinv H locs ls hK hP hS hl hx2
    obtain rfl : i = 16 := by omega
    refine lv_iload_n hx hb dF_init_45 rfl (lv_at hl 0 rfl) ?_
    refine lv_bipush (v := nI 16) hx hb dF_init_46 (by decide) ?_
    refine lv_icmp_ge (tgt := 70) hx hb dF_init_48 (by decide) (fun c48 => ?_) (fun c48 => absurd (nI_le (by omega) (by omega)) c48)
    exact hx2 Lk fk tk g sq H locs ls hG hA hQ hinv hK hP hS (lv_sub hl [0, 1] rfl)
  | succ n ih =>
    intro i Lk fk tk g sq hi hG hA hQ hinv H locs ls hK hP hS hl hx2
    have hn : Lk.Nodup := hG.1
    have hG0 : ∀ a ∈ L1, a ∈ Lk := fun a ha => (hG.2.2.1 a ha).1
    have ih0 : h ∈ Lk := hG0 _ hh1
    have ins : sA ∈ Lk := hG0 _ hs1
    have hsn : h ≠ sA := hne1
    have p0 : fk h = .inr (0, [.ref dr, .ref pr, .ref sA, .ref oA, .int 0, .int 0, .int 0, .int 0]) := ((hG.2.2.1 h hh1).2 hsn).trans h1
    refine lv_iload_n hx hb dF_init_45 rfl (lv_at hl 0 rfl) ?_
    refine lv_bipush (v := nI 16) hx hb dF_init_46 (by decide) ?_
    refine lv_icmp_ge (tgt := 70) hx hb dF_init_48 (by decide) (fun c48 => absurd c48 (nI_ge (show i < 16 by omega) (by omega))) (fun c48 => ?_)
    refine lv_aload_n hx hb dF_init_51 rfl (lv_at hl 1 rfl) ?_
    refine mm_get (v := .ref sA) hx hb hg inF hown hK hP ih0 p0 rfl 2 (by decide) (hg _ gw156) (fun _ h9 => h9) rfl dF_init_52 ?_
    refine lv_iload_n hx hb dF_init_55 rfl (lv_at hl 0 rfl) ?_
    refine mg_new (ci := 3) (fs := [.int 0, .int 0, .int 0, .int 0, .int 0, .int 0]) hx hb hg inS tyS tyS_ok hown (hg _ gw117) (hg _ gw119) (hg _ gw6) hK hP hn hA hS hA0 rfl (fun j hj => by rcases (show j = 0 ∨ j = 1 ∨ j = 2 ∨ j = 3 ∨ j = 4 ∨ j = 5 by omega) with rfl | rfl | rfl | rfl | rfl | rfl <;> rfl) (show _ ≤ 26 by omega) (show _ ≤ 150 by omega) dF_init_56 (fun q1 H hqq1 hAq1 hP hS => ?_)
    have ne_h_q1 : h ≠ q1 := fun e => hqq1 (e ▸ ih0)
    have ne_sA_q1 : sA ≠ q1 := fun e => hqq1 (e ▸ ins)
    obtain ⟨L2, eL2⟩ : ∃ z, z = Lk ++ [q1] := ⟨_, rfl⟩
    obtain ⟨f2, ef2⟩ : ∃ z, z = va_up fk q1 (.inr (3, [.int 0, .int 0, .int 0, .int 0, .int 0, .int 0])) := ⟨_, rfl⟩
    rw [← eL2, ← ef2] at hP
    have hi2 : ∀ z ∈ Lk, z ∈ L2 := fun z hz => by rw [eL2]; exact List.mem_append_left _ hz
    have he2 : ∀ z ∈ Lk, f2 z = fk z := fun z hz => by rw [ef2]; exact va_up_ne _ _ (fun e => hqq1 (e ▸ hz))
    have hG : Gro L1 f1 t1 sA sz (L2, f2, tk) := by rw [eL2, ef2]; exact hG.new hqq1 (w9 hAq1)
    have hn : L2.Nodup := hG.1
    have hA : ∀ a ∈ L2, (gA L0 sz) a := fun a ha => by rw [eL2] at ha; rcases List.mem_append.mp ha with h9 | h9; exact hA a h9; rw [List.mem_singleton.mp h9]; exact hAq1
    have i3 : h ∈ L2 := hi2 _ ih0
    have p4 : f2 h = .inr (0, [.ref dr, .ref pr, .ref sA, .ref oA, .int 0, .int 0, .int 0, .int 0]) := (he2 _ ih0).trans p0
    have i5 : sA ∈ L2 := hi2 _ ins
    have p6 : mm_Q tk "LiquidChecker$Statement" f2 sA 16 g := (hQ.eq (he2 _ ins))
    have iqq1 : q1 ∈ L2 := by rw [eL2]; exact List.mem_append_right _ (List.mem_singleton.mpr rfl)
    have nqq1 : q1 ∉ L1 := n9 hG0 hqq1
    have hG0 : ∀ a ∈ L1, a ∈ L2 := fun a ha => (hG.2.2.1 a ha).1
    have pqq1 : f2 q1 = .inr (3, [.int 0, .int 0, .int 0, .int 0, .int 0, .int 0]) := by rw [ef2]; exact va_up_self _ _ _
    refine lv_dup hx hb dF_init_59 rfl ?_
    have hz7 : sz ≤ H.size := by rw [← hsz]; exact hS.1
    refine then_g (run_IN (rest := [.ref q1, .int (nI i), .ref sA]) C0 hK (n_S_init hn iqq1 pqq1) gw122 nx120 gw121 gw6 rfl (by decide +kernel) ⟨Nat.le_of_ble_eq_true rfl, Nat.le_of_ble_eq_true rfl⟩ rfl rfl ⟨show _ ≤ 26 by omega, show _ ≤ 150 by omega⟩ hP hl.1 rfl (Nat.le_of_ble_eq_true rfl) dF_init_60) hS hA hA0 (fun u7 H locs hu7 hzz7 hP hK hS => ?_)
    obtain ⟨L7, f7, t7⟩ := u7
    obtain ⟨hg7, hpo7⟩ := hu7
    have hP : va_P D zCl (va_pl L7 f7) H := hP
    have hK : va_K D zCl t7 s := hK
    have hG : Gro L1 f1 t1 sA sz (L7, f7, t7) := hG.call nqq1 hz7 hg7
    have hG0o7 := hG0
    have hn : L7.Nodup := hG.1
    have hi7 : ∀ z ∈ L2, z ∈ L7 := fun z hz => (hg7.2.2.1 z hz).1
    have he7 : ∀ z ∈ L2, z ≠ q1 → f7 z = f2 z := fun z hz => (hg7.2.2.1 z hz).2
    have hy7 : ∀ z ∈ tk, z ∈ t7 := hg7.2.2.2
    have hA : ∀ a ∈ L7, (gA L0 sz) a := fun a ha => (hg7.2.1 a ha).elim (hA a) (fun h9 => hA0 a (by rw [hsz]; exact Nat.le_trans hz7 h9))
    have hG0 : ∀ a ∈ L1, a ∈ L7 := fun a ha => (hG.2.2.1 a ha).1
    have i8 : h ∈ L7 := hi7 _ i3
    have p9 : f7 h = .inr (0, [.ref dr, .ref pr, .ref sA, .ref oA, .int 0, .int 0, .int 0, .int 0]) := (he7 _ i3 ne_h_q1).trans p4
    have i10 : sA ∈ L7 := hi7 _ i5
    have p11 : mm_Q t7 "LiquidChecker$Statement" f7 sA 16 g := (p6.eq (he7 _ i5 ne_sA_q1)).more hy7
    have i12 : q1 ∈ L7 := hi7 _ iqq1
    have pz7 : f7 q1 = .inr (3, [.int 0, .int 0, .int 0, .int 0, .int 0, .int 0]) := hpo7.trans pqq1
    refine mg_astq (C := "") hx hb hK hn hA hP hS i10 (r := (RS, TS, 6)) p11 i12 pz7 rfl (vp_in_nI (show i < 16 by omega) (by omega)) dF_init_63 (fun H locs hP hS => ?_)
    rw [nI_clamp (by omega)] at hP
    obtain ⟨f13, hf13⟩ : ∃ z, z = mm_sq f7 sA (va_up g i (some q1)) := ⟨_, rfl⟩
    have hP : va_P D zCl (va_pl L7 f13) H := by rw [hf13]; exact hP
    have hs14 : Same1 f7 f13 sA := fun z hz => by rw [hf13, mm_sq_ne hz]
    have hG : Gro L1 f1 t1 sA sz (L7, f13, t7) := hG.put (Or.inl rfl) hs14
    have p15 : f13 h = .inr (0, [.ref dr, .ref pr, .ref sA, .ref oA, .int 0, .int 0, .int 0, .int 0]) := (hs14 _ hsn).trans p9
    have p16 : f13 q1 = .inr (3, [.int 0, .int 0, .int 0, .int 0, .int 0, .int 0]) := (hs14 _ (Ne.symm ne_sA_q1)).trans pz7
    have p17 : mm_Q t7 "LiquidChecker$Statement" f13 sA 16 (va_up g i (some q1)) := by rw [hf13]; exact p11.set
    refine lv_iinc (v := nI (i + 1)) (lv' := [(1, .int (nI (i + 1))), (0, .ref h)]) hx hb dF_init_64 hl (k := 0) rfl (nI_add i 1) (by decide) rfl (fun ls hl => ?_)
    refine lv_goto (tgt := 45) hx hb dF_init_67 (by decide) ?_
    have keep : ∀ z ∈ Lk, z ≠ sA → f13 z = fk z := fun z hz hne => by rw [hs14 z hne, he7 z (hi2 z hz) (fun e => hqq1 (e ▸ hz)), he2 z hz]
    have keepL : ∀ z ∈ Lk, z ∈ L7 := fun z hz => hi7 z (hi2 z hz)
    have keepT : ∀ z ∈ tk, z ∈ t7 := fun z hz => hy7 z hz
    refine W.widen (k := 10 + 1 * (i + 1)) (n := 54 + 6 * (i + 1)) (by omega) (by omega) ?_
    refine ih (i + 1) L7 f13 t7 _ (va_up sq i q1) (by omega) hG hA p17 ?_ H locs ls hK hP hS (lv_sub hl [0, 1] rfl) hx2
    have hu : ∀ j, j < i → va_up sq i q1 j = sq j := fun j hj => va_up_ne _ _ (by omega)
    have hu2 : va_up sq i q1 i = q1 := va_up_self _ _ _
    have hlt : ∀ j, j < i + 1 → j < i ∨ j = i := fun j hj => by omega
    refine ⟨fun j hj => ?_, fun j k hj hk hne => ?_⟩
    · rcases hlt j hj with h9 | rfl
      · obtain ⟨a1, a2, a3, a4⟩ := hinv.1 j h9
        rw [hu j h9]
        exact ⟨by rw [va_up_ne _ _ (by omega)]; exact a1, keepL _ a2, a3, (keep _ a2 (fun e => absurd (e ▸ a4) (mm_Qno hQ))).trans a4⟩
      · rw [hu2]
        exact ⟨va_up_self _ _ _, i12, nqq1, p16⟩
    · rcases hlt j hj with h9 | rfl <;> rcases hlt k hk with h8 | rfl
      · rw [hu j h9, hu k h8]; exact hinv.2 j k h9 h8 hne
      · rw [hu j h9, hu2]; exact fun e => hqq1 (e ▸ (hinv.1 j h9).2.1)
      · rw [hu k h8, hu2]; exact fun e => hqq1 (e ▸ (hinv.1 k h8).2.1)
      · exact absurd rfl hne
set_option maxRecDepth 100000 in
set_option maxHeartbeats 4000000 in
theorem n_F_init {l : Launch} {D : va_G} {tys : List (ClassId × FieldType)} {L : List Nat} {f : Nat → va_E} {sz h : Nat} (hn : L.Nodup) (hh : h ∈ L) (h1 : f h = .inr (0, [.null, .null, .null, .null, .int 0, .int 0, .int 0, .int 0])) : MetG l yF_init wF_init ({ frames := 2, cells := 26, slots := 150, locals := 34 } : Room) D tys L f sz h (fun u => ∃ dr pr sA oA a0 b0 k0 a1 b1 k1 sq, FnNew u.2.2 u.1 u.2.1 L h dr pr sA oA a0 b0 k0 a1 b1 k1 sq) 26 150 := by
  refine metg_of "LiquidChecker$Function" (by decide) rfl rfl (Nat.le_of_ble_eq_true rfl) ?_
  intro pgm e s m below meth cd ls C0 hsz hK hP hl
  obtain ⟨hx, hb, hml, hown, hg, hr, hlocks, hnm9, hN, hAo⟩ := id C0
  have hA : ∀ a ∈ L, gA L sz a := fun _ h => Or.inl h
  have hA0 : ∀ q, s.heap.size ≤ q → gA L sz q := fun q h9 => Or.inr (by rw [← hsz]; exact h9)
  have w9 : ∀ {q : Nat}, gA L sz q → gA L sz q := fun h9 => h9
  have hG : Gro L f tys h sz (L, f, tys) := Gro.rfl2 hn
  have hG0 : ∀ a ∈ L, a ∈ L := fun _ h9 => h9
  obtain ⟨H, hH⟩ : ∃ z, z = s.heap := ⟨_, rfl⟩
  have hP : va_P D zCl (va_pl L f) H := by rw [hH]; exact hP
  have hS : va_S (gA L sz) s.heap H [] := by rw [hH]; exact va_S.rf
  rw [← hH]
  have hl : lv_has ls 2 [(0, .ref h)] := hl
  refine lv_aload_n hx hb dF_init_0 rfl (lv_at hl 0 rfl) ?_
  refine W.objInit hx hb hown (hg _ gw95) (hg _ gw25) (hg _ gw26) rfl (hl.1.trans hml.symm) rfl dF_init_1 (Nat.le_of_ble_eq_true rfl) (Nat.le_of_ble_eq_true rfl) ?_
  refine lv_aload_n hx hb dF_init_4 rfl (lv_at hl 0 rfl) ?_
  refine mg_new (ci := 2) (fs := [.null, .null, .null, .int 0]) hx hb hg inR tyR tyR_ok hown (hg _ gw96) (hg _ gw97) (hg _ gw5) hK hP hn hA hS hA0 rfl (fun j hj => by rcases (show j = 0 ∨ j = 1 ∨ j = 2 ∨ j = 3 by omega) with rfl | rfl | rfl | rfl <;> rfl) (Nat.le_of_ble_eq_true rfl) (Nat.le_of_ble_eq_true rfl) dF_init_5 (fun q1 H hqq1 hAq1 hP hS => ?_)
  have ne_h_q1 : h ≠ q1 := fun e => hqq1 (e ▸ hh)
  obtain ⟨L2, eL2⟩ : ∃ z, z = L ++ [q1] := ⟨_, rfl⟩
  obtain ⟨f2, ef2⟩ : ∃ z, z = va_up f q1 (.inr (2, [.null, .null, .null, .int 0])) := ⟨_, rfl⟩
  rw [← eL2, ← ef2] at hP
  have hi2 : ∀ z ∈ L, z ∈ L2 := fun z hz => by rw [eL2]; exact List.mem_append_left _ hz
  have he2 : ∀ z ∈ L, f2 z = f z := fun z hz => by rw [ef2]; exact va_up_ne _ _ (fun e => hqq1 (e ▸ hz))
  have hG : Gro L f tys h sz (L2, f2, tys) := by rw [eL2, ef2]; exact hG.new hqq1 (w9 hAq1)
  have hn : L2.Nodup := hG.1
  have hA : ∀ a ∈ L2, (gA L sz) a := fun a ha => by rw [eL2] at ha; rcases List.mem_append.mp ha with h9 | h9; exact hA a h9; rw [List.mem_singleton.mp h9]; exact hAq1
  have i3 : h ∈ L2 := hi2 _ hh
  have p4 : f2 h = .inr (0, [.null, .null, .null, .null, .int 0, .int 0, .int 0, .int 0]) := (he2 _ hh).trans h1
  have iqq1 : q1 ∈ L2 := by rw [eL2]; exact List.mem_append_right _ (List.mem_singleton.mpr rfl)
  have nqq1 : q1 ∉ L := n9 hG0 hqq1
  have hG0 : ∀ a ∈ L, a ∈ L2 := fun a ha => (hG.2.2.1 a ha).1
  have pqq1 : f2 q1 = .inr (2, [.null, .null, .null, .int 0]) := by rw [ef2]; exact va_up_self _ _ _
  refine lv_dup hx hb dF_init_8 rfl ?_
  have hz5 : sz ≤ H.size := by rw [← hsz]; exact hS.1
  refine then_g (run_IN (rest := [.ref q1, .ref h]) C0 hK (n_R_init hn iqq1 pqq1) gw100 nx98 gw99 gw5 rfl (by decide +kernel) ⟨Nat.le_of_ble_eq_true rfl, Nat.le_of_ble_eq_true rfl⟩ rfl rfl ⟨Nat.le_of_ble_eq_true rfl, Nat.le_of_ble_eq_true rfl⟩ hP hl.1 rfl (Nat.le_of_ble_eq_true rfl) dF_init_9) hS hA hA0 (fun u5 H locs hu5 hzz5 hP hK hS => ?_)
  obtain ⟨L5, f5, t5⟩ := u5
  obtain ⟨hg5, hpo5⟩ := hu5
  have hP : va_P D zCl (va_pl L5 f5) H := hP
  have hK : va_K D zCl t5 s := hK
  have hG : Gro L f tys h sz (L5, f5, t5) := hG.call nqq1 hz5 hg5
  have hG0o5 := hG0
  have hn : L5.Nodup := hG.1
  have hi5 : ∀ z ∈ L2, z ∈ L5 := fun z hz => (hg5.2.2.1 z hz).1
  have he5 : ∀ z ∈ L2, z ≠ q1 → f5 z = f2 z := fun z hz => (hg5.2.2.1 z hz).2
  have hy5 : ∀ z ∈ tys, z ∈ t5 := hg5.2.2.2
  have hA : ∀ a ∈ L5, (gA L sz) a := fun a ha => (hg5.2.1 a ha).elim (hA a) (fun h9 => hA0 a (by rw [hsz]; exact Nat.le_trans hz5 h9))
  have hG0 : ∀ a ∈ L, a ∈ L5 := fun a ha => (hG.2.2.1 a ha).1
  have i6 : h ∈ L5 := hi5 _ i3
  have p7 : f5 h = .inr (0, [.null, .null, .null, .null, .int 0, .int 0, .int 0, .int 0]) := (he5 _ i3 ne_h_q1).trans p4
  have i8 : q1 ∈ L5 := hi5 _ iqq1
  obtain ⟨ra0, rb0, rk0, ⟨x15, x25, x35⟩, ⟨y15, y25, y35⟩, ⟨d15, d25, d35⟩, po5, pa5, pb5, pk5⟩ := hpo5
  have nqra0 : ra0 ∉ L := n9 hG0o5 x15
  have ne_h_ra0 : h ≠ ra0 := fun e => x15 (e ▸ i3)
  have ne_q1_ra0 : q1 ≠ ra0 := fun e => x15 (e ▸ iqq1)
  have nqrb0 : rb0 ∉ L := n9 hG0o5 x25
  have ne_h_rb0 : h ≠ rb0 := fun e => x25 (e ▸ i3)
  have ne_q1_rb0 : q1 ≠ rb0 := fun e => x25 (e ▸ iqq1)
  have nqrk0 : rk0 ∉ L := n9 hG0o5 x35
  have ne_h_rk0 : h ≠ rk0 := fun e => x35 (e ▸ i3)
  have ne_q1_rk0 : q1 ≠ rk0 := fun e => x35 (e ▸ iqq1)
  have po5 : f5 q1 = .inr (2, [.ref ra0, .ref rb0, .ref rk0, .int 0]) := po5
  have pa5 : mm_I t5 f5 ra0 4 (fun _ => 0) := pa5
  have y15 : ra0 ∈ L5 := y15
  have pb5 : mm_I t5 f5 rb0 4 (fun _ => 0) := pb5
  have y25 : rb0 ∈ L5 := y25
  have pk5 : mm_I t5 f5 rk0 4 (fun _ => 0) := pk5
  have y35 : rk0 ∈ L5 := y35
  refine mg_putF (v := .ref q1) (ty := .object "LiquidChecker$Relations") hx hb hg inF tyF tyF_ok nmF hown hK hn hA hP hS i6 p7 rfl 0 (by decide) (hg _ gw150) (fun _ h9 => h9) rfl hnm9 rfl (by decide +kernel) rfl rfl (Nat.le_of_ble_eq_true rfl) dF_init_12 (fun H locs hP hS => ?_)
  obtain ⟨f9, hf9⟩ : ∃ z, z = va_up f5 h (.inr (0, [.ref q1, .null, .null, .null, .int 0, .int 0, .int 0, .int 0])) := ⟨_, rfl⟩
  have hP : va_P D zCl (va_pl L5 f9) H := by rw [hf9]; exact hP
  have hs10 : Same1 f5 f9 h := fun z hz => by rw [hf9, va_up_ne _ _ hz]
  have hG : Gro L f tys h sz (L5, f9, t5) := hG.put (Or.inl rfl) hs10
  have p11 : f9 q1 = .inr (2, [.ref ra0, .ref rb0, .ref rk0, .int 0]) := (hs10 _ (Ne.symm ne_h_q1)).trans po5
  have p12 : mm_I t5 f9 ra0 4 (fun _ => 0) := pa5.eq (hs10 _ (Ne.symm ne_h_ra0))
  have p13 : mm_I t5 f9 rb0 4 (fun _ => 0) := pb5.eq (hs10 _ (Ne.symm ne_h_rb0))
  have p14 : mm_I t5 f9 rk0 4 (fun _ => 0) := pk5.eq (hs10 _ (Ne.symm ne_h_rk0))
  have p15 : f9 h = .inr (0, [.ref q1, .null, .null, .null, .int 0, .int 0, .int 0, .int 0]) := by rw [hf9]; exact va_up_self _ _ _
  refine lv_aload_n hx hb dF_init_15 rfl (lv_at hl 0 rfl) ?_
  refine mg_new (ci := 2) (fs := [.null, .null, .null, .int 0]) hx hb hg inR tyR tyR_ok hown (hg _ gw96) (hg _ gw97) (hg _ gw5) hK hP hn hA hS hA0 rfl (fun j hj => by rcases (show j = 0 ∨ j = 1 ∨ j = 2 ∨ j = 3 by omega) with rfl | rfl | rfl | rfl <;> rfl) (Nat.le_of_ble_eq_true rfl) (Nat.le_of_ble_eq_true rfl) dF_init_16 (fun q16 H hqq16 hAq16 hP hS => ?_)
  have ne_q1_q16 : q1 ≠ q16 := fun e => hqq16 (e ▸ i8)
  have ne_ra0_q16 : ra0 ≠ q16 := fun e => hqq16 (e ▸ y15)
  have ne_rb0_q16 : rb0 ≠ q16 := fun e => hqq16 (e ▸ y25)
  have ne_rk0_q16 : rk0 ≠ q16 := fun e => hqq16 (e ▸ y35)
  have ne_h_q16 : h ≠ q16 := fun e => hqq16 (e ▸ i6)
  obtain ⟨L17, eL17⟩ : ∃ z, z = L5 ++ [q16] := ⟨_, rfl⟩
  obtain ⟨f17, ef17⟩ : ∃ z, z = va_up f9 q16 (.inr (2, [.null, .null, .null, .int 0])) := ⟨_, rfl⟩
  rw [← eL17, ← ef17] at hP
  have hi17 : ∀ z ∈ L5, z ∈ L17 := fun z hz => by rw [eL17]; exact List.mem_append_left _ hz
  have he17 : ∀ z ∈ L5, f17 z = f9 z := fun z hz => by rw [ef17]; exact va_up_ne _ _ (fun e => hqq16 (e ▸ hz))
  have hG : Gro L f tys h sz (L17, f17, t5) := by rw [eL17, ef17]; exact hG.new hqq16 (w9 hAq16)
  have hn : L17.Nodup := hG.1
  have hA : ∀ a ∈ L17, (gA L sz) a := fun a ha => by rw [eL17] at ha; rcases List.mem_append.mp ha with h9 | h9; exact hA a h9; rw [List.mem_singleton.mp h9]; exact hAq16
  have i18 : q1 ∈ L17 := hi17 _ i8
  have p19 : f17 q1 = .inr (2, [.ref ra0, .ref rb0, .ref rk0, .int 0]) := (he17 _ i8).trans p11
  have i20 : ra0 ∈ L17 := hi17 _ y15
  have p21 : mm_I t5 f17 ra0 4 (fun _ => 0) := (p12.eq (he17 _ y15))
  have i22 : rb0 ∈ L17 := hi17 _ y25
  have p23 : mm_I t5 f17 rb0 4 (fun _ => 0) := (p13.eq (he17 _ y25))
  have i24 : rk0 ∈ L17 := hi17 _ y35
  have p25 : mm_I t5 f17 rk0 4 (fun _ => 0) := (p14.eq (he17 _ y35))
  have i26 : h ∈ L17 := hi17 _ i6
  have p27 : f17 h = .inr (0, [.ref q1, .null, .null, .null, .int 0, .int 0, .int 0, .int 0]) := (he17 _ i6).trans p15
  have iqq16 : q16 ∈ L17 := by rw [eL17]; exact List.mem_append_right _ (List.mem_singleton.mpr rfl)
  have nqq16 : q16 ∉ L := n9 hG0 hqq16
  have hG0 : ∀ a ∈ L, a ∈ L17 := fun a ha => (hG.2.2.1 a ha).1
  have pqq16 : f17 q16 = .inr (2, [.null, .null, .null, .int 0]) := by rw [ef17]; exact va_up_self _ _ _
  refine lv_dup hx hb dF_init_19 rfl ?_
  have hz28 : sz ≤ H.size := by rw [← hsz]; exact hS.1
  refine then_g (run_IN (rest := [.ref q16, .ref h]) C0 hK (n_R_init hn iqq16 pqq16) gw100 nx98 gw99 gw5 rfl (by decide +kernel) ⟨Nat.le_of_ble_eq_true rfl, Nat.le_of_ble_eq_true rfl⟩ rfl rfl ⟨Nat.le_of_ble_eq_true rfl, Nat.le_of_ble_eq_true rfl⟩ hP hl.1 rfl (Nat.le_of_ble_eq_true rfl) dF_init_20) hS hA hA0 (fun u28 H locs hu28 hzz28 hP hK hS => ?_)
  obtain ⟨L28, f28, t28⟩ := u28
  obtain ⟨hg28, hpo28⟩ := hu28
  have hP : va_P D zCl (va_pl L28 f28) H := hP
  have hK : va_K D zCl t28 s := hK
  have hG : Gro L f tys h sz (L28, f28, t28) := hG.call nqq16 hz28 hg28
  have hG0o28 := hG0
  have hn : L28.Nodup := hG.1
  have hi28 : ∀ z ∈ L17, z ∈ L28 := fun z hz => (hg28.2.2.1 z hz).1
  have he28 : ∀ z ∈ L17, z ≠ q16 → f28 z = f17 z := fun z hz => (hg28.2.2.1 z hz).2
  have hy28 : ∀ z ∈ t5, z ∈ t28 := hg28.2.2.2
  have hA : ∀ a ∈ L28, (gA L sz) a := fun a ha => (hg28.2.1 a ha).elim (hA a) (fun h9 => hA0 a (by rw [hsz]; exact Nat.le_trans hz28 h9))
  have hG0 : ∀ a ∈ L, a ∈ L28 := fun a ha => (hG.2.2.1 a ha).1
  have i29 : q1 ∈ L28 := hi28 _ i18
  have p30 : f28 q1 = .inr (2, [.ref ra0, .ref rb0, .ref rk0, .int 0]) := (he28 _ i18 ne_q1_q16).trans p19
  have i31 : ra0 ∈ L28 := hi28 _ i20
  have p32 : mm_I t28 f28 ra0 4 (fun _ => 0) := (p21.eq (he28 _ i20 ne_ra0_q16)).more hy28
  have i33 : rb0 ∈ L28 := hi28 _ i22
  have p34 : mm_I t28 f28 rb0 4 (fun _ => 0) := (p23.eq (he28 _ i22 ne_rb0_q16)).more hy28
  have i35 : rk0 ∈ L28 := hi28 _ i24
  have p36 : mm_I t28 f28 rk0 4 (fun _ => 0) := (p25.eq (he28 _ i24 ne_rk0_q16)).more hy28
  have i37 : h ∈ L28 := hi28 _ i26
  have p38 : f28 h = .inr (0, [.ref q1, .null, .null, .null, .int 0, .int 0, .int 0, .int 0]) := (he28 _ i26 ne_h_q16).trans p27
  have i39 : q16 ∈ L28 := hi28 _ iqq16
  obtain ⟨ra1, rb1, rk1, ⟨x128, x228, x328⟩, ⟨y128, y228, y328⟩, ⟨d128, d228, d328⟩, po28, pa28, pb28, pk28⟩ := hpo28
  have nqra1 : ra1 ∉ L := n9 hG0o28 x128
  have ne_q1_ra1 : q1 ≠ ra1 := fun e => x128 (e ▸ i18)
  have ne_ra0_ra1 : ra0 ≠ ra1 := fun e => x128 (e ▸ i20)
  have ne_rb0_ra1 : rb0 ≠ ra1 := fun e => x128 (e ▸ i22)
  have ne_rk0_ra1 : rk0 ≠ ra1 := fun e => x128 (e ▸ i24)
  have ne_h_ra1 : h ≠ ra1 := fun e => x128 (e ▸ i26)
  have ne_q16_ra1 : q16 ≠ ra1 := fun e => x128 (e ▸ iqq16)
  have nqrb1 : rb1 ∉ L := n9 hG0o28 x228
  have ne_q1_rb1 : q1 ≠ rb1 := fun e => x228 (e ▸ i18)
  have ne_ra0_rb1 : ra0 ≠ rb1 := fun e => x228 (e ▸ i20)
  have ne_rb0_rb1 : rb0 ≠ rb1 := fun e => x228 (e ▸ i22)
  have ne_rk0_rb1 : rk0 ≠ rb1 := fun e => x228 (e ▸ i24)
  have ne_h_rb1 : h ≠ rb1 := fun e => x228 (e ▸ i26)
  have ne_q16_rb1 : q16 ≠ rb1 := fun e => x228 (e ▸ iqq16)
  have nqrk1 : rk1 ∉ L := n9 hG0o28 x328
  have ne_q1_rk1 : q1 ≠ rk1 := fun e => x328 (e ▸ i18)
  have ne_ra0_rk1 : ra0 ≠ rk1 := fun e => x328 (e ▸ i20)
  have ne_rb0_rk1 : rb0 ≠ rk1 := fun e => x328 (e ▸ i22)
  have ne_rk0_rk1 : rk0 ≠ rk1 := fun e => x328 (e ▸ i24)
  have ne_h_rk1 : h ≠ rk1 := fun e => x328 (e ▸ i26)
  have ne_q16_rk1 : q16 ≠ rk1 := fun e => x328 (e ▸ iqq16)
  have po28 : f28 q16 = .inr (2, [.ref ra1, .ref rb1, .ref rk1, .int 0]) := po28
  have pa28 : mm_I t28 f28 ra1 4 (fun _ => 0) := pa28
  have y128 : ra1 ∈ L28 := y128
  have pb28 : mm_I t28 f28 rb1 4 (fun _ => 0) := pb28
  have y228 : rb1 ∈ L28 := y228
  have pk28 : mm_I t28 f28 rk1 4 (fun _ => 0) := pk28
  have y328 : rk1 ∈ L28 := y328
  refine mg_putF (v := .ref q16) (ty := .object "LiquidChecker$Relations") hx hb hg inF tyF tyF_ok nmF hown hK hn hA hP hS i37 p38 rfl 1 (by decide) (hg _ gw153) (fun _ h9 => h9) rfl hnm9 rfl (by decide +kernel) rfl rfl (Nat.le_of_ble_eq_true rfl) dF_init_23 (fun H locs hP hS => ?_)
  obtain ⟨f40, hf40⟩ : ∃ z, z = va_up f28 h (.inr (0, [.ref q1, .ref q16, .null, .null, .int 0, .int 0, .int 0, .int 0])) := ⟨_, rfl⟩
  have hP : va_P D zCl (va_pl L28 f40) H := by rw [hf40]; exact hP
  have hs41 : Same1 f28 f40 h := fun z hz => by rw [hf40, va_up_ne _ _ hz]
  have hG : Gro L f tys h sz (L28, f40, t28) := hG.put (Or.inl rfl) hs41
  have p42 : f40 q1 = .inr (2, [.ref ra0, .ref rb0, .ref rk0, .int 0]) := (hs41 _ (Ne.symm ne_h_q1)).trans p30
  have p43 : mm_I t28 f40 ra0 4 (fun _ => 0) := p32.eq (hs41 _ (Ne.symm ne_h_ra0))
  have p44 : mm_I t28 f40 rb0 4 (fun _ => 0) := p34.eq (hs41 _ (Ne.symm ne_h_rb0))
  have p45 : mm_I t28 f40 rk0 4 (fun _ => 0) := p36.eq (hs41 _ (Ne.symm ne_h_rk0))
  have p46 : f40 q16 = .inr (2, [.ref ra1, .ref rb1, .ref rk1, .int 0]) := (hs41 _ (Ne.symm ne_h_q16)).trans po28
  have p47 : mm_I t28 f40 ra1 4 (fun _ => 0) := pa28.eq (hs41 _ (Ne.symm ne_h_ra1))
  have p48 : mm_I t28 f40 rb1 4 (fun _ => 0) := pb28.eq (hs41 _ (Ne.symm ne_h_rb1))
  have p49 : mm_I t28 f40 rk1 4 (fun _ => 0) := pk28.eq (hs41 _ (Ne.symm ne_h_rk1))
  have p50 : f40 h = .inr (0, [.ref q1, .ref q16, .null, .null, .int 0, .int 0, .int 0, .int 0]) := by rw [hf40]; exact va_up_self _ _ _
  refine lv_aload_n hx hb dF_init_26 rfl (lv_at hl 0 rfl) ?_
  refine lv_bipush (v := nI 16) hx hb dF_init_27 (by decide) ?_
  refine mg_newq (C := "LiquidChecker$Statement") hx hb hown (hg _ gw117) (hAo _ (by decide +kernel)) hK hP hn hA hS hA0 (by decide +kernel) (nI_clamp (by omega)) (by decide) (Nat.le_of_ble_eq_true rfl) (Nat.le_of_ble_eq_true rfl) dF_init_29 (fun q51 cq51 H hqq51 hAq51 hK hP hS => ?_)
  have ne_q1_q51 : q1 ≠ q51 := fun e => hqq51 (e ▸ i29)
  have ne_ra0_q51 : ra0 ≠ q51 := fun e => hqq51 (e ▸ i31)
  have ne_rb0_q51 : rb0 ≠ q51 := fun e => hqq51 (e ▸ i33)
  have ne_rk0_q51 : rk0 ≠ q51 := fun e => hqq51 (e ▸ i35)
  have ne_q16_q51 : q16 ≠ q51 := fun e => hqq51 (e ▸ i39)
  have ne_ra1_q51 : ra1 ≠ q51 := fun e => hqq51 (e ▸ y128)
  have ne_rb1_q51 : rb1 ≠ q51 := fun e => hqq51 (e ▸ y228)
  have ne_rk1_q51 : rk1 ≠ q51 := fun e => hqq51 (e ▸ y328)
  have ne_h_q51 : h ≠ q51 := fun e => hqq51 (e ▸ i37)
  obtain ⟨L52, eL52⟩ : ∃ z, z = L28 ++ [q51] := ⟨_, rfl⟩
  obtain ⟨f52, ef52⟩ : ∃ z, z = va_up f40 q51 (.inl (cq51, 16, .inr (.inr (.inr (.inr (fun _ => none)))))) := ⟨_, rfl⟩
  rw [← eL52, ← ef52] at hP
  obtain ⟨t52, et52⟩ : ∃ z, z = t28 ++ [(cq51, .object "LiquidChecker$Statement")] := ⟨_, rfl⟩
  rw [← et52] at hK
  have hy52 : ∀ z ∈ t28, z ∈ t52 := fun z hz => by rw [et52]; exact List.mem_append_left _ hz
  have hi52 : ∀ z ∈ L28, z ∈ L52 := fun z hz => by rw [eL52]; exact List.mem_append_left _ hz
  have he52 : ∀ z ∈ L28, f52 z = f40 z := fun z hz => by rw [ef52]; exact va_up_ne _ _ (fun e => hqq51 (e ▸ hz))
  have hG : Gro L f tys h sz (L52, f52, t52) := by rw [eL52, ef52, et52]; exact (hG.new hqq51 (w9 hAq51)).ty
  have hn : L52.Nodup := hG.1
  have hA : ∀ a ∈ L52, (gA L sz) a := fun a ha => by rw [eL52] at ha; rcases List.mem_append.mp ha with h9 | h9; exact hA a h9; rw [List.mem_singleton.mp h9]; exact hAq51
  have i53 : q1 ∈ L52 := hi52 _ i29
  have p54 : f52 q1 = .inr (2, [.ref ra0, .ref rb0, .ref rk0, .int 0]) := (he52 _ i29).trans p42
  have i55 : ra0 ∈ L52 := hi52 _ i31
  have p56 : mm_I t52 f52 ra0 4 (fun _ => 0) := (p43.eq (he52 _ i31)).more hy52
  have i57 : rb0 ∈ L52 := hi52 _ i33
  have p58 : mm_I t52 f52 rb0 4 (fun _ => 0) := (p44.eq (he52 _ i33)).more hy52
  have i59 : rk0 ∈ L52 := hi52 _ i35
  have p60 : mm_I t52 f52 rk0 4 (fun _ => 0) := (p45.eq (he52 _ i35)).more hy52
  have i61 : q16 ∈ L52 := hi52 _ i39
  have p62 : f52 q16 = .inr (2, [.ref ra1, .ref rb1, .ref rk1, .int 0]) := (he52 _ i39).trans p46
  have i63 : ra1 ∈ L52 := hi52 _ y128
  have p64 : mm_I t52 f52 ra1 4 (fun _ => 0) := (p47.eq (he52 _ y128)).more hy52
  have i65 : rb1 ∈ L52 := hi52 _ y228
  have p66 : mm_I t52 f52 rb1 4 (fun _ => 0) := (p48.eq (he52 _ y228)).more hy52
  have i67 : rk1 ∈ L52 := hi52 _ y328
  have p68 : mm_I t52 f52 rk1 4 (fun _ => 0) := (p49.eq (he52 _ y328)).more hy52
  have i69 : h ∈ L52 := hi52 _ i37
  have p70 : f52 h = .inr (0, [.ref q1, .ref q16, .null, .null, .int 0, .int 0, .int 0, .int 0]) := (he52 _ i37).trans p50
  have iqq51 : q51 ∈ L52 := by rw [eL52]; exact List.mem_append_right _ (List.mem_singleton.mpr rfl)
  have nqq51 : q51 ∉ L := n9 hG0 hqq51
  have hG0 : ∀ a ∈ L, a ∈ L52 := fun a ha => (hG.2.2.1 a ha).1
  have pqq51 : mm_Q t52 "LiquidChecker$Statement" f52 q51 16 (fun _ => none) := ⟨cq51, by rw [ef52]; exact va_up_self _ _ _, by rw [et52]; exact List.mem_append_right _ (List.mem_singleton.mpr rfl)⟩
  refine mg_putF (v := .ref q51) (ty := .array (.object "LiquidChecker$Statement")) hx hb hg inF tyF tyF_ok nmF hown hK hn hA hP hS i69 p70 rfl 2 (by decide) (hg _ gw156) (fun _ h9 => h9) rfl hnm9 rfl (by decide +kernel) rfl rfl (Nat.le_of_ble_eq_true rfl) dF_init_32 (fun H locs hP hS => ?_)
  obtain ⟨f71, hf71⟩ : ∃ z, z = va_up f52 h (.inr (0, [.ref q1, .ref q16, .ref q51, .null, .int 0, .int 0, .int 0, .int 0])) := ⟨_, rfl⟩
  have hP : va_P D zCl (va_pl L52 f71) H := by rw [hf71]; exact hP
  have hs72 : Same1 f52 f71 h := fun z hz => by rw [hf71, va_up_ne _ _ hz]
  have hG : Gro L f tys h sz (L52, f71, t52) := hG.put (Or.inl rfl) hs72
  have p73 : f71 q1 = .inr (2, [.ref ra0, .ref rb0, .ref rk0, .int 0]) := (hs72 _ (Ne.symm ne_h_q1)).trans p54
  have p74 : mm_I t52 f71 ra0 4 (fun _ => 0) := p56.eq (hs72 _ (Ne.symm ne_h_ra0))
  have p75 : mm_I t52 f71 rb0 4 (fun _ => 0) := p58.eq (hs72 _ (Ne.symm ne_h_rb0))
  have p76 : mm_I t52 f71 rk0 4 (fun _ => 0) := p60.eq (hs72 _ (Ne.symm ne_h_rk0))
  have p77 : f71 q16 = .inr (2, [.ref ra1, .ref rb1, .ref rk1, .int 0]) := (hs72 _ (Ne.symm ne_h_q16)).trans p62
  have p78 : mm_I t52 f71 ra1 4 (fun _ => 0) := p64.eq (hs72 _ (Ne.symm ne_h_ra1))
  have p79 : mm_I t52 f71 rb1 4 (fun _ => 0) := p66.eq (hs72 _ (Ne.symm ne_h_rb1))
  have p80 : mm_I t52 f71 rk1 4 (fun _ => 0) := p68.eq (hs72 _ (Ne.symm ne_h_rk1))
  have p81 : mm_Q t52 "LiquidChecker$Statement" f71 q51 16 (fun _ => none) := pqq51.eq (hs72 _ (Ne.symm ne_h_q51))
  have p82 : f71 h = .inr (0, [.ref q1, .ref q16, .ref q51, .null, .int 0, .int 0, .int 0, .int 0]) := by rw [hf71]; exact va_up_self _ _ _
  refine lv_aload_n hx hb dF_init_35 rfl (lv_at hl 0 rfl) ?_
  refine lv_bipush (v := nI 6) hx hb dF_init_36 (by decide) ?_
  refine mg_newa (atype := .int) (a0 := (6, .inl (fun _ => 0))) (ty := .int) hx hb (hg _ gw50) rfl hK hP hn hA hS hA0 (fun _ => rfl) (by decide +kernel) (nI_clamp (by omega)) (by decide) (Nat.le_of_ble_eq_true rfl) (Nat.le_of_ble_eq_true rfl) dF_init_38 (fun q83 cq83 H hqq83 hAq83 hK hP hS => ?_)
  have ne_q1_q83 : q1 ≠ q83 := fun e => hqq83 (e ▸ i53)
  have ne_ra0_q83 : ra0 ≠ q83 := fun e => hqq83 (e ▸ i55)
  have ne_rb0_q83 : rb0 ≠ q83 := fun e => hqq83 (e ▸ i57)
  have ne_rk0_q83 : rk0 ≠ q83 := fun e => hqq83 (e ▸ i59)
  have ne_q16_q83 : q16 ≠ q83 := fun e => hqq83 (e ▸ i61)
  have ne_ra1_q83 : ra1 ≠ q83 := fun e => hqq83 (e ▸ i63)
  have ne_rb1_q83 : rb1 ≠ q83 := fun e => hqq83 (e ▸ i65)
  have ne_rk1_q83 : rk1 ≠ q83 := fun e => hqq83 (e ▸ i67)
  have ne_q51_q83 : q51 ≠ q83 := fun e => hqq83 (e ▸ iqq51)
  have ne_h_q83 : h ≠ q83 := fun e => hqq83 (e ▸ i69)
  obtain ⟨L84, eL84⟩ : ∃ z, z = L52 ++ [q83] := ⟨_, rfl⟩
  obtain ⟨f84, ef84⟩ : ∃ z, z = va_up f71 q83 (.inl (cq83, 6, .inl (fun _ => 0))) := ⟨_, rfl⟩
  rw [← eL84, ← ef84] at hP
  obtain ⟨t84, et84⟩ : ∃ z, z = t52 ++ [(cq83, .int)] := ⟨_, rfl⟩
  rw [← et84] at hK
  have hy84 : ∀ z ∈ t52, z ∈ t84 := fun z hz => by rw [et84]; exact List.mem_append_left _ hz
  have hi84 : ∀ z ∈ L52, z ∈ L84 := fun z hz => by rw [eL84]; exact List.mem_append_left _ hz
  have he84 : ∀ z ∈ L52, f84 z = f71 z := fun z hz => by rw [ef84]; exact va_up_ne _ _ (fun e => hqq83 (e ▸ hz))
  have hG : Gro L f tys h sz (L84, f84, t84) := by rw [eL84, ef84, et84]; exact (hG.new hqq83 (w9 hAq83)).ty
  have hn : L84.Nodup := hG.1
  have hA : ∀ a ∈ L84, (gA L sz) a := fun a ha => by rw [eL84] at ha; rcases List.mem_append.mp ha with h9 | h9; exact hA a h9; rw [List.mem_singleton.mp h9]; exact hAq83
  have i85 : q1 ∈ L84 := hi84 _ i53
  have p86 : f84 q1 = .inr (2, [.ref ra0, .ref rb0, .ref rk0, .int 0]) := (he84 _ i53).trans p73
  have i87 : ra0 ∈ L84 := hi84 _ i55
  have p88 : mm_I t84 f84 ra0 4 (fun _ => 0) := (p74.eq (he84 _ i55)).more hy84
  have i89 : rb0 ∈ L84 := hi84 _ i57
  have p90 : mm_I t84 f84 rb0 4 (fun _ => 0) := (p75.eq (he84 _ i57)).more hy84
  have i91 : rk0 ∈ L84 := hi84 _ i59
  have p92 : mm_I t84 f84 rk0 4 (fun _ => 0) := (p76.eq (he84 _ i59)).more hy84
  have i93 : q16 ∈ L84 := hi84 _ i61
  have p94 : f84 q16 = .inr (2, [.ref ra1, .ref rb1, .ref rk1, .int 0]) := (he84 _ i61).trans p77
  have i95 : ra1 ∈ L84 := hi84 _ i63
  have p96 : mm_I t84 f84 ra1 4 (fun _ => 0) := (p78.eq (he84 _ i63)).more hy84
  have i97 : rb1 ∈ L84 := hi84 _ i65
  have p98 : mm_I t84 f84 rb1 4 (fun _ => 0) := (p79.eq (he84 _ i65)).more hy84
  have i99 : rk1 ∈ L84 := hi84 _ i67
  have p100 : mm_I t84 f84 rk1 4 (fun _ => 0) := (p80.eq (he84 _ i67)).more hy84
  have i101 : q51 ∈ L84 := hi84 _ iqq51
  have p102 : mm_Q t84 "LiquidChecker$Statement" f84 q51 16 (fun _ => none) := (p81.eq (he84 _ iqq51)).more hy84
  have i103 : h ∈ L84 := hi84 _ i69
  have p104 : f84 h = .inr (0, [.ref q1, .ref q16, .ref q51, .null, .int 0, .int 0, .int 0, .int 0]) := (he84 _ i69).trans p82
  have iqq83 : q83 ∈ L84 := by rw [eL84]; exact List.mem_append_right _ (List.mem_singleton.mpr rfl)
  have nqq83 : q83 ∉ L := n9 hG0 hqq83
  have hG0 : ∀ a ∈ L, a ∈ L84 := fun a ha => (hG.2.2.1 a ha).1
  have pqq83 : mm_I t84 f84 q83 6 (fun _ => 0) := ⟨cq83, by rw [ef84]; exact va_up_self _ _ _, by rw [et84]; exact List.mem_append_right _ (List.mem_singleton.mpr rfl)⟩
  refine mg_putF (v := .ref q83) (ty := .array .int) hx hb hg inF tyF tyF_ok nmF hown hK hn hA hP hS i103 p104 rfl 3 (by decide) (hg _ gw158) (fun _ h9 => h9) rfl hnm9 rfl (by decide +kernel) rfl rfl (Nat.le_of_ble_eq_true rfl) dF_init_40 (fun H locs hP hS => ?_)
  obtain ⟨f105, hf105⟩ : ∃ z, z = va_up f84 h (.inr (0, [.ref q1, .ref q16, .ref q51, .ref q83, .int 0, .int 0, .int 0, .int 0])) := ⟨_, rfl⟩
  have hP : va_P D zCl (va_pl L84 f105) H := by rw [hf105]; exact hP
  have hs106 : Same1 f84 f105 h := fun z hz => by rw [hf105, va_up_ne _ _ hz]
  have hG : Gro L f tys h sz (L84, f105, t84) := hG.put (Or.inl rfl) hs106
  have p107 : f105 q1 = .inr (2, [.ref ra0, .ref rb0, .ref rk0, .int 0]) := (hs106 _ (Ne.symm ne_h_q1)).trans p86
  have p108 : mm_I t84 f105 ra0 4 (fun _ => 0) := p88.eq (hs106 _ (Ne.symm ne_h_ra0))
  have p109 : mm_I t84 f105 rb0 4 (fun _ => 0) := p90.eq (hs106 _ (Ne.symm ne_h_rb0))
  have p110 : mm_I t84 f105 rk0 4 (fun _ => 0) := p92.eq (hs106 _ (Ne.symm ne_h_rk0))
  have p111 : f105 q16 = .inr (2, [.ref ra1, .ref rb1, .ref rk1, .int 0]) := (hs106 _ (Ne.symm ne_h_q16)).trans p94
  have p112 : mm_I t84 f105 ra1 4 (fun _ => 0) := p96.eq (hs106 _ (Ne.symm ne_h_ra1))
  have p113 : mm_I t84 f105 rb1 4 (fun _ => 0) := p98.eq (hs106 _ (Ne.symm ne_h_rb1))
  have p114 : mm_I t84 f105 rk1 4 (fun _ => 0) := p100.eq (hs106 _ (Ne.symm ne_h_rk1))
  have p115 : mm_Q t84 "LiquidChecker$Statement" f105 q51 16 (fun _ => none) := p102.eq (hs106 _ (Ne.symm ne_h_q51))
  have p116 : mm_I t84 f105 q83 6 (fun _ => 0) := pqq83.eq (hs106 _ (Ne.symm ne_h_q83))
  have p117 : f105 h = .inr (0, [.ref q1, .ref q16, .ref q51, .ref q83, .int 0, .int 0, .int 0, .int 0]) := by rw [hf105]; exact va_up_self _ _ _
  refine lv_iconst (v := nI 0) hx hb dF_init_43 (by decide) ?_
  refine lv_istore_n (lv' := [(1, .int (nI 0)), (0, .ref h)]) hx hb dF_init_44 rfl hl (by decide) rfl (fun ls hl => ?_)
  refine n_F_loop (dr := q1) (pr := q16) (sA := q51) (oA := q83) C0 hsz hA0 i103 p117 i101 (fun e => nqq51 (e ▸ hh)) hG0 16 0 _ _ _ _ (fun _ => 0) (by omega) (Gro.rfl2 hn) hA p115 ⟨fun j hj => by omega, fun j k hj => by omega⟩ H _ ls hK hP hS (lv_sub hl [0, 1] rfl) (fun Lk fk tk g sq H locs ls hG2 hA hQ hinv hK hP hS hl => ?_)
  have hP := mq_swap (g' := fun j => some (sq j)) hG2.1 hP ((hG2.2.2.1 _ i101).1) hQ (fun j hj => (hinv.1 j hj).1)
  have hQ2 : mm_Q tk "LiquidChecker$Statement" (mm_sq fk q51 (fun j => some (sq j))) q51 16 (fun j => some (sq j)) := hQ.set
  have hs9 : Same1 fk (mm_sq fk q51 (fun j => some (sq j))) q51 := fun z hz => mm_sq_ne hz
  have hG2 := hG2.put (Or.inl rfl) hs9
  obtain ⟨f9, ef9⟩ : ∃ z, z = mm_sq fk q51 (fun j => some (sq j)) := ⟨_, rfl⟩
  rw [← ef9] at hP hQ2 hG2 hs9
  have kp : ∀ z ∈ L84, z ≠ q51 → f9 z = f105 z := fun z hz => (hG2.2.2.1 z hz).2
  have kl : ∀ z ∈ L84, z ∈ Lk := fun z hz => (hG2.2.2.1 z hz).1
  have kt : ∀ z ∈ t84, z ∈ tk := hG2.2.2.2
  have hGe : Gro L f tys h sz (Lk, f9, tk) := hG.call nqq51 (Nat.le_refl _) hG2
  refine ret_g C0 hK hP hS ⟨hGe, q1, q16, q51, q83, ra0, rb0, rk0, ra1, rb1, rk1, sq, (kp _ i103 ne_h_q51).trans p117, ⟨(kp _ i85 ne_q1_q51).trans p107, (kp _ i93 ne_q16_q51).trans p111⟩, ⟨(p108.eq (kp _ i87 ne_ra0_q51)).more kt, (p109.eq (kp _ i89 ne_rb0_q51)).more kt, (p110.eq (kp _ i91 ne_rk0_q51)).more kt, (p112.eq (kp _ i95 ne_ra1_q51)).more kt, (p113.eq (kp _ i97 ne_rb1_q51)).more kt, (p114.eq (kp _ i99 ne_rk1_q51)).more kt⟩, hQ2, (p116.eq (kp _ iqq83 (Ne.symm ne_q51_q83))).more kt, fun j hj => (hs9 _ (fun e => absurd (e ▸ (hinv.1 j hj).2.2.2) (mm_Qno hQ))).trans (hinv.1 j hj).2.2.2, ?_, fun j hj => ⟨(hinv.1 j hj).2.1, n9 hG0 (hinv.1 j hj).2.2.1⟩, hinv.2, ne_q1_q16, ?_⟩ dF_init_70
  · intro x hx
    simp only [FnAd, List.mem_cons, List.not_mem_nil, or_false] at hx
    rcases hx with rfl | rfl | rfl | rfl | rfl | rfl | rfl | rfl | rfl | rfl
    · exact ⟨kl _ i85, nqq1⟩
    · exact ⟨kl _ i93, nqq16⟩
    · exact ⟨kl _ i101, nqq51⟩
    · exact ⟨kl _ iqq83, nqq83⟩
    · exact ⟨kl _ i87, nqra0⟩
    · exact ⟨kl _ i89, nqrb0⟩
    · exact ⟨kl _ i91, nqrk0⟩
    · exact ⟨kl _ i95, nqra1⟩
    · exact ⟨kl _ i97, nqrb1⟩
    · exact ⟨kl _ i99, nqrk1⟩
  · simp only [List.nodup_cons, List.mem_cons, List.not_mem_nil, or_false, not_or, List.nodup_nil, and_true, not_false_eq_true]
    exact ⟨⟨d15, d25, ne_ra0_ra1, ne_ra0_rb1, ne_ra0_rk1⟩, ⟨d35, ne_rb0_ra1, ne_rb0_rb1, ne_rb0_rk1⟩, ⟨ne_rk0_ra1, ne_rk0_rb1, ne_rk0_rk1⟩, ⟨d128, d228⟩, d328⟩
