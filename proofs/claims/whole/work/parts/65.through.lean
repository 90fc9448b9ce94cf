/-! Walk.through -/
theorem fw_run_inv {σ : Sg} {i : Nat} {ap : Int32} {aA aB : Nat} (hR : RlOk σ) (hi : i < 4) (hf : FnOk σ i) : ∀ (n : Nat) (o : Option Nat) (c : WC), WInv σ i o c → ∃ o', WInv σ i o' (fw_run σ i ap aA aB n o c) := by
  intro n
  induction n with
  | zero => exact fun o c h => ⟨o, h⟩
  | succ n ih =>
    intro o c h
    cases o with
    | none => exact ⟨none, h⟩
    | some p => exact ih _ _ (fw_step_inv hR hi hf h)
/-- the walk's cells, whatever they hold -/
def WTy (tys : List (ClassId × FieldType)) (L : List Nat) (f : Nat → va_E) (ww wk wkb wa wp : Nat) (wq wqb : Nat → Nat) : Prop :=
  WkAt tys L f ww wk wkb wa wp wq wqb ∧ (∃ x3 x4 x5 x6 x7 x8 x9 x10 : Int32, f ww = .inr (4, [.ref wk, .ref wa, .ref wp, .int x3, .int x4, .int x5, .int x6, .int x7, .int x8, .int x9, .int x10])) ∧ KnAny tys f wk wkb ∧ ∃ wpl, mm_I tys f wp 6 wpl
section WT
variable {tys : List (ClassId × FieldType)} {L : List Nat} {f f' f9 : Nat → va_E} {W wk wkb wa wp : Nat} {wq wqb : Nat → Nat}
theorem WSt.ty {ap : Int32} {aA aB ws : Nat} {gr pm lu : Int32} {en : Nat} {K : kl_K} {wpl : Nat → Int32} {SK : Nat → kl_K} (h : WSt tys L f W wk wkb wa wp wq wqb ap aA aB ws gr pm lu en K wpl SK) : WTy tys L f W wk wkb wa wp wq wqb := ⟨h.1, ⟨_, _, _, _, _, _, _, _, h.2.1⟩, h.2.2.1.any, _, h.2.2.2.1⟩
theorem WTy.notO (h : WTy tys L f W wk wkb wa wp wq wqb) {z ci : Nat} {fs : List Value} (hz : f z = .inr (ci, fs)) (h1 : ci ≠ 4) (h2 : ci ≠ 1) : ¬ WReg W wk wkb wp wq wqb z := by
  obtain ⟨⟨a1, a2, a3, a4, a5, a6⟩, ⟨_, _, _, _, _, _, _, _, b1⟩, ⟨⟨pv, k1⟩, g, k2⟩, wpl, b3⟩ := h
  rintro (e | e | e | e | ⟨j, hj, e | e⟩)
  · exact mm_OO hz b1 h1 e
  · exact mm_OO hz k1 h2 e
  · exact mm_IO k2 hz e
  · exact mm_IO b3 hz e
  · obtain ⟨⟨pv, c1⟩, -⟩ := a6 j hj
    exact mm_OO hz c1 h2 e
  · obtain ⟨-, g2, c2⟩ := a6 j hj
    exact mm_IO c2 hz e
theorem WTy.notQ (h : WTy tys L f W wk wkb wa wp wq wqb) {z n : Nat} {C : String} {g : Nat → Option Nat} (hz : mm_Q tys C f z n g) : ¬ WReg W wk wkb wp wq wqb z := by
  obtain ⟨⟨a1, a2, a3, a4, a5, a6⟩, ⟨_, _, _, _, _, _, _, _, b1⟩, ⟨⟨pv, k1⟩, g, k2⟩, wpl, b3⟩ := h
  rintro (e | e | e | e | ⟨j, hj, e | e⟩)
  · exact mm_QO hz b1 e.symm
  · exact mm_QO hz k1 e.symm
  · exact mm_IQ k2 hz e.symm
  · exact mm_IQ b3 hz e.symm
  · obtain ⟨⟨pv, c1⟩, -⟩ := a6 j hj
    exact mm_QO hz c1 e.symm
  · obtain ⟨-, g2, c2⟩ := a6 j hj
    exact mm_IQ c2 hz e.symm
theorem WTy.notI (h : WTy tys L f W wk wkb wa wp wq wqb) {z n : Nat} {g : Nat → Int32} (hz : mm_I tys f z n g) (h1 : n ≠ 144) (h2 : z ≠ wp) : ¬ WReg W wk wkb wp wq wqb z := by
  obtain ⟨⟨a1, a2, a3, a4, a5, a6⟩, ⟨_, _, _, _, _, _, _, _, b1⟩, ⟨⟨pv, k1⟩, g, k2⟩, wpl, b3⟩ := h
  rintro (e | e | e | e | ⟨j, hj, e | e⟩)
  · exact mm_IO hz b1 e.symm
  · exact mm_IO hz k1 e.symm
  · exact mm_II hz k2 h1 e
  · exact h2 e
  · obtain ⟨⟨pv, c1⟩, -⟩ := a6 j hj
    exact mm_IO hz c1 e.symm
  · obtain ⟨-, g2, c2⟩ := a6 j hj
    exact mm_II hz c2 h1 e
theorem WTy.notR (h : WTy tys L f W wk wkb wa wp wq wqb) (hs : Fr W wk wkb wp wq wqb f f') {r a b k N : Nat} {ga gb gk : Nat → Int32} {xa xb : Nat → Nat} (hR : RelAt tys L f r a b k N ga gb gk xa xb) : RelAt tys L f' r a b k N ga gb gk xa xb := by
  obtain ⟨h1, h2, h3, h4, h5, h6⟩ := id hR
  have nw : ∀ {z : Nat} {g : Nat → Int32}, mm_I tys f z 4 g → z ≠ wp := fun hz => mm_II hz h.2.2.2.choose_spec (by decide)
  exact hR.eq (hs _ (h.notO h2 (by decide) (by decide))) (hs _ (h.notI h3 (by decide) (nw h3))) (hs _ (h.notI h4 (by decide) (nw h4))) (hs _ (h.notI h5 (by decide) (nw h5)))
variable {fa : Nat} {fn dr pr sA oA ra rb rk : Nat → Nat} {sq : Nat → Nat → Nat} {oi ni : Nat → Nat} {gv : Nat → Int32} {go : Nat → Nat → Int32} {σ : Sg}
theorem FnsAt.fr2 (hF : FnsAt tys L f fa fn dr pr sA oA ra rb rk sq oi ni gv go σ) (h : WTy tys L f W wk wkb wa wp wq wqb) (hs : Fr W wk wkb wp wq wqb f f') (ho : ∀ i, i < 4 → oA i ≠ wp) : FnsAt tys L f' fa fn dr pr sA oA ra rb rk sq oi ni gv go σ := by
  obtain ⟨⟨a1, a2⟩, a3⟩ := hF
  refine ⟨⟨a1, a2.eq (hs _ (h.notQ a2))⟩, fun i hi => ?_⟩
  obtain ⟨⟨b1, b2⟩, b3, b4, ⟨b5, b6⟩, b7, b8, b9, b10⟩ := a3 i hi
  exact ⟨⟨b1, by rw [hs _ (h.notO b2 (by decide) (by decide))]; exact b2⟩, h.notR hs b3, h.notR hs b4, ⟨b5, b6.eq (hs _ (h.notQ b6))⟩, b7, fun j hj => by rw [hs _ (h.notO (b8 j hj) (by decide) (by decide))]; exact b8 j hj, b9, b10.eq (hs _ (h.notI b10 (by decide) (ho i hi)))⟩
/-- a walk begins -/
theorem th_init (h : WTy tys L f W wk wkb wa wp wq wqb) {ap : Int32} {aA aB : Nat} {gr pm lu : Int32} (h1 : f' W = wObj wk wa wp 0 ap aA aB gr pm lu 0) (hs : Same1 f f' W) (hk : KnAt tys f9 wk wkb kl_0) (hs2 : Same2 f' f9 wk wkb) : ∃ wpl, WStc tys L f9 W wk wkb wa wp wq wqb ap aA aB (0, gr, pm, lu, 0, kl_0, wpl, fun _ => kl_0) ∧ Fr W wk wkb wp wq wqb f f9 := by
  obtain ⟨⟨a1, a2, a3, a4, a5, a6⟩, ⟨_, _, _, _, _, _, _, _, b1⟩, ⟨⟨pv, k1⟩, g, k2⟩, wpl, b3⟩ := h
  have e : ∀ z, z ≠ W → z ≠ wk → z ≠ wkb → f9 z = f z := fun z z1 z2 z3 => by rw [hs2 z z2 z3, hs z z1]
  refine ⟨wpl, ⟨⟨a1, a2.eq (e _ (Ne.symm (mm_QO a2 b1)) (Ne.symm (mm_QO a2 k1)) (Ne.symm (mm_IQ k2 a2))), a3, a4, a5, fun j hj => ?_⟩, ?_, hk, b3.eq (e _ (Ne.symm (mm_IO b3 b1)) (Ne.symm (mm_IO b3 k1)) (mm_II b3 k2 (by decide))), fun j hj => absurd hj (Nat.not_lt_zero j)⟩, fun z hz => e z (fun q => hz (Or.inl q)) (fun q => hz (Or.inr (Or.inl q))) (fun q => hz (Or.inr (Or.inr (Or.inl q))))⟩
  · obtain ⟨⟨pv, c1⟩, g2, c2⟩ := id (a6 j hj)
    exact (a6 j hj).eq (e _ (mm_OO c1 b1 (by decide)) (Ne.symm (a4 j hj).1) (mm_IO k2 c1)) (e _ (Ne.symm (mm_IO c2 b1)) (Ne.symm (mm_IO c2 k1)) (Ne.symm (a4 j hj).2))
  · rw [hs2 _ (mm_OO b1 k1 (by decide)) (mm_IO k2 b1)]; exact h1
end WT
def th_K (σ : Sg) (i : Nat) : kl_K := s_rels σ (2 * i) 1 2 kl_0
def th_o (σ : Sg) (i : Nat) : Option Nat := if (th_K σ i).1 = true then some 0 else none
def th_c (σ : Sg) (i : Nat) (wpl : Nat → Int32) : WC := (0, -1000000, nI 0, -1, 0, th_K σ i, wpl, fun _ => kl_0)
theorem th_inv {σ : Sg} {i : Nat} {wpl : Nat → Int32} (hR : RlOk σ) (hi : i < 4) : WInv σ i (th_o σ i) (th_c σ i wpl) := by
  refine ⟨fun p hp => ?_, Nat.zero_le _, fun j hj => absurd hj (Nat.not_lt_zero j)⟩
  unfold th_o at hp
  split at hp
  · cases hp
    exact ⟨Nat.zero_le _, Nat.zero_le _, (s_rels_ok (hR _ (by omega)) (by omega) (by omega) kl_0_ok).mono (by unfold tb; omega)⟩
  · cases hp
set_option maxRecDepth 100000 in
set_option maxHeartbeats 4000000 in
theorem w_th_loop {pgm : Program} {l : Launch} {e : Env} {s : State} {m : MethodId} {args : Array Value} {below : List Frame} {meth : Method} {cd : Code} {D : va_G} {tys : List (ClassId × FieldType)} {L : List Nat} {f0 : Nat → va_E} {Q : State → Prop} (C0 : Cx pgm s m args meth cd cW_through 8 "LiquidChecker$Walk" none D tys) (hn : L.Nodup) {ww wk wkb wa wp : Nat} {wq wqb : Nat → Nat} {ap : Int32} {aA aB : Nat} {fa : Nat} {fn dr pr sA oA ra rb rk : Nat → Nat} {sq : Nat → Nat → Nat} {oi ni : Nat → Nat} {gv : Nat → Int32} {go : Nat → Nat → Int32} {σ : Sg} (ho : ∀ i, i < 4 → oA i ≠ wp) (hR : RlOk σ) {i : Nat} (hi : i < 4) (hf : FnOk σ i) (haA : aA < 12) (haB : aB < 12) : ∀ (n k : Nat) (o : Option Nat) (c : WC) (f : Nat → va_E), k + n = 64 → WStc tys L f ww wk wkb wa wp wq wqb ap aA aB c → FnsAt tys L f fa fn dr pr sA oA ra rb rk sq oi ni gv go σ → Fr ww wk wkb wp wq wqb f0 f → WInv σ i o c → ∀ (H : Heap) (locs : List Loc) (ls : Array Slot), va_P D zCl (va_pl L f) H → va_S (inL L) s.heap H locs → lv_has ls 8 [(7, .int (nI k)), (6, .int (enP o)), (0, .ref ww), (1, .ref fa), (2, .ref (fn i)), (3, .int ap), (4, .int (nI aA)), (5, .int (nI aB))] → (∀ (f : Nat → va_E) (H : Heap) (locs : List Loc) (ls : Array Slot), WStc tys L f ww wk wkb wa wp wq wqb ap aA aB (th_run σ i ap aA aB n o c) → FnsAt tys L f fa fn dr pr sA oA ra rb rk sq oi ni gv go σ → Fr ww wk wkb wp wq wqb f0 f → va_P D zCl (va_pl L f) H → va_S (inL L) s.heap H locs → ls.size = 8 → W pgm l e ({ frames := 5, cells := 0, slots := 0, locals := 125 } : Room) s m args below meth cd H locs 0 0 Q (F0 m 116 ls [])) → W pgm l e ({ frames := 5, cells := 0, slots := 0, locals := 125 } : Room) s m args below meth cd H locs 0 0 Q (F0 m 83 ls []) := by
  obtain ⟨hx, hb, hml, hown, hg, hr, hlocks, hK, hN⟩ := id C0
  have hA : ∀ a ∈ L, inL L a := fun _ h => h
  intro n
  induction n with
  | zero =>
    intro k o c f hk hw hF hfr hv H locs ls hP hS hl hx2
    obtain rfl : k = 64 := by omega
    refine lv_iload hx hb dW_through_83 (lv_at hl 0 rfl) ?_
    refine lv_bipush (v := nI 64) hx hb dW_through_85 (by decide) ?_
    refine lv_icmp_ge (tgt := 116) hx hb dW_through_87 (by decide) (fun c87 => ?_) (fun c87 => absurd (nI_le (by omega) (by omega)) c87)
    exact hx2 f H locs ls hw hF hfr hP hS hl.1
  | succ n ih =>
    intro k o c f hk hw hF hfr hv H locs ls hP hS hl hx2
    cases o with
    | none =>
      have hl : lv_has ls 8 [(7, .int (nI k)), (6, .int (-1)), (0, .ref ww), (1, .ref fa), (2, .ref (fn i)), (3, .int ap), (4, .int (nI aA)), (5, .int (nI aB))] := hl
      refine lv_iload hx hb dW_through_83 (lv_at hl 0 rfl) ?_
      refine lv_bipush (v := nI 64) hx hb dW_through_85 (by decide) ?_
      refine lv_icmp_ge (tgt := 116) hx hb dW_through_87 (by decide) (fun c87 => absurd c87 (nI_ge (show k < 64 by omega) (by omega))) (fun c87 => ?_)
      refine lv_iload hx hb dW_through_90 (lv_at hl 1 rfl) ?_
      refine lv_iconst (v := (-1)) hx hb dW_through_92 (by decide) ?_
      refine lv_icmp_eq (tgt := 116) hx hb dW_through_93 (by decide) (fun c93 => ?_) (fun c93 => absurd rfl c93)
      exact hx2 f H locs ls hw hF hfr hP hS hl.1
    | some p =>
      obtain ⟨hp0, hp1, hp2⟩ := hv.1 p rfl
      have hp3 := hf.1
      have hl : lv_has ls 8 [(7, .int (nI k)), (6, .int (nI p)), (0, .ref ww), (1, .ref fa), (2, .ref (fn i)), (3, .int ap), (4, .int (nI aA)), (5, .int (nI aB))] := hl
      refine lv_iload hx hb dW_through_83 (lv_at hl 0 rfl) ?_
      refine lv_bipush (v := nI 64) hx hb dW_through_85 (by decide) ?_
      refine lv_icmp_ge (tgt := 116) hx hb dW_through_87 (by decide) (fun c87 => absurd c87 (nI_ge (show k < 64 by omega) (by omega))) (fun c87 => ?_)
      refine lv_iload hx hb dW_through_90 (lv_at hl 1 rfl) ?_
      refine lv_iconst (v := (-1)) hx hb dW_through_92 (by decide) ?_
      refine lv_icmp_eq (tgt := 116) hx hb dW_through_93 (by decide) (fun c93 => absurd c93 (nI_m1 (by omega))) (fun c93 => ?_)
      refine lv_aload_n hx hb dW_through_96 rfl (lv_at hl 2 rfl) ?_
      refine lv_iload hx hb dW_through_97 (lv_at hl 1 rfl) ?_
      refine lv_aload_n hx hb dW_through_99 rfl (lv_at hl 3 rfl) ?_
      refine lv_aload_n hx hb dW_through_100 rfl (lv_at hl 4 rfl) ?_
      refine then_v (run_V (n := 3) (As := [.int (nI p), .ref fa, .ref (fn i)]) (rest := []) C0 (w_followFrom hn hw hF ho hR hi hf haA haB hv) gw435 gw432 gw434 gsW_followFrom gw2 (by decide +kernel) ⟨Nat.le_of_ble_eq_true rfl, Nat.le_of_ble_eq_true rfl⟩ rfl rfl ⟨Nat.le_of_ble_eq_true rfl, Nat.le_of_ble_eq_true rfl⟩ hP hw.1.1.1 hw.2.1 rfl rfl rfl hl.1 rfl (Nat.le_of_ble_eq_true rfl) dW_through_101) hS hA (fun f1 H locs hq101 hP hS => ?_)
      obtain ⟨hw2, hF2, hg2⟩ := hq101
      have hfr2 := hfr.trans hg2
      obtain ⟨o2, hv2⟩ := fw_run_inv (ap := ap) (aA := aA) (aB := aB) hR hi hf 17 (some p) c hv
      have hv3 := fw_take_inv hf hv2
      obtain ⟨c1, hc1⟩ : ∃ z, z = fw_run σ i ap aA aB 17 (some p) c := ⟨_, rfl⟩
      rw [← hc1] at hw2 hv2 hv3
      refine lv_aload_n hx hb dW_through_104 rfl (lv_at hl 2 rfl) ?_
      by_cases hz : c1.ws = 0
      · refine then_i (run_V (n := 0) (As := []) (rest := []) C0 (w_take0 hn hw2.1.1.1 hw2.2.1 hz) gw502 gw499 gw501 gsW_takeWaitingSide gw2 (by decide +kernel) ⟨Nat.le_of_ble_eq_true rfl, Nat.le_of_ble_eq_true rfl⟩ rfl rfl ⟨Nat.le_of_ble_eq_true rfl, Nat.le_of_ble_eq_true rfl⟩ hP hw2.1.1.1 hw2.2.1 rfl rfl rfl hl.1 rfl (Nat.le_of_ble_eq_true rfl) dW_through_105) hS hA (fun r3 f2 H locs hq105 hP hS => ?_)
        obtain ⟨er9, ef9⟩ := hq105
        subst er9
        rw [ef9] at hP
        have et : fw_take c1 = (none, c1) := if_pos hz
        refine lv_istore (lv' := [(6, .int (-1)), (7, .int (nI k)), (0, .ref ww), (1, .ref fa), (2, .ref (fn i)), (3, .int ap), (4, .int (nI aA)), (5, .int (nI aB))]) hx hb dW_through_108 hl (by decide) rfl (fun ls hl => ?_)
        refine lv_iinc (v := nI (k + 1)) (lv' := [(7, .int (nI (k + 1))), (6, .int (-1)), (0, .ref ww), (1, .ref fa), (2, .ref (fn i)), (3, .int ap), (4, .int (nI aA)), (5, .int (nI aB))]) hx hb dW_through_110 hl (k := 1) rfl (nI_add k 1) (by decide) rfl (fun ls hl => ?_)
        refine lv_goto (tgt := 83) hx hb dW_through_113 (by decide) ?_
        refine ih (k + 1) (fw_take c1).1 (fw_take c1).2 f1 (by omega) (by rw [et]; exact hw2) hF2 hfr2 hv3 H locs ls hP hS ?_ (fun f H locs ls a1 a2 a3 a4 a5 a6 => hx2 f H locs ls ?_ a2 a3 a4 a5 a6)
        · rw [et]; exact lv_sub hl [0, 1, 2, 3, 4, 5, 6, 7] rfl
        · rw [hc1] at a1; exact a1
      · refine then_i (run_V (n := 0) (As := []) (rest := []) C0 (w_take hn hw2.1.1.1 hw2.2.1 hw2.1.1.2.1 hw2.1.1.2.2.1 hw2.2.2.1 hw2.1.1.2.2.2.1 hw2.1.2.1 hw2.1.1.2.2.2.2 hw2.2.2.2.1 hw2.1.2.2.1 hw2.1.2.2.2.1 (by omega) hv2.2.1 (hw2.2.2.2.2 (c1.ws - 1) (by omega) (by have := hv2.2.1; omega))) gw502 gw499 gw501 gsW_takeWaitingSide gw2 (by decide +kernel) ⟨Nat.le_of_ble_eq_true rfl, Nat.le_of_ble_eq_true rfl⟩ rfl rfl ⟨Nat.le_of_ble_eq_true rfl, Nat.le_of_ble_eq_true rfl⟩ hP hw2.1.1.1 hw2.2.1 rfl rfl rfl hl.1 rfl (Nat.le_of_ble_eq_true rfl) dW_through_105) hS hA (fun r5 f4 H locs hq105 hP hS => ?_)
        obtain ⟨er9, hv9, hk9, hs9⟩ := hq105
        obtain ⟨hw3, hg3⟩ := WSt.upd3 hw2 (by omega) hv9 hk9 hs9
        have hF3 := hF2.fr hw2 hg3 ho
        have hfr3 := hfr2.trans hg3
        have et : fw_take c1 = (some (nt (c1.pl (c1.ws - 1))), (c1.ws - 1, c1.gr, c1.pm, c1.lu, c1.en, c1.SK (c1.ws - 1), c1.pl, c1.SK)) := if_neg hz
        obtain ⟨q9, qe, qs, -⟩ := hv2.2.2 (c1.ws - 1) (by omega)
        have en9 : enP (some (nt (c1.pl (c1.ws - 1)))) = r5 := by rw [er9, qe, nt_nI (by omega)]; rfl
        refine lv_istore (lv' := [(6, .int r5), (7, .int (nI k)), (0, .ref ww), (1, .ref fa), (2, .ref (fn i)), (3, .int ap), (4, .int (nI aA)), (5, .int (nI aB))]) hx hb dW_through_108 hl (by decide) rfl (fun ls hl => ?_)
        refine lv_iinc (v := nI (k + 1)) (lv' := [(7, .int (nI (k + 1))), (6, .int r5), (0, .ref ww), (1, .ref fa), (2, .ref (fn i)), (3, .int ap), (4, .int (nI aA)), (5, .int (nI aB))]) hx hb dW_through_110 hl (k := 1) rfl (nI_add k 1) (by decide) rfl (fun ls hl => ?_)
        refine lv_goto (tgt := 83) hx hb dW_through_113 (by decide) ?_
        refine ih (k + 1) (fw_take c1).1 (fw_take c1).2 f4 (by omega) (by rw [et]; exact hw3) hF3 hfr3 hv3 H locs ls hP hS ?_ (fun f H locs ls a1 a2 a3 a4 a5 a6 => hx2 f H locs ls ?_ a2 a3 a4 a5 a6)
        · rw [et]; rw [en9]; exact lv_sub hl [0, 1, 2, 3, 4, 5, 6, 7] rfl
        · rw [hc1] at a1; exact a1
set_option maxRecDepth 100000 in
set_option maxHeartbeats 4000000 in
theorem w_through {l : Launch} {D : va_G} {tys : List (ClassId × FieldType)} {L : List Nat} {f : Nat → va_E} (hn : L.Nodup) {ww wk wkb wa wp : Nat} {wq wqb : Nat → Nat} {ap : Int32} {aA aB : Nat} {fa : Nat} {fn dr pr sA oA ra rb rk : Nat → Nat} {sq : Nat → Nat → Nat} {oi ni : Nat → Nat} {gv : Nat → Int32} {go : Nat → Nat → Int32} {σ : Sg} (hty : WTy tys L f ww wk wkb wa wp wq wqb) (hF : FnsAt tys L f fa fn dr pr sA oA ra rb rk sq oi ni gv go σ) (ho : ∀ i, i < 4 → oA i ≠ wp) (hR : RlOk σ) {i : Nat} (hi : i < 4) (hf : FnOk σ i) (haA : aA < 12) (haB : aB < 12) : MetV l yW_through wW_through ({ frames := 5, cells := 0, slots := 0, locals := 125 } : Room) D tys L f [.ref ww, .ref fa, .ref (fn i), .int ap, .int (nI aA), .int (nI aB)] (fun f' => (∃ wpl, WStc tys L f' ww wk wkb wa wp wq wqb ap aA aB (th_run σ i ap aA aB 64 (th_o σ i) (th_c σ i wpl))) ∧ FnsAt tys L f' fa fn dr pr sA oA ra rb rk sq oi ni gv go σ ∧ Fr ww wk wkb wp wq wqb f f') := by
  refine met_of "LiquidChecker$Walk" (by decide) rfl (Nat.le_of_ble_eq_true rfl) ?_
  intro pgm e s m below meth cd ls C0 hP hl
  obtain ⟨hx, hb, hml, hown, hg, hr, hlocks, hK, hN⟩ := id C0
  have hA : ∀ a ∈ L, inL L a := fun _ h => h
  obtain ⟨H, hH⟩ : ∃ z, z = s.heap := ⟨_, rfl⟩
  rw [← hH] at hP ⊢
  have hS : va_S (inL L) s.heap H [] := by rw [hH]; exact va_S.rf
  have hl : lv_has ls 8 [(0, .ref ww), (1, .ref fa), (2, .ref (fn i)), (3, .int ap), (4, .int (nI aA)), (5, .int (nI aB))] := hl
  obtain ⟨x3, x4, x5, x6, x7, x8, x9, x10, v1⟩ := id hty.2.1
  refine lv_aload_n hx hb dW_through_0 rfl (lv_at hl 0 rfl) ?_
  refine lv_iload_n hx hb dW_through_1 rfl (lv_at hl 3 rfl) ?_
  refine mm_put (v := .int ap) (ty := .int) hx hb hg inW tyW tyW_ok nmW hown hK hn hA hP hS hty.1.1.1 v1 rfl 4 (by decide) (hg _ gw56) (fun _ h9 => h9) rfl (by decide +kernel) rfl rfl (Nat.le_of_ble_eq_true rfl) dW_through_2 (fun H locs hP hS => ?_)
  obtain ⟨f1, hf1⟩ : ∃ z, z = va_up f ww (.inr (4, [.ref wk, .ref wa, .ref wp, .int x3, .int ap, .int x5, .int x6, .int x7, .int x8, .int x9, .int x10])) := ⟨_, rfl⟩
  have hP : va_P D zCl (va_pl L f1) H := by rw [hf1]; exact hP
  have p2 : f1 ww = .inr (4, [.ref wk, .ref wa, .ref wp, .int x3, .int ap, .int x5, .int x6, .int x7, .int x8, .int x9, .int x10]) := by rw [hf1]; exact va_up_self _ _ _
  refine lv_aload_n hx hb dW_through_5 rfl (lv_at hl 0 rfl) ?_
  refine lv_iload hx hb dW_through_6 (lv_at hl 4 rfl) ?_
  refine mm_put (v := .int (nI aA)) (ty := .int) hx hb hg inW tyW tyW_ok nmW hown hK hn hA hP hS hty.1.1.1 p2 rfl 5 (by decide) (hg _ gw57) (fun _ h9 => h9) rfl (by decide +kernel) rfl rfl (Nat.le_of_ble_eq_true rfl) dW_through_8 (fun H locs hP hS => ?_)
  obtain ⟨f3, hf3⟩ : ∃ z, z = va_up f1 ww (.inr (4, [.ref wk, .ref wa, .ref wp, .int x3, .int ap, .int (nI aA), .int x6, .int x7, .int x8, .int x9, .int x10])) := ⟨_, rfl⟩
  have hP : va_P D zCl (va_pl L f3) H := by rw [hf3]; exact hP
  have p4 : f3 ww = .inr (4, [.ref wk, .ref wa, .ref wp, .int x3, .int ap, .int (nI aA), .int x6, .int x7, .int x8, .int x9, .int x10]) := by rw [hf3]; exact va_up_self _ _ _
  refine lv_aload_n hx hb dW_through_11 rfl (lv_at hl 0 rfl) ?_
  refine lv_iload hx hb dW_through_12 (lv_at hl 5 rfl) ?_
  refine mm_put (v := .int (nI aB)) (ty := .int) hx hb hg inW tyW tyW_ok nmW hown hK hn hA hP hS hty.1.1.1 p4 rfl 6 (by decide) (hg _ gw58) (fun _ h9 => h9) rfl (by decide +kernel) rfl rfl (Nat.le_of_ble_eq_true rfl) dW_through_14 (fun H locs hP hS => ?_)
  obtain ⟨f5, hf5⟩ : ∃ z, z = va_up f3 ww (.inr (4, [.ref wk, .ref wa, .ref wp, .int x3, .int ap, .int (nI aA), .int (nI aB), .int x7, .int x8, .int x9, .int x10])) := ⟨_, rfl⟩
  have hP : va_P D zCl (va_pl L f5) H := by rw [hf5]; exact hP
  have p6 : f5 ww = .inr (4, [.ref wk, .ref wa, .ref wp, .int x3, .int ap, .int (nI aA), .int (nI aB), .int x7, .int x8, .int x9, .int x10]) := by rw [hf5]; exact va_up_self _ _ _
  refine lv_aload_n hx hb dW_through_17 rfl (lv_at hl 0 rfl) ?_
  refine lv_ldc hx hb hown (hg _ gw412) dW_through_18 ?_
  refine mm_put (v := .int (-1000000)) (ty := .int) hx hb hg inW tyW tyW_ok nmW hown hK hn hA hP hS hty.1.1.1 p6 rfl 7 (by decide) (hg _ gw59) (fun _ h9 => h9) rfl (by decide +kernel) rfl rfl (Nat.le_of_ble_eq_true rfl) dW_through_20 (fun H locs hP hS => ?_)
  obtain ⟨f7, hf7⟩ : ∃ z, z = va_up f5 ww (.inr (4, [.ref wk, .ref wa, .ref wp, .int x3, .int ap, .int (nI aA), .int (nI aB), .int (-1000000), .int x8, .int x9, .int x10])) := ⟨_, rfl⟩
  have hP : va_P D zCl (va_pl L f7) H := by rw [hf7]; exact hP
  have p8 : f7 ww = .inr (4, [.ref wk, .ref wa, .ref wp, .int x3, .int ap, .int (nI aA), .int (nI aB), .int (-1000000), .int x8, .int x9, .int x10]) := by rw [hf7]; exact va_up_self _ _ _
  refine lv_aload_n hx hb dW_through_23 rfl (lv_at hl 0 rfl) ?_
  refine lv_iconst (v := nI 0) hx hb dW_through_24 (by decide) ?_
  refine mm_put (v := .int (nI 0)) (ty := .int) hx hb hg inW tyW tyW_ok nmW hown hK hn hA hP hS hty.1.1.1 p8 rfl 8 (by decide) (hg _ gw61) (fun _ h9 => h9) rfl (by decide +kernel) rfl rfl (Nat.le_of_ble_eq_true rfl) dW_through_25 (fun H locs hP hS => ?_)
  obtain ⟨f9, hf9⟩ : ∃ z, z = va_up f7 ww (.inr (4, [.ref wk, .ref wa, .ref wp, .int x3, .int ap, .int (nI aA), .int (nI aB), .int (-1000000), .int (nI 0), .int x9, .int x10])) := ⟨_, rfl⟩
  have hP : va_P D zCl (va_pl L f9) H := by rw [hf9]; exact hP
  have p10 : f9 ww = .inr (4, [.ref wk, .ref wa, .ref wp, .int x3, .int ap, .int (nI aA), .int (nI aB), .int (-1000000), .int (nI 0), .int x9, .int x10]) := by rw [hf9]; exact va_up_self _ _ _
  refine lv_aload_n hx hb dW_through_28 rfl (lv_at hl 0 rfl) ?_
  refine lv_iconst (v := (-1)) hx hb dW_through_29 (by decide) ?_
  refine mm_put (v := .int (-1)) (ty := .int) hx hb hg inW tyW tyW_ok nmW hown hK hn hA hP hS hty.1.1.1 p10 rfl 9 (by decide) (hg _ gw62) (fun _ h9 => h9) rfl (by decide +kernel) rfl rfl (Nat.le_of_ble_eq_true rfl) dW_through_30 (fun H locs hP hS => ?_)
  obtain ⟨f11, hf11⟩ : ∃ z, z = va_up f9 ww (.inr (4, [.ref wk, .ref wa, .ref wp, .int x3, .int ap, .int (nI aA), .int (nI aB), .int (-1000000), .int (nI 0), .int (-1), .int x10])) := ⟨_, rfl⟩
  have hP : va_P D zCl (va_pl L f11) H := by rw [hf11]; exact hP
  have p12 : f11 ww = .inr (4, [.ref wk, .ref wa, .ref wp, .int x3, .int ap, .int (nI aA), .int (nI aB), .int (-1000000), .int (nI 0), .int (-1), .int x10]) := by rw [hf11]; exact va_up_self _ _ _
  refine lv_aload_n hx hb dW_through_33 rfl (lv_at hl 0 rfl) ?_
  refine lv_iconst (v := nI 0) hx hb dW_through_34 (by decide) ?_
  refine mm_put (v := .int (nI 0)) (ty := .int) hx hb hg inW tyW tyW_ok nmW hown hK hn hA hP hS hty.1.1.1 p12 rfl 10 (by decide) (hg _ gw64) (fun _ h9 => h9) rfl (by decide +kernel) rfl rfl (Nat.le_of_ble_eq_true rfl) dW_through_35 (fun H locs hP hS => ?_)
  obtain ⟨f13, hf13⟩ : ∃ z, z = va_up f11 ww (.inr (4, [.ref wk, .ref wa, .ref wp, .int x3, .int ap, .int (nI aA), .int (nI aB), .int (-1000000), .int (nI 0), .int (-1), .int (nI 0)])) := ⟨_, rfl⟩
  have hP : va_P D zCl (va_pl L f13) H := by rw [hf13]; exact hP
  have p14 : f13 ww = .inr (4, [.ref wk, .ref wa, .ref wp, .int x3, .int ap, .int (nI aA), .int (nI aB), .int (-1000000), .int (nI 0), .int (-1), .int (nI 0)]) := by rw [hf13]; exact va_up_self _ _ _
  refine lv_aload_n hx hb dW_through_38 rfl (lv_at hl 0 rfl) ?_
  refine lv_iconst (v := nI 0) hx hb dW_through_39 (by decide) ?_
  refine mm_put (v := .int (nI 0)) (ty := .int) hx hb hg inW tyW tyW_ok nmW hown hK hn hA hP hS hty.1.1.1 p14 rfl 3 (by decide) (hg _ gw55) (fun _ h9 => h9) rfl (by decide +kernel) rfl rfl (Nat.le_of_ble_eq_true rfl) dW_through_40 (fun H locs hP hS => ?_)
  obtain ⟨f15, hf15⟩ : ∃ z, z = va_up f13 ww (.inr (4, [.ref wk, .ref wa, .ref wp, .int (nI 0), .int ap, .int (nI aA), .int (nI aB), .int (-1000000), .int (nI 0), .int (-1), .int (nI 0)])) := ⟨_, rfl⟩
  have hP : va_P D zCl (va_pl L f15) H := by rw [hf15]; exact hP
  have p16 : f15 ww = .inr (4, [.ref wk, .ref wa, .ref wp, .int (nI 0), .int ap, .int (nI aA), .int (nI aB), .int (-1000000), .int (nI 0), .int (-1), .int (nI 0)]) := by rw [hf15]; exact va_up_self _ _ _
  refine lv_aload_n hx hb dW_through_43 rfl (lv_at hl 0 rfl) ?_
  refine mm_get (v := .ref wk) hx hb hg inW hown hK hP hty.1.1.1 p16 rfl 0 (by decide) (hg _ gw52) (fun _ h9 => h9) rfl dW_through_44 ?_
  have hs8 : Same1 f f15 ww := fun z z1 => by rw [hf15, hf13, hf11, hf9, hf7, hf5, hf3, hf1, va_up_ne _ _ z1, va_up_ne _ _ z1, va_up_ne _ _ z1, va_up_ne _ _ z1, va_up_ne _ _ z1, va_up_ne _ _ z1, va_up_ne _ _ z1, va_up_ne _ _ z1]
  obtain ⟨_, _, _, _, _, _, _, _, b1⟩ := id hty.2.1
  have hany8 : KnAny tys f15 wk wkb := hty.2.2.1.eq (hs8 _ (mm_OO hty.2.2.1.1.choose_spec b1 (by decide))) (hs8 _ (Ne.symm (mm_IO hty.2.2.1.2.choose_spec b1)))
  refine then_v (run_VN (n := 0) (As := []) (rest := []) C0 (ka_forgetAll hn hty.1.1.2.1 hty.1.1.2.2.1 hany8) gw416 nx413 gw415 gsK_forgetAll gw3 (by decide +kernel) ⟨Nat.le_of_ble_eq_true rfl, Nat.le_of_ble_eq_true rfl⟩ rfl rfl ⟨Nat.le_of_ble_eq_true rfl, Nat.le_of_ble_eq_true rfl⟩ hP hty.1.1.2.1 hany8.1.choose_spec rfl rfl rfl hl.1 rfl (Nat.le_of_ble_eq_true rfl) dW_through_47) hS hA (fun f17 H locs hq47 hP hS => ?_)
  obtain ⟨hk9, hs9⟩ := hq47
  obtain ⟨wpl, hw, hfr⟩ := th_init hty p16 hs8 hk9 hs9
  have hF9 := hF.fr2 hty hfr ho
  refine lv_aload_n hx hb dW_through_50 rfl (lv_at hl 2 rfl) ?_
  refine mm_getN (v := .ref (dr i)) hx hb hg inF hown hK hP (hF9.2 i hi).1.1 (hF9.2 i hi).1.2 rfl 0 (by decide) (va_Nw.use rfl (hN _ nx152)) (fun _ h9 => h9) rfl dW_through_51 ?_
  refine lv_aload_n hx hb dW_through_54 rfl (lv_at hl 0 rfl) ?_
  refine mm_get (v := .ref wk) hx hb hg inW hown hK hP hw.1.1.1 hw.2.1 rfl 0 (by decide) (hg _ gw52) (fun _ h9 => h9) rfl dW_through_55 ?_
  refine lv_iconst (v := nI 1) hx hb dW_through_58 (by decide) ?_
  refine lv_iconst (v := nI 2) hx hb dW_through_59 (by decide) ?_
  refine then_v (run_VN (n := 3) (As := [.ref wk, .int (nI 1), .int (nI 2)]) (rest := []) C0 (ra_learnedBy hn (hF9.2 i hi).2.1 hw.1.1.2.1 hw.1.1.2.2.1 (T := 0) (by omega) (by omega) (by omega) hw.2.2.1 kl_0_ok) gw424 nx421 gw423 gsR_learnedBy gw5 (by decide +kernel) ⟨Nat.le_of_ble_eq_true rfl, Nat.le_of_ble_eq_true rfl⟩ rfl rfl ⟨Nat.le_of_ble_eq_true rfl, Nat.le_of_ble_eq_true rfl⟩ hP (hF9.2 i hi).2.1.1.1 (hF9.2 i hi).2.1.2.1 rfl rfl rfl hl.1 rfl (Nat.le_of_ble_eq_true rfl) dW_through_60) hS hA (fun f18 H locs hq60 hP hS => ?_)
  obtain ⟨hk7, hs7⟩ := hq60
  obtain ⟨hw2, hg2⟩ := WSt.updK hw hk7 hs7
  have hF2 := hF9.fr hw hg2 ho
  have hfr2 := hfr.trans hg2
  have hw3 : WStc tys L f18 ww wk wkb wa wp wq wqb ap aA aB (th_c σ i wpl) := hw2
  refine lv_aload_n hx hb dW_through_63 rfl (lv_at hl 0 rfl) ?_
  refine mm_get (v := .ref wk) hx hb hg inW hown hK hP hw2.1.1.1 hw2.2.1 rfl 0 (by decide) (hg _ gw52) (fun _ h9 => h9) rfl dW_through_64 ?_
  refine mm_getN (v := .int (kb (th_K σ i).1)) hx hb hg inK hown hK hP hw2.1.1.2.1 (hw3.2.2.1).1 rfl 1 (by decide) (va_Nw.use rfl (hN _ nx43)) (fun _ h9 => h9) rfl dW_through_67 ?_
  refine lv_if_eq (tgt := 77) hx hb dW_through_70 (by decide) (fun c70 => ?_) (fun c70 => ?_)
  · have c70 : ((th_K σ i).1) = false := kb_0.mp c70
    refine lv_iconst (v := (-1)) hx hb dW_through_77 (by decide) ?_
    refine lv_istore (lv' := [(6, .int (-1)), (0, .ref ww), (1, .ref fa), (2, .ref (fn i)), (3, .int ap), (4, .int (nI aA)), (5, .int (nI aB))]) hx hb dW_through_78 hl (by decide) rfl (fun ls hl => ?_)
    refine lv_iconst (v := nI 0) hx hb dW_through_80 (by decide) ?_
    refine lv_istore (lv' := [(7, .int (nI 0)), (6, .int (-1)), (0, .ref ww), (1, .ref fa), (2, .ref (fn i)), (3, .int ap), (4, .int (nI aA)), (5, .int (nI aB))]) hx hb dW_through_81 hl (by decide) rfl (fun ls hl => ?_)
    have eo : th_o σ i = none := if_neg (by rw [c70]; decide)
    have hinv := th_inv (wpl := wpl) hR hi
    rw [eo] at hinv
    refine w_th_loop C0 hn ho hR hi hf haA haB 64 0 (none) (th_c σ i wpl) f18 (by omega) hw3 hF2 hfr2 hinv H locs ls hP hS (lv_sub hl [0, 1, 2, 3, 4, 5, 6, 7] rfl) (fun f1 H locs ls a1 a2 a3 hP hS a6 => ?_)
    exact ret_v C0 hP hS ⟨⟨wpl, by rw [eo]; exact a1⟩, a2, a3⟩ dW_through_116
  · have c70 : ((th_K σ i).1) = true := kb_t.mp c70
    refine lv_iconst (v := nI 0) hx hb dW_through_73 (by decide) ?_
    refine lv_goto (tgt := 78) hx hb dW_through_74 (by decide) ?_
    refine lv_istore (lv' := [(6, .int (nI 0)), (0, .ref ww), (1, .ref fa), (2, .ref (fn i)), (3, .int ap), (4, .int (nI aA)), (5, .int (nI aB))]) hx hb dW_through_78 hl (by decide) rfl (fun ls hl => ?_)
    refine lv_iconst (v := nI 0) hx hb dW_through_80 (by decide) ?_
    refine lv_istore (lv' := [(7, .int (nI 0)), (6, .int (nI 0)), (0, .ref ww), (1, .ref fa), (2, .ref (fn i)), (3, .int ap), (4, .int (nI aA)), (5, .int (nI aB))]) hx hb dW_through_81 hl (by decide) rfl (fun ls hl => ?_)
    have eo : th_o σ i = some 0 := if_pos c70
    have hinv := th_inv (wpl := wpl) hR hi
    rw [eo] at hinv
    refine w_th_loop C0 hn ho hR hi hf haA haB 64 0 (some 0) (th_c σ i wpl) f18 (by omega) hw3 hF2 hfr2 hinv H locs ls hP hS (lv_sub hl [0, 1, 2, 3, 4, 5, 6, 7] rfl) (fun f1 H locs ls a1 a2 a3 hP hS a6 => ?_)
    exact ret_v C0 hP hS ⟨⟨wpl, by rw [eo]; exact a1⟩, a2, a3⟩ dW_through_116
