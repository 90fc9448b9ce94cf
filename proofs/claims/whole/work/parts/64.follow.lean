/-! Walk.followFrom, Walk.through -/
def WStc (tys : List (ClassId × FieldType)) (L : List Nat) (f : Nat → va_E) (W wk wkb wa wp : Nat) (wq wqb : Nat → Nat) (ap : Int32) (aA aB : Nat) (c : WC) : Prop := WSt tys L f W wk wkb wa wp wq wqb ap aA aB c.ws c.gr c.pm c.lu c.en c.K c.pl c.SK
theorem enP_deP {σ : Sg} {i p : Nat} {K : kl_K} (hf : FnOk σ i) (hp : p < sz σ i) : enP (deP (ps_r σ i p K)) = ps_r σ i p K := by
  rcases ps_r_cases (K := K) hf hp with e | ⟨q, e, -, l⟩
  · rw [e]; rfl
  · rw [e, deP_nI (by have := hf.1; omega)]; rfl
set_option maxRecDepth 100000 in
set_option maxHeartbeats 4000000 in
theorem w_follow_loop {pgm : Program} {l : Launch} {e : Env} {s : State} {m : MethodId} {args : Array Value} {below : List Frame} {meth : Method} {cd : Code} {D : va_G} {tys : List (ClassId × FieldType)} {L : List Nat} {f0 : Nat → va_E} {Q : State → Prop} (C0 : Cx pgm s m args meth cd cW_followFrom 6 "LiquidChecker$Walk" none D tys) (hn : L.Nodup) {ww wk wkb wa wp : Nat} {wq wqb : Nat → Nat} {ap : Int32} {aA aB : Nat} {fa : Nat} {fn dr pr sA oA ra rb rk : Nat → Nat} {sq : Nat → Nat → Nat} {oi ni : Nat → Nat} {gv : Nat → Int32} {go : Nat → Nat → Int32} {σ : Sg} (ho : ∀ i, i < 4 → oA i ≠ wp) (hR : RlOk σ) {i : Nat} (hi : i < 4) (hf : FnOk σ i) (haA : aA < 12) (haB : aB < 12) {st : Int32} : ∀ (n k : Nat) (o : Option Nat) (c : WC) (f : Nat → va_E), k + n = 17 → WStc tys L f ww wk wkb wa wp wq wqb ap aA aB c → FnsAt tys L f fa fn dr pr sA oA ra rb rk sq oi ni gv go σ → Fr ww wk wkb wp wq wqb f0 f → WInv σ i o c → ∀ (H : Heap) (locs : List Loc) (ls : Array Slot), va_P D zCl (va_pl L f) H → va_S (inL L) s.heap H locs → lv_has ls 6 [(5, .int (nI k)), (4, .int (enP o)), (0, .ref ww), (1, .int st), (2, .ref fa), (3, .ref (fn i))] → (∀ (f : Nat → va_E) (H : Heap) (locs : List Loc) (ls : Array Slot), WStc tys L f ww wk wkb wa wp wq wqb ap aA aB (fw_run σ i ap aA aB n o c) → FnsAt tys L f fa fn dr pr sA oA ra rb rk sq oi ni gv go σ → Fr ww wk wkb wp wq wqb f0 f → va_P D zCl (va_pl L f) H → va_S (inL L) s.heap H locs → ls.size = 6 → W pgm l e ({ frames := 4, cells := 0, slots := 0, locals := 100 } : Room) s m args below meth cd H locs 0 0 Q (F0 m 65 ls [])) → W pgm l e ({ frames := 4, cells := 0, slots := 0, locals := 100 } : Room) s m args below meth cd H locs 0 0 Q (F0 m 6 ls []) := by
  obtain ⟨hx, hb, hml, hown, hg, hr, hlocks, hK, hN⟩ := id C0
  have hA : ∀ a ∈ L, inL L a := fun _ h => h
  intro n
  induction n with
  | zero =>
    intro k o c f hk hw hF hfr hv H locs ls hP hS hl hx2
    obtain rfl : k = 17 := by omega
    refine lv_iload hx hb dW_followFrom_6 (lv_at hl 0 rfl) ?_
    refine lv_bipush (v := nI 16) hx hb dW_followFrom_8 (by decide) ?_
    refine lv_icmp_gt (tgt := 65) hx hb dW_followFrom_10 (by decide) (fun c10 => ?_) (fun c10 => absurd (nI_lt (by omega) (by omega)) c10)
    exact hx2 f H locs ls hw hF hfr hP hS hl.1
  | succ n ih =>
    intro k o c f hk hw hF hfr hv H locs ls hP hS hl hx2
    cases o with
    | none =>
      have hl : lv_has ls 6 [(5, .int (nI k)), (4, .int (-1)), (0, .ref ww), (1, .int st), (2, .ref fa), (3, .ref (fn i))] := hl
      refine lv_iload hx hb dW_followFrom_6 (lv_at hl 0 rfl) ?_
      refine lv_bipush (v := nI 16) hx hb dW_followFrom_8 (by decide) ?_
      refine lv_icmp_gt (tgt := 65) hx hb dW_followFrom_10 (by decide) (fun c10 => absurd c10 (nI_nlt (by omega) (by omega))) (fun c10 => ?_)
      refine lv_iload hx hb dW_followFrom_13 (lv_at hl 1 rfl) ?_
      refine lv_iconst (v := (-1)) hx hb dW_followFrom_15 (by decide) ?_
      refine lv_icmp_eq (tgt := 65) hx hb dW_followFrom_16 (by decide) (fun c16 => ?_) (fun c16 => absurd rfl c16)
      exact hx2 f H locs ls hw hF hfr hP hS hl.1
    | some p =>
      obtain ⟨hp0, hp1, hp2⟩ := hv.1 p rfl
      have hp3 := hf.1
      have hT : tb p ≤ 280000 := by unfold tb; omega
      have hl : lv_has ls 6 [(5, .int (nI k)), (4, .int (nI p)), (0, .ref ww), (1, .int st), (2, .ref fa), (3, .ref (fn i))] := hl
      refine lv_iload hx hb dW_followFrom_6 (lv_at hl 0 rfl) ?_
      refine lv_bipush (v := nI 16) hx hb dW_followFrom_8 (by decide) ?_
      refine lv_icmp_gt (tgt := 65) hx hb dW_followFrom_10 (by decide) (fun c10 => absurd c10 (nI_nlt (by omega) (by omega))) (fun c10 => ?_)
      refine lv_iload hx hb dW_followFrom_13 (lv_at hl 1 rfl) ?_
      refine lv_iconst (v := (-1)) hx hb dW_followFrom_15 (by decide) ?_
      refine lv_icmp_eq (tgt := 65) hx hb dW_followFrom_16 (by decide) (fun c16 => absurd c16 (nI_m1 (by omega))) (fun c16 => ?_)
      refine lv_aload_n hx hb dW_followFrom_19 rfl (lv_at hl 2 rfl) ?_
      refine lv_iload hx hb dW_followFrom_20 (lv_at hl 1 rfl) ?_
      refine then_v (run_V (n := 1) (As := [.int (nI p)]) (rest := []) C0 (w_comeTo hn hw.1.1.1 hw.2.1 hw.1.1.2.1 hw.1.1.2.2.1 hw.2.2.1 hp2 (by omega) haA haB) gw439 gw436 gw438 gsW_comeTo gw2 (by decide +kernel) ⟨Nat.le_of_ble_eq_true rfl, Nat.le_of_ble_eq_true rfl⟩ rfl rfl ⟨Nat.le_of_ble_eq_true rfl, Nat.le_of_ble_eq_true rfl⟩ hP hw.1.1.1 hw.2.1 rfl rfl rfl hl.1 rfl (Nat.le_of_ble_eq_true rfl) dW_followFrom_22) hS hA (fun f1 H locs hq22 hP hS => ?_)
      obtain ⟨hv9, hs9⟩ := hq22
      obtain ⟨hw2, hg2⟩ := hw.updW hv9 hs9
      have hF2 := hF.fr hw hg2 ho
      have hfr2 := hfr.trans hg2
      refine lv_iload hx hb dW_followFrom_25 (lv_at hl 1 rfl) ?_
      refine lv_aload_n hx hb dW_followFrom_27 rfl (lv_at hl 5 rfl) ?_
      refine mm_getN (v := .int (nI (sz σ i))) hx hb hg inF hown hK hP (hF2.2 i hi).1.1 (hF2.2 i hi).1.2 rfl 4 (by decide) (va_Nw.use rfl (hN _ nx161)) (fun _ h9 => h9) rfl dW_followFrom_28 ?_
      refine lv_icmp_lt (tgt := 49) hx hb dW_followFrom_31 (by decide) (fun c31 => ?_) (fun c31 => ?_)
      · have hlt : p < sz σ i := (nI_ltI (by omega) (by omega)).mp c31
        refine lv_aload_n hx hb dW_followFrom_49 rfl (lv_at hl 2 rfl) ?_
        refine lv_iload hx hb dW_followFrom_50 (lv_at hl 1 rfl) ?_
        refine lv_aload_n hx hb dW_followFrom_52 rfl (lv_at hl 4 rfl) ?_
        refine lv_aload_n hx hb dW_followFrom_53 rfl (lv_at hl 5 rfl) ?_
        refine then_i (run_V (n := 3) (As := [.int (nI p), .ref fa, .ref (fn i)]) (rest := []) C0 (w_pass hn hw2 hF2 ho hi (by omega) (hf.2.1 p hlt) hp2 hT (fun z => by have h7 : nif σ i (p + 1) ≤ 6 := Nat.le_trans (nif_mono (by omega)) hf.2.2.2; simp only [nif, if_pos z] at h7; omega)) gw473 gw470 gw472 gsW_pass gw2 (by decide +kernel) ⟨Nat.le_of_ble_eq_true rfl, Nat.le_of_ble_eq_true rfl⟩ rfl rfl ⟨Nat.le_of_ble_eq_true rfl, Nat.le_of_ble_eq_true rfl⟩ hP hw2.1.1.1 hw2.2.1 rfl rfl rfl hl.1 rfl (Nat.le_of_ble_eq_true rfl) dW_followFrom_54) hS hA (fun r3 f2 H locs hq54 hP hS => ?_)
        obtain ⟨hr8, hw3, hg3⟩ := hq54
        subst hr8
        have hF3 := hF2.fr hw2 hg3 ho
        have hfr3 := hfr2.trans hg3
        refine lv_topi (fun xr exr => ?_)
        refine lv_istore (lv' := [(4, .int xr), (5, .int (nI k)), (0, .ref ww), (1, .int st), (2, .ref fa), (3, .ref (fn i))]) hx hb dW_followFrom_57 hl (by decide) rfl (fun ls hl => ?_)
        refine lv_iinc (v := nI (k + 1)) (lv' := [(5, .int (nI (k + 1))), (4, .int xr), (0, .ref ww), (1, .int st), (2, .ref fa), (3, .ref (fn i))]) hx hb dW_followFrom_59 hl (k := 1) rfl (nI_add k 1) (by decide) rfl (fun ls hl => ?_)
        refine lv_goto (tgt := 6) hx hb dW_followFrom_62 (by decide) ?_
        have hinv := fw_step_inv (ap := ap) (aA := aA) (aB := aB) hR hi hf hv
        have est : fw_step σ i ap aA aB p c = (deP (ps_r σ i p c.K), fw_pass σ i p (fw_come ap aA aB p c)) := if_neg (by omega)
        rw [est] at hinv
        refine ih (k + 1) (deP (ps_r σ i p c.K)) (fw_pass σ i p (fw_come ap aA aB p c)) f2 (by omega) hw3 hF3 hfr3 hinv H locs ls hP hS (by rw [enP_deP hf hlt, ← exr]; exact lv_sub hl [0, 1, 2, 3, 4, 5] rfl) (fun f H locs ls a1 a2 a3 a4 a5 a6 => hx2 f H locs ls ?_ a2 a3 a4 a5 a6)
        show WStc _ _ _ _ _ _ _ _ _ _ _ _ _ (fw_run σ i ap aA aB n (fw_step σ i ap aA aB p c).1 (fw_step σ i ap aA aB p c).2)
        rw [est]
        exact a1
      · have hge : ¬ p < sz σ i := fun z => c31 (nI_lt z (by omega))
        refine lv_aload_n hx hb dW_followFrom_34 rfl (lv_at hl 2 rfl) ?_
        refine lv_iload hx hb dW_followFrom_35 (lv_at hl 1 rfl) ?_
        refine lv_aload_n hx hb dW_followFrom_37 rfl (lv_at hl 5 rfl) ?_
        refine lv_iconst (v := nI 0) hx hb dW_followFrom_38 (by decide) ?_
        refine lv_iconst (v := nI 0) hx hb dW_followFrom_39 (by decide) ?_
        refine then_v (run_V (n := 4) (As := [.int (nI p), .ref (fn i), .int (nI 0), .int (nI 0)]) (rest := []) C0 (w_endAt (b := 0) hn hw2.1.1.1 hw2.2.1 hw2.1.1.2.1 hw2.1.1.2.2.1 hw2.2.2.1 hp2 (by omega) (hF2.2 i hi).2.2.1 (hF2.2 i hi).1.1 (hF2.2 i hi).1.2 (by omega) (by rw [nI0_toInt]; omega)) gw450 gw447 gw449 gsW_endAt gw2 (by decide +kernel) ⟨Nat.le_of_ble_eq_true rfl, Nat.le_of_ble_eq_true rfl⟩ rfl rfl ⟨Nat.le_of_ble_eq_true rfl, Nat.le_of_ble_eq_true rfl⟩ hP hw2.1.1.1 hw2.2.1 rfl rfl rfl hl.1 rfl (Nat.le_of_ble_eq_true rfl) dW_followFrom_40) hS hA (fun f4 H locs hq40 hP hS => ?_)
        obtain ⟨hv8, hk8, hs8⟩ := hq40
        rw [nI0_toInt] at hv8 hk8
        obtain ⟨hw3, hg3⟩ := hw2.upd3 (Nat.le_refl _) hv8 hk8 hs8
        have hF3 := hF2.fr hw2 hg3 ho
        have hfr3 := hfr2.trans hg3
        refine lv_iconst (v := (-1)) hx hb dW_followFrom_43 (by decide) ?_
        refine lv_istore (lv' := [(4, .int (-1)), (5, .int (nI k)), (0, .ref ww), (1, .int st), (2, .ref fa), (3, .ref (fn i))]) hx hb dW_followFrom_44 hl (by decide) rfl (fun ls hl => ?_)
        refine lv_goto (tgt := 59) hx hb dW_followFrom_46 (by decide) ?_
        refine lv_iinc (v := nI (k + 1)) (lv' := [(5, .int (nI (k + 1))), (4, .int (-1)), (0, .ref ww), (1, .int st), (2, .ref fa), (3, .ref (fn i))]) hx hb dW_followFrom_59 hl (k := 1) rfl (nI_add k 1) (by decide) rfl (fun ls hl => ?_)
        refine lv_goto (tgt := 6) hx hb dW_followFrom_62 (by decide) ?_
        have hinv := fw_step_inv (ap := ap) (aA := aA) (aB := aB) hR hi hf hv
        have est : fw_step σ i ap aA aB p c = (none, fw_end σ i p (fw_come ap aA aB p c)) := if_pos (by omega)
        rw [est] at hinv
        refine ih (k + 1) none (fw_end σ i p (fw_come ap aA aB p c)) f4 (by omega) hw3 hF3 hfr3 hinv H locs ls hP hS (lv_sub hl [0, 1, 2, 3, 4, 5] rfl) (fun f H locs ls a1 a2 a3 a4 a5 a6 => hx2 f H locs ls ?_ a2 a3 a4 a5 a6)
        show WStc _ _ _ _ _ _ _ _ _ _ _ _ _ (fw_run σ i ap aA aB n (fw_step σ i ap aA aB p c).1 (fw_step σ i ap aA aB p c).2)
        rw [est]
        exact a1
set_option maxRecDepth 100000 in
set_option maxHeartbeats 4000000 in
theorem w_followFrom {l : Launch} {D : va_G} {tys : List (ClassId × FieldType)} {L : List Nat} {f : Nat → va_E} (hn : L.Nodup) {ww wk wkb wa wp : Nat} {wq wqb : Nat → Nat} {ap : Int32} {aA aB : Nat} {fa : Nat} {fn dr pr sA oA ra rb rk : Nat → Nat} {sq : Nat → Nat → Nat} {oi ni : Nat → Nat} {gv : Nat → Int32} {go : Nat → Nat → Int32} {σ : Sg} {c : WC} (hw : WStc tys L f ww wk wkb wa wp wq wqb ap aA aB c) (hF : FnsAt tys L f fa fn dr pr sA oA ra rb rk sq oi ni gv go σ) (ho : ∀ i, i < 4 → oA i ≠ wp) (hR : RlOk σ) {i p : Nat} (hi : i < 4) (hf : FnOk σ i) (haA : aA < 12) (haB : aB < 12) (hv : WInv σ i (some p) c) : MetV l yW_followFrom wW_followFrom ({ frames := 4, cells := 0, slots := 0, locals := 100 } : Room) D tys L f [.ref ww, .int (nI p), .ref fa, .ref (fn i)] (fun f' => WStc tys L f' ww wk wkb wa wp wq wqb ap aA aB (fw_run σ i ap aA aB 17 (some p) c) ∧ FnsAt tys L f' fa fn dr pr sA oA ra rb rk sq oi ni gv go σ ∧ Fr ww wk wkb wp wq wqb f f') := by
  refine met_of "LiquidChecker$Walk" (by decide) rfl (Nat.le_of_ble_eq_true rfl) ?_
  intro pgm e s m below meth cd ls C0 hP hl
  obtain ⟨hx, hb, hml, hown, hg, hr, hlocks, hK, hN⟩ := id C0
  have hA : ∀ a ∈ L, inL L a := fun _ h => h
  obtain ⟨H, hH⟩ : ∃ z, z = s.heap := ⟨_, rfl⟩
  rw [← hH] at hP ⊢
  have hS : va_S (inL L) s.heap H [] := by rw [hH]; exact va_S.rf
  have hl : lv_has ls 6 [(0, .ref ww), (1, .int (nI p)), (2, .ref fa), (3, .ref (fn i))] := hl
  refine lv_iload_n hx hb dW_followFrom_0 rfl (lv_at hl 1 rfl) ?_
  refine lv_istore (lv' := [(4, .int (nI p)), (0, .ref ww), (1, .int (nI p)), (2, .ref fa), (3, .ref (fn i))]) hx hb dW_followFrom_1 hl (by decide) rfl (fun ls hl => ?_)
  refine lv_iconst (v := nI 0) hx hb dW_followFrom_3 (by decide) ?_
  refine lv_istore (lv' := [(5, .int (nI 0)), (4, .int (nI p)), (0, .ref ww), (1, .int (nI p)), (2, .ref fa), (3, .ref (fn i))]) hx hb dW_followFrom_4 hl (by decide) rfl (fun ls hl => ?_)
  refine w_follow_loop C0 hn ho hR hi hf haA haB 17 0 (some p) c f (by omega) hw hF Fr.refl hv H [] ls hP hS (lv_sub hl [0, 1, 2, 3, 4, 5] rfl) (fun f1 H locs ls a1 a2 a3 hP hS a6 => ?_)
  exact ret_v C0 hP hS ⟨a1, a2, a3⟩ dW_followFrom_65
