/-! Walk.pass: a step -/
theorem st_K_0 {σ : Sg} {i p : Nat} {K : kl_K} (h : sk σ (16 * i + p) = nI 0) : st_K σ i p K = kl_give (nt (sa σ (16 * i + p))) (nt (sb σ (16 * i + p))) (sK σ (16 * i + p)).toInt K := by
  unfold st_K
  rw [if_pos h]
theorem st_sh_0 {σ : Sg} {i p : Nat} {K : kl_K} (h : sk σ (16 * i + p) = nI 0) : st_sh σ i p K = true := by
  unfold st_sh
  rw [if_neg (by rw [h]; decide +kernel), if_neg (by rw [h]; decide +kernel), if_neg (by rw [h]; decide +kernel)]
theorem st_K_1 {σ : Sg} {i p : Nat} {K : kl_K} (h : sk σ (16 * i + p) = nI 1) : st_K σ i p K = kl_forget 3 (kl_give (nt (sa σ (16 * i + p))) 3 0 (s_rels σ (2 * nt (sK σ (16 * i + p)) + 1) (nt (sb σ (16 * i + p))) (nt (sc σ (16 * i + p))) K)) := by
  unfold st_K
  rw [if_neg (by rw [h]; decide +kernel), if_pos h]
theorem st_sh_1 {σ : Sg} {i p : Nat} {K : kl_K} (h : sk σ (16 * i + p) = nI 1) : st_sh σ i p K = s_shw σ (2 * nt (sK σ (16 * i + p))) (nt (sb σ (16 * i + p))) (nt (sc σ (16 * i + p))) K := by
  unfold st_sh
  rw [if_pos h]
theorem st_K_2 {σ : Sg} {i p : Nat} {K : kl_K} (h : sk σ (16 * i + p) = nI 2) : st_K σ i p K = kl_learn (nt (sa σ (16 * i + p))) (nt (sb σ (16 * i + p))) (sK σ (16 * i + p)).toInt K := by
  unfold st_K
  rw [if_neg (by rw [h]; decide +kernel), if_neg (by rw [h]; decide +kernel), if_pos h]
theorem st_sh_2 {σ : Sg} {i p : Nat} {K : kl_K} (h : sk σ (16 * i + p) = nI 2) : st_sh σ i p K = true := by
  unfold st_sh
  rw [if_neg (by rw [h]; decide +kernel), if_neg (by rw [h]; decide +kernel), if_neg (by rw [h]; decide +kernel)]
theorem st_K_3 {σ : Sg} {i p : Nat} {K : kl_K} (h : sk σ (16 * i + p) = nI 3) : st_K σ i p K = K := by
  unfold st_K
  rw [if_neg (by rw [h]; decide +kernel), if_neg (by rw [h]; decide +kernel), if_neg (by rw [h]; decide +kernel), if_neg (by rw [h]; decide +kernel), if_neg (by rw [h]; decide +kernel), if_neg (by rw [h]; decide +kernel)]
theorem st_sh_3 {σ : Sg} {i p : Nat} {K : kl_K} (h : sk σ (16 * i + p) = nI 3) : st_sh σ i p K = true := by
  unfold st_sh
  rw [if_neg (by rw [h]; decide +kernel), if_neg (by rw [h]; decide +kernel), if_neg (by rw [h]; decide +kernel)]
theorem st_K_4 {σ : Sg} {i p : Nat} {K : kl_K} (h : sk σ (16 * i + p) = nI 4) : st_K σ i p K = K := by
  unfold st_K
  rw [if_neg (by rw [h]; decide +kernel), if_neg (by rw [h]; decide +kernel), if_neg (by rw [h]; decide +kernel), if_neg (by rw [h]; decide +kernel), if_neg (by rw [h]; decide +kernel), if_neg (by rw [h]; decide +kernel)]
theorem st_sh_4 {σ : Sg} {i p : Nat} {K : kl_K} (h : sk σ (16 * i + p) = nI 4) : st_sh σ i p K = true := by
  unfold st_sh
  rw [if_neg (by rw [h]; decide +kernel), if_neg (by rw [h]; decide +kernel), if_neg (by rw [h]; decide +kernel)]
theorem st_K_5 {σ : Sg} {i p : Nat} {K : kl_K} (h : sk σ (16 * i + p) = nI 5) : st_K σ i p K = kl_learn (nt (sa σ (16 * i + p))) (nt (sb σ (16 * i + p))) (sK σ (16 * i + p)).toInt K := by
  unfold st_K
  rw [if_neg (by rw [h]; decide +kernel), if_neg (by rw [h]; decide +kernel), if_neg (by rw [h]; decide +kernel), if_pos h]
theorem st_sh_5 {σ : Sg} {i p : Nat} {K : kl_K} (h : sk σ (16 * i + p) = nI 5) : st_sh σ i p K = kl_le (K.2 (nt (sa σ (16 * i + p))) (nt (sb σ (16 * i + p)))) (sK σ (16 * i + p)).toInt := by
  unfold st_sh
  rw [if_neg (by rw [h]; decide +kernel), if_pos h]
theorem st_K_6 {σ : Sg} {i p : Nat} {K : kl_K} (h : sk σ (16 * i + p) = nI 6) : st_K σ i p K = kl_give 3 (nt (sb σ (16 * i + p))) (sK σ (16 * i + p)).toInt K := by
  unfold st_K
  rw [if_neg (by rw [h]; decide +kernel), if_neg (by rw [h]; decide +kernel), if_neg (by rw [h]; decide +kernel), if_neg (by rw [h]; decide +kernel), if_pos h]
theorem st_sh_6 {σ : Sg} {i p : Nat} {K : kl_K} (h : sk σ (16 * i + p) = nI 6) : st_sh σ i p K = s_shw σ (2 * i + 1) 1 2 (kl_give 3 (nt (sb σ (16 * i + p))) (sK σ (16 * i + p)).toInt K) := by
  unfold st_sh
  rw [if_neg (by rw [h]; decide +kernel), if_neg (by rw [h]; decide +kernel), if_pos h]
theorem st_K_7 {σ : Sg} {i p : Nat} {K : kl_K} (h : sk σ (16 * i + p) = nI 7) : st_K σ i p K = kl_forget (nt (sa σ (16 * i + p))) K := by
  unfold st_K
  rw [if_neg (by rw [h]; decide +kernel), if_neg (by rw [h]; decide +kernel), if_neg (by rw [h]; decide +kernel), if_neg (by rw [h]; decide +kernel), if_neg (by rw [h]; decide +kernel), if_pos h]
theorem st_sh_7 {σ : Sg} {i p : Nat} {K : kl_K} (h : sk σ (16 * i + p) = nI 7) : st_sh σ i p K = true := by
  unfold st_sh
  rw [if_neg (by rw [h]; decide +kernel), if_neg (by rw [h]; decide +kernel), if_neg (by rw [h]; decide +kernel)]
def ps_ws (σ : Sg) (i p ws : Nat) (K : kl_K) : Nat := if sk σ (16 * i + p) = nI 2 then (if (st_ot σ i p K).1 = true then ws + 1 else ws) else ws
def ps_pl (σ : Sg) (i p ws : Nat) (K : kl_K) (wpl : Nat → Int32) : Nat → Int32 := if sk σ (16 * i + p) = nI 2 then (if (st_ot σ i p K).1 = true then upd wpl ws (st_tg σ i p) else wpl) else wpl
def ps_SK (σ : Sg) (i p ws : Nat) (K : kl_K) (SK : Nat → kl_K) : Nat → kl_K := if sk σ (16 * i + p) = nI 2 then (fun j => if j = ws then st_ot σ i p K else SK j) else SK
def ps_r (σ : Sg) (i p : Nat) (K : kl_K) : Int32 := if sk σ (16 * i + p) = nI 6 then -1 else if (st_K σ i p K).1 = true then st_nx σ i p else -1
def ps_en (σ : Sg) (i p en : Nat) : Nat := if sk σ (16 * i + p) = nI 6 then en + 1 else en
theorem n_lu_t {lu pl : Int32} : n_lu lu pl true = lu := if_neg (fun h => absurd h.1 (by decide))
set_option maxRecDepth 100000 in
set_option maxHeartbeats 4000000 in
theorem w_pass {l : Launch} {D : va_G} {tys : List (ClassId × FieldType)} {L : List Nat} {f : Nat → va_E} (hn : L.Nodup) {W wk wkb wa wp : Nat} {wq wqb : Nat → Nat} {ap : Int32} {aA aB ws : Nat} {gr pm lu : Int32} {en : Nat} {K : kl_K} {wpl : Nat → Int32} {SK : Nat → kl_K} {fa : Nat} {fn dr pr sA oA ra rb rk : Nat → Nat} {sq : Nat → Nat → Nat} {oi ni : Nat → Nat} {gv : Nat → Int32} {go : Nat → Nat → Int32} {σ : Sg} (hw : WSt tys L f W wk wkb wa wp wq wqb ap aA aB ws gr pm lu en K wpl SK) (hF : FnsAt tys L f fa fn dr pr sA oA ra rb rk sq oi ni gv go σ) (ho : ∀ i, i < 4 → oA i ≠ wp) {i p : Nat} (hi : i < 4) (hp : p < 16) (hst : StOk σ (16 * i + p)) {T : Int} (hok : kl_ok T K) (hT : T ≤ 280000) (hws2 : sk σ (16 * i + p) = nI 2 → ws < 6) : MetI l yW_pass wW_pass ({ frames := 3, cells := 0, slots := 0, locals := 75 } : Room) D tys L f [.ref W, .int (nI p), .ref fa, .ref (fn i)] (fun r f' => r = ps_r σ i p K ∧ WSt tys L f' W wk wkb wa wp wq wqb ap aA aB (ps_ws σ i p ws K) gr pm (n_lu lu (nI p) (st_sh σ i p K)) (ps_en σ i p en) (st_K σ i p K) (ps_pl σ i p ws K wpl) (ps_SK σ i p ws K SK) ∧ Fr W wk wkb wp wq wqb f f') := by
  refine met_of "LiquidChecker$Walk" (by decide) rfl (Nat.le_of_ble_eq_true rfl) ?_
  intro pgm e s m below meth c ls C0 hP hl
  obtain ⟨hx, hb, hml, hown, hg, hr, hlocks, hK, hN⟩ := id C0
  have hA : ∀ a ∈ L, inL L a := fun _ h => h
  obtain ⟨H, hH⟩ : ∃ z, z = s.heap := ⟨_, rfl⟩
  rw [← hH] at hP ⊢
  have hS : va_S (inL L) s.heap H [] := by rw [hH]; exact va_S.rf
  have hl : lv_has ls 6 [(0, .ref W), (1, .int (nI p)), (2, .ref fa), (3, .ref (fn i))] := hl
  have y1 : f (sq i p) = .inr (3, [.int (sk σ (16 * i + p)), .int (sa σ (16 * i + p)), .int (sb σ (16 * i + p)), .int (sc σ (16 * i + p)), .int (sK σ (16 * i + p)), .int (sl σ (16 * i + p))]) := by exact (hF.2 i hi).2.2.2.2.2.1 p (by omega)
  refine lv_aload_n hx hb dW_pass_0 rfl (lv_at hl 3 rfl) ?_
  refine mm_getN (v := .ref (sA i)) hx hb hg inF hown hK hP (hF.2 i hi).1.1 (hF.2 i hi).1.2 rfl 2 (by decide) (va_Nw.use rfl (hN _ nx157)) (fun _ h9 => h9) rfl dW_pass_1 ?_
  refine lv_iload_n hx hb dW_pass_4 rfl (lv_at hl 1 rfl) ?_
  refine mm_aldq hx hb hK hP (hF.2 i hi).2.2.2.1.1 (hF.2 i hi).2.2.2.1.2 (vp_in_nI (show p < 16 by omega) (by omega)) (q := (sq i p)) (by rw [nI_clamp (by omega)]) dW_pass_5 ?_
  refine lv_astore (lv' := [(4, .ref (sq i p)), (0, .ref W), (1, .int (nI p)), (2, .ref fa), (3, .ref (fn i))]) hx hb dW_pass_6 hl (by decide) rfl (fun ls hl => ?_)
  refine lv_iload_n hx hb dW_pass_8 rfl (lv_at hl 2 rfl) ?_
  refine lv_iconst (v := nI 1) hx hb dW_pass_9 (by decide) ?_
  refine lv_iadd hx hb dW_pass_10 ?_
  rw [nI_add]
  refine lv_istore (lv' := [(5, .int (nI (p + 1))), (4, .ref (sq i p)), (0, .ref W), (1, .int (nI p)), (2, .ref fa), (3, .ref (fn i))]) hx hb dW_pass_11 hl (by decide) rfl (fun ls hl => ?_)
  refine lv_aload hx hb dW_pass_13 (lv_at hl 1 rfl) ?_
  refine mm_getN (v := .int (sk σ (16 * i + p))) hx hb hg inS hown hK hP ((hF.2 i hi).2.2.2.2.1 p (by omega)) y1 rfl 0 (by decide) (va_Nw.use rfl (hN _ nx126)) (fun _ h9 => h9) rfl dW_pass_15 ?_
  by_cases w18_0 : (sk σ (16 * i + p)) = nI 0
  · refine lv_tableIn (tgt := 64) (off := 46) hx hb dW_pass_18 (by rw [w18_0]; decide +kernel) (by rw [w18_0]; decide +kernel) (by rw [w18_0]; decide +kernel) (by decide) ?_
    have hna := hst.2.1 (Or.inl w18_0)
    have hnb := hst.2.2.1 (Or.inl w18_0)
    have hkk := hst.2.2.2.2 (Or.inl w18_0)
    have y2 : f (sq i p) = .inr (3, [.int (sk σ (16 * i + p)), .int (nI (nt (sa σ (16 * i + p)))), .int (nI (nt (sb σ (16 * i + p)))), .int (sc σ (16 * i + p)), .int (sK σ (16 * i + p)), .int (sl σ (16 * i + p))]) := by rw [← hna.1, ← hnb.1]; exact (hF.2 i hi).2.2.2.2.2.1 p (by omega)
    refine lv_aload_n hx hb dW_pass_64 rfl (lv_at hl 2 rfl) ?_
    refine mm_get (v := .ref wk) hx hb hg inW hown hK hP hw.1.1.1 hw.2.1 rfl 0 (by decide) (hg _ gw52) (fun _ h9 => h9) rfl dW_pass_65 ?_
    refine lv_aload hx hb dW_pass_68 (lv_at hl 1 rfl) ?_
    refine mm_getN (v := .int (nI (nt (sa σ (16 * i + p))))) hx hb hg inS hown hK hP ((hF.2 i hi).2.2.2.2.1 p (by omega)) y2 rfl 1 (by decide) (va_Nw.use rfl (hN _ nx128)) (fun _ h9 => h9) rfl dW_pass_70 ?_
    refine lv_aload hx hb dW_pass_73 (lv_at hl 1 rfl) ?_
    refine mm_getN (v := .int (nI (nt (sb σ (16 * i + p))))) hx hb hg inS hown hK hP ((hF.2 i hi).2.2.2.2.1 p (by omega)) y2 rfl 2 (by decide) (va_Nw.use rfl (hN _ nx130)) (fun _ h9 => h9) rfl dW_pass_75 ?_
    refine lv_aload hx hb dW_pass_78 (lv_at hl 1 rfl) ?_
    refine mm_getN (v := .int (sK σ (16 * i + p))) hx hb hg inS hown hK hP ((hF.2 i hi).2.2.2.2.1 p (by omega)) y2 rfl 4 (by decide) (va_Nw.use rfl (hN _ nx134)) (fun _ h9 => h9) rfl dW_pass_80 ?_
    refine then_v (run_VN (n := 3) (As := [.int (nI (nt (sa σ (16 * i + p)))), .int (nI (nt (sb σ (16 * i + p)))), .int (sK σ (16 * i + p))]) (rest := []) C0 (ka_give hn hw.1.1.2.1 hw.1.1.2.2.1 hw.2.2.1 hok (by omega) hna.2.1 hnb.2.1 (by omega)) gw454 nx451 gw453 gsK_give gw3 (by decide +kernel) ⟨Nat.le_of_ble_eq_true rfl, Nat.le_of_ble_eq_true rfl⟩ rfl rfl ⟨Nat.le_of_ble_eq_true rfl, Nat.le_of_ble_eq_true rfl⟩ hP hw.1.1.2.1 (hw.2.2.1).1 rfl rfl rfl hl.1 rfl (Nat.le_of_ble_eq_true rfl) dW_pass_83) hS hA (fun f3 H locs hq83 hP hS => ?_)
    obtain ⟨hk9, hs9⟩ := hq83
    obtain ⟨hw4, hg4⟩ := hw.updK hk9 hs9
    have hF4 := hF.fr hw hg4 ho
    have y5 : f3 (sq i p) = .inr (3, [.int (sk σ (16 * i + p)), .int (nI (nt (sa σ (16 * i + p)))), .int (nI (nt (sb σ (16 * i + p)))), .int (sc σ (16 * i + p)), .int (sK σ (16 * i + p)), .int (sl σ (16 * i + p))]) := by rw [← hna.1, ← hnb.1]; exact (hF4.2 i hi).2.2.2.2.2.1 p (by omega)
    refine lv_goto (tgt := 239) hx hb dW_pass_86 (by decide) ?_
    refine lv_aload_n hx hb dW_pass_239 rfl (lv_at hl 2 rfl) ?_
    refine mm_get (v := .ref wk) hx hb hg inW hown hK hP hw4.1.1.1 hw4.2.1 rfl 0 (by decide) (hg _ gw52) (fun _ h9 => h9) rfl dW_pass_240 ?_
    refine mm_getN (v := .int (kb (kl_give (nt (sa σ (16 * i + p))) (nt (sb σ (16 * i + p))) (sK σ (16 * i + p)).toInt K).1)) hx hb hg inK hown hK hP hw4.1.1.2.1 (hw4.2.2.1).1 rfl 1 (by decide) (va_Nw.use rfl (hN _ nx43)) (fun _ h9 => h9) rfl dW_pass_243 ?_
    refine lv_if_eq (tgt := 254) hx hb dW_pass_246 (by decide) (fun c246 => ?_) (fun c246 => ?_)
    · have c246 : ((kl_give (nt (sa σ (16 * i + p))) (nt (sb σ (16 * i + p))) (sK σ (16 * i + p)).toInt K).1) = false := kb_0.mp c246
      refine lv_iconst (v := (-1)) hx hb dW_pass_254 (by decide) ?_
      refine ret_i C0 hP hS ⟨?_, ?_, hg4⟩ dW_pass_255
      · unfold ps_r
        rw [if_neg (by rw [w18_0]; decide +kernel), st_K_0 w18_0]
        rw [if_neg (by rw [c246]; decide)]
      · rw [st_K_0 w18_0, st_sh_0 w18_0, show ps_ws σ i p ws K = _ from if_neg (by rw [w18_0]; decide +kernel), show ps_pl σ i p ws K wpl = _ from if_neg (by rw [w18_0]; decide +kernel), show ps_SK σ i p ws K SK = _ from if_neg (by rw [w18_0]; decide +kernel), show ps_en σ i p en = _ from if_neg (by rw [w18_0]; decide +kernel), n_lu_t]
        exact hw4
    · have c246 : ((kl_give (nt (sa σ (16 * i + p))) (nt (sb σ (16 * i + p))) (sK σ (16 * i + p)).toInt K).1) = true := kb_t.mp c246
      refine lv_iload hx hb dW_pass_249 (lv_at hl 0 rfl) ?_
      refine lv_goto (tgt := 255) hx hb dW_pass_251 (by decide) ?_
      refine ret_i C0 hP hS ⟨?_, ?_, hg4⟩ dW_pass_255
      · unfold ps_r
        rw [if_neg (by rw [w18_0]; decide +kernel), st_K_0 w18_0]
        rw [if_pos c246]
        unfold st_nx
        rw [if_neg (by rw [w18_0]; decide +kernel)]
      · rw [st_K_0 w18_0, st_sh_0 w18_0, show ps_ws σ i p ws K = _ from if_neg (by rw [w18_0]; decide +kernel), show ps_pl σ i p ws K wpl = _ from if_neg (by rw [w18_0]; decide +kernel), show ps_SK σ i p ws K SK = _ from if_neg (by rw [w18_0]; decide +kernel), show ps_en σ i p en = _ from if_neg (by rw [w18_0]; decide +kernel), n_lu_t]
        exact hw4
  · skip
    by_cases w18_1 : (sk σ (16 * i + p)) = nI 1
    · refine lv_tableIn (tgt := 89) (off := 71) hx hb dW_pass_18 (by rw [w18_1]; decide +kernel) (by rw [w18_1]; decide +kernel) (by rw [w18_1]; decide +kernel) (by decide) ?_
      have hna := hst.2.1 (Or.inr (Or.inl w18_1))
      have hnb := hst.2.2.1 (Or.inr (Or.inl w18_1))
      have hnc := (hst.2.2.2.1 w18_1).1
      have hnk := (hst.2.2.2.1 w18_1).2
      have y6 : f (sq i p) = .inr (3, [.int (sk σ (16 * i + p)), .int (nI (nt (sa σ (16 * i + p)))), .int (nI (nt (sb σ (16 * i + p)))), .int (nI (nt (sc σ (16 * i + p)))), .int (nI (nt (sK σ (16 * i + p)))), .int (sl σ (16 * i + p))]) := by rw [← hna.1, ← hnb.1, ← hnc.1, ← hnk.1]; exact (hF.2 i hi).2.2.2.2.2.1 p (by omega)
      refine lv_aload_n hx hb dW_pass_89 rfl (lv_at hl 2 rfl) ?_
      refine lv_iload_n hx hb dW_pass_90 rfl (lv_at hl 3 rfl) ?_
      refine lv_aload hx hb dW_pass_91 (lv_at hl 1 rfl) ?_
      refine lv_aload_n hx hb dW_pass_93 rfl (lv_at hl 4 rfl) ?_
      refine lv_aload hx hb dW_pass_94 (lv_at hl 1 rfl) ?_
      refine mm_getN (v := .int (nI (nt (sK σ (16 * i + p))))) hx hb hg inS hown hK hP ((hF.2 i hi).2.2.2.2.1 p (by omega)) y6 rfl 4 (by decide) (va_Nw.use rfl (hN _ nx134)) (fun _ h9 => h9) rfl dW_pass_96 ?_
      refine mm_aldq hx hb hK hP hF.1.1 hF.1.2 (vp_in_nI (show nt (sK σ (16 * i + p)) < 4 by omega) (by omega)) (q := (fn (nt (sK σ (16 * i + p))))) (by rw [nI_clamp (by omega)]) dW_pass_99 ?_
      refine then_v (run_V (n := 3) (As := [.int (nI p), .ref (sq i p), .ref (fn (nt (sK σ (16 * i + p))))]) (rest := []) C0 (w_passCall hn hw.1.1.1 hw.2.1 hw.1.1.2.1 hw.1.1.2.2.1 hw.2.2.1 hok (by omega) (hF.2 (nt (sK σ (16 * i + p))) hnk.2).2.1 (hF.2 (nt (sK σ (16 * i + p))) hnk.2).2.2.1 (hF.2 (nt (sK σ (16 * i + p))) hnk.2).1.1 (hF.2 (nt (sK σ (16 * i + p))) hnk.2).1.2 ((hF.2 i hi).2.2.2.2.1 p (by omega)) y6 hna.2.1 hnb.2.1 hnc.2.1) gw477 gw474 gw476 gsW_passCall gw2 (by decide +kernel) ⟨Nat.le_of_ble_eq_true rfl, Nat.le_of_ble_eq_true rfl⟩ rfl rfl ⟨Nat.le_of_ble_eq_true rfl, Nat.le_of_ble_eq_true rfl⟩ hP hw.1.1.1 hw.2.1 rfl rfl rfl hl.1 rfl (Nat.le_of_ble_eq_true rfl) dW_pass_100) hS hA (fun f7 H locs hq100 hP hS => ?_)
      obtain ⟨hv9, hk9, hs9⟩ := hq100
      obtain ⟨hw8, hg8⟩ := hw.upd3 (Nat.le_refl _) hv9 hk9 hs9
      have hF8 := hF.fr hw hg8 ho
      have y9 : f7 (sq i p) = .inr (3, [.int (sk σ (16 * i + p)), .int (nI (nt (sa σ (16 * i + p)))), .int (nI (nt (sb σ (16 * i + p)))), .int (nI (nt (sc σ (16 * i + p)))), .int (nI (nt (sK σ (16 * i + p)))), .int (sl σ (16 * i + p))]) := by rw [← hna.1, ← hnb.1, ← hnc.1, ← hnk.1]; exact (hF8.2 i hi).2.2.2.2.2.1 p (by omega)
      refine lv_goto (tgt := 239) hx hb dW_pass_103 (by decide) ?_
      refine lv_aload_n hx hb dW_pass_239 rfl (lv_at hl 2 rfl) ?_
      refine mm_get (v := .ref wk) hx hb hg inW hown hK hP hw8.1.1.1 hw8.2.1 rfl 0 (by decide) (hg _ gw52) (fun _ h9 => h9) rfl dW_pass_240 ?_
      refine mm_getN (v := .int (kb (kl_forget 3 (kl_give (nt (sa σ (16 * i + p))) 3 0 (s_rels σ (2 * nt (sK σ (16 * i + p)) + 1) (nt (sb σ (16 * i + p))) (nt (sc σ (16 * i + p))) K))).1)) hx hb hg inK hown hK hP hw8.1.1.2.1 (hw8.2.2.1).1 rfl 1 (by decide) (va_Nw.use rfl (hN _ nx43)) (fun _ h9 => h9) rfl dW_pass_243 ?_
      refine lv_if_eq (tgt := 254) hx hb dW_pass_246 (by decide) (fun c246 => ?_) (fun c246 => ?_)
      · have c246 : ((kl_forget 3 (kl_give (nt (sa σ (16 * i + p))) 3 0 (s_rels σ (2 * nt (sK σ (16 * i + p)) + 1) (nt (sb σ (16 * i + p))) (nt (sc σ (16 * i + p))) K))).1) = false := kb_0.mp c246
        refine lv_iconst (v := (-1)) hx hb dW_pass_254 (by decide) ?_
        refine ret_i C0 hP hS ⟨?_, ?_, hg8⟩ dW_pass_255
        · unfold ps_r
          rw [if_neg (by rw [w18_1]; decide +kernel), st_K_1 w18_1]
          rw [if_neg (by rw [c246]; decide)]
        · rw [st_K_1 w18_1, st_sh_1 w18_1, show ps_ws σ i p ws K = _ from if_neg (by rw [w18_1]; decide +kernel), show ps_pl σ i p ws K wpl = _ from if_neg (by rw [w18_1]; decide +kernel), show ps_SK σ i p ws K SK = _ from if_neg (by rw [w18_1]; decide +kernel), show ps_en σ i p en = _ from if_neg (by rw [w18_1]; decide +kernel)]
          exact hw8
      · have c246 : ((kl_forget 3 (kl_give (nt (sa σ (16 * i + p))) 3 0 (s_rels σ (2 * nt (sK σ (16 * i + p)) + 1) (nt (sb σ (16 * i + p))) (nt (sc σ (16 * i + p))) K))).1) = true := kb_t.mp c246
        refine lv_iload hx hb dW_pass_249 (lv_at hl 0 rfl) ?_
        refine lv_goto (tgt := 255) hx hb dW_pass_251 (by decide) ?_
        refine ret_i C0 hP hS ⟨?_, ?_, hg8⟩ dW_pass_255
        · unfold ps_r
          rw [if_neg (by rw [w18_1]; decide +kernel), st_K_1 w18_1]
          rw [if_pos c246]
          unfold st_nx
          rw [if_neg (by rw [w18_1]; decide +kernel)]
        · rw [st_K_1 w18_1, st_sh_1 w18_1, show ps_ws σ i p ws K = _ from if_neg (by rw [w18_1]; decide +kernel), show ps_pl σ i p ws K wpl = _ from if_neg (by rw [w18_1]; decide +kernel), show ps_SK σ i p ws K SK = _ from if_neg (by rw [w18_1]; decide +kernel), show ps_en σ i p en = _ from if_neg (by rw [w18_1]; decide +kernel)]
          exact hw8
    · skip
      by_cases w18_2 : (sk σ (16 * i + p)) = nI 2
      · refine lv_tableIn (tgt := 106) (off := 88) hx hb dW_pass_18 (by rw [w18_2]; decide +kernel) (by rw [w18_2]; decide +kernel) (by rw [w18_2]; decide +kernel) (by decide) ?_
        have hna := hst.2.1 (Or.inr (Or.inr (Or.inr (Or.inl w18_2))))
        have hnb := hst.2.2.1 (Or.inr (Or.inr (Or.inl w18_2)))
        have hkk := hst.2.2.2.2 (Or.inr (Or.inl w18_2))
        have y10 : f (sq i p) = .inr (3, [.int (sk σ (16 * i + p)), .int (nI (nt (sa σ (16 * i + p)))), .int (nI (nt (sb σ (16 * i + p)))), .int (sc σ (16 * i + p)), .int (sK σ (16 * i + p)), .int (sl σ (16 * i + p))]) := by rw [← hna.1, ← hnb.1]; exact (hF.2 i hi).2.2.2.2.2.1 p (by omega)
        refine lv_aload_n hx hb dW_pass_106 rfl (lv_at hl 2 rfl) ?_
        refine lv_aload hx hb dW_pass_107 (lv_at hl 1 rfl) ?_
        refine lv_aload_n hx hb dW_pass_109 rfl (lv_at hl 5 rfl) ?_
        refine lv_aload hx hb dW_pass_110 (lv_at hl 1 rfl) ?_
        refine then_i (run_VN (n := 1) (As := [.ref (sq i p)]) (rest := [.ref (sq i p), .ref W]) C0 (f_targetOf hn (hF.2 i hi).1.1 (hF.2 i hi).1.2 ((hF.2 i hi).2.2.2.2.1 p (by omega)) y10) gw485 nx482 gw484 gsF_targetOf gw4 (by decide +kernel) ⟨Nat.le_of_ble_eq_true rfl, Nat.le_of_ble_eq_true rfl⟩ rfl rfl ⟨Nat.le_of_ble_eq_true rfl, Nat.le_of_ble_eq_true rfl⟩ hP (hF.2 i hi).1.1 (hF.2 i hi).1.2 rfl rfl rfl hl.1 rfl (Nat.le_of_ble_eq_true rfl) dW_pass_112) hS hA (fun r12 f11 H locs hq112 hP hS => ?_)
        obtain ⟨er12, ef11⟩ := hq112
        subst er12
        rw [ef11] at hP
        refine then_v (run_V (n := 2) (As := [.ref (sq i p), .int (st_tg σ i p)]) (rest := []) C0 (w_leaveOtherSide hn hw.1.1.1 hw.2.1 hw.1.1.2.1 hw.1.1.2.2.1 hw.2.2.1 hok (by omega) ((hF.2 i hi).2.2.2.2.1 p (by omega)) y10 hna.2.1 hnb.2.1 hw.1.1.2.2.2.1 hw.1.2.1 hw.1.1.2.2.2.2 hw.2.2.2.1 hw.1.2.2.1 hw.1.2.2.2.1 (hws2 w18_2) (hw.1.2.2.2.2.2 ws (hws2 w18_2)) hkk) gw489 gw486 gw488 gsW_leaveOtherSide gw2 (by decide +kernel) ⟨Nat.le_of_ble_eq_true rfl, Nat.le_of_ble_eq_true rfl⟩ rfl rfl ⟨Nat.le_of_ble_eq_true rfl, Nat.le_of_ble_eq_true rfl⟩ hP hw.1.1.1 hw.2.1 rfl rfl rfl hl.1 rfl (Nat.le_of_ble_eq_true rfl) dW_pass_115) hS hA (fun f13 H locs hq115 hP hS => ?_)
        obtain ⟨l1, l2, l3, l4, l5⟩ := hq115
        obtain ⟨hw14, hg14⟩ := hw.push (Ko := st_ot σ i p K) (hws2 w18_2) l1 l2 l3 l4 l5
        have hF14 := hF.fr hw hg14 ho
        have y15 : f13 (sq i p) = .inr (3, [.int (sk σ (16 * i + p)), .int (nI (nt (sa σ (16 * i + p)))), .int (nI (nt (sb σ (16 * i + p)))), .int (sc σ (16 * i + p)), .int (sK σ (16 * i + p)), .int (sl σ (16 * i + p))]) := by rw [← hna.1, ← hnb.1]; exact (hF14.2 i hi).2.2.2.2.2.1 p (by omega)
        refine lv_aload_n hx hb dW_pass_118 rfl (lv_at hl 2 rfl) ?_
        refine mm_get (v := .ref wk) hx hb hg inW hown hK hP hw14.1.1.1 hw14.2.1 rfl 0 (by decide) (hg _ gw52) (fun _ h9 => h9) rfl dW_pass_119 ?_
        refine lv_aload hx hb dW_pass_122 (lv_at hl 1 rfl) ?_
        refine mm_getN (v := .int (nI (nt (sa σ (16 * i + p))))) hx hb hg inS hown hK hP ((hF14.2 i hi).2.2.2.2.1 p (by omega)) y15 rfl 1 (by decide) (va_Nw.use rfl (hN _ nx128)) (fun _ h9 => h9) rfl dW_pass_124 ?_
        refine lv_aload hx hb dW_pass_127 (lv_at hl 1 rfl) ?_
        refine mm_getN (v := .int (nI (nt (sb σ (16 * i + p))))) hx hb hg inS hown hK hP ((hF14.2 i hi).2.2.2.2.1 p (by omega)) y15 rfl 2 (by decide) (va_Nw.use rfl (hN _ nx130)) (fun _ h9 => h9) rfl dW_pass_129 ?_
        refine lv_aload hx hb dW_pass_132 (lv_at hl 1 rfl) ?_
        refine mm_getN (v := .int (sK σ (16 * i + p))) hx hb hg inS hown hK hP ((hF14.2 i hi).2.2.2.2.1 p (by omega)) y15 rfl 4 (by decide) (va_Nw.use rfl (hN _ nx134)) (fun _ h9 => h9) rfl dW_pass_134 ?_
        refine then_v (run_VN (n := 3) (As := [.int (nI (nt (sa σ (16 * i + p)))), .int (nI (nt (sb σ (16 * i + p)))), .int (sK σ (16 * i + p))]) (rest := []) C0 (ka_learn hn hw14.1.1.2.1 hw14.1.1.2.2.1 hw14.2.2.1 hok (by omega) hna.2.1 hnb.2.1 (by omega)) gw431 nx497 gw430 gsK_learn gw3 (by decide +kernel) ⟨Nat.le_of_ble_eq_true rfl, Nat.le_of_ble_eq_true rfl⟩ rfl rfl ⟨Nat.le_of_ble_eq_true rfl, Nat.le_of_ble_eq_true rfl⟩ hP hw14.1.1.2.1 (hw14.2.2.1).1 rfl rfl rfl hl.1 rfl (Nat.le_of_ble_eq_true rfl) dW_pass_137) hS hA (fun f16 H locs hq137 hP hS => ?_)
        obtain ⟨hk9, hs9⟩ := hq137
        obtain ⟨hw17, hg17⟩ := hw14.updK hk9 hs9
        have hF17 := hF14.fr hw14 hg17 ho
        have ht17 := hg14.trans hg17
        have y18 : f16 (sq i p) = .inr (3, [.int (sk σ (16 * i + p)), .int (nI (nt (sa σ (16 * i + p)))), .int (nI (nt (sb σ (16 * i + p)))), .int (sc σ (16 * i + p)), .int (sK σ (16 * i + p)), .int (sl σ (16 * i + p))]) := by rw [← hna.1, ← hnb.1]; exact (hF17.2 i hi).2.2.2.2.2.1 p (by omega)
        refine lv_goto (tgt := 239) hx hb dW_pass_140 (by decide) ?_
        refine lv_aload_n hx hb dW_pass_239 rfl (lv_at hl 2 rfl) ?_
        refine mm_get (v := .ref wk) hx hb hg inW hown hK hP hw17.1.1.1 hw17.2.1 rfl 0 (by decide) (hg _ gw52) (fun _ h9 => h9) rfl dW_pass_240 ?_
        refine mm_getN (v := .int (kb (kl_learn (nt (sa σ (16 * i + p))) (nt (sb σ (16 * i + p))) (sK σ (16 * i + p)).toInt K).1)) hx hb hg inK hown hK hP hw17.1.1.2.1 (hw17.2.2.1).1 rfl 1 (by decide) (va_Nw.use rfl (hN _ nx43)) (fun _ h9 => h9) rfl dW_pass_243 ?_
        refine lv_if_eq (tgt := 254) hx hb dW_pass_246 (by decide) (fun c246 => ?_) (fun c246 => ?_)
        · have c246 : ((kl_learn (nt (sa σ (16 * i + p))) (nt (sb σ (16 * i + p))) (sK σ (16 * i + p)).toInt K).1) = false := kb_0.mp c246
          refine lv_iconst (v := (-1)) hx hb dW_pass_254 (by decide) ?_
          refine ret_i C0 hP hS ⟨?_, ?_, ht17⟩ dW_pass_255
          · unfold ps_r
            rw [if_neg (by rw [w18_2]; decide +kernel), st_K_2 w18_2]
            rw [if_neg (by rw [c246]; decide)]
          · rw [st_K_2 w18_2, st_sh_2 w18_2, show ps_ws σ i p ws K = _ from if_pos w18_2, show ps_pl σ i p ws K wpl = _ from if_pos w18_2, show ps_SK σ i p ws K SK = _ from if_pos w18_2, show ps_en σ i p en = _ from if_neg (by rw [w18_2]; decide +kernel), n_lu_t]
            exact hw17
        · have c246 : ((kl_learn (nt (sa σ (16 * i + p))) (nt (sb σ (16 * i + p))) (sK σ (16 * i + p)).toInt K).1) = true := kb_t.mp c246
          refine lv_iload hx hb dW_pass_249 (lv_at hl 0 rfl) ?_
          refine lv_goto (tgt := 255) hx hb dW_pass_251 (by decide) ?_
          refine ret_i C0 hP hS ⟨?_, ?_, ht17⟩ dW_pass_255
          · unfold ps_r
            rw [if_neg (by rw [w18_2]; decide +kernel), st_K_2 w18_2]
            rw [if_pos c246]
            unfold st_nx
            rw [if_neg (by rw [w18_2]; decide +kernel)]
          · rw [st_K_2 w18_2, st_sh_2 w18_2, show ps_ws σ i p ws K = _ from if_pos w18_2, show ps_pl σ i p ws K wpl = _ from if_pos w18_2, show ps_SK σ i p ws K SK = _ from if_pos w18_2, show ps_en σ i p en = _ from if_neg (by rw [w18_2]; decide +kernel), n_lu_t]
            exact hw17
      · skip
        by_cases w18_3 : (sk σ (16 * i + p)) = nI 3
        · refine lv_tableIn (tgt := 143) (off := 125) hx hb dW_pass_18 (by rw [w18_3]; decide +kernel) (by rw [w18_3]; decide +kernel) (by rw [w18_3]; decide +kernel) (by decide) ?_
          have y19 : f (sq i p) = .inr (3, [.int (sk σ (16 * i + p)), .int (sa σ (16 * i + p)), .int (sb σ (16 * i + p)), .int (sc σ (16 * i + p)), .int (sK σ (16 * i + p)), .int (sl σ (16 * i + p))]) := by exact (hF.2 i hi).2.2.2.2.2.1 p (by omega)
          refine lv_aload_n hx hb dW_pass_143 rfl (lv_at hl 5 rfl) ?_
          refine lv_aload hx hb dW_pass_144 (lv_at hl 1 rfl) ?_
          refine then_i (run_VN (n := 1) (As := [.ref (sq i p)]) (rest := []) C0 (f_targetOf hn (hF.2 i hi).1.1 (hF.2 i hi).1.2 ((hF.2 i hi).2.2.2.2.1 p (by omega)) y19) gw485 nx482 gw484 gsF_targetOf gw4 (by decide +kernel) ⟨Nat.le_of_ble_eq_true rfl, Nat.le_of_ble_eq_true rfl⟩ rfl rfl ⟨Nat.le_of_ble_eq_true rfl, Nat.le_of_ble_eq_true rfl⟩ hP (hF.2 i hi).1.1 (hF.2 i hi).1.2 rfl rfl rfl hl.1 rfl (Nat.le_of_ble_eq_true rfl) dW_pass_146) hS hA (fun r21 f20 H locs hq146 hP hS => ?_)
          obtain ⟨er21, ef20⟩ := hq146
          subst er21
          rw [ef20] at hP
          refine lv_topi (fun xt ext => ?_)
          refine lv_istore (lv' := [(5, .int xt), (4, .ref (sq i p)), (0, .ref W), (1, .int (nI p)), (2, .ref fa), (3, .ref (fn i))]) hx hb dW_pass_149 hl (by decide) rfl (fun ls hl => ?_)
          refine lv_goto (tgt := 239) hx hb dW_pass_151 (by decide) ?_
          refine lv_aload_n hx hb dW_pass_239 rfl (lv_at hl 2 rfl) ?_
          refine mm_get (v := .ref wk) hx hb hg inW hown hK hP hw.1.1.1 hw.2.1 rfl 0 (by decide) (hg _ gw52) (fun _ h9 => h9) rfl dW_pass_240 ?_
          refine mm_getN (v := .int (kb K.1)) hx hb hg inK hown hK hP hw.1.1.2.1 (hw.2.2.1).1 rfl 1 (by decide) (va_Nw.use rfl (hN _ nx43)) (fun _ h9 => h9) rfl dW_pass_243 ?_
          refine lv_if_eq (tgt := 254) hx hb dW_pass_246 (by decide) (fun c246 => ?_) (fun c246 => ?_)
          · have c246 : K.1 = false := kb_0.mp c246
            refine lv_iconst (v := (-1)) hx hb dW_pass_254 (by decide) ?_
            refine ret_i C0 hP hS ⟨?_, ?_, Fr.refl⟩ dW_pass_255
            · unfold ps_r
              rw [if_neg (by rw [w18_3]; decide +kernel), st_K_3 w18_3]
              rw [if_neg (by rw [c246]; decide)]
            · rw [st_K_3 w18_3, st_sh_3 w18_3, show ps_ws σ i p ws K = _ from if_neg (by rw [w18_3]; decide +kernel), show ps_pl σ i p ws K wpl = _ from if_neg (by rw [w18_3]; decide +kernel), show ps_SK σ i p ws K SK = _ from if_neg (by rw [w18_3]; decide +kernel), show ps_en σ i p en = _ from if_neg (by rw [w18_3]; decide +kernel), n_lu_t]
              exact hw
          · have c246 : K.1 = true := kb_t.mp c246
            refine lv_iload hx hb dW_pass_249 (lv_at hl 0 rfl) ?_
            refine lv_goto (tgt := 255) hx hb dW_pass_251 (by decide) ?_
            refine ret_i C0 hP hS ⟨?_, ?_, Fr.refl⟩ dW_pass_255
            · unfold ps_r
              rw [if_neg (by rw [w18_3]; decide +kernel), st_K_3 w18_3]
              rw [if_pos c246]
              unfold st_nx
              rw [if_pos w18_3]
              exact ext
            · rw [st_K_3 w18_3, st_sh_3 w18_3, show ps_ws σ i p ws K = _ from if_neg (by rw [w18_3]; decide +kernel), show ps_pl σ i p ws K wpl = _ from if_neg (by rw [w18_3]; decide +kernel), show ps_SK σ i p ws K SK = _ from if_neg (by rw [w18_3]; decide +kernel), show ps_en σ i p en = _ from if_neg (by rw [w18_3]; decide +kernel), n_lu_t]
              exact hw
        · skip
          by_cases w18_4 : (sk σ (16 * i + p)) = nI 4
          · refine lv_tableIn (tgt := 239) (off := 221) hx hb dW_pass_18 (by rw [w18_4]; decide +kernel) (by rw [w18_4]; decide +kernel) (by rw [w18_4]; decide +kernel) (by decide) ?_
            have y22 : f (sq i p) = .inr (3, [.int (sk σ (16 * i + p)), .int (sa σ (16 * i + p)), .int (sb σ (16 * i + p)), .int (sc σ (16 * i + p)), .int (sK σ (16 * i + p)), .int (sl σ (16 * i + p))]) := by exact (hF.2 i hi).2.2.2.2.2.1 p (by omega)
            refine lv_aload_n hx hb dW_pass_239 rfl (lv_at hl 2 rfl) ?_
            refine mm_get (v := .ref wk) hx hb hg inW hown hK hP hw.1.1.1 hw.2.1 rfl 0 (by decide) (hg _ gw52) (fun _ h9 => h9) rfl dW_pass_240 ?_
            refine mm_getN (v := .int (kb K.1)) hx hb hg inK hown hK hP hw.1.1.2.1 (hw.2.2.1).1 rfl 1 (by decide) (va_Nw.use rfl (hN _ nx43)) (fun _ h9 => h9) rfl dW_pass_243 ?_
            refine lv_if_eq (tgt := 254) hx hb dW_pass_246 (by decide) (fun c246 => ?_) (fun c246 => ?_)
            · have c246 : K.1 = false := kb_0.mp c246
              refine lv_iconst (v := (-1)) hx hb dW_pass_254 (by decide) ?_
              refine ret_i C0 hP hS ⟨?_, ?_, Fr.refl⟩ dW_pass_255
              · unfold ps_r
                rw [if_neg (by rw [w18_4]; decide +kernel), st_K_4 w18_4]
                rw [if_neg (by rw [c246]; decide)]
              · rw [st_K_4 w18_4, st_sh_4 w18_4, show ps_ws σ i p ws K = _ from if_neg (by rw [w18_4]; decide +kernel), show ps_pl σ i p ws K wpl = _ from if_neg (by rw [w18_4]; decide +kernel), show ps_SK σ i p ws K SK = _ from if_neg (by rw [w18_4]; decide +kernel), show ps_en σ i p en = _ from if_neg (by rw [w18_4]; decide +kernel), n_lu_t]
                exact hw
            · have c246 : K.1 = true := kb_t.mp c246
              refine lv_iload hx hb dW_pass_249 (lv_at hl 0 rfl) ?_
              refine lv_goto (tgt := 255) hx hb dW_pass_251 (by decide) ?_
              refine ret_i C0 hP hS ⟨?_, ?_, Fr.refl⟩ dW_pass_255
              · unfold ps_r
                rw [if_neg (by rw [w18_4]; decide +kernel), st_K_4 w18_4]
                rw [if_pos c246]
                unfold st_nx
                rw [if_neg (by rw [w18_4]; decide +kernel)]
              · rw [st_K_4 w18_4, st_sh_4 w18_4, show ps_ws σ i p ws K = _ from if_neg (by rw [w18_4]; decide +kernel), show ps_pl σ i p ws K wpl = _ from if_neg (by rw [w18_4]; decide +kernel), show ps_SK σ i p ws K SK = _ from if_neg (by rw [w18_4]; decide +kernel), show ps_en σ i p en = _ from if_neg (by rw [w18_4]; decide +kernel), n_lu_t]
                exact hw
          · skip
            by_cases w18_5 : (sk σ (16 * i + p)) = nI 5
            · refine lv_tableIn (tgt := 154) (off := 136) hx hb dW_pass_18 (by rw [w18_5]; decide +kernel) (by rw [w18_5]; decide +kernel) (by rw [w18_5]; decide +kernel) (by decide) ?_
              have hna := hst.2.1 (Or.inr (Or.inr (Or.inr (Or.inr w18_5))))
              have hnb := hst.2.2.1 (Or.inr (Or.inr (Or.inr (Or.inl w18_5))))
              have hkk := hst.2.2.2.2 (Or.inr (Or.inr (Or.inl w18_5)))
              have y23 : f (sq i p) = .inr (3, [.int (sk σ (16 * i + p)), .int (nI (nt (sa σ (16 * i + p)))), .int (nI (nt (sb σ (16 * i + p)))), .int (sc σ (16 * i + p)), .int (sK σ (16 * i + p)), .int (sl σ (16 * i + p))]) := by rw [← hna.1, ← hnb.1]; exact (hF.2 i hi).2.2.2.2.2.1 p (by omega)
              refine lv_aload_n hx hb dW_pass_154 rfl (lv_at hl 2 rfl) ?_
              refine lv_iload_n hx hb dW_pass_155 rfl (lv_at hl 3 rfl) ?_
              refine lv_aload_n hx hb dW_pass_156 rfl (lv_at hl 2 rfl) ?_
              refine mm_get (v := .ref wk) hx hb hg inW hown hK hP hw.1.1.1 hw.2.1 rfl 0 (by decide) (hg _ gw52) (fun _ h9 => h9) rfl dW_pass_157 ?_
              refine lv_aload hx hb dW_pass_160 (lv_at hl 1 rfl) ?_
              refine mm_getN (v := .int (nI (nt (sa σ (16 * i + p))))) hx hb hg inS hown hK hP ((hF.2 i hi).2.2.2.2.1 p (by omega)) y23 rfl 1 (by decide) (va_Nw.use rfl (hN _ nx128)) (fun _ h9 => h9) rfl dW_pass_162 ?_
              refine lv_aload hx hb dW_pass_165 (lv_at hl 1 rfl) ?_
              refine mm_getN (v := .int (nI (nt (sb σ (16 * i + p))))) hx hb hg inS hown hK hP ((hF.2 i hi).2.2.2.2.1 p (by omega)) y23 rfl 2 (by decide) (va_Nw.use rfl (hN _ nx130)) (fun _ h9 => h9) rfl dW_pass_167 ?_
              refine lv_aload hx hb dW_pass_170 (lv_at hl 1 rfl) ?_
              refine mm_getN (v := .int (sK σ (16 * i + p))) hx hb hg inS hown hK hP ((hF.2 i hi).2.2.2.2.1 p (by omega)) y23 rfl 4 (by decide) (va_Nw.use rfl (hN _ nx134)) (fun _ h9 => h9) rfl dW_pass_172 ?_
              refine then_i (run_VN (n := 3) (As := [.int (nI (nt (sa σ (16 * i + p)))), .int (nI (nt (sb σ (16 * i + p)))), .int (sK σ (16 * i + p))]) (rest := [.int (nI p), .ref W]) C0 (ka_shows hn hw.1.1.2.1 hw.1.1.2.2.1 hw.2.2.1 hok (by omega) hna.2.1 hnb.2.1 (by omega)) gw465 nx498 gw464 gsK_shows gw3 (by decide +kernel) ⟨Nat.le_of_ble_eq_true rfl, Nat.le_of_ble_eq_true rfl⟩ rfl rfl ⟨Nat.le_of_ble_eq_true rfl, Nat.le_of_ble_eq_true rfl⟩ hP hw.1.1.2.1 (hw.2.2.1).1 rfl rfl rfl hl.1 rfl (Nat.le_of_ble_eq_true rfl) dW_pass_175) hS hA (fun r25 f24 H locs hq175 hP hS => ?_)
              obtain ⟨er25, ef24⟩ := hq175
              subst er25
              rw [ef24] at hP
              refine then_v (run_V (n := 2) (As := [.int (nI p), .int (kb (kl_le (K.2 (nt (sa σ (16 * i + p))) (nt (sb σ (16 * i + p)))) (sK σ (16 * i + p)).toInt))]) (rest := []) C0 (w_noteShown hn hw.1.1.1 hw.2.1) gw469 gw466 gw468 gsW_noteShown gw2 (by decide +kernel) ⟨Nat.le_of_ble_eq_true rfl, Nat.le_of_ble_eq_true rfl⟩ rfl rfl ⟨Nat.le_of_ble_eq_true rfl, Nat.le_of_ble_eq_true rfl⟩ hP hw.1.1.1 hw.2.1 rfl rfl rfl hl.1 rfl (Nat.le_of_ble_eq_true rfl) dW_pass_178) hS hA (fun f26 H locs hq178 hP hS => ?_)
              obtain ⟨hk9, hs9⟩ := hq178
              obtain ⟨hw27, hg27⟩ := hw.updW hk9 hs9
              have hF27 := hF.fr hw hg27 ho
              have y28 : f26 (sq i p) = .inr (3, [.int (sk σ (16 * i + p)), .int (nI (nt (sa σ (16 * i + p)))), .int (nI (nt (sb σ (16 * i + p)))), .int (sc σ (16 * i + p)), .int (sK σ (16 * i + p)), .int (sl σ (16 * i + p))]) := by rw [← hna.1, ← hnb.1]; exact (hF27.2 i hi).2.2.2.2.2.1 p (by omega)
              refine lv_aload_n hx hb dW_pass_181 rfl (lv_at hl 2 rfl) ?_
              refine mm_get (v := .ref wk) hx hb hg inW hown hK hP hw27.1.1.1 hw27.2.1 rfl 0 (by decide) (hg _ gw52) (fun _ h9 => h9) rfl dW_pass_182 ?_
              refine lv_aload hx hb dW_pass_185 (lv_at hl 1 rfl) ?_
              refine mm_getN (v := .int (nI (nt (sa σ (16 * i + p))))) hx hb hg inS hown hK hP ((hF27.2 i hi).2.2.2.2.1 p (by omega)) y28 rfl 1 (by decide) (va_Nw.use rfl (hN _ nx128)) (fun _ h9 => h9) rfl dW_pass_187 ?_
              refine lv_aload hx hb dW_pass_190 (lv_at hl 1 rfl) ?_
              refine mm_getN (v := .int (nI (nt (sb σ (16 * i + p))))) hx hb hg inS hown hK hP ((hF27.2 i hi).2.2.2.2.1 p (by omega)) y28 rfl 2 (by decide) (va_Nw.use rfl (hN _ nx130)) (fun _ h9 => h9) rfl dW_pass_192 ?_
              refine lv_aload hx hb dW_pass_195 (lv_at hl 1 rfl) ?_
              refine mm_getN (v := .int (sK σ (16 * i + p))) hx hb hg inS hown hK hP ((hF27.2 i hi).2.2.2.2.1 p (by omega)) y28 rfl 4 (by decide) (va_Nw.use rfl (hN _ nx134)) (fun _ h9 => h9) rfl dW_pass_197 ?_
              refine then_v (run_VN (n := 3) (As := [.int (nI (nt (sa σ (16 * i + p)))), .int (nI (nt (sb σ (16 * i + p)))), .int (sK σ (16 * i + p))]) (rest := []) C0 (ka_learn hn hw27.1.1.2.1 hw27.1.1.2.2.1 hw27.2.2.1 hok (by omega) hna.2.1 hnb.2.1 (by omega)) gw431 nx497 gw430 gsK_learn gw3 (by decide +kernel) ⟨Nat.le_of_ble_eq_true rfl, Nat.le_of_ble_eq_true rfl⟩ rfl rfl ⟨Nat.le_of_ble_eq_true rfl, Nat.le_of_ble_eq_true rfl⟩ hP hw27.1.1.2.1 (hw27.2.2.1).1 rfl rfl rfl hl.1 rfl (Nat.le_of_ble_eq_true rfl) dW_pass_200) hS hA (fun f29 H locs hq200 hP hS => ?_)
              obtain ⟨hk9, hs9⟩ := hq200
              obtain ⟨hw30, hg30⟩ := hw27.updK hk9 hs9
              have hF30 := hF27.fr hw27 hg30 ho
              have ht30 := hg27.trans hg30
              have y31 : f29 (sq i p) = .inr (3, [.int (sk σ (16 * i + p)), .int (nI (nt (sa σ (16 * i + p)))), .int (nI (nt (sb σ (16 * i + p)))), .int (sc σ (16 * i + p)), .int (sK σ (16 * i + p)), .int (sl σ (16 * i + p))]) := by rw [← hna.1, ← hnb.1]; exact (hF30.2 i hi).2.2.2.2.2.1 p (by omega)
              refine lv_goto (tgt := 239) hx hb dW_pass_203 (by decide) ?_
              refine lv_aload_n hx hb dW_pass_239 rfl (lv_at hl 2 rfl) ?_
              refine mm_get (v := .ref wk) hx hb hg inW hown hK hP hw30.1.1.1 hw30.2.1 rfl 0 (by decide) (hg _ gw52) (fun _ h9 => h9) rfl dW_pass_240 ?_
              refine mm_getN (v := .int (kb (kl_learn (nt (sa σ (16 * i + p))) (nt (sb σ (16 * i + p))) (sK σ (16 * i + p)).toInt K).1)) hx hb hg inK hown hK hP hw30.1.1.2.1 (hw30.2.2.1).1 rfl 1 (by decide) (va_Nw.use rfl (hN _ nx43)) (fun _ h9 => h9) rfl dW_pass_243 ?_
              refine lv_if_eq (tgt := 254) hx hb dW_pass_246 (by decide) (fun c246 => ?_) (fun c246 => ?_)
              · have c246 : ((kl_learn (nt (sa σ (16 * i + p))) (nt (sb σ (16 * i + p))) (sK σ (16 * i + p)).toInt K).1) = false := kb_0.mp c246
                refine lv_iconst (v := (-1)) hx hb dW_pass_254 (by decide) ?_
                refine ret_i C0 hP hS ⟨?_, ?_, ht30⟩ dW_pass_255
                · unfold ps_r
                  rw [if_neg (by rw [w18_5]; decide +kernel), st_K_5 w18_5]
                  rw [if_neg (by rw [c246]; decide)]
                · rw [st_K_5 w18_5, st_sh_5 w18_5, show ps_ws σ i p ws K = _ from if_neg (by rw [w18_5]; decide +kernel), show ps_pl σ i p ws K wpl = _ from if_neg (by rw [w18_5]; decide +kernel), show ps_SK σ i p ws K SK = _ from if_neg (by rw [w18_5]; decide +kernel), show ps_en σ i p en = _ from if_neg (by rw [w18_5]; decide +kernel)]
                  exact hw30
              · have c246 : ((kl_learn (nt (sa σ (16 * i + p))) (nt (sb σ (16 * i + p))) (sK σ (16 * i + p)).toInt K).1) = true := kb_t.mp c246
                refine lv_iload hx hb dW_pass_249 (lv_at hl 0 rfl) ?_
                refine lv_goto (tgt := 255) hx hb dW_pass_251 (by decide) ?_
                refine ret_i C0 hP hS ⟨?_, ?_, ht30⟩ dW_pass_255
                · unfold ps_r
                  rw [if_neg (by rw [w18_5]; decide +kernel), st_K_5 w18_5]
                  rw [if_pos c246]
                  unfold st_nx
                  rw [if_neg (by rw [w18_5]; decide +kernel)]
                · rw [st_K_5 w18_5, st_sh_5 w18_5, show ps_ws σ i p ws K = _ from if_neg (by rw [w18_5]; decide +kernel), show ps_pl σ i p ws K wpl = _ from if_neg (by rw [w18_5]; decide +kernel), show ps_SK σ i p ws K SK = _ from if_neg (by rw [w18_5]; decide +kernel), show ps_en σ i p en = _ from if_neg (by rw [w18_5]; decide +kernel)]
                  exact hw30
            · skip
              by_cases w18_6 : (sk σ (16 * i + p)) = nI 6
              · refine lv_tableIn (tgt := 206) (off := 188) hx hb dW_pass_18 (by rw [w18_6]; decide +kernel) (by rw [w18_6]; decide +kernel) (by rw [w18_6]; decide +kernel) (by decide) ?_
                have hnb := hst.2.2.1 (Or.inr (Or.inr (Or.inr (Or.inr w18_6))))
                have hkk := hst.2.2.2.2 (Or.inr (Or.inr (Or.inr w18_6)))
                have y32 : f (sq i p) = .inr (3, [.int (sk σ (16 * i + p)), .int (sa σ (16 * i + p)), .int (nI (nt (sb σ (16 * i + p)))), .int (sc σ (16 * i + p)), .int (sK σ (16 * i + p)), .int (sl σ (16 * i + p))]) := by rw [← hnb.1]; exact (hF.2 i hi).2.2.2.2.2.1 p (by omega)
                refine lv_aload_n hx hb dW_pass_206 rfl (lv_at hl 2 rfl) ?_
                refine lv_iload_n hx hb dW_pass_207 rfl (lv_at hl 3 rfl) ?_
                refine lv_aload_n hx hb dW_pass_208 rfl (lv_at hl 5 rfl) ?_
                refine lv_aload hx hb dW_pass_209 (lv_at hl 1 rfl) ?_
                refine mm_getN (v := .int (nI (nt (sb σ (16 * i + p))))) hx hb hg inS hown hK hP ((hF.2 i hi).2.2.2.2.1 p (by omega)) y32 rfl 2 (by decide) (va_Nw.use rfl (hN _ nx130)) (fun _ h9 => h9) rfl dW_pass_211 ?_
                refine lv_aload hx hb dW_pass_214 (lv_at hl 1 rfl) ?_
                refine mm_getN (v := .int (sK σ (16 * i + p))) hx hb hg inS hown hK hP ((hF.2 i hi).2.2.2.2.1 p (by omega)) y32 rfl 4 (by decide) (va_Nw.use rfl (hN _ nx134)) (fun _ h9 => h9) rfl dW_pass_216 ?_
                refine then_v (run_V (n := 4) (As := [.int (nI p), .ref (fn i), .int (nI (nt (sb σ (16 * i + p)))), .int (sK σ (16 * i + p))]) (rest := []) C0 (w_endAt hn hw.1.1.1 hw.2.1 hw.1.1.2.1 hw.1.1.2.2.1 hw.2.2.1 hok (by omega) (hF.2 i hi).2.2.1 (hF.2 i hi).1.1 (hF.2 i hi).1.2 hnb.2.1 (by omega)) gw450 gw447 gw449 gsW_endAt gw2 (by decide +kernel) ⟨Nat.le_of_ble_eq_true rfl, Nat.le_of_ble_eq_true rfl⟩ rfl rfl ⟨Nat.le_of_ble_eq_true rfl, Nat.le_of_ble_eq_true rfl⟩ hP hw.1.1.1 hw.2.1 rfl rfl rfl hl.1 rfl (Nat.le_of_ble_eq_true rfl) dW_pass_219) hS hA (fun f33 H locs hq219 hP hS => ?_)
                obtain ⟨hv9, hk9, hs9⟩ := hq219
                obtain ⟨hw34, hg34⟩ := hw.upd3 (Nat.le_refl _) hv9 hk9 hs9
                have hF34 := hF.fr hw hg34 ho
                have y35 : f33 (sq i p) = .inr (3, [.int (sk σ (16 * i + p)), .int (sa σ (16 * i + p)), .int (nI (nt (sb σ (16 * i + p)))), .int (sc σ (16 * i + p)), .int (sK σ (16 * i + p)), .int (sl σ (16 * i + p))]) := by rw [← hnb.1]; exact (hF34.2 i hi).2.2.2.2.2.1 p (by omega)
                refine lv_iconst (v := (-1)) hx hb dW_pass_222 (by decide) ?_
                refine ret_i C0 hP hS ⟨?_, ?_, hg34⟩ dW_pass_223
                · exact (if_pos w18_6).symm
                · rw [st_K_6 w18_6, st_sh_6 w18_6, show ps_ws σ i p ws K = _ from if_neg (by rw [w18_6]; decide +kernel), show ps_pl σ i p ws K wpl = _ from if_neg (by rw [w18_6]; decide +kernel), show ps_SK σ i p ws K SK = _ from if_neg (by rw [w18_6]; decide +kernel), show ps_en σ i p en = _ from if_pos w18_6]
                  exact hw34
              · skip
                by_cases w18_7 : (sk σ (16 * i + p)) = nI 7
                · refine lv_tableIn (tgt := 224) (off := 206) hx hb dW_pass_18 (by rw [w18_7]; decide +kernel) (by rw [w18_7]; decide +kernel) (by rw [w18_7]; decide +kernel) (by decide) ?_
                  have hna := hst.2.1 (Or.inr (Or.inr (Or.inl w18_7)))
                  have y36 : f (sq i p) = .inr (3, [.int (sk σ (16 * i + p)), .int (nI (nt (sa σ (16 * i + p)))), .int (sb σ (16 * i + p)), .int (sc σ (16 * i + p)), .int (sK σ (16 * i + p)), .int (sl σ (16 * i + p))]) := by rw [← hna.1]; exact (hF.2 i hi).2.2.2.2.2.1 p (by omega)
                  refine lv_aload_n hx hb dW_pass_224 rfl (lv_at hl 2 rfl) ?_
                  refine mm_get (v := .ref wk) hx hb hg inW hown hK hP hw.1.1.1 hw.2.1 rfl 0 (by decide) (hg _ gw52) (fun _ h9 => h9) rfl dW_pass_225 ?_
                  refine lv_aload hx hb dW_pass_228 (lv_at hl 1 rfl) ?_
                  refine mm_getN (v := .int (nI (nt (sa σ (16 * i + p))))) hx hb hg inS hown hK hP ((hF.2 i hi).2.2.2.2.1 p (by omega)) y36 rfl 1 (by decide) (va_Nw.use rfl (hN _ nx128)) (fun _ h9 => h9) rfl dW_pass_230 ?_
                  refine then_v (run_VN (n := 1) (As := [.int (nI (nt (sa σ (16 * i + p))))]) (rest := []) C0 (ka_forget hn hw.1.1.2.1 hw.1.1.2.2.1 hw.2.2.1 hok hna.2.1) gw481 nx478 gw480 gsK_forget gw3 (by decide +kernel) ⟨Nat.le_of_ble_eq_true rfl, Nat.le_of_ble_eq_true rfl⟩ rfl rfl ⟨Nat.le_of_ble_eq_true rfl, Nat.le_of_ble_eq_true rfl⟩ hP hw.1.1.2.1 (hw.2.2.1).1 rfl rfl rfl hl.1 rfl (Nat.le_of_ble_eq_true rfl) dW_pass_233) hS hA (fun f37 H locs hq233 hP hS => ?_)
                  obtain ⟨hk9, hs9⟩ := hq233
                  obtain ⟨hw38, hg38⟩ := hw.updK hk9 hs9
                  have hF38 := hF.fr hw hg38 ho
                  have y39 : f37 (sq i p) = .inr (3, [.int (sk σ (16 * i + p)), .int (nI (nt (sa σ (16 * i + p)))), .int (sb σ (16 * i + p)), .int (sc σ (16 * i + p)), .int (sK σ (16 * i + p)), .int (sl σ (16 * i + p))]) := by rw [← hna.1]; exact (hF38.2 i hi).2.2.2.2.2.1 p (by omega)
                  refine lv_goto (tgt := 239) hx hb dW_pass_236 (by decide) ?_
                  refine lv_aload_n hx hb dW_pass_239 rfl (lv_at hl 2 rfl) ?_
                  refine mm_get (v := .ref wk) hx hb hg inW hown hK hP hw38.1.1.1 hw38.2.1 rfl 0 (by decide) (hg _ gw52) (fun _ h9 => h9) rfl dW_pass_240 ?_
                  refine mm_getN (v := .int (kb (kl_forget (nt (sa σ (16 * i + p))) K).1)) hx hb hg inK hown hK hP hw38.1.1.2.1 (hw38.2.2.1).1 rfl 1 (by decide) (va_Nw.use rfl (hN _ nx43)) (fun _ h9 => h9) rfl dW_pass_243 ?_
                  refine lv_if_eq (tgt := 254) hx hb dW_pass_246 (by decide) (fun c246 => ?_) (fun c246 => ?_)
                  · have c246 : ((kl_forget (nt (sa σ (16 * i + p))) K).1) = false := kb_0.mp c246
                    refine lv_iconst (v := (-1)) hx hb dW_pass_254 (by decide) ?_
                    refine ret_i C0 hP hS ⟨?_, ?_, hg38⟩ dW_pass_255
                    · unfold ps_r
                      rw [if_neg (by rw [w18_7]; decide +kernel), st_K_7 w18_7]
                      rw [if_neg (by rw [c246]; decide)]
                    · rw [st_K_7 w18_7, st_sh_7 w18_7, show ps_ws σ i p ws K = _ from if_neg (by rw [w18_7]; decide +kernel), show ps_pl σ i p ws K wpl = _ from if_neg (by rw [w18_7]; decide +kernel), show ps_SK σ i p ws K SK = _ from if_neg (by rw [w18_7]; decide +kernel), show ps_en σ i p en = _ from if_neg (by rw [w18_7]; decide +kernel), n_lu_t]
                      exact hw38
                  · have c246 : ((kl_forget (nt (sa σ (16 * i + p))) K).1) = true := kb_t.mp c246
                    refine lv_iload hx hb dW_pass_249 (lv_at hl 0 rfl) ?_
                    refine lv_goto (tgt := 255) hx hb dW_pass_251 (by decide) ?_
                    refine ret_i C0 hP hS ⟨?_, ?_, hg38⟩ dW_pass_255
                    · unfold ps_r
                      rw [if_neg (by rw [w18_7]; decide +kernel), st_K_7 w18_7]
                      rw [if_pos c246]
                      unfold st_nx
                      rw [if_neg (by rw [w18_7]; decide +kernel)]
                    · rw [st_K_7 w18_7, st_sh_7 w18_7, show ps_ws σ i p ws K = _ from if_neg (by rw [w18_7]; decide +kernel), show ps_pl σ i p ws K wpl = _ from if_neg (by rw [w18_7]; decide +kernel), show ps_SK σ i p ws K SK = _ from if_neg (by rw [w18_7]; decide +kernel), show ps_en σ i p en = _ from if_neg (by rw [w18_7]; decide +kernel), n_lu_t]
                      exact hw38
                · skip
                  refine lv_tableOut (tgt := 239) hx hb dW_pass_18 (by
                    have z0 : (sk σ (16 * i + p)).toInt ≠ 0 := fun e => w18_0 (Int32.toInt_inj.mp (e.trans (by decide +kernel)))
                    have z1 : (sk σ (16 * i + p)).toInt ≠ 1 := fun e => w18_1 (Int32.toInt_inj.mp (e.trans (by decide +kernel)))
                    have z2 : (sk σ (16 * i + p)).toInt ≠ 2 := fun e => w18_2 (Int32.toInt_inj.mp (e.trans (by decide +kernel)))
                    have z3 : (sk σ (16 * i + p)).toInt ≠ 3 := fun e => w18_3 (Int32.toInt_inj.mp (e.trans (by decide +kernel)))
                    have z4 : (sk σ (16 * i + p)).toInt ≠ 4 := fun e => w18_4 (Int32.toInt_inj.mp (e.trans (by decide +kernel)))
                    have z5 : (sk σ (16 * i + p)).toInt ≠ 5 := fun e => w18_5 (Int32.toInt_inj.mp (e.trans (by decide +kernel)))
                    have z6 : (sk σ (16 * i + p)).toInt ≠ 6 := fun e => w18_6 (Int32.toInt_inj.mp (e.trans (by decide +kernel)))
                    have z7 : (sk σ (16 * i + p)).toInt ≠ 7 := fun e => w18_7 (Int32.toInt_inj.mp (e.trans (by decide +kernel)))
                    omega) (by decide) ?_
                  obtain ⟨n, hn8, hn9⟩ := hst.1
                  exfalso
                  rcases (show n = 0 ∨ n = 1 ∨ n = 2 ∨ n = 3 ∨ n = 4 ∨ n = 5 ∨ n = 6 ∨ n = 7 by omega) with e | e | e | e | e | e | e | e <;> rw [e] at hn9
                  · exact w18_0 hn9
                  · exact w18_1 hn9
                  · exact w18_2 hn9
                  · exact w18_3 hn9
                  · exact w18_4 hn9
                  · exact w18_5 hn9
                  · exact w18_6 hn9
                  · exact w18_7 hn9
