set_option maxRecDepth 100000 in
set_option maxHeartbeats 4000000 in
theorem lc_refine {p : Program} {l : Launch} {e : Env} {s : State} {m : MethodId} {below : List Frame} {meth : Method} {c : Code} {D : va_G} {tys t0 : List (ClassId × FieldType)} {L Lc : List Nat} {f0 : Nat → va_E} {sAd : Nat → Nat} {cc fa ww kk kkb wk wkb wa wp : Nat} {wq wqb : Nat → Nat} {fn dr pr sA oA ra rb rk : Nat → Nat} {sq : Nat → Nat → Nat} {mo ap cm : Nat} {ad : Nat → Nat} {ot b Ln : Nat} {xs : Nat → Int32} {f : Nat → va_E} {th : Int32} {j : Nat} {H : Heap} {locs : List Loc} {ls : Array Slot} {Q : State → Prop} (C0 : Cx p s m #[Value.ref b] meth c code 7 "LiquidCheckerLaw" (some .boolean) D tys) (hst : l.stackTraces = false) (hT : Stc L Lc t0 f0 cc fa ww kk kkb wk wkb wa wp wq wqb fn dr pr sA oA ra rb rk sq mo ap cm ad ot) (hX0 : XOk L sAd s) (hnn : Nn s) (hXs : va_X b Ln xs s s.heap) (hbl : b < s.heap.size) (hLn : Ln ≤ 3584) (hLA : ∀ a ∈ L, s.heap.size ≤ a) (hj : 7 * j + 7 ≤ Ln) (hI : Inv tys L f cc fa ww kk kkb wk wkb wa wp wq wqb fn dr pr sA oA ra rb rk sq mo ap cm ad ot th) (hP : va_P D zCl (va_pl L f) H) (hS : va_S (fun q => s.heap.size ≤ q) s.heap H locs) (hl : lv_has ls 7 [(4, .int (nI (7 * j))), (0, .ref b), (1, .ref cc), (2, .ref mo), (3, .ref ot)]) (kkn : ∀ (f : Nat → va_E) (th : Int32) (H : Heap) (locs : List Loc) (ls : Array Slot), Inv tys L f cc fa ww kk kkb wk wkb wa wp wq wqb fn dr pr sA oA ra rb rk sq mo ap cm ad ot th → va_P D zCl (va_pl L f) H → va_S (fun q => s.heap.size ≤ q) s.heap H locs → lv_has ls 7 [(4, .int (nI (7 * j + 7))), (0, .ref b), (1, .ref cc), (2, .ref mo), (3, .ref ot)] → W p l e room_1 s m #[Value.ref b] below meth c H locs (149 + j + 1) (2698 + 6 * j + 6) Q (F0 m 23 ls [])) : W p l e room_1 s m #[Value.ref b] below meth c H locs (149 + j) (2698 + 6 * j) Q (F0 m 92 ls []) := by
  obtain ⟨hx, hb, hml, hown, hg, hr, hlocks, hK, hN⟩ := id C0
  have hbA : ¬ (fun q => s.heap.size ≤ q) b := fun h => Nat.not_le.mpr hbl h
  refine lv_aload_n hx hb dL_law_92 rfl (lv_at hl 2 rfl) ?_
  refine lv_aload_n hx hb dL_law_93 rfl (lv_at hl 1 rfl) ?_
  refine lv_iload hx hb dL_law_94 (lv_at hl 0 rfl) ?_
  refine lv_iconst (v := nI 1) hx hb dL_law_96 (by decide) ?_
  refine lv_iadd hx hb dL_law_97 ?_
  rw [nI_add]
  refine va_sld hx hb hXs hbl hbA hS (vp_in_nI (show (7 * j) + 1 < Ln by omega) (by omega)) dL_law_98 ?_
  rw [nI_clamp (by omega)]
  refine lv_aload_n hx hb dL_law_99 rfl (lv_at hl 1 rfl) ?_
  refine lv_iload hx hb dL_law_100 (lv_at hl 0 rfl) ?_
  refine lv_iconst (v := nI 2) hx hb dL_law_102 (by decide) ?_
  refine lv_iadd hx hb dL_law_103 ?_
  rw [nI_add]
  refine va_sld hx hb hXs hbl hbA hS (vp_in_nI (show (7 * j) + 2 < Ln by omega) (by omega)) dL_law_104 ?_
  rw [nI_clamp (by omega)]
  refine lv_aload_n hx hb dL_law_105 rfl (lv_at hl 1 rfl) ?_
  refine lv_iload hx hb dL_law_106 (lv_at hl 0 rfl) ?_
  refine lv_iconst (v := nI 3) hx hb dL_law_108 (by decide) ?_
  refine lv_iadd hx hb dL_law_109 ?_
  rw [nI_add]
  refine va_sld hx hb hXs hbl hbA hS (vp_in_nI (show (7 * j) + 3 < Ln by omega) (by omega)) dL_law_110 ?_
  rw [nI_clamp (by omega)]
  refine lv_aload_n hx hb dL_law_111 rfl (lv_at hl 1 rfl) ?_
  refine lv_iload hx hb dL_law_112 (lv_at hl 0 rfl) ?_
  refine lv_iconst (v := nI 4) hx hb dL_law_114 (by decide) ?_
  refine lv_iadd hx hb dL_law_115 ?_
  rw [nI_add]
  refine va_sld hx hb hXs hbl hbA hS (vp_in_nI (show (7 * j) + 4 < Ln by omega) (by omega)) dL_law_116 ?_
  rw [nI_clamp (by omega)]
  refine lv_aload_n hx hb dL_law_117 rfl (lv_at hl 1 rfl) ?_
  refine lv_iload hx hb dL_law_118 (lv_at hl 0 rfl) ?_
  refine lv_iconst (v := nI 5) hx hb dL_law_120 (by decide) ?_
  refine lv_iadd hx hb dL_law_121 ?_
  rw [nI_add]
  refine va_sld hx hb hXs hbl hbA hS (vp_in_nI (show (7 * j) + 5 < Ln by omega) (by omega)) dL_law_122 ?_
  rw [nI_clamp (by omega)]
  refine lv_aload_n hx hb dL_law_123 rfl (lv_at hl 4 rfl) ?_
  obtain ⟨mid, hH, hMd⟩ := law_refine (l := l) (sAd := sAd) (D := D) hst hT hI (x := xs ((7 * j) + 1)) (kd := xs ((7 * j) + 2)) (a := xs ((7 * j) + 3)) (b := xs ((7 * j) + 4)) (k := xs ((7 * j) + 5))
  refine then_h (run_H (n := 7) (As := [.ref cc, .int (xs ((7 * j) + 1)), .int (xs ((7 * j) + 2)), .int (xs ((7 * j) + 3)), .int (xs ((7 * j) + 4)), .int (xs ((7 * j) + 5)), .ref ot]) (rest := []) C0 hX0 hnn (hX0.2.2.kept (fun a h1 h2 => hS.2.1 a h1 (Nat.not_le.mpr h1))) hH gcL_refine gw193 gw194 gw0 (by decide +kernel) ⟨Nat.le_of_ble_eq_true rfl, Nat.le_of_ble_eq_true rfl⟩ rfl rfl ⟨by show _ ≤ 601024; omega, by show _ ≤ 7293034; omega⟩ hP rfl hl.1 rfl (Nat.le_of_ble_eq_true rfl) dL_law_124) hS hLA (fun k9 f1 H locs hq1 hP hS => ?_)
  obtain ⟨⟨hmL, fs1, hmo⟩, hMe⟩ := hMd k9 f1 hq1
  refine lv_istore (lv' := [(5, .int k9), (4, .int (nI (7 * j))), (0, .ref b), (1, .ref cc), (2, .ref mo), (3, .ref ot)]) hx hb dL_law_127 hl (by decide) rfl (fun ls hl => ?_)
  refine lv_aload_n hx hb dL_law_129 rfl (lv_at hl 4 rfl) ?_
  refine lv_aload_n hx hb dL_law_130 rfl (lv_at hl 2 rfl) ?_
  refine lv_iload hx hb dL_law_131 (lv_at hl 1 rfl) ?_
  refine lv_iconst (v := nI 1) hx hb dL_law_133 (by decide) ?_
  refine lv_iadd hx hb dL_law_134 ?_
  rw [nI_add]
  refine va_sld hx hb hXs hbl hbA hS (vp_in_nI (show (7 * j) + 1 < Ln by omega) (by omega)) dL_law_135 ?_
  rw [nI_clamp (by omega)]
  refine lv_aload_n hx hb dL_law_136 rfl (lv_at hl 2 rfl) ?_
  refine lv_iload hx hb dL_law_137 (lv_at hl 1 rfl) ?_
  refine lv_iconst (v := nI 2) hx hb dL_law_139 (by decide) ?_
  refine lv_iadd hx hb dL_law_140 ?_
  rw [nI_add]
  refine va_sld hx hb hXs hbl hbA hS (vp_in_nI (show (7 * j) + 2 < Ln by omega) (by omega)) dL_law_141 ?_
  rw [nI_clamp (by omega)]
  refine lv_aload_n hx hb dL_law_142 rfl (lv_at hl 2 rfl) ?_
  refine lv_iload hx hb dL_law_143 (lv_at hl 1 rfl) ?_
  refine lv_iconst (v := nI 3) hx hb dL_law_145 (by decide) ?_
  refine lv_iadd hx hb dL_law_146 ?_
  rw [nI_add]
  refine va_sld hx hb hXs hbl hbA hS (vp_in_nI (show (7 * j) + 3 < Ln by omega) (by omega)) dL_law_147 ?_
  rw [nI_clamp (by omega)]
  refine lv_aload_n hx hb dL_law_148 rfl (lv_at hl 2 rfl) ?_
  refine lv_iload hx hb dL_law_149 (lv_at hl 1 rfl) ?_
  refine lv_iconst (v := nI 4) hx hb dL_law_151 (by decide) ?_
  refine lv_iadd hx hb dL_law_152 ?_
  rw [nI_add]
  refine va_sld hx hb hXs hbl hbA hS (vp_in_nI (show (7 * j) + 4 < Ln by omega) (by omega)) dL_law_153 ?_
  rw [nI_clamp (by omega)]
  refine lv_aload_n hx hb dL_law_154 rfl (lv_at hl 2 rfl) ?_
  refine lv_iload hx hb dL_law_155 (lv_at hl 1 rfl) ?_
  refine lv_iconst (v := nI 5) hx hb dL_law_157 (by decide) ?_
  refine lv_iadd hx hb dL_law_158 ?_
  rw [nI_add]
  refine va_sld hx hb hXs hbl hbA hS (vp_in_nI (show (7 * j) + 5 < Ln by omega) (by omega)) dL_law_159 ?_
  rw [nI_clamp (by omega)]
  refine then_i (run_V (n := 5) (As := [.int (xs ((7 * j) + 1)), .int (xs ((7 * j) + 2)), .int (xs ((7 * j) + 3)), .int (xs ((7 * j) + 4)), .int (xs ((7 * j) + 5))]) (rest := []) C0 hMe gw690 gw687 gw688 gsM_refine gw7 (by decide +kernel) ⟨Nat.le_of_ble_eq_true rfl, Nat.le_of_ble_eq_true rfl⟩ rfl rfl ⟨by show _ ≤ 601024; omega, by show _ ≤ 7293034; omega⟩ hP hmL hmo rfl rfl rfl hl.1 rfl (Nat.le_of_ble_eq_true rfl) dL_law_160) hS hLA (fun r1 f2 H locs hq2 hP hS => ?_)
  obtain ⟨hI2, g2, hJ2, hg2⟩ := hq2
  refine lv_istore (lv' := [(6, .int r1), (5, .int k9), (4, .int (nI (7 * j))), (0, .ref b), (1, .ref cc), (2, .ref mo), (3, .ref ot)]) hx hb dL_law_163 hl (by decide) rfl (fun ls hl => ?_)
  refine lv_aload_n hx hb dL_law_165 rfl (lv_at hl 5 rfl) ?_
  obtain ⟨_, _, _, _, _, G2, -, hM2, -, -⟩ := id hI2
  obtain ⟨fe2, me2, fu2, le2, en2, sp2, ka2, kc2, mx2, se2, gc2, -, -, -, hD2⟩ := hM2
  refine then_i (run_V (n := 0) (As := []) (rest := []) C0 (m_thrown hT.1 hD2) gw686 gw683 gw684 gsM_thrown gw7 (by decide +kernel) ⟨Nat.le_of_ble_eq_true rfl, Nat.le_of_ble_eq_true rfl⟩ rfl rfl ⟨by show _ ≤ 601024; omega, by show _ ≤ 7293034; omega⟩ hP hD2.1.1.1 hD2.2.1 rfl rfl rfl hl.1 rfl (Nat.le_of_ble_eq_true rfl) dL_law_166) hS hLA (fun r3 f3 H locs hq3 hP hS => ?_)
  obtain ⟨er3, ef3⟩ := hq3
  subst er3
  rw [ef3] at hP
  refine lv_iload hx hb dL_law_169 (lv_at hl 1 rfl) ?_
  refine lv_icmp_eq (tgt := 176) hx hb dL_law_171 (by decide) (fun c171 => ?_) (fun c171 => absurd rfl c171)
  refine lv_iload hx hb dL_law_176 (lv_at hl 1 rfl) ?_
  refine lv_if_ne (tgt := 193) hx hb dL_law_178 (by decide) (fun c178 => ?_) (fun c178 => ?_)
  · refine lv_goto (tgt := 778) hx hb dL_law_193 (by decide) ?_
    refine lv_iinc (v := nI ((7 * j) + 7)) (lv' := [(4, .int (nI ((7 * j) + 7))), (6, .int r1), (5, .int r3), (0, .ref b), (1, .ref cc), (2, .ref mo), (3, .ref ot)]) hx hb dL_law_778 hl (k := 2) rfl (nI_add (7 * j) 7) (by decide) rfl (fun ls hl => ?_)
    refine lv_goto (tgt := 23) hx hb dL_law_781 (by decide) ?_
    exact kkn f2 _ H locs ls hI2 hP hS (lv_sub hl [0, 3, 4, 5, 6] rfl)
  · refine lv_aload_n hx hb dL_law_181 rfl (lv_at hl 6 rfl) ?_
    refine lv_iconst (v := nI 0) hx hb dL_law_182 (by decide) ?_
    refine mm_lald hx hb hK hP hT.2.2.2.2.2.2.2.2.1 hJ2 (vp_in_nI (show 0 < 1 by omega) (by omega)) dL_law_183 ?_
    rw [nI_clamp (by omega)]
    refine lv_iload hx hb dL_law_184 (lv_at hl 0 rfl) ?_
    refine lv_i2l hx hb dL_law_186 rfl ?_
    refine W.lcmp hx hb dL_law_187 ?_
    refine lv_if_eq (tgt := 193) hx hb dL_law_188 (by decide) (fun c188 => ?_) (fun c188 => absurd ((lg_cmp_eq _ _).mpr (hg2 (c178.trans nI_0.symm))) c188)
    refine lv_goto (tgt := 778) hx hb dL_law_193 (by decide) ?_
    refine lv_iinc (v := nI ((7 * j) + 7)) (lv' := [(4, .int (nI ((7 * j) + 7))), (6, .int r1), (5, .int r3), (0, .ref b), (1, .ref cc), (2, .ref mo), (3, .ref ot)]) hx hb dL_law_778 hl (k := 2) rfl (nI_add (7 * j) 7) (by decide) rfl (fun ls hl => ?_)
    refine lv_goto (tgt := 23) hx hb dL_law_781 (by decide) ?_
    exact kkn f2 _ H locs ls hI2 hP hS (lv_sub hl [0, 3, 4, 5, 6] rfl)
set_option maxRecDepth 100000 in
set_option maxHeartbeats 4000000 in
theorem lc_statement {p : Program} {l : Launch} {e : Env} {s : State} {m : MethodId} {below : List Frame} {meth : Method} {c : Code} {D : va_G} {tys t0 : List (ClassId × FieldType)} {L Lc : List Nat} {f0 : Nat → va_E} {sAd : Nat → Nat} {cc fa ww kk kkb wk wkb wa wp : Nat} {wq wqb : Nat → Nat} {fn dr pr sA oA ra rb rk : Nat → Nat} {sq : Nat → Nat → Nat} {mo ap cm : Nat} {ad : Nat → Nat} {ot b Ln : Nat} {xs : Nat → Int32} {f : Nat → va_E} {th : Int32} {j : Nat} {H : Heap} {locs : List Loc} {ls : Array Slot} {Q : State → Prop} (C0 : Cx p s m #[Value.ref b] meth c code 7 "LiquidCheckerLaw" (some .boolean) D tys) (hst : l.stackTraces = false) (hT : Stc L Lc t0 f0 cc fa ww kk kkb wk wkb wa wp wq wqb fn dr pr sA oA ra rb rk sq mo ap cm ad ot) (hX0 : XOk L sAd s) (hnn : Nn s) (hXs : va_X b Ln xs s s.heap) (hbl : b < s.heap.size) (hLn : Ln ≤ 3584) (hLA : ∀ a ∈ L, s.heap.size ≤ a) (hj : 7 * j + 7 ≤ Ln) (hI : Inv tys L f cc fa ww kk kkb wk wkb wa wp wq wqb fn dr pr sA oA ra rb rk sq mo ap cm ad ot th) (hP : va_P D zCl (va_pl L f) H) (hS : va_S (fun q => s.heap.size ≤ q) s.heap H locs) (hl : lv_has ls 7 [(4, .int (nI (7 * j))), (0, .ref b), (1, .ref cc), (2, .ref mo), (3, .ref ot)]) (kkn : ∀ (f : Nat → va_E) (th : Int32) (H : Heap) (locs : List Loc) (ls : Array Slot), Inv tys L f cc fa ww kk kkb wk wkb wa wp wq wqb fn dr pr sA oA ra rb rk sq mo ap cm ad ot th → va_P D zCl (va_pl L f) H → va_S (fun q => s.heap.size ≤ q) s.heap H locs → lv_has ls 7 [(4, .int (nI (7 * j + 7))), (0, .ref b), (1, .ref cc), (2, .ref mo), (3, .ref ot)] → W p l e room_1 s m #[Value.ref b] below meth c H locs (149 + j + 1) (2698 + 6 * j + 6) Q (F0 m 23 ls [])) : W p l e room_1 s m #[Value.ref b] below meth c H locs (149 + j) (2698 + 6 * j) Q (F0 m 196 ls []) := by
  obtain ⟨hx, hb, hml, hown, hg, hr, hlocks, hK, hN⟩ := id C0
  have hbA : ¬ (fun q => s.heap.size ≤ q) b := fun h => Nat.not_le.mpr hbl h
  refine lv_aload_n hx hb dL_law_196 rfl (lv_at hl 2 rfl) ?_
  refine lv_aload_n hx hb dL_law_197 rfl (lv_at hl 1 rfl) ?_
  refine lv_iload hx hb dL_law_198 (lv_at hl 0 rfl) ?_
  refine lv_iconst (v := nI 1) hx hb dL_law_200 (by decide) ?_
  refine lv_iadd hx hb dL_law_201 ?_
  rw [nI_add]
  refine va_sld hx hb hXs hbl hbA hS (vp_in_nI (show (7 * j) + 1 < Ln by omega) (by omega)) dL_law_202 ?_
  rw [nI_clamp (by omega)]
  refine lv_aload_n hx hb dL_law_203 rfl (lv_at hl 1 rfl) ?_
  refine lv_iload hx hb dL_law_204 (lv_at hl 0 rfl) ?_
  refine lv_iconst (v := nI 2) hx hb dL_law_206 (by decide) ?_
  refine lv_iadd hx hb dL_law_207 ?_
  rw [nI_add]
  refine va_sld hx hb hXs hbl hbA hS (vp_in_nI (show (7 * j) + 2 < Ln by omega) (by omega)) dL_law_208 ?_
  rw [nI_clamp (by omega)]
  refine lv_aload_n hx hb dL_law_209 rfl (lv_at hl 1 rfl) ?_
  refine lv_iload hx hb dL_law_210 (lv_at hl 0 rfl) ?_
  refine lv_iconst (v := nI 3) hx hb dL_law_212 (by decide) ?_
  refine lv_iadd hx hb dL_law_213 ?_
  rw [nI_add]
  refine va_sld hx hb hXs hbl hbA hS (vp_in_nI (show (7 * j) + 3 < Ln by omega) (by omega)) dL_law_214 ?_
  rw [nI_clamp (by omega)]
  refine lv_aload_n hx hb dL_law_215 rfl (lv_at hl 1 rfl) ?_
  refine lv_iload hx hb dL_law_216 (lv_at hl 0 rfl) ?_
  refine lv_iconst (v := nI 4) hx hb dL_law_218 (by decide) ?_
  refine lv_iadd hx hb dL_law_219 ?_
  rw [nI_add]
  refine va_sld hx hb hXs hbl hbA hS (vp_in_nI (show (7 * j) + 4 < Ln by omega) (by omega)) dL_law_220 ?_
  rw [nI_clamp (by omega)]
  refine lv_aload_n hx hb dL_law_221 rfl (lv_at hl 1 rfl) ?_
  refine lv_iload hx hb dL_law_222 (lv_at hl 0 rfl) ?_
  refine lv_iconst (v := nI 5) hx hb dL_law_224 (by decide) ?_
  refine lv_iadd hx hb dL_law_225 ?_
  rw [nI_add]
  refine va_sld hx hb hXs hbl hbA hS (vp_in_nI (show (7 * j) + 5 < Ln by omega) (by omega)) dL_law_226 ?_
  rw [nI_clamp (by omega)]
  refine lv_aload_n hx hb dL_law_227 rfl (lv_at hl 1 rfl) ?_
  refine lv_iload hx hb dL_law_228 (lv_at hl 0 rfl) ?_
  refine lv_bipush (v := nI 6) hx hb dL_law_230 (by decide) ?_
  refine lv_iadd hx hb dL_law_232 ?_
  rw [nI_add]
  refine va_sld hx hb hXs hbl hbA hS (vp_in_nI (show (7 * j) + 6 < Ln by omega) (by omega)) dL_law_233 ?_
  rw [nI_clamp (by omega)]
  refine lv_aload_n hx hb dL_law_234 rfl (lv_at hl 4 rfl) ?_
  obtain ⟨mid, hH, hMd⟩ := law_statement (l := l) (sAd := sAd) (D := D) hst hT hI (x := xs ((7 * j) + 1)) (kd := xs ((7 * j) + 2)) (a := xs ((7 * j) + 3)) (b := xs ((7 * j) + 4)) (c := xs ((7 * j) + 5)) (k := xs ((7 * j) + 6))
  refine then_h (run_H (n := 8) (As := [.ref cc, .int (xs ((7 * j) + 1)), .int (xs ((7 * j) + 2)), .int (xs ((7 * j) + 3)), .int (xs ((7 * j) + 4)), .int (xs ((7 * j) + 5)), .int (xs ((7 * j) + 6)), .ref ot]) (rest := []) C0 hX0 hnn (hX0.2.2.kept (fun a h1 h2 => hS.2.1 a h1 (Nat.not_le.mpr h1))) hH gcL_statement gw302 gw303 gw0 (by decide +kernel) ⟨Nat.le_of_ble_eq_true rfl, Nat.le_of_ble_eq_true rfl⟩ rfl rfl ⟨by show _ ≤ 601024; omega, by show _ ≤ 7293034; omega⟩ hP rfl hl.1 rfl (Nat.le_of_ble_eq_true rfl) dL_law_235) hS hLA (fun k9 f1 H locs hq1 hP hS => ?_)
  obtain ⟨⟨hmL, fs1, hmo⟩, hMe⟩ := hMd k9 f1 hq1
  refine lv_istore (lv' := [(5, .int k9), (4, .int (nI (7 * j))), (0, .ref b), (1, .ref cc), (2, .ref mo), (3, .ref ot)]) hx hb dL_law_238 hl (by decide) rfl (fun ls hl => ?_)
  refine lv_aload_n hx hb dL_law_240 rfl (lv_at hl 4 rfl) ?_
  refine lv_aload_n hx hb dL_law_241 rfl (lv_at hl 2 rfl) ?_
  refine lv_iload hx hb dL_law_242 (lv_at hl 1 rfl) ?_
  refine lv_iconst (v := nI 1) hx hb dL_law_244 (by decide) ?_
  refine lv_iadd hx hb dL_law_245 ?_
  rw [nI_add]
  refine va_sld hx hb hXs hbl hbA hS (vp_in_nI (show (7 * j) + 1 < Ln by omega) (by omega)) dL_law_246 ?_
  rw [nI_clamp (by omega)]
  refine lv_aload_n hx hb dL_law_247 rfl (lv_at hl 2 rfl) ?_
  refine lv_iload hx hb dL_law_248 (lv_at hl 1 rfl) ?_
  refine lv_iconst (v := nI 2) hx hb dL_law_250 (by decide) ?_
  refine lv_iadd hx hb dL_law_251 ?_
  rw [nI_add]
  refine va_sld hx hb hXs hbl hbA hS (vp_in_nI (show (7 * j) + 2 < Ln by omega) (by omega)) dL_law_252 ?_
  rw [nI_clamp (by omega)]
  refine lv_aload_n hx hb dL_law_253 rfl (lv_at hl 2 rfl) ?_
  refine lv_iload hx hb dL_law_254 (lv_at hl 1 rfl) ?_
  refine lv_iconst (v := nI 3) hx hb dL_law_256 (by decide) ?_
  refine lv_iadd hx hb dL_law_257 ?_
  rw [nI_add]
  refine va_sld hx hb hXs hbl hbA hS (vp_in_nI (show (7 * j) + 3 < Ln by omega) (by omega)) dL_law_258 ?_
  rw [nI_clamp (by omega)]
  refine lv_aload_n hx hb dL_law_259 rfl (lv_at hl 2 rfl) ?_
  refine lv_iload hx hb dL_law_260 (lv_at hl 1 rfl) ?_
  refine lv_iconst (v := nI 4) hx hb dL_law_262 (by decide) ?_
  refine lv_iadd hx hb dL_law_263 ?_
  rw [nI_add]
  refine va_sld hx hb hXs hbl hbA hS (vp_in_nI (show (7 * j) + 4 < Ln by omega) (by omega)) dL_law_264 ?_
  rw [nI_clamp (by omega)]
  refine lv_aload_n hx hb dL_law_265 rfl (lv_at hl 2 rfl) ?_
  refine lv_iload hx hb dL_law_266 (lv_at hl 1 rfl) ?_
  refine lv_iconst (v := nI 5) hx hb dL_law_268 (by decide) ?_
  refine lv_iadd hx hb dL_law_269 ?_
  rw [nI_add]
  refine va_sld hx hb hXs hbl hbA hS (vp_in_nI (show (7 * j) + 5 < Ln by omega) (by omega)) dL_law_270 ?_
  rw [nI_clamp (by omega)]
  refine lv_aload_n hx hb dL_law_271 rfl (lv_at hl 2 rfl) ?_
  refine lv_iload hx hb dL_law_272 (lv_at hl 1 rfl) ?_
  refine lv_bipush (v := nI 6) hx hb dL_law_274 (by decide) ?_
  refine lv_iadd hx hb dL_law_276 ?_
  rw [nI_add]
  refine va_sld hx hb hXs hbl hbA hS (vp_in_nI (show (7 * j) + 6 < Ln by omega) (by omega)) dL_law_277 ?_
  rw [nI_clamp (by omega)]
  refine then_i (run_V (n := 6) (As := [.int (xs ((7 * j) + 1)), .int (xs ((7 * j) + 2)), .int (xs ((7 * j) + 3)), .int (xs ((7 * j) + 4)), .int (xs ((7 * j) + 5)), .int (xs ((7 * j) + 6))]) (rest := []) C0 hMe gw704 gw701 gw702 gsM_statement gw7 (by decide +kernel) ⟨Nat.le_of_ble_eq_true rfl, Nat.le_of_ble_eq_true rfl⟩ rfl rfl ⟨by show _ ≤ 601024; omega, by show _ ≤ 7293034; omega⟩ hP hmL hmo rfl rfl rfl hl.1 rfl (Nat.le_of_ble_eq_true rfl) dL_law_278) hS hLA (fun r1 f2 H locs hq2 hP hS => ?_)
  obtain ⟨hI2, g2, hJ2, hg2⟩ := hq2
  refine lv_istore (lv' := [(6, .int r1), (5, .int k9), (4, .int (nI (7 * j))), (0, .ref b), (1, .ref cc), (2, .ref mo), (3, .ref ot)]) hx hb dL_law_281 hl (by decide) rfl (fun ls hl => ?_)
  refine lv_aload_n hx hb dL_law_283 rfl (lv_at hl 5 rfl) ?_
  obtain ⟨_, _, _, _, _, G2, -, hM2, -, -⟩ := id hI2
  obtain ⟨fe2, me2, fu2, le2, en2, sp2, ka2, kc2, mx2, se2, gc2, -, -, -, hD2⟩ := hM2
  refine then_i (run_V (n := 0) (As := []) (rest := []) C0 (m_thrown hT.1 hD2) gw686 gw683 gw684 gsM_thrown gw7 (by decide +kernel) ⟨Nat.le_of_ble_eq_true rfl, Nat.le_of_ble_eq_true rfl⟩ rfl rfl ⟨by show _ ≤ 601024; omega, by show _ ≤ 7293034; omega⟩ hP hD2.1.1.1 hD2.2.1 rfl rfl rfl hl.1 rfl (Nat.le_of_ble_eq_true rfl) dL_law_284) hS hLA (fun r3 f3 H locs hq3 hP hS => ?_)
  obtain ⟨er3, ef3⟩ := hq3
  subst er3
  rw [ef3] at hP
  refine lv_iload hx hb dL_law_287 (lv_at hl 1 rfl) ?_
  refine lv_icmp_eq (tgt := 294) hx hb dL_law_289 (by decide) (fun c289 => ?_) (fun c289 => absurd rfl c289)
  refine lv_iload hx hb dL_law_294 (lv_at hl 1 rfl) ?_
  refine lv_if_ne (tgt := 311) hx hb dL_law_296 (by decide) (fun c296 => ?_) (fun c296 => ?_)
  · refine lv_goto (tgt := 778) hx hb dL_law_311 (by decide) ?_
    refine lv_iinc (v := nI ((7 * j) + 7)) (lv' := [(4, .int (nI ((7 * j) + 7))), (6, .int r1), (5, .int r3), (0, .ref b), (1, .ref cc), (2, .ref mo), (3, .ref ot)]) hx hb dL_law_778 hl (k := 2) rfl (nI_add (7 * j) 7) (by decide) rfl (fun ls hl => ?_)
    refine lv_goto (tgt := 23) hx hb dL_law_781 (by decide) ?_
    exact kkn f2 _ H locs ls hI2 hP hS (lv_sub hl [0, 3, 4, 5, 6] rfl)
  · refine lv_aload_n hx hb dL_law_299 rfl (lv_at hl 6 rfl) ?_
    refine lv_iconst (v := nI 0) hx hb dL_law_300 (by decide) ?_
    refine mm_lald hx hb hK hP hT.2.2.2.2.2.2.2.2.1 hJ2 (vp_in_nI (show 0 < 1 by omega) (by omega)) dL_law_301 ?_
    rw [nI_clamp (by omega)]
    refine lv_iload hx hb dL_law_302 (lv_at hl 0 rfl) ?_
    refine lv_i2l hx hb dL_law_304 rfl ?_
    refine W.lcmp hx hb dL_law_305 ?_
    refine lv_if_eq (tgt := 311) hx hb dL_law_306 (by decide) (fun c306 => ?_) (fun c306 => absurd ((lg_cmp_eq _ _).mpr (hg2 (c296.trans nI_0.symm))) c306)
    refine lv_goto (tgt := 778) hx hb dL_law_311 (by decide) ?_
    refine lv_iinc (v := nI ((7 * j) + 7)) (lv' := [(4, .int (nI ((7 * j) + 7))), (6, .int r1), (5, .int r3), (0, .ref b), (1, .ref cc), (2, .ref mo), (3, .ref ot)]) hx hb dL_law_778 hl (k := 2) rfl (nI_add (7 * j) 7) (by decide) rfl (fun ls hl => ?_)
    refine lv_goto (tgt := 23) hx hb dL_law_781 (by decide) ?_
    exact kkn f2 _ H locs ls hI2 hP hS (lv_sub hl [0, 3, 4, 5, 6] rfl)
set_option maxRecDepth 100000 in
set_option maxHeartbeats 4000000 in
theorem lc_clear {p : Program} {l : Launch} {e : Env} {s : State} {m : MethodId} {below : List Frame} {meth : Method} {c : Code} {D : va_G} {tys t0 : List (ClassId × FieldType)} {L Lc : List Nat} {f0 : Nat → va_E} {sAd : Nat → Nat} {cc fa ww kk kkb wk wkb wa wp : Nat} {wq wqb : Nat → Nat} {fn dr pr sA oA ra rb rk : Nat → Nat} {sq : Nat → Nat → Nat} {mo ap cm : Nat} {ad : Nat → Nat} {ot b Ln : Nat} {xs : Nat → Int32} {f : Nat → va_E} {th : Int32} {j : Nat} {H : Heap} {locs : List Loc} {ls : Array Slot} {Q : State → Prop} (C0 : Cx p s m #[Value.ref b] meth c code 7 "LiquidCheckerLaw" (some .boolean) D tys) (hst : l.stackTraces = false) (hT : Stc L Lc t0 f0 cc fa ww kk kkb wk wkb wa wp wq wqb fn dr pr sA oA ra rb rk sq mo ap cm ad ot) (hX0 : XOk L sAd s) (hnn : Nn s) (hXs : va_X b Ln xs s s.heap) (hbl : b < s.heap.size) (hLn : Ln ≤ 3584) (hLA : ∀ a ∈ L, s.heap.size ≤ a) (hj : 7 * j + 7 ≤ Ln) (hI : Inv tys L f cc fa ww kk kkb wk wkb wa wp wq wqb fn dr pr sA oA ra rb rk sq mo ap cm ad ot th) (hP : va_P D zCl (va_pl L f) H) (hS : va_S (fun q => s.heap.size ≤ q) s.heap H locs) (hl : lv_has ls 7 [(4, .int (nI (7 * j))), (0, .ref b), (1, .ref cc), (2, .ref mo), (3, .ref ot)]) (kkn : ∀ (f : Nat → va_E) (th : Int32) (H : Heap) (locs : List Loc) (ls : Array Slot), Inv tys L f cc fa ww kk kkb wk wkb wa wp wq wqb fn dr pr sA oA ra rb rk sq mo ap cm ad ot th → va_P D zCl (va_pl L f) H → va_S (fun q => s.heap.size ≤ q) s.heap H locs → lv_has ls 7 [(4, .int (nI (7 * j + 7))), (0, .ref b), (1, .ref cc), (2, .ref mo), (3, .ref ot)] → W p l e room_1 s m #[Value.ref b] below meth c H locs (149 + j + 1) (2698 + 6 * j + 6) Q (F0 m 23 ls [])) : W p l e room_1 s m #[Value.ref b] below meth c H locs (149 + j) (2698 + 6 * j) Q (F0 m 314 ls []) := by
  obtain ⟨hx, hb, hml, hown, hg, hr, hlocks, hK, hN⟩ := id C0
  have hbA : ¬ (fun q => s.heap.size ≤ q) b := fun h => Nat.not_le.mpr hbl h
  refine lv_aload_n hx hb dL_law_314 rfl (lv_at hl 2 rfl) ?_
  refine lv_aload_n hx hb dL_law_315 rfl (lv_at hl 1 rfl) ?_
  refine lv_iload hx hb dL_law_316 (lv_at hl 0 rfl) ?_
  refine lv_iconst (v := nI 1) hx hb dL_law_318 (by decide) ?_
  refine lv_iadd hx hb dL_law_319 ?_
  rw [nI_add]
  refine va_sld hx hb hXs hbl hbA hS (vp_in_nI (show (7 * j) + 1 < Ln by omega) (by omega)) dL_law_320 ?_
  rw [nI_clamp (by omega)]
  refine lv_aload_n hx hb dL_law_321 rfl (lv_at hl 4 rfl) ?_
  obtain ⟨mid, hH, hMd⟩ := law_clear (l := l) (sAd := sAd) (D := D) hst hT hI (x := xs ((7 * j) + 1))
  refine then_h (run_H (n := 3) (As := [.ref cc, .int (xs ((7 * j) + 1)), .ref ot]) (rest := []) C0 hX0 hnn (hX0.2.2.kept (fun a h1 h2 => hS.2.1 a h1 (Nat.not_le.mpr h1))) hH gcL_clear gw389 gw390 gw0 (by decide +kernel) ⟨Nat.le_of_ble_eq_true rfl, Nat.le_of_ble_eq_true rfl⟩ rfl rfl ⟨by show _ ≤ 601024; omega, by show _ ≤ 7293034; omega⟩ hP rfl hl.1 rfl (Nat.le_of_ble_eq_true rfl) dL_law_322) hS hLA (fun k9 f1 H locs hq1 hP hS => ?_)
  obtain ⟨⟨hmL, fs1, hmo⟩, hMe⟩ := hMd k9 f1 hq1
  refine lv_istore (lv' := [(5, .int k9), (4, .int (nI (7 * j))), (0, .ref b), (1, .ref cc), (2, .ref mo), (3, .ref ot)]) hx hb dL_law_325 hl (by decide) rfl (fun ls hl => ?_)
  refine lv_aload_n hx hb dL_law_327 rfl (lv_at hl 4 rfl) ?_
  refine lv_aload_n hx hb dL_law_328 rfl (lv_at hl 2 rfl) ?_
  refine lv_iload hx hb dL_law_329 (lv_at hl 1 rfl) ?_
  refine lv_iconst (v := nI 1) hx hb dL_law_331 (by decide) ?_
  refine lv_iadd hx hb dL_law_332 ?_
  rw [nI_add]
  refine va_sld hx hb hXs hbl hbA hS (vp_in_nI (show (7 * j) + 1 < Ln by omega) (by omega)) dL_law_333 ?_
  rw [nI_clamp (by omega)]
  refine then_i (run_V (n := 1) (As := [.int (xs ((7 * j) + 1))]) (rest := []) C0 hMe gw722 gw719 gw720 gsM_clear gw7 (by decide +kernel) ⟨Nat.le_of_ble_eq_true rfl, Nat.le_of_ble_eq_true rfl⟩ rfl rfl ⟨by show _ ≤ 601024; omega, by show _ ≤ 7293034; omega⟩ hP hmL hmo rfl rfl rfl hl.1 rfl (Nat.le_of_ble_eq_true rfl) dL_law_334) hS hLA (fun r1 f2 H locs hq2 hP hS => ?_)
  obtain ⟨hI2, g2, hJ2, hg2⟩ := hq2
  refine lv_istore (lv' := [(6, .int r1), (5, .int k9), (4, .int (nI (7 * j))), (0, .ref b), (1, .ref cc), (2, .ref mo), (3, .ref ot)]) hx hb dL_law_337 hl (by decide) rfl (fun ls hl => ?_)
  refine lv_aload_n hx hb dL_law_339 rfl (lv_at hl 5 rfl) ?_
  obtain ⟨_, _, _, _, _, G2, -, hM2, -, -⟩ := id hI2
  obtain ⟨fe2, me2, fu2, le2, en2, sp2, ka2, kc2, mx2, se2, gc2, -, -, -, hD2⟩ := hM2
  refine then_i (run_V (n := 0) (As := []) (rest := []) C0 (m_thrown hT.1 hD2) gw686 gw683 gw684 gsM_thrown gw7 (by decide +kernel) ⟨Nat.le_of_ble_eq_true rfl, Nat.le_of_ble_eq_true rfl⟩ rfl rfl ⟨by show _ ≤ 601024; omega, by show _ ≤ 7293034; omega⟩ hP hD2.1.1.1 hD2.2.1 rfl rfl rfl hl.1 rfl (Nat.le_of_ble_eq_true rfl) dL_law_340) hS hLA (fun r3 f3 H locs hq3 hP hS => ?_)
  obtain ⟨er3, ef3⟩ := hq3
  subst er3
  rw [ef3] at hP
  refine lv_iload hx hb dL_law_343 (lv_at hl 1 rfl) ?_
  refine lv_icmp_eq (tgt := 350) hx hb dL_law_345 (by decide) (fun c345 => ?_) (fun c345 => absurd rfl c345)
  refine lv_iload hx hb dL_law_350 (lv_at hl 1 rfl) ?_
  refine lv_if_ne (tgt := 367) hx hb dL_law_352 (by decide) (fun c352 => ?_) (fun c352 => ?_)
  · refine lv_goto (tgt := 778) hx hb dL_law_367 (by decide) ?_
    refine lv_iinc (v := nI ((7 * j) + 7)) (lv' := [(4, .int (nI ((7 * j) + 7))), (6, .int r1), (5, .int r3), (0, .ref b), (1, .ref cc), (2, .ref mo), (3, .ref ot)]) hx hb dL_law_778 hl (k := 2) rfl (nI_add (7 * j) 7) (by decide) rfl (fun ls hl => ?_)
    refine lv_goto (tgt := 23) hx hb dL_law_781 (by decide) ?_
    exact kkn f2 _ H locs ls hI2 hP hS (lv_sub hl [0, 3, 4, 5, 6] rfl)
  · refine lv_aload_n hx hb dL_law_355 rfl (lv_at hl 6 rfl) ?_
    refine lv_iconst (v := nI 0) hx hb dL_law_356 (by decide) ?_
    refine mm_lald hx hb hK hP hT.2.2.2.2.2.2.2.2.1 hJ2 (vp_in_nI (show 0 < 1 by omega) (by omega)) dL_law_357 ?_
    rw [nI_clamp (by omega)]
    refine lv_iload hx hb dL_law_358 (lv_at hl 0 rfl) ?_
    refine lv_i2l hx hb dL_law_360 rfl ?_
    refine W.lcmp hx hb dL_law_361 ?_
    refine lv_if_eq (tgt := 367) hx hb dL_law_362 (by decide) (fun c362 => ?_) (fun c362 => absurd ((lg_cmp_eq _ _).mpr (hg2 (c352.trans nI_0.symm))) c362)
    refine lv_goto (tgt := 778) hx hb dL_law_367 (by decide) ?_
    refine lv_iinc (v := nI ((7 * j) + 7)) (lv' := [(4, .int (nI ((7 * j) + 7))), (6, .int r1), (5, .int r3), (0, .ref b), (1, .ref cc), (2, .ref mo), (3, .ref ot)]) hx hb dL_law_778 hl (k := 2) rfl (nI_add (7 * j) 7) (by decide) rfl (fun ls hl => ?_)
    refine lv_goto (tgt := 23) hx hb dL_law_781 (by decide) ?_
    exact kkn f2 _ H locs ls hI2 hP hS (lv_sub hl [0, 3, 4, 5, 6] rfl)
set_option maxRecDepth 100000 in
set_option maxHeartbeats 4000000 in
theorem lc_check {p : Program} {l : Launch} {e : Env} {s : State} {m : MethodId} {below : List Frame} {meth : Method} {c : Code} {D : va_G} {tys t0 : List (ClassId × FieldType)} {L Lc : List Nat} {f0 : Nat → va_E} {sAd : Nat → Nat} {cc fa ww kk kkb wk wkb wa wp : Nat} {wq wqb : Nat → Nat} {fn dr pr sA oA ra rb rk : Nat → Nat} {sq : Nat → Nat → Nat} {mo ap cm : Nat} {ad : Nat → Nat} {ot b Ln : Nat} {xs : Nat → Int32} {f : Nat → va_E} {th : Int32} {j : Nat} {H : Heap} {locs : List Loc} {ls : Array Slot} {Q : State → Prop} (C0 : Cx p s m #[Value.ref b] meth c code 7 "LiquidCheckerLaw" (some .boolean) D tys) (hst : l.stackTraces = false) (hT : Stc L Lc t0 f0 cc fa ww kk kkb wk wkb wa wp wq wqb fn dr pr sA oA ra rb rk sq mo ap cm ad ot) (hX0 : XOk L sAd s) (hnn : Nn s) (hXs : va_X b Ln xs s s.heap) (hbl : b < s.heap.size) (hLn : Ln ≤ 3584) (hLA : ∀ a ∈ L, s.heap.size ≤ a) (hj : 7 * j + 7 ≤ Ln) (hI : Inv tys L f cc fa ww kk kkb wk wkb wa wp wq wqb fn dr pr sA oA ra rb rk sq mo ap cm ad ot th) (hP : va_P D zCl (va_pl L f) H) (hS : va_S (fun q => s.heap.size ≤ q) s.heap H locs) (hl : lv_has ls 7 [(4, .int (nI (7 * j))), (0, .ref b), (1, .ref cc), (2, .ref mo), (3, .ref ot)]) (kkn : ∀ (f : Nat → va_E) (th : Int32) (H : Heap) (locs : List Loc) (ls : Array Slot), Inv tys L f cc fa ww kk kkb wk wkb wa wp wq wqb fn dr pr sA oA ra rb rk sq mo ap cm ad ot th → va_P D zCl (va_pl L f) H → va_S (fun q => s.heap.size ≤ q) s.heap H locs → lv_has ls 7 [(4, .int (nI (7 * j + 7))), (0, .ref b), (1, .ref cc), (2, .ref mo), (3, .ref ot)] → W p l e room_1 s m #[Value.ref b] below meth c H locs (149 + j + 1) (2698 + 6 * j + 6) Q (F0 m 23 ls [])) : W p l e room_1 s m #[Value.ref b] below meth c H locs (149 + j) (2698 + 6 * j) Q (F0 m 370 ls []) := by
  obtain ⟨hx, hb, hml, hown, hg, hr, hlocks, hK, hN⟩ := id C0
  have hbA : ¬ (fun q => s.heap.size ≤ q) b := fun h => Nat.not_le.mpr hbl h
  refine lv_aload_n hx hb dL_law_370 rfl (lv_at hl 2 rfl) ?_
  refine lv_aload_n hx hb dL_law_371 rfl (lv_at hl 1 rfl) ?_
  refine lv_iload hx hb dL_law_372 (lv_at hl 0 rfl) ?_
  refine lv_iconst (v := nI 1) hx hb dL_law_374 (by decide) ?_
  refine lv_iadd hx hb dL_law_375 ?_
  rw [nI_add]
  refine va_sld hx hb hXs hbl hbA hS (vp_in_nI (show (7 * j) + 1 < Ln by omega) (by omega)) dL_law_376 ?_
  rw [nI_clamp (by omega)]
  refine lv_aload_n hx hb dL_law_377 rfl (lv_at hl 4 rfl) ?_
  obtain ⟨mid, hH, hMd⟩ := law_check (l := l) (sAd := sAd) (D := D) hst hT hI (x := xs ((7 * j) + 1))
  refine then_h (run_H (n := 3) (As := [.ref cc, .int (xs ((7 * j) + 1)), .ref ot]) (rest := []) C0 hX0 hnn (hX0.2.2.kept (fun a h1 h2 => hS.2.1 a h1 (Nat.not_le.mpr h1))) hH gcL_check gw401 gw402 gw0 (by decide +kernel) ⟨Nat.le_of_ble_eq_true rfl, Nat.le_of_ble_eq_true rfl⟩ rfl rfl ⟨by show _ ≤ 601024; omega, by show _ ≤ 7293034; omega⟩ hP rfl hl.1 rfl (Nat.le_of_ble_eq_true rfl) dL_law_378) hS hLA (fun k9 f1 H locs hq1 hP hS => ?_)
  obtain ⟨⟨hmL, fs1, hmo⟩, hMe⟩ := hMd k9 f1 hq1
  refine lv_istore (lv' := [(5, .int k9), (4, .int (nI (7 * j))), (0, .ref b), (1, .ref cc), (2, .ref mo), (3, .ref ot)]) hx hb dL_law_381 hl (by decide) rfl (fun ls hl => ?_)
  refine lv_aload_n hx hb dL_law_383 rfl (lv_at hl 4 rfl) ?_
  refine lv_aload_n hx hb dL_law_384 rfl (lv_at hl 2 rfl) ?_
  refine lv_iload hx hb dL_law_385 (lv_at hl 1 rfl) ?_
  refine lv_iconst (v := nI 1) hx hb dL_law_387 (by decide) ?_
  refine lv_iadd hx hb dL_law_388 ?_
  rw [nI_add]
  refine va_sld hx hb hXs hbl hbA hS (vp_in_nI (show (7 * j) + 1 < Ln by omega) (by omega)) dL_law_389 ?_
  rw [nI_clamp (by omega)]
  refine then_i (run_V (n := 1) (As := [.int (xs ((7 * j) + 1))]) (rest := []) C0 hMe gw726 gw723 gw724 gsM_check gw7 (by decide +kernel) ⟨Nat.le_of_ble_eq_true rfl, Nat.le_of_ble_eq_true rfl⟩ rfl rfl ⟨by show _ ≤ 601024; omega, by show _ ≤ 7293034; omega⟩ hP hmL hmo rfl rfl rfl hl.1 rfl (Nat.le_of_ble_eq_true rfl) dL_law_390) hS hLA (fun r1 f2 H locs hq2 hP hS => ?_)
  obtain ⟨hI2, g2, hJ2, hg2⟩ := hq2
  refine lv_istore (lv' := [(6, .int r1), (5, .int k9), (4, .int (nI (7 * j))), (0, .ref b), (1, .ref cc), (2, .ref mo), (3, .ref ot)]) hx hb dL_law_393 hl (by decide) rfl (fun ls hl => ?_)
  refine lv_aload_n hx hb dL_law_395 rfl (lv_at hl 5 rfl) ?_
  obtain ⟨_, _, _, _, _, G2, -, hM2, -, -⟩ := id hI2
  obtain ⟨fe2, me2, fu2, le2, en2, sp2, ka2, kc2, mx2, se2, gc2, -, -, -, hD2⟩ := hM2
  refine then_i (run_V (n := 0) (As := []) (rest := []) C0 (m_thrown hT.1 hD2) gw686 gw683 gw684 gsM_thrown gw7 (by decide +kernel) ⟨Nat.le_of_ble_eq_true rfl, Nat.le_of_ble_eq_true rfl⟩ rfl rfl ⟨by show _ ≤ 601024; omega, by show _ ≤ 7293034; omega⟩ hP hD2.1.1.1 hD2.2.1 rfl rfl rfl hl.1 rfl (Nat.le_of_ble_eq_true rfl) dL_law_396) hS hLA (fun r3 f3 H locs hq3 hP hS => ?_)
  obtain ⟨er3, ef3⟩ := hq3
  subst er3
  rw [ef3] at hP
  refine lv_iload hx hb dL_law_399 (lv_at hl 1 rfl) ?_
  refine lv_icmp_eq (tgt := 406) hx hb dL_law_401 (by decide) (fun c401 => ?_) (fun c401 => absurd rfl c401)
  refine lv_iload hx hb dL_law_406 (lv_at hl 1 rfl) ?_
  refine lv_if_ne (tgt := 423) hx hb dL_law_408 (by decide) (fun c408 => ?_) (fun c408 => ?_)
  · refine lv_goto (tgt := 778) hx hb dL_law_423 (by decide) ?_
    refine lv_iinc (v := nI ((7 * j) + 7)) (lv' := [(4, .int (nI ((7 * j) + 7))), (6, .int r1), (5, .int r3), (0, .ref b), (1, .ref cc), (2, .ref mo), (3, .ref ot)]) hx hb dL_law_778 hl (k := 2) rfl (nI_add (7 * j) 7) (by decide) rfl (fun ls hl => ?_)
    refine lv_goto (tgt := 23) hx hb dL_law_781 (by decide) ?_
    exact kkn f2 _ H locs ls hI2 hP hS (lv_sub hl [0, 3, 4, 5, 6] rfl)
  · refine lv_aload_n hx hb dL_law_411 rfl (lv_at hl 6 rfl) ?_
    refine lv_iconst (v := nI 0) hx hb dL_law_412 (by decide) ?_
    refine mm_lald hx hb hK hP hT.2.2.2.2.2.2.2.2.1 hJ2 (vp_in_nI (show 0 < 1 by omega) (by omega)) dL_law_413 ?_
    rw [nI_clamp (by omega)]
    refine lv_iload hx hb dL_law_414 (lv_at hl 0 rfl) ?_
    refine lv_i2l hx hb dL_law_416 rfl ?_
    refine W.lcmp hx hb dL_law_417 ?_
    refine lv_if_eq (tgt := 423) hx hb dL_law_418 (by decide) (fun c418 => ?_) (fun c418 => absurd ((lg_cmp_eq _ _).mpr (hg2 (c408.trans nI_0.symm))) c418)
    refine lv_goto (tgt := 778) hx hb dL_law_423 (by decide) ?_
    refine lv_iinc (v := nI ((7 * j) + 7)) (lv' := [(4, .int (nI ((7 * j) + 7))), (6, .int r1), (5, .int r3), (0, .ref b), (1, .ref cc), (2, .ref mo), (3, .ref ot)]) hx hb dL_law_778 hl (k := 2) rfl (nI_add (7 * j) 7) (by decide) rfl (fun ls hl => ?_)
    refine lv_goto (tgt := 23) hx hb dL_law_781 (by decide) ?_
    exact kkn f2 _ H locs ls hI2 hP hS (lv_sub hl [0, 3, 4, 5, 6] rfl)
set_option maxRecDepth 100000 in
set_option maxHeartbeats 4000000 in
theorem lc_ways {p : Program} {l : Launch} {e : Env} {s : State} {m : MethodId} {below : List Frame} {meth : Method} {c : Code} {D : va_G} {tys t0 : List (ClassId × FieldType)} {L Lc : List Nat} {f0 : Nat → va_E} {sAd : Nat → Nat} {cc fa ww kk kkb wk wkb wa wp : Nat} {wq wqb : Nat → Nat} {fn dr pr sA oA ra rb rk : Nat → Nat} {sq : Nat → Nat → Nat} {mo ap cm : Nat} {ad : Nat → Nat} {ot b Ln : Nat} {xs : Nat → Int32} {f : Nat → va_E} {th : Int32} {j : Nat} {H : Heap} {locs : List Loc} {ls : Array Slot} {Q : State → Prop} (C0 : Cx p s m #[Value.ref b] meth c code 7 "LiquidCheckerLaw" (some .boolean) D tys) (hst : l.stackTraces = false) (hT : Stc L Lc t0 f0 cc fa ww kk kkb wk wkb wa wp wq wqb fn dr pr sA oA ra rb rk sq mo ap cm ad ot) (hX0 : XOk L sAd s) (hnn : Nn s) (hXs : va_X b Ln xs s s.heap) (hbl : b < s.heap.size) (hLn : Ln ≤ 3584) (hLA : ∀ a ∈ L, s.heap.size ≤ a) (hj : 7 * j + 7 ≤ Ln) (hI : Inv tys L f cc fa ww kk kkb wk wkb wa wp wq wqb fn dr pr sA oA ra rb rk sq mo ap cm ad ot th) (hP : va_P D zCl (va_pl L f) H) (hS : va_S (fun q => s.heap.size ≤ q) s.heap H locs) (hl : lv_has ls 7 [(4, .int (nI (7 * j))), (0, .ref b), (1, .ref cc), (2, .ref mo), (3, .ref ot)]) (kkn : ∀ (f : Nat → va_E) (th : Int32) (H : Heap) (locs : List Loc) (ls : Array Slot), Inv tys L f cc fa ww kk kkb wk wkb wa wp wq wqb fn dr pr sA oA ra rb rk sq mo ap cm ad ot th → va_P D zCl (va_pl L f) H → va_S (fun q => s.heap.size ≤ q) s.heap H locs → lv_has ls 7 [(4, .int (nI (7 * j + 7))), (0, .ref b), (1, .ref cc), (2, .ref mo), (3, .ref ot)] → W p l e room_1 s m #[Value.ref b] below meth c H locs (149 + j + 1) (2698 + 6 * j + 6) Q (F0 m 23 ls [])) : W p l e room_1 s m #[Value.ref b] below meth c H locs (149 + j) (2698 + 6 * j) Q (F0 m 426 ls []) := by
  obtain ⟨hx, hb, hml, hown, hg, hr, hlocks, hK, hN⟩ := id C0
  have hbA : ¬ (fun q => s.heap.size ≤ q) b := fun h => Nat.not_le.mpr hbl h
  refine lv_aload_n hx hb dL_law_426 rfl (lv_at hl 2 rfl) ?_
  refine lv_aload_n hx hb dL_law_427 rfl (lv_at hl 1 rfl) ?_
  refine lv_iload hx hb dL_law_428 (lv_at hl 0 rfl) ?_
  refine lv_iconst (v := nI 1) hx hb dL_law_430 (by decide) ?_
  refine lv_iadd hx hb dL_law_431 ?_
  rw [nI_add]
  refine va_sld hx hb hXs hbl hbA hS (vp_in_nI (show (7 * j) + 1 < Ln by omega) (by omega)) dL_law_432 ?_
  rw [nI_clamp (by omega)]
  refine lv_aload_n hx hb dL_law_433 rfl (lv_at hl 4 rfl) ?_
  obtain ⟨mid, hH, hMd⟩ := law_ways (l := l) (sAd := sAd) (D := D) hst hT hI (x := xs ((7 * j) + 1))
  refine then_h (run_H (n := 3) (As := [.ref cc, .int (xs ((7 * j) + 1)), .ref ot]) (rest := []) C0 hX0 hnn (hX0.2.2.kept (fun a h1 h2 => hS.2.1 a h1 (Nat.not_le.mpr h1))) hH gcL_ways gw503 gw504 gw0 (by decide +kernel) ⟨Nat.le_of_ble_eq_true rfl, Nat.le_of_ble_eq_true rfl⟩ rfl rfl ⟨by show _ ≤ 601024; omega, by show _ ≤ 7293034; omega⟩ hP rfl hl.1 rfl (Nat.le_of_ble_eq_true rfl) dL_law_434) hS hLA (fun k9 f1 H locs hq1 hP hS => ?_)
  obtain ⟨⟨hmL, fs1, hmo⟩, hMe⟩ := hMd k9 f1 hq1
  refine lv_istore (lv' := [(5, .int k9), (4, .int (nI (7 * j))), (0, .ref b), (1, .ref cc), (2, .ref mo), (3, .ref ot)]) hx hb dL_law_437 hl (by decide) rfl (fun ls hl => ?_)
  refine lv_aload_n hx hb dL_law_439 rfl (lv_at hl 4 rfl) ?_
  refine lv_aload_n hx hb dL_law_440 rfl (lv_at hl 2 rfl) ?_
  refine lv_iload hx hb dL_law_441 (lv_at hl 1 rfl) ?_
  refine lv_iconst (v := nI 1) hx hb dL_law_443 (by decide) ?_
  refine lv_iadd hx hb dL_law_444 ?_
  rw [nI_add]
  refine va_sld hx hb hXs hbl hbA hS (vp_in_nI (show (7 * j) + 1 < Ln by omega) (by omega)) dL_law_445 ?_
  rw [nI_clamp (by omega)]
  refine then_i (run_V (n := 1) (As := [.int (xs ((7 * j) + 1))]) (rest := []) C0 hMe gw790 gw787 gw788 gsM_ways gw7 (by decide +kernel) ⟨Nat.le_of_ble_eq_true rfl, Nat.le_of_ble_eq_true rfl⟩ rfl rfl ⟨by show _ ≤ 601024; omega, by show _ ≤ 7293034; omega⟩ hP hmL hmo rfl rfl rfl hl.1 rfl (Nat.le_of_ble_eq_true rfl) dL_law_446) hS hLA (fun r1 f2 H locs hq2 hP hS => ?_)
  obtain ⟨hI2, g2, hJ2, hg2⟩ := hq2
  refine lv_istore (lv' := [(6, .int r1), (5, .int k9), (4, .int (nI (7 * j))), (0, .ref b), (1, .ref cc), (2, .ref mo), (3, .ref ot)]) hx hb dL_law_449 hl (by decide) rfl (fun ls hl => ?_)
  refine lv_aload_n hx hb dL_law_451 rfl (lv_at hl 5 rfl) ?_
  obtain ⟨_, _, _, _, _, G2, -, hM2, -, -⟩ := id hI2
  obtain ⟨fe2, me2, fu2, le2, en2, sp2, ka2, kc2, mx2, se2, gc2, -, -, -, hD2⟩ := hM2
  refine then_i (run_V (n := 0) (As := []) (rest := []) C0 (m_thrown hT.1 hD2) gw686 gw683 gw684 gsM_thrown gw7 (by decide +kernel) ⟨Nat.le_of_ble_eq_true rfl, Nat.le_of_ble_eq_true rfl⟩ rfl rfl ⟨by show _ ≤ 601024; omega, by show _ ≤ 7293034; omega⟩ hP hD2.1.1.1 hD2.2.1 rfl rfl rfl hl.1 rfl (Nat.le_of_ble_eq_true rfl) dL_law_452) hS hLA (fun r3 f3 H locs hq3 hP hS => ?_)
  obtain ⟨er3, ef3⟩ := hq3
  subst er3
  rw [ef3] at hP
  refine lv_iload hx hb dL_law_455 (lv_at hl 1 rfl) ?_
  refine lv_icmp_eq (tgt := 462) hx hb dL_law_457 (by decide) (fun c457 => ?_) (fun c457 => absurd rfl c457)
  refine lv_iload hx hb dL_law_462 (lv_at hl 1 rfl) ?_
  refine lv_if_ne (tgt := 479) hx hb dL_law_464 (by decide) (fun c464 => ?_) (fun c464 => ?_)
  · refine lv_goto (tgt := 778) hx hb dL_law_479 (by decide) ?_
    refine lv_iinc (v := nI ((7 * j) + 7)) (lv' := [(4, .int (nI ((7 * j) + 7))), (6, .int r1), (5, .int r3), (0, .ref b), (1, .ref cc), (2, .ref mo), (3, .ref ot)]) hx hb dL_law_778 hl (k := 2) rfl (nI_add (7 * j) 7) (by decide) rfl (fun ls hl => ?_)
    refine lv_goto (tgt := 23) hx hb dL_law_781 (by decide) ?_
    exact kkn f2 _ H locs ls hI2 hP hS (lv_sub hl [0, 3, 4, 5, 6] rfl)
  · refine lv_aload_n hx hb dL_law_467 rfl (lv_at hl 6 rfl) ?_
    refine lv_iconst (v := nI 0) hx hb dL_law_468 (by decide) ?_
    refine mm_lald hx hb hK hP hT.2.2.2.2.2.2.2.2.1 hJ2 (vp_in_nI (show 0 < 1 by omega) (by omega)) dL_law_469 ?_
    rw [nI_clamp (by omega)]
    refine lv_iload hx hb dL_law_470 (lv_at hl 0 rfl) ?_
    refine lv_i2l hx hb dL_law_472 rfl ?_
    refine W.lcmp hx hb dL_law_473 ?_
    refine lv_if_eq (tgt := 479) hx hb dL_law_474 (by decide) (fun c474 => ?_) (fun c474 => absurd ((lg_cmp_eq _ _).mpr (hg2 (c464.trans nI_0.symm))) c474)
    refine lv_goto (tgt := 778) hx hb dL_law_479 (by decide) ?_
    refine lv_iinc (v := nI ((7 * j) + 7)) (lv' := [(4, .int (nI ((7 * j) + 7))), (6, .int r1), (5, .int r3), (0, .ref b), (1, .ref cc), (2, .ref mo), (3, .ref ot)]) hx hb dL_law_778 hl (k := 2) rfl (nI_add (7 * j) 7) (by decide) rfl (fun ls hl => ?_)
    refine lv_goto (tgt := 23) hx hb dL_law_781 (by decide) ?_
    exact kkn f2 _ H locs ls hI2 hP hS (lv_sub hl [0, 3, 4, 5, 6] rfl)
set_option maxRecDepth 100000 in
set_option maxHeartbeats 4000000 in
theorem lc_comes {p : Program} {l : Launch} {e : Env} {s : State} {m : MethodId} {below : List Frame} {meth : Method} {c : Code} {D : va_G} {tys t0 : List (ClassId × FieldType)} {L Lc : List Nat} {f0 : Nat → va_E} {sAd : Nat → Nat} {cc fa ww kk kkb wk wkb wa wp : Nat} {wq wqb : Nat → Nat} {fn dr pr sA oA ra rb rk : Nat → Nat} {sq : Nat → Nat → Nat} {mo ap cm : Nat} {ad : Nat → Nat} {ot b Ln : Nat} {xs : Nat → Int32} {f : Nat → va_E} {th : Int32} {j : Nat} {H : Heap} {locs : List Loc} {ls : Array Slot} {Q : State → Prop} (C0 : Cx p s m #[Value.ref b] meth c code 7 "LiquidCheckerLaw" (some .boolean) D tys) (hst : l.stackTraces = false) (hT : Stc L Lc t0 f0 cc fa ww kk kkb wk wkb wa wp wq wqb fn dr pr sA oA ra rb rk sq mo ap cm ad ot) (hX0 : XOk L sAd s) (hnn : Nn s) (hXs : va_X b Ln xs s s.heap) (hbl : b < s.heap.size) (hLn : Ln ≤ 3584) (hLA : ∀ a ∈ L, s.heap.size ≤ a) (hj : 7 * j + 7 ≤ Ln) (hI : Inv tys L f cc fa ww kk kkb wk wkb wa wp wq wqb fn dr pr sA oA ra rb rk sq mo ap cm ad ot th) (hP : va_P D zCl (va_pl L f) H) (hS : va_S (fun q => s.heap.size ≤ q) s.heap H locs) (hl : lv_has ls 7 [(4, .int (nI (7 * j))), (0, .ref b), (1, .ref cc), (2, .ref mo), (3, .ref ot)]) (kkn : ∀ (f : Nat → va_E) (th : Int32) (H : Heap) (locs : List Loc) (ls : Array Slot), Inv tys L f cc fa ww kk kkb wk wkb wa wp wq wqb fn dr pr sA oA ra rb rk sq mo ap cm ad ot th → va_P D zCl (va_pl L f) H → va_S (fun q => s.heap.size ≤ q) s.heap H locs → lv_has ls 7 [(4, .int (nI (7 * j + 7))), (0, .ref b), (1, .ref cc), (2, .ref mo), (3, .ref ot)] → W p l e room_1 s m #[Value.ref b] below meth c H locs (149 + j + 1) (2698 + 6 * j + 6) Q (F0 m 23 ls [])) : W p l e room_1 s m #[Value.ref b] below meth c H locs (149 + j) (2698 + 6 * j) Q (F0 m 482 ls []) := by
  obtain ⟨hx, hb, hml, hown, hg, hr, hlocks, hK, hN⟩ := id C0
  have hbA : ¬ (fun q => s.heap.size ≤ q) b := fun h => Nat.not_le.mpr hbl h
  refine lv_aload_n hx hb dL_law_482 rfl (lv_at hl 2 rfl) ?_
  refine lv_aload_n hx hb dL_law_483 rfl (lv_at hl 1 rfl) ?_
  refine lv_iload hx hb dL_law_484 (lv_at hl 0 rfl) ?_
  refine lv_iconst (v := nI 1) hx hb dL_law_486 (by decide) ?_
  refine lv_iadd hx hb dL_law_487 ?_
  rw [nI_add]
  refine va_sld hx hb hXs hbl hbA hS (vp_in_nI (show (7 * j) + 1 < Ln by omega) (by omega)) dL_law_488 ?_
  rw [nI_clamp (by omega)]
  refine lv_aload_n hx hb dL_law_489 rfl (lv_at hl 1 rfl) ?_
  refine lv_iload hx hb dL_law_490 (lv_at hl 0 rfl) ?_
  refine lv_iconst (v := nI 2) hx hb dL_law_492 (by decide) ?_
  refine lv_iadd hx hb dL_law_493 ?_
  rw [nI_add]
  refine va_sld hx hb hXs hbl hbA hS (vp_in_nI (show (7 * j) + 2 < Ln by omega) (by omega)) dL_law_494 ?_
  rw [nI_clamp (by omega)]
  refine lv_aload_n hx hb dL_law_495 rfl (lv_at hl 4 rfl) ?_
  obtain ⟨mid, hH, hMd⟩ := law_comes (l := l) (sAd := sAd) (D := D) hst hT hI (x := xs ((7 * j) + 1)) (y := xs ((7 * j) + 2))
  refine then_h (run_H (n := 4) (As := [.ref cc, .int (xs ((7 * j) + 1)), .int (xs ((7 * j) + 2)), .ref ot]) (rest := []) C0 hX0 hnn (hX0.2.2.kept (fun a h1 h2 => hS.2.1 a h1 (Nat.not_le.mpr h1))) hH gcL_comes gw510 gw511 gw0 (by decide +kernel) ⟨Nat.le_of_ble_eq_true rfl, Nat.le_of_ble_eq_true rfl⟩ rfl rfl ⟨by show _ ≤ 601024; omega, by show _ ≤ 7293034; omega⟩ hP rfl hl.1 rfl (Nat.le_of_ble_eq_true rfl) dL_law_496) hS hLA (fun k9 f1 H locs hq1 hP hS => ?_)
  obtain ⟨⟨hmL, fs1, hmo⟩, hMe⟩ := hMd k9 f1 hq1
  refine lv_istore (lv' := [(5, .int k9), (4, .int (nI (7 * j))), (0, .ref b), (1, .ref cc), (2, .ref mo), (3, .ref ot)]) hx hb dL_law_499 hl (by decide) rfl (fun ls hl => ?_)
  refine lv_aload_n hx hb dL_law_501 rfl (lv_at hl 4 rfl) ?_
  refine lv_aload_n hx hb dL_law_502 rfl (lv_at hl 2 rfl) ?_
  refine lv_iload hx hb dL_law_503 (lv_at hl 1 rfl) ?_
  refine lv_iconst (v := nI 1) hx hb dL_law_505 (by decide) ?_
  refine lv_iadd hx hb dL_law_506 ?_
  rw [nI_add]
  refine va_sld hx hb hXs hbl hbA hS (vp_in_nI (show (7 * j) + 1 < Ln by omega) (by omega)) dL_law_507 ?_
  rw [nI_clamp (by omega)]
  refine lv_aload_n hx hb dL_law_508 rfl (lv_at hl 2 rfl) ?_
  refine lv_iload hx hb dL_law_509 (lv_at hl 1 rfl) ?_
  refine lv_iconst (v := nI 2) hx hb dL_law_511 (by decide) ?_
  refine lv_iadd hx hb dL_law_512 ?_
  rw [nI_add]
  refine va_sld hx hb hXs hbl hbA hS (vp_in_nI (show (7 * j) + 2 < Ln by omega) (by omega)) dL_law_513 ?_
  rw [nI_clamp (by omega)]
  refine then_i (run_V (n := 2) (As := [.int (xs ((7 * j) + 1)), .int (xs ((7 * j) + 2))]) (rest := []) C0 hMe gw794 gw791 gw792 gsM_comes gw7 (by decide +kernel) ⟨Nat.le_of_ble_eq_true rfl, Nat.le_of_ble_eq_true rfl⟩ rfl rfl ⟨by show _ ≤ 601024; omega, by show _ ≤ 7293034; omega⟩ hP hmL hmo rfl rfl rfl hl.1 rfl (Nat.le_of_ble_eq_true rfl) dL_law_514) hS hLA (fun r1 f2 H locs hq2 hP hS => ?_)
  obtain ⟨hI2, g2, hJ2, hg2⟩ := hq2
  refine lv_istore (lv' := [(6, .int r1), (5, .int k9), (4, .int (nI (7 * j))), (0, .ref b), (1, .ref cc), (2, .ref mo), (3, .ref ot)]) hx hb dL_law_517 hl (by decide) rfl (fun ls hl => ?_)
  refine lv_aload_n hx hb dL_law_519 rfl (lv_at hl 5 rfl) ?_
  obtain ⟨_, _, _, _, _, G2, -, hM2, -, -⟩ := id hI2
  obtain ⟨fe2, me2, fu2, le2, en2, sp2, ka2, kc2, mx2, se2, gc2, -, -, -, hD2⟩ := hM2
  refine then_i (run_V (n := 0) (As := []) (rest := []) C0 (m_thrown hT.1 hD2) gw686 gw683 gw684 gsM_thrown gw7 (by decide +kernel) ⟨Nat.le_of_ble_eq_true rfl, Nat.le_of_ble_eq_true rfl⟩ rfl rfl ⟨by show _ ≤ 601024; omega, by show _ ≤ 7293034; omega⟩ hP hD2.1.1.1 hD2.2.1 rfl rfl rfl hl.1 rfl (Nat.le_of_ble_eq_true rfl) dL_law_520) hS hLA (fun r3 f3 H locs hq3 hP hS => ?_)
  obtain ⟨er3, ef3⟩ := hq3
  subst er3
  rw [ef3] at hP
  refine lv_iload hx hb dL_law_523 (lv_at hl 1 rfl) ?_
  refine lv_icmp_eq (tgt := 530) hx hb dL_law_525 (by decide) (fun c525 => ?_) (fun c525 => absurd rfl c525)
  refine lv_iload hx hb dL_law_530 (lv_at hl 1 rfl) ?_
  refine lv_if_ne (tgt := 547) hx hb dL_law_532 (by decide) (fun c532 => ?_) (fun c532 => ?_)
  · refine lv_goto (tgt := 778) hx hb dL_law_547 (by decide) ?_
    refine lv_iinc (v := nI ((7 * j) + 7)) (lv' := [(4, .int (nI ((7 * j) + 7))), (6, .int r1), (5, .int r3), (0, .ref b), (1, .ref cc), (2, .ref mo), (3, .ref ot)]) hx hb dL_law_778 hl (k := 2) rfl (nI_add (7 * j) 7) (by decide) rfl (fun ls hl => ?_)
    refine lv_goto (tgt := 23) hx hb dL_law_781 (by decide) ?_
    exact kkn f2 _ H locs ls hI2 hP hS (lv_sub hl [0, 3, 4, 5, 6] rfl)
  · refine lv_aload_n hx hb dL_law_535 rfl (lv_at hl 6 rfl) ?_
    refine lv_iconst (v := nI 0) hx hb dL_law_536 (by decide) ?_
    refine mm_lald hx hb hK hP hT.2.2.2.2.2.2.2.2.1 hJ2 (vp_in_nI (show 0 < 1 by omega) (by omega)) dL_law_537 ?_
    rw [nI_clamp (by omega)]
    refine lv_iload hx hb dL_law_538 (lv_at hl 0 rfl) ?_
    refine lv_i2l hx hb dL_law_540 rfl ?_
    refine W.lcmp hx hb dL_law_541 ?_
    refine lv_if_eq (tgt := 547) hx hb dL_law_542 (by decide) (fun c542 => ?_) (fun c542 => absurd ((lg_cmp_eq _ _).mpr (hg2 (c532.trans nI_0.symm))) c542)
    refine lv_goto (tgt := 778) hx hb dL_law_547 (by decide) ?_
    refine lv_iinc (v := nI ((7 * j) + 7)) (lv' := [(4, .int (nI ((7 * j) + 7))), (6, .int r1), (5, .int r3), (0, .ref b), (1, .ref cc), (2, .ref mo), (3, .ref ot)]) hx hb dL_law_778 hl (k := 2) rfl (nI_add (7 * j) 7) (by decide) rfl (fun ls hl => ?_)
    refine lv_goto (tgt := 23) hx hb dL_law_781 (by decide) ?_
    exact kkn f2 _ H locs ls hI2 hP hS (lv_sub hl [0, 3, 4, 5, 6] rfl)
set_option maxRecDepth 100000 in
set_option maxHeartbeats 4000000 in
theorem lc_most {p : Program} {l : Launch} {e : Env} {s : State} {m : MethodId} {below : List Frame} {meth : Method} {c : Code} {D : va_G} {tys t0 : List (ClassId × FieldType)} {L Lc : List Nat} {f0 : Nat → va_E} {sAd : Nat → Nat} {cc fa ww kk kkb wk wkb wa wp : Nat} {wq wqb : Nat → Nat} {fn dr pr sA oA ra rb rk : Nat → Nat} {sq : Nat → Nat → Nat} {mo ap cm : Nat} {ad : Nat → Nat} {ot b Ln : Nat} {xs : Nat → Int32} {f : Nat → va_E} {th : Int32} {j : Nat} {H : Heap} {locs : List Loc} {ls : Array Slot} {Q : State → Prop} (C0 : Cx p s m #[Value.ref b] meth c code 7 "LiquidCheckerLaw" (some .boolean) D tys) (hst : l.stackTraces = false) (hT : Stc L Lc t0 f0 cc fa ww kk kkb wk wkb wa wp wq wqb fn dr pr sA oA ra rb rk sq mo ap cm ad ot) (hX0 : XOk L sAd s) (hnn : Nn s) (hXs : va_X b Ln xs s s.heap) (hbl : b < s.heap.size) (hLn : Ln ≤ 3584) (hLA : ∀ a ∈ L, s.heap.size ≤ a) (hj : 7 * j + 7 ≤ Ln) (hI : Inv tys L f cc fa ww kk kkb wk wkb wa wp wq wqb fn dr pr sA oA ra rb rk sq mo ap cm ad ot th) (hP : va_P D zCl (va_pl L f) H) (hS : va_S (fun q => s.heap.size ≤ q) s.heap H locs) (hl : lv_has ls 7 [(4, .int (nI (7 * j))), (0, .ref b), (1, .ref cc), (2, .ref mo), (3, .ref ot)]) (kkn : ∀ (f : Nat → va_E) (th : Int32) (H : Heap) (locs : List Loc) (ls : Array Slot), Inv tys L f cc fa ww kk kkb wk wkb wa wp wq wqb fn dr pr sA oA ra rb rk sq mo ap cm ad ot th → va_P D zCl (va_pl L f) H → va_S (fun q => s.heap.size ≤ q) s.heap H locs → lv_has ls 7 [(4, .int (nI (7 * j + 7))), (0, .ref b), (1, .ref cc), (2, .ref mo), (3, .ref ot)] → W p l e room_1 s m #[Value.ref b] below meth c H locs (149 + j + 1) (2698 + 6 * j + 6) Q (F0 m 23 ls [])) : W p l e room_1 s m #[Value.ref b] below meth c H locs (149 + j) (2698 + 6 * j) Q (F0 m 550 ls []) := by
  obtain ⟨hx, hb, hml, hown, hg, hr, hlocks, hK, hN⟩ := id C0
  have hbA : ¬ (fun q => s.heap.size ≤ q) b := fun h => Nat.not_le.mpr hbl h
  refine lv_aload_n hx hb dL_law_550 rfl (lv_at hl 2 rfl) ?_
  refine lv_aload_n hx hb dL_law_551 rfl (lv_at hl 1 rfl) ?_
  refine lv_iload hx hb dL_law_552 (lv_at hl 0 rfl) ?_
  refine lv_iconst (v := nI 1) hx hb dL_law_554 (by decide) ?_
  refine lv_iadd hx hb dL_law_555 ?_
  rw [nI_add]
  refine va_sld hx hb hXs hbl hbA hS (vp_in_nI (show (7 * j) + 1 < Ln by omega) (by omega)) dL_law_556 ?_
  rw [nI_clamp (by omega)]
  refine lv_aload_n hx hb dL_law_557 rfl (lv_at hl 1 rfl) ?_
  refine lv_iload hx hb dL_law_558 (lv_at hl 0 rfl) ?_
  refine lv_iconst (v := nI 2) hx hb dL_law_560 (by decide) ?_
  refine lv_iadd hx hb dL_law_561 ?_
  rw [nI_add]
  refine va_sld hx hb hXs hbl hbA hS (vp_in_nI (show (7 * j) + 2 < Ln by omega) (by omega)) dL_law_562 ?_
  rw [nI_clamp (by omega)]
  refine lv_aload_n hx hb dL_law_563 rfl (lv_at hl 1 rfl) ?_
  refine lv_iload hx hb dL_law_564 (lv_at hl 0 rfl) ?_
  refine lv_iconst (v := nI 3) hx hb dL_law_566 (by decide) ?_
  refine lv_iadd hx hb dL_law_567 ?_
  rw [nI_add]
  refine va_sld hx hb hXs hbl hbA hS (vp_in_nI (show (7 * j) + 3 < Ln by omega) (by omega)) dL_law_568 ?_
  rw [nI_clamp (by omega)]
  refine lv_aload_n hx hb dL_law_569 rfl (lv_at hl 1 rfl) ?_
  refine lv_iload hx hb dL_law_570 (lv_at hl 0 rfl) ?_
  refine lv_iconst (v := nI 4) hx hb dL_law_572 (by decide) ?_
  refine lv_iadd hx hb dL_law_573 ?_
  rw [nI_add]
  refine va_sld hx hb hXs hbl hbA hS (vp_in_nI (show (7 * j) + 4 < Ln by omega) (by omega)) dL_law_574 ?_
  rw [nI_clamp (by omega)]
  refine lv_aload_n hx hb dL_law_575 rfl (lv_at hl 4 rfl) ?_
  obtain ⟨mid, hH, hMd⟩ := law_most (l := l) (sAd := sAd) (D := D) hst hT hI (x := xs ((7 * j) + 1)) (y := xs ((7 * j) + 2)) (a := xs ((7 * j) + 3)) (b := xs ((7 * j) + 4))
  refine then_h (run_H (n := 6) (As := [.ref cc, .int (xs ((7 * j) + 1)), .int (xs ((7 * j) + 2)), .int (xs ((7 * j) + 3)), .int (xs ((7 * j) + 4)), .ref ot]) (rest := []) C0 hX0 hnn (hX0.2.2.kept (fun a h1 h2 => hS.2.1 a h1 (Nat.not_le.mpr h1))) hH gcL_most gw526 gw527 gw0 (by decide +kernel) ⟨Nat.le_of_ble_eq_true rfl, Nat.le_of_ble_eq_true rfl⟩ rfl rfl ⟨by show _ ≤ 601024; omega, by show _ ≤ 7293034; omega⟩ hP rfl hl.1 rfl (Nat.le_of_ble_eq_true rfl) dL_law_576) hS hLA (fun k9 f1 H locs hq1 hP hS => ?_)
  obtain ⟨⟨hmL, fs1, hmo⟩, hMe⟩ := hMd k9 f1 hq1
  refine lv_istore (lv' := [(5, .int k9), (4, .int (nI (7 * j))), (0, .ref b), (1, .ref cc), (2, .ref mo), (3, .ref ot)]) hx hb dL_law_579 hl (by decide) rfl (fun ls hl => ?_)
  refine lv_aload_n hx hb dL_law_581 rfl (lv_at hl 4 rfl) ?_
  refine lv_aload_n hx hb dL_law_582 rfl (lv_at hl 2 rfl) ?_
  refine lv_iload hx hb dL_law_583 (lv_at hl 1 rfl) ?_
  refine lv_iconst (v := nI 1) hx hb dL_law_585 (by decide) ?_
  refine lv_iadd hx hb dL_law_586 ?_
  rw [nI_add]
  refine va_sld hx hb hXs hbl hbA hS (vp_in_nI (show (7 * j) + 1 < Ln by omega) (by omega)) dL_law_587 ?_
  rw [nI_clamp (by omega)]
  refine lv_aload_n hx hb dL_law_588 rfl (lv_at hl 2 rfl) ?_
  refine lv_iload hx hb dL_law_589 (lv_at hl 1 rfl) ?_
  refine lv_iconst (v := nI 2) hx hb dL_law_591 (by decide) ?_
  refine lv_iadd hx hb dL_law_592 ?_
  rw [nI_add]
  refine va_sld hx hb hXs hbl hbA hS (vp_in_nI (show (7 * j) + 2 < Ln by omega) (by omega)) dL_law_593 ?_
  rw [nI_clamp (by omega)]
  refine lv_aload_n hx hb dL_law_594 rfl (lv_at hl 2 rfl) ?_
  refine lv_iload hx hb dL_law_595 (lv_at hl 1 rfl) ?_
  refine lv_iconst (v := nI 3) hx hb dL_law_597 (by decide) ?_
  refine lv_iadd hx hb dL_law_598 ?_
  rw [nI_add]
  refine va_sld hx hb hXs hbl hbA hS (vp_in_nI (show (7 * j) + 3 < Ln by omega) (by omega)) dL_law_599 ?_
  rw [nI_clamp (by omega)]
  refine lv_aload_n hx hb dL_law_600 rfl (lv_at hl 2 rfl) ?_
  refine lv_iload hx hb dL_law_601 (lv_at hl 1 rfl) ?_
  refine lv_iconst (v := nI 4) hx hb dL_law_603 (by decide) ?_
  refine lv_iadd hx hb dL_law_604 ?_
  rw [nI_add]
  refine va_sld hx hb hXs hbl hbA hS (vp_in_nI (show (7 * j) + 4 < Ln by omega) (by omega)) dL_law_605 ?_
  rw [nI_clamp (by omega)]
  refine then_i (run_V (n := 4) (As := [.int (xs ((7 * j) + 1)), .int (xs ((7 * j) + 2)), .int (xs ((7 * j) + 3)), .int (xs ((7 * j) + 4))]) (rest := []) C0 hMe gw802 gw799 gw800 gsM_most gw7 (by decide +kernel) ⟨Nat.le_of_ble_eq_true rfl, Nat.le_of_ble_eq_true rfl⟩ rfl rfl ⟨by show _ ≤ 601024; omega, by show _ ≤ 7293034; omega⟩ hP hmL hmo rfl rfl rfl hl.1 rfl (Nat.le_of_ble_eq_true rfl) dL_law_606) hS hLA (fun r1 f2 H locs hq2 hP hS => ?_)
  obtain ⟨hI2, g2, hJ2, hg2⟩ := hq2
  refine lv_istore (lv' := [(6, .int r1), (5, .int k9), (4, .int (nI (7 * j))), (0, .ref b), (1, .ref cc), (2, .ref mo), (3, .ref ot)]) hx hb dL_law_609 hl (by decide) rfl (fun ls hl => ?_)
  refine lv_aload_n hx hb dL_law_611 rfl (lv_at hl 5 rfl) ?_
  obtain ⟨_, _, _, _, _, G2, -, hM2, -, -⟩ := id hI2
  obtain ⟨fe2, me2, fu2, le2, en2, sp2, ka2, kc2, mx2, se2, gc2, -, -, -, hD2⟩ := hM2
  refine then_i (run_V (n := 0) (As := []) (rest := []) C0 (m_thrown hT.1 hD2) gw686 gw683 gw684 gsM_thrown gw7 (by decide +kernel) ⟨Nat.le_of_ble_eq_true rfl, Nat.le_of_ble_eq_true rfl⟩ rfl rfl ⟨by show _ ≤ 601024; omega, by show _ ≤ 7293034; omega⟩ hP hD2.1.1.1 hD2.2.1 rfl rfl rfl hl.1 rfl (Nat.le_of_ble_eq_true rfl) dL_law_612) hS hLA (fun r3 f3 H locs hq3 hP hS => ?_)
  obtain ⟨er3, ef3⟩ := hq3
  subst er3
  rw [ef3] at hP
  refine lv_iload hx hb dL_law_615 (lv_at hl 1 rfl) ?_
  refine lv_icmp_eq (tgt := 622) hx hb dL_law_617 (by decide) (fun c617 => ?_) (fun c617 => absurd rfl c617)
  refine lv_iload hx hb dL_law_622 (lv_at hl 1 rfl) ?_
  refine lv_if_ne (tgt := 639) hx hb dL_law_624 (by decide) (fun c624 => ?_) (fun c624 => ?_)
  · refine lv_goto (tgt := 778) hx hb dL_law_639 (by decide) ?_
    refine lv_iinc (v := nI ((7 * j) + 7)) (lv' := [(4, .int (nI ((7 * j) + 7))), (6, .int r1), (5, .int r3), (0, .ref b), (1, .ref cc), (2, .ref mo), (3, .ref ot)]) hx hb dL_law_778 hl (k := 2) rfl (nI_add (7 * j) 7) (by decide) rfl (fun ls hl => ?_)
    refine lv_goto (tgt := 23) hx hb dL_law_781 (by decide) ?_
    exact kkn f2 _ H locs ls hI2 hP hS (lv_sub hl [0, 3, 4, 5, 6] rfl)
  · refine lv_aload_n hx hb dL_law_627 rfl (lv_at hl 6 rfl) ?_
    refine lv_iconst (v := nI 0) hx hb dL_law_628 (by decide) ?_
    refine mm_lald hx hb hK hP hT.2.2.2.2.2.2.2.2.1 hJ2 (vp_in_nI (show 0 < 1 by omega) (by omega)) dL_law_629 ?_
    rw [nI_clamp (by omega)]
    refine lv_iload hx hb dL_law_630 (lv_at hl 0 rfl) ?_
    refine lv_i2l hx hb dL_law_632 rfl ?_
    refine W.lcmp hx hb dL_law_633 ?_
    refine lv_if_eq (tgt := 639) hx hb dL_law_634 (by decide) (fun c634 => ?_) (fun c634 => absurd ((lg_cmp_eq _ _).mpr (hg2 (c624.trans nI_0.symm))) c634)
    refine lv_goto (tgt := 778) hx hb dL_law_639 (by decide) ?_
    refine lv_iinc (v := nI ((7 * j) + 7)) (lv' := [(4, .int (nI ((7 * j) + 7))), (6, .int r1), (5, .int r3), (0, .ref b), (1, .ref cc), (2, .ref mo), (3, .ref ot)]) hx hb dL_law_778 hl (k := 2) rfl (nI_add (7 * j) 7) (by decide) rfl (fun ls hl => ?_)
    refine lv_goto (tgt := 23) hx hb dL_law_781 (by decide) ?_
    exact kkn f2 _ H locs ls hI2 hP hS (lv_sub hl [0, 3, 4, 5, 6] rfl)
set_option maxRecDepth 100000 in
set_option maxHeartbeats 4000000 in
theorem lc_follows {p : Program} {l : Launch} {e : Env} {s : State} {m : MethodId} {below : List Frame} {meth : Method} {c : Code} {D : va_G} {tys t0 : List (ClassId × FieldType)} {L Lc : List Nat} {f0 : Nat → va_E} {sAd : Nat → Nat} {cc fa ww kk kkb wk wkb wa wp : Nat} {wq wqb : Nat → Nat} {fn dr pr sA oA ra rb rk : Nat → Nat} {sq : Nat → Nat → Nat} {mo ap cm : Nat} {ad : Nat → Nat} {ot b Ln : Nat} {xs : Nat → Int32} {f : Nat → va_E} {th : Int32} {j : Nat} {H : Heap} {locs : List Loc} {ls : Array Slot} {Q : State → Prop} (C0 : Cx p s m #[Value.ref b] meth c code 7 "LiquidCheckerLaw" (some .boolean) D tys) (hst : l.stackTraces = false) (hT : Stc L Lc t0 f0 cc fa ww kk kkb wk wkb wa wp wq wqb fn dr pr sA oA ra rb rk sq mo ap cm ad ot) (hX0 : XOk L sAd s) (hnn : Nn s) (hXs : va_X b Ln xs s s.heap) (hbl : b < s.heap.size) (hLn : Ln ≤ 3584) (hLA : ∀ a ∈ L, s.heap.size ≤ a) (hj : 7 * j + 7 ≤ Ln) (hI : Inv tys L f cc fa ww kk kkb wk wkb wa wp wq wqb fn dr pr sA oA ra rb rk sq mo ap cm ad ot th) (hP : va_P D zCl (va_pl L f) H) (hS : va_S (fun q => s.heap.size ≤ q) s.heap H locs) (hl : lv_has ls 7 [(4, .int (nI (7 * j))), (0, .ref b), (1, .ref cc), (2, .ref mo), (3, .ref ot)]) (kkn : ∀ (f : Nat → va_E) (th : Int32) (H : Heap) (locs : List Loc) (ls : Array Slot), Inv tys L f cc fa ww kk kkb wk wkb wa wp wq wqb fn dr pr sA oA ra rb rk sq mo ap cm ad ot th → va_P D zCl (va_pl L f) H → va_S (fun q => s.heap.size ≤ q) s.heap H locs → lv_has ls 7 [(4, .int (nI (7 * j + 7))), (0, .ref b), (1, .ref cc), (2, .ref mo), (3, .ref ot)] → W p l e room_1 s m #[Value.ref b] below meth c H locs (149 + j + 1) (2698 + 6 * j + 6) Q (F0 m 23 ls [])) : W p l e room_1 s m #[Value.ref b] below meth c H locs (149 + j) (2698 + 6 * j) Q (F0 m 642 ls []) := by
  obtain ⟨hx, hb, hml, hown, hg, hr, hlocks, hK, hN⟩ := id C0
  have hbA : ¬ (fun q => s.heap.size ≤ q) b := fun h => Nat.not_le.mpr hbl h
  refine lv_aload_n hx hb dL_law_642 rfl (lv_at hl 2 rfl) ?_
  refine lv_aload_n hx hb dL_law_643 rfl (lv_at hl 1 rfl) ?_
  refine lv_iload hx hb dL_law_644 (lv_at hl 0 rfl) ?_
  refine lv_iconst (v := nI 1) hx hb dL_law_646 (by decide) ?_
  refine lv_iadd hx hb dL_law_647 ?_
  rw [nI_add]
  refine va_sld hx hb hXs hbl hbA hS (vp_in_nI (show (7 * j) + 1 < Ln by omega) (by omega)) dL_law_648 ?_
  rw [nI_clamp (by omega)]
  refine lv_aload_n hx hb dL_law_649 rfl (lv_at hl 1 rfl) ?_
  refine lv_iload hx hb dL_law_650 (lv_at hl 0 rfl) ?_
  refine lv_iconst (v := nI 2) hx hb dL_law_652 (by decide) ?_
  refine lv_iadd hx hb dL_law_653 ?_
  rw [nI_add]
  refine va_sld hx hb hXs hbl hbA hS (vp_in_nI (show (7 * j) + 2 < Ln by omega) (by omega)) dL_law_654 ?_
  rw [nI_clamp (by omega)]
  refine lv_aload_n hx hb dL_law_655 rfl (lv_at hl 4 rfl) ?_
  obtain ⟨mid, hH, hMd⟩ := law_follows (l := l) (sAd := sAd) (D := D) hst hT hI (x := xs ((7 * j) + 1)) (y := xs ((7 * j) + 2))
  refine then_h (run_H (n := 4) (As := [.ref cc, .int (xs ((7 * j) + 1)), .int (xs ((7 * j) + 2)), .ref ot]) (rest := []) C0 hX0 hnn (hX0.2.2.kept (fun a h1 h2 => hS.2.1 a h1 (Nat.not_le.mpr h1))) hH gcL_follows gw569 gw570 gw0 (by decide +kernel) ⟨Nat.le_of_ble_eq_true rfl, Nat.le_of_ble_eq_true rfl⟩ rfl rfl ⟨by show _ ≤ 601024; omega, by show _ ≤ 7293034; omega⟩ hP rfl hl.1 rfl (Nat.le_of_ble_eq_true rfl) dL_law_656) hS hLA (fun k9 f1 H locs hq1 hP hS => ?_)
  obtain ⟨⟨hmL, fs1, hmo⟩, hMe⟩ := hMd k9 f1 hq1
  refine lv_istore (lv' := [(5, .int k9), (4, .int (nI (7 * j))), (0, .ref b), (1, .ref cc), (2, .ref mo), (3, .ref ot)]) hx hb dL_law_659 hl (by decide) rfl (fun ls hl => ?_)
  refine lv_aload_n hx hb dL_law_661 rfl (lv_at hl 4 rfl) ?_
  refine lv_aload_n hx hb dL_law_662 rfl (lv_at hl 2 rfl) ?_
  refine lv_iload hx hb dL_law_663 (lv_at hl 1 rfl) ?_
  refine lv_iconst (v := nI 1) hx hb dL_law_665 (by decide) ?_
  refine lv_iadd hx hb dL_law_666 ?_
  rw [nI_add]
  refine va_sld hx hb hXs hbl hbA hS (vp_in_nI (show (7 * j) + 1 < Ln by omega) (by omega)) dL_law_667 ?_
  rw [nI_clamp (by omega)]
  refine lv_aload_n hx hb dL_law_668 rfl (lv_at hl 2 rfl) ?_
  refine lv_iload hx hb dL_law_669 (lv_at hl 1 rfl) ?_
  refine lv_iconst (v := nI 2) hx hb dL_law_671 (by decide) ?_
  refine lv_iadd hx hb dL_law_672 ?_
  rw [nI_add]
  refine va_sld hx hb hXs hbl hbA hS (vp_in_nI (show (7 * j) + 2 < Ln by omega) (by omega)) dL_law_673 ?_
  rw [nI_clamp (by omega)]
  refine then_i (run_V (n := 2) (As := [.int (xs ((7 * j) + 1)), .int (xs ((7 * j) + 2))]) (rest := []) C0 hMe gw806 gw803 gw804 gsM_follows gw7 (by decide +kernel) ⟨Nat.le_of_ble_eq_true rfl, Nat.le_of_ble_eq_true rfl⟩ rfl rfl ⟨by show _ ≤ 601024; omega, by show _ ≤ 7293034; omega⟩ hP hmL hmo rfl rfl rfl hl.1 rfl (Nat.le_of_ble_eq_true rfl) dL_law_674) hS hLA (fun r1 f2 H locs hq2 hP hS => ?_)
  obtain ⟨hI2, g2, hJ2, hg2⟩ := hq2
  refine lv_istore (lv' := [(6, .int r1), (5, .int k9), (4, .int (nI (7 * j))), (0, .ref b), (1, .ref cc), (2, .ref mo), (3, .ref ot)]) hx hb dL_law_677 hl (by decide) rfl (fun ls hl => ?_)
  refine lv_aload_n hx hb dL_law_679 rfl (lv_at hl 5 rfl) ?_
  obtain ⟨_, _, _, _, _, G2, -, hM2, -, -⟩ := id hI2
  obtain ⟨fe2, me2, fu2, le2, en2, sp2, ka2, kc2, mx2, se2, gc2, -, -, -, hD2⟩ := hM2
  refine then_i (run_V (n := 0) (As := []) (rest := []) C0 (m_thrown hT.1 hD2) gw686 gw683 gw684 gsM_thrown gw7 (by decide +kernel) ⟨Nat.le_of_ble_eq_true rfl, Nat.le_of_ble_eq_true rfl⟩ rfl rfl ⟨by show _ ≤ 601024; omega, by show _ ≤ 7293034; omega⟩ hP hD2.1.1.1 hD2.2.1 rfl rfl rfl hl.1 rfl (Nat.le_of_ble_eq_true rfl) dL_law_680) hS hLA (fun r3 f3 H locs hq3 hP hS => ?_)
  obtain ⟨er3, ef3⟩ := hq3
  subst er3
  rw [ef3] at hP
  refine lv_iload hx hb dL_law_683 (lv_at hl 1 rfl) ?_
  refine lv_icmp_eq (tgt := 690) hx hb dL_law_685 (by decide) (fun c685 => ?_) (fun c685 => absurd rfl c685)
  refine lv_iload hx hb dL_law_690 (lv_at hl 1 rfl) ?_
  refine lv_if_ne (tgt := 707) hx hb dL_law_692 (by decide) (fun c692 => ?_) (fun c692 => ?_)
  · refine lv_goto (tgt := 778) hx hb dL_law_707 (by decide) ?_
    refine lv_iinc (v := nI ((7 * j) + 7)) (lv' := [(4, .int (nI ((7 * j) + 7))), (6, .int r1), (5, .int r3), (0, .ref b), (1, .ref cc), (2, .ref mo), (3, .ref ot)]) hx hb dL_law_778 hl (k := 2) rfl (nI_add (7 * j) 7) (by decide) rfl (fun ls hl => ?_)
    refine lv_goto (tgt := 23) hx hb dL_law_781 (by decide) ?_
    exact kkn f2 _ H locs ls hI2 hP hS (lv_sub hl [0, 3, 4, 5, 6] rfl)
  · refine lv_aload_n hx hb dL_law_695 rfl (lv_at hl 6 rfl) ?_
    refine lv_iconst (v := nI 0) hx hb dL_law_696 (by decide) ?_
    refine mm_lald hx hb hK hP hT.2.2.2.2.2.2.2.2.1 hJ2 (vp_in_nI (show 0 < 1 by omega) (by omega)) dL_law_697 ?_
    rw [nI_clamp (by omega)]
    refine lv_iload hx hb dL_law_698 (lv_at hl 0 rfl) ?_
    refine lv_i2l hx hb dL_law_700 rfl ?_
    refine W.lcmp hx hb dL_law_701 ?_
    refine lv_if_eq (tgt := 707) hx hb dL_law_702 (by decide) (fun c702 => ?_) (fun c702 => absurd ((lg_cmp_eq _ _).mpr (hg2 (c692.trans nI_0.symm))) c702)
    refine lv_goto (tgt := 778) hx hb dL_law_707 (by decide) ?_
    refine lv_iinc (v := nI ((7 * j) + 7)) (lv' := [(4, .int (nI ((7 * j) + 7))), (6, .int r1), (5, .int r3), (0, .ref b), (1, .ref cc), (2, .ref mo), (3, .ref ot)]) hx hb dL_law_778 hl (k := 2) rfl (nI_add (7 * j) 7) (by decide) rfl (fun ls hl => ?_)
    refine lv_goto (tgt := 23) hx hb dL_law_781 (by decide) ?_
    exact kkn f2 _ H locs ls hI2 hP hS (lv_sub hl [0, 3, 4, 5, 6] rfl)
set_option maxRecDepth 100000 in
set_option maxHeartbeats 4000000 in
theorem lc_count {p : Program} {l : Launch} {e : Env} {s : State} {m : MethodId} {below : List Frame} {meth : Method} {c : Code} {D : va_G} {tys t0 : List (ClassId × FieldType)} {L Lc : List Nat} {f0 : Nat → va_E} {sAd : Nat → Nat} {cc fa ww kk kkb wk wkb wa wp : Nat} {wq wqb : Nat → Nat} {fn dr pr sA oA ra rb rk : Nat → Nat} {sq : Nat → Nat → Nat} {mo ap cm : Nat} {ad : Nat → Nat} {ot b Ln : Nat} {xs : Nat → Int32} {f : Nat → va_E} {th : Int32} {j : Nat} {H : Heap} {locs : List Loc} {ls : Array Slot} {Q : State → Prop} (C0 : Cx p s m #[Value.ref b] meth c code 7 "LiquidCheckerLaw" (some .boolean) D tys) (hst : l.stackTraces = false) (hT : Stc L Lc t0 f0 cc fa ww kk kkb wk wkb wa wp wq wqb fn dr pr sA oA ra rb rk sq mo ap cm ad ot) (hX0 : XOk L sAd s) (hnn : Nn s) (hXs : va_X b Ln xs s s.heap) (hbl : b < s.heap.size) (hLn : Ln ≤ 3584) (hLA : ∀ a ∈ L, s.heap.size ≤ a) (hj : 7 * j + 7 ≤ Ln) (hI : Inv tys L f cc fa ww kk kkb wk wkb wa wp wq wqb fn dr pr sA oA ra rb rk sq mo ap cm ad ot th) (hP : va_P D zCl (va_pl L f) H) (hS : va_S (fun q => s.heap.size ≤ q) s.heap H locs) (hl : lv_has ls 7 [(4, .int (nI (7 * j))), (0, .ref b), (1, .ref cc), (2, .ref mo), (3, .ref ot)]) (kkn : ∀ (f : Nat → va_E) (th : Int32) (H : Heap) (locs : List Loc) (ls : Array Slot), Inv tys L f cc fa ww kk kkb wk wkb wa wp wq wqb fn dr pr sA oA ra rb rk sq mo ap cm ad ot th → va_P D zCl (va_pl L f) H → va_S (fun q => s.heap.size ≤ q) s.heap H locs → lv_has ls 7 [(4, .int (nI (7 * j + 7))), (0, .ref b), (1, .ref cc), (2, .ref mo), (3, .ref ot)] → W p l e room_1 s m #[Value.ref b] below meth c H locs (149 + j + 1) (2698 + 6 * j + 6) Q (F0 m 23 ls [])) : W p l e room_1 s m #[Value.ref b] below meth c H locs (149 + j) (2698 + 6 * j) Q (F0 m 710 ls []) := by
  obtain ⟨hx, hb, hml, hown, hg, hr, hlocks, hK, hN⟩ := id C0
  have hbA : ¬ (fun q => s.heap.size ≤ q) b := fun h => Nat.not_le.mpr hbl h
  refine lv_aload_n hx hb dL_law_710 rfl (lv_at hl 2 rfl) ?_
  refine lv_aload_n hx hb dL_law_711 rfl (lv_at hl 1 rfl) ?_
  refine lv_iload hx hb dL_law_712 (lv_at hl 0 rfl) ?_
  refine lv_iconst (v := nI 1) hx hb dL_law_714 (by decide) ?_
  refine lv_iadd hx hb dL_law_715 ?_
  rw [nI_add]
  refine va_sld hx hb hXs hbl hbA hS (vp_in_nI (show (7 * j) + 1 < Ln by omega) (by omega)) dL_law_716 ?_
  rw [nI_clamp (by omega)]
  refine lv_aload_n hx hb dL_law_717 rfl (lv_at hl 1 rfl) ?_
  refine lv_iload hx hb dL_law_718 (lv_at hl 0 rfl) ?_
  refine lv_iconst (v := nI 2) hx hb dL_law_720 (by decide) ?_
  refine lv_iadd hx hb dL_law_721 ?_
  rw [nI_add]
  refine va_sld hx hb hXs hbl hbA hS (vp_in_nI (show (7 * j) + 2 < Ln by omega) (by omega)) dL_law_722 ?_
  rw [nI_clamp (by omega)]
  refine lv_aload_n hx hb dL_law_723 rfl (lv_at hl 4 rfl) ?_
  obtain ⟨mid, hH, hMd⟩ := law_count (l := l) (sAd := sAd) (D := D) hst hT hI (x := xs ((7 * j) + 1)) (y := xs ((7 * j) + 2))
  refine then_h (run_H (n := 4) (As := [.ref cc, .int (xs ((7 * j) + 1)), .int (xs ((7 * j) + 2)), .ref ot]) (rest := []) C0 hX0 hnn (hX0.2.2.kept (fun a h1 h2 => hS.2.1 a h1 (Nat.not_le.mpr h1))) hH gcL_count gw579 gw580 gw0 (by decide +kernel) ⟨Nat.le_of_ble_eq_true rfl, Nat.le_of_ble_eq_true rfl⟩ rfl rfl ⟨by show _ ≤ 601024; omega, by show _ ≤ 7293034; omega⟩ hP rfl hl.1 rfl (Nat.le_of_ble_eq_true rfl) dL_law_724) hS hLA (fun k9 f1 H locs hq1 hP hS => ?_)
  obtain ⟨⟨hmL, fs1, hmo⟩, hMe⟩ := hMd k9 f1 hq1
  refine lv_istore (lv' := [(5, .int k9), (4, .int (nI (7 * j))), (0, .ref b), (1, .ref cc), (2, .ref mo), (3, .ref ot)]) hx hb dL_law_727 hl (by decide) rfl (fun ls hl => ?_)
  refine lv_aload_n hx hb dL_law_729 rfl (lv_at hl 4 rfl) ?_
  refine lv_aload_n hx hb dL_law_730 rfl (lv_at hl 2 rfl) ?_
  refine lv_iload hx hb dL_law_731 (lv_at hl 1 rfl) ?_
  refine lv_iconst (v := nI 1) hx hb dL_law_733 (by decide) ?_
  refine lv_iadd hx hb dL_law_734 ?_
  rw [nI_add]
  refine va_sld hx hb hXs hbl hbA hS (vp_in_nI (show (7 * j) + 1 < Ln by omega) (by omega)) dL_law_735 ?_
  rw [nI_clamp (by omega)]
  refine lv_aload_n hx hb dL_law_736 rfl (lv_at hl 2 rfl) ?_
  refine lv_iload hx hb dL_law_737 (lv_at hl 1 rfl) ?_
  refine lv_iconst (v := nI 2) hx hb dL_law_739 (by decide) ?_
  refine lv_iadd hx hb dL_law_740 ?_
  rw [nI_add]
  refine va_sld hx hb hXs hbl hbA hS (vp_in_nI (show (7 * j) + 2 < Ln by omega) (by omega)) dL_law_741 ?_
  rw [nI_clamp (by omega)]
  refine then_i (run_V (n := 2) (As := [.int (xs ((7 * j) + 1)), .int (xs ((7 * j) + 2))]) (rest := []) C0 hMe gw810 gw807 gw808 gsM_count gw7 (by decide +kernel) ⟨Nat.le_of_ble_eq_true rfl, Nat.le_of_ble_eq_true rfl⟩ rfl rfl ⟨by show _ ≤ 601024; omega, by show _ ≤ 7293034; omega⟩ hP hmL hmo rfl rfl rfl hl.1 rfl (Nat.le_of_ble_eq_true rfl) dL_law_742) hS hLA (fun r1 f2 H locs hq2 hP hS => ?_)
  obtain ⟨hI2, g2, hJ2, hg2⟩ := hq2
  refine lv_istore (lv' := [(6, .int r1), (5, .int k9), (4, .int (nI (7 * j))), (0, .ref b), (1, .ref cc), (2, .ref mo), (3, .ref ot)]) hx hb dL_law_745 hl (by decide) rfl (fun ls hl => ?_)
  refine lv_aload_n hx hb dL_law_747 rfl (lv_at hl 5 rfl) ?_
  obtain ⟨_, _, _, _, _, G2, -, hM2, -, -⟩ := id hI2
  obtain ⟨fe2, me2, fu2, le2, en2, sp2, ka2, kc2, mx2, se2, gc2, -, -, -, hD2⟩ := hM2
  refine then_i (run_V (n := 0) (As := []) (rest := []) C0 (m_thrown hT.1 hD2) gw686 gw683 gw684 gsM_thrown gw7 (by decide +kernel) ⟨Nat.le_of_ble_eq_true rfl, Nat.le_of_ble_eq_true rfl⟩ rfl rfl ⟨by show _ ≤ 601024; omega, by show _ ≤ 7293034; omega⟩ hP hD2.1.1.1 hD2.2.1 rfl rfl rfl hl.1 rfl (Nat.le_of_ble_eq_true rfl) dL_law_748) hS hLA (fun r3 f3 H locs hq3 hP hS => ?_)
  obtain ⟨er3, ef3⟩ := hq3
  subst er3
  rw [ef3] at hP
  refine lv_iload hx hb dL_law_751 (lv_at hl 1 rfl) ?_
  refine lv_icmp_eq (tgt := 758) hx hb dL_law_753 (by decide) (fun c753 => ?_) (fun c753 => absurd rfl c753)
  refine lv_iload hx hb dL_law_758 (lv_at hl 1 rfl) ?_
  refine lv_if_ne (tgt := 775) hx hb dL_law_760 (by decide) (fun c760 => ?_) (fun c760 => ?_)
  · refine lv_goto (tgt := 778) hx hb dL_law_775 (by decide) ?_
    refine lv_iinc (v := nI ((7 * j) + 7)) (lv' := [(4, .int (nI ((7 * j) + 7))), (6, .int r1), (5, .int r3), (0, .ref b), (1, .ref cc), (2, .ref mo), (3, .ref ot)]) hx hb dL_law_778 hl (k := 2) rfl (nI_add (7 * j) 7) (by decide) rfl (fun ls hl => ?_)
    refine lv_goto (tgt := 23) hx hb dL_law_781 (by decide) ?_
    exact kkn f2 _ H locs ls hI2 hP hS (lv_sub hl [0, 3, 4, 5, 6] rfl)
  · refine lv_aload_n hx hb dL_law_763 rfl (lv_at hl 6 rfl) ?_
    refine lv_iconst (v := nI 0) hx hb dL_law_764 (by decide) ?_
    refine mm_lald hx hb hK hP hT.2.2.2.2.2.2.2.2.1 hJ2 (vp_in_nI (show 0 < 1 by omega) (by omega)) dL_law_765 ?_
    rw [nI_clamp (by omega)]
    refine lv_iload hx hb dL_law_766 (lv_at hl 0 rfl) ?_
    refine lv_i2l hx hb dL_law_768 rfl ?_
    refine W.lcmp hx hb dL_law_769 ?_
    refine lv_if_eq (tgt := 775) hx hb dL_law_770 (by decide) (fun c770 => ?_) (fun c770 => absurd ((lg_cmp_eq _ _).mpr (hg2 (c760.trans nI_0.symm))) c770)
    refine lv_goto (tgt := 778) hx hb dL_law_775 (by decide) ?_
    refine lv_iinc (v := nI ((7 * j) + 7)) (lv' := [(4, .int (nI ((7 * j) + 7))), (6, .int r1), (5, .int r3), (0, .ref b), (1, .ref cc), (2, .ref mo), (3, .ref ot)]) hx hb dL_law_778 hl (k := 2) rfl (nI_add (7 * j) 7) (by decide) rfl (fun ls hl => ?_)
    refine lv_goto (tgt := 23) hx hb dL_law_781 (by decide) ?_
    exact kkn f2 _ H locs ls hI2 hP hS (lv_sub hl [0, 3, 4, 5, 6] rfl)
set_option maxRecDepth 100000 in
set_option maxHeartbeats 4000000 in
theorem law_loop {p : Program} {l : Launch} {e : Env} {s : State} {m : MethodId} {below : List Frame} {meth : Method} {c : Code} {D : va_G} {tys t0 : List (ClassId × FieldType)} {L Lc : List Nat} {f0 : Nat → va_E} {sAd : Nat → Nat} {cc fa ww kk kkb wk wkb wa wp : Nat} {wq wqb : Nat → Nat} {fn dr pr sA oA ra rb rk : Nat → Nat} {sq : Nat → Nat → Nat} {mo ap cm : Nat} {ad : Nat → Nat} {ot b Ln : Nat} {xs : Nat → Int32} (C0 : Cx p s m #[Value.ref b] meth c code 7 "LiquidCheckerLaw" (some .boolean) D tys) (hst : l.stackTraces = false) (hT : Stc L Lc t0 f0 cc fa ww kk kkb wk wkb wa wp wq wqb fn dr pr sA oA ra rb rk sq mo ap cm ad ot) (hX0 : XOk L sAd s) (hnn : Nn s) (hXs : va_X b Ln xs s s.heap) (hbl : b < s.heap.size) (hLn : Ln ≤ 3584) (hLA : ∀ a ∈ L, s.heap.size ≤ a) : ∀ (n j : Nat) (f : Nat → va_E) (th : Int32), Ln + 7 ≤ 7 * j + 7 * n → 7 * j ≤ Ln → ∀ (H : Heap) (locs : List Loc) (ls : Array Slot), Inv tys L f cc fa ww kk kkb wk wkb wa wp wq wqb fn dr pr sA oA ra rb rk sq mo ap cm ad ot th → va_P D zCl (va_pl L f) H → va_S (fun q => s.heap.size ≤ q) s.heap H locs → lv_has ls 7 [(4, .int (nI (7 * j))), (0, .ref b), (1, .ref cc), (2, .ref mo), (3, .ref ot)] → W p l e room_1 s m #[Value.ref b] below meth c H locs (149 + j) (2698 + 6 * j) (lw_Z below #[Value.ref b] s) (F0 m 23 ls []) := by
  obtain ⟨hx, hb, hml, hown, hg, hr, hlocks, hK, hN⟩ := id C0
  have hbA : ¬ (fun q => s.heap.size ≤ q) b := fun h => Nat.not_le.mpr hbl h
  intro n
  induction n with
  | zero => intro j f th h1 h2; omega
  | succ n ih =>
    intro j f th h1 h2 H locs ls hI hP hS hl
    refine lv_iload hx hb dL_law_23 (lv_at hl 0 rfl) ?_
    refine lv_aload_n hx hb dL_law_25 rfl (lv_at hl 1 rfl) ?_
    refine va_slen hx hb hXs hbl hbA hS dL_law_26 ?_
    rw [show Int32.ofNat Ln = nI Ln from rfl]
    refine lv_bipush (v := nI 7) hx hb dL_law_27 (by decide) ?_
    refine lv_isub hx hb dL_law_29 ?_
    refine lv_icmp_gt (tgt := 784) hx hb dL_law_30 (by decide) (fun c30 => ?_) (fun c30 => ?_)
    · refine lv_iconst (v := 1) hx hb dL_law_784 (by decide) ?_
      refine va_forget (fun q hq => hS.2.2 q hq) ?_
      refine W.widen (k := 601024) (n := 7293034) (by omega) (by omega) ?_
      exact lw_ret hx hb hr hlocks dL_law_785
    · have hj : 7 * j + 7 ≤ Ln := law_cmp hLn (by omega) c30
      refine lv_aload_n hx hb dL_law_33 rfl (lv_at hl 1 rfl) ?_
      refine lv_iload hx hb dL_law_34 (lv_at hl 0 rfl) ?_
      refine va_sld hx hb hXs hbl hbA hS (vp_in_nI (show 7 * j < Ln by omega) (by omega)) dL_law_36 ?_
      rw [nI_clamp (by omega)]
      refine lv_bipush (v := nI 15) hx hb dL_law_37 (by decide) ?_
      refine lv_iand hx hb dL_law_39 ?_
      by_cases w40_0 : ((xs (7 * j)) &&& (nI 15)) = nI 0
      · refine lv_tableIn (tgt := 92) (off := 52) hx hb dL_law_40 (by rw [w40_0]; decide +kernel) (by rw [w40_0]; decide +kernel) (by rw [w40_0]; decide +kernel) (by decide) ?_
        exact lc_refine C0 hst hT hX0 hnn hXs hbl hLn hLA hj hI hP hS hl (fun f th H locs ls hI hP hS hl => ih (j + 1) f th (by omega) (by omega) H locs ls hI hP hS hl)
      · skip
        by_cases w40_1 : ((xs (7 * j)) &&& (nI 15)) = nI 1
        · refine lv_tableIn (tgt := 196) (off := 156) hx hb dL_law_40 (by rw [w40_1]; decide +kernel) (by rw [w40_1]; decide +kernel) (by rw [w40_1]; decide +kernel) (by decide) ?_
          exact lc_statement C0 hst hT hX0 hnn hXs hbl hLn hLA hj hI hP hS hl (fun f th H locs ls hI hP hS hl => ih (j + 1) f th (by omega) (by omega) H locs ls hI hP hS hl)
        · skip
          by_cases w40_2 : ((xs (7 * j)) &&& (nI 15)) = nI 2
          · refine lv_tableIn (tgt := 314) (off := 274) hx hb dL_law_40 (by rw [w40_2]; decide +kernel) (by rw [w40_2]; decide +kernel) (by rw [w40_2]; decide +kernel) (by decide) ?_
            exact lc_clear C0 hst hT hX0 hnn hXs hbl hLn hLA hj hI hP hS hl (fun f th H locs ls hI hP hS hl => ih (j + 1) f th (by omega) (by omega) H locs ls hI hP hS hl)
          · skip
            by_cases w40_3 : ((xs (7 * j)) &&& (nI 15)) = nI 3
            · refine lv_tableIn (tgt := 370) (off := 330) hx hb dL_law_40 (by rw [w40_3]; decide +kernel) (by rw [w40_3]; decide +kernel) (by rw [w40_3]; decide +kernel) (by decide) ?_
              exact lc_check C0 hst hT hX0 hnn hXs hbl hLn hLA hj hI hP hS hl (fun f th H locs ls hI hP hS hl => ih (j + 1) f th (by omega) (by omega) H locs ls hI hP hS hl)
            · skip
              by_cases w40_4 : ((xs (7 * j)) &&& (nI 15)) = nI 4
              · refine lv_tableIn (tgt := 426) (off := 386) hx hb dL_law_40 (by rw [w40_4]; decide +kernel) (by rw [w40_4]; decide +kernel) (by rw [w40_4]; decide +kernel) (by decide) ?_
                exact lc_ways C0 hst hT hX0 hnn hXs hbl hLn hLA hj hI hP hS hl (fun f th H locs ls hI hP hS hl => ih (j + 1) f th (by omega) (by omega) H locs ls hI hP hS hl)
              · skip
                by_cases w40_5 : ((xs (7 * j)) &&& (nI 15)) = nI 5
                · refine lv_tableIn (tgt := 482) (off := 442) hx hb dL_law_40 (by rw [w40_5]; decide +kernel) (by rw [w40_5]; decide +kernel) (by rw [w40_5]; decide +kernel) (by decide) ?_
                  exact lc_comes C0 hst hT hX0 hnn hXs hbl hLn hLA hj hI hP hS hl (fun f th H locs ls hI hP hS hl => ih (j + 1) f th (by omega) (by omega) H locs ls hI hP hS hl)
                · skip
                  by_cases w40_6 : ((xs (7 * j)) &&& (nI 15)) = nI 6
                  · refine lv_tableIn (tgt := 550) (off := 510) hx hb dL_law_40 (by rw [w40_6]; decide +kernel) (by rw [w40_6]; decide +kernel) (by rw [w40_6]; decide +kernel) (by decide) ?_
                    exact lc_most C0 hst hT hX0 hnn hXs hbl hLn hLA hj hI hP hS hl (fun f th H locs ls hI hP hS hl => ih (j + 1) f th (by omega) (by omega) H locs ls hI hP hS hl)
                  · skip
                    by_cases w40_7 : ((xs (7 * j)) &&& (nI 15)) = nI 7
                    · refine lv_tableIn (tgt := 642) (off := 602) hx hb dL_law_40 (by rw [w40_7]; decide +kernel) (by rw [w40_7]; decide +kernel) (by rw [w40_7]; decide +kernel) (by decide) ?_
                      exact lc_follows C0 hst hT hX0 hnn hXs hbl hLn hLA hj hI hP hS hl (fun f th H locs ls hI hP hS hl => ih (j + 1) f th (by omega) (by omega) H locs ls hI hP hS hl)
                    · skip
                      by_cases w40_8 : ((xs (7 * j)) &&& (nI 15)) = nI 8
                      · refine lv_tableIn (tgt := 710) (off := 670) hx hb dL_law_40 (by rw [w40_8]; decide +kernel) (by rw [w40_8]; decide +kernel) (by rw [w40_8]; decide +kernel) (by decide) ?_
                        exact lc_count C0 hst hT hX0 hnn hXs hbl hLn hLA hj hI hP hS hl (fun f th H locs ls hI hP hS hl => ih (j + 1) f th (by omega) (by omega) H locs ls hI hP hS hl)
                      · skip
                        refine lv_tableOut (tgt := 778) hx hb dL_law_40 (by
                          have z0 : ((xs (7 * j)) &&& (nI 15)).toInt ≠ 0 := fun e => w40_0 (Int32.toInt_inj.mp (e.trans (by decide +kernel)))
                          have z1 : ((xs (7 * j)) &&& (nI 15)).toInt ≠ 1 := fun e => w40_1 (Int32.toInt_inj.mp (e.trans (by decide +kernel)))
                          have z2 : ((xs (7 * j)) &&& (nI 15)).toInt ≠ 2 := fun e => w40_2 (Int32.toInt_inj.mp (e.trans (by decide +kernel)))
                          have z3 : ((xs (7 * j)) &&& (nI 15)).toInt ≠ 3 := fun e => w40_3 (Int32.toInt_inj.mp (e.trans (by decide +kernel)))
                          have z4 : ((xs (7 * j)) &&& (nI 15)).toInt ≠ 4 := fun e => w40_4 (Int32.toInt_inj.mp (e.trans (by decide +kernel)))
                          have z5 : ((xs (7 * j)) &&& (nI 15)).toInt ≠ 5 := fun e => w40_5 (Int32.toInt_inj.mp (e.trans (by decide +kernel)))
                          have z6 : ((xs (7 * j)) &&& (nI 15)).toInt ≠ 6 := fun e => w40_6 (Int32.toInt_inj.mp (e.trans (by decide +kernel)))
                          have z7 : ((xs (7 * j)) &&& (nI 15)).toInt ≠ 7 := fun e => w40_7 (Int32.toInt_inj.mp (e.trans (by decide +kernel)))
                          have z8 : ((xs (7 * j)) &&& (nI 15)).toInt ≠ 8 := fun e => w40_8 (Int32.toInt_inj.mp (e.trans (by decide +kernel)))
                          omega) (by decide) ?_
                        refine lv_iinc (v := nI ((7 * j) + 7)) (lv' := [(4, .int (nI ((7 * j) + 7))), (0, .ref b), (1, .ref cc), (2, .ref mo), (3, .ref ot)]) hx hb dL_law_778 hl (k := 0) rfl (nI_add (7 * j) 7) (by decide) rfl (fun ls hl => ?_)
                        refine lv_goto (tgt := 23) hx hb dL_law_781 (by decide) ?_
                        exact W.widen (by omega) (by omega) (ih (j + 1) f th (by omega) (by omega) H locs ls hI hP hS (lv_sub hl [0, 1, 2, 3, 4] rfl))
