/-! LiquidCheckerModel.perform: a statement of a way. -/
def m_bit (σ : Sg) (i p : Nat) (mask : Int32) : Bool := decide ((mask >>> (nI (nif σ i p) &&& 31)) &&& nI 1 = 0)
def m_K (σ : Sg) (i p : Nat) (mask : Int32) (K : kl_K) : kl_K := if sk σ (16 * i + p) = nI 2 then (if m_bit σ i p mask = true then st_K σ i p K else st_ot σ i p K) else st_K σ i p K
def m_nx (σ : Sg) (i p : Nat) (mask : Int32) : Int32 := if sk σ (16 * i + p) = nI 2 then (if m_bit σ i p mask = true then nI (p + 1) else st_tg σ i p) else st_nx σ i p
def m_me (σ : Sg) (i p : Nat) (me : Int32) : Int32 := if sk σ (16 * i + p) = nI 2 then me ||| (nI 1 <<< (nI (nif σ i p) &&& 31)) else me
def m_tg2 (G : Nat → Nat → Int32) (σ : Sg) (i p : Nat) : Int32 := if G 11 (16 * i + p) < 0 then (if G 12 (16 * i + p) < 0 then nI (sz σ i) else G 12 (16 * i + p)) else G 11 (16 * i + p) + nI 1
def m_s3 (G : Nat → Nat → Int32) (σ : Sg) (i p : Nat) : Nat → Nat → Int32
  | 0, _ => nI (sz σ i)
  | n + 1, q => if sk σ (16 * i + q) = nI 2 ∧ G 11 (16 * i + q) = nI p then (if G 12 (16 * i + q) < 0 then nI (sz σ i) else G 12 (16 * i + q)) else m_s3 G σ i p n (q + 1)
/-- the model's own notes of where the sides of an IF begin -/
def MLk (σ : Sg) (G : Nat → Nat → Int32) (i : Nat) : Prop := ∀ p, p < sz σ i → (sk σ (16 * i + p) = nI 2 → G 10 (16 * i + p) = nI (nif σ i p) ∧ m_tg2 G σ i p = st_tg σ i p) ∧ (sk σ (16 * i + p) = nI 3 → m_s3 G σ i p p 0 = st_tg σ i p)
theorem i64_sub1 {k : Int32} (h : -1000 ≤ k.toInt ∧ k.toInt ≤ 1000) : (-k).toInt64 - 1 = Int64.ofInt (-k.toInt - 1) := by
  rw [i64_i32, i32_neg (by omega), show (1 : Int64) = Int64.ofInt 1 by decide +kernel, ← Int64.ofInt_sub]
set_option maxRecDepth 100000 in
set_option maxHeartbeats 4000000 in
theorem m_else_loop {pgm : Program} {l : Launch} {e : Env} {s : State} {m : MethodId} {args : Array Value} {below : List Frame} {meth : Method} {c : Code} {D : va_G} {tys : List (ClassId × FieldType)} {L : List Nat} {f : Nat → va_E} (C0 : Cx pgm s m args meth c cM_perform 8 "LiquidCheckerModel" (some .int) D tys) (hn : L.Nodup) {mo ap cm : Nat} {ad : Nat → Nat} {G : Nat → Nat → Int32} {th me le en sp ka kc se : Int32} {mx : Int64} {gc : Nat → Int32} {σ : Sg} {i p : Nat} {K : kl_K} (hi4 : i < 4) (hp : p < 16) (hM : MT σ G) (hD : MD tys L f mo ap cm ad G th (kb K.1) me (nI i) le en sp ka kc mx se gc) {post : Int32 → (Nat → va_E) → Prop} : ∀ (n q : Nat), q + n = p → post (m_s3 G σ i p n q) f → ∀ (H : Heap) (locs : List Loc) (ls : Array Slot), va_P D zCl (va_pl L f) H → va_S (inL L) s.heap H locs → lv_has ls 8 [(7, .int (nI (16 * i + q))), (0, .ref mo), (1, .int (nI p)), (3, .int (nI (16 * i + p))), (6, .int (nI (sz σ i)))] → W pgm l e ({ frames := 3, cells := 0, slots := 0, locals := 74 } : Room) s m args below meth c H locs 0 0 (MQ below (va_Qi post (cB D L) (inL L)) args s 0 0 (inL L)) (F0 m 256 ls []) := by
  obtain ⟨hx, hb, hml, hown, hg, hr, hlocks, hK, hN⟩ := id C0
  have hA : ∀ a ∈ L, inL L a := fun _ h => h
  intro n
  induction n with
  | zero =>
    intro q hq hpo H locs ls hP hS hl
    obtain rfl : q = p := by omega
    refine lv_iload hx hb dM_perform_256 (lv_at hl 0 rfl) ?_
    refine lv_iload_n hx hb dM_perform_258 rfl (lv_at hl 3 rfl) ?_
    refine lv_icmp_ge (tgt := 313) hx hb dM_perform_259 (by decide) (fun c259 => ?_) (fun c259 => absurd (nI_le (by omega) (by omega)) c259)
    refine lv_iload hx hb dM_perform_313 (lv_at hl 4 rfl) ?_
    exact ret_i C0 hP hS hpo dM_perform_315
  | succ n ih =>
    intro q hq hpo H locs ls hP hS hl
    refine lv_iload hx hb dM_perform_256 (lv_at hl 0 rfl) ?_
    refine lv_iload_n hx hb dM_perform_258 rfl (lv_at hl 3 rfl) ?_
    refine lv_icmp_ge (tgt := 313) hx hb dM_perform_259 (by decide) (fun c259 => absurd c259 (nI_ge (show 16 * i + q < 16 * i + p by omega) (by omega))) (fun c259 => ?_)
    refine lv_aload_n hx hb dM_perform_262 rfl (lv_at hl 1 rfl) ?_
    refine mm_get (v := .ref (ad 4)) hx hb hg inM hown hK hP hD.1.1.1 hD.2.1 rfl 5 (by decide) (hg _ gw598) (fun _ h9 => h9) rfl dM_perform_263 ?_
    refine lv_iload hx hb dM_perform_266 (lv_at hl 0 rfl) ?_
    refine mm_iald hx hb hK hP (hD.1.2 4 (by decide)).1 (show mm_I tys f (ad 4) 64 (G 4) from (hD.1.2 4 (by decide)).2) (vp_in_nI (show 16 * i + q < 64 by omega) (by omega)) dM_perform_268 ?_
    rw [nI_clamp (by omega)]
    rw [(hM.2.2.1 (16 * i + q) (by omega)).1]
    refine lv_iconst (v := nI 2) hx hb dM_perform_269 (by decide) ?_
    refine lv_icmp_ne (tgt := 307) hx hb dM_perform_270 (by decide) (fun c270 => ?_) (fun c270 => ?_)
    · refine lv_iinc (v := nI ((16 * i + q) + 1)) (lv' := [(7, .int (nI ((16 * i + q) + 1))), (0, .ref mo), (1, .int (nI p)), (3, .int (nI (16 * i + p))), (6, .int (nI (sz σ i)))]) hx hb dM_perform_307 hl (k := 0) rfl (nI_add (16 * i + q) 1) (by decide) rfl (fun ls hl => ?_)
      refine lv_goto (tgt := 256) hx hb dM_perform_310 (by decide) ?_
      rw [show m_s3 G σ i p (n + 1) q = _ from if_neg (fun z => c270 z.1)] at hpo
      exact ih (q + 1) (by omega) hpo H locs ls hP hS (lv_sub hl [0, 1, 2, 3, 4] rfl)
    · refine lv_aload_n hx hb dM_perform_273 rfl (lv_at hl 1 rfl) ?_
      refine mm_get (v := .ref (ad 11)) hx hb hg inM hown hK hP hD.1.1.1 hD.2.1 rfl 12 (by decide) (hg _ gw605) (fun _ h9 => h9) rfl dM_perform_274 ?_
      refine lv_iload hx hb dM_perform_277 (lv_at hl 0 rfl) ?_
      refine mm_iald hx hb hK hP (hD.1.2 11 (by decide)).1 (show mm_I tys f (ad 11) 64 (G 11) from (hD.1.2 11 (by decide)).2) (vp_in_nI (show 16 * i + q < 64 by omega) (by omega)) dM_perform_279 ?_
      rw [nI_clamp (by omega)]
      refine lv_iload_n hx hb dM_perform_280 rfl (lv_at hl 2 rfl) ?_
      refine lv_icmp_ne (tgt := 307) hx hb dM_perform_281 (by decide) (fun c281 => ?_) (fun c281 => ?_)
      · refine lv_iinc (v := nI ((16 * i + q) + 1)) (lv' := [(7, .int (nI ((16 * i + q) + 1))), (0, .ref mo), (1, .int (nI p)), (3, .int (nI (16 * i + p))), (6, .int (nI (sz σ i)))]) hx hb dM_perform_307 hl (k := 0) rfl (nI_add (16 * i + q) 1) (by decide) rfl (fun ls hl => ?_)
        refine lv_goto (tgt := 256) hx hb dM_perform_310 (by decide) ?_
        rw [show m_s3 G σ i p (n + 1) q = _ from if_neg (fun z => c281 z.2)] at hpo
        exact ih (q + 1) (by omega) hpo H locs ls hP hS (lv_sub hl [0, 1, 2, 3, 4] rfl)
      · refine lv_aload_n hx hb dM_perform_284 rfl (lv_at hl 1 rfl) ?_
        refine mm_get (v := .ref (ad 12)) hx hb hg inM hown hK hP hD.1.1.1 hD.2.1 rfl 13 (by decide) (hg _ gw606) (fun _ h9 => h9) rfl dM_perform_285 ?_
        refine lv_iload hx hb dM_perform_288 (lv_at hl 0 rfl) ?_
        refine mm_iald hx hb hK hP (hD.1.2 12 (by decide)).1 (show mm_I tys f (ad 12) 64 (G 12) from (hD.1.2 12 (by decide)).2) (vp_in_nI (show 16 * i + q < 64 by omega) (by omega)) dM_perform_290 ?_
        rw [nI_clamp (by omega)]
        refine lv_if_lt (tgt := 304) hx hb dM_perform_291 (by decide) (fun c291 => ?_) (fun c291 => ?_)
        · refine lv_iload hx hb dM_perform_304 (lv_at hl 4 rfl) ?_
          rw [show m_s3 G σ i p (n + 1) q = _ from if_pos ⟨c270, c281⟩, if_pos c291] at hpo
          exact ret_i C0 hP hS hpo dM_perform_306
        · refine lv_aload_n hx hb dM_perform_294 rfl (lv_at hl 1 rfl) ?_
          refine mm_get (v := .ref (ad 12)) hx hb hg inM hown hK hP hD.1.1.1 hD.2.1 rfl 13 (by decide) (hg _ gw606) (fun _ h9 => h9) rfl dM_perform_295 ?_
          refine lv_iload hx hb dM_perform_298 (lv_at hl 0 rfl) ?_
          refine mm_iald hx hb hK hP (hD.1.2 12 (by decide)).1 (show mm_I tys f (ad 12) 64 (G 12) from (hD.1.2 12 (by decide)).2) (vp_in_nI (show 16 * i + q < 64 by omega) (by omega)) dM_perform_300 ?_
          rw [nI_clamp (by omega)]
          refine lv_goto (tgt := 306) hx hb dM_perform_301 (by decide) ?_
          rw [show m_s3 G σ i p (n + 1) q = _ from if_pos ⟨c270, c281⟩, if_neg c291] at hpo
          exact ret_i C0 hP hS hpo dM_perform_306
set_option maxRecDepth 100000 in
set_option maxHeartbeats 4000000 in
theorem m_perform {l : Launch} {D : va_G} {tys : List (ClassId × FieldType)} {L : List Nat} {f : Nat → va_E} (hn : L.Nodup) {mo ap cm : Nat} {ad : Nat → Nat} {G : Nat → Nat → Int32} {th me le en sp ka kc se : Int32} {mx : Int64} {gc : Nat → Int32} {σ : Sg} {i p : Nat} {mask : Int32} {T : Int} {K : kl_K} (hi4 : i < 4) (hp : p < 16) (hpz : p < sz σ i) (hst : StOk σ (16 * i + p)) (h6 : sk σ (16 * i + p) ≠ nI 6) (hM : MT σ G) (hL : MLk σ G i) (hRl : RlOk σ) (hT : T ≤ 280000) (hle : -1 ≤ le.toInt) (hok : kl_ok T K) (hp1 : K.1 = true) (h3 : Free3 K) (hD : MD tys L f mo ap cm ad G th (kb K.1) me (nI i) le en sp ka kc mx se gc) (hk : MnK tys f ap K) : MetI l yM_perform wM_perform ({ frames := 3, cells := 0, slots := 0, locals := 74 } : Room) D tys L f [.ref mo, .int (nI p), .int mask] (fun r f' => r = m_nx σ i p mask ∧ MD tys L f' mo ap cm ad G th (kb (m_K σ i p mask K).1) (m_me σ i p me) (nI i) (n_lu le (nI p) (st_sh σ i p K)) en sp ka kc mx se gc ∧ ((m_K σ i p mask K).1 = true → MnK tys f' ap (m_K σ i p mask K)) ∧ Sm3 f f' mo ap cm) := by
  refine met_of "LiquidCheckerModel" (by decide) rfl (Nat.le_of_ble_eq_true rfl) ?_
  intro pgm e s m below meth c ls C0 hP hl
  obtain ⟨hx, hb, hml, hown, hg, hr, hlocks, hK, hN⟩ := id C0
  have hA : ∀ a ∈ L, inL L a := fun _ h => h
  obtain ⟨H, hH⟩ : ∃ z, z = s.heap := ⟨_, rfl⟩
  rw [← hH] at hP ⊢
  have hS : va_S (inL L) s.heap H [] := by rw [hH]; exact va_S.rf
  have hl : lv_has ls 8 [(0, .ref mo), (1, .int (nI p)), (2, .int mask)] := hl
  refine lv_bipush (v := nI 16) hx hb dM_perform_0 (by decide) ?_
  refine lv_aload_n hx hb dM_perform_2 rfl (lv_at hl 0 rfl) ?_
  refine mm_get (v := .int (nI i)) hx hb hg inM hown hK hP hD.1.1.1 hD.2.1 rfl 20 (by decide) (hg _ gw613) (fun _ h9 => h9) rfl dM_perform_3 ?_
  refine lv_imul hx hb dM_perform_6 ?_
  rw [pk_mul]
  refine lv_iload_n hx hb dM_perform_7 rfl (lv_at hl 1 rfl) ?_
  refine lv_iadd hx hb dM_perform_8 ?_
  rw [nI_add]
  refine lv_istore_n (lv' := [(3, .int (nI ((16 * i) + p))), (0, .ref mo), (1, .int (nI p)), (2, .int mask)]) hx hb dM_perform_9 rfl hl (by decide) rfl (fun ls hl => ?_)
  refine lv_aload_n hx hb dM_perform_10 rfl (lv_at hl 1 rfl) ?_
  refine mm_get (v := .ref (ad 5)) hx hb hg inM hown hK hP hD.1.1.1 hD.2.1 rfl 6 (by decide) (hg _ gw599) (fun _ h9 => h9) rfl dM_perform_11 ?_
  refine lv_iload_n hx hb dM_perform_14 rfl (lv_at hl 0 rfl) ?_
  refine mm_iald hx hb hK hP (hD.1.2 5 (by decide)).1 (show mm_I tys f (ad 5) 64 (G 5) from (hD.1.2 5 (by decide)).2) (vp_in_nI (show (16 * i) + p < 64 by omega) (by omega)) dM_perform_15 ?_
  rw [nI_clamp (by omega)]
  rw [(hM.2.2.1 (16 * i + p) (by omega)).2.1]
  refine lv_topi (fun a0 ea0 => ?_)
  refine lv_istore (lv' := [(4, .int a0), (3, .int (nI ((16 * i) + p))), (0, .ref mo), (1, .int (nI p)), (2, .int mask)]) hx hb dM_perform_16 hl (by decide) rfl (fun ls hl => ?_)
  refine lv_aload_n hx hb dM_perform_18 rfl (lv_at hl 2 rfl) ?_
  refine mm_get (v := .ref (ad 6)) hx hb hg inM hown hK hP hD.1.1.1 hD.2.1 rfl 7 (by decide) (hg _ gw600) (fun _ h9 => h9) rfl dM_perform_19 ?_
  refine lv_iload_n hx hb dM_perform_22 rfl (lv_at hl 1 rfl) ?_
  refine mm_iald hx hb hK hP (hD.1.2 6 (by decide)).1 (show mm_I tys f (ad 6) 64 (G 6) from (hD.1.2 6 (by decide)).2) (vp_in_nI (show (16 * i) + p < 64 by omega) (by omega)) dM_perform_23 ?_
  rw [nI_clamp (by omega)]
  rw [(hM.2.2.1 (16 * i + p) (by omega)).2.2.1]
  refine lv_topi (fun b0 eb0 => ?_)
  refine lv_istore (lv' := [(5, .int b0), (4, .int a0), (3, .int (nI ((16 * i) + p))), (0, .ref mo), (1, .int (nI p)), (2, .int mask)]) hx hb dM_perform_24 hl (by decide) rfl (fun ls hl => ?_)
  refine lv_aload_n hx hb dM_perform_26 rfl (lv_at hl 3 rfl) ?_
  refine mm_get (v := .ref (ad 9)) hx hb hg inM hown hK hP hD.1.1.1 hD.2.1 rfl 10 (by decide) (hg _ gw603) (fun _ h9 => h9) rfl dM_perform_27 ?_
  refine lv_aload_n hx hb dM_perform_30 rfl (lv_at hl 3 rfl) ?_
  refine mm_get (v := .int (nI i)) hx hb hg inM hown hK hP hD.1.1.1 hD.2.1 rfl 20 (by decide) (hg _ gw613) (fun _ h9 => h9) rfl dM_perform_31 ?_
  refine mm_iald hx hb hK hP (hD.1.2 9 (by decide)).1 (show mm_I tys f (ad 9) 4 (G 9) from (hD.1.2 9 (by decide)).2) (vp_in_nI (show i < 4 by omega) (by omega)) dM_perform_34 ?_
  rw [nI_clamp (by omega)]
  rw [hM.2.2.2 i hi4]
  refine lv_istore (lv' := [(6, .int (nI (sz σ i))), (5, .int b0), (4, .int a0), (3, .int (nI ((16 * i) + p))), (0, .ref mo), (1, .int (nI p)), (2, .int mask)]) hx hb dM_perform_35 hl (by decide) rfl (fun ls hl => ?_)
  refine lv_aload_n hx hb dM_perform_37 rfl (lv_at hl 4 rfl) ?_
  refine mm_get (v := .ref (ad 4)) hx hb hg inM hown hK hP hD.1.1.1 hD.2.1 rfl 5 (by decide) (hg _ gw598) (fun _ h9 => h9) rfl dM_perform_38 ?_
  refine lv_iload_n hx hb dM_perform_41 rfl (lv_at hl 3 rfl) ?_
  refine mm_iald hx hb hK hP (hD.1.2 4 (by decide)).1 (show mm_I tys f (ad 4) 64 (G 4) from (hD.1.2 4 (by decide)).2) (vp_in_nI (show (16 * i) + p < 64 by omega) (by omega)) dM_perform_42 ?_
  rw [nI_clamp (by omega)]
  rw [(hM.2.2.1 (16 * i + p) (by omega)).1]
  by_cases w43_0 : (sk σ (16 * i + p)) = nI 0
  · refine lv_tableIn (tgt := 88) (off := 45) hx hb dM_perform_43 (by rw [w43_0]; decide +kernel) (by rw [w43_0]; decide +kernel) (by rw [w43_0]; decide +kernel) (by decide) ?_
    have hna := hst.2.1 (Or.inl w43_0)
    have hnb := hst.2.2.1 (Or.inl w43_0)
    have hkk := hst.2.2.2.2 (Or.inl w43_0)
    rw [show a0 = nI (nt (sa σ (16 * i + p))) from ea0.trans hna.1] at hl
    rw [show b0 = nI (nt (sb σ (16 * i + p))) from eb0.trans hnb.1] at hl
    refine lv_aload_n hx hb dM_perform_88 rfl (lv_at hl 4 rfl) ?_
    refine lv_bipush (v := nI 12) hx hb dM_perform_89 (by decide) ?_
    refine lv_iload hx hb dM_perform_91 (lv_at hl 1 rfl) ?_
    refine lv_aload_n hx hb dM_perform_93 rfl (lv_at hl 4 rfl) ?_
    refine mm_get (v := .ref (ad 8)) hx hb hg inM hown hK hP hD.1.1.1 hD.2.1 rfl 9 (by decide) (hg _ gw602) (fun _ h9 => h9) rfl dM_perform_94 ?_
    refine lv_iload_n hx hb dM_perform_97 rfl (lv_at hl 3 rfl) ?_
    refine mm_iald hx hb hK hP (hD.1.2 8 (by decide)).1 (show mm_I tys f (ad 8) 64 (G 8) from (hD.1.2 8 (by decide)).2) (vp_in_nI (show (16 * i) + p < 64 by omega) (by omega)) dM_perform_98 ?_
    rw [nI_clamp (by omega)]
    rw [(hM.2.2.1 (16 * i + p) (by omega)).2.2.2.2]
    refine lv_i2l hx hb dM_perform_99 rfl ?_
    refine then_v (run_V (n := 3) (As := [.int (nI 12), .int (nI (nt (sb σ (16 * i + p)))), .long ((sK σ (16 * i + p)).toInt64)]) (rest := []) C0 (ma_know hn hD.1.1.1 hD.1.1.2.1 hD.2.1 hk hok (by omega) (by omega) hnb.2.1 (show 12 = jn 3 from rfl) (jn_id hnb.2.2) (i64_i32 _) (by omega)) gw750 gw747 gw749 gsM_know gw7 (by decide +kernel) ⟨Nat.le_of_ble_eq_true rfl, Nat.le_of_ble_eq_true rfl⟩ rfl rfl ⟨Nat.le_of_ble_eq_true rfl, Nat.le_of_ble_eq_true rfl⟩ hP hD.1.1.1 hD.2.1 rfl rfl rfl hl.1 rfl (Nat.le_of_ble_eq_true rfl) dM_perform_100) hS hA (fun f1 H locs hq100 hP hS => ?_)
    obtain ⟨ho2, hk2, hs2⟩ := hq100
    have hD2 : MD tys L f1 mo ap cm ad G th (kb (kl_learn 3 (nt (sb σ (16 * i + p))) (sK σ (16 * i + p)).toInt K).1) me (nI i) le en sp ka kc mx se gc := hD.upd2 ho2 (MnK.J hk2) hs2
    have hm2 : Sm3 f _ mo ap cm := Sm3.of2 hs2
    refine lv_aload_n hx hb dM_perform_103 rfl (lv_at hl 4 rfl) ?_
    refine lv_iload hx hb dM_perform_104 (lv_at hl 1 rfl) ?_
    refine lv_bipush (v := nI 12) hx hb dM_perform_106 (by decide) ?_
    refine lv_aload_n hx hb dM_perform_108 rfl (lv_at hl 4 rfl) ?_
    refine mm_get (v := .ref (ad 8)) hx hb hg inM hown hK hP hD2.1.1.1 hD2.2.1 rfl 9 (by decide) (hg _ gw602) (fun _ h9 => h9) rfl dM_perform_109 ?_
    refine lv_iload_n hx hb dM_perform_112 rfl (lv_at hl 3 rfl) ?_
    refine mm_iald hx hb hK hP (hD2.1.2 8 (by decide)).1 (show mm_I tys f1 (ad 8) 64 (G 8) from (hD2.1.2 8 (by decide)).2) (vp_in_nI (show (16 * i) + p < 64 by omega) (by omega)) dM_perform_113 ?_
    rw [nI_clamp (by omega)]
    rw [(hM.2.2.1 (16 * i + p) (by omega)).2.2.2.2]
    refine lv_ineg hx hb dM_perform_114 ?_
    refine lv_i2l hx hb dM_perform_115 rfl ?_
    refine then_v (run_V (n := 3) (As := [.int (nI (nt (sb σ (16 * i + p)))), .int (nI 12), .long ((-(sK σ (16 * i + p))).toInt64)]) (rest := []) C0 (ma_know hn hD2.1.1.1 hD2.1.1.2.1 hD2.2.1 hk2 (kl_learn_ok (by omega) hnb.2.1 (by omega) hok) (by omega) hnb.2.1 (by omega) (jn_id hnb.2.2) (show 12 = jn 3 from rfl) ((i64_i32 _).trans (by rw [i32_neg (by omega)])) (by omega)) gw750 gw747 gw749 gsM_know gw7 (by decide +kernel) ⟨Nat.le_of_ble_eq_true rfl, Nat.le_of_ble_eq_true rfl⟩ rfl rfl ⟨Nat.le_of_ble_eq_true rfl, Nat.le_of_ble_eq_true rfl⟩ hP hD2.1.1.1 hD2.2.1 rfl rfl rfl hl.1 rfl (Nat.le_of_ble_eq_true rfl) dM_perform_116) hS hA (fun f3 H locs hq116 hP hS => ?_)
    obtain ⟨ho4, hk4, hs4⟩ := hq116
    have hD4 : MD tys L f3 mo ap cm ad G th (kb (kl_learn (nt (sb σ (16 * i + p))) 3 (-(sK σ (16 * i + p)).toInt) (kl_learn 3 (nt (sb σ (16 * i + p))) (sK σ (16 * i + p)).toInt K)).1) me (nI i) le en sp ka kc mx se gc := hD2.upd2 ho4 (MnK.J hk4) hs4
    have hm4 := hm2.trans (Sm3.of2 hs4)
    refine lv_aload_n hx hb dM_perform_119 rfl (lv_at hl 4 rfl) ?_
    refine lv_iload hx hb dM_perform_120 (lv_at hl 2 rfl) ?_
    refine then_v (run_V (n := 1) (As := [.int (nI (nt (sa σ (16 * i + p))))]) (rest := []) C0 (ma_rename hn hD4.1.1.1 hD4.1.1.2.1 hD4.2.1 hk4 (kl_learn_ok hnb.2.1 (by omega) (by omega) (kl_learn_ok (a := 3) (by omega) hnb.2.1 (by omega) hok)) hna.2.1 hna.2.2) gw778 gw775 gw777 gsM_rename gw7 (by decide +kernel) ⟨Nat.le_of_ble_eq_true rfl, Nat.le_of_ble_eq_true rfl⟩ rfl rfl ⟨Nat.le_of_ble_eq_true rfl, Nat.le_of_ble_eq_true rfl⟩ hP hD4.1.1.1 hD4.2.1 rfl rfl rfl hl.1 rfl (Nat.le_of_ble_eq_true rfl) dM_perform_122) hS hA (fun f5 H locs hq122 hP hS => ?_)
    obtain ⟨ho7, hk7, hs7⟩ := hq122
    have hD7 : MD tys L f5 mo ap cm ad G th (kb (kl_learn (nt (sb σ (16 * i + p))) 3 (-(sK σ (16 * i + p)).toInt) (kl_learn 3 (nt (sb σ (16 * i + p))) (sK σ (16 * i + p)).toInt K)).1) me (nI i) le en sp ka kc mx se gc := hD4.upd2 ho7 (MnK.J hk7) hs7
    have hm7 := hm4.trans (Sm3.of2 hs7)
    have hE := kl_mgive (a := nt (sa σ (16 * i + p))) (k := (sK σ (16 * i + p)).toInt) hok hp1 h3 hnb.2.1 hna.2.2 hnb.2.2 (by omega)
    have hkr := hk7.ext hE
    have hDr : MD tys L f5 mo ap cm ad G th (kb (st_K σ i p K).1) me (nI i) le en sp ka kc mx se gc := by rw [show (st_K σ i p K).1 = (kl_forget 3 (kl_give (nt (sa σ (16 * i + p))) 3 0 (kl_learn (nt (sb σ (16 * i + p))) 3 (-(sK σ (16 * i + p)).toInt) (kl_learn 3 (nt (sb σ (16 * i + p))) (sK σ (16 * i + p)).toInt K)))).1 from by rw [st_K_0 w43_0]; exact hE.1.symm]; exact hD7
    refine lv_iload_n hx hb dM_perform_125 rfl (lv_at hl 5 rfl) ?_
    refine lv_iconst (v := nI 1) hx hb dM_perform_126 (by decide) ?_
    refine lv_iadd hx hb dM_perform_127 ?_
    rw [nI_add]
    have eK : m_K σ i p mask K = st_K σ i p K := if_neg (by rw [w43_0]; decide +kernel)
    have eM : m_me σ i p me = me := if_neg (by rw [w43_0]; decide +kernel)
    have eN : m_nx σ i p mask = nI (p + 1) := by unfold m_nx st_nx; rw [if_neg (by rw [w43_0]; decide +kernel), if_neg (by rw [w43_0]; decide +kernel)]
    have eL : n_lu le (nI p) (st_sh σ i p K) = le := by rw [st_sh_0 w43_0]; exact n_lu_t
    refine ret_i C0 hP hS ⟨eN.symm, ?_, ?_, hm7⟩ dM_perform_128
    · rw [eK, eM, eL]; exact hDr
    · rw [eK]; exact fun _ => by rw [st_K_0 w43_0]; exact hkr
  · skip
    by_cases w43_1 : (sk σ (16 * i + p)) = nI 1
    · refine lv_tableIn (tgt := 129) (off := 86) hx hb dM_perform_43 (by rw [w43_1]; decide +kernel) (by rw [w43_1]; decide +kernel) (by rw [w43_1]; decide +kernel) (by decide) ?_
      have hna := hst.2.1 (Or.inr (Or.inl w43_1))
      have hnb := hst.2.2.1 (Or.inr (Or.inl w43_1))
      have hnc := (hst.2.2.2.1 w43_1).1
      have hnk := (hst.2.2.2.1 w43_1).2
      rw [show a0 = nI (nt (sa σ (16 * i + p))) from ea0.trans hna.1] at hl
      rw [show b0 = nI (nt (sb σ (16 * i + p))) from eb0.trans hnb.1] at hl
      refine lv_aload_n hx hb dM_perform_129 rfl (lv_at hl 4 rfl) ?_
      refine lv_iload_n hx hb dM_perform_130 rfl (lv_at hl 5 rfl) ?_
      refine lv_iload_n hx hb dM_perform_131 rfl (lv_at hl 3 rfl) ?_
      refine then_v (run_V (n := 2) (As := [.int (nI p), .int (nI ((16 * i) + p))]) (rest := []) C0 (m_call hn (by omega) hna hnb hnc hnk hM hRl (by omega) hle hok hD hk) gw786 gw783 gw785 gsM_call gw7 (by decide +kernel) ⟨Nat.le_of_ble_eq_true rfl, Nat.le_of_ble_eq_true rfl⟩ rfl rfl ⟨Nat.le_of_ble_eq_true rfl, Nat.le_of_ble_eq_true rfl⟩ hP hD.1.1.1 hD.2.1 rfl rfl rfl hl.1 rfl (Nat.le_of_ble_eq_true rfl) dM_perform_132) hS hA (fun f8 H locs hq132 hP hS => ?_)
      obtain ⟨hDr, hkr, hsr⟩ := hq132
      refine lv_iload_n hx hb dM_perform_135 rfl (lv_at hl 5 rfl) ?_
      refine lv_iconst (v := nI 1) hx hb dM_perform_136 (by decide) ?_
      refine lv_iadd hx hb dM_perform_137 ?_
      rw [nI_add]
      have eK : m_K σ i p mask K = st_K σ i p K := if_neg (by rw [w43_1]; decide +kernel)
      have eM : m_me σ i p me = me := if_neg (by rw [w43_1]; decide +kernel)
      have eN : m_nx σ i p mask = nI (p + 1) := by unfold m_nx st_nx; rw [if_neg (by rw [w43_1]; decide +kernel), if_neg (by rw [w43_1]; decide +kernel)]
      have eL : n_lu le (nI p) (st_sh σ i p K) = n_lu le (nI p) (s_shw σ (2 * nt (sK σ (16 * i + p))) (nt (sb σ (16 * i + p))) (nt (sc σ (16 * i + p))) K) := by rw [st_sh_1 w43_1]
      refine ret_i C0 hP hS ⟨eN.symm, ?_, ?_, hsr⟩ dM_perform_138
      · rw [eK, eM, eL]; exact (by rw [st_K_1 w43_1]; exact hDr)
      · rw [eK]; exact fun z => by rw [st_K_1 w43_1] at z ⊢; exact hkr z
    · skip
      by_cases w43_2 : (sk σ (16 * i + p)) = nI 2
      · refine lv_tableIn (tgt := 139) (off := 96) hx hb dM_perform_43 (by rw [w43_2]; decide +kernel) (by rw [w43_2]; decide +kernel) (by rw [w43_2]; decide +kernel) (by decide) ?_
        have hna := hst.2.1 (Or.inr (Or.inr (Or.inr (Or.inl w43_2))))
        have hnb := hst.2.2.1 (Or.inr (Or.inr (Or.inl w43_2)))
        have hkk := hst.2.2.2.2 (Or.inr (Or.inl w43_2))
        rw [show a0 = nI (nt (sa σ (16 * i + p))) from ea0.trans hna.1] at hl
        rw [show b0 = nI (nt (sb σ (16 * i + p))) from eb0.trans hnb.1] at hl
        refine lv_aload_n hx hb dM_perform_139 rfl (lv_at hl 4 rfl) ?_
        refine lv_dup hx hb dM_perform_140 rfl ?_
        refine mm_get (v := .int me) hx hb hg inM hown hK hP hD.1.1.1 hD.2.1 rfl 19 (by decide) (hg _ gw612) (fun _ h9 => h9) rfl dM_perform_141 ?_
        refine lv_iconst (v := nI 1) hx hb dM_perform_144 (by decide) ?_
        refine lv_aload_n hx hb dM_perform_145 rfl (lv_at hl 4 rfl) ?_
        refine mm_get (v := .ref (ad 10)) hx hb hg inM hown hK hP hD.1.1.1 hD.2.1 rfl 11 (by decide) (hg _ gw604) (fun _ h9 => h9) rfl dM_perform_146 ?_
        refine lv_iload_n hx hb dM_perform_149 rfl (lv_at hl 3 rfl) ?_
        refine mm_iald hx hb hK hP (hD.1.2 10 (by decide)).1 (show mm_I tys f (ad 10) 64 (G 10) from (hD.1.2 10 (by decide)).2) (vp_in_nI (show (16 * i) + p < 64 by omega) (by omega)) dM_perform_150 ?_
        rw [nI_clamp (by omega)]
        rw [((hL p hpz).1 w43_2).1]
        refine lv_ishl hx hb dM_perform_151 ?_
        refine lv_ior hx hb dM_perform_152 ?_
        refine mm_put (v := .int (me ||| ((nI 1) <<< ((nI (nif σ i p)) &&& 31)))) (ty := .int) hx hb hg inM tyM tyM_ok nmM hown hK hn hA hP hS hD.1.1.1 (show f mo = .inr (6, [.int th, .ref (ad 0), .ref (ad 1), .ref (ad 2), .ref (ad 3), .ref (ad 4), .ref (ad 5), .ref (ad 6), .ref (ad 7), .ref (ad 8), .ref (ad 9), .ref (ad 10), .ref (ad 11), .ref (ad 12), .ref (ad 13), .ref (ad 14), .ref (ad 15), .ref ap, .int (kb K.1), .int me, .int (nI i), .int le, .int en, .ref cm, .int sp, .int ka, .int kc, .long mx, .int se]) from hD.2.1) rfl 19 (by decide) (hg _ gw612) (fun _ h9 => h9) rfl (by decide +kernel) rfl rfl (Nat.le_of_ble_eq_true rfl) dM_perform_153 (fun H locs hP hS => ?_)
        obtain ⟨f9, hf9⟩ : ∃ z, z = va_up f mo (.inr (6, [.int th, .ref (ad 0), .ref (ad 1), .ref (ad 2), .ref (ad 3), .ref (ad 4), .ref (ad 5), .ref (ad 6), .ref (ad 7), .ref (ad 8), .ref (ad 9), .ref (ad 10), .ref (ad 11), .ref (ad 12), .ref (ad 13), .ref (ad 14), .ref (ad 15), .ref ap, .int (kb K.1), .int (me ||| ((nI 1) <<< ((nI (nif σ i p)) &&& 31))), .int (nI i), .int le, .int en, .ref cm, .int sp, .int ka, .int kc, .long mx, .int se])) := ⟨_, rfl⟩
        have hP : va_P D zCl (va_pl L f9) H := by rw [hf9]; exact hP
        have hs10 : Same1 f f9 mo := fun z hz => by rw [hf9, va_up_ne _ _ hz]
        have hD10 : MD tys L f9 mo ap cm ad G th (kb K.1) (me ||| ((nI 1) <<< ((nI (nif σ i p)) &&& 31))) (nI i) le en sp ka kc mx se gc := hD.updO (by rw [hf9]; exact va_up_self _ _ _) hs10
        have hk10 := hD.keepO hk hs10
        have hm10 : Sm3 f _ mo ap cm := Sm3.ofO hs10
        refine lv_iload_n hx hb dM_perform_156 rfl (lv_at hl 6 rfl) ?_
        refine lv_aload_n hx hb dM_perform_157 rfl (lv_at hl 4 rfl) ?_
        refine mm_get (v := .ref (ad 10)) hx hb hg inM hown hK hP hD10.1.1.1 hD10.2.1 rfl 11 (by decide) (hg _ gw604) (fun _ h9 => h9) rfl dM_perform_158 ?_
        refine lv_iload_n hx hb dM_perform_161 rfl (lv_at hl 3 rfl) ?_
        refine mm_iald hx hb hK hP (hD10.1.2 10 (by decide)).1 (show mm_I tys f9 (ad 10) 64 (G 10) from (hD10.1.2 10 (by decide)).2) (vp_in_nI (show (16 * i) + p < 64 by omega) (by omega)) dM_perform_162 ?_
        rw [nI_clamp (by omega)]
        rw [((hL p hpz).1 w43_2).1]
        refine lv_ishr hx hb dM_perform_163 ?_
        refine lv_iconst (v := nI 1) hx hb dM_perform_164 (by decide) ?_
        refine lv_iand hx hb dM_perform_165 ?_
        refine lv_if_ne (tgt := 188) hx hb dM_perform_166 (by decide) (fun c166 => ?_) (fun c166 => ?_)
        · refine lv_aload_n hx hb dM_perform_188 rfl (lv_at hl 4 rfl) ?_
          refine lv_iload hx hb dM_perform_189 (lv_at hl 1 rfl) ?_
          refine lv_iload hx hb dM_perform_191 (lv_at hl 2 rfl) ?_
          refine lv_aload_n hx hb dM_perform_193 rfl (lv_at hl 4 rfl) ?_
          refine mm_get (v := .ref (ad 8)) hx hb hg inM hown hK hP hD10.1.1.1 hD10.2.1 rfl 9 (by decide) (hg _ gw602) (fun _ h9 => h9) rfl dM_perform_194 ?_
          refine lv_iload_n hx hb dM_perform_197 rfl (lv_at hl 3 rfl) ?_
          refine mm_iald hx hb hK hP (hD10.1.2 8 (by decide)).1 (show mm_I tys f9 (ad 8) 64 (G 8) from (hD10.1.2 8 (by decide)).2) (vp_in_nI (show (16 * i) + p < 64 by omega) (by omega)) dM_perform_198 ?_
          rw [nI_clamp (by omega)]
          rw [(hM.2.2.1 (16 * i + p) (by omega)).2.2.2.2]
          refine lv_ineg hx hb dM_perform_199 ?_
          refine lv_i2l hx hb dM_perform_200 rfl ?_
          refine lv_lconst (v := 1) hx hb dM_perform_201 (by decide) ?_
          refine lv_lsub hx hb dM_perform_202 ?_
          refine then_v (run_V (n := 3) (As := [.int (nI (nt (sb σ (16 * i + p)))), .int (nI (nt (sa σ (16 * i + p)))), .long (((-(sK σ (16 * i + p))).toInt64) - 1)]) (rest := []) C0 (ma_know hn hD10.1.1.1 hD10.1.1.2.1 hD10.2.1 hk10 hok (by omega) hnb.2.1 hna.2.1 (jn_id hnb.2.2) (jn_id hna.2.2) (i64_sub1 hkk) (by omega)) gw750 gw747 gw749 gsM_know gw7 (by decide +kernel) ⟨Nat.le_of_ble_eq_true rfl, Nat.le_of_ble_eq_true rfl⟩ rfl rfl ⟨Nat.le_of_ble_eq_true rfl, Nat.le_of_ble_eq_true rfl⟩ hP hD10.1.1.1 hD10.2.1 rfl rfl rfl hl.1 rfl (Nat.le_of_ble_eq_true rfl) dM_perform_203) hS hA (fun f11 H locs hq203 hP hS => ?_)
          obtain ⟨ho12, hk12, hs12⟩ := hq203
          have hD12 : MD tys L f11 mo ap cm ad G th (kb (kl_learn (nt (sb σ (16 * i + p))) (nt (sa σ (16 * i + p))) (-(sK σ (16 * i + p)).toInt - 1) K).1) (me ||| ((nI 1) <<< ((nI (nif σ i p)) &&& 31))) (nI i) le en sp ka kc mx se gc := hD10.upd2 ho12 (MnK.J hk12) hs12
          have hm12 := hm10.trans (Sm3.of2 hs12)
          refine lv_aload_n hx hb dM_perform_206 rfl (lv_at hl 4 rfl) ?_
          refine mm_get (v := .ref (ad 11)) hx hb hg inM hown hK hP hD12.1.1.1 hD12.2.1 rfl 12 (by decide) (hg _ gw605) (fun _ h9 => h9) rfl dM_perform_207 ?_
          refine lv_iload_n hx hb dM_perform_210 rfl (lv_at hl 3 rfl) ?_
          refine mm_iald hx hb hK hP (hD12.1.2 11 (by decide)).1 (show mm_I tys f11 (ad 11) 64 (G 11) from (hD12.1.2 11 (by decide)).2) (vp_in_nI (show (16 * i) + p < 64 by omega) (by omega)) dM_perform_211 ?_
          rw [nI_clamp (by omega)]
          refine lv_if_lt (tgt := 226) hx hb dM_perform_212 (by decide) (fun c212 => ?_) (fun c212 => ?_)
          · refine lv_aload_n hx hb dM_perform_226 rfl (lv_at hl 4 rfl) ?_
            refine mm_get (v := .ref (ad 12)) hx hb hg inM hown hK hP hD12.1.1.1 hD12.2.1 rfl 13 (by decide) (hg _ gw606) (fun _ h9 => h9) rfl dM_perform_227 ?_
            refine lv_iload_n hx hb dM_perform_230 rfl (lv_at hl 3 rfl) ?_
            refine mm_iald hx hb hK hP (hD12.1.2 12 (by decide)).1 (show mm_I tys f11 (ad 12) 64 (G 12) from (hD12.1.2 12 (by decide)).2) (vp_in_nI (show (16 * i) + p < 64 by omega) (by omega)) dM_perform_231 ?_
            rw [nI_clamp (by omega)]
            refine lv_if_lt (tgt := 244) hx hb dM_perform_232 (by decide) (fun c232 => ?_) (fun c232 => ?_)
            · refine lv_iload hx hb dM_perform_244 (lv_at hl 0 rfl) ?_
              have eK : m_K σ i p mask K = st_ot σ i p K := by unfold m_K; rw [if_pos w43_2, show (if m_bit σ i p mask = true then _ else _) = _ from if_neg (fun z => c166 (of_decide_eq_true z))]
              have eM : m_me σ i p me = me ||| (nI 1 <<< (nI (nif σ i p) &&& 31)) := if_pos w43_2
              have eN : m_nx σ i p mask = st_tg σ i p := by unfold m_nx; rw [if_pos w43_2, show (if m_bit σ i p mask = true then _ else _) = _ from if_neg (fun z => c166 (of_decide_eq_true z))]
              have eL : n_lu le (nI p) (st_sh σ i p K) = le := by rw [st_sh_2 w43_2]; exact n_lu_t
              have eT : (nI (sz σ i)) = st_tg σ i p := by rw [← ((hL p hpz).1 w43_2).2]; exact (show m_tg2 G σ i p = _ from by unfold m_tg2; rw [if_pos c212, if_pos c232]).symm
              refine ret_i C0 hP hS ⟨(eT.trans eN.symm), ?_, ?_, hm12⟩ dM_perform_246
              · rw [eK, eM, eL]; exact (by unfold st_ot; exact hD12)
              · rw [eK]; exact fun _ => by unfold st_ot; exact hk12
            · refine lv_aload_n hx hb dM_perform_235 rfl (lv_at hl 4 rfl) ?_
              refine mm_get (v := .ref (ad 12)) hx hb hg inM hown hK hP hD12.1.1.1 hD12.2.1 rfl 13 (by decide) (hg _ gw606) (fun _ h9 => h9) rfl dM_perform_236 ?_
              refine lv_iload_n hx hb dM_perform_239 rfl (lv_at hl 3 rfl) ?_
              refine mm_iald hx hb hK hP (hD12.1.2 12 (by decide)).1 (show mm_I tys f11 (ad 12) 64 (G 12) from (hD12.1.2 12 (by decide)).2) (vp_in_nI (show (16 * i) + p < 64 by omega) (by omega)) dM_perform_240 ?_
              rw [nI_clamp (by omega)]
              refine lv_goto (tgt := 246) hx hb dM_perform_241 (by decide) ?_
              have eK : m_K σ i p mask K = st_ot σ i p K := by unfold m_K; rw [if_pos w43_2, show (if m_bit σ i p mask = true then _ else _) = _ from if_neg (fun z => c166 (of_decide_eq_true z))]
              have eM : m_me σ i p me = me ||| (nI 1 <<< (nI (nif σ i p) &&& 31)) := if_pos w43_2
              have eN : m_nx σ i p mask = st_tg σ i p := by unfold m_nx; rw [if_pos w43_2, show (if m_bit σ i p mask = true then _ else _) = _ from if_neg (fun z => c166 (of_decide_eq_true z))]
              have eL : n_lu le (nI p) (st_sh σ i p K) = le := by rw [st_sh_2 w43_2]; exact n_lu_t
              have eT : ((G 12) ((16 * i) + p)) = st_tg σ i p := by rw [← ((hL p hpz).1 w43_2).2]; exact (show m_tg2 G σ i p = _ from by unfold m_tg2; rw [if_pos c212, if_neg c232]).symm
              refine ret_i C0 hP hS ⟨(eT.trans eN.symm), ?_, ?_, hm12⟩ dM_perform_246
              · rw [eK, eM, eL]; exact (by unfold st_ot; exact hD12)
              · rw [eK]; exact fun _ => by unfold st_ot; exact hk12
          · refine lv_aload_n hx hb dM_perform_215 rfl (lv_at hl 4 rfl) ?_
            refine mm_get (v := .ref (ad 11)) hx hb hg inM hown hK hP hD12.1.1.1 hD12.2.1 rfl 12 (by decide) (hg _ gw605) (fun _ h9 => h9) rfl dM_perform_216 ?_
            refine lv_iload_n hx hb dM_perform_219 rfl (lv_at hl 3 rfl) ?_
            refine mm_iald hx hb hK hP (hD12.1.2 11 (by decide)).1 (show mm_I tys f11 (ad 11) 64 (G 11) from (hD12.1.2 11 (by decide)).2) (vp_in_nI (show (16 * i) + p < 64 by omega) (by omega)) dM_perform_220 ?_
            rw [nI_clamp (by omega)]
            refine lv_iconst (v := nI 1) hx hb dM_perform_221 (by decide) ?_
            refine lv_iadd hx hb dM_perform_222 ?_
            refine lv_goto (tgt := 246) hx hb dM_perform_223 (by decide) ?_
            have eK : m_K σ i p mask K = st_ot σ i p K := by unfold m_K; rw [if_pos w43_2, show (if m_bit σ i p mask = true then _ else _) = _ from if_neg (fun z => c166 (of_decide_eq_true z))]
            have eM : m_me σ i p me = me ||| (nI 1 <<< (nI (nif σ i p) &&& 31)) := if_pos w43_2
            have eN : m_nx σ i p mask = st_tg σ i p := by unfold m_nx; rw [if_pos w43_2, show (if m_bit σ i p mask = true then _ else _) = _ from if_neg (fun z => c166 (of_decide_eq_true z))]
            have eL : n_lu le (nI p) (st_sh σ i p K) = le := by rw [st_sh_2 w43_2]; exact n_lu_t
            have eT : (((G 11) ((16 * i) + p)) + (nI 1)) = st_tg σ i p := by rw [← ((hL p hpz).1 w43_2).2]; exact (show m_tg2 G σ i p = _ from by unfold m_tg2; rw [if_neg c212]).symm
            refine ret_i C0 hP hS ⟨(eT.trans eN.symm), ?_, ?_, hm12⟩ dM_perform_246
            · rw [eK, eM, eL]; exact (by unfold st_ot; exact hD12)
            · rw [eK]; exact fun _ => by unfold st_ot; exact hk12
        · refine lv_aload_n hx hb dM_perform_169 rfl (lv_at hl 4 rfl) ?_
          refine lv_iload hx hb dM_perform_170 (lv_at hl 2 rfl) ?_
          refine lv_iload hx hb dM_perform_172 (lv_at hl 1 rfl) ?_
          refine lv_aload_n hx hb dM_perform_174 rfl (lv_at hl 4 rfl) ?_
          refine mm_get (v := .ref (ad 8)) hx hb hg inM hown hK hP hD10.1.1.1 hD10.2.1 rfl 9 (by decide) (hg _ gw602) (fun _ h9 => h9) rfl dM_perform_175 ?_
          refine lv_iload_n hx hb dM_perform_178 rfl (lv_at hl 3 rfl) ?_
          refine mm_iald hx hb hK hP (hD10.1.2 8 (by decide)).1 (show mm_I tys f9 (ad 8) 64 (G 8) from (hD10.1.2 8 (by decide)).2) (vp_in_nI (show (16 * i) + p < 64 by omega) (by omega)) dM_perform_179 ?_
          rw [nI_clamp (by omega)]
          rw [(hM.2.2.1 (16 * i + p) (by omega)).2.2.2.2]
          refine lv_i2l hx hb dM_perform_180 rfl ?_
          refine then_v (run_V (n := 3) (As := [.int (nI (nt (sa σ (16 * i + p)))), .int (nI (nt (sb σ (16 * i + p)))), .long ((sK σ (16 * i + p)).toInt64)]) (rest := []) C0 (ma_know hn hD10.1.1.1 hD10.1.1.2.1 hD10.2.1 hk10 hok (by omega) hna.2.1 hnb.2.1 (jn_id hna.2.2) (jn_id hnb.2.2) (i64_i32 _) (by omega)) gw750 gw747 gw749 gsM_know gw7 (by decide +kernel) ⟨Nat.le_of_ble_eq_true rfl, Nat.le_of_ble_eq_true rfl⟩ rfl rfl ⟨Nat.le_of_ble_eq_true rfl, Nat.le_of_ble_eq_true rfl⟩ hP hD10.1.1.1 hD10.2.1 rfl rfl rfl hl.1 rfl (Nat.le_of_ble_eq_true rfl) dM_perform_181) hS hA (fun f13 H locs hq181 hP hS => ?_)
          obtain ⟨ho14, hk14, hs14⟩ := hq181
          have hD14 : MD tys L f13 mo ap cm ad G th (kb (kl_learn (nt (sa σ (16 * i + p))) (nt (sb σ (16 * i + p))) (sK σ (16 * i + p)).toInt K).1) (me ||| ((nI 1) <<< ((nI (nif σ i p)) &&& 31))) (nI i) le en sp ka kc mx se gc := hD10.upd2 ho14 (MnK.J hk14) hs14
          have hm14 := hm10.trans (Sm3.of2 hs14)
          refine lv_iload_n hx hb dM_perform_184 rfl (lv_at hl 5 rfl) ?_
          refine lv_iconst (v := nI 1) hx hb dM_perform_185 (by decide) ?_
          refine lv_iadd hx hb dM_perform_186 ?_
          rw [nI_add]
          have eK : m_K σ i p mask K = st_K σ i p K := by unfold m_K; rw [if_pos w43_2, show (if m_bit σ i p mask = true then _ else _) = _ from if_pos (decide_eq_true c166)]
          have eM : m_me σ i p me = me ||| (nI 1 <<< (nI (nif σ i p) &&& 31)) := if_pos w43_2
          have eN : m_nx σ i p mask = nI (p + 1) := by unfold m_nx; rw [if_pos w43_2, show (if m_bit σ i p mask = true then _ else _) = _ from if_pos (decide_eq_true c166)]
          have eL : n_lu le (nI p) (st_sh σ i p K) = le := by rw [st_sh_2 w43_2]; exact n_lu_t
          refine ret_i C0 hP hS ⟨eN.symm, ?_, ?_, hm14⟩ dM_perform_187
          · rw [eK, eM, eL]; exact (by rw [st_K_2 w43_2]; exact hD14)
          · rw [eK]; exact fun _ => by rw [st_K_2 w43_2]; exact hk14
      · skip
        by_cases w43_3 : (sk σ (16 * i + p)) = nI 3
        · refine lv_tableIn (tgt := 247) (off := 204) hx hb dM_perform_43 (by rw [w43_3]; decide +kernel) (by rw [w43_3]; decide +kernel) (by rw [w43_3]; decide +kernel) (by decide) ?_
          refine lv_bipush (v := nI 16) hx hb dM_perform_247 (by decide) ?_
          refine lv_aload_n hx hb dM_perform_249 rfl (lv_at hl 4 rfl) ?_
          refine mm_get (v := .int (nI i)) hx hb hg inM hown hK hP hD.1.1.1 hD.2.1 rfl 20 (by decide) (hg _ gw613) (fun _ h9 => h9) rfl dM_perform_250 ?_
          refine lv_imul hx hb dM_perform_253 ?_
          rw [pk_mul]
          refine lv_istore (lv' := [(7, .int (nI (16 * i))), (6, .int (nI (sz σ i))), (5, .int b0), (4, .int a0), (3, .int (nI ((16 * i) + p))), (0, .ref mo), (1, .int (nI p)), (2, .int mask)]) hx hb dM_perform_254 hl (by decide) rfl (fun ls hl => ?_)
          have eK : m_K σ i p mask K = K := by unfold m_K; rw [if_neg (by rw [w43_3]; decide +kernel), st_K_3 w43_3]
          have eM : m_me σ i p me = me := if_neg (by rw [w43_3]; decide +kernel)
          have eN : m_nx σ i p mask = st_tg σ i p := by unfold m_nx st_nx; rw [if_neg (by rw [w43_3]; decide +kernel), if_pos w43_3]
          have eL : n_lu le (nI p) (st_sh σ i p K) = le := by rw [st_sh_3 w43_3]; exact n_lu_t
          refine m_else_loop C0 hn hi4 hp hM hD p 0 (by omega) ?_ H _ ls hP hS (lv_sub hl [0, 5, 6, 4, 1] rfl)
          refine ⟨((hL p hpz).2 w43_3).trans eN.symm, ?_, ?_, Sm3.rfl2⟩
          · rw [eK, eM, eL]; exact hD
          · rw [eK]; exact fun _ => hk
        · skip
          by_cases w43_4 : (sk σ (16 * i + p)) = nI 4
          · refine lv_tableIn (tgt := 368) (off := 325) hx hb dM_perform_43 (by rw [w43_4]; decide +kernel) (by rw [w43_4]; decide +kernel) (by rw [w43_4]; decide +kernel) (by decide) ?_
            refine lv_iload_n hx hb dM_perform_368 rfl (lv_at hl 5 rfl) ?_
            refine lv_iconst (v := nI 1) hx hb dM_perform_369 (by decide) ?_
            refine lv_iadd hx hb dM_perform_370 ?_
            rw [nI_add]
            have eK : m_K σ i p mask K = st_K σ i p K := if_neg (by rw [w43_4]; decide +kernel)
            have eM : m_me σ i p me = me := if_neg (by rw [w43_4]; decide +kernel)
            have eN : m_nx σ i p mask = nI (p + 1) := by unfold m_nx st_nx; rw [if_neg (by rw [w43_4]; decide +kernel), if_neg (by rw [w43_4]; decide +kernel)]
            have eL : n_lu le (nI p) (st_sh σ i p K) = le := by rw [st_sh_4 w43_4]; exact n_lu_t
            refine ret_i C0 hP hS ⟨eN.symm, ?_, ?_, Sm3.rfl2⟩ dM_perform_371
            · rw [eK, eM, eL]; exact (by rw [st_K_4 w43_4]; exact hD)
            · rw [eK]; exact fun _ => by rw [st_K_4 w43_4]; exact hk
          · skip
            by_cases w43_5 : (sk σ (16 * i + p)) = nI 5
            · refine lv_tableIn (tgt := 316) (off := 273) hx hb dM_perform_43 (by rw [w43_5]; decide +kernel) (by rw [w43_5]; decide +kernel) (by rw [w43_5]; decide +kernel) (by decide) ?_
              have hna := hst.2.1 (Or.inr (Or.inr (Or.inr (Or.inr w43_5))))
              have hnb := hst.2.2.1 (Or.inr (Or.inr (Or.inr (Or.inl w43_5))))
              have hkk := hst.2.2.2.2 (Or.inr (Or.inr (Or.inl w43_5)))
              rw [show a0 = nI (nt (sa σ (16 * i + p))) from ea0.trans hna.1] at hl
              rw [show b0 = nI (nt (sb σ (16 * i + p))) from eb0.trans hnb.1] at hl
              refine lv_aload_n hx hb dM_perform_316 rfl (lv_at hl 4 rfl) ?_
              refine lv_iload hx hb dM_perform_317 (lv_at hl 2 rfl) ?_
              refine lv_iload hx hb dM_perform_319 (lv_at hl 1 rfl) ?_
              refine lv_aload_n hx hb dM_perform_321 rfl (lv_at hl 4 rfl) ?_
              refine mm_get (v := .ref (ad 8)) hx hb hg inM hown hK hP hD.1.1.1 hD.2.1 rfl 9 (by decide) (hg _ gw602) (fun _ h9 => h9) rfl dM_perform_322 ?_
              refine lv_iload_n hx hb dM_perform_325 rfl (lv_at hl 3 rfl) ?_
              refine mm_iald hx hb hK hP (hD.1.2 8 (by decide)).1 (show mm_I tys f (ad 8) 64 (G 8) from (hD.1.2 8 (by decide)).2) (vp_in_nI (show (16 * i) + p < 64 by omega) (by omega)) dM_perform_326 ?_
              rw [nI_clamp (by omega)]
              rw [(hM.2.2.1 (16 * i + p) (by omega)).2.2.2.2]
              refine lv_i2l hx hb dM_perform_327 rfl ?_
              refine then_i (run_V (n := 3) (As := [.int (nI (nt (sa σ (16 * i + p)))), .int (nI (nt (sb σ (16 * i + p)))), .long ((sK σ (16 * i + p)).toInt64)]) (rest := []) C0 (ma_shows hn hD.1.1.1 hD.1.1.2.1 hD.2.1 hk hok (by omega) hna.2.1 hnb.2.1 (jn_id hna.2.2) (jn_id hnb.2.2) (i64_i32 _) (by omega)) gw766 gw763 gw765 gsM_shows gw7 (by decide +kernel) ⟨Nat.le_of_ble_eq_true rfl, Nat.le_of_ble_eq_true rfl⟩ rfl rfl ⟨Nat.le_of_ble_eq_true rfl, Nat.le_of_ble_eq_true rfl⟩ hP hD.1.1.1 hD.2.1 rfl rfl rfl hl.1 rfl (Nat.le_of_ble_eq_true rfl) dM_perform_328) hS hA (fun r16 f15 H locs hq328 hP hS => ?_)
              obtain ⟨er16, ef15⟩ := hq328
              subst er16
              rw [ef15] at hP
              refine lv_if_ne (tgt := 339) hx hb dM_perform_331 (by decide) (fun c331 => ?_) (fun c331 => ?_)
              · have c331 : (kl_le (K.2 (nt (sa σ (16 * i + p))) (nt (sb σ (16 * i + p)))) (sK σ (16 * i + p)).toInt) = true := kb_t.mp c331
                refine lv_aload_n hx hb dM_perform_339 rfl (lv_at hl 4 rfl) ?_
                refine lv_iload hx hb dM_perform_340 (lv_at hl 2 rfl) ?_
                refine lv_iload hx hb dM_perform_342 (lv_at hl 1 rfl) ?_
                refine lv_aload_n hx hb dM_perform_344 rfl (lv_at hl 4 rfl) ?_
                refine mm_get (v := .ref (ad 8)) hx hb hg inM hown hK hP hD.1.1.1 hD.2.1 rfl 9 (by decide) (hg _ gw602) (fun _ h9 => h9) rfl dM_perform_345 ?_
                refine lv_iload_n hx hb dM_perform_348 rfl (lv_at hl 3 rfl) ?_
                refine mm_iald hx hb hK hP (hD.1.2 8 (by decide)).1 (show mm_I tys f (ad 8) 64 (G 8) from (hD.1.2 8 (by decide)).2) (vp_in_nI (show (16 * i) + p < 64 by omega) (by omega)) dM_perform_349 ?_
                rw [nI_clamp (by omega)]
                rw [(hM.2.2.1 (16 * i + p) (by omega)).2.2.2.2]
                refine lv_i2l hx hb dM_perform_350 rfl ?_
                refine then_v (run_V (n := 3) (As := [.int (nI (nt (sa σ (16 * i + p)))), .int (nI (nt (sb σ (16 * i + p)))), .long ((sK σ (16 * i + p)).toInt64)]) (rest := []) C0 (ma_know hn hD.1.1.1 hD.1.1.2.1 hD.2.1 hk hok (by omega) hna.2.1 hnb.2.1 (jn_id hna.2.2) (jn_id hnb.2.2) (i64_i32 _) (by omega)) gw750 gw747 gw749 gsM_know gw7 (by decide +kernel) ⟨Nat.le_of_ble_eq_true rfl, Nat.le_of_ble_eq_true rfl⟩ rfl rfl ⟨Nat.le_of_ble_eq_true rfl, Nat.le_of_ble_eq_true rfl⟩ hP hD.1.1.1 hD.2.1 rfl rfl rfl hl.1 rfl (Nat.le_of_ble_eq_true rfl) dM_perform_351) hS hA (fun f17 H locs hq351 hP hS => ?_)
                obtain ⟨ho18, hk18, hs18⟩ := hq351
                have hD18 : MD tys L f17 mo ap cm ad G th (kb (kl_learn (nt (sa σ (16 * i + p))) (nt (sb σ (16 * i + p))) (sK σ (16 * i + p)).toInt K).1) me (nI i) le en sp ka kc mx se gc := hD.upd2 ho18 (MnK.J hk18) hs18
                have hm18 : Sm3 f _ mo ap cm := Sm3.of2 hs18
                refine lv_iload_n hx hb dM_perform_354 rfl (lv_at hl 5 rfl) ?_
                refine lv_iconst (v := nI 1) hx hb dM_perform_355 (by decide) ?_
                refine lv_iadd hx hb dM_perform_356 ?_
                rw [nI_add]
                have eK : m_K σ i p mask K = st_K σ i p K := if_neg (by rw [w43_5]; decide +kernel)
                have eM : m_me σ i p me = me := if_neg (by rw [w43_5]; decide +kernel)
                have eN : m_nx σ i p mask = nI (p + 1) := by unfold m_nx st_nx; rw [if_neg (by rw [w43_5]; decide +kernel), if_neg (by rw [w43_5]; decide +kernel)]
                have eL : n_lu le (nI p) (st_sh σ i p K) = le := by rw [st_sh_5 w43_5, c331]; exact n_lu_t
                refine ret_i C0 hP hS ⟨eN.symm, ?_, ?_, hm18⟩ dM_perform_357
                · rw [eK, eM, eL]; exact (by rw [st_K_5 w43_5]; exact hD18)
                · rw [eK]; exact fun _ => by rw [st_K_5 w43_5]; exact hk18
              · have c331 : (kl_le (K.2 (nt (sa σ (16 * i + p))) (nt (sb σ (16 * i + p)))) (sK σ (16 * i + p)).toInt) = false := kb_0.mp c331
                refine lv_aload_n hx hb dM_perform_334 rfl (lv_at hl 4 rfl) ?_
                refine lv_iload_n hx hb dM_perform_335 rfl (lv_at hl 5 rfl) ?_
                refine then_v (run_V (n := 1) (As := [.int (nI p)]) (rest := []) C0 (m_blame hn hle hD) gw770 gw767 gw769 gsM_blame gw7 (by decide +kernel) ⟨Nat.le_of_ble_eq_true rfl, Nat.le_of_ble_eq_true rfl⟩ rfl rfl ⟨Nat.le_of_ble_eq_true rfl, Nat.le_of_ble_eq_true rfl⟩ hP hD.1.1.1 hD.2.1 rfl rfl rfl hl.1 rfl (Nat.le_of_ble_eq_true rfl) dM_perform_336) hS hA (fun f19 H locs hq336 hP hS => ?_)
                obtain ⟨hD20, hs20⟩ := hq336
                have hk20 := hD.keepO hk hs20
                have hm20 : Sm3 f _ mo ap cm := Sm3.ofO hs20
                refine lv_aload_n hx hb dM_perform_339 rfl (lv_at hl 4 rfl) ?_
                refine lv_iload hx hb dM_perform_340 (lv_at hl 2 rfl) ?_
                refine lv_iload hx hb dM_perform_342 (lv_at hl 1 rfl) ?_
                refine lv_aload_n hx hb dM_perform_344 rfl (lv_at hl 4 rfl) ?_
                refine mm_get (v := .ref (ad 8)) hx hb hg inM hown hK hP hD20.1.1.1 hD20.2.1 rfl 9 (by decide) (hg _ gw602) (fun _ h9 => h9) rfl dM_perform_345 ?_
                refine lv_iload_n hx hb dM_perform_348 rfl (lv_at hl 3 rfl) ?_
                refine mm_iald hx hb hK hP (hD20.1.2 8 (by decide)).1 (show mm_I tys f19 (ad 8) 64 (G 8) from (hD20.1.2 8 (by decide)).2) (vp_in_nI (show (16 * i) + p < 64 by omega) (by omega)) dM_perform_349 ?_
                rw [nI_clamp (by omega)]
                rw [(hM.2.2.1 (16 * i + p) (by omega)).2.2.2.2]
                refine lv_i2l hx hb dM_perform_350 rfl ?_
                refine then_v (run_V (n := 3) (As := [.int (nI (nt (sa σ (16 * i + p)))), .int (nI (nt (sb σ (16 * i + p)))), .long ((sK σ (16 * i + p)).toInt64)]) (rest := []) C0 (ma_know hn hD20.1.1.1 hD20.1.1.2.1 hD20.2.1 hk20 hok (by omega) hna.2.1 hnb.2.1 (jn_id hna.2.2) (jn_id hnb.2.2) (i64_i32 _) (by omega)) gw750 gw747 gw749 gsM_know gw7 (by decide +kernel) ⟨Nat.le_of_ble_eq_true rfl, Nat.le_of_ble_eq_true rfl⟩ rfl rfl ⟨Nat.le_of_ble_eq_true rfl, Nat.le_of_ble_eq_true rfl⟩ hP hD20.1.1.1 hD20.2.1 rfl rfl rfl hl.1 rfl (Nat.le_of_ble_eq_true rfl) dM_perform_351) hS hA (fun f21 H locs hq351 hP hS => ?_)
                obtain ⟨ho22, hk22, hs22⟩ := hq351
                have hD22 : MD tys L f21 mo ap cm ad G th (kb (kl_learn (nt (sa σ (16 * i + p))) (nt (sb σ (16 * i + p))) (sK σ (16 * i + p)).toInt K).1) me (nI i) (n_lu le (nI p) false) en sp ka kc mx se gc := hD20.upd2 ho22 (MnK.J hk22) hs22
                have hm22 := hm20.trans (Sm3.of2 hs22)
                refine lv_iload_n hx hb dM_perform_354 rfl (lv_at hl 5 rfl) ?_
                refine lv_iconst (v := nI 1) hx hb dM_perform_355 (by decide) ?_
                refine lv_iadd hx hb dM_perform_356 ?_
                rw [nI_add]
                have eK : m_K σ i p mask K = st_K σ i p K := if_neg (by rw [w43_5]; decide +kernel)
                have eM : m_me σ i p me = me := if_neg (by rw [w43_5]; decide +kernel)
                have eN : m_nx σ i p mask = nI (p + 1) := by unfold m_nx st_nx; rw [if_neg (by rw [w43_5]; decide +kernel), if_neg (by rw [w43_5]; decide +kernel)]
                have eL : n_lu le (nI p) (st_sh σ i p K) = (n_lu le (nI p) false) := by rw [st_sh_5 w43_5, c331]
                refine ret_i C0 hP hS ⟨eN.symm, ?_, ?_, hm22⟩ dM_perform_357
                · rw [eK, eM, eL]; exact (by rw [st_K_5 w43_5]; exact hD22)
                · rw [eK]; exact fun _ => by rw [st_K_5 w43_5]; exact hk22
            · skip
              by_cases w43_6 : (sk σ (16 * i + p)) = nI 6
              · refine lv_tableIn (tgt := 368) (off := 325) hx hb dM_perform_43 (by rw [w43_6]; decide +kernel) (by rw [w43_6]; decide +kernel) (by rw [w43_6]; decide +kernel) (by decide) ?_
                exact absurd w43_6 h6
              · skip
                by_cases w43_7 : (sk σ (16 * i + p)) = nI 7
                · refine lv_tableIn (tgt := 358) (off := 315) hx hb dM_perform_43 (by rw [w43_7]; decide +kernel) (by rw [w43_7]; decide +kernel) (by rw [w43_7]; decide +kernel) (by decide) ?_
                  have hna := hst.2.1 (Or.inr (Or.inr (Or.inl w43_7)))
                  rw [show a0 = nI (nt (sa σ (16 * i + p))) from ea0.trans hna.1] at hl
                  refine lv_aload_n hx hb dM_perform_358 rfl (lv_at hl 4 rfl) ?_
                  refine lv_iload hx hb dM_perform_359 (lv_at hl 2 rfl) ?_
                  refine then_v (run_V (n := 1) (As := [.int (nI (nt (sa σ (16 * i + p))))]) (rest := []) C0 (ma_forget hn hD.1.1.1 hD.1.1.2.1 hD.2.1 hk hok hna.2.1 (jn_id hna.2.2)) gw782 gw779 gw781 gsM_forget gw7 (by decide +kernel) ⟨Nat.le_of_ble_eq_true rfl, Nat.le_of_ble_eq_true rfl⟩ rfl rfl ⟨Nat.le_of_ble_eq_true rfl, Nat.le_of_ble_eq_true rfl⟩ hP hD.1.1.1 hD.2.1 rfl rfl rfl hl.1 rfl (Nat.le_of_ble_eq_true rfl) dM_perform_361) hS hA (fun f23 H locs hq361 hP hS => ?_)
                  obtain ⟨ho24, hk24, hs24⟩ := hq361
                  have hD24 : MD tys L f23 mo ap cm ad G th (kb (kl_forget (nt (sa σ (16 * i + p))) K).1) me (nI i) le en sp ka kc mx se gc := hD.upd2 ho24 (MnK.J hk24) hs24
                  have hm24 : Sm3 f _ mo ap cm := Sm3.of2 hs24
                  refine lv_iload_n hx hb dM_perform_364 rfl (lv_at hl 5 rfl) ?_
                  refine lv_iconst (v := nI 1) hx hb dM_perform_365 (by decide) ?_
                  refine lv_iadd hx hb dM_perform_366 ?_
                  rw [nI_add]
                  have eK : m_K σ i p mask K = st_K σ i p K := if_neg (by rw [w43_7]; decide +kernel)
                  have eM : m_me σ i p me = me := if_neg (by rw [w43_7]; decide +kernel)
                  have eN : m_nx σ i p mask = nI (p + 1) := by unfold m_nx st_nx; rw [if_neg (by rw [w43_7]; decide +kernel), if_neg (by rw [w43_7]; decide +kernel)]
                  have eL : n_lu le (nI p) (st_sh σ i p K) = le := by rw [st_sh_7 w43_7]; exact n_lu_t
                  refine ret_i C0 hP hS ⟨eN.symm, ?_, ?_, hm24⟩ dM_perform_367
                  · rw [eK, eM, eL]; exact (by rw [st_K_7 w43_7]; exact hD24)
                  · rw [eK]; exact fun _ => by rw [st_K_7 w43_7]; exact hk24
                · skip
                  refine lv_tableOut (tgt := 368) hx hb dM_perform_43 (by
                    have z0 : (sk σ (16 * i + p)).toInt ≠ 0 := fun e => w43_0 (Int32.toInt_inj.mp (e.trans (by decide +kernel)))
                    have z1 : (sk σ (16 * i + p)).toInt ≠ 1 := fun e => w43_1 (Int32.toInt_inj.mp (e.trans (by decide +kernel)))
                    have z2 : (sk σ (16 * i + p)).toInt ≠ 2 := fun e => w43_2 (Int32.toInt_inj.mp (e.trans (by decide +kernel)))
                    have z3 : (sk σ (16 * i + p)).toInt ≠ 3 := fun e => w43_3 (Int32.toInt_inj.mp (e.trans (by decide +kernel)))
                    have z4 : (sk σ (16 * i + p)).toInt ≠ 4 := fun e => w43_4 (Int32.toInt_inj.mp (e.trans (by decide +kernel)))
                    have z5 : (sk σ (16 * i + p)).toInt ≠ 5 := fun e => w43_5 (Int32.toInt_inj.mp (e.trans (by decide +kernel)))
                    have z6 : (sk σ (16 * i + p)).toInt ≠ 6 := fun e => w43_6 (Int32.toInt_inj.mp (e.trans (by decide +kernel)))
                    have z7 : (sk σ (16 * i + p)).toInt ≠ 7 := fun e => w43_7 (Int32.toInt_inj.mp (e.trans (by decide +kernel)))
                    omega) (by decide) ?_
                  obtain ⟨n, hn8, hn9⟩ := hst.1
                  exfalso
                  rcases (show n = 0 ∨ n = 1 ∨ n = 2 ∨ n = 3 ∨ n = 4 ∨ n = 5 ∨ n = 6 ∨ n = 7 by omega) with e | e | e | e | e | e | e | e <;> rw [e] at hn9
                  · exact w43_0 hn9
                  · exact w43_1 hn9
                  · exact w43_2 hn9
                  · exact w43_3 hn9
                  · exact w43_4 hn9
                  · exact w43_5 hn9
                  · exact w43_6 hn9
                  · exact w43_7 hn9
