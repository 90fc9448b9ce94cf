/-! LiquidCheckerModel.walk and explore. -/
abbrev MC : Type := Int32 × Int32 × Nat × kl_K × (Nat → Int32) × Int64 × Int32
abbrev MC.me (u : MC) : Int32 := u.1
abbrev MC.le (u : MC) : Int32 := u.2.1
abbrev MC.en (u : MC) : Nat := u.2.2.1
abbrev MC.K (u : MC) : kl_K := u.2.2.2.1
abbrev MC.gc (u : MC) : Nat → Int32 := u.2.2.2.2.1
abbrev MC.mx (u : MC) : Int64 := u.2.2.2.2.2.1
abbrev MC.se (u : MC) : Int32 := u.2.2.2.2.2.2
def m_come (sp : Int32) (ka kc p : Nat) (u : MC) : MC := (u.me, u.le, u.en, u.K, upd u.gc p (nI 1), m_mx sp p u.se u.mx (encL (u.K.2 ka kc)), m_se sp p u.se)
def m_fin (σ : Sg) (i p : Nat) (mask : Int32) (b : Nat) (k : Int) (u : MC) : MC := (u.me, n_lu u.le (nI p) (s_shw σ (2 * i + 1) 1 2 (kl_give 3 b k u.K)), (if mask &&& (u.me ^^^ -1) = 0 then u.en + 1 else u.en), kl_give 3 b k u.K, u.gc, u.mx, u.se)
def m_go (σ : Sg) (i p : Nat) (mask : Int32) (u : MC) : MC := (m_me σ i p u.me, n_lu u.le (nI p) (st_sh σ i p u.K), u.en, m_K σ i p mask u.K, u.gc, u.mx, u.se)
def m_step (σ : Sg) (i : Nat) (mask sp : Int32) (ka kc p : Nat) (u : MC) : Option Nat × MC :=
  if sz σ i = p then (none, m_fin σ i p mask 0 0 (m_come sp ka kc p u))
  else if sk σ (16 * i + p) = nI 6 then (none, m_fin σ i p mask (nt (sb σ (16 * i + p))) (sK σ (16 * i + p)).toInt (m_come sp ka kc p u))
  else (if (m_K σ i p mask u.K).1 = true then deP (m_nx σ i p mask) else none, m_go σ i p mask (m_come sp ka kc p u))
def m_run (σ : Sg) (i : Nat) (mask sp : Int32) (ka kc : Nat) : Nat → Option Nat → MC → MC
  | 0, _, u => u
  | _ + 1, none, u => u
  | n + 1, some p, u => m_run σ i mask sp ka kc n (m_step σ i mask sp ka kc p u).1 (m_step σ i mask sp ka kc p u).2
def m_o (p : Nat) (u : MC) : Option Nat := if u.K.1 = true then some p else none
def m_w0 (σ : Sg) (i : Nat) (u : MC) : MC := (nI 0, u.le, u.en, th_K σ i, u.gc, u.mx, u.se)
def m_walk (σ : Sg) (i : Nat) (sp : Int32) (ka kc mask : Nat) (u : MC) : MC := m_run σ i (nI mask) sp ka kc 17 (th_o σ i) (m_w0 σ i u)
def MDc (tys : List (ClassId × FieldType)) (L : List Nat) (f : Nat → va_E) (mo ap cm : Nat) (ad : Nat → Nat) (G : Nat → Nat → Int32) (th : Int32) (i : Nat) (sp : Int32) (ka kc : Nat) (u : MC) : Prop := MD tys L f mo ap cm ad G th (kb u.K.1) u.me (nI i) u.le (nI u.en) sp (nI ka) (nI kc) u.mx u.se u.gc ∧ (u.K.1 = true → MnK tys f ap u.K)
theorem m_nx_cases {σ : Sg} {i p : Nat} {mask : Int32} (hf : FnOk σ i) (hp : p < sz σ i) : ∃ q, m_nx σ i p mask = nI q ∧ p < q ∧ q ≤ sz σ i := by
  unfold m_nx
  split
  · rename_i e
    split
    · exact ⟨p + 1, rfl, by omega, by omega⟩
    · exact hf.2.2.1 p hp (Or.inl e)
  · unfold st_nx
    split
    · rename_i e
      exact hf.2.2.1 p hp (Or.inr e)
    · exact ⟨p + 1, rfl, by omega, by omega⟩
theorem n_lu_ge {le pl : Int32} {b : Bool} (h : -1 ≤ le.toInt) (h2 : -1 ≤ pl.toInt) : -1 ≤ (n_lu le pl b).toInt := by
  unfold n_lu
  split
  · exact h2
  · exact h
theorem m_K_ok {σ : Sg} {i p : Nat} {mask : Int32} {T : Int} {K : kl_K} (hR : RlOk σ) (hi : i < 4) (hs : StOk σ (16 * i + p)) (hok : kl_ok T K) : kl_ok (T + 5005) (m_K σ i p mask K) := by
  unfold m_K
  split
  · rename_i e
    split
    · exact st_K_ok hR hi hs hok
    · exact st_ot_ok hs e hok
  · exact st_K_ok hR hi hs hok
theorem m_K_fr {σ : Sg} {i p : Nat} {mask : Int32} {K : kl_K} (hs : StOk σ (16 * i + p)) (h6 : sk σ (16 * i + p) ≠ nI 6) (h : Free3 K) : Free3 (m_K σ i p mask K) := by
  obtain ⟨⟨n, hn8, hn9⟩, ha, hb, hc, hk⟩ := hs
  unfold m_K
  split
  · rename_i e
    have na := ha (Or.inr (Or.inr (Or.inr (Or.inl e))))
    have nb := hb (Or.inr (Or.inr (Or.inl e)))
    split
    · rw [st_K_2 e]
      exact fr3_learn h na.2.1 nb.2.1 na.2.2 nb.2.2
    · exact fr3_learn h nb.2.1 na.2.1 nb.2.2 na.2.2
  · rcases (show n = 0 ∨ n = 1 ∨ n = 2 ∨ n = 3 ∨ n = 4 ∨ n = 5 ∨ n = 6 ∨ n = 7 by omega) with e | e | e | e | e | e | e | e <;> rw [e] at hn9
    · rw [st_K_0 hn9]
      have na := ha (Or.inl hn9)
      have nb := hb (Or.inl hn9)
      exact fr3_give h nb.2.1 na.2.2 nb.2.2
    · rw [st_K_1 hn9]; exact fr3_forget3
    · rename_i e2; exact absurd hn9 e2
    · rw [st_K_3 hn9]; exact h
    · rw [st_K_4 hn9]; exact h
    · rw [st_K_5 hn9]
      have na := ha (Or.inr (Or.inr (Or.inr (Or.inr hn9))))
      have nb := hb (Or.inr (Or.inr (Or.inr (Or.inl hn9))))
      exact fr3_learn h na.2.1 nb.2.1 na.2.2 nb.2.2
    · exact absurd hn9 h6
    · rw [st_K_7 hn9]; exact fr3_forget h
/-- demands speak of the parameters alone -/
def Dm3 (σ : Sg) : Prop := ∀ i, i < 4 → ∀ j, j < rn σ (2 * i) → nt (rA σ (2 * i) j) < 3 ∧ nt (rB σ (2 * i) j) < 3
theorem th_K_fr {σ : Sg} {i : Nat} (hi : i < 4) (hR : RlOk σ) (h : Dm3 σ) : Free3 (th_K σ i) := by
  have nn : ∀ x, x < 3 → nf x 1 2 < 12 ∧ nf x 1 2 ≠ 3 := fun x hx => by
    unfold nf
    split
    · omega
    · split <;> omega
  have := r_it_inv (kl_rel 1 2 (fun j => nt (rA σ (2 * i) j)) (fun j => nt (rB σ (2 * i) j)) (fun j => rK σ (2 * i) j)) (fun _ K => Free3 K) (rn σ (2 * i)) 0 kl_0 fr3_0 (fun j K _ hj hK => fr3_learn hK (nn _ (h i hi j (by omega)).1).1 (nn _ (h i hi j (by omega)).2).1 (nn _ (h i hi j (by omega)).1).2 (nn _ (h i hi j (by omega)).2).2)
  exact this
theorem m_run_none {σ : Sg} {i : Nat} {mask sp : Int32} {ka kc n : Nat} {u : MC} : m_run σ i mask sp ka kc n none u = u := by cases n <;> rfl
set_option maxRecDepth 100000 in
set_option maxHeartbeats 4000000 in
theorem m_walk_loop {pgm : Program} {l : Launch} {e : Env} {s : State} {m : MethodId} {args : Array Value} {below : List Frame} {meth : Method} {c : Code} {D : va_G} {tys : List (ClassId × FieldType)} {L : List Nat} {f : Nat → va_E} (C0 : Cx pgm s m args meth c cM_walk 6 "LiquidCheckerModel" none D tys) (hn : L.Nodup) {mo ap cm : Nat} {ad : Nat → Nat} {G : Nat → Nat → Int32} {th sp : Int32} {i ka kc : Nat} {σ : Sg} (hi4 : i < 4) (hka : ka < 12 ∧ ka ≠ 3) (hkc : kc < 12 ∧ kc ≠ 3) (hM : MT σ G) (hL : MLk σ G i) (hRl : RlOk σ) (hf : FnOk σ i) (h3d : Dm3 σ) {mask : Int32} {post : (Nat → va_E) → Prop} : ∀ (n p : Nat) (u : MC) (fm : Nat → va_E), sz σ i + 1 ≤ p + n → p ≤ sz σ i → MDc tys L fm mo ap cm ad G th i sp ka kc u → Sm3 f fm mo ap cm → (u.K.1 = true → kl_ok (tb p) u.K ∧ Free3 u.K) → -1 ≤ u.le.toInt → (∀ f', MDc tys L f' mo ap cm ad G th i sp ka kc (m_run σ i mask sp ka kc n (m_o p u) u) → Sm3 f f' mo ap cm → post f') → ∀ (H : Heap) (locs : List Loc) (ls : Array Slot), va_P D zCl (va_pl L fm) H → va_S (inL L) s.heap H locs → lv_has ls 6 [(2, .int (nI p)), (0, .ref mo), (1, .int mask)] → W pgm l e ({ frames := 4, cells := 0, slots := 0, locals := 101 } : Room) s m args below meth c H locs 0 0 (MQ below (va_Qv post (cB D L) (inL L)) args s 0 0 (inL L)) (F0 m 23 ls []) := by
  obtain ⟨hx, hb, hml, hown, hg, hr, hlocks, hK, hN⟩ := id C0
  have hA : ∀ a ∈ L, inL L a := fun _ h => h
  have hz16 := hf.1
  intro n
  induction n with
  | zero =>
    intro p u fm h1 h2
    omega
  | succ n ih =>
    intro p u fm h1 h2 hu hsm hku hle hpo H locs ls hP hS hl
    obtain ⟨hD, hk0⟩ := id hu
    refine lv_aload_n hx hb dM_walk_23 rfl (lv_at hl 1 rfl) ?_
    refine mm_get (v := .int (kb u.K.1)) hx hb hg inM hown hK hP hD.1.1.1 hD.2.1 rfl 18 (by decide) (hg _ gw611) (fun _ h9 => h9) rfl dM_walk_24 ?_
    refine lv_if_eq (tgt := 158) hx hb dM_walk_27 (by decide) (fun c27 => ?_) (fun c27 => ?_)
    · have c27 : u.K.1 = false := kb_0.mp c27
      exact ret_v C0 hP hS (hpo fm (by rw [show m_o p u = none from if_neg (by rw [c27]; decide)]; exact hu) hsm) dM_walk_158
    · have c27 : u.K.1 = true := kb_t.mp c27
      have hk := hk0 c27
      refine lv_aload_n hx hb dM_walk_30 rfl (lv_at hl 1 rfl) ?_
      refine lv_iload_n hx hb dM_walk_31 rfl (lv_at hl 0 rfl) ?_
      refine then_v (run_V (n := 1) (As := [.int (nI p)]) (rest := []) C0 (m_look hn (hku c27).1 (by unfold tb; omega) hka hkc (by omega) hD hk) gw754 gw751 gw753 gsM_look gw7 (by decide +kernel) ⟨Nat.le_of_ble_eq_true rfl, Nat.le_of_ble_eq_true rfl⟩ rfl rfl ⟨Nat.le_of_ble_eq_true rfl, Nat.le_of_ble_eq_true rfl⟩ hP hD.1.1.1 hD.2.1 rfl rfl rfl hl.1 rfl (Nat.le_of_ble_eq_true rfl) dM_walk_32) hS hA (fun f1 H locs hq32 hP hS => ?_)
      obtain ⟨hD2, hk2, hs2⟩ := hq32
      have hm2 : Sm3 fm _ mo ap cm := hs2
      refine lv_bipush (v := nI 16) hx hb dM_walk_35 (by decide) ?_
      refine lv_aload_n hx hb dM_walk_37 rfl (lv_at hl 1 rfl) ?_
      refine mm_get (v := .int (nI i)) hx hb hg inM hown hK hP hD2.1.1.1 hD2.2.1 rfl 20 (by decide) (hg _ gw613) (fun _ h9 => h9) rfl dM_walk_38 ?_
      refine lv_imul hx hb dM_walk_41 ?_
      rw [pk_mul]
      refine lv_iload_n hx hb dM_walk_42 rfl (lv_at hl 0 rfl) ?_
      refine lv_iadd hx hb dM_walk_43 ?_
      rw [nI_add]
      refine lv_istore_n (lv' := [(3, .int (nI ((16 * i) + p))), (2, .int (nI p)), (0, .ref mo), (1, .int mask)]) hx hb dM_walk_44 rfl hl (by decide) rfl (fun ls hl => ?_)
      refine lv_iload_n hx hb dM_walk_45 rfl (lv_at hl 1 rfl) ?_
      refine lv_aload_n hx hb dM_walk_46 rfl (lv_at hl 2 rfl) ?_
      refine mm_get (v := .ref (ad 9)) hx hb hg inM hown hK hP hD2.1.1.1 hD2.2.1 rfl 10 (by decide) (hg _ gw603) (fun _ h9 => h9) rfl dM_walk_47 ?_
      refine lv_aload_n hx hb dM_walk_50 rfl (lv_at hl 2 rfl) ?_
      refine mm_get (v := .int (nI i)) hx hb hg inM hown hK hP hD2.1.1.1 hD2.2.1 rfl 20 (by decide) (hg _ gw613) (fun _ h9 => h9) rfl dM_walk_51 ?_
      refine mm_iald hx hb hK hP (hD2.1.2 9 (by decide)).1 (show mm_I tys f1 (ad 9) 4 (G 9) from (hD2.1.2 9 (by decide)).2) (vp_in_nI (show i < 4 by omega) (by omega)) dM_walk_54 ?_
      rw [nI_clamp (by omega)]
      rw [hM.2.2.2 i hi4]
      refine lv_icmp_eq (tgt := 69) hx hb dM_walk_55 (by decide) (fun c55 => ?_) (fun c55 => ?_)
      · have hzp : p = sz σ i := (nI_eq (by omega) (by omega)).mp c55
        refine lv_iload_n hx hb dM_walk_69 rfl (lv_at hl 1 rfl) ?_
        refine lv_aload_n hx hb dM_walk_70 rfl (lv_at hl 2 rfl) ?_
        refine mm_get (v := .ref (ad 9)) hx hb hg inM hown hK hP hD2.1.1.1 hD2.2.1 rfl 10 (by decide) (hg _ gw603) (fun _ h9 => h9) rfl dM_walk_71 ?_
        refine lv_aload_n hx hb dM_walk_74 rfl (lv_at hl 2 rfl) ?_
        refine mm_get (v := .int (nI i)) hx hb hg inM hown hK hP hD2.1.1.1 hD2.2.1 rfl 20 (by decide) (hg _ gw613) (fun _ h9 => h9) rfl dM_walk_75 ?_
        refine mm_iald hx hb hK hP (hD2.1.2 9 (by decide)).1 (show mm_I tys f1 (ad 9) 4 (G 9) from (hD2.1.2 9 (by decide)).2) (vp_in_nI (show i < 4 by omega) (by omega)) dM_walk_78 ?_
        rw [nI_clamp (by omega)]
        rw [hM.2.2.2 i hi4]
        refine lv_icmp_ne (tgt := 86) hx hb dM_walk_79 (by decide) (fun c79 => absurd c55 c79) (fun c79 => ?_)
        refine lv_iconst (v := nI 1) hx hb dM_walk_82 (by decide) ?_
        refine lv_goto (tgt := 87) hx hb dM_walk_83 (by decide) ?_
        refine lv_istore (lv' := [(4, .int (nI 1)), (3, .int (nI ((16 * i) + p))), (2, .int (nI p)), (0, .ref mo), (1, .int mask)]) hx hb dM_walk_87 hl (by decide) rfl (fun ls hl => ?_)
        refine lv_aload_n hx hb dM_walk_89 rfl (lv_at hl 3 rfl) ?_
        refine mm_get (v := .int (nI u.en)) hx hb hg inM hown hK hP hD2.1.1.1 hD2.2.1 rfl 22 (by decide) (hg _ gw615) (fun _ h9 => h9) rfl dM_walk_90 ?_
        refine lv_istore (lv' := [(5, .int (nI u.en)), (4, .int (nI 1)), (3, .int (nI ((16 * i) + p))), (2, .int (nI p)), (0, .ref mo), (1, .int mask)]) hx hb dM_walk_93 hl (by decide) rfl (fun ls hl => ?_)
        refine lv_aload_n hx hb dM_walk_95 rfl (lv_at hl 4 rfl) ?_
        refine lv_iload_n hx hb dM_walk_96 rfl (lv_at hl 3 rfl) ?_
        refine lv_iload hx hb dM_walk_97 (lv_at hl 1 rfl) ?_
        refine lv_if_eq (tgt := 106) hx hb dM_walk_99 (by decide) (fun c99 => absurd c99 (by decide +kernel)) (fun c99 => ?_)
        refine lv_iconst (v := nI 0) hx hb dM_walk_102 (by decide) ?_
        refine lv_goto (tgt := 112) hx hb dM_walk_103 (by decide) ?_
        refine lv_iload hx hb dM_walk_112 (lv_at hl 1 rfl) ?_
        refine lv_if_eq (tgt := 121) hx hb dM_walk_114 (by decide) (fun c114 => absurd c114 (by decide +kernel)) (fun c114 => ?_)
        refine lv_iconst (v := nI 0) hx hb dM_walk_117 (by decide) ?_
        refine lv_goto (tgt := 127) hx hb dM_walk_118 (by decide) ?_
        refine then_v (run_V (n := 3) (As := [.int (nI p), .int (nI 0), .int (nI 0)]) (rest := []) C0 (m_returns hn hi4 ⟨by omega, by omega⟩ (by decide +kernel) hM hRl (by unfold tb; omega) hle (hku c27).1 c27 (hku c27).2 hD2 hk2) gw758 gw755 gw757 gsM_returns gw7 (by decide +kernel) ⟨Nat.le_of_ble_eq_true rfl, Nat.le_of_ble_eq_true rfl⟩ rfl rfl ⟨Nat.le_of_ble_eq_true rfl, Nat.le_of_ble_eq_true rfl⟩ hP hD2.1.1.1 hD2.2.1 rfl rfl rfl hl.1 rfl (Nat.le_of_ble_eq_true rfl) dM_walk_127) hS hA (fun f3 H locs hq127 hP hS => ?_)
        obtain ⟨hD4, hk4, hs4⟩ := hq127
        have hm4 := hm2.trans (hs4)
        refine lv_iload_n hx hb dM_walk_130 rfl (lv_at hl 5 rfl) ?_
        refine lv_aload_n hx hb dM_walk_131 rfl (lv_at hl 4 rfl) ?_
        refine mm_get (v := .int u.me) hx hb hg inM hown hK hP hD4.1.1.1 hD4.2.1 rfl 19 (by decide) (hg _ gw612) (fun _ h9 => h9) rfl dM_walk_132 ?_
        refine lv_iconst (v := (-1)) hx hb dM_walk_135 (by decide) ?_
        refine lv_ixor hx hb dM_walk_136 ?_
        refine lv_iand hx hb dM_walk_137 ?_
        refine lv_if_eq (tgt := 147) hx hb dM_walk_138 (by decide) (fun c138 => ?_) (fun c138 => ?_)
        · have eo : m_o p u = some p := if_pos c27
          have es : m_step σ i mask sp ka kc p u = (none, m_fin σ i p mask 0 0 (m_come sp ka kc p u)) := if_pos hzp.symm
          refine ret_v C0 hP hS (hpo _ ?_ (hsm.trans hm4)) dM_walk_147
          rw [eo]
          show MDc tys L _ mo ap cm ad G th i sp ka kc (m_run σ i mask sp ka kc n (m_step σ i mask sp ka kc p u).1 (m_step σ i mask sp ka kc p u).2)
          rw [es, show m_run σ i mask sp ka kc n none _ = _ from m_run_none]
          unfold m_fin
          rw [show (if mask &&& ((m_come sp ka kc p u).me ^^^ -1) = 0 then _ else _) = _ from if_pos c138]
          refine ⟨?_, fun _ => hk4⟩
          exact hD4
        · refine lv_aload_n hx hb dM_walk_141 rfl (lv_at hl 4 rfl) ?_
          refine lv_iload hx hb dM_walk_142 (lv_at hl 0 rfl) ?_
          refine mm_put (v := .int (nI u.en)) (ty := .int) hx hb hg inM tyM tyM_ok nmM hown hK hn hA hP hS hD4.1.1.1 (show f3 mo = .inr (6, [.int th, .ref (ad 0), .ref (ad 1), .ref (ad 2), .ref (ad 3), .ref (ad 4), .ref (ad 5), .ref (ad 6), .ref (ad 7), .ref (ad 8), .ref (ad 9), .ref (ad 10), .ref (ad 11), .ref (ad 12), .ref (ad 13), .ref (ad 14), .ref (ad 15), .ref ap, .int (kb (kl_give 3 0 (nI 0).toInt u.K).1), .int u.me, .int (nI i), .int (n_lu u.le (nI p) (s_shw σ (2 * i + 1) 1 2 (kl_give 3 0 (nI 0).toInt u.K))), .int (nI (u.en + 1)), .ref cm, .int sp, .int (nI ka), .int (nI kc), .long (m_mx sp p u.se u.mx (encL (u.K.2 ka kc))), .int (m_se sp p u.se)]) from hD4.2.1) rfl 22 (by decide) (hg _ gw615) (fun _ h9 => h9) rfl (by decide +kernel) rfl rfl (Nat.le_of_ble_eq_true rfl) dM_walk_144 (fun H locs hP hS => ?_)
          obtain ⟨f5, hf5⟩ : ∃ z, z = va_up f3 mo (.inr (6, [.int th, .ref (ad 0), .ref (ad 1), .ref (ad 2), .ref (ad 3), .ref (ad 4), .ref (ad 5), .ref (ad 6), .ref (ad 7), .ref (ad 8), .ref (ad 9), .ref (ad 10), .ref (ad 11), .ref (ad 12), .ref (ad 13), .ref (ad 14), .ref (ad 15), .ref ap, .int (kb (kl_give 3 0 (nI 0).toInt u.K).1), .int u.me, .int (nI i), .int (n_lu u.le (nI p) (s_shw σ (2 * i + 1) 1 2 (kl_give 3 0 (nI 0).toInt u.K))), .int (nI u.en), .ref cm, .int sp, .int (nI ka), .int (nI kc), .long (m_mx sp p u.se u.mx (encL (u.K.2 ka kc))), .int (m_se sp p u.se)])) := ⟨_, rfl⟩
          have hP : va_P D zCl (va_pl L f5) H := by rw [hf5]; exact hP
          have hs6 : Same1 f3 f5 mo := fun z hz => by rw [hf5, va_up_ne _ _ hz]
          have hD6 : MD tys L f5 mo ap cm ad G th (kb (kl_give 3 0 (nI 0).toInt u.K).1) u.me (nI i) (n_lu u.le (nI p) (s_shw σ (2 * i + 1) 1 2 (kl_give 3 0 (nI 0).toInt u.K))) (nI u.en) sp (nI ka) (nI kc) (m_mx sp p u.se u.mx (encL (u.K.2 ka kc))) (m_se sp p u.se) (upd u.gc p (nI 1)) := hD4.updO (by rw [hf5]; exact va_up_self _ _ _) hs6
          have hk6 := hD4.keepO hk4 hs6
          have hm6 := hm4.trans (Sm3.ofO hs6)
          have eo : m_o p u = some p := if_pos c27
          have es : m_step σ i mask sp ka kc p u = (none, m_fin σ i p mask 0 0 (m_come sp ka kc p u)) := if_pos hzp.symm
          refine ret_v C0 hP hS (hpo _ ?_ (hsm.trans hm6)) dM_walk_147
          rw [eo]
          show MDc tys L _ mo ap cm ad G th i sp ka kc (m_run σ i mask sp ka kc n (m_step σ i mask sp ka kc p u).1 (m_step σ i mask sp ka kc p u).2)
          rw [es, show m_run σ i mask sp ka kc n none _ = _ from m_run_none]
          unfold m_fin
          rw [show (if mask &&& ((m_come sp ka kc p u).me ^^^ -1) = 0 then _ else _) = _ from if_neg c138]
          refine ⟨?_, fun _ => hk6⟩
          exact hD6
      · have hzp : p ≠ sz σ i := fun z => c55 (by rw [← z])
        have hpz : p < sz σ i := by omega
        have hst := hf.2.1 p hpz
        refine lv_aload_n hx hb dM_walk_58 rfl (lv_at hl 2 rfl) ?_
        refine mm_get (v := .ref (ad 4)) hx hb hg inM hown hK hP hD2.1.1.1 hD2.2.1 rfl 5 (by decide) (hg _ gw598) (fun _ h9 => h9) rfl dM_walk_59 ?_
        refine lv_iload_n hx hb dM_walk_62 rfl (lv_at hl 0 rfl) ?_
        refine mm_iald hx hb hK hP (hD2.1.2 4 (by decide)).1 (show mm_I tys f1 (ad 4) 64 (G 4) from (hD2.1.2 4 (by decide)).2) (vp_in_nI (show (16 * i) + p < 64 by omega) (by omega)) dM_walk_63 ?_
        rw [nI_clamp (by omega)]
        rw [(hM.2.2.1 (16 * i + p) (by omega)).1]
        refine lv_bipush (v := nI 6) hx hb dM_walk_64 (by decide) ?_
        refine lv_icmp_ne (tgt := 148) hx hb dM_walk_66 (by decide) (fun c66 => ?_) (fun c66 => ?_)
        · refine lv_aload_n hx hb dM_walk_148 rfl (lv_at hl 2 rfl) ?_
          refine lv_iload_n hx hb dM_walk_149 rfl (lv_at hl 1 rfl) ?_
          refine lv_iload_n hx hb dM_walk_150 rfl (lv_at hl 3 rfl) ?_
          refine then_i (run_V (n := 2) (As := [.int (nI p), .int mask]) (rest := []) C0 (m_perform hn hi4 (by omega) hpz hst c66 hM hL hRl (by unfold tb; omega) hle (hku c27).1 c27 (hku c27).2 hD2 hk2) gw774 gw771 gw773 gsM_perform gw7 (by decide +kernel) ⟨Nat.le_of_ble_eq_true rfl, Nat.le_of_ble_eq_true rfl⟩ rfl rfl ⟨Nat.le_of_ble_eq_true rfl, Nat.le_of_ble_eq_true rfl⟩ hP hD2.1.1.1 hD2.2.1 rfl rfl rfl hl.1 rfl (Nat.le_of_ble_eq_true rfl) dM_walk_151) hS hA (fun r8 f7 H locs hq151 hP hS => ?_)
          obtain ⟨hr9, hD9, hk9, hs9⟩ := hq151
          have hm9 := hm2.trans (hs9)
          obtain ⟨q, hq1, hq2, hq3⟩ := m_nx_cases (mask := mask) hf hpz
          rw [hr9, hq1]
          refine lv_istore_n (lv' := [(2, .int (nI q)), (3, .int (nI ((16 * i) + p))), (0, .ref mo), (1, .int mask)]) hx hb dM_walk_154 rfl hl (by decide) rfl (fun ls hl => ?_)
          refine lv_goto (tgt := 23) hx hb dM_walk_155 (by decide) ?_
          have eo : m_o p u = some p := if_pos c27
          have es : m_step σ i mask sp ka kc p u = (m_o q (m_go σ i p mask (m_come sp ka kc p u)), m_go σ i p mask (m_come sp ka kc p u)) := by unfold m_step; rw [if_neg (Ne.symm hzp), if_neg c66, hq1, deP_nI (by omega)]; rfl
          refine ih q (m_go σ i p mask (m_come sp ka kc p u)) f7 (by omega) hq3 ⟨hD9, hk9⟩ (hsm.trans hm9) (fun _ => ⟨(m_K_ok hRl hi4 hst (hku c27).1).mono (by unfold tb; omega), m_K_fr hst c66 (hku c27).2⟩) (n_lu_ge hle (by rw [nI_toInt (by omega)]; omega)) (fun fx hx1 hx2 => hpo fx ?_ hx2) H _ ls hP hS (lv_sub hl [0, 2, 3] rfl)
          rw [eo]
          show MDc tys L fx mo ap cm ad G th i sp ka kc (m_run σ i mask sp ka kc n (m_step σ i mask sp ka kc p u).1 (m_step σ i mask sp ka kc p u).2)
          rw [es]
          exact hx1
        · have hnb := hst.2.2.1 (Or.inr (Or.inr (Or.inr (Or.inr c66))))
          have hkk := hst.2.2.2.2 (Or.inr (Or.inr (Or.inr c66)))
          refine lv_iload_n hx hb dM_walk_69 rfl (lv_at hl 1 rfl) ?_
          refine lv_aload_n hx hb dM_walk_70 rfl (lv_at hl 2 rfl) ?_
          refine mm_get (v := .ref (ad 9)) hx hb hg inM hown hK hP hD2.1.1.1 hD2.2.1 rfl 10 (by decide) (hg _ gw603) (fun _ h9 => h9) rfl dM_walk_71 ?_
          refine lv_aload_n hx hb dM_walk_74 rfl (lv_at hl 2 rfl) ?_
          refine mm_get (v := .int (nI i)) hx hb hg inM hown hK hP hD2.1.1.1 hD2.2.1 rfl 20 (by decide) (hg _ gw613) (fun _ h9 => h9) rfl dM_walk_75 ?_
          refine mm_iald hx hb hK hP (hD2.1.2 9 (by decide)).1 (show mm_I tys f1 (ad 9) 4 (G 9) from (hD2.1.2 9 (by decide)).2) (vp_in_nI (show i < 4 by omega) (by omega)) dM_walk_78 ?_
          rw [nI_clamp (by omega)]
          rw [hM.2.2.2 i hi4]
          refine lv_icmp_ne (tgt := 86) hx hb dM_walk_79 (by decide) (fun c79 => ?_) (fun c79 => absurd c79 c55)
          refine lv_iconst (v := nI 0) hx hb dM_walk_86 (by decide) ?_
          refine lv_istore (lv' := [(4, .int (nI 0)), (3, .int (nI ((16 * i) + p))), (2, .int (nI p)), (0, .ref mo), (1, .int mask)]) hx hb dM_walk_87 hl (by decide) rfl (fun ls hl => ?_)
          refine lv_aload_n hx hb dM_walk_89 rfl (lv_at hl 3 rfl) ?_
          refine mm_get (v := .int (nI u.en)) hx hb hg inM hown hK hP hD2.1.1.1 hD2.2.1 rfl 22 (by decide) (hg _ gw615) (fun _ h9 => h9) rfl dM_walk_90 ?_
          refine lv_istore (lv' := [(5, .int (nI u.en)), (4, .int (nI 0)), (3, .int (nI ((16 * i) + p))), (2, .int (nI p)), (0, .ref mo), (1, .int mask)]) hx hb dM_walk_93 hl (by decide) rfl (fun ls hl => ?_)
          refine lv_aload_n hx hb dM_walk_95 rfl (lv_at hl 4 rfl) ?_
          refine lv_iload_n hx hb dM_walk_96 rfl (lv_at hl 3 rfl) ?_
          refine lv_iload hx hb dM_walk_97 (lv_at hl 1 rfl) ?_
          refine lv_if_eq (tgt := 106) hx hb dM_walk_99 (by decide) (fun c99 => ?_) (fun c99 => absurd nI_0 c99)
          refine lv_aload_n hx hb dM_walk_106 rfl (lv_at hl 4 rfl) ?_
          refine mm_get (v := .ref (ad 6)) hx hb hg inM hown hK hP hD2.1.1.1 hD2.2.1 rfl 7 (by decide) (hg _ gw600) (fun _ h9 => h9) rfl dM_walk_107 ?_
          refine lv_iload_n hx hb dM_walk_110 rfl (lv_at hl 2 rfl) ?_
          refine mm_iald hx hb hK hP (hD2.1.2 6 (by decide)).1 (show mm_I tys f1 (ad 6) 64 (G 6) from (hD2.1.2 6 (by decide)).2) (vp_in_nI (show (16 * i) + p < 64 by omega) (by omega)) dM_walk_111 ?_
          rw [nI_clamp (by omega)]
          rw [(hM.2.2.1 (16 * i + p) (by omega)).2.2.1.trans hnb.1]
          refine lv_iload hx hb dM_walk_112 (lv_at hl 1 rfl) ?_
          refine lv_if_eq (tgt := 121) hx hb dM_walk_114 (by decide) (fun c114 => ?_) (fun c114 => absurd nI_0 c114)
          refine lv_aload_n hx hb dM_walk_121 rfl (lv_at hl 4 rfl) ?_
          refine mm_get (v := .ref (ad 8)) hx hb hg inM hown hK hP hD2.1.1.1 hD2.2.1 rfl 9 (by decide) (hg _ gw602) (fun _ h9 => h9) rfl dM_walk_122 ?_
          refine lv_iload_n hx hb dM_walk_125 rfl (lv_at hl 2 rfl) ?_
          refine mm_iald hx hb hK hP (hD2.1.2 8 (by decide)).1 (show mm_I tys f1 (ad 8) 64 (G 8) from (hD2.1.2 8 (by decide)).2) (vp_in_nI (show (16 * i) + p < 64 by omega) (by omega)) dM_walk_126 ?_
          rw [nI_clamp (by omega)]
          rw [(hM.2.2.1 (16 * i + p) (by omega)).2.2.2.2]
          refine then_v (run_V (n := 3) (As := [.int (nI p), .int (nI (nt (sb σ (16 * i + p)))), .int (sK σ (16 * i + p))]) (rest := []) C0 (m_returns hn hi4 hnb.2 hkk hM hRl (by unfold tb; omega) hle (hku c27).1 c27 (hku c27).2 hD2 hk2) gw758 gw755 gw757 gsM_returns gw7 (by decide +kernel) ⟨Nat.le_of_ble_eq_true rfl, Nat.le_of_ble_eq_true rfl⟩ rfl rfl ⟨Nat.le_of_ble_eq_true rfl, Nat.le_of_ble_eq_true rfl⟩ hP hD2.1.1.1 hD2.2.1 rfl rfl rfl hl.1 rfl (Nat.le_of_ble_eq_true rfl) dM_walk_127) hS hA (fun f10 H locs hq127 hP hS => ?_)
          obtain ⟨hD11, hk11, hs11⟩ := hq127
          have hm11 := hm2.trans (hs11)
          refine lv_iload_n hx hb dM_walk_130 rfl (lv_at hl 5 rfl) ?_
          refine lv_aload_n hx hb dM_walk_131 rfl (lv_at hl 4 rfl) ?_
          refine mm_get (v := .int u.me) hx hb hg inM hown hK hP hD11.1.1.1 hD11.2.1 rfl 19 (by decide) (hg _ gw612) (fun _ h9 => h9) rfl dM_walk_132 ?_
          refine lv_iconst (v := (-1)) hx hb dM_walk_135 (by decide) ?_
          refine lv_ixor hx hb dM_walk_136 ?_
          refine lv_iand hx hb dM_walk_137 ?_
          refine lv_if_eq (tgt := 147) hx hb dM_walk_138 (by decide) (fun c138 => ?_) (fun c138 => ?_)
          · have eo : m_o p u = some p := if_pos c27
            have es : m_step σ i mask sp ka kc p u = (none, m_fin σ i p mask (nt (sb σ (16 * i + p))) (sK σ (16 * i + p)).toInt (m_come sp ka kc p u)) := by unfold m_step; rw [if_neg (Ne.symm hzp), if_pos c66]
            refine ret_v C0 hP hS (hpo _ ?_ (hsm.trans hm11)) dM_walk_147
            rw [eo]
            show MDc tys L _ mo ap cm ad G th i sp ka kc (m_run σ i mask sp ka kc n (m_step σ i mask sp ka kc p u).1 (m_step σ i mask sp ka kc p u).2)
            rw [es, show m_run σ i mask sp ka kc n none _ = _ from m_run_none]
            unfold m_fin
            rw [show (if mask &&& ((m_come sp ka kc p u).me ^^^ -1) = 0 then _ else _) = _ from if_pos c138]
            refine ⟨?_, fun _ => hk11⟩
            exact hD11
          · refine lv_aload_n hx hb dM_walk_141 rfl (lv_at hl 4 rfl) ?_
            refine lv_iload hx hb dM_walk_142 (lv_at hl 0 rfl) ?_
            refine mm_put (v := .int (nI u.en)) (ty := .int) hx hb hg inM tyM tyM_ok nmM hown hK hn hA hP hS hD11.1.1.1 (show f10 mo = .inr (6, [.int th, .ref (ad 0), .ref (ad 1), .ref (ad 2), .ref (ad 3), .ref (ad 4), .ref (ad 5), .ref (ad 6), .ref (ad 7), .ref (ad 8), .ref (ad 9), .ref (ad 10), .ref (ad 11), .ref (ad 12), .ref (ad 13), .ref (ad 14), .ref (ad 15), .ref ap, .int (kb (kl_give 3 (nt (sb σ (16 * i + p))) (sK σ (16 * i + p)).toInt u.K).1), .int u.me, .int (nI i), .int (n_lu u.le (nI p) (s_shw σ (2 * i + 1) 1 2 (kl_give 3 (nt (sb σ (16 * i + p))) (sK σ (16 * i + p)).toInt u.K))), .int (nI (u.en + 1)), .ref cm, .int sp, .int (nI ka), .int (nI kc), .long (m_mx sp p u.se u.mx (encL (u.K.2 ka kc))), .int (m_se sp p u.se)]) from hD11.2.1) rfl 22 (by decide) (hg _ gw615) (fun _ h9 => h9) rfl (by decide +kernel) rfl rfl (Nat.le_of_ble_eq_true rfl) dM_walk_144 (fun H locs hP hS => ?_)
            obtain ⟨f12, hf12⟩ : ∃ z, z = va_up f10 mo (.inr (6, [.int th, .ref (ad 0), .ref (ad 1), .ref (ad 2), .ref (ad 3), .ref (ad 4), .ref (ad 5), .ref (ad 6), .ref (ad 7), .ref (ad 8), .ref (ad 9), .ref (ad 10), .ref (ad 11), .ref (ad 12), .ref (ad 13), .ref (ad 14), .ref (ad 15), .ref ap, .int (kb (kl_give 3 (nt (sb σ (16 * i + p))) (sK σ (16 * i + p)).toInt u.K).1), .int u.me, .int (nI i), .int (n_lu u.le (nI p) (s_shw σ (2 * i + 1) 1 2 (kl_give 3 (nt (sb σ (16 * i + p))) (sK σ (16 * i + p)).toInt u.K))), .int (nI u.en), .ref cm, .int sp, .int (nI ka), .int (nI kc), .long (m_mx sp p u.se u.mx (encL (u.K.2 ka kc))), .int (m_se sp p u.se)])) := ⟨_, rfl⟩
            have hP : va_P D zCl (va_pl L f12) H := by rw [hf12]; exact hP
            have hs13 : Same1 f10 f12 mo := fun z hz => by rw [hf12, va_up_ne _ _ hz]
            have hD13 : MD tys L f12 mo ap cm ad G th (kb (kl_give 3 (nt (sb σ (16 * i + p))) (sK σ (16 * i + p)).toInt u.K).1) u.me (nI i) (n_lu u.le (nI p) (s_shw σ (2 * i + 1) 1 2 (kl_give 3 (nt (sb σ (16 * i + p))) (sK σ (16 * i + p)).toInt u.K))) (nI u.en) sp (nI ka) (nI kc) (m_mx sp p u.se u.mx (encL (u.K.2 ka kc))) (m_se sp p u.se) (upd u.gc p (nI 1)) := hD11.updO (by rw [hf12]; exact va_up_self _ _ _) hs13
            have hk13 := hD11.keepO hk11 hs13
            have hm13 := hm11.trans (Sm3.ofO hs13)
            have eo : m_o p u = some p := if_pos c27
            have es : m_step σ i mask sp ka kc p u = (none, m_fin σ i p mask (nt (sb σ (16 * i + p))) (sK σ (16 * i + p)).toInt (m_come sp ka kc p u)) := by unfold m_step; rw [if_neg (Ne.symm hzp), if_pos c66]
            refine ret_v C0 hP hS (hpo _ ?_ (hsm.trans hm13)) dM_walk_147
            rw [eo]
            show MDc tys L _ mo ap cm ad G th i sp ka kc (m_run σ i mask sp ka kc n (m_step σ i mask sp ka kc p u).1 (m_step σ i mask sp ka kc p u).2)
            rw [es, show m_run σ i mask sp ka kc n none _ = _ from m_run_none]
            unfold m_fin
            rw [show (if mask &&& ((m_come sp ka kc p u).me ^^^ -1) = 0 then _ else _) = _ from if_neg c138]
            refine ⟨?_, fun _ => hk13⟩
            exact hD13
set_option maxRecDepth 100000 in
set_option maxHeartbeats 4000000 in
theorem m_walkc {l : Launch} {D : va_G} {tys : List (ClassId × FieldType)} {L : List Nat} {f : Nat → va_E} (hn : L.Nodup) {mo ap cm : Nat} {ad : Nat → Nat} {G : Nat → Nat → Int32} {th sp : Int32} {i ka kc : Nat} {σ : Sg} (hi4 : i < 4) (hka : ka < 12 ∧ ka ≠ 3) (hkc : kc < 12 ∧ kc ≠ 3) (hM : MT σ G) (hL : MLk σ G i) (hRl : RlOk σ) (hf : FnOk σ i) (h3d : Dm3 σ) {mask : Nat} {u : MC} (hle : -1 ≤ u.le.toInt) (hD : MD tys L f mo ap cm ad G th (kb u.K.1) u.me (nI i) u.le (nI u.en) sp (nI ka) (nI kc) u.mx u.se u.gc) : MetV l yM_walk wM_walk ({ frames := 4, cells := 0, slots := 0, locals := 101 } : Room) D tys L f [.ref mo, .int (nI mask)] (fun f' => MDc tys L f' mo ap cm ad G th i sp ka kc (m_walk σ i sp ka kc mask u) ∧ Sm3 f f' mo ap cm) := by
  refine met_of "LiquidCheckerModel" (by decide) rfl (Nat.le_of_ble_eq_true rfl) ?_
  intro pgm e s m below meth c ls C0 hP hl
  obtain ⟨hx, hb, hml, hown, hg, hr, hlocks, hK, hN⟩ := id C0
  have hA : ∀ a ∈ L, inL L a := fun _ h => h
  obtain ⟨H, hH⟩ : ∃ z, z = s.heap := ⟨_, rfl⟩
  rw [← hH] at hP ⊢
  have hS : va_S (inL L) s.heap H [] := by rw [hH]; exact va_S.rf
  have hl : lv_has ls 6 [(0, .ref mo), (1, .int (nI mask))] := hl
  refine lv_aload_n hx hb dM_walk_0 rfl (lv_at hl 0 rfl) ?_
  refine then_v (run_V (n := 0) (As := []) (rest := []) C0 (ma_begin hn hD.1.1.1 hD.1.1.2.1 hD.2.1 hD.2.2.1) gw738 gw735 gw737 gsM_begin gw7 (by decide +kernel) ⟨Nat.le_of_ble_eq_true rfl, Nat.le_of_ble_eq_true rfl⟩ rfl rfl ⟨Nat.le_of_ble_eq_true rfl, Nat.le_of_ble_eq_true rfl⟩ hP hD.1.1.1 hD.2.1 rfl rfl rfl hl.1 rfl (Nat.le_of_ble_eq_true rfl) dM_walk_1) hS hA (fun f1 H locs hq1 hP hS => ?_)
  obtain ⟨ho2, hk2, hs2⟩ := hq1
  have hD2 : MD tys L f1 mo ap cm ad G th (kb kl_0.1) u.me (nI i) u.le (nI u.en) sp (nI ka) (nI kc) u.mx u.se u.gc := hD.upd2 ho2 (MnK.J hk2) hs2
  have hm2 : Sm3 f _ mo ap cm := Sm3.of2 hs2
  refine lv_aload_n hx hb dM_walk_4 rfl (lv_at hl 0 rfl) ?_
  refine lv_iconst (v := nI 2) hx hb dM_walk_5 (by decide) ?_
  refine lv_aload_n hx hb dM_walk_6 rfl (lv_at hl 0 rfl) ?_
  refine mm_get (v := .int (nI i)) hx hb hg inM hown hK hP hD2.1.1.1 hD2.2.1 rfl 20 (by decide) (hg _ gw613) (fun _ h9 => h9) rfl dM_walk_7 ?_
  refine lv_imul hx hb dM_walk_10 ?_
  rw [pk_mul]
  refine lv_iconst (v := nI 1) hx hb dM_walk_11 (by decide) ?_
  refine lv_iconst (v := nI 2) hx hb dM_walk_12 (by decide) ?_
  refine then_v (run_V (n := 3) (As := [.int (nI (2 * i)), .int (nI 1), .int (nI 2)]) (rest := []) C0 (m_knowAll hn (T := 0) (by omega) ⟨by omega, by omega⟩ ⟨by omega, by omega⟩ hM (hRl _ (by omega)) (by omega) kl_0_ok hD2 hk2) gw743 gw740 gw742 gsM_knowAll gw7 (by decide +kernel) ⟨Nat.le_of_ble_eq_true rfl, Nat.le_of_ble_eq_true rfl⟩ rfl rfl ⟨Nat.le_of_ble_eq_true rfl, Nat.le_of_ble_eq_true rfl⟩ hP hD2.1.1.1 hD2.2.1 rfl rfl rfl hl.1 rfl (Nat.le_of_ble_eq_true rfl) dM_walk_13) hS hA (fun f3 H locs hq13 hP hS => ?_)
  obtain ⟨ho4, hk4, hs4⟩ := hq13
  have hD4 : MD tys L f3 mo ap cm ad G th (kb (th_K σ i).1) u.me (nI i) u.le (nI u.en) sp (nI ka) (nI kc) u.mx u.se u.gc := hD2.upd2 ho4 (MnK.J hk4) hs4
  have hm4 := hm2.trans (Sm3.of2 hs4)
  refine lv_aload_n hx hb dM_walk_16 rfl (lv_at hl 0 rfl) ?_
  refine lv_iconst (v := nI 0) hx hb dM_walk_17 (by decide) ?_
  refine mm_put (v := .int (nI 0)) (ty := .int) hx hb hg inM tyM tyM_ok nmM hown hK hn hA hP hS hD4.1.1.1 (show f3 mo = .inr (6, [.int th, .ref (ad 0), .ref (ad 1), .ref (ad 2), .ref (ad 3), .ref (ad 4), .ref (ad 5), .ref (ad 6), .ref (ad 7), .ref (ad 8), .ref (ad 9), .ref (ad 10), .ref (ad 11), .ref (ad 12), .ref (ad 13), .ref (ad 14), .ref (ad 15), .ref ap, .int (kb (th_K σ i).1), .int u.me, .int (nI i), .int u.le, .int (nI u.en), .ref cm, .int sp, .int (nI ka), .int (nI kc), .long u.mx, .int u.se]) from hD4.2.1) rfl 19 (by decide) (hg _ gw612) (fun _ h9 => h9) rfl (by decide +kernel) rfl rfl (Nat.le_of_ble_eq_true rfl) dM_walk_18 (fun H locs hP hS => ?_)
  obtain ⟨f5, hf5⟩ : ∃ z, z = va_up f3 mo (.inr (6, [.int th, .ref (ad 0), .ref (ad 1), .ref (ad 2), .ref (ad 3), .ref (ad 4), .ref (ad 5), .ref (ad 6), .ref (ad 7), .ref (ad 8), .ref (ad 9), .ref (ad 10), .ref (ad 11), .ref (ad 12), .ref (ad 13), .ref (ad 14), .ref (ad 15), .ref ap, .int (kb (th_K σ i).1), .int (nI 0), .int (nI i), .int u.le, .int (nI u.en), .ref cm, .int sp, .int (nI ka), .int (nI kc), .long u.mx, .int u.se])) := ⟨_, rfl⟩
  have hP : va_P D zCl (va_pl L f5) H := by rw [hf5]; exact hP
  have hs6 : Same1 f3 f5 mo := fun z hz => by rw [hf5, va_up_ne _ _ hz]
  have hD6 : MD tys L f5 mo ap cm ad G th (kb (th_K σ i).1) (nI 0) (nI i) u.le (nI u.en) sp (nI ka) (nI kc) u.mx u.se u.gc := hD4.updO (by rw [hf5]; exact va_up_self _ _ _) hs6
  have hk6 := hD4.keepO hk4 hs6
  have hm6 := hm4.trans (Sm3.ofO hs6)
  refine lv_iconst (v := nI 0) hx hb dM_walk_21 (by decide) ?_
  refine lv_istore_n (lv' := [(2, .int (nI 0)), (0, .ref mo), (1, .int (nI mask))]) hx hb dM_walk_22 rfl hl (by decide) rfl (fun ls hl => ?_)
  exact m_walk_loop C0 hn hi4 hka hkc hM hL hRl hf h3d 17 0 (m_w0 σ i u) _ (by have := hf.1; omega) (by omega) ⟨hD6, fun _ => hk6⟩ hm6 (fun _ => ⟨(s_rels_ok (hRl _ (by omega)) (by omega) (by omega) kl_0_ok).mono (by unfold tb; omega), th_K_fr hi4 hRl h3d⟩) hle (fun fx hx1 hx2 => ⟨hx1, hx2⟩) H _ ls hP hS (lv_sub hl [0, 1, 2] rfl)
