/-! LiquidCheckerModel.explore: every mask. -/
def m_c0 (n j : Nat) (gc : Nat → Int32) : Nat → Int32 := r_it (fun j g => upd g j (nI 0)) n j gc
theorem m_c0_at {gc : Nat → Int32} {x : Nat} (hx : x < 17) : m_c0 17 0 gc x = nI 0 := by
  have := r_it_inv (fun j (g : Nat → Int32) => upd g j (nI 0)) (fun j g => ∀ z, z < j → g z = nI 0) 17 0 gc (fun z hz => by omega) (fun j g _ _ h z hz => by
    show upd g j (nI 0) z = nI 0
    unfold upd
    by_cases e : z = j
    · rw [if_pos e]
    · rw [if_neg e]; exact h z (by omega))
  exact this x (by omega)
theorem shl_pow {n : Nat} (h : n ≤ 6) : nI 1 <<< (nI n &&& 31) = nI (2 ^ n) := by
  rcases (show n = 0 ∨ n = 1 ∨ n = 2 ∨ n = 3 ∨ n = 4 ∨ n = 5 ∨ n = 6 by omega) with e | e | e | e | e | e | e <;> subst e <;> decide +kernel
theorem m_run_le {σ : Sg} {i : Nat} {mask sp : Int32} {ka kc : Nat} (hf : FnOk σ i) : ∀ (n : Nat) (o : Option Nat) (u : MC), (∀ p, o = some p → p ≤ sz σ i) → -1 ≤ u.le.toInt → -1 ≤ (m_run σ i mask sp ka kc n o u).le.toInt := by
  intro n
  have h16 := hf.1
  induction n with
  | zero => intro o u _ h; exact h
  | succ n ih =>
    intro o u ho h
    cases o with
    | none => exact h
    | some p =>
      have hp := ho p rfl
      show -1 ≤ (m_run σ i mask sp ka kc n (m_step σ i mask sp ka kc p u).1 (m_step σ i mask sp ka kc p u).2).le.toInt
      have hnp : -1 ≤ (nI p).toInt := by rw [nI_toInt (by omega)]; omega
      refine ih _ _ (fun q hq => ?_) ?_
      · unfold m_step at hq
        split at hq
        · cases hq
        · rename_i e1
          split at hq
          · cases hq
          · simp only [] at hq
            split at hq
            · obtain ⟨q2, h1, h2, h3⟩ := m_nx_cases (mask := mask) hf (show p < sz σ i by omega)
              rw [h1, deP_nI (by omega)] at hq
              cases hq
              exact h3
            · cases hq
      · unfold m_step
        split
        · exact n_lu_ge h hnp
        · split
          · exact n_lu_ge h hnp
          · exact n_lu_ge h hnp
def m_all (σ : Sg) (i : Nat) (sp : Int32) (ka kc n mask : Nat) (u : MC) : MC := r_it (m_walk σ i sp ka kc) n mask u
set_option maxRecDepth 100000 in
set_option maxHeartbeats 4000000 in
theorem m_came_loop {pgm : Program} {l : Launch} {e : Env} {s : State} {m : MethodId} {args : Array Value} {below : List Frame} {meth : Method} {c : Code} {D : va_G} {tys : List (ClassId × FieldType)} {L : List Nat} {f : Nat → va_E} {Q : State → Prop} (C0 : Cx pgm s m args meth c cM_explore 3 "LiquidCheckerModel" none D tys) (hn : L.Nodup) {mo ap cm : Nat} {ad : Nat → Nat} {G : Nat → Nat → Int32} {th fe me fu le en sp ka kc se : Int32} {mx : Int64} {i : Nat} : ∀ (n j : Nat) (gc : Nat → Int32) (fm : Nat → va_E), j + n = 17 → MD tys L fm mo ap cm ad G th fe me fu le en sp ka kc mx se gc → Sm3 f fm mo ap cm → ∀ (H : Heap) (locs : List Loc) (ls : Array Slot), va_P D zCl (va_pl L fm) H → va_S (inL L) s.heap H locs → lv_has ls 3 [(2, .int (nI j)), (0, .ref mo), (1, .int (nI i))] → (∀ (fm : Nat → va_E) (H : Heap) (locs : List Loc) (ls : Array Slot), MD tys L fm mo ap cm ad G th fe me fu le en sp ka kc mx se (m_c0 n j gc) → Sm3 f fm mo ap cm → va_P D zCl (va_pl L fm) H → va_S (inL L) s.heap H locs → lv_has ls 3 [(2, .int (nI 17)), (0, .ref mo), (1, .int (nI i))] → W pgm l e ({ frames := 5, cells := 0, slots := 0, locals := 126 } : Room) s m args below meth c H locs 0 0 Q (F0 m 46 ls [])) → W pgm l e ({ frames := 5, cells := 0, slots := 0, locals := 126 } : Room) s m args below meth c H locs 0 0 Q (F0 m 27 ls []) := by
  obtain ⟨hx, hb, hml, hown, hg, hr, hlocks, hK, hN⟩ := id C0
  have hA : ∀ a ∈ L, inL L a := fun _ h => h
  intro n
  induction n with
  | zero =>
    intro j gc fm hj hD hsm H locs ls hP hS hl hx2
    obtain rfl : j = 17 := by omega
    refine lv_iload_n hx hb dM_explore_27 rfl (lv_at hl 0 rfl) ?_
    refine lv_bipush (v := nI 17) hx hb dM_explore_28 (by decide) ?_
    refine lv_icmp_ge (tgt := 46) hx hb dM_explore_30 (by decide) (fun c30 => ?_) (fun c30 => absurd (nI_le (by omega) (by omega)) c30)
    exact hx2 fm H locs ls hD hsm hP hS (lv_sub hl [0, 1, 2] rfl)
  | succ n ih =>
    intro j gc fm hj hD hsm H locs ls hP hS hl hx2
    refine lv_iload_n hx hb dM_explore_27 rfl (lv_at hl 0 rfl) ?_
    refine lv_bipush (v := nI 17) hx hb dM_explore_28 (by decide) ?_
    refine lv_icmp_ge (tgt := 46) hx hb dM_explore_30 (by decide) (fun c30 => absurd c30 (nI_ge (show j < 17 by omega) (by omega))) (fun c30 => ?_)
    refine lv_aload_n hx hb dM_explore_33 rfl (lv_at hl 1 rfl) ?_
    refine mm_get (v := .ref cm) hx hb hg inM hown hK hP hD.1.1.1 hD.2.1 rfl 23 (by decide) (hg _ gw616) (fun _ h9 => h9) rfl dM_explore_34 ?_
    refine lv_iload_n hx hb dM_explore_37 rfl (lv_at hl 0 rfl) ?_
    refine lv_iconst (v := nI 0) hx hb dM_explore_38 (by decide) ?_
    refine mm_zast hx hb hK hn hA hP hS hD.1.1.2.2 hD.2.2.2 (vp_in_nI (show j < 17 by omega) (by omega)) rfl dM_explore_39 (fun H locs hP hS => ?_)
    rw [nI_clamp (by omega)] at hP
    obtain ⟨f1, hf1⟩ : ∃ z, z = mm_si fm cm (upd gc j (nI 0)) := ⟨_, rfl⟩
    have hP : va_P D zCl (va_pl L f1) H := by rw [hf1]; exact hP
    have hs2 : Same1 fm f1 cm := fun z hz => by rw [hf1, mm_si_ne hz]
    have hD2 : MD tys L f1 mo ap cm ad G th fe me fu le en sp ka kc mx se (upd gc j (nI 0)) := hD.updC (by rw [hf1]; exact hD.2.2.2.set) hs2
    have hm2 : Sm3 fm _ mo ap cm := Sm3.ofC hs2
    refine lv_iinc (v := nI (j + 1)) (lv' := [(2, .int (nI (j + 1))), (0, .ref mo), (1, .int (nI i))]) hx hb dM_explore_40 hl (k := 0) rfl (nI_add j 1) (by decide) rfl (fun ls hl => ?_)
    refine lv_goto (tgt := 27) hx hb dM_explore_43 (by decide) ?_
    exact ih (j + 1) (upd gc j (nI 0)) _ (by omega) hD2 (hsm.trans hm2) H _ ls hP hS (lv_sub hl [0, 1, 2] rfl) hx2
set_option maxRecDepth 100000 in
set_option maxHeartbeats 4000000 in
theorem m_mask_loop {pgm : Program} {l : Launch} {e : Env} {s : State} {m : MethodId} {args : Array Value} {below : List Frame} {meth : Method} {c : Code} {D : va_G} {tys : List (ClassId × FieldType)} {L : List Nat} {f : Nat → va_E} {Q : State → Prop} (C0 : Cx pgm s m args meth c cM_explore 3 "LiquidCheckerModel" none D tys) (hn : L.Nodup) {mo ap cm : Nat} {ad : Nat → Nat} {G : Nat → Nat → Int32} {th sp : Int32} {i ka kc : Nat} {σ : Sg} (hi4 : i < 4) (hka : ka < 12 ∧ ka ≠ 3) (hkc : kc < 12 ∧ kc ≠ 3) (hM : MT σ G) (hL : MLk σ G i) (hRl : RlOk σ) (hf : FnOk σ i) (h3d : Dm3 σ) (hI : G 13 i = nI (nif σ i (sz σ i))) : ∀ (n mask : Nat) (u : MC) (fm : Nat → va_E), mask + n = 2 ^ (nif σ i (sz σ i)) → -1 ≤ u.le.toInt → MD tys L fm mo ap cm ad G th (kb u.K.1) u.me (nI i) u.le (nI u.en) sp (nI ka) (nI kc) u.mx u.se u.gc → Sm3 f fm mo ap cm → ∀ (H : Heap) (locs : List Loc) (ls : Array Slot), va_P D zCl (va_pl L fm) H → va_S (inL L) s.heap H locs → lv_has ls 3 [(2, .int (nI mask)), (0, .ref mo), (1, .int (nI i))] → (∀ (fm : Nat → va_E) (H : Heap) (locs : List Loc) (ls : Array Slot), MD tys L fm mo ap cm ad G th (kb (m_all σ i sp ka kc n mask u).K.1) ((m_all σ i sp ka kc n mask u).me) (nI i) ((m_all σ i sp ka kc n mask u).le) (nI ((m_all σ i sp ka kc n mask u).en)) sp (nI ka) (nI kc) ((m_all σ i sp ka kc n mask u).mx) ((m_all σ i sp ka kc n mask u).se) ((m_all σ i sp ka kc n mask u).gc) → Sm3 f fm mo ap cm → va_P D zCl (va_pl L fm) H → va_S (inL L) s.heap H locs → lv_has ls 3 [(2, .int (nI (2 ^ nif σ i (sz σ i)))), (0, .ref mo), (1, .int (nI i))] → W pgm l e ({ frames := 5, cells := 0, slots := 0, locals := 126 } : Room) s m args below meth c H locs 0 0 Q (F0 m 71 ls [])) → W pgm l e ({ frames := 5, cells := 0, slots := 0, locals := 126 } : Room) s m args below meth c H locs 0 0 Q (F0 m 48 ls []) := by
  obtain ⟨hx, hb, hml, hown, hg, hr, hlocks, hK, hN⟩ := id C0
  have hA : ∀ a ∈ L, inL L a := fun _ h => h
  have h6 := hf.2.2.2
  have h64 : 2 ^ (nif σ i (sz σ i)) ≤ 2 ^ 6 := Nat.pow_le_pow_right (by omega) h6
  intro n
  induction n with
  | zero =>
    intro mask u fm hj hle hD hsm H locs ls hP hS hl hx2
    obtain rfl : mask = 2 ^ (nif σ i (sz σ i)) := by omega
    refine lv_iload_n hx hb dM_explore_48 rfl (lv_at hl 0 rfl) ?_
    refine lv_iconst (v := nI 1) hx hb dM_explore_49 (by decide) ?_
    refine lv_aload_n hx hb dM_explore_50 rfl (lv_at hl 1 rfl) ?_
    refine mm_get (v := .ref (ad 13)) hx hb hg inM hown hK hP hD.1.1.1 hD.2.1 rfl 14 (by decide) (hg _ gw607) (fun _ h9 => h9) rfl dM_explore_51 ?_
    refine lv_iload_n hx hb dM_explore_54 rfl (lv_at hl 2 rfl) ?_
    refine mm_iald hx hb hK hP (hD.1.2 13 (by decide)).1 (show mm_I tys fm (ad 13) 4 (G 13) from (hD.1.2 13 (by decide)).2) (vp_in_nI (show i < 4 by omega) (by omega)) dM_explore_55 ?_
    rw [nI_clamp (by omega)]
    rw [hI]
    refine lv_ishl hx hb dM_explore_56 ?_
    rw [shl_pow h6]
    refine lv_icmp_ge (tgt := 71) hx hb dM_explore_57 (by decide) (fun c57 => ?_) (fun c57 => absurd (nI_le (by omega) (by omega)) c57)
    exact hx2 fm H locs ls hD hsm hP hS (lv_sub hl [0, 1, 2] rfl)
  | succ n ih =>
    intro mask u fm hj hle hD hsm H locs ls hP hS hl hx2
    refine lv_iload_n hx hb dM_explore_48 rfl (lv_at hl 0 rfl) ?_
    refine lv_iconst (v := nI 1) hx hb dM_explore_49 (by decide) ?_
    refine lv_aload_n hx hb dM_explore_50 rfl (lv_at hl 1 rfl) ?_
    refine mm_get (v := .ref (ad 13)) hx hb hg inM hown hK hP hD.1.1.1 hD.2.1 rfl 14 (by decide) (hg _ gw607) (fun _ h9 => h9) rfl dM_explore_51 ?_
    refine lv_iload_n hx hb dM_explore_54 rfl (lv_at hl 2 rfl) ?_
    refine mm_iald hx hb hK hP (hD.1.2 13 (by decide)).1 (show mm_I tys fm (ad 13) 4 (G 13) from (hD.1.2 13 (by decide)).2) (vp_in_nI (show i < 4 by omega) (by omega)) dM_explore_55 ?_
    rw [nI_clamp (by omega)]
    rw [hI]
    refine lv_ishl hx hb dM_explore_56 ?_
    rw [shl_pow h6]
    refine lv_icmp_ge (tgt := 71) hx hb dM_explore_57 (by decide) (fun c57 => absurd c57 (nI_ge (show mask < 2 ^ (nif σ i (sz σ i)) by omega) (by omega))) (fun c57 => ?_)
    refine lv_aload_n hx hb dM_explore_60 rfl (lv_at hl 1 rfl) ?_
    refine lv_iload_n hx hb dM_explore_61 rfl (lv_at hl 0 rfl) ?_
    refine then_v (run_V (n := 1) (As := [.int (nI mask)]) (rest := []) C0 (m_walkc hn hi4 hka hkc hM hL hRl hf h3d hle hD) gw734 gw731 gw733 gsM_walk gw7 (by decide +kernel) ⟨Nat.le_of_ble_eq_true rfl, Nat.le_of_ble_eq_true rfl⟩ rfl rfl ⟨Nat.le_of_ble_eq_true rfl, Nat.le_of_ble_eq_true rfl⟩ hP hD.1.1.1 hD.2.1 rfl rfl rfl hl.1 rfl (Nat.le_of_ble_eq_true rfl) dM_explore_62) hS hA (fun f1 H locs hq62 hP hS => ?_)
    obtain ⟨hu9, hs9⟩ := hq62
    refine lv_iinc (v := nI (mask + 1)) (lv' := [(2, .int (nI (mask + 1))), (0, .ref mo), (1, .int (nI i))]) hx hb dM_explore_65 hl (k := 0) rfl (nI_add mask 1) (by decide) rfl (fun ls hl => ?_)
    refine lv_goto (tgt := 48) hx hb dM_explore_68 (by decide) ?_
    exact ih (mask + 1) (m_walk σ i sp ka kc mask u) _ (by omega) (m_run_le hf 17 (th_o σ i) _ (fun q hq => by unfold th_o at hq; split at hq <;> cases hq; omega) hle) hu9.1 (hsm.trans hs9) H _ ls hP hS (lv_sub hl [0, 1, 2] rfl) hx2
def m_ex (σ : Sg) (i : Nat) (sp : Int32) (ka kc : Nat) (gc : Nat → Int32) (me : Int32) (K0 : kl_K) : MC := m_all σ i sp ka kc (2 ^ nif σ i (sz σ i)) 0 (me, -1, 0, K0, m_c0 17 0 gc, 0, nI 0)
set_option maxRecDepth 100000 in
set_option maxHeartbeats 4000000 in
theorem m_explore {l : Launch} {D : va_G} {tys : List (ClassId × FieldType)} {L : List Nat} {f : Nat → va_E} (hn : L.Nodup) {mo ap cm : Nat} {ad : Nat → Nat} {G : Nat → Nat → Int32} {fe me fu le en se : Int32} {mx : Int64} {gc : Nat → Int32} {th sp : Int32} {i ka kc : Nat} {σ : Sg} (hi4 : i < 4) (hka : ka < 12 ∧ ka ≠ 3) (hkc : kc < 12 ∧ kc ≠ 3) (hM : MT σ G) (hL : MLk σ G i) (hRl : RlOk σ) (hf : FnOk σ i) (h3d : Dm3 σ) (hI : G 13 i = nI (nif σ i (sz σ i))) (hfe : fe = nI 0 ∨ fe = nI 1) (hD : MD tys L f mo ap cm ad G th fe me fu le en sp (nI ka) (nI kc) mx se gc) : MetV l yM_explore wM_explore ({ frames := 5, cells := 0, slots := 0, locals := 126 } : Room) D tys L f [.ref mo, .int (nI i)] (fun f' => (∃ me0 K0, MD tys L f' mo ap cm ad G th (kb (m_ex σ i sp ka kc gc me0 K0).K.1) ((m_ex σ i sp ka kc gc me0 K0).me) (nI i) ((m_ex σ i sp ka kc gc me0 K0).le) (nI ((m_ex σ i sp ka kc gc me0 K0).en)) sp (nI ka) (nI kc) ((m_ex σ i sp ka kc gc me0 K0).mx) ((m_ex σ i sp ka kc gc me0 K0).se) ((m_ex σ i sp ka kc gc me0 K0).gc)) ∧ Sm3 f f' mo ap cm) := by
  refine met_of "LiquidCheckerModel" (by decide) rfl (Nat.le_of_ble_eq_true rfl) ?_
  intro pgm e s m below meth c ls C0 hP hl
  obtain ⟨hx, hb, hml, hown, hg, hr, hlocks, hK, hN⟩ := id C0
  have hA : ∀ a ∈ L, inL L a := fun _ h => h
  obtain ⟨H, hH⟩ : ∃ z, z = s.heap := ⟨_, rfl⟩
  rw [← hH] at hP ⊢
  have hS : va_S (inL L) s.heap H [] := by rw [hH]; exact va_S.rf
  have hl : lv_has ls 3 [(0, .ref mo), (1, .int (nI i))] := hl
  refine lv_aload_n hx hb dM_explore_0 rfl (lv_at hl 0 rfl) ?_
  refine lv_iload_n hx hb dM_explore_1 rfl (lv_at hl 1 rfl) ?_
  refine mm_put (v := .int (nI i)) (ty := .int) hx hb hg inM tyM tyM_ok nmM hown hK hn hA hP hS hD.1.1.1 (show f mo = .inr (6, [.int th, .ref (ad 0), .ref (ad 1), .ref (ad 2), .ref (ad 3), .ref (ad 4), .ref (ad 5), .ref (ad 6), .ref (ad 7), .ref (ad 8), .ref (ad 9), .ref (ad 10), .ref (ad 11), .ref (ad 12), .ref (ad 13), .ref (ad 14), .ref (ad 15), .ref ap, .int fe, .int me, .int fu, .int le, .int en, .ref cm, .int sp, .int (nI ka), .int (nI kc), .long mx, .int se]) from hD.2.1) rfl 20 (by decide) (hg _ gw613) (fun _ h9 => h9) rfl (by decide +kernel) rfl rfl (Nat.le_of_ble_eq_true rfl) dM_explore_2 (fun H locs hP hS => ?_)
  obtain ⟨f1, hf1⟩ : ∃ z, z = va_up f mo (.inr (6, [.int th, .ref (ad 0), .ref (ad 1), .ref (ad 2), .ref (ad 3), .ref (ad 4), .ref (ad 5), .ref (ad 6), .ref (ad 7), .ref (ad 8), .ref (ad 9), .ref (ad 10), .ref (ad 11), .ref (ad 12), .ref (ad 13), .ref (ad 14), .ref (ad 15), .ref ap, .int fe, .int me, .int (nI i), .int le, .int en, .ref cm, .int sp, .int (nI ka), .int (nI kc), .long mx, .int se])) := ⟨_, rfl⟩
  have hP : va_P D zCl (va_pl L f1) H := by rw [hf1]; exact hP
  have hs2 : Same1 f f1 mo := fun z hz => by rw [hf1, va_up_ne _ _ hz]
  have hD2 : MD tys L f1 mo ap cm ad G th fe me (nI i) le en sp (nI ka) (nI kc) mx se gc := hD.updO (by rw [hf1]; exact va_up_self _ _ _) hs2
  have hm2 : Sm3 f _ mo ap cm := Sm3.ofO hs2
  refine lv_aload_n hx hb dM_explore_5 rfl (lv_at hl 0 rfl) ?_
  refine lv_iconst (v := (-1)) hx hb dM_explore_6 (by decide) ?_
  refine mm_put (v := .int (-1)) (ty := .int) hx hb hg inM tyM tyM_ok nmM hown hK hn hA hP hS hD2.1.1.1 (show f1 mo = .inr (6, [.int th, .ref (ad 0), .ref (ad 1), .ref (ad 2), .ref (ad 3), .ref (ad 4), .ref (ad 5), .ref (ad 6), .ref (ad 7), .ref (ad 8), .ref (ad 9), .ref (ad 10), .ref (ad 11), .ref (ad 12), .ref (ad 13), .ref (ad 14), .ref (ad 15), .ref ap, .int fe, .int me, .int (nI i), .int le, .int en, .ref cm, .int sp, .int (nI ka), .int (nI kc), .long mx, .int se]) from hD2.2.1) rfl 21 (by decide) (hg _ gw614) (fun _ h9 => h9) rfl (by decide +kernel) rfl rfl (Nat.le_of_ble_eq_true rfl) dM_explore_7 (fun H locs hP hS => ?_)
  obtain ⟨f3, hf3⟩ : ∃ z, z = va_up f1 mo (.inr (6, [.int th, .ref (ad 0), .ref (ad 1), .ref (ad 2), .ref (ad 3), .ref (ad 4), .ref (ad 5), .ref (ad 6), .ref (ad 7), .ref (ad 8), .ref (ad 9), .ref (ad 10), .ref (ad 11), .ref (ad 12), .ref (ad 13), .ref (ad 14), .ref (ad 15), .ref ap, .int fe, .int me, .int (nI i), .int (-1), .int en, .ref cm, .int sp, .int (nI ka), .int (nI kc), .long mx, .int se])) := ⟨_, rfl⟩
  have hP : va_P D zCl (va_pl L f3) H := by rw [hf3]; exact hP
  have hs4 : Same1 f1 f3 mo := fun z hz => by rw [hf3, va_up_ne _ _ hz]
  have hD4 : MD tys L f3 mo ap cm ad G th fe me (nI i) (-1) en sp (nI ka) (nI kc) mx se gc := hD2.updO (by rw [hf3]; exact va_up_self _ _ _) hs4
  have hm4 := hm2.trans (Sm3.ofO hs4)
  refine lv_aload_n hx hb dM_explore_10 rfl (lv_at hl 0 rfl) ?_
  refine lv_iconst (v := nI 0) hx hb dM_explore_11 (by decide) ?_
  refine mm_put (v := .int (nI 0)) (ty := .int) hx hb hg inM tyM tyM_ok nmM hown hK hn hA hP hS hD4.1.1.1 (show f3 mo = .inr (6, [.int th, .ref (ad 0), .ref (ad 1), .ref (ad 2), .ref (ad 3), .ref (ad 4), .ref (ad 5), .ref (ad 6), .ref (ad 7), .ref (ad 8), .ref (ad 9), .ref (ad 10), .ref (ad 11), .ref (ad 12), .ref (ad 13), .ref (ad 14), .ref (ad 15), .ref ap, .int fe, .int me, .int (nI i), .int (-1), .int en, .ref cm, .int sp, .int (nI ka), .int (nI kc), .long mx, .int se]) from hD4.2.1) rfl 22 (by decide) (hg _ gw615) (fun _ h9 => h9) rfl (by decide +kernel) rfl rfl (Nat.le_of_ble_eq_true rfl) dM_explore_12 (fun H locs hP hS => ?_)
  obtain ⟨f5, hf5⟩ : ∃ z, z = va_up f3 mo (.inr (6, [.int th, .ref (ad 0), .ref (ad 1), .ref (ad 2), .ref (ad 3), .ref (ad 4), .ref (ad 5), .ref (ad 6), .ref (ad 7), .ref (ad 8), .ref (ad 9), .ref (ad 10), .ref (ad 11), .ref (ad 12), .ref (ad 13), .ref (ad 14), .ref (ad 15), .ref ap, .int fe, .int me, .int (nI i), .int (-1), .int (nI 0), .ref cm, .int sp, .int (nI ka), .int (nI kc), .long mx, .int se])) := ⟨_, rfl⟩
  have hP : va_P D zCl (va_pl L f5) H := by rw [hf5]; exact hP
  have hs6 : Same1 f3 f5 mo := fun z hz => by rw [hf5, va_up_ne _ _ hz]
  have hD6 : MD tys L f5 mo ap cm ad G th fe me (nI i) (-1) (nI 0) sp (nI ka) (nI kc) mx se gc := hD4.updO (by rw [hf5]; exact va_up_self _ _ _) hs6
  have hm6 := hm4.trans (Sm3.ofO hs6)
  refine lv_aload_n hx hb dM_explore_15 rfl (lv_at hl 0 rfl) ?_
  refine lv_iconst (v := nI 0) hx hb dM_explore_16 (by decide) ?_
  refine mm_put (v := .int (nI 0)) (ty := .boolean) hx hb hg inM tyM tyM_ok nmM hown hK hn hA hP hS hD6.1.1.1 (show f5 mo = .inr (6, [.int th, .ref (ad 0), .ref (ad 1), .ref (ad 2), .ref (ad 3), .ref (ad 4), .ref (ad 5), .ref (ad 6), .ref (ad 7), .ref (ad 8), .ref (ad 9), .ref (ad 10), .ref (ad 11), .ref (ad 12), .ref (ad 13), .ref (ad 14), .ref (ad 15), .ref ap, .int fe, .int me, .int (nI i), .int (-1), .int (nI 0), .ref cm, .int sp, .int (nI ka), .int (nI kc), .long mx, .int se]) from hD6.2.1) rfl 28 (by decide) (hg _ gw621) (fun _ h9 => h9) rfl (by decide +kernel) rfl rfl (Nat.le_of_ble_eq_true rfl) dM_explore_17 (fun H locs hP hS => ?_)
  obtain ⟨f7, hf7⟩ : ∃ z, z = va_up f5 mo (.inr (6, [.int th, .ref (ad 0), .ref (ad 1), .ref (ad 2), .ref (ad 3), .ref (ad 4), .ref (ad 5), .ref (ad 6), .ref (ad 7), .ref (ad 8), .ref (ad 9), .ref (ad 10), .ref (ad 11), .ref (ad 12), .ref (ad 13), .ref (ad 14), .ref (ad 15), .ref ap, .int fe, .int me, .int (nI i), .int (-1), .int (nI 0), .ref cm, .int sp, .int (nI ka), .int (nI kc), .long mx, .int (nI 0)])) := ⟨_, rfl⟩
  have hP : va_P D zCl (va_pl L f7) H := by rw [hf7]; exact hP
  have hs8 : Same1 f5 f7 mo := fun z hz => by rw [hf7, va_up_ne _ _ hz]
  have hD8 : MD tys L f7 mo ap cm ad G th fe me (nI i) (-1) (nI 0) sp (nI ka) (nI kc) mx (nI 0) gc := hD6.updO (by rw [hf7]; exact va_up_self _ _ _) hs8
  have hm8 := hm6.trans (Sm3.ofO hs8)
  refine lv_aload_n hx hb dM_explore_20 rfl (lv_at hl 0 rfl) ?_
  refine lv_lconst (v := 0) hx hb dM_explore_21 (by decide) ?_
  refine mm_put (v := .long 0) (ty := .long) hx hb hg inM tyM tyM_ok nmM hown hK hn hA hP hS hD8.1.1.1 (show f7 mo = .inr (6, [.int th, .ref (ad 0), .ref (ad 1), .ref (ad 2), .ref (ad 3), .ref (ad 4), .ref (ad 5), .ref (ad 6), .ref (ad 7), .ref (ad 8), .ref (ad 9), .ref (ad 10), .ref (ad 11), .ref (ad 12), .ref (ad 13), .ref (ad 14), .ref (ad 15), .ref ap, .int fe, .int me, .int (nI i), .int (-1), .int (nI 0), .ref cm, .int sp, .int (nI ka), .int (nI kc), .long mx, .int (nI 0)]) from hD8.2.1) rfl 27 (by decide) (hg _ gw620) (fun _ h9 => h9) rfl (by decide +kernel) rfl rfl (Nat.le_of_ble_eq_true rfl) dM_explore_22 (fun H locs hP hS => ?_)
  obtain ⟨f9, hf9⟩ : ∃ z, z = va_up f7 mo (.inr (6, [.int th, .ref (ad 0), .ref (ad 1), .ref (ad 2), .ref (ad 3), .ref (ad 4), .ref (ad 5), .ref (ad 6), .ref (ad 7), .ref (ad 8), .ref (ad 9), .ref (ad 10), .ref (ad 11), .ref (ad 12), .ref (ad 13), .ref (ad 14), .ref (ad 15), .ref ap, .int fe, .int me, .int (nI i), .int (-1), .int (nI 0), .ref cm, .int sp, .int (nI ka), .int (nI kc), .long 0, .int (nI 0)])) := ⟨_, rfl⟩
  have hP : va_P D zCl (va_pl L f9) H := by rw [hf9]; exact hP
  have hs10 : Same1 f7 f9 mo := fun z hz => by rw [hf9, va_up_ne _ _ hz]
  have hD10 : MD tys L f9 mo ap cm ad G th fe me (nI i) (-1) (nI 0) sp (nI ka) (nI kc) 0 (nI 0) gc := hD8.updO (by rw [hf9]; exact va_up_self _ _ _) hs10
  have hm10 := hm8.trans (Sm3.ofO hs10)
  refine lv_iconst (v := nI 0) hx hb dM_explore_25 (by decide) ?_
  refine lv_istore_n (lv' := [(2, .int (nI 0)), (0, .ref mo), (1, .int (nI i))]) hx hb dM_explore_26 rfl hl (by decide) rfl (fun ls hl => ?_)
  refine m_came_loop C0 hn 17 0 gc _ (by omega) hD10 hm10 H _ ls hP hS (lv_sub hl [0, 1, 2] rfl) (fun fm H locs ls hD5 hsm hP hS hl => ?_)
  refine lv_iconst (v := nI 0) hx hb dM_explore_46 (by decide) ?_
  refine lv_istore_n (lv' := [(2, .int (nI 0)), (0, .ref mo), (1, .int (nI i))]) hx hb dM_explore_47 rfl hl (by decide) rfl (fun ls hl => ?_)
  obtain ⟨K0, hK0⟩ : ∃ K0 : kl_K, fe = kb K0.1 := by rcases hfe with e | e; exact ⟨(false, fun _ _ => none), e⟩; exact ⟨(true, fun _ _ => none), e⟩
  refine m_mask_loop C0 hn hi4 hka hkc hM hL hRl hf h3d hI (2 ^ nif σ i (sz σ i)) 0 (me, -1, 0, K0, m_c0 17 0 gc, 0, nI 0) _ (by omega) (show -1 ≤ (-1 : Int32).toInt by decide +kernel) (by rw [hK0] at hD5; exact hD5) hsm H _ ls hP hS (lv_sub hl [0, 1, 2] rfl) (fun fm H locs ls hD6 hsm6 hP hS hl => ?_)
  exact ret_v C0 hP hS ⟨⟨me, K0, hD6⟩, hsm6⟩ dM_explore_71
