/-! LiquidCheckerModel: relations learned and shown; a way ends; a call. -/
set_option maxRecDepth 100000 in
set_option maxHeartbeats 4000000 in
theorem m_shown_loop {p : Program} {l : Launch} {e : Env} {s : State} {m : MethodId} {args : Array Value} {below : List Frame} {meth : Method} {c : Code} {D : va_G} {tys : List (ClassId × FieldType)} {L : List Nat} {f : Nat → va_E} (C0 : Cx p s m args meth c cM_showsAll 5 "LiquidCheckerModel" (some .boolean) D tys) (hn : L.Nodup) {mo ap cm : Nat} {ad : Nat → Nat} {G : Nat → Nat → Int32} {th fe me fu le en sp ka kc se : Int32} {mx : Int64} {gc : Nat → Int32} {σ : Sg} {r u v : Nat} {T : Int} (hr8 : r < 8) (hu : u < 12 ∧ u ≠ 3) (hv : v < 12 ∧ v ≠ 3) (hM : MT σ G) (hR : RelOk σ r) {K : kl_K} (hT : T ≤ 300000) (hok : kl_ok T K) (hD : MD tys L f mo ap cm ad G th fe me fu le en sp ka kc mx se gc) (hk : MnK tys f ap K) : ∀ (n j : Nat), j + n = rn σ r → s_shw σ r u v K = allB (kl_sh u v (fun j => nt (rA σ r j)) (fun j => nt (rB σ r j)) (fun j => rK σ r j) K) n j → ∀ (H : Heap) (locs : List Loc) (ls : Array Slot), va_P D zCl (va_pl L f) H → va_S (inL L) s.heap H locs → lv_has ls 5 [(4, .int (nI (4 * r + j))), (0, .ref mo), (1, .int (nI r)), (2, .int (nI u)), (3, .int (nI v))] → W p l e ({ frames := 1, cells := 0, slots := 0, locals := 24 } : Room) s m args below meth c H locs 0 0 (MQ below (va_Qi (fun x f' => x = kb (s_shw σ r u v K) ∧ f' = f) (cB D L) (inL L)) args s 0 0 (inL L)) (F0 m 5 ls []) := by
  obtain ⟨hx, hb, hml, hown, hg, hr, hlocks, hK, hN⟩ := id C0
  have hA : ∀ a ∈ L, inL L a := fun _ h => h
  have hr4 := hR.1
  intro n
  induction n with
  | zero =>
    intro j hi hal H locs ls hP hS hl
    obtain rfl : j = rn σ r := by omega
    refine lv_iload hx hb dM_showsAll_5 (lv_at hl 0 rfl) ?_
    refine lv_iconst (v := nI 4) hx hb dM_showsAll_7 (by decide) ?_
    refine lv_iload_n hx hb dM_showsAll_8 rfl (lv_at hl 2 rfl) ?_
    refine lv_imul hx hb dM_showsAll_9 ?_
    rw [pk_mul]
    refine lv_aload_n hx hb dM_showsAll_10 rfl (lv_at hl 1 rfl) ?_
    refine mm_get (v := .ref (ad 3)) hx hb hg inM hown hK hP hD.1.1.1 hD.2.1 rfl 4 (by decide) (hg _ gw597) (fun _ h9 => h9) rfl dM_showsAll_11 ?_
    refine lv_iload_n hx hb dM_showsAll_14 rfl (lv_at hl 2 rfl) ?_
    refine mm_iald hx hb hK hP (hD.1.2 3 (by decide)).1 (show mm_I tys f (ad 3) 8 (G 3) from (hD.1.2 3 (by decide)).2) (vp_in_nI (show r < 8 by omega) (by omega)) dM_showsAll_15 ?_
    rw [nI_clamp (by omega)]
    rw [hM.1 r hr8]
    refine lv_iadd hx hb dM_showsAll_16 ?_
    rw [nI_add]
    refine lv_icmp_ge (tgt := 67) hx hb dM_showsAll_17 (by decide) (fun c17 => ?_) (fun c17 => absurd (nI_le (by omega) (by omega)) c17)
    refine lv_iconst (v := nI 1) hx hb dM_showsAll_67 (by decide) ?_
    exact ret_z C0 rfl hP hS ⟨by rw [hal]; rfl, rfl⟩ dM_showsAll_68
  | succ n ih =>
    intro j hi hal H locs ls hP hS hl
    refine lv_iload hx hb dM_showsAll_5 (lv_at hl 0 rfl) ?_
    refine lv_iconst (v := nI 4) hx hb dM_showsAll_7 (by decide) ?_
    refine lv_iload_n hx hb dM_showsAll_8 rfl (lv_at hl 2 rfl) ?_
    refine lv_imul hx hb dM_showsAll_9 ?_
    rw [pk_mul]
    refine lv_aload_n hx hb dM_showsAll_10 rfl (lv_at hl 1 rfl) ?_
    refine mm_get (v := .ref (ad 3)) hx hb hg inM hown hK hP hD.1.1.1 hD.2.1 rfl 4 (by decide) (hg _ gw597) (fun _ h9 => h9) rfl dM_showsAll_11 ?_
    refine lv_iload_n hx hb dM_showsAll_14 rfl (lv_at hl 2 rfl) ?_
    refine mm_iald hx hb hK hP (hD.1.2 3 (by decide)).1 (show mm_I tys f (ad 3) 8 (G 3) from (hD.1.2 3 (by decide)).2) (vp_in_nI (show r < 8 by omega) (by omega)) dM_showsAll_15 ?_
    rw [nI_clamp (by omega)]
    rw [hM.1 r hr8]
    refine lv_iadd hx hb dM_showsAll_16 ?_
    rw [nI_add]
    refine lv_icmp_ge (tgt := 67) hx hb dM_showsAll_17 (by decide) (fun c17 => absurd c17 (nI_ge (show 4 * r + j < 4 * r + rn σ r by omega) (by omega))) (fun c17 => ?_)
    refine lv_aload_n hx hb dM_showsAll_20 rfl (lv_at hl 1 rfl) ?_
    refine lv_aload_n hx hb dM_showsAll_21 rfl (lv_at hl 1 rfl) ?_
    refine mm_get (v := .ref (ad 0)) hx hb hg inM hown hK hP hD.1.1.1 hD.2.1 rfl 1 (by decide) (hg _ gw594) (fun _ h9 => h9) rfl dM_showsAll_22 ?_
    refine lv_iload hx hb dM_showsAll_25 (lv_at hl 0 rfl) ?_
    refine mm_iald hx hb hK hP (hD.1.2 0 (by decide)).1 (show mm_I tys f (ad 0) 32 (G 0) from (hD.1.2 0 (by decide)).2) (vp_in_nI (show 4 * r + j < 32 by omega) (by omega)) dM_showsAll_27 ?_
    rw [nI_clamp (by omega)]
    rw [(hM.2.1 r j hr8 (by omega)).1.trans (hR.2 j (by omega)).1.1]
    refine lv_iload_n hx hb dM_showsAll_28 rfl (lv_at hl 3 rfl) ?_
    refine lv_iload_n hx hb dM_showsAll_29 rfl (lv_at hl 4 rfl) ?_
    refine then_i (run_S (n := 3) (As := [.int (nI (nt (rA σ r j))), .int (nI u), .int (nI v)]) (rest := [.ref mo]) C0 (m_stand hn (hR.2 j (by omega)).1.2) gw746 gw744 gw745 gw7 (by decide +kernel) ⟨Nat.le_of_ble_eq_true rfl, Nat.le_of_ble_eq_true rfl⟩ rfl rfl ⟨Nat.le_of_ble_eq_true rfl, Nat.le_of_ble_eq_true rfl⟩ hP rfl hl.1 rfl (Nat.le_of_ble_eq_true rfl) dM_showsAll_30) hS hA (fun r2 f1 H locs hq30 hP hS => ?_)
    obtain ⟨er2, ef1⟩ := hq30
    subst er2
    rw [ef1] at hP
    refine lv_aload_n hx hb dM_showsAll_33 rfl (lv_at hl 1 rfl) ?_
    refine mm_get (v := .ref (ad 1)) hx hb hg inM hown hK hP hD.1.1.1 hD.2.1 rfl 2 (by decide) (hg _ gw595) (fun _ h9 => h9) rfl dM_showsAll_34 ?_
    refine lv_iload hx hb dM_showsAll_37 (lv_at hl 0 rfl) ?_
    refine mm_iald hx hb hK hP (hD.1.2 1 (by decide)).1 (show mm_I tys f (ad 1) 32 (G 1) from (hD.1.2 1 (by decide)).2) (vp_in_nI (show 4 * r + j < 32 by omega) (by omega)) dM_showsAll_39 ?_
    rw [nI_clamp (by omega)]
    rw [(hM.2.1 r j hr8 (by omega)).2.1.trans (hR.2 j (by omega)).2.1.1]
    refine lv_iload_n hx hb dM_showsAll_40 rfl (lv_at hl 3 rfl) ?_
    refine lv_iload_n hx hb dM_showsAll_41 rfl (lv_at hl 4 rfl) ?_
    refine then_i (run_S (n := 3) (As := [.int (nI (nt (rB σ r j))), .int (nI u), .int (nI v)]) (rest := [.int (nI (mst (nt (rA σ r j)) u v)), .ref mo]) C0 (m_stand hn (hR.2 j (by omega)).2.1.2) gw746 gw744 gw745 gw7 (by decide +kernel) ⟨Nat.le_of_ble_eq_true rfl, Nat.le_of_ble_eq_true rfl⟩ rfl rfl ⟨Nat.le_of_ble_eq_true rfl, Nat.le_of_ble_eq_true rfl⟩ hP rfl hl.1 rfl (Nat.le_of_ble_eq_true rfl) dM_showsAll_42) hS hA (fun r4 f3 H locs hq42 hP hS => ?_)
    obtain ⟨er4, ef3⟩ := hq42
    subst er4
    rw [ef3] at hP
    refine lv_aload_n hx hb dM_showsAll_45 rfl (lv_at hl 1 rfl) ?_
    refine mm_get (v := .ref (ad 2)) hx hb hg inM hown hK hP hD.1.1.1 hD.2.1 rfl 3 (by decide) (hg _ gw596) (fun _ h9 => h9) rfl dM_showsAll_46 ?_
    refine lv_iload hx hb dM_showsAll_49 (lv_at hl 0 rfl) ?_
    refine mm_iald hx hb hK hP (hD.1.2 2 (by decide)).1 (show mm_I tys f (ad 2) 32 (G 2) from (hD.1.2 2 (by decide)).2) (vp_in_nI (show 4 * r + j < 32 by omega) (by omega)) dM_showsAll_51 ?_
    rw [nI_clamp (by omega)]
    rw [(hM.2.1 r j hr8 (by omega)).2.2]
    refine lv_i2l hx hb dM_showsAll_52 rfl ?_
    refine then_i (run_V (n := 3) (As := [.int (nI (mst (nt (rA σ r j)) u v)), .int (nI (mst (nt (rB σ r j)) u v)), .long ((rK σ r j).toInt64)]) (rest := []) C0 (ma_shows hn hD.1.1.1 hD.1.1.2.1 hD.2.1 hk hok hT (nf_lt (hR.2 j (by omega)).1.2 hu.1 hv.1) (nf_lt (hR.2 j (by omega)).2.1.2 hu.1 hv.1) (mst_nf (hR.2 j (by omega)).1.2 hu.2 hv.2) (mst_nf (hR.2 j (by omega)).2.1.2 hu.2 hv.2) (i64_i32 _) (by have := (hR.2 j (by omega)).2.2; omega)) gw766 gw763 gw765 gsM_shows gw7 (by decide +kernel) ⟨Nat.le_of_ble_eq_true rfl, Nat.le_of_ble_eq_true rfl⟩ rfl rfl ⟨Nat.le_of_ble_eq_true rfl, Nat.le_of_ble_eq_true rfl⟩ hP hD.1.1.1 hD.2.1 rfl rfl rfl hl.1 rfl (Nat.le_of_ble_eq_true rfl) dM_showsAll_53) hS hA (fun r6 f5 H locs hq53 hP hS => ?_)
    obtain ⟨er6, ef5⟩ := hq53
    subst er6
    rw [ef5] at hP
    refine lv_if_ne (tgt := 61) hx hb dM_showsAll_56 (by decide) (fun c56 => ?_) (fun c56 => ?_)
    · have c56 : (kl_le (K.2 (nf (nt (rA σ r j)) u v) (nf (nt (rB σ r j)) u v)) (rK σ r j).toInt) = true := kb_t.mp c56
      refine lv_iinc (v := nI ((4 * r + j) + 1)) (lv' := [(4, .int (nI ((4 * r + j) + 1))), (0, .ref mo), (1, .int (nI r)), (2, .int (nI u)), (3, .int (nI v))]) hx hb dM_showsAll_61 hl (k := 0) rfl (nI_add (4 * r + j) 1) (by decide) rfl (fun ls hl => ?_)
      refine lv_goto (tgt := 5) hx hb dM_showsAll_64 (by decide) ?_
      exact ih (j + 1) (by omega) (by rw [hal]; show (kl_sh u v (fun j => nt (rA σ r j)) (fun j => nt (rB σ r j)) (fun j => rK σ r j) K j && _) = _; rw [show kl_sh u v (fun j => nt (rA σ r j)) (fun j => nt (rB σ r j)) (fun j => rK σ r j) K j = true from c56]; rfl) H locs ls hP hS (lv_sub hl [0, 1, 2, 3, 4] rfl)
    · have c56 : (kl_le (K.2 (nf (nt (rA σ r j)) u v) (nf (nt (rB σ r j)) u v)) (rK σ r j).toInt) = false := kb_0.mp c56
      refine lv_iconst (v := nI 0) hx hb dM_showsAll_59 (by decide) ?_
      exact ret_z C0 rfl hP hS ⟨by rw [hal]; show _ = kb (kl_sh u v (fun j => nt (rA σ r j)) (fun j => nt (rB σ r j)) (fun j => rK σ r j) K j && _); rw [show kl_sh u v (fun j => nt (rA σ r j)) (fun j => nt (rB σ r j)) (fun j => rK σ r j) K j = false from c56]; rfl, rfl⟩ dM_showsAll_60
set_option maxRecDepth 100000 in
set_option maxHeartbeats 4000000 in
theorem m_showsAll {l : Launch} {D : va_G} {tys : List (ClassId × FieldType)} {L : List Nat} {f : Nat → va_E} (hn : L.Nodup) {mo ap cm : Nat} {ad : Nat → Nat} {G : Nat → Nat → Int32} {th fe me fu le en sp ka kc se : Int32} {mx : Int64} {gc : Nat → Int32} {σ : Sg} {r u v : Nat} {T : Int} (hr8 : r < 8) (hu : u < 12 ∧ u ≠ 3) (hv : v < 12 ∧ v ≠ 3) (hM : MT σ G) (hR : RelOk σ r) {K : kl_K} (hT : T ≤ 300000) (hok : kl_ok T K) (hD : MD tys L f mo ap cm ad G th fe me fu le en sp ka kc mx se gc) (hk : MnK tys f ap K) : MetI l yM_showsAll wM_showsAll ({ frames := 1, cells := 0, slots := 0, locals := 24 } : Room) D tys L f [.ref mo, .int (nI r), .int (nI u), .int (nI v)] (fun x f' => x = kb (s_shw σ r u v K) ∧ f' = f) := by
  refine met_of "LiquidCheckerModel" (by decide) rfl (Nat.le_of_ble_eq_true rfl) ?_
  intro pgm e s m below meth c ls C0 hP hl
  obtain ⟨hx, hb, hml, hown, hg, hr, hlocks, hK, hN⟩ := id C0
  have hA : ∀ a ∈ L, inL L a := fun _ h => h
  obtain ⟨H, hH⟩ : ∃ z, z = s.heap := ⟨_, rfl⟩
  rw [← hH] at hP ⊢
  have hS : va_S (inL L) s.heap H [] := by rw [hH]; exact va_S.rf
  have hl : lv_has ls 5 [(0, .ref mo), (1, .int (nI r)), (2, .int (nI u)), (3, .int (nI v))] := hl
  refine lv_iconst (v := nI 4) hx hb dM_showsAll_0 (by decide) ?_
  refine lv_iload_n hx hb dM_showsAll_1 rfl (lv_at hl 1 rfl) ?_
  refine lv_imul hx hb dM_showsAll_2 ?_
  rw [pk_mul]
  refine lv_istore (lv' := [(4, .int (nI (4 * r))), (0, .ref mo), (1, .int (nI r)), (2, .int (nI u)), (3, .int (nI v))]) hx hb dM_showsAll_3 hl (by decide) rfl (fun ls hl => ?_)
  exact m_shown_loop C0 hn hr8 hu hv hM hR hT hok hD hk (rn σ r) 0 (by omega) rfl H [] ls hP hS (lv_sub hl [0, 1, 2, 3, 4] rfl)
set_option maxRecDepth 100000 in
set_option maxHeartbeats 4000000 in
theorem m_known_loop {p : Program} {l : Launch} {e : Env} {s : State} {m : MethodId} {args : Array Value} {below : List Frame} {meth : Method} {c : Code} {D : va_G} {tys : List (ClassId × FieldType)} {L : List Nat} {f : Nat → va_E} {Q : State → Prop} (C0 : Cx p s m args meth c cM_knowAll 5 "LiquidCheckerModel" none D tys) (hn : L.Nodup) {mo ap cm : Nat} {ad : Nat → Nat} {G : Nat → Nat → Int32} {th me fu le en sp ka kc se : Int32} {mx : Int64} {gc : Nat → Int32} {σ : Sg} {r u v : Nat} {T : Int} (hr8 : r < 8) (hu : u < 12 ∧ u ≠ 3) (hv : v < 12 ∧ v ≠ 3) (hM : MT σ G) (hR : RelOk σ r) (hT : T + 4004 ≤ 300000) : ∀ (n j : Nat) (K : kl_K) (fm : Nat → va_E), j + n = rn σ r → MD tys L fm mo ap cm ad G th (kb K.1) me fu le en sp ka kc mx se gc → MnK tys fm ap K → Same2 f fm mo ap → kl_ok (T + 1001 * (j : Int)) K → ∀ (H : Heap) (locs : List Loc) (ls : Array Slot), va_P D zCl (va_pl L fm) H → va_S (inL L) s.heap H locs → lv_has ls 5 [(4, .int (nI (4 * r + j))), (0, .ref mo), (1, .int (nI r)), (2, .int (nI u)), (3, .int (nI v))] → (∀ (fm : Nat → va_E) (H : Heap) (locs : List Loc) (ls : Array Slot), MD tys L fm mo ap cm ad G th (kb (r_it (kl_rel u v (fun j => nt (rA σ r j)) (fun j => nt (rB σ r j)) (fun j => rK σ r j)) n j K).1) me fu le en sp ka kc mx se gc → MnK tys fm ap (r_it (kl_rel u v (fun j => nt (rA σ r j)) (fun j => nt (rB σ r j)) (fun j => rK σ r j)) n j K) → Same2 f fm mo ap → va_P D zCl (va_pl L fm) H → va_S (inL L) s.heap H locs → lv_has ls 5 [(4, .int (nI (4 * r + rn σ r))), (0, .ref mo), (1, .int (nI r)), (2, .int (nI u)), (3, .int (nI v))] → W p l e ({ frames := 1, cells := 0, slots := 0, locals := 28 } : Room) s m args below meth c H locs 0 0 Q (F0 m 62 ls [])) → W p l e ({ frames := 1, cells := 0, slots := 0, locals := 28 } : Room) s m args below meth c H locs 0 0 Q (F0 m 5 ls []) := by
  obtain ⟨hx, hb, hml, hown, hg, hr, hlocks, hK, hN⟩ := id C0
  have hA : ∀ a ∈ L, inL L a := fun _ h => h
  have hr4 := hR.1
  intro n
  induction n with
  | zero =>
    intro j K fm hi hD hk hsm hok H locs ls hP hS hl hx2
    obtain rfl : j = rn σ r := by omega
    refine lv_iload hx hb dM_knowAll_5 (lv_at hl 0 rfl) ?_
    refine lv_iconst (v := nI 4) hx hb dM_knowAll_7 (by decide) ?_
    refine lv_iload_n hx hb dM_knowAll_8 rfl (lv_at hl 2 rfl) ?_
    refine lv_imul hx hb dM_knowAll_9 ?_
    rw [pk_mul]
    refine lv_aload_n hx hb dM_knowAll_10 rfl (lv_at hl 1 rfl) ?_
    refine mm_get (v := .ref (ad 3)) hx hb hg inM hown hK hP hD.1.1.1 hD.2.1 rfl 4 (by decide) (hg _ gw597) (fun _ h9 => h9) rfl dM_knowAll_11 ?_
    refine lv_iload_n hx hb dM_knowAll_14 rfl (lv_at hl 2 rfl) ?_
    refine mm_iald hx hb hK hP (hD.1.2 3 (by decide)).1 (show mm_I tys fm (ad 3) 8 (G 3) from (hD.1.2 3 (by decide)).2) (vp_in_nI (show r < 8 by omega) (by omega)) dM_knowAll_15 ?_
    rw [nI_clamp (by omega)]
    rw [hM.1 r hr8]
    refine lv_iadd hx hb dM_knowAll_16 ?_
    rw [nI_add]
    refine lv_icmp_ge (tgt := 62) hx hb dM_knowAll_17 (by decide) (fun c17 => ?_) (fun c17 => absurd (nI_le (by omega) (by omega)) c17)
    exact hx2 fm H locs ls hD hk hsm hP hS (lv_sub hl [0, 1, 2, 3, 4] rfl)
  | succ n ih =>
    intro j K fm hi hD hk hsm hok H locs ls hP hS hl hx2
    refine lv_iload hx hb dM_knowAll_5 (lv_at hl 0 rfl) ?_
    refine lv_iconst (v := nI 4) hx hb dM_knowAll_7 (by decide) ?_
    refine lv_iload_n hx hb dM_knowAll_8 rfl (lv_at hl 2 rfl) ?_
    refine lv_imul hx hb dM_knowAll_9 ?_
    rw [pk_mul]
    refine lv_aload_n hx hb dM_knowAll_10 rfl (lv_at hl 1 rfl) ?_
    refine mm_get (v := .ref (ad 3)) hx hb hg inM hown hK hP hD.1.1.1 hD.2.1 rfl 4 (by decide) (hg _ gw597) (fun _ h9 => h9) rfl dM_knowAll_11 ?_
    refine lv_iload_n hx hb dM_knowAll_14 rfl (lv_at hl 2 rfl) ?_
    refine mm_iald hx hb hK hP (hD.1.2 3 (by decide)).1 (show mm_I tys fm (ad 3) 8 (G 3) from (hD.1.2 3 (by decide)).2) (vp_in_nI (show r < 8 by omega) (by omega)) dM_knowAll_15 ?_
    rw [nI_clamp (by omega)]
    rw [hM.1 r hr8]
    refine lv_iadd hx hb dM_knowAll_16 ?_
    rw [nI_add]
    refine lv_icmp_ge (tgt := 62) hx hb dM_knowAll_17 (by decide) (fun c17 => absurd c17 (nI_ge (show 4 * r + j < 4 * r + rn σ r by omega) (by omega))) (fun c17 => ?_)
    refine lv_aload_n hx hb dM_knowAll_20 rfl (lv_at hl 1 rfl) ?_
    refine lv_aload_n hx hb dM_knowAll_21 rfl (lv_at hl 1 rfl) ?_
    refine mm_get (v := .ref (ad 0)) hx hb hg inM hown hK hP hD.1.1.1 hD.2.1 rfl 1 (by decide) (hg _ gw594) (fun _ h9 => h9) rfl dM_knowAll_22 ?_
    refine lv_iload hx hb dM_knowAll_25 (lv_at hl 0 rfl) ?_
    refine mm_iald hx hb hK hP (hD.1.2 0 (by decide)).1 (show mm_I tys fm (ad 0) 32 (G 0) from (hD.1.2 0 (by decide)).2) (vp_in_nI (show 4 * r + j < 32 by omega) (by omega)) dM_knowAll_27 ?_
    rw [nI_clamp (by omega)]
    rw [(hM.2.1 r j hr8 (by omega)).1.trans (hR.2 j (by omega)).1.1]
    refine lv_iload_n hx hb dM_knowAll_28 rfl (lv_at hl 3 rfl) ?_
    refine lv_iload_n hx hb dM_knowAll_29 rfl (lv_at hl 4 rfl) ?_
    refine then_i (run_S (n := 3) (As := [.int (nI (nt (rA σ r j))), .int (nI u), .int (nI v)]) (rest := [.ref mo]) C0 (m_stand hn (hR.2 j (by omega)).1.2) gw746 gw744 gw745 gw7 (by decide +kernel) ⟨Nat.le_of_ble_eq_true rfl, Nat.le_of_ble_eq_true rfl⟩ rfl rfl ⟨Nat.le_of_ble_eq_true rfl, Nat.le_of_ble_eq_true rfl⟩ hP rfl hl.1 rfl (Nat.le_of_ble_eq_true rfl) dM_knowAll_30) hS hA (fun r2 f1 H locs hq30 hP hS => ?_)
    obtain ⟨er2, ef1⟩ := hq30
    subst er2
    rw [ef1] at hP
    refine lv_aload_n hx hb dM_knowAll_33 rfl (lv_at hl 1 rfl) ?_
    refine mm_get (v := .ref (ad 1)) hx hb hg inM hown hK hP hD.1.1.1 hD.2.1 rfl 2 (by decide) (hg _ gw595) (fun _ h9 => h9) rfl dM_knowAll_34 ?_
    refine lv_iload hx hb dM_knowAll_37 (lv_at hl 0 rfl) ?_
    refine mm_iald hx hb hK hP (hD.1.2 1 (by decide)).1 (show mm_I tys fm (ad 1) 32 (G 1) from (hD.1.2 1 (by decide)).2) (vp_in_nI (show 4 * r + j < 32 by omega) (by omega)) dM_knowAll_39 ?_
    rw [nI_clamp (by omega)]
    rw [(hM.2.1 r j hr8 (by omega)).2.1.trans (hR.2 j (by omega)).2.1.1]
    refine lv_iload_n hx hb dM_knowAll_40 rfl (lv_at hl 3 rfl) ?_
    refine lv_iload_n hx hb dM_knowAll_41 rfl (lv_at hl 4 rfl) ?_
    refine then_i (run_S (n := 3) (As := [.int (nI (nt (rB σ r j))), .int (nI u), .int (nI v)]) (rest := [.int (nI (mst (nt (rA σ r j)) u v)), .ref mo]) C0 (m_stand hn (hR.2 j (by omega)).2.1.2) gw746 gw744 gw745 gw7 (by decide +kernel) ⟨Nat.le_of_ble_eq_true rfl, Nat.le_of_ble_eq_true rfl⟩ rfl rfl ⟨Nat.le_of_ble_eq_true rfl, Nat.le_of_ble_eq_true rfl⟩ hP rfl hl.1 rfl (Nat.le_of_ble_eq_true rfl) dM_knowAll_42) hS hA (fun r4 f3 H locs hq42 hP hS => ?_)
    obtain ⟨er4, ef3⟩ := hq42
    subst er4
    rw [ef3] at hP
    refine lv_aload_n hx hb dM_knowAll_45 rfl (lv_at hl 1 rfl) ?_
    refine mm_get (v := .ref (ad 2)) hx hb hg inM hown hK hP hD.1.1.1 hD.2.1 rfl 3 (by decide) (hg _ gw596) (fun _ h9 => h9) rfl dM_knowAll_46 ?_
    refine lv_iload hx hb dM_knowAll_49 (lv_at hl 0 rfl) ?_
    refine mm_iald hx hb hK hP (hD.1.2 2 (by decide)).1 (show mm_I tys fm (ad 2) 32 (G 2) from (hD.1.2 2 (by decide)).2) (vp_in_nI (show 4 * r + j < 32 by omega) (by omega)) dM_knowAll_51 ?_
    rw [nI_clamp (by omega)]
    rw [(hM.2.1 r j hr8 (by omega)).2.2]
    refine lv_i2l hx hb dM_knowAll_52 rfl ?_
    refine then_v (run_V (n := 3) (As := [.int (nI (mst (nt (rA σ r j)) u v)), .int (nI (mst (nt (rB σ r j)) u v)), .long ((rK σ r j).toInt64)]) (rest := []) C0 (ma_know hn hD.1.1.1 hD.1.1.2.1 hD.2.1 hk hok (by omega) (nf_lt (hR.2 j (by omega)).1.2 hu.1 hv.1) (nf_lt (hR.2 j (by omega)).2.1.2 hu.1 hv.1) (mst_nf (hR.2 j (by omega)).1.2 hu.2 hv.2) (mst_nf (hR.2 j (by omega)).2.1.2 hu.2 hv.2) (i64_i32 _) (by have := (hR.2 j (by omega)).2.2; omega)) gw750 gw747 gw749 gsM_know gw7 (by decide +kernel) ⟨Nat.le_of_ble_eq_true rfl, Nat.le_of_ble_eq_true rfl⟩ rfl rfl ⟨Nat.le_of_ble_eq_true rfl, Nat.le_of_ble_eq_true rfl⟩ hP hD.1.1.1 hD.2.1 rfl rfl rfl hl.1 rfl (Nat.le_of_ble_eq_true rfl) dM_knowAll_53) hS hA (fun f5 H locs hq53 hP hS => ?_)
    obtain ⟨ho9, hk9, hs9⟩ := hq53
    have hD9 := hD.upd2 ho9 hk9.J hs9
    refine lv_iinc (v := nI ((4 * r + j) + 1)) (lv' := [(4, .int (nI ((4 * r + j) + 1))), (0, .ref mo), (1, .int (nI r)), (2, .int (nI u)), (3, .int (nI v))]) hx hb dM_knowAll_56 hl (k := 0) rfl (nI_add (4 * r + j) 1) (by decide) rfl (fun ls hl => ?_)
    refine lv_goto (tgt := 5) hx hb dM_knowAll_59 (by decide) ?_
    exact ih (j + 1) (kl_rel u v (fun j => nt (rA σ r j)) (fun j => nt (rB σ r j)) (fun j => rK σ r j) j K) f5 (by omega) hD9 hk9 (fun z y1 y2 => by rw [hs9 z y1 y2]; exact hsm z y1 y2) ((kl_learn_ok (nf_lt (hR.2 j (by omega)).1.2 hu.1 hv.1) (nf_lt (hR.2 j (by omega)).2.1.2 hu.1 hv.1) (by have := (hR.2 j (by omega)).2.2; show -1001 ≤ (rK σ r j).toInt ∧ (rK σ r j).toInt ≤ 1001; omega) hok).mono (by omega)) H locs ls hP hS (lv_sub hl [0, 1, 2, 3, 4] rfl) hx2
set_option maxRecDepth 100000 in
set_option maxHeartbeats 4000000 in
theorem m_knowAll {l : Launch} {D : va_G} {tys : List (ClassId × FieldType)} {L : List Nat} {f : Nat → va_E} (hn : L.Nodup) {mo ap cm : Nat} {ad : Nat → Nat} {G : Nat → Nat → Int32} {th me fu le en sp ka kc se : Int32} {mx : Int64} {gc : Nat → Int32} {σ : Sg} {r u v : Nat} {T : Int} (hr8 : r < 8) (hu : u < 12 ∧ u ≠ 3) (hv : v < 12 ∧ v ≠ 3) (hM : MT σ G) (hR : RelOk σ r) (hT : T + 4004 ≤ 300000) {K : kl_K} (hok : kl_ok T K) (hD : MD tys L f mo ap cm ad G th (kb K.1) me fu le en sp ka kc mx se gc) (hk : MnK tys f ap K) : MetV l yM_knowAll wM_knowAll ({ frames := 1, cells := 0, slots := 0, locals := 28 } : Room) D tys L f [.ref mo, .int (nI r), .int (nI u), .int (nI v)] (fun f' => f' mo = mO ad ap cm th (kb (s_rels σ r u v K).1) me fu le en sp ka kc mx se ∧ MnK tys f' ap (s_rels σ r u v K) ∧ Same2 f f' mo ap) := by
  refine met_of "LiquidCheckerModel" (by decide) rfl (Nat.le_of_ble_eq_true rfl) ?_
  intro pgm e s m below meth c ls C0 hP hl
  obtain ⟨hx, hb, hml, hown, hg, hr, hlocks, hK, hN⟩ := id C0
  have hA : ∀ a ∈ L, inL L a := fun _ h => h
  obtain ⟨H, hH⟩ : ∃ z, z = s.heap := ⟨_, rfl⟩
  rw [← hH] at hP ⊢
  have hS : va_S (inL L) s.heap H [] := by rw [hH]; exact va_S.rf
  have hl : lv_has ls 5 [(0, .ref mo), (1, .int (nI r)), (2, .int (nI u)), (3, .int (nI v))] := hl
  refine lv_iconst (v := nI 4) hx hb dM_knowAll_0 (by decide) ?_
  refine lv_iload_n hx hb dM_knowAll_1 rfl (lv_at hl 1 rfl) ?_
  refine lv_imul hx hb dM_knowAll_2 ?_
  rw [pk_mul]
  refine lv_istore (lv' := [(4, .int (nI (4 * r))), (0, .ref mo), (1, .int (nI r)), (2, .int (nI u)), (3, .int (nI v))]) hx hb dM_knowAll_3 hl (by decide) rfl (fun ls hl => ?_)
  refine m_known_loop C0 hn hr8 hu hv hM hR hT (rn σ r) 0 K f (by omega) hD hk (fun _ _ _ => rfl) (hok.mono (by omega)) H [] ls hP hS (lv_sub hl [0, 1, 2, 3, 4] rfl) (fun fm H locs ls hD1 hk1 hsm hP hS hl => ?_)
  exact ret_v C0 hP hS ⟨hD1.2.1, hk1, hsm⟩ dM_knowAll_62
set_option maxRecDepth 100000 in
set_option maxHeartbeats 4000000 in
theorem m_returns {l : Launch} {D : va_G} {tys : List (ClassId × FieldType)} {L : List Nat} {f : Nat → va_E} (hn : L.Nodup) {mo ap cm : Nat} {ad : Nat → Nat} {G : Nat → Nat → Int32} {th me le sp ka kc se : Int32} {mx : Int64} {gc : Nat → Int32} {en i b : Nat} {pl k : Int32} {σ : Sg} {T : Int} {K : kl_K} (hi : i < 4) (hb0 : b < 12 ∧ b ≠ 3) (hkk : -1000 ≤ k.toInt ∧ k.toInt ≤ 1000) (hM : MT σ G) (hRl : RlOk σ) (hT : T ≤ 290000) (hle : -1 ≤ le.toInt) (hok : kl_ok T K) (hp : K.1 = true) (h3 : Free3 K) (hD : MD tys L f mo ap cm ad G th (kb K.1) me (nI i) le (nI en) sp ka kc mx se gc) (hk : MnK tys f ap K) : MetV l yM_returns wM_returns ({ frames := 2, cells := 0, slots := 0, locals := 48 } : Room) D tys L f [.ref mo, .int pl, .int (nI b), .int k] (fun f' => MD tys L f' mo ap cm ad G th (kb (kl_give 3 b k.toInt K).1) me (nI i) (n_lu le pl (s_shw σ (2 * i + 1) 1 2 (kl_give 3 b k.toInt K))) (nI (en + 1)) sp ka kc mx se gc ∧ MnK tys f' ap (kl_give 3 b k.toInt K) ∧ Sm3 f f' mo ap cm) := by
  refine met_of "LiquidCheckerModel" (by decide) rfl (Nat.le_of_ble_eq_true rfl) ?_
  intro pgm e s m below meth c ls C0 hP hl
  obtain ⟨hx, hb, hml, hown, hg, hr, hlocks, hK, hN⟩ := id C0
  have hA : ∀ a ∈ L, inL L a := fun _ h => h
  obtain ⟨H, hH⟩ : ∃ z, z = s.heap := ⟨_, rfl⟩
  rw [← hH] at hP ⊢
  have hS : va_S (inL L) s.heap H [] := by rw [hH]; exact va_S.rf
  have hl : lv_has ls 4 [(0, .ref mo), (1, .int pl), (2, .int (nI b)), (3, .int k)] := hl
  refine lv_aload_n hx hb dM_returns_0 rfl (lv_at hl 0 rfl) ?_
  refine lv_bipush (v := nI 12) hx hb dM_returns_1 (by decide) ?_
  refine lv_iload_n hx hb dM_returns_3 rfl (lv_at hl 2 rfl) ?_
  refine lv_iload_n hx hb dM_returns_4 rfl (lv_at hl 3 rfl) ?_
  refine lv_i2l hx hb dM_returns_5 rfl ?_
  refine then_v (run_V (n := 3) (As := [.int (nI 12), .int (nI b), .long k.toInt64]) (rest := []) C0 (ma_know hn hD.1.1.1 hD.1.1.2.1 hD.2.1 hk hok (by omega) (by omega) hb0.1 (show 12 = jn 3 from rfl) (jn_id hb0.2) (i64_i32 _) (by omega)) gw750 gw747 gw749 gsM_know gw7 (by decide +kernel) ⟨Nat.le_of_ble_eq_true rfl, Nat.le_of_ble_eq_true rfl⟩ rfl rfl ⟨Nat.le_of_ble_eq_true rfl, Nat.le_of_ble_eq_true rfl⟩ hP hD.1.1.1 hD.2.1 rfl rfl rfl hl.1 rfl (Nat.le_of_ble_eq_true rfl) dM_returns_6) hS hA (fun f1 H locs hq6 hP hS => ?_)
  obtain ⟨ho2, hk2, hs2⟩ := hq6
  have hD2 : MD tys L f1 mo ap cm ad G th (kb (kl_learn 3 b k.toInt K).1) me (nI i) le (nI en) sp ka kc mx se gc := hD.upd2 ho2 (MnK.J hk2) hs2
  have hm2 : Sm3 f _ mo ap cm := Sm3.of2 hs2
  refine lv_aload_n hx hb dM_returns_9 rfl (lv_at hl 0 rfl) ?_
  refine lv_iload_n hx hb dM_returns_10 rfl (lv_at hl 2 rfl) ?_
  refine lv_bipush (v := nI 12) hx hb dM_returns_11 (by decide) ?_
  refine lv_iload_n hx hb dM_returns_13 rfl (lv_at hl 3 rfl) ?_
  refine lv_ineg hx hb dM_returns_14 ?_
  refine lv_i2l hx hb dM_returns_15 rfl ?_
  refine then_v (run_V (n := 3) (As := [.int (nI b), .int (nI 12), .long ((-k).toInt64)]) (rest := []) C0 (ma_know hn hD2.1.1.1 hD2.1.1.2.1 hD2.2.1 hk2 (kl_learn_ok (by omega) hb0.1 (by omega) hok) (by omega) hb0.1 (by omega) (jn_id hb0.2) (show 12 = jn 3 from rfl) ((i64_i32 _).trans (by rw [i32_neg (by omega)])) (by omega)) gw750 gw747 gw749 gsM_know gw7 (by decide +kernel) ⟨Nat.le_of_ble_eq_true rfl, Nat.le_of_ble_eq_true rfl⟩ rfl rfl ⟨Nat.le_of_ble_eq_true rfl, Nat.le_of_ble_eq_true rfl⟩ hP hD2.1.1.1 hD2.2.1 rfl rfl rfl hl.1 rfl (Nat.le_of_ble_eq_true rfl) dM_returns_16) hS hA (fun f3 H locs hq16 hP hS => ?_)
  obtain ⟨ho4, hk4, hs4⟩ := hq16
  have hD4 : MD tys L f3 mo ap cm ad G th (kb (kl_learn b 3 (-k.toInt) (kl_learn 3 b k.toInt K)).1) me (nI i) le (nI en) sp ka kc mx se gc := hD2.upd2 ho4 (MnK.J hk4) hs4
  have hm4 := hm2.trans (Sm3.of2 hs4)
  have hE := kl_tell3 (k := k.toInt) hok hp h3 hb0.1 hb0.2 (by omega)
  have hkr := hk4.ext hE.symm
  have hDr : MD tys L f3 mo ap cm ad G th (kb (kl_give 3 b k.toInt K).1) me (nI i) le (nI en) sp ka kc mx se gc := by rw [show (kl_give 3 b k.toInt K).1 = (kl_learn b 3 (-k.toInt) (kl_learn 3 b k.toInt K)).1 from hE.1]; exact hD4
  have hokr : kl_ok (T + 1001) (kl_give 3 b k.toInt K) := kl_give_ok (a := 3) hb0.1 (by omega) hok
  refine lv_aload_n hx hb dM_returns_19 rfl (lv_at hl 0 rfl) ?_
  refine lv_iconst (v := nI 2) hx hb dM_returns_20 (by decide) ?_
  refine lv_aload_n hx hb dM_returns_21 rfl (lv_at hl 0 rfl) ?_
  refine mm_get (v := .int (nI i)) hx hb hg inM hown hK hP hDr.1.1.1 hDr.2.1 rfl 20 (by decide) (hg _ gw613) (fun _ h9 => h9) rfl dM_returns_22 ?_
  refine lv_imul hx hb dM_returns_25 ?_
  rw [pk_mul]
  refine lv_iconst (v := nI 1) hx hb dM_returns_26 (by decide) ?_
  refine lv_iadd hx hb dM_returns_27 ?_
  rw [nI_add]
  refine lv_iconst (v := nI 1) hx hb dM_returns_28 (by decide) ?_
  refine lv_iconst (v := nI 2) hx hb dM_returns_29 (by decide) ?_
  refine then_i (run_V (n := 3) (As := [.int (nI ((2 * i) + 1)), .int (nI 1), .int (nI 2)]) (rest := []) C0 (m_showsAll hn (by omega) ⟨by omega, by omega⟩ ⟨by omega, by omega⟩ hM (hRl (2 * i + 1) (by omega)) (by omega) hokr hDr hkr) gw762 gw759 gw761 gsM_showsAll gw7 (by decide +kernel) ⟨Nat.le_of_ble_eq_true rfl, Nat.le_of_ble_eq_true rfl⟩ rfl rfl ⟨Nat.le_of_ble_eq_true rfl, Nat.le_of_ble_eq_true rfl⟩ hP hDr.1.1.1 hDr.2.1 rfl rfl rfl hl.1 rfl (Nat.le_of_ble_eq_true rfl) dM_returns_30) hS hA (fun r6 f5 H locs hq30 hP hS => ?_)
  obtain ⟨er6, ef5⟩ := hq30
  subst er6
  rw [ef5] at hP
  refine lv_if_ne (tgt := 41) hx hb dM_returns_33 (by decide) (fun c33 => ?_) (fun c33 => ?_)
  · have c33 : (s_shw σ (2 * i + 1) 1 2 (kl_give 3 b k.toInt K)) = true := kb_t.mp c33
    refine lv_aload_n hx hb dM_returns_41 rfl (lv_at hl 0 rfl) ?_
    refine lv_dup hx hb dM_returns_42 rfl ?_
    refine mm_get (v := .int (nI en)) hx hb hg inM hown hK hP hDr.1.1.1 hDr.2.1 rfl 22 (by decide) (hg _ gw615) (fun _ h9 => h9) rfl dM_returns_43 ?_
    refine lv_iconst (v := nI 1) hx hb dM_returns_46 (by decide) ?_
    refine lv_iadd hx hb dM_returns_47 ?_
    rw [nI_add]
    refine mm_put (v := .int (nI (en + 1))) (ty := .int) hx hb hg inM tyM tyM_ok nmM hown hK hn hA hP hS hDr.1.1.1 (show f3 mo = .inr (6, [.int th, .ref (ad 0), .ref (ad 1), .ref (ad 2), .ref (ad 3), .ref (ad 4), .ref (ad 5), .ref (ad 6), .ref (ad 7), .ref (ad 8), .ref (ad 9), .ref (ad 10), .ref (ad 11), .ref (ad 12), .ref (ad 13), .ref (ad 14), .ref (ad 15), .ref ap, .int (kb (kl_give 3 b k.toInt K).1), .int me, .int (nI i), .int le, .int (nI en), .ref cm, .int sp, .int ka, .int kc, .long mx, .int se]) from hDr.2.1) rfl 22 (by decide) (hg _ gw615) (fun _ h9 => h9) rfl (by decide +kernel) rfl rfl (Nat.le_of_ble_eq_true rfl) dM_returns_48 (fun H locs hP hS => ?_)
    obtain ⟨f7, hf7⟩ : ∃ z, z = va_up f3 mo (.inr (6, [.int th, .ref (ad 0), .ref (ad 1), .ref (ad 2), .ref (ad 3), .ref (ad 4), .ref (ad 5), .ref (ad 6), .ref (ad 7), .ref (ad 8), .ref (ad 9), .ref (ad 10), .ref (ad 11), .ref (ad 12), .ref (ad 13), .ref (ad 14), .ref (ad 15), .ref ap, .int (kb (kl_give 3 b k.toInt K).1), .int me, .int (nI i), .int le, .int (nI (en + 1)), .ref cm, .int sp, .int ka, .int kc, .long mx, .int se])) := ⟨_, rfl⟩
    have hP : va_P D zCl (va_pl L f7) H := by rw [hf7]; exact hP
    have hs8 : Same1 f3 f7 mo := fun z hz => by rw [hf7, va_up_ne _ _ hz]
    have hD8 : MD tys L f7 mo ap cm ad G th (kb (kl_give 3 b k.toInt K).1) me (nI i) le (nI (en + 1)) sp ka kc mx se gc := hDr.updO (by rw [hf7]; exact va_up_self _ _ _) hs8
    have hk8 := hDr.keepO hkr hs8
    have hm8 := hm4.trans (Sm3.ofO hs8)
    have e9 : n_lu le pl (s_shw σ (2 * i + 1) 1 2 (kl_give 3 b k.toInt K)) = le := by rw [c33]; exact n_lu_t
    exact ret_v C0 hP hS ⟨by rw [e9]; exact hD8, hk8, hm8⟩ dM_returns_51
  · have c33 : (s_shw σ (2 * i + 1) 1 2 (kl_give 3 b k.toInt K)) = false := kb_0.mp c33
    refine lv_aload_n hx hb dM_returns_36 rfl (lv_at hl 0 rfl) ?_
    refine lv_iload_n hx hb dM_returns_37 rfl (lv_at hl 1 rfl) ?_
    refine then_v (run_V (n := 1) (As := [.int pl]) (rest := []) C0 (m_blame hn hle hDr) gw770 gw767 gw769 gsM_blame gw7 (by decide +kernel) ⟨Nat.le_of_ble_eq_true rfl, Nat.le_of_ble_eq_true rfl⟩ rfl rfl ⟨Nat.le_of_ble_eq_true rfl, Nat.le_of_ble_eq_true rfl⟩ hP hDr.1.1.1 hDr.2.1 rfl rfl rfl hl.1 rfl (Nat.le_of_ble_eq_true rfl) dM_returns_38) hS hA (fun f9 H locs hq38 hP hS => ?_)
    obtain ⟨hD10, hs10⟩ := hq38
    have hk10 := hDr.keepO hkr hs10
    have hm10 := hm4.trans (Sm3.ofO hs10)
    refine lv_aload_n hx hb dM_returns_41 rfl (lv_at hl 0 rfl) ?_
    refine lv_dup hx hb dM_returns_42 rfl ?_
    refine mm_get (v := .int (nI en)) hx hb hg inM hown hK hP hD10.1.1.1 hD10.2.1 rfl 22 (by decide) (hg _ gw615) (fun _ h9 => h9) rfl dM_returns_43 ?_
    refine lv_iconst (v := nI 1) hx hb dM_returns_46 (by decide) ?_
    refine lv_iadd hx hb dM_returns_47 ?_
    rw [nI_add]
    refine mm_put (v := .int (nI (en + 1))) (ty := .int) hx hb hg inM tyM tyM_ok nmM hown hK hn hA hP hS hD10.1.1.1 (show f9 mo = .inr (6, [.int th, .ref (ad 0), .ref (ad 1), .ref (ad 2), .ref (ad 3), .ref (ad 4), .ref (ad 5), .ref (ad 6), .ref (ad 7), .ref (ad 8), .ref (ad 9), .ref (ad 10), .ref (ad 11), .ref (ad 12), .ref (ad 13), .ref (ad 14), .ref (ad 15), .ref ap, .int (kb (kl_give 3 b k.toInt K).1), .int me, .int (nI i), .int (n_lu le pl false), .int (nI en), .ref cm, .int sp, .int ka, .int kc, .long mx, .int se]) from hD10.2.1) rfl 22 (by decide) (hg _ gw615) (fun _ h9 => h9) rfl (by decide +kernel) rfl rfl (Nat.le_of_ble_eq_true rfl) dM_returns_48 (fun H locs hP hS => ?_)
    obtain ⟨f11, hf11⟩ : ∃ z, z = va_up f9 mo (.inr (6, [.int th, .ref (ad 0), .ref (ad 1), .ref (ad 2), .ref (ad 3), .ref (ad 4), .ref (ad 5), .ref (ad 6), .ref (ad 7), .ref (ad 8), .ref (ad 9), .ref (ad 10), .ref (ad 11), .ref (ad 12), .ref (ad 13), .ref (ad 14), .ref (ad 15), .ref ap, .int (kb (kl_give 3 b k.toInt K).1), .int me, .int (nI i), .int (n_lu le pl false), .int (nI (en + 1)), .ref cm, .int sp, .int ka, .int kc, .long mx, .int se])) := ⟨_, rfl⟩
    have hP : va_P D zCl (va_pl L f11) H := by rw [hf11]; exact hP
    have hs12 : Same1 f9 f11 mo := fun z hz => by rw [hf11, va_up_ne _ _ hz]
    have hD12 : MD tys L f11 mo ap cm ad G th (kb (kl_give 3 b k.toInt K).1) me (nI i) (n_lu le pl false) (nI (en + 1)) sp ka kc mx se gc := hD10.updO (by rw [hf11]; exact va_up_self _ _ _) hs12
    have hk12 := hD10.keepO hk10 hs12
    have hm12 := hm10.trans (Sm3.ofO hs12)
    have e9 : n_lu le pl (s_shw σ (2 * i + 1) 1 2 (kl_give 3 b k.toInt K)) = (n_lu le pl false) := by rw [c33]
    exact ret_v C0 hP hS ⟨by rw [e9]; exact hD12, hk12, hm12⟩ dM_returns_51
set_option maxRecDepth 100000 in
set_option maxHeartbeats 4000000 in
theorem m_call {l : Launch} {D : va_G} {tys : List (ClassId × FieldType)} {L : List Nat} {f : Nat → va_E} (hn : L.Nodup) {mo ap cm : Nat} {ad : Nat → Nat} {G : Nat → Nat → Int32} {th me fu le en sp ka kc se : Int32} {mx : Int64} {gc : Nat → Int32} {x : Nat} {pl : Int32} {σ : Sg} {T : Int} {K : kl_K} (hx64 : x < 64) (ha0 : NmOk (sa σ x)) (hb0 : NmOk (sb σ x)) (hc0 : NmOk (sc σ x)) (hk0 : sK σ x = nI (nt (sK σ x)) ∧ nt (sK σ x) < 4) (hM : MT σ G) (hRl : RlOk σ) (hT : T ≤ 290000) (hle : -1 ≤ le.toInt) (hok : kl_ok T K) (hD : MD tys L f mo ap cm ad G th (kb K.1) me fu le en sp ka kc mx se gc) (hk : MnK tys f ap K) : MetV l yM_call wM_call ({ frames := 2, cells := 0, slots := 0, locals := 52 } : Room) D tys L f [.ref mo, .int pl, .int (nI x)] (fun f' => MD tys L f' mo ap cm ad G th (kb (s_rels σ (2 * nt (sK σ x) + 1) (nt (sb σ x)) (nt (sc σ x)) K).1) me fu (n_lu le pl (s_shw σ (2 * nt (sK σ x)) (nt (sb σ x)) (nt (sc σ x)) K)) en sp ka kc mx se gc ∧ ((s_rels σ (2 * nt (sK σ x) + 1) (nt (sb σ x)) (nt (sc σ x)) K).1 = true → MnK tys f' ap (kl_forget 3 (kl_give (nt (sa σ x)) 3 0 (s_rels σ (2 * nt (sK σ x) + 1) (nt (sb σ x)) (nt (sc σ x)) K)))) ∧ Sm3 f f' mo ap cm) := by
  refine met_of "LiquidCheckerModel" (by decide) rfl (Nat.le_of_ble_eq_true rfl) ?_
  intro pgm e s m below meth c ls C0 hP hl
  obtain ⟨hx, hb, hml, hown, hg, hr, hlocks, hK, hN⟩ := id C0
  have hA : ∀ a ∈ L, inL L a := fun _ h => h
  obtain ⟨H, hH⟩ : ∃ z, z = s.heap := ⟨_, rfl⟩
  rw [← hH] at hP ⊢
  have hS : va_S (inL L) s.heap H [] := by rw [hH]; exact va_S.rf
  have hl : lv_has ls 3 [(0, .ref mo), (1, .int pl), (2, .int (nI x))] := hl
  refine lv_aload_n hx hb dM_call_0 rfl (lv_at hl 0 rfl) ?_
  refine lv_iconst (v := nI 2) hx hb dM_call_1 (by decide) ?_
  refine lv_aload_n hx hb dM_call_2 rfl (lv_at hl 0 rfl) ?_
  refine mm_get (v := .ref (ad 8)) hx hb hg inM hown hK hP hD.1.1.1 hD.2.1 rfl 9 (by decide) (hg _ gw602) (fun _ h9 => h9) rfl dM_call_3 ?_
  refine lv_iload_n hx hb dM_call_6 rfl (lv_at hl 2 rfl) ?_
  refine mm_iald hx hb hK hP (hD.1.2 8 (by decide)).1 (show mm_I tys f (ad 8) 64 (G 8) from (hD.1.2 8 (by decide)).2) (vp_in_nI (show x < 64 by omega) (by omega)) dM_call_7 ?_
  rw [nI_clamp (by omega)]
  rw [(hM.2.2.1 x hx64).2.2.2.2.trans hk0.1]
  refine lv_imul hx hb dM_call_8 ?_
  rw [pk_mul]
  refine lv_aload_n hx hb dM_call_9 rfl (lv_at hl 0 rfl) ?_
  refine mm_get (v := .ref (ad 6)) hx hb hg inM hown hK hP hD.1.1.1 hD.2.1 rfl 7 (by decide) (hg _ gw600) (fun _ h9 => h9) rfl dM_call_10 ?_
  refine lv_iload_n hx hb dM_call_13 rfl (lv_at hl 2 rfl) ?_
  refine mm_iald hx hb hK hP (hD.1.2 6 (by decide)).1 (show mm_I tys f (ad 6) 64 (G 6) from (hD.1.2 6 (by decide)).2) (vp_in_nI (show x < 64 by omega) (by omega)) dM_call_14 ?_
  rw [nI_clamp (by omega)]
  rw [(hM.2.2.1 x hx64).2.2.1.trans hb0.1]
  refine lv_aload_n hx hb dM_call_15 rfl (lv_at hl 0 rfl) ?_
  refine mm_get (v := .ref (ad 7)) hx hb hg inM hown hK hP hD.1.1.1 hD.2.1 rfl 8 (by decide) (hg _ gw601) (fun _ h9 => h9) rfl dM_call_16 ?_
  refine lv_iload_n hx hb dM_call_19 rfl (lv_at hl 2 rfl) ?_
  refine mm_iald hx hb hK hP (hD.1.2 7 (by decide)).1 (show mm_I tys f (ad 7) 64 (G 7) from (hD.1.2 7 (by decide)).2) (vp_in_nI (show x < 64 by omega) (by omega)) dM_call_20 ?_
  rw [nI_clamp (by omega)]
  rw [(hM.2.2.1 x hx64).2.2.2.1.trans hc0.1]
  refine then_i (run_V (n := 3) (As := [.int (nI (2 * (nt (sK σ x)))), .int (nI (nt (sb σ x))), .int (nI (nt (sc σ x)))]) (rest := []) C0 (m_showsAll hn (by omega) hb0.2 hc0.2 hM (hRl _ (by omega)) (by omega) hok hD hk) gw762 gw759 gw761 gsM_showsAll gw7 (by decide +kernel) ⟨Nat.le_of_ble_eq_true rfl, Nat.le_of_ble_eq_true rfl⟩ rfl rfl ⟨Nat.le_of_ble_eq_true rfl, Nat.le_of_ble_eq_true rfl⟩ hP hD.1.1.1 hD.2.1 rfl rfl rfl hl.1 rfl (Nat.le_of_ble_eq_true rfl) dM_call_21) hS hA (fun r2 f1 H locs hq21 hP hS => ?_)
  obtain ⟨er2, ef1⟩ := hq21
  subst er2
  rw [ef1] at hP
  refine lv_if_ne (tgt := 32) hx hb dM_call_24 (by decide) (fun c24 => ?_) (fun c24 => ?_)
  · have c24 : (s_shw σ (2 * nt (sK σ x)) (nt (sb σ x)) (nt (sc σ x)) K) = true := kb_t.mp c24
    refine lv_aload_n hx hb dM_call_32 rfl (lv_at hl 0 rfl) ?_
    refine lv_iconst (v := nI 2) hx hb dM_call_33 (by decide) ?_
    refine lv_aload_n hx hb dM_call_34 rfl (lv_at hl 0 rfl) ?_
    refine mm_get (v := .ref (ad 8)) hx hb hg inM hown hK hP hD.1.1.1 hD.2.1 rfl 9 (by decide) (hg _ gw602) (fun _ h9 => h9) rfl dM_call_35 ?_
    refine lv_iload_n hx hb dM_call_38 rfl (lv_at hl 2 rfl) ?_
    refine mm_iald hx hb hK hP (hD.1.2 8 (by decide)).1 (show mm_I tys f (ad 8) 64 (G 8) from (hD.1.2 8 (by decide)).2) (vp_in_nI (show x < 64 by omega) (by omega)) dM_call_39 ?_
    rw [nI_clamp (by omega)]
    rw [(hM.2.2.1 x hx64).2.2.2.2.trans hk0.1]
    refine lv_imul hx hb dM_call_40 ?_
    rw [pk_mul]
    refine lv_iconst (v := nI 1) hx hb dM_call_41 (by decide) ?_
    refine lv_iadd hx hb dM_call_42 ?_
    rw [nI_add]
    refine lv_aload_n hx hb dM_call_43 rfl (lv_at hl 0 rfl) ?_
    refine mm_get (v := .ref (ad 6)) hx hb hg inM hown hK hP hD.1.1.1 hD.2.1 rfl 7 (by decide) (hg _ gw600) (fun _ h9 => h9) rfl dM_call_44 ?_
    refine lv_iload_n hx hb dM_call_47 rfl (lv_at hl 2 rfl) ?_
    refine mm_iald hx hb hK hP (hD.1.2 6 (by decide)).1 (show mm_I tys f (ad 6) 64 (G 6) from (hD.1.2 6 (by decide)).2) (vp_in_nI (show x < 64 by omega) (by omega)) dM_call_48 ?_
    rw [nI_clamp (by omega)]
    rw [(hM.2.2.1 x hx64).2.2.1.trans hb0.1]
    refine lv_aload_n hx hb dM_call_49 rfl (lv_at hl 0 rfl) ?_
    refine mm_get (v := .ref (ad 7)) hx hb hg inM hown hK hP hD.1.1.1 hD.2.1 rfl 8 (by decide) (hg _ gw601) (fun _ h9 => h9) rfl dM_call_50 ?_
    refine lv_iload_n hx hb dM_call_53 rfl (lv_at hl 2 rfl) ?_
    refine mm_iald hx hb hK hP (hD.1.2 7 (by decide)).1 (show mm_I tys f (ad 7) 64 (G 7) from (hD.1.2 7 (by decide)).2) (vp_in_nI (show x < 64 by omega) (by omega)) dM_call_54 ?_
    rw [nI_clamp (by omega)]
    rw [(hM.2.2.1 x hx64).2.2.2.1.trans hc0.1]
    refine then_v (run_V (n := 3) (As := [.int (nI ((2 * (nt (sK σ x))) + 1)), .int (nI (nt (sb σ x))), .int (nI (nt (sc σ x)))]) (rest := []) C0 (m_knowAll hn (by omega) hb0.2 hc0.2 hM (hRl _ (by omega)) (by omega) hok hD hk) gw743 gw740 gw742 gsM_knowAll gw7 (by decide +kernel) ⟨Nat.le_of_ble_eq_true rfl, Nat.le_of_ble_eq_true rfl⟩ rfl rfl ⟨Nat.le_of_ble_eq_true rfl, Nat.le_of_ble_eq_true rfl⟩ hP hD.1.1.1 hD.2.1 rfl rfl rfl hl.1 rfl (Nat.le_of_ble_eq_true rfl) dM_call_55) hS hA (fun f3 H locs hq55 hP hS => ?_)
    obtain ⟨ho4, hk4, hs4⟩ := hq55
    have hD4 : MD tys L f3 mo ap cm ad G th (kb (s_rels σ (2 * nt (sK σ x) + 1) (nt (sb σ x)) (nt (sc σ x)) K).1) me fu le en sp ka kc mx se gc := hD.upd2 ho4 (MnK.J hk4) hs4
    have hm4 : Sm3 f _ mo ap cm := Sm3.of2 hs4
    refine lv_aload_n hx hb dM_call_58 rfl (lv_at hl 0 rfl) ?_
    refine mm_get (v := .int (kb (s_rels σ (2 * nt (sK σ x) + 1) (nt (sb σ x)) (nt (sc σ x)) K).1)) hx hb hg inM hown hK hP hD4.1.1.1 hD4.2.1 rfl 18 (by decide) (hg _ gw611) (fun _ h9 => h9) rfl dM_call_59 ?_
    refine lv_if_eq (tgt := 75) hx hb dM_call_62 (by decide) (fun c62 => ?_) (fun c62 => ?_)
    · have c62 : ((s_rels σ (2 * nt (sK σ x) + 1) (nt (sb σ x)) (nt (sc σ x)) K).1) = false := kb_0.mp c62
      have e9 : n_lu le pl (s_shw σ (2 * nt (sK σ x)) (nt (sb σ x)) (nt (sc σ x)) K) = le := by rw [c24]; exact n_lu_t
      exact ret_v C0 hP hS ⟨by rw [e9]; exact hD4, fun z => absurd (c62.symm.trans z) (by decide), hm4⟩ dM_call_75
    · have c62 : ((s_rels σ (2 * nt (sK σ x) + 1) (nt (sb σ x)) (nt (sc σ x)) K).1) = true := kb_t.mp c62
      refine lv_aload_n hx hb dM_call_65 rfl (lv_at hl 0 rfl) ?_
      refine lv_aload_n hx hb dM_call_66 rfl (lv_at hl 0 rfl) ?_
      refine mm_get (v := .ref (ad 5)) hx hb hg inM hown hK hP hD4.1.1.1 hD4.2.1 rfl 6 (by decide) (hg _ gw599) (fun _ h9 => h9) rfl dM_call_67 ?_
      refine lv_iload_n hx hb dM_call_70 rfl (lv_at hl 2 rfl) ?_
      refine mm_iald hx hb hK hP (hD4.1.2 5 (by decide)).1 (show mm_I tys f3 (ad 5) 64 (G 5) from (hD4.1.2 5 (by decide)).2) (vp_in_nI (show x < 64 by omega) (by omega)) dM_call_71 ?_
      rw [nI_clamp (by omega)]
      rw [(hM.2.2.1 x hx64).2.1.trans ha0.1]
      refine then_v (run_V (n := 1) (As := [.int (nI (nt (sa σ x)))]) (rest := []) C0 (ma_rename hn hD4.1.1.1 hD4.1.1.2.1 hD4.2.1 hk4 (s_rels_ok (hRl _ (by omega)) hb0.2.1 hc0.2.1 hok) ha0.2.1 ha0.2.2) gw778 gw775 gw777 gsM_rename gw7 (by decide +kernel) ⟨Nat.le_of_ble_eq_true rfl, Nat.le_of_ble_eq_true rfl⟩ rfl rfl ⟨Nat.le_of_ble_eq_true rfl, Nat.le_of_ble_eq_true rfl⟩ hP hD4.1.1.1 hD4.2.1 rfl rfl rfl hl.1 rfl (Nat.le_of_ble_eq_true rfl) dM_call_72) hS hA (fun f5 H locs hq72 hP hS => ?_)
      obtain ⟨ho6, hk6, hs6⟩ := hq72
      have hD6 : MD tys L f5 mo ap cm ad G th (kb (s_rels σ (2 * nt (sK σ x) + 1) (nt (sb σ x)) (nt (sc σ x)) K).1) me fu le en sp ka kc mx se gc := hD4.upd2 ho6 (MnK.J hk6) hs6
      have hm6 := hm4.trans (Sm3.of2 hs6)
      have e9 : n_lu le pl (s_shw σ (2 * nt (sK σ x)) (nt (sb σ x)) (nt (sc σ x)) K) = le := by rw [c24]; exact n_lu_t
      exact ret_v C0 hP hS ⟨by rw [e9]; exact hD6, fun _ => hk6, hm6⟩ dM_call_75
  · have c24 : (s_shw σ (2 * nt (sK σ x)) (nt (sb σ x)) (nt (sc σ x)) K) = false := kb_0.mp c24
    refine lv_aload_n hx hb dM_call_27 rfl (lv_at hl 0 rfl) ?_
    refine lv_iload_n hx hb dM_call_28 rfl (lv_at hl 1 rfl) ?_
    refine then_v (run_V (n := 1) (As := [.int pl]) (rest := []) C0 (m_blame hn hle hD) gw770 gw767 gw769 gsM_blame gw7 (by decide +kernel) ⟨Nat.le_of_ble_eq_true rfl, Nat.le_of_ble_eq_true rfl⟩ rfl rfl ⟨Nat.le_of_ble_eq_true rfl, Nat.le_of_ble_eq_true rfl⟩ hP hD.1.1.1 hD.2.1 rfl rfl rfl hl.1 rfl (Nat.le_of_ble_eq_true rfl) dM_call_29) hS hA (fun f7 H locs hq29 hP hS => ?_)
    obtain ⟨hD8, hs8⟩ := hq29
    have hk8 := hD.keepO hk hs8
    have hm8 : Sm3 f _ mo ap cm := Sm3.ofO hs8
    refine lv_aload_n hx hb dM_call_32 rfl (lv_at hl 0 rfl) ?_
    refine lv_iconst (v := nI 2) hx hb dM_call_33 (by decide) ?_
    refine lv_aload_n hx hb dM_call_34 rfl (lv_at hl 0 rfl) ?_
    refine mm_get (v := .ref (ad 8)) hx hb hg inM hown hK hP hD8.1.1.1 hD8.2.1 rfl 9 (by decide) (hg _ gw602) (fun _ h9 => h9) rfl dM_call_35 ?_
    refine lv_iload_n hx hb dM_call_38 rfl (lv_at hl 2 rfl) ?_
    refine mm_iald hx hb hK hP (hD8.1.2 8 (by decide)).1 (show mm_I tys f7 (ad 8) 64 (G 8) from (hD8.1.2 8 (by decide)).2) (vp_in_nI (show x < 64 by omega) (by omega)) dM_call_39 ?_
    rw [nI_clamp (by omega)]
    rw [(hM.2.2.1 x hx64).2.2.2.2.trans hk0.1]
    refine lv_imul hx hb dM_call_40 ?_
    rw [pk_mul]
    refine lv_iconst (v := nI 1) hx hb dM_call_41 (by decide) ?_
    refine lv_iadd hx hb dM_call_42 ?_
    rw [nI_add]
    refine lv_aload_n hx hb dM_call_43 rfl (lv_at hl 0 rfl) ?_
    refine mm_get (v := .ref (ad 6)) hx hb hg inM hown hK hP hD8.1.1.1 hD8.2.1 rfl 7 (by decide) (hg _ gw600) (fun _ h9 => h9) rfl dM_call_44 ?_
    refine lv_iload_n hx hb dM_call_47 rfl (lv_at hl 2 rfl) ?_
    refine mm_iald hx hb hK hP (hD8.1.2 6 (by decide)).1 (show mm_I tys f7 (ad 6) 64 (G 6) from (hD8.1.2 6 (by decide)).2) (vp_in_nI (show x < 64 by omega) (by omega)) dM_call_48 ?_
    rw [nI_clamp (by omega)]
    rw [(hM.2.2.1 x hx64).2.2.1.trans hb0.1]
    refine lv_aload_n hx hb dM_call_49 rfl (lv_at hl 0 rfl) ?_
    refine mm_get (v := .ref (ad 7)) hx hb hg inM hown hK hP hD8.1.1.1 hD8.2.1 rfl 8 (by decide) (hg _ gw601) (fun _ h9 => h9) rfl dM_call_50 ?_
    refine lv_iload_n hx hb dM_call_53 rfl (lv_at hl 2 rfl) ?_
    refine mm_iald hx hb hK hP (hD8.1.2 7 (by decide)).1 (show mm_I tys f7 (ad 7) 64 (G 7) from (hD8.1.2 7 (by decide)).2) (vp_in_nI (show x < 64 by omega) (by omega)) dM_call_54 ?_
    rw [nI_clamp (by omega)]
    rw [(hM.2.2.1 x hx64).2.2.2.1.trans hc0.1]
    refine then_v (run_V (n := 3) (As := [.int (nI ((2 * (nt (sK σ x))) + 1)), .int (nI (nt (sb σ x))), .int (nI (nt (sc σ x)))]) (rest := []) C0 (m_knowAll hn (by omega) hb0.2 hc0.2 hM (hRl _ (by omega)) (by omega) hok hD8 hk8) gw743 gw740 gw742 gsM_knowAll gw7 (by decide +kernel) ⟨Nat.le_of_ble_eq_true rfl, Nat.le_of_ble_eq_true rfl⟩ rfl rfl ⟨Nat.le_of_ble_eq_true rfl, Nat.le_of_ble_eq_true rfl⟩ hP hD8.1.1.1 hD8.2.1 rfl rfl rfl hl.1 rfl (Nat.le_of_ble_eq_true rfl) dM_call_55) hS hA (fun f9 H locs hq55 hP hS => ?_)
    obtain ⟨ho10, hk10, hs10⟩ := hq55
    have hD10 : MD tys L f9 mo ap cm ad G th (kb (s_rels σ (2 * nt (sK σ x) + 1) (nt (sb σ x)) (nt (sc σ x)) K).1) me fu (n_lu le pl false) en sp ka kc mx se gc := hD8.upd2 ho10 (MnK.J hk10) hs10
    have hm10 := hm8.trans (Sm3.of2 hs10)
    refine lv_aload_n hx hb dM_call_58 rfl (lv_at hl 0 rfl) ?_
    refine mm_get (v := .int (kb (s_rels σ (2 * nt (sK σ x) + 1) (nt (sb σ x)) (nt (sc σ x)) K).1)) hx hb hg inM hown hK hP hD10.1.1.1 hD10.2.1 rfl 18 (by decide) (hg _ gw611) (fun _ h9 => h9) rfl dM_call_59 ?_
    refine lv_if_eq (tgt := 75) hx hb dM_call_62 (by decide) (fun c62 => ?_) (fun c62 => ?_)
    · have c62 : ((s_rels σ (2 * nt (sK σ x) + 1) (nt (sb σ x)) (nt (sc σ x)) K).1) = false := kb_0.mp c62
      have e9 : n_lu le pl (s_shw σ (2 * nt (sK σ x)) (nt (sb σ x)) (nt (sc σ x)) K) = (n_lu le pl false) := by rw [c24]
      exact ret_v C0 hP hS ⟨by rw [e9]; exact hD10, fun z => absurd (c62.symm.trans z) (by decide), hm10⟩ dM_call_75
    · have c62 : ((s_rels σ (2 * nt (sK σ x) + 1) (nt (sb σ x)) (nt (sc σ x)) K).1) = true := kb_t.mp c62
      refine lv_aload_n hx hb dM_call_65 rfl (lv_at hl 0 rfl) ?_
      refine lv_aload_n hx hb dM_call_66 rfl (lv_at hl 0 rfl) ?_
      refine mm_get (v := .ref (ad 5)) hx hb hg inM hown hK hP hD10.1.1.1 hD10.2.1 rfl 6 (by decide) (hg _ gw599) (fun _ h9 => h9) rfl dM_call_67 ?_
      refine lv_iload_n hx hb dM_call_70 rfl (lv_at hl 2 rfl) ?_
      refine mm_iald hx hb hK hP (hD10.1.2 5 (by decide)).1 (show mm_I tys f9 (ad 5) 64 (G 5) from (hD10.1.2 5 (by decide)).2) (vp_in_nI (show x < 64 by omega) (by omega)) dM_call_71 ?_
      rw [nI_clamp (by omega)]
      rw [(hM.2.2.1 x hx64).2.1.trans ha0.1]
      refine then_v (run_V (n := 1) (As := [.int (nI (nt (sa σ x)))]) (rest := []) C0 (ma_rename hn hD10.1.1.1 hD10.1.1.2.1 hD10.2.1 hk10 (s_rels_ok (hRl _ (by omega)) hb0.2.1 hc0.2.1 hok) ha0.2.1 ha0.2.2) gw778 gw775 gw777 gsM_rename gw7 (by decide +kernel) ⟨Nat.le_of_ble_eq_true rfl, Nat.le_of_ble_eq_true rfl⟩ rfl rfl ⟨Nat.le_of_ble_eq_true rfl, Nat.le_of_ble_eq_true rfl⟩ hP hD10.1.1.1 hD10.2.1 rfl rfl rfl hl.1 rfl (Nat.le_of_ble_eq_true rfl) dM_call_72) hS hA (fun f11 H locs hq72 hP hS => ?_)
      obtain ⟨ho12, hk12, hs12⟩ := hq72
      have hD12 : MD tys L f11 mo ap cm ad G th (kb (s_rels σ (2 * nt (sK σ x) + 1) (nt (sb σ x)) (nt (sc σ x)) K).1) me fu (n_lu le pl false) en sp ka kc mx se gc := hD10.upd2 ho12 (MnK.J hk12) hs12
      have hm12 := hm10.trans (Sm3.of2 hs12)
      have e9 : n_lu le pl (s_shw σ (2 * nt (sK σ x)) (nt (sb σ x)) (nt (sc σ x)) K) = (n_lu le pl false) := by rw [c24]
      exact ret_v C0 hP hS ⟨by rw [e9]; exact hD12, fun _ => hk12, hm12⟩ dM_call_75
