/-! The law from its entry. -/
set_option maxRecDepth 100000 in
set_option maxHeartbeats 4000000 in
theorem whole_start {p : Program} {e : Env} {s : State} {m : MethodId} {below : List Frame} {meth : Method} {c : Code} (l : Launch) (hst : l.stackTraces = false) {b L : Nat} {xs : Nat → Int32} (hL : L ≤ 3584) (C0 : lw_At p s m meth c b L xs) : W p l e room_1 s m #[Value.ref b] below meth c s.heap [] 0 0 (lw_Z below #[Value.ref b] s) (entryFrame m ([Value.ref b] : List Value).toArray 7) := by
  obtain ⟨hx, hb, hr, hml, hown0, hts, hXs, hbl, hlocks, hgv⟩ := C0
  have hown : s.vm.findClass "LiquidCheckerLaw" = some m.cls := hown0
  have hg := lw_gw hts
  have hN := lw_nx hts
  have hAo := lw_ao hts
  have hnn := lw_nn hgv
  obtain ⟨D, hK⟩ := lw_k hg
  obtain ⟨sAd, hStr⟩ := lw_str hts (lw_found hg)
  have key : ∀ ls : Array Slot, lv_has ls 7 [(0, .ref b)] → W p l e room_1 s m #[Value.ref b] below meth c s.heap [] 0 0 (lw_Z below #[Value.ref b] s) (F0 m 0 ls []) := by
    intro ls hl
    have hP : va_P D zCl (va_pl [] (fun _ => .inr (0, []))) s.heap := fun k q hq => by cases hq
    have hA0 : ∀ q, s.heap.size ≤ q → (fun q => s.heap.size ≤ q) q := fun _ h => h
    have hS : va_S (fun q => s.heap.size ≤ q) s.heap s.heap [] := va_S.rf
    refine mg_new (L := []) (ci := 5) (fs := [.null, .null, .null]) hx hb hg inC tyC tyC_ok hown (hg _ gw19) (hg _ gw20) (hg _ gw1) hK hP List.nodup_nil (fun a ha => by cases ha) hS hA0 rfl (fun j hj => by rcases (show j = 0 ∨ j = 1 ∨ j = 2 by omega) with rfl | rfl | rfl <;> rfl) (Nat.le_of_ble_eq_true rfl) (Nat.le_of_ble_eq_true rfl) dL_law_0 (fun cc H hq1 hA1 hP hS1 => ?_)
    refine lv_dup hx hb dL_law_3 rfl ?_
    have hAc0 : ∀ a ∈ [] ++ [cc], s.heap.size ≤ a := fun a ha => by
      rw [List.mem_singleton.mp (show a ∈ [cc] from ha)]
      exact hA1
    refine then_g (run_IL (L := [] ++ [cc]) (rest := [.ref cc]) hx hb hml hown hg hN hAo hK (n_C_init (sz := H.size) (mg_nd List.nodup_nil hq1) (List.mem_append_right _ (List.mem_singleton.mpr rfl)) (va_up_self _ _ _)) gw23 gw21 gw22 gw1 rfl (by decide +kernel) ⟨Nat.le_of_ble_eq_true rfl, Nat.le_of_ble_eq_true rfl⟩ rfl rfl ⟨Nat.le_of_ble_eq_true rfl, Nat.le_of_ble_eq_true rfl⟩ hP hl.1 rfl (Nat.le_of_ble_eq_true rfl) dL_law_4) hS1 hAc0 hA0 (fun u H2 locs hpo hz1 hP hK hS => ?_)
    obtain ⟨Lc, f0, t0⟩ := u
    obtain ⟨hG1, hC⟩ := hpo
    have hAc : ∀ a ∈ Lc, s.heap.size ≤ a := fun a ha => by
      rcases hG1.2.1 a ha with h9 | h9
      · exact hAc0 a h9
      · exact Nat.le_trans hS1.1 h9
    have hcc : cc ∈ Lc := (hG1.2.2.1 cc (List.mem_append_right _ (List.mem_singleton.mpr rfl))).1
    refine lv_astore_n (lv' := [(1, .ref cc), (0, .ref b)]) hx hb dL_law_7 rfl hl (by decide) rfl (fun ls hl => ?_)
    refine mg_new (L := Lc) (ci := 6) (fs := [.int 0, .null, .null, .null, .null, .null, .null, .null, .null, .null, .null, .null, .null, .null, .null, .null, .null, .null, .int 0, .int 0, .int 0, .int 0, .int 0, .null, .int 0, .int 0, .int 0, .long 0, .int 0]) hx hb hg inM tyM tyM_ok hown (hg _ gw587) (hg _ gw588) (hg _ gw7) hK hP hG1.1 hAc hS hA0 rfl (fun j hj => by rcases (show j = 0 ∨ j = 1 ∨ j = 2 ∨ j = 3 ∨ j = 4 ∨ j = 5 ∨ j = 6 ∨ j = 7 ∨ j = 8 ∨ j = 9 ∨ j = 10 ∨ j = 11 ∨ j = 12 ∨ j = 13 ∨ j = 14 ∨ j = 15 ∨ j = 16 ∨ j = 17 ∨ j = 18 ∨ j = 19 ∨ j = 20 ∨ j = 21 ∨ j = 22 ∨ j = 23 ∨ j = 24 ∨ j = 25 ∨ j = 26 ∨ j = 27 ∨ j = 28 by omega) with rfl | rfl | rfl | rfl | rfl | rfl | rfl | rfl | rfl | rfl | rfl | rfl | rfl | rfl | rfl | rfl | rfl | rfl | rfl | rfl | rfl | rfl | rfl | rfl | rfl | rfl | rfl | rfl | rfl <;> rfl) (Nat.le_of_ble_eq_true rfl) (Nat.le_of_ble_eq_true rfl) dL_law_8 (fun mo H3 hq2 hA2 hP hS2 => ?_)
    refine lv_dup hx hb dL_law_11 rfl ?_
    have hAm0 : ∀ a ∈ Lc ++ [mo], s.heap.size ≤ a := fun a ha => by
      rcases List.mem_append.mp ha with h9 | h9
      · exact hAc a h9
      · rw [List.mem_singleton.mp h9]; exact hA2
    refine then_g (run_IL (L := Lc ++ [mo]) (rest := [.ref mo]) hx hb hml hown hg hN hAo hK (n_M_init (sz := H3.size) (mg_nd hG1.1 hq2) (List.mem_append_right _ (List.mem_singleton.mpr rfl)) (va_up_self _ _ _)) gw591 gw589 gw590 gw7 rfl (by decide +kernel) ⟨Nat.le_of_ble_eq_true rfl, Nat.le_of_ble_eq_true rfl⟩ rfl rfl ⟨Nat.le_of_ble_eq_true rfl, Nat.le_of_ble_eq_true rfl⟩ hP hl.1 rfl (Nat.le_of_ble_eq_true rfl) dL_law_12) hS2 hAm0 hA0 (fun u H4 locs hpo hz2 hP hK hS => ?_)
    obtain ⟨Lm, f2, t2⟩ := u
    obtain ⟨hG2, hM⟩ := hpo
    have hAm : ∀ a ∈ Lm, s.heap.size ≤ a := fun a ha => by
      rcases hG2.2.1 a ha with h9 | h9
      · exact hAm0 a h9
      · exact Nat.le_trans hS2.1 h9
    refine lv_astore_n (lv' := [(2, .ref mo), (1, .ref cc), (0, .ref b)]) hx hb dL_law_15 rfl hl (by decide) rfl (fun ls hl => ?_)
    refine lv_iconst (v := nI 1) hx hb dL_law_16 (by decide) ?_
    refine mg_newa (L := Lm) (atype := .long) (a0 := (1, .inr (.inl (fun _ => 0)))) (ty := .long) hx hb (hg _ gw681) rfl hK hP hG2.1 hAm hS hA0 (fun _ => rfl) (by decide +kernel) (nI_clamp (by omega)) (by decide) (Nat.le_of_ble_eq_true rfl) (Nat.le_of_ble_eq_true rfl) dL_law_17 (fun ot cA H5 hq3 hA3 hK hP hS => ?_)
    refine lv_astore_n (lv' := [(3, .ref ot), (2, .ref mo), (1, .ref cc), (0, .ref b)]) hx hb dL_law_19 rfl hl (by decide) rfl (fun ls hl => ?_)
    refine lv_iconst (v := nI 0) hx hb dL_law_20 (by decide) ?_
    refine lv_istore (lv' := [(4, .int (nI 0)), (3, .ref ot), (2, .ref mo), (1, .ref cc), (0, .ref b)]) hx hb dL_law_21 hl (by decide) rfl (fun ls hl => ?_)
    have hLA : ∀ a ∈ Lm ++ [ot], s.heap.size ≤ a := fun a ha => by
      rcases List.mem_append.mp ha with h9 | h9
      · exact hAm a h9
      · rw [List.mem_singleton.mp h9]; exact hA3
    obtain ⟨fa, ww, kk, kkb, wk, wkb, wa, wp, wq, wqb, fn, dr, pr, sA, oA, ra, rb, rk, sq, ap, cm, ad, hT, hI⟩ := law_ready (cA := cA) hcc hC hq2 hG2 hM hq3
    refine W.widen (k := 149 + 0) (n := 2698 + 6 * 0) (by omega) (by omega) ?_
    exact law_loop ⟨hx, hb, hml, hown, hg, hr, hlocks, hK, hN⟩ hst hT ⟨lw_xw hts, hStr, lw_zs hts hgv hLA⟩ hnn hXs hbl hL hLA 600 0 _ _ (by omega) (by omega) _ _ _ hI hP hS (lv_sub hl [0, 4, 3, 2, 1] rfl)
  rw [lg_entry_eq]
  exact key _ (lv_entry [.ref b] (Nat.le_of_ble_eq_true rfl))
