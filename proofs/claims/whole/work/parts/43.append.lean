/-! Function.append -/
def a_gv (gv kd a : Int32) : Int32 := if q_gA kd = true then gv ||| (nI 1 <<< (a &&& 31)) else gv
def a_oi (oi : Nat) (kd : Int32) : Nat := if kd = nI 2 then oi + 1 else if kd = nI 4 then oi - 1 else oi
def a_ni (ni : Nat) (kd : Int32) : Nat := if kd = nI 2 then ni + 1 else ni
def a_go (go : Nat → Int32) (oi sz : Nat) (kd : Int32) : Nat → Int32 := if kd = nI 2 then upd go oi (nI sz) else if kd = nI 3 then upd go (oi - 1) (nI sz) else go
def a_sl (sl : Nat → Int32) (t sz : Nat) (kd : Int32) : Nat → Int32 := if kd = nI 3 then upd (upd sl sz (-1)) t (nI (sz + 1)) else if kd = nI 4 then upd (upd sl sz (-1)) t (nI sz) else upd sl sz (-1)
abbrev StAll (f : Nat → va_E) (sq : Nat → Nat) (sk sa sb sc sK sl : Nat → Int32) : Prop := ∀ j, j < 16 → f (sq j) = .inr (3, [.int (sk j), .int (sa j), .int (sb j), .int (sc j), .int (sK j), .int (sl j)])
theorem StAll.put {f f' : Nat → va_E} {sq : Nat → Nat} {sk sa sb sc sK sl : Nat → Int32} {t : Nat} {k0 a0 b0 c0 K0 l0 : Int32} (h : StAll f sq sk sa sb sc sK sl) (ht : t < 16) (inj : ∀ i j, i < 16 → j < 16 → sq i = sq j → i = j) (h1 : f' (sq t) = .inr (3, [.int k0, .int a0, .int b0, .int c0, .int K0, .int l0])) (h2 : ∀ j, j < 16 → j ≠ t → f' (sq j) = f (sq j)) : StAll f' sq (upd sk t k0) (upd sa t a0) (upd sb t b0) (upd sc t c0) (upd sK t K0) (upd sl t l0) := by
  intro j hj
  by_cases e : j = t
  · subst e
    simp only [upd, if_true]
    exact h1
  · simp only [upd, if_neg e]
    rw [h2 j hj e]
    exact h j hj
theorem StAll.lead {f f' : Nat → va_E} {sq : Nat → Nat} {sk sa sb sc sK sl : Nat → Int32} {t : Nat} {l0 : Int32} (h : StAll f sq sk sa sb sc sK sl) (ht : t < 16) (h1 : f' (sq t) = .inr (3, [.int (sk t), .int (sa t), .int (sb t), .int (sc t), .int (sK t), .int l0])) (h2 : ∀ j, j < 16 → j ≠ t → f' (sq j) = f (sq j)) : StAll f' sq sk sa sb sc sK (upd sl t l0) := by
  intro j hj
  by_cases e : j = t
  · subst e
    simp only [upd, if_true]
    exact h1
  · simp only [upd, if_neg e]
    rw [h2 j hj e]
    exact h j hj
theorem upd_id {g : Nat → Int32} {t : Nat} : upd g t (g t) = g := by
  funext j
  unfold upd
  split
  · rename_i e; rw [e]
  · rfl
set_option maxRecDepth 100000 in
set_option maxHeartbeats 4000000 in
theorem f_append {l : Launch} {D : va_G} {tys : List (ClassId × FieldType)} {L : List Nat} {f : Nat → va_E} (hn : L.Nodup) {F dR pR sA oA sz oi ni : Nat} {gv : Int32} (hFL : F ∈ L) (u1 : f F = .inr (0, [.ref dR, .ref pR, .ref sA, .ref oA, .int (nI sz), .int (nI oi), .int (nI ni), .int gv])) {sq : Nat → Nat} {sk sa sb sc sK sl go : Nat → Int32} (hsAL : sA ∈ L) (u2 : mm_Q tys "LiquidChecker$Statement" f sA 16 (fun j => some (sq j))) (hoAL : oA ∈ L) (u3 : mm_I tys f oA 6 go) (hsqL : ∀ j, j < 16 → sq j ∈ L) (u4 : ∀ j, j < 16 → f (sq j) = .inr (3, [.int (sk j), .int (sa j), .int (sb j), .int (sc j), .int (sK j), .int (sl j)])) (inj : ∀ i j, i < 16 → j < 16 → sq i = sq j → i = j) (hsz : sz < 16) (hoi : oi ≤ 6) {t : Nat} {kd a b cc k : Int32} (hi2 : kd = nI 2 → oi < 6) (h34 : kd = nI 3 ∨ kd = nI 4 → 0 < oi ∧ go (oi - 1) = nI t ∧ t < 16) : MetI l yF_append wF_append ({ frames := 1, cells := 0, slots := 0, locals := 25 } : Room) D tys L f [.ref F, .int kd, .int a, .int b, .int cc, .int k] (fun r f' => r = nI sz ∧ f' F = .inr (0, [.ref dR, .ref pR, .ref sA, .ref oA, .int (nI (sz + 1)), .int (nI (a_oi oi kd)), .int (nI (a_ni ni kd)), .int (a_gv gv kd a)]) ∧ mm_I tys f' oA 6 (a_go go oi sz kd) ∧ StAll f' sq (upd sk sz kd) (upd sa sz a) (upd sb sz b) (upd sc sz cc) (upd sK sz k) (a_sl sl t sz kd) ∧ ∀ z, z ≠ F → z ≠ oA → (∀ j, j < 16 → z ≠ sq j) → f' z = f z) := by
  refine met_of "LiquidChecker$Function" (by decide) rfl (Nat.le_of_ble_eq_true rfl) ?_
  intro p e s m below meth c ls C0 hP hl
  obtain ⟨hx, hb, hml, hown, hg, hr, hlocks, hK, hN⟩ := id C0
  have hA : ∀ a ∈ L, inL L a := fun _ h => h
  obtain ⟨H, hH⟩ : ∃ z, z = s.heap := ⟨_, rfl⟩
  rw [← hH] at hP ⊢
  have hS : va_S (inL L) s.heap H [] := by rw [hH]; exact va_S.rf
  have hl : lv_has ls 7 [(0, .ref F), (1, .int kd), (2, .int a), (3, .int b), (4, .int cc), (5, .int k)] := hl
  refine lv_aload_n hx hb dF_append_0 rfl (lv_at hl 0 rfl) ?_
  refine mm_get (v := .int (nI sz)) hx hb hg inF hown hK hP hFL u1 rfl 4 (by decide) (hg _ gw159) (fun _ h9 => h9) rfl dF_append_1 ?_
  refine lv_istore (lv' := [(6, .int (nI sz)), (0, .ref F), (1, .int kd), (2, .int a), (3, .int b), (4, .int cc), (5, .int k)]) hx hb dF_append_4 hl (by decide) rfl (fun ls hl => ?_)
  refine lv_aload_n hx hb dF_append_6 rfl (lv_at hl 1 rfl) ?_
  refine mm_get (v := .ref sA) hx hb hg inF hown hK hP hFL u1 rfl 2 (by decide) (hg _ gw156) (fun _ h9 => h9) rfl dF_append_7 ?_
  refine lv_iload hx hb dF_append_10 (lv_at hl 0 rfl) ?_
  refine mm_aldq hx hb hK hP hsAL u2 (vp_in_nI (show sz < 16 by omega) (by omega)) (q := (sq sz)) (by rw [nI_clamp (by omega)]) dF_append_12 ?_
  refine lv_iload_n hx hb dF_append_13 rfl (lv_at hl 2 rfl) ?_
  refine lv_iload_n hx hb dF_append_14 rfl (lv_at hl 3 rfl) ?_
  refine lv_iload_n hx hb dF_append_15 rfl (lv_at hl 4 rfl) ?_
  refine lv_iload hx hb dF_append_16 (lv_at hl 5 rfl) ?_
  refine lv_iload hx hb dF_append_18 (lv_at hl 6 rfl) ?_
  refine then_v (run_VN (n := 5) (As := [.int kd, .int a, .int b, .int cc, .int k]) (rest := []) C0 (s_write hn (hsqL sz hsz) (u4 sz hsz)) gw375 nx372 gw374 gsS_write gw6 (by decide +kernel) ⟨Nat.le_of_ble_eq_true rfl, Nat.le_of_ble_eq_true rfl⟩ rfl rfl ⟨Nat.le_of_ble_eq_true rfl, Nat.le_of_ble_eq_true rfl⟩ hP (hsqL sz hsz) (u4 sz hsz) rfl rfl rfl hl.1 rfl (Nat.le_of_ble_eq_true rfl) dF_append_20) hS hA (fun f1 H locs hq20 hP hS => ?_)
  obtain ⟨hw1, hw2⟩ := hq20
  have s4 : StAll f1 sq (upd sk sz kd) (upd sa sz a) (upd sb sz b) (upd sc sz cc) (upd sK sz k) (upd sl sz (-1)) := StAll.put u4 hsz inj hw1 (fun j hj e => hw2 _ (fun z => e (inj _ _ hj hsz z)))
  have hfr : ∀ z, (∀ j, j < 16 → z ≠ sq j) → f1 z = f z := fun z hz => hw2 z (hz sz hsz)
  have p2 : mm_Q tys "LiquidChecker$Statement" f1 sA 16 (fun j => some (sq j)) := u2.eq (hw2 _ (Ne.symm (mm_QO u2 (u4 sz hsz))))
  have p3 : mm_I tys f1 oA 6 go := u3.eq (hw2 _ (Ne.symm (mm_IO u3 (u4 sz hsz))))
  have p4 : f1 F = .inr (0, [.ref dR, .ref pR, .ref sA, .ref oA, .int (nI sz), .int (nI oi), .int (nI ni), .int gv]) := by rw [hw2 _ (mm_OO u1 (u4 sz hsz) (by decide))]; exact u1
  refine lv_aload_n hx hb dF_append_23 rfl (lv_at hl 1 rfl) ?_
  refine lv_dup hx hb dF_append_24 rfl ?_
  refine mm_get (v := .int (nI sz)) hx hb hg inF hown hK hP hFL p4 rfl 4 (by decide) (hg _ gw159) (fun _ h9 => h9) rfl dF_append_25 ?_
  refine lv_iconst (v := nI 1) hx hb dF_append_28 (by decide) ?_
  refine lv_iadd hx hb dF_append_29 ?_
  rw [nI_add]
  refine mm_put (v := .int (nI (sz + 1))) (ty := .int) hx hb hg inF tyF tyF_ok nmF hown hK hn hA hP hS hFL p4 rfl 4 (by decide) (hg _ gw159) (fun _ h9 => h9) rfl (by decide +kernel) rfl rfl (Nat.le_of_ble_eq_true rfl) dF_append_30 (fun H locs hP hS => ?_)
  obtain ⟨f5, hf5⟩ : ∃ z, z = va_up f1 F (.inr (0, [.ref dR, .ref pR, .ref sA, .ref oA, .int (nI (sz + 1)), .int (nI oi), .int (nI ni), .int gv])) := ⟨_, rfl⟩
  have hP : va_P D zCl (va_pl L f5) H := by rw [hf5]; exact hP
  have p6 : mm_Q tys "LiquidChecker$Statement" f5 sA 16 (fun j => some (sq j)) := p2.eq (by rw [hf5, va_up_ne _ _ (Ne.symm (mm_QO p2 p4))])
  have p7 : mm_I tys f5 oA 6 go := p3.eq (by rw [hf5, va_up_ne _ _ (Ne.symm (mm_IO p3 p4))])
  have p8 : StAll f5 sq (upd sk sz kd) (upd sa sz a) (upd sb sz b) (upd sc sz cc) (upd sK sz k) (upd sl sz (-1)) := fun j hj => by rw [hf5, va_up_ne _ _ (mm_OO (s4 j hj) p4 (by decide))]; exact s4 j hj
  have p9 : f5 F = .inr (0, [.ref dR, .ref pR, .ref sA, .ref oA, .int (nI (sz + 1)), .int (nI oi), .int (nI ni), .int gv]) := by rw [hf5]; exact va_up_self _ _ _
  refine lv_iload_n hx hb dF_append_33 rfl (lv_at hl 2 rfl) ?_
  refine then_i (run_SN (n := 1) (As := [.int kd]) (rest := []) C0 (qC_givesA hn) gw315 nx376 gw314 gw1 (by decide +kernel) ⟨Nat.le_of_ble_eq_true rfl, Nat.le_of_ble_eq_true rfl⟩ rfl rfl ⟨Nat.le_of_ble_eq_true rfl, Nat.le_of_ble_eq_true rfl⟩ hP rfl hl.1 rfl (Nat.le_of_ble_eq_true rfl) dF_append_34) hS hA (fun r11 f10 H locs hq34 hP hS => ?_)
  obtain ⟨er11, ef10⟩ := hq34
  subst er11
  rw [ef10] at hP
  refine lv_if_eq (tgt := 52) hx hb dF_append_37 (by decide) (fun c37 => ?_) (fun c37 => ?_)
  · have c37 : (q_gA kd) = false := kb_0.mp c37
    refine lv_iload_n hx hb dF_append_52 rfl (lv_at hl 2 rfl) ?_
    by_cases w53_2 : kd = nI 2
    · refine lv_tableIn (tgt := 80) (off := 27) hx hb dF_append_53 (by rw [w53_2]; decide +kernel) (by rw [w53_2]; decide +kernel) (by rw [w53_2]; decide +kernel) (by decide) ?_
      refine lv_aload_n hx hb dF_append_80 rfl (lv_at hl 1 rfl) ?_
      refine lv_iload hx hb dF_append_81 (lv_at hl 0 rfl) ?_
      refine then_v (run_V (n := 1) (As := [.int (nI sz)]) (rest := []) C0 (f_openIf hn hFL p9 hoAL p7 (hi2 w53_2)) gw380 gw377 gw379 gsF_openIf gw4 (by decide +kernel) ⟨Nat.le_of_ble_eq_true rfl, Nat.le_of_ble_eq_true rfl⟩ rfl rfl ⟨Nat.le_of_ble_eq_true rfl, Nat.le_of_ble_eq_true rfl⟩ hP hFL p9 rfl rfl rfl hl.1 rfl (Nat.le_of_ble_eq_true rfl) dF_append_83) hS hA (fun f12 H locs hq83 hP hS => ?_)
      obtain ⟨hw3, hw4, hw5⟩ := hq83
      refine lv_goto (tgt := 107) hx hb dF_append_86 (by decide) ?_
      refine lv_iload hx hb dF_append_107 (lv_at hl 0 rfl) ?_
      refine ret_i C0 hP hS ⟨rfl, ?_, ?_, ?_, ?_⟩ dF_append_109
      · rw [show a_oi oi kd = oi + 1 by unfold a_oi; rw [if_pos w53_2], show a_ni ni kd = ni + 1 by unfold a_ni; rw [if_pos w53_2], show a_gv gv kd a = _ from if_neg (by rw [c37]; decide)]; exact hw3
      · rw [show a_go go oi sz kd = upd go oi (nI sz) by unfold a_go; rw [if_pos w53_2]]; exact hw4
      · rw [show a_sl sl t sz kd = upd sl sz (-1) by unfold a_sl; rw [if_neg (by rw [w53_2]; decide +kernel), if_neg (by rw [w53_2]; decide +kernel)]]
        intro j hj; rw [hw5 _ (mm_OO (p8 j hj) p9 (by decide)) (mm_IO p7 (p8 j hj))]; exact p8 j hj
      · intro z z1 z2 z3; rw [hw5 z z1 z2, hf5, va_up_ne _ _ z1]; exact hfr z z3
    · skip
      by_cases w53_3 : kd = nI 3
      · refine lv_tableIn (tgt := 89) (off := 36) hx hb dF_append_53 (by rw [w53_3]; decide +kernel) (by rw [w53_3]; decide +kernel) (by rw [w53_3]; decide +kernel) (by decide) ?_
        refine lv_aload_n hx hb dF_append_89 rfl (lv_at hl 1 rfl) ?_
        refine lv_iload hx hb dF_append_90 (lv_at hl 0 rfl) ?_
        refine then_v (run_V (n := 1) (As := [.int (nI sz)]) (rest := []) C0 (f_turnToElse hn hFL p9 hsAL p6 hoAL p7 hsqL p8 (h34 (Or.inl w53_3)).1 (h34 (Or.inl w53_3)).2.1 (h34 (Or.inl w53_3)).2.2 hoi) gw384 gw381 gw383 gsF_turnToElse gw4 (by decide +kernel) ⟨Nat.le_of_ble_eq_true rfl, Nat.le_of_ble_eq_true rfl⟩ rfl rfl ⟨Nat.le_of_ble_eq_true rfl, Nat.le_of_ble_eq_true rfl⟩ hP hFL p9 rfl rfl rfl hl.1 rfl (Nat.le_of_ble_eq_true rfl) dF_append_92) hS hA (fun f13 H locs hq92 hP hS => ?_)
        obtain ⟨hw3, hw4, hw5⟩ := hq92
        refine lv_goto (tgt := 107) hx hb dF_append_95 (by decide) ?_
        refine lv_iload hx hb dF_append_107 (lv_at hl 0 rfl) ?_
        have ht9 := (h34 (Or.inl w53_3)).2.2
        refine ret_i C0 hP hS ⟨rfl, ?_, ?_, ?_, ?_⟩ dF_append_109
        · rw [show a_oi oi kd = oi by unfold a_oi; rw [if_neg w53_2, if_neg (by rw [w53_3]; decide +kernel)], show a_ni ni kd = ni by unfold a_ni; rw [if_neg w53_2], show a_gv gv kd a = _ from if_neg (by rw [c37]; decide), hw5 _ (Ne.symm (mm_OO (p8 t ht9) p9 (by decide))) (mm_IO p7 p9)]; exact p9
        · rw [show a_go go oi sz kd = upd go (oi - 1) (nI sz) by unfold a_go; rw [if_neg w53_2, if_pos w53_3]]; exact hw4
        · rw [show a_sl sl t sz kd = upd (upd sl sz (-1)) t (nI (sz + 1)) by unfold a_sl; rw [if_pos w53_3]]
          exact StAll.lead p8 ht9 hw3 (fun j hj e => hw5 _ (fun q => e (inj _ _ hj ht9 q)) (mm_IO p7 (p8 j hj)))
        · intro z z1 z2 z3; rw [hw5 z (z3 t ht9) z2, hf5, va_up_ne _ _ z1]; exact hfr z z3
      · skip
        by_cases w53_4 : kd = nI 4
        · refine lv_tableIn (tgt := 98) (off := 45) hx hb dF_append_53 (by rw [w53_4]; decide +kernel) (by rw [w53_4]; decide +kernel) (by rw [w53_4]; decide +kernel) (by decide) ?_
          refine lv_aload_n hx hb dF_append_98 rfl (lv_at hl 1 rfl) ?_
          refine lv_iload hx hb dF_append_99 (lv_at hl 0 rfl) ?_
          refine then_v (run_V (n := 1) (As := [.int (nI sz)]) (rest := []) C0 (f_closeIf hn hFL p9 hsAL p6 hoAL p7 hsqL p8 (h34 (Or.inr w53_4)).1 (h34 (Or.inr w53_4)).2.1 (h34 (Or.inr w53_4)).2.2 hoi) gw388 gw385 gw387 gsF_closeIf gw4 (by decide +kernel) ⟨Nat.le_of_ble_eq_true rfl, Nat.le_of_ble_eq_true rfl⟩ rfl rfl ⟨Nat.le_of_ble_eq_true rfl, Nat.le_of_ble_eq_true rfl⟩ hP hFL p9 rfl rfl rfl hl.1 rfl (Nat.le_of_ble_eq_true rfl) dF_append_101) hS hA (fun f14 H locs hq101 hP hS => ?_)
          obtain ⟨hw3, hw4, hw5⟩ := hq101
          refine lv_goto (tgt := 107) hx hb dF_append_104 (by decide) ?_
          refine lv_iload hx hb dF_append_107 (lv_at hl 0 rfl) ?_
          have ht9 := (h34 (Or.inr w53_4)).2.2
          refine ret_i C0 hP hS ⟨rfl, ?_, ?_, ?_, ?_⟩ dF_append_109
          · rw [show a_oi oi kd = oi - 1 by unfold a_oi; rw [if_neg w53_2, if_pos w53_4], show a_ni ni kd = ni by unfold a_ni; rw [if_neg w53_2], show a_gv gv kd a = _ from if_neg (by rw [c37]; decide)]; exact hw3
          · rw [show a_go go oi sz kd = go by unfold a_go; rw [if_neg w53_2, if_neg w53_3]]; exact p7.eq (hw5 _ (Ne.symm (mm_IO p7 p9)) (Ne.symm (mm_IO p7 (p8 t ht9))))
          · rw [show a_sl sl t sz kd = upd (upd sl sz (-1)) t (nI sz) by unfold a_sl; rw [if_neg w53_3, if_pos w53_4]]
            exact StAll.lead p8 ht9 hw4 (fun j hj e => hw5 _ (mm_OO (p8 j hj) p9 (by decide)) (fun q => e (inj _ _ hj ht9 q)))
          · intro z z1 z2 z3; rw [hw5 z z1 (z3 t ht9), hf5, va_up_ne _ _ z1]; exact hfr z z3
        · skip
          refine lv_tableOut (tgt := 107) hx hb dF_append_53 (by
            have z2 : kd.toInt ≠ 2 := fun e => w53_2 (Int32.toInt_inj.mp (e.trans (by decide +kernel)))
            have z3 : kd.toInt ≠ 3 := fun e => w53_3 (Int32.toInt_inj.mp (e.trans (by decide +kernel)))
            have z4 : kd.toInt ≠ 4 := fun e => w53_4 (Int32.toInt_inj.mp (e.trans (by decide +kernel)))
            omega) (by decide) ?_
          refine lv_iload hx hb dF_append_107 (lv_at hl 0 rfl) ?_
          refine ret_i C0 hP hS ⟨rfl, ?_, ?_, ?_, ?_⟩ dF_append_109
          · rw [show a_oi oi kd = oi by unfold a_oi; rw [if_neg w53_2, if_neg w53_4], show a_ni ni kd = ni by unfold a_ni; rw [if_neg w53_2], show a_gv gv kd a = _ from if_neg (by rw [c37]; decide)]; exact p9
          · rw [show a_go go oi sz kd = go by unfold a_go; rw [if_neg w53_2, if_neg w53_3]]; exact p7
          · rw [show a_sl sl t sz kd = upd sl sz (-1) by unfold a_sl; rw [if_neg w53_3, if_neg w53_4]]; exact p8
          · intro z z1 z2 z3; rw [hf5, va_up_ne _ _ z1]; exact hfr z z3
  · have c37 : (q_gA kd) = true := kb_t.mp c37
    refine lv_aload_n hx hb dF_append_40 rfl (lv_at hl 1 rfl) ?_
    refine lv_dup hx hb dF_append_41 rfl ?_
    refine mm_get (v := .int gv) hx hb hg inF hown hK hP hFL p9 rfl 7 (by decide) (hg _ gw165) (fun _ h9 => h9) rfl dF_append_42 ?_
    refine lv_iconst (v := nI 1) hx hb dF_append_45 (by decide) ?_
    refine lv_iload_n hx hb dF_append_46 rfl (lv_at hl 3 rfl) ?_
    refine lv_ishl hx hb dF_append_47 ?_
    refine lv_ior hx hb dF_append_48 ?_
    refine mm_put (v := .int (gv ||| ((nI 1) <<< (a &&& 31)))) (ty := .int) hx hb hg inF tyF tyF_ok nmF hown hK hn hA hP hS hFL p9 rfl 7 (by decide) (hg _ gw165) (fun _ h9 => h9) rfl (by decide +kernel) rfl rfl (Nat.le_of_ble_eq_true rfl) dF_append_49 (fun H locs hP hS => ?_)
    obtain ⟨f15, hf15⟩ : ∃ z, z = va_up f5 F (.inr (0, [.ref dR, .ref pR, .ref sA, .ref oA, .int (nI (sz + 1)), .int (nI oi), .int (nI ni), .int (gv ||| ((nI 1) <<< (a &&& 31)))])) := ⟨_, rfl⟩
    have hP : va_P D zCl (va_pl L f15) H := by rw [hf15]; exact hP
    have p16 : mm_Q tys "LiquidChecker$Statement" f15 sA 16 (fun j => some (sq j)) := p6.eq (by rw [hf15, va_up_ne _ _ (Ne.symm (mm_QO p6 p9))])
    have p17 : mm_I tys f15 oA 6 go := p7.eq (by rw [hf15, va_up_ne _ _ (Ne.symm (mm_IO p7 p9))])
    have p18 : StAll f15 sq (upd sk sz kd) (upd sa sz a) (upd sb sz b) (upd sc sz cc) (upd sK sz k) (upd sl sz (-1)) := fun j hj => by rw [hf15, va_up_ne _ _ (mm_OO (p8 j hj) p9 (by decide))]; exact p8 j hj
    have p19 : f15 F = .inr (0, [.ref dR, .ref pR, .ref sA, .ref oA, .int (nI (sz + 1)), .int (nI oi), .int (nI ni), .int (gv ||| ((nI 1) <<< (a &&& 31)))]) := by rw [hf15]; exact va_up_self _ _ _
    refine lv_iload_n hx hb dF_append_52 rfl (lv_at hl 2 rfl) ?_
    by_cases w53_2 : kd = nI 2
    · refine lv_tableIn (tgt := 80) (off := 27) hx hb dF_append_53 (by rw [w53_2]; decide +kernel) (by rw [w53_2]; decide +kernel) (by rw [w53_2]; decide +kernel) (by decide) ?_
      refine lv_aload_n hx hb dF_append_80 rfl (lv_at hl 1 rfl) ?_
      refine lv_iload hx hb dF_append_81 (lv_at hl 0 rfl) ?_
      refine then_v (run_V (n := 1) (As := [.int (nI sz)]) (rest := []) C0 (f_openIf hn hFL p19 hoAL p17 (hi2 w53_2)) gw380 gw377 gw379 gsF_openIf gw4 (by decide +kernel) ⟨Nat.le_of_ble_eq_true rfl, Nat.le_of_ble_eq_true rfl⟩ rfl rfl ⟨Nat.le_of_ble_eq_true rfl, Nat.le_of_ble_eq_true rfl⟩ hP hFL p19 rfl rfl rfl hl.1 rfl (Nat.le_of_ble_eq_true rfl) dF_append_83) hS hA (fun f20 H locs hq83 hP hS => ?_)
      obtain ⟨hw3, hw4, hw5⟩ := hq83
      refine lv_goto (tgt := 107) hx hb dF_append_86 (by decide) ?_
      refine lv_iload hx hb dF_append_107 (lv_at hl 0 rfl) ?_
      refine ret_i C0 hP hS ⟨rfl, ?_, ?_, ?_, ?_⟩ dF_append_109
      · rw [show a_oi oi kd = oi + 1 by unfold a_oi; rw [if_pos w53_2], show a_ni ni kd = ni + 1 by unfold a_ni; rw [if_pos w53_2], show a_gv gv kd a = _ from if_pos c37]; exact hw3
      · rw [show a_go go oi sz kd = upd go oi (nI sz) by unfold a_go; rw [if_pos w53_2]]; exact hw4
      · rw [show a_sl sl t sz kd = upd sl sz (-1) by unfold a_sl; rw [if_neg (by rw [w53_2]; decide +kernel), if_neg (by rw [w53_2]; decide +kernel)]]
        intro j hj; rw [hw5 _ (mm_OO (p18 j hj) p19 (by decide)) (mm_IO p17 (p18 j hj))]; exact p18 j hj
      · intro z z1 z2 z3; rw [hw5 z z1 z2, hf15, hf5, va_up_ne _ _ z1, va_up_ne _ _ z1]; exact hfr z z3
    · skip
      by_cases w53_3 : kd = nI 3
      · refine lv_tableIn (tgt := 89) (off := 36) hx hb dF_append_53 (by rw [w53_3]; decide +kernel) (by rw [w53_3]; decide +kernel) (by rw [w53_3]; decide +kernel) (by decide) ?_
        refine lv_aload_n hx hb dF_append_89 rfl (lv_at hl 1 rfl) ?_
        refine lv_iload hx hb dF_append_90 (lv_at hl 0 rfl) ?_
        refine then_v (run_V (n := 1) (As := [.int (nI sz)]) (rest := []) C0 (f_turnToElse hn hFL p19 hsAL p16 hoAL p17 hsqL p18 (h34 (Or.inl w53_3)).1 (h34 (Or.inl w53_3)).2.1 (h34 (Or.inl w53_3)).2.2 hoi) gw384 gw381 gw383 gsF_turnToElse gw4 (by decide +kernel) ⟨Nat.le_of_ble_eq_true rfl, Nat.le_of_ble_eq_true rfl⟩ rfl rfl ⟨Nat.le_of_ble_eq_true rfl, Nat.le_of_ble_eq_true rfl⟩ hP hFL p19 rfl rfl rfl hl.1 rfl (Nat.le_of_ble_eq_true rfl) dF_append_92) hS hA (fun f21 H locs hq92 hP hS => ?_)
        obtain ⟨hw3, hw4, hw5⟩ := hq92
        refine lv_goto (tgt := 107) hx hb dF_append_95 (by decide) ?_
        refine lv_iload hx hb dF_append_107 (lv_at hl 0 rfl) ?_
        have ht9 := (h34 (Or.inl w53_3)).2.2
        refine ret_i C0 hP hS ⟨rfl, ?_, ?_, ?_, ?_⟩ dF_append_109
        · rw [show a_oi oi kd = oi by unfold a_oi; rw [if_neg w53_2, if_neg (by rw [w53_3]; decide +kernel)], show a_ni ni kd = ni by unfold a_ni; rw [if_neg w53_2], show a_gv gv kd a = _ from if_pos c37, hw5 _ (Ne.symm (mm_OO (p18 t ht9) p19 (by decide))) (mm_IO p17 p19)]; exact p19
        · rw [show a_go go oi sz kd = upd go (oi - 1) (nI sz) by unfold a_go; rw [if_neg w53_2, if_pos w53_3]]; exact hw4
        · rw [show a_sl sl t sz kd = upd (upd sl sz (-1)) t (nI (sz + 1)) by unfold a_sl; rw [if_pos w53_3]]
          exact StAll.lead p18 ht9 hw3 (fun j hj e => hw5 _ (fun q => e (inj _ _ hj ht9 q)) (mm_IO p17 (p18 j hj)))
        · intro z z1 z2 z3; rw [hw5 z (z3 t ht9) z2, hf15, hf5, va_up_ne _ _ z1, va_up_ne _ _ z1]; exact hfr z z3
      · skip
        by_cases w53_4 : kd = nI 4
        · refine lv_tableIn (tgt := 98) (off := 45) hx hb dF_append_53 (by rw [w53_4]; decide +kernel) (by rw [w53_4]; decide +kernel) (by rw [w53_4]; decide +kernel) (by decide) ?_
          refine lv_aload_n hx hb dF_append_98 rfl (lv_at hl 1 rfl) ?_
          refine lv_iload hx hb dF_append_99 (lv_at hl 0 rfl) ?_
          refine then_v (run_V (n := 1) (As := [.int (nI sz)]) (rest := []) C0 (f_closeIf hn hFL p19 hsAL p16 hoAL p17 hsqL p18 (h34 (Or.inr w53_4)).1 (h34 (Or.inr w53_4)).2.1 (h34 (Or.inr w53_4)).2.2 hoi) gw388 gw385 gw387 gsF_closeIf gw4 (by decide +kernel) ⟨Nat.le_of_ble_eq_true rfl, Nat.le_of_ble_eq_true rfl⟩ rfl rfl ⟨Nat.le_of_ble_eq_true rfl, Nat.le_of_ble_eq_true rfl⟩ hP hFL p19 rfl rfl rfl hl.1 rfl (Nat.le_of_ble_eq_true rfl) dF_append_101) hS hA (fun f22 H locs hq101 hP hS => ?_)
          obtain ⟨hw3, hw4, hw5⟩ := hq101
          refine lv_goto (tgt := 107) hx hb dF_append_104 (by decide) ?_
          refine lv_iload hx hb dF_append_107 (lv_at hl 0 rfl) ?_
          have ht9 := (h34 (Or.inr w53_4)).2.2
          refine ret_i C0 hP hS ⟨rfl, ?_, ?_, ?_, ?_⟩ dF_append_109
          · rw [show a_oi oi kd = oi - 1 by unfold a_oi; rw [if_neg w53_2, if_pos w53_4], show a_ni ni kd = ni by unfold a_ni; rw [if_neg w53_2], show a_gv gv kd a = _ from if_pos c37]; exact hw3
          · rw [show a_go go oi sz kd = go by unfold a_go; rw [if_neg w53_2, if_neg w53_3]]; exact p17.eq (hw5 _ (Ne.symm (mm_IO p17 p19)) (Ne.symm (mm_IO p17 (p18 t ht9))))
          · rw [show a_sl sl t sz kd = upd (upd sl sz (-1)) t (nI sz) by unfold a_sl; rw [if_neg w53_3, if_pos w53_4]]
            exact StAll.lead p18 ht9 hw4 (fun j hj e => hw5 _ (mm_OO (p18 j hj) p19 (by decide)) (fun q => e (inj _ _ hj ht9 q)))
          · intro z z1 z2 z3; rw [hw5 z z1 (z3 t ht9), hf15, hf5, va_up_ne _ _ z1, va_up_ne _ _ z1]; exact hfr z z3
        · skip
          refine lv_tableOut (tgt := 107) hx hb dF_append_53 (by
            have z2 : kd.toInt ≠ 2 := fun e => w53_2 (Int32.toInt_inj.mp (e.trans (by decide +kernel)))
            have z3 : kd.toInt ≠ 3 := fun e => w53_3 (Int32.toInt_inj.mp (e.trans (by decide +kernel)))
            have z4 : kd.toInt ≠ 4 := fun e => w53_4 (Int32.toInt_inj.mp (e.trans (by decide +kernel)))
            omega) (by decide) ?_
          refine lv_iload hx hb dF_append_107 (lv_at hl 0 rfl) ?_
          refine ret_i C0 hP hS ⟨rfl, ?_, ?_, ?_, ?_⟩ dF_append_109
          · rw [show a_oi oi kd = oi by unfold a_oi; rw [if_neg w53_2, if_neg w53_4], show a_ni ni kd = ni by unfold a_ni; rw [if_neg w53_2], show a_gv gv kd a = _ from if_pos c37]; exact p19
          · rw [show a_go go oi sz kd = go by unfold a_go; rw [if_neg w53_2, if_neg w53_3]]; exact p17
          · rw [show a_sl sl t sz kd = upd sl sz (-1) by unfold a_sl; rw [if_neg w53_3, if_neg w53_4]]; exact p18
          · intro z z1 z2 z3; rw [hf15, hf5, va_up_ne _ _ z1, va_up_ne _ _ z1]; exact hfr z z3
