/-! Walk: the small ones -/
def n_lu (lu pl : Int32) (b : Bool) : Int32 := if b = false ∧ (lu = -1 ∨ ¬ lu ≤ pl) then pl else lu
def n_gr (gr v : Int32) : Int32 := if gr < v then v else gr
def n_pm (pm : Int32) (pl : Nat) : Int32 := pm ||| (nI 1 <<< (nI pl &&& 31))
def q_cm (pm : Int32) (pl : Nat) : Bool := decide ((pm >>> (nI pl &&& 31)) &&& nI 1 = nI 1)
/-- nothing but one cell, nothing but three -/
def Same1 (f f' : Nat → va_E) (a : Nat) : Prop := ∀ z, z ≠ a → f' z = f z
def Same3 (f f' : Nat → va_E) (a h b : Nat) : Prop := ∀ z, z ≠ a → z ≠ h → z ≠ b → f' z = f z
set_option maxRecDepth 100000 in
set_option maxHeartbeats 4000000 in
theorem w_cameTo {l : Launch} {D : va_G} {tys : List (ClassId × FieldType)} {L : List Nat} {f : Nat → va_E} (hn : L.Nodup) {W wk wa wp ws aA aB en : Nat} {ap gr pm lu : Int32} (hWL : W ∈ L) (v1 : f W = .inr (4, [.ref wk, .ref wa, .ref wp, .int (nI ws), .int ap, .int (nI aA), .int (nI aB), .int gr, .int pm, .int lu, .int (nI en)])) {pl : Nat} : MetI l yW_cameTo wW_cameTo ({ frames := 0, cells := 0, slots := 0, locals := 0 } : Room) D tys L f [.ref W, .int (nI pl)] (fun r f' => r = kb (q_cm pm pl) ∧ f' = f) := by
  refine met_of "LiquidChecker$Walk" (by decide) rfl (Nat.le_of_ble_eq_true rfl) ?_
  intro p e s m below meth c ls C0 hP hl
  obtain ⟨hx, hb, hml, hown, hg, hr, hlocks, hK, hN⟩ := id C0
  have hA : ∀ a ∈ L, inL L a := fun _ h => h
  obtain ⟨H, hH⟩ : ∃ z, z = s.heap := ⟨_, rfl⟩
  rw [← hH] at hP ⊢
  have hS : va_S (inL L) s.heap H [] := by rw [hH]; exact va_S.rf
  have hl : lv_has ls 2 [(0, .ref W), (1, .int (nI pl))] := hl
  refine lv_aload_n hx hb dW_cameTo_0 rfl (lv_at hl 0 rfl) ?_
  refine mm_get (v := .int pm) hx hb hg inW hown hK hP hWL v1 rfl 8 (by decide) (hg _ gw61) (fun _ h9 => h9) rfl dW_cameTo_1 ?_
  refine lv_iload_n hx hb dW_cameTo_4 rfl (lv_at hl 1 rfl) ?_
  refine lv_ishr hx hb dW_cameTo_5 ?_
  refine lv_iconst (v := nI 1) hx hb dW_cameTo_6 (by decide) ?_
  refine lv_iand hx hb dW_cameTo_7 ?_
  refine lv_iconst (v := nI 1) hx hb dW_cameTo_8 (by decide) ?_
  refine lv_icmp_ne (tgt := 16) hx hb dW_cameTo_9 (by decide) (fun c9 => ?_) (fun c9 => ?_)
  · refine lv_iconst (v := nI 0) hx hb dW_cameTo_16 (by decide) ?_
    exact ret_z C0 rfl hP hS ⟨by simp [q_cm, kb, c9], rfl⟩ dW_cameTo_17
  · refine lv_iconst (v := nI 1) hx hb dW_cameTo_12 (by decide) ?_
    refine lv_goto (tgt := 17) hx hb dW_cameTo_13 (by decide) ?_
    exact ret_z C0 rfl hP hS ⟨by simp [q_cm, kb, c9], rfl⟩ dW_cameTo_17
set_option maxRecDepth 100000 in
set_option maxHeartbeats 4000000 in
theorem w_noteShown {l : Launch} {D : va_G} {tys : List (ClassId × FieldType)} {L : List Nat} {f : Nat → va_E} (hn : L.Nodup) {W wk wa wp ws aA aB en : Nat} {ap gr pm lu : Int32} (hWL : W ∈ L) (v1 : f W = .inr (4, [.ref wk, .ref wa, .ref wp, .int (nI ws), .int ap, .int (nI aA), .int (nI aB), .int gr, .int pm, .int lu, .int (nI en)])) {pl : Int32} {b : Bool} : MetV l yW_noteShown wW_noteShown ({ frames := 0, cells := 0, slots := 0, locals := 0 } : Room) D tys L f [.ref W, .int pl, .int (kb b)] (fun f' => f' W = .inr (4, [.ref wk, .ref wa, .ref wp, .int (nI ws), .int ap, .int (nI aA), .int (nI aB), .int gr, .int pm, .int (n_lu lu pl b), .int (nI en)]) ∧ Same1 f f' W) := by
  refine met_of "LiquidChecker$Walk" (by decide) rfl (Nat.le_of_ble_eq_true rfl) ?_
  intro p e s m below meth c ls C0 hP hl
  obtain ⟨hx, hb, hml, hown, hg, hr, hlocks, hK, hN⟩ := id C0
  have hA : ∀ a ∈ L, inL L a := fun _ h => h
  obtain ⟨H, hH⟩ : ∃ z, z = s.heap := ⟨_, rfl⟩
  rw [← hH] at hP ⊢
  have hS : va_S (inL L) s.heap H [] := by rw [hH]; exact va_S.rf
  have hl : lv_has ls 3 [(0, .ref W), (1, .int pl), (2, .int (kb b))] := hl
  refine lv_iload_n hx hb dW_noteShown_0 rfl (lv_at hl 2 rfl) ?_
  refine lv_if_ne (tgt := 25) hx hb dW_noteShown_1 (by decide) (fun c1 => ?_) (fun c1 => ?_)
  · have c1 : b = true := kb_t.mp c1
    exact ret_v C0 hP hS ⟨by rw [show n_lu lu pl b = lu from if_neg (fun q => by rw [c1] at q; exact absurd q.1 (by decide))]; exact v1, fun _ _ => rfl⟩ dW_noteShown_25
  · have c1 : b = false := kb_0.mp c1
    refine lv_aload_n hx hb dW_noteShown_4 rfl (lv_at hl 0 rfl) ?_
    refine mm_get (v := .int lu) hx hb hg inW hown hK hP hWL v1 rfl 9 (by decide) (hg _ gw62) (fun _ h9 => h9) rfl dW_noteShown_5 ?_
    refine lv_iconst (v := (-1)) hx hb dW_noteShown_8 (by decide) ?_
    refine lv_icmp_eq (tgt := 20) hx hb dW_noteShown_9 (by decide) (fun c9 => ?_) (fun c9 => ?_)
    · refine lv_aload_n hx hb dW_noteShown_20 rfl (lv_at hl 0 rfl) ?_
      refine lv_iload_n hx hb dW_noteShown_21 rfl (lv_at hl 1 rfl) ?_
      refine mm_put (v := .int pl) (ty := .int) hx hb hg inW tyW tyW_ok nmW hown hK hn hA hP hS hWL v1 rfl 9 (by decide) (hg _ gw62) (fun _ h9 => h9) rfl (by decide +kernel) rfl rfl (Nat.le_of_ble_eq_true rfl) dW_noteShown_22 (fun H locs hP hS => ?_)
      obtain ⟨f1, hf1⟩ : ∃ z, z = va_up f W (.inr (4, [.ref wk, .ref wa, .ref wp, .int (nI ws), .int ap, .int (nI aA), .int (nI aB), .int gr, .int pm, .int pl, .int (nI en)])) := ⟨_, rfl⟩
      have hP : va_P D zCl (va_pl L f1) H := by rw [hf1]; exact hP
      have p2 : f1 W = .inr (4, [.ref wk, .ref wa, .ref wp, .int (nI ws), .int ap, .int (nI aA), .int (nI aB), .int gr, .int pm, .int pl, .int (nI en)]) := by rw [hf1]; exact va_up_self _ _ _
      exact ret_v C0 hP hS ⟨by rw [show n_lu lu pl b = pl from if_pos ⟨c1, Or.inl c9⟩]; exact p2, fun z z1 => by rw [hf1]; exact va_up_ne _ _ z1⟩ dW_noteShown_25
    · refine lv_iload_n hx hb dW_noteShown_12 rfl (lv_at hl 1 rfl) ?_
      refine lv_aload_n hx hb dW_noteShown_13 rfl (lv_at hl 0 rfl) ?_
      refine mm_get (v := .int lu) hx hb hg inW hown hK hP hWL v1 rfl 9 (by decide) (hg _ gw62) (fun _ h9 => h9) rfl dW_noteShown_14 ?_
      refine lv_icmp_ge (tgt := 25) hx hb dW_noteShown_17 (by decide) (fun c17 => ?_) (fun c17 => ?_)
      · exact ret_v C0 hP hS ⟨by rw [show n_lu lu pl b = lu from if_neg (fun q => q.2.elim c9 (fun q2 => q2 c17))]; exact v1, fun _ _ => rfl⟩ dW_noteShown_25
      · refine lv_aload_n hx hb dW_noteShown_20 rfl (lv_at hl 0 rfl) ?_
        refine lv_iload_n hx hb dW_noteShown_21 rfl (lv_at hl 1 rfl) ?_
        refine mm_put (v := .int pl) (ty := .int) hx hb hg inW tyW tyW_ok nmW hown hK hn hA hP hS hWL v1 rfl 9 (by decide) (hg _ gw62) (fun _ h9 => h9) rfl (by decide +kernel) rfl rfl (Nat.le_of_ble_eq_true rfl) dW_noteShown_22 (fun H locs hP hS => ?_)
        obtain ⟨f3, hf3⟩ : ∃ z, z = va_up f W (.inr (4, [.ref wk, .ref wa, .ref wp, .int (nI ws), .int ap, .int (nI aA), .int (nI aB), .int gr, .int pm, .int pl, .int (nI en)])) := ⟨_, rfl⟩
        have hP : va_P D zCl (va_pl L f3) H := by rw [hf3]; exact hP
        have p4 : f3 W = .inr (4, [.ref wk, .ref wa, .ref wp, .int (nI ws), .int ap, .int (nI aA), .int (nI aB), .int gr, .int pm, .int pl, .int (nI en)]) := by rw [hf3]; exact va_up_self _ _ _
        exact ret_v C0 hP hS ⟨by rw [show n_lu lu pl b = pl from if_pos ⟨c1, Or.inr c17⟩]; exact p4, fun z z1 => by rw [hf3]; exact va_up_ne _ _ z1⟩ dW_noteShown_25
set_option maxRecDepth 100000 in
set_option maxHeartbeats 4000000 in
theorem w_comeTo {l : Launch} {D : va_G} {tys : List (ClassId × FieldType)} {L : List Nat} {f : Nat → va_E} (hn : L.Nodup) {W wk wa wp ws aA aB en : Nat} {ap gr pm lu : Int32} (hWL : W ∈ L) (v1 : f W = .inr (4, [.ref wk, .ref wa, .ref wp, .int (nI ws), .int ap, .int (nI aA), .int (nI aB), .int gr, .int pm, .int lu, .int (nI en)])) {wkb : Nat} {K : kl_K} (hwk : wk ∈ L) (hwkb : wkb ∈ L) (hk : KnAt tys f wk wkb K) {T : Int} (hok : kl_ok T K) (hT : T ≤ 290000) (haA : aA < 12) (haB : aB < 12) {pl : Nat} : MetV l yW_comeTo wW_comeTo ({ frames := 1, cells := 0, slots := 0, locals := 23 } : Room) D tys L f [.ref W, .int (nI pl)] (fun f' => f' W = .inr (4, [.ref wk, .ref wa, .ref wp, .int (nI ws), .int ap, .int (nI aA), .int (nI aB), .int (if nI pl = ap then n_gr gr (encI (K.2 aA aB)) else gr), .int (n_pm pm pl), .int lu, .int (nI en)]) ∧ Same1 f f' W) := by
  refine met_of "LiquidChecker$Walk" (by decide) rfl (Nat.le_of_ble_eq_true rfl) ?_
  intro p e s m below meth c ls C0 hP hl
  obtain ⟨hx, hb, hml, hown, hg, hr, hlocks, hK, hN⟩ := id C0
  have hA : ∀ a ∈ L, inL L a := fun _ h => h
  obtain ⟨H, hH⟩ : ∃ z, z = s.heap := ⟨_, rfl⟩
  rw [← hH] at hP ⊢
  have hS : va_S (inL L) s.heap H [] := by rw [hH]; exact va_S.rf
  have hl : lv_has ls 2 [(0, .ref W), (1, .int (nI pl))] := hl
  refine lv_aload_n hx hb dW_comeTo_0 rfl (lv_at hl 0 rfl) ?_
  refine lv_dup hx hb dW_comeTo_1 rfl ?_
  refine mm_get (v := .int pm) hx hb hg inW hown hK hP hWL v1 rfl 8 (by decide) (hg _ gw61) (fun _ h9 => h9) rfl dW_comeTo_2 ?_
  refine lv_iconst (v := nI 1) hx hb dW_comeTo_5 (by decide) ?_
  refine lv_iload_n hx hb dW_comeTo_6 rfl (lv_at hl 1 rfl) ?_
  refine lv_ishl hx hb dW_comeTo_7 ?_
  refine lv_ior hx hb dW_comeTo_8 ?_
  refine mm_put (v := .int (pm ||| ((nI 1) <<< ((nI pl) &&& 31)))) (ty := .int) hx hb hg inW tyW tyW_ok nmW hown hK hn hA hP hS hWL v1 rfl 8 (by decide) (hg _ gw61) (fun _ h9 => h9) rfl (by decide +kernel) rfl rfl (Nat.le_of_ble_eq_true rfl) dW_comeTo_9 (fun H locs hP hS => ?_)
  obtain ⟨f1, hf1⟩ : ∃ z, z = va_up f W (.inr (4, [.ref wk, .ref wa, .ref wp, .int (nI ws), .int ap, .int (nI aA), .int (nI aB), .int gr, .int (pm ||| ((nI 1) <<< ((nI pl) &&& 31))), .int lu, .int (nI en)])) := ⟨_, rfl⟩
  have hP : va_P D zCl (va_pl L f1) H := by rw [hf1]; exact hP
  have p2 : KnAt tys f1 wk wkb K := hk.eq (by rw [hf1, va_up_ne _ _ (mm_OO (hk).1 v1 (by decide))]) (by rw [hf1, va_up_ne _ _ (Ne.symm (mm_IO (hk).2.choose_spec.1 v1))])
  have p3 : f1 W = .inr (4, [.ref wk, .ref wa, .ref wp, .int (nI ws), .int ap, .int (nI aA), .int (nI aB), .int gr, .int (pm ||| ((nI 1) <<< ((nI pl) &&& 31))), .int lu, .int (nI en)]) := by rw [hf1]; exact va_up_self _ _ _
  refine lv_iload_n hx hb dW_comeTo_12 rfl (lv_at hl 1 rfl) ?_
  refine lv_aload_n hx hb dW_comeTo_13 rfl (lv_at hl 0 rfl) ?_
  refine mm_get (v := .int ap) hx hb hg inW hown hK hP hWL p3 rfl 4 (by decide) (hg _ gw56) (fun _ h9 => h9) rfl dW_comeTo_14 ?_
  refine lv_icmp_ne (tgt := 46) hx hb dW_comeTo_17 (by decide) (fun c17 => ?_) (fun c17 => ?_)
  · exact ret_v C0 hP hS ⟨by rw [if_neg c17]; exact p3, fun z z1 => by rw [hf1]; exact va_up_ne _ _ z1⟩ dW_comeTo_46
  · refine lv_aload_n hx hb dW_comeTo_20 rfl (lv_at hl 0 rfl) ?_
    refine lv_aload_n hx hb dW_comeTo_21 rfl (lv_at hl 0 rfl) ?_
    refine mm_get (v := .int gr) hx hb hg inW hown hK hP hWL p3 rfl 7 (by decide) (hg _ gw59) (fun _ h9 => h9) rfl dW_comeTo_22 ?_
    refine lv_aload_n hx hb dW_comeTo_25 rfl (lv_at hl 0 rfl) ?_
    refine mm_get (v := .ref wk) hx hb hg inW hown hK hP hWL p3 rfl 0 (by decide) (hg _ gw52) (fun _ h9 => h9) rfl dW_comeTo_26 ?_
    refine lv_aload_n hx hb dW_comeTo_29 rfl (lv_at hl 0 rfl) ?_
    refine mm_get (v := .int (nI aA)) hx hb hg inW hown hK hP hWL p3 rfl 5 (by decide) (hg _ gw57) (fun _ h9 => h9) rfl dW_comeTo_30 ?_
    refine lv_aload_n hx hb dW_comeTo_33 rfl (lv_at hl 0 rfl) ?_
    refine mm_get (v := .int (nI aB)) hx hb hg inW hown hK hP hWL p3 rfl 6 (by decide) (hg _ gw58) (fun _ h9 => h9) rfl dW_comeTo_34 ?_
    refine then_i (run_VN (n := 2) (As := [.int (nI aA), .int (nI aB)]) (rest := [.int gr, .ref W]) C0 (ka_bound hn hwk hwkb p2 haA haB) gw443 nx440 gw442 gsK_bound gw3 (by decide +kernel) ⟨Nat.le_of_ble_eq_true rfl, Nat.le_of_ble_eq_true rfl⟩ rfl rfl ⟨Nat.le_of_ble_eq_true rfl, Nat.le_of_ble_eq_true rfl⟩ hP hwk (p2).1 rfl rfl rfl hl.1 rfl (Nat.le_of_ble_eq_true rfl) dW_comeTo_37) hS hA (fun r5 f4 H locs hq37 hP hS => ?_)
    obtain ⟨er5, ef4⟩ := hq37
    subst er5
    rw [ef4] at hP
    refine va_mmax hx hb (hml.trans hl.1.symm) hown (hg _ gw444) (hg _ gw445) (hg _ gw15) (hg _ gw446) (Nat.le_of_ble_eq_true rfl) (Nat.le_of_ble_eq_true rfl) (Nat.le_of_ble_eq_true rfl) (Nat.le_of_ble_eq_true rfl) dW_comeTo_40 ?_
    refine mm_put (v := .int (if gr < (encI (K.2 aA aB)) then (encI (K.2 aA aB)) else gr)) (ty := .int) hx hb hg inW tyW tyW_ok nmW hown hK hn hA hP hS hWL p3 rfl 7 (by decide) (hg _ gw59) (fun _ h9 => h9) rfl (by decide +kernel) rfl rfl (Nat.le_of_ble_eq_true rfl) dW_comeTo_43 (fun H locs hP hS => ?_)
    obtain ⟨f6, hf6⟩ : ∃ z, z = va_up f1 W (.inr (4, [.ref wk, .ref wa, .ref wp, .int (nI ws), .int ap, .int (nI aA), .int (nI aB), .int (if gr < (encI (K.2 aA aB)) then (encI (K.2 aA aB)) else gr), .int (pm ||| ((nI 1) <<< ((nI pl) &&& 31))), .int lu, .int (nI en)])) := ⟨_, rfl⟩
    have hP : va_P D zCl (va_pl L f6) H := by rw [hf6]; exact hP
    have p7 : KnAt tys f6 wk wkb K := p2.eq (by rw [hf6, va_up_ne _ _ (mm_OO (p2).1 p3 (by decide))]) (by rw [hf6, va_up_ne _ _ (Ne.symm (mm_IO (p2).2.choose_spec.1 p3))])
    have p8 : f6 W = .inr (4, [.ref wk, .ref wa, .ref wp, .int (nI ws), .int ap, .int (nI aA), .int (nI aB), .int (if gr < (encI (K.2 aA aB)) then (encI (K.2 aA aB)) else gr), .int (pm ||| ((nI 1) <<< ((nI pl) &&& 31))), .int lu, .int (nI en)]) := by rw [hf6]; exact va_up_self _ _ _
    exact ret_v C0 hP hS ⟨by rw [if_pos c17]; exact p8, fun z z1 => by rw [hf6, hf1, va_up_ne _ _ z1]; exact va_up_ne _ _ z1⟩ dW_comeTo_46
/-- a Relations with its rows, all names and numbers in range -/
def RelAt (tys : List (ClassId × FieldType)) (L : List Nat) (f : Nat → va_E) (r ra rb rk N : Nat) (ga gb gk : Nat → Int32) (xa xb : Nat → Nat) : Prop :=
  (r ∈ L ∧ ra ∈ L ∧ rb ∈ L ∧ rk ∈ L) ∧ f r = .inr (2, [.ref ra, .ref rb, .ref rk, .int (nI N)]) ∧ mm_I tys f ra 4 ga ∧ mm_I tys f rb 4 gb ∧ mm_I tys f rk 4 gk ∧ N ≤ 4 ∧ (∀ j, j < N → ga j = nI (xa j) ∧ xa j < 4) ∧ (∀ j, j < N → gb j = nI (xb j) ∧ xb j < 4) ∧ (∀ j, j < N → -1001 ≤ (gk j).toInt ∧ (gk j).toInt ≤ 1001)
theorem RelAt.eq {tys : List (ClassId × FieldType)} {L : List Nat} {f f' : Nat → va_E} {r ra rb rk N : Nat} {ga gb gk : Nat → Int32} {xa xb : Nat → Nat} (h : RelAt tys L f r ra rb rk N ga gb gk xa xb) (e1 : f' r = f r) (e2 : f' ra = f ra) (e3 : f' rb = f rb) (e4 : f' rk = f rk) : RelAt tys L f' r ra rb rk N ga gb gk xa xb := by
  obtain ⟨h1, h2, h3, h4, h5, h6⟩ := h
  exact ⟨h1, by rw [e1]; exact h2, h3.eq e2, h4.eq e3, h5.eq e4, h6⟩
/-- behind a change of a Walk and a Known -/
theorem RelAt.wk {tys : List (ClassId × FieldType)} {L : List Nat} {f f' : Nat → va_E} {r ra rb rk N W wk wkb : Nat} {ga gb gk : Nat → Int32} {xa xb : Nat → Nat} {fs : List Value} {K : kl_K} (h : RelAt tys L f r ra rb rk N ga gb gk xa xb) (hW : f W = .inr (4, fs)) (hk : KnAt tys f wk wkb K) (hs : Same3 f f' W wk wkb) : RelAt tys L f' r ra rb rk N ga gb gk xa xb := by
  obtain ⟨h1, h2, h3, h4, h5, h6⟩ := id h
  obtain ⟨k1, g, k2, -⟩ := hk
  exact h.eq (hs _ (mm_OO h2 hW (by decide)) (mm_OO h2 k1 (by decide)) (mm_IO k2 h2)) (hs _ (Ne.symm (mm_IO h3 hW)) (Ne.symm (mm_IO h3 k1)) (mm_II h3 k2 (by decide))) (hs _ (Ne.symm (mm_IO h4 hW)) (Ne.symm (mm_IO h4 k1)) (mm_II h4 k2 (by decide))) (hs _ (Ne.symm (mm_IO h5 hW)) (Ne.symm (mm_IO h5 k1)) (mm_II h5 k2 (by decide)))
theorem ra_shownBy {l : Launch} {D : va_G} {tys : List (ClassId × FieldType)} {L : List Nat} {f : Nat → va_E} (hn : L.Nodup) {r ra rb rk N h b u v : Nat} {ga gb gk : Nat → Int32} {xa xb : Nat → Nat} (hR : RelAt tys L f r ra rb rk N ga gb gk xa xb) (hh : h ∈ L) (hbL : b ∈ L) {T : Int} (hT : T ≤ 300000) (hu : u < 12) (hv : v < 12) {K : kl_K} (hk : KnAt tys f h b K) (hok : kl_ok T K) : MetI l yR_shownBy wR_shownBy ({ frames := 1, cells := 0, slots := 0, locals := 23 } : Room) D tys L f [.ref r, .ref h, .int (nI u), .int (nI v)] (fun x f' => x = kb (allB (kl_sh u v xa xb gk K) N 0) ∧ f' = f) := by
  obtain ⟨⟨a1, a2, a3, a4⟩, b1, b2, b3, b4, b5, b6, b7, b8⟩ := hR
  exact r_shownBy hn a1 a2 a3 a4 b1 b2 b3 b4 b5 hh hbL hT hu hv b6 b7 b8 hk hok
theorem ra_learnedBy {l : Launch} {D : va_G} {tys : List (ClassId × FieldType)} {L : List Nat} {f : Nat → va_E} (hn : L.Nodup) {r ra rb rk N h b u v : Nat} {ga gb gk : Nat → Int32} {xa xb : Nat → Nat} (hR : RelAt tys L f r ra rb rk N ga gb gk xa xb) (hh : h ∈ L) (hbL : b ∈ L) {T : Int} (hT : T + 4004 ≤ 300000) (hu : u < 12) (hv : v < 12) {K : kl_K} (hk : KnAt tys f h b K) (hok : kl_ok T K) : MetV l yR_learnedBy wR_learnedBy ({ frames := 1, cells := 0, slots := 0, locals := 28 } : Room) D tys L f [.ref r, .ref h, .int (nI u), .int (nI v)] (fun f' => KnAt tys f' h b (r_it (kl_rel u v xa xb gk) N 0 K) ∧ Same2 f f' h b) := by
  obtain ⟨⟨a1, a2, a3, a4⟩, b1, b2, b3, b4, b5, b6, b7, b8⟩ := hR
  obtain ⟨k1, g, k2, k3⟩ := id hk
  exact r_learnedBy hn a1 a2 a3 a4 b1 b2 b3 b4 b5 hh hbL hT hu hv b6 b7 b8 (mm_OO b1 k1 (by decide)) (mm_IO k2 b1) (Ne.symm (mm_IO b2 k1)) (mm_II b2 k2 (by decide)) (Ne.symm (mm_IO b3 k1)) (mm_II b3 k2 (by decide)) (Ne.symm (mm_IO b4 k1)) (mm_II b4 k2 (by decide)) hk hok
theorem rels_ok {T : Int} {u v N : Nat} {xa xb : Nat → Nat} {gk : Nat → Int32} (hu : u < 12) (hv : v < 12) (h6 : ∀ j, j < N → xa j < 4) (h7 : ∀ j, j < N → xb j < 4) (h8 : ∀ j, j < N → -1001 ≤ (gk j).toInt ∧ (gk j).toInt ≤ 1001) (hN : N ≤ 4) {K : kl_K} (hok : kl_ok T K) : kl_ok (T + 4004) (r_it (kl_rel u v xa xb gk) N 0 K) := by
  have := r_it_inv (kl_rel u v xa xb gk) (fun j K => kl_ok (T + 1001 * (j : Int)) K) N 0 K (hok.mono (by omega)) (fun j K _ hj h => (kl_learn_ok (nf_lt (h6 j (by omega)) hu hv) (nf_lt (h7 j (by omega)) hu hv) (h8 j (by omega)) h).mono (by omega))
  exact this.mono (by omega)
