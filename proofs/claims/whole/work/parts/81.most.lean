/-! LiquidChecker: most. A throw may leave another memory. -/
abbrev cY (D : va_G) (L : List Nat) (xp : String → (Nat → va_E) → Prop) : String → State → State → Prop := vx_X (fun _ : Nat → va_E => True) (fun E f' t => xp E f' ∧ va_P D zCl (va_pl L f') t.heap) (inL L)
abbrev MetY (l : Launch) (y : MethodName) (ws : List Cond) (rm : Room) (D : va_G) (tys : List (ClassId × FieldType)) (L : List Nat) (f : Nat → va_E) (sAd : Nat → Nat) (av : List Value) (post : Int32 → (Nat → va_E) → Prop) (xp : String → (Nat → va_E) → Prop) : Prop := vx_Met l y ws rm (cPreX D tys L f sAd av) (va_Qi post (cB D L) (inL L)) (cY D L xp) 1 6 (inL L)
section MY
variable {p : Program} {l : Launch} {e : Env} {R : Room} {s : State} {m : MethodId} {args : Array Value} {below : List Frame} {meth : Method} {c : Code} {H : Heap} {locs : List Loc} {cells slots : Nat} {Q : State → Prop}
variable {cc : ByteArray} {nL : Nat} {own : String} {pc : Nat} {ls : Array Slot} {rest : List Value} {D : va_G} {tys : List (ClassId × FieldType)} {L : List Nat} {f : Nat → va_E}
theorem thrY {ret0 : Option FieldType} {sAd : Nat → Nat} {post : Int32 → (Nat → va_E) → Prop} {xp : String → (Nat → va_E) → Prop} {cls text : String} {names : List String} {ik is ic : Nat} (C0 : Cx p s m args meth c cc nL own ret0 D tys) (hst : l.stackTraces = false) (hX : XOk L sAd s) (hno : ∀ x ∈ c.exceptionTable.toList, False) (hP : va_P D zCl (va_pl L f) H) (hS : va_S (inL L) s.heap H locs) (hsize : ls.size = nL) (hcls : Bundle.fit cls = true) (hnames : ∀ n ∈ names, Bundle.fit n = true) (hk : Cond.classLink own ik cls ∈ GW) (hini : Cond.initialized cls ∈ GW) (hown2 : own = "LiquidChecker") (hstr : (is, text) ∈ strL) (hat : ∀ w ∈ vx_atS own ic cls names, w ∈ GW ∨ w ∈ XWW) (hgood : ∀ w ∈ Cond.classLink own ik cls :: Cond.initialized cls :: vx_atS own ic cls names, vx_ot w = true)
    (d0 : decode cc pc = .ok (.new ik, 3)) (d3 : decode cc (pc + 3) = .ok (.dup, 1)) (d4 : decode cc (pc + 4) = .ok (.ldc is, 2)) (d6 : decode cc (pc + 6) = .ok (.invokespecial ic, 3)) (d9 : decode cc (pc + 9) = .ok (.athrow, 1))
    (hRf : names.length + 3 < R.frames) (hRl : (rest.map fun v => v.category).sum + (13 * (names.length + 1) + 43) ≤ R.locals) (hRc : 1 ≤ R.cells) (hRs : 6 ≤ R.slots) (hxp : xp cls f) :
    W p l e R s m args below meth c H locs 0 0 (vx_MQ below (va_Qi post (cB D L) (inL L)) (cY D L xp) args s 1 6 (inL L)) (F0 m pc ls rest) := by
  obtain ⟨hx, hb, hml, hown, hg, -, hlocks, -, -⟩ := C0
  subst hown2
  refine vx_throwS hx hb hst hown hcls hnames (hg _ hk) (hg _ hini) (hX.2.1 _ hstr) (fun w hw => (hat w hw).elim (hg w) (fun h => hX.1.use h)) hgood hX.2.2.1 hX.2.2.2 hS (hsize.trans hml.symm) d0 d3 d4 d6 d9 (fun x hx => (hno x hx).elim) hRf hRl (by omega) (by omega) hlocks (fun t _ hz hk => ⟨f, trivial, ⟨hxp, ?_⟩, ?_⟩) hS.2.2 (by omega) (by omega)
  · exact hP.kept (fun k q h => hk _ ((hP k q h).lt))
  · exact ⟨Nat.le_trans hS.1 hz, fun q h1 h2 => by rw [hk q (Nat.lt_of_lt_of_le h1 hS.1)]; exact hS.2.1 q h1 h2⟩
theorem thrN {ret0 : Option FieldType} {sAd : Nat → Nat} {post : Int32 → (Nat → va_E) → Prop} {xp : String → (Nat → va_E) → Prop} {cls text : String} {names : List String} {ik is ic ix : Nat} {rx : ByteArray} (x0 : decode rx 0 = .ok (.aload_n 0, 1)) (x1 : decode rx 1 = .ok (.aload_n 1, 1)) (x2 : decode rx 2 = .ok (.invokespecial ix, 3)) (x5 : decode rx 5 = .ok (.return_, 1)) (C0 : Cx p s m args meth c cc nL own ret0 D tys) (hst : l.stackTraces = false) (hX : XOk L sAd s) (hno : ∀ x ∈ c.exceptionTable.toList, False) (hP : va_P D zCl (va_pl L f) H) (hS : va_S (inL L) s.heap H locs) (hsize : ls.size = nL) (hcls : Bundle.fit cls = true) (hnames : ∀ n ∈ names, Bundle.fit n = true) (hk : Cond.classLink own ik cls ∈ GW) (hini : Cond.initialized cls ∈ GW) (hown2 : own = "LiquidChecker") (hstr : (is, text) ∈ strL) (hat : ∀ w ∈ ns_at own ic cls ix rx names, w ∈ GW ∨ w ∈ XWW) (hgood : ∀ w ∈ Cond.classLink own ik cls :: Cond.initialized cls :: ns_at own ic cls ix rx names, vx_ot w = true)
    (d0 : decode cc pc = .ok (.new ik, 3)) (d3 : decode cc (pc + 3) = .ok (.dup, 1)) (d4 : decode cc (pc + 4) = .ok (.ldc is, 2)) (d6 : decode cc (pc + 6) = .ok (.invokespecial ic, 3)) (d9 : decode cc (pc + 9) = .ok (.athrow, 1))
    (hRf : names.length + 3 < R.frames) (hRl : (rest.map fun v => v.category).sum + (13 * (names.length + 1) + 43) ≤ R.locals) (hRc : 1 ≤ R.cells) (hRs : 6 ≤ R.slots) (hxp : xp cls f) :
    W p l e R s m args below meth c H locs 0 0 (vx_MQ below (va_Qi post (cB D L) (inL L)) (cY D L xp) args s 1 6 (inL L)) (F0 m pc ls rest) := by
  obtain ⟨hx, hb, hml, hown, hg, -, hlocks, -, -⟩ := C0
  subst hown2
  refine ns_throw hx hb hst x0 x1 x2 x5 hown hcls hnames (hg _ hk) (hg _ hini) (hX.2.1 _ hstr) (fun w hw => (hat w hw).elim (hg w) (fun h => hX.1.use h)) hgood hX.2.2.1 hX.2.2.2 hS (hsize.trans hml.symm) d0 d3 d4 d6 d9 (fun x hx => (hno x hx).elim) hRf hRl (by omega) (by omega) hlocks (fun t _ hz hk => ⟨f, trivial, ⟨hxp, ?_⟩, ?_⟩) hS.2.2 (by omega) (by omega)
  · exact hP.kept (fun k q h => hk _ ((hP k q h).lt))
  · exact ⟨Nat.le_trans hS.1 hz, fun q h1 h2 => by rw [hk q (Nat.lt_of_lt_of_le h1 hS.1)]; exact hS.2.1 q h1 h2⟩
end MY
theorem gx_NSE : ∀ w ∈ ns_at "LiquidChecker" 132 "java/util/NoSuchElementException" 13 prog_20_method_4_code ["java/lang/RuntimeException", "java/lang/Exception"], w ∈ GW ∨ w ∈ XWW := gx_of (by decide +kernel)
theorem go_NSE : (ns_at "LiquidChecker" 132 "java/util/NoSuchElementException" 13 prog_20_method_4_code ["java/lang/RuntimeException", "java/lang/Exception"]).all vx_ot = true := by decide +kernel
theorem q_us_nm {a : Int32} (h : q_us a = true) : NmOk a := by
  unfold q_us q_gv q_in at h
  simp only [Bool.and_eq_true, Bool.or_eq_true, Bool.not_eq_true', decide_eq_false_iff_not, Int32.lt_iff_toInt_lt] at h
  rw [nI_toInt (n := 0) (by omega), nI_toInt (n := 2) (by omega), nI_toInt (n := 4) (by omega), nI_toInt (n := 11) (by omega)] at h
  have h0 : ¬ a < 0 := by rw [Int32.lt_iff_toInt_lt, show (0 : Int32).toInt = 0 from rfl]; omega
  have h1 : a ≤ nI 11 := by rw [Int32.le_iff_toInt_le, nI_toInt (by omega)]; omega
  obtain ⟨p, hp, e⟩ := nI_of2 (M := nI 11) (n := 11) (nI_toInt (by omega)) h0 h1
  subst e
  rw [nI_toInt (n := p) (by omega)] at h
  unfold NmOk
  rw [nt_nI (by omega)]
  exact ⟨rfl, by omega, by omega⟩
set_option maxRecDepth 100000 in
set_option maxHeartbeats 4000000 in
theorem c_most {l : Launch} {D : va_G} {tys : List (ClassId × FieldType)} {L : List Nat} {f : Nat → va_E} {sAd : Nat → Nat} (hn : L.Nodup) {fa : Nat} {fn dr pr sA oA ra rb rk : Nat → Nat} {sq : Nat → Nat → Nat} {oi ni : Nat → Nat} {gv : Nat → Int32} {go : Nat → Nat → Int32} {σ : Sg} {cc ww kk : Nat} {wk wkb wa wp : Nat} {wq wqb : Nat → Nat} (hst : l.stackTraces = false) (hF : FnsAt tys L f fa fn dr pr sA oA ra rb rk sq oi ni gv go σ) (hcL : cc ∈ L) (hc : f cc = .inr (5, [.ref fa, .ref ww, .ref kk])) (hty : WTy tys L f ww wk wkb wa wp wq wqb) (ho : ∀ i, i < 4 → oA i ≠ wp) (hR : RlOk σ) (hfn : ∀ i, i < 4 → FnOk σ i) {x y a b : Int32} : MetY l yC_most wC_most ({ frames := 6, cells := 1, slots := 6, locals := 152 } : Room) D tys L f sAd [.ref cc, .int x, .int y, .int a, .int b] (fun r f' => q_fn x = true ∧ ∀ i, x = nI i → i < 4 → q_in y (nI 0) (nI (sz σ i)) = true ∧ q_us a = true ∧ q_us b = true ∧ ∀ pl, y = nI pl → pl ≤ sz σ i → (∃ wpl, q_cm (th_run σ i (nI pl) (nt a) (nt b) 64 (th_o σ i) (th_c σ i wpl)).pm pl = true ∧ (th_run σ i (nI pl) (nt a) (nt b) 64 (th_o σ i) (th_c σ i wpl)).gr ≠ 1000000 ∧ r = (th_run σ i (nI pl) (nt a) (nt b) 64 (th_o σ i) (th_c σ i wpl)).gr) ∧ WTy tys L f' ww wk wkb wa wp wq wqb ∧ FnsAt tys L f' fa fn dr pr sA oA ra rb rk sq oi ni gv go σ ∧ Fr ww wk wkb wp wq wqb f f') (fun E f' => (E = "java/lang/IllegalArgumentException" ∧ f' = f ∧ (q_fn x = false ∨ ∀ i, x = nI i → i < 4 → (q_in y (nI 0) (nI (sz σ i)) && q_us a && q_us b) = false)) ∨ (q_fn x = true ∧ ∀ i, x = nI i → i < 4 → q_in y (nI 0) (nI (sz σ i)) = true ∧ q_us a = true ∧ q_us b = true ∧ ∀ pl, y = nI pl → pl ≤ sz σ i → (∃ wpl, (E = "java/util/NoSuchElementException" ∧ q_cm (th_run σ i (nI pl) (nt a) (nt b) 64 (th_o σ i) (th_c σ i wpl)).pm pl = false) ∨ (E = "java/lang/ArithmeticException" ∧ q_cm (th_run σ i (nI pl) (nt a) (nt b) 64 (th_o σ i) (th_c σ i wpl)).pm pl = true ∧ (th_run σ i (nI pl) (nt a) (nt b) 64 (th_o σ i) (th_c σ i wpl)).gr = 1000000)) ∧ WTy tys L f' ww wk wkb wa wp wq wqb ∧ FnsAt tys L f' fa fn dr pr sA oA ra rb rk sq oi ni gv go σ ∧ Fr ww wk wkb wp wq wqb f f')) := by
  refine metx_of "LiquidChecker" (by decide) rfl (Nat.le_of_ble_eq_true rfl) ?_
  intro pgm e s m below meth cd ls C0 hX hno hP hl
  obtain ⟨hx, hb, hml, hown, hg, hr, hlocks, hK, hN⟩ := id C0
  have hA : ∀ a ∈ L, inL L a := fun _ h => h
  obtain ⟨H, hH⟩ : ∃ z, z = s.heap := ⟨_, rfl⟩
  rw [← hH] at hP ⊢
  have hS : va_S (inL L) s.heap H [] := by rw [hH]; exact va_S.rf
  have hl : lv_has ls 5 [(0, .ref cc), (1, .int x), (2, .int y), (3, .int a), (4, .int b)] := hl
  refine lv_iload_n hx hb dC_most_0 rfl (lv_at hl 1 rfl) ?_
  refine then_i (run_S (n := 1) (As := [.int x]) (rest := []) C0 (qC_isFunction hn) gw204 gw202 gw203 gw1 (by decide +kernel) ⟨Nat.le_of_ble_eq_true rfl, Nat.le_of_ble_eq_true rfl⟩ rfl rfl ⟨Nat.le_of_ble_eq_true rfl, Nat.le_of_ble_eq_true rfl⟩ hP rfl hl.1 rfl (Nat.le_of_ble_eq_true rfl) dC_most_1) hS hA (fun r2 f1 H locs hq1 hP hS => ?_)
  obtain ⟨er2, ef1⟩ := hq1
  subst er2
  rw [ef1] at hP
  refine lv_if_eq (tgt := 31) hx hb dC_most_4 (by decide) (fun c4 => ?_) (fun c4 => ?_)
  · have c4 : (q_fn x) = false := kb_0.mp c4
    exact thrY (text := "no such function, place or name") (names := ["java/lang/RuntimeException", "java/lang/Exception"]) C0 hst hX hno hP hS hl.1 (by decide +kernel) (by decide +kernel) gw208 gw11 rfl (by decide +kernel) gx_IllegalArgumentException (vo_c rfl rfl go_IllegalArgumentException) dC_most_31 dC_most_34 dC_most_35 dC_most_37 dC_most_40 (Nat.le_of_ble_eq_true rfl) (Nat.le_of_ble_eq_true rfl) (Nat.le_of_ble_eq_true rfl) (Nat.le_of_ble_eq_true rfl) (Or.inl ⟨rfl, rfl, Or.inl c4⟩)
  · have c4 : (q_fn x) = true := kb_t.mp c4
    obtain ⟨i, hi4, hxi⟩ := q_fn_nI c4
    have hl : lv_has ls 5 [(0, .ref cc), (1, .int (nI i)), (2, .int y), (3, .int a), (4, .int b)] := by rw [← hxi]; exact hl
    refine lv_aload_n hx hb dC_most_7 rfl (lv_at hl 0 rfl) ?_
    refine lv_iload_n hx hb dC_most_8 rfl (lv_at hl 1 rfl) ?_
    refine lv_iload_n hx hb dC_most_9 rfl (lv_at hl 2 rfl) ?_
    refine then_i (run_V (n := 2) (As := [.int (nI i), .int y]) (rest := []) C0 (c_isPlace hn hF hcL hc hi4) gw520 gw517 gw519 gsC_isPlace gw1 (by decide +kernel) ⟨Nat.le_of_ble_eq_true rfl, Nat.le_of_ble_eq_true rfl⟩ rfl rfl ⟨Nat.le_of_ble_eq_true rfl, Nat.le_of_ble_eq_true rfl⟩ hP hcL hc rfl rfl rfl hl.1 rfl (Nat.le_of_ble_eq_true rfl) dC_most_10) hS hA (fun r4 f3 H locs hq10 hP hS => ?_)
    obtain ⟨er4, ef3⟩ := hq10
    subst er4
    rw [ef3] at hP
    refine lv_if_eq (tgt := 31) hx hb dC_most_13 (by decide) (fun c13 => ?_) (fun c13 => ?_)
    · have c13 : (q_in y (nI 0) (nI (sz σ i))) = false := kb_0.mp c13
      exact thrY (text := "no such function, place or name") (names := ["java/lang/RuntimeException", "java/lang/Exception"]) C0 hst hX hno hP hS hl.1 (by decide +kernel) (by decide +kernel) gw208 gw11 rfl (by decide +kernel) gx_IllegalArgumentException (vo_c rfl rfl go_IllegalArgumentException) dC_most_31 dC_most_34 dC_most_35 dC_most_37 dC_most_40 (Nat.le_of_ble_eq_true rfl) (Nat.le_of_ble_eq_true rfl) (Nat.le_of_ble_eq_true rfl) (Nat.le_of_ble_eq_true rfl) (Or.inl ⟨rfl, rfl, Or.inr (fun j hj hj4 => by obtain rfl : i = j := (nI_eq (by omega) (by omega)).mp (hxi.symm.trans hj); exact by rw [c13]; rfl)⟩)
    · have c13 : (q_in y (nI 0) (nI (sz σ i))) = true := kb_t.mp c13
      refine lv_iload_n hx hb dC_most_16 rfl (lv_at hl 3 rfl) ?_
      refine then_i (run_S (n := 1) (As := [.int a]) (rest := []) C0 (qC_isUsable hn) gw324 gw322 gw323 gw1 (by decide +kernel) ⟨Nat.le_of_ble_eq_true rfl, Nat.le_of_ble_eq_true rfl⟩ rfl rfl ⟨Nat.le_of_ble_eq_true rfl, Nat.le_of_ble_eq_true rfl⟩ hP rfl hl.1 rfl (Nat.le_of_ble_eq_true rfl) dC_most_17) hS hA (fun r6 f5 H locs hq17 hP hS => ?_)
      obtain ⟨er6, ef5⟩ := hq17
      subst er6
      rw [ef5] at hP
      refine lv_if_eq (tgt := 31) hx hb dC_most_20 (by decide) (fun c20 => ?_) (fun c20 => ?_)
      · have c20 : (q_us a) = false := kb_0.mp c20
        exact thrY (text := "no such function, place or name") (names := ["java/lang/RuntimeException", "java/lang/Exception"]) C0 hst hX hno hP hS hl.1 (by decide +kernel) (by decide +kernel) gw208 gw11 rfl (by decide +kernel) gx_IllegalArgumentException (vo_c rfl rfl go_IllegalArgumentException) dC_most_31 dC_most_34 dC_most_35 dC_most_37 dC_most_40 (Nat.le_of_ble_eq_true rfl) (Nat.le_of_ble_eq_true rfl) (Nat.le_of_ble_eq_true rfl) (Nat.le_of_ble_eq_true rfl) (Or.inl ⟨rfl, rfl, Or.inr (fun j hj hj4 => by obtain rfl : i = j := (nI_eq (by omega) (by omega)).mp (hxi.symm.trans hj); exact by rw [c13, c20]; rfl)⟩)
      · have c20 : (q_us a) = true := kb_t.mp c20
        refine lv_iload hx hb dC_most_23 (lv_at hl 4 rfl) ?_
        refine then_i (run_S (n := 1) (As := [.int b]) (rest := []) C0 (qC_isUsable hn) gw324 gw322 gw323 gw1 (by decide +kernel) ⟨Nat.le_of_ble_eq_true rfl, Nat.le_of_ble_eq_true rfl⟩ rfl rfl ⟨Nat.le_of_ble_eq_true rfl, Nat.le_of_ble_eq_true rfl⟩ hP rfl hl.1 rfl (Nat.le_of_ble_eq_true rfl) dC_most_25) hS hA (fun r8 f7 H locs hq25 hP hS => ?_)
        obtain ⟨er8, ef7⟩ := hq25
        subst er8
        rw [ef7] at hP
        refine lv_if_ne (tgt := 41) hx hb dC_most_28 (by decide) (fun c28 => ?_) (fun c28 => ?_)
        · have c28 : (q_us b) = true := kb_t.mp c28
          obtain ⟨pl, hpl, hyp⟩ := q_in_nI (by have := (hfn i hi4).1; omega) c13
          have na := q_us_nm c20
          have nb := q_us_nm c28
          have hl : lv_has ls 5 [(0, .ref cc), (1, .int (nI i)), (2, .int (nI pl)), (3, .int (nI (nt a))), (4, .int (nI (nt b)))] := by rw [← hyp, ← na.1, ← nb.1]; exact hl
          obtain ⟨x3, x4, x5, x6, x7, x8, x9, x10, v1⟩ := id hty.2.1
          refine lv_aload_n hx hb dC_most_41 rfl (lv_at hl 0 rfl) ?_
          refine mm_get (v := .ref ww) hx hb hg inC hown hK hP hcL hc rfl 1 (by decide) (hg _ gw184) (fun _ h9 => h9) rfl dC_most_42 ?_
          refine lv_aload_n hx hb dC_most_45 rfl (lv_at hl 0 rfl) ?_
          refine mm_get (v := .ref fa) hx hb hg inC hown hK hP hcL hc rfl 0 (by decide) (hg _ gw183) (fun _ h9 => h9) rfl dC_most_46 ?_
          refine lv_aload_n hx hb dC_most_49 rfl (lv_at hl 0 rfl) ?_
          refine mm_get (v := .ref fa) hx hb hg inC hown hK hP hcL hc rfl 0 (by decide) (hg _ gw183) (fun _ h9 => h9) rfl dC_most_50 ?_
          refine lv_iload_n hx hb dC_most_53 rfl (lv_at hl 1 rfl) ?_
          refine mm_aldq hx hb hK hP hF.1.1 hF.1.2 (vp_in_nI (show i < 4 by omega) (by omega)) (q := (fn i)) (by rw [nI_clamp (by omega)]) dC_most_54 ?_
          refine lv_iload_n hx hb dC_most_55 rfl (lv_at hl 2 rfl) ?_
          refine lv_iload_n hx hb dC_most_56 rfl (lv_at hl 3 rfl) ?_
          refine lv_iload hx hb dC_most_57 (lv_at hl 4 rfl) ?_
          refine then_v (run_VN (n := 5) (As := [.ref fa, .ref (fn i), .int (nI pl), .int (nI (nt a)), .int (nI (nt b))]) (rest := []) C0 (w_through hn hty hF ho hR hi4 (hfn i hi4) na.2.1 nb.2.1) gw411 nx408 gw410 gsW_through gw2 (by decide +kernel) ⟨Nat.le_of_ble_eq_true rfl, Nat.le_of_ble_eq_true rfl⟩ rfl rfl ⟨Nat.le_of_ble_eq_true rfl, Nat.le_of_ble_eq_true rfl⟩ hP hty.1.1.1 v1 rfl rfl rfl hl.1 rfl (Nat.le_of_ble_eq_true rfl) dC_most_59) hS hA (fun f9 H locs hq59 hP hS => ?_)
          obtain ⟨⟨wpl, hw⟩, hF2, hfr⟩ := hq59
          obtain ⟨c9, hc9⟩ : ∃ z, z = (th_run σ i (nI pl) (nt a) (nt b) 64 (th_o σ i) (th_c σ i wpl)) := ⟨_, rfl⟩
          rw [← hc9] at hw
          have hc2 : f9 cc = .inr (5, [.ref fa, .ref ww, .ref kk]) := by rw [hfr _ (hty.notO hc (by decide) (by decide))]; exact hc
          refine lv_aload_n hx hb dC_most_62 rfl (lv_at hl 0 rfl) ?_
          refine mm_get (v := .ref ww) hx hb hg inC hown hK hP hcL hc2 rfl 1 (by decide) (hg _ gw184) (fun _ h9 => h9) rfl dC_most_63 ?_
          refine lv_iload_n hx hb dC_most_66 rfl (lv_at hl 2 rfl) ?_
          refine then_i (run_VN (n := 1) (As := [.int (nI pl)]) (rest := []) C0 (w_cameTo hn hw.1.1.1 hw.2.1) gw525 nx522 gw524 gsW_cameTo gw2 (by decide +kernel) ⟨Nat.le_of_ble_eq_true rfl, Nat.le_of_ble_eq_true rfl⟩ rfl rfl ⟨Nat.le_of_ble_eq_true rfl, Nat.le_of_ble_eq_true rfl⟩ hP hw.1.1.1 hw.2.1 rfl rfl rfl hl.1 rfl (Nat.le_of_ble_eq_true rfl) dC_most_67) hS hA (fun r11 f10 H locs hq67 hP hS => ?_)
          obtain ⟨er11, ef10⟩ := hq67
          subst er11
          rw [ef10] at hP
          refine lv_if_ne (tgt := 83) hx hb dC_most_70 (by decide) (fun c70 => ?_) (fun c70 => ?_)
          · have c70 : (q_cm c9.pm pl) = true := kb_t.mp c70
            refine lv_aload_n hx hb dC_most_83 rfl (lv_at hl 0 rfl) ?_
            refine mm_get (v := .ref ww) hx hb hg inC hown hK hP hcL hc2 rfl 1 (by decide) (hg _ gw184) (fun _ h9 => h9) rfl dC_most_84 ?_
            refine mm_getN (v := .int c9.gr) hx hb hg inW hown hK hP hw.1.1.1 hw.2.1 rfl 7 (by decide) (va_Nw.use rfl (hN _ nx60)) (fun _ h9 => h9) rfl dC_most_87 ?_
            refine lv_ldc hx hb hown (hg _ gw552) dC_most_90 ?_
            refine lv_icmp_ne (tgt := 105) hx hb dC_most_92 (by decide) (fun c92 => ?_) (fun c92 => ?_)
            · refine lv_aload_n hx hb dC_most_105 rfl (lv_at hl 0 rfl) ?_
              refine mm_get (v := .ref ww) hx hb hg inC hown hK hP hcL hc2 rfl 1 (by decide) (hg _ gw184) (fun _ h9 => h9) rfl dC_most_106 ?_
              refine mm_getN (v := .int c9.gr) hx hb hg inW hown hK hP hw.1.1.1 hw.2.1 rfl 7 (by decide) (va_Nw.use rfl (hN _ nx60)) (fun _ h9 => h9) rfl dC_most_109 ?_
              refine retx_i C0 hP hS ⟨c4, fun j hj hj4 => ?_⟩ dC_most_112
              obtain rfl : i = j := (nI_eq (by omega) (by omega)).mp (hxi.symm.trans hj)
              have hsz := (hfn i hi4).1
              refine ⟨c13, c20, c28, fun q hq hqs => ?_⟩
              obtain rfl : pl = q := (nI_eq (by omega) (by omega)).mp (hyp.symm.trans hq)
              exact ⟨⟨wpl, by rw [← hc9]; exact ⟨c70, c92, rfl⟩⟩, WSt.ty hw, hF2, hfr⟩
            · exact thrY (text := "as great as one likes") (names := ["java/lang/RuntimeException", "java/lang/Exception"]) C0 hst hX hno hP hS hl.1 (by decide +kernel) (by decide +kernel) gw553 gw18 rfl (by decide +kernel) gx_ArithmeticException (vo_c rfl rfl go_ArithmeticException) dC_most_95 dC_most_98 dC_most_99 dC_most_101 dC_most_104 (Nat.le_of_ble_eq_true rfl) (Nat.le_of_ble_eq_true rfl) (Nat.le_of_ble_eq_true rfl) (Nat.le_of_ble_eq_true rfl) (Or.inr ⟨c4, fun j hj hj4 => by obtain rfl : i = j := (nI_eq (by omega) (by omega)).mp (hxi.symm.trans hj); exact ⟨c13, c20, c28, fun q hq hqs => by have hsz := (hfn i hi4).1; obtain rfl : pl = q := (nI_eq (by omega) (by omega)).mp (hyp.symm.trans hq); exact ⟨⟨wpl, by rw [← hc9]; exact Or.inr ⟨rfl, c70, c92⟩⟩, WSt.ty hw, hF2, hfr⟩⟩⟩)
          · have c70 : (q_cm c9.pm pl) = false := kb_0.mp c70
            exact thrN (rx := prog_20_method_4_code) (ix := 13) (by decide +kernel) (by decide +kernel) (by decide +kernel) (by decide +kernel) (text := "no feasible way comes there") (names := ["java/lang/RuntimeException", "java/lang/Exception"]) C0 hst hX hno hP hS hl.1 (by decide +kernel) (by decide +kernel) gw536 gw17 rfl (by decide +kernel) gx_NSE (vo_c rfl rfl go_NSE) dC_most_73 dC_most_76 dC_most_77 dC_most_79 dC_most_82 (Nat.le_of_ble_eq_true rfl) (Nat.le_of_ble_eq_true rfl) (Nat.le_of_ble_eq_true rfl) (Nat.le_of_ble_eq_true rfl) (Or.inr ⟨c4, fun j hj hj4 => by obtain rfl : i = j := (nI_eq (by omega) (by omega)).mp (hxi.symm.trans hj); exact ⟨c13, c20, c28, fun q hq hqs => by have hsz := (hfn i hi4).1; obtain rfl : pl = q := (nI_eq (by omega) (by omega)).mp (hyp.symm.trans hq); exact ⟨⟨wpl, by rw [← hc9]; exact Or.inl ⟨rfl, c70⟩⟩, WSt.ty hw, hF2, hfr⟩⟩⟩)
        · have c28 : (q_us b) = false := kb_0.mp c28
          exact thrY (text := "no such function, place or name") (names := ["java/lang/RuntimeException", "java/lang/Exception"]) C0 hst hX hno hP hS hl.1 (by decide +kernel) (by decide +kernel) gw208 gw11 rfl (by decide +kernel) gx_IllegalArgumentException (vo_c rfl rfl go_IllegalArgumentException) dC_most_31 dC_most_34 dC_most_35 dC_most_37 dC_most_40 (Nat.le_of_ble_eq_true rfl) (Nat.le_of_ble_eq_true rfl) (Nat.le_of_ble_eq_true rfl) (Nat.le_of_ble_eq_true rfl) (Or.inl ⟨rfl, rfl, Or.inr (fun j hj hj4 => by obtain rfl : i = j := (nI_eq (by omega) (by omega)).mp (hxi.symm.trans hj); exact by rw [c13, c20, c28]; rfl)⟩)
