/-! Rows of the law's own walk. -/
section LR
variable {p : Program} {l : Launch} {e : Env} {R : Room} {s : State} {m : MethodId} {args : Array Value} {below : List Frame} {meth : Method} {c : Code} {H : Heap} {locs : List Loc} {cells slots : Nat} {Q : State → Prop}
variable {cc : ByteArray} {nL : Nat} {own : String} {pc : Nat} {ls : Array Slot} {rest : List Value} {D : va_G} {tys : List (ClassId × FieldType)} {H0 : Heap} {L : List Nat} {f : Nat → va_E}
variable {ret0 : Option FieldType} {y : MethodName} {bytes : ByteArray} {maxL n index ci : Nat} {ret9 : Option FieldType} {rm : Room} {Qc : Array Value → State → Outcome → State → Prop} {free : Addr → Prop} {b : Addr} {As : List Value} {fs : List Value} {q : vw_C} {host : String} {st : List Value} {mc ms : Nat} {sAd : Nat → Nat} {hh : List (Nat × Nat × Nat × Nat)}
theorem run_H (C0 : Cx p s m args meth c cc nL own ret0 D tys) (hX : XOk L sAd s) (hnn : Nn s) (hZ : Zs L s H) (hM : Met l y (Cond.codeWith y bytes maxL ret9 hh :: GW) rm (cPreH D tys L f sAd As) Qc mc ms free) (hcode : Cond.codeWith y bytes maxL ret9 hh ∈ GW) (hl : Cond.methodLink own index y ∈ GW) (hi : Cond.static y ∈ GW) (hini : Cond.initialized y.cls ∈ GW)
    (hd : y.cls ≠ "java/lang/invoke/MethodHandle" ∧ y.cls ≠ "java/lang/invoke/VarHandle" ∧ (parseMethodDescriptor y.desc).map (fun d => d.parameters.length) = some n) (hR : rm.frames + 1 ≤ R.frames ∧ 8 + (maxL + 11) + rm.locals ≤ R.locals) (hrc : rm.cells = mc) (hrs : rm.slots = ms) (hcs : cells + mc ≤ R.cells ∧ slots + ms ≤ R.slots)
    (hP : va_P D zCl (va_pl L f) H) (hn : As.length = n) (hsize : ls.size = nL) (hst : st = As.reverse ++ rest) (hW : (rest.map fun v => v.category).sum ≤ 8) (hdg : decode cc pc = .ok (.invokestatic index, 3)) :
    va_Run p l e R s m args below meth c H locs cells slots mc ms (F0 m pc ls st) rest (Qc As.toArray) free := by
  obtain ⟨hx, hb', hml, hown, hg, -, -, hK, hN⟩ := C0
  refine vx_runSW (hh := hh) (Ts := GW) (n := n) ⟨hx, hb', hml, hown, hg⟩ hM ⟨⟨hrc, hrs, hR.1, hR.2, pay_in hg (gw_in0 hcode), List.mem_cons_self⟩, hg _ hcode, hg _ hini, ⟨hd.1, hd.2.1⟩, fun sig h => ?_, hg _ hl, hg _ hi⟩ ⟨cPreH_blind, fun U hU hW => ⟨rfl, by rw [hU]; exact hP, va_K.moved hW.alike hK, hN.warm hW, ⟨hX.1.warm hW, hX.2.1.warm hW, by rw [hU]; exact hZ.moved hW.alike⟩, hnn.moved hW.alike⟩⟩ rfl hn hsize hst (lv_room hW) hdg hcs
  have h2 := hd.2.2
  rw [h] at h2
  exact (Option.some.inj h2).symm
theorem then_h {A0 : Nat → Prop} {a : Array Value} {post : Int32 → (Nat → va_E) → Prop} (hr : va_Run p l e R s m args below meth c H locs cells slots 1 6 (F0 m pc ls st) rest (va_Qi post (cB D L) (inL L) a) (inL L)) (hS : va_S A0 H0 H locs) (hA : ∀ a ∈ L, A0 a)
    (kk : ∀ (r : Int32) (f' : Nat → va_E) (H1 : Heap) (locs1 : List Loc), post r f' → va_P D zCl (va_pl L f') H1 → va_S A0 H0 H1 locs1 → W p l e R s m args below meth c H1 locs1 (cells + 1) (slots + 6) Q (F0 m (pc + 3) ls (.int r :: rest))) : W p l e R s m args below meth c H locs cells slots Q (F0 m pc ls st) :=
  va_calli hr hS (fun q _ h => hA q h) (fun q h => hA q h) (fun r u t H1 locs1 ht _ hp hB _ _ hS' => kk r u H1 locs1 hp (by rw [← ht]; exact hB) hS')
theorem run_IL (hx : p.tables.exec = Jvm.exec) (hb' : c.code = cc) (hml : c.maxLocals = nL) (hown : s.vm.findClass own = some m.cls) (hg : ∀ w ∈ GW, w.before args s = true) (hN : Nx s) (hAo : Ao s) (hK : va_K D zCl tys s) (hM : Met l y (Cond.code y bytes maxL none :: GW) rm (gPre D tys L f H.size [.ref b]) Qc mc ms free) (hcode : Cond.code y bytes maxL none ∈ GW) (hl : Cond.methodLink own index y ∈ GW) (hi : Cond.instanceMethod y ∈ GW) (hini : Cond.initialized y.cls ∈ GW) (hyn : y.name = "<init>")
    (hd : y.cls ≠ "java/lang/invoke/MethodHandle" ∧ y.cls ≠ "java/lang/invoke/VarHandle" ∧ (parseMethodDescriptor y.desc).map (fun d => d.parameters.length) = some 0) (hR : rm.frames + 1 ≤ R.frames ∧ 8 + (maxL + 11) + rm.locals ≤ R.locals) (hrc : rm.cells = mc) (hrs : rm.slots = ms) (hcs : cells + mc ≤ R.cells ∧ slots + ms ≤ R.slots)
    (hP : va_P D zCl (va_pl L f) H) (hsize : ls.size = nL) (hst : st = .ref b :: rest) (hW : (rest.map fun v => v.category).sum ≤ 8) (hdg : decode cc pc = .ok (.invokespecial index, 3)) :
    va_Run p l e R s m args below meth c H locs cells slots mc ms (F0 m pc ls st) rest (Qc [Value.ref b].toArray) free :=
  va_runI (As := []) (Ts := GW) (n := 0) ⟨hx, hb', hml, hown, hg⟩ hM (cwI 0 hg (gw_in0 hcode) rfl hrc hrs (hg _ hini) (hg _ hl) (hg _ hi) hyn hd hR) ⟨gPre_blind, fun U hU hW => ⟨rfl, by rw [hU], by rw [hU]; exact hP, va_K.moved hW.alike hK, hN.warm hW, hAo.moved hW.alike⟩⟩ rfl rfl hsize hst (lv_room hW) hdg hcs
end LR
theorem law_cmp {n j : Nat} (hn : n ≤ 3584) (hj : 7 * j ≤ 4000) (h : ¬ nI n - nI 7 < nI (7 * j)) : 7 * j + 7 ≤ n := by
  rw [Int32.lt_iff_toInt_lt, nI_toInt (by omega), Int32.toInt_sub, nI_toInt (by omega), nI_toInt (by omega)] at h
  rw [Int.bmod_eq_of_le (by omega) (by omega)] at h
  omega
theorem FnsAt.grow {tys t2 : List (ClassId × FieldType)} {L L2 : List Nat} {f f' : Nat → va_E} {fa : Nat} {fn dr pr sA oA ra rb rk : Nat → Nat} {sq : Nat → Nat → Nat} {oi ni : Nat → Nat} {gv : Nat → Int32} {go : Nat → Nat → Int32} {σ : Sg} (h : FnsAt tys L f fa fn dr pr sA oA ra rb rk sq oi ni gv go σ) (hi : ∀ z ∈ L, z ∈ L2) (hs : ∀ z ∈ L, f' z = f z) (hy : ∀ z ∈ tys, z ∈ t2) : FnsAt t2 L2 f' fa fn dr pr sA oA ra rb rk sq oi ni gv go σ := by
  obtain ⟨⟨a1, a2⟩, a3⟩ := h
  refine ⟨⟨hi _ a1, (a2.eq (hs _ a1)).more hy⟩, fun i hi4 => ?_⟩
  obtain ⟨⟨b1, b2⟩, b3, b4, ⟨b5, b6⟩, b7, b8, b9, b10⟩ := a3 i hi4
  have kR : ∀ {r a b k N : Nat} {ga gb gk : Nat → Int32} {xa xb : Nat → Nat}, RelAt tys L f r a b k N ga gb gk xa xb → RelAt t2 L2 f' r a b k N ga gb gk xa xb := fun h => by
    obtain ⟨⟨l1, l2, l3, l4⟩, h2, h3, h4, h5, h6⟩ := h
    exact ⟨⟨hi _ l1, hi _ l2, hi _ l3, hi _ l4⟩, (hs _ l1).trans h2, (h3.eq (hs _ l2)).more hy, (h4.eq (hs _ l3)).more hy, (h5.eq (hs _ l4)).more hy, h6⟩
  exact ⟨⟨hi _ b1, (hs _ b1).trans b2⟩, kR b3, kR b4, ⟨hi _ b5, (b6.eq (hs _ b5)).more hy⟩, fun j hj => hi _ (b7 j hj), fun j hj => (hs _ (b7 j hj)).trans (b8 j hj), hi _ b9, (b10.eq (hs _ b9)).more hy⟩
theorem KnAny.grow {tys t2 : List (ClassId × FieldType)} {f f' : Nat → va_E} {h b : Nat} (hk : KnAny tys f h b) (e1 : f' h = f h) (e2 : f' b = f b) (hy : ∀ z ∈ tys, z ∈ t2) : KnAny t2 f' h b := by
  obtain ⟨⟨pv, h1⟩, g, h2⟩ := hk
  exact ⟨⟨pv, e1.trans h1⟩, g, (h2.eq e2).more hy⟩
theorem WTy.grow {tys t2 : List (ClassId × FieldType)} {L L2 : List Nat} {f f' : Nat → va_E} {ww wk wkb wa wp : Nat} {wq wqb : Nat → Nat} (h : WTy tys L f ww wk wkb wa wp wq wqb) (hi : ∀ z ∈ L, z ∈ L2) (hs : ∀ z ∈ L, f' z = f z) (hy : ∀ z ∈ tys, z ∈ t2) : WTy t2 L2 f' ww wk wkb wa wp wq wqb := by
  obtain ⟨⟨⟨w1, w2, w3, w4, w5⟩, a2, a3, a4, a5, a6⟩, ⟨x3, x4, x5, x6, x7, x8, x9, x10, b1⟩, b2, wpl, b3⟩ := h
  exact ⟨⟨⟨hi _ w1, hi _ w2, hi _ w3, hi _ w4, hi _ w5⟩, (a2.eq (hs _ w4)).more hy, fun j hj => ⟨hi _ (a3 j hj).1, hi _ (a3 j hj).2⟩, a4, a5, fun j hj => (a6 j hj).grow (hs _ (a3 j hj).1) (hs _ (a3 j hj).2) hy⟩, ⟨x3, x4, x5, x6, x7, x8, x9, x10, (hs _ w1).trans b1⟩, b2.grow (hs _ w2) (hs _ w3) hy, wpl, (b3.eq (hs _ w5)).more hy⟩
theorem str_all {args : Array Value} {s : State} (hg : ∀ q ∈ strL, (Cond.stringRef "LiquidChecker" q.1 q.2).before args s = true) (hc : ∃ cur, s.vm.findClass "LiquidChecker" = some cur) : ∃ sAd, Str sAd s := by
  obtain ⟨cur, hcur⟩ := hc
  have h1 : ∀ n : Nat, ∃ a : Nat, ∀ q ∈ strL, q.1 = n → vk_R "LiquidChecker" q.1 q.2 a s := by
    intro n
    by_cases h : ∃ q ∈ strL, q.1 = n
    · obtain ⟨q, hq, e⟩ := h
      obtain ⟨k, cf, j, a, -, -, -, -, -, hev⟩ := Cond.stringRef_spec hcur (hg q hq)
      refine ⟨a, fun q' hq' e' => ?_⟩
      have hu : ∀ x ∈ strL, ∀ y ∈ strL, x.1 = y.1 → x = y := by decide +kernel
      rw [hu q' hq' q hq (by rw [e', e])]
      exact vk_R.of (hg q hq) hev
    · exact ⟨0, fun q hq e => absurd ⟨q, hq, e⟩ h⟩
  obtain ⟨sAd, hs⟩ := Classical.axiomOfChoice h1
  exact ⟨sAd, fun q hq => hs q.1 q hq rfl⟩
