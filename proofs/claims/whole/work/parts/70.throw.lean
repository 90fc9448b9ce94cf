/-! Methods that may throw: what must stand for a throw; the throw; a contract with both ends. -/
def isXw : Cond → Bool
  | .castable .. => true
  | .declares .. => true
  | _ => false
def XWW : List Cond := tables_1.filter isXw
def Xw (U : State) : Prop := ∀ w ∈ XWW, va_Nw w U
theorem Xw.warm {s U : State} (hW : s.WarmedH U.vm) (h : Xw s) : Xw U := fun w hw => by
  have h1 := h w hw
  have h2 := (List.mem_filter.mp hw).2
  cases w with
  | castable => exact va_Nw.warmC hW h1
  | declares => exact va_Nw.warmD hW h1
  | _ => cases h2
theorem Xw.same {u U : State} (h : u.vm = U.vm) (hN : Xw u) : Xw U := fun w hw => by
  have h1 := hN w hw
  have h2 := (List.mem_filter.mp hw).2
  cases w with
  | castable => exact va_Nw.same rfl h h1
  | declares => exact va_Nw.same rfl h h1
  | _ => cases h2
theorem Xw.use {s : State} {args : Array Value} (hN : Xw s) {w : Cond} (hw : w ∈ XWW) : w.before args s = true := by
  have h1 := hN w hw
  have h2 := (List.mem_filter.mp hw).2
  cases w with
  | castable => exact va_Nw.use rfl h1
  | declares => exact va_Nw.use rfl h1
  | _ => cases h2
/-- the texts -/
def strL : List (Nat × String) := [(40, "no such function or kind"), (48, "no such relation"), (65, "no room for a relation more"), (76, "no such function or statement"), (87, "a name not given, or an ELSE or END out of place"), (93, "no room for a statement more"), (98, "no such function"), (118, "no such function or place"), (126, "no such function, place or name"), (130, "no feasible way comes there"), (139, "as great as one likes"), (157, "no such function, or nothing to count")]
def Str (sAd : Nat → Nat) (U : State) : Prop := ∀ q ∈ strL, vk_R "LiquidChecker" q.1 q.2 (sAd q.1) U
theorem Str.warm {sAd : Nat → Nat} {s U : State} (hW : s.WarmedH U.vm) (h : Str sAd s) : Str sAd U := fun q hq => (h q hq).warm hW
theorem Str.same {sAd : Nat → Nat} {u U : State} (hv : U.vm = u.vm) (h : Str sAd u) : Str sAd U := fun q hq => (h q hq).same hv
def Zs (L : List Nat) (U : State) (H : Heap) : Prop := vx_Zq Bundle.tN "UNASSIGNED_STACK" Bundle.steD (inL L) U H ∧ vx_Zq Bundle.tN "SUPPRESSED_SENTINEL" Bundle.listD (inL L) U H
theorem Zs.moved {L : List Nat} {u U : State} {H : Heap} (hvm : u.vm.Alike U.vm) (h : Zs L u H) : Zs L U H := ⟨vx_Zq.moved hvm h.1, vx_Zq.moved hvm h.2⟩
theorem Zs.kept {L : List Nat} {U : State} {H H1 : Heap} (h : Zs L U H) (hq : ∀ a : Nat, a < H.size → ¬ inL L a → H1[a]? = H[a]?) : Zs L U H1 := ⟨h.1.kept hq, h.2.kept hq⟩
abbrev XOk (L : List Nat) (sAd : Nat → Nat) (U : State) : Prop := Xw U ∧ Str sAd U ∧ Zs L U U.heap
def cPreX (D : va_G) (tys : List (ClassId × FieldType)) (L : List Nat) (f : Nat → va_E) (sAd : Nat → Nat) (av : List Value) : Array Value → State → Prop := va_Pc av (fun U => va_P D zCl (va_pl L f) U.heap ∧ va_K D zCl tys U ∧ Nx U ∧ XOk L sAd U)
theorem cPreX_blind {D : va_G} {tys : List (ClassId × FieldType)} {L : List Nat} {f : Nat → va_E} {sAd : Nat → Nat} {av : List Value} : FrameBlind (cPreX D tys L f sAd av) := fun a U g mk q => by
  obtain ⟨q0, qP, qK, qN, qX, qS, qZ⟩ := q
  exact ⟨q0, qP, va_K.moved (u := U) (U := U.calling g mk a) (Vm.Alike.refl U.vm) qK, Nx.same (u := U) (U := U.calling g mk a) rfl qN, Xw.same (u := U) (U := U.calling g mk a) rfl qX, Str.same (u := U) (U := U.calling g mk a) rfl qS, Zs.moved (u := U) (U := U.calling g mk a) (Vm.Alike.refl U.vm) qZ⟩
abbrev cX (D : va_G) (L : List Nat) (f : Nat → va_E) (xp : String → Prop) : String → State → State → Prop := vx_X (fun _ : Unit => True) (fun E _ t => xp E ∧ va_P D zCl (va_pl L f) t.heap) (inL L)
abbrev MetX (l : Launch) (y : MethodName) (ws : List Cond) (rm : Room) (D : va_G) (tys : List (ClassId × FieldType)) (L : List Nat) (f : Nat → va_E) (sAd : Nat → Nat) (av : List Value) (post : Int32 → (Nat → va_E) → Prop) (xp : String → Prop) : Prop := vx_Met l y ws rm (cPreX D tys L f sAd av) (va_Qi post (cB D L) (inL L)) (cX D L f xp) 1 6 (inL L)
theorem metx_of {l : Launch} {y : MethodName} {cc : ByteArray} {maxL : Nat} {ret : Option FieldType} {rm : Room} {D : va_G} {tys : List (ClassId × FieldType)} {L : List Nat} {f : Nat → va_E} {sAd : Nat → Nat} {av : List Value} {Qc : Array Value → State → Outcome → State → Prop} {XC : String → State → State → Prop} (own : String) (hy : plainName y.cls = true) (hcls : y.cls = own) (hlen : (lg_sl av).length ≤ maxL)
    (body : ∀ (p : Program) (e : Env) (s : State) (m : MethodId) (below : List Frame) (meth : Method) (c : Code) (ls : Array Slot), Cx p s m av.toArray meth c cc maxL own ret D tys → XOk L sAd s → (∀ x ∈ c.exceptionTable.toList, False) → va_P D zCl (va_pl L f) s.heap → lv_has ls maxL (lv_args 0 av) → W p l e rm s m av.toArray below meth c s.heap [] 0 0 (vx_MQ below Qc XC av.toArray s 1 6 (inL L)) (F0 m 0 ls [])) :
    vx_Met l y (Cond.code y cc maxL ret :: GW) rm (cPreX D tys L f sAd av) Qc XC 1 6 (inL L) := by
  refine vx_ofW (cc := cc) (maxL := maxL) (ret := ret) hy rfl ?_
  intro p e s m args below meth c s₁ B hml hno hv
  obtain ⟨rfl, hP, hK, hN, hX⟩ := hv
  have hts := atoms_spec (ws := Cond.code y cc maxL ret :: GW) B.pre
  rw [lg_entry_eq]
  exact body p e s m below meth c _ ⟨B.exec, B.bytes, hml, by rw [← hcls]; exact findClass_of_methodNamed B.named, fun w h => hts w (List.mem_cons_of_mem _ h), B.returns, B.notSynchronized, hK, hN⟩ hX hno hP (lv_entry av hlen)
section MX
variable {p : Program} {l : Launch} {e : Env} {R : Room} {s : State} {m : MethodId} {args : Array Value} {below : List Frame} {meth : Method} {c : Code} {H : Heap} {locs : List Loc} {cells slots : Nat} {Q : State → Prop}
variable {cc : ByteArray} {nL : Nat} {own : String} {pc : Nat} {ls : Array Slot} {rest : List Value} {D : va_G} {tys : List (ClassId × FieldType)} {L : List Nat} {f : Nat → va_E}
theorem retx_i (C0 : Cx p s m args meth c cc nL own (some .int) D tys) {v : Int32} {post : Int32 → (Nat → va_E) → Prop} {XC : String → State → State → Prop} (hP : va_P D zCl (va_pl L f) H) (hS : va_S (inL L) s.heap H locs) (hp : post v f) (hdg : decode cc pc = .ok (.ireturn, 1)) : W p l e R s m args below meth c H locs 0 0 (vx_MQ below (va_Qi post (cB D L) (inL L)) XC args s 1 6 (inL L)) (F0 m pc ls [.int v]) := by
  obtain ⟨hx, hb, -, -, -, hr, hlocks, -, -⟩ := C0
  exact vx_ret (W.widen (k := 1) (n := 6) (by omega) (by omega) (W.iret hx hb hr (fun t ht hW => ⟨⟨v, f, rfl, hp, by show va_P D zCl (va_pl L f) t.heap; rw [ht]; exact hP⟩, hS.F ht⟩) hS.2.2 hdg))
theorem thr {ret0 : Option FieldType} {sAd : Nat → Nat} {post : Int32 → (Nat → va_E) → Prop} {xp : String → Prop} {cls text : String} {names : List String} {ik is ic : Nat} (C0 : Cx p s m args meth c cc nL own ret0 D tys) (hst : l.stackTraces = false) (hX : XOk L sAd s) (hno : ∀ x ∈ c.exceptionTable.toList, False) (hP : va_P D zCl (va_pl L f) H) (hS : va_S (inL L) s.heap H locs) (hsize : ls.size = nL) (hcls : Bundle.fit cls = true) (hnames : ∀ n ∈ names, Bundle.fit n = true) (hk : Cond.classLink own ik cls ∈ GW) (hini : Cond.initialized cls ∈ GW) (hown2 : own = "LiquidChecker") (hstr : (is, text) ∈ strL) (hat : ∀ w ∈ vx_atS own ic cls names, w ∈ GW ∨ w ∈ XWW) (hgood : ∀ w ∈ Cond.classLink own ik cls :: Cond.initialized cls :: vx_atS own ic cls names, vx_ot w = true)
    (d0 : decode cc pc = .ok (.new ik, 3)) (d3 : decode cc (pc + 3) = .ok (.dup, 1)) (d4 : decode cc (pc + 4) = .ok (.ldc is, 2)) (d6 : decode cc (pc + 6) = .ok (.invokespecial ic, 3)) (d9 : decode cc (pc + 9) = .ok (.athrow, 1))
    (hRf : names.length + 3 < R.frames) (hRl : (rest.map fun v => v.category).sum + (13 * (names.length + 1) + 43) ≤ R.locals) (hRc : 1 ≤ R.cells) (hRs : 6 ≤ R.slots) (hxp : xp cls) :
    W p l e R s m args below meth c H locs 0 0 (vx_MQ below (va_Qi post (cB D L) (inL L)) (cX D L f xp) args s 1 6 (inL L)) (F0 m pc ls rest) := by
  obtain ⟨hx, hb, hml, hown, hg, -, hlocks, -, -⟩ := C0
  subst hown2
  refine vx_throwS hx hb hst hown hcls hnames (hg _ hk) (hg _ hini) (hX.2.1 _ hstr) (fun w hw => (hat w hw).elim (hg w) (fun h => hX.1.use h)) hgood hX.2.2.1 hX.2.2.2 hS (hsize.trans hml.symm) d0 d3 d4 d6 d9 (fun x hx => (hno x hx).elim) hRf hRl (by omega) (by omega) hlocks (fun t _ hz hk => ⟨(), trivial, ⟨hxp, ?_⟩, ?_⟩) hS.2.2 (by omega) (by omega)
  · exact hP.kept (fun k q h => hk _ ((hP k q h).lt))
  · exact ⟨Nat.le_trans hS.1 hz, fun q h1 h2 => by rw [hk q (Nat.lt_of_lt_of_le h1 hS.1)]; exact hS.2.1 q h1 h2⟩
end MX
theorem gx_of {L : List Cond} (h : L.all (fun w => decide (w ∈ tables_1) && (goodWord w || isXw w)) = true) : ∀ w ∈ L, w ∈ GW ∨ w ∈ XWW := fun w hw => by
  have h1 := List.all_eq_true.mp h w hw
  simp only [Bool.and_eq_true, decide_eq_true_eq, Bool.or_eq_true] at h1
  rcases h1.2 with h2 | h2
  · exact Or.inl (List.mem_filter.mpr ⟨List.mem_append_right _ h1.1, h2⟩)
  · exact Or.inr (List.mem_filter.mpr ⟨h1.1, h2⟩)
theorem gx_IllegalArgumentException : ∀ w ∈ vx_atS "LiquidChecker" 42 "java/lang/IllegalArgumentException" ["java/lang/RuntimeException", "java/lang/Exception"], w ∈ GW ∨ w ∈ XWW := gx_of (by decide +kernel)
theorem go_IllegalArgumentException : (vx_atS "LiquidChecker" 42 "java/lang/IllegalArgumentException" ["java/lang/RuntimeException", "java/lang/Exception"]).all vx_ot = true := by decide +kernel
theorem gx_IllegalStateException : ∀ w ∈ vx_atS "LiquidChecker" 67 "java/lang/IllegalStateException" ["java/lang/RuntimeException", "java/lang/Exception"], w ∈ GW ∨ w ∈ XWW := gx_of (by decide +kernel)
theorem go_IllegalStateException : (vx_atS "LiquidChecker" 67 "java/lang/IllegalStateException" ["java/lang/RuntimeException", "java/lang/Exception"]).all vx_ot = true := by decide +kernel
theorem gx_UnsupportedOperationException : ∀ w ∈ vx_atS "LiquidChecker" 89 "java/lang/UnsupportedOperationException" ["java/lang/RuntimeException", "java/lang/Exception"], w ∈ GW ∨ w ∈ XWW := gx_of (by decide +kernel)
theorem go_UnsupportedOperationException : (vx_atS "LiquidChecker" 89 "java/lang/UnsupportedOperationException" ["java/lang/RuntimeException", "java/lang/Exception"]).all vx_ot = true := by decide +kernel
theorem gx_ArithmeticException : ∀ w ∈ vx_atS "LiquidChecker" 141 "java/lang/ArithmeticException" ["java/lang/RuntimeException", "java/lang/Exception"], w ∈ GW ∨ w ∈ XWW := gx_of (by decide +kernel)
theorem go_ArithmeticException : (vx_atS "LiquidChecker" 141 "java/lang/ArithmeticException" ["java/lang/RuntimeException", "java/lang/Exception"]).all vx_ot = true := by decide +kernel
