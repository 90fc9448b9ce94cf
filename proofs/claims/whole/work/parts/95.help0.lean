/-! The law's helpers: a call of the class that may throw, and the handlers. -/
def ncL : List (String × String) := [("java/lang/IllegalStateException", "java/lang/IllegalArgumentException"), ("java/lang/UnsupportedOperationException", "java/lang/IllegalArgumentException"), ("java/lang/IllegalStateException", "java/lang/UnsupportedOperationException"), ("java/util/NoSuchElementException", "java/lang/IllegalArgumentException"), ("java/lang/ArithmeticException", "java/lang/IllegalArgumentException"), ("java/lang/ArithmeticException", "java/util/NoSuchElementException")]
def Nn (U : State) : Prop := ∀ q ∈ ncL, va_Nc q.1 q.2 U
theorem Nn.moved {u U : State} (hvm : u.vm.Alike U.vm) (h : Nn u) : Nn U := fun q hq => va_Nc.moved hvm (h q hq)
def cPreH (D : va_G) (tys : List (ClassId × FieldType)) (L : List Nat) (f : Nat → va_E) (sAd : Nat → Nat) (av : List Value) : Array Value → State → Prop := va_Pc av (fun U => va_P D zCl (va_pl L f) U.heap ∧ va_K D zCl tys U ∧ Nx U ∧ XOk L sAd U ∧ Nn U)
theorem cPreH_blind {D : va_G} {tys : List (ClassId × FieldType)} {L : List Nat} {f : Nat → va_E} {sAd : Nat → Nat} {av : List Value} : FrameBlind (cPreH D tys L f sAd av) := fun a U g mk q => by
  obtain ⟨q0, qP, qK, qN, ⟨qX, qS, qZ⟩, qn⟩ := q
  exact ⟨q0, qP, va_K.moved (u := U) (U := U.calling g mk a) (Vm.Alike.refl U.vm) qK, Nx.same (u := U) (U := U.calling g mk a) rfl qN, ⟨Xw.same (u := U) (U := U.calling g mk a) rfl qX, Str.same (u := U) (U := U.calling g mk a) rfl qS, Zs.moved (u := U) (U := U.calling g mk a) (Vm.Alike.refl U.vm) qZ⟩, Nn.moved (u := U) (U := U.calling g mk a) (Vm.Alike.refl U.vm) qn⟩
abbrev MetH (l : Launch) (y : MethodName) (ws : List Cond) (rm : Room) (D : va_G) (tys : List (ClassId × FieldType)) (L : List Nat) (f : Nat → va_E) (sAd : Nat → Nat) (av : List Value) (post : Int32 → (Nat → va_E) → Prop) : Prop := Met l y ws rm (cPreH D tys L f sAd av) (va_Qi post (cB D L) (inL L)) 1 6 (inL L)
theorem meth_of {l : Launch} {y : MethodName} {cc : ByteArray} {maxL : Nat} {ret : Option FieldType} {hh : List (Nat × Nat × Nat × Nat)} {rm : Room} {D : va_G} {tys : List (ClassId × FieldType)} {L : List Nat} {f : Nat → va_E} {sAd : Nat → Nat} {av : List Value} {Qc : Array Value → State → Outcome → State → Prop} (own : String) (hy : plainName y.cls = true) (hcls : y.cls = own) (hlen : (lg_sl av).length ≤ maxL)
    (body : ∀ (p : Program) (e : Env) (s : State) (m : MethodId) (below : List Frame) (meth : Method) (c : Code) (ls : Array Slot), Cx p s m av.toArray meth c cc maxL own ret D tys → XOk L sAd s → Nn s → c.exceptionTable.toList = tableOf hh → va_P D zCl (va_pl L f) s.heap → lv_has ls maxL (lv_args 0 av) → W p l e rm s m av.toArray below meth c s.heap [] 0 0 (MQ below Qc av.toArray s 1 6 (inL L)) (F0 m 0 ls [])) :
    Met l y (Cond.codeWith y cc maxL ret hh :: GW) rm (cPreH D tys L f sAd av) Qc 1 6 (inL L) := by
  refine MetFree.of_bodyS (code := cc) (maxLocals := maxL) (ret := ret) hy ?_ ?_
  · intro args s m h hn
    obtain ⟨m9, meth, c, hn9, h1, h2, h3, h4, -, h5, h6, -⟩ := Cond.codeWith_spec (atoms_spec (ws := Cond.codeWith y cc maxL ret hh :: GW) h _ List.mem_cons_self)
    cases hn.symm.trans hn9
    exact ⟨meth, c, h1, h2, h3, h4, h5, h6⟩
  · intro p e s m args below meth c s₁ B hml hv _
    obtain ⟨rfl, hP, hK, hN, hX, hn⟩ := hv
    have hh0 : s₁.heap = s.heap := by rw [B.state]; rfl
    have hts := atoms_spec (ws := Cond.codeWith y cc maxL ret hh :: GW) B.pre
    have ht := vx_table (x := y) B (hts _ List.mem_cons_self)
    have hW := body p e s m below meth c _ ⟨B.exec, B.bytes, hml, by rw [← hcls]; exact findClass_of_methodNamed B.named, fun w h => hts w (List.mem_cons_of_mem _ h), B.returns, B.notSynchronized, hK, hN⟩ hX hn ht hP (lv_entry av hlen)
    rw [← lg_entry_eq] at hW
    obtain ⟨t, a1, o, b1, b2, b3⟩ := hW s₁ hh0 (Stand.of_body B)
    exact ⟨t, o, a1, b1, b2, b3⟩
section MHs
variable {p : Program} {l : Launch} {e : Env} {R : Room} {s : State} {m : MethodId} {args : Array Value} {below : List Frame} {meth : Method} {c : Code} {H : Heap} {locs : List Loc} {cells slots : Nat} {Q : State → Prop}
variable {cc : ByteArray} {nL : Nat} {own : String} {pc : Nat} {ls : Array Slot} {rest : List Value} {D : va_G} {tys : List (ClassId × FieldType)} {H0 : Heap} {L : List Nat} {f : Nat → va_E}
theorem ret_h (C0 : Cx p s m args meth c cc nL own (some .int) D tys) {v : Int32} {post : Int32 → (Nat → va_E) → Prop} (hP : va_P D zCl (va_pl L f) H) (hS : va_S (inL L) s.heap H locs) (hp : post v f) (hdg : decode cc pc = .ok (.ireturn, 1)) : W p l e R s m args below meth c H locs 1 6 (MQ below (va_Qi post (cB D L) (inL L)) args s 1 6 (inL L)) (F0 m pc ls [.int v]) := by
  obtain ⟨hx, hb, -, -, -, hr, hlocks, -, -⟩ := C0
  exact W.iret hx hb hr (fun t ht hW => ⟨⟨v, f, rfl, hp, by show va_P D zCl (va_pl L f) t.heap; rw [ht]; exact hP⟩, hS.F ht⟩) hS.2.2 hdg
variable {ret0 : Option FieldType} {y : MethodName} {bytes : ByteArray} {maxL n index ci : Nat} {ret : Option FieldType} {rm : Room} {Qc : Array Value → State → Outcome → State → Prop} {XC : String → State → State → Prop} {free : Addr → Prop} {b : Addr} {As : List Value} {fs : List Value} {q : vw_C} {host : String} {st : List Value} {mc ms : Nat} {sAd : Nat → Nat}
theorem run_X (C0 : Cx p s m args meth c cc nL own ret0 D tys) (hX : XOk L sAd s) (hS : va_S (inL L) s.heap H locs) (hM : vx_Met l y (Cond.code y bytes maxL ret :: GW) rm (cPreX D tys L f sAd (.ref b :: As)) Qc XC mc ms free) (hcode : Cond.code y bytes maxL ret ∈ GW) (hl : Cond.methodLink own index y ∈ GW) (hi : Cond.instanceMethod y ∈ GW) (hse : Cond.selects y.cls y y ∈ GW) (hini : Cond.initialized y.cls ∈ GW)
    (hd : y.cls ≠ "java/lang/invoke/MethodHandle" ∧ y.cls ≠ "java/lang/invoke/VarHandle" ∧ (parseMethodDescriptor y.desc).map (fun d => d.parameters.length) = some n) (hR : rm.frames + 1 ≤ R.frames ∧ 8 + (maxL + 11) + rm.locals ≤ R.locals) (hrc : rm.cells = mc) (hrs : rm.slots = ms) (hcs : cells + mc ≤ R.cells ∧ slots + ms ≤ R.slots)
    (hP : va_P D zCl (va_pl L f) H) (hb : b ∈ L) (hf : f b = .inr (ci, fs)) (hc : zCl[ci]? = some q) (hq : q.1 = y.cls) (hn : As.length = n) (hsize : ls.size = nL) (hst : st = As.reverse ++ .ref b :: rest) (hW : (rest.map fun v => v.category).sum ≤ 8) (hdg : decode cc pc = .ok (.invokevirtual index, 3)) :
    vx_Run p l e R s m args below meth c H locs cells slots mc ms (F0 m pc ls st) rest (Qc (Value.ref b :: As).toArray) XC free := by
  obtain ⟨hx, hb', hml, hown, hg, -, -, hK, hN⟩ := C0
  obtain ⟨k, hk⟩ := mm_at hb hf
  have hZ : Zs L s H := hX.2.2.kept (fun a h1 h2 => hS.2.1 a h1 h2)
  exact vx_runV (C := y.cls) (Ts := GW) (n := n) ⟨hx, hb', hml, hown, hg⟩ hM ⟨callB_of n hg (gw_in0 hcode) rfl hrc hrs (hg _ hini) (hg _ hl) hd hR, hg _ hi, hg _ hse⟩ ⟨cPreX_blind, by rw [← hq]; exact va_recv hK hP hc hk, fun U hU hW => ⟨rfl, by rw [hU]; exact hP, va_K.moved hW.alike hK, hN.warm hW, hX.1.warm hW, hX.2.1.warm hW, by rw [hU]; exact hZ.moved hW.alike⟩⟩ rfl hn hsize hst (lv_room hW) hdg hcs
theorem then_x {a : Array Value} {post : Int32 → (Nat → va_E) → Prop} {xp : String → Prop} (hr : vx_Run p l e R s m args below meth c H locs 0 0 1 6 (F0 m pc ls st) rest (va_Qi post (cB D L) (inL L) a) (cX D L f xp) (inL L)) (hS : va_S (inL L) s.heap H locs)
    (kx : ∀ (E : String) (ce : Cell) (q9 : Addr) (H1 : Heap) (locs1 : List Loc), xp E → va_P D zCl (va_pl L f) H1 → va_S (inL L) s.heap H1 locs1 → H1[q9]? = some ce → ce.vm = .none → s.vm.findClass E = some ce.cls → vx_W p l e R s m args below meth c H1 locs1 1 6 Q (F0 m pc ls rest) q9)
    (kk : ∀ (r : Int32) (f' : Nat → va_E) (H1 : Heap) (locs1 : List Loc), post r f' → va_P D zCl (va_pl L f') H1 → va_S (inL L) s.heap H1 locs1 → W p l e R s m args below meth c H1 locs1 1 6 Q (F0 m (pc + 3) ls (.int r :: rest))) : W p l e R s m args below meth c H locs 0 0 Q (F0 m pc ls st) :=
  vx_calli hr hS (fun q _ h => h) (fun q h => h) (fun q _ h => h) (fun E ce q9 u t H1 locs1 ht _ _ hB _ _ hS' h1 h2 h3 => kx E ce q9 H1 locs1 hB.1 (by rw [← ht]; exact hB.2) hS' h1 h2 h3) (fun r u t H1 locs1 ht _ hp hB _ _ hS' => kk r u H1 locs1 hp (by rw [← ht]; exact hB) hS')
theorem then_y {a : Array Value} {post : Int32 → (Nat → va_E) → Prop} {xp : String → (Nat → va_E) → Prop} (hr : vx_Run p l e R s m args below meth c H locs 0 0 1 6 (F0 m pc ls st) rest (va_Qi post (cB D L) (inL L) a) (cY D L xp) (inL L)) (hS : va_S (inL L) s.heap H locs)
    (kx : ∀ (E : String) (ce : Cell) (q9 : Addr) (f' : Nat → va_E) (H1 : Heap) (locs1 : List Loc), xp E f' → va_P D zCl (va_pl L f') H1 → va_S (inL L) s.heap H1 locs1 → H1[q9]? = some ce → ce.vm = .none → s.vm.findClass E = some ce.cls → vx_W p l e R s m args below meth c H1 locs1 1 6 Q (F0 m pc ls rest) q9)
    (kk : ∀ (r : Int32) (f' : Nat → va_E) (H1 : Heap) (locs1 : List Loc), post r f' → va_P D zCl (va_pl L f') H1 → va_S (inL L) s.heap H1 locs1 → W p l e R s m args below meth c H1 locs1 1 6 Q (F0 m (pc + 3) ls (.int r :: rest))) : W p l e R s m args below meth c H locs 0 0 Q (F0 m pc ls st) :=
  vx_calli hr hS (fun q _ h => h) (fun q h => h) (fun q _ h => h) (fun E ce q9 u t H1 locs1 ht _ _ hB _ _ hS' h1 h2 h3 => kx E ce q9 u H1 locs1 hB.1 (by rw [← ht]; exact hB.2) hS' h1 h2 h3) (fun r u t H1 locs1 ht _ hp hB _ _ hS' => kk r u H1 locs1 hp (by rw [← ht]; exact hB) hS')
/-- caught by the row with this place in the table -/
theorem catch_h (C0 : Cx p s m args meth c cc nL "LiquidCheckerLaw" ret0 D tys) (hX : XOk L sAd s) (hnn : Nn s) {hh : List (Nat × Nat × Nat × Nat)} (ht : c.exceptionTable.toList = tableOf hh) {E : String} {ce : Cell} {q : Addr} (k : Nat) (hk : k < hh.length) {ep hpc ty : Nat} {name : String} (hrow : hh[k]? = some (0, ep, hpc, ty)) (hpc9 : pc < ep) (hty : ty ≠ 0) (hlink : Cond.classLink "LiquidCheckerLaw" ty name ∈ GW) (hcast : Cond.castable E name ∈ XWW) (hpass : ∀ z ∈ hh.take k, z.2.2.2 ≠ 0 ∧ ∃ nm, Cond.classLink "LiquidCheckerLaw" z.2.2.2 nm ∈ GW ∧ (E, nm) ∈ ncL) (hcell : H[q]? = some ce) (hv : ce.vm = .none) (hcl : s.vm.findClass E = some ce.cls)
    (kk : W p l e R s m args below meth c H locs cells slots Q (F0 m hpc ls [.ref q])) : vx_W p l e R s m args below meth c H locs cells slots Q (F0 m pc ls rest) q := by
  obtain ⟨hx, hb, hml, hown, hg, hr, hlocks, hK, hN⟩ := C0
  have hsplit : c.exceptionTable.toList = tableOf (hh.take k) ++ (⟨0, ep, hpc, ty⟩ : ExceptionTableEntry) :: tableOf (hh.drop (k + 1)) := by
    rw [ht]
    have h1 : hh = hh.take k ++ (0, ep, hpc, ty) :: hh.drop (k + 1) := by
      have h2 := List.getElem?_eq_some_iff.mp hrow
      obtain ⟨h3, h4⟩ := h2
      rw [← h4, List.getElem_cons_drop, List.take_append_drop]
    conv => lhs; rw [h1]
    unfold tableOf
    rw [List.map_append, List.map_cons]
  refine vx_catch (own := "LiquidCheckerLaw") (name := name) (E := E) (ce := ce) hown (tableOf (hh.take k)) ⟨0, ep, hpc, ty⟩ (tableOf (hh.drop (k + 1))) hsplit (fun z hz => ?_) ?_ hty (hg _ hlink) (hX.1.use hcast) hcell hv hcl kk
  · unfold tableOf at hz
    obtain ⟨z0, hz0, rfl⟩ := List.mem_map.mp hz
    obtain ⟨h1, nm, h2, h3⟩ := hpass z0 hz0
    exact Or.inr ⟨h1, nm, hg _ h2, hnn _ h3⟩
  · simp [covers, hpc9]
end MHs
