/-! Contracts over one memory: a method is given all cells of L and hands back the same addresses with other contents. -/
def cPre (D : va_G) (tys : List (ClassId × FieldType)) (L : List Nat) (f : Nat → va_E) (av : List Value) : Array Value → State → Prop := va_Pc av (fun U => va_P D zCl (va_pl L f) U.heap ∧ va_K D zCl tys U ∧ Nx U)
theorem cPre_blind {D : va_G} {tys : List (ClassId × FieldType)} {L : List Nat} {f : Nat → va_E} {av : List Value} : FrameBlind (cPre D tys L f av) := fun a U g mk q => by
  obtain ⟨q0, qP, qK, qN⟩ := q
  exact ⟨q0, qP, va_K.moved (u := U) (U := U.calling g mk a) (Vm.Alike.refl U.vm) qK, Nx.same (u := U) (U := U.calling g mk a) rfl qN⟩
abbrev cB (D : va_G) (L : List Nat) : (Nat → va_E) → State → Prop := fun f' t => va_P D zCl (va_pl L f') t.heap
abbrev inL (L : List Nat) : Nat → Prop := fun a => a ∈ L
abbrev MetI (l : Launch) (y : MethodName) (ws : List Cond) (rm : Room) (D : va_G) (tys : List (ClassId × FieldType)) (L : List Nat) (f : Nat → va_E) (av : List Value) (post : Int32 → (Nat → va_E) → Prop) : Prop := Met l y ws rm (cPre D tys L f av) (va_Qi post (cB D L) (inL L)) 0 0 (inL L)
abbrev MetV (l : Launch) (y : MethodName) (ws : List Cond) (rm : Room) (D : va_G) (tys : List (ClassId × FieldType)) (L : List Nat) (f : Nat → va_E) (av : List Value) (post : (Nat → va_E) → Prop) : Prop := Met l y ws rm (cPre D tys L f av) (va_Qv post (cB D L) (inL L)) 0 0 (inL L)
abbrev Cx (p : Program) (s : State) (m : MethodId) (args : Array Value) (meth : Method) (c : Code) (cc : ByteArray) (nL : Nat) (own : String) (ret : Option FieldType) (D : va_G) (tys : List (ClassId × FieldType)) : Prop :=
  p.tables.exec = Jvm.exec ∧ c.code = cc ∧ c.maxLocals = nL ∧ s.vm.findClass own = some m.cls ∧ (∀ w ∈ GW, w.before args s = true) ∧ meth.sig.returnType = ret ∧ meth.locks = false ∧ va_K D zCl tys s ∧ Nx s
theorem gw_in0 {d : Cond} (h : d ∈ GW) : GoodIn GW (d :: GW) := fun w hw => by
  rcases List.mem_cons.mp hw with rfl | hw
  · exact ⟨h, good_of_word (gw_good h)⟩
  · exact ⟨hw, good_of_word (gw_good hw)⟩
theorem met_of {l : Launch} {y : MethodName} {cc : ByteArray} {maxL : Nat} {ret : Option FieldType} {rm : Room} {D : va_G} {tys : List (ClassId × FieldType)} {L : List Nat} {f : Nat → va_E} {av : List Value} {Qc : Array Value → State → Outcome → State → Prop} (own : String) (hy : plainName y.cls = true) (hcls : y.cls = own) (hlen : (lg_sl av).length ≤ maxL)
    (body : ∀ (p : Program) (e : Env) (s : State) (m : MethodId) (below : List Frame) (meth : Method) (c : Code) (ls : Array Slot), Cx p s m av.toArray meth c cc maxL own ret D tys → va_P D zCl (va_pl L f) s.heap → lv_has ls maxL (lv_args 0 av) → W p l e rm s m av.toArray below meth c s.heap [] 0 0 (MQ below Qc av.toArray s 0 0 (inL L)) (F0 m 0 ls [])) :
    Met l y (Cond.code y cc maxL ret :: GW) rm (cPre D tys L f av) Qc 0 0 (inL L) := by
  refine Met.ofW (cc := cc) (maxL := maxL) (ret := ret) hy rfl ?_
  intro p e s m args below meth c s₁ B hml hv
  obtain ⟨rfl, hP, hK, hN⟩ := hv
  have hts := atoms_spec (ws := Cond.code y cc maxL ret :: GW) B.pre
  rw [lg_entry_eq]
  exact body p e s m below meth c _ ⟨B.exec, B.bytes, hml, by rw [← hcls]; exact findClass_of_methodNamed B.named, fun w h => hts w (List.mem_cons_of_mem _ h), B.returns, B.notSynchronized, hK, hN⟩ hP (lv_entry av hlen)
section MC
variable {p : Program} {l : Launch} {e : Env} {R : Room} {s : State} {m : MethodId} {args : Array Value} {below : List Frame} {meth : Method} {c : Code} {H : Heap} {locs : List Loc} {cells slots : Nat} {Q : State → Prop}
variable {cc : ByteArray} {nL : Nat} {own : String} {pc : Nat} {ls : Array Slot} {rest : List Value} {D : va_G} {tys : List (ClassId × FieldType)} {H0 : Heap} {L : List Nat} {f : Nat → va_E}
theorem ret_i (C0 : Cx p s m args meth c cc nL own (some .int) D tys) {v : Int32} {post : Int32 → (Nat → va_E) → Prop} (hP : va_P D zCl (va_pl L f) H) (hS : va_S (inL L) s.heap H locs) (hp : post v f) (hdg : decode cc pc = .ok (.ireturn, 1)) : W p l e R s m args below meth c H locs 0 0 (MQ below (va_Qi post (cB D L) (inL L)) args s 0 0 (inL L)) (F0 m pc ls [.int v]) := by
  obtain ⟨hx, hb, -, -, -, hr, hlocks, -, -⟩ := C0
  exact W.iret hx hb hr (fun t ht hW => ⟨⟨v, f, rfl, hp, by show va_P D zCl (va_pl L f) t.heap; rw [ht]; exact hP⟩, hS.F ht⟩) hS.2.2 hdg
theorem ret_z (C0 : Cx p s m args meth c cc nL own (some .boolean) D tys) {v : Int32} {post : Int32 → (Nat → va_E) → Prop} (hn : narrow .boolean (.int v) = .int v) (hP : va_P D zCl (va_pl L f) H) (hS : va_S (inL L) s.heap H locs) (hp : post v f) (hdg : decode cc pc = .ok (.ireturn, 1)) : W p l e R s m args below meth c H locs 0 0 (MQ below (va_Qi post (cB D L) (inL L)) args s 0 0 (inL L)) (F0 m pc ls [.int v]) := by
  obtain ⟨hx, hb, -, -, -, hr, hlocks, -, -⟩ := C0
  exact W.zret hx hb hr hn (fun t ht hW => ⟨⟨v, f, rfl, hp, by show va_P D zCl (va_pl L f) t.heap; rw [ht]; exact hP⟩, hS.F ht⟩) hS.2.2 hdg
theorem ret_v (C0 : Cx p s m args meth c cc nL own none D tys) {post : (Nat → va_E) → Prop} (hP : va_P D zCl (va_pl L f) H) (hS : va_S (inL L) s.heap H locs) (hp : post f) (hdg : decode cc pc = .ok (.return_, 1)) : W p l e R s m args below meth c H locs 0 0 (MQ below (va_Qv post (cB D L) (inL L)) args s 0 0 (inL L)) (F0 m pc ls []) := by
  obtain ⟨hx, hb, -, -, -, hr, hlocks, -, -⟩ := C0
  exact W.vret hx hb hr (fun t ht hW => ⟨⟨f, rfl, hp, by show va_P D zCl (va_pl L f) t.heap; rw [ht]; exact hP⟩, hS.F ht⟩) hS.2.2 hdg
variable {ret0 : Option FieldType} {y : MethodName} {bytes : ByteArray} {maxL n index ci : Nat} {ret : Option FieldType} {rm : Room} {Qc : Array Value → State → Outcome → State → Prop} {free : Addr → Prop} {b : Addr} {As : List Value} {fs : List Value} {q : vw_C} {host : String} {st : List Value} {mc ms : Nat}
theorem run_V (C0 : Cx p s m args meth c cc nL own ret0 D tys) (hM : Met l y (Cond.code y bytes maxL ret :: GW) rm (cPre D tys L f (.ref b :: As)) Qc mc ms free) (hcode : Cond.code y bytes maxL ret ∈ GW) (hl : Cond.methodLink own index y ∈ GW) (hi : Cond.instanceMethod y ∈ GW) (hse : Cond.selects y.cls y y ∈ GW) (hini : Cond.initialized y.cls ∈ GW)
    (hd : y.cls ≠ "java/lang/invoke/MethodHandle" ∧ y.cls ≠ "java/lang/invoke/VarHandle" ∧ (parseMethodDescriptor y.desc).map (fun d => d.parameters.length) = some n) (hR : rm.frames + 1 ≤ R.frames ∧ 8 + (maxL + 11) + rm.locals ≤ R.locals) (hrc : rm.cells = mc) (hrs : rm.slots = ms) (hcs : cells + mc ≤ R.cells ∧ slots + ms ≤ R.slots)
    (hP : va_P D zCl (va_pl L f) H) (hb : b ∈ L) (hf : f b = .inr (ci, fs)) (hc : zCl[ci]? = some q) (hq : q.1 = y.cls) (hn : As.length = n) (hsize : ls.size = nL) (hst : st = As.reverse ++ .ref b :: rest) (hW : (rest.map fun v => v.category).sum ≤ 8) (hdg : decode cc pc = .ok (.invokevirtual index, 3)) :
    va_Run p l e R s m args below meth c H locs cells slots mc ms (F0 m pc ls st) rest (Qc (Value.ref b :: As).toArray) free := by
  obtain ⟨hx, hb', hml, hown, hg, -, -, hK, hN⟩ := C0
  obtain ⟨k, hk⟩ := mm_at hb hf
  exact va_runV (C := y.cls) (Ts := GW) (n := n) ⟨hx, hb', hml, hown, hg⟩ hM ⟨callB_of n hg (gw_in0 hcode) rfl hrc hrs (hg _ hini) (hg _ hl) hd hR, hg _ hi, hg _ hse⟩ ⟨cPre_blind, by rw [← hq]; exact va_recv hK hP hc hk, fun U hU hW => ⟨rfl, by rw [hU]; exact hP, va_K.moved hW.alike hK, hN.warm hW⟩⟩ rfl hn hsize hst (lv_room hW) hdg hcs
theorem run_VN (C0 : Cx p s m args meth c cc nL own ret0 D tys) (hM : Met l y (Cond.code y bytes maxL ret :: GW) rm (cPre D tys L f (.ref b :: As)) Qc mc ms free) (hcode : Cond.code y bytes maxL ret ∈ GW) (hl : Cond.methodLinkNest own index y host ∈ NXW) (hi : Cond.instanceMethod y ∈ GW) (hse : Cond.selects y.cls y y ∈ GW) (hini : Cond.initialized y.cls ∈ GW)
    (hd : y.cls ≠ "java/lang/invoke/MethodHandle" ∧ y.cls ≠ "java/lang/invoke/VarHandle" ∧ (parseMethodDescriptor y.desc).map (fun d => d.parameters.length) = some n) (hR : rm.frames + 1 ≤ R.frames ∧ 8 + (maxL + 11) + rm.locals ≤ R.locals) (hrc : rm.cells = mc) (hrs : rm.slots = ms) (hcs : cells + mc ≤ R.cells ∧ slots + ms ≤ R.slots)
    (hP : va_P D zCl (va_pl L f) H) (hb : b ∈ L) (hf : f b = .inr (ci, fs)) (hc : zCl[ci]? = some q) (hq : q.1 = y.cls) (hn : As.length = n) (hsize : ls.size = nL) (hst : st = As.reverse ++ .ref b :: rest) (hW : (rest.map fun v => v.category).sum ≤ 8) (hdg : decode cc pc = .ok (.invokevirtual index, 3)) :
    va_Run p l e R s m args below meth c H locs cells slots mc ms (F0 m pc ls st) rest (Qc (Value.ref b :: As).toArray) free := by
  obtain ⟨hx, hb', hml, hown, hg, -, -, hK, hN⟩ := C0
  obtain ⟨k, hk⟩ := mm_at hb hf
  exact va_runVN (C := y.cls) (Ts := GW) (n := n) ⟨hx, hb', hml, hown, hg⟩ hM ⟨va_cnB n hg (gw_in0 hcode) rfl hrc hrs (hN _ hl) (hg _ hini) hd hR, hg _ hi, hg _ hse⟩ ⟨cPre_blind, by rw [← hq]; exact va_recv hK hP hc hk, fun U hU hW => ⟨rfl, by rw [hU]; exact hP, va_K.moved hW.alike hK, hN.warm hW⟩⟩ rfl hn hsize hst (lv_room hW) hdg hcs
theorem run_S (C0 : Cx p s m args meth c cc nL own ret0 D tys) (hM : Met l y (Cond.code y bytes maxL ret :: GW) rm (cPre D tys L f As) Qc mc ms free) (hcode : Cond.code y bytes maxL ret ∈ GW) (hl : Cond.methodLink own index y ∈ GW) (hi : Cond.static y ∈ GW) (hini : Cond.initialized y.cls ∈ GW)
    (hd : y.cls ≠ "java/lang/invoke/MethodHandle" ∧ y.cls ≠ "java/lang/invoke/VarHandle" ∧ (parseMethodDescriptor y.desc).map (fun d => d.parameters.length) = some n) (hR : rm.frames + 1 ≤ R.frames ∧ 8 + (maxL + 11) + rm.locals ≤ R.locals) (hrc : rm.cells = mc) (hrs : rm.slots = ms) (hcs : cells + mc ≤ R.cells ∧ slots + ms ≤ R.slots)
    (hP : va_P D zCl (va_pl L f) H) (hn : As.length = n) (hsize : ls.size = nL) (hst : st = As.reverse ++ rest) (hW : (rest.map fun v => v.category).sum ≤ 8) (hdg : decode cc pc = .ok (.invokestatic index, 3)) :
    va_Run p l e R s m args below meth c H locs cells slots mc ms (F0 m pc ls st) rest (Qc As.toArray) free := by
  obtain ⟨hx, hb', hml, hown, hg, -, -, hK, hN⟩ := C0
  exact va_runS (Ts := GW) (n := n) ⟨hx, hb', hml, hown, hg⟩ hM ⟨callB_of n hg (gw_in0 hcode) rfl hrc hrs (hg _ hini) (hg _ hl) hd hR, hg _ hi⟩ ⟨cPre_blind, fun U hU hW => ⟨rfl, by rw [hU]; exact hP, va_K.moved hW.alike hK, hN.warm hW⟩⟩ rfl hn hsize hst (lv_room hW) hdg hcs
theorem run_SN (C0 : Cx p s m args meth c cc nL own ret0 D tys) (hM : Met l y (Cond.code y bytes maxL ret :: GW) rm (cPre D tys L f As) Qc mc ms free) (hcode : Cond.code y bytes maxL ret ∈ GW) (hl : Cond.methodLinkNest own index y host ∈ NXW) (hi : Cond.static y ∈ GW) (hini : Cond.initialized y.cls ∈ GW)
    (hd : y.cls ≠ "java/lang/invoke/MethodHandle" ∧ y.cls ≠ "java/lang/invoke/VarHandle" ∧ (parseMethodDescriptor y.desc).map (fun d => d.parameters.length) = some n) (hR : rm.frames + 1 ≤ R.frames ∧ 8 + (maxL + 11) + rm.locals ≤ R.locals) (hrc : rm.cells = mc) (hrs : rm.slots = ms) (hcs : cells + mc ≤ R.cells ∧ slots + ms ≤ R.slots)
    (hP : va_P D zCl (va_pl L f) H) (hn : As.length = n) (hsize : ls.size = nL) (hst : st = As.reverse ++ rest) (hW : (rest.map fun v => v.category).sum ≤ 8) (hdg : decode cc pc = .ok (.invokestatic index, 3)) :
    va_Run p l e R s m args below meth c H locs cells slots mc ms (F0 m pc ls st) rest (Qc As.toArray) free := by
  obtain ⟨hx, hb', hml, hown, hg, -, -, hK, hN⟩ := C0
  exact va_runSN (Ts := GW) (n := n) ⟨hx, hb', hml, hown, hg⟩ hM ⟨va_cnB n hg (gw_in0 hcode) rfl hrc hrs (hN _ hl) (hg _ hini) hd hR, hg _ hi, trivial⟩ ⟨cPre_blind, fun U hU hW => ⟨rfl, by rw [hU]; exact hP, va_K.moved hW.alike hK, hN.warm hW⟩⟩ rfl hn hsize hst (lv_room hW) hdg hcs
theorem then_i {A0 : Nat → Prop} {a : Array Value} {post : Int32 → (Nat → va_E) → Prop} (hr : va_Run p l e R s m args below meth c H locs cells slots 0 0 (F0 m pc ls st) rest (va_Qi post (cB D L) (inL L) a) (inL L)) (hS : va_S A0 H0 H locs) (hA : ∀ a ∈ L, A0 a)
    (kk : ∀ (r : Int32) (f' : Nat → va_E) (H1 : Heap) (locs1 : List Loc), post r f' → va_P D zCl (va_pl L f') H1 → va_S A0 H0 H1 locs1 → W p l e R s m args below meth c H1 locs1 cells slots Q (F0 m (pc + 3) ls (.int r :: rest))) : W p l e R s m args below meth c H locs cells slots Q (F0 m pc ls st) :=
  va_calli hr hS (fun q _ h => hA q h) (fun q h => hA q h) (fun r u t H1 locs1 ht _ hp hB _ _ hS' => kk r u H1 locs1 hp (by rw [← ht]; exact hB) hS')
theorem then_v {A0 : Nat → Prop} {a : Array Value} {post : (Nat → va_E) → Prop} (hr : va_Run p l e R s m args below meth c H locs cells slots 0 0 (F0 m pc ls st) rest (va_Qv post (cB D L) (inL L) a) (inL L)) (hS : va_S A0 H0 H locs) (hA : ∀ a ∈ L, A0 a)
    (kk : ∀ (f' : Nat → va_E) (H1 : Heap) (locs1 : List Loc), post f' → va_P D zCl (va_pl L f') H1 → va_S A0 H0 H1 locs1 → W p l e R s m args below meth c H1 locs1 cells slots Q (F0 m (pc + 3) ls rest)) : W p l e R s m args below meth c H locs cells slots Q (F0 m pc ls st) :=
  va_callv hr hS (fun q _ h => hA q h) (fun q h => hA q h) (fun u t H1 locs1 ht _ hp hB _ _ hS' => kk u H1 locs1 hp (by rw [← ht]; exact hB) hS')
end MC
