/-! Makers: memory that grows. -/
def aoL : List String := ["LiquidChecker$Function", "LiquidChecker$Known", "LiquidChecker$Statement"]
def Ao (U : State) : Prop := ∀ C ∈ aoL, va_AO C U
theorem Ao.moved {u U : State} (hvm : u.vm.Alike U.vm) (h : Ao u) : Ao U := fun C hC => va_AO.moved hvm (h C hC)
def gA (L : List Nat) (sz : Nat) : Nat → Prop := fun q => q ∈ L ∨ sz ≤ q
abbrev GU : Type := List Nat × (Nat → va_E) × List (ClassId × FieldType)
abbrev gB (D : va_G) : GU → State → Prop := fun u t => va_P D zCl (va_pl u.1 u.2.1) t.heap ∧ va_K D zCl u.2.2 t
def gPre (D : va_G) (tys : List (ClassId × FieldType)) (L : List Nat) (f : Nat → va_E) (sz : Nat) (av : List Value) : Array Value → State → Prop := va_Pc av (fun U => U.heap.size = sz ∧ va_P D zCl (va_pl L f) U.heap ∧ va_K D zCl tys U ∧ Nx U ∧ Ao U)
theorem gPre_blind {D : va_G} {tys : List (ClassId × FieldType)} {L : List Nat} {f : Nat → va_E} {sz : Nat} {av : List Value} : FrameBlind (gPre D tys L f sz av) := fun a U g mk q => by
  obtain ⟨q0, qz, qP, qK, qN, qA⟩ := q
  exact ⟨q0, qz, qP, va_K.moved (u := U) (U := U.calling g mk a) (Vm.Alike.refl U.vm) qK, Nx.same (u := U) (U := U.calling g mk a) rfl qN, Ao.moved (u := U) (U := U.calling g mk a) (Vm.Alike.refl U.vm) qA⟩
/-- a memory that has grown: what was there is there, and as it was but at h; what is new lies behind sz -/
def Gro (L : List Nat) (f : Nat → va_E) (tys : List (ClassId × FieldType)) (h sz : Nat) (u : GU) : Prop := u.1.Nodup ∧ (∀ a ∈ u.1, gA L sz a) ∧ (∀ a ∈ L, a ∈ u.1 ∧ (a ≠ h → u.2.1 a = f a)) ∧ ∀ q ∈ tys, q ∈ u.2.2
abbrev MetG (l : Launch) (y : MethodName) (ws : List Cond) (rm : Room) (D : va_G) (tys : List (ClassId × FieldType)) (L : List Nat) (f : Nat → va_E) (sz h : Nat) (post : GU → Prop) (mc ms : Nat) : Prop := Met l y ws rm (gPre D tys L f sz [.ref h]) (va_Qv (fun u => Gro L f tys h sz u ∧ post u) (gB D) (gA L sz)) mc ms (gA L sz)
theorem Gro.rfl2 {L : List Nat} {f : Nat → va_E} {tys : List (ClassId × FieldType)} {h sz : Nat} (hn : L.Nodup) : Gro L f tys h sz (L, f, tys) := ⟨hn, fun _ ha => Or.inl ha, fun _ ha => ⟨ha, fun _ => rfl⟩, fun _ hq => hq⟩
theorem mg_nd {L : List Nat} {q : Nat} (hn : L.Nodup) (hq : q ∉ L) : (L ++ [q]).Nodup := List.nodup_append.mpr ⟨hn, List.nodup_cons.mpr ⟨List.not_mem_nil, List.nodup_nil⟩, fun a ha b hb e => by
  rcases List.mem_cons.mp hb with h | h
  · exact hq (by rw [← h, ← e]; exact ha)
  · cases h⟩
theorem Gro.new {L0 : List Nat} {f0 : Nat → va_E} {tys0 : List (ClassId × FieldType)} {h sz q : Nat} {L : List Nat} {f : Nat → va_E} {tys : List (ClassId × FieldType)} {x : va_E} (hG : Gro L0 f0 tys0 h sz (L, f, tys)) (hq : q ∉ L) (hA : gA L0 sz q) : Gro L0 f0 tys0 h sz (L ++ [q], va_up f q x, tys) := by
  obtain ⟨h1, h2, h3, h4⟩ := hG
  refine ⟨mg_nd h1 hq, fun a ha => ?_, fun a ha => ⟨List.mem_append_left _ (h3 a ha).1, fun hne => ?_⟩, h4⟩
  · rcases List.mem_append.mp ha with h9 | h9
    · exact h2 a h9
    · rw [List.mem_singleton.mp h9]; exact hA
  · show va_up f q x a = f0 a
    have ha2 : a ∈ L := (h3 a ha).1
    rw [va_up_ne _ _ (show a ≠ q from fun e => hq (e ▸ ha2))]
    exact (h3 a ha).2 hne
theorem Gro.ty {L0 : List Nat} {f0 : Nat → va_E} {tys0 : List (ClassId × FieldType)} {h sz : Nat} {L : List Nat} {f : Nat → va_E} {tys t2 : List (ClassId × FieldType)} (hG : Gro L0 f0 tys0 h sz (L, f, tys)) : Gro L0 f0 tys0 h sz (L, f, tys ++ t2) := ⟨hG.1, hG.2.1, hG.2.2.1, fun q hq => List.mem_append_left _ (hG.2.2.2 q hq)⟩
/-- a cell that was not there at the beginning, or h itself, is written -/
theorem Gro.put {L0 : List Nat} {f0 f' : Nat → va_E} {tys0 : List (ClassId × FieldType)} {h sz x : Nat} {L : List Nat} {f : Nat → va_E} {tys : List (ClassId × FieldType)} (hG : Gro L0 f0 tys0 h sz (L, f, tys)) (hx : x = h ∨ x ∉ L0) (hs : Same1 f f' x) : Gro L0 f0 tys0 h sz (L, f', tys) := by
  obtain ⟨h1, h2, h3, h4⟩ := hG
  refine ⟨h1, h2, fun a ha => ⟨(h3 a ha).1, fun hne => ?_⟩, h4⟩
  show f' a = f0 a
  rw [hs a (fun e => by rcases hx with h9 | h9; exact hne (e.trans h9); exact h9 (e ▸ ha))]
  exact (h3 a ha).2 hne
/-- a callee's growth is ours, where its object is new, or our own -/
theorem Gro.call {L0 : List Nat} {f0 : Nat → va_E} {tys0 : List (ClassId × FieldType)} {h sz c sz2 : Nat} {L : List Nat} {f : Nat → va_E} {tys : List (ClassId × FieldType)} {u : GU} (hG : Gro L0 f0 tys0 h sz (L, f, tys)) (hc : c ∉ L0) (hz : sz ≤ sz2) (h2 : Gro L f tys c sz2 u) : Gro L0 f0 tys0 h sz u := by
  obtain ⟨a1, a2, a3, a4⟩ := hG
  obtain ⟨b1, b2, b3, b4⟩ := h2
  refine ⟨b1, fun a ha => ?_, fun a ha => ⟨(b3 a (a3 a ha).1).1, fun hne => ?_⟩, fun q hq => b4 q (a4 q hq)⟩
  · rcases b2 a ha with h9 | h9
    · exact a2 a h9
    · exact Or.inr (Nat.le_trans hz h9)
  · rw [(b3 a (a3 a ha).1).2 (fun e => hc (e ▸ ha))]
    exact (a3 a ha).2 hne
abbrev Ci (p : Program) (s : State) (m : MethodId) (args : Array Value) (meth : Method) (c : Code) (cc : ByteArray) (nL : Nat) (own : String) : Prop :=
  p.tables.exec = Jvm.exec ∧ c.code = cc ∧ c.maxLocals = nL ∧ s.vm.findClass own = some m.cls ∧ (∀ w ∈ GW, w.before args s = true) ∧ meth.sig.returnType = none ∧ meth.locks = false ∧ meth.name = "<init>" ∧ Nx s ∧ Ao s
theorem metg_of {l : Launch} {y : MethodName} {cc : ByteArray} {maxL : Nat} {rm : Room} {D : va_G} {tys : List (ClassId × FieldType)} {L : List Nat} {f : Nat → va_E} {sz h : Nat} {Qc : Array Value → State → Outcome → State → Prop} {mc ms : Nat} (own : String) (hy : plainName y.cls = true) (hcls : y.cls = own) (hnm : y.name = "<init>") (hlen : (lg_sl [Value.ref h]).length ≤ maxL)
    (body : ∀ (p : Program) (e : Env) (s : State) (m : MethodId) (below : List Frame) (meth : Method) (c : Code) (ls : Array Slot), Ci p s m #[.ref h] meth c cc maxL own → s.heap.size = sz → va_K D zCl tys s → va_P D zCl (va_pl L f) s.heap → lv_has ls maxL (lv_args 0 [.ref h]) → W p l e rm s m #[.ref h] below meth c s.heap [] 0 0 (MQ below Qc #[.ref h] s mc ms (gA L sz)) (F0 m 0 ls [])) :
    Met l y (Cond.code y cc maxL none :: GW) rm (gPre D tys L f sz [.ref h]) Qc mc ms (gA L sz) := by
  refine Met.ofW (cc := cc) (maxL := maxL) (ret := none) hy rfl ?_
  intro p e s m args below meth c s₁ B hml hv
  obtain ⟨rfl, hz, hP, hK, hN, hAo⟩ := hv
  have hts := atoms_spec (ws := Cond.code y cc maxL none :: GW) B.pre
  rw [lg_entry_eq]
  exact body p e s m below meth c _ ⟨B.exec, B.bytes, hml, by rw [← hcls]; exact findClass_of_methodNamed B.named, fun w h => hts w (List.mem_cons_of_mem _ h), B.returns, B.notSynchronized, by rw [← hnm]; exact (name_of_methodNamed B.named B.method).1, hN, hAo⟩ hz hK hP (lv_entry [.ref h] hlen)
section MG
variable {p : Program} {l : Launch} {e : Env} {R : Room} {s : State} {m : MethodId} {args : Array Value} {below : List Frame} {meth : Method} {c : Code} {H : Heap} {locs : List Loc} {cells slots : Nat} {Q : State → Prop}
variable {cc : ByteArray} {pc nL : Nat} {own : String} {ls : Array Slot} {rest : List Value} {D : va_G} {A : Nat → Prop} {a : Nat} {tys : List (ClassId × FieldType)} {H0 : Heap} {L : List Nat} {f : Nat → va_E}
theorem mg_fresh {q : Nat} {x : va_E} (h : va_D A (va_pl L f ++ [(q, x)])) : q ∉ L ∧ A q := by
  have e0 : (va_pl L f ++ [(q, x)])[(va_pl L f).length]? = some (q, x) := by rw [List.getElem?_append_right (Nat.le_refl _), Nat.sub_self]; rfl
  refine ⟨fun hq => ?_, h.2 _ _ e0⟩
  obtain ⟨k, hk⟩ := mm_at (f := f) hq rfl
  have hl : k < (va_pl L f).length := (List.getElem?_eq_some_iff.mp hk).1
  have e1 : (va_pl L f ++ [(q, x)])[k]? = some (q, f q) := by rw [List.getElem?_append_left hl]; exact hk
  have := h.1 _ _ _ _ e1 e0 rfl
  omega
theorem mg_new (hexec : p.tables.exec = Jvm.exec) (hb : c.code = cc) {C : String} {T : u_T} {N ci index : Nat} {Ts : List Cond} (hts : ∀ w ∈ Ts, w.before args s = true) (hin : ∀ w ∈ u_ws C T N, w ∈ Ts) (ty : Nat → FieldType) (hty : ∀ k, k < N → parseFieldDescriptor (T k).2.2.1 = some (ty k)) (hown : s.vm.findClass own = some m.cls) (hcl : (Cond.classLink own index C).before args s = true) (hinst : (Cond.instantiable C N).before args s = true) (hini : (Cond.initialized C).before args s = true)
    (hK : va_K D zCl tys s) (hP : va_P D zCl (va_pl L f) H) (hn : L.Nodup) (hA : ∀ a ∈ L, A a) (hS : va_S A H0 H locs) (hA0 : ∀ q, H0.size ≤ q → A q) (hc : zCl[ci]? = some (C, T, N)) {fs : List Value} (hfs : ∀ j, j < N → defaultValue (ty j) = vp_V fs j) (hcells : cells + 1 ≤ R.cells) (hslots : slots + N ≤ R.slots) (hdg : decode cc pc = .ok (.new index, 3))
    (kk : ∀ (q : Nat) (H1 : Heap), q ∉ L → A q → va_P D zCl (va_pl (L ++ [q]) (va_up f q (.inr (ci, fs)))) H1 → va_S A H0 H1 locs → W p l e R s m args below meth c H1 locs (cells + 1) (slots + N) Q (F0 m (pc + 3) ls (.ref q :: rest))) : W p l e R s m args below meth c H locs cells slots Q (F0 m pc ls rest) := by
  refine va_new hexec hb hts hin ty hty hown hcl hinst hini hK hP (mm_D hn hA) hS hA0 hc hfs hcells hslots hdg (fun q H1 p1 p2 p3 => ?_)
  obtain ⟨q1, q2⟩ := mg_fresh p2
  rw [va_pl_push q1] at p1
  exact kk q H1 q1 q2 p1 p3
theorem mg_newa (hexec : p.tables.exec = Jvm.exec) (hb : c.code = cc) {atype : ArrayType} (harr : (Cond.arrayClass (newarray.typeOf atype)).before args s = true) {ty : FieldType} (hty : newarray.typeOf atype = ty) (hK : va_K D zCl tys s) (hP : va_P D zCl (va_pl L f) H) (hn : L.Nodup) (hA : ∀ a ∈ L, A a) (hS : va_S A H0 H locs) (hA0 : ∀ q, H0.size ≤ q → A q)
    {n : Int32} {N' : Nat} {a0 : vp_A} (ha : ∀ cA : ClassId, vp_cell cA a0 = arrV cA N' (fun _ => defaultValue ty)) (hn0 : ¬ n < 0) (hN : n.toNatClampNeg = N') (hbytes : N' * componentBytes ty ≤ 536870912) (hcells : cells + 1 ≤ R.cells) (hslots : slots + N' ≤ R.slots) (hdg : decode cc pc = .ok (.newarray atype, 2))
    (kk : ∀ (q : Nat) (cA : ClassId) (H1 : Heap), q ∉ L → A q → va_K D zCl (tys ++ [(cA, ty)]) s → va_P D zCl (va_pl (L ++ [q]) (va_up f q (.inl (cA, a0)))) H1 → va_S A H0 H1 locs →
      W p l e R s m args below meth c H1 locs (cells + 1) (slots + N') Q (F0 m (pc + 2) ls (.ref q :: rest))) : W p l e R s m args below meth c H locs cells slots Q (F0 m pc ls (.int n :: rest)) := by
  refine va_newa hexec hb harr hty hK hP (mm_D hn hA) hS hA0 ha hn0 hN hbytes hcells hslots hdg (fun q cA H1 p0 p1 p2 p3 => ?_)
  obtain ⟨q1, q2⟩ := mg_fresh p2
  rw [va_pl_push q1] at p1
  exact kk q cA H1 q1 q2 p0 p1 p3
theorem mg_newq (hexec : p.tables.exec = Jvm.exec) (hb : c.code = cc) {C : String} {index : Nat} (hown : s.vm.findClass own = some m.cls) (hclink : (Cond.classLink own index C).before args s = true) (hover : va_AO C s) (hK : va_K D zCl tys s) (hP : va_P D zCl (va_pl L f) H) (hn : L.Nodup) (hA : ∀ a ∈ L, A a) (hS : va_S A H0 H locs) (hA0 : ∀ q, H0.size ≤ q → A q)
    {n : Int32} {N' : Nat} (hn0 : ¬ n < 0) (hN : n.toNatClampNeg = N') (hbytes : N' * 4 ≤ 536870912) (hcells : cells + 1 ≤ R.cells) (hslots : slots + N' ≤ R.slots) (hdg : decode cc pc = .ok (.anewarray index, 3))
    (kk : ∀ (q : Nat) (cA : ClassId) (H1 : Heap), q ∉ L → A q → va_K D zCl (tys ++ [(cA, .object C)]) s → va_P D zCl (va_pl (L ++ [q]) (va_up f q (.inl (cA, N', .inr (.inr (.inr (.inr (fun _ => none)))))))) H1 → va_S A H0 H1 locs →
      W p l e R s m args below meth c H1 locs (cells + 1) (slots + N') Q (F0 m (pc + 3) ls (.ref q :: rest))) : W p l e R s m args below meth c H locs cells slots Q (F0 m pc ls (.int n :: rest)) := by
  refine va_newq hexec hb hown hclink hover hK hP (mm_D hn hA) hS hA0 hn0 hN hbytes hcells hslots hdg (fun q cA H1 p0 p1 p2 p3 => ?_)
  obtain ⟨q1, q2⟩ := mg_fresh p2
  rw [va_pl_push q1] at p1
  exact kk q cA H1 q1 q2 p0 p1 p3
theorem mg_putF (hexec : p.tables.exec = Jvm.exec) (hb : c.code = cc) {ref C : String} {T : u_T} {N ci index : Nat} {Ts : List Cond} (hts : ∀ w ∈ Ts, w.before args s = true) (hin : ∀ w ∈ u_ws C T N, w ∈ Ts) (ty0 : Nat → FieldType) (hty : ∀ k, k < N → parseFieldDescriptor (T k).2.2.1 = some (ty0 k)) (hnm : ∀ a, a < N → ∀ b, b < N → a ≠ b → (T a).2.1 ≠ (T b).2.1) (hown : s.vm.findClass own = some m.cls) (hK : va_K D zCl tys s) (hn : L.Nodup) (hA : ∀ a ∈ L, A a) (hP : va_P D zCl (va_pl L f) H) (hS0 : va_S A H0 H locs) {fs : List Value} (ha : a ∈ L) (hf : f a = .inr (ci, fs)) (hc : zCl[ci]? = some (C, T, N)) (k : Nat) (hk : k < N) (hlink : (Cond.fieldLink own index ref (T k).2.1 (T k).2.2.1).before args s = true) (hsame : ∀ x, s.fieldFound? (T k).1 (T k).2.1 (T k).2.2.1 = some x → s.fieldFound? ref (T k).2.1 (T k).2.2.1 = some x) (hfin : (T k).2.2.2 = true) (hin2 : meth.name = "<init>") (hdecl : (T k).1 = own) {ty : FieldType} {v : Value} (hd : parseFieldDescriptor (T k).2.2.1 = some ty) (hn0 : narrow ty v = v) (hfit : fits ty v = true) (hl : k < fs.length)
    (hdg : decode cc pc = .ok (.putfield index, 3)) (kk : ∀ (H1 : Heap) (locs1 : List Loc), va_P D zCl (va_pl L (va_up f a (.inr (ci, fs.set k v)))) H1 → va_S A H0 H1 locs1 → W p l e R s m args below meth c H1 locs1 cells slots Q (F0 m (pc + 3) ls rest)) : W p l e R s m args below meth c H locs cells slots Q (F0 m pc ls (v :: .ref a :: rest)) := by
  obtain ⟨q0, hq⟩ := mm_at ha hf
  have hD : va_D A (va_pl L f) := mm_D hn hA
  refine va_putF hexec hb hts hin ty0 hty hnm hown hK hP hD hS0 q0 hq hc k hk hlink hsame hfin hin2 hdecl hd hn0 hfit hl hdg (fun H1 locs1 h1 _ h3 => kk H1 locs1 ?_ h3)
  rw [← mm_set hD ha hf hq]
  exact h1
theorem mg_astq (hexec : p.tables.exec = Jvm.exec) (hb : c.code = cc) (hK : va_K D zCl tys s) (hn : L.Nodup) (hA : ∀ a ∈ L, A a) (hP : va_P D zCl (va_pl L f) H) (hS : va_S A H0 H locs) {C : String} {r : vw_C} {n v ci : Nat} {vs : List Value} {g : Nat → Option Nat} (ha : a ∈ L) (hf : mm_Q tys r.1 f a n g) (hv : v ∈ L) (hfv : f v = .inr (ci, vs)) (hc : zCl[ci]? = some r) {i : Int32} (hin : vp_in i n) (hdg : decode cc pc = .ok (.aastore, 1))
    (kk : ∀ (H1 : Heap) (locs1 : List Loc), va_P D zCl (va_pl L (mm_sq f a (va_up g i.toNatClampNeg (some v)))) H1 → va_S A H0 H1 locs1 → W p l e R s m args below meth c H1 locs1 cells slots Q (F0 m (pc + 1) ls rest)) : W p l e R s m args below meth c H locs cells slots Q (F0 m pc ls (.ref v :: .int i :: .ref a :: rest)) := by
  obtain ⟨cA, h1, h2⟩ := hf
  obtain ⟨q0, hq⟩ := mm_at ha h1
  obtain ⟨qk, hqk⟩ := mm_at hv hfv
  obtain ⟨t0, ht⟩ := List.getElem?_of_mem h2
  have hD : va_D A (va_pl L f) := mm_D hn hA
  refine va_astq hexec hb hK hP hD hS q0 t0 qk ci hq ht hqk hc hin hdg (fun H1 locs1 p1 _ p3 => kk H1 locs1 ?_ p3)
  rw [mm_sq_eq h1, ← mm_set hD ha h1 hq]
  exact p1
variable {y : MethodName} {bytes : ByteArray} {maxL n index ci : Nat} {rm : Room} {Qc : Array Value → State → Outcome → State → Prop} {free : Addr → Prop} {b : Addr} {fs : List Value} {host : String} {st : List Value} {mc ms : Nat}
theorem run_I (C0 : Ci p s m args meth c cc nL own) (hK : va_K D zCl tys s) (hM : Met l y (Cond.code y bytes maxL none :: GW) rm (gPre D tys L f H.size [.ref b]) Qc mc ms free) (hcode : Cond.code y bytes maxL none ∈ GW) (hl : Cond.methodLink own index y ∈ GW) (hi : Cond.instanceMethod y ∈ GW) (hini : Cond.initialized y.cls ∈ GW) (hyn : y.name = "<init>")
    (hd : y.cls ≠ "java/lang/invoke/MethodHandle" ∧ y.cls ≠ "java/lang/invoke/VarHandle" ∧ (parseMethodDescriptor y.desc).map (fun d => d.parameters.length) = some 0) (hR : rm.frames + 1 ≤ R.frames ∧ 8 + (maxL + 11) + rm.locals ≤ R.locals) (hrc : rm.cells = mc) (hrs : rm.slots = ms) (hcs : cells + mc ≤ R.cells ∧ slots + ms ≤ R.slots)
    (hP : va_P D zCl (va_pl L f) H) (hsize : ls.size = nL) (hst : st = .ref b :: rest) (hW : (rest.map fun v => v.category).sum ≤ 8) (hdg : decode cc pc = .ok (.invokespecial index, 3)) :
    va_Run p l e R s m args below meth c H locs cells slots mc ms (F0 m pc ls st) rest (Qc [Value.ref b].toArray) free := by
  obtain ⟨hx, hb', hml, hown, hg, -, -, -, hN, hAo⟩ := C0
  exact va_runI (As := []) (Ts := GW) (n := 0) ⟨hx, hb', hml, hown, hg⟩ hM (cwI 0 hg (gw_in0 hcode) rfl hrc hrs (hg _ hini) (hg _ hl) (hg _ hi) hyn hd hR) ⟨gPre_blind, fun U hU hW => ⟨rfl, by rw [hU], by rw [hU]; exact hP, va_K.moved hW.alike hK, hN.warm hW, hAo.moved hW.alike⟩⟩ rfl rfl hsize hst (lv_room hW) hdg hcs
theorem run_IN (C0 : Ci p s m args meth c cc nL own) (hK : va_K D zCl tys s) (hM : Met l y (Cond.code y bytes maxL none :: GW) rm (gPre D tys L f H.size [.ref b]) Qc mc ms free) (hcode : Cond.code y bytes maxL none ∈ GW) (hl : Cond.methodLinkNest own index y host ∈ NXW) (hi : Cond.instanceMethod y ∈ GW) (hini : Cond.initialized y.cls ∈ GW) (hyn : y.name = "<init>")
    (hd : y.cls ≠ "java/lang/invoke/MethodHandle" ∧ y.cls ≠ "java/lang/invoke/VarHandle" ∧ (parseMethodDescriptor y.desc).map (fun d => d.parameters.length) = some 0) (hR : rm.frames + 1 ≤ R.frames ∧ 8 + (maxL + 11) + rm.locals ≤ R.locals) (hrc : rm.cells = mc) (hrs : rm.slots = ms) (hcs : cells + mc ≤ R.cells ∧ slots + ms ≤ R.slots)
    (hP : va_P D zCl (va_pl L f) H) (hsize : ls.size = nL) (hst : st = .ref b :: rest) (hW : (rest.map fun v => v.category).sum ≤ 8) (hdg : decode cc pc = .ok (.invokespecial index, 3)) :
    va_Run p l e R s m args below meth c H locs cells slots mc ms (F0 m pc ls st) rest (Qc [Value.ref b].toArray) free := by
  obtain ⟨hx, hb', hml, hown, hg, -, -, -, hN, hAo⟩ := C0
  exact va_runIN (As := []) (Ts := GW) (n := 0) ⟨hx, hb', hml, hown, hg⟩ hM ⟨va_cnB 0 hg (gw_in0 hcode) rfl hrc hrs (hN _ hl) (hg _ hini) hd hR, hyn, hg _ hi⟩ ⟨gPre_blind, fun U hU hW => ⟨rfl, by rw [hU], by rw [hU]; exact hP, va_K.moved hW.alike hK, hN.warm hW, hAo.moved hW.alike⟩⟩ rfl rfl hsize hst (lv_room hW) hdg hcs
theorem then_g {post : GU → Prop} {a : Array Value} (hr : va_Run p l e R s m args below meth c H locs cells slots mc ms (F0 m pc ls st) rest (va_Qv post (gB D) (gA L H.size) a) (gA L H.size)) (hS : va_S A H0 H locs) (hA : ∀ a ∈ L, A a) (hA0 : ∀ q, H0.size ≤ q → A q)
    (kk : ∀ (u : GU) (H1 : Heap) (locs1 : List Loc), post u → H.size ≤ H1.size → va_P D zCl (va_pl u.1 u.2.1) H1 → va_K D zCl u.2.2 s → va_S A H0 H1 locs1 → W p l e R s m args below meth c H1 locs1 (cells + mc) (slots + ms) Q (F0 m (pc + 3) ls rest)) : W p l e R s m args below meth c H locs cells slots Q (F0 m pc ls st) := by
  have hA9 : ∀ q, gA L H.size q → A q := fun q h => h.elim (hA q) (fun h9 => hA0 q (Nat.le_trans hS.1 h9))
  exact va_callv hr hS (fun q _ h => hA9 q h) (fun q h => hA9 q h) (fun u t H1 locs1 ht hvm hp hB hz _ hS' => kk u H1 locs1 hp hz (by rw [← ht]; exact hB.1) (va_K.moved hvm.symm hB.2) hS')
theorem ret_g (C0 : Ci p s m args meth c cc nL own) {post : GU → Prop} {sz : Nat} {L0 : List Nat} (hK : va_K D zCl tys s) (hP : va_P D zCl (va_pl L f) H) (hS : va_S (gA L0 sz) s.heap H locs) (hp : post (L, f, tys)) (hdg : decode cc pc = .ok (.return_, 1)) : W p l e R s m args below meth c H locs mc ms (MQ below (va_Qv post (gB D) (gA L0 sz)) args s mc ms (gA L0 sz)) (F0 m pc ls []) := by
  obtain ⟨hx, hb, -, -, -, hr, hlocks, -, -, -⟩ := C0
  exact W.vret hx hb hr (fun t ht hW => ⟨⟨(L, f, tys), rfl, hp, by show va_P D zCl (va_pl L f) t.heap; rw [ht]; exact hP, va_K.moved hW.alike hK⟩, hS.F ht⟩) hS.2.2 hdg
end MG
theorem mm_I.more {tys t2 : List (ClassId × FieldType)} {f : Nat → va_E} {a n : Nat} {g : Nat → Int32} (h : mm_I tys f a n g) (hs : ∀ q ∈ tys, q ∈ t2) : mm_I t2 f a n g := by
  obtain ⟨cA, h1, h2⟩ := h
  exact ⟨cA, h1, hs _ h2⟩
theorem mm_J.more {tys t2 : List (ClassId × FieldType)} {f : Nat → va_E} {a n : Nat} {g : Nat → Int64} (h : mm_J tys f a n g) (hs : ∀ q ∈ tys, q ∈ t2) : mm_J t2 f a n g := by
  obtain ⟨cA, h1, h2⟩ := h
  exact ⟨cA, h1, hs _ h2⟩
theorem mm_Z.more {tys t2 : List (ClassId × FieldType)} {f : Nat → va_E} {a n : Nat} {g : Nat → Int32} (h : mm_Z tys f a n g) (hs : ∀ q ∈ tys, q ∈ t2) : mm_Z t2 f a n g := by
  obtain ⟨cA, h1, h2⟩ := h
  exact ⟨cA, h1, hs _ h2⟩
theorem mm_Q.more {tys t2 : List (ClassId × FieldType)} {C : String} {f : Nat → va_E} {a n : Nat} {g : Nat → Option Nat} (h : mm_Q tys C f a n g) (hs : ∀ q ∈ tys, q ∈ t2) : mm_Q t2 C f a n g := by
  obtain ⟨cA, h1, h2⟩ := h
  exact ⟨cA, h1, hs _ h2⟩
