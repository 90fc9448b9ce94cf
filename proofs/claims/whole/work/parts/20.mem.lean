/-! Memory: the cells at the addresses of a list L hold what f says of each address. Rows of the kit over such a world. -/
theorem mm_D {A : Nat → Prop} {L : List Nat} {f : Nat → va_E} (hn : L.Nodup) (hA : ∀ a ∈ L, A a) : va_D A (va_pl L f) := by
  have hg : ∀ (i : Nat) (p : Nat × va_E), (va_pl L f)[i]? = some p → L[i]? = some p.1 := by
    intro i p h
    unfold va_pl at h
    rw [List.getElem?_map] at h
    cases e : L[i]? with
    | none => rw [e] at h; cases h
    | some a => rw [e] at h; cases h; rfl
  refine ⟨fun i j p q hp hq e => ?_, fun k q hk => hA _ (List.mem_of_getElem? (hg k q hk))⟩
  have h1 := hg i p hp
  have h2 := hg j q hq
  have hi : i < L.length := (List.getElem?_eq_some_iff.mp h1).1
  exact (List.getElem?_inj hi hn).mp (by rw [h1, h2, e])
theorem mm_at {L : List Nat} {f : Nat → va_E} {a : Nat} {x : va_E} (h : a ∈ L) (hf : f a = x) : ∃ k : Nat, (va_pl L f)[k]? = some (a, x) := by
  subst hf
  exact va_pl_get (X := []) h
theorem mm_set {A : Nat → Prop} {L : List Nat} {f : Nat → va_E} {a k : Nat} {x y : va_E} (hD : va_D A (va_pl L f)) (h : a ∈ L) (hf : f a = x) (hk : (va_pl L f)[k]? = some (a, x)) : (va_pl L f).set k (a, y) = va_pl L (va_up f a y) := by
  subst hf
  exact va_pl_set (X := []) hD h hk
/-- an array of ints at an address; an array of references -/
def mm_I (tys : List (ClassId × FieldType)) (f : Nat → va_E) (a n : Nat) (g : Nat → Int32) : Prop := ∃ cA, f a = .inl (cA, n, .inl g) ∧ (cA, FieldType.int) ∈ tys
def mm_Q (tys : List (ClassId × FieldType)) (C : String) (f : Nat → va_E) (a n : Nat) (g : Nat → Option Nat) : Prop := ∃ cA, f a = .inl (cA, n, .inr (.inr (.inr (.inr g)))) ∧ (cA, FieldType.object C) ∈ tys
def mm_si (f : Nat → va_E) (a : Nat) (g : Nat → Int32) : Nat → va_E := va_up f a (match f a with
  | .inl (cA, n, _) => .inl (cA, n, .inl g)
  | x => x)
def mm_sq (f : Nat → va_E) (a : Nat) (g : Nat → Option Nat) : Nat → va_E := va_up f a (match f a with
  | .inl (cA, n, _) => .inl (cA, n, .inr (.inr (.inr (.inr g))))
  | x => x)
theorem mm_si_eq {f : Nat → va_E} {a n : Nat} {cA : ClassId} {g g' : Nat → Int32} (h : f a = .inl (cA, n, .inl g)) : mm_si f a g' = va_up f a (.inl (cA, n, .inl g')) := by
  unfold mm_si
  rw [h]
theorem mm_sq_eq {f : Nat → va_E} {a n : Nat} {cA : ClassId} {g g' : Nat → Option Nat} (h : f a = .inl (cA, n, .inr (.inr (.inr (.inr g))))) : mm_sq f a g' = va_up f a (.inl (cA, n, .inr (.inr (.inr (.inr g'))))) := by
  unfold mm_sq
  rw [h]
theorem mm_I.set {tys : List (ClassId × FieldType)} {f : Nat → va_E} {a n : Nat} {g g' : Nat → Int32} (h : mm_I tys f a n g) : mm_I tys (mm_si f a g') a n g' := by
  obtain ⟨cA, h1, h2⟩ := h
  exact ⟨cA, by rw [mm_si_eq h1, va_up_self], h2⟩
theorem mm_Q.set {tys : List (ClassId × FieldType)} {C : String} {f : Nat → va_E} {a n : Nat} {g g' : Nat → Option Nat} (h : mm_Q tys C f a n g) : mm_Q tys C (mm_sq f a g') a n g' := by
  obtain ⟨cA, h1, h2⟩ := h
  exact ⟨cA, by rw [mm_sq_eq h1, va_up_self], h2⟩
theorem mm_si_ne {f : Nat → va_E} {a b : Nat} {g : Nat → Int32} (h : b ≠ a) : mm_si f a g b = f b := va_up_ne _ _ h
theorem mm_sq_ne {f : Nat → va_E} {a b : Nat} {g : Nat → Option Nat} (h : b ≠ a) : mm_sq f a g b = f b := va_up_ne _ _ h
theorem mm_I.eq {tys : List (ClassId × FieldType)} {f f' : Nat → va_E} {a n : Nat} {g : Nat → Int32} (h : mm_I tys f a n g) (e : f' a = f a) : mm_I tys f' a n g := by
  obtain ⟨cA, h1, h2⟩ := h
  exact ⟨cA, by rw [e]; exact h1, h2⟩
theorem mm_Q.eq {tys : List (ClassId × FieldType)} {C : String} {f f' : Nat → va_E} {a n : Nat} {g : Nat → Option Nat} (h : mm_Q tys C f a n g) (e : f' a = f a) : mm_Q tys C f' a n g := by
  obtain ⟨cA, h1, h2⟩ := h
  exact ⟨cA, by rw [e]; exact h1, h2⟩
theorem mm_IO {tys : List (ClassId × FieldType)} {f : Nat → va_E} {a b n ci : Nat} {fs : List Value} {g : Nat → Int32} (h : mm_I tys f a n g) (h2 : f b = .inr (ci, fs)) : b ≠ a := by
  rintro rfl
  obtain ⟨cA, h1, -⟩ := h
  rw [h1] at h2
  cases h2
theorem mm_QO {tys : List (ClassId × FieldType)} {C : String} {f : Nat → va_E} {a b n ci : Nat} {fs : List Value} {g : Nat → Option Nat} (h : mm_Q tys C f a n g) (h2 : f b = .inr (ci, fs)) : b ≠ a := by
  rintro rfl
  obtain ⟨cA, h1, -⟩ := h
  rw [h1] at h2
  cases h2
section MM
variable {p : Program} {l : Launch} {e : Env} {R : Room} {s : State} {m : MethodId} {args : Array Value} {below : List Frame} {meth : Method} {c : Code} {H : Heap} {locs : List Loc} {cells slots : Nat} {Q : State → Prop}
variable {cc : ByteArray} {pc : Nat} {ls : Array Slot} {rest : List Value} {D : va_G} {cl : List vw_C} {A : Nat → Prop} {a : Nat} {tys : List (ClassId × FieldType)} {H0 : Heap} {L : List Nat} {f : Nat → va_E}
theorem mm_get (hexec : p.tables.exec = Jvm.exec) (hb : c.code = cc) {own ref C : String} {T : u_T} {N ci index : Nat} {Ts : List Cond} (hts : ∀ w ∈ Ts, w.before args s = true) (hin : ∀ w ∈ u_ws C T N, w ∈ Ts) (hown : s.vm.findClass own = some m.cls) (hK : va_K D cl tys s) (hP : va_P D cl (va_pl L f) H) {fs : List Value} (ha : a ∈ L) (hf : f a = .inr (ci, fs)) (hc : cl[ci]? = some (C, T, N)) (k : Nat) (hk : k < N) (hlink : (Cond.fieldLink own index ref (T k).2.1 (T k).2.2.1).before args s = true) (hsame : ∀ x, s.fieldFound? (T k).1 (T k).2.1 (T k).2.2.1 = some x → s.fieldFound? ref (T k).2.1 (T k).2.2.1 = some x) {v : Value} (hv : fs[k]? = some v) (hdg : decode cc pc = .ok (.getfield index, 3))
    (kk : W p l e R s m args below meth c H locs cells slots Q (F0 m (pc + 3) ls (v :: rest))) : W p l e R s m args below meth c H locs cells slots Q (F0 m pc ls (.ref a :: rest)) := by
  obtain ⟨q0, hq⟩ := mm_at ha hf
  exact va_get hexec hb hts hin hown hK hP q0 hq hc k hk hlink hsame hv hdg kk
theorem mm_getN (hexec : p.tables.exec = Jvm.exec) (hb : c.code = cc) {own ref C host : String} {T : u_T} {N ci index : Nat} {Ts : List Cond} (hts : ∀ w ∈ Ts, w.before args s = true) (hin : ∀ w ∈ u_ws C T N, w ∈ Ts) (hown : s.vm.findClass own = some m.cls) (hK : va_K D cl tys s) (hP : va_P D cl (va_pl L f) H) {fs : List Value} (ha : a ∈ L) (hf : f a = .inr (ci, fs)) (hc : cl[ci]? = some (C, T, N)) (k : Nat) (hk : k < N) (hlink : (Cond.fieldLinkNest own index ref (T k).2.1 (T k).2.2.1 host).before args s = true) (hsame : ∀ x, s.fieldFound? (T k).1 (T k).2.1 (T k).2.2.1 = some x → s.fieldFound? ref (T k).2.1 (T k).2.2.1 = some x) {v : Value} (hv : fs[k]? = some v) (hdg : decode cc pc = .ok (.getfield index, 3))
    (kk : W p l e R s m args below meth c H locs cells slots Q (F0 m (pc + 3) ls (v :: rest))) : W p l e R s m args below meth c H locs cells slots Q (F0 m pc ls (.ref a :: rest)) := by
  obtain ⟨q0, hq⟩ := mm_at ha hf
  exact va_getN hexec hb hts hin hown hK hP q0 hq hc k hk hlink hsame hv hdg kk
theorem mm_put (hexec : p.tables.exec = Jvm.exec) (hb : c.code = cc) {own ref C : String} {T : u_T} {N ci index : Nat} {Ts : List Cond} (hts : ∀ w ∈ Ts, w.before args s = true) (hin : ∀ w ∈ u_ws C T N, w ∈ Ts) (ty0 : Nat → FieldType) (hty : ∀ k, k < N → parseFieldDescriptor (T k).2.2.1 = some (ty0 k)) (hnm : ∀ a, a < N → ∀ b, b < N → a ≠ b → (T a).2.1 ≠ (T b).2.1) (hown : s.vm.findClass own = some m.cls) (hK : va_K D cl tys s) (hn : L.Nodup) (hA : ∀ a ∈ L, A a) (hP : va_P D cl (va_pl L f) H) (hS0 : va_S A H0 H locs) {fs : List Value} (ha : a ∈ L) (hf : f a = .inr (ci, fs)) (hc : cl[ci]? = some (C, T, N)) (k : Nat) (hk : k < N) (hlink : (Cond.fieldLink own index ref (T k).2.1 (T k).2.2.1).before args s = true) (hsame : ∀ x, s.fieldFound? (T k).1 (T k).2.1 (T k).2.2.1 = some x → s.fieldFound? ref (T k).2.1 (T k).2.2.1 = some x) (hfin : (T k).2.2.2 = false) {ty : FieldType} {v : Value} (hd : parseFieldDescriptor (T k).2.2.1 = some ty) (hnr : narrow ty v = v) (hfit : fits ty v = true) (hl : k < fs.length) (hdg : decode cc pc = .ok (.putfield index, 3))
    (kk : ∀ (H1 : Heap) (locs1 : List Loc), va_P D cl (va_pl L (va_up f a (.inr (ci, fs.set k v)))) H1 → va_S A H0 H1 locs1 → W p l e R s m args below meth c H1 locs1 cells slots Q (F0 m (pc + 3) ls rest)) : W p l e R s m args below meth c H locs cells slots Q (F0 m pc ls (v :: .ref a :: rest)) := by
  obtain ⟨q0, hq⟩ := mm_at ha hf
  have hD : va_D A (va_pl L f) := mm_D hn hA
  refine va_put hexec hb hts hin ty0 hty hnm hown hK hP hD hS0 q0 hq hc k hk hlink hsame hfin hd hnr hfit hl hdg (fun H1 locs1 h1 _ h3 => kk H1 locs1 ?_ h3)
  rw [← mm_set hD ha hf hq]
  exact h1
theorem mm_putN (hexec : p.tables.exec = Jvm.exec) (hb : c.code = cc) {own ref C host : String} {T : u_T} {N ci index : Nat} {Ts : List Cond} (hts : ∀ w ∈ Ts, w.before args s = true) (hin : ∀ w ∈ u_ws C T N, w ∈ Ts) (ty0 : Nat → FieldType) (hty : ∀ k, k < N → parseFieldDescriptor (T k).2.2.1 = some (ty0 k)) (hnm : ∀ a, a < N → ∀ b, b < N → a ≠ b → (T a).2.1 ≠ (T b).2.1) (hown : s.vm.findClass own = some m.cls) (hK : va_K D cl tys s) (hn : L.Nodup) (hA : ∀ a ∈ L, A a) (hP : va_P D cl (va_pl L f) H) (hS0 : va_S A H0 H locs) {fs : List Value} (ha : a ∈ L) (hf : f a = .inr (ci, fs)) (hc : cl[ci]? = some (C, T, N)) (k : Nat) (hk : k < N) (hlink : (Cond.fieldLinkNest own index ref (T k).2.1 (T k).2.2.1 host).before args s = true) (hsame : ∀ x, s.fieldFound? (T k).1 (T k).2.1 (T k).2.2.1 = some x → s.fieldFound? ref (T k).2.1 (T k).2.2.1 = some x) (hfin : (T k).2.2.2 = false) {ty : FieldType} {v : Value} (hd : parseFieldDescriptor (T k).2.2.1 = some ty) (hnr : narrow ty v = v) (hfit : fits ty v = true) (hl : k < fs.length) (hdg : decode cc pc = .ok (.putfield index, 3))
    (kk : ∀ (H1 : Heap) (locs1 : List Loc), va_P D cl (va_pl L (va_up f a (.inr (ci, fs.set k v)))) H1 → va_S A H0 H1 locs1 → W p l e R s m args below meth c H1 locs1 cells slots Q (F0 m (pc + 3) ls rest)) : W p l e R s m args below meth c H locs cells slots Q (F0 m pc ls (v :: .ref a :: rest)) := by
  obtain ⟨q0, hq⟩ := mm_at ha hf
  have hD : va_D A (va_pl L f) := mm_D hn hA
  refine va_putN hexec hb hts hin ty0 hty hnm hown hK hP hD hS0 q0 hq hc k hk hlink hsame hfin hd hnr hfit hl hdg (fun H1 locs1 h1 _ h3 => kk H1 locs1 ?_ h3)
  rw [← mm_set hD ha hf hq]
  exact h1
theorem mm_iald (hexec : p.tables.exec = Jvm.exec) (hb : c.code = cc) (hK : va_K D cl tys s) (hP : va_P D cl (va_pl L f) H) {n : Nat} {g : Nat → Int32} (ha : a ∈ L) (hf : mm_I tys f a n g) {i : Int32} (hin : vp_in i n) (hdg : decode cc pc = .ok (.iaload, 1))
    (kk : W p l e R s m args below meth c H locs cells slots Q (F0 m (pc + 1) ls (.int (g i.toNatClampNeg) :: rest))) : W p l e R s m args below meth c H locs cells slots Q (F0 m pc ls (.int i :: .ref a :: rest)) := by
  obtain ⟨cA, h1, h2⟩ := hf
  obtain ⟨q0, hq⟩ := mm_at ha h1
  obtain ⟨t0, ht⟩ := List.getElem?_of_mem h2
  exact va_iald hexec hb hK hP q0 t0 hq ht hin hdg kk
theorem mm_iast (hexec : p.tables.exec = Jvm.exec) (hb : c.code = cc) (hK : va_K D cl tys s) (hn : L.Nodup) (hA : ∀ a ∈ L, A a) (hP : va_P D cl (va_pl L f) H) (hS : va_S A H0 H locs) {n : Nat} {g : Nat → Int32} (ha : a ∈ L) (hf : mm_I tys f a n g) {i x : Int32} (hin : vp_in i n) (hdg : decode cc pc = .ok (.iastore, 1))
    (kk : ∀ (H1 : Heap) (locs1 : List Loc), va_P D cl (va_pl L (mm_si f a (upd g i.toNatClampNeg x))) H1 → va_S A H0 H1 locs1 → W p l e R s m args below meth c H1 locs1 cells slots Q (F0 m (pc + 1) ls rest)) : W p l e R s m args below meth c H locs cells slots Q (F0 m pc ls (.int x :: .int i :: .ref a :: rest)) := by
  obtain ⟨cA, h1, h2⟩ := hf
  obtain ⟨q0, hq⟩ := mm_at ha h1
  obtain ⟨t0, ht⟩ := List.getElem?_of_mem h2
  have hD : va_D A (va_pl L f) := mm_D hn hA
  refine va_iast hexec hb hK hP hD hS q0 t0 hq ht hin hdg (fun H1 locs1 p1 _ p3 => kk H1 locs1 ?_ p3)
  rw [mm_si_eq h1, ← mm_set hD ha h1 hq]
  exact p1
theorem mm_aldq (hexec : p.tables.exec = Jvm.exec) (hb : c.code = cc) (hK : va_K D cl tys s) (hP : va_P D cl (va_pl L f) H) {C : String} {n : Nat} {g : Nat → Option Nat} (ha : a ∈ L) (hf : mm_Q tys C f a n g) {i : Int32} (hin : vp_in i n) {q : Nat} (hq : g i.toNatClampNeg = some q) (hdg : decode cc pc = .ok (.aaload, 1))
    (kk : W p l e R s m args below meth c H locs cells slots Q (F0 m (pc + 1) ls (.ref q :: rest))) : W p l e R s m args below meth c H locs cells slots Q (F0 m pc ls (.int i :: .ref a :: rest)) := by
  obtain ⟨cA, h1, h2⟩ := hf
  obtain ⟨q0, hq0⟩ := mm_at ha h1
  obtain ⟨t0, ht⟩ := List.getElem?_of_mem h2
  refine va_aldq hexec hb hK hP q0 t0 hq0 ht hin hdg ?_
  rw [hq]
  exact kk
theorem mm_alen (hexec : p.tables.exec = Jvm.exec) (hb : c.code = cc) (hK : va_K D cl tys s) (hP : va_P D cl (va_pl L f) H) {n : Nat} {g : Nat → Int32} (ha : a ∈ L) (hf : mm_I tys f a n g) (hdg : decode cc pc = .ok (.arraylength, 1))
    (kk : W p l e R s m args below meth c H locs cells slots Q (F0 m (pc + 1) ls (.int (nI n) :: rest))) : W p l e R s m args below meth c H locs cells slots Q (F0 m pc ls (.ref a :: rest)) := by
  obtain ⟨cA, h1, h2⟩ := hf
  obtain ⟨q0, hq0⟩ := mm_at ha h1
  obtain ⟨t0, ht⟩ := List.getElem?_of_mem h2
  exact va_alen hexec hb hK hP q0 t0 hq0 ht rfl hdg kk
end MM
