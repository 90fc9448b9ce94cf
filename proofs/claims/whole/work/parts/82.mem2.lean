/-! Memory: arrays of longs and of booleans. -/
def mm_J (tys : List (ClassId × FieldType)) (f : Nat → va_E) (a n : Nat) (g : Nat → Int64) : Prop := ∃ cA, f a = .inl (cA, n, .inr (.inl g)) ∧ (cA, FieldType.long) ∈ tys
def mm_Z (tys : List (ClassId × FieldType)) (f : Nat → va_E) (a n : Nat) (g : Nat → Int32) : Prop := ∃ cA, f a = .inl (cA, n, .inl g) ∧ (cA, FieldType.boolean) ∈ tys
def mm_sj (f : Nat → va_E) (a : Nat) (g : Nat → Int64) : Nat → va_E := va_up f a (match f a with
  | .inl (cA, n, _) => .inl (cA, n, .inr (.inl g))
  | x => x)
theorem mm_sj_eq {f : Nat → va_E} {a n : Nat} {cA : ClassId} {g g' : Nat → Int64} (h : f a = .inl (cA, n, .inr (.inl g))) : mm_sj f a g' = va_up f a (.inl (cA, n, .inr (.inl g'))) := by
  unfold mm_sj
  rw [h]
theorem mm_J.set {tys : List (ClassId × FieldType)} {f : Nat → va_E} {a n : Nat} {g g' : Nat → Int64} (h : mm_J tys f a n g) : mm_J tys (mm_sj f a g') a n g' := by
  obtain ⟨cA, h1, h2⟩ := h
  exact ⟨cA, by rw [mm_sj_eq h1, va_up_self], h2⟩
theorem mm_Z.set {tys : List (ClassId × FieldType)} {f : Nat → va_E} {a n : Nat} {g g' : Nat → Int32} (h : mm_Z tys f a n g) : mm_Z tys (mm_si f a g') a n g' := by
  obtain ⟨cA, h1, h2⟩ := h
  exact ⟨cA, by rw [mm_si_eq h1, va_up_self], h2⟩
theorem mm_sj_ne {f : Nat → va_E} {a b : Nat} {g : Nat → Int64} (h : b ≠ a) : mm_sj f a g b = f b := va_up_ne _ _ h
theorem mm_J.eq {tys : List (ClassId × FieldType)} {f f' : Nat → va_E} {a n : Nat} {g : Nat → Int64} (h : mm_J tys f a n g) (e : f' a = f a) : mm_J tys f' a n g := by
  obtain ⟨cA, h1, h2⟩ := h
  exact ⟨cA, by rw [e]; exact h1, h2⟩
theorem mm_Z.eq {tys : List (ClassId × FieldType)} {f f' : Nat → va_E} {a n : Nat} {g : Nat → Int32} (h : mm_Z tys f a n g) (e : f' a = f a) : mm_Z tys f' a n g := by
  obtain ⟨cA, h1, h2⟩ := h
  exact ⟨cA, by rw [e]; exact h1, h2⟩
theorem mm_JO {tys : List (ClassId × FieldType)} {f : Nat → va_E} {a b n ci : Nat} {fs : List Value} {g : Nat → Int64} (h : mm_J tys f a n g) (h2 : f b = .inr (ci, fs)) : b ≠ a := by
  rintro rfl
  obtain ⟨cA, h1, -⟩ := h
  rw [h1] at h2
  cases h2
theorem mm_ZO {tys : List (ClassId × FieldType)} {f : Nat → va_E} {a b n ci : Nat} {fs : List Value} {g : Nat → Int32} (h : mm_Z tys f a n g) (h2 : f b = .inr (ci, fs)) : b ≠ a := by
  rintro rfl
  obtain ⟨cA, h1, -⟩ := h
  rw [h1] at h2
  cases h2
theorem mm_IJ {tys : List (ClassId × FieldType)} {f : Nat → va_E} {a b n k : Nat} {g : Nat → Int32} {g2 : Nat → Int64} (h : mm_I tys f a n g) (h2 : mm_J tys f b k g2) : a ≠ b := by
  rintro rfl
  obtain ⟨cA, h1, -⟩ := h
  obtain ⟨cB, h3, -⟩ := h2
  rw [h1] at h3
  cases h3
theorem mm_ZJ {tys : List (ClassId × FieldType)} {f : Nat → va_E} {a b n k : Nat} {g : Nat → Int32} {g2 : Nat → Int64} (h : mm_Z tys f a n g) (h2 : mm_J tys f b k g2) : a ≠ b := by
  rintro rfl
  obtain ⟨cA, h1, -⟩ := h
  obtain ⟨cB, h3, -⟩ := h2
  rw [h1] at h3
  cases h3
theorem mm_IZ {tys : List (ClassId × FieldType)} {f : Nat → va_E} {a b n k : Nat} {g g2 : Nat → Int32} (h : mm_I tys f a n g) (h2 : mm_Z tys f b k g2) (hn : n ≠ k) : a ≠ b := by
  rintro rfl
  obtain ⟨cA, h1, -⟩ := h
  obtain ⟨cB, h3, -⟩ := h2
  rw [h1] at h3
  cases h3
  exact hn rfl
theorem mm_QJ {tys : List (ClassId × FieldType)} {C : String} {f : Nat → va_E} {a b n k : Nat} {g : Nat → Option Nat} {g2 : Nat → Int64} (h : mm_Q tys C f a n g) (h2 : mm_J tys f b k g2) : a ≠ b := by
  rintro rfl
  obtain ⟨cA, h1, -⟩ := h
  obtain ⟨cB, h3, -⟩ := h2
  rw [h1] at h3
  cases h3
theorem mm_QZ {tys : List (ClassId × FieldType)} {C : String} {f : Nat → va_E} {a b n k : Nat} {g : Nat → Option Nat} {g2 : Nat → Int32} (h : mm_Q tys C f a n g) (h2 : mm_Z tys f b k g2) : a ≠ b := by
  rintro rfl
  obtain ⟨cA, h1, -⟩ := h
  obtain ⟨cB, h3, -⟩ := h2
  rw [h1] at h3
  cases h3
theorem mm_sj_sj {f : Nat → va_E} {a : Nat} {g g' : Nat → Int64} : mm_sj (mm_sj f a g) a g' = mm_sj f a g' := by
  unfold mm_sj
  rw [bx_uu, va_up_self]
  cases h : f a with
  | inl x => obtain ⟨cA, n, y⟩ := x; rfl
  | inr x => rfl
theorem mm_sj_id {tys : List (ClassId × FieldType)} {f : Nat → va_E} {a n : Nat} {g : Nat → Int64} (h : mm_J tys f a n g) : mm_sj f a g = f := by
  obtain ⟨cA, h1, -⟩ := h
  rw [mm_sj_eq h1]
  funext x
  unfold va_up
  split
  · rename_i e; rw [e, h1]
  · rfl
theorem mm_siz_id {tys : List (ClassId × FieldType)} {f : Nat → va_E} {a n : Nat} {g : Nat → Int32} (h : mm_Z tys f a n g) : mm_si f a g = f := by
  obtain ⟨cA, h1, -⟩ := h
  rw [mm_si_eq h1]
  funext x
  unfold va_up
  split
  · rename_i e; rw [e, h1]
  · rfl
section MJ
variable {p : Program} {l : Launch} {e : Env} {R : Room} {s : State} {m : MethodId} {args : Array Value} {below : List Frame} {meth : Method} {c : Code} {H : Heap} {locs : List Loc} {cells slots : Nat} {Q : State → Prop}
variable {cc : ByteArray} {pc : Nat} {ls : Array Slot} {rest : List Value} {D : va_G} {cl : List vw_C} {A : Nat → Prop} {a : Nat} {tys : List (ClassId × FieldType)} {H0 : Heap} {L : List Nat} {f : Nat → va_E}
theorem mm_lald (hexec : p.tables.exec = Jvm.exec) (hb : c.code = cc) (hK : va_K D cl tys s) (hP : va_P D cl (va_pl L f) H) {n : Nat} {g : Nat → Int64} (ha : a ∈ L) (hf : mm_J tys f a n g) {i : Int32} (hin : vp_in i n) (hdg : decode cc pc = .ok (.laload, 1))
    (kk : W p l e R s m args below meth c H locs cells slots Q (F0 m (pc + 1) ls (.long (g i.toNatClampNeg) :: rest))) : W p l e R s m args below meth c H locs cells slots Q (F0 m pc ls (.int i :: .ref a :: rest)) := by
  obtain ⟨cA, h1, h2⟩ := hf
  obtain ⟨q0, hq⟩ := mm_at ha h1
  obtain ⟨t0, ht⟩ := List.getElem?_of_mem h2
  exact va_lald hexec hb hK hP q0 t0 hq ht hin hdg kk
theorem mm_last (hexec : p.tables.exec = Jvm.exec) (hb : c.code = cc) (hK : va_K D cl tys s) (hn : L.Nodup) (hA : ∀ a ∈ L, A a) (hP : va_P D cl (va_pl L f) H) (hS : va_S A H0 H locs) {n : Nat} {g : Nat → Int64} (ha : a ∈ L) (hf : mm_J tys f a n g) {i : Int32} {x : Int64} (hin : vp_in i n) (hdg : decode cc pc = .ok (.lastore, 1))
    (kk : ∀ (H1 : Heap) (locs1 : List Loc), va_P D cl (va_pl L (mm_sj f a (vp_updL g i.toNatClampNeg x))) H1 → va_S A H0 H1 locs1 → W p l e R s m args below meth c H1 locs1 cells slots Q (F0 m (pc + 1) ls rest)) : W p l e R s m args below meth c H locs cells slots Q (F0 m pc ls (.long x :: .int i :: .ref a :: rest)) := by
  obtain ⟨cA, h1, h2⟩ := hf
  obtain ⟨q0, hq⟩ := mm_at ha h1
  obtain ⟨t0, ht⟩ := List.getElem?_of_mem h2
  have hD : va_D A (va_pl L f) := mm_D hn hA
  refine va_last hexec hb hK hP hD hS q0 t0 hq ht hin hdg (fun H1 locs1 p1 _ p3 => kk H1 locs1 ?_ p3)
  rw [mm_sj_eq h1, ← mm_set hD ha h1 hq]
  exact p1
theorem mm_zald (hexec : p.tables.exec = Jvm.exec) (hb : c.code = cc) (hK : va_K D cl tys s) (hP : va_P D cl (va_pl L f) H) {n : Nat} {g : Nat → Int32} (ha : a ∈ L) (hf : mm_Z tys f a n g) {i : Int32} (hin : vp_in i n) (hdg : decode cc pc = .ok (.baload, 1))
    (kk : W p l e R s m args below meth c H locs cells slots Q (F0 m (pc + 1) ls (.int (g i.toNatClampNeg) :: rest))) : W p l e R s m args below meth c H locs cells slots Q (F0 m pc ls (.int i :: .ref a :: rest)) := by
  obtain ⟨cA, h1, h2⟩ := hf
  obtain ⟨q0, hq⟩ := mm_at ha h1
  obtain ⟨t0, ht⟩ := List.getElem?_of_mem h2
  exact va_zald hexec hb hK hP q0 t0 hq ht hin hdg kk
theorem mm_zast (hexec : p.tables.exec = Jvm.exec) (hb : c.code = cc) (hK : va_K D cl tys s) (hn : L.Nodup) (hA : ∀ a ∈ L, A a) (hP : va_P D cl (va_pl L f) H) (hS : va_S A H0 H locs) {n : Nat} {g : Nat → Int32} (ha : a ∈ L) (hf : mm_Z tys f a n g) {i x : Int32} (hin : vp_in i n) (hx : vp_nar .boolean x = x) (hdg : decode cc pc = .ok (.bastore, 1))
    (kk : ∀ (H1 : Heap) (locs1 : List Loc), va_P D cl (va_pl L (mm_si f a (upd g i.toNatClampNeg x))) H1 → va_S A H0 H1 locs1 → W p l e R s m args below meth c H1 locs1 cells slots Q (F0 m (pc + 1) ls rest)) : W p l e R s m args below meth c H locs cells slots Q (F0 m pc ls (.int x :: .int i :: .ref a :: rest)) := by
  obtain ⟨cA, h1, h2⟩ := hf
  obtain ⟨q0, hq⟩ := mm_at ha h1
  obtain ⟨t0, ht⟩ := List.getElem?_of_mem h2
  have hD : va_D A (va_pl L f) := mm_D hn hA
  refine va_zast hexec hb hK hP hD hS q0 t0 hq ht hin hdg (fun H1 locs1 p1 _ p3 => kk H1 locs1 ?_ p3)
  rw [mm_si_eq h1, ← mm_set hD ha h1 hq]
  rw [hx] at p1
  exact p1
end MJ
/-- a matrix of longs -/
def encL (o : Option Int) : Int64 := match o with
  | none => 1000000000000
  | some d => Int64.ofInt d
def RpL (g : Nat → Int64) (G : Nat → Nat → Option Int) : Prop := ∀ x y, x < 13 → y < 13 → g (13 * x + y) = encL (G x y)
theorem i64_far : (1000000000000 : Int64).toInt = 1000000000000 := by decide +kernel
theorem i64_of {d : Int} (h : -100000000 ≤ d ∧ d ≤ 100000000) : (Int64.ofInt d).toInt = d := Int64.toInt_ofInt_of_le (by omega) (by omega)
theorem encL_int {o : Option Int} (ho : ∀ d, o = some d → -300000 ≤ d ∧ d ≤ 300000) : (encL o).toInt = match o with
  | none => 1000000000000
  | some d => d := by
  cases o with
  | none => exact i64_far
  | some d =>
    have := ho d rfl
    exact i64_of (by omega)
theorem encL_far {o : Option Int} (ho : ∀ d, o = some d → -300000 ≤ d ∧ d ≤ 300000) : encL o = 1000000000000 ↔ o = none := by
  cases o with
  | none => exact ⟨fun _ => rfl, fun _ => rfl⟩
  | some d =>
    have := ho d rfl
    refine ⟨fun h => ?_, fun h => by cases h⟩
    have h9 := congrArg Int64.toInt h
    rw [show encL (some d) = Int64.ofInt d from rfl, i64_of (by omega), i64_far] at h9
    omega
theorem encL_add {o : Option Int} {k : Int} (ho : ∀ d, o = some d → -300000 ≤ d ∧ d ≤ 300000) (hk : -300000 ≤ k ∧ k ≤ 300000) : (encL o + Int64.ofInt k).toInt = (encL o).toInt + k := by
  have h1 := encL_int ho
  rw [Int64.toInt_add, i64_of (d := k) (by omega)]
  refine Int.bmod_eq_of_le ?_ ?_
  · cases o with
    | none => rw [show (encL none).toInt = 1000000000000 from i64_far]; omega
    | some d => have := ho d rfl; rw [h1]; simp only []; omega
  · cases o with
    | none => rw [show (encL none).toInt = 1000000000000 from i64_far]; omega
    | some d => have := ho d rfl; rw [h1]; simp only []; omega
theorem updL_at (g : Nat → Int64) (x y a b : Nat) (v : Int64) (hy : y < 13) (hb : b < 13) : vp_updL g (13 * a + b) v (13 * x + y) = if x = a ∧ y = b then v else g (13 * x + y) := by
  unfold vp_updL
  by_cases e : x = a ∧ y = b
  · obtain ⟨rfl, rfl⟩ := e
    rw [if_pos rfl, if_pos ⟨rfl, rfl⟩]
  · rw [if_neg e, if_neg (fun h => e (by omega))]
