/-! How large the bounds of a matrix can grow: every step adds no more than its own number. -/
def zd_v (g : Nat → Nat → Option Int) (p : Nat × Nat) : Int := (g p.1 p.2).getD 0
def zd_fin (n : Nat) (g : Nat → Nat → Option Int) (p : Nat × Nat) : Prop := p.1 < n ∧ p.2 < n ∧ g p.1 p.2 = some (zd_v g p)
def zd_St (g : Nat → Nat → Option Int) (p q : Nat × Nat) : Prop := ∀ u w, g p.1 q.2 = some u → g q.1 p.2 = some w → zd_v g p + zd_v g q < u + w
def zd_sum (g : Nat → Nat → Option Int) : List (Nat × Nat) → Int
  | [] => 0
  | p :: l => zd_v g p + zd_sum g l
def zd_Bd (n : Nat) (T : Int) (g : Nat → Nat → Option Int) : Prop := ∀ l : List (Nat × Nat), (∀ p ∈ l, zd_fin n g p) → l.Pairwise (zd_St g) → -T ≤ zd_sum g l ∧ zd_sum g l ≤ T
theorem zd_St.symm {g : Nat → Nat → Option Int} {p q : Nat × Nat} (h : zd_St g p q) : zd_St g q p := fun u w h1 h2 => by
  have := h w u h2 h1
  omega
theorem zd_sum_app {g : Nat → Nat → Option Int} (l k : List (Nat × Nat)) : zd_sum g (l ++ k) = zd_sum g l + zd_sum g k := by
  induction l with
  | nil => simp [zd_sum]
  | cons p l ih => simp only [List.cons_append, zd_sum, ih]; omega
theorem zd_sum_congr {g g' : Nat → Nat → Option Int} (l : List (Nat × Nat)) (h : ∀ p ∈ l, zd_v g p = zd_v g' p) : zd_sum g l = zd_sum g' l := by
  induction l with
  | nil => rfl
  | cons p l ih =>
    simp only [zd_sum]
    rw [h p List.mem_cons_self, ih (fun q hq => h q (List.mem_cons_of_mem _ hq))]
theorem zd_v_some {g : Nat → Nat → Option Int} {p : Nat × Nat} {d : Int} (h : g p.1 p.2 = some d) : zd_v g p = d := by
  unfold zd_v
  rw [h]
  rfl
theorem zd_Bd.one {n : Nat} {T : Int} {g : Nat → Nat → Option Int} (h : zd_Bd n T g) {x y : Nat} {d : Int} (hx : x < n) (hy : y < n) (hd : g x y = some d) : -T ≤ d ∧ d ≤ T := by
  have e : zd_v g (x, y) = d := zd_v_some hd
  have := h [(x, y)] (fun p hp => by
    rcases List.mem_singleton.mp hp with rfl
    exact ⟨hx, hy, by rw [e]; exact hd⟩) (List.pairwise_singleton _ _)
  simp only [zd_sum, e] at this
  omega
theorem zd_lrn_le {a b : Nat} {k : Int} {g : Nat → Nat → Option Int} {x y : Nat} {d : Int} (h : g x y = some d) : ∃ d', zd_lrn a b k g x y = some d' ∧ d' ≤ d := zd_lrn_L.mpr (Or.inl (zd_L.eq h))
theorem zd_lrn_le2 {a b : Nat} {k : Int} {g : Nat → Nat → Option Int} {x y : Nat} {p q : Int} (h : g x a = some p) (h2 : g b y = some q) : ∃ d', zd_lrn a b k g x y = some d' ∧ d' ≤ p + k + q := zd_lrn_L.mpr (Or.inr ⟨p, q, zd_L.eq h, zd_L.eq h2, Int.le_refl _⟩)
theorem zd_lrn_cases (a b : Nat) (k : Int) (g : Nat → Nat → Option Int) (x y : Nat) : zd_lrn a b k g x y = g x y ∨ ∃ p q, g x a = some p ∧ g b y = some q ∧ zd_lrn a b k g x y = some (p + k + q) ∧ ∀ d, g x y = some d → p + k + q < d := by
  unfold zd_lrn
  cases h1 : g x a with
  | none => exact Or.inl rfl
  | some p =>
    cases h2 : g b y with
    | none => exact Or.inl rfl
    | some q =>
      cases h3 : g x y with
      | none => exact Or.inr ⟨p, q, rfl, rfl, rfl, fun d hd => by cases hd⟩
      | some d =>
        simp only []
        split
        · exact Or.inr ⟨p, q, rfl, rfl, rfl, fun d' hd => by cases hd; assumption⟩
        · exact Or.inl rfl
theorem zd_Bd_lrn {n a b : Nat} {k T K : Int} {g : Nat → Nat → Option Int} (hk : ∀ d, g b a = some d → 0 ≤ d + k) (ha : a < n) (hb : b < n) (h : zd_Bd n T g) (hK : -K ≤ k ∧ k ≤ K) : zd_Bd n (T + K) (zd_lrn a b k g) := by
  intro l hf hp
  have old : ∀ l2 : List (Nat × Nat), (∀ p ∈ l2, p ∈ l) → (∀ p ∈ l2, zd_lrn a b k g p.1 p.2 = g p.1 p.2) → (∀ p ∈ l2, zd_fin n g p ∧ zd_v (zd_lrn a b k g) p = zd_v g p) ∧ ∀ p ∈ l2, ∀ q ∈ l2, zd_St (zd_lrn a b k g) p q → zd_St g p q := by
    intro l2 hin ho
    have h1 : ∀ p ∈ l2, zd_v (zd_lrn a b k g) p = zd_v g p := fun p hp => by unfold zd_v; rw [ho p hp]
    refine ⟨fun p hp => ⟨?_, h1 p hp⟩, ?_⟩
    · obtain ⟨f1, f2, f3⟩ := hf p (hin p hp)
      exact ⟨f1, f2, by rw [← h1 p hp, ← f3, ho p hp]⟩
    · intro p hp q hq hs u w hu hw
      obtain ⟨u', e1, l1⟩ := zd_lrn_le (a := a) (b := b) (k := k) hu
      obtain ⟨w', e2, l2⟩ := zd_lrn_le (a := a) (b := b) (k := k) hw
      have := hs u' w' e1 e2
      rw [h1 p hp, h1 q hq] at this
      omega
  by_cases hn : ∃ p, p ∈ l ∧ ¬ zd_lrn a b k g p.1 p.2 = g p.1 p.2
  · obtain ⟨p, hpl, hnew⟩ := hn
    have hN : ∃ u w, g p.1 a = some u ∧ g b p.2 = some w ∧ zd_lrn a b k g p.1 p.2 = some (u + k + w) ∧ ∀ d, g p.1 p.2 = some d → u + k + w < d := by
      rcases zd_lrn_cases a b k g p.1 p.2 with e | e
      · exact absurd e hnew
      · exact e
    obtain ⟨u, w, e1, e2, e3, e4⟩ := hN
    have hvp : zd_v (zd_lrn a b k g) p = u + k + w := zd_v_some e3
    obtain ⟨s, t, rfl⟩ := List.append_of_mem hpl
    obtain ⟨ps, ppt, pst⟩ := List.pairwise_append.mp hp
    obtain ⟨pp, pt⟩ := List.pairwise_cons.mp ppt
    have hst : ∀ q, q ∈ s ++ t → zd_St (zd_lrn a b k g) p q := by
      intro q hq
      rcases List.mem_append.mp hq with h1 | h1
      · exact (pst q h1 p List.mem_cons_self).symm
      · exact pp q h1
    have hin : ∀ q ∈ s ++ t, q ∈ s ++ p :: t := by
      intro q hq
      rcases List.mem_append.mp hq with h1 | h1
      · exact List.mem_append_left _ h1
      · exact List.mem_append_right _ (List.mem_cons_of_mem _ h1)
    have ho : ∀ q ∈ s ++ t, zd_lrn a b k g q.1 q.2 = g q.1 q.2 := by
      intro q hq
      rcases zd_lrn_cases a b k g q.1 q.2 with e | ⟨u', w', f1, f2, f3, f4⟩
      · exact e
      · exfalso
        obtain ⟨d1, i1, i2⟩ := zd_lrn_le2 (k := k) e1 f2
        obtain ⟨d2, i3, i4⟩ := zd_lrn_le2 (k := k) f1 e2
        have := hst q hq d1 d2 i1 i3
        rw [hvp, zd_v_some f3] at this
        omega
    obtain ⟨o1, o2⟩ := old (s ++ t) hin ho
    have hv1 : zd_v g (p.1, a) = u := zd_v_some e1
    have hv2 : zd_v g (b, p.2) = w := zd_v_some e2
    obtain ⟨fp1, fp2, fp3⟩ := hf p hpl
    have hb2 := h ((p.1, a) :: (b, p.2) :: (s ++ t)) (by
      intro q hq
      rcases List.mem_cons.mp hq with rfl | hq
      · exact ⟨fp1, ha, by rw [hv1]; exact e1⟩
      · rcases List.mem_cons.mp hq with rfl | hq
        · exact ⟨hb, fp2, by rw [hv2]; exact e2⟩
        · exact (o1 q hq).1) (by
      have hpq : (s ++ t).Pairwise (zd_St g) := by
        have hst2 : (s ++ t).Pairwise (zd_St (zd_lrn a b k g)) := List.pairwise_append.mpr ⟨ps, pt, fun x hx y hy => pst x hx y (List.mem_cons_of_mem _ hy)⟩
        exact hst2.imp_of_mem (fun hx hy hr => o2 _ hx _ hy hr)
      refine List.pairwise_cons.mpr ⟨?_, List.pairwise_cons.mpr ⟨?_, hpq⟩⟩
      · intro q hq
        rcases List.mem_cons.mp hq with rfl | hq
        · intro x y hx hy
          rw [hv1, hv2]
          have a1 := e4 x hx
          have a2 := hk y hy
          omega
        · intro x y hx hy
          rw [hv1]
          obtain ⟨d1, i1, i2⟩ := zd_lrn_le (a := a) (b := b) (k := k) hx
          obtain ⟨d2, i3, i4⟩ := zd_lrn_le2 (k := k) hy e2
          have := hst q hq d1 d2 i1 i3
          rw [hvp, (o1 q hq).2] at this
          omega
      · intro q hq x y hx hy
        rw [hv2]
        obtain ⟨d1, i1, i2⟩ := zd_lrn_le2 (k := k) e1 hx
        obtain ⟨d2, i3, i4⟩ := zd_lrn_le (a := a) (b := b) (k := k) hy
        have := hst q hq d1 d2 i1 i3
        rw [hvp, (o1 q hq).2] at this
        omega)
    have hsum : zd_sum (zd_lrn a b k g) (s ++ p :: t) = zd_sum g ((p.1, a) :: (b, p.2) :: (s ++ t)) + k := by
      have c1 : zd_sum (zd_lrn a b k g) s = zd_sum g s := zd_sum_congr s (fun q hq => (o1 q (List.mem_append_left _ hq)).2)
      have c2 : zd_sum (zd_lrn a b k g) t = zd_sum g t := zd_sum_congr t (fun q hq => (o1 q (List.mem_append_right _ hq)).2)
      simp only [zd_sum_app, zd_sum, c1, c2, hvp, hv1, hv2]
      omega
    rw [hsum]
    omega
  · have ho : ∀ p ∈ l, zd_lrn a b k g p.1 p.2 = g p.1 p.2 := fun p hp => Classical.byContradiction fun h => hn ⟨p, hp, h⟩
    obtain ⟨o1, o2⟩ := old l (fun _ h => h) ho
    have hb2 := h l (fun p hp => (o1 p hp).1) (hp.imp_of_mem (fun hx hy hr => o2 _ hx _ hy hr))
    rw [zd_sum_congr l (fun p hp => (o1 p hp).2)]
    omega
theorem zd_St_x {g : Nat → Nat → Option Int} {n : Nat} {p q : Nat × Nat} (hp : zd_fin n g p) (hq : zd_fin n g q) (h : zd_St g p q) : p.1 ≠ q.1 := by
  intro e
  have := h (zd_v g q) (zd_v g p) (by rw [e]; exact hq.2.2) (by rw [← e]; exact hp.2.2)
  omega
theorem zd_St_y {g : Nat → Nat → Option Int} {n : Nat} {p q : Nat × Nat} (hp : zd_fin n g p) (hq : zd_fin n g q) (h : zd_St g p q) : p.2 ≠ q.2 := by
  intro e
  have := h (zd_v g p) (zd_v g q) (by rw [← e]; exact hp.2.2) (by rw [e]; exact hq.2.2)
  omega
def zd_s1 (a : Nat) (k : Int) : List (Nat × Nat) → Int
  | [] => 0
  | p :: l => zd_sh a k p.1 + zd_s1 a k l
def zd_s2 (a : Nat) (k : Int) : List (Nat × Nat) → Int
  | [] => 0
  | p :: l => zd_sh a k p.2 + zd_s2 a k l
theorem zd_s1_no {a : Nat} {k : Int} (l : List (Nat × Nat)) (h : ∀ p ∈ l, p.1 ≠ a) : zd_s1 a k l = 0 := by
  induction l with
  | nil => rfl
  | cons p l ih =>
    simp only [zd_s1]
    rw [ih (fun q hq => h q (List.mem_cons_of_mem _ hq))]
    have := h p List.mem_cons_self
    simp [zd_sh, this]
theorem zd_s2_no {a : Nat} {k : Int} (l : List (Nat × Nat)) (h : ∀ p ∈ l, p.2 ≠ a) : zd_s2 a k l = 0 := by
  induction l with
  | nil => rfl
  | cons p l ih =>
    simp only [zd_s2]
    rw [ih (fun q hq => h q (List.mem_cons_of_mem _ hq))]
    have := h p List.mem_cons_self
    simp [zd_sh, this]
theorem zd_s1_in {a : Nat} {k : Int} (l : List (Nat × Nat)) (h : l.Pairwise (fun p q => p.1 ≠ q.1)) : zd_s1 a k l = 0 ∨ zd_s1 a k l = k := by
  induction l with
  | nil => exact Or.inl rfl
  | cons p l ih =>
    obtain ⟨h1, h2⟩ := List.pairwise_cons.mp h
    simp only [zd_s1]
    by_cases e : p.1 = a
    · right
      rw [zd_s1_no l (fun q hq => by have := h1 q hq; omega)]
      simp [zd_sh, e]
    · have : zd_sh a k p.1 = 0 := by simp [zd_sh, e]
      rw [this]
      rcases ih h2 with h3 | h3 <;> omega
theorem zd_s2_in {a : Nat} {k : Int} (l : List (Nat × Nat)) (h : l.Pairwise (fun p q => p.2 ≠ q.2)) : zd_s2 a k l = 0 ∨ zd_s2 a k l = k := by
  induction l with
  | nil => exact Or.inl rfl
  | cons p l ih =>
    obtain ⟨h1, h2⟩ := List.pairwise_cons.mp h
    simp only [zd_s2]
    by_cases e : p.2 = a
    · right
      rw [zd_s2_no l (fun q hq => by have := h1 q hq; omega)]
      simp [zd_sh, e]
    · have : zd_sh a k p.2 = 0 := by simp [zd_sh, e]
      rw [this]
      rcases ih h2 with h3 | h3 <;> omega
theorem zd_giv_v {a b : Nat} {k : Int} {g : Nat → Nat → Option Int} {x y : Nat} {d : Int} (h : zd_giv a b k g x y = some d) : g (zd_mp a b x) (zd_mp a b y) = some (d - zd_sh a k x + zd_sh a k y) := by
  unfold zd_giv at h
  cases e : g (zd_mp a b x) (zd_mp a b y) with
  | none => rw [e] at h; cases h
  | some c =>
    rw [e] at h
    simp only [Option.map_some, Option.some.injEq] at h
    simp only [Option.some.injEq]
    omega
theorem zd_giv_of {a b : Nat} {k : Int} {g : Nat → Nat → Option Int} {x y : Nat} {d : Int} (h : g (zd_mp a b x) (zd_mp a b y) = some d) : zd_giv a b k g x y = some (d + zd_sh a k x - zd_sh a k y) := by
  unfold zd_giv
  rw [h]
  rfl
theorem zd_Bd_giv {n a b : Nat} {k T K : Int} {g : Nat → Nat → Option Int} (hb : b < n) (h : zd_Bd n T g) (hK : -K ≤ k ∧ k ≤ K) : zd_Bd n (T + K) (zd_giv a b k g) := by
  intro l hf hp
  have hv : ∀ p ∈ l, zd_v g (zd_mp a b p.1, zd_mp a b p.2) = zd_v (zd_giv a b k g) p - zd_sh a k p.1 + zd_sh a k p.2 := fun p hp => zd_v_some (zd_giv_v (hf p hp).2.2)
  have hb2 := h (l.map (fun p => (zd_mp a b p.1, zd_mp a b p.2))) (by
    intro q hq
    obtain ⟨p, hp, rfl⟩ := List.mem_map.mp hq
    obtain ⟨f1, f2, f3⟩ := hf p hp
    refine ⟨zd_mp_lt hb f1, zd_mp_lt hb f2, ?_⟩
    rw [hv p hp]
    exact zd_giv_v f3) (by
    refine List.pairwise_map.mpr (hp.imp_of_mem (fun {p q} hx hy hr => ?_))
    intro u w hu hw
    have := hr _ _ (zd_giv_of (k := k) hu) (zd_giv_of (k := k) hw)
    rw [hv p hx, hv q hy]
    omega)
  have hs : ∀ l2 : List (Nat × Nat), (∀ p ∈ l2, p ∈ l) → zd_sum (zd_giv a b k g) l2 = zd_sum g (l2.map (fun p => (zd_mp a b p.1, zd_mp a b p.2))) + zd_s1 a k l2 - zd_s2 a k l2 := by
    intro l2
    induction l2 with
    | nil => intro _; rfl
    | cons p l2 ih =>
      intro hin
      simp only [List.map_cons, zd_sum, zd_s1, zd_s2]
      rw [ih (fun q hq => hin q (List.mem_cons_of_mem _ hq)), hv p (hin p List.mem_cons_self)]
      omega
  rw [hs l (fun _ h => h)]
  have c1 := zd_s1_in (a := a) (k := k) l (hp.imp_of_mem (fun hx hy hr => zd_St_x (hf _ hx) (hf _ hy) hr))
  have c2 := zd_s2_in (a := a) (k := k) l (hp.imp_of_mem (fun hx hy hr => zd_St_y (hf _ hx) (hf _ hy) hr))
  rcases c1 with c1 | c1 <;> rcases c2 with c2 | c2 <;> omega
theorem zd_sum_filter {g : Nat → Nat → Option Int} (f : Nat × Nat → Bool) (l : List (Nat × Nat)) (h : ∀ p ∈ l, f p = false → zd_v g p = 0) : zd_sum g (l.filter f) = zd_sum g l := by
  induction l with
  | nil => rfl
  | cons p l ih =>
    have ih := ih (fun q hq => h q (List.mem_cons_of_mem _ hq))
    cases e : f p with
    | true =>
      rw [List.filter_cons_of_pos e]
      simp only [zd_sum, ih]
    | false =>
      rw [List.filter_cons_of_neg (by simp [e])]
      have := h p List.mem_cons_self e
      simp only [zd_sum, ih]
      omega
theorem zd_Bd_fgt {n a : Nat} {T : Int} {g : Nat → Nat → Option Int} (h : zd_Bd n T g) : zd_Bd n T (zd_fgt a g) := by
  intro l hf hp
  have hz : ∀ p ∈ l, (decide (p.1 ≠ a ∧ p.2 ≠ a)) = false → zd_v (zd_fgt a g) p = 0 := by
    intro p hp he
    obtain ⟨f1, f2, f3⟩ := hf p hp
    have he : ¬ (p.1 ≠ a ∧ p.2 ≠ a) := by simpa using he
    by_cases e : p.1 = p.2
    · apply zd_v_some
      unfold zd_fgt
      rw [if_pos (by omega), if_pos e]
    · unfold zd_fgt at f3
      rw [if_pos (by omega), if_neg e] at f3
      cases f3
  have heq : ∀ x y, x ≠ a → y ≠ a → zd_fgt a g x y = g x y := fun x y hx hy => by unfold zd_fgt; rw [if_neg (by omega)]
  have hq : ∀ p ∈ l.filter (fun p => decide (p.1 ≠ a ∧ p.2 ≠ a)), p ∈ l ∧ p.1 ≠ a ∧ p.2 ≠ a := by
    intro p hp
    have := List.mem_filter.mp hp
    exact ⟨this.1, by simpa using this.2⟩
  have hvv : ∀ p ∈ l.filter (fun p => decide (p.1 ≠ a ∧ p.2 ≠ a)), zd_v (zd_fgt a g) p = zd_v g p := by
    intro p hp
    unfold zd_v
    rw [heq _ _ (hq p hp).2.1 (hq p hp).2.2]
  have hb2 := h (l.filter (fun p => decide (p.1 ≠ a ∧ p.2 ≠ a))) (by
    intro p hp
    obtain ⟨i1, i2, i3⟩ := hq p hp
    obtain ⟨f1, f2, f3⟩ := hf p i1
    exact ⟨f1, f2, by rw [← hvv p hp, ← heq _ _ i2 i3]; exact f3⟩) (by
    refine (hp.filter _).imp_of_mem (fun {p q} hx hy hr => ?_)
    intro u w hu hw
    have := hr u w (by rw [heq _ _ (hq p hx).2.1 (hq q hy).2.2]; exact hu) (by rw [heq _ _ (hq q hy).2.1 (hq p hx).2.2]; exact hw)
    rw [hvv p hx, hvv q hy] at this
    exact this)
  rw [← zd_sum_filter (fun p => decide (p.1 ≠ a ∧ p.2 ≠ a)) l hz, zd_sum_congr _ hvv]
  exact hb2
theorem zd_Bd_0 {n : Nat} {g : Nat → Nat → Option Int} (h : ∀ x y d, x < n → y < n → g x y = some d → d = 0) : zd_Bd n 0 g := by
  intro l hf _
  have : ∀ l2 : List (Nat × Nat), (∀ p ∈ l2, p ∈ l) → zd_sum g l2 = 0 := by
    intro l2
    induction l2 with
    | nil => intro _; rfl
    | cons p l2 ih =>
      intro hin
      obtain ⟨f1, f2, f3⟩ := hf p (hin p List.mem_cons_self)
      simp only [zd_sum]
      rw [ih (fun q hq => hin q (List.mem_cons_of_mem _ hq)), h _ _ _ f1 f2 f3]
      rfl
  rw [this l (fun _ h => h)]
  omega
theorem zd_Bd.mono {n : Nat} {T U : Int} {g : Nat → Nat → Option Int} (h : zd_Bd n T g) (hT : T ≤ U) : zd_Bd n U g := fun l hf hp => by
  have := h l hf hp
  omega
