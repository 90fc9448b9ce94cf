/-! Differences of numbers: matrices of bounds, none where there is no bound. Pure; nothing of the machine. -/
def zd_L (g : Nat → Nat → Option Int) (x y : Nat) (c : Int) : Prop := ∃ d, g x y = some d ∧ d ≤ c
theorem zd_L.mono {g : Nat → Nat → Option Int} {x y : Nat} {c e : Int} (h : zd_L g x y c) (hc : c ≤ e) : zd_L g x y e := by
  obtain ⟨d, h1, h2⟩ := h
  exact ⟨d, h1, by omega⟩
theorem zd_L.eq {g : Nat → Nat → Option Int} {x y : Nat} {c : Int} (h : g x y = some c) : zd_L g x y c := ⟨c, h, Int.le_refl c⟩
def zd_Sat (n : Nat) (g : Nat → Nat → Option Int) (v : Nat → Int) : Prop := ∀ (x y : Nat) (c : Int), x < n → y < n → zd_L g x y c → v x - v y ≤ c
def zd_Cls (n : Nat) (g : Nat → Nat → Option Int) : Prop :=
  (∀ x, x < n → g x x = some 0) ∧ ∀ (x y z : Nat) (c e : Int), x < n → y < n → z < n → zd_L g x y c → zd_L g y z e → zd_L g x z (c + e)
def zd_mn (g : Nat → Nat → Option Int) (x : Nat) : Nat → Int
  | 0 => 0
  | k + 1 => match g x k with
    | none => zd_mn g x k
    | some d => if d ≤ zd_mn g x k then d else zd_mn g x k
theorem zd_mn_le {g : Nat → Nat → Option Int} {x : Nat} : ∀ (n z : Nat) (d : Int), z < n → g x z = some d → zd_mn g x n ≤ d := by
  intro n
  induction n with
  | zero => intro z d h; omega
  | succ n ih =>
    intro z d hz hd
    by_cases e : z = n
    · subst e
      simp only [zd_mn, hd]
      split <;> omega
    · have h1 := ih z d (by omega) hd
      simp only [zd_mn]
      cases h : g x n with
      | none => exact h1
      | some w =>
        simp only []
        split <;> omega
theorem zd_mn_at {g : Nat → Nat → Option Int} {x : Nat} : ∀ (n : Nat), zd_mn g x n = 0 ∨ ∃ z, z < n ∧ g x z = some (zd_mn g x n) := by
  intro n
  induction n with
  | zero => exact Or.inl rfl
  | succ n ih =>
    simp only [zd_mn]
    cases h : g x n with
    | none =>
      simp only []
      rcases ih with h1 | ⟨z, h1, h2⟩
      · exact Or.inl h1
      · exact Or.inr ⟨z, by omega, h2⟩
    | some w =>
      simp only []
      split
      · exact Or.inr ⟨n, by omega, h⟩
      · rcases ih with h1 | ⟨z, h1, h2⟩
        · exact Or.inl h1
        · exact Or.inr ⟨z, by omega, h2⟩
/-- a closed matrix has numbers -/
theorem zd_sat {n : Nat} {g : Nat → Nat → Option Int} (h : zd_Cls n g) : ∃ v, zd_Sat n g v := by
  refine ⟨fun x => zd_mn g x n, ?_⟩
  intro x y c hx hy hL
  have hz : ∃ z, z < n ∧ g y z = some (zd_mn g y n) := by
    rcases zd_mn_at (g := g) (x := y) n with h1 | h1
    · exact ⟨y, hy, by rw [h1]; exact h.1 y hy⟩
    · exact h1
  obtain ⟨z, hz, e⟩ := hz
  obtain ⟨d, h1, h2⟩ := h.2 x y z c _ hx hy hz hL (zd_L.eq e)
  have := zd_mn_le n z d hz h1
  show zd_mn g x n - zd_mn g y n ≤ c
  omega
/-- a bound more -/
def zd_lrn (a b : Nat) (k : Int) (g : Nat → Nat → Option Int) : Nat → Nat → Option Int := fun x y =>
  match g x a, g b y with
  | some p, some q => (match g x y with
    | none => some (p + k + q)
    | some d => if p + k + q < d then some (p + k + q) else some d)
  | _, _ => g x y
theorem zd_lrn_L {a b : Nat} {k : Int} {g : Nat → Nat → Option Int} {x y : Nat} {c : Int} : zd_L (zd_lrn a b k g) x y c ↔ zd_L g x y c ∨ ∃ p q, zd_L g x a p ∧ zd_L g b y q ∧ p + k + q ≤ c := by
  unfold zd_L zd_lrn
  cases h1 : g x a with
  | none => simp
  | some p =>
    cases h2 : g b y with
    | none => simp
    | some q =>
      cases h3 : g x y with
      | none =>
        constructor
        · rintro ⟨d, hd, hc⟩
          simp only [Option.some.injEq] at hd
          exact Or.inr ⟨p, q, ⟨p, rfl, Int.le_refl p⟩, ⟨q, rfl, Int.le_refl q⟩, by omega⟩
        · rintro (⟨d, hd, hc⟩ | ⟨p', q', ⟨d, hd, hc⟩, ⟨d', hd', hc'⟩, h⟩)
          · cases hd
          · cases hd; cases hd'
            exact ⟨_, rfl, by omega⟩
      | some w =>
        simp only []
        constructor
        · rintro ⟨d, hd, hc⟩
          split at hd
          · cases hd
            exact Or.inr ⟨p, q, ⟨p, rfl, Int.le_refl p⟩, ⟨q, rfl, Int.le_refl q⟩, by omega⟩
          · cases hd
            exact Or.inl ⟨_, rfl, hc⟩
        · rintro (⟨d, hd, hc⟩ | ⟨p', q', ⟨d, hd, hc⟩, ⟨d', hd', hc'⟩, h⟩)
          · cases hd
            split
            · exact ⟨_, rfl, by omega⟩
            · exact ⟨_, rfl, hc⟩
          · cases hd; cases hd'
            split
            · exact ⟨_, rfl, by omega⟩
            · exact ⟨_, rfl, by omega⟩
theorem zd_lrn_diag {n a b : Nat} {k : Int} {g : Nat → Nat → Option Int} (h : zd_Cls n g) (ha : a < n) (hb : b < n) (hk : ∀ d, zd_L g b a d → 0 ≤ d + k) {x : Nat} (hx : x < n) : zd_lrn a b k g x x = some 0 := by
  have h0 := h.1 x hx
  unfold zd_lrn
  cases h1 : g x a with
  | none => simpa using h0
  | some p =>
    cases h2 : g b x with
    | none => simpa using h0
    | some q =>
      simp only [h0]
      have h3 := hk _ (h.2 b x a q p hb hx ha (zd_L.eq h2) (zd_L.eq h1))
      rw [if_neg (by omega)]
theorem zd_lrn_cls {n a b : Nat} {k : Int} {g : Nat → Nat → Option Int} (h : zd_Cls n g) (ha : a < n) (hb : b < n) (hk : ∀ d, zd_L g b a d → 0 ≤ d + k) : zd_Cls n (zd_lrn a b k g) := by
  refine ⟨fun x hx => zd_lrn_diag h ha hb hk hx, ?_⟩
  intro x y z c e hx hy hz h1 h2
  rw [zd_lrn_L] at h1 h2 ⊢
  rcases h1 with h1 | ⟨p1, q1, h1, h1', l1⟩
  · rcases h2 with h2 | ⟨p2, q2, h2, h2', l2⟩
    · exact Or.inl (h.2 x y z c e hx hy hz h1 h2)
    · exact Or.inr ⟨c + p2, q2, h.2 x y a c p2 hx hy ha h1 h2, h2', by omega⟩
  · rcases h2 with h2 | ⟨p2, q2, h2, h2', l2⟩
    · exact Or.inr ⟨p1, q1 + e, h1, h.2 b y z q1 e hb hy hz h1' h2, by omega⟩
    · have h3 := hk _ (h.2 b y a q1 p2 hb hy ha h1' h2)
      exact Or.inr ⟨p1, q2, h1, h2', by omega⟩
theorem zd_lrn_sat {n a b : Nat} {k : Int} {g : Nat → Nat → Option Int} (h : zd_Cls n g) (ha : a < n) (hb : b < n) {v : Nat → Int} : zd_Sat n (zd_lrn a b k g) v ↔ zd_Sat n g v ∧ v a - v b ≤ k := by
  constructor
  · intro hs
    refine ⟨fun x y c hx hy hL => hs x y c hx hy (zd_lrn_L.mpr (Or.inl hL)), ?_⟩
    exact hs a b k ha hb (zd_lrn_L.mpr (Or.inr ⟨0, 0, zd_L.eq (h.1 a ha), zd_L.eq (h.1 b hb), by omega⟩))
  · rintro ⟨hs, hk⟩ x y c hx hy hL
    rcases zd_lrn_L.mp hL with h1 | ⟨p, q, h1, h2, l⟩
    · exact hs x y c hx hy h1
    · have a1 := hs x a p hx ha h1
      have a2 := hs b y q hb hy h2
      omega
/-- a bound that breaks what is known leaves no numbers -/
theorem zd_no {n a b : Nat} {k d : Int} {g : Nat → Nat → Option Int} (ha : a < n) (hb : b < n) (hL : zd_L g b a d) (hk : d + k < 0) {v : Nat → Int} (hs : zd_Sat n g v) (hv : v a - v b ≤ k) : False := by
  have := hs b a d hb ha hL
  omega
/-- the bounds of a closed matrix are reached -/
theorem zd_sup {n : Nat} {g : Nat → Nat → Option Int} (h : zd_Cls n g) {x y : Nat} (hx : x < n) (hy : y < n) {d : Int} (hd : g x y = some d) : ∃ v, zd_Sat n g v ∧ v x - v y = d := by
  have hk : ∀ e, zd_L g x y e → 0 ≤ e + (-d) := by
    rintro e ⟨e', h1, h2⟩
    rw [hd] at h1
    cases h1
    omega
  obtain ⟨v, hv⟩ := zd_sat (zd_lrn_cls h hy hx hk)
  obtain ⟨h1, h2⟩ := (zd_lrn_sat h hy hx).mp hv
  have := h1 x y d hx hy (zd_L.eq hd)
  exact ⟨v, h1, by omega⟩
theorem zd_inf {n : Nat} {g : Nat → Nat → Option Int} (h : zd_Cls n g) {x y : Nat} (hx : x < n) (hy : y < n) (hd : g x y = none) (M : Int) : ∃ v, zd_Sat n g v ∧ M ≤ v x - v y := by
  have hk : ∀ e, zd_L g x y e → 0 ≤ e + (-M) := by
    rintro e ⟨e', h1, h2⟩
    rw [hd] at h1
    cases h1
  obtain ⟨v, hv⟩ := zd_sat (zd_lrn_cls h hy hx hk)
  obtain ⟨h1, h2⟩ := (zd_lrn_sat h hy hx).mp hv
  exact ⟨v, h1, by omega⟩
/-- what holds for all numbers is what the matrix says -/
theorem zd_shown {n : Nat} {g : Nat → Nat → Option Int} (h : zd_Cls n g) {x y : Nat} (hx : x < n) (hy : y < n) (k : Int) : zd_L g x y k ↔ ∀ v, zd_Sat n g v → v x - v y ≤ k := by
  constructor
  · exact fun hL v hs => hs x y k hx hy hL
  · intro hall
    cases hd : g x y with
    | none =>
      obtain ⟨v, h1, h2⟩ := zd_inf h hx hy hd (k + 1)
      have := hall v h1
      omega
    | some d =>
      obtain ⟨v, h1, h2⟩ := zd_sup h hx hy hd
      have := hall v h1
      exact ⟨d, hd, by omega⟩
/-- a name becomes another one's number plus k -/
def zd_mp (a b x : Nat) : Nat := if x = a then b else x
def zd_sh (a : Nat) (k : Int) (x : Nat) : Int := if x = a then k else 0
def zd_giv (a b : Nat) (k : Int) (g : Nat → Nat → Option Int) : Nat → Nat → Option Int := fun x y =>
  (g (zd_mp a b x) (zd_mp a b y)).map (fun d => d + zd_sh a k x - zd_sh a k y)
theorem zd_mp_lt {n a b x : Nat} (hb : b < n) (hx : x < n) : zd_mp a b x < n := by
  unfold zd_mp
  split <;> assumption
theorem zd_giv_L {a b : Nat} {k : Int} {g : Nat → Nat → Option Int} {x y : Nat} {c : Int} : zd_L (zd_giv a b k g) x y c ↔ zd_L g (zd_mp a b x) (zd_mp a b y) (c - zd_sh a k x + zd_sh a k y) := by
  unfold zd_L zd_giv
  cases h : g (zd_mp a b x) (zd_mp a b y) with
  | none => simp
  | some d =>
    simp only [Option.map_some, Option.some.injEq]
    constructor
    · rintro ⟨d', rfl, hc⟩
      exact ⟨d, rfl, by omega⟩
    · rintro ⟨d', rfl, hc⟩
      exact ⟨_, rfl, by omega⟩
theorem zd_giv_cls {n a b : Nat} {k : Int} {g : Nat → Nat → Option Int} (h : zd_Cls n g) (hb : b < n) : zd_Cls n (zd_giv a b k g) := by
  refine ⟨fun x hx => ?_, ?_⟩
  · unfold zd_giv
    rw [h.1 _ (zd_mp_lt hb hx)]
    simp only [Option.map_some, Option.some.injEq]
    omega
  · intro x y z c e hx hy hz h1 h2
    rw [zd_giv_L] at h1 h2 ⊢
    exact (h.2 _ _ _ _ _ (zd_mp_lt hb hx) (zd_mp_lt hb hy) (zd_mp_lt hb hz) h1 h2).mono (by omega)
/-- nothing is known of a name -/
def zd_fgt (a : Nat) (g : Nat → Nat → Option Int) : Nat → Nat → Option Int := fun x y =>
  if x = a ∨ y = a then (if x = y then some 0 else none) else g x y
theorem zd_fgt_cls {n a : Nat} {g : Nat → Nat → Option Int} (h : zd_Cls n g) : zd_Cls n (zd_fgt a g) := by
  refine ⟨fun x hx => ?_, ?_⟩
  · unfold zd_fgt
    split
    · rw [if_pos rfl]
    · exact h.1 x hx
  · intro x y z c e hx hy hz h1 h2
    unfold zd_L zd_fgt at *
    obtain ⟨d1, h1, l1⟩ := h1
    obtain ⟨d2, h2, l2⟩ := h2
    by_cases ex : x = a
    · rw [if_pos (Or.inl ex)] at h1
      by_cases exy : x = y
      · rw [if_pos exy] at h1
        cases h1
        subst exy
        exact ⟨d2, h2, by omega⟩
      · rw [if_neg exy] at h1
        cases h1
    · by_cases ey : y = a
      · rw [if_pos (Or.inr ey), if_neg (by omega)] at h1
        cases h1
      · rw [if_neg (by omega)] at h1
        by_cases ez : z = a
        · rw [if_pos (Or.inr ez), if_neg (by omega)] at h2
          cases h2
        · rw [if_neg (by omega)] at h2
          obtain ⟨c', h3, l3⟩ := h.2 x y z c e hx hy hz ⟨d1, h1, l1⟩ ⟨d2, h2, l2⟩
          rw [if_neg (by omega)]
          exact ⟨c', h3, l3⟩
/-- a number between lower and upper bounds -/
theorem zd_between (lo hi : Nat → Option Int) : ∀ (n : Nat), (∀ i j l u, i < n → j < n → lo i = some l → hi j = some u → l ≤ u) → ∃ t, (∀ i l, i < n → lo i = some l → l ≤ t) ∧ (∀ j u, j < n → hi j = some u → t ≤ u) := by
  intro n
  induction n with
  | zero => exact fun _ => ⟨0, fun i l h => by omega, fun i l h => by omega⟩
  | succ n ih =>
    intro h
    obtain ⟨t, h1, h2⟩ := ih (fun i j l u hi hj => h i j l u (by omega) (by omega))
    obtain ⟨t1, a1, a2⟩ : ∃ t1, (∀ i l, i < n + 1 → lo i = some l → l ≤ t1) ∧ (∀ j u, j < n → hi j = some u → t1 ≤ u) := by
      cases e : lo n with
      | none =>
        refine ⟨t, fun i l hi hl => ?_, h2⟩
        by_cases ei : i = n
        · subst ei; rw [e] at hl; cases hl
        · exact h1 i l (by omega) hl
      | some l0 =>
        refine ⟨if l0 ≤ t then t else l0, fun i l hi hl => ?_, fun j u hj hu => ?_⟩
        · by_cases ei : i = n
          · subst ei; rw [e] at hl; cases hl
            split <;> omega
          · have := h1 i l (by omega) hl
            split <;> omega
        · have b1 := h2 j u hj hu
          have b2 := h n j l0 u (by omega) (by omega) e hu
          split <;> omega
    cases e : hi n with
    | none =>
      refine ⟨t1, a1, fun j u hj hu => ?_⟩
      by_cases ej : j = n
      · subst ej; rw [e] at hu; cases hu
      · exact a2 j u (by omega) hu
    | some u0 =>
      refine ⟨if t1 ≤ u0 then t1 else u0, fun i l hi hl => ?_, fun j u hj hu => ?_⟩
      · have b1 := a1 i l hi hl
        have b2 := h i n l u0 hi (by omega) hl e
        split <;> omega
      · by_cases ej : j = n
        · subst ej; rw [e] at hu; cases hu
          split <;> omega
        · have := a2 j u (by omega) hu
          split <;> omega
/-- numbers for all names but one can be filled up -/
def zd_up (v : Nat → Int) (a : Nat) (t : Int) : Nat → Int := fun x => if x = a then t else v x
theorem zd_fill {n a : Nat} {g : Nat → Nat → Option Int} (h : zd_Cls n g) (ha : a < n) {v : Nat → Int} (hs : zd_Sat n (zd_fgt a g) v) : ∃ t, zd_Sat n g (zd_up v a t) := by
  have hg : ∀ x y c, x < n → y < n → x ≠ a → y ≠ a → zd_L g x y c → v x - v y ≤ c := fun x y c hx hy ex ey hL => hs x y c hx hy (by
    obtain ⟨d, h1, h2⟩ := hL
    exact ⟨d, by unfold zd_fgt; rw [if_neg (by omega)]; exact h1, h2⟩)
  obtain ⟨t, h1, h2⟩ := zd_between (fun x => if x = a then none else (g x a).map (fun d => v x - d)) (fun y => if y = a then none else (g a y).map (fun d => v y + d)) n (by
    intro i j l u hi hj hl hu
    split at hl
    · cases hl
    · split at hu
      · cases hu
      · cases e1 : g i a with
        | none => rw [e1] at hl; cases hl
        | some d1 =>
          cases e2 : g a j with
          | none => rw [e2] at hu; cases hu
          | some d2 =>
            rw [e1] at hl
            rw [e2] at hu
            simp only [Option.map_some, Option.some.injEq] at hl hu
            have := hg i j (d1 + d2) hi hj (by assumption) (by assumption) (h.2 i a j d1 d2 hi ha hj (zd_L.eq e1) (zd_L.eq e2))
            omega)
  refine ⟨t, ?_⟩
  intro x y c hx hy hL
  unfold zd_up
  by_cases ex : x = a
  · rw [if_pos ex]
    by_cases ey : y = a
    · rw [if_pos ey]
      obtain ⟨d, e1, l1⟩ := hL
      rw [ex, ey, h.1 a ha] at e1
      cases e1
      omega
    · rw [if_neg ey]
      obtain ⟨d, e1, l1⟩ := hL
      rw [ex] at e1
      have := h2 y (v y + d) hy (by simp only [if_neg ey, e1, Option.map_some])
      omega
  · rw [if_neg ex]
    by_cases ey : y = a
    · rw [if_pos ey]
      obtain ⟨d, e1, l1⟩ := hL
      rw [ey] at e1
      have := h1 x (v x - d) hx (by simp only [if_neg ex, e1, Option.map_some])
      omega
    · rw [if_neg ey]
      exact hg x y c hx hy ex ey hL
/-- forgetting is exact -/
theorem zd_fgt_sat {n a : Nat} {g : Nat → Nat → Option Int} (h : zd_Cls n g) (ha : a < n) {v : Nat → Int} : zd_Sat n (zd_fgt a g) v ↔ ∃ t, zd_Sat n g (zd_up v a t) := by
  constructor
  · exact fun hs => zd_fill h ha hs
  · rintro ⟨t, hs⟩ x y c hx hy ⟨d, h1, l1⟩
    unfold zd_fgt at h1
    by_cases e : x = a ∨ y = a
    · rw [if_pos e] at h1
      by_cases e2 : x = y
      · rw [if_pos e2] at h1
        cases h1
        subst e2
        omega
      · rw [if_neg e2] at h1
        cases h1
    · rw [if_neg e] at h1
      have := hs x y c hx hy ⟨d, h1, l1⟩
      unfold zd_up at this
      rw [if_neg (by omega), if_neg (by omega)] at this
      exact this
/-- giving is exact -/
theorem zd_giv_sat {n a b : Nat} {k : Int} {g : Nat → Nat → Option Int} (h : zd_Cls n g) (ha : a < n) (hb : b < n) {v : Nat → Int} : zd_Sat n (zd_giv a b k g) v ↔ ∃ w, zd_Sat n g w ∧ v a = w b + k ∧ ∀ x, x < n → x ≠ a → v x = w x := by
  constructor
  · intro hs
    by_cases eab : a = b
    · subst eab
      refine ⟨fun x => v x - zd_sh a k x, ?_, ?_, ?_⟩
      · intro x y c hx hy hL
        have hid : ∀ z, zd_mp a a z = z := fun z => by unfold zd_mp; split <;> omega
        have := hs x y (c + zd_sh a k x - zd_sh a k y) hx hy (zd_giv_L.mpr (by rw [hid, hid]; exact hL.mono (by omega)))
        show v x - zd_sh a k x - (v y - zd_sh a k y) ≤ c
        omega
      · simp [zd_sh]
      · intro x _ ex
        simp [zd_sh, ex]
    · -- v satisfies what g says of the others
      have hf : zd_Sat n (zd_fgt a g) v := by
        intro x y c hx hy hL
        obtain ⟨d, h1, l1⟩ := hL
        unfold zd_fgt at h1
        by_cases e : x = a ∨ y = a
        · rw [if_pos e] at h1
          by_cases e2 : x = y
          · rw [if_pos e2] at h1
            cases h1
            subst e2
            omega
          · rw [if_neg e2] at h1
            cases h1
        · rw [if_neg e] at h1
          refine hs x y c hx hy (zd_giv_L.mpr ?_)
          have e1 : zd_mp a b x = x := by unfold zd_mp; rw [if_neg (by omega)]
          have e2 : zd_mp a b y = y := by unfold zd_mp; rw [if_neg (by omega)]
          have e3 : zd_sh a k x = 0 := by unfold zd_sh; rw [if_neg (by omega)]
          have e4 : zd_sh a k y = 0 := by unfold zd_sh; rw [if_neg (by omega)]
          rw [e1, e2, e3, e4]
          exact ⟨d, h1, by omega⟩
      obtain ⟨t, ht⟩ := zd_fill h ha hf
      refine ⟨zd_up v a t, ht, ?_, ?_⟩
      · have e1 : zd_mp a b a = b := by unfold zd_mp; rw [if_pos rfl]
        have e2 : zd_mp a b b = b := by unfold zd_mp; rw [if_neg (by omega)]
        have e3 : zd_sh a k a = k := by unfold zd_sh; rw [if_pos rfl]
        have e4 : zd_sh a k b = 0 := by unfold zd_sh; rw [if_neg (by omega)]
        have h0 := zd_L.eq (h.1 b hb)
        have b1 := hs a b k ha hb (zd_giv_L.mpr (by rw [e1, e2, e3, e4]; exact h0.mono (by omega)))
        have b2 := hs b a (-k) hb ha (zd_giv_L.mpr (by rw [e1, e2, e3, e4]; exact h0.mono (by omega)))
        unfold zd_up
        rw [if_neg (by omega)]
        omega
      · intro x _ ex
        unfold zd_up
        rw [if_neg ex]
  · rintro ⟨w, hs, e1, e2⟩ x y c hx hy hL
    have hL' := hs _ _ _ (zd_mp_lt hb hx) (zd_mp_lt hb hy) (zd_giv_L.mp hL)
    have hv : ∀ z, z < n → v z = w (zd_mp a b z) + zd_sh a k z := by
      intro z hz
      unfold zd_mp zd_sh
      split
      · subst_vars; exact e1
      · rw [e2 z hz (by assumption)]; omega
    rw [hv x hx, hv y hy]
    omega
