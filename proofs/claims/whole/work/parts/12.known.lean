/-! What is known, as the class keeps it: whether there are numbers, and a closed matrix of 12 names. -/
def kl_le (o : Option Int) (k : Int) : Bool := match o with
  | none => false
  | some d => decide (d ≤ k)
theorem kl_le_iff {g : Nat → Nat → Option Int} {x y : Nat} {k : Int} : kl_le (g x y) k = true ↔ zd_L g x y k := by
  unfold kl_le zd_L
  cases h : g x y with
  | none => simp
  | some d => simp
abbrev kl_K : Type := Bool × (Nat → Nat → Option Int)
def kl_0 : kl_K := (true, fun x y => if x = y then some 0 else none)
def kl_learn (a b : Nat) (k : Int) (K : kl_K) : kl_K :=
  if K.1 = false ∨ kl_le (K.2 a b) k = true then K
  else if kl_le (K.2 b a) (-k - 1) = true then (false, K.2)
  else (K.1, zd_lrn a b k K.2)
def kl_give (a b : Nat) (k : Int) (K : kl_K) : kl_K := (K.1, zd_giv a b k K.2)
def kl_forget (a : Nat) (K : kl_K) : kl_K := (K.1, zd_fgt a K.2)
def kl_ok (T : Int) (K : kl_K) : Prop := zd_Cls 12 K.2 ∧ zd_Bd 12 T K.2
def kl_sem (K : kl_K) (v : Nat → Int) : Prop := K.1 = true ∧ zd_Sat 12 K.2 v
theorem kl_ok.mono {T U : Int} {K : kl_K} (h : kl_ok T K) (hT : T ≤ U) : kl_ok U K := ⟨h.1, h.2.mono hT⟩
theorem kl_0_ok : kl_ok 0 kl_0 := by
  refine ⟨⟨fun x _ => by simp [kl_0], ?_⟩, zd_Bd_0 ?_⟩
  · rintro x y z c e _ _ _ ⟨d1, h1, l1⟩ ⟨d2, h2, l2⟩
    simp only [kl_0] at h1 h2
    split at h1
    · split at h2
      · cases h1; cases h2
        subst_vars
        exact ⟨0, by simp [kl_0], by omega⟩
      · cases h2
    · cases h1
  · intro x y d _ _ h
    simp only [kl_0] at h
    split at h
    · cases h; rfl
    · cases h
theorem kl_0_sem (v : Nat → Int) : kl_sem kl_0 v := by
  refine ⟨rfl, ?_⟩
  rintro x y c _ _ ⟨d, h, l⟩
  simp only [kl_0] at h
  split at h
  · cases h; subst_vars; omega
  · cases h
theorem kl_cons {a b : Nat} {k : Int} {g : Nat → Nat → Option Int} (h : ¬ kl_le (g b a) (-k - 1) = true) : ∀ d, zd_L g b a d → 0 ≤ d + k := by
  intro d hd
  rw [kl_le_iff] at h
  by_cases e : 0 ≤ d + k
  · exact e
  · exact absurd (hd.mono (by omega)) h
theorem kl_learn_ok {T : Int} {K : kl_K} {a b : Nat} {k : Int} (ha : a < 12) (hb : b < 12) (hk : -1001 ≤ k ∧ k ≤ 1001) (h : kl_ok T K) : kl_ok (T + 1001) (kl_learn a b k K) := by
  unfold kl_learn
  split
  · exact h.mono (by omega)
  · split
    · exact ⟨h.1, h.2.mono (by omega)⟩
    · rename_i h1 h2
      exact ⟨zd_lrn_cls h.1 ha hb (kl_cons h2), zd_Bd_lrn (fun d hd => kl_cons h2 d (zd_L.eq hd)) ha hb h.2 (by omega)⟩
theorem kl_learn_sem {T : Int} {K : kl_K} {a b : Nat} {k : Int} (ha : a < 12) (hb : b < 12) (h : kl_ok T K) (v : Nat → Int) : kl_sem (kl_learn a b k K) v ↔ kl_sem K v ∧ v a - v b ≤ k := by
  unfold kl_learn
  split
  · rename_i h1
    constructor
    · intro hs
      refine ⟨hs, ?_⟩
      rcases h1 with h1 | h1
      · rw [hs.1] at h1; cases h1
      · exact hs.2 a b k ha hb (kl_le_iff.mp h1)
    · exact fun hs => hs.1
  · split
    · rename_i h1 h2
      constructor
      · rintro ⟨h3, _⟩
        cases h3
      · rintro ⟨⟨_, hs⟩, hv⟩
        exact (zd_no ha hb (kl_le_iff.mp h2) (by omega) hs hv).elim
    · unfold kl_sem
      rw [zd_lrn_sat h.1 ha hb]
      exact ⟨fun ⟨h1, h2, h3⟩ => ⟨⟨h1, h2⟩, h3⟩, fun ⟨⟨h1, h2⟩, h3⟩ => ⟨h1, h2, h3⟩⟩
theorem kl_give_ok {T : Int} {K : kl_K} {a b : Nat} {k : Int} (hb : b < 12) (hk : -1001 ≤ k ∧ k ≤ 1001) (h : kl_ok T K) : kl_ok (T + 1001) (kl_give a b k K) := ⟨zd_giv_cls h.1 hb, zd_Bd_giv hb h.2 (by omega)⟩
theorem kl_give0_ok {T : Int} {K : kl_K} {a b : Nat} (hb : b < 12) (h : kl_ok T K) : kl_ok T (kl_give a b 0 K) := ⟨zd_giv_cls h.1 hb, (zd_Bd_giv (K := 0) hb h.2 (by omega)).mono (by omega)⟩
theorem kl_forget_ok {T : Int} {K : kl_K} {a : Nat} (h : kl_ok T K) : kl_ok T (kl_forget a K) := ⟨zd_fgt_cls h.1, zd_Bd_fgt h.2⟩
theorem kl_give_sem {T : Int} {K : kl_K} {a b : Nat} {k : Int} (ha : a < 12) (hb : b < 12) (h : kl_ok T K) (v : Nat → Int) : kl_sem (kl_give a b k K) v ↔ ∃ w, kl_sem K w ∧ v a = w b + k ∧ ∀ x, x < 12 → x ≠ a → v x = w x := by
  unfold kl_sem kl_give
  rw [zd_giv_sat h.1 ha hb]
  constructor
  · rintro ⟨h1, w, h2, h3, h4⟩
    exact ⟨w, ⟨h1, h2⟩, h3, h4⟩
  · rintro ⟨w, ⟨h1, h2⟩, h3, h4⟩
    exact ⟨h1, w, h2, h3, h4⟩
theorem kl_forget_sem {T : Int} {K : kl_K} {a : Nat} (ha : a < 12) (h : kl_ok T K) (v : Nat → Int) : kl_sem (kl_forget a K) v ↔ ∃ t, kl_sem K (zd_up v a t) := by
  unfold kl_sem kl_forget
  rw [zd_fgt_sat h.1 ha]
  constructor
  · rintro ⟨h1, t, h2⟩
    exact ⟨t, h1, h2⟩
  · rintro ⟨t, h1, h2⟩
    exact ⟨h1, t, h2⟩
theorem kl_any {T : Int} {K : kl_K} (h : kl_ok T K) : K.1 = true ↔ ∃ v, kl_sem K v := by
  constructor
  · intro h1
    obtain ⟨v, hv⟩ := zd_sat h.1
    exact ⟨v, h1, hv⟩
  · rintro ⟨v, h1, _⟩
    exact h1
/-- a relation is shown where it holds for all numbers -/
theorem kl_shown {T : Int} {K : kl_K} (h : kl_ok T K) (hp : K.1 = true) {x y : Nat} (hx : x < 12) (hy : y < 12) (k : Int) : kl_le (K.2 x y) k = true ↔ ∀ v, kl_sem K v → v x - v y ≤ k := by
  rw [kl_le_iff, zd_shown h.1 hx hy k]
  exact ⟨fun h1 v hv => h1 v hv.2, fun h1 v hv => h1 v ⟨hp, hv⟩⟩
