/-! The model's rows of longs stand for matrices: its name 12 is the class's name 3, its own name 3 is never used. -/
def jx (x : Nat) : Nat := if x = 12 then 3 else x
def jn (a : Nat) : Nat := if a = 3 then 12 else a
def jG (G : Nat → Nat → Option Int) : Nat → Nat → Option Int := fun x y => if x = 3 ∨ y = 3 then (if x = y then some 0 else none) else G (jx x) (jx y)
theorem jn_lt {a : Nat} (h : a < 12) : jn a < 13 := by
  unfold jn
  split <;> omega
theorem jx_lt {a : Nat} (h : a < 13) : jx a < 12 := by
  unfold jx
  split <;> omega
theorem jx_jn {a : Nat} (h : a < 12) : jx (jn a) = a := by
  unfold jx jn
  split <;> split <;> omega
theorem jn_3 (a : Nat) : jn a ≠ 3 := by
  unfold jn
  split <;> omega
theorem jG_at {G : Nat → Nat → Option Int} {a b : Nat} (ha : a < 12) (hb : b < 12) : jG G (jn a) (jn b) = G a b := by
  unfold jG
  rw [if_neg (by have := jn_3 a; have := jn_3 b; omega), jx_jn ha, jx_jn hb]
theorem jG_in {G : Nat → Nat → Option Int} {x y : Nat} (hx : x ≠ 3) (hy : y ≠ 3) : jG G x y = G (jx x) (jx y) := by
  unfold jG
  rw [if_neg (by omega)]
theorem jG_out {G : Nat → Nat → Option Int} {x y : Nat} (h : x = 3 ∨ y = 3) : jG G x y = if x = y then some 0 else none := by
  unfold jG
  rw [if_pos h]
theorem jG_3n {G : Nat → Nat → Option Int} {a : Nat} : jG G 3 (jn a) = none := by
  rw [jG_out (Or.inl rfl), if_neg (fun h => jn_3 a h.symm)]
theorem jG_n3 {G : Nat → Nat → Option Int} {a : Nat} : jG G (jn a) 3 = none := by
  rw [jG_out (Or.inr rfl), if_neg (jn_3 a)]
theorem jG_diag {G : Nat → Nat → Option Int} (h : ∀ x, x < 12 → G x x = some 0) {x : Nat} (hx : x < 13) : jG G x x = some 0 := by
  by_cases e : x = 3
  · rw [jG_out (Or.inl e), if_pos rfl]
  · rw [jG_in e e, h _ (jx_lt hx)]
theorem jG_sml {G : Nat → Nat → Option Int} (h : Sml 12 G) : Sml 13 (jG G) := fun x y d hx hy hd => by
  by_cases e : x = 3 ∨ y = 3
  · rw [jG_out e] at hd
    split at hd
    · cases hd; omega
    · cases hd
  · rw [jG_in (by omega) (by omega)] at hd
    exact h _ _ d (jx_lt hx) (jx_lt hy) hd
theorem jx_eq {x a : Nat} (hx : x < 13) (h3 : x ≠ 3) (ha : a < 12) : jx x = a ↔ x = jn a := by
  unfold jx jn
  split <;> split <;> omega
theorem jG_lrn {G : Nat → Nat → Option Int} {a b : Nat} {k : Int} (ha : a < 12) (hb : b < 12) {x y : Nat} (hx : x < 13) (hy : y < 13) : zd_lrn (jn a) (jn b) k (jG G) x y = jG (zd_lrn a b k G) x y := by
  by_cases e : x = 3
  · rw [e, lrn_none jG_3n, jG_out (Or.inl rfl), jG_out (Or.inl rfl)]
  · by_cases e2 : y = 3
    · rw [e2, jG_out (G := zd_lrn a b k G) (Or.inr rfl)]
      unfold zd_lrn
      rw [jG_n3, jG_out (G := G) (x := x) (Or.inr rfl)]
      cases jG G x (jn a) <;> rfl
    · rw [jG_in e e2]
      unfold zd_lrn
      rw [jG_in e (jn_3 a), jG_in (jn_3 b) e2, jx_jn ha, jx_jn hb, jG_in e e2]
theorem jG_fgt {G : Nat → Nat → Option Int} {a : Nat} (ha : a < 12) {x y : Nat} (hx : x < 13) (hy : y < 13) : zd_fgt (jn a) (jG G) x y = jG (zd_fgt a G) x y := by
  have h3 := jn_3 a
  by_cases e : x = 3 ∨ y = 3
  · rw [jG_out (G := zd_fgt a G) e]
    unfold zd_fgt
    split
    · rfl
    · rw [jG_out e]
  · rw [jG_in (by omega) (by omega)]
    unfold zd_fgt
    have h1 := jx_eq hx (by omega) ha
    have h2 := jx_eq hy (by omega) ha
    by_cases c : x = jn a ∨ y = jn a
    · rw [if_pos c, if_pos (c := jx x = a ∨ jx y = a) (by rw [h1, h2]; exact c)]
      have h4 : x = y ↔ jx x = jx y := by
        unfold jx
        split <;> split <;> omega
      by_cases c2 : x = y
      · rw [if_pos c2, if_pos (h4.mp c2)]
      · rw [if_neg c2, if_neg (fun z => c2 (h4.mpr z))]
    · rw [if_neg c, if_neg (c := jx x = a ∨ jx y = a) (by rw [h1, h2]; exact c), jG_in (by omega) (by omega)]
theorem rpl_forget {g : Nat → Int64} {G : Nat → Nat → Option Int} {a : Nat} (ha : a < 13) (hd : G a a = some 0) (h : RpL g G) : RpL (r_it (m_fg a) 13 0 g) (zd_fgt a G) := by
  have := r_it_inv (m_fg a) (fun j g' => ∀ x y, x < 13 → y < 13 → g' (13 * x + y) = encL (if (x = a ∧ y ≠ a ∧ y < j) ∨ (y = a ∧ x ≠ a ∧ x < j) then none else G x y)) 13 0 g (fun x y hx hy => by
      rw [if_neg (by omega)]; exact h x y hx hy) (fun j g' _ hj hi x y hx hy => by
      unfold m_fg
      by_cases e : j = a
      · rw [if_pos e, hi x y hx hy]
        by_cases c : (x = a ∧ y ≠ a ∧ y < j) ∨ (y = a ∧ x ≠ a ∧ x < j)
        · rw [if_pos c, if_pos (by omega)]
        · rw [if_neg c, if_neg (by omega)]
      · rw [if_neg e, updL_at _ _ _ _ _ _ hy ha, updL_at _ _ _ _ _ _ hy (by omega)]
        by_cases c1 : x = j ∧ y = a
        · rw [if_pos c1, if_pos (by omega)]; rfl
        · rw [if_neg c1]
          by_cases c2 : x = a ∧ y = j
          · rw [if_pos c2, if_pos (by omega)]; rfl
          · rw [if_neg c2, hi x y hx hy]
            by_cases c : (x = a ∧ y ≠ a ∧ y < j) ∨ (y = a ∧ x ≠ a ∧ x < j)
            · rw [if_pos c, if_pos (by omega)]
            · rw [if_neg c, if_neg (by omega)])
  intro x y hx hy
  rw [this x y hx hy]
  unfold zd_fgt
  by_cases c : x = a ∨ y = a
  · rw [if_pos c]
    by_cases e : x = y
    · rw [if_pos e, if_neg (by omega)]
      rw [show x = a by omega, show y = a by omega, hd]
    · rw [if_neg e, if_pos (by omega)]
  · rw [if_neg c, if_neg (by omega)]
def jR (a : Nat) (G : Nat → Nat → Option Int) : Nat → Nat → Option Int := fun x y => if x = a ∧ y ≠ a ∧ y < 12 then G 12 y else if y = a ∧ x ≠ a ∧ x < 12 then G x 12 else G x y
theorem rpl_rename1 {g : Nat → Int64} {G : Nat → Nat → Option Int} {a : Nat} (ha : a < 12) (h : RpL g G) : RpL (r_it (m_rn a) 12 0 g) (jR a G) := by
  have := r_it_inv (m_rn a) (fun j g' => ∀ x y, x < 13 → y < 13 → g' (13 * x + y) = encL (if (x = a ∧ y ≠ a ∧ y < j) ∨ (y = a ∧ x ≠ a ∧ x < j) then jR a G x y else G x y)) 12 0 g (fun x y hx hy => by
      rw [if_neg (by omega)]; exact h x y hx hy) (fun j g' _ hj hi x y hx hy => by
      unfold m_rn
      by_cases e : j = a
      · rw [if_pos e, hi x y hx hy]
        by_cases c : (x = a ∧ y ≠ a ∧ y < j) ∨ (y = a ∧ x ≠ a ∧ x < j)
        · rw [if_pos c, if_pos (by omega)]
        · rw [if_neg c, if_neg (by omega)]
      · rw [if_neg e]
        have r1 : g' (156 + j) = encL (G 12 j) := by rw [show 156 + j = 13 * 12 + j by omega, hi 12 j (by omega) (by omega), if_neg (by omega)]
        have r2 : ∀ v, vp_updL g' (13 * a + j) v (13 * j + 12) = encL (G j 12) := fun v => by
          rw [updL_at _ _ _ _ _ _ (by omega) (by omega), if_neg (by omega), hi j 12 (by omega) (by omega), if_neg (by omega)]
        simp only [r1, r2]
        rw [updL_at _ _ _ _ _ _ hy (by omega), updL_at _ _ _ _ _ _ hy (by omega)]
        by_cases c1 : x = j ∧ y = a
        · rw [if_pos c1, if_pos (by omega), c1.1, c1.2]
          unfold jR
          rw [if_neg (by omega), if_pos (by omega)]
        · rw [if_neg c1]
          by_cases c2 : x = a ∧ y = j
          · rw [if_pos c2, if_pos (by omega), c2.1, c2.2]
            unfold jR
            rw [if_pos (by omega)]
          · rw [if_neg c2, hi x y hx hy]
            by_cases c : (x = a ∧ y ≠ a ∧ y < j) ∨ (y = a ∧ x ≠ a ∧ x < j)
            · rw [if_pos c, if_pos (by omega)]
            · rw [if_neg c, if_neg (by omega)])
  intro x y hx hy
  rw [this x y hx hy]
  by_cases c : (x = a ∧ y ≠ a ∧ y < 12) ∨ (y = a ∧ x ≠ a ∧ x < 12)
  · rw [if_pos (by omega)]
  · rw [if_neg (by omega)]
    unfold jR
    rw [if_neg (by omega), if_neg (by omega)]
theorem rpl_rename {g : Nat → Int64} {G : Nat → Nat → Option Int} {a : Nat} (ha : a < 12) (h3 : a ≠ 3) (hd : ∀ x, x < 12 → G x x = some 0) (h : RpL g (jG G)) : RpL (r_it (m_fg 12) 13 0 (r_it (m_rn a) 12 0 g)) (jG (zd_fgt 3 (zd_giv a 3 0 G))) := by
  have h1 := rpl_rename1 ha h
  have h2 := rpl_forget (a := 12) (by omega) (by unfold jR; rw [if_neg (by omega), if_neg (by omega)]; exact jG_diag hd (by omega)) h1
  intro x y hx hy
  rw [h2 x y hx hy]
  congr 1
  by_cases c : x = 12 ∨ y = 12
  · unfold zd_fgt
    rw [if_pos c]
    by_cases e : x = 3 ∨ y = 3
    · rw [jG_out e]
    · rw [jG_in (by omega) (by omega), if_pos (c := jx x = 3 ∨ jx y = 3) (by unfold jx; split <;> split <;> omega)]
      have h4 : x = y ↔ jx x = jx y := by
        unfold jx
        split <;> split <;> omega
      by_cases c2 : x = y
      · rw [if_pos c2, if_pos (h4.mp c2)]
      · rw [if_neg c2, if_neg (fun z => c2 (h4.mpr z))]
  · rw [show zd_fgt 12 (jR a (jG G)) x y = jR a (jG G) x y by unfold zd_fgt; rw [if_neg c]]
    unfold jR
    by_cases e : x = 3 ∨ y = 3
    · rw [jG_out (G := zd_fgt 3 _) e]
      by_cases c1 : x = a ∧ y ≠ a ∧ y < 12
      · rw [if_pos c1, jG_out (by omega), if_neg (by omega), if_neg (by omega)]
      · rw [if_neg c1]
        by_cases c2 : y = a ∧ x ≠ a ∧ x < 12
        · rw [if_pos c2, jG_out (by omega), if_neg (by omega), if_neg (by omega)]
        · rw [if_neg c2, jG_out e]
    · have ex : jx x = x := by unfold jx; rw [if_neg (by omega)]
      have ey : jx y = y := by unfold jx; rw [if_neg (by omega)]
      rw [jG_in (G := zd_fgt 3 _) (by omega) (by omega), ex, ey]
      rw [show zd_fgt 3 (zd_giv a 3 0 G) x y = zd_giv a 3 0 G x y by unfold zd_fgt; rw [if_neg e]]
      by_cases c1 : x = a ∧ y ≠ a ∧ y < 12
      · rw [if_pos c1, jG_in (by omega) (by omega), c1.1, giv_row c1.2.1, ey, show jx 12 = 3 from rfl]
        cases G 3 y with
        | none => rfl
        | some d => simp
      · rw [if_neg c1]
        by_cases c2 : y = a ∧ x ≠ a ∧ x < 12
        · rw [if_pos c2, jG_in (by omega) (by omega), c2.1, giv_col c2.2.1, ex, show jx 12 = 3 from rfl]
          cases G x 3 with
          | none => rfl
          | some d => simp
        · rw [if_neg c2, jG_in (by omega) (by omega), ex, ey]
          by_cases c3 : x = a
          · rw [c3, show y = a by omega, giv_diag (hd 3 (by omega)), hd a ha]
          · rw [giv_off c3 (by omega)]
theorem rpl_begin {g : Nat → Int64} : RpL (r_it m_b2 13 0 g) (jG kl_0.2) := by
  have := r_it_inv m_b2 (fun i g' => ∀ x y, x < i → x < 13 → y < 13 → g' (13 * x + y) = encL (if x = y then some 0 else none)) 13 0 g (fun x y h _ _ => by omega) (fun i g' _ hi12 hi => by
    unfold m_b2
    have inner := r_it_inv (m_b1 i) (fun j g2 => (∀ x y, x < i → x < 13 → y < 13 → g2 (13 * x + y) = encL (if x = y then some 0 else none)) ∧ ∀ y, y < j → y < 13 → g2 (13 * i + y) = encL (if i = y then some 0 else none)) 13 0 g' ⟨hi, fun y h _ => by omega⟩ (fun j g2 _ hj ⟨hi1, hi2⟩ => by
      unfold m_b1
      refine ⟨fun x y hx hx2 hy => ?_, fun y hy hy2 => ?_⟩
      · rw [updL_at _ _ _ _ _ _ hy (by omega), if_neg (by omega)]
        exact hi1 x y hx hx2 hy
      · rw [updL_at _ _ _ _ _ _ hy2 (by omega)]
        by_cases e : y = j
        · rw [if_pos ⟨rfl, e⟩, e]
          by_cases e2 : i = j
          · rw [if_pos e2, if_pos e2]; rfl
          · rw [if_neg e2, if_neg e2]; rfl
        · rw [if_neg (by omega)]
          exact hi2 y (by omega) hy2)
    intro x y hx hx2 hy
    by_cases e : x = i
    · rw [e]; exact inner.2 y (by omega) hy
    · exact inner.1 x y (by omega) hx2 hy)
  intro x y hx hy
  rw [this x y (by omega) hx hy]
  congr 1
  by_cases e : x = 3 ∨ y = 3
  · rw [jG_out e]
  · rw [jG_in (by omega) (by omega)]
    simp only [kl_0]
    have h4 : x = y ↔ jx x = jx y := by
      unfold jx
      split <;> split <;> omega
    by_cases c2 : x = y
    · rw [if_pos c2, if_pos (h4.mp c2)]
    · rw [if_neg c2, if_neg (fun z => c2 (h4.mpr z))]
theorem lrn_col_a {a b x : Nat} {k : Int} {G : Nat → Nat → Option Int} (hc : ∀ d, zd_L G b a d → 0 ≤ d + k) : zd_lrn a b k G x a = G x a := by
  unfold zd_lrn
  cases h1 : G x a with
  | none => rfl
  | some p =>
    cases h2 : G b a with
    | none => rfl
    | some q =>
      have := hc q (zd_L.eq h2)
      simp only []
      rw [if_neg (by omega)]
theorem rpl_learn {g : Nat → Int64} {G : Nat → Nat → Option Int} {a b : Nat} {k : Int} (ha : a < 13) (hb : b < 13) (hk : -300000 ≤ k ∧ k ≤ 300000) (hc : ∀ d, zd_L G b a d → 0 ≤ d + k) (hs : Sml 13 G) (h : RpL g G) : RpL (r_it (m_l2 a b (Int64.ofInt k)) 13 0 g) (zd_lrn a b k G) := by
  have := r_it_inv (m_l2 a b (Int64.ofInt k)) (fun i g' => ∀ x y, x < 13 → y < 13 → g' (13 * x + y) = encL (if x < i then zd_lrn a b k G x y else G x y)) 13 0 g (fun x y hx hy => by
      rw [if_neg (by omega)]; exact h x y hx hy) (fun i g' _ hi12 hi => by
      have ra : g' (13 * i + a) = encL (G i a) := by rw [hi i a (by omega) ha, if_neg (by omega)]
      unfold m_l2
      simp only [lg_cmp_eq]
      by_cases e : G i a = none
      · rw [if_pos (by rw [ra]; exact (encL_far (hs i a · (by omega) ha)).mpr e)]
        intro x y hx hy
        rw [hi x y hx hy]
        by_cases c : x < i
        · rw [if_pos c, if_pos (by omega)]
        · rw [if_neg c]
          by_cases c2 : x = i
          · rw [if_pos (by omega), c2, lrn_none e]
          · rw [if_neg (by omega)]
      · rw [if_neg (fun e2 => e ((encL_far (hs i a · (by omega) ha)).mp (by rw [← ra]; exact e2)))]
        obtain ⟨p, hp⟩ : ∃ p, G i a = some p := by
          cases h9 : G i a with
          | none => exact absurd h9 e
          | some p => exact ⟨p, rfl⟩
        have hpb := hs i a p (by omega) ha hp
        have inner := r_it_inv (m_l1 a b (Int64.ofInt k) i) (fun j g2 => ∀ x y, x < 13 → y < 13 → g2 (13 * x + y) = encL (if x < i ∨ (x = i ∧ y < j) then zd_lrn a b k G x y else G x y)) 13 0 g' (fun x y hx hy => by
            rw [hi x y hx hy]
            by_cases c : x < i
            · rw [if_pos c, if_pos (by omega)]
            · rw [if_neg c, if_neg (by omega)]) (fun j g2 _ hj hi2 => by
            have ra2 : g2 (13 * i + a) = encL (G i a) := by
              rw [hi2 i a (by omega) ha]
              split
              · rw [lrn_col_a hc]
              · rfl
            have rb : g2 (13 * b + j) = encL (G b j) := by
              rw [hi2 b j hb (by omega)]
              split
              · rw [lrn_row_b hc]
              · rfl
            have rf : g2 (13 * i + j) = encL (G i j) := by rw [hi2 i j (by omega) (by omega), if_neg (by omega)]
            have keep : zd_lrn a b k G i j = G i j → ∀ x y, x < 13 → y < 13 → g2 (13 * x + y) = encL (if x < i ∨ (x = i ∧ y < j + 1) then zd_lrn a b k G x y else G x y) := fun hk2 x y hx hy => by
              rw [hi2 x y hx hy]
              by_cases c : x < i ∨ (x = i ∧ y < j)
              · rw [if_pos c, if_pos (by omega)]
              · rw [if_neg c]
                by_cases c2 : x = i ∧ y = j
                · rw [if_pos (by omega), c2.1, c2.2, hk2]
                · rw [if_neg (by omega)]
            unfold m_l1
            simp only [lg_cmp_eq, lg_cmp_ge]
            by_cases e1 : G b j = none
            · rw [if_pos (by rw [rb]; exact (encL_far (hs b j · hb (by omega))).mpr e1)]
              refine keep ?_
              unfold zd_lrn
              rw [hp, e1]
            · rw [if_neg (fun e2 => e1 ((encL_far (hs b j · hb (by omega))).mp (by rw [← rb]; exact e2))), rb, rf, ra2]
              obtain ⟨q, hq⟩ : ∃ q, G b j = some q := by
                cases h9 : G b j with
                | none => exact absurd h9 e1
                | some q => exact ⟨q, rfl⟩
              have hqb := hs b j q hb (by omega) hq
              have hsum : encL (G i a) + Int64.ofInt k + encL (G b j) = Int64.ofInt (p + k + q) := by
                rw [hp, hq]
                show Int64.ofInt p + Int64.ofInt k + Int64.ofInt q = _
                rw [Int64.ofInt_add, Int64.ofInt_add]
              rw [hsum]
              have hst : (Int64.ofInt (p + k + q)).toInt = p + k + q := i64_of (by omega)
              have hlrn : zd_lrn a b k G i j = match G i j with
                  | none => some (p + k + q)
                  | some d => if p + k + q < d then some (p + k + q) else some d := by
                unfold zd_lrn
                (rw [hp, hq]) <;> cases G i j <;> rfl
              have put : zd_lrn a b k G i j = some (p + k + q) → ∀ x y, x < 13 → y < 13 → vp_updL g2 (13 * i + j) (Int64.ofInt (p + k + q)) (13 * x + y) = encL (if x < i ∨ (x = i ∧ y < j + 1) then zd_lrn a b k G x y else G x y) := fun hk2 x y hx hy => by
                rw [updL_at _ _ _ _ _ _ hy (by omega)]
                by_cases c2 : x = i ∧ y = j
                · rw [if_pos c2, if_pos (by omega), c2.1, c2.2, hk2]; rfl
                · rw [if_neg c2, hi2 x y hx hy]
                  by_cases c : x < i ∨ (x = i ∧ y < j)
                  · rw [if_pos c, if_pos (by omega)]
                  · rw [if_neg c, if_neg (by omega)]
              cases hG : G i j with
              | none =>
                rw [hG] at hlrn
                rw [if_neg (fun h9 => by
                  rw [Int64.le_iff_toInt_le, hst, show (encL none).toInt = 1000000000000 from i64_far] at h9
                  omega)]
                exact put hlrn
              | some d =>
                rw [hG] at hlrn
                have hdb := hs i j d (by omega) (by omega) hG
                by_cases c9 : p + k + q < d
                · rw [if_neg (fun h9 => by
                    rw [Int64.le_iff_toInt_le, hst, show (encL (some d)).toInt = d from i64_of (by omega)] at h9
                    omega)]
                  simp only [if_pos c9] at hlrn
                  exact put hlrn
                · rw [if_pos (by
                    rw [Int64.le_iff_toInt_le, hst, show (encL (some d)).toInt = d from i64_of (by omega)]
                    omega)]
                  simp only [if_neg c9] at hlrn
                  exact keep (by rw [hlrn, hG]))
        intro x y hx hy
        rw [inner x y hx hy]
        by_cases c : x < i + 1
        · rw [if_pos c, if_pos (by omega)]
        · rw [if_neg c, if_neg (by omega)])
  intro x y hx hy
  rw [this x y hx hy, if_pos (by omega)]
theorem RpL.eq {g : Nat → Int64} {G H : Nat → Nat → Option Int} (h : RpL g G) (e : ∀ x y, x < 13 → y < 13 → G x y = H x y) : RpL g H := fun x y hx hy => by
  rw [h x y hx hy, e x y hx hy]
