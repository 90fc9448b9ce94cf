/-! The rows of numbers stand for matrices: what the class's methods do to a row is what kl_learn, kl_give, kl_forget say. -/
theorem r_it_inv {σ : Type} (st : Nat → σ → σ) (I : Nat → σ → Prop) : ∀ (n i : Nat) (s : σ), I i s → (∀ j s, i ≤ j → j < i + n → I j s → I (j + 1) (st j s)) → I (i + n) (r_it st n i s) := by
  intro n
  induction n with
  | zero => intro i s h _; exact h
  | succ n ih =>
    intro i s h hs
    have := ih (i + 1) (st i s) (hs i s (Nat.le_refl _) (by omega) h) (fun j s h1 h2 => hs j s (by omega) (by omega))
    rw [show i + (n + 1) = i + 1 + n by omega]
    exact this
def encI (o : Option Int) : Int32 := match o with
  | none => 1000000
  | some d => Int32.ofInt d
def Rp (g : Nat → Int32) (G : Nat → Nat → Option Int) : Prop := ∀ x y, x < 12 → y < 12 → g (x * 12 + y) = encI (G x y)
def Sml (n : Nat) (G : Nat → Nat → Option Int) : Prop := ∀ x y d, x < n → y < n → G x y = some d → -300000 ≤ d ∧ d ≤ 300000
theorem Sml.of {n : Nat} {G : Nat → Nat → Option Int} {T : Int} (h : zd_Bd n T G) (hT : T ≤ 300000) : Sml n G := fun x y d hx hy hd => by
  have := h.one hx hy hd
  omega
theorem i32_max : (1000000 : Int32).toInt = 1000000 := by decide +kernel
theorem i32_of {d : Int} (h : -100000000 ≤ d ∧ d ≤ 100000000) : (Int32.ofInt d).toInt = d := Int32.toInt_ofInt_of_le (by omega) (by omega)
theorem enc_max {d : Int} (h : -999999 ≤ d ∧ d ≤ 999999) : ¬ Int32.ofInt d = 1000000 := fun e => by
  have := congrArg Int32.toInt e
  rw [i32_of (by omega), i32_max] at this
  omega
theorem enc_none {o : Option Int} (ho : ∀ d, o = some d → -300000 ≤ d ∧ d ≤ 300000) : encI o = 1000000 ↔ o = none := by
  cases o with
  | none => exact ⟨fun _ => rfl, fun _ => rfl⟩
  | some d =>
    have := ho d rfl
    exact ⟨fun h => absurd h (enc_max (by omega)), fun h => by cases h⟩
theorem enc_le {o : Option Int} {k : Int32} (ho : ∀ d, o = some d → -300000 ≤ d ∧ d ≤ 300000) (hk : -300000 ≤ k.toInt ∧ k.toInt ≤ 300000) : ¬ k < encI o ↔ kl_le o k.toInt = true := by
  rw [Int32.lt_iff_toInt_lt]
  cases o with
  | none =>
    simp only [encI, kl_le, i32_max]
    constructor
    · intro h; omega
    · intro h; cases h
  | some d =>
    have := ho d rfl
    simp only [encI, kl_le, i32_of (d := d) (by omega), decide_eq_true_eq]
    omega
theorem upd_at (g : Nat → Int32) (x y a b : Nat) (v : Int32) (hy : y < 12) (hb : b < 12) : upd g (a * 12 + b) v (x * 12 + y) = if x = a ∧ y = b then v else g (x * 12 + y) := by
  unfold upd
  by_cases e : x = a ∧ y = b
  · obtain ⟨rfl, rfl⟩ := e
    rw [if_pos rfl, if_pos ⟨rfl, rfl⟩]
  · rw [if_neg e, if_neg (fun h => e (by omega))]
theorem rp_forget {g : Nat → Int32} {G : Nat → Nat → Option Int} {a : Nat} (ha : a < 12) (hd : G a a = some 0) (h : Rp g G) : Rp (r_it (r_fg a) 12 0 g) (zd_fgt a G) := by
  have := r_it_inv (r_fg a) (fun j g' => ∀ x y, x < 12 → y < 12 → g' (x * 12 + y) = encI (if (x = a ∧ y ≠ a ∧ y < j) ∨ (y = a ∧ x ≠ a ∧ x < j) then none else G x y)) 12 0 g (fun x y hx hy => by
      rw [if_neg (by omega)]; exact h x y hx hy) (fun j g' _ hj hi x y hx hy => by
      unfold r_fg
      by_cases e : j = a
      · rw [if_pos e, hi x y hx hy]
        by_cases c : (x = a ∧ y ≠ a ∧ y < j) ∨ (y = a ∧ x ≠ a ∧ x < j)
        · rw [if_pos c, if_pos (by omega)]
        · rw [if_neg c, if_neg (by omega)]
      · rw [if_neg e, upd_at _ _ _ _ _ _ hy ha, upd_at _ _ _ _ _ _ hy (by omega)]
        by_cases c1 : x = j ∧ y = a
        · rw [if_pos c1, if_pos (by omega)]; rfl
        · rw [if_neg c1]
          by_cases c2 : x = a ∧ y = j
          · rw [if_pos c2, if_pos (by omega)]; rfl
          · rw [if_neg c2, hi x y hx hy]
            by_cases c : (x = a ∧ y ≠ a ∧ y < j) ∨ (y = a ∧ x ≠ a ∧ x < j)
            · rw [if_pos c, if_pos (by omega)]
            · rw [if_neg c, if_neg (by omega)])
  intro x y hx hy
  rw [this x y hx hy]
  unfold zd_fgt
  by_cases c : x = a ∨ y = a
  · rw [if_pos c]
    by_cases e : x = y
    · rw [if_pos e, if_neg (by omega)]
      rw [show x = a by omega, show y = a by omega, hd]
    · rw [if_neg e, if_pos (by omega)]
  · rw [if_neg c, if_neg (by omega)]
theorem enc_mv {o : Option Int} {k : Int32} (ho : ∀ d, o = some d → -300000 ≤ d ∧ d ≤ 300000) : (if encI o = 1000000 then 1000000 else encI o + k) = encI (o.map (fun d => d + k.toInt)) := by
  cases o with
  | none => rfl
  | some d =>
    have := ho d rfl
    have e : ¬ encI (some d) = 1000000 := enc_max (by omega)
    rw [if_neg e]
    show Int32.ofInt d + k = Int32.ofInt (d + k.toInt)
    rw [Int32.ofInt_add, Int32.ofInt_toInt]
theorem i32_neg {k : Int32} (hk : -300000 ≤ k.toInt ∧ k.toInt ≤ 300000) : (-k).toInt = -k.toInt := by
  rw [Int32.toInt_neg]
  exact Int.bmod_eq_of_le (by omega) (by omega)
theorem giv_row {a b y : Nat} {k : Int} {G : Nat → Nat → Option Int} (hy : y ≠ a) : zd_giv a b k G a y = (G b y).map (fun d => d + k) := by
  unfold zd_giv zd_mp zd_sh
  rw [if_pos rfl, if_neg hy, if_pos rfl, if_neg hy]
  congr 1
  funext d
  omega
theorem giv_col {a b x : Nat} {k : Int} {G : Nat → Nat → Option Int} (hx : x ≠ a) : zd_giv a b k G x a = (G x b).map (fun d => d + -k) := by
  unfold zd_giv zd_mp zd_sh
  rw [if_pos rfl, if_neg hx, if_pos rfl, if_neg hx]
  congr 1
  funext d
  omega
theorem giv_off {a b x y : Nat} {k : Int} {G : Nat → Nat → Option Int} (hx : x ≠ a) (hy : y ≠ a) : zd_giv a b k G x y = G x y := by
  unfold zd_giv zd_mp zd_sh
  rw [if_neg hx, if_neg hy, if_neg hx, if_neg hy]
  cases G x y with
  | none => rfl
  | some d => simp
theorem giv_diag {a b : Nat} {k : Int} {G : Nat → Nat → Option Int} (hb : G b b = some 0) : zd_giv a b k G a a = some 0 := by
  unfold zd_giv zd_mp zd_sh
  rw [if_pos rfl, if_pos rfl, hb]
  simp only [Option.map_some, Option.some.injEq]
  omega
theorem rp_give {g : Nat → Int32} {G : Nat → Nat → Option Int} {a b : Nat} {k : Int32} (ha : a < 12) (hb : b < 12) (hk : -300000 ≤ k.toInt ∧ k.toInt ≤ 300000) (hda : G a a = some 0) (hdb : G b b = some 0) (hs : Sml 12 G) (h : Rp g G) : Rp (r_it (r_gv a b k) 12 0 g) (zd_giv a b k.toInt G) := by
  have := r_it_inv (r_gv a b k) (fun j g' => ∀ x y, x < 12 → y < 12 → g' (x * 12 + y) = encI (if (x = a ∧ y ≠ a ∧ y < j) ∨ (y = a ∧ x ≠ a ∧ x < j) then zd_giv a b k.toInt G x y else G x y)) 12 0 g (fun x y hx hy => by
      rw [if_neg (by omega)]; exact h x y hx hy) (fun j g' _ hj hi x y hx hy => by
      unfold r_gv
      by_cases e : j = a
      · rw [if_pos e, hi x y hx hy]
        by_cases c : (x = a ∧ y ≠ a ∧ y < j) ∨ (y = a ∧ x ≠ a ∧ x < j)
        · rw [if_pos c, if_pos (by omega)]
        · rw [if_neg c, if_neg (by omega)]
      · rw [if_neg e]
        have r1 : g' (b * 12 + j) = encI (G b j) := by rw [hi b j hb (by omega), if_neg (by omega)]
        have r2 : ∀ v, upd g' (a * 12 + j) v (j * 12 + b) = encI (G j b) := fun v => by
          rw [upd_at _ _ _ _ _ _ hb (by omega), if_neg (by omega), hi j b (by omega) hb, if_neg (by omega)]
        simp only [r1, r2]
        rw [upd_at _ _ _ _ _ _ hy ha, upd_at _ _ _ _ _ _ hy (by omega)]
        rw [enc_mv (hs b j · hb (by omega)), enc_mv (hs j b · (by omega) hb), i32_neg hk]
        by_cases c1 : x = j ∧ y = a
        · rw [if_pos c1, if_pos (by omega), c1.1, c1.2, giv_col e]
        · rw [if_neg c1]
          by_cases c2 : x = a ∧ y = j
          · rw [if_pos c2, if_pos (by omega), c2.1, c2.2, giv_row e]
          · rw [if_neg c2, hi x y hx hy]
            by_cases c : (x = a ∧ y ≠ a ∧ y < j) ∨ (y = a ∧ x ≠ a ∧ x < j)
            · rw [if_pos c, if_pos (by omega)]
            · rw [if_neg c, if_neg (by omega)])
  intro x y hx hy
  rw [this x y hx hy]
  by_cases cx : x = a
  · by_cases cy : y = a
    · rw [if_neg (by omega), cx, cy, giv_diag hdb, hda]
    · rw [if_pos (by omega)]
  · by_cases cy : y = a
    · rw [if_pos (by omega)]
    · rw [if_neg (by omega), giv_off cx cy]
theorem lrn_row_b {a b y : Nat} {k : Int} {G : Nat → Nat → Option Int} (hc : ∀ d, zd_L G b a d → 0 ≤ d + k) : zd_lrn a b k G b y = G b y := by
  unfold zd_lrn
  cases h1 : G b a with
  | none => rfl
  | some p =>
    cases h2 : G b y with
    | none => rfl
    | some q =>
      have := hc p (zd_L.eq h1)
      simp only []
      rw [if_neg (by omega)]
theorem lrn_none {a b x y : Nat} {k : Int} {G : Nat → Nat → Option Int} (h : G x a = none) : zd_lrn a b k G x y = G x y := by
  unfold zd_lrn
  rw [h]
theorem rp_learn {g : Nat → Int32} {G : Nat → Nat → Option Int} {a b : Nat} {k : Int32} (ha : a < 12) (hb : b < 12) (hk : -300000 ≤ k.toInt ∧ k.toInt ≤ 300000) (hc : ∀ d, zd_L G b a d → 0 ≤ d + k.toInt) (hs : Sml 12 G) (h : Rp g G) : Rp (r_ln a b k g) (zd_lrn a b k.toInt G) := by
  have := r_it_inv (r_l2 a b k) (fun i g' => ∀ x y, x < 12 → y < 12 → g' (x * 12 + y) = encI (if x < i then zd_lrn a b k.toInt G x y else G x y)) 12 0 g (fun x y hx hy => by
      rw [if_neg (by omega)]; exact h x y hx hy) (fun i g' _ hi12 hi => by
      have ra : g' (i * 12 + a) = encI (G i a) := by rw [hi i a (by omega) ha, if_neg (by omega)]
      unfold r_l2
      by_cases e : G i a = none
      · rw [if_pos (by rw [ra]; exact (enc_none (hs i a · (by omega) ha)).mpr e)]
        intro x y hx hy
        rw [hi x y hx hy]
        by_cases c : x < i
        · rw [if_pos c, if_pos (by omega)]
        · rw [if_neg c]
          by_cases c2 : x = i
          · rw [if_pos (by omega), c2, lrn_none e]
          · rw [if_neg (by omega)]
      · rw [if_neg (fun e2 => e ((enc_none (hs i a · (by omega) ha)).mp (by rw [← ra]; exact e2))), ra]
        obtain ⟨p, hp⟩ : ∃ p, G i a = some p := by
          cases h9 : G i a with
          | none => exact absurd h9 e
          | some p => exact ⟨p, rfl⟩
        have hpb := hs i a p (by omega) ha hp
        have inner := r_it_inv (r_l1 i b k (encI (G i a))) (fun j g2 => ∀ x y, x < 12 → y < 12 → g2 (x * 12 + y) = encI (if x < i ∨ (x = i ∧ y < j) then zd_lrn a b k.toInt G x y else G x y)) 12 0 g' (fun x y hx hy => by
            rw [hi x y hx hy]
            by_cases c : x < i
            · rw [if_pos c, if_pos (by omega)]
            · rw [if_neg c, if_neg (by omega)]) (fun j g2 _ hj hi2 => by
            have rb : g2 (b * 12 + j) = encI (G b j) := by
              rw [hi2 b j hb (by omega)]
              split
              · rw [lrn_row_b hc]
              · rfl
            have rf : g2 (i * 12 + j) = encI (G i j) := by rw [hi2 i j (by omega) (by omega), if_neg (by omega)]
            have keep : zd_lrn a b k.toInt G i j = G i j → ∀ x y, x < 12 → y < 12 → g2 (x * 12 + y) = encI (if x < i ∨ (x = i ∧ y < j + 1) then zd_lrn a b k.toInt G x y else G x y) := fun hk2 x y hx hy => by
              rw [hi2 x y hx hy]
              by_cases c : x < i ∨ (x = i ∧ y < j)
              · rw [if_pos c, if_pos (by omega)]
              · rw [if_neg c]
                by_cases c2 : x = i ∧ y = j
                · rw [if_pos (by omega), c2.1, c2.2, hk2]
                · rw [if_neg (by omega)]
            unfold r_l1
            by_cases e1 : G b j = none
            · rw [if_pos (by rw [rb]; exact (enc_none (hs b j · hb (by omega))).mpr e1)]
              refine keep ?_
              unfold zd_lrn
              rw [hp, e1]
            · rw [if_neg (fun e2 => e1 ((enc_none (hs b j · hb (by omega))).mp (by rw [← rb]; exact e2))), rb, rf]
              obtain ⟨q, hq⟩ : ∃ q, G b j = some q := by
                cases h9 : G b j with
                | none => exact absurd h9 e1
                | some q => exact ⟨q, rfl⟩
              have hqb := hs b j q hb (by omega) hq
              have hsum : encI (G i a) + k + encI (G b j) = Int32.ofInt (p + k.toInt + q) := by
                rw [hp, hq]
                show Int32.ofInt p + k + Int32.ofInt q = _
                rw [Int32.ofInt_add, Int32.ofInt_add, Int32.ofInt_toInt]
              rw [hsum]
              have hst : (Int32.ofInt (p + k.toInt + q)).toInt = p + k.toInt + q := i32_of (by omega)
              have hlrn : zd_lrn a b k.toInt G i j = match G i j with
                  | none => some (p + k.toInt + q)
                  | some d => if p + k.toInt + q < d then some (p + k.toInt + q) else some d := by
                unfold zd_lrn
                (rw [hp, hq]) <;> cases G i j <;> rfl
              have put : zd_lrn a b k.toInt G i j = some (p + k.toInt + q) → ∀ x y, x < 12 → y < 12 → upd g2 (i * 12 + j) (Int32.ofInt (p + k.toInt + q)) (x * 12 + y) = encI (if x < i ∨ (x = i ∧ y < j + 1) then zd_lrn a b k.toInt G x y else G x y) := fun hk2 x y hx hy => by
                rw [upd_at _ _ _ _ _ _ hy (by omega)]
                by_cases c2 : x = i ∧ y = j
                · rw [if_pos c2, if_pos (by omega), c2.1, c2.2, hk2]; rfl
                · rw [if_neg c2, hi2 x y hx hy]
                  by_cases c : x < i ∨ (x = i ∧ y < j)
                  · rw [if_pos c, if_pos (by omega)]
                  · rw [if_neg c, if_neg (by omega)]
              cases hG : G i j with
              | none =>
                rw [hG] at hlrn
                rw [if_neg (fun h9 => by
                  rw [Int32.le_iff_toInt_le, hst] at h9
                  simp only [encI, i32_max] at h9
                  omega)]
                exact put hlrn
              | some d =>
                rw [hG] at hlrn
                have hdb := hs i j d (by omega) (by omega) hG
                by_cases c9 : p + k.toInt + q < d
                · rw [if_neg (fun h9 => by
                    rw [Int32.le_iff_toInt_le, hst] at h9
                    simp only [encI, i32_of (d := d) (by omega)] at h9
                    omega)]
                  simp only [if_pos c9] at hlrn
                  exact put hlrn
                · rw [if_pos (by
                    rw [Int32.le_iff_toInt_le, hst]
                    simp only [encI, i32_of (d := d) (by omega)]
                    omega)]
                  simp only [if_neg c9] at hlrn
                  exact keep (by rw [hlrn, hG]))
        intro x y hx hy
        rw [inner x y hx hy]
        by_cases c : x < i + 1
        · rw [if_pos c, if_pos (by omega)]
        · rw [if_neg c, if_neg (by omega)])
  intro x y hx hy
  rw [show r_ln a b k g = r_it (r_l2 a b k) 12 0 g from rfl, this x y hx hy, if_pos (by omega)]
theorem rp_all {g : Nat → Int32} : Rp (r_fa g) kl_0.2 := by
  have h1 := r_it_inv (fun j (g : Nat → Int32) => upd g j 1000000) (fun j g' => ∀ z, z < j → g' z = 1000000) 144 0 g (fun z hz => by omega) (fun j g' _ _ hi z hz => by
    show upd g' j 1000000 z = _
    unfold upd
    by_cases e : z = j
    · rw [if_pos e]
    · rw [if_neg e]; exact hi z (by omega))
  have h2 := r_it_inv (fun j (g : Nat → Int32) => upd g (j * 12 + j) (nI 0)) (fun j g' => ∀ x y, x < 12 → y < 12 → g' (x * 12 + y) = encI (if x = y ∧ x < j then some 0 else none)) 12 0 (r_it (fun j g => upd g j 1000000) 144 0 g) (fun x y hx hy => by
    rw [if_neg (by omega)]; exact h1 _ (by omega)) (fun j g' _ _ hi x y hx hy => by
    show upd g' (j * 12 + j) (nI 0) (x * 12 + y) = _
    rw [upd_at _ _ _ _ _ _ hy (by omega)]
    by_cases e : x = j ∧ y = j
    · rw [if_pos e, if_pos (by omega)]; rfl
    · rw [if_neg e, hi x y hx hy]
      by_cases c : x = y ∧ x < j
      · rw [if_pos c, if_pos (by omega)]
      · rw [if_neg c, if_neg (by omega)])
  intro x y hx hy
  rw [show r_fa g = r_it (fun j g => upd g (j * 12 + j) (nI 0)) 12 0 (r_it (fun j g => upd g j 1000000) 144 0 g) from rfl, h2 x y hx hy]
  simp only [kl_0]
  by_cases e : x = y
  · rw [if_pos ⟨e, by omega⟩, if_pos e]
  · rw [if_neg (by omega), if_neg e]
theorem rp_copy {g g' : Nat → Int32} {G : Nat → Nat → Option Int} (h : Rp g G) : Rp (va_cpy g g' 0 0 144) G := fun x y hx hy => by
  rw [pk_cpy_in (by omega) (by omega), show 0 + (x * 12 + y - 0) = x * 12 + y by omega]
  exact h x y hx hy
