/-! A walk's run, in words: steps along a way, sides that wait. -/
abbrev WC : Type := Nat × Int32 × Int32 × Int32 × Nat × kl_K × (Nat → Int32) × (Nat → kl_K)
abbrev WC.ws (c : WC) : Nat := c.1
abbrev WC.gr (c : WC) : Int32 := c.2.1
abbrev WC.pm (c : WC) : Int32 := c.2.2.1
abbrev WC.lu (c : WC) : Int32 := c.2.2.2.1
abbrev WC.en (c : WC) : Nat := c.2.2.2.2.1
abbrev WC.K (c : WC) : kl_K := c.2.2.2.2.2.1
abbrev WC.pl (c : WC) : Nat → Int32 := c.2.2.2.2.2.2.1
abbrev WC.SK (c : WC) : Nat → kl_K := c.2.2.2.2.2.2.2
/-- a place is come to -/
def fw_come (ap : Int32) (aA aB p : Nat) (c : WC) : WC := (c.ws, if nI p = ap then n_gr c.gr (encI (c.K.2 aA aB)) else c.gr, n_pm c.pm p, c.lu, c.en, c.K, c.pl, c.SK)
/-- the way ends behind the last statement -/
def fw_end (σ : Sg) (i p : Nat) (c : WC) : WC := (c.ws, c.gr, c.pm, n_lu c.lu (nI p) (s_shw σ (2 * i + 1) 1 2 (kl_give 3 0 0 c.K)), c.en + 1, kl_give 3 0 0 c.K, c.pl, c.SK)
def fw_pass (σ : Sg) (i p : Nat) (c : WC) : WC := (ps_ws σ i p c.ws c.K, c.gr, c.pm, n_lu c.lu (nI p) (st_sh σ i p c.K), ps_en σ i p c.en, st_K σ i p c.K, ps_pl σ i p c.ws c.K c.pl, ps_SK σ i p c.ws c.K c.SK)
def deP (x : Int32) : Option Nat := if x = -1 then none else some (nt x)
def enP (o : Option Nat) : Int32 := match o with
  | none => -1
  | some p => nI p
def fw_step (σ : Sg) (i : Nat) (ap : Int32) (aA aB p : Nat) (c : WC) : Option Nat × WC :=
  if sz σ i ≤ p then (none, fw_end σ i p (fw_come ap aA aB p c)) else (deP (ps_r σ i p c.K), fw_pass σ i p (fw_come ap aA aB p c))
def fw_run (σ : Sg) (i : Nat) (ap : Int32) (aA aB : Nat) : Nat → Option Nat → WC → WC
  | 0, _, c => c
  | _ + 1, none, c => c
  | n + 1, some p, c => fw_run σ i ap aA aB n (fw_step σ i ap aA aB p c).1 (fw_step σ i ap aA aB p c).2
def fw_take (c : WC) : Option Nat × WC := if c.ws = 0 then (none, c) else (some (nt (c.pl (c.ws - 1))), (c.ws - 1, c.gr, c.pm, c.lu, c.en, c.SK (c.ws - 1), c.pl, c.SK))
def th_run (σ : Sg) (i : Nat) (ap : Int32) (aA aB : Nat) : Nat → Option Nat → WC → WC
  | 0, _, c => c
  | _ + 1, none, c => c
  | n + 1, some p, c => th_run σ i ap aA aB n (fw_take (fw_run σ i ap aA aB 17 (some p) c)).1 (fw_take (fw_run σ i ap aA aB 17 (some p) c)).2
/-- how many IFs stand before a place -/
def nif (σ : Sg) (i : Nat) : Nat → Nat
  | 0 => 0
  | p + 1 => nif σ i p + (if sk σ (16 * i + p) = nI 2 then 1 else 0)
theorem nif_mono {σ : Sg} {i : Nat} : ∀ {p q : Nat}, p ≤ q → nif σ i p ≤ nif σ i q := by
  intro p q h
  induction q with
  | zero => rw [show p = 0 by omega]; exact Nat.le_refl _
  | succ q ih =>
    by_cases e : p = q + 1
    · rw [e]; exact Nat.le_refl _
    · have := ih (by omega)
      simp only [nif]
      omega
/-- a function whose statements are in order: names and numbers in range, ways lead on, at most six IFs -/
def FnOk (σ : Sg) (i : Nat) : Prop := sz σ i ≤ 16 ∧ (∀ p, p < sz σ i → StOk σ (16 * i + p)) ∧ (∀ p, p < sz σ i → sk σ (16 * i + p) = nI 2 ∨ sk σ (16 * i + p) = nI 3 → ∃ t, st_tg σ i p = nI t ∧ p < t ∧ t ≤ sz σ i) ∧ nif σ i (sz σ i) ≤ 6
def RlOk (σ : Sg) : Prop := ∀ r, r < 8 → RelOk σ r
def tb (p : Nat) : Int := 4004 + 5005 * (p : Int)
/-- what holds along a walk -/
def WInv (σ : Sg) (i : Nat) (o : Option Nat) (c : WC) : Prop :=
  (∀ p, o = some p → p ≤ sz σ i ∧ c.ws ≤ nif σ i p ∧ kl_ok (tb p) c.K) ∧ c.ws ≤ 6 ∧ ∀ j, j < c.ws → ∃ q, c.pl j = nI q ∧ q ≤ sz σ i ∧ j + 1 ≤ nif σ i q ∧ kl_ok (tb q) (c.SK j)
theorem st_K_ok {σ : Sg} {i p : Nat} {T : Int} {K : kl_K} (hR : RlOk σ) (hi : i < 4) (hs : StOk σ (16 * i + p)) (hok : kl_ok T K) : kl_ok (T + 5005) (st_K σ i p K) := by
  obtain ⟨h0, ha, hb, hc, hk⟩ := hs
  unfold st_K
  split
  · rename_i e
    have := hk (Or.inl e)
    exact (kl_give_ok (hb (Or.inl e)).2.1 (by omega) hok).mono (by omega)
  · split
    · rename_i e
      obtain ⟨c1, c2, c3⟩ := hc e
      exact (kl_forget_ok (kl_give0_ok (by omega) (s_rels_ok (hR _ (by omega)) (hb (Or.inr (Or.inl e))).2.1 c1.2.1 hok))).mono (by omega)
    · split
      · rename_i e
        have := hk (Or.inr (Or.inl e))
        exact (kl_learn_ok (ha (Or.inr (Or.inr (Or.inr (Or.inl e))))).2.1 (hb (Or.inr (Or.inr (Or.inl e)))).2.1 (by omega) hok).mono (by omega)
      · split
        · rename_i e
          have := hk (Or.inr (Or.inr (Or.inl e)))
          exact (kl_learn_ok (ha (Or.inr (Or.inr (Or.inr (Or.inr e))))).2.1 (hb (Or.inr (Or.inr (Or.inr (Or.inl e))))).2.1 (by omega) hok).mono (by omega)
        · split
          · rename_i e
            have := hk (Or.inr (Or.inr (Or.inr e)))
            exact (kl_give_ok (hb (Or.inr (Or.inr (Or.inr (Or.inr e))))).2.1 (by omega) hok).mono (by omega)
          · split
            · exact (kl_forget_ok hok).mono (by omega)
            · exact hok.mono (by omega)
theorem st_ot_ok {σ : Sg} {i p : Nat} {T : Int} {K : kl_K} (hs : StOk σ (16 * i + p)) (e : sk σ (16 * i + p) = nI 2) (hok : kl_ok T K) : kl_ok (T + 5005) (st_ot σ i p K) := by
  obtain ⟨h0, ha, hb, hc, hk⟩ := hs
  have := hk (Or.inr (Or.inl e))
  exact (kl_learn_ok (hb (Or.inr (Or.inr (Or.inl e)))).2.1 (ha (Or.inr (Or.inr (Or.inr (Or.inl e))))).2.1 (by omega) hok).mono (by omega)
theorem nI_m1 {n : Nat} (h : n < 2 ^ 31) : ¬ nI n = -1 := fun e => by
  have h1 := congrArg Int32.toInt e
  rw [nI_toInt h, show (-1 : Int32).toInt = -1 by decide +kernel] at h1
  omega
theorem deP_nI {n : Nat} (h : n < 2 ^ 31) : deP (nI n) = some n := by
  unfold deP
  rw [if_neg (nI_m1 h), nt_nI h]
theorem ps_r_cases {σ : Sg} {i p : Nat} {K : kl_K} (hf : FnOk σ i) (hp : p < sz σ i) : ps_r σ i p K = -1 ∨ ∃ q, ps_r σ i p K = nI q ∧ p < q ∧ q ≤ sz σ i := by
  unfold ps_r
  split
  · exact Or.inl rfl
  · split
    · right
      unfold st_nx
      split
      · rename_i e
        exact hf.2.2.1 p hp (Or.inr e)
      · exact ⟨p + 1, rfl, by omega, by omega⟩
    · exact Or.inl rfl
theorem fw_step_inv {σ : Sg} {i : Nat} {ap : Int32} {aA aB p : Nat} {c : WC} (hR : RlOk σ) (hi : i < 4) (hf : FnOk σ i) (h : WInv σ i (some p) c) : WInv σ i (fw_step σ i ap aA aB p c).1 (fw_step σ i ap aA aB p c).2 := by
  obtain ⟨h1, h2, h3⟩ := h
  obtain ⟨hp, hw, hok⟩ := h1 p rfl
  unfold fw_step
  by_cases e : sz σ i ≤ p
  · rw [if_pos e]
    exact ⟨fun q hq => (by cases hq), h2, h3⟩
  · rw [if_neg e]
    have hpl : p < sz σ i := by omega
    have hs := hf.2.1 p hpl
    have hn1 : nif σ i (p + 1) = nif σ i p + (if sk σ (16 * i + p) = nI 2 then 1 else 0) := rfl
    have hws : ps_ws σ i p c.ws c.K ≤ nif σ i (p + 1) := by
      rw [hn1]
      unfold ps_ws
      split
      · split <;> omega
      · omega
    have h6 : nif σ i (p + 1) ≤ 6 := Nat.le_trans (nif_mono (by omega)) hf.2.2.2
    refine ⟨fun q hq => ?_, Nat.le_trans hws h6, fun j hj => ?_⟩
    · rcases ps_r_cases (K := c.K) hf hpl with e1 | ⟨q2, e1, l1, l2⟩
      · have hq : deP (ps_r σ i p c.K) = some q := hq
        rw [e1] at hq
        cases hq
      · have hq : deP (ps_r σ i p c.K) = some q := hq
        rw [e1, deP_nI (by have := hf.1; omega)] at hq
        cases hq
        refine ⟨l2, Nat.le_trans hws (nif_mono l1), ?_⟩
        exact (st_K_ok hR hi hs hok).mono (by unfold tb; omega)
    · have hj : j < ps_ws σ i p c.ws c.K := hj
      show ∃ q, ps_pl σ i p c.ws c.K c.pl j = nI q ∧ q ≤ sz σ i ∧ j + 1 ≤ nif σ i q ∧ kl_ok (tb q) (ps_SK σ i p c.ws c.K c.SK j)
      unfold ps_ws at hj
      unfold ps_pl ps_SK
      by_cases k2 : sk σ (16 * i + p) = nI 2
      · rw [if_pos k2] at hj
        rw [if_pos k2, if_pos k2]
        by_cases k3 : (st_ot σ i p c.K).1 = true
        · rw [if_pos k3] at hj
          rw [if_pos k3]
          by_cases k4 : j = c.ws
          · obtain ⟨t, t1, t2, t3⟩ := hf.2.2.1 p hpl (Or.inl k2)
            refine ⟨t, ?_, t3, ?_, ?_⟩
            · rw [k4, pk_us, t1]
            · have h7 : nif σ i (p + 1) ≤ nif σ i t := nif_mono (by omega)
              rw [hn1, if_pos k2] at h7
              omega
            · rw [if_pos k4]
              exact (st_ot_ok hs k2 hok).mono (by unfold tb; omega)
          · obtain ⟨q, q1, q2, q3, q4⟩ := h3 j (by omega)
            refine ⟨q, by rw [pk_un k4]; exact q1, q2, q3, ?_⟩
            rw [if_neg k4]
            exact q4
        · rw [if_neg k3] at hj
          rw [if_neg k3]
          obtain ⟨q, q1, q2, q3, q4⟩ := h3 j hj
          refine ⟨q, q1, q2, q3, ?_⟩
          rw [if_neg (by omega)]
          exact q4
      · rw [if_neg k2] at hj
        rw [if_neg k2, if_neg k2]
        exact h3 j hj
theorem fw_take_inv {σ : Sg} {i : Nat} {o : Option Nat} {c : WC} (hf : FnOk σ i) (h : WInv σ i o c) : WInv σ i (fw_take c).1 (fw_take c).2 := by
  obtain ⟨h1, h2, h3⟩ := h
  unfold fw_take
  split
  · exact ⟨fun q hq => (by cases hq), h2, h3⟩
  · rename_i e
    refine ⟨fun q hq => ?_, by show c.ws - 1 ≤ 6; omega, fun j hj => h3 j (by have hj : j < c.ws - 1 := hj; omega)⟩
    obtain ⟨q2, q1, l1, l2, l3⟩ := h3 (c.ws - 1) (by omega)
    have hq : some (nt (c.pl (c.ws - 1))) = some q := hq
    rw [q1, nt_nI (by have := hf.1; omega)] at hq
    cases hq
    exact ⟨l1, by show c.ws - 1 ≤ _; omega, l3⟩
