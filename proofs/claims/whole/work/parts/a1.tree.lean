/-! The ways of a function as a tree: its nodes in the order of the class's walk; the walk is a fold over them. -/
def nds (σ : Sg) (i : Nat) : Nat → Nat → kl_K → List (Nat × kl_K)
  | 0, _, _ => []
  | n + 1, p, K => (p, K) :: (if sz σ i ≤ p then [] else (match deP (ps_r σ i p K) with
    | none => []
    | some q => nds σ i n q (st_K σ i p K)) ++ (if sk σ (16 * i + p) = nI 2 ∧ (st_ot σ i p K).1 = true then nds σ i n (nt (st_tg σ i p)) (st_ot σ i p K) else []))
def sgs (σ : Sg) (i : Nat) : Nat → Nat → kl_K → Nat
  | 0, _, _ => 1
  | n + 1, p, K => if sz σ i ≤ p then 1 else (match deP (ps_r σ i p K) with
    | none => 1
    | some q => sgs σ i n q (st_K σ i p K)) + (if sk σ (16 * i + p) = nI 2 ∧ (st_ot σ i p K).1 = true then sgs σ i n (nt (st_tg σ i p)) (st_ot σ i p K) else 0)
def nEnd (σ : Sg) (i p : Nat) : Bool := decide (sz σ i ≤ p) || decide (sk σ (16 * i + p) = nI 6)
def nSh (σ : Sg) (i : Nat) (x : Nat × kl_K) : Bool := if sz σ i ≤ x.1 then s_shw σ (2 * i + 1) 1 2 (kl_give 3 0 0 x.2) else st_sh σ i x.1 x.2
abbrev Ac : Type := Int32 × Int32 × Int32 × Nat
def nAc (σ : Sg) (i : Nat) (ap : Int32) (aA aB : Nat) (u : Ac) (x : Nat × kl_K) : Ac := (if nI x.1 = ap then n_gr u.1 (encI (x.2.2 aA aB)) else u.1, n_pm u.2.1 x.1, n_lu u.2.2.1 (nI x.1) (nSh σ i x), if nEnd σ i x.1 = true then u.2.2.2 + 1 else u.2.2.2)
abbrev acOf (c : WC) : Ac := (c.gr, c.pm, c.lu, c.en)
theorem ac_step {σ : Sg} {i : Nat} {ap : Int32} {aA aB p : Nat} {c : WC} : acOf (fw_step σ i ap aA aB p c).2 = nAc σ i ap aA aB (acOf c) (p, c.K) := by
  unfold fw_step nAc nSh nEnd
  by_cases h : sz σ i ≤ p
  · rw [if_pos h]
    simp only [h, if_true, decide_true, Bool.true_or]
    rfl
  · rw [if_neg h]
    simp only [h, if_false, decide_false, Bool.false_or, decide_eq_true_eq]
    rfl
theorem fw_none {σ : Sg} {i : Nat} {ap : Int32} {aA aB n : Nat} {c : WC} : fw_run σ i ap aA aB n none c = c := by cases n <;> rfl
theorem fw_next {σ : Sg} {i : Nat} {ap : Int32} {aA aB p q : Nat} {c : WC} (hf : FnOk σ i) (h : (fw_step σ i ap aA aB p c).1 = some q) : p < q ∧ q ≤ sz σ i := by
  unfold fw_step at h
  by_cases e : sz σ i ≤ p
  · rw [if_pos e] at h; cases h
  · rw [if_neg e] at h
    have h : deP (ps_r σ i p c.K) = some q := h
    rcases ps_r_cases (K := c.K) hf (show p < sz σ i by omega) with h1 | ⟨q2, h1, h2, h3⟩
    · rw [h1] at h; cases h
    · rw [h1, deP_nI (by have := hf.1; omega)] at h
      cases h
      exact ⟨h2, h3⟩
theorem fw_fuel {σ : Sg} {i : Nat} {ap : Int32} {aA aB : Nat} (hf : FnOk σ i) : ∀ (n m p : Nat) (c : WC), p ≤ sz σ i → sz σ i + 1 ≤ p + n → sz σ i + 1 ≤ p + m → fw_run σ i ap aA aB n (some p) c = fw_run σ i ap aA aB m (some p) c := by
  intro n
  induction n with
  | zero => intro m p c h0 h1; omega
  | succ n ih =>
    intro m p c h0 h1 h2
    cases m with
    | zero => omega
    | succ m =>
      show fw_run σ i ap aA aB n (fw_step σ i ap aA aB p c).1 (fw_step σ i ap aA aB p c).2 = fw_run σ i ap aA aB m (fw_step σ i ap aA aB p c).1 (fw_step σ i ap aA aB p c).2
      cases e : (fw_step σ i ap aA aB p c).1 with
      | none => rw [fw_none, fw_none]
      | some q =>
        have := fw_next hf e
        exact ih m q _ this.2 (by omega) (by omega)
def popW (σ : Sg) (i : Nat) (ap : Int32) (aA aB M : Nat) (c : WC) : WC := th_run σ i ap aA aB M (fw_take c).1 (fw_take c).2
def midW (σ : Sg) (i : Nat) (ap : Int32) (aA aB N n : Nat) (o : Option Nat) (c : WC) : WC := popW σ i ap aA aB N (fw_run σ i ap aA aB n o c)
theorem th_mid {σ : Sg} {i : Nat} {ap : Int32} {aA aB N p : Nat} {c : WC} : th_run σ i ap aA aB (N + 1) (some p) c = midW σ i ap aA aB N 17 (some p) c := rfl
theorem mid_fuel {σ : Sg} {i : Nat} {ap : Int32} {aA aB : Nat} (hf : FnOk σ i) {N n m p : Nat} {c : WC} (h0 : p ≤ sz σ i) (h1 : sz σ i + 1 ≤ p + n) (h2 : sz σ i + 1 ≤ p + m) : midW σ i ap aA aB N n (some p) c = midW σ i ap aA aB N m (some p) c := by
  unfold midW
  rw [fw_fuel hf n m p c h0 h1 h2]
theorem sgs_pos {σ : Sg} {i : Nat} : ∀ (n p : Nat) (K : kl_K), 1 ≤ sgs σ i n p K := by
  intro n
  induction n with
  | zero => intro p K; exact Nat.le_refl 1
  | succ n ih =>
    intro p K
    unfold sgs
    split
    · exact Nat.le_refl 1
    · have h1 : 1 ≤ (match deP (ps_r σ i p K) with
        | none => 1
        | some q => sgs σ i n q (st_K σ i p K)) := by
        cases deP (ps_r σ i p K) with
        | none => exact Nat.le_refl 1
        | some q => exact ih q _
      omega
/-- the stack below stays -/
def StkEq (c c' : WC) (w : Nat) : Prop := ∀ j, j < w → c'.pl j = c.pl j ∧ c'.SK j = c.SK j
theorem walk_tree {σ : Sg} {i : Nat} {ap : Int32} {aA aB : Nat} (hR : RlOk σ) (hi : i < 4) (hf : FnOk σ i) : ∀ (n p : Nat) (c : WC) (N : Nat), WInv σ i (some p) c → sz σ i + 1 ≤ p + n → sgs σ i n p c.K ≤ N + 1 → ∃ c' : WC, acOf c' = (nds σ i n p c.K).foldl (nAc σ i ap aA aB) (acOf c) ∧ c'.ws = c.ws ∧ StkEq c c' c.ws ∧ midW σ i ap aA aB N n (some p) c = popW σ i ap aA aB (N + 1 - sgs σ i n p c.K) c' := by
  intro n
  have h16 := hf.1
  induction n with
  | zero => intro p c N hv h1; have := (hv.1 p rfl).1; omega
  | succ n ih =>
    intro p c N hv h1 hN
    have hpz := (hv.1 p rfl).1
    have hst := fw_step_inv (ap := ap) (aA := aA) (aB := aB) hR hi hf hv
    have hac := ac_step (σ := σ) (i := i) (ap := ap) (aA := aA) (aB := aB) (p := p) (c := c)
    have hmid : midW σ i ap aA aB N (n + 1) (some p) c = midW σ i ap aA aB N n (fw_step σ i ap aA aB p c).1 (fw_step σ i ap aA aB p c).2 := rfl
    by_cases hz : sz σ i ≤ p
    · have e1 : (fw_step σ i ap aA aB p c).1 = none := by unfold fw_step; rw [if_pos hz]
      have e2 : (fw_step σ i ap aA aB p c).2 = fw_end σ i p (fw_come ap aA aB p c) := by unfold fw_step; rw [if_pos hz]
      have eN : nds σ i (n + 1) p c.K = [(p, c.K)] := by unfold nds; rw [if_pos hz]
      have eS : sgs σ i (n + 1) p c.K = 1 := by unfold sgs; rw [if_pos hz]
      refine ⟨(fw_step σ i ap aA aB p c).2, ?_, ?_, ?_, ?_⟩
      · rw [hac, eN]; rfl
      · rw [e2]; rfl
      · rw [e2]; exact fun j _ => ⟨rfl, rfl⟩
      · rw [hmid, e1, eS]
        unfold midW
        rw [fw_none]
        rfl
    · have e1 : (fw_step σ i ap aA aB p c).1 = deP (ps_r σ i p c.K) := by unfold fw_step; rw [if_neg hz]
      have e2 : (fw_step σ i ap aA aB p c).2 = fw_pass σ i p (fw_come ap aA aB p c) := by unfold fw_step; rw [if_neg hz]
      have eN : nds σ i (n + 1) p c.K = (p, c.K) :: ((match deP (ps_r σ i p c.K) with
        | none => []
        | some q => nds σ i n q (st_K σ i p c.K)) ++ (if sk σ (16 * i + p) = nI 2 ∧ (st_ot σ i p c.K).1 = true then nds σ i n (nt (st_tg σ i p)) (st_ot σ i p c.K) else [])) := by
        conv => lhs; unfold nds
        rw [if_neg hz]
      have eS : sgs σ i (n + 1) p c.K = (match deP (ps_r σ i p c.K) with
        | none => 1
        | some q => sgs σ i n q (st_K σ i p c.K)) + (if sk σ (16 * i + p) = nI 2 ∧ (st_ot σ i p c.K).1 = true then sgs σ i n (nt (st_tg σ i p)) (st_ot σ i p c.K) else 0) := by
        conv => lhs; unfold sgs
        rw [if_neg hz]
      -- the first side
      obtain ⟨c1, hc1⟩ : ∃ z, z = (fw_step σ i ap aA aB p c).2 := ⟨_, rfl⟩
      have hK1 : c1.K = st_K σ i p c.K := by rw [hc1, e2]; rfl
      have hws1 : c1.ws = ps_ws σ i p c.ws c.K := by rw [hc1, e2]; rfl
      have hpl1 : c1.pl = ps_pl σ i p c.ws c.K c.pl := by rw [hc1, e2]; rfl
      have hSK1 : c1.SK = ps_SK σ i p c.ws c.K c.SK := by rw [hc1, e2]; rfl
      rw [← hc1] at hac hst hmid
      rw [e1] at hst hmid
      have first : ∀ (M : Nat), (match deP (ps_r σ i p c.K) with
          | none => 1
          | some q => sgs σ i n q (st_K σ i p c.K)) ≤ M + 1 → ∃ c2 : WC, acOf c2 = (match deP (ps_r σ i p c.K) with
          | none => []
          | some q => nds σ i n q (st_K σ i p c.K)).foldl (nAc σ i ap aA aB) (acOf c1) ∧ c2.ws = c1.ws ∧ StkEq c1 c2 c1.ws ∧ midW σ i ap aA aB M n (deP (ps_r σ i p c.K)) c1 = popW σ i ap aA aB (M + 1 - (match deP (ps_r σ i p c.K) with
          | none => 1
          | some q => sgs σ i n q (st_K σ i p c.K))) c2 := by
        intro M hM
        cases ed : deP (ps_r σ i p c.K) with
        | none =>
          refine ⟨c1, rfl, rfl, fun j _ => ⟨rfl, rfl⟩, ?_⟩
          unfold midW
          rw [fw_none]
          rfl
        | some q =>
          rw [ed] at hst hM
          have hq : (fw_step σ i ap aA aB p c).1 = some q := by rw [e1, ed]
          have hq2 := fw_next hf hq
          obtain ⟨c2, a1, a2, a3, a4⟩ := ih q c1 M hst (by omega) (by rw [hK1]; exact hM)
          rw [hK1] at a1 a4
          exact ⟨c2, a1, a2, a3, a4⟩
      obtain ⟨F1, hF1⟩ : ∃ z, z = (match deP (ps_r σ i p c.K) with
          | none => 1
          | some q => sgs σ i n q (st_K σ i p c.K)) := ⟨_, rfl⟩
      obtain ⟨N1, hN1⟩ : ∃ z, z = (match deP (ps_r σ i p c.K) with
          | none => []
          | some q => nds σ i n q (st_K σ i p c.K)) := ⟨_, rfl⟩
      simp only [← hF1, ← hN1] at first
      rw [← hN1] at eN
      rw [← hF1] at eS
      have hF1p : 1 ≤ F1 := by
        rw [hF1]
        cases deP (ps_r σ i p c.K) with
        | none => exact Nat.le_refl 1
        | some q => exact sgs_pos n q _
      by_cases ho : sk σ (16 * i + p) = nI 2 ∧ (st_ot σ i p c.K).1 = true
      · rw [if_pos ho] at eN eS
        obtain ⟨t, ht1, ht2, ht3⟩ := hf.2.2.1 p (by omega) (Or.inl ho.1)
        have htn : nt (st_tg σ i p) = t := by rw [ht1, nt_nI (by omega)]
        rw [htn] at eN eS
        rw [eS] at hN ⊢
        obtain ⟨c2, a1, a2, a3, a4⟩ := first N (by omega)
        have hw1 : c1.ws = c.ws + 1 := by rw [hws1]; unfold ps_ws; rw [if_pos ho.1, if_pos ho.2]
        have hw6 : c1.ws ≤ 6 := hst.2.1
        have hp1 : c1.pl c.ws = nI t := by rw [hpl1]; unfold ps_pl; rw [if_pos ho.1, if_pos ho.2, pk_us, ht1]
        have hs1 : c1.SK c.ws = st_ot σ i p c.K := by rw [hSK1]; unfold ps_SK; rw [if_pos ho.1, if_pos rfl]
        have hbelow : ∀ j, j < c.ws → c1.pl j = c.pl j ∧ c1.SK j = c.SK j := fun j hj => by
          rw [hpl1, hSK1]
          unfold ps_pl ps_SK
          rw [if_pos ho.1, if_pos ho.2, if_pos ho.1, pk_un (by omega), if_neg (by omega)]
          exact ⟨rfl, rfl⟩
        have hw2 : c2.ws = c.ws + 1 := a2.trans hw1
        -- the other side is taken
        have et : fw_take c2 = (some t, (c.ws, c2.gr, c2.pm, c2.lu, c2.en, st_ot σ i p c.K, c2.pl, c2.SK)) := by
          unfold fw_take
          rw [if_neg (by omega), hw2]
          have h5 := a3 c.ws (by omega)
          rw [show c.ws + 1 - 1 = c.ws by omega, h5.1, h5.2, hp1, hs1, nt_nI (by omega)]
        obtain ⟨c3, hc3⟩ : ∃ z : WC, z = (c.ws, c2.gr, c2.pm, c2.lu, c2.en, st_ot σ i p c.K, c2.pl, c2.SK) := ⟨_, rfl⟩
        rw [← hc3] at et
        have hv2 : WInv σ i none c2 := ⟨fun q hq => (by cases hq), by omega, fun j hj => by
          have h5 := a3 j (by omega)
          rw [h5.1, h5.2]
          exact hst.2.2 j (by omega)⟩
        have hv3 : WInv σ i (some t) c3 := by
          have := fw_take_inv hf hv2
          rw [et] at this
          exact this
        obtain ⟨M, hM⟩ : ∃ M, N + 1 - F1 = M + 1 := ⟨N + 1 - F1 - 1, by have := sgs_pos (σ := σ) (i := i) n t (st_ot σ i p c.K); omega⟩
        have hK3 : c3.K = st_ot σ i p c.K := by rw [hc3]
        obtain ⟨c4, b1, b2, b3, b4⟩ := ih t c3 M hv3 (by omega) (by rw [hK3]; omega)
        refine ⟨c4, ?_, ?_, ?_, ?_⟩
        · rw [b1, eN, List.foldl_cons, List.foldl_append, ← hac, ← a1, hK3]
          rw [show acOf c3 = acOf c2 by rw [hc3]]
        · rw [b2, hc3]
        · intro j hj
          have h6 := b3 j (by rw [hc3]; exact hj)
          have h7 := a3 j (by omega)
          have h8 := hbelow j hj
          rw [h6.1, h6.2, hc3]
          exact ⟨h7.1.trans h8.1, h7.2.trans h8.2⟩
        · rw [hmid, a4, hM]
          unfold popW
          rw [et]
          show th_run σ i ap aA aB (M + 1) (some t) c3 = _
          rw [th_mid, mid_fuel hf (m := n) ht3 (by omega) (by omega), b4, hK3]
          unfold popW
          rw [show M + 1 - sgs σ i n t (st_ot σ i p c.K) = N + 1 - (F1 + sgs σ i n t (st_ot σ i p c.K)) by omega]
      · rw [if_neg ho] at eN eS
        rw [List.append_nil] at eN
        rw [eS, Nat.add_zero] at hN ⊢
        obtain ⟨c2, a1, a2, a3, a4⟩ := first N hN
        have hw1 : c1.ws = c.ws := by
          rw [hws1]
          unfold ps_ws
          by_cases k2 : sk σ (16 * i + p) = nI 2
          · rw [if_pos k2, if_neg (fun z => ho ⟨k2, z⟩)]
          · rw [if_neg k2]
        have hbelow : ∀ j, j < c.ws → c1.pl j = c.pl j ∧ c1.SK j = c.SK j := fun j hj => by
          rw [hpl1, hSK1]
          unfold ps_pl ps_SK
          by_cases k2 : sk σ (16 * i + p) = nI 2
          · rw [if_pos k2, if_neg (fun z => ho ⟨k2, z⟩), if_pos k2, if_neg (by omega)]
            exact ⟨rfl, rfl⟩
          · rw [if_neg k2, if_neg k2]
            exact ⟨rfl, rfl⟩
        refine ⟨c2, ?_, a2.trans hw1, ?_, ?_⟩
        · rw [a1, eN, List.foldl_cons, hac]
        · intro j hj
          have h7 := a3 j (by omega)
          have h8 := hbelow j hj
          exact ⟨h7.1.trans h8.1, h7.2.trans h8.2⟩
        · rw [hmid, a4]
          rfl
theorem sgs_le {σ : Sg} {i : Nat} (hf : FnOk σ i) : ∀ (n p : Nat) (K : kl_K), p ≤ sz σ i → sgs σ i n p K ≤ 2 ^ (nif σ i (sz σ i) - nif σ i p) := by
  intro n
  have h16 := hf.1
  induction n with
  | zero => intro p K _; exact Nat.one_le_two_pow
  | succ n ih =>
    intro p K hp
    unfold sgs
    split
    · exact Nat.one_le_two_pow
    · rename_i hz
      have hlt : p < sz σ i := by omega
      have hfirst : ∀ w, (∀ q, p < q → q ≤ sz σ i → nif σ i (sz σ i) - nif σ i q ≤ w) → (match deP (ps_r σ i p K) with
        | none => 1
        | some q => sgs σ i n q (st_K σ i p K)) ≤ 2 ^ w := by
        intro w hw
        cases ed : deP (ps_r σ i p K) with
        | none => exact Nat.one_le_two_pow
        | some q =>
          rcases ps_r_cases (K := K) hf hlt with h1 | ⟨q2, h1, h2, h3⟩
          · rw [h1] at ed; cases ed
          · rw [h1, deP_nI (by omega)] at ed
            cases ed
            exact Nat.le_trans (ih q _ h3) (Nat.pow_le_pow_right (by omega) (hw q h2 h3))
      by_cases ho : sk σ (16 * i + p) = nI 2 ∧ (st_ot σ i p K).1 = true
      · rw [if_pos ho]
        obtain ⟨t, ht1, ht2, ht3⟩ := hf.2.2.1 p hlt (Or.inl ho.1)
        rw [show nt (st_tg σ i p) = t by rw [ht1, nt_nI (by omega)]]
        have hn1 : nif σ i (p + 1) = nif σ i p + 1 := by show nif σ i p + _ = _; rw [if_pos ho.1]
        have hm : ∀ q, p < q → nif σ i p + 1 ≤ nif σ i q := fun q hq => by rw [← hn1]; exact nif_mono hq
        have hz1 := hm (sz σ i) hlt
        obtain ⟨w, hw⟩ : ∃ w, nif σ i (sz σ i) - nif σ i p = w + 1 := ⟨nif σ i (sz σ i) - nif σ i p - 1, by omega⟩
        have h1 := hfirst w (fun q h1 h2 => by have := hm q h1; omega)
        have h2 := Nat.le_trans (ih t (st_ot σ i p K) ht3) (Nat.pow_le_pow_right (n := 2) (by omega) (show nif σ i (sz σ i) - nif σ i t ≤ w by have := hm t ht2; omega))
        rw [hw, Nat.pow_succ]
        omega
      · rw [if_neg ho, Nat.add_zero]
        exact hfirst _ (fun q h1 h2 => by have := nif_mono (σ := σ) (i := i) (Nat.le_of_lt h1); omega)
/-- the class's whole walk -/
theorem through_tree {σ : Sg} {i : Nat} {ap : Int32} {aA aB : Nat} {wpl : Nat → Int32} (hR : RlOk σ) (hi : i < 4) (hf : FnOk σ i) : acOf (th_run σ i ap aA aB 64 (th_o σ i) (th_c σ i wpl)) = (if (th_K σ i).1 = true then nds σ i 17 0 (th_K σ i) else []).foldl (nAc σ i ap aA aB) (-1000000, nI 0, -1, 0) := by
  have hv := th_inv (wpl := wpl) hR hi
  unfold th_o at hv ⊢
  by_cases h : (th_K σ i).1 = true
  · rw [if_pos h] at hv ⊢
    rw [if_pos h]
    have h6 := hf.2.2.2
    have h64 : sgs σ i 17 0 (th_K σ i) ≤ 63 + 1 := by
      refine Nat.le_trans (sgs_le hf 17 0 (th_K σ i) (Nat.zero_le _)) ?_
      exact Nat.le_trans (Nat.pow_le_pow_right (n := 2) (by omega) (show nif σ i (sz σ i) - nif σ i 0 ≤ 6 by omega)) (by decide)
    obtain ⟨c', a1, a2, a3, a4⟩ := walk_tree (ap := ap) (aA := aA) (aB := aB) hR hi hf 17 0 (th_c σ i wpl) 63 hv (by have := hf.1; omega) h64
    rw [show (64 : Nat) = 63 + 1 from rfl, th_mid, a4]
    unfold popW fw_take
    rw [if_pos (show c'.ws = 0 from a2)]
    have e : ∀ M, th_run σ i ap aA aB M none c' = c' := fun M => by cases M <;> rfl
    rw [e, a1]
    rfl
  · rw [if_neg h, if_neg h]
    rfl
