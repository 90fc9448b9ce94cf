/-! The ways of all masks are the tree's: nodes and leaves. -/
theorem ps_next {σ : Sg} {i p : Nat} {K : kl_K} (hf : FnOk σ i) (hp : p < sz σ i) (h6 : sk σ (16 * i + p) ≠ nI 6) : deP (ps_r σ i p K) = if (st_K σ i p K).1 = true then some (nt (st_nx σ i p)) else none := by
  have h16 := hf.1
  unfold ps_r
  rw [if_neg h6]
  by_cases c : (st_K σ i p K).1 = true
  · rw [if_pos c, if_pos c]
    unfold st_nx
    split
    · rename_i e
      obtain ⟨t, h1, h2, h3⟩ := hf.2.2.1 p hp (Or.inr e)
      rw [h1, deP_nI (by omega), nt_nI (by omega)]
    · rw [deP_nI (by omega), nt_nI (by omega)]
  · rw [if_neg c, if_neg c]; rfl
/-- the tree below a node, side by side -/
theorem nds_step {σ : Sg} {i n p : Nat} {K : kl_K} (hf : FnOk σ i) : nds σ i (n + 1) p K = (p, K) :: (if nEnd σ i p = true then [] else (if (st_K σ i p K).1 = true then nds σ i n (nt (st_nx σ i p)) (st_K σ i p K) else []) ++ (if sk σ (16 * i + p) = nI 2 ∧ (st_ot σ i p K).1 = true then nds σ i n (nt (st_tg σ i p)) (st_ot σ i p K) else [])) := by
  conv => lhs; unfold nds
  by_cases hz : sz σ i ≤ p
  · rw [if_pos hz, if_pos (by unfold nEnd; rw [decide_eq_true hz]; rfl)]
  · rw [if_neg hz]
    by_cases h6 : sk σ (16 * i + p) = nI 6
    · rw [if_pos (c := nEnd σ i p = true) (by unfold nEnd; rw [decide_eq_true h6, Bool.or_true]), if_neg (c := sk σ (16 * i + p) = nI 2 ∧ (st_ot σ i p K).1 = true) (fun z => by rw [h6] at z; exact absurd z.1 (by decide +kernel))]
      rw [show deP (ps_r σ i p K) = none by unfold ps_r; rw [if_pos h6]; rfl]
      rfl
    · rw [if_neg (c := nEnd σ i p = true) (by unfold nEnd; rw [decide_eq_false hz, decide_eq_false h6]; decide), ps_next hf (by omega) h6]
      by_cases c : (st_K σ i p K).1 = true
      · rw [if_pos c, if_pos c]
      · rw [if_neg c, if_neg c]
theorem not_end {σ : Sg} {i p : Nat} (h : ¬ nEnd σ i p = true) : p < sz σ i ∧ sk σ (16 * i + p) ≠ nI 6 := by
  unfold nEnd at h
  rw [Bool.or_eq_true, decide_eq_true_eq, decide_eq_true_eq] at h
  exact ⟨by omega, fun z => h (Or.inr z)⟩
theorem st_nx_if {σ : Sg} {i p : Nat} (hf : FnOk σ i) (hp : p < sz σ i) (e : sk σ (16 * i + p) = nI 2) : nt (st_nx σ i p) = p + 1 := by
  have h16 := hf.1
  unfold st_nx
  rw [if_neg (by rw [e]; decide +kernel), nt_nI (by omega)]
theorem nif_if {σ : Sg} {i p : Nat} (e : sk σ (16 * i + p) = nI 2) : nif σ i (p + 1) = nif σ i p + 1 := by
  show nif σ i p + _ = _
  rw [if_pos e]
theorem pth_sub {σ : Sg} {i : Nat} {bt : Nat → Bool} (hf : FnOk σ i) : ∀ (n p : Nat) (K : kl_K) (x : Nat × kl_K), x ∈ pth σ i bt n p K → x ∈ nds σ i n p K := by
  intro n
  induction n with
  | zero => intro p K x h; cases h
  | succ n ih =>
    intro p K x h
    rw [nds_step hf]
    unfold pth at h
    rcases List.mem_cons.mp h with h | h
    · rw [h]; exact List.mem_cons_self
    · refine List.mem_cons_of_mem _ ?_
      by_cases hE : nEnd σ i p = true
      · rw [if_pos hE] at h; cases h
      · rw [if_neg hE] at h ⊢
        by_cases hk : (pK σ i bt p K).1 = true
        · rw [if_pos hk] at h
          have h2 := ih _ _ x h
          by_cases c : sk σ (16 * i + p) = nI 2 ∧ bt (nif σ i p) = true
          · have e1 : pK σ i bt p K = st_ot σ i p K := if_pos c
            have e2 : pN σ i bt p = nt (st_tg σ i p) := if_pos c
            rw [e1] at hk
            rw [e1, e2] at h2
            refine List.mem_append_right _ ?_
            rw [if_pos ⟨c.1, hk⟩]
            exact h2
          · have e1 : pK σ i bt p K = st_K σ i p K := if_neg c
            have e2 : pN σ i bt p = nt (st_nx σ i p) := if_neg c
            rw [e1] at hk
            rw [e1, e2] at h2
            refine List.mem_append_left _ ?_
            rw [if_pos hk]
            exact h2
        · rw [if_neg hk] at h; cases h
/-- a way looks at the bits of its own IFs alone -/
theorem p_local {σ : Sg} {i : Nat} {b1 b2 : Nat → Bool} (hf : FnOk σ i) : ∀ (n p : Nat) (K : kl_K), p ≤ sz σ i → (∀ k, nif σ i p ≤ k → k < nif σ i (sz σ i) → b1 k = b2 k) → pth σ i b1 n p K = pth σ i b2 n p K ∧ pEnds σ i b1 n p K = pEnds σ i b2 n p K ∧ pIf σ i b1 n p K = pIf σ i b2 n p K := by
  intro n
  induction n with
  | zero => intro p K _ _; exact ⟨rfl, rfl, rfl⟩
  | succ n ih =>
    intro p K hp hb
    unfold pth pEnds pIf
    by_cases hE : nEnd σ i p = true
    · simp only [if_pos hE, and_self]
    · obtain ⟨hlt, h6⟩ := not_end hE
      simp only [if_neg hE]
      have hK : pK σ i b1 p K = pK σ i b2 p K ∧ pN σ i b1 p = pN σ i b2 p := by
        unfold pK pN
        by_cases e : sk σ (16 * i + p) = nI 2
        · have h1 : nif σ i p + 1 ≤ nif σ i (sz σ i) := by rw [← nif_if e]; exact nif_mono hlt
          rw [hb (nif σ i p) (Nat.le_refl _) (by omega)]
          exact ⟨rfl, rfl⟩
        · rw [if_neg (fun z => e z.1), if_neg (fun z => e z.1), if_neg (fun z => e z.1), if_neg (fun z => e z.1)]
          exact ⟨rfl, rfl⟩
      have hq := pN_cases (bt := b2) hf hlt
      have hI := ih (pN σ i b2 p) (pK σ i b2 p K) hq.2 (fun k h1 h2 => hb k (Nat.le_trans (nif_mono (Nat.le_of_lt hq.1)) h1) h2)
      rw [hK.1, hK.2, hI.1, hI.2.1, hI.2.2]
      exact ⟨rfl, rfl, rfl⟩
/-- every node of the tree lies on a way -/
theorem nds_pth {σ : Sg} {i : Nat} (hf : FnOk σ i) : ∀ (n p : Nat) (K : kl_K) (x : Nat × kl_K), p ≤ sz σ i → x ∈ nds σ i n p K → ∃ bt, x ∈ pth σ i bt n p K := by
  intro n
  have h16 := hf.1
  induction n with
  | zero => intro p K x _ h; cases h
  | succ n ih =>
    intro p K x hp h
    rw [nds_step hf] at h
    rcases List.mem_cons.mp h with h | h
    · exact ⟨fun _ => false, by unfold pth; rw [h]; exact List.mem_cons_self⟩
    · by_cases hE : nEnd σ i p = true
      · rw [if_pos hE] at h; cases h
      · obtain ⟨hlt, h6⟩ := not_end hE
        rw [if_neg hE] at h
        rcases List.mem_append.mp h with h | h
        · by_cases hk : (st_K σ i p K).1 = true
          · rw [if_pos hk] at h
            have hq := pN_cases (bt := fun _ => false) hf hlt
            have e2 : pN σ i (fun _ => false) p = nt (st_nx σ i p) := if_neg (fun z => by cases z.2)
            rw [e2] at hq
            obtain ⟨bt, hbt⟩ := ih _ _ x hq.2 h
            by_cases e : sk σ (16 * i + p) = nI 2
            · refine ⟨fun k => if k = nif σ i p then false else bt k, ?_⟩
              have e1 : pK σ i (fun k => if k = nif σ i p then false else bt k) p K = st_K σ i p K := if_neg (fun z => by have := z.2; simp at this)
              have e3 : pN σ i (fun k => if k = nif σ i p then false else bt k) p = nt (st_nx σ i p) := if_neg (fun z => by have := z.2; simp at this)
              unfold pth
              rw [if_neg hE, e1, e3, if_pos hk]
              refine List.mem_cons_of_mem _ ?_
              rw [(p_local (b2 := bt) hf n _ _ hq.2 (fun k h1 h2 => by
                rw [st_nx_if hf hlt e, nif_if e] at h1
                show (if k = nif σ i p then false else bt k) = bt k
                rw [if_neg (by omega)])).1]
              exact hbt
            · refine ⟨bt, ?_⟩
              have e1 : pK σ i bt p K = st_K σ i p K := if_neg (fun z => e z.1)
              have e3 : pN σ i bt p = nt (st_nx σ i p) := if_neg (fun z => e z.1)
              unfold pth
              rw [if_neg hE, e1, e3, if_pos hk]
              exact List.mem_cons_of_mem _ hbt
          · rw [if_neg hk] at h; cases h
        · by_cases ho : sk σ (16 * i + p) = nI 2 ∧ (st_ot σ i p K).1 = true
          · rw [if_pos ho] at h
            obtain ⟨t, ht1, ht2, ht3⟩ := hf.2.2.1 p hlt (Or.inl ho.1)
            have htn : nt (st_tg σ i p) = t := by rw [ht1, nt_nI (by omega)]
            rw [htn] at h
            obtain ⟨bt, hbt⟩ := ih t _ x ht3 h
            refine ⟨fun k => if k = nif σ i p then true else bt k, ?_⟩
            have hc : sk σ (16 * i + p) = nI 2 ∧ (fun k => if k = nif σ i p then true else bt k) (nif σ i p) = true := ⟨ho.1, by simp⟩
            have e1 : pK σ i (fun k => if k = nif σ i p then true else bt k) p K = st_ot σ i p K := if_pos hc
            have e3 : pN σ i (fun k => if k = nif σ i p then true else bt k) p = t := (if_pos hc).trans htn
            unfold pth
            rw [if_neg hE, e1, e3, if_pos ho.2]
            refine List.mem_cons_of_mem _ ?_
            rw [(p_local (b2 := bt) hf n t _ ht3 (fun k h1 h2 => by
                have h3 : nif σ i (p + 1) ≤ nif σ i t := nif_mono ht2
                rw [nif_if ho.1] at h3
                show (if k = nif σ i p then true else bt k) = bt k
                rw [if_neg (by omega)])).1]
            exact hbt
          · rw [if_neg ho] at h; cases h
