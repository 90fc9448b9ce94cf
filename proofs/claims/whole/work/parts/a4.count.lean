/-! Leaves are masks whose bits are all asked. -/
def lvs (σ : Sg) (i : Nat) : Nat → Nat → kl_K → Nat
  | 0, _, _ => 0
  | n + 1, p, K => if nEnd σ i p = true then 1 else (if (st_K σ i p K).1 = true then lvs σ i n (nt (st_nx σ i p)) (st_K σ i p K) else 0) + (if sk σ (16 * i + p) = nI 2 ∧ (st_ot σ i p K).1 = true then lvs σ i n (nt (st_tg σ i p)) (st_ot σ i p K) else 0)
theorem en_fold {σ : Sg} {i : Nat} {ap : Int32} {aA aB : Nat} : ∀ (l : List (Nat × kl_K)) (u : Ac), (l.foldl (nAc σ i ap aA aB) u).2.2.2 = u.2.2.2 + l.countP (fun x => nEnd σ i x.1) := by
  intro l
  induction l with
  | nil => intro u; rfl
  | cons x l ih =>
    intro u
    rw [List.foldl_cons, ih, List.countP_cons]
    show (if nEnd σ i x.1 = true then u.2.2.2 + 1 else u.2.2.2) + _ = _
    split <;> omega
theorem nds_count {σ : Sg} {i : Nat} (hf : FnOk σ i) : ∀ (n p : Nat) (K : kl_K), (nds σ i n p K).countP (fun x => nEnd σ i x.1) = lvs σ i n p K := by
  intro n
  induction n with
  | zero => intro p K; rfl
  | succ n ih =>
    intro p K
    rw [nds_step hf, List.countP_cons]
    unfold lvs
    by_cases hE : nEnd σ i p = true
    · rw [if_pos hE, if_pos hE]
      simp [hE]
    · rw [if_neg hE, if_neg hE, List.countP_append]
      simp only [hE, if_false, Nat.add_zero]
      congr 1
      · split
        · exact ih _ _
        · rfl
      · split
        · exact ih _ _
        · rfl
def bset (bt : Nat → Bool) (k : Nat) (v : Bool) : Nat → Bool := fun j => if j = k then v else bt j
def sumN (f : Nat → Nat) : Nat → Nat
  | 0 => 0
  | n + 1 => sumN f n + f n
def sumB (F : (Nat → Bool) → Nat) : Nat → Nat → (Nat → Bool) → Nat
  | 0, _, bt => F bt
  | r + 1, lo, bt => sumB F r (lo + 1) (bset bt lo false) + sumB F r (lo + 1) (bset bt lo true)
theorem sumN_two (f : Nat → Nat) : ∀ n, sumN f (2 * n) = sumN (fun m => f (2 * m)) n + sumN (fun m => f (2 * m + 1)) n := by
  intro n
  induction n with
  | zero => rfl
  | succ n ih =>
    rw [show 2 * (n + 1) = 2 * n + 1 + 1 by omega]
    show sumN f (2 * n) + f (2 * n) + f (2 * n + 1) = (sumN (fun m => f (2 * m)) n + f (2 * n)) + (sumN (fun m => f (2 * m + 1)) n + f (2 * n + 1))
    rw [ih]
    omega
theorem sumN_congr {f g : Nat → Nat} : ∀ n, (∀ m, m < n → f m = g m) → sumN f n = sumN g n := by
  intro n
  induction n with
  | zero => intro _; rfl
  | succ n ih =>
    intro h
    show sumN f n + f n = sumN g n + g n
    rw [ih (fun m hm => h m (by omega)), h n (by omega)]
theorem sum_mask (F : (Nat → Bool) → Nat) : ∀ (r lo : Nat) (bt : Nat → Bool), (∀ k, lo ≤ k → bt k = false) → sumN (fun m => F (fun k => if k < lo then bt k else m.testBit (k - lo))) (2 ^ r) = sumB F r lo bt := by
  intro r
  induction r with
  | zero =>
    intro lo bt hb
    show 0 + F _ = F bt
    rw [Nat.zero_add]
    congr 1
    funext k
    by_cases e : k < lo
    · rw [if_pos e]
    · rw [if_neg e, hb k (by omega), Nat.zero_testBit]
  | succ r ih =>
    intro lo bt hb
    rw [Nat.pow_succ, Nat.mul_comm, sumN_two]
    show _ = sumB F r (lo + 1) (bset bt lo false) + sumB F r (lo + 1) (bset bt lo true)
    have hbs : ∀ v k, lo + 1 ≤ k → bset bt lo v k = false := fun v k hk => by
      unfold bset
      rw [if_neg (by omega)]
      exact hb k (by omega)
    rw [← ih (lo + 1) _ (hbs false), ← ih (lo + 1) _ (hbs true)]
    congr 1
    · refine sumN_congr _ (fun m _ => ?_)
      congr 1
      funext k
      unfold bset
      by_cases e : k < lo
      · rw [if_pos e, if_pos (by omega), if_neg (by omega)]
      · rw [if_neg e]
        by_cases e2 : k = lo
        · rw [if_pos (by omega), if_pos e2, e2, Nat.sub_self, Nat.testBit_zero]
          simp
        · rw [if_neg (by omega), show k - lo = (k - (lo + 1)) + 1 by omega, Nat.testBit_succ, show 2 * m / 2 = m by omega]
    · refine sumN_congr _ (fun m _ => ?_)
      congr 1
      funext k
      unfold bset
      by_cases e : k < lo
      · rw [if_pos e, if_pos (by omega), if_neg (by omega)]
      · rw [if_neg e]
        by_cases e2 : k = lo
        · rw [if_pos (by omega), if_pos e2, e2, Nat.sub_self, Nat.testBit_zero]
          simp
        · rw [if_neg (by omega), show k - lo = (k - (lo + 1)) + 1 by omega, Nat.testBit_succ, show (2 * m + 1) / 2 = m by omega]
theorem sumB_congr {F G : (Nat → Bool) → Nat} : ∀ (r lo : Nat) (bt : Nat → Bool), (∀ b, (∀ k, k < lo → b k = bt k) → F b = G b) → sumB F r lo bt = sumB G r lo bt := by
  intro r
  induction r with
  | zero => intro lo bt h; exact h bt (fun _ _ => rfl)
  | succ r ih =>
    intro lo bt h
    have hh : ∀ v b, (∀ k, k < lo + 1 → b k = bset bt lo v k) → F b = G b := fun v b hb => h b (fun k hk => by
      rw [hb k (by omega)]
      unfold bset
      rw [if_neg (by omega)])
    show sumB F r (lo + 1) _ + sumB F r (lo + 1) _ = sumB G r (lo + 1) _ + sumB G r (lo + 1) _
    rw [ih (lo + 1) _ (hh false), ih (lo + 1) _ (hh true)]
theorem sumB_0 : ∀ (r lo : Nat) (bt : Nat → Bool), sumB (fun _ => 0) r lo bt = 0 := by
  intro r
  induction r with
  | zero => intro lo bt; rfl
  | succ r ih =>
    intro lo bt
    show sumB _ r (lo + 1) _ + sumB _ r (lo + 1) _ = 0
    rw [ih, ih]
def cOk (bt : Nat → Bool) (lo N : Nat) (l : List Nat) : Bool := (List.range N).all (fun k => decide (k < lo) || !bt k || decide (k ∈ l))
theorem cOk_iff {bt : Nat → Bool} {lo N : Nat} {l : List Nat} : cOk bt lo N l = true ↔ ∀ k, lo ≤ k → k < N → bt k = true → k ∈ l := by
  unfold cOk
  rw [List.all_eq_true]
  constructor
  · intro h k h1 h2 h3
    have := h k (List.mem_range.mpr h2)
    rw [Bool.or_eq_true, Bool.or_eq_true, decide_eq_true_eq, decide_eq_true_eq, h3] at this
    rcases this with (h4 | h4) | h4
    · omega
    · cases h4
    · exact h4
  · intro h k hk
    have h2 := List.mem_range.mp hk
    rw [Bool.or_eq_true, Bool.or_eq_true, decide_eq_true_eq, decide_eq_true_eq]
    by_cases c : k < lo
    · exact Or.inl (Or.inl c)
    · cases e : bt k with
      | false => exact Or.inl (Or.inr rfl)
      | true => exact Or.inr (h k (by omega) h2 e)
def cF (σ : Sg) (i n p : Nat) (K : kl_K) (lo N : Nat) (bt : Nat → Bool) : Nat := if (pEnds σ i bt n p K && cOk bt lo N (pIf σ i bt n p K)) = true then 1 else 0
theorem cF_s {σ : Sg} {i n p : Nat} {K : kl_K} {lo N : Nat} {bt : Nat → Bool} (hE : ¬ nEnd σ i p = true) : cF σ i (n + 1) p K lo N bt = if (pK σ i bt p K).1 = true then (if (pEnds σ i bt n (pN σ i bt p) (pK σ i bt p K) && cOk bt lo N ((if sk σ (16 * i + p) = nI 2 then [nif σ i p] else []) ++ pIf σ i bt n (pN σ i bt p) (pK σ i bt p K))) = true then 1 else 0) else 0 := by
  have e1 : pEnds σ i bt (n + 1) p K = if nEnd σ i p = true then true else if (pK σ i bt p K).1 = true then pEnds σ i bt n (pN σ i bt p) (pK σ i bt p K) else false := rfl
  have e2 : pIf σ i bt (n + 1) p K = if nEnd σ i p = true then [] else (if sk σ (16 * i + p) = nI 2 then [nif σ i p] else []) ++ (if (pK σ i bt p K).1 = true then pIf σ i bt n (pN σ i bt p) (pK σ i bt p K) else []) := rfl
  rw [if_neg hE] at e1 e2
  unfold cF
  rw [e1, e2]
  by_cases hk : (pK σ i bt p K).1 = true
  · rw [if_pos hk, if_pos hk, if_pos hk]
  · rw [if_neg hk, if_neg hk, if_neg hk, Bool.false_and, if_neg (by decide)]
theorem pIf_in {σ : Sg} {i : Nat} {bt : Nat → Bool} (hf : FnOk σ i) : ∀ (n p : Nat) (K : kl_K), p ≤ sz σ i → ∀ k ∈ pIf σ i bt n p K, nif σ i p ≤ k ∧ k < nif σ i (sz σ i) := by
  intro n
  induction n with
  | zero => intro p K _ k hk; cases hk
  | succ n ih =>
    intro p K hp k hk
    unfold pIf at hk
    by_cases hE : nEnd σ i p = true
    · rw [if_pos hE] at hk; cases hk
    · obtain ⟨hlt, h6⟩ := not_end hE
      rw [if_neg hE] at hk
      rcases List.mem_append.mp hk with h | h
      · by_cases e : sk σ (16 * i + p) = nI 2
        · rw [if_pos e] at h
          have := List.mem_singleton.mp h
          have h1 : nif σ i p + 1 ≤ nif σ i (sz σ i) := by rw [← nif_if e]; exact nif_mono hlt
          omega
        · rw [if_neg e] at h; cases h
      · by_cases hk9 : (pK σ i bt p K).1 = true
        · rw [if_pos hk9] at h
          have hq := pN_cases (bt := bt) hf hlt
          have := ih _ _ hq.2 k h
          exact ⟨Nat.le_trans (nif_mono (Nat.le_of_lt hq.1)) this.1, this.2⟩
        · rw [if_neg hk9] at h; cases h
theorem cF_skip {σ : Sg} {i n p lo N : Nat} {K : kl_K} {b : Nat → Bool} (h : b lo = false) : cF σ i n p K lo N b = cF σ i n p K (lo + 1) N b := by
  unfold cF
  have : cOk b lo N (pIf σ i b n p K) = cOk b (lo + 1) N (pIf σ i b n p K) := by
    rw [Bool.eq_iff_iff, cOk_iff, cOk_iff]
    constructor
    · intro h1 k h2 h3 h4; exact h1 k (by omega) h3 h4
    · intro h1 k h2 h3 h4
      by_cases e : k = lo
      · rw [e, h] at h4; cases h4
      · exact h1 k (by omega) h3 h4
  rw [this]
theorem cF_no {σ : Sg} {i n p lo N : Nat} {K : kl_K} {b : Nat → Bool} (hf : FnOk σ i) (hp : p ≤ sz σ i) (h : b lo = true) (hlo : lo < N) (hn : lo < nif σ i p ∨ nEnd σ i p = true) : cF σ i n p K lo N b = 0 := by
  unfold cF
  refine if_neg (fun z => ?_)
  rw [Bool.and_eq_true, cOk_iff] at z
  have h1 := z.2 lo (Nat.le_refl _) hlo h
  rcases hn with h2 | h2
  · have := (pIf_in hf n p K hp lo h1).1
    omega
  · cases n with
    | zero => cases h1
    | succ n =>
      unfold pIf at h1
      rw [if_pos h2] at h1
      cases h1
theorem bset_at {bt b : Nat → Bool} {lo : Nat} {v : Bool} (h : ∀ k, k < lo + 1 → b k = bset bt lo v k) : b lo = v := by
  rw [h lo (by omega)]
  unfold bset
  rw [if_pos rfl]
/-- a bit that isn't asked here is zero in what counts -/
theorem cF_peel {σ : Sg} {i n p : Nat} {K : kl_K} (hf : FnOk σ i) (hp : p ≤ sz σ i) {N lo r : Nat} {bt : Nat → Bool} (hN : lo + (r + 1) = N) (hn : lo < nif σ i p ∨ nEnd σ i p = true) : sumB (cF σ i n p K lo N) (r + 1) lo bt = sumB (cF σ i n p K (lo + 1) N) r (lo + 1) (bset bt lo false) := by
  show sumB _ r (lo + 1) _ + sumB _ r (lo + 1) _ = _
  rw [sumB_congr (G := fun _ => 0) r (lo + 1) (bset bt lo true) (fun b hb => cF_no hf hp (bset_at hb) (by omega) hn), sumB_0, Nat.add_zero]
  exact sumB_congr r (lo + 1) _ (fun b hb => cF_skip (bset_at hb))
theorem cF_end {σ : Sg} {i n p : Nat} {K : kl_K} (hf : FnOk σ i) (hp : p ≤ sz σ i) (hE : nEnd σ i p = true) : ∀ (r lo : Nat) (bt : Nat → Bool) (N : Nat), lo + r = N → sumB (cF σ i (n + 1) p K lo N) r lo bt = 1 := by
  intro r
  induction r with
  | zero =>
    intro lo bt N h
    show cF σ i (n + 1) p K lo N bt = 1
    unfold cF
    refine if_pos ?_
    rw [Bool.and_eq_true, cOk_iff]
    refine ⟨?_, fun k h1 h2 => by omega⟩
    unfold pEnds
    rw [if_pos hE]
  | succ r ih =>
    intro lo bt N h
    rw [cF_peel hf hp h (Or.inr hE)]
    exact ih (lo + 1) _ N (by omega)
theorem leaves {σ : Sg} {i : Nat} (hf : FnOk σ i) : ∀ (n p : Nat) (K : kl_K), p ≤ sz σ i → ∀ (r lo : Nat) (bt : Nat → Bool), lo + r = nif σ i (sz σ i) → lo ≤ nif σ i p → sumB (cF σ i n p K lo (nif σ i (sz σ i))) r lo bt = lvs σ i n p K := by
  intro n
  have h16 := hf.1
  obtain ⟨N, hNe⟩ : ∃ z, z = nif σ i (sz σ i) := ⟨_, rfl⟩
  rw [← hNe]
  induction n with
  | zero =>
    intro p K hp r lo bt h1 h2
    exact (sumB_congr (G := fun _ => 0) r lo bt (fun b _ => if_neg (fun z => by cases (Bool.and_eq_true_iff.mp z).1))).trans (sumB_0 r lo bt)
  | succ n ih =>
    intro p K hp r lo bt h1 h2
    by_cases hE : nEnd σ i p = true
    · rw [cF_end hf hp hE r lo bt N h1]
      unfold lvs
      rw [if_pos hE]
    · obtain ⟨hlt, h6⟩ := not_end hE
      by_cases e : sk σ (16 * i + p) = nI 2
      · -- an IF
        have hk1 : nif σ i p + 1 ≤ N := by rw [hNe, ← nif_if e]; exact nif_mono hlt
        have main : ∀ (r lo : Nat) (bt : Nat → Bool), lo + r = N → lo ≤ nif σ i p → sumB (cF σ i (n + 1) p K lo N) r lo bt = lvs σ i (n + 1) p K := by
          intro r
          induction r with
          | zero => intro lo bt h1 h2; omega
          | succ r ihr =>
            intro lo bt h1 h2
            by_cases hl : lo < nif σ i p
            · rw [cF_peel hf hp h1 (Or.inl hl)]
              exact ihr (lo + 1) _ (by omega) (by omega)
            · have hlo : lo = nif σ i p := by omega
              subst hlo
              obtain ⟨t, ht1, ht2, ht3⟩ := hf.2.2.1 p hlt (Or.inl e)
              have htn : nt (st_tg σ i p) = t := by rw [ht1, nt_nI (by omega)]
              have hnx := st_nx_if hf hlt e
              show sumB _ r (nif σ i p + 1) _ + sumB _ r (nif σ i p + 1) _ = _
              have hA : ∀ b : Nat → Bool, b (nif σ i p) = false → cF σ i (n + 1) p K (nif σ i p) N b = if (st_K σ i p K).1 = true then cF σ i n (p + 1) (st_K σ i p K) (nif σ i p + 1) N b else 0 := by
                intro b hb
                have e1 : pK σ i b p K = st_K σ i p K := if_neg (fun z => by rw [hb] at z; cases z.2)
                have e2 : pN σ i b p = p + 1 := (if_neg (fun z => by rw [hb] at z; cases z.2)).trans hnx
                rw [cF_s hE, e1, e2]
                by_cases hk : (st_K σ i p K).1 = true
                · rw [if_pos hk, if_pos hk, if_pos e]
                  rw [show cOk b (nif σ i p) N ([nif σ i p] ++ pIf σ i b n (p + 1) (st_K σ i p K)) = cOk b (nif σ i p + 1) N (pIf σ i b n (p + 1) (st_K σ i p K)) by
                    rw [Bool.eq_iff_iff, cOk_iff, cOk_iff]
                    constructor
                    · intro h k h1 h2 h3
                      rcases List.mem_append.mp (h k (by omega) h2 h3) with h4 | h4
                      · have := List.mem_singleton.mp h4; omega
                      · exact h4
                    · intro h k h1 h2 h3
                      by_cases e9 : k = nif σ i p
                      · rw [e9, hb] at h3; cases h3
                      · exact List.mem_append_right _ (h k (by omega) h2 h3)]
                  rfl
                · rw [if_neg hk, if_neg hk]
              have hB : ∀ b : Nat → Bool, b (nif σ i p) = true → cF σ i (n + 1) p K (nif σ i p) N b = if (st_ot σ i p K).1 = true then cF σ i n t (st_ot σ i p K) (nif σ i p + 1) N b else 0 := by
                intro b hb
                have e1 : pK σ i b p K = st_ot σ i p K := if_pos ⟨e, hb⟩
                have e2 : pN σ i b p = t := (if_pos ⟨e, hb⟩).trans htn
                rw [cF_s hE, e1, e2]
                by_cases hk : (st_ot σ i p K).1 = true
                · rw [if_pos hk, if_pos hk, if_pos e]
                  rw [show cOk b (nif σ i p) N ([nif σ i p] ++ pIf σ i b n t (st_ot σ i p K)) = cOk b (nif σ i p + 1) N (pIf σ i b n t (st_ot σ i p K)) by
                    rw [Bool.eq_iff_iff, cOk_iff, cOk_iff]
                    constructor
                    · intro h k h1 h2 h3
                      rcases List.mem_append.mp (h k (by omega) h2 h3) with h4 | h4
                      · have := List.mem_singleton.mp h4; omega
                      · exact h4
                    · intro h k h1 h2 h3
                      by_cases e9 : k = nif σ i p
                      · rw [e9]; exact List.mem_append_left _ (List.mem_singleton.mpr rfl)
                      · exact List.mem_append_right _ (h k (by omega) h2 h3)]
                  rfl
                · rw [if_neg hk, if_neg hk]
              have hm1 : nif σ i p + 1 ≤ nif σ i (p + 1) := by rw [nif_if e]; exact Nat.le_refl _
              have hm2 : nif σ i p + 1 ≤ nif σ i t := by rw [← nif_if e]; exact nif_mono ht2
              rw [sumB_congr r (nif σ i p + 1) (bset bt (nif σ i p) false) (fun b hb => hA b (bset_at hb)), sumB_congr r (nif σ i p + 1) (bset bt (nif σ i p) true) (fun b hb => hB b (bset_at hb))]
              unfold lvs
              rw [if_neg hE, hnx, htn]
              congr 1
              · by_cases hk : (st_K σ i p K).1 = true
                · simp only [if_pos hk]
                  exact ih (p + 1) _ (by omega) r (nif σ i p + 1) _ (by omega) hm1
                · simp only [if_neg hk]
                  exact sumB_0 _ _ _
              · by_cases hk : (st_ot σ i p K).1 = true
                · simp only [if_pos hk]
                  rw [if_pos ⟨e, hk⟩]
                  exact ih t _ ht3 r (nif σ i p + 1) _ (by omega) hm2
                · simp only [if_neg hk]
                  rw [if_neg (fun z => hk z.2)]
                  exact sumB_0 _ _ _
        exact main r lo bt h1 h2
      · have e1 : ∀ b : Nat → Bool, pK σ i b p K = st_K σ i p K := fun b => if_neg (fun z => e z.1)
        have e2 : ∀ b : Nat → Bool, pN σ i b p = nt (st_nx σ i p) := fun b => if_neg (fun z => e z.1)
        have hq := pN_cases (bt := fun _ => false) hf hlt
        rw [e2] at hq
        unfold lvs
        rw [if_neg hE, if_neg (c := sk σ (16 * i + p) = nI 2 ∧ (st_ot σ i p K).1 = true) (fun z => e z.1), Nat.add_zero]
        have hF : ∀ b : Nat → Bool, cF σ i (n + 1) p K lo N b = if (st_K σ i p K).1 = true then cF σ i n (nt (st_nx σ i p)) (st_K σ i p K) lo N b else 0 := by
          intro b
          rw [cF_s hE, e1, e2]
          by_cases hk : (st_K σ i p K).1 = true
          · rw [if_pos hk, if_pos hk, if_neg e, List.nil_append]
            rfl
          · rw [if_neg hk, if_neg hk]
        rw [sumB_congr r lo bt (fun b _ => hF b)]
        by_cases hk : (st_K σ i p K).1 = true
        · simp only [if_pos hk]
          exact ih _ _ hq.2 r lo bt h1 (Nat.le_trans h2 (nif_mono (Nat.le_of_lt hq.1)))
        · simp only [if_neg hk]
          exact sumB_0 _ _ _
