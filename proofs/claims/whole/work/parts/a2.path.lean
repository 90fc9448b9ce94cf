/-! A way of the model: the nodes that it comes to, by the bits of its mask. -/
def pK (σ : Sg) (i : Nat) (bt : Nat → Bool) (p : Nat) (K : kl_K) : kl_K := if sk σ (16 * i + p) = nI 2 ∧ bt (nif σ i p) = true then st_ot σ i p K else st_K σ i p K
def pN (σ : Sg) (i : Nat) (bt : Nat → Bool) (p : Nat) : Nat := if sk σ (16 * i + p) = nI 2 ∧ bt (nif σ i p) = true then nt (st_tg σ i p) else nt (st_nx σ i p)
def pth (σ : Sg) (i : Nat) (bt : Nat → Bool) : Nat → Nat → kl_K → List (Nat × kl_K)
  | 0, _, _ => []
  | n + 1, p, K => (p, K) :: (if nEnd σ i p = true then [] else if (pK σ i bt p K).1 = true then pth σ i bt n (pN σ i bt p) (pK σ i bt p K) else [])
def pEnds (σ : Sg) (i : Nat) (bt : Nat → Bool) : Nat → Nat → kl_K → Bool
  | 0, _, _ => false
  | n + 1, p, K => if nEnd σ i p = true then true else if (pK σ i bt p K).1 = true then pEnds σ i bt n (pN σ i bt p) (pK σ i bt p K) else false
def pIf (σ : Sg) (i : Nat) (bt : Nat → Bool) : Nat → Nat → kl_K → List Nat
  | 0, _, _ => []
  | n + 1, p, K => if nEnd σ i p = true then [] else (if sk σ (16 * i + p) = nI 2 then [nif σ i p] else []) ++ (if (pK σ i bt p K).1 = true then pIf σ i bt n (pN σ i bt p) (pK σ i bt p K) else [])
def meF (l : List Nat) (me : Int32) : Int32 := l.foldl (fun me k => me ||| (nI 1 <<< (nI k &&& 31))) me
abbrev Mq : Type := Int32 × (Nat → Int32) × Int64 × Int32
abbrev mqOf (u : MC) : Mq := (u.le, u.gc, u.mx, u.se)
def mAc (σ : Sg) (i : Nat) (sp : Int32) (ka kc : Nat) (u : Mq) (x : Nat × kl_K) : Mq := (n_lu u.1 (nI x.1) (nSh σ i x), upd u.2.1 x.1 (nI 1), m_mx sp x.1 u.2.2.2 u.2.2.1 (encL (x.2.2 ka kc)), m_se sp x.1 u.2.2.2)
theorem pN_cases {σ : Sg} {i p : Nat} {bt : Nat → Bool} (hf : FnOk σ i) (hp : p < sz σ i) : p < pN σ i bt p ∧ pN σ i bt p ≤ sz σ i := by
  have h16 := hf.1
  unfold pN
  split
  · rename_i e
    obtain ⟨t, h1, h2, h3⟩ := hf.2.2.1 p hp (Or.inl e.1)
    rw [h1, nt_nI (by omega)]
    exact ⟨h2, h3⟩
  · unfold st_nx
    split
    · rename_i e
      obtain ⟨t, h1, h2, h3⟩ := hf.2.2.1 p hp (Or.inr e)
      rw [h1, nt_nI (by omega)]
      exact ⟨h2, h3⟩
    · rw [nt_nI (by omega)]
      exact ⟨by omega, by omega⟩
/-- the mask's bits -/
def mBt (mask : Int32) : Nat → Bool := fun k => !decide ((mask >>> (nI k &&& 31)) &&& nI 1 = 0)
theorem m_K_pK {σ : Sg} {i p : Nat} {mask : Int32} {K : kl_K} : m_K σ i p mask K = pK σ i (mBt mask) p K := by
  unfold m_K pK m_bit mBt
  by_cases e : sk σ (16 * i + p) = nI 2
  · rw [if_pos e]
    by_cases c : (mask >>> (nI (nif σ i p) &&& 31)) &&& nI 1 = 0
    · rw [if_pos (decide_eq_true c), if_neg (fun z => by rw [decide_eq_true c] at z; exact absurd z.2 (by decide))]
    · rw [if_neg (fun z => c (of_decide_eq_true z)), if_pos ⟨e, by rw [decide_eq_false c]; rfl⟩]
  · rw [if_neg e, if_neg (fun z => e z.1)]
theorem m_nx_pN {σ : Sg} {i p : Nat} {mask : Int32} (hf : FnOk σ i) (hp : p < sz σ i) : m_nx σ i p mask = nI (pN σ i (mBt mask) p) := by
  have h16 := hf.1
  obtain ⟨q, h1, h2, h3⟩ := m_nx_cases (mask := mask) hf hp
  have hn : nt (m_nx σ i p mask) = pN σ i (mBt mask) p := by
    unfold m_nx pN m_bit mBt
    by_cases e : sk σ (16 * i + p) = nI 2
    · rw [if_pos e]
      by_cases c : (mask >>> (nI (nif σ i p) &&& 31)) &&& nI 1 = 0
      · rw [if_pos (decide_eq_true c), if_neg (fun z => by rw [decide_eq_true c] at z; exact absurd z.2 (by decide))]
        unfold st_nx
        rw [if_neg (by rw [e]; decide +kernel)]
      · rw [if_neg (fun z => c (of_decide_eq_true z)), if_pos ⟨e, by rw [decide_eq_false c]; rfl⟩]
    · rw [if_neg e, if_neg (fun z => e z.1)]
  rw [← hn, h1, nt_nI (by omega)]
theorem m_run_eff {σ : Sg} {i : Nat} {mask sp : Int32} {ka kc : Nat} (hf : FnOk σ i) : ∀ (n p : Nat) (u : MC), p ≤ sz σ i →
    mqOf (m_run σ i mask sp ka kc n (some p) u) = (pth σ i (mBt mask) n p u.K).foldl (mAc σ i sp ka kc) (mqOf u) ∧ (m_run σ i mask sp ka kc n (some p) u).en = u.en + (if pEnds σ i (mBt mask) n p u.K = true ∧ mask &&& (meF (pIf σ i (mBt mask) n p u.K) u.me ^^^ -1) = 0 then 1 else 0) := by
  intro n
  have h16 := hf.1
  induction n with
  | zero =>
    intro p u _
    refine ⟨rfl, ?_⟩
    rw [if_neg (fun z => absurd z.1 (by unfold pEnds; decide))]
    rfl
  | succ n ih =>
    intro p u hp
    have hr : m_run σ i mask sp ka kc (n + 1) (some p) u = m_run σ i mask sp ka kc n (m_step σ i mask sp ka kc p u).1 (m_step σ i mask sp ka kc p u).2 := rfl
    rw [hr]
    by_cases hz : sz σ i = p
    · have hE : nEnd σ i p = true := by unfold nEnd; rw [decide_eq_true (show sz σ i ≤ p by omega)]; rfl
      have es : m_step σ i mask sp ka kc p u = (none, m_fin σ i p mask 0 0 (m_come sp ka kc p u)) := if_pos hz
      rw [es, m_run_none]
      unfold pth pEnds pIf
      rw [if_pos hE, if_pos hE, if_pos hE]
      refine ⟨?_, ?_⟩
      · have hS : nSh σ i (p, u.K) = s_shw σ (2 * i + 1) 1 2 (kl_give 3 0 0 u.K) := if_pos (show sz σ i ≤ p by omega)
        show _ = mAc σ i sp ka kc (mqOf u) (p, u.K)
        unfold mAc
        rw [hS]
        rfl
      · show (if mask &&& (u.me ^^^ -1) = 0 then u.en + 1 else u.en) = _
        by_cases c : mask &&& (u.me ^^^ -1) = 0
        · rw [if_pos c, if_pos ⟨rfl, c⟩]
        · rw [if_neg c, if_neg (fun z => c z.2)]; rfl
    · have hlt : p < sz σ i := by omega
      have hS : nSh σ i (p, u.K) = st_sh σ i p u.K := if_neg (show ¬ sz σ i ≤ p by omega)
      by_cases h6 : sk σ (16 * i + p) = nI 6
      · have hE : nEnd σ i p = true := by unfold nEnd; rw [decide_eq_true h6, Bool.or_true]
        have es : m_step σ i mask sp ka kc p u = (none, m_fin σ i p mask (nt (sb σ (16 * i + p))) (sK σ (16 * i + p)).toInt (m_come sp ka kc p u)) := by unfold m_step; rw [if_neg hz, if_pos h6]
        rw [es, m_run_none]
        unfold pth pEnds pIf
        rw [if_pos hE, if_pos hE, if_pos hE]
        refine ⟨?_, ?_⟩
        · show _ = mAc σ i sp ka kc (mqOf u) (p, u.K)
          unfold mAc
          rw [hS, st_sh_6 h6]
          rfl
        · show (if mask &&& (u.me ^^^ -1) = 0 then u.en + 1 else u.en) = _
          by_cases c : mask &&& (u.me ^^^ -1) = 0
          · rw [if_pos c, if_pos ⟨rfl, c⟩]
          · rw [if_neg c, if_neg (fun z => c z.2)]; rfl
      · have hE : ¬ nEnd σ i p = true := by unfold nEnd; rw [decide_eq_false (show ¬ sz σ i ≤ p by omega), decide_eq_false h6]; decide
        have es : m_step σ i mask sp ka kc p u = (if (pK σ i (mBt mask) p u.K).1 = true then some (pN σ i (mBt mask) p) else none, m_go σ i p mask (m_come sp ka kc p u)) := by
          unfold m_step
          rw [if_neg hz, if_neg h6, m_nx_pN hf hlt, deP_nI (by have := (pN_cases (bt := mBt mask) hf hlt).2; omega), m_K_pK]
        have hme : m_me σ i p u.me = meF (if sk σ (16 * i + p) = nI 2 then [nif σ i p] else []) u.me := by
          unfold m_me
          split <;> rfl
        have hfold : mqOf (m_go σ i p mask (m_come sp ka kc p u)) = mAc σ i sp ka kc (mqOf u) (p, u.K) := by
          unfold mAc
          rw [hS]
          rfl
        have hgK : (m_go σ i p mask (m_come sp ka kc p u)).K = pK σ i (mBt mask) p u.K := m_K_pK
        rw [es]
        unfold pth pEnds pIf
        rw [if_neg hE, if_neg hE, if_neg hE]
        by_cases hk : (pK σ i (mBt mask) p u.K).1 = true
        · rw [if_pos hk, if_pos hk, if_pos hk]
          have hI := ih (pN σ i (mBt mask) p) (m_go σ i p mask (m_come sp ka kc p u)) (pN_cases hf hlt).2
          rw [hgK, hfold] at hI
          rw [if_pos hk]
          refine ⟨hI.1, ?_⟩
          rw [hI.2]
          have h9 : meF (pIf σ i (mBt mask) n (pN σ i (mBt mask) p) (pK σ i (mBt mask) p u.K)) (m_go σ i p mask (m_come sp ka kc p u)).me = meF ((if sk σ (16 * i + p) = nI 2 then [nif σ i p] else []) ++ pIf σ i (mBt mask) n (pN σ i (mBt mask) p) (pK σ i (mBt mask) p u.K)) u.me := by
            show meF _ (m_me σ i p u.me) = _
            rw [hme]
            unfold meF
            rw [List.foldl_append]
          rw [h9]
          rfl
        · rw [if_neg hk, if_neg hk, if_neg hk, if_neg hk, m_run_none]
          refine ⟨hfold, ?_⟩
          rw [if_neg (fun z => absurd z.1 (by decide))]
          rfl
/-- bits -/
theorem mBt_test {m k : Nat} (hm : m < 64) (hk : k < 6) : mBt (nI m) k = m.testBit k := by
  have h : ∀ m, m < 64 → ∀ k, k < 6 → mBt (nI m) k = m.testBit k := by decide +kernel
  exact h m hm k hk
theorem me_or {w k : Nat} (hw : w < 64) (hk : k < 6) : nI w ||| (nI 1 <<< (nI k &&& 31)) = nI (w ||| 2 ^ k) ∧ w ||| 2 ^ k < 64 := by
  have h : ∀ w, w < 64 → ∀ k, k < 6 → nI w ||| (nI 1 <<< (nI k &&& 31)) = nI (w ||| 2 ^ k) ∧ w ||| 2 ^ k < 64 := by decide +kernel
  exact h w hw k hk
theorem me_sub {m w : Nat} (hm : m < 64) (hw : w < 64) : nI m &&& (nI w ^^^ -1) = 0 ↔ ∀ k, k < 6 → m.testBit k = true → w.testBit k = true := by
  have h : ∀ m, m < 64 → ∀ w, w < 64 → (nI m &&& (nI w ^^^ -1) = 0 ↔ ∀ k, k < 6 → m.testBit k = true → w.testBit k = true) := by decide +kernel
  exact h m hm w hw
theorem meF_bits : ∀ (l : List Nat) (w : Nat), w < 64 → (∀ k ∈ l, k < 6) → ∃ w', w' < 64 ∧ meF l (nI w) = nI w' ∧ ∀ k, w'.testBit k = (w.testBit k || decide (k ∈ l)) := by
  intro l
  induction l with
  | nil => intro w hw _; exact ⟨w, hw, rfl, fun k => by simp⟩
  | cons a l ih =>
    intro w hw hl
    obtain ⟨h1, h2⟩ := me_or hw (hl a List.mem_cons_self)
    obtain ⟨w', b1, b2, b3⟩ := ih (w ||| 2 ^ a) h2 (fun k hk => hl k (List.mem_cons_of_mem _ hk))
    refine ⟨w', b1, ?_, fun k => ?_⟩
    · show meF l (nI w ||| (nI 1 <<< (nI a &&& 31))) = nI w'
      rw [h1, b2]
    · rw [b3 k, Nat.testBit_or, Nat.testBit_two_pow, Bool.or_assoc]
      congr 1
      by_cases e : k = a
      · subst e; simp
      · simp [e, Ne.symm e]
theorem meF_sub {m : Nat} {l : List Nat} (hm : m < 64) (hl : ∀ k ∈ l, k < 6) : nI m &&& (meF l (nI 0) ^^^ -1) = 0 ↔ ∀ k, k < 6 → m.testBit k = true → k ∈ l := by
  obtain ⟨w', b1, b2, b3⟩ := meF_bits l 0 (by omega) hl
  rw [b2, me_sub hm b1]
  constructor
  · intro h k hk hb
    have := h k hk hb
    rw [b3] at this
    simpa using this
  · intro h k hk hb
    rw [b3]
    simp [h k hk hb]
