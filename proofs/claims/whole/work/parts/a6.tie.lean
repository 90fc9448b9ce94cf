/-! The class's state and the model's arrays, tied: one function's statements, by rows. -/
def nifR (K : Nat → Int32) : Nat → Nat
  | 0 => 0
  | p + 1 => nifR K p + (if K p = nI 2 then 1 else 0)
theorem nif_R {σ : Sg} {i : Nat} : ∀ p, nif σ i p = nifR (fun p => sk σ (16 * i + p)) p := by
  intro p
  induction p with
  | zero => rfl
  | succ p ih =>
    show nif σ i p + _ = nifR _ p + _
    rw [ih]
theorem nifR_congr {K K' : Nat → Int32} : ∀ p, (∀ k, k < p → K' k = K k) → nifR K' p = nifR K p := by
  intro p
  induction p with
  | zero => intro _; rfl
  | succ p ih =>
    intro h
    show nifR K' p + _ = nifR K p + _
    rw [ih (fun k hk => h k (by omega)), h p (by omega)]
theorem nifR_upd {K : Nat → Int32} {n : Nat} {v : Int32} {p : Nat} (h : p ≤ n) : nifR (upd K n v) p = nifR K p := nifR_congr p (fun k hk => pk_un (by omega))
theorem anyB_congr {P Q : Nat → Bool} : ∀ n j, (∀ k, j ≤ k → k < j + n → P k = Q k) → anyB P n j = anyB Q n j := by
  intro n
  induction n with
  | zero => intro j _; rfl
  | succ n ih =>
    intro j h
    show (P j || anyB P n (j + 1)) = (Q j || anyB Q n (j + 1))
    rw [h j (Nat.le_refl _) (by omega), ih (j + 1) (fun k h1 h2 => h k (by omega) (by omega))]
theorem anyB_last {P : Nat → Bool} : ∀ n j, anyB P (n + 1) j = (anyB P n j || P (j + n)) := by
  intro n
  induction n with
  | zero =>
    intro j
    show (P j || false) = (false || P j)
    cases P j <;> rfl
  | succ n ih =>
    intro j
    show (P j || anyB P (n + 1) (j + 1)) = ((P j || anyB P n (j + 1)) || P (j + (n + 1)))
    rw [ih (j + 1), Bool.or_assoc, show j + 1 + n = j + (n + 1) by omega]
def gRow (K A : Nat → Int32) (x : Int32) (j : Nat) : Bool := m_gk (K j) && decide (A j = x)
def tpl (o : Option Nat) (p : Nat) : Nat := match o with
  | some e => e
  | none => p
def nxp (el ed : Option Nat) : Option Nat := match el with
  | some e => some (e + 1)
  | none => ed
def TieR (b n oi ni : Nat) (gv : Int32) (go K A S g10 g11 g12 g14 : Nat → Int32) : Prop := ∃ (el ed : Nat → Option Nat) (q : Nat → Nat),
  (ni = nifR K n ∧ ni ≤ 6 ∧ oi ≤ ni) ∧
  (∀ p, p < n → K p = nI 2 → (g10 p = nI (nifR K p) ∧ g11 p = enP (el p) ∧ g12 p = enP (ed p) ∧ S p = enP (nxp (el p) (ed p))) ∧ (∀ e, el p = some e → p < e ∧ e < n ∧ K e = nI 3) ∧ (∀ d, ed p = some d → p < d ∧ d < n ∧ ∀ e, el p = some e → e < d)) ∧
  (∀ e, e < n → K e = nI 3 → ∃ p, p < e ∧ K p = nI 2 ∧ el p = some e ∧ S e = enP (ed p)) ∧
  (∀ p p' e, p < n → p' < n → K p = nI 2 → K p' = nI 2 → el p = some e → el p' = some e → p = p') ∧
  (∀ j, j < oi → q j < n ∧ K (q j) = nI 2 ∧ ed (q j) = none ∧ g14 j = nI (b + q j) ∧ go j = nI (tpl (el (q j)) (q j))) ∧
  (∀ j k, j < oi → k < oi → j ≠ k → q j ≠ q k) ∧
  (∀ m, 4 ≤ m → m < 12 → decide ((gv >>> (nI m &&& 31)) &&& nI 1 = nI 1) = anyB (gRow K A (nI m)) n 0)
theorem TieR.congr {b n oi ni : Nat} {gv : Int32} {go K A S g10 g11 g12 g14 go' K' A' S' g10' g11' g12' g14' : Nat → Int32} (h : TieR b n oi ni gv go K A S g10 g11 g12 g14) (hgo : ∀ j, j < 6 → go' j = go j) (hK : ∀ p, p < n → K' p = K p) (hA : ∀ p, p < n → A' p = A p) (hS : ∀ p, p < n → S' p = S p) (h10 : ∀ p, p < n → g10' p = g10 p) (h11 : ∀ p, p < n → g11' p = g11 p) (h12 : ∀ p, p < n → g12' p = g12 p) (h14 : ∀ j, j < 6 → g14' j = g14 j) : TieR b n oi ni gv go' K' A' S' g10' g11' g12' g14' := by
  obtain ⟨el, ed, q, ⟨a1, a2, a3⟩, a4, a5, a6, a7, a8, a9⟩ := h
  refine ⟨el, ed, q, ⟨by rw [nifR_congr n hK]; exact a1, a2, a3⟩, fun p hp hk => ?_, fun e he hk => ?_, fun p p' e hp hp' hk hk' => ?_, fun j hj => ?_, a8, fun m h1 h2 => ?_⟩
  · rw [hK p hp] at hk
    obtain ⟨⟨b1, b2, b3, b4⟩, b5, b6⟩ := a4 p hp hk
    refine ⟨⟨by rw [h10 p hp, nifR_congr p (fun k hk => hK k (by omega))]; exact b1, by rw [h11 p hp]; exact b2, by rw [h12 p hp]; exact b3, by rw [hS p hp]; exact b4⟩, fun e he => ?_, b6⟩
    have := b5 e he
    exact ⟨this.1, this.2.1, by rw [hK e this.2.1]; exact this.2.2⟩
  · rw [hK e he] at hk
    obtain ⟨p, b1, b2, b3, b4⟩ := a5 e he hk
    exact ⟨p, b1, by rw [hK p (by omega)]; exact b2, b3, by rw [hS e he]; exact b4⟩
  · rw [hK p hp] at hk
    rw [hK p' hp'] at hk'
    exact a6 p p' e hp hp' hk hk'
  · obtain ⟨b1, b2, b3, b4, b5⟩ := a7 j hj
    exact ⟨b1, by rw [hK _ b1]; exact b2, b3, by rw [h14 j (by omega)]; exact b4, by rw [hgo j (by omega)]; exact b5⟩
  · rw [a9 m h1 h2]
    refine anyB_congr n 0 (fun k _ hk => ?_)
    unfold gRow
    rw [hK k (by omega), hA k (by omega)]
theorem enP_inj {o o' : Option Nat} (h : ∀ d, o = some d → d < 2 ^ 31) (h' : ∀ d, o' = some d → d < 2 ^ 31) (e : enP o = enP o') : o = o' := by
  cases o with
  | none =>
    cases o' with
    | none => rfl
    | some d => exact absurd e.symm (nI_m1 (h' d rfl))
  | some c =>
    cases o' with
    | none => exact absurd e (nI_m1 (h c rfl))
    | some d => rw [(nI_eq (h c rfl) (h' d rfl)).mp e]
theorem enP_neg {o : Option Nat} (h : ∀ d, o = some d → d < 2 ^ 31) : enP o < 0 ↔ o = none := by
  cases o with
  | none => exact ⟨fun _ => rfl, fun _ => by show (-1 : Int32) < 0; decide +kernel⟩
  | some d =>
    refine ⟨fun h9 => ?_, fun h9 => by cases h9⟩
    have h1 : nI d < 0 := h9
    rw [Int32.lt_iff_toInt_lt, nI_toInt (h d rfl), show (0 : Int32).toInt = 0 by decide +kernel] at h1
    omega
/-- where an IF or an ELSE leads -/
def tgR (S : Nat → Int32) (n p : Nat) : Int32 := if S p = -1 then nI n else S p
theorem enP_tg {o : Option Nat} {n : Nat} (h : ∀ d, o = some d → d < 2 ^ 31) : (if enP o = -1 then nI n else enP o) = nI (o.getD n) := by
  cases o with
  | none => exact if_pos rfl
  | some d => exact if_neg (nI_m1 (h d rfl))
theorem TieR.ways {b n oi ni : Nat} {gv : Int32} {go K A S g10 g11 g12 g14 : Nat → Int32} (h : TieR b n oi ni gv go K A S g10 g11 g12 g14) (hn : n ≤ 16) : ∀ p, p < n → K p = nI 2 ∨ K p = nI 3 → ∃ t, tgR S n p = nI t ∧ p < t ∧ t ≤ n := by
  obtain ⟨el, ed, q, -, a4, a5, -⟩ := h
  intro p hp hk
  rcases hk with hk | hk
  · obtain ⟨⟨-, -, -, b4⟩, b5, b6⟩ := a4 p hp hk
    unfold tgR
    rw [b4]
    cases e1 : el p with
    | some e =>
      have := b5 e e1
      refine ⟨e + 1, ?_, by omega, by omega⟩
      show (if nI (e + 1) = -1 then nI n else nI (e + 1)) = _
      rw [if_neg (nI_m1 (by omega))]
    | none =>
      show ∃ t, (if enP (ed p) = -1 then nI n else enP (ed p)) = nI t ∧ _
      cases e2 : ed p with
      | none => exact ⟨n, if_pos rfl, hp, Nat.le_refl _⟩
      | some d =>
        have := b6 d e2
        exact ⟨d, if_neg (nI_m1 (by omega)), this.1, by omega⟩
  · obtain ⟨p0, c1, c2, c3, c4⟩ := a5 p hp hk
    obtain ⟨-, b5, b6⟩ := a4 p0 (by omega) c2
    unfold tgR
    rw [c4]
    cases e2 : ed p0 with
    | none => exact ⟨n, if_pos rfl, hp, Nat.le_refl _⟩
    | some d =>
      have := b6 d e2
      exact ⟨d, if_neg (nI_m1 (by omega)), this.2.2 p c3, by omega⟩
theorem TieR.tg2 {b n oi ni : Nat} {gv : Int32} {go K A S g10 g11 g12 g14 : Nat → Int32} (h : TieR b n oi ni gv go K A S g10 g11 g12 g14) (hn : n ≤ 16) {p : Nat} (hp : p < n) (hk : K p = nI 2) : g10 p = nI (nifR K p) ∧ (if g11 p < 0 then (if g12 p < 0 then nI n else g12 p) else g11 p + nI 1) = tgR S n p := by
  obtain ⟨el, ed, q, -, a4, a5, -⟩ := h
  obtain ⟨⟨b1, b2, b3, b4⟩, b5, b6⟩ := a4 p hp hk
  refine ⟨b1, ?_⟩
  have hl : ∀ d, el p = some d → d < 2 ^ 31 := fun d hd => by have := b5 d hd; omega
  have hd : ∀ d, ed p = some d → d < 2 ^ 31 := fun d hd => by have := b6 d hd; omega
  unfold tgR
  rw [b2, b3, b4]
  cases e1 : el p with
  | some e =>
    have := b5 e e1
    rw [if_neg (show ¬ enP (some e) < 0 from fun z => by have := (enP_neg (fun d h9 => by cases h9; omega)).mp z; cases this)]
    show nI e + nI 1 = if nI (e + 1) = -1 then nI n else nI (e + 1)
    rw [if_neg (nI_m1 (by omega)), nI_add]
  | none =>
    rw [if_pos (show enP none < 0 by show (-1 : Int32) < 0; decide +kernel)]
    show (if enP (ed p) < 0 then nI n else enP (ed p)) = if enP (ed p) = -1 then nI n else enP (ed p)
    cases e2 : ed p with
    | none => rw [if_pos (show enP none < 0 by show (-1 : Int32) < 0; decide +kernel), if_pos (show enP none = -1 from rfl)]
    | some d =>
      rw [e2] at hd
      rw [if_neg (fun z => by have := (enP_neg hd).mp z; cases this), if_neg (show ¬ enP (some d) = -1 from nI_m1 (hd d rfl))]
def s3R (K g11 g12 : Nat → Int32) (n p : Nat) : Nat → Nat → Int32
  | 0, _ => nI n
  | m + 1, q => if K q = nI 2 ∧ g11 q = nI p then (if g12 q < 0 then nI n else g12 q) else s3R K g11 g12 n p m (q + 1)
theorem TieR.tg3 {b n oi ni : Nat} {gv : Int32} {go K A S g10 g11 g12 g14 : Nat → Int32} (h : TieR b n oi ni gv go K A S g10 g11 g12 g14) (hn : n ≤ 16) {e : Nat} (he : e < n) (hk : K e = nI 3) : s3R K g11 g12 n e e 0 = tgR S n e := by
  obtain ⟨el, ed, q, -, a4, a5, a6, -⟩ := h
  obtain ⟨p0, c1, c2, c3, c4⟩ := a5 e he hk
  obtain ⟨⟨-, b2, b3, -⟩, b5, b6⟩ := a4 p0 (by omega) c2
  have hd : ∀ d, ed p0 = some d → d < 2 ^ 31 := fun d hd => by have := b6 d hd; omega
  have hval : (if g12 p0 < 0 then nI n else g12 p0) = tgR S n e := by
    unfold tgR
    rw [b3, c4]
    cases e2 : ed p0 with
    | none => rw [if_pos (show enP none < 0 by show (-1 : Int32) < 0; decide +kernel), if_pos (show enP none = -1 from rfl)]
    | some d =>
      rw [e2] at hd
      rw [if_neg (fun z => by have := (enP_neg hd).mp z; cases this), if_neg (show ¬ enP (some d) = -1 from nI_m1 (hd d rfl))]
  have hmain : ∀ m x, x + m = e → x ≤ p0 → s3R K g11 g12 n e m x = tgR S n e := by
    intro m
    induction m with
    | zero => intro x h1 h2; omega
    | succ m ih =>
      intro x h1 h2
      unfold s3R
      by_cases c : K x = nI 2 ∧ g11 x = nI e
      · rw [if_pos c]
        obtain ⟨⟨-, d2, -, -⟩, d5, -⟩ := a4 x (by omega) c.1
        have hel : el x = some e := enP_inj (fun d h9 => by have := d5 d h9; omega) (fun d h9 => by cases h9; omega) (by rw [← d2]; exact c.2)
        rw [a6 x p0 e (by omega) (by omega) c.1 c2 hel c3]
        exact hval
      · rw [if_neg c]
        by_cases h9 : x = p0
        · exact absurd ⟨by rw [h9]; exact c2, by rw [h9, b2, c3]; rfl⟩ c
        · exact ih (x + 1) (by omega) (by omega)
  exact hmain e 0 (by omega) (Nat.zero_le _)
/-- the top of the open IFs -/
theorem TieR.top {b n oi ni : Nat} {gv : Int32} {go K A S g10 g11 g12 g14 : Nat → Int32} (h : TieR b n oi ni gv go K A S g10 g11 g12 g14) (hn : n ≤ 16) (hb : b < 2 ^ 30) (ho : 0 < oi) : ∃ t0 tt, t0 < n ∧ K t0 = nI 2 ∧ g14 (oi - 1) = nI (b + t0) ∧ go (oi - 1) = nI tt ∧ tt < n ∧ (g11 t0 < 0 ↔ K tt = nI 2) := by
  obtain ⟨el, ed, q, -, a4, a5, a6, a7, -⟩ := h
  obtain ⟨c1, c2, c3, c4, c5⟩ := a7 (oi - 1) (by omega)
  obtain ⟨⟨-, b2, -, -⟩, b5, -⟩ := a4 _ c1 c2
  refine ⟨q (oi - 1), tpl (el (q (oi - 1))) (q (oi - 1)), c1, c2, c4, c5, ?_, ?_⟩
  · cases e : el (q (oi - 1)) with
    | none => exact c1
    | some e9 => exact (b5 e9 e).2.1
  · rw [b2]
    cases e : el (q (oi - 1)) with
    | none => exact ⟨fun _ => c2, fun _ => by show (-1 : Int32) < 0; decide +kernel⟩
    | some e9 =>
      have h9 := b5 e9 e
      refine ⟨fun z => ?_, fun z => ?_⟩
      · have := (enP_neg (fun d h8 => by cases h8; omega)).mp z
        cases this
      · have z2 : K e9 = nI 2 := z
        rw [h9.2.2] at z2
        exact absurd z2 (by decide +kernel)
