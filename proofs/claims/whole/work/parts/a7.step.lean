/-! A statement more: the tie stays. -/
theorem gRow_upd {K A : Nat → Int32} {n : Nat} {kd a x : Int32} : anyB (gRow (upd K n kd) (upd A n a) x) (n + 1) 0 = (anyB (gRow K A x) n 0 || (m_gk kd && decide (a = x))) := by
  rw [anyB_last, Nat.zero_add]
  congr 1
  · refine anyB_congr n 0 (fun k _ hk => ?_)
    unfold gRow
    rw [pk_un (by omega), pk_un (by omega)]
  · unfold gRow
    rw [pk_us, pk_us]
theorem gv_step {K A : Nat → Int32} {n q : Nat} {gv a : Int32} (hq : q < 8) (ha : q = 0 ∨ q = 1 ∨ q = 7 → ∃ m, 4 ≤ m ∧ m < 12 ∧ a = nI m) (h : ∀ m, 4 ≤ m → m < 12 → decide ((gv >>> (nI m &&& 31)) &&& nI 1 = nI 1) = anyB (gRow K A (nI m)) n 0) : ∀ m, 4 ≤ m → m < 12 → decide ((a_gv gv (nI q) a >>> (nI m &&& 31)) &&& nI 1 = nI 1) = anyB (gRow (upd K n (nI q)) (upd A n a) (nI m)) (n + 1) 0 := by
  intro m h1 h2
  rw [gRow_upd, ← h m h1 h2]
  by_cases c : q = 0 ∨ q = 1 ∨ q = 7
  · obtain ⟨k, k1, k2, rfl⟩ := ha c
    have e1 : q_gA (nI q) = true := by rcases c with c | c | c <;> subst c <;> decide +kernel
    have e2 : m_gk (nI q) = true := by rcases c with c | c | c <;> subst c <;> decide +kernel
    unfold a_gv
    rw [if_pos e1, e2, Bool.true_and, Bool.eq_iff_iff, Bool.or_eq_true, decide_eq_true_eq, decide_eq_true_eq, decide_eq_true_eq, bt_at _ m (by omega), bt_at _ m (by omega), bt_or _ k m (by omega) (by omega), Bool.or_eq_true, decide_eq_true_eq, nI_eq (by omega) (by omega)]
    exact ⟨fun z => z.imp id Eq.symm, fun z => z.imp id Eq.symm⟩
  · have e1 : ¬ q_gA (nI q) = true := by
      rcases (show q = 2 ∨ q = 3 ∨ q = 4 ∨ q = 5 ∨ q = 6 by omega) with e | e | e | e | e <;> subst e <;> decide +kernel
    have e2 : m_gk (nI q) = false := by
      rcases (show q = 2 ∨ q = 3 ∨ q = 4 ∨ q = 5 ∨ q = 6 by omega) with e | e | e | e | e <;> subst e <;> decide +kernel
    unfold a_gv
    rw [if_neg e1, e2, Bool.false_and, Bool.or_false]
/-- a statement that opens and closes nothing -/
theorem TieR.plain {b n oi ni q : Nat} {gv a : Int32} {go K A S g10 g11 g12 g14 : Nat → Int32} (h : TieR b n oi ni gv go K A S g10 g11 g12 g14) (hq : q < 8) (h2 : q ≠ 2) (h3 : q ≠ 3) (h4 : q ≠ 4) (ha : q = 0 ∨ q = 1 ∨ q = 7 → ∃ m, 4 ≤ m ∧ m < 12 ∧ a = nI m) : TieR b (n + 1) oi ni (a_gv gv (nI q) a) go (upd K n (nI q)) (upd A n a) (upd S n (-1)) g10 (upd g11 n (-1)) (upd g12 n (-1)) g14 := by
  obtain ⟨el, ed, qq, ⟨a1, a2, a3⟩, a4, a5, a6, a7, a8, a9⟩ := h
  have kn : ∀ v, v < 8 → v ≠ q → ¬ nI q = nI v := fun v hv hne e => hne ((nI_eq (by omega) (by omega)).mp e).symm
  have hlt : ∀ p, p < n + 1 → p < n ∨ p = n := fun p hp => by omega
  refine ⟨el, ed, qq, ⟨?_, a2, a3⟩, fun p hp hk => ?_, fun e he hk => ?_, fun p p' e hp hp' hk hk' h1 h1' => ?_, fun j hj => ?_, a8, gv_step hq ha a9⟩
  · show ni = nifR (upd K n (nI q)) n + _
    rw [nifR_upd (Nat.le_refl _), pk_us, if_neg (kn 2 (by omega) (Ne.symm h2)), Nat.add_zero]
    exact a1
  · rcases hlt p hp with hp | rfl
    · rw [pk_un (by omega)] at hk
      obtain ⟨⟨b1, b2, b3, b4⟩, b5, b6⟩ := a4 p hp hk
      refine ⟨⟨by rw [nifR_upd (by omega)]; exact b1, by rw [pk_un (by omega)]; exact b2, by rw [pk_un (by omega)]; exact b3, by rw [pk_un (by omega)]; exact b4⟩, fun e he => ?_, fun d hd => ?_⟩
      · have := b5 e he
        exact ⟨this.1, by omega, by rw [pk_un (by omega)]; exact this.2.2⟩
      · have := b6 d hd
        exact ⟨this.1, by omega, this.2.2⟩
    · rw [pk_us] at hk
      exact absurd hk (kn 2 (by omega) (Ne.symm h2))
  · rcases hlt e he with he | rfl
    · rw [pk_un (by omega)] at hk
      obtain ⟨p, c1, c2, c3, c4⟩ := a5 e he hk
      exact ⟨p, c1, by rw [pk_un (by omega)]; exact c2, c3, by rw [pk_un (by omega)]; exact c4⟩
    · rw [pk_us] at hk
      exact absurd hk (kn 3 (by omega) (Ne.symm h3))
  · rcases hlt p hp with hp | rfl
    · rcases hlt p' hp' with hp' | rfl
      · rw [pk_un (by omega)] at hk hk'
        exact a6 p p' e hp hp' hk hk' h1 h1'
      · rw [pk_us] at hk'
        exact absurd hk' (kn 2 (by omega) (Ne.symm h2))
    · rw [pk_us] at hk
      exact absurd hk (kn 2 (by omega) (Ne.symm h2))
  · obtain ⟨c1, c2, c3, c4, c5⟩ := a7 j hj
    exact ⟨by omega, by rw [pk_un (by omega)]; exact c2, c3, c4, c5⟩
/-- an IF -/
theorem TieR.opens {b n oi ni : Nat} {gv a : Int32} {go K A S g10 g11 g12 g14 : Nat → Int32} (h : TieR b n oi ni gv go K A S g10 g11 g12 g14) (hn : n < 16) (h6 : ni < 6) : TieR b (n + 1) (oi + 1) (ni + 1) (a_gv gv (nI 2) a) (upd go oi (nI n)) (upd K n (nI 2)) (upd A n a) (upd S n (-1)) (upd g10 n (nI ni)) (upd g11 n (-1)) (upd g12 n (-1)) (upd g14 oi (nI (b + n))) := by
  obtain ⟨el, ed, qq, ⟨a1, a2, a3⟩, a4, a5, a6, a7, a8, a9⟩ := h
  have hlt : ∀ p, p < n + 1 → p < n ∨ p = n := fun p hp => by omega
  have hel : ∀ p, p < n → va_up el n none p = el p := fun p hp => va_up_ne _ _ (by omega)
  have hel2 : va_up el n none n = none := va_up_self _ _ _
  have hed : ∀ p, p < n → va_up ed n none p = ed p := fun p hp => va_up_ne _ _ (by omega)
  have hed2 : va_up ed n none n = none := va_up_self _ _ _
  have hqq : ∀ j, j < oi → va_up qq oi n j = qq j := fun j hj => va_up_ne _ _ (by omega)
  have hqq2 : va_up qq oi n oi = n := va_up_self _ _ _
  refine ⟨va_up el n none, va_up ed n none, va_up qq oi n, ⟨?_, by omega, by omega⟩, fun p hp hk => ?_, fun e he hk => ?_, fun p p' e hp hp' hk hk' h1 h1' => ?_, fun j hj => ?_, fun j k hj hk hne => ?_, gv_step (by omega) (fun z => by omega) a9⟩
  · show ni + 1 = nifR (upd K n (nI 2)) n + _
    rw [nifR_upd (Nat.le_refl _), pk_us, if_pos rfl, a1]
  · rcases hlt p hp with hp | rfl
    · rw [pk_un (by omega)] at hk
      obtain ⟨⟨b1, b2, b3, b4⟩, b5, b6⟩ := a4 p hp hk
      rw [hel p hp, hed p hp]
      refine ⟨⟨by rw [nifR_upd (by omega), pk_un (by omega)]; exact b1, by rw [pk_un (by omega)]; exact b2, by rw [pk_un (by omega)]; exact b3, by rw [pk_un (by omega)]; exact b4⟩, fun e he => ?_, fun d hd => ?_⟩
      · have := b5 e he
        exact ⟨this.1, by omega, by rw [pk_un (by omega)]; exact this.2.2⟩
      · have := b6 d hd
        exact ⟨this.1, by omega, this.2.2⟩
    · rw [hel2, hed2]
      refine ⟨⟨by rw [nifR_upd (Nat.le_refl _), pk_us, a1], by rw [pk_us]; rfl, by rw [pk_us]; rfl, by rw [pk_us]; rfl⟩, fun e he => (by cases he), fun d hd => (by cases hd)⟩
  · rcases hlt e he with he | rfl
    · rw [pk_un (by omega)] at hk
      obtain ⟨p, c1, c2, c3, c4⟩ := a5 e he hk
      exact ⟨p, c1, by rw [pk_un (by omega)]; exact c2, by rw [hel p (by omega)]; exact c3, by rw [pk_un (by omega), hed p (by omega)]; exact c4⟩
    · rw [pk_us] at hk
      exact absurd hk (by decide +kernel)
  · rcases hlt p hp with hp | rfl
    · rcases hlt p' hp' with hp' | rfl
      · rw [pk_un (by omega)] at hk hk'
        rw [hel p hp] at h1
        rw [hel p' hp'] at h1'
        exact a6 p p' e hp hp' hk hk' h1 h1'
      · rw [hel2] at h1'; cases h1'
    · rw [hel2] at h1; cases h1
  · rcases (show j < oi ∨ j = oi by omega) with hj | rfl
    · obtain ⟨c1, c2, c3, c4, c5⟩ := a7 j hj
      rw [hqq j hj]
      exact ⟨by omega, by rw [pk_un (by omega)]; exact c2, by rw [hed _ c1]; exact c3, by rw [pk_un (by omega)]; exact c4, by rw [pk_un (by omega), hel _ c1]; exact c5⟩
    · rw [hqq2]
      exact ⟨by omega, pk_us, hed2, pk_us, by rw [pk_us, hel2]; rfl⟩
  · by_cases h1 : j = oi
    · have h2 : k < oi := by omega
      rw [h1, hqq k h2, hqq2]; exact Ne.symm (Nat.ne_of_lt (a7 k h2).1)
    · have h2 : j < oi := by omega
      by_cases h3 : k = oi
      · rw [h3, hqq j h2, hqq2]; exact Nat.ne_of_lt (a7 j h2).1
      · rw [hqq j h2, hqq k (by omega)]; exact a8 j k h2 (by omega) hne
/-- an ELSE -/
theorem TieR.turns {b n oi ni t0 tt : Nat} {gv a : Int32} {go K A S g10 g11 g12 g14 : Nat → Int32} (h : TieR b n oi ni gv go K A S g10 g11 g12 g14) (hn : n < 16) (hb : b < 2 ^ 30) (ho : 0 < oi) (ht : g14 (oi - 1) = nI (b + t0)) (ht0 : t0 < 16) (htt : go (oi - 1) = nI tt) (htt16 : tt < 16) (hneg : g11 t0 < 0) : TieR b (n + 1) oi ni (a_gv gv (nI 3) a) (upd go (oi - 1) (nI n)) (upd K n (nI 3)) (upd A n a) (upd (upd S n (-1)) tt (nI (n + 1))) g10 (upd (upd g11 n (-1)) t0 (nI n)) (upd g12 n (-1)) g14 := by
  obtain ⟨el, ed, qq, ⟨a1, a2, a3⟩, a4, a5, a6, a7, a8, a9⟩ := h
  obtain ⟨c1, c2, c3, c4, c5⟩ := a7 (oi - 1) (by omega)
  have e0 : qq (oi - 1) = t0 := by
    rw [ht] at c4
    have := (nI_eq (by omega) (by omega)).mp c4
    omega
  rw [e0] at c1 c2 c3 c5
  obtain ⟨⟨u1, u2, u3, u4⟩, u5, u6⟩ := a4 t0 c1 c2
  have hno : el t0 = none := by
    rw [u2] at hneg
    exact (enP_neg (fun d hd => by have := u5 d hd; omega)).mp hneg
  have et : tt = t0 := by
    rw [htt, hno] at c5
    have h9 : nI tt = nI t0 := c5
    exact (nI_eq (by omega) (by omega)).mp h9
  subst et
  have hlt : ∀ p, p < n + 1 → p < n ∨ p = n := fun p hp => by omega
  have hel : ∀ p, p ≠ tt → va_up el tt (some n) p = el p := fun p hp => va_up_ne _ _ hp
  have hel2 : va_up el tt (some n) tt = some n := va_up_self _ _ _
  have hq1 : ∀ j, j < oi → j ≠ oi - 1 → qq j ≠ tt := fun j hj hne => by rw [← e0]; exact a8 j (oi - 1) hj (by omega) hne
  refine ⟨va_up el tt (some n), ed, qq, ⟨?_, a2, a3⟩, fun p hp hk => ?_, fun e he hk => ?_, fun p p' e hp hp' hk hk' h1 h1' => ?_, fun j hj => ?_, a8, gv_step (by omega) (fun z => by omega) a9⟩
  · show ni = nifR (upd K n (nI 3)) n + _
    rw [nifR_upd (Nat.le_refl _), pk_us, if_neg (by decide +kernel), Nat.add_zero]
    exact a1
  · rcases hlt p hp with hp | rfl
    · rw [pk_un (by omega)] at hk
      by_cases e : p = tt
      · rw [e, hel2]
        refine ⟨⟨by rw [nifR_upd (by omega)]; exact u1, by rw [pk_us]; rfl, by rw [pk_un (by omega)]; exact u3, by rw [pk_us]; rfl⟩, fun e9 he => ?_, fun d hd => by rw [c3] at hd; cases hd⟩
        cases he
        exact ⟨by omega, by omega, pk_us⟩
      · obtain ⟨⟨b1, b2, b3, b4⟩, b5, b6⟩ := a4 p hp hk
        rw [hel p e]
        refine ⟨⟨by rw [nifR_upd (by omega)]; exact b1, by rw [pk_un e, pk_un (by omega)]; exact b2, by rw [pk_un (by omega)]; exact b3, by rw [pk_un e, pk_un (by omega)]; exact b4⟩, fun e9 he => ?_, fun d hd => ?_⟩
        · have := b5 e9 he
          exact ⟨this.1, by omega, by rw [pk_un (by omega)]; exact this.2.2⟩
        · have := b6 d hd
          exact ⟨this.1, by omega, this.2.2⟩
    · rw [pk_us] at hk
      exact absurd hk (by decide +kernel)
  · rcases hlt e he with he | rfl
    · rw [pk_un (by omega)] at hk
      obtain ⟨p, d1, d2, d3, d4⟩ := a5 e he hk
      have hp9 : p ≠ tt := fun z => by rw [z, hno] at d3; cases d3
      have he9 : e ≠ tt := fun z => by rw [z, c2] at hk; exact absurd hk (by decide +kernel)
      exact ⟨p, d1, by rw [pk_un (by omega)]; exact d2, by rw [hel p hp9]; exact d3, by rw [pk_un he9, pk_un (by omega)]; exact d4⟩
    · exact ⟨tt, c1, by rw [pk_un (by omega)]; exact c2, hel2, by rw [pk_un (by omega), pk_us, c3]; rfl⟩
  · rcases hlt p hp with hp | rfl
    · rcases hlt p' hp' with hp' | rfl
      · rw [pk_un (by omega)] at hk hk'
        by_cases e1 : p = tt
        · rw [e1, hel2] at h1
          cases h1
          by_cases e2 : p' = tt
          · rw [e1, e2]
          · rw [hel p' e2] at h1'
            have := (a4 p' hp' hk').2.1 n h1'
            omega
        · rw [hel p e1] at h1
          by_cases e2 : p' = tt
          · rw [e2, hel2] at h1'
            cases h1'
            have := (a4 p hp hk).2.1 n h1
            omega
          · rw [hel p' e2] at h1'
            exact a6 p p' e hp hp' hk hk' h1 h1'
      · rw [pk_us] at hk'
        exact absurd hk' (by decide +kernel)
    · rw [pk_us] at hk
      exact absurd hk (by decide +kernel)
  · obtain ⟨d1, d2, d3, d4, d5⟩ := a7 j hj
    by_cases e : j = oi - 1
    · rw [e, e0]
      exact ⟨by omega, by rw [pk_un (by omega)]; exact c2, c3, ht, by rw [pk_us, hel2]; rfl⟩
    · exact ⟨by omega, by rw [pk_un (by omega)]; exact d2, d3, d4, by rw [pk_un e, hel _ (hq1 j hj e)]; exact d5⟩
/-- an END -/
theorem TieR.closes {b n oi ni t0 tt : Nat} {gv a : Int32} {go K A S g10 g11 g12 g14 : Nat → Int32} (h : TieR b n oi ni gv go K A S g10 g11 g12 g14) (hn : n < 16) (hb : b < 2 ^ 30) (ho : 0 < oi) (ht : g14 (oi - 1) = nI (b + t0)) (ht0 : t0 < 16) (htt : go (oi - 1) = nI tt) (htt16 : tt < 16) : TieR b (n + 1) (oi - 1) ni (a_gv gv (nI 4) a) go (upd K n (nI 4)) (upd A n a) (upd (upd S n (-1)) tt (nI n)) g10 (upd g11 n (-1)) (upd (upd g12 n (-1)) t0 (nI n)) g14 := by
  obtain ⟨el, ed, qq, ⟨a1, a2, a3⟩, a4, a5, a6, a7, a8, a9⟩ := h
  obtain ⟨c1, c2, c3, c4, c5⟩ := a7 (oi - 1) (by omega)
  have e0 : qq (oi - 1) = t0 := by
    rw [ht] at c4
    have := (nI_eq (by omega) (by omega)).mp c4
    omega
  rw [e0] at c1 c2 c3 c5
  obtain ⟨⟨u1, u2, u3, u4⟩, u5, u6⟩ := a4 t0 c1 c2
  have et : tt = tpl (el t0) t0 := by
    rw [htt] at c5
    refine (nI_eq (by omega) ?_).mp c5
    cases e : el t0 with
    | none => show t0 < _; omega
    | some e9 => have := u5 e9 e; show e9 < _; omega
  have hlt : ∀ p, p < n + 1 → p < n ∨ p = n := fun p hp => by omega
  have hed : ∀ p, p ≠ t0 → va_up ed t0 (some n) p = ed p := fun p hp => va_up_ne _ _ hp
  have hed2 : va_up ed t0 (some n) t0 = some n := va_up_self _ _ _
  have hq1 : ∀ j, j < oi - 1 → qq j ≠ t0 := fun j hj => by rw [← e0]; exact a8 j (oi - 1) (by omega) (by omega) (by omega)
  have htn : tt < n := by
    rw [et]
    cases e : el t0 with
    | none => exact c1
    | some e9 => exact (u5 e9 e).2.1
  refine ⟨el, va_up ed t0 (some n), qq, ⟨?_, a2, by omega⟩, fun p hp hk => ?_, fun e he hk => ?_, fun p p' e hp hp' hk hk' h1 h1' => ?_, fun j hj => ?_, fun j k hj hk => a8 j k (by omega) (by omega), gv_step (by omega) (fun z => by omega) a9⟩
  · show ni = nifR (upd K n (nI 4)) n + _
    rw [nifR_upd (Nat.le_refl _), pk_us, if_neg (by decide +kernel), Nat.add_zero]
    exact a1
  · rcases hlt p hp with hp | rfl
    · rw [pk_un (by omega)] at hk
      by_cases e : p = t0
      · rw [e, hed2]
        refine ⟨⟨by rw [nifR_upd (by omega)]; exact u1, by rw [pk_un (by omega)]; exact u2, by rw [pk_us]; rfl, ?_⟩, fun e9 he => ?_, fun d hd => ?_⟩
        · cases h9 : el t0 with
          | none =>
            rw [h9] at et
            have et2 : tt = t0 := et
            rw [et2, pk_us]
            rfl
          | some e9 =>
            rw [h9] at et
            have et2 : tt = e9 := et
            have := u5 e9 h9
            rw [pk_un (by omega), pk_un (by omega), u4, h9]
            rfl
        · have := u5 e9 he
          exact ⟨this.1, by omega, by rw [pk_un (by omega)]; exact this.2.2⟩
        · cases hd
          exact ⟨by omega, by omega, fun e9 he => (u5 e9 he).2.1⟩
      · obtain ⟨⟨b1, b2, b3, b4⟩, b5, b6⟩ := a4 p hp hk
        have hp9 : p ≠ tt := fun z => by
          cases h9 : el t0 with
          | none => rw [h9] at et; exact e (z.trans et)
          | some e9 =>
            rw [h9] at et
            have et2 : tt = e9 := et
            have := (u5 e9 h9).2.2
            rw [← et2, ← z, hk] at this
            exact absurd this (by decide +kernel)
        rw [hed p e]
        refine ⟨⟨by rw [nifR_upd (by omega)]; exact b1, by rw [pk_un (by omega)]; exact b2, by rw [pk_un e, pk_un (by omega)]; exact b3, by rw [pk_un hp9, pk_un (by omega)]; exact b4⟩, fun e9 he => ?_, fun d hd => ?_⟩
        · have := b5 e9 he
          exact ⟨this.1, by omega, by rw [pk_un (by omega)]; exact this.2.2⟩
        · have := b6 d hd
          exact ⟨this.1, by omega, this.2.2⟩
    · rw [pk_us] at hk
      exact absurd hk (by decide +kernel)
  · rcases hlt e he with he | rfl
    · rw [pk_un (by omega)] at hk
      obtain ⟨p, d1, d2, d3, d4⟩ := a5 e he hk
      refine ⟨p, d1, by rw [pk_un (by omega)]; exact d2, d3, ?_⟩
      by_cases e1 : p = t0
      · rw [e1] at d3
        rw [d3] at et
        have et2 : tt = e := et
        rw [e1, et2, pk_us, hed2]
        rfl
      · have he9 : e ≠ tt := fun z => by
          cases h9 : el t0 with
          | none =>
            rw [h9] at et
            have et2 : tt = t0 := et
            rw [z, et2, c2] at hk
            exact absurd hk (by decide +kernel)
          | some e9 =>
            rw [h9] at et
            have et2 : tt = e9 := et
            exact e1 (a6 p t0 e (by omega) c1 d2 c2 d3 (by rw [h9, z, et2]))
        rw [pk_un he9, pk_un (by omega), hed p e1]
        exact d4
    · rw [pk_us] at hk
      exact absurd hk (by decide +kernel)
  · rcases hlt p hp with hp | rfl
    · rcases hlt p' hp' with hp' | rfl
      · rw [pk_un (by omega)] at hk hk'
        exact a6 p p' e hp hp' hk hk' h1 h1'
      · rw [pk_us] at hk'
        exact absurd hk' (by decide +kernel)
    · rw [pk_us] at hk
      exact absurd hk (by decide +kernel)
  · obtain ⟨d1, d2, d3, d4, d5⟩ := a7 j (by omega)
    exact ⟨by omega, by rw [pk_un (by omega)]; exact d2, by rw [hed _ (hq1 j hj)]; exact d3, d4, d5⟩
/-- nothing yet -/
theorem TieR.empty {b : Nat} {go K A S g10 g11 g12 g14 : Nat → Int32} : TieR b 0 0 0 (nI 0) go K A S g10 g11 g12 g14 := by
  refine ⟨fun _ => none, fun _ => none, fun _ => 0, ⟨rfl, by omega, by omega⟩, fun p hp => by omega, fun e he => by omega, fun p p' e hp => by omega, fun j hj => by omega, fun j k hj => by omega, fun m h1 h2 => ?_⟩
  have h9 : ∀ m, m < 12 → decide ((nI 0 >>> (nI m &&& 31)) &&& nI 1 = nI 1) = false := by decide +kernel
  rw [h9 m h2]
  rfl
