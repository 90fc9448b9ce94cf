/-! The whole tie: what it gives, and that every change keeps it. -/
def TieF (σ : Sg) (G : Nat → Nat → Int32) (oi ni : Nat → Nat) (gv : Nat → Int32) (go : Nat → Nat → Int32) (i : Nat) : Prop := sz σ i ≤ 16 ∧ (∀ p, p < sz σ i → StOk σ (16 * i + p)) ∧ (G 13 i = nI (ni i) ∧ G 15 i = nI (oi i)) ∧ TieR (16 * i) (sz σ i) (oi i) (ni i) (gv i) (go i) (fun p => sk σ (16 * i + p)) (fun p => sa σ (16 * i + p)) (fun p => sl σ (16 * i + p)) (fun p => G 10 (16 * i + p)) (fun p => G 11 (16 * i + p)) (fun p => G 12 (16 * i + p)) (fun j => G 14 (6 * i + j))
def Tie (σ : Sg) (G : Nat → Nat → Int32) (oi ni : Nat → Nat) (gv : Nat → Int32) (go : Nat → Nat → Int32) : Prop := MT σ G ∧ RlOk σ ∧ Dm3 σ ∧ ∀ i, i < 4 → TieF σ G oi ni gv go i
theorem m_s3_R {G : Nat → Nat → Int32} {σ : Sg} {i p : Nat} : ∀ m q, m_s3 G σ i p m q = s3R (fun p => sk σ (16 * i + p)) (fun p => G 11 (16 * i + p)) (fun p => G 12 (16 * i + p)) (sz σ i) p m q := by
  intro m
  induction m with
  | zero => intro q; rfl
  | succ m ih =>
    intro q
    unfold m_s3 s3R
    rw [ih]
theorem TieF.fn {σ : Sg} {G : Nat → Nat → Int32} {oi ni : Nat → Nat} {gv : Nat → Int32} {go : Nat → Nat → Int32} {i : Nat} (h : TieF σ G oi ni gv go i) : FnOk σ i ∧ MLk σ G i ∧ G 13 i = nI (nif σ i (sz σ i)) ∧ oi i ≤ ni i ∧ ni i ≤ 6 := by
  obtain ⟨h1, h2, ⟨h3, h3b⟩, h4⟩ := h
  have hn : ni i = nifR (fun p => sk σ (16 * i + p)) (sz σ i) ∧ ni i ≤ 6 ∧ oi i ≤ ni i := by
    obtain ⟨_, _, _, a, _⟩ := h4
    exact a
  refine ⟨⟨h1, h2, h4.ways h1, by rw [nif_R, ← hn.1]; exact hn.2.1⟩, fun p hp => ⟨fun hk => ?_, fun hk => ?_⟩, by rw [nif_R, ← hn.1]; exact h3, hn.2.2, hn.2.1⟩
  · have := h4.tg2 h1 hp hk
    exact ⟨by rw [nif_R]; exact this.1, this.2⟩
  · rw [m_s3_R]
    exact h4.tg3 h1 hp hk
theorem Tie.ok {σ : Sg} {G : Nat → Nat → Int32} {oi ni : Nat → Nat} {gv : Nat → Int32} {go : Nat → Nat → Int32} (h : Tie σ G oi ni gv go) : MOk σ G := ⟨h.1, h.2.1, h.2.2.1, fun i hi => ⟨(h.2.2.2 i hi).fn.2.1, (h.2.2.2 i hi).fn.1, (h.2.2.2 i hi).fn.2.2.1⟩⟩
theorem Tie.op {σ : Sg} {G : Nat → Nat → Int32} {oi ni : Nat → Nat} {gv : Nat → Int32} {go : Nat → Nat → Int32} (h : Tie σ G oi ni gv go) : ∃ tt t0 : Nat → Nat, OpOk σ oi ni go tt ∧ (∀ i, i < 4 → 0 < oi i → G 14 (6 * i + oi i - 1) = nI (16 * i + t0 i) ∧ 16 * i + t0 i < 64 ∧ t0 i < 16 ∧ go i (oi i - 1) = nI (tt i) ∧ tt i < 16) ∧ ∀ i, i < 4 → ∀ kd, q_op (oi i) (sk σ (16 * i + tt i)) kd = m_op (oi i) (G 11 (16 * i + t0 i)) kd := by
  have hx : ∀ i, ∃ y : Nat × Nat, i < 4 → 0 < oi i → y.1 < 16 ∧ y.2 < 16 ∧ G 14 (6 * i + oi i - 1) = nI (16 * i + y.1) ∧ go i (oi i - 1) = nI y.2 ∧ (G 11 (16 * i + y.1) < 0 ↔ sk σ (16 * i + y.2) = nI 2) := by
    intro i
    by_cases hi : i < 4
    · by_cases ho : 0 < oi i
      · obtain ⟨h1, h2, h3, h4⟩ := h.2.2.2 i hi
        obtain ⟨t0, tt, c1, c2, c3, c4, c5, c6⟩ := h4.top h1 (by omega) ho
        refine ⟨(t0, tt), fun _ _ => ⟨by show t0 < 16; omega, by show tt < 16; omega, ?_, c4, c6⟩⟩
        have c3 : G 14 (6 * i + (oi i - 1)) = nI (16 * i + t0) := c3
        rw [show 6 * i + oi i - 1 = 6 * i + (oi i - 1) by omega]
        exact c3
      · exact ⟨(0, 0), fun _ z => absurd z ho⟩
    · exact ⟨(0, 0), fun z => absurd z hi⟩
  obtain ⟨y, hy⟩ := Classical.axiomOfChoice hx
  refine ⟨fun i => (y i).2, fun i => (y i).1, fun i hi => ?_, fun i hi ho => ?_, fun i hi kd => ?_⟩
  · have hf := (h.2.2.2 i hi).fn
    refine ⟨hf.2.2.2.1, hf.2.2.2.2, (h.2.2.2 i hi).1, fun ho => ?_⟩
    have := hy i hi (by omega)
    exact ⟨this.2.2.2.1, this.2.1⟩
  · have := hy i hi ho
    exact ⟨this.2.2.1, by have := this.1; show 16 * i + (y i).1 < 64; omega, this.1, this.2.2.2.1, this.2.1⟩
  · unfold q_op m_op
    congr 1
    by_cases ho : 0 < oi i
    · have := (hy i hi ho).2.2.2.2
      congr 2
      rw [Bool.eq_iff_iff, decide_eq_true_eq, decide_eq_true_eq]
      exact this.symm
    · rw [show oi i = 0 by omega, show decide (nI 0 = 0) = true by decide +kernel]
      rfl
theorem Tie.hg {σ : Sg} {G : Nat → Nat → Int32} {oi ni : Nat → Nat} {gv : Nat → Int32} {go : Nat → Nat → Int32} (h : Tie σ G oi ni gv go) {i : Nat} (hi : i < 4) {x : Int32} (hx : q_us x = true) : q_hg (gv i) x = m_gvn σ i x := by
  obtain ⟨e1, e2, e3⟩ := q_us_nm hx
  obtain ⟨m, hm⟩ : ∃ m, m = nt x := ⟨_, rfl⟩
  rw [← hm] at e1 e2 e3
  unfold q_hg m_gvn
  rw [e1]
  by_cases c : m < 4
  · rw [show decide (nI m < nI 4) = true from decide_eq_true ((nI_ltf (by omega) (by omega)).mpr c)]
    rfl
  · rw [show decide (nI m < nI 4) = false from decide_eq_false (fun z => c ((nI_ltf (by omega) (by omega)).mp z))]
    obtain ⟨_, _, _, _, _, _, _, _, _, a9⟩ := (h.2.2.2 i hi).2.2.2
    exact congrArg (false || ·) (a9 m (by omega) e2)
theorem Tie.hw {σ : Sg} {G : Nat → Nat → Int32} {oi ni : Nat → Nat} {gv : Nat → Int32} {go : Nat → Nat → Int32} (h : Tie σ G oi ni gv go) {i : Nat} (hi : i < 4) {kd a b c k : Int32} (hs : q_st kd a b c k = true) : q_hw (gv i) kd a b c = m_hw σ i kd a b c := by
  unfold q_st at hs
  simp only [Bool.and_eq_true] at hs
  obtain ⟨⟨⟨⟨⟨-, -⟩, h1⟩, h2⟩, h3⟩, -⟩ := hs
  have key : ∀ (u : Bool) (x : Int32), (!u || q_us x) = true → (!u || q_hg (gv i) x) = (!u || m_gvn σ i x) := by
    intro u x hu
    cases u with
    | false => rfl
    | true =>
      have hu : q_us x = true := hu
      rw [h.hg hi hu]
  unfold q_hw m_hw
  rw [key _ _ h1, key _ _ h2, key _ _ h3]
theorem tie_refine {σ : Sg} {G : Nat → Nat → Int32} {oi ni : Nat → Nat} {gv : Nat → Int32} {go : Nat → Nat → Int32} (h : Tie σ G oi ni gv go) {x kd a b k : Int32} {i j : Nat} (hq : q_rf x kd a b k = true) (hj : kd = nI j) (hi4 : i < 4) (hj2 : j < 2) (hn : rn σ (2 * i + j) < 4) : Tie (s_refine σ (2 * i + j) a b k) (m_Gr G (2 * i + j) (rn σ (2 * i + j)) a b k) oi ni gv go := by
  obtain ⟨⟨m1, m2, m3, m4⟩, hR, hD, hF⟩ := h
  obtain ⟨r, hr⟩ : ∃ r, r = 2 * i + j := ⟨_, rfl⟩
  rw [← hr] at hn ⊢
  have hr8 : r < 8 := by omega
  unfold q_rf at hq
  simp only [Bool.and_eq_true] at hq
  obtain ⟨⟨⟨⟨-, -⟩, qa⟩, qb⟩, qk⟩ := hq
  rw [hj, nI_add] at qa qb
  have na := q_in_nt (by omega) qa
  have nb := q_in_nt (by omega) qb
  have nk := q_df_int qk
  have erA : ∀ r' j', r' < 8 → j' < 4 → rA (s_refine σ r a b k) r' j' = if r' = r ∧ j' = rn σ r then a else rA σ r' j' := fun r' j' _ _ => by
    show va_up (rA σ) r (upd (rA σ r) (rn σ r) a) r' j' = _
    by_cases e : r' = r
    · rw [e, va_up_self]
      by_cases e2 : j' = rn σ r
      · rw [e2, pk_us, if_pos ⟨rfl, rfl⟩]
      · rw [pk_un e2, if_neg (fun z => e2 z.2)]
    · rw [va_up_ne _ _ e, if_neg (fun z => e z.1)]
  have erB : ∀ r' j', r' < 8 → j' < 4 → rB (s_refine σ r a b k) r' j' = if r' = r ∧ j' = rn σ r then b else rB σ r' j' := fun r' j' _ _ => by
    show va_up (rB σ) r (upd (rB σ r) (rn σ r) b) r' j' = _
    by_cases e : r' = r
    · rw [e, va_up_self]
      by_cases e2 : j' = rn σ r
      · rw [e2, pk_us, if_pos ⟨rfl, rfl⟩]
      · rw [pk_un e2, if_neg (fun z => e2 z.2)]
    · rw [va_up_ne _ _ e, if_neg (fun z => e z.1)]
  have erK : ∀ r' j', r' < 8 → j' < 4 → rK (s_refine σ r a b k) r' j' = if r' = r ∧ j' = rn σ r then k else rK σ r' j' := fun r' j' _ _ => by
    show va_up (rK σ) r (upd (rK σ r) (rn σ r) k) r' j' = _
    by_cases e : r' = r
    · rw [e, va_up_self]
      by_cases e2 : j' = rn σ r
      · rw [e2, pk_us, if_pos ⟨rfl, rfl⟩]
      · rw [pk_un e2, if_neg (fun z => e2 z.2)]
    · rw [va_up_ne _ _ e, if_neg (fun z => e z.1)]
  have ern : ∀ r', rn (s_refine σ r a b k) r' = if r' = r then rn σ r + 1 else rn σ r' := fun r' => by
    show va_up (rn σ) r (rn σ r + 1) r' = _
    by_cases e : r' = r
    · rw [e, va_up_self, if_pos rfl]
    · rw [va_up_ne _ _ e, if_neg e]
  have eup : ∀ (g : Nat → Int32) (v : Int32) (r' j' : Nat), j' < 4 → upd g (4 * r + rn σ r) v (4 * r' + j') = if r' = r ∧ j' = rn σ r then v else g (4 * r' + j') := fun g v r' j' hj' => by
    by_cases e : r' = r ∧ j' = rn σ r
    · rw [if_pos e, e.1, e.2, pk_us]
    · rw [if_neg e, pk_un (by omega)]
  refine ⟨⟨fun r' h' => ?_, fun r' j' h' hj' => ⟨?_, ?_, ?_⟩, m3, m4⟩, fun r' h' => ?_, fun i' hi' j' hj' => ?_, fun i' hi' => ?_⟩
  · show upd (G 3) r (nI (rn σ r + 1)) r' = _
    rw [ern]
    by_cases e : r' = r
    · rw [e, pk_us, if_pos rfl]
    · rw [pk_un e, if_neg e]; exact m1 r' h'
  · show upd (G 0) (4 * r + rn σ r) a (4 * r' + j') = _
    rw [eup _ _ _ _ hj', erA r' j' h' hj', (m2 r' j' h' hj').1]
  · show upd (G 1) (4 * r + rn σ r) b (4 * r' + j') = _
    rw [eup _ _ _ _ hj', erB r' j' h' hj', (m2 r' j' h' hj').2.1]
  · show upd (G 2) (4 * r + rn σ r) k (4 * r' + j') = _
    rw [eup _ _ _ _ hj', erK r' j' h' hj', (m2 r' j' h' hj').2.2]
  · have h0 := hR r' h'
    unfold RelOk
    rw [ern]
    refine ⟨?_, fun j' hj' => ?_⟩
    · split
      · omega
      · exact h0.1
    · have hj4 : j' < 4 := by
        split at hj'
        · omega
        · have := h0.1; omega
      rw [erA r' j' h' hj4, erB r' j' h' hj4, erK r' j' h' hj4]
      by_cases e : r' = r ∧ j' = rn σ r
      · rw [if_pos e, if_pos e, if_pos e]
        exact ⟨⟨na.1, by omega⟩, ⟨nb.1, by omega⟩, nk⟩
      · rw [if_neg e, if_neg e, if_neg e]
        refine h0.2 j' ?_
        split at hj'
        · rename_i e1
          rw [e1]
          have : j' ≠ rn σ r := fun z => e ⟨e1, z⟩
          omega
        · exact hj'
  · rw [ern] at hj'
    have hj4 : j' < 4 := by
      split at hj'
      · omega
      · have := (hR (2 * i') (by omega)).1; omega
    rw [erA (2 * i') j' (by omega) hj4, erB (2 * i') j' (by omega) hj4]
    by_cases e : 2 * i' = r ∧ j' = rn σ r
    · rw [if_pos e, if_pos e]
      exact ⟨by omega, by omega⟩
    · rw [if_neg e, if_neg e]
      refine hD i' hi' j' ?_
      split at hj'
      · rename_i e1
        rw [e1]
        have : j' ≠ rn σ r := fun z => e ⟨e1, z⟩
        omega
      · exact hj'
  · exact hF i' hi'
theorem tie_clear {σ : Sg} {G : Nat → Nat → Int32} {oi ni : Nat → Nat} {gv : Nat → Int32} {go : Nat → Nat → Int32} (h : Tie σ G oi ni gv go) {i : Nat} (hi4 : i < 4) : Tie (s_clear σ i) (m_Gc G i) (va_up oi i 0) (va_up ni i 0) (va_up gv i (nI 0)) go := by
  obtain ⟨⟨m1, m2, m3, m4⟩, hR, hD, hF⟩ := h
  have ern : ∀ r, rn (s_clear σ i) r = if r = 2 * i ∨ r = 2 * i + 1 then 0 else rn σ r := fun _ => rfl
  have esz : ∀ j, sz (s_clear σ i) j = if j = i then 0 else sz σ j := fun _ => rfl
  refine ⟨⟨fun r hr => ?_, m2, m3, fun j hj => ?_⟩, fun r hr => ?_, fun i' hi' j' hj' => ?_, fun j hj => ?_⟩
  · show upd (upd (G 3) (2 * i) (nI 0)) (2 * i + 1) (nI 0) r = _
    rw [ern]
    by_cases e : r = 2 * i + 1
    · rw [e, pk_us, if_pos (Or.inr rfl)]
    · rw [pk_un e]
      by_cases e2 : r = 2 * i
      · rw [e2, pk_us, if_pos (Or.inl rfl)]
      · rw [pk_un e2, if_neg (by omega)]; exact m1 r hr
  · show upd (G 9) i (nI 0) j = _
    rw [esz]
    by_cases e : j = i
    · rw [e, pk_us, if_pos rfl]
    · rw [pk_un e, if_neg e]; exact m4 j hj
  · have h0 := hR r hr
    unfold RelOk
    rw [ern]
    refine ⟨?_, fun j' hj' => h0.2 j' ?_⟩
    · split
      · omega
      · exact h0.1
    · split at hj'
      · omega
      · exact hj'
  · rw [ern] at hj'
    refine hD i' hi' j' ?_
    split at hj'
    · omega
    · exact hj'
  · obtain ⟨h1, h2, ⟨h3, h3b⟩, h4⟩ := hF j hj
    unfold TieF
    rw [esz]
    by_cases e : j = i
    · rw [if_pos e, e, va_up_self, va_up_self, va_up_self]
      exact ⟨by omega, fun p hp => by omega, ⟨pk_us, pk_us⟩, TieR.empty⟩
    · rw [if_neg e, va_up_ne _ _ e, va_up_ne _ _ e, va_up_ne _ _ e]
      exact ⟨h1, h2, ⟨(pk_un e).trans h3, (pk_un e).trans h3b⟩, h4⟩
theorem upd_row6 {g : Nat → Int32} {i n : Nat} {v : Int32} : (fun p => upd g (6 * i + n) v (6 * i + p)) = upd (fun p => g (6 * i + p)) n v := by
  funext p
  by_cases e : p = n
  · rw [e, pk_us, pk_us]
  · rw [pk_un e, pk_un (by omega)]
theorem tie_stmt {σ : Sg} {G : Nat → Nat → Int32} {oi ni : Nat → Nat} {gv : Nat → Int32} {go : Nat → Nat → Int32} (h : Tie σ G oi ni gv go) {i q tt t0 : Nat} {a b c k : Int32} (hi4 : i < 4) (hq : q < 8) (hs : q_st (nI q) a b c k = true) (hn : sz σ i < 16) (h6 : q = 2 → ni i < 6) (ht : q = 3 ∨ q = 4 → 0 < oi i ∧ G 14 (6 * i + oi i - 1) = nI (16 * i + t0) ∧ t0 < 16 ∧ go i (oi i - 1) = nI tt ∧ tt < 16) (hneg : q = 3 → G 11 (16 * i + t0) < 0) : Tie (s_stmt σ i tt (nI q) a b c k) (m_Gs G i (sz σ i) (oi i) (ni i) (16 * i + t0) q a b c k) (va_up oi i (a_oi (oi i) (nI q))) (va_up ni i (a_ni (ni i) (nI q))) (va_up gv i (a_gv (gv i) (nI q) a)) (va_up go i (a_go (go i) (oi i) (sz σ i) (nI q))) := by
  obtain ⟨⟨m1, m2, m3, m4⟩, hR, hD, hF⟩ := h
  have esz : ∀ j, sz (s_stmt σ i tt (nI q) a b c k) j = if j = i then sz σ i + 1 else sz σ j := fun j => by
    show va_up (sz σ) i (sz σ i + 1) j = _
    by_cases e : j = i
    · rw [e, va_up_self, if_pos rfl]
    · rw [va_up_ne _ _ e, if_neg e]
  have kn : ∀ v, v < 8 → (nI q = nI v ↔ q = v) := fun v hv => nI_eq (by omega) (by omega)
  have eup : ∀ (g : Nat → Int32) (v : Int32) (x : Nat), upd g (16 * i + sz σ i) v x = if x = 16 * i + sz σ i then v else g x := fun g v x => rfl
  refine ⟨⟨m1, m2, fun x hx => ?_, fun j hj => ?_⟩, hR, hD, fun j hj => ?_⟩
  · obtain ⟨g1, g2, g3, g4, g5⟩ := m3 x hx
    refine ⟨?_, ?_, ?_, ?_, ?_⟩
    · show upd (G 4) _ _ x = upd (sk σ) _ _ x
      rw [eup, eup, g1]
    · show upd (G 5) _ _ x = upd (sa σ) _ _ x
      rw [eup, eup, g2]
    · show upd (G 6) _ _ x = upd (sb σ) _ _ x
      rw [eup, eup, g3]
    · show upd (G 7) _ _ x = upd (sc σ) _ _ x
      rw [eup, eup, g4]
    · show upd (G 8) _ _ x = upd (sK σ) _ _ x
      rw [eup, eup, g5]
  · show upd (G 9) i (nI (sz σ i + 1)) j = _
    rw [esz]
    by_cases e : j = i
    · rw [e, pk_us, if_pos rfl]
    · rw [pk_un e, if_neg e]; exact m4 j hj
  · obtain ⟨h1, h2, ⟨h3, h3b⟩, h4⟩ := hF j hj
    -- the model's rows
    have g13 : m_Gs G i (sz σ i) (oi i) (ni i) (16 * i + t0) q a b c k 13 = if q = 2 then upd (G 13) i (nI (ni i + 1)) else G 13 := rfl
    have g15 : m_Gs G i (sz σ i) (oi i) (ni i) (16 * i + t0) q a b c k 15 = if q = 2 then upd (G 15) i (nI (oi i + 1)) else if q = 4 then upd (G 15) i (nI (oi i - 1)) else G 15 := rfl
    have g10 : m_Gs G i (sz σ i) (oi i) (ni i) (16 * i + t0) q a b c k 10 = if q = 2 then upd (G 10) (16 * i + sz σ i) (nI (ni i)) else G 10 := rfl
    have g11 : m_Gs G i (sz σ i) (oi i) (ni i) (16 * i + t0) q a b c k 11 = if q = 3 then upd (upd (G 11) (16 * i + sz σ i) (-1)) (16 * i + t0) (nI (sz σ i)) else upd (G 11) (16 * i + sz σ i) (-1) := rfl
    have g12 : m_Gs G i (sz σ i) (oi i) (ni i) (16 * i + t0) q a b c k 12 = if q = 4 then upd (upd (G 12) (16 * i + sz σ i) (-1)) (16 * i + t0) (nI (sz σ i)) else upd (G 12) (16 * i + sz σ i) (-1) := rfl
    have g14 : m_Gs G i (sz σ i) (oi i) (ni i) (16 * i + t0) q a b c k 14 = if q = 2 then upd (G 14) (6 * i + oi i) (nI (16 * i + sz σ i)) else G 14 := rfl
    unfold TieF
    rw [esz, g13, g15, g10, g11, g12, g14]
    by_cases e : j = i
    · subst e
      rw [if_pos rfl, va_up_self, va_up_self, va_up_self, va_up_self]
      refine ⟨by omega, fun p hp => ?_, ⟨?_, ?_⟩, ?_⟩
      · -- the new statement is in order
        by_cases e : p = sz σ j
        · subst e
          have hs0 := hs
          unfold q_st at hs0
          simp only [Bool.and_eq_true] at hs0
          obtain ⟨⟨⟨⟨⟨-, s1⟩, s2⟩, s3⟩, s4⟩, s5⟩ := hs0
          have d : ∀ (u v : Bool), (!u || v) = true → u = true → v = true := fun u v h1 h2 => by rw [h2] at h1; exact h1
          have gvnm : ∀ {x : Int32}, q_gv x = true → NmOk x := fun {x} hx => q_us_nm (by unfold q_us; rw [hx, Bool.or_true])
          have ek : sk (s_stmt σ j tt (nI q) a b c k) (16 * j + sz σ j) = nI q := pk_us
          have ea : sa (s_stmt σ j tt (nI q) a b c k) (16 * j + sz σ j) = a := pk_us
          have eb : sb (s_stmt σ j tt (nI q) a b c k) (16 * j + sz σ j) = b := pk_us
          have ec : sc (s_stmt σ j tt (nI q) a b c k) (16 * j + sz σ j) = c := pk_us
          have eK : sK (s_stmt σ j tt (nI q) a b c k) (16 * j + sz σ j) = k := pk_us
          unfold StOk
          rw [ek, ea, eb, ec, eK]
          simp only [kn 0 (by omega), kn 1 (by omega), kn 2 (by omega), kn 5 (by omega), kn 6 (by omega), kn 7 (by omega)]
          refine ⟨⟨q, hq, rfl⟩, fun z => ?_, fun z => ?_, fun z => ?_, fun z => ?_⟩
          · by_cases c2 : q = 2 ∨ q = 5
            · exact q_us_nm (d _ _ s2 (by rcases c2 with c2 | c2 <;> subst c2 <;> decide +kernel))
            · exact gvnm (d _ _ s1 (by rcases (show q = 0 ∨ q = 1 ∨ q = 7 by omega) with c3 | c3 | c3 <;> subst c3 <;> decide +kernel))
          · exact q_us_nm (d _ _ s3 (by rcases z with z | z | z | z | z <;> subst z <;> decide +kernel))
          · subst z
            rw [if_pos rfl] at s5
            obtain ⟨f, f1, f2⟩ := q_fn_nI s5
            refine ⟨q_us_nm (d _ _ s4 (by decide +kernel)), ?_, ?_⟩
            · rw [f2, nt_nI (by omega)]
            · rw [f2, nt_nI (by omega)]; exact f1
          · rw [if_neg (by rw [kn 1 (by omega)]; omega)] at s5
            exact q_df_int (d _ _ s5 (by rcases z with z | z | z | z <;> subst z <;> decide +kernel))
        · have h9 := h2 p (by omega)
          have ek : sk (s_stmt σ j tt (nI q) a b c k) (16 * j + p) = sk σ (16 * j + p) := pk_un (by omega)
          have ea : sa (s_stmt σ j tt (nI q) a b c k) (16 * j + p) = sa σ (16 * j + p) := pk_un (by omega)
          have eb : sb (s_stmt σ j tt (nI q) a b c k) (16 * j + p) = sb σ (16 * j + p) := pk_un (by omega)
          have ec : sc (s_stmt σ j tt (nI q) a b c k) (16 * j + p) = sc σ (16 * j + p) := pk_un (by omega)
          have eK : sK (s_stmt σ j tt (nI q) a b c k) (16 * j + p) = sK σ (16 * j + p) := pk_un (by omega)
          unfold StOk at h9 ⊢
          rw [ek, ea, eb, ec, eK]
          exact h9
      · unfold a_ni
        by_cases c2 : q = 2
        · rw [if_pos c2, if_pos ((kn 2 (by omega)).mpr c2), pk_us]
        · rw [if_neg c2, if_neg (fun z => c2 ((kn 2 (by omega)).mp z))]; exact h3
      · unfold a_oi
        by_cases c2 : q = 2
        · rw [if_pos c2, if_pos ((kn 2 (by omega)).mpr c2), pk_us]
        · rw [if_neg c2, if_neg (fun z => c2 ((kn 2 (by omega)).mp z))]
          by_cases c4 : q = 4
          · rw [if_pos c4, if_pos ((kn 4 (by omega)).mpr c4), pk_us]
          · rw [if_neg c4, if_neg (fun z => c4 ((kn 4 (by omega)).mp z))]; exact h3b
      · have rK0 : (fun p => sk (s_stmt σ j tt (nI q) a b c k) (16 * j + p)) = upd (fun p => sk σ (16 * j + p)) (sz σ j) (nI q) := upd_row
        have rA0 : (fun p => sa (s_stmt σ j tt (nI q) a b c k) (16 * j + p)) = upd (fun p => sa σ (16 * j + p)) (sz σ j) a := upd_row
        have rS0 : (fun p => sl (s_stmt σ j tt (nI q) a b c k) (16 * j + p)) = a_sl (fun p => sl σ (16 * j + p)) tt (sz σ j) (nI q) := s_sl_row
        rw [rK0, rA0, rS0]
        unfold a_sl a_oi a_ni a_go
        by_cases c2 : q = 2
        · subst c2
          rw [if_pos rfl, if_pos rfl, if_pos rfl, if_pos rfl, if_pos rfl, if_neg (show ¬ nI 2 = nI 3 by decide +kernel), if_neg (show ¬ nI 2 = nI 4 by decide +kernel), if_neg (show ¬ (2 = 3) by omega), if_neg (show ¬ (2 = 4) by omega), upd_row, upd_row, upd_row, upd_row6]
          exact h4.opens hn (h6 rfl)
        · rw [if_neg c2, if_neg c2, if_neg (fun z => c2 ((kn 2 (by omega)).mp z)), if_neg (fun z => c2 ((kn 2 (by omega)).mp z)), if_neg (fun z => c2 ((kn 2 (by omega)).mp z))]
          by_cases c3 : q = 3
          · subst c3
            obtain ⟨o1, o2, o3, o4, o5⟩ := ht (Or.inl rfl)
            rw [if_pos rfl, if_pos rfl, if_pos rfl, if_neg (show ¬ nI 3 = nI 4 by decide +kernel), if_neg (show ¬ (3 = 4) by omega), upd_row, upd_row, upd_row]
            refine h4.turns hn (by omega) o1 ?_ o3 o4 o5 (hneg rfl)
            show G 14 (6 * j + (oi j - 1)) = _
            rw [show 6 * j + (oi j - 1) = 6 * j + oi j - 1 by omega]
            exact o2
          · rw [if_neg c3, if_neg (fun z => c3 ((kn 3 (by omega)).mp z)), if_neg (fun z => c3 ((kn 3 (by omega)).mp z))]
            by_cases c4 : q = 4
            · subst c4
              obtain ⟨o1, o2, o3, o4, o5⟩ := ht (Or.inr rfl)
              rw [if_pos rfl, if_pos rfl, if_pos rfl, upd_row, upd_row, upd_row]
              refine h4.closes hn (by omega) o1 ?_ o3 o4 o5
              show G 14 (6 * j + (oi j - 1)) = _
              rw [show 6 * j + (oi j - 1) = 6 * j + oi j - 1 by omega]
              exact o2
            · rw [if_neg c4, if_neg (fun z => c4 ((kn 4 (by omega)).mp z)), if_neg (fun z => c4 ((kn 4 (by omega)).mp z)), upd_row, upd_row]
              refine h4.plain hq c2 c3 c4 (fun z => ?_)
              have hs0 := hs
              unfold q_st at hs0
              simp only [Bool.and_eq_true] at hs0
              have s1 := hs0.1.1.1.1.2
              rw [show q_gA (nI q) = true by rcases z with z | z | z <;> subst z <;> decide +kernel] at s1
              have s1 : q_gv a = true := s1
              have hnm : NmOk a := q_us_nm (by unfold q_us; rw [s1, Bool.or_true])
              refine ⟨nt a, ?_, hnm.2.1, hnm.1⟩
              rcases Nat.lt_or_ge (nt a) 4 with c9 | c9
              · exfalso
                unfold q_gv q_in at s1
                rw [hnm.1] at s1
                rw [show decide (nI (nt a) < nI 4) = true from decide_eq_true ((nI_ltf (by omega) (by omega)).mpr c9)] at s1
                cases s1
              · exact c9
    · have ej : ∀ p, p < 16 → 16 * j + p ≠ 16 * i + sz σ i := fun p hp => by omega
      rw [if_neg e, va_up_ne _ _ e, va_up_ne _ _ e, va_up_ne _ _ e, va_up_ne _ _ e]
      have etm : q = 3 ∨ q = 4 → ∀ p, p < 16 → 16 * j + p ≠ 16 * i + t0 := fun z p hp => by have := (ht z).2.2.1; omega
      refine ⟨h1, fun p hp => ?_, ⟨?_, ?_⟩, ?_⟩
      · have h9 := h2 p hp
        have ek : sk (s_stmt σ i tt (nI q) a b c k) (16 * j + p) = sk σ (16 * j + p) := pk_un (ej p (by omega))
        have ea : sa (s_stmt σ i tt (nI q) a b c k) (16 * j + p) = sa σ (16 * j + p) := pk_un (ej p (by omega))
        have eb : sb (s_stmt σ i tt (nI q) a b c k) (16 * j + p) = sb σ (16 * j + p) := pk_un (ej p (by omega))
        have ec : sc (s_stmt σ i tt (nI q) a b c k) (16 * j + p) = sc σ (16 * j + p) := pk_un (ej p (by omega))
        have eK : sK (s_stmt σ i tt (nI q) a b c k) (16 * j + p) = sK σ (16 * j + p) := pk_un (ej p (by omega))
        unfold StOk at h9 ⊢
        rw [ek, ea, eb, ec, eK]
        exact h9
      · split
        · rw [pk_un e]; exact h3
        · exact h3
      · split
        · rw [pk_un e]; exact h3b
        · split
          · rw [pk_un e]; exact h3b
          · exact h3b
      · refine h4.congr (fun _ _ => rfl) (fun p hp => pk_un (ej p (by omega))) (fun p hp => pk_un (ej p (by omega))) (fun p hp => ?_) (fun p hp => ?_) (fun p hp => ?_) (fun p hp => ?_) (fun p hp => ?_)
        · exact s_sl_other hn (fun z => (ht (z.imp (kn 3 (by omega)).mp (kn 4 (by omega)).mp)).2.2.2.2) (by omega) e
        · show (if q = 2 then upd (G 10) (16 * i + sz σ i) (nI (ni i)) else G 10) (16 * j + p) = G 10 (16 * j + p)
          split
          · exact pk_un (ej p (by omega))
          · rfl
        · show (if q = 3 then upd (upd (G 11) (16 * i + sz σ i) (-1)) (16 * i + t0) (nI (sz σ i)) else upd (G 11) (16 * i + sz σ i) (-1)) (16 * j + p) = G 11 (16 * j + p)
          split
          · rename_i c3
            rw [pk_un (etm (Or.inl c3) p (by omega)), pk_un (ej p (by omega))]
          · exact pk_un (ej p (by omega))
        · show (if q = 4 then upd (upd (G 12) (16 * i + sz σ i) (-1)) (16 * i + t0) (nI (sz σ i)) else upd (G 12) (16 * i + sz σ i) (-1)) (16 * j + p) = G 12 (16 * j + p)
          split
          · rename_i c4
            rw [pk_un (etm (Or.inr c4) p (by omega)), pk_un (ej p (by omega))]
          · exact pk_un (ej p (by omega))
        · show (if q = 2 then upd (G 14) (6 * i + oi i) (nI (16 * i + sz σ i)) else G 14) (6 * j + p) = G 14 (6 * j + p)
          split
          · rename_i c2
            have := h6 c2
            have := (hF i hi4).fn.2.2.2.1
            exact pk_un (by omega)
          · rfl
