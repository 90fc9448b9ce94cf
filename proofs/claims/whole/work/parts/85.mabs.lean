/-! The model's knowing, in the words of kl_learn, kl_give, kl_forget. -/
def MnK (tys : List (ClassId × FieldType)) (f : Nat → va_E) (ap : Nat) (K : kl_K) : Prop := ∃ g, mm_J tys f ap 169 g ∧ RpL g (jG K.2)
theorem MnK.eq {tys : List (ClassId × FieldType)} {f f' : Nat → va_E} {ap : Nat} {K : kl_K} (h : MnK tys f ap K) (e : f' ap = f ap) : MnK tys f' ap K := by
  obtain ⟨g, h2, h3⟩ := h
  exact ⟨g, h2.eq e, h3⟩
theorem MnK.J {tys : List (ClassId × FieldType)} {f : Nat → va_E} {ap : Nat} {K : kl_K} (h : MnK tys f ap K) : ∃ g, mm_J tys f ap 169 g := by
  obtain ⟨g, h2, -⟩ := h
  exact ⟨g, h2⟩
theorem MnK.ne {tys : List (ClassId × FieldType)} {f : Nat → va_E} {ap mo ci : Nat} {fs : List Value} {K : kl_K} (h : MnK tys f ap K) (h1 : f mo = .inr (ci, fs)) : mo ≠ ap := by
  obtain ⟨g, h2, -⟩ := h
  exact mm_JO h2 h1
theorem jn_id {a : Nat} (h : a ≠ 3) : a = jn a := by
  unfold jn
  rw [if_neg h]
theorem encL_le {o : Option Int} {k : Int} (ho : ∀ d, o = some d → -300000 ≤ d ∧ d ≤ 300000) (hk : -300000 ≤ k ∧ k ≤ 300000) : ¬ Int64.ofInt k < encL o ↔ kl_le o k = true := by
  rw [Int64.lt_iff_toInt_lt, i64_of (d := k) (by omega), encL_int ho]
  cases o with
  | none =>
    simp only [kl_le]
    constructor
    · intro h; omega
    · intro h; cases h
  | some d =>
    simp only [kl_le, decide_eq_true_eq]
    omega
theorem encL_neg {o : Option Int} {k : Int} (ho : ∀ d, o = some d → -300000 ≤ d ∧ d ≤ 300000) (hk : -300000 ≤ k ∧ k ≤ 300000) : ¬ (0 : Int64) ≤ encL o + Int64.ofInt k ↔ kl_le o (-k - 1) = true := by
  rw [Int64.le_iff_toInt_le, encL_add ho hk, encL_int ho, show (0 : Int64).toInt = 0 by decide +kernel]
  cases o with
  | none =>
    simp only [kl_le]
    constructor
    · intro h; omega
    · intro h; cases h
  | some d =>
    simp only [kl_le, decide_eq_true_eq]
    omega
theorem i64_i32 (v : Int32) : v.toInt64 = Int64.ofInt v.toInt := by
  apply Int64.toInt_inj.mp
  have h1 := Int32.minValue_le_toInt v
  have h2 := Int32.toInt_le v
  rw [show Int32.minValue.toInt = -2147483648 by decide +kernel] at h1
  rw [show Int32.maxValue.toInt = 2147483647 by decide +kernel] at h2
  rw [Int32.toInt_toInt64, Int64.toInt_ofInt_of_le (by omega) (by omega)]
theorem ma_begin {l : Launch} {D : va_G} {tys : List (ClassId × FieldType)} {L : List Nat} {f : Nat → va_E} (hn : L.Nodup) {mo ap cm : Nat} {ad : Nat → Nat} {th fe me fu le en sp ka kc se : Int32} {mx : Int64} (hh : mo ∈ L) (hbL : ap ∈ L) (h1 : f mo = mO ad ap cm th fe me fu le en sp ka kc mx se) (h2 : ∃ g, mm_J tys f ap 169 g) : MetV l yM_begin wM_begin ({ frames := 0, cells := 0, slots := 0, locals := 0 } : Room) D tys L f [.ref mo] (fun f' => f' mo = mO ad ap cm th (kb kl_0.1) me fu le en sp ka kc mx se ∧ MnK tys f' ap kl_0 ∧ Same2 f f' mo ap) := by
  obtain ⟨g, h2⟩ := h2
  have hne : mo ≠ ap := mm_JO h2 h1
  refine metv_imp (m_begin hn hh hbL h1 h2) (fun f' e => ?_)
  subst e
  exact ⟨va_up_self _ _ _, ⟨_, h2.set.eq (va_up_ne _ _ (Ne.symm hne)), rpl_begin⟩, fun x hx hx2 => by rw [va_up_ne _ _ hx, mm_sj_ne hx2]⟩
theorem ma_shows {l : Launch} {D : va_G} {tys : List (ClassId × FieldType)} {L : List Nat} {f : Nat → va_E} (hn : L.Nodup) {mo ap cm : Nat} {ad : Nat → Nat} {th fe me fu le en sp ka kc se : Int32} {mx : Int64} {K : kl_K} (hh : mo ∈ L) (hbL : ap ∈ L) (h1 : f mo = mO ad ap cm th fe me fu le en sp ka kc mx se) (h2 : MnK tys f ap K) {T : Int} (hok : kl_ok T K) (hT : T ≤ 300000) {x y a b : Nat} {k : Int64} {kk : Int} (ha : a < 12) (hb : b < 12) (hx : x = jn a) (hy : y = jn b) (hk : k = Int64.ofInt kk) (hkk : -1001 ≤ kk ∧ kk ≤ 1001) : MetI l yM_shows wM_shows ({ frames := 0, cells := 0, slots := 0, locals := 0 } : Room) D tys L f [.ref mo, .int (nI x), .int (nI y), .long k] (fun r f' => r = kb (kl_le (K.2 a b) kk) ∧ f' = f) := by
  obtain ⟨g, h2, h3⟩ := h2
  subst hx
  subst hy
  subst hk
  refine meti_imp (m_shows hn hh hbL h1 h2 (jn_lt ha) (jn_lt hb)) (fun r f' ⟨e1, e2⟩ => ⟨?_, e2⟩)
  have hs := Sml.of hok.2 hT
  have h4 := encL_le (o := K.2 a b) (k := kk) (hs a b · ha hb) (by omega)
  simp only [lg_cmp_gt] at e1
  rw [e1, h3 _ _ (jn_lt ha) (jn_lt hb), jG_at ha hb]
  by_cases c : Int64.ofInt kk < encL (K.2 a b)
  · rw [if_pos c]
    cases e : kl_le (K.2 a b) kk with
    | false => rfl
    | true => exact absurd c (h4.mpr e)
  · rw [if_neg c, h4.mp c]
    rfl
theorem kl_both {T : Int} {K : kl_K} {a b : Nat} {k : Int} (hok : kl_ok T K) (ha : a < 12) (hb : b < 12) (h1 : kl_le (K.2 a b) k = true) (h2 : kl_le (K.2 b a) (-k - 1) = true) : False := by
  obtain ⟨d, e, h⟩ := hok.1.2 a b a k (-k - 1) ha hb ha (kl_le_iff.mp h1) (kl_le_iff.mp h2)
  rw [hok.1.1 a ha] at e
  cases e
  omega
theorem ma_know {l : Launch} {D : va_G} {tys : List (ClassId × FieldType)} {L : List Nat} {f : Nat → va_E} (hn : L.Nodup) {mo ap cm : Nat} {ad : Nat → Nat} {th me fu le en sp ka kc se : Int32} {mx : Int64} {K : kl_K} (hh : mo ∈ L) (hbL : ap ∈ L) (h1 : f mo = mO ad ap cm th (kb K.1) me fu le en sp ka kc mx se) (h2 : MnK tys f ap K) {T : Int} (hok : kl_ok T K) (hT : T ≤ 300000) {x y a b : Nat} {k : Int64} {kk : Int} (ha : a < 12) (hb : b < 12) (hx : x = jn a) (hy : y = jn b) (hk : k = Int64.ofInt kk) (hkk : -1001 ≤ kk ∧ kk ≤ 1001) : MetV l yM_know wM_know ({ frames := 0, cells := 0, slots := 0, locals := 0 } : Room) D tys L f [.ref mo, .int (nI x), .int (nI y), .long k] (fun f' => f' mo = mO ad ap cm th (kb (kl_learn a b kk K).1) me fu le en sp ka kc mx se ∧ MnK tys f' ap (kl_learn a b kk K) ∧ Same2 f f' mo ap) := by
  have hne : mo ≠ ap := h2.ne h1
  obtain ⟨g, h2, h3⟩ := h2
  subst hx
  subst hy
  subst hk
  refine metv_imp (m_know hn hh hbL h1 h2 (jn_lt ha) (jn_lt hb)) (fun f' e => ?_)
  subst e
  have hs := Sml.of hok.2 hT
  have h4 := encL_le (o := K.2 a b) (k := kk) (hs a b · ha hb) (by omega)
  have h5 := encL_neg (o := K.2 b a) (k := kk) (hs b a · hb ha) (by omega)
  unfold m_rk kl_learn
  simp only [lg_cmp_ge, lg_cmp_gt]
  rw [h3 _ _ (jn_lt ha) (jn_lt hb), jG_at ha hb, h3 _ _ (jn_lt hb) (jn_lt ha), jG_at hb ha]
  by_cases c3 : ¬ (0 : Int64) ≤ encL (K.2 b a) + Int64.ofInt kk
  · rw [if_pos c3]
    by_cases c1 : K.1 = false
    · rw [if_pos (Or.inl c1)]
      exact ⟨by rw [va_up_self, c1]; rfl, ⟨g, h2.eq (va_up_ne _ _ (Ne.symm hne)), h3⟩, fun x hx _ => va_up_ne _ _ hx⟩
    · rw [if_neg (c := K.1 = false ∨ kl_le (K.2 a b) kk = true) (fun e => e.elim c1 (fun e => kl_both hok ha hb e (h5.mp c3))), if_pos (h5.mp c3)]
      exact ⟨by rw [va_up_self]; rfl, ⟨g, h2.eq (va_up_ne _ _ (Ne.symm hne)), h3⟩, fun x hx _ => va_up_ne _ _ hx⟩
  · rw [if_neg c3]
    by_cases c1 : K.1 = false
    · rw [if_pos (kb_0.mpr c1), if_pos (Or.inl c1)]
      exact ⟨h1, ⟨g, h2, h3⟩, fun _ _ _ => rfl⟩
    · rw [if_neg (fun e => c1 (kb_0.mp e))]
      by_cases c2 : ¬ Int64.ofInt kk < encL (K.2 a b)
      · rw [if_pos c2, if_pos (Or.inr (h4.mp c2))]
        exact ⟨h1, ⟨g, h2, h3⟩, fun _ _ _ => rfl⟩
      · rw [if_neg c2, if_neg (c := K.1 = false ∨ kl_le (K.2 a b) kk = true) (fun e => e.elim c1 (fun e => c2 (h4.mpr e))), if_neg (fun e => c3 (h5.mpr e))]
        refine ⟨by rw [mm_sj_ne hne]; exact h1, ⟨_, h2.set, ?_⟩, fun x _ hx => mm_sj_ne hx⟩
        have hc : ∀ d, zd_L (jG K.2) (jn b) (jn a) d → 0 ≤ d + kk := fun d hd => by
          refine kl_cons (fun e => c3 (h5.mpr e)) d ?_
          obtain ⟨d0, e0, l0⟩ := hd
          rw [jG_at hb ha] at e0
          exact ⟨d0, e0, l0⟩
        exact (rpl_learn (jn_lt ha) (jn_lt hb) (by omega) hc (jG_sml hs) h3).eq (fun x y hx hy => jG_lrn ha hb hx hy)
theorem ma_forget {l : Launch} {D : va_G} {tys : List (ClassId × FieldType)} {L : List Nat} {f : Nat → va_E} (hn : L.Nodup) {mo ap cm : Nat} {ad : Nat → Nat} {th fe me fu le en sp ka kc se : Int32} {mx : Int64} {K : kl_K} (hh : mo ∈ L) (hbL : ap ∈ L) (h1 : f mo = mO ad ap cm th fe me fu le en sp ka kc mx se) (h2 : MnK tys f ap K) {T : Int} (hok : kl_ok T K) {x a : Nat} (ha : a < 12) (hx : x = jn a) : MetV l yM_forget wM_forget ({ frames := 0, cells := 0, slots := 0, locals := 0 } : Room) D tys L f [.ref mo, .int (nI x)] (fun f' => f' mo = mO ad ap cm th fe me fu le en sp ka kc mx se ∧ MnK tys f' ap (kl_forget a K) ∧ Same2 f f' mo ap) := by
  have hne : mo ≠ ap := h2.ne h1
  obtain ⟨g, h2, h3⟩ := h2
  subst hx
  refine metv_imp (m_forget hn hh hbL h1 h2 (jn_lt ha)) (fun f' e => ?_)
  subst e
  exact ⟨by rw [mm_sj_ne hne]; exact h1, ⟨_, h2.set, (rpl_forget (jn_lt ha) (jG_diag hok.1.1 (jn_lt ha)) h3).eq (fun x y hx hy => jG_fgt ha hx hy)⟩, fun x _ hx => mm_sj_ne hx⟩
theorem ma_rename {l : Launch} {D : va_G} {tys : List (ClassId × FieldType)} {L : List Nat} {f : Nat → va_E} (hn : L.Nodup) {mo ap cm : Nat} {ad : Nat → Nat} {th fe me fu le en sp ka kc se : Int32} {mx : Int64} {K : kl_K} (hh : mo ∈ L) (hbL : ap ∈ L) (h1 : f mo = mO ad ap cm th fe me fu le en sp ka kc mx se) (h2 : MnK tys f ap K) {T : Int} (hok : kl_ok T K) {a : Nat} (ha : a < 12) (h3a : a ≠ 3) : MetV l yM_rename wM_rename ({ frames := 1, cells := 0, slots := 0, locals := 22 } : Room) D tys L f [.ref mo, .int (nI a)] (fun f' => f' mo = mO ad ap cm th fe me fu le en sp ka kc mx se ∧ MnK tys f' ap (kl_forget 3 (kl_give a 3 0 K)) ∧ Same2 f f' mo ap) := by
  have hne : mo ≠ ap := h2.ne h1
  obtain ⟨g, h2, h3⟩ := h2
  refine metv_imp (m_rename hn hh hbL h1 h2 ha) (fun f' e => ?_)
  subst e
  exact ⟨by rw [mm_sj_ne hne]; exact h1, ⟨_, h2.set, rpl_rename ha h3a hok.1.1 h3⟩, fun x _ hx => mm_sj_ne hx⟩
