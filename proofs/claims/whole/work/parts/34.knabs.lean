/-! Known, as what is known: contracts in the words of kl_learn, kl_give, kl_forget. -/
def kb (x : Bool) : Int32 := if x = true then nI 1 else nI 0
theorem kb_or (x : Bool) : kb x = nI 0 ∨ kb x = nI 1 := by
  cases x
  · exact Or.inl rfl
  · exact Or.inr rfl
theorem kb_0 {x : Bool} : kb x = 0 ↔ x = false := by
  cases x
  · exact ⟨fun _ => rfl, fun _ => rfl⟩
  · exact ⟨fun h => absurd h (by decide +kernel), fun h => by cases h⟩
def KnAt (tys : List (ClassId × FieldType)) (f : Nat → va_E) (h b : Nat) (K : kl_K) : Prop := f h = .inr (1, [.ref b, .int (kb K.1)]) ∧ ∃ g, mm_I tys f b 144 g ∧ Rp g K.2
theorem KnAt.ne {tys : List (ClassId × FieldType)} {f : Nat → va_E} {h b : Nat} {K : kl_K} (hk : KnAt tys f h b K) : h ≠ b := by
  obtain ⟨h1, g, h2, -⟩ := hk
  exact mm_IO h2 h1
theorem KnAt.eq {tys : List (ClassId × FieldType)} {f f' : Nat → va_E} {h b : Nat} {K : kl_K} (hk : KnAt tys f h b K) (e1 : f' h = f h) (e2 : f' b = f b) : KnAt tys f' h b K := by
  obtain ⟨h1, g, h2, h3⟩ := hk
  exact ⟨by rw [e1]; exact h1, g, h2.eq e2, h3⟩
/-- nothing but these two cells has changed -/
def Same2 (f f' : Nat → va_E) (h b : Nat) : Prop := ∀ x, x ≠ h → x ≠ b → f' x = f x
theorem ka_bound {l : Launch} {D : va_G} {tys : List (ClassId × FieldType)} {L : List Nat} {f : Nat → va_E} (hn : L.Nodup) {h b : Nat} {K : kl_K} (hh : h ∈ L) (hbL : b ∈ L) (hk : KnAt tys f h b K) {x y : Nat} (hx0 : x < 12) (hy0 : y < 12) : MetI l yK_bound wK_bound ({ frames := 0, cells := 0, slots := 0, locals := 0 } : Room) D tys L f [.ref h, .int (nI x), .int (nI y)] (fun r f' => r = encI (K.2 x y) ∧ f' = f) := by
  obtain ⟨h1, g, h2, h3⟩ := hk
  exact meti_imp (k_bound hn hh hbL h1 h2 hx0 hy0) (fun r f' ⟨e1, e2⟩ => ⟨by rw [e1]; exact h3 x y hx0 hy0, e2⟩)
theorem ka_shows {l : Launch} {D : va_G} {tys : List (ClassId × FieldType)} {L : List Nat} {f : Nat → va_E} (hn : L.Nodup) {h b : Nat} {K : kl_K} (hh : h ∈ L) (hbL : b ∈ L) (hk : KnAt tys f h b K) {T : Int} (hok : kl_ok T K) (hT : T ≤ 300000) {x y : Nat} {k : Int32} (hx0 : x < 12) (hy0 : y < 12) (hkk : -1001 ≤ k.toInt ∧ k.toInt ≤ 1001) : MetI l yK_shows wK_shows ({ frames := 0, cells := 0, slots := 0, locals := 0 } : Room) D tys L f [.ref h, .int (nI x), .int (nI y), .int k] (fun r f' => r = kb (kl_le (K.2 x y) k.toInt) ∧ f' = f) := by
  obtain ⟨h1, g, h2, h3⟩ := hk
  refine meti_imp (k_shows hn hh hbL h1 h2 hx0 hy0) (fun r f' ⟨e1, e2⟩ => ⟨?_, e2⟩)
  have hs := Sml.of hok.2 hT
  have h4 := enc_le (o := K.2 x y) (k := k) (hs x y · hx0 hy0) (by omega)
  rw [e1, h3 x y hx0 hy0]
  by_cases c : k < encI (K.2 x y)
  · rw [if_pos c]
    cases e : kl_le (K.2 x y) k.toInt with
    | false => rfl
    | true => exact absurd c (h4.mpr e)
  · rw [if_neg c, h4.mp c]
    rfl
theorem ka_learn {l : Launch} {D : va_G} {tys : List (ClassId × FieldType)} {L : List Nat} {f : Nat → va_E} (hn : L.Nodup) {h b : Nat} {K : kl_K} (hh : h ∈ L) (hbL : b ∈ L) (hk : KnAt tys f h b K) {T : Int} (hok : kl_ok T K) (hT : T ≤ 300000) {a bb : Nat} {k : Int32} (ha : a < 12) (hbb : bb < 12) (hkk : -1001 ≤ k.toInt ∧ k.toInt ≤ 1001) : MetV l yK_learn wK_learn ({ frames := 0, cells := 0, slots := 0, locals := 0 } : Room) D tys L f [.ref h, .int (nI a), .int (nI bb), .int k] (fun f' => KnAt tys f' h b (kl_learn a bb k.toInt K) ∧ Same2 f f' h b) := by
  have hne := hk.ne
  obtain ⟨h1, g, h2, h3⟩ := hk
  refine metv_imp (k_learn hn hh hbL h1 h2 ha hbb) (fun f' e => ?_)
  have hs := Sml.of hok.2 hT
  subst e
  unfold r_learn kl_learn
  by_cases c1 : K.1 = false
  · rw [if_pos (kb_0.mpr c1), if_pos (Or.inl c1)]
    exact ⟨⟨h1, g, h2, h3⟩, fun _ _ _ => rfl⟩
  · have h4 := enc_le (o := K.2 a bb) (k := k) (hs a bb · ha hbb) (by omega)
    rw [if_neg (fun e => c1 (kb_0.mp e)), h3 a bb ha hbb]
    by_cases c2 : ¬ k < encI (K.2 a bb)
    · rw [if_pos c2, if_pos (Or.inr (h4.mp c2))]
      exact ⟨⟨h1, g, h2, h3⟩, fun _ _ _ => rfl⟩
    · rw [if_neg c2, if_neg (c := K.1 = false ∨ kl_le (K.2 a bb) k.toInt = true) (fun e => e.elim c1 (fun e => c2 (h4.mpr e))), h3 bb a hbb ha]
      have h5 : (¬ encI (K.2 bb a) = 1000000 ∧ ¬ 0 ≤ encI (K.2 bb a) + k) ↔ kl_le (K.2 bb a) (-k.toInt - 1) = true := by
        rw [Int32.le_iff_toInt_le]
        cases hG : K.2 bb a with
        | none => exact ⟨fun z => absurd rfl z.1, fun z => by cases z⟩
        | some d =>
          have hd := hs bb a d hbb ha hG
          have e1 : encI (some d) + k = Int32.ofInt (d + k.toInt) := by
            show Int32.ofInt d + k = _
            rw [Int32.ofInt_add, Int32.ofInt_toInt]
          rw [e1, i32_of (d := d + k.toInt) (by omega)]
          simp only [kl_le, decide_eq_true_eq]
          have e0 : (0 : Int32).toInt = 0 := by decide +kernel
          rw [e0]
          constructor
          · intro z; omega
          · intro z
            exact ⟨enc_max (by omega), by omega⟩
      by_cases c3 : ¬ encI (K.2 bb a) = 1000000 ∧ ¬ 0 ≤ encI (K.2 bb a) + k
      · rw [if_pos c3, if_pos (h5.mp c3)]
        refine ⟨⟨by rw [va_up_self]; rfl, g, h2.eq (va_up_ne _ _ (Ne.symm hne)), h3⟩, fun x hx _ => va_up_ne _ _ hx⟩
      · rw [if_neg c3, if_neg (fun e => c3 (h5.mpr e))]
        exact ⟨⟨by rw [mm_si_ne hne]; exact h1, _, h2.set, rp_learn ha hbb (by omega) (kl_cons (fun e => c3 (h5.mpr e))) hs h3⟩, fun x _ hx => mm_si_ne hx⟩
theorem ka_give {l : Launch} {D : va_G} {tys : List (ClassId × FieldType)} {L : List Nat} {f : Nat → va_E} (hn : L.Nodup) {h b : Nat} {K : kl_K} (hh : h ∈ L) (hbL : b ∈ L) (hk : KnAt tys f h b K) {T : Int} (hok : kl_ok T K) (hT : T ≤ 300000) {a bb : Nat} {k : Int32} (ha : a < 12) (hbb : bb < 12) (hkk : -1001 ≤ k.toInt ∧ k.toInt ≤ 1001) : MetV l yK_give wK_give ({ frames := 1, cells := 0, slots := 0, locals := 21 } : Room) D tys L f [.ref h, .int (nI a), .int (nI bb), .int k] (fun f' => KnAt tys f' h b (kl_give a bb k.toInt K) ∧ Same2 f f' h b) := by
  have hne := hk.ne
  obtain ⟨h1, g, h2, h3⟩ := hk
  refine metv_imp (k_give hn hh hbL h1 h2 ha hbb) (fun f' e => ?_)
  subst e
  exact ⟨⟨by rw [mm_si_ne hne]; exact h1, _, h2.set, rp_give ha hbb (by omega) (hok.1.1 a ha) (hok.1.1 bb hbb) (Sml.of hok.2 hT) h3⟩, fun x _ hx => mm_si_ne hx⟩
theorem ka_forget {l : Launch} {D : va_G} {tys : List (ClassId × FieldType)} {L : List Nat} {f : Nat → va_E} (hn : L.Nodup) {h b : Nat} {K : kl_K} (hh : h ∈ L) (hbL : b ∈ L) (hk : KnAt tys f h b K) {T : Int} (hok : kl_ok T K) {a : Nat} (ha : a < 12) : MetV l yK_forget wK_forget ({ frames := 0, cells := 0, slots := 0, locals := 0 } : Room) D tys L f [.ref h, .int (nI a)] (fun f' => KnAt tys f' h b (kl_forget a K) ∧ Same2 f f' h b) := by
  have hne := hk.ne
  obtain ⟨h1, g, h2, h3⟩ := hk
  refine metv_imp (k_forget hn hh hbL h1 h2 ha) (fun f' e => ?_)
  subst e
  exact ⟨⟨by rw [mm_si_ne hne]; exact h1, _, h2.set, rp_forget ha (hok.1.1 a ha) h3⟩, fun x _ hx => mm_si_ne hx⟩
/-- a Known with whatever it holds -/
def KnAny (tys : List (ClassId × FieldType)) (f : Nat → va_E) (h b : Nat) : Prop := (∃ pv, f h = .inr (1, [.ref b, .int pv])) ∧ ∃ g, mm_I tys f b 144 g
theorem KnAt.any {tys : List (ClassId × FieldType)} {f : Nat → va_E} {h b : Nat} {K : kl_K} (hk : KnAt tys f h b K) : KnAny tys f h b := by
  obtain ⟨h1, g, h2, -⟩ := hk
  exact ⟨⟨_, h1⟩, g, h2⟩
theorem KnAny.eq {tys : List (ClassId × FieldType)} {f f' : Nat → va_E} {h b : Nat} (hk : KnAny tys f h b) (e1 : f' h = f h) (e2 : f' b = f b) : KnAny tys f' h b := by
  obtain ⟨⟨pv, h1⟩, g, h2⟩ := hk
  exact ⟨⟨pv, by rw [e1]; exact h1⟩, g, h2.eq e2⟩
theorem ka_forgetAll {l : Launch} {D : va_G} {tys : List (ClassId × FieldType)} {L : List Nat} {f : Nat → va_E} (hn : L.Nodup) {h b : Nat} (hh : h ∈ L) (hbL : b ∈ L) (hk : KnAny tys f h b) : MetV l yK_forgetAll wK_forgetAll ({ frames := 1, cells := 0, slots := 0, locals := 23 } : Room) D tys L f [.ref h] (fun f' => KnAt tys f' h b kl_0 ∧ Same2 f f' h b) := by
  obtain ⟨⟨pv, h1⟩, g, h2⟩ := hk
  have hne : h ≠ b := mm_IO h2 h1
  refine metv_imp (k_forgetAll hn hh hbL h1 h2) (fun f' e => ?_)
  subst e
  exact ⟨⟨by rw [va_up_self]; rfl, _, h2.set.eq (va_up_ne _ _ (Ne.symm hne)), rp_all⟩, fun x hx hx2 => by rw [va_up_ne _ _ hx, mm_si_ne hx2]⟩
theorem ka_copyFrom {l : Launch} {D : va_G} {tys : List (ClassId × FieldType)} {L : List Nat} {f : Nat → va_E} (hn : L.Nodup) {h b h8 b8 : Nat} {K : kl_K} (hh : h ∈ L) (hbL : b ∈ L) (hk : KnAny tys f h b) (hh8 : h8 ∈ L) (hb8 : b8 ∈ L) (hk8 : KnAt tys f h8 b8 K) (hbb : b8 ≠ b) (hhh : h8 ≠ h) : MetV l yK_copyFrom wK_copyFrom ({ frames := 1, cells := 0, slots := 0, locals := 18 } : Room) D tys L f [.ref h, .ref h8] (fun f' => KnAt tys f' h b K ∧ Same2 f f' h b) := by
  obtain ⟨⟨pv, h1⟩, g, h2⟩ := hk
  have hne : h ≠ b := mm_IO h2 h1
  obtain ⟨h18, g8, h28, h38⟩ := hk8
  refine metv_imp (k_copyFrom hn hh hbL h1 h2 hh8 hb8 h18 h28 hbb hhh (kb_or _)) (fun f' e => ?_)
  subst e
  exact ⟨⟨by rw [va_up_self], _, h2.set.eq (va_up_ne _ _ (Ne.symm hne)), rp_copy h38⟩, fun x hx hx2 => by rw [va_up_ne _ _ hx, mm_si_ne hx2]⟩
