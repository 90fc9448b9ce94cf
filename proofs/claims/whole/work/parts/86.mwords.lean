/-! Where the name 3 is free: the model's GIVE and RETURN are the class's. -/
def kl_eqv (K K' : kl_K) : Prop := K.1 = K'.1 ∧ ∀ x y, x < 12 → y < 12 → K.2 x y = K'.2 x y
theorem MnK.ext {tys : List (ClassId × FieldType)} {f : Nat → va_E} {ap : Nat} {K K' : kl_K} (h : MnK tys f ap K) (e : kl_eqv K K') : MnK tys f ap K' := by
  obtain ⟨g, h2, h3⟩ := h
  refine ⟨g, h2, h3.eq (fun x y hx hy => ?_)⟩
  by_cases c : x = 3 ∨ y = 3
  · rw [jG_out c, jG_out c]
  · rw [jG_in (by omega) (by omega), jG_in (by omega) (by omega), e.2 _ _ (jx_lt hx) (jx_lt hy)]
theorem opt_le {o o' : Option Int} (h : ∀ k, kl_le o k = true ↔ kl_le o' k = true) : o = o' := by
  cases o with
  | none =>
    cases o' with
    | none => rfl
    | some d =>
      have := (h d).mpr (by simp [kl_le])
      cases this
  | some d =>
    cases o' with
    | none =>
      have := (h d).mp (by simp [kl_le])
      cases this
    | some d' =>
      have h1 := (h d).mp (by simp [kl_le])
      have h2 := (h d').mpr (by simp [kl_le])
      simp only [kl_le, decide_eq_true_eq] at h1 h2
      rw [show d = d' by omega]
theorem kl_ext {T U : Int} {K K' : kl_K} (h : kl_ok T K) (h' : kl_ok U K') (hp : K.1 = true) (hs : ∀ v, kl_sem K v ↔ kl_sem K' v) : kl_eqv K K' := by
  have hp' : K'.1 = true := by
    obtain ⟨v, hv⟩ := (kl_any h).mp hp
    exact ((hs v).mp hv).1
  refine ⟨by rw [hp, hp'], fun x y hx hy => opt_le (fun k => ?_)⟩
  rw [kl_shown h hp hx hy, kl_shown h' hp' hx hy]
  exact ⟨fun z v hv => z v ((hs v).mpr hv), fun z v hv => z v ((hs v).mp hv)⟩
def Free3 (K : kl_K) : Prop := ∀ x, x < 12 → x ≠ 3 → K.2 x 3 = none ∧ K.2 3 x = none
theorem fr3_0 : Free3 kl_0 := fun x _ h => ⟨if_neg h, if_neg (Ne.symm h)⟩
theorem fr3_learn {K : kl_K} {a b : Nat} {k : Int} (h : Free3 K) (ha : a < 12) (hb : b < 12) (ha3 : a ≠ 3) (hb3 : b ≠ 3) : Free3 (kl_learn a b k K) := by
  unfold kl_learn
  split
  · exact h
  · split
    · exact h
    · intro x hx h3
      refine ⟨?_, ?_⟩
      · show zd_lrn a b k K.2 x 3 = none
        unfold zd_lrn
        rw [(h b hb hb3).1, (h x hx h3).1]
        cases K.2 x a <;> rfl
      · show zd_lrn a b k K.2 3 x = none
        rw [lrn_none (h a ha ha3).2]
        exact (h x hx h3).2
theorem fr3_give {K : kl_K} {a b : Nat} {k : Int} (h : Free3 K) (hb : b < 12) (ha3 : a ≠ 3) (hb3 : b ≠ 3) : Free3 (kl_give a b k K) := by
  intro x hx h3
  have h1 : zd_mp a b x < 12 := zd_mp_lt hb hx
  have h2 : zd_mp a b x ≠ 3 := by unfold zd_mp; split <;> omega
  have h4 : zd_mp a b 3 = 3 := by unfold zd_mp; rw [if_neg (Ne.symm ha3)]
  refine ⟨?_, ?_⟩
  · show zd_giv a b k K.2 x 3 = none
    unfold zd_giv
    rw [h4, (h _ h1 h2).1]
    rfl
  · show zd_giv a b k K.2 3 x = none
    unfold zd_giv
    rw [h4, (h _ h1 h2).2]
    rfl
theorem fr3_forget {K : kl_K} {a : Nat} (h : Free3 K) : Free3 (kl_forget a K) := by
  intro x hx h3
  refine ⟨?_, ?_⟩
  · show zd_fgt a K.2 x 3 = none
    unfold zd_fgt
    split
    · first | rfl | exact if_neg h3
    · exact (h x hx h3).1
  · show zd_fgt a K.2 3 x = none
    unfold zd_fgt
    split
    · first | rfl | exact if_neg (Ne.symm h3)
    · exact (h x hx h3).2
theorem fr3_forget3 {K : kl_K} : Free3 (kl_forget 3 K) := by
  intro x hx h3
  refine ⟨?_, ?_⟩
  · show zd_fgt 3 K.2 x 3 = none
    unfold zd_fgt
    rw [if_pos (Or.inr rfl), if_neg h3]
  · show zd_fgt 3 K.2 3 x = none
    unfold zd_fgt
    rw [if_pos (Or.inl rfl), if_neg (Ne.symm h3)]
/-- the name 3 given b + k, told as two relations -/
theorem kl_tell3 {T : Int} {K : kl_K} {b : Nat} {k : Int} (hok : kl_ok T K) (hp : K.1 = true) (h3 : Free3 K) (hb : b < 12) (hb3 : b ≠ 3) (hk : -1001 ≤ k ∧ k ≤ 1001) : kl_eqv (kl_give 3 b k K) (kl_learn b 3 (-k) (kl_learn 3 b k K)) := by
  have ok1 := kl_learn_ok (a := 3) (b := b) (k := k) (by omega) hb hk hok
  refine kl_ext (kl_give_ok (a := 3) hb hk hok) (kl_learn_ok (a := b) (b := 3) (k := -k) hb (by omega) (by omega) ok1) hp (fun v => ?_)
  rw [kl_give_sem (by omega) hb hok, kl_learn_sem hb (by omega) ok1, kl_learn_sem (by omega) hb hok]
  constructor
  · rintro ⟨ww, hw, e3, ex⟩
    refine ⟨⟨⟨hp, fun x y c hx hy hL => ?_⟩, ?_⟩, ?_⟩
    · by_cases cx : x = 3
      · by_cases cy : y = 3
        · have := hw.2 x y c hx hy hL
          rw [cx, cy] at *
          omega
        · obtain ⟨d, hd, -⟩ := hL
          rw [cx, (h3 y hy cy).2] at hd
          cases hd
      · by_cases cy : y = 3
        · obtain ⟨d, hd, -⟩ := hL
          rw [cy, (h3 x hx cx).1] at hd
          cases hd
        · rw [ex x hx cx, ex y hy cy]
          exact hw.2 x y c hx hy hL
    · rw [e3, ex b hb hb3]; omega
    · rw [e3, ex b hb hb3]; omega
  · rintro ⟨⟨hv, h1⟩, h2⟩
    exact ⟨v, hv, by omega, fun _ _ _ => rfl⟩
theorem kl_eqv.symm {K K' : kl_K} (h : kl_eqv K K') : kl_eqv K' K := ⟨h.1.symm, fun x y hx hy => (h.2 x y hx hy).symm⟩
theorem kl_eqv.trans {K K' K'' : kl_K} (h : kl_eqv K K') (h2 : kl_eqv K' K'') : kl_eqv K K'' := ⟨h.1.trans h2.1, fun x y hx hy => (h.2 x y hx hy).trans (h2.2 x y hx hy)⟩
theorem kl_eqv.ren {K K' : kl_K} {a : Nat} (h : kl_eqv K K') : kl_eqv (kl_forget 3 (kl_give a 3 0 K)) (kl_forget 3 (kl_give a 3 0 K')) := by
  refine ⟨h.1, fun x y hx hy => ?_⟩
  show zd_fgt 3 (zd_giv a 3 0 K.2) x y = zd_fgt 3 (zd_giv a 3 0 K'.2) x y
  unfold zd_fgt
  split
  · rfl
  · unfold zd_giv
    rw [h.2 _ _ (zd_mp_lt (by omega) hx) (zd_mp_lt (by omega) hy)]
theorem kl_ren3 {T : Int} {K : kl_K} {a b : Nat} {k : Int} (hok : kl_ok T K) (h3 : Free3 K) (hb : b < 12) (ha3 : a ≠ 3) (hb3 : b ≠ 3) : kl_eqv (kl_forget 3 (kl_give a 3 0 (kl_give 3 b k K))) (kl_give a b k K) := by
  refine ⟨rfl, fun x y hx hy => ?_⟩
  show zd_fgt 3 (zd_giv a 3 0 (zd_giv 3 b k K.2)) x y = zd_giv a b k K.2 x y
  have m3 : ∀ z, z ≠ 3 → zd_mp 3 b (zd_mp a 3 z) = zd_mp a b z ∧ zd_sh 3 k (zd_mp a 3 z) = zd_sh a k z := fun z hz => by
    unfold zd_mp zd_sh
    by_cases e : z = a
    · rw [if_pos e, if_pos rfl, if_pos rfl, if_pos e, if_pos e]; exact ⟨rfl, rfl⟩
    · rw [if_neg e, if_neg hz, if_neg hz, if_neg e, if_neg e]; exact ⟨rfl, rfl⟩
  have l : ∀ z, z ≠ 3 → z < 12 → zd_mp a b z < 12 ∧ zd_mp a b z ≠ 3 := fun z hz hz2 => ⟨zd_mp_lt hb hz2, by unfold zd_mp; split <;> omega⟩
  have h33 : zd_mp a b 3 = 3 := by unfold zd_mp; rw [if_neg (Ne.symm ha3)]
  have s33 : zd_sh a k 3 = 0 := by unfold zd_sh; rw [if_neg (Ne.symm ha3)]
  by_cases c : x = 3 ∨ y = 3
  · unfold zd_fgt
    rw [if_pos c]
    unfold zd_giv
    by_cases cx : x = 3
    · by_cases cy : y = 3
      · rw [cx, cy, if_pos rfl, h33, s33, hok.1.1 3 (by omega)]
        rfl
      · rw [cx, if_neg (Ne.symm cy), h33, (h3 _ (l y cy hy).1 (l y cy hy).2).2]
        rfl
    · have cy : y = 3 := by omega
      rw [cy, if_neg cx, h33, (h3 _ (l x cx hx).1 (l x cx hx).2).1]
      rfl
  · unfold zd_fgt
    rw [if_neg c]
    unfold zd_giv
    rw [(m3 x (by omega)).1, (m3 y (by omega)).1, (m3 x (by omega)).2, (m3 y (by omega)).2]
    cases K.2 (zd_mp a b x) (zd_mp a b y) with
    | none => rfl
    | some d =>
      simp only [Option.map_some, Option.some.injEq]
      unfold zd_sh
      split <;> split <;> omega
/-- the model's GIVE -/
theorem kl_mgive {T : Int} {K : kl_K} {a b : Nat} {k : Int} (hok : kl_ok T K) (hp : K.1 = true) (h3 : Free3 K) (hb : b < 12) (ha3 : a ≠ 3) (hb3 : b ≠ 3) (hk : -1001 ≤ k ∧ k ≤ 1001) : kl_eqv (kl_forget 3 (kl_give a 3 0 (kl_learn b 3 (-k) (kl_learn 3 b k K)))) (kl_give a b k K) :=
  (kl_tell3 hok hp h3 hb hb3 hk).symm.ren.trans (kl_ren3 hok h3 hb ha3 hb3)
/-! The model's memory: sixteen arrays of ints, a matrix, a row of booleans, an object. -/
def mlen (k : Nat) : Nat := if k < 3 then 32 else if k = 3 then 8 else if k < 9 then 64 else if k = 9 then 4 else if k < 13 then 64 else if k = 13 then 4 else if k = 14 then 24 else 4
def MS (tys : List (ClassId × FieldType)) (L : List Nat) (f : Nat → va_E) (mo ap cm : Nat) (ad : Nat → Nat) (G : Nat → Nat → Int32) : Prop := (mo ∈ L ∧ ap ∈ L ∧ cm ∈ L) ∧ ∀ k, k < 16 → ad k ∈ L ∧ mm_I tys f (ad k) (mlen k) (G k)
theorem MS.fr {tys : List (ClassId × FieldType)} {L : List Nat} {f f' : Nat → va_E} {mo ap cm ci : Nat} {ad : Nat → Nat} {G : Nat → Nat → Int32} {fs : List Value} {gz : Nat → Int32} (h : MS tys L f mo ap cm ad G) (h1 : f mo = .inr (ci, fs)) (h2 : ∃ g, mm_J tys f ap 169 g) (h3 : mm_Z tys f cm 17 gz) (hs : ∀ z, z ≠ mo → z ≠ ap → z ≠ cm → f' z = f z) : MS tys L f' mo ap cm ad G := by
  refine ⟨h.1, fun k hk => ⟨(h.2 k hk).1, ?_⟩⟩
  have hI := (h.2 k hk).2
  obtain ⟨g, h2⟩ := h2
  exact hI.eq (hs _ (Ne.symm (mm_IO hI h1)) (mm_IJ hI h2) (mm_IZ hI h3 (by unfold mlen; (repeat' split) <;> decide)))
/-- the model's arrays hold the system's state -/
def MT (σ : Sg) (G : Nat → Nat → Int32) : Prop := (∀ r, r < 8 → G 3 r = nI (rn σ r)) ∧ (∀ r j, r < 8 → j < 4 → G 0 (4 * r + j) = rA σ r j ∧ G 1 (4 * r + j) = rB σ r j ∧ G 2 (4 * r + j) = rK σ r j) ∧ (∀ x, x < 64 → G 4 x = sk σ x ∧ G 5 x = sa σ x ∧ G 6 x = sb σ x ∧ G 7 x = sc σ x ∧ G 8 x = sK σ x) ∧ (∀ i, i < 4 → G 9 i = nI (sz σ i))
/-- what the model notes at a place that it comes to -/
def m_mx (sp : Int32) (p : Nat) (se : Int32) (mx v : Int64) : Int64 := if nI p = sp then (if se = 0 ∨ mx < v then v else mx) else mx
def m_se (sp : Int32) (p : Nat) (se : Int32) : Int32 := if nI p = sp then nI 1 else se
theorem n_bl {le pl : Int32} (hle : -1 ≤ le.toInt) : (le < 0 ∨ ¬ le ≤ pl) ↔ (le = -1 ∨ ¬ le ≤ pl) := by
  have : le < 0 ↔ le = -1 := by
    rw [Int32.lt_iff_toInt_lt, ← Int32.toInt_inj, show (0 : Int32).toInt = 0 by decide +kernel, show (-1 : Int32).toInt = -1 by decide +kernel]
    omega
  rw [this]
def mst (x u v : Nat) : Nat := if x = 0 then 0 else if x = 1 then u else if x = 2 then v else 12
/-- the model's memory, all of it -/
def MD (tys : List (ClassId × FieldType)) (L : List Nat) (f : Nat → va_E) (mo ap cm : Nat) (ad : Nat → Nat) (G : Nat → Nat → Int32) (th fe me fu le en sp ka kc : Int32) (mx : Int64) (se : Int32) (gc : Nat → Int32) : Prop := MS tys L f mo ap cm ad G ∧ f mo = mO ad ap cm th fe me fu le en sp ka kc mx se ∧ (∃ g, mm_J tys f ap 169 g) ∧ mm_Z tys f cm 17 gc
section MDs
variable {tys : List (ClassId × FieldType)} {L : List Nat} {f f' : Nat → va_E} {mo ap cm : Nat} {ad : Nat → Nat} {G : Nat → Nat → Int32} {th fe me fu le en sp ka kc : Int32} {mx : Int64} {se : Int32} {gc : Nat → Int32} {th' fe' me' fu' le' en' sp' ka' kc' : Int32} {mx' : Int64} {se' : Int32} {gc' : Nat → Int32}
theorem MD.ne (h : MD tys L f mo ap cm ad G th fe me fu le en sp ka kc mx se gc) : mo ≠ ap ∧ mo ≠ cm ∧ cm ≠ ap := by
  obtain ⟨h0, h1, ⟨g, h2⟩, h3⟩ := h
  exact ⟨mm_JO h2 h1, mm_ZO h3 h1, mm_ZJ h3 h2⟩
theorem MD.neA (h : MD tys L f mo ap cm ad G th fe me fu le en sp ka kc mx se gc) {k : Nat} (hk : k < 16) : ad k ≠ mo ∧ ad k ≠ ap ∧ ad k ≠ cm := by
  obtain ⟨h0, h1, ⟨g, h2⟩, h3⟩ := h
  have hI := (h0.2 k hk).2
  exact ⟨Ne.symm (mm_IO hI h1), mm_IJ hI h2, mm_IZ hI h3 (by unfold mlen; (repeat' split) <;> decide)⟩
theorem MD.upd2 (h : MD tys L f mo ap cm ad G th fe me fu le en sp ka kc mx se gc) (h1 : f' mo = mO ad ap cm th' fe' me' fu' le' en' sp' ka' kc' mx' se') (h2 : ∃ g, mm_J tys f' ap 169 g) (hs : Same2 f f' mo ap) : MD tys L f' mo ap cm ad G th' fe' me' fu' le' en' sp' ka' kc' mx' se' gc := by
  have n := h.ne
  exact ⟨h.1.fr h.2.1 h.2.2.1 h.2.2.2 (fun z z1 z2 _ => hs z z1 z2), h1, h2, h.2.2.2.eq (hs _ (Ne.symm n.2.1) n.2.2)⟩
theorem MD.updO (h : MD tys L f mo ap cm ad G th fe me fu le en sp ka kc mx se gc) (h1 : f' mo = mO ad ap cm th' fe' me' fu' le' en' sp' ka' kc' mx' se') (hs : Same1 f f' mo) : MD tys L f' mo ap cm ad G th' fe' me' fu' le' en' sp' ka' kc' mx' se' gc := by
  have n := h.ne
  obtain ⟨g, h2⟩ := h.2.2.1
  exact h.upd2 h1 ⟨g, h2.eq (hs _ (Ne.symm n.1))⟩ (fun z z1 _ => hs z z1)
theorem MD.updC (h : MD tys L f mo ap cm ad G th fe me fu le en sp ka kc mx se gc) (h1 : mm_Z tys f' cm 17 gc') (hs : Same1 f f' cm) : MD tys L f' mo ap cm ad G th fe me fu le en sp ka kc mx se gc' := by
  have n := h.ne
  obtain ⟨g, h2⟩ := h.2.2.1
  exact ⟨h.1.fr h.2.1 h.2.2.1 h.2.2.2 (fun z z1 z2 z3 => hs z z3), by rw [hs _ n.2.1]; exact h.2.1, ⟨g, h2.eq (hs _ (Ne.symm n.2.2))⟩, h1⟩
theorem MD.updA (h : MD tys L f mo ap cm ad G th fe me fu le en sp ka kc mx se gc) (hi : ∀ i j, i < 16 → j < 16 → i ≠ j → ad i ≠ ad j) {k : Nat} (hk : k < 16) {g' : Nat → Int32} (h1 : mm_I tys f' (ad k) (mlen k) g') (hs : Same1 f f' (ad k)) : MD tys L f' mo ap cm ad (fun j => if j = k then g' else G j) th fe me fu le en sp ka kc mx se gc := by
  have n := h.neA hk
  obtain ⟨g, h2⟩ := h.2.2.1
  refine ⟨⟨h.1.1, fun j hj => ⟨(h.1.2 j hj).1, ?_⟩⟩, by rw [hs _ (Ne.symm n.1)]; exact h.2.1, ⟨g, h2.eq (hs _ (Ne.symm n.2.1))⟩, h.2.2.2.eq (hs _ (Ne.symm n.2.2))⟩
  show mm_I tys f' (ad j) (mlen j) (if j = k then g' else G j)
  by_cases e : j = k
  · rw [if_pos e, e]; exact h1
  · rw [if_neg e]; exact (h.1.2 j hj).2.eq (hs _ (hi j k hj hk e))
theorem MD.keepO {K : kl_K} (h : MD tys L f mo ap cm ad G th fe me fu le en sp ka kc mx se gc) (hk : MnK tys f ap K) (hs : Same1 f f' mo) : MnK tys f' ap K := hk.eq (hs _ (Ne.symm h.ne.1))
theorem MD.keepC {K : kl_K} (h : MD tys L f mo ap cm ad G th fe me fu le en sp ka kc mx se gc) (hk : MnK tys f ap K) (hs : Same1 f f' cm) : MnK tys f' ap K := hk.eq (hs _ (Ne.symm h.ne.2.2))
end MDs
/-- nothing but the model's moving cells has changed -/
def Sm3 (f f' : Nat → va_E) (mo ap cm : Nat) : Prop := ∀ z, z ≠ mo → z ≠ ap → z ≠ cm → f' z = f z
theorem Sm3.trans {f g h : Nat → va_E} {mo ap cm : Nat} (h1 : Sm3 f g mo ap cm) (h2 : Sm3 g h mo ap cm) : Sm3 f h mo ap cm := fun z a b c => by rw [h2 z a b c, h1 z a b c]
theorem Sm3.rfl2 {f : Nat → va_E} {mo ap cm : Nat} : Sm3 f f mo ap cm := fun _ _ _ _ => rfl
theorem Sm3.of2 {f g : Nat → va_E} {mo ap cm : Nat} (h : Same2 f g mo ap) : Sm3 f g mo ap cm := fun z a b _ => h z a b
theorem Sm3.ofO {f g : Nat → va_E} {mo ap cm : Nat} (h : Same1 f g mo) : Sm3 f g mo ap cm := fun z a _ _ => h z a
theorem Sm3.ofC {f g : Nat → va_E} {mo ap cm : Nat} (h : Same1 f g cm) : Sm3 f g mo ap cm := fun z _ _ c => h z c
