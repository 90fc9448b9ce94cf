/-! LiquidChecker: refine -/
theorem nI_ltf {a b : Nat} (ha : a < 2 ^ 31) (hb : b < 2 ^ 31) : nI a < nI b ↔ a < b := by
  rw [Int32.lt_iff_toInt_lt, nI_toInt ha, nI_toInt hb]; omega
def q_rf (x kind a b k : Int32) : Bool := q_fn x && q_in kind (nI 0) (nI 1) && q_in a (nI 0) (nI 2 + kind) && q_in b (nI 0) (nI 2 + kind) && q_df k
theorem q_in01 {x : Int32} (h : q_in x (nI 0) (nI 1) = true) : x = nI 0 ∨ x = nI 1 := by
  unfold q_in at h
  simp only [Bool.and_eq_true, Bool.not_eq_true', decide_eq_false_iff_not] at h
  obtain ⟨p, hp, e⟩ := nI_of2 (M := nI 1) (n := 1) (nI_toInt (by omega)) h.1 (Int32.not_lt.mp h.2)
  rcases (show p = 0 ∨ p = 1 by omega) with z | z
  · exact Or.inl (by rw [e, z])
  · exact Or.inr (by rw [e, z])
theorem q_in_nt {y : Int32} {n : Nat} (hn : n < 2 ^ 31) (h : q_in y (nI 0) (nI n) = true) : y = nI (nt y) ∧ nt y ≤ n := by
  unfold q_in at h
  simp only [Bool.and_eq_true, Bool.not_eq_true', decide_eq_false_iff_not] at h
  obtain ⟨p, hp, e⟩ := nI_of2 (M := nI n) (nI_toInt hn) h.1 (Int32.not_lt.mp h.2)
  rw [e, nt_nI (by omega)]
  exact ⟨rfl, hp⟩
theorem q_df_int {k : Int32} (h : q_df k = true) : -1000 ≤ k.toInt ∧ k.toInt ≤ 1000 := by
  unfold q_df q_in at h
  simp only [Bool.and_eq_true, Bool.not_eq_true', decide_eq_false_iff_not, Int32.lt_iff_toInt_lt] at h
  have e1 : (-1000 : Int32).toInt = -1000 := by decide +kernel
  have e2 : (nI 1000).toInt = 1000 := nI_toInt (by omega)
  rw [e1, e2] at h
  omega
set_option maxRecDepth 100000 in
set_option maxHeartbeats 4000000 in
theorem c_refine {l : Launch} {D : va_G} {tys : List (ClassId × FieldType)} {L : List Nat} {f : Nat → va_E} {sAd : Nat → Nat} (hn : L.Nodup) {fa : Nat} {fn dr pr sA oA ra rb rk : Nat → Nat} {sq : Nat → Nat → Nat} {oi ni : Nat → Nat} {gv : Nat → Int32} {go : Nat → Nat → Int32} {σ : Sg} {cc ww kk : Nat} (hst : l.stackTraces = false) (hF : FnsAt tys L f fa fn dr pr sA oA ra rb rk sq oi ni gv go σ) (hcL : cc ∈ L) (hc : f cc = .inr (5, [.ref fa, .ref ww, .ref kk])) (hD : FnsD fn dr pr sA oA ra rb rk sq) {x kind a b k : Int32} : MetX l yC_refine wC_refine ({ frames := 6, cells := 1, slots := 6, locals := 100 } : Room) D tys L f sAd [.ref cc, .int x, .int kind, .int a, .int b, .int k] (fun r f' => q_rf x kind a b k = true ∧ ∀ i kd, x = nI i → kind = nI kd → i < 4 → kd < 2 → rn σ (2 * i + kd) < 4 ∧ r = nI (rn σ (2 * i + kd) + 1) ∧ FnsAt tys L f' fa fn dr pr sA oA ra rb rk sq oi ni gv go (s_refine σ (2 * i + kd) a b k) ∧ ∀ z, z ≠ dr i → z ≠ pr i → z ≠ ra (2 * i + kd) → z ≠ rb (2 * i + kd) → z ≠ rk (2 * i + kd) → f' z = f z) (fun E => (E = "java/lang/IllegalArgumentException" ∧ q_rf x kind a b k = false) ∨ (E = "java/lang/IllegalStateException" ∧ q_rf x kind a b k = true ∧ ∀ i kd, x = nI i → kind = nI kd → i < 4 → kd < 2 → ¬ rn σ (2 * i + kd) < 4)) := by
  refine metx_of "LiquidChecker" (by decide) rfl (Nat.le_of_ble_eq_true rfl) ?_
  intro pgm e s m below meth cd ls C0 hX hno hP hl
  obtain ⟨hx, hb, hml, hown, hg, hr, hlocks, hK, hN⟩ := id C0
  have hA : ∀ a ∈ L, inL L a := fun _ h => h
  obtain ⟨H, hH⟩ : ∃ z, z = s.heap := ⟨_, rfl⟩
  rw [← hH] at hP ⊢
  have hS : va_S (inL L) s.heap H [] := by rw [hH]; exact va_S.rf
  have hl : lv_has ls 8 [(0, .ref cc), (1, .int x), (2, .int kind), (3, .int a), (4, .int b), (5, .int k)] := hl
  refine lv_iload_n hx hb dC_refine_0 rfl (lv_at hl 1 rfl) ?_
  refine then_i (run_S (n := 1) (As := [.int x]) (rest := []) C0 (qC_isFunction hn) gw204 gw202 gw203 gw1 (by decide +kernel) ⟨Nat.le_of_ble_eq_true rfl, Nat.le_of_ble_eq_true rfl⟩ rfl rfl ⟨Nat.le_of_ble_eq_true rfl, Nat.le_of_ble_eq_true rfl⟩ hP rfl hl.1 rfl (Nat.le_of_ble_eq_true rfl) dC_refine_1) hS hA (fun r2 f1 H locs hq1 hP hS => ?_)
  obtain ⟨er2, ef1⟩ := hq1
  subst er2
  rw [ef1] at hP
  refine lv_if_eq (tgt := 16) hx hb dC_refine_4 (by decide) (fun c4 => ?_) (fun c4 => ?_)
  · have c4 : (q_fn x) = false := kb_0.mp c4
    exact thr (text := "no such function or kind") (names := ["java/lang/RuntimeException", "java/lang/Exception"]) C0 hst hX hno hP hS hl.1 (by decide +kernel) (by decide +kernel) gw208 gw11 rfl (by decide +kernel) gx_IllegalArgumentException (vo_c rfl rfl go_IllegalArgumentException) dC_refine_16 dC_refine_19 dC_refine_20 dC_refine_22 dC_refine_25 (Nat.le_of_ble_eq_true rfl) (Nat.le_of_ble_eq_true rfl) (Nat.le_of_ble_eq_true rfl) (Nat.le_of_ble_eq_true rfl) (Or.inl ⟨rfl, by unfold q_rf; rw [c4]; rfl⟩)
  · have c4 : (q_fn x) = true := kb_t.mp c4
    refine lv_iload_n hx hb dC_refine_7 rfl (lv_at hl 2 rfl) ?_
    refine lv_iconst (v := nI 0) hx hb dC_refine_8 (by decide) ?_
    refine lv_iconst (v := nI 1) hx hb dC_refine_9 (by decide) ?_
    refine then_i (run_S (n := 3) (As := [.int kind, .int (nI 0), .int (nI 1)]) (rest := []) C0 (qC_isWithin hn) gw207 gw205 gw206 gw1 (by decide +kernel) ⟨Nat.le_of_ble_eq_true rfl, Nat.le_of_ble_eq_true rfl⟩ rfl rfl ⟨Nat.le_of_ble_eq_true rfl, Nat.le_of_ble_eq_true rfl⟩ hP rfl hl.1 rfl (Nat.le_of_ble_eq_true rfl) dC_refine_10) hS hA (fun r4 f3 H locs hq10 hP hS => ?_)
    obtain ⟨er4, ef3⟩ := hq10
    subst er4
    rw [ef3] at hP
    refine lv_if_ne (tgt := 26) hx hb dC_refine_13 (by decide) (fun c13 => ?_) (fun c13 => ?_)
    · have c13 : (q_in kind (nI 0) (nI 1)) = true := kb_t.mp c13
      obtain ⟨i, hi4, hxi⟩ := q_fn_nI c4
      rcases q_in01 c13 with hk9 | hk9
      · subst hk9
        have hl : lv_has ls 8 [(0, .ref cc), (1, .int (nI i)), (2, .int (nI 0)), (3, .int a), (4, .int b), (5, .int k)] := by rw [← hxi]; exact hl
        refine lv_iload_n hx hb dC_refine_26 rfl (lv_at hl 2 rfl) ?_
        refine lv_if_ne (tgt := 34) hx hb dC_refine_27 (by decide) (fun c27 => absurd nI_0 c27) (fun c27 => ?_)
        refine lv_iconst (v := nI 2) hx hb dC_refine_30 (by decide) ?_
        refine lv_goto (tgt := 35) hx hb dC_refine_31 (by decide) ?_
        refine lv_istore (lv' := [(6, .int (nI 2)), (0, .ref cc), (1, .int (nI i)), (2, .int (nI 0)), (3, .int a), (4, .int b), (5, .int k)]) hx hb dC_refine_35 hl (by decide) rfl (fun ls hl => ?_)
        refine lv_iload_n hx hb dC_refine_37 rfl (lv_at hl 4 rfl) ?_
        refine lv_iconst (v := nI 0) hx hb dC_refine_38 (by decide) ?_
        refine lv_iload hx hb dC_refine_39 (lv_at hl 0 rfl) ?_
        refine then_i (run_S (n := 3) (As := [.int a, .int (nI 0), .int (nI 2)]) (rest := []) C0 (qC_isWithin hn) gw207 gw205 gw206 gw1 (by decide +kernel) ⟨Nat.le_of_ble_eq_true rfl, Nat.le_of_ble_eq_true rfl⟩ rfl rfl ⟨Nat.le_of_ble_eq_true rfl, Nat.le_of_ble_eq_true rfl⟩ hP rfl hl.1 rfl (Nat.le_of_ble_eq_true rfl) dC_refine_41) hS hA (fun r6 f5 H locs hq41 hP hS => ?_)
        obtain ⟨er6, ef5⟩ := hq41
        subst er6
        rw [ef5] at hP
        refine lv_if_eq (tgt := 66) hx hb dC_refine_44 (by decide) (fun c44 => ?_) (fun c44 => ?_)
        · have c44 : (q_in a (nI 0) (nI 2)) = false := kb_0.mp c44
          exact thr (text := "no such relation") (names := ["java/lang/RuntimeException", "java/lang/Exception"]) C0 hst hX hno hP hS hl.1 (by decide +kernel) (by decide +kernel) gw208 gw11 rfl (by decide +kernel) gx_IllegalArgumentException (vo_c rfl rfl go_IllegalArgumentException) dC_refine_66 dC_refine_69 dC_refine_70 dC_refine_72 dC_refine_75 (Nat.le_of_ble_eq_true rfl) (Nat.le_of_ble_eq_true rfl) (Nat.le_of_ble_eq_true rfl) (Nat.le_of_ble_eq_true rfl) (Or.inl ⟨rfl, by unfold q_rf; rw [c4, c13, show nI 2 + nI 0 = nI 2 from rfl, c44]; first | rfl | (cases q_in a (nI 0) (nI 2) <;> first | rfl | (cases q_in b (nI 0) (nI 2) <;> rfl))⟩)
        · have c44 : (q_in a (nI 0) (nI 2)) = true := kb_t.mp c44
          refine lv_iload hx hb dC_refine_47 (lv_at hl 5 rfl) ?_
          refine lv_iconst (v := nI 0) hx hb dC_refine_49 (by decide) ?_
          refine lv_iload hx hb dC_refine_50 (lv_at hl 0 rfl) ?_
          refine then_i (run_S (n := 3) (As := [.int b, .int (nI 0), .int (nI 2)]) (rest := []) C0 (qC_isWithin hn) gw207 gw205 gw206 gw1 (by decide +kernel) ⟨Nat.le_of_ble_eq_true rfl, Nat.le_of_ble_eq_true rfl⟩ rfl rfl ⟨Nat.le_of_ble_eq_true rfl, Nat.le_of_ble_eq_true rfl⟩ hP rfl hl.1 rfl (Nat.le_of_ble_eq_true rfl) dC_refine_52) hS hA (fun r8 f7 H locs hq52 hP hS => ?_)
          obtain ⟨er8, ef7⟩ := hq52
          subst er8
          rw [ef7] at hP
          refine lv_if_eq (tgt := 66) hx hb dC_refine_55 (by decide) (fun c55 => ?_) (fun c55 => ?_)
          · have c55 : (q_in b (nI 0) (nI 2)) = false := kb_0.mp c55
            exact thr (text := "no such relation") (names := ["java/lang/RuntimeException", "java/lang/Exception"]) C0 hst hX hno hP hS hl.1 (by decide +kernel) (by decide +kernel) gw208 gw11 rfl (by decide +kernel) gx_IllegalArgumentException (vo_c rfl rfl go_IllegalArgumentException) dC_refine_66 dC_refine_69 dC_refine_70 dC_refine_72 dC_refine_75 (Nat.le_of_ble_eq_true rfl) (Nat.le_of_ble_eq_true rfl) (Nat.le_of_ble_eq_true rfl) (Nat.le_of_ble_eq_true rfl) (Or.inl ⟨rfl, by unfold q_rf; rw [c4, c13, show nI 2 + nI 0 = nI 2 from rfl, c44, c55]; first | rfl | (cases q_in a (nI 0) (nI 2) <;> first | rfl | (cases q_in b (nI 0) (nI 2) <;> rfl))⟩)
          · have c55 : (q_in b (nI 0) (nI 2)) = true := kb_t.mp c55
            refine lv_iload hx hb dC_refine_58 (lv_at hl 6 rfl) ?_
            refine then_i (run_S (n := 1) (As := [.int k]) (rest := []) C0 (qC_isDifference hn) gw280 gw278 gw279 gw1 (by decide +kernel) ⟨Nat.le_of_ble_eq_true rfl, Nat.le_of_ble_eq_true rfl⟩ rfl rfl ⟨Nat.le_of_ble_eq_true rfl, Nat.le_of_ble_eq_true rfl⟩ hP rfl hl.1 rfl (Nat.le_of_ble_eq_true rfl) dC_refine_60) hS hA (fun r10 f9 H locs hq60 hP hS => ?_)
            obtain ⟨er10, ef9⟩ := hq60
            subst er10
            rw [ef9] at hP
            refine lv_if_ne (tgt := 76) hx hb dC_refine_63 (by decide) (fun c63 => ?_) (fun c63 => ?_)
            · have c63 : (q_df k) = true := kb_t.mp c63
              refine lv_iload_n hx hb dC_refine_76 rfl (lv_at hl 3 rfl) ?_
              refine lv_if_ne (tgt := 92) hx hb dC_refine_77 (by decide) (fun c77 => absurd nI_0 c77) (fun c77 => ?_)
              refine lv_aload_n hx hb dC_refine_80 rfl (lv_at hl 1 rfl) ?_
              refine mm_get (v := .ref fa) hx hb hg inC hown hK hP hcL hc rfl 0 (by decide) (hg _ gw183) (fun _ h9 => h9) rfl dC_refine_81 ?_
              refine lv_iload_n hx hb dC_refine_84 rfl (lv_at hl 2 rfl) ?_
              refine mm_aldq hx hb hK hP hF.1.1 hF.1.2 (vp_in_nI (show i < 4 by omega) (by omega)) (q := (fn i)) (by rw [nI_clamp (by omega)]) dC_refine_85 ?_
              refine mm_getN (v := .ref (dr i)) hx hb hg inF hown hK hP (hF.2 i hi4).1.1 (hF.2 i hi4).1.2 rfl 0 (by decide) (va_Nw.use rfl (hN _ nx151)) (fun _ h9 => h9) rfl dC_refine_86 ?_
              refine lv_goto (tgt := 101) hx hb dC_refine_89 (by decide) ?_
              refine lv_astore (lv' := [(7, .ref (dr i)), (6, .int (nI 2)), (0, .ref cc), (1, .int (nI i)), (2, .int (nI 0)), (3, .int a), (4, .int b), (5, .int k)]) hx hb dC_refine_101 hl (by decide) rfl (fun ls hl => ?_)
              refine lv_aload hx hb dC_refine_103 (lv_at hl 0 rfl) ?_
              refine mm_getN (v := .int (nI (rn σ (2 * i)))) hx hb hg inR hown hK hP (hF.2 i hi4).2.1.1.1 (hF.2 i hi4).2.1.2.1 rfl 3 (by decide) (va_Nw.use rfl (hN _ nx107)) (fun _ h9 => h9) rfl dC_refine_105 ?_
              refine lv_iconst (v := nI 4) hx hb dC_refine_108 (by decide) ?_
              refine lv_icmp_lt (tgt := 122) hx hb dC_refine_109 (by decide) (fun c109 => ?_) (fun c109 => ?_)
              · refine lv_aload hx hb dC_refine_122 (lv_at hl 0 rfl) ?_
                refine lv_iload_n hx hb dC_refine_124 rfl (lv_at hl 5 rfl) ?_
                refine lv_iload hx hb dC_refine_125 (lv_at hl 6 rfl) ?_
                refine lv_iload hx hb dC_refine_127 (lv_at hl 7 rfl) ?_
                refine then_i (run_VN (n := 3) (As := [.int a, .int b, .int k]) (rest := []) C0 (r_append hn (hF.2 i hi4).2.1.1.1 (hF.2 i hi4).2.1.1.2.1 (hF.2 i hi4).2.1.1.2.2.1 (hF.2 i hi4).2.1.1.2.2.2 (hF.2 i hi4).2.1.2.1 (hF.2 i hi4).2.1.2.2.1 (hF.2 i hi4).2.1.2.2.2.1 (hF.2 i hi4).2.1.2.2.2.2.1 (nI_ltf (by have := (hF.2 i hi4).2.1.2.2.2.2.2.1; omega) (by omega) |>.mp c109) (hD.2.2.2.1 (2 * i) (2 * i) (by omega) (by omega)).1 (hD.2.2.2.1 (2 * i) (2 * i) (by omega) (by omega)).2.1 (hD.2.2.2.1 (2 * i) (2 * i) (by omega) (by omega)).2.2) gw301 nx298 gw300 gsR_append gw5 (by decide +kernel) ⟨Nat.le_of_ble_eq_true rfl, Nat.le_of_ble_eq_true rfl⟩ rfl rfl ⟨Nat.le_of_ble_eq_true rfl, Nat.le_of_ble_eq_true rfl⟩ hP (hF.2 i hi4).2.1.1.1 (hF.2 i hi4).2.1.2.1 rfl rfl rfl hl.1 rfl (Nat.le_of_ble_eq_true rfl) dC_refine_129) hS hA (fun r12 f11 H locs hq129 hP hS => ?_)
                obtain ⟨k0, k1, k2, k3, k4, k5⟩ := hq129
                refine retx_i C0 hP hS ⟨by unfold q_rf; rw [c4, c13, show nI 2 + nI 0 = nI 2 from rfl, c44, c55, c63]; rfl, fun j kd hj hkd h1 h2 => ?_⟩ dC_refine_132
                obtain rfl : i = j := (nI_eq (by omega) (by omega)).mp (hxi.symm.trans hj)
                obtain rfl : 0 = kd := (nI_eq (by omega) (by omega)).mp hkd
                have hNr := nI_ltf (by have := (hF.2 i hi4).2.1.2.2.2.2.2.1; omega) (by omega) |>.mp c109
                have na := q_in_nt (by omega) c44
                have nb := q_in_nt (by omega) c55
                have nk := q_df_int c63
                refine ⟨hNr, k0, hF.refine hD hi4 (kd := 0) (by omega) hNr ⟨na.1, by omega⟩ ⟨nb.1, by omega⟩ ⟨by omega, by omega⟩ (ro := dr i) rfl k1 k2 k3 k4 k5, fun z z1 z2 z3 z4 z5 => k5 z z1 z3 z4 z5⟩
              · exact thr (text := "no room for a relation more") (names := ["java/lang/RuntimeException", "java/lang/Exception"]) C0 hst hX hno hP hS hl.1 (by decide +kernel) (by decide +kernel) gw282 gw12 rfl (by decide +kernel) gx_IllegalStateException (vo_c rfl rfl go_IllegalStateException) dC_refine_112 dC_refine_115 dC_refine_116 dC_refine_118 dC_refine_121 (Nat.le_of_ble_eq_true rfl) (Nat.le_of_ble_eq_true rfl) (Nat.le_of_ble_eq_true rfl) (Nat.le_of_ble_eq_true rfl) (Or.inr ⟨rfl, by unfold q_rf; rw [c4, c13, show nI 2 + nI 0 = nI 2 from rfl, c44, c55, c63]; rfl, fun j kd hj hkd h1 h2 => by obtain rfl : i = j := (nI_eq (by omega) (by omega)).mp (hxi.symm.trans hj); obtain rfl : 0 = kd := (nI_eq (by omega) (by omega)).mp hkd; intro h9; exact c109 ((nI_ltf (Nat.lt_trans h9 (by omega)) (by omega)).mpr h9)⟩)
            · have c63 : (q_df k) = false := kb_0.mp c63
              exact thr (text := "no such relation") (names := ["java/lang/RuntimeException", "java/lang/Exception"]) C0 hst hX hno hP hS hl.1 (by decide +kernel) (by decide +kernel) gw208 gw11 rfl (by decide +kernel) gx_IllegalArgumentException (vo_c rfl rfl go_IllegalArgumentException) dC_refine_66 dC_refine_69 dC_refine_70 dC_refine_72 dC_refine_75 (Nat.le_of_ble_eq_true rfl) (Nat.le_of_ble_eq_true rfl) (Nat.le_of_ble_eq_true rfl) (Nat.le_of_ble_eq_true rfl) (Or.inl ⟨rfl, by unfold q_rf; rw [c4, c13, show nI 2 + nI 0 = nI 2 from rfl, c44, c55, c63]; first | rfl | (cases q_in a (nI 0) (nI 2) <;> first | rfl | (cases q_in b (nI 0) (nI 2) <;> rfl))⟩)
      · subst hk9
        have hl : lv_has ls 8 [(0, .ref cc), (1, .int (nI i)), (2, .int (nI 1)), (3, .int a), (4, .int b), (5, .int k)] := by rw [← hxi]; exact hl
        refine lv_iload_n hx hb dC_refine_26 rfl (lv_at hl 2 rfl) ?_
        refine lv_if_ne (tgt := 34) hx hb dC_refine_27 (by decide) (fun c27 => ?_) (fun c27 => absurd c27 (by decide +kernel))
        refine lv_iconst (v := nI 3) hx hb dC_refine_34 (by decide) ?_
        refine lv_istore (lv' := [(6, .int (nI 3)), (0, .ref cc), (1, .int (nI i)), (2, .int (nI 1)), (3, .int a), (4, .int b), (5, .int k)]) hx hb dC_refine_35 hl (by decide) rfl (fun ls hl => ?_)
        refine lv_iload_n hx hb dC_refine_37 rfl (lv_at hl 4 rfl) ?_
        refine lv_iconst (v := nI 0) hx hb dC_refine_38 (by decide) ?_
        refine lv_iload hx hb dC_refine_39 (lv_at hl 0 rfl) ?_
        refine then_i (run_S (n := 3) (As := [.int a, .int (nI 0), .int (nI 3)]) (rest := []) C0 (qC_isWithin hn) gw207 gw205 gw206 gw1 (by decide +kernel) ⟨Nat.le_of_ble_eq_true rfl, Nat.le_of_ble_eq_true rfl⟩ rfl rfl ⟨Nat.le_of_ble_eq_true rfl, Nat.le_of_ble_eq_true rfl⟩ hP rfl hl.1 rfl (Nat.le_of_ble_eq_true rfl) dC_refine_41) hS hA (fun r14 f13 H locs hq41 hP hS => ?_)
        obtain ⟨er14, ef13⟩ := hq41
        subst er14
        rw [ef13] at hP
        refine lv_if_eq (tgt := 66) hx hb dC_refine_44 (by decide) (fun c44 => ?_) (fun c44 => ?_)
        · have c44 : (q_in a (nI 0) (nI 3)) = false := kb_0.mp c44
          exact thr (text := "no such relation") (names := ["java/lang/RuntimeException", "java/lang/Exception"]) C0 hst hX hno hP hS hl.1 (by decide +kernel) (by decide +kernel) gw208 gw11 rfl (by decide +kernel) gx_IllegalArgumentException (vo_c rfl rfl go_IllegalArgumentException) dC_refine_66 dC_refine_69 dC_refine_70 dC_refine_72 dC_refine_75 (Nat.le_of_ble_eq_true rfl) (Nat.le_of_ble_eq_true rfl) (Nat.le_of_ble_eq_true rfl) (Nat.le_of_ble_eq_true rfl) (Or.inl ⟨rfl, by unfold q_rf; rw [c4, c13, show nI 2 + nI 1 = nI 3 from rfl, c44]; first | rfl | (cases q_in a (nI 0) (nI 3) <;> first | rfl | (cases q_in b (nI 0) (nI 3) <;> rfl))⟩)
        · have c44 : (q_in a (nI 0) (nI 3)) = true := kb_t.mp c44
          refine lv_iload hx hb dC_refine_47 (lv_at hl 5 rfl) ?_
          refine lv_iconst (v := nI 0) hx hb dC_refine_49 (by decide) ?_
          refine lv_iload hx hb dC_refine_50 (lv_at hl 0 rfl) ?_
          refine then_i (run_S (n := 3) (As := [.int b, .int (nI 0), .int (nI 3)]) (rest := []) C0 (qC_isWithin hn) gw207 gw205 gw206 gw1 (by decide +kernel) ⟨Nat.le_of_ble_eq_true rfl, Nat.le_of_ble_eq_true rfl⟩ rfl rfl ⟨Nat.le_of_ble_eq_true rfl, Nat.le_of_ble_eq_true rfl⟩ hP rfl hl.1 rfl (Nat.le_of_ble_eq_true rfl) dC_refine_52) hS hA (fun r16 f15 H locs hq52 hP hS => ?_)
          obtain ⟨er16, ef15⟩ := hq52
          subst er16
          rw [ef15] at hP
          refine lv_if_eq (tgt := 66) hx hb dC_refine_55 (by decide) (fun c55 => ?_) (fun c55 => ?_)
          · have c55 : (q_in b (nI 0) (nI 3)) = false := kb_0.mp c55
            exact thr (text := "no such relation") (names := ["java/lang/RuntimeException", "java/lang/Exception"]) C0 hst hX hno hP hS hl.1 (by decide +kernel) (by decide +kernel) gw208 gw11 rfl (by decide +kernel) gx_IllegalArgumentException (vo_c rfl rfl go_IllegalArgumentException) dC_refine_66 dC_refine_69 dC_refine_70 dC_refine_72 dC_refine_75 (Nat.le_of_ble_eq_true rfl) (Nat.le_of_ble_eq_true rfl) (Nat.le_of_ble_eq_true rfl) (Nat.le_of_ble_eq_true rfl) (Or.inl ⟨rfl, by unfold q_rf; rw [c4, c13, show nI 2 + nI 1 = nI 3 from rfl, c44, c55]; first | rfl | (cases q_in a (nI 0) (nI 3) <;> first | rfl | (cases q_in b (nI 0) (nI 3) <;> rfl))⟩)
          · have c55 : (q_in b (nI 0) (nI 3)) = true := kb_t.mp c55
            refine lv_iload hx hb dC_refine_58 (lv_at hl 6 rfl) ?_
            refine then_i (run_S (n := 1) (As := [.int k]) (rest := []) C0 (qC_isDifference hn) gw280 gw278 gw279 gw1 (by decide +kernel) ⟨Nat.le_of_ble_eq_true rfl, Nat.le_of_ble_eq_true rfl⟩ rfl rfl ⟨Nat.le_of_ble_eq_true rfl, Nat.le_of_ble_eq_true rfl⟩ hP rfl hl.1 rfl (Nat.le_of_ble_eq_true rfl) dC_refine_60) hS hA (fun r18 f17 H locs hq60 hP hS => ?_)
            obtain ⟨er18, ef17⟩ := hq60
            subst er18
            rw [ef17] at hP
            refine lv_if_ne (tgt := 76) hx hb dC_refine_63 (by decide) (fun c63 => ?_) (fun c63 => ?_)
            · have c63 : (q_df k) = true := kb_t.mp c63
              refine lv_iload_n hx hb dC_refine_76 rfl (lv_at hl 3 rfl) ?_
              refine lv_if_ne (tgt := 92) hx hb dC_refine_77 (by decide) (fun c77 => ?_) (fun c77 => absurd c77 (by decide +kernel))
              refine lv_aload_n hx hb dC_refine_92 rfl (lv_at hl 1 rfl) ?_
              refine mm_get (v := .ref fa) hx hb hg inC hown hK hP hcL hc rfl 0 (by decide) (hg _ gw183) (fun _ h9 => h9) rfl dC_refine_93 ?_
              refine lv_iload_n hx hb dC_refine_96 rfl (lv_at hl 2 rfl) ?_
              refine mm_aldq hx hb hK hP hF.1.1 hF.1.2 (vp_in_nI (show i < 4 by omega) (by omega)) (q := (fn i)) (by rw [nI_clamp (by omega)]) dC_refine_97 ?_
              refine mm_getN (v := .ref (pr i)) hx hb hg inF hown hK hP (hF.2 i hi4).1.1 (hF.2 i hi4).1.2 rfl 1 (by decide) (va_Nw.use rfl (hN _ nx154)) (fun _ h9 => h9) rfl dC_refine_98 ?_
              refine lv_astore (lv' := [(7, .ref (pr i)), (6, .int (nI 3)), (0, .ref cc), (1, .int (nI i)), (2, .int (nI 1)), (3, .int a), (4, .int b), (5, .int k)]) hx hb dC_refine_101 hl (by decide) rfl (fun ls hl => ?_)
              refine lv_aload hx hb dC_refine_103 (lv_at hl 0 rfl) ?_
              refine mm_getN (v := .int (nI (rn σ (2 * i + 1)))) hx hb hg inR hown hK hP (hF.2 i hi4).2.2.1.1.1 (hF.2 i hi4).2.2.1.2.1 rfl 3 (by decide) (va_Nw.use rfl (hN _ nx107)) (fun _ h9 => h9) rfl dC_refine_105 ?_
              refine lv_iconst (v := nI 4) hx hb dC_refine_108 (by decide) ?_
              refine lv_icmp_lt (tgt := 122) hx hb dC_refine_109 (by decide) (fun c109 => ?_) (fun c109 => ?_)
              · refine lv_aload hx hb dC_refine_122 (lv_at hl 0 rfl) ?_
                refine lv_iload_n hx hb dC_refine_124 rfl (lv_at hl 5 rfl) ?_
                refine lv_iload hx hb dC_refine_125 (lv_at hl 6 rfl) ?_
                refine lv_iload hx hb dC_refine_127 (lv_at hl 7 rfl) ?_
                refine then_i (run_VN (n := 3) (As := [.int a, .int b, .int k]) (rest := []) C0 (r_append hn (hF.2 i hi4).2.2.1.1.1 (hF.2 i hi4).2.2.1.1.2.1 (hF.2 i hi4).2.2.1.1.2.2.1 (hF.2 i hi4).2.2.1.1.2.2.2 (hF.2 i hi4).2.2.1.2.1 (hF.2 i hi4).2.2.1.2.2.1 (hF.2 i hi4).2.2.1.2.2.2.1 (hF.2 i hi4).2.2.1.2.2.2.2.1 (nI_ltf (by have := (hF.2 i hi4).2.2.1.2.2.2.2.2.1; omega) (by omega) |>.mp c109) (hD.2.2.2.1 (2 * i + 1) (2 * i + 1) (by omega) (by omega)).1 (hD.2.2.2.1 (2 * i + 1) (2 * i + 1) (by omega) (by omega)).2.1 (hD.2.2.2.1 (2 * i + 1) (2 * i + 1) (by omega) (by omega)).2.2) gw301 nx298 gw300 gsR_append gw5 (by decide +kernel) ⟨Nat.le_of_ble_eq_true rfl, Nat.le_of_ble_eq_true rfl⟩ rfl rfl ⟨Nat.le_of_ble_eq_true rfl, Nat.le_of_ble_eq_true rfl⟩ hP (hF.2 i hi4).2.2.1.1.1 (hF.2 i hi4).2.2.1.2.1 rfl rfl rfl hl.1 rfl (Nat.le_of_ble_eq_true rfl) dC_refine_129) hS hA (fun r20 f19 H locs hq129 hP hS => ?_)
                obtain ⟨k0, k1, k2, k3, k4, k5⟩ := hq129
                refine retx_i C0 hP hS ⟨by unfold q_rf; rw [c4, c13, show nI 2 + nI 1 = nI 3 from rfl, c44, c55, c63]; rfl, fun j kd hj hkd h1 h2 => ?_⟩ dC_refine_132
                obtain rfl : i = j := (nI_eq (by omega) (by omega)).mp (hxi.symm.trans hj)
                obtain rfl : 1 = kd := (nI_eq (by omega) (by omega)).mp hkd
                have hNr := nI_ltf (by have := (hF.2 i hi4).2.2.1.2.2.2.2.2.1; omega) (by omega) |>.mp c109
                have na := q_in_nt (by omega) c44
                have nb := q_in_nt (by omega) c55
                have nk := q_df_int c63
                refine ⟨hNr, k0, hF.refine hD hi4 (kd := 1) (by omega) hNr ⟨na.1, by omega⟩ ⟨nb.1, by omega⟩ ⟨by omega, by omega⟩ (ro := pr i) rfl k1 k2 k3 k4 k5, fun z z1 z2 z3 z4 z5 => k5 z z2 z3 z4 z5⟩
              · exact thr (text := "no room for a relation more") (names := ["java/lang/RuntimeException", "java/lang/Exception"]) C0 hst hX hno hP hS hl.1 (by decide +kernel) (by decide +kernel) gw282 gw12 rfl (by decide +kernel) gx_IllegalStateException (vo_c rfl rfl go_IllegalStateException) dC_refine_112 dC_refine_115 dC_refine_116 dC_refine_118 dC_refine_121 (Nat.le_of_ble_eq_true rfl) (Nat.le_of_ble_eq_true rfl) (Nat.le_of_ble_eq_true rfl) (Nat.le_of_ble_eq_true rfl) (Or.inr ⟨rfl, by unfold q_rf; rw [c4, c13, show nI 2 + nI 1 = nI 3 from rfl, c44, c55, c63]; rfl, fun j kd hj hkd h1 h2 => by obtain rfl : i = j := (nI_eq (by omega) (by omega)).mp (hxi.symm.trans hj); obtain rfl : 1 = kd := (nI_eq (by omega) (by omega)).mp hkd; intro h9; exact c109 ((nI_ltf (Nat.lt_trans h9 (by omega)) (by omega)).mpr h9)⟩)
            · have c63 : (q_df k) = false := kb_0.mp c63
              exact thr (text := "no such relation") (names := ["java/lang/RuntimeException", "java/lang/Exception"]) C0 hst hX hno hP hS hl.1 (by decide +kernel) (by decide +kernel) gw208 gw11 rfl (by decide +kernel) gx_IllegalArgumentException (vo_c rfl rfl go_IllegalArgumentException) dC_refine_66 dC_refine_69 dC_refine_70 dC_refine_72 dC_refine_75 (Nat.le_of_ble_eq_true rfl) (Nat.le_of_ble_eq_true rfl) (Nat.le_of_ble_eq_true rfl) (Nat.le_of_ble_eq_true rfl) (Or.inl ⟨rfl, by unfold q_rf; rw [c4, c13, show nI 2 + nI 1 = nI 3 from rfl, c44, c55, c63]; first | rfl | (cases q_in a (nI 0) (nI 3) <;> first | rfl | (cases q_in b (nI 0) (nI 3) <;> rfl))⟩)
    · have c13 : (q_in kind (nI 0) (nI 1)) = false := kb_0.mp c13
      exact thr (text := "no such function or kind") (names := ["java/lang/RuntimeException", "java/lang/Exception"]) C0 hst hX hno hP hS hl.1 (by decide +kernel) (by decide +kernel) gw208 gw11 rfl (by decide +kernel) gx_IllegalArgumentException (vo_c rfl rfl go_IllegalArgumentException) dC_refine_16 dC_refine_19 dC_refine_20 dC_refine_22 dC_refine_25 (Nat.le_of_ble_eq_true rfl) (Nat.le_of_ble_eq_true rfl) (Nat.le_of_ble_eq_true rfl) (Nat.le_of_ble_eq_true rfl) (Or.inl ⟨rfl, by unfold q_rf; rw [c13]; cases q_fn x <;> rfl⟩)
