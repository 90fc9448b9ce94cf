/-! The law's calls: the class answers, the model answers, the answers are one. -/
theorem meth_imp {l : Launch} {y : MethodName} {ws : List Cond} {rm : Room} {D : va_G} {tys : List (ClassId × FieldType)} {L : List Nat} {f : Nat → va_E} {sAd : Nat → Nat} {av : List Value} {post post' : Int32 → (Nat → va_E) → Prop} (h : MetH l y ws rm D tys L f sAd av post) (hi : ∀ r f', post r f' → post' r f') : MetH l y ws rm D tys L f sAd av post' := met_imp h (fun a s o t ⟨⟨r, u, h1, h2, h3⟩, h4⟩ => ⟨⟨r, u, h1, hi r u h2, h3⟩, h4⟩)
def CI (tys : List (ClassId × FieldType)) (L : List Nat) (f : Nat → va_E) (cc fa ww kk kkb wk wkb wa wp : Nat) (wq wqb : Nat → Nat) (fn dr pr sA oA ra rb rk : Nat → Nat) (sq : Nat → Nat → Nat) (oi ni : Nat → Nat) (gv : Nat → Int32) (go : Nat → Nat → Int32) (σ : Sg) : Prop := FnsAt tys L f fa fn dr pr sA oA ra rb rk sq oi ni gv go σ ∧ WTy tys L f ww wk wkb wa wp wq wqb ∧ KnAny tys f kk kkb ∧ f cc = .inr (5, [.ref fa, .ref ww, .ref kk])
/-- what never changes: where the cells lie -/
def Stc (L Lc : List Nat) (t0 : List (ClassId × FieldType)) (f0 : Nat → va_E) (cc fa ww kk kkb wk wkb wa wp : Nat) (wq wqb : Nat → Nat) (fn dr pr sA oA ra rb rk : Nat → Nat) (sq : Nat → Nat → Nat) (mo ap cm : Nat) (ad : Nat → Nat) (ot : Nat) : Prop :=
  L.Nodup ∧ (∀ z ∈ Lc, z ∈ L) ∧ (FnsAt t0 Lc f0 fa fn dr pr sA oA ra rb rk sq (fun _ => 0) (fun _ => 0) (fun _ => nI 0) (fun _ _ => 0) sg0 ∧ WTy t0 Lc f0 ww wk wkb wa wp wq wqb ∧ cc ∈ Lc ∧ kk ∈ Lc ∧ kkb ∈ Lc) ∧ FnsD fn dr pr sA oA ra rb rk sq ∧ (∀ i, i < 4 → oA i ≠ wp) ∧ ((wk ≠ kk ∧ wkb ≠ kkb) ∧ ∀ j, j < 6 → wq j ≠ kk ∧ wqb j ≠ kkb) ∧ (mo ∉ Lc ∧ ap ∉ Lc ∧ cm ∉ Lc ∧ ∀ k, k < 16 → ad k ∉ Lc) ∧ (∀ i j, i < 16 → j < 16 → i ≠ j → ad i ≠ ad j) ∧ (ot ∈ L ∧ ot ∉ Lc ∧ ot ≠ mo ∧ ot ≠ ap ∧ ot ≠ cm ∧ ∀ k, k < 16 → ot ≠ ad k)
def Inv (tys : List (ClassId × FieldType)) (L : List Nat) (f : Nat → va_E) (cc fa ww kk kkb wk wkb wa wp : Nat) (wq wqb : Nat → Nat) (fn dr pr sA oA ra rb rk : Nat → Nat) (sq : Nat → Nat → Nat) (mo ap cm : Nat) (ad : Nat → Nat) (ot : Nat) (th : Int32) : Prop := ∃ σ oi ni gv go G, CI tys L f cc fa ww kk kkb wk wkb wa wp wq wqb fn dr pr sA oA ra rb rk sq oi ni gv go σ ∧ MdI tys L f mo ap cm ad G th ∧ (∃ g, mm_J tys f ot 1 g) ∧ Tie σ G oi ni gv go
def Fin (tys : List (ClassId × FieldType)) (L : List Nat) (cc fa ww kk kkb wk wkb wa wp : Nat) (wq wqb : Nat → Nat) (fn dr pr sA oA ra rb rk : Nat → Nat) (sq : Nat → Nat → Nat) (mo ap cm : Nat) (ad : Nat → Nat) (ot : Nat) (k r : Int32) (f : Nat → va_E) : Prop := Inv tys L f cc fa ww kk kkb wk wkb wa wp wq wqb fn dr pr sA oA ra rb rk sq mo ap cm ad ot k ∧ ∃ g, mm_J tys f ot 1 g ∧ (k = nI 0 → g 0 = r.toInt64)
section LW
variable {l : Launch} {D : va_G} {tys : List (ClassId × FieldType)} {L Lc : List Nat} {t0 : List (ClassId × FieldType)} {f f0 f' : Nat → va_E} {sAd : Nat → Nat}
variable {cc fa ww kk kkb wk wkb wa wp : Nat} {wq wqb : Nat → Nat} {fn dr pr sA oA ra rb rk : Nat → Nat} {sq : Nat → Nat → Nat}
variable {mo ap cm : Nat} {ad : Nat → Nat} {ot : Nat}
variable {oi ni : Nat → Nat} {gv : Nat → Int32} {go : Nat → Nat → Int32} {σ : Sg} {G : Nat → Nat → Int32} {th : Int32}
/-- a cell that no change of a function touches -/
def NoF (tys : List (ClassId × FieldType)) (f : Nat → va_E) (wp z : Nat) : Prop := (∀ ci fs, f z = .inr (ci, fs) → ci = 1 ∨ ci = 4 ∨ ci = 5) ∧ ∀ n g, mm_I tys f z n g → n = 144 ∨ (n = 6 ∧ z = wp)
theorem noF_O {z ci : Nat} {fs : List Value} (h : f z = .inr (ci, fs)) (hc : ci = 1 ∨ ci = 4 ∨ ci = 5) : NoF tys f wp z := ⟨fun c2 fs2 e => by rw [h] at e; cases e; exact hc, fun n g hI => absurd rfl (mm_IO hI h)⟩
theorem noF_I {z n : Nat} {g : Nat → Int32} (h : mm_I tys f z n g) (hc : n = 144 ∨ (n = 6 ∧ z = wp)) : NoF tys f wp z := ⟨fun c2 fs2 e => absurd rfl (mm_IO h e), fun n2 g2 hI => by
  obtain ⟨c1, e1, -⟩ := h
  obtain ⟨c2, e2, -⟩ := hI
  rw [e1] at e2
  cases e2
  exact hc⟩
theorem noF_Q {z n : Nat} {C : String} {g : Nat → Option Nat} (h : mm_Q tys C f z n g) : NoF tys f wp z := ⟨fun c2 fs2 e => absurd e (mm_Qno h), fun n2 g2 hI => absurd rfl (mm_IQ hI h)⟩
theorem NoF.ne {z x : Nat} {ci : Nat} {fs : List Value} (h : NoF tys f wp z) (hx : f x = .inr (ci, fs)) (hc : ci = 0 ∨ ci = 2 ∨ ci = 3) : z ≠ x := by
  rintro rfl
  have := h.1 _ _ hx
  omega
theorem NoF.neI {z x n : Nat} {g : Nat → Int32} (h : NoF tys f wp z) (hx : mm_I tys f x n g) (hc : n = 4 ∨ (n = 6 ∧ x ≠ wp)) : z ≠ x := by
  rintro rfl
  have := h.2 _ _ hx
  omega
theorem ci_keepF (h : CI tys L f cc fa ww kk kkb wk wkb wa wp wq wqb fn dr pr sA oA ra rb rk sq oi ni gv go σ) (hs : ∀ z, NoF tys f wp z → f' z = f z) : WTy tys L f' ww wk wkb wa wp wq wqb ∧ KnAny tys f' kk kkb ∧ f' cc = .inr (5, [.ref fa, .ref ww, .ref kk]) := by
  obtain ⟨-, hW, hk, hc⟩ := h
  obtain ⟨⟨a1, a2, a3, a4, a5, a6⟩, ⟨x3, x4, x5, x6, x7, x8, x9, x10, b1⟩, ⟨⟨pv, b2⟩, gb, b2b⟩, wpl, b3⟩ := id hW
  obtain ⟨⟨pk, k1⟩, gk, k2⟩ := id hk
  refine ⟨hW.keepE (hs _ (noF_O b1 (by omega))) (hs _ (noF_O b2 (by omega))) (hs _ (noF_I b2b (by omega))) (hs _ (noF_Q a2)) (hs _ (noF_I b3 (by omega))) (fun j hj => ?_), hk.eq (hs _ (noF_O k1 (by omega))) (hs _ (noF_I k2 (by omega))), (hs _ (noF_O hc (by omega))).trans hc⟩
  obtain ⟨⟨pj, c1⟩, gj, c2⟩ := a6 j hj
  exact ⟨hs _ (noF_O c1 (by omega)), hs _ (noF_I c2 (by omega))⟩
theorem ci_keepL (hT : Stc L Lc t0 f0 cc fa ww kk kkb wk wkb wa wp wq wqb fn dr pr sA oA ra rb rk sq mo ap cm ad ot) (h : CI tys L f cc fa ww kk kkb wk wkb wa wp wq wqb fn dr pr sA oA ra rb rk sq oi ni gv go σ) (hs : ∀ z ∈ Lc, f' z = f z) : CI tys L f' cc fa ww kk kkb wk wkb wa wp wq wqb fn dr pr sA oA ra rb rk sq oi ni gv go σ := by
  obtain ⟨-, -, ⟨q1, q2, q3, q4, q5⟩, -⟩ := hT
  obtain ⟨hF, hW, hk, hc⟩ := h
  obtain ⟨⟨⟨w1, w2, w3, w4, w5⟩, -, w6, -⟩, -⟩ := q2
  exact ⟨q1.keepL hF hs, hW.keepE (hs _ w1) (hs _ w2) (hs _ w3) (hs _ w4) (hs _ w5) (fun j hj => ⟨hs _ (w6 j hj).1, hs _ (w6 j hj).2⟩), hk.eq (hs _ q4) (hs _ q5), (hs _ q3).trans hc⟩
theorem md_keepL (hT : Stc L Lc t0 f0 cc fa ww kk kkb wk wkb wa wp wq wqb fn dr pr sA oA ra rb rk sq mo ap cm ad ot) (h : MdI tys L f mo ap cm ad G th) (hs : ∀ z, z ∉ Lc → z ≠ ot → f' z = f z) : MdI tys L f' mo ap cm ad G th := by
  obtain ⟨-, -, -, -, -, -, ⟨n1, n2, n3, n4⟩, -, ⟨o0, o1, o2, o3, o4, o5⟩⟩ := hT
  exact h.keepA (hs _ n1 (Ne.symm o2)) (hs _ n2 (Ne.symm o3)) (hs _ n3 (Ne.symm o4)) (fun k hk => hs _ (n4 k hk) (Ne.symm (o5 k hk)))
/-- behind the class's call and the row out: the class's cells as told, all else as it was -/
theorem mid_out (hT : Stc L Lc t0 f0 cc fa ww kk kkb wk wkb wa wp wq wqb fn dr pr sA oA ra rb rk sq mo ap cm ad ot) {f3 : Nat → va_E} {g : Nat → Int64} {v : Int64} (hC : CI tys L f3 cc fa ww kk kkb wk wkb wa wp wq wqb fn dr pr sA oA ra rb rk sq oi ni gv go σ) (hM : MdI tys L f mo ap cm ad G th) (hJ : mm_J tys f3 ot 1 g) (hs : ∀ z, z ∉ Lc → f3 z = f z) : CI tys L (mm_sj f3 ot (vp_updL g 0 v)) cc fa ww kk kkb wk wkb wa wp wq wqb fn dr pr sA oA ra rb rk sq oi ni gv go σ ∧ MdI tys L (mm_sj f3 ot (vp_updL g 0 v)) mo ap cm ad G th ∧ ∃ g2, mm_J tys (mm_sj f3 ot (vp_updL g 0 v)) ot 1 g2 ∧ g2 0 = v := by
  have o1 : ot ∉ Lc := hT.2.2.2.2.2.2.2.2.2.1
  refine ⟨ci_keepL hT hC (fun z hz => mm_sj_ne (fun e => o1 (e ▸ hz))), md_keepL hT hM (fun z h1 h2 => by rw [mm_sj_ne h2]; exact hs z h1), _, hJ.set, ?_⟩
  unfold vp_updL
  rw [if_pos rfl]
/-- behind the model's call -/
theorem fin_of (hT : Stc L Lc t0 f0 cc fa ww kk kkb wk wkb wa wp wq wqb fn dr pr sA oA ra rb rk sq mo ap cm ad ot) (hC : CI tys L f cc fa ww kk kkb wk wkb wa wp wq wqb fn dr pr sA oA ra rb rk sq oi ni gv go σ) {k r : Int32} {g : Nat → Int64} (hJ : mm_J tys f ot 1 g) (hM : MdI tys L f' mo ap cm ad G k) (hS : SmA f f' mo ap cm ad) (hTie : Tie σ G oi ni gv go) (hr : k = nI 0 → g 0 = r.toInt64) : Fin tys L cc fa ww kk kkb wk wkb wa wp wq wqb fn dr pr sA oA ra rb rk sq mo ap cm ad ot k r f' := by
  obtain ⟨-, -, -, -, -, -, ⟨n1, n2, n3, n4⟩, -, ⟨o0, o1, o2, o3, o4, o5⟩⟩ := id hT
  have hs : ∀ z ∈ Lc, f' z = f z := fun z hz => hS z (fun e => n1 (e ▸ hz)) (fun e => n2 (e ▸ hz)) (fun e => n3 (e ▸ hz)) (fun k hk e => n4 k hk (e ▸ hz))
  have hJ2 : mm_J tys f' ot 1 g := hJ.eq (hS ot o2 o3 o4 o5)
  exact ⟨⟨σ, oi, ni, gv, go, G, ci_keepL hT hC hs, hM, ⟨g, hJ2⟩, hTie⟩, g, hJ2, hr⟩
theorem mdI_obj (h : MdI tys L f mo ap cm ad G th) : mo ∈ L ∧ ∃ fs, f mo = .inr (6, fs) := by
  obtain ⟨fe, me, fu, le, en, sp, ka, kc, mx, se, gc, k1, k2, k3, k4⟩ := h
  exact ⟨k4.1.1.1, _, k4.2.1⟩
theorem wreg_Lc {tys : List (ClassId × FieldType)} {Lc : List Nat} {f : Nat → va_E} (h : WTy tys Lc f ww wk wkb wa wp wq wqb) {z : Nat} (hz : z ∉ Lc) : ¬ WReg ww wk wkb wp wq wqb z := by
  obtain ⟨⟨⟨w1, w2, w3, w4, w5⟩, -, w6, -⟩, -⟩ := h
  rintro (e | e | e | e | ⟨j, hj, e | e⟩)
  · exact hz (e ▸ w1)
  · exact hz (e ▸ w2)
  · exact hz (e ▸ w3)
  · exact hz (e ▸ w5)
  · exact hz (e ▸ (w6 j hj).1)
  · exact hz (e ▸ (w6 j hj).2)
/-- a walk was made: the class's cells stand -/
theorem ci_fr (hT : Stc L Lc t0 f0 cc fa ww kk kkb wk wkb wa wp wq wqb fn dr pr sA oA ra rb rk sq mo ap cm ad ot) (h : CI tys L f cc fa ww kk kkb wk wkb wa wp wq wqb fn dr pr sA oA ra rb rk sq oi ni gv go σ) (hW : WTy tys L f' ww wk wkb wa wp wq wqb) (hF : FnsAt tys L f' fa fn dr pr sA oA ra rb rk sq oi ni gv go σ) (hs : Fr ww wk wkb wp wq wqb f f') : CI tys L f' cc fa ww kk kkb wk wkb wa wp wq wqb fn dr pr sA oA ra rb rk sq oi ni gv go σ := by
  obtain ⟨hn, hLL, ⟨q1, q2, q3, q4, q5⟩, hDs, hop, ⟨hkw, hkq⟩, -⟩ := hT
  obtain ⟨-, hW0, hk, hc⟩ := h
  have e1 : f' cc = f cc := hs _ (hW0.notO hc (by decide) (by decide))
  obtain ⟨⟨pk, k1⟩, gk, k2⟩ := id hk
  obtain ⟨⟨a1, a2, a3, a4, a5, a6⟩, ⟨x3, x4, x5, x6, x7, x8, x9, x10, b1⟩, ⟨⟨pv, b2⟩, gb, b2b⟩, wpl, b3⟩ := id hW0
  have n1 : ¬ WReg ww wk wkb wp wq wqb kk := by
    rintro (e | e | e | e | ⟨j, hj, e | e⟩)
    · exact mm_OO k1 b1 (by decide) e
    · exact hkw.1 e.symm
    · exact mm_IO b2b k1 e
    · exact mm_IO b3 k1 e
    · exact (hkq j hj).1 e.symm
    · obtain ⟨-, gj, c2⟩ := a6 j hj
      exact mm_IO c2 k1 e
  have n2 : ¬ WReg ww wk wkb wp wq wqb kkb := by
    rintro (e | e | e | e | ⟨j, hj, e | e⟩)
    · exact mm_IO k2 b1 e.symm
    · exact mm_IO k2 b2 e.symm
    · exact hkw.2 e.symm
    · exact mm_II k2 b3 (by decide) e
    · obtain ⟨⟨pj, c1⟩, -⟩ := a6 j hj
      exact mm_IO k2 c1 e.symm
    · exact (hkq j hj).2 e.symm
  exact ⟨hF, hW, hk.eq (hs _ n1) (hs _ n2), e1.trans hc⟩
set_option maxRecDepth 100000 in
set_option maxHeartbeats 4000000 in
theorem law_check (hst : l.stackTraces = false) (hT : Stc L Lc t0 f0 cc fa ww kk kkb wk wkb wa wp wq wqb fn dr pr sA oA ra rb rk sq mo ap cm ad ot) (hI : Inv tys L f cc fa ww kk kkb wk wkb wa wp wq wqb fn dr pr sA oA ra rb rk sq mo ap cm ad ot th) {x : Int32} : ∃ mid : Int32 → (Nat → va_E) → Prop, MetH l yL_check wL_check ({ frames := 7, cells := 1, slots := 6, locals := 173 } : Room) D tys L f sAd [.ref cc, .int x, .ref ot] mid ∧ ∀ k9 f1, mid k9 f1 → (mo ∈ L ∧ ∃ fs, f1 mo = .inr (6, fs)) ∧ MetI l yM_check wM_check ({ frames := 6, cells := 0, slots := 0, locals := 148 } : Room) D tys L f1 [.ref mo, .int x] (Fin tys L cc fa ww kk kkb wk wkb wa wp wq wqb fn dr pr sA oA ra rb rk sq mo ap cm ad ot k9) := by
  obtain ⟨σ, oi, ni, gv, go, G, hC, hM, ⟨g0, hJ⟩, hTie⟩ := hI
  obtain ⟨hn, hLL, ⟨q1, q2, q3, q4, q5⟩, hDs, hop, ⟨hkw, hkq⟩, ⟨n1, n2, n3, n4⟩, hinj, ⟨o0, o1, o2, o3, o4, o5⟩⟩ := id hT
  have hO := hTie.ok
  have hF := hC.1
  have hcL := hLL _ q3
  refine ⟨fun k f1 => (k = nI 0 ∧ q_fn x = true ∧ (CI tys L f1 cc fa ww kk kkb wk wkb wa wp wq wqb fn dr pr sA oA ra rb rk sq oi ni gv go σ) ∧ MdI tys L f1 mo ap cm ad G th ∧ ∃ g v, mm_J tys f1 ot 1 g ∧ g 0 = Int32.toInt64 v ∧ ∀ i, x = nI i → i < 4 → ∃ wpl, v = (th_run σ i (-1) 0 0 64 (th_o σ i) (th_c σ i wpl)).lu) ∨ (k = nI 1 ∧ q_fn x = false ∧ f1 = f), ?_, ?_⟩
  · refine meth_imp (h_check hn hcL hC.2.2.2 o0 (c_check hn hst hF hcL hC.2.2.2 hC.2.1 hop hO.2.1 (fun i hi => (hO.2.2.2 i hi).2.1)) (fun r f3 hp => ?_) (fun E h9 => h9.1)) (fun k f1 h9 => ?_)
    · obtain ⟨i, hi, e⟩ := q_fn_nI hp.1
      exact ⟨g0, hJ.eq ((hp.2 i e hi).2.2.2 ot (wreg_Lc q2 o1))⟩
    · rcases h9 with ⟨rfl, v, f3, g, hp, hJ3, rfl⟩ | ⟨rfl, h8, rfl⟩
      · obtain ⟨i, hi, e⟩ := q_fn_nI hp.1
        obtain ⟨hv, w1, w2, w3⟩ := hp.2 i e hi
        have hC3 := ci_fr hT hC w1 w2 w3
        obtain ⟨m1, m2, g2, m3, m4⟩ := mid_out (v := v.toInt64) hT hC3 hM hJ3 (fun z hz => w3 z (wreg_Lc q2 hz))
        exact Or.inl ⟨rfl, hp.1, m1, m2, g2, v, m3, m4, fun i2 e2 h2 => (hp.2 i2 e2 h2).1⟩
      · exact Or.inr ⟨rfl, h8.2, rfl⟩
  · intro k f1 h9
    rcases h9 with ⟨rfl, hq, hC1, hM1, g, v, hJ1, hg, hv⟩ | ⟨rfl, hq, rfl⟩
    · refine ⟨mdI_obj hM1, meti_imp (m_check hn hO hM1) (fun r f2 ⟨t, k1, k2, k3⟩ => ?_)⟩
      rcases k3 with ⟨k3, k4⟩ | ⟨-, k4, k5⟩
      · rw [hq] at k3; cases k3
      · obtain ⟨i, hi, e⟩ := q_fn_nI hq
        subst k4
        refine fin_of hT hC1 hJ1 k1 (SmA.of3 k2) hTie (fun _ => ?_)
        obtain ⟨wpl, hw⟩ := hv i e hi
        obtain ⟨ka, kc, gc, me, K0, a1, a2, a3⟩ := k5 i e hi
        rw [hg, hw, a3, (same_walk (ap := -1) (sp := -1) (a := 0) (b := 0) (ka := ka) (kc := kc) (wpl := wpl) (gc := gc) (me := me) (K0 := K0) hO.2.1 hi (hO.2.2.2 i hi).2.1 (by omega) (by omega) a1.1 a2.1).1]
    · refine ⟨mdI_obj hM, meti_imp (m_check hn hO hM) (fun r f2 ⟨t, k1, k2, k3⟩ => ?_)⟩
      rcases k3 with ⟨k3, k4⟩ | ⟨k3, -⟩
      · subst k4
        exact fin_of hT hC hJ k1 (SmA.of3 k2) hTie (fun z => absurd z (by decide +kernel))
      · rw [hq] at k3; cases k3
set_option maxRecDepth 100000 in
set_option maxHeartbeats 4000000 in
theorem law_ways (hst : l.stackTraces = false) (hT : Stc L Lc t0 f0 cc fa ww kk kkb wk wkb wa wp wq wqb fn dr pr sA oA ra rb rk sq mo ap cm ad ot) (hI : Inv tys L f cc fa ww kk kkb wk wkb wa wp wq wqb fn dr pr sA oA ra rb rk sq mo ap cm ad ot th) {x : Int32} : ∃ mid : Int32 → (Nat → va_E) → Prop, MetH l yL_ways wL_ways ({ frames := 7, cells := 1, slots := 6, locals := 173 } : Room) D tys L f sAd [.ref cc, .int x, .ref ot] mid ∧ ∀ k9 f1, mid k9 f1 → (mo ∈ L ∧ ∃ fs, f1 mo = .inr (6, fs)) ∧ MetI l yM_ways wM_ways ({ frames := 6, cells := 0, slots := 0, locals := 148 } : Room) D tys L f1 [.ref mo, .int x] (Fin tys L cc fa ww kk kkb wk wkb wa wp wq wqb fn dr pr sA oA ra rb rk sq mo ap cm ad ot k9) := by
  obtain ⟨σ, oi, ni, gv, go, G, hC, hM, ⟨g0, hJ⟩, hTie⟩ := hI
  obtain ⟨hn, hLL, ⟨q1, q2, q3, q4, q5⟩, hDs, hop, ⟨hkw, hkq⟩, ⟨n1, n2, n3, n4⟩, hinj, ⟨o0, o1, o2, o3, o4, o5⟩⟩ := id hT
  have hO := hTie.ok
  have hF := hC.1
  have hcL := hLL _ q3
  refine ⟨fun k f1 => (k = nI 0 ∧ q_fn x = true ∧ (CI tys L f1 cc fa ww kk kkb wk wkb wa wp wq wqb fn dr pr sA oA ra rb rk sq oi ni gv go σ) ∧ MdI tys L f1 mo ap cm ad G th ∧ ∃ g v, mm_J tys f1 ot 1 g ∧ g 0 = Int32.toInt64 v ∧ ∀ i, x = nI i → i < 4 → ∃ wpl, v = nI (th_run σ i (-1) 0 0 64 (th_o σ i) (th_c σ i wpl)).en) ∨ (k = nI 1 ∧ q_fn x = false ∧ f1 = f), ?_, ?_⟩
  · refine meth_imp (h_ways hn hcL hC.2.2.2 o0 (c_ways hn hst hF hcL hC.2.2.2 hC.2.1 hop hO.2.1 (fun i hi => (hO.2.2.2 i hi).2.1)) (fun r f3 hp => ?_) (fun E h9 => h9.1)) (fun k f1 h9 => ?_)
    · obtain ⟨i, hi, e⟩ := q_fn_nI hp.1
      exact ⟨g0, hJ.eq ((hp.2 i e hi).2.2.2 ot (wreg_Lc q2 o1))⟩
    · rcases h9 with ⟨rfl, v, f3, g, hp, hJ3, rfl⟩ | ⟨rfl, h8, rfl⟩
      · obtain ⟨i, hi, e⟩ := q_fn_nI hp.1
        obtain ⟨hv, w1, w2, w3⟩ := hp.2 i e hi
        have hC3 := ci_fr hT hC w1 w2 w3
        obtain ⟨m1, m2, g2, m3, m4⟩ := mid_out (v := v.toInt64) hT hC3 hM hJ3 (fun z hz => w3 z (wreg_Lc q2 hz))
        exact Or.inl ⟨rfl, hp.1, m1, m2, g2, v, m3, m4, fun i2 e2 h2 => (hp.2 i2 e2 h2).1⟩
      · exact Or.inr ⟨rfl, h8.2, rfl⟩
  · intro k f1 h9
    rcases h9 with ⟨rfl, hq, hC1, hM1, g, v, hJ1, hg, hv⟩ | ⟨rfl, hq, rfl⟩
    · refine ⟨mdI_obj hM1, meti_imp (m_ways hn hO hM1) (fun r f2 ⟨t, k1, k2, k3⟩ => ?_)⟩
      rcases k3 with ⟨k3, k4⟩ | ⟨-, k4, k5⟩
      · rw [hq] at k3; cases k3
      · obtain ⟨i, hi, e⟩ := q_fn_nI hq
        subst k4
        refine fin_of hT hC1 hJ1 k1 (SmA.of3 k2) hTie (fun _ => ?_)
        obtain ⟨wpl, hw⟩ := hv i e hi
        obtain ⟨ka, kc, gc, me, K0, a1, a2, a3⟩ := k5 i e hi
        rw [hg, hw, a3, (same_walk (ap := -1) (sp := -1) (a := 0) (b := 0) (ka := ka) (kc := kc) (wpl := wpl) (gc := gc) (me := me) (K0 := K0) hO.2.1 hi (hO.2.2.2 i hi).2.1 (by omega) (by omega) a1.1 a2.1).2.1]
    · refine ⟨mdI_obj hM, meti_imp (m_ways hn hO hM) (fun r f2 ⟨t, k1, k2, k3⟩ => ?_)⟩
      rcases k3 with ⟨k3, k4⟩ | ⟨k3, -⟩
      · subst k4
        exact fin_of hT hC hJ k1 (SmA.of3 k2) hTie (fun z => absurd z (by decide +kernel))
      · rw [hq] at k3; cases k3
theorem np_false {x y : Int32} (h16 : ∀ i, i < 4 → sz σ i ≤ 16) (h : m_np σ x y = false) : ∃ i p, i < 4 ∧ p ≤ sz σ i ∧ x = nI i ∧ y = nI p := by
  unfold m_np at h
  rw [Bool.or_eq_false_iff] at h
  obtain ⟨i, hi, e⟩ := q_fn_nI (nb_f h.1)
  have h2 := nb_f h.2
  rw [e, nt_nI (by omega)] at h2
  obtain ⟨p, hp, ep⟩ := q_in_nI (by have := h16 i hi; omega) h2
  exact ⟨i, p, hi, hp, e, ep⟩
theorem enc_32 {o : Option Int} (h : bnd o) (hn : o ≠ none) : (encL o).toInt32 = encI o := by
  cases o with
  | none => exact absurd rfl hn
  | some d =>
    have := h d rfl
    apply Int32.toInt_inj.mp
    show (Int64.ofInt d).toInt32.toInt = (Int32.ofInt d).toInt
    rw [Int64.toInt_toInt32, i64_of (d := d) (by omega), i32_of (d := d) (by omega)]
    exact Int.bmod_eq_of_le (by omega) (by omega)
set_option maxRecDepth 100000 in
set_option maxHeartbeats 4000000 in
theorem law_comes (hst : l.stackTraces = false) (hT : Stc L Lc t0 f0 cc fa ww kk kkb wk wkb wa wp wq wqb fn dr pr sA oA ra rb rk sq mo ap cm ad ot) (hI : Inv tys L f cc fa ww kk kkb wk wkb wa wp wq wqb fn dr pr sA oA ra rb rk sq mo ap cm ad ot th) {x y : Int32} : ∃ mid : Int32 → (Nat → va_E) → Prop, MetH l yL_comes wL_comes ({ frames := 7, cells := 1, slots := 6, locals := 174 } : Room) D tys L f sAd [.ref cc, .int x, .int y, .ref ot] mid ∧ ∀ k9 f1, mid k9 f1 → (mo ∈ L ∧ ∃ fs, f1 mo = .inr (6, fs)) ∧ MetI l yM_comes wM_comes ({ frames := 6, cells := 0, slots := 0, locals := 148 } : Room) D tys L f1 [.ref mo, .int x, .int y] (Fin tys L cc fa ww kk kkb wk wkb wa wp wq wqb fn dr pr sA oA ra rb rk sq mo ap cm ad ot k9) := by
  obtain ⟨σ, oi, ni, gv, go, G, hC, hM, ⟨g0, hJ⟩, hTie⟩ := hI
  obtain ⟨hn, hLL, ⟨q1, q2, q3, q4, q5⟩, hDs, hop, ⟨hkw, hkq⟩, ⟨n1, n2, n3, n4⟩, hinj, ⟨o0, o1, o2, o3, o4, o5⟩⟩ := id hT
  have hO := hTie.ok
  have hF := hC.1
  have hcL := hLL _ q3
  refine ⟨fun k f1 => (k = nI 0 ∧ m_np σ x y = false ∧ (CI tys L f1 cc fa ww kk kkb wk wkb wa wp wq wqb fn dr pr sA oA ra rb rk sq oi ni gv go σ) ∧ MdI tys L f1 mo ap cm ad G th ∧ ∃ g v, mm_J tys f1 ot 1 g ∧ g 0 = Int32.toInt64 v ∧ ∀ i p, x = nI i → y = nI p → i < 4 → p ≤ sz σ i → ∃ wpl, v = kb (q_cm (th_run σ i (-1) 0 0 64 (th_o σ i) (th_c σ i wpl)).pm p)) ∨ (k = nI 1 ∧ m_np σ x y = true ∧ f1 = f), ?_, ?_⟩
  · refine meth_imp (h_comes hn hcL hC.2.2.2 o0 (c_comes hn hst hF hcL hC.2.2.2 hC.2.1 hop hO.2.1 (fun i hi => (hO.2.2.2 i hi).2.1)) (fun r f3 hp => ?_) (fun E h9 => h9.1)) (fun k f1 h9 => ?_)
    · obtain ⟨i, hi, e⟩ := q_fn_nI hp.1
      obtain ⟨hy, hp2⟩ := hp.2 i e hi
      obtain ⟨p, hp3, ep⟩ := q_in_nI (by have := (hO.2.2.2 i hi).2.1.1; omega) hy
      exact ⟨g0, hJ.eq ((hp2 p ep hp3).2.2.2 ot (wreg_Lc q2 o1))⟩
    · rcases h9 with ⟨rfl, v, f3, g, hp, hJ3, rfl⟩ | ⟨rfl, h8, rfl⟩
      · obtain ⟨i, hi, e⟩ := q_fn_nI hp.1
        obtain ⟨hy, hp2⟩ := hp.2 i e hi
        obtain ⟨p, hp3, ep⟩ := q_in_nI (by have := (hO.2.2.2 i hi).2.1.1; omega) hy
        obtain ⟨hv, w1, w2, w3⟩ := hp2 p ep hp3
        have hC3 := ci_fr hT hC w1 w2 w3
        obtain ⟨m1, m2, g2, m3, m4⟩ := mid_out (v := v.toInt64) hT hC3 hM hJ3 (fun z hz => w3 z (wreg_Lc q2 hz))
        refine Or.inl ⟨rfl, ?_, m1, m2, g2, v, m3, m4, fun i2 p2 e2 e3 h2 h3 => ((hp.2 i2 e2 h2).2 p2 e3 h3).1⟩
        unfold m_np
        rw [hp.1, e, nt_nI (by omega), hy]
        rfl
      · refine Or.inr ⟨rfl, ?_, rfl⟩
        unfold m_np
        rcases h8.2 with h7 | h7
        · rw [h7]; rfl
        · cases hq : q_fn x with
          | false => rfl
          | true =>
            obtain ⟨i, hi, e⟩ := q_fn_nI hq
            rw [e, nt_nI (by omega), h7 i e hi]
            rfl
  · intro k f1 h9
    rcases h9 with ⟨rfl, hq, hC1, hM1, g, v, hJ1, hg, hv⟩ | ⟨rfl, hq, rfl⟩
    · refine ⟨mdI_obj hM1, meti_imp (m_comes hn hO hM1) (fun r f2 ⟨t, k1, k2, k3⟩ => ?_)⟩
      rcases k3 with ⟨k3, k4⟩ | ⟨-, k4, k5⟩
      · rw [hq] at k3; cases k3
      · obtain ⟨i, p, hi, hp, e, ep⟩ := np_false (fun i hi => (hO.2.2.2 i hi).2.1.1) hq
        subst k4
        refine fin_of hT hC1 hJ1 k1 (SmA.of3 k2) hTie (fun _ => ?_)
        obtain ⟨wpl, hw⟩ := hv i p e ep hi hp
        obtain ⟨ka, kc, gc, me, K0, a1, a2, a3⟩ := k5 i p e ep hi hp
        rw [hg, hw, a3]
        have h16 := (hO.2.2.2 i hi).2.1.1
        rcases (same_walk (ap := -1) (sp := -1) (a := 0) (b := 0) (ka := ka) (kc := kc) (wpl := wpl) (gc := gc) (me := me) (K0 := K0) hO.2.1 hi (hO.2.2.2 i hi).2.1 (by omega) (by omega) a1.1 a2.1).2.2 p (by omega) with ⟨s1, s2⟩ | ⟨s1, s2⟩
        · rw [s1, s2, if_neg (by decide +kernel)]; rfl
        · rw [s1, s2, if_pos nI_0]; rfl
    · refine ⟨mdI_obj hM, meti_imp (m_comes hn hO hM) (fun r f2 ⟨t, k1, k2, k3⟩ => ?_)⟩
      rcases k3 with ⟨k3, k4⟩ | ⟨k3, -⟩
      · subst k4
        exact fin_of hT hC hJ k1 (SmA.of3 k2) hTie (fun z => absurd z (by decide +kernel))
      · rw [hq] at k3; cases k3
set_option maxRecDepth 100000 in
set_option maxHeartbeats 4000000 in
theorem law_most (hst : l.stackTraces = false) (hT : Stc L Lc t0 f0 cc fa ww kk kkb wk wkb wa wp wq wqb fn dr pr sA oA ra rb rk sq mo ap cm ad ot) (hI : Inv tys L f cc fa ww kk kkb wk wkb wa wp wq wqb fn dr pr sA oA ra rb rk sq mo ap cm ad ot th) {x y a b : Int32} : ∃ mid : Int32 → (Nat → va_E) → Prop, MetH l yL_most wL_most ({ frames := 7, cells := 1, slots := 6, locals := 176 } : Room) D tys L f sAd [.ref cc, .int x, .int y, .int a, .int b, .ref ot] mid ∧ ∀ k9 f1, mid k9 f1 → (mo ∈ L ∧ ∃ fs, f1 mo = .inr (6, fs)) ∧ MetI l yM_most wM_most ({ frames := 6, cells := 0, slots := 0, locals := 148 } : Room) D tys L f1 [.ref mo, .int x, .int y, .int a, .int b] (Fin tys L cc fa ww kk kkb wk wkb wa wp wq wqb fn dr pr sA oA ra rb rk sq mo ap cm ad ot k9) := by
  obtain ⟨σ, oi, ni, gv, go, G, hC, hM, ⟨g0, hJ⟩, hTie⟩ := hI
  obtain ⟨hn, hLL, ⟨q1, q2, q3, q4, q5⟩, hDs, hop, ⟨hkw, hkq⟩, ⟨n1, n2, n3, n4⟩, hinj, ⟨o0, o1, o2, o3, o4, o5⟩⟩ := id hT
  have hO := hTie.ok
  have hF := hC.1
  have hcL := hLL _ q3
  refine ⟨fun k f1 => (k = nI 0 ∧ (m_np σ x y = false ∧ q_us a = true ∧ q_us b = true) ∧ (CI tys L f1 cc fa ww kk kkb wk wkb wa wp wq wqb fn dr pr sA oA ra rb rk sq oi ni gv go σ) ∧ MdI tys L f1 mo ap cm ad G th ∧ ∃ g v, mm_J tys f1 ot 1 g ∧ g 0 = Int32.toInt64 v ∧ ∀ i pl, x = nI i → y = nI pl → i < 4 → pl ≤ sz σ i → ∃ wpl, q_cm (th_run σ i (nI pl) (nt a) (nt b) 64 (th_o σ i) (th_c σ i wpl)).pm pl = true ∧ (th_run σ i (nI pl) (nt a) (nt b) 64 (th_o σ i) (th_c σ i wpl)).gr ≠ 1000000 ∧ v = (th_run σ i (nI pl) (nt a) (nt b) 64 (th_o σ i) (th_c σ i wpl)).gr) ∨ (k = nI 1 ∧ (m_np σ x y = true ∨ q_us a = false ∨ q_us b = false) ∧ f1 = f) ∨ (k = nI 2 ∧ (m_np σ x y = false ∧ q_us a = true ∧ q_us b = true) ∧ (CI tys L f1 cc fa ww kk kkb wk wkb wa wp wq wqb fn dr pr sA oA ra rb rk sq oi ni gv go σ) ∧ MdI tys L f1 mo ap cm ad G th ∧ (∃ g, mm_J tys f1 ot 1 g) ∧ ∀ i pl, x = nI i → y = nI pl → i < 4 → pl ≤ sz σ i → ∃ wpl, q_cm (th_run σ i (nI pl) (nt a) (nt b) 64 (th_o σ i) (th_c σ i wpl)).pm pl = false) ∨ (k = nI 3 ∧ (m_np σ x y = false ∧ q_us a = true ∧ q_us b = true) ∧ (CI tys L f1 cc fa ww kk kkb wk wkb wa wp wq wqb fn dr pr sA oA ra rb rk sq oi ni gv go σ) ∧ MdI tys L f1 mo ap cm ad G th ∧ (∃ g, mm_J tys f1 ot 1 g) ∧ ∀ i pl, x = nI i → y = nI pl → i < 4 → pl ≤ sz σ i → ∃ wpl, q_cm (th_run σ i (nI pl) (nt a) (nt b) 64 (th_o σ i) (th_c σ i wpl)).pm pl = true ∧ (th_run σ i (nI pl) (nt a) (nt b) 64 (th_o σ i) (th_c σ i wpl)).gr = 1000000), ?_, ?_⟩
  · refine meth_imp (h_most hn hcL hC.2.2.2 o0 (c_most hn hst hF hcL hC.2.2.2 hC.2.1 hop hO.2.1 (fun i hi => (hO.2.2.2 i hi).2.1)) (fun r f3 hp => ?_) (fun E f3 h9 => ?_)) (fun k f1 h9 => ?_)
    · obtain ⟨i, hi, e⟩ := q_fn_nI hp.1
      obtain ⟨hy, ha, hb, hp2⟩ := hp.2 i e hi
      obtain ⟨p, hp3, ep⟩ := q_in_nI (by have := (hO.2.2.2 i hi).2.1.1; omega) hy
      exact ⟨g0, hJ.eq ((hp2 p ep hp3).2.2.2 ot (wreg_Lc q2 o1))⟩
    · rcases h9 with ⟨h8, -⟩ | ⟨h7, h6⟩
      · exact Or.inl h8
      · obtain ⟨i, hi, e⟩ := q_fn_nI h7
        obtain ⟨hy, ha, hb, hp2⟩ := h6 i e hi
        obtain ⟨p, hp3, ep⟩ := q_in_nI (by have := (hO.2.2.2 i hi).2.1.1; omega) hy
        obtain ⟨⟨wpl, h5⟩, -⟩ := hp2 p ep hp3
        rcases h5 with ⟨h5, -⟩ | ⟨h5, -⟩
        · exact Or.inr (Or.inl h5)
        · exact Or.inr (Or.inr h5)
    · rcases h9 with ⟨rfl, v, f3, g, hp, hJ3, rfl⟩ | ⟨rfl, h8⟩ | ⟨rfl, h8⟩ | ⟨rfl, h8⟩
      · obtain ⟨i, hi, e⟩ := q_fn_nI hp.1
        obtain ⟨hy, ha, hb, hp2⟩ := hp.2 i e hi
        obtain ⟨p, hp3, ep⟩ := q_in_nI (by have := (hO.2.2.2 i hi).2.1.1; omega) hy
        obtain ⟨hv, w1, w2, w3⟩ := hp2 p ep hp3
        have hC3 := ci_fr hT hC w1 w2 w3
        obtain ⟨m1, m2, g2, m3, m4⟩ := mid_out (v := v.toInt64) hT hC3 hM hJ3 (fun z hz => w3 z (wreg_Lc q2 hz))
        refine Or.inl ⟨rfl, ⟨?_, ha, hb⟩, m1, m2, g2, v, m3, m4, fun i2 p2 e2 e3 h2 h3 => ((hp.2 i2 e2 h2).2.2.2 p2 e3 h3).1⟩
        unfold m_np
        rw [hp.1, e, nt_nI (by omega), hy]
        rfl
      · rcases h8 with ⟨-, h7, h6⟩ | ⟨h7, h6⟩
        · refine Or.inr (Or.inl ⟨rfl, ?_, h7⟩)
          unfold m_np
          cases hq : q_fn x with
          | false => exact Or.inl rfl
          | true =>
            rcases h6 with h6 | h6
            · rw [hq] at h6; cases h6
            · obtain ⟨i, hi, e⟩ := q_fn_nI hq
              have h5 := h6 i e hi
              rw [e, nt_nI (by omega)]
              revert h5
              cases q_in y (nI 0) (nI (sz σ i)) <;> cases q_us a <;> cases q_us b <;> simp
        · obtain ⟨i, hi, e⟩ := q_fn_nI h7
          obtain ⟨hy, ha, hb, hp2⟩ := h6 i e hi
          obtain ⟨p, hp3, ep⟩ := q_in_nI (by have := (hO.2.2.2 i hi).2.1.1; omega) hy
          obtain ⟨⟨wpl, h5⟩, -⟩ := hp2 p ep hp3
          rcases h5 with ⟨h5, -⟩ | ⟨h5, -⟩ <;> exact absurd h5 (by decide)
      · rcases h8 with ⟨h7, -⟩ | ⟨h7, h6⟩
        · exact absurd h7 (by decide)
        · obtain ⟨i, hi, e⟩ := q_fn_nI h7
          obtain ⟨hy, ha, hb, hp2⟩ := h6 i e hi
          obtain ⟨p, hp3, ep⟩ := q_in_nI (by have := (hO.2.2.2 i hi).2.1.1; omega) hy
          obtain ⟨-, w1, w2, w3⟩ := hp2 p ep hp3
          have hC3 := ci_fr hT hC w1 w2 w3
          refine Or.inr (Or.inr (Or.inl ⟨rfl, ⟨?_, ha, hb⟩, hC3, md_keepL hT hM (fun z hz _ => w3 z (wreg_Lc q2 hz)), ⟨g0, hJ.eq (w3 ot (wreg_Lc q2 o1))⟩, fun i2 p2 e2 e3 h2 h3 => ?_⟩))
          · unfold m_np
            rw [h7, e, nt_nI (by omega), hy]
            rfl
          · obtain ⟨wpl, h5⟩ := ((h6 i2 e2 h2).2.2.2 p2 e3 h3).1
            rcases h5 with ⟨h5, h4⟩ | ⟨h5, h4⟩
            · exact ⟨wpl, h4⟩
            · exact absurd h5 (by decide)
      · rcases h8 with ⟨h7, -⟩ | ⟨h7, h6⟩
        · exact absurd h7 (by decide)
        · obtain ⟨i, hi, e⟩ := q_fn_nI h7
          obtain ⟨hy, ha, hb, hp2⟩ := h6 i e hi
          obtain ⟨p, hp3, ep⟩ := q_in_nI (by have := (hO.2.2.2 i hi).2.1.1; omega) hy
          obtain ⟨-, w1, w2, w3⟩ := hp2 p ep hp3
          have hC3 := ci_fr hT hC w1 w2 w3
          refine Or.inr (Or.inr (Or.inr ⟨rfl, ⟨?_, ha, hb⟩, hC3, md_keepL hT hM (fun z hz _ => w3 z (wreg_Lc q2 hz)), ⟨g0, hJ.eq (w3 ot (wreg_Lc q2 o1))⟩, fun i2 p2 e2 e3 h2 h3 => ?_⟩))
          · unfold m_np
            rw [h7, e, nt_nI (by omega), hy]
            rfl
          · obtain ⟨wpl, h5⟩ := ((h6 i2 e2 h2).2.2.2 p2 e3 h3).1
            rcases h5 with ⟨h5, h4⟩ | ⟨h5, h4⟩
            · exact absurd h5 (by decide)
            · exact ⟨wpl, h4⟩
  · intro k f1 h9
    rcases h9 with ⟨rfl, hq, hC1, hM1, g, v, hJ1, hg, hv⟩ | ⟨rfl, hq, rfl⟩ | ⟨rfl, hq, hC1, hM1, ⟨g, hJ1⟩, hv⟩ | ⟨rfl, hq, hC1, hM1, ⟨g, hJ1⟩, hv⟩
    · refine ⟨mdI_obj hM1, meti_imp (m_most hn hO hM1) (fun r f2 ⟨t, k1, k2, k3⟩ => ?_)⟩
      rcases k3 with ⟨k3, k4⟩ | ⟨-, -, -, k5⟩
      · rw [hq.1, hq.2.1, hq.2.2] at k3
        rcases k3 with k3 | k3 | k3 <;> cases k3
      · obtain ⟨i, p, hi, hp, e, ep⟩ := np_false (fun i hi => (hO.2.2.2 i hi).2.1.1) hq.1
        have h16 := (hO.2.2.2 i hi).2.1.1
        obtain ⟨wpl, hw⟩ := hv i p e ep hi hp
        obtain ⟨gc, me, K0, a3⟩ := k5 i p e ep hi hp
        have sm := same_most (a := nt a) (b := nt b) (pl := p) (wpl := wpl) (gc := gc) (me := me) (K0 := K0) hO.2.1 hi (hO.2.2.2 i hi).2.1 (q_us_nm hq.2.1).2.1 (q_us_nm hq.2.2).2.1 (by omega)
        rcases sm with ⟨s1, s2⟩ | ⟨s1, s2, o, s3, s4, s5⟩
        · rw [s2] at hw; cases hw.1
        · have hno : o ≠ none := fun z => hw.2.1 (by rw [s4, z]; rfl)
          rcases a3 with ⟨a3, -⟩ | ⟨-, a3, -⟩ | ⟨-, -, a4, a5⟩
          · rw [s1] at a3; exact absurd a3 (by decide +kernel)
          · rw [s5] at a3; exact absurd ((encL_far s3).mp a3) hno
          · subst a4
            refine fin_of hT hC1 hJ1 k1 (SmA.of3 k2) hTie (fun _ => ?_)
            rw [hg, hw.2.2, a5, s5, s4, enc_32 s3 hno]
    · refine ⟨mdI_obj hM, meti_imp (m_most hn hO hM) (fun r f2 ⟨t, k1, k2, k3⟩ => ?_)⟩
      rcases k3 with ⟨k3, k4⟩ | ⟨k3, k4, k5, -⟩
      · subst k4
        exact fin_of hT hC hJ k1 (SmA.of3 k2) hTie (fun z => absurd z (by decide +kernel))
      · rw [k3, k4, k5] at hq
        rcases hq with hq | hq | hq <;> cases hq
    · refine ⟨mdI_obj hM1, meti_imp (m_most hn hO hM1) (fun r f2 ⟨t, k1, k2, k3⟩ => ?_)⟩
      rcases k3 with ⟨k3, k4⟩ | ⟨-, -, -, k5⟩
      · rw [hq.1, hq.2.1, hq.2.2] at k3
        rcases k3 with k3 | k3 | k3 <;> cases k3
      · obtain ⟨i, p, hi, hp, e, ep⟩ := np_false (fun i hi => (hO.2.2.2 i hi).2.1.1) hq.1
        have h16 := (hO.2.2.2 i hi).2.1.1
        obtain ⟨wpl, hw⟩ := hv i p e ep hi hp
        obtain ⟨gc, me, K0, a3⟩ := k5 i p e ep hi hp
        have sm := same_most (a := nt a) (b := nt b) (pl := p) (wpl := wpl) (gc := gc) (me := me) (K0 := K0) hO.2.1 hi (hO.2.2.2 i hi).2.1 (q_us_nm hq.2.1).2.1 (q_us_nm hq.2.2).2.1 (by omega)
        rcases sm with ⟨s1, s2⟩ | ⟨s1, s2, o, s3, s4, s5⟩
        · rcases a3 with ⟨-, a4⟩ | ⟨a3, -⟩ | ⟨a3, -⟩
          · subst a4
            exact fin_of hT hC1 hJ1 k1 (SmA.of3 k2) hTie (fun z => absurd z (by decide +kernel))
          · exact absurd (s1.trans nI_0) a3
          · exact absurd (s1.trans nI_0) a3
        · rw [s2] at hw; cases hw
    · refine ⟨mdI_obj hM1, meti_imp (m_most hn hO hM1) (fun r f2 ⟨t, k1, k2, k3⟩ => ?_)⟩
      rcases k3 with ⟨k3, k4⟩ | ⟨-, -, -, k5⟩
      · rw [hq.1, hq.2.1, hq.2.2] at k3
        rcases k3 with k3 | k3 | k3 <;> cases k3
      · obtain ⟨i, p, hi, hp, e, ep⟩ := np_false (fun i hi => (hO.2.2.2 i hi).2.1.1) hq.1
        have h16 := (hO.2.2.2 i hi).2.1.1
        obtain ⟨wpl, hw⟩ := hv i p e ep hi hp
        obtain ⟨gc, me, K0, a3⟩ := k5 i p e ep hi hp
        have sm := same_most (a := nt a) (b := nt b) (pl := p) (wpl := wpl) (gc := gc) (me := me) (K0 := K0) hO.2.1 hi (hO.2.2.2 i hi).2.1 (q_us_nm hq.2.1).2.1 (q_us_nm hq.2.2).2.1 (by omega)
        rcases sm with ⟨s1, s2⟩ | ⟨s1, s2, o, s3, s4, s5⟩
        · rw [s2] at hw; cases hw.1
        · have hno : o = none := encI_inj s3 (fun d hd => by cases hd) (by rw [← s4, hw.2]; rfl)
          rcases a3 with ⟨a3, -⟩ | ⟨-, -, a4⟩ | ⟨-, a3, -⟩
          · rw [s1] at a3; exact absurd a3 (by decide +kernel)
          · subst a4
            exact fin_of hT hC1 hJ1 k1 (SmA.of3 k2) hTie (fun z => absurd z (by decide +kernel))
          · rw [s5, hno] at a3; exact absurd rfl a3
theorem ci_kn (hT : Stc L Lc t0 f0 cc fa ww kk kkb wk wkb wa wp wq wqb fn dr pr sA oA ra rb rk sq mo ap cm ad ot) (h : CI tys L f cc fa ww kk kkb wk wkb wa wp wq wqb fn dr pr sA oA ra rb rk sq oi ni gv go σ) (hk' : KnAny tys f' kk kkb) (hs : Same2 f f' kk kkb) : CI tys L f' cc fa ww kk kkb wk wkb wa wp wq wqb fn dr pr sA oA ra rb rk sq oi ni gv go σ := by
  obtain ⟨hn, hLL, ⟨q1, q2, q3, q4, q5⟩, hDs, hop, ⟨hkw, hkq⟩, -⟩ := hT
  obtain ⟨hF, hW0, hk, hc⟩ := h
  obtain ⟨⟨pk, k1⟩, gk, k2⟩ := id hk
  have kO : ∀ {z ci : Nat} {fs : List Value}, f z = .inr (ci, fs) → ci ≠ 1 → f' z = f z := fun hz h1 => hs _ (mm_OO hz k1 h1) (mm_IO k2 hz)
  have kQ : ∀ {z n : Nat} {C : String} {g : Nat → Option Nat}, mm_Q tys C f z n g → f' z = f z := fun hz => hs _ (Ne.symm (mm_QO hz k1)) (Ne.symm (mm_IQ k2 hz))
  have kI : ∀ {z n : Nat} {g : Nat → Int32}, mm_I tys f z n g → n ≠ 144 → f' z = f z := fun hz h1 => hs _ (Ne.symm (mm_IO hz k1)) (mm_II hz k2 h1)
  obtain ⟨⟨a1, a2, a3, a4, a5, a6⟩, ⟨x3, x4, x5, x6, x7, x8, x9, x10, b1⟩, ⟨⟨pv, b2⟩, gb, b2b⟩, wpl, b3⟩ := id hW0
  refine ⟨?_, hW0.keepE (kO b1 (by decide)) (hs _ hkw.1 (mm_IO k2 b2)) (hs _ (Ne.symm (mm_IO b2b k1)) hkw.2) (kQ a2) (kI b3 (by decide)) (fun j hj => ?_), hk', (kO hc (by decide)).trans hc⟩
  · obtain ⟨⟨c1, c2⟩, c3⟩ := hF
    refine ⟨⟨c1, c2.eq (kQ c2)⟩, fun i hi => ?_⟩
    obtain ⟨⟨d1, d2⟩, d3, d4, ⟨d5, d6⟩, d7, d8, d9, d10⟩ := c3 i hi
    have kR : ∀ {r a b k N : Nat} {ga gb gk : Nat → Int32} {xa xb : Nat → Nat}, RelAt tys L f r a b k N ga gb gk xa xb → RelAt tys L f' r a b k N ga gb gk xa xb := fun h => h.eq (kO h.2.1 (by decide)) (kI h.2.2.1 (by decide)) (kI h.2.2.2.1 (by decide)) (kI h.2.2.2.2.1 (by decide))
    exact ⟨⟨d1, (kO d2 (by decide)).trans d2⟩, kR d3, kR d4, ⟨d5, d6.eq (kQ d6)⟩, d7, fun j hj => (kO (d8 j hj) (by decide)).trans (d8 j hj), d9, d10.eq (kI d10 (by decide))⟩
  · obtain ⟨⟨pj, e1⟩, gj, e2⟩ := a6 j hj
    exact ⟨hs _ (hkq j hj).1 (mm_IO k2 e1), hs _ (Ne.symm (mm_IO e2 k1)) (hkq j hj).2⟩
set_option maxRecDepth 100000 in
set_option maxHeartbeats 4000000 in
theorem law_follows (hst : l.stackTraces = false) (hT : Stc L Lc t0 f0 cc fa ww kk kkb wk wkb wa wp wq wqb fn dr pr sA oA ra rb rk sq mo ap cm ad ot) (hI : Inv tys L f cc fa ww kk kkb wk wkb wa wp wq wqb fn dr pr sA oA ra rb rk sq mo ap cm ad ot th) {x y : Int32} : ∃ mid : Int32 → (Nat → va_E) → Prop, MetH l yL_follows wL_follows ({ frames := 7, cells := 1, slots := 6, locals := 123 } : Room) D tys L f sAd [.ref cc, .int x, .int y, .ref ot] mid ∧ ∀ k9 f1, mid k9 f1 → (mo ∈ L ∧ ∃ fs, f1 mo = .inr (6, fs)) ∧ MetI l yM_follows wM_follows ({ frames := 2, cells := 0, slots := 0, locals := 52 } : Room) D tys L f1 [.ref mo, .int x, .int y] (Fin tys L cc fa ww kk kkb wk wkb wa wp wq wqb fn dr pr sA oA ra rb rk sq mo ap cm ad ot k9) := by
  obtain ⟨σ, oi, ni, gv, go, G, hC, hM, ⟨g0, hJ⟩, hTie⟩ := hI
  obtain ⟨hn, hLL, ⟨q1, q2, q3, q4, q5⟩, hDs, hop, ⟨hkw, hkq⟩, ⟨n1, n2, n3, n4⟩, hinj, ⟨o0, o1, o2, o3, o4, o5⟩⟩ := id hT
  have hO := hTie.ok
  have hF := hC.1
  have hcL := hLL _ q3
  refine ⟨fun k f1 => (k = nI 0 ∧ q_fn x = true ∧ q_fn y = true ∧ (CI tys L f1 cc fa ww kk kkb wk wkb wa wp wq wqb fn dr pr sA oA ra rb rk sq oi ni gv go σ) ∧ MdI tys L f1 mo ap cm ad G th ∧ ∃ g v, mm_J tys f1 ot 1 g ∧ g 0 = Int32.toInt64 v ∧ ∀ i j, x = nI i → y = nI j → i < 4 → j < 4 → v = kb (q_fw σ i j)) ∨ (k = nI 1 ∧ (q_fn x && q_fn y) = false ∧ f1 = f), ?_, ?_⟩
  · refine meth_imp (h_follows hn hcL hC.2.2.2 o0 (c_follows hn hst hF hcL hC.2.2.2 (hLL _ q4) (hLL _ q5) hC.2.2.1 hO.2.1) (fun r f3 hp => ?_) (fun E h9 => h9.1)) (fun k f1 h9 => ?_)
    · exact ⟨g0, hJ.eq (hp.2.2.2.1 ot (fun e => o1 (e ▸ q4)) (fun e => o1 (e ▸ q5)))⟩
    · rcases h9 with ⟨rfl, v, f3, g, hp, hJ3, rfl⟩ | ⟨rfl, h8, rfl⟩
      · obtain ⟨p1, p2, p3, p4, p5⟩ := hp
        have hC3 := ci_kn hT hC p3 p4
        obtain ⟨m1, m2, g2, m3, m4⟩ := mid_out (v := v.toInt64) hT hC3 hM hJ3 (fun z hz => p4 z (fun e => hz (e ▸ q4)) (fun e => hz (e ▸ q5)))
        exact Or.inl ⟨rfl, p1, p2, m1, m2, g2, v, m3, m4, p5⟩
      · exact Or.inr ⟨rfl, h8.2, rfl⟩
  · intro k f1 h9
    rcases h9 with ⟨rfl, hq, hq2, hC1, hM1, g, v, hJ1, hg, hv⟩ | ⟨rfl, hq, rfl⟩
    · refine ⟨mdI_obj hM1, meti_imp (m_follows hn hO hM1) (fun r f2 ⟨t, k1, k2, k3⟩ => ?_)⟩
      rcases k3 with ⟨k3, k4⟩ | ⟨-, -, k4, k5⟩
      · rw [hq, hq2] at k3; cases k3
      · obtain ⟨i, hi, e⟩ := q_fn_nI hq
        obtain ⟨j, hj, e2⟩ := q_fn_nI hq2
        subst k4
        refine fin_of hT hC1 hJ1 k1 (SmA.of3 k2) hTie (fun _ => ?_)
        rw [hg, hv i j e e2 hi hj, k5 i j e e2 hi hj]
    · refine ⟨mdI_obj hM, meti_imp (m_follows hn hO hM) (fun r f2 ⟨t, k1, k2, k3⟩ => ?_)⟩
      rcases k3 with ⟨k3, k4⟩ | ⟨k3, k4, -⟩
      · subst k4
        exact fin_of hT hC hJ k1 (SmA.of3 k2) hTie (fun z => absurd z (by decide +kernel))
      · rw [k3, k4] at hq; cases hq
set_option maxRecDepth 100000 in
set_option maxHeartbeats 4000000 in
theorem law_count (hst : l.stackTraces = false) (hT : Stc L Lc t0 f0 cc fa ww kk kkb wk wkb wa wp wq wqb fn dr pr sA oA ra rb rk sq mo ap cm ad ot) (hI : Inv tys L f cc fa ww kk kkb wk wkb wa wp wq wqb fn dr pr sA oA ra rb rk sq mo ap cm ad ot th) {x y : Int32} : ∃ mid : Int32 → (Nat → va_E) → Prop, MetH l yL_count wL_count ({ frames := 7, cells := 1, slots := 6, locals := 123 } : Room) D tys L f sAd [.ref cc, .int x, .int y, .ref ot] mid ∧ ∀ k9 f1, mid k9 f1 → (mo ∈ L ∧ ∃ fs, f1 mo = .inr (6, fs)) ∧ MetI l yM_count wM_count ({ frames := 2, cells := 0, slots := 0, locals := 42 } : Room) D tys L f1 [.ref mo, .int x, .int y] (Fin tys L cc fa ww kk kkb wk wkb wa wp wq wqb fn dr pr sA oA ra rb rk sq mo ap cm ad ot k9) := by
  obtain ⟨σ, oi, ni, gv, go, G, hC, hM, ⟨g0, hJ⟩, hTie⟩ := hI
  obtain ⟨hn, hLL, ⟨q1, q2, q3, q4, q5⟩, hDs, hop, ⟨hkw, hkq⟩, ⟨n1, n2, n3, n4⟩, hinj, ⟨o0, o1, o2, o3, o4, o5⟩⟩ := id hT
  have hO := hTie.ok
  have hF := hC.1
  have hcL := hLL _ q3
  refine ⟨fun k f1 => (k = nI 0 ∧ q_fn x = true ∧ q_in y (nI 0) (nI 3) = true ∧ (CI tys L f1 cc fa ww kk kkb wk wkb wa wp wq wqb fn dr pr sA oA ra rb rk sq oi ni gv go σ) ∧ MdI tys L f1 mo ap cm ad G th ∧ ∃ g v, mm_J tys f1 ot 1 g ∧ g 0 = Int32.toInt64 v ∧ ∀ i, x = nI i → i < 4 → v = nI (q_ct σ oi i y)) ∨ (k = nI 1 ∧ (q_fn x && q_in y (nI 0) (nI 3)) = false ∧ f1 = f), ?_, ?_⟩
  · refine meth_imp (h_count hn hcL hC.2.2.2 o0 (c_count hn hst hF hcL hC.2.2.2) (fun r f3 hp => ?_) (fun E h9 => h9.1)) (fun k f1 h9 => ?_)
    · exact ⟨g0, by rw [hp.1]; exact hJ⟩
    · rcases h9 with ⟨rfl, v, f3, g, hp, hJ3, rfl⟩ | ⟨rfl, h8, rfl⟩
      · obtain ⟨p1, p2, p3, p4⟩ := hp
        subst p1
        obtain ⟨m1, m2, g2, m3, m4⟩ := mid_out (v := v.toInt64) hT hC hM hJ3 (fun z hz => rfl)
        exact Or.inl ⟨rfl, p2, p3, m1, m2, g2, v, m3, m4, p4⟩
      · exact Or.inr ⟨rfl, h8.2, rfl⟩
  · intro k f1 h9
    have ho : ∀ i, i < 4 → G 15 i = nI (oi i) := fun i hi => (hTie.2.2.2 i hi).2.2.1.2
    rcases h9 with ⟨rfl, hq, hq2, hC1, hM1, g, v, hJ1, hg, hv⟩ | ⟨rfl, hq, rfl⟩
    · refine ⟨mdI_obj hM1, meti_imp (m_count hn ho hO hM1) (fun r f2 ⟨t, k1, k2, k3⟩ => ?_)⟩
      rcases k3 with ⟨k3, k4⟩ | ⟨-, -, k4, k5⟩
      · rw [hq, hq2] at k3; cases k3
      · obtain ⟨i, hi, e⟩ := q_fn_nI hq
        subst k4
        refine fin_of hT hC1 hJ1 k1 (SmA.of3 k2) hTie (fun _ => ?_)
        rw [hg, hv i e hi, k5 i e hi]
    · refine ⟨mdI_obj hM, meti_imp (m_count hn ho hO hM) (fun r f2 ⟨t, k1, k2, k3⟩ => ?_)⟩
      rcases k3 with ⟨k3, k4⟩ | ⟨k3, k4, -⟩
      · subst k4
        exact fin_of hT hC hJ k1 (SmA.of3 k2) hTie (fun z => absurd z (by decide +kernel))
      · rw [k3, k4] at hq; cases hq
set_option maxRecDepth 100000 in
set_option maxHeartbeats 4000000 in
theorem law_clear (hst : l.stackTraces = false) (hT : Stc L Lc t0 f0 cc fa ww kk kkb wk wkb wa wp wq wqb fn dr pr sA oA ra rb rk sq mo ap cm ad ot) (hI : Inv tys L f cc fa ww kk kkb wk wkb wa wp wq wqb fn dr pr sA oA ra rb rk sq mo ap cm ad ot th) {x : Int32} : ∃ mid : Int32 → (Nat → va_E) → Prop, MetH l yL_clear wL_clear ({ frames := 7, cells := 1, slots := 6, locals := 122 } : Room) D tys L f sAd [.ref cc, .int x, .ref ot] mid ∧ ∀ k9 f1, mid k9 f1 → (mo ∈ L ∧ ∃ fs, f1 mo = .inr (6, fs)) ∧ MetI l yM_clear wM_clear ({ frames := 2, cells := 0, slots := 0, locals := 42 } : Room) D tys L f1 [.ref mo, .int x] (Fin tys L cc fa ww kk kkb wk wkb wa wp wq wqb fn dr pr sA oA ra rb rk sq mo ap cm ad ot k9) := by
  obtain ⟨σ, oi, ni, gv, go, G, hC, hM, ⟨g0, hJ⟩, hTie⟩ := hI
  obtain ⟨hn, hLL, ⟨q1, q2, q3, q4, q5⟩, hDs, hop, ⟨hkw, hkq⟩, ⟨n1, n2, n3, n4⟩, hinj, ⟨o0, o1, o2, o3, o4, o5⟩⟩ := id hT
  have hO := hTie.ok
  have hF := hC.1
  have hcL := hLL _ q3
  refine ⟨fun k f1 => (k = nI 0 ∧ ∃ i, i < 4 ∧ x = nI i ∧ (CI tys L f1 cc fa ww kk kkb wk wkb wa wp wq wqb fn dr pr sA oA ra rb rk sq (va_up oi i 0) (va_up ni i 0) (va_up gv i (nI 0)) go (s_clear σ i)) ∧ MdI tys L f1 mo ap cm ad G th ∧ ∃ g, mm_J tys f1 ot 1 g ∧ g 0 = Int32.toInt64 (nI (sz σ i))) ∨ (k = nI 1 ∧ q_fn x = false ∧ f1 = f), ?_, ?_⟩
  · refine meth_imp (h_clear hn hcL hC.2.2.2 o0 (c_clear hn hst hF hcL hC.2.2.2 hDs) (fun r f3 hp => ?_) (fun E h9 => h9.1)) (fun k f1 h9 => ?_)
    · obtain ⟨i, hi, e⟩ := q_fn_nI hp.1
      obtain ⟨-, -, p3⟩ := hp.2 i e hi
      exact ⟨g0, hJ.eq (p3 ot (fun e => o1 (e ▸ (q1.2 i hi).1.1)) (fun e => o1 (e ▸ (q1.2 i hi).2.1.1.1)) (fun e => o1 (e ▸ (q1.2 i hi).2.2.1.1.1)))⟩
    · rcases h9 with ⟨rfl, v, f3, g, hp, hJ3, rfl⟩ | ⟨rfl, h8, rfl⟩
      · obtain ⟨i, hi, e⟩ := q_fn_nI hp.1
        obtain ⟨p1, p2, p3⟩ := hp.2 i e hi
        have hkF := ci_keepF hC (f' := f3) (fun z hz => p3 z (hz.ne (hF.2 i hi).1.2 (by omega)) (hz.ne (hF.2 i hi).2.1.2.1 (by omega)) (hz.ne (hF.2 i hi).2.2.1.2.1 (by omega)))
        obtain ⟨m1, m2, g2, m3, m4⟩ := mid_out (v := v.toInt64) hT (show CI tys L f3 cc fa ww kk kkb wk wkb wa wp wq wqb fn dr pr sA oA ra rb rk sq (va_up oi i 0) (va_up ni i 0) (va_up gv i (nI 0)) go (s_clear σ i) from ⟨p2, hkF⟩) hM hJ3 (fun z hz => p3 z (fun e => hz (e ▸ (q1.2 i hi).1.1)) (fun e => hz (e ▸ (q1.2 i hi).2.1.1.1)) (fun e => hz (e ▸ (q1.2 i hi).2.2.1.1.1)))
        exact Or.inl ⟨rfl, i, hi, e, m1, m2, g2, m3, m4.trans (by rw [p1])⟩
      · exact Or.inr ⟨rfl, h8.2, rfl⟩
  · intro k f1 h9
    rcases h9 with ⟨rfl, i, hi, e, hC1, hM1, g, hJ1, hg⟩ | ⟨rfl, hq, rfl⟩
    · refine ⟨mdI_obj hM1, meti_imp (m_clear hn hinj hO hM1) (fun r f2 ⟨t, k2, k3⟩ => ?_)⟩
      rcases k3 with ⟨k3, -⟩ | ⟨-, k4, k5⟩
      · rw [e] at k3
        rcases (show i = 0 ∨ i = 1 ∨ i = 2 ∨ i = 3 by omega) with c | c | c | c <;> subst c <;> exact absurd k3 (by decide +kernel)
      · obtain ⟨k6, k7⟩ := k5 i e hi
        subst k4
        exact fin_of hT hC1 hJ1 k7 k2 (tie_clear hTie hi) (fun _ => by rw [hg, k6])
    · refine ⟨mdI_obj hM, meti_imp (m_clear hn hinj hO hM) (fun r f2 ⟨t, k2, k3⟩ => ?_)⟩
      rcases k3 with ⟨-, k4, k5⟩ | ⟨k3, -⟩
      · subst k4
        exact fin_of hT hC hJ k5 k2 hTie (fun z => absurd z (by decide +kernel))
      · rw [hq] at k3; cases k3
theorem rf_ij {x kd a b k : Int32} (h : q_rf x kd a b k = true) : ∃ i j, i < 4 ∧ j < 2 ∧ x = nI i ∧ kd = nI j := by
  unfold q_rf at h
  simp only [Bool.and_eq_true] at h
  obtain ⟨i, hi, e⟩ := q_fn_nI h.1.1.1.1
  rcases q_in01 h.1.1.1.2 with e2 | e2
  · exact ⟨i, 0, hi, by omega, e, e2⟩
  · exact ⟨i, 1, hi, by omega, e, e2⟩
theorem rel_in {tys : List (ClassId × FieldType)} {L : List Nat} {f : Nat → va_E} {σ : Sg} (h : FnsAt tys L f fa fn dr pr sA oA ra rb rk sq oi ni gv go σ) {i j : Nat} (hi : i < 4) (hj : j < 2) : ra (2 * i + j) ∈ L ∧ rb (2 * i + j) ∈ L ∧ rk (2 * i + j) ∈ L := by
  rcases (show j = 0 ∨ j = 1 by omega) with c | c <;> subst c
  · exact (h.2 i hi).2.1.1.2
  · exact (h.2 i hi).2.2.1.1.2
theorem rel_I {P : Prop} (h : FnsAt tys L f fa fn dr pr sA oA ra rb rk sq oi ni gv go σ) {i j : Nat} (hi : i < 4) (hj : j < 2) (k : ∀ {g1 g2 g3 : Nat → Int32}, mm_I tys f (ra (2 * i + j)) 4 g1 → mm_I tys f (rb (2 * i + j)) 4 g2 → mm_I tys f (rk (2 * i + j)) 4 g3 → P) : P := by
  rcases (show j = 0 ∨ j = 1 by omega) with c | c <;> subst c
  · exact k (h.2 i hi).2.1.2.2.1 (h.2 i hi).2.1.2.2.2.1 (h.2 i hi).2.1.2.2.2.2.1
  · exact k (h.2 i hi).2.2.1.2.2.1 (h.2 i hi).2.2.1.2.2.2.1 (h.2 i hi).2.2.1.2.2.2.2.1
set_option maxRecDepth 100000 in
set_option maxHeartbeats 4000000 in
theorem law_refine (hst : l.stackTraces = false) (hT : Stc L Lc t0 f0 cc fa ww kk kkb wk wkb wa wp wq wqb fn dr pr sA oA ra rb rk sq mo ap cm ad ot) (hI : Inv tys L f cc fa ww kk kkb wk wkb wa wp wq wqb fn dr pr sA oA ra rb rk sq mo ap cm ad ot th) {x kd a b k : Int32} : ∃ mid : Int32 → (Nat → va_E) → Prop, MetH l yL_refine wL_refine ({ frames := 7, cells := 1, slots := 6, locals := 127 } : Room) D tys L f sAd [.ref cc, .int x, .int kd, .int a, .int b, .int k, .ref ot] mid ∧ ∀ k9 f1, mid k9 f1 → (mo ∈ L ∧ ∃ fs, f1 mo = .inr (6, fs)) ∧ MetI l yM_refine wM_refine ({ frames := 2, cells := 0, slots := 0, locals := 42 } : Room) D tys L f1 [.ref mo, .int x, .int kd, .int a, .int b, .int k] (Fin tys L cc fa ww kk kkb wk wkb wa wp wq wqb fn dr pr sA oA ra rb rk sq mo ap cm ad ot k9) := by
  obtain ⟨σ, oi, ni, gv, go, G, hC, hM, ⟨g0, hJ⟩, hTie⟩ := hI
  obtain ⟨hn, hLL, ⟨q1, q2, q3, q4, q5⟩, hDs, hop, ⟨hkw, hkq⟩, ⟨n1, n2, n3, n4⟩, hinj, ⟨o0, o1, o2, o3, o4, o5⟩⟩ := id hT
  have hO := hTie.ok
  have hF := hC.1
  have hcL := hLL _ q3
  refine ⟨fun k9 f1 => (k9 = nI 0 ∧ q_rf x kd a b k = true ∧ ∃ i j, i < 4 ∧ j < 2 ∧ x = nI i ∧ kd = nI j ∧ rn σ (2 * i + j) < 4 ∧ (CI tys L f1 cc fa ww kk kkb wk wkb wa wp wq wqb fn dr pr sA oA ra rb rk sq oi ni gv go (s_refine σ (2 * i + j) a b k)) ∧ MdI tys L f1 mo ap cm ad G th ∧ ∃ g, mm_J tys f1 ot 1 g ∧ g 0 = Int32.toInt64 (nI (rn σ (2 * i + j) + 1))) ∨ (k9 = nI 1 ∧ q_rf x kd a b k = false ∧ f1 = f) ∨ (k9 = nI 2 ∧ q_rf x kd a b k = true ∧ (∀ i j, x = nI i → kd = nI j → i < 4 → j < 2 → ¬ rn σ (2 * i + j) < 4) ∧ f1 = f), ?_, ?_⟩
  · refine meth_imp (h_refine hn hcL hC.2.2.2 o0 (c_refine hn hst hF hcL hC.2.2.2 hDs) (fun r f3 hp => ?_) (fun E h9 => h9.elim (fun h8 => Or.inl h8.1) (fun h8 => Or.inr h8.1))) (fun k9 f1 h9 => ?_)
    · obtain ⟨i, j, hi, hj, e1, e2⟩ := rf_ij hp.1
      obtain ⟨-, -, -, p3⟩ := hp.2 i j e1 e2 hi hj
      obtain ⟨r1, r2, r3⟩ := rel_in q1 hi hj
      exact ⟨g0, hJ.eq (p3 ot (fun e => o1 (e ▸ (q1.2 i hi).2.1.1.1)) (fun e => o1 (e ▸ (q1.2 i hi).2.2.1.1.1)) (fun e => o1 (e ▸ r1)) (fun e => o1 (e ▸ r2)) (fun e => o1 (e ▸ r3)))⟩
    · rcases h9 with ⟨rfl, v, f3, g, hp, hJ3, rfl⟩ | ⟨rfl, h8, rfl⟩ | ⟨rfl, h8, rfl⟩
      · obtain ⟨i, j, hi, hj, e1, e2⟩ := rf_ij hp.1
        obtain ⟨p0, p1, p2, p3⟩ := hp.2 i j e1 e2 hi hj
        obtain ⟨r1, r2, r3⟩ := rel_in q1 hi hj
        have hkF := ci_keepF hC (f' := f3) (fun z hz => p3 z (hz.ne (hF.2 i hi).2.1.2.1 (by omega)) (hz.ne (hF.2 i hi).2.2.1.2.1 (by omega)) (rel_I hF hi hj (fun h1 _ _ => hz.neI h1 (by omega))) (rel_I hF hi hj (fun _ h1 _ => hz.neI h1 (by omega))) (rel_I hF hi hj (fun _ _ h1 => hz.neI h1 (by omega))))
        obtain ⟨m1, m2, g2, m3, m4⟩ := mid_out (v := v.toInt64) hT (show CI tys L f3 cc fa ww kk kkb wk wkb wa wp wq wqb fn dr pr sA oA ra rb rk sq oi ni gv go (s_refine σ (2 * i + j) a b k) from ⟨p2, hkF⟩) hM hJ3 (fun z hz => p3 z (fun e => hz (e ▸ (q1.2 i hi).2.1.1.1)) (fun e => hz (e ▸ (q1.2 i hi).2.2.1.1.1)) (fun e => hz (e ▸ r1)) (fun e => hz (e ▸ r2)) (fun e => hz (e ▸ r3)))
        exact Or.inl ⟨rfl, hp.1, i, j, hi, hj, e1, e2, p0, m1, m2, g2, m3, m4.trans (by rw [p1])⟩
      · rcases h8 with ⟨-, h8⟩ | ⟨h8, -⟩
        · exact Or.inr (Or.inl ⟨rfl, h8, rfl⟩)
        · exact absurd h8 (by decide)
      · rcases h8 with ⟨h8, -⟩ | ⟨-, h8, h7⟩
        · exact absurd h8 (by decide)
        · exact Or.inr (Or.inr ⟨rfl, h8, h7, rfl⟩)
  · intro k9 f1 h9
    rcases h9 with ⟨rfl, hq, i, j, hi, hj, e1, e2, hr4, hC1, hM1, g, hJ1, hg⟩ | ⟨rfl, hq, rfl⟩ | ⟨rfl, hq, hr4, rfl⟩
    · refine ⟨mdI_obj hM1, meti_imp (m_refine hn hinj hO hM1) (fun r f2 ⟨t, k2, k3⟩ => ?_)⟩
      rcases k3 with ⟨k3, -⟩ | ⟨-, -, -, k3⟩ | ⟨-, k4, k5⟩
      · rw [hq] at k3; cases k3
      · exact absurd hr4 (k3 i j e1 e2 hi hj)
      · obtain ⟨-, k6, k7⟩ := k5 i j e1 e2 hi hj
        subst k4
        exact fin_of hT hC1 hJ1 k7 k2 (tie_refine hTie hq e2 hi hj hr4) (fun _ => by rw [hg, k6])
    · refine ⟨mdI_obj hM, meti_imp (m_refine hn hinj hO hM) (fun r f2 ⟨t, k2, k3⟩ => ?_)⟩
      rcases k3 with ⟨-, k4, k5⟩ | ⟨k3, -⟩ | ⟨k3, -⟩
      · subst k4
        exact fin_of hT hC hJ k5 k2 hTie (fun z => absurd z (by decide +kernel))
      · rw [hq] at k3; cases k3
      · rw [hq] at k3; cases k3
    · refine ⟨mdI_obj hM, meti_imp (m_refine hn hinj hO hM) (fun r f2 ⟨t, k2, k3⟩ => ?_)⟩
      rcases k3 with ⟨k3, -⟩ | ⟨-, k4, k5, -⟩ | ⟨-, -, k5⟩
      · rw [hq] at k3; cases k3
      · subst k4
        exact fin_of hT hC hJ k5 k2 hTie (fun z => absurd z (by decide +kernel))
      · obtain ⟨i, j, hi, hj, e1, e2⟩ := rf_ij hq
        exact absurd (k5 i j e1 e2 hi hj).1 (hr4 i j e1 e2 hi hj)
set_option maxRecDepth 100000 in
set_option maxHeartbeats 4000000 in
theorem law_statement (hst : l.stackTraces = false) (hT : Stc L Lc t0 f0 cc fa ww kk kkb wk wkb wa wp wq wqb fn dr pr sA oA ra rb rk sq mo ap cm ad ot) (hI : Inv tys L f cc fa ww kk kkb wk wkb wa wp wq wqb fn dr pr sA oA ra rb rk sq mo ap cm ad ot th) {x kd a b c k : Int32} : ∃ mid : Int32 → (Nat → va_E) → Prop, MetH l yL_statement wL_statement ({ frames := 7, cells := 1, slots := 6, locals := 127 } : Room) D tys L f sAd [.ref cc, .int x, .int kd, .int a, .int b, .int c, .int k, .ref ot] mid ∧ ∀ k9 f1, mid k9 f1 → (mo ∈ L ∧ ∃ fs, f1 mo = .inr (6, fs)) ∧ MetI l yM_statement wM_statement ({ frames := 3, cells := 0, slots := 0, locals := 68 } : Room) D tys L f1 [.ref mo, .int x, .int kd, .int a, .int b, .int c, .int k] (Fin tys L cc fa ww kk kkb wk wkb wa wp wq wqb fn dr pr sA oA ra rb rk sq mo ap cm ad ot k9) := by
  obtain ⟨σ, oi, ni, gv, go, G, hC, hM, ⟨g0, hJ⟩, hTie⟩ := hI
  obtain ⟨hn, hLL, ⟨q1, q2, q3, q4, q5⟩, hDs, hop, ⟨hkw, hkq⟩, ⟨n1, n2, n3, n4⟩, hinj, ⟨o0, o1, o2, o3, o4, o5⟩⟩ := id hT
  have hO := hTie.ok
  have hF := hC.1
  have hcL := hLL _ q3
  obtain ⟨tt, t0, hOp, hTm, hEq⟩ := hTie.op
  refine ⟨fun k9 f1 => (k9 = nI 0 ∧ q_st kd a b c k = true ∧ ∃ i, i < 4 ∧ x = nI i ∧ q_hw (gv i) kd a b c = true ∧ q_op (oi i) (sk σ (16 * i + tt i)) kd = true ∧ q_rm (sz σ i) (ni i) kd = true ∧ (CI tys L f1 cc fa ww kk kkb wk wkb wa wp wq wqb fn dr pr sA oA ra rb rk sq (va_up oi i (a_oi (oi i) kd)) (va_up ni i (a_ni (ni i) kd)) (va_up gv i (a_gv (gv i) kd a)) (va_up go i (a_go (go i) (oi i) (sz σ i) kd)) (s_stmt σ i (tt i) kd a b c k)) ∧ MdI tys L f1 mo ap cm ad G th ∧ ∃ g, mm_J tys f1 ot 1 g ∧ g 0 = Int32.toInt64 (nI (sz σ i))) ∨ (k9 = nI 1 ∧ (q_fn x && q_st kd a b c k) = false ∧ f1 = f) ∨ (k9 = nI 2 ∧ q_st kd a b c k = true ∧ (∃ i, i < 4 ∧ x = nI i ∧ (q_hw (gv i) kd a b c && q_op (oi i) (sk σ (16 * i + tt i)) kd) = false) ∧ f1 = f) ∨ (k9 = nI 3 ∧ q_st kd a b c k = true ∧ (∃ i, i < 4 ∧ x = nI i ∧ (q_hw (gv i) kd a b c && q_op (oi i) (sk σ (16 * i + tt i)) kd) = true ∧ q_rm (sz σ i) (ni i) kd = false) ∧ f1 = f), ?_, ?_⟩
  · refine meth_imp (h_statement hn hcL hC.2.2.2 o0 (c_statement hn hst hF hcL hC.2.2.2 hDs hOp) (fun r f3 hp => ?_) (fun E h9 => ?_)) (fun k9 f1 h9 => ?_)
    · obtain ⟨i, hi, e⟩ := q_fn_nI hp.1
      obtain ⟨-, -, -, -, -, p3⟩ := hp.2.2 i e hi
      exact ⟨g0, hJ.eq (p3 ot (fun e => o1 (e ▸ (q1.2 i hi).1.1)) (fun e => o1 (e ▸ (q1.2 i hi).2.2.2.2.2.2.1)) (fun j hj e => o1 (e ▸ (q1.2 i hi).2.2.2.2.1 j hj)))⟩
    · rcases h9 with ⟨h8, -⟩ | ⟨h7, h6, h5⟩
      · exact Or.inl h8
      · obtain ⟨i, hi, e⟩ := q_fn_nI h7
        rcases h5 i e hi with ⟨h4, -⟩ | ⟨h4, -⟩
        · exact Or.inr (Or.inl h4)
        · exact Or.inr (Or.inr h4)
    · rcases h9 with ⟨rfl, v, f3, g, hp, hJ3, rfl⟩ | ⟨rfl, h8, rfl⟩ | ⟨rfl, h8, rfl⟩ | ⟨rfl, h8, rfl⟩
      · obtain ⟨i, hi, e⟩ := q_fn_nI hp.1
        obtain ⟨p0, p1, p2, p4, p5, p3⟩ := hp.2.2 i e hi
        have hkF := ci_keepF hC (f' := f3) (fun z hz => p3 z (hz.ne (hF.2 i hi).1.2 (by omega)) (hz.neI (hF.2 i hi).2.2.2.2.2.2.2 (Or.inr ⟨rfl, hop i hi⟩)) (fun j hj => hz.ne ((hF.2 i hi).2.2.2.2.2.1 j hj) (by omega)))
        obtain ⟨m1, m2, g2, m3, m4⟩ := mid_out (v := v.toInt64) hT (show CI tys L f3 cc fa ww kk kkb wk wkb wa wp wq wqb fn dr pr sA oA ra rb rk sq (va_up oi i (a_oi (oi i) kd)) (va_up ni i (a_ni (ni i) kd)) (va_up gv i (a_gv (gv i) kd a)) (va_up go i (a_go (go i) (oi i) (sz σ i) kd)) (s_stmt σ i (tt i) kd a b c k) from ⟨p5, hkF⟩) hM hJ3 (fun z hz => p3 z (fun e => hz (e ▸ (q1.2 i hi).1.1)) (fun e => hz (e ▸ (q1.2 i hi).2.2.2.2.2.2.1)) (fun j hj e => hz (e ▸ (q1.2 i hi).2.2.2.2.1 j hj)))
        exact Or.inl ⟨rfl, hp.2.1, i, hi, e, p0, p1, p2, m1, m2, g2, m3, m4.trans (by rw [p4])⟩
      · rcases h8 with ⟨-, h8⟩ | ⟨h7, h6, h5⟩
        · exact Or.inr (Or.inl ⟨rfl, h8, rfl⟩)
        · obtain ⟨i, hi, e⟩ := q_fn_nI h7
          rcases h5 i e hi with ⟨h4, -⟩ | ⟨h4, -⟩ <;> exact absurd h4 (by decide)
      · rcases h8 with ⟨h8, -⟩ | ⟨h7, h6, h5⟩
        · exact absurd h8 (by decide)
        · obtain ⟨i, hi, e⟩ := q_fn_nI h7
          rcases h5 i e hi with ⟨h4, h3⟩ | ⟨h4, h3, h2, h1⟩
          · exact Or.inr (Or.inr (Or.inl ⟨rfl, h6, ⟨i, hi, e, h3⟩, rfl⟩))
          · exact absurd h4 (by decide)
      · rcases h8 with ⟨h8, -⟩ | ⟨h7, h6, h5⟩
        · exact absurd h8 (by decide)
        · obtain ⟨i, hi, e⟩ := q_fn_nI h7
          rcases h5 i e hi with ⟨h4, h3⟩ | ⟨h4, h3, h2, h1⟩
          · exact absurd h4 (by decide)
          · exact Or.inr (Or.inr (Or.inr ⟨rfl, h6, ⟨i, hi, e, by rw [h3, h2]; rfl, h1⟩, rfl⟩))
  · intro k9 f1 h9
    have hoi : ∀ i, i < 4 → G 15 i = nI (oi i) ∧ oi i ≤ ni i := fun i hi => ⟨(hTie.2.2.2 i hi).2.2.1.2, (hTie.2.2.2 i hi).fn.2.2.2.1⟩
    have hni : ∀ i, i < 4 → G 13 i = nI (ni i) ∧ ni i ≤ 6 := fun i hi => ⟨(hTie.2.2.2 i hi).2.2.1.1, (hTie.2.2.2 i hi).fn.2.2.2.2⟩
    have hfx : ∀ i, i < 4 → q_fn (nI i) = true := fun i hi => by rcases (show i = 0 ∨ i = 1 ∨ i = 2 ∨ i = 3 by omega) with c | c | c | c <;> subst c <;> decide +kernel
    rcases h9 with ⟨rfl, hq, i, hi, e, w1, w2, w3, hC1, hM1, g, hJ1, hg⟩ | ⟨rfl, hq, rfl⟩ | ⟨rfl, hq, ⟨i, hi, e, w1⟩, rfl⟩ | ⟨rfl, hq, ⟨i, hi, e, w1, w2⟩, rfl⟩
    · refine ⟨mdI_obj hM1, meti_imp (m_statement (tm := fun i => 16 * i + t0 i) hn hoi hni (fun i hi h0 => ⟨(hTm i hi h0).1, (hTm i hi h0).2.1⟩) hinj hO hM1) (fun r f2 ⟨t, k2, k3⟩ => ?_)⟩
      have hx : (m_hw σ i kd a b c && m_op (oi i) (G 11 (16 * i + t0 i)) kd) = true := by rw [← hTie.hw hi hq, ← hEq i hi kd, w1, w2]; rfl
      rcases k3 with ⟨k3, -⟩ | ⟨-, -, k3⟩
      · rw [e, hfx i hi, hq] at k3; cases k3
      · rcases k3 i e hi with ⟨k4, -⟩ | ⟨-, k4, -⟩ | ⟨-, -, k4, k5, k6⟩
        · rw [hx] at k4; cases k4
        · rw [w3] at k4; cases k4
        · subst k4
          have hin : q_in kd (nI 0) (nI 7) = true := by
            have h0 := hq
            unfold q_st at h0
            simp only [Bool.and_eq_true] at h0
            exact h0.1.1.1.1.1
          obtain ⟨q, hq8, rfl⟩ := q_in_nI (by omega) hin
          have hz16 := (hO.2.2.2 i hi).2.1.1
          have hr := (q_rm_iff hz16 (hni i hi).2).mp w3
          rw [nt_nI (by omega)] at k6
          refine fin_of hT hC1 hJ1 k6 k2 (tie_stmt hTie hi (by omega) hq hr.1 (fun z => hr.2 (by rw [z])) (fun z => ?_) (fun z => ?_)) (fun _ => by rw [hg, k5])
          · have h0 := q_op_pos w2 (z.imp (fun z => by rw [z]) (fun z => by rw [z]))
            obtain ⟨c1, c2, c3, c4, c5⟩ := hTm i hi (by omega)
            exact ⟨by omega, c1, c3, c4, c5⟩
          · subst z
            have h0 := (Bool.and_eq_true_iff.mp hx).2
            unfold m_op at h0
            rw [show decide (nI 3 = nI 3) = true by decide +kernel, show decide (nI 3 = nI 4) = false by decide +kernel] at h0
            simp only [Bool.not_true, Bool.false_and, Bool.false_or, Bool.and_eq_true, decide_eq_true_eq] at h0
            exact h0.2
    · refine ⟨mdI_obj hM, meti_imp (m_statement (tm := fun i => 16 * i + t0 i) hn hoi hni (fun i hi h0 => ⟨(hTm i hi h0).1, (hTm i hi h0).2.1⟩) hinj hO hM) (fun r f2 ⟨t, k2, k3⟩ => ?_)⟩
      rcases k3 with ⟨-, k4, k5⟩ | ⟨k3, k4, -⟩
      · subst k4
        exact fin_of hT hC hJ k5 k2 hTie (fun z => absurd z (by decide +kernel))
      · rw [k3, k4] at hq; cases hq
    · refine ⟨mdI_obj hM, meti_imp (m_statement (tm := fun i => 16 * i + t0 i) hn hoi hni (fun i hi h0 => ⟨(hTm i hi h0).1, (hTm i hi h0).2.1⟩) hinj hO hM) (fun r f2 ⟨t, k2, k3⟩ => ?_)⟩
      have hx : (m_hw σ i kd a b c && m_op (oi i) (G 11 (16 * i + t0 i)) kd) = false := by rw [← hTie.hw hi hq, ← hEq i hi kd, w1]
      rcases k3 with ⟨k3, -⟩ | ⟨-, -, k3⟩
      · rw [e, hfx i hi, hq] at k3; cases k3
      · rcases k3 i e hi with ⟨-, k4, k5⟩ | ⟨k4, -⟩ | ⟨k4, -⟩
        · subst k4
          exact fin_of hT hC hJ k5 k2 hTie (fun z => absurd z (by decide +kernel))
        · rw [hx] at k4; cases k4
        · rw [hx] at k4; cases k4
    · refine ⟨mdI_obj hM, meti_imp (m_statement (tm := fun i => 16 * i + t0 i) hn hoi hni (fun i hi h0 => ⟨(hTm i hi h0).1, (hTm i hi h0).2.1⟩) hinj hO hM) (fun r f2 ⟨t, k2, k3⟩ => ?_)⟩
      have hx : (m_hw σ i kd a b c && m_op (oi i) (G 11 (16 * i + t0 i)) kd) = true := by rw [← hTie.hw hi hq, ← hEq i hi kd, w1]
      rcases k3 with ⟨k3, -⟩ | ⟨-, -, k3⟩
      · rw [e, hfx i hi, hq] at k3; cases k3
      · rcases k3 i e hi with ⟨k4, -⟩ | ⟨-, -, k4, k5⟩ | ⟨-, k4, -⟩
        · rw [hx] at k4; cases k4
        · subst k4
          exact fin_of hT hC hJ k5 k2 hTie (fun z => absurd z (by decide +kernel))
        · rw [w2] at k4; cases k4
end LW
