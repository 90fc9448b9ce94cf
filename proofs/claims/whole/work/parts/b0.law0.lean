/-! The law's calls: the class answers, the model answers, the answers are one. -/
theorem meth_imp {l : Launch} {y : MethodName} {ws : List Cond} {rm : Room} {D : va_G} {tys : List (ClassId × FieldType)} {L : List Nat} {f : Nat → va_E} {sAd : Nat → Nat} {av : List Value} {post post' : Int32 → (Nat → va_E) → Prop} (h : MetH l y ws rm D tys L f sAd av post) (hi : ∀ r f', post r f' → post' r f') : MetH l y ws rm D tys L f sAd av post' := met_imp h (fun a s o t ⟨⟨r, u, h1, h2, h3⟩, h4⟩ => ⟨⟨r, u, h1, hi r u h2, h3⟩, h4⟩)
def CI (tys : List (ClassId × FieldType)) (L : List Nat) (f : Nat → va_E) (cc fa ww kk kkb wk wkb wa wp : Nat) (wq wqb : Nat → Nat) (fn dr pr sA oA ra rb rk : Nat → Nat) (sq : Nat → Nat → Nat) (oi ni : Nat → Nat) (gv : Nat → Int32) (go : Nat → Nat → Int32) (σ : Sg) : Prop := FnsAt tys L f fa fn dr pr sA oA ra rb rk sq oi ni gv go σ ∧ WTy tys L f ww wk wkb wa wp wq wqb ∧ KnAny tys f kk kkb ∧ f cc = .inr (5, [.ref fa, .ref ww, .ref kk])
/-- what never changes: where the cells lie -/
def Stc (L Lc : List Nat) (t0 : List (ClassId × FieldType)) (f0 : Nat → va_E) (cc fa ww kk kkb wk wkb wa wp : Nat) (wq wqb : Nat → Nat) (fn dr pr sA oA ra rb rk : Nat → Nat) (sq : Nat → Nat → Nat) (mo ap cm : Nat) (ad : Nat → Nat) (ot : Nat) : Prop :=
  L.Nodup ∧ (∀ z ∈ Lc, z ∈ L) ∧ (FnsAt t0 Lc f0 fa fn dr pr sA oA ra rb rk sq (fun _ => 0) (fun _ => 0) (fun _ => nI 0) (fun _ _ => 0) sg0 ∧ WTy t0 Lc f0 ww wk wkb wa wp wq wqb ∧ cc ∈ Lc ∧ kk ∈ Lc ∧ kkb ∈ Lc) ∧ FnsD fn dr pr sA oA ra rb rk sq ∧ (∀ i, i < 4 → oA i ≠ wp) ∧ ((wk ≠ kk ∧ wkb ≠ kkb) ∧ ∀ j, j < 6 → wq j ≠ kk ∧ wqb j ≠ kkb) ∧ (mo ∉ Lc ∧ ap ∉ Lc ∧ cm ∉ Lc ∧ ∀ k, k < 16 → ad k ∉ Lc) ∧ (∀ i j, i < 16 → j < 16 → i ≠ j → ad i ≠ ad j) ∧ (ot ∈ L ∧ ot ∉ Lc ∧ ot ≠ mo ∧ ot ≠ ap ∧ ot ≠ cm ∧ ∀ k, k < 16 → ot ≠ ad k)
def Inv (tys : List (ClassId × FieldType)) (L : List Nat) (f : Nat → va_E) (cc fa ww kk kkb wk wkb wa wp : Nat) (wq wqb : Nat → Nat) (fn dr pr sA oA ra rb rk : Nat → Nat) (sq : Nat → Nat → Nat) (mo ap cm : Nat) (ad : Nat → Nat) (ot : Nat) (th : Int32) : Prop := ∃ σ oi ni gv go G, CI tys L f cc fa ww kk kkb wk wkb wa wp wq wqb fn dr pr sA oA ra rb rk sq oi ni gv go σ ∧ MdI tys L f mo ap cm ad G th ∧ (∃ g, mm_J tys f ot 1 g) ∧ Tie σ G oi ni gv go
def Fin (tys : List (ClassId × FieldType)) (L : List Nat) (cc fa ww kk kkb wk wkb wa wp : Nat) (wq wqb : Nat → Nat) (fn dr pr sA oA ra rb rk : Nat → Nat) (sq : Nat → Nat → Nat) (mo ap cm : Nat) (ad : Nat → Nat) (ot : Nat) (k r : Int32) (f : Nat → va_E) : Prop := Inv tys L f cc fa ww kk kkb wk wkb wa wp wq wqb fn dr pr sA oA ra rb rk sq mo ap cm ad ot k ∧ ∃ g, mm_J tys f ot 1 g ∧ (k = nI 0 → g 0 = r.toInt64)
section LW
variable {l : Launch} {D : va_G} {tys : List (ClassId × FieldType)} {L Lc : List Nat} {t0 : List (ClassId × FieldType)} {f f0 f' : Nat → va_E} {sAd : Nat → Nat}
variable {cc fa ww kk kkb wk wkb wa wp : Nat} {wq wqb : Nat → Nat} {fn dr pr sA oA ra rb rk : Nat → Nat} {sq : Nat → Nat → Nat}
variable {mo ap cm : Nat} {ad : Nat → Nat} {ot : Nat}
variable {oi ni : Nat → Nat} {gv : Nat → Int32} {go : Nat → Nat → Int32} {σ : Sg} {G : Nat → Nat → Int32} {th : Int32}
/-- a cell that no change of a function touches -/
def NoF (tys : List (ClassId × FieldType)) (f : Nat → va_E) (wp z : Nat) : Prop := (∀ ci fs, f z = .inr (ci, fs) → ci = 1 ∨ ci = 4 ∨ ci = 5) ∧ ∀ n g, mm_I tys f z n g → n = 144 ∨ (n = 6 ∧ z = wp)
theorem noF_O {z ci : Nat} {fs : List Value} (h : f z = .inr (ci, fs)) (hc : ci = 1 ∨ ci = 4 ∨ ci = 5) : NoF tys f wp z := ⟨fun c2 fs2 e => by rw [h] at e; cases e; exact hc, fun n g hI => absurd rfl (mm_IO hI h)⟩
theorem noF_I {z n : Nat} {g : Nat → Int32} (h : mm_I tys f z n g) (hc : n = 144 ∨ (n = 6 ∧ z = wp)) : NoF tys f wp z := ⟨fun c2 fs2 e => absurd rfl (mm_IO h e), fun n2 g2 hI => by
  obtain ⟨c1, e1, -⟩ := h
  obtain ⟨c2, e2, -⟩ := hI
  rw [e1] at e2
  cases e2
  exact hc⟩
theorem noF_Q {z n : Nat} {C : String} {g : Nat → Option Nat} (h : mm_Q tys C f z n g) : NoF tys f wp z := ⟨fun c2 fs2 e => absurd e (mm_Qno h), fun n2 g2 hI => absurd rfl (mm_IQ hI h)⟩
theorem NoF.ne {z x : Nat} {ci : Nat} {fs : List Value} (h : NoF tys f wp z) (hx : f x = .inr (ci, fs)) (hc : ci = 0 ∨ ci = 2 ∨ ci = 3) : z ≠ x := by
  rintro rfl
  have := h.1 _ _ hx
  omega
theorem NoF.neI {z x n : Nat} {g : Nat → Int32} (h : NoF tys f wp z) (hx : mm_I tys f x n g) (hc : n = 4 ∨ (n = 6 ∧ x ≠ wp)) : z ≠ x := by
  rintro rfl
  have := h.2 _ _ hx
  omega
theorem ci_keepF (h : CI tys L f cc fa ww kk kkb wk wkb wa wp wq wqb fn dr pr sA oA ra rb rk sq oi ni gv go σ) (hs : ∀ z, NoF tys f wp z → f' z = f z) : WTy tys L f' ww wk wkb wa wp wq wqb ∧ KnAny tys f' kk kkb ∧ f' cc = .inr (5, [.ref fa, .ref ww, .ref kk]) := by
  obtain ⟨-, hW, hk, hc⟩ := h
  obtain ⟨⟨a1, a2, a3, a4, a5, a6⟩, ⟨x3, x4, x5, x6, x7, x8, x9, x10, b1⟩, ⟨⟨pv, b2⟩, gb, b2b⟩, wpl, b3⟩ := id hW
  obtain ⟨⟨pk, k1⟩, gk, k2⟩ := id hk
  refine ⟨hW.keepE (hs _ (noF_O b1 (by omega))) (hs _ (noF_O b2 (by omega))) (hs _ (noF_I b2b (by omega))) (hs _ (noF_Q a2)) (hs _ (noF_I b3 (by omega))) (fun j hj => ?_), hk.eq (hs _ (noF_O k1 (by omega))) (hs _ (noF_I k2 (by omega))), (hs _ (noF_O hc (by omega))).trans hc⟩
  obtain ⟨⟨pj, c1⟩, gj, c2⟩ := a6 j hj
  exact ⟨hs _ (noF_O c1 (by omega)), hs _ (noF_I c2 (by omega))⟩
theorem ci_keepL (hT : Stc L Lc t0 f0 cc fa ww kk kkb wk wkb wa wp wq wqb fn dr pr sA oA ra rb rk sq mo ap cm ad ot) (h : CI tys L f cc fa ww kk kkb wk wkb wa wp wq wqb fn dr pr sA oA ra rb rk sq oi ni gv go σ) (hs : ∀ z ∈ Lc, f' z = f z) : CI tys L f' cc fa ww kk kkb wk wkb wa wp wq wqb fn dr pr sA oA ra rb rk sq oi ni gv go σ := by
  obtain ⟨-, -, ⟨q1, q2, q3, q4, q5⟩, -⟩ := hT
  obtain ⟨hF, hW, hk, hc⟩ := h
  obtain ⟨⟨⟨w1, w2, w3, w4, w5⟩, -, w6, -⟩, -⟩ := q2
  exact ⟨q1.keepL hF hs, hW.keepE (hs _ w1) (hs _ w2) (hs _ w3) (hs _ w4) (hs _ w5) (fun j hj => ⟨hs _ (w6 j hj).1, hs _ (w6 j hj).2⟩), hk.eq (hs _ q4) (hs _ q5), (hs _ q3).trans hc⟩
theorem md_keepL (hT : Stc L Lc t0 f0 cc fa ww kk kkb wk wkb wa wp wq wqb fn dr pr sA oA ra rb rk sq mo ap cm ad ot) (h : MdI tys L f mo ap cm ad G th) (hs : ∀ z, z ∉ Lc → z ≠ ot → f' z = f z) : MdI tys L f' mo ap cm ad G th := by
  obtain ⟨-, -, -, -, -, -, ⟨n1, n2, n3, n4⟩, -, ⟨o0, o1, o2, o3, o4, o5⟩⟩ := hT
  exact h.keepA (hs _ n1 (Ne.symm o2)) (hs _ n2 (Ne.symm o3)) (hs _ n3 (Ne.symm o4)) (fun k hk => hs _ (n4 k hk) (Ne.symm (o5 k hk)))
/-- behind the class's call and the row out: the class's cells as told, all else as it was -/
theorem mid_out (hT : Stc L Lc t0 f0 cc fa ww kk kkb wk wkb wa wp wq wqb fn dr pr sA oA ra rb rk sq mo ap cm ad ot) {f3 : Nat → va_E} {g : Nat → Int64} {v : Int64} (hC : CI tys L f3 cc fa ww kk kkb wk wkb wa wp wq wqb fn dr pr sA oA ra rb rk sq oi ni gv go σ) (hM : MdI tys L f mo ap cm ad G th) (hJ : mm_J tys f3 ot 1 g) (hs : ∀ z, z ∉ Lc → f3 z = f z) : CI tys L (mm_sj f3 ot (vp_updL g 0 v)) cc fa ww kk kkb wk wkb wa wp wq wqb fn dr pr sA oA ra rb rk sq oi ni gv go σ ∧ MdI tys L (mm_sj f3 ot (vp_updL g 0 v)) mo ap cm ad G th ∧ ∃ g2, mm_J tys (mm_sj f3 ot (vp_updL g 0 v)) ot 1 g2 ∧ g2 0 = v := by
  have o1 : ot ∉ Lc := hT.2.2.2.2.2.2.2.2.2.1
  refine ⟨ci_keepL hT hC (fun z hz => mm_sj_ne (fun e => o1 (e ▸ hz))), md_keepL hT hM (fun z h1 h2 => by rw [mm_sj_ne h2]; exact hs z h1), _, hJ.set, ?_⟩
  unfold vp_updL
  rw [if_pos rfl]
/-- behind the model's call -/
theorem fin_of (hT : Stc L Lc t0 f0 cc fa ww kk kkb wk wkb wa wp wq wqb fn dr pr sA oA ra rb rk sq mo ap cm ad ot) (hC : CI tys L f cc fa ww kk kkb wk wkb wa wp wq wqb fn dr pr sA oA ra rb rk sq oi ni gv go σ) {k r : Int32} {g : Nat → Int64} (hJ : mm_J tys f ot 1 g) (hM : MdI tys L f' mo ap cm ad G k) (hS : SmA f f' mo ap cm ad) (hTie : Tie σ G oi ni gv go) (hr : k = nI 0 → g 0 = r.toInt64) : Fin tys L cc fa ww kk kkb wk wkb wa wp wq wqb fn dr pr sA oA ra rb rk sq mo ap cm ad ot k r f' := by
  obtain ⟨-, -, -, -, -, -, ⟨n1, n2, n3, n4⟩, -, ⟨o0, o1, o2, o3, o4, o5⟩⟩ := id hT
  have hs : ∀ z ∈ Lc, f' z = f z := fun z hz => hS z (fun e => n1 (e ▸ hz)) (fun e => n2 (e ▸ hz)) (fun e => n3 (e ▸ hz)) (fun k hk e => n4 k hk (e ▸ hz))
  have hJ2 : mm_J tys f' ot 1 g := hJ.eq (hS ot o2 o3 o4 o5)
  exact ⟨⟨σ, oi, ni, gv, go, G, ci_keepL hT hC hs, hM, ⟨g, hJ2⟩, hTie⟩, g, hJ2, hr⟩
theorem mdI_obj (h : MdI tys L f mo ap cm ad G th) : mo ∈ L ∧ ∃ fs, f mo = .inr (6, fs) := by
  obtain ⟨fe, me, fu, le, en, sp, ka, kc, mx, se, gc, k1, k2, k3, k4⟩ := h
  exact ⟨k4.1.1.1, _, k4.2.1⟩
theorem wreg_Lc {tys : List (ClassId × FieldType)} {Lc : List Nat} {f : Nat → va_E} (h : WTy tys Lc f ww wk wkb wa wp wq wqb) {z : Nat} (hz : z ∉ Lc) : ¬ WReg ww wk wkb wp wq wqb z := by
  obtain ⟨⟨⟨w1, w2, w3, w4, w5⟩, -, w6, -⟩, -⟩ := h
  rintro (e | e | e | e | ⟨j, hj, e | e⟩)
  · exact hz (e ▸ w1)
  · exact hz (e ▸ w2)
  · exact hz (e ▸ w3)
  · exact hz (e ▸ w5)
  · exact hz (e ▸ (w6 j hj).1)
  · exact hz (e ▸ (w6 j hj).2)
/-- a walk was made: the class's cells stand -/
theorem ci_fr (hT : Stc L Lc t0 f0 cc fa ww kk kkb wk wkb wa wp wq wqb fn dr pr sA oA ra rb rk sq mo ap cm ad ot) (h : CI tys L f cc fa ww kk kkb wk wkb wa wp wq wqb fn dr pr sA oA ra rb rk sq oi ni gv go σ) (hW : WTy tys L f' ww wk wkb wa wp wq wqb) (hF : FnsAt tys L f' fa fn dr pr sA oA ra rb rk sq oi ni gv go σ) (hs : Fr ww wk wkb wp wq wqb f f') : CI tys L f' cc fa ww kk kkb wk wkb wa wp wq wqb fn dr pr sA oA ra rb rk sq oi ni gv go σ := by
  obtain ⟨hn, hLL, ⟨q1, q2, q3, q4, q5⟩, hDs, hop, ⟨hkw, hkq⟩, -⟩ := hT
  obtain ⟨-, hW0, hk, hc⟩ := h
  have e1 : f' cc = f cc := hs _ (hW0.notO hc (by decide) (by decide))
  obtain ⟨⟨pk, k1⟩, gk, k2⟩ := id hk
  obtain ⟨⟨a1, a2, a3, a4, a5, a6⟩, ⟨x3, x4, x5, x6, x7, x8, x9, x10, b1⟩, ⟨⟨pv, b2⟩, gb, b2b⟩, wpl, b3⟩ := id hW0
  have n1 : ¬ WReg ww wk wkb wp wq wqb kk := by
    rintro (e | e | e | e | ⟨j, hj, e | e⟩)
    · exact mm_OO k1 b1 (by decide) e
    · exact hkw.1 e.symm
    · exact mm_IO b2b k1 e
    · exact mm_IO b3 k1 e
    · exact (hkq j hj).1 e.symm
    · obtain ⟨-, gj, c2⟩ := a6 j hj
      exact mm_IO c2 k1 e
  have n2 : ¬ WReg ww wk wkb wp wq wqb kkb := by
    rintro (e | e | e | e | ⟨j, hj, e | e⟩)
    · exact mm_IO k2 b1 e.symm
    · exact mm_IO k2 b2 e.symm
    · exact hkw.2 e.symm
    · exact mm_II k2 b3 (by decide) e
    · obtain ⟨⟨pj, c1⟩, -⟩ := a6 j hj
      exact mm_IO k2 c1 e.symm
    · exact (hkq j hj).2 e.symm
  exact ⟨hF, hW, hk.eq (hs _ n1) (hs _ n2), e1.trans hc⟩
set_option maxRecDepth 100000 in
set_option maxHeartbeats 4000000 in
theorem law_check (hst : l.stackTraces = false) (hT : Stc L Lc t0 f0 cc fa ww kk kkb wk wkb wa wp wq wqb fn dr pr sA oA ra rb rk sq mo ap cm ad ot) (hI : Inv tys L f cc fa ww kk kkb wk wkb wa wp wq wqb fn dr pr sA oA ra rb rk sq mo ap cm ad ot th) {x : Int32} : ∃ mid : Int32 → (Nat → va_E) → Prop, MetH l yL_check wL_check ({ frames := 7, cells := 1, slots := 6, locals := 173 } : Room) D tys L f sAd [.ref cc, .int x, .ref ot] mid ∧ ∀ k f1, mid k f1 → (mo ∈ L ∧ ∃ fs, f1 mo = .inr (6, fs)) ∧ MetI l yM_check wM_check ({ frames := 6, cells := 0, slots := 0, locals := 148 } : Room) D tys L f1 [.ref mo, .int x] (Fin tys L cc fa ww kk kkb wk wkb wa wp wq wqb fn dr pr sA oA ra rb rk sq mo ap cm ad ot k) := by
  obtain ⟨σ, oi, ni, gv, go, G, hC, hM, ⟨g0, hJ⟩, hTie⟩ := hI
  obtain ⟨hn, hLL, ⟨q1, q2, q3, q4, q5⟩, hDs, hop, ⟨hkw, hkq⟩, ⟨n1, n2, n3, n4⟩, hinj, ⟨o0, o1, o2, o3, o4, o5⟩⟩ := id hT
  have hO := hTie.ok
  have hF := hC.1
  have hcL := hLL _ q3
  refine ⟨fun k f1 => (k = nI 0 ∧ q_fn x = true ∧ (CI tys L f1 cc fa ww kk kkb wk wkb wa wp wq wqb fn dr pr sA oA ra rb rk sq oi ni gv go σ) ∧ MdI tys L f1 mo ap cm ad G th ∧ ∃ g v, mm_J tys f1 ot 1 g ∧ g 0 = Int32.toInt64 v ∧ ∀ i, x = nI i → i < 4 → ∃ wpl, v = (th_run σ i (-1) 0 0 64 (th_o σ i) (th_c σ i wpl)).lu) ∨ (k = nI 1 ∧ q_fn x = false ∧ f1 = f), ?_, ?_⟩
  · refine meth_imp (h_check hn hcL hC.2.2.2 o0 (c_check hn hst hF hcL hC.2.2.2 hC.2.1 hop hO.2.1 (fun i hi => (hO.2.2.2 i hi).2.1)) (fun r f3 hp => ?_) (fun E h9 => h9.1)) (fun k f1 h9 => ?_)
    · obtain ⟨i, hi, e⟩ := q_fn_nI hp.1
      exact ⟨g0, hJ.eq ((hp.2 i e hi).2.2.2 ot (wreg_Lc q2 o1))⟩
    · rcases h9 with ⟨rfl, v, f3, g, hp, hJ3, rfl⟩ | ⟨rfl, h8, rfl⟩
      · obtain ⟨i, hi, e⟩ := q_fn_nI hp.1
        obtain ⟨hv, w1, w2, w3⟩ := hp.2 i e hi
        have hC3 := ci_fr hT hC w1 w2 w3
        obtain ⟨m1, m2, g2, m3, m4⟩ := mid_out (v := v.toInt64) hT hC3 hM hJ3 (fun z hz => w3 z (wreg_Lc q2 hz))
        exact Or.inl ⟨rfl, hp.1, m1, m2, g2, v, m3, m4, fun i2 e2 h2 => (hp.2 i2 e2 h2).1⟩
      · exact Or.inr ⟨rfl, h8.2, rfl⟩
  · intro k f1 h9
    rcases h9 with ⟨rfl, hq, hC1, hM1, g, v, hJ1, hg, hv⟩ | ⟨rfl, hq, rfl⟩
    · refine ⟨mdI_obj hM1, meti_imp (m_check hn hO hM1) (fun r f2 ⟨t, k1, k2, k3⟩ => ?_)⟩
      rcases k3 with ⟨k3, k4⟩ | ⟨-, k4, k5⟩
      · rw [hq] at k3; cases k3
      · obtain ⟨i, hi, e⟩ := q_fn_nI hq
        subst k4
        refine fin_of hT hC1 hJ1 k1 (SmA.of3 k2) hTie (fun _ => ?_)
        obtain ⟨wpl, hw⟩ := hv i e hi
        obtain ⟨ka, kc, gc, me, K0, a1, a2, a3⟩ := k5 i e hi
        rw [hg, hw, a3, (same_walk (ap := -1) (sp := -1) (a := 0) (b := 0) (ka := ka) (kc := kc) (wpl := wpl) (gc := gc) (me := me) (K0 := K0) hO.2.1 hi (hO.2.2.2 i hi).2.1 (by omega) (by omega) a1.1 a2.1).1]
    · refine ⟨mdI_obj hM, meti_imp (m_check hn hO hM) (fun r f2 ⟨t, k1, k2, k3⟩ => ?_)⟩
      rcases k3 with ⟨k3, k4⟩ | ⟨k3, -⟩
      · subst k4
        exact fin_of hT hC hJ k1 (SmA.of3 k2) hTie (fun z => absurd z (by decide +kernel))
      · rw [hq] at k3; cases k3
set_option maxRecDepth 100000 in
set_option maxHeartbeats 4000000 in
theorem law_ways (hst : l.stackTraces = false) (hT : Stc L Lc t0 f0 cc fa ww kk kkb wk wkb wa wp wq wqb fn dr pr sA oA ra rb rk sq mo ap cm ad ot) (hI : Inv tys L f cc fa ww kk kkb wk wkb wa wp wq wqb fn dr pr sA oA ra rb rk sq mo ap cm ad ot th) {x : Int32} : ∃ mid : Int32 → (Nat → va_E) → Prop, MetH l yL_ways wL_ways ({ frames := 7, cells := 1, slots := 6, locals := 173 } : Room) D tys L f sAd [.ref cc, .int x, .ref ot] mid ∧ ∀ k f1, mid k f1 → (mo ∈ L ∧ ∃ fs, f1 mo = .inr (6, fs)) ∧ MetI l yM_ways wM_ways ({ frames := 6, cells := 0, slots := 0, locals := 148 } : Room) D tys L f1 [.ref mo, .int x] (Fin tys L cc fa ww kk kkb wk wkb wa wp wq wqb fn dr pr sA oA ra rb rk sq mo ap cm ad ot k) := by
  obtain ⟨σ, oi, ni, gv, go, G, hC, hM, ⟨g0, hJ⟩, hTie⟩ := hI
  obtain ⟨hn, hLL, ⟨q1, q2, q3, q4, q5⟩, hDs, hop, ⟨hkw, hkq⟩, ⟨n1, n2, n3, n4⟩, hinj, ⟨o0, o1, o2, o3, o4, o5⟩⟩ := id hT
  have hO := hTie.ok
  have hF := hC.1
  have hcL := hLL _ q3
  refine ⟨fun k f1 => (k = nI 0 ∧ q_fn x = true ∧ (CI tys L f1 cc fa ww kk kkb wk wkb wa wp wq wqb fn dr pr sA oA ra rb rk sq oi ni gv go σ) ∧ MdI tys L f1 mo ap cm ad G th ∧ ∃ g v, mm_J tys f1 ot 1 g ∧ g 0 = Int32.toInt64 v ∧ ∀ i, x = nI i → i < 4 → ∃ wpl, v = nI (th_run σ i (-1) 0 0 64 (th_o σ i) (th_c σ i wpl)).en) ∨ (k = nI 1 ∧ q_fn x = false ∧ f1 = f), ?_, ?_⟩
  · refine meth_imp (h_ways hn hcL hC.2.2.2 o0 (c_ways hn hst hF hcL hC.2.2.2 hC.2.1 hop hO.2.1 (fun i hi => (hO.2.2.2 i hi).2.1)) (fun r f3 hp => ?_) (fun E h9 => h9.1)) (fun k f1 h9 => ?_)
    · obtain ⟨i, hi, e⟩ := q_fn_nI hp.1
      exact ⟨g0, hJ.eq ((hp.2 i e hi).2.2.2 ot (wreg_Lc q2 o1))⟩
    · rcases h9 with ⟨rfl, v, f3, g, hp, hJ3, rfl⟩ | ⟨rfl, h8, rfl⟩
      · obtain ⟨i, hi, e⟩ := q_fn_nI hp.1
        obtain ⟨hv, w1, w2, w3⟩ := hp.2 i e hi
        have hC3 := ci_fr hT hC w1 w2 w3
        obtain ⟨m1, m2, g2, m3, m4⟩ := mid_out (v := v.toInt64) hT hC3 hM hJ3 (fun z hz => w3 z (wreg_Lc q2 hz))
        exact Or.inl ⟨rfl, hp.1, m1, m2, g2, v, m3, m4, fun i2 e2 h2 => (hp.2 i2 e2 h2).1⟩
      · exact Or.inr ⟨rfl, h8.2, rfl⟩
  · intro k f1 h9
    rcases h9 with ⟨rfl, hq, hC1, hM1, g, v, hJ1, hg, hv⟩ | ⟨rfl, hq, rfl⟩
    · refine ⟨mdI_obj hM1, meti_imp (m_ways hn hO hM1) (fun r f2 ⟨t, k1, k2, k3⟩ => ?_)⟩
      rcases k3 with ⟨k3, k4⟩ | ⟨-, k4, k5⟩
      · rw [hq] at k3; cases k3
      · obtain ⟨i, hi, e⟩ := q_fn_nI hq
        subst k4
        refine fin_of hT hC1 hJ1 k1 (SmA.of3 k2) hTie (fun _ => ?_)
        obtain ⟨wpl, hw⟩ := hv i e hi
        obtain ⟨ka, kc, gc, me, K0, a1, a2, a3⟩ := k5 i e hi
        rw [hg, hw, a3, (same_walk (ap := -1) (sp := -1) (a := 0) (b := 0) (ka := ka) (kc := kc) (wpl := wpl) (gc := gc) (me := me) (K0 := K0) hO.2.1 hi (hO.2.2.2 i hi).2.1 (by omega) (by omega) a1.1 a2.1).2.1]
    · refine ⟨mdI_obj hM, meti_imp (m_ways hn hO hM) (fun r f2 ⟨t, k1, k2, k3⟩ => ?_)⟩
      rcases k3 with ⟨k3, k4⟩ | ⟨k3, -⟩
      · subst k4
        exact fin_of hT hC hJ k1 (SmA.of3 k2) hTie (fun z => absurd z (by decide +kernel))
      · rw [hq] at k3; cases k3
end LW
