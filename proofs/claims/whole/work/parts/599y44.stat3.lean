/-! An own route that is new is told: class and model together. -/
section Sz
variable {G H : Nat → Nat → Nat} {sa : Nat → Nat} {x rd r p kc ks : Nat} {s : cS} {t : moS} {f n mm tt x6 : Int32} {h l : Int64} {Os : Nat → List Pf}
/-- the model alone -/
theorem set_m {K : List Pf} (hM : MV t) (hr : r < cR t) (hb : KB K t r) (hK : ∀ k, k < cSt t r → stP t (32 * r + k) ∈ K) (hK2 : ∀ y, y < 2 * cI t r → t.I 75 (8 * r + y) ≠ 0 → neP t r y ∈ K) : ∃ t', M_settle t (nI r) = some t' ∧ MV t' ∧ rwT r t t' ∧ (t.I 39 r ≠ 0 → SEt t' r) ∧ KB K t' r := by
  have h6 := hM.nR
  by_cases hrun : t.I 39 r = 0
  · refine ⟨t, ?_, hM, rwT.rf, fun z => absurd hrun z, hb⟩
    unfold M_settle
    rw [rdI_n (n := 6) (hM.n.n 39 6) (by omega) (by decide)]
    simp only [Option.bind_some]
    rw [if_pos hrun]
  · obtain ⟨t', e1, q1, p1, a1⟩ := m_settle hM hr hrun hb hK hK2
    exact ⟨t', e1, q1.1, q1.2.1, fun _ => se_set hM hr q1 a1, q1.2.2.1⟩
theorem st_setM {t1 : moS} {O1 : List Pf} (hM : MV t) (hr : r < cR t) (hE : EX Os t) (hM1 : MV t1) (c1 : stT r t t1) (hO1 : ∀ k, k < cSt t1 r → stP t1 (32 * r + k) ∈ O1) (hsub : ∀ P, P ∈ Os r → P ∈ O1) (hl : O1.length ≤ 760) (hpx1 : ∀ k, k < cSt t1 r → isPx (t1.J 48 (32 * r + k)) (t1.J 49 (32 * r + k)) (t1.I 50 (32 * r + k))) : ∃ t', M_settle t1 (nI r) = some t' ∧ MV t' ∧ EX (fun r' => if r' = r then O1 else Os r') t' ∧ mfr (Wst ++ Wrow) t t' := by
  have m := c1.1
  have eR : cR t1 = cR t := by unfold cR; rw [m.S 37 (by decide)]
  have hr1 : r < cR t1 := by rw [eR]; exact hr
  obtain ⟨⟨o1, o2, D0, D1, l0, l1, hrows⟩, se, px⟩ := hE r hr
  have eN : cN t1 r = cN t r := by unfold cN; rw [m.I 105 (by decide)]
  have eI : cI t1 r = cI t r := by unfold cI; rw [m.I 70 (by decide)]
  have ow1 : OWr O1 t1 r := by
    refine ⟨hO1, fun y hy hz => ?_, D0, D1, l0, l1, fun j hj => ?_⟩
    · rw [eI] at hy
      rw [m.I 75 (by decide)] at hz
      have := hsub _ (o2 y hy hz)
      unfold neP at this ⊢
      rw [m.J 76 (by decide), m.J 77 (by decide), m.I 78 (by decide)]
      exact this
    · rw [eN] at hj
      have := hrows j hj
      unfold pfR at this ⊢
      rw [m.I 106 (by decide), m.J 107 (by decide), m.J 108 (by decide), m.I 109 (by decide)]
      exact this.imp_left (hsub _)
  obtain ⟨K, kb, sub, back⟩ := ow1.kb hl
  obtain ⟨t', e1, e2, e3, e4, e5⟩ := set_m hM1 hr1 kb (fun k hk => sub _ (hO1 k hk)) (fun y hy hz => sub _ (ow1.2.1 y hy hz))
  refine ⟨t', e1, e2, fun r' hr' => ?_, (m.wk (by decide)).tr (e3.1.wk (by decide))⟩
  have hr'' : r' < cR t := by
    have : cR t' = cR t1 := by unfold cR; rw [e3.1.S 37 (by decide)]
    rw [this, eR] at hr'
    exact hr'
  show EXr (if r' = r then O1 else Os r') t' r'
  by_cases c : r' = r
  · subst c
    rw [if_pos rfl]
    have m' := e3.1
    have ec : cSt t' r' = cSt t1 r' := by unfold cSt; rw [m'.I 46 (by decide)]
    have ei : cI t' r' = cI t1 r' := by unfold cI; rw [m'.I 70 (by decide)]
    refine ⟨⟨?_, ?_, back t' e5⟩, fun z => e4 (by rw [m'.I 39 (by decide)] at z; exact z), ?_⟩
    · rw [ec]; unfold stP; rw [m'.I 47 (by decide), m'.J 48 (by decide), m'.J 49 (by decide), m'.I 50 (by decide)]; exact hO1
    · rw [ei]; unfold neP; rw [m'.I 75 (by decide), m'.J 76 (by decide), m'.J 77 (by decide), m'.I 78 (by decide)]; exact ow1.2.1
    · rw [ec, m'.J 48 (by decide), m'.J 49 (by decide), m'.I 50 (by decide)]; exact hpx1
  · rw [if_neg c]
    exact ((hE r' hr'').st hM hM1 hr'' c1 c).rw hM1 e2 (by rw [eR]; exact hr'') e3 c
theorem stat_add (hR : RR G H sa x s t) (hM : MV t) (hE : EX Os t) (hr : r < cR t) (hor : okO s 7 rd) (h146 : s.P 146 rd = some p) (kp : (s.K p).1 = 19) (hf : lnOk f n) (hpx : isPx h l n) (hp : PF s p (fam f) h l n) (hO : (Os r).length < 760) (hmm : rng mm 1 15) (htt : rng tt 0 65535) (hkc : pA G r ≤ kc) (hks : pB s G H r ≤ ks) (h32 : cSt t r < 32) (hno : ∀ j, j < cSt t r → cPk s (H 160 (G 6 (32 * r + j))) ≠ kyV f h l n) : ∃ t', M_settle (adM t r (cSt t r) f h l n mm tt) (nI r) = some t' ∧ MV t' ∧ EX (fun r' => if r' = r then (f, h, l, n) :: Os r else Os r') t' ∧ mfr (Wst ++ Wrow) t t' ∧ ∀ Q : Int32 → cS → Nat → Nat → Prop, StK G H sa x s r t' kc ks (Q 0) → C_Ta_add sa (H 187 (G 1 r)) (some p) tt mm s kc ks (fun r12 sr12 cr12 dr12 => C_Re_staticLine_b134 sa rd (some (G 1 r)) mm tt r12 sr12 cr12 dr12 Q) := by
  have hq := hR.q.1
  have hT := hq.ty
  have h6 := hM.nR
  obtain ⟨k26, k2, kw, kw1⟩ := rt_two hR hr
  obtain ⟨w, cap, ht, hK⟩ := tbo_s hq hM hr
  have hTa : RTa s (H 187 (G 1 r)) 145 24 (cSt t r) (G 14 r) 32 (fun j => G 6 (32 * r + j)) := (hq.st hr).1
  have hpk := hp.key
  have h5 : okO s 5 p := okr kp 5
  have ePB : pB s G H r = potS s G H r + (24 * (32 - G 14 r) + (4 * 32 - 2 * cap)) := pB_c ht.2.1 hK
  have hcost : potC G r + 5 * (32 - G 14 r) ≤ kc ∧ potS s G H r + (24 * (32 - G 14 r) + (4 * 32 - 2 * cap)) ≤ ks := by
    unfold pA at hkc
    rw [ePB] at hks
    exact ⟨hkc, hks⟩
  obtain ⟨⟨o1, -⟩, -, px⟩ := hE r hr
  obtain ⟨ct, e46, oI, oJ, v1, v2, v3, v4, v5, v6⟩ := ad_mod (f := f) (h := h) (l := l) (n' := n) (m := mm) (tg := tt) hM hr rfl h32
  have ec : cSt (adM t r (cSt t r) f h l n mm tt) r = cSt t r + 1 := by unfold cSt at e46 ⊢; rw [e46]; exact nI_clamp (by have : (t.I 46 r).toNatClampNeg < 32 := h32; omega)
  have ky : ∀ k, k < cSt t r → kyS (adM t r (cSt t r) f h l n mm tt) (32 * r + k) = kyS t (32 * r + k) := fun k hk => by
    unfold kyS
    rw [oI 47 (by decide) _ (by omega), oI 50 (by decide) _ (by omega), oJ 48 (by decide) _ (by omega), oJ 49 (by decide) _ (by omega)]
  have kyn : kyS (adM t r (cSt t r) f h l n mm tt) (32 * r + cSt t r) = kyV f h l n := by
    unfold kyS
    rw [v1, v2, v3, v4]
  have hM1 : MV (adM t r (cSt t r) f h l n mm tt) := by
    refine mv_st hM hr ct ⟨cSt t r + 1, e46, by omega, by omega⟩ fun k hk => ?_
    rw [ec] at hk
    by_cases z : k = cSt t r
    · rw [z, v1, v4, v5, v6]
      exact ⟨hf, hmm, htt⟩
    · rw [oI 47 (by decide) _ (by omega), oI 50 (by decide) _ (by omega), oI 51 (by decide) _ (by omega), oI 52 (by decide) _ (by omega)]
      exact hM.sl hr (by omega)
  have q1 : ∀ k, k < cSt (adM t r (cSt t r) f h l n mm tt) r → stP (adM t r (cSt t r) f h l n mm tt) (32 * r + k) ∈ (f, h, l, n) :: Os r := fun k hk' => by
    rw [ec] at hk'
    by_cases c : k = cSt t r
    · rw [c]
      unfold stP
      rw [v1, v2, v3, v4]
      simp
    · have := o1 k (by omega)
      unfold stP at this ⊢
      rw [oI 47 (by decide) _ (by omega), oI 50 (by decide) _ (by omega), oJ 48 (by decide) _ (by omega), oJ 49 (by decide) _ (by omega)]
      exact List.mem_cons_of_mem _ this
  have q2 : ∀ k, k < cSt (adM t r (cSt t r) f h l n mm tt) r → isPx ((adM t r (cSt t r) f h l n mm tt).J 48 (32 * r + k)) ((adM t r (cSt t r) f h l n mm tt).J 49 (32 * r + k)) ((adM t r (cSt t r) f h l n mm tt).I 50 (32 * r + k)) := fun k hk' => by
    rw [ec] at hk'
    by_cases c : k = cSt t r
    · rw [c, v2, v3, v4]; exact hpx
    · rw [oI 50 (by decide) _ (by omega), oJ 48 (by decide) _ (by omega), oJ 49 (by decide) _ (by omega)]
      exact px k (by omega)
  have q3 : ∀ P : Pf, lnOk P.1 P.2.2.2 → P ≠ (f, h, l, n) → dF (adM t r (cSt t r) f h l n mm tt) r P = dF t r P := fun P hP hne => by
    obtain ⟨f', h', l', n'⟩ := P
    refine dF_stP ct.1 ⟨fun k k1 k2 k3 => ?_, fun k k1 k2 k3 => ?_⟩
    · rw [ec] at k1
      have hk : k < cSt t r := by
        rcases Nat.lt_or_ge k (cSt t r) with z | z
        · exact z
        · exfalso
          have : k = cSt t r := by omega
          rw [this, kyn] at k2
          exact kyV_ne hf hP (fun y => hne y.symm) k2
      rw [ky k hk] at k2
      exact ⟨k, hk, k2, fun k' hk' => by rw [← ky k' (by omega)]; exact k3 k' hk', oI 51 (by decide) _ (by omega), oI 52 (by decide) _ (by omega)⟩
    · exact ⟨k, by rw [ec]; omega, by rw [ky k k1]; exact k2, fun k' hk' => by rw [ky k' (by omega)]; exact k3 k' hk', oI 51 (by decide) _ (by omega), oI 52 (by decide) _ (by omega)⟩
  have hl : ((f, h, l, n) :: Os r).length ≤ 760 := by show (Os r).length + 1 ≤ 760; omega
  obtain ⟨t', e1, e2, e3, e4⟩ := st_setM hM hr hE hM1 ct q1 (fun P hP => List.mem_cons_of_mem _ hP) hl q2
  refine ⟨t', e1, e2, e3, e4, fun Q kk => ?_⟩
  -- what the settling needs, at any state of the class behind the adding
  have setting : ∀ G1 H1 s1 kc1 ks1, RR G1 H1 sa x s1 (adM t r (cSt t r) f h l n mm tt) → PF s1 p (fam f) h l n → (s1.K p).1 = 19 → potC G1 r ≤ kc1 → potS s1 G1 H1 r ≤ ks1 → ∀ Q, SetR G1 H1 sa x s1 (adM t r (cSt t r) f h l n mm tt) r t' kc1 ks1 Q → C_Rr_settle sa (G1 1 r) (some p) s1 kc1 ks1 Q := by
    intro G1 H1 s1 kc1 ks1 hR1 hp1 kp1 c1 c2
    obtain ⟨t2, y1, -, -, -, y5⟩ := st_set (O1 := (f, h, l, n) :: Os r) hM hr hE hR1 hM1 ct hf hpx hp1 (okr kp1 5) (Or.inr (Or.inl kp1)) q1 (fun P hP => List.mem_cons_of_mem _ hP) hl (by simp) q2 q3 c1 c2
    rw [e1] at y1
    cases y1
    exact y5
  clear q1 q2 q3 ky kyn
  refine w_add (u1 := 36) (u2 := 37) (u3 := 38) (mx := 32) (hw := G 14 r) (g := fun j => G 6 (32 * r + j)) hR hM (Or.inr (Or.inl ⟨rfl, rfl, rfl, rfl⟩)) (by decide) (by decide) hTa (by decide) h32 ht (hp.ok hf h5) ⟨by rw [kp]; decide, by rw [kp]; decide⟩ (by omega) (by omega) ?_
  intro H' a i w' cap' hw' s1 kc' ks' hR1 hA1 f1 hP1 hi i1 i2 hT1 hw1 hK1 hnc ka hnw hb1 hb2
  have hq1 := hR1.q.1
  have hT' := hq1.ty
  have k26' : (s1.K (G 1 r)).1 = 26 := (hq1.rt hr).1.1
  have eH : ∀ g, H' g (G 1 r) = H g (G 1 r) := fun g => hA1.u k26 g
  have hKp : s1.K p = s.K p := (f1 p (by rw [kp]; decide)).1
  have kp1 : (s1.K p).1 = 19 := by rw [hKp]; exact kp
  have hp1 : PF s1 p (fam f) h l n := by
    obtain ⟨a1, a2, a3, a4⟩ := hp
    have := (f1 p (by rw [kp]; decide)).2.1 (by simp)
    exact ⟨by rw [this.1]; exact a1, by rw [this.2.1]; exact a2, by rw [this.2.1]; exact a3, by rw [this.1]; exact a4⟩
  have row24 : ∀ r' j, r' < cR t → j < G 14 r' → (s.K (G 6 (32 * r' + j))).1 = 24 := fun r' j hr' hj => by
    obtain ⟨-, -, -, w0, cap0, -, -, -, -, -, d6, -⟩ := (hq.st hr').1
    exact (d6 j hj).2
  have hnw14 : cSt t r ≤ G 14 r := hTa.2.1
  have hnew : cSt t r < G 14 r ∧ hw' = G 14 r ∧ a = G 6 (32 * r + cSt t r) ∨ cSt t r = G 14 r ∧ hw' = G 14 r + 1 ∧ ∀ r' j, r' < cR t → j < G 14 r' → G 6 (32 * r' + j) ≠ a := by
    rcases hnw with z | ⟨z1, z2, z3⟩
    · exact Or.inl z
    · refine Or.inr ⟨z1, z2, fun r' j hr'' hj z => ?_⟩
      have this := row24 r' j hr'' hj
      rw [z, z3] at this
      exact absurd this (by decide)
  have pk1 : ∀ j, j < cSt t r → cPk s1 (H' 160 (G 6 (32 * r + j))) = cPk s (H 160 (G 6 (32 * r + j))) := fun j hj => by
    have kc := row24 r j hr (by omega)
    rw [hA1.u kc 160]
    exact cPk_fr f1 (hT.p kc 160 36).2 (by simp)
  rw [← eH] at hw1 ⊢
  obtain ⟨g1, g2⟩ := rr_sta (i := i) (hw' := hw') (m := mm) (tg := tt) hR1 hM hr rfl h32 hi hf (fun j hj => by
    rw [pk1 j (by omega), ← hpk]; exact i1 j hj) (fun j h1 h2 => by
    rw [pk1 j h2, ← hpk]
    have y1 := i2 j h1 h2
    have y2 := hno j h2
    rw [← hpk] at y2
    have y1 : cPk s p ≤ cPk s (H 160 (G 6 (32 * r + j))) := y1
    omega) hw1 hK1 hnc ka hnew hp1 hmm htt
  obtain ⟨cc, -, sPF, -⟩ := ad_cls (G := G) (r := r) (w := w') (i := i) (n := cSt t r) (m := mm) (tg := tt) hT' k26' ka hp1
  have kw145 : (s1.K w').1 = 145 := by rw [hK1]
  have fc := cc.fr hT' k26' ka kw145
  have ktb := (hT'.p k26' 187 28).2
  have pS : PF (adC s1 H' (H' 187 (G 1 r)) w' i (cSt t r) a p mm tt) p (fam f) h l n ∧ ((adC s1 H' (H' 187 (G 1 r)) w' i (cSt t r) a p mm tt).K p).1 = 19 := ⟨hp1.fr fc kp1 (by decide), by rw [cc.1]; exact kp1⟩
  have e13 : inG6 G r i (cSt t r) a hw' 13 = G 13 := inG6_o (by decide) (by decide) (by decide)
  have e1' : inG6 G r i (cSt t r) a hw' 1 = G 1 := inG6_o (by decide) (by decide) (by decide)
  have e14 : inG6 G r i (cSt t r) a hw' 14 r = hw' := by rw [inG6_14]; exact if_pos rfl
  have cpe : cpO (adC s1 H' (H' 187 (G 1 r)) w' i (cSt t r) a p mm tt) (inG6 G r i (cSt t r) a hw') H' r = cap' := by
    unfold cpO
    rw [e1', cc.2.1 200 _ (by decide), hw1]
    show ((adC s1 H' (H' 187 (G 1 r)) w' i (cSt t r) a p mm tt).K w').2 = cap'
    rw [cc.1, hK1]
  have cp0 : cpO s G H r = cap := by
    unfold cpO
    rw [ht.2.1]
    show (s.K w).2 = cap
    rw [hK]
  have sj := st_join (t1 := adM t r (cSt t r) f h l n mm tt) (s1 := adC s1 H' (H' 187 (G 1 r)) w' i (cSt t r) a p mm tt) (kc1 := kc') (ks1 := ks') (G1 := inG6 G r i (cSt t r) a hw') (H1 := H') kk (fun b h1 h2 h3 => inG6_o h1 h2 h3) (fun r' hne => by rw [inG6_14]; exact if_neg hne) hA1 (by rw [k26]; decide) (((fr_tb1 f1 hP1 (hR.q.1.ty.p (hR.q.1.rt hr).1.1 187 28).2).wk (Rv' := Rtb) (Gp' := Ptb) (Rq' := Qtb)).tr fc.wk) (fun b g hb hk hg => by
    rw [cc.2.1 g b hg]
    exact hP1 b g (by rw [← eH] at hb; rw [eH] at hb; exact hb) hk) k2 kw ⟨w', by rw [cc.2.1 200 _ (by decide), ← eH]; exact hw1, by rw [cc.1, hK1]; show 145 ≠ 0; decide⟩ (by rw [e14]; exact hb1) (by rw [e14, cpe, cp0]; exact hb2)
  have hset := setting (inG6 G r i (cSt t r) a hw') H' _ kc' ks' g1 pS.1 pS.2 (by rw [sj.2.2]; omega) (by rw [sj.2.1]; omega) _ sj.1
  rw [e1'] at hset
  unfold C_Re_staticLine_b134
  unfold adC at hset cc
  generalize bgS (cSI (cQs s1 w' (inF (s1.Q w') i (cSt t r) a)) 201 (H' 187 (G 1 r)) (nI (cSt t r + 1))) a p (H' 160 a) (H' 161 a) (H' 162 a) tt mm = sb at hset cc ⊢
  have okb : ∀ c b, okO s1 c b → okO sb c b := fun c b hb => by
    have : sb.K = s1.K := cc.1
    unfold okO at hb ⊢
    rw [this]; exact hb
  have krd : (s.K rd).1 ≠ 0 := hor.n0
  have hor1 : okO s1 7 rd := by unfold okO; rw [(f1 rd krd).1]; exact hor
  have nrd : rd ≠ H 187 (G 1 r) := fun z => by
    have k28 := (hT.p k26 187 28).2
    have := hor.2.2
    rw [z, k28] at this
    exact absurd this (by decide)
  have p146 : sb.P 146 rd = some p := by
    have : (cSI (cSI sb 164 a mm) 165 a tt).P 146 rd = s1.P 146 rd := cc.2.1 146 rd (by decide)
    have this : sb.P 146 rd = s1.P 146 rd := this
    rw [this, hP1 rd 146 nrd krd]
    exact h146
  refine ⟨a, rfl, _, gd_to (okb 8 a (okr ka 8)), _, gd_to (show okO _ 8 a from okb 8 a (okr ka 8)), _, gd_to (show okO _ 7 rd from okb 7 rd hor1), G 1 r, rfl, show okO _ 9 _ from okb 9 _ (okr k26' 9), ?_⟩
  rw [show (cSI (cSI sb (20 * 8 + 4) a mm) (20 * 8 + 5) a tt).P (20 * 7 + 6) rd = some p from p146]
  exact hset
end Sz
