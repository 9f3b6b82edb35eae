/-! One of a router's own routes is another, is new, or is taken out: the relation behind it. -/
abbrev Wst : List Nat := [46, 47, 48, 49, 50, 51, 52]
def stC (G H : Nat → Nat → Nat) (r a w : Nat) (s s' : cS) : Prop := s'.K = s.K ∧ (∀ g b, g ≠ 166 → s'.P g b = s.P g b) ∧ (∀ b, b ≠ a → s'.P 166 b = s.P 166 b) ∧ (∀ b, b ≠ w → s'.Q b = s.Q b) ∧ s'.E = s.E ∧ (∀ b, b ≠ H 187 (G 1 r) → b ≠ a → b ≠ H 160 a → b ≠ H 161 a → b ≠ H 162 a → ∀ g, s'.I g b = s.I g b) ∧ ∀ b, b ≠ H 160 a → b ≠ H 161 a → b ≠ H 162 a → ∀ g, s'.J g b = s.J g b
def stT (r : Nat) (t t' : moS) : Prop := mfr Wst t t' ∧ (∀ j, j ≠ r → t'.I 46 j = t.I 46 j) ∧ (∀ g, g ∈ [47, 50, 51, 52] → ∀ j, j < 32 * r ∨ 32 * r + 32 ≤ j → t'.I g j = t.I g j) ∧ ∀ g, g ∈ [48, 49] → ∀ j, j < 32 * r ∨ 32 * r + 32 ≤ j → t'.J g j = t.J g j
section St
variable {G G' H : Nat → Nat → Nat} {sa : Nat → Nat} {x : Nat} {s s' s1 s2 : cS} {t t' : moS} {r a w : Nat}
theorem stC.rf : stC G H r a w s s := ⟨rfl, fun _ _ _ => rfl, fun _ _ => rfl, fun _ _ => rfl, rfl, fun _ _ _ _ _ _ _ => rfl, fun _ _ _ _ _ => rfl⟩
theorem stC.tr (h : stC G H r a w s s1) (h' : stC G H r a w s1 s2) : stC G H r a w s s2 := by
  obtain ⟨a1, a2, a3, a4, a5, a6, a7⟩ := h
  obtain ⟨b1, b2, b3, b4, b5, b6, b7⟩ := h'
  exact ⟨b1.trans a1, fun g b hg => (b2 g b hg).trans (a2 g b hg), fun b hb => (b3 b hb).trans (a3 b hb), fun b hb => (b4 b hb).trans (a4 b hb), b5.trans a5, fun b h1 h2 h3 h4 h5 g => (b6 b h1 h2 h3 h4 h5 g).trans (a6 b h1 h2 h3 h4 h5 g), fun b h1 h2 h3 g => (b7 b h1 h2 h3 g).trans (a7 b h1 h2 h3 g)⟩
theorem stC.i {g b : Nat} {v : Int32} (h : b = H 187 (G 1 r) ∨ b = a ∨ b = H 160 a ∨ b = H 161 a ∨ b = H 162 a) : stC G H r a w s (cSI s g b v) := ⟨rfl, fun _ _ _ => rfl, fun _ _ => rfl, fun _ _ => rfl, rfl, fun c h1 h2 h3 h4 h5 k => by
  refine cSI_o fun z => ?_
  subst z
  rcases h with z | z | z | z | z
  · exact h1 z
  · exact h2 z
  · exact h3 z
  · exact h4 z
  · exact h5 z, fun _ _ _ _ _ => rfl⟩
theorem stC.j {g b : Nat} {v : Int64} (h : b = H 160 a ∨ b = H 161 a ∨ b = H 162 a) : stC G H r a w s (cSJ s g b v) := ⟨rfl, fun _ _ _ => rfl, fun _ _ => rfl, fun _ _ => rfl, rfl, fun _ _ _ _ _ _ _ => rfl, fun c h1 h2 h3 k => by
  rw [evJ, if_neg]
  rintro ⟨-, z⟩
  subst z
  rcases h with z | z | z
  · exact h1 z
  · exact h2 z
  · exact h3 z⟩
theorem stC.pf {b : Nat} {v1 v4 : Int32} {v2 v3 : Int64} (h : b = H 160 a ∨ b = H 161 a ∨ b = H 162 a) : stC G H r a w s (cSpf s b v1 v2 v3 v4) := by
  have h' : b = H 187 (G 1 r) ∨ b = a ∨ b = H 160 a ∨ b = H 161 a ∨ b = H 162 a := Or.inr (Or.inr h)
  exact (((stC.i h').tr (stC.j h)).tr (stC.j h)).tr (stC.i h')
theorem stC.p {v : Option Nat} : stC G H r a w s (cSP s 166 a v) := ⟨rfl, fun _ _ hg => cSP_g hg, fun _ hb => cSP_a hb, fun _ _ => rfl, rfl, fun _ _ _ _ _ _ _ => rfl, fun _ _ _ _ _ => rfl⟩
theorem stC.q {f : Nat → Option Nat} : stC G H r a w s (cQs s w f) := ⟨rfl, fun _ _ _ => rfl, fun _ _ => rfl, fun _ hb => if_neg hb, rfl, fun _ _ _ _ _ _ _ => rfl, fun _ _ _ _ _ => rfl⟩
theorem stC.b1 {F n B : Int32} {h l : Int64} : stC G H r a w s (bg1 s (H 160 a) (H 161 a) (H 162 a) F h l n B) := by
  unfold bg1
  have c1 : stC G H r a w s (cSpf s (H 160 a) F h l n) := stC.pf (Or.inl rfl)
  generalize cSpf s (H 160 a) F h l n = s1 at c1 ⊢
  have c2 : stC G H r a w s1 (cSpf s1 (H 161 a) F 0 0 B) := stC.pf (Or.inr (Or.inl rfl))
  generalize cSpf s1 (H 161 a) F 0 0 B = s2 at c2 ⊢
  exact (c1.tr c2).tr (stC.pf (Or.inr (Or.inr rfl)))
theorem stC.b2 {tag metric : Int32} : stC G H r a w s (bg2 s a tag metric) := by
  unfold bg2
  have c1 : stC G H r a w s (cSI s 163 a 2) := stC.i (Or.inr (Or.inl rfl))
  generalize cSI s 163 a 2 = s1 at c1 ⊢
  have c2 : stC G H r a w s1 (cSP s1 166 a none) := stC.p
  generalize cSP s1 166 a none = s2 at c2 ⊢
  have c3 : stC G H r a w s2 (cSI s2 165 a tag) := stC.i (Or.inr (Or.inl rfl))
  generalize cSI s2 165 a tag = s3 at c3 ⊢
  have c4 : stC G H r a w s3 (cSI s3 164 a metric) := stC.i (Or.inr (Or.inl rfl))
  generalize cSI s3 164 a metric = s4 at c4 ⊢
  exact (((c1.tr c2).tr c3).tr c4).tr (stC.i (Or.inr (Or.inl rfl)))
theorem stC.bg {p : Nat} {tag metric : Int32} : stC G H r a w s (bgS s a p (H 160 a) (H 161 a) (H 162 a) tag metric) := by
  rw [bgS_e]
  exact stC.b1.tr stC.b2
theorem stC.fr (c : stC G H r a w s s') (hT : TY cNo H s) (k1 : (s.K (G 1 r)).1 = 26) (ka : (s.K a).1 = 24) (kw : (s.K w).1 = 145) : fr [24, 28, 36, 37, 38] [(166, 24)] [145] s s' := by
  obtain ⟨hK, hP, hP6, hQ, hE, hI, hJ⟩ := c
  have ktb := (hT.p k1 187 28).2
  have k160 := (hT.p ka 160 36).2
  have k161 := (hT.p ka 161 37).2
  have k162 := (hT.p ka 162 38).2
  intro b hb
  refine ⟨by rw [hK], fun hv => ?_, fun g hg => ?_, fun hv => hQ b (fun z => hv (by rw [z, kw]; decide))⟩
  · have ne : ∀ v, v ∈ [24, 28, 36, 37, 38] → ∀ c, (s.K c).1 = v → b ≠ c := fun v hv' c hc z => hv (by rw [z, hc]; exact hv')
    exact ⟨hI b (ne 28 (by decide) _ ktb) (ne 24 (by decide) _ ka) (ne 36 (by decide) _ k160) (ne 37 (by decide) _ k161) (ne 38 (by decide) _ k162), hJ b (ne 36 (by decide) _ k160) (ne 37 (by decide) _ k161) (ne 38 (by decide) _ k162), by rw [hE]⟩
  · by_cases c : g = 166
    · subst c
      exact hP6 b (fun z => hg (by rw [z, ka]; decide))
    · exact hP g b c
theorem rr_st (h : RR G H sa x s t) (hM : MV t) (hr : r < cR t) (e : ∀ b, b ≠ 6 → b ≠ 7 → b ≠ 14 → G' b = G b) (e4 : ∀ r', r' < cR t → r' ≠ r → G' 14 r' = G 14 r' ∧ (∀ j, j < G 14 r' → G' 6 (32 * r' + j) = G 6 (32 * r' + j)) ∧ ∀ j, j < 32 → G' 7 (32 * r' + j) = G 7 (32 * r' + j)) (c : stC G H r a w s s') (ct : stT r t t') (hw : s.P 200 (H 187 (G 1 r)) = some w) (ka : (s.K a).1 = 24) (hS : RSt G' H s' t' r) (h7 : ∀ i j, i < cSt t' r → j < cSt t' r → G' 7 (32 * r + i) = G' 7 (32 * r + j) → i = j) (ha' : ∀ r' j, r' < cR t → r' ≠ r → j < G 14 r' → G 6 (32 * r' + j) ≠ a) (hG6 : ∀ j, j < G' 14 r → G' 6 (32 * r + j) = a ∨ ∃ j0, j0 < G 14 r ∧ G' 6 (32 * r + j) = G 6 (32 * r + j0)) : RR G' H sa x s' t' := by
  have hq := h.q.1
  have hT := hq.ty
  have hx := hq.1.1
  have k1 := (hq.rt hr).1.1
  have kw : (s.K w).1 = 145 := by
    obtain ⟨-, -, -, w', cap, b1, b2, -⟩ := (hq.st hr).1
    rw [hw] at b1
    cases b1
    rw [b2]
  have f := c.fr hT k1 ka kw
  have ktb := (hT.p k1 187 28).2
  have k160 := (hT.p ka 160 36).2
  have k161 := (hT.p ka 161 37).2
  have k162 := (hT.p ka 162 38).2
  obtain ⟨hK, hP, hP6, hQ, hE, hI, hJ⟩ := c
  obtain ⟨m, m46, mI, mJ⟩ := ct
  have eR : cR t' = cR t := by unfold cR; rw [m.S 37 (by decide)]
  have v24 : ∀ c, (s.K c).1 = 24 → c ≠ a → ∀ g, s'.I g c = s.I g c := fun c hc hne => hI c (ne_ro hc ktb) hne (ne_ro hc k160) (ne_ro hc k161) (ne_ro hc k162)
  have hg : RGl G' H sa x s' := by
    refine RGl.v3 hq.1 hK (fun g b h1 h2 => hP g b h1) f rfl rfl rfl ?_ (fun a b d ha hb ea eb => ?_) fun a ha => ?_
    · obtain ⟨n, hn⟩ := hq.1.2.2.2.2.1
      rw [e 15 (by decide) (by decide) (by decide), e 16 (by decide) (by decide) (by decide)]
      exact ⟨n, hn.fr f (hT.p hx 237 29).2 (by decide) (by decide) (by decide) (by decide)⟩
    · rw [hP 200 _ (by decide)] at ea eb
      exact hq.1.2.2.2.2.2.2.2.2.1 a b d ha hb ea eb
    · rw [hP 200 _ (by decide)]
      exact hq.1.2.2.2.2.2.2.2.2.2.2.2.2.2.2.2.2 a ha
  have hi : RIn G' t' := by
    obtain ⟨a0, a1, a2, a3, a4, a5, a6, a8, a9, a10, a7⟩ := hq.2.1
    have eL : cL t' = cL t := by unfold cL; rw [m.S 17 (by decide)]
    have eS : cS' t' = cS' t := by unfold cS'; rw [m.S 27 (by decide)]
    have eI : ∀ r, cI t' r = cI t r := fun r => by unfold cI; rw [m.I 70 (by decide)]
    unfold RIn
    rw [e 0 (by decide) (by decide) (by decide), e 1 (by decide) (by decide) (by decide), e 2 (by decide) (by decide) (by decide), e 3 (by decide) (by decide) (by decide), e 4 (by decide) (by decide) (by decide), e 5 (by decide) (by decide) (by decide), e 8 (by decide) (by decide) (by decide), e 9 (by decide) (by decide) (by decide), e 10 (by decide) (by decide) (by decide), e 13 (by decide) (by decide) (by decide), eR, eL, eS]
    simp only [eI]
    refine ⟨a0, a1, a2, a3, a4, a5, ?_, a8, a9, a10, ?_⟩
    · intro r1 r2 j1 j2 h1 h2 hj1 hj2 z
      have cross : ∀ r' j j', r' < cR t → r' ≠ r → j < G' 14 r → j' < G 14 r' → G' 6 (32 * r + j) ≠ G 6 (32 * r' + j') := fun r' j j' hr' hne hj hj' z => by
        rcases hG6 j hj with q | ⟨j0, q1, q2⟩
        · exact ha' r' j' hr' hne hj' (by rw [← z]; exact q)
        · rw [q2] at z
          have hb := (hq.st hr).1.2.2.1
          have hb' := (hq.st hr').1.2.2.1
          have := a6 r r' j0 j' hr hr' q1 hj' z
          omega
      by_cases c1 : r1 = r
      · by_cases c2 : r2 = r
        · subst c1
          subst c2
          obtain ⟨w', cap, -, -, -, -, -, -, -, d8⟩ := hS.1.2.2.2
          rw [d8 j1 j2 hj1 hj2 z]
        · rw [(e4 r2 h2 c2).1] at hj2
          rw [c1, (e4 r2 h2 c2).2.1 j2 hj2] at z
          rw [c1] at hj1
          exact absurd z (cross r2 j1 j2 h2 c2 hj1 hj2)
      · rw [(e4 r1 h1 c1).1] at hj1
        rw [(e4 r1 h1 c1).2.1 j1 hj1] at z
        by_cases c2 : r2 = r
        · rw [c2] at z hj2
          exact absurd z.symm (cross r1 j2 j1 h1 c1 hj2 hj1)
        · rw [(e4 r2 h2 c2).1] at hj2
          rw [(e4 r2 h2 c2).2.1 j2 hj2] at z
          exact a6 r1 r2 j1 j2 h1 h2 hj1 hj2 z
    · intro r' j hr' hj j' hj' z
      by_cases c : r' = r
      · subst c
        exact h7 j j' hj hj' z
      · rw [m46 r' c] at hj hj'
        have h32 := (hM.st hr').2
        have hj2 : j < cSt t r' := hj
        have hj3 : j' < cSt t r' := hj'
        rw [(e4 r' hr' c).2.2 j (by omega), (e4 r' hr' c).2.2 j' (by omega)] at z
        exact a7 r' j hr' hj j' hj' z
  refine rr_tb h hM (fun b hb => e b (fun z => hb (by rw [z]; decide)) (fun z => hb (by rw [z]; decide)) (fun z => hb (by rw [z]; decide))) hg hi f.wk (m.wk (by decide)) (fun r' hr' => ?_) fun r' hr' => ?_
  · have := (f.v (hq.rt hr').1.1 (by decide)).1
    exact ⟨this 190, this 192⟩
  · have k1' := (hq.rt hr').1.1
    refine ⟨(hq.rt hr').fr hT hx f hg.2.2.1 m rfl rfl rfl rfl, ?_, ?_⟩
    · have := (hq.tb hr').fr hT k1' f ((f.v k1' (by decide)).1 199) m rfl rfl rfl rfl
      unfold RTb RW ifp at this ⊢
      rw [e 1 (by decide) (by decide) (by decide), e 2 (by decide) (by decide) (by decide), e 4 (by decide) (by decide) (by decide), e 13 (by decide) (by decide) (by decide)]
      exact this
    · by_cases c : r' = r
      · subst c; exact hS
      · have hne' : G 1 r' ≠ G 1 r := fun z => c (hq.2.1.2.1 r' r hr' hr z)
        obtain ⟨b0, b1, b2⟩ := hq.st hr'
        have en : cSt t' r' = cSt t r' := by unfold cSt; rw [m46 r' c]
        obtain ⟨e14, e6, e7⟩ := e4 r' hr' c
        obtain ⟨c1, c2, c3, w', cap, d1, d2, d3, d4, d5, d6, d7, d8⟩ := b0
        have k28 := (hT.p k1' 187 28).2
        have i28 := hI (H 187 (G 1 r')) (fun z => hne' (hT.i k1' k1 187 (by decide) z)) (ne_ro k28 ka) (ne_ro k28 k160) (ne_ro k28 k161) (ne_ro k28 k162)
        have hww : w' ≠ w := fun z => by
          rw [z] at d1
          exact hne' (hT.i k1' k1 187 (by decide) (hq.1.2.2.2.2.2.2.2.2.1 _ _ w (okr k28 10) (okr ktb 10) d1 hw))
        have c2' : cSt t r' ≤ G 14 r' := c2
        have h32 := (hM.st hr').2
        have v36 : ∀ c, (s.K c).1 = 24 → c ≠ a → (∀ g, s'.I g (H 160 c) = s.I g (H 160 c)) ∧ ∀ g, s'.J g (H 160 c) = s.J g (H 160 c) := fun c hc hna => by
          have kc := (hT.p hc 160 36).2
          exact ⟨hI _ (ne_ro kc ktb) (ne_ro kc ka) (fun z => hna (hT.i hc ka 160 (by decide) z)) (ne_ro kc k161) (ne_ro kc k162), hJ _ (fun z => hna (hT.i hc ka 160 (by decide) z)) (ne_ro kc k161) (ne_ro kc k162)⟩
        have row : ∀ j, j < cSt t r' → (s.K (G 6 (32 * r' + j))).1 = 24 ∧ G 6 (32 * r' + j) ≠ a := fun j hj => ⟨(d6 j (by omega)).2, ha' r' j hr' c (by omega)⟩
        unfold RSt
        rw [e 1 (by decide) (by decide) (by decide), show (t'.I 46 r').toNatClampNeg = (t.I 46 r').toNatClampNeg from en, e14]
        refine ⟨⟨by rw [i28]; exact c1, c2, c3, w', cap, by rw [hP 200 _ (by decide)]; exact d1, by rw [hK]; exact d2, d3, d4, d5, fun j hj => ?_, fun j hj => by rw [hQ w' hww]; exact d7 j hj, fun i j hi hj z => ?_⟩, fun j hj => ?_, fun i j hij hj => ?_⟩
        · dsimp only
          rw [hQ w' hww, hK, e6 j hj]; exact d6 j hj
        · dsimp only at z
          rw [e6 i hi, e6 j hj] at z; exact d8 i j hi hj z
        · have hj2 : j < cSt t r' := hj
          obtain ⟨r1, r2⟩ := row j hj
          obtain ⟨q1, q2, q3, q4⟩ := b1 j hj
          have q1' : G 7 (32 * r' + j) < cSt t r' := q1
          obtain ⟨w1, w2⟩ := v36 _ r1 r2
          rw [e7 j (by omega), e6 j (by omega), mI 47 (by decide) _ (by omega), mJ 48 (by decide) _ (by omega), mJ 49 (by decide) _ (by omega), mI 50 (by decide) _ (by omega), mI 51 (by decide) _ (by omega), mI 52 (by decide) _ (by omega), v24 _ r1 r2, v24 _ r1 r2]
          refine ⟨q1, ?_, q3, q4⟩
          obtain ⟨y1, y2, y3, y4⟩ := q2
          exact ⟨by rw [w1]; exact y1, by rw [w2]; exact y2, by rw [w2]; exact y3, by rw [w1]; exact y4⟩
        · have hj2 : j < cSt t r' := hj
          have ky : ∀ j, j < cSt t r' → cPk s' (H 160 (G 6 (32 * r' + j))) = cPk s (H 160 (G 6 (32 * r' + j))) := fun j hj => by
            obtain ⟨r1, r2⟩ := row j hj
            obtain ⟨w1, w2⟩ := v36 _ r1 r2
            unfold cPk
            rw [w1, w1, w2, w2]
          rw [e6 i (by omega), e6 j (by omega), ky i (by omega), ky j hj]
          exact b2 i j hij hj
theorem mv_st (h : MV t) (hr : r < cR t) (c : stT r t t') (h5 : rng (t'.I 46 r) 0 32) (hrow : ∀ k, k < cSt t' r → lnOk (t'.I 47 (32 * r + k)) (t'.I 50 (32 * r + k)) ∧ rng (t'.I 51 (32 * r + k)) 1 15 ∧ rng (t'.I 52 (32 * r + k)) 0 65535) : MV t' := by
  obtain ⟨m, m46, mI, mJ⟩ := c
  refine h.tb (m.wk (by decide)) (fun r' hr' => ?_) fun r' h1 h2 => ?_
  · obtain ⟨a1, a2, a3, a4, a5, a6⟩ := h.r hr'
    have h32 := (h.st hr').2
    have e4 : cI t' r' = cI t r' := by unfold cI; rw [m.I 70 (by decide)]
    have e5 : cN t' r' = cN t r' := by unfold cN; rw [m.I 105 (by decide)]
    have e1 : cL t' = cL t := by unfold cL; rw [m.S 17 (by decide)]
    have e2 : cS' t' = cS' t := by unfold cS'; rw [m.S 27 (by decide)]
    have mid : rng (t'.I 46 r') 0 32 ∧ ∀ k, k < (t'.I 46 r').toNatClampNeg → lnOk (t'.I 47 (32 * r' + k)) (t'.I 50 (32 * r' + k)) ∧ rng (t'.I 51 (32 * r' + k)) 1 15 ∧ rng (t'.I 52 (32 * r' + k)) 0 65535 := by
      by_cases c : r' = r
      · subst c; exact ⟨h5, hrow⟩
      · rw [m46 r' c]
        refine ⟨a4, fun k hk => ?_⟩
        have hk' : k < cSt t r' := hk
        rw [mI 47 (by decide) _ (by omega), mI 50 (by decide) _ (by omega), mI 51 (by decide) _ (by omega), mI 52 (by decide) _ (by omega)]
        exact a5 k hk
    unfold mVr mVi mRw mKy
    rw [e4, e5, e1, e2, m.J 38 (by decide), m.I 39 (by decide), m.I 40 (by decide), m.I 41 (by decide), m.I 42 (by decide), m.I 53 (by decide), m.I 54 (by decide), m.I 57 (by decide), m.I 58 (by decide), m.I 59 (by decide), m.I 60 (by decide), m.I 61 (by decide), m.I 62 (by decide), m.I 63 (by decide), m.I 64 (by decide), m.I 65 (by decide), m.I 66 (by decide), m.I 67 (by decide), m.I 68 (by decide), m.I 69 (by decide), m.I 70 (by decide), m.I 71 (by decide), m.I 72 (by decide), m.J 73 (by decide), m.I 74 (by decide), m.I 75 (by decide), m.I 78 (by decide), m.I 79 (by decide), m.I 80 (by decide), m.I 82 (by decide), m.I 83 (by decide), m.I 84 (by decide), m.I 85 (by decide), m.I 87 (by decide), m.I 88 (by decide), m.I 90 (by decide), m.I 91 (by decide), m.I 94 (by decide), m.I 95 (by decide), m.I 96 (by decide), m.I 99 (by decide), m.I 100 (by decide), m.I 105 (by decide), m.I 106 (by decide), m.J 107 (by decide), m.J 108 (by decide), m.I 109 (by decide), m.I 110 (by decide), m.I 111 (by decide), m.I 112 (by decide), m.I 113 (by decide), m.J 114 (by decide), m.J 115 (by decide), m.I 116 (by decide), m.I 119 (by decide)]
    exact ⟨a1, a2, a3, mid.1, mid.2, a6⟩
  · obtain ⟨-, -, -, -, -, z⟩ := h
    obtain ⟨w1, w2⟩ := z.2.2.1 r' h1 h2
    rw [m.I 105 (by decide), m46 r' (by omega), m.I 45 (by decide)]
    exact ⟨w1.1, w1.2.2.2.2.2.2, w2⟩
end St
