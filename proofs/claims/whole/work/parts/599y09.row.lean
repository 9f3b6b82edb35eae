/-! One route of a router's table is another, is new, or is taken out: the relation behind it. -/
abbrev Wrow : List Nat := [44, 45, 105, 106, 107, 108, 109, 110, 111, 112, 113, 114, 115, 116, 117, 118, 119, 120, 121, 122, 153, 154, 155, 156]
theorem ne_ro {s : cS} {b c u v : Nat} (h1 : (s.K b).1 = u) (h2 : (s.K c).1 = v) (h : u ≠ v := by decide) : b ≠ c := fun e => h (by rw [← h1, ← h2, e])
section Rw
variable {G G' H : Nat → Nat → Nat} {sa : Nat → Nat} {x : Nat} {s s' : cS} {t t' : moS} {r a w : Nat}
/-- a row that is as it was, at another place -/
theorem RW.mv {c k k' : Nat} (h : RW G H s t c k) (e2 : G' 2 = G 2) (v1 : ∀ g, s'.I g c = s.I g c) (p1 : s'.P 166 c = s.P 166 c) (v2 : (∀ g, s'.I g (H 160 c) = s.I g (H 160 c)) ∧ ∀ g, s'.J g (H 160 c) = s.J g (H 160 c)) (v3 : (∀ g, s'.I g (H 161 c) = s.I g (H 161 c)) ∧ ∀ g, s'.J g (H 161 c) = s.J g (H 161 c)) (v4 : (∀ g, s'.I g (H 162 c) = s.I g (H 162 c)) ∧ ∀ g, s'.J g (H 162 c) = s.J g (H 162 c)) (mi : ∀ g, g ∈ fRI → t'.I g k' = t.I g k) (mj : ∀ g, g ∈ fRJ → t'.J g k' = t.J g k) : RW G' H s' t' c k' := by
  unfold RW PF ifp at h ⊢
  rw [mi 106 (by decide), mi 109 (by decide), mi 110 (by decide), mi 111 (by decide), mi 112 (by decide), mi 113 (by decide), mi 119 (by decide), mi 120 (by decide), mi 121 (by decide), mi 122 (by decide), mj 107 (by decide), mj 108 (by decide), mj 114 (by decide), mj 115 (by decide), mj 117 (by decide), mj 118 (by decide), p1, e2]
  simp only [v1, v2.1, v2.2, v3.1, v3.2, v4.1, v4.2]
  exact h
/-- what a change of row a of router r leaves in the class -/
def rwC (G H : Nat → Nat → Nat) (r a w : Nat) (s s' : cS) : Prop := s'.K = s.K ∧ (∀ g b, g ≠ 166 → s'.P g b = s.P g b) ∧ (∀ b, b ≠ a → s'.P 166 b = s.P 166 b) ∧ (∀ b, b ≠ w → s'.Q b = s.Q b) ∧ (∀ b, b ≠ H 196 (G 1 r) → s'.E b = s.E b) ∧ (∀ b, b ≠ H 186 (G 1 r) → b ≠ a → b ≠ H 160 a → b ≠ H 161 a → b ≠ H 162 a → b ≠ G 1 r → (s.K b).1 ≠ 18 → ∀ g, s'.I g b = s.I g b) ∧ ∀ b, b ≠ H 160 a → b ≠ H 161 a → b ≠ H 162 a → (s.K b).1 ≠ 18 → ∀ g, s'.J g b = s.J g b
/-- and in the model -/
def rwT (r : Nat) (t t' : moS) : Prop := mfr Wrow t t' ∧ (∀ j, j ≠ r → t'.I 44 j = t.I 44 j) ∧ (∀ j, j < 11 * r ∨ 11 * r + 11 ≤ j → t'.I 45 j = t.I 45 j) ∧ (∀ j, j ≠ r → t'.I 105 j = t.I 105 j) ∧ (∀ k, k ∈ fRI → ∀ j, j < 2700 * r ∨ 2700 * r + 2700 ≤ j → t'.I k j = t.I k j) ∧ ∀ k, k ∈ fRJ → ∀ j, j < 2700 * r ∨ 2700 * r + 2700 ≤ j → t'.J k j = t.J k j
theorem rwC.fr (c : rwC G H r a w s s') (hT : TY cNo H s) (k1 : (s.K (G 1 r)).1 = 26) (ka : (s.K a).1 = 23) (kw : (s.K w).1 = 135) : fr [9, 10, 11, 18, 23, 26, 27, 104] [(166, 23)] [135] s s' := by
  obtain ⟨hK, hP, hP6, hQ, hE, hI, hJ⟩ := c
  have ktb := (hT.p k1 186 27).2
  have k196 : (s.K (H 196 (G 1 r))).1 = 104 := by rw [(hT.r k1 196 104 11).2]
  have k160 := (hT.p ka 160 9).2
  have k161 := (hT.p ka 161 10).2
  have k162 := (hT.p ka 162 11).2
  intro b hb
  refine ⟨by rw [hK], fun hv => ?_, fun g hg => ?_, fun hv => hQ b (fun z => hv (by rw [z, kw]; decide))⟩
  · have ne : ∀ v, v ∈ [9, 10, 11, 18, 23, 26, 27, 104] → ∀ c, (s.K c).1 = v → b ≠ c := fun v hv' c hc z => hv (by rw [z, hc]; exact hv')
    have n18 : (s.K b).1 ≠ 18 := fun z => hv (by rw [z]; decide)
    exact ⟨hI b (ne 27 (by decide) _ ktb) (ne 23 (by decide) _ ka) (ne 9 (by decide) _ k160) (ne 10 (by decide) _ k161) (ne 11 (by decide) _ k162) (ne 26 (by decide) _ k1) n18, hJ b (ne 9 (by decide) _ k160) (ne 10 (by decide) _ k161) (ne 11 (by decide) _ k162) n18, hE b (ne 104 (by decide) _ k196)⟩
  · by_cases c : g = 166
    · subst c
      exact hP6 b (fun z => hg (by rw [z, ka]; decide))
    · exact hP g b c
/-- another router's table -/
theorem rwC.tb {r' : Nat} (hq : RQ G H sa x s t) (c : rwC G H r a w s s') (ct : rwT r t t') (hr : r < cR t) (hr' : r' < cR t) (hne : r' ≠ r) (hn : cN t r' ≤ 2700) (e : ∀ b, b ≠ 4 → b ≠ 13 → G' b = G b) (e4 : G' 13 r' = G 13 r' ∧ ∀ j, j < G 13 r' → G' 4 (2700 * r' + j) = G 4 (2700 * r' + j)) (hw : s.P 200 (H 186 (G 1 r)) = some w) (ka : (s.K a).1 = 23) (ha' : ∀ j, j < G 13 r' → G 4 (2700 * r' + j) ≠ a) : RRt G H sa x s' t' r' ∧ RTb G' H s' t' r' := by
  have hT := hq.ty
  have hx := hq.1.1
  have k1 := (hq.rt hr).1.1
  have k1' := (hq.rt hr').1.1
  have kw : (s.K w).1 = 135 := by
    obtain ⟨-, -, -, w', cap, b1, b2, -⟩ := (hq.tb hr).1
    rw [hw] at b1
    cases b1
    rw [b2]
  have f := c.fr hT k1 ka kw
  obtain ⟨hK, hP, hP6, hQ, hE, hI, hJ⟩ := c
  obtain ⟨m, m44, m45, m5, mI, mJ⟩ := ct
  have ktb := (hT.p k1 186 27).2
  have k196 : (s.K (H 196 (G 1 r))).1 = 104 := by rw [(hT.r k1 196 104 11).2]
  have k160 := (hT.p ka 160 9).2
  have k161 := (hT.p ka 161 10).2
  have k162 := (hT.p ka 162 11).2
  have hne' : G 1 r' ≠ G 1 r := fun z => hne (hq.2.1.2.1 r' r hr' hr z)
  have i26 := hI (G 1 r') (ne_ro k1' ktb) (ne_ro k1' ka) (ne_ro k1' k160) (ne_ro k1' k161) (ne_ro k1' k162) hne' (by rw [k1']; decide)
  have k27 := (hT.p k1' 186 27).2
  have i27 := hI (H 186 (G 1 r')) (fun z => hne' (hT.i k1' k1 186 (by decide) z)) (ne_ro k27 ka) (ne_ro k27 k160) (ne_ro k27 k161) (ne_ro k27 k162) (ne_ro k27 k1) (by rw [k27]; decide)
  have e104 := hE (H 196 (G 1 r')) (fun z => hne' (hT.i k1' k1 196 (by decide) z))
  have e123 := hE (H 195 (G 1 r')) (ne_ro (u := 123) (by rw [(hT.r k1' 195 123 3).2]) k196)
  have v23 : ∀ c, (s.K c).1 = 23 → c ≠ a → ∀ g, s'.I g c = s.I g c := fun c hc hne => hI c (ne_ro hc ktb) hne (ne_ro hc k160) (ne_ro hc k161) (ne_ro hc k162) (ne_ro hc k1) (by rw [hc]; decide)
  constructor
  · obtain ⟨⟨a1, a2, a3⟩, ⟨nm, b1, b2, b3⟩, d, d2, d3⟩ := hq.rt hr'
    unfold RRt
    rw [m.J 38 (by decide), m.I 39 (by decide), m.I 40 (by decide), m.I 41 (by decide), m.I 42 (by decide), m.I 43 (by decide), m44 r' hne, m.I 70 (by decide), e104, e123]
    simp only [i26]
    refine ⟨⟨by rw [hK]; exact a1, ?_, a3⟩, ⟨nm, ?_, b2.fr f (by decide) (by decide) (by decide) ?_, b3⟩, d, d2, fun i hi => ?_⟩
    · rw [hQ _ (ne_ro (u := 131) (by rw [(hT.r hx 228 131 6).2]) kw)]; exact a2
    · rw [hP 181 _ (by decide)]; exact b1
    · have := hq.1.2.2.1
      unfold TK at this ⊢
      rw [hK]; exact this
    · rw [m45 (11 * r' + i) (by omega)]; exact d3 i hi
  · obtain ⟨b0, b1, b2⟩ := hq.tb hr'
    have en : cN t' r' = cN t r' := by unfold cN; rw [m5 r' hne]
    obtain ⟨c1, c2, c3, w', cap, d1, d2, d3, d4, d5, d6, d7, d8⟩ := b0
    have hww : w' ≠ w := fun z => by
      rw [z] at d1
      exact hne' (hT.i k1' k1 186 (by decide) (hq.1.2.2.2.2.2.2.2.2.1 _ _ w (okr k27 10) (okr ktb 10) d1 hw))
    unfold RTb
    rw [e 1 (by decide) (by decide), en, e4.1]
    refine ⟨⟨by rw [i27]; exact c1, c2, c3, w', cap, by rw [hP 200 _ (by decide)]; exact d1, by rw [hK]; exact d2, d3, d4, d5, fun j hj => ?_, fun j hj => by rw [hQ w' hww]; exact d7 j hj, fun i j hi hj z => ?_⟩, fun j hj => ?_, fun j hj => ?_⟩
    · dsimp only
      rw [hQ w' hww, hK, e4.2 j hj]; exact d6 j hj
    · dsimp only at z
      rw [e4.2 i hi, e4.2 j hj] at z; exact d8 i j hi hj z
    · have hj' : j < G 13 r' := by omega
      have kc := (d6 j hj').2
      have hna := ha' j hj'
      rw [e4.2 j hj']
      have kc9 := (hT.p kc 160 9).2
      have kc10 := (hT.p kc 161 10).2
      have kc11 := (hT.p kc 162 11).2
      refine (b1 j hj).mv (e 2 (by decide) (by decide)) (v23 _ kc hna) (hP6 _ hna) ⟨hI _ (ne_ro kc9 ktb) (ne_ro kc9 ka) (fun z => hna (hT.i kc ka 160 (by decide) z)) (ne_ro kc9 k161) (ne_ro kc9 k162) (ne_ro kc9 k1) (by rw [kc9]; decide), hJ _ (fun z => hna (hT.i kc ka 160 (by decide) z)) (ne_ro kc9 k161) (ne_ro kc9 k162) (by rw [kc9]; decide)⟩ ⟨hI _ (ne_ro kc10 ktb) (ne_ro kc10 ka) (ne_ro kc10 k160) (fun z => hna (hT.i kc ka 161 (by decide) z)) (ne_ro kc10 k162) (ne_ro kc10 k1) (by rw [kc10]; decide), hJ _ (ne_ro kc10 k160) (fun z => hna (hT.i kc ka 161 (by decide) z)) (ne_ro kc10 k162) (by rw [kc10]; decide)⟩ ⟨hI _ (ne_ro kc11 ktb) (ne_ro kc11 ka) (ne_ro kc11 k160) (ne_ro kc11 k161) (fun z => hna (hT.i kc ka 162 (by decide) z)) (ne_ro kc11 k1) (by rw [kc11]; decide), hJ _ (ne_ro kc11 k160) (ne_ro kc11 k161) (fun z => hna (hT.i kc ka 162 (by decide) z)) (by rw [kc11]; decide)⟩ (fun g hg => mI g hg _ (by omega)) fun g hg => mJ g hg _ (by omega)
    · have hj' : j < G 13 r' := by omega
      rw [e4.2 j hj', mI 110 (by decide) _ (by omega), v23 _ (d6 j hj').2 (ha' j hj'), i26]
      exact b2 j hj
theorem rr_row (h : RR G H sa x s t) (hM : MV t) (hr : r < cR t) (e : ∀ b, b ≠ 4 → b ≠ 13 → G' b = G b) (e4 : ∀ r', r' < cR t → r' ≠ r → G' 13 r' = G 13 r' ∧ ∀ j, j < G 13 r' → G' 4 (2700 * r' + j) = G 4 (2700 * r' + j)) (c : rwC G H r a w s s') (ct : rwT r t t') (hw : s.P 200 (H 186 (G 1 r)) = some w) (ka : (s.K a).1 = 23) (h26 : s'.I 190 (G 1 r) = s.I 190 (G 1 r) ∧ s'.I 192 (G 1 r) = s.I 192 (G 1 r)) (hrt : RRt G H sa x s' t' r) (h199 : ¬ s.I 199 (G 1 r) < s'.I 199 (G 1 r)) (hTa : RTa s' (H 186 (G 1 r)) 135 23 (cN t' r) (G' 13 r) 2700 (fun j => G' 4 (2700 * r + j))) (ha' : ∀ r' j, r' < cR t → r' ≠ r → j < G 13 r' → G 4 (2700 * r' + j) ≠ a) (hG4 : ∀ j, j < G' 13 r → G' 4 (2700 * r + j) = a ∨ ∃ j0, j0 < G 13 r ∧ G' 4 (2700 * r + j) = G 4 (2700 * r + j0)) (hrows : ∀ j, j < cN t' r → (G' 4 (2700 * r + j) = a ∧ RW G' H s' t' a (2700 * r + j) ∧ (t'.I 110 (2700 * r + j) = 2 → ¬ s'.I 170 a < s'.I 199 (G 1 r))) ∨ ∃ j0, j0 < cN t r ∧ G 4 (2700 * r + j0) ≠ a ∧ G' 4 (2700 * r + j) = G 4 (2700 * r + j0) ∧ (∀ k, k ∈ fRI → t'.I k (2700 * r + j) = t.I k (2700 * r + j0)) ∧ ∀ k, k ∈ fRJ → t'.J k (2700 * r + j) = t.J k (2700 * r + j0)) : RR G' H sa x s' t' := by
  have hq := h.q.1
  have hT := hq.ty
  have hx := hq.1.1
  have k1 := (hq.rt hr).1.1
  have kw : (s.K w).1 = 135 := by
    obtain ⟨-, -, -, w', cap, b1, b2, -⟩ := (hq.tb hr).1
    rw [hw] at b1
    cases b1
    rw [b2]
  have f := c.fr hT k1 ka kw
  have ktb := (hT.p k1 186 27).2
  have k160 := (hT.p ka 160 9).2
  have k161 := (hT.p ka 161 10).2
  have k162 := (hT.p ka 162 11).2
  have oth := fun r' (hr' : r' < cR t) (hne : r' ≠ r) => c.tb hq ct hr hr' hne (by have := hM.nRo hr'; omega) e (e4 r' hr' hne) hw ka (fun j hj => ha' r' j hr' hne hj)
  obtain ⟨hK, hP, hP6, hQ, hE, hI, hJ⟩ := c
  obtain ⟨m, m44, m45, m5, mI, mJ⟩ := ct
  have v23 : ∀ c, (s.K c).1 = 23 → c ≠ a → ∀ g, s'.I g c = s.I g c := fun c hc hne => hI c (ne_ro hc ktb) hne (ne_ro hc k160) (ne_ro hc k161) (ne_ro hc k162) (ne_ro hc k1) (by rw [hc]; decide)
  have hg : RGl G' H sa x s' := by
    refine RGl.v3 hq.1 hK (fun g b h1 h2 => hP g b h1) f rfl rfl rfl ?_ (fun a b d ha hb ea eb => ?_) fun a ha => ?_
    · obtain ⟨n, hn⟩ := hq.1.2.2.2.2.1
      rw [e 15 (by decide) (by decide), e 16 (by decide) (by decide)]
      exact ⟨n, hn.fr f (hT.p hx 237 29).2 (by decide) (by decide) (by decide) (by decide)⟩
    · rw [hP 200 _ (by decide)] at ea eb
      exact hq.1.2.2.2.2.2.2.2.2.1 a b d ha hb ea eb
    · rw [hP 200 _ (by decide)]
      exact hq.1.2.2.2.2.2.2.2.2.2.2.2.2.2.2.2.2 a ha
  have hi : RIn G' t' := by
    have h0 := hq.2.1.fr m rfl
    obtain ⟨a0, a1, a2, a3, a4, a5, a6, a8, a9, a10, a7⟩ := h0
    have eR : cR t' = cR t := by unfold cR; rw [m.S 37 (by decide)]
    unfold RIn
    rw [e 0 (by decide) (by decide), e 1 (by decide) (by decide), e 2 (by decide) (by decide), e 3 (by decide) (by decide), e 5 (by decide) (by decide), e 6 (by decide) (by decide), e 7 (by decide) (by decide), e 8 (by decide) (by decide), e 9 (by decide) (by decide), e 10 (by decide) (by decide), e 14 (by decide) (by decide)]
    refine ⟨a0, a1, a2, a3, ?_, a5, a6, a8, a9, a10, a7⟩
    rw [eR] at a4 ⊢
    intro r1 r2 j1 j2 h1 h2 hj1 hj2 z
    have cross : ∀ r' j j', r' < cR t → r' ≠ r → j < G' 13 r → j' < G 13 r' → G' 4 (2700 * r + j) ≠ G 4 (2700 * r' + j') := fun r' j j' hr' hne hj hj' z => by
      rcases hG4 j hj with q | ⟨j0, q1, q2⟩
      · exact ha' r' j' hr' hne hj' (by rw [← z]; exact q)
      · rw [q2] at z
        have hb := (hq.tb hr).1.2.2.1
        have hb' := (hq.tb hr').1.2.2.1
        have := a4 r r' j0 j' hr hr' q1 hj' z
        omega
    by_cases c1 : r1 = r
    · by_cases c2 : r2 = r
      · subst c1
        subst c2
        have := hTa.2.2.2
        obtain ⟨w', cap, -, -, -, -, -, -, -, d8⟩ := this
        rw [d8 j1 j2 hj1 hj2 z]
      · rw [(e4 r2 h2 c2).1] at hj2
        rw [c1, (e4 r2 h2 c2).2 j2 hj2] at z
        rw [c1] at hj1
        exact absurd z (cross r2 j1 j2 h2 c2 hj1 hj2)
    · rw [(e4 r1 h1 c1).1] at hj1
      rw [(e4 r1 h1 c1).2 j1 hj1] at z
      by_cases c2 : r2 = r
      · rw [c2] at z hj2
        exact absurd z.symm (cross r1 j2 j1 h1 c1 hj2 hj1)
      · rw [(e4 r2 h2 c2).1] at hj2
        rw [(e4 r2 h2 c2).2 j2 hj2] at z
        exact a4 r1 r2 j1 j2 h1 h2 hj1 hj2 z
  refine rr_tb h hM (fun b hb => e b (fun z => hb (by rw [z]; decide)) (fun z => hb (by rw [z]; decide))) hg hi f.wk (m.wk (by decide)) (fun r' hr' => ?_) fun r' hr' => ?_
  · by_cases c : r' = r
    · rw [c]; exact h26
    · have k1' := (hq.rt hr').1.1
      have i26 := hI (G 1 r') (ne_ro k1' ktb) (ne_ro k1' ka) (ne_ro k1' k160) (ne_ro k1' k161) (ne_ro k1' k162) (fun z => c (hq.2.1.2.1 r' r hr' hr z)) (by rw [k1']; decide)
      exact ⟨i26 190, i26 192⟩
  · have k1' := (hq.rt hr').1.1
    have st : RSt G' H s' t' r' := by
      have := (hq.2.2.2.2.2.1 r' hr').2.2.1.fr hT k1' f m rfl rfl rfl rfl
      unfold RSt at this ⊢
      rw [e 1 (by decide) (by decide), e 6 (by decide) (by decide), e 7 (by decide) (by decide), e 14 (by decide) (by decide)]
      exact this
    by_cases c : r' = r
    · subst c
      refine ⟨hrt, ?_, st⟩
      obtain ⟨b0, b1, b2⟩ := hq.tb hr
      obtain ⟨c1, c2, c3, w', cap, d1, d2, d3, d4, d5, d6, d7, d8⟩ := b0
      have main : ∀ j, j < cN t' r' → RW G' H s' t' (G' 4 (2700 * r' + j)) (2700 * r' + j) ∧ (t'.I 110 (2700 * r' + j) = 2 → ¬ s'.I 170 (G' 4 (2700 * r' + j)) < s'.I 199 (G 1 r')) := fun j hj => by
        rcases hrows j hj with ⟨q1, q2, q3⟩ | ⟨j0, q1, hna, q3, q4, q5⟩
        · rw [q1]; exact ⟨q2, q3⟩
        · have kc := (d6 j0 (by omega)).2
          rw [q3]
          have kc9 := (hT.p kc 160 9).2
          have kc10 := (hT.p kc 161 10).2
          have kc11 := (hT.p kc 162 11).2
          refine ⟨(b1 j0 q1).mv (e 2 (by decide) (by decide)) (v23 _ kc hna) (hP6 _ hna) ⟨hI _ (ne_ro kc9 ktb) (ne_ro kc9 ka) (fun z => hna (hT.i kc ka 160 (by decide) z)) (ne_ro kc9 k161) (ne_ro kc9 k162) (ne_ro kc9 k1) (by rw [kc9]; decide), hJ _ (fun z => hna (hT.i kc ka 160 (by decide) z)) (ne_ro kc9 k161) (ne_ro kc9 k162) (by rw [kc9]; decide)⟩ ⟨hI _ (ne_ro kc10 ktb) (ne_ro kc10 ka) (ne_ro kc10 k160) (fun z => hna (hT.i kc ka 161 (by decide) z)) (ne_ro kc10 k162) (ne_ro kc10 k1) (by rw [kc10]; decide), hJ _ (ne_ro kc10 k160) (fun z => hna (hT.i kc ka 161 (by decide) z)) (ne_ro kc10 k162) (by rw [kc10]; decide)⟩ ⟨hI _ (ne_ro kc11 ktb) (ne_ro kc11 ka) (ne_ro kc11 k160) (ne_ro kc11 k161) (fun z => hna (hT.i kc ka 162 (by decide) z)) (ne_ro kc11 k1) (by rw [kc11]; decide), hJ _ (ne_ro kc11 k160) (ne_ro kc11 k161) (fun z => hna (hT.i kc ka 162 (by decide) z)) (by rw [kc11]; decide)⟩ q4 q5, fun z => ?_⟩
          rw [q4 110 (by decide)] at z
          rw [v23 _ kc hna]
          have := b2 j0 q1 z
          rw [Int32.not_lt] at this h199 ⊢
          exact Int32.le_trans h199 this
      unfold RTb
      rw [e 1 (by decide) (by decide)]
      exact ⟨hTa, fun j hj => (main j hj).1, fun j hj => (main j hj).2⟩
    · obtain ⟨o1, o2⟩ := oth r' hr' c
      exact ⟨o1, o2, st⟩
end Rw
