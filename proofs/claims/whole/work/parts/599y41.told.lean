/-! A router's own routes are others: it settles. -/
def pA (G : Nat → Nat → Nat) (r : Nat) : Nat := potC G r + 5 * (32 - G 14 r)
def cpO (s : cS) (G H : Nat → Nat → Nat) (r : Nat) : Nat := (s.K ((s.P 200 (H 187 (G 1 r))).getD 0)).2
def pB (s : cS) (G H : Nat → Nat → Nat) (r : Nat) : Nat := potS s G H r + (24 * (32 - G 14 r) + (4 * 32 - 2 * cpO s G H r))
/-- what stands behind a line that tells or takes away an own route -/
def StK (G H : Nat → Nat → Nat) (sa : Nat → Nat) (x : Nat) (s : cS) (r : Nat) (t' : moS) (kc ks : Nat) (Q : cS → Nat → Nat → Prop) : Prop := ∀ G' H' s' kc' ks', RR G' H' sa x s' t' → (∀ b, b ≠ 4 → b ≠ 13 → b ≠ 6 → b ≠ 7 → b ≠ 14 → G' b = G b) → (∀ r', r' ≠ r → G' 13 r' = G 13 r' ∧ G' 14 r' = G 14 r') → hA H H' s → fr Rtb Ptb Qtb s s' → (∀ b g, b ≠ H 186 (G 1 r) → b ≠ H 187 (G 1 r) → (s.K b).1 ≠ 0 → g ≠ 166 → s'.P g b = s.P g b) → kc + pA G' r ≤ kc' + pA G r → ks + pB s' G' H' r ≤ ks' + pB s G H r → Q s' kc' ks'
section Td
variable {G G1 H H1 : Nat → Nat → Nat} {sa : Nat → Nat} {x r p kc ks kc1 ks1 : Nat} {s s1 : cS} {t t1 : moS} {f n : Int32} {h l : Int64} {O O1 : List Pf} {Os : Nat → List Pf}
theorem pB_c {w cap u : Nat} (h1 : s.P 200 (H 187 (G 1 r)) = some w) (h2 : s.K w = (u, cap)) : pB s G H r = potS s G H r + (24 * (32 - G 14 r) + (4 * 32 - 2 * cap)) := by
  unfold pB cpO
  rw [h1]
  show potS s G H r + (24 * (32 - G 14 r) + (4 * 32 - 2 * (s.K w).2)) = _
  rw [h2]
/-- from the state where its own routes are told already -/
theorem st_set (hM : MV t) (hr : r < cR t) (hE : EX Os t) (hR1 : RR G1 H1 sa x s1 t1) (hM1 : MV t1) (c1 : stT r t t1) (hf : lnOk f n) (hpx : isPx h l n) (hp : PF s1 p (fam f) h l n) (h5 : okO s1 5 p) (hrole : (s1.K p).1 = 18 ∨ (s1.K p).1 = 19 ∨ (s1.K p).1 = 36) (hO1 : ∀ k, k < cSt t1 r → stP t1 (32 * r + k) ∈ O1) (hsub : ∀ P, P ∈ Os r → P ∈ O1) (hl : O1.length ≤ 760) (hP : (f, h, l, n) ∈ O1) (hpx1 : ∀ k, k < cSt t1 r → isPx (t1.J 48 (32 * r + k)) (t1.J 49 (32 * r + k)) (t1.I 50 (32 * r + k))) (hdF : ∀ P : Pf, lnOk P.1 P.2.2.2 → P ≠ (f, h, l, n) → dF t1 r P = dF t r P) (hkc : potC G1 r ≤ kc1) (hks : potS s1 G1 H1 r ≤ ks1) : ∃ t', M_settle t1 (nI r) = some t' ∧ MV t' ∧ EX (fun r' => if r' = r then O1 else Os r') t' ∧ mfr (Wst ++ Wrow) t t' ∧ ∀ Q, SetR G1 H1 sa x s1 t1 r t' kc1 ks1 Q → C_Rr_settle sa (G1 1 r) (some p) s1 kc1 ks1 Q := by
  have m := c1.1
  have eR : cR t1 = cR t := by unfold cR; rw [m.S 37 (by decide)]
  have hr1 : r < cR t1 := by rw [eR]; exact hr
  obtain ⟨⟨o1, o2, D0, D1, l0, l1, hrows⟩, se, px⟩ := hE r hr
  have eN : cN t1 r = cN t r := by unfold cN; rw [m.I 105 (by decide)]
  have eI : cI t1 r = cI t r := by unfold cI; rw [m.I 70 (by decide)]
  have ow1 : OWr O1 t1 r := by
    refine ⟨hO1, fun y hy hz => ?_, D0, D1, l0, l1, fun j hj => ?_⟩
    · rw [eI] at hy
      rw [m.I 75 (by decide)] at hz
      have := hsub _ (o2 y hy hz)
      unfold neP at this ⊢
      rw [m.J 76 (by decide), m.J 77 (by decide), m.I 78 (by decide)]
      exact this
    · rw [eN] at hj
      have := hrows j hj
      unfold pfR at this ⊢
      rw [m.I 106 (by decide), m.J 107 (by decide), m.J 108 (by decide), m.I 109 (by decide)]
      exact this.imp_left (hsub _)
  obtain ⟨K, kb, sub, back⟩ := ow1.kb hl
  obtain ⟨t', e1, e2, e3, e4, e5, e6⟩ := set_one (kc := kc1) (ks := ks1) hR1 hM1 hr1 hf hpx hp h5 hrole kb (fun k hk => sub _ (hO1 k hk)) (fun y hy hz => sub _ (ow1.2.1 y hy hz)) (sub _ hP) (fun z P hP' hne => cov_st hM hM1 hr m (se (by rw [m.I 39 (by decide)] at z; exact z)) hP' (hdF P hP' hne)) hkc hks
  refine ⟨t', e1, e2, fun r' hr' => ?_, (m.wk (by decide)).tr (e3.1.wk (by decide)), e6⟩
  have hr'' : r' < cR t := by
    have : cR t' = cR t1 := by unfold cR; rw [e3.1.S 37 (by decide)]
    rw [this, eR] at hr'
    exact hr'
  show EXr (if r' = r then O1 else Os r') t' r'
  by_cases c : r' = r
  · subst c
    rw [if_pos rfl]
    have m' := e3.1
    have ec : cSt t' r' = cSt t1 r' := by unfold cSt; rw [m'.I 46 (by decide)]
    have ei : cI t' r' = cI t1 r' := by unfold cI; rw [m'.I 70 (by decide)]
    refine ⟨⟨?_, ?_, back t' e5⟩, fun z => e4 (by rw [m'.I 39 (by decide)] at z; exact z), ?_⟩
    · rw [ec]; unfold stP; rw [m'.I 47 (by decide), m'.J 48 (by decide), m'.J 49 (by decide), m'.I 50 (by decide)]; exact hO1
    · rw [ei]; unfold neP; rw [m'.I 75 (by decide), m'.J 76 (by decide), m'.J 77 (by decide), m'.I 78 (by decide)]; exact ow1.2.1
    · rw [ec, m'.J 48 (by decide), m'.J 49 (by decide), m'.I 50 (by decide)]; exact hpx1
  · rw [if_neg c]
    exact ((hE r' hr'').st hM hM1 hr'' c1 c).rw hM1 e2 (by rw [eR]; exact hr'') e3 c
/-- both parts together -/
theorem st_join {Q : cS → Nat → Nat → Prop} {t' : moS} (kk : StK G H sa x s r t' kc ks Q) (g1 : ∀ b, b ≠ 6 → b ≠ 7 → b ≠ 14 → G1 b = G b) (g2 : ∀ r', r' ≠ r → G1 14 r' = G 14 r') (hA1 : hA H H1 s) (k26 : (s.K (G 1 r)).1 ≠ 0) (f1 : fr Rtb Ptb Qtb s s1) (p1 : ∀ b g, b ≠ H 187 (G 1 r) → (s.K b).1 ≠ 0 → g ≠ 166 → s1.P g b = s.P g b) (k186 : (s.K (H 186 (G 1 r))).1 ≠ 0 ∧ (s.K (H 187 (G 1 r))).1 ≠ 0 ∧ H 186 (G 1 r) ≠ H 187 (G 1 r)) (kw : ∃ w, s.P 200 (H 186 (G 1 r)) = some w ∧ (s.K w).1 ≠ 0) (kw1 : ∃ w, s1.P 200 (H 187 (G 1 r)) = some w ∧ (s1.K w).1 ≠ 0) (b1 : kc + 5 * (32 - G1 14 r) ≤ kc1 + 5 * (32 - G 14 r)) (b2 : ks + (24 * (32 - G1 14 r) + (4 * 32 - 2 * cpO s1 G1 H1 r)) ≤ ks1 + (24 * (32 - G 14 r) + (4 * 32 - 2 * cpO s G H r))) : SetR G1 H1 sa x s1 t1 r t' kc1 ks1 Q ∧ potS s1 G1 H1 r = potS s G H r ∧ potC G1 r = potC G r := by
  have e1 : G1 1 = G 1 := g1 1 (by decide) (by decide) (by decide)
  have e13 : G1 13 = G 13 := g1 13 (by decide) (by decide) (by decide)
  have eH : ∀ g, H1 g (G 1 r) = H g (G 1 r) := fun g => hA1 g _ k26
  have pC1 : potC G1 r = potC G r := by unfold potC; rw [e13]
  have pS1 : potS s1 G1 H1 r = potS s G H r := by
    obtain ⟨w, y1, y2⟩ := kw
    have e200 : s1.P 200 (H 186 (G 1 r)) = some w := by rw [p1 _ 200 k186.2.2 k186.1 (by decide)]; exact y1
    unfold potS cpT
    rw [e1, eH, e13, e200, y1]
    show _ + (_ - 2 * (s1.K w).2) = _ + (_ - 2 * (s.K w).2)
    rw [(f1 w y2).1]
  refine ⟨?_, pS1, pC1⟩
  intro G2 H2 s2 kc2 ks2 hR h1 h2 hA2 f2 p2 c1 c2
  have e14 : G2 14 = G1 14 := h1 14 (by decide) (by decide)
  have e21 : G2 1 = G 1 := (h1 1 (by decide) (by decide)).trans e1
  have eH2 : ∀ g, H2 g (G 1 r) = H g (G 1 r) := fun g => by rw [← eH]; exact hA2 g _ (by rw [(f1 _ k26).1]; exact k26)
  rw [e1, eH] at p2
  have cS2 : cpO s2 G2 H2 r = cpO s1 G1 H1 r := by
    obtain ⟨w, y1, y2⟩ := kw1
    have e200 : s2.P 200 (H 187 (G 1 r)) = some w := by
      rw [p2 _ 200 (fun z => k186.2.2 z.symm) (by rw [(f1 _ k186.2.1).1]; exact k186.2.1) (by decide)]; exact y1
    unfold cpO
    rw [e21, eH2, e1, eH, e200, y1]
    show (s2.K w).2 = (s1.K w).2
    rw [(f2 w y2).1]
  refine kk G2 H2 s2 kc2 ks2 hR (fun b h4 h13 h6 h7 h14 => (h1 b h4 h13).trans (g1 b h6 h7 h14)) (fun r' hne => ⟨(h2 r' hne).trans (by rw [e13]), by rw [e14]; exact g2 r' hne⟩) (fun g a ha => (hA2 g a (by rw [(f1 a ha).1]; exact ha)).trans (hA1 g a ha)) (f1.tr f2) (fun b g hb hb' hk hg => (p2 b g hb (by rw [(f1 b hk).1]; exact hk) hg).trans (p1 b g hb' hk hg)) ?_ ?_
  · unfold pA
    rw [e14]
    rw [pC1] at c1
    omega
  · unfold pB
    rw [e14, cS2]
    rw [pS1] at c2
    omega
end Td
