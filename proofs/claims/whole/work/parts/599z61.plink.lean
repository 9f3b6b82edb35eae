/-! link, both sides. -/
section Pl
variable {G H : Nat → Nat → Nat} {sa : Nat → Nat} {x l kc ks : Nat} {s : cS} {t : moS} {Os : Nat → List Pf}
theorem sEl.mf {W : List Nat} {r : Nat} {t0 t1 t2 : moS} (c : sEl l r t0 t1) (m : mfr W t1 t2) (d : dj [22, 46, 47, 48, 49, 50, 51, 52, 70, 71, 72, 75, 76, 77, 78, 105, 106, 107, 108, 109, 110, 111, 112, 113, 114, 115, 116, 117, 118, 119, 120, 121, 122] W) : sEl l r t0 t2 := by
  obtain ⟨⟨e1, e2, e3⟩, s1, s2, s3, s4, s5⟩ := c
  refine ⟨⟨?_, ?_, ?_⟩, fun k hk => ?_, fun p hp => ?_, fun y hy => ?_, fun g hg j hj => ?_, fun g hg j hj => ?_⟩
  · unfold cSt at e1 ⊢; rw [m.I 46 (d.n 46)]; exact e1
  · unfold cI at e2 ⊢; rw [m.I 70 (d.n 70)]; exact e2
  · unfold cN at e3 ⊢; rw [m.I 105 (d.n 105)]; exact e3
  · rw [m.I 47 (d.n 47), m.J 48 (d.n 48), m.J 49 (d.n 49), m.I 50 (d.n 50), m.I 51 (d.n 51), m.I 52 (d.n 52)]
    exact s1 k hk
  · rw [m.I 71 (d.n 71), m.I 72 (d.n 72), m.I 22 (d.n 22)]
    exact s2 p hp
  · have := s3 y hy
    unfold eqA at this ⊢
    rw [m.I 75 (d.n 75), m.J 76 (d.n 76), m.J 77 (d.n 77), m.I 78 (d.n 78)]
    exact this
  · rw [m.I g (d.n g (by revert hg; revert g; decide))]; exact s4 g hg j hj
  · rw [m.J g (d.n g (by revert hg; revert g; decide))]; exact s5 g hg j hj
abbrev Wln : List Nat := 0 :: 22 :: 123 :: 124 :: 125 :: Wrb
/-- a link that is up is lowered -/
theorem lk_dn (hR : RR G H sa x s t) (hM : MV t) (hE : EX Os t) (hO : ∀ r, (Os r).length ≤ 760) (hl : l < cL t) (h22 : t.I 22 l ≠ 0) (hkc : PoC s G H t ≤ kc) (hks : PoS s G H t ≤ ks) (Q : cS → Nat → Nat → Prop) (k : ∀ t', M_link t (nI l) 0 = some (1, t') → MV t' → EX Os t' → mfr Wln t t' → t'.I 23 = t.I 23 → ∀ G' H' s' kc' ks', RR G' H' sa x s' t' → kp x s s' → kc + PoC s' G' H' t' ≤ kc' + PoC s G H t → ks + PoS s' G' H' t' ≤ ks' + PoS s G H t → Q s' kc' ks') : okO (cSI s 64 (G 0 l) 0) 11 x ∧ C_Rf_dropFlights sa x (some (G 0 l)) (cSI s 64 (G 0 l) 0) kc ks (fun sr5 cr5 dr5 => okO sr5 11 x ∧ C_Rf_lower sa x (some (G 0 l)) sr5 cr5 dr5 Q) := by
  have h10 : cL t ≤ 10 := hM.1.2.2.2.2.2.1.n.2.2
  have m0 : mfr [0] t (moSS t 0 0) := mfr.ss (by decide)
  have hM0 : MV (moSS t 0 0) := hM.fr m0 rfl (hM.1.fr m0 rfl)
  have hR0 : RR G H sa x s (moSS t 0 0) := rr_fr hR hM hR.q.1.1 (fr.rf (Rv := []) (Gp := []) (Rq := [])) m0 rfl rfl rfl rfl rfl rfl rfl
  have hE0 : EX Os (moSS t 0 0) := hE.of hM hM0 rfl (fun _ _ => sEq.m m0 rfl) (fun _ _ z => z)
  obtain ⟨R1, M1, f1⟩ := rr_22 (v := 0) hR0 hM0 (l := l) hl (Or.inl rfl)
  have m1 : mfr [0, 22] t (moSI (moSS t 0 0) 22 l 0) := (m0.wk (by decide)).tr (mfr.si (by decide))
  have e17 : t.S 17 = nI (cL t) := hM.1.2.2.2.2.2.1.n.1
  have em : M_link t (nI l) 0 = M_link_b38 (moSI (moSS t 0 0) 22 l 0) (nI l) 0 (nI 0) := by
    show (if nI l < 0 then _ else if nI l < t.S 17 then _ else _) = _
    rw [if_neg (nI_pos (by omega)), e17, if_pos (nI_lt hl (by omega)), rdI_n (t := moSS t 0 0) (n := 10) (hM0.n.n 22 10) (by omega) (by decide)]
    simp only [Option.bind_some]
    rw [if_neg (show ¬ (moSS t 0 0).I 22 l = 0 from h22), wrZ_n (t := moSS t 0 0) (n := 10) (hM0.n.n 22 10) (by omega) (by decide)]
    rfl
  have he : ∀ r, sEl l r (moSS t 0 0) (moSI (moSS t 0 0) 22 l 0) := fun r => sEl_22
  have e39 : (moSI (moSS t 0 0) 22 l 0).I 39 = (moSS t 0 0).I 39 := moSI_n (by decide)
  have e23 : (moSI (moSS t 0 0) 22 l 0).I 23 = t.I 23 := moSI_n (by decide)
  have eR : cR (moSI (moSS t 0 0) 22 l 0) = cR (moSS t 0 0) := rfl
  have hl1 : l < cL (moSI (moSS t 0 0) 22 l 0) := hl
  generalize moSI (moSS t 0 0) 22 l 0 = t1 at R1 M1 m1 em he e39 e23 eR hl1
  have hx := hR.q.1.1.1
  have zk := pot_kp (s := s) (s1 := cSI s 64 (G 0 l) 0) (G := G) (H := H) (t := t1) rfl rfl
  have zt := pot_t (G := G) (H := H) (s := s) m1 rfl
  have kp0 : kp x s (cSI s 64 (G 0 l) 0) := kp.e rfl rfl rfl
  generalize cSI s 64 (G 0 l) 0 = s1 at R1 f1 zk kp0
  have hx1 : (s1.K x).1 = 30 := f1.r hx
  refine ⟨okr hx1 11, ?_⟩
  have hF2 : cF t1 ≤ 256 := M1.2.2.2.2.1.1.n.2.2
  have e123 : t1.S 123 = nI (cF t1) := M1.2.2.2.2.1.1.n.1
  obtain ⟨⟨a1, a2, a3⟩, b1, b2, b3, b4, b5, b6, b7, b8⟩ := R1.q.1.2.2.2.2.2.2
  unfold C_Rf_dropFlights
  refine df_loop (g0 := G 0) (n0 := cF t1) hF2 (cF t1) 0 0 G s1 s1 t1 (by omega) (Nat.le_refl _) (by omega) R1 M1 ⟨rfl, rfl, rfl, rfl, fun _ _ _ => rfl, fun _ _ => rfl⟩ (a1.trans e123) (fun i hi => absurd hi (Nat.not_lt_zero i)) (fun i hi => by rw [Nat.zero_add]; exact (b1 i hi).1) hl1 rfl _ fun t2 G2 s2 y1 R2 M2 m2 g2 c2 eK eP f2 => ?_
  have hx2 : (s2.K x).1 = 30 := f2.r hx1
  refine ⟨okr hx2 11, ?_⟩
  unfold C_Rf_lower
  have g0 : G2 0 = G 0 := g2 0 (by decide) (by decide)
  have g1 : G2 1 = G 1 := g2 1 (by decide) (by decide)
  have gg2 : G2 2 = G 2 := g2 2 (by decide) (by decide)
  -- nothing is made
  have pc : PoC s2 G2 H t2 = PoC s G H t ∧ PoS s2 G2 H t2 = PoS s G H t := by
    have z1 := pot_kp (G := G2) (H := H) (t := t2) eK eP
    have ed : dN G2 t2 = dN G t1 := by unfold dN; rw [show cF t2 + G2 12 999 + 1 = cF t1 + G 12 999 + 1 by omega]
    have q1 : cR t2 = cR t1 := by unfold cR; rw [m2.S 37 (by decide)]
    have q2 : cL t2 = cL t1 := by unfold cL; rw [m2.S 17 (by decide)]
    have q3 : ∀ r, cI t2 r = cI t1 r := fun r => by unfold cI; rw [m2.I 70 (by decide)]
    have g13 : G2 13 = G 13 := g2 13 (by decide) (by decide)
    have g14 : G2 14 = G 14 := g2 14 (by decide) (by decide)
    have fa : fA G2 t2 = fA G t1 := funext fun r => by unfold fA pA potC; rw [q1, g13, g14]
    have fb : fB s1 G2 H t2 = fB s1 G H t1 := funext fun r => by unfold fB pB potS cpT cpO; rw [q1, g1, g13, g14]
    have fl : fL s1 G2 H t2 = fL s1 G H t1 := funext fun r => by unfold fL plC; rw [q2, g0]
    have fw : fW s1 G2 H t2 = fW s1 G H t1 := funext fun r => by unfold fW; rw [q1, q3, gg2]
    have fs : fS s1 G2 t2 = fS s1 G t1 := funext fun r => by unfold fS; rw [q1, q3, gg2]
    have ft : fT s1 G2 t2 = fT s1 G t1 := funext fun r => by unfold fT; rw [q1, q3, gg2]
    have z2 : PoC s1 G2 H t2 = PoC s1 G H t1 ∧ PoS s1 G2 H t2 = PoS s1 G H t1 := by
      unfold PoC PoS
      rw [fa, fb, fl, fw, fs, ft, ed]
      exact ⟨rfl, rfl⟩
    exact ⟨z1.1.trans (z2.1.trans (zk.1.trans zt.1)), z1.2.trans (z2.2.trans (zk.2.trans zt.2))⟩
  have eR2 : cR t2 = cR t1 := by unfold cR; rw [m2.S 37 (by decide)]
  rw [← g0]
  refine lo_set (t0 := moSS t 0 0) hM0 hE0 hO (cR t2) 0 G2 H s2 t2 kc ks (by omega) (eR2.trans eR) R2 M2 (fun r hr => absurd hr (Nat.not_lt_zero r)) (fun r _ _ => (he r).mf m2 rfl) (by rw [m2.I 39 (by decide)]; exact e39) (by unfold cL; rw [m2.S 17 (by decide)]; exact hl1) (by rw [pc.1]; exact hkc) (by rw [pc.2]; exact hks) Q fun t' z1 z2 z3 z4 => ?_
  intro G' H' s' kc' ks' w1 w2 w3 w4 w5 w6
  rw [pc.1] at w5
  rw [pc.2] at w6
  refine k t' (em.trans (y1.trans ?_)) z2 z3 ((m1.wk (by decide)).tr ((m2.wk (by decide)).tr (z4.wk (by decide)))) (by rw [z4.I 23 (by decide), m2.I 23 (by decide)]; exact e23) G' H' s' kc' ks' w1 ((kp0.tr (f2.kp hx1 rfl)).tr (w4.kp hx2 rfl)) w5 w6
  unfold M_link_b79
  exact z1
end Pl
