/-! A router's turn: both sides. -/
abbrev Rtk : List Nat := Rtt ++ Ras ++ [114, 116]
abbrev Ptk : List (Nat × Nat) := Ptt ++ Pas
abbrev Qtk : List Nat := Qtt ++ Qfl
abbrev Wtu : List Nat := 43 :: (Wrow ++ Wtl)
/-- how it goes on behind a turn -/
def TuK (sa : Nat → Nat) (x : Nat) (G H : Nat → Nat → Nat) (s : cS) (t : moS) (kc ks : Nat) (t' : moS) (Q : cS → Nat → Nat → Prop) : Prop := ∀ G' H' s' kc' ks', RR G' H' sa x s' t' → (G' 0 = G 0 ∧ G' 1 = G 1 ∧ G' 2 = G 2) → hA H H' s → fr Rtk Ptk Qtk s s' → HO G H s t G' s' t' → kc + (PoC s' G' H' t' + tdC G') ≤ kc' + (PoC s G H t + tdC G) → ks + (PoS s' G' H' t' + tdS s' G' H' x) ≤ ks' + (PoS s G H t + tdS s G H x) → Q s' kc' ks'
/-- what was sent on all links: at most n more -/
def SA23 (n : Nat) (t t' : moS) : Prop := ∀ j, j < 10 → ∃ d, d ≤ n ∧ t'.I 23 j = t.I 23 j + nI d
section Tv
variable {G H G' H' G1 H1 : Nat → Nat → Nat} {sa : Nat → Nat} {x r kc ks kc1 ks1 : Nat} {s s' s1 : cS} {t t' t1 : moS} {Q : cS → Nat → Nat → Prop} {Os : Nat → List Pf}
theorem TuK.tr (k : TuK sa x G H s t kc ks t' Q) (g1 : G1 0 = G 0 ∧ G1 1 = G 1 ∧ G1 2 = G 2) (h1 : hA H H1 s) (f1 : fr Rtk Ptk Qtk s s1) (o1 : HO G H s t G1 s1 t1) (c1 : kc + (PoC s1 G1 H1 t1 + tdC G1) ≤ kc1 + (PoC s G H t + tdC G)) (c2 : ks + (PoS s1 G1 H1 t1 + tdS s1 G1 H1 x) ≤ ks1 + (PoS s G H t + tdS s G H x)) : TuK sa x G1 H1 s1 t1 kc1 ks1 t' Q := fun G' H' s' kc' ks' R g h f o b1 b2 => k G' H' s' kc' ks' R ⟨g.1.trans g1.1, g.2.1.trans g1.2.1, g.2.2.trans g1.2.2⟩ (fun y a ha => (h y a (by rw [(f1 a ha).1]; exact ha)).trans (h1 y a ha)) (f1.tr f) (o1.tr (fun A kA => f1.r kA) h1 o) (ar_6 c1 b1) (ar_6 c2 b2)
theorem SA23.fr {W : List Nat} {n : Nat} (m : mfr W t t') (d : 23 ∉ W) : SA23 n t t' := fun j _ => ⟨0, Nat.zero_le _, by rw [show nI 0 = 0 from rfl, Int32.add_zero, m.I 23 d]⟩
theorem SA23.tr {n n' : Nat} (h : SA23 n t t1) (g : SA23 n' t1 t') : SA23 (n + n') t t' := fun j hj => by
  obtain ⟨d, h1, e1⟩ := h j hj
  obtain ⟨d', h2, e2⟩ := g j hj
  exact ⟨d + d', by omega, by rw [e2, e1, Int32.add_assoc, nI_add]⟩
theorem pot_4 (e : ∀ b, b ≠ 4 → G' b = G b) : (PoC s G' H t = PoC s G H t ∧ PoS s G' H t = PoS s G H t) ∧ tdC G' = tdC G ∧ tdS s G' H x = tdS s G H x := by
  unfold PoC PoS fA fB fL fW fS fT pA pB potC potS plC cpT cpO dN tdC tdS
  rw [e 0 (by decide), e 1 (by decide), e 2 (by decide), e 12 (by decide), e 13 (by decide), e 14 (by decide), e 15 (by decide)]
  exact ⟨⟨rfl, rfl⟩, rfl, rfl⟩
theorem td_kp (hK : s1.K = s.K) (hP : s1.P = s.P) : tdS s1 G H x = tdS s G H x := by
  unfold tdS cpD
  rw [hK, hP]
/-- nothing new is made, no pointer is another -/
theorem TuK.same {Rv Rq : List Nat} {Gp : List (Nat × Nat)} {W : List Nat} (k : TuK sa x G H s t kc ks t' Q) (hq : RGl G H sa x s) (e : ∀ b, b ≠ 4 → G1 b = G b) (hK : s1.K = s.K) (hP : s1.P = s.P) (f : fr Rv Gp Rq s s1) (d1 : dj [3, 6, 12, 13, 129] Rv) (d2 : ∀ g, (g, 6) ∉ Gp) (d3 : (0, 3) ∉ Gp) (w : fr Rtk Ptk Qtk s s1) (m : mfr W t t1) (d : dj [17, 37, 70, 123] W) : TuK sa x G1 H s1 t1 kc ks t' Q := by
  have z1 := pot_kp (G := G1) (H := H) (t := t1) hK hP
  have z2 := pot_t (G := G1) (H := H) (s := s) m d
  obtain ⟨z3, z4, z5⟩ := pot_4 (H := H) (s := s) (t := t) (x := x) e
  refine k.tr ⟨e 0 (by decide), e 1 (by decide), e 2 (by decide)⟩ hA.rf w (fun A kA hA' => ⟨hdF.fr f hq.2.1 kA d1 d2 d3, ?_⟩) ?_ ?_
  · unfold hFr cF at hA' ⊢
    rw [e 11 (by decide), e 12 (by decide), m.S 123 (d.n 123)]
    exact hA'
  · rw [z1.1, z2.1, z3.1, z4]
    exact Nat.le_refl _
  · rw [z1.2, z2.2, z3.2, td_kp hK hP, z5]
    exact Nat.le_refl _
theorem TlK.of (k : TuK sa x G H s t kc ks t' Q) : TlK sa x G H s t kc ks t' Q := fun G' H' s' kc' ks' R g h f o c1 c2 => k G' H' s' kc' ks' R ⟨g 0 (by decide) (by decide) (by decide) (by decide), g 1 (by decide) (by decide) (by decide) (by decide), g 2 (by decide) (by decide) (by decide) (by decide)⟩ h f.wk o c1 c2
theorem c_turn (hR : RR G H sa x s t) (hM : MV t) (hA : AGs t) (hE : EX Os t) (hr : r < cR t) (hrun : t.I 39 r ≠ 0) (hs : ∀ j, j < 10 → ∃ d, t.I 23 j = nI d ∧ d + 8850 < 2 ^ 31) (hkc : PoC s G H t + tdC G ≤ kc) (hks : PoS s G H t + tdS s G H x ≤ ks) (k : ∀ t', M_tick_s54 t (nI r) = some (.inl (nI (r + 1), t')) → MV t' → AGs t' → EX Os t' → mfr Wtu t t' → SA23 8850 t t' → SD t t' → TuK sa x G H s t kc ks t' Q) : C_Rr_takeTurn sa (G 1 r) s kc ks Q := by
  have h6 := hM.nR
  have k26 := (hR.q.1.rt hr).1.1
  have eM0 : M_tick_s54 t (nI r) = Option.bind (M_age t (nI r)) (fun s2 => Option.bind (rdI s2 43 (nI r)) (fun x3 => if s2.S 1 < x3 then Option.bind (rdI s2 44 (nI r)) (fun x4 => if x4 = -1 then M_tick_b165 s2 (nI r) else Option.bind (rdI s2 44 (nI r)) (fun x5 => if s2.S 1 < x5 then M_tick_b165 s2 (nI r) else Option.bind (M_tellAll s2 (nI r) 1) (fun s6 => Option.bind (M_forget s6 (nI r)) (fun s7 => Option.bind (M_tally s7 (nI r) 6 1) (fun s8 => M_tick_b165 s8 (nI r)))))) else Option.bind (M_tellAll s2 (nI r) 0) (fun s9 => Option.bind (M_forget s9 (nI r)) (fun s10 => Option.bind (rdI s10 40 (nI r)) (fun x11 => Option.bind (wrI s10 43 (nI r) (s10.S 1 + x11)) (fun s12 => M_tick_b165 s12 (nI r))))))) := by
    unfold M_tick_s54
    rw [if_pos (show nI r < t.S 37 by rw [hM.1.2.2.2.2.2.2.2.n.1]; exact nI_lt hr (show cR t < 2 ^ 31 by omega)), rdI_n (n := 6) (hM.n.n 39 6) (by omega) (by decide)]
    simp only [Option.bind_some]
    rw [if_neg hrun]
  unfold C_Rr_takeTurn
  refine ⟨okr k26 9, c_age hR hM hA hE hr _ fun t1 G1 s1 e1 R1 M1 A1 E1 w1 g1 hK1 hP1 f1 => ?_⟩
  have m1 := w1.1
  have k1 : ∀ t', M_tick_s54 t (nI r) = some (.inl (nI (r + 1), t')) → MV t' → AGs t' → EX Os t' → mfr Wtu t1 t' → SA23 8850 t1 t' → SD t1 t' → TuK sa x G1 H s1 t1 kc ks t' Q := fun t' a1 a2 a3 a4 a5 a6 a7 => TuK.same (k t' a1 a2 a3 a4 ((m1.wk (by decide)).tr a5) (((SA23.fr (n := 0) m1 (by decide)).tr a6)) ((SD.fr m1 rfl).tr a7)) hR.q.1.1 g1 hK1 hP1 f1 rfl (fun _ h => nomatch h) (fun h => nomatch h) f1.wk m1 rfl
  have hkc1 : PoC s1 G1 H t1 + tdC G1 ≤ kc := by
    rw [(pot_kp hK1 hP1).1, (pot_t m1 rfl).1, (pot_4 (x := x) g1).1.1, (pot_4 (H := H) (s := s) (t := t) (x := x) g1).2.1]
    exact hkc
  have hks1 : PoS s1 G1 H t1 + tdS s1 G1 H x ≤ ks := by
    rw [(pot_kp hK1 hP1).2, (pot_t m1 rfl).2, (pot_4 (x := x) g1).1.2, td_kp hK1 hP1, (pot_4 (H := H) (s := s) (t := t) (x := x) g1).2.2]
    exact hks
  have hs1 : ∀ j, j < 10 → ∃ d, t1.I 23 j = nI d ∧ d + 8850 < 2 ^ 31 := fun j hj => by rw [m1.I 23 (by decide)]; exact hs j hj
  rw [e1] at eM0
  have eM1 : M_tick_s54 t (nI r) = Option.bind (rdI t1 43 (nI r)) (fun x3 => if t1.S 1 < x3 then Option.bind (rdI t1 44 (nI r)) (fun x4 => if x4 = -1 then M_tick_b165 t1 (nI r) else Option.bind (rdI t1 44 (nI r)) (fun x5 => if t1.S 1 < x5 then M_tick_b165 t1 (nI r) else Option.bind (M_tellAll t1 (nI r) 1) (fun s6 => Option.bind (M_forget s6 (nI r)) (fun s7 => Option.bind (M_tally s7 (nI r) 6 1) (fun s8 => M_tick_b165 s8 (nI r)))))) else Option.bind (M_tellAll t1 (nI r) 0) (fun s9 => Option.bind (M_forget s9 (nI r)) (fun s10 => Option.bind (rdI s10 40 (nI r)) (fun x11 => Option.bind (wrI s10 43 (nI r) (s10.S 1 + x11)) (fun s12 => M_tick_b165 s12 (nI r)))))) := eM0
  have hr1 : r < cR t1 := by unfold cR; rw [m1.S 37 (by decide)]; exact hr
  clear eM0 k hkc hks hs
  rw [← g1 1 (by decide)] at k26 ⊢
  have k26 : (s1.K (G1 1 r)).1 = 26 := by rw [hK1]; exact k26
  clear hR hM hA hE g1 hK1 hP1 f1 e1 w1 m1
  have b165 : ∀ u, M_tick_b165 u (nI r) = some (.inl (nI (r + 1), u)) := fun u => by unfold M_tick_b165; rw [nI_1]
  have hq1 := R1.q.1
  have hx := hq1.1.1
  have p180 : s1.P 180 (G1 1 r) = some x := by rw [(hq1.ty.p k26 180 30).1, (hq1.rt hr1).1.2.2]
  obtain ⟨-, -, ⟨-, -, -, i197, i198⟩, -⟩ := hq1.rt hr1
  have i225 : s1.I 225 x = t1.S 1 := hq1.2.2.1.2.1
  have r43 := rdI_n (t := t1) (n := 6) (i := r) (M1.n.n 43 6) (by omega) (by decide)
  have r44 := rdI_n (t := t1) (n := 6) (i := r) (M1.n.n 44 6) (by omega) (by decide)
  rw [r43, r44] at eM1
  simp only [Option.bind_some, b165] at eM1
  have o9 : okO s1 9 (G1 1 r) := okr k26 9
  refine ⟨_, gd_to o9, x, p180, _, gd_to (okr hx 11), _, gd_to o9, ?_⟩
  rw [show s1.I (20 * 11 + 5) x = t1.S 1 from i225, show s1.I (20 * 9 + 17) (G1 1 r) = t1.I 43 r from i197]
  -- after a telling: both forget
  by_cases c1 : t1.S 1 < t1.I 43 r
  · rw [if_pos c1] at eM1
    refine ifT c1 ⟨_, gd_to o9, ?_⟩
    rw [show s1.I (20 * 9 + 18) (G1 1 r) = t1.I 44 r from i198]
    by_cases c2 : t1.I 44 r = -1
    · rw [if_pos c2] at eM1
      exact ifT c2 (k1 t1 eM1 M1 A1 E1 mfr.rf (SA23.fr (mfr.rf (W := [])) (by decide)) SD.rf G1 H s1 kc ks R1 ⟨rfl, rfl, rfl⟩ hA.rf fr.rf (HO.rf rfl) (Nat.le_refl _) (Nat.le_refl _))
    rw [if_neg c2] at eM1
    refine ifF c2 ⟨_, gd_to o9, x, p180, _, gd_to (okr hx 11), _, gd_to o9, ?_⟩
    rw [show s1.I (20 * 11 + 5) x = t1.S 1 from i225, show s1.I (20 * 9 + 18) (G1 1 r) = t1.I 44 r from i198]
    by_cases c3 : t1.S 1 < t1.I 44 r
    · rw [if_pos c3] at eM1
      exact ifT c3 (k1 t1 eM1 M1 A1 E1 mfr.rf (SA23.fr (mfr.rf (W := [])) (by decide)) SD.rf G1 H s1 kc ks R1 ⟨rfl, rfl, rfl⟩ hA.rf fr.rf (HO.rf rfl) (Nat.le_refl _) (Nat.le_refl _))
    rw [if_neg c3] at eM1
    refine ifF c3 ⟨o9, c_tell (Or.inr (Or.inl rfl)) R1 M1 hr1 (fun j hj _ => hs1 j hj) hkc1 hks1 fun t2 e2 M2 m2 b2 d2 => ?_⟩
    intro G2 H2 s2 kc2 ks2 R2 g2 h2 f2 o2 x1 x2
    have hr2 : r < cR t2 := by unfold cR; rw [m2.S 37 (by decide)]; exact hr1
    have e12 : G2 1 = G1 1 := g2 1 (by decide) (by decide) (by decide) (by decide)
    have q2 := R2.q.1
    have k2 := (q2.rt hr2).1.1
    have p196 := q2.ty.r k2 196 104 11
    have i45 := (q2.rt hr2).2.2.2.2 6 (by decide)
    rw [← e12]
    refine ⟨_, gd_to (okr k2 9), _, p196.1, _, rd_E p196.2 ⟨by decide, by decide, rfl⟩ (show 6 < 11 by decide) (by decide) i45, _, wr_E p196.2 ⟨by decide, by decide, rfl⟩ (show 6 < 11 by decide) (by decide), okr k2 9, ?_⟩
    obtain ⟨R3, M3⟩ := rr_cnt (i := 6) (v := t2.I 45 (11 * r + 6) + 1) R2 M2 hr2 (by decide)
    have m3 : mfr [45] t2 (moSI t2 45 (11 * r + 6) (t2.I 45 (11 * r + 6) + 1)) := mfr.si (by decide)
    have E2 : EX Os t2 := E1.of M1 M2 (by unfold cR; rw [m2.S 37 (by decide)]) (fun _ _ => sEq.m m2 rfl) (fun r' _ z => by rw [m2.I 39 (by decide)] at z; exact z)
    have E3 : EX Os (moSI t2 45 (11 * r + 6) (t2.I 45 (11 * r + 6) + 1)) := E2.of M2 M3 rfl (fun _ _ => sEq.m m3 rfl) (fun r' _ z => by rw [m3.I 39 (by decide)] at z; exact z)
    refine c_forget R3 M3 E3 hr2 _ fun t4 s4 e4 R4 M4 E4 w4 hK4 hP4 f4 => ?_
    obtain ⟨t5, e5, rfl⟩ := fg_cm (Or.inr rfl) e4
    have A2 : AGs t2 := A1.m m2 ⟨by decide, by decide⟩
    have A5 : AGs t5 := A2.m (fM_forget (W := [44, 119]) rfl mfr.rf _ e5) ⟨by decide, by decide⟩
    have A4 : AGs (moSI t5 45 (11 * r + 6) (t2.I 45 (11 * r + 6) + 1)) := A5.m (mfr.si (W := [45]) (by decide)) ⟨by decide, by decide⟩
    have m4 : mfr Wrow t2 (moSI t5 45 (11 * r + 6) (t2.I 45 (11 * r + 6) + 1)) := (m3.wk (by decide)).tr w4.1
    have m5 : mfr [44, 119] t2 t5 := fM_forget (W := [44, 119]) rfl mfr.rf _ e5
    have N5 : t5.N 45 = 66 := (m5.2 45 (Or.inl (by decide))).trans (M2.n.n 45 66)
    have i5 : t5.I 45 (11 * r + 6) = t2.I 45 (11 * r + 6) := by rw [m5.I 45 (by decide)]
    have eM : M_tick_s54 t (nI r) = some (.inl (nI (r + 1), moSI t5 45 (11 * r + 6) (t2.I 45 (11 * r + 6) + 1))) := by
      rw [eM1, e2]
      simp only [Option.bind_some]
      rw [e5]
      simp only [Option.bind_some]
      unfold M_tally
      rw [show (11 : Int32) * nI r + 6 = nI (11 * r + 6) by rw [show (11 : Int32) = nI 11 from rfl, show (6 : Int32) = nI 6 from rfl, pk_mul, nI_add], rdI_n (n := 66) N5 (by omega) (by decide), i5]
      simp only [Option.bind_some]
      rw [wrI_n (n := 66) N5 (by omega) (by decide)]
      rfl
    have kk := k1 _ eM M4 A4 E4 ((m2.wk (by decide)).tr (m4.wk (by decide))) (fun j hj => ?_) (d2.tr (SD.fr m4 rfl))
    · have f3 : fr [104] [] [] s2 (cSE s2 (H2 196 (G2 1 r)) 6 (t2.I 45 (11 * r + 6) + 1)) := fr.se (by rw [p196.2]; decide)
      have f34 : fr [23, 26, 104] [] [] s2 s4 := f3.wk.tr f4.wk
      have kt := kk.tr ⟨g2 0 (by decide) (by decide) (by decide) (by decide), e12, g2 2 (by decide) (by decide) (by decide) (by decide)⟩ h2 f2.wk o2 x1 x2
      exact (kt.same q2.1 (fun _ _ => rfl) hK4 hP4 f34 rfl (fun _ h => nomatch h) (fun h => nomatch h) f34.wk m4 rfl) G2 H2 s4 kc2 ks2 R4 ⟨rfl, rfl, rfl⟩ hA.rf fr.rf (HO.rf rfl) (Nat.le_refl _) (Nat.le_refl _)
    · obtain ⟨d, h, e⟩ := b2.2 j hj
      exact ⟨d, h, by rw [m4.I 23 (by decide)]; exact e⟩
  · rw [if_neg c1] at eM1
    refine ifF c1 ⟨o9, c_tell (Or.inl rfl) R1 M1 hr1 (fun j hj _ => hs1 j hj) hkc1 hks1 fun t2 e2 M2 m2 b2 d2 => ?_⟩
    intro G2 H2 s2 kc2 ks2 R2 g2 h2 f2 o2 x1 x2
    have hr2 : r < cR t2 := by unfold cR; rw [m2.S 37 (by decide)]; exact hr1
    have e12 : G2 1 = G1 1 := g2 1 (by decide) (by decide) (by decide) (by decide)
    have q2 := R2.q.1
    have k2 := (q2.rt hr2).1.1
    have p195 := q2.ty.r k2 195 123 3
    have i40 := (q2.rt hr2).2.2.2.1.1
    have i225' : s2.I 225 x = t2.S 1 := q2.2.2.1.2.1
    rw [← e12]
    refine ⟨_, gd_to (okr k2 9), x, by rw [(q2.ty.p k2 180 30).1, (q2.rt hr2).1.2.2], _, gd_to (okr q2.1.1 11), _, gd_to (okr k2 9), _, p195.1, _, rd_E p195.2 ⟨by decide, by decide, rfl⟩ (show 0 < 3 by decide) (by decide) i40, _, gd_to (okr k2 9), ?_⟩
    rw [show s2.I (20 * 11 + 5) x = t2.S 1 from i225']
    obtain ⟨R3, M3, f3⟩ := rr_43 (v := t2.S 1 + t2.I 40 r) R2 M2 hr2
    have m3 : mfr [43] t2 (moSI t2 43 r (t2.S 1 + t2.I 40 r)) := mfr.si (by decide)
    have E2 : EX Os t2 := E1.of M1 M2 (by unfold cR; rw [m2.S 37 (by decide)]) (fun _ _ => sEq.m m2 rfl) (fun r' _ z => by rw [m2.I 39 (by decide)] at z; exact z)
    have E3 : EX Os (moSI t2 43 r (t2.S 1 + t2.I 40 r)) := E2.of M2 M3 rfl (fun _ _ => sEq.m m3 rfl) (fun r' _ z => by rw [m3.I 39 (by decide)] at z; exact z)
    refine ⟨okr (show ((cSI s2 197 (G2 1 r) (t2.S 1 + t2.I 40 r)).K (G2 1 r)).1 = 26 from k2) 9, c_forget R3 M3 E3 hr2 _ fun t4 s4 e4 R4 M4 E4 w4 hK4 hP4 f4 => ?_⟩
    obtain ⟨t5, e5, rfl⟩ := fg_cm (Or.inl rfl) e4
    have A2 : AGs t2 := A1.m m2 ⟨by decide, by decide⟩
    have A5 : AGs t5 := A2.m (fM_forget (W := [44, 119]) rfl mfr.rf _ e5) ⟨by decide, by decide⟩
    have A4 : AGs (moSI t5 43 r (t2.S 1 + t2.I 40 r)) := A5.m (mfr.si (W := [43]) (by decide)) ⟨by decide, by decide⟩
    have m4 : mfr (43 :: Wrow) t2 (moSI t5 43 r (t2.S 1 + t2.I 40 r)) := (m3.wk (by decide)).tr (w4.1.wk (by decide))
    have m5 : mfr [44, 119] t2 t5 := fM_forget (W := [44, 119]) rfl mfr.rf _ e5
    have eM : M_tick_s54 t (nI r) = some (.inl (nI (r + 1), moSI t5 43 r (t2.S 1 + t2.I 40 r))) := by
      rw [eM1, e2]
      simp only [Option.bind_some]
      rw [e5]
      simp only [Option.bind_some]
      rw [rdI_n (n := 6) ((m5.2 40 (Or.inl (by decide))).trans (M2.n.n 40 6)) (by omega) (by decide), m5.I 40 (by decide), m5.S 1 (by decide)]
      simp only [Option.bind_some]
      rw [wrI_n (n := 6) ((m5.2 43 (Or.inl (by decide))).trans (M2.n.n 43 6)) (by omega) (by decide)]
      rfl
    have kk := k1 _ eM M4 A4 E4 ((m2.wk (by decide)).tr (m4.wk (by decide))) (fun j hj => ?_) (d2.tr (SD.fr m4 rfl))
    · have f34 : fr [23, 26] [] [] s2 s4 := f3.wk.tr f4.wk
      have kt := kk.tr ⟨g2 0 (by decide) (by decide) (by decide) (by decide), e12, g2 2 (by decide) (by decide) (by decide) (by decide)⟩ h2 f2.wk o2 x1 x2
      exact (kt.same q2.1 (fun _ _ => rfl) hK4 hP4 f34 rfl (fun _ h => nomatch h) (fun h => nomatch h) f34.wk m4 rfl) G2 H2 s4 kc2 ks2 R4 ⟨rfl, rfl, rfl⟩ hA.rf fr.rf (HO.rf rfl) (Nat.le_refl _) (Nat.le_refl _)
    · obtain ⟨d, h, e⟩ := b2.2 j hj
      exact ⟨d, h, by rw [m4.I 23 (by decide)]; exact e⟩
end Tv
