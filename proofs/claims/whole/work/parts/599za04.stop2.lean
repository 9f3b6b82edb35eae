/-! A router is stopped: both sides. -/
abbrev Wsp : List Nat := [39, 44, 105] ++ Wtl
section Su
variable {G H : Nat → Nat → Nat} {sa : Nat → Nat} {x r kc ks : Nat} {s : cS} {t t' : moS} {Q : cS → Nat → Nat → Prop} {O : List Pf} {Os : Nat → List Pf}
theorem EXr.em {W : List Nat} (h : EXr O t r) (m : mfr W t t') (d : dj [46, 47, 48, 49, 50, 70, 75, 76, 77, 78] W) (c0 : cN t' r = 0) (h39 : t'.I 39 r = 0) : EXr O t' r := by
  have e1 : cSt t' r = cSt t r := by unfold cSt; rw [m.I 46 (d.n 46)]
  have e2 : cI t' r = cI t r := by unfold cI; rw [m.I 70 (d.n 70)]
  obtain ⟨⟨o1, o2, D0, D1, l0, l1, hrow⟩, se, px⟩ := h
  refine ⟨⟨?_, ?_, D0, D1, l0, l1, fun j hj => ?_⟩, fun z => absurd h39 z, ?_⟩
  · rw [e1]; unfold stP at o1 ⊢; rw [m.I 47 (d.n 47), m.J 48 (d.n 48), m.J 49 (d.n 49), m.I 50 (d.n 50)]; exact o1
  · rw [e2]; unfold neP at o2 ⊢; rw [m.I 75 (d.n 75), m.J 76 (d.n 76), m.J 77 (d.n 77), m.I 78 (d.n 78)]; exact o2
  · rw [c0] at hj; exact absurd hj (Nat.not_lt_zero j)
  · rw [e1, m.J 48 (d.n 48), m.J 49 (d.n 49), m.I 50 (d.n 50)]; exact px
theorem c_stop (hR : RR G H sa x s t) (hM : MV t) (hAg : AGs t) (hE : EX Os t) (hr : r < cR t) (hs : ∀ j, j < 10 → ∃ d, t.I 23 j = nI d ∧ d + 8850 < 2 ^ 31) (hkc : PoC s G H t + tdC G ≤ kc) (hks : PoS s G H t + tdS s G H x ≤ ks) (k : ∀ t', Option.bind (M_tellAll t (nI r) 2) (fun s3 => M_run_b39 s3 (nI r) 0) = some (1, t') → MV t' → AGs t' → EX Os t' → mfr Wsp t t' → SA23 8850 t t' → SD t t' → (t'.I 39 r = 0 ∧ cN t' r = 0 ∧ t'.I 44 r = -1) → (∀ r', r' ≠ r → t'.I 39 r' = t.I 39 r' ∧ cN t' r' = cN t r' ∧ t'.I 44 r' = t.I 44 r') → TuK sa x G H s t kc ks t' Q) : C_Rr_stop sa (G 1 r) s kc ks Q := by
  have h6 := hM.nR
  have k26 := (hR.q.1.rt hr).1.1
  unfold C_Rr_stop
  refine ⟨okr k26 9, c_tell (Or.inr (Or.inr rfl)) hR hM hr (fun j hj _ => hs j hj) hkc hks fun t2 e2 M2 m2 b2 d2 => ?_⟩
  intro G2 H2 s2 kc2 ks2 R2 g2 h2 f2 o2 x1 x2
  have hr2 : r < cR t2 := by unfold cR; rw [m2.S 37 (by decide)]; exact hr
  have e12 : G2 1 = G 1 := g2 1 (by decide) (by decide) (by decide) (by decide)
  have q2 := R2.q.1
  have k2 := (q2.rt hr2).1.1
  have p186 := q2.ty.p k2 186 27
  have E2 : EX Os t2 := hE.of hM M2 (by unfold cR; rw [m2.S 37 (by decide)]) (fun _ _ => sEq.m m2 rfl) (fun r' _ z => by rw [m2.I 39 (by decide)] at z; exact z)
  have A2 : AGs t2 := hAg.m m2 ⟨by decide, by decide⟩
  obtain ⟨R3, M3, w3, f3⟩ := rr_105 R2 M2 hr2
  obtain ⟨R4, M4, w4, f4⟩ := rr_44 (v := -1) R3 M3 hr2
  obtain ⟨R5, M5, f5⟩ := rr_39 (v := 0) (Or.inl rfl) R4 M4 hr2
  have m5 : mfr [39, 44, 105] t2 (moSI (moSI (moSI t2 105 r 0) 44 r (-1)) 39 r 0) := ((mfr.si (by decide)).tr (mfr.si (by decide))).tr (mfr.si (by decide))
  have eM : Option.bind (M_tellAll t (nI r) 2) (fun s3 => M_run_b39 s3 (nI r) 0) = some (1, moSI (moSI (moSI t2 105 r 0) 44 r (-1)) 39 r 0) := by
    rw [e2]
    simp only [Option.bind_some]
    unfold M_run_b39
    rw [wrI_n (n := 6) (M2.n.n 105 6) (by omega) (by decide)]
    simp only [Option.bind_some]
    rw [wrI_n (n := 6) (M3.n.n 44 6) (by omega) (by decide)]
    simp only [Option.bind_some]
    rw [wrZ_n (n := 6) (M4.n.n 39 6) (by omega) (by decide)]
    simp only [Option.bind_some]
    rw [if_pos trivial]
    rfl
  have c0 : cN (moSI (moSI (moSI t2 105 r 0) 44 r (-1)) 39 r 0) r = 0 := by
    unfold cN
    rw [moSI_n (by decide), moSI_n (by decide), moSI_s, upd_s]
    rfl
  have h39 : (moSI (moSI (moSI t2 105 r 0) 44 r (-1)) 39 r 0).I 39 r = 0 := by rw [moSI_s, upd_s]
  have h44 : (moSI (moSI (moSI t2 105 r 0) 44 r (-1)) 39 r 0).I 44 r = -1 := by rw [moSI_n (by decide), moSI_s, upd_s]
  have E5 : EX Os (moSI (moSI (moSI t2 105 r 0) 44 r (-1)) 39 r 0) := fun r' hr' => by
    have hr0 : r' < cR t2 := hr'
    by_cases ce : r' = r
    · subst ce
      exact (E2 r' hr0).em m5 rfl c0 h39
    · have y3 := (E2 r' hr0).rw M2 M3 hr0 w3 ce
      have y4 := y3.rw M3 M4 hr0 w4 ce
      exact y4.of M4 M5 hr0 hr' (sEq.m (mfr.si (W := [39]) (by decide)) rfl) (fun z => by rw [moSI_s, upd_n ce] at z; exact z)
  have fo : fr [26, 27] [] [] s2 (cSI (cSI (cSI s2 201 (H2 186 (G2 1 r)) 0) 198 (G2 1 r) (-1)) 183 (G2 1 r) 0) := (f3.wk.tr f4.wk).tr f5.wk
  have kk := k _ eM M5 (A2.m m5 ⟨by decide, by decide⟩) E5 ((m2.wk (by decide)).tr (m5.wk (by decide))) (fun j hj => ?_) (d2.tr (SD.fr m5 rfl)) ⟨h39, c0, h44⟩ (fun r' hne => ?_)
  · rw [← e12]
    refine ⟨_, gd_to (okr k2 9), _, p186.1, okr p186.2 10, ?_⟩
    unfold C_Ta_clear
    refine ⟨_, gd_to (okr p186.2 10), _, gd_to (okr (show ((cSI s2 201 (H2 186 (G2 1 r)) 0).K (G2 1 r)).1 = 26 from k2) 9), _, gd_to ⟨okr (show ((cSI (cSI s2 201 (H2 186 (G2 1 r)) 0) 198 (G2 1 r) (-1)).K (G2 1 r)).1 = 26 from k2) 9, Or.inl rfl⟩, ?_⟩
    have kt := kk.tr ⟨g2 0 (by decide) (by decide) (by decide) (by decide), e12, g2 2 (by decide) (by decide) (by decide) (by decide)⟩ h2 f2.wk o2 x1 x2
    exact (kt.same (s1 := cSI (cSI (cSI s2 201 (H2 186 (G2 1 r)) 0) 198 (G2 1 r) (-1)) 183 (G2 1 r) 0) q2.1 (fun _ _ => rfl) rfl rfl fo rfl (fun _ h => nomatch h) (fun h => nomatch h) fo.wk m5 rfl) G2 H2 _ kc2 ks2 R5 ⟨rfl, rfl, rfl⟩ hA.rf fr.rf (HO.rf rfl) (Nat.le_refl _) (Nat.le_refl _)
  · obtain ⟨d, h, e⟩ := b2.2 j hj
    exact ⟨d, h, by rw [m5.I 23 (by decide)]; exact e⟩
  · unfold cN
    refine ⟨?_, ?_, ?_⟩
    · rw [moSI_s, upd_n hne, moSI_n (by decide), moSI_n (by decide), m2.I 39 (by decide)]
    · rw [moSI_n (by decide), moSI_n (by decide), moSI_s, upd_n hne, m2.I 105 (by decide)]
    · rw [moSI_n (by decide), moSI_s, upd_n hne, moSI_n (by decide), m2.I 44 (by decide)]
end Su
