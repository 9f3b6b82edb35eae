/-! A router's table ages: both sides. -/
section Ca
variable {G H : Nat → Nat → Nat} {sa : Nat → Nat} {x r kc ks : Nat} {s : cS} {t t' : moS} {O : List Pf} {Os : Nat → List Pf}
theorem EXr.ag (h : EXr O t r) (c : agR r t t') (hM : MV t) (hM' : MV t') (hr : r < cR t) (hr' : r < cR t') : EXr O t' r := by
  obtain ⟨w, gd, rows⟩ := c
  have m := w.1
  have ed := dF_fr (r := r) m
  have e1 : cSt t' r = cSt t r := by unfold cSt; rw [m.I 46 (by decide)]
  have e2 : cI t' r = cI t r := by unfold cI; rw [m.I 70 (by decide)]
  obtain ⟨⟨o1, o2, D0, D1, l0, l1, hrow⟩, se, px⟩ := h
  refine ⟨⟨?_, ?_, D0, D1, l0, l1, fun j hj => ?_⟩, fun z => se_iff.mpr fun P hP => ?_, ?_⟩
  · rw [e1]; unfold stP at o1 ⊢; rw [m.I 47 (by decide), m.J 48 (by decide), m.J 49 (by decide), m.I 50 (by decide)]; exact o1
  · rw [e2]; unfold neP at o2 ⊢; rw [m.I 75 (by decide), m.J 76 (by decide), m.J 77 (by decide), m.I 78 (by decide)]; exact o2
  · obtain ⟨j0, h0, e0⟩ := rows j hj
    have := hrow j0 h0
    have e6 : t'.I 106 (2700 * r + j) = t.I 106 (2700 * r + j0) := congrArg (fun z : Pf => z.1) e0
    rw [e0, e6]
    exact this
  · rw [m.I 39 (by decide)] at z
    rw [ed]
    exact stp_gD (fun y hy => dF_01 hy) (se_iff.mp (se z) P hP) (gd P)
  · rw [e1, m.J 48 (by decide), m.J 49 (by decide), m.I 50 (by decide)]; exact px
theorem c_age (hR : RR G H sa x s t) (hM : MV t) (hA : AGs t) (hE : EX Os t) (hr : r < cR t) (Q : cS → Nat → Nat → Prop) (k : ∀ t' G' s', M_age t (nI r) = some t' → RR G' H sa x s' t' → MV t' → AGs t' → EX Os t' → rwT r t t' → (∀ b, b ≠ 4 → G' b = G b) → s'.K = s.K → s'.P = s.P → fr [23, 26, 27, 104] [] [135] s s' → Q s' kc ks) : C_Rr_age sa (G 1 r) s kc ks Q := by
  have hq := hR.q.1
  have hT := hq.ty
  have hn := hM.nRo hr
  have k1 := (hq.rt hr).1.1
  have p180 : s.P 180 (G 1 r) = some x := by rw [(hT.p k1 180 30).1, (hq.rt hr).1.2.2]
  have p186 := hT.p k1 186 27
  have i201 := (hq.tb hr).1.1
  unfold C_Rr_age
  refine ⟨_, gd_to (okr k1 9), _, p180, _, gd_to (okr hq.1.1 11), _, gd_to (okr k1 9), ?_⟩
  show if s.I 225 x < s.I 199 (G 1 r) then _ else _
  by_cases c : s.I 225 x < s.I 199 (G 1 r)
  · exact ifT c (k t G s (age_no hR hM hA hr c) hR hM hA hE rwT.rf (fun _ _ => rfl) rfl rfl fr.rf)
  · have k11 : ((cSI s 199 (G 1 r) 20001).K (G 1 r)).1 = 26 := k1
    refine ifF c ⟨_, gd_to (okr k1 9), _, gd_to (okr k11 9), _, p186.1, _, gd_to (okr p186.2 10), ?_⟩
    rw [show (cSI s 199 (G 1 r) 20001).I (20 * 10 + 1) (H 186 (G 1 r)) = nI (cN t r) from (cSI_g (by decide)).trans i201]
    have f0 : fr [23, 26, 27, 104] [] [135] s (cSI s 199 (G 1 r) 20001) := fr.si (by rw [k1]; decide)
    refine age_loop (x := x) (a1 := cN t r) hn (cN t r) 0 0 G (cSI s 199 (G 1 r) 20001) t (by omega) (by omega) ?_ hM hA hr (fun j hj => absurd hj (Nat.not_lt_zero j)) Q fun t' G' s' y1 y2 y3 y4 y5 y6 y7 y8 y9 => k t' G' s' ?_ y2 y3 y4 (fun r' hr' => ?_) y5.1 y6 y7 y8 (f0.tr y9)
    · rw [cSI_ow]
      exact (rr_199 hR hM hr fun _ _ _ => lt_mn).1
    · unfold M_age
      rw [show (2700 : Int32) * nI r = nI (2700 * r + 0) by rw [show (2700 : Int32) = nI 2700 from rfl, pk_mul]; rfl]
      exact y1
    · have hr0 : r' < cR t := by unfold cR at hr' ⊢; rw [y5.1.1.S 37 (by decide)] at hr'; exact hr'
      by_cases ce : r' = r
      · subst ce
        exact (hE r' hr0).ag y5 hM y3 hr0 hr'
      · exact (hE r' hr0).rw hM y3 hr0 y5.1 ce
end Ca
