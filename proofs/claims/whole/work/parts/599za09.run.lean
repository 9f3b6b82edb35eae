/-! run: the operation. -/
/-- a router that does not run has no routes, and nothing to tell -/
def NR (t : moS) : Prop := ∀ r, r < cR t → t.I 39 r = 0 → cN t r = 0 ∧ t.I 44 r = -1
abbrev Wrn : List Nat := 0 :: (Wsp ++ Wsr)
section Ru
variable {G H : Nat → Nat → Nat} {sa : Nat → Nat} {x kc ks : Nat} {s : cS} {t : moS} {Os : Nat → List Pf} {y b : Int32}
theorem P_run (hR : RR G H sa x s t) (hM : MV t) (hAg : AGs t) (hE : EX Os t) (hN : NR t) (hO : ∀ r, (Os r).length ≤ 760) (hb : b = 0 ∨ b = 1) (hs : ∀ j, j < 10 → ∃ d, t.I 23 j = nI d ∧ d + 8850 < 2 ^ 31) (hkc : PoC s G H t + tdC G ≤ kc) (hks : PoS s G H t + tdS s G H x ≤ ks) (Q : Int32 → cS → Nat → Nat → Prop) (k : ∀ r t', M_run t y b = some (r, t') → MV t' → AGs t' → EX Os t' → NR t' → mfr Wrn t t' → SA23 8850 t t' → ∀ G' H' s' kc' ks', RR G' H' sa x s' t' → kp0 x s s' → kc + (PoC s' G' H' t' + tdC G') ≤ kc' + (PoC s G H t + tdC G) → ks + (PoS s' G' H' t' + tdS s' G' H' x) ≤ ks' + (PoS s G H t + tdS s G H x) → Q r s' kc' ks') : C_Rf_run sa x y b s kc ks Q := by
  have hq := hR.q.1
  have h6 := hM.nR
  have m0 : mfr [0] t (moSS t 0 0) := mfr.ss (by decide)
  have e37 : t.S 37 = nI (cR t) := hM.1.2.2.2.2.2.2.2.n.1
  have hM0 : MV (moSS t 0 0) := hM.fr m0 rfl (hM.1.fr m0 rfl)
  have hR0 : RR G H sa x s (moSS t 0 0) := rr_fr hR hM hR.q.1.1 (fr.rf (Rv := []) (Gp := []) (Rq := [])) m0 rfl rfl rfl rfl rfl rfl rfl
  have hE0 : EX Os (moSS t 0 0) := hE.of hM hM0 rfl (fun _ _ => sEq.m m0 rfl) (fun _ _ z => z)
  have hA0 : AGs (moSS t 0 0) := hAg.m m0 ⟨by decide, by decide⟩
  have z0 := pot_t (G := G) (H := H) (s := s) m0 rfl
  have no : M_run t y b = some (0, moSS t 0 0) → Q 0 s kc ks := fun e => k 0 _ e hM0 hA0 hE0 hN (m0.wk (by decide)) (SA23.fr m0 (by decide)) G H s kc ks hR0 kp0.rf (by rw [z0.1]; exact Nat.le_refl _) (by rw [z0.2]; exact Nat.le_refl _)
  have e0 : M_run t y b = if y < 0 then some (0, moSS t 0 0) else if y < t.S 37 then Option.bind (rdI (moSS t 0 0) 39 y) (fun x2 => if x2 = b then some (0, moSS t 0 0) else if b = 0 then Option.bind (M_tellAll (moSS t 0 0) y 2) (fun s3 => M_run_b39 s3 y b) else M_run_b39 (moSS t 0 0) y b) else some (0, moSS t 0 0) := rfl
  unfold C_Rf_run
  refine ⟨hq.ox, ?_⟩
  by_cases c0 : y < 0
  · exact w_rn hq hM (fun r hr e => nI_pos (show r < 2 ^ 31 by omega) (by rw [← e]; exact c0)) (ifT rfl (no (by rw [e0, if_pos c0])))
  by_cases c1 : y < t.S 37
  · obtain ⟨r, hr, rfl⟩ := nI_of c0
    have hr : r < cR t := Nat.lt_of_not_le fun h => by rw [e37] at c1; exact nI_nlt h hr c1
    have k26 := (hq.rt hr).1.1
    have i183 : s.I 183 (G 1 r) = t.I 39 r := (hq.rt hr).2.2.1.2.1
    have r39 : rdI (moSS t 0 0) 39 (nI r) = some (t.I 39 r) := rdI_n (t := moSS t 0 0) (n := 6) (hM0.n.n 39 6) (by omega) (by decide)
    refine w_ra hq hM hr (ifF (by simp) ⟨_, rfl, _, gd_to (okr k26 9), ?_⟩)
    rw [show s.I (20 * 9 + 3) (G 1 r) = t.I 39 r from i183]
    by_cases c2 : t.I 39 r = b
    · refine ifT c2 (no ?_)
      rw [e0, if_neg c0, if_pos c1, r39]
      simp only [Option.bind_some]
      rw [if_pos c2]
    · refine ifF c2 ?_
      have bj : bit (t.I 39 r) := (hM.r hr).2.1
      rw [if_neg c0, if_pos c1, r39] at e0
      have e0 : M_run t (nI r) b = if t.I 39 r = b then some (0, moSS t 0 0) else if b = 0 then Option.bind (M_tellAll (moSS t 0 0) (nI r) 2) (fun s3 => M_run_b39 s3 (nI r) b) else M_run_b39 (moSS t 0 0) (nI r) b := e0
      rw [if_neg c2] at e0
      have fin : ∀ t', M_run t (nI r) b = some (1, t') → MV t' → AGs t' → EX Os t' → NR t' → mfr Wrn (moSS t 0 0) t' → SA23 8850 (moSS t 0 0) t' → TuK sa x G H s (moSS t 0 0) kc ks t' (fun s' kc' ks' => Q 1 s' kc' ks') := fun t' a1 a2 a3 a4 a5 a6 a7 => by
        intro G' H' s' kc' ks' R g h f o x1 x2
        rw [z0.1] at x1
        rw [z0.2] at x2
        exact k 1 t' a1 a2 a3 a4 a5 ((m0.wk (by decide)).tr a6) a7 G' H' s' kc' ks' R (f.kp0 hq.1.1 rfl) x1 x2
      have hkc0 : PoC s G H (moSS t 0 0) + tdC G ≤ kc := by rw [z0.1]; exact hkc
      have hks0 : PoS s G H (moSS t 0 0) + tdS s G H x ≤ ks := by rw [z0.2]; exact hks
      rcases hb with rfl | rfl
      · rw [if_pos rfl] at e0
        refine ifT rfl ⟨okr k26 9, c_stop hR0 hM0 hA0 hE0 hr hs hkc0 hks0 fun t' y1 y2 y3 y4 y5 y6 y7 y8 y9 => fin t' (e0.trans y1) y2 y3 y4 (fun r' hr' z => ?_) (y5.wk (by decide)) y6⟩
        by_cases ce : r' = r
        · subst ce; exact ⟨y8.2.1, y8.2.2⟩
        · obtain ⟨w1, w2, w3⟩ := y9 r' ce
          rw [w1] at z
          rw [w2, w3]
          exact hN r' (by unfold cR at hr' ⊢; rw [y5.S 37 (by decide)] at hr'; exact hr') z
      · rw [if_neg (by decide)] at e0
        have h39 : t.I 39 r = 0 := bj.resolve_right c2
        refine ifF (by decide) ⟨okr k26 9, c_start hR0 hM0 hA0 hE0 hO hr h39 (hN r hr h39).1 (hN r hr h39).2 (fun j hj => ?_) hkc0 hks0 fun t' y1 y2 y3 y4 y5 y6 y7 y8 => fin t' (e0.trans y1) y2 y3 y4 (fun r' hr' z => ?_) (y5.wk (by decide)) (fun j hj => ?_)⟩
        · obtain ⟨d, e, hd⟩ := hs j hj
          exact ⟨d, e, by omega⟩
        · by_cases ce : r' = r
          · subst ce; rw [y8] at z; exact absurd z (by decide)
          · obtain ⟨w1, w2, w3⟩ := y7 r' ce
            rw [w1] at z
            rw [w2, w3]
            exact hN r' (by unfold cR at hr' ⊢; rw [y5.S 37 (by decide)] at hr'; exact hr') z
        · obtain ⟨d, h, e⟩ := y6 j
          exact ⟨d, by omega, e⟩
  · refine w_rn hq hM (fun r hr e => c1 ?_) (ifT rfl (no (by rw [e0, if_neg c0, if_neg c1])))
    rw [e, e37]; exact nI_lt hr (by omega)
end Ru
