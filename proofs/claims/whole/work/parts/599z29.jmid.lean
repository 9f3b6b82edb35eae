/-! A join, from the place where its interface is there. -/
section Jm
variable {G H G' H' : Nat → Nat → Nat} {sa : Nat → Nat} {x : Nat} {s s' : cS} {t t' : moS}
/-- nothing that counts is another -/
theorem pot_fr {Rv Rq : List Nat} {Gp : List (Nat × Nat)} (hR : RR G H sa x s t) (hM : MV t) (f : fr Rv Gp Rq s s') (d : djp [(200, 27), (200, 28), (0, 2), (28, 4), (96, 8)] Gp) (g : gA G G' t) (hh : hA H H' s) (eR : cR t ≤ cR t') (eL : cL t ≤ cL t') (eI : ∀ r, r < cR t → cI t r ≤ cI t' r) (eF : cF t' = cF t) : PoC s' G' H' t' ≤ PoC s G H t ∧ PoS s' G' H' t' ≤ PoS s G H t := by
  have hq := hR.q.1
  have hT := hq.ty
  have dn : ∀ u, u ∈ [(200, 27), (200, 28), (0, 2), (28, 4), (96, 8)] → u ∉ Gp := fun u hu => d.n u hu
  refine pot_le eR eL eI (fun r hr => ?_) (fun r hr => ?_) (fun l hl => ?_) (fun r p hr hp => ?_) ?_ (fun r p hr hp => ?_)
  · unfold pA potC
    rw [(g.2.1 r hr).2.2.1.1, (g.2.1 r hr).2.2.2.2.1.1]
    exact Nat.le_refl _
  · obtain ⟨k26, ⟨z1, z2, z3⟩, ⟨w, z4, z5⟩, w', z6, z7⟩ := rt_two hR hr
    have k187 := (hT.p k26 187 28).2
    have k186 := (hT.p k26 186 27).2
    unfold pB potS cpO cpT
    rw [(g.2.1 r hr).1, (g.2.1 r hr).2.2.1.1, (g.2.1 r hr).2.2.2.2.1.1, hh 187 (G 1 r) (by rw [k26]; decide), hh 186 (G 1 r) (by rw [k26]; decide), f.p k187 (dn _ (by decide)), f.p k186 (dn _ (by decide)), z4, z6]
    show _ + (_ - 2 * (s'.K w).2) + (_ + (_ - 2 * (s'.K w').2)) ≤ _ + (_ - 2 * (s.K w).2) + (_ + (_ - 2 * (s.K w').2))
    rw [(f w z5).1, (f w' z7).1]
    exact Nat.le_refl _
  · have k7 := (hq.2.2.2.1 l hl).1.1
    have e67 : H' 67 (G 0 l) = H 67 (G 0 l) := hh 67 _ (by rw [k7]; decide)
    have := plC_fr hq hl f (List.all_eq_true.mpr fun u hu => List.all_eq_true.mp d u (by
      have : u = (0, 2) := by simpa using hu
      rw [this]; decide))
    unfold plC at this ⊢
    rw [g.1 l hl, e67]
    omega
  · have k8 := (hq.po hr hp).1.1
    have k4 := (hT.p k8 86 4).2
    rw [((g.2.1 r hr).2.1 p hp).1, hh 86 _ (by rw [k8]; decide)]
    unfold wkC
    rw [f.p k4 (dn _ (by decide))]
    exact Nat.le_refl _
  · unfold dN
    rw [eF, g.2.2.2.2.1 999]
    exact Nat.le_refl _
  · rw [((g.2.1 r hr).2.1 p hp).1]
    exact cpZ_fr hq.1 f (hq.po hr hp).1.1 (dn _ (by decide))
end Jm
