/-! launch and go: both sides. -/
abbrev Rgo : List Nat := [2, 3, 6, 7, 12, 13, 30, 104, 125, 129]
abbrev Pgo : List (Nat × Nat) := [(0, 2), (47, 6), (48, 6), (236, 30)]
/-- what stands behind a datagram that goes -/
def GoK (G H : Nat → Nat → Nat) (sa : Nat → Nat) (x : Nat) (s : cS) (t : moS) (l : Nat) (t' : moS) (kc ks : Nat) (Q : cS → Nat → Nat → Prop) : Prop := ∀ G' H' s' kc' ks', RR G' H' sa x s' t' → (∀ b, b ≠ 11 → b ≠ 12 → G' b = G b) → hA H H' s → fr Rgo Pgo Qfl s s' → (∀ i, i < cL t → i ≠ l → plC s' G H i = plC s G H i) → kc + plC s' G H l + 5 * dN G' t' ≤ kc' + plC s G H l + 5 * dN G t → ks + 2 * plC s' G H l + 622 * dN G' t' ≤ ks' + 2 * plC s G H l + 622 * dN G t → HO G H s t G' s' t' → Q s' kc' ks'
section La
variable {G H : Nat → Nat → Nat} {sa : Nat → Nat} {x r p l kc ks : Nat} {s : cS} {t t' : moS} {L : List Int32} {fm ta f po ho : Int32} {th tl h lo : Int64} {sn : Option Nat}
theorem DRf.fr {s1 : cS} {Rv Rq : List Nat} {Gp : List (Nat × Nat)} {D : Nat} (hD : DRf H s D L ta th tl f h lo po ho sn) (hT : TY cNo H s) (k6 : (s.K D).1 = 6) (g : fr Rv Gp Rq s s1) (d1 : dj [3, 6, 12, 13, 129] Rv) (d2 : djp [(0, 3), (47, 6)] Gp) : DRf H s1 D L ta th tl f h lo po ho sn := by
  obtain ⟨q1, q2, ⟨q3, q4, q5, q6⟩, q7, q8⟩ := hD
  have k3 := (hT.p k6 40 3).2
  have k12 := (hT.p k6 41 12).2
  have k13 := (hT.p k6 42 13).2
  have v6 := g.v k6 (d1.n 6)
  have v13 := g.v k13 (d1.n 13)
  unfold DRf
  rw [v6.1, v6.1, v6.1, v6.1, v13.1, v13.2.1, v13.2.1, g.p k6 (d2.n (47, 6))]
  exact ⟨q1.fr g k3 (d1.n 3) (d1.n 129) (d2.n (0, 3)), q2.fr g k12 (d1.n 12), ⟨q3, q4, q5, q6⟩, q7, q8⟩
theorem plC_fr {s1 : cS} {Rv Rq : List Nat} {Gp : List (Nat × Nat)} {i : Nat} (hq : RQ G H sa x s t) (hi : i < cL t) (g : fr Rv Gp Rq s s1) (d2 : djp [(0, 2)] Gp) : plC s1 G H i = plC s G H i := by
  have k7 := (hq.link hi).1.1
  have k2 := (hq.ty.p k7 67 2).2
  obtain ⟨-, -, -, c, -, hb⟩ := hq.link hi
  obtain ⟨-, b2, d, b3, b4, -⟩ := hb
  unfold plC capOf
  rw [g.p k2 (d2.n (0, 2)), b3]
  show 1200 - (s1.K d).2 = 1200 - (s.K d).2
  rw [(g d (by rw [b4]; show 125 ≠ 0; decide)).1]
/-- from where it is seen and counted -/
theorem c_b92 {t1 : moS} {k : Int32} (hR : RR G H sa x s t1) (hM : MV t1) (hl : l < cL t1) (hD : DRf H s (G 11 999) L ta th tl f h lo po ho sn) (hsn : sn = if fm = -1 then none else some (G 1 (fm.toNatClampNeg / 4))) (hgo : (cF t1 = 256 ∧ t' = t1) ∨ (cF t1 < 256 ∧ sn ≠ none ∧ 0 < t1.I 24 l ∧ t' = moSI t1 24 l (t1.I 24 l - 1)) ∨ (cF t1 < 256 ∧ (sn = none ∨ ¬ 0 < t1.I 24 l) ∧ ∃ p, p < 256 ∧ t1.I 125 p = 0 ∧ t' = flT t1 p l fm ta th tl f h lo po ho (dueT t1 l k) L)) (hkc : 5 * dN G t1 ≤ kc) (hks : 622 * dN G t1 ≤ ks) {Q : cS → Nat → Nat → Prop} (kk : ∀ G' H' s' kc' ks', RR G' H' sa x s' t' → (∀ b, b ≠ 11 → b ≠ 12 → G' b = G b) → hA H H' s → fr Rgo Pfl Qfl s s' → kc + 5 * dN G' t' ≤ kc' + 5 * dN G t1 → ks + 622 * dN G' t' ≤ ks' + 622 * dN G t1 → HO G H s t1 G' s' t' → Q s' kc' ks') : C_Rf_launch_b92 sa x (some (G 0 l)) (t1.I 19 l + Int64.toInt32 (rem_L ((3 : Int64) * (Int32.toInt64 k)) (Int32.toInt64 (t1.I 20 l + 1)))) s kc ks Q := by
  have hq := hR.q.1
  have hx := hq.1.1
  obtain ⟨⟨a1, a2, a3⟩, b, c, ⟨d1, d2⟩, -⟩ := hq.2.2.2.2.2.2
  have hF : t1.S 123 = nI (cF t1) := hM.2.2.2.2.1.1.n.1
  have k7 := (hq.link hl).1.1
  have e66 : s.I 66 (G 0 l) = t1.I 24 l := (hq.link hl).2.2.1.2.2.2.2.2
  have ox := okr hx 11
  have o2 := okr d2 2
  have o3 := okr k7 3
  unfold C_Rf_launch_b92
  refine ⟨_, gd_to ox, ?_⟩
  rw [show s.I (20 * 11 + 13) x = nI (cF t1) from a1.trans hF]
  rcases hgo with ⟨c1, rfl⟩ | ⟨c1, c2, c3, rfl⟩ | ⟨c1, c2, p, p1, p2, rfl⟩
  · exact ifF (by rw [c1]; decide) (kk G H s kc ks hR (fun _ _ _ => rfl) hA.rf fr.rf (Nat.le_refl _) (Nat.le_refl _) (HO.rf rfl))
  · refine ifT (nI_lt (b := 256) c1 (by decide)) ⟨_, gd_to ox, _, d1, _, gd_to o2, ?_⟩
    rw [show s.P (20 * 2 + 7) (G 11 999) = sn from hD.2.2.2.2]
    refine ifF c2 ⟨_, rfl, _, gd_to o3, ?_⟩
    rw [show s.I (20 * 3 + 6) (G 0 l) = t1.I 24 l from e66]
    refine ifT c3 ⟨_, gd_to o3, _, gd_to o3, ?_⟩
    rw [show s.I (20 * 3 + 6) (G 0 l) = t1.I 24 l from e66]
    have g : fr [7] [] [] s (cSI s 66 (G 0 l) (t1.I 24 l - 1)) := fr.si (by rw [k7]; decide)
    have m' : mfr [0, 22, 23, 24, 25, 26] t1 (moSI t1 24 l (t1.I 24 l - 1)) := mfr.si (by decide)
    refine kk G H _ kc ks (rr_lk hR hM (hq.1.v rfl rfl g rfl rfl rfl) g.wk m' fun i hi => rlk_si (hq.link hi) hq.ty hq.tk hi hl hq.2.1 (by decide) k7) (fun _ _ _ => rfl) hA.rf g.wk (Nat.le_refl _) (Nat.le_refl _) (fun A kA hFA => ⟨hdF.fr g hq.ty kA rfl (fun _ => by simp) (by simp), hFA⟩)
  · refine ifT (nI_lt (b := 256) c1 (by decide)) ⟨_, gd_to ox, _, d1, _, gd_to o2, ?_⟩
    rw [show s.P (20 * 2 + 7) (G 11 999) = sn from hD.2.2.2.2]
    have go : C_Rf_launch_b131 sa x (some (G 0 l)) (t1.I 19 l + Int64.toInt32 (rem_L ((3 : Int64) * (Int32.toInt64 k)) (Int32.toInt64 (t1.I 20 l + 1)))) s kc ks Q := by
      refine c_fly (du := dueT t1 l k) (p := p) hR hM c1 hl p1 p2 hD hsn ?_ hkc hks fun G' H' s' kc' ks' r1 r2 r3 r4 r5 r6 r7 => kk G' H' s' kc' ks' r1 r2 r3 r4.wk r5 r6 r7
      unfold dueT
      rw [hq.2.2.1.2.1, Int32.add_assoc]
    by_cases cs : sn = none
    · exact ifT cs go
    · refine ifF cs ⟨_, rfl, _, gd_to o3, ?_⟩
      rw [show s.I (20 * 3 + 6) (G 0 l) = t1.I 24 l from e66]
      exact ifF (c2.resolve_left cs) go
end La
