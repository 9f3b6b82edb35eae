/-! A new interface: what holds of the model. -/
section Nj
variable {r l : Nat} {t : moS}
theorem mv_ni (hM : MV t) (hr : r < cR t) (h4 : cI t r < 4) (hl : l < cL t) (hno : ∀ p, p < cI t r → t.I 71 (4 * r + p) ≠ nI l) : MV (niT t r l) := by
  have m := (m_newIf (l := l) hM hr h4).2
  have hcI := ni_cI (l := l) hM hr
  have h10 := hM.nL
  have h6 := hM.nR
  obtain ⟨h0, h1, h2, h3, h4', q1, q2, q3, q4, q5, q6⟩ := id hM
  have eL : cL (niT t r l) = cL t := by unfold cL; rw [m.S 17 (by decide)]
  have eS : cS' (niT t r l) = cS' t := by unfold cS'; rw [m.S 27 (by decide)]
  have eR : cR (niT t r l) = cR t := by unfold cR; rw [m.S 37 (by decide)]
  have eF : cF (niT t r l) = cF t := by unfold cF; rw [m.S 123 (by decide)]
  have eN : ∀ r', cN (niT t r l) r' = cN t r' := fun r' => by unfold cN; rw [m.I 105 (by decide)]
  have le : ∀ r', cI t r' ≤ cI (niT t r l) r' := fun r' => by
    rw [hcI]
    by_cases z : r' = r
    · rw [if_pos z, z]; omega
    · rw [if_neg z]; exact Nat.le_refl _
  have i4 : ∀ r', r' < cR t → cI t r' ≤ 4 := fun r' hr' => (h3 r' hr').2.2.2.2.2.2.2.2.2.1.n.2.2
  -- an interface that was there
  have ne : ∀ r' p', r' < cR t → p' < cI t r' → 4 * r' + p' ≠ 4 * r + cI t r := fun r' p' hr' hp' z => by
    have a := i4 r' hr'
    have e : r' = r := by omega
    subst e
    omega
  have old : ∀ i, i ≠ 4 * r + cI t r → (niT t r l).I 71 i = t.I 71 i ∧ (niT t r l).I 72 i = t.I 72 i ∧ (niT t r l).J 73 i = t.J 73 i := fun i hi => ⟨by rw [ni_71, if_neg hi], by rw [ni_72, if_neg hi], by rw [ni_73, if_neg hi]⟩
  have vi : ∀ i, i ≠ 4 * r + cI t r → mVi t i → mVi (niT t r l) i := fun i hi hv => by
    obtain ⟨o1, o2, o3⟩ := old i hi
    unfold mVi at hv ⊢
    rw [o1, o2, o3, eL, m.I 74 (by decide), m.I 75 (by decide), m.I 78 (by decide), m.I 79 (by decide), m.I 80 (by decide), m.I 82 (by decide), m.I 83 (by decide), m.I 84 (by decide), m.I 85 (by decide), m.I 87 (by decide), m.I 88 (by decide), m.I 90 (by decide), m.I 91 (by decide), m.I 94 (by decide), m.I 95 (by decide), m.I 96 (by decide), m.I 99 (by decide), m.I 100 (by decide)]
    exact hv
  have vz : ∀ i, mZi t i → mZi (niT t r l) i := fun i hz => by
    unfold mZi at hz ⊢
    rw [m.I 74 (by decide), m.I 75 (by decide), m.I 79 (by decide), m.I 82 (by decide), m.I 89 (by decide), m.I 90 (by decide), m.I 95 (by decide), m.I 99 (by decide), m.I 100 (by decide)]
    exact hz
  have vn : mVi (niT t r l) (4 * r + cI t r) := by
    obtain ⟨z1, ⟨z2, z2'⟩, z3, z4, z5, z6, z7, z8, z9⟩ := q4 r (cI t r) (by omega) (Nat.le_refl _) h4
    unfold mVi
    rw [ni_71, ni_72, ni_73, if_pos rfl, if_pos rfl, if_pos rfl, eL, m.I 74 (by decide), m.I 75 (by decide), m.I 78 (by decide), m.I 79 (by decide), m.I 80 (by decide), m.I 82 (by decide), m.I 83 (by decide), m.I 84 (by decide), m.I 85 (by decide), m.I 87 (by decide), m.I 88 (by decide), m.I 90 (by decide), m.I 91 (by decide), m.I 94 (by decide), m.I 95 (by decide), m.I 96 (by decide), m.I 99 (by decide), m.I 100 (by decide), z1, z2, z2', z3, z4, z6, z7, z8, z9]
    have c0 : (0 : Int32).toNatClampNeg = 0 := rfl
    rw [c0, nI_clamp (show l < 2 ^ 31 by omega)]
    exact ⟨⟨l, rfl, Nat.zero_le _, by omega⟩, hl, ⟨1, rfl, by decide, by decide⟩, Or.inr (Or.inr rfl), Or.inl rfl, ⟨Or.inl rfl, Or.inl rfl⟩, fun z => absurd z (by decide), fun z => absurd z (by decide), ⟨0, rfl, by decide, by decide⟩, fun z => absurd z (by decide), ⟨0, rfl, by decide, by decide⟩, ⟨fun z => absurd z (by decide), fun z => absurd z (by decide)⟩, fun k hk => absurd hk (Nat.not_lt_zero k), ⟨0, rfl, by decide, by decide⟩, fun k hk => absurd hk (Nat.not_lt_zero k), ⟨0, rfl, by decide, by decide⟩, fun k hk => absurd hk (Nat.not_lt_zero k), ⟨0, rfl, by decide, by decide⟩, Or.inl rfl⟩
  refine ⟨h0.fr m rfl, fun i hi => (h1 i (by rw [← eL]; exact hi)).fr m rfl, fun i hi => (h2 i (by rw [← eS]; exact hi)).fr m rfl, fun r' hr' => ?_, ?_, ?_, ?_, ?_, ?_, ?_, ?_⟩
  · rw [eR] at hr'
    obtain ⟨a1, a2, a3, a4, a5, a6, a7, a8, a9, a10, a11, a12, a13, a14, a15⟩ := h3 r' hr'
    refine ⟨?_, ?_, ?_, ?_, ?_, ?_, ?_, ?_, ?_, ?_, fun p hp => ?_, fun p p' hpp hp' => ?_, ?_, fun j hj => ?_, ?_⟩
    · rw [m.J 38 (by decide)]; exact a1
    · rw [m.I 39 (by decide)]; exact a2
    · rw [m.I 40 (by decide), m.I 41 (by decide), m.I 42 (by decide)]; exact a3
    · rw [m.I 46 (by decide)]; exact a4
    · rw [m.I 46 (by decide), m.I 47 (by decide), m.I 50 (by decide), m.I 51 (by decide), m.I 52 (by decide)]; exact a5
    · rw [m.I 53 (by decide), m.I 54 (by decide), m.I 57 (by decide), m.I 58 (by decide)]; exact a6
    · rw [eL, eS, m.I 59 (by decide), m.I 60 (by decide), m.I 61 (by decide), m.I 62 (by decide)]; exact a7
    · rw [eL, eS, m.I 63 (by decide), m.I 64 (by decide), m.I 65 (by decide), m.I 66 (by decide), m.I 67 (by decide)]; exact a8
    · rw [m.I 68 (by decide), m.I 69 (by decide)]; exact a9
    · rw [ni_70]
      by_cases z : r' = r
      · rw [if_pos z]; exact ⟨cI t r + 1, rfl, Nat.zero_le _, by omega⟩
      · rw [if_neg z]; exact a10
    · rw [hcI] at hp
      by_cases z : r' = r
      · rw [if_pos z] at hp
        by_cases y : p = cI t r
        · rw [z, y]; exact vn
        · exact vi _ (ne r' p hr' (by rw [z]; omega)) (a11 p (by rw [z]; omega))
      · rw [if_neg z] at hp
        exact vi _ (ne r' p hr' hp) (a11 p hp)
    · rw [hcI] at hp'
      by_cases z : r' = r
      · rw [if_pos z] at hp'
        have hp1 : p < cI t r' := by rw [z]; omega
        rw [(old _ (ne r' p hr' hp1)).1]
        by_cases y : p' = cI t r
        · rw [z, y, ni_71, if_pos rfl]
          exact hno p (by omega)
        · rw [(old _ (ne r' p' hr' (by rw [z]; omega))).1]
          exact a12 p p' hpp (by rw [z]; omega)
      · rw [if_neg z] at hp'
        rw [(old _ (ne r' p hr' (by omega))).1, (old _ (ne r' p' hr' hp')).1]
        exact a12 p p' hpp hp'
    · rw [m.I 105 (by decide)]; exact a13
    · rw [eN] at hj
      have := a14 j hj
      have l' := le r'
      unfold mRw at this ⊢
      rw [m.I 106 (by decide), m.I 109 (by decide), m.I 110 (by decide), m.I 111 (by decide), m.I 112 (by decide), m.I 113 (by decide), m.J 114 (by decide), m.J 115 (by decide), m.I 116 (by decide), m.I 119 (by decide)]
      obtain ⟨b1, b2, b3, b4, b5, b6, b7⟩ := this
      exact ⟨b1, b2, b3, b4, b5, b6.imp_right fun ⟨q, c1, c2, c3⟩ => ⟨q, c1, c2, by omega⟩, b7⟩
    · unfold mKy
      rw [m.I 106 (by decide), m.J 107 (by decide), m.J 108 (by decide), m.I 109 (by decide)]
      rw [eN]
      exact a15
  · obtain ⟨f1, f2, f3, f4, f5, f6⟩ := h4'
    unfold mVf
    rw [eF, eL, eR, m.S 123 (by decide), m.I 124 (by decide), m.I 125 (by decide), m.I 126 (by decide), m.I 127 (by decide), m.I 128 (by decide), m.I 131 (by decide), m.I 137 (by decide)]
    refine ⟨f1, f2, f3, f4, f5, fun i hi => ?_⟩
    obtain ⟨g1, g2, g3, g4, g5⟩ := f6 i hi
    refine ⟨g1, g2, g3, g4, g5.imp_right fun ⟨r', p', c1, c2, c3, c4⟩ => ⟨r', p', c1, Nat.lt_of_lt_of_le c2 (le r'), c3, ?_⟩⟩
    rw [(old _ (ne r' p' c1 c2)).1]; exact c4
  · rw [eL, m.I 23 (by decide), m.I 24 (by decide), m.I 25 (by decide)]; exact q1
  · rw [eS, m.I 29 (by decide)]; exact q2
  · rw [eR]
    intro r' h1' h2'
    have nr : r' ≠ r := by omega
    rw [ni_70, if_neg nr, m.I 45 (by decide), m.I 46 (by decide), m.I 53 (by decide), m.I 59 (by decide), m.I 63 (by decide), m.I 105 (by decide)]
    exact q3 r' h1' h2'
  · intro r' p' c1 c2 c3
    exact vz _ (q4 r' p' c1 (Nat.le_trans (le r') c2) c3)
  · rw [m.S 101 (by decide), m.2 102 (Or.inl (by decide))]; exact q5
  · rw [m.S 101 (by decide), m.I 102 (by decide), eR]
    intro i hi
    obtain ⟨r', p', c1, c2, c3⟩ := q6 i hi
    exact ⟨r', p', c1, Nat.lt_of_lt_of_le c2 (le r'), c3⟩
end Nj
