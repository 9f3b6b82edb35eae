/-! A new interface has heard nobody. -/
theorem ms_ni {t : moS} {r l : Nat} (hM : MV t) (hr : r < cR t) (h4 : cI t r < 4) : msL (niT t r l) (4 * r + cI t r) = [] ∧ mZi (niT t r l) (4 * r + cI t r) := by
  have m := (m_newIf (l := l) hM hr h4).2
  have h6 := hM.nR
  obtain ⟨h0, h1, h2, h3, h4', q1, q2, q3, q4, q5, q6⟩ := id hM
  constructor
  · unfold msL
    rw [m.S 101 (by decide), m.I 102 (by decide)]
    refine List.filter_eq_nil_iff.mpr fun i hi => ?_
    rw [List.mem_range] at hi
    obtain ⟨r', p', c1, c2, c3⟩ := q6 i hi
    have a : cI t r' ≤ 4 := (h3 r' c1).2.2.2.2.2.2.2.2.2.1.n.2.2
    rw [c3, decide_eq_true_iff]
    intro z
    have z := (nI_eq (by omega) (by omega)).mp z
    have e : r' = r := by omega
    subst e
    omega
  · have hz := q4 r (cI t r) (by omega) (Nat.le_refl _) h4
    unfold mZi at hz ⊢
    rw [m.I 74 (by decide), m.I 75 (by decide), m.I 79 (by decide), m.I 82 (by decide), m.I 89 (by decide), m.I 90 (by decide), m.I 95 (by decide), m.I 99 (by decide), m.I 100 (by decide)]
    exact hz
