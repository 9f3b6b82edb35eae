/-! A router's table ages: the model's step. -/
section Ma
variable {t : moS} {r j : Nat}
theorem m_age_e (hM : MV t) (hr : r < cR t) : M_age_s6 t (nI r) (nI (2700 * r + cN t r)) = xo (some t) := by
  have h6 := hM.nR
  have h9 := hM.nRo hr
  have e105 : t.I 105 r = nI (cN t r) := (hM.r hr).2.2.2.2.2.2.2.2.2.2.2.2.1.n.1
  unfold M_age_s6
  rw [rdI_n (n := 6) (hM.n.n 105 6) (by omega) (by decide), e105]
  simp only [Option.bind_some]
  rw [show (2700 : Int32) = nI 2700 from rfl, pk_mul, nI_add, if_neg (nI_nlt (by omega) (by omega))]
theorem m_age_s (hM : MV t) (hA : AGs t) (hr : r < cR t) (hj : j < cN t r) : M_age_s6 t (nI r) (nI (2700 * r + j)) = if t.I 110 (2700 * r + j) = 2 ∧ t.I 111 (2700 * r + j) ≠ 16 ∧ ¬ t.S 1 < t.I 120 (2700 * r + j) + t.I 121 (2700 * r + j) then Option.bind (M_die t (nI r) (nI (2700 * r + j))) (fun s4 => some (.inl (nI (2700 * r + j + 1), s4))) else if t.I 111 (2700 * r + j) = 16 ∧ ¬ t.S 1 < t.I 122 (2700 * r + j) then Option.bind (M_remove t (nI r) (nI (2700 * r + j))) (fun s3 => some (.inl (nI (2700 * r + j), s3))) else some (.inl (nI (2700 * r + j + 1), t)) := by
  have h6 := hM.nR
  have h9 := hM.nRo hr
  have e105 : t.I 105 r = nI (cN t r) := (hM.r hr).2.2.2.2.2.2.2.2.2.2.2.2.1.n.1
  obtain ⟨m, em, -, hm⟩ := hM.1.2.1
  obtain ⟨⟨a, ea, -, ha⟩, b, eb, -, hb⟩ := hA (2700 * r + j)
  have cmp : (t.S 1 - t.I 120 (2700 * r + j) < t.I 121 (2700 * r + j) ↔ t.S 1 < t.I 120 (2700 * r + j) + t.I 121 (2700 * r + j)) := by rw [em, ea, eb]; exact ag_cmp hm ha hb
  have rd : ∀ k, k ∈ fRA → rdI t k (nI (2700 * r + j)) = some (t.I k (2700 * r + j)) := fun k hk => rdI_n (n := 16200) (hM.n.n k 16200 (by revert hk; revert k; decide)) (by omega) (by decide)
  have b67 : M_age_b67 t (nI r) (nI (2700 * r + j)) = if t.I 111 (2700 * r + j) = 16 ∧ ¬ t.S 1 < t.I 122 (2700 * r + j) then Option.bind (M_remove t (nI r) (nI (2700 * r + j))) (fun s3 => some (.inl (nI (2700 * r + j), s3))) else some (.inl (nI (2700 * r + j + 1), t)) := by
    unfold M_age_b67 M_age_b68 M_age_b115
    rw [if_pos rfl, rd 111 (by decide)]
    simp only [Option.bind_some]
    by_cases c : t.I 111 (2700 * r + j) = 16
    · rw [if_pos c, rd 122 (by decide)]
      simp only [Option.bind_some]
      by_cases c2 : t.S 1 < t.I 122 (2700 * r + j)
      · rw [if_pos c2, if_neg (fun z => z.2 c2), nI_1]
      · rw [if_neg c2, if_pos ⟨c, c2⟩]
    · rw [if_neg c, if_neg (fun z => c z.1), nI_1]
  obtain ⟨mm, emm, hm1, hm16⟩ := ((hM.r hr).w hj).2.2.1
  have l16 : (t.I 111 (2700 * r + j) < 16 ↔ t.I 111 (2700 * r + j) ≠ 16) := by
    rw [emm]
    constructor
    · intro z e
      have := (nI_eq (b := 16) (by omega) (by decide)).mp e
      subst this
      exact absurd z (by decide)
    · intro z
      exact nI_lt (b := 16) (by
        have : mm ≠ 16 := fun e => z (by rw [e]; rfl)
        omega) (by decide)
  unfold M_age_s6
  rw [rdI_n (n := 6) (hM.n.n 105 6) (by omega) (by decide), e105]
  simp only [Option.bind_some]
  rw [show (2700 : Int32) = nI 2700 from rfl, pk_mul, nI_add, if_pos (nI_lt (by omega) (by omega)), rd 110 (by decide)]
  simp only [Option.bind_some]
  by_cases c1 : t.I 110 (2700 * r + j) = 2
  · rw [if_pos c1, rd 111 (by decide)]
    simp only [Option.bind_some]
    by_cases c2 : t.I 111 (2700 * r + j) < 16
    · rw [if_pos c2, rd 120 (by decide)]
      simp only [Option.bind_some]
      rw [rd 121 (by decide)]
      simp only [Option.bind_some]
      by_cases c3 : t.S 1 - t.I 120 (2700 * r + j) < t.I 121 (2700 * r + j)
      · rw [if_pos c3, b67, if_neg (c := t.I 110 (2700 * r + j) = 2 ∧ _) (fun z => z.2.2 (cmp.mp c3))]
      · rw [if_neg c3, if_pos ⟨c1, l16.mp c2, fun z => c3 (cmp.mpr z)⟩]
        unfold M_age_b68 M_age_b115
        rw [if_neg (by decide), nI_1]
    · rw [if_neg c2, b67, if_neg (c := t.I 110 (2700 * r + j) = 2 ∧ _) (fun z => c2 (l16.mpr z.2.1))]
  · rw [if_neg c1, b67, if_neg (c := t.I 110 (2700 * r + j) = 2 ∧ _) (fun z => c1 z.1)]
end Ma
