/-! Lines: router, both sides. -/
section Py
variable {G H : Nat → Nat → Nat} {sa : Nat → Nat} {rd x kc ks : Nat} {s : cS} {t : moS} {l : List Int32} {ws : List (Nat × Nat)}
theorem hp_two {s2 s' : cS} {L2 L' : List (Nat × Ov)} {q : Nat} (h2 : HP sa s L2 s2) (hp : HP sa s L' s') (hs : ∀ p, p ∈ L2 → p ∈ L' ∨ p.1 = q) {a : Nat} (ha : (s2.K a).1 ≠ 0) (hq : a ≠ q) : ov s' a = ov s2 a := by
  by_cases c : ∃ p, p ∈ L2 ∧ p.1 = a
  · obtain ⟨p, hp2, e⟩ := c
    rcases hs p hp2 with z | z
    · have h1 := (hp.2.1 p z).1
      have h3 := (h2.2.1 p hp2).1
      rw [e] at h1 h3
      rw [h1, h3]
    · exact absurd (e.symm.trans z) hq
  · have h3 := h2.1 a (fun p hp2 e => c ⟨p, hp2, e⟩)
    have : (s.K a).1 ≠ 0 := by
      have e : s2.K a = s.K a := ov_K h3
      rw [← e]; exact ha
    rw [hp_old hp this, h3]
end Py
