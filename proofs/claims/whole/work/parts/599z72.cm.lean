/-! Writes that commute; the least number. -/
section Cm
variable {s : cS} {g g' a a' w : Nat} {u u' : Int32} {f : Nat → Option Nat}
theorem cSI_ext {s1 s2 : cS} (h1 : s1.K = s2.K) (h2 : s1.I = s2.I) (h3 : s1.J = s2.J) (h4 : s1.P = s2.P) (h5 : s1.E = s2.E) (h6 : s1.Q = s2.Q) : s1 = s2 := by
  obtain ⟨k1, i1, j1, p1, e1, q1⟩ := s1
  obtain ⟨k2, i2, j2, p2, e2, q2⟩ := s2
  cases h1
  cases h2
  cases h3
  cases h4
  cases h5
  cases h6
  rfl
theorem cSI_id : cSI (cSI s g a u) g a (s.I g a) = s := by
  refine cSI_ext rfl (funext fun k => funext fun b => ?_) rfl rfl rfl rfl
  rw [evI, evI]
  by_cases c : k = g ∧ b = a
  · rw [if_pos c, c.1, c.2]
  · rw [if_neg c, if_neg c]
theorem cSI_cm (h : g ≠ g') : cSI (cSI s g a u) g' a' u' = cSI (cSI s g' a' u') g a u := by
  refine cSI_ext rfl (funext fun k => funext fun b => ?_) rfl rfl rfl rfl
  rw [evI, evI, evI, evI]
  by_cases c : k = g ∧ b = a
  · rw [if_pos c, if_neg (fun z => h (c.1.symm.trans z.1)), if_pos c]
  · rw [if_neg c, if_neg c]
theorem cQs_cm : cQs (cSI s g a u) w f = cSI (cQs s w f) g a u := rfl
theorem lt_mn {y : Int32} : ¬ y < (-2147483648 : Int32) := fun z => by
  have := Int32.lt_iff_toInt_lt.mp z
  have h2 := Int32.le_toInt y
  rw [show (-2147483648 : Int32).toInt = -2147483648 by decide] at this
  omega
end Cm
