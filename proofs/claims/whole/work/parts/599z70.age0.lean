/-! A router's table ages: nothing is due. -/
section A0
variable {G H : Nat → Nat → Nat} {sa : Nat → Nat} {x r kc ks : Nat} {s : cS} {t : moS}
theorem age_no (hR : RR G H sa x s t) (hM : MV t) (hA : AGs t) (hr : r < cR t) (h : s.I 225 x < s.I 199 (G 1 r)) : M_age t (nI r) = some t := by
  have h6 := hM.nR
  have h9 := hM.nRo hr
  have hq := hR.q.1
  obtain ⟨b0, b1, b2⟩ := hq.tb hr
  have e225 : s.I 225 x = t.S 1 := hq.2.2.1.2.1
  have lt : ∀ j, j < cN t r → t.I 110 (2700 * r + j) = 2 → t.S 1 < s.I 170 (G 4 (2700 * r + j)) := fun j hj h2 => by
    have z := b2 j hj h2
    rw [← e225]
    exact Int32.lt_of_lt_of_le h (Int32.not_lt.mp z)
  have st : ∀ j, j < cN t r → M_age_s6 t (nI r) (nI (2700 * r + j)) = some (.inl (nI (2700 * r + j + 1), t)) := fun j hj => by
    have hRW := b1 j hj
    have hm := (hM.r hr).w hj
    rw [m_age_s hM hA hr hj, if_neg, if_neg]
    · rintro ⟨z1, z2⟩
      have k2 : t.I 110 (2700 * r + j) = 2 := by
        by_cases c : t.I 110 (2700 * r + j) = 2
        · exact c
        · obtain ⟨y, e, -, hy⟩ := hm.2.2.2.1 c
          rw [e] at z1
          have := (nI_eq (b := 16) (by omega) (by decide)).mp z1
          omega
      have := lt j hj k2
      rw [hRW.2.2.2.2.2.1 k2 z1] at this
      exact z2 this
    · rintro ⟨z1, z2, z3⟩
      have := lt j hj z1
      rw [(hRW.2.2.2.2.1 z1 z2).2.2] at this
      exact z3 this
  have loop : ∀ d j, j + d = cN t r → M_age_b6 t (nI r) (nI (2700 * r + j)) = some t := by
    intro d
    induction d with
    | zero =>
      intro j hj
      unfold M_age_b6
      refine lp_x ?_
      show M_age_s6 t (nI r) (nI (2700 * r + j)) = _
      rw [show j = cN t r by omega]
      exact m_age_e hM hr
    | succ d ih =>
      intro j hj
      rw [← ih (j + 1) (by omega)]
      unfold M_age_b6
      exact lp_l (f := fun x : Int32 × moS => M_age_s6 x.2 (nI r) x.1) (st j (by omega))
  unfold M_age
  rw [show (2700 : Int32) * nI r = nI (2700 * r + 0) by rw [show (2700 : Int32) = nI 2700 from rfl, pk_mul]; rfl]
  exact loop (cN t r) 0 (by omega)
end A0
