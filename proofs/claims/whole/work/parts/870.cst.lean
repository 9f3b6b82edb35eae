/-! The constants at the start, as they are read. -/
theorem pm_P.re {D : va_G} {cl : List vw_C} {base a n : Nat} {M : pmM} {U : State} {H : Heap} {ty : FieldType} {f g : Nat → Int32} (h : pm_P D cl base M U H) (hb : a < base) (hM : M a = some (.inl (ty, n, .inl f))) (e : ∀ j, j < n → g j = f j) : pm_P D cl base (pm_up M a (.inl (ty, n, .inl g))) U H := by
  obtain ⟨ws, tys, h1, h2, h3, h4⟩ := h
  refine ⟨ws, tys, h1, h2, h3, fun c v hv => ?_⟩
  by_cases hc : c = a
  · subst hc
    rw [pm_up_self] at hv
    cases hv
    rcases h4 c _ hM with ⟨z, -⟩ | ⟨-, q⟩
    · exact absurd hb (by omega)
    · refine Or.inr ⟨hb, ?_⟩
      obtain ⟨cell, q1, q2, q3, q4, q5, q6⟩ := q
      exact ⟨cell, q1, q2, q3, q4, q5, fun j hj => by rw [e j hj]; exact q6 j hj⟩
  · rw [pm_up_ne _ _ hc] at hv
    exact h4 c v hv
theorem tx_kTx : kTx.length = 49 ∧ ∀ k, k < 49 → txB k = kTx.getD k [] := by decide +kernel
theorem sn_kSin : kSin.length = 64 ∧ (∀ j, j < 64 → kSin.getD j 0 = snL.getD j 0) ∧ kTur.length = 16 ∧ ∀ j, j < 16 → kTur.getD j 0 = tnL.getD j 0 := by decide +kernel
theorem start_cst {D : va_G} {s : State} {sa va : Nat → Nat} {M0 : pmM} {b L : Nat} {ys sn tn : Nat → Int32} (hP : pm_P D kcl s.heap.size M0 s s.heap) (hMb : M0 b = some (.inl (.int, L, .inl ys))) (htx : ∀ k, k < 49 → vSt M0 (sa k) (va k) (txB k)) (hsn : M0 (sa 1000) = some (.inl (.int, 64, .inl sn)) ∧ ∀ j, j < 64 → sn j = snL.getD j 0) (htn : M0 (sa 1001) = some (.inl (.int, 16, .inl tn)) ∧ ∀ j, j < 16 → tn j = tnL.getD j 0) (hM0 : ∀ a, M0 a ≠ none → a < s.heap.size) : ∃ (M1 : pmM) (zs : Nat → Int32), pm_P D kcl s.heap.size M1 s s.heap ∧ cstR sa M1 ∧ M1 b = some (.inl (.int, L, .inl zs)) := by
  obtain ⟨k1, k2, k3, k4⟩ := sn_kSin
  have ne : sa 1000 ≠ sa 1001 := fun e => by
    have h1 := hsn.1
    rw [e, htn.1] at h1
    cases h1
  have P1 := hP.re (g := fun i => kSin.getD i 0) (hM0 _ (by rw [hsn.1]; simp)) hsn.1 (fun j hj => by rw [hsn.2 j hj]; exact k2 j hj)
  have P2 := P1.re (a := sa 1001) (g := fun i => kTur.getD i 0) (hM0 _ (by rw [htn.1]; simp)) (by rw [pm_up_ne _ _ ne.symm]; exact htn.1) (fun j hj => by rw [htn.2 j hj]; exact k4 j hj)
  refine ⟨_, ?_, P2, ⟨fun k hk => ?_, ?_, ?_⟩, ?_⟩
  · exact if b = sa 1001 then (fun i => kTur.getD i 0) else if b = sa 1000 then (fun i => kSin.getD i 0) else ys
  · rw [tx_kTx.1] at hk
    obtain ⟨h, z, f, b1, b2, b3⟩ := htx k hk
    rw [tx_kTx.2 k hk] at b2 b3
    refine ⟨va k, h, z, f, ?_, ?_, b3⟩
    · rw [pm_up_ne _ _ (fun e => by rw [e, htn.1] at b1; cases b1), pm_up_ne _ _ (fun e => by rw [e, hsn.1] at b1; cases b1)]
      exact b1
    · rw [pm_up_ne _ _ (fun e => by rw [e, htn.1] at b2; cases b2), pm_up_ne _ _ (fun e => by rw [e, hsn.1] at b2; cases b2)]
      exact b2
  · rw [pm_up_ne _ _ ne, pm_up_self, k1]
  · rw [pm_up_self, k3]
  · by_cases c1 : b = sa 1001
    · rw [if_pos c1, c1, pm_up_self]
      rw [c1, htn.1] at hMb
      cases hMb
      rfl
    · rw [if_neg c1, pm_up_ne _ _ c1]
      by_cases c2 : b = sa 1000
      · rw [if_pos c2, c2, pm_up_self]
        rw [c2, hsn.1] at hMb
        cases hMb
        rfl
      · rw [if_neg c2, pm_up_ne _ _ c2]
        exact hMb
