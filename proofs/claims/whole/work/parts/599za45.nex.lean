/-! A new learned route: what holds of the tables besides. -/
/-- how many routes of a family there are -/
def cFm (t : moS) (r f : Nat) : Nat := ((List.range (cN t r)).filter (fun i => decide (t.I 106 (2700 * r + i) = nI f))).length
section Nv
variable {t t' : moS} {r j f : Nat} {O : List Pf} {P : Pf} {Os : Nat → List Pf}
theorem nw_v (hM : MV t) (hM' : MV t') (hr : r < cR t) (hr' : r < cR t') (c : nwT1 r j P t t') : (∀ P', P' ≠ P → Vt t' r P' = Vt t r P') ∧ ∃ w : NV, Vt t' r P = some w ∧ w.1 = 2 := by
  obtain ⟨cw, en, hj, mI, mJ, vp, v2⟩ := c
  have e : ∀ y, y ≠ j → y ≤ cN t r → rvN t' (2700 * r + y) = rvN t (2700 * r + (if j < y then y - 1 else y)) ∧ pfR t' (2700 * r + y) = pfR t (2700 * r + (if j < y then y - 1 else y)) := fun y h1 h2 => rvN_mv (fun g hg => mI g hg y h1 h2) (fun g hg => mJ g hg y h1 h2)
  refine ⟨fun P' hne => ?_, rvN t' (2700 * r + j), Vt_some hM' hr' (by rw [en]; omega) vp, v2⟩
  by_cases c : ∃ i, i < cN t r ∧ pfR t (2700 * r + i) = P'
  · obtain ⟨i, hi, hp⟩ := c
    rw [Vt_some hM hr hi hp]
    by_cases ci : i < j
    · have z := e i (by omega) (by omega)
      rw [if_neg (by omega)] at z
      rw [Vt_some hM' hr' (j := i) (by rw [en]; omega) (z.2.trans hp), z.1]
    · have z := e (i + 1) (by omega) (by omega)
      rw [if_pos (by omega), Nat.add_sub_cancel] at z
      rw [Vt_some hM' hr' (j := i + 1) (by rw [en]; omega) (z.2.trans hp), z.1]
  · rw [Vt_none (t := t) (fun i h1 h2 => c ⟨i, h1, h2⟩), Vt_none (t := t')]
    intro y hy hp
    by_cases cy : y = j
    · rw [cy] at hp
      exact hne (hp.symm.trans vp)
    · rw [en] at hy
      have z := e y cy (by omega)
      exact c ⟨_, by split <;> omega, z.2.symm.trans hp⟩
theorem exr_nw (h : EXr O t r) (hM : MV t) (hM' : MV t') (hr : r < cR t) (hr' : r < cR t') (hP : P.1 = nI f) (hf : f = 0 ∨ f = 1) (c : nwT1 r j P t t') (hl : lnOk P.1 P.2.2.2) (hnf : ∀ i, i < cN t r → pfR t (2700 * r + i) ≠ P) (h60 : cFm t r f < 60) : EXr O t' r := by
  obtain ⟨vo, w, vw, w2⟩ := nw_v hM hM' hr hr' c
  obtain ⟨cw, en, hj, mI, mJ, vp, v2⟩ := c
  have m := cw.1
  have ed := dF_fr (r := r) m
  have e1 : cSt t' r = cSt t r := by unfold cSt; rw [m.I 46 (by decide)]
  have e2 : cI t' r = cI t r := by unfold cI; rw [m.I 70 (by decide)]
  obtain ⟨⟨o1, o2, D0, D1, l0, l1, hrow⟩, se, px⟩ := h
  have e : ∀ y, y ≠ j → y ≤ cN t r → pfR t' (2700 * r + y) = pfR t (2700 * r + (if j < y then y - 1 else y)) := fun y h1 h2 => (rvN_mv (fun g hg => mI g hg y h1 h2) (fun g hg => mJ g hg y h1 h2)).2
  have hin : ∀ i, i < cN t r → t.I 106 (2700 * r + i) = nI f → pfR t (2700 * r + i) ∈ ((List.range (cN t r)).filter (fun i => decide (t.I 106 (2700 * r + i) = nI f))).map (fun i => pfR t (2700 * r + i)) := fun i hi h1 => List.mem_map.mpr ⟨i, List.mem_filter.mpr ⟨List.mem_range.mpr hi, decide_eq_true h1⟩, rfl⟩
  have ll : (P :: ((List.range (cN t r)).filter (fun i => decide (t.I 106 (2700 * r + i) = nI f))).map (fun i => pfR t (2700 * r + i))).length ≤ 60 := by
    rw [List.length_cons, List.length_map]
    exact h60
  generalize ((List.range (cN t r)).filter (fun i => decide (t.I 106 (2700 * r + i) = nI f))).map (fun i => pfR t (2700 * r + i)) = D at hin ll
  have k1 : ∀ k, k < cSt t' r → stP t' (32 * r + k) ∈ O := by
    rw [e1]; unfold stP at o1 ⊢; rw [m.I 47 (by decide), m.J 48 (by decide), m.J 49 (by decide), m.I 50 (by decide)]; exact o1
  have k2 : ∀ y, y < 2 * cI t' r → t'.I 75 (8 * r + y) ≠ 0 → neP t' r y ∈ O := by
    rw [e2]; unfold neP at o2 ⊢; rw [m.I 75 (by decide), m.J 76 (by decide), m.J 77 (by decide), m.I 78 (by decide)]; exact o2
  have rowP : t'.I 106 (2700 * r + j) = nI f := (congrArg (fun z : Pf => z.1) vp).trans hP
  have row : ∀ y, y < cN t' r → (t'.I 106 (2700 * r + y) = nI f ∧ pfR t' (2700 * r + y) ∈ P :: D) ∨ (t'.I 106 (2700 * r + y) ≠ nI f ∧ (pfR t' (2700 * r + y) ∈ O ∨ t'.I 106 (2700 * r + y) = 0 ∧ pfR t' (2700 * r + y) ∈ D0 ∨ t'.I 106 (2700 * r + y) = 1 ∧ pfR t' (2700 * r + y) ∈ D1)) := fun y hy => by
    by_cases cy : y = j
    · subst cy
      exact Or.inl ⟨rowP, by rw [vp]; exact List.mem_cons_self⟩
    · rw [en] at hy
      have z := e y cy (by omega)
      have hi : (if j < y then y - 1 else y) < cN t r := by split <;> omega
      generalize (if j < y then y - 1 else y) = i at z hi
      have e6 : t'.I 106 (2700 * r + y) = t.I 106 (2700 * r + i) := congrArg (fun z : Pf => z.1) z
      rw [z, e6]
      by_cases cf : t.I 106 (2700 * r + i) = nI f
      · exact Or.inl ⟨cf, List.mem_cons_of_mem _ (hin i hi cf)⟩
      · exact Or.inr ⟨cf, hrow i hi⟩
  refine ⟨⟨k1, k2, ?_⟩, fun z => se_iff.mpr fun P' hP' => ?_, ?_⟩
  · rcases hf with rfl | rfl
    · refine ⟨P :: D, D1, ll, l1, fun y hy => ?_⟩
      rcases row y hy with ⟨a, b⟩ | ⟨a, b | ⟨b, -⟩ | b⟩
      · exact Or.inr (Or.inl ⟨a, b⟩)
      · exact Or.inl b
      · exact absurd b a
      · exact Or.inr (Or.inr b)
    · refine ⟨D0, P :: D, l0, ll, fun y hy => ?_⟩
      rcases row y hy with ⟨a, b⟩ | ⟨a, b | b | ⟨b, -⟩⟩
      · exact Or.inr (Or.inr ⟨a, b⟩)
      · exact Or.inl b
      · exact Or.inr (Or.inl b)
      · exact absurd b a
  · rw [m.I 39 (by decide)] at z
    rw [ed]
    have s0 := se_iff.mp (se z) P' hP'
    by_cases c : P' = P
    · rw [c, Vt_none hnf] at s0
      rw [c, vw]
      cases hd : dF t r P with
      | none =>
        show (if w.1 = 2 then (some w, false) else _) = (some w, false)
        rw [if_pos w2]
      | some y =>
        rw [hd] at s0
        exact absurd (show true = false from congrArg Prod.snd s0) (by decide)
    · rw [vo P' c]
      exact s0
  · rw [e1, m.J 48 (by decide), m.J 49 (by decide), m.I 50 (by decide)]; exact px
theorem ow_lt (h : OWr O t r) (hO : O.length ≤ 760) (hM : MV t) (hr : r < cR t) (hf : f = 0 ∨ f = 1) (hnf : ∀ i, i < cN t r → pfR t (2700 * r + i) ≠ P) (h60 : cFm t r f < 60) : cN t r < 880 := by
  obtain ⟨o1, o2, D0, D1, l0, l1, hrow⟩ := h
  have hin : ∀ i, i < cN t r → t.I 106 (2700 * r + i) = nI f → pfR t (2700 * r + i) ∈ ((List.range (cN t r)).filter (fun i => decide (t.I 106 (2700 * r + i) = nI f))).map (fun i => pfR t (2700 * r + i)) := fun i hi h1 => List.mem_map.mpr ⟨i, List.mem_filter.mpr ⟨List.mem_range.mpr hi, decide_eq_true h1⟩, rfl⟩
  have ll : (P :: ((List.range (cN t r)).filter (fun i => decide (t.I 106 (2700 * r + i) = nI f))).map (fun i => pfR t (2700 * r + i))).length ≤ 60 := by
    rw [List.length_cons, List.length_map]
    exact h60
  generalize ((List.range (cN t r)).filter (fun i => decide (t.I 106 (2700 * r + i) = nI f))).map (fun i => pfR t (2700 * r + i)) = D at hin ll
  have fin : ∀ D' : List Pf, D'.length ≤ 60 → (∀ j, j < cN t r → t.I 106 (2700 * r + j) ≠ nI f → pfR t (2700 * r + j) ∈ O ∨ pfR t (2700 * r + j) ∈ D') → cN t r < 880 := fun D' hl hd => by
    refine KB.lt (K := (P :: D) ++ (D' ++ O)) ⟨?_, fun j hj => ?_⟩ hM hr (List.mem_append.mpr (Or.inl List.mem_cons_self)) hnf
    · rw [List.length_append, List.length_append]; omega
    · by_cases c : t.I 106 (2700 * r + j) = nI f
      · exact List.mem_append.mpr (Or.inl (List.mem_cons_of_mem _ (hin j hj c)))
      · exact List.mem_append.mpr (Or.inr (List.mem_append.mpr (hd j hj c).symm))
  rcases hf with rfl | rfl
  · refine fin D1 l1 fun j hj c => ?_
    rcases hrow j hj with a | ⟨a, -⟩ | ⟨-, a⟩
    · exact Or.inl a
    · exact absurd a c
    · exact Or.inr a
  · refine fin D0 l0 fun j hj c => ?_
    rcases hrow j hj with a | ⟨-, a⟩ | ⟨a, -⟩
    · exact Or.inl a
    · exact Or.inr a
    · exact absurd a c
end Nv
