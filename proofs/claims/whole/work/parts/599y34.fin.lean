/-! Settled: nothing is to do; the class's settling of some prefixes and the model's of all come to the same. -/
def SEt (t : moS) (r : Nat) : Prop := ∀ P : Pf, lnOk P.1 P.2.2.2 → stM t r P (al t r) = al t r
section Fi
variable {G H : Nat → Nat → Nat} {sa : Nat → Nat} {x : Nat} {s : cS} {t t0 t' : moS} {r : Nat} {K X : List Pf} {P : Pf} {a : AA}
theorem fld_n {d : Pf → Option DU} {tg g0 : Int32} : ∀ (L : List Pf) (a : AA), P ∉ L → (fld (st1 d tg g0) L a).1 P = a.1 P
  | [], _, _ => rfl
  | Q :: L, a, h => by
    show (fld (st1 d tg g0) L (st1 d tg g0 Q a)).1 P = _
    rw [fld_n L _ (fun z => h (List.mem_cons_of_mem _ z)), st1_n (fun z => h (by rw [z]; simp))]
theorem st1_id {d : Pf → Option DU} {tg g0 : Int32} (h1 : d P = none) (h2 : a.1 P = none) : st1 d tg g0 P a = a := by
  unfold st1
  rw [h1, h2]
  refine Prod.ext (funext fun P' => ?_) rfl
  show (if P' = P then none else a.1 P') = a.1 P'
  by_cases c : P' = P
  · rw [if_pos c, c]; exact h2.symm
  · rw [if_neg c]
theorem dF_own (hM : MV t) (hr : r < cR t) (hf : lnOk P.1 P.2.2.2) (h : dF t r P ≠ none) : P ∈ L2M t r (2 * cI t r) 0 ++ L3M t r (cSt t r) 0 := by
  obtain ⟨f, hh, l, n⟩ := P
  have hx : ∃ q : DU, isDu t r f hh l n q.1 q.2.1 q.2.2.1 q.2.2.2 := by
    apply Classical.byContradiction
    intro z
    apply h
    unfold dF
    exact dif_neg z
  obtain ⟨q, hq⟩ := hx
  have hf : lnOk f n := hf
  rcases hq with ⟨p, h1, h2, -⟩ | ⟨-, k, h1, h2, -⟩
  · refine List.mem_append.mpr (Or.inl ((L2M_m _ _).mpr ⟨2 * p + f.toNatClampNeg, Nat.zero_le _, ?_, ?_, ?_⟩))
    · rcases hf.1 with e | e
      · rw [e]; show 2 * p + 0 < _; omega
      · rw [e]; show 2 * p + 1 < _; omega
    · have := h2.2.1
      rw [show 2 * (4 * r + p) + f.toNatClampNeg = 8 * r + (2 * p + f.toNatClampNeg) by omega] at this
      exact this
    · obtain ⟨-, -, y1, y2, y3⟩ := h2
      rw [show 2 * (4 * r + p) + f.toNatClampNeg = 8 * r + (2 * p + f.toNatClampNeg) by omega] at y1 y2 y3
      unfold neP
      rw [y1, y2, y3]
      have : nI ((2 * p + f.toNatClampNeg) % 2) = f := by
        rcases hf.1 with e | e
        · rw [e]
          show nI ((2 * p + 0) % 2) = 0
          rw [show (2 * p + 0) % 2 = 0 by omega]; rfl
        · rw [e]
          show nI ((2 * p + 1) % 2) = 1
          rw [show (2 * p + 1) % 2 = 1 by omega]; rfl
      rw [this]
  · refine List.mem_append.mpr (Or.inr ((L3M_m _ _).mpr ⟨k, Nat.zero_le _, by omega, ?_⟩))
    obtain ⟨e1, e2, e3, e4⟩ := (kyV_i (hM.sl hr h1).1 hf).mp h2
    unfold stP
    rw [e1, e2, e3, e4]
theorem not_row (hP : P ∉ L1M t r (cN t r) 0) : Vt t r P = none := Vt_none fun j hj z => hP ((L1M_m _ _).mpr ⟨j, Nat.zero_le _, by omega, z.symm⟩)
theorem LM_n (hP : P ∉ LM t r) : P ∉ L1M t r (cN t r) 0 ∧ P ∉ L2M t r (2 * cI t r) 0 ++ L3M t r (cSt t r) 0 := ⟨fun z => hP (List.mem_append.mpr (Or.inl z)), fun z => hP (List.mem_append.mpr (Or.inr z))⟩
/-- what neither stands there nor is its own is settled -/
theorem out_s (hM : MV t) (hr : r < cR t) (hf : lnOk P.1 P.2.2.2) (hP : P ∉ LM t r) : dF t r P = none ∧ Vt t r P = none := by
  obtain ⟨h1, h2⟩ := LM_n hP
  refine ⟨?_, not_row h1⟩
  apply Classical.byContradiction
  intro z
  exact h2 (dF_own hM hr hf z)
theorem se_set (hM0 : MV t0) (hr : r < cR t0) (q : SQ K t0 r t') (e : al t' r = fld (stM t0 r) (LM t0 r) (al t0 r)) : SEt t' r := by
  intro P hf
  obtain ⟨d1, d2, d3⟩ := q.d
  show st1 (dF t' r) (tgM t' r) (g0M t' r) P (al t' r) = al t' r
  rw [d1, d2, d3, e]
  by_cases c : P ∈ LM t0 r
  · exact fld_in (st1_c _ _ _) (st1_i _ _ _) _ _ _ c
  · obtain ⟨h1, h2⟩ := out_s hM0 hr hf c
    refine st1_id h1 ?_
    rw [fld_n _ _ c]
    exact h2
/-- the class's settling of some, the model's of all -/
theorem c_fin (hM : MV t) (hr : r < cR t) (hrun : t.I 39 r ≠ 0) (hb : KB K t r) (hK : ∀ k, k < cSt t r → stP t (32 * r + k) ∈ K) (hK2 : ∀ y, y < 2 * cI t r → t.I 75 (8 * r + y) ≠ 0 → neP t r y ∈ K) (hX : ∀ P, P ∈ X → lnOk P.1 P.2.2.2 ∧ P ∈ K) (hcov : ∀ P, P ∈ LM t r → P ∈ X ∨ stM t r P (al t r) = al t r) : ∃ t2 t', SAs t r X = some t2 ∧ M_settle t (nI r) = some t' ∧ SQ K t r t' ∧ SEt t' r ∧ ∀ G H sa x s, RR G H sa x s t2 → RR G H sa x s t' := by
  obtain ⟨t', e1, q1, p1, a1⟩ := m_settle hM hr hrun hb hK hK2
  obtain ⟨t2, e2, q2, a2⟩ := SQ.sts hr X t ⟨hM, rwT.rf, hb, fun _ _ => rfl⟩ hX
  have eq : fld (stM t r) (LM t r) (al t r) = fld (stM t r) X (al t r) := by
    refine fld_eq (st1_c _ _ _) (st1_i _ _ _) _ _ _ hcov fun P hP => ?_
    by_cases c : P ∈ LM t r
    · exact Or.inl c
    · obtain ⟨h1, h2⟩ := out_s hM hr (hX P hP).1 c
      exact Or.inr (st1_id h1 h2)
  refine ⟨t2, t', e2, e1, q1, se_set hM hr q1 a1, fun G H sa x s hR => ?_⟩
  refine rr_al hR q2.1 q1.1 (q2.cr hr) (q2.2.1.sym.tr q1.2.1) ?_ fun i hi => ?_
  · rw [a1, a2]; exact eq
  · rw [q1.2.2.2 i hi, q2.2.2.2 i hi]
end Fi
