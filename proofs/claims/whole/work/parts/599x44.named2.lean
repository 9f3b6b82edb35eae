/-! Routers and lists by name, in the model. -/
section Lm
variable {t : moS}
theorem m_routerNamed (hM : MV t) (c : Int64) : M_routerNamed t c = some (oI (nmF (t.J 38) c (cR t) 0)) := by
  have h10 := hM.nR
  have e17 : t.S 37 = nI (cR t) := hM.1.2.2.2.2.2.2.2.n.1
  unfold M_routerNamed M_routerNamed_b2
  have loop : ∀ q j, j + q = cR t → lp (fun y : Int32 => M_routerNamed_s2 t c y) (nI j) = some (oI (nmF (t.J 38) c q j)) := by
    intro q
    induction q with
    | zero =>
      intro j hj
      refine lp_x ?_
      show M_routerNamed_s2 t c (nI j) = _
      unfold M_routerNamed_s2
      rw [e17, if_neg (nI_nlt (by omega) (by omega))]
      rfl
    | succ q ih =>
      intro j hj
      obtain ⟨nm, hnm⟩ := (hM.r (show j < cR t by omega)).1
      have hn0 := nmL_n0 hnm
      have next : ¬ t.J 38 j = c → M_routerNamed_s2 t c (nI j) = some (.inl (nI (j + 1))) := by
        intro hne
        unfold M_routerNamed_s2 M_routerNamed_b29
        rw [e17, if_pos (nI_lt (by omega) (by omega)), nI_1]
        by_cases c0 : c = 0
        · rw [if_pos c0]
        · rw [if_neg c0, rdJ_n (n := 6) (hM.n.n 38 6) (by omega) (by decide)]
          show (if t.J 38 j = c then _ else _) = _
          rw [if_neg hne]
      show lp (fun y : Int32 => M_routerNamed_s2 t c y) (nI j) = some (oI (if t.J 38 j = c then some j else nmF (t.J 38) c q (j + 1)))
      by_cases ce : t.J 38 j = c
      · rw [if_pos ce]
        refine lp_x ?_
        show M_routerNamed_s2 t c (nI j) = _
        unfold M_routerNamed_s2
        rw [e17, if_pos (nI_lt (by omega) (by omega)), if_neg (by rw [← ce]; exact hn0), rdJ_n (n := 6) (hM.n.n 38 6) (by omega) (by decide)]
        show (if t.J 38 j = c then _ else _) = _
        rw [if_pos ce]
        rfl
      · rw [if_neg ce, lp_l (show (fun y : Int32 => M_routerNamed_s2 t c y) (nI j) = _ from next ce)]
        exact ih (j + 1) (by omega)
  exact loop (cR t) 0 (by omega)
theorem m_listNamed (hM : MV t) (c : Int64) : M_listNamed t c = some (oI (nmF (t.J 28) c (cS' t) 0)) := by
  have h10 : cS' t ≤ 8 := hM.1.2.2.2.2.2.2.1.n.2.2
  have e17 : t.S 27 = nI (cS' t) := hM.1.2.2.2.2.2.2.1.n.1
  unfold M_listNamed M_listNamed_b2
  have loop : ∀ q j, j + q = cS' t → lp (fun y : Int32 => M_listNamed_s2 t c y) (nI j) = some (oI (nmF (t.J 28) c q j)) := by
    intro q
    induction q with
    | zero =>
      intro j hj
      refine lp_x ?_
      show M_listNamed_s2 t c (nI j) = _
      unfold M_listNamed_s2
      rw [e17, if_neg (nI_nlt (by omega) (by omega))]
      rfl
    | succ q ih =>
      intro j hj
      obtain ⟨nm, hnm⟩ := (hM.2.2.1 j (by omega)).2.1
      have hn0 := nmL_n0 hnm
      have next : ¬ t.J 28 j = c → M_listNamed_s2 t c (nI j) = some (.inl (nI (j + 1))) := by
        intro hne
        unfold M_listNamed_s2 M_listNamed_b29
        rw [e17, if_pos (nI_lt (by omega) (by omega)), nI_1]
        by_cases c0 : c = 0
        · rw [if_pos c0]
        · rw [if_neg c0, rdJ_n (n := 8) (hM.n.n 28 8) (by omega) (by decide)]
          show (if t.J 28 j = c then _ else _) = _
          rw [if_neg hne]
      show lp (fun y : Int32 => M_listNamed_s2 t c y) (nI j) = some (oI (if t.J 28 j = c then some j else nmF (t.J 28) c q (j + 1)))
      by_cases ce : t.J 28 j = c
      · rw [if_pos ce]
        refine lp_x ?_
        show M_listNamed_s2 t c (nI j) = _
        unfold M_listNamed_s2
        rw [e17, if_pos (nI_lt (by omega) (by omega)), if_neg (by rw [← ce]; exact hn0), rdJ_n (n := 8) (hM.n.n 28 8) (by omega) (by decide)]
        show (if t.J 28 j = c then _ else _) = _
        rw [if_pos ce]
        rfl
      · rw [if_neg ce, lp_l (show (fun y : Int32 => M_listNamed_s2 t c y) (nI j) = _ from next ce)]
        exact ih (j + 1) (by omega)
  exact loop (cS' t) 0 (by omega)
end Lm
