/-! What bears a name. -/
/-- a word has a name's number if it is that name -/
theorem nmW_eq {u : Nat → Nat} (hu : ∀ i, u i < 256) {a n : Nat} {y : List Int32} {c : Int64} (hy : nmL y c) : nmW u a n = c ↔ wU u a n = y := by
  obtain ⟨rfl, h1, h2, h3⟩ := hy
  have hyn : ∀ d ∈ y, nmC d := fun d hd => (h3 d hd).1
  unfold nmW
  by_cases c2 : n ≤ 12 ∧ ∀ k, k < n → alC (u (a + k))
  · rw [if_pos c2]
    constructor
    · intro h
      refine cdL_inj (fun d hd => ?_) hyn (by rw [wU_len]; exact c2.1) h2 h
      obtain ⟨k, hk, e⟩ := wU_mem hd
      rw [e]; exact (alC_nm (c2.2 k hk)).1
    · intro h; rw [h]
  · rw [if_neg c2]
    constructor
    · intro h; exact absurd h.symm (cdL_n0 hyn h1 h2)
    · intro h
      exfalso
      have hl : n = y.length := by rw [← h, wU_len]
      refine c2 ⟨by omega, fun k hk => ?_⟩
      have := mem_wU (u := u) (a := a) hk
      rw [h] at this
      exact nm_alC (hu _) (h3 _ this).1 (h3 _ this).2
theorem nmL_n0 {y : List Int32} {c : Int64} (h : nmL y c) : c ≠ 0 := by
  obtain ⟨rfl, h1, h2, h3⟩ := h
  exact cdL_n0 (fun d hd => (h3 d hd).1) h1 h2
/-- the first of k from j on that has the number c -/
def nmF (J : Nat → Int64) (c : Int64) : Nat → Nat → Option Nat
  | 0, _ => none
  | k + 1, j => if J j = c then some j else nmF J c k (j + 1)
section Ln
variable {t : moS}
theorem m_linkNamed (hM : MV t) (c : Int64) : M_linkNamed t c = some (oI (nmF (t.J 18) c (cL t) 0)) := by
  have h10 := hM.nL
  have e17 : t.S 17 = nI (cL t) := hM.1.2.2.2.2.2.1.n.1
  unfold M_linkNamed M_linkNamed_b2
  have loop : ∀ q j, j + q = cL t → lp (fun y : Int32 => M_linkNamed_s2 t c y) (nI j) = some (oI (nmF (t.J 18) c q j)) := by
    intro q
    induction q with
    | zero =>
      intro j hj
      refine lp_x ?_
      show M_linkNamed_s2 t c (nI j) = _
      unfold M_linkNamed_s2
      rw [e17, if_neg (nI_nlt (by omega) (by omega))]
      rfl
    | succ q ih =>
      intro j hj
      obtain ⟨nm, hnm⟩ := (hM.2.1 j (by omega)).2.2.2.2.2.2.2
      have hn0 := nmL_n0 hnm
      have next : ¬ t.J 18 j = c → M_linkNamed_s2 t c (nI j) = some (.inl (nI (j + 1))) := by
        intro hne
        unfold M_linkNamed_s2 M_linkNamed_b29
        rw [e17, if_pos (nI_lt (by omega) (by omega)), nI_1]
        by_cases c0 : c = 0
        · rw [if_pos c0]
        · rw [if_neg c0, rdJ_n (n := 10) (hM.n.n 18 10) (by omega) (by decide)]
          show (if t.J 18 j = c then _ else _) = _
          rw [if_neg hne]
      show lp (fun y : Int32 => M_linkNamed_s2 t c y) (nI j) = some (oI (if t.J 18 j = c then some j else nmF (t.J 18) c q (j + 1)))
      by_cases ce : t.J 18 j = c
      · rw [if_pos ce]
        refine lp_x ?_
        show M_linkNamed_s2 t c (nI j) = _
        unfold M_linkNamed_s2
        rw [e17, if_pos (nI_lt (by omega) (by omega)), if_neg (by rw [← ce]; exact hn0), rdJ_n (n := 10) (hM.n.n 18 10) (by omega) (by decide)]
        show (if t.J 18 j = c then _ else _) = _
        rw [if_pos ce]
        rfl
      · rw [if_neg ce, lp_l (show (fun y : Int32 => M_linkNamed_s2 t c y) (nI j) = _ from next ce)]
        exact ih (j + 1) (by omega)
  exact loop (cL t) 0 (by omega)
end Ln
