/-! Names and prefixes among the words, in the model. -/
/-- a name's number, or 0 -/
noncomputable def nmW (u : Nat → Nat) (a n : Nat) : Int64 := @ite _ (n ≤ 12 ∧ ∀ k, k < n → alC (u (a + k))) (Classical.propDecidable _) (cdL (wU u a n)) 0
theorem nm_of_cd {u : Nat → Nat} (hu : ∀ i, u i < 256) {a n : Nat} : (if cdW u a n = 37 then (0 : Int64) else cdW u a n) = nmW u a n := by
  have e37 : (37 : Int64) = cdL [42] := by decide
  have hiff := cdW_eq hu (a := a) (n := n) (y := [42]) (Or.inl rfl) (by decide) (by decide)
  rw [← e37] at hiff
  by_cases c : cdW u a n = 37
  · rw [if_pos c]
    have hw := hiff.mp c
    unfold nmW
    rw [if_neg]
    intro z
    have hl : n = 1 := by rw [← wU_len u a n, hw]; rfl
    have h0 := z.2 0 (by omega)
    have hm := mem_wU (u := u) (a := a) (n := n) (k := 0) (by omega)
    rw [hw] at hm
    exact (alC_nm h0).2 (List.mem_singleton.mp hm)
  · rw [if_neg c]
    unfold cdW nmW
    unfold cdW at c
    by_cases c1 : n = 1 ∧ u a = 42
    · rw [if_pos c1] at c
      exact absurd rfl c
    · rw [if_neg c1]
section Mz
variable {t : moS} {u : Nat → Nat} {n : Nat}
theorem m_name (hu : uT t u n) (h9 : t.N 9 = 2100) (h10 : t.N 10 = 2100) {ws : List (Nat × Nat)} (hw : mWw t ws) {i a b : Nat} (hi : i < ws.length) (hi2 : i < 2100) (hab : ws.getD i (0, 0) = (a, b)) (h1 : a < b) (h2 : b ≤ n) : M_name t (nI i) = some (nmW u a (b - a)) := by
  unfold M_name
  rw [m_code hu h9 h10 hw hi hi2 hab h1 h2]
  rw [← nm_of_cd hu.2.1]
  show (if cdW u a (b - a) = 37 then some 0 else some (cdW u a (b - a))) = _
  split <;> rfl
/-- a word that is a prefix, with no bits behind its length -/
theorem m_pword (hu : uT t u n) (h16 : t.N 16 = 8) (h9 : t.N 9 = 2100) (h10 : t.N 10 = 2100) {ws : List (Nat × Nat)} (hw : mWw t ws) {i a b : Nat} (hi : i < ws.length) (hi2 : i < 2100) (hab : ws.getD i (0, 0) = (a, b)) (h1 : a < b) (h2 : b ≤ n) : ∃ r t', M_isPrefixWord t (nI i) = some (r, t') ∧ mfr [12, 13, 14, 15, 16] t t' ∧ ((r = 0 ∧ ∀ a1 a2 a3 m, pxP u a b = some (a1, a2, a3, m) → ¬ mpre a2 a3 (nI m)) ∨ (r = 1 ∧ ∃ a1 a2 a3 m, pxP u a b = some (a1, a2, a3, m) ∧ mpre a2 a3 (nI m) ∧ bit (t'.S 12) ∧ a1 = fam (t'.S 12) ∧ t'.Z 13 = a2 ∧ t'.Z 14 = a3 ∧ t'.S 15 = nI m)) := by
  obtain ⟨r, t1, e1, m1, hr⟩ := m_awl hu h16 h9 h10 hw hi hi2 hab h1 h2
  unfold M_isPrefixWord
  rw [e1]
  show ∃ r' t', (if r = 0 then M_isPrefixWord_b30 t1 else if M_isPrefix (t1.Z 13) (t1.Z 14) (t1.S 15) = 0 then M_isPrefixWord_b30 t1 else some (1, t1)) = some (r', t') ∧ _
  unfold M_isPrefixWord_b30
  cases hp : pxP u a b with
  | none =>
    rw [hp] at hr
    have hr : r = 0 := hr
    rw [if_pos hr]
    exact ⟨0, t1, rfl, m1, Or.inl ⟨rfl, fun _ _ _ _ h => by cases h⟩⟩
  | some p =>
    obtain ⟨a1, a2, a3, m⟩ := p
    rw [hp] at hr
    obtain ⟨k1, k2, k3, k4, k5, k6⟩ := hr
    rw [if_neg (show ¬ r = 0 by rw [k1]; decide)]
    have hpx := M_isPx (t1.Z 13) (t1.Z 14) (t1.S 15)
    rw [k4, k5, k6] at hpx ⊢
    by_cases c : M_isPrefix a2 a3 (nI m) = 0
    · rw [if_pos c]
      exact ⟨0, t1, rfl, m1, Or.inl ⟨rfl, fun _ _ _ _ h => by cases h; exact hpx.mp c⟩⟩
    · rw [if_neg c]
      exact ⟨1, t1, rfl, m1, Or.inr ⟨rfl, a1, a2, a3, m, rfl, Classical.byContradiction fun z => c (hpx.mpr z), k2, k3, k4, k5, k6⟩⟩
end Mz
