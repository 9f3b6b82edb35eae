/-! The number of a word, in the model. -/
def alC (v : Nat) : Prop := 97 ≤ v ∧ v ≤ 122 ∨ 48 ≤ v ∧ v ≤ 57
/-- n bytes from a on -/
def wU (u : Nat → Nat) (a n : Nat) : List Int32 := tl (fun k => nI (u (a + k))) n
/-- their number -/
noncomputable def cdW (u : Nat → Nat) (a n : Nat) : Int64 := @ite _ (n = 1 ∧ u a = 42) (Classical.propDecidable _) 37 (@ite _ (n ≤ 12 ∧ ∀ k, k < n → alC (u (a + k))) (Classical.propDecidable _) (cdL (wU u a n)) 0)
theorem cdN_sn (x : List Int32) (c : Int32) : cdN (x ++ [c]) = 40 * cdN x + dgN c := by
  unfold cdN
  rw [List.reverse_append]
  rfl
theorem wU_sn (u : Nat → Nat) (a n : Nat) : wU u a (n + 1) = wU u a n ++ [nI (u (a + n))] := by
  unfold wU tl
  rw [List.range_succ, List.map_append]
  rfl
theorem dgN_al : ∀ j, j < 123 → (97 ≤ j ∧ j ≤ 122 → dgN (nI j) = j - 96) ∧ (48 ≤ j ∧ j ≤ 57 → dgN (nI j) = j - 21) := by decide +kernel
section Cd
variable {t : moS} {u : Nat → Nat} {n : Nat}
theorem m_code (hu : uT t u n) (h9 : t.N 9 = 2100) (h10 : t.N 10 = 2100) {ws : List (Nat × Nat)} (hw : mWw t ws) {i a b : Nat} (hi : i < ws.length) (hi2 : i < 2100) (hab : ws.getD i (0, 0) = (a, b)) (h1 : a < b) (h2 : b ≤ n) : M_code t (nI i) = some (cdW u a (b - a)) := by
  have hn := hu.1
  have hu1 := hu.2.1
  obtain ⟨e9, e10⟩ := hw.2 i hi
  rw [hab] at e9 e10
  have e9 : t.I 9 i = nI a := e9
  have e10 : t.I 10 i = nI (b - a) := e10
  have r9 : rdI t 9 (nI i) = some (nI a) := by rw [rdI_n (n := 2100) h9 hi2 (by decide), e9]
  have r10 : rdI t 10 (nI i) = some (nI (b - a)) := by rw [rdI_n (n := 2100) h10 hi2 (by decide), e10]
  have hm : 1 ≤ b - a := by omega
  have hmn : a + (b - a) ≤ n := by omega
  generalize b - a = m at hm hmn e10 r10
  have b32 : ¬ (m = 1 ∧ u a = 42) → M_code_b32 t (nI i) (nI m) = some (cdW u a m) := by
    intro hst
    unfold M_code_b32 cdW
    rw [if_neg hst]
    by_cases c12 : 12 < m
    · rw [if_pos (show 12 < nI m from nI_lt (a := 12) c12 (by omega)), if_neg (fun h => by omega)]
    rw [if_neg (show ¬ 12 < nI m from nI_nlt (a := 12) (by omega) (by omega))]
    unfold M_code_b45
    generalize hX : (@ite _ (m ≤ 12 ∧ ∀ k, k < m → alC (u (a + k))) (Classical.propDecidable _) (cdL (wU u a m)) 0) = X
    have loop : ∀ q k, k + q = m → (∀ j, j < k → alC (u (a + j))) → lp (fun y : Int64 × Int32 => M_code_s45 t (nI i) (nI m) y.1 y.2) (Int64.ofNat (cdN (wU u a k)), nI k) = some X := by
      intro q
      induction q with
      | zero =>
        intro k hk hal
        have hk : k = m := by omega
        subst hk
        refine lp_x ?_
        show M_code_s45 t (nI i) (nI k) _ (nI k) = _
        unfold M_code_s45
        rw [if_neg (nI_nlt (Nat.le_refl _) (by omega))]
        rw [if_pos ⟨by omega, hal⟩] at hX
        rw [← hX]
        rfl
      | succ q ih =>
        intro k hk hal
        have hv := hu1 (a + k)
        have bad : ¬ alC (u (a + k)) → X = 0 := fun h => by
          rw [if_neg (fun z => h (z.2 k (by omega)))] at hX
          exact hX.symm
        have head : ∀ Y, (if nI (u (a + k)) < 97 then M_code_b85 t (nI i) (nI m) (Int64.ofNat (cdN (wU u a k))) (nI k) (nI (u (a + k))) else if 122 < nI (u (a + k)) then M_code_b85 t (nI i) (nI m) (Int64.ofNat (cdN (wU u a k))) (nI k) (nI (u (a + k))) else M_code_b86 t (nI i) (nI m) (Int64.ofNat (cdN (wU u a k))) (nI k) (nI (u (a + k))) 1) = Y → M_code_s45 t (nI i) (nI m) (Int64.ofNat (cdN (wU u a k))) (nI k) = Y := by
          intro Y h
          unfold M_code_s45
          rw [if_pos (nI_lt (by omega) (by omega)), r9]
          show Option.bind (rdI t 2 (nI a + nI k)) _ = _
          rw [nI_add, hu.2.2 (a + k) (by omega)]
          exact h
        have sum : ∀ d, d < 100 → (40 : Int64) * Int64.ofNat (cdN (wU u a k)) + (nI d).toInt64 = Int64.ofNat (40 * cdN (wU u a k) + d) := fun d hd => by
          rw [L_ofNat (by omega), Int64.ofNat_add, Int64.ofNat_mul]
          rfl
        have go : ∀ d, dgN (nI (u (a + k))) = d → alC (u (a + k)) → M_code_s45 t (nI i) (nI m) (Int64.ofNat (cdN (wU u a k))) (nI k) = some (.inl (Int64.ofNat (40 * cdN (wU u a k) + d), nI (k + 1))) → lp (fun y : Int64 × Int32 => M_code_s45 t (nI i) (nI m) y.1 y.2) (Int64.ofNat (cdN (wU u a k)), nI k) = some X := by
          intro d hd hac st
          rw [lp_l (show (fun y : Int64 × Int32 => M_code_s45 t (nI i) (nI m) y.1 y.2) (Int64.ofNat (cdN (wU u a k)), nI k) = _ from st)]
          have := ih (k + 1) (by omega) (fun j hj => by
            by_cases ej : j = k
            · rw [ej]; exact hac
            · exact hal j (by omega))
          rw [wU_sn, cdN_sn, hd] at this
          exact this
        by_cases cs : 97 ≤ u (a + k) ∧ u (a + k) ≤ 122
        · refine go (u (a + k) - 96) ((dgN_al _ (by omega)).1 cs) (Or.inl cs) (head _ ?_)
          rw [if_neg (show ¬ nI (u (a + k)) < 97 from nI_nlt (b := 97) (by omega) (by omega)), if_neg (show ¬ 122 < nI (u (a + k)) from nI_nlt (a := 122) (by omega) (by omega))]
          unfold M_code_b86 M_code_b103 M_code_b131
          rw [if_neg (by decide), if_neg (by decide), nI_1, show nI (u (a + k)) - 97 = nI (u (a + k) - 97) from pk_sub (b := 97) (by omega), nI_1, show u (a + k) - 97 + 1 = u (a + k) - 96 by omega, sum _ (by omega)]
        · have hb85 : (if nI (u (a + k)) < 97 then M_code_b85 t (nI i) (nI m) (Int64.ofNat (cdN (wU u a k))) (nI k) (nI (u (a + k))) else if 122 < nI (u (a + k)) then M_code_b85 t (nI i) (nI m) (Int64.ofNat (cdN (wU u a k))) (nI k) (nI (u (a + k))) else M_code_b86 t (nI i) (nI m) (Int64.ofNat (cdN (wU u a k))) (nI k) (nI (u (a + k))) 1) = M_code_b85 t (nI i) (nI m) (Int64.ofNat (cdN (wU u a k))) (nI k) (nI (u (a + k))) := by
            by_cases c1 : u (a + k) < 97
            · rw [if_pos (show nI (u (a + k)) < 97 from nI_lt (b := 97) c1 (by omega))]
            · rw [if_neg (show ¬ nI (u (a + k)) < 97 from nI_nlt (b := 97) (by omega) (by omega)), if_pos (show 122 < nI (u (a + k)) from nI_lt (a := 122) (by omega) (by omega))]
          rcases m_dig hv with ⟨d1, d2, d3⟩ | ⟨d1, d3⟩
          · refine go (u (a + k) - 21) ((dgN_al _ (by omega)).2 ⟨d1, d2⟩) (Or.inr ⟨d1, d2⟩) (head _ (hb85.trans ?_))
            unfold M_code_b85 M_code_b86
            rw [if_pos rfl, if_neg (by rw [d3]; decide)]
            unfold M_code_b103 M_code_b131
            rw [if_pos rfl, nI_1, show nI (u (a + k)) - 48 = nI (u (a + k) - 48) from pk_sub (b := 48) d1, show nI (u (a + k) - 48) + 27 = nI (u (a + k) - 48 + 27) from nI_add _ 27, show u (a + k) - 48 + 27 = u (a + k) - 21 by omega, sum _ (by omega)]
          · rw [bad (fun h => h.elim cs d1)]
            refine lp_x (head _ (hb85.trans ?_))
            unfold M_code_b85 M_code_b86
            rw [if_pos rfl, if_pos d3]
    exact loop m 0 (by omega) (fun j hj => absurd hj (Nat.not_lt_zero _))
  unfold M_code
  rw [r10]
  show (if nI m = 1 then _ else _) = _
  by_cases c1 : m = 1
  · rw [if_pos (show nI m = 1 by rw [c1]; rfl), r9]
    show Option.bind (rdI t 2 (nI a)) _ = _
    rw [hu.2.2 a (by omega)]
    have hv := hu1 a
    show (if nI (u a) = 42 then some 37 else M_code_b32 t (nI i) (nI m)) = _
    by_cases c2 : u a = 42
    · rw [if_pos (show nI (u a) = 42 by rw [c2]; rfl)]
      unfold cdW
      rw [if_pos ⟨c1, c2⟩]
    · rw [if_neg (show ¬ nI (u a) = 42 from fun h => c2 ((nI_eq (b := 42) (by omega) (by omega)).mp h))]
      exact b32 (fun h => c2 h.2)
  · rw [if_neg (show ¬ nI m = 1 from fun h => c1 ((nI_eq (b := 1) (by omega) (by omega)).mp h))]
    exact b32 (fun h => c1 h.1)
end Cd
