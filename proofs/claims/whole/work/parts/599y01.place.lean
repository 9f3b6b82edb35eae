/-! Tables of the class: where a prefix stands, as the rows' keys say. -/
/-- a prefix whose family and length are small -/
def pOk (s : cS) (p : Nat) : Prop := okO s 5 p ∧ ∃ f n, s.I 100 p = nI f ∧ f < 256 ∧ s.I 103 p = nI n ∧ n < 256
/-- a table: w its array of rows, n rows of it, g their addresses, pf their prefixes, in order -/
def TbO (s : cS) (tb w n cap : Nat) (g pf : Nat → Nat) : Prop := okO s 10 tb ∧ s.P 200 tb = some w ∧ s.I 201 tb = nI n ∧ (130 ≤ (s.K w).1 ∧ (s.K w).1 < 146 ∧ (s.K w).2 = cap) ∧ n ≤ cap ∧ cap ≤ 100000 ∧ (∀ j, j < n → s.Q w j = some (g j) ∧ okO s 8 (g j) ∧ s.P 160 (g j) = some (pf j) ∧ pOk s (pf j)) ∧ ∀ i j, i < j → j < n → cPk s (pf i) < cPk s (pf j)
theorem pk_ord {s : cS} {p p' : Nat} (h : pOk s p) (h' : pOk s p') : (pord (s.I 100 p) (s.J 101 p) (s.J 102 p) (s.I 103 p) (s.I 100 p') (s.J 101 p') (s.J 102 p') (s.I 103 p') < 0 ↔ cPk s p < cPk s p') ∧ (pord (s.I 100 p) (s.J 101 p) (s.J 102 p) (s.I 103 p) (s.I 100 p') (s.J 101 p') (s.J 102 p') (s.I 103 p') = 0 ↔ cPk s p = cPk s p') := by
  obtain ⟨-, f, n, e1, h1, e2, h2⟩ := h
  obtain ⟨-, f', n', e1', h1', e2', h2'⟩ := h'
  unfold cPk
  rw [e1, e2, e1', e2', nI_clamp (by omega), nI_clamp (by omega), nI_clamp (by omega), nI_clamp (by omega)]
  exact pord_key h1 h2 h1' h2'
section Pl
variable {sa : Nat → Nat} {s : cS} {kc ks tb w n cap p : Nat} {g pf : Nat → Nat}
theorem TbO.q (h : TbO s tb w n cap g pf) {i : Nat} (hi : i < cap) : okQ s w (nI i) := ⟨h.2.2.2.1.1, h.2.2.2.1.2.1, by rw [h.2.2.2.1.2.2]; exact vp_in_nI hi (by have := h.2.2.2.2.2.1; omega)⟩
theorem w_place {Q : Int32 → cS → Nat → Nat → Prop} (ht : TbO s tb w n cap g pf) (hp : pOk s p) (k : ∀ j, j ≤ n → (∀ i, i < j → cPk s (pf i) < cPk s p) → (∀ i, j ≤ i → i < n → cPk s p ≤ cPk s (pf i)) → Q (nI j) s kc ks) : C_Ta_placeOf sa tb (some p) s kc ks Q := by
  obtain ⟨hO, hw, hn, hA, hcap, hcap2, hrow, hs⟩ := id ht
  unfold C_Ta_placeOf
  refine ⟨_, gd_to hO, ?_⟩
  rw [show s.I (20 * 10 + 1) tb = nI n from hn]
  unfold C_Ta_placeOf_b10
  intro P hP
  have key : ∀ r fr to, r ≤ 32 → fr ≤ to → to ≤ n → to - fr < 2 ^ r → (∀ i, i < fr → cPk s (pf i) < cPk s p) → (∀ i, to ≤ i → i < n → cPk s p ≤ cPk s (pf i)) → P (nI fr) (nI to) (nI (32 - r)) s kc ks := by
    intro r
    induction r with
    | zero =>
      intro fr to _ h1 h2 h3 h4 h5
      have e : fr = to := by omega
      subst e
      apply hP
      unfold C_Ta_placeOf_s10
      exact ifF (nI_nlt (a := 32 - 0) (b := 32) (by omega) (by omega)) (k fr h2 h4 h5)
    | succ r ih =>
      intro fr to hr h1 h2 h3 h4 h5
      apply hP
      unfold C_Ta_placeOf_s10
      refine ifT (nI_lt (b := 32) (by omega) (by omega)) ?_
      by_cases c : fr < to
      · refine ifT (nI_lt c (by omega)) ⟨_, gd_to hO, w, hw, ?_⟩
        generalize hm : fr + (to - fr) / 2 = mid
        have hmid : fr ≤ mid ∧ mid < to := by omega
        have em : nI fr + (nI to - nI fr) / 2 = nI mid := by
          rw [pk_sub (by omega), show nI (to - fr) / 2 = nI ((to - fr) / 2) from pk_div (d := 2) (by omega) (by omega) (by omega), nI_add, hm]
        rw [em]
        refine ⟨_, gd_to (ht.q (by omega)), ?_⟩
        rw [nI_clamp (by omega)]
        obtain ⟨r1, r2, r3, r4⟩ := hrow mid (by omega)
        refine ⟨_, r1, _, gd_to r2, _, r3, r4.1, w_order r4.1 hp.1 ?_⟩
        have ho := (pk_ord r4 hp).1
        have e32 : nI (32 - (r + 1)) + 1 = nI (32 - r) := (nI_add _ 1).trans (congrArg nI (by omega))
        by_cases c2 : cPk s (pf mid) < cPk s p
        · refine ifT (ho.mpr c2) ?_
          unfold C_Ta_placeOf_b59
          rw [e32, show nI mid + 1 = nI (mid + 1) from nI_add mid 1]
          refine ih (mid + 1) to (by omega) (by omega) (by omega) (by rw [Nat.pow_succ] at h3; omega) (fun i hi => ?_) h5
          rcases Nat.lt_or_ge i mid with q | q
          · exact Nat.lt_trans (hs i mid q (by omega)) c2
          · have : i = mid := by omega
            exact this ▸ c2
        · refine ifF (fun z => c2 (ho.mp z)) ?_
          unfold C_Ta_placeOf_b59
          rw [e32]
          refine ih fr mid (by omega) (by omega) (by omega) (by rw [Nat.pow_succ] at h3; omega) h4 (fun i hi1 hi2 => ?_)
          rcases Nat.lt_or_ge mid i with q | q
          · exact Nat.le_trans (Nat.le_of_not_lt c2) (Nat.le_of_lt (hs mid i q hi2))
          · have : i = mid := by omega
            exact this ▸ Nat.le_of_not_lt c2
      · have e : fr = to := by omega
        subst e
        exact ifF (nI_nlt (by omega) (by omega)) (k fr h2 h4 h5)
  exact key 32 0 n (by omega) (by omega) (by omega) (by omega) (fun i hi => absurd hi (Nat.not_lt_zero _)) (fun i h1 h2 => absurd h2 (by omega))
theorem w_find {Q : Option Nat → cS → Nat → Nat → Prop} (ht : TbO s tb w n cap g pf) (hp : pOk s p) (k0 : (∀ i, i < n → cPk s (pf i) ≠ cPk s p) → Q none s kc ks) (k1 : ∀ i, i < n → cPk s (pf i) = cPk s p → Q (some (g i)) s kc ks) : C_Ta_find sa tb (some p) s kc ks Q := by
  obtain ⟨hO, hw, hn, hA, hcap, hcap2, hrow, hs⟩ := id ht
  unfold C_Ta_find
  refine ⟨hO, w_place ht hp fun j hj j1 j2 => ⟨_, gd_to hO, ?_⟩⟩
  rw [show s.I (20 * 10 + 1) tb = nI n from hn]
  by_cases c : j < n
  · refine ifT (nI_lt c (by omega)) ⟨_, gd_to hO, w, hw, _, gd_to (ht.q (by omega)), ?_⟩
    rw [nI_clamp (by omega)]
    obtain ⟨r1, r2, r3, r4⟩ := hrow j c
    refine ⟨_, r1, _, gd_to r2, _, r3, r4.1, w_order r4.1 hp.1 ?_⟩
    have ho := (pk_ord r4 hp).2
    by_cases c2 : cPk s (pf j) = cPk s p
    · refine ifT (ho.mpr c2) ⟨_, gd_to hO, w, hw, _, gd_to (ht.q (by omega)), ?_⟩
      rw [nI_clamp (by omega), r1]
      exact k1 j c c2
    · refine ifF (fun z => c2 (ho.mp z)) (k0 fun i hi => ?_)
      rcases Nat.lt_trichotomy i j with q | q | q
      · have := j1 i q; omega
      · rw [q]; exact c2
      · have q1 := j2 j (Nat.le_refl _) c
        have q2 := hs j i q hi
        omega
  · refine ifF (nI_nlt (by omega) (by omega)) (k0 fun i hi => ?_)
    have := j1 i (by omega)
    omega
end Pl
