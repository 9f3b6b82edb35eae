/-! Whether the keys of a datagram are right: the model, a chain. -/
section Mc
variable {t u : moS} {L : List Int32} {V : chV} {q i : Nat} {h : Int64} {v : kV}
abbrev Wky : List Nat := [157, 158, 159, 160, 162, 163]
/-- behind the sum -/
theorem m_kEnd {z : Nat} (hI : IN u L) (hB : ∀ j, L.getD j 0 = nI (vc L j)) (hl : L.length ≤ 600) (hN : mN u) (hq : q < 24) (hi : i < 4) (hvv : kOkV v) (e84 : u.I 84 (4 * q + i) = v.2.1) (e85 : u.I 85 (4 * q + i) = nI v.2.2.1.length) (e86 : ∀ j, j < v.2.2.1.length → u.I 86 (16 * (4 * q + i) + j) = v.2.2.1.getD j 0) (hz : z + enN v.2.1 = L.length) (h24 : 24 ≤ z) : ((∀ j, j < szN v.2.1 → nI (vc L (z + 4 + j)) = sumP v.2.1 (L.take (z + 4)) (fun i => v.2.2.1.getD i 0) j) → ∃ u', mfr Wky u u' ∧ u'.S 162 = u.S 162 ∧ u'.S 163 = nI ((z - 24) / 20) ∧ ∀ w t7, M_isNotOlder u' (nI q) h (Int64.ofNat (N4 (vc L 12) (vc L 13) (vc L 14) (vc L 15))) = some (w, t7) → (w = 0 ∨ w = 1) → M_keysAreGood_b381 u (nI q) h (nI (4 * q + i)) (nI z) (nI (szN v.2.1)) = some (w, t7)) ∧ ((¬ ∀ j, j < szN v.2.1 → nI (vc L (z + 4 + j)) = sumP v.2.1 (L.take (z + 4)) (fun i => v.2.2.1.getD i 0) j) → ∃ u', mfr Wky u u' ∧ M_keysAreGood_b381 u (nI q) h (nI (4 * q + i)) (nI z) (nI (szN v.2.1)) = some (0, u')) := by
  obtain ⟨y1, y2⟩ := enN_b v.2.1
  have hT : (L.take (z + 4)).length = z + 4 := by rw [List.length_take]; omega
  obtain ⟨u1, em, m1, s1⟩ := m_sumOf (t := u) (x := 4 * q + i) (z := v.2.2.1.length) (p2 := 149) (L := L.take (z + 4)) hN (by omega) (by rw [e84]; exact hvv.2.1) e85 hvv.2.2.1.2.1 (by decide) (hN.n 149 700) (fun j hj => by
    rw [hT] at hj
    rw [hI.2 j (by omega), List.getD_eq_getElem?_getD, List.getD_eq_getElem?_getD, List.getElem?_take_of_lt hj]) (by rw [hT]; omega)
  rw [hT] at em
  rw [e84, kySe_y e86] at s1
  have hs : (if v.2.1 = 0 then 16 else 20) = szN v.2.1 := rfl
  rw [hs] at s1
  have hN1 : mN u1 := hN.fr m1 rfl
  have hI1 : IN u1 L := hI.fr m1 rfl
  have eM : M_keysAreGood_b381 u (nI q) h (nI (4 * q + i)) (nI z) (nI (szN v.2.1)) = M_keysAreGood_b398 u1 (nI q) h (nI z) (nI (szN v.2.1)) (nI 0) := by
    unfold M_keysAreGood_b381
    rw [show nI z + 4 = nI (z + 4) from nI_add z 4, em]
    rfl
  have rd1 : ∀ j, j < 700 → rdI u1 149 (nI j) = some (nI (vc L j)) := fun j hj => hI1.rd (hN1.n 149 700) hB hj
  have sz20 := (sz_n v.2.1).2.1
  have loop : ∀ m j, j + m = szN v.2.1 → ((∀ i, j ≤ i → i < szN v.2.1 → nI (vc L (z + 4 + i)) = u1.I 160 i) → M_keysAreGood_b398 u1 (nI q) h (nI z) (nI (szN v.2.1)) (nI j) = M_keysAreGood_b398 u1 (nI q) h (nI z) (nI (szN v.2.1)) (nI (szN v.2.1))) ∧ ((¬ ∀ i, j ≤ i → i < szN v.2.1 → nI (vc L (z + 4 + i)) = u1.I 160 i) → M_keysAreGood_b398 u1 (nI q) h (nI z) (nI (szN v.2.1)) (nI j) = some (0, u1)) := by
    intro m
    induction m with
    | zero =>
      intro j hj
      have hj : j = szN v.2.1 := by omega
      subst hj
      exact ⟨fun _ => rfl, fun z => absurd (fun i h1 h2 => absurd h2 (by omega)) z⟩
    | succ m ih =>
      intro j hj
      have e1 : M_keysAreGood_s398 u1 (nI q) h (nI z) (nI (szN v.2.1)) (nI j) = if nI (vc L (z + 4 + j)) = u1.I 160 j then some (.inl (nI (j + 1), u1)) else xo (some (0, u1)) := by
        unfold M_keysAreGood_s398
        rw [if_pos (nI_lt (by omega) (by omega)), show nI z + 4 = nI (z + 4) from nI_add z 4, nI_add, rd1 (z + 4 + j) (by omega), rdI_n (hN1.n 160 20) (by omega) (by decide), nI_1]
        simp only [Option.bind_some]
      by_cases c : nI (vc L (z + 4 + j)) = u1.I 160 j
      · rw [if_pos c] at e1
        have e2 : M_keysAreGood_b398 u1 (nI q) h (nI z) (nI (szN v.2.1)) (nI j) = M_keysAreGood_b398 u1 (nI q) h (nI z) (nI (szN v.2.1)) (nI (j + 1)) := by
          conv => lhs; unfold M_keysAreGood_b398
          rw [lp_l (f := fun x : Int32 × moS => M_keysAreGood_s398 x.2 (nI q) h (nI z) (nI (szN v.2.1)) x.1) (x := (nI j, u1)) e1]
          rfl
        rw [e2]
        obtain ⟨i1, i2⟩ := ih (j + 1) (by omega)
        refine ⟨fun y => i1 fun i h1 h2 => y i (by omega) h2, fun y => i2 fun y' => y fun i h1 h2 => ?_⟩
        by_cases w : i = j
        · rw [w]; exact c
        · exact y' i (by omega) h2
      · rw [if_neg c] at e1
        refine ⟨fun y => absurd (y j (Nat.le_refl _) (by omega)) c, fun _ => ?_⟩
        unfold M_keysAreGood_b398
        exact lp_x (f := fun x : Int32 × moS => M_keysAreGood_s398 x.2 (nI q) h (nI z) (nI (szN v.2.1)) x.1) (x := (nI j, u1)) e1
  obtain ⟨l1, l2⟩ := loop (szN v.2.1) 0 (by omega)
  have eqv : (∀ i, 0 ≤ i → i < szN v.2.1 → nI (vc L (z + 4 + i)) = u1.I 160 i) ↔ ∀ j, j < szN v.2.1 → nI (vc L (z + 4 + j)) = sumP v.2.1 (L.take (z + 4)) (fun i => v.2.2.1.getD i 0) j := ⟨fun y j hj => by rw [← s1 j hj]; exact y j (Nat.zero_le _) hj, fun y j _ hj => by rw [s1 j hj]; exact y j hj⟩
  rw [eM]
  constructor
  · intro ok
    have m2 : mfr [163] u1 (moSS u1 163 (nI ((z - 24) / 20))) := mfr.ss (by decide)
    refine ⟨moSS u1 163 (nI ((z - 24) / 20)), (m1.wk (by decide)).tr (mfr.ss (by decide)), ?_, moSS_s, fun w t7 e hw => ?_⟩
    · rw [moSS_n (by decide), m1.S 162 (by decide)]
    · rw [l1 (eqv.mpr ok)]
      unfold M_keysAreGood_b398
      refine lp_x ?_
      show M_keysAreGood_s398 u1 (nI q) h (nI z) (nI (szN v.2.1)) (nI (szN v.2.1)) = _
      have hI2 : IN (moSS u1 163 (nI ((z - 24) / 20))) L := hI1.fr m2 rfl
      have g : ∀ j, j < 700 → (moSS u1 163 (nI ((z - 24) / 20))).I 149 j = nI (vc L j) := fun j hj => by rw [hI2.2 j hj, hB]
      have n4 : M_number4 (moSS u1 163 (nI ((z - 24) / 20))) 149 (nI 12) = some (Int64.ofNat (N4 (vc L 12) (vc L 13) (vc L 14) (vc L 15))) := m_num4 (N := 700) (hN1.n 149 700) (by decide) (by decide) (g 12 (by decide)) (g 13 (by decide)) (g 14 (by decide)) (g 15 (by decide)) (vc_b _ _) (vc_b _ _) (vc_b _ _) (vc_b _ _)
      have ed : (nI z - 24) / 20 = nI ((z - 24) / 20) := by
        rw [show nI z - 24 = nI (z - 24) from pk_sub (b := 24) h24]
        exact pk_div (d := 20) (by omega) (by omega) (by omega)
      unfold M_keysAreGood_s398 letS
      rw [if_neg (nI_nlt (Nat.le_refl _) (by omega)), ed, show (12 : Int32) = nI 12 from rfl]
      dsimp only
      rw [n4]
      simp only [Option.bind_some]
      rw [e, bn2_s, okZ_b hw]
  · intro no
    exact ⟨u1, m1.wk (by decide), l2 (fun y => no (eqv.mp y))⟩
end Mc
