/-! Addresses of six, put together by the model. -/
theorem nd_l {l m : List Nat} {i : Nat} (h : i < l.length) : (l ++ m).getD i 0 = l.getD i 0 := by
  rw [List.getD_eq_getElem?_getD, List.getD_eq_getElem?_getD, List.getElem?_append_left h]
theorem nd_r {l m : List Nat} {i : Nat} (h : l.length ≤ i) : (l ++ m).getD i 0 = m.getD (i - l.length) 0 := by
  rw [List.getD_eq_getElem?_getD, List.getD_eq_getElem?_getD, List.getElem?_append_right h]
theorem nd_tk1 {es : List Nat} {j : Nat} (h : j < es.length) : es.take (j + 1) = es.take j ++ [es.getD j 0] := by
  rw [List.take_succ, List.getElem?_eq_getElem h, List.getD_eq_getElem?_getD, List.getElem?_eq_getElem h]
  rfl
theorem exp8_len {gs es : List Nat} {gap : Option Nat} (h : exp8 gs gap = some es) (hgap : ∀ g, gap = some g → g ≤ gs.length) : es.length = 8 := by
  cases gap with
  | none =>
    have h : (if gs.length = 8 then some gs else none) = some es := h
    split at h
    · cases h; assumption
    · cases h
  | some g =>
    have hg := hgap g rfl
    have h : (if gs.length < 8 then some (gs.take g ++ List.replicate (8 - gs.length) 0 ++ gs.drop g) else none) = some es := h
    split at h
    · cases h
      rw [List.length_append, List.length_append, List.length_take, List.length_replicate, List.length_drop]
      omega
    · cases h
theorem exp8_lt {gs es : List Nat} {gap : Option Nat} (h : exp8 gs gap = some es) (hg : ∀ a, a ∈ gs → a < 65536) : ∀ a, a ∈ es → a < 65536 := by
  cases gap with
  | none =>
    have h : (if gs.length = 8 then some gs else none) = some es := h
    split at h
    · cases h; exact hg
    · cases h
  | some g =>
    have h : (if gs.length < 8 then some (gs.take g ++ List.replicate (8 - gs.length) 0 ++ gs.drop g) else none) = some es := h
    split at h
    · cases h
      intro a ha
      rcases List.mem_append.mp ha with ha | ha
      · rcases List.mem_append.mp ha with ha | ha
        · exact hg a (List.mem_of_mem_take ha)
        · rw [(List.mem_replicate.mp ha).2]; decide
      · exact hg a (List.mem_of_mem_drop ha)
    · cases h
section Mv
variable {t : moS} {gs es : List Nat} {gap : Option Nat}
theorem m_grp (h16 : t.N 16 = 8) (hes : exp8 gs gap = some es) (hgap : ∀ g, gap = some g → g ≤ gs.length) (hI : ∀ j, j < gs.length → t.I 16 j = nI (gs.getD j 0)) (a7 a9 : Int64) {j : Nat} (hj : j < 8) : M_readSix_s296 t (nI gs.length) (gpI gap) a7 a9 (nI j) = M_readSix_b354 t (nI gs.length) (gpI gap) a7 a9 (nI j) (nI (es.getD j 0)) := by
  unfold M_readSix_s296
  rw [if_pos (show nI j < 8 from nI_lt (b := 8) hj (by omega))]
  cases gap with
  | none =>
    have h : (if gs.length = 8 then some gs else none) = some es := hes
    split at h
    · rename_i hl
      cases h
      rw [if_pos (show gpI none = -1 from rfl)]
      unfold M_readSix_b316
      rw [rdI_n (n := 8) h16 hj (by decide), hI j (by omega)]
      rfl
    · cases h
  | some g =>
    have hg := hgap g rfl
    have h : (if gs.length < 8 then some (gs.take g ++ List.replicate (8 - gs.length) 0 ++ gs.drop g) else none) = some es := hes
    split at h
    · rename_i hl
      cases h
      have l1 : (gs.take g).length = g := by rw [List.length_take]; omega
      have l2 : (gs.take g ++ List.replicate (8 - gs.length) 0).length = g + (8 - gs.length) := by rw [List.length_append, l1, List.length_replicate]
      have ne : ¬ gpI (some g) = -1 := fun h => nI_pos (show g < 2 ^ 31 by omega) (by rw [show nI g = -1 from h]; decide)
      rw [if_neg ne]
      by_cases c1 : j < g
      · rw [if_pos (show nI j < gpI (some g) from nI_lt c1 (by omega))]
        unfold M_readSix_b316
        rw [rdI_n (n := 8) h16 hj (by decide), hI j (by omega), nd_l (by rw [l2]; omega), nd_l (by rw [l1]; omega), List.getD_eq_getElem?_getD (l := gs.take g), List.getElem?_take, if_pos c1, ← List.getD_eq_getElem?_getD]
        rfl
      rw [if_neg (show ¬ nI j < gpI (some g) from nI_nlt (by omega) (by omega))]
      have e8 : (8 : Int32) - (nI gs.length - gpI (some g)) = nI (8 - (gs.length - g)) := by
        show nI 8 - (nI gs.length - nI g) = _
        rw [pk_sub hg, pk_sub (by omega)]
      rw [e8]
      by_cases c2 : j < 8 - (gs.length - g)
      · rw [if_pos (nI_lt c2 (by omega)), nd_l (by rw [l2]; omega), nd_r (by rw [l1]; omega), l1]
        have : (List.replicate (8 - gs.length) 0).getD (j - g) 0 = 0 := by
          rw [List.getD_eq_getElem?_getD, List.getElem?_replicate]
          split <;> rfl
        rw [this]
        rfl
      · rw [if_neg (nI_nlt (by omega) (by omega))]
        have e9 : nI j - ((8 : Int32) - nI gs.length) = nI (j - (8 - gs.length)) := by
          show nI j - (nI 8 - nI gs.length) = _
          rw [pk_sub (show gs.length ≤ 8 by omega), pk_sub (by omega)]
        rw [e9, rdI_n (n := 8) h16 (by omega) (by decide), hI _ (by omega), nd_r (by rw [l2]; omega), l2, List.getD_eq_getElem?_getD (l := gs.drop g), List.getElem?_drop, ← List.getD_eq_getElem?_getD, show g + (j - (g + (8 - gs.length))) = j - (8 - gs.length) by omega]
        rfl
    · cases h
theorem m_val (h16 : t.N 16 = 8) (hes : exp8 gs gap = some es) (hg : ∀ a, a ∈ gs → a < 65536) (hgap : ∀ g, gap = some g → g ≤ gs.length) (hI : ∀ j, j < gs.length → t.I 16 j = nI (gs.getD j 0)) : M_readSix_b287 t (nI gs.length) (gpI gap) = some (1, moSZ (moSZ (moSS t 12 1) 13 (Int64.ofNat (nv es / 2 ^ 64))) 14 (Int64.ofNat (nv es % 2 ^ 64))) := by
  have l8 := exp8_len hes hgap
  have lt := exp8_lt hes hg
  have gl : ∀ j, j < 8 → es.getD j 0 < 65536 := fun j hj => by
    rw [List.getD_eq_getElem?_getD, List.getElem?_eq_getElem (by omega)]
    exact lt _ (List.getElem_mem _)
  have b4 : ∀ (ls : List Nat), (∀ a, a ∈ ls → a ∈ es) → ls.length ≤ 4 → nv ls < 2 ^ 64 := fun ls h1 h2 => by
    have a1 := nv_lt ls (fun a ha => lt a (h1 a ha))
    have a2 : 65536 ^ ls.length ≤ 65536 ^ 4 := Nat.pow_le_pow_right (by decide) h2
    exact Nat.lt_of_lt_of_le a1 (Nat.le_trans a2 (by decide))
  have b3 : ∀ (ls : List Nat), (∀ a, a ∈ ls → a ∈ es) → ls.length ≤ 3 → nv ls < 2 ^ 48 := fun ls h1 h2 => by
    have a1 := nv_lt ls (fun a ha => lt a (h1 a ha))
    have a2 : 65536 ^ ls.length ≤ 65536 ^ 3 := Nat.pow_le_pow_right (by decide) h2
    exact Nat.lt_of_lt_of_le a1 (Nat.le_trans a2 (by decide))
  have hV : nv es = 65536 ^ 4 * nv (es.take 4) + nv (es.drop 4) := by
    have := nv_ap (es.drop 4) (es.take 4)
    rw [List.take_append_drop, List.length_drop, l8] at this
    exact this
  have hd4 := b4 (es.drop 4) (fun a ha => List.mem_of_mem_drop ha) (by rw [List.length_drop]; omega)
  have e1 : nv es / 2 ^ 64 = nv (es.take 4) := by omega
  have e2 : nv es % 2 ^ 64 = nv (es.drop 4) := by omega
  rw [e1, e2]
  unfold M_readSix_b287 M_readSix_b296
  have loop : ∀ q j, j + q = 8 → lp (fun y : Int64 × Int64 × Int32 × moS => M_readSix_s296 y.2.2.2 (nI gs.length) (gpI gap) y.1 y.2.1 y.2.2.1) (Int64.ofNat (nv (es.take (min j 4))), Int64.ofNat (nv ((es.take j).drop 4)), nI j, t) = some (1, moSZ (moSZ (moSS t 12 1) 13 (Int64.ofNat (nv (es.take 4)))) 14 (Int64.ofNat (nv (es.drop 4)))) := by
    intro q
    induction q with
    | zero =>
      intro j hj
      have hj : j = 8 := by omega
      subst hj
      refine lp_x ?_
      show M_readSix_s296 t (nI gs.length) (gpI gap) _ _ (nI 8) = _
      unfold M_readSix_s296
      rw [if_neg (by decide), List.take_of_length_le (show es.length ≤ 8 by omega)]
      rfl
    | succ q ih =>
      intro j hj
      have hv := gl j (by omega)
      have ih' := ih (j + 1) (by omega)
      rw [nd_tk1 (show j < es.length by omega)] at ih'
      by_cases c4 : j < 4
      · rw [show min (j + 1) 4 = j + 1 by omega, nd_tk1 (show j < es.length by omega), nv_sn, List.drop_of_length_le (by rw [List.length_append, List.length_take]; show min j es.length + 1 ≤ 4; omega)] at ih'
        rw [show min j 4 = j by omega, List.drop_of_length_le (by rw [List.length_take]; omega)]
        have hB := b3 (es.take j) (fun a ha => List.mem_of_mem_take ha) (by rw [List.length_take]; omega)
        have st : M_readSix_s296 t (nI gs.length) (gpI gap) (Int64.ofNat (nv (es.take j))) (Int64.ofNat (nv [])) (nI j) = some (.inl (Int64.ofNat (65536 * nv (es.take j) + es.getD j 0), Int64.ofNat (nv []), nI (j + 1), t)) := by
          rw [m_grp h16 hes hgap hI _ _ (by omega)]
          unfold M_readSix_b354
          rw [if_pos (show nI j < 4 from nI_lt (b := 4) c4 (by omega))]
          unfold M_readSix_b387
          rw [L_ofNat (by omega), L_sh16 (by omega) hv, nI_1, Nat.mod_eq_of_lt (show 65536 * nv (es.take j) < 2 ^ 64 by omega)]
        rw [lp_l (show (fun y : Int64 × Int64 × Int32 × moS => M_readSix_s296 y.2.2.2 (nI gs.length) (gpI gap) y.1 y.2.1 y.2.2.1) (Int64.ofNat (nv (es.take j)), Int64.ofNat (nv []), nI j, t) = _ from st)]
        exact ih'
      · have l5 : 4 ≤ (es.take j).length := by rw [List.length_take]; omega
        rw [show min (j + 1) 4 = 4 by omega, List.drop_append_of_le_length l5, nv_sn] at ih'
        rw [show min j 4 = 4 by omega]
        have hB := b3 ((es.take j).drop 4) (fun a ha => List.mem_of_mem_take (List.mem_of_mem_drop ha)) (by rw [List.length_drop, List.length_take]; omega)
        have st : M_readSix_s296 t (nI gs.length) (gpI gap) (Int64.ofNat (nv (es.take 4))) (Int64.ofNat (nv ((es.take j).drop 4))) (nI j) = some (.inl (Int64.ofNat (nv (es.take 4)), Int64.ofNat (65536 * nv ((es.take j).drop 4) + es.getD j 0), nI (j + 1), t)) := by
          rw [m_grp h16 hes hgap hI _ _ (by omega)]
          unfold M_readSix_b354
          rw [if_neg (show ¬ nI j < 4 from nI_nlt (b := 4) (by omega) (by omega))]
          unfold M_readSix_b387
          rw [L_ofNat (by omega), L_sh16 (by omega) hv, nI_1, Nat.mod_eq_of_lt (show 65536 * nv ((es.take j).drop 4) < 2 ^ 64 by omega)]
        rw [lp_l (show (fun y : Int64 × Int64 × Int32 × moS => M_readSix_s296 y.2.2.2 (nI gs.length) (gpI gap) y.1 y.2.1 y.2.2.1) (Int64.ofNat (nv (es.take 4)), Int64.ofNat (nv ((es.take j).drop 4)), nI j, t) = _ from st)]
        exact ih'
  exact loop 8 0 rfl
end Mv
