/-! Texts of the model: routes, times, interfaces. -/
section We
variable {α β : Type}
theorem wre {o : Option α} {v : α} {f : α → Option β} {R : β → Prop} (e : o = some v) (k : ∃ z, f v = some z ∧ R z) : ∃ z, o.bind f = some z ∧ R z := by subst e; exact k
theorem wT {P : Prop} {d : Decidable P} {a b : Option β} {R : β → Prop} (c : P) (k : ∃ z, a = some z ∧ R z) : ∃ z, (@ite _ P d a b) = some z ∧ R z := by rw [if_pos c]; exact k
theorem wF {P : Prop} {d : Decidable P} {a b : Option β} {R : β → Prop} (c : ¬ P) (k : ∃ z, b = some z ∧ R z) : ∃ z, (@ite _ P d a b) = some z ∧ R z := by rw [if_neg c]; exact k
end We
section Dd
variable {t0 t : moS} {l : List Int32}
theorem DD.rI (h : DD [7, 8, 16] t0 t l) (hN : mN t0) (k n : Nat) {i : Nat} (hi : i < n) (e : k ∉ [7, 8, 16] ∧ k ∉ mG ∧ moN0 k = n := by decide +kernel) (hn : n < 2 ^ 31 := by decide) : rdI t k (nI i) = some (t0.I k i) := by
  have e1 : t.N k = n := by rw [h.2.2.2.2 k (Or.inl e.1), hN.1 k e.2.1, e.2.2]
  rw [rdI_n e1 hi hn, h.2.2.2.I k e.1]
theorem DD.rJ (h : DD [7, 8, 16] t0 t l) (hN : mN t0) (k n : Nat) {i : Nat} (hi : i < n) (e : k ∉ [7, 8, 16] ∧ k ∉ mG ∧ moN0 k = n := by decide +kernel) (hn : n < 2 ^ 31 := by decide) : rdJ t k (nI i) = some (t0.J k i) := by
  have e1 : t.N k = n := by rw [h.2.2.2.2 k (Or.inl e.1), hN.1 k e.2.1, e.2.2]
  rw [rdJ_n e1 hi hn, h.2.2.2.J k e.1]
/-- a word of the model, by the class's number of it -/
theorem cT_c : ∀ k, k < 48 → ∀ c ∈ cT k, k ≠ 39 → k ≠ 42 → (97 ≤ c.toNatClampNeg ∧ c.toNatClampNeg ≤ 122 ∨ 48 ≤ c.toNatClampNeg ∧ c.toNatClampNeg ≤ 57 ∨ c.toNatClampNeg = 42) ∧ c = nI c.toNatClampNeg := by decide +kernel
theorem cT_n {k : Nat} (h : k < 48) (h1 : k ≠ 39) (h2 : k ≠ 42) : ∀ c ∈ cT k, nmC c := fun c hc => ⟨_, (cT_c k h c hc h1 h2).2, (cT_c k h c hc h1 h2).1⟩
theorem dd_wc {W : List Nat} (k : Nat) (c : Int64) (hc : k < 48 ∧ k ≠ 39 ∧ k ≠ 42 ∧ cdL (cT k) = c := by decide +kernel) (h : DD W t0 t l) (hn : l.length + 14 < 160000) : ∃ t', M_word t c = some t' ∧ DD W t0 t' (l ++ 32 :: cT k) := by
  rw [← hc.2.2.2]
  exact dd_word (cT_n hc.1 hc.2.1 hc.2.2.1) (cT_l k hc.1) h (by have := cT_l k hc.1; omega)
theorem dd_nc {W : List Nat} (k : Nat) (c : Int64) (hc : k < 48 ∧ k ≠ 39 ∧ k ≠ 42 ∧ cdL (cT k) = c := by decide +kernel) (h : DD W t0 t l) (hn : l.length + 14 < 160000) : ∃ t', M_sayName t c = some t' ∧ DD W t0 t' (l ++ cT k) := by
  rw [← hc.2.2.2]
  exact dd_name (cT_n hc.1 hc.2.1 hc.2.2.1) (cT_l k hc.1) h (by have := cT_l k hc.1; omega)
theorem dd_wn {W : List Nat} {c : Int64} (hc : ∃ x, nmL x c) (h : DD W t0 t l) (hn : l.length + 14 < 160000) : ∃ t', M_word t c = some t' ∧ DD W t0 t' (l ++ 32 :: nmOf c) := by
  obtain ⟨x, hx⟩ := hc
  rw [nmOf_e hx, hx.1]
  exact dd_word hx.a hx.2.2.1 h (by have := hx.2.2.1; omega)
theorem dd_nn {W : List Nat} {c : Int64} (hc : ∃ x, nmL x c) (h : DD W t0 t l) (hn : l.length + 14 < 160000) : ∃ t', M_sayName t c = some t' ∧ DD W t0 t' (l ++ nmOf c) := by
  obtain ⟨x, hx⟩ := hc
  rw [nmOf_e hx, hx.1]
  exact dd_name hx.a hx.2.2.1 h (by have := hx.2.2.1; omega)
theorem MV.n (h : MV t0) : mN t0 := h.1.1
theorem MV.nR (h : MV t0) : cR t0 ≤ 6 := h.1.2.2.2.2.2.2.2.n.2.2
theorem MV.nIf (h : MV t0) {r : Nat} (hr : r < cR t0) : cI t0 r ≤ 4 := (h.r hr).2.2.2.2.2.2.2.2.2.1.n.2.2
theorem MV.nL (h : MV t0) : cL t0 ≤ 10 := h.1.2.2.2.2.2.1.n.2.2
theorem MV.nRo (h : MV t0) {r : Nat} (hr : r < cR t0) : cN t0 r ≤ 880 := (h.r hr).2.2.2.2.2.2.2.2.2.2.2.2.1.n.2.2
theorem dd_if {r j : Nat} (hM : MV t0) (hr : r < cR t0) (hj : j < cN t0 r) (h : DD [7, 8, 16] t0 t l) (hl : l.length + 14 < 160000) : ∃ t', M_sayRoute_b114 t (nI (2700 * r + j)) = some t' ∧ DD [7, 8, 16] t0 t' (l ++ 32 :: ifN t0 (2700 * r + j)) := by
  have h6 := hM.nR
  have hn := hM.nRo hr
  unfold M_sayRoute_b114 ifN
  have r1 := h.rI hM.n 113 16200 (i := 2700 * r + j) (by omega)
  refine wre r1 ?_
  by_cases c : t0.I 113 (2700 * r + j) = -1
  · refine wT c ?_
    rw [if_pos c]
    refine wb (dd_space h (by omega)) (fun t1 h1 => wb (dd_say 45 h1 (by rw [List.length_append]; show l.length + 1 < _; omega)) (fun t2 h2 => ⟨t2, rfl, ?_⟩))
    rw [List.append_assoc] at h2
    exact h2
  · refine wF c (wre r1 ?_)
    rw [if_neg c]
    obtain ⟨q, hq1, hq2, hq3⟩ := (((hM.r hr).w hj).2.2.2.2.2.1).resolve_left c
    obtain ⟨p, rfl⟩ : ∃ p, q = 4 * r + p := ⟨q - 4 * r, by omega⟩
    have hp4 : p < cI t0 r := by omega
    have h4 := hM.nIf hr
    have hvi := (hM.r hr).i hp4
    obtain ⟨e71, -, e71b⟩ := hvi.1.n
    have hcl : (t0.I 113 (2700 * r + j)).toNatClampNeg = 4 * r + p := by rw [hq1, nI_clamp (by omega)]
    rw [hcl]
    obtain ⟨-, -, -, -, -, -, -, hnm⟩ := hM.2.1 _ hvi.2.1
    refine wre (v := t0.I 71 (4 * r + p)) (by rw [hq1]; exact h.rI hM.n 71 24 (by omega)) (wre (v := t0.J 18 (t0.I 71 (4 * r + p)).toNatClampNeg) (by rw [e71, nI_clamp (by omega)]; exact h.rJ hM.n 18 10 (by omega)) (wb (dd_wn hnm h hl) (fun t1 h1 => ⟨t1, rfl, h1⟩)))
theorem dd_route {r j : Nat} (hM : MV t0) (hr : r < cR t0) (hj : j < cN t0 r) (h : DD [7, 8, 16] t0 t l) (hl : l.length + 200 < 160000) : ∃ t', M_sayRoute t (nI (2700 * r + j)) = some t' ∧ DD [7, 8, 16] t0 t' (l ++ rtL t0 (2700 * r + j)) := by
  have h6 := hM.nR
  have hn := hM.nRo hr
  have b1 := pfxZ_len (fam (t0.I 106 (2700 * r + j))) (t0.J 107 (2700 * r + j)) (t0.J 108 (2700 * r + j)) (t0.I 109 (2700 * r + j))
  have b2 := decZ_len (t0.I 111 (2700 * r + j))
  have b3 := adr_len (fam (t0.I 106 (2700 * r + j))) (t0.J 114 (2700 * r + j)) (t0.J 115 (2700 * r + j))
  unfold M_sayRoute rtL
  refine wre (h.rI hM.n 106 16200 (by omega)) (wre (h.rJ hM.n 107 16200 (by omega)) (wre (h.rJ hM.n 108 16200 (by omega)) (wre (h.rI hM.n 109 16200 (by omega)) (wb (dd_pfx _ _ _ _ h (by decide) (by omega)) (fun t1 h1 => wre (h1.rI hM.n 111 16200 (by omega)) (wb (dd_wnum _ h1 (by rw [List.length_append]; omega)) (fun t2 h2 => ?_)))))))
  have hlen : (l ++ pfxZ (fam (t0.I 106 (2700 * r + j))) (t0.J 107 (2700 * r + j)) (t0.J 108 (2700 * r + j)) (t0.I 109 (2700 * r + j)) ++ 32 :: decZ (t0.I 111 (2700 * r + j))).length ≤ l.length + 65 := by
    rw [List.length_append, List.length_append, List.length_cons]; omega
  refine wre (h2.rI hM.n 110 16200 (by omega)) ?_
  by_cases c1 : t0.I 110 (2700 * r + j) = 1
  · refine wT c1 ?_
    rw [if_pos c1]
    refine wb (dd_wc 17 1996896363 (h := h2) (hn := by omega)) (fun t3 h3 => ⟨t3, rfl, ?_⟩)
    simp only [List.append_assoc, List.cons_append] at h3 ⊢
    exact h3
  · refine wF c1 (wre (h2.rI hM.n 110 16200 (by omega)) ?_)
    rw [if_neg c1]
    unfold M_sayRoute_b75
    by_cases c2 : t0.I 110 (2700 * r + j) = 0
    · refine wT c2 ?_
      rw [if_pos c2]
      refine wb (dd_wc 40 433800140 (h := h2) (hn := by omega)) (fun t3 h3 => wre (h3.rI hM.n 110 16200 (by omega)) (wF (by rw [c2]; decide) ?_))
      obtain ⟨t4, e4, h4⟩ := dd_if hM hr hj h3 (by rw [List.length_append]; show _ + (6 + 1) + 14 < _; omega)
      refine ⟨t4, e4, ?_⟩
      simp only [List.append_assoc, List.cons_append] at h4 ⊢
      exact h4
    · have c3 : t0.I 110 (2700 * r + j) = 2 := by
        obtain ⟨n, e, -, hn2⟩ := ((hM.r hr).w hj).2.1
        rw [e] at c1 c2 ⊢
        have : n ≠ 0 := fun z => c2 (by rw [z]; rfl)
        have : n ≠ 1 := fun z => c1 (by rw [z]; rfl)
        rw [show n = 2 by omega]
        rfl
      refine wF c2 ?_
      rw [if_neg c2]
      refine wb (dd_wc 41 35561 (h := h2) (hn := by omega)) (fun t3 h3 => wre (h3.rI hM.n 110 16200 (by omega)) (wT c3 (wb (dd_space h3 (by rw [List.length_append]; show _ + (3 + 1) < _; omega)) (fun t4 h4 => wre (h4.rI hM.n 106 16200 (by omega)) (wre (h4.rJ hM.n 114 16200 (by omega)) (wre (h4.rJ hM.n 115 16200 (by omega)) (wb (dd_addr _ _ _ h4 (by decide) (by rw [List.length_append, List.length_append]; show _ + (3 + 1) + 1 + 60 < _; omega)) (fun t5 h5 => ?_))))))))
      obtain ⟨t6, e6, h6'⟩ := dd_if hM hr hj h5 (by rw [List.length_append, List.length_append, List.length_append]; show _ + (3 + 1) + 1 + _ + 14 < _; omega)
      refine ⟨t6, e6, ?_⟩
      simp only [List.append_assoc, List.cons_append, List.nil_append] at h6' ⊢
      exact h6'
/-- a route's times -/
noncomputable def tmL (t : moS) (k : Nat) : List Int32 := pfxZ (fam (t.I 106 k)) (t.J 107 k) (t.J 108 k) (t.I 109 k) ++ (32 :: (if t.I 110 k = 2 then (if t.I 111 k = 16 then decZ (t.I 122 k - t.S 1) else decZ (t.I 120 k + t.I 121 k - t.S 1)) else [45]) ++ (if t.I 119 k = 0 then [] else 32 :: cT 47))
theorem dd_times {r j : Nat} (hM : MV t0) (hr : r < cR t0) (hj : j < cN t0 r) (h : DD [7, 8, 16] t0 t l) (hl : l.length + 200 < 160000) : ∃ t', M_sayTimes t (nI (2700 * r + j)) = some t' ∧ DD [7, 8, 16] t0 t' (l ++ tmL t0 (2700 * r + j)) := by
  have h6 := hM.nR
  have hn := hM.nRo hr
  have b1 := pfxZ_len (fam (t0.I 106 (2700 * r + j))) (t0.J 107 (2700 * r + j)) (t0.J 108 (2700 * r + j)) (t0.I 109 (2700 * r + j))
  have fin : ∀ (t1 : moS) X, DD [7, 8, 16] t0 t1 (l ++ pfxZ (fam (t0.I 106 (2700 * r + j))) (t0.J 107 (2700 * r + j)) (t0.J 108 (2700 * r + j)) (t0.I 109 (2700 * r + j)) ++ 32 :: X) → X.length ≤ 10 → ∃ t', M_sayTimes_b102 t1 (nI (2700 * r + j)) = some t' ∧ DD [7, 8, 16] t0 t' (l ++ (pfxZ (fam (t0.I 106 (2700 * r + j))) (t0.J 107 (2700 * r + j)) (t0.J 108 (2700 * r + j)) (t0.I 109 (2700 * r + j)) ++ (32 :: X ++ (if t0.I 119 (2700 * r + j) = 0 then [] else 32 :: cT 47)))) := by
    intro t1 X h1 hX
    unfold M_sayTimes_b102
    refine wre (h1.rI hM.n 119 16200 (by omega)) ?_
    by_cases c : t0.I 119 (2700 * r + j) = 0
    · refine wT c ⟨t1, rfl, ?_⟩
      rw [if_pos c]
      simp only [List.append_assoc, List.cons_append, List.append_nil] at h1 ⊢
      exact h1
    · refine wF c ?_
      rw [if_neg c]
      refine wb (dd_wc 47 13110667404 (h := h1) (hn := by rw [List.length_append, List.length_append, List.length_cons]; omega)) (fun t2 h2 => ⟨t2, rfl, ?_⟩)
      simp only [List.append_assoc, List.cons_append] at h2 ⊢
      exact h2
  have hS : ∀ {t1 : moS} {l1 : List Int32}, DD [7, 8, 16] t0 t1 l1 → t1.S 1 = t0.S 1 := fun h => h.2.2.2.S 1 (by decide)
  obtain ⟨-, hk, hm, hm2, -⟩ := (hM.r hr).w hj
  unfold M_sayTimes tmL
  refine wre (h.rI hM.n 106 16200 (by omega)) (wre (h.rJ hM.n 107 16200 (by omega)) (wre (h.rJ hM.n 108 16200 (by omega)) (wre (h.rI hM.n 109 16200 (by omega)) (wb (dd_pfx _ _ _ _ h (by decide) (by omega)) (fun t1 h1 => wre (h1.rI hM.n 111 16200 (by omega)) ?_)))))
  by_cases c1 : t0.I 111 (2700 * r + j) = 16
  · have c2 : t0.I 110 (2700 * r + j) = 2 := Classical.byContradiction fun z => by
      obtain ⟨n, e, -, hn⟩ := hm2 z
      rw [e] at c1
      have := (nI_eq (by omega) (by decide)).mp (show nI n = nI 16 from c1)
      omega
    refine wT c1 (wre (h1.rI hM.n 122 16200 (i := 2700 * r + j) (by omega)) (wb (dd_wnum _ h1 (by rw [List.length_append]; omega)) (fun t2 h2 => ?_)))
    rw [if_pos c2, if_pos c1]
    rw [hS h1] at h2
    exact fin t2 _ h2 (decZ_len _)
  · refine wF c1 (wre (h1.rI hM.n 110 16200 (i := 2700 * r + j) (by omega)) ?_)
    by_cases c2 : t0.I 110 (2700 * r + j) = 2
    · refine wT c2 (wre (h1.rI hM.n 120 16200 (by omega)) (wre (h1.rI hM.n 121 16200 (by omega)) (wb (dd_wnum _ h1 (by rw [List.length_append]; omega)) (fun t2 h2 => ?_))))
      rw [if_pos c2, if_neg c1]
      rw [hS h1] at h2
      exact fin t2 _ h2 (decZ_len _)
    · refine wF c2 ?_
      rw [if_neg c2]
      refine wb (dd_space h1 (by rw [List.length_append]; omega)) (fun t2 h2 => wb (dd_say 45 h2 (by rw [List.length_append, List.length_append]; show _ + _ + 1 < _; omega)) (fun t3 h3 => fin t3 [45] ?_ (by decide)))
      rw [List.append_assoc] at h3
      exact h3
end Dd
