/-! Texts of the model: interfaces, and show. -/
section Dd
variable {t0 t : moS} {l : List Int32}
theorem rem2 : ∀ q f : Nat, f < 2 → 2 * q + f < 2 ^ 31 → rem_I (nI (2 * q + f)) 2 = nI f := by
  intro q f hf h
  show nI (2 * q + f) - nI (2 * q + f) / nI 2 * nI 2 = _
  rw [pk_rem h (by decide) (by decide), show (2 * q + f) % 2 = f by omega]
theorem dd_own {q f : Nat} (hf : f < 2) (hq : q < 24) (hN : mN t0) (h : DD [7, 8, 16] t0 t l) (hl : l.length + 80 < 160000) : ∃ t', M_sayOwn t (nI (2 * q + f)) = some t' ∧ DD [7, 8, 16] t0 t' (l ++ 32 :: pfxZ (fam (nI f)) (t0.J 76 (2 * q + f)) (t0.J 77 (2 * q + f)) (t0.I 78 (2 * q + f))) := by
  unfold M_sayOwn
  refine wre (h.rJ hN 76 48 (by omega)) ?_
  refine wre (h.rJ hN 77 48 (by omega)) ?_
  refine wre (h.rI hN 78 48 (by omega)) ?_
  show ∃ t', Option.bind (M_wordPrefix t (rem_I (nI (2 * q + f)) 2) _ _ _) _ = some t' ∧ _
  rw [rem2 q f hf (by omega)]
  exact wb (dd_wpfx _ _ _ _ h (by decide) (by omega)) (fun t1 h1 => ⟨t1, rfl, h1⟩)
theorem dd_adL {q : Nat} (hq : q < 24) (hN : mN t0) (h1 : bit (t0.I 75 (2 * q))) (h2 : bit (t0.I 75 (2 * q + 1))) (h : DD [7, 8, 16] t0 t l) (hl : l.length + 160 < 160000) : ∃ t', M_sayInterface_b123 t (nI q) = some t' ∧ DD [7, 8, 16] t0 t' (l ++ (adL t0 q 0 ++ adL t0 q 1)) := by
  have e2 : (2 : Int32) * nI q = nI (2 * q) := by rw [show (2 : Int32) = nI 2 from rfl, pk_mul]
  unfold M_sayInterface_b123 M_sayInterface_b127
  rw [e2]
  have step : ∀ f t l, f < 2 → DD [7, 8, 16] t0 t l → l.length + 80 < 160000 → ∃ t', DD [7, 8, 16] t0 t' (l ++ adL t0 q f) ∧ M_sayInterface_s127 t (nI q) (nI (2 * q + f)) = some (.inl (nI (2 * q + f + 1), t')) := by
    intro f t l hf h hl
    unfold M_sayInterface_s127 M_sayInterface_b150
    rw [e2, show (2 : Int32) = nI 2 from rfl, nI_add, if_pos (nI_lt (by omega) (by omega)), h.rI hN 75 48 (i := 2 * q + f) (by omega)]
    show ∃ t', _ ∧ (if t0.I 75 (2 * q + f) = 0 then _ else _) = _
    unfold adL
    by_cases c : t0.I 75 (2 * q + f) = 0
    · rw [if_pos c, if_pos c, nI_1]
      exact ⟨t, by rw [List.append_nil]; exact h, rfl⟩
    · rw [if_neg c, if_neg c]
      obtain ⟨t1, e1, h1⟩ := dd_own hf hq hN h hl
      rw [e1, nI_1]
      exact ⟨t1, h1, rfl⟩
  obtain ⟨t1, h1', e1⟩ := step 0 t l (by decide) h (by omega)
  have ha := adL_len t0 q 0
  obtain ⟨t2, h2', e3⟩ := step 1 t1 _ (by decide) h1' (by rw [List.length_append]; omega)
  refine ⟨t2, ?_, by rw [List.append_assoc] at h2'; exact h2'⟩
  rw [lp_l (y := (nI (2 * q + 0 + 1), t1)) e1, lp_l (y := (nI (2 * q + 1 + 1), t2)) e3]
  refine lp_r ?_
  show M_sayInterface_s127 t2 (nI q) (nI (2 * q + 1 + 1)) = _
  unfold M_sayInterface_s127
  rw [e2, show (2 : Int32) = nI 2 from rfl, nI_add, if_neg (nI_nlt (by omega) (by omega))]
  rfl
theorem dd_iface {r p : Nat} (hM : MV t0) (hr : r < cR t0) (hp : p < cI t0 r) (h : DD [7, 8, 16] t0 t l) (hl : l.length + 300 < 160000) : ∃ t', M_sayInterface t (nI (4 * r + p)) = some t' ∧ DD [7, 8, 16] t0 t' (l ++ itL t0 (4 * r + p)) := by
  have h6 := hM.nR
  have h4 := hM.nIf hr
  have hvi := (hM.r hr).i hp
  obtain ⟨e71, -, e71b⟩ := hvi.1.n
  obtain ⟨-, hcl, m72, m73, m74, ⟨m75, m75'⟩, -, -, m79, -⟩ := hvi
  obtain ⟨-, -, -, lu, -, -, -, hnm⟩ := hM.2.1 _ hcl
  have b1 := nmOf_l (t0.J 18 (t0.I 71 (4 * r + p)).toNatClampNeg)
  have b2 := decZ_len (t0.I 72 (4 * r + p))
  have b3 := (spL_k (t0.J 73 (4 * r + p))).1
  have b4 := (kdL_k (t0.I 79 (4 * r + p))).1
  have i71 : ∀ {t1 : moS} {l1 : List Int32}, DD [7, 8, 16] t0 t1 l1 → rdI t1 71 (nI (4 * r + p)) = some (t0.I 71 (4 * r + p)) := fun h => h.rI hM.n 71 24 (by omega)
  -- from the kind on
  have b104 : ∀ (t1 : moS) (l1 : List Int32) (u : Nat) (c : Int64), (u < 48 ∧ u ≠ 39 ∧ u ≠ 42 ∧ cdL (cT u) = c) → (if t0.I 79 (4 * r + p) = 0 then cT 46 else if t0.I 79 (4 * r + p) = 1 then cT 8 else cT 45) = cT u → l1.length + 200 < 160000 → DD [7, 8, 16] t0 t1 l1 → ∃ t', M_sayInterface_b104 t1 (nI (4 * r + p)) c = some t' ∧ DD [7, 8, 16] t0 t' (l1 ++ (32 :: (if t0.I 79 (4 * r + p) = 0 then cT 46 else if t0.I 79 (4 * r + p) = 1 then cT 8 else cT 45) ++ ((if t0.I 74 (4 * r + p) = 0 then [] else 32 :: cT 11) ++ (adL t0 (4 * r + p) 0 ++ adL t0 (4 * r + p) 1)))) := by
    intro t1 l1 u c hc eu hl1 h1
    rw [eu]
    have hul := cT_l u hc.1
    unfold M_sayInterface_b104
    refine wb (dd_wc u c hc h1 (by omega)) (fun t2 h2 => wre (h2.rI hM.n 74 24 (by omega)) ?_)
    by_cases cp : t0.I 74 (4 * r + p) = 0
    · refine wT cp ?_
      obtain ⟨t3, e3, h3⟩ := dd_adL (q := 4 * r + p) (by omega) hM.n m75 m75' h2 (by rw [List.length_append, List.length_cons]; omega)
      refine ⟨t3, e3, ?_⟩
      rw [if_pos cp]
      simp only [List.append_assoc, List.cons_append, List.nil_append] at h3 ⊢
      exact h3
    · refine wF cp (wb (dd_wc 11 65688271285 (h := h2) (hn := by rw [List.length_append, List.length_cons]; omega)) (fun t3 h3 => ?_))
      have c11 : (cT 11).length = 7 := rfl
      obtain ⟨t4, e4, h4'⟩ := dd_adL (q := 4 * r + p) (by omega) hM.n m75 m75' h3 (by simp only [List.length_append, List.length_cons]; omega)
      refine ⟨t4, e4, ?_⟩
      rw [if_neg cp]
      simp only [List.append_assoc, List.cons_append, List.nil_append] at h4' ⊢
      exact h4'
  have b39 : ∀ (t1 : moS) (l1 : List Int32) (u : Nat) (c : Int64), (u < 48 ∧ u ≠ 39 ∧ u ≠ 42 ∧ cdL (cT u) = c) → (if t0.I 22 (t0.I 71 (4 * r + p)).toNatClampNeg = 0 then cT 44 else cT 43) = cT u → l1.length + 260 < 160000 → l1 = l ++ nmOf (t0.J 18 (t0.I 71 (4 * r + p)).toNatClampNeg) → DD [7, 8, 16] t0 t1 l1 → ∃ t', M_sayInterface_b39 t1 (nI (4 * r + p)) c = some t' ∧ DD [7, 8, 16] t0 t' (l ++ itL t0 (4 * r + p)) := by
    intro t1 l1 u c hc eu hl1 el h1
    have hul := cT_l u hc.1
    have c6 : (cT 6).length = 4 := rfl
    unfold M_sayInterface_b39
    refine wb (dd_wc u c hc h1 (by omega)) (fun t2 h2 => wb (dd_wc 6 216780 (h := h2) (hn := by rw [List.length_append, List.length_cons]; omega)) (fun t3 h3 => wre (h3.rI hM.n 72 24 (by omega)) (wb (dd_wnum _ h3 (by simp only [List.length_append, List.length_cons]; omega)) (fun t4 h4 => wre (h4.rJ hM.n 73 24 (by omega)) ?_))))
    have hsp : ∃ v, v < 48 ∧ v ≠ 39 ∧ v ≠ 42 ∧ cdL (cT v) = t0.J 73 (4 * r + p) ∧ spL (t0.J 73 (4 * r + p)) = cT v := by
      rcases m73 with e | e | e
      · rw [e]; exact ⟨12, by decide, by decide, by decide, by decide +kernel, rfl⟩
      · rw [e]; exact ⟨13, by decide, by decide, by decide, by decide +kernel, rfl⟩
      · rw [e]; exact ⟨14, by decide, by decide, by decide, by decide +kernel, rfl⟩
    obtain ⟨v, v1, v2, v3, v4, v5⟩ := hsp
    have hvl := cT_l v v1
    refine wb (dd_wc v _ ⟨v1, v2, v3, v4⟩ h4 (by simp only [List.length_append, List.length_cons]; omega)) (fun t5 h5 => wre (h5.rI hM.n 79 24 (by omega)) ?_)
    rw [← v5] at h5
    have fin : ∀ u' c', (u' < 48 ∧ u' ≠ 39 ∧ u' ≠ 42 ∧ cdL (cT u') = c') → (if t0.I 79 (4 * r + p) = 0 then cT 46 else if t0.I 79 (4 * r + p) = 1 then cT 8 else cT 45) = cT u' → ∃ t', M_sayInterface_b104 t5 (nI (4 * r + p)) c' = some t' ∧ DD [7, 8, 16] t0 t' (l ++ itL t0 (4 * r + p)) := by
      intro u' c' hc' eu'
      obtain ⟨t6, e6, h6'⟩ := b104 t5 _ u' c' hc' eu' (by simp only [List.length_append, List.length_cons]; omega) h5
      refine ⟨t6, e6, ?_⟩
      unfold itL
      rw [eu]
      rw [el] at h6'
      simp only [List.append_assoc, List.cons_append, List.nil_append] at h6' ⊢
      exact h6'
    by_cases k0 : t0.I 79 (4 * r + p) = 0
    · exact wT k0 (fin 46 985814 (by decide +kernel) (by rw [if_pos k0]))
    · refine wF k0 (wre (h5.rI hM.n 79 24 (by omega)) ?_)
      by_cases k1 : t0.I 79 (4 * r + p) = 1
      · exact wT k1 (fin 8 2627531736724 (by decide +kernel) (by rw [if_neg k0, if_pos k1]))
      · exact wF k1 (fin 45 8193974 (by decide +kernel) (by rw [if_neg k0, if_neg k1]))
  unfold M_sayInterface
  refine wre (i71 h) ?_
  refine wre (v := t0.J 18 (t0.I 71 (4 * r + p)).toNatClampNeg) (by rw [e71, nI_clamp (by omega)]; exact h.rJ hM.n 18 10 (by omega)) ?_
  refine wb (dd_nn hnm h (by omega)) (fun t1 h1 => wre (i71 h1) (wre (v := t0.I 22 (t0.I 71 (4 * r + p)).toNatClampNeg) (by rw [e71, nI_clamp (by omega)]; exact h1.rI hM.n 22 10 (by omega)) ?_))
  by_cases cu : t0.I 22 (t0.I 71 (4 * r + p)).toNatClampNeg = 0
  · exact wT cu (b39 t1 _ 44 280934 (by decide +kernel) (by rw [if_pos cu]) (by rw [List.length_append]; omega) rfl h1)
  · exact wF cu (b39 t1 _ 43 856 (by decide +kernel) (by rw [if_neg cu]) (by rw [List.length_append]; omega) rfl h1)
/-- what show says -/
noncomputable def shL (t : moS) (r w : Nat) : List Int32 := if w = 0 then lnS (fun j => rtL t (2700 * r + j)) (cN t r) else if w = 1 then lnS (fun p => itL t (4 * r + p)) (cI t r) else if w = 2 then lnS (fun i => ctL t r i) 11 else lnS (fun j => tmL t (2700 * r + j)) (cN t r)
theorem dd_show {r w : Nat} (hM : MV t0) (hr : r < cR t0) (hw : w ≤ 3) (h : DD [7, 8, 16] t0 t []) : ∃ t1, M_show_b35 t (nI r) (nI w) (2700 * nI r) = M_show_b174 t1 ∧ DD [7, 8, 16] t0 t1 (shL t0 r w) := by
  have h6 := hM.nR
  have h4 := hM.nIf hr
  have hn := hM.nRo hr
  have e2700 : (2700 : Int32) * nI r = nI (2700 * r) := by rw [show (2700 : Int32) = nI 2700 from rfl, pk_mul]
  have e4 : (4 : Int32) * nI r = nI (4 * r) := by rw [show (4 : Int32) = nI 4 from rfl, pk_mul]
  have e11 : (11 : Int32) * nI r = nI (11 * r) := by rw [show (11 : Int32) = nI 11 from rfl, pk_mul]
  have e105 : t0.I 105 r = nI (cN t0 r) := (hM.r hr).2.2.2.2.2.2.2.2.2.2.2.2.1.n.1
  have e70 : t0.I 70 r = nI (cI t0 r) := (hM.r hr).2.2.2.2.2.2.2.2.2.1.n.1
  have nw : ∀ a : Nat, a ≤ 3 → (nI w = nI a ↔ w = a) := fun a ha => nI_eq (by omega) (by omega)
  have i70 : ∀ {t1 : moS} {l1 : List Int32}, DD [7, 8, 16] t0 t1 l1 → rdI t1 70 (nI r) = some (nI (cI t0 r)) := fun h => by rw [h.rI hM.n 70 6 (by omega), e70]
  have i105 : ∀ {t1 : moS} {l1 : List Int32}, DD [7, 8, 16] t0 t1 l1 → rdI t1 105 (nI r) = some (nI (cN t0 r)) := fun h => by rw [h.rI hM.n 105 6 (by omega), e105]
  -- what isn't asked for
  have k131 : w ≠ 2 → ∀ t1 : moS, M_show_b129 t1 (nI r) (nI w) = M_show_b174 t1 := by
    intro c t1
    unfold M_show_b129 M_show_b131
    refine lp_x ?_
    show M_show_s131 t1 (nI r) (nI w) 0 = _
    unfold M_show_s131
    rw [if_pos (by decide), if_neg (show ¬ nI w = 2 from fun z => c ((nw 2 (by decide)).mp z))]
  have k93 : w ≠ 1 → ∀ (t1 : moS) l1, DD [7, 8, 16] t0 t1 l1 → M_show_b89 t1 (nI r) (nI w) = M_show_b129 t1 (nI r) (nI w) := by
    intro c t1 l1 h1
    unfold M_show_b89 M_show_b93
    refine lp_x ?_
    show M_show_s93 t1 (nI r) (nI w) (4 * nI r) = _
    unfold M_show_s93
    rw [i70 h1]
    show (if 4 * nI r < 4 * nI r + nI (cI t0 r) then _ else _) = _
    rw [if_neg (show ¬ nI w = 1 from fun z => c ((nw 1 (by decide)).mp z))]
    split <;> rfl
  have k35 : w ≠ 0 → w ≠ 3 → ∀ (t1 : moS) l1, DD [7, 8, 16] t0 t1 l1 → M_show_b35 t1 (nI r) (nI w) (2700 * nI r) = M_show_b89 t1 (nI r) (nI w) := by
    intro c c3 t1 l1 h1
    unfold M_show_b35
    refine lp_x ?_
    show M_show_s35 t1 (nI r) (nI w) (2700 * nI r) = _
    unfold M_show_s35
    rw [i105 h1]
    show (if 2700 * nI r < 2700 * nI r + nI (cN t0 r) then _ else _) = _
    rw [if_neg (show ¬ nI w = 0 from fun z => c ((nw 0 (by decide)).mp z)), if_neg (show ¬ nI w = 3 from fun z => c3 ((nw 3 (by decide)).mp z))]
    split <;> rfl
  -- what is
  have r131 : w = 2 → ∀ n i (t : moS), i + n = 11 → DD [7, 8, 16] t0 t (lnS (fun i => ctL t0 r i) i) → ∃ t1, M_show_b131 t (nI r) (nI w) (nI i) = M_show_b174 t1 ∧ DD [7, 8, 16] t0 t1 (lnS (fun i => ctL t0 r i) 11) := by
    intro c n
    induction n with
    | zero =>
      intro i t hi h
      have hi : i = 11 := by omega
      subst hi
      refine ⟨t, ?_, h⟩
      unfold M_show_b131
      refine lp_x ?_
      show M_show_s131 t (nI r) (nI w) (nI 11) = _
      unfold M_show_s131
      rw [if_neg (by decide)]
    | succ n ih =>
      intro i t hi h
      have hlen := lnS_len (f := fun i => ctL t0 r i) (B := 21) i (fun i _ => ctL_len _ _ _)
      have hd := dec_len i
      obtain ⟨t1, g1, d1⟩ := dd_num (nI i) h (by omega)
      rw [decZ_n (by omega)] at d1
      obtain ⟨t2, g2, d2⟩ := dd_wnum (t0.I 45 (11 * r + i)) d1 (by rw [List.length_append]; omega)
      have hd2 := decZ_len (t0.I 45 (11 * r + i))
      obtain ⟨t3, g3, d3⟩ := dd_say 10 d2 (by simp only [List.length_append, List.length_cons]; omega)
      obtain ⟨t4, g4, d4⟩ := ih (i + 1) t3 (by omega) (by
        show DD [7, 8, 16] t0 t3 (lnS (fun i => ctL t0 r i) i ++ ((dec i ++ 32 :: decZ (t0.I 45 (11 * r + i))) ++ [10]))
        simp only [List.append_assoc] at d3 ⊢
        exact d3)
      refine ⟨t4, ?_, d4⟩
      unfold M_show_b131 at g4 ⊢
      rw [lp_l (y := (nI (i + 1), t3))]
      · exact g4
      · show M_show_s131 t (nI r) (nI w) (nI i) = _
        unfold M_show_s131
        rw [if_pos (show nI i < 11 from nI_lt (b := 11) (by omega) (by decide)), if_pos (show nI w = 2 from (nw 2 (by decide)).mpr c), g1]
        show Option.bind (rdI t1 45 (11 * nI r + nI i)) _ = _
        rw [e11, nI_add, d1.rI hM.n 45 66 (i := 11 * r + i) (by omega)]
        show Option.bind (M_wordNumber t1 _) _ = _
        rw [g2]
        show Option.bind (M_say t2 10) _ = _
        rw [g3, nI_1]
        rfl
  have r93 : w = 1 → ∀ n p (t : moS), p + n = cI t0 r → DD [7, 8, 16] t0 t (lnS (fun p => itL t0 (4 * r + p)) p) → ∃ t1, M_show_b93 t (nI r) (nI w) (nI (4 * r + p)) = M_show_b174 t1 ∧ DD [7, 8, 16] t0 t1 (lnS (fun p => itL t0 (4 * r + p)) (cI t0 r)) := by
    intro c n
    induction n with
    | zero =>
      intro p t hp h
      have hp : p = cI t0 r := by omega
      subst hp
      refine ⟨t, ?_, h⟩
      rw [← k131 (by omega) t]
      unfold M_show_b93
      refine lp_x ?_
      show M_show_s93 t (nI r) (nI w) (nI (4 * r + cI t0 r)) = _
      unfold M_show_s93
      rw [i70 h]
      show (if nI (4 * r + cI t0 r) < 4 * nI r + nI (cI t0 r) then _ else _) = _
      rw [e4, nI_add, if_neg (nI_nlt (Nat.le_refl _) (by omega))]
    | succ n ih =>
      intro p t hp h
      have hlen := lnS_len (f := fun p => itL t0 (4 * r + p)) (B := 200) p (fun i _ => itL_len _ _)
      obtain ⟨t1, g1, d1⟩ := dd_iface hM hr (p := p) (by omega) h (by omega)
      have hil := itL_len t0 (4 * r + p)
      obtain ⟨t2, g2, d2⟩ := dd_say 10 d1 (by rw [List.length_append]; omega)
      obtain ⟨t3, g3, d3⟩ := ih (p + 1) t2 (by omega) (by rw [List.append_assoc] at d2; exact d2)
      refine ⟨t3, ?_, d3⟩
      unfold M_show_b93 at g3 ⊢
      rw [lp_l (y := (nI (4 * r + (p + 1)), t2))]
      · exact g3
      · show M_show_s93 t (nI r) (nI w) (nI (4 * r + p)) = _
        unfold M_show_s93
        rw [i70 h]
        show (if nI (4 * r + p) < 4 * nI r + nI (cI t0 r) then _ else _) = _
        rw [e4, nI_add, if_pos (nI_lt (by omega) (by omega)), if_pos (show nI w = 1 from (nw 1 (by decide)).mpr c), g1]
        show Option.bind (M_say t1 10) _ = _
        rw [g2, nI_1]
        rfl
  have r35 : w = 0 ∨ w = 3 → ∀ n j (t : moS), j + n = cN t0 r → DD [7, 8, 16] t0 t (lnS (fun j => if w = 0 then rtL t0 (2700 * r + j) else tmL t0 (2700 * r + j)) j) → ∃ t1, M_show_b35 t (nI r) (nI w) (nI (2700 * r + j)) = M_show_b174 t1 ∧ DD [7, 8, 16] t0 t1 (lnS (fun j => if w = 0 then rtL t0 (2700 * r + j) else tmL t0 (2700 * r + j)) (cN t0 r)) := by
    intro c n
    induction n with
    | zero =>
      intro j t hj h
      have hj : j = cN t0 r := by omega
      subst hj
      refine ⟨t, ?_, h⟩
      rw [← k131 (by omega) t, ← k93 (by omega) t _ h]
      unfold M_show_b35
      refine lp_x ?_
      show M_show_s35 t (nI r) (nI w) (nI (2700 * r + cN t0 r)) = _
      unfold M_show_s35
      rw [i105 h]
      show (if nI (2700 * r + cN t0 r) < 2700 * nI r + nI (cN t0 r) then _ else _) = _
      rw [e2700, nI_add, if_neg (nI_nlt (Nat.le_refl _) (by omega))]
    | succ n ih =>
      intro j t hj h
      have hB : ∀ i, (if w = 0 then rtL t0 (2700 * r + i) else tmL t0 (2700 * r + i)).length ≤ 130 := by
        intro i
        split
        · exact rtL_len _ _
        · exact Nat.le_trans (tmL_len _ _) (by decide)
      have hlen := lnS_len (f := fun j => if w = 0 then rtL t0 (2700 * r + j) else tmL t0 (2700 * r + j)) (B := 130) j (fun i _ => hB i)
      have hs : ∃ t1, M_show_b60 t (nI r) (nI w) (nI (2700 * r + j)) = M_show_b77 t1 (nI r) (nI w) (nI (2700 * r + j)) ∧ DD [7, 8, 16] t0 t1 (lnS (fun j => if w = 0 then rtL t0 (2700 * r + j) else tmL t0 (2700 * r + j)) j ++ (if w = 0 then rtL t0 (2700 * r + j) else tmL t0 (2700 * r + j))) := by
        unfold M_show_b60
        by_cases c0 : w = 0
        · obtain ⟨t1, g1, d1⟩ := dd_route hM hr (j := j) (by omega) h (by omega)
          refine ⟨t1, ?_, by rw [if_pos c0]; exact d1⟩
          rw [if_pos (show nI w = 0 from (nw 0 (by decide)).mpr c0), g1]
          rfl
        · obtain ⟨t1, g1, d1⟩ := dd_times hM hr (j := j) (by omega) h (by omega)
          refine ⟨t1, ?_, by rw [if_neg c0]; exact d1⟩
          rw [if_neg (show ¬ nI w = 0 from fun z => c0 ((nw 0 (by decide)).mp z)), g1]
          rfl
      obtain ⟨t1, g1, d1⟩ := hs
      have hb := hB j
      obtain ⟨t2, g2, d2⟩ := dd_say 10 d1 (by rw [List.length_append]; omega)
      obtain ⟨t3, g3, d3⟩ := ih (j + 1) t2 (by omega) (by rw [List.append_assoc] at d2; exact d2)
      refine ⟨t3, ?_, d3⟩
      unfold M_show_b35 at g3 ⊢
      rw [lp_l (y := (nI (2700 * r + (j + 1)), t2))]
      · exact g3
      · show M_show_s35 t (nI r) (nI w) (nI (2700 * r + j)) = _
        unfold M_show_s35
        rw [i105 h]
        show (if nI (2700 * r + j) < 2700 * nI r + nI (cN t0 r) then _ else _) = _
        rw [e2700, nI_add, if_pos (nI_lt (by omega) (by omega)), g1]
        unfold M_show_b77
        rw [g2, nI_1]
        rcases c with c | c
        · rw [if_pos (show nI w = 0 from (nw 0 (by decide)).mpr c)]; rfl
        · rw [if_neg (show ¬ nI w = 0 from fun z => by have := (nw 0 (by decide)).mp z; omega), if_pos (show nI w = 3 from (nw 3 (by decide)).mpr c)]; rfl
  unfold shL
  by_cases c0 : w = 0
  · obtain ⟨t1, g1, d1⟩ := r35 (Or.inl c0) (cN t0 r) 0 t (by omega) h
    refine ⟨t1, by rw [e2700]; exact g1, ?_⟩
    rw [if_pos c0]
    simp only [if_pos c0] at d1
    exact d1
  · by_cases c3 : w = 3
    · obtain ⟨t1, g1, d1⟩ := r35 (Or.inr c3) (cN t0 r) 0 t (by omega) h
      refine ⟨t1, by rw [e2700]; exact g1, ?_⟩
      rw [if_neg c0, if_neg (by omega), if_neg (by omega)]
      simp only [if_neg c0] at d1
      exact d1
    · rw [k35 c0 c3 t _ h, if_neg c0]
      by_cases c1 : w = 1
      · obtain ⟨t1, g1, d1⟩ := r93 c1 (cI t0 r) 0 t (by omega) h
        refine ⟨t1, ?_, by rw [if_pos c1]; exact d1⟩
        unfold M_show_b89
        rw [e4]
        exact g1
      · have c2 : w = 2 := by omega
        obtain ⟨t1, g1, d1⟩ := r131 c2 11 0 t (by omega) h
        refine ⟨t1, ?_, by rw [if_neg c1, if_pos c2]; exact d1⟩
        rw [k93 c1 t _ h]
        exact g1
end Dd
