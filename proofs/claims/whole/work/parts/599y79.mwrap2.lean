/-! The model's wrap: with a key. -/
section Ws
variable {t0 t : moS} {n q b : Nat} {f : Nat → Int32} {V : chV} {E L y : List Int32} {v : kV} {cmd nn : Int32}
theorem kySe_y {g : Nat → Int32} (h : ∀ i, i < y.length → g i = y.getD i 0) : kySe y.length g = fun i => y.getD i 0 := by
  funext i
  unfold kySe
  by_cases c : i < y.length
  · rw [if_pos c]; exact h i c
  · rw [if_neg c, List.getD_eq_getElem?_getD, List.getElem?_eq_none (by omega)]; rfl
/-- the sum comes behind -/
theorem wf_S {S : Nat → Int32} {z : Nat} (h : WF [147, 148] t0 t n f) (hN : t0.N 160 = 20 ∧ t0.N 84 = 96) {x : Nat} (hx : x < 96) (hz : z ≤ 20) (hS : ∀ k, k < z → t0.I 160 k = S k) (hn : n + 4 + z ≤ 700) : ∃ t', WF [147, 148] t0 t' (n + if t0.I 84 x = 0 then 20 else 40) (cpF f (n + 4) (tl S z)) ∧ M_wrap_b382 t (nI x) (nI z) 0 = some (1, t') := by
  have lz : (tl S z).length = z := tl_len _ _
  have loop : ∀ k j, j + k = z → ∀ t1, WF [147, 148] t0 t1 n (cpF f (n + 4) (tl S j)) → ∃ t', WF [147, 148] t0 t' (n + if t0.I 84 x = 0 then 20 else 40) (cpF f (n + 4) (tl S z)) ∧ lp (fun y : Int32 × moS => M_wrap_s382 y.2 (nI x) (nI z) y.1) (nI j, t1) = some (1, t') := by
    intro k
    induction k with
    | zero =>
      intro j hj t1 w1
      have hj : j = z := by omega
      subst hj
      have n4 : t1.N 84 = 96 := (w1.1.2 84 (Or.inl (by decide))).trans hN.2
      refine ⟨_, wf_n w1, lp_x ?_⟩
      show M_wrap_s382 t1 (nI x) (nI j) (nI j) = _
      unfold M_wrap_s382
      rw [if_neg (nI_nlt (Nat.le_refl _) (by omega))]
      refine congrArg xo ?_
      refine (sr_I n4 hx (by decide)).trans ?_
      rw [w1.1.I 84 (by decide), w1.2.1]
      unfold M_wrap_b438
      by_cases c : t0.I 84 x = 0
      · rw [if_pos c, if_pos c, show nI n + 20 = nI (n + 20) from nI_add _ 20]; rfl
      · rw [if_neg c, if_neg c, show nI n + 40 = nI (n + 40) from nI_add _ 40]; rfl
    | succ k ih =>
      intro j hj t1 w1
      have n6 : t1.N 160 = 20 := (w1.1.2 160 (Or.inl (by decide))).trans hN.1
      obtain ⟨t2, e2, w2⟩ := wf_w (v := S j) w1 (show n + 4 + j < 700 by omega)
      have st : M_wrap_s382 t1 (nI x) (nI z) (nI j) = some (.inl (nI (j + 1), t2)) := by
        unfold M_wrap_s382
        rw [if_pos (nI_lt (by omega) (by omega)), nI_1]
        refine (sr_I n6 (by omega) (by decide)).trans ?_
        rw [w1.1.I 160 (by decide), hS j (by omega), w1.2.1, show nI n + 4 = nI (n + 4) from nI_add _ 4, nI_add, e2]
        rfl
      obtain ⟨t', w, e⟩ := ih (j + 1) (by omega) t2 (wf_e w2 fun i hi => by
        by_cases c : i = n + 4 + j
        · rw [c, upd_s, cpF_m (by rw [tl_len]; omega), tl_get (by omega)]
        · rw [upd_n c]
          by_cases c2 : n + 4 ≤ i ∧ i < n + 4 + j
          · have e := cpF_m (f := f) (p := n + 4) (E := tl S j) (i := i - (n + 4)) (by rw [tl_len]; omega)
            have e' := cpF_m (f := f) (p := n + 4) (E := tl S (j + 1)) (i := i - (n + 4)) (by rw [tl_len]; omega)
            rw [show n + 4 + (i - (n + 4)) = i by omega] at e e'
            rw [e, e', tl_get (by omega), tl_get (by omega)]
          · by_cases c3 : i < n + 4
            · rw [cpF_l c3, cpF_l c3]
            · rw [cpF_r (by rw [tl_len]; omega), cpF_r (by rw [tl_len]; omega)])
      refine ⟨t', w, ?_⟩
      rw [lp_l (show (fun y : Int32 × moS => M_wrap_s382 y.2 (nI x) (nI z) y.1) (nI j, t1) = _ from st)]
      exact e
  obtain ⟨t', w, e⟩ := loop z 0 (by omega) t (wf_e h fun i hi => by
    by_cases c3 : i < n + 4
    · rw [cpF_l c3]
    · rw [cpF_r (by rw [tl_len]; omega)])
  exact ⟨t', w, e⟩
/-- the row with the sum -/
theorem kr_se (S : List Int32) {z : Nat} {sha : Int32} {i : Nat} (hS : S.length = szN sha) (hi : i < (krL cmd v nn E ++ (S ++ (if sha = 0 then [] else List.replicate 16 0))).length) : cpF (kF3 (kF2 (cpF (kF1 cmd) 24 E) v nn (24 + E.length)) (24 + E.length)) (24 + E.length + 4) S i = (krL cmd v nn E ++ (S ++ (if sha = 0 then [] else List.replicate 16 0))).getD i 0 := by
  rw [List.length_append, krL_l, List.length_append] at hi
  by_cases c1 : i < 28 + E.length
  · rw [cpF_l (by omega), krL_g c1, gd_l (by rw [krL_l]; exact c1)]
  rw [gd_r (by rw [krL_l]; omega), krL_l]
  by_cases c2 : i < 28 + E.length + S.length
  · have e := cpF_m (f := kF3 (kF2 (cpF (kF1 cmd) 24 E) v nn (24 + E.length)) (24 + E.length)) (p := 24 + E.length + 4) (E := S) (i := i - (28 + E.length)) (by omega)
    rw [show 24 + E.length + 4 + (i - (28 + E.length)) = i by omega] at e
    rw [e, gd_l (by omega)]
  · rw [cpF_r (by omega), gd_r (by omega), kF3_n (by omega), kF2_n (by omega), cpF_r (by omega)]
    by_cases c : sha = 0
    · rw [if_pos c] at hi
      simp only [List.length_nil] at hi
      omega
    · rw [if_neg c]
      rw [if_neg c, List.length_replicate] at hi
      have e1 : kF1 cmd i = 0 := by
        unfold kF1
        rw [p2F_n (by omega), p2F_n (by omega), upd_n (by omega), upd_n (by omega)]
      rw [e1, List.getD_eq_getElem?_getD]
      by_cases c4 : i - (28 + E.length) - S.length < 16
      · rw [List.getElem?_replicate_of_lt c4]; rfl
      · rw [List.getElem?_eq_none (by rw [List.length_replicate]; omega)]; rfl
end Ws
