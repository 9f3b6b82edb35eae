/-! sha's blocks in the model. -/
section Sh
variable {t : moS}
theorem sh_step (hN : t.N 158 = 80) {i : Nat} (hi : i < 80) (a b c d e : Int32) : M_shaBlock_s172 t a b c d e (nI i) = some (.inl ((shS (t.I 158) i (a, b, c, d, e)).1, (shS (t.I 158) i (a, b, c, d, e)).2.1, (shS (t.I 158) i (a, b, c, d, e)).2.2.1, (shS (t.I 158) i (a, b, c, d, e)).2.2.2.1, (shS (t.I 158) i (a, b, c, d, e)).2.2.2.2, nI (i + 1), t)) := by
  have rd : rdI t 158 (nI i) = some (t.I 158 i) := rdI_n hN hi (by decide)
  unfold M_shaBlock_s172 shS shaF shaK
  rw [if_pos (show nI i < 80 from nI_lt (b := 80) hi (by decide))]
  by_cases c1 : i < 20
  · have z : nI i < 20 := nI_lt (b := 20) c1 (by decide)
    rw [if_pos z, if_pos c1, if_pos c1]
    unfold M_shaBlock_b249 M_shaBlock_b293
    rw [if_pos z, rd, nI_1]
    rfl
  have z1 : ¬ nI i < 20 := nI_nlt (b := 20) (by omega) (by omega)
  rw [if_neg z1, if_neg c1, if_neg c1]
  by_cases c2 : i < 40
  · have z : nI i < 40 := nI_lt (b := 40) c2 (by decide)
    rw [if_pos z, if_pos c2, if_pos c2]
    unfold M_shaBlock_b249 M_shaBlock_b293
    rw [if_neg z1, if_pos z, rd, nI_1]
    rfl
  have z2 : ¬ nI i < 40 := nI_nlt (b := 40) (by omega) (by omega)
  rw [if_neg z2, if_neg c2, if_neg c2]
  by_cases c3 : i < 60
  · have z : nI i < 60 := nI_lt (b := 60) c3 (by decide)
    rw [if_pos z, if_pos c3, if_pos c3]
    unfold M_shaBlock_b249 M_shaBlock_b293
    rw [if_neg z1, if_neg z2, if_pos z, rd, nI_1]
    rfl
  · have z3 : ¬ nI i < 60 := nI_nlt (b := 60) (by omega) (by omega)
    rw [if_neg z3, if_neg c3, if_neg c3]
    unfold M_shaBlock_b249 M_shaBlock_b293
    rw [if_neg z1, if_neg z2, if_neg z3, rd, nI_1]
    rfl
theorem m_shaB {B : Nat → Int32} {a : Nat} (h7 : t.N 157 = 832) (h8 : t.N 158 = 80) (h9 : t.N 159 = 5) (ha : a + 64 ≤ 832) (hB : ∀ i, a ≤ i → i < a + 64 → t.I 157 i = B i) : ∃ t', M_shaBlock t (nI a) = some t' ∧ mfr [158, 159] t t' ∧ mst t' = shB (wX B a 64) (mst t) := by
  -- the last part
  have last : ∀ t1, mfr [158] t t1 → (∀ i, i < 80 → t1.I 158 i = wX B a 64 i) → ∃ t', M_shaBlock_b172 t1 (t1.I 159 0) (t1.I 159 1) (t1.I 159 2) (t1.I 159 3) (t1.I 159 4) 0 = some t' ∧ mfr [158, 159] t t' ∧ mst t' = shB (wX B a 64) (mst t) := by
    intro t1 m1 hw
    have n8 : t1.N 158 = 80 := (m1.2 158 (Or.inr (by decide))).trans h8
    have n9 : t1.N 159 = 5 := (m1.2 159 (Or.inr (by decide))).trans h9
    have e9 : t1.I 159 = t.I 159 := m1.I 159 (by decide)
    have inn : ∀ n i (q : q5), i + n = 80 → lp (fun x : Int32 × Int32 × Int32 × Int32 × Int32 × Int32 × moS => M_shaBlock_s172 x.2.2.2.2.2.2 x.1 x.2.1 x.2.2.1 x.2.2.2.1 x.2.2.2.2.1 x.2.2.2.2.2.1) (q.1, q.2.1, q.2.2.1, q.2.2.2.1, q.2.2.2.2, nI i, t1) = lp (fun x : Int32 × Int32 × Int32 × Int32 × Int32 × Int32 × moS => M_shaBlock_s172 x.2.2.2.2.2.2 x.1 x.2.1 x.2.2.1 x.2.2.2.1 x.2.2.2.2.1 x.2.2.2.2.2.1) ((shN (t1.I 158) n i q).1, (shN (t1.I 158) n i q).2.1, (shN (t1.I 158) n i q).2.2.1, (shN (t1.I 158) n i q).2.2.2.1, (shN (t1.I 158) n i q).2.2.2.2, nI 80, t1) := by
      intro n
      induction n with
      | zero =>
        intro i q hi
        have : i = 80 := by omega
        rw [this]
        rfl
      | succ n ih =>
        intro i q hi
        rw [lp_l (sh_step n8 (show i < 80 by omega) q.1 q.2.1 q.2.2.1 q.2.2.2.1 q.2.2.2.2)]
        exact ih (i + 1) (shS (t1.I 158) i q) (by omega)
    unfold M_shaBlock_b172
    rw [show (0 : Int32) = nI 0 from rfl, inn 80 0 (t1.I 159 0, t1.I 159 1, t1.I 159 2, t1.I 159 3, t1.I 159 4) rfl]
    generalize hq : shN (t1.I 158) 80 0 (t1.I 159 0, t1.I 159 1, t1.I 159 2, t1.I 159 3, t1.I 159 4) = q
    have en : M_shaBlock_s172 t1 q.1 q.2.1 q.2.2.1 q.2.2.2.1 q.2.2.2.2 (nI 80) = xo (some (moSI (moSI (moSI (moSI (moSI t1 159 0 (t1.I 159 0 + q.1)) 159 1 (t1.I 159 1 + q.2.1)) 159 2 (t1.I 159 2 + q.2.2.1)) 159 3 (t1.I 159 3 + q.2.2.2.1)) 159 4 (t1.I 159 4 + q.2.2.2.2))) := by
      unfold M_shaBlock_s172
      rw [if_neg (by decide)]
      refine congrArg xo ?_
      refine (sr_I (i := 0) n9 (by decide) (by decide)).trans ?_
      refine (sw_I (i := 0) n9 (by decide) (by decide)).trans ?_
      refine (sr_I (i := 1) (n := 5) (by exact n9) (by decide) (by decide)).trans ?_
      refine (sw_I (i := 1) (n := 5) (by exact n9) (by decide) (by decide)).trans ?_
      refine (sr_I (i := 2) (n := 5) (by exact n9) (by decide) (by decide)).trans ?_
      refine (sw_I (i := 2) (n := 5) (by exact n9) (by decide) (by decide)).trans ?_
      refine (sr_I (i := 3) (n := 5) (by exact n9) (by decide) (by decide)).trans ?_
      refine (sw_I (i := 3) (n := 5) (by exact n9) (by decide) (by decide)).trans ?_
      refine (sr_I (i := 4) (n := 5) (by exact n9) (by decide) (by decide)).trans ?_
      exact (sw_I (i := 4) (n := 5) (by exact n9) (by decide) (by decide)).trans rfl
    rw [lp_x (show (fun x : Int32 × Int32 × Int32 × Int32 × Int32 × Int32 × moS => M_shaBlock_s172 x.2.2.2.2.2.2 x.1 x.2.1 x.2.2.1 x.2.2.2.1 x.2.2.2.2.1 x.2.2.2.2.2.1) (q.1, q.2.1, q.2.2.1, q.2.2.2.1, q.2.2.2.2, nI 80, t1) = _ from en)]
    refine ⟨_, rfl, (((((m1.wk (by decide)).tr (mfr.si (by decide))).tr (mfr.si (by decide))).tr (mfr.si (by decide))).tr (mfr.si (by decide))).tr (mfr.si (by decide)), ?_⟩
    have eq : q = shN (wX B a 64) 80 0 (t.I 159 0, t.I 159 1, t.I 159 2, t.I 159 3, t.I 159 4) := by rw [← hq, e9]; exact shN_e (fun j hj => hw j hj) 80 0 _ (by omega)
    unfold shB mst
    rw [← eq, ← e9]
    rfl
  -- the words behind the sixteenth
  have mid : ∀ k n, n + k = 64 → ∀ t1, mfr [158] t t1 → (∀ i, i < 16 + n → t1.I 158 i = wX B a n i) → ∃ t', lp (fun x : Int32 × moS => M_shaBlock_s71 x.2 x.1) (nI (16 + n), t1) = some t' ∧ mfr [158, 159] t t' ∧ mst t' = shB (wX B a 64) (mst t) := by
    intro k
    induction k with
    | zero =>
      intro n hn t1 m1 hw
      have hn : n = 64 := by omega
      subst hn
      have n9 : t1.N 159 = 5 := (m1.2 159 (Or.inr (by decide))).trans h9
      have st : M_shaBlock_s71 t1 (nI (16 + 64)) = xo (M_shaBlock_b172 t1 (t1.I 159 0) (t1.I 159 1) (t1.I 159 2) (t1.I 159 3) (t1.I 159 4) 0) := by
        unfold M_shaBlock_s71
        rw [if_neg (by decide)]
        refine congrArg xo ?_
        refine (sr_I (i := 0) n9 (by decide) (by decide)).trans ?_
        refine (sr_I (i := 1) n9 (by decide) (by decide)).trans ?_
        refine (sr_I (i := 2) n9 (by decide) (by decide)).trans ?_
        refine (sr_I (i := 3) n9 (by decide) (by decide)).trans ?_
        exact (sr_I (i := 4) n9 (by decide) (by decide)).trans rfl
      rw [lp_x (show (fun x : Int32 × moS => M_shaBlock_s71 x.2 x.1) (nI (16 + 64), t1) = _ from st)]
      exact last t1 m1 hw
    | succ k ih =>
      intro n hn t1 m1 hw
      have n8 : t1.N 158 = 80 := (m1.2 158 (Or.inr (by decide))).trans h8
      have sub : ∀ b, b ≤ 16 → nI (16 + n) - nI b = nI (16 + n - b) := fun b hb => by
        rw [show nI (16 + n) = nI (16 + n - b) + nI b by rw [nI_add]; congr 1; omega, Int32.add_sub_cancel]
      have st : M_shaBlock_s71 t1 (nI (16 + n)) = some (.inl (nI (16 + (n + 1)), moSI t1 158 (16 + n) (M_turned (((wX B a n (16 + n - 3) ^^^ wX B a n (16 + n - 8)) ^^^ wX B a n (16 + n - 14)) ^^^ wX B a n (16 + n - 16)) 1))) := by
        unfold M_shaBlock_s71
        rw [if_pos (show nI (16 + n) < 80 from nI_lt (b := 80) (by omega) (by decide)), show nI (16 + n) - 3 = nI (16 + n - 3) from sub 3 (by decide), show nI (16 + n) - 8 = nI (16 + n - 8) from sub 8 (by decide), show nI (16 + n) - 14 = nI (16 + n - 14) from sub 14 (by decide), show nI (16 + n) - 16 = nI (16 + n - 16) from sub 16 (by decide), nI_1]
        refine (sr_I n8 (by omega) (by decide)).trans ?_
        refine (sr_I n8 (by omega) (by decide)).trans ?_
        refine (sr_I n8 (by omega) (by decide)).trans ?_
        refine (sr_I n8 (by omega) (by decide)).trans ?_
        rw [hw _ (by omega), hw _ (by omega), hw _ (by omega), hw _ (by omega)]
        exact (sw_I n8 (by omega) (by decide)).trans rfl
      rw [lp_l (show (fun x : Int32 × moS => M_shaBlock_s71 x.2 x.1) (nI (16 + n), t1) = _ from st)]
      refine ih (n + 1) (by omega) _ (m1.tr (mfr.si (by decide))) fun i hi => ?_
      rw [moSI_s]
      show _ = upd (wX B a n) (16 + n) _ i
      by_cases c : i = 16 + n
      · rw [c, upd_s, upd_s]
      · rw [upd_n c, upd_n c]; exact hw i (by omega)
  unfold M_shaBlock M_shaBlock_b2
  have loop : ∀ n j, j + n = 16 → ∀ t1, mfr [158] t t1 → (∀ i, i < j → t1.I 158 i = wH B a i) → ∃ t', lp (fun x : Int32 × moS => M_shaBlock_s2 x.2 (nI a) x.1) (nI j, t1) = some t' ∧ mfr [158, 159] t t' ∧ mst t' = shB (wX B a 64) (mst t) := by
    intro n
    induction n with
    | zero =>
      intro j hj t1 m1 hw
      have hj : j = 16 := by omega
      subst hj
      have st : M_shaBlock_s2 t1 (nI a) (nI 16) = xo (M_shaBlock_b71 t1 16) := by
        unfold M_shaBlock_s2
        rw [if_neg (by decide)]
      rw [lp_x (show (fun x : Int32 × moS => M_shaBlock_s2 x.2 (nI a) x.1) (nI 16, t1) = _ from st)]
      exact mid 64 0 rfl t1 m1 hw
    | succ n ih =>
      intro j hj t1 m1 hw
      have n7 : t1.N 157 = 832 := (m1.2 157 (Or.inr (by decide))).trans h7
      have n8 : t1.N 158 = 80 := (m1.2 158 (Or.inr (by decide))).trans h8
      have e7 : t1.I 157 = t.I 157 := m1.I 157 (by decide)
      have st : M_shaBlock_s2 t1 (nI a) (nI j) = some (.inl (nI (j + 1), moSI t1 158 j (wH B a j))) := by
        unfold M_shaBlock_s2
        have ea : nI a + 4 * nI j = nI (a + 4 * j) := by rw [show (4 : Int32) = nI 4 from rfl, pk_mul, nI_add]
        rw [if_pos (show nI j < 16 from nI_lt (b := 16) (by omega) (by decide)), ea, show nI (a + 4 * j) + 2 = nI (a + 4 * j + 2) from nI_add _ 2, show nI (a + 4 * j) + 3 = nI (a + 4 * j + 3) from nI_add _ 3, nI_1, nI_1]
        refine (sr_I n7 (by omega) (by decide)).trans ?_
        refine (sr_I n7 (by omega) (by decide)).trans ?_
        refine (sr_I n7 (by omega) (by decide)).trans ?_
        refine (sr_I n7 (by omega) (by decide)).trans ?_
        rw [e7, hB _ (by omega) (by omega), hB _ (by omega) (by omega), hB _ (by omega) (by omega), hB _ (by omega) (by omega)]
        exact (sw_I n8 (by omega) (by decide)).trans rfl
      rw [lp_l (show (fun x : Int32 × moS => M_shaBlock_s2 x.2 (nI a) x.1) (nI j, t1) = _ from st)]
      refine ih (j + 1) (by omega) _ (m1.tr (mfr.si (by decide))) fun i hi => ?_
      rw [moSI_s]
      by_cases c : i = j
      · rw [c, upd_s]
      · rw [upd_n c]; exact hw i (by omega)
  exact loop 16 0 rfl t mfr.rf (fun i hi => absurd hi (Nat.not_lt_zero i))
end Sh
