/-! What was learned at an interface is lost: both sides. -/
section Lo2
variable {G H : Nat → Nat → Nat} {sa : Nat → Nat} {x r p l kc ks : Nat}
theorem lose_loop : ∀ (d j : Nat) (s : cS) (t : moS), j + d = cN t r → RR G H sa x s t → MV t → r < cR t → p < cI t r → ∀ Q : cS → Nat → Nat → Prop, (∀ t' s', M_link_b131 t (nI l) 0 (nI r) (nI (4 * r + p)) (nI (2700 * r + j)) = M_link_b191 t' (nI l) 0 (nI r) → RR G H sa x s' t' → MV t' → dR r t t' → s'.K = s.K → s'.P = s.P → fr [23, 26, 104] [] [] s s' → Q s' kc ks) → C_Rr_loseLearned_b2 sa (G 1 r) (some (G 2 (4 * r + p))) (nI j) s kc ks Q
  | 0, j, s, t, hd, hR, hM, hr, hp, Q, k => by
    intro P2 hc
    refine hc _ _ _ _ ?_
    have h6 := hM.nR
    have hn := hM.nRo hr
    have hq := hR.q.1
    have hT := hq.ty
    have k1 := (hq.rt hr).1.1
    have p186 := hT.p k1 186 27
    have i201 := (hq.tb hr).1.1
    have e105 : t.I 105 r = nI (cN t r) := (hM.r hr).2.2.2.2.2.2.2.2.2.2.2.2.1.n.1
    unfold C_Rr_loseLearned_s2
    refine ⟨_, gd_to (okr k1 9), _, p186.1, _, gd_to (okr p186.2 10), ?_⟩
    rw [show s.I (20 * 10 + 1) (H 186 (G 1 r)) = nI (cN t r) from i201]
    refine ifF (nI_nlt (by omega) (by omega)) (k t s ?_ hR hM dR.rf rfl rfl fr.rf)
    unfold M_link_b131
    refine lp_x ?_
    show M_link_s131 t (nI l) 0 (nI r) (nI (4 * r + p)) (nI (2700 * r + j)) = _
    unfold M_link_s131
    rw [rdI_n (n := 6) (hM.n.n 105 6) (by omega) (by decide), e105]
    simp only [Option.bind_some]
    rw [show (2700 : Int32) = nI 2700 from rfl, pk_mul, nI_add, if_neg (nI_nlt (by omega) (by omega))]
  | d + 1, j, s, t, hd, hR, hM, hr, hp, Q, k => by
    intro P2 hc
    refine hc _ _ _ _ ?_
    have h6 := hM.nR
    have h4 := hM.nIf hr
    have hn := hM.nRo hr
    have hj : j < cN t r := by omega
    have hq := hR.q.1
    have hT := hq.ty
    have k1 := (hq.rt hr).1.1
    have p186 := hT.p k1 186 27
    obtain ⟨b0, b1, b2⟩ := hq.tb hr
    obtain ⟨i201, c2, c3, w, cap, d1, d2, d3, d4, d5, d6, d7, d8⟩ := id b0
    obtain ⟨dq, ka⟩ := d6 j (by omega)
    have ka : (s.K (G 4 (2700 * r + j))).1 = 23 := ka
    have e105 : t.I 105 r = nI (cN t r) := (hM.r hr).2.2.2.2.2.2.2.2.2.2.2.2.1.n.1
    have hRW := b1 j hj
    have hm := (hM.r hr).w hj
    have i163 : s.I 163 (G 4 (2700 * r + j)) = t.I 110 (2700 * r + j) := hRW.2.1.1
    have p166 : s.P 166 (G 4 (2700 * r + j)) = ifp G (t.I 113 (2700 * r + j)) := hRW.2.2.1
    have es : M_link_s131 t (nI l) 0 (nI r) (nI (4 * r + p)) (nI (2700 * r + j)) = if t.I 110 (2700 * r + j) = 2 then (if t.I 113 (2700 * r + j) = nI (4 * r + p) then Option.bind (M_die t (nI r) (nI (2700 * r + j))) (fun s4 => some (.inl (nI (2700 * r + j + 1), s4))) else some (.inl (nI (2700 * r + j + 1), t))) else some (.inl (nI (2700 * r + j + 1), t)) := by
      unfold M_link_s131
      rw [rdI_n (n := 6) (hM.n.n 105 6) (by omega) (by decide), e105]
      simp only [Option.bind_some]
      rw [show (2700 : Int32) = nI 2700 from rfl, pk_mul, nI_add, if_pos (nI_lt (by omega) (by omega)), if_pos trivial, rdI_n (n := 16200) (hM.n.n 110 16200) (by omega) (by decide)]
      simp only [Option.bind_some]
      unfold M_link_b185
      by_cases c : t.I 110 (2700 * r + j) = 2
      · rw [if_pos c, if_pos c, rdI_n (n := 16200) (hM.n.n 113 16200) (by omega) (by decide)]
        simp only [Option.bind_some]
        rw [nI_1]
      · rw [if_neg c, if_neg c, nI_1]
    have ei : (some (G 2 (4 * r + p)) = ifp G (t.I 113 (2700 * r + j)) ↔ t.I 113 (2700 * r + j) = nI (4 * r + p)) := by
      unfold ifp
      rcases hm.2.2.2.2.2.1 with e | ⟨q', e, q1, q2⟩
      · rw [e, if_pos rfl]
        exact ⟨(fun z => by cases z), fun z => absurd z.symm (oI_n1 (4 * r + p) (by omega))⟩
      · rw [e, if_neg (show ¬ nI q' = -1 from oI_n1 q' (by omega)), nI_clamp (by omega)]
        constructor
        · intro z
          have := hq.2.1.2.2.1 r r p (q' - 4 * r) hr hr hp (by omega) (by rw [show 4 * r + (q' - 4 * r) = q' by omega]; exact Option.some.inj z)
          rw [show q' = 4 * r + p by omega]
        · intro z
          have := (nI_eq (by omega) (by omega)).mp z
          rw [this]
    have kp1 : M_link_s131 t (nI l) 0 (nI r) (nI (4 * r + p)) (nI (2700 * r + j)) = some (.inl (nI (2700 * r + j + 1), t)) → C_Rr_loseLearned_b44 sa (G 1 r) (some (G 2 (4 * r + p))) (nI j) s kc ks Q P2 := fun e => by
      unfold C_Rr_loseLearned_b44
      rw [nI_1]
      refine lose_loop d (j + 1) s t (by omega) hR hM hr hp Q (fun t' s' y1 y2 y3 y4 y5 y6 y7 => k t' s' ?_ y2 y3 y4 y5 y6 y7) P2 hc
      rw [← y1]
      unfold M_link_b131
      exact lp_l (f := fun x : Int32 × moS => M_link_s131 x.2 (nI l) 0 (nI r) (nI (4 * r + p)) x.1) e
    unfold C_Rr_loseLearned_s2
    refine ⟨_, gd_to (okr k1 9), _, p186.1, _, gd_to (okr p186.2 10), ?_⟩
    rw [show s.I (20 * 10 + 1) (H 186 (G 1 r)) = nI (cN t r) from i201]
    refine ifT (nI_lt hj (by omega)) ⟨_, gd_to (okr k1 9), _, p186.1, _, gd_to (okr p186.2 10), _, d1, _, gd_to ⟨by rw [d2]; exact (show 130 ≤ 135 by decide), by rw [d2]; exact (show 135 < 146 by decide), by rw [d2]; exact vp_in_nI (by omega) (by omega)⟩, ?_⟩
    rw [nI_clamp (by omega), dq]
    refine ⟨_, rfl, _, gd_to (okr ka 8), ?_⟩
    show if s.I 163 (G 4 (2700 * r + j)) = 2 then _ else _
    rw [i163]
    by_cases c : t.I 110 (2700 * r + j) = 2
    · rw [if_pos c] at es
      refine ifT c ⟨_, gd_to (okr ka 8), ?_⟩
      show if s.P 166 (G 4 (2700 * r + j)) = some (G 2 (4 * r + p)) then _ else _
      rw [p166]
      by_cases c2 : t.I 113 (2700 * r + j) = nI (4 * r + p)
      · rw [if_pos c2] at es
        obtain ⟨t1, a1, a2, a3, a4⟩ := c_dieL (kc := kc) (ks := ks) hR hM hr hj c
        rw [a1] at es
        simp only [Option.bind_some] at es
        refine ifT (ei.mpr c2).symm ⟨okr k1 9, a4 _ fun s1 R1 eK eP f1 => ?_⟩
        unfold C_Rr_loseLearned_b44
        rw [nI_1]
        have m1 := a3.1.1
        refine lose_loop d (j + 1) s1 t1 (by have : cN t1 r = cN t r := by unfold cN; rw [a3.2.2.1]
                                             omega) R1 a2 (by unfold cR; rw [m1.S 37 (by decide)]; exact hr) (by unfold cI; rw [m1.I 70 (by decide)]; exact hp) Q (fun t' s' y1 y2 y3 y4 y5 y6 y7 => k t' s' ?_ y2 y3 (a3.tr y4) (y5.trans eK) (y6.trans eP) (f1.tr y7)) P2 hc
        rw [← y1]
        unfold M_link_b131
        exact lp_l (f := fun x : Int32 × moS => M_link_s131 x.2 (nI l) 0 (nI r) (nI (4 * r + p)) x.1) es
      · rw [if_neg c2] at es
        exact ifF (fun z => c2 (ei.mp z.symm)) (kp1 es)
    · rw [if_neg c] at es
      exact ifF c (kp1 es)
end Lo2
