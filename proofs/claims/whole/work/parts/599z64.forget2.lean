/-! Changes are forgotten: the loop, both sides. -/
section Fh
variable {G H : Nat → Nat → Nat} {sa : Nat → Nat} {x r kc ks : Nat}
/-- the trigger of a router -/
theorem rr_44 {s : cS} {t : moS} {v : Int32} (h : RR G H sa x s t) (hM : MV t) (hr : r < cR t) : RR G H sa x (cSI s 198 (G 1 r) v) (moSI t 44 r v) ∧ MV (moSI t 44 r v) ∧ rwT r t (moSI t 44 r v) ∧ fr [26] [] [] s (cSI s 198 (G 1 r) v) := by
  have hq := h.q.1
  have hT := hq.ty
  have hx := hq.1.1
  have k1 := (hq.rt hr).1.1
  have m : mfr [44] t (moSI t 44 r v) := mfr.si (by decide)
  have f : fr [26] [] [] s (cSI s 198 (G 1 r) v) := fr.si (by rw [k1]; decide)
  have hg : RGl G H sa x (cSI s 198 (G 1 r) v) := hq.1.v rfl rfl f rfl rfl rfl
  have ht := hg.2.2.1
  have oI : ∀ g b, ¬ (g = 198 ∧ b = G 1 r) → (cSI s 198 (G 1 r) v).I g b = s.I g b := fun g b hn => by
    rw [evI, if_neg hn]
  have e44 : ∀ i, (moSI t 44 r v).I 44 i = if i = r then v else t.I 44 i := fun i => by rw [moSI_s]; rfl
  refine ⟨rr_tb h hM (fun _ _ => rfl) hg (hq.2.1.fr m rfl) (f.wk (by decide) (by decide) (by decide)) (m.wk (by decide)) (fun r' hr' => ⟨oI _ _ (by omega), oI _ _ (by omega)⟩) (fun r' hr' => ?_), hM.tb (m.wk (by decide)) (fun r' hr' => (hM.r hr').fr m rfl) (fun r' h1 h2 => ?_), ⟨m.wk (by decide), fun j hj => by rw [e44, if_neg hj], fun j _ => by rw [m.I 45 (by decide)], fun j _ => by rw [m.I 105 (by decide)], fun g hg j _ => by rw [m.I g (by revert hg; revert g; decide)], fun g hg j _ => by rw [m.J g (by revert hg; revert g; decide)]⟩, f⟩
  · obtain ⟨i1, i2, i3, -⟩ := hq.2.2.2.2.2.1 r' hr'
    refine ⟨?_, i2.fr hT i1.1.1 f (oI _ _ (by omega)) m rfl rfl rfl rfl, i3.fr hT i1.1.1 f m rfl rfl rfl rfl⟩
    obtain ⟨⟨y1, y2, y3⟩, ⟨nm', y4, y5, y6⟩, ⟨u1, u2, u3, u4, u5⟩, y8, y9⟩ := i1
    refine ⟨⟨y1, y2, y3⟩, ⟨nm', y4, y5.fr f (by decide) (by decide) (by decide) ht, y6⟩, ⟨(oI _ _ (by omega)).trans u1, (oI _ _ (by omega)).trans (by rw [m.I 39 (by decide)]; exact u2), (oI _ _ (by omega)).trans (by rw [m.I 70 (by decide)]; exact u3), (oI _ _ (by omega)).trans (by rw [m.I 43 (by decide)]; exact u4), ?_⟩, by rw [m.I 40 (by decide), m.I 41 (by decide), m.I 42 (by decide)]; exact y8, by rw [m.I 45 (by decide)]; exact y9⟩
    rw [e44]
    by_cases c : r' = r
    · rw [if_pos c, c, cSI_s]
    · rw [if_neg c, oI _ _ (fun z => c (hq.2.1.2.1 r' r hr' hr z.2))]
      exact u5
  · obtain ⟨⟨w1, -, -, -, -, -, w7⟩, w8⟩ := hM.2.2.2.2.2.2.2.1 r' h1 h2
    rw [m.I 46 (by decide), m.I 105 (by decide), m.I 45 (by decide)]
    exact ⟨w1, w7, w8⟩
theorem fg_loop : ∀ (d j : Nat) (s : cS) (t : moS), j + d = cN t r → RR G H sa x s t → MV t → r < cR t → ∀ Q : cS → Nat → Nat → Prop, (∀ t' s', M_forget_b6 t (nI r) (nI (2700 * r + j)) = some t' → RR G H sa x s' t' → MV t' → fR r t t' → s'.K = s.K → s'.P = s.P → fr [23, 26] [] [] s s' → Q s' kc ks) → C_Rr_forgetChanges_b2 sa (G 1 r) (nI j) s kc ks Q
  | 0, j, s, t, hd, hR, hM, hr, Q, k => by
    intro P2 hc
    refine hc _ _ _ _ ?_
    have h6 := hM.nR
    have hn := hM.nRo hr
    have hq := hR.q.1
    have hT := hq.ty
    have k1 := (hq.rt hr).1.1
    have p186 := hT.p k1 186 27
    have i201 := (hq.tb hr).1.1
    have e105 : t.I 105 r = nI (cN t r) := (hM.r hr).2.2.2.2.2.2.2.2.2.2.2.2.1.n.1
    obtain ⟨R1, M1, w1, f1⟩ := rr_44 (v := -1) hR hM hr
    have m : mfr [44] t (moSI t 44 r (-1)) := mfr.si (by decide)
    unfold C_Rr_forgetChanges_s2
    refine ⟨_, gd_to (okr k1 9), _, p186.1, _, gd_to (okr p186.2 10), ?_⟩
    rw [show s.I (20 * 10 + 1) (H 186 (G 1 r)) = nI (cN t r) from i201]
    refine ifF (nI_nlt (by omega) (by omega)) ⟨_, gd_to (okr k1 9), k _ _ ?_ R1 M1 ⟨w1, rfl, m.I 105 (by decide), fun g hg hz => m.I g (by clear hz; revert hg; revert g; decide)⟩ rfl rfl (f1.wk (by decide) (by decide) (by decide))⟩
    unfold M_forget_b6
    refine lp_x ?_
    show M_forget_s6 t (nI r) (nI (2700 * r + j)) = _
    unfold M_forget_s6
    rw [rdI_n (n := 6) (hM.n.n 105 6) (by omega) (by decide), e105]
    simp only [Option.bind_some]
    rw [show (2700 : Int32) = nI 2700 from rfl, pk_mul, nI_add, if_neg (nI_nlt (by omega) (by omega)), wrI_n (n := 6) (hM.n.n 44 6) (by omega) (by decide)]
    rfl
  | d + 1, j, s, t, hd, hR, hM, hr, Q, k => by
    intro P2 hc
    refine hc _ _ _ _ ?_
    have h6 := hM.nR
    have hn := hM.nRo hr
    have hj : j < cN t r := by omega
    have hq := hR.q.1
    have hT := hq.ty
    have k1 := (hq.rt hr).1.1
    have p186 := hT.p k1 186 27
    obtain ⟨b0, b1, b2⟩ := hq.tb hr
    obtain ⟨i201, c2, c3, w, cap, d1, d2, d3, d4, d5, d6, d7, d8⟩ := id b0
    obtain ⟨dq, ka⟩ := d6 j (by omega)
    have ka : (s.K (G 4 (2700 * r + j))).1 = 23 := ka
    have e105 : t.I 105 r = nI (cN t r) := (hM.r hr).2.2.2.2.2.2.2.2.2.2.2.2.1.n.1
    obtain ⟨R1, M1, w1⟩ := rr_119 hR hM hr hj rfl rfl
    have es : M_forget_s6 t (nI r) (nI (2700 * r + j)) = some (.inl (nI (2700 * r + j + 1), moSI t 119 (2700 * r + j) 0)) := by
      unfold M_forget_s6
      rw [rdI_n (n := 6) (hM.n.n 105 6) (by omega) (by decide), e105]
      simp only [Option.bind_some]
      rw [show (2700 : Int32) = nI 2700 from rfl, pk_mul, nI_add, if_pos (nI_lt (by omega) (by omega)), wrZ_n (n := 16200) (hM.n.n 119 16200) (by omega) (by decide)]
      simp only [Option.bind_some]
      rw [nI_1]
      rfl
    unfold C_Rr_forgetChanges_s2
    refine ⟨_, gd_to (okr k1 9), _, p186.1, _, gd_to (okr p186.2 10), ?_⟩
    rw [show s.I (20 * 10 + 1) (H 186 (G 1 r)) = nI (cN t r) from i201]
    refine ifT (nI_lt hj (by omega)) ⟨_, gd_to (okr k1 9), _, p186.1, _, gd_to (okr p186.2 10), _, d1, _, gd_to ⟨by rw [d2]; exact (show 130 ≤ 135 by decide), by rw [d2]; exact (show 135 < 146 by decide), by rw [d2]; exact vp_in_nI (by omega) (by omega)⟩, ?_⟩
    rw [nI_clamp (by omega), dq]
    refine ⟨_, rfl, _, gd_to ⟨okr ka 8, Or.inl rfl⟩, ?_⟩
    rw [nI_1]
    have f1 : fr [23, 26] [] [] s (cSI s 167 (G 4 (2700 * r + j)) 0) := fr.si (by rw [ka]; decide)
    have n1 : cN (moSI t 119 (2700 * r + j) 0) r = cN t r := by unfold cN; rw [w1.2.2.1]
    refine fg_loop d (j + 1) (cSI s 167 (G 4 (2700 * r + j)) 0) (moSI t 119 (2700 * r + j) 0) (by omega) R1 M1 hr Q (fun t' s' y1 y2 y3 y4 y5 y6 y7 => k t' s' ?_ y2 y3 (w1.tr y4) y5 y6 (f1.tr y7)) P2 hc
    rw [← y1]
    unfold M_forget_b6
    exact lp_l (f := fun x : Int32 × moS => M_forget_s6 x.2 (nI r) x.1) es
/-- forgetChanges -/
theorem c_forget {s : cS} {t : moS} {Os : Nat → List Pf} (hR : RR G H sa x s t) (hM : MV t) (hE : EX Os t) (hr : r < cR t) (Q : cS → Nat → Nat → Prop) (k : ∀ t' s', M_forget t (nI r) = some t' → RR G H sa x s' t' → MV t' → EX Os t' → rwT r t t' → s'.K = s.K → s'.P = s.P → fr [23, 26] [] [] s s' → Q s' kc ks) : C_Rr_forgetChanges sa (G 1 r) s kc ks Q := by
  unfold C_Rr_forgetChanges
  refine fg_loop (cN t r) 0 s t (by omega) hR hM hr Q fun t' s' y1 y2 y3 y4 y5 y6 y7 => k t' s' ?_ y2 y3 (fun r' hr' => ?_) y4.1 y5 y6 y7
  · unfold M_forget
    rw [show (2700 : Int32) * nI r = nI (2700 * r + 0) by rw [show (2700 : Int32) = nI 2700 from rfl, pk_mul]; rfl]
    exact y1
  · have hr0 : r' < cR t := by unfold cR at hr' ⊢; rw [y4.1.1.S 37 (by decide)] at hr'; exact hr'
    by_cases c : r' = r
    · subst c
      exact (hE r' hr0).fg y4 hM y3 hr0 hr'
    · exact (hE r' hr0).rw hM y3 hr0 y4.1 c
end Fh
