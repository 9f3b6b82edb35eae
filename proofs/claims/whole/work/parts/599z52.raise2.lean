/-! A link is raised: all routers at it settle, then ask. -/
theorem ar_9 {p a b c z : Nat} (h : p + 2 * a + 622 * b + 792 * c ≤ z) : p ≤ z := by omega
section Rb
variable {sa : Nat → Nat} {x l : Nat}
theorem sEl.rw {r i : Nat} {t0 t t2 : moS} (c : sEl l r t0 t) (w : rwT i t t2) (hne : r ≠ i) (h27 : cN t0 r ≤ 2700) : sEl l r t0 t2 := by
  obtain ⟨m, -, -, m5, mI, mJ⟩ := w
  obtain ⟨⟨e1, e2, e3⟩, s1, s2, s3, s4, s5⟩ := c
  refine ⟨⟨?_, ?_, ?_⟩, fun k hk => ?_, fun p hp => ?_, fun y hy => ?_, fun g hg j hj => ?_, fun g hg j hj => ?_⟩
  · unfold cSt at e1 ⊢; rw [m.I 46 (by decide)]; exact e1
  · unfold cI at e2 ⊢; rw [m.I 70 (by decide)]; exact e2
  · unfold cN at e3 ⊢; rw [m5 r hne]; exact e3
  · rw [m.I 47 (by decide), m.J 48 (by decide), m.J 49 (by decide), m.I 50 (by decide), m.I 51 (by decide), m.I 52 (by decide)]
    exact s1 k hk
  · rw [m.I 71 (by decide), m.I 72 (by decide), m.I 22 (by decide)]
    exact s2 p hp
  · have := s3 y hy
    unfold eqA at this ⊢
    rw [m.I 75 (by decide), m.J 76 (by decide), m.J 77 (by decide), m.I 78 (by decide)]
    exact this
  · rw [mI g hg _ (by omega)]; exact s4 g hg j hj
  · rw [mJ g hg _ (by omega)]; exact s5 g hg j hj
theorem SetR.gk {G H : Nat → Nat → Nat} {s : cS} {t t' : moS} {r kc ks : Nat} {Q : cS → Nat → Nat → Prop} (hR : RR G H sa x s t) (hM : MV t) (hr : r < cR t) (w : rwT r t t') (k : GK sa x G H s t kc ks t' Q) : SetR G H sa x s t r t' kc ks Q := by
  intro G2 H2 s2 kc2 ks2 R2 a1 a2 a3 a4 a5 a6 a7
  obtain ⟨b1, b2⟩ := pot_set (kc := kc) (kc' := kc2) (ks := ks) (ks' := ks2) hR hM hr w.1 a1 a2 a3 a4 a5 a6 a7
  exact k G2 H2 s2 kc2 ks2 R2 ⟨a1 0 (by decide) (by decide), a1 1 (by decide) (by decide), a1 2 (by decide) (by decide)⟩ a3 (a4.wk (by decide) (by decide) (by decide)) b1 b2
abbrev Wrb : List Nat := Wrow ++ Wra
theorem ra_set {Os : Nat → List Pf} {t0 : moS} (hM0 : MV t0) (hE0 : EX Os t0) (hO : ∀ r, (Os r).length ≤ 760) : ∀ (k i : Nat) (G H : Nat → Nat → Nat) (s : cS) (t : moS) (kc ks : Nat), i + k = cR t → cR t = cR t0 → RR G H sa x s t → MV t → (∀ r, r < i → EXr (Os r) t r) → (∀ r, i ≤ r → r < cR t → sEl l r t0 t) → t.I 39 = t0.I 39 → l < cL t → (∀ j, j < 10 → ∃ d, t.I 23 j = nI d ∧ d + 13 < 2 ^ 31) → PoC s G H t ≤ kc → PoS s G H t ≤ ks → ∀ Q : cS → Nat → Nat → Prop, (∀ t', M_link_b82 t (nI l) 1 (nI i) = some (1, t') → MV t' → EX Os t' → mfr Wrb t t' → (∀ j, ∃ d, d ≤ 12 ∧ t'.I 23 j = t.I 23 j + nI d) → GK sa x G H s t kc ks t' Q) → C_Rf_raise_b2 sa x (some (G 0 l)) (nI i) s kc ks Q
  | 0, i, G, H, s, t, kc, ks, hi, hc0, hR, hM, hlo, hhi, h39, hl, hs, hkc, hks, Q, k => by
    intro P2 hc
    refine hc _ _ _ _ ?_
    have h6 := hM.nR
    have hq := hR.q.1
    have e37 : t.S 37 = nI (cR t) := hM.1.2.2.2.2.2.2.2.n.1
    have hE : EX Os t := fun r hr => hlo r (by omega)
    have em : M_link_b82 t (nI l) 1 (nI i) = M_link_b206 t (nI l) 1 (nI 0) := by
      unfold M_link_b82
      refine lp_x ?_
      show M_link_s82 t (nI l) 1 (nI i) = _
      unfold M_link_s82
      rw [e37, if_neg (nI_nlt (by omega) (by omega))]
      rfl
    unfold C_Rf_raise_s2
    refine ⟨_, gd_to (okr hq.1.1 11), ?_⟩
    rw [show s.I (20 * 11 + 9) x = nI (cR t) from hq.2.2.1.2.2.2.1.trans e37]
    refine ifF (nI_nlt (by omega) (by omega)) ?_
    refine ra_ask (B := 0) (cR t) 0 G H s t kc ks (by omega) hR hM hE hl (fun j hj => ?_) hkc hks Q (fun t' y1 y2 y3 y4 y5 => k t' (em.trans y1) y2 y3 (y4.wk (by decide)) (fun j => ?_))
    · obtain ⟨d, d1, d2⟩ := hs j hj
      exact ⟨d, d1, by omega⟩
    · obtain ⟨d, d1, d2⟩ := y5 j
      exact ⟨d, by omega, d2⟩
  | k' + 1, i, G, H, s, t, kc, ks, hi, hc0, hR, hM, hlo, hhi, h39, hl, hs, hkc, hks, Q, k => by
    intro P2 hc
    refine hc _ _ _ _ ?_
    have h6 := hM.nR
    have h10 : cL t ≤ 10 := hM.1.2.2.2.2.2.1.n.2.2
    have hq := hR.q.1
    have hir : i < cR t := by omega
    have hir0 : i < cR t0 := by omega
    have h4 := hM.nIf hir
    have hel := hhi i (Nat.le_refl _) hir
    have e37 : t.S 37 = nI (cR t) := hM.1.2.2.2.2.2.2.2.n.1
    have r39 : rdI t 39 (nI i) = some (t.I 39 i) := rdI_n (n := 6) (hM.n.n 39 6) (by omega) (by decide)
    have eI : cI t i = cI t0 i := hel.1.2.1
    unfold C_Rf_raise_s2
    refine ⟨_, gd_to (okr hq.1.1 11), ?_⟩
    rw [show s.I (20 * 11 + 9) x = nI (cR t) from hq.2.2.1.2.2.2.1.trans e37]
    refine ifT (nI_lt hir (by omega)) (w_rts hq hM hir ⟨okr (hq.rt hir).1.1 9, w_portOn hq hM hir hl ?_⟩)
    -- the next router, with nothing done at this one
    have skip : ∀ s1 : cS, M_link_s82 t (nI l) 1 (nI i) = some (.inl (nI (i + 1), t)) → EXr (Os i) t i → RR G H sa x s1 t → fr Rgk Pgk Qgk s s1 → s1.K = s.K → s1.P = s.P → C_Rf_raise_b35 sa x (some (G 0 l)) (nI i) s1 kc ks Q P2 := fun s1 e hx R1 f1 eK eP => by
      unfold C_Rf_raise_b35
      rw [nI_1]
      have em : M_link_b82 t (nI l) 1 (nI i) = M_link_b82 t (nI l) 1 (nI (i + 1)) := by
        unfold M_link_b82
        exact lp_l (f := fun x : Int32 × moS => M_link_s82 x.2 (nI l) 1 x.1) e
      have zp := pot_kp (G := G) (H := H) (t := t) eK eP
      refine ra_set hM0 hE0 hO k' (i + 1) G H s1 t kc ks (by omega) hc0 R1 hM (fun r hr => ?_) (fun r h1 h2 => hhi r (by omega) h2) h39 hl hs (by rw [zp.1]; exact hkc) (by rw [zp.2]; exact hks) Q (fun t' y1 y2 y3 y4 y5 => ?_) P2 hc
      · by_cases c : r = i
        · rw [c]; exact hx
        · exact hlo r (by omega)
      · exact (k t' (em.trans y1) y2 y3 y4 y5).tr1 ⟨rfl, rfl, rfl⟩ hA.rf f1 (by rw [zp.1]; exact Nat.le_refl _) (by rw [zp.2]; exact Nat.le_refl _)
    have b112 : M_link_b112 t (nI l) 1 (nI i) (-1) = some (.inl (nI (i + 1), t)) := by
      unfold M_link_b112 M_link_b197
      rw [if_pos rfl, nI_1]
    cases ei : ifF' (t.I 71) (nI l) (cI t i) (4 * i) with
    | none =>
      refine ifT rfl (skip s ?_ ?_ hR fr.rf rfl rfl)
      · unfold M_link_s82
        rw [e37, if_pos (nI_lt hir (by omega)), r39]
        simp only [Option.bind_some]
        have mi : M_interfaceTo t (nI i) (nI l) = some (-1) := by rw [m_interfaceTo hM hir, ei]; rfl
        rw [mi]
        simp only [Option.bind_some]
        rw [b112]
        by_cases c : t.I 39 i = 0
        · rw [if_pos c]
        · rw [if_neg c]
      · refine (hE0 i hir0).of hM0 hM hir0 hir (hel.eq fun p hp e => ?_) (fun z => by rw [h39] at z; exact z)
        have e' : t0.I 71 (4 * i + p) = nI l := cnt_of ((hM0.r hir0).i hp).1.n.1 e
        rw [← (hel.2.2.1 p hp).1] at e'
        exact ifF_none ei (4 * i + p) (by omega) (by omega) e'
    | some q =>
      obtain ⟨y1, y2, y3⟩ := ifF_s ei
      obtain ⟨p, hp, eq⟩ : ∃ p, p < cI t i ∧ q = 4 * i + p := ⟨q - 4 * i, by omega, by omega⟩
      subst eq
      have hp0 : p < cI t0 i := by omega
      have y30 : t0.I 71 (4 * i + p) = nI l := by rw [← (hel.2.2.1 p hp0).1]; exact y3
      refine ifF (by simp) (w_rts hq hM hir ⟨okr (hq.rt hir).1.1 9, ?_⟩)
      by_cases c : t.I 39 i = 0
      · refine c_sport0 hR hM hir c hp fun s2 eK eP f2 R2 => skip s2 ?_ ⟨(hE0 i hir0).1.el hel, fun z => absurd c z, (hE0 i hir0).px hel⟩ R2 (f2.wk (by decide) (by decide) (by decide)) eK eP
        unfold M_link_s82
        rw [e37, if_pos (nI_lt hir (by omega)), r39]
        simp only [Option.bind_some]
        rw [if_pos c, b112]
      · obtain ⟨t2, e1, e2, e3, e4, e5⟩ := lk_one (sa := sa) (x := x) (hE0 i hir0) (hO i) hM0 hM hir0 hir hel hp0 y30 (by omega) (by rw [h39])
        have es : M_link_s82 t (nI l) 1 (nI i) = some (.inl (nI (i + 1), t2)) := by
          unfold M_link_s82
          rw [e37, if_pos (nI_lt hir (by omega)), r39]
          simp only [Option.bind_some]
          have mi : M_interfaceTo t (nI i) (nI l) = some (nI (4 * i + p)) := by rw [m_interfaceTo hM hir, ei]; rfl
          rw [if_neg c, mi]
          simp only [Option.bind_some]
          unfold M_link_b112
          rw [if_neg (show ¬ nI (4 * i + p) = -1 from oI_n1 (4 * i + p) (by omega))]
          unfold M_link_b131
          refine lp_x ?_
          show M_link_s131 t (nI l) 1 (nI i) (nI (4 * i + p)) (2700 * nI i) = _
          unfold M_link_s131
          rw [rdI_n (n := 6) (hM.n.n 105 6) (by omega) (by decide)]
          simp only [Option.bind_some]
          have b191 : M_link_b191 t (nI l) 1 (nI i) = some (.inl (nI (i + 1), t2)) := by
            unfold M_link_b191 M_link_b197
            rw [e1]
            simp only [Option.bind_some]
            rw [nI_1]
          rw [b191, if_neg (show ¬ (1 : Int32) = 0 by decide)]
          split <;> rfl
        have em : M_link_b82 t (nI l) 1 (nI i) = M_link_b82 t2 (nI l) 1 (nI (i + 1)) := by
          unfold M_link_b82
          exact lp_l (f := fun x : Int32 × moS => M_link_s82 x.2 (nI l) 1 x.1) es
        have m2 := e4.1
        obtain ⟨w1, w2⟩ := pot_p (G := G) (H := H) (s := s) hM hir hp hl
        refine e5 G H s kc ks hR (by omega) (Nat.le_trans (ar_9 w2) hks) _ (SetR.gk hR hM hir e4 fun G2 H2 s2 kc2 ks2 R2 g2 h2 f2 c3 c4 => ?_)
        unfold C_Rf_raise_b35
        rw [nI_1]
        have hc' := hc
        rw [show G 0 l = G2 0 l by rw [g2.1]] at hc'
        have eR : cR t2 = cR t := by unfold cR; rw [m2.S 37 (by decide)]
        refine ra_set hM0 hE0 hO k' (i + 1) G2 H2 s2 t2 kc2 ks2 (by omega) (by omega) R2 e2 (fun r hr => ?_) (fun r h1 h2' => ?_) (by rw [m2.I 39 (by decide)]; exact h39) (by unfold cL; rw [m2.S 17 (by decide)]; exact hl) (fun j hj => by rw [m2.I 23 (by decide)]; exact hs j hj) (ar_7 c3 hkc) (ar_7 c4 hks) Q (fun t' y1 y2 y3 y4 y5 => ?_) P2 hc'
        · by_cases c : r = i
          · rw [c]; exact e3
          · exact (hlo r (by omega)).rw hM e2 (by omega) e4 c
        · exact (hhi r (by omega) (by omega)).rw e4 (by omega) (by have := hM0.nRo (show r < cR t0 by omega); omega)
        · refine (k t' (em.trans y1) y2 y3 ((m2.wk (by decide)).tr y4) (fun j => ?_)).tr1 g2 h2 f2 c3 c4
          obtain ⟨d, d1, d2⟩ := y5 j
          exact ⟨d, d1, by rw [d2, m2.I 23 (by decide)]⟩
end Rb
