/-! A link is lowered: routers lose what they learned there, and settle. -/
section Lw
variable {l r p : Nat} {t0 t t1 : moS} {O : List Pf}
theorem OWr.dr (h : OWr O t r) (c : dR r t t1) : OWr O t1 r := by
  obtain ⟨a1, a2, a3, a4, a5⟩ := c
  have m := a1.1
  obtain ⟨o1, o2, D0, D1, l0, l1, hrow⟩ := h
  have e1 : cSt t1 r = cSt t r := by unfold cSt; rw [m.I 46 (by decide)]
  have e2 : cI t1 r = cI t r := by unfold cI; rw [m.I 70 (by decide)]
  have e3 : cN t1 r = cN t r := by unfold cN; rw [a3]
  have e106 : t1.I 106 = t.I 106 := a4 106 (by decide) (by decide) (by decide) (by decide)
  have e109 : t1.I 109 = t.I 109 := a4 109 (by decide) (by decide) (by decide) (by decide)
  refine ⟨?_, ?_, D0, D1, l0, l1, ?_⟩
  · rw [e1]; unfold stP at o1 ⊢; rw [m.I 47 (by decide), a2, m.I 50 (by decide)]; exact o1
  · rw [e2]; unfold neP at o2 ⊢; rw [m.I 75 (by decide), a2, m.I 78 (by decide)]; exact o2
  · rw [e3]; unfold pfR at hrow ⊢; rw [e106, e109, a2]; exact hrow
theorem lk_two {sa : Nat → Nat} {x : Nat} (h : EXr O t0 r) (hO : O.length ≤ 760) (hM0 : MV t0) (hM : MV t) (hM1 : MV t1) (hr0 : r < cR t0) (hr : r < cR t) (hr1 : r < cR t1) (c : sEl l r t0 t) (w : dR r t t1) (hp : p < cI t0 r) (hl : t0.I 71 (4 * r + p) = nI l) (hl9 : l < 2 ^ 31) (h39 : t.I 39 r = t0.I 39 r) : ∃ t2, M_settle t1 (nI r) = some t2 ∧ MV t2 ∧ EXr O t2 r ∧ rwT r t1 t2 ∧ ∀ G H s kc ks, RR G H sa x s t1 → potC G r ≤ kc → potS s G H r ≤ ks → ∀ Q, SetR G H sa x s t1 r t2 kc ks Q → C_Rr_settlePort sa (G 1 r) (some (G 2 (4 * r + p))) s kc ks Q := by
  have ow := (h.1.el c).dr w
  have m1 := w.1.1
  obtain ⟨K, kb, sub, back⟩ := ow.kb hO
  have hK : ∀ k, k < cSt t1 r → stP t1 (32 * r + k) ∈ K := fun k hk => sub _ (ow.1 k hk)
  have hK2 : ∀ y, y < 2 * cI t1 r → t1.I 75 (8 * r + y) ≠ 0 → neP t1 r y ∈ K := fun y hy hz => sub _ (ow.2.1 y hy hz)
  have hp' : p < cI t1 r := by unfold cI; rw [m1.I 70 (by decide)]; rw [show (t.I 70 r).toNatClampNeg = cI t0 r from c.1.2.1]; exact hp
  have px := h.px c
  have cov : t1.I 39 r ≠ 0 → ∀ P : Pf, lnOk P.1 P.2.2.2 → P ∉ L2M t1 r 2 (2 * p) → stM t1 r P (al t1 r) = al t1 r := fun z P hP hn => by
    have z0 : t0.I 39 r ≠ 0 := by rw [m1.I 39 (by decide), h39] at z; exact z
    have hn' : P ∉ L2M t r 2 (2 * p) := fun y => hn (by
      obtain ⟨i, i1, i2, i3, i4⟩ := (L2M_m _ _).mp y
      refine (L2M_m _ _).mpr ⟨i, i1, i2, by rw [m1.I 75 (by decide)]; exact i3, ?_⟩
      rw [i4]
      unfold neP
      rw [m1.J 76 (by decide), m1.J 77 (by decide), m1.I 78 (by decide)])
    have y1 := st1_f (lk_cov h hM0 hM hr0 hr c hp hl hl9 z0 P hP hn')
    refine st1_b ?_
    show stp 0 (dF t1 r P) (Vt t1 r P) = (Vt t1 r P, false)
    rw [dF_fr (r := r) m1]
    exact stp_vD (fun y hy => dF_01 hy) y1 (w.v hM hM1 hr hr1)
  obtain ⟨t2, e1, e2, e3, e4, e5⟩ := set_m hM1 hr1 kb hK hK2
  refine ⟨t2, e1, e2, ?_, e3, fun G H s kc ks hR hkc hks Q kk => ?_⟩
  · have m' := e3.1
    have ec : cSt t2 r = cSt t1 r := by unfold cSt; rw [m'.I 46 (by decide)]
    have ei : cI t2 r = cI t1 r := by unfold cI; rw [m'.I 70 (by decide)]
    have es : cSt t1 r = cSt t r := by unfold cSt; rw [m1.I 46 (by decide)]
    refine ⟨⟨?_, ?_, back t2 e5⟩, fun z => e4 (by rw [m'.I 39 (by decide)] at z; exact z), ?_⟩
    · have := ow.1
      rw [ec]; unfold stP at this ⊢; rw [m'.I 47 (by decide), m'.J 48 (by decide), m'.J 49 (by decide), m'.I 50 (by decide)]; exact this
    · have := ow.2.1
      rw [ei]; unfold neP at this ⊢; rw [m'.I 75 (by decide), m'.J 76 (by decide), m'.J 77 (by decide), m'.I 78 (by decide)]; exact this
    · rw [ec, es, m'.J 48 (by decide), m'.J 49 (by decide), m'.I 50 (by decide), m1.J 48 (by decide), m1.J 49 (by decide), m1.I 50 (by decide)]; exact px
  · obtain ⟨t3, y1, -, -, -, -, y6⟩ := set_port (kc := kc) (ks := ks) hR hM1 hr1 hp' kb hK hK2 cov hkc hks
    rw [e1] at y1
    cases y1
    exact y6 Q kk
end Lw
section Lx2
variable {sa : Nat → Nat} {x l : Nat}
theorem lo_set {Os : Nat → List Pf} {t0 : moS} (hM0 : MV t0) (hE0 : EX Os t0) (hO : ∀ r, (Os r).length ≤ 760) : ∀ (k i : Nat) (G H : Nat → Nat → Nat) (s : cS) (t : moS) (kc ks : Nat), i + k = cR t → cR t = cR t0 → RR G H sa x s t → MV t → (∀ r, r < i → EXr (Os r) t r) → (∀ r, i ≤ r → r < cR t → sEl l r t0 t) → t.I 39 = t0.I 39 → l < cL t → PoC s G H t ≤ kc → PoS s G H t ≤ ks → ∀ Q : cS → Nat → Nat → Prop, (∀ t', M_link_b82 t (nI l) 0 (nI i) = some (1, t') → MV t' → EX Os t' → mfr Wrow t t' → GK sa x G H s t kc ks t' Q) → C_Rf_lower_b2 sa x (some (G 0 l)) (nI i) s kc ks Q
  | 0, i, G, H, s, t, kc, ks, hi, hc0, hR, hM, hlo, hhi, h39, hl, hkc, hks, Q, k => by
    intro P2 hc
    refine hc _ _ _ _ ?_
    have h6 := hM.nR
    have hq := hR.q.1
    have e37 : t.S 37 = nI (cR t) := hM.1.2.2.2.2.2.2.2.n.1
    have hE : EX Os t := fun r hr => hlo r (by omega)
    have em : M_link_b82 t (nI l) 0 (nI i) = some (1, t) := by
      unfold M_link_b82
      refine lp_x ?_
      show M_link_s82 t (nI l) 0 (nI i) = _
      unfold M_link_s82
      rw [e37, if_neg (nI_nlt (by omega) (by omega))]
      have : M_link_b206 t (nI l) 0 0 = some (1, t) := by
        unfold M_link_b206
        refine lp_x ?_
        show M_link_s206 t (nI l) 0 0 = _
        unfold M_link_s206
        rw [if_pos (show (0 : Int32) = 0 from rfl)]
        split <;> rfl
      rw [this]
    unfold C_Rf_lower_s2
    refine ⟨_, gd_to (okr hq.1.1 11), ?_⟩
    rw [show s.I (20 * 11 + 9) x = nI (cR t) from hq.2.2.1.2.2.2.1.trans e37]
    exact ifF (nI_nlt (by omega) (by omega)) (k t em hM hE mfr.rf G H s kc ks hR ⟨rfl, rfl, rfl⟩ hA.rf fr.rf (Nat.le_refl _) (Nat.le_refl _))
  | k' + 1, i, G, H, s, t, kc, ks, hi, hc0, hR, hM, hlo, hhi, h39, hl, hkc, hks, Q, k => by
    intro P2 hc
    refine hc _ _ _ _ ?_
    have h6 := hM.nR
    have h10 : cL t ≤ 10 := hM.1.2.2.2.2.2.1.n.2.2
    have hq := hR.q.1
    have hir : i < cR t := by omega
    have hir0 : i < cR t0 := by omega
    have h4 := hM.nIf hir
    have hel := hhi i (Nat.le_refl _) hir
    have e37 : t.S 37 = nI (cR t) := hM.1.2.2.2.2.2.2.2.n.1
    have r39 : rdI t 39 (nI i) = some (t.I 39 i) := rdI_n (n := 6) (hM.n.n 39 6) (by omega) (by decide)
    have eI : cI t i = cI t0 i := hel.1.2.1
    unfold C_Rf_lower_s2
    refine ⟨_, gd_to (okr hq.1.1 11), ?_⟩
    rw [show s.I (20 * 11 + 9) x = nI (cR t) from hq.2.2.1.2.2.2.1.trans e37]
    refine ifT (nI_lt hir (by omega)) (w_rts hq hM hir ⟨okr (hq.rt hir).1.1 9, w_portOn hq hM hir hl ?_⟩)
    have skip : M_link_s82 t (nI l) 0 (nI i) = some (.inl (nI (i + 1), t)) → EXr (Os i) t i → C_Rf_lower_b57 sa x (some (G 0 l)) (nI i) s kc ks Q P2 := fun e hx => by
      unfold C_Rf_lower_b57
      rw [nI_1]
      have em : M_link_b82 t (nI l) 0 (nI i) = M_link_b82 t (nI l) 0 (nI (i + 1)) := by
        unfold M_link_b82
        exact lp_l (f := fun x : Int32 × moS => M_link_s82 x.2 (nI l) 0 x.1) e
      refine lo_set hM0 hE0 hO k' (i + 1) G H s t kc ks (by omega) hc0 hR hM (fun r hr => ?_) (fun r h1 h2 => hhi r (by omega) h2) h39 hl hkc hks Q (fun t' y1 y2 y3 y4 => k t' (em.trans y1) y2 y3 y4) P2 hc
      by_cases c : r = i
      · rw [c]; exact hx
      · exact hlo r (by omega)
    have b112 : M_link_b112 t (nI l) 0 (nI i) (-1) = some (.inl (nI (i + 1), t)) := by
      unfold M_link_b112 M_link_b197
      rw [if_pos rfl, nI_1]
    cases ei : ifF' (t.I 71) (nI l) (cI t i) (4 * i) with
    | none =>
      refine ifT rfl (skip ?_ ?_)
      · unfold M_link_s82
        rw [e37, if_pos (nI_lt hir (by omega)), r39]
        simp only [Option.bind_some]
        have mi : M_interfaceTo t (nI i) (nI l) = some (-1) := by rw [m_interfaceTo hM hir, ei]; rfl
        rw [mi]
        simp only [Option.bind_some]
        rw [b112]
        by_cases c : t.I 39 i = 0
        · rw [if_pos c]
        · rw [if_neg c]
      · refine (hE0 i hir0).of hM0 hM hir0 hir (hel.eq fun p hp e => ?_) (fun z => by rw [h39] at z; exact z)
        have e' : t0.I 71 (4 * i + p) = nI l := cnt_of ((hM0.r hir0).i hp).1.n.1 e
        rw [← (hel.2.2.1 p hp).1] at e'
        exact ifF_none ei (4 * i + p) (by omega) (by omega) e'
    | some q =>
      obtain ⟨y1, y2, y3⟩ := ifF_s ei
      obtain ⟨p, hp, eq⟩ : ∃ p, p < cI t i ∧ q = 4 * i + p := ⟨q - 4 * i, by omega, by omega⟩
      subst eq
      have hp0 : p < cI t0 i := by omega
      have y30 : t0.I 71 (4 * i + p) = nI l := by rw [← (hel.2.2.1 p hp0).1]; exact y3
      refine ifF (by simp) (w_rts hq hM hir ⟨_, gd_to (okr (hq.rt hir).1.1 9), ?_⟩)
      rw [show s.I (20 * 9 + 3) (G 1 i) = t.I 39 i from (hq.rt hir).2.2.1.2.1]
      by_cases c : t.I 39 i = 0
      · refine ifT c (skip ?_ ⟨(hE0 i hir0).1.el hel, fun z => absurd c z, (hE0 i hir0).px hel⟩)
        unfold M_link_s82
        rw [e37, if_pos (nI_lt hir (by omega)), r39]
        simp only [Option.bind_some]
        rw [if_pos c, b112]
      · refine ifF c (w_rts hq hM hir ⟨okr (hq.rt hir).1.1 9, ?_⟩)
        unfold C_Rr_loseLearned
        refine lose_loop (l := l) (cN t i) 0 s t (by omega) hR hM hir hp _ fun t1 s1 a1 R1 M1 w1 eK eP f1 => ?_
        have m1 := w1.1.1
        have hir1 : i < cR t1 := by unfold cR; rw [m1.S 37 (by decide)]; exact hir
        have hp1 : p < cI t1 i := by unfold cI; rw [m1.I 70 (by decide)]; exact hp
        have hl1 : l < cL t1 := by unfold cL; rw [m1.S 17 (by decide)]; exact hl
        have z1 := pot_kp (G := G) (H := H) (t := t1) eK eP
        have z2 := pot_t (G := G) (H := H) (s := s) m1 rfl
        obtain ⟨t2, e1, e2, e3, e4, e5⟩ := lk_two (sa := sa) (x := x) (hE0 i hir0) (hO i) hM0 hM M1 hir0 hir hir1 hel w1 hp0 y30 (by omega) (by rw [h39])
        have es : M_link_s82 t (nI l) 0 (nI i) = some (.inl (nI (i + 1), t2)) := by
          unfold M_link_s82
          rw [e37, if_pos (nI_lt hir (by omega)), r39]
          simp only [Option.bind_some]
          have mi : M_interfaceTo t (nI i) (nI l) = some (nI (4 * i + p)) := by rw [m_interfaceTo hM hir, ei]; rfl
          rw [if_neg c, mi]
          simp only [Option.bind_some]
          unfold M_link_b112
          rw [if_neg (show ¬ nI (4 * i + p) = -1 from oI_n1 (4 * i + p) (by omega)), show (2700 : Int32) * nI i = nI (2700 * i + 0) by rw [show (2700 : Int32) = nI 2700 from rfl, pk_mul]; rfl, a1]
          unfold M_link_b191 M_link_b197
          rw [e1]
          simp only [Option.bind_some]
          rw [nI_1]
        have em : M_link_b82 t (nI l) 0 (nI i) = M_link_b82 t2 (nI l) 0 (nI (i + 1)) := by
          unfold M_link_b82
          exact lp_l (f := fun x : Int32 × moS => M_link_s82 x.2 (nI l) 0 x.1) es
        have m2 := e4.1
        obtain ⟨w2, w3⟩ := pot_p (G := G) (H := H) (s := s1) M1 hir1 hp1 hl1
        have kc1 : PoC s1 G H t1 ≤ kc := by rw [z1.1, z2.1]; exact hkc
        have ks1 : PoS s1 G H t1 ≤ ks := by rw [z1.2, z2.2]; exact hks
        refine w_rts R1.q.1 M1 hir1 ⟨okr (R1.q.1.rt hir1).1.1 9, ?_⟩
        refine e5 G H s1 kc ks R1 (by omega) (Nat.le_trans (ar_9 w3) ks1) _ (SetR.gk R1 M1 hir1 e4 fun G2 H2 s2 kc2 ks2 R2 g2 h2 f2 c3 c4 => ?_)
        unfold C_Rf_lower_b57
        rw [nI_1]
        have hc' := hc
        rw [show G 0 l = G2 0 l by rw [g2.1]] at hc'
        have eR : cR t2 = cR t1 := by unfold cR; rw [m2.S 37 (by decide)]
        have eR1 : cR t1 = cR t := by unfold cR; rw [m1.S 37 (by decide)]
        refine lo_set hM0 hE0 hO k' (i + 1) G2 H2 s2 t2 kc2 ks2 (by omega) (by omega) R2 e2 (fun r hr => ?_) (fun r h1 h2' => ?_) (by rw [m2.I 39 (by decide), m1.I 39 (by decide)]; exact h39) (by unfold cL; rw [m2.S 17 (by decide)]; exact hl1) (ar_7 c3 kc1) (ar_7 c4 ks1) Q (fun t' y1 y2 y3 y4 => ?_) P2 hc'
        · by_cases c : r = i
          · rw [c]; exact e3
          · exact ((hlo r (by omega)).rw hM M1 (by omega) w1.1 c).rw M1 e2 (by omega) e4 c
        · have n27 := hM0.nRo (show r < cR t0 by omega)
          exact ((hhi r (by omega) (by omega)).rw w1.1 (by omega) (by omega)).rw e4 (by omega) (by omega)
        · have kk := k t' (em.trans y1) y2 y3 ((m1.tr m2).tr y4)
          have k1 : GK sa x G H s1 t1 kc ks t' Q := kk.tr1 ⟨rfl, rfl, rfl⟩ hA.rf (f1.wk (by decide) (by decide) (by decide)) (by rw [z1.1, z2.1]; exact Nat.le_refl _) (by rw [z1.2, z2.2]; exact Nat.le_refl _)
          exact k1.tr1 g2 h2 f2 c3 c4
end Lx2
