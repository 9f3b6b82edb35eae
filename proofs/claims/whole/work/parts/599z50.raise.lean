/-! A link is raised: the requests of all routers at it. -/
theorem ar_6 {a b c d e f : Nat} (h1 : a + b ≤ c + d) (h2 : c + e ≤ f + b) : a + e ≤ f + d := by omega
theorem ar_7 {a b c d : Nat} (h1 : a + b ≤ c + d) (h2 : d ≤ a) : b ≤ c := by omega
theorem ar_8 {a b c d e f : Nat} (h1 : a + b ≤ c + d) (h2 : c + e ≤ f + b) (h3 : d ≤ a) : e ≤ f := by omega
section Ra
variable {sa : Nat → Nat} {x l : Nat}
theorem w_rts {G H : Nat → Nat → Nat} {s : cS} {t : moS} {i : Nat} (hq : RQ G H sa x s t) (hM : MV t) (hi : i < cR t) {K : Nat → Prop} (k : K (G 1 i)) : ob (gP s 11 8 x) (fun v => ob v (fun b => ob (rQ s b (nI i)) (fun v' => ob v' K))) := by
  have h6 := hM.nR
  have p228 := hq.ty.r hq.1.1 228 131 6
  refine ⟨_, gd_to (okr hq.1.1 11), _, p228.1, _, gd_to ⟨by rw [p228.2]; decide, by rw [p228.2]; decide, by rw [p228.2]; exact vp_in_nI (by omega) (by decide)⟩, ?_⟩
  rw [nI_clamp (by omega)]
  exact ⟨_, (hq.rt hi).1.2.1, k⟩
theorem GK.tr1 {G H G1 H1 : Nat → Nat → Nat} {s s1 : cS} {t t1 : moS} {kc ks kc1 ks1 : Nat} {t' : moS} {Q : cS → Nat → Nat → Prop} (k : GK sa x G H s t kc ks t' Q) (g1 : G1 0 = G 0 ∧ G1 1 = G 1 ∧ G1 2 = G 2) (h1 : hA H H1 s) (f1 : fr Rgk Pgk Qgk s s1) (c1 : kc + PoC s1 G1 H1 t1 ≤ kc1 + PoC s G H t) (c2 : ks + PoS s1 G1 H1 t1 ≤ ks1 + PoS s G H t) : GK sa x G1 H1 s1 t1 kc1 ks1 t' Q := fun G' H' s' kc' ks' R g h f b1 b2 => k G' H' s' kc' ks' R ⟨g.1.trans g1.1, g.2.1.trans g1.2.1, g.2.2.trans g1.2.2⟩ (fun y a ha => (h y a (by rw [(f1 a ha).1]; exact ha)).trans (h1 y a ha)) (f1.tr f) (ar_6 c1 b1) (ar_6 c2 b2)
theorem GK.ok {G H : Nat → Nat → Nat} {s s' : cS} (f : fr Rgk Pgk Qgk s s') {c a : Nat} (h : okO s c a) : okO s' c a := by
  unfold okO at h ⊢
  rw [(f a (okO.n0 h)).1]
  exact h
abbrev Wra : List Nat := [146] ++ Wsd
theorem ra_ask {Os : Nat → List Pf} {B : Nat} : ∀ (k i : Nat) (G H : Nat → Nat → Nat) (s : cS) (t : moS) (kc ks : Nat), i + k = cR t → RR G H sa x s t → MV t → EX Os t → l < cL t → (∀ j, j < 10 → ∃ d, t.I 23 j = nI d ∧ d + 2 * k + 1 < 2 ^ 31) → PoC s G H t ≤ kc → PoS s G H t ≤ ks → ∀ Q : cS → Nat → Nat → Prop, (∀ t', M_link_b206 t (nI l) 1 (nI i) = some (1, t') → MV t' → EX Os t' → mfr Wra t t' → (∀ j, ∃ d, d ≤ 2 * k ∧ t'.I 23 j = t.I 23 j + nI d) → GK sa x G H s t kc ks t' Q) → C_Rf_raise_b43 sa x (some (G 0 l)) (nI i) s kc ks Q
  | 0, i, G, H, s, t, kc, ks, hi, hR, hM, hE, hl, hs, hkc, hks, Q, k => by
    intro P43 hc
    refine hc _ _ _ _ ?_
    have h6 := hM.nR
    have hq := hR.q.1
    have e37 : t.S 37 = nI (cR t) := hM.1.2.2.2.2.2.2.2.n.1
    have em : M_link_b206 t (nI l) 1 (nI i) = some (1, t) := by
      unfold M_link_b206
      refine lp_x ?_
      show M_link_s206 t (nI l) 1 (nI i) = _
      unfold M_link_s206
      rw [e37, if_neg (nI_nlt (by omega) (by omega))]
    unfold C_Rf_raise_s43
    refine ⟨_, gd_to (okr hq.1.1 11), ?_⟩
    rw [show s.I (20 * 11 + 9) x = nI (cR t) from hq.2.2.1.2.2.2.1.trans e37]
    exact ifF (nI_nlt (by omega) (by omega)) (k t em hM hE mfr.rf (fun j => ⟨0, by omega, by rw [show nI 0 = 0 from rfl, Int32.add_zero]⟩) G H s kc ks hR ⟨rfl, rfl, rfl⟩ hA.rf fr.rf (Nat.le_refl _) (Nat.le_refl _))
  | k' + 1, i, G, H, s, t, kc, ks, hi, hR, hM, hE, hl, hs, hkc, hks, Q, k => by
    intro P43 hc
    refine hc _ _ _ _ ?_
    have h6 := hM.nR
    have hq := hR.q.1
    have hir : i < cR t := by omega
    have h4 := hM.nIf hir
    have e37 : t.S 37 = nI (cR t) := hM.1.2.2.2.2.2.2.2.n.1
    have r39 : rdI t 39 (nI i) = some (t.I 39 i) := rdI_n (n := 6) (hM.n.n 39 6) (by omega) (by decide)
    unfold C_Rf_raise_s43
    refine ⟨_, gd_to (okr hq.1.1 11), ?_⟩
    rw [show s.I (20 * 11 + 9) x = nI (cR t) from hq.2.2.1.2.2.2.1.trans e37]
    refine ifT (nI_lt hir (by omega)) (w_rts hq hM hir ⟨okr (hq.rt hir).1.1 9, w_portOn hq hM hir hl ?_⟩)
    -- nothing at this router
    have skip : M_link_s206 t (nI l) 1 (nI i) = some (.inl (nI (i + 1), t)) → C_Rf_raise_b101 sa x (some (G 0 l)) (nI i) s kc ks Q P43 := fun e => by
      unfold C_Rf_raise_b101
      rw [nI_1]
      have em : M_link_b206 t (nI l) 1 (nI i) = M_link_b206 t (nI l) 1 (nI (i + 1)) := by
        unfold M_link_b206
        exact lp_l (f := fun x : Int32 × moS => M_link_s206 x.2 (nI l) 1 x.1) e
      refine ra_ask (B := B) k' (i + 1) G H s t kc ks (by omega) hR hM hE hl (fun j hj => ?_) hkc hks Q (fun t' y1 y2 y3 y4 y5 => k t' (em.trans y1) y2 y3 y4 (fun j => ?_)) P43 hc
      · obtain ⟨d, d1, d2⟩ := hs j hj
        exact ⟨d, d1, by omega⟩
      · obtain ⟨d, d1, d2⟩ := y5 j
        exact ⟨d, by omega, d2⟩
    have s0 : ¬ (1 : Int32) = 0 := by decide
    cases ei : ifF' (t.I 71) (nI l) (cI t i) (4 * i) with
    | none =>
      refine ifT rfl (skip ?_)
      unfold M_link_s206
      rw [e37, if_pos (nI_lt hir (by omega)), if_neg s0, r39]
      simp only [Option.bind_some]
      have mi : M_interfaceTo t (nI i) (nI l) = some (-1) := by rw [m_interfaceTo hM hir, ei]; rfl
      rw [mi]
      simp only [Option.bind_some]
      have b : M_link_b240 t (nI l) 1 (nI i) (-1) = some (.inl (nI (i + 1), t)) := by
        unfold M_link_b240 M_link_b254
        rw [if_pos rfl, nI_1]
      rw [b]
      by_cases c : t.I 39 i = 0
      · rw [if_pos c]
      · rw [if_neg c]
    | some q =>
      obtain ⟨y1, y2, y3⟩ := ifF_s ei
      obtain ⟨p, hp, eq⟩ : ∃ p, p < cI t i ∧ q = 4 * i + p := ⟨q - 4 * i, by omega, by omega⟩
      subst eq
      refine ifF (by simp) (w_rts hq hM hir ⟨_, gd_to (okr (hq.rt hir).1.1 9), ?_⟩)
      rw [show s.I (20 * 9 + 3) (G 1 i) = t.I 39 i from (hq.rt hir).2.2.1.2.1]
      by_cases c : t.I 39 i = 0
      · refine ifT c (skip ?_)
        unfold M_link_s206
        rw [e37, if_pos (nI_lt hir (by omega)), if_neg s0, r39]
        simp only [Option.bind_some]
        rw [if_pos c]
        unfold M_link_b240 M_link_b254
        rw [if_pos rfl, nI_1]
      · -- the first request
        obtain ⟨t1, a1, a2, a3, a4, a5, a6⟩ := rq_one (f := 0) hR hM hE hir hp (Or.inl rfl) (fun j hj z => by
          obtain ⟨d, d1, d2⟩ := hs j (Nat.lt_of_lt_of_le hj hM.nL)
          rw [d1, nI_1] at z
          exact nI_pos (n := d + 1) (by omega) z) hkc hks
        have hir1 : i < cR t1 := by unfold cR; rw [a4.S 37 (by decide)]; exact hir
        have hp1 : p < cI t1 i := by unfold cI; rw [a4.I 70 (by decide)]; exact hp
        refine ifF c (w_rts hq hM hir ⟨okr (hq.rt hir).1.1 9, a6 _ fun G1 H1 s1 kc1 ks1 R1 g1 h1 f1 c1 c2 => ?_⟩)
        obtain ⟨t2, b1, b2, b3, b4, b5, b6⟩ := rq_one (f := 1) (kc := kc1) (ks := ks1) R1 a2 a3 hir1 hp1 (Or.inr rfl) (fun j hj z => by
          obtain ⟨d, d1, d2⟩ := hs j (Nat.lt_of_lt_of_le hj a2.nL)
          rcases a5 j with y | y
          · rw [y, d1, nI_1] at z
            exact nI_pos (n := d + 1) (by omega) z
          · rw [y, d1, nI_1, nI_1] at z
            exact nI_pos (n := d + 1 + 1) (by omega) z) (by omega) (ar_7 c2 hks)
        have ms : M_requests t (nI (4 * i + p)) = some t2 := m_reqs hM a2 (by omega) a1 b1
        have es : M_link_s206 t (nI l) 1 (nI i) = some (.inl (nI (i + 1), t2)) := by
          unfold M_link_s206
          rw [e37, if_pos (nI_lt hir (by omega)), if_neg s0, r39]
          simp only [Option.bind_some]
          have mi : M_interfaceTo t (nI i) (nI l) = some (nI (4 * i + p)) := by rw [m_interfaceTo hM hir, ei]; rfl
          rw [if_neg c, mi]
          simp only [Option.bind_some]
          unfold M_link_b240 M_link_b254
          rw [if_neg (show ¬ nI (4 * i + p) = -1 from oI_n1 (4 * i + p) (by omega)), ms]
          simp only [Option.bind_some]
          rw [nI_1]
        have em : M_link_b206 t (nI l) 1 (nI i) = M_link_b206 t2 (nI l) 1 (nI (i + 1)) := by
          unfold M_link_b206
          exact lp_l (f := fun x : Int32 × moS => M_link_s206 x.2 (nI l) 1 x.1) es
        have e1 : G1 1 = G 1 := g1.2.1
        have e2 : G1 2 = G 2 := g1.2.2
        refine w_rts R1.q.1 a2 hir1 ⟨okr (R1.q.1.rt hir1).1.1 9, ?_⟩
        show C_Rr_ask sa (G1 1 i) (some (G 2 (4 * i + p))) 6 s1 kc1 ks1 _
        rw [← e2]
        refine b6 _ fun G2 H2 s2 kc2 ks2 R2 g2 h2 f2 c3 c4 => ?_
        unfold C_Rf_raise_b101
        rw [nI_1]
        have hc' := hc
        rw [show G 0 l = G2 0 l by rw [g2.1, g1.1]] at hc'
        have mm : mfr Wra t t2 := a4.tr b4
        have i23' : ∀ j, ∃ d, d ≤ 2 ∧ t2.I 23 j = t.I 23 j + nI d := fun j => by
          rcases a5 j with z | z <;> rcases b5 j with z' | z'
          · exact ⟨0, by omega, by rw [z', z, show nI 0 = 0 from rfl, Int32.add_zero]⟩
          · exact ⟨1, by omega, by rw [z', z]; rfl⟩
          · exact ⟨1, by omega, by rw [z', z]; rfl⟩
          · refine ⟨2, by omega, ?_⟩
            rw [z', z, Int32.add_assoc]
            rfl
        refine ra_ask (B := B) k' (i + 1) G2 H2 s2 t2 kc2 ks2 (by unfold cR; rw [mm.S 37 (by decide)]; exact (by omega : i + 1 + k' = cR t)) R2 b2 b3 (by unfold cL; rw [mm.S 17 (by decide)]; exact hl) (fun j hj => ?_) (ar_8 c1 c3 hkc) (ar_8 c2 c4 hks) Q (fun t' y1 y2 y3 y4 y5 => ?_) P43 hc'
        · obtain ⟨d, d1, d2⟩ := hs j hj
          obtain ⟨d', d1', d2'⟩ := i23' j
          exact ⟨d + d', by rw [d2', d1, nI_add], by omega⟩
        · have kk := k t' (em.trans y1) y2 y3 (mm.tr y4) (fun j => by
            obtain ⟨d, d1, d2⟩ := y5 j
            obtain ⟨d', d1', d2'⟩ := i23' j
            exact ⟨d' + d, by omega, by rw [d2, d2', Int32.add_assoc, nI_add]⟩)
          exact (kk.tr1 g1 h1 f1 c1 c2).tr1 g2 h2 f2 c3 c4
end Ra
