/-! What is due is brought: both sides. -/
abbrev Wbd : List Nat := [123, 124, 125, 149, 150] ++ Wrv
/-- how it goes on behind it -/
def BdK (sa : Nat → Nat) (x : Nat) (G H : Nat → Nat → Nat) (s : cS) (t : moS) (kc ks : Nat) (t' : moS) (Q : cS → Nat → Nat → Prop) : Prop := ∀ G' H' s' kc' ks', RR G' H' sa x s' t' → (G' 0 = G 0 ∧ G' 1 = G 1 ∧ G' 2 = G 2) → hA H H' s → fr Rrv Prv Qrv s s' → kc + RcC s' G' H' t' ≤ kc' + RcC s G H t → ks + RcS s' G' H' x t' ≤ ks' + RcS s G H x t → Q s' kc' ks'
theorem ar_b1 {kc kc2 R R1 R2 R3 d d1 d2 d3 : Nat} (h1 : R1 + 5 * d = R + 5 * d1) (e1 : d1 = d + 1) (h2 : kc + R2 ≤ kc2 + R1) (h3 : R3 + 5 * d2 = R2 + 5 * d3) (e2 : d2 = d3 + 1) : kc + R3 ≤ kc2 + R := by omega
theorem ar_b2 {kc kc2 R R1 R2 R3 d d1 d2 d3 : Nat} (h1 : R1 + 622 * d = R + 622 * d1) (e1 : d1 = d + 1) (h2 : kc + R2 ≤ kc2 + R1) (h3 : R3 + 622 * d2 = R2 + 622 * d3) (e2 : d2 = d3 + 1) : kc + R3 ≤ kc2 + R := by omega
theorem ar_b3 {R R1 d d1 kc : Nat} (h1 : R1 + 5 * d = R + 5 * d1) (e1 : d1 = d + 1) (h : R + 5 ≤ kc) : R1 ≤ kc := by omega
theorem ar_b4 {R R1 d d1 kc : Nat} (h1 : R1 + 622 * d = R + 622 * d1) (e1 : d1 = d + 1) (h : R + 622 ≤ kc) : R1 ≤ kc := by omega
theorem ar_b5 {kc kc' R R' e : Nat} (h : kc + R' ≤ kc' + R) (hk : R + e ≤ kc) : R' + e ≤ kc' := by omega
section Br
variable {G H G' G1 H1 : Nat → Nat → Nat} {sa : Nat → Nat} {x kc ks kc1 ks1 : Nat} {s s' s1 : cS} {t t' t1 : moS} {E : List (Int32 × Int64)} {Os : Nat → List Pf} {Q : cS → Nat → Nat → Prop}
theorem BdK.tr (k : BdK sa x G H s t kc ks t' Q) (g1 : G1 0 = G 0 ∧ G1 1 = G 1 ∧ G1 2 = G 2) (h1 : hA H H1 s) (f1 : fr Rrv Prv Qrv s s1) (c1 : kc + RcC s1 G1 H1 t1 ≤ kc1 + RcC s G H t) (c2 : ks + RcS s1 G1 H1 x t1 ≤ ks1 + RcS s G H x t) : BdK sa x G1 H1 s1 t1 kc1 ks1 t' Q := fun G' H' s' kc' ks' R g h f b1 b2 => k G' H' s' kc' ks' R ⟨g.1.trans g1.1, g.2.1.trans g1.2.1, g.2.2.trans g1.2.2⟩ (fun y a ha => (h y a (by rw [(f1 a ha).1]; exact ha)).trans (h1 y a ha)) (f1.tr f) (ar_6 c1 b1) (ar_6 c2 b2)
theorem pot_11 {W : List Nat} (hK : s'.K = s.K) (hP : s'.P = s.P) (e : ∀ b, b ≠ 11 → b ≠ 12 → G' b = G b) (m : mfr W t t') (d : dj [17, 37, 70] W) : RcC s' G' H t' + 5 * dN G t = RcC s G H t + 5 * dN G' t' ∧ RcS s' G' H x t' + 622 * dN G t = RcS s G H x t + 622 * dN G' t' := by
  have eR : cR t' = cR t := by unfold cR; rw [m.S 37 (d.n 37)]
  have eL : cL t' = cL t := by unfold cL; rw [m.S 17 (d.n 17)]
  have eI : ∀ r, cI t' r = cI t r := fun r => by unfold cI; rw [m.I 70 (d.n 70)]
  have v1 : sm (fA G' t') 6 = sm (fA G t) 6 := sm_e fun i _ => by
    unfold fA pA potC
    rw [eR, e 13 (by decide) (by decide), e 14 (by decide) (by decide)]
  have v2 : sm (fB s' G' H t') 6 = sm (fB s G H t) 6 := sm_e fun i _ => by
    unfold fB pB potS cpT cpO
    rw [eR, hK, hP, e 1 (by decide) (by decide), e 13 (by decide) (by decide), e 14 (by decide) (by decide)]
  have v3 : sm (fL s' G' H t') 10 = sm (fL s G H t) 10 := sm_e fun i _ => by
    unfold fL plC capOf
    rw [eL, hK, hP, e 0 (by decide) (by decide)]
  have v4 : sm (fW s' G' H t') 24 = sm (fW s G H t) 24 := sm_e fun i _ => by
    unfold fW wkC
    rw [eR, eI, hP, e 2 (by decide) (by decide)]
  have v5 : sm (fS s' G' t') 24 = sm (fS s G t) 24 := sm_e fun i _ => by
    unfold fS soC cpZ
    rw [eR, eI, hP, hK, e 2 (by decide) (by decide)]
  have v6 : sm (fT s' G' t') 24 = sm (fT s G t) 24 := sm_e fun i _ => by
    unfold fT soS cpZ
    rw [eR, eI, hP, hK, e 2 (by decide) (by decide)]
  have v7 : tdC G' = tdC G := by unfold tdC; rw [e 15 (by decide) (by decide)]
  have v8 : tdS s' G' H x = tdS s G H x := by unfold tdS cpD; rw [hK, hP, e 15 (by decide) (by decide)]
  unfold RcC RcS PoC PoS
  rw [v1, v2, v3, v4, v5, v6, v7, v8]
  generalize sm (fA G t) 6 = w1
  generalize sm (fB s G H t) 6 = w2
  generalize sm (fL s G H t) 10 = w3
  generalize sm (fW s G H t) 24 = w4
  generalize sm (fS s G t) 24 = w5
  generalize sm (fT s G t) 24 = w6
  omega
/-- the rest comes later -/
theorem m_rest (hM : MV t) : ∀ d a, a + d = cF t → (∀ i, a ≤ i → i < cF t → t.S 1 < t.I 136 (pl t i)) → M_tick_b12 t (nI a) = M_tick_b54 t 0
  | 0, a, h, _ => by
    have e123 : t.S 123 = nI (cF t) := hM.2.2.2.2.1.1.n.1
    have h2 : cF t ≤ 256 := hM.2.2.2.2.1.1.n.2.2
    unfold M_tick_b12
    refine lp_x ?_
    show M_tick_s12 t (nI a) = _
    unfold M_tick_s12
    rw [e123, if_neg (nI_nlt (by omega) (by omega))]
  | d + 1, a, h, hl => by
    have e123 : t.S 123 = nI (cF t) := hM.2.2.2.2.1.1.n.1
    have h2 : cF t ≤ 256 := hM.2.2.2.2.1.1.n.2.2
    obtain ⟨p, ep, -, hp⟩ := (hM.2.2.2.2.1.2.2.1 a (by omega)).1
    have epl : pl t a = p := by unfold pl; rw [ep, nI_clamp (by omega)]
    have hla := hl a (Nat.le_refl _) (by omega)
    rw [epl] at hla
    have st : M_tick_s12 t (nI a) = some (.inl (nI (a + 1), t)) := by
      unfold M_tick_s12
      rw [e123, if_pos (nI_lt (by omega) (by omega)), rdI_n (n := 256) (hM.n.n 124 256) (by omega) (by decide), ep]
      simp only [Option.bind_some]
      rw [rdI_n (n := 256) (hM.n.n 136 256) (by omega) (by decide)]
      simp only [Option.bind_some]
      rw [if_pos hla, nI_1]
    rw [← m_rest hM d (a + 1) (by omega) fun i h1 h2 => hl i (by omega) h2]
    unfold M_tick_b12
    exact lp_l (f := fun x : Int32 × moS => M_tick_s12 x.2 x.1) st
theorem vc_nI {s : cS} {b w cap : Nat} {L : List Int32} (hb : BL s b w L cap) (j : Nat) : L.getD j 0 = nI (vc L j) := by
  by_cases c : j < L.length
  · exact hb.gv c
  · have e : L.getD j 0 = 0 := by rw [List.getD_eq_getElem?_getD, List.getElem?_eq_none (by omega)]; rfl
    unfold vc
    rw [e]
    rfl
end Br
