/-! A table is told on an interface, one family: both sides. -/
abbrev Rtl : List Nat := [2, 3, 4, 5, 6, 7, 8, 12, 13, 18, 25, 29, 30, 33, 34, 35, 104, 113, 114, 116, 119, 125, 127, 129]
abbrev Ptl : List (Nat × Nat) := [(0, 2), (28, 4), (28, 5), (47, 6), (48, 6), (236, 30), (166, 25), (200, 29)]
abbrev Qtl : List Nat := Qfl ++ [144]
abbrev Wtl : List Nat := Wga ++ Wtt
/-- how it goes on behind a telling -/
def TlK (sa : Nat → Nat) (x : Nat) (G H : Nat → Nat → Nat) (s : cS) (t : moS) (kc ks : Nat) (t' : moS) (Q : cS → Nat → Nat → Prop) : Prop := ∀ G' H' s' kc' ks', RR G' H' sa x s' t' → (∀ b, b ≠ 11 → b ≠ 12 → b ≠ 15 → b ≠ 16 → G' b = G b) → hA H H' s → fr Rtl Ptl Qtl s s' → HO G H s t G' s' t' → kc + (PoC s' G' H' t' + tdC G') ≤ kc' + (PoC s G H t + tdC G) → ks + (PoS s' G' H' t' + tdS s' G' H' x) ≤ ks' + (PoS s G H t + tdS s G H x) → Q s' kc' ks'
theorem ar_t1 {kc P T kc' P' : Nat} (h : kc + P' ≤ kc' + P) : kc + (P' + T) ≤ kc' + (P + T) := by omega
theorem ar_t2 {kc P T kc' P' T' : Nat} (h : kc + T' ≤ kc' + T) (hp : P' ≤ P) : kc + (P' + T') ≤ kc' + (P + T) := by omega
theorem ar_t4 {d m N : Nat} (h : d + (m + 1) * 885 < N) : d + m * 885 < N := Nat.lt_of_le_of_lt (Nat.add_le_add_left (Nat.mul_le_mul_right 885 (Nat.le_succ m)) d) h
theorem ar_t3 {kc P T : Nat} (h : P + T ≤ kc) : P ≤ kc ∧ T ≤ kc := by omega
section Tl
variable {G H G' H' : Nat → Nat → Nat} {sa : Nat → Nat} {x kc ks r p l f N : Nat} {s s' : cS} {t t' t1 : moS} {L : List En} {ta : Int32} {th tl : Int64} {Q : cS → Nat → Nat → Prop}
theorem TlK.tr {G1 H1 : Nat → Nat → Nat} {s1 : cS} {kc1 ks1 : Nat} (k : TlK sa x G H s t kc ks t' Q) (g1 : ∀ b, b ≠ 11 → b ≠ 12 → b ≠ 15 → b ≠ 16 → G1 b = G b) (h1 : hA H H1 s) (f1 : fr Rtl Ptl Qtl s s1) (o1 : HO G H s t G1 s1 t1) (c1 : kc + (PoC s1 G1 H1 t1 + tdC G1) ≤ kc1 + (PoC s G H t + tdC G)) (c2 : ks + (PoS s1 G1 H1 t1 + tdS s1 G1 H1 x) ≤ ks1 + (PoS s G H t + tdS s G H x)) : TlK sa x G1 H1 s1 t1 kc1 ks1 t' Q := fun G' H' s' kc' ks' R g h f o b1 b2 => k G' H' s' kc' ks' R (fun b x1 x2 x3 x4 => (g b x1 x2 x3 x4).trans (g1 b x1 x2 x3 x4)) (fun y a ha => (h y a (by rw [(f1 a ha).1]; exact ha)).trans (h1 y a ha)) (f1.tr f) (o1.tr (fun A kA => f1.r kA) h1 o) (ar_6 c1 b1) (ar_6 c2 b2)
theorem pot_g (e : ∀ b, b ≠ 15 → b ≠ 16 → G' b = G b) : PoC s G' H t = PoC s G H t ∧ PoS s G' H t = PoS s G H t := by
  have h : ∀ b, b < 15 → G' b = G b := fun b hb => e b (by omega) (by omega)
  unfold PoC PoS fA fB fL fW fS fT pA pB potC potS plC cpT cpO dN
  rw [h 0 (by decide), h 1 (by decide), h 2 (by decide), h 12 (by decide), h 13 (by decide), h 14 (by decide)]
  exact ⟨rfl, rfl⟩
/-- sent is told -/
theorem SnK.toT {F : Int32} (hT : TDc G H x s F L) (hq : RGl G H sa x s) (k : TlK sa x G H s t kc ks t' Q) : SnK sa x G H s t kc ks t' Q := fun G' H' s' kc' ks' R g h f o b1 b2 => by
  obtain ⟨-, e1, e2⟩ := tdc_fr (sa := sa) hT hq (g 15 (by decide) (by decide)) (g 16 (by decide) (by decide)) h f rfl (by decide) (by decide)
  refine k G' H' s' kc' ks' R (fun b x1 x2 _ _ => g b x1 x2) h f.wk o ?_ ?_
  · rw [e1]; exact ar_t1 b1
  · rw [e2]; exact ar_t1 b2
theorem GaK.toT {F : Int32} (hR : RR G H sa x s t) (hM : MV t) (k : ∀ G' H' s' kc' ks', RR G' H' sa x s' t → (∀ b, b ≠ 15 → b ≠ 16 → G' b = G b) → hA H H' s → fr Rtl Ptl Qtl s s' → TDc G' H' x s' F L → HO G H s t G' s' t → kc + (PoC s' G' H' t + tdC G') ≤ kc' + (PoC s G H t + tdC G) → ks + (PoS s' G' H' t + tdS s' G' H' x) ≤ ks' + (PoS s G H t + tdS s G H x) → Q s' kc' ks') : GaK G H sa x s t F L kc ks Q := fun G' H' s' kc' ks' R g h f d b1 b2 => by
  have pf := pot_fr (G' := G) (H' := H') (t' := t) hR hM f rfl gA.rf h (Nat.le_refl _) (Nat.le_refl _) (fun _ _ => Nat.le_refl _) rfl
  have pg := pot_g (s := s') (H := H') (t := t) g
  refine k G' H' s' kc' ks' R g h f.wk d (fun A kA hF => ⟨hdF.fr f hR.q.1.ty kA rfl (fun _ => by simp) (by decide), ?_⟩) (ar_t2 b1 (by rw [pg.1]; exact pf.1)) (ar_t2 b2 (by rw [pg.2]; exact pf.2))
  unfold hFr
  rw [g 11 (by decide) (by decide), g 12 (by decide) (by decide)]
  exact hF
/-- told on a link that is down: the model alone -/
theorem m_tv (hf : f = 0 ∨ f = 1) (hok : ∀ e, e ∈ L → eOk (nI f) e) (hLen : L.length ≤ 885) (hM : MV t) (hr : r < cR t) (hp : p < cI t r) (hlL : l < cL t) (h71 : t.I 71 (4 * r + p) = nI l) (hV : ∃ V, VV V ∧ MC t (4 * r + p) V) (hE : EN t L) (hz : t.I 22 l = 0) : ∃ t', M_tellTo t (nI (4 * r + p)) (nI f) ta th tl = some t' ∧ mfr [146, 147, 148] t t' := by
  obtain ⟨V, z4, z6⟩ := hV
  have hfa : bit (nI f) := by
    rcases hf with rfl | rfl
    · exact Or.inl rfl
    · exact Or.inr rfl
  obtain ⟨⟨n, hn, en⟩, -⟩ := m_most (nn := t.I 89 (4 * r + p)) (cmd := 2) hM hr hp hf hlL h71 z4 z6
  obtain ⟨t', e1, m1⟩ := m_vain (ta := ta) (th := th) (tl := tl) (q := nI (4 * r + p)) (N := n) hE hM (by omega) hfa hok hn (fun t1 n1 m1 hn1 hE1 => by
    obtain ⟨E, hE1, hE2⟩ := hE1
    have hM1 : MV t1 := hM.fr m1 rfl (hM.1.fr m1 rfl)
    have hC1 : MC t1 (4 * r + p) V := by
      unfold MC at z6 ⊢
      rw [m1.I 79 (by decide), m1.I 80 (by decide), m1.I 81 (by decide), m1.I 82 (by decide), m1.I 83 (by decide), m1.I 84 (by decide), m1.I 85 (by decide), m1.I 86 (by decide), m1.I 87 (by decide), m1.I 88 (by decide)]
      exact z6
    obtain ⟨g1, -, -⟩ := m_send (cmd := 2) (ta := ta) (th := th) (tl := tl) (m := n1) (E := E) hM1 (by unfold cR; rw [m1.S 37 (by decide)]; exact hr) (by unfold cI; rw [m1.I 70 (by decide)]; exact hp) hf (by unfold cL; rw [m1.S 17 (by decide)]; exact hlL) (by rw [m1.I 71 (by decide)]; exact h71) z4 hC1 hE1 (by omega) hE2 (fun _ => by omega)
    rw [m1.I 22 (by decide)] at g1
    exact ⟨t1, g1 hz, mfr.rf⟩)
  refine ⟨t', ?_, m1⟩
  unfold M_tellTo
  rw [en]
  exact e1
/-- to the neighbors of a family, from neighbor j on -/
theorem tl_nb (hf : f = 0 ∨ f = 1) (hok : ∀ e, e ∈ L → eOk (nI f) e) (hLen : L.length ≤ 885) {how a2 : Int32} {P2 : Int32 → cS → Nat → Nat → Prop} {P20 : Int32 → cS → Nat → Nat → Prop} {NB : Nat} (hNB4 : NB ≤ 4) : ∀ (m j : Nat), j + m = NB → ∀ (G H : Nat → Nat → Nat) (s : cS) (t : moS) (kc ks : Nat), RR G H sa x s t → MV t → r < cR t → p < cI t r → l < cL t → t.I 71 (4 * r + p) = nI l → t.I 75 (2 * (4 * r + p) + f) ≠ 0 → t.I 95 (4 * r + p) = nI NB → TDc G H x s (nI f) L → EN t L → (∃ d, t.I 23 l = nI d ∧ d + m * 885 < 2 ^ 31) → PoC s G H t + tdC G ≤ kc → PoS s G H t + tdS s G H x ≤ ks → (∀ t', M_tell_b53 t (nI (4 * r + p)) how (nI f) (nI (4 * (4 * r + p) + j)) = some (.inl (nI f + 1, t')) → MV t' → mfr Wtt t t' → SB l (m * 885) t t' → SD t t' → TlK sa x G H s t kc ks t' (fun s' kc' ks' => P20 (fam (nI f) + 2) s' kc' ks')) → C_Rr_tell_b75 sa (G 1 r) how a2 (some (G 2 (4 * r + p))) (fam (nI f)) (nI j) s kc ks Q P2 P20 := by
  intro m
  induction m with
  | zero =>
    intro j hj G H s t kc ks hR hM hr hp hlL h71 h75 hNB hT hE hs hkc hks k P75 hc
    refine hc _ _ _ _ ?_
    have h6 := hM.nR
    have h4 := hM.nIf hr
    have hq := hR.q.1
    have hj : j = NB := by omega
    subst hj
    obtain ⟨⟨k8, -⟩, -, -, ⟨-, -, -, -, e92, -⟩, -⟩ := hq.po hr hp
    have em : M_tell_b53 t (nI (4 * r + p)) how (nI f) (nI (4 * (4 * r + p) + j)) = some (.inl (nI f + 1, t)) := by
      unfold M_tell_b53
      refine lp_x ?_
      show M_tell_s53 t (nI (4 * r + p)) how (nI f) (nI (4 * (4 * r + p) + j)) = _
      unfold M_tell_s53
      rw [rdI_n (n := 24) (hM.n.n 95 24) (by omega) (by decide), hNB]
      simp only [Option.bind_some]
      rw [show (4 : Int32) * nI (4 * r + p) + nI j = nI (4 * (4 * r + p) + j) by rw [show (4 : Int32) = nI 4 from rfl, pk_mul, nI_add], if_neg (nI_nlt (Nat.le_refl _) (by omega))]
      rfl
    unfold C_Rr_tell_s75
    refine ⟨_, rfl, _, gd_to (okr k8 4), ?_⟩
    rw [show s.I (20 * 4 + 12) (G 2 (4 * r + p)) = nI j from e92.trans hNB]
    refine ifF (nI_nlt (Nat.le_refl _) (by omega)) ?_
    unfold C_Rr_tell_b119
    exact k t em hM mfr.rf SB.rf SD.rf G H s kc ks hR (fun _ _ _ _ _ => rfl) hA.rf fr.rf (HO.rf rfl) (Nat.le_refl _) (Nat.le_refl _)
  | succ m ih =>
    intro j hj G H s t kc ks hR hM hr hp hlL h71 h75 hNB hT hE hs hkc hks k P75 hc
    refine hc _ _ _ _ ?_
    have h6 := hM.nR
    have h4 := hM.nIf hr
    have hq := hR.q.1
    have hjN : j < NB := by omega
    obtain ⟨⟨k8, -⟩, -, -, ⟨-, -, -, -, e92, -⟩, -, nbs, -⟩ := hq.po hr hp
    rw [hNB, nI_clamp (by omega)] at nbs
    obtain ⟨a, n, q1, q2, w1, w2, w3, w4⟩ := nbs j hjN
    have p91 := hq.ty.r k8 91 137 4
    have o4 : okO s 4 (G 2 (4 * r + p)) := okr k8 4
    have k26 := (hq.rt hr).1.1
    have o9 : okO s 9 (G 1 r) := okr k26 9
    have b96 := ((hM.r hr).i hp).2.2.2.2.2.2.2.2.2.2.2.2.2.2.2.2.1 j (by rw [hNB, nI_clamp (by omega)]; exact hjN)
    have hfa : bit (nI f) := by
      rcases hf with rfl | rfl
      · exact Or.inl rfl
      · exact Or.inr rfl
    have e4 : (4 : Int32) * nI (4 * r + p) + nI NB = nI (4 * (4 * r + p) + NB) := by rw [show (4 : Int32) = nI 4 from rfl, pk_mul, nI_add]
    unfold C_Rr_tell_s75
    refine ⟨_, rfl, _, gd_to o4, ?_⟩
    rw [show s.I (20 * 4 + 12) (G 2 (4 * r + p)) = nI NB from e92.trans hNB]
    refine ifT (nI_lt hjN (by omega)) ⟨_, gd_to o4, _, p91.1, _, rd_Q p91.2 (by decide) (show j < 4 by omega) (by decide) q1, a, rfl, _, gd_to (okr q2 5), ?_⟩
    rw [show s.I (20 * 5 + 0) a = fam (t.I 96 (4 * (4 * r + p) + j)) from w1]
    by_cases c1 : t.I 96 (4 * (4 * r + p) + j) = nI f
    · refine ifT (by rw [c1]) ⟨_, gd_to o4, _, p91.1, _, rd_Q p91.2 (by decide) (show j < 4 by omega) (by decide) q1, o9, ?_⟩
      obtain ⟨hk1, hk2⟩ := ar_t3 hkc
      obtain ⟨hk3, hk4⟩ := ar_t3 hks
      refine tt_all (ta := 0) (th := t.J 97 (4 * (4 * r + p) + j)) (tl := t.J 98 (4 * (4 * r + p) + j)) hf hok hLen hR hM hr hp hlL h71 h75 hT hE (Or.inr ⟨a, rfl, rfl, by rw [w1, c1], w2, w3, Or.inl q2⟩) ?_ hk1 hk3 fun t2 g1 hM2 m2 sb2 sd2 => ?_
      · obtain ⟨d, e, hd⟩ := hs
        exact ⟨d, e, by omega⟩
      have st : M_tell_s53 t (nI (4 * r + p)) how (nI f) (nI (4 * (4 * r + p) + j)) = some (.inl (nI (4 * (4 * r + p) + (j + 1)), t2)) := by
        unfold M_tell_s53 M_tell_b100
        rw [rdI_n (n := 24) (hM.n.n 95 24) (by omega) (by decide), hNB]
        simp only [Option.bind_some]
        rw [e4, if_pos (nI_lt (by omega) (by omega)), rdI_n (n := 96) (hM.n.n 96 96) (by omega) (by decide)]
        simp only [Option.bind_some]
        rw [if_pos c1, rdJ_n (n := 96) (hM.n.n 97 96) (by omega) (by decide), rdJ_n (n := 96) (hM.n.n 98 96) (by omega) (by decide)]
        simp only [Option.bind_some]
        rw [g1]
        simp only [Option.bind_some]
        rw [nI_1]
        rfl
      have em : M_tell_b53 t (nI (4 * r + p)) how (nI f) (nI (4 * (4 * r + p) + j)) = M_tell_b53 t2 (nI (4 * r + p)) how (nI f) (nI (4 * (4 * r + p) + (j + 1))) := by
        unfold M_tell_b53
        exact lp_l (f := fun x : Int32 × moS => M_tell_s53 x.2 (nI (4 * r + p)) how (nI f) x.1) st
      intro G3 H3 s3 kc3 ks3 R3 g3 h3 f3 o3 c3 c4
      obtain ⟨hT3, et1, et2⟩ := tdc_fr (sa := sa) hT hq.1 (g3 15 (by decide) (by decide)) (g3 16 (by decide) (by decide)) h3 f3 rfl (by decide) (by decide)
      have e1 : G3 1 = G 1 := g3 1 (by decide) (by decide)
      have e2 : G3 2 = G 2 := g3 2 (by decide) (by decide)
      have hc' := hc
      rw [← e1, ← e2] at hc'
      have x1 : kc + (PoC s3 G3 H3 t2 + tdC G3) ≤ kc3 + (PoC s G H t + tdC G) := by rw [et1]; exact ar_t1 c3
      have x2 : ks + (PoS s3 G3 H3 t2 + tdS s3 G3 H3 x) ≤ ks3 + (PoS s G H t + tdS s G H x) := by rw [et2]; exact ar_t1 c4
      unfold C_Rr_tell_b113
      rw [nI_1]
      refine ih (j + 1) (by omega) G3 H3 s3 t2 kc3 ks3 R3 hM2 (by unfold cR; rw [m2.S 37 (by decide)]; exact hr) (by unfold cI; rw [m2.I 70 (by decide)]; exact hp) (by unfold cL; rw [m2.S 17 (by decide)]; exact hlL) (by rw [m2.I 71 (by decide)]; exact h71) (by rw [m2.I 75 (by decide)]; exact h75) (by rw [m2.I 95 (by decide)]; exact hNB) hT3 (hE.fr m2 rfl) ?_ (ar_7 x1 hkc) (ar_7 x2 hks) (fun t' y1 y2 y3 y4 y5 => ?_) P75 hc'
      · obtain ⟨d, e, hd⟩ := hs
        obtain ⟨-, d', hd', e'⟩ := sb2
        exact ⟨d + d', by rw [e', e, nI_add], by omega⟩
      · exact (k t' (em.trans y1) y2 (m2.tr y3) ((sb2.tr y4).wk (by omega)) (sd2.tr y5)).tr (fun b z1 z2 _ _ => g3 b z1 z2) h3 f3.wk o3 x1 x2
    · refine ifF (fun z => c1 ((fam_i b96 hfa).mp z)) ?_
      have st : M_tell_s53 t (nI (4 * r + p)) how (nI f) (nI (4 * (4 * r + p) + j)) = some (.inl (nI (4 * (4 * r + p) + (j + 1)), t)) := by
        unfold M_tell_s53 M_tell_b100
        rw [rdI_n (n := 24) (hM.n.n 95 24) (by omega) (by decide), hNB]
        simp only [Option.bind_some]
        rw [e4, if_pos (nI_lt (by omega) (by omega)), rdI_n (n := 96) (hM.n.n 96 96) (by omega) (by decide)]
        simp only [Option.bind_some]
        rw [if_neg c1, nI_1]
        rfl
      have em : M_tell_b53 t (nI (4 * r + p)) how (nI f) (nI (4 * (4 * r + p) + j)) = M_tell_b53 t (nI (4 * r + p)) how (nI f) (nI (4 * (4 * r + p) + (j + 1))) := by
        unfold M_tell_b53
        exact lp_l (f := fun x : Int32 × moS => M_tell_s53 x.2 (nI (4 * r + p)) how (nI f) x.1) st
      unfold C_Rr_tell_b113
      rw [nI_1]
      refine ih (j + 1) (by omega) G H s t kc ks hR hM hr hp hlL h71 h75 hNB hT hE ?_ hkc hks (fun t' y1 y2 y3 y4 y5 => k t' (em.trans y1) y2 y3 (y4.wk (by omega)) y5) P75 hc
      obtain ⟨d, e, hd⟩ := hs
      exact ⟨d, e, ar_t4 hd⟩
end Tl
