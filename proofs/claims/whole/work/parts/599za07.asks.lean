/-! A router is started: requests on all interfaces. -/
section Ak
variable {G H G' H' : Nat → Nat → Nat} {sa : Nat → Nat} {x r p f kc ks kc' ks' : Nat} {s s' : cS} {t t' : moS} {Os : Nat → List Pf} {Q : cS → Nat → Nat → Prop}
/-- what was told stays -/
theorem td_same {Rv Rq : List Nat} {Gp : List (Nat × Nat)} (hq : RGl G H sa x s) (e15 : G' 15 = G 15) (hh : hA H H' s) (g : fr Rv Gp Rq s s') (p200 : s'.P 200 (H 237 x) = s.P 200 (H 237 x)) : tdC G' = tdC G ∧ tdS s' G' H' x = tdS s G H x := by
  have eH : H' 237 x = H 237 x := hh 237 x (by rw [hq.1]; decide)
  obtain ⟨n, a1, a2, a3, w, cap, b1, b2, -⟩ := hq.2.2.2.2.1
  refine ⟨by unfold tdC; rw [e15], ?_⟩
  unfold tdS cpD
  rw [eH, e15, p200, b1]
  show 24 * _ + (_ - 2 * (s'.K w).2) = 24 * _ + (_ - 2 * (s.K w).2)
  rw [(g w (by rw [b2]; exact (by decide : (144 : Nat) ≠ 0))).1]
theorem SnK.tu (hq : RGl G H sa x s) (k : TuK sa x G H s t kc ks t' Q) : SnK sa x G H s t kc ks t' Q := fun G' H' s' kc' ks' R g h f o b1 b2 => by
  obtain ⟨e1, e2⟩ := td_same (G' := G') (H' := H') hq (g 15 (by decide) (by decide)) h f (f.p ((hq.2.1.p hq.1 237 29).2) (by decide))
  exact k G' H' s' kc' ks' R ⟨g 0 (by decide) (by decide), g 1 (by decide) (by decide), g 2 (by decide) (by decide)⟩ h f.wk o (by rw [e1]; exact ar_t1 b1) (by rw [e2]; exact ar_t1 b2)
/-- a request, if there is an address -/
theorem rq_sn (hR : RR G H sa x s t) (hM : MV t) (hE : EX Os t) (hr : r < cR t) (hp : p < cI t r) (hf : f = 0 ∨ f = 1) (hs : ∀ i, i < cL t → ¬ t.I 23 i + 1 < 0) (hkc : PoC s G H t ≤ kc) (hks : PoS s G H t ≤ ks) : ∃ t', (if t.I 75 (2 * (4 * r + p) + f) = 0 then some t else M_request t (nI (4 * r + p)) (nI f)) = some t' ∧ MV t' ∧ EX Os t' ∧ mfr ([146] ++ Wsd) t t' ∧ (∀ i, t'.I 23 i = t.I 23 i ∨ t'.I 23 i = t.I 23 i + 1) ∧ ∀ Q, SnK sa x G H s t kc ks t' Q → C_Rr_ask sa (G 1 r) (some (G 2 (4 * r + p))) (fam (nI f)) s kc ks Q := by
  by_cases h75 : t.I 75 (2 * (4 * r + p) + f) = 0
  · rw [if_pos h75]
    exact ⟨t, rfl, hM, hE, mfr.rf, fun _ => Or.inl rfl, fun Q k => c_ask0 hR hM hr hp hf h75 (k G H s kc ks hR (fun _ _ _ => rfl) hA.rf fr.rf (HO.rf rfl) (Nat.le_refl _) (Nat.le_refl _))⟩
  rw [if_neg h75]
  have h6 := hM.nR
  have h4 := hM.nIf hr
  have h10 : cL t ≤ 10 := hM.1.2.2.2.2.2.1.n.2.2
  obtain ⟨-, ⟨y1, y2, y3, y4, y5, y6, y7, y8⟩, ⟨z1, z2, z3, z4, z5, z6⟩, -⟩ := px_of hR hM hr hp
  generalize hl : (t.I 71 (4 * r + p)).toNatClampNeg = l at y3 y4 y5 y6 y7
  generalize hV : mcV t (4 * r + p) = V at z4 z5 z6
  obtain ⟨te, g1, g2, g3⟩ := m_request (t := t) hM.n (p1 := nI (4 * r + p)) (p2 := nI f)
  have hMe : MV te := hM.fr g2 rfl (hM.1.fr g2 rfl)
  have hCe : MC te (4 * r + p) V := by
    unfold MC at z6 ⊢
    rw [g2.I 79 (by decide), g2.I 80 (by decide), g2.I 81 (by decide), g2.I 82 (by decide), g2.I 83 (by decide), g2.I 84 (by decide), g2.I 85 (by decide), g2.I 86 (by decide), g2.I 87 (by decide), g2.I 88 (by decide)]
    exact z6
  have hre : r < cR te := by unfold cR; rw [g2.S 37 (by decide)]; exact hr
  have hpe : p < cI te r := by unfold cI; rw [g2.I 70 (by decide)]; exact hp
  have hle : l < cL te := by unfold cL; rw [g2.S 17 (by decide)]; exact y4
  have h71e : te.I 71 (4 * r + p) = nI l := by rw [g2.I 71 (by decide)]; exact y5
  have h23e : te.I 23 = t.I 23 := g2.I 23 (by decide)
  have hsl := hs l y4
  obtain ⟨t', q1, q2, q3, q4⟩ := m_sendM (E := askE) (cmd := 1) (m := 1) (ta := 1) (th := 0) (tl := 0) hMe hre hpe hf hle h71e z4 hCe rfl (by decide) g3 (Or.inr rfl) (by rw [h23e]; exact hsl)
  rw [h23e] at q4
  have mm : mfr ([146] ++ Wsd) t t' := (g2.wk (by decide)).tr (q3.wk (by decide))
  refine ⟨t', by rw [g1, q1], q2, hE.sd hM q2 mm, mm, i23 q4, fun Q k => ?_⟩
  have Re : RR G H sa x s te := rr_fr hR hM hR.q.1.1 (fr.rf (Rv := []) (Gp := []) (Rq := [])) g2 rfl rfl rfl rfl rfl rfl rfl
  have ec := pot_t (G := G) (H := H) (s := s) g2 rfl
  obtain ⟨w1, w2⟩ := pot_p (G := G) (H := H) (s := s) hMe hre hpe hle
  refine c_ask Re hMe hre hpe hf (l := l) (by rw [h71e, nI_clamp (by omega)]) rfl (by rw [g2.I 75 (by decide)]; exact h75) g3 (by rw [h23e]; exact hsl) (Nat.le_trans (Nat.le_trans (ar_50 w1) (Nat.le_of_eq ec.1)) hkc) (Nat.le_trans (Nat.le_trans (ar_5 w2) (Nat.le_of_eq ec.2)) hks) q1 ?_
  intro G3 H3 s3 kc3 ks3 R3 d1 d2 d3 d4 d5 d6 d7 o3
  obtain ⟨u1, u2⟩ := pot_ask (kc := kc) (kc' := kc3) (ks := ks) (ks' := ks3) Re hMe hre hpe hle rfl q3 d1 d2 d3 d4 d5 d6 d7
  rw [ec.1] at u1
  rw [ec.2] at u2
  exact k G3 H3 s3 kc3 ks3 R3 d1 d2 d3 (HO.pre (fun _ _ _ => hdF.rf) (by unfold cF; rw [g2.S 123 (by decide)]) (fun _ h => h) o3) u1 u2
theorem mfr_sy {W : List Nat} (h : mfr W t t') : mfr W t' t := ⟨fun k hk => ⟨(h.1 k hk).1.symm, (h.1 k hk).2.1.symm, (h.1 k hk).2.2.1.symm, (h.1 k hk).2.2.2.symm⟩, fun k hk => (h.2 k hk).symm⟩
theorem ar_a1 {d m N : Nat} (h : d + 2 * (m + 1) + 1 < N) : d + 2 * m + 1 < N := by omega
theorem st_asks {v : Int32} : ∀ (m p : Nat) (G H : Nat → Nat → Nat) (s : cS) (t : moS) (kc ks : Nat), p + m = cI t r → RR G H sa x s (moSI t 43 r v) → MV (moSI t 43 r v) → EX Os (moSI t 43 r v) → r < cR t → v = t.S 1 + t.I 40 r → (∀ j, j < 10 → ∃ d, t.I 23 j = nI d ∧ d + 2 * m + 1 < 2 ^ 31) → PoC s G H (moSI t 43 r v) + tdC G ≤ kc → PoS s G H (moSI t 43 r v) + tdS s G H x ≤ ks → ∀ Q : cS → Nat → Nat → Prop, (∀ t', M_run_b75 t (nI r) (nI (4 * r + p)) = some (1, t') → MV t' → EX Os t' → mfr ([43, 146] ++ Wsd) t t' → (∀ j, ∃ d, d ≤ 2 * m ∧ t'.I 23 j = t.I 23 j + nI d) → TuK sa x G H s (moSI t 43 r v) kc ks t' Q) → C_Rr_start_b86 sa (G 1 r) (nI p) s kc ks Q
  | 0, p, G, H, s, t, kc, ks, hpm, hR, hM, hE, hr, hv, hs, hkc, hks, Q, k => by
    intro P86 hc
    refine hc _ _ _ _ ?_
    have hr' : r < cR (moSI t 43 r v) := hr
    have h6 : cR t ≤ 6 := hM.nR
    have h4 : cI t r ≤ 4 := hM.nIf hr'
    have hq := hR.q.1
    have e70 : t.I 70 r = nI (cI t r) := (hM.r hr').2.2.2.2.2.2.2.2.2.1.n.1
    have i185 : s.I 185 (G 1 r) = t.I 70 r := (hq.rt hr').2.2.1.2.2.1
    unfold C_Rr_start_s86
    refine ⟨_, gd_to (okr (hq.rt hr').1.1 9), ?_⟩
    rw [show s.I (20 * 9 + 5) (G 1 r) = nI (cI t r) from i185.trans e70]
    refine ifF (nI_nlt (by omega) (by omega)) (k (moSI t 43 r v) ?_ hM hE (mfr.si (by decide)) (fun j => ⟨0, by omega, by rw [show nI 0 = 0 from rfl, Int32.add_zero]; rfl⟩) G H s kc ks hR ⟨rfl, rfl, rfl⟩ hA.rf fr.rf (HO.rf rfl) (Nat.le_refl _) (Nat.le_refl _))
    unfold M_run_b75
    refine lp_x ?_
    show M_run_s75 t (nI r) (nI (4 * r + p)) = _
    unfold M_run_s75
    rw [rdI_n (t := t) (n := 6) (hM.n.n 70 6) (by omega) (by decide), e70]
    simp only [Option.bind_some]
    rw [show (4 : Int32) * nI r + nI (cI t r) = nI (4 * r + cI t r) by rw [show (4 : Int32) = nI 4 from rfl, pk_mul, nI_add], if_neg (nI_nlt (by omega) (by omega)), rdI_n (t := t) (n := 6) (hM.n.n 40 6) (by omega) (by decide)]
    simp only [Option.bind_some]
    rw [wrI_n (t := t) (n := 6) (hM.n.n 43 6) (by omega) (by decide), ← hv]
    rfl
  | m + 1, p, G, H, s, t, kc, ks, hpm, hR, hM, hE, hr, hv, hs, hkc, hks, Q, k => by
    intro P86 hc
    refine hc _ _ _ _ ?_
    have hr' : r < cR (moSI t 43 r v) := hr
    have h6 : cR t ≤ 6 := hM.nR
    have h4 : cI t r ≤ 4 := hM.nIf hr'
    have hq := hR.q.1
    have hp : p < cI t r := by omega
    have hp' : p < cI (moSI t 43 r v) r := hp
    have e70 : t.I 70 r = nI (cI t r) := (hM.r hr').2.2.2.2.2.2.2.2.2.1.n.1
    have i185 : s.I 185 (G 1 r) = t.I 70 r := (hq.rt hr').2.2.1.2.2.1
    have k26 := (hq.rt hr').1.1
    have p184 := hq.ty.r k26 184 139 4
    have hP := (hq.po hr' hp').1.2.1
    have neg : ∀ {u : moS} {n : Nat}, (∀ j, j < 10 → ∃ d, u.I 23 j = nI d ∧ d + n + 1 < 2 ^ 31) → ∀ i, i < 10 → ¬ u.I 23 i + 1 < 0 := fun h i hi => by
      obtain ⟨d, e, hd⟩ := h i hi
      rw [e, nI_1]
      exact nI_pos (by omega)
    obtain ⟨hkc1, hkc2⟩ := ar_t3 hkc
    obtain ⟨hks1, hks2⟩ := ar_t3 hks
    have hs0 : ∀ j, j < 10 → ∃ d, (moSI t 43 r v).I 23 j = nI d ∧ d + (2 * (m + 1)) + 1 < 2 ^ 31 := hs
    unfold C_Rr_start_s86
    refine ⟨_, gd_to (okr k26 9), ?_⟩
    rw [show s.I (20 * 9 + 5) (G 1 r) = nI (cI t r) from i185.trans e70]
    refine ifT (nI_lt hp (by omega)) ⟨_, gd_to (okr k26 9), _, p184.1, _, rd_Q p184.2 (by decide) (show p < 4 by omega) (by decide) hP, okr k26 9, ?_⟩
    obtain ⟨t1, a1, a2, a3, a4, a5, a6⟩ := rq_sn (f := 0) hR hM hE hr' hp' (Or.inl rfl) (fun i hi => neg hs0 i (Nat.lt_of_lt_of_le hi hM.nL)) hkc1 hks1
    refine a6 _ (SnK.tu hq.1 ?_)
    intro G1 H1 s1 kc1 ks1 R1 g1 h1 f1 o1 c1 c2
    have hr1 : r < cR t1 := by unfold cR; rw [a4.S 37 (by decide)]; exact hr'
    have hp1 : p < cI t1 r := by unfold cI; rw [a4.I 70 (by decide)]; exact hp'
    have q1 := R1.q.1
    have k26' := (q1.rt hr1).1.1
    have p184' := q1.ty.r k26' 184 139 4
    have hP' := (q1.po hr1 hp1).1.2.1
    have hkc' := ar_7 c1 hkc
    have hks' := ar_7 c2 hks
    have hs1 : ∀ j, j < 10 → ∃ d, t1.I 23 j = nI d ∧ d + (2 * m + 1) + 1 < 2 ^ 31 := fun j hj => by
      obtain ⟨d, e, hd⟩ := hs0 j hj
      rcases a5 j with z | z
      · exact ⟨d, by rw [z, e], by omega⟩
      · exact ⟨d + 1, by rw [z, e, nI_1], by omega⟩
    obtain ⟨t2, b1, b2, b3, b4, b5, b6⟩ := rq_sn (f := 1) R1 a2 a3 hr1 hp1 (Or.inr rfl) (fun i hi => neg hs1 i (Nat.lt_of_lt_of_le hi a2.nL)) (ar_t3 hkc').1 (ar_t3 hks').1
    rw [← g1.2.1]
    refine ⟨_, gd_to (okr k26' 9), _, p184'.1, _, rd_Q p184'.2 (by decide) (show p < 4 by omega) (by decide) hP', okr k26' 9, ?_⟩
    refine b6 _ (SnK.tu q1.1 ?_)
    intro G2 H2 s2 kc2 ks2 R2 g2 h2 f2 o2 c3 c4
    have er := m_reqs (q := 4 * r + p) hM a2 (by omega) a1 b1
    rw [cM_requests rfl] at er
    cases eu : M_requests t (nI (4 * r + p)) with
    | none => rw [eu] at er; cases er
    | some u =>
      rw [eu] at er
      cases er
      have mu : mfr ([146] ++ Wsd) (moSI t 43 r v) (moSI u 43 r v) := a4.tr b4
      have mtu : mfr ([43, 146] ++ Wsd) t u := ((mfr.si (by decide)).tr (mu.wk (by decide))).tr (mfr_sy (mfr.si (by decide)))
      have st : M_run_s75 t (nI r) (nI (4 * r + p)) = some (.inl (nI (4 * r + (p + 1)), u)) := by
        unfold M_run_s75
        rw [rdI_n (t := t) (n := 6) (hM.n.n 70 6) (by omega) (by decide), e70]
        simp only [Option.bind_some]
        rw [show (4 : Int32) * nI r + nI (cI t r) = nI (4 * r + cI t r) by rw [show (4 : Int32) = nI 4 from rfl, pk_mul, nI_add], if_pos (nI_lt (by omega) (by omega)), eu]
        simp only [Option.bind_some]
        rw [nI_1]
        rfl
      have em : M_run_b75 t (nI r) (nI (4 * r + p)) = M_run_b75 u (nI r) (nI (4 * r + (p + 1))) := by
        unfold M_run_b75
        exact lp_l (f := fun x : Int32 × moS => M_run_s75 x.2 (nI r) x.1) st
      have h23 : ∀ j, ∃ d, d ≤ 2 ∧ u.I 23 j = t.I 23 j + nI d := fun j => by
        have w1 : t1.I 23 j = t.I 23 j ∨ t1.I 23 j = t.I 23 j + 1 := a5 j
        have w2 : u.I 23 j = t1.I 23 j ∨ u.I 23 j = t1.I 23 j + 1 := b5 j
        rcases w1 with y | y <;> rcases w2 with z | z <;> rw [z, y]
        · exact ⟨0, by omega, by rw [show nI 0 = 0 from rfl, Int32.add_zero]⟩
        · exact ⟨1, by omega, rfl⟩
        · exact ⟨1, by omega, rfl⟩
        · exact ⟨2, by omega, by rw [Int32.add_assoc]; rfl⟩
      rw [nI_1]
      have hc' := hc
      rw [show G 1 = G2 1 from (g2.2.1.trans g1.2.1).symm] at hc'
      have x1 := ar_6 c1 c3
      have x2 := ar_6 c2 c4
      refine st_asks m (p + 1) G2 H2 s2 u kc2 ks2 (by unfold cI; rw [mtu.I 70 (by decide)]; show p + 1 + m = cI t r; omega) R2 b2 b3 (by unfold cR; rw [mtu.S 37 (by decide)]; exact hr) (by rw [mtu.S 1 (by decide), mtu.I 40 (by decide)]; exact hv) (fun j hj => ?_) (ar_7 x1 hkc) (ar_7 x2 hks) Q (fun t' y1 y2 y3 y4 y5 => ?_) P86 hc'
      · obtain ⟨d, e, hd⟩ := hs j hj
        obtain ⟨d', h', e'⟩ := h23 j
        exact ⟨d + d', by rw [e', e, nI_add], by omega⟩
      · refine (k t' (em.trans y1) y2 y3 (mtu.tr y4) (fun j => ?_)).tr ⟨g2.1.trans g1.1, g2.2.1.trans g1.2.1, g2.2.2.trans g1.2.2⟩ (fun y a ha => (h2 y a (by rw [(f1 a ha).1]; exact ha)).trans (h1 y a ha)) (f1.tr f2) (o1.tr (fun A kA => f1.r kA) h1 o2) x1 x2
        obtain ⟨d, h', e'⟩ := h23 j
        obtain ⟨d2, h2', e2'⟩ := y5 j
        exact ⟨d + d2, by omega, by rw [e2', e', Int32.add_assoc, nI_add]⟩
end Ak
