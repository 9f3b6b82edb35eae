/-! A router is started: both sides. -/
abbrev Wsr : List Nat := [39, 43, 146] ++ (Wrow ++ Wsd)
section Sc
variable {G H G1 H1 : Nat → Nat → Nat} {sa : Nat → Nat} {x r kc ks kc1 ks1 : Nat} {s s1 : cS} {t t' : moS} {Q : cS → Nat → Nat → Prop} {Os : Nat → List Pf} {K : List Pf}
theorem moSI_id {k i : Nat} {v : Int32} (h : t.I k i = v) : moSI t k i v = t := by
  unfold moSI
  refine Prod.ext rfl (Prod.ext rfl (Prod.ext (funext fun j => ?_) rfl))
  show (if j = k then upd (t.I k) i v else t.I j) = t.I j
  by_cases c : j = k
  · subst c
    rw [if_pos rfl]
    funext y
    by_cases d : y = i
    · subst d
      rw [upd_s]
      exact h.symm
    · rw [upd_n d]
  · rw [if_neg c]
theorem tu_set {t1 : moS} (k : TuK sa x G H s t kc ks t' Q) (hR : RR G H sa x s t) (hM : MV t) (hr : r < cR t) (m : mfr Wrow t t1) (g1 : ∀ b, b ≠ 4 → b ≠ 13 → G1 b = G b) (g2 : ∀ r', r' ≠ r → G1 13 r' = G 13 r') (hh : hA H H1 s) (f : fr Rtb Ptb Qtb s s1) (pp : ∀ b g, b ≠ H 186 (G 1 r) → (s.K b).1 ≠ 0 → g ≠ 166 → s1.P g b = s.P g b) (k1 : kc + potC G1 r ≤ kc1 + potC G r) (k2 : ks + potS s1 G1 H1 r ≤ ks1 + potS s G H r) : TuK sa x G1 H1 s1 t1 kc1 ks1 t' Q ∧ kc + (PoC s1 G1 H1 t1 + tdC G1) ≤ kc1 + (PoC s G H t + tdC G) ∧ ks + (PoS s1 G1 H1 t1 + tdS s1 G1 H1 x) ≤ ks1 + (PoS s G H t + tdS s G H x) := by
  have hq := hR.q.1
  have hT := hq.ty
  have k237 := (hT.p hq.1.1 237 29).2
  have k186 := (hT.p (hq.rt hr).1.1 186 27).2
  obtain ⟨b1, b2⟩ := pot_set (kc := kc) (kc' := kc1) (ks := ks) (ks' := ks1) hR hM hr m g1 g2 hh f pp k1 k2
  obtain ⟨e1, e2⟩ := td_same (G' := G1) (H' := H1) hq.1 (g1 15 (by decide) (by decide)) hh f (pp _ 200 (ne_ro k237 k186) (by rw [k237]; decide) (by decide))
  have c1 : kc + (PoC s1 G1 H1 t1 + tdC G1) ≤ kc1 + (PoC s G H t + tdC G) := by rw [e1]; exact ar_t1 b1
  have c2 : ks + (PoS s1 G1 H1 t1 + tdS s1 G1 H1 x) ≤ ks1 + (PoS s G H t + tdS s G H x) := by rw [e2]; exact ar_t1 b2
  refine ⟨k.tr ⟨g1 0 (by decide) (by decide), g1 1 (by decide) (by decide), g1 2 (by decide) (by decide)⟩ hh f.wk (fun A kA hA' => ⟨hdF.fr f hT kA rfl (fun g z => ?_) (by decide), ?_⟩) c1 c2, c1, c2⟩
  · have : ∀ e, e ∈ Ptb → e.2 ≠ 6 := by decide
    exact this _ z rfl
  · unfold hFr cF at hA' ⊢
    rw [g1 11 (by decide) (by decide), g1 12 (by decide) (by decide), m.S 123 (by decide)]
    exact hA'
theorem pot_r (hM : MV t) (hr : r < cR t) : potC G r ≤ PoC s G H t ∧ potS s G H r ≤ PoS s G H t := by
  have h6 := hM.nR
  have a := sm_ge (f := fA G t) (show r < 6 by omega)
  have b := sm_ge (f := fB s G H t) (show r < 6 by omega)
  rw [show fA G t r = pA G r from if_pos hr] at a
  rw [show fB s G H t r = pB s G H r from if_pos hr] at b
  unfold PoC PoS
  unfold pA at a
  unfold pB at b
  omega
theorem ar_s1 {P T z kc : Nat} (h : P + T ≤ kc) (hz : z ≤ P) : z ≤ kc := by omega
theorem c_start (hR : RR G H sa x s t) (hM : MV t) (hAg : AGs t) (hE : EX Os t) (hO : ∀ r, (Os r).length ≤ 760) (hr : r < cR t) (h39 : t.I 39 r = 0) (hN : cN t r = 0) (h44 : t.I 44 r = -1) (hs : ∀ j, j < 10 → ∃ d, t.I 23 j = nI d ∧ d + 9 < 2 ^ 31) (hkc : PoC s G H t + tdC G ≤ kc) (hks : PoS s G H t + tdS s G H x ≤ ks) (k : ∀ t', M_run_b39 t (nI r) 1 = some (1, t') → MV t' → AGs t' → EX Os t' → mfr Wsr t t' → (∀ j, ∃ d, d ≤ 8 ∧ t'.I 23 j = t.I 23 j + nI d) → (∀ r', r' ≠ r → t'.I 39 r' = t.I 39 r' ∧ cN t' r' = cN t r' ∧ t'.I 44 r' = t.I 44 r') → t'.I 39 r = 1 → TuK sa x G H s t kc ks t' Q) : C_Rr_start sa (G 1 r) s kc ks Q := by
  have h6 := hM.nR
  have h4 := hM.nIf hr
  have hq := hR.q.1
  have k26 := (hq.rt hr).1.1
  have p180 : s.P 180 (G 1 r) = some x := by rw [(hq.ty.p k26 180 30).1, (hq.rt hr).1.2.2]
  have p195 := hq.ty.r k26 195 123 3
  have i40 := (hq.rt hr).2.2.2.1.1
  have i225 : s.I 225 x = t.S 1 := hq.2.2.1.2.1
  have h105 : t.I 105 r = 0 := by
    have e := (hM.r hr).2.2.2.2.2.2.2.2.2.2.2.2.1.n.1
    rw [e, show (t.I 105 r).toNatClampNeg = 0 from hN]
    rfl
  obtain ⟨R1, M1, f1⟩ := rr_39 (v := 1) (Or.inr rfl) hR hM hr
  have hr1 : r < cR (moSI t 39 r 1) := hr
  obtain ⟨R2, M2, f2⟩ := rr_43 (v := t.S 1 + t.I 40 r) R1 M1 hr1
  have k2c : ((cSI s 183 (G 1 r) 1).K (G 1 r)).1 = 26 := k26
  unfold C_Rr_start
  refine ⟨_, gd_to ⟨okr k26 9, Or.inr rfl⟩, _, gd_to (okr k2c 9), x, p180, _, gd_to (okr (show ((cSI s 183 (G 1 r) 1).K x).1 = 30 from hq.1.1) 11), _, gd_to (okr k2c 9), _, p195.1, _, rd_E p195.2 ⟨by decide, by decide, rfl⟩ (show 0 < 3 by decide) (by decide) i40, _, gd_to (okr k2c 9), ?_⟩
  rw [show (cSI s 183 (G 1 r) 1).I (20 * 11 + 5) x = t.S 1 from (cSI_g (by decide)).trans i225]
  have fo : fr [26] [] [] s (cSI (cSI s 183 (G 1 r) 1) 197 (G 1 r) (t.S 1 + t.I 40 r)) := f1.tr f2
  show C_Rr_start_b25 sa (G 1 r) 0 (cSI (cSI s 183 (G 1 r) 1) 197 (G 1 r) (t.S 1 + t.I 40 r)) kc ks Q
  have hK0 : (cSI (cSI s 183 (G 1 r) 1) 197 (G 1 r) (t.S 1 + t.I 40 r)).K = s.K := rfl
  have hP0 : (cSI (cSI s 183 (G 1 r) 1) 197 (G 1 r) (t.S 1 + t.I 40 r)).P = s.P := rfl
  generalize cSI (cSI s 183 (G 1 r) 1) 197 (G 1 r) (t.S 1 + t.I 40 r) = s0 at R2 fo hK0 hP0 ⊢
  -- the model
  have eM : M_run_b39 t (nI r) 1 = Option.bind (M_settle (moSI t 39 r 1) (nI r)) (fun s4 => M_run_b75 s4 (nI r) (nI (4 * r + 0))) := by
    unfold M_run_b39
    rw [wrI_n (n := 6) (hM.n.n 105 6) (by omega) (by decide), moSI_id h105]
    simp only [Option.bind_some]
    rw [wrI_n (n := 6) (hM.n.n 44 6) (by omega) (by decide), moSI_id h44]
    simp only [Option.bind_some]
    rw [wrZ_n (n := 6) (hM.n.n 39 6) (by omega) (by decide)]
    simp only [Option.bind_some]
    rw [if_neg (by decide), show (4 : Int32) * nI r = nI (4 * r + 0) by rw [show (4 : Int32) = nI 4 from rfl, pk_mul]; rfl]
    rfl
  generalize hv : t.S 1 + t.I 40 r = v at R2 M2
  have m0 : mfr [39, 43] t (moSI (moSI t 39 r 1) 43 r v) := (mfr.si (by decide)).tr (mfr.si (by decide))
  have hru : r < cR (moSI (moSI t 39 r 1) 43 r v) := hr
  have run : (moSI (moSI t 39 r 1) 43 r v).I 39 r ≠ 0 := by rw [moSI_n (by decide), moSI_s, upd_s]; decide
  have cN0 : cN (moSI (moSI t 39 r 1) 43 r v) r = 0 := hN
  have cS0 : cSt (moSI (moSI t 39 r 1) 43 r v) r = cSt t r := rfl
  obtain ⟨⟨o1, o2, D0, D1, l0, l1, hrow⟩, -, px⟩ := id (hE r hr)
  have OW : OWr (Os r) (moSI (moSI t 39 r 1) 43 r v) r := ⟨o1, o2, D0, D1, l0, l1, fun j hj => by rw [cN0] at hj; exact absurd hj (Nat.not_lt_zero j)⟩
  obtain ⟨K, hb, hOK, hKD⟩ := OW.kb (hO r)
  have hK1 : ∀ k, k < cSt (moSI (moSI t 39 r 1) 43 r v) r → stP (moSI (moSI t 39 r 1) 43 r v) (32 * r + k) ∈ K := fun k hk => hOK _ (OW.1 k hk)
  have hK2 : ∀ y, y < 2 * cI (moSI (moSI t 39 r 1) 43 r v) r → (moSI (moSI t 39 r 1) 43 r v).I 75 (8 * r + y) ≠ 0 → neP (moSI (moSI t 39 r 1) 43 r v) r y ∈ K := fun y hy hz => hOK _ (OW.2.1 y hy hz)
  have px' : ∀ k, k < cSt (moSI (moSI t 39 r 1) 43 r v) r → isPx ((moSI (moSI t 39 r 1) 43 r v).J 48 (32 * r + k)) ((moSI (moSI t 39 r 1) 43 r v).J 49 (32 * r + k)) ((moSI (moSI t 39 r 1) 43 r v).I 50 (32 * r + k)) := px
  have A0 : AGs (moSI (moSI t 39 r 1) 43 r v) := hAg.m m0 ⟨by decide, by decide⟩
  have zk := pot_kp (G := G) (H := H) (t := moSI (moSI t 39 r 1) 43 r v) hK0 hP0
  have zt := pot_t (G := G) (H := H) (s := s) m0 rfl
  have hkc0 : PoC s0 G H (moSI (moSI t 39 r 1) 43 r v) + tdC G ≤ kc := by rw [zk.1, zt.1]; exact hkc
  have hks0 : PoS s0 G H (moSI (moSI t 39 r 1) 43 r v) + tdS s0 G H x ≤ ks := by rw [zk.2, zt.2, td_kp hK0 hP0]; exact hks
  have p0 := pot_r (G := G) (H := H) (s := s0) M2 hru
  have pc : potC G r ≤ kc := ar_s1 hkc0 p0.1
  have ps : potS s0 G H r ≤ ks := ar_s1 hks0 p0.2
  have sp0 : SPI G H sa x s0 (moSI (moSI t 39 r 1) 43 r v) r K kc ks G H s0 (moSI (moSI t 39 r 1) 43 r v) kc ks := ⟨R2, ⟨M2, rwT.rf, hb, fun _ _ => rfl⟩, fun _ _ _ => rfl, fun _ _ => rfl, hA.rf, fr.rf, fun _ _ _ _ _ => rfl, Nat.le_refl _, Nat.le_refl _⟩
  have k' : ∀ t', M_run_b39 t (nI r) 1 = some (1, t') → MV t' → AGs t' → EX Os t' → mfr Wsr t t' → (∀ j, ∃ d, d ≤ 8 ∧ t'.I 23 j = t.I 23 j + nI d) → (∀ r', r' ≠ r → t'.I 39 r' = t.I 39 r' ∧ cN t' r' = cN t r' ∧ t'.I 44 r' = t.I 44 r') → t'.I 39 r = 1 → TuK sa x G H s0 (moSI (moSI t 39 r 1) 43 r v) kc ks t' Q := fun t' a1 a2 a3 a4 a5 a6 a7 a8 => (k t' a1 a2 a3 a4 a5 a6 a7 a8).same hq.1 (fun _ _ => rfl) hK0 hP0 fo rfl (fun _ h => nomatch h) (fun h => nomatch h) fo.wk m0 rfl
  have e39 : ∀ r', r' ≠ r → (moSI (moSI t 39 r 1) 43 r v).I 39 r' = t.I 39 r' := fun r' hne => by rw [moSI_n (by decide), moSI_s, upd_n hne]
  have E0 : ∀ r', r' ≠ r → r' < cR t → EXr (Os r') (moSI (moSI t 39 r 1) 43 r v) r' := fun r' hne hr' => (hE r' hr').of hM M2 hr' hr' (sEq.m m0 rfl) (fun z => by rw [e39 r' hne] at z; exact z)
  have h23 : (moSI (moSI t 39 r 1) 43 r v).I 23 = t.I 23 := rfl
  have hvu : v = (moSI t 39 r 1).S 1 + (moSI t 39 r 1).I 40 r := hv.symm
  have cmS : M_settle (moSI (moSI t 39 r 1) 43 r v) (nI r) = Option.map (fun y => moSI y 43 r v) (M_settle (moSI t 39 r 1) (nI r)) := cM_settle rfl
  have m01 : mfr [39] t (moSI t 39 r 1) := mfr.si (by decide)
  have h44u : ∀ r', (moSI (moSI t 39 r 1) 43 r v).I 44 r' = t.I 44 r' ∧ cN (moSI (moSI t 39 r 1) 43 r v) r' = cN t r' := fun _ => ⟨rfl, rfl⟩
  have e39r : (moSI (moSI t 39 r 1) 43 r v).I 39 r = 1 := by rw [moSI_n (by decide), moSI_s, upd_s]
  have hmu : (moSI (moSI t 39 r 1) 43 r v) = moSI (moSI t 39 r 1) 43 r v := rfl
  clear k R1 M1 f1 f2 hR hkc hks zk zt hv
  generalize hu : moSI (moSI t 39 r 1) 43 r v = u at *
  refine sp_ports R2 M2 hru run hK2 pc ps (fun G2 H2 s2 t2 kc2 ks2 sp2 e2 => ?_) (cI u r) 0 (by omega) G H s0 u kc ks sp0 rfl
  refine sp_stats R2 M2 hru run hK1 px' pc ps (X := L2M u r (2 * cI u r) 0) (fun G3 H3 s3 t3 kc3 ks3 sp3 e3 => ?_) (cSt u r) 0 (by omega) G2 H2 s2 t2 kc2 ks2 sp2 (by show SAs u r (_ ++ []) = _; rw [List.append_nil]; exact e2)
  obtain ⟨t3', t4, w1, w2, w3, w4, w5⟩ := c_fin (X := L2M u r (2 * cI u r) 0 ++ L3C G u r (cSt u r)) M2 hru run hb hK1 hK2 (fun P hP => by
      rcases List.mem_append.mp hP with z | z
      · obtain ⟨i, -, h2, h3, e⟩ := (L2M_m _ _).mp z
        rw [e]
        exact ⟨neP_ok M2 hru (by omega) h3, hK2 i (by omega) h3⟩
      · obtain ⟨j, h2, e⟩ := (L3C_m _).mp z
        have b7 := ((R2.q.1.st hru).2.1 j h2).1
        rw [e]
        exact ⟨(M2.sl hru b7).1, hK1 _ b7⟩) (fun P hP => by
      refine Or.inl ?_
      rcases List.mem_append.mp hP with z | z
      · obtain ⟨i, -, h2, -⟩ := (L1M_m _ _).mp z
        rw [cN0] at h2
        omega
      · rcases List.mem_append.mp z with z | z
        · exact List.mem_append.mpr (Or.inl z)
        · obtain ⟨i, -, h2, e⟩ := (L3M_m _ _).mp z
          obtain ⟨j, h3, h4⟩ := inj_sur (cSt u r) (fun j => G 7 (32 * r + j)) (fun j hj => ((R2.q.1.st hru).2.1 j hj).1) (fun i j h1 h2 z => R2.q.1.2.1.2.2.2.2.2.2.2.2.2.2 r i hru h1 j h2 z) i (by omega)
          refine List.mem_append.mpr (Or.inr ((L3C_m _).mpr ⟨j, h3, ?_⟩))
          rw [e, show G 7 (32 * r + j) = i from h4])
  rw [e3] at w1
  cases w1
  obtain ⟨R3, sq3, g3, g3', hA3, f3, pp3, x1, x2⟩ := sp3
  have R4 := w5 G3 H3 sa x s3 R3
  have M4 := w3.1
  have rw4 := w3.2.1
  have m4 := rw4.1
  rw [w2] at cmS
  cases eu : M_settle (moSI t 39 r 1) (nI r) with
  | none => rw [eu] at cmS; cases cmS
  | some t4' =>
    rw [eu] at cmS
    have e4 : t4 = moSI t4' 43 r v := Option.some.inj cmS
    subst e4
    have hr4 : r < cR (moSI t4' 43 r v) := by unfold cR; rw [m4.S 37 (by decide)]; exact hru
    have A4 : AGs (moSI t4' 43 r v) := aM_settle A0 _ w2
    have E4 : EX Os (moSI t4' 43 r v) := fun r' hr' => by
      have hr0 : r' < cR u := by unfold cR at hr' ⊢; rw [m4.S 37 (by decide)] at hr'; exact hr'
      by_cases ce : r' = r
      · subst ce
        obtain ⟨D0', D1', y1, y2, y3⟩ := hKD _ w3.2.2.1
        have e1 : cSt (moSI t4' 43 r' v) r' = cSt u r' := by unfold cSt; rw [m4.I 46 (by decide)]
        have e2 : cI (moSI t4' 43 r' v) r' = cI u r' := by unfold cI; rw [m4.I 70 (by decide)]
        refine ⟨⟨?_, ?_, D0', D1', y1, y2, y3⟩, fun _ => w4, ?_⟩
        · rw [e1]; have := OW.1; unfold stP at this ⊢; rw [m4.I 47 (by decide), m4.J 48 (by decide), m4.J 49 (by decide), m4.I 50 (by decide)]; exact this
        · rw [e2]; have := OW.2.1; unfold neP at this ⊢; rw [m4.I 75 (by decide), m4.J 76 (by decide), m4.J 77 (by decide), m4.I 78 (by decide)]; exact this
        · rw [e1, m4.J 48 (by decide), m4.J 49 (by decide), m4.I 50 (by decide)]; exact px'
      · have hrt : r' < cR t := by unfold cR at hr0 ⊢; rw [m0.S 37 (by decide)] at hr0; exact hr0
        exact (E0 r' ce hrt).rw M2 M4 hr0 rw4 ce
    have cI4 : cI t4' r = cI t r := by
      show cI (moSI t4' 43 r v) r = _
      unfold cI
      rw [m4.I 70 (by decide), m0.I 70 (by decide)]
    have h234 : ∀ j, t4'.I 23 j = t.I 23 j := fun j => by
      show (moSI t4' 43 r v).I 23 j = _
      rw [m4.I 23 (by decide), h23]
    have hv4 : v = t4'.S 1 + t4'.I 40 r := by
      show v = (moSI t4' 43 r v).S 1 + (moSI t4' 43 r v).I 40 r
      rw [m4.S 1 (by decide), m4.I 40 (by decide), hvu, m0.S 1 (by decide), m0.I 40 (by decide), m01.S 1 (by decide), m01.I 40 (by decide)]
    have key := fun (t' : moS) (q : TuK sa x G H s0 u kc ks t' Q) => tu_set q R2 M2 hru m4 g3 g3' hA3 f3 pp3 x1 x2
    have hc34 := key
    have hPo := pot_set (kc := kc) (kc' := kc3) (ks := ks) (ks' := ks3) R2 M2 hru m4 g3 g3' hA3 f3 pp3 x1 x2
    obtain ⟨et1, et2⟩ := td_same (G' := G3) (H' := H3) R2.q.1.1 (g3 15 (by decide) (by decide)) hA3 f3 (pp3 _ 200 (ne_ro ((R2.q.1.ty.p R2.q.1.1.1 237 29).2) ((R2.q.1.ty.p (R2.q.1.rt hru).1.1 186 27).2)) (by rw [(R2.q.1.ty.p R2.q.1.1.1 237 29).2]; decide) (by decide))
    rw [← g3 1 (by decide) (by decide)]
    refine st_asks (cI t r) 0 G3 H3 s3 t4' kc3 ks3 (by rw [cI4]; omega) R4 M4 E4 hr4 hv4 (fun j hj => ?_) ?_ ?_ Q (fun t' y1 y2 y3 y4 y5 => ?_)
    · obtain ⟨d, e, hd⟩ := hs j hj
      exact ⟨d, by rw [h234]; exact e, by omega⟩
    · rw [et1]; exact ar_7 (ar_t1 hPo.1) hkc0
    · rw [et2]; exact ar_7 (ar_t1 hPo.2) hks0
    · have m4' : mfr ([43, 146] ++ Wsd) (moSI t4' 43 r v) t' := (mfr_sy (mfr.si (by decide))).tr y4
      have mt' : mfr Wsr t t' := ((m0.wk (by decide)).tr (m4.wk (by decide))).tr (m4'.wk (by decide))
      have em : M_run_b39 t (nI r) 1 = some (1, t') := by
        rw [eM, eu]
        exact y1
      refine (key t' (k' t' em y2 (A4.m m4' ⟨by decide, by decide⟩) y3 mt' (fun j => ?_) (fun r' hne => ?_) ?_)).1
      · obtain ⟨d, h, e⟩ := y5 j
        exact ⟨d, by omega, by rw [e, h234]⟩
      · refine ⟨?_, ?_, ?_⟩
        · rw [m4'.I 39 (by decide), m4.I 39 (by decide)]; exact e39 r' hne
        · unfold cN; rw [m4'.I 105 (by decide), rw4.2.2.2.1 r' hne]; exact (h44u r').2
        · rw [m4'.I 44 (by decide), rw4.2.1 r' hne]; exact (h44u r').1
      · rw [m4'.I 39 (by decide), m4.I 39 (by decide)]; exact e39r
end Sc
