/-! config: both sides. -/
theorem tyF_221 {u g : Nat} {e : Nat × Nat} (h : tyF u g = some e) : g ≠ 221 ∧ g ≠ 222 := by
  unfold tyF at h
  split at h <;> first | (cases h; done) | decide
/-- how long the arrays of text and page are -/
def TC (s : cS) (x : Nat) : Nat := capOf s ((s.P 221 x).getD 0) + capOf s ((s.P 222 x).getD 0)
/-- what a text or a configuration costs -/
def XC (s : cS) (x kc ks : Nat) (s' : cS) (kc' ks' : Nat) : Prop := fr [32, 124] [(0, 32), (221, 30), (222, 30)] [] s s' ∧ 16 * kc + TC s x ≤ 16 * kc' + TC s' x ∧ ks + 2 * TC s x ≤ ks' + 2 * TC s' x
section Cf
variable {G H : Nat → Nat → Nat} {sa : Nat → Nat} {x kc ks tx pg : Nat} {s s' : cS} {t t' : moS}
theorem RGl.v21 {g : Nat} {a : Nat} {v : Option Nat} (h : RGl G H sa x s) (hg : g = 221 ∨ g = 222) : RGl G H sa x (cSP s g a v) := by
  obtain ⟨a1, a2, a3, a4, a5, a6, a7, a8, a9, a10, a11, a12, a13, a14, a15, a16, a17⟩ := h
  have pP : ∀ g' b, g' ≠ 221 → g' ≠ 222 → (cSP s g a v).P g' b = s.P g' b := fun g' b h1 h2 => cSP_g (fun z => by rcases hg with y | y <;> rw [y] at z <;> contradiction)
  have pF : ∀ g', g' ≠ 221 → g' ≠ 222 → (cSP s g a v).P g' = s.P g' := fun g' h1 h2 => funext fun b => pP g' b h1 h2
  refine ⟨a1, ⟨fun b g' v n hu et => ?_, a2.2.1, ?_⟩, a3, fun b hb => ?_, ?_, ?_, ?_, ?_, ?_, ?_, ?_, ?_, a13, a14, a15, ?_, ?_⟩
  · rw [pP g' b (tyF_221 et).1 (tyF_221 et).2]
    exact a2.1 b g' v n hu et
  · rw [pF 0 (by decide) (by decide)]; exact a2.2.2
  · obtain ⟨l, o, w, d, b1, b2⟩ := a4 b hb
    exact ⟨l, o, w, d, by rw [pF 0 (by decide) (by decide)]; exact b1, b2⟩
  · obtain ⟨n, c1⟩ := a5
    refine ⟨n, ?_⟩
    unfold RTa at c1 ⊢
    rw [pF 200 (by decide) (by decide)]
    exact c1
  · rw [pF 223 (by decide) (by decide)]; exact a6
  · rw [pF 96 (by decide) (by decide)]; exact a7
  · rw [pF 97 (by decide) (by decide)]; exact a8
  · rw [pF 200 (by decide) (by decide)]; exact a9
  · rw [pF 28 (by decide) (by decide)]; exact a10
  · rw [pF 28 (by decide) (by decide)]; exact a11
  · rw [pF 0 (by decide) (by decide)]; exact a12
  · rw [pF 96 (by decide) (by decide), pF 97 (by decide) (by decide)]; exact a16
  · rw [pF 200 (by decide) (by decide)]; exact a17
/-- the page, emptied -/
theorem pag_new (hR : RR G H sa x s t) (hM : MV t) (B1 : 262144 ≤ 16 * kc + capOf s pg) (B2 : 524288 ≤ ks + 2 * capOf s pg) (h222 : s.P 222 x = some pg) : okO s 0 pg ∧ RQ G H sa x (cSI s 1 pg 0) t ∧ AP sa pg 124 131072 262144 (cSI s 1 pg 0) (16 * kc + capOf s pg) (ks + 2 * capOf s pg) [] (cSI s 1 pg 0) kc ks := by
  obtain ⟨hq, -, tx', pg', c1, c2, b1, b2, b3, b4, b5, b6, b7, b8, lp, b9⟩ := hR.q
  rw [h222] at b2
  cases b2
  have f1 : fr [32, 124] [(0, 32)] [] s (cSI s 1 pg 0) := fr.si (by rw [b4]; decide)
  have g1 : RGl G H sa x (cSI s 1 pg 0) := hq.1.v rfl rfl f1 rfl rfl rfl
  have hq1 := hq.fr hM g1 f1 (mfr.rf (W := [])) rfl rfl rfl rfl
  have hb : BL (cSI s 1 pg 0) pg 124 [] c2 := by
    obtain ⟨a1, a2, d, a3, a4, a5, a6, a7, a8, a9⟩ := b9
    exact ⟨a1, a2, d, a3, a4, cSI_s, Nat.zero_le _, a7, a8, fun i hi => absurd hi (Nat.not_lt_zero _)⟩
  have e := b9.cap
  rw [e] at B1 B2 ⊢
  exact ⟨b9.1, hq1, hb.ap (Or.inr (by decide)) (by decide) b7 B1 B2 hq1.1.2.2.1⟩
/-- both have written; the class has not exchanged text and page yet -/
theorem pag_end {L : List Int32} {kc' ks' : Nat} (hR : RR G H sa x s t) (hM : MV t) (h221 : s.P 221 x = some tx) (h222 : s.P 222 x = some pg) (hA : AP sa pg 124 131072 262144 (cSI s 1 pg 0) (16 * kc + capOf s pg) (ks + 2 * capOf s pg) L s' kc' ks') : RGl G H sa x s' ∧ fr [32, 124] [(0, 32)] [] s s' ∧ s'.P 221 x = some tx ∧ s'.P 222 x = some pg ∧ ((s'.K tx).1 = 32 ∧ (s'.K pg).1 = 32 ∧ tx ≠ pg) ∧ (∃ c1 c2, (c1 ≤ 262144 ∧ c2 ≤ 262144) ∧ BL s' tx 124 (tl (t.I 5) (t.S 6).toNatClampNeg) c1 ∧ BL s' pg 124 L c2 ∧ c1 = capOf s tx ∧ 16 * kc + capOf s pg ≤ 16 * kc' + c2 ∧ ks + 2 * capOf s pg ≤ ks' + 2 * c2) := by
  obtain ⟨hq, ⟨cap0, c0, hta⟩, tx', pg', c1, c2, b1, b2, b3, b4, b5, b6, b7, b8, lp, b9⟩ := hR.q
  rw [h221] at b1
  cases b1
  rw [h222] at b2
  cases b2
  have hT := hq.ty
  have hx := hq.1.1
  have f1 : fr [32, 124] [(0, 32)] [] s (cSI s 1 pg 0) := fr.si (by rw [b4]; decide)
  have k1 : ((cSI s 1 pg 0).K pg).1 = 32 := b4
  have f2 := hA.fr k1
  have f : fr [32, 124] [(0, 32)] [] s s' := f1.tr f2
  have g1 : RGl G H sa x (cSI s 1 pg 0) := hq.1.v rfl rfl f1 rfl rfl rfl
  have g2 : RGl G H sa x s' := g1.ap hA k1 (by decide) (by decide)
  obtain ⟨cap, ⟨hbl, hcL⟩, e1, e2, ht, hxx, hd⟩ := hA.bl
  have p221 : s'.P 221 x = some tx := by rw [f.p hx (by decide)]; exact h221
  have p222 : s'.P 222 x = some pg := by rw [f.p hx (by decide)]; exact h222
  have btx1 : BL (cSI s 1 pg 0) tx 124 (tl (t.I 5) (t.S 6).toNatClampNeg) c1 := by
    obtain ⟨a1, a2, d, a3, a4, a5, a6⟩ := b8
    refine ⟨a1, a2, d, a3, a4, ?_, a6⟩
    rw [cSI_a b5]; exact a5
  have btx : BL s' tx 124 (tl (t.I 5) (t.S 6).toNatClampNeg) c1 := by
    refine hA.keep btx1 b5 (fun d z1 z2 => ?_)
    have z1 : s.P 0 tx = some d := z1
    have z2 : s.P 0 pg = some d := z2
    exact b5 (hT.2.2 tx pg d (okr b3 0) (okr b4 0) z1 z2)
  exact ⟨g2, f, p221, p222, ⟨f.r b3, f.r b4, b5⟩, c1, cap, ⟨b6, hcL⟩, btx, hbl, b8.cap.symm, e1, e2⟩
theorem P_config (hR : RR G H sa x s t) (hM : MV t) (B1 : 262144 ≤ 16 * kc + capOf s ((s.P 222 x).getD 0)) (B2 : 524288 ≤ ks + 2 * capOf s ((s.P 222 x).getD 0)) (Q : Int32 → cS → Nat → Nat → Prop) (k : ∀ r t', M_config t = some (r, t') → MV t' → mfr [0, 5, 6, 7, 8, 16] t t' → ∀ s' kc' ks', RR G H sa x s' t' → XC s x kc ks s' kc' ks' → Q r s' kc' ks') : C_Rf_config sa x s kc ks Q := by
  obtain ⟨tx, pg, h221, h222⟩ := hR.txs
  rw [h222] at B1 B2
  have B1 : 262144 ≤ 16 * kc + capOf s pg := B1
  have B2 : 524288 ≤ ks + 2 * capOf s pg := B2
  have m0 : mfr [0] t (moSS t 0 0) := mfr.ss (by decide)
  have hM0 := hM.m0 m0
  have hR0 : RR G H sa x s (moSS t 0 0) := hR.mf hM m0 rfl rfl
  have em : M_config t = M_config_b12 (moSS (moSS t 0 0) 8 0) 0 := rfl
  rw [em] at k
  generalize ht0 : moSS t 0 0 = t0 at *
  obtain ⟨o1, q1, A1⟩ := pag_new hR0 hM0 B1 B2 h222
  have ox := q1.ox
  have hN := hM0.n
  have h6 := hM0.nR
  have h10 := hM0.nL
  have h8 : cS' t0 ≤ 8 := hM0.1.2.2.2.2.2.2.1.n.2.2
  have p222 : (cSI s 1 pg 0).P 222 x = some pg := h222
  have e17 : t0.S 17 = nI (cL t0) := hM0.1.2.2.2.2.2.1.n.1
  have e27 : t0.S 27 = nI (cS' t0) := hM0.1.2.2.2.2.2.2.1.n.1
  have e37 : t0.S 37 = nI (cR t0) := hM0.1.2.2.2.2.2.2.2.n.1
  have r226 := q1.ty.r q1.1.1 226 130 10
  have r228 := q1.ty.r q1.1.1 228 131 6
  have r230 := q1.ty.r q1.1.1 230 132 8
  have hJ : J0 sa pg (cSI s 1 pg 0) (16 * kc + capOf s pg) (ks + 2 * capOf s pg) t0 0 (cSI s 1 pg 0) kc ks (moSS t0 8 0) := ⟨[], A1, DD.new hN, Nat.le_refl _, Or.inl rfl⟩
  -- the end
  have fin : ∀ (s1 : cS) (kc1 ks1 : Nat) (t1 : moS), J0 sa pg (cSI s 1 pg 0) (16 * kc + capOf s pg) (ks + 2 * capOf s pg) t0 130000 s1 kc1 ks1 t1 → (∀ r t', (if (40000 : Int32) < t1.S 8 then some (-1, t1) else bn2 (M_shown t1) (fun x2 s1 => some (x2, s1))) = some (r, t') → MV t' → mfr [0, 5, 6, 7, 8, 16] t t' → ∀ s' kc' ks', RR G H sa x s' t' → XC s x kc ks s' kc' ks' → Q r s' kc' ks') → (ob (gP s1 11 2 x) (fun v2 => (ob v2 (fun b3 => (ob (gI s1 0 1 b3) (fun v4 => (if (40000 : Int32) < v4 then (Q ((-1) : Int32) s1 kc1 ks1) else (ob (gP s1 11 1 x) (fun v5 => (ob (gP s1 11 2 x) (fun v6 => (ob (pP s1 11 1 x v6) (fun s7 => (ob (pP s7 11 2 x v5) (fun s8 => (ob (gP s8 11 1 x) (fun v9 => (ob v9 (fun b10 => (ob (gI s8 0 1 b10) (fun v11 => (Q v11 s8 kc1 ks1)))))))))))))))))))))) := by
    intro s1 kc1 ks1 t1 hJ k
    obtain ⟨l, hA, hD, hl, -⟩ := hJ
    have hA : AP sa pg 124 131072 262144 (cSI s 1 pg 0) (16 * kc + capOf s pg) (ks + 2 * capOf s pg) l s1 kc1 ks1 := hA
    obtain ⟨g2, f, p221', p222', ⟨k1, k2, ne⟩, c1, c2, ⟨hc1, hc2⟩, bt, bp, ec1, x1, x2⟩ := pag_end hR0 hM0 h221 h222 hA
    have hx : (s1.K x).1 = 30 := g2.1
    have ox1 : okO s1 11 x := okr hx 11
    have i1 : s1.I 1 pg = nI l.length := hA.elim fun _ h => h.elim fun _ h => h.1.2.2.2.2.1
    have e8 : t1.S 8 = nI l.length := hD.2.1.1
    have mD : mfr [7, 8, 16] t0 t1 := hD.2.2.2
    have m5 : mfr [0] t t0 := m0
    obtain ⟨hq, ⟨cap0, c0, hta⟩, -⟩ := hR0.q
    have hta1 : BL s1 (H 220 x) 101 (tl (t0.I 2) (t0.S 3).toNatClampNeg) cap0 := hta.fr f (hq.ty.p hq.1.1 220 1).2 (by decide) (by decide) (by decide)
    have tc0 : TC s x = capOf s tx + capOf s pg := by unfold TC; rw [h221, h222]; rfl
    rw [e8] at k
    refine ⟨_, gd_to ox1, _, p222', _, gd_to hA.o, ?_⟩
    rw [show s1.I (20 * 0 + 1) pg = nI l.length from i1]
    by_cases c : (40000 : Int32) < nI l.length
    · rw [if_pos c] at k
      refine ifT c (k _ t1 rfl ?_ ((m5.wk (by decide)).tr (mD.wk (by decide))) s1 kc1 ks1 ?_ ⟨f.wk, ?_, ?_⟩)
      · refine hM0.fr mD rfl ?_
        obtain ⟨n6, en6, hn6, h56⟩ := mfr.s6 hM0.1 (mfr.rf (W := [0]))
        refine hM0.1.tx (mD.wk (by decide)) ((mD.S 6 (by decide)).trans en6) hn6 ?_ ?_ ?_
        · rw [mD.2 5 (Or.inl (by decide))]; exact h56
        · rw [mD.2 5 (Or.inl (by decide))]; exact hM0.1.1.2.2.1
        · exact ⟨hD.2.1.2.2.1, hD.2.1.2.2.2.1⟩
      · refine RQ.r (hq.fr hM0 g2 f mD rfl rfl rfl rfl) ⟨⟨cap0, c0, ?_⟩, tx, pg, c1, c2, p221', p222', k1, k2, ne, hc1, hc2, ?_, l, bp⟩
        · rw [mD.I 2 (by decide), mD.S 3 (by decide)]; exact hta1
        · rw [mD.I 5 (by decide), mD.S 6 (by decide)]; exact bt
      · have : TC s1 x = c1 + c2 := by unfold TC; rw [p221', p222']; show capOf s1 tx + capOf s1 pg = _; rw [bt.cap, bp.cap]
        rw [this, tc0, ec1]; omega
      · have : TC s1 x = c1 + c2 := by unfold TC; rw [p221', p222']; show capOf s1 tx + capOf s1 pg = _; rw [bt.cap, bp.cap]
        rw [this, tc0, ec1]; omega
    · have hl4 : l.length ≤ 40000 := Nat.le_of_not_lt fun z => c (nI_lt (a := 40000) z (by omega))
      obtain ⟨e2, m2, s6, i5, d5, n5, n7, -⟩ := dd_shown hD hM0.1.1.2.2.1
      rw [if_neg c, e2] at k
      have k := k (nI l.length) (moShn t1) rfl
      have o7 : ∀ g v, okO (cSP s1 g x v) 11 x := fun g v => okr (show ((cSP s1 g x v).K x).1 = 30 from hx) 11
      have o8 : ∀ g v g' v', okO (cSP (cSP s1 g x v) g' x v') 11 x := fun g v g' v' => okr (show ((cSP (cSP s1 g x v) g' x v').K x).1 = 30 from hx) 11
      have q221 : (cSP (cSP s1 221 x (s1.P 222 x)) 222 x (s1.P 221 x)).P 221 x = some pg := by rw [evP, if_neg (fun z => absurd z.1 (by decide)), evP, if_pos ⟨rfl, rfl⟩, p222']
      have q222 : (cSP (cSP s1 221 x (s1.P 222 x)) 222 x (s1.P 221 x)).P 222 x = some tx := by rw [evP, if_pos ⟨rfl, rfl⟩, p221']
      refine ifF c ⟨_, gd_to ox1, _, gd_to ox1, _, gd_to ox1, _, gd_to (o7 _ _), _, gd_to (o8 _ _ _ _), pg, q221, _, gd_to (show okO (cSP (cSP s1 221 x (s1.P 222 x)) 222 x (s1.P 221 x)) 0 pg from hA.o), ?_⟩
      show Q (s1.I 1 pg) (cSP (cSP s1 221 x (s1.P 222 x)) 222 x (s1.P 221 x)) kc1 ks1
      rw [i1]
      have f3 : fr [] [(221, 30), (222, 30)] [] s1 (cSP (cSP s1 221 x (s1.P 222 x)) 222 x (s1.P 221 x)) := (fr.sp (by rw [hx]; decide)).tr (fr.sp (by rw [show (cSP s1 221 x (s1.P 222 x)).K x = s1.K x from rfl, hx]; decide))
      have g3 : RGl G H sa x (cSP (cSP s1 221 x (s1.P 222 x)) 222 x (s1.P 221 x)) := (g2.v21 (Or.inl rfl)).v21 (Or.inr rfl)
      generalize cSP (cSP s1 221 x (s1.P 222 x)) 222 x (s1.P 221 x) = s8 at q221 q222 f3 g3 ⊢
      have m3 : mfr [0, 5, 6, 7, 8, 16] t0 (moShn t1) := m2.wk (by decide)
      have ff : fr [32, 124] [(0, 32), (221, 30), (222, 30)] [] s s8 := (f.wk).tr f3.wk
      have bt8 := bt.fr f3 k1 (by decide) (by decide) (by decide)
      have bp8 := bp.fr f3 k2 (by decide) (by decide) (by decide)
      have el : tl ((moShn t1).I 5) ((moShn t1).S 6).toNatClampNeg = l := by
        rw [s6, nI_clamp (by omega)]
        exact (tl_of rfl (fun i hi => (i5 i hi).symm)).symm
      have tc8 : TC s8 x = c2 + c1 := by unfold TC; rw [q221, q222]; show capOf s8 pg + capOf s8 tx = _; rw [bt8.cap, bp8.cap]
      refine k (hM0.fr m3 rfl (hM0.1.tx m3 s6 (by omega) d5 n5 n7)) ((m5.wk (by decide)).tr m3) s8 kc1 ks1 (RQ.r (hq.fr hM0 g3 ff m3 rfl rfl rfl rfl) ⟨⟨cap0, c0, ?_⟩, pg, tx, c2, c1, q221, q222, f3.r k2, f3.r k1, fun z => ne z.symm, hc2, hc1, ?_, _, bt8⟩) ⟨ff, ?_, ?_⟩
      · rw [m3.I 2 (by decide), m3.S 3 (by decide)]
        exact hta1.fr f3 (g2.2.1.p hx 220 1).2 (by decide) (by decide) (by decide)
      · rw [el]; exact bp8
      · rw [tc8, tc0, ec1]; omega
      · rw [tc8, tc0, ec1]; omega
  -- routers
  have rts : ∀ d i (s1 : cS) (kc1 ks1 : Nat) (t1 : moS), i + d = cR t0 → J0 sa pg (cSI s 1 pg 0) (16 * kc + capOf s pg) (ks + 2 * capOf s pg) t0 (19176 + 18417 * i) s1 kc1 ks1 t1 → (∀ r t', M_config_b81 t1 (nI i) = some (r, t') → MV t' → mfr [0, 5, 6, 7, 8, 16] t t' → ∀ s' kc' ks', RR G H sa x s' t' → XC s x kc ks s' kc' ks' → Q r s' kc' ks') → ∀ P : Int32 → cS → Nat → Nat → Prop, (∀ (a1 : Int32) (s : cS) (kc ks : Nat), C_Rf_config_s61 sa x a1 s kc ks Q P → P a1 s kc ks) → P (nI i) s1 kc1 ks1 := by
    intro d
    induction d with
    | zero =>
      intro i s1 kc1 ks1 t1 hi h k P hP
      apply hP
      unfold C_Rf_config_s61
      refine h.gI ox (by decide) ?_
      rw [show (cSI s 1 pg 0).I (20 * 11 + 9) x = nI (cR t0) from q1.nR hM0]
      refine ifF (nI_nlt (by omega) (by omega)) (fin s1 kc1 ks1 t1 (h.wk (by omega)) fun r t' e => k r t' (Eq.trans ?_ e))
      unfold M_config_b81
      refine lp_x ?_
      show M_config_s81 t1 (nI i) = _
      unfold M_config_s81
      rw [h.S 37, e37, if_neg (nI_nlt (by omega) (by omega))]
    | succ d ih =>
      intro i s1 kc1 ks1 t1 hi h k P hP
      have hi' : i < cR t0 := by omega
      apply hP
      unfold C_Rf_config_s61
      refine h.gI ox (by decide) ?_
      rw [show (cSI s 1 pg 0).I (20 * 11 + 9) x = nI (cR t0) from q1.nR hM0]
      refine ifT (nI_lt (by omega) (by omega)) (h.gP ox (by decide) ⟨_, r228.1, h.rQ r228.2 (by decide) (by decide) (by omega) (by decide) ?_⟩)
      rw [(q1.rt hi').1.2.1]
      refine ⟨h.gO ox (by decide), j_router q1 hM0 p222 hi' h (by omega) fun t2 e2 s2 c2 d2 h2 => ?_⟩
      rw [nI_1]
      refine ih (i + 1) s2 c2 d2 t2 (by omega) (h2.wk (by omega)) (fun r t' e => k r t' (Eq.trans ?_ e)) P hP
      unfold M_config_b81
      refine lp_l (f := fun x : Int32 × moS => M_config_s81 x.2 x.1) (x := (nI i, t1)) (y := (nI (i + 1), t2)) ?_
      show M_config_s81 t1 (nI i) = _
      unfold M_config_s81
      rw [h.S 37, e37, if_pos (nI_lt (by omega) (by omega)), e2, Option.bind_some, nI_1]
  have lss : ∀ d i (s1 : cS) (kc1 ks1 : Nat) (t1 : moS), i + d = cS' t0 → J0 sa pg (cSI s 1 pg 0) (16 * kc + capOf s pg) (ks + 2 * capOf s pg) t0 (1000 + 2272 * i) s1 kc1 ks1 t1 → (∀ r t', M_config_b33 t1 (nI i) = some (r, t') → MV t' → mfr [0, 5, 6, 7, 8, 16] t t' → ∀ s' kc' ks', RR G H sa x s' t' → XC s x kc ks s' kc' ks' → Q r s' kc' ks') → ∀ P : Int32 → cS → Nat → Nat → Prop, (∀ (a1 : Int32) (s : cS) (kc ks : Nat), C_Rf_config_s35 sa x a1 s kc ks Q P → P a1 s kc ks) → P (nI i) s1 kc1 ks1 := by
    intro d
    induction d with
    | zero =>
      intro i s1 kc1 ks1 t1 hi h k P hP
      apply hP
      unfold C_Rf_config_s35
      refine h.gI ox (by decide) ?_
      rw [show (cSI s 1 pg 0).I (20 * 11 + 11) x = nI (cS' t0) from q1.2.2.1.2.2.2.2.trans e27]
      refine ifF (nI_nlt (by omega) (by omega)) ?_
      unfold C_Rf_config_b61
      intro P' hP'
      refine rts (cR t0) 0 s1 kc1 ks1 t1 (by omega) (h.wk (by omega)) (fun r t' e => k r t' (Eq.trans ?_ e)) P' hP'
      unfold M_config_b33
      refine lp_x ?_
      show M_config_s33 t1 (nI i) = _
      unfold M_config_s33
      rw [h.S 27, e27, if_neg (nI_nlt (by omega) (by omega))]
      rfl
    | succ d ih =>
      intro i s1 kc1 ks1 t1 hi h k P hP
      have hi' : i < cS' t0 := by omega
      apply hP
      unfold C_Rf_config_s35
      refine h.gI ox (by decide) ?_
      rw [show (cSI s 1 pg 0).I (20 * 11 + 11) x = nI (cS' t0) from q1.2.2.1.2.2.2.2.trans e27]
      refine ifT (nI_lt (by omega) (by omega)) (h.gP ox (by decide) ⟨_, r230.1, h.rQ r230.2 (by decide) (by decide) (by omega) (by decide) ?_⟩)
      rw [(q1.2.2.2.2.1 i hi').1.2]
      refine ⟨h.gO ox (by decide), j_list q1 hM0 p222 hi' h (by omega) fun t2 e2 s2 c2 d2 h2 => ?_⟩
      rw [nI_1]
      refine ih (i + 1) s2 c2 d2 t2 (by omega) (h2.wk (by omega)) (fun r t' e => k r t' (Eq.trans ?_ e)) P hP
      unfold M_config_b33
      refine lp_l (f := fun x : Int32 × moS => M_config_s33 x.2 x.1) (x := (nI i, t1)) (y := (nI (i + 1), t2)) ?_
      show M_config_s33 t1 (nI i) = _
      unfold M_config_s33
      rw [h.S 27, e27, if_pos (nI_lt (by omega) (by omega)), show (16 : Int32) * nI i = nI (16 * i) by rw [show (16 : Int32) = nI 16 from rfl, pk_mul]]
      exact e2
  have lks : ∀ d i (s1 : cS) (kc1 ks1 : Nat) (t1 : moS), i + d = cL t0 → J0 sa pg (cSI s 1 pg 0) (16 * kc + capOf s pg) (ks + 2 * capOf s pg) t0 (100 * i) s1 kc1 ks1 t1 → (∀ r t', M_config_b12 t1 (nI i) = some (r, t') → MV t' → mfr [0, 5, 6, 7, 8, 16] t t' → ∀ s' kc' ks', RR G H sa x s' t' → XC s x kc ks s' kc' ks' → Q r s' kc' ks') → ∀ P : Int32 → cS → Nat → Nat → Prop, (∀ (a1 : Int32) (s : cS) (kc ks : Nat), C_Rf_config_s9 sa x a1 s kc ks Q P → P a1 s kc ks) → P (nI i) s1 kc1 ks1 := by
    intro d
    induction d with
    | zero =>
      intro i s1 kc1 ks1 t1 hi h k P hP
      apply hP
      unfold C_Rf_config_s9
      refine h.gI ox (by decide) ?_
      rw [show (cSI s 1 pg 0).I (20 * 11 + 7) x = nI (cL t0) from q1.nL hM0]
      refine ifF (nI_nlt (by omega) (by omega)) ?_
      unfold C_Rf_config_b35
      intro P' hP'
      refine lss (cS' t0) 0 s1 kc1 ks1 t1 (by omega) (h.wk (by omega)) (fun r t' e => k r t' (Eq.trans ?_ e)) P' hP'
      unfold M_config_b12
      refine lp_x ?_
      show M_config_s12 t1 (nI i) = _
      unfold M_config_s12
      rw [h.S 17, e17, if_neg (nI_nlt (by omega) (by omega))]
      rfl
    | succ d ih =>
      intro i s1 kc1 ks1 t1 hi h k P hP
      have hi' : i < cL t0 := by omega
      apply hP
      unfold C_Rf_config_s9
      refine h.gI ox (by decide) ?_
      rw [show (cSI s 1 pg 0).I (20 * 11 + 7) x = nI (cL t0) from q1.nL hM0]
      refine ifT (nI_lt (by omega) (by omega)) (h.gP ox (by decide) ⟨_, r226.1, h.rQ r226.2 (by decide) (by decide) (by omega) (by decide) ?_⟩)
      rw [(q1.link hi').1.2]
      refine ⟨h.gO ox (by decide), j_link q1 hM0 p222 hi' h (by omega) fun t2 e2 s2 c2 d2 h2 => ?_⟩
      rw [nI_1]
      refine ih (i + 1) s2 c2 d2 t2 (by omega) (h2.wk (by omega)) (fun r t' e => k r t' (Eq.trans ?_ e)) P hP
      unfold M_config_b12
      refine lp_l (f := fun x : Int32 × moS => M_config_s12 x.2 x.1) (x := (nI i, t1)) (y := (nI (i + 1), t2)) ?_
      show M_config_s12 t1 (nI i) = _
      unfold M_config_s12
      rw [h.S 17, e17, if_pos (nI_lt (by omega) (by omega)), e2, Option.bind_some, nI_1]
  have hxs : okO s 11 x := hR0.q.1.ox
  unfold C_Rf_config
  refine ⟨_, gd_to hxs, _, h222, o1, ?_⟩
  unfold C_By_clear
  refine ⟨_, gd_to o1, ?_⟩
  unfold C_Rf_config_b9
  intro P hP
  exact lks (cL t0) 0 (cSI s 1 pg 0) kc ks (moSS t0 8 0) (by omega) hJ k P hP
end Cf
