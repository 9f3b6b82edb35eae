/-! The class gathers: one route. -/
abbrev Rga : List Nat := [18, 25, 29, 33, 34, 35, 114, 116]
def lc (m : Int32) : Int32 := if m = 99 then 16 else m
/-- class's state while it gathers -/
def GC (G H : Nat → Nat → Nat) (sa : Nat → Nat) (x : Nat) (s : cS) (t : moS) (q : Nat) (f : Int32) (kc ks : Nat) (g : gst) (G1 H1 : Nat → Nat → Nat) (s1 : cS) (kc1 ks1 : Nat) : Prop := RR G1 H1 sa x s1 t ∧ (∀ b, b ≠ 15 → b ≠ 16 → G1 b = G b) ∧ hA H H1 s ∧ fr Rga Ptd [144] s s1 ∧ TDc G1 H1 x s1 f g.1 ∧ (∀ i, i < (t.I 90 q).toNatClampNeg → s1.E (H 89 (G 2 q)) i = lc (g.2.1 i) ∧ s1.E (H 90 (G 2 q)) i = g.2.2 i) ∧ kc + tdC G1 ≤ kc1 + tdC G ∧ ks + tdS s1 G1 H1 x ≤ ks1 + tdS s G H x
theorem wr_Z {s : cS} {a u M i : Nat} {v : Int32} (hK : s.K a = (u, M)) (hu : 100 ≤ u ∧ u < 130 ∧ cAT u = .boolean) (hi : i < M) (hM : M < 2 ^ 31) (hv : bit v) : wEz s a (nI i) v = some (cSE s a i v) := by
  have h : okA s .boolean a (nI i) := ⟨by rw [hK]; exact hu.1, by rw [hK]; exact hu.2.1, by rw [hK]; exact hu.2.2, by rw [hK]; exact vp_in_nI hi hM⟩
  exact (show wEz s a (nI i) v = some (cSE s a (nI i).toNatClampNeg (vp_nar .boolean v)) from gd_to h).trans (by rw [nI_clamp (by omega), show vp_nar .boolean v = v by rcases hv with e | e <;> rw [e] <;> rfl])
theorem lc_mn {m v : Int32} (hm : rng m 1 16) (hv : v = 99 ∨ rng v 1 16) : mnI (lc v) m = lc (if m < v then m else v) := by
  obtain ⟨a, rfl, -, ha⟩ := hm
  have na : nI a ≠ 99 := fun z => absurd (nI_inj (b := 99) z (by omega) (by decide)) (by omega)
  rcases hv with rfl | ⟨b, rfl, -, hb⟩
  · unfold mnI
    rw [if_pos (show nI a < 99 from nI_lt (b := 99) (by omega) (by decide))]
    unfold lc
    rw [if_pos rfl, if_neg na]
    by_cases c : nI a < 16
    · rw [if_pos c]
    · rw [if_neg c]
      have : ¬ a < 16 := fun z => c (nI_lt (b := 16) z (by decide))
      rw [show a = 16 by omega]
      rfl
  · have nb : nI b ≠ 99 := fun z => absurd (nI_inj (b := 99) z (by omega) (by decide)) (by omega)
    unfold mnI lc
    rw [if_neg nb]
    by_cases c : nI a < nI b
    · rw [if_pos c, if_neg na]
    · rw [if_neg c, if_neg nb]
theorem bit_or {a b : Int32} (ha : bit a) (hb : bit b) : a ||| b = (if a ≠ 0 ∨ b ≠ 0 then 1 else 0) := by
  rcases ha with rfl | rfl <;> rcases hb with rfl | rfl <;> decide
section Cg
variable {G H G1 H1 : Nat → Nat → Nat} {sa : Nat → Nat} {x kc ks kc1 ks1 r p l n : Nat} {s s1 : cS} {t : moS} {f how : Int32} {g : gst} {Q : cS → Nat → Nat → Prop}
theorem gc_se {a i : Nat} {v : Int32} (hM : MV t) (hG : GC G H sa x s t (4 * r + p) f kc ks g G1 H1 s1 kc1 ks1) (ha : (s1.K a).1 = 114 ∨ (s1.K a).1 = 116) : RR G1 H1 sa x (cSE s1 a i v) t ∧ fr Rga Ptd [144] s (cSE s1 a i v) ∧ TDc G1 H1 x (cSE s1 a i v) f g.1 ∧ tdS (cSE s1 a i v) G1 H1 x = tdS s1 G1 H1 x := by
  obtain ⟨h1, h2, h3, h4, h5, -⟩ := hG
  have f1 : fr [114, 116] [] [] s1 (cSE s1 a i v) := fr.se (by rcases ha with z | z <;> rw [z] <;> decide)
  refine ⟨rr_fr h1 hM (h1.q.1.1.v rfl rfl f1 rfl rfl rfl) f1 (mfr.rf (W := [])) rfl rfl rfl rfl rfl rfl rfl, h4.tr f1.wk, ⟨h5.1, h5.2⟩, rfl⟩
/-- the rows of an interface's summaries -/
theorem gc_ad (hR : RR G H sa x s t) (hG : GC G H sa x s t (4 * r + p) f kc ks g G1 H1 s1 kc1 ks1) (hr : r < cR t) (hp : p < cI t r) : (s1.K (G 2 (4 * r + p))).1 = 8 ∧ (s1.P 89 (G 2 (4 * r + p)) = some (H 89 (G 2 (4 * r + p))) ∧ s1.K (H 89 (G 2 (4 * r + p))) = (114, 4)) ∧ s1.P 90 (G 2 (4 * r + p)) = some (H 90 (G 2 (4 * r + p))) ∧ s1.K (H 90 (G 2 (4 * r + p))) = (116, 4) := by
  have k8 := (hR.q.1.po hr hp).1.1
  obtain ⟨h1, h2, h3, h4, -⟩ := hG
  have k81 : (s1.K (G 2 (4 * r + p))).1 = 8 := h4.r k8
  have e89 := h3 89 _ (by rw [k8]; decide)
  have e90 := h3 90 _ (by rw [k8]; decide)
  have a := h1.q.1.ty.r k81 89 114 4
  have b := h1.q.1.ty.r k81 90 116 4
  rw [e89] at a
  rw [e90] at b
  exact ⟨k81, a, b⟩
/-- from one state to a later one -/
theorem gc_td {g' : gst} {G2 H2 : Nat → Nat → Nat} {s2 : cS} {kc2 ks2 : Nat} (hR : RR G H sa x s t) (hG : GC G H sa x s t (4 * r + p) f kc ks g G1 H1 s1 kc1 ks1) (hr : r < cR t) (hp : p < cI t r) (e2 : g'.2 = g.2) (R2 : RR G2 H2 sa x s2 t) (a1 : ∀ b, b ≠ 15 → b ≠ 16 → G2 b = G1 b) (a2 : hA H1 H2 s1) {Rv : List Nat} (a3 : fr Rv Ptd [144] s1 s2) (ar : (Rv.all fun u => Rga.contains u) = true) (n1 : 114 ∉ Rv) (n2 : 116 ∉ Rv) (a4 : TDc G2 H2 x s2 f g'.1) (b1 : kc1 + tdC G2 ≤ kc2 + tdC G1) (b2 : ks1 + tdS s2 G2 H2 x ≤ ks2 + tdS s1 G1 H1 x) : GC G H sa x s t (4 * r + p) f kc ks g' G2 H2 s2 kc2 ks2 := by
  obtain ⟨-, ⟨-, k1⟩, -, k2⟩ := gc_ad hR hG hr hp
  obtain ⟨h1, h2, h3, h4, h5, h6, h7, h8⟩ := hG
  refine ⟨R2, fun b x1 x2 => (a1 b x1 x2).trans (h2 b x1 x2), fun y b hb => (a2 y b (by rw [(h4 b hb).1]; exact hb)).trans (h3 y b hb), h4.tr (a3.wk ar), a4, fun i hi => ?_, ar_6 h7 b1, ar_6 h8 b2⟩
  rw [e2, (a3.v (a := H 89 (G 2 (4 * r + p))) (u := 114) (by rw [k1]) n1).2.2, (a3.v (a := H 90 (G 2 (4 * r + p))) (u := 116) (by rw [k2]) n2).2.2]
  exact h6 i hi
/-- which summary covers a route -/
theorem w_sumOf {Qk : Int32 → cS → Nat → Nat → Prop} (hq : RQ G H sa x s t) (hM : MV t) (hr : r < cR t) (hp : p < cI t r) (hn : n < cN t r) (k : Qk (ixO 0 (smV t (4 * r + p) (2700 * r + n))) s kc ks) : C_Po_summaryOf sa (G 2 (4 * r + p)) (some (H 160 (G 4 (2700 * r + n)))) s kc ks Qk := by
  obtain ⟨k23, hW⟩ := hq.row hr hn
  have p160 := hq.ty.p k23 160 9
  have h5 : okO s 5 (H 160 (G 4 (2700 * r + n))) := okr p160.2 5
  obtain ⟨⟨w1, w2, w3, w4⟩, -⟩ := hW
  obtain ⟨⟨y1, -⟩, -, -, ⟨-, -, -, y88, -⟩, su, -⟩ := hq.po hr hp
  have o4 : okO s 4 (G 2 (4 * r + p)) := okr y1 4
  have hi := (hM.r hr).i hp
  obtain ⟨N, eN, -, hN⟩ := hi.2.2.2.2.2.2.2.2.2.2.2.2.2.1
  have sl := hi.2.2.2.2.2.2.2.2.2.2.2.2.2.2.1
  have cN' : (t.I 90 (4 * r + p)).toNatClampNeg = N := by rw [eN, nI_clamp (by omega)]
  rw [eN] at y88
  rw [cN'] at su sl
  unfold smV at k
  rw [cN'] at k
  have p87 := hq.ty.r y1 87 136 4
  have lr := hM.kl hr hn
  unfold C_Po_summaryOf C_Po_summaryOf_b2
  intro P hP
  have loop : ∀ m j, j + m = N → Qk (ixO 0 (fsN (smC t (4 * r + p) (2700 * r + n)) m j)) s kc ks → P (nI j) s kc ks := by
    intro m
    induction m with
    | zero =>
      intro j hj q
      apply hP
      unfold C_Po_summaryOf_s2
      refine ⟨_, gd_to o4, ?_⟩
      rw [show s.I (20 * 4 + 8) (G 2 (4 * r + p)) = nI N from y88]
      exact ifF (nI_nlt (by omega) (by omega)) q
    | succ m ih =>
      intro j hj q
      obtain ⟨a, q1, q2, b1, b2, b3, b4⟩ := su j (by omega)
      have o5 : okO s 5 a := okr q2 5
      have ls := sl j (by omega)
      obtain ⟨z, ez, hz⟩ := ls.n
      have iff : pcov (s.I 100 a) (s.J 101 a) (s.J 102 a) (s.I 103 a) (s.I 100 (H 160 (G 4 (2700 * r + n)))) (s.J 101 (H 160 (G 4 (2700 * r + n)))) (s.J 102 (H 160 (G 4 (2700 * r + n)))) (s.I 103 (H 160 (G 4 (2700 * r + n)))) ↔ smC t (4 * r + p) (2700 * r + n) j := by
        rw [b1, b2, b3, b4, w1, w2, w3, w4, ez, pcov_m hz, ← ez, fam_i ls.1 lr.1]
        exact Iff.rfl
      apply hP
      unfold C_Po_summaryOf_s2
      refine ⟨_, gd_to o4, ?_⟩
      rw [show s.I (20 * 4 + 8) (G 2 (4 * r + p)) = nI N from y88]
      refine ifT (nI_lt (by omega) (by omega)) ⟨_, gd_to o4, _, p87.1, _, rd_Q p87.2 (by decide) (show j < 4 by omega) (by decide) q1, a, rfl, o5, ?_⟩
      unfold fsN at q
      refine w_covers o5 h5 (fun z => ifT rfl ?_) (fun z => ifF (by decide) ?_)
      · rw [if_neg (fun y => z (iff.mpr y))] at q
        rw [nI_1]
        exact ih (j + 1) (by omega) q
      · rw [if_pos (iff.mp z), show ixO 0 (some j) = nI j by show nI (0 + j) = _; rw [Nat.zero_add]] at q
        exact q
  exact loop N 0 (by omega) k
/-- one route -/
theorem c_g71 {a5 a6 : Int32} {P : Int32 → cS → Nat → Nat → Prop} (hR : RR G H sa x s t) (hM : MV t) (hr : r < cR t) (hp : p < cI t r) (hl : t.I 71 (4 * r + p) = nI l) (hlL : l < cL t) (hf : bit f) (hh : how = 0 ∨ how = 1 ∨ how = 2) (h5 : a5 = if how = 2 then 1 else 0) (h6 : a6 = if how ≠ 2 ∧ 0 < t.I 99 (4 * r + p) then 1 else 0) (hno : how ≠ 2 → 0 < t.I 99 (4 * r + p) → t.I 100 (4 * r + p) = 0) (hn : n < cN t r) (hI : GI t r (4 * r + p) f how n g) (hG : GC G H sa x s t (4 * r + p) f kc ks g G1 H1 s1 kc1 ks1) (hkc : tdC G ≤ kc) (hks : tdS s G H x ≤ ks) (k : ∀ G2 H2 s2 kc2 ks2, GC G H sa x s t (4 * r + p) f kc ks (gR t r (4 * r + p) l f how (2700 * r + n) g) G2 H2 s2 kc2 ks2 → P (nI (n + 1)) s2 kc2 ks2) : C_Rr_gather_s71 sa (G 1 r) (some (G 2 (4 * r + p))) (fam f) how (some (H 237 x)) a5 a6 0 (nI n) s1 kc1 ks1 Q P := by
  have h9 := hM.nRo hr
  have hG0 := hG
  obtain ⟨k81, ⟨p89, k89⟩, p90, k90⟩ := gc_ad hR hG hr hp
  obtain ⟨h1, h2, h3, h4, hT, hS, b1, b2⟩ := hG
  have hq := h1.q.1
  have e1 : G1 1 = G 1 := h2 1 (by decide) (by decide)
  have e2 : G1 2 = G 2 := h2 2 (by decide) (by decide)
  have e4 : G1 4 = G 4 := h2 4 (by decide) (by decide)
  have ex : H1 237 x = H 237 x := h3 237 x (by rw [hR.q.1.1.1]; decide)
  have k26 := (hq.rt hr).1.1
  rw [e1] at k26
  have o9 : okO s1 9 (G 1 r) := okr k26 9
  have o4 : okO s1 4 (G 2 (4 * r + p)) := okr k81 4
  obtain ⟨k23, hW⟩ := hq.row hr hn
  have tb := (hq.tb hr).1
  have p186 := hq.ty.p (hq.rt hr).1.1 186 27
  have p160 := hq.ty.p k23 160 9
  rw [e4] at k23 hW p160
  rw [e1] at tb p186
  obtain ⟨c1, c2, c3, w, cap, d1, d2, d3, d4, d5, d6, -⟩ := tb
  obtain ⟨d6, -⟩ := d6 n (by omega)
  rw [e4] at d6
  have o8 : okO s1 8 (G 4 (2700 * r + n)) := okr k23 8
  have o5 : okO s1 5 (H1 160 (G 4 (2700 * r + n))) := okr p160.2 5
  obtain ⟨⟨w1, w2, w3, w4⟩, ⟨v1, v2, v3, v4⟩, -⟩ := hW
  have ln := hM.kl hr hn
  have kc1' : tdC G1 ≤ kc1 := ar_7 b1 hkc
  have ks1' : tdS s1 G1 H1 x ≤ ks1 := ar_7 b2 hks
  have hlen : g.1.length < 2800 := by have := hI.2.2.1; omega
  have hoL : ∀ a, a ∈ g.1 → lnOk f a.2.2.1 := fun a ha => (hI.2.1 a ha).1.1
  have kx : (s1.K (H 237 x)).1 = 29 := by
    have := (hq.ty.p hq.1.1 237 29).2
    rw [ex] at this
    exact this
  have o10 : okO s1 10 (H 237 x) := okr kx 10
  unfold gR at k
  -- nothing is told of it
  have skip : (∀ G2 H2 s2 kc2 ks2, GC G H sa x s t (4 * r + p) f kc ks g G2 H2 s2 kc2 ks2 → P (nI (n + 1)) s2 kc2 ks2) → C_Rr_gather_b280 sa (G 1 r) (some (G 2 (4 * r + p))) (fam f) how (some (H 237 x)) a5 a6 0 (nI n) s1 kc1 ks1 Q P := fun k => by
    unfold C_Rr_gather_b280
    rw [nI_1]
    exact k G1 H1 s1 kc1 ks1 hG0
  -- an entry of it
  have ent : ∀ m tg, t.I 106 (2700 * r + n) = f → (∀ a, a ∈ g.1 → kE f a ≠ kE f ((t.J 107 (2700 * r + n), t.J 108 (2700 * r + n), t.I 109 (2700 * r + n), m, tg) : En)) → (∀ G2 H2 s2 kc2 ks2, GC G H sa x s t (4 * r + p) f kc ks (eIns f (t.J 107 (2700 * r + n), t.J 108 (2700 * r + n), t.I 109 (2700 * r + n), m, tg) g.1, g.2) G2 H2 s2 kc2 ks2 → P (nI (n + 1)) s2 kc2 ks2) → C_Rr_gather_b265 sa (G 1 r) (some (G 2 (4 * r + p))) (fam f) how (some (H 237 x)) a5 a6 0 (nI n) (some (G 4 (2700 * r + n))) m tg s1 kc1 ks1 Q P := by
    intro m tg c1 ne k
    unfold C_Rr_gather_b265
    refine ⟨_, rfl, _, gd_to o8, _, rfl, o10, ?_⟩
    rw [show s1.P (20 * 8 + 0) (G 4 (2700 * r + n)) = some (H1 160 (G 4 (2700 * r + n))) from p160.1, ← ex]
    rw [c1] at ln
    refine c_tdadd (e := (t.J 107 (2700 * r + n), t.J 108 (2700 * r + n), t.I 109 (2700 * r + n), m, tg)) (Q := fun s' kc' ks' => C_Rr_gather_b280 sa (G 1 r) (some (G 2 (4 * r + p))) (fam f) how (some (H1 237 x)) a5 a6 0 (nI n) s' kc' ks' Q P) h1 hM hf hT hlen hI.1 hoL ln ne ⟨by rw [w1, c1], w2, w3, w4⟩ o5 ⟨by rw [p160.2]; decide, by rw [p160.2]; decide⟩ kc1' ks1' ?_
    intro G2 H2 s2 kc2 ks2 R2 a1 a2 a3 a4 x1 x2
    unfold C_Rr_gather_b280
    rw [nI_1]
    exact k G2 H2 s2 kc2 ks2 (gc_td hR hG0 hr hp rfl R2 a1 a2 a3 rfl (by decide) (by decide) a4 x1 x2)
  unfold C_Rr_gather_s71
  refine ⟨_, gd_to o9, _, p186.1, _, gd_to (okr p186.2 10), ?_⟩
  rw [show s1.I (20 * 10 + 1) (H1 186 (G 1 r)) = nI (cN t r) from c1]
  refine ifT (nI_lt hn (by omega)) (ifT rfl ⟨_, gd_to o9, _, p186.1, _, gd_to (okr p186.2 10), w, d1, _, rd_Q d2 (by decide) (show n < cap by omega) (by omega) d6, _, rfl, _, gd_to o8, _, p160.1, _, gd_to o5, ?_⟩)
  rw [show s1.I (20 * 5 + 0) (H1 160 (G 4 (2700 * r + n))) = fam (t.I 106 (2700 * r + n)) from w1]
  by_cases y1 : t.I 106 (2700 * r + n) = f
  rotate_left
  · rw [if_neg y1] at k
    exact ifF (fun z => y1 ((fam_i ln.1 hf).mp z)) (skip k)
  rw [if_pos y1] at k
  refine ifT (by rw [y1]) ?_
  by_cases y2 : how = 2
  · rw [if_pos y2] at k
    have e5 : a5 = 1 := by rw [h5, if_pos y2]
    have e6 : a6 = 0 := by rw [h6, if_neg (fun z => z.1 y2)]
    refine ifF (by rw [e5]; decide) ?_
    unfold C_Rr_gather_b132
    refine ifF (by rw [e5]; decide) ⟨_, rfl, _, gd_to o8, ?_⟩
    rw [show s1.I (20 * 8 + 5) (G 4 (2700 * r + n)) = t.I 112 (2700 * r + n) from v3]
    unfold C_Rr_gather_b153
    refine ifF (by rw [e5]; decide) ?_
    unfold C_Rr_gather_b173
    refine ifF (by rw [y2]; decide) ?_
    unfold C_Rr_gather_b193
    refine ifF (by decide) (ifT rfl (ifF (by decide) (ifT e6 ?_)))
    exact ent 16 _ y1 (gi_ins (m := 16) (tg := t.I 112 (2700 * r + n)) hM hr hn hI y1 ⟨16, rfl, by omega, by omega⟩ ((hM.r hr).w hn).2.2.2.2.1 (Or.inl y2)).1 k
  rw [if_neg y2] at k
  have e5 : a5 = 0 := by rw [h5, if_neg y2]
  refine ifT e5 ⟨o9, ?_⟩
  rw [← e1, ← e2, ← e4]
  refine w_toldMetric hq hM hr hp hn hl hlL ?_
  unfold C_Rr_gather_b132
  refine ifT e5 ⟨by rw [e1]; exact o9, w_toldTag hq hM hr hn fun v hv => ?_⟩
  rw [e1, e2, e4]
  unfold C_Rr_gather_b153
  refine ifT e5 ⟨_, rfl, _, gd_to o8, _, rfl, o4, ?_⟩
  rw [show s1.P (20 * 8 + 0) (G 4 (2700 * r + n)) = some (H1 160 (G 4 (2700 * r + n))) from p160.1, ← e2, ← e4]
  refine w_sumOf hq hM hr hp hn ?_
  rw [e2, e4]
  unfold C_Rr_gather_b173
  -- with what is due
  have b193 : ∀ u0, (u0 = 0 ∧ ¬ nwR t how (2700 * r + n) ∨ u0 = 1 ∧ nwR t how (2700 * r + n)) → C_Rr_gather_b193 sa (G 1 r) (some (G 2 (4 * r + p))) (fam f) how (some (H 237 x)) a5 a6 0 (nI n) (some (G 4 (2700 * r + n))) (tmV t r (4 * r + p) (2700 * r + n) (nI l)) v (ixO 0 (smV t (4 * r + p) (2700 * r + n))) u0 s1 kc1 ks1 Q P := by
    intro u0 hu
    unfold C_Rr_gather_b193
    by_cases y3 : tmV t r (4 * r + p) (2700 * r + n) (nI l) = -1
    · rw [if_pos y3] at k
      exact ifT y3 (skip k)
    rw [if_neg y3] at k
    refine ifF y3 ?_
    have hm := (tmV_r (q := 4 * r + p) (lk := nI l) hM hr hn).resolve_left y3
    have hv' : v = ttV t r (2700 * r + n) := hv fun z => y3 (by unfold tmV; rw [if_pos z])
    cases es : smV t (4 * r + p) (2700 * r + n) with
    | none =>
      rw [es] at k
      have k : ∀ G2 H2 s2 kc2 ks2, GC G H sa x s t (4 * r + p) f kc ks (@ite _ (nwR t how (2700 * r + n) ∧ bsD t (4 * r + p) (t.I 109 (2700 * r + n))) (Classical.propDecidable _) (eIns f (t.J 107 (2700 * r + n), t.J 108 (2700 * r + n), t.I 109 (2700 * r + n), tmV t r (4 * r + p) (2700 * r + n) (nI l), ttV t r (2700 * r + n)) g.1, g.2) g) G2 H2 s2 kc2 ks2 → P (nI (n + 1)) s2 kc2 ks2 := k
      refine ifT rfl ?_
      rcases hu with ⟨rfl, hu⟩ | ⟨rfl, hu⟩
      · rw [if_neg (fun z => hu z.1)] at k
        exact ifT rfl (skip k)
      refine ifF (by decide) ?_
      have yes : bsD t (4 * r + p) (t.I 109 (2700 * r + n)) → C_Rr_gather_b265 sa (G 1 r) (some (G 2 (4 * r + p))) (fam f) how (some (H 237 x)) a5 a6 0 (nI n) (some (G 4 (2700 * r + n))) (tmV t r (4 * r + p) (2700 * r + n) (nI l)) v s1 kc1 ks1 Q P := fun z => by
        rw [if_pos ⟨hu, z⟩] at k
        rw [hv']
        exact ent _ _ y1 (gi_ins hM hr hn hI y1 hm (ttV_r hM hr hn) (Or.inr ⟨es, z⟩)).1 k
      by_cases y4 : a6 = 0
      · refine ifT y4 (yes (Or.inl ?_))
        obtain ⟨m, e, -, hm15⟩ := ((hM.r hr).i hp).2.2.2.2.2.2.2.2.2.2.2.2.2.2.2.2.2.1
        rcases Nat.eq_zero_or_pos m with z | z
        · rw [e, z]; rfl
        · rw [h6, if_pos ⟨y2, by rw [e]; exact nI_lt (a := 0) z (by omega)⟩] at y4
          exact absurd y4 (by decide)
      · have hd : 0 < t.I 99 (4 * r + p) := Classical.byContradiction fun z => y4 (by rw [h6, if_neg (fun y => z y.2)])
        refine ifF y4 ⟨_, rfl, _, gd_to o8, _, p160.1, _, gd_to o5, ?_⟩
        rw [show s1.I (20 * 5 + 3) (H1 160 (G 4 (2700 * r + n))) = t.I 109 (2700 * r + n) from w4]
        obtain ⟨m, em, hmm⟩ := ln.n
        by_cases y5 : t.I 109 (2700 * r + n) = 0
        · rw [if_neg (fun z => z.2.elim (fun y => by rw [y] at hd; exact absurd hd (by decide)) (fun y => by rw [y5] at y; exact absurd y.1 (by decide)))] at k
          exact ifT y5 (skip k)
        · refine ifF y5 (yes (Or.inr ⟨?_, hno y2 hd⟩))
          rw [em] at y5 ⊢
          rcases Nat.eq_zero_or_pos m with z | z
          · rw [z] at y5; exact absurd rfl y5
          · exact nI_lt (a := 0) z (by omega)
    | some i =>
      rw [es] at k
      have k : ∀ G2 H2 s2 kc2 ks2, GC G H sa x s t (4 * r + p) f kc ks (gSm t how (tmV t r (4 * r + p) (2700 * r + n) (nI l)) (2700 * r + n) i g) G2 H2 s2 kc2 ks2 → P (nI (n + 1)) s2 kc2 ks2 := k
      obtain ⟨-, -, hiN, -⟩ := fsN_s es
      have hi4 : i < 4 := by
        have h4 := ((hM.r hr).i hp).2.2.2.2.2.2.2.2.2.2.2.2.2.1.n.2.2
        omega
      rw [show ixO 0 (some i) = nI i by show nI (0 + i) = _; rw [Nat.zero_add]]
      obtain ⟨z1, z2⟩ := hS i (by omega)
      refine ifF (show ¬ nI i = -1 from nI_ne (by omega)) ⟨_, rfl, _, gd_to o4, _, gd_to o4, _, p89, _, rd_E k89 ⟨by decide, by decide, rfl⟩ hi4 (by decide) z1, _, p89, _, wr_E k89 ⟨by decide, by decide, rfl⟩ hi4 (by decide), ?_⟩
      have ub : bit u0 := by
        rcases hu with ⟨z, -⟩ | ⟨z, -⟩
        · exact Or.inl z
        · exact Or.inr z
      have gb := hI.2.2.2.2.1 i
      have ne12 : H 90 (G 2 (4 * r + p)) ≠ H 89 (G 2 (4 * r + p)) := fun z => by
        rw [z, k89] at k90
        exact absurd k90 (by decide)
      obtain ⟨r1, f1, t1, s1'⟩ := gc_se (i := i) (v := mnI (lc (g.2.1 i)) (tmV t r (4 * r + p) (2700 * r + n) (nI l))) hM hG0 (a := H 89 (G 2 (4 * r + p))) (Or.inl (by rw [k89]))
      refine ⟨_, gd_to (show okO (cSE s1 (H 89 (G 2 (4 * r + p))) i _) 4 (G 2 (4 * r + p)) from o4), _, p90, _, rd_E (s := cSE s1 (H 89 (G 2 (4 * r + p))) i _) k90 ⟨by decide, by decide, rfl⟩ hi4 (by decide) (v := g.2.2 i) (by rw [cSE_a ne12]; exact z2), ?_⟩
      have ob : bit (g.2.2 i ||| u0) := by
        rw [bit_or gb ub]
        split
        · exact Or.inr rfl
        · exact Or.inl rfl
      refine ⟨_, wr_Z (s := cSE s1 (H 89 (G 2 (4 * r + p))) i _) k90 ⟨by decide, by decide, rfl⟩ hi4 (by decide) ob, ?_⟩
      have hG1 : GC G H sa x s t (4 * r + p) f kc ks (g.1, upd g.2.1 i (if tmV t r (4 * r + p) (2700 * r + n) (nI l) < g.2.1 i then tmV t r (4 * r + p) (2700 * r + n) (nI l) else g.2.1 i), g.2.2) G1 H1 (cSE s1 (H 89 (G 2 (4 * r + p))) i (mnI (lc (g.2.1 i)) (tmV t r (4 * r + p) (2700 * r + n) (nI l)))) kc1 ks1 := by
        refine ⟨r1, h2, h3, f1, t1, fun i' hi' => ⟨?_, ?_⟩, b1, by rw [s1']; exact b2⟩
        · rw [cSE_s]
          show (if i' = i then _ else _) = lc (if i' = i then _ else _)
          by_cases y : i' = i
          · rw [if_pos y, if_pos y, lc_mn hm (hI.2.2.2.1 i)]
          · rw [if_neg y, if_neg y]; exact (hS i' hi').1
        · rw [cSE_a ne12]; exact (hS i' hi').2
      obtain ⟨r2, f2, t2, s2'⟩ := gc_se (i := i) (v := g.2.2 i ||| u0) hM hG1 (a := H 90 (G 2 (4 * r + p))) (Or.inr (by show (s1.K (H 90 (G 2 (4 * r + p)))).1 = 116; rw [k90]))
      unfold C_Rr_gather_b280
      rw [nI_1]
      refine k G1 H1 _ kc1 ks1 ⟨r2, h2, h3, f2, t2, fun i' hi' => ⟨?_, ?_⟩, b1, by rw [s2', s1']; exact b2⟩
      · rw [cSE_a ne12.symm]; exact (hG1.2.2.2.2.2.1 i' hi').1
      · rw [cSE_s]
        show (if i' = i then _ else _) = (if i' = i then _ else _)
        by_cases y : i' = i
        · rw [if_pos y, if_pos y, bit_or gb ub]
          have iff : (g.2.2 i ≠ 0 ∨ u0 ≠ 0) ↔ (g.2.2 i ≠ 0 ∨ nwR t how (2700 * r + n)) := by
            rcases hu with ⟨z, hu⟩ | ⟨z, hu⟩
            · exact ⟨fun y => y.elim Or.inl (fun y => absurd z y), fun y => y.elim Or.inl (fun y => absurd y hu)⟩
            · exact ⟨fun _ => Or.inr hu, fun _ => Or.inr (by rw [z]; decide)⟩
          by_cases c : g.2.2 i ≠ 0 ∨ u0 ≠ 0
          · rw [if_pos c, if_pos (iff.mp c)]
          · rw [if_neg c, if_neg (fun z => c (iff.mpr z))]
        · rw [if_neg y, if_neg y]; exact (hG1.2.2.2.2.2.1 i' hi').2
  by_cases y6 : how = 1
  · refine ifT y6 ⟨_, rfl, _, gd_to o8, ?_⟩
    rw [show s1.I (20 * 8 + 7) (G 4 (2700 * r + n)) = t.I 119 (2700 * r + n) from v4]
    by_cases y7 : t.I 119 (2700 * r + n) = 0
    · exact ifT y7 (b193 0 (Or.inl ⟨rfl, fun z => z.elim (fun y => by rw [y] at y6; exact absurd y6 (by decide)) fun y => y y7⟩))
    · exact ifF y7 (b193 1 (Or.inr ⟨rfl, Or.inr y7⟩))
  · exact ifF y6 (b193 1 (Or.inr ⟨rfl, Or.inl ((hh.resolve_right fun z => z.elim y6 y2))⟩))
end Cg
