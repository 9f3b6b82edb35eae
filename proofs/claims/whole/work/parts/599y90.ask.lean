/-! A request: both sides. -/
abbrev Ras : List Nat := [2, 3, 4, 5, 6, 7, 8, 12, 13, 30, 104, 113, 119, 125, 127, 129]
abbrev Pas : List (Nat × Nat) := [(0, 2), (28, 4), (28, 5), (47, 6), (48, 6), (236, 30)]
/-- how it goes on when a draft was sent -/
def AsK (G H : Nat → Nat → Nat) (sa : Nat → Nat) (x : Nat) (s : cS) (t : moS) (l c : Nat) (t' : moS) (kc ks : Nat) (Q : cS → Nat → Nat → Prop) : Prop := ∀ G' H' s' kc' ks', RR G' H' sa x s' t' → (∀ b, b ≠ 11 → b ≠ 12 → G' b = G b) → hA H H' s → fr Ras Pas Qfl s s' → (∀ i, i < cL t → i ≠ l → plC s' G H i = plC s G H i) → (∀ a, okO s 1 a → a ≠ c → s'.P 28 a = s.P 28 a) → kc + plC s' G H l + 5 * dN G' t' + wkC s' c ≤ kc' + plC s G H l + 5 * dN G t + wkC s c → ks + 2 * plC s' G H l + 622 * dN G' t' + 792 * wkC s' c ≤ ks' + 2 * plC s G H l + 622 * dN G t + 792 * wkC s c → HO G H s t G' s' t' → Q s' kc' ks'
section As
variable {G H : Nat → Nat → Nat} {sa : Nat → Nat} {x kc ks r p l c D b f m kx : Nat} {s s3 : cS} {t t' tw : moS} {V : chV} {L E hd : List Int32} {ta cmd fa tm nn : Int32} {th tl : Int64} {ky : Option Nat} {Q : cS → Nat → Nat → Prop} {v : kV}
theorem ky_of (hg : RGl G H sa x s) (hc : okO s 1 c) (hC : CC H s c V) (hV : VV V) (hk : V.2.2[kx]? = some v) : KY c kx v.2.1 v.2.2.1 s := by
  obtain ⟨-, -, ⟨p4, q4⟩, -, -, ⟨p7, q7⟩, w7⟩ := chK hg hc
  have hl : kx < V.2.2.length := (List.getElem?_eq_some_iff.mp hk).1
  have h4 := hV.2.1
  obtain ⟨e1, e2, e3, e4, e5⟩ := hC.2.2.1 kx v hk
  obtain ⟨k1, k2, k3, -, -⟩ := hV.2.2.2.2.1 kx v hk
  obtain ⟨w, f1, f2⟩ := w7 kx (by omega)
  exact ⟨⟨by omega, k3, k2⟩, H 24 c, H 27 c, w, ⟨p4, q4, e2⟩, p7, q7, f1, f2, e5 w f1⟩
theorem ixO_2 (h : ∀ k, ky = some k → k < 2 ^ 31) : ¬ ixO 0 ky = -2 := by
  cases ky with
  | none => decide
  | some k =>
    intro e
    have h2 := nI_pos (n := 0 + k) (by rw [Nat.zero_add]; exact h k rfl)
    rw [show nI (0 + k) = -2 from e] at h2
    exact h2 (by decide)
/-- the end: the draft is sent -/
theorem ask_end (hR : RR G H sa x s t) (hM : MV t) (hR3 : RR G H sa x s3 tw) (hMw : MV tw) (mw : mfr Wwr t tw) (f3 : fr Rsl [(28, 4), (28, 5), (47, 6)] [] s s3) (p28 : ∀ a, okO s 1 a → a ≠ c → s3.P 28 a = s.P 28 a) (h03 : ∀ A, (s.K A).1 = 6 → A ≠ G 11 999 → hdF H A s s3) (hr : r < cR t) (hp : p < cI t r) (hX : PX G H x s t r p l c D b V) (hl : l = (t.I 71 (4 * r + p)).toNatClampNeg) (hf : f = 0 ∨ f = 1) (hb : BL s3 b 129 L 600) (hO : OU tw L) (h44 : s3.I 44 D = fam (nI f)) (h75 : t.I 75 (2 * (4 * r + p) + f) ≠ 0) {p2 : Option Nat} (hTG : TG H s3 D p2 ta th tl f) (hs : ¬ t.I 23 l + 1 < 0) {kc3 ks3 : Nat} (ekc : kc + wkC s3 c ≤ kc3 + wkC s c) (eks : ks + 792 * wkC s3 c ≤ ks3 + 792 * wkC s c) (hkc : plC s G H l + 5 * dN G t ≤ kc3) (hks : 2 * plC s G H l + 622 * dN G t ≤ ks3) (hgo : goM tw r p l ta th tl f = some t') (k : AsK G H sa x s t l c t' kc ks Q) : C_Rr_sendDraft sa (G 1 r) (some (G 2 (4 * r + p))) p2 s3 kc3 ks3 Q := by
  obtain ⟨⟨x1, x2, x3, x4, x5, x6, x7, x8, x9⟩, ⟨y1, y2, y3, y4, y5, y6, y7, y8⟩, ⟨z1, z2, z3, -⟩, -⟩ := hX
  have hrw : r < cR tw := by unfold cR; rw [mw.S 37 (by decide)]; exact hr
  have hpw : p < cI tw r := by unfold cI; rw [mw.I 70 (by decide)]; exact hp
  have e71 : (tw.I 71 (4 * r + p)).toNatClampNeg = l := by rw [mw.I 71 (by decide), ← hl]
  have hX3 := px_of hR3 hMw hrw hpw
  rw [e71, ← x8, ← x9, ← z2] at hX3
  have eL : cL tw = cL t := by unfold cL; rw [mw.S 17 (by decide)]
  have eF : cF tw = cF t := by unfold cF; rw [mw.S 123 (by decide)]
  have ed : dN G tw = dN G t := by unfold dN; rw [eF]
  have epl : ∀ i, i < cL t → plC s3 G H i = plC s G H i := fun i hi => plC_fr hR.q.1 hi f3 rfl
  refine c_snd hR3 hMw hrw hpw hX3 hf hb hO h44 (by rw [mw.I 75 (by decide)]; exact h75) hTG (by rw [mw.I 23 (by decide)]; exact hs) (by rw [epl l y4, ed]; exact hkc) (by rw [epl l y4, ed]; exact hks) hgo ?_
  intro G' H' s' kc' ks' a1 a2 a3 a4 a5 a6 a7 a8
  rw [epl l y4, ed] at a6 a7
  have z3' : okO s3 1 c := by unfold okO; rw [(f3 c z3.n0).1]; exact z3
  have e28 : ∀ a, okO s 1 a → s'.P 28 a = s3.P 28 a := fun a ha => by
    have ha3 : okO s3 1 a := by unfold okO; rw [(f3 a ha.n0).1]; exact ha
    refine (a4 a ha3.n0).2.2.1 28 ?_
    rcases ok1 ha3 with h | h <;> rw [h] <;> decide
  have ew : wkC s' c = wkC s3 c := by unfold wkC; rw [e28 c z3]
  refine k G' H' s' kc' ks' a1 a2 (fun g a ha => a3 g a (by rw [(f3 a ha).1]; exact ha)) (f3.wk.tr a4.wk) (fun i hi ne => (a5 i (by rw [eL]; exact hi) ne).trans (epl i hi)) (fun a ha ne => (e28 a ha).trans (p28 a ha ne)) ?_ ?_ (HO.pre h03 eF (fun A kA => f3.r kA) a8)
  · rw [ew]; omega
  · rw [ew]; omega
/-- no address there -/
theorem c_ask0 (hR : RR G H sa x s t) (hM : MV t) (hr : r < cR t) (hp : p < cI t r) (hf : f = 0 ∨ f = 1) (h75 : t.I 75 (2 * (4 * r + p) + f) = 0) (k : Q s kc ks) : C_Rr_ask sa (G 1 r) (some (G 2 (4 * r + p))) (fam (nI f)) s kc ks Q := by
  have hX := px_of hR hM hr hp
  unfold C_Rr_ask
  exact ⟨hX.1.1, c_open hR hM hr hp hX rfl hf (by decide) (fun _ => ifT rfl k) fun _ _ _ _ u => absurd h75 u⟩
theorem c_ask (hR : RR G H sa x s t) (hM : MV t) (hr : r < cR t) (hp : p < cI t r) (hf : f = 0 ∨ f = 1) (hl : (t.I 71 (4 * r + p)).toNatClampNeg = l) (hc : H 86 (G 2 (4 * r + p)) = c) (h75 : t.I 75 (2 * (4 * r + p) + f) ≠ 0) (hE : ∀ i, i < 20 → t.I 146 i = askE.getD i 0) (hs : ¬ t.I 23 l + 1 < 0) (hkc : plC s G H l + 5 * dN G t + wkC s c ≤ kc) (hks : 2 * plC s G H l + 622 * dN G t + 792 * wkC s c ≤ ks) (hgo : M_send t (nI (4 * r + p)) (nI f) 1 (nI 1) 1 0 0 = some t') (k : AsK G H sa x s t l c t' kc ks Q) : C_Rr_ask sa (G 1 r) (some (G 2 (4 * r + p))) (fam (nI f)) s kc ks Q := by
  have hX := px_of hR hM hr hp
  rw [hl, hc] at hX
  generalize hD : G 11 999 = D at hX
  generalize hb : H 40 D = b at hX
  generalize hV : mcV t (4 * r + p) = V at hX
  have hX0 := hX
  obtain ⟨⟨x1, x2, x3, x4, x5, x6, x7, x8, x9⟩, ⟨y1, y2, y3, y4, y5, y6, y7, y8⟩, ⟨z1, z2, z3, z4, z5, z6⟩, -⟩ := hX
  obtain ⟨g1, g2, g3⟩ := m_send (cmd := 1) (ta := 1) (th := 0) (tl := 0) (m := 1) (E := askE) hM hr hp hf y4 y5 z4 z6 rfl (by decide) hE
  unfold C_Rr_ask
  refine ⟨x1, c_open hR hM hr hp hX0 hV.symm hf (by decide) (fun h0 => ifT rfl ?_) fun ky hd s1 u0 _ ho hR1 f1 b1 i44 eP o01 => ?_⟩
  · -- nothing goes
    have same : ∀ t1, t1 = t' → mfr [147, 148] t t1 → Q s kc ks := fun t1 e m1 => by
      subst e
      have ec : cF t1 = cF t := by unfold cF; rw [m1.S 123 (by decide)]
      have ed : dN G t1 = dN G t := by unfold dN; rw [ec]
      exact k G H s kc ks (rr_fr hR hM hR.q.1.1 (fr.rf (Rv := []) (Gp := []) (Rq := [])) m1 rfl rfl rfl rfl rfl rfl rfl) (fun _ _ _ => rfl) (fun _ _ _ => rfl) fr.rf (fun _ _ _ => rfl) (fun _ _ _ => rfl) (by rw [ed]; omega) (by rw [ed]; omega) (HO.rf ec)
    rcases h0 with h0 | h0 | h0
    · exact same t (Option.some.inj ((g1 h0).symm.trans hgo)) mfr.rf
    · exact absurd h0 h75
    · by_cases u : t.I 22 l = 0
      · exact same t (Option.some.inj ((g1 u).symm.trans hgo)) mfr.rf
      · obtain ⟨t1, e1, m1⟩ := g2 u (op_no h0)
        exact same t1 (Option.some.inj (e1.symm.trans hgo)) m1
  obtain ⟨w0, w1⟩ := op_wr (E := askE) z4 ho
  have hk31 : ∀ kx, ky = some kx → kx < 4 := fun kx e => Nat.lt_of_lt_of_le (w1 kx e).1 z4.2.1
  generalize ht1 : (if ky = none then t else moSI t 89 (4 * r + p) (t.I 89 (4 * r + p) + 1)) = t1 at hR1
  have m1 : mfr [89] t t1 := by
    rw [← ht1]
    split
    · exact mfr.rf
    · exact mfr.si (by decide)
  have hM1 : MV t1 := by
    rw [← ht1]
    split
    · exact hM
    · exact (rr_num hR hM hr hp).2.1
  have hr1 : r < cR t1 := by unfold cR; rw [m1.S 37 (by decide)]; exact hr
  have hp1 : p < cI t1 r := by unfold cI; rw [m1.I 70 (by decide)]; exact hp
  have e71 : (t1.I 71 (4 * r + p)).toNatClampNeg = l := by rw [m1.I 71 (by decide), hl]
  have hX1 := px_of hR1 hM1 hr1 hp1
  rw [e71, hD, hb, hc] at hX1
  have hV1 : mcV t1 (4 * r + p) = V := by
    rw [← hV]
    unfold mcV
    rw [m1.I 79 (by decide), m1.I 80 (by decide), m1.I 81 (by decide), m1.I 82 (by decide), m1.I 83 (by decide), m1.I 84 (by decide), m1.I 85 (by decide), m1.I 86 (by decide), m1.I 87 (by decide), m1.I 88 (by decide)]
  rw [hV1] at hX1
  obtain ⟨⟨X1, X2, X3, X4, X5, X6, X7, X8, X9⟩, ⟨Y1, -⟩, ⟨Z1, Z2, Z3, Z4, Z5, Z6⟩, -⟩ := hX1
  obtain ⟨d, h1⟩ := b1.fw
  have hpd : s1.P 0 b = some d := h1.2.2.2.1.2.1
  have kd : s1.K d = (129, 600) := h1.2.2.2.1.2.2
  have hd24 : hd.length ≤ 24 := by
    cases ky with
    | none => exact (w0 rfl).2.2
    | some kx => rw [(w1 kx rfl).2.1]; exact Nat.le_refl 24
  refine ifF (ixO_2 fun kx e => Nat.lt_trans (hk31 kx e) (by decide)) ⟨_, gd_to X1, x, X2, _, gd_to X3, D, X4, _, gd_to X5, b, X6, h1.o, fw_zeros 19 rfl h1 (by decide) (by omega) fun s2 h2 => ?_⟩
  have P2 : s2.P = s1.P := h2.1.2.1
  refine ⟨_, gd_to (h2.ok X1), x, by show s2.P 180 _ = _; rw [P2]; exact X2, _, gd_to (h2.ok X3), D, by show s2.P 236 _ = _; rw [P2]; exact X4, _, gd_to (h2.ok X5), b, by show s2.P 40 _ = _; rw [P2]; exact X6, h2.o, fw_add h2 (by rw [List.length_append, List.length_replicate]; omega) fun s3 h3 => ?_⟩
  rw [show (16 : Int32) &&& 255 = 16 by decide, List.append_assoc] at h3
  have h3 : FW b d s1 (hd ++ askE) s3 := h3
  have P3 : s3.P = s1.P := h3.1.2.1
  have df : DF H D d s1 s3 := FW.df (by rw [hb]; exact h3)
  have hT1 := hR1.q.1.ty
  have hR3 : RR G H sa x s3 t1 := rr_dr hR1 hM1 hD (by rw [hb]; exact hpd) (by rw [kd]) df ⟨_, by rw [hb]; exact h3.bl⟩
  have f13 := df.fr hT1 X7 (by rw [kd])
  have i3 : s3.I 44 D = fam (nI f) := by rw [h3.2.1 44 D (fun z => absurd z.1 (by decide))]; exact i44
  have f3 : fr Rsl [(28, 4), (28, 5), (47, 6)] [] s s3 := f1.wk.tr f13.wk
  have o03 : ∀ A, (s.K A).1 = 6 → A ≠ G 11 999 → hdF H A s s3 := fun A kA nA => (o01 A kA (by rw [← hD]; exact nA)).tr (hdF.df df hT1 X7 (by rw [hb]; exact hpd) (f1.r kA) (by rw [← hD]; exact nA))
  have wk3 : wkC s3 c = wkC s c := by unfold wkC; rw [P3, eP]
  cases ky with
  | none =>
    obtain ⟨v0, v1, -⟩ := w0 rfl
    obtain ⟨tw, o1, mw, e1⟩ := g3 u0 _ v0
    rw [if_neg v1] at mw
    have ht1 : t1 = t := by rw [← ht1, if_pos rfl]
    subst ht1
    refine ifT rfl ?_
    unfold C_Rr_ask_b68
    refine ⟨h3.ok X1, ?_⟩
    obtain ⟨R4, M4⟩ := rr_tw (b := false) (q := 0) (v := 0) (t := t1) hR3 hM mw
    exact ask_end hR hM R4 M4 (mw.wk (by decide)) f3 (fun a _ _ => by rw [P3, eP]) o03 hr hp hX0 hl.symm hf h3.bl o1 i3 h75 (Or.inl ⟨rfl, rfl⟩) hs (by rw [wk3]; exact Nat.le_refl _) (by rw [wk3]; exact Nat.le_refl _) (by omega) (by omega) (e1.symm.trans hgo) k
  | some kx =>
    obtain ⟨v0, v1, v2, v3, v4⟩ := w1 kx rfl
    obtain ⟨tw, o1, mw, e1⟩ := g3 u0 _ v2
    rw [if_pos ⟨v3, v4⟩] at mw
    have ht1 : t1 = moSI t 89 (4 * r + p) (t.I 89 (4 * r + p) + 1) := by rw [← ht1, if_neg (by intro z; cases z)]
    have hkx := hk31 kx rfl
    have hgk := gk_D v0
    generalize hv : V.2.2.getD kx k0V = v at hgk v1 v2 o1
    have kyS : KY c kx v.2.1 v.2.2.1 s3 := (ky_of hR1.q.1.1 Z3 Z5 Z4 hgk).fw h3
    refine ifF (ixO_n (by omega)) ⟨_, rfl, _, gd_to (h3.ok Y1), _, gd_to (h3.ok X1), x, by show s3.P 180 _ = _; rw [P3]; exact X2, _, gd_to (h3.ok X3), D, by show s3.P 236 _ = _; rw [P3]; exact X4, _, gd_to (h3.ok X5), c, by show s3.P 86 _ = _; rw [P3]; exact Z1, h3.ok Z3, ?_⟩
    rw [show s3.P (20 * 2 + 0) D = some b by show s3.P 40 D = _; rw [P3]; exact X6, show ixO 0 (some kx) = nI kx by show nI (0 + kx) = _; rw [Nat.zero_add]]
    have b3 : BL s3 b 129 ((hdL 1 2 ++ keL 0 v (t.I 89 (4 * r + p))) ++ askE) 600 := by rw [← v1]; exact h3.bl
    refine c_seal hR3 hM1 (h3.ok Z3) hD hb.symm kyS b3 (by decide) (by rw [wk3]; omega) fun s4 kc4 ks4 R4 f4 p4 n4 c4 b4 i4 o4 => ?_
    unfold C_Rr_ask_b68
    have okr4 : okO s4 9 (G 1 r) := by
      have := h3.ok X1
      unfold okO; rw [(f4 _ this.n0).1]; exact this
    refine ⟨okr4, ?_⟩
    rw [ht1] at R4 hM1
    obtain ⟨R5, M5⟩ := rr_tw (b := true) (q := 4 * r + p) (v := t.I 89 (4 * r + p) + 1) (t := t) R4 hM1 mw
    have z4' : wkC s4 c = 0 := if_neg n4
    rw [wk3] at c4
    refine ask_end hR hM R5 M5 ((mfr.si (by decide)).tr (mw.wk (by decide))) (f3.tr f4) (fun a ha ne => ?_) (fun A kA nA => (o03 A kA nA).tr (o4 A (f3.r kA) (by rw [← hD]; exact nA))) hr hp hX0 hl.symm hf b4 o1 (i4.trans i3) h75 (Or.inl ⟨rfl, rfl⟩) hs (by omega) (by omega) (by omega) (by omega) (e1.symm.trans hgo) k
    have ha3 : okO s3 1 a := by unfold okO; rw [(f3 a ha.n0).1]; exact ha
    rw [p4 a ha3 ne, P3, eP]
end As
