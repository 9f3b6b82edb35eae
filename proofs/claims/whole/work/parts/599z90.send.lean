/-! Entries in the draft; a draft with entries is sent. -/
section Ae
variable {G H : Nat → Nat → Nat} {sa : Nat → Nat} {x kc ks r p l c D b d f m kx : Nat} {s s0 s1 s3 : cS} {t t' : moS} {V : chV} {L E hd : List Int32} {ta cmd F : Int32} {th tl : Int64} {ky : Option Nat} {Q : cS → Nat → Nat → Prop} {v : kV} {e : En}
theorem c_adE {pe : Nat} (h : FW b d s0 L s) (hF : bit F) (h40 : s0.P 40 D = some b) (o2 : okO s0 2 D) (h44 : s0.I 44 D = fam F) (hp : PF s0 pe (fam F) e.1 e.2.1 e.2.2.1) (h5 : okO s0 5 pe) (hl : L.length + 20 ≤ 600) (k : ∀ s', FW b d s0 (L ++ eB F e) s' → Q s' kc ks) : C_Da_addEntry sa D (some pe) e.2.2.2.2 e.2.2.2.1 s kc ks Q := by
  obtain ⟨p1, p2, p3, p4⟩ := hp
  have rd : ∀ {s' : cS} {L' : List Int32}, FW b d s0 L' s' → (s'.P 40 D = some b ∧ okO s' 2 D ∧ s'.I 44 D = fam F ∧ okO s' 5 pe) ∧ s'.J 101 pe = e.1 ∧ s'.J 102 pe = e.2.1 ∧ s'.I 103 pe = e.2.2.1 := fun {s' L'} h' => by
    refine ⟨⟨by rw [h'.1.2.1]; exact h40, h'.ok o2, ?_, h'.ok h5⟩, by rw [h'.1.2.2.2]; exact p2, by rw [h'.1.2.2.2]; exact p3, ?_⟩
    · rw [h'.2.1 44 D (fun z => absurd z.1 (by decide))]; exact h44
    · rw [h'.2.1 103 pe (fun z => absurd z.1 (by decide))]; exact p4
  unfold C_Da_addEntry
  obtain ⟨⟨a1, a2, a3, a4⟩, -⟩ := rd h
  refine ⟨_, gd_to a2, ?_⟩
  rw [show s.I (20 * 2 + 4) D = fam F from a3]
  rcases hF with rfl | rfl
  · unfold eB at k
    rw [if_pos rfl] at k
    refine ifT rfl ⟨_, gd_to a2, b, a1, h.o, fw_number 2 rfl h (by decide) (by omega) fun s2 h2 => ?_⟩
    obtain ⟨⟨b1, b2, -, -⟩, -⟩ := rd h2
    refine ⟨_, gd_to b2, b, b1, h2.o, fw_number 2 rfl h2 (by decide) (by rw [List.length_append, bnL_len]; omega) fun s3 h3 => ?_⟩
    obtain ⟨⟨c1, c2, -, c4⟩, c5, -, -⟩ := rd h3
    refine ⟨_, gd_to c2, pe, rfl, _, gd_to c4, b, c1, h3.o, ?_⟩
    rw [show s3.J (20 * 5 + 1) pe = e.1 from c5]
    refine fw_number 4 rfl h3 (by decide) (by rw [List.length_append, List.length_append, bnL_len, bnL_len]; omega) fun s4 h4 => ?_
    obtain ⟨⟨d1, d2, -, d4⟩, -, -, d7⟩ := rd h4
    refine ⟨_, gd_to d2, _, gd_to d4, ?_⟩
    rw [show s4.I (20 * 5 + 3) pe = e.2.2.1 from d7]
    refine w_mH ⟨b, d1, h4.o, fw_number 4 rfl h4 (by decide) (by rw [List.length_append, List.length_append, List.length_append, bnL_len, bnL_len, bnL_len]; omega) fun s5 h5' => ?_⟩
    obtain ⟨⟨f1, f2, -, -⟩, -⟩ := rd h5'
    refine ⟨_, gd_to f2, b, f1, h5'.o, fw_number 8 rfl h5' (by decide) (by rw [List.length_append, List.length_append, List.length_append, List.length_append, bnL_len, bnL_len, bnL_len, bnL_len]; omega) fun s6 h6 => k s6 ?_⟩
    rw [List.append_assoc, List.append_assoc, List.append_assoc, List.append_assoc] at h6
    rw [List.append_assoc, List.append_assoc, List.append_assoc]
    exact h6
  · unfold eB at k
    rw [if_neg (by decide)] at k
    refine ifF (by decide) ⟨_, gd_to a2, pe, rfl, _, gd_to a4, b, a1, h.o, ?_⟩
    obtain ⟨-, a5, -, -⟩ := rd h
    rw [show s.J (20 * 5 + 1) pe = e.1 from a5]
    refine fw_number 8 rfl h (by decide) (by omega) fun s2 h2 => ?_
    obtain ⟨⟨b1, b2, -, b4⟩, -, b6, -⟩ := rd h2
    refine ⟨_, gd_to b2, _, gd_to b4, b, b1, h2.o, ?_⟩
    rw [show s2.J (20 * 5 + 2) pe = e.2.1 from b6]
    refine fw_number 8 rfl h2 (by decide) (by rw [List.length_append, bnL_len]; omega) fun s3 h3 => ?_
    obtain ⟨⟨c1, c2, -, -⟩, -⟩ := rd h3
    refine ⟨_, gd_to c2, b, c1, h3.o, fw_number 2 rfl h3 (by decide) (by rw [List.length_append, List.length_append, bnL_len, bnL_len]; omega) fun s4 h4 => ?_⟩
    obtain ⟨⟨d1, d2, -, d4⟩, -, -, d7⟩ := rd h4
    refine ⟨_, gd_to d2, _, gd_to d4, b, d1, h4.o, ?_⟩
    rw [show s4.I (20 * 5 + 3) pe = e.2.2.1 from d7]
    refine fw_add h4 (by rw [List.length_append, List.length_append, List.length_append, bnL_len, bnL_len, bnL_len]; omega) fun s5 h5' => ?_
    obtain ⟨⟨f1, f2, -, -⟩, -⟩ := rd h5'
    refine ⟨_, gd_to f2, b, f1, h5'.o, fw_add h5' (by rw [List.length_append, List.length_append, List.length_append, List.length_append, bnL_len, bnL_len, bnL_len]; show L.length + 8 + 8 + 2 + 1 + 1 ≤ 600; omega) fun s6 h6 => k s6 ?_⟩
    rw [List.append_assoc, List.append_assoc, List.append_assoc, List.append_assoc] at h6
    rw [List.append_assoc, List.append_assoc, List.append_assoc]
    exact h6
/-- a target, from before the draft was begun -/
def TG0 (H : Nat → Nat → Nat) (s : cS) (D : Nat) (p2 : Option Nat) (ta : Int32) (th tl : Int64) (f : Nat) : Prop := (p2 = none ∧ ta = 1) ∨ ∃ tp, p2 = some tp ∧ ta = 0 ∧ s.I 100 tp = fam (nI f) ∧ s.J 101 tp = th ∧ s.J 102 tp = tl ∧ ((s.K tp).1 = 16 ∨ ∃ A, (s.K A).1 = 6 ∧ A ≠ D ∧ tp = H 41 A)
theorem tg_of {s' : cS} {p2 : Option Nat} {Rv Rq : List Nat} {Gp : List (Nat × Nat)} (h : TG0 H s D p2 ta th tl f) (hT : TY cNo H s) (kD : (s.K D).1 = 6) (fr' : fr Rv Gp Rq s s') (d : 16 ∉ Rv) (ho : ∀ A, (s.K A).1 = 6 → A ≠ D → hdF H A s s') : TG H s' D p2 ta th tl f := by
  rcases h with h | ⟨tp, e1, e2, e3, e4, e5, e6⟩
  · exact Or.inl h
  refine Or.inr ⟨tp, e1, e2, ?_⟩
  rcases e6 with k | ⟨A, kA, nA, eA⟩
  · have v := fr'.v k d
    refine ⟨okr (fr'.r k) 5, fun z => ?_, by rw [v.1]; exact e3, by rw [v.2.1]; exact e4, by rw [v.2.1]; exact e5⟩
    rw [z, (hT.p kD 41 12).2] at k
    exact absurd k (by decide)
  · obtain ⟨-, -, ⟨v1, v2⟩, -⟩ := ho A kA nA
    have k12 := (hT.p kA 41 12).2
    rw [← eA] at v1 v2 k12
    refine ⟨okr (fr'.r k12) 5, fun z => ?_, by rw [v1]; exact e3, by rw [v2]; exact e4, by rw [v2]; exact e5⟩
    rw [eA] at z
    exact nA (hT.i kA kD 41 (by decide) z)
/-- the end: keys, and it goes -/
theorem sd_end {p2 : Option Nat} (hR : RR G H sa x s t) (hM : MV t) (hr : r < cR t) (hp : p < cI t r) (hf : f = 0 ∨ f = 1) (hcmd : cmd &&& 255 = cmd) (hX : PX G H x s t r p l c D b V) (hl : l = (t.I 71 (4 * r + p)).toNatClampNeg) (hV : mcV t (4 * r + p) = V) (hm : E.length = 20 * m) (h5 : E.length ≤ 560) (h5k : V.1 = 2 → E.length ≤ 520) (hE : ∀ i, i < E.length → t.I 146 i = E.getD i 0) (u0 : t.I 22 l ≠ 0) (h75 : t.I 75 (2 * (4 * r + p) + f) ≠ 0) (ho : opH V (nI f) (t.S 1) (t.I 89 (4 * r + p)) cmd = some (ky, hd)) (hR1 : RR G H sa x s1 (if ky = none then t else moSI t 89 (4 * r + p) (t.I 89 (4 * r + p) + 1))) (f1 : fr Rop [(47, 6)] [] s s1) (i44 : s1.I 44 D = fam (nI f)) (eP : s1.P = s.P) (o01 : ∀ A, (s.K A).1 = 6 → A ≠ D → hdF H A s s1) (h3 : FW b d s1 (hd ++ E) s3) (hTG : TG0 H s D p2 ta th tl f) (hs : ¬ t.I 23 l + 1 < 0) (hkc : plC s G H l + 5 * dN G t + wkC s c ≤ kc) (hks : 2 * plC s G H l + 622 * dN G t + 792 * wkC s c ≤ ks) (hgo : M_send t (nI (4 * r + p)) (nI f) cmd (nI m) ta th tl = some t') (k : AsK G H sa x s t l c t' kc ks Q) : (ky = none → okO s3 9 (G 1 r) ∧ C_Rr_sendDraft sa (G 1 r) (some (G 2 (4 * r + p))) p2 s3 kc ks Q) ∧ ∀ kx, ky = some kx → okO s3 1 c ∧ ∀ Q' : cS → Nat → Nat → Prop, (∀ s4 kc4 ks4, (∀ a, (s3.K a).1 = 6 → (s4.K a).1 = 6 ∧ s4.P 41 a = s3.P 41 a) → (okO s4 9 (G 1 r) ∧ C_Rr_sendDraft sa (G 1 r) (some (G 2 (4 * r + p))) p2 s4 kc4 ks4 Q) → Q' s4 kc4 ks4) → C_Ch_seal sa c (some b) (nI kx) s3 kc ks Q' := by
  have hX0 := hX
  obtain ⟨⟨x1, x2, x3, x4, x5, x6, x7, x8, x9⟩, ⟨y1, y2, y3, y4, y5, y6, y7, y8⟩, ⟨z1, z2, z3, z4, z5, z6⟩, -⟩ := hX
  obtain ⟨g1, g2, g3⟩ := m_send (cmd := cmd) (ta := ta) (th := th) (tl := tl) (m := m) (E := E) hM hr hp hf y4 y5 z4 z6 hm h5 hE h5k
  obtain ⟨w0, w1⟩ := op_wr (E := E) z4 ho
  have hk31 : ∀ kx, ky = some kx → kx < 4 := fun kx e => Nat.lt_of_lt_of_le (w1 kx e).1 z4.2.1
  generalize ht1 : (if ky = none then t else moSI t 89 (4 * r + p) (t.I 89 (4 * r + p) + 1)) = t1 at hR1
  have m1 : mfr [89] t t1 := by
    rw [← ht1]
    split
    · exact mfr.rf
    · exact mfr.si (by decide)
  have hM1 : MV t1 := by
    rw [← ht1]
    split
    · exact hM
    · exact (rr_num hR hM hr hp).2.1
  have hr1 : r < cR t1 := by unfold cR; rw [m1.S 37 (by decide)]; exact hr
  have hp1 : p < cI t1 r := by unfold cI; rw [m1.I 70 (by decide)]; exact hp
  have e71 : (t1.I 71 (4 * r + p)).toNatClampNeg = l := by rw [m1.I 71 (by decide), hl]
  have hX1 := px_of hR1 hM1 hr1 hp1
  rw [e71, ← x8, ← x9, ← z2] at hX1
  have hV1 : mcV t1 (4 * r + p) = V := by
    rw [← hV]
    unfold mcV
    rw [m1.I 79 (by decide), m1.I 80 (by decide), m1.I 81 (by decide), m1.I 82 (by decide), m1.I 83 (by decide), m1.I 84 (by decide), m1.I 85 (by decide), m1.I 86 (by decide), m1.I 87 (by decide), m1.I 88 (by decide)]
  rw [hV1] at hX1
  obtain ⟨⟨X1, X2, X3, X4, X5, X6, X7, X8, X9⟩, ⟨Y1, -⟩, ⟨Z1, Z2, Z3, Z4, Z5, Z6⟩, -⟩ := hX1
  have hpd : s1.P 0 b = some d := h3.2.2.2.1.2.1
  have kd : s1.K d = (129, 600) := h3.2.2.2.1.2.2
  have P3 : s3.P = s1.P := h3.1.2.1
  have df : DF H D d s1 s3 := FW.df (by rw [← X9]; exact h3)
  have hT := hR.q.1.ty
  have hT1 := hR1.q.1.ty
  have hR3 : RR G H sa x s3 t1 := rr_dr hR1 hM1 x8.symm (by rw [← X9]; exact hpd) (by rw [kd]) df ⟨_, by rw [← X9]; exact h3.bl⟩
  have f13 := df.fr hT1 X7 (by rw [kd])
  have i3 : s3.I 44 D = fam (nI f) := by rw [h3.2.1 44 D (fun z => absurd z.1 (by decide))]; exact i44
  have f3 : fr Rsl [(28, 4), (28, 5), (47, 6)] [] s s3 := f1.wk.tr f13.wk
  have o03 : ∀ A, (s.K A).1 = 6 → A ≠ D → hdF H A s s3 := fun A kA nA => (o01 A kA nA).tr (hdF.df df hT1 X7 (by rw [← X9]; exact hpd) (f1.r kA) nA)
  have wk3 : wkC s3 c = wkC s c := by unfold wkC; rw [P3, eP]
  refine ⟨fun ek => ?_, fun kx ek => ?_⟩
  · subst ek
    obtain ⟨v0, v1, -⟩ := w0 rfl
    obtain ⟨tw, o1, mw, e1⟩ := g3 u0 _ v0
    rw [if_neg v1] at mw
    have ht1 : t1 = t := by rw [← ht1, if_pos rfl]
    subst ht1
    refine ⟨h3.ok X1, ?_⟩
    obtain ⟨R4, M4⟩ := rr_tw (b := false) (q := 0) (v := 0) (t := t1) hR3 hM mw
    exact ask_end hR hM R4 M4 (mw.wk (by decide)) f3 (fun a _ _ => by rw [P3, eP]) (fun A kA nA => o03 A kA (by rw [x8]; exact nA)) hr hp hX0 hl hf h3.bl o1 i3 h75 (tg_of hTG hT x7 f3 (by decide) o03) hs (by rw [wk3]; exact Nat.le_refl _) (by rw [wk3]; exact Nat.le_refl _) (by omega) (by omega) (e1.symm.trans hgo) k
  · subst ek
    obtain ⟨v0, v1, v2, v3, v4⟩ := w1 kx rfl
    obtain ⟨tw, o1, mw, e1⟩ := g3 u0 _ v2
    rw [if_pos ⟨v3, v4⟩] at mw
    have ht1 : t1 = moSI t 89 (4 * r + p) (t.I 89 (4 * r + p) + 1) := by rw [← ht1, if_neg (by intro z; cases z)]
    have hkx := hk31 kx rfl
    have hgk := gk_D v0
    generalize hv : V.2.2.getD kx k0V = v at hgk v1 v2 o1
    have kyS : KY c kx v.2.1 v.2.2.1 s3 := (ky_of hR1.q.1.1 Z3 Z5 Z4 hgk).fw h3
    have b3 : BL s3 b 129 ((hdL cmd 2 ++ keL 0 v (t.I 89 (4 * r + p))) ++ E) 600 := by rw [← v1]; exact h3.bl
    refine ⟨h3.ok Z3, fun Q' kq => c_seal hR3 hM1 (h3.ok Z3) x8.symm X9 kyS b3 (h5k v4) (by rw [wk3]; omega) fun s4 kc4 ks4 R4 f4 p4 n4 c4 b4 i4 o4 => kq s4 kc4 ks4 (fun a ha => ⟨f4.r ha, f4.p ha (by decide)⟩) ?_⟩
    have okr4 : okO s4 9 (G 1 r) := by
      have := h3.ok X1
      unfold okO; rw [(f4 _ this.n0).1]; exact this
    refine ⟨okr4, ?_⟩
    rw [ht1] at R4 hM1
    obtain ⟨R5, M5⟩ := rr_tw (b := true) (q := 4 * r + p) (v := t.I 89 (4 * r + p) + 1) (t := t) R4 hM1 mw
    have z4' : wkC s4 c = 0 := if_neg n4
    rw [wk3] at c4
    have o04 : ∀ A, (s.K A).1 = 6 → A ≠ D → hdF H A s s4 := fun A kA nA => (o03 A kA nA).tr (o4 A (f3.r kA) nA)
    refine ask_end hR hM R5 M5 ((mfr.si (by decide)).tr (mw.wk (by decide))) (f3.tr f4) (fun a ha ne => ?_) (fun A kA nA => o04 A kA (by rw [x8]; exact nA)) hr hp hX0 hl hf b4 o1 (i4.trans i3) h75 (tg_of hTG hT x7 (f3.tr f4) (by decide) o04) hs (by omega) (by omega) (by omega) (by omega) (e1.symm.trans hgo) k
    have ha3 : okO s3 1 a := by unfold okO; rw [(f3 a ha.n0).1]; exact ha
    rw [p4 a ha3 ne, P3, eP]
end Ae
