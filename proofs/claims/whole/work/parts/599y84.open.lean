/-! A draft is begun. -/
/-- what a router finds of an interface -/
def PX (G H : Nat → Nat → Nat) (x : Nat) (s : cS) (t : moS) (r p l c D b : Nat) (V : chV) : Prop := (okO s 9 (G 1 r) ∧ s.P 180 (G 1 r) = some x ∧ okO s 11 x ∧ s.P 236 x = some D ∧ okO s 2 D ∧ s.P 40 D = some b ∧ (s.K D).1 = 6 ∧ D = G 11 999 ∧ b = H 40 D) ∧ (okO s 4 (G 2 (4 * r + p)) ∧ (s.K (G 2 (4 * r + p))).1 = 8 ∧ s.P 80 (G 2 (4 * r + p)) = some (G 0 l) ∧ l < cL t ∧ t.I 71 (4 * r + p) = nI l ∧ okO s 3 (G 0 l) ∧ s.I 64 (G 0 l) = t.I 22 l ∧ s.I 95 (G 2 (4 * r + p)) = t.I 89 (4 * r + p)) ∧ (s.P 86 (G 2 (4 * r + p)) = some c ∧ c = H 86 (G 2 (4 * r + p)) ∧ okO s 1 c ∧ VV V ∧ CC H s c V ∧ MC t (4 * r + p) V) ∧ s.I 225 x = t.S 1 ∧ ∃ l, BL s b 129 l 600
/-- the head of a draft: its key, its bytes -/
def opH (V : chV) (fa tm nn cmd : Int32) : Option (Option Nat × List Int32) := if fa = 0 then (if V.1 = 0 then some (none, hdL cmd 2) else if V.1 = 1 then some (none, hdL cmd 2 ++ pwL V.2.1) else (bkN tm V.2.2 V.2.2.length).map fun b => (some b, hdL cmd 2 ++ keL 0 (V.2.2.getD b k0V) nn)) else some (none, hdL cmd 1)
section Op
variable {G H : Nat → Nat → Nat} {sa : Nat → Nat} {x kc ks r p l c D b : Nat} {s s' : cS} {t : moS} {V : chV} {fa cmd : Int32} {Q : Int32 → cS → Nat → Nat → Prop}
theorem px_of (hR : RR G H sa x s t) (hM : MV t) (hr : r < cR t) (hp : p < cI t r) : PX G H x s t r p (t.I 71 (4 * r + p)).toNatClampNeg (H 86 (G 2 (4 * r + p))) (G 11 999) (H 40 (G 11 999)) (mcV t (4 * r + p)) := by
  have hq := hR.q.1
  have hT := hq.ty
  have hx := hq.1.1
  have hrt := hq.rt hr
  have hP := hq.po hr hp
  have hi := (hM.r hr).i hp
  have k6 := hq.2.2.2.2.2.2.2.2.2.1.2
  have k8 := hP.1.1
  have hl := hi.2.1
  obtain ⟨v1, v2, v3⟩ := ch_of hP.2.2.2.2.2.2.1 hi
  refine ⟨⟨okr hrt.1.1 9, by rw [(hT.p hrt.1.1 180 30).1, hrt.1.2.2], okr hx 11, hq.2.2.2.2.2.2.2.2.2.1.1, okr k6 2, (hT.p k6 40 3).1, k6, rfl, rfl⟩, ⟨okr k8 4, k8, by rw [(hT.p k8 80 7).1, hP.1.2.2], hl, hi.1.n.1, okr (hq.link hl).1.1 3, (hq.link hl).2.2.1.2.2.2.1, hP.2.2.2.1.2.2.2.2.2.2.2⟩, ⟨(hT.p k8 86 4).1, rfl, okr (hT.p k8 86 4).2 1, v1, v2, v3⟩, hq.2.2.1.2.1, hq.1.2.2.2.1 _ k6⟩
/-- the bytes up to a key's entry -/
def hd1 (V : chV) (fa cmd : Int32) : List Int32 := if fa = 0 then (if V.1 = 1 then hdL cmd 2 ++ pwL V.2.1 else hdL cmd 2) else hdL cmd 1
theorem hd1_l : (hd1 V fa cmd).length ≤ 24 := by
  unfold hd1
  split
  · split
    · exact Nat.le_refl 24
    · exact (by decide : 4 ≤ 24)
  · exact (by decide : 4 ≤ 24)
theorem c_op64 {a4 : Int32} (hg : RGl G H sa x s) (hX : PX G H x s t r p l c D b V) (hfa : bit fa) (hcmd : cmd &&& 255 = cmd) (k : ∀ s1 d, FW b d (cSI s 44 D (fam fa)) (hd1 V fa cmd) s1 → C_Rr_openDraft_b143 sa (some (G 2 (4 * r + p))) a4 (some b) s1 kc ks Q) : C_Rr_openDraft_b64 sa (G 1 r) (some (G 2 (4 * r + p))) (fam fa) cmd a4 s kc ks Q := by
  obtain ⟨⟨x1, x2, x3, x4, x5, x6, x7, x8, x9⟩, ⟨y1, y2, y3, y4, y5, y6, y7, y8⟩, ⟨z1, z2, z3, z4, z5, z6⟩, w1, l0, hb⟩ := hX
  have hb2 : BL (cSI s 44 D (fam fa)) b 129 l0 600 := by
    obtain ⟨a1, a2, e, a3, a4, a5, a6⟩ := hb
    refine ⟨a1, a2, e, a3, a4, ?_, a6⟩
    rw [evI, if_neg (fun z => absurd z.1 (by decide))]; exact a5
  obtain ⟨d, h0⟩ := hb2.fw
  unfold C_Rr_openDraft_b64
  refine ⟨_, gd_to x1, x, x2, _, gd_to x3, D, x4, _, gd_to x5, _, gd_to x1, x, x2, _, gd_to x3, D, x4, _, gd_to x5, b, x6, h0.o, ?_⟩
  show C_By_clear sa b (cSI s 44 D (fam fa)) kc ks _
  generalize hs2 : cSI s 44 D (fam fa) = s2 at h0 k ⊢
  have sP : s2.P = s.P := by rw [← hs2]; rfl
  have sK : s2.K = s.K := by rw [← hs2]; rfl
  have sE : s2.E = s.E := by rw [← hs2]; rfl
  have ok2 : ∀ {u a : Nat}, okO s u a → okO s2 u a := fun h => by unfold okO at h ⊢; rw [sK]; exact h
  have i20 : s2.I 20 c = s.I 20 c := by rw [← hs2, evI, if_neg (fun z => absurd z.1 (by decide))]
  refine fw_clear h0 fun s3 h3 => ⟨h3.o, fw_add h3 (by decide) fun s4 h4 => ?_⟩
  rw [hcmd, List.nil_append] at h4
  have b110 : ∀ u : Int32, u &&& 255 = u → (u = if fa = 0 then 2 else 1) → C_Rr_openDraft_b110 sa (some (G 2 (4 * r + p))) (fam fa) a4 (some b) (some b) u s4 kc ks Q := by
    intro u hu he
    unfold C_Rr_openDraft_b110
    refine ⟨b, rfl, h4.o, fw_add h4 (by show 1 + 1 ≤ 600; decide) fun s5 h5 => ⟨b, rfl, h5.o, fw_zeros 2 rfl h5 (by decide) (by show 2 + 2 ≤ 600; decide) fun s6 h6 => ?_⟩⟩
    rw [hu] at h6
    have h6 : FW b d s2 (hdL cmd u) s6 := h6
    rcases hfa with rfl | rfl
    · rw [if_pos rfl] at he
      subst he
      have i6 : s6.I 20 c = s.I 20 c := by rw [h6.2.1 20 c (fun z => absurd z.1 (by decide))]; exact i20
      have p86 : s6.P (20 * 4 + 6) (G 2 (4 * r + p)) = some c := by rw [h6.1.2.1, sP]; exact z1
      refine ifT rfl ⟨G 2 (4 * r + p), rfl, _, gd_to (h6.ok (ok2 y1)), c, p86, _, gd_to (h6.ok (ok2 z3)), ?_⟩
      rw [show s6.I (20 * 1 + 0) c = _ from i6.trans z5.1]
      by_cases v1 : V.1 = 1
      · rw [if_pos v1]
        refine ifF (by decide) ⟨_, gd_to (h6.ok (ok2 y1)), c, p86, h6.ok (ok2 z3), ?_⟩
        obtain ⟨q1, -⟩ := chK hg z3
        refine c_pwE (y := V.2.1) h6 (ok2 z3) (H := H) ⟨by rw [sP]; exact q1.1, by rw [sK]; exact q1.2⟩ (fun i hi => by rw [sE]; exact z5.2.2.2 v1 i hi) (z4.2.2.2.1 v1) (by show 4 ≤ 500; decide) fun s7 h7 => k s7 d ?_
        unfold hd1
        rw [if_pos rfl, if_pos v1]
        exact h7
      · rw [if_neg v1]
        refine ifT rfl (k s6 d ?_)
        unfold hd1
        rw [if_pos rfl, if_neg v1]
        exact h6
    · rw [if_neg (by decide)] at he
      subst he
      refine ifF (by decide) (k s6 d ?_)
      unfold hd1
      rw [if_neg (by decide)]
      exact h6
  rcases hfa with rfl | rfl
  · exact ifT rfl (b110 2 (by decide) rfl)
  · exact ifF (by decide) (b110 1 (by decide) rfl)
abbrev Rop : List Nat := [3, 6, 8, 12, 13, 129]
theorem c_open (hR : RR G H sa x s t) (hM : MV t) (hr : r < cR t) (hp : p < cI t r) (hX : PX G H x s t r p l c D b V) (hV : V = mcV t (4 * r + p)) {f : Nat} (hf : f = 0 ∨ f = 1) (hcmd : cmd &&& 255 = cmd) (k0 : t.I 22 l = 0 ∨ t.I 75 (2 * (4 * r + p) + f) = 0 ∨ opH V (nI f) (t.S 1) (t.I 89 (4 * r + p)) cmd = none → Q (-2) s kc ks) (k1 : ∀ ky hd s', t.I 22 l ≠ 0 → t.I 75 (2 * (4 * r + p) + f) ≠ 0 → opH V (nI f) (t.S 1) (t.I 89 (4 * r + p)) cmd = some (ky, hd) → RR G H sa x s' (if ky = none then t else moSI t 89 (4 * r + p) (t.I 89 (4 * r + p) + 1)) → fr Rop [(47, 6)] [] s s' → BL s' b 129 hd 600 → s'.I 44 D = fam (nI f) → s'.P = s.P → (∀ A, (s.K A).1 = 6 → A ≠ D → hdF H A s s') → Q (ixO 0 ky) s' kc ks) : C_Rr_openDraft sa (G 1 r) (some (G 2 (4 * r + p))) (fam (nI f)) cmd s kc ks Q := by
  have hg := hR.q.1.1
  have hT := hR.q.1.ty
  have hX0 := hX
  obtain ⟨⟨x1, x2, x3, x4, x5, x6, x7, x8, x9⟩, ⟨y1, y2, y3, y4, y5, y6, y7, y8⟩, ⟨z1, z2, z3, z4, z5, z6⟩, w1, l0, hb⟩ := hX
  have hfa : bit (nI f) := by
    rcases hf with rfl | rfl
    · exact Or.inl rfl
    · exact Or.inr rfl
  have hAd : RAd G s t (4 * r + p) f := by
    have hP := hR.q.1.po hr hp
    rcases hf with rfl | rfl
    · exact hP.2.1
    · exact hP.2.2.1
  -- the draft is begun, without a key
  have fin : ∀ {s1 : cS} {d : Nat} {L : List Int32}, FW b d (cSI s 44 D (fam (nI f))) L s1 → RR G H sa x s1 t ∧ fr Rop [(47, 6)] [] s s1 ∧ BL s1 b 129 L 600 ∧ s1.I 44 D = fam (nI f) ∧ s1.P = s.P ∧ ∀ A, (s.K A).1 = 6 → A ≠ D → hdF H A s s1 := fun {s1 d L} h1 => by
    have df : DF H D d s s1 := DF.siD.tr (FW.df (by rw [← x9]; exact h1))
    have hd : s.P 0 b = some d := h1.2.2.2.1.2.1
    have kd : s.K d = (129, 600) := h1.2.2.2.1.2.2
    have bl := h1.bl
    refine ⟨rr_dr hR hM x8.symm (by rw [← x9]; exact hd) (by rw [kd]) df ⟨L, by rw [← x9]; exact bl⟩, (df.fr hT x7 (by rw [kd])).wk, bl, ?_, h1.1.2.1, fun A kA nA => hdF.df df hT x7 (by rw [← x9]; exact hd) kA nA⟩
    rw [h1.2.1 44 D (fun z => absurd z.1 (by decide))]
    exact cSI_s
  unfold C_Rr_openDraft
  refine ⟨_, rfl, _, gd_to y1, G 0 l, y3, _, gd_to y6, ?_⟩
  rw [show s.I (20 * 3 + 4) (G 0 l) = t.I 22 l from y7]
  by_cases up : t.I 22 l = 0
  · exact ifT up (k0 (Or.inl up))
  refine ifF up ⟨y1, ?_⟩
  have adr : ∀ Q' : Option Nat → cS → Nat → Nat → Prop, Q' (s.P (81 + f) (G 2 (4 * r + p))) s kc ks → C_Po_addressOf sa (G 2 (4 * r + p)) (fam (nI f)) s kc ks Q' := fun Q' h => by
    unfold C_Po_addressOf
    rcases hf with rfl | rfl
    · exact ifT rfl ⟨_, gd_to y1, h⟩
    · exact ifF (by decide) ⟨_, gd_to y1, h⟩
  refine adr _ ?_
  rcases hAd with ⟨h75, hpn⟩ | ⟨h75, ap, hps, -⟩
  · rw [hpn]
    exact ifT rfl (k0 (Or.inr (Or.inl h75)))
  rw [hps]
  refine ifF (by intro z; cases z) ?_
  have n75 : t.I 75 (2 * (4 * r + p) + f) ≠ 0 := by rw [h75]; decide
  -- no key
  have plain : ∀ hd, opH V (nI f) (t.S 1) (t.I 89 (4 * r + p)) cmd = some (none, hd) → hd1 V (nI f) cmd = hd → C_Rr_openDraft_b64 sa (G 1 r) (some (G 2 (4 * r + p))) (fam (nI f)) cmd (-1) s kc ks Q := fun hd ho e => by
    refine c_op64 hg hX0 hfa hcmd fun s1 d h1 => ?_
    unfold C_Rr_openDraft_b143
    obtain ⟨f1, f2, f3, f4, f5, f6⟩ := fin h1
    rw [e] at f3
    exact ifT rfl (k1 none hd s1 up n75 ho (by rw [if_pos rfl]; exact f1) f2 f3 f4 f5 f6)
  rcases hf with rfl | rfl
  rotate_left
  · refine ifF (by decide) (plain (hdL cmd 1) ?_ ?_)
    · exact if_neg (by decide)
    · exact if_neg (by decide)
  refine ifT rfl ⟨_, gd_to y1, c, z1, _, gd_to z3, ?_⟩
  rw [show s.I (20 * 1 + 2) c = nI V.2.2.length from z5.2.1]
  obtain ⟨v1, v2, v3, v4, v5, v6⟩ := z4
  by_cases c0 : 1 ≤ V.2.2.length
  rotate_left
  · refine ifF (nI_nlt (b := V.2.2.length) (a := 0) (by omega) (by decide)) ?_
    have n2 : V.1 ≠ 2 := fun z => c0 (v3.mp z)
    rcases (show V.1 = 0 ∨ V.1 = 1 by omega) with z | z
    · refine plain (hdL cmd 2) ?_ ?_
      · unfold opH; rw [if_pos (show nI 0 = 0 from rfl), if_pos z]
      · unfold hd1; rw [if_pos (show nI 0 = 0 from rfl), if_neg (by omega)]
    · refine plain (hdL cmd 2 ++ pwL V.2.1) ?_ ?_
      · unfold opH; rw [if_pos (show nI 0 = 0 from rfl), if_neg (by omega), if_pos z]
      · unfold hd1; rw [if_pos (show nI 0 = 0 from rfl), if_pos z]
  have e2 : V.1 = 2 := v3.mpr c0
  have eo : opH V (nI 0) (t.S 1) (t.I 89 (4 * r + p)) cmd = (bkN (t.S 1) V.2.2 V.2.2.length).map fun b => (some b, hdL cmd 2 ++ keL 0 (V.2.2.getD b k0V) (t.I 89 (4 * r + p))) := by
    unfold opH; rw [if_pos (show nI 0 = 0 from rfl), if_neg (by omega), if_neg (by omega)]
  rw [eo] at k0 k1
  refine ifT (nI_lt (a := 0) (by omega) (by omega)) ⟨_, gd_to y1, _, gd_to x1, x, x2, _, gd_to x3, c, z1, z3, ?_⟩
  rw [show s.I (20 * 11 + 5) x = t.S 1 from w1]
  refine c_bear hg z3 z5 v2 ?_
  cases ek : bkN (t.S 1) V.2.2 V.2.2.length with
  | none =>
    rw [ek] at k0
    exact ifT rfl (k0 (Or.inr (Or.inr rfl)))
  | some kx =>
    rw [ek] at k1
    obtain ⟨hb', -⟩ := bkN_b _ _ _ _ ek
    have hgk := gk_D hb'
    refine ifF (ixO_n (by omega)) (c_op64 hg hX0 hfa hcmd fun s1 d h1 => ?_)
    have eh : hd1 V (nI 0) cmd = hdL cmd 2 := by unfold hd1; rw [if_pos (show nI 0 = 0 from rfl), if_neg (by omega)]
    rw [eh] at h1
    generalize hv : V.2.2.getD kx k0V = v at hgk
    obtain ⟨g1, g2, -⟩ := z5.2.2.1 kx v hgk
    obtain ⟨-, q3, q4, -⟩ := chK hg z3
    generalize hs2 : cSI s 44 D (fam (nI 0)) = s2 at h1
    have sP : s2.P = s.P := by rw [← hs2]; rfl
    have sK : s2.K = s.K := by rw [← hs2]; rfl
    have sE : s2.E = s.E := by rw [← hs2]; rfl
    have ok2 : ∀ {u a : Nat}, okO s u a → okO s2 u a := fun h => by unfold okO at h ⊢; rw [sK]; exact h
    have i95 : s2.I 95 (G 2 (4 * r + p)) = t.I 89 (4 * r + p) := by rw [← hs2, evI, if_neg (fun z => absurd z.1 (by decide))]; exact y8
    unfold C_Rr_openDraft_b143
    refine ifF (ixO_n (by omega)) ⟨_, rfl, _, gd_to (h1.ok (ok2 y1)), _, gd_to (h1.ok (ok2 y1)), c, by show s1.P 86 _ = _; rw [h1.1.2.1, sP]; exact z1, h1.ok (ok2 z3), ?_⟩
    rw [show s1.I (20 * 4 + 15) (G 2 (4 * r + p)) = t.I 89 (4 * r + p) by
      show s1.I 95 _ = _
      rw [h1.2.1 95 _ (fun z => absurd z.1 (by decide))]; exact i95, show ixO 0 (some kx) = nI kx by show nI (0 + kx) = _; rw [Nat.zero_add]]
    refine c_keE (v := v) (H := H) h1 (ok2 z3) ⟨by rw [sP]; exact q3.1, by rw [sK]; exact q3.2⟩ ⟨by rw [sP]; exact q4.1, by rw [sK]; exact q4.2⟩ (by omega) (by rw [sE]; exact g1) (by rw [sE]; exact g2) (v5 kx v hgk).1 (by show 4 ≤ 500; decide) fun s3 h3 => ?_
    have e95 : s3.I 95 (G 2 (4 * r + p)) = t.I 89 (4 * r + p) := by
      rw [h3.2.1 95 _ (fun z => absurd z.1 (by decide))]; exact i95
    refine ⟨_, gd_to (h3.ok (ok2 y1)), _, gd_to (h3.ok (ok2 y1)), ?_⟩
    rw [show s3.I (20 * 4 + 15) (G 2 (4 * r + p)) = t.I 89 (4 * r + p) from e95]
    obtain ⟨f1, f2, f3, f4, f5, f6⟩ := fin (by rw [hs2]; exact h3)
    obtain ⟨n1, n2, n3⟩ := rr_num (v := t.I 89 (4 * r + p) + 1) f1 hM hr hp
    have := k1 (some kx) (hdL cmd 2 ++ keL 0 v (t.I 89 (4 * r + p))) (cSI s3 95 (G 2 (4 * r + p)) (t.I 89 (4 * r + p) + 1)) up n75 (by show some (some kx, hdL cmd 2 ++ keL 0 (V.2.2.getD kx k0V) _) = some _; rw [hv]) (by rw [if_neg (by intro z; cases z)]; exact n1) (f2.tr n3.wk) (by
      obtain ⟨a1, a2, e, a3, a4, a5, a6⟩ := f3
      refine ⟨a1, a2, e, a3, a4, ?_, a6⟩
      rw [evI, if_neg (fun z => absurd z.1 (by decide))]; exact a5) (by rw [evI, if_neg (fun z => absurd z.1 (by decide))]; exact f4) f5 (fun A kA nA => (f6 A kA nA).tr (hdF.fr n3 f1.q.1.ty (f2.r kA) rfl (fun _ => by simp) (by simp)))
    rw [show ixO 0 (some kx) = nI kx by show nI (0 + kx) = _; rw [Nat.zero_add]] at this
    exact this
end Op
