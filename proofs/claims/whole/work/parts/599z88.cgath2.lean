/-! The class gathers: all of it. -/
/-- how it goes on behind a gathering -/
def GaK (G H : Nat → Nat → Nat) (sa : Nat → Nat) (x : Nat) (s : cS) (t : moS) (f : Int32) (L : List En) (kc ks : Nat) (Q : cS → Nat → Nat → Prop) : Prop := ∀ G' H' s' kc' ks', RR G' H' sa x s' t → (∀ b, b ≠ 15 → b ≠ 16 → G' b = G b) → hA H H' s → fr Rga Ptd [144] s s' → TDc G' H' x s' f L → kc + tdC G' ≤ kc' + tdC G → ks + tdS s' G' H' x ≤ ks' + tdS s G H x → Q s' kc' ks'
section Ch
variable {G H G1 H1 : Nat → Nat → Nat} {sa : Nat → Nat} {x kc ks kc1 ks1 r p l n : Nat} {s s1 : cS} {t : moS} {f how : Int32} {g : gst} {Q : cS → Nat → Nat → Prop}
/-- summaries, then the default -/
theorem c_g286 {a6 : Int32} (hR : RR G H sa x s t) (hM : MV t) (hr : r < cR t) (hp : p < cI t r) (hf : bit f) (hh : how = 0 ∨ how = 1 ∨ how = 2) (h6 : a6 = if how ≠ 2 ∧ 0 < t.I 99 (4 * r + p) then 1 else 0) (hno : ∀ i, g.2.2 i ≠ 0 → 0 < t.I 99 (4 * r + p) → t.I 100 (4 * r + p) = 0) (hn : n ≤ cN t r) (hI : GI t r (4 * r + p) f how n g) (hG : GC G H sa x s t (4 * r + p) f kc ks g G1 H1 s1 kc1 ks1) (hkc : tdC G ≤ kc) (hks : tdS s G H x ≤ ks) (k : GaK G H sa x s t f (if how = 0 ∧ 0 < t.I 99 (4 * r + p) then eIns f (0, 0, 0, t.I 99 (4 * r + p), 0) (gUs t (4 * r + p) f g (t.I 90 (4 * r + p)).toNatClampNeg) else gUs t (4 * r + p) f g (t.I 90 (4 * r + p)).toNatClampNeg) kc ks Q) : C_Rr_gather_b286 sa (G 1 r) (some (G 2 (4 * r + p))) (fam f) how (some (H 237 x)) a6 s1 kc1 ks1 Q := by
  have h9 := hM.nRo hr
  have hi := (hM.r hr).i hp
  obtain ⟨N, eN, -, hN⟩ := hi.2.2.2.2.2.2.2.2.2.2.2.2.2.1
  have sl := hi.2.2.2.2.2.2.2.2.2.2.2.2.2.2.1
  obtain ⟨dm, edm, -, hdm⟩ := hi.2.2.2.2.2.2.2.2.2.2.2.2.2.2.2.2.2.1
  have cN' : (t.I 90 (4 * r + p)).toNatClampNeg = N := by rw [eN, nI_clamp (by omega)]
  rw [cN'] at k
  have gj := fun (m : Nat) (hm : m ≤ N) => gj_all (m := m) hM hr hp hn hI (by rw [cN']; exact hm)
  have k260 : (s.K (G 1 r)).1 = 26 := (hR.q.1.rt hr).1.1
  have ex0 : (s.K x).1 = 30 := hR.q.1.1.1
  -- the end
  have fin : ∀ G2 H2 s2 kc2 ks2, GC G H sa x s t (4 * r + p) f kc ks (gUs t (4 * r + p) f g N, g.2) G2 H2 s2 kc2 ks2 → (if a6 = 0 then (Q s2 kc2 ks2) else (if how = 0 then (ob (gP s2 9 0 (G 1 r)) (fun v2 => (ob v2 (fun b3 => (ob (gP s2 11 18 b3) (fun v4 => (ob v4 (fun b5 => (okO s2 5 b5 ∧ C_Pr_setZero sa b5 (fam f) (0 : Int32) s2 kc2 ks2 (fun sr6 cr6 dr6 => (ob (gP sr6 9 0 (G 1 r)) (fun v7 => (ob v7 (fun b8 => (ob (gP sr6 11 18 b8) (fun v9 => (ob (some (G 2 (4 * r + p))) (fun b10 => (ob (gI sr6 4 13 b10) (fun v11 => (ob (some (H 237 x)) (fun b12 => (okO sr6 10 b12 ∧ C_Ta_add sa b12 v9 (0 : Int32) v11 sr6 cr6 dr6 (fun r13 sr13 cr13 dr13 => (Q sr13 cr13 dr13))))))))))))))))))))))))) else (Q s2 kc2 ks2))) := by
    intro G2 H2 s2 kc2 ks2 hG2
    have hG20 := hG2
    obtain ⟨k81, -⟩ := gc_ad hR hG2 hr hp
    obtain ⟨h1, h2, h3, h4, hT, hS, b1, b2⟩ := hG2
    have hq := h1.q.1
    have ex : H2 237 x = H 237 x := h3 237 x (by rw [ex0]; decide)
    have kx := (hq.ty.p hq.1.1 237 29).2
    have p238 := hq.ty.p hq.1.1 238 18
    have k26 : (s2.K (G 1 r)).1 = 26 := h4.r k260
    have p180 := (hq.ty.p k26 180 30).1
    have e180 : H2 180 (G 1 r) = x := by
      have := (hq.rt hr).1.2.2
      rw [h2 1 (by decide) (by decide)] at this
      exact this
    rw [e180] at p180
    have e93 : s2.I 93 (G 2 (4 * r + p)) = t.I 99 (4 * r + p) := by
      have := (hq.po hr hp).2.2.2.1.2.2.2.2.2.1
      rw [h2 2 (by decide) (by decide)] at this
      exact this
    by_cases c1 : how = 0 ∧ 0 < t.I 99 (4 * r + p)
    · rw [if_pos c1] at k
      have e6 : a6 = 1 := by rw [h6, if_pos ⟨by rw [c1.1]; decide, c1.2⟩]
      refine ifF (by rw [e6]; decide) (ifT c1.1 ⟨_, gd_to (okr k26 9), x, p180, _, gd_to hq.ox, _, p238.1, okr p238.2 5, w_setZero (okr p238.2 5) ?_⟩)
      generalize hs3 : cSpf s2 (H2 238 x) (fam f) 0 0 0 = s3
      have f3 : fr [18] [] [] s2 s3 := by
        rw [← hs3]
        have m18 : (s2.K (H2 238 x)).1 ∈ [18] := by rw [p238.2]; decide
        exact (((fr.si m18).tr (fr.sj (s := cSI s2 100 (H2 238 x) (fam f)) m18)).tr (fr.sj (s := cSJ (cSI s2 100 (H2 238 x) (fam f)) 101 (H2 238 x) 0) m18)).tr (fr.si (s := cSJ (cSJ (cSI s2 100 (H2 238 x) (fam f)) 101 (H2 238 x) 0) 102 (H2 238 x) 0) m18)
      have K3 : s3.K = s2.K := by rw [← hs3]; rfl
      have P3 : s3.P = s2.P := by rw [← hs3]; rfl
      have R3 : RR G2 H2 sa x s3 t := rr_fr h1 hM (hq.1.v K3 P3 f3 rfl rfl rfl) f3 (mfr.rf (W := [])) rfl rfl rfl rfl rfl rfl rfl
      have ok3 : ∀ {c a : Nat}, okO s2 c a → okO s3 c a := fun h => by unfold okO at h ⊢; rw [K3]; exact h
      have T3 : TDc G2 H2 x s3 f (gUs t (4 * r + p) f g N) := by
        obtain ⟨t1, t2⟩ := hT
        refine ⟨t1.fr f3 kx ⟨by decide, by decide, by decide⟩ (by decide) (by decide) (by decide), fun j e he => ?_⟩
        obtain ⟨q1, q2, q3⟩ := t2 j e he
        obtain ⟨z1, z2, z3, w0, cap0, d1, d2, d3, d4, d5, d6, -⟩ := t1
        have hjl := (List.getElem?_eq_some_iff.mp he).1
        have k25 := (d6 j (Nat.lt_of_lt_of_le hjl z2)).2
        have o := (f3.v k25 (by decide)).1
        refine ⟨q1.fr f3 ((hq.ty.p k25 160 33).2) (by decide), ?_, ?_⟩
        · rw [o]; exact q2
        · rw [o]; exact q3
      refine ⟨_, gd_to (ok3 (okr k26 9)), x, by show s3.P 180 _ = _; rw [P3]; exact p180, _, gd_to (ok3 hq.ox), _, rfl, _, gd_to (ok3 (okr k81 4)), _, rfl, ok3 (by rw [← ex]; exact okr kx 10), ?_⟩
      rw [show s3.I (20 * 4 + 13) (G 2 (4 * r + p)) = t.I 99 (4 * r + p) by
        show s3.I 93 _ = _
        rw [(f3.v k81 (by decide)).1]; exact e93, show s3.P (20 * 11 + 18) x = some (H2 238 x) by show s3.P 238 x = _; rw [P3]; exact p238.1, ← ex]
      obtain ⟨j1, j2, j3⟩ := gj N (Nat.le_refl _)
      have et : tdS s3 G2 H2 x = tdS s2 G2 H2 x := by unfold tdS cpD; rw [P3, K3]
      refine c_tdadd (e := (0, 0, 0, t.I 99 (4 * r + p), 0)) (Q := Q) R3 hM hf T3 (by omega) j1 (fun a ha => (j2 a ha).1.1) ⟨hf, 0, rfl, by omega, Nat.zero_le _⟩ (gj_def hf c1.1 c1.2 ⟨j1, j2, j3⟩) (by rw [← hs3]; exact spf_s) (ok3 (okr p238.2 5)) ⟨by rw [K3, p238.2]; decide, by rw [K3, p238.2]; decide⟩ (ar_7 b1 hkc) (by rw [et]; exact ar_7 b2 hks) ?_
      intro G4 H4 s4 kc4 ks4 R4 a1 a2 a3 a4 x1 x2
      rw [et] at x2
      exact k G4 H4 s4 kc4 ks4 R4 (fun b y1 y2 => (a1 b y1 y2).trans (h2 b y1 y2)) (fun y b hb => (a2 y b (by rw [K3, (h4 b hb).1]; exact hb)).trans (h3 y b hb)) ((h4.tr f3.wk).tr a3.wk) a4 (ar_6 b1 x1) (ar_6 b2 x2)
    · rw [if_neg c1] at k
      have := k G2 H2 s2 kc2 ks2 h1 h2 h3 h4 hT b1 b2
      by_cases c2 : a6 = 0
      · exact ifT c2 this
      · refine ifF c2 (ifF (fun z => ?_) this)
        rw [h6] at c2
        by_cases c3 : how ≠ 2 ∧ 0 < t.I 99 (4 * r + p)
        · exact c1 ⟨z, c3.2⟩
        · rw [if_neg c3] at c2
          exact c2 rfl
  have o90 : okO s1 9 (G 1 r) := okr (hG.2.2.2.1.r k260) 9
  unfold C_Rr_gather_b286
  refine ⟨o90, ?_⟩
  unfold C_Rr_gatherSummaries C_Rr_gatherSummaries_b2
  intro P hP
  have loop : ∀ m j, j + m = N → ∀ G2 H2 s2 kc2 ks2, GC G H sa x s t (4 * r + p) f kc ks (gUs t (4 * r + p) f g j, g.2) G2 H2 s2 kc2 ks2 → P (nI j) s2 kc2 ks2 := by
    intro m
    induction m with
    | zero =>
      intro j hj G2 H2 s2 kc2 ks2 hG2
      have hj : j = N := by omega
      subst hj
      obtain ⟨k81, -⟩ := gc_ad hR hG2 hr hp
      have e88 : s2.I 88 (G 2 (4 * r + p)) = nI j := by
        have := (hG2.1.q.1.po hr hp).2.2.2.1.2.2.2.1
        rw [hG2.2.1 2 (by decide) (by decide), eN] at this
        exact this
      apply hP
      unfold C_Rr_gatherSummaries_s2
      refine ⟨_, rfl, _, gd_to (okr k81 4), ?_⟩
      rw [show s2.I (20 * 4 + 8) (G 2 (4 * r + p)) = nI j from e88]
      exact ifF (nI_nlt (by omega) (by omega)) (fin G2 H2 s2 kc2 ks2 hG2)
    | succ m ih =>
      intro j hj G2 H2 s2 kc2 ks2 hG2
      have hG20 := hG2
      obtain ⟨k81, ⟨p89, k89⟩, p90, k90⟩ := gc_ad hR hG2 hr hp
      obtain ⟨h1, h2, h3, h4, hT, hS, b1, b2⟩ := hG2
      have hq := h1.q.1
      have ex : H2 237 x = H 237 x := h3 237 x (by rw [ex0]; decide)
      have kx := (hq.ty.p hq.1.1 237 29).2
      have k26 : (s2.K (G 1 r)).1 = 26 := h4.r k260
      have p180 := (hq.ty.p k26 180 30).1
      have e180 : H2 180 (G 1 r) = x := by
        have := (hq.rt hr).1.2.2
        rw [h2 1 (by decide) (by decide)] at this
        exact this
      rw [e180] at p180
      have e2 : G2 2 = G 2 := h2 2 (by decide) (by decide)
      obtain ⟨-, -, -, ⟨-, -, -, e88, -, e93, -⟩, su, -⟩ := hq.po hr hp
      rw [e2, cN'] at su
      rw [e2] at e88 e93
      obtain ⟨a, q1, q2, w1, w2, w3, w4⟩ := su j (by omega)
      have p87 := hq.ty.r k81 87 136 4
      have o4 : okO s2 4 (G 2 (4 * r + p)) := okr k81 4
      have hT : TDc G2 H2 x s2 f (gUs t (4 * r + p) f g j) := hT
      obtain ⟨z1, z2⟩ := hS j (by omega)
      have z1 : s2.E (H 89 (G 2 (4 * r + p))) j = lc (g.2.1 j) := z1
      have z2 : s2.E (H 90 (G 2 (4 * r + p))) j = g.2.2 j := z2
      obtain ⟨j1, j2, j3⟩ := gj j (by omega)
      have hst := (gj_step (m := j) hM hr hp hn hI (by omega) ⟨j1, j2, j3⟩).2
      have go : gU t (4 * r + p) f g j (gUs t (4 * r + p) f g j) = gUs t (4 * r + p) f g j → C_Rr_gatherSummaries_b59 sa (G 1 r) (some (G 2 (4 * r + p))) (nI j) s2 kc2 ks2 (fun sr1 cr1 dr1 => (if a6 = 0 then (Q sr1 cr1 dr1) else (if how = 0 then (ob (gP sr1 9 0 (G 1 r)) (fun v2 => (ob v2 (fun b3 => (ob (gP sr1 11 18 b3) (fun v4 => (ob v4 (fun b5 => (okO sr1 5 b5 ∧ C_Pr_setZero sa b5 (fam f) (0 : Int32) sr1 cr1 dr1 (fun sr6 cr6 dr6 => (ob (gP sr6 9 0 (G 1 r)) (fun v7 => (ob v7 (fun b8 => (ob (gP sr6 11 18 b8) (fun v9 => (ob (some (G 2 (4 * r + p))) (fun b10 => (ob (gI sr6 4 13 b10) (fun v11 => (ob (some (H 237 x)) (fun b12 => (okO sr6 10 b12 ∧ C_Ta_add sa b12 v9 (0 : Int32) v11 sr6 cr6 dr6 (fun r13 sr13 cr13 dr13 => (Q sr13 cr13 dr13))))))))))))))))))))))))) else (Q sr1 cr1 dr1)))) P := fun e => by
        unfold C_Rr_gatherSummaries_b59
        rw [nI_1]
        refine ih (j + 1) (by omega) G2 H2 s2 kc2 ks2 ?_
        show GC G H sa x s t (4 * r + p) f kc ks (gU t (4 * r + p) f g j (gUs t (4 * r + p) f g j), g.2) G2 H2 s2 kc2 ks2
        rw [e]
        exact hG20
      apply hP
      unfold C_Rr_gatherSummaries_s2
      refine ⟨_, rfl, _, gd_to o4, ?_⟩
      rw [show s2.I (20 * 4 + 8) (G 2 (4 * r + p)) = nI N from e88.trans eN]
      refine ifT (nI_lt (by omega) (by omega)) ⟨_, gd_to o4, _, p87.1, _, rd_Q p87.2 (by decide) (show j < 4 by omega) (by decide) q1, _, gd_to o4, _, p90, _, rd_E k90 ⟨by decide, by decide, rfl⟩ (show j < 4 by omega) (by decide) z2, ?_⟩
      by_cases c1 : g.2.2 j = 0
      · refine ifT c1 (go ?_)
        unfold gU
        rw [if_neg (fun z => z.1 c1)]
      have ad : bsD t (4 * r + p) (t.I 94 (4 * (4 * r + p) + j)) → C_Rr_gatherSummaries_b40 sa (G 1 r) (some (G 2 (4 * r + p))) (nI j) (some a) s2 kc2 ks2 (fun sr1 cr1 dr1 => (if a6 = 0 then (Q sr1 cr1 dr1) else (if how = 0 then (ob (gP sr1 9 0 (G 1 r)) (fun v2 => (ob v2 (fun b3 => (ob (gP sr1 11 18 b3) (fun v4 => (ob v4 (fun b5 => (okO sr1 5 b5 ∧ C_Pr_setZero sa b5 (fam f) (0 : Int32) sr1 cr1 dr1 (fun sr6 cr6 dr6 => (ob (gP sr6 9 0 (G 1 r)) (fun v7 => (ob v7 (fun b8 => (ob (gP sr6 11 18 b8) (fun v9 => (ob (some (G 2 (4 * r + p))) (fun b10 => (ob (gI sr6 4 13 b10) (fun v11 => (ob (some (H 237 x)) (fun b12 => (okO sr6 10 b12 ∧ C_Ta_add sa b12 v9 (0 : Int32) v11 sr6 cr6 dr6 (fun r13 sr13 cr13 dr13 => (Q sr13 cr13 dr13))))))))))))))))))))))))) else (Q sr1 cr1 dr1)))) P := fun cb => by
        obtain ⟨y1, y2⟩ := hst ⟨c1, cb⟩
        have h99 := (hI.2.2.2.2.2 j c1).1
        have elc : lc (g.2.1 j) = g.2.1 j := if_neg h99
        unfold C_Rr_gatherSummaries_b40
        refine ⟨_, gd_to (okr k26 9), x, p180, _, gd_to hq.ox, _, rfl, _, gd_to o4, _, p89, _, rd_E k89 ⟨by decide, by decide, rfl⟩ (show j < 4 by omega) (by decide) (z1.trans elc), _, (hq.ty.p hq.1.1 237 29).1, okr kx 10, ?_⟩
        have h91 : t.I 91 (4 * (4 * r + p) + j) = f := by
          obtain ⟨-, -, j0, -, d4, d5⟩ := hI.2.2.2.2.2 j c1
          rw [(fsN_s d5).1.1, d4]
        refine c_tdadd (e := (t.J 92 (4 * (4 * r + p) + j), t.J 93 (4 * (4 * r + p) + j), t.I 94 (4 * (4 * r + p) + j), g.2.1 j, 0)) (Q := fun s' kc' ks' => C_Rr_gatherSummaries_b59 sa (G 1 r) (some (G 2 (4 * r + p))) (nI j) s' kc' ks' _ P) h1 hM hf hT (by omega) j1 (fun a ha => (j2 a ha).1.1) y1 y2 ⟨by rw [w1, h91], w2, w3, w4⟩ (okr q2 5) ⟨by rw [q2]; decide, by rw [q2]; decide⟩ (ar_7 b1 hkc) (ar_7 b2 hks) ?_
        intro G3 H3 s3 kc3 ks3 R3 a1 a2 a3 a4 x1 x2
        unfold C_Rr_gatherSummaries_b59
        rw [nI_1]
        refine ih (j + 1) (by omega) G3 H3 s3 kc3 ks3 ?_
        show GC G H sa x s t (4 * r + p) f kc ks (gU t (4 * r + p) f g j (gUs t (4 * r + p) f g j), g.2) G3 H3 s3 kc3 ks3
        refine gc_td hR hG20 hr hp rfl R3 a1 a2 a3 rfl (by decide) (by decide) ?_ x1 x2
        unfold gU
        rw [if_pos ⟨c1, cb⟩]
        exact a4
      refine ifF c1 ⟨_, gd_to o4, ?_⟩
      rw [show s2.I (20 * 4 + 13) (G 2 (4 * r + p)) = t.I 99 (4 * r + p) from e93]
      by_cases c2 : 0 < t.I 99 (4 * r + p)
      · refine ifT c2 ⟨a, rfl, _, gd_to (okr q2 5), ?_⟩
        rw [show s2.I (20 * 5 + 3) a = t.I 94 (4 * (4 * r + p) + j) from w4]
        obtain ⟨m94, em, hmm⟩ := (sl j (by omega)).n
        by_cases c3 : t.I 94 (4 * (4 * r + p) + j) = 0
        · refine ifT c3 (go ?_)
          unfold gU
          rw [if_neg]
          intro z
          rcases z.2 with y | y
          · rw [y] at c2; exact absurd c2 (by decide)
          · rw [c3] at y; exact absurd y.1 (by decide)
        · refine ifF c3 (ad (Or.inr ⟨?_, hno j c1 c2⟩))
          rw [em] at c3 ⊢
          rcases Nat.eq_zero_or_pos m94 with z | z
          · rw [z] at c3; exact absurd rfl c3
          · exact nI_lt (a := 0) z (by omega)
      · refine ifF c2 (ad (Or.inl ?_))
        rw [edm] at c2 ⊢
        rcases Nat.eq_zero_or_pos dm with z | z
        · rw [z]; rfl
        · exact absurd (nI_lt (a := 0) z (by omega)) c2
  exact loop N 0 (by omega) G1 H1 s1 kc1 ks1 hG
/-- with a default and nothing else, nothing else is told -/
theorem gRs_only (h2 : how ≠ 2) (hd : 0 < t.I 99 (4 * r + p)) (ho : t.I 100 (4 * r + p) ≠ 0) : ∀ n, (gRs t r (4 * r + p) l f how n).1 = []
  | 0 => rfl
  | n + 1 => by
    have ih := gRs_only h2 hd ho n
    have nb : ∀ m, ¬ bsD t (4 * r + p) m := fun m z => by
      rcases z with z | z
      · rw [z] at hd; exact absurd hd (by decide)
      · exact ho z.2
    show (gR t r (4 * r + p) l f how (2700 * r + n) (gRs t r (4 * r + p) l f how n)).1 = []
    unfold gR
    by_cases c1 : t.I 106 (2700 * r + n) = f
    rotate_left
    · rw [if_neg c1]; exact ih
    rw [if_pos c1, if_neg h2]
    by_cases c3 : tmV t r (4 * r + p) (2700 * r + n) (nI l) = -1
    · rw [if_pos c3]; exact ih
    rw [if_neg c3]
    cases smV t (4 * r + p) (2700 * r + n) with
    | some i => exact ih
    | none =>
      show (@ite _ (nwR t how (2700 * r + n) ∧ bsD t (4 * r + p) (t.I 109 (2700 * r + n))) (Classical.propDecidable _) _ (gRs t r (4 * r + p) l f how n)).1 = []
      rw [if_neg (fun z => nb _ z.2)]
      exact ih
theorem gUs_only (hd : 0 < t.I 99 (4 * r + p)) (ho : t.I 100 (4 * r + p) ≠ 0) (h0 : g.1 = []) : ∀ n, gUs t (4 * r + p) f g n = []
  | 0 => h0
  | n + 1 => by
    have ih := gUs_only hd ho h0 n
    show gU t (4 * r + p) f g n (gUs t (4 * r + p) f g n) = []
    unfold gU
    rw [if_neg]
    · exact ih
    intro z
    rcases z.2 with y | y
    · rw [y] at hd; exact absurd hd (by decide)
    · exact ho y.2
theorem gUs_zero (h0 : ∀ i, g.2.2 i = 0) : ∀ n, gUs t (4 * r + p) f g n = g.1
  | 0 => rfl
  | n + 1 => by
    have ih := gUs_zero h0 n
    show gU t (4 * r + p) f g n (gUs t (4 * r + p) f g n) = g.1
    unfold gU
    rw [if_neg (fun z => z.1 (h0 n))]
    exact ih
theorem c_gather (hR : RR G H sa x s t) (hM : MV t) (hr : r < cR t) (hp : p < cI t r) (hl : t.I 71 (4 * r + p) = nI l) (hlL : l < cL t) (hf : bit f) (hh : how = 0 ∨ how = 1 ∨ how = 2) (hkc : tdC G ≤ kc) (hks : tdS s G H x ≤ ks) (k : GaK G H sa x s t f (gL t r (4 * r + p) l f how) kc ks Q) : C_Rr_gather sa (G 1 r) (some (G 2 (4 * r + p))) (fam f) how s kc ks Q := by
  have hq := hR.q.1
  have h9 := hM.nRo hr
  have k26 := (hq.rt hr).1.1
  have o9 : okO s 9 (G 1 r) := okr k26 9
  have p180 := (hq.ty.p k26 180 30).1
  rw [(hq.rt hr).1.2.2] at p180
  have p237 := hq.ty.p hq.1.1 237 29
  obtain ⟨⟨k8, -⟩, -, -, ⟨-, -, -, e88, -, e93, e94, -⟩, -⟩ := hq.po hr hp
  have o4 : okO s 4 (G 2 (4 * r + p)) := okr k8 4
  have hi := (hM.r hr).i hp
  obtain ⟨N, eN, -, hN⟩ := hi.2.2.2.2.2.2.2.2.2.2.2.2.2.1
  have cN' : (t.I 90 (4 * r + p)).toNatClampNeg = N := by rw [eN, nI_clamp (by omega)]
  have b100 := hi.2.2.2.2.2.2.2.2.2.2.2.2.2.2.2.2.2.2
  have p89 := hq.ty.r k8 89 114 4
  have p90 := hq.ty.r k8 90 116 4
  have ne12 : H 90 (G 2 (4 * r + p)) ≠ H 89 (G 2 (4 * r + p)) := fun z => by
    have := p90.2
    rw [z, p89.2] at this
    exact absurd this (by decide)
  -- behind the flags
  have go : ∀ a5 a6 a7, (a5 = if how = 2 then 1 else 0) → (a6 = if how ≠ 2 ∧ 0 < t.I 99 (4 * r + p) then 1 else 0) → (a7 = if (how ≠ 2 ∧ 0 < t.I 99 (4 * r + p)) ∧ t.I 100 (4 * r + p) ≠ 0 then 1 else 0) → C_Rr_gather_b57 sa (G 1 r) (some (G 2 (4 * r + p))) (fam f) how (some (H 237 x)) a5 a6 a7 s kc ks Q := by
    intro a5 a6 a7 e5 e6 e7
    unfold C_Rr_gather_b57
    refine ⟨_, rfl, okr p237.2 10, ?_⟩
    unfold C_Ta_clear
    refine ⟨_, gd_to (okr p237.2 10), _, rfl, show okO _ 4 _ from o4, ?_⟩
    show C_Po_forgetSummaries sa (G 2 (4 * r + p)) (cSI s 201 (H 237 x) 0) kc ks _
    generalize hs1 : cSI s 201 (H 237 x) 0 = s1
    have K1 : s1.K = s.K := by rw [← hs1]; rfl
    have P1 : s1.P = s.P := by rw [← hs1]; rfl
    have Q1 : s1.Q = s.Q := by rw [← hs1]; rfl
    have E1 : s1.E = s.E := by rw [← hs1]; rfl
    have f1 : fr [29] [] [] s s1 := by rw [← hs1]; exact fr.si (by rw [p237.2]; decide)
    have T1 : TDc G H x s1 f [] := by
      obtain ⟨n0, c1, c2, c3, w, cap, d1, d2, d3, d4, d5, d6, d7, d8⟩ := hq.1.2.2.2.2.1
      refine ⟨⟨by rw [← hs1]; exact cSI_s, Nat.zero_le _, c3, w, cap, by rw [P1]; exact d1, by rw [K1]; exact d2, d3, d4, d5, by rw [Q1, K1]; exact d6, by rw [Q1]; exact d7, d8⟩, fun j e he => by cases he⟩
    have R1 : RR G H sa x s1 t := by
      refine rr_td hR hM (fun _ _ _ => rfl) K1 (fun g a _ => by rw [P1]) f1.wk ⟨0, T1.1⟩
    have S1 : tdS s1 G H x = tdS s G H x := by unfold tdS cpD; rw [P1, K1]
    -- summaries forgotten
    have fin : ∀ s2, GC G H sa x s t (4 * r + p) f kc ks ([], fun _ => 99, fun _ => 0) G H s2 kc ks → C_Rr_gather_b71 sa (G 1 r) (some (G 2 (4 * r + p))) (fam f) how (some (H 237 x)) a5 a6 a7 0 s2 kc ks Q := by
      intro s2 hG2
      unfold C_Rr_gather_b71
      intro P hP
      by_cases c7 : (how ≠ 2 ∧ 0 < t.I 99 (4 * r + p)) ∧ t.I 100 (4 * r + p) ≠ 0
      · rw [if_pos c7] at e7
        apply hP
        have q2 := hG2.1.q.1
        have k262 := (q2.rt hr).1.1
        have p186 := q2.ty.p k262 186 27
        have b286 : C_Rr_gather_b286 sa (G 1 r) (some (G 2 (4 * r + p))) (fam f) how (some (H 237 x)) a6 s2 kc ks Q := by
          refine c_g286 hR hM hr hp hf hh e6 (fun i hi => absurd rfl hi) (Nat.zero_le _) (gi_all (l := l) hM hr (Nat.zero_le _)) hG2 hkc hks ?_
          have e1 : gUs t (4 * r + p) f (([], fun _ => 99, fun _ => 0) : gst) (t.I 90 (4 * r + p)).toNatClampNeg = [] := gUs_zero (fun _ => rfl) _
          have e2 : gUs t (4 * r + p) f (gRs t r (4 * r + p) l f how (cN t r)) (t.I 90 (4 * r + p)).toNatClampNeg = [] := gUs_only c7.1.2 c7.2 (gRs_only c7.1.1 c7.1.2 c7.2 _) _
          unfold gL at k
          rw [e2] at k
          show GaK G H sa x s t f (if how = 0 ∧ 0 < t.I 99 (4 * r + p) then eIns f (0, 0, 0, t.I 99 (4 * r + p), 0) (gUs t (4 * r + p) f (([], fun _ => 99, fun _ => 0) : gst) (t.I 90 (4 * r + p)).toNatClampNeg) else gUs t (4 * r + p) f (([], fun _ => 99, fun _ => 0) : gst) (t.I 90 (4 * r + p)).toNatClampNeg) kc ks Q
          rw [e1]
          exact k
        unfold C_Rr_gather_s71
        refine ⟨_, gd_to (okr k262 9), _, p186.1, _, gd_to (okr p186.2 10), ?_⟩
        by_cases c8 : (0 : Int32) < s2.I (20 * 10 + 1) (H 186 (G 1 r))
        · exact ifT c8 (ifF (by rw [e7]; decide) b286)
        · exact ifF c8 b286
      · rw [if_neg c7] at e7
        have loop : ∀ m j, j + m = cN t r → ∀ G2 H2 s2 kc2 ks2, GC G H sa x s t (4 * r + p) f kc ks (gRs t r (4 * r + p) l f how j) G2 H2 s2 kc2 ks2 → P (nI j) s2 kc2 ks2 := by
          intro m
          induction m with
          | zero =>
            intro j hj G2 H2 s2 kc2 ks2 hG2
            have hj : j = cN t r := by omega
            subst hj
            have q2 := hG2.1.q.1
            have e1 : G2 1 = G 1 := hG2.2.1 1 (by decide) (by decide)
            have k262 := (q2.rt hr).1.1
            have p186 := q2.ty.p k262 186 27
            have tb := (q2.tb hr).1.1
            rw [e1] at k262 p186 tb
            apply hP
            unfold C_Rr_gather_s71
            refine ⟨_, gd_to (okr k262 9), _, p186.1, _, gd_to (okr p186.2 10), ?_⟩
            rw [show s2.I (20 * 10 + 1) (H2 186 (G 1 r)) = nI (cN t r) from tb]
            refine ifF (nI_nlt (by omega) (by omega)) ?_
            refine c_g286 hR hM hr hp hf hh e6 (fun i hi hd => ?_) (Nat.le_refl _) (gi_all (l := l) hM hr (Nat.le_refl _)) hG2 hkc hks k
            have n2 := ((gi_all (p := p) (l := l) (f := f) (how := how) hM hr (Nat.le_refl (cN t r))).2.2.2.2.2 i hi).2.1
            exact Classical.byContradiction fun z => c7 ⟨⟨n2, hd⟩, z⟩
          | succ m ih =>
            intro j hj G2 H2 s2 kc2 ks2 hG2
            apply hP
            have : C_Rr_gather_s71 sa (G 1 r) (some (G 2 (4 * r + p))) (fam f) how (some (H 237 x)) a5 a6 0 (nI j) s2 kc2 ks2 Q P := c_g71 hR hM hr hp hl hlL hf hh e5 e6 (fun z1 z2 => Classical.byContradiction fun z => c7 ⟨⟨z1, z2⟩, z⟩) (show j < cN t r by omega) (gi_all hM hr (by omega)) hG2 hkc hks fun G3 H3 s3 kc3 ks3 hG3 => ih (j + 1) (by omega) G3 H3 s3 kc3 ks3 hG3
            rw [e7]
            exact this
        exact loop (cN t r) 0 (by omega) G H s2 kc ks hG2
    unfold C_Po_forgetSummaries C_Po_forgetSummaries_b2
    intro P hP
    have o41 : okO s1 4 (G 2 (4 * r + p)) := by unfold okO; rw [K1]; exact o4
    have loop : ∀ m j, j + m = N → ∀ s2, (RR G H sa x s2 t ∧ fr Rga Ptd [144] s s2 ∧ TDc G H x s2 f [] ∧ tdS s2 G H x = tdS s G H x) → (∀ i, i < j → s2.E (H 89 (G 2 (4 * r + p))) i = 16 ∧ s2.E (H 90 (G 2 (4 * r + p))) i = 0) → P (nI j) s2 kc ks := by
      intro m
      induction m with
      | zero =>
        intro j hj s2 ⟨r2, f2, t2, d2⟩ hz
        have hj : j = N := by omega
        subst hj
        have k82 : (s2.K (G 2 (4 * r + p))).1 = 8 := f2.r k8
        have e2 : s2.I 88 (G 2 (4 * r + p)) = nI j := ((r2.q.1.po hr hp).2.2.2.1.2.2.2.1).trans eN
        apply hP
        unfold C_Po_forgetSummaries_s2
        refine ⟨_, gd_to (okr k82 4), ?_⟩
        rw [show s2.I (20 * 4 + 8) (G 2 (4 * r + p)) = nI j from e2]
        refine ifF (nI_nlt (by omega) (by omega)) (fin s2 ⟨r2, fun _ _ _ => rfl, hA.rf, f2, t2, fun i hi => ?_, Nat.le_refl _, by rw [d2]; exact Nat.le_refl _⟩)
        rw [cN'] at hi
        exact ⟨(hz i hi).1, (hz i hi).2⟩
      | succ m ih =>
        intro j hj s2 ⟨r2, f2, t2, d2⟩ hz
        have k82 : (s2.K (G 2 (4 * r + p))).1 = 8 := f2.r k8
        have e2 : s2.I 88 (G 2 (4 * r + p)) = nI N := ((r2.q.1.po hr hp).2.2.2.1.2.2.2.1).trans eN
        have p892 := r2.q.1.ty.r k82 89 114 4
        have p902 := r2.q.1.ty.r k82 90 116 4
        have hG2 : GC G H sa x s t (4 * r + p) f kc ks ([], fun _ => 99, fun _ => 0) G H s2 kc ks ∨ True := Or.inr trivial
        have se : ∀ (s3 : cS) (a i : Nat) (v : Int32), RR G H sa x s3 t ∧ fr Rga Ptd [144] s s3 ∧ TDc G H x s3 f [] ∧ tdS s3 G H x = tdS s G H x → (s3.K a).1 = 114 ∨ (s3.K a).1 = 116 → RR G H sa x (cSE s3 a i v) t ∧ fr Rga Ptd [144] s (cSE s3 a i v) ∧ TDc G H x (cSE s3 a i v) f [] ∧ tdS (cSE s3 a i v) G H x = tdS s G H x := fun s3 a i v ⟨y1, y2, y3, y4⟩ ha => by
          have f3 : fr [114, 116] [] [] s3 (cSE s3 a i v) := fr.se (by rcases ha with z | z <;> rw [z] <;> decide)
          exact ⟨rr_fr y1 hM (y1.q.1.1.v rfl rfl f3 rfl rfl rfl) f3 (mfr.rf (W := [])) rfl rfl rfl rfl rfl rfl rfl, y2.tr f3.wk, ⟨y3.1, y3.2⟩, y4⟩
        apply hP
        unfold C_Po_forgetSummaries_s2
        refine ⟨_, gd_to (okr k82 4), ?_⟩
        rw [show s2.I (20 * 4 + 8) (G 2 (4 * r + p)) = nI N from e2]
        refine ifT (nI_lt (by omega) (by omega)) ⟨_, gd_to (okr k82 4), _, p892.1, _, wr_E p892.2 ⟨by decide, by decide, rfl⟩ (show j < 4 by omega) (by decide), ?_⟩
        have i3 := se s2 (H 89 (G 2 (4 * r + p))) j 16 ⟨r2, f2, t2, d2⟩ (Or.inl (by rw [p892.2]))
        refine ⟨_, gd_to (show okO (cSE s2 (H 89 (G 2 (4 * r + p))) j 16) 4 _ from okr k82 4), _, p902.1, _, wr_Z (s := cSE s2 (H 89 (G 2 (4 * r + p))) j 16) p902.2 ⟨by decide, by decide, rfl⟩ (show j < 4 by omega) (by decide) (Or.inl rfl), ?_⟩
        rw [nI_1]
        refine ih (j + 1) (by omega) _ (se _ (H 90 (G 2 (4 * r + p))) j 0 i3 (Or.inr (by show (s2.K (H 90 (G 2 (4 * r + p)))).1 = 116; rw [p902.2]))) fun i hi => ?_
        rw [cSE_a ne12.symm, cSE_s, cSE_s, cSE_a ne12]
        by_cases c : i = j
        · rw [c]
          show (if j = j then _ else _) = _ ∧ (if j = j then _ else _) = _
          rw [if_pos rfl, if_pos rfl]
          exact ⟨rfl, rfl⟩
        · show (if i = j then _ else _) = _ ∧ (if i = j then _ else _) = _
          rw [if_neg c, if_neg c]
          exact hz i (by omega)
    exact loop N 0 (by omega) s1 ⟨R1, f1.wk, T1, S1⟩ fun i hi => absurd hi (Nat.not_lt_zero _)
  have b38 : ∀ a5 a6, (a5 = if how = 2 then 1 else 0) → (a6 = if how ≠ 2 ∧ 0 < t.I 99 (4 * r + p) then 1 else 0) → C_Rr_gather_b38 sa (G 1 r) (some (G 2 (4 * r + p))) (fam f) how (some (H 237 x)) a5 a6 s kc ks Q := by
    intro a5 a6 e5 e6
    unfold C_Rr_gather_b38
    by_cases c : how ≠ 2 ∧ 0 < t.I 99 (4 * r + p)
    · have e6' := e6
      rw [if_pos c] at e6'
      refine ifF (by rw [e6']; decide) ⟨_, rfl, _, gd_to o4, ?_⟩
      rw [show s.I (20 * 4 + 14) (G 2 (4 * r + p)) = t.I 100 (4 * r + p) from e94]
      by_cases c2 : t.I 100 (4 * r + p) = 0
      · exact ifT c2 (go a5 a6 0 e5 e6 (by rw [if_neg (fun z => z.2 c2)]))
      · exact ifF c2 (go a5 a6 1 e5 e6 (by rw [if_pos ⟨c, c2⟩]))
    · have e6' := e6
      rw [if_neg c] at e6'
      exact ifT e6' (go a5 a6 0 e5 e6 (by rw [if_neg (fun z => c z.1)]))
  unfold C_Rr_gather
  refine ⟨_, gd_to o9, x, p180, _, gd_to hq.ox, ?_⟩
  rw [show s.P (20 * 11 + 17) x = some (H 237 x) from p237.1]
  unfold C_Rr_gather_b19
  by_cases c : how = 2
  · refine ifT c (ifF (by decide) (b38 1 0 (by rw [if_pos c]) (by rw [if_neg (fun z => z.1 c)])))
  · refine ifF c (ifT rfl ⟨_, rfl, _, gd_to o4, ?_⟩)
    rw [show s.I (20 * 4 + 13) (G 2 (4 * r + p)) = t.I 99 (4 * r + p) from e93]
    by_cases c2 : 0 < t.I 99 (4 * r + p)
    · exact ifT c2 (b38 0 1 (by rw [if_neg c]) (by rw [if_pos ⟨c, c2⟩]))
    · exact ifF c2 (b38 0 0 (by rw [if_neg c]) (by rw [if_neg (fun z => c2 z.2)]))
end Ch
