/-! A join where the interface is new, both sides. -/
abbrev Wju : List Nat := Wjn ++ Wje
section Jw
variable {G H H' : Nat → Nat → Nat} {sa : Nat → Nat} {x r f lk rd c5 : Nat} {s s0 s1 : cS} {t : moS} {l : List Int32} {ws : List (Nat × Nat)} {P : List (Nat × Nat)} {hh ll : Int64} {nn : Int32} {Os : Nat → List Pf} {V : chV}
theorem CC.f26 (h : CC H s c5 V) (hg : RGl G H sa x s) (hc : okO s 1 c5) (h4 : V.2.2.length ≤ 4) (f : fr [26] [] [139] s s1) (e : hA H H' s) : CC H' s1 c5 V := by
  obtain ⟨⟨-, q1⟩, ⟨-, q3⟩, ⟨-, q4⟩, ⟨-, q5⟩, ⟨-, q6⟩, ⟨-, q7⟩, w7⟩ := chK hg hc
  have c0 : (s.K c5).1 ≠ 26 := by rcases ok1 hc with z | z <;> rw [z] <;> decide
  have v : ∀ a, (s.K a).1 ≠ 0 → (s.K a).1 ≠ 26 → (∀ g, s1.I g a = s.I g a) ∧ s1.E a = s.E a := fun a ha h26 => ⟨((f a ha).2.1 (by simpa using h26)).1, ((f a ha).2.1 (by simpa using h26)).2.2⟩
  have n : ∀ {a u n : Nat}, s.K a = (u, n) → u ≠ 0 → (s.K a).1 ≠ 0 := fun h1 h2 => by rw [h1]; exact h2
  have n6 : ∀ {a u n : Nat}, s.K a = (u, n) → u ≠ 26 → (s.K a).1 ≠ 26 := fun h1 h2 => by rw [h1]; exact h2
  obtain ⟨e1, e2, e3, e4⟩ := h
  refine ⟨by rw [(v c5 hc.n0 c0).1]; exact e1, by rw [(v c5 hc.n0 c0).1]; exact e2, fun k u hk => ?_, fun hv => ?_⟩
  · obtain ⟨g1, g2, g3, g4, g5⟩ := e3 k u hk
    rw [e 23 c5 hc.n0, e 24 c5 hc.n0, e 25 c5 hc.n0, e 26 c5 hc.n0, e 27 c5 hc.n0, (v _ (n q3 (by decide)) (n6 q3 (by decide))).2, (v _ (n q4 (by decide)) (n6 q4 (by decide))).2, (v _ (n q5 (by decide)) (n6 q5 (by decide))).2, (v _ (n q6 (by decide)) (n6 q6 (by decide))).2, f.q (by rw [q7]) (by decide)]
    refine ⟨g1, g2, g3, g4, fun w hw i hi => ?_⟩
    obtain ⟨w', f1, f2⟩ := w7 k (Nat.lt_of_lt_of_le (List.getElem?_eq_some_iff.mp hk).1 h4)
    rw [hw] at f1
    cases f1
    rw [(v _ (n f2 (by decide)) (n6 f2 (by decide))).2]
    exact g5 w hw i hi
  · rw [e 21 c5 hc.n0, (v _ (n q1 (by decide)) (n6 q1 (by decide))).2]
    exact e4 hv
theorem jn_ni (hM : MV t) (hr : r < cR t) (h4 : cI t r < 4) : jnT r (cI t r) t (niT t r lk) := by
  have m := (m_newIf (l := lk) hM hr h4).2
  refine ⟨m.wk (by decide), fun r' hne => by rw [ni_70, if_neg hne], by rw [ni_cI hM hr, if_pos rfl]; omega, Or.inr ⟨rfl, by rw [ni_cI hM hr, if_pos rfl]⟩, fun i hi => ⟨by rw [ni_71, if_neg hi], by rw [ni_72, if_neg hi]⟩, fun z => absurd z (Nat.lt_irrefl _), fun y _ _ => ?_, fun _ _ z => absurd z (Nat.lt_irrefl _)⟩
  unfold eqA
  rw [m.I 75 (by decide), m.J 76 (by decide), m.J 77 (by decide), m.I 78 (by decide)]
  exact ⟨rfl, rfl, rfl, rfl⟩
theorem vv_0 : VV (0, [], []) := ⟨by decide, by decide, by decide, fun z => absurd z (by decide), fun k v hk => by simp at hk, fun k k' v v' hk => by simp at hk⟩
theorem j_new (h : LX G H sa x rd s0 t l ws) (hE : EX Os t) (hO : ∀ r, (Os r).length < 760) (hr : r < cR t) (hl : lk < cL t) (hno : ∀ p, p < cI t r → t.I 71 (4 * r + p) ≠ nI lk) (hf : f = 0 ∨ f = 1) (h12 : t.S 12 = nI f) (h13 : t.Z 13 = hh) (h14 : t.Z 14 = ll) (h15 : t.S 15 = nn) (hn : rng nn 0 (if f = 0 then 32 else 128)) (hP : jP (wC l ws) ws.length ws.length 4 0 = some P) (ok : jOk (wC l ws) P) (hs : ¬ t.I 23 lk + 1 < 0) : JU G H sa x rd t l ws f hh ll nn Os Wju (M_lineJoin_b206 t (nI (jW 1 P)) (nI (jW 2 P)) (nI (jW 3 P)) (nI (jW 4 P)) (nI (jW 5 P)) (nI r) (nI lk) (-1)) (C_Re_joinLine_b83 sa rd (some (G 1 r)) (some (G 0 lk)) none) := by
  have hM := h.mv
  have h6 := hM.nR
  have h4 := hM.nIf hr
  obtain ⟨jz1, jz2⟩ := jfz hP
  obtain ⟨o1, o2, o3⟩ := jf_o (l := l) (ws := ws) P (-1, -1, 0, (0, [], []), 0) jz2
  have e70 : t.I 70 r = nI (cI t r) := (hM.r hr).2.2.2.2.2.2.2.2.2.1.n.1
  -- the class up to the options
  have cls : ∀ s kc ks, LX G H sa x rd s t l ws → PF s (H 146 rd) (fam (nI f)) hh ll nn → PoC s G H t + 64 ≤ kc → PoS s G H t + 1200 ≤ ks → ∀ Q : Int32 → cS → Nat → Nat → Prop, (∀ s1, LX G H sa x rd s1 t l ws → PF s1 (H 146 rd) (fam (nI f)) hh ll nn → VV (P.foldl (jS l ws) (-1, -1, 0, (0, [], []), 0)).2.2.2.1 → CC H s1 (H 151 rd) (P.foldl (jS l ws) (-1, -1, 0, (0, [], []), 0)).2.2.2.1 → (s1.I 148 rd = (P.foldl (jS l ws) (-1, -1, 0, (0, [], []), 0)).1 ∧ s1.I 149 rd = (P.foldl (jS l ws) (-1, -1, 0, (0, [], []), 0)).2.1 ∧ s1.I 150 rd = (P.foldl (jS l ws) (-1, -1, 0, (0, [], []), 0)).2.2.1) → kp x s s1 → PoC s1 G H t ≤ PoC s G H t → PoS s1 G H t ≤ PoS s G H t → if (P.foldl (jS l ws) (-1, -1, 0, (0, [], []), 0)).2.2.2.2 = 0 then (if cI t r < 4 then C_Rr_addPort sa (G 1 r) (some (G 0 lk)) s1 kc ks (fun r2 sr2 cr2 dr2 => C_Re_joinLine_b129 sa rd (some (G 1 r)) (some (G 0 lk)) r2 sr2 cr2 dr2 Q) else Q 6 s1 kc ks) else Q (P.foldl (jS l ws) (-1, -1, 0, (0, [], []), 0)).2.2.2.2 s1 kc ks) → C_Re_joinLine_b83 sa rd (some (G 1 r)) (some (G 0 lk)) none s kc ks Q := by
    intro s kc ks hL hPF hkc hks Q k
    unfold C_Re_joinLine_b83
    refine ⟨hL.or, w_takeJ hL hP ok (Or.inl ⟨rfl, rfl⟩) fun s1 z' ez hJ => ?_⟩
    obtain ⟨L1, c1, v1, i1, f1, ek, eP⟩ := hJ
    rw [ez] at c1 i1 v1
    have k19 := hL.px.2.1
    obtain ⟨a1, a2⟩ := pot_fr (G' := G) (H' := H) (t' := t) hL.1 hM f1 rfl gA.rf hA.rf (Nat.le_refl _) (Nat.le_refl _) (fun _ _ => Nat.le_refl _) rfl
    have q2 := k s1 L1 (hPF.fr f1 k19 (by decide)) v1 c1 i1 (f1.kp hL.q.1.1 rfl) a1 a2
    rw [ez]
    have k26 := (L1.q.rt hr).1.1
    by_cases e0 : (P.foldl (jS l ws) (-1, -1, 0, (0, [], []), 0)).2.2.2.2 = 0
    · rw [if_pos e0] at q2
      refine ifT e0 (ifT rfl ⟨_, rfl, _, gd_to (okr k26 9), ?_⟩)
      rw [show s1.I (20 * 9 + 5) (G 1 r) = nI (cI t r) from ((L1.q.rt hr).2.2.1.2.2.1).trans e70]
      by_cases c4 : cI t r < 4
      · rw [if_pos c4] at q2
        refine ifT (nI_lt (b := 4) c4 (by decide)) ?_
        unfold C_Re_joinLine_b111
        exact ifT e0 (ifT rfl ⟨_, rfl, okr k26 9, q2⟩)
      · rw [if_neg c4] at q2
        refine ifF (nI_nlt (b := 4) (by omega) (by omega)) ?_
        unfold C_Re_joinLine_b111
        exact ifF (by decide) q2
    · rw [if_neg e0] at q2
      refine ifF e0 ?_
      unfold C_Re_joinLine_b111
      exact ifF e0 q2
  have no : ∀ c : Int32, c ≠ 0 → ((P.foldl (jS l ws) (-1, -1, 0, (0, [], []), 0)).2.2.2.2 = c ∨ (P.foldl (jS l ws) (-1, -1, 0, (0, [], []), 0)).2.2.2.2 = 0 ∧ c = 6 ∧ ¬ cI t r < 4) → M_lineJoin_b206 t (nI (jW 1 P)) (nI (jW 2 P)) (nI (jW 3 P)) (nI (jW 4 P)) (nI (jW 5 P)) (nI r) (nI lk) (-1) = some (c, t) → JU G H sa x rd t l ws f hh ll nn Os Wju (M_lineJoin_b206 t (nI (jW 1 P)) (nI (jW 2 P)) (nI (jW 3 P)) (nI (jW 4 P)) (nI (jW 5 P)) (nI r) (nI lk) (-1)) (C_Re_joinLine_b83 sa rd (some (G 1 r)) (some (G 0 lk)) none) := fun c hc ec em => by
    refine ⟨c, t, Os, em, hM, hE, fun _ => Nat.le_succ _, mfr.rf, fun _ => Or.inl rfl, fun s kc ks hL hPF hkc hks Q k => cls s kc ks hL hPF hkc hks Q fun s1 L1 _ _ _ _ eP a1 a2 => ?_⟩
    have fin := k G H s1 kc ks L1.1 eP (by omega) (by omega)
    rcases ec with ec | ⟨ec, rfl, e4⟩
    · rw [ec, if_neg hc]
      exact fin
    · rw [ec, if_pos rfl, if_neg e4]
      exact fin
  by_cases hg : ∀ e, e ∈ P → gdE l ws e
  rotate_left
  · obtain ⟨e, he⟩ := Classical.not_forall.mp hg
    obtain ⟨he1, he2⟩ := Classical.not_imp.mp he
    refine no 4 (by decide) (Or.inl ((jf_4 P _ jz1).mpr (Or.inr ⟨e, he1, he2⟩))) ?_
    rw [(m_good h hP).2 hg]
    unfold M_lineJoin_b256
    rw [if_pos rfl]
  have j6 := (jf_6 (l := l) (ws := ws) P (-1, -1, 0, (0, [], []), 0) jz1 hg).2 rfl
  have em1 : M_lineJoin_b206 t (nI (jW 1 P)) (nI (jW 2 P)) (nI (jW 3 P)) (nI (jW 4 P)) (nI (jW 5 P)) (nI r) (nI lk) (-1) = if nI (cI t r) = 4 then some (6, t) else M_lineJoin_b282 t (nI (jW 1 P)) (nI (jW 2 P)) (nI (jW 3 P)) (nI (jW 4 P)) (nI (jW 5 P)) (nI r) (nI lk) (-1) := by
    rw [(m_good h hP).1 hg]
    unfold M_lineJoin_b256
    rw [if_neg (show ¬ (1 : Int32) = 0 by decide), if_pos rfl, rdI_n (n := 6) (hM.n.n 70 6) (by omega) (by decide), e70]
    rfl
  by_cases c4 : cI t r < 4
  rotate_left
  · rw [if_pos (show nI (cI t r) = 4 by rw [show cI t r = 4 by omega]; rfl)] at em1
    by_cases hrm : rmO l ws P (0, [], [])
    · exact no 6 (by decide) (Or.inr ⟨(j6.1 hrm).1, rfl, c4⟩) em1
    · exact no 6 (by decide) (Or.inl (j6.2 hrm)) em1
  rw [if_neg (fun z => by have := (nI_eq (a := cI t r) (b := 4) (by omega) (by decide)).mp z; omega)] at em1
  obtain ⟨b, hb, eb⟩ := m_room0 h hP hg
  by_cases hrm : rmO l ws P (0, [], [])
  rotate_left
  · refine no 6 (by decide) (Or.inl (j6.2 hrm)) ?_
    rw [em1]
    unfold M_lineJoin_b282
    rw [eb, if_neg (fun z => hrm (hb.mp z))]
    simp only [Option.bind_some]
    rw [if_pos trivial]
  obtain ⟨e0, eV⟩ := j6.1 hrm
  obtain ⟨en, mn⟩ := m_newIf (l := lk) hM hr c4
  have hMn := mv_ni hM hr c4 hl hno
  obtain ⟨-, mz⟩ := ms_ni (l := lk) hM hr c4
  have hC : MC (niT t r lk) (4 * r + cI t r) (0, [], []) := ⟨mz.2.2.1, mz.2.2.2.1, fun k v hk => by simp at hk, fun z => absurd z (by decide)⟩
  obtain ⟨t', O, e1, e2, e3, e4, e5, e6⟩ := j_mid (sa := sa) (x := x) (rd := rd) (t0 := t) (t := niT t r lk) (p := cI t r) (lk := lk) (hh := hh) (ll := ll) hM hE hr hMn (h.wx.mf mn rfl) (jn_ni hM hr c4) mn hf (fun z => absurd z (Nat.lt_irrefl _)) (hO r) (by unfold cL; rw [mn.S 17 (by decide)]; exact hl) (by rw [ni_71, if_pos rfl]) (by rw [mn.S 12 (by decide)]; exact h12) (by rw [mn.Z 13 (by decide)]; exact h13) (by rw [mn.Z 14 (by decide)]; exact h14) (by rw [mn.S 15 (by decide)]; exact h15) hn hP hg ok hrm vv_0 hC (by rw [mn.I 23 (by decide)]; exact hs)
  rw [mn.I 23 (by decide)] at e5
  refine ⟨0, t', _, ?_, e2, e3, exl, (mn.wk (by decide)).tr (e4.wk (by decide)), i23 e5, fun s kc ks hL hPF hkc hks Q k => cls s kc ks hL hPF hkc hks Q fun s1 L1 hPF1 v1 c1 i1 eP a1 a2 => ?_⟩
  · rw [em1]
    unfold M_lineJoin_b282
    rw [eb, if_pos (hb.mpr hrm)]
    simp only [Option.bind_some]
    rw [if_neg (by decide), if_pos trivial, en]
    exact e1
  · rw [if_pos e0, if_pos c4]
    rw [eV] at c1 v1
    rw [o1, o2, o3] at i1
    have krd := L1.2.2.1.2
    have k19 := L1.px.2.1
    refine c_addP L1.1 hM hr rfl c4 hl (by omega) (by omega) fun G2 H2 s2 kc2 ks2 R2 g2 hh2 f2 b1 b2 => ?_
    obtain ⟨y1, y2⟩ := pot_fr (G' := G2) (H' := H2) (t' := niT t r lk) L1.1 hM f2 rfl g2 hh2 (by unfold cR; rw [mn.S 37 (by decide)]; exact Nat.le_refl _) (by unfold cL; rw [mn.S 17 (by decide)]; exact Nat.le_refl _) (fun r' _ => by rw [ni_cI hM hr]; split <;> (first | (rename_i z; rw [z]; omega) | exact Nat.le_refl _)) (by unfold cF; rw [mn.S 123 (by decide)])
    rw [← (g2.2.1 r hr).1, ← g2.1 lk hl]
    have hx := L1.q.1.1
    refine e6 G2 H2 s2 kc2 ks2 R2 (f2.r krd) (by rw [hh2 146 rd (by rw [krd]; decide)]; exact hPF1.fr f2 k19 (by decide)) (by rw [hh2 151 rd (by rw [krd]; decide)]; exact c1.f26 L1.q.1 L1.c5.2.2 v1.2.1 f2 hh2) (by rw [(f2.v krd (by decide)).1, (f2.v krd (by decide)).1, (f2.v krd (by decide)).1]; exact i1) (by omega) (by omega) Q fun G' H' s' kc' ks' z1 z2 z3 z4 => k G' H' s' kc' ks' z1 (eP.tr ((f2.kp hx rfl).tr z2)) (by omega) (by omega)
end Jw
