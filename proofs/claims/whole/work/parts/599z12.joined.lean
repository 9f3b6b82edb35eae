/-! What a join tells is set. -/
abbrev Wad : List Nat := [75, 76, 77, 78]
abbrev Wak : List Nat := [75, 76, 77, 78, 79, 80, 81, 82, 83, 84, 85, 86, 87, 88]
section Jo
variable {G H : Nat → Nat → Nat} {sa : Nat → Nat} {x kc ks r p rd c5 q : Nat} {s s1 s' : cS} {t tm t' : moS} {V : chV} {Q : cS → Nat → Nat → Prop}
theorem CC.fr0 {Gp : List (Nat × Nat)} (h : CC H s c5 V) (hg : RGl G H sa x s) (hc : okO s 1 c5) (h4 : V.2.2.length ≤ 4) (f : fr [] Gp [] s s1) : CC H s1 c5 V := by
  obtain ⟨⟨-, q1⟩, ⟨-, q3⟩, ⟨-, q4⟩, ⟨-, q5⟩, ⟨-, q6⟩, ⟨-, q7⟩, w7⟩ := chK hg hc
  have v : ∀ a, (s.K a).1 ≠ 0 → (∀ g, s1.I g a = s.I g a) ∧ s1.E a = s.E a ∧ s1.Q a = s.Q a := fun a ha => ⟨((f a ha).2.1 (by simp)).1, ((f a ha).2.1 (by simp)).2.2, (f a ha).2.2.2 (by simp)⟩
  have n : ∀ {a u n : Nat}, s.K a = (u, n) → u ≠ 0 → (s.K a).1 ≠ 0 := fun h1 h2 => by rw [h1]; exact h2
  obtain ⟨e1, e2, e3, e4⟩ := h
  refine ⟨by rw [(v c5 hc.n0).1]; exact e1, by rw [(v c5 hc.n0).1]; exact e2, fun k u hk => ?_, fun hv => ?_⟩
  · obtain ⟨g1, g2, g3, g4, g5⟩ := e3 k u hk
    rw [(v _ (n q3 (by decide))).2.1, (v _ (n q4 (by decide))).2.1, (v _ (n q5 (by decide))).2.1, (v _ (n q6 (by decide))).2.1, (v _ (n q7 (by decide))).2.2]
    refine ⟨g1, g2, g3, g4, fun w hw i hi => ?_⟩
    obtain ⟨w', f1, f2⟩ := w7 k (Nat.lt_of_lt_of_le (List.getElem?_eq_some_iff.mp hk).1 h4)
    rw [hw] at f1
    cases f1
    rw [(v _ (n f2 (by decide))).2.1]
    exact g5 w hw i hi
  · rw [(v _ (n q1 (by decide))).2.1]
    exact e4 hv
/-- the keys alone -/
theorem fq_mix (m1 : mfr [72, 73, 74, 75, 76, 77, 78] t tm) (fk : fq q tm t') : fq q (mixT Wad t tm) (mixT Wak t t') := by
  obtain ⟨fm, f1, f2, f3, f4⟩ := fk
  have e2 : ∀ k, k ∈ Wak → (mixT Wak t t').I k = t'.I k := fun k hk => mix_I hk
  have e1 : ∀ k, k ∈ [79, 80, 81, 82, 83, 84, 85, 86, 87, 88] → (mixT Wad t tm).I k = tm.I k := fun k hk => by
    have n : k ∉ Wad ∧ k ∉ [72, 73, 74, 75, 76, 77, 78] := by
      revert k
      decide
    rw [show (mixT Wad t tm).I k = t.I k from if_neg n.1, m1.I k n.2]
  refine ⟨⟨fun k hk => ?_, fun k _ => ?_⟩, fun i hi => ?_, fun i hi => ?_, fun i hi => ?_, fun i hi => ?_⟩
  · by_cases c : k ∈ Wad
    · have ck : k ∈ Wak := by
        revert c
        simp only [List.mem_cons, List.not_mem_nil, or_false]
        omega
      have q := fm.1 k hk
      exact ⟨(if_pos ck).trans (q.1.trans (if_pos c).symm), (if_pos ck).trans (q.2.1.trans (if_pos c).symm), (if_pos ck).trans (q.2.2.1.trans (if_pos c).symm), (if_pos ck).trans (q.2.2.2.trans (if_pos c).symm)⟩
    · have ck : k ∉ Wak := by
        revert c hk
        simp only [List.mem_cons, List.not_mem_nil, or_false]
        omega
      exact ⟨(if_neg ck).trans (if_neg c).symm, (if_neg ck).trans (if_neg c).symm, (if_neg ck).trans (if_neg c).symm, (if_neg ck).trans (if_neg c).symm⟩
  · show t'.N k = tm.N k
    by_cases ck : k ∈ [79, 80, 81, 82, 83, 84, 85, 86, 87, 88]
    · have nG : ∀ k, k ∈ [79, 80, 81, 82, 83, 84, 85, 86, 87, 88] → k ∉ mG := by decide
      exact fm.2 k (Or.inr (nG k ck))
    · exact fm.2 k (Or.inl ck)
  · rw [e2 79 (by decide), e2 80 (by decide), e2 82 (by decide), e1 79 (by decide), e1 80 (by decide), e1 82 (by decide)]
    exact f1 i hi
  · rw [e2 83 (by decide), e2 84 (by decide), e2 85 (by decide), e2 87 (by decide), e2 88 (by decide), e1 83 (by decide), e1 84 (by decide), e1 85 (by decide), e1 87 (by decide), e1 88 (by decide)]
    exact f2 i hi
  · rw [e2 81 (by decide), e1 81 (by decide)]
    exact f3 i hi
  · rw [e2 86 (by decide), e1 86 (by decide)]
    exact f4 i hi
theorem c_joined (hR : RR G H sa x s t) (hM : MV t) (hr : r < cR t) (hp : p < cI t r) (krd : (s.K rd).1 = 22) {f : Nat} {hh ll : Int64} {nn co sp pas : Int32} (hf : f = 0 ∨ f = 1) (hPF : PF s (H 146 rd) (fam (nI f)) hh ll nn) (hn : rng nn 0 (if f = 0 then 32 else 128)) (hV : VV V) (hC : CC H s (H 151 rd) V) (iz : s.I 148 rd = co ∧ s.I 149 rd = sp ∧ s.I 150 rd = pas) (hpas : bit pas) (m1 : mfr [72, 73, 74, 75, 76, 77, 78] t tm) (o : ∀ i, i ≠ 2 * (4 * r + p) + f → tm.I 75 i = t.I 75 i ∧ tm.J 76 i = t.J 76 i ∧ tm.J 77 i = t.J 77 i ∧ tm.I 78 i = t.I 78 i) (v5 : tm.I 75 (2 * (4 * r + p) + f) = 1) (v6 : tm.J 76 (2 * (4 * r + p) + f) = hh) (v7 : tm.J 77 (2 * (4 * r + p) + f) = ll) (v8 : tm.I 78 (2 * (4 * r + p) + f) = nn) (oS : ∀ i, i ≠ 4 * r + p → tm.I 72 i = t.I 72 i ∧ tm.J 73 i = t.J 73 i ∧ tm.I 74 i = t.I 74 i) (w2 : tm.I 72 (4 * r + p) = if co = -1 then t.I 72 (4 * r + p) else co) (w3 : if sp = -1 then tm.J 73 (4 * r + p) = t.J 73 (4 * r + p) else spl sp (tm.J 73 (4 * r + p))) (w4 : tm.I 74 (4 * r + p) = t.I 74 (4 * r + p) ||| pas) (bco : co = -1 ∨ rng co 1 15) (fk : fq (4 * r + p) tm t') (hm : MC t' (4 * r + p) V) (hkc : 1 ≤ kc) (hks : 4 ≤ ks) (k : ∀ s', RR G H sa x s' t' → MV t' → fr [4, 5, 8, 103, 109, 110, 111, 112, 126] [(81, 8), (82, 8)] [] s s' → Q s' (kc - 1) (ks - 4)) : C_Re_setJoined sa rd (some (G 2 (4 * r + p))) s kc ks Q := by
  have hq := hR.q.1
  have hT := hq.ty
  have or' := okr krd 7
  have k8 := (hq.po hr hp).1.1
  have p146 := hT.p krd 146 19
  have p151 := hT.p krd 151 5
  have p86 := hT.p k8 86 4
  have o5 := okr p151.2 1
  have o4c := okr p86.2 1
  have nG : ∀ k, k ∈ [72, 73, 74, 75, 76, 77, 78] → k ∉ mG := by decide
  have mA : mfr Wad t (mixT Wad t tm) := mix_m m1 nG
  unfold C_Re_setJoined
  refine ⟨_, gd_to or', _, rfl, okr k8 4, ?_⟩
  rw [show s.P (20 * 7 + 6) rd = some (H 146 rd) from p146.1]
  refine c_setAd hR hM hr hp hf (okr p146.2 5) hPF hn mA (fun i hi => by
    rw [mix_I (k := 75) (by decide), mix_J (k := 76) (by decide), mix_J (k := 77) (by decide), mix_I (k := 78) (by decide)]; exact o i hi) (by rw [mix_I (k := 75) (by decide)]; exact v5) (by rw [mix_J (k := 76) (by decide)]; exact v6) (by rw [mix_J (k := 77) (by decide)]; exact v7) (by rw [mix_I (k := 78) (by decide)]; exact v8) hkc hks fun s2 R2 M2 f2 => ?_
  have P2 : ∀ g a, (s.K a).1 ≠ 0 → g ≠ 81 → g ≠ 82 → s2.P g a = s.P g a := fun g a ha h1 h2 => (f2 a ha).2.2.1 g (by
    intro z
    have z := List.mem_cons.mp z
    rcases z with z | z
    · exact h1 (congrArg Prod.fst z)
    · exact h2 (congrArg Prod.fst (List.mem_singleton.mp z)))
  have I2 : ∀ g a, (s.K a).1 ≠ 0 → s2.I g a = s.I g a := fun g a ha => ((f2 a ha).2.1 (by simp)).1 g
  have ok2 : ∀ {u a : Nat}, okO s u a → okO s2 u a := fun {u a} h => by unfold okO; rw [(f2 a h.n0).1]; exact h
  have C2 : CC H s2 (H 151 rd) V := hC.fr0 hq.1 o5 hV.2.1 f2
  have ne : H 151 rd ≠ H 86 (G 2 (4 * r + p)) := fun z => by
    have := p151.2
    rw [z, p86.2] at this
    exact absurd this (by decide)
  refine ⟨_, gd_to (ok2 (okr k8 4)), _, gd_to (ok2 or'), H 86 (G 2 (4 * r + p)), (P2 86 _ (by rw [k8]; decide) (by decide) (by decide)).trans p86.1, ok2 o4c, ?_⟩
  rw [show s2.P (20 * 7 + 11) rd = some (H 151 rd) from (P2 151 rd or'.n0 (by decide) (by decide)).trans p151.1]
  refine w_copyC R2.q.1.1 (ok2 o4c) (ok2 o5) ne hV C2 fun s3 f3 C3 e3 => ?_
  have eR : cR (mixT Wad t tm) = cR t := by unfold cR; rw [mA.S 37 (by decide)]
  have eI : ∀ r, cI (mixT Wad t tm) r = cI t r := fun r => by unfold cI; rw [mA.I 70 (by decide)]
  have k21 := (chK R2.q.1.1 (ok2 o5)).1.2
  have mc2 : MC (mixT Wak t t') (4 * r + p) V := by
    unfold MC at hm ⊢
    rw [mix_I (k := 79) (by decide), mix_I (k := 80) (by decide), mix_I (k := 81) (by decide), mix_I (k := 82) (by decide), mix_I (k := 83) (by decide), mix_I (k := 84) (by decide), mix_I (k := 85) (by decide), mix_I (k := 86) (by decide), mix_I (k := 87) (by decide), mix_I (k := 88) (by decide)]
    exact hm
  obtain ⟨R3, M3⟩ := ch_one R2 M2 (by rw [eR]; exact hr) (by rw [eI]; exact hp) f3 (fun i hi => by
    rw [e3 i hi]
    exact R2.q.1.1.2.2.2.2.2.2.2.2.2.2.2.2.2.2.1 _ i (by rw [k21]) hi) (fq_mix m1 fk) hV C3 mc2
  -- cost, split, passive
  have mT : mfr [72, 73, 74, 75, 76, 77, 78, 79, 80, 81, 82, 83, 84, 85, 86, 87, 88] t t' := (m1.wk (by decide)).tr (fk.1.wk (by decide))
  have mS : mfr [72, 73, 74] (mixT Wak t t') t' := mix_r mT (by decide)
  have nG2 : ∀ k, k ∈ [72, 73, 74, 75, 76, 77, 78, 79, 80, 81, 82, 83, 84, 85, 86, 87, 88] → k ∉ mG := by decide
  have mK : mfr Wak t (mixT Wak t t') := mix_m mT nG2
  have e72 : t'.I 72 = tm.I 72 := fk.1.I 72 (by decide)
  have e73 : t'.J 73 = tm.J 73 := fk.1.J 73 (by decide)
  have e74 : t'.I 74 = tm.I 74 := fk.1.I 74 (by decide)
  have x72 : (mixT Wak t t').I 72 = t.I 72 := mK.I 72 (by decide)
  have x73 : (mixT Wak t t').J 73 = t.J 73 := mK.J 73 (by decide)
  have x74 : (mixT Wak t t').I 74 = t.I 74 := mK.I 74 (by decide)
  have eR3 : cR (mixT Wak t t') = cR t := by unfold cR; rw [mK.S 37 (by decide)]
  have eI3 : ∀ r, cI (mixT Wak t t') r = cI t r := fun r => by unfold cI; rw [mK.I 70 (by decide)]
  have hr3 : r < cR (mixT Wak t t') := by rw [eR3]; exact hr
  have hp3 : p < cI (mixT Wak t t') r := by rw [eI3]; exact hp
  have old := (R3.q.1.po hr3 hp3).2.2.2.1
  rw [x72, x73, x74] at old
  have hi3 := (hM.r hr).i hp
  have nrc : rd ≠ H 86 (G 2 (4 * r + p)) := fun z => by rw [z, p86.2] at krd; exact absurd krd (by decide)
  have I3 : ∀ g, s3.I g rd = s.I g rd := fun g => (f3.2.2.2.2.1 g rd nrc).trans (I2 g rd or'.n0)
  have oo3 : okO s3 4 (G 2 (4 * r + p)) := f3.o (ok2 (okr k8 4))
  have or3 : okO s3 7 rd := f3.o (ok2 or')
  have nrp : rd ≠ G 2 (4 * r + p) := fun z => by rw [z, k8] at krd; exact absurd krd (by decide)
  have ff3 : fr [4, 5, 103, 109, 110, 111, 112, 126] [] [] s2 s3 := f3.fr R2.q.1.1 (ok2 o4c)
  have b74 := hi3.2.2.2.2.1
  have bor : bit (t.I 74 (4 * r + p) ||| pas) := by
    rcases b74 with e | e <;> rcases hpas with e' | e' <;> rw [e, e'] <;> first | exact Or.inl (by decide) | exact Or.inr (by decide)
  -- all at once
  have fin : ∀ a83 a84, (co = -1 → a83 = s3.I 83 (G 2 (4 * r + p))) → (co ≠ -1 → a83 = co) → (sp = -1 → a84 = s3.I 84 (G 2 (4 * r + p))) → (sp ≠ -1 → a84 = sp) → ∀ s6, s6.K = s3.K ∧ s6.P = s3.P ∧ s6.Q = s3.Q ∧ s6.J = s3.J ∧ s6.E = s3.E → (∀ g a, ¬ (a = G 2 (4 * r + p) ∧ (g = 83 ∨ g = 84 ∨ g = 85)) → s6.I g a = s3.I g a) → s6.I 83 (G 2 (4 * r + p)) = a83 → s6.I 84 (G 2 (4 * r + p)) = a84 → s6.I 85 (G 2 (4 * r + p)) = t.I 74 (4 * r + p) ||| pas → Q s6 (kc - 1) (ks - 4) := by
    intro a83 a84 c1 c2 c3 c4 s6 hK6 hI6 j3 j4 j5
    obtain ⟨R6, M6, f6⟩ := rr_sc3 R3 M3 hr3 hp3 hK6 hI6 mS (fun i hi => by rw [e72, e73, e74, x72, x73, x74]; exact oS i hi) (by
      rw [j3, e72, w2]
      by_cases z : co = -1
      · rw [if_pos z, c1 z]; exact old.1
      · rw [if_neg z, c2 z]) (by
      rw [j4, e73]
      by_cases z : sp = -1
      · rw [if_pos z] at w3
        rw [c3 z, w3]; exact old.2.1
      · rw [if_neg z] at w3
        rw [c4 z]; exact w3) (by rw [j5, e74, w4]) (by
      rw [e72, w2]
      by_cases z : co = -1
      · rw [if_pos z]; exact hi3.2.2.1
      · rw [if_neg z]; exact bco.resolve_left z) (by rw [e74, w4]; exact bor)
    exact k s6 R6 M6 ((f2.wk.tr ff3.wk).tr f6.wk)
  refine ⟨_, gd_to oo3, _, gd_to or3, ?_⟩
  rw [show s3.I (20 * 4 + 5) (G 2 (4 * r + p)) = t.I 74 (4 * r + p) from old.2.2.1, show s3.I (20 * 7 + 10) rd = pas from (I3 150).trans iz.2.2]
  refine ⟨_, gd_to ⟨oo3, bor⟩, _, gd_to (show okO (cSI s3 _ _ _) 7 rd from or3), ?_⟩
  rw [show (cSI s3 (20 * 4 + 5) (G 2 (4 * r + p)) (t.I 74 (4 * r + p) ||| pas)).I (20 * 7 + 8) rd = co from (cSI_o nrp).trans ((I3 148).trans iz.1)]
  have b48 : ∀ s5, s5.K = s3.K ∧ s5.P = s3.P ∧ s5.Q = s3.Q ∧ s5.J = s3.J ∧ s5.E = s3.E → (∀ g a, ¬ (a = G 2 (4 * r + p) ∧ (g = 83 ∨ g = 84 ∨ g = 85)) → s5.I g a = s3.I g a) → (co = -1 → s5.I 83 (G 2 (4 * r + p)) = s3.I 83 (G 2 (4 * r + p))) → (co ≠ -1 → s5.I 83 (G 2 (4 * r + p)) = co) → s5.I 84 (G 2 (4 * r + p)) = s3.I 84 (G 2 (4 * r + p)) → s5.I 85 (G 2 (4 * r + p)) = t.I 74 (4 * r + p) ||| pas → C_Re_setJoined_b48 sa rd (some (G 2 (4 * r + p))) s5 (kc - 1) (ks - 4) Q := by
    intro s5 hK5 hI5 d1 d2 d3 d4
    have or5 : okO s5 7 rd := by unfold okO; rw [hK5.1]; exact or3
    have oo5 : okO s5 4 (G 2 (4 * r + p)) := by unfold okO; rw [hK5.1]; exact oo3
    have i149 : s5.I (20 * 7 + 9) rd = sp := (hI5 149 rd (fun z => nrp z.1)).trans ((I3 149).trans iz.2.1)
    unfold C_Re_setJoined_b48
    refine ⟨_, gd_to or5, ?_⟩
    rw [i149]
    by_cases z : sp = -1
    · exact ifT z (fin _ _ d1 d2 (fun _ => d3) (fun y => absurd z y) s5 hK5 hI5 rfl rfl d4)
    · refine ifF z ⟨_, gd_to or5, _, rfl, _, gd_to oo5, ?_⟩
      rw [i149]
      refine fin _ _ d1 d2 (fun y => absurd y z) (fun _ => rfl) _ hK5 (fun g a y => ?_) ?_ ?_ ?_
      · rw [evI, if_neg (fun w => y ⟨w.2, Or.inr (Or.inl w.1)⟩)]; exact hI5 g a y
      · show (cSI s5 84 _ sp).I 83 _ = _
        rw [cSI_g (by decide)]
      · exact cSI_s
      · show (cSI s5 84 _ sp).I 85 _ = _
        rw [cSI_g (by decide)]; exact d4
  by_cases z : co = -1
  · refine ifT z (b48 _ ⟨rfl, rfl, rfl, rfl, rfl⟩ (fun g a y => ?_) (fun _ => ?_) (fun y => absurd z y) ?_ ?_)
    · rw [evI, if_neg (fun w => y ⟨w.2, Or.inr (Or.inr w.1)⟩)]
    · rw [cSI_g (by decide)]
    · rw [cSI_g (by decide)]
    · exact cSI_s
  · refine ifF z ⟨_, gd_to (show okO (cSI s3 _ _ _) 7 rd from or3), _, gd_to (show okO (cSI s3 _ _ _) 4 _ from oo3), ?_⟩
    rw [show (cSI s3 (20 * 4 + 5) (G 2 (4 * r + p)) (t.I 74 (4 * r + p) ||| pas)).I (20 * 7 + 8) rd = co from (cSI_o nrp).trans ((I3 148).trans iz.1)]
    refine b48 _ ⟨rfl, rfl, rfl, rfl, rfl⟩ (fun g a y => ?_) (fun y => absurd y z) (fun _ => cSI_s) ?_ ?_
    · rw [evI, if_neg (fun w => y ⟨w.2, Or.inl w.1⟩), evI, if_neg (fun w => y ⟨w.2, Or.inr (Or.inr w.1)⟩)]
    · rw [cSI_g (by decide), cSI_g (by decide)]
    · rw [cSI_g (by decide)]; exact cSI_s
end Jo
