/-! Entries of lists and filters. -/
section Pl
variable {G H : Nat → Nat → Nat} {sa : Nat → Nat} {rd x kc ks : Nat} {s s' : cS} {t t' : moS}
/-- a list, or filters, with room for cp entries -/
def isPl (H : Nat → Nat → Nat) (s : cS) (a cp : Nat) : Prop := okO s 6 a ∧ ((s.K a).1 = 20 ∨ (s.K a).1 = 21) ∧ (s.P 121 a = some (H 121 a) ∧ s.K (H 121 a) = (138, cp)) ∧ (s.P 122 a = some (H 122 a) ∧ s.K (H 122 a) = (102, cp)) ∧ (s.P 123 a = some (H 123 a) ∧ s.K (H 123 a) = (105, cp)) ∧ (s.P 124 a = some (H 124 a) ∧ s.K (H 124 a) = (106, cp)) ∧ cp < 2 ^ 31
theorem TY.pl {a : Nat} (hT : TY cNo H s) (h : (s.K a).1 = 20) : isPl H s a 16 := ⟨okr h 6, Or.inl h, hT.r h 121 138 16, hT.r h 122 102 16, hT.r h 123 105 16, hT.r h 124 106 16, by decide⟩
theorem TY.pf {a : Nat} (hT : TY cNo H s) (h : (s.K a).1 = 21) : isPl H s a 32 := ⟨okr h 6, Or.inr h, hT.r h 121 138 32, hT.r h 122 102 32, hT.r h 123 105 32, hT.r h 124 106 32, by decide⟩
theorem w_full {Q : Int32 → cS → Nat → Nat → Prop} {a cp k : Nat} (h : isPl H s a cp) (hc : s.I 125 a = nI k) (hk : k ≤ cp) (k1 : k = cp → Q 1 s kc ks) (k0 : k < cp → Q 0 s kc ks) : C_Pl_isFull sa a s kc ks Q := by
  obtain ⟨o, -, p1, -, -, -, h31⟩ := h
  unfold C_Pl_isFull
  refine ⟨_, gd_to o, _, gd_to o, _, p1.1, _, gd_to (by rw [p1.2]; exact ⟨show 100 ≤ 138 by decide, show 138 < 160 by decide⟩), ?_⟩
  rw [show s.I (20 * 6 + 5) a = nI k from hc, p1.2]
  by_cases c : k < cp
  · exact ifT (nI_lt c h31) (k0 c)
  · exact ifF (nI_nlt (by omega) (by omega)) (k1 (by omega))
/-- the state behind an entry more -/
def plS (H : Nat → Nat → Nat) (sP : cS) (a k z : Nat) (pm le mo : Int32) : cS := cSI (cSE (cSE (cSE (cSQ sP (H 121 a) k (some z)) (H 122 a) k pm) (H 123 a) k le) (H 124 a) k mo) 125 a (nI (k + 1))
theorem w_plAdd {Q : cS → Nat → Nat → Prop} {a cp k y : Nat} {f n pm le mo : Int32} {b1 b2 : Int64} (h : isPl H s a cp) (hc : s.I 125 a = nI k) (hk : k < cp) (hy : okO s 5 y) (hp : PF s y f b1 b2 n) (hpm : bit pm) (hkc : 1 ≤ kc) (hks : 4 ≤ ks) (kq : ∀ z sP, cFr sa s z → sP.K z = (17, 0) → exq z s sP → PF sP z f b1 b2 n → Q (plS H sP a k z pm le mo) (kc - 1) (ks - 4)) : C_Pl_add sa a (some y) pm le mo s kc ks Q := by
  obtain ⟨o, ha, p1, p2, p3, p4, h31⟩ := id h
  unfold C_Pl_add
  refine ⟨o, w_full h hc (Nat.le_of_lt hk) (fun e => by omega) (fun _ => ifT rfl ⟨_, gd_to o, _, gd_to o, w_newP 17 hkc hks (by decide) fun z s1 hz hK e ho => ?_⟩)⟩
  rw [show s.I (20 * 6 + 5) a = nI k from hc]
  have nn : ∀ b, (s.K b).1 ≠ 0 → b ≠ z := fun b hb e' => hb (by rw [e']; exact hz.1)
  have na : a ≠ z := nn a o.n0
  have n1 : H 121 a ≠ z := nn _ (by rw [p1.2]; show (138 : Nat) ≠ 0; decide)
  have n2 : H 122 a ≠ z := nn _ (by rw [p2.2]; show (102 : Nat) ≠ 0; decide)
  have n3 : H 123 a ≠ z := nn _ (by rw [p3.2]; show (105 : Nat) ≠ 0; decide)
  have n4 : H 124 a ≠ z := nn _ (by rw [p4.2]; show (106 : Nat) ≠ 0; decide)
  have ny : y ≠ z := nn y hy.n0
  obtain ⟨e1, e2, e3, e4, e5, e6⟩ := e a na
  have oa : okO s1 6 a := by unfold okO at o ⊢; rw [e1]; exact o
  have oy : okO s1 5 y := by unfold okO at hy ⊢; rw [(e y ny).1]; exact hy
  have c1 : s1.I 125 a = nI k := (e2 125).trans hc
  have q1 : s1.K (H 121 a) = (138, cp) := (e _ n1).1.trans p1.2
  have q2 : s1.K (H 122 a) = (102, cp) := (e _ n2).1.trans p2.2
  have q3 : s1.K (H 123 a) = (105, cp) := (e _ n3).1.trans p3.2
  have q4 : s1.K (H 124 a) = (106, cp) := (e _ n4).1.trans p4.2
  have oq : okQ s1 (H 121 a) (nI k) := ⟨by rw [q1]; show 130 ≤ 138; decide, by rw [q1]; show 138 < 146; decide, by rw [q1]; exact vp_in_nI hk h31⟩
  have o2 : okA s1 .boolean (H 122 a) (nI k) := ⟨by rw [q2]; show 100 ≤ 102; decide, by rw [q2]; show 102 < 130; decide, by rw [q2]; rfl, by rw [q2]; exact vp_in_nI hk h31⟩
  have o3 : okA s1 .int (H 123 a) (nI k) := ⟨by rw [q3]; show 100 ≤ 105; decide, by rw [q3]; show 105 < 130; decide, by rw [q3]; rfl, by rw [q3]; exact vp_in_nI hk h31⟩
  have o4 : okA s1 .int (H 124 a) (nI k) := ⟨by rw [q4]; show 100 ≤ 106; decide, by rw [q4]; show 106 < 130; decide, by rw [q4]; rfl, by rw [q4]; exact vp_in_nI hk h31⟩
  have hk31 : k < 2 ^ 31 := by omega
  have ck : cAk (s1.K (H 121 a)).1 = 5 := by rw [q1]; show cAk 138 = 5; decide
  refine ⟨_, p1.1, _, gd_to ⟨oq, by rw [ck]; decide, fun b' hb' => by cases hb'; rw [ck]; exact ho⟩, ?_⟩
  rw [nI_clamp hk31]
  refine ⟨_, gd_to oa, _, gd_to oa, _, (e4 121).trans p1.1, _, gd_to (by rw [show (cSQ s1 (H 121 a) k (some z)).I (20 * 6 + 5) a = nI k from c1]; exact oq), ?_⟩
  rw [show (cSQ s1 (H 121 a) k (some z)).I (20 * 6 + 5) a = nI k from c1, nI_clamp hk31, show (cSQ s1 (H 121 a) k (some z)).Q (H 121 a) k = some z by rw [cSQ_s]; exact if_pos rfl]
  refine ⟨_, rfl, ho, w_copy ho oy ?_⟩
  have r1 : (cSQ s1 (H 121 a) k (some z)).I 100 y = f := ((e y ny).2.1 100).trans hp.1
  have r2 : (cSQ s1 (H 121 a) k (some z)).J 101 y = b1 := ((e y ny).2.2.1 101).trans hp.2.1
  have r3 : (cSQ s1 (H 121 a) k (some z)).J 102 y = b2 := ((e y ny).2.2.1 102).trans hp.2.2.1
  have r4 : (cSQ s1 (H 121 a) k (some z)).I 103 y = n := ((e y ny).2.1 103).trans hp.2.2.2
  rw [r1, r2, r3, r4]
  have kq := kq z (cSpf s1 z f b1 b2 n) hz hK (e.tr (exq.si.tr (exq.sj.tr (exq.sj.tr exq.si)))) cSpf_v
  have i0 : (cSpf (cSQ s1 (H 121 a) k (some z)) z f b1 b2 n).I (20 * 6 + 5) a = nI k := (cSpf_o na).trans c1
  refine ⟨_, gd_to oa, _, gd_to oa, _, (e4 122).trans p2.1, _, gd_to (by rw [i0]; exact o2), ?_⟩
  rw [i0, nI_clamp hk31, show vp_nar .boolean pm = pm by rcases hpm with e' | e' <;> rw [e'] <;> rfl]
  refine ⟨_, gd_to oa, _, gd_to oa, _, (e4 123).trans p3.1, _, gd_to (show okA s1 .int (H 123 a) _ from by rw [show (cSE (cSpf (cSQ s1 (H 121 a) k (some z)) z f b1 b2 n) (H 122 a) k pm).I (20 * 6 + 5) a = nI k from i0]; exact o3), ?_⟩
  rw [show (cSE (cSpf (cSQ s1 (H 121 a) k (some z)) z f b1 b2 n) (H 122 a) k pm).I (20 * 6 + 5) a = nI k from i0, nI_clamp hk31]
  refine ⟨_, gd_to oa, _, gd_to oa, _, (e4 124).trans p4.1, _, gd_to (show okA s1 .int (H 124 a) _ from by rw [show (cSE (cSE (cSpf (cSQ s1 (H 121 a) k (some z)) z f b1 b2 n) (H 122 a) k pm) (H 123 a) k le).I (20 * 6 + 5) a = nI k from i0]; exact o4), ?_⟩
  rw [show (cSE (cSE (cSpf (cSQ s1 (H 121 a) k (some z)) z f b1 b2 n) (H 122 a) k pm) (H 123 a) k le).I (20 * 6 + 5) a = nI k from i0, nI_clamp hk31]
  refine ⟨_, gd_to oa, ?_⟩
  rw [show (cSE (cSE (cSE (cSpf (cSQ s1 (H 121 a) k (some z)) z f b1 b2 n) (H 122 a) k pm) (H 123 a) k le) (H 124 a) k mo).I (20 * 6 + 5) a = nI k from i0]
  dsimp only
  rw [nI_1]
  exact ⟨_, gd_to oa, kq⟩
/-- what an entry more leaves -/
theorem plS_f {sP : cS} {a cp k z : Nat} {pm le mo : Int32} (h : isPl H sP a cp) : fr [20, 21, 102, 105, 106] [] [138] sP (plS H sP a k z pm le mo) ∧ (plS H sP a k z pm le mo).K = sP.K ∧ (plS H sP a k z pm le mo).P = sP.P := by
  obtain ⟨o, ha, p1, p2, p3, p4, h31⟩ := h
  refine ⟨?_, rfl, rfl⟩
  unfold plS
  exact ((((fr.sq (by rw [p1.2]; exact (show (138 : Nat) ∈ [138] by decide))).tr (fr.se (by show (sP.K _).1 ∈ _; rw [p2.2]; exact (show (102 : Nat) ∈ [20, 21, 102, 105, 106] by decide)))).tr (fr.se (by show (sP.K _).1 ∈ _; rw [p3.2]; exact (show (105 : Nat) ∈ [20, 21, 102, 105, 106] by decide)))).tr (fr.se (by show (sP.K _).1 ∈ _; rw [p4.2]; exact (show (106 : Nat) ∈ [20, 21, 102, 105, 106] by decide)))).tr (fr.si (by show (sP.K _).1 ∈ _; rcases ha with e | e <;> rw [e] <;> decide))
/-- the entries of the list itself -/
theorem rpl_add {sP : cS} {a cp k z : Nat} {pm le mo f n : Int32} {b1 b2 : Int64} {ff gg per lf mf : Nat → Int32} {hh ll : Nat → Int64} {ff' gg' per' lf' mf' : Nat → Int32} {hh' ll' : Nat → Int64} (hp : isPl H sP a cp) (h : RPl H sP a k ff hh ll gg per lf mf) (hz : (sP.K z).1 = 17) (hP : PF sP z (fam f) b1 b2 n) (e1 : ∀ j, j < k → ff' j = ff j ∧ hh' j = hh j ∧ ll' j = ll j ∧ gg' j = gg j ∧ per' j = per j ∧ lf' j = lf j ∧ mf' j = mf j) (e2 : ff' k = f ∧ hh' k = b1 ∧ ll' k = b2 ∧ gg' k = n ∧ per' k = pm ∧ lf' k = le ∧ mf' k = mo) : RPl H (plS H sP a k z pm le mo) a (k + 1) ff' hh' ll' gg' per' lf' mf' := by
  obtain ⟨o, ha, p1, p2, p3, p4, h31⟩ := hp
  obtain ⟨h1, h2⟩ := h
  have ne : ∀ {b c u v : Nat}, sP.K b = (u, cp) → sP.K c = (v, cp) → u ≠ v → b ≠ c := fun h1 h2 hne e => by
    rw [e, h2] at h1
    exact hne (congrArg Prod.fst h1).symm
  have pf : ∀ {c : Nat} {w1 w4 : Int32} {w2 w3 : Int64}, (sP.K c).1 = 17 → PF sP c w1 w2 w3 w4 → PF (plS H sP a k z pm le mo) c w1 w2 w3 w4 := fun {c w1 w4 w2 w3} hc hp' => by
    have hne : c ≠ a := fun e => by rw [e] at hc; rcases ha with z | z <;> rw [z] at hc <;> exact absurd hc (by decide)
    unfold plS PF
    rw [cSI_o hne, cSI_o hne]
    exact hp'
  have q : ∀ j, (plS H sP a k z pm le mo).Q (H 121 a) j = if j = k then some z else sP.Q (H 121 a) j := fun j => by
    show (cSQ sP (H 121 a) k (some z)).Q (H 121 a) j = _
    rw [cSQ_s]; rfl
  have r2 : ∀ j, (plS H sP a k z pm le mo).E (H 122 a) j = if j = k then pm else sP.E (H 122 a) j := fun j => by
    show (cSE (cSE (cSE (cSQ sP (H 121 a) k (some z)) (H 122 a) k pm) (H 123 a) k le) (H 124 a) k mo).E (H 122 a) j = _
    rw [cSE_a (ne p2.2 p4.2 (by decide)), cSE_a (ne p2.2 p3.2 (by decide)), cSE_s]; rfl
  have r3 : ∀ j, (plS H sP a k z pm le mo).E (H 123 a) j = if j = k then le else sP.E (H 123 a) j := fun j => by
    show (cSE (cSE (cSE (cSQ sP (H 121 a) k (some z)) (H 122 a) k pm) (H 123 a) k le) (H 124 a) k mo).E (H 123 a) j = _
    rw [cSE_a (ne p3.2 p4.2 (by decide)), cSE_s, cSE_a (ne p3.2 p2.2 (by decide))]; rfl
  have r4 : ∀ j, (plS H sP a k z pm le mo).E (H 124 a) j = if j = k then mo else sP.E (H 124 a) j := fun j => by
    show (cSE (cSE (cSE (cSQ sP (H 121 a) k (some z)) (H 122 a) k pm) (H 123 a) k le) (H 124 a) k mo).E (H 124 a) j = _
    rw [cSE_s, cSE_a (ne p4.2 p3.2 (by decide)), cSE_a (ne p4.2 p2.2 (by decide))]; rfl
  refine ⟨cSI_s, fun j hj => ?_⟩
  rw [q, r2, r3, r4]
  by_cases ej : j = k
  · subst ej
    rw [if_pos rfl, if_pos rfl, if_pos rfl, if_pos rfl, e2.1, e2.2.1, e2.2.2.1, e2.2.2.2.1, e2.2.2.2.2.1, e2.2.2.2.2.2.1, e2.2.2.2.2.2.2]
    exact ⟨z, rfl, hz, pf hz hP, rfl, rfl, rfl⟩
  · obtain ⟨y1, y2, y3, y4, y5, y6, y7⟩ := e1 j (by omega)
    rw [if_neg ej, if_neg ej, if_neg ej, if_neg ej, y1, y2, y3, y4, y5, y6, y7]
    obtain ⟨c, c1, c2, c3, c4⟩ := h2 j (by omega)
    exact ⟨c, c1, c2, pf c2 c3, c4⟩
/-- the entries of another list -/
theorem rpl_ne {sP : cS} {a a' cp cp' k z m : Nat} {pm le mo : Int32} {ff gg per lf mf : Nat → Int32} {hh ll : Nat → Int64} (hT : TY cNo H sP) (hp : isPl H sP a cp) (hp' : isPl H sP a' cp') (hne : a' ≠ a) (h : RPl H sP a' m ff hh ll gg per lf mf) : RPl H (plS H sP a k z pm le mo) a' m ff hh ll gg per lf mf := by
  obtain ⟨o, ha, p1, p2, p3, p4, h31⟩ := hp
  obtain ⟨o', ha', p1', p2', p3', p4', h31'⟩ := hp'
  have inj : ∀ g, (tyF 20 g).isSome = true ∧ (tyF 21 g).isSome = true ∧ g ≠ 80 ∧ g ≠ 140 ∧ g ≠ 180 → H g a' ≠ H g a := by
    intro g hg e
    refine hne ?_
    rcases ha with q | q <;> rcases ha' with q' | q'
    · exact hT.i q' q g ⟨hg.1, hg.1, hg.2.2⟩ e
    · exact hT.i q' q g ⟨hg.2.1, hg.1, hg.2.2⟩ e
    · exact hT.i q' q g ⟨hg.1, hg.2.1, hg.2.2⟩ e
    · exact hT.i q' q g ⟨hg.2.1, hg.2.1, hg.2.2⟩ e
  have ne : ∀ {b c u v m n : Nat}, sP.K b = (u, m) → sP.K c = (v, n) → u ≠ v → b ≠ c := fun h1 h2 hne e => by
    rw [e, h2] at h1
    exact hne (congrArg Prod.fst h1).symm
  have pf : ∀ {c : Nat} {w1 w4 : Int32} {w2 w3 : Int64}, (sP.K c).1 = 17 → PF sP c w1 w2 w3 w4 → PF (plS H sP a k z pm le mo) c w1 w2 w3 w4 := fun {c w1 w4 w2 w3} hc hp' => by
    have hne : c ≠ a := fun e => by rw [e] at hc; rcases ha with z | z <;> rw [z] at hc <;> exact absurd hc (by decide)
    unfold plS PF
    rw [cSI_o hne, cSI_o hne]
    exact hp'
  obtain ⟨h1, h2⟩ := h
  have q : (plS H sP a k z pm le mo).Q (H 121 a') = sP.Q (H 121 a') := cSQ_a (inj 121 (by decide))
  have r2 : (plS H sP a k z pm le mo).E (H 122 a') = sP.E (H 122 a') := by
    show (cSE (cSE (cSE (cSQ sP (H 121 a) k (some z)) (H 122 a) k pm) (H 123 a) k le) (H 124 a) k mo).E (H 122 a') = _
    rw [cSE_a (ne p2'.2 p4.2 (by decide)), cSE_a (ne p2'.2 p3.2 (by decide)), cSE_a (inj 122 (by decide))]; rfl
  have r3 : (plS H sP a k z pm le mo).E (H 123 a') = sP.E (H 123 a') := by
    show (cSE (cSE (cSE (cSQ sP (H 121 a) k (some z)) (H 122 a) k pm) (H 123 a) k le) (H 124 a) k mo).E (H 123 a') = _
    rw [cSE_a (ne p3'.2 p4.2 (by decide)), cSE_a (inj 123 (by decide)), cSE_a (ne p3'.2 p2.2 (by decide))]; rfl
  have r4 : (plS H sP a k z pm le mo).E (H 124 a') = sP.E (H 124 a') := by
    show (cSE (cSE (cSE (cSQ sP (H 121 a) k (some z)) (H 122 a) k pm) (H 123 a) k le) (H 124 a) k mo).E (H 124 a') = _
    rw [cSE_a (inj 124 (by decide)), cSE_a (ne p4'.2 p3.2 (by decide)), cSE_a (ne p4'.2 p2.2 (by decide))]; rfl
  refine ⟨?_, fun j hj => ?_⟩
  · show (cSI _ 125 a (nI (k + 1))).I 125 a' = _
    rw [cSI_a hne]; exact h1
  · rw [q, r2, r3, r4]
    obtain ⟨c, c1, c2, c3, c4⟩ := h2 j hj
    exact ⟨c, c1, c2, pf c2 c3, c4⟩
end Pl
