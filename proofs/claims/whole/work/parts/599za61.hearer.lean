/-! Who hears a datagram: both sides. -/
/-- a datagram that was taken off its link -/
def HD (G H : Nat → Nat → Nat) (s : cS) (A : Nat) (L : List Int32) (f : Nat) (h l : Int64) (po ho : Int32) (lk : Nat) (fm ta : Int32) (th tl : Int64) : Prop := HE H s A L f h l po ho ∧ s.P 47 A = (if fm = -1 then none else some (G 1 (fm.toNatClampNeg / 4))) ∧ s.P 48 A = some (G 0 lk) ∧ s.I 43 A = ta ∧ (ta = 0 → s.I 100 (H 42 A) = fam (nI f) ∧ s.J 101 (H 42 A) = th ∧ s.J 102 (H 42 A) = tl)
/-- whose it is, and where it came from -/
def HT (t : moS) (E : List (Int32 × Int64)) (f : Nat) (h : Int64) (lk : Nat) (fm ta : Int32) : Prop := lk < cL t ∧ (fm = -1 ∨ ∃ r p, r < cR t ∧ p < cI t r ∧ fm = nI (4 * r + p) ∧ t.I 71 (4 * r + p) = nI lk) ∧ bit ta ∧ (f = 0 → sIn E t (nI lk) h)
/-- a router that does not hear it -/
def hrN (t : moS) (r lk : Nat) (fm : Int32) (f : Nat) (ta : Int32) (th tl : Int64) : Prop := t.I 39 r = 0 ∨ ifF' (t.I 71) (nI lk) (cI t r) (4 * r) = none ∨ ∃ p, p < cI t r ∧ ifF' (t.I 71) (nI lk) (cI t r) (4 * r) = some (4 * r + p) ∧ (fm = nI (4 * r + p) ∨ t.I 75 (2 * (4 * r + p) + f) = 0 ∨ ta = 0 ∧ ¬ (t.J 76 (2 * (4 * r + p) + f) = th ∧ t.J 77 (2 * (4 * r + p) + f) = tl))
/-- one that does, on an interface -/
def hrY (t : moS) (r p lk : Nat) (fm : Int32) (f : Nat) (ta : Int32) (th tl : Int64) : Prop := t.I 39 r ≠ 0 ∧ p < cI t r ∧ ifF' (t.I 71) (nI lk) (cI t r) (4 * r) = some (4 * r + p) ∧ fm ≠ nI (4 * r + p) ∧ t.I 75 (2 * (4 * r + p) + f) ≠ 0 ∧ ¬ (ta = 0 ∧ ¬ (t.J 76 (2 * (4 * r + p) + f) = th ∧ t.J 77 (2 * (4 * r + p) + f) = tl))
section Hq
variable {G H G' H' : Nat → Nat → Nat} {sa : Nat → Nat} {x kc ks r p A f lk : Nat} {s s' : cS} {t t' : moS} {po ho fm ta : Int32} {h l th tl : Int64} {L : List Int32} {E : List (Int32 × Int64)}
theorem HD.hx (a : HD G H s A L f h l po ho lk fm ta th tl) (b : hdX H A s s') (kA : (s'.K A).1 = 6) (e0 : G' 0 = G 0) (e1 : G' 1 = G 1) (hh : hA H H' s) : HD G' H' s' A L f h l po ho lk fm ta th tl := by
  obtain ⟨a1, a2, a3, a4, a5⟩ := a
  have e : ∀ g, H' g A = H g A := fun g => hh g A (by rw [a1.1]; decide)
  refine ⟨(a1.hx b kA).hA hh (by rw [a1.1]; decide), ?_, ?_, ?_, fun z => ?_⟩
  · rw [b.2.1, e1]; exact a2
  · rw [b.2.1, e0]; exact a3
  · rw [b.1 43 (by decide) (by decide)]; exact a4
  · rw [e, b.2.2.2.1.1, b.2.2.2.1.2, b.2.2.2.1.2]; exact a5 z
theorem HT.fr {W : List Nat} (a : HT t E f h lk fm ta) (m : mfr W t t') (d : dj [17, 37, 70, 71, 75, 76] W) : HT t' E f h lk fm ta := by
  obtain ⟨a1, a2, a3, a4⟩ := a
  refine ⟨by unfold cL; rw [m.S 17 (d.n 17)]; exact a1, ?_, a3, fun z => (a4 z).fr m ?_⟩
  · unfold cR cI
    rw [m.S 37 (d.n 37), m.I 70 (d.n 70), m.I 71 (d.n 71)]
    exact a2
  · have h1 := d.n 71
    have h2 := d.n 75
    have h3 := d.n 76
    unfold dj
    simp only [List.all_cons, List.all_nil, Bool.and_true, Bool.and_eq_true, Bool.not_eq_true', List.contains_eq_mem, decide_eq_false_iff_not]
    exact ⟨h1, h2, h3⟩
/-- what the model does -/
theorem m_arr (hM : MV t) (hr : r < cR t) (hf : f = 0 ∨ f = 1) (hta : bit ta) : (hrN t r lk fm f ta th tl → M_arrive_s154 t (nI lk) (nI f) fm ta th tl h l po ho (nI r) = some (.inl (nI (r + 1), t))) ∧ (hrY t r p lk fm f ta th tl → M_arrive_s154 t (nI lk) (nI f) fm ta th tl h l po ho (nI r) = Option.bind (M_receive t (nI (4 * r + p)) (nI f) h l po ho) (fun s1 => if ta = 0 then xo (some s1) else some (.inl (nI (r + 1), s1)))) := by
  have h6 := hM.nR
  have h4 := hM.nIf hr
  have hN := hM.1.1
  have e37 : t.S 37 = nI (cR t) := hM.1.2.2.2.2.2.2.2.n.1
  have lt : nI r < t.S 37 := by rw [e37]; exact nI_lt hr (by omega)
  have r39 : rdI t 39 (nI r) = some (t.I 39 r) := rdI_n (n := 6) (hN.n 39 6) (by omega) (by decide)
  have skip : M_arrive_b295 t (nI lk) (nI f) fm ta th tl h l po ho (nI r) = some (.inl (nI (r + 1), t)) := by
    unfold M_arrive_b295
    rw [nI_1]
  have head : M_arrive_s154 t (nI lk) (nI f) fm ta th tl h l po ho (nI r) = if t.I 39 r = 0 then M_arrive_b184 t (nI lk) (nI f) fm ta th tl h l po ho (nI r) (-1) else M_arrive_b184 t (nI lk) (nI f) fm ta th tl h l po ho (nI r) (oI (ifF' (t.I 71) (nI lk) (cI t r) (4 * r))) := by
    unfold M_arrive_s154
    rw [if_pos lt, r39]
    simp only [Option.bind_some]
    rw [m_interfaceTo hM hr]
    rfl
  have b184 : ∀ p, p < cI t r → M_arrive_b184 t (nI lk) (nI f) fm ta th tl h l po ho (nI r) (nI (4 * r + p)) = if nI (4 * r + p) = fm then some (.inl (nI (r + 1), t)) else if t.I 75 (2 * (4 * r + p) + f) = 0 then some (.inl (nI (r + 1), t)) else if ta = 0 ∧ ¬ (t.J 76 (2 * (4 * r + p) + f) = th ∧ t.J 77 (2 * (4 * r + p) + f) = tl) then some (.inl (nI (r + 1), t)) else Option.bind (M_receive t (nI (4 * r + p)) (nI f) h l po ho) (fun s1 => if ta = 0 then xo (some s1) else some (.inl (nI (r + 1), s1))) := fun p hp => by
    have e2 : (2 : Int32) * nI (4 * r + p) + nI f = nI (2 * (4 * r + p) + f) := by rw [show (2 : Int32) = nI 2 from rfl, pk_mul, nI_add]
    have hx : 2 * (4 * r + p) + f < 48 := by omega
    have b273 : M_arrive_b273 t (nI lk) (nI f) fm ta th tl h l po ho (nI r) (nI (4 * r + p)) = Option.bind (M_receive t (nI (4 * r + p)) (nI f) h l po ho) (fun s1 => if ta = 0 then xo (some s1) else some (.inl (nI (r + 1), s1))) := by
      unfold M_arrive_b273 M_arrive_b295
      rw [nI_1]
    have b258 : ∀ u : Int32, M_arrive_b258 t (nI lk) (nI f) fm ta th tl h l po ho (nI r) (nI (4 * r + p)) u = if ta = 0 ∧ u = 0 then some (.inl (nI (r + 1), t)) else Option.bind (M_receive t (nI (4 * r + p)) (nI f) h l po ho) (fun s1 => if ta = 0 then xo (some s1) else some (.inl (nI (r + 1), s1))) := fun u => by
      unfold M_arrive_b258
      rw [skip, b273]
      by_cases c1 : ta = 0
      · rw [if_pos c1]
        by_cases c2 : u = 0
        · rw [if_pos c2, if_pos ⟨c1, c2⟩]
        · rw [if_neg c2, if_neg (fun z => c2 z.2)]
      · rw [if_neg c1, if_neg (fun z => c1 z.1)]
    unfold M_arrive_b184
    rw [if_neg (nI_ne (show 4 * r + p < 16200 by omega)), skip]
    by_cases c1 : nI (4 * r + p) = fm
    · rw [if_pos c1, if_pos c1]
    rw [if_neg c1, if_neg c1, e2, rdI_n (n := 48) (hN.n 75 48) hx (by decide)]
    simp only [Option.bind_some]
    by_cases c2 : t.I 75 (2 * (4 * r + p) + f) = 0
    · rw [if_pos c2, if_pos c2]
    rw [if_neg c2, if_neg c2, rdJ_n (n := 48) (hN.n 76 48) hx (by decide), rdJ_n (n := 48) (hN.n 77 48) hx (by decide)]
    simp only [Option.bind_some]
    unfold M_arrive_b257
    rw [b258, b258]
    by_cases c3 : t.J 76 (2 * (4 * r + p) + f) = th
    · rw [if_pos c3]
      by_cases c4 : t.J 77 (2 * (4 * r + p) + f) = tl
      · rw [if_pos c4, if_neg (fun z => absurd z.2 (by decide)), if_neg (fun z => z.2 ⟨c3, c4⟩)]
      · rw [if_neg c4]
        by_cases c5 : ta = 0
        · rw [if_pos ⟨c5, rfl⟩, if_pos ⟨c5, fun z => c4 z.2⟩]
        · rw [if_neg (fun z => c5 z.1), if_neg (fun z => c5 z.1)]
    · rw [if_neg c3]
      by_cases c5 : ta = 0
      · rw [if_pos ⟨c5, rfl⟩, if_pos ⟨c5, fun z => c3 z.1⟩]
      · rw [if_neg (fun z => c5 z.1), if_neg (fun z => c5 z.1)]
  have b1 : M_arrive_b184 t (nI lk) (nI f) fm ta th tl h l po ho (nI r) (-1) = some (.inl (nI (r + 1), t)) := by
    unfold M_arrive_b184
    rw [if_pos rfl]
    exact skip
  rw [head]
  constructor
  · rintro (c | c | ⟨p, hp, e, c⟩)
    · rw [if_pos c, b1]
    · rw [c]
      show (if t.I 39 r = 0 then M_arrive_b184 t (nI lk) (nI f) fm ta th tl h l po ho (nI r) (-1) else M_arrive_b184 t (nI lk) (nI f) fm ta th tl h l po ho (nI r) (-1)) = _
      rw [b1]
      split <;> rfl
    · rw [e, b1]
      show (if t.I 39 r = 0 then _ else M_arrive_b184 t (nI lk) (nI f) fm ta th tl h l po ho (nI r) (nI (4 * r + p))) = _
      rw [b184 p hp]
      split
      · rfl
      rcases c with c | c | c
      · rw [if_pos c.symm]
      · by_cases c1 : nI (4 * r + p) = fm
        · rw [if_pos c1]
        · rw [if_neg c1, if_pos c]
      · by_cases c1 : nI (4 * r + p) = fm
        · rw [if_pos c1]
        · rw [if_neg c1]
          by_cases c2 : t.I 75 (2 * (4 * r + p) + f) = 0
          · rw [if_pos c2]
          · rw [if_neg c2, if_pos c]
  · rintro ⟨c1, hp, e, c2, c3, c4⟩
    rw [if_neg c1, e]
    show M_arrive_b184 t (nI lk) (nI f) fm ta th tl h l po ho (nI r) (nI (4 * r + p)) = _
    rw [b184 p hp, if_neg (fun z => c2 z.symm), if_neg c3, if_neg c4]
/-- what the class does -/
theorem w_hearer {Q : Option Nat → cS → Nat → Nat → Prop} (hR : RR G H sa x s t) (hM : MV t) (hr : r < cR t) (hD : HD G H s A L f h l po ho lk fm ta th tl) (hT' : HT t E f h lk fm ta) (k0 : hrN t r lk fm f ta th tl → Q none s kc ks) (k1 : ∀ p, hrY t r p lk fm f ta th tl → Q (some (G 2 (4 * r + p))) s kc ks) : C_Rr_hearer sa (G 1 r) (some A) s kc ks Q := by
  have h6 := hM.nR
  have h4 := hM.nIf hr
  have hq := hR.q.1
  have hT := hq.ty
  have k26 := (hq.rt hr).1.1
  obtain ⟨⟨kA, hb, hPF, ⟨i44, -, -⟩, hf⟩, p47, p48, i43, i42⟩ := hD
  obtain ⟨hlk, hfm, hta, -⟩ := hT'
  have i183 : s.I 183 (G 1 r) = t.I 39 r := (hq.rt hr).2.2.1.2.1
  have oA := okr kA 2
  unfold C_Rr_hearer
  refine ⟨_, gd_to (okr k26 9), ?_⟩
  rw [show s.I (20 * 9 + 3) (G 1 r) = t.I 39 r from i183]
  by_cases c0 : t.I 39 r = 0
  · exact ifT c0 (k0 (Or.inl c0))
  refine ifF c0 ⟨A, rfl, _, gd_to oA, ?_⟩
  rw [show s.P (20 * 2 + 7) A = _ from p47]
  -- it has sent it itself
  by_cases c1 : (if fm = -1 then none else some (G 1 (fm.toNatClampNeg / 4))) = some (G 1 r)
  · refine ifT c1 (k0 ?_)
    rcases hfm with e | ⟨r', p', hr', hp', e, e71⟩
    · rw [if_pos e] at c1; cases c1
    · have h4' := hM.nIf hr'
      have ecl : fm.toNatClampNeg / 4 = r' := by rw [e, nI_clamp (by omega)]; omega
      rw [if_neg (fun z => oI_n1 (4 * r' + p') (by omega) (e.symm.trans z)), ecl] at c1
      have er : r' = r := hq.2.1.2.1 r' r hr' hr (Option.some.inj c1)
      subst er
      cases ef : ifF' (t.I 71) (nI lk) (cI t r') (4 * r') with
      | none => exact Or.inr (Or.inl ef)
      | some q =>
        obtain ⟨q1, q2, q3⟩ := ifF_s ef
        refine Or.inr (Or.inr ⟨q - 4 * r', by omega, by rw [ef]; congr 1; omega, Or.inl ?_⟩)
        have : p' = q - 4 * r' := by
          have di := (hM.r hr').2.2.2.2.2.2.2.2.2.2.2.1
          rcases Nat.lt_trichotomy p' (q - 4 * r') with c | c | c
          · exact absurd (by rw [e71, show 4 * r' + (q - 4 * r') = q by omega, q3]) (di p' (q - 4 * r') c (by omega))
          · exact c
          · exact absurd (by rw [e71, show 4 * r' + (q - 4 * r') = q by omega, q3]) (di (q - 4 * r') p' c hp')
        rw [e, this]
  refine ifF c1 ⟨_, gd_to oA, okr k26 9, ?_⟩
  rw [show s.P (20 * 2 + 8) A = some (G 0 lk) from p48]
  refine w_portOn hq hM hr hlk ?_
  cases ef : ifF' (t.I 71) (nI lk) (cI t r) (4 * r) with
  | none =>
    refine ifT rfl ?_
    unfold C_Rr_hearer_b42
    exact ifT rfl (k0 (Or.inr (Or.inl ef)))
  | some q =>
    obtain ⟨q1, q2, q3⟩ := ifF_s ef
    obtain ⟨p, hp, rfl⟩ : ∃ p, p < cI t r ∧ q = 4 * r + p := ⟨q - 4 * r, by omega, by omega⟩
    have hpo := hq.po hr hp
    have oP := okr hpo.1.1 4
    have nfm : fm ≠ nI (4 * r + p) := fun z => c1 (by
      have ecl : fm.toNatClampNeg / 4 = r := by rw [z, nI_clamp (by omega)]; omega
      rw [if_neg (fun y => oI_n1 (4 * r + p) (by omega) (z.symm.trans y)), ecl])
    refine ifF (by simp) ⟨_, gd_to oA, _, rfl, oP, ?_⟩
    rw [show s.I (20 * 2 + 4) A = fam (nI f) from i44]
    refine w_adOf hf oP ?_
    have had : RAd G s t (4 * r + p) f := by
      rcases hf with rfl | rfl
      · exact hpo.2.1
      · exact hpo.2.2.1
    unfold C_Rr_hearer_b42
    rcases had with ⟨z75, hpn⟩ | ⟨z75, pr, hps, k14, q1', q2', q3', -⟩
    · rw [hpn]
      exact ifT rfl (k0 (Or.inr (Or.inr ⟨p, hp, ef, Or.inr (Or.inl z75)⟩)))
    rw [hps]
    have n75 : t.I 75 (2 * (4 * r + p) + f) ≠ 0 := by rw [z75]; decide
    refine ifF (by simp) ⟨A, rfl, _, gd_to oA, ?_⟩
    rw [show s.I (20 * 2 + 3) A = ta from i43]
    by_cases c2 : ta = 0
    · obtain ⟨g1, g2, g3⟩ := i42 c2
      have p42 := hT.p kA 42 13
      refine ifT c2 ⟨_, gd_to oA, pr, rfl, okr k14 5, ?_⟩
      rw [show s.P (20 * 2 + 2) A = some (H 42 A) from p42.1]
      refine w_same (okr k14 5) (okr p42.2 5) (fun d => ifT rfl (k0 (Or.inr (Or.inr ⟨p, hp, ef, Or.inr (Or.inr ⟨c2, fun y => d ?_⟩)⟩)))) (fun d => ifF (by decide) (k1 p ⟨c0, hp, ef, nfm, n75, fun y => y.2 ?_⟩))
      · rw [q1', q2', q3', g1, g2, g3]
        exact ⟨rfl, y.1, y.2⟩
      · rw [q1', q2', q3', g1, g2, g3] at d
        exact d.2
    · exact ifF c2 (k1 p ⟨c0, hp, ef, nfm, n75, fun y => c2 y.1⟩)
end Hq
