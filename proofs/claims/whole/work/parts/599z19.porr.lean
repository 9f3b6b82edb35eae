/-! One interface more, both sides. -/
section Pr
variable {G H : Nat → Nat → Nat} {sa : Nat → Nat} {x r n l : Nat} {s : cS} {t : moS}
theorem rpo_t {t' : moS} {r p : Nat} (h : RPo G H s t r p) (m : mfr [70, 71, 72, 73] t t') (e1 : t'.I 71 (4 * r + p) = t.I 71 (4 * r + p)) (e2 : t'.I 72 (4 * r + p) = t.I 72 (4 * r + p)) (e3 : t'.J 73 (4 * r + p) = t.J 73 (4 * r + p)) : RPo G H s t' r p := by
  unfold RPo RAd RCh RSo msL at h ⊢
  rw [e1, e2, e3, m.I 74 (by decide), m.I 75 (by decide), m.J 76 (by decide), m.J 77 (by decide), m.I 78 (by decide), m.I 79 (by decide), m.I 80 (by decide), m.I 81 (by decide), m.I 82 (by decide), m.I 83 (by decide), m.I 84 (by decide), m.I 85 (by decide), m.I 86 (by decide), m.I 87 (by decide), m.I 88 (by decide), m.I 89 (by decide), m.I 90 (by decide), m.I 91 (by decide), m.J 92 (by decide), m.J 93 (by decide), m.I 94 (by decide), m.I 95 (by decide), m.I 96 (by decide), m.J 97 (by decide), m.J 98 (by decide), m.I 99 (by decide), m.I 100 (by decide), m.S 101 (by decide), m.I 102 (by decide), m.J 103 (by decide), m.J 104 (by decide)]
  exact h
theorem rpo_q {b i : Nat} {v : Option Nat} {p : Nat} (h : RPo G H s t r p) (hT : TY cNo H s) (hb : (s.K b).1 = 139) (hQ : (cSQ s b i v).Q (H 184 (G 1 r)) p = s.Q (H 184 (G 1 r)) p) : RPo G H (cSQ s b i v) t r p := by
  obtain ⟨⟨a1, a2, a3⟩, c1, c2, c3, c4, c5, ⟨d1, d2, d3, d4, d5, d6⟩, c7⟩ := h
  have o : ∀ a, (s.K a).1 ≠ 139 → (cSQ s b i v).Q a = s.Q a := fun a ha => cSQ_a (fun e => ha (by rw [e, hb]))
  have t87 := hT.r a1 87 136 4
  have t91 := hT.r a1 91 137 4
  have t27 := hT.r (hT.p a1 86 4).2 27 142 4
  refine ⟨⟨a1, hQ.trans a2, a3⟩, c1, c2, c3, fun k hk => ?_, fun k hk => ?_, ⟨d1, d2, d3, fun k hk => ?_, d5, d6⟩, c7⟩
  · rw [o _ (by rw [t87.2]; decide)]; exact c4 k hk
  · rw [o _ (by rw [t91.2]; decide)]; exact c5 k hk
  · rw [o _ (by rw [t27.2]; decide)]; exact d4 k hk
theorem rpo_i {g a : Nat} {v : Int32} {p : Nat} (h : RPo G H s t r p) (hT : TY cNo H s) (ha : (s.K a).1 = 26) (hr : (s.K (G 1 r)).1 = 26) (h4 : (t.I 82 (4 * r + p)).toNatClampNeg ≤ 4) : RPo G H (cSI s g a v) t r p := h.fr hT hr h4 (fr.si (Rv := [26]) (Gp := []) (Rq := []) (by rw [ha]; decide)) (mfr.rf (W := [])) rfl rfl rfl rfl
theorem po_rr (h : RR G H sa x s t) (hM : MV t) (hr : r < cR t) (hn : n = cI t r) (h4 : n < 4) (hl : l < cL t) (hN : PoN H s (G 2 (4 * r + n)) (G 0 l) (fun k => G 8 (4 * (4 * r + n) + k))) (f2 : ∀ r' p', r' < cR t → p' < cI t r' → G 2 (4 * r' + p') ≠ G 2 (4 * r + n)) (f8 : ∀ r' p' k k', r' < cR t → p' < cI t r' → k < 4 → k' < 4 → G 8 (4 * (4 * r' + p') + k) ≠ G 8 (4 * (4 * r + n) + k')) (f8' : ∀ k k', k < 4 → k' < 4 → G 8 (4 * (4 * r + n) + k) = G 8 (4 * (4 * r + n) + k') → k = k') : RR G H sa x (cSI (cSQ s (H 184 (G 1 r)) n (some (G 2 (4 * r + n)))) 185 (G 1 r) (nI (n + 1))) (niT t r l) ∧ fr [26] [] [139] s (cSI (cSQ s (H 184 (G 1 r)) n (some (G 2 (4 * r + n)))) 185 (G 1 r) (nI (n + 1))) := by
  have m : mfr [70, 71, 72, 73] t (niT t r l) := (m_newIf (l := l) hM hr (by omega)).2
  have e70 := ni_70 (t := t) (r := r) (l := l)
  have e71 := ni_71 (t := t) (r := r) (l := l)
  have e72 := ni_72 (t := t) (r := r) (l := l)
  have e73 := ni_73 (t := t) (r := r) (l := l)
  have eI := ni_cI (l := l) hM hr
  have hms := ms_ni (l := l) hM hr (by omega)
  rw [← hn] at e70 e71 e72 e73 eI hms
  generalize niT t r l = t' at m e70 e71 e72 e73 eI hms
  obtain ⟨⟨a, b, c', e, g, i, j⟩, htx⟩ := h.q
  have hT := a.2.1
  have hx := a.1
  have hr26 := (i r hr).1.1.1
  have p184 := hT.r hr26 184 139 4
  have f1 : fr [] [] [139] s (cSQ s (H 184 (G 1 r)) n (some (G 2 (4 * r + n)))) := fr.sq (by rw [p184.2]; decide)
  generalize hs1 : cSQ s (H 184 (G 1 r)) n (some (G 2 (4 * r + n))) = s1 at f1
  generalize hs' : cSI s1 185 (G 1 r) (nI (n + 1)) = s'
  have f : fr [26] [] [139] s s' := by
    rw [← hs']
    exact f1.wk.tr (fr.si (by rw [f1.r hr26]; decide))
  have hK : s'.K = s.K := by rw [← hs', ← hs1]; rfl
  have hP : s'.P = s.P := by rw [← hs', ← hs1]; rfl
  have hE : s'.E = s.E := by rw [← hs', ← hs1]; rfl
  have hg : RGl G H sa x s' := a.v hK hP f rfl rfl rfl
  have ht := hg.2.2.1
  have ec : cR t' = cR t := by unfold cR; rw [m.S 37 (by decide)]
  have e1 : cL t' = cL t := by unfold cL; rw [m.S 17 (by decide)]
  have e2 : cS' t' = cS' t := by unfold cS'; rw [m.S 27 (by decide)]
  have oI : ∀ g' b, ¬ (g' = 185 ∧ b = G 1 r) → s'.I g' b = s.I g' b := fun g' b hb => by
    rw [← hs']
    by_cases c1 : b = G 1 r
    · rw [cSI_g (fun e => hb ⟨e, c1⟩), ← hs1]; rfl
    · rw [cSI_o c1, ← hs1]; rfl
  have oQ : ∀ k, s'.Q (H 184 (G 1 r)) k = if k = n then some (G 2 (4 * r + n)) else s.Q (H 184 (G 1 r)) k := fun k => by
    rw [← hs', ← hs1]
    show (cSQ s (H 184 (G 1 r)) n (some (G 2 (4 * r + n)))).Q (H 184 (G 1 r)) k = _
    rw [cSQ_s]; rfl
  have oQa : ∀ b, b ≠ H 184 (G 1 r) → s'.Q b = s.Q b := fun b hb => by
    rw [← hs', ← hs1]
    exact cSQ_a hb
  have r1 : ∀ r', r' < cR t → G 1 r' = G 1 r → r' = r := fun r' hr' ee => b.2.1 r' r hr' hr ee
  have xr : x ≠ G 1 r := fun w => by rw [w, hr26] at hx; exact absurd hx (by decide)
  have h6 := hM.nR
  have hcp : ∀ r' p', r' < cR t → p' < cI t' r' → (r' = r ∧ p' = n) ∨ p' < cI t r' := fun r' p' hr' hp' => by
    rw [eI] at hp'
    by_cases er : r' = r
    · rw [if_pos er] at hp'
      by_cases c1 : p' = n
      · exact Or.inl ⟨er, c1⟩
      · exact Or.inr (by rw [er, ← hn]; omega)
    · rw [if_neg er] at hp'
      exact Or.inr hp'
  refine ⟨RQ.r ⟨hg, ?_, ⟨?_, ?_, ?_, ?_, ?_⟩, ?_, ?_, ?_, j.fr hT hx f m ⟨oI 233 x (by omega), oI 235 x (by omega)⟩ rfl rfl rfl rfl⟩ (htx.fr hT hx f m rfl rfl rfl), f⟩
  · obtain ⟨y0, y1, y2, y3, y4, y5, y6, y7, y8, y9, y10⟩ := b
    refine ⟨by rw [e1]; exact y0, by rw [ec]; exact y1, ?_, by rw [e2]; exact y3, by rw [ec]; exact y4, by rw [ec]; exact y5, by rw [ec]; exact y6, ?_, by rw [ec]; exact y8, by rw [ec]; exact y9, by rw [ec, m.I 46 (by decide)]; exact y10⟩
    · rw [ec]
      intro r1 r2 p1 p2 h1 h2 hp1 hp2 ee
      rcases hcp r1 p1 h1 hp1 with ⟨z1, z2⟩ | z1 <;> rcases hcp r2 p2 h2 hp2 with ⟨z3, z4⟩ | z3
      · omega
      · rw [z1, z2] at ee
        exact absurd ee.symm (f2 r2 p2 h2 z3)
      · rw [z3, z4] at ee
        exact absurd ee (f2 r1 p1 h1 z1)
      · exact y2 r1 r2 p1 p2 h1 h2 z1 z3 ee
    · rw [ec]
      intro r1 p1 k1 r2 p2 k2 h1 h2 hp1 hp2 hk1 hk2 ee
      rcases hcp r1 p1 h1 hp1 with ⟨z1, z2⟩ | z1 <;> rcases hcp r2 p2 h2 hp2 with ⟨z3, z4⟩ | z3
      · rw [z1, z2, z3, z4] at ee
        have := f8' k1 k2 hk1 hk2 ee
        omega
      · rw [z1, z2] at ee
        exact absurd ee.symm (f8 r2 p2 k2 k1 h2 z3 hk2 hk1)
      · rw [z3, z4] at ee
        exact absurd ee (f8 r1 p1 k1 k2 h1 z1 hk1 hk2)
      · exact y7 r1 p1 k1 r2 p2 k2 h1 h2 z1 z3 hk1 hk2 ee
  · rw [oI _ _ (by omega), m.S 4 (by decide)]; exact c'.1
  · rw [oI _ _ (by omega), m.S 1 (by decide)]; exact c'.2.1
  · rw [oI _ _ (by omega), m.S 17 (by decide)]; exact c'.2.2.1
  · rw [oI _ _ (by omega), m.S 37 (by decide)]; exact c'.2.2.2.1
  · rw [oI _ _ (by omega), m.S 27 (by decide)]; exact c'.2.2.2.2
  · rw [e1]
    exact fun k hk => (e k hk).fr hT hx f ht m rfl rfl rfl rfl
  · rw [e2]
    exact fun k hk => (g k hk).fr hT hx f ht m rfl rfl rfl rfl
  · rw [ec]
    intro r' hr'
    obtain ⟨i1', i2', i3', i4', i5', i6', i7'⟩ := i r' hr'
    have hv := hM.r hr'
    refine ⟨?_, i2'.fr hT i1'.1.1 f (oI _ _ (by omega)) m rfl rfl rfl rfl, i3'.fr hT i1'.1.1 f m rfl rfl rfl rfl, i4'.fr hT i1'.1.1 f m rfl rfl rfl, i5'.fr hT i1'.1.1 f m rfl rfl rfl, ?_, ?_⟩
    · obtain ⟨⟨y1, y2, y3⟩, ⟨nm', y4, y5, y6⟩, ⟨u1, u2, u3, u4, u5⟩, y8, y9⟩ := i1'
      have k131 := hT.r hx 228 131 6
      refine ⟨⟨by rw [hK]; exact y1, ?_, y3⟩, ⟨nm', by rw [hP]; exact y4, y5.fr f (by decide) (by decide) (by decide) ht, by rw [m.J 38 (by decide)]; exact y6⟩, ⟨?_, ?_, ?_, ?_, ?_⟩, ?_, ?_⟩
      · rw [oQa _ (fun w => by rw [w, p184.2] at k131; exact absurd (congrArg Prod.fst k131.2) (show ¬ (139 : Nat) = 131 by decide))]; exact y2
      · rw [oI _ _ (by omega)]; exact u1
      · rw [oI _ _ (by omega), m.I 39 (by decide)]; exact u2
      · by_cases er : r' = r
        · rw [er, e70, if_pos rfl, ← hs', cSI_s]
        · rw [oI _ _ (fun z => er (r1 r' hr' z.2)), e70, if_neg er]; exact u3
      · rw [oI _ _ (by omega), m.I 43 (by decide)]; exact u4
      · rw [oI _ _ (by omega), m.I 44 (by decide)]; exact u5
      · rw [hE, m.I 40 (by decide), m.I 41 (by decide), m.I 42 (by decide)]; exact y8
      · rw [hE, m.I 45 (by decide)]; exact y9
    · obtain ⟨w1, w2, w3, w4, w5⟩ := i6'.fr hT i1'.1.1 ⟨hv.2.2.2.2.2.2.1.1.n.2.2, hv.2.2.2.2.2.2.2.1.1.n.2.2⟩ f1 m rfl rfl rfl
      have s1E : s'.E = s1.E := by rw [← hs']; rfl
      have s1Q : s'.Q = s1.Q := by rw [← hs']; rfl
      have s1K : s'.K = s1.K := by rw [← hs']; rfl
      have s1I : ∀ g' b, g' ≠ 185 → s'.I g' b = s1.I g' b := fun g' b hb => by rw [← hs', cSI_g hb]
      unfold RPy
      rw [s1E, s1Q, s1K, s1I _ _ (by decide), s1I _ _ (by decide)]
      exact ⟨w1, w2, w3, w4, w5⟩
    · intro p hp
      rcases hcp r' p hr' hp with ⟨er, ep⟩ | hp
      · rw [er, ep]
        have hl31 : l < 2 ^ 31 := by
          have : cL t ≤ 10 := hM.1.2.2.2.2.2.1.n.2.2
          omega
        obtain ⟨⟨N1, N2, N3, N4⟩, N5, ⟨N6, N7, N8, N9⟩, w1, w2, N10, N11, N12, N13⟩ := hN
        have k8 : (s'.K (G 2 (4 * r + n))).1 = 8 := by rw [hK]; exact N1
        have ch := hT.p N1 86 4
        have k27 := hT.r ch.2 27 142 4
        have nr : G 2 (4 * r + n) ≠ G 1 r := fun w => by rw [w, hr26] at N1; exact absurd N1 (by decide)
        have nc : H 86 (G 2 (4 * r + n)) ≠ G 1 r := fun w => by have := ch.2; rw [w, hr26] at this; exact absurd this (by decide)
        refine po_new (rows := fun k => G 8 (4 * (4 * r + n) + k)) ⟨⟨k8, N2, by rw [hP]; exact N3, by rw [hP]; exact N4⟩, ?_, ⟨?_, ?_, ?_, fun k hk => ?_⟩, w1, w2, ?_, ?_, ?_, ?_⟩ rfl (fun k hk => rfl) hl31 rfl ?_ ?_ ?_ ?_ hms.2 hms.1
        · rw [oI _ _ (fun z => nr z.2), oI _ _ (fun z => nr z.2), oI _ _ (fun z => nr z.2), oI _ _ (fun z => nr z.2), oI _ _ (fun z => nr z.2), oI _ _ (fun z => nr z.2), oI _ _ (fun z => nr z.2), oI _ _ (fun z => nr z.2), oI _ _ (fun z => nr z.2)]
          exact N5
        · rw [oI _ _ (fun z => nc z.2)]; exact N6
        · rw [oI _ _ (fun z => nc z.2)]; exact N7
        · rw [hP]; exact N8
        · rw [oQa _ (fun w => by have := k27.2; rw [w, p184.2] at this; exact absurd (congrArg Prod.fst this) (show ¬ (139 : Nat) = 142 by decide)), hK]
          exact N9 k hk
        · rw [hP]; exact N10
        · rw [hP]; exact N11
        · rw [hK]; exact N12
        · rw [hK]; exact N13
        · rw [oQ, if_pos rfl]
        · rw [e71, if_pos rfl]
        · rw [e72, if_pos rfl]
        · rw [e73, if_pos rfl]
      · have hP4 := hM.nIf hr'
        have ne : 4 * r' + p ≠ 4 * r + n := fun z => by
          have : r' = r := by omega
          subst this
          omega
        have h1 := rpo_q (b := H 184 (G 1 r)) (i := n) (v := some (G 2 (4 * r + n))) (i7' p hp) hT (by rw [p184.2]) (by
          by_cases er : r' = r
          · subst er
            rw [cSQ_s]
            exact if_neg (by omega)
          · rw [cSQ_a (fun w => er (r1 r' hr' (hT.i i1'.1.1 hr26 184 (by decide) w)))])
        rw [hs1] at h1
        have hT1 : TY cNo H s1 := (a.v (s' := s1) (by rw [← hs1]; rfl) (by rw [← hs1]; rfl) f1 rfl rfl rfl).2.1
        have h2 := rpo_i (g := 185) (a := G 1 r) (v := nI (n + 1)) h1 hT1 (f1.r hr26) (f1.r i1'.1.1) (hv.i hp).2.2.2.2.2.2.2.2.2.2.1.n.2.2
        rw [hs'] at h2
        exact rpo_t h2 m (by rw [e71, if_neg ne]) (by rw [e72, if_neg ne]) (by rw [e73, if_neg ne])
end Pr
