/-! A link more, on both sides. -/
/-- the model with a link more -/
def mLk (t : moS) (n : Nat) (c : Int64) (dl jt mt : Int32) : moS := moSS (moSI (moSI (moSI (moSI (moSJ t 18 n c) 19 n dl) 20 n jt) 21 n mt) 22 n 1) 17 (nI (n + 1))
section La
variable {G H : Nat → Nat → Nat} {sa : Nat → Nat} {x : Nat} {s : cS} {t t' : moS} {n : Nat} {c : Int64} {dl jt mt : Int32}
theorem mLk_e : mfr [17, 18, 19, 20, 21, 22] t (mLk t n c dl jt mt) ∧ (mLk t n c dl jt mt).S 17 = nI (n + 1) ∧ (∀ i, (mLk t n c dl jt mt).J 18 i = if i = n then c else t.J 18 i) ∧ (∀ i, (mLk t n c dl jt mt).I 19 i = if i = n then dl else t.I 19 i) ∧ (∀ i, (mLk t n c dl jt mt).I 20 i = if i = n then jt else t.I 20 i) ∧ (∀ i, (mLk t n c dl jt mt).I 21 i = if i = n then mt else t.I 21 i) ∧ ∀ i, (mLk t n c dl jt mt).I 22 i = if i = n then 1 else t.I 22 i := by
  unfold mLk
  refine ⟨(((((mfr.sj (by decide)).tr (mfr.si (by decide))).tr (mfr.si (by decide))).tr (mfr.si (by decide))).tr (mfr.si (by decide))).tr (mfr.ss (by decide)), ?_, fun i => ?_, fun i => ?_, fun i => ?_, fun i => ?_, fun i => ?_⟩
  · exact moSS_s
  · show (moSJ t 18 n c).J 18 i = _
    rw [moSJ_s]; rfl
  · show (moSI (moSI (moSI (moSI (moSJ t 18 n c) 19 n dl) 20 n jt) 21 n mt) 22 n 1).I 19 i = _
    rw [moSI_n (by decide), moSI_n (by decide), moSI_n (by decide), moSI_s]; rfl
  · show (moSI (moSI (moSI (moSI (moSJ t 18 n c) 19 n dl) 20 n jt) 21 n mt) 22 n 1).I 20 i = _
    rw [moSI_n (by decide), moSI_n (by decide), moSI_s, moSI_n (by decide)]; rfl
  · show (moSI (moSI (moSI (moSI (moSJ t 18 n c) 19 n dl) 20 n jt) 21 n mt) 22 n 1).I 21 i = _
    rw [moSI_n (by decide), moSI_s, moSI_n (by decide), moSI_n (by decide)]; rfl
  · show (moSI (moSI (moSI (moSI (moSJ t 18 n c) 19 n dl) 20 n jt) 21 n mt) 22 n 1).I 22 i = _
    rw [moSI_s, moSI_n (by decide), moSI_n (by decide), moSI_n (by decide)]; rfl
theorem mVr.cl {r : Nat} (h : mVr t r) (m : mfr [17, 18, 19, 20, 21, 22] t t') (hc : cL t ≤ cL t') : mVr t' r := by
  obtain ⟨a1, a2, a3, a4, a5, a6, a7, a8, a9, a10, a11, a12, a13, a14, a15⟩ := h
  have e4 : cI t' r = cI t r := by unfold cI; rw [m.I 70 (by decide)]
  have e2 : cS' t' = cS' t := by unfold cS'; rw [m.S 27 (by decide)]
  have up : ∀ {y : Int32}, (y = -1 ∨ ∃ n, y = nI n ∧ n < cL t) → (y = -1 ∨ ∃ n, y = nI n ∧ n < cL t') := fun h => h.imp_right fun ⟨n, e, hn⟩ => ⟨n, e, by omega⟩
  refine ⟨?_, ?_, ?_, ?_, ?_, ?_, ?_, ?_, ?_, ?_, ?_, ?_, ?_, ?_, ?_⟩
  · rw [m.J 38 (by decide)]; exact a1
  · rw [m.I 39 (by decide)]; exact a2
  · rw [m.I 40 (by decide), m.I 41 (by decide), m.I 42 (by decide)]; exact a3
  · rw [m.I 46 (by decide)]; exact a4
  · rw [m.I 46 (by decide), m.I 47 (by decide), m.I 50 (by decide), m.I 51 (by decide), m.I 52 (by decide)]; exact a5
  · rw [m.I 53 (by decide), m.I 54 (by decide), m.I 57 (by decide), m.I 58 (by decide)]; exact a6
  · rw [e2, m.I 59 (by decide), m.I 60 (by decide), m.I 61 (by decide), m.I 62 (by decide)]
    exact ⟨a7.1, fun k hk => ⟨(a7.2 k hk).1, up (a7.2 k hk).2.1, (a7.2 k hk).2.2⟩⟩
  · rw [e2, m.I 63 (by decide), m.I 64 (by decide), m.I 65 (by decide), m.I 66 (by decide), m.I 67 (by decide)]
    exact ⟨a8.1, fun k hk => ⟨(a8.2 k hk).1, up (a8.2 k hk).2.1, (a8.2 k hk).2.2⟩⟩
  · rw [m.I 68 (by decide), m.I 69 (by decide)]; exact a9
  · rw [m.I 70 (by decide)]; exact a10
  · rw [e4]
    intro p hp
    have := a11 p hp
    unfold mVi at this ⊢
    simp only [m.I 71 (by decide), m.I 72 (by decide), m.J 73 (by decide), m.I 74 (by decide), m.I 75 (by decide), m.I 78 (by decide), m.I 79 (by decide), m.I 80 (by decide), m.I 82 (by decide), m.I 83 (by decide), m.I 84 (by decide), m.I 85 (by decide), m.I 87 (by decide), m.I 88 (by decide), m.I 90 (by decide), m.I 91 (by decide), m.I 94 (by decide), m.I 95 (by decide), m.I 96 (by decide), m.I 99 (by decide), m.I 100 (by decide)]
    exact ⟨this.1, Nat.lt_of_lt_of_le this.2.1 hc, this.2.2⟩
  · rw [e4, m.I 71 (by decide)]; exact a12
  · rw [m.I 105 (by decide)]; exact a13
  · unfold mRw cN cI at a14 ⊢
    rw [m.I 105 (by decide), m.I 106 (by decide), m.I 109 (by decide), m.I 110 (by decide), m.I 111 (by decide), m.I 112 (by decide), m.I 113 (by decide), m.J 114 (by decide), m.J 115 (by decide), m.I 116 (by decide), m.I 119 (by decide), m.I 70 (by decide)]; exact a14
  · unfold mKy cN at a15 ⊢
    rw [m.I 105 (by decide), m.I 106 (by decide), m.J 107 (by decide), m.J 108 (by decide), m.I 109 (by decide)]; exact a15
theorem mv_lk (hM : MV t) (hn : n = cL t) (h10 : n < 10) (hnm : ∃ nm, nmL nm c) (h1 : rng dl 1 5) (h2 : rng jt 0 4) (h3 : rng mt 84 576) : MV (mLk t n c dl jt mt) := by
  obtain ⟨m, e17, e18, e19, e20, e21, e22⟩ := mLk_e (t := t) (n := n) (c := c) (dl := dl) (jt := jt) (mt := mt)
  generalize mLk t n c dl jt mt = t' at m e17 e18 e19 e20 e21 e22
  obtain ⟨⟨z1, z2, z3, z4, z5, z6, z7, z8⟩, b1, b2, b3, ⟨f1, f2, f3, f4, f5, f6⟩, ⟨q1, q2, q3, q4, q5, q6⟩⟩ := id hM
  have ec : cL t' = n + 1 := by unfold cL; rw [e17, nI_clamp (by omega)]
  have e2 : cS' t' = cS' t := by unfold cS'; rw [m.S 27 (by decide)]
  have e3 : cR t' = cR t := by unfold cR; rw [m.S 37 (by decide)]
  have e4 : ∀ r, cI t' r = cI t r := fun r => by unfold cI; rw [m.I 70 (by decide)]
  have ef : cF t' = cF t := by unfold cF; rw [m.S 123 (by decide)]
  refine ⟨⟨z1.fr m rfl, ?_, ?_, ?_, ?_, ⟨n + 1, e17, Nat.zero_le _, by omega⟩, ?_, ?_⟩, ?_, ?_, ?_, ⟨?_, ?_, ?_, ?_, ?_, ?_⟩, ?_, ?_, ?_, ?_, ?_, ?_⟩
  · rw [m.S 1 (by decide)]; exact z2
  · rw [m.S 3 (by decide)]; exact z3
  · rw [m.S 6 (by decide)]; exact z4
  · rw [m.S 6 (by decide), m.2 5 (Or.inl (by decide))]; exact z5
  · rw [m.S 27 (by decide)]; exact z7
  · rw [m.S 37 (by decide)]; exact z8
  · rw [ec]
    intro i hi
    unfold mVl
    rw [e18, e19, e20, e21, e22, m.I 23 (by decide), m.I 24 (by decide), m.I 25 (by decide)]
    by_cases e : i = n
    · subst e
      obtain ⟨w1, w2, w3⟩ := q1 i (by omega) h10
      rw [if_pos rfl, if_pos rfl, if_pos rfl, if_pos rfl, if_pos rfl, w1, w2, w3]
      exact ⟨h1, h2, h3, Or.inr rfl, by decide, by decide, ⟨0, rfl, Nat.le_refl _, by decide⟩, hnm⟩
    · rw [if_neg e, if_neg e, if_neg e, if_neg e, if_neg e]
      exact b1 i (by omega)
  · rw [e2]; exact fun i hi => (b2 i hi).fr m rfl
  · rw [e3]; exact fun r hr => (b3 r hr).cl m (by omega)
  · rw [m.S 123 (by decide)]; exact f1
  · rw [m.I 125 (by decide)]; exact f2
  · rw [ef, m.I 124 (by decide), m.I 125 (by decide)]; exact f3
  · rw [ef, m.I 124 (by decide)]; exact f4
  · rw [ef, m.I 124 (by decide), m.I 125 (by decide)]; exact f5
  · rw [ef, m.I 124 (by decide), m.I 126 (by decide), m.I 127 (by decide), m.I 128 (by decide), m.I 131 (by decide), m.I 137 (by decide), e3, m.I 71 (by decide), ec]
    simp only [e4]
    intro i hi
    obtain ⟨⟨k, y1, y2⟩, y3⟩ := f6 i hi
    exact ⟨⟨k, y1, by omega⟩, y3⟩
  · rw [ec, m.I 23 (by decide), m.I 24 (by decide), m.I 25 (by decide)]
    exact fun i hi h10 => q1 i (by omega) h10
  · rw [e2, m.I 29 (by decide)]; exact q2
  · rw [e3, m.I 46 (by decide), m.I 53 (by decide), m.I 59 (by decide), m.I 63 (by decide), m.I 70 (by decide), m.I 105 (by decide), m.I 45 (by decide)]; exact q3
  · unfold mZi at q4 ⊢
    simp only [e4, m.I 74 (by decide), m.I 75 (by decide), m.I 79 (by decide), m.I 82 (by decide), m.I 89 (by decide), m.I 90 (by decide), m.I 95 (by decide), m.I 99 (by decide), m.I 100 (by decide)]
    exact q4
  · rw [m.S 101 (by decide), m.2 102 (Or.inl (by decide))]; exact q5
  · rw [m.S 101 (by decide), e3, m.I 102 (by decide)]
    simp only [e4]
    exact q6
theorem lk_rr (h : RR G H sa x s t) (hM : MV t) (hn : n = cL t) (h10 : n < 10) {nm : List Int32} {cap : Nat} (kq : (s.K (G 0 n)).1 = 7) (hne : ∀ i, i < n → G 0 i ≠ G 0 n) (p60 : s.P 60 (G 0 n) = some (H 60 (G 0 n))) (tx : isTx sa s (H 60 (G 0 n)) nm) (hnm : nmL nm c) (i1 : s.I 61 (G 0 n) = dl) (i2 : s.I 62 (G 0 n) = jt) (i3 : s.I 63 (G 0 n) = mt) (i4 : s.I 64 (G 0 n) = 1) (i5 : s.I 65 (G 0 n) = 0) (i6 : s.I 66 (G 0 n) = 0) (hcap : cap ≤ 1200) (hbl : BL s (H 67 (G 0 n)) 125 [] cap) : RR G H sa x (cSI (cSQ s (H 226 x) n (some (G 0 n))) 227 x (nI (n + 1))) (mLk t n c dl jt mt) ∧ fr [30] [] [130] s (cSI (cSQ s (H 226 x) n (some (G 0 n))) 227 x (nI (n + 1))) := by
  obtain ⟨m, e17, e18, e19, e20, e21, e22⟩ := mLk_e (t := t) (n := n) (c := c) (dl := dl) (jt := jt) (mt := mt)
  generalize mLk t n c dl jt mt = t' at m e17 e18 e19 e20 e21 e22
  obtain ⟨⟨a, b, c', e, g, i, j⟩, htx⟩ := h.q
  have hT := a.2.1
  have hx := a.1
  have p226 := hT.r hx 226 130 10
  generalize hs' : cSI (cSQ s (H 226 x) n (some (G 0 n))) 227 x (nI (n + 1)) = s'
  have f : fr [30] [] [130] s s' := by
    rw [← hs']
    exact (fr.sq (by rw [p226.2]; decide)).tr (fr.si (by show (s.K x).1 ∈ _; rw [hx]; decide))
  have hK : s'.K = s.K := by rw [← hs']; rfl
  have hP : s'.P = s.P := by rw [← hs']; rfl
  have hg : RGl G H sa x s' := a.v hK hP f rfl rfl rfl
  have ht := hg.2.2.1
  have ec : cL t' = n + 1 := by unfold cL; rw [e17, nI_clamp (by omega)]
  have e2 : cS' t' = cS' t := by unfold cS'; rw [m.S 27 (by decide)]
  have e3 : cR t' = cR t := by unfold cR; rw [m.S 37 (by decide)]
  have e4 : ∀ r, cI t' r = cI t r := fun r => by unfold cI; rw [m.I 70 (by decide)]
  have oI : ∀ g', g' ≠ 227 → s'.I g' x = s.I g' x := fun g' hg' => by rw [← hs', cSI_g hg']; rfl
  have oQ : ∀ k, s'.Q (H 226 x) k = if k = n then some (G 0 n) else s.Q (H 226 x) k := fun k => by
    rw [← hs']
    show (cSQ s (H 226 x) n (some (G 0 n))).Q (H 226 x) k = _
    rw [cSQ_s]; rfl
  refine ⟨RQ.r ⟨hg, ?_, ⟨?_, ?_, ?_, ?_, ?_⟩, ?_, ?_, ?_, j.fr hT hx f m ⟨oI 233 (by decide), oI 235 (by decide)⟩ rfl rfl rfl rfl⟩ (htx.fr hT hx f m rfl rfl rfl), f⟩
  · obtain ⟨y0, y1⟩ := b
    refine ⟨?_, ?_⟩
    · rw [ec]
      intro k k' hk hk' ee
      by_cases c1 : k = n
      · by_cases c2 : k' = n
        · omega
        · rw [c1] at ee
          exact absurd ee.symm (hne k' (by omega))
      · by_cases c2 : k' = n
        · rw [c2] at ee
          exact absurd ee (hne k (by omega))
        · exact y0 k k' (by omega) (by omega) ee
    · unfold cS' cR cI at y1 ⊢
      rw [m.S 27 (by decide), m.S 37 (by decide), m.I 70 (by decide), m.I 46 (by decide)]
      exact y1
  · rw [oI 224 (by decide), m.S 4 (by decide)]; exact c'.1
  · rw [oI 225 (by decide), m.S 1 (by decide)]; exact c'.2.1
  · rw [← hs', cSI_s, e17]
  · rw [oI 229 (by decide), m.S 37 (by decide)]; exact c'.2.2.2.1
  · rw [oI 231 (by decide), m.S 27 (by decide)]; exact c'.2.2.2.2
  · rw [ec]
    intro k hk
    by_cases ek : k = n
    · subst ek
      unfold RLk
      rw [oQ, if_pos rfl, e18, e19, e20, e21, e22, if_pos rfl, if_pos rfl, if_pos rfl, if_pos rfl, if_pos rfl, m.I 23 (by decide), m.I 24 (by decide), m.I 25 (by decide), m.I 26 (by decide), hK, hP]
      obtain ⟨v1, v2, v3⟩ := f.v kq (by decide)
      obtain ⟨w1, w2, w3⟩ := hM.2.2.2.2.2.1 k (by omega) h10
      rw [v1, v1, v1, v1, v1, v1, w1, w2, w3]
      have k67 := (hT.p kq 67 2).2
      exact ⟨⟨kq, rfl⟩, ⟨nm, p60, tx.fr f (by decide) (by decide) (by decide) ht, hnm⟩, ⟨i1, i2, i3, i4, i5, i6⟩, cap, hcap, hbl.fr f k67 (by decide) (by decide) (by decide)⟩
    · obtain ⟨⟨a1, a2⟩, ⟨nm', a3, a4, a5⟩, b', cap', c1, c2⟩ := e k (by omega)
      obtain ⟨v1, v2, v3⟩ := f.v a1 (by decide)
      unfold RLk
      rw [oQ, if_neg ek, e18, e19, e20, e21, e22, if_neg ek, if_neg ek, if_neg ek, if_neg ek, if_neg ek, m.I 23 (by decide), m.I 24 (by decide), m.I 25 (by decide), m.I 26 (by decide), hK, hP, v1, v1, v1, v1, v1, v1]
      exact ⟨⟨a1, a2⟩, ⟨nm', a3, a4.fr f (by decide) (by decide) (by decide) ht, a5⟩, b', cap', c1, c2.fr f (hT.p a1 67 2).2 (by decide) (by decide) (by decide)⟩
  · rw [e2]; exact fun k hk => (g k hk).fr hT hx f ht m rfl rfl rfl rfl
  · rw [e3]
    intro r hr'
    obtain ⟨i1', i2', i3', i4', i5', i6', i7'⟩ := i r hr'
    have hv := hM.r hr'
    refine ⟨i1'.fr hT hx f ht m rfl rfl rfl rfl, i2'.fr hT i1'.1.1 f ((f.v i1'.1.1 (by decide)).1 199) m rfl rfl rfl rfl, i3'.fr hT i1'.1.1 f m rfl rfl rfl rfl, i4'.fr hT i1'.1.1 f m rfl rfl rfl, i5'.fr hT i1'.1.1 f m rfl rfl rfl, i6'.fr hT i1'.1.1 ⟨hv.2.2.2.2.2.2.1.1.n.2.2, hv.2.2.2.2.2.2.2.1.1.n.2.2⟩ f m rfl rfl rfl, ?_⟩
    rw [e4]
    exact fun p hp => (i7' p hp).fr hT i1'.1.1 (hv.i hp).2.2.2.2.2.2.2.2.2.2.1.n.2.2 f m rfl rfl rfl rfl
end La
