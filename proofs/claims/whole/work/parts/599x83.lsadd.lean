/-! A list more; an entry more of a list. -/
def mLs (t : moS) (n : Nat) (c : Int64) : moS := moSS (moSJ t 28 n c) 27 (nI (n + 1))
def mLe (t : moS) (i k : Nat) (pm f n ge le : Int32) (a b : Int64) : moS := moSI (moSI (moSI (moSJ (moSJ (moSI (moSI (moSI t 29 i (nI (k + 1))) 30 (16 * i + k) pm) 31 (16 * i + k) f) 32 (16 * i + k) a) 33 (16 * i + k) b) 34 (16 * i + k) n) 35 (16 * i + k) ge) 36 (16 * i + k) le
section Lt
variable {G H : Nat → Nat → Nat} {sa : Nat → Nat} {x : Nat} {s : cS} {t t' : moS} {n : Nat} {c : Int64}
theorem mLs_e : mfr [27, 28] t (mLs t n c) ∧ (mLs t n c).S 27 = nI (n + 1) ∧ ∀ i, (mLs t n c).J 28 i = if i = n then c else t.J 28 i := by
  unfold mLs
  refine ⟨(mfr.sj (by decide)).tr (mfr.ss (by decide)), moSS_s, fun i => ?_⟩
  show (moSJ t 28 n c).J 28 i = _
  rw [moSJ_s]; rfl
theorem mVr.cs {r : Nat} (h : mVr t r) (m : mfr [27, 28] t t') (hc : cS' t ≤ cS' t') : mVr t' r := by
  obtain ⟨a1, a2, a3, a4, a5, a6, a7, a8, a9, a10, a11, a12, a13, a14, a15⟩ := h
  have e4 : cI t' r = cI t r := by unfold cI; rw [m.I 70 (by decide)]
  have e1 : cL t' = cL t := by unfold cL; rw [m.S 17 (by decide)]
  have up : ∀ {y : Int32}, (∃ n, y = nI n ∧ n < cS' t) → ∃ n, y = nI n ∧ n < cS' t' := fun ⟨n, e, hn⟩ => ⟨n, e, by omega⟩
  refine ⟨?_, ?_, ?_, ?_, ?_, ?_, ?_, ?_, ?_, ?_, ?_, ?_, ?_, ?_, ?_⟩
  · rw [m.J 38 (by decide)]; exact a1
  · rw [m.I 39 (by decide)]; exact a2
  · rw [m.I 40 (by decide), m.I 41 (by decide), m.I 42 (by decide)]; exact a3
  · rw [m.I 46 (by decide)]; exact a4
  · rw [m.I 46 (by decide), m.I 47 (by decide), m.I 50 (by decide), m.I 51 (by decide), m.I 52 (by decide)]; exact a5
  · rw [m.I 53 (by decide), m.I 54 (by decide), m.I 57 (by decide), m.I 58 (by decide)]; exact a6
  · rw [e1, m.I 59 (by decide), m.I 60 (by decide), m.I 61 (by decide), m.I 62 (by decide)]
    exact ⟨a7.1, fun k hk => ⟨(a7.2 k hk).1, (a7.2 k hk).2.1, up (a7.2 k hk).2.2⟩⟩
  · rw [e1, m.I 63 (by decide), m.I 64 (by decide), m.I 65 (by decide), m.I 66 (by decide), m.I 67 (by decide)]
    exact ⟨a8.1, fun k hk => ⟨(a8.2 k hk).1, (a8.2 k hk).2.1, up (a8.2 k hk).2.2.1, (a8.2 k hk).2.2.2⟩⟩
  · rw [m.I 68 (by decide), m.I 69 (by decide)]; exact a9
  · rw [m.I 70 (by decide)]; exact a10
  · rw [e4]
    intro p hp
    have := a11 p hp
    unfold mVi cL at this ⊢
    simp only [m.I 71 (by decide), m.S 17 (by decide), m.I 72 (by decide), m.J 73 (by decide), m.I 74 (by decide), m.I 75 (by decide), m.I 78 (by decide), m.I 79 (by decide), m.I 80 (by decide), m.I 82 (by decide), m.I 83 (by decide), m.I 84 (by decide), m.I 85 (by decide), m.I 87 (by decide), m.I 88 (by decide), m.I 90 (by decide), m.I 91 (by decide), m.I 94 (by decide), m.I 95 (by decide), m.I 96 (by decide), m.I 99 (by decide), m.I 100 (by decide)]
    exact this
  · rw [e4, m.I 71 (by decide)]; exact a12
  · rw [m.I 105 (by decide)]; exact a13
  · unfold mRw cN cI at a14 ⊢
    rw [m.I 105 (by decide), m.I 106 (by decide), m.I 109 (by decide), m.I 110 (by decide), m.I 111 (by decide), m.I 112 (by decide), m.I 113 (by decide), m.J 114 (by decide), m.J 115 (by decide), m.I 116 (by decide), m.I 119 (by decide), m.I 70 (by decide)]; exact a14
  · unfold mKy cN at a15 ⊢
    rw [m.I 105 (by decide), m.I 106 (by decide), m.J 107 (by decide), m.J 108 (by decide), m.I 109 (by decide)]; exact a15
theorem mv_ls (hM : MV t) (hn : n = cS' t) (h8 : n < 8) (hnm : ∃ nm, nmL nm c) : MV (mLs t n c) := by
  obtain ⟨m, e27, e28⟩ := mLs_e (t := t) (n := n) (c := c)
  generalize mLs t n c = t' at m e27 e28
  obtain ⟨⟨z1, z2, z3, z4, z5, z6, z7, z8⟩, b1, b2, b3, b4, ⟨q1, q2, q3, q4, q5, q6⟩⟩ := id hM
  have ec : cS' t' = n + 1 := by unfold cS'; rw [e27, nI_clamp (by omega)]
  have e1 : cL t' = cL t := by unfold cL; rw [m.S 17 (by decide)]
  have e3 : cR t' = cR t := by unfold cR; rw [m.S 37 (by decide)]
  have e4 : ∀ r, cI t' r = cI t r := fun r => by unfold cI; rw [m.I 70 (by decide)]
  refine ⟨⟨z1.fr m rfl, ?_, ?_, ?_, ?_, ?_, ⟨n + 1, e27, Nat.zero_le _, by omega⟩, ?_⟩, ?_, ?_, ?_, b4.fr m rfl, ?_, ?_, ?_, ?_, ?_, ?_⟩
  · rw [m.S 1 (by decide)]; exact z2
  · rw [m.S 3 (by decide)]; exact z3
  · rw [m.S 6 (by decide)]; exact z4
  · rw [m.S 6 (by decide), m.2 5 (Or.inl (by decide))]; exact z5
  · rw [m.S 17 (by decide)]; exact z6
  · rw [m.S 37 (by decide)]; exact z8
  · rw [e1]; exact fun i hi => (b1 i hi).fr m rfl
  · rw [ec]
    intro i hi
    by_cases e : i = n
    · subst e
      have w := q2 i (by omega) h8
      unfold mVs
      rw [e28, if_pos rfl, m.I 29 (by decide), w]
      exact ⟨⟨0, rfl, Nat.le_refl _, by decide⟩, hnm, fun k hk => absurd hk (Nat.not_lt_zero _)⟩
    · have := b2 i (by omega)
      unfold mVs at this ⊢
      rw [e28, if_neg e, m.I 29 (by decide), m.I 30 (by decide), m.I 31 (by decide), m.I 34 (by decide), m.I 35 (by decide), m.I 36 (by decide)]
      exact this
  · rw [e3]; exact fun r hr => (b3 r hr).cs m (by omega)
  · rw [e1, m.I 23 (by decide), m.I 24 (by decide), m.I 25 (by decide)]; exact q1
  · rw [ec, m.I 29 (by decide)]; exact fun i hi h8 => q2 i (by omega) h8
  · rw [e3, m.I 46 (by decide), m.I 53 (by decide), m.I 59 (by decide), m.I 63 (by decide), m.I 70 (by decide), m.I 105 (by decide), m.I 45 (by decide)]; exact q3
  · unfold mZi at q4 ⊢
    simp only [e4, m.I 74 (by decide), m.I 75 (by decide), m.I 79 (by decide), m.I 82 (by decide), m.I 89 (by decide), m.I 90 (by decide), m.I 95 (by decide), m.I 99 (by decide), m.I 100 (by decide)]
    exact q4
  · rw [m.S 101 (by decide), m.2 102 (Or.inl (by decide))]; exact q5
  · rw [m.S 101 (by decide), e3, m.I 102 (by decide)]
    simp only [e4]
    exact q6
theorem ls_rr (h : RR G H sa x s t) (hM : MV t) (hn : n = cS' t) (h8 : n < 8) {nm : List Int32} (kq : (s.K (G 3 n)).1 = 20) (hne : ∀ i, i < n → G 3 i ≠ G 3 n) (p120 : s.P 120 (G 3 n) = some (H 120 (G 3 n))) (tx : isTx sa s (H 120 (G 3 n)) nm) (hnm : nmL nm c) (i5 : s.I 125 (G 3 n) = 0) : RR G H sa x (cSI (cSQ s (H 230 x) n (some (G 3 n))) 231 x (nI (n + 1))) (mLs t n c) ∧ fr [30] [] [132] s (cSI (cSQ s (H 230 x) n (some (G 3 n))) 231 x (nI (n + 1))) := by
  obtain ⟨m, e27, e28⟩ := mLs_e (t := t) (n := n) (c := c)
  generalize mLs t n c = t' at m e27 e28
  obtain ⟨⟨a, b, c', e, g, i, j⟩, htx⟩ := h.q
  have hT := a.2.1
  have hx := a.1
  have p230 := hT.r hx 230 132 8
  generalize hs' : cSI (cSQ s (H 230 x) n (some (G 3 n))) 231 x (nI (n + 1)) = s'
  have f : fr [30] [] [132] s s' := by
    rw [← hs']
    exact (fr.sq (by rw [p230.2]; decide)).tr (fr.si (by show (s.K x).1 ∈ _; rw [hx]; decide))
  have hK : s'.K = s.K := by rw [← hs']; rfl
  have hP : s'.P = s.P := by rw [← hs']; rfl
  have hg : RGl G H sa x s' := a.v hK hP f rfl rfl rfl
  have ht := hg.2.2.1
  have ec : cS' t' = n + 1 := by unfold cS'; rw [e27, nI_clamp (by omega)]
  have e1 : cL t' = cL t := by unfold cL; rw [m.S 17 (by decide)]
  have e3 : cR t' = cR t := by unfold cR; rw [m.S 37 (by decide)]
  have e4 : ∀ r, cI t' r = cI t r := fun r => by unfold cI; rw [m.I 70 (by decide)]
  have oI : ∀ g', g' ≠ 231 → s'.I g' x = s.I g' x := fun g' hg' => by rw [← hs', cSI_g hg']; rfl
  have oQ : ∀ k, s'.Q (H 230 x) k = if k = n then some (G 3 n) else s.Q (H 230 x) k := fun k => by
    rw [← hs']
    show (cSQ s (H 230 x) n (some (G 3 n))).Q (H 230 x) k = _
    rw [cSQ_s]; rfl
  refine ⟨RQ.r ⟨hg, ?_, ⟨?_, ?_, ?_, ?_, ?_⟩, ?_, ?_, ?_, j.fr hT hx f m ⟨oI 233 (by decide), oI 235 (by decide)⟩ rfl rfl rfl rfl⟩ (htx.fr hT hx f m rfl rfl rfl), f⟩
  · obtain ⟨y0, y1, y2, y3, y4⟩ := b
    refine ⟨?_, ?_, ?_, ?_, ?_⟩
    · rw [e1]; exact y0
    · rw [e3]; exact y1
    · rw [e3]
      simp only [e4]
      exact y2
    · rw [ec]
      intro k k' hk hk' ee
      by_cases c1 : k = n
      · by_cases c2 : k' = n
        · omega
        · rw [c1] at ee
          exact absurd ee.symm (hne k' (by omega))
      · by_cases c2 : k' = n
        · rw [c2] at ee
          exact absurd ee (hne k (by omega))
        · exact y3 k k' (by omega) (by omega) ee
    · unfold cR cI at y4 ⊢
      rw [m.S 37 (by decide), m.I 70 (by decide), m.I 46 (by decide)]
      exact y4
  · rw [oI 224 (by decide), m.S 4 (by decide)]; exact c'.1
  · rw [oI 225 (by decide), m.S 1 (by decide)]; exact c'.2.1
  · rw [oI 227 (by decide), m.S 17 (by decide)]; exact c'.2.2.1
  · rw [oI 229 (by decide), m.S 37 (by decide)]; exact c'.2.2.2.1
  · rw [← hs', cSI_s, e27]
  · rw [e1]; exact fun k hk => (e k hk).fr hT hx f ht m rfl rfl rfl rfl
  · rw [ec]
    intro k hk
    by_cases ek : k = n
    · subst ek
      have w := hM.2.2.2.2.2.2.1 k (by omega) h8
      unfold RLs
      rw [oQ, if_pos rfl, e28, if_pos rfl, m.I 29 (by decide), w, hK, hP]
      refine ⟨⟨kq, rfl⟩, ⟨nm, p120, tx.fr f (by decide) (by decide) (by decide) ht, hnm⟩, ?_, fun j' hj' => absurd hj' (Nat.not_lt_zero _)⟩
      rw [(f.v kq (by decide)).1]
      exact i5
    · obtain ⟨⟨a1, a2⟩, ⟨nm', a3, a4, a5⟩, a6⟩ := g k (by omega)
      unfold RLs
      rw [oQ, if_neg ek, e28, if_neg ek, m.I 29 (by decide), m.I 30 (by decide), m.I 31 (by decide), m.J 32 (by decide), m.J 33 (by decide), m.I 34 (by decide), m.I 35 (by decide), m.I 36 (by decide), hK, hP]
      exact ⟨⟨a1, a2⟩, ⟨nm', a3, a4.fr f (by decide) (by decide) (by decide) ht, a5⟩, a6.fr hT a1 (Or.inl rfl) f rfl rfl⟩
  · rw [e3]
    intro r hr'
    obtain ⟨i1', i2', i3', i4', i5', i6', i7'⟩ := i r hr'
    have hv := hM.r hr'
    refine ⟨i1'.fr hT hx f ht m rfl rfl rfl rfl, i2'.fr hT i1'.1.1 f ((f.v i1'.1.1 (by decide)).1 199) m rfl rfl rfl rfl, i3'.fr hT i1'.1.1 f m rfl rfl rfl rfl, i4'.fr hT i1'.1.1 f m rfl rfl rfl, i5'.fr hT i1'.1.1 f m rfl rfl rfl, i6'.fr hT i1'.1.1 ⟨hv.2.2.2.2.2.2.1.1.n.2.2, hv.2.2.2.2.2.2.2.1.1.n.2.2⟩ f m rfl rfl rfl, ?_⟩
    rw [e4]
    exact fun p hp => (i7' p hp).fr hT i1'.1.1 (hv.i hp).2.2.2.2.2.2.2.2.2.2.1.n.2.2 f m rfl rfl rfl rfl
theorem mLe_e {i k : Nat} {pm f n ge le : Int32} {a b : Int64} : mfr [29, 30, 31, 32, 33, 34, 35, 36] t (mLe t i k pm f n ge le a b) ∧ (∀ j, (mLe t i k pm f n ge le a b).I 29 j = if j = i then nI (k + 1) else t.I 29 j) ∧ (∀ j, (mLe t i k pm f n ge le a b).I 30 j = if j = 16 * i + k then pm else t.I 30 j) ∧ (∀ j, (mLe t i k pm f n ge le a b).I 31 j = if j = 16 * i + k then f else t.I 31 j) ∧ (∀ j, (mLe t i k pm f n ge le a b).J 32 j = if j = 16 * i + k then a else t.J 32 j) ∧ (∀ j, (mLe t i k pm f n ge le a b).J 33 j = if j = 16 * i + k then b else t.J 33 j) ∧ (∀ j, (mLe t i k pm f n ge le a b).I 34 j = if j = 16 * i + k then n else t.I 34 j) ∧ (∀ j, (mLe t i k pm f n ge le a b).I 35 j = if j = 16 * i + k then ge else t.I 35 j) ∧ ∀ j, (mLe t i k pm f n ge le a b).I 36 j = if j = 16 * i + k then le else t.I 36 j := by
  unfold mLe
  refine ⟨(((((((mfr.si (by decide)).tr (mfr.si (by decide))).tr (mfr.si (by decide))).tr (mfr.sj (by decide))).tr (mfr.sj (by decide))).tr (mfr.si (by decide))).tr (mfr.si (by decide))).tr (mfr.si (by decide)), fun j => ?_, fun j => ?_, fun j => ?_, fun j => ?_, fun j => ?_, fun j => ?_, fun j => ?_, fun j => ?_⟩
  · rw [moSI_n (by decide), moSI_n (by decide), moSI_n (by decide)]
    show (moSI (moSI (moSI t 29 i (nI (k + 1))) 30 (16 * i + k) pm) 31 (16 * i + k) f).I 29 j = _
    rw [moSI_n (by decide), moSI_n (by decide), moSI_s]; rfl
  · rw [moSI_n (by decide), moSI_n (by decide), moSI_n (by decide)]
    show (moSI (moSI (moSI t 29 i (nI (k + 1))) 30 (16 * i + k) pm) 31 (16 * i + k) f).I 30 j = _
    rw [moSI_n (by decide), moSI_s, moSI_n (by decide)]; rfl
  · rw [moSI_n (by decide), moSI_n (by decide), moSI_n (by decide)]
    show (moSI (moSI (moSI t 29 i (nI (k + 1))) 30 (16 * i + k) pm) 31 (16 * i + k) f).I 31 j = _
    rw [moSI_s, moSI_n (by decide), moSI_n (by decide)]; rfl
  · show (moSJ (moSJ (moSI (moSI (moSI t 29 i (nI (k + 1))) 30 (16 * i + k) pm) 31 (16 * i + k) f) 32 (16 * i + k) a) 33 (16 * i + k) b).J 32 j = _
    rw [moSJ_n (by decide), moSJ_s]; rfl
  · show (moSJ (moSJ (moSI (moSI (moSI t 29 i (nI (k + 1))) 30 (16 * i + k) pm) 31 (16 * i + k) f) 32 (16 * i + k) a) 33 (16 * i + k) b).J 33 j = _
    rw [moSJ_s, moSJ_n (by decide)]; rfl
  · rw [moSI_n (by decide), moSI_n (by decide), moSI_s]
    show (if j = 16 * i + k then n else (moSI (moSI (moSI t 29 i (nI (k + 1))) 30 (16 * i + k) pm) 31 (16 * i + k) f).I 34 j) = _
    rw [moSI_n (by decide), moSI_n (by decide), moSI_n (by decide)]
  · rw [moSI_n (by decide), moSI_s, moSI_n (by decide)]
    show (if j = 16 * i + k then ge else (moSI (moSI (moSI t 29 i (nI (k + 1))) 30 (16 * i + k) pm) 31 (16 * i + k) f).I 35 j) = _
    rw [moSI_n (by decide), moSI_n (by decide), moSI_n (by decide)]
  · rw [moSI_s, moSI_n (by decide), moSI_n (by decide)]
    show (if j = 16 * i + k then le else (moSI (moSI (moSI t 29 i (nI (k + 1))) 30 (16 * i + k) pm) 31 (16 * i + k) f).I 36 j) = _
    rw [moSI_n (by decide), moSI_n (by decide), moSI_n (by decide)]
theorem mv_le (hM : MV t) {i k : Nat} {pm f n ge le : Int32} {a b : Int64} (hi : i < cS' t) (hk : t.I 29 i = nI k) (hk16 : k < 16) (hpm : bit pm) (hl : lnOk f n) (hge : ge = -1 ∨ rng ge 0 128) (hle : le = -1 ∨ rng le 0 128) : MV (mLe t i k pm f n ge le a b) := by
  obtain ⟨m, e29, e30, e31, e32, e33, e34, e35, e36⟩ := mLe_e (t := t) (i := i) (k := k) (pm := pm) (f := f) (n := n) (ge := ge) (le := le) (a := a) (b := b)
  have h5 := hM.2.2.2.2.2
  refine hM.cf (m.wk (by decide)) (fun j hj => ?_) (fun r hr => (hM.r hr).fr m rfl) ?_ ?_ ?_
  · obtain ⟨b1, b2, b3⟩ := hM.2.2.1 j hj
    have h16 := b1.n.2.2
    unfold mVs
    rw [e29, m.J 28 (by decide)]
    by_cases c : j = i
    · subst c
      rw [if_pos rfl]
      refine ⟨⟨k + 1, rfl, Nat.zero_le _, by omega⟩, b2, fun k' hk' => ?_⟩
      rw [nI_clamp (by omega)] at hk'
      rw [e30, e31, e34, e35, e36]
      by_cases ck : k' = k
      · subst ck
        rw [if_pos rfl, if_pos rfl, if_pos rfl, if_pos rfl, if_pos rfl]
        exact ⟨hpm, hl, hge, hle⟩
      · rw [if_neg (by omega), if_neg (by omega), if_neg (by omega), if_neg (by omega), if_neg (by omega)]
        exact b3 k' (by rw [hk, nI_clamp (by omega)]; omega)
    · rw [if_neg c]
      refine ⟨b1, b2, fun k' hk' => ?_⟩
      rw [e30, e31, e34, e35, e36, if_neg (by omega), if_neg (by omega), if_neg (by omega), if_neg (by omega), if_neg (by omega)]
      exact b3 k' hk'
  · intro j hj h8
    rw [e29, if_neg (by omega)]
    exact h5.2.1 j hj h8
  · intro r' hr' h6
    obtain ⟨⟨w1, w2, w3, w4, w5, w6, w7⟩, w8⟩ := h5.2.2.1 r' hr' h6
    rw [m.I 53 (by decide), m.I 59 (by decide), m.I 63 (by decide)]
    exact ⟨w2, w3, w4, w5⟩
  · intro r' p h6 hp h4
    have := h5.2.2.2.1 r' p h6 hp h4
    unfold mZi at this ⊢
    simp only [m.I 74 (by decide), m.I 75 (by decide), m.I 79 (by decide), m.I 82 (by decide), m.I 89 (by decide), m.I 90 (by decide), m.I 95 (by decide), m.I 99 (by decide), m.I 100 (by decide)]
    exact this
theorem le_rr (h : RR G H sa x s t) (hM : MV t) {i k z : Nat} {pm f n ge le : Int32} {a b : Int64} (hi : i < cS' t) (hk : t.I 29 i = nI k) (hk16 : k < 16) (hz : (s.K z).1 = 17) (hP : PF s z (fam f) a b n) : RR G H sa x (plS H s (G 3 i) k z pm ge le) (mLe t i k pm f n ge le a b) ∧ fr [20, 21, 102, 105, 106] [] [138] s (plS H s (G 3 i) k z pm ge le) := by
  obtain ⟨m, e29, e30, e31, e32, e33, e34, e35, e36⟩ := mLe_e (t := t) (i := i) (k := k) (pm := pm) (f := f) (n := n) (ge := ge) (le := le) (a := a) (b := b)
  have hq := h.q.1
  have hT := hq.ty
  have hL := hq.2.2.2.2.1
  have hpl := hT.pl (hL i hi).1.1
  obtain ⟨f', hK, hPP⟩ := plS_f (k := k) (z := z) (pm := pm) (le := ge) (mo := le) hpl
  have hg : RGl G H sa x (plS H s (G 3 i) k z pm ge le) := hq.1.v hK hPP f' rfl rfl rfl
  have ht := hg.2.2.1
  refine ⟨rr_cf h hM hg f'.wk (fun r' hr' => (f'.v (hq.rt hr').1.1 (by decide)).1 199) (m.wk (by decide)) (fun j hj => ?_) (fun r' hr' => ?_), f'⟩
  · obtain ⟨⟨a1, a2⟩, ⟨nm, b1, b2, b3⟩, c'⟩ := hL j hj
    refine ⟨⟨a1, by rw [f'.q (a := H 230 x) (u := 132) (by rw [(hT.r hq.1.1 230 132 8).2]) (by decide)]; exact a2⟩, ⟨nm, b1, b2.fr f' (by decide) (by decide) (by decide) ht, by rw [m.J 28 (by decide)]; exact b3⟩, ?_⟩
    have h16 := (hM.2.2.1 j hj).1.n.2.2
    by_cases ec : j = i
    · subst ec
      rw [hk, nI_clamp (by omega)] at c'
      rw [e29, if_pos rfl, nI_clamp (by omega)]
      refine rpl_add (f := f) (b1 := a) (b2 := b) hpl c' hz hP (fun k' hk' => ?_) ?_
      · skip
        rw [e30, e31, e32, e33, e34, e35, e36, if_neg (by omega), if_neg (by omega), if_neg (by omega), if_neg (by omega), if_neg (by omega), if_neg (by omega), if_neg (by omega)]
        exact ⟨rfl, rfl, rfl, rfl, rfl, rfl, rfl⟩
      · skip
        rw [e30, e31, e32, e33, e34, e35, e36, if_pos rfl, if_pos rfl, if_pos rfl, if_pos rfl, if_pos rfl, if_pos rfl, if_pos rfl]
        exact ⟨rfl, rfl, rfl, rfl, rfl, rfl, rfl⟩
    · have hne : G 3 j ≠ G 3 i := fun e => ec (hq.2.1.2.2.2.1 j i hj hi e)
      obtain ⟨q1, q2⟩ := rpl_ne (k := k) (z := z) (pm := pm) (le := ge) (mo := le) hT hpl (hT.pl a1) hne c'
      rw [e29, if_neg ec]
      refine ⟨q1, fun k' hk' => ?_⟩
      dsimp only
      rw [e30, e31, e32, e33, e34, e35, e36, if_neg (by omega), if_neg (by omega), if_neg (by omega), if_neg (by omega), if_neg (by omega), if_neg (by omega), if_neg (by omega)]
      exact q2 k' hk'
  · obtain ⟨i1, i2, i3, i4, i5, i6, i7⟩ := hq.2.2.2.2.2.1 r' hr'
    have hv := hM.r hr'
    have fi : ∀ w', RFi G H s t r' w' → RFi G H (plS H s (G 3 i) k z pm ge le) (mLe t i k pm f n ge le a b) r' w' := by
      intro w' hF
      obtain ⟨⟨y1, y2⟩, y3⟩ := hF
      have hne : G 5 (2 * r' + w') ≠ G 3 i := fun e => by
        have := (hL i hi).1.1
        rw [← e, y1] at this
        exact absurd this (by decide)
      refine ⟨⟨y1, ?_⟩, ?_⟩
      · rw [f'.q (a := H 188 (G 1 r')) (u := 143) (by rw [(hT.r i1.1.1 188 143 2).2]) (by decide)]; exact y2
      · have := rpl_ne (k := k) (z := z) (pm := pm) (le := ge) (mo := le) hT hpl (hT.pf y1) hne y3
        rw [m.I 53 (by decide), m.I 54 (by decide), m.J 55 (by decide), m.J 56 (by decide), m.I 57 (by decide), m.I 58 (by decide)]
        exact this
    exact ⟨i1.fr hT hq.1.1 f' ht m rfl rfl rfl rfl, fi 0 i4, fi 1 i5, i6.fr hT i1.1.1 ⟨hv.2.2.2.2.2.2.1.1.n.2.2, hv.2.2.2.2.2.2.2.1.1.n.2.2⟩ f' m rfl rfl rfl, fun p hp => (i7 p hp).fr hT i1.1.1 (hv.i hp).2.2.2.2.2.2.2.2.2.2.1.n.2.2 f' m rfl rfl rfl rfl⟩
end Lt
