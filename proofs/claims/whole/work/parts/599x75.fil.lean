/-! Lines: filter: what it writes. -/
section Fi
variable {G H : Nat → Nat → Nat} {sa : Nat → Nat} {rd x kc ks : Nat} {s s' : cS} {t t' : moS}
theorem mVr.fi {r : Nat} (h : mVr t r) (m : mfr [53, 54, 55, 56, 57, 58] t t') (h6 : ∀ w, w < 2 → rng (t'.I 53 (2 * r + w)) 0 32 ∧ ∀ k, k < (t'.I 53 (2 * r + w)).toNatClampNeg → lnOk (t'.I 54 (64 * r + 32 * w + k)) (t'.I 57 (64 * r + 32 * w + k)) ∧ bit (t'.I 58 (64 * r + 32 * w + k))) : mVr t' r := by
  obtain ⟨a1, a2, a3, a4, a5, a6, a7, a8, a9, a10, a11, a12, a13, a14, a15⟩ := h
  have e4 : cI t' r = cI t r := by unfold cI; rw [m.I 70 (by decide)]
  have e1 : cL t' = cL t := by unfold cL; rw [m.S 17 (by decide)]
  have e2 : cS' t' = cS' t := by unfold cS'; rw [m.S 27 (by decide)]
  refine ⟨?_, ?_, ?_, ?_, ?_, h6, ?_, ?_, ?_, ?_, ?_, ?_, ?_, ?_, ?_⟩
  · rw [m.J 38 (by decide)]; exact a1
  · rw [m.I 39 (by decide)]; exact a2
  · rw [m.I 40 (by decide), m.I 41 (by decide), m.I 42 (by decide)]; exact a3
  · rw [m.I 46 (by decide)]; exact a4
  · rw [m.I 46 (by decide), m.I 47 (by decide), m.I 50 (by decide), m.I 51 (by decide), m.I 52 (by decide)]; exact a5
  · rw [e1, e2, m.I 59 (by decide), m.I 60 (by decide), m.I 61 (by decide), m.I 62 (by decide)]; exact a7
  · rw [e1, e2, m.I 63 (by decide), m.I 64 (by decide), m.I 65 (by decide), m.I 66 (by decide), m.I 67 (by decide)]; exact a8
  · rw [m.I 68 (by decide), m.I 69 (by decide)]; exact a9
  · rw [m.I 70 (by decide)]; exact a10
  · rw [e4]
    intro p hp
    have := a11 p hp
    unfold mVi cL at this ⊢
    simp only [m.I 71 (by decide), m.S 17 (by decide), m.I 72 (by decide), m.J 73 (by decide), m.I 74 (by decide), m.I 75 (by decide), m.I 78 (by decide), m.I 79 (by decide), m.I 80 (by decide), m.I 82 (by decide), m.I 83 (by decide), m.I 84 (by decide), m.I 85 (by decide), m.I 87 (by decide), m.I 88 (by decide), m.I 90 (by decide), m.I 91 (by decide), m.I 94 (by decide), m.I 95 (by decide), m.I 96 (by decide), m.I 99 (by decide), m.I 100 (by decide)]
    exact this
  · rw [e4, m.I 71 (by decide)]; exact a12
  · rw [m.I 105 (by decide)]; exact a13
  · unfold mRw cN cI at a14 ⊢
    rw [m.I 105 (by decide), m.I 106 (by decide), m.I 109 (by decide), m.I 110 (by decide), m.I 111 (by decide), m.I 112 (by decide), m.I 113 (by decide), m.J 114 (by decide), m.J 115 (by decide), m.I 116 (by decide), m.I 119 (by decide), m.I 70 (by decide)]; exact a14
  · unfold mKy cN at a15 ⊢
    rw [m.I 105 (by decide), m.I 106 (by decide), m.J 107 (by decide), m.J 108 (by decide), m.I 109 (by decide)]; exact a15
/-- the model with a filter more -/
def mFi (t : moS) (r w k : Nat) (f n pm : Int32) (a b : Int64) : moS := moSI (moSI (moSJ (moSJ (moSI (moSI t 53 (2 * r + w) (nI (k + 1))) 54 (64 * r + 32 * w + k) f) 55 (64 * r + 32 * w + k) a) 56 (64 * r + 32 * w + k) b) 57 (64 * r + 32 * w + k) n) 58 (64 * r + 32 * w + k) pm
theorem mFi_e {r w k : Nat} {f n pm : Int32} {a b : Int64} : mfr [53, 54, 55, 56, 57, 58] t (mFi t r w k f n pm a b) ∧ (∀ i, (mFi t r w k f n pm a b).I 53 i = if i = 2 * r + w then nI (k + 1) else t.I 53 i) ∧ (∀ i, (mFi t r w k f n pm a b).I 54 i = if i = 64 * r + 32 * w + k then f else t.I 54 i) ∧ (∀ i, (mFi t r w k f n pm a b).J 55 i = if i = 64 * r + 32 * w + k then a else t.J 55 i) ∧ (∀ i, (mFi t r w k f n pm a b).J 56 i = if i = 64 * r + 32 * w + k then b else t.J 56 i) ∧ (∀ i, (mFi t r w k f n pm a b).I 57 i = if i = 64 * r + 32 * w + k then n else t.I 57 i) ∧ ∀ i, (mFi t r w k f n pm a b).I 58 i = if i = 64 * r + 32 * w + k then pm else t.I 58 i := by
  unfold mFi
  refine ⟨(((((mfr.si (by decide)).tr (mfr.si (by decide))).tr (mfr.sj (by decide))).tr (mfr.sj (by decide))).tr (mfr.si (by decide))).tr (mfr.si (by decide)), fun i => ?_, fun i => ?_, fun i => ?_, fun i => ?_, fun i => ?_, fun i => ?_⟩
  · rw [moSI_n (by decide), moSI_n (by decide)]
    show (moSI (moSI t 53 (2 * r + w) (nI (k + 1))) 54 (64 * r + 32 * w + k) f).I 53 i = _
    rw [moSI_n (by decide), moSI_s]; rfl
  · rw [moSI_n (by decide), moSI_n (by decide)]
    show (moSI (moSI t 53 (2 * r + w) (nI (k + 1))) 54 (64 * r + 32 * w + k) f).I 54 i = _
    rw [moSI_s, moSI_n (by decide)]; rfl
  · show (moSJ (moSJ (moSI (moSI t 53 (2 * r + w) (nI (k + 1))) 54 (64 * r + 32 * w + k) f) 55 (64 * r + 32 * w + k) a) 56 (64 * r + 32 * w + k) b).J 55 i = _
    rw [moSJ_n (by decide), moSJ_s]; rfl
  · show (moSJ (moSJ (moSI (moSI t 53 (2 * r + w) (nI (k + 1))) 54 (64 * r + 32 * w + k) f) 55 (64 * r + 32 * w + k) a) 56 (64 * r + 32 * w + k) b).J 56 i = _
    rw [moSJ_s, moSJ_n (by decide)]; rfl
  · rw [moSI_n (by decide), moSI_s]
    show (if i = 64 * r + 32 * w + k then n else (moSI (moSI t 53 (2 * r + w) (nI (k + 1))) 54 (64 * r + 32 * w + k) f).I 57 i) = _
    rw [moSI_n (by decide), moSI_n (by decide)]
  · rw [moSI_s, moSI_n (by decide)]
    show (if i = 64 * r + 32 * w + k then pm else (moSI (moSI t 53 (2 * r + w) (nI (k + 1))) 54 (64 * r + 32 * w + k) f).I 58 i) = _
    rw [moSI_n (by decide), moSI_n (by decide)]
theorem mv_fil (hM : MV t) {r w k : Nat} {f n pm : Int32} {a b : Int64} (hr : r < cR t) (hw : w < 2) (hk : t.I 53 (2 * r + w) = nI k) (hk32 : k < 32) (hl : lnOk f n) (hpm : bit pm) : MV (mFi t r w k f n pm a b) := by
  obtain ⟨m, e53, e54, e55, e56, e57, e58⟩ := mFi_e (t := t) (r := r) (w := w) (k := k) (f := f) (n := n) (pm := pm) (a := a) (b := b)
  have h5 := hM.2.2.2.2.2
  refine hM.cf (m.wk (by decide)) (fun i hi => (hM.2.2.1 i hi).fr m rfl) (fun r' hr' => (hM.r hr').fi m fun w' hw' => ?_) ?_ ?_ ?_
  · obtain ⟨b1, b2⟩ := (hM.r hr').2.2.2.2.2.1 w' hw'
    have h32 := b1.n.2.2
    rw [e53]
    by_cases c : 2 * r' + w' = 2 * r + w
    · rw [if_pos c]
      refine ⟨⟨k + 1, rfl, Nat.zero_le _, by omega⟩, fun j hj => ?_⟩
      rw [nI_clamp (by omega)] at hj
      rw [e54, e57, e58]
      by_cases cj : j = k
      · rw [if_pos (by omega), if_pos (by omega), if_pos (by omega)]; exact ⟨hl, hpm⟩
      · rw [if_neg (by omega), if_neg (by omega), if_neg (by omega)]
        exact b2 j (by rw [c, hk, nI_clamp (by omega)]; omega)
    · rw [if_neg c]
      refine ⟨b1, fun j hj => ?_⟩
      rw [e54, e57, e58, if_neg (by omega), if_neg (by omega), if_neg (by omega)]
      exact b2 j hj
  · rw [m.I 29 (by decide)]; exact h5.2.1
  · intro r' hr' h6
    obtain ⟨⟨w1, w2, w3, w4, w5, w6, w7⟩, w8⟩ := h5.2.2.1 r' hr' h6
    rw [e53, e53, m.I 59 (by decide), m.I 63 (by decide), if_neg (by omega), if_neg (by omega)]
    exact ⟨w2, w3, w4, w5⟩
  · intro r' p h6 hp h4
    have := h5.2.2.2.1 r' p h6 hp h4
    unfold mZi at this ⊢
    simp only [m.I 74 (by decide), m.I 75 (by decide), m.I 79 (by decide), m.I 82 (by decide), m.I 89 (by decide), m.I 90 (by decide), m.I 95 (by decide), m.I 99 (by decide), m.I 100 (by decide)]
    exact this
theorem fil_rr (h : RR G H sa x s t) (hM : MV t) {r w k z : Nat} {f n pm : Int32} {a b : Int64} (hr : r < cR t) (hw : w < 2) (hk : t.I 53 (2 * r + w) = nI k) (hk32 : k < 32) (hz : (s.K z).1 = 17) (hP : PF s z (fam f) a b n) : RR G H sa x (plS H s (G 5 (2 * r + w)) k z pm n (-1)) (mFi t r w k f n pm a b) ∧ fr [20, 21, 102, 105, 106] [] [138] s (plS H s (G 5 (2 * r + w)) k z pm n (-1)) := by
  obtain ⟨m, e53, e54, e55, e56, e57, e58⟩ := mFi_e (t := t) (r := r) (w := w) (k := k) (f := f) (n := n) (pm := pm) (a := a) (b := b)
  have hq := h.q.1
  have hT := hq.ty
  have hF : ∀ r' w', r' < cR t → w' < 2 → RFi G H s t r' w' := fun r' w' hr' hw' => by
    obtain ⟨i1, i2, i3, i4, i5, i6, i7⟩ := hq.2.2.2.2.2.1 r' hr'
    rcases (show w' = 0 ∨ w' = 1 by omega) with e | e
    · rw [e]; exact i4
    · rw [e]; exact i5
  have hpl := hT.pf (hF r w hr hw).1.1
  obtain ⟨f', hK, hPP⟩ := plS_f (k := k) (z := z) (pm := pm) (le := n) (mo := -1) hpl
  have hg : RGl G H sa x (plS H s (G 5 (2 * r + w)) k z pm n (-1)) := hq.1.v hK hPP f' rfl rfl rfl
  have ht := hg.2.2.1
  refine ⟨rr_cf h hM hg f'.wk (fun r' hr' => (f'.v (hq.rt hr').1.1 (by decide)).1 199) (m.wk (by decide)) (fun i hi => ?_) (fun r' hr' => ?_), f'⟩
  · obtain ⟨⟨a1, a2⟩, ⟨nm, b1, b2, b3⟩, c⟩ := hq.2.2.2.2.1 i hi
    have hne : G 3 i ≠ G 5 (2 * r + w) := fun e => by
      have := (hF r w hr hw).1.1
      rw [← e, a1] at this
      exact absurd this (by decide)
    refine ⟨⟨a1, by rw [f'.q (a := H 230 x) (u := 132) (by rw [(hT.r hq.1.1 230 132 8).2]) (by decide)]; exact a2⟩, ⟨nm, b1, b2.fr f' (by decide) (by decide) (by decide) ht, by rw [m.J 28 (by decide)]; exact b3⟩, ?_⟩
    have := rpl_ne (k := k) (z := z) (pm := pm) (le := n) (mo := -1) hT hpl (hT.pl a1) hne c
    rw [m.I 29 (by decide), m.I 30 (by decide), m.I 31 (by decide), m.J 32 (by decide), m.J 33 (by decide), m.I 34 (by decide), m.I 35 (by decide), m.I 36 (by decide)]
    exact this
  · obtain ⟨i1, i2, i3, i4, i5, i6, i7⟩ := hq.2.2.2.2.2.1 r' hr'
    have hv := hM.r hr'
    have fi : ∀ w', w' < 2 → RFi G H (plS H s (G 5 (2 * r + w)) k z pm n (-1)) (mFi t r w k f n pm a b) r' w' := by
      intro w' hw'
      obtain ⟨⟨y1, y2⟩, y3⟩ := hF r' w' hr' hw'
      refine ⟨⟨y1, ?_⟩, ?_⟩
      · rw [f'.q (a := H 188 (G 1 r')) (u := 143) (by rw [(hT.r i1.1.1 188 143 2).2]) (by decide)]; exact y2
      · have h32 := (hv.2.2.2.2.2.1 w' hw').1.n.2.2
        by_cases c : 2 * r' + w' = 2 * r + w
        · have er : r' = r := by omega
          have ew : w' = w := by omega
          subst er
          subst ew
          rw [hk, nI_clamp (by omega)] at y3
          rw [e53, if_pos rfl, nI_clamp (by omega)]
          refine rpl_add (f := f) (b1 := a) (b2 := b) hpl y3 hz hP (fun j hj => ?_) ?_
          · rw [e54, e55, e56, e57, e58, if_neg (by omega), if_neg (by omega), if_neg (by omega), if_neg (by omega), if_neg (by omega)]
            exact ⟨rfl, rfl, rfl, rfl, rfl, rfl, rfl⟩
          · rw [e54, e55, e56, e57, e58, if_pos rfl, if_pos rfl, if_pos rfl, if_pos rfl, if_pos rfl]
            exact ⟨rfl, rfl, rfl, rfl, rfl, rfl, rfl⟩
        · have hne : G 5 (2 * r' + w') ≠ G 5 (2 * r + w) := fun e => c (hq.2.1.2.2.2.2.2.1 _ _ (by omega) (by omega) e)
          have := rpl_ne (k := k) (z := z) (pm := pm) (le := n) (mo := -1) hT hpl (hT.pf y1) hne y3
          rw [e53, if_neg c]
          obtain ⟨q1, q2⟩ := this
          refine ⟨q1, fun j hj => ?_⟩
          have hj' : j < 32 := by omega
          dsimp only
          rw [e54, e55, e56, e57, e58, if_neg (by omega), if_neg (by omega), if_neg (by omega), if_neg (by omega), if_neg (by omega)]
          exact q2 j hj
    exact ⟨i1.fr hT hq.1.1 f' ht m rfl rfl rfl rfl, fi 0 (by decide), fi 1 (by decide), i6.fr hT i1.1.1 ⟨hv.2.2.2.2.2.2.1.1.n.2.2, hv.2.2.2.2.2.2.2.1.1.n.2.2⟩ f' m rfl rfl rfl, fun p hp => (i7 p hp).fr hT i1.1.1 (hv.i hp).2.2.2.2.2.2.2.2.2.2.1.n.2.2 f' m rfl rfl rfl rfl⟩
end Fi
