/-! What holds of the model, where a row of a table is another. -/
section Mw
variable {t t' : moS} {r : Nat}
theorem mRw.mv {k k' : Nat} (h : mRw t r k) (ei : cI t' r = cI t r) (mi : ∀ g, g ∈ fRI → t'.I g k' = t.I g k) (mj : ∀ g, g ∈ fRJ → t'.J g k' = t.J g k) : mRw t' r k' := by
  unfold mRw at h ⊢
  rw [ei, mi 106 (by decide), mi 109 (by decide), mi 110 (by decide), mi 111 (by decide), mi 112 (by decide), mi 113 (by decide), mi 116 (by decide), mi 119 (by decide), mj 114 (by decide), mj 115 (by decide)]
  exact h
theorem MV.rw (h : MV t) (hr : r < cR t) (c : rwT r t t') (h5 : rng (t'.I 105 r) 0 880) (hrow : ∀ j, j < cN t' r → mRw t' r (2700 * r + j)) (hs : ∀ i j, i < j → j < cN t' r → kyR t' (2700 * r + i) < kyR t' (2700 * r + j)) : MV t' := by
  obtain ⟨m, m44, m45, m5, mI, mJ⟩ := c
  have e4 : ∀ r, cI t' r = cI t r := fun r => by unfold cI; rw [m.I 70 (by decide)]
  have e1 : cL t' = cL t := by unfold cL; rw [m.S 17 (by decide)]
  have e2 : cS' t' = cS' t := by unfold cS'; rw [m.S 27 (by decide)]
  refine h.tb (m.wk (by decide)) (fun r' hr' => ?_) fun r' h1 h2 => ?_
  · obtain ⟨a1, a2, a3, a4, a5, a6, a7, a8, a9, a10, a11, a12, a13, a14, a15⟩ := h.r hr'
    have h9 := h.nRo hr'
    have vi : ∀ p, p < cI t r' → mVi t' (4 * r' + p) := fun p hp => by
      have := a11 p hp
      unfold mVi at this ⊢
      rw [e1, m.I 71 (by decide), m.I 72 (by decide), m.J 73 (by decide), m.I 74 (by decide), m.I 75 (by decide), m.I 78 (by decide), m.I 79 (by decide), m.I 80 (by decide), m.I 82 (by decide), m.I 83 (by decide), m.I 84 (by decide), m.I 85 (by decide), m.I 87 (by decide), m.I 88 (by decide), m.I 90 (by decide), m.I 91 (by decide), m.I 94 (by decide), m.I 95 (by decide), m.I 96 (by decide), m.I 99 (by decide), m.I 100 (by decide)]
      exact this
    have last : rng (t'.I 105 r') 0 880 ∧ (∀ j, j < cN t' r' → mRw t' r' (2700 * r' + j)) ∧ ∀ i j, i < j → j < cN t' r' → mKy t' 106 107 108 109 (2700 * r' + i) < mKy t' 106 107 108 109 (2700 * r' + j) := by
      by_cases cc : r' = r
      · subst cc
        exact ⟨h5, hrow, hs⟩
      · have e5 : cN t' r' = cN t r' := by unfold cN; rw [m5 r' cc]
        rw [e5, m5 r' cc]
        refine ⟨a13, fun j hj => (a14 j hj).mv (e4 r') (fun g hg => mI g hg _ (by omega)) (fun g hg => mJ g hg _ (by omega)), fun i j hi hj => ?_⟩
        have := a15 i j hi hj
        unfold mKy at this ⊢
        rw [mI 106 (by decide) _ (by omega), mI 109 (by decide) _ (by omega), mJ 107 (by decide) _ (by omega), mJ 108 (by decide) _ (by omega), mI 106 (by decide) _ (by omega), mI 109 (by decide) _ (by omega), mJ 107 (by decide) _ (by omega), mJ 108 (by decide) _ (by omega)]
        exact this
    unfold mVr
    rw [e4, e1, e2, m.J 38 (by decide), m.I 39 (by decide), m.I 40 (by decide), m.I 41 (by decide), m.I 42 (by decide), m.I 46 (by decide), m.I 47 (by decide), m.I 50 (by decide), m.I 51 (by decide), m.I 52 (by decide), m.I 53 (by decide), m.I 54 (by decide), m.I 57 (by decide), m.I 58 (by decide), m.I 59 (by decide), m.I 60 (by decide), m.I 61 (by decide), m.I 62 (by decide), m.I 63 (by decide), m.I 64 (by decide), m.I 65 (by decide), m.I 66 (by decide), m.I 67 (by decide), m.I 68 (by decide), m.I 69 (by decide), m.I 70 (by decide), m.I 71 (by decide)]
    exact ⟨a1, a2, a3, a4, a5, a6, a7, a8, a9, a10, vi, a12, last⟩
  · obtain ⟨-, -, -, -, -, z⟩ := h
    obtain ⟨w1, w2⟩ := z.2.2.1 r' h1 h2
    rw [m.I 46 (by decide), m5 r' (by omega)]
    exact ⟨w1.1, w1.2.2.2.2.2.2, fun i hi => by rw [m45 _ (by omega)]; exact w2 i hi⟩
end Mw
