/-! What a line changes of what was told: interfaces, timers, filters, lists' entries. -/
abbrev Rc : List Nat := [4, 5, 8, 14, 15, 16, 17, 19, 20, 21, 22, 26, 100, 102, 103, 105, 106, 107, 108, 109, 110, 111, 112, 113, 114, 116, 119, 121, 122, 123, 126, 127, 128]
abbrev Pc : List (Nat × Nat) := [(81, 8), (82, 8)]
abbrev Qc : List Nat := [136, 137, 138]
abbrev Wp : List Nat := [12, 13, 14, 15, 16, 72, 73, 74, 75, 76, 77, 78, 79, 80, 81, 82, 83, 84, 85, 86, 87, 88, 89, 90, 91, 92, 93, 94, 95, 96, 97, 98, 99, 100]
abbrev Wc : List Nat := [12, 13, 14, 15, 16, 29, 30, 31, 32, 33, 34, 35, 36, 40, 41, 42, 53, 54, 55, 56, 57, 58, 59, 60, 61, 62, 63, 64, 65, 66, 67, 68, 69, 72, 73, 74, 75, 76, 77, 78, 79, 80, 81, 82, 83, 84, 85, 86, 87, 88, 89, 90, 91, 92, 93, 94, 95, 96, 97, 98, 99, 100]
section Cf
variable {G H : Nat → Nat → Nat} {sa : Nat → Nat} {x kc ks : Nat} {s s' : cS} {t t' : moS}
theorem rr_cf (h : RR G H sa x s t) (hM : MV t) (hg : RGl G H sa x s') (f : fr Rc Pc Qc s s') (h199 : ∀ r, r < cR t → s'.I 199 (G 1 r) = s.I 199 (G 1 r)) (m : mfr Wc t t') (hl : ∀ i, i < cS' t → RLs G H sa x s' t' i) (hr : ∀ r, r < cR t → RRt G H sa x s' t' r ∧ RFi G H s' t' r 0 ∧ RFi G H s' t' r 1 ∧ RPy G H s' t' r ∧ ∀ p, p < cI t r → RPo G H s' t' r p) : RR G H sa x s' t' := by
  obtain ⟨⟨a, b, c, e, g, i, j⟩, htx⟩ := h.q
  have hT := a.2.1
  have hx := a.1
  have ht := hg.2.2.1
  have e1 : cL t' = cL t := by unfold cL; rw [m.S 17 (by decide)]
  have e2 : cS' t' = cS' t := by unfold cS'; rw [m.S 27 (by decide)]
  have e3 : cR t' = cR t := by unfold cR; rw [m.S 37 (by decide)]
  have e4 : ∀ r, cI t' r = cI t r := fun r => by unfold cI; rw [m.I 70 (by decide)]
  obtain ⟨v1, v2, v3⟩ := f.v hx (by decide)
  refine RQ.r ⟨hg, b.fr m rfl, ?_, ?_, ?_, ?_, j.fr hT hx f m ⟨v1 233, v1 235⟩ rfl rfl rfl rfl⟩ (htx.fr hT hx f m rfl rfl rfl)
  · rw [v1, v1, v1, v1, v1, m.S 4 (by decide), m.S 1 (by decide), m.S 17 (by decide), m.S 37 (by decide), m.S 27 (by decide)]
    exact c
  · rw [e1]; exact fun k hk => (e k hk).fr hT hx f ht m rfl rfl rfl rfl
  · rw [e2]; exact hl
  · rw [e3]
    intro r hr'
    obtain ⟨i1, i2, i3, i4, i5, i6, i7⟩ := i r hr'
    obtain ⟨k1, k2, k3, k4, k5⟩ := hr r hr'
    refine ⟨k1, i2.fr hT i1.1.1 f (h199 r hr') m rfl rfl rfl rfl, i3.fr hT i1.1.1 f m rfl rfl rfl rfl, k2, k3, k4, ?_⟩
    rw [e4]
    exact k5
/-- only interfaces are others -/
theorem rr_po (h : RR G H sa x s t) (hM : MV t) (hg : RGl G H sa x s') (f : fr [4, 5, 8, 14, 15, 16, 19, 22, 103, 107, 108, 109, 110, 111, 112, 113, 114, 116, 119, 126, 127] [(81, 8), (82, 8)] [136, 137] s s') (m : mfr Wp t t') (hp : ∀ r p, r < cR t → p < cI t r → RPo G H s' t' r p) : RR G H sa x s' t' := by
  have hq := h.q.1
  have hT := hq.ty
  have hx := hq.1.1
  have ht := hg.2.2.1
  refine rr_cf h hM hg f.wk (fun r hr => (f.v (hq.rt hr).1.1 (by decide)).1 199) (m.wk (by decide)) (fun i hi => (hq.2.2.2.2.1 i hi).fr hT hx f ht m rfl rfl rfl rfl) fun r hr => ?_
  obtain ⟨i1, i2, i3, i4, i5, i6, i7⟩ := hq.2.2.2.2.2.1 r hr
  have hv := hM.r hr
  exact ⟨i1.fr hT hx f ht m rfl rfl rfl rfl, i4.fr hT i1.1.1 f m rfl rfl rfl, i5.fr hT i1.1.1 f m rfl rfl rfl, i6.fr hT i1.1.1 ⟨hv.2.2.2.2.2.2.1.1.n.2.2, hv.2.2.2.2.2.2.2.1.1.n.2.2⟩ f m rfl rfl rfl, fun p hp' => hp r p hr hp'⟩
theorem mVr.po {r : Nat} (h : mVr t r) (m : mfr Wp t t') (hi : ∀ p, p < cI t r → mVi t' (4 * r + p)) : mVr t' r := by
  obtain ⟨a1, a2, a3, a4, a5, a6, a7, a8, a9, a10, a11, a12, a13, a14, a15⟩ := h
  have e4 : cI t' r = cI t r := by unfold cI; rw [m.I 70 (by decide)]
  refine ⟨?_, ?_, ?_, ?_, ?_, ?_, ?_, ?_, ?_, ?_, ?_, ?_, ?_, ?_, ?_⟩
  · rw [m.J 38 (by decide)]; exact a1
  · rw [m.I 39 (by decide)]; exact a2
  · rw [m.I 40 (by decide), m.I 41 (by decide), m.I 42 (by decide)]; exact a3
  · rw [m.I 46 (by decide)]; exact a4
  · rw [m.I 46 (by decide), m.I 47 (by decide), m.I 50 (by decide), m.I 51 (by decide), m.I 52 (by decide)]; exact a5
  · rw [m.I 53 (by decide), m.I 54 (by decide), m.I 57 (by decide), m.I 58 (by decide)]; exact a6
  · unfold cL cS' at a7 ⊢
    rw [m.I 59 (by decide), m.I 60 (by decide), m.I 61 (by decide), m.I 62 (by decide), m.S 17 (by decide), m.S 27 (by decide)]; exact a7
  · unfold cL cS' at a8 ⊢
    rw [m.I 63 (by decide), m.I 64 (by decide), m.I 65 (by decide), m.I 66 (by decide), m.I 67 (by decide), m.S 17 (by decide), m.S 27 (by decide)]; exact a8
  · rw [m.I 68 (by decide), m.I 69 (by decide)]; exact a9
  · rw [m.I 70 (by decide)]; exact a10
  · rw [e4]; exact hi
  · rw [e4, m.I 71 (by decide)]; exact a12
  · rw [m.I 105 (by decide)]; exact a13
  · unfold mRw cN cI at a14 ⊢
    rw [m.I 105 (by decide), m.I 106 (by decide), m.I 109 (by decide), m.I 110 (by decide), m.I 111 (by decide), m.I 112 (by decide), m.I 113 (by decide), m.J 114 (by decide), m.J 115 (by decide), m.I 116 (by decide), m.I 119 (by decide), m.I 70 (by decide)]; exact a14
  · unfold mKy cN at a15 ⊢
    rw [m.I 105 (by decide), m.I 106 (by decide), m.J 107 (by decide), m.J 108 (by decide), m.I 109 (by decide)]; exact a15
theorem MV.cf (h : MV t) (m : mfr Wc t t') (hs : ∀ i, i < cS' t → mVs t' i) (hr : ∀ r, r < cR t → mVr t' r) (z1 : ∀ i, cS' t ≤ i → i < 8 → t'.I 29 i = 0) (z2 : ∀ r, cR t ≤ r → r < 6 → t'.I 53 (2 * r) = 0 ∧ t'.I 53 (2 * r + 1) = 0 ∧ t'.I 59 r = 0 ∧ t'.I 63 r = 0) (z3 : ∀ r p, r < 6 → cI t r ≤ p → p < 4 → mZi t' (4 * r + p)) : MV t' := by
  obtain ⟨h0, h1, h2, h3, h4, h5⟩ := h
  have e1 : cL t' = cL t := by unfold cL; rw [m.S 17 (by decide)]
  have e2 : cS' t' = cS' t := by unfold cS'; rw [m.S 27 (by decide)]
  have e3 : cR t' = cR t := by unfold cR; rw [m.S 37 (by decide)]
  have e4 : ∀ r, cI t' r = cI t r := fun r => by unfold cI; rw [m.I 70 (by decide)]
  refine ⟨h0.fr m rfl, ?_, ?_, ?_, h4.fr m rfl, ?_⟩
  · rw [e1]; exact fun i hi => (h1 i hi).fr m rfl
  · rw [e2]; exact hs
  · rw [e3]; exact hr
  · obtain ⟨q1, q2, q3, q4, q5, q6⟩ := h5
    refine ⟨?_, ?_, ?_, ?_, ?_, ?_⟩
    · rw [e1, m.I 23 (by decide), m.I 24 (by decide), m.I 25 (by decide)]; exact q1
    · rw [e2]; exact z1
    · rw [e3]
      intro r hr' h6
      obtain ⟨⟨w1, w2, w3, w4, w5, w6, w7⟩, w8⟩ := q3 r hr' h6
      obtain ⟨y1, y2, y3, y4⟩ := z2 r hr' h6
      rw [m.I 46 (by decide), m.I 70 (by decide), m.I 105 (by decide), m.I 45 (by decide)]
      exact ⟨⟨w1, y1, y2, y3, y4, w6, w7⟩, w8⟩
    · intro r p h6 hp h4'
      rw [e4] at hp
      exact z3 r p h6 hp h4'
    · rw [m.S 101 (by decide), m.2 102 (Or.inl (by decide))]; exact q5
    · rw [m.S 101 (by decide), e3, m.I 102 (by decide)]
      simp only [e4]
      exact q6
theorem MV.po (h : MV t) (m : mfr Wp t t') (hi : ∀ r p, r < cR t → p < cI t r → mVi t' (4 * r + p)) (z3 : ∀ r p, r < 6 → cI t r ≤ p → p < 4 → mZi t' (4 * r + p)) : MV t' := by
  obtain ⟨h0, h1, h2, h3, h4, h5⟩ := id h
  obtain ⟨q1, q2, q3, q4, q5, q6⟩ := h5
  refine h.cf (m.wk (by decide)) (fun i hi => (h2 i hi).fr m rfl) (fun r hr => (h3 r hr).po m fun p hp => hi r p hr hp) ?_ ?_ z3
  · rw [m.I 29 (by decide)]; exact q2
  · rw [m.I 53 (by decide), m.I 59 (by decide), m.I 63 (by decide)]
    intro r hr h6
    obtain ⟨⟨w1, w2, w3, w4, w5, w6, w7⟩, w8⟩ := q3 r hr h6
    exact ⟨w2, w3, w4, w5⟩
/-- an interface's numbers -/
theorem rpo_sc {r p : Nat} (h : RPo G H s t r p) (hT : TY cNo H s) (hr : (s.K (G 1 r)).1 = 26) (h4' : (t.I 82 (4 * r + p)).toNatClampNeg ≤ 4) (f : fr [8] [] [] s s') (m : mfr [72, 73, 74, 99, 100] t t') (h98 : s'.I 98 (G 2 (4 * r + p)) = s.I 98 (G 2 (4 * r + p))) (sc : s'.I 83 (G 2 (4 * r + p)) = t'.I 72 (4 * r + p) ∧ spl (s'.I 84 (G 2 (4 * r + p))) (t'.J 73 (4 * r + p)) ∧ s'.I 85 (G 2 (4 * r + p)) = t'.I 74 (4 * r + p) ∧ s'.I 88 (G 2 (4 * r + p)) = t'.I 90 (4 * r + p) ∧ s'.I 92 (G 2 (4 * r + p)) = t'.I 95 (4 * r + p) ∧ s'.I 93 (G 2 (4 * r + p)) = t'.I 99 (4 * r + p) ∧ s'.I 94 (G 2 (4 * r + p)) = t'.I 100 (4 * r + p) ∧ s'.I 95 (G 2 (4 * r + p)) = t'.I 89 (4 * r + p)) : RPo G H s' t' r p := by
  obtain ⟨⟨a1, a2, a3⟩, b1, b2, c, d, e, g, k⟩ := h
  have g' := g.fr hT a1 h4' f m rfl rfl rfl rfl
  have k' : RSo G s' t' (4 * r + p) := by
    obtain ⟨z, w1, w2, cap, y1, y2, y3, y4, y5, y6, y7, y8⟩ := k
    have em : msL t' (4 * r + p) = msL t (4 * r + p) := by
      unfold msL
      rw [m.S 101 (by decide), m.I 102 (by decide)]
    unfold RSo
    rw [em, m.J 103 (by decide), m.J 104 (by decide), f.p a1 (by decide), f.p a1 (by decide), h98]
    refine ⟨z, w1, w2, cap, y1, y2, f.k y3, f.k y4, y5, y6, y7, fun i hi => ?_⟩
    rw [(f.v (a := w1) (u := 115) (by rw [y3]) (by decide)).2.2, (f.v (a := w2) (u := 120) (by rw [y4]) (by decide)).2.2]
    exact y8 i hi
  refine ⟨⟨f.r a1, ?_, ?_⟩, b1.fr a1 f m rfl (by decide) rfl, b2.fr a1 f m rfl (by decide) rfl, sc, ?_, ?_, g', k'⟩
  · rw [f.q (a := H 184 (G 1 r)) (u := 139) (by rw [(hT.r hr 184 139 4).2]) (by decide)]; exact a2
  · rw [m.I 71 (by decide)]; exact a3
  · rw [m.I 90 (by decide), m.I 91 (by decide), m.J 92 (by decide), m.J 93 (by decide), m.I 94 (by decide), f.q (a := H 87 (G 2 (4 * r + p))) (u := 136) (by rw [(hT.r a1 87 136 4).2]) (by decide)]
    intro j hj
    obtain ⟨q, q1, q2, q3⟩ := d j hj
    exact ⟨q, q1, f.r q2, q3.fr f q2 (by decide)⟩
  · rw [m.I 95 (by decide), m.I 96 (by decide), m.J 97 (by decide), m.J 98 (by decide), f.q (a := H 91 (G 2 (4 * r + p))) (u := 137) (by rw [(hT.r a1 91 137 4).2]) (by decide)]
    intro j hj
    obtain ⟨q, n, q1, q2, q3⟩ := e j hj
    exact ⟨q, n, q1, f.r q2, q3.fr f q2 (by decide)⟩
end Cf
