/-! What changes with tables: routes, own routes, told routes; routers' counts and times. -/
abbrev Rtb : List Nat := [9, 10, 11, 18, 23, 24, 26, 27, 28, 36, 37, 38, 39, 104]
abbrev Rtt : List Nat := [9, 10, 11, 18, 23, 24, 25, 26, 27, 28, 29, 33, 34, 35, 36, 37, 38, 39, 104]
abbrev Ptb : List (Nat × Nat) := [(166, 23), (166, 24), (200, 27), (200, 28)]
abbrev Ptt : List (Nat × Nat) := [(166, 23), (166, 24), (166, 25), (200, 27), (200, 28), (200, 29)]
abbrev Qtb : List Nat := [135, 145]
abbrev Qtt : List Nat := [135, 144, 145]
abbrev Wtb : List Nat := [43, 44, 45, 46, 47, 48, 49, 50, 51, 52, 105, 106, 107, 108, 109, 110, 111, 112, 113, 114, 115, 116, 117, 118, 119, 120, 121, 122, 153, 154, 155, 156]
abbrev Gtb : List Nat := [4, 6, 7, 13, 14, 15, 16]
section Tb
variable {G G' H : Nat → Nat → Nat} {sa : Nat → Nat} {x : Nat} {s s' : cS} {t t' : moS}
theorem rpy_fr2 {Rv Rq W : List Nat} {Gp : List (Nat × Nat)} {r : Nat} (h : RPy G H s t r) (hT : TY cNo H s) (hr : (s.K (G 1 r)).1 = 26) (h8 : (t.I 59 r).toNatClampNeg ≤ 8 ∧ (t.I 63 r).toNatClampNeg ≤ 8) (f : fr Rv Gp Rq s s') (m : mfr W t t') (h26 : s'.I 190 (G 1 r) = s.I 190 (G 1 r) ∧ s'.I 192 (G 1 r) = s.I 192 (G 1 r)) (d1 : dj [100, 128, 121, 122] Rv) (d3 : dj [140, 141] Rq) (d4 : dj [59, 60, 61, 62, 63, 64, 65, 66, 67, 68, 69] W) : RPy G H s' t' r := by
  obtain ⟨a, b, c, d, e⟩ := h
  have k1 := (hT.r hr 189 140 8).2
  have k2 := (hT.r hr 191 141 8).2
  have k3 := (hT.r hr 193 121 2).2
  have k4 := (hT.r hr 194 122 2).2
  unfold RPy
  rw [m.I 59 (d4.n 59), m.I 60 (d4.n 60), m.I 61 (d4.n 61), m.I 62 (d4.n 62), m.I 63 (d4.n 63), m.I 64 (d4.n 64), m.I 65 (d4.n 65), m.I 66 (d4.n 66), m.I 67 (d4.n 67), m.I 68 (d4.n 68), m.I 69 (d4.n 69), f.q (a := H 189 (G 1 r)) (u := 140) (by rw [k1]) (d3.n 140), f.q (a := H 191 (G 1 r)) (u := 141) (by rw [k2]) (d3.n 141), (f.v (a := H 193 (G 1 r)) (u := 121) (by rw [k3]) (d1.n 121)).2.2, (f.v (a := H 194 (G 1 r)) (u := 122) (by rw [k4]) (d1.n 122)).2.2, h26.1, h26.2]
  refine ⟨a, fun k hk => ?_, fun k hk => ?_, fun k hk => ?_, e⟩
  · obtain ⟨b1, b2, b3, b4⟩ := b k hk
    exact ⟨b1, f.k b2, b3, f.k b4⟩
  · rw [(f.v (a := G 9 (8 * r + k)) (u := 100) (by rw [(b k (by omega)).2.1]) (d1.n 100)).2.2]
    exact c k hk
  · rw [(f.v (a := G 10 (8 * r + k)) (u := 128) (by rw [(b k (by omega)).2.2.2]) (d1.n 128)).2.2]
    exact d k hk
theorem RFl.g (h : RFl G H x s t) (e : ∀ b, b ∉ Gtb → G' b = G b) : RFl G' H x s t := by
  unfold RFl RDg at h ⊢
  rw [e 0 (by decide), e 1 (by decide), e 11 (by decide), e 12 (by decide)]
  exact h
theorem RPo.g {r p : Nat} (h : RPo G H s t r p) (e : ∀ b, b ∉ Gtb → G' b = G b) : RPo G' H s t r p := by
  unfold RPo RAd RCh RSo at h ⊢
  rw [e 0 (by decide), e 1 (by decide), e 2 (by decide), e 8 (by decide)]
  exact h
theorem rr_tb (h : RR G H sa x s t) (hM : MV t) (e : ∀ b, b ∉ Gtb → G' b = G b) (hg : RGl G' H sa x s') (hi : RIn G' t') (f : fr Rtt Ptt Qtt s s') (m : mfr Wtb t t') (h26 : ∀ r, r < cR t → s'.I 190 (G 1 r) = s.I 190 (G 1 r) ∧ s'.I 192 (G 1 r) = s.I 192 (G 1 r)) (hr : ∀ r, r < cR t → RRt G H sa x s' t' r ∧ RTb G' H s' t' r ∧ RSt G' H s' t' r) : RR G' H sa x s' t' := by
  obtain ⟨⟨a, b, c, e', g, i, j⟩, htx⟩ := h.q
  have hT := a.2.1
  have hx := a.1
  have ht := hg.2.2.1
  have e1 : cL t' = cL t := by unfold cL; rw [m.S 17 (by decide)]
  have e2 : cS' t' = cS' t := by unfold cS'; rw [m.S 27 (by decide)]
  have e3 : cR t' = cR t := by unfold cR; rw [m.S 37 (by decide)]
  have e4 : ∀ r, cI t' r = cI t r := fun r => by unfold cI; rw [m.I 70 (by decide)]
  obtain ⟨v1, v2, v3⟩ := f.v hx (by decide)
  refine RQ.r ⟨hg, hi, ?_, ?_, ?_, ?_, (j.fr hT hx f m ⟨v1 233, v1 235⟩ rfl rfl rfl rfl).g e⟩ (htx.fr hT hx f m rfl rfl rfl)
  · rw [v1, v1, v1, v1, v1, m.S 4 (by decide), m.S 1 (by decide), m.S 17 (by decide), m.S 37 (by decide), m.S 27 (by decide)]
    exact c
  · rw [e1]
    intro k hk
    have := (e' k hk).fr hT hx f ht m rfl rfl rfl rfl
    unfold RLk at this ⊢
    rw [e 0 (by decide)]
    exact this
  · rw [e2]
    intro k hk
    have := (g k hk).fr hT hx f ht m rfl rfl rfl rfl
    unfold RLs at this ⊢
    rw [e 3 (by decide)]
    exact this
  · rw [e3]
    intro r hr'
    obtain ⟨i1, i2, i3, i4, i5, i6, i7⟩ := i r hr'
    obtain ⟨k1, k2, k3⟩ := hr r hr'
    have hv := hM.r hr'
    have j4 := i4.fr hT i1.1.1 f m rfl rfl rfl
    have j5 := i5.fr hT i1.1.1 f m rfl rfl rfl
    have j6 := rpy_fr2 i6 hT i1.1.1 ⟨hv.2.2.2.2.2.2.1.1.n.2.2, hv.2.2.2.2.2.2.2.1.1.n.2.2⟩ f m (h26 r hr') rfl rfl rfl
    refine ⟨?_, k2, k3, ?_, ?_, ?_, ?_⟩
    · unfold RRt at k1 ⊢
      rw [e 1 (by decide)]
      exact k1
    · unfold RFi at j4 ⊢
      rw [e 1 (by decide), e 5 (by decide)]
      exact j4
    · unfold RFi at j5 ⊢
      rw [e 1 (by decide), e 5 (by decide)]
      exact j5
    · unfold RPy at j6 ⊢
      rw [e 1 (by decide), e 9 (by decide), e 10 (by decide)]
      exact j6
    · rw [e4]
      intro p hp
      exact ((i7 p hp).fr hT i1.1.1 (hv.i hp).2.2.2.2.2.2.2.2.2.2.1.n.2.2 f m rfl rfl rfl rfl).g e
/-- the model's side of it -/
theorem MV.tb (h : MV t) (m : mfr Wtb t t') (hr : ∀ r, r < cR t → mVr t' r) (hz : ∀ r, cR t ≤ r → r < 6 → t'.I 46 r = 0 ∧ t'.I 105 r = 0 ∧ ∀ i, i < 11 → t'.I 45 (11 * r + i) = 0) : MV t' := by
  obtain ⟨h0, h1, h2, h3, h4, h5⟩ := h
  have e1 : cL t' = cL t := by unfold cL; rw [m.S 17 (by decide)]
  have e2 : cS' t' = cS' t := by unfold cS'; rw [m.S 27 (by decide)]
  have e3 : cR t' = cR t := by unfold cR; rw [m.S 37 (by decide)]
  have e4 : ∀ r, cI t' r = cI t r := fun r => by unfold cI; rw [m.I 70 (by decide)]
  refine ⟨h0.fr m rfl, ?_, ?_, ?_, h4.fr m rfl, ?_⟩
  · rw [e1]; exact fun i hi => (h1 i hi).fr m rfl
  · rw [e2]; exact fun i hi => (h2 i hi).fr m rfl
  · rw [e3]; exact hr
  · obtain ⟨q1, q2, q3, q4, q5, q6⟩ := h5
    refine ⟨?_, ?_, ?_, ?_, ?_, ?_⟩
    · rw [e1, m.I 23 (by decide), m.I 24 (by decide), m.I 25 (by decide)]; exact q1
    · rw [e2, m.I 29 (by decide)]; exact q2
    · rw [e3]
      intro r hr' h6
      obtain ⟨⟨w1, w2, w3, w4, w5, w6, w7⟩, w8⟩ := q3 r hr' h6
      obtain ⟨y1, y2, y3⟩ := hz r hr' h6
      rw [m.I 53 (by decide), m.I 59 (by decide), m.I 63 (by decide), m.I 70 (by decide)]
      exact ⟨⟨y1, w2, w3, w4, w5, w6, y2⟩, y3⟩
    · intro r p h6 hp h4'
      rw [e4] at hp
      unfold mZi
      rw [m.I 74 (by decide), m.I 75 (by decide), m.I 79 (by decide), m.I 82 (by decide), m.I 89 (by decide), m.I 90 (by decide), m.I 95 (by decide), m.I 99 (by decide), m.I 100 (by decide)]
      exact q4 r p h6 hp h4'
    · rw [m.S 101 (by decide), m.2 102 (Or.inl (by decide))]; exact q5
    · rw [m.S 101 (by decide), e3, m.I 102 (by decide)]
      simp only [e4]
      exact q6
end Tb
