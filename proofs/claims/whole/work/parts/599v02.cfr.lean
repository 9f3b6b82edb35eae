/-! What stays of the relation, part by part. -/
section Mf
variable {W : List Nat} {t t' : moS}
theorem mfr.S (m : mfr W t t') (k : Nat) (h : k ∉ W) : t'.S k = t.S k := (m.1 k h).1
theorem mfr.Z (m : mfr W t t') (k : Nat) (h : k ∉ W) : t'.Z k = t.Z k := (m.1 k h).2.1
theorem mfr.I (m : mfr W t t') (k : Nat) (h : k ∉ W) : t'.I k = t.I k := (m.1 k h).2.2.1
theorem mfr.J (m : mfr W t t') (k : Nat) (h : k ∉ W) : t'.J k = t.J k := (m.1 k h).2.2.2
end Mf
section Cf
variable {Rv Rq W : List Nat} {Gp : List (Nat × Nat)} {s s' : cS} {t t' : moS} {G H : Nat → Nat → Nat} {sa : Nat → Nat} {x : Nat}
theorem RLk.fr {i : Nat} (h : RLk G H sa x s t i) (hT : TY cNo H s) (hx : (s.K x).1 = 30) (f : fr Rv Gp Rq s s') (ht : TK sa s') (m : mfr W t t') (d1 : dj [7, 2, 125, 31, 118] Rv) (d2 : djp [(60, 7), (0, 2), (260, 31)] Gp) (d3 : dj [130] Rq) (d4 : dj [18, 19, 20, 21, 22, 23, 24, 25, 26] W) : RLk G H sa x s' t' i := by
  obtain ⟨⟨a1, a2⟩, ⟨nm, b1, b2, b3⟩, c, cap, e1, e2⟩ := h
  obtain ⟨v1, v2, v3⟩ := f.v a1 (d1.n 7)
  unfold RLk
  rw [m.J 18 (d4.n 18), m.I 19 (d4.n 19), m.I 20 (d4.n 20), m.I 21 (d4.n 21), m.I 22 (d4.n 22), m.I 23 (d4.n 23), m.I 24 (d4.n 24), m.I 25 (d4.n 25), m.I 26 (d4.n 26)]
  simp only [v1]
  refine ⟨⟨f.r a1, ?_⟩, ⟨nm, ?_, b2.fr f (d1.n 31) (d1.n 118) (d2.n (260, 31)) ht, b3⟩, c, cap, e1, e2.fr f (hT.p a1 67 2).2 (d1.n 2) (d1.n 125) (d2.n (0, 2))⟩
  · rw [f.q (a := H 226 x) (u := 130) (by rw [(hT.r hx 226 130 10).2]) (d3.n 130)]; exact a2
  · rw [f.p a1 (d2.n (60, 7))]; exact b1
theorem RPl.fr {a n u : Nat} {ff g per le mo : Nat → Int32} {h l : Nat → Int64} (hr : RPl H s a n ff h l g per le mo) (hT : TY cNo H s) (ha : (s.K a).1 = u) (hu : u = 20 ∨ u = 21) (f : fr Rv Gp Rq s s') (d1 : dj [20, 21, 17, 102, 105, 106] Rv) (d3 : dj [138] Rq) : RPl H s' a n ff h l g per le mo := by
  obtain ⟨e1, e2⟩ := hr
  have hN : ∃ N, s.K (H 121 a) = (138, N) ∧ s.K (H 122 a) = (102, N) ∧ s.K (H 123 a) = (105, N) ∧ s.K (H 124 a) = (106, N) := by
    rcases hu with rfl | rfl
    · exact ⟨16, (hT.r ha 121 138 16).2, (hT.r ha 122 102 16).2, (hT.r ha 123 105 16).2, (hT.r ha 124 106 16).2⟩
    · exact ⟨32, (hT.r ha 121 138 32).2, (hT.r ha 122 102 32).2, (hT.r ha 123 105 32).2, (hT.r ha 124 106 32).2⟩
  obtain ⟨N, k1, k2, k3, k4⟩ := hN
  have hv : s'.I 125 a = s.I 125 a := by
    rcases hu with rfl | rfl
    · exact (f.v ha (d1.n 20)).1 125
    · exact (f.v ha (d1.n 21)).1 125
  refine ⟨by rw [hv]; exact e1, fun k hk => ?_⟩
  obtain ⟨p, p1, p2, p3, p4, p5, p6⟩ := e2 k hk
  refine ⟨p, ?_, f.r p2, p3.fr f p2 (d1.n 17), ?_, ?_, ?_⟩
  · rw [f.q (a := H 121 a) (u := 138) (by rw [k1]) (d3.n 138)]; exact p1
  · rw [(f.v (a := H 122 a) (u := 102) (by rw [k2]) (d1.n 102)).2.2]; exact p4
  · rw [(f.v (a := H 123 a) (u := 105) (by rw [k3]) (d1.n 105)).2.2]; exact p5
  · rw [(f.v (a := H 124 a) (u := 106) (by rw [k4]) (d1.n 106)).2.2]; exact p6
theorem RLs.fr {i : Nat} (h : RLs G H sa x s t i) (hT : TY cNo H s) (hx : (s.K x).1 = 30) (f : fr Rv Gp Rq s s') (ht : TK sa s') (m : mfr W t t') (d1 : dj [20, 21, 17, 102, 105, 106, 31, 118] Rv) (d2 : djp [(120, 20), (260, 31)] Gp) (d3 : dj [132, 138] Rq) (d4 : dj [28, 29, 30, 31, 32, 33, 34, 35, 36] W) : RLs G H sa x s' t' i := by
  obtain ⟨⟨a1, a2⟩, ⟨nm, b1, b2, b3⟩, c⟩ := h
  unfold RLs
  rw [m.J 28 (d4.n 28), m.I 29 (d4.n 29), m.I 30 (d4.n 30), m.I 31 (d4.n 31), m.J 32 (d4.n 32), m.J 33 (d4.n 33), m.I 34 (d4.n 34), m.I 35 (d4.n 35), m.I 36 (d4.n 36)]
  refine ⟨⟨f.r a1, ?_⟩, ⟨nm, ?_, b2.fr f (d1.n 31) (d1.n 118) (d2.n (260, 31)) ht, b3⟩, c.fr hT a1 (Or.inl rfl) f ?_ ?_⟩
  · rw [f.q (a := H 230 x) (u := 132) (by rw [(hT.r hx 230 132 8).2]) (d3.n 132)]; exact a2
  · rw [f.p a1 (d2.n (120, 20))]; exact b1
  · exact List.all_eq_true.mpr fun u hu => List.all_eq_true.mp d1 u (by revert hu; revert u; decide)
  · exact List.all_eq_true.mpr fun u hu => List.all_eq_true.mp d3 u (by revert hu; revert u; decide)
theorem RFi.fr {r w : Nat} (h : RFi G H s t r w) (hT : TY cNo H s) (hr : (s.K (G 1 r)).1 = 26) (f : fr Rv Gp Rq s s') (m : mfr W t t') (d1 : dj [20, 21, 17, 102, 105, 106] Rv) (d3 : dj [143, 138] Rq) (d4 : dj [53, 54, 55, 56, 57, 58] W) : RFi G H s' t' r w := by
  obtain ⟨⟨a1, a2⟩, c⟩ := h
  unfold RFi
  rw [m.I 53 (d4.n 53), m.I 54 (d4.n 54), m.J 55 (d4.n 55), m.J 56 (d4.n 56), m.I 57 (d4.n 57), m.I 58 (d4.n 58)]
  refine ⟨⟨f.r a1, ?_⟩, c.fr hT a1 (Or.inr rfl) f d1 ?_⟩
  · rw [f.q (a := H 188 (G 1 r)) (u := 143) (by rw [(hT.r hr 188 143 2).2]) (d3.n 143)]; exact a2
  · exact List.all_eq_true.mpr fun u hu => List.all_eq_true.mp d3 u (by revert hu; revert u; decide)
theorem RRt.fr {r : Nat} (h : RRt G H sa x s t r) (hT : TY cNo H s) (hx : (s.K x).1 = 30) (f : fr Rv Gp Rq s s') (ht : TK sa s') (m : mfr W t t') (d1 : dj [26, 123, 104, 31, 118] Rv) (d2 : djp [(181, 26), (260, 31)] Gp) (d3 : dj [131] Rq) (d4 : dj [38, 39, 40, 41, 42, 43, 44, 45, 70] W) : RRt G H sa x s' t' r := by
  obtain ⟨⟨a1, a2, a3⟩, ⟨nm, b1, b2, b3⟩, c, e, g⟩ := h
  obtain ⟨v1, v2, v3⟩ := f.v a1 (d1.n 26)
  have k1 := (hT.r a1 195 123 3).2
  have k2 := (hT.r a1 196 104 11).2
  have w1 := (f.v (a := H 195 (G 1 r)) (u := 123) (by rw [k1]) (d1.n 123)).2.2
  have w2 := (f.v (a := H 196 (G 1 r)) (u := 104) (by rw [k2]) (d1.n 104)).2.2
  unfold RRt
  rw [m.J 38 (d4.n 38), m.I 39 (d4.n 39), m.I 40 (d4.n 40), m.I 41 (d4.n 41), m.I 42 (d4.n 42), m.I 43 (d4.n 43), m.I 44 (d4.n 44), m.I 45 (d4.n 45), m.I 70 (d4.n 70), w1, w2]
  simp only [v1]
  refine ⟨⟨f.r a1, ?_, a3⟩, ⟨nm, ?_, b2.fr f (d1.n 31) (d1.n 118) (d2.n (260, 31)) ht, b3⟩, c, e, g⟩
  · rw [f.q (a := H 228 x) (u := 131) (by rw [(hT.r hx 228 131 6).2]) (d3.n 131)]; exact a2
  · rw [f.p a1 (d2.n (181, 26))]; exact b1
theorem RTa.fr {tb u ur n hw mx v : Nat} {g : Nat → Nat} (h : RTa s tb u ur n hw mx g) (f : fr Rv Gp Rq s s') (hv : (s.K tb).1 = v) (h0 : v ≠ 0 ∧ u ≠ 0 ∧ ur ≠ 0) (h1 : v ∉ Rv) (h2 : (200, v) ∉ Gp) (h3 : u ∉ Rq) : RTa s' tb u ur n hw mx g := by
  obtain ⟨a1, a2, a3, w, cap, b1, b2, b3, b4, b5, b6, b7, b8⟩ := h
  have hq := f.q (a := w) (u := u) (by rw [b2]) h3 h0.2.1
  refine ⟨by rw [(f.v hv h1 h0.1).1]; exact a1, a2, a3, w, cap, by rw [f.p hv h2 h0.1]; exact b1, f.k b2 h0.2.1, b3, b4, b5, fun j hj => ?_, fun j hj => by rw [hq]; exact b7 j hj, b8⟩
  rw [hq]
  exact ⟨(b6 j hj).1, f.r (b6 j hj).2 h0.2.2⟩
theorem RW.fr {a k : Nat} (h : RW G H s t a k) (hT : TY cNo H s) (ha : (s.K a).1 = 23) (f : fr Rv Gp Rq s s') (m : mfr W t t') (d1 : dj [23, 9, 10, 11] Rv) (d2 : djp [(166, 23)] Gp) (d4 : dj [106, 107, 108, 109, 110, 111, 112, 113, 114, 115, 117, 118, 119, 120, 121, 122] W) : RW G H s' t' a k := by
  obtain ⟨e1, e2, e3, e4, e5, e6, e7⟩ := h
  obtain ⟨v1, v2, v3⟩ := f.v ha (d1.n 23)
  obtain ⟨g1, g2, g3⟩ := f.v (hT.p ha 161 10).2 (d1.n 10)
  obtain ⟨h1, h2, h3⟩ := f.v (hT.p ha 162 11).2 (d1.n 11)
  unfold RW
  rw [m.I 106 (d4.n 106), m.J 107 (d4.n 107), m.J 108 (d4.n 108), m.I 109 (d4.n 109), m.I 110 (d4.n 110), m.I 111 (d4.n 111), m.I 112 (d4.n 112), m.I 113 (d4.n 113), m.J 114 (d4.n 114), m.J 115 (d4.n 115), m.J 117 (d4.n 117), m.J 118 (d4.n 118), m.I 119 (d4.n 119), m.I 120 (d4.n 120), m.I 121 (d4.n 121), m.I 122 (d4.n 122), f.p ha (d2.n (166, 23))]
  simp only [v1, g1, g2, h1, h2]
  exact ⟨e1.fr f (hT.p ha 160 9).2 (d1.n 9), e2, e3, e4, e5, e6, e7⟩
theorem RTb.fr {r : Nat} (h : RTb G H s t r) (hT : TY cNo H s) (hr : (s.K (G 1 r)).1 = 26) (f : fr Rv Gp Rq s s') (h199 : s'.I 199 (G 1 r) = s.I 199 (G 1 r)) (m : mfr W t t') (d1 : dj [27, 23, 9, 10, 11] Rv) (d2 : djp [(166, 23), (200, 27)] Gp) (d3 : dj [135] Rq) (d4 : dj [105, 106, 107, 108, 109, 110, 111, 112, 113, 114, 115, 117, 118, 119, 120, 121, 122] W) : RTb G H s' t' r := by
  obtain ⟨h1, h2, h3⟩ := h
  have e5 : cN t' r = cN t r := by show (t'.I 105 r).toNatClampNeg = _; rw [m.I 105 (d4.n 105)]
  unfold RTb
  rw [e5]
  refine ⟨h1.fr f (hT.p hr 186 27).2 (by decide) (d1.n 27) (d2.n (200, 27)) (d3.n 135), fun j hj => ?_, fun j hj => ?_⟩ <;> obtain ⟨-, hn, -, w, cap, -, -, -, -, -, b6, -, -⟩ := h1
  rotate_left
  · rw [m.I 110 (d4.n 110), h199, (f.v (b6 j (by omega)).2 (d1.n 23)).1]
    exact h3 j hj
  exact (h2 j hj).fr hT (b6 j (by omega)).2 f m (List.all_eq_true.mpr fun u hu => List.all_eq_true.mp d1 u (by revert hu; revert u; decide)) (List.all_eq_true.mpr fun u hu => List.all_eq_true.mp d2 u (by revert hu; revert u; decide)) (List.all_eq_true.mpr fun u hu => List.all_eq_true.mp d4 u (by revert hu; revert u; decide))
theorem cPk_fr {p u : Nat} (f : fr Rv Gp Rq s s') (hp : (s.K p).1 = u) (h1 : u ∉ Rv) (h0 : u ≠ 0 := by decide) : cPk s' p = cPk s p := by
  obtain ⟨g1, g2, -⟩ := f.v hp h1 h0
  unfold cPk
  rw [g1, g1, g2, g2]
theorem RSt.fr {r : Nat} (h : RSt G H s t r) (hT : TY cNo H s) (hr : (s.K (G 1 r)).1 = 26) (f : fr Rv Gp Rq s s') (m : mfr W t t') (d1 : dj [28, 24, 36] Rv) (d2 : djp [(200, 28)] Gp) (d3 : dj [145] Rq) (d4 : dj [46, 47, 48, 49, 50, 51, 52] W) : RSt G H s' t' r := by
  obtain ⟨h1, h2, h3⟩ := h
  unfold RSt
  rw [m.I 46 (d4.n 46), m.I 47 (d4.n 47), m.J 48 (d4.n 48), m.J 49 (d4.n 49), m.I 50 (d4.n 50), m.I 51 (d4.n 51), m.I 52 (d4.n 52)]
  have hrow : ∀ j, j < (t.I 46 r).toNatClampNeg → (s.K (G 6 (32 * r + j))).1 = 24 := fun j hj => by
    obtain ⟨-, hn, -, w, cap, -, -, -, -, -, b6, -, -⟩ := h1
    exact (b6 j (by omega)).2
  refine ⟨h1.fr f (hT.p hr 187 28).2 (by decide) (d1.n 28) (d2.n (200, 28)) (d3.n 145), fun j hj => ?_, fun i j hi hj => ?_⟩
  · obtain ⟨g1, g2, g3, g4⟩ := h2 j hj
    have hv := (f.v (hrow j hj) (d1.n 24)).1
    exact ⟨g1, g2.fr f (hT.p (hrow j hj) 160 36).2 (d1.n 36), by rw [hv]; exact g3, by rw [hv]; exact g4⟩
  · rw [cPk_fr f (hT.p (hrow i (by omega)) 160 36).2 (d1.n 36), cPk_fr f (hT.p (hrow j hj) 160 36).2 (d1.n 36)]
    exact h3 i j hi hj
theorem RPy.fr {r : Nat} (h : RPy G H s t r) (hT : TY cNo H s) (hr : (s.K (G 1 r)).1 = 26) (h8 : (t.I 59 r).toNatClampNeg ≤ 8 ∧ (t.I 63 r).toNatClampNeg ≤ 8) (f : fr Rv Gp Rq s s') (m : mfr W t t') (d1 : dj [26, 100, 128, 121, 122] Rv) (d3 : dj [140, 141] Rq) (d4 : dj [59, 60, 61, 62, 63, 64, 65, 66, 67, 68, 69] W) : RPy G H s' t' r := by
  obtain ⟨a, b, c, d, e⟩ := h
  obtain ⟨v1, v2, v3⟩ := f.v hr (d1.n 26)
  have k1 := (hT.r hr 189 140 8).2
  have k2 := (hT.r hr 191 141 8).2
  have k3 := (hT.r hr 193 121 2).2
  have k4 := (hT.r hr 194 122 2).2
  unfold RPy
  rw [m.I 59 (d4.n 59), m.I 60 (d4.n 60), m.I 61 (d4.n 61), m.I 62 (d4.n 62), m.I 63 (d4.n 63), m.I 64 (d4.n 64), m.I 65 (d4.n 65), m.I 66 (d4.n 66), m.I 67 (d4.n 67), m.I 68 (d4.n 68), m.I 69 (d4.n 69), f.q (a := H 189 (G 1 r)) (u := 140) (by rw [k1]) (d3.n 140), f.q (a := H 191 (G 1 r)) (u := 141) (by rw [k2]) (d3.n 141), (f.v (a := H 193 (G 1 r)) (u := 121) (by rw [k3]) (d1.n 121)).2.2, (f.v (a := H 194 (G 1 r)) (u := 122) (by rw [k4]) (d1.n 122)).2.2]
  simp only [v1]
  refine ⟨a, fun k hk => ?_, fun k hk => ?_, fun k hk => ?_, e⟩
  · obtain ⟨b1, b2, b3, b4⟩ := b k hk
    exact ⟨b1, f.k b2, b3, f.k b4⟩
  · rw [(f.v (a := G 9 (8 * r + k)) (u := 100) (by rw [(b k (by omega)).2.1]) (d1.n 100)).2.2]
    exact c k hk
  · rw [(f.v (a := G 10 (8 * r + k)) (u := 128) (by rw [(b k (by omega)).2.2.2]) (d1.n 128)).2.2]
    exact d k hk
theorem RAd.fr {q f' : Nat} (h : RAd G s t q f') (hq : (s.K (G 2 q)).1 = 8) (f : fr Rv Gp Rq s s') (m : mfr W t t') (d1 : dj [14] Rv) (d2 : (81 + f', 8) ∉ Gp) (d4 : dj [75, 76, 77, 78] W) : RAd G s' t' q f' := by
  unfold RAd
  rw [m.I 75 (d4.n 75), m.J 76 (d4.n 76), m.J 77 (d4.n 77), m.I 78 (d4.n 78), f.p hq d2]
  rcases h with h | ⟨h1, p, h2, h3, h4⟩
  · exact Or.inl h
  · exact Or.inr ⟨h1, p, h2, f.r h3, h4.fr f h3 (d1.n 14)⟩
theorem RCh.fr {q : Nat} (h : RCh G H s t q) (hT : TY cNo H s) (hq : (s.K (G 2 q)).1 = 8) (h4' : (t.I 82 q).toNatClampNeg ≤ 4) (f : fr Rv Gp Rq s s') (m : mfr W t t') (d1 : dj [4, 109, 110, 111, 112, 126, 103] Rv) (d2 : djp [(28, 4)] Gp) (d3 : dj [142] Rq) (d4 : dj [79, 80, 81, 82, 83, 84, 85, 86, 87, 88] W) : RCh G H s' t' q := by
  obtain ⟨a, b, c, d, e, g⟩ := h
  have hc := (hT.p hq 86 4).2
  obtain ⟨v1, v2, v3⟩ := f.v hc (d1.n 4)
  unfold RCh
  rw [m.I 79 (d4.n 79), m.I 80 (d4.n 80), m.I 81 (d4.n 81), m.I 82 (d4.n 82), m.I 83 (d4.n 83), m.I 84 (d4.n 84), m.I 85 (d4.n 85), m.I 86 (d4.n 86), m.I 87 (d4.n 87), m.I 88 (d4.n 88), f.p hc (d2.n (28, 4)), f.q (a := H 27 (H 86 (G 2 q))) (u := 142) (by rw [(hT.r hc 27 142 4).2]) (d3.n 142), (f.v (a := H 23 (H 86 (G 2 q))) (u := 109) (by rw [(hT.r hc 23 109 4).2]) (d1.n 109)).2.2, (f.v (a := H 24 (H 86 (G 2 q))) (u := 110) (by rw [(hT.r hc 24 110 4).2]) (d1.n 110)).2.2, (f.v (a := H 25 (H 86 (G 2 q))) (u := 111) (by rw [(hT.r hc 25 111 4).2]) (d1.n 111)).2.2, (f.v (a := H 26 (H 86 (G 2 q))) (u := 112) (by rw [(hT.r hc 26 112 4).2]) (d1.n 112)).2.2, (f.v (a := H 21 (H 86 (G 2 q))) (u := 103) (by rw [(hT.r hc 21 103 16).2]) (d1.n 103)).2.2]
  simp only [v1]
  refine ⟨a, b, fun k hk => ?_, fun k hk => ⟨(d k hk).1, f.k (d k hk).2⟩, e, ?_⟩
  · rw [(f.v (a := G 8 (4 * q + k)) (u := 126) (by rw [(d k (by omega)).2]) (d1.n 126)).2.2]
    exact c k hk
  · rcases g with g | ⟨w, g1, g2⟩
    · exact Or.inl g
    · exact Or.inr ⟨w, g1, f.k g2⟩
theorem RSo.fr {q : Nat} (h : RSo G s t q) (hq : (s.K (G 2 q)).1 = 8) (f : fr Rv Gp Rq s s') (m : mfr W t t') (d1 : dj [8, 115, 120] Rv) (d2 : djp [(96, 8), (97, 8)] Gp) (d4 : dj [101, 102, 103, 104] W) : RSo G s' t' q := by
  obtain ⟨a, w1, w2, cap, b1, b2, b3, b4, b5, b6, b7, b8⟩ := h
  have e : msL t' q = msL t q := by
    unfold msL
    rw [m.S 101 (d4.n 101), m.I 102 (d4.n 102)]
  unfold RSo
  rw [e, m.J 103 (d4.n 103), m.J 104 (d4.n 104), f.p hq (d2.n (96, 8)), f.p hq (d2.n (97, 8)), (f.v hq (d1.n 8)).1]
  refine ⟨a, w1, w2, cap, b1, b2, f.k b3, f.k b4, b5, b6, b7, fun i hi => ?_⟩
  rw [(f.v (a := w1) (u := 115) (by rw [b3]) (d1.n 115)).2.2, (f.v (a := w2) (u := 120) (by rw [b4]) (d1.n 120)).2.2]
  exact b8 i hi
theorem RPo.fr {r p : Nat} (h : RPo G H s t r p) (hT : TY cNo H s) (hr : (s.K (G 1 r)).1 = 26) (h4' : (t.I 82 (4 * r + p)).toNatClampNeg ≤ 4) (f : fr Rv Gp Rq s s') (m : mfr W t t') (d1 : dj [8, 14, 15, 16, 4, 109, 110, 111, 112, 126, 103, 115, 120] Rv) (d2 : djp [(81, 8), (82, 8), (28, 4), (96, 8), (97, 8)] Gp) (d3 : dj [139, 136, 137, 142] Rq) (d4 : dj [71, 72, 73, 74, 75, 76, 77, 78, 79, 80, 81, 82, 83, 84, 85, 86, 87, 88, 89, 90, 91, 92, 93, 94, 95, 96, 97, 98, 99, 100, 101, 102, 103, 104] W) : RPo G H s' t' r p := by
  obtain ⟨⟨a1, a2, a3⟩, b1, b2, c, d, e, g, k⟩ := h
  obtain ⟨v1, v2, v3⟩ := f.v a1 (d1.n 8)
  have sub : ∀ {L L' R : List Nat}, dj L R → (L'.all fun u => L.contains u) = true → dj L' R := fun h hs => List.all_eq_true.mpr fun u hu => List.all_eq_true.mp h u (List.contains_iff_mem.mp (List.all_eq_true.mp hs u hu))
  have subp : ∀ {L L' R : List (Nat × Nat)}, djp L R → (L'.all fun u => L.contains u) = true → djp L' R := fun h hs => List.all_eq_true.mpr fun u hu => List.all_eq_true.mp h u (List.contains_iff_mem.mp (List.all_eq_true.mp hs u hu))
  have b1' := b1.fr a1 f m (sub d1 (by decide)) (d2.n (81, 8)) (sub d4 (by decide))
  have b2' := b2.fr a1 f m (sub d1 (by decide)) (d2.n (82, 8)) (sub d4 (by decide))
  have g' := g.fr hT a1 h4' f m (sub d1 (by decide)) (subp d2 (by decide)) (sub d3 (by decide)) (sub d4 (by decide))
  have k' := k.fr a1 f m (sub d1 (by decide)) (subp d2 (by decide)) (sub d4 (by decide))
  unfold RPo
  rw [m.I 71 (d4.n 71), m.I 72 (d4.n 72), m.J 73 (d4.n 73), m.I 74 (d4.n 74), m.I 89 (d4.n 89), m.I 90 (d4.n 90), m.I 91 (d4.n 91), m.J 92 (d4.n 92), m.J 93 (d4.n 93), m.I 94 (d4.n 94), m.I 95 (d4.n 95), m.I 96 (d4.n 96), m.J 97 (d4.n 97), m.J 98 (d4.n 98), m.I 99 (d4.n 99), m.I 100 (d4.n 100), f.q (a := H 184 (G 1 r)) (u := 139) (by rw [(hT.r hr 184 139 4).2]) (d3.n 139), f.q (a := H 87 (G 2 (4 * r + p))) (u := 136) (by rw [(hT.r a1 87 136 4).2]) (d3.n 136), f.q (a := H 91 (G 2 (4 * r + p))) (u := 137) (by rw [(hT.r a1 91 137 4).2]) (d3.n 137)]
  simp only [v1]
  refine ⟨⟨f.r a1, a2, a3⟩, b1', b2', c, fun j hj => ?_, fun j hj => ?_, g', k'⟩
  · obtain ⟨q, q1, q2, q3⟩ := d j hj
    exact ⟨q, q1, f.r q2, q3.fr f q2 (d1.n 15)⟩
  · obtain ⟨q, n, q1, q2, q3⟩ := e j hj
    exact ⟨q, n, q1, f.r q2, q3.fr f q2 (d1.n 16)⟩
theorem RDg.fr {a p : Nat} (h : RDg G H s t a p) (hT : TY cNo H s) (ha : (s.K a).1 = 6) (f : fr Rv Gp Rq s s') (m : mfr W t t') (d1 : dj [6, 3, 129, 12, 13] Rv) (d2 : djp [(0, 3), (47, 6), (48, 6)] Gp) (d4 : dj [126, 127, 128, 129, 130, 131, 132, 133, 134, 135, 136, 137, 138] W) : RDg G H s' t' a p := by
  obtain ⟨e1, e2, e3, e4, e5, e6⟩ := h
  obtain ⟨v1, v2, v3⟩ := f.v ha (d1.n 6)
  obtain ⟨g1, g2, g3⟩ := f.v (hT.p ha 42 13).2 (d1.n 13)
  unfold RDg
  rw [m.I 126 (d4.n 126), m.I 127 (d4.n 127), m.I 128 (d4.n 128), m.J 129 (d4.n 129), m.J 130 (d4.n 130), m.I 131 (d4.n 131), m.J 132 (d4.n 132), m.J 133 (d4.n 133), m.I 134 (d4.n 134), m.I 135 (d4.n 135), m.I 136 (d4.n 136), m.I 137 (d4.n 137), m.I 138 (d4.n 138), f.p ha (d2.n (47, 6)), f.p ha (d2.n (48, 6))]
  simp only [v1, g1, g2]
  exact ⟨e1.fr f (hT.p ha 40 3).2 (d1.n 3) (d1.n 129) (d2.n (0, 3)), e2.fr f (hT.p ha 41 12).2 (d1.n 12), e3, e4, e5, e6⟩
theorem RFl.fr (h : RFl G H x s t) (hT : TY cNo H s) (hx : (s.K x).1 = 30) (f : fr Rv Gp Rq s s') (m : mfr W t t') (d0 : s'.I 233 x = s.I 233 x ∧ s'.I 235 x = s.I 235 x) (d1 : dj [6, 3, 129, 12, 13] Rv) (d2 : djp [(0, 3), (47, 6), (48, 6), (236, 30)] Gp) (d3 : dj [133, 134] Rq) (d4 : dj [123, 124, 126, 127, 128, 129, 130, 131, 132, 133, 134, 135, 136, 137, 138] W) : RFl G H x s' t' := by
  have sub : ∀ {L L' R : List Nat}, dj L R → (L'.all fun u => L.contains u) = true → dj L' R := fun h hs => List.all_eq_true.mpr fun u hu => List.all_eq_true.mp h u (List.contains_iff_mem.mp (List.all_eq_true.mp hs u hu))
  have subp : ∀ {L L' R : List (Nat × Nat)}, djp L R → (L'.all fun u => L.contains u) = true → djp L' R := fun h hs => List.all_eq_true.mpr fun u hu => List.all_eq_true.mp h u (List.contains_iff_mem.mp (List.all_eq_true.mp hs u hu))
  obtain ⟨a, b, c, ⟨e1, e2⟩, g⟩ := h
  have ec : cF t' = cF t := by show (t'.S 123).toNatClampNeg = _; rw [m.S 123 (d4.n 123)]
  unfold RFl
  rw [ec, m.S 123 (d4.n 123), m.I 124 (d4.n 124), f.q (a := H 232 x) (u := 133) (by rw [(hT.r hx 232 133 256).2]) (d3.n 133), f.q (a := H 234 x) (u := 134) (by rw [(hT.r hx 234 134 258).2]) (d3.n 134), f.p hx (d2.n (236, 30)), d0.1, d0.2]
  refine ⟨a, fun i hi => ?_, fun i hi => ⟨(c i hi).1, f.r (c i hi).2⟩, ⟨e1, f.r e2⟩, g⟩
  obtain ⟨b1, b2, b3⟩ := b i hi
  exact ⟨b1, f.r b2, b3.fr hT b2 f m d1 (subp d2 (by decide)) (sub d4 (by decide))⟩
theorem RTx.fr (h : RTx H x s t) (hT : TY cNo H s) (hx : (s.K x).1 = 30) (f : fr Rv Gp Rq s s') (m : mfr W t t') (d1 : dj [1, 101, 32, 124] Rv) (d2 : djp [(0, 1), (0, 32), (221, 30), (222, 30)] Gp) (d4 : dj [2, 3, 5, 6] W) : RTx H x s' t' := by
  obtain ⟨⟨cap, a1, a2⟩, tx, pg, c1, c2, b1, b2, b3, b4, b5, b6, b7, b8, l, b9⟩ := h
  unfold RTx
  rw [m.I 2 (d4.n 2), m.S 3 (d4.n 3), m.I 5 (d4.n 5), m.S 6 (d4.n 6), f.p hx (d2.n (221, 30)), f.p hx (d2.n (222, 30))]
  exact ⟨⟨cap, a1, a2.fr f (hT.p hx 220 1).2 (d1.n 1) (d1.n 101) (d2.n (0, 1))⟩, tx, pg, c1, c2, b1, b2, f.r b3, f.r b4, b5, b6, b7, b8.fr f b3 (d1.n 32) (d1.n 124) (d2.n (0, 32)), l, b9.fr f b4 (d1.n 32) (d1.n 124) (d2.n (0, 32))⟩
end Cf
