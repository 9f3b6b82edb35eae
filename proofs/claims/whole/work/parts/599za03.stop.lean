/-! A router is stopped: both sides. -/
section St
variable {G H : Nat → Nat → Nat} {sa : Nat → Nat} {x r kc ks : Nat} {s : cS} {t : moS}
/-- whether a router runs -/
theorem rr_39 {v : Int32} (hv : bit v) (h : RR G H sa x s t) (hM : MV t) (hr : r < cR t) : RR G H sa x (cSI s 183 (G 1 r) v) (moSI t 39 r v) ∧ MV (moSI t 39 r v) ∧ fr [26] [] [] s (cSI s 183 (G 1 r) v) := by
  obtain ⟨⟨a, b, c, e', g, i, j⟩, htx⟩ := id h.q
  have hT := a.2.1
  have hx := a.1
  have k1 := (h.q.1.rt hr).1.1
  have m : mfr [39] t (moSI t 39 r v) := mfr.si (by decide)
  have f : fr [26] [] [] s (cSI s 183 (G 1 r) v) := fr.si (by rw [k1]; decide)
  have hg : RGl G H sa x (cSI s 183 (G 1 r) v) := a.v rfl rfl f rfl rfl rfl
  have ht := hg.2.2.1
  have oI : ∀ g b, ¬ (g = 183 ∧ b = G 1 r) → (cSI s 183 (G 1 r) v).I g b = s.I g b := fun g b hn => by
    rw [evI, if_neg hn]
  have e39 : ∀ i, (moSI t 39 r v).I 39 i = if i = r then v else t.I 39 i := fun i => by rw [moSI_s]; rfl
  obtain ⟨v1, v2, v3⟩ := f.v hx (by decide)
  refine ⟨RQ.r ⟨hg, b.fr m rfl, ?_, ?_, ?_, ?_, j.fr hT hx f m ⟨v1 233, v1 235⟩ rfl rfl rfl rfl⟩ (htx.fr hT hx f m rfl rfl rfl), ?_, f⟩
  · rw [v1, v1, v1, v1, v1, m.S 4 (by decide), m.S 1 (by decide), m.S 17 (by decide), m.S 37 (by decide), m.S 27 (by decide)]
    exact c
  · exact fun k hk => (e' k hk).fr hT hx f ht m rfl rfl rfl rfl
  · exact fun k hk => (g k hk).fr hT hx f ht m rfl rfl rfl rfl
  · intro r' hr'
    have hr' : r' < cR t := hr'
    obtain ⟨i1, i2, i3, i4, i5, i6, i7⟩ := i r' hr'
    have hv := hM.r hr'
    refine ⟨?_, i2.fr hT i1.1.1 f (oI _ _ (by omega)) m rfl rfl rfl rfl, i3.fr hT i1.1.1 f m rfl rfl rfl rfl, i4.fr hT i1.1.1 f m rfl rfl rfl, i5.fr hT i1.1.1 f m rfl rfl rfl, rpy_fr2 i6 hT i1.1.1 ⟨hv.2.2.2.2.2.2.1.1.n.2.2, hv.2.2.2.2.2.2.2.1.1.n.2.2⟩ f m ⟨oI _ _ (by omega), oI _ _ (by omega)⟩ rfl rfl rfl, fun p hp => (i7 p hp).fr hT i1.1.1 (hv.i hp).2.2.2.2.2.2.2.2.2.2.1.n.2.2 f m rfl rfl rfl rfl⟩
    obtain ⟨⟨y1, y2, y3⟩, ⟨nm', y4, y5, y6⟩, ⟨u1, u2, u3, u4, u5⟩, y8, y9⟩ := i1
    refine ⟨⟨y1, y2, y3⟩, ⟨nm', y4, y5.fr f (by decide) (by decide) (by decide) ht, y6⟩, ⟨(oI _ _ (by omega)).trans u1, ?_, (oI _ _ (by omega)).trans (by rw [m.I 70 (by decide)]; exact u3), (oI _ _ (by omega)).trans (by rw [m.I 43 (by decide)]; exact u4), (oI _ _ (by omega)).trans (by rw [m.I 44 (by decide)]; exact u5)⟩, by rw [m.I 40 (by decide), m.I 41 (by decide), m.I 42 (by decide)]; exact y8, by rw [m.I 45 (by decide)]; exact y9⟩
    rw [e39]
    by_cases c : r' = r
    · rw [if_pos c, c, cSI_s]
    · rw [if_neg c, oI _ _ (fun z => c (b.2.1 r' r hr' hr z.2))]
      exact u2
  · obtain ⟨h0, h1, h2, h3, h4, h5⟩ := hM
    refine ⟨h0.fr m rfl, fun i hi => (h1 i hi).fr m rfl, fun i hi => (h2 i hi).fr m rfl, fun r' hr' => ?_, h4.fr m rfl, h5.fr m rfl⟩
    obtain ⟨a1, a2, a3, a4, a5, a6, a7, a8, a9, a10, a11, a12, a13, a14, a15⟩ := h3 r' hr'
    refine ⟨a1, ?_, a3, a4, a5, a6, a7, a8, a9, a10, a11, a12, a13, a14, a15⟩
    rw [e39]
    split
    · exact hv
    · exact a2
/-- a table is emptied -/
theorem rr_105 (h : RR G H sa x s t) (hM : MV t) (hr : r < cR t) : RR G H sa x (cSI s 201 (H 186 (G 1 r)) 0) (moSI t 105 r 0) ∧ MV (moSI t 105 r 0) ∧ rwT r t (moSI t 105 r 0) ∧ fr [27] [] [] s (cSI s 201 (H 186 (G 1 r)) 0) := by
  have hq := h.q.1
  have hT := hq.ty
  have hx := hq.1.1
  have k1 := (hq.rt hr).1.1
  have k27 := (hT.p k1 186 27).2
  have m : mfr [105] t (moSI t 105 r 0) := mfr.si (by decide)
  have f : fr [27] [] [] s (cSI s 201 (H 186 (G 1 r)) 0) := fr.si (by rw [k27]; decide)
  have hg : RGl G H sa x (cSI s 201 (H 186 (G 1 r)) 0) := hq.1.v rfl rfl f rfl rfl rfl
  have ht := hg.2.2.1
  have oI : ∀ g b, ¬ (g = 201 ∧ b = H 186 (G 1 r)) → (cSI s 201 (H 186 (G 1 r)) 0).I g b = s.I g b := fun g b hn => by
    rw [evI, if_neg hn]
  have e105 : ∀ i, (moSI t 105 r 0).I 105 i = if i = r then 0 else t.I 105 i := fun i => by rw [moSI_s]; rfl
  have c0 : cN (moSI t 105 r 0) r = 0 := by unfold cN; rw [e105, if_pos rfl]; rfl
  have cne : ∀ r', r' ≠ r → cN (moSI t 105 r 0) r' = cN t r' := fun r' hne => by unfold cN; rw [e105, if_neg hne]
  have oR : ∀ g b, g ≠ 201 → (cSI s 201 (H 186 (G 1 r)) 0).I g b = s.I g b := fun g b hn => oI g b (fun z => hn z.1)
  have rw' : ∀ a k, RW G H s t a k → RW G H (cSI s 201 (H 186 (G 1 r)) 0) (moSI t 105 r 0) a k := fun a k w => by
    unfold RW PF at w ⊢
    rw [m.I 106 (by decide), m.I 109 (by decide), m.I 110 (by decide), m.I 111 (by decide), m.I 112 (by decide), m.I 113 (by decide), m.I 119 (by decide), m.I 120 (by decide), m.I 121 (by decide), m.I 122 (by decide)]
    simp only [oR _ _ (show (100 : Nat) ≠ 201 by decide), oR _ _ (show (103 : Nat) ≠ 201 by decide), oR _ _ (show (163 : Nat) ≠ 201 by decide), oR _ _ (show (164 : Nat) ≠ 201 by decide), oR _ _ (show (165 : Nat) ≠ 201 by decide), oR _ _ (show (167 : Nat) ≠ 201 by decide), oR _ _ (show (168 : Nat) ≠ 201 by decide), oR _ _ (show (169 : Nat) ≠ 201 by decide), oR _ _ (show (170 : Nat) ≠ 201 by decide)]
    exact w
  refine ⟨rr_tb h hM (fun _ _ => rfl) hg (hq.2.1.fr m rfl) (f.wk (by decide) (by decide) (by decide)) (m.wk (by decide)) (fun r' hr' => ⟨oI _ _ (by omega), oI _ _ (by omega)⟩) (fun r' hr' => ?_), hM.tb (m.wk (by decide)) (fun r' hr' => ?_) (fun r' h1 h2 => ?_), ⟨m.wk (by decide), fun j hj => by rw [m.I 44 (by decide)], fun j _ => by rw [m.I 45 (by decide)], fun j hj => by rw [e105, if_neg hj], fun g hg j _ => by rw [m.I g (by revert hg; revert g; decide)], fun g hg j _ => by rw [m.J g (by revert hg; revert g; decide)]⟩, f⟩
  · obtain ⟨i1, i2, i3, -⟩ := hq.2.2.2.2.2.1 r' hr'
    refine ⟨i1.fr hT hx f ht m rfl rfl rfl rfl, ?_, i3.fr hT i1.1.1 f m rfl rfl rfl rfl⟩
    obtain ⟨⟨b1, b2, b3, w, cap, b4, b5⟩, b6, b7⟩ := i2
    by_cases c : r' = r
    · subst c
      refine ⟨⟨?_, by rw [c0]; exact Nat.zero_le _, b3, w, cap, b4, b5⟩, fun j hj => ?_, fun j hj => ?_⟩
      · rw [c0, cSI_s]; rfl
      · rw [c0] at hj; exact absurd hj (Nat.not_lt_zero j)
      · rw [c0] at hj; exact absurd hj (Nat.not_lt_zero j)
    · have n186 : H 186 (G 1 r') ≠ H 186 (G 1 r) := fun z => c (hq.2.1.2.1 r' r hr' hr (hT.i i1.1.1 k1 186 (by decide) z))
      rw [RTb, cne r' c]
      refine ⟨⟨?_, b2, b3, w, cap, b4, b5⟩, fun j hj => rw' _ _ (b6 j hj), fun j hj hz => ?_⟩
      · rw [oI _ _ (fun z => n186 z.2)]; exact b1
      · rw [oR _ _ (by decide), oR _ _ (by decide)]
        exact b7 j hj (by rw [← m.I 110 (by decide)]; exact hz)
  · obtain ⟨a1, a2, a3, a4, a5, a6, a7, a8, a9, a10, a11, a12, a13, a14, a15⟩ := hM.r hr'
    by_cases c : r' = r
    · subst c
      refine ⟨a1, a2, a3, a4, a5, a6, a7, a8, a9, a10, a11, a12, ?_, fun j hj => ?_, fun i j _ hj => ?_⟩
      · rw [e105, if_pos rfl]; exact ⟨0, rfl, by decide, by decide⟩
      · rw [c0] at hj; exact absurd hj (Nat.not_lt_zero j)
      · rw [c0] at hj; exact absurd hj (Nat.not_lt_zero j)
    · refine ⟨a1, a2, a3, a4, a5, a6, a7, a8, a9, a10, a11, a12, ?_, fun j hj => ?_, fun i j hi hj => ?_⟩
      · rw [e105, if_neg c]; exact a13
      · rw [cne r' c] at hj; exact a14 j hj
      · rw [cne r' c] at hj; exact a15 i j hi hj
  · obtain ⟨⟨w1, -, -, -, -, -, w7⟩, w8⟩ := hM.2.2.2.2.2.2.2.1 r' h1 h2
    rw [m.I 46 (by decide), m.I 45 (by decide), e105]
    refine ⟨w1, ?_, w8⟩
    split
    · rfl
    · exact w7
end St
