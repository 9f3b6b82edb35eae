/-! New objects in the relation. -/
section Ex
variable {G G' H H' : Nat → Nat → Nat} {sa : Nat → Nat} {x : Nat} {s s' : cS} {t : moS}
theorem TY.gh (h : TY cNo H s) (e : hA H H' s) : TY cNo H' s := by
  refine ⟨fun a g v n hu et => ?_, fun a b g e1 e2 h1 h2 t1 t2 n1 n2 n3 hh => ?_, h.2.2⟩
  · have hk := tyF_k et
    rw [e g a (by omega)]
    exact h.1 a g v n hu et
  · have k1 := tyF_k t1
    have k2 := tyF_k t2
    rw [e g a (by omega), e g b (by omega)] at hh
    exact h.2.1 a b g e1 e2 h1 h2 t1 t2 n1 n2 n3 hh
theorem RGl.gh (h : RGl G H sa x s) (e : hA H H' s) (g15 : G' 15 0 = G 15 0) (g16 : ∀ i, G' 16 i = G 16 i) : RGl G' H' sa x s := by
  obtain ⟨a1, a2, a3, a4, ⟨n, a5⟩, a6, a7, a8, a9, a10, a11, a12, a13, a14, a15, a16, a17⟩ := h
  refine ⟨a1, a2.gh e, a3, fun a ha => ?_, ⟨n, ?_⟩, a6, a7, a8, a9, a10, a11, a12, fun a ha => ?_, fun a b k k' w ha hb => ?_, a15, a16, a17⟩
  · rw [e.u ha]; exact a4 a ha
  · rw [e.u a1, g15]
    exact a5.gh (fun j _ => g16 j)
  · rw [e 27 a ha.n0]; exact a13 a ha
  · rw [e 27 a ha.n0, e 27 b hb.n0]; exact a14 a b k k' w ha hb
theorem RIn.gh (h : RIn G t) (g : gA G G' t) : RIn G' t := by
  obtain ⟨a0, a1, a2, a3, a4, a5, a6, a8, a9, a10, a7⟩ := h
  obtain ⟨g0, gr, g3, -⟩ := g
  have q5 : ∀ i, i < 2 * cR t → G' 5 i = G 5 i := fun i hi => by
    obtain ⟨y1, y2⟩ := (gr (i / 2) (by omega)).2.2.2.1
    by_cases c : i % 2 = 0
    · rw [show i = 2 * (i / 2) by omega]; exact y1
    · rw [show i = 2 * (i / 2) + 1 by omega]; exact y2
  have q9 : ∀ i, i < 8 * cR t → G' 9 i = G 9 i ∧ G' 10 i = G 10 i := fun i hi => by
    have := (gr (i / 8) (by omega)).2.2.2.2.2 (i % 8) (by omega)
    rw [show i = 8 * (i / 8) + i % 8 by omega]
    exact this
  refine ⟨fun i j hi hj => ?_, fun i j hi hj => ?_, fun r r' p p' hr hr' hp hp' => ?_, fun i j hi hj => ?_, fun r r' j j' hr hr' hj hj' => ?_, fun i j hi hj => ?_, fun r r' j j' hr hr' hj hj' => ?_, fun r p k r' p' k' hr hr' hp hp' hk hk' => ?_, fun i j hi hj => ?_, fun i j hi hj => ?_, fun r j hr hj j' hj' => ?_⟩
  · rw [g0 i hi, g0 j hj]; exact a0 i j hi hj
  · rw [(gr i hi).1, (gr j hj).1]; exact a1 i j hi hj
  · rw [((gr r hr).2.1 p hp).1, ((gr r' hr').2.1 p' hp').1]; exact a2 r r' p p' hr hr' hp hp'
  · rw [g3 i hi, g3 j hj]; exact a3 i j hi hj
  · rw [(gr r hr).2.2.1.1] at hj
    rw [(gr r' hr').2.2.1.1] at hj'
    rw [(gr r hr).2.2.1.2 j hj, (gr r' hr').2.2.1.2 j' hj']
    exact a4 r r' j j' hr hr' hj hj'
  · rw [q5 i hi, q5 j hj]; exact a5 i j hi hj
  · rw [(gr r hr).2.2.2.2.1.1] at hj
    rw [(gr r' hr').2.2.2.2.1.1] at hj'
    rw [(gr r hr).2.2.2.2.1.2.1 j hj, (gr r' hr').2.2.2.2.1.2.1 j' hj']
    exact a6 r r' j j' hr hr' hj hj'
  · rw [((gr r hr).2.1 p hp).2 k hk, ((gr r' hr').2.1 p' hp').2 k' hk']
    exact a8 r p k r' p' k' hr hr' hp hp' hk hk'
  · rw [(q9 i hi).1, (q9 j hj).1]; exact a9 i j hi hj
  · rw [(q9 i hi).2, (q9 j hj).2]; exact a10 i j hi hj
  · rw [(gr r hr).2.2.2.2.1.2.2 j hj, (gr r hr).2.2.2.2.1.2.2 j' hj']; exact a7 r j hr hj j' hj'
theorem rr_gh (h : RR G H sa x s t) (hM : MV t) (g : gA G G' t) (e : hA H H' s) : RR G' H' sa x s t := by
  obtain ⟨⟨a, b, c, d, f, i, j⟩, htx⟩ := h.q
  have hx := a.1
  refine RQ.r ⟨a.gh e g.2.2.2.2.2.1 g.2.2.2.2.2.2, b.gh g, c, fun k hk => (d k hk).gh hx g e hk, fun k hk => (f k hk).gh hx g e hk, fun r hr => ?_, j.gh hM hx g e⟩ (htx.gh hx e)
  obtain ⟨i1, i2, i3, i4, i5, i6, i7⟩ := i r hr
  have k1 := i1.1.1
  exact ⟨i1.gh hx g e hr, i2.gh hM k1 hr g e, i3.gh k1 hr g e, i4.gh (Or.inl rfl) k1 hr g e, i5.gh (Or.inr rfl) k1 hr g e, i6.gh hM k1 hr g e, fun p hp => (i7 p hp).gh hM a.2.1 k1 hr hp g e⟩
/-- what is new -/
def nwd (s s' : cS) (a : Nat) : Prop := (s.K a).1 = 0 ∧ (s'.K a).1 ≠ 0
theorem rgl_ext (h : RGl G H sa x s) (f : fr [] [] [] s s') (ht : TK sa s')
    (nT : ∀ a, nwd s s' a → ∀ g v n, tyF (s'.K a).1 g = some (v, n) → s'.P g a = some (H g a) ∧ (s'.K (H g a)).1 = v ∧ (n = 0 ∨ (s'.K (H g a)).2 = n) ∧ (g ≠ 80 → g ≠ 140 → g ≠ 180 → (s.K (H g a)).1 = 0 ∧ ∀ b e', nwd s s' b → tyF (s'.K b).1 g = some e' → H g a = H g b → a = b))
    (n0 : ∀ a, nwd s s' a → okO s' 0 a → ∃ d, s'.P 0 a = some d ∧ 100 ≤ (s'.K d).1 ∧ (s'.K d).1 < 130 ∧ (s.K d).1 = 0 ∧ ∀ b, nwd s s' b → okO s' 0 b → s'.P 0 b = some d → a = b)
    (n6 : ∀ a, nwd s s' a → (s'.K a).1 = 6 → ∃ l, BL s' (H 40 a) 129 l 600)
    (n8 : ∀ a, nwd s s' a → (s'.K a).1 = 8 → ∃ d e, s'.P 96 a = some d ∧ s'.P 97 a = some e ∧ (s'.K d).1 = 115 ∧ (s'.K e).1 = 120 ∧ (s.K d).1 = 0 ∧ (s.K e).1 = 0 ∧ ∀ b, nwd s s' b → (s'.K b).1 = 8 → (s'.P 96 b = some d → a = b) ∧ (s'.P 97 b = some e → a = b))
    (n10 : ∀ a, nwd s s' a → okO s' 10 a → ∃ d, s'.P 200 a = some d ∧ (s'.K d).1 ≠ 0 ∧ (s.K d).1 = 0 ∧ ∀ b, nwd s s' b → okO s' 10 b → s'.P 200 b = some d → a = b)
    (n1 : ∀ a, nwd s s' a → okO s' 1 a → s'.P 28 a = none ∧ ∀ k, k < 4 → ∃ w, s'.Q (H 27 a) k = some w ∧ s'.K w = (126, 16) ∧ (s.K w).1 = 0 ∧ ∀ b k', nwd s s' b → okO s' 1 b → k' < 4 → s'.Q (H 27 b) k' = some w → a = b ∧ k = k')
    (n3 : ∀ a i, nwd s s' a → (s'.K a).1 = 103 → i < 16 → fits .byte (.int (s'.E a i)) = true) : RGl G H sa x s' := by
  obtain ⟨a1, a2, a3, a4, ⟨n, a5⟩, a6, a7, a8, a9, a10, a11, a12, a13, a14, a15, a16, a17⟩ := h
  have cas : ∀ a, (s'.K a).1 ≠ 0 → nwd s s' a ∨ (s.K a).1 ≠ 0 ∧ s'.K a = s.K a := fun a ha => by
    by_cases c : (s.K a).1 = 0
    · exact Or.inl ⟨c, ha⟩
    · exact Or.inr ⟨c, (f a c).1⟩
  have oP : ∀ a g, (s.K a).1 ≠ 0 → s'.P g a = s.P g a := fun a g ha => (f a ha).2.2.1 g (by simp)
  have oQ : ∀ a, (s.K a).1 ≠ 0 → s'.Q a = s.Q a := fun a ha => (f a ha).2.2.2 (by simp)
  have ok' : ∀ c a, s'.K a = s.K a → okO s' c a → okO s c a := fun c a e ho => by unfold okO at ho ⊢; rw [← e]; exact ho
  refine ⟨f.r a1, ⟨fun a g v m hu et => ?_, fun a b g e1 e2 _ _ t1 t2 m1 m2 m3 hh => ?_, fun a b d ha hb ea eb => ?_⟩, ht, fun a ha => ?_, ⟨n, a5.fr f (a2.p a1 237 29).2 (by decide) (by simp) (by simp) (by simp)⟩, ?_, fun a b d ha hb ea eb => ?_, fun a b d ha hb ea eb => ?_, fun a b d ha hb ea eb => ?_, fun a d ha ea => ?_, fun a b d ha hb ea eb => ?_, fun a ha => ?_, fun a ha k hk => ?_, fun a b k k' w ha hb hk hk' ea eb => ?_, fun a i ha hi => ?_, fun a ha => ?_, fun a ha => ?_⟩
  · have hk := tyF_k et
    rcases cas a (by omega) with c | ⟨c, e⟩
    · obtain ⟨q1, q2, q3, -⟩ := nT a c g v m et
      exact ⟨q1, q2, q3⟩
    · rw [e] at et
      obtain ⟨q1, q2, q3⟩ := a2.1 a g v m (fun z => z) et
      have kk := (f (H g a) (by rw [q2]; exact hk.2.2.1)).1
      exact ⟨by rw [oP a g c]; exact q1, by rw [kk]; exact q2, by rw [kk]; exact q3⟩
  · have k1 := tyF_k t1
    have k2 := tyF_k t2
    rcases cas a (by omega) with c | ⟨c, e⟩ <;> rcases cas b (by omega) with c' | ⟨c', e'⟩
    · exact ((nT a c g e1.1 e1.2 t1).2.2.2 m1 m2 m3).2 b e2 c' t2 hh
    · exfalso
      have z := ((nT a c g e1.1 e1.2 t1).2.2.2 m1 m2 m3).1
      rw [e'] at t2
      have y := (a2.1 b g e2.1 e2.2 (fun z => z) t2).2.1
      rw [hh, y] at z
      exact k2.2.2.1 z
    · exfalso
      have z := ((nT b c' g e2.1 e2.2 t2).2.2.2 m1 m2 m3).1
      rw [e] at t1
      have y := (a2.1 a g e1.1 e1.2 (fun z => z) t1).2.1
      rw [← hh, y] at z
      exact k1.2.2.1 z
    · rw [e] at t1
      rw [e'] at t2
      exact a2.2.1 a b g e1 e2 (fun z => z) (fun z => z) t1 t2 m1 m2 m3 hh
  · rcases cas a ha.n0 with c | ⟨c, e⟩ <;> rcases cas b hb.n0 with c' | ⟨c', e'⟩
    · obtain ⟨d', q1, -, -, -, q5⟩ := n0 a c ha
      rw [ea] at q1
      cases q1
      exact q5 b c' hb eb
    · exfalso
      obtain ⟨d', q1, -, -, q4, -⟩ := n0 a c ha
      rw [ea] at q1
      cases q1
      obtain ⟨d2, y1, y2, -⟩ := a12 b (ok' 0 b e' hb)
      rw [oP b 0 c', y1] at eb
      cases eb
      omega
    · exfalso
      obtain ⟨d', q1, -, -, q4, -⟩ := n0 b c' hb
      rw [eb] at q1
      cases q1
      obtain ⟨d2, y1, y2, -⟩ := a12 a (ok' 0 a e ha)
      rw [oP a 0 c, y1] at ea
      cases ea
      omega
    · rw [oP a 0 c] at ea
      rw [oP b 0 c'] at eb
      exact a2.2.2 a b d (ok' 0 a e ha) (ok' 0 b e' hb) ea eb
  · rcases cas a (by rw [ha]; decide) with c | ⟨c, e⟩
    · exact n6 a c ha
    · rw [e] at ha
      obtain ⟨l, hl⟩ := a4 a ha
      exact ⟨l, hl.fr f (a2.p ha 40 3).2 (by simp) (by simp) (by simp)⟩
  · rw [oP x 223 (by rw [a1]; decide)]
    rcases a6 with z | ⟨d, z1, z2⟩
    · exact Or.inl z
    · exact Or.inr ⟨d, z1, f.r z2⟩
  · rcases cas a (by rw [ha]; decide) with c | ⟨c, e⟩ <;> rcases cas b (by rw [hb]; decide) with c' | ⟨c', e'⟩
    · obtain ⟨d', e1, q1, -, -, -, -, -, q⟩ := n8 a c ha
      rw [ea] at q1
      cases q1
      exact (q b c' hb).1 eb
    · exfalso
      obtain ⟨d', e1, q1, -, -, -, q4, -, q⟩ := n8 a c ha
      rw [ea] at q1
      cases q1
      rw [e'] at hb
      obtain ⟨d2, e2, y1, -, y3, -⟩ := a16 b hb
      rw [oP b 96 c', y1] at eb
      cases eb
      omega
    · exfalso
      obtain ⟨d', e1, q1, -, -, -, q4, -, q⟩ := n8 b c' hb
      rw [eb] at q1
      cases q1
      rw [e] at ha
      obtain ⟨d2, e2, y1, -, y3, -⟩ := a16 a ha
      rw [oP a 96 c, y1] at ea
      cases ea
      omega
    · rw [e] at ha
      rw [e'] at hb
      rw [oP a 96 c] at ea
      rw [oP b 96 c'] at eb
      exact a7 a b d ha hb ea eb
  · rcases cas a (by rw [ha]; decide) with c | ⟨c, e⟩ <;> rcases cas b (by rw [hb]; decide) with c' | ⟨c', e'⟩
    · obtain ⟨d', e1, -, q1, -, -, -, -, q⟩ := n8 a c ha
      rw [ea] at q1
      cases q1
      exact (q b c' hb).2 eb
    · exfalso
      obtain ⟨d', e1, -, q1, -, -, -, q4, q⟩ := n8 a c ha
      rw [ea] at q1
      cases q1
      rw [e'] at hb
      obtain ⟨d2, e2, -, y1, -, y3⟩ := a16 b hb
      rw [oP b 97 c', y1] at eb
      cases eb
      omega
    · exfalso
      obtain ⟨d', e1, -, q1, -, -, -, q4, q⟩ := n8 b c' hb
      rw [eb] at q1
      cases q1
      rw [e] at ha
      obtain ⟨d2, e2, -, y1, -, y3⟩ := a16 a ha
      rw [oP a 97 c, y1] at ea
      cases ea
      omega
    · rw [e] at ha
      rw [e'] at hb
      rw [oP a 97 c] at ea
      rw [oP b 97 c'] at eb
      exact a8 a b d ha hb ea eb
  · rcases cas a ha.n0 with c | ⟨c, e⟩ <;> rcases cas b hb.n0 with c' | ⟨c', e'⟩
    · obtain ⟨d', q1, -, -, q5⟩ := n10 a c ha
      rw [ea] at q1
      cases q1
      exact q5 b c' hb eb
    · exfalso
      obtain ⟨d', q1, -, q4, -⟩ := n10 a c ha
      rw [ea] at q1
      cases q1
      obtain ⟨d2, y1, y2⟩ := a17 b (ok' 10 b e' hb)
      rw [oP b 200 c', y1] at eb
      cases eb
      exact y2 q4
    · exfalso
      obtain ⟨d', q1, -, q4, -⟩ := n10 b c' hb
      rw [eb] at q1
      cases q1
      obtain ⟨d2, y1, y2⟩ := a17 a (ok' 10 a e ha)
      rw [oP a 200 c, y1] at ea
      cases ea
      exact y2 q4
    · rw [oP a 200 c] at ea
      rw [oP b 200 c'] at eb
      exact a9 a b d (ok' 10 a e ha) (ok' 10 b e' hb) ea eb
  · rcases cas a ha.n0 with c | ⟨c, e⟩
    · rw [(n1 a c ha).1] at ea; cases ea
    · rw [oP a 28 c] at ea
      exact f.k (a10 a d (ok' 1 a e ha) ea)
  · rcases cas a ha.n0 with c | ⟨c, e⟩
    · rw [(n1 a c ha).1] at ea; cases ea
    · rcases cas b hb.n0 with c' | ⟨c', e'⟩
      · rw [(n1 b c' hb).1] at eb; cases eb
      · rw [oP a 28 c] at ea
        rw [oP b 28 c'] at eb
        exact a11 a b d (ok' 1 a e ha) (ok' 1 b e' hb) ea eb
  · rcases cas a ha.n0 with c | ⟨c, e⟩
    · obtain ⟨d, q1, q2, q3, -⟩ := n0 a c ha
      exact ⟨d, q1, q2, q3⟩
    · obtain ⟨d, q1, q2, q3⟩ := a12 a (ok' 0 a e ha)
      have kk := (f d (by omega)).1
      exact ⟨d, by rw [oP a 0 c]; exact q1, by rw [kk]; exact q2, by rw [kk]; exact q3⟩
  · rcases cas a ha.n0 with c | ⟨c, e⟩
    · obtain ⟨w, q1, q2, -⟩ := (n1 a c ha).2 k hk
      exact ⟨w, q1, q2⟩
    · obtain ⟨w, q1, q2⟩ := a13 a (ok' 1 a e ha) k hk
      have kt := tyc a2 (ok' 1 a e ha)
      exact ⟨w, by rw [oQ _ (by rw [kt]; decide)]; exact q1, f.k q2⟩
  · rcases cas a ha.n0 with c | ⟨c, e⟩ <;> rcases cas b hb.n0 with c' | ⟨c', e'⟩
    · obtain ⟨w', q1, -, -, q4⟩ := (n1 a c ha).2 k hk
      rw [ea] at q1
      cases q1
      exact q4 b k' c' hb hk' eb
    · exfalso
      obtain ⟨w', q1, -, q3, -⟩ := (n1 a c ha).2 k hk
      rw [ea] at q1
      cases q1
      have kt := tyc a2 (ok' 1 b e' hb)
      rw [oQ _ (by rw [kt]; decide)] at eb
      obtain ⟨w2, y1, y2⟩ := a13 b (ok' 1 b e' hb) k' hk'
      rw [y1] at eb
      cases eb
      rw [y2] at q3
      exact absurd q3 (by decide)
    · exfalso
      obtain ⟨w', q1, -, q3, -⟩ := (n1 b c' hb).2 k' hk'
      rw [eb] at q1
      cases q1
      have kt := tyc a2 (ok' 1 a e ha)
      rw [oQ _ (by rw [kt]; decide)] at ea
      obtain ⟨w2, y1, y2⟩ := a13 a (ok' 1 a e ha) k hk
      rw [y1] at ea
      cases ea
      rw [y2] at q3
      exact absurd q3 (by decide)
    · have kt := tyc a2 (ok' 1 a e ha)
      have kt' := tyc a2 (ok' 1 b e' hb)
      rw [oQ _ (by rw [kt]; decide)] at ea
      rw [oQ _ (by rw [kt']; decide)] at eb
      exact a14 a b k k' w (ok' 1 a e ha) (ok' 1 b e' hb) hk hk' ea eb
  · rcases cas a (by rw [ha]; decide) with c | ⟨c, e⟩
    · exact n3 a i c ha hi
    · rw [e] at ha
      rw [(f.v ha (by simp)).2.2]
      exact a15 a i ha hi
  · rcases cas a (by rw [ha]; decide) with c | ⟨c, e⟩
    · obtain ⟨d, e1, q1, q2, q3, q4, -⟩ := n8 a c ha
      exact ⟨d, e1, q1, q2, q3, q4⟩
    · rw [e] at ha
      obtain ⟨d, e1, q1, q2, q3, q4⟩ := a16 a ha
      exact ⟨d, e1, by rw [oP a 96 c]; exact q1, by rw [oP a 97 c]; exact q2, f.r q3, f.r q4⟩
  · rcases cas a ha.n0 with c | ⟨c, e⟩
    · obtain ⟨d, q1, q2, -⟩ := n10 a c ha
      exact ⟨d, q1, q2⟩
    · obtain ⟨d, q1, q2⟩ := a17 a (ok' 10 a e ha)
      exact ⟨d, by rw [oP a 200 c]; exact q1, by rw [(f d q2).1]; exact q2⟩
end Ex
