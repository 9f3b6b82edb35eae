/-! Only the sources that interfaces have heard are others. -/
section Rso
variable {G H : Nat → Nat → Nat} {sa : Nat → Nat} {x q : Nat} {s s' s1 : cS} {t t' : moS}
theorem rr_so (h : RR G H sa x s t) (hM : MV t) (hg : RGl G H sa x s') (f : fr [8, 115, 120] [(96, 8), (97, 8)] [] s s') (m : mfr [101, 102, 103, 104] t t') (hI : ∀ g a, (s.K a).1 = 8 → g ≠ 98 → s'.I g a = s.I g a) (ho : ∀ r p, r < cR t → p < cI t r → RSo G s' t' (4 * r + p)) : RR G H sa x s' t' := by
  obtain ⟨⟨a, b, c, e, g, i, j⟩, htx⟩ := h.q
  have hT := a.2.1
  have hx := a.1
  have ht := hg.2.2.1
  have e1 : cL t' = cL t := by unfold cL; rw [m.S 17 (by decide)]
  have e2 : cS' t' = cS' t := by unfold cS'; rw [m.S 27 (by decide)]
  have e3 : cR t' = cR t := by unfold cR; rw [m.S 37 (by decide)]
  have e4 : ∀ r, cI t' r = cI t r := fun r => by unfold cI; rw [m.I 70 (by decide)]
  obtain ⟨v1, v2, v3⟩ := f.v hx (by decide)
  refine RQ.r ⟨hg, b.fr m rfl, ?_, ?_, ?_, ?_, j.fr hT hx f m ⟨v1 233, v1 235⟩ rfl rfl rfl rfl⟩ (htx.fr hT hx f m rfl rfl rfl)
  · rw [v1, v1, v1, v1, v1, m.S 4 (by decide), m.S 1 (by decide), m.S 17 (by decide), m.S 37 (by decide), m.S 27 (by decide)]
    exact c
  · rw [e1]; exact fun k hk => (e k hk).fr hT hx f ht m rfl rfl rfl rfl
  · rw [e2]; exact fun k hk => (g k hk).fr hT hx f ht m rfl rfl rfl rfl
  · rw [e3]
    intro r hr'
    obtain ⟨i1, i2, i3, i4, i5, i6, i7⟩ := i r hr'
    have hv := hM.r hr'
    refine ⟨i1.fr hT hx f ht m rfl rfl rfl rfl, i2.fr hT i1.1.1 f ((f.v i1.1.1 (by decide)).1 199) m rfl rfl rfl rfl, i3.fr hT i1.1.1 f m rfl rfl rfl rfl, i4.fr hT i1.1.1 f m rfl rfl rfl, i5.fr hT i1.1.1 f m rfl rfl rfl, i6.fr hT i1.1.1 ⟨hv.2.2.2.2.2.2.1.1.n.2.2, hv.2.2.2.2.2.2.2.1.1.n.2.2⟩ f m rfl rfl rfl, ?_⟩
    rw [e4]
    intro p hp
    obtain ⟨⟨a1, a2, a3⟩, b1, b2, c1, d, e', g', k'⟩ := i7 p hp
    have h4' : (t.I 82 (4 * r + p)).toNatClampNeg ≤ 4 := (hv.2.2.2.2.2.2.2.2.2.2.1 p hp).2.2.2.2.2.2.2.2.2.2.1.n.2.2
    refine ⟨⟨f.r a1, ?_, ?_⟩, b1.fr a1 f m rfl (by decide) rfl, b2.fr a1 f m rfl (by decide) rfl, ?_, ?_, ?_, g'.fr hT a1 h4' f m rfl rfl rfl rfl, ho r p hr' hp⟩
    · rw [f.q (a := H 184 (G 1 r)) (u := 139) (by rw [(hT.r i1.1.1 184 139 4).2]) (by decide)]; exact a2
    · rw [m.I 71 (by decide)]; exact a3
    · rw [hI 83 _ a1 (by decide), hI 84 _ a1 (by decide), hI 85 _ a1 (by decide), hI 88 _ a1 (by decide), hI 92 _ a1 (by decide), hI 93 _ a1 (by decide), hI 94 _ a1 (by decide), hI 95 _ a1 (by decide), m.I 72 (by decide), m.J 73 (by decide), m.I 74 (by decide), m.I 90 (by decide), m.I 95 (by decide), m.I 99 (by decide), m.I 100 (by decide), m.I 89 (by decide)]
      exact c1
    · rw [m.I 90 (by decide), m.I 91 (by decide), m.J 92 (by decide), m.J 93 (by decide), m.I 94 (by decide), f.q (a := H 87 (G 2 (4 * r + p))) (u := 136) (by rw [(hT.r a1 87 136 4).2]) (by decide)]
      intro j hj
      obtain ⟨q, q1, q2, q3⟩ := d j hj
      exact ⟨q, q1, f.r q2, q3.fr f q2 (by decide)⟩
    · rw [m.I 95 (by decide), m.I 96 (by decide), m.J 97 (by decide), m.J 98 (by decide), f.q (a := H 91 (G 2 (4 * r + p))) (u := 137) (by rw [(hT.r a1 91 137 4).2]) (by decide)]
      intro j hj
      obtain ⟨q, n, q1, q2, q3⟩ := e' j hj
      exact ⟨q, n, q1, f.r q2, q3.fr f q2 (by decide)⟩
theorem mv_so (h : MV t) (m : mfr [101, 102, 103, 104] t t') (z0 : 64 ≤ t'.N 102 ∧ t'.N 102 ≤ 8192 ∧ t'.N 103 = t'.N 102 ∧ t'.N 104 = t'.N 102) (z1 : rng (t'.S 101) 0 8192 ∧ (t'.S 101).toNatClampNeg ≤ t'.N 102) (z2 : ∀ i, i < (t'.S 101).toNatClampNeg → ∃ r p, r < cR t ∧ p < cI t r ∧ t'.I 102 i = nI (4 * r + p)) : MV t' := by
  obtain ⟨h0, h1, h2, h3, h4, h5⟩ := h
  have e1 : cL t' = cL t := by unfold cL; rw [m.S 17 (by decide)]
  have e2 : cS' t' = cS' t := by unfold cS'; rw [m.S 27 (by decide)]
  have e3 : cR t' = cR t := by unfold cR; rw [m.S 37 (by decide)]
  have e4 : ∀ r, cI t' r = cI t r := fun r => by unfold cI; rw [m.I 70 (by decide)]
  refine ⟨?_, ?_, ?_, ?_, h4.fr m rfl, ?_⟩
  · obtain ⟨⟨n1, n2, n3, n4⟩, b⟩ := h0
    refine ⟨⟨fun k hk => (m.2 k (Or.inr hk)).trans (n1 k hk), ?_, ?_, z0⟩, ?_⟩
    · rw [m.2 7 (Or.inl (by decide))]; exact n2
    · rw [m.2 5 (Or.inl (by decide))]; exact n3
    · rw [m.S 1 (by decide), m.S 3 (by decide), m.S 6 (by decide), m.2 5 (Or.inl (by decide)), m.S 17 (by decide), m.S 27 (by decide), m.S 37 (by decide)]
      exact b
  · rw [e1]; exact fun i hi => (h1 i hi).fr m rfl
  · rw [e2]; exact fun i hi => (h2 i hi).fr m rfl
  · rw [e3]; exact fun r hr => (h3 r hr).fr m rfl
  · obtain ⟨q1, q2, q3, q4, q5, q6⟩ := h5
    refine ⟨?_, ?_, ?_, ?_, z1, ?_⟩
    · rw [e1, m.I 23 (by decide), m.I 24 (by decide), m.I 25 (by decide)]; exact q1
    · rw [e2, m.I 29 (by decide)]; exact q2
    · rw [e3, m.I 46 (by decide), m.I 53 (by decide), m.I 59 (by decide), m.I 63 (by decide), m.I 70 (by decide), m.I 105 (by decide), m.I 45 (by decide)]; exact q3
    · intro r p h6 hp h4'
      rw [e4] at hp
      have := q4 r p h6 hp h4'
      unfold mZi at this ⊢
      rw [m.I 74 (by decide), m.I 75 (by decide), m.I 79 (by decide), m.I 82 (by decide), m.I 89 (by decide), m.I 90 (by decide), m.I 95 (by decide), m.I 99 (by decide), m.I 100 (by decide)]
      exact this
    · rw [e3]
      simp only [e4]
      exact z2
/-- a new row of numbers, that stands nowhere -/
theorem rgl_newA (h : RGl G H sa x s) {v : Ov} (e : HP sa s [(q, v)] s1) (hv : 100 ≤ v.1.1) (hv3 : v.1.1 ≠ 103) : RGl G H sa x s1 ∧ fr [] [] [] s s1 := by
  have ex := hp_ex e
  obtain ⟨z1, z2, z3⟩ := hp_at (L1 := []) e
  have hK : s1.K q = v.1 := ov_K z1
  have fresh : ∀ a, a ∈ [q] → cFr sa s a := fun a ha => by rw [List.mem_singleton.mp ha]; exact z2
  have f : fr [] [] [] s s1 := ex.fr (fun a ha => (fresh a ha).1)
  have ht : TK sa s1 := h.2.2.1.ex ex (fun a ha => (fresh a ha).2)
  have only : ∀ a, nwd s s1 a → 100 ≤ (s1.K a).1 ∧ (s1.K a).1 ≠ 103 := fun a ha => by
    have hm := ex.new ha
    rw [List.mem_singleton.mp hm]
    show 100 ≤ (s1.K q).1 ∧ (s1.K q).1 ≠ 103
    rw [hK]
    exact ⟨hv, hv3⟩
  have nO : ∀ c a, nwd s s1 a → okO s1 c a → False := fun c a ha ho => by
    have := only a ha
    have := ho.2.1
    omega
  refine ⟨rgl_ext h f ht ?_ ?_ ?_ ?_ ?_ ?_ ?_, f⟩
  · intro a ha g v n et
    have := only a ha
    have := (tyF_k et).2.1
    omega
  · exact fun a ha ho => (nO 0 a ha ho).elim
  · intro a ha h6
    have := only a ha
    omega
  · intro a ha h6
    have := only a ha
    omega
  · exact fun a ha ho => (nO 10 a ha ho).elim
  · exact fun a ha ho => (nO 1 a ha ho).elim
  · intro a i ha h6
    exact absurd h6 (only a ha).2
theorem tyF_96 {u g : Nat} {e : Nat × Nat} (h : tyF u g = some e) : g ≠ 96 ∧ g ≠ 97 := by
  unfold tyF at h
  split at h <;> first | (cases h; done) | decide
/-- an interface's row of sources is another -/
theorem rgl_96 {c k : Nat} (h : RGl G H sa x s) (hc : (s.K c).1 = 8) (hk : k = 96 ∧ (s.K q).1 = 115 ∨ k = 97 ∧ (s.K q).1 = 120) (hn : ∀ a, (s.K a).1 = 8 → s.P k a ≠ some q) : RGl G H sa x (cSP s k c (some q)) := by
  obtain ⟨a1, a2, a3, a4, a5, a6, a7, a8, a9, a10, a11, a12, a13, a14, a15, a16, a17⟩ := h
  have hk2 : k = 96 ∨ k = 97 := by rcases hk with z | z <;> first | exact Or.inl z.1 | exact Or.inr z.1
  have pP : ∀ g a, g ≠ 96 → g ≠ 97 → (cSP s k c (some q)).P g a = s.P g a := fun g a h1 h2 => cSP_g (by rcases hk2 with z | z <;> omega)
  have p8 : ∀ g a d, (cSP s k c (some q)).P g a = some d → (g = k ∧ a = c ∧ d = q) ∨ (¬ (g = k ∧ a = c) ∧ s.P g a = some d) := fun g a d h => by
    by_cases z : g = k ∧ a = c
    · rw [z.1, z.2, cSP_s] at h
      exact Or.inl ⟨z.1, z.2, (Option.some.inj h).symm⟩
    · refine Or.inr ⟨z, ?_⟩
      by_cases z1 : g = k
      · rw [z1, cSP_a (fun z2 => z ⟨z1, z2⟩)] at h; rw [z1]; exact h
      · rw [cSP_g z1] at h; exact h
  have f : fr [] [(96, 8), (97, 8)] [] s (cSP s k c (some q)) := fr.sp (by
    rw [hc]
    rcases hk2 with z | z <;> rw [z] <;> decide)
  have u8 : ∀ g, (∀ a b d, (s.K a).1 = 8 → (s.K b).1 = 8 → s.P g a = some d → s.P g b = some d → a = b) → ∀ a b d, (s.K a).1 = 8 → (s.K b).1 = 8 → (cSP s k c (some q)).P g a = some d → (cSP s k c (some q)).P g b = some d → a = b := fun g hg a b d ha hb ea eb => by
    rcases p8 g a d ea with ⟨y1, y2, y3⟩ | ⟨-, e1⟩ <;> rcases p8 g b d eb with ⟨w1, w2, w3⟩ | ⟨-, e2⟩
    · rw [y2, w2]
    · rw [y3, y1] at e2; exact absurd e2 (hn b hb)
    · rw [w3, w1] at e1; exact absurd e1 (hn a ha)
    · exact hg a b d ha hb e1 e2
  refine ⟨a1, ⟨fun a g v n hu et => ?_, a2.2.1, ?_⟩, a3, fun a ha => ?_, ?_, ?_, u8 96 a7, u8 97 a8, ?_, ?_, ?_, ?_, a13, a14, a15, fun a ha => ?_, ?_⟩
  · rw [pP g a (tyF_96 et).1 (tyF_96 et).2]
    exact a2.1 a g v n hu et
  · exact fun a b d ha hb ea eb => a2.2.2 a b d ha hb (by rw [← pP 0 a (by decide) (by decide)]; exact ea) (by rw [← pP 0 b (by decide) (by decide)]; exact eb)
  · obtain ⟨l, hl⟩ := a4 a ha
    exact ⟨l, hl.fr f (a2.p ha 40 3).2 (by decide) (by decide) (by decide)⟩
  · obtain ⟨n, r1, r2, r3, w, cap, r4⟩ := a5
    exact ⟨n, r1, r2, r3, w, cap, by rw [pP 200 _ (by decide) (by decide)]; exact r4⟩
  · rw [pP 223 x (by decide) (by decide)]; exact a6
  · intro a b d ha hb ea eb
    rw [pP 200 _ (by decide) (by decide)] at ea eb
    exact a9 a b d ha hb ea eb
  · intro a d ha ea
    rw [pP 28 _ (by decide) (by decide)] at ea
    exact a10 a d ha ea
  · intro a b d ha hb ea eb
    rw [pP 28 _ (by decide) (by decide)] at ea eb
    exact a11 a b d ha hb ea eb
  · intro a ha
    rw [pP 0 _ (by decide) (by decide)]
    exact a12 a ha
  · obtain ⟨d, e, e1, e2, e3, e4⟩ := a16 a ha
    have pc : ∀ g, (cSP s k c (some q)).P g a = s.P g a ∨ (g = k ∧ (cSP s k c (some q)).P g a = some q) := fun g => by
      by_cases z2 : g = k
      · by_cases z1 : a = c
        · exact Or.inr ⟨z2, by rw [z1, z2, cSP_s]⟩
        · exact Or.inl (by rw [z2, cSP_a z1])
      · exact Or.inl (cSP_g z2)
    have g6 : ∃ d, (cSP s k c (some q)).P 96 a = some d ∧ (s.K d).1 = 115 := by
      rcases pc 96 with z | ⟨z, y⟩
      · exact ⟨d, z.trans e1, e3⟩
      · refine ⟨q, y, ?_⟩
        rcases hk with w | w
        · exact w.2
        · omega
    have g7 : ∃ d, (cSP s k c (some q)).P 97 a = some d ∧ (s.K d).1 = 120 := by
      rcases pc 97 with z | ⟨z, y⟩
      · exact ⟨e, z.trans e2, e4⟩
      · refine ⟨q, y, ?_⟩
        rcases hk with w | w
        · omega
        · exact w.2
    obtain ⟨d', b1, b2⟩ := g6
    obtain ⟨e', b3, b4⟩ := g7
    exact ⟨d', e', b1, b3, b2, b4⟩
  · intro a ha
    rw [pP 200 _ (by decide) (by decide)]
    exact a17 a ha
end Rso
