/-! An interface's cost, split, passive. -/
section S3
variable {G H : Nat → Nat → Nat} {sa : Nat → Nat} {x r p : Nat} {s s' : cS} {t t' : moS}
theorem rr_sc3 (h : RR G H sa x s t) (hM : MV t) (hr : r < cR t) (hp : p < cI t r) (hK : s'.K = s.K ∧ s'.P = s.P ∧ s'.Q = s.Q ∧ s'.J = s.J ∧ s'.E = s.E) (hI : ∀ g a, ¬ (a = G 2 (4 * r + p) ∧ (g = 83 ∨ g = 84 ∨ g = 85)) → s'.I g a = s.I g a) (m : mfr [72, 73, 74] t t') (o : ∀ i, i ≠ 4 * r + p → t'.I 72 i = t.I 72 i ∧ t'.J 73 i = t.J 73 i ∧ t'.I 74 i = t.I 74 i) (v3 : s'.I 83 (G 2 (4 * r + p)) = t'.I 72 (4 * r + p)) (v4 : spl (s'.I 84 (G 2 (4 * r + p))) (t'.J 73 (4 * r + p))) (v5 : s'.I 85 (G 2 (4 * r + p)) = t'.I 74 (4 * r + p)) (b2 : rng (t'.I 72 (4 * r + p)) 1 15) (b4 : bit (t'.I 74 (4 * r + p))) : RR G H sa x s' t' ∧ MV t' ∧ fr [8] [] [] s s' := by
  have hq := h.q.1
  have hk := (hq.po hr hp).1.1
  have f : fr [8] [] [] s s' := by
    obtain ⟨k1, k2, k3, k4, k5⟩ := hK
    intro a _
    exact ⟨by rw [k1], fun hn => ⟨fun g => hI g a (fun z => hn (by rw [z.1, hk]; decide)), fun g => by rw [k4], by rw [k5]⟩, fun g _ => by rw [k2], fun _ => by rw [k3]⟩
  have b3 : t'.J 73 (4 * r + p) = 24246 ∨ t'.J 73 (4 * r + p) = 1969498085 ∨ t'.J 73 (4 * r + p) = 1677407014 := by
    rcases v4 with ⟨-, e⟩ | ⟨-, e⟩ | ⟨-, e⟩
    · exact Or.inl e
    · exact Or.inr (Or.inl e)
    · exact Or.inr (Or.inr e)
  have p4 : p < 4 := Nat.lt_of_lt_of_le hp (hM.r hr).2.2.2.2.2.2.2.2.2.1.n.2.2
  refine ⟨rr_po h hM (hq.1.v hK.1 hK.2.1 f rfl rfl rfl) f.wk (m.wk (by decide)) fun r' p' hr' hp' => ?_, hM.po (m.wk (by decide)) (fun r' p' hr' hp' => ?_) (fun r' p' h6 hp' h4 => ?_), f⟩
  · have hP := hq.po hr' hp'
    have hin : G 2 (4 * r' + p') = G 2 (4 * r + p) → 4 * r' + p' = 4 * r + p := fun e => hq.2.1.2.2.1 r' r p' p hr' hr hp' hp e
    have o1 : ∀ g, g ≠ 83 → g ≠ 84 → g ≠ 85 → s'.I g (G 2 (4 * r' + p')) = s.I g (G 2 (4 * r' + p')) := fun g h1 h2 h3 => hI g _ (fun z => by rcases z.2 with y | y | y <;> contradiction)
    obtain ⟨-, -, -, ⟨c1, c2, c3, c4, c5, c6, c7, c8⟩, -⟩ := id hP
    have sc : s'.I 83 (G 2 (4 * r' + p')) = t'.I 72 (4 * r' + p') ∧ spl (s'.I 84 (G 2 (4 * r' + p'))) (t'.J 73 (4 * r' + p')) ∧ s'.I 85 (G 2 (4 * r' + p')) = t'.I 74 (4 * r' + p') := by
      by_cases e : 4 * r' + p' = 4 * r + p
      · rw [e]; exact ⟨v3, v4, v5⟩
      · obtain ⟨q1, q2, q3⟩ := o _ e
        have ne : ¬ G 2 (4 * r' + p') = G 2 (4 * r + p) := fun z => e (hin z)
        rw [q1, q2, q3, hI 83 _ (fun z => ne z.1), hI 84 _ (fun z => ne z.1), hI 85 _ (fun z => ne z.1)]
        exact ⟨c1, c2, c3⟩
    refine rpo_sc hP hq.ty (hq.rt hr').1.1 ((hM.r hr').i hp').2.2.2.2.2.2.2.2.2.2.1.n.2.2 f (m.wk (by decide)) (o1 98 (by decide) (by decide) (by decide)) ⟨sc.1, sc.2.1, sc.2.2, ?_, ?_, ?_, ?_, ?_⟩
    · rw [o1 88 (by decide) (by decide) (by decide), m.I 90 (by decide)]; exact c4
    · rw [o1 92 (by decide) (by decide) (by decide), m.I 95 (by decide)]; exact c5
    · rw [o1 93 (by decide) (by decide) (by decide), m.I 99 (by decide)]; exact c6
    · rw [o1 94 (by decide) (by decide) (by decide), m.I 100 (by decide)]; exact c7
    · rw [o1 95 (by decide) (by decide) (by decide), m.I 89 (by decide)]; exact c8
  · have := (hM.r hr').i hp'
    unfold mVi cL at this ⊢
    simp only [m.I 71 (by decide), m.S 17 (by decide), m.I 75 (by decide), m.I 78 (by decide), m.I 79 (by decide), m.I 80 (by decide), m.I 82 (by decide), m.I 83 (by decide), m.I 84 (by decide), m.I 85 (by decide), m.I 87 (by decide), m.I 88 (by decide), m.I 90 (by decide), m.I 91 (by decide), m.I 94 (by decide), m.I 95 (by decide), m.I 96 (by decide), m.I 99 (by decide), m.I 100 (by decide)]
    obtain ⟨c1, c2, c3, c4, c5, c6⟩ := this
    have e3 : rng (t'.I 72 (4 * r' + p')) 1 15 ∧ (t'.J 73 (4 * r' + p') = 24246 ∨ t'.J 73 (4 * r' + p') = 1969498085 ∨ t'.J 73 (4 * r' + p') = 1677407014) ∧ bit (t'.I 74 (4 * r' + p')) := by
      by_cases e : 4 * r' + p' = 4 * r + p
      · rw [e]; exact ⟨b2, b3, b4⟩
      · obtain ⟨q1, q2, q3⟩ := o _ e
        rw [q1, q2, q3]
        exact ⟨c3, c4, c5⟩
    exact ⟨c1, c2, e3.1, e3.2.1, e3.2.2, c6⟩
  · have := hM.2.2.2.2.2.2.2.2.1 r' p' h6 hp' h4
    have ne : 4 * r' + p' ≠ 4 * r + p := fun z => by
      have e : r' = r := by omega
      subst e
      omega
    unfold mZi at this ⊢
    rw [(o _ ne).2.2, m.I 75 (by decide), m.I 79 (by decide), m.I 82 (by decide), m.I 89 (by decide), m.I 90 (by decide), m.I 95 (by decide), m.I 99 (by decide), m.I 100 (by decide)]
    exact this
end S3
