/-! The model's writes of a join: MV, and what is due. -/
section Jv
variable {r p f : Nat} {t t0 tm t1 : moS} {hh ll : Int64} {nn co sp pas : Int32}
theorem mv_jm (hM : MV t) (hr : r < cR t) (hp : p < cI t r) (hf : f = 0 ∨ f = 1) (hJ : JM t tm (4 * r + p) f hh ll nn co sp pas) (hn : rng nn 0 (if f = 0 then 32 else 128)) (bco : co = -1 ∨ rng co 1 15) (hpas : bit pas) : MV tm := by
  obtain ⟨m, o, ⟨v5, v6, v7, v8⟩, oS, w2, w3, w4⟩ := hJ
  have hp4 : p < 4 := Nat.lt_of_lt_of_le hp (hM.nIf hr)
  refine hM.po (m.wk (by decide)) (fun r' p' hr' hp' => ?_) (fun r' p' h6 hp' h4 => ?_)
  · have := (hM.r hr').i hp'
    have h4' := hM.nIf hr'
    unfold mVi cL at this ⊢
    rw [m.I 71 (by decide), m.S 17 (by decide), m.I 79 (by decide), m.I 80 (by decide), m.I 82 (by decide), m.I 83 (by decide), m.I 84 (by decide), m.I 85 (by decide), m.I 87 (by decide), m.I 88 (by decide), m.I 90 (by decide), m.I 91 (by decide), m.I 94 (by decide), m.I 95 (by decide), m.I 96 (by decide), m.I 99 (by decide), m.I 100 (by decide)]
    obtain ⟨c1, c2, c3, c4, c5, ⟨c6, c6'⟩, c7, c8, c9⟩ := this
    by_cases e : 4 * r' + p' = 4 * r + p
    · rw [e] at c3 c4 c5 c6 c6' c7 c8 c9 c1 c2 ⊢
      refine ⟨c1, c2, ?_, ?_, ?_, ?_, ?_, ?_, c9⟩
      · rw [w2]
        by_cases z : co = -1
        · rw [if_pos z]; exact c3
        · rw [if_neg z]; exact bco.resolve_left z
      · by_cases z : sp = -1
        · rw [if_pos z] at w3
          rw [w3]; exact c4
        · rw [if_neg z] at w3
          rcases w3 with ⟨-, y⟩ | ⟨-, y⟩ | ⟨-, y⟩
          · exact Or.inl y
          · exact Or.inr (Or.inl y)
          · exact Or.inr (Or.inr y)
      · rw [w4]
        rcases c5 with y | y <;> rcases hpas with z | z <;> rw [y, z] <;> first | exact Or.inl (by decide) | exact Or.inr (by decide)
      · rcases hf with rfl | rfl
        · rw [show 2 * (4 * r + p) = 2 * (4 * r + p) + 0 from rfl, v5, (o (2 * (4 * r + p) + 0 + 1) (by omega)).1]
          exact ⟨Or.inr rfl, c6'⟩
        · rw [v5, (o (2 * (4 * r + p)) (by omega)).1]
          exact ⟨c6, Or.inr rfl⟩
      · rcases hf with rfl | rfl
        · intro _
          rw [show 2 * (4 * r + p) = 2 * (4 * r + p) + 0 from rfl, v8]
          exact hn
        · obtain ⟨y1, -, -, y4⟩ := o (2 * (4 * r + p)) (by omega)
          rw [y1, y4]; exact c7
      · rcases hf with rfl | rfl
        · obtain ⟨y1, -, -, y4⟩ := o (2 * (4 * r + p) + 1) (by omega)
          rw [y1, y4]; exact c8
        · intro _
          rw [v8]
          exact hn
    · obtain ⟨q1, q2, q3⟩ := oS _ e
      obtain ⟨y1, -, -, y4⟩ := o (2 * (4 * r' + p')) (by omega)
      obtain ⟨z1, -, -, z4⟩ := o (2 * (4 * r' + p') + 1) (by omega)
      rw [q1, q2, q3, y1, y4, z1, z4]
      exact ⟨c1, c2, c3, c4, c5, ⟨c6, c6'⟩, c7, c8, c9⟩
  · have := hM.2.2.2.2.2.2.2.2.1 r' p' h6 hp' h4
    have ne : 4 * r' + p' ≠ 4 * r + p := fun z => by
      have e : r' = r := by omega
      subst e
      omega
    obtain ⟨q1, q2, q3⟩ := oS _ ne
    unfold mZi at this ⊢
    rw [q3, (o (2 * (4 * r' + p')) (by omega)).1, (o (2 * (4 * r' + p') + 1) (by omega)).1, m.I 79 (by decide), m.I 82 (by decide), m.I 89 (by decide), m.I 90 (by decide), m.I 95 (by decide), m.I 99 (by decide), m.I 100 (by decide)]
    exact this
theorem jn_jm (c0 : jnT r p t0 t) (m0 : mfr [70, 71, 72, 73] t0 t) (hf : f = 0 ∨ f = 1) (h75 : p < cI t0 r → t0.I 75 (2 * (4 * r + p) + f) = 0) (hJ : JM t tm (4 * r + p) f hh ll nn co sp pas) (fk : fq (4 * r + p) tm t1) : jnT r p t0 t1 ∧ (∀ y, y ≠ 2 * (4 * r + p) + f → eqA t0 t1 y) ∧ mfr [72, 73, 74, 75, 76, 77, 78, 79, 80, 81, 82, 83, 84, 85, 86, 87, 88] t t1 := by
  obtain ⟨m, o, ⟨v5, v6, v7, v8⟩, oS, w2, w3, w4⟩ := hJ
  have mk := fk.1
  obtain ⟨c1, c2, c3, c4, c5, c6, c7, c8⟩ := c0
  have mm : mfr [72, 73, 74, 75, 76, 77, 78, 79, 80, 81, 82, 83, 84, 85, 86, 87, 88] t t1 := (m.wk (by decide)).tr (mk.wk (by decide))
  have eI : ∀ r, cI t1 r = cI t r := fun r => by unfold cI; rw [mm.I 70 (by decide)]
  have ho : ∀ y, y ≠ 2 * (4 * r + p) + f → eqA t0 t1 y := fun y hy => by
    obtain ⟨a1, a2, a3, a4⟩ := o y hy
    unfold eqA
    rw [mk.I 75 (by decide), mk.J 76 (by decide), mk.J 77 (by decide), mk.I 78 (by decide), a1, a2, a3, a4, m0.I 75 (by decide), m0.J 76 (by decide), m0.J 77 (by decide), m0.I 78 (by decide)]
    exact ⟨rfl, rfl, rfl, rfl⟩
  refine ⟨⟨c1.tr (mm.wk (by decide)), fun r' hne => by rw [mm.I 70 (by decide)]; exact c2 r' hne, by rw [eI]; exact c3, by rw [eI]; exact c4, fun i hi => ?_, fun hp => ?_, fun y h1 h2 => ho y (by omega), fun f' hf' hp h => ?_⟩, ho, mm⟩
  · rw [mm.I 71 (by decide), mk.I 72 (by decide), (oS i hi).1]
    exact c5 i hi
  · rw [mm.I 71 (by decide)]
    exact c6 hp
  · by_cases e : f' = f
    · subst e
      exact absurd (h75 hp) h
    · exact ho _ (by omega)
end Jv
