/-! Whether all is asked for: the model. -/
section Ma
variable {t : moS} {o n f : Nat}
theorem L_16 {b : Nat} (hb : b < 256) : Int32.toInt64 (nI b) = 16 ↔ nI b = 16 := by
  rw [nI_L (by omega)]
  constructor
  · intro h
    have := congrArg (fun z : Int64 => z.toBitVec.toNat) h
    have this : (Int64.ofNat b).toBitVec.toNat = 16 := this
    rw [L_toNat, Nat.mod_eq_of_lt (by omega)] at this
    rw [this]; rfl
  · intro h
    have : b = 16 := nI_inj32 (by omega) (by decide) (h.trans (show (16 : Int32) = nI 16 from rfl))
    rw [this]; rfl
theorem m_asks (hN : t.N 149 = 700) (h162 : t.S 162 = nI o) (h163 : t.S 163 = nI n) (hn : n ≤ 35) (ho : n = 1 → o + 20 ≤ 700) (hb : ∀ j, o ≤ j → j < o + 20 → j < 700 → isB (t.I 149 j)) (hf : f = 0 ∨ f = 1) : (n = 1 ∧ asF (t.I 149) f o → M_asksForAll t (nI f) = some 1) ∧ (¬ (n = 1 ∧ asF (t.I 149) f o) → M_asksForAll t (nI f) = some 0) := by
  unfold M_asksForAll M_asksForAll_b61 M_asksForAll_b93
  rw [h163, h162]
  by_cases c : n = 1
  rotate_left
  · rw [if_neg (fun z => c (nI_inj32 (by omega) (by decide) (z.trans (show (1 : Int32) = nI 1 from rfl))))]
    exact ⟨fun z => absurd z.1 c, fun _ => rfl⟩
  subst c
  have ho := ho rfl
  rw [if_pos (show nI 1 = (1 : Int32) from rfl)]
  rcases hf with rfl | rfl
  · rw [if_pos (show nI 0 = (0 : Int32) from rfl), rdI_n hN (show o < 700 by omega) (by decide)]
    simp only [Option.bind_some]
    obtain ⟨b0, l0, h0⟩ := hb (o + 16) (by omega) (by omega) (by omega)
    obtain ⟨b1, l1, h1⟩ := hb (o + 16 + 1) (by omega) (by omega) (by omega)
    obtain ⟨b2, l2, h2⟩ := hb (o + 16 + 2) (by omega) (by omega) (by omega)
    obtain ⟨b3, l3, h3⟩ := hb (o + 16 + 3) (by omega) (by omega) (by omega)
    have eX := nb_4 (g := t.I 149) h0 h1 h2 h3 l0 l1 l2 l3
    have h4 := m_num4 (t := t) (k := 149) (N := 700) (a := o + 16) hN (by omega) (by decide) h0 h1 h2 h3 l0 l1 l2 l3
    have eA : asF (t.I 149) 0 o ↔ Int64.ofNat (N4 b0 b1 b2 b3) = 16 ∧ t.I 149 o = 0 ∧ t.I 149 (o + 1) = 0 := by
      unfold asF meF
      rw [if_pos rfl, if_pos rfl, eX]
      constructor
      · rintro ⟨z1, z2⟩
        exact ⟨z1, z2 o (by omega) (by omega), z2 (o + 1) (by omega) (by omega)⟩
      · rintro ⟨z1, z2, z3⟩
        refine ⟨z1, fun j h1 h2 => ?_⟩
        rcases (show j = o ∨ j = o + 1 by omega) with rfl | rfl
        · exact z2
        · exact z3
    by_cases c0 : t.I 149 o = 0
    rotate_left
    · rw [if_neg c0]
      exact ⟨fun z => absurd (eA.mp z.2).2.1 c0, fun _ => rfl⟩
    rw [if_pos c0, nI_1, rdI_n hN (show o + 1 < 700 by omega) (by decide)]
    simp only [Option.bind_some]
    by_cases c1 : t.I 149 (o + 1) = 0
    rotate_left
    · rw [if_neg c1]
      exact ⟨fun z => absurd (eA.mp z.2).2.2 c1, fun _ => rfl⟩
    rw [if_pos c1, show nI o + 16 = nI (o + 16) from nI_add o 16, h4]
    simp only [Option.bind_some]
    by_cases c2 : Int64.ofNat (N4 b0 b1 b2 b3) = 16
    · rw [if_pos c2]
      exact ⟨fun _ => rfl, fun z => absurd ⟨trivial, eA.mpr ⟨c2, c0, c1⟩⟩ z⟩
    · rw [if_neg c2]
      exact ⟨fun z => absurd (eA.mp z.2).1 c2, fun _ => rfl⟩
  · rw [if_neg (show ¬ nI 1 = (0 : Int32) by decide), show nI o + 19 = nI (o + 19) from nI_add o 19]
    obtain ⟨y1, y0⟩ := m_zer (t := t) (a := o) (c := o + 19) hN (by omega) (by omega)
    obtain ⟨b, lb, eb⟩ := hb (o + 19) (by omega) (by omega) (by omega)
    have eA : asF (t.I 149) 1 o ↔ t.I 149 (o + 19) = 16 ∧ zrF (t.I 149) o (o + 19) := by
      unfold asF meF
      rw [if_neg (by decide), if_neg (by decide), eb, L_16 lb]
    by_cases c0 : zrF (t.I 149) o (o + 19)
    · rw [y1 c0]
      simp only [Option.bind_some]
      rw [if_neg (by decide), rdI_n hN (show o + 19 < 700 by omega) (by decide)]
      simp only [Option.bind_some]
      by_cases c1 : t.I 149 (o + 19) = 16
      · rw [if_pos c1]
        exact ⟨fun _ => rfl, fun z => absurd ⟨trivial, eA.mpr ⟨c1, c0⟩⟩ z⟩
      · rw [if_neg c1]
        exact ⟨fun z => absurd (eA.mp z.2).1 c1, fun _ => rfl⟩
    · rw [y0 c0]
      simp only [Option.bind_some]
      exact ⟨fun z => absurd (eA.mp z.2).2 c0, fun _ => rfl⟩
end Ma
