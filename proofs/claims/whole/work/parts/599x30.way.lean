/-! way, on both sides. -/
section Wy
variable {G H : Nat → Nat → Nat} {sa : Nat → Nat} {x kc ks : Nat} {s s' : cS} {t t' : moS}
theorem fp.fr {y u : Nat} (h : fp y s s') (hu : (s.K y).1 = u) : fr [u] [] [] s s' := by
  obtain ⟨a1, a2, a3, a4, a5⟩ := h
  intro a ha
  refine ⟨by rw [a1], fun hb => ?_, fun g _ => by rw [a2], fun _ => by rw [a4]⟩
  have hne : a ≠ y := fun e => hb (by rw [e, hu]; exact List.mem_singleton.mpr rfl)
  exact ⟨fun g => (a5 g a hne).1, fun g => (a5 g a hne).2, by rw [a3]⟩
/-- the tape, taken: the class keeps what it read in y -/
theorem tp_take {s1 : cS} {y : Nat} (hR : RR G H sa x s t) (hM : MV t) (hy : (s.K y).1 = 39) (f1 : fp y s s1) (m : mfr [0, 3, 12, 13, 14, 16] t t') (h3 : t'.S 3 = 0) : MV t' ∧ RR G H sa x (cSI s1 1 (H 220 x) 0) t' ∧ fr [39, 1] [] [] s (cSI s1 1 (H 220 x) 0) := by
  obtain ⟨hq, ⟨cap0, hc0, hb0⟩, tx, pg, c1, c2, b1, b2, b3, b4, b5, b6, b7, b8, lp, b9⟩ := hR.q
  have hx := hq.1.1
  have h220 := hq.ty.p hx 220 1
  have hne : H 220 x ≠ y := fun e => by rw [← e, h220.2] at hy; exact absurd hy (by decide)
  have f : fr [39, 1] [] [] s (cSI s1 1 (H 220 x) 0) := ((f1.fr hy).wk).tr (fr.si (by rw [f1.1, h220.2]; decide))
  have g2 : RGl G H sa x (cSI s1 1 (H 220 x) 0) := hq.1.v f1.1 f1.2.1 f rfl rfl rfl
  have hM' : MV t' := by
    refine hM.fr m rfl ?_
    obtain ⟨⟨a1, a2, a3, a4⟩, d1, d2, d3, d4, d5⟩ := hM.1
    refine ⟨⟨fun k hk => (m.2 k (Or.inr hk)).trans (a1 k hk), ?_, ?_, ?_⟩, ?_, ⟨0, h3, Nat.le_refl _, Nat.zero_le _⟩, ?_, ?_, ?_⟩
    · rw [m.2 7 (Or.inl (by decide))]; exact a2
    · rw [m.2 5 (Or.inl (by decide))]; exact a3
    · rw [m.2 102 (Or.inl (by decide)), m.2 103 (Or.inl (by decide)), m.2 104 (Or.inl (by decide))]; exact a4
    · rw [m.S 1 (by decide)]; exact d1
    · rw [m.S 6 (by decide)]; exact d3
    · rw [m.S 6 (by decide), m.2 5 (Or.inl (by decide))]; exact d4
    · rw [m.S 17 (by decide), m.S 27 (by decide), m.S 37 (by decide)]; exact d5
  refine ⟨hM', RQ.r (hq.fr hM g2 f m rfl rfl rfl rfl) ⟨⟨cap0, hc0, ?_⟩, tx, pg, c1, c2, ?_, ?_, f.r b3, f.r b4, b5, b6, b7, ?_, lp, b9.fr f b4 (by decide) (by decide) (by decide)⟩, f⟩
  · have hb1 := f1.b hb0 hne
    obtain ⟨a1, a2, d, a3, a4, a5, a6, a7, a8, a9⟩ := hb1
    rw [h3]
    exact ⟨a1, a2, d, a3, a4, cSI_s, Nat.zero_le _, a7, a8, fun i hi => absurd hi (Nat.not_lt_zero _)⟩
  · rw [f.p hx (by decide)]; exact b1
  · rw [f.p hx (by decide)]; exact b2
  · rw [m.I 5 (by decide), m.S 6 (by decide)]; exact b8.fr f b3 (by decide) (by decide) (by decide)
end Wy
