/-! Lines: router. -/
section Pz
variable {G H : Nat → Nat → Nat} {sa : Nat → Nat} {rd x kc ks : Nat} {s : cS} {t : moS} {l : List Int32} {ws : List (Nat × Nat)}
theorem hp_3 {s0 s' : cS} {L : List (Nat × Ov)} {c z v : Nat} (h : HP sa s0 L s) (ex : exA [c, z, v] s s') (hc : cFr sa s c) (hz : cFr sa s z) (hv : cFr sa s v) (cz : c ≠ z) (cv : c ≠ v) (zv : z ≠ v) (kc' : (s'.K c).1 ≠ 0) (kz : (s'.K z).1 ≠ 0) (kv : (s'.K v).1 ≠ 0) : HP sa s0 ((c, ov s' c) :: (z, ov s' z) :: (v, ov s' v) :: L) s' := by
  obtain ⟨fc, nc⟩ := hp_fresh h hc
  obtain ⟨fz, nz⟩ := hp_fresh h hz
  obtain ⟨fv, nv'⟩ := hp_fresh h hv
  have ee : ∀ b, b ≠ c → b ≠ z → b ≠ v → ov s' b = ov s b := fun b h1 h2 h3 => by
    obtain ⟨x1, x2, x3, x4, x5, x6⟩ := ex b (by simp [h1, h2, h3])
    exact ov_eq x1 x2 x3 x4 x5 x6
  refine ⟨fun b hb => ?_, fun p hp => ?_, fun p hp => ?_, fun p hp => ?_, nv', h.2.2⟩
  · have h1 : b ≠ c := fun e => hb (c, ov s' c) (by simp) e.symm
    have h2 : b ≠ z := fun e => hb (z, ov s' z) (by simp) e.symm
    have h3 : b ≠ v := fun e => hb (v, ov s' v) (by simp) e.symm
    rw [ee b h1 h2 h3]
    exact h.1 b fun p hp => hb p (by simp [hp])
  · simp only [List.mem_cons] at hp
    rcases hp with rfl | rfl | rfl | hp
    · exact ⟨rfl, fc, kc'⟩
    · exact ⟨rfl, fz, kz⟩
    · exact ⟨rfl, fv, kv⟩
    · rw [ee _ (nc p hp) (nz p hp) (nv' p hp)]
      exact h.2.1 p hp
  · simp only [List.mem_cons] at hp
    rcases hp with rfl | rfl | hp
    · exact fun e => cz e.symm
    · exact fun e => cv e.symm
    · exact nc p hp
  · simp only [List.mem_cons] at hp
    rcases hp with rfl | hp
    · exact fun e => zv e.symm
    · exact nz p hp
end Pz
