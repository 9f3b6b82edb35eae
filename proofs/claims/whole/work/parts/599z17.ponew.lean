/-! A new interface stands in the relation. -/
/-- a Port as it is made -/
def PoN (H : Nat → Nat → Nat) (s : cS) (q lk : Nat) (rows : Nat → Nat) : Prop := ((s.K q).1 = 8 ∧ H 80 q = lk ∧ s.P 81 q = none ∧ s.P 82 q = none) ∧ (s.I 83 q = 1 ∧ s.I 84 q = 2 ∧ s.I 85 q = 0 ∧ s.I 88 q = 0 ∧ s.I 92 q = 0 ∧ s.I 93 q = 0 ∧ s.I 94 q = 0 ∧ s.I 95 q = 0 ∧ s.I 98 q = 0) ∧ (s.I 20 (H 86 q) = 0 ∧ s.I 22 (H 86 q) = 0 ∧ s.P 28 (H 86 q) = none ∧ ∀ k, k < 4 → s.Q (H 27 (H 86 q)) k = some (rows k) ∧ s.K (rows k) = (126, 16)) ∧ ∃ w1 w2, s.P 96 q = some w1 ∧ s.P 97 q = some w2 ∧ s.K w1 = (115, 4) ∧ s.K w2 = (120, 4)
section Pn
variable {G H : Nat → Nat → Nat} {s : cS} {t : moS} {r p l q lk : Nat} {rows : Nat → Nat}
theorem po_new (hN : PoN H s q lk rows) (hG2 : G 2 (4 * r + p) = q) (hG8 : ∀ k, k < 4 → G 8 (4 * (4 * r + p) + k) = rows k) (hl : l < 2 ^ 31) (hlk : lk = G 0 l) (hQ : s.Q (H 184 (G 1 r)) p = some q) (h71 : t.I 71 (4 * r + p) = nI l) (h72 : t.I 72 (4 * r + p) = 1) (h73 : t.J 73 (4 * r + p) = 1677407014) (hz : mZi t (4 * r + p)) (hs : msL t (4 * r + p) = []) : RPo G H s t r p := by
  obtain ⟨⟨a1, a2, a3, a4⟩, ⟨b1, b2, b3, b4, b5, b6, b7, b8, b9⟩, ⟨c1, c2, c3, c4⟩, w1, w2, d1, d2, d3, d4⟩ := hN
  obtain ⟨z1, ⟨z2, z2'⟩, z3, z4, z5, z6, z7, z8, z9⟩ := hz
  have c0 : (0 : Int32).toNatClampNeg = 0 := rfl
  unfold RPo
  rw [hG2, h71, h72, h73, z1, z5, z6, z7, z8, z9, c0, nI_clamp hl]
  refine ⟨⟨a1, hQ, a2.trans hlk⟩, Or.inl ⟨z2, by rw [hG2]; exact a3⟩, Or.inl ⟨z2', by rw [hG2]; exact a4⟩, ⟨b1, Or.inr (Or.inr ⟨b2, rfl⟩), b3, b4, b5, b6, b7, b8⟩, fun k hk => absurd hk (Nat.not_lt_zero k), fun k hk => absurd hk (Nat.not_lt_zero k), ?_, ?_⟩
  · unfold RCh
    rw [hG2, z3, z4, c0]
    exact ⟨c1, c2, fun k hk => absurd hk (Nat.not_lt_zero k), fun k hk => by rw [hG8 k hk]; exact c4 k hk, fun z => absurd z (by decide), Or.inl c3⟩
  · unfold RSo
    rw [hs, hG2]
    exact ⟨b9, w1, w2, 4, d1, d2, d3, d4, Nat.zero_le _, Nat.le_refl _, by decide, fun i hi => absurd hi (Nat.not_lt_zero i)⟩
end Pn
