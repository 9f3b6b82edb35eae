/-! A router more, both sides. -/
/-- what stands of a router that is new -/
def RtN (G H : Nat → Nat → Nat) (sa : Nat → Nat) (x : Nat) (s : cS) (t : moS) (n : Nat) (c : Int64) : Prop := ((s.K (G 1 n)).1 = 26 ∧ H 180 (G 1 n) = x) ∧ (∃ nm, s.P 181 (G 1 n) = some (H 181 (G 1 n)) ∧ isTx sa s (H 181 (G 1 n)) nm ∧ nmL nm c) ∧ (s.I 182 (G 1 n) = nI n ∧ s.I 183 (G 1 n) = 1 ∧ s.I 185 (G 1 n) = 0 ∧ s.I 197 (G 1 n) = t.S 1 + 30 ∧ s.I 198 (G 1 n) = -1 ∧ s.I 190 (G 1 n) = 0 ∧ s.I 192 (G 1 n) = 0) ∧ (s.E (H 195 (G 1 n)) 0 = 30 ∧ s.E (H 195 (G 1 n)) 1 = 180 ∧ s.E (H 195 (G 1 n)) 2 = 120) ∧ (∀ i, i < 11 → s.E (H 196 (G 1 n)) i = 0) ∧ (s.I 201 (H 186 (G 1 n)) = 0 ∧ ∃ w, s.P 200 (H 186 (G 1 n)) = some w ∧ s.K w = (135, 16) ∧ ∀ j, s.Q w j = none) ∧ (s.I 201 (H 187 (G 1 n)) = 0 ∧ ∃ w, s.P 200 (H 187 (G 1 n)) = some w ∧ s.K w = (145, 16) ∧ ∀ j, s.Q w j = none) ∧ (∀ w, w < 2 → (s.K (G 5 (2 * n + w))).1 = 21 ∧ s.Q (H 188 (G 1 n)) w = some (G 5 (2 * n + w)) ∧ s.I 125 (G 5 (2 * n + w)) = 0) ∧ (∀ k, k < 8 → s.Q (H 189 (G 1 n)) k = some (G 9 (8 * n + k)) ∧ s.K (G 9 (8 * n + k)) = (100, 4) ∧ s.Q (H 191 (G 1 n)) k = some (G 10 (8 * n + k)) ∧ s.K (G 10 (8 * n + k)) = (128, 4)) ∧ (∀ k, k < 2 → s.E (H 193 (G 1 n)) k = 0 ∧ s.E (H 194 (G 1 n)) k = -1) ∧ (G 13 n = 0 ∧ G 14 n = 0) ∧ (∀ i, i < n → G 1 i ≠ G 1 n) ∧ (∀ i j, i < 2 * (n + 1) → j < 2 * (n + 1) → G 5 i = G 5 j → i = j) ∧ (∀ i j, i < 8 * (n + 1) → j < 8 * (n + 1) → G 9 i = G 9 j → i = j) ∧ ∀ i j, i < 8 * (n + 1) → j < 8 * (n + 1) → G 10 i = G 10 j → i = j
section Rr2
variable {G H : Nat → Nat → Nat} {sa : Nat → Nat} {x : Nat} {s : cS} {t t' : moS} {n : Nat} {c : Int64}
theorem rt_rr (h : RR G H sa x s t) (hM : MV t) (hn : n = cR t) (h6 : n < 6) (hN : RtN G H sa x s t n c) : RR G H sa x (cSI (cSQ s (H 228 x) n (some (G 1 n))) 229 x (nI (n + 1))) (mRt t n c) ∧ fr [30] [] [131] s (cSI (cSQ s (H 228 x) n (some (G 1 n))) 229 x (nI (n + 1))) := by
  obtain ⟨m, e37, e38, e39, e40, e41, e42, e43, e44, e68, e69⟩ := mRt_e (t := t) (n := n) (c := c)
  generalize mRt t n c = t' at m e37 e38 e39 e40 e41 e42 e43 e44 e68 e69
  obtain ⟨⟨a, b, c', e, g, i, j⟩, htx⟩ := h.q
  have hT := a.2.1
  have hx := a.1
  have p228 := hT.r hx 228 131 6
  generalize hs' : cSI (cSQ s (H 228 x) n (some (G 1 n))) 229 x (nI (n + 1)) = s'
  have f : fr [30] [] [131] s s' := by
    rw [← hs']
    exact (fr.sq (by rw [p228.2]; decide)).tr (fr.si (by show (s.K x).1 ∈ _; rw [hx]; decide))
  have hK : s'.K = s.K := by rw [← hs']; rfl
  have hP : s'.P = s.P := by rw [← hs']; rfl
  have hE : s'.E = s.E := by rw [← hs']; rfl
  have hg : RGl G H sa x s' := a.v hK hP f rfl rfl rfl
  have ht := hg.2.2.1
  have ec : cR t' = n + 1 := by unfold cR; rw [e37, nI_clamp (by omega)]
  have e1 : cL t' = cL t := by unfold cL; rw [m.S 17 (by decide)]
  have e2 : cS' t' = cS' t := by unfold cS'; rw [m.S 27 (by decide)]
  have e4 : ∀ r, cI t' r = cI t r := fun r => by unfold cI; rw [m.I 70 (by decide)]
  have oI : ∀ g', g' ≠ 229 → s'.I g' x = s.I g' x := fun g' hg' => by rw [← hs', cSI_g hg']; rfl
  have oIa : ∀ g' b, b ≠ x → s'.I g' b = s.I g' b := fun g' b hb => by rw [← hs', cSI_o hb]; rfl
  have oQ : ∀ k, s'.Q (H 228 x) k = if k = n then some (G 1 n) else s.Q (H 228 x) k := fun k => by
    rw [← hs']
    show (cSQ s (H 228 x) n (some (G 1 n))).Q (H 228 x) k = _
    rw [cSQ_s]; rfl
  have oQa : ∀ b, (s.K b).1 ≠ 131 → s'.Q b = s.Q b := fun b hb => by
    rw [← hs']
    exact cSQ_a (fun e => hb (by rw [e, p228.2]))
  obtain ⟨⟨z46, z53, z53', z59, z63, z70, z105⟩, z45⟩ := hM.2.2.2.2.2.2.2.1 n (by omega) h6
  obtain ⟨⟨n1, n2⟩, ⟨nm, n3, n4, n5⟩, ⟨n6, n7, n8, n9, n10, n11, n12⟩, ⟨n13, n14, n15⟩, n16, ⟨n17, w1, n18, n19, n20⟩, ⟨n21, w2, n22, n23, n24⟩, n25, n26, n27, ⟨n28, n29⟩, n30, n31, n32, n33⟩ := hN
  have qx : G 1 n ≠ x := fun w => by rw [w, hx] at n1; exact absurd n1 (by decide)
  refine ⟨RQ.r ⟨hg, ?_, ⟨?_, ?_, ?_, ?_, ?_⟩, ?_, ?_, ?_, j.fr hT hx f m ⟨oI 233 (by decide), oI 235 (by decide)⟩ rfl rfl rfl rfl⟩ (htx.fr hT hx f m rfl rfl rfl), f⟩
  · obtain ⟨y0, y1, y2, y3, y4, y5, y6, y7, y8, y9, y10⟩ := b
    refine ⟨?_, ?_, ?_, ?_, ?_, ?_, ?_, ?_, ?_, ?_, ?_⟩
    · rw [e1]; exact y0
    · rw [ec]
      intro k k' hk hk' ee
      by_cases c1 : k = n
      · by_cases c2 : k' = n
        · omega
        · rw [c1] at ee
          exact absurd ee.symm (n30 k' (by omega))
      · by_cases c2 : k' = n
        · rw [c2] at ee
          exact absurd ee (n30 k (by omega))
        · exact y1 k k' (by omega) (by omega) ee
    · rw [ec]
      simp only [e4]
      intro r r' p p' hr hr' hp hp' ee
      have rn : r ≠ n := fun w => by rw [w] at hp; unfold cI at hp; rw [z70] at hp; exact absurd hp (Nat.not_lt_zero _)
      have rn' : r' ≠ n := fun w => by rw [w] at hp'; unfold cI at hp'; rw [z70] at hp'; exact absurd hp' (Nat.not_lt_zero _)
      exact y2 r r' p p' (by omega) (by omega) hp hp' ee
    · rw [e2]; exact y3
    · rw [ec]
      intro r r' j j' hr hr' hj hj' ee
      have rn : r ≠ n := fun w => by rw [w, n28] at hj; omega
      have rn' : r' ≠ n := fun w => by rw [w, n28] at hj'; omega
      exact y4 r r' j j' (by omega) (by omega) hj hj' ee
    · rw [ec]; exact n31
    · rw [ec]
      intro r r' j j' hr hr' hj hj' ee
      have rn : r ≠ n := fun w => by rw [w, n29] at hj; omega
      have rn' : r' ≠ n := fun w => by rw [w, n29] at hj'; omega
      exact y6 r r' j j' (by omega) (by omega) hj hj' ee
    · rw [ec]
      simp only [e4]
      intro r p k r' p' k' hr hr' hp hp' hk hk' ee
      have rn : r ≠ n := fun w => by rw [w] at hp; unfold cI at hp; rw [z70] at hp; exact absurd hp (Nat.not_lt_zero _)
      have rn' : r' ≠ n := fun w => by rw [w] at hp'; unfold cI at hp'; rw [z70] at hp'; exact absurd hp' (Nat.not_lt_zero _)
      exact y7 r p k r' p' k' (by omega) (by omega) hp hp' hk hk' ee
    · rw [ec]; exact n32
    · rw [ec]; exact n33
    · rw [ec, m.I 46 (by decide)]
      intro r j hr hj j' hj' ee
      have rn : r ≠ n := fun w => by rw [w, z46] at hj; exact absurd hj (Nat.not_lt_zero _)
      exact y10 r j (by omega) hj j' hj' ee
  · rw [oI 224 (by decide), m.S 4 (by decide)]; exact c'.1
  · rw [oI 225 (by decide), m.S 1 (by decide)]; exact c'.2.1
  · rw [oI 227 (by decide), m.S 17 (by decide)]; exact c'.2.2.1
  · rw [← hs', cSI_s, e37]
  · rw [oI 231 (by decide), m.S 27 (by decide)]; exact c'.2.2.2.2
  · rw [e1]; exact fun k hk => (e k hk).fr hT hx f ht m rfl rfl rfl rfl
  · rw [e2]; exact fun k hk => (g k hk).fr hT hx f ht m rfl rfl rfl rfl
  · rw [ec]
    intro r hr'
    by_cases er : r = n
    · subst er
      have t186 := hT.p n1 186 27
      have t187 := hT.p n1 187 28
      have x186 : H 186 (G 1 r) ≠ x := fun w => by rw [w, hx] at t186; exact absurd t186.2 (by decide)
      have x187 : H 187 (G 1 r) ≠ x := fun w => by rw [w, hx] at t187; exact absurd t187.2 (by decide)
      have hcN : cN t' r = 0 := by unfold cN; rw [m.I 105 (by decide), z105]; rfl
      have ta : ∀ {tb u ur mx w : Nat} {gg : Nat → Nat}, tb ≠ x → s.I 201 tb = 0 → s.P 200 tb = some w → s.K w = (u, 16) → u ≠ 131 → (∀ j, s.Q w j = none) → 8 ≤ mx → RTa s' tb u ur 0 0 mx gg := fun {tb u ur mx w gg} h1 h2 h3 h4 h5 h6 h7 => by
        refine ⟨by rw [oIa _ _ h1]; exact h2, Nat.le_refl _, Nat.zero_le _, w, 16, by rw [hP]; exact h3, by rw [hK]; exact h4, by omega, by omega, by omega, fun j hj => absurd hj (Nat.not_lt_zero _), fun j _ => by rw [oQa w (by rw [h4]; exact h5)]; exact h6 j, fun i j hi => absurd hi (Nat.not_lt_zero _)⟩
      refine ⟨⟨⟨by rw [hK]; exact n1, by rw [oQ, if_pos rfl], n2⟩, ⟨nm, by rw [hP]; exact n3, n4.fr f (by decide) (by decide) (by decide) ht, by rw [e38, if_pos rfl]; exact n5⟩, ⟨?_, ?_, ?_, ?_, ?_⟩, ⟨?_, ?_, ?_⟩, fun i hi => ?_⟩, ⟨?_, ?_, ?_⟩, ⟨?_, ?_, ?_⟩, ?_, ?_, ⟨⟨?_, ?_⟩, fun k hk => ?_, ?_, ?_, fun k hk => ?_⟩, ?_⟩
      · rw [oIa _ _ qx]; exact n6
      · rw [oIa _ _ qx, e39, if_pos rfl]; exact n7
      · rw [oIa _ _ qx, m.I 70 (by decide), z70]; exact n8
      · rw [oIa _ _ qx, e43, if_pos rfl]; exact n9
      · rw [oIa _ _ qx, e44, if_pos rfl]; exact n10
      · rw [hE, e40, if_pos rfl]; exact n13
      · rw [hE, e41, if_pos rfl]; exact n14
      · rw [hE, e42, if_pos rfl]; exact n15
      · rw [hE, m.I 45 (by decide), z45 i hi]; exact n16 i hi
      · rw [hcN, n28]; exact ta x186 n17 n18 n19 (by decide) n20 (by decide)
      · rw [hcN]; exact fun j hj => absurd hj (Nat.not_lt_zero _)
      · rw [hcN]; exact fun j hj => absurd hj (Nat.not_lt_zero _)
      · rw [m.I 46 (by decide), z46, n29]; exact ta x187 n21 n22 n23 (by decide) n24 (by decide)
      · rw [m.I 46 (by decide), z46]; exact fun j hj => absurd hj (Nat.not_lt_zero _)
      · rw [m.I 46 (by decide), z46]; exact fun i j _ hj => absurd hj (Nat.not_lt_zero _)
      · have hfi : ∀ w, w < 2 → t.I 53 (2 * r + w) = 0 → RFi G H s' t' r w := fun w hw zz => by
          obtain ⟨v1, v2, v3⟩ := n25 w hw
          have xx : G 5 (2 * r + w) ≠ x := fun ww => by rw [ww, hx] at v1; exact absurd v1 (by decide)
          have t188 := hT.r n1 188 143 2
          refine ⟨⟨by rw [hK]; exact v1, by rw [oQa _ (by rw [t188.2]; decide)]; exact v2⟩, ?_, fun k hk => ?_⟩
          · rw [m.I 53 (by decide), zz, oIa _ _ xx]; exact v3
          · rw [m.I 53 (by decide), zz] at hk; exact absurd hk (Nat.not_lt_zero _)
        exact hfi 0 (by decide) z53
      · have hfi : ∀ w, w < 2 → t.I 53 (2 * r + w) = 0 → RFi G H s' t' r w := fun w hw zz => by
          obtain ⟨v1, v2, v3⟩ := n25 w hw
          have xx : G 5 (2 * r + w) ≠ x := fun ww => by rw [ww, hx] at v1; exact absurd v1 (by decide)
          have t188 := hT.r n1 188 143 2
          refine ⟨⟨by rw [hK]; exact v1, by rw [oQa _ (by rw [t188.2]; decide)]; exact v2⟩, ?_, fun k hk => ?_⟩
          · rw [m.I 53 (by decide), zz, oIa _ _ xx]; exact v3
          · rw [m.I 53 (by decide), zz] at hk; exact absurd hk (Nat.not_lt_zero _)
        exact hfi 1 (by decide) z53'
      · rw [oIa _ _ qx, m.I 59 (by decide), z59]; exact n11
      · rw [oIa _ _ qx, m.I 63 (by decide), z63]; exact n12
      · have t189 := hT.r n1 189 140 8
        have t191 := hT.r n1 191 141 8
        rw [oQa _ (by rw [t189.2]; decide), oQa _ (by rw [t191.2]; decide), hK]
        exact n26 k hk
      · rw [m.I 59 (by decide), z59]; exact fun k hk => absurd hk (Nat.not_lt_zero _)
      · rw [m.I 63 (by decide), z63]; exact fun k hk => absurd hk (Nat.not_lt_zero _)
      · rw [hE, e68, e69, if_pos (by omega), if_pos (by omega)]
        exact ⟨(n27 k hk).1, (n27 k hk).2⟩
      · rw [e4]
        intro p hp
        unfold cI at hp
        rw [z70] at hp
        exact absurd hp (Nat.not_lt_zero _)
    · obtain ⟨i1', i2', i3', i4', i5', i6', i7'⟩ := i r (by omega)
      have hv := hM.r (show r < cR t by omega)
      refine ⟨?_, i2'.fr hT i1'.1.1 f ((f.v i1'.1.1 (by decide)).1 199) m rfl rfl rfl rfl, i3'.fr hT i1'.1.1 f m rfl rfl rfl rfl, i4'.fr hT i1'.1.1 f m rfl rfl rfl, i5'.fr hT i1'.1.1 f m rfl rfl rfl, ?_, ?_⟩
      · obtain ⟨⟨y1, y2, y3⟩, ⟨nm', y4, y5, y6⟩, y7, y8, y9⟩ := i1'
        have rx : G 1 r ≠ x := fun w => by rw [w, hx] at y1; exact absurd y1 (by decide)
        unfold RRt
        rw [hK, hP, hE, oQ, if_neg er, e38, if_neg er, e39, if_neg er, e43, if_neg er, e44, if_neg er, e40, if_neg er, e41, if_neg er, e42, if_neg er, m.I 70 (by decide), m.I 45 (by decide), oIa _ _ rx, oIa _ _ rx, oIa _ _ rx, oIa _ _ rx, oIa _ _ rx]
        exact ⟨⟨y1, y2, y3⟩, ⟨nm', y4, y5.fr f (by decide) (by decide) (by decide) ht, y6⟩, y7, y8, y9⟩
      · have w := i6'.fr hT i1'.1.1 ⟨hv.2.2.2.2.2.2.1.1.n.2.2, hv.2.2.2.2.2.2.2.1.1.n.2.2⟩ f (mfr.rf (W := []) (t := t)) rfl rfl rfl
        obtain ⟨w1, w2, w3, w4, w5⟩ := w
        refine ⟨?_, w2, ?_, ?_, fun k hk => ?_⟩
        · rw [m.I 59 (by decide), m.I 63 (by decide)]; exact w1
        · rw [m.I 59 (by decide), m.I 60 (by decide), m.I 61 (by decide), m.I 62 (by decide)]; exact w3
        · rw [m.I 63 (by decide), m.I 64 (by decide), m.I 65 (by decide), m.I 66 (by decide), m.I 67 (by decide)]; exact w4
        · rw [e68, e69, if_neg (by omega), if_neg (by omega)]; exact w5 k hk
      · rw [e4]
        exact fun p hp => (i7' p hp).fr hT i1'.1.1 (hv.i hp).2.2.2.2.2.2.2.2.2.2.1.n.2.2 f m rfl rfl rfl rfl
end Rr2
