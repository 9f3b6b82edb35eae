/-! A new router's values are what the relation wants. -/
section Rv
variable {G H : Nat → Nat → Nat} {sa : Nat → Nat} {x : Nat} {s sN : cS} {t : moS}
theorem rt_N (h : RR G H sa x s t) {q z n : Nat} {A F : Nat → Nat} {yd yo : Nat → Nat → Option Nat} {L L' : List (Nat × Ov)} {c : Int64} {nm : List Int32} (hp : HP sa s L' sN) (hm : rtNw sa x q A F yd yo (some z) (nI n) (t.S 1 + 30) L L') (d0 : F 0 ≠ F 5) (hn : n = cR t) (htx : isTx sa sN z nm) (hnm : nmL nm c) : RtN (rtG G n q A F) (rtH H x z (sa 3) q A F) sa x sN t n c := by
  have mem : ∀ {a : Nat} {v : Ov}, (a, v) ∈ L' → ov sN a = v ∧ (s.K a).1 = 0 := fun {a v} hav => ⟨(hp.2.1 _ hav).1, (hp.2.1 _ hav).2.1.1⟩
  have mq := mem ((hm (q, rrV A (some x) (some z) (nI n) (t.S 1 + 30))).mpr (Or.inl (by simp)))
  have m186 := mem ((hm (A 186, tbV 27 (A 0))).mpr (Or.inl (by simp)))
  have m0 := mem ((hm (A 0, ov0 (135, 16))).mpr (Or.inl (by simp)))
  have m187 := mem ((hm (A 187, tbV 28 (A 1))).mpr (Or.inl (by simp)))
  have m1 := mem ((hm (A 1, ov0 (145, 16))).mpr (Or.inl (by simp)))
  have m188 := mem ((hm (A 188, ovQ (ovQ (ov0 (143, 2)) 0 (some (F 0))) 1 (some (F 5)))).mpr (Or.inl (by simp)))
  have m189 := mem ((hm (A 189, ovM 140 (A 189) 8)).mpr (Or.inl (by simp)))
  have m191 := mem ((hm (A 191, ovM 141 (A 191) 8)).mpr (Or.inl (by simp)))
  have m193 := mem ((hm (A 193, ovE (ovE (ov0 (121, 2)) 0 0) 1 0)).mpr (Or.inl (by simp)))
  have m194 := mem ((hm (A 194, ovE (ovE (ov0 (122, 2)) 0 (-1)) 1 (-1))).mpr (Or.inl (by simp)))
  have m195 := mem ((hm (A 195, ovE (ovE (ovE (ov0 (123, 3)) 0 30) 1 180) 2 120)).mpr (Or.inl (by simp)))
  have m196 := mem ((hm (A 196, ov0 (104, 11))).mpr (Or.inl (by simp)))
  have f0 := mem ((hm (F 0, fiV sa (F 1) (F 2) (F 3) (F 4))).mpr (Or.inl (by simp)))
  have f5 := mem ((hm (F 5, fiV sa (F 6) (F 7) (F 8) (F 9))).mpr (Or.inl (by simp)))
  have rd : ∀ k, k < 8 → ov sN (A 189 + 1 + k) = ovR 100 4 (yd (A 189 + 1 + k)) ∧ (s.K (A 189 + 1 + k)).1 = 0 := fun k hk => mem ((hm _).mpr (Or.inr (Or.inl (rwF_i hk))))
  have ro : ∀ k, k < 8 → ov sN (A 191 + 1 + k) = ovR 128 4 (yo (A 191 + 1 + k)) ∧ (s.K (A 191 + 1 + k)).1 = 0 := fun k hk => mem ((hm _).mpr (Or.inr (Or.inr (Or.inl (rwF_i hk)))))
  have g1 : rtG G n q A F 1 n = q := if_pos ⟨rfl, rfl⟩
  have eH : ∀ g, g ≠ 180 → g ≠ 181 → rtH H x z (sa 3) q A F g q = A g := fun g a b => by
    unfold rtH
    rw [if_pos rfl, if_neg a, if_neg b]
  have e180 : rtH H x z (sa 3) q A F 180 q = x := by unfold rtH; rw [if_pos rfl, if_pos rfl]
  have e181 : rtH H x z (sa 3) q A F 181 q = z := by unfold rtH; rw [if_pos rfl, if_neg (by decide), if_pos rfl]
  have g5 : ∀ w, w < 2 → rtG G n q A F 5 (2 * n + w) = if w = 0 then F 0 else F 5 := fun w hw => by
    unfold rtG
    rw [if_neg (by omega), if_neg (by omega), if_neg (by omega)]
    by_cases w0 : w = 0
    · rw [if_pos (by omega), if_pos w0]
    · rw [if_neg (by omega), if_pos (by omega), if_neg w0]
  have g9 : ∀ k, k < 8 → rtG G n q A F 9 (8 * n + k) = A 189 + 1 + k := fun k hk => by
    unfold rtG
    rw [if_neg (by omega), if_neg (by omega), if_neg (by omega), if_neg (by omega), if_neg (by omega), if_pos (by omega)]
    omega
  have g10 : ∀ k, k < 8 → rtG G n q A F 10 (8 * n + k) = A 191 + 1 + k := fun k hk => by
    unfold rtG
    rw [if_neg (by omega), if_neg (by omega), if_neg (by omega), if_neg (by omega), if_neg (by omega), if_neg (by omega), if_pos (by omega)]
    omega
  have hI := h.q.1.2.2.2.2.2.1
  have hIn := h.q.1.2.1
  unfold RtN
  rw [g1, e180, e181, eH 186 (by decide) (by decide), eH 187 (by decide) (by decide), eH 188 (by decide) (by decide), eH 189 (by decide) (by decide), eH 191 (by decide) (by decide), eH 193 (by decide) (by decide), eH 194 (by decide) (by decide), eH 195 (by decide) (by decide), eH 196 (by decide) (by decide)]
  have Iq := ov_I mq.1
  refine ⟨⟨congrArg Prod.fst (ov_K mq.1), rfl⟩, ⟨nm, ov_P mq.1 181, htx, hnm⟩, ⟨Iq 182, Iq 183, Iq 185, Iq 197, Iq 198, Iq 190, Iq 192⟩, ⟨congrFun (ov_E m195.1) 0, congrFun (ov_E m195.1) 1, congrFun (ov_E m195.1) 2⟩, fun i _ => congrFun (ov_E m196.1) i, ⟨ov_I m186.1 201, A 0, ov_P m186.1 200, ov_K m0.1, fun j => congrFun (ov_Q m0.1) j⟩, ⟨ov_I m187.1 201, A 1, ov_P m187.1 200, ov_K m1.1, fun j => congrFun (ov_Q m1.1) j⟩, fun w hw => ?_, fun k hk => ?_, fun k hk => ?_, ⟨?_, ?_⟩, fun i hi => ?_, fun i j hi hj ee => ?_, fun i j hi hj ee => ?_, fun i j hi hj ee => ?_⟩
  · rw [g5 w hw]
    by_cases w0 : w = 0
    · rw [if_pos w0, w0]
      exact ⟨congrArg Prod.fst (ov_K f0.1), congrFun (ov_Q m188.1) 0, ov_I f0.1 125⟩
    · rw [if_neg w0, show w = 1 by omega]
      exact ⟨congrArg Prod.fst (ov_K f5.1), congrFun (ov_Q m188.1) 1, ov_I f5.1 125⟩
  · rw [g9 k hk, g10 k hk, ov_Q m189.1, ov_Q m191.1]
    exact ⟨if_pos hk, ov_K (rd k hk).1, if_pos hk, ov_K (ro k hk).1⟩
  · rw [ov_E m193.1, ov_E m194.1]
    by_cases k0 : k = 0
    · rw [k0]; exact ⟨rfl, rfl⟩
    · rw [show k = 1 by omega]; exact ⟨rfl, rfl⟩
  · unfold rtG
    rw [if_neg (by omega), if_pos ⟨rfl, rfl⟩]
  · unfold rtG
    rw [if_neg (by omega), if_neg (by omega), if_pos ⟨rfl, rfl⟩]
  · rw [rtG_n (by omega) (by omega) (by omega) (by omega) (by omega) (by omega) (by omega)]
    intro e
    have := (hI i (by omega)).1.1.1
    rw [e, mq.2] at this
    exact absurd this (by decide)
  · have old : ∀ k, k < 2 * n → rtG G n q A F 5 k = G 5 k ∧ (s.K (G 5 k)).1 = 21 := fun k hk => by
      refine ⟨rtG_n (by omega) (by omega) (by omega) (by omega) (by omega) (by omega) (by omega), ?_⟩
      have hr := hI (k / 2) (by omega)
      by_cases c : k % 2 = 0
      · have := hr.2.2.2.1.1.1
        rw [show 2 * (k / 2) + 0 = k by omega] at this
        exact this
      · have := hr.2.2.2.2.1.1.1
        rw [show 2 * (k / 2) + 1 = k by omega] at this
        exact this
    have new : ∀ w, w < 2 → (s.K (rtG G n q A F 5 (2 * n + w))).1 = 0 := fun w hw => by
      rw [g5 w hw]
      by_cases w0 : w = 0
      · rw [if_pos w0]; exact f0.2
      · rw [if_neg w0]; exact f5.2
    by_cases c1 : i < 2 * n
    · by_cases c2 : j < 2 * n
      · rw [(old i c1).1, (old j c2).1] at ee
        exact hIn.2.2.2.2.2.1 i j (by omega) (by omega) ee
      · have := new (j - 2 * n) (by omega)
        rw [show 2 * n + (j - 2 * n) = j by omega, ← ee, (old i c1).1, (old i c1).2] at this
        exact absurd this (by decide)
    · by_cases c2 : j < 2 * n
      · have := new (i - 2 * n) (by omega)
        rw [show 2 * n + (i - 2 * n) = i by omega, ee, (old j c2).1, (old j c2).2] at this
        exact absurd this (by decide)
      · have h1 := g5 (i - 2 * n) (by omega)
        have h2 := g5 (j - 2 * n) (by omega)
        rw [show 2 * n + (i - 2 * n) = i by omega] at h1
        rw [show 2 * n + (j - 2 * n) = j by omega] at h2
        rw [h1, h2] at ee
        by_cases i0 : i - 2 * n = 0
        · by_cases j0 : j - 2 * n = 0
          · omega
          · rw [if_pos i0, if_neg j0] at ee; exact absurd ee d0
        · by_cases j0 : j - 2 * n = 0
          · rw [if_neg i0, if_pos j0] at ee; exact absurd ee.symm d0
          · omega
  · have old : ∀ k, k < 8 * n → rtG G n q A F 9 k = G 9 k ∧ (s.K (G 9 k)).1 = 100 := fun k hk => by
      refine ⟨rtG_n (by omega) (by omega) (by omega) (by omega) (by omega) (by omega) (by omega), ?_⟩
      have := ((hI (k / 8) (by omega)).2.2.2.2.2.1.2.1 (k % 8) (by omega)).2.1
      rw [show 8 * (k / 8) + k % 8 = k by omega] at this
      rw [this]
    by_cases c1 : i < 8 * n
    · by_cases c2 : j < 8 * n
      · rw [(old i c1).1, (old j c2).1] at ee
        exact hIn.2.2.2.2.2.2.2.2.1 i j (by omega) (by omega) ee
      · have h2 := g9 (j - 8 * n) (by omega)
        rw [show 8 * n + (j - 8 * n) = j by omega] at h2
        have := (rd (j - 8 * n) (by omega)).2
        rw [← h2, ← ee, (old i c1).1, (old i c1).2] at this
        exact absurd this (by decide)
    · have h1 := g9 (i - 8 * n) (by omega)
      rw [show 8 * n + (i - 8 * n) = i by omega] at h1
      by_cases c2 : j < 8 * n
      · have := (rd (i - 8 * n) (by omega)).2
        rw [← h1, ee, (old j c2).1, (old j c2).2] at this
        exact absurd this (by decide)
      · have h2 := g9 (j - 8 * n) (by omega)
        rw [show 8 * n + (j - 8 * n) = j by omega] at h2
        rw [h1, h2] at ee
        omega
  · have old : ∀ k, k < 8 * n → rtG G n q A F 10 k = G 10 k ∧ (s.K (G 10 k)).1 = 128 := fun k hk => by
      refine ⟨rtG_n (by omega) (by omega) (by omega) (by omega) (by omega) (by omega) (by omega), ?_⟩
      have := ((hI (k / 8) (by omega)).2.2.2.2.2.1.2.1 (k % 8) (by omega)).2.2.2
      rw [show 8 * (k / 8) + k % 8 = k by omega] at this
      rw [this]
    by_cases c1 : i < 8 * n
    · by_cases c2 : j < 8 * n
      · rw [(old i c1).1, (old j c2).1] at ee
        exact hIn.2.2.2.2.2.2.2.2.2.1 i j (by omega) (by omega) ee
      · have h2 := g10 (j - 8 * n) (by omega)
        rw [show 8 * n + (j - 8 * n) = j by omega] at h2
        have := (ro (j - 8 * n) (by omega)).2
        rw [← h2, ← ee, (old i c1).1, (old i c1).2] at this
        exact absurd this (by decide)
    · have h1 := g10 (i - 8 * n) (by omega)
      rw [show 8 * n + (i - 8 * n) = i by omega] at h1
      by_cases c2 : j < 8 * n
      · have := (ro (i - 8 * n) (by omega)).2
        rw [← h1, ee, (old j c2).1, (old j c2).2] at this
        exact absurd this (by decide)
      · have h2 := g10 (j - 8 * n) (by omega)
        rw [show 8 * n + (j - 8 * n) = j by omega] at h2
        rw [h1, h2] at ee
        omega
end Rv
