/-! The model takes a datagram off. -/
section Mo
variable {t : moS} {j : Nat}
/-- index behind the place that is taken out -/
def skI (j i : Nat) : Nat := if i < j then i else i + 1
/-- one datagram fewer -/
def ofT (j : Nat) (t t' : moS) : Prop := mfr [123, 124, 125] t t' ∧ t'.S 123 = nI (cF t - 1) ∧ (∀ i, i < cF t - 1 → t'.I 124 i = t.I 124 (skI j i)) ∧ ∀ p, t'.I 125 p = if p = (t.I 124 j).toNatClampNeg then 0 else t.I 125 p
theorem m_off (hM : MV t) (hj : j < cF t) : ∃ t', M_takeOff t (nI j) = some t' ∧ ofT j t t' := by
  obtain ⟨f1, f2, f3, f4, f5, f6⟩ := hM.2.2.2.2.1
  have hF := f1.n
  have hF2 : cF t ≤ 256 := hF.2.2
  have e123 : t.S 123 = nI (cF t) := hF.1
  obtain ⟨q, eq, -, hq⟩ := (f3 j hj).1
  have N := hM.n
  have r1 : rdI t 124 (nI j) = some (t.I 124 j) := rdI_n (n := 256) (N.n 124 256) (by omega) (by decide)
  have ec : (t.I 124 j).toNatClampNeg = q := by rw [eq, nI_clamp (by omega)]
  have w1 : wrZ t 125 (t.I 124 j) 0 = some (moSI t 125 q 0) := by
    rw [eq, wrZ_n (n := 256) (N.n 125 256) (by omega) (by decide)]
    rfl
  have loop : ∀ d a u, a + d = cF t - 1 → j ≤ a → mfr [124] (moSI t 125 q 0) u → (∀ i, u.I 124 i = if j ≤ i ∧ i < a then t.I 124 (i + 1) else t.I 124 i) → ∃ v, M_takeOff_b14 u (nI a) = some v ∧ mfr [123, 124] (moSI t 125 q 0) v ∧ v.S 123 = nI (cF t - 1) ∧ ∀ i, v.I 124 i = if j ≤ i ∧ i < cF t - 1 then t.I 124 (i + 1) else t.I 124 i := by
    intro d
    induction d with
    | zero =>
      intro a u ha hja m hu
      have es : u.S 123 = nI (cF t) := by rw [m.S 123 (by decide)]; exact e123
      refine ⟨moSS u 123 (u.S 123 - 1), ?_, (m.wk (by decide)).tr (mfr.ss (by decide)), ?_, fun i => ?_⟩
      · unfold M_takeOff_b14
        refine lp_x ?_
        show M_takeOff_s14 u (nI a) = _
        unfold M_takeOff_s14
        rw [nI_1, es, if_neg (nI_nlt (by omega) (by omega))]
        rfl
      · rw [moSS_s, es, show nI (cF t) = nI (cF t - 1) + 1 by rw [nI_1, show cF t - 1 + 1 = cF t by omega], Int32.add_sub_cancel]
      · show u.I 124 i = _
        rw [hu, show a = cF t - 1 by omega]
    | succ d ih =>
      intro a u ha hja m hu
      have es : u.S 123 = nI (cF t) := by rw [m.S 123 (by decide)]; exact e123
      have nu : u.N 124 = 256 := (m.2 124 (Or.inr (by decide))).trans (N.n 124 256)
      have r2 : rdI u 124 (nI (a + 1)) = some (t.I 124 (a + 1)) := by
        rw [rdI_n (n := 256) nu (by omega) (by decide), hu, if_neg (by omega)]
      obtain ⟨v, v1, v2, v3, v4⟩ := ih (a + 1) (moSI u 124 a (t.I 124 (a + 1))) (by omega) (by omega) (m.tr (mfr.si (by decide))) (fun i => by
        rw [moSI_s]
        show (if i = a then t.I 124 (a + 1) else u.I 124 i) = _
        by_cases c : i = a
        · rw [if_pos c, if_pos (by omega), c]
        · rw [if_neg c, hu]
          by_cases c2 : j ≤ i ∧ i < a
          · rw [if_pos c2, if_pos (by omega)]
          · rw [if_neg c2, if_neg (by omega)])
      refine ⟨v, ?_, v2, v3, v4⟩
      rw [← v1]
      unfold M_takeOff_b14
      refine lp_l (f := fun x : Int32 × moS => M_takeOff_s14 x.2 x.1) ?_
      show M_takeOff_s14 u (nI a) = _
      unfold M_takeOff_s14
      rw [nI_1, es, if_pos (nI_lt (by omega) (by omega)), r2]
      simp only [Option.bind_some]
      rw [wrI_n (n := 256) nu (by omega) (by decide)]
      rfl
  obtain ⟨v, v1, v2, v3, v4⟩ := loop (cF t - 1 - j) j (moSI t 125 q 0) (by omega) (Nat.le_refl _) mfr.rf (fun i => by rw [if_neg (by omega), moSI_n (by decide)])
  refine ⟨v, ?_, (mfr.si (W := [123, 124, 125]) (by decide)).tr (v2.wk (by decide)), v3, fun i hi => ?_, fun p => ?_⟩
  · unfold M_takeOff
    rw [r1]
    simp only [Option.bind_some]
    rw [w1]
    exact v1
  · rw [v4]
    unfold skI
    by_cases c : i < j
    · rw [if_pos c, if_neg (by omega)]
    · rw [if_neg c, if_pos (by omega)]
  · rw [v2.I 125 (by decide), moSI_s, ec]
    rfl
theorem mv_off {t' : moS} (hM : MV t) (hj : j < cF t) (o : ofT j t t') : MV t' := by
  obtain ⟨m, e1, e2, e3⟩ := o
  obtain ⟨h0', h1, h2', h3, ⟨f1, f2, f3, f4, f5, f6⟩, h5⟩ := hM
  have hF2 : cF t ≤ 256 := f1.n.2.2
  have eL : cL t' = cL t := by unfold cL; rw [m.S 17 (by decide)]
  have eS : cS' t' = cS' t := by unfold cS'; rw [m.S 27 (by decide)]
  have eR : cR t' = cR t := by unfold cR; rw [m.S 37 (by decide)]
  have eI : ∀ r, cI t' r = cI t r := fun r => by unfold cI; rw [m.I 70 (by decide)]
  have eF : cF t' = cF t - 1 := by unfold cF; rw [e1, nI_clamp (by omega)]
  have sk : ∀ i, i < cF t - 1 → skI j i < cF t ∧ skI j i ≠ j := fun i hi => by unfold skI; split <;> omega
  refine ⟨h0'.fr m rfl, by rw [eL]; exact fun i hi => (h1 i hi).fr m rfl, by rw [eS]; exact fun i hi => (h2' i hi).fr m rfl, by rw [eR]; exact fun i hi => (h3 i hi).fr m rfl, ⟨?_, fun p hp => ?_, fun i hi => ?_, fun i i' hi hi' e => ?_, fun p hp h => ?_, fun i hi => ?_⟩, h5.fr m rfl⟩
  · exact ⟨cF t - 1, e1, Nat.zero_le _, by omega⟩
  · rw [e3]
    split
    · exact Or.inl rfl
    · exact f2 p hp
  · rw [eF] at hi
    rw [e2 i hi]
    obtain ⟨s1, s2⟩ := sk i hi
    obtain ⟨g1, g2⟩ := f3 _ s1
    refine ⟨g1, ?_⟩
    rw [e3, if_neg (fun z => s2 (f4 _ _ s1 hj (cnt_of g1.n.1 z |>.trans (f3 j hj).1.n.1.symm)))]
    exact g2
  · rw [eF] at hi hi'
    rw [e2 i hi, e2 i' hi'] at e
    have := f4 _ _ (sk i hi).1 (sk i' hi').1 e
    unfold skI at this
    split at this <;> split at this <;> omega
  · rw [e3] at h
    by_cases c : p = (t.I 124 j).toNatClampNeg
    · rw [if_pos c] at h
      exact absurd h (by decide)
    · rw [if_neg c] at h
      obtain ⟨i, i1, i2⟩ := f5 p hp h
      have nj : i ≠ j := fun z => c (by rw [← z, i2, nI_clamp (by omega)])
      rw [eF]
      by_cases c2 : i < j
      · exact ⟨i, by omega, by rw [e2 i (by omega), show skI j i = i from if_pos c2]; exact i2⟩
      · exact ⟨i - 1, by omega, by rw [e2 (i - 1) (by omega), show skI j (i - 1) = i by unfold skI; rw [if_neg (by omega)]; omega]; exact i2⟩
  · rw [eF] at hi
    rw [e2 i hi, eL, eR]
    have := f6 _ (sk i hi).1
    rw [m.I 126 (by decide), m.I 128 (by decide), m.I 131 (by decide), m.I 137 (by decide), m.I 127 (by decide), m.I 71 (by decide)]
    simp only [eI]
    exact this
end Mo
