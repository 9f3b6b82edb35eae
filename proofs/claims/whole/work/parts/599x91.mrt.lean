/-! The model with a router more. -/
def mRt (t : moS) (n : Nat) (c : Int64) : moS := moSS (moSI (moSI (moSI (moSI (moSI (moSI (moSI (moSI (moSI (moSI (moSJ t 38 n c) 39 n 1) 40 n 30) 41 n 180) 42 n 120) 43 n (t.S 1 + 30)) 44 n (-1)) 68 (2 * n) (-1)) 69 (2 * n) (-1)) 68 (2 * n + 1) (-1)) 69 (2 * n + 1) (-1)) 37 (nI (n + 1))
section Mr
variable {t t' : moS} {n : Nat} {c : Int64}
theorem evMI {f i k j : Nat} {v : Int32} : (moSI t f i v).I k j = if k = f ∧ j = i then v else t.I k j := by
  by_cases e : k = f
  · subst e
    rw [moSI_s]
    show (if j = i then v else t.I k j) = _
    by_cases e2 : j = i
    · rw [if_pos e2, if_pos ⟨rfl, e2⟩]
    · rw [if_neg e2, if_neg (fun z => e2 z.2)]
  · rw [moSI_n e, if_neg (fun z => e z.1)]
theorem mRt_e : mfr [37, 38, 39, 40, 41, 42, 43, 44, 68, 69] t (mRt t n c) ∧ (mRt t n c).S 37 = nI (n + 1) ∧ (∀ i, (mRt t n c).J 38 i = if i = n then c else t.J 38 i) ∧ (∀ i, (mRt t n c).I 39 i = if i = n then 1 else t.I 39 i) ∧ (∀ i, (mRt t n c).I 40 i = if i = n then 30 else t.I 40 i) ∧ (∀ i, (mRt t n c).I 41 i = if i = n then 180 else t.I 41 i) ∧ (∀ i, (mRt t n c).I 42 i = if i = n then 120 else t.I 42 i) ∧ (∀ i, (mRt t n c).I 43 i = if i = n then t.S 1 + 30 else t.I 43 i) ∧ (∀ i, (mRt t n c).I 44 i = if i = n then -1 else t.I 44 i) ∧ (∀ i, (mRt t n c).I 68 i = if i = 2 * n ∨ i = 2 * n + 1 then -1 else t.I 68 i) ∧ ∀ i, (mRt t n c).I 69 i = if i = 2 * n ∨ i = 2 * n + 1 then -1 else t.I 69 i := by
  have ss : ∀ {t0 : moS} {v : Int32} {k i : Nat}, (moSS t0 37 v).I k i = t0.I k i := rfl
  have sj : ∀ {v : Int64} {k i : Nat}, (moSJ t 38 n v).I k i = t.I k i := rfl
  unfold mRt
  refine ⟨((((((((((((mfr.sj (by decide)).tr (mfr.si (by decide))).tr (mfr.si (by decide))).tr (mfr.si (by decide))).tr (mfr.si (by decide))).tr (mfr.si (by decide))).tr (mfr.si (by decide))).tr (mfr.si (by decide))).tr (mfr.si (by decide))).tr (mfr.si (by decide))).tr (mfr.si (by decide))).tr (mfr.ss (by decide))), moSS_s, fun i => ?_, fun i => ?_, fun i => ?_, fun i => ?_, fun i => ?_, fun i => ?_, fun i => ?_, fun i => ?_, fun i => ?_⟩
  · show (moSJ t 38 n c).J 38 i = _
    rw [moSJ_s]; rfl
  all_goals simp only [ss, evMI, sj]
  · by_cases e : i = n <;> simp [e]
  · by_cases e : i = n <;> simp [e]
  · by_cases e : i = n <;> simp [e]
  · by_cases e : i = n <;> simp [e]
  · by_cases e : i = n <;> simp [e]
  · by_cases e : i = n <;> simp [e]
  · by_cases e : i = 2 * n
    · simp [e]
    · by_cases e2 : i = 2 * n + 1 <;> simp [e, e2]
  · by_cases e : i = 2 * n
    · simp [e]
    · by_cases e2 : i = 2 * n + 1 <;> simp [e, e2]
theorem mv_rt (hM : MV t) (hn : n = cR t) (h6 : n < 6) (hnm : ∃ nm, nmL nm c) : MV (mRt t n c) := by
  obtain ⟨m, e37, e38, e39, e40, e41, e42, e43, e44, e68, e69⟩ := mRt_e (t := t) (n := n) (c := c)
  generalize mRt t n c = t' at m e37 e38 e39 e40 e41 e42 e43 e44 e68 e69
  obtain ⟨⟨z1, z2, z3, z4, z5, z6, z7, z8⟩, b1, b2, b3, ⟨f1, f2, f3, f4, f5, f6⟩, ⟨q1, q2, q3, q4, q5, q6⟩⟩ := id hM
  have ec : cR t' = n + 1 := by unfold cR; rw [e37, nI_clamp (by omega)]
  have e1 : cL t' = cL t := by unfold cL; rw [m.S 17 (by decide)]
  have e2 : cS' t' = cS' t := by unfold cS'; rw [m.S 27 (by decide)]
  have e4 : ∀ r, cI t' r = cI t r := fun r => by unfold cI; rw [m.I 70 (by decide)]
  have ef : cF t' = cF t := by unfold cF; rw [m.S 123 (by decide)]
  refine ⟨⟨z1.fr m rfl, ?_, ?_, ?_, ?_, ?_, ?_, ⟨n + 1, e37, Nat.zero_le _, by omega⟩⟩, ?_, ?_, ?_, ⟨?_, ?_, ?_, ?_, ?_, ?_⟩, ?_, ?_, ?_, ?_, ?_, ?_⟩
  · rw [m.S 1 (by decide)]; exact z2
  · rw [m.S 3 (by decide)]; exact z3
  · rw [m.S 6 (by decide)]; exact z4
  · rw [m.S 6 (by decide), m.2 5 (Or.inl (by decide))]; exact z5
  · rw [m.S 17 (by decide)]; exact z6
  · rw [m.S 27 (by decide)]; exact z7
  · rw [e1]; exact fun i hi => (b1 i hi).fr m rfl
  · rw [e2]; exact fun i hi => (b2 i hi).fr m rfl
  · rw [ec]
    intro r hr
    by_cases e : r = n
    · obtain ⟨⟨w46, w53, w53', w59, w63, w70, w105⟩, w45⟩ := q3 r (by omega) (by omega)
      subst e
      have z32 : ∀ b, rng (0 : Int32) 0 b := fun b => ⟨0, rfl, Nat.le_refl _, Nat.zero_le _⟩
      refine ⟨?_, ?_, ⟨?_, ?_, ?_⟩, ?_, fun k hk => ?_, fun w hw => ?_, ⟨?_, fun k hk => ?_⟩, ⟨?_, fun k hk => ?_⟩, fun k hk => ?_, ?_, fun p hp => ?_, fun p p' _ hp => ?_, ?_, fun j hj => ?_, fun i j _ hj => ?_⟩
      · rw [e38, if_pos rfl]; exact hnm
      · rw [e39, if_pos rfl]; exact Or.inr rfl
      · rw [e40, if_pos rfl]; exact ⟨30, rfl, by decide, by decide⟩
      · rw [e41, if_pos rfl]; exact ⟨180, rfl, by decide, by decide⟩
      · rw [e42, if_pos rfl]; exact ⟨120, rfl, by decide, by decide⟩
      · rw [m.I 46 (by decide), w46]; exact z32 _
      · rw [m.I 46 (by decide), w46] at hk; exact absurd hk (Nat.not_lt_zero _)
      · have : t.I 53 (2 * r + w) = 0 := by
          by_cases w0 : w = 0
          · rw [w0]; exact w53
          · rw [show w = 1 by omega]; exact w53'
        rw [m.I 53 (by decide), this]
        exact ⟨z32 _, fun k hk => absurd hk (Nat.not_lt_zero _)⟩
      · rw [m.I 59 (by decide), w59]; exact z32 _
      · rw [m.I 59 (by decide), w59] at hk; exact absurd hk (Nat.not_lt_zero _)
      · rw [m.I 63 (by decide), w63]; exact z32 _
      · rw [m.I 63 (by decide), w63] at hk; exact absurd hk (Nat.not_lt_zero _)
      · rw [e68, e69, if_pos (by omega), if_pos (by omega)]; exact ⟨Or.inl rfl, Or.inl rfl⟩
      · rw [m.I 70 (by decide), w70]; exact z32 _
      · rw [e4] at hp; unfold cI at hp; rw [w70] at hp; exact absurd hp (Nat.not_lt_zero _)
      · rw [e4] at hp; unfold cI at hp; rw [w70] at hp; exact absurd hp (Nat.not_lt_zero _)
      · rw [m.I 105 (by decide), w105]; exact z32 _
      · unfold cN at hj; rw [m.I 105 (by decide), w105] at hj; exact absurd hj (Nat.not_lt_zero _)
      · unfold cN at hj; rw [m.I 105 (by decide), w105] at hj; exact absurd hj (Nat.not_lt_zero _)
    · obtain ⟨a1, a2, a3, a4, a5, a6, a7, a8, a9, a10, a11, a12, a13, a14, a15⟩ := b3 r (by omega)
      refine ⟨?_, ?_, ?_, ?_, ?_, ?_, ?_, ?_, fun k hk => ?_, ?_, ?_, ?_, ?_, ?_, ?_⟩
      · rw [e38, if_neg e]; exact a1
      · rw [e39, if_neg e]; exact a2
      · rw [e40, e41, e42, if_neg e, if_neg e, if_neg e]; exact a3
      · rw [m.I 46 (by decide)]; exact a4
      · rw [m.I 46 (by decide), m.I 47 (by decide), m.I 50 (by decide), m.I 51 (by decide), m.I 52 (by decide)]; exact a5
      · rw [m.I 53 (by decide), m.I 54 (by decide), m.I 57 (by decide), m.I 58 (by decide)]; exact a6
      · rw [e1, e2, m.I 59 (by decide), m.I 60 (by decide), m.I 61 (by decide), m.I 62 (by decide)]; exact a7
      · rw [e1, e2, m.I 63 (by decide), m.I 64 (by decide), m.I 65 (by decide), m.I 66 (by decide), m.I 67 (by decide)]; exact a8
      · rw [e68, e69, if_neg (by omega), if_neg (by omega)]; exact a9 k hk
      · rw [m.I 70 (by decide)]; exact a10
      · rw [e4]
        intro p hp
        have := a11 p hp
        unfold mVi cL at this ⊢
        simp only [m.I 71 (by decide), m.S 17 (by decide), m.I 72 (by decide), m.J 73 (by decide), m.I 74 (by decide), m.I 75 (by decide), m.I 78 (by decide), m.I 79 (by decide), m.I 80 (by decide), m.I 82 (by decide), m.I 83 (by decide), m.I 84 (by decide), m.I 85 (by decide), m.I 87 (by decide), m.I 88 (by decide), m.I 90 (by decide), m.I 91 (by decide), m.I 94 (by decide), m.I 95 (by decide), m.I 96 (by decide), m.I 99 (by decide), m.I 100 (by decide)]
        exact this
      · rw [e4, m.I 71 (by decide)]; exact a12
      · rw [m.I 105 (by decide)]; exact a13
      · unfold mRw cN cI at a14 ⊢
        rw [m.I 105 (by decide), m.I 106 (by decide), m.I 109 (by decide), m.I 110 (by decide), m.I 111 (by decide), m.I 112 (by decide), m.I 113 (by decide), m.J 114 (by decide), m.J 115 (by decide), m.I 116 (by decide), m.I 119 (by decide), m.I 70 (by decide)]; exact a14
      · unfold mKy cN at a15 ⊢
        rw [m.I 105 (by decide), m.I 106 (by decide), m.J 107 (by decide), m.J 108 (by decide), m.I 109 (by decide)]; exact a15
  · rw [m.S 123 (by decide)]; exact f1
  · rw [m.I 125 (by decide)]; exact f2
  · rw [ef, m.I 124 (by decide), m.I 125 (by decide)]; exact f3
  · rw [ef, m.I 124 (by decide)]; exact f4
  · rw [ef, m.I 124 (by decide), m.I 125 (by decide)]; exact f5
  · rw [ef, m.I 124 (by decide), m.I 126 (by decide), m.I 127 (by decide), m.I 128 (by decide), m.I 131 (by decide), m.I 137 (by decide), ec, m.I 71 (by decide), e1]
    simp only [e4]
    intro i hi
    obtain ⟨y1, y2, y3, y4, y5⟩ := f6 i hi
    refine ⟨y1, y2, y3, y4, ?_⟩
    rcases y5 with y | ⟨r, p, hr, hp, y⟩
    · exact Or.inl y
    · exact Or.inr ⟨r, p, by omega, hp, y⟩
  · rw [e1, m.I 23 (by decide), m.I 24 (by decide), m.I 25 (by decide)]; exact q1
  · rw [e2, m.I 29 (by decide)]; exact q2
  · rw [ec, m.I 46 (by decide), m.I 53 (by decide), m.I 59 (by decide), m.I 63 (by decide), m.I 70 (by decide), m.I 105 (by decide), m.I 45 (by decide)]
    exact fun r hr h6 => q3 r (by omega) h6
  · unfold mZi at q4 ⊢
    simp only [e4, m.I 74 (by decide), m.I 75 (by decide), m.I 79 (by decide), m.I 82 (by decide), m.I 89 (by decide), m.I 90 (by decide), m.I 95 (by decide), m.I 99 (by decide), m.I 100 (by decide)]
    exact q4
  · rw [m.S 101 (by decide), m.2 102 (Or.inl (by decide))]; exact q5
  · rw [m.S 101 (by decide), ec, m.I 102 (by decide)]
    simp only [e4]
    intro i hi
    obtain ⟨r, p, hr, y⟩ := q6 i hi
    exact ⟨r, p, by omega, y⟩
end Mr
