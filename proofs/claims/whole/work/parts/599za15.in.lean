/-! What arrives is laid into the model's in. -/
/-- in holds L, zeros behind -/
def IN (t : moS) (L : List Int32) : Prop := t.S 150 = nI L.length ∧ ∀ j, j < 700 → t.I 149 j = L.getD j 0
section In
variable {p1 a3 a4 a5 a6 a15 a16 : Int32} {a7 a9 a11 a13 : Int64}
theorem IN.fr {t t' : moS} {W : List Nat} {L : List Int32} (h : IN t L) (m : mfr W t t') (d : dj [149, 150] W) : IN t' L := by
  unfold IN at h ⊢
  rw [m.S 150 (d.n 150), m.I 149 (d.n 149)]
  exact h
theorem m_in {n p N : Nat} : ∀ (k a : Nat) (t : moS), a + k = 700 → t.N 149 = 700 → t.N 138 = N → 700 * p + 700 ≤ N → N < 2 ^ 31 → t.S 150 = nI n → n ≤ 700 → (∀ j, j < a → t.I 149 j = if j < n then t.I 138 (700 * p + j) else 0) → ∃ t', mfr [149] t t' ∧ (∀ j, j < 700 → t'.I 149 j = if j < n then t.I 138 (700 * p + j) else 0) ∧ M_arrive_b99 t p1 (nI p) a3 a4 a5 a6 a7 a9 a11 a13 a15 a16 (nI a) = Option.bind (M_takeOff t' p1) (fun s1 => M_arrive_b154 s1 a3 a4 a5 a6 a7 a9 a11 a13 a15 a16 0)
  | 0, a, t, ha, h149, h138, hp, hN, hS, hn, hj => by
    have ha : a = 700 := by omega
    subst ha
    refine ⟨t, mfr.rf, hj, ?_⟩
    unfold M_arrive_b99
    refine lp_x ?_
    show M_arrive_s99 t p1 (nI p) a3 a4 a5 a6 a7 a9 a11 a13 a15 a16 (nI 700) = _
    unfold M_arrive_s99
    rw [if_neg (show ¬ nI 700 < (700 : Int32) by decide)]
  | k + 1, a, t, ha, h149, h138, hp, hN, hS, hn, hj => by
    have st : ∀ v, v = (if a < n then t.I 138 (700 * p + a) else 0) → M_arrive_s99 t p1 (nI p) a3 a4 a5 a6 a7 a9 a11 a13 a15 a16 (nI a) = some (.inl (nI (a + 1), moSI t 149 a v)) := fun v hv => by
      unfold M_arrive_s99 M_arrive_b139
      rw [if_pos (show nI a < (700 : Int32) from nI_lt (b := 700) (by omega) (by decide)), hS]
      by_cases c : a < n
      · rw [if_pos c] at hv
        rw [if_pos (nI_lt c (by omega)), show (700 : Int32) * nI p + nI a = nI (700 * p + a) by rw [show (700 : Int32) = nI 700 from rfl, pk_mul, nI_add], rdI_n h138 (by omega) hN]
        simp only [Option.bind_some]
        rw [wrI_n h149 (by omega) (by decide), hv, nI_1]
        rfl
      · rw [if_neg c] at hv
        rw [if_neg (nI_nlt (by omega) (by omega)), wrI_n h149 (by omega) (by decide), hv, nI_1]
        rfl
    have st := st _ rfl
    generalize hv : (if a < n then t.I 138 (700 * p + a) else 0) = v at st
    have m1 : mfr [149] t (moSI t 149 a v) := mfr.si (by decide)
    obtain ⟨t', q1, q2, q3⟩ := m_in k (a + 1) (moSI t 149 a v) (by omega) h149 h138 hp hN hS hn (fun j hj' => by
      rw [moSI_s, m1.I 138 (by decide)]
      by_cases c : j = a
      · subst c
        rw [upd_s, ← hv]
      · rw [upd_n c]
        exact hj j (by omega))
    refine ⟨t', m1.tr q1, fun j hj' => by rw [q2 j hj', m1.I 138 (by decide)], ?_⟩
    rw [← q3]
    unfold M_arrive_b99
    exact lp_l (f := fun x : Int32 × moS => M_arrive_s99 x.2 p1 (nI p) a3 a4 a5 a6 a7 a9 a11 a13 a15 a16 x.1) st
end In
