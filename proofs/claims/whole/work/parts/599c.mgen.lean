/-! Small calls of the model, over its memory. -/
section MGen
variable {R : pmM} {t : moS} {base m n : Nat} {q : Nat → Nat} {y z : Int32} {Rt : pmR} {kc ks : Nat}
theorem outR_no0 {y : Int32} {n : Nat} (c : ¬ y < 0) (c9 : ¬ nI n ≤ y) : ∃ j, y = nI j ∧ j < n := by
  obtain ⟨j, hj, rfl⟩ := nI_of c
  rcases Nat.lt_or_ge j n with h | h
  · exact ⟨j, rfl, h⟩
  · exact absurd (nI_le h hj) c9
theorem outR_yes0 {y : Int32} {n : Nat} (c : ¬ y < 0) (c9 : nI n ≤ y) (hn : n < 2 ^ 31) : outR y n := by
  obtain ⟨j, hj, rfl⟩ := nI_of c
  rcases Nat.lt_or_ge j n with h | h
  · exact absurd c9 (nI_ge h hn)
  · exact Or.inr ⟨j, hj, rfl, h⟩
set_option maxRecDepth 100000 in
theorem m_lose (sa : Nat → Nat) (hq : moQ base m q) (h : t.S 17 = nI n) (hn : n ≤ t.N 24) (hM : t.N 24 < 2 ^ 31) (hN : n < 2 ^ 31) (k0 : (outR y n ∨ z < 0) → Rt (some (.int 0)) (moM R m q (moSS t 0 0)) kc ks) (k1 : ∀ j, y = nI j → j < n → ¬ z < 0 → Rt (some (.int 1)) (moM R m q (moSI (moSS t 0 0) 24 j z)) kc ks) : kP_Mo_lose base sa [.ref m, .int y, .int z] (moM R m q t) kc ks Rt := by
  refine ⟨Nat.le_of_ble_eq_true rfl, fun G hG => ?_⟩
  repeat (first | refine pgs hG rfl rfl ?_ | refine pgc hG rfl rfl (Nat.le_of_ble_eq_true rfl) ?_ | refine mo_gi hG rfl rfl rfl rfl ?_ | refine mo_gz hG rfl rfl rfl rfl ?_ | refine mo_gr hG rfl rfl rfl rfl ?_ | refine mo_pi hG hq rfl rfl rfl rfl ?_ | refine mo_pz hG hq rfl rfl rfl rfl ?_)
  refine pz_lt hG (t := 21) rfl rfl (fun c => ?_) (fun c => ?_)
  · repeat (first | refine pgs hG rfl rfl ?_ | refine pgc hG rfl rfl (Nat.le_of_ble_eq_true rfl) ?_ | refine mo_gi hG rfl rfl rfl rfl ?_ | refine mo_gz hG rfl rfl rfl rfl ?_ | refine mo_gr hG rfl rfl rfl rfl ?_ | refine mo_pi hG hq rfl rfl rfl rfl ?_ | refine mo_pz hG hq rfl rfl rfl rfl ?_)
    exact pg_ri hG rfl rfl rfl (k0 (Or.inl (Or.inl c)))
  · repeat (first | refine pgs hG rfl rfl ?_ | refine pgc hG rfl rfl (Nat.le_of_ble_eq_true rfl) ?_ | refine mo_gi hG rfl rfl rfl rfl ?_ | refine mo_gz hG rfl rfl rfl rfl ?_ | refine mo_gr hG rfl rfl rfl rfl ?_ | refine mo_pi hG hq rfl rfl rfl rfl ?_ | refine mo_pz hG hq rfl rfl rfl rfl ?_)
    refine pi_ge hG (t := 21) rfl rfl (fun c9 => ?_) (fun c9 => ?_)
    · repeat (first | refine pgs hG rfl rfl ?_ | refine pgc hG rfl rfl (Nat.le_of_ble_eq_true rfl) ?_ | refine mo_gi hG rfl rfl rfl rfl ?_ | refine mo_gz hG rfl rfl rfl rfl ?_ | refine mo_gr hG rfl rfl rfl rfl ?_ | refine mo_pi hG hq rfl rfl rfl rfl ?_ | refine mo_pz hG hq rfl rfl rfl rfl ?_)
      exact pg_ri hG rfl rfl rfl (k0 (Or.inl (outR_yes0 c (show nI n ≤ y from h ▸ c9) hN)))
    · obtain ⟨j, rfl, hj⟩ := outR_no0 (n := n) c (fun e => c9 (show t.S 17 ≤ y from h ▸ e))
      repeat (first | refine pgs hG rfl rfl ?_ | refine pgc hG rfl rfl (Nat.le_of_ble_eq_true rfl) ?_ | refine mo_gi hG rfl rfl rfl rfl ?_ | refine mo_gz hG rfl rfl rfl rfl ?_ | refine mo_gr hG rfl rfl rfl rfl ?_ | refine mo_pi hG hq rfl rfl rfl rfl ?_ | refine mo_pz hG hq rfl rfl rfl rfl ?_)
      refine pz_ge hG (t := 23) rfl rfl (fun c11 => ?_) (fun c11 => ?_)
      · repeat (first | refine pgs hG rfl rfl ?_ | refine pgc hG rfl rfl (Nat.le_of_ble_eq_true rfl) ?_ | refine mo_gi hG rfl rfl rfl rfl ?_ | refine mo_gz hG rfl rfl rfl rfl ?_ | refine mo_gr hG rfl rfl rfl rfl ?_ | refine mo_pi hG hq rfl rfl rfl rfl ?_ | refine mo_pz hG hq rfl rfl rfl rfl ?_)
        refine mo_is hG hq rfl rfl rfl (show vp_in (nI (j)) (t.N 24) from vp_in_nI (by omega) (by omega)) ?_
        rw [nI_clamp (by omega)]
        repeat (first | refine pgs hG rfl rfl ?_ | refine pgc hG rfl rfl (Nat.le_of_ble_eq_true rfl) ?_ | refine mo_gi hG rfl rfl rfl rfl ?_ | refine mo_gz hG rfl rfl rfl rfl ?_ | refine mo_gr hG rfl rfl rfl rfl ?_ | refine mo_pi hG hq rfl rfl rfl rfl ?_ | refine mo_pz hG hq rfl rfl rfl rfl ?_)
        exact pg_ri hG rfl rfl rfl (k1 j rfl hj (Int32.not_lt.mpr c11))
      · repeat (first | refine pgs hG rfl rfl ?_ | refine pgc hG rfl rfl (Nat.le_of_ble_eq_true rfl) ?_ | refine mo_gi hG rfl rfl rfl rfl ?_ | refine mo_gz hG rfl rfl rfl rfl ?_ | refine mo_gr hG rfl rfl rfl rfl ?_ | refine mo_pi hG hq rfl rfl rfl rfl ?_ | refine mo_pz hG hq rfl rfl rfl rfl ?_)
        exact pg_ri hG rfl rfl rfl (k0 (Or.inr (Int32.not_le.mp c11)))
set_option maxRecDepth 100000 in
theorem m_count (sa : Nat → Nat) (hq : moQ base m q) (h : t.S 37 = nI n) (hn : 11 * n ≤ t.N 45) (hN : t.N 45 < 2 ^ 31) (k0 : (outR y n ∨ z < 0 ∨ ¬ z < 11) → Rt (some (.int (-1))) (moM R m q (moSS t 0 0)) kc ks) (k1 : ∀ j i, y = nI j → j < n → z = nI i → i < 11 → Rt (some (.int (t.I 45 (11 * j + i)))) (moM R m q (moSS t 0 0)) kc ks) : kP_Mo_count base sa [.ref m, .int y, .int z] (moM R m q t) kc ks Rt := by
  refine ⟨Nat.le_of_ble_eq_true rfl, fun G hG => ?_⟩
  have hN0 : n < 2 ^ 31 := by omega
  repeat (first | refine pgs hG rfl rfl ?_ | refine pgc hG rfl rfl (Nat.le_of_ble_eq_true rfl) ?_ | refine mo_gi hG rfl rfl rfl rfl ?_ | refine mo_gz hG rfl rfl rfl rfl ?_ | refine mo_gr hG rfl rfl rfl rfl ?_ | refine mo_pi hG hq rfl rfl rfl rfl ?_ | refine mo_pz hG hq rfl rfl rfl rfl ?_)
  refine pg_cal hG 0 rfl rfl (Nat.le_of_ble_eq_true rfl) (by decide) (Nat.le_of_ble_eq_true rfl) ?_
  refine pm_rcv_of (As' := [.int y]) moM_m (s_Mo_isRouter base sa (t := n) moM_m (show moV q (moSS t 0 0) 37 = .int (nI n) from congrArg Value.int h) hN0 (fun c => ?_) (fun j hy hj => ?_))
  · refine pz_eq hG (t := 37) rfl rfl (fun _ => ?_) (fun c => absurd rfl c)
    repeat (first | refine pgs hG rfl rfl ?_ | refine pgc hG rfl rfl (Nat.le_of_ble_eq_true rfl) ?_ | refine mo_gi hG rfl rfl rfl rfl ?_ | refine mo_gz hG rfl rfl rfl rfl ?_ | refine mo_gr hG rfl rfl rfl rfl ?_ | refine mo_pi hG hq rfl rfl rfl rfl ?_ | refine mo_pz hG hq rfl rfl rfl rfl ?_)
    exact pg_ri hG rfl rfl rfl (k0 (Or.inl c))
  · refine pz_eq hG (t := 37) rfl rfl (fun c => absurd c (by decide)) (fun _ => ?_)
    repeat (first | refine pgs hG rfl rfl ?_ | refine pgc hG rfl rfl (Nat.le_of_ble_eq_true rfl) ?_ | refine mo_gi hG rfl rfl rfl rfl ?_ | refine mo_gz hG rfl rfl rfl rfl ?_ | refine mo_gr hG rfl rfl rfl rfl ?_ | refine mo_pi hG hq rfl rfl rfl rfl ?_ | refine mo_pz hG hq rfl rfl rfl rfl ?_)
    refine pz_lt hG (t := 37) rfl rfl (fun c14 => ?_) (fun c14 => ?_)
    · repeat (first | refine pgs hG rfl rfl ?_ | refine pgc hG rfl rfl (Nat.le_of_ble_eq_true rfl) ?_ | refine mo_gi hG rfl rfl rfl rfl ?_ | refine mo_gz hG rfl rfl rfl rfl ?_ | refine mo_gr hG rfl rfl rfl rfl ?_ | refine mo_pi hG hq rfl rfl rfl rfl ?_ | refine mo_pz hG hq rfl rfl rfl rfl ?_)
      exact pg_ri hG rfl rfl rfl (k0 (Or.inr (Or.inl c14)))
    · repeat (first | refine pgs hG rfl rfl ?_ | refine pgc hG rfl rfl (Nat.le_of_ble_eq_true rfl) ?_ | refine mo_gi hG rfl rfl rfl rfl ?_ | refine mo_gz hG rfl rfl rfl rfl ?_ | refine mo_gr hG rfl rfl rfl rfl ?_ | refine mo_pi hG hq rfl rfl rfl rfl ?_ | refine mo_pz hG hq rfl rfl rfl rfl ?_)
      rw [show (Int8.ofInt 11).toInt32 = nI 11 from by decide]
      obtain ⟨i, hi, rfl⟩ := nI_of c14
      refine pi_ge hG (t := 37) rfl rfl (fun c20 => ?_) (fun c20 => ?_)
      · repeat (first | refine pgs hG rfl rfl ?_ | refine pgc hG rfl rfl (Nat.le_of_ble_eq_true rfl) ?_ | refine mo_gi hG rfl rfl rfl rfl ?_ | refine mo_gz hG rfl rfl rfl rfl ?_ | refine mo_gr hG rfl rfl rfl rfl ?_ | refine mo_pi hG hq rfl rfl rfl rfl ?_ | refine mo_pz hG hq rfl rfl rfl rfl ?_)
        exact pg_ri hG rfl rfl rfl (k0 (Or.inr (Or.inr (Int32.not_lt.mpr c20))))
      · have hi11 : i < 11 := (nI_ltI hi (by decide)).mp (Int32.not_le.mp c20)
        subst hy
        repeat (first | refine pgs hG rfl rfl ?_ | refine pgc hG rfl rfl (Nat.le_of_ble_eq_true rfl) ?_ | refine mo_gi hG rfl rfl rfl rfl ?_ | refine mo_gz hG rfl rfl rfl rfl ?_ | refine mo_gr hG rfl rfl rfl rfl ?_ | refine mo_pi hG hq rfl rfl rfl rfl ?_ | refine mo_pz hG hq rfl rfl rfl rfl ?_)
        rw [show (Int8.ofInt 11).toInt32 * nI j + nI i = nI (11 * j + i) from by rw [show (Int8.ofInt 11).toInt32 = nI 11 from by decide, pk_mul, nI_add]]
        refine mo_ia hG hq rfl rfl rfl (show vp_in (nI (11 * j + i)) (t.N 45) from vp_in_nI (by omega) (by omega)) ?_
        rw [nI_clamp (by omega)]
        refine pg_go hG (t := 38) rfl rfl ?_
        exact pg_ri hG rfl rfl rfl (k1 j i rfl hj rfl hi11)
set_option maxRecDepth 100000 in
theorem m_routes (sa : Nat → Nat) (hq : moQ base m q) (h : t.S 37 = nI n) (hn : n ≤ t.N 105) (hM : t.N 105 < 2 ^ 31) (hN : n < 2 ^ 31) (k0 : outR y n → Rt (some (.int (-1))) (moM R m q (moSS t 0 0)) kc ks) (k1 : ∀ j, y = nI j → j < n → Rt (some (.int (t.I 105 j))) (moM R m q (moSS t 0 0)) kc ks) : kP_Mo_routes base sa [.ref m, .int y] (moM R m q t) kc ks Rt := by
  refine ⟨Nat.le_of_ble_eq_true rfl, fun G hG => ?_⟩
  repeat (first | refine pgs hG rfl rfl ?_ | refine pgc hG rfl rfl (Nat.le_of_ble_eq_true rfl) ?_ | refine mo_gi hG rfl rfl rfl rfl ?_ | refine mo_gz hG rfl rfl rfl rfl ?_ | refine mo_gr hG rfl rfl rfl rfl ?_ | refine mo_pi hG hq rfl rfl rfl rfl ?_ | refine mo_pz hG hq rfl rfl rfl rfl ?_)
  refine pg_cal hG 0 rfl rfl (Nat.le_of_ble_eq_true rfl) (by decide) (Nat.le_of_ble_eq_true rfl) ?_
  refine pm_rcv_of (As' := [.int y]) moM_m (s_Mo_isRouter base sa (t := n) moM_m (show moV q (moSS t 0 0) 37 = .int (nI n) from congrArg Value.int h) hN (fun c => ?_) (fun j hy hj => ?_))
  · refine pz_eq hG (t := 22) rfl rfl (fun _ => ?_) (fun c => absurd rfl c)
    repeat (first | refine pgs hG rfl rfl ?_ | refine pgc hG rfl rfl (Nat.le_of_ble_eq_true rfl) ?_ | refine mo_gi hG rfl rfl rfl rfl ?_ | refine mo_gz hG rfl rfl rfl rfl ?_ | refine mo_gr hG rfl rfl rfl rfl ?_ | refine mo_pi hG hq rfl rfl rfl rfl ?_ | refine mo_pz hG hq rfl rfl rfl rfl ?_)
    exact pg_ri hG rfl rfl rfl (k0 c)
  · refine pz_eq hG (t := 22) rfl rfl (fun c => absurd c (by decide)) (fun _ => ?_)
    subst hy
    repeat (first | refine pgs hG rfl rfl ?_ | refine pgc hG rfl rfl (Nat.le_of_ble_eq_true rfl) ?_ | refine mo_gi hG rfl rfl rfl rfl ?_ | refine mo_gz hG rfl rfl rfl rfl ?_ | refine mo_gr hG rfl rfl rfl rfl ?_ | refine mo_pi hG hq rfl rfl rfl rfl ?_ | refine mo_pz hG hq rfl rfl rfl rfl ?_)
    refine mo_ia hG hq rfl rfl rfl (show vp_in (nI (j)) (t.N 105) from vp_in_nI (by omega) (by omega)) ?_
    rw [nI_clamp (by omega)]
    refine pg_go hG (t := 23) rfl rfl ?_
    exact pg_ri hG rfl rfl rfl (k1 j rfl hj)
set_option maxRecDepth 100000 in
theorem m_end (sa : Nat → Nat) (hq : moQ base m q) (h : t.S 3 = nI n) (hN : n < 2 ^ 31) (k0 : (y < 0 ∨ nI n < y) → Rt (some (.int 0)) (moM R m q (moSS t 0 0)) kc ks) (k1 : ∀ j, y = nI j → j ≤ n → Rt (some (.int 1)) (moM R m q (moSS (moSS t 0 0) 3 (nI j))) kc ks) : kP_Mo_end base sa [.ref m, .int y] (moM R m q t) kc ks Rt := by
  refine ⟨Nat.le_of_ble_eq_true rfl, fun G hG => ?_⟩
  repeat (first | refine pgs hG rfl rfl ?_ | refine pgc hG rfl rfl (Nat.le_of_ble_eq_true rfl) ?_ | refine mo_gi hG rfl rfl rfl rfl ?_ | refine mo_gz hG rfl rfl rfl rfl ?_ | refine mo_gr hG rfl rfl rfl rfl ?_ | refine mo_pi hG hq rfl rfl rfl rfl ?_ | refine mo_pz hG hq rfl rfl rfl rfl ?_)
  refine pz_lt hG (t := 17) rfl rfl (fun c => ?_) (fun c => ?_)
  · repeat (first | refine pgs hG rfl rfl ?_ | refine pgc hG rfl rfl (Nat.le_of_ble_eq_true rfl) ?_ | refine mo_gi hG rfl rfl rfl rfl ?_ | refine mo_gz hG rfl rfl rfl rfl ?_ | refine mo_gr hG rfl rfl rfl rfl ?_ | refine mo_pi hG hq rfl rfl rfl rfl ?_ | refine mo_pz hG hq rfl rfl rfl rfl ?_)
    exact pg_ri hG rfl rfl rfl (k0 (Or.inl c))
  · repeat (first | refine pgs hG rfl rfl ?_ | refine pgc hG rfl rfl (Nat.le_of_ble_eq_true rfl) ?_ | refine mo_gi hG rfl rfl rfl rfl ?_ | refine mo_gz hG rfl rfl rfl rfl ?_ | refine mo_gr hG rfl rfl rfl rfl ?_ | refine mo_pi hG hq rfl rfl rfl rfl ?_ | refine mo_pz hG hq rfl rfl rfl rfl ?_)
    refine pi_le hG (t := 19) rfl rfl (fun c9 => ?_) (fun c9 => ?_)
    · obtain ⟨j, hj, rfl⟩ := nI_of c
      have c9 : nI j ≤ nI n := h ▸ c9
      have hjn : j ≤ n := (nI_leI hj hN).mp c9
      repeat (first | refine pgs hG rfl rfl ?_ | refine pgc hG rfl rfl (Nat.le_of_ble_eq_true rfl) ?_ | refine mo_gi hG rfl rfl rfl rfl ?_ | refine mo_gz hG rfl rfl rfl rfl ?_ | refine mo_gr hG rfl rfl rfl rfl ?_ | refine mo_pi hG hq rfl rfl rfl rfl ?_ | refine mo_pz hG hq rfl rfl rfl rfl ?_)
      exact pg_ri hG rfl rfl rfl (k1 j rfl hjn)
    · repeat (first | refine pgs hG rfl rfl ?_ | refine pgc hG rfl rfl (Nat.le_of_ble_eq_true rfl) ?_ | refine mo_gi hG rfl rfl rfl rfl ?_ | refine mo_gz hG rfl rfl rfl rfl ?_ | refine mo_gr hG rfl rfl rfl rfl ?_ | refine mo_pi hG hq rfl rfl rfl rfl ?_ | refine mo_pz hG hq rfl rfl rfl rfl ?_)
      exact pg_ri hG rfl rfl rfl (k0 (Or.inr (Int32.not_le.mp (fun e => c9 (show y ≤ t.S 3 from h ▸ e)))))
set_option maxRecDepth 100000 in
theorem m_textAt (sa : Nat → Nat) (hq : moQ base m q) (h : t.S 6 = nI n) (hn : n ≤ t.N 5) (hM : t.N 5 < 2 ^ 31) (hN : n < 2 ^ 31) (k0 : outR y n → Rt (some (.int 0)) (moM R m q (moSS t 0 1)) kc ks) (k1 : ∀ j, y = nI j → j < n → Rt (some (.int (t.I 5 j))) (moM R m q (moSS t 0 0)) kc ks) : kP_Mo_textAt base sa [.ref m, .int y] (moM R m q t) kc ks Rt := by
  refine ⟨Nat.le_of_ble_eq_true rfl, fun G hG => ?_⟩
  by_cases ho : outR y n
  · exact (m_textAt0 base sa hq h ho (k0 ho)).2 G hG
  have c : ¬ y < 0 := fun e => ho (Or.inl e)
  obtain ⟨j, rfl, hj⟩ := outR_no0 (n := n) c (fun e => ho (outR_yes0 c e hN))
  repeat (first | refine pgs hG rfl rfl ?_ | refine pgc hG rfl rfl (Nat.le_of_ble_eq_true rfl) ?_ | refine mo_gi hG rfl rfl rfl rfl ?_ | refine mo_gz hG rfl rfl rfl rfl ?_ | refine mo_gr hG rfl rfl rfl rfl ?_ | refine mo_pi hG hq rfl rfl rfl rfl ?_ | refine mo_pz hG hq rfl rfl rfl rfl ?_)
  refine pz_lt hG (t := 13) rfl rfl (fun e => absurd e c) (fun _ => ?_)
  repeat (first | refine pgs hG rfl rfl ?_ | refine pgc hG rfl rfl (Nat.le_of_ble_eq_true rfl) ?_ | refine mo_gi hG rfl rfl rfl rfl ?_ | refine mo_gz hG rfl rfl rfl rfl ?_ | refine mo_gr hG rfl rfl rfl rfl ?_ | refine mo_pi hG hq rfl rfl rfl rfl ?_ | refine mo_pz hG hq rfl rfl rfl rfl ?_)
  refine pi_lt hG (t := 17) rfl rfl (fun _ => ?_) (fun e => absurd (show nI j < t.S 6 from by rw [h]; exact (nI_ltI (by omega) hN).mpr hj) e)
  repeat (first | refine pgs hG rfl rfl ?_ | refine pgc hG rfl rfl (Nat.le_of_ble_eq_true rfl) ?_ | refine mo_gi hG rfl rfl rfl rfl ?_ | refine mo_gz hG rfl rfl rfl rfl ?_ | refine mo_gr hG rfl rfl rfl rfl ?_ | refine mo_pi hG hq rfl rfl rfl rfl ?_ | refine mo_pz hG hq rfl rfl rfl rfl ?_)
  refine pz_ne hG (t := 37) rfl rfl (fun e => absurd rfl e) (fun _ => ?_)
  repeat (first | refine pgs hG rfl rfl ?_ | refine pgc hG rfl rfl (Nat.le_of_ble_eq_true rfl) ?_ | refine mo_gi hG rfl rfl rfl rfl ?_ | refine mo_gz hG rfl rfl rfl rfl ?_ | refine mo_gr hG rfl rfl rfl rfl ?_ | refine mo_pi hG hq rfl rfl rfl rfl ?_ | refine mo_pz hG hq rfl rfl rfl rfl ?_)
  refine mo_ia hG hq rfl rfl rfl (show vp_in (nI (j)) (t.N 5) from vp_in_nI (by omega) (by omega)) ?_
  rw [nI_clamp (by omega)]
  refine pg_go hG (t := 38) rfl rfl ?_
  exact pg_ri hG rfl rfl rfl (k1 j rfl hj)
end MGen
