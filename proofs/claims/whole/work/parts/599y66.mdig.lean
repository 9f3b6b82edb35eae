/-! The model's digest. -/
def fulN (n : Nat) : Nat := (n + 8) / 64 * 64 + 64
/-- a message that is filled up; hi: the highest byte first -/
def pdF (B : Nat → Int32) (n : Nat) (hi : Int32) (i : Nat) : Int32 := if i < n then B i else if i = n then 128 else if i < fulN n - 8 then 0 else if hi = 0 then nI (8 * n / 256 ^ (i - (fulN n - 8)) % 256) else nI (8 * n / 256 ^ (7 - (i - (fulN n - 8))) % 256)
def q5g (q : q5) (i : Nat) : Int32 := if i = 0 then q.1 else if i = 1 then q.2.1 else if i = 2 then q.2.2.1 else if i = 3 then q.2.2.2.1 else q.2.2.2.2
/-- the digest's state, and its bytes -/
noncomputable def dgR (hi : Int32) (B : Nat → Int32) (n : Nat) : q5 := if hi = 0 then dg5 (pdF B n 0) (fulN n / 64) else dgH (pdF B n 1) (fulN n / 64)
def sbB (hi : Int32) (q : q5) (k : Nat) : Int32 := (q5g q (k / 4) >>> ((if hi = 0 then (8 : Int32) * nI (k % 4) else (24 : Int32) - (8 : Int32) * nI (k % 4)) &&& 31)) &&& 255
theorem ful_b {n : Nat} : n + 9 ≤ fulN n ∧ fulN n ≤ n + 72 ∧ fulN n % 64 = 0 := by unfold fulN; omega
theorem pdf_l {B : Nat → Int32} {n j : Nat} {hi : Int32} : pdF B n hi (fulN n - 8 + j) = if hi = 0 then nI (8 * n / 256 ^ j % 256) else nI (8 * n / 256 ^ (7 - j) % 256) := by
  obtain ⟨f1, f2, f3⟩ := ful_b (n := n)
  unfold pdF
  rw [if_neg (show ¬ fulN n - 8 + j < n by omega), if_neg (show ¬ fulN n - 8 + j = n by omega), if_neg (show ¬ fulN n - 8 + j < fulN n - 8 by omega), Nat.add_sub_cancel_left]
section Md
variable {t : moS} {B : Nat → Int32} {n : Nat} {hi : Int32}
theorem m_pad (h7 : t.N 157 = 832) (hn : n < 704) (hh : hi = 0 ∨ hi = 1) (hB : ∀ i, i < n → t.I 157 i = B i) : ∃ t', M_pad t (nI n) hi = some (nI (fulN n), t') ∧ mfr [157] t t' ∧ ∀ i, i < fulN n → t'.I 157 i = pdF B n hi i := by
  obtain ⟨f1, f2, f3⟩ := ful_b (n := n)
  -- the number of bits
  have last : ∀ k j, j + k = 8 → ∀ t1, mfr [157] t t1 → (∀ i, i < fulN n - 8 + j → t1.I 157 i = pdF B n hi i) → ∃ t', lp (fun x : Int32 × moS => M_pad_s39 x.2 (nI n) hi (nI (fulN n - 8)) x.1) (nI j, t1) = some (nI (fulN n), t') ∧ mfr [157] t t' ∧ ∀ i, i < fulN n → t'.I 157 i = pdF B n hi i := by
    intro k
    induction k with
    | zero =>
      intro j hj t1 m1 hw
      have hj : j = 8 := by omega
      subst hj
      have st : M_pad_s39 t1 (nI n) hi (nI (fulN n - 8)) (nI 8) = xo (some (nI (fulN n), t1)) := by
        unfold M_pad_s39
        rw [if_neg (by decide), show nI (fulN n - 8) + 8 = nI (fulN n - 8 + 8) from nI_add _ 8, Nat.sub_add_cancel (by omega)]
      rw [lp_x (show (fun x : Int32 × moS => M_pad_s39 x.2 (nI n) hi (nI (fulN n - 8)) x.1) (nI 8, t1) = _ from st)]
      exact ⟨t1, rfl, m1, fun i hi => hw i (by omega)⟩
    | succ k ih =>
      intro j hj t1 m1 hw
      have n7 : t1.N 157 = 832 := (m1.2 157 (Or.inr (by decide))).trans h7
      have st : M_pad_s39 t1 (nI n) hi (nI (fulN n - 8)) (nI j) = some (.inl (nI (j + 1), moSI t1 157 (fulN n - 8 + j) (pdF B n hi (fulN n - 8 + j)))) := by
        rw [pdf_l]
        unfold M_pad_s39
        rw [if_pos (show nI j < 8 from nI_lt (b := 8) (by omega) (by decide))]
        unfold M_pad_b66
        by_cases c : hi = 0
        · rw [if_pos c, if_pos c, nI_add, ln_m n hn j (by omega), nI_1]
          exact (sw_I n7 (by omega) (by decide)).trans rfl
        · rw [if_neg c, if_neg c, nI_add, ln_h j (by omega), ln_m n hn (7 - j) (by omega), nI_1]
          exact (sw_I n7 (by omega) (by decide)).trans rfl
      rw [lp_l (show (fun x : Int32 × moS => M_pad_s39 x.2 (nI n) hi (nI (fulN n - 8)) x.1) (nI j, t1) = _ from st)]
      refine ih (j + 1) (by omega) _ (m1.tr (mfr.si (by decide))) fun i hi => ?_
      rw [moSI_s]
      by_cases c : i = fulN n - 8 + j
      · rw [c, upd_s]
      · rw [upd_n c]; exact hw i (by omega)
  have mid : ∀ k j, j + k = fulN n - 8 → n < j → ∀ t1, mfr [157] t t1 → (∀ i, i < j → t1.I 157 i = pdF B n hi i) → ∃ t', lp (fun x : Int32 × moS => M_pad_s14 x.2 (nI n) hi x.1) (nI j, t1) = some (nI (fulN n), t') ∧ mfr [157] t t' ∧ ∀ i, i < fulN n → t'.I 157 i = pdF B n hi i := by
    intro k
    induction k with
    | zero =>
      intro j hj hjn t1 m1 hw
      have hj : j = fulN n - 8 := by omega
      subst hj
      have st : M_pad_s14 t1 (nI n) hi (nI (fulN n - 8)) = xo (M_pad_b39 t1 (nI n) hi (nI (fulN n - 8)) 0) := by
        unfold M_pad_s14
        rw [rm64 _ (by omega), show (fulN n - 8) % 64 = 56 by omega, if_pos (by decide)]
      rw [lp_x (show (fun x : Int32 × moS => M_pad_s14 x.2 (nI n) hi x.1) (nI (fulN n - 8), t1) = _ from st)]
      exact last 8 0 rfl t1 m1 hw
    | succ k ih =>
      intro j hj hjn t1 m1 hw
      have n7 : t1.N 157 = 832 := (m1.2 157 (Or.inr (by decide))).trans h7
      have st : M_pad_s14 t1 (nI n) hi (nI j) = some (.inl (nI (j + 1), moSI t1 157 j 0)) := by
        unfold M_pad_s14
        have ne : nI (j % 64) ≠ 56 := fun z => by
          have := congrArg Int32.toNatClampNeg z
          rw [nI_clamp (by omega)] at this
          change j % 64 = 56 at this
          omega
        rw [rm64 _ (by omega), if_neg ne, nI_1]
        exact (sw_I n7 (by omega) (by decide)).trans rfl
      rw [lp_l (show (fun x : Int32 × moS => M_pad_s14 x.2 (nI n) hi x.1) (nI j, t1) = _ from st)]
      refine ih (j + 1) (by omega) (by omega) _ (m1.tr (mfr.si (by decide))) fun i hi => ?_
      rw [moSI_s]
      by_cases c : i = j
      · rw [c, upd_s]
        unfold pdF
        rw [if_neg (by omega), if_neg (by omega), if_pos (by omega)]
      · rw [upd_n c]; exact hw i (by omega)
  unfold M_pad M_pad_b14
  rw [show nI n + 1 = nI (n + 1) from nI_1 n]
  obtain ⟨t', g⟩ := mid (fulN n - 8 - (n + 1)) (n + 1) (by omega) (by omega) (moSI t 157 n 128) (mfr.si (by decide)) fun i hi => by
    rw [moSI_s]
    unfold pdF
    by_cases c : i = n
    · rw [c, upd_s, if_neg (by omega), if_pos rfl]
    · rw [upd_n c, if_pos (by omega)]; exact hB i (by omega)
  exact ⟨t', (sw_I h7 (by omega) (by decide)).trans g.1, g.2⟩
theorem q5g_m (t : moS) : ∀ i, i < 5 → q5g (mst t) i = t.I 159 i := by
  intro i hi
  have : i = 0 ∨ i = 1 ∨ i = 2 ∨ i = 3 ∨ i = 4 := by omega
  rcases this with rfl | rfl | rfl | rfl | rfl <;> rfl
theorem dv4 : ∀ k, k < 20 → nI k / 4 = nI (k / 4) ∧ rem_I (nI k) 4 = nI (k % 4) := by decide +kernel
theorem m_digR (h7 : t.N 157 = 832) (h8 : t.N 158 = 80) (h9 : t.N 159 = 5) (h0 : t.N 160 = 20) (hn : n < 704) (hh : hi = 0 ∨ hi = 1) (hB : ∀ i, i < n → t.I 157 i = B i) : ∃ t', M_digest t (nI n) hi = some t' ∧ mfr [157, 158, 159, 160] t t' ∧ ∀ k, k < (if hi = 0 then 16 else 20) → t'.I 160 k = sbB hi (dgR hi B n) k := by
  obtain ⟨f1, f2, f3⟩ := ful_b (n := n)
  -- the bytes of the sum
  have last : ∀ k j, j + k = (if hi = 0 then 16 else 20) → ∀ t0 t1, mfr [157, 158, 159, 160] t t0 → mst t0 = dgR hi B n → mfr [160] t0 t1 → (∀ i, i < j → t1.I 160 i = sbB hi (dgR hi B n) i) → ∃ t', lp (fun x : Int32 × moS => M_digest_s89 x.2 hi x.1) (nI j, t1) = some t' ∧ mfr [157, 158, 159, 160] t t' ∧ ∀ k, k < (if hi = 0 then 16 else 20) → t'.I 160 k = sbB hi (dgR hi B n) k := by
    intro k
    induction k with
    | zero =>
      intro j hj t0 t1 m0 hs m1 hw
      have st : M_digest_s89 t1 hi (nI j) = xo (some t1) := by
        unfold M_digest_s89 M_digest_b102
        by_cases c : hi = 0
        · rw [if_pos c] at hj
          rw [if_pos c, if_neg (show ¬ nI j < 16 from nI_nlt (b := 16) (by omega) (by omega))]
        · rw [if_neg c] at hj
          rw [if_neg c, if_neg (show ¬ nI j < 20 from nI_nlt (b := 20) (by omega) (by omega))]
      rw [lp_x (show (fun x : Int32 × moS => M_digest_s89 x.2 hi x.1) (nI j, t1) = _ from st)]
      exact ⟨t1, rfl, m0.tr (m1.wk (by decide)), fun k hk => hw k (by omega)⟩
    | succ k ih =>
      intro j hj t0 t1 m0 hs m1 hw
      have hj20 : j < 20 := by
        split at hj <;> omega
      have n9 : t1.N 159 = 5 := (m1.2 159 (Or.inr (by decide))).trans ((m0.2 159 (Or.inr (by decide))).trans h9)
      have n0 : t1.N 160 = 20 := (m1.2 160 (Or.inr (by decide))).trans ((m0.2 160 (Or.inr (by decide))).trans h0)
      have e9 : t1.I 159 (j / 4) = q5g (dgR hi B n) (j / 4) := by rw [m1.I 159 (by decide), ← q5g_m t0 _ (by omega), hs]
      obtain ⟨d1, d2⟩ := dv4 j hj20
      have st : M_digest_s89 t1 hi (nI j) = some (.inl (nI (j + 1), moSI t1 160 j (sbB hi (dgR hi B n) j))) := by
        unfold M_digest_s89 M_digest_b102 sbB M_digest_b163
        by_cases c : hi = 0
        · rw [if_pos c] at hj
          rw [if_pos c, if_pos (show nI j < 16 from nI_lt (b := 16) (by omega) (by decide)), if_pos c, if_pos c, d1, d2, nI_1]
          refine (sr_I n9 (by omega) (by decide)).trans ?_
          rw [e9]
          exact (sw_I n0 (by omega) (by decide)).trans rfl
        · rw [if_neg c] at hj
          rw [if_neg c, if_pos (show nI j < 20 from nI_lt (b := 20) (by omega) (by decide)), if_neg c, if_neg c, d1, d2, nI_1]
          refine (sr_I n9 (by omega) (by decide)).trans ?_
          rw [e9]
          exact (sw_I n0 (by omega) (by decide)).trans rfl
      rw [lp_l (show (fun x : Int32 × moS => M_digest_s89 x.2 hi x.1) (nI j, t1) = _ from st)]
      refine ih (j + 1) (by omega) t0 _ m0 hs (m1.tr (mfr.si (by decide))) fun i hi => ?_
      rw [moSI_s]
      by_cases c : i = j
      · rw [c, upd_s]
      · rw [upd_n c]; exact hw i (by omega)
  -- the blocks
  have mid : ∀ k j, j + k = fulN n / 64 → ∀ t1, mfr [157, 158, 159, 160] t t1 → (∀ i, i < fulN n → t1.I 157 i = pdF B n hi i) → mst t1 = (if hi = 0 then dg5 (pdF B n 0) j else dgH (pdF B n 1) j) → ∃ t', lp (fun x : Int32 × moS => M_digest_s55 x.2 hi (nI (fulN n)) x.1) (nI (64 * j), t1) = some t' ∧ mfr [157, 158, 159, 160] t t' ∧ ∀ k, k < (if hi = 0 then 16 else 20) → t'.I 160 k = sbB hi (dgR hi B n) k := by
    intro k
    induction k with
    | zero =>
      intro j hj t1 m1 hp hs
      have hj : 64 * j = fulN n := by omega
      have st : M_digest_s55 t1 hi (nI (fulN n)) (nI (64 * j)) = xo (M_digest_b89 t1 hi 0) := by
        unfold M_digest_s55
        rw [if_neg (nI_nlt (by omega) (by omega))]
      rw [lp_x (show (fun x : Int32 × moS => M_digest_s55 x.2 hi (nI (fulN n)) x.1) (nI (64 * j), t1) = _ from st)]
      refine last (if hi = 0 then 16 else 20) 0 (Nat.zero_add _) t1 t1 m1 ?_ mfr.rf (fun i hi => absurd hi (Nat.not_lt_zero i))
      unfold dgR
      rw [hs, show j = fulN n / 64 by omega]
    | succ k ih =>
      intro j hj t1 m1 hp hs
      have n7 : t1.N 157 = 832 := (m1.2 157 (Or.inr (by decide))).trans h7
      have n8 : t1.N 158 = 80 := (m1.2 158 (Or.inr (by decide))).trans h8
      have n9 : t1.N 159 = 5 := (m1.2 159 (Or.inr (by decide))).trans h9
      have lt : nI (64 * j) < nI (fulN n) := nI_lt (by omega) (by omega)
      have e64 : nI (64 * j) + 64 = nI (64 * (j + 1)) := nI_add (64 * j) 64
      by_cases c : hi = 0
      · obtain ⟨t2, g1, g2, g3⟩ := m_md5B (B := pdF B n hi) (a := 64 * j) n7 n8 n9 (by omega) (fun i h1 h2 => hp i (by omega))
        have st : M_digest_s55 t1 hi (nI (fulN n)) (nI (64 * j)) = some (.inl (nI (64 * (j + 1)), t2)) := by
          unfold M_digest_s55 M_digest_b80
          rw [if_pos lt, if_pos c, g1, e64]
          rfl
        rw [lp_l (show (fun x : Int32 × moS => M_digest_s55 x.2 hi (nI (fulN n)) x.1) (nI (64 * j), t1) = _ from st)]
        refine ih (j + 1) (by omega) t2 (m1.tr (g2.wk (by decide))) (fun i hi => by rw [g2.I 157 (by decide)]; exact hp i hi) ?_
        rw [g3, hs, if_pos c, if_pos c, c]
        rfl
      · have c1 : hi = 1 := hh.resolve_left c
        obtain ⟨t2, g1, g2, g3⟩ := m_shaB (B := pdF B n hi) (a := 64 * j) n7 n8 n9 (by omega) (fun i h1 h2 => hp i (by omega))
        have st : M_digest_s55 t1 hi (nI (fulN n)) (nI (64 * j)) = some (.inl (nI (64 * (j + 1)), t2)) := by
          unfold M_digest_s55 M_digest_b80
          rw [if_pos lt, if_neg c, g1, e64]
          rfl
        rw [lp_l (show (fun x : Int32 × moS => M_digest_s55 x.2 hi (nI (fulN n)) x.1) (nI (64 * j), t1) = _ from st)]
        refine ih (j + 1) (by omega) t2 (m1.tr (g2.wk (by decide))) (fun i hi => by rw [g2.I 157 (by decide)]; exact hp i hi) ?_
        rw [g3, hs, if_neg c, if_neg c, c1]
        rfl
  unfold M_digest
  generalize hts : moSI (moSI (moSI (moSI (moSI t 159 0 1732584193) 159 1 (-271733879)) 159 2 (-1732584194)) 159 3 271733878) 159 4 (-1009589776) = ts
  have mts : mfr [159] t ts := by
    rw [← hts]
    exact ((((mfr.si (by decide)).tr (mfr.si (by decide))).tr (mfr.si (by decide))).tr (mfr.si (by decide))).tr (mfr.si (by decide))
  obtain ⟨t1, g1, g2, g3⟩ := m_pad (t := ts) (hi := hi) (B := B) ((mts.2 157 (Or.inr (by decide))).trans h7) hn hh (fun i hi => by rw [mts.I 157 (by decide)]; exact hB i hi)
  obtain ⟨t', r1, r2⟩ := mid (fulN n / 64) 0 (by omega) t1 ((mts.wk (by decide)).tr (g2.wk (by decide))) g3 (by
    have : mst t1 = mst ts := by unfold mst; rw [g2.I 159 (by decide)]
    rw [this, ← hts]
    split <;> rfl)
  refine ⟨t', ?_, r2⟩
  refine (sw_I (i := 0) h9 (by decide) (by decide)).trans ?_
  refine (sw_I (i := 1) (n := 5) (by exact h9) (by decide) (by decide)).trans ?_
  refine (sw_I (i := 2) (n := 5) (by exact h9) (by decide) (by decide)).trans ?_
  refine (sw_I (i := 3) (n := 5) (by exact h9) (by decide) (by decide)).trans ?_
  refine (sw_I (i := 4) (n := 5) (by exact h9) (by decide) (by decide)).trans ?_
  rw [hts, g1]
  exact r1
end Md
