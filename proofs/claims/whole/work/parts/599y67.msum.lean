/-! The sum that a key makes, in the model. -/
def kySe (z : Nat) (f : Nat → Int32) (k : Nat) : Int32 := if k < z then f k else 0
def kB5 (L : List Int32) (S : Nat → Int32) (i : Nat) : Int32 := if i < L.length then L.getD i 0 else S (i - L.length)
def kBi (L : List Int32) (S : Nat → Int32) (i : Nat) : Int32 := if i < 64 then S i ^^^ 54 else L.getD (i - 64) 0
def kBo (f S : Nat → Int32) (i : Nat) : Int32 := if i < 64 then S i ^^^ 92 else f (i - 64)
/-- the sum's bytes -/
noncomputable def sumP (sha : Int32) (L : List Int32) (S : Nat → Int32) : Nat → Int32 := if sha = 0 then sbB 0 (dgR 0 (kB5 L S) (L.length + 16)) else sbB 1 (dgR 1 (kBo (sbB 1 (dgR 1 (kBi L S) (64 + L.length))) S) 84)
section Ms
variable {t : moS} {L : List Int32} {x z p2 : Nat}
theorem m_secR {k : Nat} (hN : mN t) (hx : x < 96) (h85 : t.I 85 x = nI z) (hz : z ≤ 16) (hk : k < 64) : M_secret t (nI x) (nI k) = some (kySe z (fun i => t.I 86 (16 * x + i)) k) := by
  unfold M_secret kySe
  refine (sr_I (hN.n 85 96) hx (by decide)).trans ?_
  rw [h85]
  by_cases c : k < z
  · rw [if_pos (nI_lt c (by omega)), if_pos c, show (16 : Int32) * nI x + nI k = nI (16 * x + k) by rw [show (16 : Int32) = nI 16 from rfl, pk_mul, nI_add]]
    exact (sr_I (hN.n 86 1536) (by omega) (by decide)).trans rfl
  · rw [if_neg (nI_nlt (by omega) (by omega)), if_neg c]
theorem m_sumOf (hN : mN t) (hx : x < 96) (h84 : bit (t.I 84 x)) (h85 : t.I 85 x = nI z) (hz : z ≤ 16) (hp : p2 ∉ [157, 158, 159, 160]) (hpN : t.N p2 = 700) (hL : ∀ i, i < L.length → t.I p2 i = L.getD i 0) (hl : L.length < 640) : ∃ t', M_sumOf t (nI x) p2 (nI L.length) = some t' ∧ mfr [157, 158, 159, 160] t t' ∧ ∀ k, k < (if t.I 84 x = 0 then 16 else 20) → t'.I 160 k = sumP (t.I 84 x) L (kySe z (fun i => t.I 86 (16 * x + i))) k := by
  generalize hS : kySe z (fun i => t.I 86 (16 * x + i)) = S
  have sec : ∀ t1, mfr [157, 158, 159, 160] t t1 → ∀ k, k < 64 → M_secret t1 (nI x) (nI k) = some (S k) := fun t1 m1 k hk => by
    rw [m_secR (z := z) (hN.fr m1 rfl) hx (by rw [m1.I 85 (by decide)]; exact h85) hz hk, ← hS, m1.I 86 (by decide)]
  have nn : ∀ t1, mfr [157, 158, 159, 160] t t1 → t1.N 157 = 832 ∧ t1.N 158 = 80 ∧ t1.N 159 = 5 ∧ t1.N 160 = 20 ∧ t1.N p2 = 700 ∧ ∀ i, i < L.length → t1.I p2 i = L.getD i 0 := fun t1 m1 => by
    have := hN.fr m1 rfl
    exact ⟨this.n 157 832, this.n 158 80, this.n 159 5, this.n 160 20, (m1.2 p2 (Or.inl hp)).trans hpN, fun i hi => by rw [m1.I p2 hp]; exact hL i hi⟩
  have W : ∀ {t1 : moS} {i : Nat} {v : Int32}, mfr [157, 158, 159, 160] t t1 → mfr [157, 158, 159, 160] t (moSI t1 157 i v) := fun m => m.tr (mfr.si (by decide))
  unfold M_sumOf
  rw [rdI_n (hN.n 84 96) hx (by decide)]
  simp only [Option.bind_some]
  by_cases c : t.I 84 x = 0
  · rw [if_pos c]
    simp only [c, if_pos]
    -- md5: the secret behind
    have se : ∀ k j, j + k = 16 → ∀ t1, mfr [157, 158, 159, 160] t t1 → (∀ i, i < L.length + j → t1.I 157 i = kB5 L S i) → ∃ t', lp (fun y : Int32 × moS => M_sumOf_s38 y.2 (nI x) (nI L.length) y.1) (nI j, t1) = some t' ∧ mfr [157, 158, 159, 160] t t' ∧ ∀ k, k < 16 → t'.I 160 k = sumP 0 L S k := by
      intro k
      induction k with
      | zero =>
        intro j hj t1 m1 hw
        have hj : j = 16 := by omega
        subst hj
        obtain ⟨n7, n8, n9, n0, -⟩ := nn t1 m1
        obtain ⟨t', g1, g2, g3⟩ := m_digR (hi := 0) (B := kB5 L S) (n := L.length + 16) n7 n8 n9 n0 (by omega) (Or.inl rfl) hw
        have st : M_sumOf_s38 t1 (nI x) (nI L.length) (nI 16) = xo (some t') := by
          unfold M_sumOf_s38
          rw [if_neg (by decide), show nI L.length + 16 = nI (L.length + 16) from nI_add _ 16, g1]
          rfl
        rw [lp_x (show (fun y : Int32 × moS => M_sumOf_s38 y.2 (nI x) (nI L.length) y.1) (nI 16, t1) = _ from st)]
        exact ⟨t', rfl, m1.tr g2, fun k hk => g3 k hk⟩
      | succ k ih =>
        intro j hj t1 m1 hw
        obtain ⟨n7, -⟩ := nn t1 m1
        have st : M_sumOf_s38 t1 (nI x) (nI L.length) (nI j) = some (.inl (nI (j + 1), moSI t1 157 (L.length + j) (S j))) := by
          unfold M_sumOf_s38
          rw [if_pos (show nI j < 16 from nI_lt (b := 16) (by omega) (by decide)), sec t1 m1 j (by omega)]
          simp only [Option.bind_some]
          rw [nI_add, nI_1]
          exact (sw_I n7 (by omega) (by decide)).trans rfl
        rw [lp_l (show (fun y : Int32 × moS => M_sumOf_s38 y.2 (nI x) (nI L.length) y.1) (nI j, t1) = _ from st)]
        refine ih (j + 1) (by omega) _ (W m1) fun i hi => ?_
        rw [moSI_s]
        by_cases e : i = L.length + j
        · rw [e, upd_s]
          unfold kB5
          rw [if_neg (by omega), Nat.add_sub_cancel_left]
        · rw [upd_n e]; exact hw i (by omega)
    have cp : ∀ k j, j + k = L.length → ∀ t1, mfr [157, 158, 159, 160] t t1 → (∀ i, i < j → t1.I 157 i = kB5 L S i) → ∃ t', lp (fun y : Int32 × moS => M_sumOf_s12 y.2 (nI x) p2 (nI L.length) y.1) (nI j, t1) = some t' ∧ mfr [157, 158, 159, 160] t t' ∧ ∀ k, k < 16 → t'.I 160 k = sumP 0 L S k := by
      intro k
      induction k with
      | zero =>
        intro j hj t1 m1 hw
        have st : M_sumOf_s12 t1 (nI x) p2 (nI L.length) (nI j) = xo (M_sumOf_b38 t1 (nI x) (nI L.length) 0) := by
          unfold M_sumOf_s12
          rw [if_neg (nI_nlt (by omega) (by omega))]
        rw [lp_x (show (fun y : Int32 × moS => M_sumOf_s12 y.2 (nI x) p2 (nI L.length) y.1) (nI j, t1) = _ from st)]
        exact se 16 0 rfl t1 m1 (fun i hi => hw i (by omega))
      | succ k ih =>
        intro j hj t1 m1 hw
        obtain ⟨n7, -, -, -, np, hl1⟩ := nn t1 m1
        have st : M_sumOf_s12 t1 (nI x) p2 (nI L.length) (nI j) = some (.inl (nI (j + 1), moSI t1 157 j (L.getD j 0))) := by
          unfold M_sumOf_s12
          rw [if_pos (nI_lt (by omega) (by omega)), rdI_n np (by omega) (by decide), hl1 j (by omega), nI_1]
          simp only [Option.bind_some]
          exact (sw_I n7 (by omega) (by decide)).trans rfl
        rw [lp_l (show (fun y : Int32 × moS => M_sumOf_s12 y.2 (nI x) p2 (nI L.length) y.1) (nI j, t1) = _ from st)]
        refine ih (j + 1) (by omega) _ (W m1) fun i hi => ?_
        rw [moSI_s]
        by_cases e : i = j
        · rw [e, upd_s]
          unfold kB5
          rw [if_pos (by omega)]
        · rw [upd_n e]; exact hw i (by omega)
    exact cp L.length 0 (by omega) t mfr.rf (fun i hi => absurd hi (Nat.not_lt_zero i))
  · have c1 : t.I 84 x = 1 := h84.resolve_left c
    rw [if_neg c]
    simp only [c1]
    rw [if_neg (by decide)]
    -- sha: the last digest
    have e4 : ∀ k j, j + k = 20 → ∀ t1, mfr [157, 158, 159, 160] t t1 → (∀ i, i < 20 → t1.I 160 i = sbB 1 (dgR 1 (kBi L S) (64 + L.length)) i) → (∀ i, i < 64 + j → t1.I 157 i = kBo (sbB 1 (dgR 1 (kBi L S) (64 + L.length))) S i) → ∃ t', lp (fun y : Int32 × moS => M_sumOf_s184 y.2 y.1) (nI j, t1) = some t' ∧ mfr [157, 158, 159, 160] t t' ∧ ∀ k, k < 20 → t'.I 160 k = sumP 1 L S k := by
      intro k
      induction k with
      | zero =>
        intro j hj t1 m1 h160 hw
        have hj : j = 20 := by omega
        subst hj
        obtain ⟨n7, n8, n9, n0, -⟩ := nn t1 m1
        obtain ⟨t', g1, g2, g3⟩ := m_digR (hi := 1) (B := kBo (sbB 1 (dgR 1 (kBi L S) (64 + L.length))) S) (n := 84) n7 n8 n9 n0 (by omega) (Or.inr rfl) hw
        have st : M_sumOf_s184 t1 (nI 20) = xo (some t') := by
          unfold M_sumOf_s184
          rw [if_neg (by decide), show (84 : Int32) = nI 84 from rfl, g1]
          rfl
        rw [lp_x (show (fun y : Int32 × moS => M_sumOf_s184 y.2 y.1) (nI 20, t1) = _ from st)]
        exact ⟨t', rfl, m1.tr g2, fun k hk => g3 k hk⟩
      | succ k ih =>
        intro j hj t1 m1 h160 hw
        obtain ⟨n7, -, -, n0, -⟩ := nn t1 m1
        have st : M_sumOf_s184 t1 (nI j) = some (.inl (nI (j + 1), moSI t1 157 (64 + j) (sbB 1 (dgR 1 (kBi L S) (64 + L.length)) j))) := by
          unfold M_sumOf_s184
          rw [if_pos (show nI j < 20 from nI_lt (b := 20) (by omega) (by decide)), rdI_n n0 (by omega) (by decide), h160 j (by omega), show (64 : Int32) + nI j = nI (64 + j) from nI_add 64 j, nI_1]
          simp only [Option.bind_some]
          exact (sw_I n7 (by omega) (by decide)).trans rfl
        rw [lp_l (show (fun y : Int32 × moS => M_sumOf_s184 y.2 y.1) (nI j, t1) = _ from st)]
        refine ih (j + 1) (by omega) _ (W m1) (fun i hi => by rw [moSI_n (by decide)]; exact h160 i hi) fun i hi => ?_
        rw [moSI_s]
        by_cases e : i = 64 + j
        · rw [e, upd_s]
          unfold kBo
          rw [if_neg (by omega), Nat.add_sub_cancel_left]
        · rw [upd_n e]; exact hw i (by omega)
    have e3 : ∀ k j, j + k = 64 → ∀ t1, mfr [157, 158, 159, 160] t t1 → (∀ i, i < 20 → t1.I 160 i = sbB 1 (dgR 1 (kBi L S) (64 + L.length)) i) → (∀ i, i < j → t1.I 157 i = kBo (sbB 1 (dgR 1 (kBi L S) (64 + L.length))) S i) → ∃ t', lp (fun y : Int32 × moS => M_sumOf_s151 y.2 (nI x) y.1) (nI j, t1) = some t' ∧ mfr [157, 158, 159, 160] t t' ∧ ∀ k, k < 20 → t'.I 160 k = sumP 1 L S k := by
      intro k
      induction k with
      | zero =>
        intro j hj t1 m1 h160 hw
        have hj : j = 64 := by omega
        subst hj
        have st : M_sumOf_s151 t1 (nI x) (nI 64) = xo (M_sumOf_b184 t1 0) := by
          unfold M_sumOf_s151
          rw [if_neg (by decide)]
        rw [lp_x (show (fun y : Int32 × moS => M_sumOf_s151 y.2 (nI x) y.1) (nI 64, t1) = _ from st)]
        exact e4 20 0 rfl t1 m1 h160 hw
      | succ k ih =>
        intro j hj t1 m1 h160 hw
        obtain ⟨n7, -⟩ := nn t1 m1
        have st : M_sumOf_s151 t1 (nI x) (nI j) = some (.inl (nI (j + 1), moSI t1 157 j (S j ^^^ 92))) := by
          unfold M_sumOf_s151
          rw [if_pos (show nI j < 64 from nI_lt (b := 64) (by omega) (by decide)), sec t1 m1 j (by omega), nI_1]
          simp only [Option.bind_some]
          exact (sw_I n7 (by omega) (by decide)).trans rfl
        rw [lp_l (show (fun y : Int32 × moS => M_sumOf_s151 y.2 (nI x) y.1) (nI j, t1) = _ from st)]
        refine ih (j + 1) (by omega) _ (W m1) (fun i hi => by rw [moSI_n (by decide)]; exact h160 i hi) fun i hi => ?_
        rw [moSI_s]
        by_cases e : i = j
        · rw [e, upd_s]
          unfold kBo
          rw [if_pos (by omega)]
        · rw [upd_n e]; exact hw i (by omega)
    have e2 : ∀ k j, j + k = L.length → ∀ t1, mfr [157, 158, 159, 160] t t1 → (∀ i, i < 64 + j → t1.I 157 i = kBi L S i) → ∃ t', lp (fun y : Int32 × moS => M_sumOf_s113 y.2 (nI x) p2 (nI L.length) y.1) (nI j, t1) = some t' ∧ mfr [157, 158, 159, 160] t t' ∧ ∀ k, k < 20 → t'.I 160 k = sumP 1 L S k := by
      intro k
      induction k with
      | zero =>
        intro j hj t1 m1 hw
        obtain ⟨n7, n8, n9, n0, -⟩ := nn t1 m1
        obtain ⟨t2, g1, g2, g3⟩ := m_digR (hi := 1) (B := kBi L S) (n := 64 + L.length) n7 n8 n9 n0 (by omega) (Or.inr rfl) (fun i hi => hw i (by omega))
        have st : M_sumOf_s113 t1 (nI x) p2 (nI L.length) (nI j) = xo (M_sumOf_b151 t2 (nI x) 0) := by
          unfold M_sumOf_s113
          rw [if_neg (nI_nlt (by omega) (by omega)), show (64 : Int32) + nI L.length = nI (64 + L.length) from nI_add 64 _, g1]
          rfl
        rw [lp_x (show (fun y : Int32 × moS => M_sumOf_s113 y.2 (nI x) p2 (nI L.length) y.1) (nI j, t1) = _ from st)]
        exact e3 64 0 rfl t2 (m1.tr g2) (fun i hi => g3 i hi) (fun i hi => absurd hi (Nat.not_lt_zero i))
      | succ k ih =>
        intro j hj t1 m1 hw
        obtain ⟨n7, -, -, -, np, hl1⟩ := nn t1 m1
        have st : M_sumOf_s113 t1 (nI x) p2 (nI L.length) (nI j) = some (.inl (nI (j + 1), moSI t1 157 (64 + j) (L.getD j 0))) := by
          unfold M_sumOf_s113
          rw [if_pos (nI_lt (by omega) (by omega)), rdI_n np (by omega) (by decide), hl1 j (by omega), show (64 : Int32) + nI j = nI (64 + j) from nI_add 64 j, nI_1]
          simp only [Option.bind_some]
          exact (sw_I n7 (by omega) (by decide)).trans rfl
        rw [lp_l (show (fun y : Int32 × moS => M_sumOf_s113 y.2 (nI x) p2 (nI L.length) y.1) (nI j, t1) = _ from st)]
        refine ih (j + 1) (by omega) _ (W m1) fun i hi => ?_
        rw [moSI_s]
        by_cases e : i = 64 + j
        · rw [e, upd_s]
          unfold kBi
          rw [if_neg (by omega), Nat.add_sub_cancel_left]
        · rw [upd_n e]; exact hw i (by omega)
    have e1 : ∀ k j, j + k = 64 → ∀ t1, mfr [157, 158, 159, 160] t t1 → (∀ i, i < j → t1.I 157 i = kBi L S i) → ∃ t', lp (fun y : Int32 × moS => M_sumOf_s80 y.2 (nI x) p2 (nI L.length) y.1) (nI j, t1) = some t' ∧ mfr [157, 158, 159, 160] t t' ∧ ∀ k, k < 20 → t'.I 160 k = sumP 1 L S k := by
      intro k
      induction k with
      | zero =>
        intro j hj t1 m1 hw
        have hj : j = 64 := by omega
        subst hj
        have st : M_sumOf_s80 t1 (nI x) p2 (nI L.length) (nI 64) = xo (M_sumOf_b113 t1 (nI x) p2 (nI L.length) 0) := by
          unfold M_sumOf_s80
          rw [if_neg (by decide)]
        rw [lp_x (show (fun y : Int32 × moS => M_sumOf_s80 y.2 (nI x) p2 (nI L.length) y.1) (nI 64, t1) = _ from st)]
        exact e2 L.length 0 (by omega) t1 m1 hw
      | succ k ih =>
        intro j hj t1 m1 hw
        obtain ⟨n7, -⟩ := nn t1 m1
        have st : M_sumOf_s80 t1 (nI x) p2 (nI L.length) (nI j) = some (.inl (nI (j + 1), moSI t1 157 j (S j ^^^ 54))) := by
          unfold M_sumOf_s80
          rw [if_pos (show nI j < 64 from nI_lt (b := 64) (by omega) (by decide)), sec t1 m1 j (by omega), nI_1]
          simp only [Option.bind_some]
          exact (sw_I n7 (by omega) (by decide)).trans rfl
        rw [lp_l (show (fun y : Int32 × moS => M_sumOf_s80 y.2 (nI x) p2 (nI L.length) y.1) (nI j, t1) = _ from st)]
        refine ih (j + 1) (by omega) _ (W m1) fun i hi => ?_
        rw [moSI_s]
        by_cases e : i = j
        · rw [e, upd_s]
          unfold kBi
          rw [if_pos (by omega)]
        · rw [upd_n e]; exact hw i (by omega)
    exact e1 64 0 rfl t mfr.rf (fun i hi => absurd hi (Nat.not_lt_zero i))
end Ms
