/-! The gap of an address of six, in the class. -/
theorem L_toNat (n : Nat) : (Int64.ofNat n).toBitVec.toNat = n % 2 ^ 64 := BitVec.toNat_ofNat n 64
theorem L_and {A : Nat} (hA : A < 2 ^ 64) (m : Nat) (hm : m ≤ 64) : Int64.ofNat A &&& Int64.ofNat (2 ^ m - 1) = Int64.ofNat (A % 2 ^ m) := by
  have h2 : 2 ^ m ≤ 2 ^ 64 := Nat.pow_le_pow_right (by decide) hm
  refine Int64.toBitVec_inj.mp (BitVec.eq_of_toNat_eq ?_)
  have h3 : A % 2 ^ m < 2 ^ m := Nat.mod_lt _ (Nat.two_pow_pos m)
  rw [Int64.toBitVec_and, BitVec.toNat_and, L_toNat, L_toNat, L_toNat, Nat.mod_eq_of_lt hA, Nat.mod_eq_of_lt (show 2 ^ m - 1 < 2 ^ 64 by have := Nat.two_pow_pos m; omega), Nat.and_two_pow_sub_one_eq_mod, Nat.mod_eq_of_lt (show A % 2 ^ m < 2 ^ 64 by omega)]
theorem xor_low (A j : Nat) : A ^^^ (A % 2 ^ j) = A - A % 2 ^ j := by
  have e : A - A % 2 ^ j = (A >>> j) <<< j := by
    rw [Nat.shiftLeft_eq, Nat.shiftRight_eq_div_pow]
    have := Nat.div_add_mod A (2 ^ j)
    rw [Nat.mul_comm] at this
    omega
  rw [e]
  apply Nat.eq_of_testBit_eq
  intro i
  rw [Nat.testBit_xor, Nat.testBit_mod_two_pow, Nat.testBit_shiftLeft, Nat.testBit_shiftRight]
  by_cases c : i < j
  · simp [c]
    intro h
    omega
  · have : j + (i - j) = i := by omega
    rw [this]
    simp [c]
    omega
theorem L_xor {A : Nat} (hA : A < 2 ^ 64) (j : Nat) : Int64.ofNat A ^^^ Int64.ofNat (A % 2 ^ j) = Int64.ofNat (A - A % 2 ^ j) := by
  refine Int64.toBitVec_inj.mp (BitVec.eq_of_toNat_eq ?_)
  have h3 : A % 2 ^ j ≤ A := Nat.mod_le _ _
  rw [Int64.toBitVec_xor, BitVec.toNat_xor, L_toNat, L_toNat, L_toNat, Nat.mod_eq_of_lt hA, Nat.mod_eq_of_lt (show A % 2 ^ j < 2 ^ 64 by omega), Nat.mod_eq_of_lt (show A - A % 2 ^ j < 2 ^ 64 by omega), xor_low]
theorem L_or {A D : Nat} (m : Nat) (hA : A + D < 2 ^ 64) (h0 : A % 2 ^ m = 0) (hD : D < 2 ^ m) : Int64.ofNat A ||| Int64.ofNat D = Int64.ofNat (A + D) := by
  refine Int64.toBitVec_inj.mp (BitVec.eq_of_toNat_eq ?_)
  rw [Int64.toBitVec_or, BitVec.toNat_or, L_toNat, L_toNat, L_toNat, Nat.mod_eq_of_lt (show A < 2 ^ 64 by omega), Nat.mod_eq_of_lt (show D < 2 ^ 64 by omega), Nat.mod_eq_of_lt hA]
  have e : A = (A / 2 ^ m) <<< m := by
    rw [Nat.shiftLeft_eq]
    have := Nat.div_add_mod A (2 ^ m)
    rw [Nat.mul_comm] at this
    omega
  rw [e, ← Nat.shiftLeft_add_eq_or_of_lt hD]
theorem p16 (k : Nat) : (65536 : Nat) ^ k = 2 ^ (16 * k) := by rw [Nat.pow_mul]
/-- the tail of k groups, by the masks -/
theorem L_tail {V k : Nat} (hV : V < 2 ^ 128) (hk : k ≤ 7) : Int64.ofNat (V / 2 ^ 64) &&& (mskH (128 - 16 * nI k) ^^^ -1) = Int64.ofNat ((V % 65536 ^ k) / 2 ^ 64) ∧ Int64.ofNat (V % 2 ^ 64) &&& (mskL (128 - 16 * nI k) ^^^ -1) = Int64.ofNat ((V % 65536 ^ k) % 2 ^ 64) := by
  have h1 : V / 2 ^ 64 < 2 ^ 64 := by omega
  have h2 : V % 2 ^ 64 < 2 ^ 64 := Nat.mod_lt _ (by decide)
  have g : ∀ (m1 m2 : Nat), m1 ≤ 64 → m2 ≤ 64 → mskH (128 - 16 * nI k) ^^^ -1 = Int64.ofNat (2 ^ m1 - 1) → mskL (128 - 16 * nI k) ^^^ -1 = Int64.ofNat (2 ^ m2 - 1) → V / 2 ^ 64 % 2 ^ m1 = (V % 65536 ^ k) / 2 ^ 64 → V % 2 ^ 64 % 2 ^ m2 = (V % 65536 ^ k) % 2 ^ 64 → Int64.ofNat (V / 2 ^ 64) &&& (mskH (128 - 16 * nI k) ^^^ -1) = Int64.ofNat ((V % 65536 ^ k) / 2 ^ 64) ∧ Int64.ofNat (V % 2 ^ 64) &&& (mskL (128 - 16 * nI k) ^^^ -1) = Int64.ofNat ((V % 65536 ^ k) % 2 ^ 64) := by
    intro m1 m2 a1 a2 a3 a4 a5 a6
    rw [a3, a4, L_and h1 m1 a1, L_and h2 m2 a2, a5, a6]
    exact ⟨rfl, rfl⟩
  rcases (show k = 0 ∨ k = 1 ∨ k = 2 ∨ k = 3 ∨ k = 4 ∨ k = 5 ∨ k = 6 ∨ k = 7 by omega) with rfl | rfl | rfl | rfl | rfl | rfl | rfl | rfl
  · exact g 0 0 (by decide) (by decide) (by decide) (by decide) (by omega) (by omega)
  · exact g 0 16 (by decide) (by decide) (by decide) (by decide) (by omega) (by omega)
  · exact g 0 32 (by decide) (by decide) (by decide) (by decide) (by omega) (by omega)
  · exact g 0 48 (by decide) (by decide) (by decide) (by decide) (by omega) (by omega)
  · exact g 0 64 (by decide) (by decide) (by decide) (by decide) (by omega) (by omega)
  · exact g 16 64 (by decide) (by decide) (by decide) (by decide) (by omega) (by omega)
  · exact g 32 64 (by decide) (by decide) (by decide) (by decide) (by omega) (by omega)
  · exact g 48 64 (by decide) (by decide) (by decide) (by decide) (by omega) (by omega)
/-- without the tail -/
theorem L_head {V k : Nat} (hV : V < 2 ^ 128) (hk : k ≤ 7) : Int64.ofNat (V / 2 ^ 64) ^^^ Int64.ofNat ((V % 65536 ^ k) / 2 ^ 64) = Int64.ofNat ((V - V % 65536 ^ k) / 2 ^ 64) ∧ Int64.ofNat (V % 2 ^ 64) ^^^ Int64.ofNat ((V % 65536 ^ k) % 2 ^ 64) = Int64.ofNat ((V - V % 65536 ^ k) % 2 ^ 64) := by
  have h1 : V / 2 ^ 64 < 2 ^ 64 := by omega
  have h2 : V % 2 ^ 64 < 2 ^ 64 := Nat.mod_lt _ (by decide)
  have g : ∀ (m1 m2 : Nat), V / 2 ^ 64 % 2 ^ m1 = (V % 65536 ^ k) / 2 ^ 64 → V % 2 ^ 64 % 2 ^ m2 = (V % 65536 ^ k) % 2 ^ 64 → V / 2 ^ 64 - V / 2 ^ 64 % 2 ^ m1 = (V - V % 65536 ^ k) / 2 ^ 64 → V % 2 ^ 64 - V % 2 ^ 64 % 2 ^ m2 = (V - V % 65536 ^ k) % 2 ^ 64 → Int64.ofNat (V / 2 ^ 64) ^^^ Int64.ofNat ((V % 65536 ^ k) / 2 ^ 64) = Int64.ofNat ((V - V % 65536 ^ k) / 2 ^ 64) ∧ Int64.ofNat (V % 2 ^ 64) ^^^ Int64.ofNat ((V % 65536 ^ k) % 2 ^ 64) = Int64.ofNat ((V - V % 65536 ^ k) % 2 ^ 64) := by
    intro m1 m2 a1 a2 a3 a4
    rw [← a1, ← a2, ← a3, ← a4, L_xor h1 m1, L_xor h2 m2]
    exact ⟨rfl, rfl⟩
  rcases (show k = 0 ∨ k = 1 ∨ k = 2 ∨ k = 3 ∨ k = 4 ∨ k = 5 ∨ k = 6 ∨ k = 7 by omega) with rfl | rfl | rfl | rfl | rfl | rfl | rfl | rfl
  · exact g 0 0 (by omega) (by omega) (by omega) (by omega)
  · exact g 0 16 (by omega) (by omega) (by omega) (by omega)
  · exact g 0 32 (by omega) (by omega) (by omega) (by omega)
  · exact g 0 48 (by omega) (by omega) (by omega) (by omega)
  · exact g 0 64 (by omega) (by omega) (by omega) (by omega)
  · exact g 16 64 (by omega) (by omega) (by omega) (by omega)
  · exact g 32 64 (by omega) (by omega) (by omega) (by omega)
  · exact g 48 64 (by omega) (by omega) (by omega) (by omega)
/-- the tail, put back -/
theorem L_back {V D k : Nat} (hV : V < 2 ^ 128) (hk : k ≤ 7) (h0 : V % 65536 ^ k = 0) (hD : D < 65536 ^ k) : Int64.ofNat (V / 2 ^ 64) ||| Int64.ofNat (D / 2 ^ 64) = Int64.ofNat ((V + D) / 2 ^ 64) ∧ Int64.ofNat (V % 2 ^ 64) ||| Int64.ofNat (D % 2 ^ 64) = Int64.ofNat ((V + D) % 2 ^ 64) ∧ V + D < 2 ^ 128 := by
  have g : ∀ (m1 m2 : Nat), V / 2 ^ 64 + D / 2 ^ 64 < 2 ^ 64 → V % 2 ^ 64 + D % 2 ^ 64 < 2 ^ 64 → V / 2 ^ 64 % 2 ^ m1 = 0 → V % 2 ^ 64 % 2 ^ m2 = 0 → D / 2 ^ 64 < 2 ^ m1 → D % 2 ^ 64 < 2 ^ m2 → Int64.ofNat (V / 2 ^ 64) ||| Int64.ofNat (D / 2 ^ 64) = Int64.ofNat ((V + D) / 2 ^ 64) ∧ Int64.ofNat (V % 2 ^ 64) ||| Int64.ofNat (D % 2 ^ 64) = Int64.ofNat ((V + D) % 2 ^ 64) ∧ V + D < 2 ^ 128 := by
    intro m1 m2 a1 a2 a3 a4 a5 a6
    rw [L_or m1 a1 a3 a5, L_or m2 a2 a4 a6]
    exact ⟨by congr 1; omega, by congr 1; omega, by omega⟩
  rcases (show k = 0 ∨ k = 1 ∨ k = 2 ∨ k = 3 ∨ k = 4 ∨ k = 5 ∨ k = 6 ∨ k = 7 by omega) with rfl | rfl | rfl | rfl | rfl | rfl | rfl | rfl
  · exact g 0 0 (by omega) (by omega) (by omega) (by omega) (by omega) (by omega)
  · exact g 0 16 (by omega) (by omega) (by omega) (by omega) (by omega) (by omega)
  · exact g 0 32 (by omega) (by omega) (by omega) (by omega) (by omega) (by omega)
  · exact g 0 48 (by omega) (by omega) (by omega) (by omega) (by omega) (by omega)
  · exact g 0 64 (by omega) (by omega) (by omega) (by omega) (by omega) (by omega)
  · exact g 16 64 (by omega) (by omega) (by omega) (by omega) (by omega) (by omega)
  · exact g 32 64 (by omega) (by omega) (by omega) (by omega) (by omega) (by omega)
  · exact g 48 64 (by omega) (by omega) (by omega) (by omega) (by omega) (by omega)
section Gap
variable {sa : Nat → Nat} {x kc ks : Nat} {s : cS} {Q : Int32 → cS → Nat → Nat → Prop}
theorem w_mh {n : Int32} {Q : Int64 → cS → Nat → Nat → Prop} (k : Q (mskH n) s kc ks) : C_Pr_maskHigh sa n s kc ks Q := by
  unfold C_Pr_maskHigh
  unfold mskH at k
  by_cases c : 0 < n
  · refine ifT c ?_
    rw [if_pos c] at k
    by_cases c2 : n < 64
    · rw [if_pos c2] at k; exact ifT c2 k
    · rw [if_neg c2] at k; exact ifF c2 k
  · rw [if_neg c] at k; exact ifF c k
theorem w_ml {n : Int32} {Q : Int64 → cS → Nat → Nat → Prop} (k : Q (mskL n) s kc ks) : C_Pr_maskLow sa n s kc ks Q := by
  unfold C_Pr_maskLow
  unfold mskL at k
  by_cases c : 64 < n
  · refine ifT c ?_
    rw [if_pos c] at k
    by_cases c2 : n < 128
    · rw [if_pos c2] at k; exact ifT c2 k
    · rw [if_neg c2] at k; exact ifF c2 k
  · rw [if_neg c] at k; exact ifF c k
/-- zeros between the head and a tail of n groups -/
theorem w_gap {V n z : Nat} (hx : okO s 5 x) (h : HV s x V) (hn : n ≤ 7) (hz : z ≤ 8) (hV : V < 65536 ^ (8 - z)) (k : ∀ s', fp x s s' → HV s' x (65536 ^ z * (V - V % 65536 ^ n) + V % 65536 ^ n) → Q 1 s' kc ks) : C_Pr_openGap sa x (nI n) (nI z) s kc ks Q := by
  obtain ⟨h0, h1, h2, h3, h4⟩ := h
  obtain ⟨t1, t2⟩ := L_tail (k := n) h0 hn
  obtain ⟨d1, d2⟩ := L_head (k := n) h0 hn
  have hle : V % 65536 ^ n ≤ V := Nat.mod_le _ _
  have hD : V % 65536 ^ n < 65536 ^ n := Nat.mod_lt _ (Nat.pow_pos (by decide))
  have hdv : (V - V % 65536 ^ n) % 65536 ^ n = 0 := by
    have e := Nat.div_add_mod V (65536 ^ n)
    rw [show V - V % 65536 ^ n = 65536 ^ n * (V / 65536 ^ n) by omega]
    exact Nat.mul_mod_right _ _
  generalize hD' : V % 65536 ^ n = D at *
  generalize hW : V - D = W at *
  unfold C_Pr_openGap
  refine ⟨_, gd_to hx, w_mh ⟨_, gd_to hx, w_ml ⟨_, gd_to hx, _, gd_to hx, _, gd_to hx, _, gd_to hx, ?_⟩⟩⟩
  show C_Pr_openGap_b67 sa x (nI z) (s.J 101 x &&& (mskH (128 - 16 * nI n) ^^^ -1)) (s.J 102 x &&& (mskL (128 - 16 * nI n) ^^^ -1)) 0 (cSJ (cSJ s 101 x (s.J 101 x ^^^ (s.J 101 x &&& (mskH (128 - 16 * nI n) ^^^ -1)))) 102 x ((cSJ s 101 x (s.J 101 x ^^^ (s.J 101 x &&& (mskH (128 - 16 * nI n) ^^^ -1)))).J 102 x ^^^ (s.J 102 x &&& (mskL (128 - 16 * nI n) ^^^ -1)))) kc ks Q
  rw [cSJ_g (show (102 : Nat) ≠ 101 by decide), h1, h2, t1, t2, d1, d2]
  unfold C_Pr_openGap_b67
  intro P hP
  have loop : ∀ (q j : Nat) (s' : cS), j + q = z → fp x s s' → HV s' x (65536 ^ j * W) → P (nI j) s' kc ks := by
    intro q
    induction q with
    | zero =>
      intro j s' hj f hv
      have hj : j = z := by omega
      subst hj
      apply hP
      unfold C_Pr_openGap_s67
      obtain ⟨g0, g1, g2, g3, g4⟩ := hv
      have e0 : 65536 ^ j * W % 65536 ^ n = 0 := by
        rw [Nat.mul_mod, hdv, Nat.mul_zero, Nat.zero_mod]
      obtain ⟨b1, b2, b3⟩ := L_back (k := n) (D := D) g0 hn e0 hD
      refine ifF (nI_nlt (Nat.le_refl _) (by omega)) ⟨_, gd_to (f.o hx), _, gd_to (f.o hx), _, gd_to (f.o hx), _, gd_to (f.o hx), ?_⟩
      refine k _ ((f.tr fp.sj).tr fp.sj) ⟨b3, ?_, ?_, g3, g4⟩
      · show (cSJ (cSJ s' 101 x (s'.J 101 x ||| Int64.ofNat (D / 2 ^ 64))) 102 x _).J 101 x = _
        rw [cSJ_g (by decide), cSJ_s, g1, b1]
      · show (cSJ (cSJ s' 101 x (s'.J 101 x ||| Int64.ofNat (D / 2 ^ 64))) 102 x ((cSJ s' 101 x (s'.J 101 x ||| Int64.ofNat (D / 2 ^ 64))).J 102 x ||| Int64.ofNat (D % 2 ^ 64))).J 102 x = _
        rw [cSJ_s, cSJ_g (by decide), g2, b2]
    | succ q ih =>
      intro j s' hj f hv
      apply hP
      unfold C_Pr_openGap_s67
      refine ifT (nI_lt (by omega) (by omega)) ⟨_, gd_to (f.o hx), _, gd_to (f.o hx), _, gd_to (f.o hx), _, gd_to (f.o hx), _, gd_to (f.o hx), ?_⟩
      rw [nI_1]
      refine ih (j + 1) _ (by omega) ((f.tr fp.sj).tr fp.sj) ?_
      have hb : 65536 ^ j * W < 2 ^ 112 := by
        have a1 : W < 65536 ^ (8 - z) := by omega
        have a2 : 65536 ^ j * W < 65536 ^ j * 65536 ^ (8 - z) := Nat.mul_lt_mul_of_pos_left a1 (Nat.pow_pos (by decide))
        rw [← Nat.pow_add] at a2
        have a3 : 65536 ^ (j + (8 - z)) ≤ 65536 ^ 7 := Nat.pow_le_pow_right (by decide) (by omega)
        exact Nat.lt_of_lt_of_le a2 (Nat.le_trans a3 (by decide))
      have := hv.shz hb
      rw [Nat.pow_succ, Nat.mul_comm (65536 ^ j) 65536, Nat.mul_assoc]
      exact this
  refine loop z 0 _ (by omega) (fp.sj.tr fp.sj) ?_
  rw [Nat.pow_zero, Nat.one_mul]
  exact ⟨by omega, by rw [cSJ_g (by decide), cSJ_s], cSJ_s, h3, h4⟩
end Gap
