/-! Prefixes: the class's small calls, and what the model answers there. -/
theorem bv_msk (x : BitVec 64) (k : Nat) (hk : k < 64) : x &&& (BitVec.allOnes 64 <<< k) = 0#64 ↔ x >>> k = 0#64 := by
  constructor
  · intro h
    apply BitVec.eq_of_getLsbD_eq
    intro i hi
    rw [BitVec.getLsbD_ushiftRight]
    have h1 := congrArg (fun y => y.getLsbD (k + i)) h
    simp only [BitVec.getLsbD_and, BitVec.getLsbD_shiftLeft, BitVec.getLsbD_allOnes, BitVec.getLsbD_zero] at h1 ⊢
    by_cases c : k + i < 64
    · have c2 : ¬ k + i < k := by omega
      have c3 : k + i - k < 64 := by omega
      rw [decide_eq_true c, decide_eq_false c2, decide_eq_true c3] at h1
      simpa using h1
    · exact BitVec.getLsbD_of_ge _ _ (by omega)
  · intro h
    apply BitVec.eq_of_getLsbD_eq
    intro i hi
    simp only [BitVec.getLsbD_and, BitVec.getLsbD_shiftLeft, BitVec.getLsbD_allOnes, BitVec.getLsbD_zero]
    by_cases c : i < k
    · simp [c]
    · have h1 := congrArg (fun y => y.getLsbD (i - k)) h
      simp only [BitVec.getLsbD_ushiftRight, BitVec.getLsbD_zero] at h1
      rw [show k + (i - k) = i by omega] at h1
      rw [h1, Bool.false_and]
theorem i64_0 {x : Int64} : x = 0 ↔ x.toBitVec = 0#64 := ⟨fun h => by rw [h]; rfl, fun h => Int64.toBitVec_inj.mp h⟩
theorem ush_bv (x : Int64) (d : Int32) (k : Nat) (hd : (d.toInt64.toUInt64 &&& Int64.toUInt64 63).toNat % 64 = k) : (ush x d).toBitVec = x.toBitVec >>> k := by
  apply BitVec.eq_of_toNat_eq
  show (x.toUInt64 >>> (d.toInt64.toUInt64 &&& Int64.toUInt64 63)).toNat = _
  rw [UInt64.toNat_shiftRight, hd, BitVec.toNat_ushiftRight]
  rfl
theorem msk_g (x : Int64) (c : Int64) (d : Int32) (k : Nat) (hk : k < 64) (hc : (c.toBitVec.smod 64).toNat = k) (hd : (d.toInt64.toUInt64 &&& Int64.toUInt64 63).toNat % 64 = k) : x &&& ((-1 : Int64) <<< c) = 0 ↔ ush x d = 0 := by
  rw [i64_0, i64_0, ush_bv x d k hd, Int64.toBitVec_and, Int64.toBitVec_shiftLeft]
  have e : (-1 : Int64).toBitVec <<< (c.toBitVec.smod (64#64)) = BitVec.allOnes 64 <<< k := by
    rw [BitVec.shiftLeft_eq', show (c.toBitVec.smod (64#64)).toNat = k from hc]
    rfl
  rw [show (-1 : Int64).toBitVec <<< (c.toBitVec.smod 64) = BitVec.allOnes 64 <<< k from e]
  exact bv_msk _ k hk
theorem msk_k : ∀ j, j < 64 → 1 ≤ j → ((((64 - nI j).toInt64 &&& 63).toBitVec.smod 64).toNat = 64 - j ∧ ((64 - nI j).toInt64.toUInt64 &&& Int64.toUInt64 63).toNat % 64 = 64 - j) ∧ ((((128 - nI (64 + j)).toInt64 &&& 63).toBitVec.smod 64).toNat = 64 - j ∧ ((128 - nI (64 + j)).toInt64.toUInt64 &&& Int64.toUInt64 63).toNat % 64 = 64 - j) := by decide +kernel
theorem mskH_u (x : Int64) {j : Nat} (h1 : 1 ≤ j) (h2 : j ≤ 64) : x &&& mskH (nI j) = 0 ↔ ush x (64 - nI j) = 0 := by
  by_cases c : j = 64
  · subst c
    have e1 : mskH (nI 64) = -1 := by decide
    rw [e1, Int64.and_neg_one, i64_0, i64_0, ush_bv x _ 0 (by decide)]
    simp
  · have hk := (msk_k j (by omega) h1).1
    have e : mskH (nI j) = (-1 : Int64) <<< ((64 - nI j).toInt64 &&& 63) := by
      unfold mskH
      rw [if_pos (show (0 : Int32) < nI j from nI_lt (a := 0) h1 (by omega)), if_pos (show nI j < 64 from nI_lt (b := 64) (by omega) (by decide))]
    rw [e]
    exact msk_g x _ _ (64 - j) (by omega) hk.1 hk.2
theorem mskL_u (x : Int64) {j : Nat} (h1 : 1 ≤ j) (h2 : j ≤ 64) : x &&& mskL (nI (64 + j)) = 0 ↔ ush x (128 - nI (64 + j)) = 0 := by
  by_cases c : j = 64
  · subst c
    have e1 : mskL (nI (64 + 64)) = -1 := by decide
    rw [e1, Int64.and_neg_one, i64_0, i64_0, ush_bv x _ 0 (by decide)]
    simp
  · have hk := (msk_k j (by omega) h1).2
    have e : mskL (nI (64 + j)) = (-1 : Int64) <<< ((128 - nI (64 + j)).toInt64 &&& 63) := by
      unfold mskL
      rw [if_pos (show (64 : Int32) < nI (64 + j) from nI_lt (a := 64) (by omega) (by omega)), if_pos (show nI (64 + j) < 128 from nI_lt (b := 128) (by omega) (by decide))]
    rw [e]
    exact msk_g x _ _ (64 - j) (by omega) hk.1 hk.2
/-- the class's covers is the model's -/
theorem pcov_m {a1 b1 b4 : Int32} {a2 a3 b2 b3 : Int64} {n : Nat} (hn : n ≤ 128) : pcov a1 a2 a3 (nI n) b1 b2 b3 b4 ↔ a1 = b1 ∧ nI n ≤ b4 ∧ mcov a2 a3 (nI n) b2 b3 := by
  unfold pcov mcov
  by_cases c : 64 < n
  · have h64 : (64 : Int32) < nI n := nI_lt (a := 64) c (by omega)
    obtain ⟨j, rfl⟩ : ∃ j, n = 64 + j := ⟨n - 64, by omega⟩
    have eH : mskH (nI (64 + j)) = -1 := by
      unfold mskH
      rw [if_pos (show (0 : Int32) < nI (64 + j) from nI_lt (a := 0) (by omega) (by omega)), if_neg (show ¬ nI (64 + j) < 64 from nI_nlt (b := 64) (by omega) (by omega))]
    rw [eH, Int64.and_neg_one, mskL_u _ (by omega) (by omega)]
    exact ⟨fun h => ⟨h.1, h.2.1, h.2.2.1 h64⟩, fun h => ⟨h.1, h.2.1, fun _ => h.2.2, fun z => absurd h64 z⟩⟩
  · have h64 : ¬ (64 : Int32) < nI n := nI_nlt (a := 64) (by omega) (by decide)
    have eL : mskL (nI n) = 0 := by unfold mskL; rw [if_neg h64]
    rw [eL, Int64.and_zero]
    by_cases c0 : n = 0
    · subst c0
      have eH : mskH (nI 0) = 0 := by decide
      rw [eH, Int64.and_zero]
      exact ⟨fun h => ⟨h.1, h.2.1, rfl, rfl⟩, fun h => ⟨h.1, h.2.1, fun z => absurd z h64, fun _ => Or.inl (by decide)⟩⟩
    · rw [mskH_u _ (by omega) (by omega)]
      have hn0 : ¬ nI n ≤ 0 := nI_nle (by omega) (by omega)
      exact ⟨fun h => ⟨h.1, h.2.1, (h.2.2.2 h64).resolve_left hn0, rfl⟩, fun h => ⟨h.1, h.2.1, fun z => absurd z h64, fun _ => Or.inr h.2.2.1⟩⟩
theorem M_mH (n : Int32) : M_maskHigh n = mskH n := rfl
theorem M_mL (n : Int32) : M_maskLow n = mskL n := rfl
theorem M_cov (a b : Int64) (n : Int32) (h l : Int64) : (M_covers a b n h l = 0 ↔ ¬ mcov a b n h l) ∧ (M_covers a b n h l = 0 ∨ M_covers a b n h l = 1) := by
  unfold M_covers M_covers_b34 mcov
  rw [M_mH, M_mL]
  by_cases c1 : (a ^^^ h) &&& mskH n = 0
  · rw [if_pos c1]
    by_cases c2 : (b ^^^ l) &&& mskL n = 0
    · rw [if_pos c2]
      exact ⟨⟨fun z => absurd z (by decide), fun z => absurd ⟨c1, c2⟩ z⟩, Or.inr rfl⟩
    · rw [if_neg c2]
      exact ⟨⟨fun _ z => c2 z.2, fun _ => rfl⟩, Or.inl rfl⟩
  · rw [if_neg c1]
    exact ⟨⟨fun _ z => c1 z.1, fun _ => rfl⟩, Or.inl rfl⟩
theorem M_covP (a b : Int64) (n : Int32) (h l : Int64) (m : Int32) : M_coversPrefix a b n h l m = 0 ↔ ¬ (n ≤ m ∧ mcov a b n h l) := by
  unfold M_coversPrefix M_coversPrefix_b25
  by_cases c : m < n
  · rw [if_pos c]
    exact ⟨fun _ z => Int32.not_le.mpr c z.1, fun _ => rfl⟩
  · rw [if_neg c]
    by_cases c2 : M_covers a b n h l = 0
    · rw [if_pos c2]
      exact ⟨fun _ z => (M_cov a b n h l).1.mp c2 z.2, fun _ => rfl⟩
    · rw [if_neg c2]
      exact ⟨fun z => absurd z (by decide), fun z => absurd ⟨Int32.not_lt.mp c, Classical.byContradiction fun w => c2 ((M_cov a b n h l).1.mpr w)⟩ z⟩
theorem M_isPx (a b : Int64) (n : Int32) : (M_isPrefix a b n = 0 ↔ ¬ mpre a b n) := by
  unfold M_isPrefix M_isPrefix_b36 mpre
  rw [M_mH, M_mL]
  by_cases c1 : a &&& (mskH n ^^^ -1) = 0
  · rw [if_pos c1]
    by_cases c2 : b &&& (mskL n ^^^ -1) = 0
    · rw [if_pos c2]
      exact ⟨fun z => absurd z (by decide), fun z => absurd ⟨c1, c2⟩ z⟩
    · rw [if_neg c2]
      exact ⟨fun _ z => c2 z.2, fun _ => rfl⟩
  · rw [if_neg c1]
    exact ⟨fun _ z => c1 z.1, fun _ => rfl⟩
theorem M_less (a b : Int64) : M_isLess a b = if a.toBitVec.toNat < b.toBitVec.toNat then 1 else 0 := by
  unfold M_isLess
  have h := usg_le b a
  have e : ((-9223372036854775808) : Int64) = Int64.minValue := by decide
  rw [e]
  by_cases c : a.toBitVec.toNat < b.toBitVec.toNat
  · rw [if_pos c, if_pos (Int64.not_le.mp fun z => by have := (usg_le a b).mp z; omega)]
  · rw [if_neg c, if_neg (Int64.not_lt.mpr ((usg_le a b).mpr (by omega)))]
theorem M_ahead {a b h l : Int64} {n p : Nat} (hn : n < 256) (hp : p < 256) (f : Nat) : M_isAhead a b (nI n) h l (nI p) = some (if pkN f a.toBitVec.toNat b.toBitVec.toNat n < pkN f h.toBitVec.toNat l.toBitVec.toNat p then 1 else 0) := by
  have k := (pk_lex (f := f) (f' := f) (n := n) (n' := p) a.toBitVec.isLt b.toBitVec.isLt (by omega) h.toBitVec.isLt l.toBitVec.isLt (by omega)).1
  unfold M_isAhead okZ
  by_cases c1 : a = h
  · rw [if_pos c1]
    subst c1
    by_cases c2 : b = l
    · rw [if_pos c2]
      subst c2
      by_cases c3 : n < p
      · rw [if_pos (nI_lt c3 (by omega)), if_pos (k.mpr (by omega))]
      · rw [if_neg (nI_nlt (by omega) (by omega)), if_neg (fun z => by have := k.mp z; omega)]
    · rw [if_neg c2, M_less]
      have h2 : b.toBitVec.toNat ≠ l.toBitVec.toNat := fun z => c2 (usg_eq.mpr z)
      by_cases c3 : b.toBitVec.toNat < l.toBitVec.toNat
      · rw [if_pos c3, if_pos (Or.inr rfl), if_pos (k.mpr (by omega))]
      · rw [if_neg c3, if_pos (Or.inl rfl), if_neg (fun z => by have := k.mp z; omega)]
  · rw [if_neg c1, M_less]
    have h2 : a.toBitVec.toNat ≠ h.toBitVec.toNat := fun z => c1 (usg_eq.mpr z)
    by_cases c3 : a.toBitVec.toNat < h.toBitVec.toNat
    · rw [if_pos c3, if_pos (Or.inr rfl), if_pos (k.mpr (by omega))]
    · rw [if_neg c3, if_pos (Or.inl rfl), if_neg (fun z => by have := k.mp z; omega)]
section Wp
variable {sa : Nat → Nat} {s : cS} {kc ks a b : Nat}
theorem w_covers {Q : Int32 → cS → Nat → Nat → Prop} (ha : okO s 5 a) (hb : okO s 5 b) (k0 : ¬ pcov (s.I 100 a) (s.J 101 a) (s.J 102 a) (s.I 103 a) (s.I 100 b) (s.J 101 b) (s.J 102 b) (s.I 103 b) → Q 0 s kc ks) (k1 : pcov (s.I 100 a) (s.J 101 a) (s.J 102 a) (s.I 103 a) (s.I 100 b) (s.J 101 b) (s.J 102 b) (s.I 103 b) → Q 1 s kc ks) : C_Pr_covers sa a (some b) s kc ks Q := by
  unfold pcov at k0 k1
  unfold C_Pr_covers
  refine ⟨_, gd_to ha, b, rfl, _, gd_to hb, ?_⟩
  by_cases c1 : s.I 100 a = s.I 100 b
  · refine ifT c1 ⟨_, gd_to ha, _, gd_to hb, ?_⟩
    by_cases c2 : s.I 103 b < s.I 103 a
    · exact ifT c2 (k0 (fun z => Int32.not_le.mpr c2 z.2.1))
    · refine ifF c2 ⟨_, gd_to ha, _, gd_to hb, _, gd_to ha, _, gd_to hb, _, gd_to ha, ?_⟩
      have c2' := Int32.not_lt.mp c2
      by_cases c3 : (64 : Int32) < s.I 103 a
      · refine ifT c3 ?_
        by_cases c4 : s.J 101 a ^^^ s.J 101 b = 0
        · refine ifT c4 ⟨_, gd_to ha, ?_⟩
          by_cases c5 : ush (s.J 102 a ^^^ s.J 102 b) (128 - s.I 103 a) = 0
          · exact ifT c5 (k1 ⟨c1, c2', fun _ => ⟨c4, c5⟩, fun z => absurd c3 z⟩)
          · exact ifF c5 (k0 (fun z => c5 (z.2.2.1 c3).2))
        · exact ifF c4 (k0 (fun z => c4 (z.2.2.1 c3).1))
      · refine ifF c3 ⟨_, gd_to ha, ?_⟩
        by_cases c4 : 0 < s.I 103 a
        · refine ifT c4 ⟨_, gd_to ha, ?_⟩
          by_cases c5 : ush (s.J 101 a ^^^ s.J 101 b) (64 - s.I 103 a) = 0
          · exact ifT c5 (k1 ⟨c1, c2', fun z => absurd z c3, fun _ => Or.inr c5⟩)
          · exact ifF c5 (k0 (fun z => ((z.2.2.2 c3).resolve_left (Int32.not_le.mpr c4)) |> c5))
        · exact ifF c4 (k1 ⟨c1, c2', fun z => absurd z c3, fun _ => Or.inl (Int32.not_lt.mp c4)⟩)
  · exact ifF c1 (k0 (fun z => c1 z.1))
theorem w_same {Q : Int32 → cS → Nat → Nat → Prop} (ha : okO s 5 a) (hb : okO s 5 b) (k0 : ¬ (s.I 100 a = s.I 100 b ∧ s.J 101 a = s.J 101 b ∧ s.J 102 a = s.J 102 b) → Q 0 s kc ks) (k1 : (s.I 100 a = s.I 100 b ∧ s.J 101 a = s.J 101 b ∧ s.J 102 a = s.J 102 b) → Q 1 s kc ks) : C_Pr_sameAddress sa a (some b) s kc ks Q := by
  unfold C_Pr_sameAddress
  refine ⟨_, gd_to ha, b, rfl, _, gd_to hb, ?_⟩
  by_cases c1 : s.I 100 a = s.I 100 b
  · refine ifT c1 ⟨_, gd_to ha, _, gd_to hb, ?_⟩
    by_cases c2 : s.J 101 a = s.J 101 b
    · refine ifT c2 ⟨_, gd_to ha, _, gd_to hb, ?_⟩
      by_cases c3 : s.J 102 a = s.J 102 b
      · exact ifT c3 (k1 ⟨c1, c2, c3⟩)
      · exact ifF c3 (k0 fun z => c3 z.2.2)
    · exact ifF c2 (k0 fun z => c2 z.2.1)
  · exact ifF c1 (k0 fun z => c1 z.1)
theorem w_net {Q : Int32 → cS → Nat → Nat → Prop} (ha : okO s 5 a) (hb : okO s 5 b) (k0 : ¬ (s.I 103 a = s.I 103 b ∧ pcov (s.I 100 a) (s.J 101 a) (s.J 102 a) (s.I 103 a) (s.I 100 b) (s.J 101 b) (s.J 102 b) (s.I 103 b)) → Q 0 s kc ks) (k1 : s.I 103 a = s.I 103 b → pcov (s.I 100 a) (s.J 101 a) (s.J 102 a) (s.I 103 a) (s.I 100 b) (s.J 101 b) (s.J 102 b) (s.I 103 b) → Q 1 s kc ks) : C_Pr_sameNetwork sa a (some b) s kc ks Q := by
  unfold C_Pr_sameNetwork
  refine ⟨_, gd_to ha, b, rfl, _, gd_to hb, ?_⟩
  by_cases c1 : s.I 103 a = s.I 103 b
  · exact ifT c1 ⟨ha, w_covers ha hb (fun c => ifT rfl (k0 fun z => c z.2)) (fun c => ifF (by decide) (k1 c1 c))⟩
  · exact ifF c1 (k0 fun z => c1 z.1)
set_option maxRecDepth 100000 in
theorem w_order {Q : Int32 → cS → Nat → Nat → Prop} (ha : okO s 5 a) (hb : okO s 5 b) (k : Q (pord (s.I 100 a) (s.J 101 a) (s.J 102 a) (s.I 103 a) (s.I 100 b) (s.J 101 b) (s.J 102 b) (s.I 103 b)) s kc ks) : C_Pr_order sa a (some b) s kc ks Q := by
  unfold pord at k
  have e : ((-9223372036854775808) : Int64) = Int64.minValue := by decide
  unfold C_Pr_order
  rw [e]
  clear e
  generalize Int64.minValue = mv at k ⊢
  refine ⟨_, gd_to ha, b, rfl, _, gd_to hb, ?_⟩
  by_cases c1 : s.I 100 a = s.I 100 b
  · rw [if_pos c1] at k
    refine ifT c1 ⟨_, gd_to ha, _, gd_to hb, ?_⟩
    by_cases c2 : s.J 101 a = s.J 101 b
    · rw [if_pos c2] at k
      refine ifT c2 ⟨_, gd_to ha, _, gd_to hb, ?_⟩
      by_cases c3 : s.J 102 a = s.J 102 b
      · rw [if_pos c3] at k
        exact ifT c3 ⟨_, gd_to ha, _, gd_to hb, k⟩
      · rw [if_neg c3] at k
        refine ifF c3 ⟨_, gd_to ha, _, gd_to hb, ?_⟩
        by_cases c4 : s.J 102 b + mv ≤ s.J 102 a + mv
        · rw [if_pos c4] at k
          exact ifF (Int64.not_lt.mpr c4) k
        · rw [if_neg c4] at k
          exact ifT (Int64.not_le.mp c4) k
    · rw [if_neg c2] at k
      refine ifF c2 ⟨_, gd_to ha, _, gd_to hb, ?_⟩
      by_cases c4 : s.J 101 b + mv ≤ s.J 101 a + mv
      · rw [if_pos c4] at k
        exact ifF (Int64.not_lt.mpr c4) k
      · rw [if_neg c4] at k
        exact ifT (Int64.not_le.mp c4) k
  · rw [if_neg c1] at k
    exact ifF c1 ⟨_, gd_to ha, _, gd_to hb, k⟩
theorem w_mH {n : Int32} {Q : Int64 → cS → Nat → Nat → Prop} (k : Q (mskH n) s kc ks) : C_Pr_maskHigh sa n s kc ks Q := by
  unfold mskH at k
  unfold C_Pr_maskHigh
  by_cases c1 : 0 < n
  · rw [if_pos c1] at k
    refine ifT c1 ?_
    by_cases c2 : n < 64
    · rw [if_pos c2] at k; exact ifT c2 k
    · rw [if_neg c2] at k; exact ifF c2 k
  · rw [if_neg c1] at k; exact ifF c1 k
theorem w_mL {n : Int32} {Q : Int64 → cS → Nat → Nat → Prop} (k : Q (mskL n) s kc ks) : C_Pr_maskLow sa n s kc ks Q := by
  unfold mskL at k
  unfold C_Pr_maskLow
  by_cases c1 : 64 < n
  · rw [if_pos c1] at k
    refine ifT c1 ?_
    by_cases c2 : n < 128
    · rw [if_pos c2] at k; exact ifT c2 k
    · rw [if_neg c2] at k; exact ifF c2 k
  · rw [if_neg c1] at k; exact ifF c1 k
theorem w_behind {Q : Int32 → cS → Nat → Nat → Prop} (ha : okO s 5 a) (k0 : mpre (s.J 101 a) (s.J 102 a) (s.I 103 a) → Q 0 s kc ks) (k1 : ¬ mpre (s.J 101 a) (s.J 102 a) (s.I 103 a) → Q 1 s kc ks) : C_Pr_hasBitsBehind sa a s kc ks Q := by
  unfold mpre at k0 k1
  unfold C_Pr_hasBitsBehind
  refine ⟨_, gd_to ha, _, gd_to ha, w_mH ?_⟩
  by_cases c1 : s.J 101 a &&& (mskH (s.I 103 a) ^^^ -1) = 0
  · refine ifT c1 ⟨_, gd_to ha, _, gd_to ha, w_mL ?_⟩
    by_cases c2 : s.J 102 a &&& (mskL (s.I 103 a) ^^^ -1) = 0
    · exact ifT c2 (k0 ⟨c1, c2⟩)
    · exact ifF c2 (k1 fun z => c2 z.2)
  · exact ifF c1 (k1 fun z => c1 z.1)
theorem w_isZero {Q : Int32 → cS → Nat → Nat → Prop} (ha : okO s 5 a) (k0 : ¬ (s.J 101 a = 0 ∧ s.J 102 a = 0) → Q 0 s kc ks) (k1 : s.J 101 a = 0 ∧ s.J 102 a = 0 → Q 1 s kc ks) : C_Pr_isZero sa a s kc ks Q := by
  unfold C_Pr_isZero
  refine ⟨_, gd_to ha, ?_⟩
  by_cases c1 : s.J 101 a = 0
  · refine ifT c1 ⟨_, gd_to ha, ?_⟩
    by_cases c2 : s.J 102 a = 0
    · exact ifT c2 (k1 ⟨c1, c2⟩)
    · exact ifF c2 (k0 fun z => c2 z.2)
  · exact ifF c1 (k0 fun z => c1 z.1)
/-- a prefix with other values -/
theorem w_setZero {f n : Int32} {Q : cS → Nat → Nat → Prop} (ha : okO s 5 a) (k : Q (cSpf s a f 0 0 n) kc ks) : C_Pr_setZero sa a f n s kc ks Q := by
  unfold C_Pr_setZero
  exact ⟨_, gd_to ha, _, gd_to ha.si, _, gd_to ha.si.sj, _, gd_to ha.si.sj.sj, k⟩
theorem w_copy {Q : cS → Nat → Nat → Prop} (ha : okO s 5 a) (hb : okO s 5 b) (k : Q (cSpf s a (s.I 100 b) (s.J 101 b) (s.J 102 b) (s.I 103 b)) kc ks) : C_Pr_copy sa a (some b) s kc ks Q := by
  unfold C_Pr_copy
  refine ⟨b, rfl, _, gd_to hb, _, gd_to ha, _, gd_to hb.si, _, gd_to ha.si, _, gd_to hb.si.sj, _, gd_to ha.si.sj, _, gd_to hb.si.sj.sj, _, gd_to ha.si.sj.sj, ?_⟩
  have e : (cSJ (cSJ (cSI s 100 a (s.I 100 b)) 101 a (s.J 101 b)) 102 a ((cSJ (cSI s 100 a (s.I 100 b)) 101 a (s.J 101 b)).J 102 b)).I 103 b = s.I 103 b := by
    show (cSI s 100 a (s.I 100 b)).I 103 b = _
    exact cSI_g (by decide)
  have e2 : (cSJ (cSI s 100 a (s.I 100 b)) 101 a ((cSI s 100 a (s.I 100 b)).J 101 b)).J 102 b = s.J 102 b := cSJ_g (by decide)
  have h : cSpf s a (s.I 100 b) (s.J 101 b) (s.J 102 b) (s.I 103 b) = cSI (cSJ (cSJ (cSI s 100 a (s.I 100 b)) 101 a (s.J 101 b)) 102 a ((cSJ (cSI s 100 a (s.I 100 b)) 101 a (s.J 101 b)).J 102 b)) 103 a ((cSJ (cSJ (cSI s 100 a (s.I 100 b)) 101 a (s.J 101 b)) 102 a ((cSJ (cSI s 100 a (s.I 100 b)) 101 a (s.J 101 b)).J 102 b)).I 103 b) := by
    rw [e, show (cSJ (cSI s 100 a (s.I 100 b)) 101 a (s.J 101 b)).J 102 b = s.J 102 b from cSJ_g (by decide)]
    rfl
  rw [h] at k
  exact k
theorem w_drop {Q : cS → Nat → Nat → Prop} (ha : okO s 5 a) (k : Q (cSJ (cSJ s 101 a (s.J 101 a &&& mskH (s.I 103 a))) 102 a (s.J 102 a &&& mskL (s.I 103 a))) kc ks) : C_Pr_dropBitsBehind sa a s kc ks Q := by
  unfold C_Pr_dropBitsBehind
  refine ⟨_, gd_to ha, _, gd_to ha, w_mH ⟨_, gd_to ha, _, gd_to ha.sj, _, gd_to ha.sj, w_mL ⟨_, gd_to ha.sj, ?_⟩⟩⟩
  have e : (cSJ s 101 a (s.J 101 a &&& mskH (s.I 103 a))).J 102 a = s.J 102 a := cSJ_g (by decide)
  have h : cSJ (cSJ s 101 a (s.J 101 a &&& mskH (s.I 103 a))) 102 a ((cSJ s 101 a (s.J 101 a &&& mskH (s.I 103 a))).J 102 a &&& mskL (s.I 103 a)) = cSJ (cSJ s 101 a (s.J 101 a &&& mskH (s.I 103 a))) 102 a (s.J 102 a &&& mskL (s.I 103 a)) := by rw [e]
  rw [← h] at k
  exact k
/-- what a prefix's writing leaves -/
theorem fr.spf {Rv Rq : List Nat} {Gp : List (Nat × Nat)} {a1 a4 : Int32} {a2 a3 : Int64} (h : (s.K a).1 ∈ Rv) : fr Rv Gp Rq s (cSpf s a a1 a2 a3 a4) := (((fr.si h).tr (fr.sj h)).tr (fr.sj h)).tr (fr.si h)
theorem cSpf_v {a1 a4 : Int32} {a2 a3 : Int64} : PF (cSpf s a a1 a2 a3 a4) a a1 a2 a3 a4 := by
  refine ⟨?_, ?_, ?_, ?_⟩
  · show (cSI _ 103 a a4).I 100 a = a1
    rw [cSI_g (by decide)]
    show (cSI s 100 a a1).I 100 a = a1
    exact cSI_s
  · show (cSJ (cSJ (cSI s 100 a a1) 101 a a2) 102 a a3).J 101 a = a2
    rw [cSJ_g (by decide)]
    exact cSJ_s
  · exact cSJ_s
  · exact cSI_s
end Wp
