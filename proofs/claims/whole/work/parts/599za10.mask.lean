/-! Masks of four bytes: how many bits, on both sides. -/
/-- the class's count of bits -/
def bcI (a0 : Int32) : Int32 := ((((((((a0 - ((ush_I a0 (1 : Int32)) &&& (1431655765 : Int32))) &&& (858993459 : Int32)) + ((ush_I (a0 - ((ush_I a0 (1 : Int32)) &&& (1431655765 : Int32))) (2 : Int32)) &&& (858993459 : Int32))) + (ush_I (((a0 - ((ush_I a0 (1 : Int32)) &&& (1431655765 : Int32))) &&& (858993459 : Int32)) + ((ush_I (a0 - ((ush_I a0 (1 : Int32)) &&& (1431655765 : Int32))) (2 : Int32)) &&& (858993459 : Int32))) (4 : Int32))) &&& (252645135 : Int32)) + (ush_I (((((a0 - ((ush_I a0 (1 : Int32)) &&& (1431655765 : Int32))) &&& (858993459 : Int32)) + ((ush_I (a0 - ((ush_I a0 (1 : Int32)) &&& (1431655765 : Int32))) (2 : Int32)) &&& (858993459 : Int32))) + (ush_I (((a0 - ((ush_I a0 (1 : Int32)) &&& (1431655765 : Int32))) &&& (858993459 : Int32)) + ((ush_I (a0 - ((ush_I a0 (1 : Int32)) &&& (1431655765 : Int32))) (2 : Int32)) &&& (858993459 : Int32))) (4 : Int32))) &&& (252645135 : Int32)) (8 : Int32))) + (ush_I ((((((a0 - ((ush_I a0 (1 : Int32)) &&& (1431655765 : Int32))) &&& (858993459 : Int32)) + ((ush_I (a0 - ((ush_I a0 (1 : Int32)) &&& (1431655765 : Int32))) (2 : Int32)) &&& (858993459 : Int32))) + (ush_I (((a0 - ((ush_I a0 (1 : Int32)) &&& (1431655765 : Int32))) &&& (858993459 : Int32)) + ((ush_I (a0 - ((ush_I a0 (1 : Int32)) &&& (1431655765 : Int32))) (2 : Int32)) &&& (858993459 : Int32))) (4 : Int32))) &&& (252645135 : Int32)) + (ush_I (((((a0 - ((ush_I a0 (1 : Int32)) &&& (1431655765 : Int32))) &&& (858993459 : Int32)) + ((ush_I (a0 - ((ush_I a0 (1 : Int32)) &&& (1431655765 : Int32))) (2 : Int32)) &&& (858993459 : Int32))) + (ush_I (((a0 - ((ush_I a0 (1 : Int32)) &&& (1431655765 : Int32))) &&& (858993459 : Int32)) + ((ush_I (a0 - ((ush_I a0 (1 : Int32)) &&& (1431655765 : Int32))) (2 : Int32)) &&& (858993459 : Int32))) (4 : Int32))) &&& (252645135 : Int32)) (8 : Int32))) (16 : Int32))) &&& (63 : Int32))
theorem w_bc {sa : Nat → Nat} {a : Int32} {s : cS} {kc ks : Nat} {Q : Int32 → cS → Nat → Nat → Prop} (h : Q (bcI a) s kc ks) : C_Ig_bitCount sa a s kc ks Q := h
/-- the upper half of a mask -/
def mkI (n : Int32) : Int32 := Int64.toInt32 (ush (mskH n) 32)
theorem i63_n (x : Int32) : ∃ m, m < 64 ∧ x &&& 63 = nI m := by
  refine ⟨(x &&& 63).toBitVec.toNat, ?_, ?_⟩
  · rw [Int32.toBitVec_and, BitVec.toNat_and]
    have : (x.toBitVec.toNat &&& (63 : Int32).toBitVec.toNat) ≤ (63 : Int32).toBitVec.toNat := Nat.and_le_right
    have e : (63 : Int32).toBitVec.toNat = 63 := rfl
    omega
  · refine Int32.toBitVec_inj.mp (BitVec.eq_of_toNat_eq ?_)
    show _ = (BitVec.ofNat 32 _).toNat
    rw [BitVec.toNat_ofNat, Nat.mod_eq_of_lt]
    exact (x &&& 63).toBitVec.isLt
theorem bc_r (a : Int32) : ∃ m, m < 64 ∧ bcI a = nI m := i63_n _
theorem bc_k : ∀ k, k < 33 → bcI (nI (2 ^ 32 - 2 ^ k)) = nI (32 - k) := by decide
theorem mk_k : ∀ m, m < 64 → mkI (nI m) = nI (2 ^ 32 - 2 ^ (32 - min m 32)) := by decide
theorem nI_inj32 {a b : Nat} (ha : a < 2 ^ 32) (hb : b < 2 ^ 32) (h : nI a = nI b) : a = b := by
  have e : (nI a).toBitVec.toNat = (nI b).toBitVec.toNat := by rw [h]
  have f : ∀ n, (nI n).toBitVec.toNat = n % 2 ^ 32 := fun n => BitVec.toNat_ofNat n 32
  rw [f, f, Nat.mod_eq_of_lt ha, Nat.mod_eq_of_lt hb] at e
  exact e
/-- a mask, as a number -/
theorem mask_c {X : Nat} (hX : X < 2 ^ 32) : (nI X = mkI (bcI (nI X)) ↔ ∃ k, k ≤ 32 ∧ X + 2 ^ k = 2 ^ 32) ∧ ∀ k, k ≤ 32 → X + 2 ^ k = 2 ^ 32 → bcI (nI X) = nI (32 - k) := by
  have hk : ∀ k, k ≤ 32 → X + 2 ^ k = 2 ^ 32 → bcI (nI X) = nI (32 - k) := fun k h1 h2 => by
    rw [show X = 2 ^ 32 - 2 ^ k by omega]
    exact bc_k k (by omega)
  refine ⟨⟨fun h => ?_, fun ⟨k, h1, h2⟩ => ?_⟩, hk⟩
  · obtain ⟨m, hm, em⟩ := bc_r (nI X)
    rw [em, mk_k m hm] at h
    have hp : 0 < 2 ^ (32 - min m 32) := Nat.two_pow_pos _
    have hq : 2 ^ (32 - min m 32) ≤ 2 ^ 32 := Nat.pow_le_pow_right (by decide) (by omega)
    have := nI_inj32 hX (by omega) h
    exact ⟨32 - min m 32, by omega, by omega⟩
  · rw [hk k h1 h2, mk_k (32 - k) (by omega), show 32 - min (32 - k) 32 = k by omega, show 2 ^ 32 - 2 ^ k = X by omega]
/-- a number that is all ones -/
theorem ones_i : ∀ Y : Nat, Y &&& (Y + 1) = 0 ↔ ∃ k, Y + 1 = 2 ^ k := by
  intro Y
  induction Y using Nat.strongRecOn with
  | ind Y ih =>
    rcases Nat.mod_two_eq_zero_or_one Y with e | e
    · have h1 : Y &&& (Y + 1) = Y := by
        apply Nat.eq_of_testBit_eq
        intro i
        rw [Nat.testBit_and]
        cases i with
        | zero => simp [Nat.testBit_zero, e]
        | succ i =>
          rw [Nat.testBit_succ, Nat.testBit_succ, show (Y + 1) / 2 = Y / 2 by omega, Bool.and_self]
      rw [h1]
      constructor
      · intro h; exact ⟨0, by omega⟩
      · rintro ⟨k, hk⟩
        cases k with
        | zero => omega
        | succ k => rw [Nat.pow_succ] at hk; omega
    · have h1 : Y &&& (Y + 1) = 2 * (Y / 2 &&& (Y / 2 + 1)) := by
        apply Nat.eq_of_testBit_eq
        intro i
        rw [Nat.testBit_and]
        cases i with
        | zero =>
          have : (Y + 1) % 2 = 0 := by omega
          simp [Nat.testBit_zero, this]
        | succ i =>
          rw [Nat.testBit_succ, Nat.testBit_succ, Nat.testBit_succ, show 2 * (Y / 2 &&& (Y / 2 + 1)) / 2 = (Y / 2 &&& (Y / 2 + 1)) by omega, Nat.testBit_and, show (Y + 1) / 2 = Y / 2 + 1 by omega]
      have h2 := ih (Y / 2) (by omega)
      constructor
      · intro h
        obtain ⟨k, hk⟩ := h2.mp (by omega)
        exact ⟨k + 1, by rw [Nat.pow_succ]; omega⟩
      · rintro ⟨k, hk⟩
        cases k with
        | zero => omega
        | succ k =>
          rw [Nat.pow_succ] at hk
          have := h2.mpr ⟨k, by omega⟩
          omega
/-- how many bits a number has -/
def blN : Nat → Nat → Nat
  | 0, _ => 0
  | n + 1, Y => if Y = 0 then 0 else blN n (Y / 2) + 1
theorem bl_k : ∀ (n k Y : Nat), k ≤ n → Y + 1 = 2 ^ k → blN n Y = k
  | 0, k, Y, h, e => by
    have : k = 0 := by omega
    subst this; rfl
  | n + 1, 0, Y, h, e => by
    show (if Y = 0 then 0 else _) = 0
    rw [if_pos (by omega)]
  | n + 1, k + 1, Y, h, e => by
    rw [Nat.pow_succ] at e
    have := Nat.two_pow_pos k
    show (if Y = 0 then 0 else blN n (Y / 2) + 1) = k + 1
    rw [if_neg (by omega), bl_k n k (Y / 2) (by omega) (by omega)]
theorem bl_le : ∀ (n Y : Nat), blN n Y ≤ n
  | 0, _ => Nat.le_refl _
  | n + 1, Y => by
    show (if Y = 0 then 0 else blN n (Y / 2) + 1) ≤ n + 1
    have := bl_le n (Y / 2)
    split <;> omega
