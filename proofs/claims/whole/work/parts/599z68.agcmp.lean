/-! Old enough: as the class asks it, and as the model does. -/
theorem ag_cmp {m a b : Nat} (hm : m ≤ 20000) (ha : a ≤ 20000) (hb : b ≤ 1000) : (nI m - nI a < nI b ↔ nI m < nI a + nI b) := by
  rw [nI_add]
  have hi : ∀ x : Nat, x < 2 ^ 31 → (nI x).toInt = x := fun x hx => Int32.toInt_ofNat_of_lt hx
  rw [Int32.lt_iff_toInt_lt, Int32.lt_iff_toInt_lt, Int32.toInt_sub, hi m (by omega), hi a (by omega), hi b (by omega), hi (a + b) (by omega)]
  rw [Int.bmod_eq_of_le (by omega) (by omega)]
  omega
