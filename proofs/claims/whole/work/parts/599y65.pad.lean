/-! What fills the last block. -/
theorem ln_m : ∀ n, n < 704 → ∀ k, k < 8 → Int64.toInt32 ((((8 : Int64) * (Int32.toInt64 (nI n))) >>> ((Int32.toInt64 ((8 : Int32) * nI k)) &&& 63)) &&& (255 : Int64)) = nI (8 * n / 256 ^ k % 256) := by decide +kernel
theorem ln_h : ∀ k, k < 8 → (56 : Int32) - (8 : Int32) * nI k = (8 : Int32) * nI (7 - k) := by decide +kernel
theorem ln_c : ∀ n, n < 704 → ∀ k, k < 4 → ush_I (nI n * 8) ((8 : Int32) * nI k) &&& 255 = nI (8 * n / 256 ^ k % 256) := by decide +kernel
theorem rm64 : ∀ n, n < 832 → rem_I (nI n) 64 = nI (n % 64) := by decide +kernel
