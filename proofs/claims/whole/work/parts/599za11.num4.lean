/-! Numbers of four bytes, in the model. -/
theorem nI_L {b : Nat} (hb : b < 2 ^ 31) : Int32.toInt64 (nI b) = Int64.ofNat b := by
  refine Int64.toBitVec_inj.mp (BitVec.eq_of_toNat_eq ?_)
  rw [L_toNat]
  show (BitVec.signExtend 64 (BitVec.ofNat 32 b)).toNat = _
  rw [BitVec.signExtend_eq_setWidth_of_msb_false (by rw [BitVec.msb_eq_decide, BitVec.toNat_ofNat]; simp; omega), BitVec.toNat_setWidth, BitVec.toNat_ofNat]
  omega
theorem L_sh {A : Nat} (j : Nat) (hj : j < 64) (hA : A * 2 ^ j < 2 ^ 64) : Int64.ofNat A <<< ((nI j).toInt64 &&& 63) = Int64.ofNat (A * 2 ^ j) := by
  have e : (nI j).toInt64 &&& 63 = Int64.ofNat j := by
    have h63 := L_and (A := j) (by omega) 6 (by decide)
    rw [nI_L (by omega), show (63 : Int64) = Int64.ofNat (2 ^ 6 - 1) from rfl, h63, Nat.mod_eq_of_lt (by omega)]
  rw [e]
  refine Int64.toBitVec_inj.mp (BitVec.eq_of_toNat_eq ?_)
  have hA0 : A < 2 ^ 64 := Nat.lt_of_le_of_lt (Nat.le_mul_of_pos_right A (Nat.two_pow_pos j)) hA
  rw [Int64.toBitVec_shiftLeft, L_toNat]
  have es : ((Int64.ofNat j).toBitVec.smod 64).toNat = j := by
    have : ∀ j, j < 64 → ((Int64.ofNat j).toBitVec.smod 64).toNat = j := by decide
    exact this j hj
  rw [BitVec.shiftLeft_eq', es, BitVec.toNat_shiftLeft, L_toNat, Nat.mod_eq_of_lt hA0, Nat.shiftLeft_eq]
theorem nI_sh {b : Nat} (j : Nat) (hj : j < 32) (h : b * 2 ^ j < 2 ^ 32) : nI b <<< (nI j &&& 31) = nI (b * 2 ^ j) := by
  have e : nI j &&& 31 = nI j := by
    have : ∀ j, j < 32 → nI j &&& 31 = nI j := by decide
    exact this j hj
  rw [e]
  refine Int32.toBitVec_inj.mp (BitVec.eq_of_toNat_eq ?_)
  have f : ∀ n, (nI n).toBitVec.toNat = n % 2 ^ 32 := fun n => BitVec.toNat_ofNat n 32
  have hb : b < 2 ^ 32 := Nat.lt_of_le_of_lt (Nat.le_mul_of_pos_right b (Nat.two_pow_pos j)) h
  have es : ((nI j).toBitVec.smod 32).toNat = j := by
    have : ∀ j, j < 32 → ((nI j).toBitVec.smod 32).toNat = j := by decide
    exact this j hj
  rw [Int32.toBitVec_shiftLeft, f, BitVec.shiftLeft_eq', es, BitVec.toNat_shiftLeft, f, Nat.mod_eq_of_lt hb, Nat.shiftLeft_eq]
/-- four bytes as a number -/
def N4 (b0 b1 b2 b3 : Nat) : Nat := ((b0 * 256 + b1) * 256 + b2) * 256 + b3
theorem n4_e {b0 b1 b2 b3 : Nat} : N4 b0 b1 b2 b3 = b0 * 16777216 + b1 * 65536 + b2 * 256 + b3 := by unfold N4; omega
theorem nb_4 {g : Nat → Int32} {a b0 b1 b2 b3 : Nat} (h0 : g a = nI b0) (h1 : g (a + 1) = nI b1) (h2 : g (a + 2) = nI b2) (h3 : g (a + 3) = nI b3) (l0 : b0 < 256) (l1 : b1 < 256) (l2 : b2 < 256) (l3 : b3 < 256) : nbF g a 4 0 = Int64.ofNat (N4 b0 b1 b2 b3) := by
  have st : ∀ {A b : Nat} {v : Int32}, v = nI b → A < 2 ^ 32 → b < 256 → (Int64.ofNat A <<< ((Int32.toInt64 (8 : Int32)) &&& 63)) ||| Int32.toInt64 v = Int64.ofNat (A * 256 + b) := fun {A b v} e hA hb => by
    rw [e, nI_L (by omega), show (8 : Int32) = nI 8 from rfl, L_sh 8 (by decide) (by omega)]
    exact L_or 8 (by omega) (by omega) (by omega)
  show (((((((Int64.ofNat 0 <<< _) ||| Int32.toInt64 (g a)) <<< _) ||| Int32.toInt64 (g (a + 1))) <<< _) ||| Int32.toInt64 (g (a + 2))) <<< _) ||| Int32.toInt64 (g (a + 3)) = _
  rw [st h0 (by omega) l0, st h1 (by omega) l1, st h2 (by omega) l2, st h3 (by omega) l3]
  unfold N4
  rw [Nat.zero_mul, Nat.zero_add]
theorem m_num4 {t : moS} {k N a b0 b1 b2 b3 : Nat} (hN : t.N k = N) (hk : a + 4 ≤ N) (hn : N < 2 ^ 31) (h0 : t.I k a = nI b0) (h1 : t.I k (a + 1) = nI b1) (h2 : t.I k (a + 2) = nI b2) (h3 : t.I k (a + 3) = nI b3) (l0 : b0 < 256) (l1 : b1 < 256) (l2 : b2 < 256) (l3 : b3 < 256) : M_number4 t k (nI a) = some (Int64.ofNat (N4 b0 b1 b2 b3)) := by
  unfold M_number4
  rw [rdI_n hN (by omega) hn, show nI a + 1 = nI (a + 1) from nI_1 a, show nI a + 2 = nI (a + 2) from nI_add a 2, show nI a + 3 = nI (a + 3) from nI_add a 3, rdI_n (i := a + 1) hN (by omega) hn, rdI_n (i := a + 2) hN (by omega) hn, rdI_n (i := a + 3) hN (by omega) hn, h0, h1, h2, h3]
  simp only [Option.bind_some]
  have e1 : Int32.toInt64 (nI b1 <<< ((16 : Int32) &&& 31)) = Int64.ofNat (b1 * 65536) := by
    rw [show (16 : Int32) = nI 16 from rfl, nI_sh 16 (by decide) (by omega), nI_L (by omega)]
  have e2 : Int32.toInt64 (nI b2 <<< ((8 : Int32) &&& 31)) = Int64.ofNat (b2 * 256) := by
    rw [show (8 : Int32) = nI 8 from rfl, nI_sh 8 (by decide) (by omega), nI_L (by omega)]
  have e0 : Int32.toInt64 (nI b0) <<< ((Int32.toInt64 (24 : Int32)) &&& 63) = Int64.ofNat (b0 * 16777216) := by
    rw [nI_L (by omega), show (24 : Int32) = nI 24 from rfl, L_sh 24 (by decide) (by omega)]
  rw [e0, e1, e2, nI_L (b := b3) (by omega), L_or 24 (by omega) (by omega) (by omega), L_or 16 (by omega) (by omega) (by omega), L_or 8 (by omega) (by omega) (by omega)]
  rw [n4_e]
