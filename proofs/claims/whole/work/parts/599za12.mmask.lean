/-! The model counts a mask's bits. -/
theorem L_inv {X : Nat} (hX : X < 2 ^ 32) : (Int64.ofNat X ^^^ ((-1) : Int64)) &&& (4294967295 : Int64) = Int64.ofNat (2 ^ 32 - 1 - X) := by
  have e : Int64.ofNat X ^^^ ((-1) : Int64) = Int64.ofNat (2 ^ 64 - 1 - X) := by
    rw [xor_m1]
    refine Int64.toBitVec_inj.mp (BitVec.eq_of_toNat_eq ?_)
    rw [Int64.toBitVec_not, BitVec.toNat_not, L_toNat, L_toNat, Nat.mod_eq_of_lt (show X < 2 ^ 64 by omega), Nat.mod_eq_of_lt (show 2 ^ 64 - 1 - X < 2 ^ 64 by omega)]
  have h := L_and (A := 2 ^ 64 - 1 - X) (by omega) 32 (by decide)
  rw [e, show (4294967295 : Int64) = Int64.ofNat (2 ^ 32 - 1) from rfl, h]
  have : (2 ^ 64 - 1 - X) % 2 ^ 32 = 2 ^ 32 - 1 - X := by omega
  rw [this]
theorem L_half {Y : Nat} (hY : Y < 2 ^ 63) : Int64.ofNat Y >>> ((Int32.toInt64 (1 : Int32)) &&& 63) = Int64.ofNat (Y / 2) := by
  refine Int64.toBitVec_inj.mp (BitVec.eq_of_toNat_eq ?_)
  have e1 : (Int64.ofNat Y >>> ((Int32.toInt64 (1 : Int32)) &&& 63)).toBitVec = (BitVec.ofNat 64 Y).sshiftRight 1 := rfl
  rw [e1, L_toNat, BitVec.sshiftRight_eq_of_msb_false (by rw [BitVec.msb_eq_decide, BitVec.toNat_ofNat]; simp; omega), BitVec.toNat_ushiftRight, BitVec.toNat_ofNat, Nat.shiftRight_eq_div_pow]
  omega
theorem L_zero {Y : Nat} (hY : Y < 2 ^ 64) : Int64.ofNat Y = 0 ↔ Y = 0 := by
  constructor
  · intro h
    have := congrArg (fun z : Int64 => z.toBitVec.toNat) h
    have this : (Int64.ofNat Y).toBitVec.toNat = 0 := this
    rw [L_toNat, Nat.mod_eq_of_lt hY] at this
    exact this
  · rintro rfl; rfl
theorem L_ones {Y : Nat} (hY : Y < 2 ^ 32) : (Int64.ofNat Y &&& (Int64.ofNat Y + 1) = 0) ↔ ∃ k, Y + 1 = 2 ^ k := by
  rw [← ones_i]
  have e : Int64.ofNat Y &&& (Int64.ofNat Y + 1) = Int64.ofNat (Y &&& (Y + 1)) := by
    refine Int64.toBitVec_inj.mp (BitVec.eq_of_toNat_eq ?_)
    have hl : Y &&& (Y + 1) ≤ Y := Nat.and_le_left
    rw [Int64.toBitVec_and, BitVec.toNat_and, Int64.toBitVec_add, BitVec.toNat_add, L_toNat, L_toNat, show (1 : Int64).toBitVec.toNat = 1 from rfl, Nat.mod_eq_of_lt (show Y < 2 ^ 64 by omega), Nat.mod_eq_of_lt (show Y + 1 < 2 ^ 64 by omega), Nat.mod_eq_of_lt (show Y &&& (Y + 1) < 2 ^ 64 by omega)]
  rw [e]
  have hl : Y &&& (Y + 1) ≤ Y := Nat.and_le_left
  exact L_zero (by omega)
section Mk
variable {t : moS}
theorem moSS_ow {k : Nat} {v w : Int32} : moSS (moSS t k v) k w = moSS t k w := by
  unfold moSS
  refine Prod.ext (funext fun j => ?_) rfl
  show (if j = k then w else if j = k then v else t.S j) = if j = k then w else t.S j
  by_cases c : j = k
  · rw [if_pos c, if_pos c]
  · rw [if_neg c, if_neg c, if_neg c]
theorem moSS_id {k : Nat} {v : Int32} (h : t.S k = v) : moSS t k v = t := by
  unfold moSS
  refine Prod.ext (funext fun j => ?_) rfl
  show (if j = k then v else t.S j) = t.S j
  by_cases c : j = k
  · rw [if_pos c, c]; exact h.symm
  · rw [if_neg c]
/-- what it comes to, at the end of the count -/
noncomputable def mkE (a3 : Int64) (t : moS) : Option (Int32 × moS) := if (a3 &&& (a3 + (1 : Int64))) = (0 : Int64) then (if (M_isPrefix (moS.Z t 13) (0 : Int64) (moS.S t 15)) = 0 then some (0, t) else some (1, t)) else some (0, t)
theorem m_bl {a3 : Int64} : ∀ (n Y : Nat) (t : moS), Y < 2 ^ n → n ≤ 32 → M_isEntry_b155 t a3 (Int64.ofNat Y) = mkE a3 (moSS t 15 (t.S 15 - nI (blN n Y)))
  | n, 0, t, _, _ => by
    have e : blN n 0 = 0 := by cases n <;> rfl
    rw [e, show nI 0 = 0 from rfl, Int32.sub_zero, moSS_id rfl]
    unfold M_isEntry_b155
    refine lp_x ?_
    show M_isEntry_s155 t a3 (Int64.ofNat 0) = _
    unfold M_isEntry_s155
    rw [if_pos (show Int64.ofNat 0 = 0 from rfl)]
    rfl
  | 0, Y + 1, t, h, _ => absurd h (by omega)
  | n + 1, Y + 1, t, h, hn => by
    have h32 : 2 ^ (n + 1) ≤ 2 ^ 32 := Nat.pow_le_pow_right (by decide) hn
    rw [Nat.pow_succ] at h
    rw [Nat.pow_succ] at h32
    have st : M_isEntry_s155 t a3 (Int64.ofNat (Y + 1)) = some (.inl (Int64.ofNat ((Y + 1) / 2), moSS t 15 (t.S 15 - 1))) := by
      unfold M_isEntry_s155
      rw [if_neg (fun z => absurd ((L_zero (by omega)).mp z) (by omega)), L_half (by omega)]
      rfl
    have e1 : M_isEntry_b155 t a3 (Int64.ofNat (Y + 1)) = M_isEntry_b155 (moSS t 15 (t.S 15 - 1)) a3 (Int64.ofNat ((Y + 1) / 2)) := by
      unfold M_isEntry_b155
      exact lp_l (f := fun x : Int64 × moS => M_isEntry_s155 x.2 a3 x.1) st
    rw [e1, m_bl n ((Y + 1) / 2) (moSS t 15 (t.S 15 - 1)) (by omega) (by omega), moSS_ow, moSS_s]
    have e2 : blN (n + 1) (Y + 1) = blN n ((Y + 1) / 2) + 1 := if_neg (by omega)
    rw [e2]
    have e3 : t.S 15 - 1 - nI (blN n ((Y + 1) / 2)) = t.S 15 - nI (blN n ((Y + 1) / 2) + 1) := by
      rw [← nI_1, Int32.sub_eq_add_neg, Int32.sub_eq_add_neg, Int32.sub_eq_add_neg, Int32.neg_add, Int32.sub_eq_add_neg, Int32.add_assoc, Int32.add_comm (-1)]
    rw [e3]
/-- a mask of four bytes: the model's answer -/
theorem m_mask {X : Nat} (hX : X < 2 ^ 32) (h15 : t.S 15 = 32) : M_isEntry_b155 t ((Int64.ofNat X ^^^ ((-1) : Int64)) &&& (4294967295 : Int64)) ((Int64.ofNat X ^^^ ((-1) : Int64)) &&& (4294967295 : Int64)) = (if nI X = mkI (bcI (nI X)) then (if M_isPrefix (t.Z 13) 0 (bcI (nI X)) = 0 then some (0, moSS t 15 (bcI (nI X))) else some (1, moSS t 15 (bcI (nI X)))) else some (0, moSS t 15 (nI (32 - blN 32 (2 ^ 32 - 1 - X))))) := by
  obtain ⟨m1, m2⟩ := mask_c hX
  have hbl := bl_le 32 (2 ^ 32 - 1 - X)
  have e15 : t.S 15 - nI (blN 32 (2 ^ 32 - 1 - X)) = nI (32 - blN 32 (2 ^ 32 - 1 - X)) := by
    rw [h15, show (32 : Int32) = nI 32 from rfl, pk_sub hbl]
  rw [L_inv hX, m_bl 32 (2 ^ 32 - 1 - X) t (by omega) (Nat.le_refl _), e15]
  unfold mkE
  by_cases c : ∃ k, k ≤ 32 ∧ X + 2 ^ k = 2 ^ 32
  · obtain ⟨k, h1, h2⟩ := c
    rw [if_pos ((L_ones (by omega)).mpr ⟨k, by omega⟩), if_pos (m1.mpr ⟨k, h1, h2⟩), m2 k h1 h2, bl_k 32 k (2 ^ 32 - 1 - X) h1 (by omega), moSS_s]
    rfl
  · rw [if_neg (fun z => c (m1.mp z)), if_neg]
    rw [L_ones (by omega)]
    rintro ⟨k, hk⟩
    refine c ⟨k, ?_, by omega⟩
    have : 2 ^ k ≤ 2 ^ 32 := by omega
    exact (Nat.pow_le_pow_iff_right (by decide)).mp this
end Mk
