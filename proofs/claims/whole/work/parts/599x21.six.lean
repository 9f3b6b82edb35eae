/-! Addresses of six: what is read. -/
/-- groups of digits with colons, from i to t: the groups, and where the gap is -/
def sx6 (u : Nat → Nat) (t : Nat) : Nat → Nat → List Nat → Option Nat → Option (List Nat × Option Nat)
  | 0, _, gs, gap => some (gs, gap)
  | r + 1, i, gs, gap => if i < t then
      match hexN u i (fnd u 58 (t - i) i) with
      | none => none
      | some v => if gs.length = 8 then none else
          if fnd u 58 (t - i) i < t then
            if fnd u 58 (t - i) i + 1 = t then none else
            if u (fnd u 58 (t - i) i + 1) = 58 then (if gap = none then sx6 u t r (fnd u 58 (t - i) i + 2) (gs ++ [v]) (some (gs.length + 1)) else none)
            else sx6 u t r (fnd u 58 (t - i) i + 1) (gs ++ [v]) gap
          else sx6 u t r (fnd u 58 (t - i) i + 1) (gs ++ [v]) gap
    else some (gs, gap)
/-- the eight groups -/
def exp8 (gs : List Nat) (gap : Option Nat) : Option (List Nat) := match gap with
  | none => if gs.length = 8 then some gs else none
  | some g => if gs.length < 8 then some (gs.take g ++ List.replicate (8 - gs.length) 0 ++ gs.drop g) else none
def sixE (o : Option (List Nat × Option Nat)) : Option (List Nat) := match o with
  | none => none
  | some (gs, gap) => exp8 gs gap
/-- what groups are worth -/
def nv (gs : List Nat) : Nat := gs.foldl (fun a g => 65536 * a + g) 0
theorem nv_sn (gs : List Nat) (v : Nat) : nv (gs ++ [v]) = 65536 * nv gs + v := by unfold nv; rw [List.foldl_append]; rfl
theorem nv_ap : ∀ hs gs : List Nat, nv (gs ++ hs) = 65536 ^ hs.length * nv gs + nv hs
  | [], gs => by rw [List.append_nil]; show nv gs = 65536 ^ 0 * nv gs + 0; omega
  | v :: hs, gs => by
    have h1 := nv_ap hs (gs ++ [v])
    have h2 : nv (v :: hs) = 65536 ^ hs.length * nv [v] + nv hs := nv_ap hs [v]
    rw [List.append_assoc] at h1
    rw [show gs ++ v :: hs = gs ++ ([v] ++ hs) from rfl, h1, h2, nv_sn, show nv [v] = v from (by show 65536 * 0 + v = v; omega), List.length_cons, Nat.pow_succ, Nat.mul_add, ← Nat.mul_assoc]
    omega
theorem nv_lt : ∀ gs : List Nat, (∀ g, g ∈ gs → g < 65536) → nv gs < 65536 ^ gs.length
  | [], _ => by show 0 < 65536 ^ 0; decide
  | v :: hs, h => by
    have h1 := nv_lt hs (fun g hg => h g (List.mem_cons_of_mem _ hg))
    have h2 := h v List.mem_cons_self
    have h3 : nv (v :: hs) = 65536 ^ hs.length * nv [v] + nv hs := nv_ap hs [v]
    rw [h3, show nv [v] = v from (by show 65536 * 0 + v = v; omega), List.length_cons, Nat.pow_succ]
    have h4 : 65536 ^ hs.length * (v + 1) ≤ 65536 ^ hs.length * 65536 := Nat.mul_le_mul_left _ (by omega)
    rw [Nat.mul_add] at h4
    omega
theorem nv_rep (n : Nat) : nv (List.replicate n 0) = 0 := by
  induction n with
  | zero => rfl
  | succ n ih => rw [List.replicate_succ', nv_sn, ih]
theorem L_ofNat {n : Nat} (h : n < 2 ^ 31) : (nI n).toInt64 = Int64.ofNat n := by
  refine Int64.toInt_inj.mp ?_
  rw [Int32.toInt_toInt64, Int64.toInt_ofNat_of_lt (by omega)]
  exact nI_toInt h
theorem L_sh16 {B D : Nat} (hB : B < 2 ^ 64) (hD : D < 65536) : (Int64.ofNat B <<< ((16 : Int32).toInt64 &&& 63)) ||| Int64.ofNat D = Int64.ofNat (65536 * B % 2 ^ 64 + D) := by
  have e1 : (Int64.ofNat B <<< ((16 : Int32).toInt64 &&& 63)).toBitVec = (Int64.ofNat B).toBitVec <<< 16 := rfl
  have eB : (Int64.ofNat B).toBitVec = BitVec.ofNat 64 B := rfl
  have eD : (Int64.ofNat D).toBitVec = BitVec.ofNat 64 D := rfl
  refine Int64.toBitVec_inj.mp (BitVec.eq_of_toNat_eq ?_)
  rw [Int64.toBitVec_or, e1, eB, eD]
  show _ = (BitVec.ofNat 64 (65536 * B % 2 ^ 64 + D)).toNat
  have h1 : B <<< 16 % 2 ^ 64 = (B % 2 ^ 48) <<< 16 := by rw [Nat.shiftLeft_eq, Nat.shiftLeft_eq]; omega
  have h2 : 65536 * B % 2 ^ 64 = (B % 2 ^ 48) <<< 16 := by rw [Nat.shiftLeft_eq]; omega
  have h3 : (B % 2 ^ 48) <<< 16 < 2 ^ 64 - 65535 := by rw [Nat.shiftLeft_eq]; omega
  rw [BitVec.toNat_or, BitVec.toNat_shiftLeft, BitVec.toNat_ofNat, BitVec.toNat_ofNat, BitVec.toNat_ofNat, Nat.mod_eq_of_lt hB, Nat.mod_eq_of_lt (show D < 2 ^ 64 by omega), h1, h2, Nat.mod_eq_of_lt (show (B % 2 ^ 48) <<< 16 + D < 2 ^ 64 by omega), ← Nat.shiftLeft_add_eq_or_of_lt (show D < 2 ^ 16 by omega)]
theorem L_sh16z {B : Nat} (hB : B < 2 ^ 64) : (Int64.ofNat B <<< ((16 : Int32).toInt64 &&& 63)) = Int64.ofNat (65536 * B % 2 ^ 64) := by
  have := L_sh16 (D := 0) hB (by decide)
  rw [show Int64.ofNat 0 = 0 from rfl, Int64.or_zero] at this
  exact this
theorem L_ush48 {B : Nat} (hB : B < 2 ^ 64) : ush_L (Int64.ofNat B) 48 = Int64.ofNat (B / 2 ^ 48) := by
  refine Int64.toBitVec_inj.mp (BitVec.eq_of_toNat_eq ?_)
  show ((Int64.ofNat B).toUInt64 >>> ((48 : Int32).toInt64.toUInt64 &&& Int64.toUInt64 63)).toNat = (BitVec.ofNat 64 (B / 2 ^ 48)).toNat
  rw [UInt64.toNat_shiftRight, BitVec.toNat_ofNat, Nat.mod_eq_of_lt (show B / 2 ^ 48 < 2 ^ 64 by omega)]
  show (BitVec.ofNat 64 B).toNat >>> 48 = _
  rw [BitVec.toNat_ofNat, Nat.mod_eq_of_lt hB, Nat.shiftRight_eq_div_pow]
/-- the two halves of what x holds -/
def HV (s : cS) (x V : Nat) : Prop := V < 2 ^ 128 ∧ s.J 101 x = Int64.ofNat (V / 2 ^ 64) ∧ s.J 102 x = Int64.ofNat (V % 2 ^ 64) ∧ s.I 100 x = 6 ∧ s.I 103 x = 128
/-- a group more -/
theorem HV.sh {s : cS} {x V D : Nat} (h : HV s x V) (hV : V < 2 ^ 112) (hD : D < 65536) : HV (cSJ (cSJ s 101 x ((s.J 101 x <<< ((16 : Int32).toInt64 &&& 63)) ||| ush_L (s.J 102 x) 48)) 102 x ((s.J 102 x <<< ((16 : Int32).toInt64 &&& 63)) ||| Int64.ofNat D)) x (65536 * V + D) := by
  obtain ⟨h0, h1, h2, h3, h4⟩ := h
  refine ⟨by omega, ?_, ?_, h3, h4⟩
  · rw [cSJ_g (by decide), cSJ_s, h1, h2, L_ush48 (Nat.mod_lt _ (by decide)), L_sh16 (by omega) (by omega)]
    congr 1
    omega
  · rw [cSJ_s, h2, L_sh16 (by omega) hD]
    congr 1
    omega
theorem HV.shz {s : cS} {x V : Nat} (h : HV s x V) (hV : V < 2 ^ 112) : HV (cSJ (cSJ s 101 x ((s.J 101 x <<< ((16 : Int32).toInt64 &&& 63)) ||| ush_L (s.J 102 x) 48)) 102 x (s.J 102 x <<< ((16 : Int32).toInt64 &&& 63))) x (65536 * V) := by
  have := h.sh hV (D := 0) (by decide)
  rw [show Int64.ofNat 0 = 0 from rfl, Int64.or_zero] at this
  exact this
