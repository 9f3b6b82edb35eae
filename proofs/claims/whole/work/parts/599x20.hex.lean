/-! Numbers of hexadecimal digits, read on both sides. -/
/-- what a byte is worth as a digit -/
def hx (v : Nat) : Option Nat := if 48 ≤ v ∧ v ≤ 57 then some (v - 48) else if 97 ≤ v ∧ v ≤ 102 then some (v - 87) else if 65 ≤ v ∧ v ≤ 70 then some (v - 55) else none
theorem hx_lt {v d : Nat} (h : hx v = some d) : d < 16 := by
  unfold hx at h
  split at h
  · cases h; omega
  split at h
  · cases h; omega
  split at h
  · cases h; omega
  · cases h
/-- k digits from i on, behind the number a -/
def hxs (u : Nat → Nat) : Nat → Nat → Nat → Option Nat
  | 0, _, a => some a
  | k + 1, i, a => match hx (u i) with
    | some d => hxs u k (i + 1) (16 * a + d)
    | none => none
theorem hxs_lt (u : Nat → Nat) : ∀ k i a v, hxs u k i a = some v → v + 1 ≤ (a + 1) * 16 ^ k
  | 0, i, a, v, h => by
    have h : some a = some v := h
    cases h
    omega
  | k + 1, i, a, v, h => by
    have h : (match hx (u i) with
      | some d => hxs u k (i + 1) (16 * a + d)
      | none => none) = some v := h
    cases e : hx (u i) with
    | none => rw [e] at h; cases h
    | some d =>
      rw [e] at h
      have := hx_lt e
      refine Nat.le_trans (hxs_lt u k (i + 1) _ v h) ?_
      rw [Nat.pow_succ, Nat.mul_comm (16 ^ k) 16, ← Nat.mul_assoc]
      exact Nat.mul_le_mul_right _ (by omega)
/-- a number of one to four digits, from f to e -/
def hexN (u : Nat → Nat) (f e : Nat) : Option Nat := if f + 1 ≤ e ∧ e ≤ f + 4 then hxs u (e - f) f 0 else none
theorem hexN_lt {u : Nat → Nat} {f e v : Nat} (h : hexN u f e = some v) : v < 65536 := by
  unfold hexN at h
  split at h
  · have h1 := hxs_lt u _ _ _ _ h
    have h2 : (16 : Nat) ^ (e - f) ≤ 16 ^ 4 := Nat.pow_le_pow_right (by decide) (by omega)
    omega
  · cases h
theorem hexN_ge {u : Nat → Nat} {f e v : Nat} (h : hexN u f e = some v) : f + 1 ≤ e := by
  unfold hexN at h
  split at h
  · rename_i c; exact c.1
  · cases h
theorem sh4_or {a d : Nat} (ha : a < 4096) (hd : d < 16) : (nI a <<< ((4 : Int32) &&& 31)) ||| nI d = nI (16 * a + d) := by
  have e1 : (nI a <<< ((4 : Int32) &&& 31)).toBitVec = (nI a).toBitVec <<< 4 := rfl
  have ea : (nI a).toBitVec = BitVec.ofNat 32 a := rfl
  have ed : (nI d).toBitVec = BitVec.ofNat 32 d := rfl
  refine Int32.toBitVec_inj.mp (BitVec.eq_of_toNat_eq ?_)
  rw [Int32.toBitVec_or, e1, ea, ed]
  show _ = (BitVec.ofNat 32 (16 * a + d)).toNat
  rw [BitVec.toNat_or, BitVec.toNat_shiftLeft, BitVec.toNat_ofNat, BitVec.toNat_ofNat, BitVec.toNat_ofNat, Nat.mod_eq_of_lt (show a < 2 ^ 32 by omega), Nat.mod_eq_of_lt (show d < 2 ^ 32 by omega), Nat.mod_eq_of_lt (show 16 * a + d < 2 ^ 32 by omega)]
  have : a <<< 4 = 16 * a := by rw [Nat.shiftLeft_eq]; omega
  rw [Nat.mod_eq_of_lt (show a <<< 4 < 2 ^ 32 by rw [this]; omega), ← Nat.shiftLeft_add_eq_or_of_lt (show d < 2 ^ 4 by omega), this]
section Hx
variable {sa : Nat → Nat} {b w cap kc ks f e : Nat} {s : cS} {l : List Int32} {Q : Int32 → cS → Nat → Nat → Prop}
theorem w_hex (hb : BL s b w l cap) (he : e ≤ l.length + 1) (hfe : f + 1 ≤ e → e ≤ l.length) (hf : f ≤ l.length + 1) (k : Q (oI (hexN (vc l) f e)) s kc ks) : C_Pr_hexNumber sa (some b) (nI f) (nI e) s kc ks Q := by
  have hs := hb.sm
  have hd : (nI e - nI f).toInt = (e : Int) - f := pk_sub_toInt (by omega) (by omega)
  have o1 : (1 : Int32).toInt = 1 := by decide
  have o4 : (4 : Int32).toInt = 4 := by decide
  have no : hexN (vc l) f e = none → Q (-1) s kc ks := fun h => by rw [h] at k; exact k
  have ob := hb.1
  unfold C_Pr_hexNumber
  by_cases c : nI e - nI f < 1
  · refine ifT c (no (if_neg ?_))
    rw [Int32.lt_iff_toInt_lt, hd, o1] at c
    omega
  refine ifF c ?_
  rw [Int32.lt_iff_toInt_lt, hd, o1] at c
  by_cases c2 : 4 < nI e - nI f
  · refine ifT c2 (no (if_neg ?_))
    rw [Int32.lt_iff_toInt_lt, hd, o4] at c2
    omega
  refine ifF c2 ?_
  rw [Int32.lt_iff_toInt_lt, hd, o4] at c2
  unfold C_Pr_hexNumber_b21
  intro P hP
  have hel : e ≤ l.length := hfe (by omega)
  have loop : ∀ (q i a : Nat), i + q = e → q ≤ 4 → a < 16 ^ (4 - q) → hxs (vc l) q i a = hexN (vc l) f e → P (nI a) (nI i) s kc ks := by
    intro q
    induction q with
    | zero =>
      intro i a hi _ ha hp
      have hp : some a = hexN (vc l) f e := hp
      rw [← hp] at k
      apply hP
      unfold C_Pr_hexNumber_s21
      exact ifF (nI_nlt (by omega) (by omega)) k
    | succ q ih =>
      intro i a hi hq ha hp
      have e3 : 16 ^ (4 - q) = 16 * 16 ^ (4 - (q + 1)) := by rw [show 4 - q = (4 - (q + 1)) + 1 by omega, Nat.pow_succ, Nat.mul_comm]
      have e4 : 16 ^ (4 - (q + 1)) ≤ 16 ^ 3 := Nat.pow_le_pow_right (by decide) (by omega)
      have hvl := vc_lt l i
      have hp : (match hx (vc l i) with
        | some d => hxs (vc l) q (i + 1) (16 * a + d)
        | none => none) = hexN (vc l) f e := hp
      apply hP
      unfold C_Pr_hexNumber_s21
      refine ifT (nI_lt (by omega) (by omega)) ⟨_, rfl, ob, w_at hb (by omega) ?_⟩
      have b97 : ∀ d, hx (vc l i) = some d → C_Pr_hexNumber_b97 sa (some b) (nI e) (nI a) (nI i) (nI d) s kc ks Q P := by
        intro d hd
        rw [hd] at hp
        have hp : hxs (vc l) q (i + 1) (16 * a + d) = hexN (vc l) f e := hp
        have := hx_lt hd
        unfold C_Pr_hexNumber_b97
        rw [sh4_or (by omega) (by omega), nI_1]
        exact ih (i + 1) _ (by omega) (by omega) (by omega) hp
      have em : ∀ m k : Nat, m ≤ k → k < 256 → nI k + (-(nI m)) = nI (k - m) := fun m k h _ => by rw [← Int32.sub_eq_add_neg]; exact pk_sub h
      have b75 : ¬ (48 ≤ vc l i ∧ vc l i ≤ 57) → ¬ (97 ≤ vc l i ∧ vc l i ≤ 102) → C_Pr_hexNumber_b75 sa (some b) (nI e) (nI a) (nI i) (nI (vc l i)) s kc ks Q P := by
        intro d1 d2
        unfold C_Pr_hexNumber_b75
        by_cases d3 : vc l i < 65
        · refine ifT (nI_lt (b := 65) d3 (by omega)) (no ?_)
          rw [show hx (vc l i) = none by unfold hx; rw [if_neg d1, if_neg d2, if_neg (by omega)]] at hp
          exact hp.symm
        refine ifF (nI_nlt (b := 65) (by omega) (by omega)) ?_
        by_cases d4 : 70 < vc l i
        · refine ifT (nI_lt (a := 70) d4 (by omega)) (no ?_)
          rw [show hx (vc l i) = none by unfold hx; rw [if_neg d1, if_neg d2, if_neg (by omega)]] at hp
          exact hp.symm
        refine ifF (nI_nlt (a := 70) (by omega) (by omega)) ?_
        rw [show nI (vc l i) + (-55) = nI (vc l i - 55) from em 55 _ (by omega) hvl]
        exact b97 _ (by unfold hx; rw [if_neg d1, if_neg d2, if_pos (by omega)])
      have b55 : ¬ (48 ≤ vc l i ∧ vc l i ≤ 57) → C_Pr_hexNumber_b55 sa (some b) (nI e) (nI a) (nI i) (nI (vc l i)) s kc ks Q P := by
        intro d1
        unfold C_Pr_hexNumber_b55
        by_cases d3 : vc l i < 97
        · exact ifT (nI_lt (b := 97) d3 (by omega)) (b75 d1 (by omega))
        refine ifF (nI_nlt (b := 97) (by omega) (by omega)) ?_
        by_cases d4 : 102 < vc l i
        · exact ifT (nI_lt (a := 102) d4 (by omega)) (b75 d1 (by omega))
        refine ifF (nI_nlt (a := 102) (by omega) (by omega)) ?_
        rw [show nI (vc l i) + (-87) = nI (vc l i - 87) from em 87 _ (by omega) hvl]
        exact b97 _ (by unfold hx; rw [if_neg d1, if_pos (by omega)])
      by_cases d3 : vc l i < 48
      · exact ifT (nI_lt (b := 48) d3 (by omega)) (b55 (by omega))
      refine ifF (nI_nlt (b := 48) (by omega) (by omega)) ?_
      by_cases d4 : 57 < vc l i
      · exact ifT (nI_lt (a := 57) d4 (by omega)) (b55 (by omega))
      refine ifF (nI_nlt (a := 57) (by omega) (by omega)) ?_
      rw [show nI (vc l i) + (-48) = nI (vc l i - 48) from em 48 _ (by omega) hvl]
      exact b97 _ (by unfold hx; rw [if_pos (by omega)])
  refine loop (e - f) f 0 (by omega) (by omega) (Nat.pow_pos (by decide)) ?_
  unfold hexN
  rw [if_pos (by omega)]
/-- the model's digit -/
theorem m_hex {v : Nat} (h : v < 256) : M_hexadecimal (nI v) = oI (hx v) := by
  have em : ∀ m k : Nat, m ≤ k → nI k - nI m = nI (k - m) := fun m k h => pk_sub h
  unfold M_hexadecimal M_hexadecimal_b32 M_hexadecimal_b54 hx
  rcases m_dig h with ⟨d1, d2, d3⟩ | ⟨d1, d3⟩
  · rw [if_neg (by rw [d3]; decide), if_pos ⟨d1, d2⟩]
    exact em 48 v d1
  rw [if_pos d3, if_neg d1]
  have b32 : ¬ (97 ≤ v ∧ v ≤ 102) → (if nI v < 65 then (-1 : Int32) else if 70 < nI v then -1 else nI v - 65 + 10) = oI (if 97 ≤ v ∧ v ≤ 102 then some (v - 87) else if 65 ≤ v ∧ v ≤ 70 then some (v - 55) else none) := by
    intro d2
    rw [if_neg d2]
    by_cases c1 : v < 65
    · rw [if_pos (show nI v < 65 from nI_lt (b := 65) c1 (by omega)), if_neg (by omega)]; rfl
    rw [if_neg (show ¬ nI v < 65 from nI_nlt (b := 65) (by omega) (by omega))]
    by_cases c2 : 70 < v
    · rw [if_pos (show 70 < nI v from nI_lt (a := 70) c2 (by omega)), if_neg (by omega)]; rfl
    rw [if_neg (show ¬ 70 < nI v from nI_nlt (a := 70) (by omega) (by omega)), if_pos (by omega)]
    rw [show nI v - 65 = nI (v - 65) from em 65 v (by omega), show nI (v - 65) + 10 = nI (v - 65 + 10) from nI_add _ 10]
    show _ = nI (v - 55)
    congr 1
    omega
  by_cases c1 : v < 97
  · rw [if_pos (show nI v < 97 from nI_lt (b := 97) c1 (by omega))]
    exact b32 (by omega)
  rw [if_neg (show ¬ nI v < 97 from nI_nlt (b := 97) (by omega) (by omega))]
  by_cases c2 : 102 < v
  · rw [if_pos (show 102 < nI v from nI_lt (a := 102) c2 (by omega))]
    exact b32 (by omega)
  rw [if_neg (show ¬ 102 < nI v from nI_nlt (a := 102) (by omega) (by omega)), if_pos (by omega)]
  rw [show nI v - 97 = nI (v - 97) from em 97 v (by omega), show nI (v - 97) + 10 = nI (v - 97 + 10) from nI_add _ 10]
  show _ = nI (v - 87)
  congr 1
  omega
end Hx
