/-! Numbers in texts. -/
/-- byte i of a row, without sign -/
def vc (l : List Int32) (i : Nat) : Nat := (l.getD i 0).toBitVec.toNat % 256
theorem vc_lt (l : List Int32) (i : Nat) : vc l i < 256 := Nat.mod_lt _ (by decide)
theorem v_at_vc {l : List Int32} {i : Nat} (h : i < l.length) : v_at l i = nI (vc l i) := by
  unfold v_at vc
  rw [if_pos h, pk_and _ 8 (by decide)]
def oI : Option Nat → Int32
  | some n => nI n
  | none => -1
/-- k digits from i on, behind the number a -/
def dgs (u : Nat → Nat) : Nat → Nat → Nat → Option Nat
  | 0, _, a => some a
  | k + 1, i, a => if 48 ≤ u i ∧ u i ≤ 57 then dgs u k (i + 1) (10 * a + (u i - 48)) else none
theorem dgs_lt (u : Nat → Nat) : ∀ k i a v, dgs u k i a = some v → v + 1 ≤ (a + 1) * 10 ^ k
  | 0, i, a, v, h => by
    have h : some a = some v := h
    cases h
    omega
  | k + 1, i, a, v, h => by
    have h : (if 48 ≤ u i ∧ u i ≤ 57 then dgs u k (i + 1) (10 * a + (u i - 48)) else none) = some v := h
    split at h
    · have h1 := dgs_lt u k (i + 1) _ v h
      refine Nat.le_trans h1 ?_
      rw [Nat.pow_succ, Nat.mul_comm (10 ^ k) 10, ← Nat.mul_assoc]
      exact Nat.mul_le_mul_right _ (by omega)
    · cases h
/-- a number of one to three digits without 0s ahead, from f to t -/
def plain (u : Nat → Nat) (f t : Nat) : Option Nat := if f + 1 ≤ t ∧ t ≤ f + 3 ∧ ¬ (f + 1 < t ∧ u f = 48) then dgs u (t - f) f 0 else none
theorem plain_lt {u : Nat → Nat} {f t v : Nat} (h : plain u f t = some v) : v < 1000 := by
  unfold plain at h
  split at h
  · rename_i c
    have h1 := dgs_lt u _ _ _ _ h
    have h2 : (10 : Nat) ^ (t - f) ≤ 10 ^ 3 := Nat.pow_le_pow_right (by decide) (by omega)
    omega
  · cases h
set_option maxRecDepth 100000 in
set_option maxHeartbeats 2000000 in
theorem v_Pr_plainNumber (base : Nat) (sa : Nat → Nat) {b d cap f t : Nat} {l : List Int32} {M : pmM} {Rt : pmR} {kc ks : Nat} (hv : vBy base M b l d cap) (ht : t ≤ l.length + 1) (hft : f + 1 ≤ t → t ≤ l.length) (hf : f ≤ l.length + 1) (k : Rt (some (.int (oI (plain (vc l) f t)))) M kc ks) : kP_Pr_plainNumber base sa [.ref b, .int (nI f), .int (nI t)] M kc ks Rt := by
  have hsm := hv.small
  have e48 : (Int8.ofInt 48).toInt32 = nI 48 := by decide
  have e9 : (Int8.ofInt 9).toInt32 = nI 9 := by decide
  have e10 : (Int8.ofInt 10).toInt32 = nI 10 := by decide
  have hd : (nI t - nI f).toInt = (t : Int) - f := pk_sub_toInt (by omega) (by omega)
  have o1 : (Int32.ofInt 1).toInt = 1 := by decide
  have o3 : (Int32.ofInt 3).toInt = 3 := by decide
  refine ⟨Nat.le_of_ble_eq_true rfl, fun G hG => ?_⟩
  have h29 : plain (vc l) f t = none → ∀ L, G 29 L [] M kc ks := by
    intro hp L
    rw [hp] at k
    refine pgs hG rfl rfl ?_
    exact pg_ri hG rfl rfl rfl k
  have loop : ∀ (q i a : Nat), t ≤ l.length → i + q = t → q ≤ 3 → a < 10 ^ (3 - q) → dgs (vc l) q i a = plain (vc l) f t → G 37 [(5, .int (nI i)), (4, .int (nI a)), (0, .ref b), (2, .int (nI t))] [] M kc ks := by
    intro q
    induction q with
    | zero =>
      intro i a htl hi _ ha hp
      have ha : a < 1000 := ha
      have hp : some a = plain (vc l) f t := hp
      rw [← hp] at k
      refine pgs hG rfl rfl ?_
      refine pgs hG rfl rfl ?_
      refine pi_ge hG (t := 84) rfl rfl (fun _ => ?_) (fun c => absurd (nI_le (by omega) (by omega)) c)
      refine pgs hG rfl rfl ?_
      exact pg_ri hG rfl rfl rfl k
    | succ q ih =>
      intro i a htl hi hq ha hp
      have e3 : 10 ^ (3 - q) = 10 * 10 ^ (3 - (q + 1)) := by rw [show 3 - q = (3 - (q + 1)) + 1 by omega, Nat.pow_succ, Nat.mul_comm]
      have hp3 : 10 ^ (3 - q) ≤ 10 ^ 3 := Nat.pow_le_pow_right (by decide) (by omega)
      have hp : (if 48 ≤ vc l i ∧ vc l i ≤ 57 then dgs (vc l) q (i + 1) (10 * a + (vc l i - 48)) else none) = plain (vc l) f t := hp
      have hvl := vc_lt l i
      refine pgs hG rfl rfl ?_
      refine pgs hG rfl rfl ?_
      refine pi_ge hG (t := 84) rfl rfl (fun c => absurd c (nI_ge (by omega) (by omega))) (fun _ => ?_)
      refine pgs hG rfl rfl ?_
      refine pgs hG rfl rfl ?_
      refine pg_cal hG 0 rfl rfl (Nat.le_of_ble_eq_true rfl) (by decide) (Nat.le_of_ble_eq_true rfl) ?_
      refine pm_rcv_of (As' := [.int (nI i)]) hv.ob (v_By_at base sa hv (by omega) ?_)
      rw [v_at_vc (by omega)]
      refine pgs hG rfl rfl ?_
      refine pgs hG rfl rfl ?_
      rw [e48]
      refine pgc hG rfl rfl (Nat.le_of_ble_eq_true rfl) ?_
      refine pgs hG rfl rfl ?_
      refine pz_lt hG (t := 66) rfl rfl (fun c => ?_) (fun c => ?_)
      · have hlt : vc l i < 48 := by
          rcases Nat.lt_or_ge (vc l i) 48 with h | h
          · exact h
          · rw [pk_sub h] at c
            exact absurd c (nI_pos (by omega))
        rw [if_neg (by omega)] at hp
        rw [← hp] at k
        refine pgs hG rfl rfl ?_
        exact pg_ri hG rfl rfl rfl k
      · have hge : 48 ≤ vc l i := by
          rcases Nat.lt_or_ge (vc l i) 48 with h | h
          · exact absurd (pk_sneg (by omega) h) c
          · exact h
        rw [pk_sub hge]
        refine pgs hG rfl rfl ?_
        refine pgs hG rfl rfl ?_
        rw [e9]
        refine pi_le hG (t := 68) rfl rfl (fun c2 => ?_) (fun c2 => ?_)
        · have h9 : vc l i ≤ 57 := by
            rcases Nat.lt_or_ge 57 (vc l i) with h | h
            · exact absurd c2 (nI_ge (by omega) (by omega))
            · exact h
          rw [if_pos ⟨hge, h9⟩] at hp
          refine pgs hG rfl rfl ?_
          refine pgs hG rfl rfl ?_
          refine pgs hG rfl rfl ?_
          refine pgs hG rfl rfl ?_
          refine pgs hG rfl rfl ?_
          rw [e10, pk_mul, nI_add]
          refine pgc hG rfl rfl (Nat.le_of_ble_eq_true rfl) ?_
          refine pgc hG rfl rfl (Nat.le_of_ble_eq_true rfl) ?_
          refine pg_go hG (t := 37) rfl rfl ?_
          have h := ih (i + 1) (10 * a + (vc l i - 48)) htl (by omega) (by omega) (by omega) hp
          rw [nI_succ, Nat.mul_comm 10 a] at h
          exact pg_wl hG [0, 1, 3, 4] rfl h
        · have h9 : ¬ vc l i ≤ 57 := fun h => c2 (nI_le (by omega) (by omega))
          rw [if_neg (by omega)] at hp
          rw [← hp] at k
          refine pgs hG rfl rfl ?_
          exact pg_ri hG rfl rfl rfl k
  have h31 : f + 1 ≤ t → t ≤ f + 3 → ¬ (f + 1 < t ∧ vc l f = 48) → G 31 [(3, .int (nI t - nI f)), (0, .ref b), (1, .int (nI f)), (2, .int (nI t))] [] M kc ks := by
    intro c1 c2 c3
    refine pgs hG rfl rfl ?_
    refine pgc hG rfl rfl (Nat.le_of_ble_eq_true rfl) ?_
    refine pgs hG rfl rfl ?_
    refine pgc hG rfl rfl (Nat.le_of_ble_eq_true rfl) ?_
    refine pg_wl hG [0, 1, 3, 5] rfl (loop (t - f) f 0 (hft c1) (by omega) (by omega) (Nat.pow_pos (by decide)) ?_)
    unfold plain
    rw [if_pos ⟨c1, c2, c3⟩]
  refine pgs hG rfl rfl ?_
  refine pgs hG rfl rfl ?_
  refine pgs hG rfl rfl ?_
  refine pgc hG rfl rfl (Nat.le_of_ble_eq_true rfl) ?_
  refine pgs hG rfl rfl ?_
  refine pgs hG rfl rfl ?_
  refine pi_lt hG (t := 29) rfl rfl (fun c => ?_) (fun c => ?_)
  · rw [Int32.lt_iff_toInt_lt, hd, o1] at c
    exact h29 (if_neg (by omega)) _
  rw [Int32.lt_iff_toInt_lt, hd, o1] at c
  refine pgs hG rfl rfl ?_
  refine pgs hG rfl rfl ?_
  refine pi_gt hG (t := 29) rfl rfl (fun c2 => ?_) (fun c2 => ?_)
  · rw [Int32.lt_iff_toInt_lt, hd, o3] at c2
    exact h29 (if_neg (by omega)) _
  rw [Int32.lt_iff_toInt_lt, hd, o3] at c2
  refine pgs hG rfl rfl ?_
  refine pgs hG rfl rfl ?_
  refine pi_le hG (t := 31) rfl rfl (fun c3 => ?_) (fun c3 => ?_)
  · rw [Int32.le_iff_toInt_le, hd, o1] at c3
    exact h31 (by omega) (by omega) (by omega)
  rw [Int32.le_iff_toInt_le, hd, o1] at c3
  refine pgs hG rfl rfl ?_
  refine pgs hG rfl rfl ?_
  refine pg_cal hG 0 rfl rfl (Nat.le_of_ble_eq_true rfl) (by decide) (Nat.le_of_ble_eq_true rfl) ?_
  have hfl : f < l.length := by have := hft (by omega); omega
  refine pm_rcv_of (As' := [.int (nI f)]) hv.ob (v_By_at base sa hv (by omega) ?_)
  rw [v_at_vc hfl]
  have hvl := vc_lt l f
  refine pgs hG rfl rfl ?_
  rw [e48]
  refine pi_ne hG (t := 31) rfl rfl (fun c4 => ?_) (fun c4 => ?_)
  · exact h31 (by omega) (by omega) (fun q => c4 (by rw [q.2]))
  · have h48 : vc l f = 48 := (nI_eq (by omega) (by omega)).mp c4
    exact h29 (if_neg (by omega)) _
/-- where the first byte c stands from i on, within k places; else behind them -/
def fnd (u : Nat → Nat) (c : Nat) : Nat → Nat → Nat
  | 0, i => i
  | k + 1, i => if u i = c then i else fnd u c k (i + 1)
theorem fnd_le (u : Nat → Nat) (c : Nat) : ∀ k i, i ≤ fnd u c k i ∧ fnd u c k i ≤ i + k
  | 0, i => ⟨Nat.le_refl _, Nat.le_refl _⟩
  | k + 1, i => by
    show i ≤ (if u i = c then i else fnd u c k (i + 1)) ∧ (if u i = c then i else fnd u c k (i + 1)) ≤ i + (k + 1)
    have := fnd_le u c k (i + 1)
    split <;> omega
/-- eight bits more -/
def sh8 (a : Int64) (n : Nat) : Int64 := (a <<< ((8 : Int32).toInt64 &&& 63)) ||| (nI n).toInt64
/-- r numbers with dots, from i to t, behind the bits a -/
def four (u : Nat → Nat) (t : Nat) : Nat → Nat → Int64 → Option Int64
  | 0, _, a => some a
  | r + 1, i, a => match plain u i (fnd u 46 (t - i) i) with
    | some n => if n ≤ 255 ∧ (r = 0 ↔ fnd u 46 (t - i) i = t) then four u t r (fnd u 46 (t - i) i + 1) (sh8 a n) else none
    | none => none
