/-! Decimals. -/
/-- the digits of n at the places k down to 0 -/
def dgT (n : Nat) : Nat → List Int32
  | 0 => [nI (48 + n % 10)]
  | k + 1 => nI (48 + n / 10 ^ (k + 1) % 10) :: dgT n k
/-- the highest place, with fuel -/
def dlF : Nat → Nat → Nat
  | 0, _ => 0
  | f + 1, n => if n < 10 then 0 else dlF f (n / 10) + 1
def dec (n : Nat) : List Int32 := dgT n (dlF 9 n)
theorem dlF_le : ∀ f n, dlF f n ≤ f := by
  intro f
  induction f with
  | zero => intro n; exact Nat.le_refl _
  | succ f ih =>
    intro n
    unfold dlF
    split
    · omega
    · have := ih (n / 10)
      omega
theorem dgT_len (n k : Nat) : (dgT n k).length = k + 1 := by
  induction k with
  | zero => rfl
  | succ k ih => show (dgT n k).length + 1 = _; rw [ih]
theorem dec_len (n : Nat) : (dec n).length ≤ 10 := by
  unfold dec
  rw [dgT_len]
  have := dlF_le 9 n
  omega
theorem dgT_app (n k : Nat) : dgT n (k + 1) = dgT (n / 10) k ++ [nI (48 + n % 10)] := by
  induction k with
  | zero => rfl
  | succ k ih =>
    show nI (48 + n / 10 ^ (k + 2) % 10) :: dgT n (k + 1) = nI (48 + n / 10 / 10 ^ (k + 1) % 10) :: dgT (n / 10) k ++ _
    rw [ih, Nat.div_div_eq_div_mul, ← Nat.pow_succ']
    rfl
theorem pw10 {k : Nat} (h : k ≤ 9) : 10 ^ k ≤ 1000000000 := by
  have h1 : 10 ^ k ≤ 10 ^ 9 := Nat.pow_le_pow_right (by decide) h
  exact h1
theorem pw10p (k : Nat) : 0 < 10 ^ k := Nat.pow_pos (by decide)
theorem nI_8 {k : Nat} (h : k < 128) : (nI k).toInt8.toInt32 = nI k := by
  have : ∀ j, j < 128 → (nI j).toInt8.toInt32 = nI j := by decide +kernel
  exact this k h
set_option maxRecDepth 100000 in
/-- addDecimal -/
theorem v_By_addDecimal (base : Nat) (sa : Nat → Nat) {b d cap B n : Nat} {l : List Int32} {M : pmM} {Rt : pmR} {kc ks : Nat} (hv : vBy base M b l d cap) (hB : l.length + 10 ≤ B) (hb : bud B kc ks cap) (hn : n < 2 ^ 31)
    (k : ∀ (M' : pmM) (d' cap' kc' ks' : Nat), vBy base M' b (l ++ dec n) d' cap' → grw M b d cap kc ks M' d' cap' kc' ks' → Rt none M' kc' ks') : kP_By_addDecimal base sa [.ref b, .int (nI n)] M kc ks Rt := by
  refine ⟨Nat.le_of_ble_eq_true rfl, fun G hG => ?_⟩
  have e10 : (Int8.ofInt 10).toInt32 = nI 10 := by decide
  have e9 : (Int8.ofInt 9).toInt32 = nI 9 := by decide
  have e48 : (Int8.ofInt 48).toInt32 = nI 48 := by decide
  have fin : ∀ (i : Nat) (M1 : pmM) (d1 cap1 kc1 ks1 : Nat), i ≤ 10 → vBy base M1 b (l ++ dec n) d1 cap1 → grw M b d cap kc ks M1 d1 cap1 kc1 ks1 → G 31 [(3, .int (nI i)), (2, .int (nI 0)), (0, .ref b), (1, .int (nI n))] [] M1 kc1 ks1 := by
    intro i M1 d1 cap1 kc1 ks1 hi hv1 hg1
    refine pgs hG rfl rfl ?_
    refine pgs hG rfl rfl ?_
    refine pi_ge hG (t := 65) rfl rfl (fun _ => ?_) (fun _ => ?_)
    · exact pg_rv hG rfl rfl (k M1 d1 cap1 kc1 ks1 hv1 hg1)
    · refine pgs hG rfl rfl ?_
      refine pz_le hG (t := 65) rfl rfl (fun _ => ?_) (fun c => absurd (by decide) c)
      exact pg_rv hG rfl rfl (k M1 d1 cap1 kc1 ks1 hv1 hg1)
  have loop2 : ∀ (r i : Nat) (p : List Int32) (M1 : pmM) (d1 cap1 kc1 ks1 : Nat), i + r ≤ 9 → p ++ dgT n r = dec n → vBy base M1 b (l ++ p) d1 cap1 → grw M b d cap kc ks M1 d1 cap1 kc1 ks1 → G 31 [(3, .int (nI i)), (2, .int (nI (10 ^ r))), (0, .ref b), (1, .int (nI n))] [] M1 kc1 ks1 := by
    intro r
    induction r with
    | zero =>
      intro i p M1 d1 cap1 kc1 ks1 hi hp hv1 hg1
      have hpl : p.length + 1 ≤ 10 := by
        have h := congrArg List.length hp
        rw [List.length_append, dgT_len] at h
        have := dec_len n
        omega
      refine pgs hG rfl rfl ?_
      refine pgs hG rfl rfl ?_
      rw [e10]
      refine pi_ge hG (t := 65) rfl rfl (fun c => absurd c (nI_ge (by omega) (by omega))) (fun _ => ?_)
      refine pgs hG rfl rfl ?_
      refine pz_le hG (t := 65) rfl rfl (fun c => absurd c (nI_nle (pw10p 0) (by decide))) (fun _ => ?_)
      refine pgs hG rfl rfl ?_
      refine pgs hG rfl rfl ?_
      refine pgs hG rfl rfl ?_
      refine pgs hG rfl rfl ?_
      refine pgc hG rfl rfl (nI_ne0 (pw10p 0) (by decide)) ?_
      refine pgs hG rfl rfl ?_
      refine pgc hG rfl rfl (by decide) ?_
      refine pgs hG rfl rfl ?_
      rw [e10, e48, pk_div hn (pw10p 0) (by decide), pk_rem (by omega) (by decide) (by decide), nI_add]
      refine pg_cal hG 0 rfl rfl (Nat.le_of_ble_eq_true rfl) (by decide) (Nat.le_of_ble_eq_true rfl) ?_
      refine pm_rcv_of (As' := [.int (nI (48 + n / 10 ^ 0 % 10))]) hv1.ob (v_By_add base sa (B := B) hv1 (by rw [List.length_append]; omega) (bud_tr hb hg1) ?_)
      intro M2 d2 cap2 kc2 ks2 hv2 hg2
      refine pgs hG rfl rfl ?_
      refine pgs hG rfl rfl ?_
      refine pgc hG rfl rfl (by decide) ?_
      refine pgc hG rfl rfl (Nat.le_of_ble_eq_true rfl) ?_
      refine pgc hG rfl rfl (Nat.le_of_ble_eq_true rfl) ?_
      refine pg_go hG (t := 31) rfl rfl ?_
      have h := fin (i + 1) M2 d2 cap2 kc2 ks2 (by omega) (by
        rw [nI_8 (by omega), Nat.pow_zero, Nat.div_one, List.append_assoc] at hv2
        rw [← hp]
        exact hv2) (grw_tr hg1 hg2)
      rw [← nI_1 i] at h
      exact h
    | succ r ih =>
      intro i p M1 d1 cap1 kc1 ks1 hi hp hv1 hg1
      have hr9 : 10 ^ (r + 1) ≤ 1000000000 := pw10 (by omega)
      have hpl : p.length + 1 ≤ 10 := by
        have h := congrArg List.length hp
        rw [List.length_append, dgT_len] at h
        have := dec_len n
        omega
      refine pgs hG rfl rfl ?_
      refine pgs hG rfl rfl ?_
      rw [e10]
      refine pi_ge hG (t := 65) rfl rfl (fun c => absurd c (nI_ge (by omega) (by omega))) (fun _ => ?_)
      refine pgs hG rfl rfl ?_
      refine pz_le hG (t := 65) rfl rfl (fun c => absurd c (nI_nle (pw10p (r + 1)) (by omega))) (fun _ => ?_)
      refine pgs hG rfl rfl ?_
      refine pgs hG rfl rfl ?_
      refine pgs hG rfl rfl ?_
      refine pgs hG rfl rfl ?_
      refine pgc hG rfl rfl (nI_ne0 (pw10p (r + 1)) (by omega)) ?_
      refine pgs hG rfl rfl ?_
      refine pgc hG rfl rfl (by decide) ?_
      refine pgs hG rfl rfl ?_
      rw [e10, e48, pk_div hn (pw10p (r + 1)) (by omega), pk_rem (Nat.lt_of_le_of_lt (Nat.div_le_self _ _) hn) (by decide) (by decide), nI_add]
      refine pg_cal hG 0 rfl rfl (Nat.le_of_ble_eq_true rfl) (by decide) (Nat.le_of_ble_eq_true rfl) ?_
      refine pm_rcv_of (As' := [.int (nI (48 + n / 10 ^ (r + 1) % 10))]) hv1.ob (v_By_add base sa (B := B) hv1 (by rw [List.length_append]; omega) (bud_tr hb hg1) ?_)
      intro M2 d2 cap2 kc2 ks2 hv2 hg2
      refine pgs hG rfl rfl ?_
      refine pgs hG rfl rfl ?_
      refine pgc hG rfl rfl (by decide) ?_
      rw [e10, pk_div (by omega) (by decide) (by decide), Nat.pow_succ, Nat.mul_div_cancel _ (by decide)]
      refine pgc hG rfl rfl (Nat.le_of_ble_eq_true rfl) ?_
      refine pgc hG rfl rfl (Nat.le_of_ble_eq_true rfl) ?_
      refine pg_go hG (t := 31) rfl rfl ?_
      have h := ih (i + 1) (p ++ [nI (48 + n / 10 ^ (r + 1) % 10)]) M2 d2 cap2 kc2 ks2 (by omega) (by
        rw [List.append_assoc]
        exact hp) (by
        rw [nI_8 (by omega), List.append_assoc] at hv2
        exact hv2) (grw_tr hg1 hg2)
      rw [← nI_1 i] at h
      exact h
  have out : ∀ i : Nat, i ≤ 9 → dlF 9 n = i → G 29 [(3, .int (nI i)), (2, .int (nI (10 ^ i))), (0, .ref b), (1, .int (nI n))] [] M kc ks := by
    intro i hi hd
    refine pgs hG rfl rfl ?_
    refine pgc hG rfl rfl (Nat.le_of_ble_eq_true rfl) ?_
    refine loop2 i 0 [] M d cap kc ks (by omega) ?_ (by simpa using hv) grw_rf
    unfold dec
    rw [hd]
    rfl
  refine pgs hG rfl rfl ?_
  refine pgc hG rfl rfl (Nat.le_of_ble_eq_true rfl) ?_
  refine pgs hG rfl rfl ?_
  refine pgc hG rfl rfl (Nat.le_of_ble_eq_true rfl) ?_
  have loop1 : ∀ m i : Nat, i + m = 9 → dlF 9 n = i + dlF m (n / 10 ^ i) → G 4 [(3, .int (nI i)), (2, .int (nI (10 ^ i))), (0, .ref b), (1, .int (nI n))] [] M kc ks := by
    intro m
    induction m with
    | zero =>
      intro i hi hd
      refine pgs hG rfl rfl ?_
      refine pgs hG rfl rfl ?_
      rw [e9]
      refine pi_ge hG (t := 29) rfl rfl (fun _ => ?_) (fun c => absurd (nI_le (by omega) (by omega)) c)
      exact out i (by omega) hd
    | succ m ih =>
      intro i hi hd
      have hi9 : 10 ^ i ≤ 1000000000 := pw10 (by omega)
      have hi8 : 10 ^ (i + 1) ≤ 1000000000 := pw10 (by omega)
      refine pgs hG rfl rfl ?_
      refine pgs hG rfl rfl ?_
      rw [e9]
      refine pi_ge hG (t := 29) rfl rfl (fun c => absurd c (nI_ge (by omega) (by omega))) (fun _ => ?_)
      refine pgs hG rfl rfl ?_
      refine pgs hG rfl rfl ?_
      refine pgc hG rfl rfl (nI_ne0 (pw10p i) (by omega)) ?_
      refine pgs hG rfl rfl ?_
      rw [e10, pk_div hn (pw10p i) (by omega)]
      have hq : n / 10 ^ i < 2 ^ 31 := Nat.lt_of_le_of_lt (Nat.div_le_self _ _) hn
      have hds : dlF (m + 1) (n / 10 ^ i) = if n / 10 ^ i < 10 then 0 else dlF m (n / 10 ^ i / 10) + 1 := rfl
      refine pi_lt hG (t := 29) rfl rfl (fun c => ?_) (fun c => ?_)
      · have hlt := (nI_ltI hq (by decide)).mp c
        rw [hds, if_pos hlt] at hd
        exact out i (by omega) hd
      · have hge : ¬ n / 10 ^ i < 10 := fun h => c ((nI_ltI hq (by decide)).mpr h)
        rw [hds, if_neg hge] at hd
        refine pgs hG rfl rfl ?_
        refine pgs hG rfl rfl ?_
        refine pgs hG rfl rfl ?_
        rw [e10, pk_mul]
        refine pgc hG rfl rfl (Nat.le_of_ble_eq_true rfl) ?_
        refine pgc hG rfl rfl (Nat.le_of_ble_eq_true rfl) ?_
        refine pg_go hG (t := 4) rfl rfl ?_
        have h := ih (i + 1) (by omega) (by
          have e : n / 10 ^ i / 10 = n / 10 ^ (i + 1) := by rw [Nat.div_div_eq_div_mul, ← Nat.pow_succ]
          rw [hd, e]
          omega)
        rw [← nI_1 i, Nat.pow_succ] at h
        exact h
  exact loop1 9 0 rfl (by rw [Nat.pow_zero, Nat.div_one]; omega)
