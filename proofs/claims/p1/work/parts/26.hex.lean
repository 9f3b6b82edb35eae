/-! Hexadecimals. -/
def hd16 (d : Nat) : Int32 := if d < 10 then nI (48 + d) else nI (87 + d)
/-- the digits of n at the places k down to 0 -/
def hxT (n : Nat) : Nat → List Int32
  | 0 => [hd16 (n % 16)]
  | k + 1 => hd16 (n / 16 ^ (k + 1) % 16) :: hxT n k
def hxK (n : Nat) : Nat := if n < 16 then 0 else if n < 256 then 1 else if n < 4096 then 2 else 3
def hex (n : Nat) : List Int32 := hxT n (hxK n)
theorem hxK_le (n : Nat) : hxK n ≤ 3 := by
  unfold hxK
  split
  · omega
  · split
    · omega
    · split <;> omega
theorem hxK_lo {n k : Nat} (hk : k < 3) (h : n / 16 ^ (k + 1) = 0) : hxK n ≤ k := by
  have hp : n < 16 ^ (k + 1) := (Nat.div_eq_zero_iff.mp h).resolve_left (Nat.ne_of_gt (Nat.pow_pos (by decide)))
  unfold hxK
  rcases (show k = 0 ∨ k = 1 ∨ k = 2 by omega) with rfl | rfl | rfl
  · rw [if_pos (show n < 16 from hp)]
    exact Nat.le_refl _
  · have : n < 256 := hp
    split
    · omega
    · omega
  · have : n < 4096 := hp
    split
    · omega
    · split
      · omega
      · omega
theorem hxK_hi {n k : Nat} (hk : k < 3) (h : ¬ n / 16 ^ (k + 1) = 0) : k + 1 ≤ hxK n := by
  have hp : 16 ^ (k + 1) ≤ n := by
    rcases Nat.lt_or_ge n (16 ^ (k + 1)) with q | q
    · exact absurd (Nat.div_eq_of_lt q) h
    · exact q
  unfold hxK
  rcases (show k = 0 ∨ k = 1 ∨ k = 2 by omega) with rfl | rfl | rfl
  · have : 16 ≤ n := hp
    rw [if_neg (by omega)]
    split
    · omega
    · split <;> omega
  · have : 256 ≤ n := hp
    rw [if_neg (by omega), if_neg (by omega)]
    split <;> omega
  · have : 4096 ≤ n := hp
    rw [if_neg (by omega), if_neg (by omega), if_neg (by omega)]
    exact Nat.le_refl _
theorem hxT_len (n k : Nat) : (hxT n k).length = k + 1 := by
  induction k with
  | zero => rfl
  | succ k ih => show (hxT n k).length + 1 = _; rw [ih]
theorem hex_len (n : Nat) : (hex n).length ≤ 4 := by
  unfold hex
  rw [hxT_len]
  have := hxK_le n
  omega
theorem nI_sh4 {n : Nat} (h : n < 2 ^ 31) {k : Nat} (hk : k < 4) : nI n >>> (nI (4 * k) &&& 31) = nI (n / 16 ^ k) := by
  have hs : ∀ j, j < 4 → ((nI (4 * j) &&& 31).toBitVec.smod 32).toNat = 4 * j := by decide +kernel
  rw [pk_shrN h _ _ (hs k hk), Nat.pow_mul]
theorem nI_m4 : ∀ k, k < 4 → nI (4 * (k + 1)) + Int32.ofInt (-4) = nI (4 * k) := by decide +kernel
theorem hd16_8 : ∀ j, j < 16 → (hd16 j).toInt8.toInt32 = hd16 j := by decide +kernel
set_option maxRecDepth 100000 in
theorem v_By_addHex (base : Nat) (sa : Nat → Nat) {b d cap B n : Nat} {l : List Int32} {M : pmM} {Rt : pmR} {kc ks : Nat} (hv : vBy base M b l d cap) (hB : l.length + 4 ≤ B) (hb : bud B kc ks cap) (hn : n < 65536)
    (k : ∀ (M' : pmM) (d' cap' kc' ks' : Nat), vBy base M' b (l ++ hex n) d' cap' → grw M b d cap kc ks M' d' cap' kc' ks' → Rt none M' kc' ks') : kP_By_addHex base sa [.ref b, .int (nI n)] M kc ks Rt := by
  have e15 : (Int8.ofInt 15).toInt32 = (15 : Int32) := by decide
  have e10 : (Int8.ofInt 10).toInt32 = nI 10 := by decide
  have e48 : (Int8.ofInt 48).toInt32 = nI 48 := by decide
  have e97 : (Int8.ofInt 97).toInt32 = nI 97 := by decide
  have dig : ∀ r : Nat, r < 4 → nI n >>> (nI (4 * r) &&& 31) &&& 15 = nI (n / 16 ^ r % 16) := by
    intro r hr
    rw [nI_sh4 (by omega) hr, pk_andN (Nat.lt_of_le_of_lt (Nat.div_le_self _ _) (by omega)) 4 (by decide)]
  refine ⟨Nat.le_of_ble_eq_true rfl, fun G hG => ?_⟩
  have body : ∀ (r : Nat) (p : List Int32) (M1 : pmM) (d1 cap1 kc1 ks1 : Nat), r < 4 → p.length + 1 ≤ 4 → vBy base M1 b (l ++ p) d1 cap1 → grw M b d cap kc ks M1 d1 cap1 kc1 ks1 → (∀ (M2 : pmM) (d2 cap2 kc2 ks2 : Nat), vBy base M2 b (l ++ (p ++ [hd16 (n / 16 ^ r % 16)])) d2 cap2 → grw M b d cap kc ks M2 d2 cap2 kc2 ks2 → G 19 [(2, .int (nI (4 * r) + Int32.ofInt (-4))), (3, .int (nI (n / 16 ^ r % 16))), (0, .ref b), (1, .int (nI n))] [] M2 kc2 ks2) → G 30 [(3, .int (nI (n / 16 ^ r % 16))), (2, .int (nI (4 * r))), (0, .ref b), (1, .int (nI n))] [] M1 kc1 ks1 := by
    intro r p M1 d1 cap1 kc1 ks1 hr hp hv1 hg1 hk
    have hm : n / 16 ^ r % 16 < 16 := Nat.mod_lt _ (by decide)
    generalize hq : n / 16 ^ r % 16 = q at hk hm ⊢
    have fin : ∀ z : Int32, z = hd16 q → G 51 [(3, .int (nI q)), (2, .int (nI (4 * r))), (0, .ref b), (1, .int (nI n))] [.int z, .ref b] M1 kc1 ks1 := by
      intro z hz
      refine pg_cal hG 0 rfl rfl (Nat.le_of_ble_eq_true rfl) (by decide) (Nat.le_of_ble_eq_true rfl) ?_
      refine pm_rcv_of (As' := [.int z]) hv1.ob (v_By_add base sa (B := B) hv1 (by rw [List.length_append]; omega) (bud_tr hb hg1) ?_)
      intro M2 d2 cap2 kc2 ks2 hv2 hg2
      refine pgc hG rfl rfl (Nat.le_of_ble_eq_true rfl) ?_
      refine pg_go hG (t := 19) rfl rfl ?_
      rw [hz, hd16_8 q hm, List.append_assoc] at hv2
      exact hk M2 d2 cap2 kc2 ks2 hv2 (grw_tr hg1 hg2)
    refine pgs hG rfl rfl ?_
    refine pgs hG rfl rfl ?_
    refine pgs hG rfl rfl ?_
    rw [e10]
    refine pi_ge hG (t := 44) rfl rfl (fun c => ?_) (fun c => ?_)
    · have h10 := (nI_leI (by decide) (by omega)).mp c
      refine pgs hG rfl rfl ?_
      refine pgs hG rfl rfl ?_
      refine pgs hG rfl rfl ?_
      refine pgs hG rfl rfl ?_
      refine pgs hG rfl rfl ?_
      refine fin _ ?_
      rw [e97, e10, nI_add, pk_sub (by omega)]
      unfold hd16
      rw [if_neg (by omega), show 97 + q - 10 = 87 + q by omega]
    · have h10 : q < 10 := by
        rcases Nat.lt_or_ge q 10 with h | h
        · exact h
        · exact absurd ((nI_leI (by decide) (by omega)).mpr h) c
      refine pgs hG rfl rfl ?_
      refine pgs hG rfl rfl ?_
      refine pgs hG rfl rfl ?_
      refine pg_go hG (t := 51) rfl rfl ?_
      refine fin _ ?_
      rw [e48, nI_add]
      unfold hd16
      rw [if_pos h10]
  have loop2 : ∀ (r : Nat) (p : List Int32) (w : Int32) (M1 : pmM) (d1 cap1 kc1 ks1 : Nat), r < 4 → p ++ hxT n r = hex n → vBy base M1 b (l ++ p) d1 cap1 → grw M b d cap kc ks M1 d1 cap1 kc1 ks1 → G 19 [(2, .int (nI (4 * r))), (3, .int w), (0, .ref b), (1, .int (nI n))] [] M1 kc1 ks1 ∧ G 19 [(2, .int (nI (4 * r))), (0, .ref b), (1, .int (nI n))] [] M1 kc1 ks1 := by
    intro r
    induction r with
    | zero =>
      intro p w M1 d1 cap1 kc1 ks1 hr hp hv1 hg1
      have hpl : p.length + 1 ≤ 4 := by
        have h := congrArg List.length hp
        rw [List.length_append, hxT_len] at h
        have := hex_len n
        omega
      have main := body 0 p M1 d1 cap1 kc1 ks1 hr hpl hv1 hg1 (by
        intro M2 d2 cap2 kc2 ks2 hv2 hg2
        refine pgs hG rfl rfl ?_
        refine pz_lt hG (t := 60) rfl rfl (fun _ => ?_) (fun c => absurd (by decide) c)
        refine pg_rv hG rfl rfl (k M2 d2 cap2 kc2 ks2 ?_ hg2)
        rw [Nat.pow_zero, Nat.div_one] at hv2
        rw [← hp]
        exact hv2)
      rw [← dig 0 hr] at main
      constructor
      · refine pgs hG rfl rfl ?_
        refine pz_lt hG (t := 60) rfl rfl (fun c => absurd c (by decide)) (fun _ => ?_)
        refine pgs hG rfl rfl ?_
        refine pgs hG rfl rfl ?_
        refine pgs hG rfl rfl ?_
        refine pgs hG rfl rfl ?_
        refine pgs hG rfl rfl ?_
        refine pgc hG rfl rfl (Nat.le_of_ble_eq_true rfl) ?_
        exact main
      · refine pgs hG rfl rfl ?_
        refine pz_lt hG (t := 60) rfl rfl (fun c => absurd c (by decide)) (fun _ => ?_)
        refine pgs hG rfl rfl ?_
        refine pgs hG rfl rfl ?_
        refine pgs hG rfl rfl ?_
        refine pgs hG rfl rfl ?_
        refine pgs hG rfl rfl ?_
        refine pgc hG rfl rfl (Nat.le_of_ble_eq_true rfl) ?_
        exact main
    | succ r ih =>
      intro p w M1 d1 cap1 kc1 ks1 hr hp hv1 hg1
      have hpl : p.length + 1 ≤ 4 := by
        have h := congrArg List.length hp
        rw [List.length_append, hxT_len] at h
        have := hex_len n
        omega
      have main := body (r + 1) p M1 d1 cap1 kc1 ks1 hr hpl hv1 hg1 (by
        intro M2 d2 cap2 kc2 ks2 hv2 hg2
        rw [nI_m4 r (by omega)]
        exact (ih (p ++ [hd16 (n / 16 ^ (r + 1) % 16)]) _ M2 d2 cap2 kc2 ks2 (by omega) (by rw [List.append_assoc]; exact hp) hv2 hg2).1)
      rw [← dig (r + 1) hr] at main
      constructor
      · refine pgs hG rfl rfl ?_
        refine pz_lt hG (t := 60) rfl rfl (fun c => absurd c (nI_pos (by omega))) (fun _ => ?_)
        refine pgs hG rfl rfl ?_
        refine pgs hG rfl rfl ?_
        refine pgs hG rfl rfl ?_
        refine pgs hG rfl rfl ?_
        refine pgs hG rfl rfl ?_
        refine pgc hG rfl rfl (Nat.le_of_ble_eq_true rfl) ?_
        exact main
      · refine pgs hG rfl rfl ?_
        refine pz_lt hG (t := 60) rfl rfl (fun c => absurd c (nI_pos (by omega))) (fun _ => ?_)
        refine pgs hG rfl rfl ?_
        refine pgs hG rfl rfl ?_
        refine pgs hG rfl rfl ?_
        refine pgs hG rfl rfl ?_
        refine pgs hG rfl rfl ?_
        refine pgc hG rfl rfl (Nat.le_of_ble_eq_true rfl) ?_
        exact main
  have out : ∀ r : Nat, r < 4 → hxK n = r → G 19 [(2, .int (nI (4 * r))), (0, .ref b), (1, .int (nI n))] [] M kc ks := by
    intro r hr hK
    refine (loop2 r [] 0 M d cap kc ks hr ?_ (by simpa using hv) grw_rf).2
    unfold hex
    rw [hK]
    rfl
  refine pgs hG rfl rfl ?_
  refine pgc hG rfl rfl (Nat.le_of_ble_eq_true rfl) ?_
  have loop1 : ∀ r : Nat, r < 4 → hxK n ≤ r → G 3 [(2, .int (nI (4 * r))), (0, .ref b), (1, .int (nI n))] [] M kc ks := by
    intro r
    induction r with
    | zero =>
      intro hr hK
      refine pgs hG rfl rfl ?_
      refine pz_le hG (t := 19) rfl rfl (fun _ => ?_) (fun c => absurd (by decide) c)
      exact out 0 hr (by omega)
    | succ r ih =>
      intro hr hK
      refine pgs hG rfl rfl ?_
      refine pz_le hG (t := 19) rfl rfl (fun c => absurd c (nI_nle (by omega) (by omega))) (fun _ => ?_)
      refine pgs hG rfl rfl ?_
      refine pgs hG rfl rfl ?_
      refine pgs hG rfl rfl ?_
      rw [nI_sh4 (by omega) hr]
      have hlt : n / 16 ^ (r + 1) < 2 ^ 31 := Nat.lt_of_le_of_lt (Nat.div_le_self _ _) (by omega)
      refine pz_ne hG (t := 19) rfl rfl (fun c => ?_) (fun c => ?_)
      · have h0 : ¬ n / 16 ^ (r + 1) = 0 := fun h => c (by rw [h]; rfl)
        exact out (r + 1) hr (Nat.le_antisymm hK (hxK_hi (by omega) h0))
      · have h0 : n / 16 ^ (r + 1) = 0 := by
          rcases Nat.eq_zero_or_pos (n / 16 ^ (r + 1)) with h | h
          · exact h
          · exact absurd c (nI_ne0 h hlt)
        refine pgc hG rfl rfl (Nat.le_of_ble_eq_true rfl) ?_
        refine pg_go hG (t := 3) rfl rfl ?_
        have h := ih (by omega) (hxK_lo (by omega) h0)
        rw [← nI_m4 r (by omega)] at h
        exact h
  exact loop1 3 (by decide) (hxK_le n)
