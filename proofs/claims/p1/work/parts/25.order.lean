/-! Prefixes: order, masks, the bits behind, addresses out of bytes. -/
def mskH (n : Int32) : Int64 := if 0 < n then (if n < 64 then (-1 : Int64) <<< ((64 - n).toInt64 &&& 63) else -1) else 0
def mskL (n : Int32) : Int64 := if 64 < n then (if n < 128 then (-1 : Int64) <<< ((128 - n).toInt64 &&& 63) else -1) else 0
set_option maxRecDepth 100000 in
theorem s_Pr_maskHigh (base : Nat) (sa : Nat → Nat) {n : Int32} {M : pmM} {Rt : pmR} {kc ks : Nat} (k : Rt (some (.long (mskH n))) M kc ks) : kP_Pr_maskHigh base sa [.int n] M kc ks Rt := by
  have e64 : (Int8.ofInt 64).toInt32 = 64 := by decide
  unfold mskH at k
  refine ⟨Nat.le_of_ble_eq_true rfl, fun G hG => ?_⟩
  refine pgs hG rfl rfl ?_
  refine pz_gt hG (t := 6) rfl rfl (fun c1 => ?_) (fun c1 => ?_)
  · rw [if_pos (show 0 < n from c1)] at k
    refine pgs hG rfl rfl ?_
    refine pgs hG rfl rfl ?_
    rw [e64]
    refine pi_lt hG (t := 18) rfl rfl (fun c9 => ?_) (fun c9 => ?_)
    · rw [if_pos c9] at k
      refine pgs hG rfl rfl ?_
      refine pgs hG rfl rfl ?_
      refine pgs hG rfl rfl ?_
      refine pgs hG rfl rfl ?_
      refine pgs hG rfl rfl ?_
      rw [e64]
      exact pg_rl hG rfl rfl k
    · rw [if_neg c9] at k
      refine pgs hG rfl rfl ?_
      refine pg_go hG (t := 26) rfl rfl ?_
      exact pg_rl hG rfl rfl k
  · rw [if_neg (show ¬ 0 < n from c1)] at k
    refine pgs hG rfl rfl ?_
    exact pg_rl hG rfl rfl k
set_option maxRecDepth 100000 in
theorem s_Pr_maskLow (base : Nat) (sa : Nat → Nat) {n : Int32} {M : pmM} {Rt : pmR} {kc ks : Nat} (k : Rt (some (.long (mskL n))) M kc ks) : kP_Pr_maskLow base sa [.int n] M kc ks Rt := by
  have e64 : (Int8.ofInt 64).toInt32 = 64 := by decide
  have e128 : (Int16.ofInt 128).toInt32 = 128 := by decide
  unfold mskL at k
  refine ⟨Nat.le_of_ble_eq_true rfl, fun G hG => ?_⟩
  refine pgs hG rfl rfl ?_
  refine pgs hG rfl rfl ?_
  rw [e64]
  refine pi_gt hG (t := 8) rfl rfl (fun c1 => ?_) (fun c1 => ?_)
  · rw [if_pos (show 64 < n from c1)] at k
    refine pgs hG rfl rfl ?_
    refine pgs hG rfl rfl ?_
    rw [e128]
    refine pi_lt hG (t := 21) rfl rfl (fun c9 => ?_) (fun c9 => ?_)
    · rw [if_pos c9] at k
      refine pgs hG rfl rfl ?_
      refine pgs hG rfl rfl ?_
      refine pgs hG rfl rfl ?_
      refine pgs hG rfl rfl ?_
      refine pgs hG rfl rfl ?_
      rw [e128]
      exact pg_rl hG rfl rfl k
    · rw [if_neg c9] at k
      refine pgs hG rfl rfl ?_
      refine pg_go hG (t := 30) rfl rfl ?_
      exact pg_rl hG rfl rfl k
  · rw [if_neg (show ¬ 64 < n from c1)] at k
    refine pgs hG rfl rfl ?_
    exact pg_rl hG rfl rfl k
set_option maxRecDepth 100000 in
theorem s_Pr_dropBitsBehind (base : Nat) (sa : Nat → Nat) {x : Nat} {a1 a4 : Int32} {a2 a3 : Int64} {M : pmM} {Rt : pmR} {kc ks : Nat} (hx : M x = some (pfx a1 a2 a3 a4)) (hxb : base ≤ x) (k : Rt none (pm_up M x (pfx a1 (a2 &&& mskH a4) (a3 &&& mskL a4) a4)) kc ks) : kP_Pr_dropBitsBehind base sa [.ref x] M kc ks Rt := by
  refine ⟨Nat.le_of_ble_eq_true rfl, fun G hG => ?_⟩
  refine pgs hG rfl rfl ?_
  refine pgc hG rfl rfl rfl ?_
  refine pg_gf hG rfl rfl hx rfl ?_
  refine pgs hG rfl rfl ?_
  refine pg_gf hG rfl rfl hx rfl ?_
  refine pg_cal hG 2 rfl rfl (Nat.le_of_ble_eq_true rfl) (by decide) (Nat.le_of_ble_eq_true rfl) ?_
  refine s_Pr_maskHigh base sa ?_
  refine pgs hG rfl rfl ?_
  refine pg_pf hG rfl rfl hx hxb (Nat.le_of_ble_eq_true rfl) rfl rfl ?_
  refine pgs hG rfl rfl ?_
  refine pgc hG rfl rfl rfl ?_
  refine pg_gf hG rfl rfl (pm_up_self _ _ _) rfl ?_
  refine pgs hG rfl rfl ?_
  refine pg_gf hG rfl rfl (pm_up_self _ _ _) rfl ?_
  refine pg_cal hG 2 rfl rfl (Nat.le_of_ble_eq_true rfl) (by decide) (Nat.le_of_ble_eq_true rfl) ?_
  refine s_Pr_maskLow base sa ?_
  refine pgs hG rfl rfl ?_
  refine pg_pw hG rfl rfl hxb (Nat.le_of_ble_eq_true rfl) rfl rfl ?_
  exact pg_rv hG rfl rfl k
set_option maxRecDepth 100000 in
theorem s_Pr_hasBitsBehind (base : Nat) (sa : Nat → Nat) {x : Nat} {a1 a4 : Int32} {a2 a3 : Int64} {M : pmM} {Rt : pmR} {kc ks : Nat} (hx : M x = some (pfx a1 a2 a3 a4)) (k : Rt (some (.int (if a2 &&& (mskH a4 ^^^ -1) = 0 ∧ a3 &&& (mskL a4 ^^^ -1) = 0 then 0 else 1))) M kc ks) : kP_Pr_hasBitsBehind base sa [.ref x] M kc ks Rt := by
  refine ⟨Nat.le_of_ble_eq_true rfl, fun G hG => ?_⟩
  refine pgs hG rfl rfl ?_
  refine pg_gf hG rfl rfl hx rfl ?_
  refine pgs hG rfl rfl ?_
  refine pg_gf hG rfl rfl hx rfl ?_
  refine pg_cal hG 2 rfl rfl (Nat.le_of_ble_eq_true rfl) (by decide) (Nat.le_of_ble_eq_true rfl) ?_
  refine s_Pr_maskHigh base sa ?_
  refine pgs hG rfl rfl ?_
  refine pgs hG rfl rfl ?_
  refine pgs hG rfl rfl ?_
  refine pgs hG rfl rfl ?_
  refine pgs hG rfl rfl ?_
  refine pz_ne hG (t := 42) rfl rfl (fun c => ?_) (fun c => ?_)
  · rw [if_neg (fun h => c ((lg_cmp_eq _ _).mpr h.1))] at k
    refine pgs hG rfl rfl ?_
    refine pg_go hG (t := 47) rfl rfl ?_
    exact pg_ri hG rfl rfl rfl k
  · refine pgs hG rfl rfl ?_
    refine pg_gf hG rfl rfl hx rfl ?_
    refine pgs hG rfl rfl ?_
    refine pg_gf hG rfl rfl hx rfl ?_
    refine pg_cal hG 2 rfl rfl (Nat.le_of_ble_eq_true rfl) (by decide) (Nat.le_of_ble_eq_true rfl) ?_
    refine s_Pr_maskLow base sa ?_
    refine pgs hG rfl rfl ?_
    refine pgs hG rfl rfl ?_
    refine pgs hG rfl rfl ?_
    refine pgs hG rfl rfl ?_
    refine pgs hG rfl rfl ?_
    refine pz_eq hG (t := 46) rfl rfl (fun c2 => ?_) (fun c2 => ?_)
    · rw [if_pos ⟨(lg_cmp_eq _ _).mp c, (lg_cmp_eq _ _).mp c2⟩] at k
      refine pgs hG rfl rfl ?_
      exact pg_ri hG rfl rfl rfl k
    · rw [if_neg (fun h => c2 ((lg_cmp_eq _ _).mpr h.2))] at k
      refine pgs hG rfl rfl ?_
      refine pg_go hG (t := 47) rfl rfl ?_
      exact pg_ri hG rfl rfl rfl k
/-- the order of prefixes: family, address without sign, length -/
def pord (a1 : Int32) (a2 a3 : Int64) (a4 b1 : Int32) (b2 b3 : Int64) (b4 : Int32) : Int32 :=
  if a1 = b1 then (if a2 = b2 then (if a3 = b3 then a4 - b4 else if b3 + Int64.minValue ≤ a3 + Int64.minValue then 1 else -1) else if b2 + Int64.minValue ≤ a2 + Int64.minValue then 1 else -1) else a1 - b1
set_option maxRecDepth 100000 in
theorem s_Pr_order (base : Nat) (sa : Nat → Nat) {x y : Nat} {a1 a4 b1 b4 : Int32} {a2 a3 b2 b3 : Int64} {M : pmM} {Rt : pmR} {kc ks : Nat} (hx : M x = some (pfx a1 a2 a3 a4)) (hy : M y = some (pfx b1 b2 b3 b4)) (k : Rt (some (.int (pord a1 a2 a3 a4 b1 b2 b3 b4))) M kc ks) : kP_Pr_order base sa [.ref x, .ref y] M kc ks Rt := by
  unfold pord at k
  refine ⟨Nat.le_of_ble_eq_true rfl, fun G hG => ?_⟩
  refine pgs hG rfl rfl ?_
  refine pg_gf hG rfl rfl hx rfl ?_
  refine pgs hG rfl rfl ?_
  refine pg_gf hG rfl rfl hy rfl ?_
  refine pi_eq hG (t := 21) rfl rfl (fun c8 => ?_) (fun c8 => ?_)
  · rw [if_pos c8] at k
    refine pgs hG rfl rfl ?_
    refine pg_gf hG rfl rfl hx rfl ?_
    refine pgs hG rfl rfl ?_
    refine pg_gf hG rfl rfl hy rfl ?_
    refine pgs hG rfl rfl ?_
    refine pz_eq hG (t := 59) rfl rfl (fun c30 => ?_) (fun c30 => ?_)
    · rw [if_pos ((lg_cmp_eq _ _).mp c30)] at k
      refine pgs hG rfl rfl ?_
      refine pg_gf hG rfl rfl hx rfl ?_
      refine pgs hG rfl rfl ?_
      refine pg_gf hG rfl rfl hy rfl ?_
      refine pgs hG rfl rfl ?_
      refine pz_eq hG (t := 97) rfl rfl (fun c68 => ?_) (fun c68 => ?_)
      · rw [if_pos ((lg_cmp_eq _ _).mp c68)] at k
        refine pgs hG rfl rfl ?_
        refine pg_gf hG rfl rfl hx rfl ?_
        refine pgs hG rfl rfl ?_
        refine pg_gf hG rfl rfl hy rfl ?_
        refine pgs hG rfl rfl ?_
        exact pg_ri hG rfl rfl rfl k
      · rw [if_neg (fun h => c68 ((lg_cmp_eq _ _).mpr h))] at k
        refine pgs hG rfl rfl ?_
        refine pg_gf hG rfl rfl hx rfl ?_
        refine pgs hG rfl rfl ?_
        refine pgs hG rfl rfl ?_
        refine pgs hG rfl rfl ?_
        refine pg_gf hG rfl rfl hy rfl ?_
        refine pgs hG rfl rfl ?_
        refine pgs hG rfl rfl ?_
        refine pgs hG rfl rfl ?_
        refine pz_ge hG (t := 95) rfl rfl (fun c => ?_) (fun c => ?_)
        · rw [if_pos (show b3 + Int64.minValue ≤ a3 + Int64.minValue from (lg_cmp_ge _ _).mp c)] at k
          refine pgs hG rfl rfl ?_
          exact pg_ri hG rfl rfl rfl k
        · rw [if_neg (show ¬ b3 + Int64.minValue ≤ a3 + Int64.minValue from fun h => c ((lg_cmp_ge _ _).mpr h))] at k
          refine pgs hG rfl rfl ?_
          refine pg_go hG (t := 96) rfl rfl ?_
          exact pg_ri hG rfl rfl rfl k
    · rw [if_neg (fun h => c30 ((lg_cmp_eq _ _).mpr h))] at k
      refine pgs hG rfl rfl ?_
      refine pg_gf hG rfl rfl hx rfl ?_
      refine pgs hG rfl rfl ?_
      refine pgs hG rfl rfl ?_
      refine pgs hG rfl rfl ?_
      refine pg_gf hG rfl rfl hy rfl ?_
      refine pgs hG rfl rfl ?_
      refine pgs hG rfl rfl ?_
      refine pgs hG rfl rfl ?_
      refine pz_ge hG (t := 57) rfl rfl (fun c => ?_) (fun c => ?_)
      · rw [if_pos (show b2 + Int64.minValue ≤ a2 + Int64.minValue from (lg_cmp_ge _ _).mp c)] at k
        refine pgs hG rfl rfl ?_
        exact pg_ri hG rfl rfl rfl k
      · rw [if_neg (show ¬ b2 + Int64.minValue ≤ a2 + Int64.minValue from fun h => c ((lg_cmp_ge _ _).mpr h))] at k
        refine pgs hG rfl rfl ?_
        refine pg_go hG (t := 58) rfl rfl ?_
        exact pg_ri hG rfl rfl rfl k
  · rw [if_neg c8] at k
    refine pgs hG rfl rfl ?_
    refine pg_gf hG rfl rfl hx rfl ?_
    refine pgs hG rfl rfl ?_
    refine pg_gf hG rfl rfl hy rfl ?_
    refine pgs hG rfl rfl ?_
    exact pg_ri hG rfl rfl rfl k
theorem vBy.up {base : Nat} {M : pmM} {b d cap a : Nat} {l : List Int32} (h : vBy base M b l d cap) (h1 : b ≠ a) (h2 : d ≠ a) (E : pmE) : vBy base (pm_up M a E) b l d cap := by
  obtain ⟨f, ⟨r1, r2, r3⟩, hf⟩ := h
  exact ⟨f, ⟨(pm_up_ne _ _ h1).trans r1, (pm_up_ne _ _ h2).trans r2, r3⟩, hf⟩
set_option maxRecDepth 100000 in
/-- takeBytes: the address in 4 or 16 bytes -/
theorem s_Pr_takeBytes (base : Nat) (sa : Nat → Nat) {x b d cap s : Nat} {l : List Int32} {f a1 a4 : Int32} {a2 a3 : Int64} {M : pmM} {Rt : pmR} {kc ks : Nat} (hx : M x = some (pfx a1 a2 a3 a4)) (hxb : base ≤ x) (hv : vBy base M b l d cap) (hbx : b ≠ x) (hdx : d ≠ x) (hs : s + 16 < 2 ^ 31)
    (k : Rt none (pm_up M x (if f = 4 then pfx f (v_num l s 4 <<< 32) 0 32 else pfx f (v_num l s 8) (v_num l (s + 8) 8) 128)) kc ks) : kP_Pr_takeBytes base sa [.ref x, .ref b, .int (nI s), .int f] M kc ks Rt := by
  refine ⟨Nat.le_of_ble_eq_true rfl, fun G hG => ?_⟩
  refine pgs hG rfl rfl ?_
  refine pgs hG rfl rfl ?_
  refine pg_pf hG rfl rfl hx hxb (Nat.le_of_ble_eq_true rfl) rfl rfl ?_
  refine pgs hG rfl rfl ?_
  refine pgs hG rfl rfl ?_
  refine pg_cal hG 2 rfl rfl (Nat.le_of_ble_eq_true rfl) (by decide) (Nat.le_of_ble_eq_true rfl) ?_
  refine s_Pr_bitsOf base sa ?_
  refine pg_pw hG rfl rfl hxb (Nat.le_of_ble_eq_true rfl) rfl rfl ?_
  refine pgs hG rfl rfl ?_
  refine pgs hG rfl rfl ?_
  have hv1 := fun E => hv.up hbx hdx E
  refine pi_ne hG (t := 39) rfl rfl (fun c => ?_) (fun c => ?_)
  · rw [if_neg (show ¬ f = 4 from c)] at k
    rw [if_neg (show ¬ f = 4 from c)]
    refine pgs hG rfl rfl ?_
    refine pgs hG rfl rfl ?_
    refine pgs hG rfl rfl ?_
    refine pgs hG rfl rfl ?_
    refine pg_cal hG 0 rfl rfl (Nat.le_of_ble_eq_true rfl) (by decide) (Nat.le_of_ble_eq_true rfl) ?_
    refine pm_rcv_of (As' := [.int (nI s), .int (nI 8)]) (hv1 _).ob (v_By_numberAt base sa (hv1 _) (by omega) ?_)
    refine pg_pw hG rfl rfl hxb (Nat.le_of_ble_eq_true rfl) rfl rfl ?_
    refine pgs hG rfl rfl ?_
    refine pgs hG rfl rfl ?_
    refine pgs hG rfl rfl ?_
    refine pgs hG rfl rfl ?_
    refine pgs hG rfl rfl ?_
    refine pgs hG rfl rfl ?_
    rw [show nI s + (Int8.ofInt 8).toInt32 = nI (s + 8) from by rw [show (Int8.ofInt 8).toInt32 = nI 8 from by decide, nI_add]]
    refine pg_cal hG 0 rfl rfl (Nat.le_of_ble_eq_true rfl) (by decide) (Nat.le_of_ble_eq_true rfl) ?_
    refine pm_rcv_of (As' := [.int (nI (s + 8)), .int (nI 8)]) (hv1 _).ob (v_By_numberAt base sa (hv1 _) (by omega) ?_)
    refine pg_pw hG rfl rfl hxb (Nat.le_of_ble_eq_true rfl) rfl rfl ?_
    exact pg_rv hG rfl rfl k
  · rw [if_pos (show f = 4 from c)] at k
    rw [if_pos (show f = 4 from c)]
    refine pgs hG rfl rfl ?_
    refine pgs hG rfl rfl ?_
    refine pgs hG rfl rfl ?_
    refine pgs hG rfl rfl ?_
    refine pg_cal hG 0 rfl rfl (Nat.le_of_ble_eq_true rfl) (by decide) (Nat.le_of_ble_eq_true rfl) ?_
    refine pm_rcv_of (As' := [.int (nI s), .int (nI 4)]) (hv1 _).ob (v_By_numberAt base sa (hv1 _) (by omega) ?_)
    refine pgs hG rfl rfl ?_
    refine pgs hG rfl rfl ?_
    rw [show (Int8.ofInt 32).toInt32.toInt64 &&& 63 = 32 from by decide]
    refine pg_pw hG rfl rfl hxb (Nat.le_of_ble_eq_true rfl) rfl rfl ?_
    refine pgs hG rfl rfl ?_
    refine pgs hG rfl rfl ?_
    refine pg_pw hG rfl rfl hxb (Nat.le_of_ble_eq_true rfl) rfl rfl ?_
    refine pg_go hG (t := 64) rfl rfl ?_
    exact pg_rv hG rfl rfl k
