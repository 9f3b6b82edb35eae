/-! Addresses of four bytes, with dots. -/
/-- eight bits of an address, from a place on -/
def oct4 (hi : Int64) (s : Int32) : Nat := (ush hi s).toInt32.toBitVec.toNat % 256
theorem oct4_e (hi : Int64) (s : Int32) : (ush hi s &&& 255).toInt32 = nI (oct4 hi s) := by
  rw [Int64.toInt32_and, show (255 : Int64).toInt32 = (255 : Int32) from by decide, pk_and _ 8 (by decide)]
  rfl
theorem oct4_lt (hi : Int64) (s : Int32) : oct4 hi s < 256 := Nat.mod_lt _ (by decide)
/-- the places from 8 * r + 32 down to 32 -/
def dotT (hi : Int64) : Nat → List Int32
  | 0 => dec (oct4 hi 32)
  | r + 1 => (dec (oct4 hi (nI (8 * (r + 1) + 32))) ++ [46]) ++ dotT hi r
theorem nI_m8 : ∀ r, r < 4 → nI (8 * (r + 1) + 32) + Int32.ofInt (-8) = nI (8 * r + 32) := by decide +kernel
set_option maxRecDepth 100000 in
/-- addAddress of the first family: four numbers and dots -/
theorem v_By_addAddress4 (base : Nat) (sa : Nat → Nat) {b d cap B x : Nat} {a1 a4 : Int32} {a2 a3 : Int64} {l : List Int32} {M : pmM} {Rt : pmR} {kc ks : Nat} (hv : vBy base M b l d cap) (hx : M x = some (pfx a1 a2 a3 a4)) (hxd : x ≠ d) (hxb : x ≠ b) (h6 : a1 ≠ 6) (hB : l.length + 44 ≤ B) (hb : bud B kc ks cap)
    (k : ∀ (M' : pmM) (d' cap' kc' ks' : Nat), vBy base M' b (l ++ dotT a2 3) d' cap' → grw M b d cap kc ks M' d' cap' kc' ks' → Rt none M' kc' ks') : kP_By_addAddress base sa [.ref b, .ref x] M kc ks Rt := by
  have e6 : (Int8.ofInt 6).toInt32 = 6 := by decide
  have e32 : (Int8.ofInt 32).toInt32 = nI 32 := by decide
  refine ⟨Nat.le_of_ble_eq_true rfl, fun G hG => ?_⟩
  refine pgs hG rfl rfl ?_
  refine pg_gf hG rfl rfl hx rfl ?_
  refine pgs hG rfl rfl ?_
  rw [e6]
  refine pi_ne hG (t := 15) rfl rfl (fun _ => ?_) (fun c => absurd c h6)
  refine pgs hG rfl rfl ?_
  refine pgc hG rfl rfl (Nat.le_of_ble_eq_true rfl) ?_
  rw [show (Int8.ofInt 56).toInt32 = nI (8 * 3 + 32) from by decide]
  have loop : ∀ (r : Nat) (p : List Int32) (M1 : pmM) (d1 cap1 kc1 ks1 : Nat), r < 4 → p.length + 11 * (r + 1) ≤ 44 → p ++ dotT a2 r = dotT a2 3 → vBy base M1 b (l ++ p) d1 cap1 → grw M b d cap kc ks M1 d1 cap1 kc1 ks1 → G 18 [(2, .int (nI (8 * r + 32))), (0, .ref b), (1, .ref x)] [] M1 kc1 ks1 := by
    intro r
    induction r with
    | zero =>
      intro p M1 d1 cap1 kc1 ks1 hr hpl hp hv1 hg1
      have hx1 := grw_old hg1 hxb hxd hx
      refine pgs hG rfl rfl ?_
      refine pgs hG rfl rfl ?_
      rw [e32]
      refine pi_lt hG (t := 57) rfl rfl (fun c => absurd c (by decide)) (fun _ => ?_)
      refine pgs hG rfl rfl ?_
      refine pgs hG rfl rfl ?_
      refine pg_gf hG rfl rfl hx1 rfl ?_
      refine pgs hG rfl rfl ?_
      refine pgs hG rfl rfl ?_
      refine pgs hG rfl rfl ?_
      refine pgs hG rfl rfl ?_
      refine pgs hG rfl rfl ?_
      refine pg_cal hG 0 rfl rfl (Nat.le_of_ble_eq_true rfl) (by decide) (Nat.le_of_ble_eq_true rfl) ?_
      refine pm_rcv_of (As' := [.int (ush a2 (nI (8 * 0 + 32)) &&& 255).toInt32]) hv1.ob ?_
      rw [oct4_e]
      refine v_By_addDecimal base sa (B := B) hv1 (by rw [List.length_append]; omega) (bud_tr hb hg1) (by have := oct4_lt a2 (nI (8 * 0 + 32)); omega) ?_
      intro M2 d2 cap2 kc2 ks2 hv2 hg2
      refine pgs hG rfl rfl ?_
      refine pgs hG rfl rfl ?_
      rw [e32]
      refine pi_le hG (t := 51) rfl rfl (fun _ => ?_) (fun c => absurd (by decide) c)
      refine pgc hG rfl rfl (Nat.le_of_ble_eq_true rfl) ?_
      refine pg_go hG (t := 18) rfl rfl ?_
      refine pgs hG rfl rfl ?_
      refine pgs hG rfl rfl ?_
      rw [e32]
      refine pi_lt hG (t := 57) rfl rfl (fun _ => ?_) (fun c => absurd (by decide) c)
      refine pg_rv hG rfl rfl (k M2 d2 cap2 kc2 ks2 ?_ (grw_tr hg1 hg2))
      rw [List.append_assoc] at hv2
      rw [← hp]
      exact hv2
    | succ r ih =>
      intro p M1 d1 cap1 kc1 ks1 hr hpl hp hv1 hg1
      have hx1 := grw_old hg1 hxb hxd hx
      have hdl := dec_len (oct4 a2 (nI (8 * (r + 1) + 32)))
      refine pgs hG rfl rfl ?_
      refine pgs hG rfl rfl ?_
      rw [e32]
      refine pi_lt hG (t := 57) rfl rfl (fun c => absurd c (nI_nlt (by omega) (by omega))) (fun _ => ?_)
      refine pgs hG rfl rfl ?_
      refine pgs hG rfl rfl ?_
      refine pg_gf hG rfl rfl hx1 rfl ?_
      refine pgs hG rfl rfl ?_
      refine pgs hG rfl rfl ?_
      refine pgs hG rfl rfl ?_
      refine pgs hG rfl rfl ?_
      refine pgs hG rfl rfl ?_
      refine pg_cal hG 0 rfl rfl (Nat.le_of_ble_eq_true rfl) (by decide) (Nat.le_of_ble_eq_true rfl) ?_
      refine pm_rcv_of (As' := [.int (ush a2 (nI (8 * (r + 1) + 32)) &&& 255).toInt32]) hv1.ob ?_
      rw [oct4_e]
      refine v_By_addDecimal base sa (B := B) hv1 (by rw [List.length_append]; omega) (bud_tr hb hg1) (by have := oct4_lt a2 (nI (8 * (r + 1) + 32)); omega) ?_
      intro M2 d2 cap2 kc2 ks2 hv2 hg2'
      have hg2 := grw_tr hg1 hg2'
      refine pgs hG rfl rfl ?_
      refine pgs hG rfl rfl ?_
      rw [e32]
      refine pi_le hG (t := 51) rfl rfl (fun c => absurd c (nI_ge (by omega) (by omega))) (fun _ => ?_)
      refine pgs hG rfl rfl ?_
      refine pgs hG rfl rfl ?_
      refine pg_cal hG 0 rfl rfl (Nat.le_of_ble_eq_true rfl) (by decide) (Nat.le_of_ble_eq_true rfl) ?_
      refine pm_rcv_of (As' := [.int 46]) hv2.ob (v_By_add base sa (B := B) (v := 46) hv2 (by simp only [List.length_append]; omega) (bud_tr hb hg2) ?_)
      intro M3 d3 cap3 kc3 ks3 hv3 hg3'
      have hg3 := grw_tr hg2 hg3'
      refine pgc hG rfl rfl (Nat.le_of_ble_eq_true rfl) ?_
      refine pg_go hG (t := 18) rfl rfl ?_
      have h := ih (p ++ (dec (oct4 a2 (nI (8 * (r + 1) + 32))) ++ [46])) M3 d3 cap3 kc3 ks3 (by omega) (by simp only [List.length_append, List.length_cons, List.length_nil]; omega) (by rw [List.append_assoc]; exact hp) (by
        rw [show (46 : Int32).toInt8.toInt32 = 46 from by decide, List.append_assoc, List.append_assoc] at hv3
        exact hv3) hg3
      rw [← nI_m8 r (by omega)] at h
      exact h
  exact loop 3 [] M d cap kc ks (by decide) (by decide) (List.nil_append _) (by rw [List.append_nil]; exact hv) grw_rf
