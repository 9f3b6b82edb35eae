/-! Addresses and prefixes as texts. -/
def adr (f : Int32) (hi lo : Int64) : List Int32 := if f = 6 then six (prt hi lo) else dotT hi 3
theorem dotT_len (hi : Int64) : ∀ r, (dotT hi r).length ≤ 11 * r + 10
  | 0 => by
    have := dec_len (oct4 hi 32)
    show (dec (oct4 hi 32)).length ≤ _
    omega
  | r + 1 => by
    have h1 := dec_len (oct4 hi (nI (8 * (r + 1) + 32)))
    have h2 := dotT_len hi r
    show ((dec (oct4 hi (nI (8 * (r + 1) + 32))) ++ [46]) ++ dotT hi r).length ≤ _
    simp only [List.length_append, List.length_cons, List.length_nil]
    omega
theorem adr_len (f : Int32) (hi lo : Int64) : (adr f hi lo).length ≤ 43 := by
  unfold adr
  split
  · have := six_len (prt hi lo)
    omega
  · exact dotT_len hi 3
set_option maxRecDepth 100000 in
theorem v_By_addAddress (base : Nat) (sa : Nat → Nat) {b d cap B x v : Nat} {a1 a4 : Int32} {a2 a3 : Int64} {l : List Int32} {M : pmM} {Rt : pmR} {kc ks : Nat} (hv : vBy base M b l d cap) (hx : M x = some (pfx a1 a2 a3 a4)) (hxd : x ≠ d) (hxb : x ≠ b) (hs : vSt M (sa 39) v [58, 58]) (n1 : sa 39 ≠ b) (n2 : sa 39 ≠ d) (n3 : v ≠ b) (n4 : v ≠ d) (hB : l.length + 44 ≤ B) (hb : bud B kc ks cap)
    (k : ∀ (M' : pmM) (d' cap' kc' ks' : Nat), vBy base M' b (l ++ adr a1 a2 a3) d' cap' → grw M b d cap kc ks M' d' cap' kc' ks' → Rt none M' kc' ks') : kP_By_addAddress base sa [.ref b, .ref x] M kc ks Rt := by
  by_cases h6 : a1 = 6
  · have e6 : (Int8.ofInt 6).toInt32 = 6 := by decide
    have ea : adr a1 a2 a3 = six (prt a2 a3) := if_pos h6
    rw [ea] at k
    refine ⟨Nat.le_of_ble_eq_true rfl, fun G hG => ?_⟩
    refine pgs hG rfl rfl ?_
    refine pg_gf hG rfl rfl hx rfl ?_
    refine pgs hG rfl rfl ?_
    rw [e6]
    refine pi_ne hG (t := 15) rfl rfl (fun c => absurd h6 c) (fun _ => ?_)
    refine pgs hG rfl rfl ?_
    refine pgs hG rfl rfl ?_
    refine pg_cal hG 0 rfl rfl (Nat.le_of_ble_eq_true rfl) (by decide) (Nat.le_of_ble_eq_true rfl) ?_
    refine pm_rcv_of (As' := [.ref x]) hv.ob (v_By_addSix base sa (B := B) hv hx hxd hxb hs n1 n2 n3 n4 (by omega) hb ?_)
    intro M2 d2 cap2 kc2 ks2 hv2 hg2
    exact pg_rv hG rfl rfl (k M2 d2 cap2 kc2 ks2 hv2 hg2)
  · have ea : adr a1 a2 a3 = dotT a2 3 := if_neg h6
    rw [ea] at k
    exact v_By_addAddress4 base sa hv hx hxd hxb h6 hB hb k
def pfxT (f : Int32) (hi lo : Int64) (n : Nat) : List Int32 := adr f hi lo ++ ([47] ++ dec n)
theorem pfxT_len (f : Int32) (hi lo : Int64) (n : Nat) : (pfxT f hi lo n).length ≤ 54 := by
  have h1 := adr_len f hi lo
  have h2 := dec_len n
  unfold pfxT
  simp only [List.length_append, List.length_cons, List.length_nil]
  omega
set_option maxRecDepth 100000 in
theorem v_By_addPrefix (base : Nat) (sa : Nat → Nat) {b d cap B x v n : Nat} {a1 : Int32} {a2 a3 : Int64} {l : List Int32} {M : pmM} {Rt : pmR} {kc ks : Nat} (hv : vBy base M b l d cap) (hx : M x = some (pfx a1 a2 a3 (nI n))) (hn : n < 2 ^ 31) (hxd : x ≠ d) (hxb : x ≠ b) (hs : vSt M (sa 39) v [58, 58]) (n1 : sa 39 ≠ b) (n2 : sa 39 ≠ d) (n3 : v ≠ b) (n4 : v ≠ d) (hB : l.length + 56 ≤ B) (hb : bud B kc ks cap)
    (k : ∀ (M' : pmM) (d' cap' kc' ks' : Nat), vBy base M' b (l ++ pfxT a1 a2 a3 n) d' cap' → grw M b d cap kc ks M' d' cap' kc' ks' → Rt none M' kc' ks') : kP_By_addPrefix base sa [.ref b, .ref x] M kc ks Rt := by
  have hal := adr_len a1 a2 a3
  refine ⟨Nat.le_of_ble_eq_true rfl, fun G hG => ?_⟩
  refine pgs hG rfl rfl ?_
  refine pgs hG rfl rfl ?_
  refine pg_cal hG 0 rfl rfl (Nat.le_of_ble_eq_true rfl) (by decide) (Nat.le_of_ble_eq_true rfl) ?_
  refine pm_rcv_of (As' := [.ref x]) hv.ob (v_By_addAddress base sa (B := B) hv hx hxd hxb hs n1 n2 n3 n4 (by omega) hb ?_)
  intro M1 d1 cap1 kc1 ks1 hv1 hg1
  refine pgs hG rfl rfl ?_
  refine pgs hG rfl rfl ?_
  refine pg_cal hG 0 rfl rfl (Nat.le_of_ble_eq_true rfl) (by decide) (Nat.le_of_ble_eq_true rfl) ?_
  refine pm_rcv_of (As' := [.int 47]) hv1.ob (v_By_add base sa (B := B) (v := 47) hv1 (by rw [List.length_append]; omega) (bud_tr hb hg1) ?_)
  intro M2 d2 cap2 kc2 ks2 hv2 hg2'
  have hg2 := grw_tr hg1 hg2'
  have hx2 := grw_old hg2 hxb hxd hx
  rw [show (47 : Int32).toInt8.toInt32 = 47 from by decide] at hv2
  refine pgs hG rfl rfl ?_
  refine pgs hG rfl rfl ?_
  refine pg_gf hG rfl rfl hx2 rfl ?_
  refine pg_cal hG 0 rfl rfl (Nat.le_of_ble_eq_true rfl) (by decide) (Nat.le_of_ble_eq_true rfl) ?_
  refine pm_rcv_of (As' := [.int (nI n)]) hv2.ob (v_By_addDecimal base sa (B := B) hv2 (by simp only [List.length_append, List.length_cons, List.length_nil]; omega) (bud_tr hb hg2) hn ?_)
  intro M3 d3 cap3 kc3 ks3 hv3 hg3'
  refine pg_rv hG rfl rfl (k M3 d3 cap3 kc3 ks3 ?_ (grw_tr hg2 hg3'))
  unfold pfxT
  rw [List.append_assoc, List.append_assoc] at hv3
  exact hv3
