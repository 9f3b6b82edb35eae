/-! Datagrams: what their bytes say. -/
def dMet (l : List Int32) (f : Int32) (i : Nat) : Int64 := if f = 4 then v_num l (i + 16) 4 else (v_at l (i + 19)).toInt64
def dTag (l : List Int32) (f : Int32) (i : Nat) : Int32 := if f = 4 then (v_num l (i + 2) 2).toInt32 else (v_num l (i + 16) 2).toInt32
def dAll (l : List Int32) (f : Int32) (fr un : Nat) : Prop := un = fr + 20 ∧ dMet l f fr = 16 ∧ (if f = 4 then v_zer l fr 2 else v_zer l fr 19) = true
def dWel (l : List Int32) (f : Int32) : Prop := ∃ e, l.length = 4 + 20 * e ∧ 1 ≤ e ∧ e ≤ (if f = 4 then 28 else 25) ∧ (v_at l 0 = 1 ∨ v_at l 0 = 2) ∧ v_at l 1 = (if f = 4 then 2 else 1) ∧ v_zer l 2 2 = true
section Dgram
variable {R : pmM} {s : cS} {base a b d cap : Nat} {l : List Int32} {Rt : pmR} {kc ks : Nat}
set_option maxRecDepth 100000 in
theorem g_metricAt (sa : Nat → Nat) (hB : cB base s) {u : Nat} (ha : isO s 6 a) (hb : s.P 40 a = some b) (hv : vBs s u b l d cap) {i : Nat} (hi : i < 2 ^ 30) (k : Rt (some (.long (dMet l (s.I 44 a) i))) (cM R s) kc ks) : kP_Da_metricAt base sa [.ref a, .int (nI i)] (cM R s) kc ks Rt := by
  refine ⟨Nat.le_of_ble_eq_true rfl, fun G hG => ?_⟩
  repeat (first | refine pgs hG rfl rfl ?_ | refine pgc hG rfl rfl (Nat.le_of_ble_eq_true rfl) ?_ | refine c_gi hG rfl rfl (by assumption) (by rfl) (by rfl) (by rfl) rfl rfl ?_ | refine c_gj hG rfl rfl (by assumption) (by rfl) (by rfl) (by rfl) rfl rfl ?_ | refine c_gr hG rfl rfl (by assumption) (by rfl) (by rfl) (by rfl) rfl rfl (by assumption) ?_)
  refine pi_ne hG (t := 23) rfl rfl (fun c => ?_) (fun c => ?_)
  · have e : dMet l (s.I 44 a) i = (v_at l (i + 19)).toInt64 := if_neg c
    rw [e] at k
    repeat (first | refine pgs hG rfl rfl ?_ | refine pgc hG rfl rfl (Nat.le_of_ble_eq_true rfl) ?_ | refine c_gi hG rfl rfl (by assumption) (by rfl) (by rfl) (by rfl) rfl rfl ?_ | refine c_gj hG rfl rfl (by assumption) (by rfl) (by rfl) (by rfl) rfl rfl ?_ | refine c_gr hG rfl rfl (by assumption) (by rfl) (by rfl) (by rfl) rfl rfl (by assumption) ?_)
    rw [show nI i + (Int8.ofInt 19).toInt32 = nI (i + 19) from nI_add i 19]
    refine pg_cal hG 0 rfl rfl (Nat.le_of_ble_eq_true rfl) (by decide) (Nat.le_of_ble_eq_true rfl) ?_
    refine pm_rcv_of (As' := [.int (nI (i + 19))]) hv.ob (v_By_at base sa (i := (i + 19)) (hv.by hB) (by omega) ?_)
    refine pgs hG rfl rfl ?_
    exact pg_rl hG rfl rfl k
  · have e : dMet l (s.I 44 a) i = v_num l (i + 16) 4 := if_pos c
    rw [e] at k
    repeat (first | refine pgs hG rfl rfl ?_ | refine pgc hG rfl rfl (Nat.le_of_ble_eq_true rfl) ?_ | refine c_gi hG rfl rfl (by assumption) (by rfl) (by rfl) (by rfl) rfl rfl ?_ | refine c_gj hG rfl rfl (by assumption) (by rfl) (by rfl) (by rfl) rfl rfl ?_ | refine c_gr hG rfl rfl (by assumption) (by rfl) (by rfl) (by rfl) rfl rfl (by assumption) ?_)
    rw [show nI i + (Int8.ofInt 16).toInt32 = nI (i + 16) from nI_add i 16]
    refine pg_cal hG 0 rfl rfl (Nat.le_of_ble_eq_true rfl) (by decide) (Nat.le_of_ble_eq_true rfl) ?_
    refine pm_rcv_of (As' := [.int (nI (i + 16)), .int (nI 4)]) hv.ob (v_By_numberAt base sa (s := (i + 16)) (w := 4) (hv.by hB) (by omega) ?_)
    refine pg_go hG (t := 35) rfl rfl ?_
    exact pg_rl hG rfl rfl k
set_option maxRecDepth 100000 in
theorem g_tagAt (sa : Nat → Nat) (hB : cB base s) {u : Nat} (ha : isO s 6 a) (hb : s.P 40 a = some b) (hv : vBs s u b l d cap) {i : Nat} (hi : i < 2 ^ 30) (k : Rt (some (.int (dTag l (s.I 44 a) i))) (cM R s) kc ks) : kP_Da_tagAt base sa [.ref a, .int (nI i)] (cM R s) kc ks Rt := by
  refine ⟨Nat.le_of_ble_eq_true rfl, fun G hG => ?_⟩
  repeat (first | refine pgs hG rfl rfl ?_ | refine pgc hG rfl rfl (Nat.le_of_ble_eq_true rfl) ?_ | refine c_gi hG rfl rfl (by assumption) (by rfl) (by rfl) (by rfl) rfl rfl ?_ | refine c_gj hG rfl rfl (by assumption) (by rfl) (by rfl) (by rfl) rfl rfl ?_ | refine c_gr hG rfl rfl (by assumption) (by rfl) (by rfl) (by rfl) rfl rfl (by assumption) ?_)
  refine pi_ne hG (t := 18) rfl rfl (fun c => ?_) (fun c => ?_)
  · have e : dTag l (s.I 44 a) i = (v_num l (i + 16) 2).toInt32 := if_neg c
    rw [e] at k
    refine pgs hG rfl rfl ?_
    refine pgs hG rfl rfl ?_
    refine pgs hG rfl rfl ?_
    rw [show nI i + (Int8.ofInt 16).toInt32 = nI (i + 16) from nI_add i 16]
    refine pgs hG rfl rfl ?_
    refine pg_cal hG 0 rfl rfl (Nat.le_of_ble_eq_true rfl) (by decide) (Nat.le_of_ble_eq_true rfl) ?_
    refine pm_rcv_of (As' := [.int (nI (i + 16)), .int (nI 2)]) hv.ob (v_By_numberAt base sa (s := (i + 16)) (w := 2) (hv.by hB) (by omega) ?_)
    refine pgs hG rfl rfl ?_
    exact pg_ri hG rfl rfl rfl k
  · have e : dTag l (s.I 44 a) i = (v_num l (i + 2) 2).toInt32 := if_pos c
    rw [e] at k
    refine pgs hG rfl rfl ?_
    refine pgs hG rfl rfl ?_
    refine pgs hG rfl rfl ?_
    rw [show nI i + Int32.ofInt 2 = nI (i + 2) from nI_add i 2]
    refine pg_go hG (t := 22) rfl rfl ?_
    refine pgs hG rfl rfl ?_
    refine pg_cal hG 0 rfl rfl (Nat.le_of_ble_eq_true rfl) (by decide) (Nat.le_of_ble_eq_true rfl) ?_
    refine pm_rcv_of (As' := [.int (nI (i + 2)), .int (nI 2)]) hv.ob (v_By_numberAt base sa (s := (i + 2)) (w := 2) (hv.by hB) (by omega) ?_)
    refine pgs hG rfl rfl ?_
    exact pg_ri hG rfl rfl rfl k
theorem lcmp_eq {x y : Int64} (h : lg_cmp x y = 0) : x = y := by
  unfold lg_cmp at h
  split at h
  · exact absurd h (by decide)
  · split at h
    · assumption
    · exact absurd h (by decide)
set_option maxRecDepth 100000 in
theorem g_asks (sa : Nat → Nat) (hB : cB base s) {u : Nat} (ha : isO s 6 a) (hb : s.P 40 a = some b) (hv : vBs s u b l d cap) {fr un : Nat} (hfr : s.I 50 a = nI fr) (hun : s.I 51 a = nI un) (hle : fr ≤ un) (hi : un < 2 ^ 30) (k0 : ¬ dAll l (s.I 44 a) fr un → Rt (some (.int 0)) (cM R s) kc ks) (k1 : dAll l (s.I 44 a) fr un → Rt (some (.int 1)) (cM R s) kc ks) : kP_Da_asksForAll base sa [.ref a] (cM R s) kc ks Rt := by
  refine ⟨Nat.le_of_ble_eq_true rfl, fun G hG => ?_⟩
  repeat (first | refine pgs hG rfl rfl ?_ | refine pgc hG rfl rfl (Nat.le_of_ble_eq_true rfl) ?_ | refine c_gi hG rfl rfl (by assumption) (by rfl) (by rfl) (by rfl) rfl rfl ?_ | refine c_gj hG rfl rfl (by assumption) (by rfl) (by rfl) (by rfl) rfl rfl ?_ | refine c_gr hG rfl rfl (by assumption) (by rfl) (by rfl) (by rfl) rfl rfl (by assumption) ?_)
  rw [show s.I (20 * 2 + 11) a = nI un from hun, show s.I (20 * 2 + 10) a = nI fr from hfr, pk_sub hle, show (Int8.ofInt 20).toInt32 = nI 20 from by decide]
  refine pi_ne hG (t := 29) rfl rfl (fun c => ?_) (fun c => ?_)
  · repeat (first | refine pgs hG rfl rfl ?_ | refine pgc hG rfl rfl (Nat.le_of_ble_eq_true rfl) ?_ | refine c_gi hG rfl rfl (by assumption) (by rfl) (by rfl) (by rfl) rfl rfl ?_ | refine c_gj hG rfl rfl (by assumption) (by rfl) (by rfl) (by rfl) rfl rfl ?_ | refine c_gr hG rfl rfl (by assumption) (by rfl) (by rfl) (by rfl) rfl rfl (by assumption) ?_)
    exact pg_ri hG rfl rfl rfl (k0 (fun h => c (by rw [h.1, Nat.add_sub_cancel_left])))
  · have hu : un = fr + 20 := by have := nI_inj c (by omega) (by omega); omega
    repeat (first | refine pgs hG rfl rfl ?_ | refine pgc hG rfl rfl (Nat.le_of_ble_eq_true rfl) ?_ | refine c_gi hG rfl rfl (by assumption) (by rfl) (by rfl) (by rfl) rfl rfl ?_ | refine c_gj hG rfl rfl (by assumption) (by rfl) (by rfl) (by rfl) rfl rfl ?_ | refine c_gr hG rfl rfl (by assumption) (by rfl) (by rfl) (by rfl) rfl rfl (by assumption) ?_)
    rw [show s.I (20 * 2 + 10) a = nI fr from hfr]
    refine pg_cal hG 0 rfl rfl (Nat.le_of_ble_eq_true rfl) (by decide) (Nat.le_of_ble_eq_true rfl) ?_
    refine pm_rcv_of (As' := [.int (nI fr)]) (cM_o ha rfl rfl rfl) (g_metricAt sa hB ha hb hv (by omega) ?_)
    refine pgs hG rfl rfl ?_
    refine pgs hG rfl rfl ?_
    refine pz_eq hG (t := 31) rfl rfl (fun c2 => ?_) (fun c2 => ?_)
    · have hm : dMet l (s.I 44 a) fr = 16 := lcmp_eq c2
      repeat (first | refine pgs hG rfl rfl ?_ | refine pgc hG rfl rfl (Nat.le_of_ble_eq_true rfl) ?_ | refine c_gi hG rfl rfl (by assumption) (by rfl) (by rfl) (by rfl) rfl rfl ?_ | refine c_gj hG rfl rfl (by assumption) (by rfl) (by rfl) (by rfl) rfl rfl ?_ | refine c_gr hG rfl rfl (by assumption) (by rfl) (by rfl) (by rfl) rfl rfl (by assumption) ?_)
      refine pi_ne hG (t := 59) rfl rfl (fun c3 => ?_) (fun c3 => ?_)
      · have c3 : ¬ s.I 44 a = 4 := c3
        repeat (first | refine pgs hG rfl rfl ?_ | refine pgc hG rfl rfl (Nat.le_of_ble_eq_true rfl) ?_ | refine c_gi hG rfl rfl (by assumption) (by rfl) (by rfl) (by rfl) rfl rfl ?_ | refine c_gj hG rfl rfl (by assumption) (by rfl) (by rfl) (by rfl) rfl rfl ?_ | refine c_gr hG rfl rfl (by assumption) (by rfl) (by rfl) (by rfl) rfl rfl (by assumption) ?_)
        rw [show s.I (20 * 2 + 10) a = nI fr from hfr, show nI fr + (Int8.ofInt 19).toInt32 = nI (fr + 19) from nI_add fr 19]
        refine pg_cal hG 0 rfl rfl (Nat.le_of_ble_eq_true rfl) (by decide) (Nat.le_of_ble_eq_true rfl) ?_
        refine pm_rcv_of (As' := [.int (nI fr), .int (nI (fr + 19))]) hv.ob (v_By_zerosAt base sa (s := fr) (w := 19) (hv.by hB) (by omega) ?_)
        by_cases hz : v_zer l fr 19 = true
        · rw [if_pos hz]
          exact pg_ri hG rfl rfl rfl (k1 ⟨hu, hm, by rw [if_neg c3]; exact hz⟩)
        · rw [if_neg hz]
          exact pg_ri hG rfl rfl rfl (k0 (fun h => hz (by have h2 := h.2.2; rw [if_neg c3] at h2; exact h2)))
      · have c3 : s.I 44 a = 4 := c3
        repeat (first | refine pgs hG rfl rfl ?_ | refine pgc hG rfl rfl (Nat.le_of_ble_eq_true rfl) ?_ | refine c_gi hG rfl rfl (by assumption) (by rfl) (by rfl) (by rfl) rfl rfl ?_ | refine c_gj hG rfl rfl (by assumption) (by rfl) (by rfl) (by rfl) rfl rfl ?_ | refine c_gr hG rfl rfl (by assumption) (by rfl) (by rfl) (by rfl) rfl rfl (by assumption) ?_)
        rw [show s.I (20 * 2 + 10) a = nI fr from hfr, show nI fr + Int32.ofInt 2 = nI (fr + 2) from nI_add fr 2]
        refine pg_cal hG 0 rfl rfl (Nat.le_of_ble_eq_true rfl) (by decide) (Nat.le_of_ble_eq_true rfl) ?_
        refine pm_rcv_of (As' := [.int (nI fr), .int (nI (fr + 2))]) hv.ob (v_By_zerosAt base sa (s := fr) (w := 2) (hv.by hB) (by omega) ?_)
        refine pg_go hG (t := 77) rfl rfl ?_
        by_cases hz : v_zer l fr 2 = true
        · rw [if_pos hz]
          exact pg_ri hG rfl rfl rfl (k1 ⟨hu, hm, by rw [if_pos c3]; exact hz⟩)
        · rw [if_neg hz]
          exact pg_ri hG rfl rfl rfl (k0 (fun h => hz (by have h2 := h.2.2; rw [if_pos c3] at h2; exact h2)))
    · repeat (first | refine pgs hG rfl rfl ?_ | refine pgc hG rfl rfl (Nat.le_of_ble_eq_true rfl) ?_ | refine c_gi hG rfl rfl (by assumption) (by rfl) (by rfl) (by rfl) rfl rfl ?_ | refine c_gj hG rfl rfl (by assumption) (by rfl) (by rfl) (by rfl) rfl rfl ?_ | refine c_gr hG rfl rfl (by assumption) (by rfl) (by rfl) (by rfl) rfl rfl (by assumption) ?_)
      exact pg_ri hG rfl rfl rfl (k0 (fun h => c2 (by rw [h.2.1]; exact lcmp_self _)))
end Dgram
