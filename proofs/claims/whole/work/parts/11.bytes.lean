/-! Bytes: a row of n bytes f in an array of cap places at d; the object at b. -/
def rBy (M : pmM) (b d cap n : Nat) (f : Nat → Int32) : Prop := M b = some (.inr (0, [.ref d, .int (nI n)])) ∧ M d = some (.inl (.byte, cap, .inl f)) ∧ n ≤ cap ∧ 16 ≤ cap ∧ cap ≤ 1000000
set_option maxRecDepth 100000 in
theorem s_By_init (base : Nat) (sa : Nat → Nat) {b n : Nat} {M : pmM} {v0 v1 : Value} {Rt : pmR} (hb : M b = some (.inr (0, [v0, v1]))) (hbb : base ≤ b) (h16 : 16 ≤ n) (hn : n ≤ 4000000) {kc ks : Nat} (h1 : 1 ≤ kc) (h2 : n ≤ ks) (k : ∀ q, M q = none → base ≤ q → Rt none (pm_up (pm_up (pm_up M q (.inl (.byte, n, .inl fun _ => 0))) b (.inr (0, [.ref q, v1]))) b (.inr (0, [.ref q, .int 0]))) (kc - 1) (ks - n)) : kP_By_init base sa [.ref b, .int (nI n)] M kc ks Rt := by
  refine ⟨Nat.le_of_ble_eq_true rfl, fun G hG => ?_⟩
  refine pgs hG rfl rfl ?_
  refine pg_call hG (As := [.ref b]) (r := []) 1 rfl rfl rfl rfl (by decide) (by decide) ⟨b, rfl, ?_⟩
  refine pgs hG rfl rfl ?_
  refine pgs hG rfl rfl ?_
  refine pgs hG rfl rfl ?_
  refine pi_ge hG (t := 16) rfl rfl (fun _ => ?_) (fun h => ?_)
  · refine pgs hG rfl rfl ?_
    refine pg_nar hG (n := n) rfl rfl hn h1 h2 (fun q hq hbq => ?_)
    have hqb : b ≠ q := fun e => by rw [← e, hb] at hq; cases hq
    refine pg_pf hG rfl rfl ((pm_up_ne _ _ hqb).trans hb) hbb (Nat.le_of_ble_eq_true rfl) rfl rfl ?_
    refine pgs hG rfl rfl ?_
    refine pgs hG rfl rfl ?_
    refine pg_pf hG rfl rfl (pm_up_self _ _ _) hbb (Nat.le_of_ble_eq_true rfl) rfl rfl ?_
    exact pg_rv hG rfl rfl (k q hq hbq)
  · exact absurd (nI_le h16 (by omega)) h
set_option maxRecDepth 100000 in
theorem s_By_clear (base : Nat) (sa : Nat → Nat) {b : Nat} {M : pmM} {v0 v1 : Value} {Rt : pmR} (hb : M b = some (.inr (0, [v0, v1]))) (hbb : base ≤ b) {kc ks : Nat} (k : Rt none (pm_up M b (.inr (0, [v0, .int 0]))) kc ks) : kP_By_clear base sa [.ref b] M kc ks Rt := by
  refine ⟨Nat.le_of_ble_eq_true rfl, fun G hG => ?_⟩
  refine pgs hG rfl rfl ?_
  refine pgs hG rfl rfl ?_
  refine pg_pf hG rfl rfl hb hbb (Nat.le_of_ble_eq_true rfl) rfl rfl ?_
  exact pg_rv hG rfl rfl k
/-- the byte at a place, or NONE -/
def by_at (n : Nat) (f : Nat → Int32) (i : Int32) : Int32 := if i < 0 then -1 else if nI n ≤ i then -1 else f i.toNatClampNeg &&& 255
set_option maxRecDepth 100000 in
theorem s_By_at (base : Nat) (sa : Nat → Nat) {b d cap n : Nat} {f : Nat → Int32} {i : Int32} {M : pmM} {Rt : pmR} (hr : rBy M b d cap n f) {kc ks : Nat} (k : Rt (some (.int (by_at n f i))) M kc ks) : kP_By_at base sa [.ref b, .int i] M kc ks Rt := by
  obtain ⟨hb, hd, hnc, h16, hcap⟩ := hr
  refine ⟨Nat.le_of_ble_eq_true rfl, fun G hG => ?_⟩
  refine pgs hG rfl rfl ?_
  refine pz_lt hG (t := 12) rfl rfl (fun c1 => ?_) (fun c1 => ?_)
  · refine pgs hG rfl rfl ?_
    refine pg_go hG (t := 26) rfl rfl ?_
    refine pg_ri hG rfl rfl rfl ?_
    rw [show by_at n f i = -1 from if_pos c1] at k
    exact k
  · refine pgs hG rfl rfl ?_
    refine pgs hG rfl rfl ?_
    refine pg_gf hG rfl rfl hb rfl ?_
    refine pi_lt hG (t := 16) rfl rfl (fun c2 => ?_) (fun c2 => ?_)
    · refine pgs hG rfl rfl ?_
      refine pg_gf hG rfl rfl hb rfl ?_
      refine pgs hG rfl rfl ?_
      obtain ⟨j, hj, rfl⟩ := nI_of c1
      have hjn : j < n := by
        rcases Nat.lt_or_ge j n with h | h
        · exact h
        · exact absurd c2 (nI_nlt h hj)
      refine pg_ba hG rfl hd (vp_in_nI (by omega) (by omega)) ?_
      refine pgs hG rfl rfl ?_
      refine pgs hG rfl rfl ?_
      refine pg_ri hG rfl rfl rfl ?_
      rw [show by_at n f (nI j) = f (nI j).toNatClampNeg &&& 255 from by unfold by_at; rw [if_neg c1, if_neg (nI_ge hjn (by omega))]] at k
      exact k
    · refine pgs hG rfl rfl ?_
      refine pg_go hG (t := 26) rfl rfl ?_
      refine pg_ri hG rfl rfl rfl ?_
      rw [show by_at n f i = -1 from by unfold by_at; rw [if_neg c1, if_pos (Int32.not_lt.mp c2)]] at k
      exact k
set_option maxRecDepth 100000 in
theorem s_By_setAt (base : Nat) (sa : Nat → Nat) {b d cap n j : Nat} {f : Nat → Int32} {v : Int32} {M : pmM} {Rt : pmR} (hr : rBy M b d cap n f) (hdb : base ≤ d) (hj : j < n) {kc ks : Nat} (k : Rt none (pm_up M d (.inl (.byte, cap, .inl (upd f j v.toInt8.toInt32)))) kc ks) : kP_By_setAt base sa [.ref b, .int (nI j), .int v] M kc ks Rt := by
  obtain ⟨hb, hd, hnc, h16, hcap⟩ := hr
  refine ⟨Nat.le_of_ble_eq_true rfl, fun G hG => ?_⟩
  refine pgs hG rfl rfl ?_
  refine pz_lt hG (t := 20) rfl rfl (fun c1 => absurd c1 (nI_pos (by omega))) (fun c1 => ?_)
  refine pgs hG rfl rfl ?_
  refine pgs hG rfl rfl ?_
  refine pg_gf hG rfl rfl hb rfl ?_
  refine pi_ge hG (t := 20) rfl rfl (fun c2 => absurd c2 (nI_ge hj (by omega))) (fun c2 => ?_)
  refine pgs hG rfl rfl ?_
  refine pg_gf hG rfl rfl hb rfl ?_
  refine pgs hG rfl rfl ?_
  refine pgs hG rfl rfl ?_
  refine pgs hG rfl rfl ?_
  refine pg_bs hG rfl hd hdb (vp_in_nI (by omega) (by omega)) ?_
  refine pg_rv hG rfl rfl ?_
  rw [nI_clamp (by omega), show v.toInt8.toInt32.toInt8.toInt32 = v.toInt8.toInt32 from pk_vb v] 
  exact k
