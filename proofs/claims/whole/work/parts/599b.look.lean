/-! Small calls of the class, over its memory. -/
/-- the field's links: n of them, in the row d -/
def cLk (s : cS) (x d n : Nat) : Prop := isO s 30 x ∧ s.I 227 x = nI n ∧ s.P 226 x = some d ∧ isA s 130 10 d ∧ n ≤ 10 ∧ ∀ j, j < n → ∃ a, s.Q d j = some a ∧ isO s 7 a
/-- the field's routers: n of them, in the row d -/
def cRs (s : cS) (x d n : Nat) : Prop := isO s 30 x ∧ s.I 229 x = nI n ∧ s.P 228 x = some d ∧ isA s 131 6 d ∧ n ≤ 6 ∧ ∀ j, j < n → ∃ a, s.Q d j = some a ∧ isO s 26 a
section Look
variable {R : pmM} {s : cS} {base : Nat} {x d n : Nat} {y z : Int32} {Rt : pmR} {kc ks : Nat}
set_option maxRecDepth 100000 in
theorem g_linkAt (sa : Nat → Nat) (h : cLk s x d n) (k0 : outR y n → Rt (some .null) (cM R s) kc ks) (k1 : ∀ j a, y = nI j → j < n → s.Q d j = some a → isO s 7 a → Rt (some (.ref a)) (cM R s) kc ks) : kP_Rf_linkAt base sa [.ref x, .int y] (cM R s) kc ks Rt := by
  obtain ⟨h1, h2, h3, h4, h5, h6⟩ := h
  refine s_Rf_linkAt base sa (cM_o h1 rfl rfl rfl) (congrArg Value.int h2) (congrArg va_rf h3) (cM_q h4 rfl rfl) rfl h5 (by decide) k0 (fun j hy hj => ?_)
  obtain ⟨a, g1, g2⟩ := h6 j hj
  rw [g1]
  exact k1 j a hy hj g1 g2
set_option maxRecDepth 100000 in
theorem g_routerAt (sa : Nat → Nat) (h : cRs s x d n) (k0 : outR y n → Rt (some .null) (cM R s) kc ks) (k1 : ∀ j a, y = nI j → j < n → s.Q d j = some a → isO s 26 a → Rt (some (.ref a)) (cM R s) kc ks) : kP_Rf_routerAt base sa [.ref x, .int y] (cM R s) kc ks Rt := by
  obtain ⟨h1, h2, h3, h4, h5, h6⟩ := h
  refine s_Rf_routerAt base sa (cM_o h1 rfl rfl rfl) (congrArg Value.int h2) (congrArg va_rf h3) (cM_q h4 rfl rfl) rfl h5 (by decide) k0 (fun j hy hj => ?_)
  obtain ⟨a, g1, g2⟩ := h6 j hj
  rw [g1]
  exact k1 j a hy hj g1 g2
set_option maxRecDepth 100000 in
theorem g_lose (sa : Nat → Nat) (hB : cB base s) (h : cLk s x d n) (k0 : (outR y n ∨ z < 0) → Rt (some (.int 0)) (cM R s) kc ks) (k1 : ∀ j a, y = nI j → j < n → ¬ z < 0 → s.Q d j = some a → isO s 7 a → Rt (some (.int 1)) (cM R (cSI s 66 a z)) kc ks) : kP_Rf_lose base sa [.ref x, .int y, .int z] (cM R s) kc ks Rt := by
  refine ⟨Nat.le_of_ble_eq_true rfl, fun G hG => ?_⟩
  refine pgs hG rfl rfl ?_
  refine pgs hG rfl rfl ?_
  refine pg_cal hG 0 rfl rfl (Nat.le_of_ble_eq_true rfl) (by decide) (Nat.le_of_ble_eq_true rfl) ?_
  refine pm_rcv_of (As' := [.int y]) (cM_o h.1 rfl rfl rfl) (g_linkAt sa h (fun c => ?_) (fun j a hy hj hq ho => ?_))
  · repeat (first | refine pgs hG rfl rfl ?_ | refine pgc hG rfl rfl (Nat.le_of_ble_eq_true rfl) ?_ | refine c_gi hG rfl rfl (by assumption) (by rfl) (by rfl) (by rfl) rfl rfl ?_ | refine c_gj hG rfl rfl (by assumption) (by rfl) (by rfl) (by rfl) rfl rfl ?_ | refine c_gr hG rfl rfl (by assumption) (by rfl) (by rfl) (by rfl) rfl rfl (by assumption) ?_)
    refine pn_null (q := none) hG (t := 14) rfl rfl (fun _ => ?_) (fun c => absurd rfl c)
    repeat (first | refine pgs hG rfl rfl ?_ | refine pgc hG rfl rfl (Nat.le_of_ble_eq_true rfl) ?_ | refine c_gi hG rfl rfl (by assumption) (by rfl) (by rfl) (by rfl) rfl rfl ?_ | refine c_gj hG rfl rfl (by assumption) (by rfl) (by rfl) (by rfl) rfl rfl ?_ | refine c_gr hG rfl rfl (by assumption) (by rfl) (by rfl) (by rfl) rfl rfl (by assumption) ?_)
    exact pg_ri hG rfl rfl rfl (k0 (Or.inl c))
  · repeat (first | refine pgs hG rfl rfl ?_ | refine pgc hG rfl rfl (Nat.le_of_ble_eq_true rfl) ?_ | refine c_gi hG rfl rfl (by assumption) (by rfl) (by rfl) (by rfl) rfl rfl ?_ | refine c_gj hG rfl rfl (by assumption) (by rfl) (by rfl) (by rfl) rfl rfl ?_ | refine c_gr hG rfl rfl (by assumption) (by rfl) (by rfl) (by rfl) rfl rfl (by assumption) ?_)
    refine pn_null (q := some a) hG (t := 14) rfl rfl (fun c => absurd c (by simp)) (fun _ => ?_)
    repeat (first | refine pgs hG rfl rfl ?_ | refine pgc hG rfl rfl (Nat.le_of_ble_eq_true rfl) ?_ | refine c_gi hG rfl rfl (by assumption) (by rfl) (by rfl) (by rfl) rfl rfl ?_ | refine c_gj hG rfl rfl (by assumption) (by rfl) (by rfl) (by rfl) rfl rfl ?_ | refine c_gr hG rfl rfl (by assumption) (by rfl) (by rfl) (by rfl) rfl rfl (by assumption) ?_)
    refine pz_ge hG (t := 16) rfl rfl (fun c11 => ?_) (fun c11 => ?_)
    · repeat (first | refine pgs hG rfl rfl ?_ | refine pgc hG rfl rfl (Nat.le_of_ble_eq_true rfl) ?_ | refine c_gi hG rfl rfl (by assumption) (by rfl) (by rfl) (by rfl) rfl rfl ?_ | refine c_gj hG rfl rfl (by assumption) (by rfl) (by rfl) (by rfl) rfl rfl ?_ | refine c_gr hG rfl rfl (by assumption) (by rfl) (by rfl) (by rfl) rfl rfl (by assumption) ?_)
      refine c_pi hG rfl rfl ho hB rfl rfl rfl rfl rfl rfl rfl ?_
      repeat (first | refine pgs hG rfl rfl ?_ | refine pgc hG rfl rfl (Nat.le_of_ble_eq_true rfl) ?_ | refine c_gi hG rfl rfl (by assumption) (by rfl) (by rfl) (by rfl) rfl rfl ?_ | refine c_gj hG rfl rfl (by assumption) (by rfl) (by rfl) (by rfl) rfl rfl ?_ | refine c_gr hG rfl rfl (by assumption) (by rfl) (by rfl) (by rfl) rfl rfl (by assumption) ?_)
      exact pg_ri hG rfl rfl rfl (k1 j a hy hj (Int32.not_lt.mpr c11) hq ho)
    · repeat (first | refine pgs hG rfl rfl ?_ | refine pgc hG rfl rfl (Nat.le_of_ble_eq_true rfl) ?_ | refine c_gi hG rfl rfl (by assumption) (by rfl) (by rfl) (by rfl) rfl rfl ?_ | refine c_gj hG rfl rfl (by assumption) (by rfl) (by rfl) (by rfl) rfl rfl ?_ | refine c_gr hG rfl rfl (by assumption) (by rfl) (by rfl) (by rfl) rfl rfl (by assumption) ?_)
      exact pg_ri hG rfl rfl rfl (k0 (Or.inr (Int32.not_le.mp c11)))
set_option maxRecDepth 100000 in
theorem g_count (sa : Nat → Nat) (h : cRs s x d n) (hc : ∀ a, isO s 26 a → ∃ c, s.P 196 a = some c ∧ isA s 104 11 c) (k0 : (outR y n ∨ z < 0 ∨ ¬ z < 11) → Rt (some (.int (-1))) (cM R s) kc ks) (k1 : ∀ j i a c, y = nI j → j < n → z = nI i → i < 11 → s.Q d j = some a → s.P 196 a = some c → Rt (some (.int (s.E c i))) (cM R s) kc ks) : kP_Rf_count base sa [.ref x, .int y, .int z] (cM R s) kc ks Rt := by
  refine ⟨Nat.le_of_ble_eq_true rfl, fun G hG => ?_⟩
  refine pgs hG rfl rfl ?_
  refine pgs hG rfl rfl ?_
  refine pg_cal hG 0 rfl rfl (Nat.le_of_ble_eq_true rfl) (by decide) (Nat.le_of_ble_eq_true rfl) ?_
  refine pm_rcv_of (As' := [.int y]) (cM_o h.1 rfl rfl rfl) (g_routerAt sa h (fun c => ?_) (fun j a hy hj hq ho => ?_))
  · repeat (first | refine pgs hG rfl rfl ?_ | refine pgc hG rfl rfl (Nat.le_of_ble_eq_true rfl) ?_ | refine c_gi hG rfl rfl (by assumption) (by rfl) (by rfl) (by rfl) rfl rfl ?_ | refine c_gj hG rfl rfl (by assumption) (by rfl) (by rfl) (by rfl) rfl rfl ?_ | refine c_gr hG rfl rfl (by assumption) (by rfl) (by rfl) (by rfl) rfl rfl (by assumption) ?_)
    refine pn_null (q := none) hG (t := 20) rfl rfl (fun _ => ?_) (fun c => absurd rfl c)
    repeat (first | refine pgs hG rfl rfl ?_ | refine pgc hG rfl rfl (Nat.le_of_ble_eq_true rfl) ?_ | refine c_gi hG rfl rfl (by assumption) (by rfl) (by rfl) (by rfl) rfl rfl ?_ | refine c_gj hG rfl rfl (by assumption) (by rfl) (by rfl) (by rfl) rfl rfl ?_ | refine c_gr hG rfl rfl (by assumption) (by rfl) (by rfl) (by rfl) rfl rfl (by assumption) ?_)
    exact pg_ri hG rfl rfl rfl (k0 (Or.inl c))
  · repeat (first | refine pgs hG rfl rfl ?_ | refine pgc hG rfl rfl (Nat.le_of_ble_eq_true rfl) ?_ | refine c_gi hG rfl rfl (by assumption) (by rfl) (by rfl) (by rfl) rfl rfl ?_ | refine c_gj hG rfl rfl (by assumption) (by rfl) (by rfl) (by rfl) rfl rfl ?_ | refine c_gr hG rfl rfl (by assumption) (by rfl) (by rfl) (by rfl) rfl rfl (by assumption) ?_)
    refine pn_null (q := some a) hG (t := 20) rfl rfl (fun c => absurd c (by simp)) (fun _ => ?_)
    repeat (first | refine pgs hG rfl rfl ?_ | refine pgc hG rfl rfl (Nat.le_of_ble_eq_true rfl) ?_ | refine c_gi hG rfl rfl (by assumption) (by rfl) (by rfl) (by rfl) rfl rfl ?_ | refine c_gj hG rfl rfl (by assumption) (by rfl) (by rfl) (by rfl) rfl rfl ?_ | refine c_gr hG rfl rfl (by assumption) (by rfl) (by rfl) (by rfl) rfl rfl (by assumption) ?_)
    refine pz_lt hG (t := 20) rfl rfl (fun c11 => ?_) (fun c11 => ?_)
    · repeat (first | refine pgs hG rfl rfl ?_ | refine pgc hG rfl rfl (Nat.le_of_ble_eq_true rfl) ?_ | refine c_gi hG rfl rfl (by assumption) (by rfl) (by rfl) (by rfl) rfl rfl ?_ | refine c_gj hG rfl rfl (by assumption) (by rfl) (by rfl) (by rfl) rfl rfl ?_ | refine c_gr hG rfl rfl (by assumption) (by rfl) (by rfl) (by rfl) rfl rfl (by assumption) ?_)
      exact pg_ri hG rfl rfl rfl (k0 (Or.inr (Or.inl c11)))
    · repeat (first | refine pgs hG rfl rfl ?_ | refine pgc hG rfl rfl (Nat.le_of_ble_eq_true rfl) ?_ | refine c_gi hG rfl rfl (by assumption) (by rfl) (by rfl) (by rfl) rfl rfl ?_ | refine c_gj hG rfl rfl (by assumption) (by rfl) (by rfl) (by rfl) rfl rfl ?_ | refine c_gr hG rfl rfl (by assumption) (by rfl) (by rfl) (by rfl) rfl rfl (by assumption) ?_)
      rw [show (Int8.ofInt 11).toInt32 = (11 : Int32) from by decide]
      refine pi_lt hG (t := 22) rfl rfl (fun c17 => ?_) (fun c17 => ?_)
      · obtain ⟨i, hi, rfl⟩ := nI_of c11
        have hi11 : i < 11 := (nI_ltI hi (by decide)).mp (show nI i < nI 11 from c17)
        obtain ⟨c, g1, g2⟩ := hc a ho
        repeat (first | refine pgs hG rfl rfl ?_ | refine pgc hG rfl rfl (Nat.le_of_ble_eq_true rfl) ?_ | refine c_gi hG rfl rfl (by assumption) (by rfl) (by rfl) (by rfl) rfl rfl ?_ | refine c_gj hG rfl rfl (by assumption) (by rfl) (by rfl) (by rfl) rfl rfl ?_ | refine c_gr hG rfl rfl (by assumption) (by rfl) (by rfl) (by rfl) rfl rfl (by assumption) ?_)
        refine c_ia hG rfl g2 rfl rfl rfl (vp_in_nI hi11 (by decide)) ?_
        rw [nI_clamp hi]
        exact pg_ri hG rfl rfl rfl (k1 j i a c hy hj rfl hi11 hq g1)
      · repeat (first | refine pgs hG rfl rfl ?_ | refine pgc hG rfl rfl (Nat.le_of_ble_eq_true rfl) ?_ | refine c_gi hG rfl rfl (by assumption) (by rfl) (by rfl) (by rfl) rfl rfl ?_ | refine c_gj hG rfl rfl (by assumption) (by rfl) (by rfl) (by rfl) rfl rfl ?_ | refine c_gr hG rfl rfl (by assumption) (by rfl) (by rfl) (by rfl) rfl rfl (by assumption) ?_)
        exact pg_ri hG rfl rfl rfl (k0 (Or.inr (Or.inr c17)))
set_option maxRecDepth 100000 in
theorem g_routes (sa : Nat → Nat) (h : cRs s x d n) (hc : ∀ a, isO s 26 a → ∃ c, s.P 186 a = some c ∧ isO s 27 c) (k0 : outR y n → Rt (some (.int (-1))) (cM R s) kc ks) (k1 : ∀ j a c, y = nI j → j < n → s.Q d j = some a → s.P 186 a = some c → Rt (some (.int (s.I 201 c))) (cM R s) kc ks) : kP_Rf_routes base sa [.ref x, .int y] (cM R s) kc ks Rt := by
  refine ⟨Nat.le_of_ble_eq_true rfl, fun G hG => ?_⟩
  refine pgs hG rfl rfl ?_
  refine pgs hG rfl rfl ?_
  refine pg_cal hG 0 rfl rfl (Nat.le_of_ble_eq_true rfl) (by decide) (Nat.le_of_ble_eq_true rfl) ?_
  refine pm_rcv_of (As' := [.int y]) (cM_o h.1 rfl rfl rfl) (g_routerAt sa h (fun c => ?_) (fun j a hy hj hq ho => ?_))
  · repeat (first | refine pgs hG rfl rfl ?_ | refine pgc hG rfl rfl (Nat.le_of_ble_eq_true rfl) ?_ | refine c_gi hG rfl rfl (by assumption) (by rfl) (by rfl) (by rfl) rfl rfl ?_ | refine c_gj hG rfl rfl (by assumption) (by rfl) (by rfl) (by rfl) rfl rfl ?_ | refine c_gr hG rfl rfl (by assumption) (by rfl) (by rfl) (by rfl) rfl rfl (by assumption) ?_)
    refine pn_nonnull (q := none) hG (t := 14) rfl rfl (fun c => absurd rfl c) (fun _ => ?_)
    repeat (first | refine pgs hG rfl rfl ?_ | refine pgc hG rfl rfl (Nat.le_of_ble_eq_true rfl) ?_ | refine c_gi hG rfl rfl (by assumption) (by rfl) (by rfl) (by rfl) rfl rfl ?_ | refine c_gj hG rfl rfl (by assumption) (by rfl) (by rfl) (by rfl) rfl rfl ?_ | refine c_gr hG rfl rfl (by assumption) (by rfl) (by rfl) (by rfl) rfl rfl (by assumption) ?_)
    refine pg_go hG (t := 21) rfl rfl ?_
    exact pg_ri hG rfl rfl rfl (k0 c)
  · repeat (first | refine pgs hG rfl rfl ?_ | refine pgc hG rfl rfl (Nat.le_of_ble_eq_true rfl) ?_ | refine c_gi hG rfl rfl (by assumption) (by rfl) (by rfl) (by rfl) rfl rfl ?_ | refine c_gj hG rfl rfl (by assumption) (by rfl) (by rfl) (by rfl) rfl rfl ?_ | refine c_gr hG rfl rfl (by assumption) (by rfl) (by rfl) (by rfl) rfl rfl (by assumption) ?_)
    refine pn_nonnull (q := some a) hG (t := 14) rfl rfl (fun _ => ?_) (fun c => absurd c (by simp))
    obtain ⟨c, g1, g2⟩ := hc a ho
    repeat (first | refine pgs hG rfl rfl ?_ | refine pgc hG rfl rfl (Nat.le_of_ble_eq_true rfl) ?_ | refine c_gi hG rfl rfl (by assumption) (by rfl) (by rfl) (by rfl) rfl rfl ?_ | refine c_gj hG rfl rfl (by assumption) (by rfl) (by rfl) (by rfl) rfl rfl ?_ | refine c_gr hG rfl rfl (by assumption) (by rfl) (by rfl) (by rfl) rfl rfl (by assumption) ?_)
    exact pg_ri hG rfl rfl rfl (k1 j a c hy hj hq g1)
set_option maxRecDepth 100000 in
theorem g_now (sa : Nat → Nat) (h : isO s 30 x) (k : Rt (some (.int (s.I 225 x))) (cM R s) kc ks) : kP_Rf_now base sa [.ref x] (cM R s) kc ks Rt := by
  refine ⟨Nat.le_of_ble_eq_true rfl, fun G hG => ?_⟩
  repeat (first | refine pgs hG rfl rfl ?_ | refine pgc hG rfl rfl (Nat.le_of_ble_eq_true rfl) ?_ | refine c_gi hG rfl rfl (by assumption) (by rfl) (by rfl) (by rfl) rfl rfl ?_ | refine c_gj hG rfl rfl (by assumption) (by rfl) (by rfl) (by rfl) rfl rfl ?_ | refine c_gr hG rfl rfl (by assumption) (by rfl) (by rfl) (by rfl) rfl rfl (by assumption) ?_)
  exact pg_ri hG rfl rfl rfl k
set_option maxRecDepth 100000 in
theorem g_fault (sa : Nat → Nat) (h : isO s 30 x) (k : Rt (some (.int (s.I 224 x))) (cM R s) kc ks) : kP_Rf_fault base sa [.ref x] (cM R s) kc ks Rt := by
  refine ⟨Nat.le_of_ble_eq_true rfl, fun G hG => ?_⟩
  repeat (first | refine pgs hG rfl rfl ?_ | refine pgc hG rfl rfl (Nat.le_of_ble_eq_true rfl) ?_ | refine c_gi hG rfl rfl (by assumption) (by rfl) (by rfl) (by rfl) rfl rfl ?_ | refine c_gj hG rfl rfl (by assumption) (by rfl) (by rfl) (by rfl) rfl rfl ?_ | refine c_gr hG rfl rfl (by assumption) (by rfl) (by rfl) (by rfl) rfl rfl (by assumption) ?_)
  exact pg_ri hG rfl rfl rfl k
set_option maxRecDepth 100000 in
theorem g_flying (sa : Nat → Nat) (h : isO s 30 x) (k : Rt (some (.int (s.I 233 x))) (cM R s) kc ks) : kP_Rf_flying base sa [.ref x] (cM R s) kc ks Rt := by
  refine ⟨Nat.le_of_ble_eq_true rfl, fun G hG => ?_⟩
  repeat (first | refine pgs hG rfl rfl ?_ | refine pgc hG rfl rfl (Nat.le_of_ble_eq_true rfl) ?_ | refine c_gi hG rfl rfl (by assumption) (by rfl) (by rfl) (by rfl) rfl rfl ?_ | refine c_gj hG rfl rfl (by assumption) (by rfl) (by rfl) (by rfl) rfl rfl ?_ | refine c_gr hG rfl rfl (by assumption) (by rfl) (by rfl) (by rfl) rfl rfl (by assumption) ?_)
  exact pg_ri hG rfl rfl rfl k
set_option maxRecDepth 100000 in
theorem g_clear (sa : Nat → Nat) {u b : Nat} (hB : cB base s) (h : isO s u b) (hu : Nat.ble 1 u = true) (hv : Nat.ble (u + 1) 100 = true) (hc : cKn u = 0) (k : Rt none (cM R (cSI s 1 b 0)) kc ks) : kP_By_clear base sa [.ref b] (cM R s) kc ks Rt := by
  refine ⟨Nat.le_of_ble_eq_true rfl, fun G hG => ?_⟩
  repeat (first | refine pgs hG rfl rfl ?_ | refine pgc hG rfl rfl (Nat.le_of_ble_eq_true rfl) ?_ | refine c_gi hG rfl rfl (by assumption) (by rfl) (by rfl) (by rfl) rfl rfl ?_ | refine c_gj hG rfl rfl (by assumption) (by rfl) (by rfl) (by rfl) rfl rfl ?_ | refine c_gr hG rfl rfl (by assumption) (by rfl) (by rfl) (by rfl) rfl rfl (by assumption) ?_)
  refine c_pi hG rfl rfl h hB hu hv hc rfl rfl rfl rfl ?_
  exact pg_rv hG rfl rfl k
end Look
