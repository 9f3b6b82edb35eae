/-! The first call on new objects: Inv, its obligations, the law. -/
def mo_has (M : pmM) (m : Nat) (q : Nat → Nat) (s : moS) : Prop := M m = some (.inr (12, moL (moV q s))) ∧ ∀ k ∈ moAr, M (q k) = some (moA s k)
theorem mo_has.eq {M : pmM} {base m : Nat} {q : Nat → Nat} {s : moS} (h : mo_has M m q s) (hq : moQ base m q) : M = moM M m q s := by
  funext a
  by_cases ha : a = m
  · subst ha
    rw [moM_m]
    exact h.1
  · by_cases hk : ∃ k ∈ moAr, q k = a
    · obtain ⟨k, hk, rfl⟩ := hk
      rw [moM_q hq hk]
      exact h.2 k hk
    · exact (moM_o ha (fun k hk' e => hk ⟨k, hk', e⟩)).symm
theorem mo_has_of {R : pmM} {base m : Nat} {q : Nat → Nat} {s : moS} (hq : moQ base m q) : mo_has (moM R m q s) m q s := ⟨moM_m, fun _ hk => moM_q hq hk⟩
/-- a cell that isn't the model's -/
def mo_off (m : Nat) (q : Nat → Nat) (a : Nat) : Prop := a ≠ m ∧ ∀ k ∈ moAr, q k ≠ a
theorem mo_has.keep {M M' : pmM} {m : Nat} {q : Nat → Nat} {s : moS} (h : mo_has M m q s) (h' : ∀ a, M a ≠ none → ¬ mo_off m q a → M' a = M a) : mo_has M' m q s := ⟨(h' m (by rw [h.1]; simp) (fun o => o.1 rfl)).trans h.1, fun k hk => (h' (q k) (by rw [h.2 k hk]; simp) (fun o => o.2 k hk rfl)).trans (h.2 k hk)⟩
/-- all is as the constructors left it -/
def p1F (base b x m : Nat) (M : pmM) (kc ks : Nat) : Prop := ∃ (q : Nat → Nat) (F : Nat → Value) (qt qta qx qxa qp qpa ql qr qh : Nat), moQ base m q ∧ mo_has M m q moS0 ∧ (mo_off m q b ∧ mo_off m q x ∧ mo_off m q qt ∧ mo_off m q qta ∧ mo_off m q qp) ∧ (base ≤ x ∧ base ≤ qt ∧ base ≤ qp ∧ base ≤ qh) ∧ (b ≠ x ∧ b ≠ qt ∧ b ≠ qta ∧ b ≠ qp ∧ x ≠ qt ∧ x ≠ qta) ∧ M x = some (.inr (11, obL 20 F)) ∧ (F 0 = .ref qt ∧ F 1 = .ref qx ∧ F 2 = .ref qp ∧ F 3 = .null ∧ F 4 = .int 0 ∧ F 5 = .int 0 ∧ F 6 = .ref ql ∧ F 7 = .int 0 ∧ F 8 = .ref qr ∧ F 9 = .int 0 ∧ F 11 = .int 0 ∧ F 13 = .int 0 ∧ F 19 = .ref qh) ∧ vBy base M qt [] qta 64 ∧ M qx = some (.inr (0, [.ref qxa, .int 0])) ∧ M qp = some (.inr (0, [.ref qpa, .int 0])) ∧ M ql = some (.inl (.object "RoutingField$Link", 10, .inr (.inr (.inr (.inr fun _ => none))))) ∧ M qr = some (.inl (.object "RoutingField$Router", 6, .inr (.inr (.inr (.inr fun _ => none))))) ∧ M qh = some (pfx 4 0 0 0) ∧ 1000 ≤ kc ∧ 100000 ≤ ks
def p1I (base b L : Nat) (xs : Nat → Int32) (x m : Nat) (n : Nat) (M : pmM) (kc ks : Nat) : Prop := M b = some (.inl (.int, L, .inl xs)) ∧ n ≤ 1 ∧ (n = 1 → p1F base b x m M kc ks)
theorem p1_end {base b L x m kc ks : Nat} {xs : Nat → Int32} {M : pmM} (h : M b = some (.inl (.int, L, .inl xs))) : p1I base b L xs x m 0 M kc ks := ⟨h, by omega, fun e => by cases e⟩
theorem p1_ob {base b L x m : Nat} {xs : Nat → Int32} {T1 T2 : pmT} {A1 A2 : List Value} (h : ∀ M kc ks, M b = some (.inl (.int, L, .inl xs)) → p1F base b x m M kc ks → T1 A1 M kc ks fun v M1 kc1 ks1 => M1 b = some (.inl (.int, L, .inl xs)) ∧ ∃ r : Int32, v = some (.int r) ∧ T2 A2 M1 kc1 ks1 fun v2 M2 kc2 ks2 => v2 = some (.int r) ∧ p1I base b L xs x m 0 M2 kc2 ks2) : lw2 (p1I base b L xs x m) b L xs T1 T2 A1 A2 := by
  intro n M kc ks hI
  obtain ⟨hb, hn, hf⟩ := hI
  have e : n = 0 := by omega
  subst e
  exact h M kc ks hb (hf rfl)
theorem nI_inj {a b : Nat} (h : nI a = nI b) (ha : a < 2 ^ 31) (hb : b < 2 ^ 31) : a = b := by
  have e := congrArg Int32.toInt h
  rw [nI_toInt ha, nI_toInt hb] at e
  omega
theorem tk_no {y : Int32} {τ n : Nat} (c : y < 0 ∨ ∃ n, y = nI n ∧ n < 2 ^ 31 ∧ (2000 < n ∨ 20000 < τ + n)) (e : y = nI n) (h1 : n ≤ 2000) (h2 : τ + n ≤ 20000) : False := by
  rcases c with c | ⟨j, ej, hj, hc⟩
  · rw [e, Int32.lt_iff_toInt_lt, nI_toInt (by omega)] at c
    have h0 : (0 : Int32).toInt = 0 := rfl
    omega
  · have := nI_inj (ej.symm.trans e) hj (by omega)
    omega
section First
variable (base : Nat) (sa : Nat → Nat) {b L x m : Nat} {xs : Nat → Int32}
set_option maxRecDepth 100000 in
theorem p1_5 : ∀ y0 y1 : Int32, lw2 (p1I base b L xs x m) b L xs (pm_rcv 11 (kP_Rf_link base sa)) (pm_rcv 12 (kP_Mo_link base sa)) [.ref x, .int y0, .int y1] [.ref m, .int y0, .int y1] := by
  intro y0 y1
  refine p1_ob ?_
  intro M kc ks hb hF
  obtain ⟨q, F, qt, qta, qx, qxa, qp, qpa, ql, qr, qh, hq, hm, ⟨ob, ox, ot, ota, op⟩, ⟨bx, bt, bp, bh⟩, ⟨nx, nt, nta, np, xt, xta⟩, hx, ⟨h0, h1, h2, h3, h4, h5, h6, h7, h8, h9, h11, h13, h19⟩, hv, hMx, hMp, hMl, hMr, hMh, hkc, hks⟩ := hF
  refine pm_rcv_of (As' := [.int y0, .int y1]) hx (c_link0 base sa (t := 0) hx h7 h6 hMl rfl (Nat.zero_le _) (by decide) (outR_all _) ⟨hb, 0, rfl, ?_⟩)
  rw [hm.eq hq]
  exact pm_rcv_of (As' := [.int y0, .int y1]) moM_m (m_link0 base sa hq (t := 0) rfl (outR_all _) ⟨rfl, p1_end ((moM_o ob.1 ob.2).trans hb)⟩)

set_option maxRecDepth 100000 in
theorem p1_7 : ∀ y0 y1 : Int32, lw2 (p1I base b L xs x m) b L xs (pm_rcv 11 (kP_Rf_run base sa)) (pm_rcv 12 (kP_Mo_run base sa)) [.ref x, .int y0, .int y1] [.ref m, .int y0, .int y1] := by
  intro y0 y1
  refine p1_ob ?_
  intro M kc ks hb hF
  obtain ⟨q, F, qt, qta, qx, qxa, qp, qpa, ql, qr, qh, hq, hm, ⟨ob, ox, ot, ota, op⟩, ⟨bx, bt, bp, bh⟩, ⟨nx, nt, nta, np, xt, xta⟩, hx, ⟨h0, h1, h2, h3, h4, h5, h6, h7, h8, h9, h11, h13, h19⟩, hv, hMx, hMp, hMl, hMr, hMh, hkc, hks⟩ := hF
  refine pm_rcv_of (As' := [.int y0, .int y1]) hx (c_run0 base sa (t := 0) hx h9 h8 hMr rfl (Nat.zero_le _) (by decide) (outR_all _) ⟨hb, 0, rfl, ?_⟩)
  rw [hm.eq hq]
  exact pm_rcv_of (As' := [.int y0, .int y1]) moM_m (m_run0 base sa hq (t := 0) rfl (outR_all _) ⟨rfl, p1_end ((moM_o ob.1 ob.2).trans hb)⟩)

set_option maxRecDepth 100000 in
theorem p1_9 : ∀ y0 y1 : Int32, lw2 (p1I base b L xs x m) b L xs (pm_rcv 11 (kP_Rf_show base sa)) (pm_rcv 12 (kP_Mo_show base sa)) [.ref x, .int y0, .int y1] [.ref m, .int y0, .int y1] := by
  intro y0 y1
  refine p1_ob ?_
  intro M kc ks hb hF
  obtain ⟨q, F, qt, qta, qx, qxa, qp, qpa, ql, qr, qh, hq, hm, ⟨ob, ox, ot, ota, op⟩, ⟨bx, bt, bp, bh⟩, ⟨nx, nt, nta, np, xt, xta⟩, hx, ⟨h0, h1, h2, h3, h4, h5, h6, h7, h8, h9, h11, h13, h19⟩, hv, hMx, hMp, hMl, hMr, hMh, hkc, hks⟩ := hF
  refine pm_rcv_of (As' := [.int y0, .int y1]) hx (c_show0 base sa (t := 0) hx h9 h8 hMr rfl (Nat.zero_le _) (by decide) (outR_all _) ⟨hb, (-1), rfl, ?_⟩)
  rw [hm.eq hq]
  exact pm_rcv_of (As' := [.int y0, .int y1]) moM_m (m_show0 base sa hq (t := 0) rfl (by decide) (outR_all _) ⟨rfl, p1_end ((moM_o ob.1 ob.2).trans hb)⟩)

set_option maxRecDepth 100000 in
theorem p1_13 : ∀ y0 : Int32, lw2 (p1I base b L xs x m) b L xs (pm_rcv 11 (kP_Rf_seen base sa)) (pm_rcv 12 (kP_Mo_seen base sa)) [.ref x, .int y0] [.ref m, .int y0] := by
  intro y0
  refine p1_ob ?_
  intro M kc ks hb hF
  obtain ⟨q, F, qt, qta, qx, qxa, qp, qpa, ql, qr, qh, hq, hm, ⟨ob, ox, ot, ota, op⟩, ⟨bx, bt, bp, bh⟩, ⟨nx, nt, nta, np, xt, xta⟩, hx, ⟨h0, h1, h2, h3, h4, h5, h6, h7, h8, h9, h11, h13, h19⟩, hv, hMx, hMp, hMl, hMr, hMh, hkc, hks⟩ := hF
  refine pm_rcv_of (As' := [.int y0]) hx (c_seen0 base sa (t := 0) hx h7 h6 hMl rfl (Nat.zero_le _) (by decide) (outR_all _) ⟨hb, (-1), rfl, ?_⟩)
  rw [hm.eq hq]
  exact pm_rcv_of (As' := [.int y0]) moM_m (m_seen0 base sa hq (t := 0) rfl (outR_all _) ⟨rfl, p1_end ((moM_o ob.1 ob.2).trans hb)⟩)

set_option maxRecDepth 100000 in
theorem p1_18 : lw2 (p1I base b L xs x m) b L xs (pm_rcv 11 (kP_Rf_now base sa)) (pm_rcv 12 (kP_Mo_now base sa)) [.ref x] [.ref m] := by
  refine p1_ob ?_
  intro M kc ks hb hF
  obtain ⟨q, F, qt, qta, qx, qxa, qp, qpa, ql, qr, qh, hq, hm, ⟨ob, ox, ot, ota, op⟩, ⟨bx, bt, bp, bh⟩, ⟨nx, nt, nta, np, xt, xta⟩, hx, ⟨h0, h1, h2, h3, h4, h5, h6, h7, h8, h9, h11, h13, h19⟩, hv, hMx, hMp, hMl, hMr, hMh, hkc, hks⟩ := hF
  refine pm_rcv_of (As' := []) hx (s_Rf_now base sa hx h5 ⟨hb, 0, rfl, ?_⟩)
  rw [hm.eq hq]
  exact pm_rcv_of (As' := []) moM_m (m_now base sa hq ⟨rfl, p1_end ((moM_o ob.1 ob.2).trans hb)⟩)

set_option maxRecDepth 100000 in
theorem p1_3 : lw2 (p1I base b L xs x m) b L xs (pm_rcv 11 (kP_Rf_fault base sa)) (pm_rcv 12 (kP_Mo_fault base sa)) [.ref x] [.ref m] := by
  refine p1_ob ?_
  intro M kc ks hb hF
  obtain ⟨q, F, qt, qta, qx, qxa, qp, qpa, ql, qr, qh, hq, hm, ⟨ob, ox, ot, ota, op⟩, ⟨bx, bt, bp, bh⟩, ⟨nx, nt, nta, np, xt, xta⟩, hx, ⟨h0, h1, h2, h3, h4, h5, h6, h7, h8, h9, h11, h13, h19⟩, hv, hMx, hMp, hMl, hMr, hMh, hkc, hks⟩ := hF
  refine pm_rcv_of (As' := []) hx (s_Rf_fault base sa hx h4 ⟨hb, 0, rfl, ?_⟩)
  rw [hm.eq hq]
  exact pm_rcv_of (As' := []) moM_m (m_fault base sa hq ⟨rfl, p1_end ((moM_o ob.1 ob.2).trans hb)⟩)

set_option maxRecDepth 100000 in
theorem p1_17 : lw2 (p1I base b L xs x m) b L xs (pm_rcv 11 (kP_Rf_flying base sa)) (pm_rcv 12 (kP_Mo_flying base sa)) [.ref x] [.ref m] := by
  refine p1_ob ?_
  intro M kc ks hb hF
  obtain ⟨q, F, qt, qta, qx, qxa, qp, qpa, ql, qr, qh, hq, hm, ⟨ob, ox, ot, ota, op⟩, ⟨bx, bt, bp, bh⟩, ⟨nx, nt, nta, np, xt, xta⟩, hx, ⟨h0, h1, h2, h3, h4, h5, h6, h7, h8, h9, h11, h13, h19⟩, hv, hMx, hMp, hMl, hMr, hMh, hkc, hks⟩ := hF
  refine pm_rcv_of (As' := []) hx (s_Rf_flying base sa hx h13 ⟨hb, 0, rfl, ?_⟩)
  rw [hm.eq hq]
  exact pm_rcv_of (As' := []) moM_m (m_flying base sa hq ⟨rfl, p1_end ((moM_o ob.1 ob.2).trans hb)⟩)

set_option maxRecDepth 100000 in
theorem p1_6 : ∀ y0 y1 : Int32, lw2 (p1I base b L xs x m) b L xs (pm_rcv 11 (kP_Rf_lose base sa)) (pm_rcv 12 (kP_Mo_lose base sa)) [.ref x, .int y0, .int y1] [.ref m, .int y0, .int y1] := by
  intro y0 y1
  refine p1_ob ?_
  intro M kc ks hb hF
  obtain ⟨q, F, qt, qta, qx, qxa, qp, qpa, ql, qr, qh, hq, hm, ⟨ob, ox, ot, ota, op⟩, ⟨bx, bt, bp, bh⟩, ⟨nx, nt, nta, np, xt, xta⟩, hx, ⟨h0, h1, h2, h3, h4, h5, h6, h7, h8, h9, h11, h13, h19⟩, hv, hMx, hMp, hMl, hMr, hMh, hkc, hks⟩ := hF
  refine pm_rcv_of (As' := [.int y0, .int y1]) hx (s_Rf_lose base sa (t := 0) hx h7 h6 hMl rfl (Nat.zero_le _) (by decide) (fun j hj => absurd hj (Nat.not_lt_zero _)) (fun _ => ⟨hb, 0, rfl, ?_⟩) (fun j a fs _ hj => absurd hj (Nat.not_lt_zero _)))
  exact pm_rcv_of (As' := [.int y0, .int y1]) hm.1 (s_Mo_lose base sa (t := 0) hm.1 hq.1 (show moV q moS0 17 = .int (nI 0) from rfl) (show moV q moS0 24 = .ref (q 24) from rfl) ((hm.2 24 (mo_mem rfl rfl)).trans (congrArg some (moA_i rfl))) (hq.2 24 (mo_mem rfl rfl)).1 (Nat.zero_le _) (by decide) (fun _ => ⟨rfl, p1_end ((pm_up_ne _ _ ob.1).trans hb)⟩) (fun j _ hj => absurd hj (Nat.not_lt_zero _)))

set_option maxRecDepth 100000 in
theorem p1_15 : ∀ y0 y1 : Int32, lw2 (p1I base b L xs x m) b L xs (pm_rcv 11 (kP_Rf_count base sa)) (pm_rcv 12 (kP_Mo_count base sa)) [.ref x, .int y0, .int y1] [.ref m, .int y0, .int y1] := by
  intro y0 y1
  refine p1_ob ?_
  intro M kc ks hb hF
  obtain ⟨q, F, qt, qta, qx, qxa, qp, qpa, ql, qr, qh, hq, hm, ⟨ob, ox, ot, ota, op⟩, ⟨bx, bt, bp, bh⟩, ⟨nx, nt, nta, np, xt, xta⟩, hx, ⟨h0, h1, h2, h3, h4, h5, h6, h7, h8, h9, h11, h13, h19⟩, hv, hMx, hMp, hMl, hMr, hMh, hkc, hks⟩ := hF
  refine pm_rcv_of (As' := [.int y0, .int y1]) hx (s_Rf_count base sa (t := 0) hx h9 h8 hMr rfl (Nat.zero_le _) (by decide) (fun j hj => absurd hj (Nat.not_lt_zero _)) (fun _ => ⟨hb, -1, rfl, ?_⟩) (fun j i a c fs g _ hj => absurd hj (Nat.not_lt_zero _)))
  exact pm_rcv_of (As' := [.int y0, .int y1]) hm.1 (s_Mo_count base sa (t := 0) hm.1 hq.1 (show moV q moS0 37 = .int (nI 0) from rfl) (show moV q moS0 45 = .ref (q 45) from rfl) ((hm.2 45 (mo_mem rfl rfl)).trans (congrArg some (moA_i rfl))) (Nat.zero_le _) (by decide) (fun _ => ⟨rfl, p1_end ((pm_up_ne _ _ ob.1).trans hb)⟩) (fun j i _ hj => absurd hj (Nat.not_lt_zero _)))

set_option maxRecDepth 100000 in
theorem p1_16 : ∀ y0 : Int32, lw2 (p1I base b L xs x m) b L xs (pm_rcv 11 (kP_Rf_routes base sa)) (pm_rcv 12 (kP_Mo_routes base sa)) [.ref x, .int y0] [.ref m, .int y0] := by
  intro y0
  refine p1_ob ?_
  intro M kc ks hb hF
  obtain ⟨q, F, qt, qta, qx, qxa, qp, qpa, ql, qr, qh, hq, hm, ⟨ob, ox, ot, ota, op⟩, ⟨bx, bt, bp, bh⟩, ⟨nx, nt, nta, np, xt, xta⟩, hx, ⟨h0, h1, h2, h3, h4, h5, h6, h7, h8, h9, h11, h13, h19⟩, hv, hMx, hMp, hMl, hMr, hMh, hkc, hks⟩ := hF
  refine pm_rcv_of (As' := [.int y0]) hx (s_Rf_routes base sa (t := 0) hx h9 h8 hMr rfl (Nat.zero_le _) (by decide) (fun j hj => absurd hj (Nat.not_lt_zero _)) (fun _ => ⟨hb, -1, rfl, ?_⟩) (fun j a c fs gs w _ hj => absurd hj (Nat.not_lt_zero _)))
  exact pm_rcv_of (As' := [.int y0]) hm.1 (s_Mo_routes base sa (t := 0) hm.1 hq.1 (show moV q moS0 37 = .int (nI 0) from rfl) (show moV q moS0 105 = .ref (q 105) from rfl) ((hm.2 105 (mo_mem rfl rfl)).trans (congrArg some (moA_i rfl))) (Nat.zero_le _) (by decide) (fun _ => ⟨rfl, p1_end ((pm_up_ne _ _ ob.1).trans hb)⟩) (fun j _ hj => absurd hj (Nat.not_lt_zero _)))

set_option maxRecDepth 100000 in
theorem p1_8 : ∀ y0 y1 y2 y3 : Int32, lw2 (p1I base b L xs x m) b L xs (pm_rcv 11 (kP_Rf_put base sa)) (pm_rcv 12 (kP_Mo_put base sa)) [.ref x, .int y0, .int y1, .int y2, .int y3] [.ref m, .int y0, .int y1, .int y2, .int y3] := by
  intro y0 y1 y2 y3
  refine p1_ob ?_
  intro M kc ks hb hF
  obtain ⟨q, F, qt, qta, qx, qxa, qp, qpa, ql, qr, qh, hq, hm, ⟨ob, ox, ot, ota, op⟩, ⟨bx, bt, bp, bh⟩, ⟨nx, nt, nta, np, xt, xta⟩, hx, ⟨h0, h1, h2, h3, h4, h5, h6, h7, h8, h9, h11, h13, h19⟩, hv, hMx, hMp, hMl, hMr, hMh, hkc, hks⟩ := hF
  refine pm_rcv_of (As' := [.int y0, .int y1, .int y2, .int y3]) hx (c_put0 base sa (t := 0) hx h7 h6 hMl rfl (Nat.zero_le _) (by decide) (outR_all _) h0 hv bt ?_)
  have hb1 := (pm_up_ne M (.inr (0, [.ref qta, .int 0])) nt).trans hb
  refine ⟨hb1, 0, rfl, ?_⟩
  have hm1 : mo_has (pm_up M qt (.inr (0, [.ref qta, .int 0]))) m q moS0 := hm.keep (fun a ha ho => pm_up_ne M (.inr (0, [.ref qta, .int 0])) (fun e => ho (e ▸ ot)))
  rw [hm1.eq hq]
  exact pm_rcv_of (As' := [.int y0, .int y1, .int y2, .int y3]) moM_m (m_put0 base sa hq (t := 0) rfl (outR_all _) ⟨rfl, p1_end ((moM_o ob.1 ob.2).trans hb1)⟩)

set_option maxRecDepth 100000 in
theorem p1_11 : ∀ y0 : Int32, lw2 (p1I base b L xs x m) b L xs (pm_rcv 11 (kP_Rf_oracle base sa)) (pm_rcv 12 (kP_Mo_oracle base sa)) [.ref x, .int y0] [.ref m, .int y0] := by
  intro y0
  refine p1_ob ?_
  intro M kc ks hb hF
  obtain ⟨q, F, qt, qta, qx, qxa, qp, qpa, ql, qr, qh, hq, hm, ⟨ob, ox, ot, ota, op⟩, ⟨bx, bt, bp, bh⟩, ⟨nx, nt, nta, np, xt, xta⟩, hx, ⟨h0, h1, h2, h3, h4, h5, h6, h7, h8, h9, h11, h13, h19⟩, hv, hMx, hMp, hMl, hMr, hMh, hkc, hks⟩ := hF
  refine pm_rcv_of (As' := [.int y0]) hx (c_oracle0 base sa (t := 0) hx h9 h8 hMr rfl (Nat.zero_le _) (by decide) (outR_all _) h0 hv bt h19 hMh bh ?_)
  have hb1 := (pm_up_ne M (.inr (0, [.ref qta, .int 0])) nt).trans hb
  refine ⟨hb1, (-1), rfl, ?_⟩
  have hm1 : mo_has (pm_up M qt (.inr (0, [.ref qta, .int 0]))) m q moS0 := hm.keep (fun a ha ho => pm_up_ne M (.inr (0, [.ref qta, .int 0])) (fun e => ho (e ▸ ot)))
  rw [hm1.eq hq]
  exact pm_rcv_of (As' := [.int y0]) moM_m (m_oracle0 base sa hq rfl ⟨rfl, p1_end ((moM_o ob.1 ob.2).trans hb1)⟩)

set_option maxRecDepth 100000 in
theorem p1_12 : ∀ y0 : Int32, lw2 (p1I base b L xs x m) b L xs (pm_rcv 11 (kP_Rf_way base sa)) (pm_rcv 12 (kP_Mo_way base sa)) [.ref x, .int y0] [.ref m, .int y0] := by
  intro y0
  refine p1_ob ?_
  intro M kc ks hb hF
  obtain ⟨q, F, qt, qta, qx, qxa, qp, qpa, ql, qr, qh, hq, hm, ⟨ob, ox, ot, ota, op⟩, ⟨bx, bt, bp, bh⟩, ⟨nx, nt, nta, np, xt, xta⟩, hx, ⟨h0, h1, h2, h3, h4, h5, h6, h7, h8, h9, h11, h13, h19⟩, hv, hMx, hMp, hMl, hMr, hMh, hkc, hks⟩ := hF
  refine pm_rcv_of (As' := [.int y0]) hx (c_way0 base sa (t := 0) hx h9 h8 hMr rfl (Nat.zero_le _) (by decide) (outR_all _) h0 hv bt h19 hMh bh ?_)
  have hb1 := (pm_up_ne M (.inr (0, [.ref qta, .int 0])) nt).trans hb
  refine ⟨hb1, (-1), rfl, ?_⟩
  have hm1 : mo_has (pm_up M qt (.inr (0, [.ref qta, .int 0]))) m q moS0 := hm.keep (fun a ha ho => pm_up_ne M (.inr (0, [.ref qta, .int 0])) (fun e => ho (e ▸ ot)))
  rw [hm1.eq hq]
  exact pm_rcv_of (As' := [.int y0]) moM_m (m_way0 base sa hq rfl ⟨rfl, p1_end ((moM_o ob.1 ob.2).trans hb1)⟩)

set_option maxRecDepth 100000 in
theorem p1_10 : lw2 (p1I base b L xs x m) b L xs (pm_rcv 11 (kP_Rf_config base sa)) (pm_rcv 12 (kP_Mo_config base sa)) [.ref x] [.ref m] := by
  refine p1_ob ?_
  intro M kc ks hb hF
  obtain ⟨q, F, qt, qta, qx, qxa, qp, qpa, ql, qr, qh, hq, hm, ⟨ob, ox, ot, ota, op⟩, ⟨bx, bt, bp, bh⟩, ⟨nx, nt, nta, np, xt, xta⟩, hx, ⟨h0, h1, h2, h3, h4, h5, h6, h7, h8, h9, h11, h13, h19⟩, hv, hMx, hMp, hMl, hMr, hMh, hkc, hks⟩ := hF
  refine pm_rcv_of (As' := []) hx (c_config0 base sa hx bx h1 h2 hMp bp h7 h9 h11 ?_)
  intro M1 _ _ hold
  have hb1 := (hold b nx np).trans hb
  refine ⟨hb1, 0, rfl, ?_⟩
  have hm1 : mo_has M1 m q moS0 := hm.keep (fun a ha ho => hold a (fun e => ho (e ▸ ox)) (fun e => ho (e ▸ op)))
  rw [hm1.eq hq]
  exact pm_rcv_of (As' := []) moM_m (m_config0 base sa hq rfl rfl rfl ⟨rfl, p1_end ((moM_o ob.1 (fun k hk => ob.2 _ (moW_mem hk))).trans hb1)⟩)

set_option maxRecDepth 100000 in
theorem p1_2 : lw2 (p1I base b L xs x m) b L xs (pm_rcv 11 (kP_Rf_read base sa)) (pm_rcv 12 (kP_Mo_read base sa)) [.ref x] [.ref m] := by
  refine p1_ob ?_
  intro M kc ks hb hF
  obtain ⟨q, F, qt, qta, qx, qxa, qp, qpa, ql, qr, qh, hq, hm, ⟨ob, ox, ot, ota, op⟩, ⟨bx, bt, bp, bh⟩, ⟨nx, nt, nta, np, xt, xta⟩, hx, ⟨h0, h1, h2, h3, h4, h5, h6, h7, h8, h9, h11, h13, h19⟩, hv, hMx, hMp, hMl, hMr, hMh, hkc, hks⟩ := hF
  refine pm_rcv_of (As' := []) hx (c_read0 base sa hx bx h0 h3 hv bt (by omega) (by omega) ?_)
  intro M1 hold
  have hb1 := (hold b (by rw [hb]; simp) nx nt).trans hb
  refine ⟨hb1, 0, rfl, ?_⟩
  have hm1 : mo_has M1 m q moS0 := hm.keep (fun a ha ho => hold a ha (fun e => ho (e ▸ ox)) (fun e => ho (e ▸ ot)))
  rw [hm1.eq hq]
  exact pm_rcv_of (As' := []) moM_m (m_read0 base sa hq rfl ⟨rfl, p1_end ((moM_o ob.1 ob.2).trans hb1)⟩)

set_option maxRecDepth 100000 in
theorem p1_4 : ∀ y0 : Int32, lw2 (p1I base b L xs x m) b L xs (pm_rcv 11 (kP_Rf_ticks base sa)) (pm_rcv 12 (kP_Mo_ticks base sa)) [.ref x, .int y0] [.ref m, .int y0] := by
  intro y0
  refine p1_ob ?_
  intro M kc ks hb hF
  obtain ⟨q, F, qt, qta, qx, qxa, qp, qpa, ql, qr, qh, hq, hm, ⟨ob, ox, ot, ota, op⟩, ⟨bx, bt, bp, bh⟩, ⟨nx, nt, nta, np, xt, xta⟩, hx, ⟨h0, h1, h2, h3, h4, h5, h6, h7, h8, h9, h11, h13, h19⟩, hv, hMx, hMp, hMl, hMr, hMh, hkc, hks⟩ := hF
  refine pm_rcv_of (As' := [.int y0]) hx (c_ticks0 base sa (τ := 0) hx bx h5 (by decide) h9 h13 (fun c => ⟨hb, -1, rfl, ?_⟩) (fun n e hn1 hn2 => ?_))
  · rw [hm.eq hq]
    exact pm_rcv_of (As' := [.int y0]) moM_m (m_ticks0 base sa (τ := 0) hq rfl (by decide) rfl rfl (fun _ => ⟨rfl, p1_end ((moM_o ob.1 ob.2).trans hb)⟩) (fun n e h1 h2 => (tk_no c e h1 h2).elim))
  · have hb1 := (pm_up_ne M (.inr (11, obL 20 (upF F 5 (.int (nI (0 + n)))))) nx).trans hb
    refine ⟨hb1, nI (0 + n), rfl, ?_⟩
    have hm1 : mo_has (pm_up M x (.inr (11, obL 20 (upF F 5 (.int (nI (0 + n))))))) m q moS0 := hm.keep (fun a ha ho => pm_up_ne M (.inr (11, obL 20 (upF F 5 (.int (nI (0 + n)))))) (fun e => ho (e ▸ ox)))
    rw [hm1.eq hq]
    refine pm_rcv_of (As' := [.int y0]) moM_m (m_ticks0 base sa (τ := 0) hq rfl (by decide) rfl rfl (fun c => (tk_no c e hn1 hn2).elim) (fun n' e' g1 g2 => ⟨?_, p1_end ((moM_o ob.1 ob.2).trans hb1)⟩))
    rw [nI_inj (e.symm.trans e') (by omega) (by omega)]

set_option maxRecDepth 100000 in
theorem p1_1 : ∀ y0 : Int32, lw2 (p1I base b L xs x m) b L xs (pm_rcv 11 (kP_Rf_end base sa)) (pm_rcv 12 (kP_Mo_end base sa)) [.ref x, .int y0] [.ref m, .int y0] := by
  intro y0
  refine p1_ob ?_
  intro M kc ks hb hF
  obtain ⟨q, F, qt, qta, qx, qxa, qp, qpa, ql, qr, qh, hq, hm, ⟨ob, ox, ot, ota, op⟩, ⟨bx, bt, bp, bh⟩, ⟨nx, nt, nta, np, xt, xta⟩, hx, ⟨h0, h1, h2, h3, h4, h5, h6, h7, h8, h9, h11, h13, h19⟩, hv, hMx, hMp, hMl, hMr, hMh, hkc, hks⟩ := hF
  refine pm_rcv_of (As' := [.int y0]) hx (v_Rf_end base sa hx h0 hv (fun c => ⟨hb, 0, rfl, ?_⟩) (fun j e hj M1 _ hold => ?_))
  · refine pm_rcv_of (As' := [.int y0]) hm.1 (s_Mo_end base sa hm.1 hq.1 (show moV q moS0 3 = .int 0 from rfl) (fun _ => ⟨rfl, p1_end ((pm_up_ne _ _ ob.1).trans hb)⟩) (fun c1 c2 => ?_))
    rcases c with c | c
    · exact absurd c c1
    · exact absurd c (Int32.not_lt.mpr c2)
  · have hb1 := (hold b nt).trans hb
    refine ⟨hb1, 1, rfl, ?_⟩
    have hm1 : mo_has M1 m q moS0 := hm.keep (fun a ha ho => hold a (fun e => ho (e ▸ ot)))
    have hj0 : j = 0 := Nat.le_zero.mp hj
    subst hj0
    subst e
    refine pm_rcv_of (As' := [.int (nI 0)]) hm1.1 (s_Mo_end base sa hm1.1 hq.1 (show moV q moS0 3 = .int 0 from rfl) (fun c => absurd c (by decide)) (fun c1 c2 => ⟨rfl, p1_end ?_⟩))
    exact (pm_up_ne _ _ ob.1).trans ((pm_up_ne _ _ ob.1).trans hb1)

set_option maxRecDepth 100000 in
theorem p1_0 : ∀ y0 y1 y2 y3 y4 : Int32, lw2 (p1I base b L xs x m) b L xs (pm_rcv 11 (kP_Rf_feed base sa)) (pm_rcv 12 (kP_Mo_feed base sa)) [.ref x, .int y0, .int y1, .int y2, .int y3, .int y4] [.ref m, .int y0, .int y1, .int y2, .int y3, .int y4] := by
  intro y0 y1 y2 y3 y4
  refine p1_ob ?_
  intro M kc ks hb hF
  obtain ⟨q, F, qt, qta, qx, qxa, qp, qpa, ql, qr, qh, hq, hm, ⟨ob, ox, ot, ota, op⟩, ⟨bx, bt, bp, bh⟩, ⟨nx, nt, nta, np, xt, xta⟩, hx, ⟨h0, h1, h2, h3, h4, h5, h6, h7, h8, h9, h11, h13, h19⟩, hv, hMx, hMp, hMl, hMr, hMh, hkc, hks⟩ := hF
  refine pm_rcv_of (As' := [.int y0, .int y1, .int y2, .int y3, .int y4]) hx (v_Rf_feed base sa hx h0 hv xt xta (⟨by omega, by omega, by decide⟩) (fun c => absurd c (by decide)) (fun _ M1 d' cap' kc' ks' _ hg => ?_))
  have hb1 := (hg.1 b nt nta (by rw [hb]; simp)).trans hb
  refine ⟨hb1, 1, rfl, ?_⟩
  have hm1 : mo_has M1 m q moS0 := hm.keep (fun a ha ho => hg.1 a (fun e => ho (e ▸ ot)) (fun e => ho (e ▸ ota)) ha)
  have h2m := mo_mem (k := 2) rfl rfl
  have hT : vTp base M1 m (q 2) (moV q moS0) [] := ⟨hm1.1, rfl, rfl, by decide, hq.1, (hq.2 2 h2m).1, (hq.2 2 h2m).2.1.symm, moS0.I 2, (hm1.2 2 h2m).trans (congrArg some (moA_i rfl)), fun i hi => absurd hi (Nat.not_lt_zero _)⟩
  refine pm_rcv_of (As' := [.int y0, .int y1, .int y2, .int y3, .int y4]) hm1.1 (v_Mo_feed base sa hT (fun c => absurd c (by decide)) (fun _ M2 _ hold => ⟨rfl, p1_end ?_⟩))
  exact (hold b ob.1 (fun e => ob.2 2 h2m e.symm)).trans hb1

set_option maxRecDepth 100000 in
theorem p1_14 : ∀ (o : Nat) (i : Int32), lwT base sa (p1I base b L xs x m) b L xs x m o i := by
  intro o i n M kc ks hI
  obtain ⟨hb, hn, hf⟩ := hI
  have e : n = 0 := by omega
  subst e
  have hF := hf rfl
  clear hf hn
  obtain ⟨q, F, qt, qta, qx, qxa, qp, qpa, ql, qr, qh, hq, hm, ⟨ob, ox, ot, ota, op⟩, ⟨bx, bt, bp, bh⟩, ⟨nx, nt, nta, np, xt, xta⟩, hx, ⟨h0, h1, h2, h3, h4, h5, h6, h7, h8, h9, h11, h13, h19⟩, hv, hMx, hMp, hMl, hMr, hMh, hkc, hks⟩ := hF
  have hi : i < 0 ∨ 0 ≤ i := by
    by_cases h : i < 0
    · exact Or.inl h
    · exact Or.inr (Int32.not_lt.mp h)
  refine Or.inr ⟨x, o, qx, i, 0, obL 20 F, [.ref qxa, .int 0], rfl, hx, (obL_get F (by decide)).trans (by rw [h1]), hMx, rfl, hi, by omega, by omega, hb, 1, rfl, ?_⟩
  rw [hm.eq hq]
  refine pm_rcv_of (As' := [.int i]) moM_m (m_textAt0 base sa hq (t := 0) rfl (outR_all _) ⟨0, rfl, ?_⟩)
  exact pm_rcv_of (As' := []) moM_m (m_thrown base sa ⟨rfl, p1_end ((moM_o ob.1 ob.2).trans hb), fun e => absurd e (by decide)⟩)

end First
theorem moQs_none {base m : Nat} {M : pmM} {ws : List Nat} (hl : ws.length = 138) (hf : moFresh base M m [] ws) {k : Nat} (hk : k ∈ moAr) : M (moQs ws k) = none := by
  have har : moAr.length = 138 := by rw [← moTab_ar, List.length_map]; rfl
  have hi : moAr.idxOf k < ws.length := by rw [hl, ← har]; exact List.idxOf_lt_length_of_mem hk
  have hmem : moQs ws k ∈ ws := by
    unfold moQs
    rw [List.getD_eq_getElem?_getD, List.getElem?_eq_getElem hi]
    exact List.getElem_mem _
  exact (hf.1 _ hmem).2.1

def rfL (x qt qta qx qxa qp qpa ql qr qi qf qs qd qd1 qd2 qd3 qd4 qo qoa qe qh : Nat) : List (Nat × pmE) := [(qta, .inl (.byte, 64, .inl fun _ => 0)), (qt, .inr (0, [.ref qta, .int 0])), (qxa, .inl (.byte, 64, .inl fun _ => 0)), (qx, .inr (0, [.ref qxa, .int 0])), (qpa, .inl (.byte, 64, .inl fun _ => 0)), (qp, .inr (0, [.ref qpa, .int 0])), (ql, .inl (.object "RoutingField$Link", 10, .inr (.inr (.inr (.inr fun _ => none))))), (qr, .inl (.object "RoutingField$Router", 6, .inr (.inr (.inr (.inr fun _ => none))))), (qi, .inl (.object "RoutingField$PrefixList", 8, .inr (.inr (.inr (.inr fun _ => none))))), (qf, .inl (.object "RoutingField$Datagram", 256, .inr (.inr (.inr (.inr fun _ => none))))), (qs, .inl (.object "RoutingField$Datagram", 258, .inr (.inr (.inr (.inr fun _ => none))))), (qd2, .inl (.byte, 600, .inl fun _ => 0)), (qd1, .inr (0, [.ref qd2, .int 0])), (qd3, .inr (5, [.int 4, .long 0, .long 0, .int 0])), (qd4, .inr (5, [.int 4, .long 0, .long 0, .int 0])), (qd, .inr (2, daF qd1 qd3 qd4)), (qoa, .inl (.object "RoutingField$Route", 16, .inr (.inr (.inr (.inr fun _ => none))))), (qo, .inr (10, [.ref qoa, .int 0])), (qe, .inr (5, [.int 4, .long 0, .long 0, .int 0])), (qh, .inr (5, [.int 4, .long 0, .long 0, .int 0])), (x, .inr (11, rfF qt qta qx qxa qp qpa ql qr qi qf qs qd qd1 qd2 qd3 qd4 qo qoa qe qh))]
theorem rfM_l (M : pmM) (x qt qta qx qxa qp qpa ql qr qi qf qs qd qd1 qd2 qd3 qd4 qo qoa qe qh : Nat) : rfM M x qt qta qx qxa qp qpa ql qr qi qf qs qd qd1 qd2 qd3 qd4 qo qoa qe qh = pm_ups M (rfL x qt qta qx qxa qp qpa ql qr qi qf qs qd qd1 qd2 qd3 qd4 qo qoa qe qh) := rfl

theorem nd_ne {l : List Nat} (h : l.Nodup) {i j : Nat} (hi : i < l.length) (hj : j < l.length) (hij : i ≠ j) : l.getD i 0 ≠ l.getD j 0 := by
  rw [List.getD_eq_getElem?_getD, List.getD_eq_getElem?_getD, List.getElem?_eq_getElem hi, List.getElem?_eq_getElem hj]
  show l[i] ≠ l[j]
  rcases Nat.lt_or_gt_of_ne hij with g | g
  · exact List.pairwise_iff_getElem.mp h i j hi hj g
  · exact (List.pairwise_iff_getElem.mp h j i hj hi g).symm
set_option maxRecDepth 100000 in
theorem rfL_nd {x qt qta qx qxa qp qpa ql qr qi qf qs qd qd1 qd2 qd3 qd4 qo qoa qe qh : Nat} (h : [x, qt, qta, qx, qxa, qp, qpa, ql, qr, qi, qf, qs, qd, qd1, qd2, qd3, qd4, qo, qoa, qe, qh].Nodup) : ((rfL x qt qta qx qxa qp qpa ql qr qi qf qs qd qd1 qd2 qd3 qd4 qo qoa qe qh).map fun p => p.1).Nodup := by
  have key : ∀ is : List Nat, is.Pairwise (fun a b => a ≠ b ∧ a < 21 ∧ b < 21) → (is.map fun i => ([x, qt, qta, qx, qxa, qp, qpa, ql, qr, qi, qf, qs, qd, qd1, qd2, qd3, qd4, qo, qoa, qe, qh] : List Nat).getD i 0).Nodup := by
    intro is hp
    unfold List.Nodup
    rw [List.pairwise_map]
    exact hp.imp (fun g => nd_ne h g.2.1 g.2.2 g.1)
  exact key [2, 1, 4, 3, 6, 5, 7, 8, 9, 10, 11, 14, 13, 15, 16, 12, 18, 17, 19, 20, 0] (by decide)

set_option maxRecDepth 100000 in
set_option maxHeartbeats 4000000 in
/-- the law, on a script of one call -/
theorem law_true (base : Nat) (sa : Nat → Nat) {b L : Nat} {xs : Nat → Int32} {M0 : pmM} (hL : L ≤ 6) (hb : M0 b = some (.inl (.int, L, .inl xs))) : kP_La_law base sa [.ref b] M0 600002 7302232 (fun v _ _ _ => v = some (.int 1)) := by
  refine law_ok base sa (N := 1) (Inv := fun x m _ => p1I base b L xs x m) (by omega) (by omega) (by decide) (by decide) (fun x m o n M kc ks h => h.1) (fun x m o n M kc ks h => ⟨h.1, Nat.le_of_succ_le h.2.1, fun e => absurd h.2.1 (by omega)⟩) (fun _ _ _ => p1_0 base sa) (fun _ _ _ => p1_1 base sa) (fun _ _ _ => p1_2 base sa) (fun _ _ _ => p1_3 base sa) (fun _ _ _ => p1_4 base sa) (fun _ _ _ y0 y1 _ => p1_5 base sa y0 y1) (fun _ _ _ => p1_6 base sa) (fun _ _ _ y0 y1 _ => p1_7 base sa y0 y1) (fun _ _ _ => p1_8 base sa) (fun _ _ _ => p1_9 base sa) (fun _ _ _ => p1_10 base sa) (fun _ _ _ => p1_11 base sa) (fun _ _ _ => p1_12 base sa) (fun _ _ _ => p1_13 base sa) (fun _ _ o => p1_14 base sa o) (fun _ _ _ => p1_15 base sa) (fun _ _ _ => p1_16 base sa) (fun _ _ _ => p1_17 base sa) (fun _ _ _ => p1_18 base sa) ?_
  intro x qt qta qx qxa qp qpa ql qr qi qf qs qd qd1 qd2 qd3 qd4 qo qoa qe qh m ws o hbx hx0 hqs hnd hbm hm0 hwl hwf hbo ho
  obtain ⟨hQ, hM⟩ := moM_init hbm hwl hwf
  rw [hM] at ho ⊢
  have e0 : rfM M0 x qt qta qx qxa qp qpa ql qr qi qf qs qd qd1 qd2 qd3 qd4 qo qoa qe qh = pm_ups M0 (rfL x qt qta qx qxa qp qpa ql qr qi qf qs qd qd1 qd2 qd3 qd4 qo qoa qe qh) := rfl
  generalize hMr : rfM M0 x qt qta qx qxa qp qpa ql qr qi qf qs qd qd1 qd2 qd3 qd4 qo qoa qe qh = Mr at *
  have hndl := rfL_nd hnd
  have hat : ∀ p ∈ rfL x qt qta qx qxa qp qpa ql qr qi qf qs qd qd1 qd2 qd3 qd4 qo qoa qe qh, Mr p.1 = some p.2 := fun p hp => by
    rw [e0]
    exact pm_ups_at _ _ p hp hndl
  have hnb : ∀ z, base ≤ z ∧ M0 z = none → b ≠ z := fun z hz e => by
    rw [← e, hb] at hz
    cases hz.2
  have bb : ∀ z ∈ [qt, qta, qx, qxa, qp, qpa, ql, qr, qi, qf, qs, qd, qd1, qd2, qd3, qd4, qo, qoa, qe, qh], b ≠ z := fun z hz => hnb z (hqs z hz)
  have bx : b ≠ x := hnb x ⟨hbx, hx0⟩
  have hbr : Mr b = some (.inl (.int, L, .inl xs)) := by
    rw [e0, pm_ups_not]
    · exact hb
    · intro p hp e
      simp only [rfL, List.mem_cons, List.not_mem_nil, or_false] at hp
      rcases hp with rfl | rfl | rfl | rfl | rfl | rfl | rfl | rfl | rfl | rfl | rfl | rfl | rfl | rfl | rfl | rfl | rfl | rfl | rfl | rfl | rfl <;> first | exact bx e.symm | exact bb _ (by simp) e.symm
  obtain ⟨om, oq, oR⟩ := moM_fr hQ ho
  rw [moM_R om oq]
  have hdis : ∀ a, Mr a ≠ none → mo_off m (moQs ws) a := fun a ha => ⟨fun e => ha (e ▸ hm0), fun k hk e => ha (e ▸ moQs_none hwl hwf hk)⟩
  have hone : ∀ a, Mr a ≠ none → a ≠ o := fun a ha e => ha (e ▸ oR)
  have hup : ∀ (a : Nat) (e : pmE), Mr a = some e → moM (pm_up Mr o (.inl (.long, 1, .inr (.inl fun _ => 0)))) m (moQs ws) moS0 a = some e := fun a e he => by
    have hne : Mr a ≠ none := by rw [he]; simp
    rw [moM_o (hdis a hne).1 (hdis a hne).2, pm_up_ne _ _ (hone a hne)]
    exact he
  have v_x : Mr x = some (.inr (11, rfF qt qta qx qxa qp qpa ql qr qi qf qs qd qd1 qd2 qd3 qd4 qo qoa qe qh)) := hat (x, .inr (11, rfF qt qta qx qxa qp qpa ql qr qi qf qs qd qd1 qd2 qd3 qd4 qo qoa qe qh)) (by simp [rfL])
  have v_qt : Mr qt = some (.inr (0, [.ref qta, .int 0])) := hat (qt, .inr (0, [.ref qta, .int 0])) (by simp [rfL])
  have v_qta : Mr qta = some (.inl (.byte, 64, .inl fun _ => 0)) := hat (qta, .inl (.byte, 64, .inl fun _ => 0)) (by simp [rfL])
  have v_qx : Mr qx = some (.inr (0, [.ref qxa, .int 0])) := hat (qx, .inr (0, [.ref qxa, .int 0])) (by simp [rfL])
  have v_qp : Mr qp = some (.inr (0, [.ref qpa, .int 0])) := hat (qp, .inr (0, [.ref qpa, .int 0])) (by simp [rfL])
  have v_ql : Mr ql = some (.inl (.object "RoutingField$Link", 10, .inr (.inr (.inr (.inr fun _ => none))))) := hat (ql, .inl (.object "RoutingField$Link", 10, .inr (.inr (.inr (.inr fun _ => none))))) (by simp [rfL])
  have v_qr : Mr qr = some (.inl (.object "RoutingField$Router", 6, .inr (.inr (.inr (.inr fun _ => none))))) := hat (qr, .inl (.object "RoutingField$Router", 6, .inr (.inr (.inr (.inr fun _ => none))))) (by simp [rfL])
  have v_qh : Mr qh = some (.inr (5, [.int 4, .long 0, .long 0, .int 0])) := hat (qh, .inr (5, [.int 4, .long 0, .long 0, .int 0])) (by simp [rfL])
  have nn : ∀ (a : Nat) (e : pmE), Mr a = some e → Mr a ≠ none := fun a e h => by rw [h]; simp
  have bq : ∀ z ∈ [qt, qta, qx, qxa, qp, qpa, ql, qr, qi, qf, qs, qd, qd1, qd2, qd3, qd4, qo, qoa, qe, qh], base ≤ z := fun z hz => (hqs z hz).1
  refine ⟨hup _ _ hbr, Nat.le_refl _, fun _ => ⟨moQs ws, fun k => (rfF qt qta qx qxa qp qpa ql qr qi qf qs qd qd1 qd2 qd3 qd4 qo qoa qe qh).getD k .null, qt, qta, qx, qxa, qp, qpa, ql, qr, qh, hQ, mo_has_of hQ, ⟨hdis _ (nn _ _ hbr), hdis _ (nn _ _ v_x), hdis _ (nn _ _ v_qt), hdis _ (nn _ _ v_qta), hdis _ (nn _ _ v_qp)⟩, ⟨hbx, bq qt (by simp), bq qp (by simp), bq qh (by simp)⟩, ⟨bx, bb qt (by simp), bb qta (by simp), bb qp (by simp), (nd_ne hnd (i := 0) (j := 1) (Nat.le_of_ble_eq_true rfl) (Nat.le_of_ble_eq_true rfl) (by decide) : _), (nd_ne hnd (i := 0) (j := 2) (Nat.le_of_ble_eq_true rfl) (Nat.le_of_ble_eq_true rfl) (by decide) : _)⟩, hup _ _ v_x, ⟨rfl, rfl, rfl, rfl, rfl, rfl, rfl, rfl, rfl, rfl, rfl, rfl, rfl⟩, ⟨fun _ => 0, ⟨hup _ _ v_qt, hup _ _ v_qta, by decide, by decide, by decide⟩, fun i hi => absurd hi (Nat.not_lt_zero _), fun z hz => absurd hz List.not_mem_nil, bq qt (by simp), bq qta (by simp), (nd_ne hnd (i := 1) (j := 2) (Nat.le_of_ble_eq_true rfl) (Nat.le_of_ble_eq_true rfl) (by decide) : _)⟩, hup _ _ v_qx, hup _ _ v_qp, hup _ _ v_ql, hup _ _ v_qr, hup _ _ v_qh, by decide, by decide⟩⟩
