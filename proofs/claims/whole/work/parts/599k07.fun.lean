/-! The model as functions, by program: settle .. turned -/
noncomputable def M_settle_b89 (t : moS) (p1 : Int32) (a2 : Int32) : Option ((Int32 × moS) ⊕ moS) := (some (.inl ((a2 + (1 : Int32)), t)))
noncomputable def M_settle_b172 (t : moS) (p1 : Int32) (a2 : Int32) : Option ((Int32 × moS) ⊕ moS) := (some (.inl ((a2 + (1 : Int32)), t)))
noncomputable def M_settle_s183 (t : moS) (p1 : Int32) (a2 : Int32) : Option ((Int32 × moS) ⊕ moS) := Option.bind (rdI t 46 p1) (fun x1 => (if a2 < (((32 : Int32) * p1) + x1) then (Option.bind (rdI t 47 a2) (fun x2 => (Option.bind (rdJ t 48 a2) (fun x3 => (Option.bind (rdJ t 49 a2) (fun x4 => (Option.bind (rdI t 50 a2) (fun x5 => (Option.bind (M_come t p1 x2 x3 x4 x5) (fun s6 => ((some (.inl ((a2 + (1 : Int32)), s6)))))))))))))) else ((xo ((some t))))))
noncomputable def M_settle_b183 (t : moS) (p1 : Int32) (a2 : Int32) : Option moS := lp (fun x => M_settle_s183 x.2 p1 x.1) (a2, t)
noncomputable def M_settle_s100 (t : moS) (p1 : Int32) (a2 : Int32) : Option ((Int32 × moS) ⊕ moS) := Option.bind (rdI t 70 p1) (fun x1 => (if a2 < (((8 : Int32) * p1) + ((2 : Int32) * x1)) then (Option.bind (rdI t 75 a2) (fun x2 => (if x2 = 0 then ((M_settle_b172 t p1 a2)) else (Option.bind (rdJ t 76 a2) (fun x3 => (Option.bind (rdI t 78 a2) (fun x4 => (Option.bind (rdJ t 77 a2) (fun x5 => (Option.bind (rdI t 78 a2) (fun x6 => (Option.bind (rdI t 78 a2) (fun x7 => (Option.bind (M_come t p1 (rem_I a2 (2 : Int32)) (x3 &&& (M_maskHigh x4)) (x5 &&& (M_maskLow x6)) x7) (fun s8 => ((M_settle_b172 s8 p1 a2))))))))))))))))) else ((xo ((M_settle_b183 t p1 ((32 : Int32) * p1)))))))
noncomputable def M_settle_b100 (t : moS) (p1 : Int32) (a2 : Int32) : Option moS := lp (fun x => M_settle_s100 x.2 p1 x.1) (a2, t)
noncomputable def M_settle_s16 (t : moS) (p1 : Int32) (a2 : Int32) : Option ((Int32 × moS) ⊕ moS) := Option.bind (rdI t 105 p1) (fun x1 => (if a2 < (((2700 : Int32) * p1) + x1) then (Option.bind (rdI t 106 a2) (fun x2 => (Option.bind (rdJ t 107 a2) (fun x3 => (Option.bind (rdJ t 108 a2) (fun x4 => (Option.bind (rdI t 109 a2) (fun x5 => (bn2 (M_isDue t p1 x2 x3 x4 x5) (fun x7 s6 => (if x7 = 0 then (Option.bind (rdI s6 110 a2) (fun x8 => (if x8 = (2 : Int32) then ((M_settle_b89 s6 p1 a2)) else (Option.bind (M_forsake s6 p1 a2) (fun s9 => ((M_settle_b89 s9 p1 a2))))))) else (Option.bind (M_become s6 p1 a2) (fun s10 => ((M_settle_b89 s10 p1 a2))))))))))))))) else ((xo ((M_settle_b100 t p1 ((8 : Int32) * p1)))))))
noncomputable def M_settle_b16 (t : moS) (p1 : Int32) (a2 : Int32) : Option moS := lp (fun x => M_settle_s16 x.2 p1 x.1) (a2, t)
noncomputable def M_settle (t : moS) (p1 : Int32) : Option moS := Option.bind (rdI t 39 p1) (fun x1 => (if x1 = 0 then ((some t)) else ((M_settle_b16 t p1 ((2700 : Int32) * p1)))))
set_option maxRecDepth 100000 in
set_option maxHeartbeats 4000000 in
theorem k_settle (base : Nat) (sa : Nat → Nat) {C : Nat × Nat} {R : pmM} {m : Nat} {q : Nat → Nat} {t tz : moS} {kc ks : Nat} {Rt : pmR} {p1 : Int32} (hw : mW C R base m q t kc ks) (h : M_settle t p1 = (some tz)) (k : mW C R base m q tz kc ks → Rt none (moM R m q tz) kc ks) : kP_Mo_settle base sa [.ref m, .int p1] (moM R m q t) kc ks Rt := by
  refine ⟨Nat.le_of_ble_eq_true rfl, fun G hG => ?_⟩
  have b183 : ∀ (n : Nat) (a2 : Int32) (t : moS), JJ C R base m G 183 [(0, .ref m), (1, .int p1), (2, .int a2)] [] q t kc ks (lpN (fun x => M_settle_s183 x.2 p1 x.1) n (a2, t)) (some tz) := by
    intro n
    induction n with
    | zero => intro a2 t; exact jj_lp0
    | succ n ih183 =>
      intro a2 t
      refine jj_lpS (fun y183 c183 => ?_)
      refine (show JJ C R base m G 183 [(0, .ref m), (1, .int p1), (2, .int a2)] [] q t kc ks (M_settle_s183 t p1 a2) (some y183) from ?_)
      refine jjs hG rfl rfl ?_
      refine jj_bi hG rfl cc_b32 ?_
      refine jjs hG rfl rfl ?_
      refine jjs hG rfl rfl ?_
      refine jjs hG rfl rfl ?_
      refine jj_gr hG (k := 46) rfl rfl rfl rfl ?_
      refine jjs hG rfl rfl ?_
      refine jj_ia hG (k := 46) rfl rfl rfl (fun x1 => ?_)
      refine jjs hG rfl rfl ?_
      refine jj_ige hG (t := 233) rfl rfl ?_ ?_
      · refine jj_exit c183 ?_
        exact jj_rvS hG rfl rfl (k)
      refine jjs hG rfl rfl ?_
      refine jjs hG rfl rfl ?_
      refine jjs hG rfl rfl ?_
      refine jj_gr hG (k := 47) rfl rfl rfl rfl ?_
      refine jjs hG rfl rfl ?_
      refine jj_ia hG (k := 47) rfl rfl rfl (fun x2 => ?_)
      refine jjs hG rfl rfl ?_
      refine jj_gr hG (k := 48) rfl rfl rfl rfl ?_
      refine jjs hG rfl rfl ?_
      refine jj_la hG (k := 48) rfl rfl rfl (fun x3 => ?_)
      refine jjs hG rfl rfl ?_
      refine jj_gr hG (k := 49) rfl rfl rfl rfl ?_
      refine jjs hG rfl rfl ?_
      refine jj_la hG (k := 49) rfl rfl rfl (fun x4 => ?_)
      refine jjs hG rfl rfl ?_
      refine jj_gr hG (k := 50) rfl rfl rfl rfl ?_
      refine jjs hG rfl rfl ?_
      refine jj_ia hG (k := 50) rfl rfl rfl (fun x5 => ?_)
      refine jj_cv hG 0 rfl rfl (Nat.le_of_ble_eq_true rfl) (by decide) (Nat.le_of_ble_eq_true rfl) rfl (st' := []) rfl (fun _ _ hw h k => pm_rcv_of moM_m (k_come base sa hw h k)) (fun s6 => ?_)
      refine jj_inc hG rfl (Nat.le_of_ble_eq_true rfl) rfl cc_i1 ?_
      refine jj_go hG (t := 183) rfl rfl ?_
      exact jj_back c183 (jj_wl hG [1, 2, 0] rfl (ih183 _ _))
  have b100 : ∀ (n : Nat) (a2 : Int32) (t : moS), JJ C R base m G 100 [(0, .ref m), (1, .int p1), (2, .int a2)] [] q t kc ks (lpN (fun x => M_settle_s100 x.2 p1 x.1) n (a2, t)) (some tz) := by
    intro n
    induction n with
    | zero => intro a2 t; exact jj_lp0
    | succ n ih100 =>
      intro a2 t
      refine jj_lpS (fun y100 c100 => ?_)
      have b172 : ∀ (a2 : Int32) (t : moS), JJ C R base m G 172 [(0, .ref m), (1, .int p1), (2, .int a2)] [] q t kc ks (M_settle_b172 t p1 a2) (some y100) := by
        intro a2 t
        refine jj_inc hG rfl (Nat.le_of_ble_eq_true rfl) rfl cc_i1 ?_
        refine jj_go hG (t := 100) rfl rfl ?_
        exact jj_back c100 (jj_wl hG [1, 2, 0] rfl (ih100 _ _))
      refine (show JJ C R base m G 100 [(0, .ref m), (1, .int p1), (2, .int a2)] [] q t kc ks (M_settle_s100 t p1 a2) (some y100) from ?_)
      refine jjs hG rfl rfl ?_
      refine jj_bi hG rfl cc_b8 ?_
      refine jjs hG rfl rfl ?_
      refine jjs hG rfl rfl ?_
      refine jj_ic hG rfl cc_i2 ?_
      refine jjs hG rfl rfl ?_
      refine jj_gr hG (k := 70) rfl rfl rfl rfl ?_
      refine jjs hG rfl rfl ?_
      refine jj_ia hG (k := 70) rfl rfl rfl (fun x1 => ?_)
      refine jjs hG rfl rfl ?_
      refine jjs hG rfl rfl ?_
      refine jj_ige hG (t := 178) rfl rfl ?_ ?_
      · refine jj_exit c100 ?_
        refine jj_bi hG rfl cc_b32 ?_
        refine jjs hG rfl rfl ?_
        refine jjs hG rfl rfl ?_
        refine jjc hG rfl rfl (Nat.le_of_ble_eq_true rfl) ?_
        refine jj_lp (fun n => ?_)
        exact jj_wl hG [1, 2, 0] rfl (b183 n _ _)
      refine jjs hG rfl rfl ?_
      refine jj_gr hG (k := 75) rfl rfl rfl rfl ?_
      refine jjs hG rfl rfl ?_
      refine jj_ba hG (k := 75) rfl rfl rfl (fun x2 => ?_)
      refine jj_zeq hG (t := 172) rfl rfl ?_ ?_
      · exact jj_wl hG [0, 1, 2] rfl (b172 _ _)
      refine jjs hG rfl rfl ?_
      refine jjs hG rfl rfl ?_
      refine jjs hG rfl rfl ?_
      refine jj_ic hG rfl cc_i2 ?_
      refine jjc hG rfl rfl (by decide) ?_
      refine jjs hG rfl rfl ?_
      refine jj_gr hG (k := 76) rfl rfl rfl rfl ?_
      refine jjs hG rfl rfl ?_
      refine jj_la hG (k := 76) rfl rfl rfl (fun x3 => ?_)
      refine jjs hG rfl rfl ?_
      refine jj_gr hG (k := 78) rfl rfl rfl rfl ?_
      refine jjs hG rfl rfl ?_
      refine jj_ia hG (k := 78) rfl rfl rfl (fun x4 => ?_)
      refine jj_ct hG 2 rfl rfl (Nat.le_of_ble_eq_true rfl) (by decide) (Nat.le_of_ble_eq_true rfl) rfl (st' := [.long x3, .int (rem_I a2 (2 : Int32)), .int p1, .ref m]) rfl (v := .long (M_maskHigh x4)) (fun _ hw k => k_maskHigh base sa hw rfl k) ?_
      refine jjs hG rfl rfl ?_
      refine jjs hG rfl rfl ?_
      refine jj_gr hG (k := 77) rfl rfl rfl rfl ?_
      refine jjs hG rfl rfl ?_
      refine jj_la hG (k := 77) rfl rfl rfl (fun x5 => ?_)
      refine jjs hG rfl rfl ?_
      refine jj_gr hG (k := 78) rfl rfl rfl rfl ?_
      refine jjs hG rfl rfl ?_
      refine jj_ia hG (k := 78) rfl rfl rfl (fun x6 => ?_)
      refine jj_ct hG 2 rfl rfl (Nat.le_of_ble_eq_true rfl) (by decide) (Nat.le_of_ble_eq_true rfl) rfl (st' := [.long x5, .long (x3 &&& (M_maskHigh x4)), .int (rem_I a2 (2 : Int32)), .int p1, .ref m]) rfl (v := .long (M_maskLow x6)) (fun _ hw k => k_maskLow base sa hw rfl k) ?_
      refine jjs hG rfl rfl ?_
      refine jjs hG rfl rfl ?_
      refine jj_gr hG (k := 78) rfl rfl rfl rfl ?_
      refine jjs hG rfl rfl ?_
      refine jj_ia hG (k := 78) rfl rfl rfl (fun x7 => ?_)
      refine jj_cv hG 0 rfl rfl (Nat.le_of_ble_eq_true rfl) (by decide) (Nat.le_of_ble_eq_true rfl) rfl (st' := []) rfl (fun _ _ hw h k => pm_rcv_of moM_m (k_come base sa hw h k)) (fun s8 => ?_)
      exact jj_wl hG [0, 1, 2] rfl (b172 _ _)
  have b16 : ∀ (n : Nat) (a2 : Int32) (t : moS), JJ C R base m G 16 [(0, .ref m), (1, .int p1), (2, .int a2)] [] q t kc ks (lpN (fun x => M_settle_s16 x.2 p1 x.1) n (a2, t)) (some tz) := by
    intro n
    induction n with
    | zero => intro a2 t; exact jj_lp0
    | succ n ih16 =>
      intro a2 t
      refine jj_lpS (fun y16 c16 => ?_)
      have b89 : ∀ (a2 : Int32) (t : moS), JJ C R base m G 89 [(0, .ref m), (1, .int p1), (2, .int a2)] [] q t kc ks (M_settle_b89 t p1 a2) (some y16) := by
        intro a2 t
        refine jj_inc hG rfl (Nat.le_of_ble_eq_true rfl) rfl cc_i1 ?_
        refine jj_go hG (t := 16) rfl rfl ?_
        exact jj_back c16 (jj_wl hG [1, 2, 0] rfl (ih16 _ _))
      refine (show JJ C R base m G 16 [(0, .ref m), (1, .int p1), (2, .int a2)] [] q t kc ks (M_settle_s16 t p1 a2) (some y16) from ?_)
      refine jjs hG rfl rfl ?_
      refine jj_si hG rfl cc_s2700 ?_
      refine jjs hG rfl rfl ?_
      refine jjs hG rfl rfl ?_
      refine jjs hG rfl rfl ?_
      refine jj_gr hG (k := 105) rfl rfl rfl rfl ?_
      refine jjs hG rfl rfl ?_
      refine jj_ia hG (k := 105) rfl rfl rfl (fun x1 => ?_)
      refine jjs hG rfl rfl ?_
      refine jj_ige hG (t := 95) rfl rfl ?_ ?_
      · refine jj_exit c16 ?_
        refine jj_bi hG rfl cc_b8 ?_
        refine jjs hG rfl rfl ?_
        refine jjs hG rfl rfl ?_
        refine jjc hG rfl rfl (Nat.le_of_ble_eq_true rfl) ?_
        refine jj_lp (fun n => ?_)
        exact jj_wl hG [1, 2, 0] rfl (b100 n _ _)
      refine jjs hG rfl rfl ?_
      refine jjs hG rfl rfl ?_
      refine jjs hG rfl rfl ?_
      refine jj_gr hG (k := 106) rfl rfl rfl rfl ?_
      refine jjs hG rfl rfl ?_
      refine jj_ia hG (k := 106) rfl rfl rfl (fun x2 => ?_)
      refine jjs hG rfl rfl ?_
      refine jj_gr hG (k := 107) rfl rfl rfl rfl ?_
      refine jjs hG rfl rfl ?_
      refine jj_la hG (k := 107) rfl rfl rfl (fun x3 => ?_)
      refine jjs hG rfl rfl ?_
      refine jj_gr hG (k := 108) rfl rfl rfl rfl ?_
      refine jjs hG rfl rfl ?_
      refine jj_la hG (k := 108) rfl rfl rfl (fun x4 => ?_)
      refine jjs hG rfl rfl ?_
      refine jj_gr hG (k := 109) rfl rfl rfl rfl ?_
      refine jjs hG rfl rfl ?_
      refine jj_ia hG (k := 109) rfl rfl rfl (fun x5 => ?_)
      refine jj_cs hG 0 rfl rfl (Nat.le_of_ble_eq_true rfl) (by decide) (Nat.le_of_ble_eq_true rfl) rfl (st' := []) rfl (w := .int) (fun _ _ _ hw h k => pm_rcv_of moM_m (k_isDue base sa hw h k)) (fun x7 s6 => ?_)
      refine jj_zeq hG (t := 73) rfl rfl ?_ ?_
      · refine jjs hG rfl rfl ?_
        refine jj_gr hG (k := 110) rfl rfl rfl rfl ?_
        refine jjs hG rfl rfl ?_
        refine jj_ia hG (k := 110) rfl rfl rfl (fun x8 => ?_)
        refine jj_ic hG rfl cc_i2 ?_
        refine jj_ieq hG (t := 89) rfl rfl ?_ ?_
        · exact jj_wl hG [0, 1, 2] rfl (b89 _ _)
        refine jjs hG rfl rfl ?_
        refine jjs hG rfl rfl ?_
        refine jjs hG rfl rfl ?_
        refine jj_cv hG 0 rfl rfl (Nat.le_of_ble_eq_true rfl) (by decide) (Nat.le_of_ble_eq_true rfl) rfl (st' := []) rfl (fun _ _ hw h k => pm_rcv_of moM_m (k_forsake base sa hw h k)) (fun s9 => ?_)
        exact jj_wl hG [0, 1, 2] rfl (b89 _ _)
      refine jjs hG rfl rfl ?_
      refine jjs hG rfl rfl ?_
      refine jjs hG rfl rfl ?_
      refine jj_cv hG 0 rfl rfl (Nat.le_of_ble_eq_true rfl) (by decide) (Nat.le_of_ble_eq_true rfl) rfl (st' := []) rfl (fun _ _ hw h k => pm_rcv_of moM_m (k_become base sa hw h k)) (fun s10 => ?_)
      refine jj_go hG (t := 89) rfl rfl ?_
      exact jj_wl hG [0, 1, 2] rfl (b89 _ _)
  refine (show JJ C R base m G 0 [(0, .ref m), (1, .int p1)] [] q t kc ks (M_settle t p1) (some tz) from ?_) hw h
  refine jjs hG rfl rfl ?_
  refine jj_gr hG (k := 39) rfl rfl rfl rfl ?_
  refine jjs hG rfl rfl ?_
  refine jj_ba hG (k := 39) rfl rfl rfl (fun x1 => ?_)
  refine jj_zne hG (t := 10) rfl rfl ?_ ?_
  · refine jj_si hG rfl cc_s2700 ?_
    refine jjs hG rfl rfl ?_
    refine jjs hG rfl rfl ?_
    refine jjc hG rfl rfl (Nat.le_of_ble_eq_true rfl) ?_
    refine jj_lp (fun n => ?_)
    exact jj_wl hG [1, 2, 0] rfl (b16 n _ _)
  exact jj_rvS hG rfl rfl (k)
noncomputable def M_isGood_b30 (t : moS) : Option Int32 := (some (0 : Int32))
noncomputable def M_isGood (t : moS) (p1 : Int32) : Option Int32 := Option.bind (rdI t 87 p1) (fun x1 => (if (moS.S t 1) < x1 then ((M_isGood_b30 t)) else (Option.bind (rdI t 88 p1) (fun x2 => (if x2 < (moS.S t 1) then ((M_isGood_b30 t)) else ((some (1 : Int32))))))))
set_option maxRecDepth 100000 in
set_option maxHeartbeats 4000000 in
theorem k_isGood (base : Nat) (sa : Nat → Nat) {C : Nat × Nat} {R : pmM} {m : Nat} {q : Nat → Nat} {t : moS} {kc ks : Nat} {Rt : pmR} {p1 : Int32} {r : Int32} (hw : mW C R base m q t kc ks) (h : M_isGood t p1 = (some r)) (k : Rt (some (.int r)) (moM R m q t) kc ks) : kP_Mo_isGood base sa [.ref m, .int p1] (moM R m q t) kc ks Rt := by
  refine ⟨Nat.le_of_ble_eq_true rfl, fun G hG => ?_⟩
  have b30 : JJ C R base m G 30 [] [] q t kc ks (M_isGood_b30 t) (some r) := by
    refine jj_ic hG rfl cc_i0 ?_
    exact jj_ri hG rfl rfl rfl k
  refine (show JJ C R base m G 0 [(0, .ref m), (1, .int p1)] [] q t kc ks (M_isGood t p1) (some r) from ?_) hw h
  refine jjs hG rfl rfl ?_
  refine jj_gi hG (k := 1) rfl rfl rfl rfl ?_
  refine jjs hG rfl rfl ?_
  refine jj_gr hG (k := 87) rfl rfl rfl rfl ?_
  refine jjs hG rfl rfl ?_
  refine jj_ia hG (k := 87) rfl rfl rfl (fun x1 => ?_)
  refine jj_ilt hG (t := 30) rfl rfl ?_ ?_
  · exact jj_wl hG [] rfl (b30)
  refine jjs hG rfl rfl ?_
  refine jj_gi hG (k := 1) rfl rfl rfl rfl ?_
  refine jjs hG rfl rfl ?_
  refine jj_gr hG (k := 88) rfl rfl rfl rfl ?_
  refine jjs hG rfl rfl ?_
  refine jj_ia hG (k := 88) rfl rfl rfl (fun x2 => ?_)
  refine jj_igt hG (t := 30) rfl rfl ?_ ?_
  · exact jj_wl hG [] rfl (b30)
  refine jj_ic hG rfl cc_i1 ?_
  refine jj_go hG (t := 31) rfl rfl ?_
  exact jj_ri hG rfl rfl rfl k
noncomputable def M_bornKey_b99 (t : moS) (p1 : Int32) (a2 : Int32) (a3 : Int32) : Option ((Int32 × Int32) ⊕ Int32) := (some (.inl (a2, (a3 + (1 : Int32)))))
noncomputable def M_bornKey_b98 (t : moS) (p1 : Int32) (a3 : Int32) (u0 : Int32) : Option ((Int32 × Int32) ⊕ Int32) := (M_bornKey_b99 t p1 u0 a3)
noncomputable def M_bornKey_b86 (t : moS) (p1 : Int32) (a2 : Int32) (a3 : Int32) (u0 : Int32) : Option ((Int32 × Int32) ⊕ Int32) := if u0 = 0 then ((M_bornKey_b98 t p1 a3 a2)) else ((M_bornKey_b98 t p1 a3 a3))
noncomputable def M_bornKey_b81 (t : moS) (p1 : Int32) (a2 : Int32) (a3 : Int32) : Option ((Int32 × Int32) ⊕ Int32) := (M_bornKey_b86 t p1 a2 a3 (1 : Int32))
noncomputable def M_bornKey_b85 (t : moS) (p1 : Int32) (a2 : Int32) (a3 : Int32) : Option ((Int32 × Int32) ⊕ Int32) := (M_bornKey_b86 t p1 a2 a3 (0 : Int32))
noncomputable def M_bornKey_s6 (t : moS) (p1 : Int32) (a2 : Int32) (a3 : Int32) : Option ((Int32 × Int32) ⊕ Int32) := Option.bind (rdI t 82 p1) (fun x1 => (if a3 < (((4 : Int32) * p1) + x1) then (Option.bind (M_isGood t a3) (fun x2 => (if x2 = 0 then ((M_bornKey_b99 t p1 a2 a3)) else (if a2 = ((-1) : Int32) then ((M_bornKey_b81 t p1 a2 a3)) else (Option.bind (rdI t 87 a3) (fun x3 => (Option.bind (rdI t 87 a2) (fun x4 => (if x4 < x3 then ((M_bornKey_b81 t p1 a2 a3)) else (Option.bind (rdI t 87 a3) (fun x5 => (Option.bind (rdI t 87 a2) (fun x6 => (if x5 = x6 then (Option.bind (rdI t 83 a3) (fun x7 => (Option.bind (rdI t 83 a2) (fun x8 => (if x8 < x7 then ((M_bornKey_b81 t p1 a2 a3)) else ((M_bornKey_b85 t p1 a2 a3))))))) else ((M_bornKey_b85 t p1 a2 a3)))))))))))))))) else ((xo ((some a2))))))
noncomputable def M_bornKey_b6 (t : moS) (p1 : Int32) (a2 : Int32) (a3 : Int32) : Option Int32 := lp (fun x => M_bornKey_s6 t p1 x.1 x.2) (a2, a3)
noncomputable def M_bornKey (t : moS) (p1 : Int32) : Option Int32 := (M_bornKey_b6 t p1 ((-1) : Int32) ((4 : Int32) * p1))
set_option maxRecDepth 100000 in
set_option maxHeartbeats 4000000 in
theorem k_bornKey (base : Nat) (sa : Nat → Nat) {C : Nat × Nat} {R : pmM} {m : Nat} {q : Nat → Nat} {t : moS} {kc ks : Nat} {Rt : pmR} {p1 : Int32} {r : Int32} (hw : mW C R base m q t kc ks) (h : M_bornKey t p1 = (some r)) (k : Rt (some (.int r)) (moM R m q t) kc ks) : kP_Mo_bornKey base sa [.ref m, .int p1] (moM R m q t) kc ks Rt := by
  refine ⟨Nat.le_of_ble_eq_true rfl, fun G hG => ?_⟩
  have b6 : ∀ (n : Nat) (a2 : Int32) (a3 : Int32), JJ C R base m G 6 [(0, .ref m), (1, .int p1), (2, .int a2), (3, .int a3)] [] q t kc ks (lpN (fun x => M_bornKey_s6 t p1 x.1 x.2) n (a2, a3)) (some r) := by
    intro n
    induction n with
    | zero => intro a2 a3; exact jj_lp0
    | succ n ih6 =>
      intro a2 a3
      refine jj_lpS (fun y6 c6 => ?_)
      have b99 : ∀ (a2 : Int32) (a3 : Int32), JJ C R base m G 99 [(0, .ref m), (1, .int p1), (2, .int a2), (3, .int a3)] [] q t kc ks (M_bornKey_b99 t p1 a2 a3) (some y6) := by
        intro a2 a3
        refine jj_inc hG rfl (Nat.le_of_ble_eq_true rfl) rfl cc_i1 ?_
        refine jj_go hG (t := 6) rfl rfl ?_
        exact jj_back c6 (jj_wl hG [1, 2, 3, 0] rfl (ih6 _ _))
      have b98 : ∀ (a3 : Int32) (u0 : Int32), JJ C R base m G 98 [(0, .ref m), (1, .int p1), (3, .int a3)] [.int u0] q t kc ks (M_bornKey_b98 t p1 a3 u0) (some y6) := by
        intro a3 u0
        refine jjc hG rfl rfl (Nat.le_of_ble_eq_true rfl) ?_
        exact jj_wl hG [1, 2, 0, 3] rfl (b99 _ _)
      have b86 : ∀ (a2 : Int32) (a3 : Int32) (u0 : Int32), JJ C R base m G 86 [(0, .ref m), (1, .int p1), (2, .int a2), (3, .int a3)] [.int u0] q t kc ks (M_bornKey_b86 t p1 a2 a3 u0) (some y6) := by
        intro a2 a3 u0
        refine jjc hG rfl rfl (Nat.le_of_ble_eq_true rfl) ?_
        refine jjs hG rfl rfl ?_
        refine jj_zeq hG (t := 97) rfl rfl ?_ ?_
        · refine jjs hG rfl rfl ?_
          exact jj_wl hG [1, 2, 4] rfl (b98 _ _)
        refine jjs hG rfl rfl ?_
        refine jj_go hG (t := 98) rfl rfl ?_
        exact jj_wl hG [1, 2, 4] rfl (b98 _ _)
      have b81 : ∀ (a2 : Int32) (a3 : Int32), JJ C R base m G 81 [(0, .ref m), (1, .int p1), (2, .int a2), (3, .int a3)] [] q t kc ks (M_bornKey_b81 t p1 a2 a3) (some y6) := by
        intro a2 a3
        refine jj_ic hG rfl cc_i1 ?_
        refine jj_go hG (t := 86) rfl rfl ?_
        exact jj_wl hG [0, 1, 2, 3] rfl (b86 _ _ _)
      have b85 : ∀ (a2 : Int32) (a3 : Int32), JJ C R base m G 85 [(0, .ref m), (1, .int p1), (2, .int a2), (3, .int a3)] [] q t kc ks (M_bornKey_b85 t p1 a2 a3) (some y6) := by
        intro a2 a3
        refine jj_ic hG rfl cc_i0 ?_
        exact jj_wl hG [0, 1, 2, 3] rfl (b86 _ _ _)
      refine (show JJ C R base m G 6 [(0, .ref m), (1, .int p1), (2, .int a2), (3, .int a3)] [] q t kc ks (M_bornKey_s6 t p1 a2 a3) (some y6) from ?_)
      refine jjs hG rfl rfl ?_
      refine jj_ic hG rfl cc_i4 ?_
      refine jjs hG rfl rfl ?_
      refine jjs hG rfl rfl ?_
      refine jjs hG rfl rfl ?_
      refine jj_gr hG (k := 82) rfl rfl rfl rfl ?_
      refine jjs hG rfl rfl ?_
      refine jj_ia hG (k := 82) rfl rfl rfl (fun x1 => ?_)
      refine jjs hG rfl rfl ?_
      refine jj_ige hG (t := 105) rfl rfl ?_ ?_
      · refine jj_exit c6 ?_
        refine jjs hG rfl rfl ?_
        exact jj_ri hG rfl rfl rfl k
      refine jjs hG rfl rfl ?_
      refine jjs hG rfl rfl ?_
      refine jj_cp hG 0 rfl rfl (Nat.le_of_ble_eq_true rfl) (by decide) (Nat.le_of_ble_eq_true rfl) rfl (st' := []) rfl (w := .int) (fun _ _ hw h k => pm_rcv_of moM_m (k_isGood base sa hw h k)) (fun x2 => ?_)
      refine jj_zne hG (t := 31) rfl rfl ?_ ?_
      · refine jjs hG rfl rfl ?_
        refine jj_ic hG rfl cc_im1 ?_
        refine jj_ieq hG (t := 81) rfl rfl ?_ ?_
        · exact jj_wl hG [0, 1, 2, 3] rfl (b81 _ _)
        refine jjs hG rfl rfl ?_
        refine jj_gr hG (k := 87) rfl rfl rfl rfl ?_
        refine jjs hG rfl rfl ?_
        refine jj_ia hG (k := 87) rfl rfl rfl (fun x3 => ?_)
        refine jjs hG rfl rfl ?_
        refine jj_gr hG (k := 87) rfl rfl rfl rfl ?_
        refine jjs hG rfl rfl ?_
        refine jj_ia hG (k := 87) rfl rfl rfl (fun x4 => ?_)
        refine jj_igt hG (t := 81) rfl rfl ?_ ?_
        · exact jj_wl hG [0, 1, 2, 3] rfl (b81 _ _)
        refine jjs hG rfl rfl ?_
        refine jj_gr hG (k := 87) rfl rfl rfl rfl ?_
        refine jjs hG rfl rfl ?_
        refine jj_ia hG (k := 87) rfl rfl rfl (fun x5 => ?_)
        refine jjs hG rfl rfl ?_
        refine jj_gr hG (k := 87) rfl rfl rfl rfl ?_
        refine jjs hG rfl rfl ?_
        refine jj_ia hG (k := 87) rfl rfl rfl (fun x6 => ?_)
        refine jj_ine hG (t := 85) rfl rfl ?_ ?_
        · exact jj_wl hG [0, 1, 2, 3] rfl (b85 _ _)
        refine jjs hG rfl rfl ?_
        refine jj_gr hG (k := 83) rfl rfl rfl rfl ?_
        refine jjs hG rfl rfl ?_
        refine jj_ia hG (k := 83) rfl rfl rfl (fun x7 => ?_)
        refine jjs hG rfl rfl ?_
        refine jj_gr hG (k := 83) rfl rfl rfl rfl ?_
        refine jjs hG rfl rfl ?_
        refine jj_ia hG (k := 83) rfl rfl rfl (fun x8 => ?_)
        refine jj_ile hG (t := 85) rfl rfl ?_ ?_
        · exact jj_wl hG [0, 1, 2, 3] rfl (b85 _ _)
        exact jj_wl hG [0, 1, 2, 3] rfl (b81 _ _)
      refine jj_go hG (t := 99) rfl rfl ?_
      exact jj_wl hG [0, 1, 2, 3] rfl (b99 _ _)
  refine (show JJ C R base m G 0 [(0, .ref m), (1, .int p1)] [] q t kc ks (M_bornKey t p1) (some r) from ?_) hw h
  refine jj_ic hG rfl cc_im1 ?_
  refine jjc hG rfl rfl (Nat.le_of_ble_eq_true rfl) ?_
  refine jj_ic hG rfl cc_i4 ?_
  refine jjs hG rfl rfl ?_
  refine jjs hG rfl rfl ?_
  refine jjc hG rfl rfl (Nat.le_of_ble_eq_true rfl) ?_
  refine jj_lp (fun n => ?_)
  exact jj_wl hG [2, 3, 1, 0] rfl (b6 n _ _)
noncomputable def M_put2 (t : moS) (p1 : Nat) (p2 : Int32) (p3 : Int32) : Option moS := Option.bind (wrI t p1 p2 ((p3 >>> ((8 : Int32) &&& 31)) &&& (255 : Int32))) (fun s1 => (Option.bind (wrI s1 p1 (p2 + (1 : Int32)) (p3 &&& (255 : Int32))) (fun s2 => ((some s2)))))
set_option maxRecDepth 100000 in
set_option maxHeartbeats 4000000 in
theorem k_put2 (base : Nat) (sa : Nat → Nat) {C : Nat × Nat} {R : pmM} {m : Nat} {q : Nat → Nat} {t tz : moS} {kc ks : Nat} {Rt : pmR} {p1 : Nat} {p2 : Int32} {p3 : Int32} (kp1 : Nat.ble (p1 + 1) 166 = true) (dp1 : moKd p1 = 2) (hw : mW C R base m q t kc ks) (h : M_put2 t p1 p2 p3 = (some tz)) (k : mW C R base m q tz kc ks → Rt none (moM R m q tz) kc ks) : kP_Mo_put2 base sa [.ref m, .ref (q p1), .int p2, .int p3] (moM R m q t) kc ks Rt := by
  refine ⟨Nat.le_of_ble_eq_true rfl, fun G hG => ?_⟩
  refine (show JJ C R base m G 0 [(0, .ref m), (1, .ref (q p1)), (2, .int p2), (3, .int p3)] [] q t kc ks (M_put2 t p1 p2 p3) (some tz) from ?_) hw h
  refine jjs hG rfl rfl ?_
  refine jjs hG rfl rfl ?_
  refine jjs hG rfl rfl ?_
  refine jj_bi hG rfl cc_b8 ?_
  refine jjs hG rfl rfl ?_
  refine jj_si hG rfl cc_s255 ?_
  refine jjs hG rfl rfl ?_
  refine jj_is hG (k := p1) rfl kp1 dp1 (fun s1 => ?_)
  refine jjs hG rfl rfl ?_
  refine jjs hG rfl rfl ?_
  refine jj_ic hG rfl cc_i1 ?_
  refine jjs hG rfl rfl ?_
  refine jjs hG rfl rfl ?_
  refine jj_si hG rfl cc_s255 ?_
  refine jjs hG rfl rfl ?_
  refine jj_is hG (k := p1) rfl kp1 dp1 (fun s2 => ?_)
  exact jj_rvS hG rfl rfl (k)
noncomputable def M_put4 (t : moS) (p1 : Nat) (p2 : Int32) (p3 : Int32) : Option moS := Option.bind (M_put2 t p1 p2 (p3 >>> ((16 : Int32) &&& 31))) (fun s1 => (Option.bind (M_put2 s1 p1 (p2 + (2 : Int32)) p3) (fun s2 => ((some s2)))))
set_option maxRecDepth 100000 in
set_option maxHeartbeats 4000000 in
theorem k_put4 (base : Nat) (sa : Nat → Nat) {C : Nat × Nat} {R : pmM} {m : Nat} {q : Nat → Nat} {t tz : moS} {kc ks : Nat} {Rt : pmR} {p1 : Nat} {p2 : Int32} {p3 : Int32} (kp1 : Nat.ble (p1 + 1) 166 = true) (dp1 : moKd p1 = 2) (hw : mW C R base m q t kc ks) (h : M_put4 t p1 p2 p3 = (some tz)) (k : mW C R base m q tz kc ks → Rt none (moM R m q tz) kc ks) : kP_Mo_put4 base sa [.ref m, .ref (q p1), .int p2, .int p3] (moM R m q t) kc ks Rt := by
  refine ⟨Nat.le_of_ble_eq_true rfl, fun G hG => ?_⟩
  refine (show JJ C R base m G 0 [(0, .ref m), (1, .ref (q p1)), (2, .int p2), (3, .int p3)] [] q t kc ks (M_put4 t p1 p2 p3) (some tz) from ?_) hw h
  refine jjs hG rfl rfl ?_
  refine jjs hG rfl rfl ?_
  refine jjs hG rfl rfl ?_
  refine jjs hG rfl rfl ?_
  refine jj_bi hG rfl cc_b16 ?_
  refine jjs hG rfl rfl ?_
  refine jj_cv hG 0 rfl rfl (Nat.le_of_ble_eq_true rfl) (by decide) (Nat.le_of_ble_eq_true rfl) rfl (st' := []) rfl (fun _ _ hw h k => pm_rcv_of moM_m (k_put2 base sa kp1 dp1 hw h k)) (fun s1 => ?_)
  refine jjs hG rfl rfl ?_
  refine jjs hG rfl rfl ?_
  refine jjs hG rfl rfl ?_
  refine jj_ic hG rfl cc_i2 ?_
  refine jjs hG rfl rfl ?_
  refine jjs hG rfl rfl ?_
  refine jj_cv hG 0 rfl rfl (Nat.le_of_ble_eq_true rfl) (by decide) (Nat.le_of_ble_eq_true rfl) rfl (st' := []) rfl (fun _ _ hw h k => pm_rcv_of moM_m (k_put2 base sa kp1 dp1 hw h k)) (fun s2 => ?_)
  exact jj_rvS hG rfl rfl (k)
noncomputable def M_secret (t : moS) (p1 : Int32) (p2 : Int32) : Option Int32 := Option.bind (rdI t 85 p1) (fun x1 => (if p2 < x1 then (Option.bind (rdI t 86 (((16 : Int32) * p1) + p2)) (fun x2 => ((some x2)))) else ((some (0 : Int32)))))
set_option maxRecDepth 100000 in
set_option maxHeartbeats 4000000 in
theorem k_secret (base : Nat) (sa : Nat → Nat) {C : Nat × Nat} {R : pmM} {m : Nat} {q : Nat → Nat} {t : moS} {kc ks : Nat} {Rt : pmR} {p1 : Int32} {p2 : Int32} {r : Int32} (hw : mW C R base m q t kc ks) (h : M_secret t p1 p2 = (some r)) (k : Rt (some (.int r)) (moM R m q t) kc ks) : kP_Mo_secret base sa [.ref m, .int p1, .int p2] (moM R m q t) kc ks Rt := by
  refine ⟨Nat.le_of_ble_eq_true rfl, fun G hG => ?_⟩
  refine (show JJ C R base m G 0 [(0, .ref m), (1, .int p1), (2, .int p2)] [] q t kc ks (M_secret t p1 p2) (some r) from ?_) hw h
  refine jjs hG rfl rfl ?_
  refine jjs hG rfl rfl ?_
  refine jj_gr hG (k := 85) rfl rfl rfl rfl ?_
  refine jjs hG rfl rfl ?_
  refine jj_ia hG (k := 85) rfl rfl rfl (fun x1 => ?_)
  refine jj_ige hG (t := 24) rfl rfl ?_ ?_
  · refine jj_ic hG rfl cc_i0 ?_
    exact jj_ri hG rfl rfl rfl k
  refine jjs hG rfl rfl ?_
  refine jj_gr hG (k := 86) rfl rfl rfl rfl ?_
  refine jj_bi hG rfl cc_b16 ?_
  refine jjs hG rfl rfl ?_
  refine jjs hG rfl rfl ?_
  refine jjs hG rfl rfl ?_
  refine jjs hG rfl rfl ?_
  refine jj_ia hG (k := 86) rfl rfl rfl (fun x2 => ?_)
  refine jj_go hG (t := 25) rfl rfl ?_
  exact jj_ri hG rfl rfl rfl k
noncomputable def M_pad_b66 (t : moS) (p1 : Int32) (p2 : Int32) (a3 : Int32) (a4 : Int32) (u0 : Int32) : Option ((Int32 × moS) ⊕ (Int32 × moS)) := Option.bind (wrI t 157 (a3 + a4) (Int64.toInt32 ((((8 : Int64) * (Int32.toInt64 p1)) >>> ((Int32.toInt64 u0) &&& 63)) &&& (255 : Int64)))) (fun s1 => ((some (.inl ((a4 + (1 : Int32)), s1)))))
noncomputable def M_pad_s39 (t : moS) (p1 : Int32) (p2 : Int32) (a3 : Int32) (a4 : Int32) : Option ((Int32 × moS) ⊕ (Int32 × moS)) := if a4 < (8 : Int32) then (if p2 = 0 then ((M_pad_b66 t p1 p2 a3 a4 ((8 : Int32) * a4))) else ((M_pad_b66 t p1 p2 a3 a4 ((56 : Int32) - ((8 : Int32) * a4))))) else ((xo ((some ((a3 + (8 : Int32)), t)))))
noncomputable def M_pad_b39 (t : moS) (p1 : Int32) (p2 : Int32) (a3 : Int32) (a4 : Int32) : Option (Int32 × moS) := lp (fun x => M_pad_s39 x.2 p1 p2 a3 x.1) (a4, t)
noncomputable def M_pad_s14 (t : moS) (p1 : Int32) (p2 : Int32) (a3 : Int32) : Option ((Int32 × moS) ⊕ (Int32 × moS)) := if (rem_I a3 (64 : Int32)) = (56 : Int32) then ((xo ((M_pad_b39 t p1 p2 a3 (0 : Int32))))) else (Option.bind (wrI t 157 a3 (0 : Int32)) (fun s1 => ((some (.inl ((a3 + (1 : Int32)), s1))))))
noncomputable def M_pad_b14 (t : moS) (p1 : Int32) (p2 : Int32) (a3 : Int32) : Option (Int32 × moS) := lp (fun x => M_pad_s14 x.2 p1 p2 x.1) (a3, t)
noncomputable def M_pad (t : moS) (p1 : Int32) (p2 : Int32) : Option (Int32 × moS) := Option.bind (wrI t 157 p1 (128 : Int32)) (fun s1 => ((M_pad_b14 s1 p1 p2 (p1 + (1 : Int32)))))
set_option maxRecDepth 100000 in
set_option maxHeartbeats 4000000 in
theorem k_pad (base : Nat) (sa : Nat → Nat) {C : Nat × Nat} {R : pmM} {m : Nat} {q : Nat → Nat} {t tz : moS} {kc ks : Nat} {Rt : pmR} {p1 : Int32} {p2 : Int32} {r : Int32} (hw : mW C R base m q t kc ks) (h : M_pad t p1 p2 = (some (r, tz))) (k : mW C R base m q tz kc ks → Rt (some (.int r)) (moM R m q tz) kc ks) : kP_Mo_pad base sa [.ref m, .int p1, .int p2] (moM R m q t) kc ks Rt := by
  refine ⟨Nat.le_of_ble_eq_true rfl, fun G hG => ?_⟩
  have b39 : ∀ (a3 : Int32) (n : Nat) (a4 : Int32) (t : moS), JJ C R base m G 39 [(0, .ref m), (1, .int p1), (2, .int p2), (3, .int a3), (4, .int a4)] [] q t kc ks (lpN (fun x => M_pad_s39 x.2 p1 p2 a3 x.1) n (a4, t)) (some (r, tz)) := by
    intro a3 n
    induction n with
    | zero => intro a4 t; exact jj_lp0
    | succ n ih39 =>
      intro a4 t
      refine jj_lpS (fun y39 c39 => ?_)
      have b66 : ∀ (a4 : Int32) (u0 : Int32) (t : moS), JJ C R base m G 66 [(0, .ref m), (1, .int p1), (2, .int p2), (3, .int a3), (4, .int a4)] [.int u0] q t kc ks (M_pad_b66 t p1 p2 a3 a4 u0) (some y39) := by
        intro a4 u0 t
        refine jjc hG rfl rfl (Nat.le_of_ble_eq_true rfl) ?_
        refine jjs hG rfl rfl ?_
        refine jj_gr hG (k := 157) rfl rfl rfl rfl ?_
        refine jjs hG rfl rfl ?_
        refine jjs hG rfl rfl ?_
        refine jjs hG rfl rfl ?_
        refine jj_l2 hG (v := (8 : Int64)) rfl rfl ?_
        refine jjs hG rfl rfl ?_
        refine jjs hG rfl rfl ?_
        refine jjs hG rfl rfl ?_
        refine jjs hG rfl rfl ?_
        refine jjs hG rfl rfl ?_
        refine jj_at (pc' := 85) rfl ?_
        refine jj_l2 hG (v := (255 : Int64)) rfl rfl ?_
        refine jjs hG rfl rfl ?_
        refine jjs hG rfl rfl ?_
        refine jj_is hG (k := 157) rfl rfl rfl (fun s1 => ?_)
        refine jj_inc hG rfl (Nat.le_of_ble_eq_true rfl) rfl cc_i1 ?_
        refine jj_go hG (t := 39) rfl rfl ?_
        exact jj_back c39 (jj_wl hG [2, 3, 4, 5, 0] rfl (ih39 _ _))
      refine (show JJ C R base m G 39 [(0, .ref m), (1, .int p1), (2, .int p2), (3, .int a3), (4, .int a4)] [] q t kc ks (M_pad_s39 t p1 p2 a3 a4) (some y39) from ?_)
      refine jjs hG rfl rfl ?_
      refine jj_bi hG rfl cc_b8 ?_
      refine jj_ige hG (t := 97) rfl rfl ?_ ?_
      · refine jj_exit c39 ?_
        refine jjs hG rfl rfl ?_
        refine jj_bi hG rfl cc_b8 ?_
        refine jjs hG rfl rfl ?_
        exact jj_riS hG rfl rfl rfl k
      refine jjs hG rfl rfl ?_
      refine jj_zeq hG (t := 61) rfl rfl ?_ ?_
      · refine jj_bi hG rfl cc_b8 ?_
        refine jjs hG rfl rfl ?_
        refine jjs hG rfl rfl ?_
        exact jj_wl hG [0, 1, 2, 3, 4] rfl (b66 _ _ _)
      refine jj_bi hG rfl cc_b56 ?_
      refine jj_bi hG rfl cc_b8 ?_
      refine jjs hG rfl rfl ?_
      refine jjs hG rfl rfl ?_
      refine jjs hG rfl rfl ?_
      refine jj_go hG (t := 66) rfl rfl ?_
      exact jj_wl hG [0, 1, 2, 3, 4] rfl (b66 _ _ _)
  have b14 : ∀ (n : Nat) (a3 : Int32) (t : moS), JJ C R base m G 14 [(0, .ref m), (1, .int p1), (2, .int p2), (3, .int a3)] [] q t kc ks (lpN (fun x => M_pad_s14 x.2 p1 p2 x.1) n (a3, t)) (some (r, tz)) := by
    intro n
    induction n with
    | zero => intro a3 t; exact jj_lp0
    | succ n ih14 =>
      intro a3 t
      refine jj_lpS (fun y14 c14 => ?_)
      refine (show JJ C R base m G 14 [(0, .ref m), (1, .int p1), (2, .int p2), (3, .int a3)] [] q t kc ks (M_pad_s14 t p1 p2 a3) (some y14) from ?_)
      refine jjs hG rfl rfl ?_
      refine jj_bi hG rfl cc_b64 ?_
      refine jjc hG rfl rfl (by decide) ?_
      refine jj_bi hG rfl cc_b56 ?_
      refine jj_ieq hG (t := 36) rfl rfl ?_ ?_
      · refine jj_exit c14 ?_
        refine jj_ic hG rfl cc_i0 ?_
        refine jjc hG rfl rfl (Nat.le_of_ble_eq_true rfl) ?_
        refine jj_lp (fun n => ?_)
        exact jj_wl hG [1, 2, 3, 4, 0] rfl (b39 _ n _ _)
      refine jjs hG rfl rfl ?_
      refine jj_gr hG (k := 157) rfl rfl rfl rfl ?_
      refine jjs hG rfl rfl ?_
      refine jj_ic hG rfl cc_i0 ?_
      refine jj_is hG (k := 157) rfl rfl rfl (fun s1 => ?_)
      refine jj_inc hG rfl (Nat.le_of_ble_eq_true rfl) rfl cc_i1 ?_
      refine jj_go hG (t := 14) rfl rfl ?_
      exact jj_back c14 (jj_wl hG [1, 2, 3, 0] rfl (ih14 _ _))
  refine (show JJ C R base m G 0 [(0, .ref m), (1, .int p1), (2, .int p2)] [] q t kc ks (M_pad t p1 p2) (some (r, tz)) from ?_) hw h
  refine jjs hG rfl rfl ?_
  refine jjc hG rfl rfl (Nat.le_of_ble_eq_true rfl) ?_
  refine jjs hG rfl rfl ?_
  refine jj_gr hG (k := 157) rfl rfl rfl rfl ?_
  refine jjs hG rfl rfl ?_
  refine jj_si hG rfl cc_s128 ?_
  refine jj_is hG (k := 157) rfl rfl rfl (fun s1 => ?_)
  refine jj_inc hG rfl (Nat.le_of_ble_eq_true rfl) rfl cc_i1 ?_
  refine jj_lp (fun n => ?_)
  exact jj_wl hG [1, 2, 3, 0] rfl (b14 n _ _)
noncomputable def M_turned (p0 : Int32) (p1 : Int32) : Int32 := ((p0 <<< (p1 &&& 31)) ||| (ush_I p0 ((32 : Int32) - p1)))
set_option maxRecDepth 100000 in
set_option maxHeartbeats 4000000 in
theorem k_turned (base : Nat) (sa : Nat → Nat) {C : Nat × Nat} {R : pmM} {m : Nat} {q : Nat → Nat} {t : moS} {kc ks : Nat} {Rt : pmR} {p0 : Int32} {p1 : Int32} {r : Int32} (hw : mW C R base m q t kc ks) (h : M_turned p0 p1 = r) (k : Rt (some (.int r)) (moM R m q t) kc ks) : kP_Mo_turned base sa [.int p0, .int p1] (moM R m q t) kc ks Rt := by
  refine ⟨Nat.le_of_ble_eq_true rfl, fun G hG => ?_⟩
  refine (show JJ C R base m G 0 [(0, .int p0), (1, .int p1)] [] q t kc ks (M_turned p0 p1) r from ?_) hw h
  refine jjs hG rfl rfl ?_
  refine jjs hG rfl rfl ?_
  refine jjs hG rfl rfl ?_
  refine jjs hG rfl rfl ?_
  refine jj_bi hG rfl cc_b32 ?_
  refine jjs hG rfl rfl ?_
  refine jjs hG rfl rfl ?_
  refine jjs hG rfl rfl ?_
  refine jjs hG rfl rfl ?_
  exact jj_rit hG rfl rfl rfl k
