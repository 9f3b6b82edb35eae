/-- the model's first fields -/
def moD0 : List Value := [.int 0, .int 0, .null, .int 0, .int 0, .null, .int 0, .null, .int 0, .null, .null, .int 0, .int 0, .long 0, .long 0, .int 0, .null, .int 0, .null, .null, .null, .null, .null, .null, .null, .null, .null, .int 0, .null, .null, .null, .null, .null, .null, .null, .null, .null, .int 0, .null, .null, .null, .null, .null, .null, .null, .null, .null, .null, .null, .null, .null, .null, .null, .null, .null, .null, .null, .null, .null, .null, .null, .null, .null, .null, .null, .null, .null, .null, .null, .null, .null, .null, .null, .null, .null, .null, .null, .null, .null, .null, .null, .null, .null, .null, .null, .null, .null, .null, .null, .null, .null, .null, .null, .null, .null, .null, .null, .null, .null, .null, .null, .int 0, .null, .null, .null, .null, .null, .null, .null, .null, .null, .null, .null, .null, .null, .null, .null, .null, .null, .null, .null, .null, .null, .int 0, .null, .null, .null, .null, .null, .null, .null, .null, .null, .null, .null, .null, .null, .null, .null, .int 0, .null, .null, .null, .null, .null, .int 0, .null, .null, .int 0, .null, .int 0, .null, .null, .int 0, .int 0, .int 0, .int 0, .null, .null, .null, .null, .null, .int 0, .int 0, .long 0, .long 0]
def moF0 : Nat → Value := fun k => moD0.getD k .null
set_option maxRecDepth 100000 in
theorem moF0_e : moD0 = moL moF0 := rfl
set_option maxRecDepth 100000 in
set_option maxHeartbeats 4000000 in
/-- the law: made, then its loop -/
theorem law_ok (base : Nat) (sa : Nat → Nat) {b L N : Nat} {xs : Nat → Int32} {M0 : pmM} {kc ks : Nat} {Inv : Nat → Nat → Nat → Nat → pmM → Nat → Nat → Prop} (hL : L ≤ 3072) (hN : L < 6 * N + 6) (hkc : 200 ≤ kc) (hks : 510000 ≤ ks) (hS : ∀ x m o n M kc ks, Inv x m o n M kc ks → M b = some (.inl (.int, L, .inl xs))) (hdrop : ∀ x m o n M kc ks, Inv x m o (n + 1) M kc ks → Inv x m o n M kc ks)
    (ob0 : ∀ x m o : Nat, ∀ y0 y1 y2 y3 y4 : Int32, lw2 (Inv x m o) b L xs (pm_rcv 11 (kP_Rf_feed base sa)) (pm_rcv 12 (kP_Mo_feed base sa)) [.ref x, .int y0, .int y1, .int y2, .int y3, .int y4] [.ref m, .int y0, .int y1, .int y2, .int y3, .int y4])
    (ob1 : ∀ x m o : Nat, ∀ y0 : Int32, lw2 (Inv x m o) b L xs (pm_rcv 11 (kP_Rf_end base sa)) (pm_rcv 12 (kP_Mo_end base sa)) [.ref x, .int y0] [.ref m, .int y0])
    (ob2 : ∀ x m o : Nat, lw2 (Inv x m o) b L xs (pm_rcv 11 (kP_Rf_read base sa)) (pm_rcv 12 (kP_Mo_read base sa)) [.ref x] [.ref m])
    (ob3 : ∀ x m o : Nat, lw2 (Inv x m o) b L xs (pm_rcv 11 (kP_Rf_fault base sa)) (pm_rcv 12 (kP_Mo_fault base sa)) [.ref x] [.ref m])
    (ob4 : ∀ x m o : Nat, ∀ y0 : Int32, lw2 (Inv x m o) b L xs (pm_rcv 11 (kP_Rf_ticks base sa)) (pm_rcv 12 (kP_Mo_ticks base sa)) [.ref x, .int y0] [.ref m, .int y0])
    (ob5 : ∀ x m o : Nat, ∀ y0 y1 : Int32, (y1 = 0 ∨ y1 = 1) → lw2 (Inv x m o) b L xs (pm_rcv 11 (kP_Rf_link base sa)) (pm_rcv 12 (kP_Mo_link base sa)) [.ref x, .int y0, .int y1] [.ref m, .int y0, .int y1])
    (ob6 : ∀ x m o : Nat, ∀ y0 y1 : Int32, lw2 (Inv x m o) b L xs (pm_rcv 11 (kP_Rf_lose base sa)) (pm_rcv 12 (kP_Mo_lose base sa)) [.ref x, .int y0, .int y1] [.ref m, .int y0, .int y1])
    (ob7 : ∀ x m o : Nat, ∀ y0 y1 : Int32, (y1 = 0 ∨ y1 = 1) → lw2 (Inv x m o) b L xs (pm_rcv 11 (kP_Rf_run base sa)) (pm_rcv 12 (kP_Mo_run base sa)) [.ref x, .int y0, .int y1] [.ref m, .int y0, .int y1])
    (ob8 : ∀ x m o : Nat, ∀ y0 y1 y2 y3 : Int32, lw2 (Inv x m o) b L xs (pm_rcv 11 (kP_Rf_put base sa)) (pm_rcv 12 (kP_Mo_put base sa)) [.ref x, .int y0, .int y1, .int y2, .int y3] [.ref m, .int y0, .int y1, .int y2, .int y3])
    (ob9 : ∀ x m o : Nat, ∀ y0 y1 : Int32, lw2 (Inv x m o) b L xs (pm_rcv 11 (kP_Rf_show base sa)) (pm_rcv 12 (kP_Mo_show base sa)) [.ref x, .int y0, .int y1] [.ref m, .int y0, .int y1])
    (ob10 : ∀ x m o : Nat, lw2 (Inv x m o) b L xs (pm_rcv 11 (kP_Rf_config base sa)) (pm_rcv 12 (kP_Mo_config base sa)) [.ref x] [.ref m])
    (ob11 : ∀ x m o : Nat, ∀ y0 : Int32, lw2 (Inv x m o) b L xs (pm_rcv 11 (kP_Rf_oracle base sa)) (pm_rcv 12 (kP_Mo_oracle base sa)) [.ref x, .int y0] [.ref m, .int y0])
    (ob12 : ∀ x m o : Nat, ∀ y0 : Int32, lw2 (Inv x m o) b L xs (pm_rcv 11 (kP_Rf_way base sa)) (pm_rcv 12 (kP_Mo_way base sa)) [.ref x, .int y0] [.ref m, .int y0])
    (ob13 : ∀ x m o : Nat, ∀ y0 : Int32, lw2 (Inv x m o) b L xs (pm_rcv 11 (kP_Rf_seen base sa)) (pm_rcv 12 (kP_Mo_seen base sa)) [.ref x, .int y0] [.ref m, .int y0])
    (ob14 : ∀ x m o : Nat, ∀ i : Int32, lwT base sa (Inv x m o) b L xs x m o i)
    (ob15 : ∀ x m o : Nat, ∀ y0 y1 : Int32, lw2 (Inv x m o) b L xs (pm_rcv 11 (kP_Rf_count base sa)) (pm_rcv 12 (kP_Mo_count base sa)) [.ref x, .int y0, .int y1] [.ref m, .int y0, .int y1])
    (ob16 : ∀ x m o : Nat, ∀ y0 : Int32, lw2 (Inv x m o) b L xs (pm_rcv 11 (kP_Rf_routes base sa)) (pm_rcv 12 (kP_Mo_routes base sa)) [.ref x, .int y0] [.ref m, .int y0])
    (ob17 : ∀ x m o : Nat, lw2 (Inv x m o) b L xs (pm_rcv 11 (kP_Rf_flying base sa)) (pm_rcv 12 (kP_Mo_flying base sa)) [.ref x] [.ref m])
    (ob18 : ∀ x m o : Nat, lw2 (Inv x m o) b L xs (pm_rcv 11 (kP_Rf_now base sa)) (pm_rcv 12 (kP_Mo_now base sa)) [.ref x] [.ref m])
    (hI : ∀ x qt qta qx qxa qp qpa ql qr qi qf qs qd qd1 qd2 qd3 qd4 qo qoa qe qh m : Nat, ∀ ws : List Nat, ∀ o : Nat, base ≤ x → M0 x = none → (∀ q ∈ [qt, qta, qx, qxa, qp, qpa, ql, qr, qi, qf, qs, qd, qd1, qd2, qd3, qd4, qo, qoa, qe, qh], base ≤ q ∧ M0 q = none) → [x, qt, qta, qx, qxa, qp, qpa, ql, qr, qi, qf, qs, qd, qd1, qd2, qd3, qd4, qo, qoa, qe, qh].Nodup → base ≤ m → rfM M0 x qt qta qx qxa qp qpa ql qr qi qf qs qd qd1 qd2 qd3 qd4 qo qoa qe qh m = none → ws.length = 138 → moFresh base (rfM M0 x qt qta qx qxa qp qpa ql qr qi qf qs qd qd1 qd2 qd3 qd4 qo qoa qe qh) m [] ws → base ≤ o → pm_up (pm_ups (rfM M0 x qt qta qx qxa qp qpa ql qr qi qf qs qd qd1 qd2 qd3 qd4 qo qoa qe qh) (moCells moTab ws)) m (.inr (12, moL (moFs moF0 moTab ws))) o = none → Inv x m o N (pm_up (pm_up (pm_ups (rfM M0 x qt qta qx qxa qp qpa ql qr qi qf qs qd qd1 qd2 qd3 qd4 qo qoa qe qh) (moCells moTab ws)) m (.inr (12, moL (moFs moF0 moTab ws)))) o (.inl (.long, 1, .inr (.inl fun _ => 0)))) (kc - 161) (ks - 508620)) :
    kP_La_law base sa [.ref b] M0 kc ks (fun v _ _ _ => v = some (.int 1)) := by
  refine ⟨Nat.le_of_ble_eq_true rfl, fun G hG => ?_⟩
  refine pg_new hG rfl rfl (by omega) (by show 20 ≤ ks; omega) (fun x hx hbx => ?_)
  refine pgc hG rfl rfl rfl ?_
  refine pg_cal hG 1 rfl rfl (Nat.le_of_ble_eq_true rfl) (by decide) (Nat.le_of_ble_eq_true rfl) ?_
  refine pm_rcv_of (As' := []) (pm_up_self _ _ _) (s_Rf_init base sa hbx (by omega) (by show 1384 ≤ ks - 20; omega) ?_)
  intro qt qta qx qxa qp qpa ql qr qi qf qs qd qd1 qd2 qd3 qd4 qo qoa qe qh hq hnd
  refine pgc hG rfl rfl (Nat.le_of_ble_eq_true rfl) ?_
  refine pg_new hG rfl rfl (by omega) (by show 166 ≤ ks - 20 - 1384; omega) (fun m hm hbm => ?_)
  refine pgc hG rfl rfl rfl ?_
  refine pg_cal hG 1 rfl rfl (Nat.le_of_ble_eq_true rfl) (by decide) (Nat.le_of_ble_eq_true rfl) ?_
  refine pm_rcv_of (As' := []) (pm_up_self _ _ _) (s_Mo_init base sa (F := moF0) hbm (by omega) (by show 507049 ≤ ks - 20 - 1384 - 166; omega) ?_)
  intro ws hwl hwf
  refine pgc hG rfl rfl (Nat.le_of_ble_eq_true rfl) ?_
  refine pgs hG rfl rfl ?_
  refine pg_nar hG (n := 1) rfl rfl (by decide) (by omega) (by show 1 ≤ ks - 20 - 1384 - 166 - 507049; omega) (fun o ho hbo => ?_)
  refine pgc hG rfl rfl (Nat.le_of_ble_eq_true rfl) ?_
  refine pgs hG rfl rfl ?_
  refine pgc hG rfl rfl (Nat.le_of_ble_eq_true rfl) ?_
  have h := hI x qt qta qx qxa qp qpa ql qr qi qf qs qd qd1 qd2 qd3 qd4 qo qoa qe qh m ws o hbx hx hq hnd hbm hm hwl hwf hbo ho
  refine pg_wb hG (kc' := kc - 161) (ks' := ks - 508620) (by omega) (by show ks - 508620 ≤ ks - 20 - 1384 - 166 - 507049 - 1; omega) ?_
  exact law_loop base sa hL (hS x m o) (hdrop x m o) (ob0 x m o) (ob1 x m o) (ob2 x m o) (ob3 x m o) (ob4 x m o) (ob5 x m o) (ob6 x m o) (ob7 x m o) (ob8 x m o) (ob9 x m o) (ob10 x m o) (ob11 x m o) (ob12 x m o) (ob13 x m o) (ob14 x m o) (ob15 x m o) (ob16 x m o) (ob17 x m o) (ob18 x m o) (fun _ _ _ _ _ => rfl) hG N 0 _ _ _ h (by omega) (by omega)
