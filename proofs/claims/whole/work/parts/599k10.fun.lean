/-! The model as functions, by program: sumOf .. wrap -/
noncomputable def M_sumOf_s38 (t : moS) (p1 : Int32) (p3 : Int32) (a4 : Int32) : Option ((Int32 × moS) ⊕ moS) := if a4 < (16 : Int32) then (Option.bind (M_secret t p1 a4) (fun x2 => (Option.bind (wrI t 157 (p3 + a4) x2) (fun s3 => ((some (.inl ((a4 + (1 : Int32)), s3)))))))) else ((xo (Option.bind (M_digest t (p3 + (16 : Int32)) (0 : Int32)) (fun s1 => ((some s1))))))
noncomputable def M_sumOf_b38 (t : moS) (p1 : Int32) (p3 : Int32) (a4 : Int32) : Option moS := lp (fun x => M_sumOf_s38 x.2 p1 p3 x.1) (a4, t)
noncomputable def M_sumOf_s12 (t : moS) (p1 : Int32) (p2 : Nat) (p3 : Int32) (a4 : Int32) : Option ((Int32 × moS) ⊕ moS) := if a4 < p3 then (Option.bind (rdI t p2 a4) (fun x1 => (Option.bind (wrI t 157 a4 x1) (fun s2 => ((some (.inl ((a4 + (1 : Int32)), s2)))))))) else ((xo ((M_sumOf_b38 t p1 p3 (0 : Int32)))))
noncomputable def M_sumOf_b12 (t : moS) (p1 : Int32) (p2 : Nat) (p3 : Int32) (a4 : Int32) : Option moS := lp (fun x => M_sumOf_s12 x.2 p1 p2 p3 x.1) (a4, t)
noncomputable def M_sumOf_s184 (t : moS) (a4 : Int32) : Option ((Int32 × moS) ⊕ moS) := if a4 < (20 : Int32) then (Option.bind (rdI t 160 a4) (fun x2 => (Option.bind (wrI t 157 ((64 : Int32) + a4) x2) (fun s3 => ((some (.inl ((a4 + (1 : Int32)), s3)))))))) else ((xo (Option.bind (M_digest t (84 : Int32) (1 : Int32)) (fun s1 => ((some s1))))))
noncomputable def M_sumOf_b184 (t : moS) (a4 : Int32) : Option moS := lp (fun x => M_sumOf_s184 x.2 x.1) (a4, t)
noncomputable def M_sumOf_s151 (t : moS) (p1 : Int32) (a4 : Int32) : Option ((Int32 × moS) ⊕ moS) := if a4 < (64 : Int32) then (Option.bind (M_secret t p1 a4) (fun x1 => (Option.bind (wrI t 157 a4 (x1 ^^^ (92 : Int32))) (fun s2 => ((some (.inl ((a4 + (1 : Int32)), s2)))))))) else ((xo ((M_sumOf_b184 t (0 : Int32)))))
noncomputable def M_sumOf_b151 (t : moS) (p1 : Int32) (a4 : Int32) : Option moS := lp (fun x => M_sumOf_s151 x.2 p1 x.1) (a4, t)
noncomputable def M_sumOf_s113 (t : moS) (p1 : Int32) (p2 : Nat) (p3 : Int32) (a4 : Int32) : Option ((Int32 × moS) ⊕ moS) := if a4 < p3 then (Option.bind (rdI t p2 a4) (fun x2 => (Option.bind (wrI t 157 ((64 : Int32) + a4) x2) (fun s3 => ((some (.inl ((a4 + (1 : Int32)), s3)))))))) else ((xo (Option.bind (M_digest t ((64 : Int32) + p3) (1 : Int32)) (fun s1 => ((M_sumOf_b151 s1 p1 (0 : Int32)))))))
noncomputable def M_sumOf_b113 (t : moS) (p1 : Int32) (p2 : Nat) (p3 : Int32) (a4 : Int32) : Option moS := lp (fun x => M_sumOf_s113 x.2 p1 p2 p3 x.1) (a4, t)
noncomputable def M_sumOf_s80 (t : moS) (p1 : Int32) (p2 : Nat) (p3 : Int32) (a4 : Int32) : Option ((Int32 × moS) ⊕ moS) := if a4 < (64 : Int32) then (Option.bind (M_secret t p1 a4) (fun x1 => (Option.bind (wrI t 157 a4 (x1 ^^^ (54 : Int32))) (fun s2 => ((some (.inl ((a4 + (1 : Int32)), s2)))))))) else ((xo ((M_sumOf_b113 t p1 p2 p3 (0 : Int32)))))
noncomputable def M_sumOf_b80 (t : moS) (p1 : Int32) (p2 : Nat) (p3 : Int32) (a4 : Int32) : Option moS := lp (fun x => M_sumOf_s80 x.2 p1 p2 p3 x.1) (a4, t)
noncomputable def M_sumOf (t : moS) (p1 : Int32) (p2 : Nat) (p3 : Int32) : Option moS := Option.bind (rdI t 84 p1) (fun x1 => (if x1 = 0 then ((M_sumOf_b12 t p1 p2 p3 (0 : Int32))) else ((M_sumOf_b80 t p1 p2 p3 (0 : Int32)))))
set_option maxRecDepth 100000 in
set_option maxHeartbeats 4000000 in
theorem k_sumOf (base : Nat) (sa : Nat → Nat) {C : Nat × Nat} {R : pmM} {m : Nat} {q : Nat → Nat} {t tz : moS} {kc ks : Nat} {Rt : pmR} {p1 : Int32} {p2 : Nat} {p3 : Int32} (kp2 : Nat.ble (p2 + 1) 166 = true) (dp2 : moKd p2 = 2) (hw : mW C R base m q t kc ks) (h : M_sumOf t p1 p2 p3 = (some tz)) (k : mW C R base m q tz kc ks → Rt none (moM R m q tz) kc ks) : kP_Mo_sumOf base sa [.ref m, .int p1, .ref (q p2), .int p3] (moM R m q t) kc ks Rt := by
  refine ⟨Nat.le_of_ble_eq_true rfl, fun G hG => ?_⟩
  have b38 : ∀ (n : Nat) (a4 : Int32) (t : moS), JJ C R base m G 38 [(0, .ref m), (1, .int p1), (3, .int p3), (4, .int a4)] [] q t kc ks (lpN (fun x => M_sumOf_s38 x.2 p1 p3 x.1) n (a4, t)) (some tz) := by
    intro n
    induction n with
    | zero => intro a4 t; exact jj_lp0
    | succ n ih38 =>
      intro a4 t
      refine jj_lpS (fun y38 c38 => ?_)
      refine (show JJ C R base m G 38 [(0, .ref m), (1, .int p1), (3, .int p3), (4, .int a4)] [] q t kc ks (M_sumOf_s38 t p1 p3 a4) (some y38) from ?_)
      refine jjs hG rfl rfl ?_
      refine jj_bi hG rfl cc_b16 ?_
      refine jj_ige hG (t := 67) rfl rfl ?_ ?_
      · refine jj_exit c38 ?_
        refine jjs hG rfl rfl ?_
        refine jjs hG rfl rfl ?_
        refine jj_bi hG rfl cc_b16 ?_
        refine jjs hG rfl rfl ?_
        refine jj_ic hG rfl cc_i0 ?_
        refine jj_cv hG 0 rfl rfl (Nat.le_of_ble_eq_true rfl) (by decide) (Nat.le_of_ble_eq_true rfl) rfl (st' := []) rfl (fun _ _ hw h k => pm_rcv_of moM_m (k_digest base sa hw h k)) (fun s1 => ?_)
        exact jj_rvS hG rfl rfl (k)
      refine jjs hG rfl rfl ?_
      refine jj_gr hG (k := 157) rfl rfl rfl rfl ?_
      refine jjs hG rfl rfl ?_
      refine jjs hG rfl rfl ?_
      refine jjs hG rfl rfl ?_
      refine jjs hG rfl rfl ?_
      refine jjs hG rfl rfl ?_
      refine jjs hG rfl rfl ?_
      refine jj_cp hG 0 rfl rfl (Nat.le_of_ble_eq_true rfl) (by decide) (Nat.le_of_ble_eq_true rfl) rfl (st' := [.int (p3 + a4), .ref (q 157)]) rfl (w := .int) (fun _ _ hw h k => pm_rcv_of moM_m (k_secret base sa hw h k)) (fun x2 => ?_)
      refine jj_is hG (k := 157) rfl rfl rfl (fun s3 => ?_)
      refine jj_inc hG rfl (Nat.le_of_ble_eq_true rfl) rfl cc_i1 ?_
      refine jj_go hG (t := 38) rfl rfl ?_
      exact jj_back c38 (jj_wl hG [1, 2, 3, 0] rfl (ih38 _ _))
  have b12 : ∀ (n : Nat) (a4 : Int32) (t : moS), JJ C R base m G 12 [(0, .ref m), (1, .int p1), (2, .ref (q p2)), (3, .int p3), (4, .int a4)] [] q t kc ks (lpN (fun x => M_sumOf_s12 x.2 p1 p2 p3 x.1) n (a4, t)) (some tz) := by
    intro n
    induction n with
    | zero => intro a4 t; exact jj_lp0
    | succ n ih12 =>
      intro a4 t
      refine jj_lpS (fun y12 c12 => ?_)
      refine (show JJ C R base m G 12 [(0, .ref m), (1, .int p1), (2, .ref (q p2)), (3, .int p3), (4, .int a4)] [] q t kc ks (M_sumOf_s12 t p1 p2 p3 a4) (some y12) from ?_)
      refine jjs hG rfl rfl ?_
      refine jjs hG rfl rfl ?_
      refine jj_ige hG (t := 35) rfl rfl ?_ ?_
      · refine jj_exit c12 ?_
        refine jj_ic hG rfl cc_i0 ?_
        refine jjc hG rfl rfl (Nat.le_of_ble_eq_true rfl) ?_
        refine jj_lp (fun n => ?_)
        exact jj_wl hG [1, 2, 4, 0] rfl (b38 n _ _)
      refine jjs hG rfl rfl ?_
      refine jj_gr hG (k := 157) rfl rfl rfl rfl ?_
      refine jjs hG rfl rfl ?_
      refine jjs hG rfl rfl ?_
      refine jjs hG rfl rfl ?_
      refine jj_ia hG (k := p2) rfl kp2 dp2 (fun x1 => ?_)
      refine jj_is hG (k := 157) rfl rfl rfl (fun s2 => ?_)
      refine jj_inc hG rfl (Nat.le_of_ble_eq_true rfl) rfl cc_i1 ?_
      refine jj_go hG (t := 12) rfl rfl ?_
      exact jj_back c12 (jj_wl hG [1, 2, 3, 4, 0] rfl (ih12 _ _))
  have b184 : ∀ (n : Nat) (a4 : Int32) (t : moS), JJ C R base m G 184 [(0, .ref m), (4, .int a4)] [] q t kc ks (lpN (fun x => M_sumOf_s184 x.2 x.1) n (a4, t)) (some tz) := by
    intro n
    induction n with
    | zero => intro a4 t; exact jj_lp0
    | succ n ih184 =>
      intro a4 t
      refine jj_lpS (fun y184 c184 => ?_)
      refine (show JJ C R base m G 184 [(0, .ref m), (4, .int a4)] [] q t kc ks (M_sumOf_s184 t a4) (some y184) from ?_)
      refine jjs hG rfl rfl ?_
      refine jj_bi hG rfl cc_b20 ?_
      refine jj_ige hG (t := 214) rfl rfl ?_ ?_
      · refine jj_exit c184 ?_
        refine jjs hG rfl rfl ?_
        refine jj_bi hG rfl cc_b84 ?_
        refine jj_ic hG rfl cc_i1 ?_
        refine jj_cv hG 0 rfl rfl (Nat.le_of_ble_eq_true rfl) (by decide) (Nat.le_of_ble_eq_true rfl) rfl (st' := []) rfl (fun _ _ hw h k => pm_rcv_of moM_m (k_digest base sa hw h k)) (fun s1 => ?_)
        exact jj_rvS hG rfl rfl (k)
      refine jjs hG rfl rfl ?_
      refine jj_gr hG (k := 157) rfl rfl rfl rfl ?_
      refine jj_bi hG rfl cc_b64 ?_
      refine jjs hG rfl rfl ?_
      refine jjs hG rfl rfl ?_
      refine jjs hG rfl rfl ?_
      refine jj_gr hG (k := 160) rfl rfl rfl rfl ?_
      refine jjs hG rfl rfl ?_
      refine jj_ia hG (k := 160) rfl rfl rfl (fun x2 => ?_)
      refine jj_is hG (k := 157) rfl rfl rfl (fun s3 => ?_)
      refine jj_inc hG rfl (Nat.le_of_ble_eq_true rfl) rfl cc_i1 ?_
      refine jj_go hG (t := 184) rfl rfl ?_
      exact jj_back c184 (jj_wl hG [1, 0] rfl (ih184 _ _))
  have b151 : ∀ (n : Nat) (a4 : Int32) (t : moS), JJ C R base m G 151 [(0, .ref m), (1, .int p1), (4, .int a4)] [] q t kc ks (lpN (fun x => M_sumOf_s151 x.2 p1 x.1) n (a4, t)) (some tz) := by
    intro n
    induction n with
    | zero => intro a4 t; exact jj_lp0
    | succ n ih151 =>
      intro a4 t
      refine jj_lpS (fun y151 c151 => ?_)
      refine (show JJ C R base m G 151 [(0, .ref m), (1, .int p1), (4, .int a4)] [] q t kc ks (M_sumOf_s151 t p1 a4) (some y151) from ?_)
      refine jjs hG rfl rfl ?_
      refine jj_bi hG rfl cc_b64 ?_
      refine jj_ige hG (t := 181) rfl rfl ?_ ?_
      · refine jj_exit c151 ?_
        refine jj_ic hG rfl cc_i0 ?_
        refine jjc hG rfl rfl (Nat.le_of_ble_eq_true rfl) ?_
        refine jj_lp (fun n => ?_)
        exact jj_wl hG [1, 0] rfl (b184 n _ _)
      refine jjs hG rfl rfl ?_
      refine jj_gr hG (k := 157) rfl rfl rfl rfl ?_
      refine jjs hG rfl rfl ?_
      refine jjs hG rfl rfl ?_
      refine jjs hG rfl rfl ?_
      refine jjs hG rfl rfl ?_
      refine jj_cp hG 0 rfl rfl (Nat.le_of_ble_eq_true rfl) (by decide) (Nat.le_of_ble_eq_true rfl) rfl (st' := [.int a4, .ref (q 157)]) rfl (w := .int) (fun _ _ hw h k => pm_rcv_of moM_m (k_secret base sa hw h k)) (fun x1 => ?_)
      refine jj_bi hG rfl cc_b92 ?_
      refine jjs hG rfl rfl ?_
      refine jj_is hG (k := 157) rfl rfl rfl (fun s2 => ?_)
      refine jj_inc hG rfl (Nat.le_of_ble_eq_true rfl) rfl cc_i1 ?_
      refine jj_go hG (t := 151) rfl rfl ?_
      exact jj_back c151 (jj_wl hG [1, 2, 0] rfl (ih151 _ _))
  have b113 : ∀ (n : Nat) (a4 : Int32) (t : moS), JJ C R base m G 113 [(0, .ref m), (1, .int p1), (2, .ref (q p2)), (3, .int p3), (4, .int a4)] [] q t kc ks (lpN (fun x => M_sumOf_s113 x.2 p1 p2 p3 x.1) n (a4, t)) (some tz) := by
    intro n
    induction n with
    | zero => intro a4 t; exact jj_lp0
    | succ n ih113 =>
      intro a4 t
      refine jj_lpS (fun y113 c113 => ?_)
      refine (show JJ C R base m G 113 [(0, .ref m), (1, .int p1), (2, .ref (q p2)), (3, .int p3), (4, .int a4)] [] q t kc ks (M_sumOf_s113 t p1 p2 p3 a4) (some y113) from ?_)
      refine jjs hG rfl rfl ?_
      refine jjs hG rfl rfl ?_
      refine jj_ige hG (t := 139) rfl rfl ?_ ?_
      · refine jj_exit c113 ?_
        refine jjs hG rfl rfl ?_
        refine jj_bi hG rfl cc_b64 ?_
        refine jjs hG rfl rfl ?_
        refine jjs hG rfl rfl ?_
        refine jj_ic hG rfl cc_i1 ?_
        refine jj_cv hG 0 rfl rfl (Nat.le_of_ble_eq_true rfl) (by decide) (Nat.le_of_ble_eq_true rfl) rfl (st' := []) rfl (fun _ _ hw h k => pm_rcv_of moM_m (k_digest base sa hw h k)) (fun s1 => ?_)
        refine jj_ic hG rfl cc_i0 ?_
        refine jjc hG rfl rfl (Nat.le_of_ble_eq_true rfl) ?_
        refine jj_lp (fun n => ?_)
        exact jj_wl hG [1, 2, 0] rfl (b151 n _ _)
      refine jjs hG rfl rfl ?_
      refine jj_gr hG (k := 157) rfl rfl rfl rfl ?_
      refine jj_bi hG rfl cc_b64 ?_
      refine jjs hG rfl rfl ?_
      refine jjs hG rfl rfl ?_
      refine jjs hG rfl rfl ?_
      refine jjs hG rfl rfl ?_
      refine jj_ia hG (k := p2) rfl kp2 dp2 (fun x2 => ?_)
      refine jj_is hG (k := 157) rfl rfl rfl (fun s3 => ?_)
      refine jj_inc hG rfl (Nat.le_of_ble_eq_true rfl) rfl cc_i1 ?_
      refine jj_go hG (t := 113) rfl rfl ?_
      exact jj_back c113 (jj_wl hG [1, 2, 3, 4, 0] rfl (ih113 _ _))
  have b80 : ∀ (n : Nat) (a4 : Int32) (t : moS), JJ C R base m G 80 [(0, .ref m), (1, .int p1), (2, .ref (q p2)), (3, .int p3), (4, .int a4)] [] q t kc ks (lpN (fun x => M_sumOf_s80 x.2 p1 p2 p3 x.1) n (a4, t)) (some tz) := by
    intro n
    induction n with
    | zero => intro a4 t; exact jj_lp0
    | succ n ih80 =>
      intro a4 t
      refine jj_lpS (fun y80 c80 => ?_)
      refine (show JJ C R base m G 80 [(0, .ref m), (1, .int p1), (2, .ref (q p2)), (3, .int p3), (4, .int a4)] [] q t kc ks (M_sumOf_s80 t p1 p2 p3 a4) (some y80) from ?_)
      refine jjs hG rfl rfl ?_
      refine jj_bi hG rfl cc_b64 ?_
      refine jj_ige hG (t := 110) rfl rfl ?_ ?_
      · refine jj_exit c80 ?_
        refine jj_ic hG rfl cc_i0 ?_
        refine jjc hG rfl rfl (Nat.le_of_ble_eq_true rfl) ?_
        refine jj_lp (fun n => ?_)
        exact jj_wl hG [1, 2, 3, 4, 0] rfl (b113 n _ _)
      refine jjs hG rfl rfl ?_
      refine jj_gr hG (k := 157) rfl rfl rfl rfl ?_
      refine jjs hG rfl rfl ?_
      refine jjs hG rfl rfl ?_
      refine jjs hG rfl rfl ?_
      refine jjs hG rfl rfl ?_
      refine jj_cp hG 0 rfl rfl (Nat.le_of_ble_eq_true rfl) (by decide) (Nat.le_of_ble_eq_true rfl) rfl (st' := [.int a4, .ref (q 157)]) rfl (w := .int) (fun _ _ hw h k => pm_rcv_of moM_m (k_secret base sa hw h k)) (fun x1 => ?_)
      refine jj_bi hG rfl cc_b54 ?_
      refine jjs hG rfl rfl ?_
      refine jj_is hG (k := 157) rfl rfl rfl (fun s2 => ?_)
      refine jj_inc hG rfl (Nat.le_of_ble_eq_true rfl) rfl cc_i1 ?_
      refine jj_go hG (t := 80) rfl rfl ?_
      exact jj_back c80 (jj_wl hG [1, 2, 3, 4, 0] rfl (ih80 _ _))
  refine (show JJ C R base m G 0 [(0, .ref m), (1, .int p1), (2, .ref (q p2)), (3, .int p3)] [] q t kc ks (M_sumOf t p1 p2 p3) (some tz) from ?_) hw h
  refine jjs hG rfl rfl ?_
  refine jj_gr hG (k := 84) rfl rfl rfl rfl ?_
  refine jjs hG rfl rfl ?_
  refine jj_ba hG (k := 84) rfl rfl rfl (fun x1 => ?_)
  refine jj_zne hG (t := 77) rfl rfl ?_ ?_
  · refine jj_ic hG rfl cc_i0 ?_
    refine jjc hG rfl rfl (Nat.le_of_ble_eq_true rfl) ?_
    refine jj_lp (fun n => ?_)
    exact jj_wl hG [1, 2, 3, 4, 0] rfl (b80 n _ _)
  refine jj_ic hG rfl cc_i0 ?_
  refine jjc hG rfl rfl (Nat.le_of_ble_eq_true rfl) ?_
  refine jj_lp (fun n => ?_)
  exact jj_wl hG [1, 2, 3, 4, 0] rfl (b12 n _ _)
noncomputable def M_wrap_b438 (t : moS) (u1 : Int32) (u2 : Int32) : Option (Int32 × moS) := letS (moSS t 148 (u1 + u2)) (fun s1 => ((some ((1 : Int32), s1))))
noncomputable def M_wrap_s382 (t : moS) (a6 : Int32) (a7 : Int32) (a8 : Int32) : Option ((Int32 × moS) ⊕ (Int32 × moS)) := if a8 < a7 then (Option.bind (rdI t 160 a8) (fun x2 => (Option.bind (wrI t 147 (((moS.S t 148) + (4 : Int32)) + a8) x2) (fun s3 => ((some (.inl ((a8 + (1 : Int32)), s3)))))))) else ((xo (Option.bind (rdI t 84 a6) (fun x1 => (if x1 = 0 then ((M_wrap_b438 t (moS.S t 148) (20 : Int32))) else ((M_wrap_b438 t (moS.S t 148) (40 : Int32))))))))
noncomputable def M_wrap_b382 (t : moS) (a6 : Int32) (a7 : Int32) (a8 : Int32) : Option (Int32 × moS) := lp (fun x => M_wrap_s382 x.2 a6 a7 x.1) (a8, t)
noncomputable def M_wrap_b268 (t : moS) (p1 : Int32) (a6 : Int32) (u0 : Int32) : Option (Int32 × moS) := Option.bind (M_put2 t 147 (8 : Int32) (moS.S t 148)) (fun s1 => (Option.bind (rdI s1 83 a6) (fun x2 => (Option.bind (wrI s1 147 (10 : Int32) x2) (fun s3 => (Option.bind (wrI s3 147 (11 : Int32) u0) (fun s4 => (Option.bind (rdI s4 89 p1) (fun x5 => (Option.bind (M_put4 s4 147 (12 : Int32) x5) (fun s6 => (Option.bind (rdI s6 89 p1) (fun x7 => (Option.bind (wrI s6 89 p1 (x7 + (1 : Int32))) (fun s8 => (Option.bind (M_put2 s8 147 (moS.S s8 148) (65535 : Int32)) (fun s9 => (Option.bind (M_put2 s9 147 ((moS.S s9 148) + (2 : Int32)) (1 : Int32)) (fun s10 => (Option.bind (M_sumOf s10 a6 147 ((moS.S s10 148) + (4 : Int32))) (fun s11 => ((M_wrap_b382 s11 a6 u0 (0 : Int32))))))))))))))))))))))))
noncomputable def M_wrap_s194 (t : moS) (p1 : Int32) (p4 : Int32) (a5 : Int32) (a6 : Int32) (a7 : Int32) : Option ((Int32 × moS) ⊕ (Int32 × moS)) := if a7 < ((20 : Int32) * p4) then (Option.bind (rdI t 146 a7) (fun x3 => (Option.bind (wrI t 147 ((moS.S t 148) + a7) x3) (fun s4 => ((some (.inl ((a7 + (1 : Int32)), s4)))))))) else ((xo (letS (moSS t 148 ((moS.S t 148) + ((20 : Int32) * p4))) (fun s1 => (if a5 < (2 : Int32) then ((some ((1 : Int32), s1))) else (Option.bind (rdI s1 84 a6) (fun x2 => (if x2 = 0 then ((M_wrap_b268 s1 p1 a6 (16 : Int32))) else ((M_wrap_b268 s1 p1 a6 (20 : Int32)))))))))))
noncomputable def M_wrap_b194 (t : moS) (p1 : Int32) (p4 : Int32) (a5 : Int32) (a6 : Int32) (a7 : Int32) : Option (Int32 × moS) := lp (fun x => M_wrap_s194 x.2 p1 p4 a5 a6 x.1) (a7, t)
noncomputable def M_wrap_b191 (t : moS) (p1 : Int32) (p4 : Int32) (a5 : Int32) (a6 : Int32) : Option (Int32 × moS) := (M_wrap_b194 t p1 p4 a5 a6 (0 : Int32))
noncomputable def M_wrap_s152 (t : moS) (p1 : Int32) (p4 : Int32) (a5 : Int32) (a6 : Int32) (a7 : Int32) : Option ((Int32 × moS) ⊕ (Int32 × moS)) := Option.bind (rdI t 80 p1) (fun x1 => (if a7 < x1 then (Option.bind (rdI t 81 (((16 : Int32) * p1) + a7)) (fun x2 => (Option.bind (wrI t 147 ((8 : Int32) + a7) x2) (fun s3 => ((some (.inl ((a7 + (1 : Int32)), s3)))))))) else ((xo (M_wrap_b191 t p1 p4 a5 a6)))))
noncomputable def M_wrap_b152 (t : moS) (p1 : Int32) (p4 : Int32) (a5 : Int32) (a6 : Int32) (a7 : Int32) : Option (Int32 × moS) := lp (fun x => M_wrap_s152 x.2 p1 p4 a5 a6 x.1) (a7, t)
noncomputable def M_wrap_b143 (t : moS) (p1 : Int32) (p4 : Int32) (a5 : Int32) (a6 : Int32) : Option (Int32 × moS) := if a5 = (1 : Int32) then ((M_wrap_b152 t p1 p4 a5 a6 (0 : Int32))) else ((M_wrap_b191 t p1 p4 a5 a6))
noncomputable def M_wrap_b134 (t : moS) (p1 : Int32) (p4 : Int32) (a5 : Int32) (a6 : Int32) (u2 : Int32) (u3 : Int32) : Option (Int32 × moS) := Option.bind (M_put2 t 147 u2 u3) (fun s1 => (letS (moSS s1 148 (24 : Int32)) (fun s2 => ((M_wrap_b143 s2 p1 p4 a5 a6)))))
noncomputable def M_wrap_b99 (t : moS) (p1 : Int32) (p4 : Int32) (a5 : Int32) (a6 : Int32) : Option (Int32 × moS) := if 0 < a5 then (Option.bind (M_put2 t 147 (4 : Int32) (65535 : Int32)) (fun s1 => (if a5 = (1 : Int32) then ((M_wrap_b134 s1 p1 p4 a5 a6 (6 : Int32) (2 : Int32))) else ((M_wrap_b134 s1 p1 p4 a5 a6 (6 : Int32) (3 : Int32)))))) else ((M_wrap_b143 t p1 p4 a5 a6))
noncomputable def M_wrap_b83 (t : moS) (p1 : Int32) (p4 : Int32) (a5 : Int32) (u0 : Int32) : Option (Int32 × moS) := if a5 = (2 : Int32) then (if u0 = ((-1) : Int32) then ((some ((0 : Int32), t))) else ((M_wrap_b99 t p1 p4 a5 u0))) else ((M_wrap_b99 t p1 p4 a5 u0))
noncomputable def M_wrap_b66 (t : moS) (p1 : Int32) (p4 : Int32) (u0 : Int32) : Option (Int32 × moS) := if u0 = (2 : Int32) then (Option.bind (M_bornKey t p1) (fun x1 => ((M_wrap_b83 t p1 p4 u0 x1)))) else ((M_wrap_b83 t p1 p4 u0 ((-1) : Int32)))
noncomputable def M_wrap_b46 (t : moS) (p1 : Int32) (p2 : Int32) (p4 : Int32) (u1 : Int32) (u2 : Int32) : Option (Int32 × moS) := Option.bind (wrI t 147 u1 u2) (fun s1 => (letS (moSS s1 148 (4 : Int32)) (fun s2 => (if p2 = 0 then (Option.bind (rdI s2 79 p1) (fun x3 => ((M_wrap_b66 s2 p1 p4 x3)))) else ((M_wrap_b66 s2 p1 p4 (0 : Int32)))))))
noncomputable def M_wrap_s3 (t : moS) (p1 : Int32) (p2 : Int32) (p3 : Int32) (p4 : Int32) (a5 : Int32) : Option ((Int32 × moS) ⊕ (Int32 × moS)) := if a5 < (700 : Int32) then (Option.bind (wrI t 147 a5 (0 : Int32)) (fun s2 => ((some (.inl ((a5 + (1 : Int32)), s2)))))) else ((xo (Option.bind (wrI t 147 (0 : Int32) p3) (fun s1 => (if p2 = 0 then ((M_wrap_b46 s1 p1 p2 p4 (1 : Int32) (2 : Int32))) else ((M_wrap_b46 s1 p1 p2 p4 (1 : Int32) (1 : Int32))))))))
noncomputable def M_wrap_b3 (t : moS) (p1 : Int32) (p2 : Int32) (p3 : Int32) (p4 : Int32) (a5 : Int32) : Option (Int32 × moS) := lp (fun x => M_wrap_s3 x.2 p1 p2 p3 p4 x.1) (a5, t)
noncomputable def M_wrap (t : moS) (p1 : Int32) (p2 : Int32) (p3 : Int32) (p4 : Int32) : Option (Int32 × moS) := (M_wrap_b3 t p1 p2 p3 p4 (0 : Int32))
set_option maxRecDepth 100000 in
set_option maxHeartbeats 4000000 in
theorem k_wrap (base : Nat) (sa : Nat → Nat) {C : Nat × Nat} {R : pmM} {m : Nat} {q : Nat → Nat} {t tz : moS} {kc ks : Nat} {Rt : pmR} {p1 : Int32} {p2 : Int32} {p3 : Int32} {p4 : Int32} {r : Int32} (hw : mW C R base m q t kc ks) (h : M_wrap t p1 p2 p3 p4 = (some (r, tz))) (k : mW C R base m q tz kc ks → Rt (some (.int r)) (moM R m q tz) kc ks) : kP_Mo_wrap base sa [.ref m, .int p1, .int p2, .int p3, .int p4] (moM R m q t) kc ks Rt := by
  refine ⟨Nat.le_of_ble_eq_true rfl, fun G hG => ?_⟩
  have b438 : ∀ (u1 : Int32) (u2 : Int32) (t : moS), JJ C R base m G 438 [] [.int u2, .int u1, .ref m] q t kc ks (M_wrap_b438 t u1 u2) (some (r, tz)) := by
    intro u1 u2 t
    refine jjs hG rfl rfl ?_
    refine jj_pi hG (k := 148) rfl rfl rfl rfl (fun s1 => ?_)
    refine jj_ic hG rfl cc_i1 ?_
    exact jj_riS hG rfl rfl rfl k
  have b382 : ∀ (a6 : Int32) (a7 : Int32) (n : Nat) (a8 : Int32) (t : moS), JJ C R base m G 382 [(0, .ref m), (6, .int a6), (7, .int a7), (8, .int a8)] [] q t kc ks (lpN (fun x => M_wrap_s382 x.2 a6 a7 x.1) n (a8, t)) (some (r, tz)) := by
    intro a6 a7 n
    induction n with
    | zero => intro a8 t; exact jj_lp0
    | succ n ih382 =>
      intro a8 t
      refine jj_lpS (fun y382 c382 => ?_)
      refine (show JJ C R base m G 382 [(0, .ref m), (6, .int a6), (7, .int a7), (8, .int a8)] [] q t kc ks (M_wrap_s382 t a6 a7 a8) (some y382) from ?_)
      refine jjs hG rfl rfl ?_
      refine jjs hG rfl rfl ?_
      refine jj_ige hG (t := 416) rfl rfl ?_ ?_
      · refine jj_exit c382 ?_
        refine jjs hG rfl rfl ?_
        refine jjc hG rfl rfl rfl ?_
        refine jj_gi hG (k := 148) rfl rfl rfl rfl ?_
        refine jjs hG rfl rfl ?_
        refine jj_gr hG (k := 84) rfl rfl rfl rfl ?_
        refine jjs hG rfl rfl ?_
        refine jj_ba hG (k := 84) rfl rfl rfl (fun x1 => ?_)
        refine jj_zeq hG (t := 436) rfl rfl ?_ ?_
        · refine jj_bi hG rfl cc_b20 ?_
          exact jj_wl hG [] rfl (b438 _ _ _)
        refine jj_bi hG rfl cc_b40 ?_
        refine jj_go hG (t := 438) rfl rfl ?_
        exact jj_wl hG [] rfl (b438 _ _ _)
      refine jjs hG rfl rfl ?_
      refine jj_gr hG (k := 147) rfl rfl rfl rfl ?_
      refine jjs hG rfl rfl ?_
      refine jj_gi hG (k := 148) rfl rfl rfl rfl ?_
      refine jj_ic hG rfl cc_i4 ?_
      refine jjs hG rfl rfl ?_
      refine jjs hG rfl rfl ?_
      refine jjs hG rfl rfl ?_
      refine jjs hG rfl rfl ?_
      refine jj_gr hG (k := 160) rfl rfl rfl rfl ?_
      refine jjs hG rfl rfl ?_
      refine jj_ia hG (k := 160) rfl rfl rfl (fun x2 => ?_)
      refine jj_is hG (k := 147) rfl rfl rfl (fun s3 => ?_)
      refine jj_inc hG rfl (Nat.le_of_ble_eq_true rfl) rfl cc_i1 ?_
      refine jj_go hG (t := 382) rfl rfl ?_
      exact jj_back c382 (jj_wl hG [1, 2, 3, 0] rfl (ih382 _ _))
  have b268 : ∀ (a6 : Int32) (u0 : Int32) (t : moS), JJ C R base m G 268 [(0, .ref m), (1, .int p1), (6, .int a6)] [.int u0] q t kc ks (M_wrap_b268 t p1 a6 u0) (some (r, tz)) := by
    intro a6 u0 t
    refine jjc hG rfl rfl (Nat.le_of_ble_eq_true rfl) ?_
    refine jjs hG rfl rfl ?_
    refine jjs hG rfl rfl ?_
    refine jj_gr hG (k := 147) rfl rfl rfl rfl ?_
    refine jj_bi hG rfl cc_b8 ?_
    refine jjs hG rfl rfl ?_
    refine jj_gi hG (k := 148) rfl rfl rfl rfl ?_
    refine jj_cv hG 0 rfl rfl (Nat.le_of_ble_eq_true rfl) (by decide) (Nat.le_of_ble_eq_true rfl) rfl (st' := []) rfl (fun _ _ hw h k => pm_rcv_of moM_m (k_put2 base sa rfl rfl hw h k)) (fun s1 => ?_)
    refine jjs hG rfl rfl ?_
    refine jj_gr hG (k := 147) rfl rfl rfl rfl ?_
    refine jj_bi hG rfl cc_b10 ?_
    refine jjs hG rfl rfl ?_
    refine jj_gr hG (k := 83) rfl rfl rfl rfl ?_
    refine jjs hG rfl rfl ?_
    refine jj_ia hG (k := 83) rfl rfl rfl (fun x2 => ?_)
    refine jj_is hG (k := 147) rfl rfl rfl (fun s3 => ?_)
    refine jjs hG rfl rfl ?_
    refine jj_gr hG (k := 147) rfl rfl rfl rfl ?_
    refine jj_bi hG rfl cc_b11 ?_
    refine jjs hG rfl rfl ?_
    refine jj_is hG (k := 147) rfl rfl rfl (fun s4 => ?_)
    refine jjs hG rfl rfl ?_
    refine jjs hG rfl rfl ?_
    refine jj_gr hG (k := 147) rfl rfl rfl rfl ?_
    refine jj_bi hG rfl cc_b12 ?_
    refine jjs hG rfl rfl ?_
    refine jj_gr hG (k := 89) rfl rfl rfl rfl ?_
    refine jjs hG rfl rfl ?_
    refine jj_ia hG (k := 89) rfl rfl rfl (fun x5 => ?_)
    refine jj_cv hG 0 rfl rfl (Nat.le_of_ble_eq_true rfl) (by decide) (Nat.le_of_ble_eq_true rfl) rfl (st' := []) rfl (fun _ _ hw h k => pm_rcv_of moM_m (k_put4 base sa rfl rfl hw h k)) (fun s6 => ?_)
    refine jjs hG rfl rfl ?_
    refine jj_gr hG (k := 89) rfl rfl rfl rfl ?_
    refine jjs hG rfl rfl ?_
    refine jjc2 hG rfl rfl rfl rfl ?_
    refine jj_ia hG (k := 89) rfl rfl rfl (fun x7 => ?_)
    refine jj_ic hG rfl cc_i1 ?_
    refine jjs hG rfl rfl ?_
    refine jj_is hG (k := 89) rfl rfl rfl (fun s8 => ?_)
    refine jjs hG rfl rfl ?_
    refine jjs hG rfl rfl ?_
    refine jj_gr hG (k := 147) rfl rfl rfl rfl ?_
    refine jjs hG rfl rfl ?_
    refine jj_gi hG (k := 148) rfl rfl rfl rfl ?_
    refine jj_lw hG (v := (65535 : Int32)) rfl rfl ?_
    refine jj_cv hG 0 rfl rfl (Nat.le_of_ble_eq_true rfl) (by decide) (Nat.le_of_ble_eq_true rfl) rfl (st' := []) rfl (fun _ _ hw h k => pm_rcv_of moM_m (k_put2 base sa rfl rfl hw h k)) (fun s9 => ?_)
    refine jjs hG rfl rfl ?_
    refine jjs hG rfl rfl ?_
    refine jj_gr hG (k := 147) rfl rfl rfl rfl ?_
    refine jjs hG rfl rfl ?_
    refine jj_gi hG (k := 148) rfl rfl rfl rfl ?_
    refine jj_ic hG rfl cc_i2 ?_
    refine jjs hG rfl rfl ?_
    refine jj_ic hG rfl cc_i1 ?_
    refine jj_cv hG 0 rfl rfl (Nat.le_of_ble_eq_true rfl) (by decide) (Nat.le_of_ble_eq_true rfl) rfl (st' := []) rfl (fun _ _ hw h k => pm_rcv_of moM_m (k_put2 base sa rfl rfl hw h k)) (fun s10 => ?_)
    refine jjs hG rfl rfl ?_
    refine jjs hG rfl rfl ?_
    refine jjs hG rfl rfl ?_
    refine jj_gr hG (k := 147) rfl rfl rfl rfl ?_
    refine jjs hG rfl rfl ?_
    refine jj_gi hG (k := 148) rfl rfl rfl rfl ?_
    refine jj_ic hG rfl cc_i4 ?_
    refine jjs hG rfl rfl ?_
    refine jj_cv hG 0 rfl rfl (Nat.le_of_ble_eq_true rfl) (by decide) (Nat.le_of_ble_eq_true rfl) rfl (st' := []) rfl (fun _ _ hw h k => pm_rcv_of moM_m (k_sumOf base sa rfl rfl hw h k)) (fun s11 => ?_)
    refine jj_ic hG rfl cc_i0 ?_
    refine jjc hG rfl rfl (Nat.le_of_ble_eq_true rfl) ?_
    refine jj_lp (fun n => ?_)
    exact jj_wl hG [2, 4, 1, 0] rfl (b382 _ _ n _ _)
  have b194 : ∀ (a5 : Int32) (a6 : Int32) (n : Nat) (a7 : Int32) (t : moS), JJ C R base m G 194 [(0, .ref m), (1, .int p1), (4, .int p4), (5, .int a5), (6, .int a6), (7, .int a7)] [] q t kc ks (lpN (fun x => M_wrap_s194 x.2 p1 p4 a5 a6 x.1) n (a7, t)) (some (r, tz)) := by
    intro a5 a6 n
    induction n with
    | zero => intro a7 t; exact jj_lp0
    | succ n ih194 =>
      intro a7 t
      refine jj_lpS (fun y194 c194 => ?_)
      refine (show JJ C R base m G 194 [(0, .ref m), (1, .int p1), (4, .int p4), (5, .int a5), (6, .int a6), (7, .int a7)] [] q t kc ks (M_wrap_s194 t p1 p4 a5 a6 a7) (some y194) from ?_)
      refine jjs hG rfl rfl ?_
      refine jj_bi hG rfl cc_b20 ?_
      refine jjs hG rfl rfl ?_
      refine jjs hG rfl rfl ?_
      refine jj_ige hG (t := 229) rfl rfl ?_ ?_
      · refine jj_exit c194 ?_
        refine jjs hG rfl rfl ?_
        refine jjc hG rfl rfl rfl ?_
        refine jj_gi hG (k := 148) rfl rfl rfl rfl ?_
        refine jj_bi hG rfl cc_b20 ?_
        refine jjs hG rfl rfl ?_
        refine jjs hG rfl rfl ?_
        refine jjs hG rfl rfl ?_
        refine jj_pi hG (k := 148) rfl rfl rfl rfl (fun s1 => ?_)
        refine jjs hG rfl rfl ?_
        refine jj_ic hG rfl cc_i2 ?_
        refine jj_ige hG (t := 251) rfl rfl ?_ ?_
        · refine jjs hG rfl rfl ?_
          refine jj_gr hG (k := 84) rfl rfl rfl rfl ?_
          refine jjs hG rfl rfl ?_
          refine jj_ba hG (k := 84) rfl rfl rfl (fun x2 => ?_)
          refine jj_zeq hG (t := 266) rfl rfl ?_ ?_
          · refine jj_bi hG rfl cc_b16 ?_
            exact jj_wl hG [0, 1, 4] rfl (b268 _ _ _)
          refine jj_bi hG rfl cc_b20 ?_
          refine jj_go hG (t := 268) rfl rfl ?_
          exact jj_wl hG [0, 1, 4] rfl (b268 _ _ _)
        refine jj_ic hG rfl cc_i1 ?_
        exact jj_riS hG rfl rfl rfl k
      refine jjs hG rfl rfl ?_
      refine jj_gr hG (k := 147) rfl rfl rfl rfl ?_
      refine jjs hG rfl rfl ?_
      refine jj_gi hG (k := 148) rfl rfl rfl rfl ?_
      refine jjs hG rfl rfl ?_
      refine jjs hG rfl rfl ?_
      refine jjs hG rfl rfl ?_
      refine jj_gr hG (k := 146) rfl rfl rfl rfl ?_
      refine jjs hG rfl rfl ?_
      refine jj_ia hG (k := 146) rfl rfl rfl (fun x3 => ?_)
      refine jj_is hG (k := 147) rfl rfl rfl (fun s4 => ?_)
      refine jj_inc hG rfl (Nat.le_of_ble_eq_true rfl) rfl cc_i1 ?_
      refine jj_go hG (t := 194) rfl rfl ?_
      exact jj_back c194 (jj_wl hG [1, 2, 3, 4, 5, 0] rfl (ih194 _ _))
  have b191 : ∀ (a5 : Int32) (a6 : Int32) (t : moS), JJ C R base m G 191 [(0, .ref m), (1, .int p1), (4, .int p4), (5, .int a5), (6, .int a6)] [] q t kc ks (M_wrap_b191 t p1 p4 a5 a6) (some (r, tz)) := by
    intro a5 a6 t
    refine jj_ic hG rfl cc_i0 ?_
    refine jjc hG rfl rfl (Nat.le_of_ble_eq_true rfl) ?_
    refine jj_lp (fun n => ?_)
    exact jj_wl hG [1, 2, 3, 4, 5, 0] rfl (b194 _ _ n _ _)
  have b152 : ∀ (a5 : Int32) (a6 : Int32) (n : Nat) (a7 : Int32) (t : moS), JJ C R base m G 152 [(0, .ref m), (1, .int p1), (4, .int p4), (5, .int a5), (6, .int a6), (7, .int a7)] [] q t kc ks (lpN (fun x => M_wrap_s152 x.2 p1 p4 a5 a6 x.1) n (a7, t)) (some (r, tz)) := by
    intro a5 a6 n
    induction n with
    | zero => intro a7 t; exact jj_lp0
    | succ n ih152 =>
      intro a7 t
      refine jj_lpS (fun y152 c152 => ?_)
      refine (show JJ C R base m G 152 [(0, .ref m), (1, .int p1), (4, .int p4), (5, .int a5), (6, .int a6), (7, .int a7)] [] q t kc ks (M_wrap_s152 t p1 p4 a5 a6 a7) (some y152) from ?_)
      refine jjs hG rfl rfl ?_
      refine jjs hG rfl rfl ?_
      refine jj_gr hG (k := 80) rfl rfl rfl rfl ?_
      refine jjs hG rfl rfl ?_
      refine jj_ia hG (k := 80) rfl rfl rfl (fun x1 => ?_)
      refine jj_ige hG (t := 191) rfl rfl ?_ ?_
      · refine jj_exit c152 ?_
        exact jj_wl hG [0, 1, 2, 3, 4] rfl (b191 _ _ _)
      refine jjs hG rfl rfl ?_
      refine jj_gr hG (k := 147) rfl rfl rfl rfl ?_
      refine jj_bi hG rfl cc_b8 ?_
      refine jjs hG rfl rfl ?_
      refine jjs hG rfl rfl ?_
      refine jjs hG rfl rfl ?_
      refine jj_gr hG (k := 81) rfl rfl rfl rfl ?_
      refine jj_bi hG rfl cc_b16 ?_
      refine jjs hG rfl rfl ?_
      refine jjs hG rfl rfl ?_
      refine jjs hG rfl rfl ?_
      refine jjs hG rfl rfl ?_
      refine jj_at (pc' := 183) rfl ?_
      refine jj_ia hG (k := 81) rfl rfl rfl (fun x2 => ?_)
      refine jj_is hG (k := 147) rfl rfl rfl (fun s3 => ?_)
      refine jj_inc hG rfl (Nat.le_of_ble_eq_true rfl) rfl cc_i1 ?_
      refine jj_go hG (t := 152) rfl rfl ?_
      exact jj_back c152 (jj_wl hG [1, 2, 3, 4, 5, 0] rfl (ih152 _ _))
  have b143 : ∀ (a5 : Int32) (a6 : Int32) (t : moS), JJ C R base m G 143 [(0, .ref m), (1, .int p1), (4, .int p4), (5, .int a5), (6, .int a6)] [] q t kc ks (M_wrap_b143 t p1 p4 a5 a6) (some (r, tz)) := by
    intro a5 a6 t
    refine jjs hG rfl rfl ?_
    refine jj_ic hG rfl cc_i1 ?_
    refine jj_ine hG (t := 191) rfl rfl ?_ ?_
    · exact jj_wl hG [0, 1, 2, 3, 4] rfl (b191 _ _ _)
    refine jj_ic hG rfl cc_i0 ?_
    refine jjc hG rfl rfl (Nat.le_of_ble_eq_true rfl) ?_
    refine jj_lp (fun n => ?_)
    exact jj_wl hG [1, 2, 3, 4, 5, 0] rfl (b152 _ _ n _ _)
  have b134 : ∀ (a5 : Int32) (a6 : Int32) (u2 : Int32) (u3 : Int32) (t : moS), JJ C R base m G 134 [(0, .ref m), (1, .int p1), (4, .int p4), (5, .int a5), (6, .int a6)] [.int u3, .int u2, .ref (q 147), .ref m] q t kc ks (M_wrap_b134 t p1 p4 a5 a6 u2 u3) (some (r, tz)) := by
    intro a5 a6 u2 u3 t
    refine jj_cv hG 0 rfl rfl (Nat.le_of_ble_eq_true rfl) (by decide) (Nat.le_of_ble_eq_true rfl) rfl (st' := []) rfl (fun _ _ hw h k => pm_rcv_of moM_m (k_put2 base sa rfl rfl hw h k)) (fun s1 => ?_)
    refine jjs hG rfl rfl ?_
    refine jj_bi hG rfl cc_b24 ?_
    refine jj_pi hG (k := 148) rfl rfl rfl rfl (fun s2 => ?_)
    exact jj_wl hG [0, 1, 2, 3, 4] rfl (b143 _ _ _)
  have b99 : ∀ (a5 : Int32) (a6 : Int32) (t : moS), JJ C R base m G 99 [(0, .ref m), (1, .int p1), (4, .int p4), (5, .int a5), (6, .int a6)] [] q t kc ks (M_wrap_b99 t p1 p4 a5 a6) (some (r, tz)) := by
    intro a5 a6 t
    refine jjs hG rfl rfl ?_
    refine jj_zle hG (t := 143) rfl rfl ?_ ?_
    · exact jj_wl hG [0, 1, 2, 3, 4] rfl (b143 _ _ _)
    refine jjs hG rfl rfl ?_
    refine jjs hG rfl rfl ?_
    refine jj_gr hG (k := 147) rfl rfl rfl rfl ?_
    refine jj_ic hG rfl cc_i4 ?_
    refine jj_lw hG (v := (65535 : Int32)) rfl rfl ?_
    refine jj_cv hG 0 rfl rfl (Nat.le_of_ble_eq_true rfl) (by decide) (Nat.le_of_ble_eq_true rfl) rfl (st' := []) rfl (fun _ _ hw h k => pm_rcv_of moM_m (k_put2 base sa rfl rfl hw h k)) (fun s1 => ?_)
    refine jjs hG rfl rfl ?_
    refine jjs hG rfl rfl ?_
    refine jj_gr hG (k := 147) rfl rfl rfl rfl ?_
    refine jj_bi hG rfl cc_b6 ?_
    refine jjs hG rfl rfl ?_
    refine jj_ic hG rfl cc_i1 ?_
    refine jj_ine hG (t := 133) rfl rfl ?_ ?_
    · refine jj_ic hG rfl cc_i3 ?_
      exact jj_wl hG [0, 1, 2, 3, 4] rfl (b134 _ _ _ _ _)
    refine jj_ic hG rfl cc_i2 ?_
    refine jj_go hG (t := 134) rfl rfl ?_
    exact jj_wl hG [0, 1, 2, 3, 4] rfl (b134 _ _ _ _ _)
  have b83 : ∀ (a5 : Int32) (u0 : Int32) (t : moS), JJ C R base m G 83 [(0, .ref m), (1, .int p1), (4, .int p4), (5, .int a5)] [.int u0] q t kc ks (M_wrap_b83 t p1 p4 a5 u0) (some (r, tz)) := by
    intro a5 u0 t
    refine jjc hG rfl rfl (Nat.le_of_ble_eq_true rfl) ?_
    refine jjs hG rfl rfl ?_
    refine jj_ic hG rfl cc_i2 ?_
    refine jj_ine hG (t := 99) rfl rfl ?_ ?_
    · exact jj_wl hG [1, 2, 3, 4, 0] rfl (b99 _ _ _)
    refine jjs hG rfl rfl ?_
    refine jj_ic hG rfl cc_im1 ?_
    refine jj_ine hG (t := 99) rfl rfl ?_ ?_
    · exact jj_wl hG [1, 2, 3, 4, 0] rfl (b99 _ _ _)
    refine jj_ic hG rfl cc_i0 ?_
    exact jj_riS hG rfl rfl rfl k
  have b66 : ∀ (u0 : Int32) (t : moS), JJ C R base m G 66 [(0, .ref m), (1, .int p1), (4, .int p4)] [.int u0] q t kc ks (M_wrap_b66 t p1 p4 u0) (some (r, tz)) := by
    intro u0 t
    refine jjc hG rfl rfl (Nat.le_of_ble_eq_true rfl) ?_
    refine jjs hG rfl rfl ?_
    refine jj_ic hG rfl cc_i2 ?_
    refine jj_ine hG (t := 82) rfl rfl ?_ ?_
    · refine jj_ic hG rfl cc_im1 ?_
      exact jj_wl hG [1, 2, 3, 0] rfl (b83 _ _ _)
    refine jjs hG rfl rfl ?_
    refine jjs hG rfl rfl ?_
    refine jj_cp hG 0 rfl rfl (Nat.le_of_ble_eq_true rfl) (by decide) (Nat.le_of_ble_eq_true rfl) rfl (st' := []) rfl (w := .int) (fun _ _ hw h k => pm_rcv_of moM_m (k_bornKey base sa hw h k)) (fun x1 => ?_)
    refine jj_go hG (t := 83) rfl rfl ?_
    exact jj_wl hG [1, 2, 3, 0] rfl (b83 _ _ _)
  have b46 : ∀ (u1 : Int32) (u2 : Int32) (t : moS), JJ C R base m G 46 [(0, .ref m), (1, .int p1), (2, .int p2), (4, .int p4)] [.int u2, .int u1, .ref (q 147)] q t kc ks (M_wrap_b46 t p1 p2 p4 u1 u2) (some (r, tz)) := by
    intro u1 u2 t
    refine jj_is hG (k := 147) rfl rfl rfl (fun s1 => ?_)
    refine jjs hG rfl rfl ?_
    refine jj_ic hG rfl cc_i4 ?_
    refine jj_pi hG (k := 148) rfl rfl rfl rfl (fun s2 => ?_)
    refine jjs hG rfl rfl ?_
    refine jj_zne hG (t := 65) rfl rfl ?_ ?_
    · refine jj_ic hG rfl cc_i0 ?_
      exact jj_wl hG [0, 1, 3] rfl (b66 _ _)
    refine jjs hG rfl rfl ?_
    refine jj_gr hG (k := 79) rfl rfl rfl rfl ?_
    refine jjs hG rfl rfl ?_
    refine jj_ia hG (k := 79) rfl rfl rfl (fun x3 => ?_)
    refine jj_go hG (t := 66) rfl rfl ?_
    exact jj_wl hG [0, 1, 3] rfl (b66 _ _)
  have b3 : ∀ (n : Nat) (a5 : Int32) (t : moS), JJ C R base m G 3 [(0, .ref m), (1, .int p1), (2, .int p2), (3, .int p3), (4, .int p4), (5, .int a5)] [] q t kc ks (lpN (fun x => M_wrap_s3 x.2 p1 p2 p3 p4 x.1) n (a5, t)) (some (r, tz)) := by
    intro n
    induction n with
    | zero => intro a5 t; exact jj_lp0
    | succ n ih3 =>
      intro a5 t
      refine jj_lpS (fun y3 c3 => ?_)
      refine (show JJ C R base m G 3 [(0, .ref m), (1, .int p1), (2, .int p2), (3, .int p3), (4, .int p4), (5, .int a5)] [] q t kc ks (M_wrap_s3 t p1 p2 p3 p4 a5) (some y3) from ?_)
      refine jjs hG rfl rfl ?_
      refine jj_si hG rfl cc_s700 ?_
      refine jj_ige hG (t := 25) rfl rfl ?_ ?_
      · refine jj_exit c3 ?_
        refine jjs hG rfl rfl ?_
        refine jj_gr hG (k := 147) rfl rfl rfl rfl ?_
        refine jj_ic hG rfl cc_i0 ?_
        refine jjs hG rfl rfl ?_
        refine jj_is hG (k := 147) rfl rfl rfl (fun s1 => ?_)
        refine jjs hG rfl rfl ?_
        refine jj_gr hG (k := 147) rfl rfl rfl rfl ?_
        refine jj_ic hG rfl cc_i1 ?_
        refine jjs hG rfl rfl ?_
        refine jj_zne hG (t := 45) rfl rfl ?_ ?_
        · refine jj_ic hG rfl cc_i1 ?_
          exact jj_wl hG [0, 1, 2, 4] rfl (b46 _ _ _)
        refine jj_ic hG rfl cc_i2 ?_
        refine jj_go hG (t := 46) rfl rfl ?_
        exact jj_wl hG [0, 1, 2, 4] rfl (b46 _ _ _)
      refine jjs hG rfl rfl ?_
      refine jj_gr hG (k := 147) rfl rfl rfl rfl ?_
      refine jjs hG rfl rfl ?_
      refine jj_ic hG rfl cc_i0 ?_
      refine jj_is hG (k := 147) rfl rfl rfl (fun s2 => ?_)
      refine jj_inc hG rfl (Nat.le_of_ble_eq_true rfl) rfl cc_i1 ?_
      refine jj_go hG (t := 3) rfl rfl ?_
      exact jj_back c3 (jj_wl hG [1, 2, 3, 4, 5, 0] rfl (ih3 _ _))
  refine (show JJ C R base m G 0 [(0, .ref m), (1, .int p1), (2, .int p2), (3, .int p3), (4, .int p4)] [] q t kc ks (M_wrap t p1 p2 p3 p4) (some (r, tz)) from ?_) hw h
  refine jj_ic hG rfl cc_i0 ?_
  refine jjc hG rfl rfl (Nat.le_of_ble_eq_true rfl) ?_
  refine jj_lp (fun n => ?_)
  exact jj_wl hG [1, 2, 3, 4, 5, 0] rfl (b3 n _ _)
