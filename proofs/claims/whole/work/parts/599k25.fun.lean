/-! The model as functions, by program: arrive .. ticks -/
noncomputable def M_arrive_b139 (t : moS) (p1 : Int32) (a2 : Int32) (a3 : Int32) (a4 : Int32) (a5 : Int32) (a6 : Int32) (a7 : Int64) (a9 : Int64) (a11 : Int64) (a13 : Int64) (a15 : Int32) (a16 : Int32) (a17 : Int32) (u1 : Int32) (u2 : Int32) : Option ((Int32 × moS) ⊕ moS) := Option.bind (wrI t 149 u1 u2) (fun s1 => ((some (.inl ((a17 + (1 : Int32)), s1)))))
noncomputable def M_arrive_b295 (t : moS) (a3 : Int32) (a4 : Int32) (a5 : Int32) (a6 : Int32) (a7 : Int64) (a9 : Int64) (a11 : Int64) (a13 : Int64) (a15 : Int32) (a16 : Int32) (a17 : Int32) : Option ((Int32 × moS) ⊕ moS) := (some (.inl ((a17 + (1 : Int32)), t)))
noncomputable def M_arrive_b273 (t : moS) (a3 : Int32) (a4 : Int32) (a5 : Int32) (a6 : Int32) (a7 : Int64) (a9 : Int64) (a11 : Int64) (a13 : Int64) (a15 : Int32) (a16 : Int32) (a17 : Int32) (a18 : Int32) : Option ((Int32 × moS) ⊕ moS) := Option.bind (M_receive t a18 a4 a11 a13 a15 a16) (fun s1 => (if a6 = 0 then ((xo ((some s1)))) else ((M_arrive_b295 s1 a3 a4 a5 a6 a7 a9 a11 a13 a15 a16 a17))))
noncomputable def M_arrive_b258 (t : moS) (a3 : Int32) (a4 : Int32) (a5 : Int32) (a6 : Int32) (a7 : Int64) (a9 : Int64) (a11 : Int64) (a13 : Int64) (a15 : Int32) (a16 : Int32) (a17 : Int32) (a18 : Int32) (u0 : Int32) : Option ((Int32 × moS) ⊕ moS) := if a6 = 0 then (if u0 = 0 then ((M_arrive_b295 t a3 a4 a5 a6 a7 a9 a11 a13 a15 a16 a17)) else ((M_arrive_b273 t a3 a4 a5 a6 a7 a9 a11 a13 a15 a16 a17 a18))) else ((M_arrive_b273 t a3 a4 a5 a6 a7 a9 a11 a13 a15 a16 a17 a18))
noncomputable def M_arrive_b257 (t : moS) (a3 : Int32) (a4 : Int32) (a5 : Int32) (a6 : Int32) (a7 : Int64) (a9 : Int64) (a11 : Int64) (a13 : Int64) (a15 : Int32) (a16 : Int32) (a17 : Int32) (a18 : Int32) : Option ((Int32 × moS) ⊕ moS) := (M_arrive_b258 t a3 a4 a5 a6 a7 a9 a11 a13 a15 a16 a17 a18 (0 : Int32))
noncomputable def M_arrive_b184 (t : moS) (a3 : Int32) (a4 : Int32) (a5 : Int32) (a6 : Int32) (a7 : Int64) (a9 : Int64) (a11 : Int64) (a13 : Int64) (a15 : Int32) (a16 : Int32) (a17 : Int32) (u0 : Int32) : Option ((Int32 × moS) ⊕ moS) := if u0 = ((-1) : Int32) then ((M_arrive_b295 t a3 a4 a5 a6 a7 a9 a11 a13 a15 a16 a17)) else (if u0 = a5 then ((M_arrive_b295 t a3 a4 a5 a6 a7 a9 a11 a13 a15 a16 a17)) else (Option.bind (rdI t 75 (((2 : Int32) * u0) + a4)) (fun x1 => (if x1 = 0 then ((M_arrive_b295 t a3 a4 a5 a6 a7 a9 a11 a13 a15 a16 a17)) else (Option.bind (rdJ t 76 (((2 : Int32) * u0) + a4)) (fun x2 => (if x2 = a7 then (Option.bind (rdJ t 77 (((2 : Int32) * u0) + a4)) (fun x3 => (if x3 = a9 then ((M_arrive_b258 t a3 a4 a5 a6 a7 a9 a11 a13 a15 a16 a17 u0 (1 : Int32))) else ((M_arrive_b257 t a3 a4 a5 a6 a7 a9 a11 a13 a15 a16 a17 u0))))) else ((M_arrive_b257 t a3 a4 a5 a6 a7 a9 a11 a13 a15 a16 a17 u0)))))))))
noncomputable def M_arrive_s154 (t : moS) (a3 : Int32) (a4 : Int32) (a5 : Int32) (a6 : Int32) (a7 : Int64) (a9 : Int64) (a11 : Int64) (a13 : Int64) (a15 : Int32) (a16 : Int32) (a17 : Int32) : Option ((Int32 × moS) ⊕ moS) := if a17 < (moS.S t 37) then (Option.bind (rdI t 39 a17) (fun x1 => (if x1 = 0 then ((M_arrive_b184 t a3 a4 a5 a6 a7 a9 a11 a13 a15 a16 a17 ((-1) : Int32))) else (Option.bind (M_interfaceTo t a17 a3) (fun x2 => ((M_arrive_b184 t a3 a4 a5 a6 a7 a9 a11 a13 a15 a16 a17 x2))))))) else ((xo ((some t))))
noncomputable def M_arrive_b154 (t : moS) (a3 : Int32) (a4 : Int32) (a5 : Int32) (a6 : Int32) (a7 : Int64) (a9 : Int64) (a11 : Int64) (a13 : Int64) (a15 : Int32) (a16 : Int32) (a17 : Int32) : Option moS := lp (fun x => M_arrive_s154 x.2 a3 a4 a5 a6 a7 a9 a11 a13 a15 a16 x.1) (a17, t)
noncomputable def M_arrive_s99 (t : moS) (p1 : Int32) (a2 : Int32) (a3 : Int32) (a4 : Int32) (a5 : Int32) (a6 : Int32) (a7 : Int64) (a9 : Int64) (a11 : Int64) (a13 : Int64) (a15 : Int32) (a16 : Int32) (a17 : Int32) : Option ((Int32 × moS) ⊕ moS) := if a17 < (700 : Int32) then (if a17 < (moS.S t 150) then (Option.bind (rdI t 138 (((700 : Int32) * a2) + a17)) (fun x2 => ((M_arrive_b139 t p1 a2 a3 a4 a5 a6 a7 a9 a11 a13 a15 a16 a17 a17 x2)))) else ((M_arrive_b139 t p1 a2 a3 a4 a5 a6 a7 a9 a11 a13 a15 a16 a17 a17 (0 : Int32)))) else ((xo (Option.bind (M_takeOff t p1) (fun s1 => ((M_arrive_b154 s1 a3 a4 a5 a6 a7 a9 a11 a13 a15 a16 (0 : Int32)))))))
noncomputable def M_arrive_b99 (t : moS) (p1 : Int32) (a2 : Int32) (a3 : Int32) (a4 : Int32) (a5 : Int32) (a6 : Int32) (a7 : Int64) (a9 : Int64) (a11 : Int64) (a13 : Int64) (a15 : Int32) (a16 : Int32) (a17 : Int32) : Option moS := lp (fun x => M_arrive_s99 x.2 p1 a2 a3 a4 a5 a6 a7 a9 a11 a13 a15 a16 x.1) (a17, t)
noncomputable def M_arrive (t : moS) (p1 : Int32) : Option moS := Option.bind (rdI t 124 p1) (fun x1 => (Option.bind (rdI t 126 x1) (fun x2 => (Option.bind (rdI t 131 x1) (fun x3 => (Option.bind (rdI t 127 x1) (fun x4 => (Option.bind (rdI t 128 x1) (fun x5 => (Option.bind (rdJ t 129 x1) (fun x6 => (Option.bind (rdJ t 130 x1) (fun x7 => (Option.bind (rdJ t 132 x1) (fun x8 => (Option.bind (rdJ t 133 x1) (fun x9 => (Option.bind (rdI t 134 x1) (fun x10 => (Option.bind (rdI t 135 x1) (fun x11 => (Option.bind (rdI t 137 x1) (fun x12 => (letS (moSS t 150 x12) (fun s13 => ((M_arrive_b99 s13 p1 x1 x2 x3 x4 x5 x6 x7 x8 x9 x10 x11 (0 : Int32))))))))))))))))))))))))))))
set_option maxRecDepth 100000 in
set_option maxHeartbeats 4000000 in
theorem k_arrive (base : Nat) (sa : Nat → Nat) {C : Nat × Nat} {R : pmM} {m : Nat} {q : Nat → Nat} {t tz : moS} {kc ks : Nat} {Rt : pmR} {p1 : Int32} (hw : mW C R base m q t kc ks) (h : M_arrive t p1 = (some tz)) (k : ∀ (q' : Nat → Nat) (kc' ks' : Nat), mW C R base m q' tz kc' ks' → Rt none (moM R m q' tz) kc' ks') : kP_Mo_arrive base sa [.ref m, .int p1] (moM R m q t) kc ks Rt := by
  refine ⟨Nat.le_of_ble_eq_true rfl, fun G hG => ?_⟩
  have b154 : ∀ (a3 : Int32) (a4 : Int32) (a5 : Int32) (a6 : Int32) (a7 : Int64) (a9 : Int64) (a11 : Int64) (a13 : Int64) (a15 : Int32) (a16 : Int32) (n : Nat) (a17 : Int32) (q : Nat → Nat) (t : moS) (kc ks : Nat), JJ C R base m G 154 [(0, .ref m), (3, .int a3), (4, .int a4), (5, .int a5), (6, .int a6), (7, .long a7), (9, .long a9), (11, .long a11), (13, .long a13), (15, .int a15), (16, .int a16), (17, .int a17)] [] q t kc ks (lpN (fun x => M_arrive_s154 x.2 a3 a4 a5 a6 a7 a9 a11 a13 a15 a16 x.1) n (a17, t)) (some tz) := by
    intro a3 a4 a5 a6 a7 a9 a11 a13 a15 a16 n
    induction n with
    | zero => intro a17 q t kc ks; exact jj_lp0
    | succ n ih154 =>
      intro a17 q t kc ks
      refine jj_lpS (fun y154 c154 => ?_)
      have b295 : ∀ (a17 : Int32) (q : Nat → Nat) (t : moS) (kc ks : Nat), JJ C R base m G 295 [(0, .ref m), (3, .int a3), (4, .int a4), (5, .int a5), (6, .int a6), (7, .long a7), (9, .long a9), (11, .long a11), (13, .long a13), (15, .int a15), (16, .int a16), (17, .int a17)] [] q t kc ks (M_arrive_b295 t a3 a4 a5 a6 a7 a9 a11 a13 a15 a16 a17) (some y154) := by
        intro a17 q t kc ks
        refine jj_inc hG rfl (Nat.le_of_ble_eq_true rfl) rfl cc_i1 ?_
        refine jj_go hG (t := 154) rfl rfl ?_
        exact jj_back c154 (jj_wl hG [1, 2, 3, 4, 5, 6, 7, 8, 9, 10, 11, 0] rfl (ih154 _ _ _ _ _))
      have b273 : ∀ (a17 : Int32) (a18 : Int32) (q : Nat → Nat) (t : moS) (kc ks : Nat), JJ C R base m G 273 [(0, .ref m), (3, .int a3), (4, .int a4), (5, .int a5), (6, .int a6), (7, .long a7), (9, .long a9), (11, .long a11), (13, .long a13), (15, .int a15), (16, .int a16), (17, .int a17), (18, .int a18)] [] q t kc ks (M_arrive_b273 t a3 a4 a5 a6 a7 a9 a11 a13 a15 a16 a17 a18) (some y154) := by
        intro a17 a18 q t kc ks
        refine jjs hG rfl rfl ?_
        refine jjs hG rfl rfl ?_
        refine jjs hG rfl rfl ?_
        refine jjs hG rfl rfl ?_
        refine jjs hG rfl rfl ?_
        refine jjs hG rfl rfl ?_
        refine jjs hG rfl rfl ?_
        refine jj_cvA hG 0 rfl rfl (Nat.le_of_ble_eq_true rfl) (by decide) (Nat.le_of_ble_eq_true rfl) rfl (st' := []) rfl (fun _ _ hw h k => pm_rcv_of moM_m (k_receive base sa hw h k)) (fun s1 q kc ks => ?_)
        refine jjs hG rfl rfl ?_
        refine jj_zne hG (t := 295) rfl rfl ?_ ?_
        · exact jj_wl hG [0, 1, 2, 3, 4, 5, 6, 7, 8, 9, 10, 11] rfl (b295 _ _ _ _ _)
        refine jj_exit c154 ?_
        exact jj_rvS hG rfl rfl (k _ _ _)
      have b258 : ∀ (a17 : Int32) (a18 : Int32) (u0 : Int32) (q : Nat → Nat) (t : moS) (kc ks : Nat), JJ C R base m G 258 [(0, .ref m), (3, .int a3), (4, .int a4), (5, .int a5), (6, .int a6), (7, .long a7), (9, .long a9), (11, .long a11), (13, .long a13), (15, .int a15), (16, .int a16), (17, .int a17), (18, .int a18)] [.int u0] q t kc ks (M_arrive_b258 t a3 a4 a5 a6 a7 a9 a11 a13 a15 a16 a17 a18 u0) (some y154) := by
        intro a17 a18 u0 q t kc ks
        refine jjc hG rfl rfl (Nat.le_of_ble_eq_true rfl) ?_
        refine jjs hG rfl rfl ?_
        refine jj_zne hG (t := 273) rfl rfl ?_ ?_
        · exact jj_wl hG [1, 2, 3, 4, 5, 6, 7, 8, 9, 10, 11, 12, 13] rfl (b273 _ _ _ _ _ _)
        refine jjs hG rfl rfl ?_
        refine jj_zne hG (t := 273) rfl rfl ?_ ?_
        · exact jj_wl hG [1, 2, 3, 4, 5, 6, 7, 8, 9, 10, 11, 12, 13] rfl (b273 _ _ _ _ _ _)
        refine jj_go hG (t := 295) rfl rfl ?_
        exact jj_wl hG [1, 2, 3, 4, 5, 6, 7, 8, 9, 10, 11, 12] rfl (b295 _ _ _ _ _)
      have b257 : ∀ (a17 : Int32) (a18 : Int32) (q : Nat → Nat) (t : moS) (kc ks : Nat), JJ C R base m G 257 [(0, .ref m), (3, .int a3), (4, .int a4), (5, .int a5), (6, .int a6), (7, .long a7), (9, .long a9), (11, .long a11), (13, .long a13), (15, .int a15), (16, .int a16), (17, .int a17), (18, .int a18)] [] q t kc ks (M_arrive_b257 t a3 a4 a5 a6 a7 a9 a11 a13 a15 a16 a17 a18) (some y154) := by
        intro a17 a18 q t kc ks
        refine jj_ic hG rfl cc_i0 ?_
        exact jj_wl hG [0, 1, 2, 3, 4, 5, 6, 7, 8, 9, 10, 11, 12] rfl (b258 _ _ _ _ _ _ _)
      have b184 : ∀ (a17 : Int32) (u0 : Int32) (q : Nat → Nat) (t : moS) (kc ks : Nat), JJ C R base m G 184 [(0, .ref m), (3, .int a3), (4, .int a4), (5, .int a5), (6, .int a6), (7, .long a7), (9, .long a9), (11, .long a11), (13, .long a13), (15, .int a15), (16, .int a16), (17, .int a17)] [.int u0] q t kc ks (M_arrive_b184 t a3 a4 a5 a6 a7 a9 a11 a13 a15 a16 a17 u0) (some y154) := by
        intro a17 u0 q t kc ks
        refine jjc hG rfl rfl (Nat.le_of_ble_eq_true rfl) ?_
        refine jjs hG rfl rfl ?_
        refine jj_ic hG rfl cc_im1 ?_
        refine jj_ieq hG (t := 295) rfl rfl ?_ ?_
        · exact jj_wl hG [1, 2, 3, 4, 5, 6, 7, 8, 9, 10, 11, 12] rfl (b295 _ _ _ _ _)
        refine jjs hG rfl rfl ?_
        refine jjs hG rfl rfl ?_
        refine jj_ieq hG (t := 295) rfl rfl ?_ ?_
        · exact jj_wl hG [1, 2, 3, 4, 5, 6, 7, 8, 9, 10, 11, 12] rfl (b295 _ _ _ _ _)
        refine jjs hG rfl rfl ?_
        refine jj_gr hG (k := 75) rfl rfl rfl rfl ?_
        refine jj_ic hG rfl cc_i2 ?_
        refine jjs hG rfl rfl ?_
        refine jjs hG rfl rfl ?_
        refine jjs hG rfl rfl ?_
        refine jjs hG rfl rfl ?_
        refine jj_ba hG (k := 75) rfl rfl rfl (fun x1 => ?_)
        refine jj_zne hG (t := 217) rfl rfl ?_ ?_
        · refine jjs hG rfl rfl ?_
          refine jj_gr hG (k := 76) rfl rfl rfl rfl ?_
          refine jj_ic hG rfl cc_i2 ?_
          refine jjs hG rfl rfl ?_
          refine jjs hG rfl rfl ?_
          refine jjs hG rfl rfl ?_
          refine jjs hG rfl rfl ?_
          refine jj_la hG (k := 76) rfl rfl rfl (fun x2 => ?_)
          refine jjs hG rfl rfl ?_
          refine jjs hG rfl rfl ?_
          refine jj_lne hG (t := 257) rfl rfl ?_ ?_
          · exact jj_wl hG [1, 2, 3, 4, 5, 6, 7, 8, 9, 10, 11, 12, 0] rfl (b257 _ _ _ _ _ _)
          refine jjs hG rfl rfl ?_
          refine jj_gr hG (k := 77) rfl rfl rfl rfl ?_
          refine jj_ic hG rfl cc_i2 ?_
          refine jjs hG rfl rfl ?_
          refine jjs hG rfl rfl ?_
          refine jjs hG rfl rfl ?_
          refine jjs hG rfl rfl ?_
          refine jj_la hG (k := 77) rfl rfl rfl (fun x3 => ?_)
          refine jjs hG rfl rfl ?_
          refine jjs hG rfl rfl ?_
          refine jj_lne hG (t := 257) rfl rfl ?_ ?_
          · exact jj_wl hG [1, 2, 3, 4, 5, 6, 7, 8, 9, 10, 11, 12, 0] rfl (b257 _ _ _ _ _ _)
          refine jj_ic hG rfl cc_i1 ?_
          refine jj_go hG (t := 258) rfl rfl ?_
          exact jj_wl hG [1, 2, 3, 4, 5, 6, 7, 8, 9, 10, 11, 12, 0] rfl (b258 _ _ _ _ _ _ _)
        refine jj_go hG (t := 295) rfl rfl ?_
        exact jj_wl hG [1, 2, 3, 4, 5, 6, 7, 8, 9, 10, 11, 12] rfl (b295 _ _ _ _ _)
      refine (show JJ C R base m G 154 [(0, .ref m), (3, .int a3), (4, .int a4), (5, .int a5), (6, .int a6), (7, .long a7), (9, .long a9), (11, .long a11), (13, .long a13), (15, .int a15), (16, .int a16), (17, .int a17)] [] q t kc ks (M_arrive_s154 t a3 a4 a5 a6 a7 a9 a11 a13 a15 a16 a17) (some y154) from ?_)
      refine jjs hG rfl rfl ?_
      refine jjs hG rfl rfl ?_
      refine jj_gi hG (k := 37) rfl rfl rfl rfl ?_
      refine jj_ige hG (t := 301) rfl rfl ?_ ?_
      · refine jj_exit c154 ?_
        exact jj_rvS hG rfl rfl (k _ _ _)
      refine jjs hG rfl rfl ?_
      refine jj_gr hG (k := 39) rfl rfl rfl rfl ?_
      refine jjs hG rfl rfl ?_
      refine jj_ba hG (k := 39) rfl rfl rfl (fun x1 => ?_)
      refine jj_zeq hG (t := 183) rfl rfl ?_ ?_
      · refine jj_ic hG rfl cc_im1 ?_
        exact jj_wl hG [0, 1, 2, 3, 4, 5, 6, 7, 8, 9, 10, 11] rfl (b184 _ _ _ _ _ _)
      refine jjs hG rfl rfl ?_
      refine jjs hG rfl rfl ?_
      refine jjs hG rfl rfl ?_
      refine jj_cp hG 0 rfl rfl (Nat.le_of_ble_eq_true rfl) (by decide) (Nat.le_of_ble_eq_true rfl) rfl (st' := []) rfl (w := .int) (fun _ _ hw h k => pm_rcv_of moM_m (k_interfaceTo base sa hw h k)) (fun x2 => ?_)
      refine jj_go hG (t := 184) rfl rfl ?_
      exact jj_wl hG [0, 1, 2, 3, 4, 5, 6, 7, 8, 9, 10, 11] rfl (b184 _ _ _ _ _ _)
  have b99 : ∀ (a2 : Int32) (a3 : Int32) (a4 : Int32) (a5 : Int32) (a6 : Int32) (a7 : Int64) (a9 : Int64) (a11 : Int64) (a13 : Int64) (a15 : Int32) (a16 : Int32) (n : Nat) (a17 : Int32) (q : Nat → Nat) (t : moS) (kc ks : Nat), JJ C R base m G 99 [(0, .ref m), (1, .int p1), (2, .int a2), (3, .int a3), (4, .int a4), (5, .int a5), (6, .int a6), (7, .long a7), (9, .long a9), (11, .long a11), (13, .long a13), (15, .int a15), (16, .int a16), (17, .int a17)] [] q t kc ks (lpN (fun x => M_arrive_s99 x.2 p1 a2 a3 a4 a5 a6 a7 a9 a11 a13 a15 a16 x.1) n (a17, t)) (some tz) := by
    intro a2 a3 a4 a5 a6 a7 a9 a11 a13 a15 a16 n
    induction n with
    | zero => intro a17 q t kc ks; exact jj_lp0
    | succ n ih99 =>
      intro a17 q t kc ks
      refine jj_lpS (fun y99 c99 => ?_)
      have b139 : ∀ (a17 : Int32) (u1 : Int32) (u2 : Int32) (q : Nat → Nat) (t : moS) (kc ks : Nat), JJ C R base m G 139 [(0, .ref m), (1, .int p1), (2, .int a2), (3, .int a3), (4, .int a4), (5, .int a5), (6, .int a6), (7, .long a7), (9, .long a9), (11, .long a11), (13, .long a13), (15, .int a15), (16, .int a16), (17, .int a17)] [.int u2, .int u1, .ref (q 149)] q t kc ks (M_arrive_b139 t p1 a2 a3 a4 a5 a6 a7 a9 a11 a13 a15 a16 a17 u1 u2) (some y99) := by
        intro a17 u1 u2 q t kc ks
        refine jj_is hG (k := 149) rfl rfl rfl (fun s1 => ?_)
        refine jj_inc hG rfl (Nat.le_of_ble_eq_true rfl) rfl cc_i1 ?_
        refine jj_go hG (t := 99) rfl rfl ?_
        exact jj_back c99 (jj_wl hG [1, 2, 3, 4, 5, 6, 7, 8, 9, 10, 11, 12, 13, 0] rfl (ih99 _ _ _ _ _))
      refine (show JJ C R base m G 99 [(0, .ref m), (1, .int p1), (2, .int a2), (3, .int a3), (4, .int a4), (5, .int a5), (6, .int a6), (7, .long a7), (9, .long a9), (11, .long a11), (13, .long a13), (15, .int a15), (16, .int a16), (17, .int a17)] [] q t kc ks (M_arrive_s99 t p1 a2 a3 a4 a5 a6 a7 a9 a11 a13 a15 a16 a17) (some y99) from ?_)
      refine jjs hG rfl rfl ?_
      refine jj_si hG rfl cc_s700 ?_
      refine jj_ige hG (t := 146) rfl rfl ?_ ?_
      · refine jj_exit c99 ?_
        refine jjs hG rfl rfl ?_
        refine jjs hG rfl rfl ?_
        refine jj_cv hG 0 rfl rfl (Nat.le_of_ble_eq_true rfl) (by decide) (Nat.le_of_ble_eq_true rfl) rfl (st' := []) rfl (fun _ _ hw h k => pm_rcv_of moM_m (k_takeOff base sa hw h k)) (fun s1 => ?_)
        refine jj_ic hG rfl cc_i0 ?_
        refine jjc hG rfl rfl (Nat.le_of_ble_eq_true rfl) ?_
        refine jj_lp (fun n => ?_)
        exact jj_wl hG [1, 4, 5, 6, 7, 8, 9, 10, 11, 12, 13, 0] rfl (b154 _ _ _ _ _ _ _ _ _ _ n _ _ _ _ _)
      refine jjs hG rfl rfl ?_
      refine jj_gr hG (k := 149) rfl rfl rfl rfl ?_
      refine jjs hG rfl rfl ?_
      refine jjs hG rfl rfl ?_
      refine jjs hG rfl rfl ?_
      refine jj_gi hG (k := 150) rfl rfl rfl rfl ?_
      refine jj_ige hG (t := 138) rfl rfl ?_ ?_
      · refine jj_ic hG rfl cc_i0 ?_
        exact jj_wl hG [0, 1, 2, 3, 4, 5, 6, 7, 8, 9, 10, 11, 12, 13] rfl (b139 _ _ _ _ _ _ _)
      refine jjs hG rfl rfl ?_
      refine jj_gr hG (k := 138) rfl rfl rfl rfl ?_
      refine jj_si hG rfl cc_s700 ?_
      refine jjs hG rfl rfl ?_
      refine jjs hG rfl rfl ?_
      refine jjs hG rfl rfl ?_
      refine jjs hG rfl rfl ?_
      refine jj_ia hG (k := 138) rfl rfl rfl (fun x2 => ?_)
      refine jj_go hG (t := 139) rfl rfl ?_
      exact jj_wl hG [0, 1, 2, 3, 4, 5, 6, 7, 8, 9, 10, 11, 12, 13] rfl (b139 _ _ _ _ _ _ _)
  refine (show JJ C R base m G 0 [(0, .ref m), (1, .int p1)] [] q t kc ks (M_arrive t p1) (some tz) from ?_) hw h
  refine jjs hG rfl rfl ?_
  refine jj_gr hG (k := 124) rfl rfl rfl rfl ?_
  refine jjs hG rfl rfl ?_
  refine jj_ia hG (k := 124) rfl rfl rfl (fun x1 => ?_)
  refine jjc hG rfl rfl (Nat.le_of_ble_eq_true rfl) ?_
  refine jjs hG rfl rfl ?_
  refine jj_gr hG (k := 126) rfl rfl rfl rfl ?_
  refine jjs hG rfl rfl ?_
  refine jj_ia hG (k := 126) rfl rfl rfl (fun x2 => ?_)
  refine jjc hG rfl rfl (Nat.le_of_ble_eq_true rfl) ?_
  refine jjs hG rfl rfl ?_
  refine jj_gr hG (k := 131) rfl rfl rfl rfl ?_
  refine jjs hG rfl rfl ?_
  refine jj_ia hG (k := 131) rfl rfl rfl (fun x3 => ?_)
  refine jjc hG rfl rfl (Nat.le_of_ble_eq_true rfl) ?_
  refine jjs hG rfl rfl ?_
  refine jj_gr hG (k := 127) rfl rfl rfl rfl ?_
  refine jjs hG rfl rfl ?_
  refine jj_ia hG (k := 127) rfl rfl rfl (fun x4 => ?_)
  refine jjc hG rfl rfl (Nat.le_of_ble_eq_true rfl) ?_
  refine jjs hG rfl rfl ?_
  refine jj_gr hG (k := 128) rfl rfl rfl rfl ?_
  refine jjs hG rfl rfl ?_
  refine jj_ba hG (k := 128) rfl rfl rfl (fun x5 => ?_)
  refine jjc hG rfl rfl (Nat.le_of_ble_eq_true rfl) ?_
  refine jjs hG rfl rfl ?_
  refine jj_gr hG (k := 129) rfl rfl rfl rfl ?_
  refine jjs hG rfl rfl ?_
  refine jj_la hG (k := 129) rfl rfl rfl (fun x6 => ?_)
  refine jjc hG rfl rfl (Nat.le_of_ble_eq_true rfl) ?_
  refine jjs hG rfl rfl ?_
  refine jj_gr hG (k := 130) rfl rfl rfl rfl ?_
  refine jjs hG rfl rfl ?_
  refine jj_la hG (k := 130) rfl rfl rfl (fun x7 => ?_)
  refine jjc hG rfl rfl (Nat.le_of_ble_eq_true rfl) ?_
  refine jjs hG rfl rfl ?_
  refine jj_gr hG (k := 132) rfl rfl rfl rfl ?_
  refine jjs hG rfl rfl ?_
  refine jj_la hG (k := 132) rfl rfl rfl (fun x8 => ?_)
  refine jjc hG rfl rfl (Nat.le_of_ble_eq_true rfl) ?_
  refine jjs hG rfl rfl ?_
  refine jj_gr hG (k := 133) rfl rfl rfl rfl ?_
  refine jjs hG rfl rfl ?_
  refine jj_la hG (k := 133) rfl rfl rfl (fun x9 => ?_)
  refine jjc hG rfl rfl (Nat.le_of_ble_eq_true rfl) ?_
  refine jjs hG rfl rfl ?_
  refine jj_gr hG (k := 134) rfl rfl rfl rfl ?_
  refine jjs hG rfl rfl ?_
  refine jj_ia hG (k := 134) rfl rfl rfl (fun x10 => ?_)
  refine jjc hG rfl rfl (Nat.le_of_ble_eq_true rfl) ?_
  refine jjs hG rfl rfl ?_
  refine jj_gr hG (k := 135) rfl rfl rfl rfl ?_
  refine jjs hG rfl rfl ?_
  refine jj_ia hG (k := 135) rfl rfl rfl (fun x11 => ?_)
  refine jjc hG rfl rfl (Nat.le_of_ble_eq_true rfl) ?_
  refine jjs hG rfl rfl ?_
  refine jjs hG rfl rfl ?_
  refine jj_gr hG (k := 137) rfl rfl rfl rfl ?_
  refine jjs hG rfl rfl ?_
  refine jj_ia hG (k := 137) rfl rfl rfl (fun x12 => ?_)
  refine jj_pi hG (k := 150) rfl rfl rfl rfl (fun s13 => ?_)
  refine jj_ic hG rfl cc_i0 ?_
  refine jjc hG rfl rfl (Nat.le_of_ble_eq_true rfl) ?_
  refine jj_lp (fun n => ?_)
  exact jj_wl hG [12, 13, 11, 10, 9, 8, 7, 6, 5, 4, 3, 2, 1, 0] rfl (b99 _ _ _ _ _ _ _ _ _ _ _ n _ _ _ _ _)
noncomputable def M_age_b115 (t : moS) (p1 : Int32) (a2 : Int32) : Option ((Int32 × moS) ⊕ moS) := (some (.inl ((a2 + (1 : Int32)), t)))
noncomputable def M_age_b68 (t : moS) (p1 : Int32) (a2 : Int32) (u0 : Int32) : Option ((Int32 × moS) ⊕ moS) := if u0 = 0 then (Option.bind (rdI t 111 a2) (fun x1 => (if x1 = (16 : Int32) then (Option.bind (rdI t 122 a2) (fun x2 => (if (moS.S t 1) < x2 then ((M_age_b115 t p1 a2)) else (Option.bind (M_remove t p1 a2) (fun s3 => ((some (.inl (a2, s3))))))))) else ((M_age_b115 t p1 a2))))) else (Option.bind (M_die t p1 a2) (fun s4 => ((M_age_b115 s4 p1 a2))))
noncomputable def M_age_b67 (t : moS) (p1 : Int32) (a2 : Int32) : Option ((Int32 × moS) ⊕ moS) := (M_age_b68 t p1 a2 (0 : Int32))
noncomputable def M_age_s6 (t : moS) (p1 : Int32) (a2 : Int32) : Option ((Int32 × moS) ⊕ moS) := Option.bind (rdI t 105 p1) (fun x1 => (if a2 < (((2700 : Int32) * p1) + x1) then (Option.bind (rdI t 110 a2) (fun x2 => (if x2 = (2 : Int32) then (Option.bind (rdI t 111 a2) (fun x3 => (if x3 < (16 : Int32) then (Option.bind (rdI t 120 a2) (fun x4 => (Option.bind (rdI t 121 a2) (fun x5 => (if ((moS.S t 1) - x4) < x5 then ((M_age_b67 t p1 a2)) else ((M_age_b68 t p1 a2 (1 : Int32)))))))) else ((M_age_b67 t p1 a2))))) else ((M_age_b67 t p1 a2))))) else ((xo ((some t))))))
noncomputable def M_age_b6 (t : moS) (p1 : Int32) (a2 : Int32) : Option moS := lp (fun x => M_age_s6 x.2 p1 x.1) (a2, t)
noncomputable def M_age (t : moS) (p1 : Int32) : Option moS := (M_age_b6 t p1 ((2700 : Int32) * p1))
set_option maxRecDepth 100000 in
set_option maxHeartbeats 4000000 in
theorem k_age (base : Nat) (sa : Nat → Nat) {C : Nat × Nat} {R : pmM} {m : Nat} {q : Nat → Nat} {t tz : moS} {kc ks : Nat} {Rt : pmR} {p1 : Int32} (hw : mW C R base m q t kc ks) (h : M_age t p1 = (some tz)) (k : mW C R base m q tz kc ks → Rt none (moM R m q tz) kc ks) : kP_Mo_age base sa [.ref m, .int p1] (moM R m q t) kc ks Rt := by
  refine ⟨Nat.le_of_ble_eq_true rfl, fun G hG => ?_⟩
  have b6 : ∀ (n : Nat) (a2 : Int32) (t : moS), JJ C R base m G 6 [(0, .ref m), (1, .int p1), (2, .int a2)] [] q t kc ks (lpN (fun x => M_age_s6 x.2 p1 x.1) n (a2, t)) (some tz) := by
    intro n
    induction n with
    | zero => intro a2 t; exact jj_lp0
    | succ n ih6 =>
      intro a2 t
      refine jj_lpS (fun y6 c6 => ?_)
      have b115 : ∀ (a2 : Int32) (t : moS), JJ C R base m G 115 [(0, .ref m), (1, .int p1), (2, .int a2)] [] q t kc ks (M_age_b115 t p1 a2) (some y6) := by
        intro a2 t
        refine jj_inc hG rfl (Nat.le_of_ble_eq_true rfl) rfl cc_i1 ?_
        refine jj_go hG (t := 6) rfl rfl ?_
        exact jj_back c6 (jj_wl hG [1, 2, 0] rfl (ih6 _ _))
      have b68 : ∀ (a2 : Int32) (u0 : Int32) (t : moS), JJ C R base m G 68 [(0, .ref m), (1, .int p1), (2, .int a2)] [.int u0] q t kc ks (M_age_b68 t p1 a2 u0) (some y6) := by
        intro a2 u0 t
        refine jjc hG rfl rfl (Nat.le_of_ble_eq_true rfl) ?_
        refine jjs hG rfl rfl ?_
        refine jj_zeq hG (t := 82) rfl rfl ?_ ?_
        · refine jjs hG rfl rfl ?_
          refine jj_gr hG (k := 111) rfl rfl rfl rfl ?_
          refine jjs hG rfl rfl ?_
          refine jj_ia hG (k := 111) rfl rfl rfl (fun x1 => ?_)
          refine jj_bi hG rfl cc_b16 ?_
          refine jj_ine hG (t := 115) rfl rfl ?_ ?_
          · exact jj_wl hG [1, 2, 3] rfl (b115 _ _)
          refine jjs hG rfl rfl ?_
          refine jj_gi hG (k := 1) rfl rfl rfl rfl ?_
          refine jjs hG rfl rfl ?_
          refine jj_gr hG (k := 122) rfl rfl rfl rfl ?_
          refine jjs hG rfl rfl ?_
          refine jj_ia hG (k := 122) rfl rfl rfl (fun x2 => ?_)
          refine jj_ilt hG (t := 115) rfl rfl ?_ ?_
          · exact jj_wl hG [1, 2, 3] rfl (b115 _ _)
          refine jjs hG rfl rfl ?_
          refine jjs hG rfl rfl ?_
          refine jjs hG rfl rfl ?_
          refine jj_cv hG 0 rfl rfl (Nat.le_of_ble_eq_true rfl) (by decide) (Nat.le_of_ble_eq_true rfl) rfl (st' := []) rfl (fun _ _ hw h k => pm_rcv_of moM_m (k_remove base sa hw h k)) (fun s3 => ?_)
          refine jj_go hG (t := 6) rfl rfl ?_
          exact jj_back c6 (jj_wl hG [1, 2, 3] rfl (ih6 _ _))
        refine jjs hG rfl rfl ?_
        refine jjs hG rfl rfl ?_
        refine jjs hG rfl rfl ?_
        refine jj_cv hG 0 rfl rfl (Nat.le_of_ble_eq_true rfl) (by decide) (Nat.le_of_ble_eq_true rfl) rfl (st' := []) rfl (fun _ _ hw h k => pm_rcv_of moM_m (k_die base sa hw h k)) (fun s4 => ?_)
        refine jj_go hG (t := 115) rfl rfl ?_
        exact jj_wl hG [1, 2, 3] rfl (b115 _ _)
      have b67 : ∀ (a2 : Int32) (t : moS), JJ C R base m G 67 [(0, .ref m), (1, .int p1), (2, .int a2)] [] q t kc ks (M_age_b67 t p1 a2) (some y6) := by
        intro a2 t
        refine jj_ic hG rfl cc_i0 ?_
        exact jj_wl hG [0, 1, 2] rfl (b68 _ _ _)
      refine (show JJ C R base m G 6 [(0, .ref m), (1, .int p1), (2, .int a2)] [] q t kc ks (M_age_s6 t p1 a2) (some y6) from ?_)
      refine jjs hG rfl rfl ?_
      refine jj_si hG rfl cc_s2700 ?_
      refine jjs hG rfl rfl ?_
      refine jjs hG rfl rfl ?_
      refine jjs hG rfl rfl ?_
      refine jj_gr hG (k := 105) rfl rfl rfl rfl ?_
      refine jjs hG rfl rfl ?_
      refine jj_ia hG (k := 105) rfl rfl rfl (fun x1 => ?_)
      refine jjs hG rfl rfl ?_
      refine jj_ige hG (t := 121) rfl rfl ?_ ?_
      · refine jj_exit c6 ?_
        exact jj_rvS hG rfl rfl (k)
      refine jjs hG rfl rfl ?_
      refine jj_gr hG (k := 110) rfl rfl rfl rfl ?_
      refine jjs hG rfl rfl ?_
      refine jj_ia hG (k := 110) rfl rfl rfl (fun x2 => ?_)
      refine jj_ic hG rfl cc_i2 ?_
      refine jj_ine hG (t := 67) rfl rfl ?_ ?_
      · exact jj_wl hG [0, 1, 2] rfl (b67 _ _)
      refine jjs hG rfl rfl ?_
      refine jj_gr hG (k := 111) rfl rfl rfl rfl ?_
      refine jjs hG rfl rfl ?_
      refine jj_ia hG (k := 111) rfl rfl rfl (fun x3 => ?_)
      refine jj_bi hG rfl cc_b16 ?_
      refine jj_ige hG (t := 67) rfl rfl ?_ ?_
      · exact jj_wl hG [0, 1, 2] rfl (b67 _ _)
      refine jjs hG rfl rfl ?_
      refine jj_gi hG (k := 1) rfl rfl rfl rfl ?_
      refine jjs hG rfl rfl ?_
      refine jj_gr hG (k := 120) rfl rfl rfl rfl ?_
      refine jjs hG rfl rfl ?_
      refine jj_ia hG (k := 120) rfl rfl rfl (fun x4 => ?_)
      refine jjs hG rfl rfl ?_
      refine jjs hG rfl rfl ?_
      refine jj_gr hG (k := 121) rfl rfl rfl rfl ?_
      refine jjs hG rfl rfl ?_
      refine jj_ia hG (k := 121) rfl rfl rfl (fun x5 => ?_)
      refine jj_ilt hG (t := 67) rfl rfl ?_ ?_
      · exact jj_wl hG [0, 1, 2] rfl (b67 _ _)
      refine jj_ic hG rfl cc_i1 ?_
      refine jj_go hG (t := 68) rfl rfl ?_
      exact jj_wl hG [0, 1, 2] rfl (b68 _ _ _)
  refine (show JJ C R base m G 0 [(0, .ref m), (1, .int p1)] [] q t kc ks (M_age t p1) (some tz) from ?_) hw h
  refine jj_si hG rfl cc_s2700 ?_
  refine jjs hG rfl rfl ?_
  refine jjs hG rfl rfl ?_
  refine jjc hG rfl rfl (Nat.le_of_ble_eq_true rfl) ?_
  refine jj_lp (fun n => ?_)
  exact jj_wl hG [1, 2, 0] rfl (b6 n _ _)
noncomputable def M_tick_b165 (t : moS) (a2 : Int32) : Option ((Int32 × moS) ⊕ moS) := (some (.inl ((a2 + (1 : Int32)), t)))
noncomputable def M_tick_s54 (t : moS) (a2 : Int32) : Option ((Int32 × moS) ⊕ moS) := if a2 < (moS.S t 37) then (Option.bind (rdI t 39 a2) (fun x1 => (if x1 = 0 then ((M_tick_b165 t a2)) else (Option.bind (M_age t a2) (fun s2 => (Option.bind (rdI s2 43 a2) (fun x3 => (if (moS.S s2 1) < x3 then (Option.bind (rdI s2 44 a2) (fun x4 => (if x4 = ((-1) : Int32) then ((M_tick_b165 s2 a2)) else (Option.bind (rdI s2 44 a2) (fun x5 => (if (moS.S s2 1) < x5 then ((M_tick_b165 s2 a2)) else (Option.bind (M_tellAll s2 a2 (1 : Int32)) (fun s6 => (Option.bind (M_forget s6 a2) (fun s7 => (Option.bind (M_tally s7 a2 (6 : Int32) (1 : Int32)) (fun s8 => ((M_tick_b165 s8 a2)))))))))))))) else (Option.bind (M_tellAll s2 a2 (0 : Int32)) (fun s9 => (Option.bind (M_forget s9 a2) (fun s10 => (Option.bind (rdI s10 40 a2) (fun x11 => (Option.bind (wrI s10 43 a2 ((moS.S s10 1) + x11)) (fun s12 => ((M_tick_b165 s12 a2)))))))))))))))))) else ((xo ((some t))))
noncomputable def M_tick_b54 (t : moS) (a2 : Int32) : Option moS := lp (fun x => M_tick_s54 x.2 x.1) (a2, t)
noncomputable def M_tick_s12 (t : moS) (a1 : Int32) : Option ((Int32 × moS) ⊕ moS) := if a1 < (moS.S t 123) then (Option.bind (rdI t 124 a1) (fun x1 => (Option.bind (rdI t 136 x1) (fun x2 => (if (moS.S t 1) < x2 then ((some (.inl ((a1 + (1 : Int32)), t)))) else (Option.bind (M_arrive t a1) (fun s3 => ((some (.inl (a1, s3))))))))))) else ((xo ((M_tick_b54 t (0 : Int32)))))
noncomputable def M_tick_b12 (t : moS) (a1 : Int32) : Option moS := lp (fun x => M_tick_s12 x.2 x.1) (a1, t)
noncomputable def M_tick (t : moS) : Option moS := letS (moSS t 1 ((moS.S t 1) + (1 : Int32))) (fun s1 => ((M_tick_b12 s1 (0 : Int32))))
set_option maxRecDepth 100000 in
set_option maxHeartbeats 4000000 in
theorem k_tick (base : Nat) (sa : Nat → Nat) {C : Nat × Nat} {R : pmM} {m : Nat} {q : Nat → Nat} {t tz : moS} {kc ks : Nat} {Rt : pmR}  (hw : mW C R base m q t kc ks) (h : M_tick t = (some tz)) (k : ∀ (q' : Nat → Nat) (kc' ks' : Nat), mW C R base m q' tz kc' ks' → Rt none (moM R m q' tz) kc' ks') : kP_Mo_tick base sa [.ref m] (moM R m q t) kc ks Rt := by
  refine ⟨Nat.le_of_ble_eq_true rfl, fun G hG => ?_⟩
  have b54 : ∀ (n : Nat) (a2 : Int32) (q : Nat → Nat) (t : moS) (kc ks : Nat), JJ C R base m G 54 [(0, .ref m), (2, .int a2)] [] q t kc ks (lpN (fun x => M_tick_s54 x.2 x.1) n (a2, t)) (some tz) := by
    intro n
    induction n with
    | zero => intro a2 q t kc ks; exact jj_lp0
    | succ n ih54 =>
      intro a2 q t kc ks
      refine jj_lpS (fun y54 c54 => ?_)
      have b165 : ∀ (a2 : Int32) (q : Nat → Nat) (t : moS) (kc ks : Nat), JJ C R base m G 165 [(0, .ref m), (2, .int a2)] [] q t kc ks (M_tick_b165 t a2) (some y54) := by
        intro a2 q t kc ks
        refine jj_inc hG rfl (Nat.le_of_ble_eq_true rfl) rfl cc_i1 ?_
        refine jj_go hG (t := 54) rfl rfl ?_
        exact jj_back c54 (jj_wl hG [1, 0] rfl (ih54 _ _ _ _ _))
      refine (show JJ C R base m G 54 [(0, .ref m), (2, .int a2)] [] q t kc ks (M_tick_s54 t a2) (some y54) from ?_)
      refine jjs hG rfl rfl ?_
      refine jjs hG rfl rfl ?_
      refine jj_gi hG (k := 37) rfl rfl rfl rfl ?_
      refine jj_ige hG (t := 171) rfl rfl ?_ ?_
      · refine jj_exit c54 ?_
        exact jj_rvS hG rfl rfl (k _ _ _)
      refine jjs hG rfl rfl ?_
      refine jj_gr hG (k := 39) rfl rfl rfl rfl ?_
      refine jjs hG rfl rfl ?_
      refine jj_ba hG (k := 39) rfl rfl rfl (fun x1 => ?_)
      refine jj_zne hG (t := 74) rfl rfl ?_ ?_
      · refine jjs hG rfl rfl ?_
        refine jjs hG rfl rfl ?_
        refine jj_cv hG 0 rfl rfl (Nat.le_of_ble_eq_true rfl) (by decide) (Nat.le_of_ble_eq_true rfl) rfl (st' := []) rfl (fun _ _ hw h k => pm_rcv_of moM_m (k_age base sa hw h k)) (fun s2 => ?_)
        refine jjs hG rfl rfl ?_
        refine jj_gi hG (k := 1) rfl rfl rfl rfl ?_
        refine jjs hG rfl rfl ?_
        refine jj_gr hG (k := 43) rfl rfl rfl rfl ?_
        refine jjs hG rfl rfl ?_
        refine jj_ia hG (k := 43) rfl rfl rfl (fun x3 => ?_)
        refine jj_ilt hG (t := 123) rfl rfl ?_ ?_
        · refine jjs hG rfl rfl ?_
          refine jj_gr hG (k := 44) rfl rfl rfl rfl ?_
          refine jjs hG rfl rfl ?_
          refine jj_ia hG (k := 44) rfl rfl rfl (fun x4 => ?_)
          refine jj_ic hG rfl cc_im1 ?_
          refine jj_ieq hG (t := 165) rfl rfl ?_ ?_
          · exact jj_wl hG [0, 1] rfl (b165 _ _ _ _ _)
          refine jjs hG rfl rfl ?_
          refine jj_gi hG (k := 1) rfl rfl rfl rfl ?_
          refine jjs hG rfl rfl ?_
          refine jj_gr hG (k := 44) rfl rfl rfl rfl ?_
          refine jjs hG rfl rfl ?_
          refine jj_ia hG (k := 44) rfl rfl rfl (fun x5 => ?_)
          refine jj_ilt hG (t := 165) rfl rfl ?_ ?_
          · exact jj_wl hG [0, 1] rfl (b165 _ _ _ _ _)
          refine jjs hG rfl rfl ?_
          refine jjs hG rfl rfl ?_
          refine jj_ic hG rfl cc_i1 ?_
          refine jj_cv hG 0 rfl rfl (Nat.le_of_ble_eq_true rfl) (by decide) (Nat.le_of_ble_eq_true rfl) rfl (st' := []) rfl (fun _ _ hw h k => pm_rcv_of moM_m (k_tellAll base sa hw h k)) (fun s6 => ?_)
          refine jjs hG rfl rfl ?_
          refine jjs hG rfl rfl ?_
          refine jj_cv hG 0 rfl rfl (Nat.le_of_ble_eq_true rfl) (by decide) (Nat.le_of_ble_eq_true rfl) rfl (st' := []) rfl (fun _ _ hw h k => pm_rcv_of moM_m (k_forget base sa hw h k)) (fun s7 => ?_)
          refine jjs hG rfl rfl ?_
          refine jjs hG rfl rfl ?_
          refine jj_bi hG rfl cc_b6 ?_
          refine jj_ic hG rfl cc_i1 ?_
          refine jj_cv hG 0 rfl rfl (Nat.le_of_ble_eq_true rfl) (by decide) (Nat.le_of_ble_eq_true rfl) rfl (st' := []) rfl (fun _ _ hw h k => pm_rcv_of moM_m (k_tally base sa hw h k)) (fun s8 => ?_)
          exact jj_wl hG [0, 1] rfl (b165 _ _ _ _ _)
        refine jjs hG rfl rfl ?_
        refine jjs hG rfl rfl ?_
        refine jj_ic hG rfl cc_i0 ?_
        refine jj_cv hG 0 rfl rfl (Nat.le_of_ble_eq_true rfl) (by decide) (Nat.le_of_ble_eq_true rfl) rfl (st' := []) rfl (fun _ _ hw h k => pm_rcv_of moM_m (k_tellAll base sa hw h k)) (fun s9 => ?_)
        refine jjs hG rfl rfl ?_
        refine jjs hG rfl rfl ?_
        refine jj_cv hG 0 rfl rfl (Nat.le_of_ble_eq_true rfl) (by decide) (Nat.le_of_ble_eq_true rfl) rfl (st' := []) rfl (fun _ _ hw h k => pm_rcv_of moM_m (k_forget base sa hw h k)) (fun s10 => ?_)
        refine jjs hG rfl rfl ?_
        refine jj_gr hG (k := 43) rfl rfl rfl rfl ?_
        refine jjs hG rfl rfl ?_
        refine jjs hG rfl rfl ?_
        refine jj_gi hG (k := 1) rfl rfl rfl rfl ?_
        refine jjs hG rfl rfl ?_
        refine jj_gr hG (k := 40) rfl rfl rfl rfl ?_
        refine jjs hG rfl rfl ?_
        refine jj_ia hG (k := 40) rfl rfl rfl (fun x11 => ?_)
        refine jjs hG rfl rfl ?_
        refine jj_is hG (k := 43) rfl rfl rfl (fun s12 => ?_)
        refine jj_go hG (t := 165) rfl rfl ?_
        exact jj_wl hG [0, 1] rfl (b165 _ _ _ _ _)
      refine jj_go hG (t := 165) rfl rfl ?_
      exact jj_wl hG [0, 1] rfl (b165 _ _ _ _ _)
  have b12 : ∀ (n : Nat) (a1 : Int32) (q : Nat → Nat) (t : moS) (kc ks : Nat), JJ C R base m G 12 [(0, .ref m), (1, .int a1)] [] q t kc ks (lpN (fun x => M_tick_s12 x.2 x.1) n (a1, t)) (some tz) := by
    intro n
    induction n with
    | zero => intro a1 q t kc ks; exact jj_lp0
    | succ n ih12 =>
      intro a1 q t kc ks
      refine jj_lpS (fun y12 c12 => ?_)
      refine (show JJ C R base m G 12 [(0, .ref m), (1, .int a1)] [] q t kc ks (M_tick_s12 t a1) (some y12) from ?_)
      refine jjs hG rfl rfl ?_
      refine jjs hG rfl rfl ?_
      refine jj_gi hG (k := 123) rfl rfl rfl rfl ?_
      refine jj_ige hG (t := 52) rfl rfl ?_ ?_
      · refine jj_exit c12 ?_
        refine jj_ic hG rfl cc_i0 ?_
        refine jjc hG rfl rfl (Nat.le_of_ble_eq_true rfl) ?_
        refine jj_lp (fun n => ?_)
        exact jj_wl hG [1, 0] rfl (b54 n _ _ _ _ _)
      refine jjs hG rfl rfl ?_
      refine jj_gr hG (k := 136) rfl rfl rfl rfl ?_
      refine jjs hG rfl rfl ?_
      refine jj_gr hG (k := 124) rfl rfl rfl rfl ?_
      refine jjs hG rfl rfl ?_
      refine jj_ia hG (k := 124) rfl rfl rfl (fun x1 => ?_)
      refine jj_ia hG (k := 136) rfl rfl rfl (fun x2 => ?_)
      refine jjs hG rfl rfl ?_
      refine jj_gi hG (k := 1) rfl rfl rfl rfl ?_
      refine jj_igt hG (t := 46) rfl rfl ?_ ?_
      · refine jj_inc hG rfl (Nat.le_of_ble_eq_true rfl) rfl cc_i1 ?_
        refine jj_go hG (t := 12) rfl rfl ?_
        exact jj_back c12 (jj_wl hG [1, 0] rfl (ih12 _ _ _ _ _))
      refine jjs hG rfl rfl ?_
      refine jjs hG rfl rfl ?_
      refine jj_cvA hG 0 rfl rfl (Nat.le_of_ble_eq_true rfl) (by decide) (Nat.le_of_ble_eq_true rfl) rfl (st' := []) rfl (fun _ _ hw h k => pm_rcv_of moM_m (k_arrive base sa hw h k)) (fun s3 q kc ks => ?_)
      refine jj_go hG (t := 12) rfl rfl ?_
      exact jj_back c12 (jj_wl hG [0, 1] rfl (ih12 _ _ _ _ _))
  refine (show JJ C R base m G 0 [(0, .ref m)] [] q t kc ks (M_tick t) (some tz) from ?_) hw h
  refine jjs hG rfl rfl ?_
  refine jjc hG rfl rfl rfl ?_
  refine jj_gi hG (k := 1) rfl rfl rfl rfl ?_
  refine jj_ic hG rfl cc_i1 ?_
  refine jjs hG rfl rfl ?_
  refine jj_pi hG (k := 1) rfl rfl rfl rfl (fun s1 => ?_)
  refine jj_ic hG rfl cc_i0 ?_
  refine jjc hG rfl rfl (Nat.le_of_ble_eq_true rfl) ?_
  refine jj_lp (fun n => ?_)
  exact jj_wl hG [1, 0] rfl (b12 n _ _ _ _ _)
noncomputable def M_ticks_s32 (t : moS) (p1 : Int32) (a2 : Int32) : Option ((Int32 × moS) ⊕ (Int32 × moS)) := if a2 < p1 then (Option.bind (M_tick t) (fun s1 => ((some (.inl ((a2 + (1 : Int32)), s1)))))) else ((xo ((some ((moS.S t 1), t)))))
noncomputable def M_ticks_b32 (t : moS) (p1 : Int32) (a2 : Int32) : Option (Int32 × moS) := lp (fun x => M_ticks_s32 x.2 p1 x.1) (a2, t)
noncomputable def M_ticks (t : moS) (p1 : Int32) : Option (Int32 × moS) := letS (moSS t 0 (0 : Int32)) (fun s1 => (if p1 < 0 then ((some (((-1) : Int32), s1))) else (if (2000 : Int32) < p1 then ((some (((-1) : Int32), s1))) else (if (20000 : Int32) < ((moS.S s1 1) + p1) then ((some (((-1) : Int32), s1))) else ((M_ticks_b32 s1 p1 (0 : Int32)))))))
set_option maxRecDepth 100000 in
set_option maxHeartbeats 4000000 in
theorem k_ticks (base : Nat) (sa : Nat → Nat) {C : Nat × Nat} {R : pmM} {m : Nat} {q : Nat → Nat} {t tz : moS} {kc ks : Nat} {Rt : pmR} {p1 : Int32} {r : Int32} (hw : mW C R base m q t kc ks) (h : M_ticks t p1 = (some (r, tz))) (k : ∀ (q' : Nat → Nat) (kc' ks' : Nat), mW C R base m q' tz kc' ks' → Rt (some (.int r)) (moM R m q' tz) kc' ks') : kP_Mo_ticks base sa [.ref m, .int p1] (moM R m q t) kc ks Rt := by
  refine ⟨Nat.le_of_ble_eq_true rfl, fun G hG => ?_⟩
  have b32 : ∀ (n : Nat) (a2 : Int32) (q : Nat → Nat) (t : moS) (kc ks : Nat), JJ C R base m G 32 [(0, .ref m), (1, .int p1), (2, .int a2)] [] q t kc ks (lpN (fun x => M_ticks_s32 x.2 p1 x.1) n (a2, t)) (some (r, tz)) := by
    intro n
    induction n with
    | zero => intro a2 q t kc ks; exact jj_lp0
    | succ n ih32 =>
      intro a2 q t kc ks
      refine jj_lpS (fun y32 c32 => ?_)
      refine (show JJ C R base m G 32 [(0, .ref m), (1, .int p1), (2, .int a2)] [] q t kc ks (M_ticks_s32 t p1 a2) (some y32) from ?_)
      refine jjs hG rfl rfl ?_
      refine jjs hG rfl rfl ?_
      refine jj_ige hG (t := 47) rfl rfl ?_ ?_
      · refine jj_exit c32 ?_
        refine jjs hG rfl rfl ?_
        refine jj_gi hG (k := 1) rfl rfl rfl rfl ?_
        exact jj_riS hG rfl rfl rfl (k _ _ _)
      refine jjs hG rfl rfl ?_
      refine jj_cvA hG 0 rfl rfl (Nat.le_of_ble_eq_true rfl) (by decide) (Nat.le_of_ble_eq_true rfl) rfl (st' := []) rfl (fun _ _ hw h k => pm_rcv_of moM_m (k_tick base sa hw h k)) (fun s1 q kc ks => ?_)
      refine jj_inc hG rfl (Nat.le_of_ble_eq_true rfl) rfl cc_i1 ?_
      refine jj_go hG (t := 32) rfl rfl ?_
      exact jj_back c32 (jj_wl hG [1, 2, 0] rfl (ih32 _ _ _ _ _))
  refine (show JJ C R base m G 0 [(0, .ref m), (1, .int p1)] [] q t kc ks (M_ticks t p1) (some (r, tz)) from ?_) hw h
  refine jjs hG rfl rfl ?_
  refine jj_ic hG rfl cc_i0 ?_
  refine jj_pi hG (k := 0) rfl rfl rfl rfl (fun s1 => ?_)
  refine jjs hG rfl rfl ?_
  refine jj_zlt hG (t := 28) rfl rfl ?_ ?_
  · refine jj_ic hG rfl cc_im1 ?_
    exact jj_riS hG rfl rfl rfl (k _ _ _)
  refine jjs hG rfl rfl ?_
  refine jj_si hG rfl cc_s2000 ?_
  refine jj_igt hG (t := 28) rfl rfl ?_ ?_
  · refine jj_ic hG rfl cc_im1 ?_
    exact jj_riS hG rfl rfl rfl (k _ _ _)
  refine jjs hG rfl rfl ?_
  refine jj_gi hG (k := 1) rfl rfl rfl rfl ?_
  refine jjs hG rfl rfl ?_
  refine jjs hG rfl rfl ?_
  refine jj_si hG rfl cc_s20000 ?_
  refine jj_ile hG (t := 30) rfl rfl ?_ ?_
  · refine jj_ic hG rfl cc_i0 ?_
    refine jjc hG rfl rfl (Nat.le_of_ble_eq_true rfl) ?_
    refine jj_lp (fun n => ?_)
    exact jj_wl hG [1, 2, 0] rfl (b32 n _ _ _ _ _)
  refine jj_ic hG rfl cc_im1 ?_
  exact jj_riS hG rfl rfl rfl (k _ _ _)
