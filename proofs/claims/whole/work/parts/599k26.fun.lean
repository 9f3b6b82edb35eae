/-! The model as functions, by program: link .. put -/
noncomputable def M_link_b185 (t : moS) (p1 : Int32) (p2 : Int32) (a4 : Int32) (a5 : Int32) (a6 : Int32) : Option ((Int32 × moS) ⊕ ((Int32 × moS) ⊕ (Int32 × moS))) := (some (.inl ((a6 + (1 : Int32)), t)))
noncomputable def M_link_b197 (t : moS) (p1 : Int32) (p2 : Int32) (a4 : Int32) : Option ((Int32 × moS) ⊕ (Int32 × moS)) := (some (.inl ((a4 + (1 : Int32)), t)))
noncomputable def M_link_b191 (t : moS) (p1 : Int32) (p2 : Int32) (a4 : Int32) : Option ((Int32 × moS) ⊕ (Int32 × moS)) := Option.bind (M_settle t a4) (fun s1 => ((M_link_b197 s1 p1 p2 a4)))
noncomputable def M_link_s131 (t : moS) (p1 : Int32) (p2 : Int32) (a4 : Int32) (a5 : Int32) (a6 : Int32) : Option ((Int32 × moS) ⊕ ((Int32 × moS) ⊕ (Int32 × moS))) := Option.bind (rdI t 105 a4) (fun x1 => (if a6 < (((2700 : Int32) * a4) + x1) then (if p2 = 0 then (Option.bind (rdI t 110 a6) (fun x2 => (if x2 = (2 : Int32) then (Option.bind (rdI t 113 a6) (fun x3 => (if x3 = a5 then (Option.bind (M_die t a4 a6) (fun s4 => ((M_link_b185 s4 p1 p2 a4 a5 a6)))) else ((M_link_b185 t p1 p2 a4 a5 a6))))) else ((M_link_b185 t p1 p2 a4 a5 a6))))) else ((xo (M_link_b191 t p1 p2 a4)))) else ((xo (M_link_b191 t p1 p2 a4)))))
noncomputable def M_link_b131 (t : moS) (p1 : Int32) (p2 : Int32) (a4 : Int32) (a5 : Int32) (a6 : Int32) : Option ((Int32 × moS) ⊕ (Int32 × moS)) := lp (fun x => M_link_s131 x.2 p1 p2 a4 a5 x.1) (a6, t)
noncomputable def M_link_b112 (t : moS) (p1 : Int32) (p2 : Int32) (a4 : Int32) (u0 : Int32) : Option ((Int32 × moS) ⊕ (Int32 × moS)) := if u0 = ((-1) : Int32) then ((M_link_b197 t p1 p2 a4)) else ((M_link_b131 t p1 p2 a4 u0 ((2700 : Int32) * a4)))
noncomputable def M_link_b254 (t : moS) (p1 : Int32) (p2 : Int32) (a4 : Int32) : Option ((Int32 × moS) ⊕ (Int32 × moS)) := (some (.inl ((a4 + (1 : Int32)), t)))
noncomputable def M_link_b240 (t : moS) (p1 : Int32) (p2 : Int32) (a4 : Int32) (u0 : Int32) : Option ((Int32 × moS) ⊕ (Int32 × moS)) := if u0 = ((-1) : Int32) then ((M_link_b254 t p1 p2 a4)) else (Option.bind (M_requests t u0) (fun s1 => ((M_link_b254 s1 p1 p2 a4))))
noncomputable def M_link_s206 (t : moS) (p1 : Int32) (p2 : Int32) (a4 : Int32) : Option ((Int32 × moS) ⊕ (Int32 × moS)) := if a4 < (moS.S t 37) then (if p2 = 0 then ((xo ((some ((1 : Int32), t))))) else (Option.bind (rdI t 39 a4) (fun x1 => (if x1 = 0 then ((M_link_b240 t p1 p2 a4 ((-1) : Int32))) else (Option.bind (M_interfaceTo t a4 p1) (fun x2 => ((M_link_b240 t p1 p2 a4 x2)))))))) else ((xo ((some ((1 : Int32), t)))))
noncomputable def M_link_b206 (t : moS) (p1 : Int32) (p2 : Int32) (a4 : Int32) : Option (Int32 × moS) := lp (fun x => M_link_s206 x.2 p1 p2 x.1) (a4, t)
noncomputable def M_link_s82 (t : moS) (p1 : Int32) (p2 : Int32) (a4 : Int32) : Option ((Int32 × moS) ⊕ (Int32 × moS)) := if a4 < (moS.S t 37) then (Option.bind (rdI t 39 a4) (fun x1 => (if x1 = 0 then ((M_link_b112 t p1 p2 a4 ((-1) : Int32))) else (Option.bind (M_interfaceTo t a4 p1) (fun x2 => ((M_link_b112 t p1 p2 a4 x2))))))) else ((xo ((M_link_b206 t p1 p2 (0 : Int32)))))
noncomputable def M_link_b82 (t : moS) (p1 : Int32) (p2 : Int32) (a4 : Int32) : Option (Int32 × moS) := lp (fun x => M_link_s82 x.2 p1 p2 x.1) (a4, t)
noncomputable def M_link_b79 (t : moS) (p1 : Int32) (p2 : Int32) : Option (Int32 × moS) := (M_link_b82 t p1 p2 (0 : Int32))
noncomputable def M_link_s38 (t : moS) (p1 : Int32) (p2 : Int32) (a3 : Int32) : Option ((Int32 × moS) ⊕ (Int32 × moS)) := if a3 < (moS.S t 123) then (if p2 = 0 then (Option.bind (rdI t 124 a3) (fun x1 => (Option.bind (rdI t 126 x1) (fun x2 => (if x2 = p1 then (Option.bind (M_takeOff t a3) (fun s3 => ((some (.inl (a3, s3)))))) else ((some (.inl ((a3 + (1 : Int32)), t))))))))) else ((xo (M_link_b79 t p1 p2)))) else ((xo (M_link_b79 t p1 p2)))
noncomputable def M_link_b38 (t : moS) (p1 : Int32) (p2 : Int32) (a3 : Int32) : Option (Int32 × moS) := lp (fun x => M_link_s38 x.2 p1 p2 x.1) (a3, t)
noncomputable def M_link (t : moS) (p1 : Int32) (p2 : Int32) : Option (Int32 × moS) := letS (moSS t 0 (0 : Int32)) (fun s1 => (if p1 < 0 then ((some ((0 : Int32), s1))) else (if p1 < (moS.S s1 17) then (Option.bind (rdI s1 22 p1) (fun x2 => (if x2 = p2 then ((some ((0 : Int32), s1))) else (Option.bind (wrZ s1 22 p1 p2) (fun s3 => ((M_link_b38 s3 p1 p2 (0 : Int32)))))))) else ((some ((0 : Int32), s1))))))
set_option maxRecDepth 100000 in
set_option maxHeartbeats 4000000 in
theorem k_link (base : Nat) (sa : Nat → Nat) {C : Nat × Nat} {R : pmM} {m : Nat} {q : Nat → Nat} {t tz : moS} {kc ks : Nat} {Rt : pmR} {p1 : Int32} {p2 : Int32} {r : Int32} (hw : mW C R base m q t kc ks) (h : M_link t p1 p2 = (some (r, tz))) (k : mW C R base m q tz kc ks → Rt (some (.int r)) (moM R m q tz) kc ks) : kP_Mo_link base sa [.ref m, .int p1, .int p2] (moM R m q t) kc ks Rt := by
  refine ⟨Nat.le_of_ble_eq_true rfl, fun G hG => ?_⟩
  have b206 : ∀ (n : Nat) (a4 : Int32) (t : moS), JJ C R base m G 206 [(0, .ref m), (1, .int p1), (2, .int p2), (4, .int a4)] [] q t kc ks (lpN (fun x => M_link_s206 x.2 p1 p2 x.1) n (a4, t)) (some (r, tz)) := by
    intro n
    induction n with
    | zero => intro a4 t; exact jj_lp0
    | succ n ih206 =>
      intro a4 t
      refine jj_lpS (fun y206 c206 => ?_)
      have b254 : ∀ (a4 : Int32) (t : moS), JJ C R base m G 254 [(0, .ref m), (1, .int p1), (2, .int p2), (4, .int a4)] [] q t kc ks (M_link_b254 t p1 p2 a4) (some y206) := by
        intro a4 t
        refine jj_inc hG rfl (Nat.le_of_ble_eq_true rfl) rfl cc_i1 ?_
        refine jj_go hG (t := 206) rfl rfl ?_
        exact jj_back c206 (jj_wl hG [1, 2, 3, 0] rfl (ih206 _ _))
      have b240 : ∀ (a4 : Int32) (u0 : Int32) (t : moS), JJ C R base m G 240 [(0, .ref m), (1, .int p1), (2, .int p2), (4, .int a4)] [.int u0] q t kc ks (M_link_b240 t p1 p2 a4 u0) (some y206) := by
        intro a4 u0 t
        refine jjc hG rfl rfl (Nat.le_of_ble_eq_true rfl) ?_
        refine jjs hG rfl rfl ?_
        refine jj_ic hG rfl cc_im1 ?_
        refine jj_ieq hG (t := 254) rfl rfl ?_ ?_
        · exact jj_wl hG [1, 2, 3, 4] rfl (b254 _ _)
        refine jjs hG rfl rfl ?_
        refine jjs hG rfl rfl ?_
        refine jj_cv hG 0 rfl rfl (Nat.le_of_ble_eq_true rfl) (by decide) (Nat.le_of_ble_eq_true rfl) rfl (st' := []) rfl (fun _ _ hw h k => pm_rcv_of moM_m (k_requests base sa hw h k)) (fun s1 => ?_)
        exact jj_wl hG [1, 2, 3, 4] rfl (b254 _ _)
      refine (show JJ C R base m G 206 [(0, .ref m), (1, .int p1), (2, .int p2), (4, .int a4)] [] q t kc ks (M_link_s206 t p1 p2 a4) (some y206) from ?_)
      refine jjs hG rfl rfl ?_
      refine jjs hG rfl rfl ?_
      refine jj_gi hG (k := 37) rfl rfl rfl rfl ?_
      refine jj_ige hG (t := 260) rfl rfl ?_ ?_
      · refine jj_exit c206 ?_
        refine jj_ic hG rfl cc_i1 ?_
        exact jj_riS hG rfl rfl rfl k
      refine jjs hG rfl rfl ?_
      refine jj_zeq hG (t := 260) rfl rfl ?_ ?_
      · refine jj_exit c206 ?_
        refine jj_ic hG rfl cc_i1 ?_
        exact jj_riS hG rfl rfl rfl k
      refine jjs hG rfl rfl ?_
      refine jj_gr hG (k := 39) rfl rfl rfl rfl ?_
      refine jjs hG rfl rfl ?_
      refine jj_ba hG (k := 39) rfl rfl rfl (fun x1 => ?_)
      refine jj_zeq hG (t := 239) rfl rfl ?_ ?_
      · refine jj_ic hG rfl cc_im1 ?_
        exact jj_wl hG [0, 1, 2, 3] rfl (b240 _ _ _)
      refine jjs hG rfl rfl ?_
      refine jjs hG rfl rfl ?_
      refine jjs hG rfl rfl ?_
      refine jj_cp hG 0 rfl rfl (Nat.le_of_ble_eq_true rfl) (by decide) (Nat.le_of_ble_eq_true rfl) rfl (st' := []) rfl (w := .int) (fun _ _ hw h k => pm_rcv_of moM_m (k_interfaceTo base sa hw h k)) (fun x2 => ?_)
      refine jj_go hG (t := 240) rfl rfl ?_
      exact jj_wl hG [0, 1, 2, 3] rfl (b240 _ _ _)
  have b82 : ∀ (n : Nat) (a4 : Int32) (t : moS), JJ C R base m G 82 [(0, .ref m), (1, .int p1), (2, .int p2), (4, .int a4)] [] q t kc ks (lpN (fun x => M_link_s82 x.2 p1 p2 x.1) n (a4, t)) (some (r, tz)) := by
    intro n
    induction n with
    | zero => intro a4 t; exact jj_lp0
    | succ n ih82 =>
      intro a4 t
      refine jj_lpS (fun y82 c82 => ?_)
      have b197 : ∀ (a4 : Int32) (t : moS), JJ C R base m G 197 [(0, .ref m), (1, .int p1), (2, .int p2), (4, .int a4)] [] q t kc ks (M_link_b197 t p1 p2 a4) (some y82) := by
        intro a4 t
        refine jj_inc hG rfl (Nat.le_of_ble_eq_true rfl) rfl cc_i1 ?_
        refine jj_go hG (t := 82) rfl rfl ?_
        exact jj_back c82 (jj_wl hG [1, 2, 3, 0] rfl (ih82 _ _))
      have b191 : ∀ (a4 : Int32) (t : moS), JJ C R base m G 191 [(0, .ref m), (1, .int p1), (2, .int p2), (4, .int a4)] [] q t kc ks (M_link_b191 t p1 p2 a4) (some y82) := by
        intro a4 t
        refine jjs hG rfl rfl ?_
        refine jjs hG rfl rfl ?_
        refine jj_cv hG 0 rfl rfl (Nat.le_of_ble_eq_true rfl) (by decide) (Nat.le_of_ble_eq_true rfl) rfl (st' := []) rfl (fun _ _ hw h k => pm_rcv_of moM_m (k_settle base sa hw h k)) (fun s1 => ?_)
        exact jj_wl hG [0, 1, 2, 3] rfl (b197 _ _)
      have b131 : ∀ (a4 : Int32) (a5 : Int32) (n : Nat) (a6 : Int32) (t : moS), JJ C R base m G 131 [(0, .ref m), (1, .int p1), (2, .int p2), (4, .int a4), (5, .int a5), (6, .int a6)] [] q t kc ks (lpN (fun x => M_link_s131 x.2 p1 p2 a4 a5 x.1) n (a6, t)) (some y82) := by
        intro a4 a5 n
        induction n with
        | zero => intro a6 t; exact jj_lp0
        | succ n ih131 =>
          intro a6 t
          refine jj_lpS (fun y131 c131 => ?_)
          have b185 : ∀ (a6 : Int32) (t : moS), JJ C R base m G 185 [(0, .ref m), (1, .int p1), (2, .int p2), (4, .int a4), (5, .int a5), (6, .int a6)] [] q t kc ks (M_link_b185 t p1 p2 a4 a5 a6) (some y131) := by
            intro a6 t
            refine jj_inc hG rfl (Nat.le_of_ble_eq_true rfl) rfl cc_i1 ?_
            refine jj_go hG (t := 131) rfl rfl ?_
            exact jj_back c131 (jj_wl hG [1, 2, 3, 4, 5, 0] rfl (ih131 _ _))
          refine (show JJ C R base m G 131 [(0, .ref m), (1, .int p1), (2, .int p2), (4, .int a4), (5, .int a5), (6, .int a6)] [] q t kc ks (M_link_s131 t p1 p2 a4 a5 a6) (some y131) from ?_)
          refine jjs hG rfl rfl ?_
          refine jj_si hG rfl cc_s2700 ?_
          refine jjs hG rfl rfl ?_
          refine jjs hG rfl rfl ?_
          refine jjs hG rfl rfl ?_
          refine jj_gr hG (k := 105) rfl rfl rfl rfl ?_
          refine jjs hG rfl rfl ?_
          refine jj_ia hG (k := 105) rfl rfl rfl (fun x1 => ?_)
          refine jjs hG rfl rfl ?_
          refine jj_ige hG (t := 191) rfl rfl ?_ ?_
          · refine jj_exit c131 ?_
            exact jj_wl hG [0, 1, 2, 3] rfl (b191 _ _)
          refine jjs hG rfl rfl ?_
          refine jj_zne hG (t := 191) rfl rfl ?_ ?_
          · refine jj_exit c131 ?_
            exact jj_wl hG [0, 1, 2, 3] rfl (b191 _ _)
          refine jjs hG rfl rfl ?_
          refine jj_gr hG (k := 110) rfl rfl rfl rfl ?_
          refine jjs hG rfl rfl ?_
          refine jj_ia hG (k := 110) rfl rfl rfl (fun x2 => ?_)
          refine jj_ic hG rfl cc_i2 ?_
          refine jj_ine hG (t := 185) rfl rfl ?_ ?_
          · exact jj_wl hG [0, 1, 2, 3, 4, 5] rfl (b185 _ _)
          refine jjs hG rfl rfl ?_
          refine jj_gr hG (k := 113) rfl rfl rfl rfl ?_
          refine jjs hG rfl rfl ?_
          refine jj_ia hG (k := 113) rfl rfl rfl (fun x3 => ?_)
          refine jjs hG rfl rfl ?_
          refine jj_ine hG (t := 185) rfl rfl ?_ ?_
          · exact jj_wl hG [0, 1, 2, 3, 4, 5] rfl (b185 _ _)
          refine jjs hG rfl rfl ?_
          refine jjs hG rfl rfl ?_
          refine jjs hG rfl rfl ?_
          refine jj_cv hG 0 rfl rfl (Nat.le_of_ble_eq_true rfl) (by decide) (Nat.le_of_ble_eq_true rfl) rfl (st' := []) rfl (fun _ _ hw h k => pm_rcv_of moM_m (k_die base sa hw h k)) (fun s4 => ?_)
          exact jj_wl hG [0, 1, 2, 3, 4, 5] rfl (b185 _ _)
      have b112 : ∀ (a4 : Int32) (u0 : Int32) (t : moS), JJ C R base m G 112 [(0, .ref m), (1, .int p1), (2, .int p2), (4, .int a4)] [.int u0] q t kc ks (M_link_b112 t p1 p2 a4 u0) (some y82) := by
        intro a4 u0 t
        refine jjc hG rfl rfl (Nat.le_of_ble_eq_true rfl) ?_
        refine jjs hG rfl rfl ?_
        refine jj_ic hG rfl cc_im1 ?_
        refine jj_ine hG (t := 123) rfl rfl ?_ ?_
        · refine jj_si hG rfl cc_s2700 ?_
          refine jjs hG rfl rfl ?_
          refine jjs hG rfl rfl ?_
          refine jjc hG rfl rfl (Nat.le_of_ble_eq_true rfl) ?_
          refine jj_lp (fun n => ?_)
          exact jj_wl hG [2, 3, 4, 5, 1, 0] rfl (b131 _ _ n _ _)
        refine jj_go hG (t := 197) rfl rfl ?_
        exact jj_wl hG [1, 2, 3, 4] rfl (b197 _ _)
      refine (show JJ C R base m G 82 [(0, .ref m), (1, .int p1), (2, .int p2), (4, .int a4)] [] q t kc ks (M_link_s82 t p1 p2 a4) (some y82) from ?_)
      refine jjs hG rfl rfl ?_
      refine jjs hG rfl rfl ?_
      refine jj_gi hG (k := 37) rfl rfl rfl rfl ?_
      refine jj_ige hG (t := 203) rfl rfl ?_ ?_
      · refine jj_exit c82 ?_
        refine jj_ic hG rfl cc_i0 ?_
        refine jjc hG rfl rfl (Nat.le_of_ble_eq_true rfl) ?_
        refine jj_lp (fun n => ?_)
        exact jj_wl hG [1, 2, 3, 0] rfl (b206 n _ _)
      refine jjs hG rfl rfl ?_
      refine jj_gr hG (k := 39) rfl rfl rfl rfl ?_
      refine jjs hG rfl rfl ?_
      refine jj_ba hG (k := 39) rfl rfl rfl (fun x1 => ?_)
      refine jj_zeq hG (t := 111) rfl rfl ?_ ?_
      · refine jj_ic hG rfl cc_im1 ?_
        exact jj_wl hG [0, 1, 2, 3] rfl (b112 _ _ _)
      refine jjs hG rfl rfl ?_
      refine jjs hG rfl rfl ?_
      refine jjs hG rfl rfl ?_
      refine jj_cp hG 0 rfl rfl (Nat.le_of_ble_eq_true rfl) (by decide) (Nat.le_of_ble_eq_true rfl) rfl (st' := []) rfl (w := .int) (fun _ _ hw h k => pm_rcv_of moM_m (k_interfaceTo base sa hw h k)) (fun x2 => ?_)
      refine jj_go hG (t := 112) rfl rfl ?_
      exact jj_wl hG [0, 1, 2, 3] rfl (b112 _ _ _)
  have b79 : ∀ (t : moS), JJ C R base m G 79 [(0, .ref m), (1, .int p1), (2, .int p2)] [] q t kc ks (M_link_b79 t p1 p2) (some (r, tz)) := by
    intro t
    refine jj_ic hG rfl cc_i0 ?_
    refine jjc hG rfl rfl (Nat.le_of_ble_eq_true rfl) ?_
    refine jj_lp (fun n => ?_)
    exact jj_wl hG [1, 2, 3, 0] rfl (b82 n _ _)
  have b38 : ∀ (n : Nat) (a3 : Int32) (t : moS), JJ C R base m G 38 [(0, .ref m), (1, .int p1), (2, .int p2), (3, .int a3)] [] q t kc ks (lpN (fun x => M_link_s38 x.2 p1 p2 x.1) n (a3, t)) (some (r, tz)) := by
    intro n
    induction n with
    | zero => intro a3 t; exact jj_lp0
    | succ n ih38 =>
      intro a3 t
      refine jj_lpS (fun y38 c38 => ?_)
      refine (show JJ C R base m G 38 [(0, .ref m), (1, .int p1), (2, .int p2), (3, .int a3)] [] q t kc ks (M_link_s38 t p1 p2 a3) (some y38) from ?_)
      refine jjs hG rfl rfl ?_
      refine jjs hG rfl rfl ?_
      refine jj_gi hG (k := 123) rfl rfl rfl rfl ?_
      refine jj_ige hG (t := 79) rfl rfl ?_ ?_
      · refine jj_exit c38 ?_
        exact jj_wl hG [0, 1, 2] rfl (b79 _)
      refine jjs hG rfl rfl ?_
      refine jj_zne hG (t := 79) rfl rfl ?_ ?_
      · refine jj_exit c38 ?_
        exact jj_wl hG [0, 1, 2] rfl (b79 _)
      refine jjs hG rfl rfl ?_
      refine jj_gr hG (k := 126) rfl rfl rfl rfl ?_
      refine jjs hG rfl rfl ?_
      refine jj_gr hG (k := 124) rfl rfl rfl rfl ?_
      refine jjs hG rfl rfl ?_
      refine jj_ia hG (k := 124) rfl rfl rfl (fun x1 => ?_)
      refine jj_ia hG (k := 126) rfl rfl rfl (fun x2 => ?_)
      refine jjs hG rfl rfl ?_
      refine jj_ine hG (t := 73) rfl rfl ?_ ?_
      · refine jj_inc hG rfl (Nat.le_of_ble_eq_true rfl) rfl cc_i1 ?_
        refine jj_go hG (t := 38) rfl rfl ?_
        exact jj_back c38 (jj_wl hG [1, 2, 3, 0] rfl (ih38 _ _))
      refine jjs hG rfl rfl ?_
      refine jjs hG rfl rfl ?_
      refine jj_cv hG 0 rfl rfl (Nat.le_of_ble_eq_true rfl) (by decide) (Nat.le_of_ble_eq_true rfl) rfl (st' := []) rfl (fun _ _ hw h k => pm_rcv_of moM_m (k_takeOff base sa hw h k)) (fun s3 => ?_)
      refine jj_go hG (t := 38) rfl rfl ?_
      exact jj_back c38 (jj_wl hG [0, 1, 2, 3] rfl (ih38 _ _))
  refine (show JJ C R base m G 0 [(0, .ref m), (1, .int p1), (2, .int p2)] [] q t kc ks (M_link t p1 p2) (some (r, tz)) from ?_) hw h
  refine jjs hG rfl rfl ?_
  refine jj_ic hG rfl cc_i0 ?_
  refine jj_pi hG (k := 0) rfl rfl rfl rfl (fun s1 => ?_)
  refine jjs hG rfl rfl ?_
  refine jj_zlt hG (t := 27) rfl rfl ?_ ?_
  · refine jj_ic hG rfl cc_i0 ?_
    exact jj_riS hG rfl rfl rfl k
  refine jjs hG rfl rfl ?_
  refine jjs hG rfl rfl ?_
  refine jj_gi hG (k := 17) rfl rfl rfl rfl ?_
  refine jj_ige hG (t := 27) rfl rfl ?_ ?_
  · refine jj_ic hG rfl cc_i0 ?_
    exact jj_riS hG rfl rfl rfl k
  refine jjs hG rfl rfl ?_
  refine jj_gr hG (k := 22) rfl rfl rfl rfl ?_
  refine jjs hG rfl rfl ?_
  refine jj_ba hG (k := 22) rfl rfl rfl (fun x2 => ?_)
  refine jjs hG rfl rfl ?_
  refine jj_ine hG (t := 29) rfl rfl ?_ ?_
  · refine jjs hG rfl rfl ?_
    refine jj_gr hG (k := 22) rfl rfl rfl rfl ?_
    refine jjs hG rfl rfl ?_
    refine jjs hG rfl rfl ?_
    refine jj_bs hG (k := 22) rfl rfl rfl (fun s3 => ?_)
    refine jj_ic hG rfl cc_i0 ?_
    refine jjc hG rfl rfl (Nat.le_of_ble_eq_true rfl) ?_
    refine jj_lp (fun n => ?_)
    exact jj_wl hG [1, 2, 3, 0] rfl (b38 n _ _)
  refine jj_ic hG rfl cc_i0 ?_
  exact jj_riS hG rfl rfl rfl k
noncomputable def M_lose (t : moS) (p1 : Int32) (p2 : Int32) : Option (Int32 × moS) := letS (moSS t 0 (0 : Int32)) (fun s1 => (if p1 < 0 then ((some ((0 : Int32), s1))) else (if p1 < (moS.S s1 17) then (if p2 < 0 then ((some ((0 : Int32), s1))) else (Option.bind (wrI s1 24 p1 p2) (fun s2 => ((some ((1 : Int32), s2)))))) else ((some ((0 : Int32), s1))))))
set_option maxRecDepth 100000 in
set_option maxHeartbeats 4000000 in
theorem k_lose (base : Nat) (sa : Nat → Nat) {C : Nat × Nat} {R : pmM} {m : Nat} {q : Nat → Nat} {t tz : moS} {kc ks : Nat} {Rt : pmR} {p1 : Int32} {p2 : Int32} {r : Int32} (hw : mW C R base m q t kc ks) (h : M_lose t p1 p2 = (some (r, tz))) (k : mW C R base m q tz kc ks → Rt (some (.int r)) (moM R m q tz) kc ks) : kP_Mo_lose base sa [.ref m, .int p1, .int p2] (moM R m q t) kc ks Rt := by
  refine ⟨Nat.le_of_ble_eq_true rfl, fun G hG => ?_⟩
  refine (show JJ C R base m G 0 [(0, .ref m), (1, .int p1), (2, .int p2)] [] q t kc ks (M_lose t p1 p2) (some (r, tz)) from ?_) hw h
  refine jjs hG rfl rfl ?_
  refine jj_ic hG rfl cc_i0 ?_
  refine jj_pi hG (k := 0) rfl rfl rfl rfl (fun s1 => ?_)
  refine jjs hG rfl rfl ?_
  refine jj_zlt hG (t := 21) rfl rfl ?_ ?_
  · refine jj_ic hG rfl cc_i0 ?_
    exact jj_riS hG rfl rfl rfl k
  refine jjs hG rfl rfl ?_
  refine jjs hG rfl rfl ?_
  refine jj_gi hG (k := 17) rfl rfl rfl rfl ?_
  refine jj_ige hG (t := 21) rfl rfl ?_ ?_
  · refine jj_ic hG rfl cc_i0 ?_
    exact jj_riS hG rfl rfl rfl k
  refine jjs hG rfl rfl ?_
  refine jj_zge hG (t := 23) rfl rfl ?_ ?_
  · refine jjs hG rfl rfl ?_
    refine jj_gr hG (k := 24) rfl rfl rfl rfl ?_
    refine jjs hG rfl rfl ?_
    refine jjs hG rfl rfl ?_
    refine jj_is hG (k := 24) rfl rfl rfl (fun s2 => ?_)
    refine jj_ic hG rfl cc_i1 ?_
    exact jj_riS hG rfl rfl rfl k
  refine jj_ic hG rfl cc_i0 ?_
  exact jj_riS hG rfl rfl rfl k
noncomputable def M_run_s75 (t : moS) (p1 : Int32) (a3 : Int32) : Option ((Int32 × moS) ⊕ (Int32 × moS)) := Option.bind (rdI t 70 p1) (fun x1 => (if a3 < (((4 : Int32) * p1) + x1) then (Option.bind (M_requests t a3) (fun s4 => ((some (.inl ((a3 + (1 : Int32)), s4)))))) else ((xo (Option.bind (rdI t 40 p1) (fun x2 => (Option.bind (wrI t 43 p1 ((moS.S t 1) + x2)) (fun s3 => ((some ((1 : Int32), s3)))))))))))
noncomputable def M_run_b75 (t : moS) (p1 : Int32) (a3 : Int32) : Option (Int32 × moS) := lp (fun x => M_run_s75 x.2 p1 x.1) (a3, t)
noncomputable def M_run_b39 (t : moS) (p1 : Int32) (p2 : Int32) : Option (Int32 × moS) := Option.bind (wrI t 105 p1 (0 : Int32)) (fun s1 => (Option.bind (wrI s1 44 p1 ((-1) : Int32)) (fun s2 => (Option.bind (wrZ s2 39 p1 p2) (fun s3 => (if p2 = 0 then ((some ((1 : Int32), s3))) else (Option.bind (M_settle s3 p1) (fun s4 => ((M_run_b75 s4 p1 ((4 : Int32) * p1)))))))))))
noncomputable def M_run (t : moS) (p1 : Int32) (p2 : Int32) : Option (Int32 × moS) := letS (moSS t 0 (0 : Int32)) (fun s1 => (if p1 < 0 then ((some ((0 : Int32), s1))) else (if p1 < (moS.S s1 37) then (Option.bind (rdI s1 39 p1) (fun x2 => (if x2 = p2 then ((some ((0 : Int32), s1))) else (if p2 = 0 then (Option.bind (M_tellAll s1 p1 (2 : Int32)) (fun s3 => ((M_run_b39 s3 p1 p2)))) else ((M_run_b39 s1 p1 p2)))))) else ((some ((0 : Int32), s1))))))
set_option maxRecDepth 100000 in
set_option maxHeartbeats 4000000 in
theorem k_run (base : Nat) (sa : Nat → Nat) {C : Nat × Nat} {R : pmM} {m : Nat} {q : Nat → Nat} {t tz : moS} {kc ks : Nat} {Rt : pmR} {p1 : Int32} {p2 : Int32} {r : Int32} (hw : mW C R base m q t kc ks) (h : M_run t p1 p2 = (some (r, tz))) (k : mW C R base m q tz kc ks → Rt (some (.int r)) (moM R m q tz) kc ks) : kP_Mo_run base sa [.ref m, .int p1, .int p2] (moM R m q t) kc ks Rt := by
  refine ⟨Nat.le_of_ble_eq_true rfl, fun G hG => ?_⟩
  have b75 : ∀ (n : Nat) (a3 : Int32) (t : moS), JJ C R base m G 75 [(0, .ref m), (1, .int p1), (3, .int a3)] [] q t kc ks (lpN (fun x => M_run_s75 x.2 p1 x.1) n (a3, t)) (some (r, tz)) := by
    intro n
    induction n with
    | zero => intro a3 t; exact jj_lp0
    | succ n ih75 =>
      intro a3 t
      refine jj_lpS (fun y75 c75 => ?_)
      refine (show JJ C R base m G 75 [(0, .ref m), (1, .int p1), (3, .int a3)] [] q t kc ks (M_run_s75 t p1 a3) (some y75) from ?_)
      refine jjs hG rfl rfl ?_
      refine jj_ic hG rfl cc_i4 ?_
      refine jjs hG rfl rfl ?_
      refine jjs hG rfl rfl ?_
      refine jjs hG rfl rfl ?_
      refine jj_gr hG (k := 70) rfl rfl rfl rfl ?_
      refine jjs hG rfl rfl ?_
      refine jj_ia hG (k := 70) rfl rfl rfl (fun x1 => ?_)
      refine jjs hG rfl rfl ?_
      refine jj_ige hG (t := 100) rfl rfl ?_ ?_
      · refine jj_exit c75 ?_
        refine jjs hG rfl rfl ?_
        refine jj_gr hG (k := 43) rfl rfl rfl rfl ?_
        refine jjs hG rfl rfl ?_
        refine jjs hG rfl rfl ?_
        refine jj_gi hG (k := 1) rfl rfl rfl rfl ?_
        refine jjs hG rfl rfl ?_
        refine jj_gr hG (k := 40) rfl rfl rfl rfl ?_
        refine jjs hG rfl rfl ?_
        refine jj_ia hG (k := 40) rfl rfl rfl (fun x2 => ?_)
        refine jjs hG rfl rfl ?_
        refine jj_is hG (k := 43) rfl rfl rfl (fun s3 => ?_)
        refine jj_ic hG rfl cc_i1 ?_
        exact jj_riS hG rfl rfl rfl k
      refine jjs hG rfl rfl ?_
      refine jjs hG rfl rfl ?_
      refine jj_cv hG 0 rfl rfl (Nat.le_of_ble_eq_true rfl) (by decide) (Nat.le_of_ble_eq_true rfl) rfl (st' := []) rfl (fun _ _ hw h k => pm_rcv_of moM_m (k_requests base sa hw h k)) (fun s4 => ?_)
      refine jj_inc hG rfl (Nat.le_of_ble_eq_true rfl) rfl cc_i1 ?_
      refine jj_go hG (t := 75) rfl rfl ?_
      exact jj_back c75 (jj_wl hG [1, 2, 0] rfl (ih75 _ _))
  have b39 : ∀ (t : moS), JJ C R base m G 39 [(0, .ref m), (1, .int p1), (2, .int p2)] [] q t kc ks (M_run_b39 t p1 p2) (some (r, tz)) := by
    intro t
    refine jjs hG rfl rfl ?_
    refine jj_gr hG (k := 105) rfl rfl rfl rfl ?_
    refine jjs hG rfl rfl ?_
    refine jj_ic hG rfl cc_i0 ?_
    refine jj_is hG (k := 105) rfl rfl rfl (fun s1 => ?_)
    refine jjs hG rfl rfl ?_
    refine jj_gr hG (k := 44) rfl rfl rfl rfl ?_
    refine jjs hG rfl rfl ?_
    refine jj_ic hG rfl cc_im1 ?_
    refine jj_is hG (k := 44) rfl rfl rfl (fun s2 => ?_)
    refine jjs hG rfl rfl ?_
    refine jj_gr hG (k := 39) rfl rfl rfl rfl ?_
    refine jjs hG rfl rfl ?_
    refine jjs hG rfl rfl ?_
    refine jj_bs hG (k := 39) rfl rfl rfl (fun s3 => ?_)
    refine jjs hG rfl rfl ?_
    refine jj_zne hG (t := 66) rfl rfl ?_ ?_
    · refine jjs hG rfl rfl ?_
      refine jjs hG rfl rfl ?_
      refine jj_cv hG 0 rfl rfl (Nat.le_of_ble_eq_true rfl) (by decide) (Nat.le_of_ble_eq_true rfl) rfl (st' := []) rfl (fun _ _ hw h k => pm_rcv_of moM_m (k_settle base sa hw h k)) (fun s4 => ?_)
      refine jj_ic hG rfl cc_i4 ?_
      refine jjs hG rfl rfl ?_
      refine jjs hG rfl rfl ?_
      refine jjc hG rfl rfl (Nat.le_of_ble_eq_true rfl) ?_
      refine jj_lp (fun n => ?_)
      exact jj_wl hG [1, 2, 0] rfl (b75 n _ _)
    refine jj_ic hG rfl cc_i1 ?_
    exact jj_riS hG rfl rfl rfl k
  refine (show JJ C R base m G 0 [(0, .ref m), (1, .int p1), (2, .int p2)] [] q t kc ks (M_run t p1 p2) (some (r, tz)) from ?_) hw h
  refine jjs hG rfl rfl ?_
  refine jj_ic hG rfl cc_i0 ?_
  refine jj_pi hG (k := 0) rfl rfl rfl rfl (fun s1 => ?_)
  refine jjs hG rfl rfl ?_
  refine jj_zlt hG (t := 27) rfl rfl ?_ ?_
  · refine jj_ic hG rfl cc_i0 ?_
    exact jj_riS hG rfl rfl rfl k
  refine jjs hG rfl rfl ?_
  refine jjs hG rfl rfl ?_
  refine jj_gi hG (k := 37) rfl rfl rfl rfl ?_
  refine jj_ige hG (t := 27) rfl rfl ?_ ?_
  · refine jj_ic hG rfl cc_i0 ?_
    exact jj_riS hG rfl rfl rfl k
  refine jjs hG rfl rfl ?_
  refine jj_gr hG (k := 39) rfl rfl rfl rfl ?_
  refine jjs hG rfl rfl ?_
  refine jj_ba hG (k := 39) rfl rfl rfl (fun x2 => ?_)
  refine jjs hG rfl rfl ?_
  refine jj_ine hG (t := 29) rfl rfl ?_ ?_
  · refine jjs hG rfl rfl ?_
    refine jj_zne hG (t := 39) rfl rfl ?_ ?_
    · exact jj_wl hG [0, 1, 2] rfl (b39 _)
    refine jjs hG rfl rfl ?_
    refine jjs hG rfl rfl ?_
    refine jj_ic hG rfl cc_i2 ?_
    refine jj_cv hG 0 rfl rfl (Nat.le_of_ble_eq_true rfl) (by decide) (Nat.le_of_ble_eq_true rfl) rfl (st' := []) rfl (fun _ _ hw h k => pm_rcv_of moM_m (k_tellAll base sa hw h k)) (fun s3 => ?_)
    exact jj_wl hG [0, 1, 2] rfl (b39 _)
  refine jj_ic hG rfl cc_i0 ?_
  exact jj_riS hG rfl rfl rfl k
noncomputable def M_put_s121 (t : moS) (p1 : Int32) (p3 : Int32) (p4 : Int32) (a6 : Int32) (a7 : Int32) (a8 : Int32) : Option ((Int32 × moS) ⊕ (Int32 × moS)) := if a8 < (moS.S t 148) then (Option.bind (rdI t 2 (a7 + a8)) (fun x4 => (Option.bind (wrI t 147 a8 x4) (fun s5 => ((some (.inl ((a8 + (1 : Int32)), s5)))))))) else ((xo (Option.bind (M_highOf t 2 (0 : Int32) a6) (fun x1 => (Option.bind (M_lowOf t 2 (0 : Int32) a6) (fun x2 => (Option.bind (M_go t p1 ((-1) : Int32) (1 : Int32) (0 : Int64) (0 : Int64) a6 x1 x2 p3 p4 (0 : Int32)) (fun s3 => ((some ((1 : Int32), s3)))))))))))
noncomputable def M_put_b121 (t : moS) (p1 : Int32) (p3 : Int32) (p4 : Int32) (a6 : Int32) (a7 : Int32) (a8 : Int32) : Option (Int32 × moS) := lp (fun x => M_put_s121 x.2 p1 p3 p4 a6 a7 x.1) (a8, t)
noncomputable def M_put_b73 (t : moS) (p1 : Int32) (p3 : Int32) (p4 : Int32) (a5 : Int32) (a6 : Int32) (u0 : Int32) : Option (Int32 × moS) := if a5 < u0 then ((some ((0 : Int32), t))) else (if (564 : Int32) < (a5 - u0) then ((some ((0 : Int32), t))) else (Option.bind (rdI t 21 p1) (fun x1 => (if x1 < (a5 - u0) then ((some ((0 : Int32), t))) else (letS (moSS t 148 (a5 - u0)) (fun s2 => ((M_put_b121 s2 p1 p3 p4 a6 u0 (0 : Int32)))))))))
noncomputable def M_put_b60 (t : moS) (p1 : Int32) (p3 : Int32) (p4 : Int32) (a5 : Int32) (u0 : Int32) : Option (Int32 × moS) := if u0 = 0 then ((M_put_b73 t p1 p3 p4 a5 u0 (4 : Int32))) else ((M_put_b73 t p1 p3 p4 a5 u0 (16 : Int32)))
noncomputable def M_put_b27 (t : moS) (p1 : Int32) (p2 : Int32) (p3 : Int32) (p4 : Int32) (a5 : Int32) : Option (Int32 × moS) := if p1 < 0 then ((some ((0 : Int32), t))) else (if p1 < (moS.S t 17) then (Option.bind (rdI t 22 p1) (fun x1 => (if x1 = 0 then ((some ((0 : Int32), t))) else (if p2 = (4 : Int32) then ((M_put_b60 t p1 p3 p4 a5 (0 : Int32))) else ((M_put_b60 t p1 p3 p4 a5 (1 : Int32))))))) else ((some ((0 : Int32), t))))
noncomputable def M_put (t : moS) (p1 : Int32) (p2 : Int32) (p3 : Int32) (p4 : Int32) : Option (Int32 × moS) := letS (moSS t 0 (0 : Int32)) (fun s1 => (letS (moSS s1 3 (0 : Int32)) (fun s2 => (if p2 = (4 : Int32) then ((M_put_b27 s2 p1 p2 p3 p4 (moS.S s1 3))) else (if p2 = (6 : Int32) then ((M_put_b27 s2 p1 p2 p3 p4 (moS.S s1 3))) else ((some ((0 : Int32), s2))))))))
set_option maxRecDepth 100000 in
set_option maxHeartbeats 4000000 in
theorem k_put (base : Nat) (sa : Nat → Nat) {C : Nat × Nat} {R : pmM} {m : Nat} {q : Nat → Nat} {t tz : moS} {kc ks : Nat} {Rt : pmR} {p1 : Int32} {p2 : Int32} {p3 : Int32} {p4 : Int32} {r : Int32} (hw : mW C R base m q t kc ks) (h : M_put t p1 p2 p3 p4 = (some (r, tz))) (k : mW C R base m q tz kc ks → Rt (some (.int r)) (moM R m q tz) kc ks) : kP_Mo_put base sa [.ref m, .int p1, .int p2, .int p3, .int p4] (moM R m q t) kc ks Rt := by
  refine ⟨Nat.le_of_ble_eq_true rfl, fun G hG => ?_⟩
  have b121 : ∀ (a6 : Int32) (a7 : Int32) (n : Nat) (a8 : Int32) (t : moS), JJ C R base m G 121 [(0, .ref m), (1, .int p1), (3, .int p3), (4, .int p4), (6, .int a6), (7, .int a7), (8, .int a8)] [] q t kc ks (lpN (fun x => M_put_s121 x.2 p1 p3 p4 a6 a7 x.1) n (a8, t)) (some (r, tz)) := by
    intro a6 a7 n
    induction n with
    | zero => intro a8 t; exact jj_lp0
    | succ n ih121 =>
      intro a8 t
      refine jj_lpS (fun y121 c121 => ?_)
      refine (show JJ C R base m G 121 [(0, .ref m), (1, .int p1), (3, .int p3), (4, .int p4), (6, .int a6), (7, .int a7), (8, .int a8)] [] q t kc ks (M_put_s121 t p1 p3 p4 a6 a7 a8) (some y121) from ?_)
      refine jjs hG rfl rfl ?_
      refine jjs hG rfl rfl ?_
      refine jj_gi hG (k := 148) rfl rfl rfl rfl ?_
      refine jj_ige hG (t := 153) rfl rfl ?_ ?_
      · refine jj_exit c121 ?_
        refine jjs hG rfl rfl ?_
        refine jjs hG rfl rfl ?_
        refine jj_ic hG rfl cc_im1 ?_
        refine jj_ic hG rfl cc_i1 ?_
        refine jj_lc hG (c := 0) (v := 0) rfl rfl ?_
        refine jj_lc hG (c := 0) (v := 0) rfl rfl ?_
        refine jjs hG rfl rfl ?_
        refine jjs hG rfl rfl ?_
        refine jj_gr hG (k := 2) rfl rfl rfl rfl ?_
        refine jj_ic hG rfl cc_i0 ?_
        refine jjs hG rfl rfl ?_
        refine jj_cp2 hG rfl rfl (Nat.le_of_ble_eq_true rfl) (Nat.le_of_ble_eq_true rfl) rfl (st' := [.int a6, .long (0 : Int64), .long (0 : Int64), .int (1 : Int32), .int ((-1) : Int32), .int p1, .ref m]) rfl (w := .long) (fun _ _ hw h k => k_highOf base sa rfl rfl hw h k) (fun x1 => ?_)
        refine jjs hG rfl rfl ?_
        refine jj_gr hG (k := 2) rfl rfl rfl rfl ?_
        refine jj_ic hG rfl cc_i0 ?_
        refine jjs hG rfl rfl ?_
        refine jj_cp2 hG rfl rfl (Nat.le_of_ble_eq_true rfl) (Nat.le_of_ble_eq_true rfl) rfl (st' := [.long x1, .int a6, .long (0 : Int64), .long (0 : Int64), .int (1 : Int32), .int ((-1) : Int32), .int p1, .ref m]) rfl (w := .long) (fun _ _ hw h k => k_lowOf base sa rfl rfl hw h k) (fun x2 => ?_)
        refine jjs hG rfl rfl ?_
        refine jjs hG rfl rfl ?_
        refine jj_ic hG rfl cc_i0 ?_
        refine jj_cv hG 0 rfl rfl (Nat.le_of_ble_eq_true rfl) (by decide) (Nat.le_of_ble_eq_true rfl) rfl (st' := []) rfl (fun _ _ hw h k => pm_rcv_of moM_m (k_go base sa hw h k)) (fun s3 => ?_)
        refine jj_ic hG rfl cc_i1 ?_
        exact jj_riS hG rfl rfl rfl k
      refine jjs hG rfl rfl ?_
      refine jj_gr hG (k := 147) rfl rfl rfl rfl ?_
      refine jjs hG rfl rfl ?_
      refine jjs hG rfl rfl ?_
      refine jj_gr hG (k := 2) rfl rfl rfl rfl ?_
      refine jjs hG rfl rfl ?_
      refine jjs hG rfl rfl ?_
      refine jjs hG rfl rfl ?_
      refine jj_ia hG (k := 2) rfl rfl rfl (fun x4 => ?_)
      refine jj_is hG (k := 147) rfl rfl rfl (fun s5 => ?_)
      refine jj_inc hG rfl (Nat.le_of_ble_eq_true rfl) rfl cc_i1 ?_
      refine jj_go hG (t := 121) rfl rfl ?_
      exact jj_back c121 (jj_wl hG [1, 2, 3, 4, 5, 6, 0] rfl (ih121 _ _))
  have b73 : ∀ (a5 : Int32) (a6 : Int32) (u0 : Int32) (t : moS), JJ C R base m G 73 [(0, .ref m), (1, .int p1), (3, .int p3), (4, .int p4), (5, .int a5), (6, .int a6)] [.int u0] q t kc ks (M_put_b73 t p1 p3 p4 a5 a6 u0) (some (r, tz)) := by
    intro a5 a6 u0 t
    refine jjc hG rfl rfl (Nat.le_of_ble_eq_true rfl) ?_
    refine jjs hG rfl rfl ?_
    refine jjs hG rfl rfl ?_
    refine jj_ilt hG (t := 107) rfl rfl ?_ ?_
    · refine jj_ic hG rfl cc_i0 ?_
      exact jj_riS hG rfl rfl rfl k
    refine jjs hG rfl rfl ?_
    refine jjs hG rfl rfl ?_
    refine jjs hG rfl rfl ?_
    refine jj_si hG rfl cc_s564 ?_
    refine jj_igt hG (t := 107) rfl rfl ?_ ?_
    · refine jj_ic hG rfl cc_i0 ?_
      exact jj_riS hG rfl rfl rfl k
    refine jjs hG rfl rfl ?_
    refine jjs hG rfl rfl ?_
    refine jjs hG rfl rfl ?_
    refine jjs hG rfl rfl ?_
    refine jj_gr hG (k := 21) rfl rfl rfl rfl ?_
    refine jjs hG rfl rfl ?_
    refine jj_ia hG (k := 21) rfl rfl rfl (fun x1 => ?_)
    refine jj_ile hG (t := 109) rfl rfl ?_ ?_
    · refine jjs hG rfl rfl ?_
      refine jjs hG rfl rfl ?_
      refine jjs hG rfl rfl ?_
      refine jjs hG rfl rfl ?_
      refine jj_pi hG (k := 148) rfl rfl rfl rfl (fun s2 => ?_)
      refine jj_ic hG rfl cc_i0 ?_
      refine jjc hG rfl rfl (Nat.le_of_ble_eq_true rfl) ?_
      refine jj_lp (fun n => ?_)
      exact jj_wl hG [2, 3, 4, 5, 7, 1, 0] rfl (b121 _ _ n _ _)
    refine jj_ic hG rfl cc_i0 ?_
    exact jj_riS hG rfl rfl rfl k
  have b60 : ∀ (a5 : Int32) (u0 : Int32) (t : moS), JJ C R base m G 60 [(0, .ref m), (1, .int p1), (3, .int p3), (4, .int p4), (5, .int a5)] [.int u0] q t kc ks (M_put_b60 t p1 p3 p4 a5 u0) (some (r, tz)) := by
    intro a5 u0 t
    refine jjc hG rfl rfl (Nat.le_of_ble_eq_true rfl) ?_
    refine jjs hG rfl rfl ?_
    refine jj_zne hG (t := 71) rfl rfl ?_ ?_
    · refine jj_bi hG rfl cc_b16 ?_
      exact jj_wl hG [1, 2, 3, 4, 5, 0] rfl (b73 _ _ _ _)
    refine jj_ic hG rfl cc_i4 ?_
    refine jj_go hG (t := 73) rfl rfl ?_
    exact jj_wl hG [1, 2, 3, 4, 5, 0] rfl (b73 _ _ _ _)
  have b27 : ∀ (a5 : Int32) (t : moS), JJ C R base m G 27 [(0, .ref m), (1, .int p1), (2, .int p2), (3, .int p3), (4, .int p4), (5, .int a5)] [] q t kc ks (M_put_b27 t p1 p2 p3 p4 a5) (some (r, tz)) := by
    intro a5 t
    refine jjs hG rfl rfl ?_
    refine jj_zlt hG (t := 48) rfl rfl ?_ ?_
    · refine jj_ic hG rfl cc_i0 ?_
      exact jj_riS hG rfl rfl rfl k
    refine jjs hG rfl rfl ?_
    refine jjs hG rfl rfl ?_
    refine jj_gi hG (k := 17) rfl rfl rfl rfl ?_
    refine jj_ige hG (t := 48) rfl rfl ?_ ?_
    · refine jj_ic hG rfl cc_i0 ?_
      exact jj_riS hG rfl rfl rfl k
    refine jjs hG rfl rfl ?_
    refine jj_gr hG (k := 22) rfl rfl rfl rfl ?_
    refine jjs hG rfl rfl ?_
    refine jj_ba hG (k := 22) rfl rfl rfl (fun x1 => ?_)
    refine jj_zne hG (t := 50) rfl rfl ?_ ?_
    · refine jjs hG rfl rfl ?_
      refine jj_ic hG rfl cc_i4 ?_
      refine jj_ine hG (t := 59) rfl rfl ?_ ?_
      · refine jj_ic hG rfl cc_i1 ?_
        exact jj_wl hG [0, 1, 3, 4, 5] rfl (b60 _ _ _)
      refine jj_ic hG rfl cc_i0 ?_
      refine jj_go hG (t := 60) rfl rfl ?_
      exact jj_wl hG [0, 1, 3, 4, 5] rfl (b60 _ _ _)
    refine jj_ic hG rfl cc_i0 ?_
    exact jj_riS hG rfl rfl rfl k
  refine (show JJ C R base m G 0 [(0, .ref m), (1, .int p1), (2, .int p2), (3, .int p3), (4, .int p4)] [] q t kc ks (M_put t p1 p2 p3 p4) (some (r, tz)) from ?_) hw h
  refine jjs hG rfl rfl ?_
  refine jj_ic hG rfl cc_i0 ?_
  refine jj_pi hG (k := 0) rfl rfl rfl rfl (fun s1 => ?_)
  refine jjs hG rfl rfl ?_
  refine jj_gi hG (k := 3) rfl rfl rfl rfl ?_
  refine jjc hG rfl rfl (Nat.le_of_ble_eq_true rfl) ?_
  refine jjs hG rfl rfl ?_
  refine jj_ic hG rfl cc_i0 ?_
  refine jj_pi hG (k := 3) rfl rfl rfl rfl (fun s2 => ?_)
  refine jjs hG rfl rfl ?_
  refine jj_ic hG rfl cc_i4 ?_
  refine jj_ieq hG (t := 27) rfl rfl ?_ ?_
  · exact jj_wl hG [1, 2, 3, 4, 5, 0] rfl (b27 _ _)
  refine jjs hG rfl rfl ?_
  refine jj_bi hG rfl cc_b6 ?_
  refine jj_ine hG (t := 48) rfl rfl ?_ ?_
  · refine jj_ic hG rfl cc_i0 ?_
    exact jj_riS hG rfl rfl rfl k
  exact jj_wl hG [1, 2, 3, 4, 5, 0] rfl (b27 _ _)
