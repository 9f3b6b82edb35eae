/-! The model as functions, by program: isDue .. isBehind -/
noncomputable def M_isDue_b85 (t : moS) (p1 : Int32) (p2 : Int32) (p3 : Int64) (p5 : Int64) (p7 : Int32) (a8 : Int32) : Option ((Int32 × moS) ⊕ (Int32 × moS)) := (some (.inl ((a8 + (1 : Int32)), t)))
noncomputable def M_isDue_s10 (t : moS) (p1 : Int32) (p2 : Int32) (p3 : Int64) (p5 : Int64) (p7 : Int32) (a8 : Int32) : Option ((Int32 × moS) ⊕ (Int32 × moS)) := Option.bind (rdI t 70 p1) (fun x1 => (if a8 < (((4 : Int32) * p1) + x1) then (Option.bind (rdI t 71 a8) (fun x9 => (Option.bind (rdI t 22 x9) (fun x10 => (if x10 = 0 then ((M_isDue_b85 t p1 p2 p3 p5 p7 a8)) else (Option.bind (M_isNetwork t (((2 : Int32) * a8) + p2) p3 p5 p7) (fun x11 => (if x11 = 0 then ((M_isDue_b85 t p1 p2 p3 p5 p7 a8)) else ((xo (letS (moSS t 153 (0 : Int32)) (fun s12 => (Option.bind (rdI s12 72 a8) (fun x13 => (letS (moSS s12 154 x13) (fun s14 => (letS (moSS s14 155 a8) (fun s15 => ((some ((1 : Int32), s15))))))))))))))))))))) else ((xo (Option.bind (M_staticOf t p1 p2 p3 p5 p7) (fun x2 => (if x2 = ((-1) : Int32) then ((some ((0 : Int32), t))) else (letS (moSS t 153 (1 : Int32)) (fun s3 => (Option.bind (rdI s3 51 x2) (fun x4 => (letS (moSS s3 154 x4) (fun s5 => (letS (moSS s5 155 ((-1) : Int32)) (fun s6 => (Option.bind (rdI s6 52 x2) (fun x7 => (letS (moSS s6 156 x7) (fun s8 => ((some ((1 : Int32), s8))))))))))))))))))))))
noncomputable def M_isDue_b10 (t : moS) (p1 : Int32) (p2 : Int32) (p3 : Int64) (p5 : Int64) (p7 : Int32) (a8 : Int32) : Option (Int32 × moS) := lp (fun x => M_isDue_s10 x.2 p1 p2 p3 p5 p7 x.1) (a8, t)
noncomputable def M_isDue (t : moS) (p1 : Int32) (p2 : Int32) (p3 : Int64) (p5 : Int64) (p7 : Int32) : Option (Int32 × moS) := letS (moSS t 156 (0 : Int32)) (fun s1 => ((M_isDue_b10 s1 p1 p2 p3 p5 p7 ((4 : Int32) * p1))))
set_option maxRecDepth 100000 in
set_option maxHeartbeats 4000000 in
theorem k_isDue (base : Nat) (sa : Nat → Nat) {C : Nat × Nat} {R : pmM} {m : Nat} {q : Nat → Nat} {t tz : moS} {kc ks : Nat} {Rt : pmR} {p1 : Int32} {p2 : Int32} {p3 : Int64} {p5 : Int64} {p7 : Int32} {r : Int32} (hw : mW C R base m q t kc ks) (h : M_isDue t p1 p2 p3 p5 p7 = (some (r, tz))) (k : mW C R base m q tz kc ks → Rt (some (.int r)) (moM R m q tz) kc ks) : kP_Mo_isDue base sa [.ref m, .int p1, .int p2, .long p3, .long p5, .int p7] (moM R m q t) kc ks Rt := by
  refine ⟨Nat.le_of_ble_eq_true rfl, fun G hG => ?_⟩
  have b10 : ∀ (n : Nat) (a8 : Int32) (t : moS), JJ C R base m G 10 [(0, .ref m), (1, .int p1), (2, .int p2), (3, .long p3), (5, .long p5), (7, .int p7), (8, .int a8)] [] q t kc ks (lpN (fun x => M_isDue_s10 x.2 p1 p2 p3 p5 p7 x.1) n (a8, t)) (some (r, tz)) := by
    intro n
    induction n with
    | zero => intro a8 t; exact jj_lp0
    | succ n ih10 =>
      intro a8 t
      refine jj_lpS (fun y10 c10 => ?_)
      have b85 : ∀ (a8 : Int32) (t : moS), JJ C R base m G 85 [(0, .ref m), (1, .int p1), (2, .int p2), (3, .long p3), (5, .long p5), (7, .int p7), (8, .int a8)] [] q t kc ks (M_isDue_b85 t p1 p2 p3 p5 p7 a8) (some y10) := by
        intro a8 t
        refine jj_inc hG rfl (Nat.le_of_ble_eq_true rfl) rfl cc_i1 ?_
        refine jj_go hG (t := 10) rfl rfl ?_
        exact jj_back c10 (jj_wl hG [1, 2, 3, 4, 5, 6, 0] rfl (ih10 _ _))
      refine (show JJ C R base m G 10 [(0, .ref m), (1, .int p1), (2, .int p2), (3, .long p3), (5, .long p5), (7, .int p7), (8, .int a8)] [] q t kc ks (M_isDue_s10 t p1 p2 p3 p5 p7 a8) (some y10) from ?_)
      refine jjs hG rfl rfl ?_
      refine jj_ic hG rfl cc_i4 ?_
      refine jjs hG rfl rfl ?_
      refine jjs hG rfl rfl ?_
      refine jjs hG rfl rfl ?_
      refine jj_gr hG (k := 70) rfl rfl rfl rfl ?_
      refine jjs hG rfl rfl ?_
      refine jj_ia hG (k := 70) rfl rfl rfl (fun x1 => ?_)
      refine jjs hG rfl rfl ?_
      refine jj_ige hG (t := 91) rfl rfl ?_ ?_
      · refine jj_exit c10 ?_
        refine jjs hG rfl rfl ?_
        refine jjs hG rfl rfl ?_
        refine jjs hG rfl rfl ?_
        refine jjs hG rfl rfl ?_
        refine jjs hG rfl rfl ?_
        refine jjs hG rfl rfl ?_
        refine jj_cp hG 0 rfl rfl (Nat.le_of_ble_eq_true rfl) (by decide) (Nat.le_of_ble_eq_true rfl) rfl (st' := []) rfl (w := .int) (fun _ _ hw h k => pm_rcv_of moM_m (k_staticOf base sa hw h k)) (fun x2 => ?_)
        refine jjc hG rfl rfl (Nat.le_of_ble_eq_true rfl) ?_
        refine jjs hG rfl rfl ?_
        refine jj_ic hG rfl cc_im1 ?_
        refine jj_ine hG (t := 112) rfl rfl ?_ ?_
        · refine jjs hG rfl rfl ?_
          refine jj_ic hG rfl cc_i1 ?_
          refine jj_pi hG (k := 153) rfl rfl rfl rfl (fun s3 => ?_)
          refine jjs hG rfl rfl ?_
          refine jjs hG rfl rfl ?_
          refine jj_gr hG (k := 51) rfl rfl rfl rfl ?_
          refine jjs hG rfl rfl ?_
          refine jj_ia hG (k := 51) rfl rfl rfl (fun x4 => ?_)
          refine jj_pi hG (k := 154) rfl rfl rfl rfl (fun s5 => ?_)
          refine jjs hG rfl rfl ?_
          refine jj_ic hG rfl cc_im1 ?_
          refine jj_pi hG (k := 155) rfl rfl rfl rfl (fun s6 => ?_)
          refine jjs hG rfl rfl ?_
          refine jjs hG rfl rfl ?_
          refine jj_gr hG (k := 52) rfl rfl rfl rfl ?_
          refine jjs hG rfl rfl ?_
          refine jj_ia hG (k := 52) rfl rfl rfl (fun x7 => ?_)
          refine jj_pi hG (k := 156) rfl rfl rfl rfl (fun s8 => ?_)
          refine jj_ic hG rfl cc_i1 ?_
          exact jj_riS hG rfl rfl rfl k
        refine jj_ic hG rfl cc_i0 ?_
        exact jj_riS hG rfl rfl rfl k
      refine jjs hG rfl rfl ?_
      refine jj_gr hG (k := 22) rfl rfl rfl rfl ?_
      refine jjs hG rfl rfl ?_
      refine jj_gr hG (k := 71) rfl rfl rfl rfl ?_
      refine jjs hG rfl rfl ?_
      refine jj_ia hG (k := 71) rfl rfl rfl (fun x9 => ?_)
      refine jj_ba hG (k := 22) rfl rfl rfl (fun x10 => ?_)
      refine jj_zeq hG (t := 85) rfl rfl ?_ ?_
      · exact jj_wl hG [0, 1, 2, 3, 4, 5, 6] rfl (b85 _ _)
      refine jjs hG rfl rfl ?_
      refine jj_ic hG rfl cc_i2 ?_
      refine jjs hG rfl rfl ?_
      refine jjs hG rfl rfl ?_
      refine jjs hG rfl rfl ?_
      refine jjs hG rfl rfl ?_
      refine jjs hG rfl rfl ?_
      refine jjs hG rfl rfl ?_
      refine jjs hG rfl rfl ?_
      refine jj_cp hG 0 rfl rfl (Nat.le_of_ble_eq_true rfl) (by decide) (Nat.le_of_ble_eq_true rfl) rfl (st' := []) rfl (w := .int) (fun _ _ hw h k => pm_rcv_of moM_m (k_isNetwork base sa hw h k)) (fun x11 => ?_)
      refine jj_zne hG (t := 61) rfl rfl ?_ ?_
      · refine jj_exit c10 ?_
        refine jjs hG rfl rfl ?_
        refine jj_ic hG rfl cc_i0 ?_
        refine jj_pi hG (k := 153) rfl rfl rfl rfl (fun s12 => ?_)
        refine jjs hG rfl rfl ?_
        refine jjs hG rfl rfl ?_
        refine jj_gr hG (k := 72) rfl rfl rfl rfl ?_
        refine jjs hG rfl rfl ?_
        refine jj_ia hG (k := 72) rfl rfl rfl (fun x13 => ?_)
        refine jj_pi hG (k := 154) rfl rfl rfl rfl (fun s14 => ?_)
        refine jjs hG rfl rfl ?_
        refine jjs hG rfl rfl ?_
        refine jj_pi hG (k := 155) rfl rfl rfl rfl (fun s15 => ?_)
        refine jj_ic hG rfl cc_i1 ?_
        exact jj_riS hG rfl rfl rfl k
      refine jj_go hG (t := 85) rfl rfl ?_
      exact jj_wl hG [0, 1, 2, 3, 4, 5, 6] rfl (b85 _ _)
  refine (show JJ C R base m G 0 [(0, .ref m), (1, .int p1), (2, .int p2), (3, .long p3), (5, .long p5), (7, .int p7)] [] q t kc ks (M_isDue t p1 p2 p3 p5 p7) (some (r, tz)) from ?_) hw h
  refine jjs hG rfl rfl ?_
  refine jj_ic hG rfl cc_i0 ?_
  refine jj_pi hG (k := 156) rfl rfl rfl rfl (fun s1 => ?_)
  refine jj_ic hG rfl cc_i4 ?_
  refine jjs hG rfl rfl ?_
  refine jjs hG rfl rfl ?_
  refine jjc hG rfl rfl (Nat.le_of_ble_eq_true rfl) ?_
  refine jj_lp (fun n => ?_)
  exact jj_wl hG [1, 2, 3, 4, 5, 6, 0] rfl (b10 n _ _)
noncomputable def M_markChanged (t : moS) (p1 : Int32) (p2 : Int32) : Option moS := Option.bind (wrZ t 119 p2 (1 : Int32)) (fun s1 => (Option.bind (rdI s1 45 (((11 : Int32) * p1) + (7 : Int32))) (fun x2 => (Option.bind (wrI s1 45 (((11 : Int32) * p1) + (7 : Int32)) (x2 + (1 : Int32))) (fun s3 => (Option.bind (rdI s3 44 p1) (fun x4 => (if x4 = ((-1) : Int32) then (Option.bind (rdI s3 45 (((11 : Int32) * p1) + (6 : Int32))) (fun x5 => (Option.bind (wrI s3 44 p1 (((moS.S s3 1) + (1 : Int32)) + (rem_I (p1 + x5) (5 : Int32)))) (fun s6 => ((some s6)))))) else ((some s3))))))))))
set_option maxRecDepth 100000 in
set_option maxHeartbeats 4000000 in
theorem k_markChanged (base : Nat) (sa : Nat → Nat) {C : Nat × Nat} {R : pmM} {m : Nat} {q : Nat → Nat} {t tz : moS} {kc ks : Nat} {Rt : pmR} {p1 : Int32} {p2 : Int32} (hw : mW C R base m q t kc ks) (h : M_markChanged t p1 p2 = (some tz)) (k : mW C R base m q tz kc ks → Rt none (moM R m q tz) kc ks) : kP_Mo_markChanged base sa [.ref m, .int p1, .int p2] (moM R m q t) kc ks Rt := by
  refine ⟨Nat.le_of_ble_eq_true rfl, fun G hG => ?_⟩
  refine (show JJ C R base m G 0 [(0, .ref m), (1, .int p1), (2, .int p2)] [] q t kc ks (M_markChanged t p1 p2) (some tz) from ?_) hw h
  refine jjs hG rfl rfl ?_
  refine jj_gr hG (k := 119) rfl rfl rfl rfl ?_
  refine jjs hG rfl rfl ?_
  refine jj_ic hG rfl cc_i1 ?_
  refine jj_bs hG (k := 119) rfl rfl rfl (fun s1 => ?_)
  refine jjs hG rfl rfl ?_
  refine jj_gr hG (k := 45) rfl rfl rfl rfl ?_
  refine jj_bi hG rfl cc_b11 ?_
  refine jjs hG rfl rfl ?_
  refine jjs hG rfl rfl ?_
  refine jj_bi hG rfl cc_b7 ?_
  refine jjs hG rfl rfl ?_
  refine jjc2 hG rfl rfl rfl rfl ?_
  refine jj_ia hG (k := 45) rfl rfl rfl (fun x2 => ?_)
  refine jj_ic hG rfl cc_i1 ?_
  refine jjs hG rfl rfl ?_
  refine jj_is hG (k := 45) rfl rfl rfl (fun s3 => ?_)
  refine jjs hG rfl rfl ?_
  refine jj_gr hG (k := 44) rfl rfl rfl rfl ?_
  refine jjs hG rfl rfl ?_
  refine jj_ia hG (k := 44) rfl rfl rfl (fun x4 => ?_)
  refine jj_ic hG rfl cc_im1 ?_
  refine jj_ine hG (t := 62) rfl rfl ?_ ?_
  · exact jj_rvS hG rfl rfl (k)
  refine jjs hG rfl rfl ?_
  refine jj_gr hG (k := 44) rfl rfl rfl rfl ?_
  refine jjs hG rfl rfl ?_
  refine jjs hG rfl rfl ?_
  refine jj_gi hG (k := 1) rfl rfl rfl rfl ?_
  refine jj_ic hG rfl cc_i1 ?_
  refine jjs hG rfl rfl ?_
  refine jjs hG rfl rfl ?_
  refine jjs hG rfl rfl ?_
  refine jj_gr hG (k := 45) rfl rfl rfl rfl ?_
  refine jj_bi hG rfl cc_b11 ?_
  refine jjs hG rfl rfl ?_
  refine jj_at (pc' := 52) rfl ?_
  refine jjs hG rfl rfl ?_
  refine jj_bi hG rfl cc_b6 ?_
  refine jjs hG rfl rfl ?_
  refine jj_ia hG (k := 45) rfl rfl rfl (fun x5 => ?_)
  refine jjs hG rfl rfl ?_
  refine jj_ic hG rfl cc_i5 ?_
  refine jjc hG rfl rfl (by decide) ?_
  refine jjs hG rfl rfl ?_
  refine jj_is hG (k := 44) rfl rfl rfl (fun s6 => ?_)
  exact jj_rvS hG rfl rfl (k)
noncomputable def M_become_b74 (t : moS) (p1 : Int32) (p2 : Int32) (u0 : Int32) : Option moS := Option.bind (wrI t 110 p2 (moS.S t 153)) (fun s1 => (Option.bind (wrI s1 111 p2 (moS.S s1 154)) (fun s2 => (Option.bind (wrI s2 113 p2 (moS.S s2 155)) (fun s3 => (Option.bind (wrI s3 112 p2 (moS.S s3 156)) (fun s4 => (Option.bind (wrJ s4 114 p2 (0 : Int64)) (fun s5 => (Option.bind (wrJ s5 115 p2 (0 : Int64)) (fun s6 => (Option.bind (wrI s6 116 p2 ((-1) : Int32)) (fun s7 => (Option.bind (wrI s7 122 p2 ((-1) : Int32)) (fun s8 => (if u0 = 0 then ((some s8)) else (Option.bind (M_markChanged s8 p1 p2) (fun s9 => ((some s9))))))))))))))))))))
noncomputable def M_become_b69 (t : moS) (p1 : Int32) (p2 : Int32) : Option moS := (M_become_b74 t p1 p2 (1 : Int32))
noncomputable def M_become_b73 (t : moS) (p1 : Int32) (p2 : Int32) : Option moS := (M_become_b74 t p1 p2 (0 : Int32))
noncomputable def M_become (t : moS) (p1 : Int32) (p2 : Int32) : Option moS := Option.bind (rdI t 111 p2) (fun x1 => (if x1 = (moS.S t 154) then (Option.bind (rdI t 113 p2) (fun x2 => (if x2 = (moS.S t 155) then (Option.bind (rdJ t 114 p2) (fun x3 => (if x3 = (0 : Int64) then (Option.bind (rdJ t 115 p2) (fun x4 => (if x4 = (0 : Int64) then (if (moS.S t 153) = (1 : Int32) then (Option.bind (rdI t 112 p2) (fun x5 => (if x5 = (moS.S t 156) then ((M_become_b73 t p1 p2)) else ((M_become_b69 t p1 p2))))) else ((M_become_b73 t p1 p2))) else ((M_become_b69 t p1 p2))))) else ((M_become_b69 t p1 p2))))) else ((M_become_b69 t p1 p2))))) else ((M_become_b69 t p1 p2))))
set_option maxRecDepth 100000 in
set_option maxHeartbeats 4000000 in
theorem k_become (base : Nat) (sa : Nat → Nat) {C : Nat × Nat} {R : pmM} {m : Nat} {q : Nat → Nat} {t tz : moS} {kc ks : Nat} {Rt : pmR} {p1 : Int32} {p2 : Int32} (hw : mW C R base m q t kc ks) (h : M_become t p1 p2 = (some tz)) (k : mW C R base m q tz kc ks → Rt none (moM R m q tz) kc ks) : kP_Mo_become base sa [.ref m, .int p1, .int p2] (moM R m q t) kc ks Rt := by
  refine ⟨Nat.le_of_ble_eq_true rfl, fun G hG => ?_⟩
  have b74 : ∀ (u0 : Int32) (t : moS), JJ C R base m G 74 [(0, .ref m), (1, .int p1), (2, .int p2)] [.int u0] q t kc ks (M_become_b74 t p1 p2 u0) (some tz) := by
    intro u0 t
    refine jjc hG rfl rfl (Nat.le_of_ble_eq_true rfl) ?_
    refine jjs hG rfl rfl ?_
    refine jj_gr hG (k := 110) rfl rfl rfl rfl ?_
    refine jjs hG rfl rfl ?_
    refine jjs hG rfl rfl ?_
    refine jj_gi hG (k := 153) rfl rfl rfl rfl ?_
    refine jj_is hG (k := 110) rfl rfl rfl (fun s1 => ?_)
    refine jjs hG rfl rfl ?_
    refine jj_gr hG (k := 111) rfl rfl rfl rfl ?_
    refine jjs hG rfl rfl ?_
    refine jjs hG rfl rfl ?_
    refine jj_gi hG (k := 154) rfl rfl rfl rfl ?_
    refine jj_is hG (k := 111) rfl rfl rfl (fun s2 => ?_)
    refine jjs hG rfl rfl ?_
    refine jj_gr hG (k := 113) rfl rfl rfl rfl ?_
    refine jjs hG rfl rfl ?_
    refine jjs hG rfl rfl ?_
    refine jj_gi hG (k := 155) rfl rfl rfl rfl ?_
    refine jj_is hG (k := 113) rfl rfl rfl (fun s3 => ?_)
    refine jjs hG rfl rfl ?_
    refine jj_gr hG (k := 112) rfl rfl rfl rfl ?_
    refine jjs hG rfl rfl ?_
    refine jjs hG rfl rfl ?_
    refine jj_gi hG (k := 156) rfl rfl rfl rfl ?_
    refine jj_is hG (k := 112) rfl rfl rfl (fun s4 => ?_)
    refine jjs hG rfl rfl ?_
    refine jj_gr hG (k := 114) rfl rfl rfl rfl ?_
    refine jjs hG rfl rfl ?_
    refine jj_lc hG (c := 0) (v := 0) rfl rfl ?_
    refine jj_ls hG (k := 114) rfl rfl rfl (fun s5 => ?_)
    refine jjs hG rfl rfl ?_
    refine jj_gr hG (k := 115) rfl rfl rfl rfl ?_
    refine jjs hG rfl rfl ?_
    refine jj_lc hG (c := 0) (v := 0) rfl rfl ?_
    refine jj_ls hG (k := 115) rfl rfl rfl (fun s6 => ?_)
    refine jjs hG rfl rfl ?_
    refine jj_gr hG (k := 116) rfl rfl rfl rfl ?_
    refine jjs hG rfl rfl ?_
    refine jj_ic hG rfl cc_im1 ?_
    refine jj_is hG (k := 116) rfl rfl rfl (fun s7 => ?_)
    refine jjs hG rfl rfl ?_
    refine jj_gr hG (k := 122) rfl rfl rfl rfl ?_
    refine jjs hG rfl rfl ?_
    refine jj_ic hG rfl cc_im1 ?_
    refine jj_is hG (k := 122) rfl rfl rfl (fun s8 => ?_)
    refine jjs hG rfl rfl ?_
    refine jj_zeq hG (t := 153) rfl rfl ?_ ?_
    · exact jj_rvS hG rfl rfl (k)
    refine jjs hG rfl rfl ?_
    refine jjs hG rfl rfl ?_
    refine jjs hG rfl rfl ?_
    refine jj_cv hG 0 rfl rfl (Nat.le_of_ble_eq_true rfl) (by decide) (Nat.le_of_ble_eq_true rfl) rfl (st' := []) rfl (fun _ _ hw h k => pm_rcv_of moM_m (k_markChanged base sa hw h k)) (fun s9 => ?_)
    exact jj_rvS hG rfl rfl (k)
  have b69 : ∀ (t : moS), JJ C R base m G 69 [(0, .ref m), (1, .int p1), (2, .int p2)] [] q t kc ks (M_become_b69 t p1 p2) (some tz) := by
    intro t
    refine jj_ic hG rfl cc_i1 ?_
    refine jj_go hG (t := 74) rfl rfl ?_
    exact jj_wl hG [0, 1, 2] rfl (b74 _ _)
  have b73 : ∀ (t : moS), JJ C R base m G 73 [(0, .ref m), (1, .int p1), (2, .int p2)] [] q t kc ks (M_become_b73 t p1 p2) (some tz) := by
    intro t
    refine jj_ic hG rfl cc_i0 ?_
    exact jj_wl hG [0, 1, 2] rfl (b74 _ _)
  refine (show JJ C R base m G 0 [(0, .ref m), (1, .int p1), (2, .int p2)] [] q t kc ks (M_become t p1 p2) (some tz) from ?_) hw h
  refine jjs hG rfl rfl ?_
  refine jj_gr hG (k := 111) rfl rfl rfl rfl ?_
  refine jjs hG rfl rfl ?_
  refine jj_ia hG (k := 111) rfl rfl rfl (fun x1 => ?_)
  refine jjs hG rfl rfl ?_
  refine jj_gi hG (k := 154) rfl rfl rfl rfl ?_
  refine jj_ine hG (t := 69) rfl rfl ?_ ?_
  · exact jj_wl hG [0, 1, 2] rfl (b69 _)
  refine jjs hG rfl rfl ?_
  refine jj_gr hG (k := 113) rfl rfl rfl rfl ?_
  refine jjs hG rfl rfl ?_
  refine jj_ia hG (k := 113) rfl rfl rfl (fun x2 => ?_)
  refine jjs hG rfl rfl ?_
  refine jj_gi hG (k := 155) rfl rfl rfl rfl ?_
  refine jj_ine hG (t := 69) rfl rfl ?_ ?_
  · exact jj_wl hG [0, 1, 2] rfl (b69 _)
  refine jjs hG rfl rfl ?_
  refine jj_gr hG (k := 114) rfl rfl rfl rfl ?_
  refine jjs hG rfl rfl ?_
  refine jj_la hG (k := 114) rfl rfl rfl (fun x3 => ?_)
  refine jj_lc hG (c := 0) (v := 0) rfl rfl ?_
  refine jjs hG rfl rfl ?_
  refine jj_lne hG (t := 69) rfl rfl ?_ ?_
  · exact jj_wl hG [0, 1, 2] rfl (b69 _)
  refine jjs hG rfl rfl ?_
  refine jj_gr hG (k := 115) rfl rfl rfl rfl ?_
  refine jjs hG rfl rfl ?_
  refine jj_la hG (k := 115) rfl rfl rfl (fun x4 => ?_)
  refine jj_lc hG (c := 0) (v := 0) rfl rfl ?_
  refine jjs hG rfl rfl ?_
  refine jj_lne hG (t := 69) rfl rfl ?_ ?_
  · exact jj_wl hG [0, 1, 2] rfl (b69 _)
  refine jjs hG rfl rfl ?_
  refine jj_gi hG (k := 153) rfl rfl rfl rfl ?_
  refine jj_ic hG rfl cc_i1 ?_
  refine jj_ine hG (t := 73) rfl rfl ?_ ?_
  · exact jj_wl hG [0, 1, 2] rfl (b73 _)
  refine jjs hG rfl rfl ?_
  refine jj_gr hG (k := 112) rfl rfl rfl rfl ?_
  refine jjs hG rfl rfl ?_
  refine jj_ia hG (k := 112) rfl rfl rfl (fun x5 => ?_)
  refine jjs hG rfl rfl ?_
  refine jj_gi hG (k := 156) rfl rfl rfl rfl ?_
  refine jj_ieq hG (t := 73) rfl rfl ?_ ?_
  · exact jj_wl hG [0, 1, 2] rfl (b73 _)
  exact jj_wl hG [0, 1, 2] rfl (b69 _)
noncomputable def M_die (t : moS) (p1 : Int32) (p2 : Int32) : Option moS := Option.bind (rdI t 111 p2) (fun x1 => (if x1 = (16 : Int32) then ((some t)) else (Option.bind (wrI t 111 p2 (16 : Int32)) (fun s2 => (Option.bind (rdI s2 42 p1) (fun x3 => (Option.bind (wrI s2 122 p2 ((moS.S s2 1) + x3)) (fun s4 => (Option.bind (M_markChanged s4 p1 p2) (fun s5 => ((some s5))))))))))))
set_option maxRecDepth 100000 in
set_option maxHeartbeats 4000000 in
theorem k_die (base : Nat) (sa : Nat → Nat) {C : Nat × Nat} {R : pmM} {m : Nat} {q : Nat → Nat} {t tz : moS} {kc ks : Nat} {Rt : pmR} {p1 : Int32} {p2 : Int32} (hw : mW C R base m q t kc ks) (h : M_die t p1 p2 = (some tz)) (k : mW C R base m q tz kc ks → Rt none (moM R m q tz) kc ks) : kP_Mo_die base sa [.ref m, .int p1, .int p2] (moM R m q t) kc ks Rt := by
  refine ⟨Nat.le_of_ble_eq_true rfl, fun G hG => ?_⟩
  refine (show JJ C R base m G 0 [(0, .ref m), (1, .int p1), (2, .int p2)] [] q t kc ks (M_die t p1 p2) (some tz) from ?_) hw h
  refine jjs hG rfl rfl ?_
  refine jj_gr hG (k := 111) rfl rfl rfl rfl ?_
  refine jjs hG rfl rfl ?_
  refine jj_ia hG (k := 111) rfl rfl rfl (fun x1 => ?_)
  refine jj_bi hG rfl cc_b16 ?_
  refine jj_ine hG (t := 12) rfl rfl ?_ ?_
  · refine jjs hG rfl rfl ?_
    refine jj_gr hG (k := 111) rfl rfl rfl rfl ?_
    refine jjs hG rfl rfl ?_
    refine jj_bi hG rfl cc_b16 ?_
    refine jj_is hG (k := 111) rfl rfl rfl (fun s2 => ?_)
    refine jjs hG rfl rfl ?_
    refine jj_gr hG (k := 122) rfl rfl rfl rfl ?_
    refine jjs hG rfl rfl ?_
    refine jjs hG rfl rfl ?_
    refine jj_gi hG (k := 1) rfl rfl rfl rfl ?_
    refine jjs hG rfl rfl ?_
    refine jj_gr hG (k := 42) rfl rfl rfl rfl ?_
    refine jjs hG rfl rfl ?_
    refine jj_ia hG (k := 42) rfl rfl rfl (fun x3 => ?_)
    refine jjs hG rfl rfl ?_
    refine jj_is hG (k := 122) rfl rfl rfl (fun s4 => ?_)
    refine jjs hG rfl rfl ?_
    refine jjs hG rfl rfl ?_
    refine jjs hG rfl rfl ?_
    refine jj_cv hG 0 rfl rfl (Nat.le_of_ble_eq_true rfl) (by decide) (Nat.le_of_ble_eq_true rfl) rfl (st' := []) rfl (fun _ _ hw h k => pm_rcv_of moM_m (k_markChanged base sa hw h k)) (fun s5 => ?_)
    exact jj_rvS hG rfl rfl (k)
  exact jj_rvS hG rfl rfl (k)
noncomputable def M_forsake (t : moS) (p1 : Int32) (p2 : Int32) : Option moS := Option.bind (wrI t 110 p2 (2 : Int32)) (fun s1 => (Option.bind (wrI s1 112 p2 (0 : Int32)) (fun s2 => (Option.bind (wrI s2 113 p2 ((-1) : Int32)) (fun s3 => (Option.bind (wrI s3 116 p2 ((-1) : Int32)) (fun s4 => (Option.bind (M_die s4 p1 p2) (fun s5 => ((some s5)))))))))))
set_option maxRecDepth 100000 in
set_option maxHeartbeats 4000000 in
theorem k_forsake (base : Nat) (sa : Nat → Nat) {C : Nat × Nat} {R : pmM} {m : Nat} {q : Nat → Nat} {t tz : moS} {kc ks : Nat} {Rt : pmR} {p1 : Int32} {p2 : Int32} (hw : mW C R base m q t kc ks) (h : M_forsake t p1 p2 = (some tz)) (k : mW C R base m q tz kc ks → Rt none (moM R m q tz) kc ks) : kP_Mo_forsake base sa [.ref m, .int p1, .int p2] (moM R m q t) kc ks Rt := by
  refine ⟨Nat.le_of_ble_eq_true rfl, fun G hG => ?_⟩
  refine (show JJ C R base m G 0 [(0, .ref m), (1, .int p1), (2, .int p2)] [] q t kc ks (M_forsake t p1 p2) (some tz) from ?_) hw h
  refine jjs hG rfl rfl ?_
  refine jj_gr hG (k := 110) rfl rfl rfl rfl ?_
  refine jjs hG rfl rfl ?_
  refine jj_ic hG rfl cc_i2 ?_
  refine jj_is hG (k := 110) rfl rfl rfl (fun s1 => ?_)
  refine jjs hG rfl rfl ?_
  refine jj_gr hG (k := 112) rfl rfl rfl rfl ?_
  refine jjs hG rfl rfl ?_
  refine jj_ic hG rfl cc_i0 ?_
  refine jj_is hG (k := 112) rfl rfl rfl (fun s2 => ?_)
  refine jjs hG rfl rfl ?_
  refine jj_gr hG (k := 113) rfl rfl rfl rfl ?_
  refine jjs hG rfl rfl ?_
  refine jj_ic hG rfl cc_im1 ?_
  refine jj_is hG (k := 113) rfl rfl rfl (fun s3 => ?_)
  refine jjs hG rfl rfl ?_
  refine jj_gr hG (k := 116) rfl rfl rfl rfl ?_
  refine jjs hG rfl rfl ?_
  refine jj_ic hG rfl cc_im1 ?_
  refine jj_is hG (k := 116) rfl rfl rfl (fun s4 => ?_)
  refine jjs hG rfl rfl ?_
  refine jjs hG rfl rfl ?_
  refine jjs hG rfl rfl ?_
  refine jj_cv hG 0 rfl rfl (Nat.le_of_ble_eq_true rfl) (by decide) (Nat.le_of_ble_eq_true rfl) rfl (st' := []) rfl (fun _ _ hw h k => pm_rcv_of moM_m (k_die base sa hw h k)) (fun s5 => ?_)
  exact jj_rvS hG rfl rfl (k)
noncomputable def M_find_b75 (t : moS) (p1 : Int32) (p2 : Int32) (p3 : Int64) (p5 : Int64) (p7 : Int32) (a8 : Int32) : Option ((Int32) ⊕ Int32) := (some (.inl ((a8 + (1 : Int32)))))
noncomputable def M_find_s7 (t : moS) (p1 : Int32) (p2 : Int32) (p3 : Int64) (p5 : Int64) (p7 : Int32) (a8 : Int32) : Option ((Int32) ⊕ Int32) := Option.bind (rdI t 105 p1) (fun x1 => (if a8 < (((2700 : Int32) * p1) + x1) then (Option.bind (rdI t 106 a8) (fun x2 => (if x2 = p2 then (Option.bind (rdJ t 107 a8) (fun x3 => (if x3 = p3 then (Option.bind (rdJ t 108 a8) (fun x4 => (if x4 = p5 then (Option.bind (rdI t 109 a8) (fun x5 => (if x5 = p7 then ((xo ((some a8)))) else ((M_find_b75 t p1 p2 p3 p5 p7 a8))))) else ((M_find_b75 t p1 p2 p3 p5 p7 a8))))) else ((M_find_b75 t p1 p2 p3 p5 p7 a8))))) else ((M_find_b75 t p1 p2 p3 p5 p7 a8))))) else ((xo ((some ((-1) : Int32)))))))
noncomputable def M_find_b7 (t : moS) (p1 : Int32) (p2 : Int32) (p3 : Int64) (p5 : Int64) (p7 : Int32) (a8 : Int32) : Option Int32 := lp (fun x => M_find_s7 t p1 p2 p3 p5 p7 x) (a8)
noncomputable def M_find (t : moS) (p1 : Int32) (p2 : Int32) (p3 : Int64) (p5 : Int64) (p7 : Int32) : Option Int32 := (M_find_b7 t p1 p2 p3 p5 p7 ((2700 : Int32) * p1))
set_option maxRecDepth 100000 in
set_option maxHeartbeats 4000000 in
theorem k_find (base : Nat) (sa : Nat → Nat) {C : Nat × Nat} {R : pmM} {m : Nat} {q : Nat → Nat} {t : moS} {kc ks : Nat} {Rt : pmR} {p1 : Int32} {p2 : Int32} {p3 : Int64} {p5 : Int64} {p7 : Int32} {r : Int32} (hw : mW C R base m q t kc ks) (h : M_find t p1 p2 p3 p5 p7 = (some r)) (k : Rt (some (.int r)) (moM R m q t) kc ks) : kP_Mo_find base sa [.ref m, .int p1, .int p2, .long p3, .long p5, .int p7] (moM R m q t) kc ks Rt := by
  refine ⟨Nat.le_of_ble_eq_true rfl, fun G hG => ?_⟩
  have b7 : ∀ (n : Nat) (a8 : Int32), JJ C R base m G 7 [(0, .ref m), (1, .int p1), (2, .int p2), (3, .long p3), (5, .long p5), (7, .int p7), (8, .int a8)] [] q t kc ks (lpN (fun x => M_find_s7 t p1 p2 p3 p5 p7 x) n (a8)) (some r) := by
    intro n
    induction n with
    | zero => intro a8; exact jj_lp0
    | succ n ih7 =>
      intro a8
      refine jj_lpS (fun y7 c7 => ?_)
      have b75 : ∀ (a8 : Int32), JJ C R base m G 75 [(0, .ref m), (1, .int p1), (2, .int p2), (3, .long p3), (5, .long p5), (7, .int p7), (8, .int a8)] [] q t kc ks (M_find_b75 t p1 p2 p3 p5 p7 a8) (some y7) := by
        intro a8
        refine jj_inc hG rfl (Nat.le_of_ble_eq_true rfl) rfl cc_i1 ?_
        refine jj_go hG (t := 7) rfl rfl ?_
        exact jj_back c7 (jj_wl hG [1, 2, 3, 4, 5, 6, 0] rfl (ih7 _))
      refine (show JJ C R base m G 7 [(0, .ref m), (1, .int p1), (2, .int p2), (3, .long p3), (5, .long p5), (7, .int p7), (8, .int a8)] [] q t kc ks (M_find_s7 t p1 p2 p3 p5 p7 a8) (some y7) from ?_)
      refine jjs hG rfl rfl ?_
      refine jj_si hG rfl cc_s2700 ?_
      refine jjs hG rfl rfl ?_
      refine jjs hG rfl rfl ?_
      refine jjs hG rfl rfl ?_
      refine jj_gr hG (k := 105) rfl rfl rfl rfl ?_
      refine jjs hG rfl rfl ?_
      refine jj_ia hG (k := 105) rfl rfl rfl (fun x1 => ?_)
      refine jjs hG rfl rfl ?_
      refine jj_ige hG (t := 81) rfl rfl ?_ ?_
      · refine jj_exit c7 ?_
        refine jj_ic hG rfl cc_im1 ?_
        exact jj_ri hG rfl rfl rfl k
      refine jjs hG rfl rfl ?_
      refine jj_gr hG (k := 106) rfl rfl rfl rfl ?_
      refine jjs hG rfl rfl ?_
      refine jj_ia hG (k := 106) rfl rfl rfl (fun x2 => ?_)
      refine jjs hG rfl rfl ?_
      refine jj_ine hG (t := 75) rfl rfl ?_ ?_
      · exact jj_wl hG [0, 1, 2, 3, 4, 5, 6] rfl (b75 _)
      refine jjs hG rfl rfl ?_
      refine jj_gr hG (k := 107) rfl rfl rfl rfl ?_
      refine jjs hG rfl rfl ?_
      refine jj_la hG (k := 107) rfl rfl rfl (fun x3 => ?_)
      refine jjs hG rfl rfl ?_
      refine jjs hG rfl rfl ?_
      refine jj_lne hG (t := 75) rfl rfl ?_ ?_
      · exact jj_wl hG [0, 1, 2, 3, 4, 5, 6] rfl (b75 _)
      refine jjs hG rfl rfl ?_
      refine jj_gr hG (k := 108) rfl rfl rfl rfl ?_
      refine jjs hG rfl rfl ?_
      refine jj_la hG (k := 108) rfl rfl rfl (fun x4 => ?_)
      refine jjs hG rfl rfl ?_
      refine jjs hG rfl rfl ?_
      refine jj_lne hG (t := 75) rfl rfl ?_ ?_
      · exact jj_wl hG [0, 1, 2, 3, 4, 5, 6] rfl (b75 _)
      refine jjs hG rfl rfl ?_
      refine jj_gr hG (k := 109) rfl rfl rfl rfl ?_
      refine jjs hG rfl rfl ?_
      refine jj_ia hG (k := 109) rfl rfl rfl (fun x5 => ?_)
      refine jjs hG rfl rfl ?_
      refine jj_ine hG (t := 75) rfl rfl ?_ ?_
      · exact jj_wl hG [0, 1, 2, 3, 4, 5, 6] rfl (b75 _)
      refine jj_exit c7 ?_
      refine jjs hG rfl rfl ?_
      exact jj_ri hG rfl rfl rfl k
  refine (show JJ C R base m G 0 [(0, .ref m), (1, .int p1), (2, .int p2), (3, .long p3), (5, .long p5), (7, .int p7)] [] q t kc ks (M_find t p1 p2 p3 p5 p7) (some r) from ?_) hw h
  refine jj_si hG rfl cc_s2700 ?_
  refine jjs hG rfl rfl ?_
  refine jjs hG rfl rfl ?_
  refine jjc hG rfl rfl (Nat.le_of_ble_eq_true rfl) ?_
  refine jj_lp (fun n => ?_)
  exact jj_wl hG [1, 2, 3, 4, 5, 6, 0] rfl (b7 n _)
noncomputable def M_isBehind (t : moS) (p1 : Int32) (p2 : Int32) (p3 : Int64) (p5 : Int64) (p7 : Int32) : Option Int32 := Option.bind (rdI t 106 p1) (fun x1 => (if x1 = p2 then (Option.bind (rdJ t 107 p1) (fun x2 => (Option.bind (rdJ t 108 p1) (fun x3 => (Option.bind (rdI t 109 p1) (fun x4 => (Option.bind (M_isAhead p3 p5 p7 x2 x3 x4) (fun x5 => ((okZ x5 (some x5))))))))))) else (Option.bind (rdI t 106 p1) (fun x6 => (if p2 < x6 then ((some (1 : Int32))) else ((some (0 : Int32))))))))
set_option maxRecDepth 100000 in
set_option maxHeartbeats 4000000 in
theorem k_isBehind (base : Nat) (sa : Nat → Nat) {C : Nat × Nat} {R : pmM} {m : Nat} {q : Nat → Nat} {t : moS} {kc ks : Nat} {Rt : pmR} {p1 : Int32} {p2 : Int32} {p3 : Int64} {p5 : Int64} {p7 : Int32} {r : Int32} (hw : mW C R base m q t kc ks) (h : M_isBehind t p1 p2 p3 p5 p7 = (some r)) (k : Rt (some (.int r)) (moM R m q t) kc ks) : kP_Mo_isBehind base sa [.ref m, .int p1, .int p2, .long p3, .long p5, .int p7] (moM R m q t) kc ks Rt := by
  refine ⟨Nat.le_of_ble_eq_true rfl, fun G hG => ?_⟩
  refine (show JJ C R base m G 0 [(0, .ref m), (1, .int p1), (2, .int p2), (3, .long p3), (5, .long p5), (7, .int p7)] [] q t kc ks (M_isBehind t p1 p2 p3 p5 p7) (some r) from ?_) hw h
  refine jjs hG rfl rfl ?_
  refine jj_gr hG (k := 106) rfl rfl rfl rfl ?_
  refine jjs hG rfl rfl ?_
  refine jj_ia hG (k := 106) rfl rfl rfl (fun x1 => ?_)
  refine jjs hG rfl rfl ?_
  refine jj_ieq hG (t := 26) rfl rfl ?_ ?_
  · refine jjs hG rfl rfl ?_
    refine jjs hG rfl rfl ?_
    refine jjs hG rfl rfl ?_
    refine jjs hG rfl rfl ?_
    refine jj_gr hG (k := 107) rfl rfl rfl rfl ?_
    refine jjs hG rfl rfl ?_
    refine jj_la hG (k := 107) rfl rfl rfl (fun x2 => ?_)
    refine jjs hG rfl rfl ?_
    refine jj_gr hG (k := 108) rfl rfl rfl rfl ?_
    refine jjs hG rfl rfl ?_
    refine jj_la hG (k := 108) rfl rfl rfl (fun x3 => ?_)
    refine jjs hG rfl rfl ?_
    refine jj_gr hG (k := 109) rfl rfl rfl rfl ?_
    refine jjs hG rfl rfl ?_
    refine jj_ia hG (k := 109) rfl rfl rfl (fun x4 => ?_)
    refine jj_cp hG 2 rfl rfl (Nat.le_of_ble_eq_true rfl) (by decide) (Nat.le_of_ble_eq_true rfl) rfl (st' := []) rfl (w := .int) (fun _ _ hw h k => k_isAhead base sa hw h k) (fun x5 => ?_)
    exact jj_rz hG rfl rfl k
  refine jjs hG rfl rfl ?_
  refine jj_gr hG (k := 106) rfl rfl rfl rfl ?_
  refine jjs hG rfl rfl ?_
  refine jj_ia hG (k := 106) rfl rfl rfl (fun x6 => ?_)
  refine jjs hG rfl rfl ?_
  refine jj_ile hG (t := 24) rfl rfl ?_ ?_
  · refine jj_ic hG rfl cc_i0 ?_
    exact jj_ri hG rfl rfl rfl k
  refine jj_ic hG rfl cc_i1 ?_
  refine jj_go hG (t := 25) rfl rfl ?_
  exact jj_ri hG rfl rfl rfl k
