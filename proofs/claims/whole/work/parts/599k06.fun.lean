/-! The model as functions, by program: copyRoute .. come -/
noncomputable def M_copyRoute (t : moS) (p1 : Int32) (p2 : Int32) : Option moS := Option.bind (rdI t 106 p1) (fun x1 => (Option.bind (wrI t 106 p2 x1) (fun s2 => (Option.bind (rdJ s2 107 p1) (fun x3 => (Option.bind (wrJ s2 107 p2 x3) (fun s4 => (Option.bind (rdJ s4 108 p1) (fun x5 => (Option.bind (wrJ s4 108 p2 x5) (fun s6 => (Option.bind (rdI s6 109 p1) (fun x7 => (Option.bind (wrI s6 109 p2 x7) (fun s8 => (Option.bind (rdI s8 110 p1) (fun x9 => (Option.bind (wrI s8 110 p2 x9) (fun s10 => (Option.bind (rdI s10 111 p1) (fun x11 => (Option.bind (wrI s10 111 p2 x11) (fun s12 => (Option.bind (rdI s12 112 p1) (fun x13 => (Option.bind (wrI s12 112 p2 x13) (fun s14 => (Option.bind (rdI s14 113 p1) (fun x15 => (Option.bind (wrI s14 113 p2 x15) (fun s16 => (Option.bind (rdJ s16 114 p1) (fun x17 => (Option.bind (wrJ s16 114 p2 x17) (fun s18 => (Option.bind (rdJ s18 115 p1) (fun x19 => (Option.bind (wrJ s18 115 p2 x19) (fun s20 => (Option.bind (rdI s20 116 p1) (fun x21 => (Option.bind (wrI s20 116 p2 x21) (fun s22 => (Option.bind (rdJ s22 117 p1) (fun x23 => (Option.bind (wrJ s22 117 p2 x23) (fun s24 => (Option.bind (rdJ s24 118 p1) (fun x25 => (Option.bind (wrJ s24 118 p2 x25) (fun s26 => (Option.bind (rdI s26 119 p1) (fun x27 => (Option.bind (wrZ s26 119 p2 x27) (fun s28 => (Option.bind (rdI s28 120 p1) (fun x29 => (Option.bind (wrI s28 120 p2 x29) (fun s30 => (Option.bind (rdI s30 121 p1) (fun x31 => (Option.bind (wrI s30 121 p2 x31) (fun s32 => (Option.bind (rdI s32 122 p1) (fun x33 => (Option.bind (wrI s32 122 p2 x33) (fun s34 => ((some s34)))))))))))))))))))))))))))))))))))))))))))))))))))))))))))))))))))))
set_option maxRecDepth 100000 in
set_option maxHeartbeats 4000000 in
theorem k_copyRoute (base : Nat) (sa : Nat → Nat) {C : Nat × Nat} {R : pmM} {m : Nat} {q : Nat → Nat} {t tz : moS} {kc ks : Nat} {Rt : pmR} {p1 : Int32} {p2 : Int32} (hw : mW C R base m q t kc ks) (h : M_copyRoute t p1 p2 = (some tz)) (k : mW C R base m q tz kc ks → Rt none (moM R m q tz) kc ks) : kP_Mo_copyRoute base sa [.ref m, .int p1, .int p2] (moM R m q t) kc ks Rt := by
  refine ⟨Nat.le_of_ble_eq_true rfl, fun G hG => ?_⟩
  refine (show JJ C R base m G 0 [(0, .ref m), (1, .int p1), (2, .int p2)] [] q t kc ks (M_copyRoute t p1 p2) (some tz) from ?_) hw h
  refine jjs hG rfl rfl ?_
  refine jj_gr hG (k := 106) rfl rfl rfl rfl ?_
  refine jjs hG rfl rfl ?_
  refine jjs hG rfl rfl ?_
  refine jj_gr hG (k := 106) rfl rfl rfl rfl ?_
  refine jjs hG rfl rfl ?_
  refine jj_ia hG (k := 106) rfl rfl rfl (fun x1 => ?_)
  refine jj_is hG (k := 106) rfl rfl rfl (fun s2 => ?_)
  refine jjs hG rfl rfl ?_
  refine jj_gr hG (k := 107) rfl rfl rfl rfl ?_
  refine jjs hG rfl rfl ?_
  refine jjs hG rfl rfl ?_
  refine jj_gr hG (k := 107) rfl rfl rfl rfl ?_
  refine jjs hG rfl rfl ?_
  refine jj_la hG (k := 107) rfl rfl rfl (fun x3 => ?_)
  refine jj_ls hG (k := 107) rfl rfl rfl (fun s4 => ?_)
  refine jjs hG rfl rfl ?_
  refine jj_gr hG (k := 108) rfl rfl rfl rfl ?_
  refine jjs hG rfl rfl ?_
  refine jjs hG rfl rfl ?_
  refine jj_gr hG (k := 108) rfl rfl rfl rfl ?_
  refine jjs hG rfl rfl ?_
  refine jj_la hG (k := 108) rfl rfl rfl (fun x5 => ?_)
  refine jj_ls hG (k := 108) rfl rfl rfl (fun s6 => ?_)
  refine jjs hG rfl rfl ?_
  refine jj_gr hG (k := 109) rfl rfl rfl rfl ?_
  refine jjs hG rfl rfl ?_
  refine jjs hG rfl rfl ?_
  refine jj_gr hG (k := 109) rfl rfl rfl rfl ?_
  refine jjs hG rfl rfl ?_
  refine jj_ia hG (k := 109) rfl rfl rfl (fun x7 => ?_)
  refine jj_is hG (k := 109) rfl rfl rfl (fun s8 => ?_)
  refine jjs hG rfl rfl ?_
  refine jj_gr hG (k := 110) rfl rfl rfl rfl ?_
  refine jjs hG rfl rfl ?_
  refine jjs hG rfl rfl ?_
  refine jj_gr hG (k := 110) rfl rfl rfl rfl ?_
  refine jjs hG rfl rfl ?_
  refine jj_ia hG (k := 110) rfl rfl rfl (fun x9 => ?_)
  refine jj_is hG (k := 110) rfl rfl rfl (fun s10 => ?_)
  refine jjs hG rfl rfl ?_
  refine jj_gr hG (k := 111) rfl rfl rfl rfl ?_
  refine jjs hG rfl rfl ?_
  refine jjs hG rfl rfl ?_
  refine jj_gr hG (k := 111) rfl rfl rfl rfl ?_
  refine jjs hG rfl rfl ?_
  refine jj_ia hG (k := 111) rfl rfl rfl (fun x11 => ?_)
  refine jj_is hG (k := 111) rfl rfl rfl (fun s12 => ?_)
  refine jjs hG rfl rfl ?_
  refine jj_gr hG (k := 112) rfl rfl rfl rfl ?_
  refine jjs hG rfl rfl ?_
  refine jjs hG rfl rfl ?_
  refine jj_gr hG (k := 112) rfl rfl rfl rfl ?_
  refine jjs hG rfl rfl ?_
  refine jj_ia hG (k := 112) rfl rfl rfl (fun x13 => ?_)
  refine jj_is hG (k := 112) rfl rfl rfl (fun s14 => ?_)
  refine jjs hG rfl rfl ?_
  refine jj_gr hG (k := 113) rfl rfl rfl rfl ?_
  refine jjs hG rfl rfl ?_
  refine jjs hG rfl rfl ?_
  refine jj_gr hG (k := 113) rfl rfl rfl rfl ?_
  refine jjs hG rfl rfl ?_
  refine jj_ia hG (k := 113) rfl rfl rfl (fun x15 => ?_)
  refine jj_is hG (k := 113) rfl rfl rfl (fun s16 => ?_)
  refine jjs hG rfl rfl ?_
  refine jj_gr hG (k := 114) rfl rfl rfl rfl ?_
  refine jjs hG rfl rfl ?_
  refine jjs hG rfl rfl ?_
  refine jj_gr hG (k := 114) rfl rfl rfl rfl ?_
  refine jjs hG rfl rfl ?_
  refine jj_la hG (k := 114) rfl rfl rfl (fun x17 => ?_)
  refine jj_ls hG (k := 114) rfl rfl rfl (fun s18 => ?_)
  refine jjs hG rfl rfl ?_
  refine jj_gr hG (k := 115) rfl rfl rfl rfl ?_
  refine jjs hG rfl rfl ?_
  refine jjs hG rfl rfl ?_
  refine jj_gr hG (k := 115) rfl rfl rfl rfl ?_
  refine jjs hG rfl rfl ?_
  refine jj_la hG (k := 115) rfl rfl rfl (fun x19 => ?_)
  refine jj_ls hG (k := 115) rfl rfl rfl (fun s20 => ?_)
  refine jjs hG rfl rfl ?_
  refine jj_gr hG (k := 116) rfl rfl rfl rfl ?_
  refine jjs hG rfl rfl ?_
  refine jjs hG rfl rfl ?_
  refine jj_gr hG (k := 116) rfl rfl rfl rfl ?_
  refine jjs hG rfl rfl ?_
  refine jj_ia hG (k := 116) rfl rfl rfl (fun x21 => ?_)
  refine jj_is hG (k := 116) rfl rfl rfl (fun s22 => ?_)
  refine jjs hG rfl rfl ?_
  refine jj_gr hG (k := 117) rfl rfl rfl rfl ?_
  refine jjs hG rfl rfl ?_
  refine jjs hG rfl rfl ?_
  refine jj_gr hG (k := 117) rfl rfl rfl rfl ?_
  refine jjs hG rfl rfl ?_
  refine jj_la hG (k := 117) rfl rfl rfl (fun x23 => ?_)
  refine jj_ls hG (k := 117) rfl rfl rfl (fun s24 => ?_)
  refine jjs hG rfl rfl ?_
  refine jj_gr hG (k := 118) rfl rfl rfl rfl ?_
  refine jjs hG rfl rfl ?_
  refine jjs hG rfl rfl ?_
  refine jj_gr hG (k := 118) rfl rfl rfl rfl ?_
  refine jjs hG rfl rfl ?_
  refine jj_la hG (k := 118) rfl rfl rfl (fun x25 => ?_)
  refine jj_ls hG (k := 118) rfl rfl rfl (fun s26 => ?_)
  refine jjs hG rfl rfl ?_
  refine jj_gr hG (k := 119) rfl rfl rfl rfl ?_
  refine jjs hG rfl rfl ?_
  refine jjs hG rfl rfl ?_
  refine jj_gr hG (k := 119) rfl rfl rfl rfl ?_
  refine jjs hG rfl rfl ?_
  refine jj_ba hG (k := 119) rfl rfl rfl (fun x27 => ?_)
  refine jj_bs hG (k := 119) rfl rfl rfl (fun s28 => ?_)
  refine jjs hG rfl rfl ?_
  refine jj_gr hG (k := 120) rfl rfl rfl rfl ?_
  refine jjs hG rfl rfl ?_
  refine jjs hG rfl rfl ?_
  refine jj_gr hG (k := 120) rfl rfl rfl rfl ?_
  refine jjs hG rfl rfl ?_
  refine jj_ia hG (k := 120) rfl rfl rfl (fun x29 => ?_)
  refine jj_is hG (k := 120) rfl rfl rfl (fun s30 => ?_)
  refine jjs hG rfl rfl ?_
  refine jj_gr hG (k := 121) rfl rfl rfl rfl ?_
  refine jjs hG rfl rfl ?_
  refine jjs hG rfl rfl ?_
  refine jj_gr hG (k := 121) rfl rfl rfl rfl ?_
  refine jjs hG rfl rfl ?_
  refine jj_ia hG (k := 121) rfl rfl rfl (fun x31 => ?_)
  refine jj_is hG (k := 121) rfl rfl rfl (fun s32 => ?_)
  refine jjs hG rfl rfl ?_
  refine jj_gr hG (k := 122) rfl rfl rfl rfl ?_
  refine jjs hG rfl rfl ?_
  refine jjs hG rfl rfl ?_
  refine jj_gr hG (k := 122) rfl rfl rfl rfl ?_
  refine jjs hG rfl rfl ?_
  refine jj_ia hG (k := 122) rfl rfl rfl (fun x33 => ?_)
  refine jj_is hG (k := 122) rfl rfl rfl (fun s34 => ?_)
  exact jj_rvS hG rfl rfl (k)
noncomputable def M_insert_b67 (t : moS) (p2 : Int32) (p3 : Int64) (p5 : Int64) (p7 : Int32) (a8 : Int32) : Option (Int32 × moS) := Option.bind (wrI t 106 a8 p2) (fun s1 => (Option.bind (wrJ s1 107 a8 p3) (fun s2 => (Option.bind (wrJ s2 108 a8 p5) (fun s3 => (Option.bind (wrI s3 109 a8 p7) (fun s4 => (Option.bind (wrI s4 112 a8 (0 : Int32)) (fun s5 => (Option.bind (wrZ s5 119 a8 (0 : Int32)) (fun s6 => (Option.bind (wrJ s6 114 a8 (0 : Int64)) (fun s7 => (Option.bind (wrJ s7 115 a8 (0 : Int64)) (fun s8 => (Option.bind (wrI s8 116 a8 ((-1) : Int32)) (fun s9 => (Option.bind (wrI s9 122 a8 ((-1) : Int32)) (fun s10 => ((some (a8, s10))))))))))))))))))))))
noncomputable def M_insert_s24 (t : moS) (p1 : Int32) (p2 : Int32) (p3 : Int64) (p5 : Int64) (p7 : Int32) (a8 : Int32) : Option ((Int32 × moS) ⊕ (Int32 × moS)) := if ((2700 : Int32) * p1) < a8 then (Option.bind (M_isBehind t (a8 - (1 : Int32)) p2 p3 p5 p7) (fun x1 => (if x1 = 0 then ((xo (M_insert_b67 t p2 p3 p5 p7 a8))) else (Option.bind (M_copyRoute t (a8 - (1 : Int32)) a8) (fun s2 => ((some (.inl ((a8 + ((-1) : Int32)), s2))))))))) else ((xo (M_insert_b67 t p2 p3 p5 p7 a8)))
noncomputable def M_insert_b24 (t : moS) (p1 : Int32) (p2 : Int32) (p3 : Int64) (p5 : Int64) (p7 : Int32) (a8 : Int32) : Option (Int32 × moS) := lp (fun x => M_insert_s24 x.2 p1 p2 p3 p5 p7 x.1) (a8, t)
noncomputable def M_insert (t : moS) (p1 : Int32) (p2 : Int32) (p3 : Int64) (p5 : Int64) (p7 : Int32) : Option (Int32 × moS) := Option.bind (rdI t 105 p1) (fun x1 => (Option.bind (rdI t 105 p1) (fun x2 => (Option.bind (wrI t 105 p1 (x2 + (1 : Int32))) (fun s3 => ((M_insert_b24 s3 p1 p2 p3 p5 p7 (((2700 : Int32) * p1) + x1))))))))
set_option maxRecDepth 100000 in
set_option maxHeartbeats 4000000 in
theorem k_insert (base : Nat) (sa : Nat → Nat) {C : Nat × Nat} {R : pmM} {m : Nat} {q : Nat → Nat} {t tz : moS} {kc ks : Nat} {Rt : pmR} {p1 : Int32} {p2 : Int32} {p3 : Int64} {p5 : Int64} {p7 : Int32} {r : Int32} (hw : mW C R base m q t kc ks) (h : M_insert t p1 p2 p3 p5 p7 = (some (r, tz))) (k : mW C R base m q tz kc ks → Rt (some (.int r)) (moM R m q tz) kc ks) : kP_Mo_insert base sa [.ref m, .int p1, .int p2, .long p3, .long p5, .int p7] (moM R m q t) kc ks Rt := by
  refine ⟨Nat.le_of_ble_eq_true rfl, fun G hG => ?_⟩
  have b67 : ∀ (a8 : Int32) (t : moS), JJ C R base m G 67 [(0, .ref m), (2, .int p2), (3, .long p3), (5, .long p5), (7, .int p7), (8, .int a8)] [] q t kc ks (M_insert_b67 t p2 p3 p5 p7 a8) (some (r, tz)) := by
    intro a8 t
    refine jjs hG rfl rfl ?_
    refine jj_gr hG (k := 106) rfl rfl rfl rfl ?_
    refine jjs hG rfl rfl ?_
    refine jjs hG rfl rfl ?_
    refine jj_is hG (k := 106) rfl rfl rfl (fun s1 => ?_)
    refine jjs hG rfl rfl ?_
    refine jj_gr hG (k := 107) rfl rfl rfl rfl ?_
    refine jjs hG rfl rfl ?_
    refine jjs hG rfl rfl ?_
    refine jj_ls hG (k := 107) rfl rfl rfl (fun s2 => ?_)
    refine jjs hG rfl rfl ?_
    refine jj_gr hG (k := 108) rfl rfl rfl rfl ?_
    refine jjs hG rfl rfl ?_
    refine jjs hG rfl rfl ?_
    refine jj_ls hG (k := 108) rfl rfl rfl (fun s3 => ?_)
    refine jjs hG rfl rfl ?_
    refine jj_gr hG (k := 109) rfl rfl rfl rfl ?_
    refine jjs hG rfl rfl ?_
    refine jjs hG rfl rfl ?_
    refine jj_is hG (k := 109) rfl rfl rfl (fun s4 => ?_)
    refine jjs hG rfl rfl ?_
    refine jj_gr hG (k := 112) rfl rfl rfl rfl ?_
    refine jjs hG rfl rfl ?_
    refine jj_ic hG rfl cc_i0 ?_
    refine jj_is hG (k := 112) rfl rfl rfl (fun s5 => ?_)
    refine jjs hG rfl rfl ?_
    refine jj_gr hG (k := 119) rfl rfl rfl rfl ?_
    refine jjs hG rfl rfl ?_
    refine jj_ic hG rfl cc_i0 ?_
    refine jj_bs hG (k := 119) rfl rfl rfl (fun s6 => ?_)
    refine jjs hG rfl rfl ?_
    refine jj_gr hG (k := 114) rfl rfl rfl rfl ?_
    refine jjs hG rfl rfl ?_
    refine jj_lc hG (c := 0) (v := 0) rfl rfl ?_
    refine jj_ls hG (k := 114) rfl rfl rfl (fun s7 => ?_)
    refine jjs hG rfl rfl ?_
    refine jj_gr hG (k := 115) rfl rfl rfl rfl ?_
    refine jjs hG rfl rfl ?_
    refine jj_lc hG (c := 0) (v := 0) rfl rfl ?_
    refine jj_ls hG (k := 115) rfl rfl rfl (fun s8 => ?_)
    refine jjs hG rfl rfl ?_
    refine jj_gr hG (k := 116) rfl rfl rfl rfl ?_
    refine jjs hG rfl rfl ?_
    refine jj_ic hG rfl cc_im1 ?_
    refine jj_is hG (k := 116) rfl rfl rfl (fun s9 => ?_)
    refine jjs hG rfl rfl ?_
    refine jj_gr hG (k := 122) rfl rfl rfl rfl ?_
    refine jjs hG rfl rfl ?_
    refine jj_ic hG rfl cc_im1 ?_
    refine jj_is hG (k := 122) rfl rfl rfl (fun s10 => ?_)
    refine jjs hG rfl rfl ?_
    exact jj_riS hG rfl rfl rfl k
  have b24 : ∀ (n : Nat) (a8 : Int32) (t : moS), JJ C R base m G 24 [(0, .ref m), (1, .int p1), (2, .int p2), (3, .long p3), (5, .long p5), (7, .int p7), (8, .int a8)] [] q t kc ks (lpN (fun x => M_insert_s24 x.2 p1 p2 p3 p5 p7 x.1) n (a8, t)) (some (r, tz)) := by
    intro n
    induction n with
    | zero => intro a8 t; exact jj_lp0
    | succ n ih24 =>
      intro a8 t
      refine jj_lpS (fun y24 c24 => ?_)
      refine (show JJ C R base m G 24 [(0, .ref m), (1, .int p1), (2, .int p2), (3, .long p3), (5, .long p5), (7, .int p7), (8, .int a8)] [] q t kc ks (M_insert_s24 t p1 p2 p3 p5 p7 a8) (some y24) from ?_)
      refine jjs hG rfl rfl ?_
      refine jj_si hG rfl cc_s2700 ?_
      refine jjs hG rfl rfl ?_
      refine jjs hG rfl rfl ?_
      refine jj_ile hG (t := 67) rfl rfl ?_ ?_
      · refine jj_exit c24 ?_
        exact jj_wl hG [0, 2, 3, 4, 5, 6] rfl (b67 _ _)
      refine jjs hG rfl rfl ?_
      refine jjs hG rfl rfl ?_
      refine jj_ic hG rfl cc_i1 ?_
      refine jjs hG rfl rfl ?_
      refine jjs hG rfl rfl ?_
      refine jjs hG rfl rfl ?_
      refine jjs hG rfl rfl ?_
      refine jjs hG rfl rfl ?_
      refine jj_cp hG 0 rfl rfl (Nat.le_of_ble_eq_true rfl) (by decide) (Nat.le_of_ble_eq_true rfl) rfl (st' := []) rfl (w := .int) (fun _ _ hw h k => pm_rcv_of moM_m (k_isBehind base sa hw h k)) (fun x1 => ?_)
      refine jj_zeq hG (t := 67) rfl rfl ?_ ?_
      · refine jj_exit c24 ?_
        exact jj_wl hG [0, 2, 3, 4, 5, 6] rfl (b67 _ _)
      refine jjs hG rfl rfl ?_
      refine jjs hG rfl rfl ?_
      refine jj_ic hG rfl cc_i1 ?_
      refine jjs hG rfl rfl ?_
      refine jjs hG rfl rfl ?_
      refine jj_cv hG 0 rfl rfl (Nat.le_of_ble_eq_true rfl) (by decide) (Nat.le_of_ble_eq_true rfl) rfl (st' := []) rfl (fun _ _ hw h k => pm_rcv_of moM_m (k_copyRoute base sa hw h k)) (fun s2 => ?_)
      refine jj_inc hG rfl (Nat.le_of_ble_eq_true rfl) rfl cc_im1 ?_
      refine jj_go hG (t := 24) rfl rfl ?_
      exact jj_back c24 (jj_wl hG [1, 2, 3, 4, 5, 6, 0] rfl (ih24 _ _))
  refine (show JJ C R base m G 0 [(0, .ref m), (1, .int p1), (2, .int p2), (3, .long p3), (5, .long p5), (7, .int p7)] [] q t kc ks (M_insert t p1 p2 p3 p5 p7) (some (r, tz)) from ?_) hw h
  refine jj_si hG rfl cc_s2700 ?_
  refine jjs hG rfl rfl ?_
  refine jjs hG rfl rfl ?_
  refine jjs hG rfl rfl ?_
  refine jj_gr hG (k := 105) rfl rfl rfl rfl ?_
  refine jjs hG rfl rfl ?_
  refine jj_ia hG (k := 105) rfl rfl rfl (fun x1 => ?_)
  refine jjs hG rfl rfl ?_
  refine jjc hG rfl rfl (Nat.le_of_ble_eq_true rfl) ?_
  refine jjs hG rfl rfl ?_
  refine jj_gr hG (k := 105) rfl rfl rfl rfl ?_
  refine jjs hG rfl rfl ?_
  refine jjc2 hG rfl rfl rfl rfl ?_
  refine jj_ia hG (k := 105) rfl rfl rfl (fun x2 => ?_)
  refine jj_ic hG rfl cc_i1 ?_
  refine jjs hG rfl rfl ?_
  refine jj_is hG (k := 105) rfl rfl rfl (fun s3 => ?_)
  refine jj_lp (fun n => ?_)
  exact jj_wl hG [1, 2, 3, 4, 5, 6, 0] rfl (b24 n _ _)
noncomputable def M_come (t : moS) (p1 : Int32) (p2 : Int32) (p3 : Int64) (p5 : Int64) (p7 : Int32) : Option moS := Option.bind (M_find t p1 p2 p3 p5 p7) (fun x1 => (if x1 = ((-1) : Int32) then (bn2 (M_isDue t p1 p2 p3 p5 p7) (fun x3 s2 => (if x3 = 0 then ((some s2)) else (bn2 (M_insert s2 p1 p2 p3 p5 p7) (fun x5 s4 => (Option.bind (wrI s4 110 x5 (moS.S s4 153)) (fun s6 => (Option.bind (wrI s6 111 x5 (moS.S s6 154)) (fun s7 => (Option.bind (wrI s7 113 x5 (moS.S s7 155)) (fun s8 => (Option.bind (wrI s8 112 x5 (moS.S s8 156)) (fun s9 => (Option.bind (M_markChanged s9 p1 x5) (fun s10 => ((some s10))))))))))))))))) else ((some t))))
set_option maxRecDepth 100000 in
set_option maxHeartbeats 4000000 in
theorem k_come (base : Nat) (sa : Nat → Nat) {C : Nat × Nat} {R : pmM} {m : Nat} {q : Nat → Nat} {t tz : moS} {kc ks : Nat} {Rt : pmR} {p1 : Int32} {p2 : Int32} {p3 : Int64} {p5 : Int64} {p7 : Int32} (hw : mW C R base m q t kc ks) (h : M_come t p1 p2 p3 p5 p7 = (some tz)) (k : mW C R base m q tz kc ks → Rt none (moM R m q tz) kc ks) : kP_Mo_come base sa [.ref m, .int p1, .int p2, .long p3, .long p5, .int p7] (moM R m q t) kc ks Rt := by
  refine ⟨Nat.le_of_ble_eq_true rfl, fun G hG => ?_⟩
  refine (show JJ C R base m G 0 [(0, .ref m), (1, .int p1), (2, .int p2), (3, .long p3), (5, .long p5), (7, .int p7)] [] q t kc ks (M_come t p1 p2 p3 p5 p7) (some tz) from ?_) hw h
  refine jjs hG rfl rfl ?_
  refine jjs hG rfl rfl ?_
  refine jjs hG rfl rfl ?_
  refine jjs hG rfl rfl ?_
  refine jjs hG rfl rfl ?_
  refine jjs hG rfl rfl ?_
  refine jj_cp hG 0 rfl rfl (Nat.le_of_ble_eq_true rfl) (by decide) (Nat.le_of_ble_eq_true rfl) rfl (st' := []) rfl (w := .int) (fun _ _ hw h k => pm_rcv_of moM_m (k_find base sa hw h k)) (fun x1 => ?_)
  refine jj_ic hG rfl cc_im1 ?_
  refine jj_ine hG (t := 29) rfl rfl ?_ ?_
  · exact jj_rvS hG rfl rfl (k)
  refine jjs hG rfl rfl ?_
  refine jjs hG rfl rfl ?_
  refine jjs hG rfl rfl ?_
  refine jjs hG rfl rfl ?_
  refine jjs hG rfl rfl ?_
  refine jjs hG rfl rfl ?_
  refine jj_cs hG 0 rfl rfl (Nat.le_of_ble_eq_true rfl) (by decide) (Nat.le_of_ble_eq_true rfl) rfl (st' := []) rfl (w := .int) (fun _ _ _ hw h k => pm_rcv_of moM_m (k_isDue base sa hw h k)) (fun x3 s2 => ?_)
  refine jj_zne hG (t := 30) rfl rfl ?_ ?_
  · refine jjs hG rfl rfl ?_
    refine jjs hG rfl rfl ?_
    refine jjs hG rfl rfl ?_
    refine jjs hG rfl rfl ?_
    refine jjs hG rfl rfl ?_
    refine jjs hG rfl rfl ?_
    refine jj_cs hG 0 rfl rfl (Nat.le_of_ble_eq_true rfl) (by decide) (Nat.le_of_ble_eq_true rfl) rfl (st' := []) rfl (w := .int) (fun _ _ _ hw h k => pm_rcv_of moM_m (k_insert base sa hw h k)) (fun x5 s4 => ?_)
    refine jjc hG rfl rfl (Nat.le_of_ble_eq_true rfl) ?_
    refine jjs hG rfl rfl ?_
    refine jj_gr hG (k := 110) rfl rfl rfl rfl ?_
    refine jjs hG rfl rfl ?_
    refine jjs hG rfl rfl ?_
    refine jj_gi hG (k := 153) rfl rfl rfl rfl ?_
    refine jj_is hG (k := 110) rfl rfl rfl (fun s6 => ?_)
    refine jjs hG rfl rfl ?_
    refine jj_gr hG (k := 111) rfl rfl rfl rfl ?_
    refine jjs hG rfl rfl ?_
    refine jjs hG rfl rfl ?_
    refine jj_gi hG (k := 154) rfl rfl rfl rfl ?_
    refine jj_is hG (k := 111) rfl rfl rfl (fun s7 => ?_)
    refine jjs hG rfl rfl ?_
    refine jj_gr hG (k := 113) rfl rfl rfl rfl ?_
    refine jjs hG rfl rfl ?_
    refine jjs hG rfl rfl ?_
    refine jj_gi hG (k := 155) rfl rfl rfl rfl ?_
    refine jj_is hG (k := 113) rfl rfl rfl (fun s8 => ?_)
    refine jjs hG rfl rfl ?_
    refine jj_gr hG (k := 112) rfl rfl rfl rfl ?_
    refine jjs hG rfl rfl ?_
    refine jjs hG rfl rfl ?_
    refine jj_gi hG (k := 156) rfl rfl rfl rfl ?_
    refine jj_is hG (k := 112) rfl rfl rfl (fun s9 => ?_)
    refine jjs hG rfl rfl ?_
    refine jjs hG rfl rfl ?_
    refine jjs hG rfl rfl ?_
    refine jj_cv hG 0 rfl rfl (Nat.le_of_ble_eq_true rfl) (by decide) (Nat.le_of_ble_eq_true rfl) rfl (st' := []) rfl (fun _ _ hw h k => pm_rcv_of moM_m (k_markChanged base sa hw h k)) (fun s10 => ?_)
    exact jj_rvS hG rfl rfl (k)
  exact jj_rvS hG rfl rfl (k)
