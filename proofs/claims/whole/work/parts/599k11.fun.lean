/-! The model as functions, by program: go .. request -/
noncomputable def M_go_s288 (t : moS) (a17 : Int32) (a18 : Int32) : Option ((Int32 × moS) ⊕ moS) := if a18 < (moS.S t 148) then (Option.bind (rdI t 147 a18) (fun x1 => (Option.bind (wrI t 138 (((700 : Int32) * a17) + a18) x1) (fun s2 => ((some (.inl ((a18 + (1 : Int32)), s2)))))))) else ((xo ((some t))))
noncomputable def M_go_b288 (t : moS) (a17 : Int32) (a18 : Int32) : Option moS := lp (fun x => M_go_s288 x.2 a17 x.1) (a18, t)
noncomputable def M_go_s105 (t : moS) (p1 : Int32) (p2 : Int32) (p3 : Int32) (p4 : Int64) (p6 : Int64) (p8 : Int32) (p9 : Int64) (p11 : Int64) (p13 : Int32) (p14 : Int32) (a16 : Int32) (a17 : Int32) : Option ((Int32 × moS) ⊕ moS) := Option.bind (rdI t 125 a17) (fun x1 => (if x1 = 0 then ((xo (Option.bind (wrZ t 125 a17 (1 : Int32)) (fun s2 => (Option.bind (wrI s2 124 (moS.S s2 123) a17) (fun s3 => (letS (moSS s3 123 ((moS.S s3 123) + (1 : Int32))) (fun s4 => (Option.bind (wrI s4 126 a17 p1) (fun s5 => (Option.bind (wrI s5 127 a17 p2) (fun s6 => (Option.bind (wrZ s6 128 a17 p3) (fun s7 => (Option.bind (wrJ s7 129 a17 p4) (fun s8 => (Option.bind (wrJ s8 130 a17 p6) (fun s9 => (Option.bind (wrI s9 131 a17 p8) (fun s10 => (Option.bind (wrJ s10 132 a17 p9) (fun s11 => (Option.bind (wrJ s11 133 a17 p11) (fun s12 => (Option.bind (wrI s12 134 a17 p13) (fun s13 => (Option.bind (wrI s13 135 a17 p14) (fun s14 => (Option.bind (rdI s14 19 p1) (fun x15 => (Option.bind (rdI s14 20 p1) (fun x16 => (nzL (Int32.toInt64 (x16 + (1 : Int32))) (Option.bind (wrI s14 136 a17 (((moS.S s14 1) + x15) + (Int64.toInt32 (rem_L ((3 : Int64) * (Int32.toInt64 a16)) (Int32.toInt64 (x16 + (1 : Int32))))))) (fun s17 => (Option.bind (wrI s17 137 a17 (moS.S s17 148)) (fun s18 => ((M_go_b288 s18 a17 (0 : Int32)))))))))))))))))))))))))))))))))))))))) else ((some (.inl ((a17 + (1 : Int32)), t))))))
noncomputable def M_go_b105 (t : moS) (p1 : Int32) (p2 : Int32) (p3 : Int32) (p4 : Int64) (p6 : Int64) (p8 : Int32) (p9 : Int64) (p11 : Int64) (p13 : Int32) (p14 : Int32) (a16 : Int32) (a17 : Int32) : Option moS := lp (fun x => M_go_s105 x.2 p1 p2 p3 p4 p6 p8 p9 p11 p13 p14 a16 x.1) (a17, t)
noncomputable def M_go_b102 (t : moS) (p1 : Int32) (p2 : Int32) (p3 : Int32) (p4 : Int64) (p6 : Int64) (p8 : Int32) (p9 : Int64) (p11 : Int64) (p13 : Int32) (p14 : Int32) (a16 : Int32) : Option moS := (M_go_b105 t p1 p2 p3 p4 p6 p8 p9 p11 p13 p14 a16 (0 : Int32))
noncomputable def M_go_s31 (t : moS) (p1 : Int32) (p2 : Int32) (p3 : Int32) (p4 : Int64) (p6 : Int64) (p8 : Int32) (p9 : Int64) (p11 : Int64) (p13 : Int32) (p14 : Int32) (p15 : Int32) (a16 : Int32) (a17 : Int32) : Option ((Int32 × moS) ⊕ moS) := if a17 < (moS.S t 148) then (Option.bind (rdI t 147 a17) (fun x4 => (Option.bind (wrI t 26 (((700 : Int32) * p1) + a17) x4) (fun s5 => ((some (.inl ((a17 + (1 : Int32)), s5)))))))) else ((xo (if (moS.S t 123) = (256 : Int32) then ((some t)) else (if p15 = 0 then ((M_go_b102 t p1 p2 p3 p4 p6 p8 p9 p11 p13 p14 a16)) else (Option.bind (rdI t 24 p1) (fun x1 => (if 0 < x1 then (Option.bind (rdI t 24 p1) (fun x2 => (Option.bind (wrI t 24 p1 (x2 - (1 : Int32))) (fun s3 => ((some s3)))))) else ((M_go_b102 t p1 p2 p3 p4 p6 p8 p9 p11 p13 p14 a16)))))))))
noncomputable def M_go_b31 (t : moS) (p1 : Int32) (p2 : Int32) (p3 : Int32) (p4 : Int64) (p6 : Int64) (p8 : Int32) (p9 : Int64) (p11 : Int64) (p13 : Int32) (p14 : Int32) (p15 : Int32) (a16 : Int32) (a17 : Int32) : Option moS := lp (fun x => M_go_s31 x.2 p1 p2 p3 p4 p6 p8 p9 p11 p13 p14 p15 a16 x.1) (a17, t)
noncomputable def M_go (t : moS) (p1 : Int32) (p2 : Int32) (p3 : Int32) (p4 : Int64) (p6 : Int64) (p8 : Int32) (p9 : Int64) (p11 : Int64) (p13 : Int32) (p14 : Int32) (p15 : Int32) : Option moS := Option.bind (rdI t 23 p1) (fun x1 => (Option.bind (rdI t 23 p1) (fun x2 => (Option.bind (wrI t 23 p1 (x2 + (1 : Int32))) (fun s3 => (Option.bind (wrI s3 25 p1 (moS.S s3 148)) (fun s4 => ((M_go_b31 s4 p1 p2 p3 p4 p6 p8 p9 p11 p13 p14 p15 x1 (0 : Int32))))))))))
set_option maxRecDepth 100000 in
set_option maxHeartbeats 4000000 in
theorem k_go (base : Nat) (sa : Nat → Nat) {C : Nat × Nat} {R : pmM} {m : Nat} {q : Nat → Nat} {t tz : moS} {kc ks : Nat} {Rt : pmR} {p1 : Int32} {p2 : Int32} {p3 : Int32} {p4 : Int64} {p6 : Int64} {p8 : Int32} {p9 : Int64} {p11 : Int64} {p13 : Int32} {p14 : Int32} {p15 : Int32} (hw : mW C R base m q t kc ks) (h : M_go t p1 p2 p3 p4 p6 p8 p9 p11 p13 p14 p15 = (some tz)) (k : mW C R base m q tz kc ks → Rt none (moM R m q tz) kc ks) : kP_Mo_go base sa [.ref m, .int p1, .int p2, .int p3, .long p4, .long p6, .int p8, .long p9, .long p11, .int p13, .int p14, .int p15] (moM R m q t) kc ks Rt := by
  refine ⟨Nat.le_of_ble_eq_true rfl, fun G hG => ?_⟩
  have b288 : ∀ (a17 : Int32) (n : Nat) (a18 : Int32) (t : moS), JJ C R base m G 288 [(0, .ref m), (17, .int a17), (18, .int a18)] [] q t kc ks (lpN (fun x => M_go_s288 x.2 a17 x.1) n (a18, t)) (some tz) := by
    intro a17 n
    induction n with
    | zero => intro a18 t; exact jj_lp0
    | succ n ih288 =>
      intro a18 t
      refine jj_lpS (fun y288 c288 => ?_)
      refine (show JJ C R base m G 288 [(0, .ref m), (17, .int a17), (18, .int a18)] [] q t kc ks (M_go_s288 t a17 a18) (some y288) from ?_)
      refine jjs hG rfl rfl ?_
      refine jjs hG rfl rfl ?_
      refine jj_gi hG (k := 148) rfl rfl rfl rfl ?_
      refine jj_ige hG (t := 324) rfl rfl ?_ ?_
      · refine jj_exit c288 ?_
        exact jj_rvS hG rfl rfl (k)
      refine jjs hG rfl rfl ?_
      refine jj_gr hG (k := 138) rfl rfl rfl rfl ?_
      refine jj_si hG rfl cc_s700 ?_
      refine jjs hG rfl rfl ?_
      refine jjs hG rfl rfl ?_
      refine jjs hG rfl rfl ?_
      refine jjs hG rfl rfl ?_
      refine jjs hG rfl rfl ?_
      refine jj_gr hG (k := 147) rfl rfl rfl rfl ?_
      refine jjs hG rfl rfl ?_
      refine jj_ia hG (k := 147) rfl rfl rfl (fun x1 => ?_)
      refine jj_is hG (k := 138) rfl rfl rfl (fun s2 => ?_)
      refine jj_inc hG rfl (Nat.le_of_ble_eq_true rfl) rfl cc_i1 ?_
      refine jj_go hG (t := 288) rfl rfl ?_
      exact jj_back c288 (jj_wl hG [1, 2, 0] rfl (ih288 _ _))
  have b105 : ∀ (a16 : Int32) (n : Nat) (a17 : Int32) (t : moS), JJ C R base m G 105 [(0, .ref m), (1, .int p1), (2, .int p2), (3, .int p3), (4, .long p4), (6, .long p6), (8, .int p8), (9, .long p9), (11, .long p11), (13, .int p13), (14, .int p14), (16, .int a16), (17, .int a17)] [] q t kc ks (lpN (fun x => M_go_s105 x.2 p1 p2 p3 p4 p6 p8 p9 p11 p13 p14 a16 x.1) n (a17, t)) (some tz) := by
    intro a16 n
    induction n with
    | zero => intro a17 t; exact jj_lp0
    | succ n ih105 =>
      intro a17 t
      refine jj_lpS (fun y105 c105 => ?_)
      refine (show JJ C R base m G 105 [(0, .ref m), (1, .int p1), (2, .int p2), (3, .int p3), (4, .long p4), (6, .long p6), (8, .int p8), (9, .long p9), (11, .long p11), (13, .int p13), (14, .int p14), (16, .int a16), (17, .int a17)] [] q t kc ks (M_go_s105 t p1 p2 p3 p4 p6 p8 p9 p11 p13 p14 a16 a17) (some y105) from ?_)
      refine jjs hG rfl rfl ?_
      refine jj_gr hG (k := 125) rfl rfl rfl rfl ?_
      refine jjs hG rfl rfl ?_
      refine jj_ba hG (k := 125) rfl rfl rfl (fun x1 => ?_)
      refine jj_zeq hG (t := 121) rfl rfl ?_ ?_
      · refine jj_exit c105 ?_
        refine jjs hG rfl rfl ?_
        refine jj_gr hG (k := 125) rfl rfl rfl rfl ?_
        refine jjs hG rfl rfl ?_
        refine jj_ic hG rfl cc_i1 ?_
        refine jj_bs hG (k := 125) rfl rfl rfl (fun s2 => ?_)
        refine jjs hG rfl rfl ?_
        refine jj_gr hG (k := 124) rfl rfl rfl rfl ?_
        refine jjs hG rfl rfl ?_
        refine jj_gi hG (k := 123) rfl rfl rfl rfl ?_
        refine jjs hG rfl rfl ?_
        refine jj_is hG (k := 124) rfl rfl rfl (fun s3 => ?_)
        refine jjs hG rfl rfl ?_
        refine jjc hG rfl rfl rfl ?_
        refine jj_gi hG (k := 123) rfl rfl rfl rfl ?_
        refine jj_ic hG rfl cc_i1 ?_
        refine jjs hG rfl rfl ?_
        refine jj_pi hG (k := 123) rfl rfl rfl rfl (fun s4 => ?_)
        refine jjs hG rfl rfl ?_
        refine jj_gr hG (k := 126) rfl rfl rfl rfl ?_
        refine jjs hG rfl rfl ?_
        refine jjs hG rfl rfl ?_
        refine jj_is hG (k := 126) rfl rfl rfl (fun s5 => ?_)
        refine jjs hG rfl rfl ?_
        refine jj_gr hG (k := 127) rfl rfl rfl rfl ?_
        refine jjs hG rfl rfl ?_
        refine jjs hG rfl rfl ?_
        refine jj_is hG (k := 127) rfl rfl rfl (fun s6 => ?_)
        refine jjs hG rfl rfl ?_
        refine jj_gr hG (k := 128) rfl rfl rfl rfl ?_
        refine jjs hG rfl rfl ?_
        refine jjs hG rfl rfl ?_
        refine jj_bs hG (k := 128) rfl rfl rfl (fun s7 => ?_)
        refine jjs hG rfl rfl ?_
        refine jj_gr hG (k := 129) rfl rfl rfl rfl ?_
        refine jjs hG rfl rfl ?_
        refine jjs hG rfl rfl ?_
        refine jj_ls hG (k := 129) rfl rfl rfl (fun s8 => ?_)
        refine jjs hG rfl rfl ?_
        refine jj_gr hG (k := 130) rfl rfl rfl rfl ?_
        refine jjs hG rfl rfl ?_
        refine jjs hG rfl rfl ?_
        refine jj_ls hG (k := 130) rfl rfl rfl (fun s9 => ?_)
        refine jjs hG rfl rfl ?_
        refine jj_gr hG (k := 131) rfl rfl rfl rfl ?_
        refine jjs hG rfl rfl ?_
        refine jjs hG rfl rfl ?_
        refine jj_is hG (k := 131) rfl rfl rfl (fun s10 => ?_)
        refine jjs hG rfl rfl ?_
        refine jj_gr hG (k := 132) rfl rfl rfl rfl ?_
        refine jjs hG rfl rfl ?_
        refine jjs hG rfl rfl ?_
        refine jj_ls hG (k := 132) rfl rfl rfl (fun s11 => ?_)
        refine jjs hG rfl rfl ?_
        refine jj_gr hG (k := 133) rfl rfl rfl rfl ?_
        refine jjs hG rfl rfl ?_
        refine jjs hG rfl rfl ?_
        refine jj_ls hG (k := 133) rfl rfl rfl (fun s12 => ?_)
        refine jjs hG rfl rfl ?_
        refine jj_gr hG (k := 134) rfl rfl rfl rfl ?_
        refine jjs hG rfl rfl ?_
        refine jjs hG rfl rfl ?_
        refine jj_is hG (k := 134) rfl rfl rfl (fun s13 => ?_)
        refine jjs hG rfl rfl ?_
        refine jj_gr hG (k := 135) rfl rfl rfl rfl ?_
        refine jjs hG rfl rfl ?_
        refine jjs hG rfl rfl ?_
        refine jj_is hG (k := 135) rfl rfl rfl (fun s14 => ?_)
        refine jjs hG rfl rfl ?_
        refine jj_gr hG (k := 136) rfl rfl rfl rfl ?_
        refine jjs hG rfl rfl ?_
        refine jjs hG rfl rfl ?_
        refine jj_gi hG (k := 1) rfl rfl rfl rfl ?_
        refine jjs hG rfl rfl ?_
        refine jj_gr hG (k := 19) rfl rfl rfl rfl ?_
        refine jjs hG rfl rfl ?_
        refine jj_ia hG (k := 19) rfl rfl rfl (fun x15 => ?_)
        refine jjs hG rfl rfl ?_
        refine jj_l2 hG (v := (3 : Int64)) rfl rfl ?_
        refine jjs hG rfl rfl ?_
        refine jjs hG rfl rfl ?_
        refine jjs hG rfl rfl ?_
        refine jjs hG rfl rfl ?_
        refine jj_gr hG (k := 20) rfl rfl rfl rfl ?_
        refine jjs hG rfl rfl ?_
        refine jj_ia hG (k := 20) rfl rfl rfl (fun x16 => ?_)
        refine jj_ic hG rfl cc_i1 ?_
        refine jjs hG rfl rfl ?_
        refine jjs hG rfl rfl ?_
        refine jj_nzL hG rfl rfl ?_
        refine jjs hG rfl rfl ?_
        refine jjs hG rfl rfl ?_
        refine jj_is hG (k := 136) rfl rfl rfl (fun s17 => ?_)
        refine jjs hG rfl rfl ?_
        refine jj_gr hG (k := 137) rfl rfl rfl rfl ?_
        refine jjs hG rfl rfl ?_
        refine jjs hG rfl rfl ?_
        refine jj_gi hG (k := 148) rfl rfl rfl rfl ?_
        refine jj_is hG (k := 137) rfl rfl rfl (fun s18 => ?_)
        refine jj_ic hG rfl cc_i0 ?_
        refine jjc hG rfl rfl (Nat.le_of_ble_eq_true rfl) ?_
        refine jj_lp (fun n => ?_)
        exact jj_wl hG [1, 13, 0] rfl (b288 _ n _ _)
      refine jj_inc hG rfl (Nat.le_of_ble_eq_true rfl) rfl cc_i1 ?_
      refine jj_go hG (t := 105) rfl rfl ?_
      exact jj_back c105 (jj_wl hG [1, 2, 3, 4, 5, 6, 7, 8, 9, 10, 11, 12, 0] rfl (ih105 _ _))
  have b102 : ∀ (a16 : Int32) (t : moS), JJ C R base m G 102 [(0, .ref m), (1, .int p1), (2, .int p2), (3, .int p3), (4, .long p4), (6, .long p6), (8, .int p8), (9, .long p9), (11, .long p11), (13, .int p13), (14, .int p14), (16, .int a16)] [] q t kc ks (M_go_b102 t p1 p2 p3 p4 p6 p8 p9 p11 p13 p14 a16) (some tz) := by
    intro a16 t
    refine jj_ic hG rfl cc_i0 ?_
    refine jjc hG rfl rfl (Nat.le_of_ble_eq_true rfl) ?_
    refine jj_lp (fun n => ?_)
    exact jj_wl hG [1, 2, 3, 4, 5, 6, 7, 8, 9, 10, 11, 12, 0] rfl (b105 _ n _ _)
  have b31 : ∀ (a16 : Int32) (n : Nat) (a17 : Int32) (t : moS), JJ C R base m G 31 [(0, .ref m), (1, .int p1), (2, .int p2), (3, .int p3), (4, .long p4), (6, .long p6), (8, .int p8), (9, .long p9), (11, .long p11), (13, .int p13), (14, .int p14), (15, .int p15), (16, .int a16), (17, .int a17)] [] q t kc ks (lpN (fun x => M_go_s31 x.2 p1 p2 p3 p4 p6 p8 p9 p11 p13 p14 p15 a16 x.1) n (a17, t)) (some tz) := by
    intro a16 n
    induction n with
    | zero => intro a17 t; exact jj_lp0
    | succ n ih31 =>
      intro a17 t
      refine jj_lpS (fun y31 c31 => ?_)
      refine (show JJ C R base m G 31 [(0, .ref m), (1, .int p1), (2, .int p2), (3, .int p3), (4, .long p4), (6, .long p6), (8, .int p8), (9, .long p9), (11, .long p11), (13, .int p13), (14, .int p14), (15, .int p15), (16, .int a16), (17, .int a17)] [] q t kc ks (M_go_s31 t p1 p2 p3 p4 p6 p8 p9 p11 p13 p14 p15 a16 a17) (some y31) from ?_)
      refine jjs hG rfl rfl ?_
      refine jjs hG rfl rfl ?_
      refine jj_gi hG (k := 148) rfl rfl rfl rfl ?_
      refine jj_ige hG (t := 66) rfl rfl ?_ ?_
      · refine jj_exit c31 ?_
        refine jjs hG rfl rfl ?_
        refine jj_gi hG (k := 123) rfl rfl rfl rfl ?_
        refine jj_si hG rfl cc_s256 ?_
        refine jj_ine hG (t := 77) rfl rfl ?_ ?_
        · refine jjs hG rfl rfl ?_
          refine jj_zeq hG (t := 102) rfl rfl ?_ ?_
          · exact jj_wl hG [0, 1, 2, 3, 4, 5, 6, 7, 8, 9, 10, 12] rfl (b102 _ _)
          refine jjs hG rfl rfl ?_
          refine jj_gr hG (k := 24) rfl rfl rfl rfl ?_
          refine jjs hG rfl rfl ?_
          refine jj_ia hG (k := 24) rfl rfl rfl (fun x1 => ?_)
          refine jj_zle hG (t := 102) rfl rfl ?_ ?_
          · exact jj_wl hG [0, 1, 2, 3, 4, 5, 6, 7, 8, 9, 10, 12] rfl (b102 _ _)
          refine jjs hG rfl rfl ?_
          refine jj_gr hG (k := 24) rfl rfl rfl rfl ?_
          refine jjs hG rfl rfl ?_
          refine jjc2 hG rfl rfl rfl rfl ?_
          refine jj_ia hG (k := 24) rfl rfl rfl (fun x2 => ?_)
          refine jj_ic hG rfl cc_i1 ?_
          refine jjs hG rfl rfl ?_
          refine jj_is hG (k := 24) rfl rfl rfl (fun s3 => ?_)
          exact jj_rvS hG rfl rfl (k)
        exact jj_rvS hG rfl rfl (k)
      refine jjs hG rfl rfl ?_
      refine jj_gr hG (k := 26) rfl rfl rfl rfl ?_
      refine jj_si hG rfl cc_s700 ?_
      refine jjs hG rfl rfl ?_
      refine jjs hG rfl rfl ?_
      refine jjs hG rfl rfl ?_
      refine jjs hG rfl rfl ?_
      refine jjs hG rfl rfl ?_
      refine jj_gr hG (k := 147) rfl rfl rfl rfl ?_
      refine jjs hG rfl rfl ?_
      refine jj_ia hG (k := 147) rfl rfl rfl (fun x4 => ?_)
      refine jj_is hG (k := 26) rfl rfl rfl (fun s5 => ?_)
      refine jj_inc hG rfl (Nat.le_of_ble_eq_true rfl) rfl cc_i1 ?_
      refine jj_go hG (t := 31) rfl rfl ?_
      exact jj_back c31 (jj_wl hG [1, 2, 3, 4, 5, 6, 7, 8, 9, 10, 11, 12, 13, 0] rfl (ih31 _ _))
  refine (show JJ C R base m G 0 [(0, .ref m), (1, .int p1), (2, .int p2), (3, .int p3), (4, .long p4), (6, .long p6), (8, .int p8), (9, .long p9), (11, .long p11), (13, .int p13), (14, .int p14), (15, .int p15)] [] q t kc ks (M_go t p1 p2 p3 p4 p6 p8 p9 p11 p13 p14 p15) (some tz) from ?_) hw h
  refine jjs hG rfl rfl ?_
  refine jj_gr hG (k := 23) rfl rfl rfl rfl ?_
  refine jjs hG rfl rfl ?_
  refine jj_ia hG (k := 23) rfl rfl rfl (fun x1 => ?_)
  refine jjc hG rfl rfl (Nat.le_of_ble_eq_true rfl) ?_
  refine jjs hG rfl rfl ?_
  refine jj_gr hG (k := 23) rfl rfl rfl rfl ?_
  refine jjs hG rfl rfl ?_
  refine jjc2 hG rfl rfl rfl rfl ?_
  refine jj_ia hG (k := 23) rfl rfl rfl (fun x2 => ?_)
  refine jj_ic hG rfl cc_i1 ?_
  refine jjs hG rfl rfl ?_
  refine jj_is hG (k := 23) rfl rfl rfl (fun s3 => ?_)
  refine jjs hG rfl rfl ?_
  refine jj_gr hG (k := 25) rfl rfl rfl rfl ?_
  refine jjs hG rfl rfl ?_
  refine jjs hG rfl rfl ?_
  refine jj_gi hG (k := 148) rfl rfl rfl rfl ?_
  refine jj_is hG (k := 25) rfl rfl rfl (fun s4 => ?_)
  refine jj_ic hG rfl cc_i0 ?_
  refine jjc hG rfl rfl (Nat.le_of_ble_eq_true rfl) ?_
  refine jj_lp (fun n => ?_)
  exact jj_wl hG [2, 3, 4, 5, 6, 7, 8, 9, 10, 11, 12, 13, 1, 0] rfl (b31 _ n _ _)
noncomputable def M_send_b93 (t : moS) (u1 : Int32) (u2 : Int32) (u3 : Int32) (u4 : Int64) (u5 : Int64) (u6 : Int32) (u7 : Int64) (u8 : Int64) (u9 : Int32) : Option moS := Option.bind (M_go t u1 u2 u3 u4 u5 u6 u7 u8 u9 (255 : Int32) (1 : Int32)) (fun s1 => ((some s1)))
noncomputable def M_send (t : moS) (p1 : Int32) (p2 : Int32) (p3 : Int32) (p4 : Int32) (p5 : Int32) (p6 : Int64) (p8 : Int64) : Option moS := Option.bind (rdI t 71 p1) (fun x1 => (Option.bind (rdI t 22 x1) (fun x2 => (if x2 = 0 then ((some t)) else (bn2 (M_wrap t p1 p2 p3 p4) (fun x4 s3 => (if x4 = 0 then ((some s3)) else (Option.bind (rdI s3 45 (((11 : Int32) * (p1 / (4 : Int32))) + (5 : Int32))) (fun x5 => (Option.bind (wrI s3 45 (((11 : Int32) * (p1 / (4 : Int32))) + (5 : Int32)) (x5 + (1 : Int32))) (fun s6 => (Option.bind (rdI s6 71 p1) (fun x7 => (Option.bind (rdJ s6 76 (((2 : Int32) * p1) + p2)) (fun x8 => (Option.bind (rdJ s6 77 (((2 : Int32) * p1) + p2)) (fun x9 => (if p2 = 0 then ((M_send_b93 s6 x7 p1 p5 p6 p8 p2 x8 x9 (520 : Int32))) else ((M_send_b93 s6 x7 p1 p5 p6 p8 p2 x8 x9 (521 : Int32)))))))))))))))))))))
set_option maxRecDepth 100000 in
set_option maxHeartbeats 4000000 in
theorem k_send (base : Nat) (sa : Nat → Nat) {C : Nat × Nat} {R : pmM} {m : Nat} {q : Nat → Nat} {t tz : moS} {kc ks : Nat} {Rt : pmR} {p1 : Int32} {p2 : Int32} {p3 : Int32} {p4 : Int32} {p5 : Int32} {p6 : Int64} {p8 : Int64} (hw : mW C R base m q t kc ks) (h : M_send t p1 p2 p3 p4 p5 p6 p8 = (some tz)) (k : mW C R base m q tz kc ks → Rt none (moM R m q tz) kc ks) : kP_Mo_send base sa [.ref m, .int p1, .int p2, .int p3, .int p4, .int p5, .long p6, .long p8] (moM R m q t) kc ks Rt := by
  refine ⟨Nat.le_of_ble_eq_true rfl, fun G hG => ?_⟩
  have b93 : ∀ (u1 : Int32) (u2 : Int32) (u3 : Int32) (u4 : Int64) (u5 : Int64) (u6 : Int32) (u7 : Int64) (u8 : Int64) (u9 : Int32) (t : moS), JJ C R base m G 93 [] [.int u9, .long u8, .long u7, .int u6, .long u5, .long u4, .int u3, .int u2, .int u1, .ref m] q t kc ks (M_send_b93 t u1 u2 u3 u4 u5 u6 u7 u8 u9) (some tz) := by
    intro u1 u2 u3 u4 u5 u6 u7 u8 u9 t
    refine jj_si hG rfl cc_s255 ?_
    refine jj_ic hG rfl cc_i1 ?_
    refine jj_cv hG 0 rfl rfl (Nat.le_of_ble_eq_true rfl) (by decide) (Nat.le_of_ble_eq_true rfl) rfl (st' := []) rfl (fun _ _ hw h k => pm_rcv_of moM_m (k_go base sa hw h k)) (fun s1 => ?_)
    exact jj_rvS hG rfl rfl (k)
  refine (show JJ C R base m G 0 [(0, .ref m), (1, .int p1), (2, .int p2), (3, .int p3), (4, .int p4), (5, .int p5), (6, .long p6), (8, .long p8)] [] q t kc ks (M_send t p1 p2 p3 p4 p5 p6 p8) (some tz) from ?_) hw h
  refine jjs hG rfl rfl ?_
  refine jj_gr hG (k := 22) rfl rfl rfl rfl ?_
  refine jjs hG rfl rfl ?_
  refine jj_gr hG (k := 71) rfl rfl rfl rfl ?_
  refine jjs hG rfl rfl ?_
  refine jj_ia hG (k := 71) rfl rfl rfl (fun x1 => ?_)
  refine jj_ba hG (k := 22) rfl rfl rfl (fun x2 => ?_)
  refine jj_zeq hG (t := 26) rfl rfl ?_ ?_
  · exact jj_rvS hG rfl rfl (k)
  refine jjs hG rfl rfl ?_
  refine jjs hG rfl rfl ?_
  refine jjs hG rfl rfl ?_
  refine jjs hG rfl rfl ?_
  refine jjs hG rfl rfl ?_
  refine jj_cs hG 0 rfl rfl (Nat.le_of_ble_eq_true rfl) (by decide) (Nat.le_of_ble_eq_true rfl) rfl (st' := []) rfl (w := .int) (fun _ _ _ hw h k => pm_rcv_of moM_m (k_wrap base sa hw h k)) (fun x4 s3 => ?_)
  refine jj_zne hG (t := 27) rfl rfl ?_ ?_
  · refine jjs hG rfl rfl ?_
    refine jj_gr hG (k := 45) rfl rfl rfl rfl ?_
    refine jj_bi hG rfl cc_b11 ?_
    refine jjs hG rfl rfl ?_
    refine jj_ic hG rfl cc_i4 ?_
    refine jjc hG rfl rfl (by decide) ?_
    refine jjs hG rfl rfl ?_
    refine jj_ic hG rfl cc_i5 ?_
    refine jjs hG rfl rfl ?_
    refine jjc2 hG rfl rfl rfl rfl ?_
    refine jj_ia hG (k := 45) rfl rfl rfl (fun x5 => ?_)
    refine jj_ic hG rfl cc_i1 ?_
    refine jjs hG rfl rfl ?_
    refine jj_is hG (k := 45) rfl rfl rfl (fun s6 => ?_)
    refine jj_ic hG rfl cc_i2 ?_
    refine jjs hG rfl rfl ?_
    refine jjs hG rfl rfl ?_
    refine jjs hG rfl rfl ?_
    refine jjs hG rfl rfl ?_
    refine jjc hG rfl rfl (Nat.le_of_ble_eq_true rfl) ?_
    refine jjs hG rfl rfl ?_
    refine jjs hG rfl rfl ?_
    refine jj_gr hG (k := 71) rfl rfl rfl rfl ?_
    refine jjs hG rfl rfl ?_
    refine jj_ia hG (k := 71) rfl rfl rfl (fun x7 => ?_)
    refine jjs hG rfl rfl ?_
    refine jjs hG rfl rfl ?_
    refine jjs hG rfl rfl ?_
    refine jjs hG rfl rfl ?_
    refine jjs hG rfl rfl ?_
    refine jjs hG rfl rfl ?_
    refine jj_gr hG (k := 76) rfl rfl rfl rfl ?_
    refine jjs hG rfl rfl ?_
    refine jj_la hG (k := 76) rfl rfl rfl (fun x8 => ?_)
    refine jjs hG rfl rfl ?_
    refine jj_gr hG (k := 77) rfl rfl rfl rfl ?_
    refine jjs hG rfl rfl ?_
    refine jj_la hG (k := 77) rfl rfl rfl (fun x9 => ?_)
    refine jjs hG rfl rfl ?_
    refine jj_zne hG (t := 90) rfl rfl ?_ ?_
    · refine jj_si hG rfl cc_s521 ?_
      exact jj_wl hG [] rfl (b93 _ _ _ _ _ _ _ _ _ _)
    refine jj_si hG rfl cc_s520 ?_
    refine jj_go hG (t := 93) rfl rfl ?_
    exact jj_wl hG [] rfl (b93 _ _ _ _ _ _ _ _ _ _)
  exact jj_rvS hG rfl rfl (k)
noncomputable def M_request_s2 (t : moS) (p1 : Int32) (p2 : Int32) (a3 : Int32) : Option ((Int32 × moS) ⊕ moS) := if a3 < (20 : Int32) then (Option.bind (wrI t 146 a3 (0 : Int32)) (fun s3 => ((some (.inl ((a3 + (1 : Int32)), s3)))))) else ((xo (Option.bind (wrI t 146 (19 : Int32) (16 : Int32)) (fun s1 => (Option.bind (M_send s1 p1 p2 (1 : Int32) (1 : Int32) (1 : Int32) (0 : Int64) (0 : Int64)) (fun s2 => ((some s2))))))))
noncomputable def M_request_b2 (t : moS) (p1 : Int32) (p2 : Int32) (a3 : Int32) : Option moS := lp (fun x => M_request_s2 x.2 p1 p2 x.1) (a3, t)
noncomputable def M_request (t : moS) (p1 : Int32) (p2 : Int32) : Option moS := (M_request_b2 t p1 p2 (0 : Int32))
set_option maxRecDepth 100000 in
set_option maxHeartbeats 4000000 in
theorem k_request (base : Nat) (sa : Nat → Nat) {C : Nat × Nat} {R : pmM} {m : Nat} {q : Nat → Nat} {t tz : moS} {kc ks : Nat} {Rt : pmR} {p1 : Int32} {p2 : Int32} (hw : mW C R base m q t kc ks) (h : M_request t p1 p2 = (some tz)) (k : mW C R base m q tz kc ks → Rt none (moM R m q tz) kc ks) : kP_Mo_request base sa [.ref m, .int p1, .int p2] (moM R m q t) kc ks Rt := by
  refine ⟨Nat.le_of_ble_eq_true rfl, fun G hG => ?_⟩
  have b2 : ∀ (n : Nat) (a3 : Int32) (t : moS), JJ C R base m G 2 [(0, .ref m), (1, .int p1), (2, .int p2), (3, .int a3)] [] q t kc ks (lpN (fun x => M_request_s2 x.2 p1 p2 x.1) n (a3, t)) (some tz) := by
    intro n
    induction n with
    | zero => intro a3 t; exact jj_lp0
    | succ n ih2 =>
      intro a3 t
      refine jj_lpS (fun y2 c2 => ?_)
      refine (show JJ C R base m G 2 [(0, .ref m), (1, .int p1), (2, .int p2), (3, .int a3)] [] q t kc ks (M_request_s2 t p1 p2 a3) (some y2) from ?_)
      refine jjs hG rfl rfl ?_
      refine jj_bi hG rfl cc_b20 ?_
      refine jj_ige hG (t := 21) rfl rfl ?_ ?_
      · refine jj_exit c2 ?_
        refine jjs hG rfl rfl ?_
        refine jj_gr hG (k := 146) rfl rfl rfl rfl ?_
        refine jj_bi hG rfl cc_b19 ?_
        refine jj_bi hG rfl cc_b16 ?_
        refine jj_is hG (k := 146) rfl rfl rfl (fun s1 => ?_)
        refine jjs hG rfl rfl ?_
        refine jjs hG rfl rfl ?_
        refine jjs hG rfl rfl ?_
        refine jj_ic hG rfl cc_i1 ?_
        refine jj_ic hG rfl cc_i1 ?_
        refine jj_ic hG rfl cc_i1 ?_
        refine jj_lc hG (c := 0) (v := 0) rfl rfl ?_
        refine jj_lc hG (c := 0) (v := 0) rfl rfl ?_
        refine jj_cv hG 0 rfl rfl (Nat.le_of_ble_eq_true rfl) (by decide) (Nat.le_of_ble_eq_true rfl) rfl (st' := []) rfl (fun _ _ hw h k => pm_rcv_of moM_m (k_send base sa hw h k)) (fun s2 => ?_)
        exact jj_rvS hG rfl rfl (k)
      refine jjs hG rfl rfl ?_
      refine jj_gr hG (k := 146) rfl rfl rfl rfl ?_
      refine jjs hG rfl rfl ?_
      refine jj_ic hG rfl cc_i0 ?_
      refine jj_is hG (k := 146) rfl rfl rfl (fun s3 => ?_)
      refine jj_inc hG rfl (Nat.le_of_ble_eq_true rfl) rfl cc_i1 ?_
      refine jj_go hG (t := 2) rfl rfl ?_
      exact jj_back c2 (jj_wl hG [1, 2, 3, 0] rfl (ih2 _ _))
  refine (show JJ C R base m G 0 [(0, .ref m), (1, .int p1), (2, .int p2)] [] q t kc ks (M_request t p1 p2) (some tz) from ?_) hw h
  refine jj_ic hG rfl cc_i0 ?_
  refine jjc hG rfl rfl (Nat.le_of_ble_eq_true rfl) ?_
  refine jj_lp (fun n => ?_)
  exact jj_wl hG [1, 2, 3, 0] rfl (b2 n _ _)
