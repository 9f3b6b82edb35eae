/-! The model as functions, by program: own .. isKeyOption -/
noncomputable def M_own_b34 : Int32 := (0 : Int32)
noncomputable def M_own (p0 : Int64) : Int32 := if p0 = (20992 : Int64) then ((2 : Int32)) else (if p0 = (30721 : Int64) then ((2 : Int32)) else (if p0 = (65688271285 : Int64) then ((M_own_b34)) else (if p0 = (982905 : Int64) then ((M_own_b34)) else ((1 : Int32)))))
set_option maxRecDepth 100000 in
set_option maxHeartbeats 4000000 in
theorem k_own (base : Nat) (sa : Nat → Nat) {C : Nat × Nat} {R : pmM} {m : Nat} {q : Nat → Nat} {t : moS} {kc ks : Nat} {Rt : pmR} {p0 : Int64} {r : Int32} (hw : mW C R base m q t kc ks) (h : M_own p0 = r) (k : Rt (some (.int r)) (moM R m q t) kc ks) : kP_Mo_own base sa [.long p0] (moM R m q t) kc ks Rt := by
  refine ⟨Nat.le_of_ble_eq_true rfl, fun G hG => ?_⟩
  have b34 : JJ C R base m G 34 [] [] q t kc ks M_own_b34 r := by
    refine jj_ic hG rfl cc_i0 ?_
    refine jj_go hG (t := 39) rfl rfl ?_
    exact jj_rit hG rfl rfl rfl k
  refine (show JJ C R base m G 0 [(0, .long p0)] [] q t kc ks (M_own p0) r from ?_) hw h
  refine jjs hG rfl rfl ?_
  refine jj_l2 hG (v := (20992 : Int64)) rfl rfl ?_
  refine jjs hG rfl rfl ?_
  refine jj_leq hG (t := 16) rfl rfl ?_ ?_
  · refine jj_ic hG rfl cc_i2 ?_
    exact jj_rit hG rfl rfl rfl k
  refine jjs hG rfl rfl ?_
  refine jj_l2 hG (v := (30721 : Int64)) rfl rfl ?_
  refine jjs hG rfl rfl ?_
  refine jj_lne hG (t := 18) rfl rfl ?_ ?_
  · refine jjs hG rfl rfl ?_
    refine jj_l2 hG (v := (65688271285 : Int64)) rfl rfl ?_
    refine jjs hG rfl rfl ?_
    refine jj_leq hG (t := 34) rfl rfl ?_ ?_
    · exact jj_wl hG [] rfl (b34)
    refine jjs hG rfl rfl ?_
    refine jj_l2 hG (v := (982905 : Int64)) rfl rfl ?_
    refine jjs hG rfl rfl ?_
    refine jj_lne hG (t := 38) rfl rfl ?_ ?_
    · refine jj_ic hG rfl cc_i1 ?_
      exact jj_rit hG rfl rfl rfl k
    exact jj_wl hG [] rfl (b34)
  refine jj_ic hG rfl cc_i2 ?_
  exact jj_rit hG rfl rfl rfl k
noncomputable def M_areOptions_b109 (t : moS) (p2 : Int64) (p4 : Int64) (p6 : Int64) (p8 : Int64) (p10 : Int64) (p12 : Int64) (a14 : Int32) (a15 : Int32) (a16 : Int64) (u0 : Int32) : Option ((Int32 × Int32) ⊕ Int32) := if u0 = 0 then ((xo ((some (0 : Int32))))) else (if (a15 &&& u0) = 0 then ((some (.inl ((a14 + ((1 : Int32) + (M_own a16))), (a15 ||| u0))))) else ((xo ((some (0 : Int32))))))
noncomputable def M_areOptions_s6 (t : moS) (p2 : Int64) (p4 : Int64) (p6 : Int64) (p8 : Int64) (p10 : Int64) (p12 : Int64) (a14 : Int32) (a15 : Int32) : Option ((Int32 × Int32) ⊕ Int32) := if a14 < (moS.S t 11) then (Option.bind (M_code t a14) (fun x1 => (if x1 = (0 : Int64) then ((M_areOptions_b109 t p2 p4 p6 p8 p10 p12 a14 a15 x1 (0 : Int32))) else (if x1 = p2 then ((M_areOptions_b109 t p2 p4 p6 p8 p10 p12 a14 a15 x1 (1 : Int32))) else (if x1 = p4 then ((M_areOptions_b109 t p2 p4 p6 p8 p10 p12 a14 a15 x1 (2 : Int32))) else (if x1 = p6 then ((M_areOptions_b109 t p2 p4 p6 p8 p10 p12 a14 a15 x1 (4 : Int32))) else (if x1 = p8 then ((M_areOptions_b109 t p2 p4 p6 p8 p10 p12 a14 a15 x1 (8 : Int32))) else (if x1 = p10 then ((M_areOptions_b109 t p2 p4 p6 p8 p10 p12 a14 a15 x1 (16 : Int32))) else (if x1 = p12 then ((M_areOptions_b109 t p2 p4 p6 p8 p10 p12 a14 a15 x1 (32 : Int32))) else ((M_areOptions_b109 t p2 p4 p6 p8 p10 p12 a14 a15 x1 (0 : Int32)))))))))))) else ((xo (if a14 = (moS.S t 11) then ((some (1 : Int32))) else ((some (0 : Int32))))))
noncomputable def M_areOptions_b6 (t : moS) (p2 : Int64) (p4 : Int64) (p6 : Int64) (p8 : Int64) (p10 : Int64) (p12 : Int64) (a14 : Int32) (a15 : Int32) : Option Int32 := lp (fun x => M_areOptions_s6 t p2 p4 p6 p8 p10 p12 x.1 x.2) (a14, a15)
noncomputable def M_areOptions (t : moS) (p1 : Int32) (p2 : Int64) (p4 : Int64) (p6 : Int64) (p8 : Int64) (p10 : Int64) (p12 : Int64) : Option Int32 := (M_areOptions_b6 t p2 p4 p6 p8 p10 p12 p1 (0 : Int32))
set_option maxRecDepth 100000 in
set_option maxHeartbeats 4000000 in
theorem k_areOptions (base : Nat) (sa : Nat → Nat) {C : Nat × Nat} {R : pmM} {m : Nat} {q : Nat → Nat} {t : moS} {kc ks : Nat} {Rt : pmR} {p1 : Int32} {p2 : Int64} {p4 : Int64} {p6 : Int64} {p8 : Int64} {p10 : Int64} {p12 : Int64} {r : Int32} (hw : mW C R base m q t kc ks) (h : M_areOptions t p1 p2 p4 p6 p8 p10 p12 = (some r)) (k : Rt (some (.int r)) (moM R m q t) kc ks) : kP_Mo_areOptions base sa [.ref m, .int p1, .long p2, .long p4, .long p6, .long p8, .long p10, .long p12] (moM R m q t) kc ks Rt := by
  refine ⟨Nat.le_of_ble_eq_true rfl, fun G hG => ?_⟩
  have b6 : ∀ (n : Nat) (a14 : Int32) (a15 : Int32), JJ C R base m G 6 [(0, .ref m), (2, .long p2), (4, .long p4), (6, .long p6), (8, .long p8), (10, .long p10), (12, .long p12), (14, .int a14), (15, .int a15)] [] q t kc ks (lpN (fun x => M_areOptions_s6 t p2 p4 p6 p8 p10 p12 x.1 x.2) n (a14, a15)) (some r) := by
    intro n
    induction n with
    | zero => intro a14 a15; exact jj_lp0
    | succ n ih6 =>
      intro a14 a15
      refine jj_lpS (fun y6 c6 => ?_)
      have b109 : ∀ (a14 : Int32) (a15 : Int32) (a16 : Int64) (u0 : Int32), JJ C R base m G 109 [(0, .ref m), (2, .long p2), (4, .long p4), (6, .long p6), (8, .long p8), (10, .long p10), (12, .long p12), (14, .int a14), (15, .int a15), (16, .long a16)] [.int u0] q t kc ks (M_areOptions_b109 t p2 p4 p6 p8 p10 p12 a14 a15 a16 u0) (some y6) := by
        intro a14 a15 a16 u0
        refine jjc hG rfl rfl (Nat.le_of_ble_eq_true rfl) ?_
        refine jjs hG rfl rfl ?_
        refine jj_zeq hG (t := 124) rfl rfl ?_ ?_
        · refine jj_exit c6 ?_
          refine jj_ic hG rfl cc_i0 ?_
          exact jj_ri hG rfl rfl rfl k
        refine jjs hG rfl rfl ?_
        refine jjs hG rfl rfl ?_
        refine jjs hG rfl rfl ?_
        refine jj_zeq hG (t := 126) rfl rfl ?_ ?_
        · refine jjs hG rfl rfl ?_
          refine jjs hG rfl rfl ?_
          refine jjs hG rfl rfl ?_
          refine jjc hG rfl rfl (Nat.le_of_ble_eq_true rfl) ?_
          refine jjs hG rfl rfl ?_
          refine jj_ic hG rfl cc_i1 ?_
          refine jjs hG rfl rfl ?_
          refine jj_ct hG 2 rfl rfl (Nat.le_of_ble_eq_true rfl) (by decide) (Nat.le_of_ble_eq_true rfl) rfl (st' := [.int (1 : Int32), .int a14]) rfl (v := .int (M_own a16)) (fun _ hw k => k_own base sa hw rfl k) ?_
          refine jjs hG rfl rfl ?_
          refine jjs hG rfl rfl ?_
          refine jjc hG rfl rfl (Nat.le_of_ble_eq_true rfl) ?_
          refine jj_go hG (t := 6) rfl rfl ?_
          exact jj_back c6 (jj_wl hG [3, 4, 5, 6, 7, 8, 9, 0, 1] rfl (ih6 _ _))
        refine jj_exit c6 ?_
        refine jj_ic hG rfl cc_i0 ?_
        exact jj_ri hG rfl rfl rfl k
      refine (show JJ C R base m G 6 [(0, .ref m), (2, .long p2), (4, .long p4), (6, .long p6), (8, .long p8), (10, .long p10), (12, .long p12), (14, .int a14), (15, .int a15)] [] q t kc ks (M_areOptions_s6 t p2 p4 p6 p8 p10 p12 a14 a15) (some y6) from ?_)
      refine jjs hG rfl rfl ?_
      refine jjs hG rfl rfl ?_
      refine jj_gi hG (k := 11) rfl rfl rfl rfl ?_
      refine jj_ige hG (t := 148) rfl rfl ?_ ?_
      · refine jj_exit c6 ?_
        refine jjs hG rfl rfl ?_
        refine jjs hG rfl rfl ?_
        refine jj_gi hG (k := 11) rfl rfl rfl rfl ?_
        refine jj_ine hG (t := 161) rfl rfl ?_ ?_
        · refine jj_ic hG rfl cc_i0 ?_
          exact jj_ri hG rfl rfl rfl k
        refine jj_ic hG rfl cc_i1 ?_
        refine jj_go hG (t := 162) rfl rfl ?_
        exact jj_ri hG rfl rfl rfl k
      refine jjs hG rfl rfl ?_
      refine jjs hG rfl rfl ?_
      refine jj_cp hG 0 rfl rfl (Nat.le_of_ble_eq_true rfl) (by decide) (Nat.le_of_ble_eq_true rfl) rfl (st' := []) rfl (w := .long) (fun _ _ hw h k => pm_rcv_of moM_m (k_code base sa hw h k)) (fun x1 => ?_)
      refine jjc hG rfl rfl (Nat.le_of_ble_eq_true rfl) ?_
      refine jjs hG rfl rfl ?_
      refine jj_lc hG (c := 0) (v := 0) rfl rfl ?_
      refine jjs hG rfl rfl ?_
      refine jj_lne hG (t := 34) rfl rfl ?_ ?_
      · refine jjs hG rfl rfl ?_
        refine jjs hG rfl rfl ?_
        refine jjs hG rfl rfl ?_
        refine jj_lne hG (t := 45) rfl rfl ?_ ?_
        · refine jjs hG rfl rfl ?_
          refine jjs hG rfl rfl ?_
          refine jjs hG rfl rfl ?_
          refine jj_lne hG (t := 57) rfl rfl ?_ ?_
          · refine jjs hG rfl rfl ?_
            refine jjs hG rfl rfl ?_
            refine jjs hG rfl rfl ?_
            refine jj_lne hG (t := 69) rfl rfl ?_ ?_
            · refine jjs hG rfl rfl ?_
              refine jjs hG rfl rfl ?_
              refine jjs hG rfl rfl ?_
              refine jj_lne hG (t := 82) rfl rfl ?_ ?_
              · refine jjs hG rfl rfl ?_
                refine jjs hG rfl rfl ?_
                refine jjs hG rfl rfl ?_
                refine jj_lne hG (t := 95) rfl rfl ?_ ?_
                · refine jjs hG rfl rfl ?_
                  refine jjs hG rfl rfl ?_
                  refine jjs hG rfl rfl ?_
                  refine jj_lne hG (t := 108) rfl rfl ?_ ?_
                  · refine jj_ic hG rfl cc_i0 ?_
                    exact jj_wl hG [1, 2, 3, 4, 5, 6, 7, 8, 9, 0] rfl (b109 _ _ _ _)
                  refine jj_bi hG rfl cc_b32 ?_
                  refine jj_go hG (t := 109) rfl rfl ?_
                  exact jj_wl hG [1, 2, 3, 4, 5, 6, 7, 8, 9, 0] rfl (b109 _ _ _ _)
                refine jj_bi hG rfl cc_b16 ?_
                refine jj_go hG (t := 109) rfl rfl ?_
                exact jj_wl hG [1, 2, 3, 4, 5, 6, 7, 8, 9, 0] rfl (b109 _ _ _ _)
              refine jj_bi hG rfl cc_b8 ?_
              refine jj_go hG (t := 109) rfl rfl ?_
              exact jj_wl hG [1, 2, 3, 4, 5, 6, 7, 8, 9, 0] rfl (b109 _ _ _ _)
            refine jj_ic hG rfl cc_i4 ?_
            refine jj_go hG (t := 109) rfl rfl ?_
            exact jj_wl hG [1, 2, 3, 4, 5, 6, 7, 8, 9, 0] rfl (b109 _ _ _ _)
          refine jj_ic hG rfl cc_i2 ?_
          refine jj_go hG (t := 109) rfl rfl ?_
          exact jj_wl hG [1, 2, 3, 4, 5, 6, 7, 8, 9, 0] rfl (b109 _ _ _ _)
        refine jj_ic hG rfl cc_i1 ?_
        refine jj_go hG (t := 109) rfl rfl ?_
        exact jj_wl hG [1, 2, 3, 4, 5, 6, 7, 8, 9, 0] rfl (b109 _ _ _ _)
      refine jj_ic hG rfl cc_i0 ?_
      refine jj_go hG (t := 109) rfl rfl ?_
      exact jj_wl hG [1, 2, 3, 4, 5, 6, 7, 8, 9, 0] rfl (b109 _ _ _ _)
  refine (show JJ C R base m G 0 [(0, .ref m), (1, .int p1), (2, .long p2), (4, .long p4), (6, .long p6), (8, .long p8), (10, .long p10), (12, .long p12)] [] q t kc ks (M_areOptions t p1 p2 p4 p6 p8 p10 p12) (some r) from ?_) hw h
  refine jjs hG rfl rfl ?_
  refine jjc hG rfl rfl (Nat.le_of_ble_eq_true rfl) ?_
  refine jj_ic hG rfl cc_i0 ?_
  refine jjc hG rfl rfl (Nat.le_of_ble_eq_true rfl) ?_
  refine jj_lp (fun n => ?_)
  exact jj_wl hG [2, 4, 5, 6, 7, 8, 9, 1, 0] rfl (b6 n _ _)
noncomputable def M_option_s3 (t : moS) (p1 : Int64) (a4 : Int32) : Option ((Int32) ⊕ Int32) := if a4 < (moS.S t 11) then (Option.bind (M_code t a4) (fun x1 => (if x1 = p1 then ((xo ((some (a4 + (1 : Int32)))))) else (Option.bind (M_code t a4) (fun x2 => ((some (.inl ((a4 + ((1 : Int32) + (M_own x2)))))))))))) else ((xo ((some (0 : Int32)))))
noncomputable def M_option_b3 (t : moS) (p1 : Int64) (a4 : Int32) : Option Int32 := lp (fun x => M_option_s3 t p1 x) (a4)
noncomputable def M_option (t : moS) (p1 : Int64) (p3 : Int32) : Option Int32 := (M_option_b3 t p1 p3)
set_option maxRecDepth 100000 in
set_option maxHeartbeats 4000000 in
theorem k_option (base : Nat) (sa : Nat → Nat) {C : Nat × Nat} {R : pmM} {m : Nat} {q : Nat → Nat} {t : moS} {kc ks : Nat} {Rt : pmR} {p1 : Int64} {p3 : Int32} {r : Int32} (hw : mW C R base m q t kc ks) (h : M_option t p1 p3 = (some r)) (k : Rt (some (.int r)) (moM R m q t) kc ks) : kP_Mo_option base sa [.ref m, .long p1, .int p3] (moM R m q t) kc ks Rt := by
  refine ⟨Nat.le_of_ble_eq_true rfl, fun G hG => ?_⟩
  have b3 : ∀ (n : Nat) (a4 : Int32), JJ C R base m G 3 [(0, .ref m), (1, .long p1), (4, .int a4)] [] q t kc ks (lpN (fun x => M_option_s3 t p1 x) n (a4)) (some r) := by
    intro n
    induction n with
    | zero => intro a4; exact jj_lp0
    | succ n ih3 =>
      intro a4
      refine jj_lpS (fun y3 c3 => ?_)
      refine (show JJ C R base m G 3 [(0, .ref m), (1, .long p1), (4, .int a4)] [] q t kc ks (M_option_s3 t p1 a4) (some y3) from ?_)
      refine jjs hG rfl rfl ?_
      refine jjs hG rfl rfl ?_
      refine jj_gi hG (k := 11) rfl rfl rfl rfl ?_
      refine jj_ige hG (t := 47) rfl rfl ?_ ?_
      · refine jj_exit c3 ?_
        refine jj_ic hG rfl cc_i0 ?_
        exact jj_ri hG rfl rfl rfl k
      refine jjs hG rfl rfl ?_
      refine jjs hG rfl rfl ?_
      refine jj_cp hG 0 rfl rfl (Nat.le_of_ble_eq_true rfl) (by decide) (Nat.le_of_ble_eq_true rfl) rfl (st' := []) rfl (w := .long) (fun _ _ hw h k => pm_rcv_of moM_m (k_code base sa hw h k)) (fun x1 => ?_)
      refine jjs hG rfl rfl ?_
      refine jjs hG rfl rfl ?_
      refine jj_lne hG (t := 28) rfl rfl ?_ ?_
      · refine jjs hG rfl rfl ?_
        refine jj_ic hG rfl cc_i1 ?_
        refine jjs hG rfl rfl ?_
        refine jjs hG rfl rfl ?_
        refine jj_cp hG 0 rfl rfl (Nat.le_of_ble_eq_true rfl) (by decide) (Nat.le_of_ble_eq_true rfl) rfl (st' := [.int (1 : Int32), .int a4]) rfl (w := .long) (fun _ _ hw h k => pm_rcv_of moM_m (k_code base sa hw h k)) (fun x2 => ?_)
        refine jj_ct hG 2 rfl rfl (Nat.le_of_ble_eq_true rfl) (by decide) (Nat.le_of_ble_eq_true rfl) rfl (st' := [.int (1 : Int32), .int a4]) rfl (v := .int (M_own x2)) (fun _ hw k => k_own base sa hw rfl k) ?_
        refine jjs hG rfl rfl ?_
        refine jjs hG rfl rfl ?_
        refine jjc hG rfl rfl (Nat.le_of_ble_eq_true rfl) ?_
        refine jj_go hG (t := 3) rfl rfl ?_
        exact jj_back c3 (jj_wl hG [1, 2, 0] rfl (ih3 _))
      refine jj_exit c3 ?_
      refine jjs hG rfl rfl ?_
      refine jj_ic hG rfl cc_i1 ?_
      refine jjs hG rfl rfl ?_
      exact jj_ri hG rfl rfl rfl k
  refine (show JJ C R base m G 0 [(0, .ref m), (1, .long p1), (3, .int p3)] [] q t kc ks (M_option t p1 p3) (some r) from ?_) hw h
  refine jjs hG rfl rfl ?_
  refine jjc hG rfl rfl (Nat.le_of_ble_eq_true rfl) ?_
  refine jj_lp (fun n => ?_)
  exact jj_wl hG [1, 2, 0] rfl (b3 n _)
noncomputable def M_lineLink_b198 (t : moS) (u1 : Int32) (u2 : Int32) : Option (Int32 × moS) := Option.bind (wrI t 21 u1 u2) (fun s1 => (Option.bind (wrZ s1 22 (moS.S s1 17) (1 : Int32)) (fun s2 => (letS (moSS s2 17 ((moS.S s2 17) + (1 : Int32))) (fun s3 => ((some ((0 : Int32), s3))))))))
noncomputable def M_lineLink_b172 (t : moS) (a4 : Int32) (u1 : Int32) (u2 : Int32) : Option (Int32 × moS) := Option.bind (wrI t 20 u1 u2) (fun s1 => (if 0 < a4 then (Option.bind (M_number s1 a4) (fun x2 => ((M_lineLink_b198 s1 (moS.S s1 17) x2)))) else ((M_lineLink_b198 s1 (moS.S s1 17) (576 : Int32)))))
noncomputable def M_lineLink_b115 (t : moS) (a1 : Int64) (a3 : Int32) (a4 : Int32) : Option (Int32 × moS) := if (moS.S t 17) = (10 : Int32) then ((some ((6 : Int32), t))) else (Option.bind (wrJ t 18 (moS.S t 17) a1) (fun s1 => (Option.bind (M_number s1 (2 : Int32)) (fun x2 => (Option.bind (wrI s1 19 (moS.S s1 17) x2) (fun s3 => (if 0 < a3 then (Option.bind (M_number s3 a3) (fun x4 => ((M_lineLink_b172 s3 a4 (moS.S s3 17) x4)))) else ((M_lineLink_b172 s3 a4 (moS.S s3 17) (0 : Int32))))))))))
noncomputable def M_lineLink_b94 (t : moS) (a1 : Int64) (a3 : Int32) (a4 : Int32) : Option (Int32 × moS) := if 0 < a4 then (Option.bind (M_isNumber t a4 (84 : Int32) (576 : Int32)) (fun x1 => (if x1 = 0 then ((some ((4 : Int32), t))) else ((M_lineLink_b115 t a1 a3 a4))))) else ((M_lineLink_b115 t a1 a3 a4))
noncomputable def M_lineLink (t : moS) : Option (Int32 × moS) := if (moS.S t 11) < (3 : Int32) then ((some ((2 : Int32), t))) else (Option.bind (M_areOptions t (3 : Int32) (1048352218 : Int64) (21621 : Int64) (0 : Int64) (0 : Int64) (0 : Int64) (0 : Int64)) (fun x1 => (if x1 = 0 then ((some ((2 : Int32), t))) else (Option.bind (M_name t (1 : Int32)) (fun x2 => (if x2 = (0 : Int64) then ((some ((3 : Int32), t))) else (Option.bind (M_linkNamed t x2) (fun x3 => (if x3 = ((-1) : Int32) then (Option.bind (M_option t (1048352218 : Int64) (3 : Int32)) (fun x4 => (Option.bind (M_option t (21621 : Int64) (3 : Int32)) (fun x5 => (Option.bind (M_isNumber t (2 : Int32) (1 : Int32) (5 : Int32)) (fun x6 => (if x6 = 0 then ((some ((4 : Int32), t))) else (if 0 < x4 then (Option.bind (M_isNumber t x4 (0 : Int32) (4 : Int32)) (fun x7 => (if x7 = 0 then ((some ((4 : Int32), t))) else ((M_lineLink_b94 t x2 x4 x5))))) else ((M_lineLink_b94 t x2 x4 x5)))))))))) else ((some ((3 : Int32), t))))))))))))
set_option maxRecDepth 100000 in
set_option maxHeartbeats 4000000 in
theorem k_lineLink (base : Nat) (sa : Nat → Nat) {C : Nat × Nat} {R : pmM} {m : Nat} {q : Nat → Nat} {t tz : moS} {kc ks : Nat} {Rt : pmR}  {r : Int32} (hw : mW C R base m q t kc ks) (h : M_lineLink t = (some (r, tz))) (k : mW C R base m q tz kc ks → Rt (some (.int r)) (moM R m q tz) kc ks) : kP_Mo_lineLink base sa [.ref m] (moM R m q t) kc ks Rt := by
  refine ⟨Nat.le_of_ble_eq_true rfl, fun G hG => ?_⟩
  have b198 : ∀ (u1 : Int32) (u2 : Int32) (t : moS), JJ C R base m G 198 [(0, .ref m)] [.int u2, .int u1, .ref (q 21)] q t kc ks (M_lineLink_b198 t u1 u2) (some (r, tz)) := by
    intro u1 u2 t
    refine jj_is hG (k := 21) rfl rfl rfl (fun s1 => ?_)
    refine jjs hG rfl rfl ?_
    refine jj_gr hG (k := 22) rfl rfl rfl rfl ?_
    refine jjs hG rfl rfl ?_
    refine jj_gi hG (k := 17) rfl rfl rfl rfl ?_
    refine jj_ic hG rfl cc_i1 ?_
    refine jj_bs hG (k := 22) rfl rfl rfl (fun s2 => ?_)
    refine jjs hG rfl rfl ?_
    refine jjc hG rfl rfl rfl ?_
    refine jj_gi hG (k := 17) rfl rfl rfl rfl ?_
    refine jj_ic hG rfl cc_i1 ?_
    refine jjs hG rfl rfl ?_
    refine jj_pi hG (k := 17) rfl rfl rfl rfl (fun s3 => ?_)
    refine jj_ic hG rfl cc_i0 ?_
    exact jj_riS hG rfl rfl rfl k
  have b172 : ∀ (a4 : Int32) (u1 : Int32) (u2 : Int32) (t : moS), JJ C R base m G 172 [(0, .ref m), (4, .int a4)] [.int u2, .int u1, .ref (q 20)] q t kc ks (M_lineLink_b172 t a4 u1 u2) (some (r, tz)) := by
    intro a4 u1 u2 t
    refine jj_is hG (k := 20) rfl rfl rfl (fun s1 => ?_)
    refine jjs hG rfl rfl ?_
    refine jj_gr hG (k := 21) rfl rfl rfl rfl ?_
    refine jjs hG rfl rfl ?_
    refine jj_gi hG (k := 17) rfl rfl rfl rfl ?_
    refine jjs hG rfl rfl ?_
    refine jj_zle hG (t := 195) rfl rfl ?_ ?_
    · refine jj_si hG rfl cc_s576 ?_
      exact jj_wl hG [0] rfl (b198 _ _ _)
    refine jjs hG rfl rfl ?_
    refine jjs hG rfl rfl ?_
    refine jj_cp hG 0 rfl rfl (Nat.le_of_ble_eq_true rfl) (by decide) (Nat.le_of_ble_eq_true rfl) rfl (st' := [.int (moS.S s1 17), .ref (q 21)]) rfl (w := .int) (fun _ _ hw h k => pm_rcv_of moM_m (k_number base sa hw h k)) (fun x2 => ?_)
    refine jj_go hG (t := 198) rfl rfl ?_
    exact jj_wl hG [0] rfl (b198 _ _ _)
  have b115 : ∀ (a1 : Int64) (a3 : Int32) (a4 : Int32) (t : moS), JJ C R base m G 115 [(0, .ref m), (1, .long a1), (3, .int a3), (4, .int a4)] [] q t kc ks (M_lineLink_b115 t a1 a3 a4) (some (r, tz)) := by
    intro a1 a3 a4 t
    refine jjs hG rfl rfl ?_
    refine jj_gi hG (k := 17) rfl rfl rfl rfl ?_
    refine jj_bi hG rfl cc_b10 ?_
    refine jj_ine hG (t := 127) rfl rfl ?_ ?_
    · refine jjs hG rfl rfl ?_
      refine jj_gr hG (k := 18) rfl rfl rfl rfl ?_
      refine jjs hG rfl rfl ?_
      refine jj_gi hG (k := 17) rfl rfl rfl rfl ?_
      refine jjs hG rfl rfl ?_
      refine jj_ls hG (k := 18) rfl rfl rfl (fun s1 => ?_)
      refine jjs hG rfl rfl ?_
      refine jj_gr hG (k := 19) rfl rfl rfl rfl ?_
      refine jjs hG rfl rfl ?_
      refine jj_gi hG (k := 17) rfl rfl rfl rfl ?_
      refine jjs hG rfl rfl ?_
      refine jj_ic hG rfl cc_i2 ?_
      refine jj_cp hG 0 rfl rfl (Nat.le_of_ble_eq_true rfl) (by decide) (Nat.le_of_ble_eq_true rfl) rfl (st' := [.int (moS.S s1 17), .ref (q 19)]) rfl (w := .int) (fun _ _ hw h k => pm_rcv_of moM_m (k_number base sa hw h k)) (fun x2 => ?_)
      refine jj_is hG (k := 19) rfl rfl rfl (fun s3 => ?_)
      refine jjs hG rfl rfl ?_
      refine jj_gr hG (k := 20) rfl rfl rfl rfl ?_
      refine jjs hG rfl rfl ?_
      refine jj_gi hG (k := 17) rfl rfl rfl rfl ?_
      refine jjs hG rfl rfl ?_
      refine jj_zle hG (t := 171) rfl rfl ?_ ?_
      · refine jj_ic hG rfl cc_i0 ?_
        exact jj_wl hG [0, 3] rfl (b172 _ _ _ _)
      refine jjs hG rfl rfl ?_
      refine jjs hG rfl rfl ?_
      refine jj_cp hG 0 rfl rfl (Nat.le_of_ble_eq_true rfl) (by decide) (Nat.le_of_ble_eq_true rfl) rfl (st' := [.int (moS.S s3 17), .ref (q 20)]) rfl (w := .int) (fun _ _ hw h k => pm_rcv_of moM_m (k_number base sa hw h k)) (fun x4 => ?_)
      refine jj_go hG (t := 172) rfl rfl ?_
      exact jj_wl hG [0, 3] rfl (b172 _ _ _ _)
    refine jj_bi hG rfl cc_b6 ?_
    exact jj_riS hG rfl rfl rfl k
  have b94 : ∀ (a1 : Int64) (a3 : Int32) (a4 : Int32) (t : moS), JJ C R base m G 94 [(0, .ref m), (1, .long a1), (3, .int a3), (4, .int a4)] [] q t kc ks (M_lineLink_b94 t a1 a3 a4) (some (r, tz)) := by
    intro a1 a3 a4 t
    refine jjs hG rfl rfl ?_
    refine jj_zle hG (t := 115) rfl rfl ?_ ?_
    · exact jj_wl hG [0, 1, 2, 3] rfl (b115 _ _ _ _)
    refine jjs hG rfl rfl ?_
    refine jjs hG rfl rfl ?_
    refine jj_bi hG rfl cc_b84 ?_
    refine jj_si hG rfl cc_s576 ?_
    refine jj_cp hG 0 rfl rfl (Nat.le_of_ble_eq_true rfl) (by decide) (Nat.le_of_ble_eq_true rfl) rfl (st' := []) rfl (w := .int) (fun _ _ hw h k => pm_rcv_of moM_m (k_isNumber base sa hw h k)) (fun x1 => ?_)
    refine jj_zne hG (t := 115) rfl rfl ?_ ?_
    · exact jj_wl hG [0, 1, 2, 3] rfl (b115 _ _ _ _)
    refine jj_ic hG rfl cc_i4 ?_
    exact jj_riS hG rfl rfl rfl k
  refine (show JJ C R base m G 0 [(0, .ref m)] [] q t kc ks (M_lineLink t) (some (r, tz)) from ?_) hw h
  refine jjs hG rfl rfl ?_
  refine jj_gi hG (k := 11) rfl rfl rfl rfl ?_
  refine jj_ic hG rfl cc_i3 ?_
  refine jj_ilt hG (t := 26) rfl rfl ?_ ?_
  · refine jj_ic hG rfl cc_i2 ?_
    exact jj_riS hG rfl rfl rfl k
  refine jjs hG rfl rfl ?_
  refine jj_ic hG rfl cc_i3 ?_
  refine jj_l2 hG (v := (1048352218 : Int64)) rfl rfl ?_
  refine jj_l2 hG (v := (21621 : Int64)) rfl rfl ?_
  refine jj_lc hG (c := 0) (v := 0) rfl rfl ?_
  refine jj_lc hG (c := 0) (v := 0) rfl rfl ?_
  refine jj_lc hG (c := 0) (v := 0) rfl rfl ?_
  refine jj_lc hG (c := 0) (v := 0) rfl rfl ?_
  refine jj_cp hG 0 rfl rfl (Nat.le_of_ble_eq_true rfl) (by decide) (Nat.le_of_ble_eq_true rfl) rfl (st' := []) rfl (w := .int) (fun _ _ hw h k => pm_rcv_of moM_m (k_areOptions base sa hw h k)) (fun x1 => ?_)
  refine jj_zne hG (t := 28) rfl rfl ?_ ?_
  · refine jjs hG rfl rfl ?_
    refine jj_ic hG rfl cc_i1 ?_
    refine jj_cp hG 0 rfl rfl (Nat.le_of_ble_eq_true rfl) (by decide) (Nat.le_of_ble_eq_true rfl) rfl (st' := []) rfl (w := .long) (fun _ _ hw h k => pm_rcv_of moM_m (k_name base sa hw h k)) (fun x2 => ?_)
    refine jjc hG rfl rfl (Nat.le_of_ble_eq_true rfl) ?_
    refine jjs hG rfl rfl ?_
    refine jj_lc hG (c := 0) (v := 0) rfl rfl ?_
    refine jjs hG rfl rfl ?_
    refine jj_leq hG (t := 49) rfl rfl ?_ ?_
    · refine jj_ic hG rfl cc_i3 ?_
      exact jj_riS hG rfl rfl rfl k
    refine jjs hG rfl rfl ?_
    refine jjs hG rfl rfl ?_
    refine jj_cp hG 0 rfl rfl (Nat.le_of_ble_eq_true rfl) (by decide) (Nat.le_of_ble_eq_true rfl) rfl (st' := []) rfl (w := .int) (fun _ _ hw h k => pm_rcv_of moM_m (k_linkNamed base sa hw h k)) (fun x3 => ?_)
    refine jj_ic hG rfl cc_im1 ?_
    refine jj_ieq hG (t := 51) rfl rfl ?_ ?_
    · refine jjs hG rfl rfl ?_
      refine jj_l2 hG (v := (1048352218 : Int64)) rfl rfl ?_
      refine jj_ic hG rfl cc_i3 ?_
      refine jj_cp hG 0 rfl rfl (Nat.le_of_ble_eq_true rfl) (by decide) (Nat.le_of_ble_eq_true rfl) rfl (st' := []) rfl (w := .int) (fun _ _ hw h k => pm_rcv_of moM_m (k_option base sa hw h k)) (fun x4 => ?_)
      refine jjc hG rfl rfl (Nat.le_of_ble_eq_true rfl) ?_
      refine jjs hG rfl rfl ?_
      refine jj_l2 hG (v := (21621 : Int64)) rfl rfl ?_
      refine jj_ic hG rfl cc_i3 ?_
      refine jj_cp hG 0 rfl rfl (Nat.le_of_ble_eq_true rfl) (by decide) (Nat.le_of_ble_eq_true rfl) rfl (st' := []) rfl (w := .int) (fun _ _ hw h k => pm_rcv_of moM_m (k_option base sa hw h k)) (fun x5 => ?_)
      refine jjc hG rfl rfl (Nat.le_of_ble_eq_true rfl) ?_
      refine jjs hG rfl rfl ?_
      refine jj_ic hG rfl cc_i2 ?_
      refine jj_ic hG rfl cc_i1 ?_
      refine jj_ic hG rfl cc_i5 ?_
      refine jj_cp hG 0 rfl rfl (Nat.le_of_ble_eq_true rfl) (by decide) (Nat.le_of_ble_eq_true rfl) rfl (st' := []) rfl (w := .int) (fun _ _ hw h k => pm_rcv_of moM_m (k_isNumber base sa hw h k)) (fun x6 => ?_)
      refine jj_zeq hG (t := 113) rfl rfl ?_ ?_
      · refine jj_ic hG rfl cc_i4 ?_
        exact jj_riS hG rfl rfl rfl k
      refine jjs hG rfl rfl ?_
      refine jj_zle hG (t := 94) rfl rfl ?_ ?_
      · exact jj_wl hG [3, 2, 1, 0] rfl (b94 _ _ _ _)
      refine jjs hG rfl rfl ?_
      refine jjs hG rfl rfl ?_
      refine jj_ic hG rfl cc_i0 ?_
      refine jj_ic hG rfl cc_i4 ?_
      refine jj_cp hG 0 rfl rfl (Nat.le_of_ble_eq_true rfl) (by decide) (Nat.le_of_ble_eq_true rfl) rfl (st' := []) rfl (w := .int) (fun _ _ hw h k => pm_rcv_of moM_m (k_isNumber base sa hw h k)) (fun x7 => ?_)
      refine jj_zeq hG (t := 113) rfl rfl ?_ ?_
      · refine jj_ic hG rfl cc_i4 ?_
        exact jj_riS hG rfl rfl rfl k
      exact jj_wl hG [3, 2, 1, 0] rfl (b94 _ _ _ _)
    refine jj_ic hG rfl cc_i3 ?_
    exact jj_riS hG rfl rfl rfl k
  refine jj_ic hG rfl cc_i2 ?_
  exact jj_riS hG rfl rfl rfl k
noncomputable def M_lineRouter_s114 (t : moS) (a3 : Int32) (a4 : Int32) : Option ((Int32 × moS) ⊕ (Int32 × moS)) := if a4 < (((2 : Int32) * a3) + (2 : Int32)) then (Option.bind (wrI t 68 a4 ((-1) : Int32)) (fun s2 => (Option.bind (wrI s2 69 a4 ((-1) : Int32)) (fun s3 => ((some (.inl ((a4 + (1 : Int32)), s3)))))))) else ((xo (letS (moSS t 37 ((moS.S t 37) + (1 : Int32))) (fun s1 => ((some ((0 : Int32), s1)))))))
noncomputable def M_lineRouter_b114 (t : moS) (a3 : Int32) (a4 : Int32) : Option (Int32 × moS) := lp (fun x => M_lineRouter_s114 x.2 a3 x.1) (a4, t)
noncomputable def M_lineRouter (t : moS) : Option (Int32 × moS) := if (moS.S t 11) = (2 : Int32) then (Option.bind (M_name t (1 : Int32)) (fun x1 => (if x1 = (0 : Int64) then ((some ((3 : Int32), t))) else (Option.bind (M_routerNamed t x1) (fun x2 => (if x2 = ((-1) : Int32) then (if (moS.S t 37) = (6 : Int32) then ((some ((6 : Int32), t))) else (Option.bind (wrJ t 38 (moS.S t 37) x1) (fun s3 => (Option.bind (wrZ s3 39 (moS.S t 37) (1 : Int32)) (fun s4 => (Option.bind (wrI s4 40 (moS.S t 37) (30 : Int32)) (fun s5 => (Option.bind (wrI s5 41 (moS.S t 37) (180 : Int32)) (fun s6 => (Option.bind (wrI s6 42 (moS.S t 37) (120 : Int32)) (fun s7 => (Option.bind (wrI s7 43 (moS.S t 37) ((moS.S s7 1) + (30 : Int32))) (fun s8 => (Option.bind (wrI s8 44 (moS.S t 37) ((-1) : Int32)) (fun s9 => ((M_lineRouter_b114 s9 (moS.S t 37) ((2 : Int32) * (moS.S t 37))))))))))))))))))) else ((some ((3 : Int32), t))))))))) else ((some ((2 : Int32), t)))
set_option maxRecDepth 100000 in
set_option maxHeartbeats 4000000 in
theorem k_lineRouter (base : Nat) (sa : Nat → Nat) {C : Nat × Nat} {R : pmM} {m : Nat} {q : Nat → Nat} {t tz : moS} {kc ks : Nat} {Rt : pmR}  {r : Int32} (hw : mW C R base m q t kc ks) (h : M_lineRouter t = (some (r, tz))) (k : mW C R base m q tz kc ks → Rt (some (.int r)) (moM R m q tz) kc ks) : kP_Mo_lineRouter base sa [.ref m] (moM R m q t) kc ks Rt := by
  refine ⟨Nat.le_of_ble_eq_true rfl, fun G hG => ?_⟩
  have b114 : ∀ (a3 : Int32) (n : Nat) (a4 : Int32) (t : moS), JJ C R base m G 114 [(0, .ref m), (3, .int a3), (4, .int a4)] [] q t kc ks (lpN (fun x => M_lineRouter_s114 x.2 a3 x.1) n (a4, t)) (some (r, tz)) := by
    intro a3 n
    induction n with
    | zero => intro a4 t; exact jj_lp0
    | succ n ih114 =>
      intro a4 t
      refine jj_lpS (fun y114 c114 => ?_)
      refine (show JJ C R base m G 114 [(0, .ref m), (3, .int a3), (4, .int a4)] [] q t kc ks (M_lineRouter_s114 t a3 a4) (some y114) from ?_)
      refine jjs hG rfl rfl ?_
      refine jj_ic hG rfl cc_i2 ?_
      refine jjs hG rfl rfl ?_
      refine jjs hG rfl rfl ?_
      refine jj_ic hG rfl cc_i2 ?_
      refine jjs hG rfl rfl ?_
      refine jj_ige hG (t := 146) rfl rfl ?_ ?_
      · refine jj_exit c114 ?_
        refine jjs hG rfl rfl ?_
        refine jjc hG rfl rfl rfl ?_
        refine jj_gi hG (k := 37) rfl rfl rfl rfl ?_
        refine jj_ic hG rfl cc_i1 ?_
        refine jjs hG rfl rfl ?_
        refine jj_pi hG (k := 37) rfl rfl rfl rfl (fun s1 => ?_)
        refine jj_ic hG rfl cc_i0 ?_
        exact jj_riS hG rfl rfl rfl k
      refine jjs hG rfl rfl ?_
      refine jj_gr hG (k := 68) rfl rfl rfl rfl ?_
      refine jjs hG rfl rfl ?_
      refine jj_ic hG rfl cc_im1 ?_
      refine jj_is hG (k := 68) rfl rfl rfl (fun s2 => ?_)
      refine jjs hG rfl rfl ?_
      refine jj_gr hG (k := 69) rfl rfl rfl rfl ?_
      refine jjs hG rfl rfl ?_
      refine jj_ic hG rfl cc_im1 ?_
      refine jj_is hG (k := 69) rfl rfl rfl (fun s3 => ?_)
      refine jj_inc hG rfl (Nat.le_of_ble_eq_true rfl) rfl cc_i1 ?_
      refine jj_go hG (t := 114) rfl rfl ?_
      exact jj_back c114 (jj_wl hG [1, 2, 0] rfl (ih114 _ _))
  refine (show JJ C R base m G 0 [(0, .ref m)] [] q t kc ks (M_lineRouter t) (some (r, tz)) from ?_) hw h
  refine jjs hG rfl rfl ?_
  refine jj_gi hG (k := 11) rfl rfl rfl rfl ?_
  refine jj_ic hG rfl cc_i2 ?_
  refine jj_ieq hG (t := 10) rfl rfl ?_ ?_
  · refine jjs hG rfl rfl ?_
    refine jj_ic hG rfl cc_i1 ?_
    refine jj_cp hG 0 rfl rfl (Nat.le_of_ble_eq_true rfl) (by decide) (Nat.le_of_ble_eq_true rfl) rfl (st' := []) rfl (w := .long) (fun _ _ hw h k => pm_rcv_of moM_m (k_name base sa hw h k)) (fun x1 => ?_)
    refine jjc hG rfl rfl (Nat.le_of_ble_eq_true rfl) ?_
    refine jjs hG rfl rfl ?_
    refine jj_lc hG (c := 0) (v := 0) rfl rfl ?_
    refine jjs hG rfl rfl ?_
    refine jj_leq hG (t := 31) rfl rfl ?_ ?_
    · refine jj_ic hG rfl cc_i3 ?_
      exact jj_riS hG rfl rfl rfl k
    refine jjs hG rfl rfl ?_
    refine jjs hG rfl rfl ?_
    refine jj_cp hG 0 rfl rfl (Nat.le_of_ble_eq_true rfl) (by decide) (Nat.le_of_ble_eq_true rfl) rfl (st' := []) rfl (w := .int) (fun _ _ hw h k => pm_rcv_of moM_m (k_routerNamed base sa hw h k)) (fun x2 => ?_)
    refine jj_ic hG rfl cc_im1 ?_
    refine jj_ieq hG (t := 33) rfl rfl ?_ ?_
    · refine jjs hG rfl rfl ?_
      refine jj_gi hG (k := 37) rfl rfl rfl rfl ?_
      refine jj_bi hG rfl cc_b6 ?_
      refine jj_ine hG (t := 45) rfl rfl ?_ ?_
      · refine jjs hG rfl rfl ?_
        refine jj_gi hG (k := 37) rfl rfl rfl rfl ?_
        refine jjc hG rfl rfl (Nat.le_of_ble_eq_true rfl) ?_
        refine jjs hG rfl rfl ?_
        refine jj_gr hG (k := 38) rfl rfl rfl rfl ?_
        refine jjs hG rfl rfl ?_
        refine jjs hG rfl rfl ?_
        refine jj_ls hG (k := 38) rfl rfl rfl (fun s3 => ?_)
        refine jjs hG rfl rfl ?_
        refine jj_gr hG (k := 39) rfl rfl rfl rfl ?_
        refine jjs hG rfl rfl ?_
        refine jj_ic hG rfl cc_i1 ?_
        refine jj_bs hG (k := 39) rfl rfl rfl (fun s4 => ?_)
        refine jjs hG rfl rfl ?_
        refine jj_gr hG (k := 40) rfl rfl rfl rfl ?_
        refine jjs hG rfl rfl ?_
        refine jj_bi hG rfl cc_b30 ?_
        refine jj_is hG (k := 40) rfl rfl rfl (fun s5 => ?_)
        refine jjs hG rfl rfl ?_
        refine jj_gr hG (k := 41) rfl rfl rfl rfl ?_
        refine jjs hG rfl rfl ?_
        refine jj_si hG rfl cc_s180 ?_
        refine jj_is hG (k := 41) rfl rfl rfl (fun s6 => ?_)
        refine jjs hG rfl rfl ?_
        refine jj_gr hG (k := 42) rfl rfl rfl rfl ?_
        refine jjs hG rfl rfl ?_
        refine jj_bi hG rfl cc_b120 ?_
        refine jj_is hG (k := 42) rfl rfl rfl (fun s7 => ?_)
        refine jjs hG rfl rfl ?_
        refine jj_gr hG (k := 43) rfl rfl rfl rfl ?_
        refine jjs hG rfl rfl ?_
        refine jjs hG rfl rfl ?_
        refine jj_gi hG (k := 1) rfl rfl rfl rfl ?_
        refine jj_bi hG rfl cc_b30 ?_
        refine jjs hG rfl rfl ?_
        refine jj_is hG (k := 43) rfl rfl rfl (fun s8 => ?_)
        refine jjs hG rfl rfl ?_
        refine jj_gr hG (k := 44) rfl rfl rfl rfl ?_
        refine jjs hG rfl rfl ?_
        refine jj_ic hG rfl cc_im1 ?_
        refine jj_is hG (k := 44) rfl rfl rfl (fun s9 => ?_)
        refine jj_ic hG rfl cc_i2 ?_
        refine jjs hG rfl rfl ?_
        refine jjs hG rfl rfl ?_
        refine jjc hG rfl rfl (Nat.le_of_ble_eq_true rfl) ?_
        refine jj_lp (fun n => ?_)
        exact jj_wl hG [3, 1, 0] rfl (b114 _ n _ _)
      refine jj_bi hG rfl cc_b6 ?_
      exact jj_riS hG rfl rfl rfl k
    refine jj_ic hG rfl cc_i3 ?_
    exact jj_riS hG rfl rfl rfl k
  refine jj_ic hG rfl cc_i2 ?_
  exact jj_riS hG rfl rfl rfl k
noncomputable def M_isKeyOption_b26 (t : moS) : Option Int32 := (some (1 : Int32))
noncomputable def M_isKeyOption_b30 (t : moS) : Option Int32 := (some (0 : Int32))
noncomputable def M_isKeyOption (t : moS) (p1 : Int32) : Option Int32 := if p1 = 0 then ((M_isKeyOption_b26 t)) else (Option.bind (M_isNumber t p1 (0 : Int32) (255 : Int32)) (fun x1 => (if x1 = 0 then ((M_isKeyOption_b30 t)) else (Option.bind (M_isSecret t (p1 + (1 : Int32))) (fun x2 => (if x2 = 0 then ((M_isKeyOption_b30 t)) else ((M_isKeyOption_b26 t))))))))
set_option maxRecDepth 100000 in
set_option maxHeartbeats 4000000 in
theorem k_isKeyOption (base : Nat) (sa : Nat → Nat) {C : Nat × Nat} {R : pmM} {m : Nat} {q : Nat → Nat} {t : moS} {kc ks : Nat} {Rt : pmR} {p1 : Int32} {r : Int32} (hw : mW C R base m q t kc ks) (h : M_isKeyOption t p1 = (some r)) (k : Rt (some (.int r)) (moM R m q t) kc ks) : kP_Mo_isKeyOption base sa [.ref m, .int p1] (moM R m q t) kc ks Rt := by
  refine ⟨Nat.le_of_ble_eq_true rfl, fun G hG => ?_⟩
  have b26 : JJ C R base m G 26 [] [] q t kc ks (M_isKeyOption_b26 t) (some r) := by
    refine jj_ic hG rfl cc_i1 ?_
    refine jj_go hG (t := 31) rfl rfl ?_
    exact jj_ri hG rfl rfl rfl k
  have b30 : JJ C R base m G 30 [] [] q t kc ks (M_isKeyOption_b30 t) (some r) := by
    refine jj_ic hG rfl cc_i0 ?_
    exact jj_ri hG rfl rfl rfl k
  refine (show JJ C R base m G 0 [(0, .ref m), (1, .int p1)] [] q t kc ks (M_isKeyOption t p1) (some r) from ?_) hw h
  refine jjs hG rfl rfl ?_
  refine jj_zeq hG (t := 26) rfl rfl ?_ ?_
  · exact jj_wl hG [] rfl (b26)
  refine jjs hG rfl rfl ?_
  refine jjs hG rfl rfl ?_
  refine jj_ic hG rfl cc_i0 ?_
  refine jj_si hG rfl cc_s255 ?_
  refine jj_cp hG 0 rfl rfl (Nat.le_of_ble_eq_true rfl) (by decide) (Nat.le_of_ble_eq_true rfl) rfl (st' := []) rfl (w := .int) (fun _ _ hw h k => pm_rcv_of moM_m (k_isNumber base sa hw h k)) (fun x1 => ?_)
  refine jj_zeq hG (t := 30) rfl rfl ?_ ?_
  · exact jj_wl hG [] rfl (b30)
  refine jjs hG rfl rfl ?_
  refine jjs hG rfl rfl ?_
  refine jj_ic hG rfl cc_i1 ?_
  refine jjs hG rfl rfl ?_
  refine jj_cp hG 0 rfl rfl (Nat.le_of_ble_eq_true rfl) (by decide) (Nat.le_of_ble_eq_true rfl) rfl (st' := []) rfl (w := .int) (fun _ _ hw h k => pm_rcv_of moM_m (k_isSecret base sa hw h k)) (fun x2 => ?_)
  refine jj_zeq hG (t := 30) rfl rfl ?_ ?_
  · exact jj_wl hG [] rfl (b30)
  exact jj_wl hG [] rfl (b26)
