/-! The model as functions, by program: lineDistribute .. lineNeighbor -/
noncomputable def M_lineDistribute_b122 (t : moS) (a2 : Int32) (a3 : Int32) (a4 : Int32) (u1 : Int32) (u2 : Int32) : Option (Int32 × moS) := Option.bind (wrI t 60 u1 u2) (fun s1 => (Option.bind (wrI s1 61 a4 a2) (fun s2 => (Option.bind (wrI s2 62 a4 a3) (fun s3 => ((some ((0 : Int32), s3))))))))
noncomputable def M_lineDistribute (t : moS) : Option (Int32 × moS) := if (moS.S t 11) = (5 : Int32) then (Option.bind (M_isWay t (2 : Int32)) (fun x1 => (if x1 = 0 then ((some ((2 : Int32), t))) else (Option.bind (M_name t (1 : Int32)) (fun x2 => (Option.bind (M_routerNamed t x2) (fun x3 => (Option.bind (M_linkOrAll t (3 : Int32)) (fun x4 => (Option.bind (M_name t (4 : Int32)) (fun x5 => (Option.bind (M_listNamed t x5) (fun x6 => (if x3 = ((-1) : Int32) then ((some ((3 : Int32), t))) else (if x4 = ((-2) : Int32) then ((some ((3 : Int32), t))) else (if x6 = ((-1) : Int32) then ((some ((3 : Int32), t))) else (Option.bind (rdI t 59 x3) (fun x7 => (if x7 = (8 : Int32) then ((some ((6 : Int32), t))) else (Option.bind (rdI t 59 x3) (fun x8 => (Option.bind (rdI t 59 x3) (fun x9 => (Option.bind (wrI t 59 x3 (x9 + (1 : Int32))) (fun s10 => (Option.bind (M_code s10 (2 : Int32)) (fun x11 => (if x11 = (374 : Int64) then ((M_lineDistribute_b122 s10 x4 x6 (((8 : Int32) * x3) + x8) (((8 : Int32) * x3) + x8) (0 : Int32))) else ((M_lineDistribute_b122 s10 x4 x6 (((8 : Int32) * x3) + x8) (((8 : Int32) * x3) + x8) (1 : Int32))))))))))))))))))))))))))))))) else ((some ((2 : Int32), t)))
set_option maxRecDepth 100000 in
set_option maxHeartbeats 4000000 in
theorem k_lineDistribute (base : Nat) (sa : Nat → Nat) {C : Nat × Nat} {R : pmM} {m : Nat} {q : Nat → Nat} {t tz : moS} {kc ks : Nat} {Rt : pmR}  {r : Int32} (hw : mW C R base m q t kc ks) (h : M_lineDistribute t = (some (r, tz))) (k : mW C R base m q tz kc ks → Rt (some (.int r)) (moM R m q tz) kc ks) : kP_Mo_lineDistribute base sa [.ref m] (moM R m q t) kc ks Rt := by
  refine ⟨Nat.le_of_ble_eq_true rfl, fun G hG => ?_⟩
  have b122 : ∀ (a2 : Int32) (a3 : Int32) (a4 : Int32) (u1 : Int32) (u2 : Int32) (t : moS), JJ C R base m G 122 [(0, .ref m), (2, .int a2), (3, .int a3), (4, .int a4)] [.int u2, .int u1, .ref (q 60)] q t kc ks (M_lineDistribute_b122 t a2 a3 a4 u1 u2) (some (r, tz)) := by
    intro a2 a3 a4 u1 u2 t
    refine jj_is hG (k := 60) rfl rfl rfl (fun s1 => ?_)
    refine jjs hG rfl rfl ?_
    refine jj_gr hG (k := 61) rfl rfl rfl rfl ?_
    refine jjs hG rfl rfl ?_
    refine jjs hG rfl rfl ?_
    refine jj_is hG (k := 61) rfl rfl rfl (fun s2 => ?_)
    refine jjs hG rfl rfl ?_
    refine jj_gr hG (k := 62) rfl rfl rfl rfl ?_
    refine jjs hG rfl rfl ?_
    refine jjs hG rfl rfl ?_
    refine jj_is hG (k := 62) rfl rfl rfl (fun s3 => ?_)
    refine jj_ic hG rfl cc_i0 ?_
    exact jj_riS hG rfl rfl rfl k
  refine (show JJ C R base m G 0 [(0, .ref m)] [] q t kc ks (M_lineDistribute t) (some (r, tz)) from ?_) hw h
  refine jjs hG rfl rfl ?_
  refine jj_gi hG (k := 11) rfl rfl rfl rfl ?_
  refine jj_ic hG rfl cc_i5 ?_
  refine jj_ine hG (t := 16) rfl rfl ?_ ?_
  · refine jj_ic hG rfl cc_i2 ?_
    exact jj_riS hG rfl rfl rfl k
  refine jjs hG rfl rfl ?_
  refine jj_ic hG rfl cc_i2 ?_
  refine jj_cp hG 0 rfl rfl (Nat.le_of_ble_eq_true rfl) (by decide) (Nat.le_of_ble_eq_true rfl) rfl (st' := []) rfl (w := .int) (fun _ _ hw h k => pm_rcv_of moM_m (k_isWay base sa hw h k)) (fun x1 => ?_)
  refine jj_zne hG (t := 18) rfl rfl ?_ ?_
  · refine jjs hG rfl rfl ?_
    refine jjs hG rfl rfl ?_
    refine jj_ic hG rfl cc_i1 ?_
    refine jj_cp hG 0 rfl rfl (Nat.le_of_ble_eq_true rfl) (by decide) (Nat.le_of_ble_eq_true rfl) rfl (st' := [.ref m]) rfl (w := .long) (fun _ _ hw h k => pm_rcv_of moM_m (k_name base sa hw h k)) (fun x2 => ?_)
    refine jj_cp hG 0 rfl rfl (Nat.le_of_ble_eq_true rfl) (by decide) (Nat.le_of_ble_eq_true rfl) rfl (st' := []) rfl (w := .int) (fun _ _ hw h k => pm_rcv_of moM_m (k_routerNamed base sa hw h k)) (fun x3 => ?_)
    refine jjc hG rfl rfl (Nat.le_of_ble_eq_true rfl) ?_
    refine jjs hG rfl rfl ?_
    refine jj_ic hG rfl cc_i3 ?_
    refine jj_cp hG 0 rfl rfl (Nat.le_of_ble_eq_true rfl) (by decide) (Nat.le_of_ble_eq_true rfl) rfl (st' := []) rfl (w := .int) (fun _ _ hw h k => pm_rcv_of moM_m (k_linkOrAll base sa hw h k)) (fun x4 => ?_)
    refine jjc hG rfl rfl (Nat.le_of_ble_eq_true rfl) ?_
    refine jjs hG rfl rfl ?_
    refine jjs hG rfl rfl ?_
    refine jj_ic hG rfl cc_i4 ?_
    refine jj_cp hG 0 rfl rfl (Nat.le_of_ble_eq_true rfl) (by decide) (Nat.le_of_ble_eq_true rfl) rfl (st' := [.ref m]) rfl (w := .long) (fun _ _ hw h k => pm_rcv_of moM_m (k_name base sa hw h k)) (fun x5 => ?_)
    refine jj_cp hG 0 rfl rfl (Nat.le_of_ble_eq_true rfl) (by decide) (Nat.le_of_ble_eq_true rfl) rfl (st' := []) rfl (w := .int) (fun _ _ hw h k => pm_rcv_of moM_m (k_listNamed base sa hw h k)) (fun x6 => ?_)
    refine jjc hG rfl rfl (Nat.le_of_ble_eq_true rfl) ?_
    refine jjs hG rfl rfl ?_
    refine jj_ic hG rfl cc_im1 ?_
    refine jj_ieq hG (t := 60) rfl rfl ?_ ?_
    · refine jj_ic hG rfl cc_i3 ?_
      exact jj_riS hG rfl rfl rfl k
    refine jjs hG rfl rfl ?_
    refine jj_bi hG rfl cc_bm2 ?_
    refine jj_ieq hG (t := 60) rfl rfl ?_ ?_
    · refine jj_ic hG rfl cc_i3 ?_
      exact jj_riS hG rfl rfl rfl k
    refine jjs hG rfl rfl ?_
    refine jj_ic hG rfl cc_im1 ?_
    refine jj_ine hG (t := 62) rfl rfl ?_ ?_
    · refine jjs hG rfl rfl ?_
      refine jj_gr hG (k := 59) rfl rfl rfl rfl ?_
      refine jjs hG rfl rfl ?_
      refine jj_ia hG (k := 59) rfl rfl rfl (fun x7 => ?_)
      refine jj_bi hG rfl cc_b8 ?_
      refine jj_ine hG (t := 76) rfl rfl ?_ ?_
      · refine jj_bi hG rfl cc_b8 ?_
        refine jjs hG rfl rfl ?_
        refine jjs hG rfl rfl ?_
        refine jjs hG rfl rfl ?_
        refine jj_gr hG (k := 59) rfl rfl rfl rfl ?_
        refine jjs hG rfl rfl ?_
        refine jj_ia hG (k := 59) rfl rfl rfl (fun x8 => ?_)
        refine jjs hG rfl rfl ?_
        refine jjc hG rfl rfl (Nat.le_of_ble_eq_true rfl) ?_
        refine jjs hG rfl rfl ?_
        refine jj_gr hG (k := 59) rfl rfl rfl rfl ?_
        refine jjs hG rfl rfl ?_
        refine jjc2 hG rfl rfl rfl rfl ?_
        refine jj_ia hG (k := 59) rfl rfl rfl (fun x9 => ?_)
        refine jj_ic hG rfl cc_i1 ?_
        refine jjs hG rfl rfl ?_
        refine jj_is hG (k := 59) rfl rfl rfl (fun s10 => ?_)
        refine jjs hG rfl rfl ?_
        refine jj_gr hG (k := 60) rfl rfl rfl rfl ?_
        refine jjs hG rfl rfl ?_
        refine jjs hG rfl rfl ?_
        refine jj_ic hG rfl cc_i2 ?_
        refine jj_cp hG 0 rfl rfl (Nat.le_of_ble_eq_true rfl) (by decide) (Nat.le_of_ble_eq_true rfl) rfl (st' := [.int (((8 : Int32) * x3) + x8), .ref (q 60)]) rfl (w := .long) (fun _ _ hw h k => pm_rcv_of moM_m (k_code base sa hw h k)) (fun x11 => ?_)
        refine jj_l2 hG (v := (374 : Int64)) rfl rfl ?_
        refine jjs hG rfl rfl ?_
        refine jj_lne hG (t := 121) rfl rfl ?_ ?_
        · refine jj_ic hG rfl cc_i1 ?_
          exact jj_wl hG [4, 2, 1, 0] rfl (b122 _ _ _ _ _ _)
        refine jj_ic hG rfl cc_i0 ?_
        refine jj_go hG (t := 122) rfl rfl ?_
        exact jj_wl hG [4, 2, 1, 0] rfl (b122 _ _ _ _ _ _)
      refine jj_bi hG rfl cc_b6 ?_
      exact jj_riS hG rfl rfl rfl k
    refine jj_ic hG rfl cc_i3 ?_
    exact jj_riS hG rfl rfl rfl k
  refine jj_ic hG rfl cc_i2 ?_
  exact jj_riS hG rfl rfl rfl k
noncomputable def M_lineOffset_b136 (t : moS) (a2 : Int32) (a3 : Int32) (a4 : Int32) (u1 : Int32) (u2 : Int32) : Option (Int32 × moS) := Option.bind (wrI t 64 u1 u2) (fun s1 => (Option.bind (wrI s1 65 a4 a2) (fun s2 => (Option.bind (wrI s2 66 a4 a3) (fun s3 => (Option.bind (M_number s3 (5 : Int32)) (fun x4 => (Option.bind (wrI s3 67 a4 x4) (fun s5 => ((some ((0 : Int32), s5))))))))))))
noncomputable def M_lineOffset (t : moS) : Option (Int32 × moS) := if (moS.S t 11) = (6 : Int32) then (Option.bind (M_isWay t (2 : Int32)) (fun x1 => (if x1 = 0 then ((some ((2 : Int32), t))) else (Option.bind (M_name t (1 : Int32)) (fun x2 => (Option.bind (M_routerNamed t x2) (fun x3 => (Option.bind (M_linkOrAll t (3 : Int32)) (fun x4 => (Option.bind (M_name t (4 : Int32)) (fun x5 => (Option.bind (M_listNamed t x5) (fun x6 => (if x3 = ((-1) : Int32) then ((some ((3 : Int32), t))) else (if x4 = ((-2) : Int32) then ((some ((3 : Int32), t))) else (if x6 = ((-1) : Int32) then ((some ((3 : Int32), t))) else (Option.bind (M_isNumber t (5 : Int32) (1 : Int32) (15 : Int32)) (fun x7 => (if x7 = 0 then ((some ((4 : Int32), t))) else (Option.bind (rdI t 63 x3) (fun x8 => (if x8 = (8 : Int32) then ((some ((6 : Int32), t))) else (Option.bind (rdI t 63 x3) (fun x9 => (Option.bind (rdI t 63 x3) (fun x10 => (Option.bind (wrI t 63 x3 (x10 + (1 : Int32))) (fun s11 => (Option.bind (M_code s11 (2 : Int32)) (fun x12 => (if x12 = (374 : Int64) then ((M_lineOffset_b136 s11 x4 x6 (((8 : Int32) * x3) + x9) (((8 : Int32) * x3) + x9) (0 : Int32))) else ((M_lineOffset_b136 s11 x4 x6 (((8 : Int32) * x3) + x9) (((8 : Int32) * x3) + x9) (1 : Int32)))))))))))))))))))))))))))))))))) else ((some ((2 : Int32), t)))
set_option maxRecDepth 100000 in
set_option maxHeartbeats 4000000 in
theorem k_lineOffset (base : Nat) (sa : Nat → Nat) {C : Nat × Nat} {R : pmM} {m : Nat} {q : Nat → Nat} {t tz : moS} {kc ks : Nat} {Rt : pmR}  {r : Int32} (hw : mW C R base m q t kc ks) (h : M_lineOffset t = (some (r, tz))) (k : mW C R base m q tz kc ks → Rt (some (.int r)) (moM R m q tz) kc ks) : kP_Mo_lineOffset base sa [.ref m] (moM R m q t) kc ks Rt := by
  refine ⟨Nat.le_of_ble_eq_true rfl, fun G hG => ?_⟩
  have b136 : ∀ (a2 : Int32) (a3 : Int32) (a4 : Int32) (u1 : Int32) (u2 : Int32) (t : moS), JJ C R base m G 136 [(0, .ref m), (2, .int a2), (3, .int a3), (4, .int a4)] [.int u2, .int u1, .ref (q 64)] q t kc ks (M_lineOffset_b136 t a2 a3 a4 u1 u2) (some (r, tz)) := by
    intro a2 a3 a4 u1 u2 t
    refine jj_is hG (k := 64) rfl rfl rfl (fun s1 => ?_)
    refine jjs hG rfl rfl ?_
    refine jj_gr hG (k := 65) rfl rfl rfl rfl ?_
    refine jjs hG rfl rfl ?_
    refine jjs hG rfl rfl ?_
    refine jj_is hG (k := 65) rfl rfl rfl (fun s2 => ?_)
    refine jjs hG rfl rfl ?_
    refine jj_gr hG (k := 66) rfl rfl rfl rfl ?_
    refine jjs hG rfl rfl ?_
    refine jjs hG rfl rfl ?_
    refine jj_is hG (k := 66) rfl rfl rfl (fun s3 => ?_)
    refine jjs hG rfl rfl ?_
    refine jj_gr hG (k := 67) rfl rfl rfl rfl ?_
    refine jjs hG rfl rfl ?_
    refine jjs hG rfl rfl ?_
    refine jj_ic hG rfl cc_i5 ?_
    refine jj_cp hG 0 rfl rfl (Nat.le_of_ble_eq_true rfl) (by decide) (Nat.le_of_ble_eq_true rfl) rfl (st' := [.int a4, .ref (q 67)]) rfl (w := .int) (fun _ _ hw h k => pm_rcv_of moM_m (k_number base sa hw h k)) (fun x4 => ?_)
    refine jj_is hG (k := 67) rfl rfl rfl (fun s5 => ?_)
    refine jj_ic hG rfl cc_i0 ?_
    exact jj_riS hG rfl rfl rfl k
  refine (show JJ C R base m G 0 [(0, .ref m)] [] q t kc ks (M_lineOffset t) (some (r, tz)) from ?_) hw h
  refine jjs hG rfl rfl ?_
  refine jj_gi hG (k := 11) rfl rfl rfl rfl ?_
  refine jj_bi hG rfl cc_b6 ?_
  refine jj_ine hG (t := 17) rfl rfl ?_ ?_
  · refine jj_ic hG rfl cc_i2 ?_
    exact jj_riS hG rfl rfl rfl k
  refine jjs hG rfl rfl ?_
  refine jj_ic hG rfl cc_i2 ?_
  refine jj_cp hG 0 rfl rfl (Nat.le_of_ble_eq_true rfl) (by decide) (Nat.le_of_ble_eq_true rfl) rfl (st' := []) rfl (w := .int) (fun _ _ hw h k => pm_rcv_of moM_m (k_isWay base sa hw h k)) (fun x1 => ?_)
  refine jj_zne hG (t := 19) rfl rfl ?_ ?_
  · refine jjs hG rfl rfl ?_
    refine jjs hG rfl rfl ?_
    refine jj_ic hG rfl cc_i1 ?_
    refine jj_cp hG 0 rfl rfl (Nat.le_of_ble_eq_true rfl) (by decide) (Nat.le_of_ble_eq_true rfl) rfl (st' := [.ref m]) rfl (w := .long) (fun _ _ hw h k => pm_rcv_of moM_m (k_name base sa hw h k)) (fun x2 => ?_)
    refine jj_cp hG 0 rfl rfl (Nat.le_of_ble_eq_true rfl) (by decide) (Nat.le_of_ble_eq_true rfl) rfl (st' := []) rfl (w := .int) (fun _ _ hw h k => pm_rcv_of moM_m (k_routerNamed base sa hw h k)) (fun x3 => ?_)
    refine jjc hG rfl rfl (Nat.le_of_ble_eq_true rfl) ?_
    refine jjs hG rfl rfl ?_
    refine jj_ic hG rfl cc_i3 ?_
    refine jj_cp hG 0 rfl rfl (Nat.le_of_ble_eq_true rfl) (by decide) (Nat.le_of_ble_eq_true rfl) rfl (st' := []) rfl (w := .int) (fun _ _ hw h k => pm_rcv_of moM_m (k_linkOrAll base sa hw h k)) (fun x4 => ?_)
    refine jjc hG rfl rfl (Nat.le_of_ble_eq_true rfl) ?_
    refine jjs hG rfl rfl ?_
    refine jjs hG rfl rfl ?_
    refine jj_ic hG rfl cc_i4 ?_
    refine jj_cp hG 0 rfl rfl (Nat.le_of_ble_eq_true rfl) (by decide) (Nat.le_of_ble_eq_true rfl) rfl (st' := [.ref m]) rfl (w := .long) (fun _ _ hw h k => pm_rcv_of moM_m (k_name base sa hw h k)) (fun x5 => ?_)
    refine jj_cp hG 0 rfl rfl (Nat.le_of_ble_eq_true rfl) (by decide) (Nat.le_of_ble_eq_true rfl) rfl (st' := []) rfl (w := .int) (fun _ _ hw h k => pm_rcv_of moM_m (k_listNamed base sa hw h k)) (fun x6 => ?_)
    refine jjc hG rfl rfl (Nat.le_of_ble_eq_true rfl) ?_
    refine jjs hG rfl rfl ?_
    refine jj_ic hG rfl cc_im1 ?_
    refine jj_ieq hG (t := 61) rfl rfl ?_ ?_
    · refine jj_ic hG rfl cc_i3 ?_
      exact jj_riS hG rfl rfl rfl k
    refine jjs hG rfl rfl ?_
    refine jj_bi hG rfl cc_bm2 ?_
    refine jj_ieq hG (t := 61) rfl rfl ?_ ?_
    · refine jj_ic hG rfl cc_i3 ?_
      exact jj_riS hG rfl rfl rfl k
    refine jjs hG rfl rfl ?_
    refine jj_ic hG rfl cc_im1 ?_
    refine jj_ine hG (t := 63) rfl rfl ?_ ?_
    · refine jjs hG rfl rfl ?_
      refine jj_ic hG rfl cc_i5 ?_
      refine jj_ic hG rfl cc_i1 ?_
      refine jj_bi hG rfl cc_b15 ?_
      refine jj_cp hG 0 rfl rfl (Nat.le_of_ble_eq_true rfl) (by decide) (Nat.le_of_ble_eq_true rfl) rfl (st' := []) rfl (w := .int) (fun _ _ hw h k => pm_rcv_of moM_m (k_isNumber base sa hw h k)) (fun x7 => ?_)
      refine jj_zne hG (t := 76) rfl rfl ?_ ?_
      · refine jjs hG rfl rfl ?_
        refine jj_gr hG (k := 63) rfl rfl rfl rfl ?_
        refine jjs hG rfl rfl ?_
        refine jj_ia hG (k := 63) rfl rfl rfl (fun x8 => ?_)
        refine jj_bi hG rfl cc_b8 ?_
        refine jj_ine hG (t := 90) rfl rfl ?_ ?_
        · refine jj_bi hG rfl cc_b8 ?_
          refine jjs hG rfl rfl ?_
          refine jjs hG rfl rfl ?_
          refine jjs hG rfl rfl ?_
          refine jj_gr hG (k := 63) rfl rfl rfl rfl ?_
          refine jjs hG rfl rfl ?_
          refine jj_ia hG (k := 63) rfl rfl rfl (fun x9 => ?_)
          refine jjs hG rfl rfl ?_
          refine jjc hG rfl rfl (Nat.le_of_ble_eq_true rfl) ?_
          refine jjs hG rfl rfl ?_
          refine jj_gr hG (k := 63) rfl rfl rfl rfl ?_
          refine jjs hG rfl rfl ?_
          refine jjc2 hG rfl rfl rfl rfl ?_
          refine jj_ia hG (k := 63) rfl rfl rfl (fun x10 => ?_)
          refine jj_ic hG rfl cc_i1 ?_
          refine jjs hG rfl rfl ?_
          refine jj_is hG (k := 63) rfl rfl rfl (fun s11 => ?_)
          refine jjs hG rfl rfl ?_
          refine jj_gr hG (k := 64) rfl rfl rfl rfl ?_
          refine jjs hG rfl rfl ?_
          refine jjs hG rfl rfl ?_
          refine jj_ic hG rfl cc_i2 ?_
          refine jj_cp hG 0 rfl rfl (Nat.le_of_ble_eq_true rfl) (by decide) (Nat.le_of_ble_eq_true rfl) rfl (st' := [.int (((8 : Int32) * x3) + x9), .ref (q 64)]) rfl (w := .long) (fun _ _ hw h k => pm_rcv_of moM_m (k_code base sa hw h k)) (fun x12 => ?_)
          refine jj_l2 hG (v := (374 : Int64)) rfl rfl ?_
          refine jjs hG rfl rfl ?_
          refine jj_lne hG (t := 135) rfl rfl ?_ ?_
          · refine jj_ic hG rfl cc_i1 ?_
            exact jj_wl hG [4, 2, 1, 0] rfl (b136 _ _ _ _ _ _)
          refine jj_ic hG rfl cc_i0 ?_
          refine jj_go hG (t := 136) rfl rfl ?_
          exact jj_wl hG [4, 2, 1, 0] rfl (b136 _ _ _ _ _ _)
        refine jj_bi hG rfl cc_b6 ?_
        exact jj_riS hG rfl rfl rfl k
      refine jj_ic hG rfl cc_i4 ?_
      exact jj_riS hG rfl rfl rfl k
    refine jj_ic hG rfl cc_i3 ?_
    exact jj_riS hG rfl rfl rfl k
  refine jj_ic hG rfl cc_i2 ?_
  exact jj_riS hG rfl rfl rfl k
noncomputable def M_lineSummary (t : moS) : Option (Int32 × moS) := if (moS.S t 11) = (4 : Int32) then (Option.bind (M_interfaceWords t) (fun x1 => (if x1 = ((-1) : Int32) then ((some ((3 : Int32), t))) else (bn2 (M_isPrefixWord t (3 : Int32)) (fun x3 s2 => (if x3 = 0 then ((some ((5 : Int32), s2))) else (Option.bind (rdI s2 90 x1) (fun x4 => (if x4 = (4 : Int32) then ((some ((6 : Int32), s2))) else (Option.bind (rdI s2 90 x1) (fun x5 => (Option.bind (rdI s2 90 x1) (fun x6 => (Option.bind (wrI s2 90 x1 (x6 + (1 : Int32))) (fun s7 => (Option.bind (wrI s7 91 (((4 : Int32) * x1) + x5) (moS.S s7 12)) (fun s8 => (Option.bind (wrJ s8 92 (((4 : Int32) * x1) + x5) (moS.Z s8 13)) (fun s9 => (Option.bind (wrJ s9 93 (((4 : Int32) * x1) + x5) (moS.Z s9 14)) (fun s10 => (Option.bind (wrI s10 94 (((4 : Int32) * x1) + x5) (moS.S s10 15)) (fun s11 => ((some ((0 : Int32), s11)))))))))))))))))))))))))) else ((some ((2 : Int32), t)))
set_option maxRecDepth 100000 in
set_option maxHeartbeats 4000000 in
theorem k_lineSummary (base : Nat) (sa : Nat → Nat) {C : Nat × Nat} {R : pmM} {m : Nat} {q : Nat → Nat} {t tz : moS} {kc ks : Nat} {Rt : pmR}  {r : Int32} (hw : mW C R base m q t kc ks) (h : M_lineSummary t = (some (r, tz))) (k : mW C R base m q tz kc ks → Rt (some (.int r)) (moM R m q tz) kc ks) : kP_Mo_lineSummary base sa [.ref m] (moM R m q t) kc ks Rt := by
  refine ⟨Nat.le_of_ble_eq_true rfl, fun G hG => ?_⟩
  refine (show JJ C R base m G 0 [(0, .ref m)] [] q t kc ks (M_lineSummary t) (some (r, tz)) from ?_) hw h
  refine jjs hG rfl rfl ?_
  refine jj_gi hG (k := 11) rfl rfl rfl rfl ?_
  refine jj_ic hG rfl cc_i4 ?_
  refine jj_ieq hG (t := 10) rfl rfl ?_ ?_
  · refine jjs hG rfl rfl ?_
    refine jj_cp hG 0 rfl rfl (Nat.le_of_ble_eq_true rfl) (by decide) (Nat.le_of_ble_eq_true rfl) rfl (st' := []) rfl (w := .int) (fun _ _ hw h k => pm_rcv_of moM_m (k_interfaceWords base sa hw h k)) (fun x1 => ?_)
    refine jjc hG rfl rfl (Nat.le_of_ble_eq_true rfl) ?_
    refine jjs hG rfl rfl ?_
    refine jj_ic hG rfl cc_im1 ?_
    refine jj_ine hG (t := 22) rfl rfl ?_ ?_
    · refine jjs hG rfl rfl ?_
      refine jj_ic hG rfl cc_i3 ?_
      refine jj_cs hG 0 rfl rfl (Nat.le_of_ble_eq_true rfl) (by decide) (Nat.le_of_ble_eq_true rfl) rfl (st' := []) rfl (w := .int) (fun _ _ _ hw h k => pm_rcv_of moM_m (k_isPrefixWord base sa hw h k)) (fun x3 s2 => ?_)
      refine jj_zne hG (t := 32) rfl rfl ?_ ?_
      · refine jjs hG rfl rfl ?_
        refine jj_gr hG (k := 90) rfl rfl rfl rfl ?_
        refine jjs hG rfl rfl ?_
        refine jj_ia hG (k := 90) rfl rfl rfl (fun x4 => ?_)
        refine jj_ic hG rfl cc_i4 ?_
        refine jj_ine hG (t := 45) rfl rfl ?_ ?_
        · refine jj_ic hG rfl cc_i4 ?_
          refine jjs hG rfl rfl ?_
          refine jjs hG rfl rfl ?_
          refine jjs hG rfl rfl ?_
          refine jj_gr hG (k := 90) rfl rfl rfl rfl ?_
          refine jjs hG rfl rfl ?_
          refine jj_ia hG (k := 90) rfl rfl rfl (fun x5 => ?_)
          refine jjs hG rfl rfl ?_
          refine jjc hG rfl rfl (Nat.le_of_ble_eq_true rfl) ?_
          refine jjs hG rfl rfl ?_
          refine jj_gr hG (k := 90) rfl rfl rfl rfl ?_
          refine jjs hG rfl rfl ?_
          refine jjc2 hG rfl rfl rfl rfl ?_
          refine jj_ia hG (k := 90) rfl rfl rfl (fun x6 => ?_)
          refine jj_ic hG rfl cc_i1 ?_
          refine jjs hG rfl rfl ?_
          refine jj_is hG (k := 90) rfl rfl rfl (fun s7 => ?_)
          refine jjs hG rfl rfl ?_
          refine jj_gr hG (k := 91) rfl rfl rfl rfl ?_
          refine jjs hG rfl rfl ?_
          refine jjs hG rfl rfl ?_
          refine jj_gi hG (k := 12) rfl rfl rfl rfl ?_
          refine jj_is hG (k := 91) rfl rfl rfl (fun s8 => ?_)
          refine jjs hG rfl rfl ?_
          refine jj_gr hG (k := 92) rfl rfl rfl rfl ?_
          refine jjs hG rfl rfl ?_
          refine jjs hG rfl rfl ?_
          refine jj_gz hG (k := 13) rfl rfl rfl rfl ?_
          refine jj_ls hG (k := 92) rfl rfl rfl (fun s9 => ?_)
          refine jjs hG rfl rfl ?_
          refine jj_gr hG (k := 93) rfl rfl rfl rfl ?_
          refine jjs hG rfl rfl ?_
          refine jjs hG rfl rfl ?_
          refine jj_gz hG (k := 14) rfl rfl rfl rfl ?_
          refine jj_ls hG (k := 93) rfl rfl rfl (fun s10 => ?_)
          refine jjs hG rfl rfl ?_
          refine jj_gr hG (k := 94) rfl rfl rfl rfl ?_
          refine jjs hG rfl rfl ?_
          refine jjs hG rfl rfl ?_
          refine jj_gi hG (k := 15) rfl rfl rfl rfl ?_
          refine jj_is hG (k := 94) rfl rfl rfl (fun s11 => ?_)
          refine jj_ic hG rfl cc_i0 ?_
          exact jj_riS hG rfl rfl rfl k
        refine jj_bi hG rfl cc_b6 ?_
        exact jj_riS hG rfl rfl rfl k
      refine jj_ic hG rfl cc_i5 ?_
      exact jj_riS hG rfl rfl rfl k
    refine jj_ic hG rfl cc_i3 ?_
    exact jj_riS hG rfl rfl rfl k
  refine jj_ic hG rfl cc_i2 ?_
  exact jj_riS hG rfl rfl rfl k
noncomputable def M_lineNeighbor (t : moS) : Option (Int32 × moS) := if (moS.S t 11) = (4 : Int32) then (Option.bind (M_interfaceWords t) (fun x1 => (if x1 = ((-1) : Int32) then ((some ((3 : Int32), t))) else (bn2 (M_isAddress t (3 : Int32)) (fun x3 s2 => (if x3 = 0 then ((some ((5 : Int32), s2))) else (Option.bind (rdI s2 95 x1) (fun x4 => (if x4 = (4 : Int32) then ((some ((6 : Int32), s2))) else (Option.bind (rdI s2 95 x1) (fun x5 => (Option.bind (rdI s2 95 x1) (fun x6 => (Option.bind (wrI s2 95 x1 (x6 + (1 : Int32))) (fun s7 => (Option.bind (wrI s7 96 (((4 : Int32) * x1) + x5) (moS.S s7 12)) (fun s8 => (Option.bind (wrJ s8 97 (((4 : Int32) * x1) + x5) (moS.Z s8 13)) (fun s9 => (Option.bind (wrJ s9 98 (((4 : Int32) * x1) + x5) (moS.Z s9 14)) (fun s10 => ((some ((0 : Int32), s10)))))))))))))))))))))))) else ((some ((2 : Int32), t)))
set_option maxRecDepth 100000 in
set_option maxHeartbeats 4000000 in
theorem k_lineNeighbor (base : Nat) (sa : Nat → Nat) {C : Nat × Nat} {R : pmM} {m : Nat} {q : Nat → Nat} {t tz : moS} {kc ks : Nat} {Rt : pmR}  {r : Int32} (hw : mW C R base m q t kc ks) (h : M_lineNeighbor t = (some (r, tz))) (k : mW C R base m q tz kc ks → Rt (some (.int r)) (moM R m q tz) kc ks) : kP_Mo_lineNeighbor base sa [.ref m] (moM R m q t) kc ks Rt := by
  refine ⟨Nat.le_of_ble_eq_true rfl, fun G hG => ?_⟩
  refine (show JJ C R base m G 0 [(0, .ref m)] [] q t kc ks (M_lineNeighbor t) (some (r, tz)) from ?_) hw h
  refine jjs hG rfl rfl ?_
  refine jj_gi hG (k := 11) rfl rfl rfl rfl ?_
  refine jj_ic hG rfl cc_i4 ?_
  refine jj_ieq hG (t := 10) rfl rfl ?_ ?_
  · refine jjs hG rfl rfl ?_
    refine jj_cp hG 0 rfl rfl (Nat.le_of_ble_eq_true rfl) (by decide) (Nat.le_of_ble_eq_true rfl) rfl (st' := []) rfl (w := .int) (fun _ _ hw h k => pm_rcv_of moM_m (k_interfaceWords base sa hw h k)) (fun x1 => ?_)
    refine jjc hG rfl rfl (Nat.le_of_ble_eq_true rfl) ?_
    refine jjs hG rfl rfl ?_
    refine jj_ic hG rfl cc_im1 ?_
    refine jj_ine hG (t := 22) rfl rfl ?_ ?_
    · refine jjs hG rfl rfl ?_
      refine jj_ic hG rfl cc_i3 ?_
      refine jj_cs hG 0 rfl rfl (Nat.le_of_ble_eq_true rfl) (by decide) (Nat.le_of_ble_eq_true rfl) rfl (st' := []) rfl (w := .int) (fun _ _ _ hw h k => pm_rcv_of moM_m (k_isAddress base sa hw h k)) (fun x3 s2 => ?_)
      refine jj_zne hG (t := 32) rfl rfl ?_ ?_
      · refine jjs hG rfl rfl ?_
        refine jj_gr hG (k := 95) rfl rfl rfl rfl ?_
        refine jjs hG rfl rfl ?_
        refine jj_ia hG (k := 95) rfl rfl rfl (fun x4 => ?_)
        refine jj_ic hG rfl cc_i4 ?_
        refine jj_ine hG (t := 45) rfl rfl ?_ ?_
        · refine jj_ic hG rfl cc_i4 ?_
          refine jjs hG rfl rfl ?_
          refine jjs hG rfl rfl ?_
          refine jjs hG rfl rfl ?_
          refine jj_gr hG (k := 95) rfl rfl rfl rfl ?_
          refine jjs hG rfl rfl ?_
          refine jj_ia hG (k := 95) rfl rfl rfl (fun x5 => ?_)
          refine jjs hG rfl rfl ?_
          refine jjc hG rfl rfl (Nat.le_of_ble_eq_true rfl) ?_
          refine jjs hG rfl rfl ?_
          refine jj_gr hG (k := 95) rfl rfl rfl rfl ?_
          refine jjs hG rfl rfl ?_
          refine jjc2 hG rfl rfl rfl rfl ?_
          refine jj_ia hG (k := 95) rfl rfl rfl (fun x6 => ?_)
          refine jj_ic hG rfl cc_i1 ?_
          refine jjs hG rfl rfl ?_
          refine jj_is hG (k := 95) rfl rfl rfl (fun s7 => ?_)
          refine jjs hG rfl rfl ?_
          refine jj_gr hG (k := 96) rfl rfl rfl rfl ?_
          refine jjs hG rfl rfl ?_
          refine jjs hG rfl rfl ?_
          refine jj_gi hG (k := 12) rfl rfl rfl rfl ?_
          refine jj_is hG (k := 96) rfl rfl rfl (fun s8 => ?_)
          refine jjs hG rfl rfl ?_
          refine jj_gr hG (k := 97) rfl rfl rfl rfl ?_
          refine jjs hG rfl rfl ?_
          refine jjs hG rfl rfl ?_
          refine jj_gz hG (k := 13) rfl rfl rfl rfl ?_
          refine jj_ls hG (k := 97) rfl rfl rfl (fun s9 => ?_)
          refine jjs hG rfl rfl ?_
          refine jj_gr hG (k := 98) rfl rfl rfl rfl ?_
          refine jjs hG rfl rfl ?_
          refine jjs hG rfl rfl ?_
          refine jj_gz hG (k := 14) rfl rfl rfl rfl ?_
          refine jj_ls hG (k := 98) rfl rfl rfl (fun s10 => ?_)
          refine jj_ic hG rfl cc_i0 ?_
          exact jj_riS hG rfl rfl rfl k
        refine jj_bi hG rfl cc_b6 ?_
        exact jj_riS hG rfl rfl rfl k
      refine jj_ic hG rfl cc_i5 ?_
      exact jj_riS hG rfl rfl rfl k
    refine jj_ic hG rfl cc_i3 ?_
    exact jj_riS hG rfl rfl rfl k
  refine jj_ic hG rfl cc_i2 ?_
  exact jj_riS hG rfl rfl rfl k
