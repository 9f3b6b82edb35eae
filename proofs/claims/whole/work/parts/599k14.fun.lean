/-! The model as functions, by program: lineFilter .. linkOrAll -/
noncomputable def M_lineFilter_b186 (t : moS) (u1 : Int32) (u2 : Int32) : Option (Int32 × moS) := Option.bind (wrZ t 58 u1 u2) (fun s1 => ((some ((0 : Int32), s1))))
noncomputable def M_lineFilter_b70 (t : moS) (a1 : Int32) (u0 : Int32) : Option (Int32 × moS) := Option.bind (rdI t 53 (((2 : Int32) * a1) + u0)) (fun x1 => (if x1 = (32 : Int32) then ((some ((6 : Int32), t))) else (Option.bind (rdI t 53 (((2 : Int32) * a1) + u0)) (fun x2 => (Option.bind (rdI t 53 (((2 : Int32) * a1) + u0)) (fun x3 => (Option.bind (wrI t 53 (((2 : Int32) * a1) + u0) (x3 + (1 : Int32))) (fun s4 => (Option.bind (wrI s4 54 ((((64 : Int32) * a1) + ((32 : Int32) * u0)) + x2) (moS.S s4 12)) (fun s5 => (Option.bind (wrJ s5 55 ((((64 : Int32) * a1) + ((32 : Int32) * u0)) + x2) (moS.Z s5 13)) (fun s6 => (Option.bind (wrJ s6 56 ((((64 : Int32) * a1) + ((32 : Int32) * u0)) + x2) (moS.Z s6 14)) (fun s7 => (Option.bind (wrI s7 57 ((((64 : Int32) * a1) + ((32 : Int32) * u0)) + x2) (moS.S s7 15)) (fun s8 => (Option.bind (M_code s8 (4 : Int32)) (fun x9 => (if x9 = (1652373180 : Int64) then ((M_lineFilter_b186 s8 ((((64 : Int32) * a1) + ((32 : Int32) * u0)) + x2) (1 : Int32))) else ((M_lineFilter_b186 s8 ((((64 : Int32) * a1) + ((32 : Int32) * u0)) + x2) (0 : Int32))))))))))))))))))))))
noncomputable def M_lineFilter (t : moS) : Option (Int32 × moS) := if (moS.S t 11) = (5 : Int32) then (Option.bind (M_isWay t (2 : Int32)) (fun x1 => (if x1 = 0 then ((some ((2 : Int32), t))) else (Option.bind (M_isDecision t (4 : Int32)) (fun x2 => (if x2 = 0 then ((some ((2 : Int32), t))) else (Option.bind (M_name t (1 : Int32)) (fun x3 => (Option.bind (M_routerNamed t x3) (fun x4 => (if x4 = ((-1) : Int32) then ((some ((3 : Int32), t))) else (bn2 (M_isPrefixWord t (3 : Int32)) (fun x6 s5 => (if x6 = 0 then ((some ((5 : Int32), s5))) else (Option.bind (M_code s5 (2 : Int32)) (fun x7 => (if x7 = (374 : Int64) then ((M_lineFilter_b70 s5 x4 (0 : Int32))) else ((M_lineFilter_b70 s5 x4 (1 : Int32)))))))))))))))))))) else ((some ((2 : Int32), t)))
set_option maxRecDepth 100000 in
set_option maxHeartbeats 4000000 in
theorem k_lineFilter (base : Nat) (sa : Nat → Nat) {C : Nat × Nat} {R : pmM} {m : Nat} {q : Nat → Nat} {t tz : moS} {kc ks : Nat} {Rt : pmR}  {r : Int32} (hw : mW C R base m q t kc ks) (h : M_lineFilter t = (some (r, tz))) (k : mW C R base m q tz kc ks → Rt (some (.int r)) (moM R m q tz) kc ks) : kP_Mo_lineFilter base sa [.ref m] (moM R m q t) kc ks Rt := by
  refine ⟨Nat.le_of_ble_eq_true rfl, fun G hG => ?_⟩
  have b186 : ∀ (u1 : Int32) (u2 : Int32) (t : moS), JJ C R base m G 186 [] [.int u2, .int u1, .ref (q 58)] q t kc ks (M_lineFilter_b186 t u1 u2) (some (r, tz)) := by
    intro u1 u2 t
    refine jj_bs hG (k := 58) rfl rfl rfl (fun s1 => ?_)
    refine jj_ic hG rfl cc_i0 ?_
    exact jj_riS hG rfl rfl rfl k
  have b70 : ∀ (a1 : Int32) (u0 : Int32) (t : moS), JJ C R base m G 70 [(0, .ref m), (1, .int a1)] [.int u0] q t kc ks (M_lineFilter_b70 t a1 u0) (some (r, tz)) := by
    intro a1 u0 t
    refine jjc hG rfl rfl (Nat.le_of_ble_eq_true rfl) ?_
    refine jjs hG rfl rfl ?_
    refine jj_gr hG (k := 53) rfl rfl rfl rfl ?_
    refine jj_ic hG rfl cc_i2 ?_
    refine jjs hG rfl rfl ?_
    refine jjs hG rfl rfl ?_
    refine jjs hG rfl rfl ?_
    refine jjs hG rfl rfl ?_
    refine jj_ia hG (k := 53) rfl rfl rfl (fun x1 => ?_)
    refine jj_bi hG rfl cc_b32 ?_
    refine jj_ine hG (t := 89) rfl rfl ?_ ?_
    · refine jj_bi hG rfl cc_b64 ?_
      refine jjs hG rfl rfl ?_
      refine jjs hG rfl rfl ?_
      refine jj_bi hG rfl cc_b32 ?_
      refine jjs hG rfl rfl ?_
      refine jjs hG rfl rfl ?_
      refine jjs hG rfl rfl ?_
      refine jjs hG rfl rfl ?_
      refine jj_gr hG (k := 53) rfl rfl rfl rfl ?_
      refine jj_ic hG rfl cc_i2 ?_
      refine jjs hG rfl rfl ?_
      refine jjs hG rfl rfl ?_
      refine jj_at (pc' := 105) rfl ?_
      refine jjs hG rfl rfl ?_
      refine jjs hG rfl rfl ?_
      refine jj_ia hG (k := 53) rfl rfl rfl (fun x2 => ?_)
      refine jjs hG rfl rfl ?_
      refine jjc hG rfl rfl (Nat.le_of_ble_eq_true rfl) ?_
      refine jjs hG rfl rfl ?_
      refine jj_gr hG (k := 53) rfl rfl rfl rfl ?_
      refine jj_ic hG rfl cc_i2 ?_
      refine jjs hG rfl rfl ?_
      refine jjs hG rfl rfl ?_
      refine jjs hG rfl rfl ?_
      refine jjs hG rfl rfl ?_
      refine jjc2 hG rfl rfl rfl rfl ?_
      refine jj_ia hG (k := 53) rfl rfl rfl (fun x3 => ?_)
      refine jj_ic hG rfl cc_i1 ?_
      refine jjs hG rfl rfl ?_
      refine jj_is hG (k := 53) rfl rfl rfl (fun s4 => ?_)
      refine jjs hG rfl rfl ?_
      refine jj_gr hG (k := 54) rfl rfl rfl rfl ?_
      refine jjs hG rfl rfl ?_
      refine jjs hG rfl rfl ?_
      refine jj_gi hG (k := 12) rfl rfl rfl rfl ?_
      refine jj_is hG (k := 54) rfl rfl rfl (fun s5 => ?_)
      refine jjs hG rfl rfl ?_
      refine jj_gr hG (k := 55) rfl rfl rfl rfl ?_
      refine jjs hG rfl rfl ?_
      refine jjs hG rfl rfl ?_
      refine jj_gz hG (k := 13) rfl rfl rfl rfl ?_
      refine jj_ls hG (k := 55) rfl rfl rfl (fun s6 => ?_)
      refine jjs hG rfl rfl ?_
      refine jj_gr hG (k := 56) rfl rfl rfl rfl ?_
      refine jjs hG rfl rfl ?_
      refine jjs hG rfl rfl ?_
      refine jj_gz hG (k := 14) rfl rfl rfl rfl ?_
      refine jj_ls hG (k := 56) rfl rfl rfl (fun s7 => ?_)
      refine jjs hG rfl rfl ?_
      refine jj_gr hG (k := 57) rfl rfl rfl rfl ?_
      refine jjs hG rfl rfl ?_
      refine jjs hG rfl rfl ?_
      refine jj_gi hG (k := 15) rfl rfl rfl rfl ?_
      refine jj_is hG (k := 57) rfl rfl rfl (fun s8 => ?_)
      refine jjs hG rfl rfl ?_
      refine jj_gr hG (k := 58) rfl rfl rfl rfl ?_
      refine jjs hG rfl rfl ?_
      refine jjs hG rfl rfl ?_
      refine jj_ic hG rfl cc_i4 ?_
      refine jj_cp hG 0 rfl rfl (Nat.le_of_ble_eq_true rfl) (by decide) (Nat.le_of_ble_eq_true rfl) rfl (st' := [.int ((((64 : Int32) * a1) + ((32 : Int32) * u0)) + x2), .ref (q 58)]) rfl (w := .long) (fun _ _ hw h k => pm_rcv_of moM_m (k_code base sa hw h k)) (fun x9 => ?_)
      refine jj_l2 hG (v := (1652373180 : Int64)) rfl rfl ?_
      refine jjs hG rfl rfl ?_
      refine jj_lne hG (t := 185) rfl rfl ?_ ?_
      · refine jj_ic hG rfl cc_i0 ?_
        exact jj_wl hG [] rfl (b186 _ _ _)
      refine jj_ic hG rfl cc_i1 ?_
      refine jj_go hG (t := 186) rfl rfl ?_
      exact jj_wl hG [] rfl (b186 _ _ _)
    refine jj_bi hG rfl cc_b6 ?_
    exact jj_riS hG rfl rfl rfl k
  refine (show JJ C R base m G 0 [(0, .ref m)] [] q t kc ks (M_lineFilter t) (some (r, tz)) from ?_) hw h
  refine jjs hG rfl rfl ?_
  refine jj_gi hG (k := 11) rfl rfl rfl rfl ?_
  refine jj_ic hG rfl cc_i5 ?_
  refine jj_ine hG (t := 24) rfl rfl ?_ ?_
  · refine jj_ic hG rfl cc_i2 ?_
    exact jj_riS hG rfl rfl rfl k
  refine jjs hG rfl rfl ?_
  refine jj_ic hG rfl cc_i2 ?_
  refine jj_cp hG 0 rfl rfl (Nat.le_of_ble_eq_true rfl) (by decide) (Nat.le_of_ble_eq_true rfl) rfl (st' := []) rfl (w := .int) (fun _ _ hw h k => pm_rcv_of moM_m (k_isWay base sa hw h k)) (fun x1 => ?_)
  refine jj_zeq hG (t := 24) rfl rfl ?_ ?_
  · refine jj_ic hG rfl cc_i2 ?_
    exact jj_riS hG rfl rfl rfl k
  refine jjs hG rfl rfl ?_
  refine jj_ic hG rfl cc_i4 ?_
  refine jj_cp hG 0 rfl rfl (Nat.le_of_ble_eq_true rfl) (by decide) (Nat.le_of_ble_eq_true rfl) rfl (st' := []) rfl (w := .int) (fun _ _ hw h k => pm_rcv_of moM_m (k_isDecision base sa hw h k)) (fun x2 => ?_)
  refine jj_zne hG (t := 26) rfl rfl ?_ ?_
  · refine jjs hG rfl rfl ?_
    refine jjs hG rfl rfl ?_
    refine jj_ic hG rfl cc_i1 ?_
    refine jj_cp hG 0 rfl rfl (Nat.le_of_ble_eq_true rfl) (by decide) (Nat.le_of_ble_eq_true rfl) rfl (st' := [.ref m]) rfl (w := .long) (fun _ _ hw h k => pm_rcv_of moM_m (k_name base sa hw h k)) (fun x3 => ?_)
    refine jj_cp hG 0 rfl rfl (Nat.le_of_ble_eq_true rfl) (by decide) (Nat.le_of_ble_eq_true rfl) rfl (st' := []) rfl (w := .int) (fun _ _ hw h k => pm_rcv_of moM_m (k_routerNamed base sa hw h k)) (fun x4 => ?_)
    refine jjc hG rfl rfl (Nat.le_of_ble_eq_true rfl) ?_
    refine jjs hG rfl rfl ?_
    refine jj_ic hG rfl cc_im1 ?_
    refine jj_ine hG (t := 43) rfl rfl ?_ ?_
    · refine jjs hG rfl rfl ?_
      refine jj_ic hG rfl cc_i3 ?_
      refine jj_cs hG 0 rfl rfl (Nat.le_of_ble_eq_true rfl) (by decide) (Nat.le_of_ble_eq_true rfl) rfl (st' := []) rfl (w := .int) (fun _ _ _ hw h k => pm_rcv_of moM_m (k_isPrefixWord base sa hw h k)) (fun x6 s5 => ?_)
      refine jj_zne hG (t := 53) rfl rfl ?_ ?_
      · refine jjs hG rfl rfl ?_
        refine jj_ic hG rfl cc_i2 ?_
        refine jj_cp hG 0 rfl rfl (Nat.le_of_ble_eq_true rfl) (by decide) (Nat.le_of_ble_eq_true rfl) rfl (st' := []) rfl (w := .long) (fun _ _ hw h k => pm_rcv_of moM_m (k_code base sa hw h k)) (fun x7 => ?_)
        refine jj_l2 hG (v := (374 : Int64)) rfl rfl ?_
        refine jjs hG rfl rfl ?_
        refine jj_lne hG (t := 69) rfl rfl ?_ ?_
        · refine jj_ic hG rfl cc_i1 ?_
          exact jj_wl hG [1, 0] rfl (b70 _ _ _)
        refine jj_ic hG rfl cc_i0 ?_
        refine jj_go hG (t := 70) rfl rfl ?_
        exact jj_wl hG [1, 0] rfl (b70 _ _ _)
      refine jj_ic hG rfl cc_i5 ?_
      exact jj_riS hG rfl rfl rfl k
    refine jj_ic hG rfl cc_i3 ?_
    exact jj_riS hG rfl rfl rfl k
  refine jj_ic hG rfl cc_i2 ?_
  exact jj_riS hG rfl rfl rfl k
noncomputable def M_lineList_b358 (t : moS) (u1 : Int32) (u2 : Int32) : Option (Int32 × moS) := Option.bind (wrI t 36 u1 u2) (fun s1 => ((some ((0 : Int32), s1))))
noncomputable def M_lineList_b336 (t : moS) (a4 : Int32) (a7 : Int32) (u1 : Int32) (u2 : Int32) : Option (Int32 × moS) := Option.bind (wrI t 35 u1 u2) (fun s1 => (if 0 < a4 then (Option.bind (M_number s1 a4) (fun x2 => ((M_lineList_b358 s1 a7 x2)))) else ((M_lineList_b358 s1 a7 ((-1) : Int32)))))
noncomputable def M_lineList_b272 (t : moS) (a3 : Int32) (a4 : Int32) (a7 : Int32) (u1 : Int32) (u2 : Int32) : Option (Int32 × moS) := Option.bind (wrZ t 30 u1 u2) (fun s1 => (Option.bind (wrI s1 31 a7 (moS.S s1 12)) (fun s2 => (Option.bind (wrJ s2 32 a7 (moS.Z s2 13)) (fun s3 => (Option.bind (wrJ s3 33 a7 (moS.Z s3 14)) (fun s4 => (Option.bind (wrI s4 34 a7 (moS.S s4 15)) (fun s5 => (if 0 < a3 then (Option.bind (M_number s5 a3) (fun x6 => ((M_lineList_b336 s5 a4 a7 a7 x6)))) else ((M_lineList_b336 s5 a4 a7 a7 ((-1) : Int32)))))))))))))
noncomputable def M_lineList_b223 (t : moS) (a3 : Int32) (a4 : Int32) (a6 : Int32) : Option (Int32 × moS) := Option.bind (rdI t 29 a6) (fun x1 => (Option.bind (rdI t 29 a6) (fun x2 => (Option.bind (wrI t 29 a6 (x2 + (1 : Int32))) (fun s3 => (Option.bind (M_code s3 (2 : Int32)) (fun x4 => (if x4 = (1652373180 : Int64) then ((M_lineList_b272 s3 a3 a4 (((16 : Int32) * a6) + x1) (((16 : Int32) * a6) + x1) (1 : Int32))) else ((M_lineList_b272 s3 a3 a4 (((16 : Int32) * a6) + x1) (((16 : Int32) * a6) + x1) (0 : Int32)))))))))))
noncomputable def M_lineList_b193 (t : moS) (a1 : Int64) (a3 : Int32) (a4 : Int32) (a6 : Int32) : Option (Int32 × moS) := if a6 = ((-1) : Int32) then (Option.bind (wrJ t 28 (moS.S t 27) a1) (fun s1 => (letS (moSS s1 27 ((moS.S s1 27) + (1 : Int32))) (fun s2 => ((M_lineList_b223 s2 a3 a4 (moS.S t 27))))))) else ((M_lineList_b223 t a3 a4 a6))
noncomputable def M_lineList_b153 (t : moS) (a1 : Int64) (a3 : Int32) (a4 : Int32) : Option (Int32 × moS) := Option.bind (M_listNamed t a1) (fun x1 => (if x1 = ((-1) : Int32) then (if (moS.S t 27) = (8 : Int32) then ((some ((6 : Int32), t))) else ((M_lineList_b193 t a1 a3 a4 x1))) else (Option.bind (rdI t 29 x1) (fun x2 => (if x2 = (16 : Int32) then ((some ((6 : Int32), t))) else ((M_lineList_b193 t a1 a3 a4 x1)))))))
noncomputable def M_lineList_b128 (t : moS) (a1 : Int64) (a3 : Int32) (a4 : Int32) : Option (Int32 × moS) := if 0 < a3 then (if 0 < a4 then (Option.bind (M_number t a3) (fun x1 => (Option.bind (M_number t a4) (fun x2 => (if x2 < x1 then ((some ((4 : Int32), t))) else ((M_lineList_b153 t a1 a3 a4))))))) else ((M_lineList_b153 t a1 a3 a4))) else ((M_lineList_b153 t a1 a3 a4))
noncomputable def M_lineList_b106 (t : moS) (a1 : Int64) (a3 : Int32) (a4 : Int32) (a5 : Int32) : Option (Int32 × moS) := if 0 < a4 then (Option.bind (M_isNumber t a4 (moS.S t 15) a5) (fun x1 => (if x1 = 0 then ((some ((4 : Int32), t))) else ((M_lineList_b128 t a1 a3 a4))))) else ((M_lineList_b128 t a1 a3 a4))
noncomputable def M_lineList (t : moS) : Option (Int32 × moS) := if (moS.S t 11) < (4 : Int32) then ((some ((2 : Int32), t))) else (Option.bind (M_isDecision t (2 : Int32)) (fun x1 => (if x1 = 0 then ((some ((2 : Int32), t))) else (Option.bind (M_areOptions t (4 : Int32) (285 : Int64) (485 : Int64) (0 : Int64) (0 : Int64) (0 : Int64) (0 : Int64)) (fun x2 => (if x2 = 0 then ((some ((2 : Int32), t))) else (Option.bind (M_name t (1 : Int32)) (fun x3 => (if x3 = (0 : Int64) then ((some ((3 : Int32), t))) else (bn2 (M_isPrefixWord t (3 : Int32)) (fun x5 s4 => (if x5 = 0 then ((some ((5 : Int32), s4))) else (Option.bind (M_option s4 (285 : Int64) (4 : Int32)) (fun x6 => (Option.bind (M_option s4 (485 : Int64) (4 : Int32)) (fun x7 => (if 0 < x6 then (Option.bind (M_isNumber s4 x6 (moS.S s4 15) (M_bitsOf (moS.S s4 12))) (fun x8 => (if x8 = 0 then ((some ((4 : Int32), s4))) else ((M_lineList_b106 s4 x3 x6 x7 (M_bitsOf (moS.S s4 12))))))) else ((M_lineList_b106 s4 x3 x6 x7 (M_bitsOf (moS.S s4 12)))))))))))))))))))))
set_option maxRecDepth 100000 in
set_option maxHeartbeats 4000000 in
theorem k_lineList (base : Nat) (sa : Nat → Nat) {C : Nat × Nat} {R : pmM} {m : Nat} {q : Nat → Nat} {t tz : moS} {kc ks : Nat} {Rt : pmR}  {r : Int32} (hw : mW C R base m q t kc ks) (h : M_lineList t = (some (r, tz))) (k : mW C R base m q tz kc ks → Rt (some (.int r)) (moM R m q tz) kc ks) : kP_Mo_lineList base sa [.ref m] (moM R m q t) kc ks Rt := by
  refine ⟨Nat.le_of_ble_eq_true rfl, fun G hG => ?_⟩
  have b358 : ∀ (u1 : Int32) (u2 : Int32) (t : moS), JJ C R base m G 358 [] [.int u2, .int u1, .ref (q 36)] q t kc ks (M_lineList_b358 t u1 u2) (some (r, tz)) := by
    intro u1 u2 t
    refine jj_is hG (k := 36) rfl rfl rfl (fun s1 => ?_)
    refine jj_ic hG rfl cc_i0 ?_
    exact jj_riS hG rfl rfl rfl k
  have b336 : ∀ (a4 : Int32) (a7 : Int32) (u1 : Int32) (u2 : Int32) (t : moS), JJ C R base m G 336 [(0, .ref m), (4, .int a4), (7, .int a7)] [.int u2, .int u1, .ref (q 35)] q t kc ks (M_lineList_b336 t a4 a7 u1 u2) (some (r, tz)) := by
    intro a4 a7 u1 u2 t
    refine jj_is hG (k := 35) rfl rfl rfl (fun s1 => ?_)
    refine jjs hG rfl rfl ?_
    refine jj_gr hG (k := 36) rfl rfl rfl rfl ?_
    refine jjs hG rfl rfl ?_
    refine jjs hG rfl rfl ?_
    refine jj_zle hG (t := 357) rfl rfl ?_ ?_
    · refine jj_ic hG rfl cc_im1 ?_
      exact jj_wl hG [] rfl (b358 _ _ _)
    refine jjs hG rfl rfl ?_
    refine jjs hG rfl rfl ?_
    refine jj_cp hG 0 rfl rfl (Nat.le_of_ble_eq_true rfl) (by decide) (Nat.le_of_ble_eq_true rfl) rfl (st' := [.int a7, .ref (q 36)]) rfl (w := .int) (fun _ _ hw h k => pm_rcv_of moM_m (k_number base sa hw h k)) (fun x2 => ?_)
    refine jj_go hG (t := 358) rfl rfl ?_
    exact jj_wl hG [] rfl (b358 _ _ _)
  have b272 : ∀ (a3 : Int32) (a4 : Int32) (a7 : Int32) (u1 : Int32) (u2 : Int32) (t : moS), JJ C R base m G 272 [(0, .ref m), (3, .int a3), (4, .int a4), (7, .int a7)] [.int u2, .int u1, .ref (q 30)] q t kc ks (M_lineList_b272 t a3 a4 a7 u1 u2) (some (r, tz)) := by
    intro a3 a4 a7 u1 u2 t
    refine jj_bs hG (k := 30) rfl rfl rfl (fun s1 => ?_)
    refine jjs hG rfl rfl ?_
    refine jj_gr hG (k := 31) rfl rfl rfl rfl ?_
    refine jjs hG rfl rfl ?_
    refine jjs hG rfl rfl ?_
    refine jj_gi hG (k := 12) rfl rfl rfl rfl ?_
    refine jj_is hG (k := 31) rfl rfl rfl (fun s2 => ?_)
    refine jjs hG rfl rfl ?_
    refine jj_gr hG (k := 32) rfl rfl rfl rfl ?_
    refine jjs hG rfl rfl ?_
    refine jjs hG rfl rfl ?_
    refine jj_gz hG (k := 13) rfl rfl rfl rfl ?_
    refine jj_ls hG (k := 32) rfl rfl rfl (fun s3 => ?_)
    refine jjs hG rfl rfl ?_
    refine jj_gr hG (k := 33) rfl rfl rfl rfl ?_
    refine jjs hG rfl rfl ?_
    refine jjs hG rfl rfl ?_
    refine jj_gz hG (k := 14) rfl rfl rfl rfl ?_
    refine jj_ls hG (k := 33) rfl rfl rfl (fun s4 => ?_)
    refine jjs hG rfl rfl ?_
    refine jj_gr hG (k := 34) rfl rfl rfl rfl ?_
    refine jjs hG rfl rfl ?_
    refine jjs hG rfl rfl ?_
    refine jj_gi hG (k := 15) rfl rfl rfl rfl ?_
    refine jj_is hG (k := 34) rfl rfl rfl (fun s5 => ?_)
    refine jjs hG rfl rfl ?_
    refine jj_gr hG (k := 35) rfl rfl rfl rfl ?_
    refine jjs hG rfl rfl ?_
    refine jjs hG rfl rfl ?_
    refine jj_zle hG (t := 335) rfl rfl ?_ ?_
    · refine jj_ic hG rfl cc_im1 ?_
      exact jj_wl hG [0, 2, 3] rfl (b336 _ _ _ _ _)
    refine jjs hG rfl rfl ?_
    refine jjs hG rfl rfl ?_
    refine jj_cp hG 0 rfl rfl (Nat.le_of_ble_eq_true rfl) (by decide) (Nat.le_of_ble_eq_true rfl) rfl (st' := [.int a7, .ref (q 35)]) rfl (w := .int) (fun _ _ hw h k => pm_rcv_of moM_m (k_number base sa hw h k)) (fun x6 => ?_)
    refine jj_go hG (t := 336) rfl rfl ?_
    exact jj_wl hG [0, 2, 3] rfl (b336 _ _ _ _ _)
  have b223 : ∀ (a3 : Int32) (a4 : Int32) (a6 : Int32) (t : moS), JJ C R base m G 223 [(0, .ref m), (3, .int a3), (4, .int a4), (6, .int a6)] [] q t kc ks (M_lineList_b223 t a3 a4 a6) (some (r, tz)) := by
    intro a3 a4 a6 t
    refine jj_bi hG rfl cc_b16 ?_
    refine jjs hG rfl rfl ?_
    refine jjs hG rfl rfl ?_
    refine jjs hG rfl rfl ?_
    refine jj_gr hG (k := 29) rfl rfl rfl rfl ?_
    refine jjs hG rfl rfl ?_
    refine jj_ia hG (k := 29) rfl rfl rfl (fun x1 => ?_)
    refine jjs hG rfl rfl ?_
    refine jjc hG rfl rfl (Nat.le_of_ble_eq_true rfl) ?_
    refine jjs hG rfl rfl ?_
    refine jj_gr hG (k := 29) rfl rfl rfl rfl ?_
    refine jjs hG rfl rfl ?_
    refine jjc2 hG rfl rfl rfl rfl ?_
    refine jj_ia hG (k := 29) rfl rfl rfl (fun x2 => ?_)
    refine jj_ic hG rfl cc_i1 ?_
    refine jjs hG rfl rfl ?_
    refine jj_is hG (k := 29) rfl rfl rfl (fun s3 => ?_)
    refine jjs hG rfl rfl ?_
    refine jj_gr hG (k := 30) rfl rfl rfl rfl ?_
    refine jjs hG rfl rfl ?_
    refine jjs hG rfl rfl ?_
    refine jj_ic hG rfl cc_i2 ?_
    refine jj_cp hG 0 rfl rfl (Nat.le_of_ble_eq_true rfl) (by decide) (Nat.le_of_ble_eq_true rfl) rfl (st' := [.int (((16 : Int32) * a6) + x1), .ref (q 30)]) rfl (w := .long) (fun _ _ hw h k => pm_rcv_of moM_m (k_code base sa hw h k)) (fun x4 => ?_)
    refine jj_l2 hG (v := (1652373180 : Int64)) rfl rfl ?_
    refine jjs hG rfl rfl ?_
    refine jj_lne hG (t := 271) rfl rfl ?_ ?_
    · refine jj_ic hG rfl cc_i0 ?_
      exact jj_wl hG [1, 2, 3, 0] rfl (b272 _ _ _ _ _ _)
    refine jj_ic hG rfl cc_i1 ?_
    refine jj_go hG (t := 272) rfl rfl ?_
    exact jj_wl hG [1, 2, 3, 0] rfl (b272 _ _ _ _ _ _)
  have b193 : ∀ (a1 : Int64) (a3 : Int32) (a4 : Int32) (a6 : Int32) (t : moS), JJ C R base m G 193 [(0, .ref m), (1, .long a1), (3, .int a3), (4, .int a4), (6, .int a6)] [] q t kc ks (M_lineList_b193 t a1 a3 a4 a6) (some (r, tz)) := by
    intro a1 a3 a4 a6 t
    refine jjs hG rfl rfl ?_
    refine jj_ic hG rfl cc_im1 ?_
    refine jj_ine hG (t := 223) rfl rfl ?_ ?_
    · exact jj_wl hG [0, 2, 3, 4] rfl (b223 _ _ _ _)
    refine jjs hG rfl rfl ?_
    refine jj_gi hG (k := 27) rfl rfl rfl rfl ?_
    refine jjc hG rfl rfl (Nat.le_of_ble_eq_true rfl) ?_
    refine jjs hG rfl rfl ?_
    refine jj_gr hG (k := 28) rfl rfl rfl rfl ?_
    refine jjs hG rfl rfl ?_
    refine jjs hG rfl rfl ?_
    refine jj_ls hG (k := 28) rfl rfl rfl (fun s1 => ?_)
    refine jjs hG rfl rfl ?_
    refine jjc hG rfl rfl rfl ?_
    refine jj_gi hG (k := 27) rfl rfl rfl rfl ?_
    refine jj_ic hG rfl cc_i1 ?_
    refine jjs hG rfl rfl ?_
    refine jj_pi hG (k := 27) rfl rfl rfl rfl (fun s2 => ?_)
    exact jj_wl hG [1, 3, 4, 0] rfl (b223 _ _ _ _)
  have b153 : ∀ (a1 : Int64) (a3 : Int32) (a4 : Int32) (t : moS), JJ C R base m G 153 [(0, .ref m), (1, .long a1), (3, .int a3), (4, .int a4)] [] q t kc ks (M_lineList_b153 t a1 a3 a4) (some (r, tz)) := by
    intro a1 a3 a4 t
    refine jjs hG rfl rfl ?_
    refine jjs hG rfl rfl ?_
    refine jj_cp hG 0 rfl rfl (Nat.le_of_ble_eq_true rfl) (by decide) (Nat.le_of_ble_eq_true rfl) rfl (st' := []) rfl (w := .int) (fun _ _ hw h k => pm_rcv_of moM_m (k_listNamed base sa hw h k)) (fun x1 => ?_)
    refine jjc hG rfl rfl (Nat.le_of_ble_eq_true rfl) ?_
    refine jjs hG rfl rfl ?_
    refine jj_ic hG rfl cc_im1 ?_
    refine jj_ine hG (t := 178) rfl rfl ?_ ?_
    · refine jjs hG rfl rfl ?_
      refine jj_gr hG (k := 29) rfl rfl rfl rfl ?_
      refine jjs hG rfl rfl ?_
      refine jj_ia hG (k := 29) rfl rfl rfl (fun x2 => ?_)
      refine jj_bi hG rfl cc_b16 ?_
      refine jj_ine hG (t := 193) rfl rfl ?_ ?_
      · exact jj_wl hG [1, 2, 3, 4, 0] rfl (b193 _ _ _ _ _)
      refine jj_bi hG rfl cc_b6 ?_
      exact jj_riS hG rfl rfl rfl k
    refine jjs hG rfl rfl ?_
    refine jj_gi hG (k := 27) rfl rfl rfl rfl ?_
    refine jj_bi hG rfl cc_b8 ?_
    refine jj_ine hG (t := 193) rfl rfl ?_ ?_
    · exact jj_wl hG [1, 2, 3, 4, 0] rfl (b193 _ _ _ _ _)
    refine jj_go hG (t := 190) rfl rfl ?_
    refine jj_bi hG rfl cc_b6 ?_
    exact jj_riS hG rfl rfl rfl k
  have b128 : ∀ (a1 : Int64) (a3 : Int32) (a4 : Int32) (t : moS), JJ C R base m G 128 [(0, .ref m), (1, .long a1), (3, .int a3), (4, .int a4)] [] q t kc ks (M_lineList_b128 t a1 a3 a4) (some (r, tz)) := by
    intro a1 a3 a4 t
    refine jjs hG rfl rfl ?_
    refine jj_zle hG (t := 153) rfl rfl ?_ ?_
    · exact jj_wl hG [0, 1, 2, 3] rfl (b153 _ _ _ _)
    refine jjs hG rfl rfl ?_
    refine jj_zle hG (t := 153) rfl rfl ?_ ?_
    · exact jj_wl hG [0, 1, 2, 3] rfl (b153 _ _ _ _)
    refine jjs hG rfl rfl ?_
    refine jjs hG rfl rfl ?_
    refine jj_cp hG 0 rfl rfl (Nat.le_of_ble_eq_true rfl) (by decide) (Nat.le_of_ble_eq_true rfl) rfl (st' := []) rfl (w := .int) (fun _ _ hw h k => pm_rcv_of moM_m (k_number base sa hw h k)) (fun x1 => ?_)
    refine jjs hG rfl rfl ?_
    refine jjs hG rfl rfl ?_
    refine jj_cp hG 0 rfl rfl (Nat.le_of_ble_eq_true rfl) (by decide) (Nat.le_of_ble_eq_true rfl) rfl (st' := [.int x1]) rfl (w := .int) (fun _ _ hw h k => pm_rcv_of moM_m (k_number base sa hw h k)) (fun x2 => ?_)
    refine jj_ile hG (t := 153) rfl rfl ?_ ?_
    · exact jj_wl hG [0, 1, 2, 3] rfl (b153 _ _ _ _)
    refine jj_ic hG rfl cc_i4 ?_
    exact jj_riS hG rfl rfl rfl k
  have b106 : ∀ (a1 : Int64) (a3 : Int32) (a4 : Int32) (a5 : Int32) (t : moS), JJ C R base m G 106 [(0, .ref m), (1, .long a1), (3, .int a3), (4, .int a4), (5, .int a5)] [] q t kc ks (M_lineList_b106 t a1 a3 a4 a5) (some (r, tz)) := by
    intro a1 a3 a4 a5 t
    refine jjs hG rfl rfl ?_
    refine jj_zle hG (t := 128) rfl rfl ?_ ?_
    · exact jj_wl hG [0, 1, 2, 3] rfl (b128 _ _ _ _)
    refine jjs hG rfl rfl ?_
    refine jjs hG rfl rfl ?_
    refine jjs hG rfl rfl ?_
    refine jj_gi hG (k := 15) rfl rfl rfl rfl ?_
    refine jjs hG rfl rfl ?_
    refine jj_cp hG 0 rfl rfl (Nat.le_of_ble_eq_true rfl) (by decide) (Nat.le_of_ble_eq_true rfl) rfl (st' := []) rfl (w := .int) (fun _ _ hw h k => pm_rcv_of moM_m (k_isNumber base sa hw h k)) (fun x1 => ?_)
    refine jj_zne hG (t := 128) rfl rfl ?_ ?_
    · exact jj_wl hG [0, 1, 2, 3] rfl (b128 _ _ _ _)
    refine jj_ic hG rfl cc_i4 ?_
    exact jj_riS hG rfl rfl rfl k
  refine (show JJ C R base m G 0 [(0, .ref m)] [] q t kc ks (M_lineList t) (some (r, tz)) from ?_) hw h
  refine jjs hG rfl rfl ?_
  refine jj_gi hG (k := 11) rfl rfl rfl rfl ?_
  refine jj_ic hG rfl cc_i4 ?_
  refine jj_ilt hG (t := 34) rfl rfl ?_ ?_
  · refine jj_ic hG rfl cc_i2 ?_
    exact jj_riS hG rfl rfl rfl k
  refine jjs hG rfl rfl ?_
  refine jj_ic hG rfl cc_i2 ?_
  refine jj_cp hG 0 rfl rfl (Nat.le_of_ble_eq_true rfl) (by decide) (Nat.le_of_ble_eq_true rfl) rfl (st' := []) rfl (w := .int) (fun _ _ hw h k => pm_rcv_of moM_m (k_isDecision base sa hw h k)) (fun x1 => ?_)
  refine jj_zeq hG (t := 34) rfl rfl ?_ ?_
  · refine jj_ic hG rfl cc_i2 ?_
    exact jj_riS hG rfl rfl rfl k
  refine jjs hG rfl rfl ?_
  refine jj_ic hG rfl cc_i4 ?_
  refine jj_l2 hG (v := (285 : Int64)) rfl rfl ?_
  refine jj_l2 hG (v := (485 : Int64)) rfl rfl ?_
  refine jj_lc hG (c := 0) (v := 0) rfl rfl ?_
  refine jj_lc hG (c := 0) (v := 0) rfl rfl ?_
  refine jj_lc hG (c := 0) (v := 0) rfl rfl ?_
  refine jj_lc hG (c := 0) (v := 0) rfl rfl ?_
  refine jj_cp hG 0 rfl rfl (Nat.le_of_ble_eq_true rfl) (by decide) (Nat.le_of_ble_eq_true rfl) rfl (st' := []) rfl (w := .int) (fun _ _ hw h k => pm_rcv_of moM_m (k_areOptions base sa hw h k)) (fun x2 => ?_)
  refine jj_zne hG (t := 36) rfl rfl ?_ ?_
  · refine jjs hG rfl rfl ?_
    refine jj_ic hG rfl cc_i1 ?_
    refine jj_cp hG 0 rfl rfl (Nat.le_of_ble_eq_true rfl) (by decide) (Nat.le_of_ble_eq_true rfl) rfl (st' := []) rfl (w := .long) (fun _ _ hw h k => pm_rcv_of moM_m (k_name base sa hw h k)) (fun x3 => ?_)
    refine jjc hG rfl rfl (Nat.le_of_ble_eq_true rfl) ?_
    refine jjs hG rfl rfl ?_
    refine jj_lc hG (c := 0) (v := 0) rfl rfl ?_
    refine jjs hG rfl rfl ?_
    refine jj_lne hG (t := 50) rfl rfl ?_ ?_
    · refine jjs hG rfl rfl ?_
      refine jj_ic hG rfl cc_i3 ?_
      refine jj_cs hG 0 rfl rfl (Nat.le_of_ble_eq_true rfl) (by decide) (Nat.le_of_ble_eq_true rfl) rfl (st' := []) rfl (w := .int) (fun _ _ _ hw h k => pm_rcv_of moM_m (k_isPrefixWord base sa hw h k)) (fun x5 s4 => ?_)
      refine jj_zne hG (t := 60) rfl rfl ?_ ?_
      · refine jjs hG rfl rfl ?_
        refine jj_l2 hG (v := (285 : Int64)) rfl rfl ?_
        refine jj_ic hG rfl cc_i4 ?_
        refine jj_cp hG 0 rfl rfl (Nat.le_of_ble_eq_true rfl) (by decide) (Nat.le_of_ble_eq_true rfl) rfl (st' := []) rfl (w := .int) (fun _ _ hw h k => pm_rcv_of moM_m (k_option base sa hw h k)) (fun x6 => ?_)
        refine jjc hG rfl rfl (Nat.le_of_ble_eq_true rfl) ?_
        refine jjs hG rfl rfl ?_
        refine jj_l2 hG (v := (485 : Int64)) rfl rfl ?_
        refine jj_ic hG rfl cc_i4 ?_
        refine jj_cp hG 0 rfl rfl (Nat.le_of_ble_eq_true rfl) (by decide) (Nat.le_of_ble_eq_true rfl) rfl (st' := []) rfl (w := .int) (fun _ _ hw h k => pm_rcv_of moM_m (k_option base sa hw h k)) (fun x7 => ?_)
        refine jjc hG rfl rfl (Nat.le_of_ble_eq_true rfl) ?_
        refine jjs hG rfl rfl ?_
        refine jj_gi hG (k := 12) rfl rfl rfl rfl ?_
        refine jj_ct hG 2 rfl rfl (Nat.le_of_ble_eq_true rfl) (by decide) (Nat.le_of_ble_eq_true rfl) rfl (st' := []) rfl (v := .int (M_bitsOf (moS.S s4 12))) (fun _ hw k => k_bitsOf base sa hw rfl k) ?_
        refine jjc hG rfl rfl (Nat.le_of_ble_eq_true rfl) ?_
        refine jjs hG rfl rfl ?_
        refine jj_zle hG (t := 106) rfl rfl ?_ ?_
        · exact jj_wl hG [4, 3, 2, 1, 0] rfl (b106 _ _ _ _ _)
        refine jjs hG rfl rfl ?_
        refine jjs hG rfl rfl ?_
        refine jjs hG rfl rfl ?_
        refine jj_gi hG (k := 15) rfl rfl rfl rfl ?_
        refine jjs hG rfl rfl ?_
        refine jj_cp hG 0 rfl rfl (Nat.le_of_ble_eq_true rfl) (by decide) (Nat.le_of_ble_eq_true rfl) rfl (st' := []) rfl (w := .int) (fun _ _ hw h k => pm_rcv_of moM_m (k_isNumber base sa hw h k)) (fun x8 => ?_)
        refine jj_zeq hG (t := 126) rfl rfl ?_ ?_
        · refine jj_ic hG rfl cc_i4 ?_
          exact jj_riS hG rfl rfl rfl k
        exact jj_wl hG [4, 3, 2, 1, 0] rfl (b106 _ _ _ _ _)
      refine jj_ic hG rfl cc_i5 ?_
      exact jj_riS hG rfl rfl rfl k
    refine jj_ic hG rfl cc_i3 ?_
    exact jj_riS hG rfl rfl rfl k
  refine jj_ic hG rfl cc_i2 ?_
  exact jj_riS hG rfl rfl rfl k
noncomputable def M_linkOrAll (t : moS) (p1 : Int32) : Option Int32 := Option.bind (M_code t p1) (fun x1 => (if x1 = (37 : Int64) then ((some ((-1) : Int32))) else (Option.bind (M_name t p1) (fun x2 => (Option.bind (M_linkNamed t x2) (fun x3 => (if x3 = ((-1) : Int32) then ((some ((-2) : Int32))) else ((some x3)))))))))
set_option maxRecDepth 100000 in
set_option maxHeartbeats 4000000 in
theorem k_linkOrAll (base : Nat) (sa : Nat → Nat) {C : Nat × Nat} {R : pmM} {m : Nat} {q : Nat → Nat} {t : moS} {kc ks : Nat} {Rt : pmR} {p1 : Int32} {r : Int32} (hw : mW C R base m q t kc ks) (h : M_linkOrAll t p1 = (some r)) (k : Rt (some (.int r)) (moM R m q t) kc ks) : kP_Mo_linkOrAll base sa [.ref m, .int p1] (moM R m q t) kc ks Rt := by
  refine ⟨Nat.le_of_ble_eq_true rfl, fun G hG => ?_⟩
  refine (show JJ C R base m G 0 [(0, .ref m), (1, .int p1)] [] q t kc ks (M_linkOrAll t p1) (some r) from ?_) hw h
  refine jjs hG rfl rfl ?_
  refine jjs hG rfl rfl ?_
  refine jj_cp hG 0 rfl rfl (Nat.le_of_ble_eq_true rfl) (by decide) (Nat.le_of_ble_eq_true rfl) rfl (st' := []) rfl (w := .long) (fun _ _ hw h k => pm_rcv_of moM_m (k_code base sa hw h k)) (fun x1 => ?_)
  refine jj_l2 hG (v := (37 : Int64)) rfl rfl ?_
  refine jjs hG rfl rfl ?_
  refine jj_lne hG (t := 14) rfl rfl ?_ ?_
  · refine jjs hG rfl rfl ?_
    refine jjs hG rfl rfl ?_
    refine jjs hG rfl rfl ?_
    refine jj_cp hG 0 rfl rfl (Nat.le_of_ble_eq_true rfl) (by decide) (Nat.le_of_ble_eq_true rfl) rfl (st' := [.ref m]) rfl (w := .long) (fun _ _ hw h k => pm_rcv_of moM_m (k_name base sa hw h k)) (fun x2 => ?_)
    refine jj_cp hG 0 rfl rfl (Nat.le_of_ble_eq_true rfl) (by decide) (Nat.le_of_ble_eq_true rfl) rfl (st' := []) rfl (w := .int) (fun _ _ hw h k => pm_rcv_of moM_m (k_linkNamed base sa hw h k)) (fun x3 => ?_)
    refine jjc hG rfl rfl (Nat.le_of_ble_eq_true rfl) ?_
    refine jjs hG rfl rfl ?_
    refine jj_ic hG rfl cc_im1 ?_
    refine jj_ine hG (t := 34) rfl rfl ?_ ?_
    · refine jjs hG rfl rfl ?_
      exact jj_ri hG rfl rfl rfl k
    refine jj_bi hG rfl cc_bm2 ?_
    refine jj_go hG (t := 35) rfl rfl ?_
    exact jj_ri hG rfl rfl rfl k
  refine jj_ic hG rfl cc_im1 ?_
  exact jj_ri hG rfl rfl rfl k
