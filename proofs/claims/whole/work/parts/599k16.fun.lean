/-! The model as functions, by program: lineRedistribute .. line -/
noncomputable def M_lineRedistribute_b225 (t : moS) (u1 : Int32) (u2 : Int32) : Option (Int32 × moS) := Option.bind (wrI t 69 u1 u2) (fun s1 => ((some ((0 : Int32), s1))))
noncomputable def M_lineRedistribute_b205 (t : moS) (a2 : Int32) (a4 : Int32) (u1 : Int32) (u2 : Int32) : Option (Int32 × moS) := Option.bind (wrI t 68 u1 u2) (fun s1 => (if 0 < a2 then (Option.bind (M_number s1 a2) (fun x2 => ((M_lineRedistribute_b225 s1 a4 x2)))) else ((M_lineRedistribute_b225 s1 a4 ((-1) : Int32)))))
noncomputable def M_lineRedistribute_b159 (t : moS) (a2 : Int32) (u0 : Int32) (u1 : Int32) : Option (Int32 × moS) := Option.bind (M_code t (3 : Int32)) (fun x1 => (if x1 = (24934 : Int64) then ((M_lineRedistribute_b205 t a2 (u0 + u1) (u0 + u1) ((-1) : Int32))) else (Option.bind (M_code t (3 : Int32)) (fun x2 => (if x2 = (24246 : Int64) then ((M_lineRedistribute_b205 t a2 (u0 + u1) (u0 + u1) (0 : Int32))) else (Option.bind (M_number t (3 : Int32)) (fun x3 => ((M_lineRedistribute_b205 t a2 (u0 + u1) (u0 + u1) x3)))))))))
noncomputable def M_lineRedistribute_b139 (t : moS) (a1 : Int32) (a2 : Int32) : Option (Int32 × moS) := Option.bind (M_code t (2 : Int32)) (fun x1 => (if x1 = (22177190624204 : Int64) then ((M_lineRedistribute_b159 t a2 ((2 : Int32) * a1) (0 : Int32))) else ((M_lineRedistribute_b159 t a2 ((2 : Int32) * a1) (1 : Int32)))))
noncomputable def M_lineRedistribute_b121 (t : moS) (a1 : Int32) (a2 : Int32) : Option (Int32 × moS) := if 0 < a2 then (Option.bind (M_isNumber t a2 (0 : Int32) (65535 : Int32)) (fun x1 => (if x1 = 0 then ((some ((4 : Int32), t))) else ((M_lineRedistribute_b139 t a1 a2))))) else ((M_lineRedistribute_b139 t a1 a2))
noncomputable def M_lineRedistribute_b105 (t : moS) (a1 : Int32) (a2 : Int32) (u0 : Int32) : Option (Int32 × moS) := if u0 = 0 then (Option.bind (M_isNumber t (3 : Int32) (1 : Int32) (15 : Int32)) (fun x1 => (if x1 = 0 then ((some ((4 : Int32), t))) else ((M_lineRedistribute_b121 t a1 a2))))) else ((M_lineRedistribute_b121 t a1 a2))
noncomputable def M_lineRedistribute_b100 (t : moS) (a1 : Int32) (a2 : Int32) : Option (Int32 × moS) := (M_lineRedistribute_b105 t a1 a2 (1 : Int32))
noncomputable def M_lineRedistribute_b32 (t : moS) : Option (Int32 × moS) := Option.bind (M_areOptions t (4 : Int32) (32047 : Int64) (0 : Int64) (0 : Int64) (0 : Int64) (0 : Int64) (0 : Int64)) (fun x1 => (if x1 = 0 then ((some ((2 : Int32), t))) else (Option.bind (M_name t (1 : Int32)) (fun x2 => (Option.bind (M_routerNamed t x2) (fun x3 => (if x3 = ((-1) : Int32) then ((some ((3 : Int32), t))) else (Option.bind (M_option t (32047 : Int64) (4 : Int32)) (fun x4 => (Option.bind (M_code t (3 : Int32)) (fun x5 => (if x5 = (24934 : Int64) then ((M_lineRedistribute_b100 t x3 x4)) else (Option.bind (M_code t (3 : Int32)) (fun x6 => (if x6 = (24246 : Int64) then ((M_lineRedistribute_b100 t x3 x4)) else ((M_lineRedistribute_b105 t x3 x4 (0 : Int32))))))))))))))))))
noncomputable def M_lineRedistribute (t : moS) : Option (Int32 × moS) := if (moS.S t 11) < (4 : Int32) then ((some ((2 : Int32), t))) else (Option.bind (M_code t (2 : Int32)) (fun x1 => (if x1 = (22177190624204 : Int64) then ((M_lineRedistribute_b32 t)) else (Option.bind (M_code t (2 : Int32)) (fun x2 => (if x2 = (1996896363 : Int64) then ((M_lineRedistribute_b32 t)) else ((some ((2 : Int32), t)))))))))
set_option maxRecDepth 100000 in
set_option maxHeartbeats 4000000 in
theorem k_lineRedistribute (base : Nat) (sa : Nat → Nat) {C : Nat × Nat} {R : pmM} {m : Nat} {q : Nat → Nat} {t tz : moS} {kc ks : Nat} {Rt : pmR}  {r : Int32} (hw : mW C R base m q t kc ks) (h : M_lineRedistribute t = (some (r, tz))) (k : mW C R base m q tz kc ks → Rt (some (.int r)) (moM R m q tz) kc ks) : kP_Mo_lineRedistribute base sa [.ref m] (moM R m q t) kc ks Rt := by
  refine ⟨Nat.le_of_ble_eq_true rfl, fun G hG => ?_⟩
  have b225 : ∀ (u1 : Int32) (u2 : Int32) (t : moS), JJ C R base m G 225 [] [.int u2, .int u1, .ref (q 69)] q t kc ks (M_lineRedistribute_b225 t u1 u2) (some (r, tz)) := by
    intro u1 u2 t
    refine jj_is hG (k := 69) rfl rfl rfl (fun s1 => ?_)
    refine jj_ic hG rfl cc_i0 ?_
    exact jj_riS hG rfl rfl rfl k
  have b205 : ∀ (a2 : Int32) (a4 : Int32) (u1 : Int32) (u2 : Int32) (t : moS), JJ C R base m G 205 [(0, .ref m), (2, .int a2), (4, .int a4)] [.int u2, .int u1, .ref (q 68)] q t kc ks (M_lineRedistribute_b205 t a2 a4 u1 u2) (some (r, tz)) := by
    intro a2 a4 u1 u2 t
    refine jj_is hG (k := 68) rfl rfl rfl (fun s1 => ?_)
    refine jjs hG rfl rfl ?_
    refine jj_gr hG (k := 69) rfl rfl rfl rfl ?_
    refine jjs hG rfl rfl ?_
    refine jjs hG rfl rfl ?_
    refine jj_zle hG (t := 224) rfl rfl ?_ ?_
    · refine jj_ic hG rfl cc_im1 ?_
      exact jj_wl hG [] rfl (b225 _ _ _)
    refine jjs hG rfl rfl ?_
    refine jjs hG rfl rfl ?_
    refine jj_cp hG 0 rfl rfl (Nat.le_of_ble_eq_true rfl) (by decide) (Nat.le_of_ble_eq_true rfl) rfl (st' := [.int a4, .ref (q 69)]) rfl (w := .int) (fun _ _ hw h k => pm_rcv_of moM_m (k_number base sa hw h k)) (fun x2 => ?_)
    refine jj_go hG (t := 225) rfl rfl ?_
    exact jj_wl hG [] rfl (b225 _ _ _)
  have b159 : ∀ (a2 : Int32) (u0 : Int32) (u1 : Int32) (t : moS), JJ C R base m G 159 [(0, .ref m), (2, .int a2)] [.int u1, .int u0] q t kc ks (M_lineRedistribute_b159 t a2 u0 u1) (some (r, tz)) := by
    intro a2 u0 u1 t
    refine jjs hG rfl rfl ?_
    refine jjc hG rfl rfl (Nat.le_of_ble_eq_true rfl) ?_
    refine jjs hG rfl rfl ?_
    refine jj_gr hG (k := 68) rfl rfl rfl rfl ?_
    refine jjs hG rfl rfl ?_
    refine jjs hG rfl rfl ?_
    refine jj_ic hG rfl cc_i3 ?_
    refine jj_cp hG 0 rfl rfl (Nat.le_of_ble_eq_true rfl) (by decide) (Nat.le_of_ble_eq_true rfl) rfl (st' := [.int (u0 + u1), .ref (q 68)]) rfl (w := .long) (fun _ _ hw h k => pm_rcv_of moM_m (k_code base sa hw h k)) (fun x1 => ?_)
    refine jj_l2 hG (v := (24934 : Int64)) rfl rfl ?_
    refine jjs hG rfl rfl ?_
    refine jj_lne hG (t := 184) rfl rfl ?_ ?_
    · refine jjs hG rfl rfl ?_
      refine jj_ic hG rfl cc_i3 ?_
      refine jj_cp hG 0 rfl rfl (Nat.le_of_ble_eq_true rfl) (by decide) (Nat.le_of_ble_eq_true rfl) rfl (st' := [.int (u0 + u1), .ref (q 68)]) rfl (w := .long) (fun _ _ hw h k => pm_rcv_of moM_m (k_code base sa hw h k)) (fun x2 => ?_)
      refine jj_l2 hG (v := (24246 : Int64)) rfl rfl ?_
      refine jjs hG rfl rfl ?_
      refine jj_lne hG (t := 200) rfl rfl ?_ ?_
      · refine jjs hG rfl rfl ?_
        refine jj_ic hG rfl cc_i3 ?_
        refine jj_cp hG 0 rfl rfl (Nat.le_of_ble_eq_true rfl) (by decide) (Nat.le_of_ble_eq_true rfl) rfl (st' := [.int (u0 + u1), .ref (q 68)]) rfl (w := .int) (fun _ _ hw h k => pm_rcv_of moM_m (k_number base sa hw h k)) (fun x3 => ?_)
        exact jj_wl hG [1, 2, 0] rfl (b205 _ _ _ _ _)
      refine jj_ic hG rfl cc_i0 ?_
      refine jj_go hG (t := 205) rfl rfl ?_
      exact jj_wl hG [1, 2, 0] rfl (b205 _ _ _ _ _)
    refine jj_ic hG rfl cc_im1 ?_
    refine jj_go hG (t := 205) rfl rfl ?_
    exact jj_wl hG [1, 2, 0] rfl (b205 _ _ _ _ _)
  have b139 : ∀ (a1 : Int32) (a2 : Int32) (t : moS), JJ C R base m G 139 [(0, .ref m), (1, .int a1), (2, .int a2)] [] q t kc ks (M_lineRedistribute_b139 t a1 a2) (some (r, tz)) := by
    intro a1 a2 t
    refine jj_ic hG rfl cc_i2 ?_
    refine jjs hG rfl rfl ?_
    refine jjs hG rfl rfl ?_
    refine jjs hG rfl rfl ?_
    refine jj_ic hG rfl cc_i2 ?_
    refine jj_cp hG 0 rfl rfl (Nat.le_of_ble_eq_true rfl) (by decide) (Nat.le_of_ble_eq_true rfl) rfl (st' := [.int ((2 : Int32) * a1)]) rfl (w := .long) (fun _ _ hw h k => pm_rcv_of moM_m (k_code base sa hw h k)) (fun x1 => ?_)
    refine jj_l2 hG (v := (22177190624204 : Int64)) rfl rfl ?_
    refine jjs hG rfl rfl ?_
    refine jj_lne hG (t := 158) rfl rfl ?_ ?_
    · refine jj_ic hG rfl cc_i1 ?_
      exact jj_wl hG [0, 2] rfl (b159 _ _ _ _)
    refine jj_ic hG rfl cc_i0 ?_
    refine jj_go hG (t := 159) rfl rfl ?_
    exact jj_wl hG [0, 2] rfl (b159 _ _ _ _)
  have b121 : ∀ (a1 : Int32) (a2 : Int32) (t : moS), JJ C R base m G 121 [(0, .ref m), (1, .int a1), (2, .int a2)] [] q t kc ks (M_lineRedistribute_b121 t a1 a2) (some (r, tz)) := by
    intro a1 a2 t
    refine jjs hG rfl rfl ?_
    refine jj_zle hG (t := 139) rfl rfl ?_ ?_
    · exact jj_wl hG [0, 1, 2] rfl (b139 _ _ _)
    refine jjs hG rfl rfl ?_
    refine jjs hG rfl rfl ?_
    refine jj_ic hG rfl cc_i0 ?_
    refine jj_lw hG (v := (65535 : Int32)) rfl rfl ?_
    refine jj_cp hG 0 rfl rfl (Nat.le_of_ble_eq_true rfl) (by decide) (Nat.le_of_ble_eq_true rfl) rfl (st' := []) rfl (w := .int) (fun _ _ hw h k => pm_rcv_of moM_m (k_isNumber base sa hw h k)) (fun x1 => ?_)
    refine jj_zne hG (t := 139) rfl rfl ?_ ?_
    · exact jj_wl hG [0, 1, 2] rfl (b139 _ _ _)
    refine jj_ic hG rfl cc_i4 ?_
    exact jj_riS hG rfl rfl rfl k
  have b105 : ∀ (a1 : Int32) (a2 : Int32) (u0 : Int32) (t : moS), JJ C R base m G 105 [(0, .ref m), (1, .int a1), (2, .int a2)] [.int u0] q t kc ks (M_lineRedistribute_b105 t a1 a2 u0) (some (r, tz)) := by
    intro a1 a2 u0 t
    refine jjc hG rfl rfl (Nat.le_of_ble_eq_true rfl) ?_
    refine jjs hG rfl rfl ?_
    refine jj_zne hG (t := 121) rfl rfl ?_ ?_
    · exact jj_wl hG [1, 2, 3] rfl (b121 _ _ _)
    refine jjs hG rfl rfl ?_
    refine jj_ic hG rfl cc_i3 ?_
    refine jj_ic hG rfl cc_i1 ?_
    refine jj_bi hG rfl cc_b15 ?_
    refine jj_cp hG 0 rfl rfl (Nat.le_of_ble_eq_true rfl) (by decide) (Nat.le_of_ble_eq_true rfl) rfl (st' := []) rfl (w := .int) (fun _ _ hw h k => pm_rcv_of moM_m (k_isNumber base sa hw h k)) (fun x1 => ?_)
    refine jj_zeq hG (t := 137) rfl rfl ?_ ?_
    · refine jj_ic hG rfl cc_i4 ?_
      exact jj_riS hG rfl rfl rfl k
    exact jj_wl hG [1, 2, 3] rfl (b121 _ _ _)
  have b100 : ∀ (a1 : Int32) (a2 : Int32) (t : moS), JJ C R base m G 100 [(0, .ref m), (1, .int a1), (2, .int a2)] [] q t kc ks (M_lineRedistribute_b100 t a1 a2) (some (r, tz)) := by
    intro a1 a2 t
    refine jj_ic hG rfl cc_i1 ?_
    refine jj_go hG (t := 105) rfl rfl ?_
    exact jj_wl hG [0, 1, 2] rfl (b105 _ _ _ _)
  have b32 : ∀ (t : moS), JJ C R base m G 32 [(0, .ref m)] [] q t kc ks (M_lineRedistribute_b32 t) (some (r, tz)) := by
    intro t
    refine jjs hG rfl rfl ?_
    refine jj_ic hG rfl cc_i4 ?_
    refine jj_l2 hG (v := (32047 : Int64)) rfl rfl ?_
    refine jj_lc hG (c := 0) (v := 0) rfl rfl ?_
    refine jj_lc hG (c := 0) (v := 0) rfl rfl ?_
    refine jj_lc hG (c := 0) (v := 0) rfl rfl ?_
    refine jj_lc hG (c := 0) (v := 0) rfl rfl ?_
    refine jj_lc hG (c := 0) (v := 0) rfl rfl ?_
    refine jj_cp hG 0 rfl rfl (Nat.le_of_ble_eq_true rfl) (by decide) (Nat.le_of_ble_eq_true rfl) rfl (st' := []) rfl (w := .int) (fun _ _ hw h k => pm_rcv_of moM_m (k_areOptions base sa hw h k)) (fun x1 => ?_)
    refine jj_zne hG (t := 50) rfl rfl ?_ ?_
    · refine jjs hG rfl rfl ?_
      refine jjs hG rfl rfl ?_
      refine jj_ic hG rfl cc_i1 ?_
      refine jj_cp hG 0 rfl rfl (Nat.le_of_ble_eq_true rfl) (by decide) (Nat.le_of_ble_eq_true rfl) rfl (st' := [.ref m]) rfl (w := .long) (fun _ _ hw h k => pm_rcv_of moM_m (k_name base sa hw h k)) (fun x2 => ?_)
      refine jj_cp hG 0 rfl rfl (Nat.le_of_ble_eq_true rfl) (by decide) (Nat.le_of_ble_eq_true rfl) rfl (st' := []) rfl (w := .int) (fun _ _ hw h k => pm_rcv_of moM_m (k_routerNamed base sa hw h k)) (fun x3 => ?_)
      refine jjc hG rfl rfl (Nat.le_of_ble_eq_true rfl) ?_
      refine jjs hG rfl rfl ?_
      refine jj_ic hG rfl cc_im1 ?_
      refine jj_ine hG (t := 67) rfl rfl ?_ ?_
      · refine jjs hG rfl rfl ?_
        refine jj_l2 hG (v := (32047 : Int64)) rfl rfl ?_
        refine jj_ic hG rfl cc_i4 ?_
        refine jj_cp hG 0 rfl rfl (Nat.le_of_ble_eq_true rfl) (by decide) (Nat.le_of_ble_eq_true rfl) rfl (st' := []) rfl (w := .int) (fun _ _ hw h k => pm_rcv_of moM_m (k_option base sa hw h k)) (fun x4 => ?_)
        refine jjc hG rfl rfl (Nat.le_of_ble_eq_true rfl) ?_
        refine jjs hG rfl rfl ?_
        refine jj_ic hG rfl cc_i3 ?_
        refine jj_cp hG 0 rfl rfl (Nat.le_of_ble_eq_true rfl) (by decide) (Nat.le_of_ble_eq_true rfl) rfl (st' := []) rfl (w := .long) (fun _ _ hw h k => pm_rcv_of moM_m (k_code base sa hw h k)) (fun x5 => ?_)
        refine jj_l2 hG (v := (24934 : Int64)) rfl rfl ?_
        refine jjs hG rfl rfl ?_
        refine jj_leq hG (t := 100) rfl rfl ?_ ?_
        · exact jj_wl hG [2, 1, 0] rfl (b100 _ _ _)
        refine jjs hG rfl rfl ?_
        refine jj_ic hG rfl cc_i3 ?_
        refine jj_cp hG 0 rfl rfl (Nat.le_of_ble_eq_true rfl) (by decide) (Nat.le_of_ble_eq_true rfl) rfl (st' := []) rfl (w := .long) (fun _ _ hw h k => pm_rcv_of moM_m (k_code base sa hw h k)) (fun x6 => ?_)
        refine jj_l2 hG (v := (24246 : Int64)) rfl rfl ?_
        refine jjs hG rfl rfl ?_
        refine jj_lne hG (t := 104) rfl rfl ?_ ?_
        · refine jj_ic hG rfl cc_i0 ?_
          exact jj_wl hG [2, 1, 0] rfl (b105 _ _ _ _)
        exact jj_wl hG [2, 1, 0] rfl (b100 _ _ _)
      refine jj_ic hG rfl cc_i3 ?_
      exact jj_riS hG rfl rfl rfl k
    refine jj_ic hG rfl cc_i2 ?_
    exact jj_riS hG rfl rfl rfl k
  refine (show JJ C R base m G 0 [(0, .ref m)] [] q t kc ks (M_lineRedistribute t) (some (r, tz)) from ?_) hw h
  refine jjs hG rfl rfl ?_
  refine jj_gi hG (k := 11) rfl rfl rfl rfl ?_
  refine jj_ic hG rfl cc_i4 ?_
  refine jj_ilt hG (t := 48) rfl rfl ?_ ?_
  · refine jj_ic hG rfl cc_i2 ?_
    exact jj_riS hG rfl rfl rfl k
  refine jjs hG rfl rfl ?_
  refine jj_ic hG rfl cc_i2 ?_
  refine jj_cp hG 0 rfl rfl (Nat.le_of_ble_eq_true rfl) (by decide) (Nat.le_of_ble_eq_true rfl) rfl (st' := []) rfl (w := .long) (fun _ _ hw h k => pm_rcv_of moM_m (k_code base sa hw h k)) (fun x1 => ?_)
  refine jj_l2 hG (v := (22177190624204 : Int64)) rfl rfl ?_
  refine jjs hG rfl rfl ?_
  refine jj_leq hG (t := 32) rfl rfl ?_ ?_
  · exact jj_wl hG [0] rfl (b32 _)
  refine jjs hG rfl rfl ?_
  refine jj_ic hG rfl cc_i2 ?_
  refine jj_cp hG 0 rfl rfl (Nat.le_of_ble_eq_true rfl) (by decide) (Nat.le_of_ble_eq_true rfl) rfl (st' := []) rfl (w := .long) (fun _ _ hw h k => pm_rcv_of moM_m (k_code base sa hw h k)) (fun x2 => ?_)
  refine jj_l2 hG (v := (1996896363 : Int64)) rfl rfl ?_
  refine jjs hG rfl rfl ?_
  refine jj_lne hG (t := 48) rfl rfl ?_ ?_
  · refine jj_ic hG rfl cc_i2 ?_
    exact jj_riS hG rfl rfl rfl k
  exact jj_wl hG [0] rfl (b32 _)
noncomputable def M_lineDefault_b132 (t : moS) (u1 : Int32) (u2 : Int32) : Option (Int32 × moS) := Option.bind (wrZ t 100 u1 u2) (fun s1 => ((some ((0 : Int32), s1))))
noncomputable def M_lineDefault_b113 (t : moS) (a1 : Int32) (u1 : Int32) (u2 : Int32) : Option (Int32 × moS) := Option.bind (wrI t 99 u1 u2) (fun s1 => (if (moS.S s1 11) = (5 : Int32) then ((M_lineDefault_b132 s1 a1 (1 : Int32))) else ((M_lineDefault_b132 s1 a1 (0 : Int32)))))
noncomputable def M_lineDefault_b87 (t : moS) (a1 : Int32) : Option (Int32 × moS) := Option.bind (M_code t (3 : Int32)) (fun x1 => (if x1 = (24246 : Int64) then ((M_lineDefault_b113 t a1 a1 (0 : Int32))) else (Option.bind (M_number t (3 : Int32)) (fun x2 => ((M_lineDefault_b113 t a1 a1 x2))))))
noncomputable def M_lineDefault_b50 (t : moS) : Option (Int32 × moS) := Option.bind (M_interfaceWords t) (fun x1 => (if x1 = ((-1) : Int32) then ((some ((3 : Int32), t))) else (Option.bind (M_code t (3 : Int32)) (fun x2 => (if x2 = (24246 : Int64) then ((M_lineDefault_b87 t x1)) else (Option.bind (M_isNumber t (3 : Int32) (1 : Int32) (15 : Int32)) (fun x3 => (if x3 = 0 then ((some ((4 : Int32), t))) else ((M_lineDefault_b87 t x1))))))))))
noncomputable def M_lineDefault (t : moS) : Option (Int32 × moS) := if (moS.S t 11) < (4 : Int32) then ((some ((2 : Int32), t))) else (if (5 : Int32) < (moS.S t 11) then ((some ((2 : Int32), t))) else (if (moS.S t 11) = (5 : Int32) then (Option.bind (M_code t (4 : Int32)) (fun x1 => (if x1 = (982905 : Int64) then (Option.bind (M_code t (3 : Int32)) (fun x2 => (if x2 = (24246 : Int64) then ((some ((2 : Int32), t))) else ((M_lineDefault_b50 t))))) else ((some ((2 : Int32), t)))))) else ((M_lineDefault_b50 t))))
set_option maxRecDepth 100000 in
set_option maxHeartbeats 4000000 in
theorem k_lineDefault (base : Nat) (sa : Nat → Nat) {C : Nat × Nat} {R : pmM} {m : Nat} {q : Nat → Nat} {t tz : moS} {kc ks : Nat} {Rt : pmR}  {r : Int32} (hw : mW C R base m q t kc ks) (h : M_lineDefault t = (some (r, tz))) (k : mW C R base m q tz kc ks → Rt (some (.int r)) (moM R m q tz) kc ks) : kP_Mo_lineDefault base sa [.ref m] (moM R m q t) kc ks Rt := by
  refine ⟨Nat.le_of_ble_eq_true rfl, fun G hG => ?_⟩
  have b132 : ∀ (u1 : Int32) (u2 : Int32) (t : moS), JJ C R base m G 132 [] [.int u2, .int u1, .ref (q 100)] q t kc ks (M_lineDefault_b132 t u1 u2) (some (r, tz)) := by
    intro u1 u2 t
    refine jj_bs hG (k := 100) rfl rfl rfl (fun s1 => ?_)
    refine jj_ic hG rfl cc_i0 ?_
    exact jj_riS hG rfl rfl rfl k
  have b113 : ∀ (a1 : Int32) (u1 : Int32) (u2 : Int32) (t : moS), JJ C R base m G 113 [(0, .ref m), (1, .int a1)] [.int u2, .int u1, .ref (q 99)] q t kc ks (M_lineDefault_b113 t a1 u1 u2) (some (r, tz)) := by
    intro a1 u1 u2 t
    refine jj_is hG (k := 99) rfl rfl rfl (fun s1 => ?_)
    refine jjs hG rfl rfl ?_
    refine jj_gr hG (k := 100) rfl rfl rfl rfl ?_
    refine jjs hG rfl rfl ?_
    refine jjs hG rfl rfl ?_
    refine jj_gi hG (k := 11) rfl rfl rfl rfl ?_
    refine jj_ic hG rfl cc_i5 ?_
    refine jj_ine hG (t := 131) rfl rfl ?_ ?_
    · refine jj_ic hG rfl cc_i0 ?_
      exact jj_wl hG [] rfl (b132 _ _ _)
    refine jj_ic hG rfl cc_i1 ?_
    refine jj_go hG (t := 132) rfl rfl ?_
    exact jj_wl hG [] rfl (b132 _ _ _)
  have b87 : ∀ (a1 : Int32) (t : moS), JJ C R base m G 87 [(0, .ref m), (1, .int a1)] [] q t kc ks (M_lineDefault_b87 t a1) (some (r, tz)) := by
    intro a1 t
    refine jjs hG rfl rfl ?_
    refine jj_gr hG (k := 99) rfl rfl rfl rfl ?_
    refine jjs hG rfl rfl ?_
    refine jjs hG rfl rfl ?_
    refine jj_ic hG rfl cc_i3 ?_
    refine jj_cp hG 0 rfl rfl (Nat.le_of_ble_eq_true rfl) (by decide) (Nat.le_of_ble_eq_true rfl) rfl (st' := [.int a1, .ref (q 99)]) rfl (w := .long) (fun _ _ hw h k => pm_rcv_of moM_m (k_code base sa hw h k)) (fun x1 => ?_)
    refine jj_l2 hG (v := (24246 : Int64)) rfl rfl ?_
    refine jjs hG rfl rfl ?_
    refine jj_lne hG (t := 108) rfl rfl ?_ ?_
    · refine jjs hG rfl rfl ?_
      refine jj_ic hG rfl cc_i3 ?_
      refine jj_cp hG 0 rfl rfl (Nat.le_of_ble_eq_true rfl) (by decide) (Nat.le_of_ble_eq_true rfl) rfl (st' := [.int a1, .ref (q 99)]) rfl (w := .int) (fun _ _ hw h k => pm_rcv_of moM_m (k_number base sa hw h k)) (fun x2 => ?_)
      exact jj_wl hG [0, 1] rfl (b113 _ _ _ _)
    refine jj_ic hG rfl cc_i0 ?_
    refine jj_go hG (t := 113) rfl rfl ?_
    exact jj_wl hG [0, 1] rfl (b113 _ _ _ _)
  have b50 : ∀ (t : moS), JJ C R base m G 50 [(0, .ref m)] [] q t kc ks (M_lineDefault_b50 t) (some (r, tz)) := by
    intro t
    refine jjs hG rfl rfl ?_
    refine jj_cp hG 0 rfl rfl (Nat.le_of_ble_eq_true rfl) (by decide) (Nat.le_of_ble_eq_true rfl) rfl (st' := []) rfl (w := .int) (fun _ _ hw h k => pm_rcv_of moM_m (k_interfaceWords base sa hw h k)) (fun x1 => ?_)
    refine jjc hG rfl rfl (Nat.le_of_ble_eq_true rfl) ?_
    refine jjs hG rfl rfl ?_
    refine jj_ic hG rfl cc_im1 ?_
    refine jj_ine hG (t := 62) rfl rfl ?_ ?_
    · refine jjs hG rfl rfl ?_
      refine jj_ic hG rfl cc_i3 ?_
      refine jj_cp hG 0 rfl rfl (Nat.le_of_ble_eq_true rfl) (by decide) (Nat.le_of_ble_eq_true rfl) rfl (st' := []) rfl (w := .long) (fun _ _ hw h k => pm_rcv_of moM_m (k_code base sa hw h k)) (fun x2 => ?_)
      refine jj_l2 hG (v := (24246 : Int64)) rfl rfl ?_
      refine jjs hG rfl rfl ?_
      refine jj_leq hG (t := 87) rfl rfl ?_ ?_
      · exact jj_wl hG [1, 0] rfl (b87 _ _)
      refine jjs hG rfl rfl ?_
      refine jj_ic hG rfl cc_i3 ?_
      refine jj_ic hG rfl cc_i1 ?_
      refine jj_bi hG rfl cc_b15 ?_
      refine jj_cp hG 0 rfl rfl (Nat.le_of_ble_eq_true rfl) (by decide) (Nat.le_of_ble_eq_true rfl) rfl (st' := []) rfl (w := .int) (fun _ _ hw h k => pm_rcv_of moM_m (k_isNumber base sa hw h k)) (fun x3 => ?_)
      refine jj_zne hG (t := 87) rfl rfl ?_ ?_
      · exact jj_wl hG [1, 0] rfl (b87 _ _)
      refine jj_ic hG rfl cc_i4 ?_
      exact jj_riS hG rfl rfl rfl k
    refine jj_ic hG rfl cc_i3 ?_
    exact jj_riS hG rfl rfl rfl k
  refine (show JJ C R base m G 0 [(0, .ref m)] [] q t kc ks (M_lineDefault t) (some (r, tz)) from ?_) hw h
  refine jjs hG rfl rfl ?_
  refine jj_gi hG (k := 11) rfl rfl rfl rfl ?_
  refine jj_ic hG rfl cc_i4 ?_
  refine jj_ilt hG (t := 48) rfl rfl ?_ ?_
  · refine jj_ic hG rfl cc_i2 ?_
    exact jj_riS hG rfl rfl rfl k
  refine jjs hG rfl rfl ?_
  refine jj_gi hG (k := 11) rfl rfl rfl rfl ?_
  refine jj_ic hG rfl cc_i5 ?_
  refine jj_igt hG (t := 48) rfl rfl ?_ ?_
  · refine jj_ic hG rfl cc_i2 ?_
    exact jj_riS hG rfl rfl rfl k
  refine jjs hG rfl rfl ?_
  refine jj_gi hG (k := 11) rfl rfl rfl rfl ?_
  refine jj_ic hG rfl cc_i5 ?_
  refine jj_ine hG (t := 50) rfl rfl ?_ ?_
  · exact jj_wl hG [0] rfl (b50 _)
  refine jjs hG rfl rfl ?_
  refine jj_ic hG rfl cc_i4 ?_
  refine jj_cp hG 0 rfl rfl (Nat.le_of_ble_eq_true rfl) (by decide) (Nat.le_of_ble_eq_true rfl) rfl (st' := []) rfl (w := .long) (fun _ _ hw h k => pm_rcv_of moM_m (k_code base sa hw h k)) (fun x1 => ?_)
  refine jj_l2 hG (v := (982905 : Int64)) rfl rfl ?_
  refine jjs hG rfl rfl ?_
  refine jj_lne hG (t := 48) rfl rfl ?_ ?_
  · refine jj_ic hG rfl cc_i2 ?_
    exact jj_riS hG rfl rfl rfl k
  refine jjs hG rfl rfl ?_
  refine jj_ic hG rfl cc_i3 ?_
  refine jj_cp hG 0 rfl rfl (Nat.le_of_ble_eq_true rfl) (by decide) (Nat.le_of_ble_eq_true rfl) rfl (st' := []) rfl (w := .long) (fun _ _ hw h k => pm_rcv_of moM_m (k_code base sa hw h k)) (fun x2 => ?_)
  refine jj_l2 hG (v := (24246 : Int64)) rfl rfl ?_
  refine jjs hG rfl rfl ?_
  refine jj_lne hG (t := 50) rfl rfl ?_ ?_
  · exact jj_wl hG [0] rfl (b50 _)
  refine jj_ic hG rfl cc_i2 ?_
  exact jj_riS hG rfl rfl rfl k
noncomputable def M_lineTimers_s29 (t : moS) (a1 : Int32) (a2 : Int32) : Option ((Int32 × moS) ⊕ (Int32 × moS)) := if a2 < (5 : Int32) then (Option.bind (M_isNumber t a2 (1 : Int32) (1000 : Int32)) (fun x7 => (if x7 = 0 then ((xo ((some ((4 : Int32), t))))) else ((some (.inl ((a2 + (1 : Int32)), t))))))) else ((xo (Option.bind (M_number t (2 : Int32)) (fun x1 => (Option.bind (wrI t 40 a1 x1) (fun s2 => (Option.bind (M_number s2 (3 : Int32)) (fun x3 => (Option.bind (wrI s2 41 a1 x3) (fun s4 => (Option.bind (M_number s4 (4 : Int32)) (fun x5 => (Option.bind (wrI s4 42 a1 x5) (fun s6 => ((some ((0 : Int32), s6)))))))))))))))))
noncomputable def M_lineTimers_b29 (t : moS) (a1 : Int32) (a2 : Int32) : Option (Int32 × moS) := lp (fun x => M_lineTimers_s29 x.2 a1 x.1) (a2, t)
noncomputable def M_lineTimers (t : moS) : Option (Int32 × moS) := if (moS.S t 11) = (5 : Int32) then (Option.bind (M_name t (1 : Int32)) (fun x1 => (Option.bind (M_routerNamed t x1) (fun x2 => (if x2 = ((-1) : Int32) then ((some ((3 : Int32), t))) else ((M_lineTimers_b29 t x2 (2 : Int32)))))))) else ((some ((2 : Int32), t)))
set_option maxRecDepth 100000 in
set_option maxHeartbeats 4000000 in
theorem k_lineTimers (base : Nat) (sa : Nat → Nat) {C : Nat × Nat} {R : pmM} {m : Nat} {q : Nat → Nat} {t tz : moS} {kc ks : Nat} {Rt : pmR}  {r : Int32} (hw : mW C R base m q t kc ks) (h : M_lineTimers t = (some (r, tz))) (k : mW C R base m q tz kc ks → Rt (some (.int r)) (moM R m q tz) kc ks) : kP_Mo_lineTimers base sa [.ref m] (moM R m q t) kc ks Rt := by
  refine ⟨Nat.le_of_ble_eq_true rfl, fun G hG => ?_⟩
  have b29 : ∀ (a1 : Int32) (n : Nat) (a2 : Int32) (t : moS), JJ C R base m G 29 [(0, .ref m), (1, .int a1), (2, .int a2)] [] q t kc ks (lpN (fun x => M_lineTimers_s29 x.2 a1 x.1) n (a2, t)) (some (r, tz)) := by
    intro a1 n
    induction n with
    | zero => intro a2 t; exact jj_lp0
    | succ n ih29 =>
      intro a2 t
      refine jj_lpS (fun y29 c29 => ?_)
      refine (show JJ C R base m G 29 [(0, .ref m), (1, .int a1), (2, .int a2)] [] q t kc ks (M_lineTimers_s29 t a1 a2) (some y29) from ?_)
      refine jjs hG rfl rfl ?_
      refine jj_ic hG rfl cc_i5 ?_
      refine jj_ige hG (t := 54) rfl rfl ?_ ?_
      · refine jj_exit c29 ?_
        refine jjs hG rfl rfl ?_
        refine jj_gr hG (k := 40) rfl rfl rfl rfl ?_
        refine jjs hG rfl rfl ?_
        refine jjs hG rfl rfl ?_
        refine jj_ic hG rfl cc_i2 ?_
        refine jj_cp hG 0 rfl rfl (Nat.le_of_ble_eq_true rfl) (by decide) (Nat.le_of_ble_eq_true rfl) rfl (st' := [.int a1, .ref (q 40)]) rfl (w := .int) (fun _ _ hw h k => pm_rcv_of moM_m (k_number base sa hw h k)) (fun x1 => ?_)
        refine jj_is hG (k := 40) rfl rfl rfl (fun s2 => ?_)
        refine jjs hG rfl rfl ?_
        refine jj_gr hG (k := 41) rfl rfl rfl rfl ?_
        refine jjs hG rfl rfl ?_
        refine jjs hG rfl rfl ?_
        refine jj_ic hG rfl cc_i3 ?_
        refine jj_cp hG 0 rfl rfl (Nat.le_of_ble_eq_true rfl) (by decide) (Nat.le_of_ble_eq_true rfl) rfl (st' := [.int a1, .ref (q 41)]) rfl (w := .int) (fun _ _ hw h k => pm_rcv_of moM_m (k_number base sa hw h k)) (fun x3 => ?_)
        refine jj_is hG (k := 41) rfl rfl rfl (fun s4 => ?_)
        refine jjs hG rfl rfl ?_
        refine jj_gr hG (k := 42) rfl rfl rfl rfl ?_
        refine jjs hG rfl rfl ?_
        refine jjs hG rfl rfl ?_
        refine jj_ic hG rfl cc_i4 ?_
        refine jj_cp hG 0 rfl rfl (Nat.le_of_ble_eq_true rfl) (by decide) (Nat.le_of_ble_eq_true rfl) rfl (st' := [.int a1, .ref (q 42)]) rfl (w := .int) (fun _ _ hw h k => pm_rcv_of moM_m (k_number base sa hw h k)) (fun x5 => ?_)
        refine jj_is hG (k := 42) rfl rfl rfl (fun s6 => ?_)
        refine jj_ic hG rfl cc_i0 ?_
        exact jj_riS hG rfl rfl rfl k
      refine jjs hG rfl rfl ?_
      refine jjs hG rfl rfl ?_
      refine jj_ic hG rfl cc_i1 ?_
      refine jj_si hG rfl cc_s1000 ?_
      refine jj_cp hG 0 rfl rfl (Nat.le_of_ble_eq_true rfl) (by decide) (Nat.le_of_ble_eq_true rfl) rfl (st' := []) rfl (w := .int) (fun _ _ hw h k => pm_rcv_of moM_m (k_isNumber base sa hw h k)) (fun x7 => ?_)
      refine jj_zne hG (t := 48) rfl rfl ?_ ?_
      · refine jj_inc hG rfl (Nat.le_of_ble_eq_true rfl) rfl cc_i1 ?_
        refine jj_go hG (t := 29) rfl rfl ?_
        exact jj_back c29 (jj_wl hG [1, 2, 0] rfl (ih29 _ _))
      refine jj_exit c29 ?_
      refine jj_ic hG rfl cc_i4 ?_
      exact jj_riS hG rfl rfl rfl k
  refine (show JJ C R base m G 0 [(0, .ref m)] [] q t kc ks (M_lineTimers t) (some (r, tz)) from ?_) hw h
  refine jjs hG rfl rfl ?_
  refine jj_gi hG (k := 11) rfl rfl rfl rfl ?_
  refine jj_ic hG rfl cc_i5 ?_
  refine jj_ieq hG (t := 10) rfl rfl ?_ ?_
  · refine jjs hG rfl rfl ?_
    refine jjs hG rfl rfl ?_
    refine jj_ic hG rfl cc_i1 ?_
    refine jj_cp hG 0 rfl rfl (Nat.le_of_ble_eq_true rfl) (by decide) (Nat.le_of_ble_eq_true rfl) rfl (st' := [.ref m]) rfl (w := .long) (fun _ _ hw h k => pm_rcv_of moM_m (k_name base sa hw h k)) (fun x1 => ?_)
    refine jj_cp hG 0 rfl rfl (Nat.le_of_ble_eq_true rfl) (by decide) (Nat.le_of_ble_eq_true rfl) rfl (st' := []) rfl (w := .int) (fun _ _ hw h k => pm_rcv_of moM_m (k_routerNamed base sa hw h k)) (fun x2 => ?_)
    refine jjc hG rfl rfl (Nat.le_of_ble_eq_true rfl) ?_
    refine jjs hG rfl rfl ?_
    refine jj_ic hG rfl cc_im1 ?_
    refine jj_ine hG (t := 27) rfl rfl ?_ ?_
    · refine jj_ic hG rfl cc_i2 ?_
      refine jjc hG rfl rfl (Nat.le_of_ble_eq_true rfl) ?_
      refine jj_lp (fun n => ?_)
      exact jj_wl hG [2, 1, 0] rfl (b29 _ n _ _)
    refine jj_ic hG rfl cc_i3 ?_
    exact jj_riS hG rfl rfl rfl k
  refine jj_ic hG rfl cc_i2 ?_
  exact jj_riS hG rfl rfl rfl k
noncomputable def M_line (t : moS) : Option (Int32 × moS) := Option.bind (M_code t (0 : Int32)) (fun x1 => (if x1 = (782971 : Int64) then (bn2 (M_lineLink t) (fun x33 s32 => ((some (x33, s32))))) else (if x1 = (1882976218 : Int64) then (bn2 (M_lineRouter t) (fun x31 s30 => ((some (x31, s30))))) else (if x1 = (664374 : Int64) then (bn2 (M_lineJoin t) (fun x29 s28 => ((some (x29, s28))))) else (if x1 = (17825 : Int64) then (bn2 (M_lineKey t) (fun x27 s26 => ((some (x27, s26))))) else (if x1 = (36817825 : Int64) then (bn2 (M_lineNokey t) (fun x25 s24 => ((some (x25, s24))))) else (if x1 = (1996896363 : Int64) then (bn2 (M_lineStatic t) (fun x23 s22 => ((some (x23, s22))))) else (if x1 = (2357196896363 : Int64) then (bn2 (M_lineNostatic t) (fun x21 s20 => ((some (x21, s20))))) else (if x1 = (638240218 : Int64) then (bn2 (M_lineFilter t) (fun x19 s18 => ((some (x19, s18))))) else (if x1 = (783180 : Int64) then (bn2 (M_lineList t) (fun x17 s16 => ((some (x17, s16))))) else (if x1 = (1110755146402405 : Int64) then (bn2 (M_lineDistribute t) (fun x15 s14 => ((some (x15, s14))))) else (if x1 = (1551774620 : Int64) then (bn2 (M_lineOffset t) (fun x13 s12 => ((some (x13, s12))))) else (if x1 = (80008514345 : Int64) then (bn2 (M_lineSummary t) (fun x11 s10 => ((some (x11, s10))))) else (if x1 = (2315180035818 : Int64) then (bn2 (M_lineNeighbor t) (fun x9 s8 => ((some (x9, s8))))) else (if x1 = (7603286755146402405 : Int64) then (bn2 (M_lineRedistribute t) (fun x7 s6 => ((some (x7, s6))))) else (if x1 = (16911458100 : Int64) then (bn2 (M_lineDefault t) (fun x5 s4 => ((some (x5, s4))))) else (if x1 = (2071880739 : Int64) then (bn2 (M_lineTimers t) (fun x3 s2 => ((some (x3, s2))))) else ((some ((1 : Int32), t))))))))))))))))))))
set_option maxRecDepth 100000 in
set_option maxHeartbeats 4000000 in
theorem k_line (base : Nat) (sa : Nat → Nat) {C : Nat × Nat} {R : pmM} {m : Nat} {q : Nat → Nat} {t tz : moS} {kc ks : Nat} {Rt : pmR}  {r : Int32} (hw : mW C R base m q t kc ks) (h : M_line t = (some (r, tz))) (k : mW C R base m q tz kc ks → Rt (some (.int r)) (moM R m q tz) kc ks) : kP_Mo_line base sa [.ref m] (moM R m q t) kc ks Rt := by
  refine ⟨Nat.le_of_ble_eq_true rfl, fun G hG => ?_⟩
  refine (show JJ C R base m G 0 [(0, .ref m)] [] q t kc ks (M_line t) (some (r, tz)) from ?_) hw h
  refine jjs hG rfl rfl ?_
  refine jj_ic hG rfl cc_i0 ?_
  refine jj_cp hG 0 rfl rfl (Nat.le_of_ble_eq_true rfl) (by decide) (Nat.le_of_ble_eq_true rfl) rfl (st' := []) rfl (w := .long) (fun _ _ hw h k => pm_rcv_of moM_m (k_code base sa hw h k)) (fun x1 => ?_)
  refine jjc hG rfl rfl (Nat.le_of_ble_eq_true rfl) ?_
  refine jjs hG rfl rfl ?_
  refine jj_l2 hG (v := (782971 : Int64)) rfl rfl ?_
  refine jjs hG rfl rfl ?_
  refine jj_lne hG (t := 19) rfl rfl ?_ ?_
  · refine jjs hG rfl rfl ?_
    refine jj_l2 hG (v := (1882976218 : Int64)) rfl rfl ?_
    refine jjs hG rfl rfl ?_
    refine jj_lne hG (t := 32) rfl rfl ?_ ?_
    · refine jjs hG rfl rfl ?_
      refine jj_l2 hG (v := (664374 : Int64)) rfl rfl ?_
      refine jjs hG rfl rfl ?_
      refine jj_lne hG (t := 45) rfl rfl ?_ ?_
      · refine jjs hG rfl rfl ?_
        refine jj_l2 hG (v := (17825 : Int64)) rfl rfl ?_
        refine jjs hG rfl rfl ?_
        refine jj_lne hG (t := 58) rfl rfl ?_ ?_
        · refine jjs hG rfl rfl ?_
          refine jj_l2 hG (v := (36817825 : Int64)) rfl rfl ?_
          refine jjs hG rfl rfl ?_
          refine jj_lne hG (t := 71) rfl rfl ?_ ?_
          · refine jjs hG rfl rfl ?_
            refine jj_l2 hG (v := (1996896363 : Int64)) rfl rfl ?_
            refine jjs hG rfl rfl ?_
            refine jj_lne hG (t := 84) rfl rfl ?_ ?_
            · refine jjs hG rfl rfl ?_
              refine jj_l2 hG (v := (2357196896363 : Int64)) rfl rfl ?_
              refine jjs hG rfl rfl ?_
              refine jj_lne hG (t := 97) rfl rfl ?_ ?_
              · refine jjs hG rfl rfl ?_
                refine jj_l2 hG (v := (638240218 : Int64)) rfl rfl ?_
                refine jjs hG rfl rfl ?_
                refine jj_lne hG (t := 110) rfl rfl ?_ ?_
                · refine jjs hG rfl rfl ?_
                  refine jj_l2 hG (v := (783180 : Int64)) rfl rfl ?_
                  refine jjs hG rfl rfl ?_
                  refine jj_lne hG (t := 123) rfl rfl ?_ ?_
                  · refine jjs hG rfl rfl ?_
                    refine jj_l2 hG (v := (1110755146402405 : Int64)) rfl rfl ?_
                    refine jjs hG rfl rfl ?_
                    refine jj_lne hG (t := 136) rfl rfl ?_ ?_
                    · refine jjs hG rfl rfl ?_
                      refine jj_l2 hG (v := (1551774620 : Int64)) rfl rfl ?_
                      refine jjs hG rfl rfl ?_
                      refine jj_lne hG (t := 149) rfl rfl ?_ ?_
                      · refine jjs hG rfl rfl ?_
                        refine jj_l2 hG (v := (80008514345 : Int64)) rfl rfl ?_
                        refine jjs hG rfl rfl ?_
                        refine jj_lne hG (t := 162) rfl rfl ?_ ?_
                        · refine jjs hG rfl rfl ?_
                          refine jj_l2 hG (v := (2315180035818 : Int64)) rfl rfl ?_
                          refine jjs hG rfl rfl ?_
                          refine jj_lne hG (t := 175) rfl rfl ?_ ?_
                          · refine jjs hG rfl rfl ?_
                            refine jj_l2 hG (v := (7603286755146402405 : Int64)) rfl rfl ?_
                            refine jjs hG rfl rfl ?_
                            refine jj_lne hG (t := 188) rfl rfl ?_ ?_
                            · refine jjs hG rfl rfl ?_
                              refine jj_l2 hG (v := (16911458100 : Int64)) rfl rfl ?_
                              refine jjs hG rfl rfl ?_
                              refine jj_lne hG (t := 201) rfl rfl ?_ ?_
                              · refine jjs hG rfl rfl ?_
                                refine jj_l2 hG (v := (2071880739 : Int64)) rfl rfl ?_
                                refine jjs hG rfl rfl ?_
                                refine jj_lne hG (t := 216) rfl rfl ?_ ?_
                                · refine jj_ic hG rfl cc_i1 ?_
                                  exact jj_riS hG rfl rfl rfl k
                                refine jjs hG rfl rfl ?_
                                refine jj_cs hG 0 rfl rfl (Nat.le_of_ble_eq_true rfl) (by decide) (Nat.le_of_ble_eq_true rfl) rfl (st' := []) rfl (w := .int) (fun _ _ _ hw h k => pm_rcv_of moM_m (k_lineTimers base sa hw h k)) (fun x3 s2 => ?_)
                                refine jj_go hG (t := 217) rfl rfl ?_
                                exact jj_riS hG rfl rfl rfl k
                              refine jjs hG rfl rfl ?_
                              refine jj_cs hG 0 rfl rfl (Nat.le_of_ble_eq_true rfl) (by decide) (Nat.le_of_ble_eq_true rfl) rfl (st' := []) rfl (w := .int) (fun _ _ _ hw h k => pm_rcv_of moM_m (k_lineDefault base sa hw h k)) (fun x5 s4 => ?_)
                              exact jj_riS hG rfl rfl rfl k
                            refine jjs hG rfl rfl ?_
                            refine jj_cs hG 0 rfl rfl (Nat.le_of_ble_eq_true rfl) (by decide) (Nat.le_of_ble_eq_true rfl) rfl (st' := []) rfl (w := .int) (fun _ _ _ hw h k => pm_rcv_of moM_m (k_lineRedistribute base sa hw h k)) (fun x7 s6 => ?_)
                            exact jj_riS hG rfl rfl rfl k
                          refine jjs hG rfl rfl ?_
                          refine jj_cs hG 0 rfl rfl (Nat.le_of_ble_eq_true rfl) (by decide) (Nat.le_of_ble_eq_true rfl) rfl (st' := []) rfl (w := .int) (fun _ _ _ hw h k => pm_rcv_of moM_m (k_lineNeighbor base sa hw h k)) (fun x9 s8 => ?_)
                          exact jj_riS hG rfl rfl rfl k
                        refine jjs hG rfl rfl ?_
                        refine jj_cs hG 0 rfl rfl (Nat.le_of_ble_eq_true rfl) (by decide) (Nat.le_of_ble_eq_true rfl) rfl (st' := []) rfl (w := .int) (fun _ _ _ hw h k => pm_rcv_of moM_m (k_lineSummary base sa hw h k)) (fun x11 s10 => ?_)
                        exact jj_riS hG rfl rfl rfl k
                      refine jjs hG rfl rfl ?_
                      refine jj_cs hG 0 rfl rfl (Nat.le_of_ble_eq_true rfl) (by decide) (Nat.le_of_ble_eq_true rfl) rfl (st' := []) rfl (w := .int) (fun _ _ _ hw h k => pm_rcv_of moM_m (k_lineOffset base sa hw h k)) (fun x13 s12 => ?_)
                      exact jj_riS hG rfl rfl rfl k
                    refine jjs hG rfl rfl ?_
                    refine jj_cs hG 0 rfl rfl (Nat.le_of_ble_eq_true rfl) (by decide) (Nat.le_of_ble_eq_true rfl) rfl (st' := []) rfl (w := .int) (fun _ _ _ hw h k => pm_rcv_of moM_m (k_lineDistribute base sa hw h k)) (fun x15 s14 => ?_)
                    exact jj_riS hG rfl rfl rfl k
                  refine jjs hG rfl rfl ?_
                  refine jj_cs hG 0 rfl rfl (Nat.le_of_ble_eq_true rfl) (by decide) (Nat.le_of_ble_eq_true rfl) rfl (st' := []) rfl (w := .int) (fun _ _ _ hw h k => pm_rcv_of moM_m (k_lineList base sa hw h k)) (fun x17 s16 => ?_)
                  exact jj_riS hG rfl rfl rfl k
                refine jjs hG rfl rfl ?_
                refine jj_cs hG 0 rfl rfl (Nat.le_of_ble_eq_true rfl) (by decide) (Nat.le_of_ble_eq_true rfl) rfl (st' := []) rfl (w := .int) (fun _ _ _ hw h k => pm_rcv_of moM_m (k_lineFilter base sa hw h k)) (fun x19 s18 => ?_)
                exact jj_riS hG rfl rfl rfl k
              refine jjs hG rfl rfl ?_
              refine jj_cs hG 0 rfl rfl (Nat.le_of_ble_eq_true rfl) (by decide) (Nat.le_of_ble_eq_true rfl) rfl (st' := []) rfl (w := .int) (fun _ _ _ hw h k => pm_rcv_of moM_m (k_lineNostatic base sa hw h k)) (fun x21 s20 => ?_)
              exact jj_riS hG rfl rfl rfl k
            refine jjs hG rfl rfl ?_
            refine jj_cs hG 0 rfl rfl (Nat.le_of_ble_eq_true rfl) (by decide) (Nat.le_of_ble_eq_true rfl) rfl (st' := []) rfl (w := .int) (fun _ _ _ hw h k => pm_rcv_of moM_m (k_lineStatic base sa hw h k)) (fun x23 s22 => ?_)
            exact jj_riS hG rfl rfl rfl k
          refine jjs hG rfl rfl ?_
          refine jj_cs hG 0 rfl rfl (Nat.le_of_ble_eq_true rfl) (by decide) (Nat.le_of_ble_eq_true rfl) rfl (st' := []) rfl (w := .int) (fun _ _ _ hw h k => pm_rcv_of moM_m (k_lineNokey base sa hw h k)) (fun x25 s24 => ?_)
          exact jj_riS hG rfl rfl rfl k
        refine jjs hG rfl rfl ?_
        refine jj_cs hG 0 rfl rfl (Nat.le_of_ble_eq_true rfl) (by decide) (Nat.le_of_ble_eq_true rfl) rfl (st' := []) rfl (w := .int) (fun _ _ _ hw h k => pm_rcv_of moM_m (k_lineKey base sa hw h k)) (fun x27 s26 => ?_)
        exact jj_riS hG rfl rfl rfl k
      refine jjs hG rfl rfl ?_
      refine jj_cs hG 0 rfl rfl (Nat.le_of_ble_eq_true rfl) (by decide) (Nat.le_of_ble_eq_true rfl) rfl (st' := []) rfl (w := .int) (fun _ _ _ hw h k => pm_rcv_of moM_m (k_lineJoin base sa hw h k)) (fun x29 s28 => ?_)
      exact jj_riS hG rfl rfl rfl k
    refine jjs hG rfl rfl ?_
    refine jj_cs hG 0 rfl rfl (Nat.le_of_ble_eq_true rfl) (by decide) (Nat.le_of_ble_eq_true rfl) rfl (st' := []) rfl (w := .int) (fun _ _ _ hw h k => pm_rcv_of moM_m (k_lineRouter base sa hw h k)) (fun x31 s30 => ?_)
    exact jj_riS hG rfl rfl rfl k
  refine jjs hG rfl rfl ?_
  refine jj_cs hG 0 rfl rfl (Nat.le_of_ble_eq_true rfl) (by decide) (Nat.le_of_ble_eq_true rfl) rfl (st' := []) rfl (w := .int) (fun _ _ _ hw h k => pm_rcv_of moM_m (k_lineLink base sa hw h k)) (fun x33 s32 => ?_)
  exact jj_riS hG rfl rfl rfl k
