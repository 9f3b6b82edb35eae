/-! The model as functions, by program: lineNokey .. isDecision -/
noncomputable def M_lineNokey (t : moS) : Option (Int32 × moS) := if (moS.S t 11) = (3 : Int32) then (Option.bind (M_interfaceWords t) (fun x1 => (if x1 = ((-1) : Int32) then ((some ((3 : Int32), t))) else (Option.bind (wrI t 79 x1 (0 : Int32)) (fun s2 => (Option.bind (wrI s2 82 x1 (0 : Int32)) (fun s3 => ((some ((0 : Int32), s3)))))))))) else ((some ((2 : Int32), t)))
set_option maxRecDepth 100000 in
set_option maxHeartbeats 4000000 in
theorem k_lineNokey (base : Nat) (sa : Nat → Nat) {C : Nat × Nat} {R : pmM} {m : Nat} {q : Nat → Nat} {t tz : moS} {kc ks : Nat} {Rt : pmR}  {r : Int32} (hw : mW C R base m q t kc ks) (h : M_lineNokey t = (some (r, tz))) (k : mW C R base m q tz kc ks → Rt (some (.int r)) (moM R m q tz) kc ks) : kP_Mo_lineNokey base sa [.ref m] (moM R m q t) kc ks Rt := by
  refine ⟨Nat.le_of_ble_eq_true rfl, fun G hG => ?_⟩
  refine (show JJ C R base m G 0 [(0, .ref m)] [] q t kc ks (M_lineNokey t) (some (r, tz)) from ?_) hw h
  refine jjs hG rfl rfl ?_
  refine jj_gi hG (k := 11) rfl rfl rfl rfl ?_
  refine jj_ic hG rfl cc_i3 ?_
  refine jj_ieq hG (t := 10) rfl rfl ?_ ?_
  · refine jjs hG rfl rfl ?_
    refine jj_cp hG 0 rfl rfl (Nat.le_of_ble_eq_true rfl) (by decide) (Nat.le_of_ble_eq_true rfl) rfl (st' := []) rfl (w := .int) (fun _ _ hw h k => pm_rcv_of moM_m (k_interfaceWords base sa hw h k)) (fun x1 => ?_)
    refine jjc hG rfl rfl (Nat.le_of_ble_eq_true rfl) ?_
    refine jjs hG rfl rfl ?_
    refine jj_ic hG rfl cc_im1 ?_
    refine jj_ine hG (t := 22) rfl rfl ?_ ?_
    · refine jjs hG rfl rfl ?_
      refine jj_gr hG (k := 79) rfl rfl rfl rfl ?_
      refine jjs hG rfl rfl ?_
      refine jj_ic hG rfl cc_i0 ?_
      refine jj_is hG (k := 79) rfl rfl rfl (fun s2 => ?_)
      refine jjs hG rfl rfl ?_
      refine jj_gr hG (k := 82) rfl rfl rfl rfl ?_
      refine jjs hG rfl rfl ?_
      refine jj_ic hG rfl cc_i0 ?_
      refine jj_is hG (k := 82) rfl rfl rfl (fun s3 => ?_)
      refine jj_ic hG rfl cc_i0 ?_
      exact jj_riS hG rfl rfl rfl k
    refine jj_ic hG rfl cc_i3 ?_
    exact jj_riS hG rfl rfl rfl k
  refine jj_ic hG rfl cc_i2 ?_
  exact jj_riS hG rfl rfl rfl k
noncomputable def M_lineStatic_b228 (t : moS) (a1 : Int32) (u1 : Int32) (u2 : Int32) : Option (Int32 × moS) := Option.bind (wrI t 52 u1 u2) (fun s1 => (Option.bind (M_settle s1 a1) (fun s2 => ((some ((0 : Int32), s2))))))
noncomputable def M_lineStatic_b199 (t : moS) (a1 : Int32) (a2 : Int32) (a3 : Int32) : Option (Int32 × moS) := Option.bind (M_number t (3 : Int32)) (fun x1 => (Option.bind (wrI t 51 a3 x1) (fun s2 => (if 0 < a2 then (Option.bind (M_number s2 a2) (fun x3 => ((M_lineStatic_b228 s2 a1 a3 x3)))) else ((M_lineStatic_b228 s2 a1 a3 (0 : Int32)))))))
noncomputable def M_lineStatic_b132 (t : moS) (a1 : Int32) (a2 : Int32) (a3 : Int32) : Option (Int32 × moS) := if a3 = ((-1) : Int32) then (Option.bind (rdI t 46 a1) (fun x1 => (Option.bind (rdI t 46 a1) (fun x2 => (Option.bind (wrI t 46 a1 (x2 + (1 : Int32))) (fun s3 => (Option.bind (wrI s3 47 (((32 : Int32) * a1) + x1) (moS.S s3 12)) (fun s4 => (Option.bind (wrJ s4 48 (((32 : Int32) * a1) + x1) (moS.Z s4 13)) (fun s5 => (Option.bind (wrJ s5 49 (((32 : Int32) * a1) + x1) (moS.Z s5 14)) (fun s6 => (Option.bind (wrI s6 50 (((32 : Int32) * a1) + x1) (moS.S s6 15)) (fun s7 => ((M_lineStatic_b199 s7 a1 a2 (((32 : Int32) * a1) + x1))))))))))))))))) else ((M_lineStatic_b199 t a1 a2 a3))
noncomputable def M_lineStatic_b91 (t : moS) (a1 : Int32) (a2 : Int32) : Option (Int32 × moS) := Option.bind (M_staticOf t a1 (moS.S t 12) (moS.Z t 13) (moS.Z t 14) (moS.S t 15)) (fun x1 => (if x1 = ((-1) : Int32) then (Option.bind (rdI t 46 a1) (fun x2 => (if x2 = (32 : Int32) then ((some ((6 : Int32), t))) else ((M_lineStatic_b132 t a1 a2 x1))))) else ((M_lineStatic_b132 t a1 a2 x1))))
noncomputable def M_lineStatic (t : moS) : Option (Int32 × moS) := if (moS.S t 11) < (4 : Int32) then ((some ((2 : Int32), t))) else (Option.bind (M_areOptions t (4 : Int32) (32047 : Int64) (0 : Int64) (0 : Int64) (0 : Int64) (0 : Int64) (0 : Int64)) (fun x1 => (if x1 = 0 then ((some ((2 : Int32), t))) else (Option.bind (M_name t (1 : Int32)) (fun x2 => (Option.bind (M_routerNamed t x2) (fun x3 => (if x3 = ((-1) : Int32) then ((some ((3 : Int32), t))) else (bn2 (M_isPrefixWord t (2 : Int32)) (fun x5 s4 => (if x5 = 0 then ((some ((5 : Int32), s4))) else (Option.bind (M_option s4 (32047 : Int64) (4 : Int32)) (fun x6 => (Option.bind (M_isNumber s4 (3 : Int32) (1 : Int32) (15 : Int32)) (fun x7 => (if x7 = 0 then ((some ((4 : Int32), s4))) else (if 0 < x6 then (Option.bind (M_isNumber s4 x6 (0 : Int32) (65535 : Int32)) (fun x8 => (if x8 = 0 then ((some ((4 : Int32), s4))) else ((M_lineStatic_b91 s4 x3 x6))))) else ((M_lineStatic_b91 s4 x3 x6)))))))))))))))))))
set_option maxRecDepth 100000 in
set_option maxHeartbeats 4000000 in
theorem k_lineStatic (base : Nat) (sa : Nat → Nat) {C : Nat × Nat} {R : pmM} {m : Nat} {q : Nat → Nat} {t tz : moS} {kc ks : Nat} {Rt : pmR}  {r : Int32} (hw : mW C R base m q t kc ks) (h : M_lineStatic t = (some (r, tz))) (k : mW C R base m q tz kc ks → Rt (some (.int r)) (moM R m q tz) kc ks) : kP_Mo_lineStatic base sa [.ref m] (moM R m q t) kc ks Rt := by
  refine ⟨Nat.le_of_ble_eq_true rfl, fun G hG => ?_⟩
  have b228 : ∀ (a1 : Int32) (u1 : Int32) (u2 : Int32) (t : moS), JJ C R base m G 228 [(0, .ref m), (1, .int a1)] [.int u2, .int u1, .ref (q 52)] q t kc ks (M_lineStatic_b228 t a1 u1 u2) (some (r, tz)) := by
    intro a1 u1 u2 t
    refine jj_is hG (k := 52) rfl rfl rfl (fun s1 => ?_)
    refine jjs hG rfl rfl ?_
    refine jjs hG rfl rfl ?_
    refine jj_cv hG 0 rfl rfl (Nat.le_of_ble_eq_true rfl) (by decide) (Nat.le_of_ble_eq_true rfl) rfl (st' := []) rfl (fun _ _ hw h k => pm_rcv_of moM_m (k_settle base sa hw h k)) (fun s2 => ?_)
    refine jj_ic hG rfl cc_i0 ?_
    exact jj_riS hG rfl rfl rfl k
  have b199 : ∀ (a1 : Int32) (a2 : Int32) (a3 : Int32) (t : moS), JJ C R base m G 199 [(0, .ref m), (1, .int a1), (2, .int a2), (3, .int a3)] [] q t kc ks (M_lineStatic_b199 t a1 a2 a3) (some (r, tz)) := by
    intro a1 a2 a3 t
    refine jjs hG rfl rfl ?_
    refine jj_gr hG (k := 51) rfl rfl rfl rfl ?_
    refine jjs hG rfl rfl ?_
    refine jjs hG rfl rfl ?_
    refine jj_ic hG rfl cc_i3 ?_
    refine jj_cp hG 0 rfl rfl (Nat.le_of_ble_eq_true rfl) (by decide) (Nat.le_of_ble_eq_true rfl) rfl (st' := [.int a3, .ref (q 51)]) rfl (w := .int) (fun _ _ hw h k => pm_rcv_of moM_m (k_number base sa hw h k)) (fun x1 => ?_)
    refine jj_is hG (k := 51) rfl rfl rfl (fun s2 => ?_)
    refine jjs hG rfl rfl ?_
    refine jj_gr hG (k := 52) rfl rfl rfl rfl ?_
    refine jjs hG rfl rfl ?_
    refine jjs hG rfl rfl ?_
    refine jj_zle hG (t := 227) rfl rfl ?_ ?_
    · refine jj_ic hG rfl cc_i0 ?_
      exact jj_wl hG [0, 1] rfl (b228 _ _ _ _)
    refine jjs hG rfl rfl ?_
    refine jjs hG rfl rfl ?_
    refine jj_cp hG 0 rfl rfl (Nat.le_of_ble_eq_true rfl) (by decide) (Nat.le_of_ble_eq_true rfl) rfl (st' := [.int a3, .ref (q 52)]) rfl (w := .int) (fun _ _ hw h k => pm_rcv_of moM_m (k_number base sa hw h k)) (fun x3 => ?_)
    refine jj_go hG (t := 228) rfl rfl ?_
    exact jj_wl hG [0, 1] rfl (b228 _ _ _ _)
  have b132 : ∀ (a1 : Int32) (a2 : Int32) (a3 : Int32) (t : moS), JJ C R base m G 132 [(0, .ref m), (1, .int a1), (2, .int a2), (3, .int a3)] [] q t kc ks (M_lineStatic_b132 t a1 a2 a3) (some (r, tz)) := by
    intro a1 a2 a3 t
    refine jjs hG rfl rfl ?_
    refine jj_ic hG rfl cc_im1 ?_
    refine jj_ine hG (t := 199) rfl rfl ?_ ?_
    · exact jj_wl hG [0, 1, 2, 3] rfl (b199 _ _ _ _)
    refine jj_bi hG rfl cc_b32 ?_
    refine jjs hG rfl rfl ?_
    refine jjs hG rfl rfl ?_
    refine jjs hG rfl rfl ?_
    refine jj_gr hG (k := 46) rfl rfl rfl rfl ?_
    refine jjs hG rfl rfl ?_
    refine jj_ia hG (k := 46) rfl rfl rfl (fun x1 => ?_)
    refine jjs hG rfl rfl ?_
    refine jjc hG rfl rfl (Nat.le_of_ble_eq_true rfl) ?_
    refine jjs hG rfl rfl ?_
    refine jj_gr hG (k := 46) rfl rfl rfl rfl ?_
    refine jjs hG rfl rfl ?_
    refine jjc2 hG rfl rfl rfl rfl ?_
    refine jj_ia hG (k := 46) rfl rfl rfl (fun x2 => ?_)
    refine jj_ic hG rfl cc_i1 ?_
    refine jjs hG rfl rfl ?_
    refine jj_is hG (k := 46) rfl rfl rfl (fun s3 => ?_)
    refine jjs hG rfl rfl ?_
    refine jj_gr hG (k := 47) rfl rfl rfl rfl ?_
    refine jjs hG rfl rfl ?_
    refine jjs hG rfl rfl ?_
    refine jj_gi hG (k := 12) rfl rfl rfl rfl ?_
    refine jj_is hG (k := 47) rfl rfl rfl (fun s4 => ?_)
    refine jjs hG rfl rfl ?_
    refine jj_gr hG (k := 48) rfl rfl rfl rfl ?_
    refine jjs hG rfl rfl ?_
    refine jjs hG rfl rfl ?_
    refine jj_gz hG (k := 13) rfl rfl rfl rfl ?_
    refine jj_ls hG (k := 48) rfl rfl rfl (fun s5 => ?_)
    refine jjs hG rfl rfl ?_
    refine jj_gr hG (k := 49) rfl rfl rfl rfl ?_
    refine jjs hG rfl rfl ?_
    refine jjs hG rfl rfl ?_
    refine jj_gz hG (k := 14) rfl rfl rfl rfl ?_
    refine jj_ls hG (k := 49) rfl rfl rfl (fun s6 => ?_)
    refine jjs hG rfl rfl ?_
    refine jj_gr hG (k := 50) rfl rfl rfl rfl ?_
    refine jjs hG rfl rfl ?_
    refine jjs hG rfl rfl ?_
    refine jj_gi hG (k := 15) rfl rfl rfl rfl ?_
    refine jj_is hG (k := 50) rfl rfl rfl (fun s7 => ?_)
    exact jj_wl hG [1, 2, 3, 0] rfl (b199 _ _ _ _)
  have b91 : ∀ (a1 : Int32) (a2 : Int32) (t : moS), JJ C R base m G 91 [(0, .ref m), (1, .int a1), (2, .int a2)] [] q t kc ks (M_lineStatic_b91 t a1 a2) (some (r, tz)) := by
    intro a1 a2 t
    refine jjs hG rfl rfl ?_
    refine jjs hG rfl rfl ?_
    refine jjs hG rfl rfl ?_
    refine jj_gi hG (k := 12) rfl rfl rfl rfl ?_
    refine jjs hG rfl rfl ?_
    refine jj_gz hG (k := 13) rfl rfl rfl rfl ?_
    refine jjs hG rfl rfl ?_
    refine jj_gz hG (k := 14) rfl rfl rfl rfl ?_
    refine jjs hG rfl rfl ?_
    refine jj_gi hG (k := 15) rfl rfl rfl rfl ?_
    refine jj_cp hG 0 rfl rfl (Nat.le_of_ble_eq_true rfl) (by decide) (Nat.le_of_ble_eq_true rfl) rfl (st' := []) rfl (w := .int) (fun _ _ hw h k => pm_rcv_of moM_m (k_staticOf base sa hw h k)) (fun x1 => ?_)
    refine jjc hG rfl rfl (Nat.le_of_ble_eq_true rfl) ?_
    refine jjs hG rfl rfl ?_
    refine jj_ic hG rfl cc_im1 ?_
    refine jj_ine hG (t := 132) rfl rfl ?_ ?_
    · exact jj_wl hG [1, 2, 3, 0] rfl (b132 _ _ _ _)
    refine jjs hG rfl rfl ?_
    refine jj_gr hG (k := 46) rfl rfl rfl rfl ?_
    refine jjs hG rfl rfl ?_
    refine jj_ia hG (k := 46) rfl rfl rfl (fun x2 => ?_)
    refine jj_bi hG rfl cc_b32 ?_
    refine jj_ine hG (t := 132) rfl rfl ?_ ?_
    · exact jj_wl hG [1, 2, 3, 0] rfl (b132 _ _ _ _)
    refine jj_bi hG rfl cc_b6 ?_
    exact jj_riS hG rfl rfl rfl k
  refine (show JJ C R base m G 0 [(0, .ref m)] [] q t kc ks (M_lineStatic t) (some (r, tz)) from ?_) hw h
  refine jjs hG rfl rfl ?_
  refine jj_gi hG (k := 11) rfl rfl rfl rfl ?_
  refine jj_ic hG rfl cc_i4 ?_
  refine jj_ilt hG (t := 24) rfl rfl ?_ ?_
  · refine jj_ic hG rfl cc_i2 ?_
    exact jj_riS hG rfl rfl rfl k
  refine jjs hG rfl rfl ?_
  refine jj_ic hG rfl cc_i4 ?_
  refine jj_l2 hG (v := (32047 : Int64)) rfl rfl ?_
  refine jj_lc hG (c := 0) (v := 0) rfl rfl ?_
  refine jj_lc hG (c := 0) (v := 0) rfl rfl ?_
  refine jj_lc hG (c := 0) (v := 0) rfl rfl ?_
  refine jj_lc hG (c := 0) (v := 0) rfl rfl ?_
  refine jj_lc hG (c := 0) (v := 0) rfl rfl ?_
  refine jj_cp hG 0 rfl rfl (Nat.le_of_ble_eq_true rfl) (by decide) (Nat.le_of_ble_eq_true rfl) rfl (st' := []) rfl (w := .int) (fun _ _ hw h k => pm_rcv_of moM_m (k_areOptions base sa hw h k)) (fun x1 => ?_)
  refine jj_zne hG (t := 26) rfl rfl ?_ ?_
  · refine jjs hG rfl rfl ?_
    refine jjs hG rfl rfl ?_
    refine jj_ic hG rfl cc_i1 ?_
    refine jj_cp hG 0 rfl rfl (Nat.le_of_ble_eq_true rfl) (by decide) (Nat.le_of_ble_eq_true rfl) rfl (st' := [.ref m]) rfl (w := .long) (fun _ _ hw h k => pm_rcv_of moM_m (k_name base sa hw h k)) (fun x2 => ?_)
    refine jj_cp hG 0 rfl rfl (Nat.le_of_ble_eq_true rfl) (by decide) (Nat.le_of_ble_eq_true rfl) rfl (st' := []) rfl (w := .int) (fun _ _ hw h k => pm_rcv_of moM_m (k_routerNamed base sa hw h k)) (fun x3 => ?_)
    refine jjc hG rfl rfl (Nat.le_of_ble_eq_true rfl) ?_
    refine jjs hG rfl rfl ?_
    refine jj_ic hG rfl cc_im1 ?_
    refine jj_ine hG (t := 43) rfl rfl ?_ ?_
    · refine jjs hG rfl rfl ?_
      refine jj_ic hG rfl cc_i2 ?_
      refine jj_cs hG 0 rfl rfl (Nat.le_of_ble_eq_true rfl) (by decide) (Nat.le_of_ble_eq_true rfl) rfl (st' := []) rfl (w := .int) (fun _ _ _ hw h k => pm_rcv_of moM_m (k_isPrefixWord base sa hw h k)) (fun x5 s4 => ?_)
      refine jj_zne hG (t := 53) rfl rfl ?_ ?_
      · refine jjs hG rfl rfl ?_
        refine jj_l2 hG (v := (32047 : Int64)) rfl rfl ?_
        refine jj_ic hG rfl cc_i4 ?_
        refine jj_cp hG 0 rfl rfl (Nat.le_of_ble_eq_true rfl) (by decide) (Nat.le_of_ble_eq_true rfl) rfl (st' := []) rfl (w := .int) (fun _ _ hw h k => pm_rcv_of moM_m (k_option base sa hw h k)) (fun x6 => ?_)
        refine jjc hG rfl rfl (Nat.le_of_ble_eq_true rfl) ?_
        refine jjs hG rfl rfl ?_
        refine jj_ic hG rfl cc_i3 ?_
        refine jj_ic hG rfl cc_i1 ?_
        refine jj_bi hG rfl cc_b15 ?_
        refine jj_cp hG 0 rfl rfl (Nat.le_of_ble_eq_true rfl) (by decide) (Nat.le_of_ble_eq_true rfl) rfl (st' := []) rfl (w := .int) (fun _ _ hw h k => pm_rcv_of moM_m (k_isNumber base sa hw h k)) (fun x7 => ?_)
        refine jj_zeq hG (t := 89) rfl rfl ?_ ?_
        · refine jj_ic hG rfl cc_i4 ?_
          exact jj_riS hG rfl rfl rfl k
        refine jjs hG rfl rfl ?_
        refine jj_zle hG (t := 91) rfl rfl ?_ ?_
        · exact jj_wl hG [2, 1, 0] rfl (b91 _ _ _)
        refine jjs hG rfl rfl ?_
        refine jjs hG rfl rfl ?_
        refine jj_ic hG rfl cc_i0 ?_
        refine jj_lw hG (v := (65535 : Int32)) rfl rfl ?_
        refine jj_cp hG 0 rfl rfl (Nat.le_of_ble_eq_true rfl) (by decide) (Nat.le_of_ble_eq_true rfl) rfl (st' := []) rfl (w := .int) (fun _ _ hw h k => pm_rcv_of moM_m (k_isNumber base sa hw h k)) (fun x8 => ?_)
        refine jj_zne hG (t := 91) rfl rfl ?_ ?_
        · exact jj_wl hG [2, 1, 0] rfl (b91 _ _ _)
        refine jj_ic hG rfl cc_i4 ?_
        exact jj_riS hG rfl rfl rfl k
      refine jj_ic hG rfl cc_i5 ?_
      exact jj_riS hG rfl rfl rfl k
    refine jj_ic hG rfl cc_i3 ?_
    exact jj_riS hG rfl rfl rfl k
  refine jj_ic hG rfl cc_i2 ?_
  exact jj_riS hG rfl rfl rfl k
noncomputable def M_lineNostatic_s68 (t : moS) (a1 : Int32) (a3 : Int32) : Option ((Int32 × moS) ⊕ (Int32 × moS)) := Option.bind (rdI t 46 a1) (fun x1 => (if (a3 + (1 : Int32)) < (((32 : Int32) * a1) + x1) then (Option.bind (rdI t 47 (a3 + (1 : Int32))) (fun x5 => (Option.bind (wrI t 47 a3 x5) (fun s6 => (Option.bind (rdJ s6 48 (a3 + (1 : Int32))) (fun x7 => (Option.bind (wrJ s6 48 a3 x7) (fun s8 => (Option.bind (rdJ s8 49 (a3 + (1 : Int32))) (fun x9 => (Option.bind (wrJ s8 49 a3 x9) (fun s10 => (Option.bind (rdI s10 50 (a3 + (1 : Int32))) (fun x11 => (Option.bind (wrI s10 50 a3 x11) (fun s12 => (Option.bind (rdI s12 51 (a3 + (1 : Int32))) (fun x13 => (Option.bind (wrI s12 51 a3 x13) (fun s14 => (Option.bind (rdI s14 52 (a3 + (1 : Int32))) (fun x15 => (Option.bind (wrI s14 52 a3 x15) (fun s16 => ((some (.inl ((a3 + (1 : Int32)), s16)))))))))))))))))))))))))))) else ((xo (Option.bind (rdI t 46 a1) (fun x2 => (Option.bind (wrI t 46 a1 (x2 - (1 : Int32))) (fun s3 => (Option.bind (M_settle s3 a1) (fun s4 => ((some ((0 : Int32), s4)))))))))))))
noncomputable def M_lineNostatic_b68 (t : moS) (a1 : Int32) (a3 : Int32) : Option (Int32 × moS) := lp (fun x => M_lineNostatic_s68 x.2 a1 x.1) (a3, t)
noncomputable def M_lineNostatic (t : moS) : Option (Int32 × moS) := if (moS.S t 11) = (3 : Int32) then (Option.bind (M_name t (1 : Int32)) (fun x1 => (Option.bind (M_routerNamed t x1) (fun x2 => (if x2 = ((-1) : Int32) then ((some ((3 : Int32), t))) else (bn2 (M_isPrefixWord t (2 : Int32)) (fun x4 s3 => (if x4 = 0 then ((some ((5 : Int32), s3))) else (Option.bind (M_staticOf s3 x2 (moS.S s3 12) (moS.Z s3 13) (moS.Z s3 14) (moS.S s3 15)) (fun x5 => (if x5 = ((-1) : Int32) then ((some ((3 : Int32), s3))) else ((M_lineNostatic_b68 s3 x2 x5))))))))))))) else ((some ((2 : Int32), t)))
set_option maxRecDepth 100000 in
set_option maxHeartbeats 4000000 in
theorem k_lineNostatic (base : Nat) (sa : Nat → Nat) {C : Nat × Nat} {R : pmM} {m : Nat} {q : Nat → Nat} {t tz : moS} {kc ks : Nat} {Rt : pmR}  {r : Int32} (hw : mW C R base m q t kc ks) (h : M_lineNostatic t = (some (r, tz))) (k : mW C R base m q tz kc ks → Rt (some (.int r)) (moM R m q tz) kc ks) : kP_Mo_lineNostatic base sa [.ref m] (moM R m q t) kc ks Rt := by
  refine ⟨Nat.le_of_ble_eq_true rfl, fun G hG => ?_⟩
  have b68 : ∀ (a1 : Int32) (n : Nat) (a3 : Int32) (t : moS), JJ C R base m G 68 [(0, .ref m), (1, .int a1), (3, .int a3)] [] q t kc ks (lpN (fun x => M_lineNostatic_s68 x.2 a1 x.1) n (a3, t)) (some (r, tz)) := by
    intro a1 n
    induction n with
    | zero => intro a3 t; exact jj_lp0
    | succ n ih68 =>
      intro a3 t
      refine jj_lpS (fun y68 c68 => ?_)
      refine (show JJ C R base m G 68 [(0, .ref m), (1, .int a1), (3, .int a3)] [] q t kc ks (M_lineNostatic_s68 t a1 a3) (some y68) from ?_)
      refine jjs hG rfl rfl ?_
      refine jj_ic hG rfl cc_i1 ?_
      refine jjs hG rfl rfl ?_
      refine jj_bi hG rfl cc_b32 ?_
      refine jjs hG rfl rfl ?_
      refine jjs hG rfl rfl ?_
      refine jjs hG rfl rfl ?_
      refine jj_gr hG (k := 46) rfl rfl rfl rfl ?_
      refine jjs hG rfl rfl ?_
      refine jj_ia hG (k := 46) rfl rfl rfl (fun x1 => ?_)
      refine jjs hG rfl rfl ?_
      refine jj_ige hG (t := 175) rfl rfl ?_ ?_
      · refine jj_exit c68 ?_
        refine jjs hG rfl rfl ?_
        refine jj_gr hG (k := 46) rfl rfl rfl rfl ?_
        refine jjs hG rfl rfl ?_
        refine jjc2 hG rfl rfl rfl rfl ?_
        refine jj_ia hG (k := 46) rfl rfl rfl (fun x2 => ?_)
        refine jj_ic hG rfl cc_i1 ?_
        refine jjs hG rfl rfl ?_
        refine jj_is hG (k := 46) rfl rfl rfl (fun s3 => ?_)
        refine jjs hG rfl rfl ?_
        refine jjs hG rfl rfl ?_
        refine jj_cv hG 0 rfl rfl (Nat.le_of_ble_eq_true rfl) (by decide) (Nat.le_of_ble_eq_true rfl) rfl (st' := []) rfl (fun _ _ hw h k => pm_rcv_of moM_m (k_settle base sa hw h k)) (fun s4 => ?_)
        refine jj_ic hG rfl cc_i0 ?_
        exact jj_riS hG rfl rfl rfl k
      refine jjs hG rfl rfl ?_
      refine jj_gr hG (k := 47) rfl rfl rfl rfl ?_
      refine jjs hG rfl rfl ?_
      refine jjs hG rfl rfl ?_
      refine jj_gr hG (k := 47) rfl rfl rfl rfl ?_
      refine jjs hG rfl rfl ?_
      refine jj_ic hG rfl cc_i1 ?_
      refine jjs hG rfl rfl ?_
      refine jj_ia hG (k := 47) rfl rfl rfl (fun x5 => ?_)
      refine jj_is hG (k := 47) rfl rfl rfl (fun s6 => ?_)
      refine jjs hG rfl rfl ?_
      refine jj_gr hG (k := 48) rfl rfl rfl rfl ?_
      refine jjs hG rfl rfl ?_
      refine jjs hG rfl rfl ?_
      refine jj_gr hG (k := 48) rfl rfl rfl rfl ?_
      refine jjs hG rfl rfl ?_
      refine jj_ic hG rfl cc_i1 ?_
      refine jjs hG rfl rfl ?_
      refine jj_la hG (k := 48) rfl rfl rfl (fun x7 => ?_)
      refine jj_ls hG (k := 48) rfl rfl rfl (fun s8 => ?_)
      refine jjs hG rfl rfl ?_
      refine jj_gr hG (k := 49) rfl rfl rfl rfl ?_
      refine jjs hG rfl rfl ?_
      refine jjs hG rfl rfl ?_
      refine jj_gr hG (k := 49) rfl rfl rfl rfl ?_
      refine jjs hG rfl rfl ?_
      refine jj_ic hG rfl cc_i1 ?_
      refine jjs hG rfl rfl ?_
      refine jj_la hG (k := 49) rfl rfl rfl (fun x9 => ?_)
      refine jj_ls hG (k := 49) rfl rfl rfl (fun s10 => ?_)
      refine jjs hG rfl rfl ?_
      refine jj_gr hG (k := 50) rfl rfl rfl rfl ?_
      refine jjs hG rfl rfl ?_
      refine jjs hG rfl rfl ?_
      refine jj_gr hG (k := 50) rfl rfl rfl rfl ?_
      refine jjs hG rfl rfl ?_
      refine jj_ic hG rfl cc_i1 ?_
      refine jjs hG rfl rfl ?_
      refine jj_ia hG (k := 50) rfl rfl rfl (fun x11 => ?_)
      refine jj_is hG (k := 50) rfl rfl rfl (fun s12 => ?_)
      refine jjs hG rfl rfl ?_
      refine jj_gr hG (k := 51) rfl rfl rfl rfl ?_
      refine jjs hG rfl rfl ?_
      refine jjs hG rfl rfl ?_
      refine jj_gr hG (k := 51) rfl rfl rfl rfl ?_
      refine jjs hG rfl rfl ?_
      refine jj_ic hG rfl cc_i1 ?_
      refine jjs hG rfl rfl ?_
      refine jj_ia hG (k := 51) rfl rfl rfl (fun x13 => ?_)
      refine jj_is hG (k := 51) rfl rfl rfl (fun s14 => ?_)
      refine jjs hG rfl rfl ?_
      refine jj_gr hG (k := 52) rfl rfl rfl rfl ?_
      refine jjs hG rfl rfl ?_
      refine jjs hG rfl rfl ?_
      refine jj_gr hG (k := 52) rfl rfl rfl rfl ?_
      refine jjs hG rfl rfl ?_
      refine jj_ic hG rfl cc_i1 ?_
      refine jjs hG rfl rfl ?_
      refine jj_ia hG (k := 52) rfl rfl rfl (fun x15 => ?_)
      refine jj_is hG (k := 52) rfl rfl rfl (fun s16 => ?_)
      refine jj_inc hG rfl (Nat.le_of_ble_eq_true rfl) rfl cc_i1 ?_
      refine jj_go hG (t := 68) rfl rfl ?_
      exact jj_back c68 (jj_wl hG [1, 2, 0] rfl (ih68 _ _))
  refine (show JJ C R base m G 0 [(0, .ref m)] [] q t kc ks (M_lineNostatic t) (some (r, tz)) from ?_) hw h
  refine jjs hG rfl rfl ?_
  refine jj_gi hG (k := 11) rfl rfl rfl rfl ?_
  refine jj_ic hG rfl cc_i3 ?_
  refine jj_ieq hG (t := 10) rfl rfl ?_ ?_
  · refine jjs hG rfl rfl ?_
    refine jjs hG rfl rfl ?_
    refine jj_ic hG rfl cc_i1 ?_
    refine jj_cp hG 0 rfl rfl (Nat.le_of_ble_eq_true rfl) (by decide) (Nat.le_of_ble_eq_true rfl) rfl (st' := [.ref m]) rfl (w := .long) (fun _ _ hw h k => pm_rcv_of moM_m (k_name base sa hw h k)) (fun x1 => ?_)
    refine jj_cp hG 0 rfl rfl (Nat.le_of_ble_eq_true rfl) (by decide) (Nat.le_of_ble_eq_true rfl) rfl (st' := []) rfl (w := .int) (fun _ _ hw h k => pm_rcv_of moM_m (k_routerNamed base sa hw h k)) (fun x2 => ?_)
    refine jjc hG rfl rfl (Nat.le_of_ble_eq_true rfl) ?_
    refine jjs hG rfl rfl ?_
    refine jj_ic hG rfl cc_im1 ?_
    refine jj_ine hG (t := 27) rfl rfl ?_ ?_
    · refine jjs hG rfl rfl ?_
      refine jj_ic hG rfl cc_i2 ?_
      refine jj_cs hG 0 rfl rfl (Nat.le_of_ble_eq_true rfl) (by decide) (Nat.le_of_ble_eq_true rfl) rfl (st' := []) rfl (w := .int) (fun _ _ _ hw h k => pm_rcv_of moM_m (k_isPrefixWord base sa hw h k)) (fun x4 s3 => ?_)
      refine jj_zne hG (t := 37) rfl rfl ?_ ?_
      · refine jjs hG rfl rfl ?_
        refine jjs hG rfl rfl ?_
        refine jjs hG rfl rfl ?_
        refine jj_gi hG (k := 12) rfl rfl rfl rfl ?_
        refine jjs hG rfl rfl ?_
        refine jj_gz hG (k := 13) rfl rfl rfl rfl ?_
        refine jjs hG rfl rfl ?_
        refine jj_gz hG (k := 14) rfl rfl rfl rfl ?_
        refine jjs hG rfl rfl ?_
        refine jj_gi hG (k := 15) rfl rfl rfl rfl ?_
        refine jj_cp hG 0 rfl rfl (Nat.le_of_ble_eq_true rfl) (by decide) (Nat.le_of_ble_eq_true rfl) rfl (st' := []) rfl (w := .int) (fun _ _ hw h k => pm_rcv_of moM_m (k_staticOf base sa hw h k)) (fun x5 => ?_)
        refine jjc hG rfl rfl (Nat.le_of_ble_eq_true rfl) ?_
        refine jjs hG rfl rfl ?_
        refine jj_ic hG rfl cc_im1 ?_
        refine jj_ine hG (t := 66) rfl rfl ?_ ?_
        · refine jjs hG rfl rfl ?_
          refine jjc hG rfl rfl (Nat.le_of_ble_eq_true rfl) ?_
          refine jj_lp (fun n => ?_)
          exact jj_wl hG [3, 2, 0] rfl (b68 _ n _ _)
        refine jj_ic hG rfl cc_i3 ?_
        exact jj_riS hG rfl rfl rfl k
      refine jj_ic hG rfl cc_i5 ?_
      exact jj_riS hG rfl rfl rfl k
    refine jj_ic hG rfl cc_i3 ?_
    exact jj_riS hG rfl rfl rfl k
  refine jj_ic hG rfl cc_i2 ?_
  exact jj_riS hG rfl rfl rfl k
noncomputable def M_isWay_b24 (t : moS) : Option Int32 := (some (1 : Int32))
noncomputable def M_isWay (t : moS) (p1 : Int32) : Option Int32 := Option.bind (M_code t p1) (fun x1 => (if x1 = (374 : Int64) then ((M_isWay_b24 t)) else (Option.bind (M_code t p1) (fun x2 => (if x2 = (24860 : Int64) then ((M_isWay_b24 t)) else ((some (0 : Int32))))))))
set_option maxRecDepth 100000 in
set_option maxHeartbeats 4000000 in
theorem k_isWay (base : Nat) (sa : Nat → Nat) {C : Nat × Nat} {R : pmM} {m : Nat} {q : Nat → Nat} {t : moS} {kc ks : Nat} {Rt : pmR} {p1 : Int32} {r : Int32} (hw : mW C R base m q t kc ks) (h : M_isWay t p1 = (some r)) (k : Rt (some (.int r)) (moM R m q t) kc ks) : kP_Mo_isWay base sa [.ref m, .int p1] (moM R m q t) kc ks Rt := by
  refine ⟨Nat.le_of_ble_eq_true rfl, fun G hG => ?_⟩
  have b24 : JJ C R base m G 24 [] [] q t kc ks (M_isWay_b24 t) (some r) := by
    refine jj_ic hG rfl cc_i1 ?_
    refine jj_go hG (t := 29) rfl rfl ?_
    exact jj_ri hG rfl rfl rfl k
  refine (show JJ C R base m G 0 [(0, .ref m), (1, .int p1)] [] q t kc ks (M_isWay t p1) (some r) from ?_) hw h
  refine jjs hG rfl rfl ?_
  refine jjs hG rfl rfl ?_
  refine jj_cp hG 0 rfl rfl (Nat.le_of_ble_eq_true rfl) (by decide) (Nat.le_of_ble_eq_true rfl) rfl (st' := []) rfl (w := .long) (fun _ _ hw h k => pm_rcv_of moM_m (k_code base sa hw h k)) (fun x1 => ?_)
  refine jj_l2 hG (v := (374 : Int64)) rfl rfl ?_
  refine jjs hG rfl rfl ?_
  refine jj_leq hG (t := 24) rfl rfl ?_ ?_
  · exact jj_wl hG [] rfl (b24)
  refine jjs hG rfl rfl ?_
  refine jjs hG rfl rfl ?_
  refine jj_cp hG 0 rfl rfl (Nat.le_of_ble_eq_true rfl) (by decide) (Nat.le_of_ble_eq_true rfl) rfl (st' := []) rfl (w := .long) (fun _ _ hw h k => pm_rcv_of moM_m (k_code base sa hw h k)) (fun x2 => ?_)
  refine jj_l2 hG (v := (24860 : Int64)) rfl rfl ?_
  refine jjs hG rfl rfl ?_
  refine jj_lne hG (t := 28) rfl rfl ?_ ?_
  · refine jj_ic hG rfl cc_i0 ?_
    exact jj_ri hG rfl rfl rfl k
  exact jj_wl hG [] rfl (b24)
noncomputable def M_isDecision_b24 (t : moS) : Option Int32 := (some (1 : Int32))
noncomputable def M_isDecision (t : moS) (p1 : Int32) : Option Int32 := Option.bind (M_code t p1) (fun x1 => (if x1 = (1652373180 : Int64) then ((M_isDecision_b24 t)) else (Option.bind (M_code t p1) (fun x2 => (if x2 = (264585 : Int64) then ((M_isDecision_b24 t)) else ((some (0 : Int32))))))))
set_option maxRecDepth 100000 in
set_option maxHeartbeats 4000000 in
theorem k_isDecision (base : Nat) (sa : Nat → Nat) {C : Nat × Nat} {R : pmM} {m : Nat} {q : Nat → Nat} {t : moS} {kc ks : Nat} {Rt : pmR} {p1 : Int32} {r : Int32} (hw : mW C R base m q t kc ks) (h : M_isDecision t p1 = (some r)) (k : Rt (some (.int r)) (moM R m q t) kc ks) : kP_Mo_isDecision base sa [.ref m, .int p1] (moM R m q t) kc ks Rt := by
  refine ⟨Nat.le_of_ble_eq_true rfl, fun G hG => ?_⟩
  have b24 : JJ C R base m G 24 [] [] q t kc ks (M_isDecision_b24 t) (some r) := by
    refine jj_ic hG rfl cc_i1 ?_
    refine jj_go hG (t := 29) rfl rfl ?_
    exact jj_ri hG rfl rfl rfl k
  refine (show JJ C R base m G 0 [(0, .ref m), (1, .int p1)] [] q t kc ks (M_isDecision t p1) (some r) from ?_) hw h
  refine jjs hG rfl rfl ?_
  refine jjs hG rfl rfl ?_
  refine jj_cp hG 0 rfl rfl (Nat.le_of_ble_eq_true rfl) (by decide) (Nat.le_of_ble_eq_true rfl) rfl (st' := []) rfl (w := .long) (fun _ _ hw h k => pm_rcv_of moM_m (k_code base sa hw h k)) (fun x1 => ?_)
  refine jj_l2 hG (v := (1652373180 : Int64)) rfl rfl ?_
  refine jjs hG rfl rfl ?_
  refine jj_leq hG (t := 24) rfl rfl ?_ ?_
  · exact jj_wl hG [] rfl (b24)
  refine jjs hG rfl rfl ?_
  refine jjs hG rfl rfl ?_
  refine jj_cp hG 0 rfl rfl (Nat.le_of_ble_eq_true rfl) (by decide) (Nat.le_of_ble_eq_true rfl) rfl (st' := []) rfl (w := .long) (fun _ _ hw h k => pm_rcv_of moM_m (k_code base sa hw h k)) (fun x2 => ?_)
  refine jj_l2 hG (v := (264585 : Int64)) rfl rfl ?_
  refine jjs hG rfl rfl ?_
  refine jj_lne hG (t := 28) rfl rfl ?_ ?_
  · refine jj_ic hG rfl cc_i0 ?_
    exact jj_ri hG rfl rfl rfl k
  exact jj_wl hG [] rfl (b24)
