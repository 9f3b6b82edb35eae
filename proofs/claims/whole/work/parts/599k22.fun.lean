/-! The model as functions, by program: isForbidden .. learn -/
noncomputable def M_isForbidden_b37 : Int32 := (1 : Int32)
noncomputable def M_isForbidden_b41 : Int32 := (0 : Int32)
noncomputable def M_isForbidden_b21 (p1 : Int64) (p3 : Int32) : Int32 := if p3 < (3 : Int32) then ((M_isForbidden_b41)) else (if (ush_L p1 (61 : Int32)) = (7 : Int64) then ((M_isForbidden_b37)) else ((M_isForbidden_b41)))
noncomputable def M_isForbidden_b77 : Int32 := (1 : Int32)
noncomputable def M_isForbidden_b81 : Int32 := (0 : Int32)
noncomputable def M_isForbidden_b60 (p1 : Int64) (p3 : Int32) : Int32 := if p3 < (8 : Int32) then ((M_isForbidden_b81)) else (if (ush_L p1 (56 : Int32)) = (255 : Int64) then ((M_isForbidden_b77)) else ((M_isForbidden_b81)))
noncomputable def M_isForbidden (p0 : Int32) (p1 : Int64) (p3 : Int32) : Int32 := if p0 = 0 then (if p3 < (8 : Int32) then ((M_isForbidden_b21 p1 p3)) else (if (ush_L p1 (56 : Int32)) = (127 : Int64) then ((M_isForbidden_b37)) else ((M_isForbidden_b21 p1 p3)))) else (if p3 < (10 : Int32) then ((M_isForbidden_b60 p1 p3)) else (if (ush_L p1 (54 : Int32)) = (1018 : Int64) then ((M_isForbidden_b77)) else ((M_isForbidden_b60 p1 p3))))
set_option maxRecDepth 100000 in
set_option maxHeartbeats 4000000 in
theorem k_isForbidden (base : Nat) (sa : Nat → Nat) {C : Nat × Nat} {R : pmM} {m : Nat} {q : Nat → Nat} {t : moS} {kc ks : Nat} {Rt : pmR} {p0 : Int32} {p1 : Int64} {p3 : Int32} {r : Int32} (hw : mW C R base m q t kc ks) (h : M_isForbidden p0 p1 p3 = r) (k : Rt (some (.int r)) (moM R m q t) kc ks) : kP_Mo_isForbidden base sa [.int p0, .long p1, .int p3] (moM R m q t) kc ks Rt := by
  refine ⟨Nat.le_of_ble_eq_true rfl, fun G hG => ?_⟩
  have b37 : JJ C R base m G 37 [] [] q t kc ks M_isForbidden_b37 r := by
    refine jj_ic hG rfl cc_i1 ?_
    refine jj_go hG (t := 42) rfl rfl ?_
    exact jj_rit hG rfl rfl rfl k
  have b41 : JJ C R base m G 41 [] [] q t kc ks M_isForbidden_b41 r := by
    refine jj_ic hG rfl cc_i0 ?_
    exact jj_rit hG rfl rfl rfl k
  have b21 : JJ C R base m G 21 [(1, .long p1), (3, .int p3)] [] q t kc ks (M_isForbidden_b21 p1 p3) r := by
    refine jjs hG rfl rfl ?_
    refine jj_ic hG rfl cc_i3 ?_
    refine jj_ilt hG (t := 41) rfl rfl ?_ ?_
    · exact jj_wl hG [] rfl (b41)
    refine jjs hG rfl rfl ?_
    refine jj_bi hG rfl cc_b61 ?_
    refine jjs hG rfl rfl ?_
    refine jj_l2 hG (v := (7 : Int64)) rfl rfl ?_
    refine jjs hG rfl rfl ?_
    refine jj_lne hG (t := 41) rfl rfl ?_ ?_
    · exact jj_wl hG [] rfl (b41)
    exact jj_wl hG [] rfl (b37)
  have b77 : JJ C R base m G 77 [] [] q t kc ks M_isForbidden_b77 r := by
    refine jj_ic hG rfl cc_i1 ?_
    refine jj_go hG (t := 82) rfl rfl ?_
    exact jj_rit hG rfl rfl rfl k
  have b81 : JJ C R base m G 81 [] [] q t kc ks M_isForbidden_b81 r := by
    refine jj_ic hG rfl cc_i0 ?_
    exact jj_rit hG rfl rfl rfl k
  have b60 : JJ C R base m G 60 [(1, .long p1), (3, .int p3)] [] q t kc ks (M_isForbidden_b60 p1 p3) r := by
    refine jjs hG rfl rfl ?_
    refine jj_bi hG rfl cc_b8 ?_
    refine jj_ilt hG (t := 81) rfl rfl ?_ ?_
    · exact jj_wl hG [] rfl (b81)
    refine jjs hG rfl rfl ?_
    refine jj_bi hG rfl cc_b56 ?_
    refine jjs hG rfl rfl ?_
    refine jj_l2 hG (v := (255 : Int64)) rfl rfl ?_
    refine jjs hG rfl rfl ?_
    refine jj_lne hG (t := 81) rfl rfl ?_ ?_
    · exact jj_wl hG [] rfl (b81)
    exact jj_wl hG [] rfl (b77)
  refine (show JJ C R base m G 0 [(0, .int p0), (1, .long p1), (3, .int p3)] [] q t kc ks (M_isForbidden p0 p1 p3) r from ?_) hw h
  refine jjs hG rfl rfl ?_
  refine jj_zne hG (t := 43) rfl rfl ?_ ?_
  · refine jjs hG rfl rfl ?_
    refine jj_bi hG rfl cc_b10 ?_
    refine jj_ilt hG (t := 60) rfl rfl ?_ ?_
    · exact jj_wl hG [1, 2] rfl (b60)
    refine jjs hG rfl rfl ?_
    refine jj_bi hG rfl cc_b54 ?_
    refine jjs hG rfl rfl ?_
    refine jj_l2 hG (v := (1018 : Int64)) rfl rfl ?_
    refine jjs hG rfl rfl ?_
    refine jj_leq hG (t := 77) rfl rfl ?_ ?_
    · exact jj_wl hG [] rfl (b77)
    exact jj_wl hG [1, 2] rfl (b60)
  refine jjs hG rfl rfl ?_
  refine jj_bi hG rfl cc_b8 ?_
  refine jj_ilt hG (t := 21) rfl rfl ?_ ?_
  · exact jj_wl hG [1, 2] rfl (b21)
  refine jjs hG rfl rfl ?_
  refine jj_bi hG rfl cc_b56 ?_
  refine jjs hG rfl rfl ?_
  refine jj_l2 hG (v := (127 : Int64)) rfl rfl ?_
  refine jjs hG rfl rfl ?_
  refine jj_leq hG (t := 37) rfl rfl ?_ ?_
  · exact jj_wl hG [] rfl (b37)
  exact jj_wl hG [1, 2] rfl (b21)
noncomputable def M_takeOver_b149 (t : moS) (p1 : Int32) (p3 : Int32) (a10 : Int32) (u1 : Int32) (u2 : Int32) : Option moS := Option.bind (wrI t 122 u1 u2) (fun s1 => (Option.bind (wrI s1 120 p3 (moS.S s1 1)) (fun s2 => (Option.bind (rdI s2 41 p1) (fun x3 => (Option.bind (wrI s2 121 p3 x3) (fun s4 => (if a10 = 0 then ((some s4)) else (Option.bind (M_markChanged s4 p1 p3) (fun s5 => ((some s5))))))))))))
noncomputable def M_takeOver_b54 (t : moS) (p1 : Int32) (p2 : Int32) (p3 : Int32) (p4 : Int32) (p5 : Int32) (p6 : Int64) (p8 : Int64) (u0 : Int32) : Option moS := Option.bind (wrI t 111 p3 p4) (fun s1 => (Option.bind (wrI s1 113 p3 p2) (fun s2 => (Option.bind (wrJ s2 114 p3 (moS.Z s2 164)) (fun s3 => (Option.bind (wrJ s3 115 p3 (moS.Z s3 165)) (fun s4 => (Option.bind (wrI s4 112 p3 p5) (fun s5 => (Option.bind (wrI s5 116 p3 p2) (fun s6 => (Option.bind (wrJ s6 117 p3 p6) (fun s7 => (Option.bind (wrJ s7 118 p3 p8) (fun s8 => (if p4 = (16 : Int32) then (Option.bind (rdI s8 42 p1) (fun x9 => ((M_takeOver_b149 s8 p1 p3 u0 p3 ((moS.S s8 1) + x9))))) else ((M_takeOver_b149 s8 p1 p3 u0 p3 ((-1) : Int32)))))))))))))))))))
noncomputable def M_takeOver_b49 (t : moS) (p1 : Int32) (p2 : Int32) (p3 : Int32) (p4 : Int32) (p5 : Int32) (p6 : Int64) (p8 : Int64) : Option moS := (M_takeOver_b54 t p1 p2 p3 p4 p5 p6 p8 (1 : Int32))
noncomputable def M_takeOver (t : moS) (p1 : Int32) (p2 : Int32) (p3 : Int32) (p4 : Int32) (p5 : Int32) (p6 : Int64) (p8 : Int64) : Option moS := Option.bind (rdI t 111 p3) (fun x1 => (if x1 = p4 then (Option.bind (rdI t 113 p3) (fun x2 => (if x2 = p2 then (Option.bind (rdJ t 114 p3) (fun x3 => (if x3 = (moS.Z t 164) then (Option.bind (rdJ t 115 p3) (fun x4 => (if x4 = (moS.Z t 165) then ((M_takeOver_b54 t p1 p2 p3 p4 p5 p6 p8 (0 : Int32))) else ((M_takeOver_b49 t p1 p2 p3 p4 p5 p6 p8))))) else ((M_takeOver_b49 t p1 p2 p3 p4 p5 p6 p8))))) else ((M_takeOver_b49 t p1 p2 p3 p4 p5 p6 p8))))) else ((M_takeOver_b49 t p1 p2 p3 p4 p5 p6 p8))))
set_option maxRecDepth 100000 in
set_option maxHeartbeats 4000000 in
theorem k_takeOver (base : Nat) (sa : Nat → Nat) {C : Nat × Nat} {R : pmM} {m : Nat} {q : Nat → Nat} {t tz : moS} {kc ks : Nat} {Rt : pmR} {p1 : Int32} {p2 : Int32} {p3 : Int32} {p4 : Int32} {p5 : Int32} {p6 : Int64} {p8 : Int64} (hw : mW C R base m q t kc ks) (h : M_takeOver t p1 p2 p3 p4 p5 p6 p8 = (some tz)) (k : mW C R base m q tz kc ks → Rt none (moM R m q tz) kc ks) : kP_Mo_takeOver base sa [.ref m, .int p1, .int p2, .int p3, .int p4, .int p5, .long p6, .long p8] (moM R m q t) kc ks Rt := by
  refine ⟨Nat.le_of_ble_eq_true rfl, fun G hG => ?_⟩
  have b149 : ∀ (a10 : Int32) (u1 : Int32) (u2 : Int32) (t : moS), JJ C R base m G 149 [(0, .ref m), (1, .int p1), (3, .int p3), (10, .int a10)] [.int u2, .int u1, .ref (q 122)] q t kc ks (M_takeOver_b149 t p1 p3 a10 u1 u2) (some tz) := by
    intro a10 u1 u2 t
    refine jj_is hG (k := 122) rfl rfl rfl (fun s1 => ?_)
    refine jjs hG rfl rfl ?_
    refine jj_gr hG (k := 120) rfl rfl rfl rfl ?_
    refine jjs hG rfl rfl ?_
    refine jjs hG rfl rfl ?_
    refine jj_gi hG (k := 1) rfl rfl rfl rfl ?_
    refine jj_is hG (k := 120) rfl rfl rfl (fun s2 => ?_)
    refine jjs hG rfl rfl ?_
    refine jj_gr hG (k := 121) rfl rfl rfl rfl ?_
    refine jjs hG rfl rfl ?_
    refine jjs hG rfl rfl ?_
    refine jj_gr hG (k := 41) rfl rfl rfl rfl ?_
    refine jjs hG rfl rfl ?_
    refine jj_ia hG (k := 41) rfl rfl rfl (fun x3 => ?_)
    refine jj_is hG (k := 121) rfl rfl rfl (fun s4 => ?_)
    refine jjs hG rfl rfl ?_
    refine jj_zeq hG (t := 183) rfl rfl ?_ ?_
    · exact jj_rvS hG rfl rfl (k)
    refine jjs hG rfl rfl ?_
    refine jjs hG rfl rfl ?_
    refine jjs hG rfl rfl ?_
    refine jj_cv hG 0 rfl rfl (Nat.le_of_ble_eq_true rfl) (by decide) (Nat.le_of_ble_eq_true rfl) rfl (st' := []) rfl (fun _ _ hw h k => pm_rcv_of moM_m (k_markChanged base sa hw h k)) (fun s5 => ?_)
    exact jj_rvS hG rfl rfl (k)
  have b54 : ∀ (u0 : Int32) (t : moS), JJ C R base m G 54 [(0, .ref m), (1, .int p1), (2, .int p2), (3, .int p3), (4, .int p4), (5, .int p5), (6, .long p6), (8, .long p8)] [.int u0] q t kc ks (M_takeOver_b54 t p1 p2 p3 p4 p5 p6 p8 u0) (some tz) := by
    intro u0 t
    refine jjc hG rfl rfl (Nat.le_of_ble_eq_true rfl) ?_
    refine jjs hG rfl rfl ?_
    refine jj_gr hG (k := 111) rfl rfl rfl rfl ?_
    refine jjs hG rfl rfl ?_
    refine jjs hG rfl rfl ?_
    refine jj_is hG (k := 111) rfl rfl rfl (fun s1 => ?_)
    refine jjs hG rfl rfl ?_
    refine jj_gr hG (k := 113) rfl rfl rfl rfl ?_
    refine jjs hG rfl rfl ?_
    refine jjs hG rfl rfl ?_
    refine jj_is hG (k := 113) rfl rfl rfl (fun s2 => ?_)
    refine jjs hG rfl rfl ?_
    refine jj_gr hG (k := 114) rfl rfl rfl rfl ?_
    refine jjs hG rfl rfl ?_
    refine jjs hG rfl rfl ?_
    refine jj_gz hG (k := 164) rfl rfl rfl rfl ?_
    refine jj_ls hG (k := 114) rfl rfl rfl (fun s3 => ?_)
    refine jjs hG rfl rfl ?_
    refine jj_gr hG (k := 115) rfl rfl rfl rfl ?_
    refine jjs hG rfl rfl ?_
    refine jjs hG rfl rfl ?_
    refine jj_gz hG (k := 165) rfl rfl rfl rfl ?_
    refine jj_ls hG (k := 115) rfl rfl rfl (fun s4 => ?_)
    refine jjs hG rfl rfl ?_
    refine jj_gr hG (k := 112) rfl rfl rfl rfl ?_
    refine jjs hG rfl rfl ?_
    refine jjs hG rfl rfl ?_
    refine jj_is hG (k := 112) rfl rfl rfl (fun s5 => ?_)
    refine jjs hG rfl rfl ?_
    refine jj_gr hG (k := 116) rfl rfl rfl rfl ?_
    refine jjs hG rfl rfl ?_
    refine jjs hG rfl rfl ?_
    refine jj_is hG (k := 116) rfl rfl rfl (fun s6 => ?_)
    refine jjs hG rfl rfl ?_
    refine jj_gr hG (k := 117) rfl rfl rfl rfl ?_
    refine jjs hG rfl rfl ?_
    refine jjs hG rfl rfl ?_
    refine jj_ls hG (k := 117) rfl rfl rfl (fun s7 => ?_)
    refine jjs hG rfl rfl ?_
    refine jj_gr hG (k := 118) rfl rfl rfl rfl ?_
    refine jjs hG rfl rfl ?_
    refine jjs hG rfl rfl ?_
    refine jj_ls hG (k := 118) rfl rfl rfl (fun s8 => ?_)
    refine jjs hG rfl rfl ?_
    refine jj_gr hG (k := 122) rfl rfl rfl rfl ?_
    refine jjs hG rfl rfl ?_
    refine jjs hG rfl rfl ?_
    refine jj_bi hG rfl cc_b16 ?_
    refine jj_ine hG (t := 148) rfl rfl ?_ ?_
    · refine jj_ic hG rfl cc_im1 ?_
      exact jj_wl hG [1, 2, 4, 0] rfl (b149 _ _ _ _)
    refine jjs hG rfl rfl ?_
    refine jj_gi hG (k := 1) rfl rfl rfl rfl ?_
    refine jjs hG rfl rfl ?_
    refine jj_gr hG (k := 42) rfl rfl rfl rfl ?_
    refine jjs hG rfl rfl ?_
    refine jj_ia hG (k := 42) rfl rfl rfl (fun x9 => ?_)
    refine jjs hG rfl rfl ?_
    refine jj_go hG (t := 149) rfl rfl ?_
    exact jj_wl hG [1, 2, 4, 0] rfl (b149 _ _ _ _)
  have b49 : ∀ (t : moS), JJ C R base m G 49 [(0, .ref m), (1, .int p1), (2, .int p2), (3, .int p3), (4, .int p4), (5, .int p5), (6, .long p6), (8, .long p8)] [] q t kc ks (M_takeOver_b49 t p1 p2 p3 p4 p5 p6 p8) (some tz) := by
    intro t
    refine jj_ic hG rfl cc_i1 ?_
    refine jj_go hG (t := 54) rfl rfl ?_
    exact jj_wl hG [0, 1, 2, 3, 4, 5, 6, 7] rfl (b54 _ _)
  refine (show JJ C R base m G 0 [(0, .ref m), (1, .int p1), (2, .int p2), (3, .int p3), (4, .int p4), (5, .int p5), (6, .long p6), (8, .long p8)] [] q t kc ks (M_takeOver t p1 p2 p3 p4 p5 p6 p8) (some tz) from ?_) hw h
  refine jjs hG rfl rfl ?_
  refine jj_gr hG (k := 111) rfl rfl rfl rfl ?_
  refine jjs hG rfl rfl ?_
  refine jj_ia hG (k := 111) rfl rfl rfl (fun x1 => ?_)
  refine jjs hG rfl rfl ?_
  refine jj_ine hG (t := 49) rfl rfl ?_ ?_
  · exact jj_wl hG [0, 1, 2, 3, 4, 5, 6, 7] rfl (b49 _)
  refine jjs hG rfl rfl ?_
  refine jj_gr hG (k := 113) rfl rfl rfl rfl ?_
  refine jjs hG rfl rfl ?_
  refine jj_ia hG (k := 113) rfl rfl rfl (fun x2 => ?_)
  refine jjs hG rfl rfl ?_
  refine jj_ine hG (t := 49) rfl rfl ?_ ?_
  · exact jj_wl hG [0, 1, 2, 3, 4, 5, 6, 7] rfl (b49 _)
  refine jjs hG rfl rfl ?_
  refine jj_gr hG (k := 114) rfl rfl rfl rfl ?_
  refine jjs hG rfl rfl ?_
  refine jj_la hG (k := 114) rfl rfl rfl (fun x3 => ?_)
  refine jjs hG rfl rfl ?_
  refine jj_gz hG (k := 164) rfl rfl rfl rfl ?_
  refine jjs hG rfl rfl ?_
  refine jj_lne hG (t := 49) rfl rfl ?_ ?_
  · exact jj_wl hG [0, 1, 2, 3, 4, 5, 6, 7] rfl (b49 _)
  refine jjs hG rfl rfl ?_
  refine jj_gr hG (k := 115) rfl rfl rfl rfl ?_
  refine jjs hG rfl rfl ?_
  refine jj_la hG (k := 115) rfl rfl rfl (fun x4 => ?_)
  refine jjs hG rfl rfl ?_
  refine jj_gz hG (k := 165) rfl rfl rfl rfl ?_
  refine jjs hG rfl rfl ?_
  refine jj_leq hG (t := 53) rfl rfl ?_ ?_
  · refine jj_ic hG rfl cc_i0 ?_
    exact jj_wl hG [0, 1, 2, 3, 4, 5, 6, 7] rfl (b54 _ _)
  exact jj_wl hG [0, 1, 2, 3, 4, 5, 6, 7] rfl (b49 _)
noncomputable def M_learn_b79 (t : moS) (p1 : Int32) (p2 : Int32) (p3 : Int32) (p4 : Int32) (p5 : Int32) (p6 : Int64) (p8 : Int64) (a12 : Int32) (u0 : Int32) (u1 : Int32) : Option ((Int32 × Int32 × moS) ⊕ moS) := (some (.inl ((u0 + u1), (a12 + (1 : Int32)), t)))
noncomputable def M_learn_s44 (t : moS) (p1 : Int32) (p2 : Int32) (p3 : Int32) (p4 : Int32) (p5 : Int32) (p6 : Int64) (p8 : Int64) (a11 : Int32) (a12 : Int32) : Option ((Int32 × Int32 × moS) ⊕ moS) := Option.bind (rdI t 105 p1) (fun x1 => (if a12 < (((2700 : Int32) * p1) + x1) then (Option.bind (rdI t 106 a12) (fun x9 => (if x9 = p3 then ((M_learn_b79 t p1 p2 p3 p4 p5 p6 p8 a12 a11 (1 : Int32))) else ((M_learn_b79 t p1 p2 p3 p4 p5 p6 p8 a12 a11 (0 : Int32)))))) else ((xo (if a11 < (60 : Int32) then (bn2 (M_insert t p1 p3 (moS.Z t 13) (moS.Z t 14) (moS.S t 15)) (fun x3 s2 => (Option.bind (wrI s2 110 x3 (2 : Int32)) (fun s4 => (Option.bind (wrI s4 111 x3 (99 : Int32)) (fun s5 => (Option.bind (wrI s5 113 x3 ((-1) : Int32)) (fun s6 => (Option.bind (M_takeOver s6 p1 p2 x3 p4 p5 p6 p8) (fun s7 => ((some s7)))))))))))) else (Option.bind (M_tally t p1 (4 : Int32) (1 : Int32)) (fun s8 => ((some s8)))))))))
noncomputable def M_learn_b44 (t : moS) (p1 : Int32) (p2 : Int32) (p3 : Int32) (p4 : Int32) (p5 : Int32) (p6 : Int64) (p8 : Int64) (a11 : Int32) (a12 : Int32) : Option moS := lp (fun x => M_learn_s44 x.2.2 p1 p2 p3 p4 p5 p6 p8 x.1 x.2.1) (a11, a12, t)
noncomputable def M_learn_b368 (t : moS) (p1 : Int32) (p2 : Int32) (p4 : Int32) (p5 : Int32) (p6 : Int64) (p8 : Int64) (a10 : Int32) (u0 : Int32) : Option moS := if u0 = 0 then ((some t)) else (Option.bind (M_takeOver t p1 p2 a10 p4 p5 p6 p8) (fun s1 => ((some s1))))
noncomputable def M_learn_b367 (t : moS) (p1 : Int32) (p2 : Int32) (p4 : Int32) (p5 : Int32) (p6 : Int64) (p8 : Int64) (a10 : Int32) : Option moS := (M_learn_b368 t p1 p2 p4 p5 p6 p8 a10 (0 : Int32))
noncomputable def M_learn_b455 (t : moS) (p1 : Int32) (p2 : Int32) (p4 : Int32) (p5 : Int32) (p6 : Int64) (p8 : Int64) (a10 : Int32) : Option moS := Option.bind (M_takeOver t p1 p2 a10 p4 p5 p6 p8) (fun s1 => ((some s1)))
noncomputable def M_learn_b433 (t : moS) (p1 : Int32) (p2 : Int32) (p4 : Int32) (p5 : Int32) (p6 : Int64) (p8 : Int64) (a10 : Int32) (a12 : Int32) (a13 : Int32) (a14 : Int32) : Option moS := if a13 = 0 then (if a14 = 0 then ((some t)) else (if a12 = 0 then ((M_learn_b455 t p1 p2 p4 p5 p6 p8 a10)) else (if p4 = (16 : Int32) then ((some t)) else ((M_learn_b455 t p1 p2 p4 p5 p6 p8 a10))))) else ((M_learn_b455 t p1 p2 p4 p5 p6 p8 a10))
noncomputable def M_learn_b392 (t : moS) (p1 : Int32) (p2 : Int32) (p4 : Int32) (p5 : Int32) (p6 : Int64) (p8 : Int64) (a10 : Int32) (a11 : Int32) (a12 : Int32) (a13 : Int32) (a14 : Int32) : Option moS := if a11 = 0 then ((M_learn_b433 t p1 p2 p4 p5 p6 p8 a10 a12 a13 a14)) else (if a12 = 0 then (if p4 < (16 : Int32) then (Option.bind (wrI t 120 a10 (moS.S t 1)) (fun s1 => (Option.bind (rdI s1 41 p1) (fun x2 => (Option.bind (wrI s1 121 a10 x2) (fun s3 => ((M_learn_b433 s3 p1 p2 p4 p5 p6 p8 a10 a12 a13 a14)))))))) else ((M_learn_b433 t p1 p2 p4 p5 p6 p8 a10 a12 a13 a14))) else ((M_learn_b433 t p1 p2 p4 p5 p6 p8 a10 a12 a13 a14)))
noncomputable def M_learn_b306 (t : moS) (p1 : Int32) (p2 : Int32) (p4 : Int32) (p5 : Int32) (p6 : Int64) (p8 : Int64) (a10 : Int32) (a11 : Int32) (a12 : Int32) (a13 : Int32) (u0 : Int32) : Option moS := if a11 = 0 then (if a13 = 0 then (Option.bind (rdI t 111 a10) (fun x1 => (if p4 = x1 then (if p4 < (16 : Int32) then (Option.bind (rdI t 120 a10) (fun x2 => (Option.bind (rdI t 121 a10) (fun x3 => (if ((moS.S t 1) - x2) < ((x3 + (1 : Int32)) / (2 : Int32)) then ((M_learn_b367 t p1 p2 p4 p5 p6 p8 a10)) else ((M_learn_b368 t p1 p2 p4 p5 p6 p8 a10 (1 : Int32)))))))) else ((M_learn_b367 t p1 p2 p4 p5 p6 p8 a10))) else ((M_learn_b367 t p1 p2 p4 p5 p6 p8 a10))))) else ((M_learn_b392 t p1 p2 p4 p5 p6 p8 a10 a11 a12 a13 u0))) else ((M_learn_b392 t p1 p2 p4 p5 p6 p8 a10 a11 a12 a13 u0))
noncomputable def M_learn_b301 (t : moS) (p1 : Int32) (p2 : Int32) (p4 : Int32) (p5 : Int32) (p6 : Int64) (p8 : Int64) (a10 : Int32) (a11 : Int32) (a12 : Int32) (a13 : Int32) : Option moS := (M_learn_b306 t p1 p2 p4 p5 p6 p8 a10 a11 a12 a13 (1 : Int32))
noncomputable def M_learn_b257 (t : moS) (p1 : Int32) (p2 : Int32) (p4 : Int32) (p5 : Int32) (p6 : Int64) (p8 : Int64) (a10 : Int32) (a11 : Int32) (a12 : Int32) (u0 : Int32) : Option moS := Option.bind (rdI t 111 a10) (fun x1 => (if p4 = x1 then (Option.bind (rdJ t 114 a10) (fun x2 => (if x2 = (moS.Z t 164) then (Option.bind (rdJ t 115 a10) (fun x3 => (if x3 = (moS.Z t 165) then ((M_learn_b306 t p1 p2 p4 p5 p6 p8 a10 a11 a12 u0 (0 : Int32))) else ((M_learn_b301 t p1 p2 p4 p5 p6 p8 a10 a11 a12 u0))))) else ((M_learn_b301 t p1 p2 p4 p5 p6 p8 a10 a11 a12 u0))))) else ((M_learn_b301 t p1 p2 p4 p5 p6 p8 a10 a11 a12 u0))))
noncomputable def M_learn_b238 (t : moS) (p1 : Int32) (p2 : Int32) (p4 : Int32) (p5 : Int32) (p6 : Int64) (p8 : Int64) (a10 : Int32) (a11 : Int32) (u0 : Int32) : Option moS := Option.bind (rdI t 111 a10) (fun x1 => (if p4 < x1 then ((M_learn_b257 t p1 p2 p4 p5 p6 p8 a10 a11 u0 (1 : Int32))) else ((M_learn_b257 t p1 p2 p4 p5 p6 p8 a10 a11 u0 (0 : Int32)))))
noncomputable def M_learn_b219 (t : moS) (p1 : Int32) (p2 : Int32) (p4 : Int32) (p5 : Int32) (p6 : Int64) (p8 : Int64) (a10 : Int32) (u0 : Int32) : Option moS := Option.bind (rdI t 111 a10) (fun x1 => (if x1 = (16 : Int32) then ((M_learn_b238 t p1 p2 p4 p5 p6 p8 a10 u0 (1 : Int32))) else ((M_learn_b238 t p1 p2 p4 p5 p6 p8 a10 u0 (0 : Int32)))))
noncomputable def M_learn_b218 (t : moS) (p1 : Int32) (p2 : Int32) (p4 : Int32) (p5 : Int32) (p6 : Int64) (p8 : Int64) (a10 : Int32) : Option moS := (M_learn_b219 t p1 p2 p4 p5 p6 p8 a10 (0 : Int32))
noncomputable def M_learn (t : moS) (p1 : Int32) (p2 : Int32) (p3 : Int32) (p4 : Int32) (p5 : Int32) (p6 : Int64) (p8 : Int64) : Option moS := Option.bind (M_find t p1 p3 (moS.Z t 13) (moS.Z t 14) (moS.S t 15)) (fun x1 => (if x1 = ((-1) : Int32) then (if p4 = (16 : Int32) then ((some t)) else ((M_learn_b44 t p1 p2 p3 p4 p5 p6 p8 (0 : Int32) ((2700 : Int32) * p1)))) else (Option.bind (rdI t 110 x1) (fun x2 => (if x2 = (2 : Int32) then (Option.bind (rdI t 116 x1) (fun x3 => (if x3 = p2 then (Option.bind (rdJ t 117 x1) (fun x4 => (if x4 = p6 then (Option.bind (rdJ t 118 x1) (fun x5 => (if x5 = p8 then ((M_learn_b219 t p1 p2 p4 p5 p6 p8 x1 (1 : Int32))) else ((M_learn_b218 t p1 p2 p4 p5 p6 p8 x1))))) else ((M_learn_b218 t p1 p2 p4 p5 p6 p8 x1))))) else ((M_learn_b218 t p1 p2 p4 p5 p6 p8 x1))))) else ((some t)))))))
set_option maxRecDepth 100000 in
set_option maxHeartbeats 4000000 in
theorem k_learn (base : Nat) (sa : Nat → Nat) {C : Nat × Nat} {R : pmM} {m : Nat} {q : Nat → Nat} {t tz : moS} {kc ks : Nat} {Rt : pmR} {p1 : Int32} {p2 : Int32} {p3 : Int32} {p4 : Int32} {p5 : Int32} {p6 : Int64} {p8 : Int64} (hw : mW C R base m q t kc ks) (h : M_learn t p1 p2 p3 p4 p5 p6 p8 = (some tz)) (k : mW C R base m q tz kc ks → Rt none (moM R m q tz) kc ks) : kP_Mo_learn base sa [.ref m, .int p1, .int p2, .int p3, .int p4, .int p5, .long p6, .long p8] (moM R m q t) kc ks Rt := by
  refine ⟨Nat.le_of_ble_eq_true rfl, fun G hG => ?_⟩
  have b44 : ∀ (n : Nat) (a11 : Int32) (a12 : Int32) (t : moS), JJ C R base m G 44 [(0, .ref m), (1, .int p1), (2, .int p2), (3, .int p3), (4, .int p4), (5, .int p5), (6, .long p6), (8, .long p8), (11, .int a11), (12, .int a12)] [] q t kc ks (lpN (fun x => M_learn_s44 x.2.2 p1 p2 p3 p4 p5 p6 p8 x.1 x.2.1) n (a11, a12, t)) (some tz) := by
    intro n
    induction n with
    | zero => intro a11 a12 t; exact jj_lp0
    | succ n ih44 =>
      intro a11 a12 t
      refine jj_lpS (fun y44 c44 => ?_)
      have b79 : ∀ (a12 : Int32) (u0 : Int32) (u1 : Int32) (t : moS), JJ C R base m G 79 [(0, .ref m), (1, .int p1), (2, .int p2), (3, .int p3), (4, .int p4), (5, .int p5), (6, .long p6), (8, .long p8), (12, .int a12)] [.int u1, .int u0] q t kc ks (M_learn_b79 t p1 p2 p3 p4 p5 p6 p8 a12 u0 u1) (some y44) := by
        intro a12 u0 u1 t
        refine jjs hG rfl rfl ?_
        refine jjc hG rfl rfl (Nat.le_of_ble_eq_true rfl) ?_
        refine jj_inc hG rfl (Nat.le_of_ble_eq_true rfl) rfl cc_i1 ?_
        refine jj_go hG (t := 44) rfl rfl ?_
        exact jj_back c44 (jj_wl hG [2, 3, 4, 5, 6, 7, 8, 9, 1, 0] rfl (ih44 _ _ _))
      refine (show JJ C R base m G 44 [(0, .ref m), (1, .int p1), (2, .int p2), (3, .int p3), (4, .int p4), (5, .int p5), (6, .long p6), (8, .long p8), (11, .int a11), (12, .int a12)] [] q t kc ks (M_learn_s44 t p1 p2 p3 p4 p5 p6 p8 a11 a12) (some y44) from ?_)
      refine jjs hG rfl rfl ?_
      refine jj_si hG rfl cc_s2700 ?_
      refine jjs hG rfl rfl ?_
      refine jjs hG rfl rfl ?_
      refine jjs hG rfl rfl ?_
      refine jj_gr hG (k := 105) rfl rfl rfl rfl ?_
      refine jjs hG rfl rfl ?_
      refine jj_ia hG (k := 105) rfl rfl rfl (fun x1 => ?_)
      refine jjs hG rfl rfl ?_
      refine jj_ige hG (t := 88) rfl rfl ?_ ?_
      · refine jj_exit c44 ?_
        refine jjs hG rfl rfl ?_
        refine jj_bi hG rfl cc_b60 ?_
        refine jj_ilt hG (t := 103) rfl rfl ?_ ?_
        · refine jjs hG rfl rfl ?_
          refine jjs hG rfl rfl ?_
          refine jjs hG rfl rfl ?_
          refine jjs hG rfl rfl ?_
          refine jj_gz hG (k := 13) rfl rfl rfl rfl ?_
          refine jjs hG rfl rfl ?_
          refine jj_gz hG (k := 14) rfl rfl rfl rfl ?_
          refine jjs hG rfl rfl ?_
          refine jj_gi hG (k := 15) rfl rfl rfl rfl ?_
          refine jj_cs hG 0 rfl rfl (Nat.le_of_ble_eq_true rfl) (by decide) (Nat.le_of_ble_eq_true rfl) rfl (st' := []) rfl (w := .int) (fun _ _ _ hw h k => pm_rcv_of moM_m (k_insert base sa hw h k)) (fun x3 s2 => ?_)
          refine jjc hG rfl rfl (Nat.le_of_ble_eq_true rfl) ?_
          refine jjs hG rfl rfl ?_
          refine jj_gr hG (k := 110) rfl rfl rfl rfl ?_
          refine jjs hG rfl rfl ?_
          refine jj_ic hG rfl cc_i2 ?_
          refine jj_is hG (k := 110) rfl rfl rfl (fun s4 => ?_)
          refine jjs hG rfl rfl ?_
          refine jj_gr hG (k := 111) rfl rfl rfl rfl ?_
          refine jjs hG rfl rfl ?_
          refine jj_bi hG rfl cc_b99 ?_
          refine jj_is hG (k := 111) rfl rfl rfl (fun s5 => ?_)
          refine jjs hG rfl rfl ?_
          refine jj_gr hG (k := 113) rfl rfl rfl rfl ?_
          refine jjs hG rfl rfl ?_
          refine jj_ic hG rfl cc_im1 ?_
          refine jj_is hG (k := 113) rfl rfl rfl (fun s6 => ?_)
          refine jjs hG rfl rfl ?_
          refine jjs hG rfl rfl ?_
          refine jjs hG rfl rfl ?_
          refine jjs hG rfl rfl ?_
          refine jjs hG rfl rfl ?_
          refine jjs hG rfl rfl ?_
          refine jjs hG rfl rfl ?_
          refine jjs hG rfl rfl ?_
          refine jj_cv hG 0 rfl rfl (Nat.le_of_ble_eq_true rfl) (by decide) (Nat.le_of_ble_eq_true rfl) rfl (st' := []) rfl (fun _ _ hw h k => pm_rcv_of moM_m (k_takeOver base sa hw h k)) (fun s7 => ?_)
          exact jj_rvS hG rfl rfl (k)
        refine jjs hG rfl rfl ?_
        refine jjs hG rfl rfl ?_
        refine jj_ic hG rfl cc_i4 ?_
        refine jj_ic hG rfl cc_i1 ?_
        refine jj_cv hG 0 rfl rfl (Nat.le_of_ble_eq_true rfl) (by decide) (Nat.le_of_ble_eq_true rfl) rfl (st' := []) rfl (fun _ _ hw h k => pm_rcv_of moM_m (k_tally base sa hw h k)) (fun s8 => ?_)
        exact jj_rvS hG rfl rfl (k)
      refine jjs hG rfl rfl ?_
      refine jjs hG rfl rfl ?_
      refine jj_gr hG (k := 106) rfl rfl rfl rfl ?_
      refine jjs hG rfl rfl ?_
      refine jj_ia hG (k := 106) rfl rfl rfl (fun x9 => ?_)
      refine jjs hG rfl rfl ?_
      refine jj_ine hG (t := 78) rfl rfl ?_ ?_
      · refine jj_ic hG rfl cc_i0 ?_
        exact jj_wl hG [0, 1, 2, 3, 4, 5, 6, 7, 9] rfl (b79 _ _ _ _)
      refine jj_ic hG rfl cc_i1 ?_
      refine jj_go hG (t := 79) rfl rfl ?_
      exact jj_wl hG [0, 1, 2, 3, 4, 5, 6, 7, 9] rfl (b79 _ _ _ _)
  have b368 : ∀ (a10 : Int32) (u0 : Int32) (t : moS), JJ C R base m G 368 [(0, .ref m), (1, .int p1), (2, .int p2), (4, .int p4), (5, .int p5), (6, .long p6), (8, .long p8), (10, .int a10)] [.int u0] q t kc ks (M_learn_b368 t p1 p2 p4 p5 p6 p8 a10 u0) (some tz) := by
    intro a10 u0 t
    refine jjc hG rfl rfl (Nat.le_of_ble_eq_true rfl) ?_
    refine jjs hG rfl rfl ?_
    refine jj_zeq hG (t := 391) rfl rfl ?_ ?_
    · exact jj_rvS hG rfl rfl (k)
    refine jjs hG rfl rfl ?_
    refine jjs hG rfl rfl ?_
    refine jjs hG rfl rfl ?_
    refine jjs hG rfl rfl ?_
    refine jjs hG rfl rfl ?_
    refine jjs hG rfl rfl ?_
    refine jjs hG rfl rfl ?_
    refine jjs hG rfl rfl ?_
    refine jj_cv hG 0 rfl rfl (Nat.le_of_ble_eq_true rfl) (by decide) (Nat.le_of_ble_eq_true rfl) rfl (st' := []) rfl (fun _ _ hw h k => pm_rcv_of moM_m (k_takeOver base sa hw h k)) (fun s1 => ?_)
    exact jj_rvS hG rfl rfl (k)
  have b367 : ∀ (a10 : Int32) (t : moS), JJ C R base m G 367 [(0, .ref m), (1, .int p1), (2, .int p2), (4, .int p4), (5, .int p5), (6, .long p6), (8, .long p8), (10, .int a10)] [] q t kc ks (M_learn_b367 t p1 p2 p4 p5 p6 p8 a10) (some tz) := by
    intro a10 t
    refine jj_ic hG rfl cc_i0 ?_
    exact jj_wl hG [0, 1, 2, 3, 4, 5, 6, 7] rfl (b368 _ _ _)
  have b455 : ∀ (a10 : Int32) (t : moS), JJ C R base m G 455 [(0, .ref m), (1, .int p1), (2, .int p2), (4, .int p4), (5, .int p5), (6, .long p6), (8, .long p8), (10, .int a10)] [] q t kc ks (M_learn_b455 t p1 p2 p4 p5 p6 p8 a10) (some tz) := by
    intro a10 t
    refine jjs hG rfl rfl ?_
    refine jjs hG rfl rfl ?_
    refine jjs hG rfl rfl ?_
    refine jjs hG rfl rfl ?_
    refine jjs hG rfl rfl ?_
    refine jjs hG rfl rfl ?_
    refine jjs hG rfl rfl ?_
    refine jjs hG rfl rfl ?_
    refine jj_cv hG 0 rfl rfl (Nat.le_of_ble_eq_true rfl) (by decide) (Nat.le_of_ble_eq_true rfl) rfl (st' := []) rfl (fun _ _ hw h k => pm_rcv_of moM_m (k_takeOver base sa hw h k)) (fun s1 => ?_)
    exact jj_rvS hG rfl rfl (k)
  have b433 : ∀ (a10 : Int32) (a12 : Int32) (a13 : Int32) (a14 : Int32) (t : moS), JJ C R base m G 433 [(0, .ref m), (1, .int p1), (2, .int p2), (4, .int p4), (5, .int p5), (6, .long p6), (8, .long p8), (10, .int a10), (12, .int a12), (13, .int a13), (14, .int a14)] [] q t kc ks (M_learn_b433 t p1 p2 p4 p5 p6 p8 a10 a12 a13 a14) (some tz) := by
    intro a10 a12 a13 a14 t
    refine jjs hG rfl rfl ?_
    refine jj_zne hG (t := 455) rfl rfl ?_ ?_
    · exact jj_wl hG [0, 1, 2, 3, 4, 5, 6, 7] rfl (b455 _ _)
    refine jjs hG rfl rfl ?_
    refine jj_zeq hG (t := 471) rfl rfl ?_ ?_
    · exact jj_rvS hG rfl rfl (k)
    refine jjs hG rfl rfl ?_
    refine jj_zeq hG (t := 455) rfl rfl ?_ ?_
    · exact jj_wl hG [0, 1, 2, 3, 4, 5, 6, 7] rfl (b455 _ _)
    refine jjs hG rfl rfl ?_
    refine jj_bi hG rfl cc_b16 ?_
    refine jj_ieq hG (t := 471) rfl rfl ?_ ?_
    · exact jj_rvS hG rfl rfl (k)
    exact jj_wl hG [0, 1, 2, 3, 4, 5, 6, 7] rfl (b455 _ _)
  have b392 : ∀ (a10 : Int32) (a11 : Int32) (a12 : Int32) (a13 : Int32) (a14 : Int32) (t : moS), JJ C R base m G 392 [(0, .ref m), (1, .int p1), (2, .int p2), (4, .int p4), (5, .int p5), (6, .long p6), (8, .long p8), (10, .int a10), (11, .int a11), (12, .int a12), (13, .int a13), (14, .int a14)] [] q t kc ks (M_learn_b392 t p1 p2 p4 p5 p6 p8 a10 a11 a12 a13 a14) (some tz) := by
    intro a10 a11 a12 a13 a14 t
    refine jjs hG rfl rfl ?_
    refine jj_zeq hG (t := 433) rfl rfl ?_ ?_
    · exact jj_wl hG [0, 1, 2, 3, 4, 5, 6, 7, 9, 10, 11] rfl (b433 _ _ _ _ _)
    refine jjs hG rfl rfl ?_
    refine jj_zne hG (t := 433) rfl rfl ?_ ?_
    · exact jj_wl hG [0, 1, 2, 3, 4, 5, 6, 7, 9, 10, 11] rfl (b433 _ _ _ _ _)
    refine jjs hG rfl rfl ?_
    refine jj_bi hG rfl cc_b16 ?_
    refine jj_ige hG (t := 433) rfl rfl ?_ ?_
    · exact jj_wl hG [0, 1, 2, 3, 4, 5, 6, 7, 9, 10, 11] rfl (b433 _ _ _ _ _)
    refine jjs hG rfl rfl ?_
    refine jj_gr hG (k := 120) rfl rfl rfl rfl ?_
    refine jjs hG rfl rfl ?_
    refine jjs hG rfl rfl ?_
    refine jj_gi hG (k := 1) rfl rfl rfl rfl ?_
    refine jj_is hG (k := 120) rfl rfl rfl (fun s1 => ?_)
    refine jjs hG rfl rfl ?_
    refine jj_gr hG (k := 121) rfl rfl rfl rfl ?_
    refine jjs hG rfl rfl ?_
    refine jjs hG rfl rfl ?_
    refine jj_gr hG (k := 41) rfl rfl rfl rfl ?_
    refine jjs hG rfl rfl ?_
    refine jj_ia hG (k := 41) rfl rfl rfl (fun x2 => ?_)
    refine jj_is hG (k := 121) rfl rfl rfl (fun s3 => ?_)
    exact jj_wl hG [0, 1, 2, 3, 4, 5, 6, 7, 9, 10, 11] rfl (b433 _ _ _ _ _)
  have b306 : ∀ (a10 : Int32) (a11 : Int32) (a12 : Int32) (a13 : Int32) (u0 : Int32) (t : moS), JJ C R base m G 306 [(0, .ref m), (1, .int p1), (2, .int p2), (4, .int p4), (5, .int p5), (6, .long p6), (8, .long p8), (10, .int a10), (11, .int a11), (12, .int a12), (13, .int a13)] [.int u0] q t kc ks (M_learn_b306 t p1 p2 p4 p5 p6 p8 a10 a11 a12 a13 u0) (some tz) := by
    intro a10 a11 a12 a13 u0 t
    refine jjc hG rfl rfl (Nat.le_of_ble_eq_true rfl) ?_
    refine jjs hG rfl rfl ?_
    refine jj_zne hG (t := 392) rfl rfl ?_ ?_
    · exact jj_wl hG [1, 2, 3, 4, 5, 6, 7, 8, 9, 10, 11, 0] rfl (b392 _ _ _ _ _ _)
    refine jjs hG rfl rfl ?_
    refine jj_zne hG (t := 392) rfl rfl ?_ ?_
    · exact jj_wl hG [1, 2, 3, 4, 5, 6, 7, 8, 9, 10, 11, 0] rfl (b392 _ _ _ _ _ _)
    refine jjs hG rfl rfl ?_
    refine jjs hG rfl rfl ?_
    refine jj_gr hG (k := 111) rfl rfl rfl rfl ?_
    refine jjs hG rfl rfl ?_
    refine jj_ia hG (k := 111) rfl rfl rfl (fun x1 => ?_)
    refine jj_ine hG (t := 367) rfl rfl ?_ ?_
    · exact jj_wl hG [1, 2, 3, 4, 5, 6, 7, 8] rfl (b367 _ _)
    refine jjs hG rfl rfl ?_
    refine jj_bi hG rfl cc_b16 ?_
    refine jj_ige hG (t := 367) rfl rfl ?_ ?_
    · exact jj_wl hG [1, 2, 3, 4, 5, 6, 7, 8] rfl (b367 _ _)
    refine jjs hG rfl rfl ?_
    refine jj_gi hG (k := 1) rfl rfl rfl rfl ?_
    refine jjs hG rfl rfl ?_
    refine jj_gr hG (k := 120) rfl rfl rfl rfl ?_
    refine jjs hG rfl rfl ?_
    refine jj_ia hG (k := 120) rfl rfl rfl (fun x2 => ?_)
    refine jjs hG rfl rfl ?_
    refine jjs hG rfl rfl ?_
    refine jj_gr hG (k := 121) rfl rfl rfl rfl ?_
    refine jjs hG rfl rfl ?_
    refine jj_ia hG (k := 121) rfl rfl rfl (fun x3 => ?_)
    refine jj_ic hG rfl cc_i1 ?_
    refine jjs hG rfl rfl ?_
    refine jj_ic hG rfl cc_i2 ?_
    refine jjc hG rfl rfl (by decide) ?_
    refine jj_ilt hG (t := 367) rfl rfl ?_ ?_
    · exact jj_wl hG [1, 2, 3, 4, 5, 6, 7, 8] rfl (b367 _ _)
    refine jj_ic hG rfl cc_i1 ?_
    refine jj_go hG (t := 368) rfl rfl ?_
    exact jj_wl hG [1, 2, 3, 4, 5, 6, 7, 8] rfl (b368 _ _ _)
  have b301 : ∀ (a10 : Int32) (a11 : Int32) (a12 : Int32) (a13 : Int32) (t : moS), JJ C R base m G 301 [(0, .ref m), (1, .int p1), (2, .int p2), (4, .int p4), (5, .int p5), (6, .long p6), (8, .long p8), (10, .int a10), (11, .int a11), (12, .int a12), (13, .int a13)] [] q t kc ks (M_learn_b301 t p1 p2 p4 p5 p6 p8 a10 a11 a12 a13) (some tz) := by
    intro a10 a11 a12 a13 t
    refine jj_ic hG rfl cc_i1 ?_
    refine jj_go hG (t := 306) rfl rfl ?_
    exact jj_wl hG [0, 1, 2, 3, 4, 5, 6, 7, 8, 9, 10] rfl (b306 _ _ _ _ _ _)
  have b257 : ∀ (a10 : Int32) (a11 : Int32) (a12 : Int32) (u0 : Int32) (t : moS), JJ C R base m G 257 [(0, .ref m), (1, .int p1), (2, .int p2), (4, .int p4), (5, .int p5), (6, .long p6), (8, .long p8), (10, .int a10), (11, .int a11), (12, .int a12)] [.int u0] q t kc ks (M_learn_b257 t p1 p2 p4 p5 p6 p8 a10 a11 a12 u0) (some tz) := by
    intro a10 a11 a12 u0 t
    refine jjc hG rfl rfl (Nat.le_of_ble_eq_true rfl) ?_
    refine jjs hG rfl rfl ?_
    refine jjs hG rfl rfl ?_
    refine jj_gr hG (k := 111) rfl rfl rfl rfl ?_
    refine jjs hG rfl rfl ?_
    refine jj_ia hG (k := 111) rfl rfl rfl (fun x1 => ?_)
    refine jj_ine hG (t := 301) rfl rfl ?_ ?_
    · exact jj_wl hG [1, 2, 3, 4, 5, 6, 7, 8, 9, 10, 0] rfl (b301 _ _ _ _ _)
    refine jjs hG rfl rfl ?_
    refine jj_gr hG (k := 114) rfl rfl rfl rfl ?_
    refine jjs hG rfl rfl ?_
    refine jj_la hG (k := 114) rfl rfl rfl (fun x2 => ?_)
    refine jjs hG rfl rfl ?_
    refine jj_gz hG (k := 164) rfl rfl rfl rfl ?_
    refine jjs hG rfl rfl ?_
    refine jj_lne hG (t := 301) rfl rfl ?_ ?_
    · exact jj_wl hG [1, 2, 3, 4, 5, 6, 7, 8, 9, 10, 0] rfl (b301 _ _ _ _ _)
    refine jjs hG rfl rfl ?_
    refine jj_gr hG (k := 115) rfl rfl rfl rfl ?_
    refine jjs hG rfl rfl ?_
    refine jj_la hG (k := 115) rfl rfl rfl (fun x3 => ?_)
    refine jjs hG rfl rfl ?_
    refine jj_gz hG (k := 165) rfl rfl rfl rfl ?_
    refine jjs hG rfl rfl ?_
    refine jj_leq hG (t := 305) rfl rfl ?_ ?_
    · refine jj_ic hG rfl cc_i0 ?_
      exact jj_wl hG [1, 2, 3, 4, 5, 6, 7, 8, 9, 10, 0] rfl (b306 _ _ _ _ _ _)
    exact jj_wl hG [1, 2, 3, 4, 5, 6, 7, 8, 9, 10, 0] rfl (b301 _ _ _ _ _)
  have b238 : ∀ (a10 : Int32) (a11 : Int32) (u0 : Int32) (t : moS), JJ C R base m G 238 [(0, .ref m), (1, .int p1), (2, .int p2), (4, .int p4), (5, .int p5), (6, .long p6), (8, .long p8), (10, .int a10), (11, .int a11)] [.int u0] q t kc ks (M_learn_b238 t p1 p2 p4 p5 p6 p8 a10 a11 u0) (some tz) := by
    intro a10 a11 u0 t
    refine jjc hG rfl rfl (Nat.le_of_ble_eq_true rfl) ?_
    refine jjs hG rfl rfl ?_
    refine jjs hG rfl rfl ?_
    refine jj_gr hG (k := 111) rfl rfl rfl rfl ?_
    refine jjs hG rfl rfl ?_
    refine jj_ia hG (k := 111) rfl rfl rfl (fun x1 => ?_)
    refine jj_ige hG (t := 256) rfl rfl ?_ ?_
    · refine jj_ic hG rfl cc_i0 ?_
      exact jj_wl hG [1, 2, 3, 4, 5, 6, 7, 8, 9, 0] rfl (b257 _ _ _ _ _)
    refine jj_ic hG rfl cc_i1 ?_
    refine jj_go hG (t := 257) rfl rfl ?_
    exact jj_wl hG [1, 2, 3, 4, 5, 6, 7, 8, 9, 0] rfl (b257 _ _ _ _ _)
  have b219 : ∀ (a10 : Int32) (u0 : Int32) (t : moS), JJ C R base m G 219 [(0, .ref m), (1, .int p1), (2, .int p2), (4, .int p4), (5, .int p5), (6, .long p6), (8, .long p8), (10, .int a10)] [.int u0] q t kc ks (M_learn_b219 t p1 p2 p4 p5 p6 p8 a10 u0) (some tz) := by
    intro a10 u0 t
    refine jjc hG rfl rfl (Nat.le_of_ble_eq_true rfl) ?_
    refine jjs hG rfl rfl ?_
    refine jj_gr hG (k := 111) rfl rfl rfl rfl ?_
    refine jjs hG rfl rfl ?_
    refine jj_ia hG (k := 111) rfl rfl rfl (fun x1 => ?_)
    refine jj_bi hG rfl cc_b16 ?_
    refine jj_ine hG (t := 237) rfl rfl ?_ ?_
    · refine jj_ic hG rfl cc_i0 ?_
      exact jj_wl hG [1, 2, 3, 4, 5, 6, 7, 8, 0] rfl (b238 _ _ _ _)
    refine jj_ic hG rfl cc_i1 ?_
    refine jj_go hG (t := 238) rfl rfl ?_
    exact jj_wl hG [1, 2, 3, 4, 5, 6, 7, 8, 0] rfl (b238 _ _ _ _)
  have b218 : ∀ (a10 : Int32) (t : moS), JJ C R base m G 218 [(0, .ref m), (1, .int p1), (2, .int p2), (4, .int p4), (5, .int p5), (6, .long p6), (8, .long p8), (10, .int a10)] [] q t kc ks (M_learn_b218 t p1 p2 p4 p5 p6 p8 a10) (some tz) := by
    intro a10 t
    refine jj_ic hG rfl cc_i0 ?_
    exact jj_wl hG [0, 1, 2, 3, 4, 5, 6, 7] rfl (b219 _ _ _)
  refine (show JJ C R base m G 0 [(0, .ref m), (1, .int p1), (2, .int p2), (3, .int p3), (4, .int p4), (5, .int p5), (6, .long p6), (8, .long p8)] [] q t kc ks (M_learn t p1 p2 p3 p4 p5 p6 p8) (some tz) from ?_) hw h
  refine jjs hG rfl rfl ?_
  refine jjs hG rfl rfl ?_
  refine jjs hG rfl rfl ?_
  refine jjs hG rfl rfl ?_
  refine jj_gz hG (k := 13) rfl rfl rfl rfl ?_
  refine jjs hG rfl rfl ?_
  refine jj_gz hG (k := 14) rfl rfl rfl rfl ?_
  refine jjs hG rfl rfl ?_
  refine jj_gi hG (k := 15) rfl rfl rfl rfl ?_
  refine jj_cp hG 0 rfl rfl (Nat.le_of_ble_eq_true rfl) (by decide) (Nat.le_of_ble_eq_true rfl) rfl (st' := []) rfl (w := .int) (fun _ _ hw h k => pm_rcv_of moM_m (k_find base sa hw h k)) (fun x1 => ?_)
  refine jjc hG rfl rfl (Nat.le_of_ble_eq_true rfl) ?_
  refine jjs hG rfl rfl ?_
  refine jj_ic hG rfl cc_im1 ?_
  refine jj_ine hG (t := 165) rfl rfl ?_ ?_
  · refine jjs hG rfl rfl ?_
    refine jj_gr hG (k := 110) rfl rfl rfl rfl ?_
    refine jjs hG rfl rfl ?_
    refine jj_ia hG (k := 110) rfl rfl rfl (fun x2 => ?_)
    refine jj_ic hG rfl cc_i2 ?_
    refine jj_ieq hG (t := 177) rfl rfl ?_ ?_
    · refine jjs hG rfl rfl ?_
      refine jj_gr hG (k := 116) rfl rfl rfl rfl ?_
      refine jjs hG rfl rfl ?_
      refine jj_ia hG (k := 116) rfl rfl rfl (fun x3 => ?_)
      refine jjs hG rfl rfl ?_
      refine jj_ine hG (t := 218) rfl rfl ?_ ?_
      · exact jj_wl hG [1, 2, 3, 5, 6, 7, 8, 0] rfl (b218 _ _)
      refine jjs hG rfl rfl ?_
      refine jj_gr hG (k := 117) rfl rfl rfl rfl ?_
      refine jjs hG rfl rfl ?_
      refine jj_la hG (k := 117) rfl rfl rfl (fun x4 => ?_)
      refine jjs hG rfl rfl ?_
      refine jjs hG rfl rfl ?_
      refine jj_lne hG (t := 218) rfl rfl ?_ ?_
      · exact jj_wl hG [1, 2, 3, 5, 6, 7, 8, 0] rfl (b218 _ _)
      refine jjs hG rfl rfl ?_
      refine jj_gr hG (k := 118) rfl rfl rfl rfl ?_
      refine jjs hG rfl rfl ?_
      refine jj_la hG (k := 118) rfl rfl rfl (fun x5 => ?_)
      refine jjs hG rfl rfl ?_
      refine jjs hG rfl rfl ?_
      refine jj_lne hG (t := 218) rfl rfl ?_ ?_
      · exact jj_wl hG [1, 2, 3, 5, 6, 7, 8, 0] rfl (b218 _ _)
      refine jj_ic hG rfl cc_i1 ?_
      refine jj_go hG (t := 219) rfl rfl ?_
      exact jj_wl hG [1, 2, 3, 5, 6, 7, 8, 0] rfl (b219 _ _ _)
    exact jj_rvS hG rfl rfl (k)
  refine jjs hG rfl rfl ?_
  refine jj_bi hG rfl cc_b16 ?_
  refine jj_ine hG (t := 34) rfl rfl ?_ ?_
  · refine jj_ic hG rfl cc_i0 ?_
    refine jjc hG rfl rfl (Nat.le_of_ble_eq_true rfl) ?_
    refine jj_si hG rfl cc_s2700 ?_
    refine jjs hG rfl rfl ?_
    refine jjs hG rfl rfl ?_
    refine jjc hG rfl rfl (Nat.le_of_ble_eq_true rfl) ?_
    refine jj_lp (fun n => ?_)
    exact jj_wl hG [3, 4, 5, 6, 7, 8, 9, 10, 1, 0] rfl (b44 n _ _ _)
  exact jj_rvS hG rfl rfl (k)
