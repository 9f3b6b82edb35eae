/-! The model as functions, by program: sayRoute .. sayLink -/
noncomputable def M_sayRoute_b114 (t : moS) (p1 : Int32) : Option moS := Option.bind (rdI t 113 p1) (fun x1 => (if x1 = ((-1) : Int32) then (Option.bind (M_space t) (fun s2 => (Option.bind (M_say s2 (45 : Int32)) (fun s3 => ((some s3)))))) else (Option.bind (rdI t 113 p1) (fun x4 => (Option.bind (rdI t 71 x4) (fun x5 => (Option.bind (rdJ t 18 x5) (fun x6 => (Option.bind (M_word t x6) (fun s7 => ((some s7))))))))))))
noncomputable def M_sayRoute_b75 (t : moS) (p1 : Int32) (u1 : Int64) : Option moS := Option.bind (M_word t u1) (fun s1 => (Option.bind (rdI s1 110 p1) (fun x2 => (if x2 = (2 : Int32) then (Option.bind (M_space s1) (fun s3 => (Option.bind (rdI s3 106 p1) (fun x4 => (Option.bind (rdJ s3 114 p1) (fun x5 => (Option.bind (rdJ s3 115 p1) (fun x6 => (Option.bind (M_sayAddress s3 x4 x5 x6) (fun s7 => ((M_sayRoute_b114 s7 p1)))))))))))) else ((M_sayRoute_b114 s1 p1))))))
noncomputable def M_sayRoute (t : moS) (p1 : Int32) : Option moS := Option.bind (rdI t 106 p1) (fun x1 => (Option.bind (rdJ t 107 p1) (fun x2 => (Option.bind (rdJ t 108 p1) (fun x3 => (Option.bind (rdI t 109 p1) (fun x4 => (Option.bind (M_sayPrefix t x1 x2 x3 x4) (fun s5 => (Option.bind (rdI s5 111 p1) (fun x6 => (Option.bind (M_wordNumber s5 x6) (fun s7 => (Option.bind (rdI s7 110 p1) (fun x8 => (if x8 = (1 : Int32) then (Option.bind (M_word s7 (1996896363 : Int64)) (fun s10 => ((some s10)))) else (Option.bind (rdI s7 110 p1) (fun x9 => (if x9 = 0 then ((M_sayRoute_b75 s7 p1 (433800140 : Int64))) else ((M_sayRoute_b75 s7 p1 (35561 : Int64))))))))))))))))))))))
set_option maxRecDepth 100000 in
set_option maxHeartbeats 4000000 in
theorem k_sayRoute (base : Nat) (sa : Nat → Nat) {C : Nat × Nat} {R : pmM} {m : Nat} {q : Nat → Nat} {t tz : moS} {kc ks : Nat} {Rt : pmR} {p1 : Int32} (hw : mW C R base m q t kc ks) (h : M_sayRoute t p1 = (some tz)) (k : ∀ (q' : Nat → Nat) (kc' ks' : Nat), mW C R base m q' tz kc' ks' → Rt none (moM R m q' tz) kc' ks') : kP_Mo_sayRoute base sa [.ref m, .int p1] (moM R m q t) kc ks Rt := by
  refine ⟨Nat.le_of_ble_eq_true rfl, fun G hG => ?_⟩
  have b114 : ∀ (q : Nat → Nat) (t : moS) (kc ks : Nat), JJ C R base m G 114 [(0, .ref m), (1, .int p1)] [] q t kc ks (M_sayRoute_b114 t p1) (some tz) := by
    intro q t kc ks
    refine jjs hG rfl rfl ?_
    refine jj_gr hG (k := 113) rfl rfl rfl rfl ?_
    refine jjs hG rfl rfl ?_
    refine jj_ia hG (k := 113) rfl rfl rfl (fun x1 => ?_)
    refine jj_ic hG rfl cc_im1 ?_
    refine jj_ieq hG (t := 145) rfl rfl ?_ ?_
    · refine jjs hG rfl rfl ?_
      refine jj_cvA hG 0 rfl rfl (Nat.le_of_ble_eq_true rfl) (by decide) (Nat.le_of_ble_eq_true rfl) rfl (st' := []) rfl (fun _ _ hw h k => pm_rcv_of moM_m (k_space base sa hw h k)) (fun s2 q kc ks => ?_)
      refine jjs hG rfl rfl ?_
      refine jj_bi hG rfl cc_b45 ?_
      refine jj_cvA hG 0 rfl rfl (Nat.le_of_ble_eq_true rfl) (by decide) (Nat.le_of_ble_eq_true rfl) rfl (st' := []) rfl (fun _ _ hw h k => pm_rcv_of moM_m (k_say base sa hw h k)) (fun s3 q kc ks => ?_)
      exact jj_rvS hG rfl rfl (k _ _ _)
    refine jjs hG rfl rfl ?_
    refine jjs hG rfl rfl ?_
    refine jj_gr hG (k := 18) rfl rfl rfl rfl ?_
    refine jjs hG rfl rfl ?_
    refine jj_gr hG (k := 71) rfl rfl rfl rfl ?_
    refine jjs hG rfl rfl ?_
    refine jj_gr hG (k := 113) rfl rfl rfl rfl ?_
    refine jjs hG rfl rfl ?_
    refine jj_ia hG (k := 113) rfl rfl rfl (fun x4 => ?_)
    refine jj_ia hG (k := 71) rfl rfl rfl (fun x5 => ?_)
    refine jj_la hG (k := 18) rfl rfl rfl (fun x6 => ?_)
    refine jj_cvA hG 0 rfl rfl (Nat.le_of_ble_eq_true rfl) (by decide) (Nat.le_of_ble_eq_true rfl) rfl (st' := []) rfl (fun _ _ hw h k => pm_rcv_of moM_m (k_word base sa hw h k)) (fun s7 q kc ks => ?_)
    exact jj_rvS hG rfl rfl (k _ _ _)
  have b75 : ∀ (u1 : Int64) (q : Nat → Nat) (t : moS) (kc ks : Nat), JJ C R base m G 75 [(0, .ref m), (1, .int p1)] [.long u1, .ref m] q t kc ks (M_sayRoute_b75 t p1 u1) (some tz) := by
    intro u1 q t kc ks
    refine jj_cvA hG 0 rfl rfl (Nat.le_of_ble_eq_true rfl) (by decide) (Nat.le_of_ble_eq_true rfl) rfl (st' := []) rfl (fun _ _ hw h k => pm_rcv_of moM_m (k_word base sa hw h k)) (fun s1 q kc ks => ?_)
    refine jjs hG rfl rfl ?_
    refine jj_gr hG (k := 110) rfl rfl rfl rfl ?_
    refine jjs hG rfl rfl ?_
    refine jj_ia hG (k := 110) rfl rfl rfl (fun x2 => ?_)
    refine jj_ic hG rfl cc_i2 ?_
    refine jj_ine hG (t := 114) rfl rfl ?_ ?_
    · exact jj_wl hG [0, 1] rfl (b114 _ _ _ _)
    refine jjs hG rfl rfl ?_
    refine jj_cvA hG 0 rfl rfl (Nat.le_of_ble_eq_true rfl) (by decide) (Nat.le_of_ble_eq_true rfl) rfl (st' := []) rfl (fun _ _ hw h k => pm_rcv_of moM_m (k_space base sa hw h k)) (fun s3 q kc ks => ?_)
    refine jjs hG rfl rfl ?_
    refine jjs hG rfl rfl ?_
    refine jj_gr hG (k := 106) rfl rfl rfl rfl ?_
    refine jjs hG rfl rfl ?_
    refine jj_ia hG (k := 106) rfl rfl rfl (fun x4 => ?_)
    refine jjs hG rfl rfl ?_
    refine jj_gr hG (k := 114) rfl rfl rfl rfl ?_
    refine jjs hG rfl rfl ?_
    refine jj_la hG (k := 114) rfl rfl rfl (fun x5 => ?_)
    refine jjs hG rfl rfl ?_
    refine jj_gr hG (k := 115) rfl rfl rfl rfl ?_
    refine jjs hG rfl rfl ?_
    refine jj_la hG (k := 115) rfl rfl rfl (fun x6 => ?_)
    refine jj_cvA hG 0 rfl rfl (Nat.le_of_ble_eq_true rfl) (by decide) (Nat.le_of_ble_eq_true rfl) rfl (st' := []) rfl (fun _ _ hw h k => pm_rcv_of moM_m (k_sayAddress base sa hw h k)) (fun s7 q kc ks => ?_)
    exact jj_wl hG [0, 1] rfl (b114 _ _ _ _)
  refine (show JJ C R base m G 0 [(0, .ref m), (1, .int p1)] [] q t kc ks (M_sayRoute t p1) (some tz) from ?_) hw h
  refine jjs hG rfl rfl ?_
  refine jjs hG rfl rfl ?_
  refine jj_gr hG (k := 106) rfl rfl rfl rfl ?_
  refine jjs hG rfl rfl ?_
  refine jj_ia hG (k := 106) rfl rfl rfl (fun x1 => ?_)
  refine jjs hG rfl rfl ?_
  refine jj_gr hG (k := 107) rfl rfl rfl rfl ?_
  refine jjs hG rfl rfl ?_
  refine jj_la hG (k := 107) rfl rfl rfl (fun x2 => ?_)
  refine jjs hG rfl rfl ?_
  refine jj_gr hG (k := 108) rfl rfl rfl rfl ?_
  refine jjs hG rfl rfl ?_
  refine jj_la hG (k := 108) rfl rfl rfl (fun x3 => ?_)
  refine jjs hG rfl rfl ?_
  refine jj_gr hG (k := 109) rfl rfl rfl rfl ?_
  refine jjs hG rfl rfl ?_
  refine jj_ia hG (k := 109) rfl rfl rfl (fun x4 => ?_)
  refine jj_cvA hG 0 rfl rfl (Nat.le_of_ble_eq_true rfl) (by decide) (Nat.le_of_ble_eq_true rfl) rfl (st' := []) rfl (fun _ _ hw h k => pm_rcv_of moM_m (k_sayPrefix base sa hw h k)) (fun s5 q kc ks => ?_)
  refine jjs hG rfl rfl ?_
  refine jjs hG rfl rfl ?_
  refine jj_gr hG (k := 111) rfl rfl rfl rfl ?_
  refine jjs hG rfl rfl ?_
  refine jj_ia hG (k := 111) rfl rfl rfl (fun x6 => ?_)
  refine jj_cvA hG 0 rfl rfl (Nat.le_of_ble_eq_true rfl) (by decide) (Nat.le_of_ble_eq_true rfl) rfl (st' := []) rfl (fun _ _ hw h k => pm_rcv_of moM_m (k_wordNumber base sa hw h k)) (fun s7 q kc ks => ?_)
  refine jjs hG rfl rfl ?_
  refine jj_gr hG (k := 110) rfl rfl rfl rfl ?_
  refine jjs hG rfl rfl ?_
  refine jj_ia hG (k := 110) rfl rfl rfl (fun x8 => ?_)
  refine jj_ic hG rfl cc_i1 ?_
  refine jj_ine hG (t := 56) rfl rfl ?_ ?_
  · refine jjs hG rfl rfl ?_
    refine jjs hG rfl rfl ?_
    refine jj_gr hG (k := 110) rfl rfl rfl rfl ?_
    refine jjs hG rfl rfl ?_
    refine jj_ia hG (k := 110) rfl rfl rfl (fun x9 => ?_)
    refine jj_zne hG (t := 72) rfl rfl ?_ ?_
    · refine jj_l2 hG (v := (35561 : Int64)) rfl rfl ?_
      exact jj_wl hG [0, 1] rfl (b75 _ _ _ _ _)
    refine jj_l2 hG (v := (433800140 : Int64)) rfl rfl ?_
    refine jj_go hG (t := 75) rfl rfl ?_
    exact jj_wl hG [0, 1] rfl (b75 _ _ _ _ _)
  refine jjs hG rfl rfl ?_
  refine jj_l2 hG (v := (1996896363 : Int64)) rfl rfl ?_
  refine jj_cvA hG 0 rfl rfl (Nat.le_of_ble_eq_true rfl) (by decide) (Nat.le_of_ble_eq_true rfl) rfl (st' := []) rfl (fun _ _ hw h k => pm_rcv_of moM_m (k_word base sa hw h k)) (fun s10 q kc ks => ?_)
  exact jj_rvS hG rfl rfl (k _ _ _)
noncomputable def M_sayTimes_b102 (t : moS) (p1 : Int32) : Option moS := Option.bind (rdI t 119 p1) (fun x1 => (if x1 = 0 then ((some t)) else (Option.bind (M_word t (13110667404 : Int64)) (fun s2 => ((some s2))))))
noncomputable def M_sayTimes (t : moS) (p1 : Int32) : Option moS := Option.bind (rdI t 106 p1) (fun x1 => (Option.bind (rdJ t 107 p1) (fun x2 => (Option.bind (rdJ t 108 p1) (fun x3 => (Option.bind (rdI t 109 p1) (fun x4 => (Option.bind (M_sayPrefix t x1 x2 x3 x4) (fun s5 => (Option.bind (rdI s5 111 p1) (fun x6 => (if x6 = (16 : Int32) then (Option.bind (rdI s5 122 p1) (fun x13 => (Option.bind (M_wordNumber s5 (x13 - (moS.S s5 1))) (fun s14 => ((M_sayTimes_b102 s14 p1)))))) else (Option.bind (rdI s5 110 p1) (fun x7 => (if x7 = (2 : Int32) then (Option.bind (rdI s5 120 p1) (fun x10 => (Option.bind (rdI s5 121 p1) (fun x11 => (Option.bind (M_wordNumber s5 ((x10 + x11) - (moS.S s5 1))) (fun s12 => ((M_sayTimes_b102 s12 p1)))))))) else (Option.bind (M_space s5) (fun s8 => (Option.bind (M_say s8 (45 : Int32)) (fun s9 => ((M_sayTimes_b102 s9 p1)))))))))))))))))))))
set_option maxRecDepth 100000 in
set_option maxHeartbeats 4000000 in
theorem k_sayTimes (base : Nat) (sa : Nat → Nat) {C : Nat × Nat} {R : pmM} {m : Nat} {q : Nat → Nat} {t tz : moS} {kc ks : Nat} {Rt : pmR} {p1 : Int32} (hw : mW C R base m q t kc ks) (h : M_sayTimes t p1 = (some tz)) (k : ∀ (q' : Nat → Nat) (kc' ks' : Nat), mW C R base m q' tz kc' ks' → Rt none (moM R m q' tz) kc' ks') : kP_Mo_sayTimes base sa [.ref m, .int p1] (moM R m q t) kc ks Rt := by
  refine ⟨Nat.le_of_ble_eq_true rfl, fun G hG => ?_⟩
  have b102 : ∀ (q : Nat → Nat) (t : moS) (kc ks : Nat), JJ C R base m G 102 [(0, .ref m), (1, .int p1)] [] q t kc ks (M_sayTimes_b102 t p1) (some tz) := by
    intro q t kc ks
    refine jjs hG rfl rfl ?_
    refine jj_gr hG (k := 119) rfl rfl rfl rfl ?_
    refine jjs hG rfl rfl ?_
    refine jj_ba hG (k := 119) rfl rfl rfl (fun x1 => ?_)
    refine jj_zeq hG (t := 118) rfl rfl ?_ ?_
    · exact jj_rvS hG rfl rfl (k _ _ _)
    refine jjs hG rfl rfl ?_
    refine jj_l2 hG (v := (13110667404 : Int64)) rfl rfl ?_
    refine jj_cvA hG 0 rfl rfl (Nat.le_of_ble_eq_true rfl) (by decide) (Nat.le_of_ble_eq_true rfl) rfl (st' := []) rfl (fun _ _ hw h k => pm_rcv_of moM_m (k_word base sa hw h k)) (fun s2 q kc ks => ?_)
    exact jj_rvS hG rfl rfl (k _ _ _)
  refine (show JJ C R base m G 0 [(0, .ref m), (1, .int p1)] [] q t kc ks (M_sayTimes t p1) (some tz) from ?_) hw h
  refine jjs hG rfl rfl ?_
  refine jjs hG rfl rfl ?_
  refine jj_gr hG (k := 106) rfl rfl rfl rfl ?_
  refine jjs hG rfl rfl ?_
  refine jj_ia hG (k := 106) rfl rfl rfl (fun x1 => ?_)
  refine jjs hG rfl rfl ?_
  refine jj_gr hG (k := 107) rfl rfl rfl rfl ?_
  refine jjs hG rfl rfl ?_
  refine jj_la hG (k := 107) rfl rfl rfl (fun x2 => ?_)
  refine jjs hG rfl rfl ?_
  refine jj_gr hG (k := 108) rfl rfl rfl rfl ?_
  refine jjs hG rfl rfl ?_
  refine jj_la hG (k := 108) rfl rfl rfl (fun x3 => ?_)
  refine jjs hG rfl rfl ?_
  refine jj_gr hG (k := 109) rfl rfl rfl rfl ?_
  refine jjs hG rfl rfl ?_
  refine jj_ia hG (k := 109) rfl rfl rfl (fun x4 => ?_)
  refine jj_cvA hG 0 rfl rfl (Nat.le_of_ble_eq_true rfl) (by decide) (Nat.le_of_ble_eq_true rfl) rfl (st' := []) rfl (fun _ _ hw h k => pm_rcv_of moM_m (k_sayPrefix base sa hw h k)) (fun s5 q kc ks => ?_)
  refine jjs hG rfl rfl ?_
  refine jj_gr hG (k := 111) rfl rfl rfl rfl ?_
  refine jjs hG rfl rfl ?_
  refine jj_ia hG (k := 111) rfl rfl rfl (fun x6 => ?_)
  refine jj_bi hG rfl cc_b16 ?_
  refine jj_ine hG (t := 57) rfl rfl ?_ ?_
  · refine jjs hG rfl rfl ?_
    refine jj_gr hG (k := 110) rfl rfl rfl rfl ?_
    refine jjs hG rfl rfl ?_
    refine jj_ia hG (k := 110) rfl rfl rfl (fun x7 => ?_)
    refine jj_ic hG rfl cc_i2 ?_
    refine jj_ine hG (t := 92) rfl rfl ?_ ?_
    · refine jjs hG rfl rfl ?_
      refine jj_cvA hG 0 rfl rfl (Nat.le_of_ble_eq_true rfl) (by decide) (Nat.le_of_ble_eq_true rfl) rfl (st' := []) rfl (fun _ _ hw h k => pm_rcv_of moM_m (k_space base sa hw h k)) (fun s8 q kc ks => ?_)
      refine jjs hG rfl rfl ?_
      refine jj_bi hG rfl cc_b45 ?_
      refine jj_cvA hG 0 rfl rfl (Nat.le_of_ble_eq_true rfl) (by decide) (Nat.le_of_ble_eq_true rfl) rfl (st' := []) rfl (fun _ _ hw h k => pm_rcv_of moM_m (k_say base sa hw h k)) (fun s9 q kc ks => ?_)
      exact jj_wl hG [0, 1] rfl (b102 _ _ _ _)
    refine jjs hG rfl rfl ?_
    refine jjs hG rfl rfl ?_
    refine jj_gr hG (k := 120) rfl rfl rfl rfl ?_
    refine jjs hG rfl rfl ?_
    refine jj_ia hG (k := 120) rfl rfl rfl (fun x10 => ?_)
    refine jjs hG rfl rfl ?_
    refine jj_gr hG (k := 121) rfl rfl rfl rfl ?_
    refine jjs hG rfl rfl ?_
    refine jj_ia hG (k := 121) rfl rfl rfl (fun x11 => ?_)
    refine jjs hG rfl rfl ?_
    refine jjs hG rfl rfl ?_
    refine jj_gi hG (k := 1) rfl rfl rfl rfl ?_
    refine jjs hG rfl rfl ?_
    refine jj_cvA hG 0 rfl rfl (Nat.le_of_ble_eq_true rfl) (by decide) (Nat.le_of_ble_eq_true rfl) rfl (st' := []) rfl (fun _ _ hw h k => pm_rcv_of moM_m (k_wordNumber base sa hw h k)) (fun s12 q kc ks => ?_)
    refine jj_go hG (t := 102) rfl rfl ?_
    exact jj_wl hG [0, 1] rfl (b102 _ _ _ _)
  refine jjs hG rfl rfl ?_
  refine jjs hG rfl rfl ?_
  refine jj_gr hG (k := 122) rfl rfl rfl rfl ?_
  refine jjs hG rfl rfl ?_
  refine jj_ia hG (k := 122) rfl rfl rfl (fun x13 => ?_)
  refine jjs hG rfl rfl ?_
  refine jj_gi hG (k := 1) rfl rfl rfl rfl ?_
  refine jjs hG rfl rfl ?_
  refine jj_cvA hG 0 rfl rfl (Nat.le_of_ble_eq_true rfl) (by decide) (Nat.le_of_ble_eq_true rfl) rfl (st' := []) rfl (fun _ _ hw h k => pm_rcv_of moM_m (k_wordNumber base sa hw h k)) (fun s14 q kc ks => ?_)
  refine jj_go hG (t := 102) rfl rfl ?_
  exact jj_wl hG [0, 1] rfl (b102 _ _ _ _)
noncomputable def M_sayOwn (t : moS) (p1 : Int32) : Option moS := Option.bind (rdJ t 76 p1) (fun x1 => (Option.bind (rdJ t 77 p1) (fun x2 => (Option.bind (rdI t 78 p1) (fun x3 => (Option.bind (M_wordPrefix t (rem_I p1 (2 : Int32)) x1 x2 x3) (fun s4 => ((some s4)))))))))
set_option maxRecDepth 100000 in
set_option maxHeartbeats 4000000 in
theorem k_sayOwn (base : Nat) (sa : Nat → Nat) {C : Nat × Nat} {R : pmM} {m : Nat} {q : Nat → Nat} {t tz : moS} {kc ks : Nat} {Rt : pmR} {p1 : Int32} (hw : mW C R base m q t kc ks) (h : M_sayOwn t p1 = (some tz)) (k : ∀ (q' : Nat → Nat) (kc' ks' : Nat), mW C R base m q' tz kc' ks' → Rt none (moM R m q' tz) kc' ks') : kP_Mo_sayOwn base sa [.ref m, .int p1] (moM R m q t) kc ks Rt := by
  refine ⟨Nat.le_of_ble_eq_true rfl, fun G hG => ?_⟩
  refine (show JJ C R base m G 0 [(0, .ref m), (1, .int p1)] [] q t kc ks (M_sayOwn t p1) (some tz) from ?_) hw h
  refine jjs hG rfl rfl ?_
  refine jjs hG rfl rfl ?_
  refine jj_ic hG rfl cc_i2 ?_
  refine jjc hG rfl rfl (by decide) ?_
  refine jjs hG rfl rfl ?_
  refine jj_gr hG (k := 76) rfl rfl rfl rfl ?_
  refine jjs hG rfl rfl ?_
  refine jj_la hG (k := 76) rfl rfl rfl (fun x1 => ?_)
  refine jjs hG rfl rfl ?_
  refine jj_gr hG (k := 77) rfl rfl rfl rfl ?_
  refine jjs hG rfl rfl ?_
  refine jj_la hG (k := 77) rfl rfl rfl (fun x2 => ?_)
  refine jjs hG rfl rfl ?_
  refine jj_gr hG (k := 78) rfl rfl rfl rfl ?_
  refine jjs hG rfl rfl ?_
  refine jj_ia hG (k := 78) rfl rfl rfl (fun x3 => ?_)
  refine jj_cvA hG 0 rfl rfl (Nat.le_of_ble_eq_true rfl) (by decide) (Nat.le_of_ble_eq_true rfl) rfl (st' := []) rfl (fun _ _ hw h k => pm_rcv_of moM_m (k_wordPrefix base sa hw h k)) (fun s4 q kc ks => ?_)
  exact jj_rvS hG rfl rfl (k _ _ _)
noncomputable def M_sayInterface_b150 (t : moS) (p1 : Int32) (a2 : Int32) : Option ((Int32 × moS) ⊕ moS) := (some (.inl ((a2 + (1 : Int32)), t)))
noncomputable def M_sayInterface_s127 (t : moS) (p1 : Int32) (a2 : Int32) : Option ((Int32 × moS) ⊕ moS) := if a2 < (((2 : Int32) * p1) + (2 : Int32)) then (Option.bind (rdI t 75 a2) (fun x1 => (if x1 = 0 then ((M_sayInterface_b150 t p1 a2)) else (Option.bind (M_sayOwn t a2) (fun s2 => ((M_sayInterface_b150 s2 p1 a2))))))) else ((xo ((some t))))
noncomputable def M_sayInterface_b127 (t : moS) (p1 : Int32) (a2 : Int32) : Option moS := lp (fun x => M_sayInterface_s127 x.2 p1 x.1) (a2, t)
noncomputable def M_sayInterface_b123 (t : moS) (p1 : Int32) : Option moS := (M_sayInterface_b127 t p1 ((2 : Int32) * p1))
noncomputable def M_sayInterface_b104 (t : moS) (p1 : Int32) (u1 : Int64) : Option moS := Option.bind (M_word t u1) (fun s1 => (Option.bind (rdI s1 74 p1) (fun x2 => (if x2 = 0 then ((M_sayInterface_b123 s1 p1)) else (Option.bind (M_word s1 (65688271285 : Int64)) (fun s3 => ((M_sayInterface_b123 s3 p1))))))))
noncomputable def M_sayInterface_b39 (t : moS) (p1 : Int32) (u1 : Int64) : Option moS := Option.bind (M_word t u1) (fun s1 => (Option.bind (M_word s1 (216780 : Int64)) (fun s2 => (Option.bind (rdI s2 72 p1) (fun x3 => (Option.bind (M_wordNumber s2 x3) (fun s4 => (Option.bind (rdJ s4 73 p1) (fun x5 => (Option.bind (M_word s4 x5) (fun s6 => (Option.bind (rdI s6 79 p1) (fun x7 => (if x7 = 0 then ((M_sayInterface_b104 s6 p1 (985814 : Int64))) else (Option.bind (rdI s6 79 p1) (fun x8 => (if x8 = (1 : Int32) then ((M_sayInterface_b104 s6 p1 (2627531736724 : Int64))) else ((M_sayInterface_b104 s6 p1 (8193974 : Int64))))))))))))))))))))
noncomputable def M_sayInterface (t : moS) (p1 : Int32) : Option moS := Option.bind (rdI t 71 p1) (fun x1 => (Option.bind (rdJ t 18 x1) (fun x2 => (Option.bind (M_sayName t x2) (fun s3 => (Option.bind (rdI s3 71 p1) (fun x4 => (Option.bind (rdI s3 22 x4) (fun x5 => (if x5 = 0 then ((M_sayInterface_b39 s3 p1 (280934 : Int64))) else ((M_sayInterface_b39 s3 p1 (856 : Int64)))))))))))))
set_option maxRecDepth 100000 in
set_option maxHeartbeats 4000000 in
theorem k_sayInterface (base : Nat) (sa : Nat → Nat) {C : Nat × Nat} {R : pmM} {m : Nat} {q : Nat → Nat} {t tz : moS} {kc ks : Nat} {Rt : pmR} {p1 : Int32} (hw : mW C R base m q t kc ks) (h : M_sayInterface t p1 = (some tz)) (k : ∀ (q' : Nat → Nat) (kc' ks' : Nat), mW C R base m q' tz kc' ks' → Rt none (moM R m q' tz) kc' ks') : kP_Mo_sayInterface base sa [.ref m, .int p1] (moM R m q t) kc ks Rt := by
  refine ⟨Nat.le_of_ble_eq_true rfl, fun G hG => ?_⟩
  have b127 : ∀ (n : Nat) (a2 : Int32) (q : Nat → Nat) (t : moS) (kc ks : Nat), JJ C R base m G 127 [(0, .ref m), (1, .int p1), (2, .int a2)] [] q t kc ks (lpN (fun x => M_sayInterface_s127 x.2 p1 x.1) n (a2, t)) (some tz) := by
    intro n
    induction n with
    | zero => intro a2 q t kc ks; exact jj_lp0
    | succ n ih127 =>
      intro a2 q t kc ks
      refine jj_lpS (fun y127 c127 => ?_)
      have b150 : ∀ (a2 : Int32) (q : Nat → Nat) (t : moS) (kc ks : Nat), JJ C R base m G 150 [(0, .ref m), (1, .int p1), (2, .int a2)] [] q t kc ks (M_sayInterface_b150 t p1 a2) (some y127) := by
        intro a2 q t kc ks
        refine jj_inc hG rfl (Nat.le_of_ble_eq_true rfl) rfl cc_i1 ?_
        refine jj_go hG (t := 127) rfl rfl ?_
        exact jj_back c127 (jj_wl hG [1, 2, 0] rfl (ih127 _ _ _ _ _))
      refine (show JJ C R base m G 127 [(0, .ref m), (1, .int p1), (2, .int a2)] [] q t kc ks (M_sayInterface_s127 t p1 a2) (some y127) from ?_)
      refine jjs hG rfl rfl ?_
      refine jj_ic hG rfl cc_i2 ?_
      refine jjs hG rfl rfl ?_
      refine jjs hG rfl rfl ?_
      refine jj_ic hG rfl cc_i2 ?_
      refine jjs hG rfl rfl ?_
      refine jj_ige hG (t := 156) rfl rfl ?_ ?_
      · refine jj_exit c127 ?_
        exact jj_rvS hG rfl rfl (k _ _ _)
      refine jjs hG rfl rfl ?_
      refine jj_gr hG (k := 75) rfl rfl rfl rfl ?_
      refine jjs hG rfl rfl ?_
      refine jj_ba hG (k := 75) rfl rfl rfl (fun x1 => ?_)
      refine jj_zeq hG (t := 150) rfl rfl ?_ ?_
      · exact jj_wl hG [0, 1, 2] rfl (b150 _ _ _ _ _)
      refine jjs hG rfl rfl ?_
      refine jjs hG rfl rfl ?_
      refine jj_cvA hG 0 rfl rfl (Nat.le_of_ble_eq_true rfl) (by decide) (Nat.le_of_ble_eq_true rfl) rfl (st' := []) rfl (fun _ _ hw h k => pm_rcv_of moM_m (k_sayOwn base sa hw h k)) (fun s2 q kc ks => ?_)
      exact jj_wl hG [0, 1, 2] rfl (b150 _ _ _ _ _)
  have b123 : ∀ (q : Nat → Nat) (t : moS) (kc ks : Nat), JJ C R base m G 123 [(0, .ref m), (1, .int p1)] [] q t kc ks (M_sayInterface_b123 t p1) (some tz) := by
    intro q t kc ks
    refine jj_ic hG rfl cc_i2 ?_
    refine jjs hG rfl rfl ?_
    refine jjs hG rfl rfl ?_
    refine jjc hG rfl rfl (Nat.le_of_ble_eq_true rfl) ?_
    refine jj_lp (fun n => ?_)
    exact jj_wl hG [1, 2, 0] rfl (b127 n _ _ _ _ _)
  have b104 : ∀ (u1 : Int64) (q : Nat → Nat) (t : moS) (kc ks : Nat), JJ C R base m G 104 [(0, .ref m), (1, .int p1)] [.long u1, .ref m] q t kc ks (M_sayInterface_b104 t p1 u1) (some tz) := by
    intro u1 q t kc ks
    refine jj_cvA hG 0 rfl rfl (Nat.le_of_ble_eq_true rfl) (by decide) (Nat.le_of_ble_eq_true rfl) rfl (st' := []) rfl (fun _ _ hw h k => pm_rcv_of moM_m (k_word base sa hw h k)) (fun s1 q kc ks => ?_)
    refine jjs hG rfl rfl ?_
    refine jj_gr hG (k := 74) rfl rfl rfl rfl ?_
    refine jjs hG rfl rfl ?_
    refine jj_ba hG (k := 74) rfl rfl rfl (fun x2 => ?_)
    refine jj_zeq hG (t := 123) rfl rfl ?_ ?_
    · exact jj_wl hG [0, 1] rfl (b123 _ _ _ _)
    refine jjs hG rfl rfl ?_
    refine jj_l2 hG (v := (65688271285 : Int64)) rfl rfl ?_
    refine jj_cvA hG 0 rfl rfl (Nat.le_of_ble_eq_true rfl) (by decide) (Nat.le_of_ble_eq_true rfl) rfl (st' := []) rfl (fun _ _ hw h k => pm_rcv_of moM_m (k_word base sa hw h k)) (fun s3 q kc ks => ?_)
    exact jj_wl hG [0, 1] rfl (b123 _ _ _ _)
  have b39 : ∀ (u1 : Int64) (q : Nat → Nat) (t : moS) (kc ks : Nat), JJ C R base m G 39 [(0, .ref m), (1, .int p1)] [.long u1, .ref m] q t kc ks (M_sayInterface_b39 t p1 u1) (some tz) := by
    intro u1 q t kc ks
    refine jj_cvA hG 0 rfl rfl (Nat.le_of_ble_eq_true rfl) (by decide) (Nat.le_of_ble_eq_true rfl) rfl (st' := []) rfl (fun _ _ hw h k => pm_rcv_of moM_m (k_word base sa hw h k)) (fun s1 q kc ks => ?_)
    refine jjs hG rfl rfl ?_
    refine jj_l2 hG (v := (216780 : Int64)) rfl rfl ?_
    refine jj_cvA hG 0 rfl rfl (Nat.le_of_ble_eq_true rfl) (by decide) (Nat.le_of_ble_eq_true rfl) rfl (st' := []) rfl (fun _ _ hw h k => pm_rcv_of moM_m (k_word base sa hw h k)) (fun s2 q kc ks => ?_)
    refine jjs hG rfl rfl ?_
    refine jjs hG rfl rfl ?_
    refine jj_gr hG (k := 72) rfl rfl rfl rfl ?_
    refine jjs hG rfl rfl ?_
    refine jj_ia hG (k := 72) rfl rfl rfl (fun x3 => ?_)
    refine jj_cvA hG 0 rfl rfl (Nat.le_of_ble_eq_true rfl) (by decide) (Nat.le_of_ble_eq_true rfl) rfl (st' := []) rfl (fun _ _ hw h k => pm_rcv_of moM_m (k_wordNumber base sa hw h k)) (fun s4 q kc ks => ?_)
    refine jjs hG rfl rfl ?_
    refine jjs hG rfl rfl ?_
    refine jj_gr hG (k := 73) rfl rfl rfl rfl ?_
    refine jjs hG rfl rfl ?_
    refine jj_la hG (k := 73) rfl rfl rfl (fun x5 => ?_)
    refine jj_cvA hG 0 rfl rfl (Nat.le_of_ble_eq_true rfl) (by decide) (Nat.le_of_ble_eq_true rfl) rfl (st' := []) rfl (fun _ _ hw h k => pm_rcv_of moM_m (k_word base sa hw h k)) (fun s6 q kc ks => ?_)
    refine jjs hG rfl rfl ?_
    refine jjs hG rfl rfl ?_
    refine jj_gr hG (k := 79) rfl rfl rfl rfl ?_
    refine jjs hG rfl rfl ?_
    refine jj_ia hG (k := 79) rfl rfl rfl (fun x7 => ?_)
    refine jj_zne hG (t := 85) rfl rfl ?_ ?_
    · refine jjs hG rfl rfl ?_
      refine jj_gr hG (k := 79) rfl rfl rfl rfl ?_
      refine jjs hG rfl rfl ?_
      refine jj_ia hG (k := 79) rfl rfl rfl (fun x8 => ?_)
      refine jj_ic hG rfl cc_i1 ?_
      refine jj_ine hG (t := 101) rfl rfl ?_ ?_
      · refine jj_l2 hG (v := (8193974 : Int64)) rfl rfl ?_
        exact jj_wl hG [0, 1] rfl (b104 _ _ _ _ _)
      refine jj_l2 hG (v := (2627531736724 : Int64)) rfl rfl ?_
      refine jj_go hG (t := 104) rfl rfl ?_
      exact jj_wl hG [0, 1] rfl (b104 _ _ _ _ _)
    refine jj_l2 hG (v := (985814 : Int64)) rfl rfl ?_
    refine jj_go hG (t := 104) rfl rfl ?_
    exact jj_wl hG [0, 1] rfl (b104 _ _ _ _ _)
  refine (show JJ C R base m G 0 [(0, .ref m), (1, .int p1)] [] q t kc ks (M_sayInterface t p1) (some tz) from ?_) hw h
  refine jjs hG rfl rfl ?_
  refine jjs hG rfl rfl ?_
  refine jj_gr hG (k := 18) rfl rfl rfl rfl ?_
  refine jjs hG rfl rfl ?_
  refine jj_gr hG (k := 71) rfl rfl rfl rfl ?_
  refine jjs hG rfl rfl ?_
  refine jj_ia hG (k := 71) rfl rfl rfl (fun x1 => ?_)
  refine jj_la hG (k := 18) rfl rfl rfl (fun x2 => ?_)
  refine jj_cvA hG 0 rfl rfl (Nat.le_of_ble_eq_true rfl) (by decide) (Nat.le_of_ble_eq_true rfl) rfl (st' := []) rfl (fun _ _ hw h k => pm_rcv_of moM_m (k_sayName base sa hw h k)) (fun s3 q kc ks => ?_)
  refine jjs hG rfl rfl ?_
  refine jjs hG rfl rfl ?_
  refine jj_gr hG (k := 22) rfl rfl rfl rfl ?_
  refine jjs hG rfl rfl ?_
  refine jj_gr hG (k := 71) rfl rfl rfl rfl ?_
  refine jjs hG rfl rfl ?_
  refine jj_ia hG (k := 71) rfl rfl rfl (fun x4 => ?_)
  refine jj_ba hG (k := 22) rfl rfl rfl (fun x5 => ?_)
  refine jj_zeq hG (t := 36) rfl rfl ?_ ?_
  · refine jj_l2 hG (v := (280934 : Int64)) rfl rfl ?_
    exact jj_wl hG [0, 1] rfl (b39 _ _ _ _ _)
  refine jj_l2 hG (v := (856 : Int64)) rfl rfl ?_
  refine jj_go hG (t := 39) rfl rfl ?_
  exact jj_wl hG [0, 1] rfl (b39 _ _ _ _ _)
noncomputable def M_show_b77 (t : moS) (p1 : Int32) (p2 : Int32) (a3 : Int32) : Option ((Int32 × moS) ⊕ (Int32 × moS)) := Option.bind (M_say t (10 : Int32)) (fun s1 => ((some (.inl ((a3 + (1 : Int32)), s1)))))
noncomputable def M_show_b60 (t : moS) (p1 : Int32) (p2 : Int32) (a3 : Int32) : Option ((Int32 × moS) ⊕ (Int32 × moS)) := if p2 = 0 then (Option.bind (M_sayRoute t a3) (fun s2 => ((M_show_b77 s2 p1 p2 a3)))) else (Option.bind (M_sayTimes t a3) (fun s1 => ((M_show_b77 s1 p1 p2 a3))))
noncomputable def M_show_b174 (t : moS) : Option (Int32 × moS) := bn2 (M_shown t) (fun x2 s1 => ((some (x2, s1))))
noncomputable def M_show_s131 (t : moS) (p1 : Int32) (p2 : Int32) (a3 : Int32) : Option ((Int32 × moS) ⊕ (Int32 × moS)) := if a3 < (11 : Int32) then (if p2 = (2 : Int32) then (Option.bind (M_sayNumber t a3) (fun s1 => (Option.bind (rdI s1 45 (((11 : Int32) * p1) + a3)) (fun x2 => (Option.bind (M_wordNumber s1 x2) (fun s3 => (Option.bind (M_say s3 (10 : Int32)) (fun s4 => ((some (.inl ((a3 + (1 : Int32)), s4)))))))))))) else ((xo (M_show_b174 t)))) else ((xo (M_show_b174 t)))
noncomputable def M_show_b131 (t : moS) (p1 : Int32) (p2 : Int32) (a3 : Int32) : Option (Int32 × moS) := lp (fun x => M_show_s131 x.2 p1 p2 x.1) (a3, t)
noncomputable def M_show_b129 (t : moS) (p1 : Int32) (p2 : Int32) : Option (Int32 × moS) := (M_show_b131 t p1 p2 (0 : Int32))
noncomputable def M_show_s93 (t : moS) (p1 : Int32) (p2 : Int32) (a3 : Int32) : Option ((Int32 × moS) ⊕ (Int32 × moS)) := Option.bind (rdI t 70 p1) (fun x1 => (if a3 < (((4 : Int32) * p1) + x1) then (if p2 = (1 : Int32) then (Option.bind (M_sayInterface t a3) (fun s2 => (Option.bind (M_say s2 (10 : Int32)) (fun s3 => ((some (.inl ((a3 + (1 : Int32)), s3)))))))) else ((xo (M_show_b129 t p1 p2)))) else ((xo (M_show_b129 t p1 p2)))))
noncomputable def M_show_b93 (t : moS) (p1 : Int32) (p2 : Int32) (a3 : Int32) : Option (Int32 × moS) := lp (fun x => M_show_s93 x.2 p1 p2 x.1) (a3, t)
noncomputable def M_show_b89 (t : moS) (p1 : Int32) (p2 : Int32) : Option (Int32 × moS) := (M_show_b93 t p1 p2 ((4 : Int32) * p1))
noncomputable def M_show_s35 (t : moS) (p1 : Int32) (p2 : Int32) (a3 : Int32) : Option ((Int32 × moS) ⊕ (Int32 × moS)) := Option.bind (rdI t 105 p1) (fun x1 => (if a3 < (((2700 : Int32) * p1) + x1) then (if p2 = 0 then ((M_show_b60 t p1 p2 a3)) else (if p2 = (3 : Int32) then ((M_show_b60 t p1 p2 a3)) else ((xo (M_show_b89 t p1 p2))))) else ((xo (M_show_b89 t p1 p2)))))
noncomputable def M_show_b35 (t : moS) (p1 : Int32) (p2 : Int32) (a3 : Int32) : Option (Int32 × moS) := lp (fun x => M_show_s35 x.2 p1 p2 x.1) (a3, t)
noncomputable def M_show (t : moS) (p1 : Int32) (p2 : Int32) : Option (Int32 × moS) := letS (moSS t 0 (0 : Int32)) (fun s1 => (if (M_isRouter s1 p1) = 0 then ((some (((-1) : Int32), s1))) else (if p2 < 0 then ((some (((-1) : Int32), s1))) else (if (3 : Int32) < p2 then ((some (((-1) : Int32), s1))) else (letS (moSS s1 8 (0 : Int32)) (fun s2 => ((M_show_b35 s2 p1 p2 ((2700 : Int32) * p1)))))))))
set_option maxRecDepth 100000 in
set_option maxHeartbeats 4000000 in
theorem k_show (base : Nat) (sa : Nat → Nat) {C : Nat × Nat} {R : pmM} {m : Nat} {q : Nat → Nat} {t tz : moS} {kc ks : Nat} {Rt : pmR} {p1 : Int32} {p2 : Int32} {r : Int32} (hw : mW C R base m q t kc ks) (h : M_show t p1 p2 = (some (r, tz))) (k : ∀ (q' : Nat → Nat) (kc' ks' : Nat), mW C R base m q' tz kc' ks' → Rt (some (.int r)) (moM R m q' tz) kc' ks') : kP_Mo_show base sa [.ref m, .int p1, .int p2] (moM R m q t) kc ks Rt := by
  refine ⟨Nat.le_of_ble_eq_true rfl, fun G hG => ?_⟩
  have b174 : ∀ (q : Nat → Nat) (t : moS) (kc ks : Nat), JJ C R base m G 174 [(0, .ref m)] [] q t kc ks (M_show_b174 t) (some (r, tz)) := by
    intro q t kc ks
    refine jjs hG rfl rfl ?_
    refine jj_csA hG 0 rfl rfl (Nat.le_of_ble_eq_true rfl) (by decide) (Nat.le_of_ble_eq_true rfl) rfl (st' := []) rfl (w := .int) (fun _ _ _ hw h k => pm_rcv_of moM_m (k_shown base sa hw h k)) (fun x2 s1 q kc ks => ?_)
    exact jj_riS hG rfl rfl rfl (k _ _ _)
  have b131 : ∀ (n : Nat) (a3 : Int32) (q : Nat → Nat) (t : moS) (kc ks : Nat), JJ C R base m G 131 [(0, .ref m), (1, .int p1), (2, .int p2), (3, .int a3)] [] q t kc ks (lpN (fun x => M_show_s131 x.2 p1 p2 x.1) n (a3, t)) (some (r, tz)) := by
    intro n
    induction n with
    | zero => intro a3 q t kc ks; exact jj_lp0
    | succ n ih131 =>
      intro a3 q t kc ks
      refine jj_lpS (fun y131 c131 => ?_)
      refine (show JJ C R base m G 131 [(0, .ref m), (1, .int p1), (2, .int p2), (3, .int a3)] [] q t kc ks (M_show_s131 t p1 p2 a3) (some y131) from ?_)
      refine jjs hG rfl rfl ?_
      refine jj_bi hG rfl cc_b11 ?_
      refine jj_ige hG (t := 174) rfl rfl ?_ ?_
      · refine jj_exit c131 ?_
        exact jj_wl hG [0] rfl (b174 _ _ _ _)
      refine jjs hG rfl rfl ?_
      refine jj_ic hG rfl cc_i2 ?_
      refine jj_ine hG (t := 174) rfl rfl ?_ ?_
      · refine jj_exit c131 ?_
        exact jj_wl hG [0] rfl (b174 _ _ _ _)
      refine jjs hG rfl rfl ?_
      refine jjs hG rfl rfl ?_
      refine jj_cvA hG 0 rfl rfl (Nat.le_of_ble_eq_true rfl) (by decide) (Nat.le_of_ble_eq_true rfl) rfl (st' := []) rfl (fun _ _ hw h k => pm_rcv_of moM_m (k_sayNumber base sa hw h k)) (fun s1 q kc ks => ?_)
      refine jjs hG rfl rfl ?_
      refine jjs hG rfl rfl ?_
      refine jj_gr hG (k := 45) rfl rfl rfl rfl ?_
      refine jj_bi hG rfl cc_b11 ?_
      refine jjs hG rfl rfl ?_
      refine jjs hG rfl rfl ?_
      refine jjs hG rfl rfl ?_
      refine jjs hG rfl rfl ?_
      refine jj_ia hG (k := 45) rfl rfl rfl (fun x2 => ?_)
      refine jj_cvA hG 0 rfl rfl (Nat.le_of_ble_eq_true rfl) (by decide) (Nat.le_of_ble_eq_true rfl) rfl (st' := []) rfl (fun _ _ hw h k => pm_rcv_of moM_m (k_wordNumber base sa hw h k)) (fun s3 q kc ks => ?_)
      refine jjs hG rfl rfl ?_
      refine jj_bi hG rfl cc_b10 ?_
      refine jj_cvA hG 0 rfl rfl (Nat.le_of_ble_eq_true rfl) (by decide) (Nat.le_of_ble_eq_true rfl) rfl (st' := []) rfl (fun _ _ hw h k => pm_rcv_of moM_m (k_say base sa hw h k)) (fun s4 q kc ks => ?_)
      refine jj_inc hG rfl (Nat.le_of_ble_eq_true rfl) rfl cc_i1 ?_
      refine jj_go hG (t := 131) rfl rfl ?_
      exact jj_back c131 (jj_wl hG [1, 2, 3, 0] rfl (ih131 _ _ _ _ _))
  have b129 : ∀ (q : Nat → Nat) (t : moS) (kc ks : Nat), JJ C R base m G 129 [(0, .ref m), (1, .int p1), (2, .int p2)] [] q t kc ks (M_show_b129 t p1 p2) (some (r, tz)) := by
    intro q t kc ks
    refine jj_ic hG rfl cc_i0 ?_
    refine jjc hG rfl rfl (Nat.le_of_ble_eq_true rfl) ?_
    refine jj_lp (fun n => ?_)
    exact jj_wl hG [1, 2, 3, 0] rfl (b131 n _ _ _ _ _)
  have b93 : ∀ (n : Nat) (a3 : Int32) (q : Nat → Nat) (t : moS) (kc ks : Nat), JJ C R base m G 93 [(0, .ref m), (1, .int p1), (2, .int p2), (3, .int a3)] [] q t kc ks (lpN (fun x => M_show_s93 x.2 p1 p2 x.1) n (a3, t)) (some (r, tz)) := by
    intro n
    induction n with
    | zero => intro a3 q t kc ks; exact jj_lp0
    | succ n ih93 =>
      intro a3 q t kc ks
      refine jj_lpS (fun y93 c93 => ?_)
      refine (show JJ C R base m G 93 [(0, .ref m), (1, .int p1), (2, .int p2), (3, .int a3)] [] q t kc ks (M_show_s93 t p1 p2 a3) (some y93) from ?_)
      refine jjs hG rfl rfl ?_
      refine jj_ic hG rfl cc_i4 ?_
      refine jjs hG rfl rfl ?_
      refine jjs hG rfl rfl ?_
      refine jjs hG rfl rfl ?_
      refine jj_gr hG (k := 70) rfl rfl rfl rfl ?_
      refine jjs hG rfl rfl ?_
      refine jj_ia hG (k := 70) rfl rfl rfl (fun x1 => ?_)
      refine jjs hG rfl rfl ?_
      refine jj_ige hG (t := 129) rfl rfl ?_ ?_
      · refine jj_exit c93 ?_
        exact jj_wl hG [0, 1, 2] rfl (b129 _ _ _ _)
      refine jjs hG rfl rfl ?_
      refine jj_ic hG rfl cc_i1 ?_
      refine jj_ine hG (t := 129) rfl rfl ?_ ?_
      · refine jj_exit c93 ?_
        exact jj_wl hG [0, 1, 2] rfl (b129 _ _ _ _)
      refine jjs hG rfl rfl ?_
      refine jjs hG rfl rfl ?_
      refine jj_cvA hG 0 rfl rfl (Nat.le_of_ble_eq_true rfl) (by decide) (Nat.le_of_ble_eq_true rfl) rfl (st' := []) rfl (fun _ _ hw h k => pm_rcv_of moM_m (k_sayInterface base sa hw h k)) (fun s2 q kc ks => ?_)
      refine jjs hG rfl rfl ?_
      refine jj_bi hG rfl cc_b10 ?_
      refine jj_cvA hG 0 rfl rfl (Nat.le_of_ble_eq_true rfl) (by decide) (Nat.le_of_ble_eq_true rfl) rfl (st' := []) rfl (fun _ _ hw h k => pm_rcv_of moM_m (k_say base sa hw h k)) (fun s3 q kc ks => ?_)
      refine jj_inc hG rfl (Nat.le_of_ble_eq_true rfl) rfl cc_i1 ?_
      refine jj_go hG (t := 93) rfl rfl ?_
      exact jj_back c93 (jj_wl hG [1, 2, 3, 0] rfl (ih93 _ _ _ _ _))
  have b89 : ∀ (q : Nat → Nat) (t : moS) (kc ks : Nat), JJ C R base m G 89 [(0, .ref m), (1, .int p1), (2, .int p2)] [] q t kc ks (M_show_b89 t p1 p2) (some (r, tz)) := by
    intro q t kc ks
    refine jj_ic hG rfl cc_i4 ?_
    refine jjs hG rfl rfl ?_
    refine jjs hG rfl rfl ?_
    refine jjc hG rfl rfl (Nat.le_of_ble_eq_true rfl) ?_
    refine jj_lp (fun n => ?_)
    exact jj_wl hG [1, 2, 3, 0] rfl (b93 n _ _ _ _ _)
  have b35 : ∀ (n : Nat) (a3 : Int32) (q : Nat → Nat) (t : moS) (kc ks : Nat), JJ C R base m G 35 [(0, .ref m), (1, .int p1), (2, .int p2), (3, .int a3)] [] q t kc ks (lpN (fun x => M_show_s35 x.2 p1 p2 x.1) n (a3, t)) (some (r, tz)) := by
    intro n
    induction n with
    | zero => intro a3 q t kc ks; exact jj_lp0
    | succ n ih35 =>
      intro a3 q t kc ks
      refine jj_lpS (fun y35 c35 => ?_)
      have b77 : ∀ (a3 : Int32) (q : Nat → Nat) (t : moS) (kc ks : Nat), JJ C R base m G 77 [(0, .ref m), (1, .int p1), (2, .int p2), (3, .int a3)] [] q t kc ks (M_show_b77 t p1 p2 a3) (some y35) := by
        intro a3 q t kc ks
        refine jjs hG rfl rfl ?_
        refine jj_bi hG rfl cc_b10 ?_
        refine jj_cvA hG 0 rfl rfl (Nat.le_of_ble_eq_true rfl) (by decide) (Nat.le_of_ble_eq_true rfl) rfl (st' := []) rfl (fun _ _ hw h k => pm_rcv_of moM_m (k_say base sa hw h k)) (fun s1 q kc ks => ?_)
        refine jj_inc hG rfl (Nat.le_of_ble_eq_true rfl) rfl cc_i1 ?_
        refine jj_go hG (t := 35) rfl rfl ?_
        exact jj_back c35 (jj_wl hG [1, 2, 3, 0] rfl (ih35 _ _ _ _ _))
      have b60 : ∀ (a3 : Int32) (q : Nat → Nat) (t : moS) (kc ks : Nat), JJ C R base m G 60 [(0, .ref m), (1, .int p1), (2, .int p2), (3, .int a3)] [] q t kc ks (M_show_b60 t p1 p2 a3) (some y35) := by
        intro a3 q t kc ks
        refine jjs hG rfl rfl ?_
        refine jj_zne hG (t := 72) rfl rfl ?_ ?_
        · refine jjs hG rfl rfl ?_
          refine jjs hG rfl rfl ?_
          refine jj_cvA hG 0 rfl rfl (Nat.le_of_ble_eq_true rfl) (by decide) (Nat.le_of_ble_eq_true rfl) rfl (st' := []) rfl (fun _ _ hw h k => pm_rcv_of moM_m (k_sayTimes base sa hw h k)) (fun s1 q kc ks => ?_)
          exact jj_wl hG [0, 1, 2, 3] rfl (b77 _ _ _ _ _)
        refine jjs hG rfl rfl ?_
        refine jjs hG rfl rfl ?_
        refine jj_cvA hG 0 rfl rfl (Nat.le_of_ble_eq_true rfl) (by decide) (Nat.le_of_ble_eq_true rfl) rfl (st' := []) rfl (fun _ _ hw h k => pm_rcv_of moM_m (k_sayRoute base sa hw h k)) (fun s2 q kc ks => ?_)
        refine jj_go hG (t := 77) rfl rfl ?_
        exact jj_wl hG [0, 1, 2, 3] rfl (b77 _ _ _ _ _)
      refine (show JJ C R base m G 35 [(0, .ref m), (1, .int p1), (2, .int p2), (3, .int a3)] [] q t kc ks (M_show_s35 t p1 p2 a3) (some y35) from ?_)
      refine jjs hG rfl rfl ?_
      refine jj_si hG rfl cc_s2700 ?_
      refine jjs hG rfl rfl ?_
      refine jjs hG rfl rfl ?_
      refine jjs hG rfl rfl ?_
      refine jj_gr hG (k := 105) rfl rfl rfl rfl ?_
      refine jjs hG rfl rfl ?_
      refine jj_ia hG (k := 105) rfl rfl rfl (fun x1 => ?_)
      refine jjs hG rfl rfl ?_
      refine jj_ige hG (t := 89) rfl rfl ?_ ?_
      · refine jj_exit c35 ?_
        exact jj_wl hG [0, 1, 2] rfl (b89 _ _ _ _)
      refine jjs hG rfl rfl ?_
      refine jj_zeq hG (t := 60) rfl rfl ?_ ?_
      · exact jj_wl hG [0, 1, 2, 3] rfl (b60 _ _ _ _ _)
      refine jjs hG rfl rfl ?_
      refine jj_ic hG rfl cc_i3 ?_
      refine jj_ine hG (t := 89) rfl rfl ?_ ?_
      · refine jj_exit c35 ?_
        exact jj_wl hG [0, 1, 2] rfl (b89 _ _ _ _)
      exact jj_wl hG [0, 1, 2, 3] rfl (b60 _ _ _ _ _)
  refine (show JJ C R base m G 0 [(0, .ref m), (1, .int p1), (2, .int p2)] [] q t kc ks (M_show t p1 p2) (some (r, tz)) from ?_) hw h
  refine jjs hG rfl rfl ?_
  refine jj_ic hG rfl cc_i0 ?_
  refine jj_pi hG (k := 0) rfl rfl rfl rfl (fun s1 => ?_)
  refine jjs hG rfl rfl ?_
  refine jjs hG rfl rfl ?_
  refine jj_ct hG 0 rfl rfl (Nat.le_of_ble_eq_true rfl) (by decide) (Nat.le_of_ble_eq_true rfl) rfl (st' := []) rfl (v := .int (M_isRouter s1 p1)) (fun _ hw k => pm_rcv_of moM_m (k_isRouter base sa hw rfl k)) ?_
  refine jj_zeq hG (t := 22) rfl rfl ?_ ?_
  · refine jj_ic hG rfl cc_im1 ?_
    exact jj_riS hG rfl rfl rfl (k _ _ _)
  refine jjs hG rfl rfl ?_
  refine jj_zlt hG (t := 22) rfl rfl ?_ ?_
  · refine jj_ic hG rfl cc_im1 ?_
    exact jj_riS hG rfl rfl rfl (k _ _ _)
  refine jjs hG rfl rfl ?_
  refine jj_ic hG rfl cc_i3 ?_
  refine jj_ile hG (t := 24) rfl rfl ?_ ?_
  · refine jjs hG rfl rfl ?_
    refine jj_ic hG rfl cc_i0 ?_
    refine jj_pi hG (k := 8) rfl rfl rfl rfl (fun s2 => ?_)
    refine jj_si hG rfl cc_s2700 ?_
    refine jjs hG rfl rfl ?_
    refine jjs hG rfl rfl ?_
    refine jjc hG rfl rfl (Nat.le_of_ble_eq_true rfl) ?_
    refine jj_lp (fun n => ?_)
    exact jj_wl hG [1, 2, 3, 0] rfl (b35 n _ _ _ _ _)
  refine jj_ic hG rfl cc_im1 ?_
  exact jj_riS hG rfl rfl rfl (k _ _ _)
noncomputable def M_sayLink (t : moS) (p1 : Int32) : Option moS := Option.bind (M_sayName t (782971 : Int64)) (fun s1 => (Option.bind (rdJ s1 18 p1) (fun x2 => (Option.bind (M_word s1 x2) (fun s3 => (Option.bind (rdI s3 19 p1) (fun x4 => (Option.bind (M_wordNumber s3 x4) (fun s5 => (Option.bind (M_word s5 (1048352218 : Int64)) (fun s6 => (Option.bind (rdI s6 20 p1) (fun x7 => (Option.bind (M_wordNumber s6 x7) (fun s8 => (Option.bind (M_word s8 (21621 : Int64)) (fun s9 => (Option.bind (rdI s9 21 p1) (fun x10 => (Option.bind (M_wordNumber s9 x10) (fun s11 => (Option.bind (M_say s11 (10 : Int32)) (fun s12 => ((some s12)))))))))))))))))))))))))
set_option maxRecDepth 100000 in
set_option maxHeartbeats 4000000 in
theorem k_sayLink (base : Nat) (sa : Nat → Nat) {C : Nat × Nat} {R : pmM} {m : Nat} {q : Nat → Nat} {t tz : moS} {kc ks : Nat} {Rt : pmR} {p1 : Int32} (hw : mW C R base m q t kc ks) (h : M_sayLink t p1 = (some tz)) (k : ∀ (q' : Nat → Nat) (kc' ks' : Nat), mW C R base m q' tz kc' ks' → Rt none (moM R m q' tz) kc' ks') : kP_Mo_sayLink base sa [.ref m, .int p1] (moM R m q t) kc ks Rt := by
  refine ⟨Nat.le_of_ble_eq_true rfl, fun G hG => ?_⟩
  refine (show JJ C R base m G 0 [(0, .ref m), (1, .int p1)] [] q t kc ks (M_sayLink t p1) (some tz) from ?_) hw h
  refine jjs hG rfl rfl ?_
  refine jj_l2 hG (v := (782971 : Int64)) rfl rfl ?_
  refine jj_cvA hG 0 rfl rfl (Nat.le_of_ble_eq_true rfl) (by decide) (Nat.le_of_ble_eq_true rfl) rfl (st' := []) rfl (fun _ _ hw h k => pm_rcv_of moM_m (k_sayName base sa hw h k)) (fun s1 q kc ks => ?_)
  refine jjs hG rfl rfl ?_
  refine jjs hG rfl rfl ?_
  refine jj_gr hG (k := 18) rfl rfl rfl rfl ?_
  refine jjs hG rfl rfl ?_
  refine jj_la hG (k := 18) rfl rfl rfl (fun x2 => ?_)
  refine jj_cvA hG 0 rfl rfl (Nat.le_of_ble_eq_true rfl) (by decide) (Nat.le_of_ble_eq_true rfl) rfl (st' := []) rfl (fun _ _ hw h k => pm_rcv_of moM_m (k_word base sa hw h k)) (fun s3 q kc ks => ?_)
  refine jjs hG rfl rfl ?_
  refine jjs hG rfl rfl ?_
  refine jj_gr hG (k := 19) rfl rfl rfl rfl ?_
  refine jjs hG rfl rfl ?_
  refine jj_ia hG (k := 19) rfl rfl rfl (fun x4 => ?_)
  refine jj_cvA hG 0 rfl rfl (Nat.le_of_ble_eq_true rfl) (by decide) (Nat.le_of_ble_eq_true rfl) rfl (st' := []) rfl (fun _ _ hw h k => pm_rcv_of moM_m (k_wordNumber base sa hw h k)) (fun s5 q kc ks => ?_)
  refine jjs hG rfl rfl ?_
  refine jj_l2 hG (v := (1048352218 : Int64)) rfl rfl ?_
  refine jj_cvA hG 0 rfl rfl (Nat.le_of_ble_eq_true rfl) (by decide) (Nat.le_of_ble_eq_true rfl) rfl (st' := []) rfl (fun _ _ hw h k => pm_rcv_of moM_m (k_word base sa hw h k)) (fun s6 q kc ks => ?_)
  refine jjs hG rfl rfl ?_
  refine jjs hG rfl rfl ?_
  refine jj_gr hG (k := 20) rfl rfl rfl rfl ?_
  refine jjs hG rfl rfl ?_
  refine jj_ia hG (k := 20) rfl rfl rfl (fun x7 => ?_)
  refine jj_cvA hG 0 rfl rfl (Nat.le_of_ble_eq_true rfl) (by decide) (Nat.le_of_ble_eq_true rfl) rfl (st' := []) rfl (fun _ _ hw h k => pm_rcv_of moM_m (k_wordNumber base sa hw h k)) (fun s8 q kc ks => ?_)
  refine jjs hG rfl rfl ?_
  refine jj_l2 hG (v := (21621 : Int64)) rfl rfl ?_
  refine jj_cvA hG 0 rfl rfl (Nat.le_of_ble_eq_true rfl) (by decide) (Nat.le_of_ble_eq_true rfl) rfl (st' := []) rfl (fun _ _ hw h k => pm_rcv_of moM_m (k_word base sa hw h k)) (fun s9 q kc ks => ?_)
  refine jjs hG rfl rfl ?_
  refine jjs hG rfl rfl ?_
  refine jj_gr hG (k := 21) rfl rfl rfl rfl ?_
  refine jjs hG rfl rfl ?_
  refine jj_ia hG (k := 21) rfl rfl rfl (fun x10 => ?_)
  refine jj_cvA hG 0 rfl rfl (Nat.le_of_ble_eq_true rfl) (by decide) (Nat.le_of_ble_eq_true rfl) rfl (st' := []) rfl (fun _ _ hw h k => pm_rcv_of moM_m (k_wordNumber base sa hw h k)) (fun s11 q kc ks => ?_)
  refine jjs hG rfl rfl ?_
  refine jj_bi hG rfl cc_b10 ?_
  refine jj_cvA hG 0 rfl rfl (Nat.le_of_ble_eq_true rfl) (by decide) (Nat.le_of_ble_eq_true rfl) rfl (st' := []) rfl (fun _ _ hw h k => pm_rcv_of moM_m (k_say base sa hw h k)) (fun s12 q kc ks => ?_)
  exact jj_rvS hG rfl rfl (k _ _ _)
