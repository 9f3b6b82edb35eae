/-! The model as functions, by program: sayListEntry .. sayStatics -/
noncomputable def M_sayListEntry_b121 (t : moS) : Option moS := Option.bind (M_say t (10 : Int32)) (fun s1 => ((some s1)))
noncomputable def M_sayListEntry_b94 (t : moS) (p2 : Int32) : Option moS := Option.bind (rdI t 36 p2) (fun x1 => (if x1 = ((-1) : Int32) then ((M_sayListEntry_b121 t)) else (Option.bind (M_word t (485 : Int64)) (fun s2 => (Option.bind (rdI s2 36 p2) (fun x3 => (Option.bind (M_wordNumber s2 x3) (fun s4 => ((M_sayListEntry_b121 s4))))))))))
noncomputable def M_sayListEntry_b36 (t : moS) (p2 : Int32) (u1 : Int64) : Option moS := Option.bind (M_word t u1) (fun s1 => (Option.bind (rdI s1 31 p2) (fun x2 => (Option.bind (rdJ s1 32 p2) (fun x3 => (Option.bind (rdJ s1 33 p2) (fun x4 => (Option.bind (rdI s1 34 p2) (fun x5 => (Option.bind (M_wordPrefix s1 x2 x3 x4 x5) (fun s6 => (Option.bind (rdI s6 35 p2) (fun x7 => (if x7 = ((-1) : Int32) then ((M_sayListEntry_b94 s6 p2)) else (Option.bind (M_word s6 (285 : Int64)) (fun s8 => (Option.bind (rdI s8 35 p2) (fun x9 => (Option.bind (M_wordNumber s8 x9) (fun s10 => ((M_sayListEntry_b94 s10 p2))))))))))))))))))))))
noncomputable def M_sayListEntry (t : moS) (p1 : Int32) (p2 : Int32) : Option moS := Option.bind (M_sayName t (783180 : Int64)) (fun s1 => (Option.bind (rdJ s1 28 p1) (fun x2 => (Option.bind (M_word s1 x2) (fun s3 => (Option.bind (rdI s3 30 p2) (fun x4 => (if x4 = 0 then ((M_sayListEntry_b36 s3 p2 (264585 : Int64))) else ((M_sayListEntry_b36 s3 p2 (1652373180 : Int64)))))))))))
set_option maxRecDepth 100000 in
set_option maxHeartbeats 4000000 in
theorem k_sayListEntry (base : Nat) (sa : Nat → Nat) {C : Nat × Nat} {R : pmM} {m : Nat} {q : Nat → Nat} {t tz : moS} {kc ks : Nat} {Rt : pmR} {p1 : Int32} {p2 : Int32} (hw : mW C R base m q t kc ks) (h : M_sayListEntry t p1 p2 = (some tz)) (k : ∀ (q' : Nat → Nat) (kc' ks' : Nat), mW C R base m q' tz kc' ks' → Rt none (moM R m q' tz) kc' ks') : kP_Mo_sayListEntry base sa [.ref m, .int p1, .int p2] (moM R m q t) kc ks Rt := by
  refine ⟨Nat.le_of_ble_eq_true rfl, fun G hG => ?_⟩
  have b121 : ∀ (q : Nat → Nat) (t : moS) (kc ks : Nat), JJ C R base m G 121 [(0, .ref m)] [] q t kc ks (M_sayListEntry_b121 t) (some tz) := by
    intro q t kc ks
    refine jjs hG rfl rfl ?_
    refine jj_bi hG rfl cc_b10 ?_
    refine jj_cvA hG 0 rfl rfl (Nat.le_of_ble_eq_true rfl) (by decide) (Nat.le_of_ble_eq_true rfl) rfl (st' := []) rfl (fun _ _ hw h k => pm_rcv_of moM_m (k_say base sa hw h k)) (fun s1 q kc ks => ?_)
    exact jj_rvS hG rfl rfl (k _ _ _)
  have b94 : ∀ (q : Nat → Nat) (t : moS) (kc ks : Nat), JJ C R base m G 94 [(0, .ref m), (2, .int p2)] [] q t kc ks (M_sayListEntry_b94 t p2) (some tz) := by
    intro q t kc ks
    refine jjs hG rfl rfl ?_
    refine jj_gr hG (k := 36) rfl rfl rfl rfl ?_
    refine jjs hG rfl rfl ?_
    refine jj_ia hG (k := 36) rfl rfl rfl (fun x1 => ?_)
    refine jj_ic hG rfl cc_im1 ?_
    refine jj_ieq hG (t := 121) rfl rfl ?_ ?_
    · exact jj_wl hG [0] rfl (b121 _ _ _ _)
    refine jjs hG rfl rfl ?_
    refine jj_l2 hG (v := (485 : Int64)) rfl rfl ?_
    refine jj_cvA hG 0 rfl rfl (Nat.le_of_ble_eq_true rfl) (by decide) (Nat.le_of_ble_eq_true rfl) rfl (st' := []) rfl (fun _ _ hw h k => pm_rcv_of moM_m (k_word base sa hw h k)) (fun s2 q kc ks => ?_)
    refine jjs hG rfl rfl ?_
    refine jjs hG rfl rfl ?_
    refine jj_gr hG (k := 36) rfl rfl rfl rfl ?_
    refine jjs hG rfl rfl ?_
    refine jj_ia hG (k := 36) rfl rfl rfl (fun x3 => ?_)
    refine jj_cvA hG 0 rfl rfl (Nat.le_of_ble_eq_true rfl) (by decide) (Nat.le_of_ble_eq_true rfl) rfl (st' := []) rfl (fun _ _ hw h k => pm_rcv_of moM_m (k_wordNumber base sa hw h k)) (fun s4 q kc ks => ?_)
    exact jj_wl hG [0] rfl (b121 _ _ _ _)
  have b36 : ∀ (u1 : Int64) (q : Nat → Nat) (t : moS) (kc ks : Nat), JJ C R base m G 36 [(0, .ref m), (2, .int p2)] [.long u1, .ref m] q t kc ks (M_sayListEntry_b36 t p2 u1) (some tz) := by
    intro u1 q t kc ks
    refine jj_cvA hG 0 rfl rfl (Nat.le_of_ble_eq_true rfl) (by decide) (Nat.le_of_ble_eq_true rfl) rfl (st' := []) rfl (fun _ _ hw h k => pm_rcv_of moM_m (k_word base sa hw h k)) (fun s1 q kc ks => ?_)
    refine jjs hG rfl rfl ?_
    refine jjs hG rfl rfl ?_
    refine jj_gr hG (k := 31) rfl rfl rfl rfl ?_
    refine jjs hG rfl rfl ?_
    refine jj_ia hG (k := 31) rfl rfl rfl (fun x2 => ?_)
    refine jjs hG rfl rfl ?_
    refine jj_gr hG (k := 32) rfl rfl rfl rfl ?_
    refine jjs hG rfl rfl ?_
    refine jj_la hG (k := 32) rfl rfl rfl (fun x3 => ?_)
    refine jjs hG rfl rfl ?_
    refine jj_gr hG (k := 33) rfl rfl rfl rfl ?_
    refine jjs hG rfl rfl ?_
    refine jj_la hG (k := 33) rfl rfl rfl (fun x4 => ?_)
    refine jjs hG rfl rfl ?_
    refine jj_gr hG (k := 34) rfl rfl rfl rfl ?_
    refine jjs hG rfl rfl ?_
    refine jj_ia hG (k := 34) rfl rfl rfl (fun x5 => ?_)
    refine jj_cvA hG 0 rfl rfl (Nat.le_of_ble_eq_true rfl) (by decide) (Nat.le_of_ble_eq_true rfl) rfl (st' := []) rfl (fun _ _ hw h k => pm_rcv_of moM_m (k_wordPrefix base sa hw h k)) (fun s6 q kc ks => ?_)
    refine jjs hG rfl rfl ?_
    refine jj_gr hG (k := 35) rfl rfl rfl rfl ?_
    refine jjs hG rfl rfl ?_
    refine jj_ia hG (k := 35) rfl rfl rfl (fun x7 => ?_)
    refine jj_ic hG rfl cc_im1 ?_
    refine jj_ieq hG (t := 94) rfl rfl ?_ ?_
    · exact jj_wl hG [0, 1] rfl (b94 _ _ _ _)
    refine jjs hG rfl rfl ?_
    refine jj_l2 hG (v := (285 : Int64)) rfl rfl ?_
    refine jj_cvA hG 0 rfl rfl (Nat.le_of_ble_eq_true rfl) (by decide) (Nat.le_of_ble_eq_true rfl) rfl (st' := []) rfl (fun _ _ hw h k => pm_rcv_of moM_m (k_word base sa hw h k)) (fun s8 q kc ks => ?_)
    refine jjs hG rfl rfl ?_
    refine jjs hG rfl rfl ?_
    refine jj_gr hG (k := 35) rfl rfl rfl rfl ?_
    refine jjs hG rfl rfl ?_
    refine jj_ia hG (k := 35) rfl rfl rfl (fun x9 => ?_)
    refine jj_cvA hG 0 rfl rfl (Nat.le_of_ble_eq_true rfl) (by decide) (Nat.le_of_ble_eq_true rfl) rfl (st' := []) rfl (fun _ _ hw h k => pm_rcv_of moM_m (k_wordNumber base sa hw h k)) (fun s10 q kc ks => ?_)
    exact jj_wl hG [0, 1] rfl (b94 _ _ _ _)
  refine (show JJ C R base m G 0 [(0, .ref m), (1, .int p1), (2, .int p2)] [] q t kc ks (M_sayListEntry t p1 p2) (some tz) from ?_) hw h
  refine jjs hG rfl rfl ?_
  refine jj_l2 hG (v := (783180 : Int64)) rfl rfl ?_
  refine jj_cvA hG 0 rfl rfl (Nat.le_of_ble_eq_true rfl) (by decide) (Nat.le_of_ble_eq_true rfl) rfl (st' := []) rfl (fun _ _ hw h k => pm_rcv_of moM_m (k_sayName base sa hw h k)) (fun s1 q kc ks => ?_)
  refine jjs hG rfl rfl ?_
  refine jjs hG rfl rfl ?_
  refine jj_gr hG (k := 28) rfl rfl rfl rfl ?_
  refine jjs hG rfl rfl ?_
  refine jj_la hG (k := 28) rfl rfl rfl (fun x2 => ?_)
  refine jj_cvA hG 0 rfl rfl (Nat.le_of_ble_eq_true rfl) (by decide) (Nat.le_of_ble_eq_true rfl) rfl (st' := []) rfl (fun _ _ hw h k => pm_rcv_of moM_m (k_word base sa hw h k)) (fun s3 q kc ks => ?_)
  refine jjs hG rfl rfl ?_
  refine jjs hG rfl rfl ?_
  refine jj_gr hG (k := 30) rfl rfl rfl rfl ?_
  refine jjs hG rfl rfl ?_
  refine jj_ba hG (k := 30) rfl rfl rfl (fun x4 => ?_)
  refine jj_zeq hG (t := 33) rfl rfl ?_ ?_
  · refine jj_l2 hG (v := (264585 : Int64)) rfl rfl ?_
    exact jj_wl hG [0, 2] rfl (b36 _ _ _ _ _)
  refine jj_l2 hG (v := (1652373180 : Int64)) rfl rfl ?_
  refine jj_go hG (t := 36) rfl rfl ?_
  exact jj_wl hG [0, 2] rfl (b36 _ _ _ _ _)
noncomputable def M_begin (t : moS) (p1 : Int64) (p3 : Int32) : Option moS := Option.bind (M_sayName t p1) (fun s1 => (Option.bind (rdJ s1 38 p3) (fun x2 => (Option.bind (M_word s1 x2) (fun s3 => ((some s3)))))))
set_option maxRecDepth 100000 in
set_option maxHeartbeats 4000000 in
theorem k_begin (base : Nat) (sa : Nat → Nat) {C : Nat × Nat} {R : pmM} {m : Nat} {q : Nat → Nat} {t tz : moS} {kc ks : Nat} {Rt : pmR} {p1 : Int64} {p3 : Int32} (hw : mW C R base m q t kc ks) (h : M_begin t p1 p3 = (some tz)) (k : ∀ (q' : Nat → Nat) (kc' ks' : Nat), mW C R base m q' tz kc' ks' → Rt none (moM R m q' tz) kc' ks') : kP_Mo_begin base sa [.ref m, .long p1, .int p3] (moM R m q t) kc ks Rt := by
  refine ⟨Nat.le_of_ble_eq_true rfl, fun G hG => ?_⟩
  refine (show JJ C R base m G 0 [(0, .ref m), (1, .long p1), (3, .int p3)] [] q t kc ks (M_begin t p1 p3) (some tz) from ?_) hw h
  refine jjs hG rfl rfl ?_
  refine jjs hG rfl rfl ?_
  refine jj_cvA hG 0 rfl rfl (Nat.le_of_ble_eq_true rfl) (by decide) (Nat.le_of_ble_eq_true rfl) rfl (st' := []) rfl (fun _ _ hw h k => pm_rcv_of moM_m (k_sayName base sa hw h k)) (fun s1 q kc ks => ?_)
  refine jjs hG rfl rfl ?_
  refine jjs hG rfl rfl ?_
  refine jj_gr hG (k := 38) rfl rfl rfl rfl ?_
  refine jjs hG rfl rfl ?_
  refine jj_la hG (k := 38) rfl rfl rfl (fun x2 => ?_)
  refine jj_cvA hG 0 rfl rfl (Nat.le_of_ble_eq_true rfl) (by decide) (Nat.le_of_ble_eq_true rfl) rfl (st' := []) rfl (fun _ _ hw h k => pm_rcv_of moM_m (k_word base sa hw h k)) (fun s3 q kc ks => ?_)
  exact jj_rvS hG rfl rfl (k _ _ _)
noncomputable def M_beginAt (t : moS) (p1 : Int64) (p3 : Int32) : Option moS := Option.bind (M_begin t p1 (p3 / (4 : Int32))) (fun s1 => (Option.bind (rdI s1 71 p3) (fun x2 => (Option.bind (rdJ s1 18 x2) (fun x3 => (Option.bind (M_word s1 x3) (fun s4 => ((some s4)))))))))
set_option maxRecDepth 100000 in
set_option maxHeartbeats 4000000 in
theorem k_beginAt (base : Nat) (sa : Nat → Nat) {C : Nat × Nat} {R : pmM} {m : Nat} {q : Nat → Nat} {t tz : moS} {kc ks : Nat} {Rt : pmR} {p1 : Int64} {p3 : Int32} (hw : mW C R base m q t kc ks) (h : M_beginAt t p1 p3 = (some tz)) (k : ∀ (q' : Nat → Nat) (kc' ks' : Nat), mW C R base m q' tz kc' ks' → Rt none (moM R m q' tz) kc' ks') : kP_Mo_beginAt base sa [.ref m, .long p1, .int p3] (moM R m q t) kc ks Rt := by
  refine ⟨Nat.le_of_ble_eq_true rfl, fun G hG => ?_⟩
  refine (show JJ C R base m G 0 [(0, .ref m), (1, .long p1), (3, .int p3)] [] q t kc ks (M_beginAt t p1 p3) (some tz) from ?_) hw h
  refine jjs hG rfl rfl ?_
  refine jjs hG rfl rfl ?_
  refine jjs hG rfl rfl ?_
  refine jj_ic hG rfl cc_i4 ?_
  refine jjc hG rfl rfl (by decide) ?_
  refine jj_cvA hG 0 rfl rfl (Nat.le_of_ble_eq_true rfl) (by decide) (Nat.le_of_ble_eq_true rfl) rfl (st' := []) rfl (fun _ _ hw h k => pm_rcv_of moM_m (k_begin base sa hw h k)) (fun s1 q kc ks => ?_)
  refine jjs hG rfl rfl ?_
  refine jjs hG rfl rfl ?_
  refine jj_gr hG (k := 18) rfl rfl rfl rfl ?_
  refine jjs hG rfl rfl ?_
  refine jj_gr hG (k := 71) rfl rfl rfl rfl ?_
  refine jjs hG rfl rfl ?_
  refine jj_ia hG (k := 71) rfl rfl rfl (fun x2 => ?_)
  refine jj_la hG (k := 18) rfl rfl rfl (fun x3 => ?_)
  refine jj_cvA hG 0 rfl rfl (Nat.le_of_ble_eq_true rfl) (by decide) (Nat.le_of_ble_eq_true rfl) rfl (st' := []) rfl (fun _ _ hw h k => pm_rcv_of moM_m (k_word base sa hw h k)) (fun s4 q kc ks => ?_)
  exact jj_rvS hG rfl rfl (k _ _ _)
noncomputable def M_sayOptions_b88 (t : moS) (p1 : Int32) : Option moS := Option.bind (rdI t 74 p1) (fun x1 => (if x1 = 0 then ((some t)) else (Option.bind (M_word t (65688271285 : Int64)) (fun s2 => ((some s2))))))
noncomputable def M_sayOptions_s57 (t : moS) (p1 : Int32) (a2 : Int32) : Option ((Int32 × moS) ⊕ moS) := Option.bind (rdI t 80 p1) (fun x1 => (if a2 < x1 then (Option.bind (rdI t 81 (((16 : Int32) * p1) + a2)) (fun x2 => (Option.bind (M_say t x2) (fun s3 => ((some (.inl ((a2 + (1 : Int32)), s3)))))))) else ((xo (M_sayOptions_b88 t p1)))))
noncomputable def M_sayOptions_b57 (t : moS) (p1 : Int32) (a2 : Int32) : Option moS := lp (fun x => M_sayOptions_s57 x.2 p1 x.1) (a2, t)
noncomputable def M_sayOptions (t : moS) (p1 : Int32) : Option moS := Option.bind (M_word t (216780 : Int64)) (fun s1 => (Option.bind (rdI s1 72 p1) (fun x2 => (Option.bind (M_wordNumber s1 x2) (fun s3 => (Option.bind (M_word s3 (49683580 : Int64)) (fun s4 => (Option.bind (rdJ s4 73 p1) (fun x5 => (Option.bind (M_word s4 x5) (fun s6 => (Option.bind (rdI s6 79 p1) (fun x7 => (if x7 = (1 : Int32) then (Option.bind (M_word s6 (2627531736724 : Int64)) (fun s8 => (Option.bind (M_space s8) (fun s9 => ((M_sayOptions_b57 s9 p1 (0 : Int32))))))) else ((M_sayOptions_b88 s6 p1))))))))))))))))
set_option maxRecDepth 100000 in
set_option maxHeartbeats 4000000 in
theorem k_sayOptions (base : Nat) (sa : Nat → Nat) {C : Nat × Nat} {R : pmM} {m : Nat} {q : Nat → Nat} {t tz : moS} {kc ks : Nat} {Rt : pmR} {p1 : Int32} (hw : mW C R base m q t kc ks) (h : M_sayOptions t p1 = (some tz)) (k : ∀ (q' : Nat → Nat) (kc' ks' : Nat), mW C R base m q' tz kc' ks' → Rt none (moM R m q' tz) kc' ks') : kP_Mo_sayOptions base sa [.ref m, .int p1] (moM R m q t) kc ks Rt := by
  refine ⟨Nat.le_of_ble_eq_true rfl, fun G hG => ?_⟩
  have b88 : ∀ (q : Nat → Nat) (t : moS) (kc ks : Nat), JJ C R base m G 88 [(0, .ref m), (1, .int p1)] [] q t kc ks (M_sayOptions_b88 t p1) (some tz) := by
    intro q t kc ks
    refine jjs hG rfl rfl ?_
    refine jj_gr hG (k := 74) rfl rfl rfl rfl ?_
    refine jjs hG rfl rfl ?_
    refine jj_ba hG (k := 74) rfl rfl rfl (fun x1 => ?_)
    refine jj_zeq hG (t := 104) rfl rfl ?_ ?_
    · exact jj_rvS hG rfl rfl (k _ _ _)
    refine jjs hG rfl rfl ?_
    refine jj_l2 hG (v := (65688271285 : Int64)) rfl rfl ?_
    refine jj_cvA hG 0 rfl rfl (Nat.le_of_ble_eq_true rfl) (by decide) (Nat.le_of_ble_eq_true rfl) rfl (st' := []) rfl (fun _ _ hw h k => pm_rcv_of moM_m (k_word base sa hw h k)) (fun s2 q kc ks => ?_)
    exact jj_rvS hG rfl rfl (k _ _ _)
  have b57 : ∀ (n : Nat) (a2 : Int32) (q : Nat → Nat) (t : moS) (kc ks : Nat), JJ C R base m G 57 [(0, .ref m), (1, .int p1), (2, .int a2)] [] q t kc ks (lpN (fun x => M_sayOptions_s57 x.2 p1 x.1) n (a2, t)) (some tz) := by
    intro n
    induction n with
    | zero => intro a2 q t kc ks; exact jj_lp0
    | succ n ih57 =>
      intro a2 q t kc ks
      refine jj_lpS (fun y57 c57 => ?_)
      refine (show JJ C R base m G 57 [(0, .ref m), (1, .int p1), (2, .int a2)] [] q t kc ks (M_sayOptions_s57 t p1 a2) (some y57) from ?_)
      refine jjs hG rfl rfl ?_
      refine jjs hG rfl rfl ?_
      refine jj_gr hG (k := 80) rfl rfl rfl rfl ?_
      refine jjs hG rfl rfl ?_
      refine jj_ia hG (k := 80) rfl rfl rfl (fun x1 => ?_)
      refine jj_ige hG (t := 88) rfl rfl ?_ ?_
      · refine jj_exit c57 ?_
        exact jj_wl hG [0, 1] rfl (b88 _ _ _ _)
      refine jjs hG rfl rfl ?_
      refine jjs hG rfl rfl ?_
      refine jj_gr hG (k := 81) rfl rfl rfl rfl ?_
      refine jj_bi hG rfl cc_b16 ?_
      refine jjs hG rfl rfl ?_
      refine jjs hG rfl rfl ?_
      refine jjs hG rfl rfl ?_
      refine jjs hG rfl rfl ?_
      refine jj_ia hG (k := 81) rfl rfl rfl (fun x2 => ?_)
      refine jj_cvA hG 0 rfl rfl (Nat.le_of_ble_eq_true rfl) (by decide) (Nat.le_of_ble_eq_true rfl) rfl (st' := []) rfl (fun _ _ hw h k => pm_rcv_of moM_m (k_say base sa hw h k)) (fun s3 q kc ks => ?_)
      refine jj_inc hG rfl (Nat.le_of_ble_eq_true rfl) rfl cc_i1 ?_
      refine jj_go hG (t := 57) rfl rfl ?_
      exact jj_back c57 (jj_wl hG [1, 2, 0] rfl (ih57 _ _ _ _ _))
  refine (show JJ C R base m G 0 [(0, .ref m), (1, .int p1)] [] q t kc ks (M_sayOptions t p1) (some tz) from ?_) hw h
  refine jjs hG rfl rfl ?_
  refine jj_l2 hG (v := (216780 : Int64)) rfl rfl ?_
  refine jj_cvA hG 0 rfl rfl (Nat.le_of_ble_eq_true rfl) (by decide) (Nat.le_of_ble_eq_true rfl) rfl (st' := []) rfl (fun _ _ hw h k => pm_rcv_of moM_m (k_word base sa hw h k)) (fun s1 q kc ks => ?_)
  refine jjs hG rfl rfl ?_
  refine jjs hG rfl rfl ?_
  refine jj_gr hG (k := 72) rfl rfl rfl rfl ?_
  refine jjs hG rfl rfl ?_
  refine jj_ia hG (k := 72) rfl rfl rfl (fun x2 => ?_)
  refine jj_cvA hG 0 rfl rfl (Nat.le_of_ble_eq_true rfl) (by decide) (Nat.le_of_ble_eq_true rfl) rfl (st' := []) rfl (fun _ _ hw h k => pm_rcv_of moM_m (k_wordNumber base sa hw h k)) (fun s3 q kc ks => ?_)
  refine jjs hG rfl rfl ?_
  refine jj_l2 hG (v := (49683580 : Int64)) rfl rfl ?_
  refine jj_cvA hG 0 rfl rfl (Nat.le_of_ble_eq_true rfl) (by decide) (Nat.le_of_ble_eq_true rfl) rfl (st' := []) rfl (fun _ _ hw h k => pm_rcv_of moM_m (k_word base sa hw h k)) (fun s4 q kc ks => ?_)
  refine jjs hG rfl rfl ?_
  refine jjs hG rfl rfl ?_
  refine jj_gr hG (k := 73) rfl rfl rfl rfl ?_
  refine jjs hG rfl rfl ?_
  refine jj_la hG (k := 73) rfl rfl rfl (fun x5 => ?_)
  refine jj_cvA hG 0 rfl rfl (Nat.le_of_ble_eq_true rfl) (by decide) (Nat.le_of_ble_eq_true rfl) rfl (st' := []) rfl (fun _ _ hw h k => pm_rcv_of moM_m (k_word base sa hw h k)) (fun s6 q kc ks => ?_)
  refine jjs hG rfl rfl ?_
  refine jj_gr hG (k := 79) rfl rfl rfl rfl ?_
  refine jjs hG rfl rfl ?_
  refine jj_ia hG (k := 79) rfl rfl rfl (fun x7 => ?_)
  refine jj_ic hG rfl cc_i1 ?_
  refine jj_ine hG (t := 88) rfl rfl ?_ ?_
  · exact jj_wl hG [0, 1] rfl (b88 _ _ _ _)
  refine jjs hG rfl rfl ?_
  refine jj_l2 hG (v := (2627531736724 : Int64)) rfl rfl ?_
  refine jj_cvA hG 0 rfl rfl (Nat.le_of_ble_eq_true rfl) (by decide) (Nat.le_of_ble_eq_true rfl) rfl (st' := []) rfl (fun _ _ hw h k => pm_rcv_of moM_m (k_word base sa hw h k)) (fun s8 q kc ks => ?_)
  refine jjs hG rfl rfl ?_
  refine jj_cvA hG 0 rfl rfl (Nat.le_of_ble_eq_true rfl) (by decide) (Nat.le_of_ble_eq_true rfl) rfl (st' := []) rfl (fun _ _ hw h k => pm_rcv_of moM_m (k_space base sa hw h k)) (fun s9 q kc ks => ?_)
  refine jj_ic hG rfl cc_i0 ?_
  refine jjc hG rfl rfl (Nat.le_of_ble_eq_true rfl) ?_
  refine jj_lp (fun n => ?_)
  exact jj_wl hG [1, 2, 0] rfl (b57 n _ _ _ _ _)
noncomputable def M_sayJoins_b57 (t : moS) (p1 : Int32) (a2 : Int32) (a3 : Int32) : Option ((Int32 × Int32 × moS) ⊕ moS) := (some (.inl (a2, (a3 + (1 : Int32)), t)))
noncomputable def M_sayJoins_b49 (t : moS) (p1 : Int32) (a3 : Int32) : Option ((Int32 × Int32 × moS) ⊕ moS) := Option.bind (M_say t (10 : Int32)) (fun s1 => ((M_sayJoins_b57 s1 p1 (0 : Int32) a3)))
noncomputable def M_sayJoins_s138 (t : moS) (p1 : Int32) (a3 : Int32) (a4 : Int32) : Option ((Int32 × moS) ⊕ ((Int32 × moS) ⊕ moS)) := Option.bind (rdI t 85 a3) (fun x1 => (if a4 < x1 then (Option.bind (rdI t 86 (((16 : Int32) * a3) + a4)) (fun x7 => (Option.bind (M_say t x7) (fun s8 => ((some (.inl ((a4 + (1 : Int32)), s8)))))))) else ((xo (Option.bind (rdI t 87 a3) (fun x2 => (Option.bind (M_wordNumber t x2) (fun s3 => (Option.bind (rdI s3 88 a3) (fun x4 => (Option.bind (M_wordNumber s3 x4) (fun s5 => (Option.bind (M_say s5 (10 : Int32)) (fun s6 => ((some (.inl ((a3 + (1 : Int32)), s6))))))))))))))))))
noncomputable def M_sayJoins_b138 (t : moS) (p1 : Int32) (a3 : Int32) (a4 : Int32) : Option ((Int32 × moS) ⊕ moS) := lp (fun x => M_sayJoins_s138 x.2 p1 a3 x.1) (a4, t)
noncomputable def M_sayJoins_b128 (t : moS) (p1 : Int32) (a3 : Int32) (u1 : Int64) : Option ((Int32 × moS) ⊕ moS) := Option.bind (M_word t u1) (fun s1 => (Option.bind (M_space s1) (fun s2 => ((M_sayJoins_b138 s2 p1 a3 (0 : Int32))))))
noncomputable def M_sayJoins_s67 (t : moS) (p1 : Int32) (a3 : Int32) : Option ((Int32 × moS) ⊕ moS) := Option.bind (rdI t 82 p1) (fun x1 => (if a3 < (((4 : Int32) * p1) + x1) then (Option.bind (rdI t 79 p1) (fun x2 => (if x2 = (2 : Int32) then (Option.bind (M_beginAt t (17825 : Int64) p1) (fun s3 => (Option.bind (rdI s3 83 a3) (fun x4 => (Option.bind (M_wordNumber s3 x4) (fun s5 => (Option.bind (rdI s5 84 a3) (fun x6 => (if x6 = 0 then ((M_sayJoins_b128 s5 p1 a3 (20992 : Int64))) else ((M_sayJoins_b128 s5 p1 a3 (30721 : Int64)))))))))))) else ((xo ((some t))))))) else ((xo ((some t))))))
noncomputable def M_sayJoins_b67 (t : moS) (p1 : Int32) (a3 : Int32) : Option moS := lp (fun x => M_sayJoins_s67 x.2 p1 x.1) (a3, t)
noncomputable def M_sayJoins_s6 (t : moS) (p1 : Int32) (a2 : Int32) (a3 : Int32) : Option ((Int32 × Int32 × moS) ⊕ moS) := if a3 < (((2 : Int32) * p1) + (2 : Int32)) then (Option.bind (rdI t 75 a3) (fun x1 => (if x1 = 0 then ((M_sayJoins_b57 t p1 a2 a3)) else (Option.bind (M_beginAt t (664374 : Int64) p1) (fun s2 => (Option.bind (M_sayOwn s2 a3) (fun s3 => (if a2 = 0 then ((M_sayJoins_b49 s3 p1 a3)) else (Option.bind (M_sayOptions s3 p1) (fun s4 => ((M_sayJoins_b49 s4 p1 a3)))))))))))) else ((xo ((M_sayJoins_b67 t p1 ((4 : Int32) * p1)))))
noncomputable def M_sayJoins_b6 (t : moS) (p1 : Int32) (a2 : Int32) (a3 : Int32) : Option moS := lp (fun x => M_sayJoins_s6 x.2.2 p1 x.1 x.2.1) (a2, a3, t)
noncomputable def M_sayJoins (t : moS) (p1 : Int32) : Option moS := (M_sayJoins_b6 t p1 (1 : Int32) ((2 : Int32) * p1))
set_option maxRecDepth 100000 in
set_option maxHeartbeats 4000000 in
theorem k_sayJoins (base : Nat) (sa : Nat → Nat) {C : Nat × Nat} {R : pmM} {m : Nat} {q : Nat → Nat} {t tz : moS} {kc ks : Nat} {Rt : pmR} {p1 : Int32} (hw : mW C R base m q t kc ks) (h : M_sayJoins t p1 = (some tz)) (k : ∀ (q' : Nat → Nat) (kc' ks' : Nat), mW C R base m q' tz kc' ks' → Rt none (moM R m q' tz) kc' ks') : kP_Mo_sayJoins base sa [.ref m, .int p1] (moM R m q t) kc ks Rt := by
  refine ⟨Nat.le_of_ble_eq_true rfl, fun G hG => ?_⟩
  have b67 : ∀ (n : Nat) (a3 : Int32) (q : Nat → Nat) (t : moS) (kc ks : Nat), JJ C R base m G 67 [(0, .ref m), (1, .int p1), (3, .int a3)] [] q t kc ks (lpN (fun x => M_sayJoins_s67 x.2 p1 x.1) n (a3, t)) (some tz) := by
    intro n
    induction n with
    | zero => intro a3 q t kc ks; exact jj_lp0
    | succ n ih67 =>
      intro a3 q t kc ks
      refine jj_lpS (fun y67 c67 => ?_)
      have b138 : ∀ (a3 : Int32) (n : Nat) (a4 : Int32) (q : Nat → Nat) (t : moS) (kc ks : Nat), JJ C R base m G 138 [(0, .ref m), (1, .int p1), (3, .int a3), (4, .int a4)] [] q t kc ks (lpN (fun x => M_sayJoins_s138 x.2 p1 a3 x.1) n (a4, t)) (some y67) := by
        intro a3 n
        induction n with
        | zero => intro a4 q t kc ks; exact jj_lp0
        | succ n ih138 =>
          intro a4 q t kc ks
          refine jj_lpS (fun y138 c138 => ?_)
          refine (show JJ C R base m G 138 [(0, .ref m), (1, .int p1), (3, .int a3), (4, .int a4)] [] q t kc ks (M_sayJoins_s138 t p1 a3 a4) (some y138) from ?_)
          refine jjs hG rfl rfl ?_
          refine jjs hG rfl rfl ?_
          refine jj_gr hG (k := 85) rfl rfl rfl rfl ?_
          refine jjs hG rfl rfl ?_
          refine jj_ia hG (k := 85) rfl rfl rfl (fun x1 => ?_)
          refine jj_ige hG (t := 171) rfl rfl ?_ ?_
          · refine jj_exit c138 ?_
            refine jjs hG rfl rfl ?_
            refine jjs hG rfl rfl ?_
            refine jj_gr hG (k := 87) rfl rfl rfl rfl ?_
            refine jjs hG rfl rfl ?_
            refine jj_ia hG (k := 87) rfl rfl rfl (fun x2 => ?_)
            refine jj_cvA hG 0 rfl rfl (Nat.le_of_ble_eq_true rfl) (by decide) (Nat.le_of_ble_eq_true rfl) rfl (st' := []) rfl (fun _ _ hw h k => pm_rcv_of moM_m (k_wordNumber base sa hw h k)) (fun s3 q kc ks => ?_)
            refine jjs hG rfl rfl ?_
            refine jjs hG rfl rfl ?_
            refine jj_gr hG (k := 88) rfl rfl rfl rfl ?_
            refine jjs hG rfl rfl ?_
            refine jj_ia hG (k := 88) rfl rfl rfl (fun x4 => ?_)
            refine jj_cvA hG 0 rfl rfl (Nat.le_of_ble_eq_true rfl) (by decide) (Nat.le_of_ble_eq_true rfl) rfl (st' := []) rfl (fun _ _ hw h k => pm_rcv_of moM_m (k_wordNumber base sa hw h k)) (fun s5 q kc ks => ?_)
            refine jjs hG rfl rfl ?_
            refine jj_bi hG rfl cc_b10 ?_
            refine jj_cvA hG 0 rfl rfl (Nat.le_of_ble_eq_true rfl) (by decide) (Nat.le_of_ble_eq_true rfl) rfl (st' := []) rfl (fun _ _ hw h k => pm_rcv_of moM_m (k_say base sa hw h k)) (fun s6 q kc ks => ?_)
            refine jj_inc hG rfl (Nat.le_of_ble_eq_true rfl) rfl cc_i1 ?_
            refine jj_go hG (t := 67) rfl rfl ?_
            exact jj_back c67 (jj_wl hG [1, 2, 0] rfl (ih67 _ _ _ _ _))
          refine jjs hG rfl rfl ?_
          refine jjs hG rfl rfl ?_
          refine jj_gr hG (k := 86) rfl rfl rfl rfl ?_
          refine jj_bi hG rfl cc_b16 ?_
          refine jjs hG rfl rfl ?_
          refine jjs hG rfl rfl ?_
          refine jjs hG rfl rfl ?_
          refine jjs hG rfl rfl ?_
          refine jj_ia hG (k := 86) rfl rfl rfl (fun x7 => ?_)
          refine jj_cvA hG 0 rfl rfl (Nat.le_of_ble_eq_true rfl) (by decide) (Nat.le_of_ble_eq_true rfl) rfl (st' := []) rfl (fun _ _ hw h k => pm_rcv_of moM_m (k_say base sa hw h k)) (fun s8 q kc ks => ?_)
          refine jj_inc hG rfl (Nat.le_of_ble_eq_true rfl) rfl cc_i1 ?_
          refine jj_go hG (t := 138) rfl rfl ?_
          exact jj_back c138 (jj_wl hG [1, 2, 3, 0] rfl (ih138 _ _ _ _ _))
      have b128 : ∀ (a3 : Int32) (u1 : Int64) (q : Nat → Nat) (t : moS) (kc ks : Nat), JJ C R base m G 128 [(0, .ref m), (1, .int p1), (3, .int a3)] [.long u1, .ref m] q t kc ks (M_sayJoins_b128 t p1 a3 u1) (some y67) := by
        intro a3 u1 q t kc ks
        refine jj_cvA hG 0 rfl rfl (Nat.le_of_ble_eq_true rfl) (by decide) (Nat.le_of_ble_eq_true rfl) rfl (st' := []) rfl (fun _ _ hw h k => pm_rcv_of moM_m (k_word base sa hw h k)) (fun s1 q kc ks => ?_)
        refine jjs hG rfl rfl ?_
        refine jj_cvA hG 0 rfl rfl (Nat.le_of_ble_eq_true rfl) (by decide) (Nat.le_of_ble_eq_true rfl) rfl (st' := []) rfl (fun _ _ hw h k => pm_rcv_of moM_m (k_space base sa hw h k)) (fun s2 q kc ks => ?_)
        refine jj_ic hG rfl cc_i0 ?_
        refine jjc hG rfl rfl (Nat.le_of_ble_eq_true rfl) ?_
        refine jj_lp (fun n => ?_)
        exact jj_wl hG [1, 2, 3, 0] rfl (b138 _ n _ _ _ _ _)
      refine (show JJ C R base m G 67 [(0, .ref m), (1, .int p1), (3, .int a3)] [] q t kc ks (M_sayJoins_s67 t p1 a3) (some y67) from ?_)
      refine jjs hG rfl rfl ?_
      refine jj_ic hG rfl cc_i4 ?_
      refine jjs hG rfl rfl ?_
      refine jjs hG rfl rfl ?_
      refine jjs hG rfl rfl ?_
      refine jj_gr hG (k := 82) rfl rfl rfl rfl ?_
      refine jjs hG rfl rfl ?_
      refine jj_ia hG (k := 82) rfl rfl rfl (fun x1 => ?_)
      refine jjs hG rfl rfl ?_
      refine jj_ige hG (t := 203) rfl rfl ?_ ?_
      · refine jj_exit c67 ?_
        exact jj_rvS hG rfl rfl (k _ _ _)
      refine jjs hG rfl rfl ?_
      refine jj_gr hG (k := 79) rfl rfl rfl rfl ?_
      refine jjs hG rfl rfl ?_
      refine jj_ia hG (k := 79) rfl rfl rfl (fun x2 => ?_)
      refine jj_ic hG rfl cc_i2 ?_
      refine jj_ine hG (t := 203) rfl rfl ?_ ?_
      · refine jj_exit c67 ?_
        exact jj_rvS hG rfl rfl (k _ _ _)
      refine jjs hG rfl rfl ?_
      refine jj_l2 hG (v := (17825 : Int64)) rfl rfl ?_
      refine jjs hG rfl rfl ?_
      refine jj_cvA hG 0 rfl rfl (Nat.le_of_ble_eq_true rfl) (by decide) (Nat.le_of_ble_eq_true rfl) rfl (st' := []) rfl (fun _ _ hw h k => pm_rcv_of moM_m (k_beginAt base sa hw h k)) (fun s3 q kc ks => ?_)
      refine jjs hG rfl rfl ?_
      refine jjs hG rfl rfl ?_
      refine jj_gr hG (k := 83) rfl rfl rfl rfl ?_
      refine jjs hG rfl rfl ?_
      refine jj_ia hG (k := 83) rfl rfl rfl (fun x4 => ?_)
      refine jj_cvA hG 0 rfl rfl (Nat.le_of_ble_eq_true rfl) (by decide) (Nat.le_of_ble_eq_true rfl) rfl (st' := []) rfl (fun _ _ hw h k => pm_rcv_of moM_m (k_wordNumber base sa hw h k)) (fun s5 q kc ks => ?_)
      refine jjs hG rfl rfl ?_
      refine jjs hG rfl rfl ?_
      refine jj_gr hG (k := 84) rfl rfl rfl rfl ?_
      refine jjs hG rfl rfl ?_
      refine jj_ba hG (k := 84) rfl rfl rfl (fun x6 => ?_)
      refine jj_zeq hG (t := 125) rfl rfl ?_ ?_
      · refine jj_l2 hG (v := (20992 : Int64)) rfl rfl ?_
        exact jj_wl hG [0, 1, 2] rfl (b128 _ _ _ _ _ _)
      refine jj_l2 hG (v := (30721 : Int64)) rfl rfl ?_
      refine jj_go hG (t := 128) rfl rfl ?_
      exact jj_wl hG [0, 1, 2] rfl (b128 _ _ _ _ _ _)
  have b6 : ∀ (n : Nat) (a2 : Int32) (a3 : Int32) (q : Nat → Nat) (t : moS) (kc ks : Nat), JJ C R base m G 6 [(0, .ref m), (1, .int p1), (2, .int a2), (3, .int a3)] [] q t kc ks (lpN (fun x => M_sayJoins_s6 x.2.2 p1 x.1 x.2.1) n (a2, a3, t)) (some tz) := by
    intro n
    induction n with
    | zero => intro a2 a3 q t kc ks; exact jj_lp0
    | succ n ih6 =>
      intro a2 a3 q t kc ks
      refine jj_lpS (fun y6 c6 => ?_)
      have b57 : ∀ (a2 : Int32) (a3 : Int32) (q : Nat → Nat) (t : moS) (kc ks : Nat), JJ C R base m G 57 [(0, .ref m), (1, .int p1), (2, .int a2), (3, .int a3)] [] q t kc ks (M_sayJoins_b57 t p1 a2 a3) (some y6) := by
        intro a2 a3 q t kc ks
        refine jj_inc hG rfl (Nat.le_of_ble_eq_true rfl) rfl cc_i1 ?_
        refine jj_go hG (t := 6) rfl rfl ?_
        exact jj_back c6 (jj_wl hG [1, 2, 3, 0] rfl (ih6 _ _ _ _ _ _))
      have b49 : ∀ (a3 : Int32) (q : Nat → Nat) (t : moS) (kc ks : Nat), JJ C R base m G 49 [(0, .ref m), (1, .int p1), (3, .int a3)] [] q t kc ks (M_sayJoins_b49 t p1 a3) (some y6) := by
        intro a3 q t kc ks
        refine jj_ic hG rfl cc_i0 ?_
        refine jjc hG rfl rfl (Nat.le_of_ble_eq_true rfl) ?_
        refine jjs hG rfl rfl ?_
        refine jj_bi hG rfl cc_b10 ?_
        refine jj_cvA hG 0 rfl rfl (Nat.le_of_ble_eq_true rfl) (by decide) (Nat.le_of_ble_eq_true rfl) rfl (st' := []) rfl (fun _ _ hw h k => pm_rcv_of moM_m (k_say base sa hw h k)) (fun s1 q kc ks => ?_)
        exact jj_wl hG [1, 2, 0, 3] rfl (b57 _ _ _ _ _ _)
      refine (show JJ C R base m G 6 [(0, .ref m), (1, .int p1), (2, .int a2), (3, .int a3)] [] q t kc ks (M_sayJoins_s6 t p1 a2 a3) (some y6) from ?_)
      refine jjs hG rfl rfl ?_
      refine jj_ic hG rfl cc_i2 ?_
      refine jjs hG rfl rfl ?_
      refine jjs hG rfl rfl ?_
      refine jj_ic hG rfl cc_i2 ?_
      refine jjs hG rfl rfl ?_
      refine jj_ige hG (t := 63) rfl rfl ?_ ?_
      · refine jj_exit c6 ?_
        refine jj_ic hG rfl cc_i4 ?_
        refine jjs hG rfl rfl ?_
        refine jjs hG rfl rfl ?_
        refine jjc hG rfl rfl (Nat.le_of_ble_eq_true rfl) ?_
        refine jj_lp (fun n => ?_)
        exact jj_wl hG [1, 2, 0] rfl (b67 n _ _ _ _ _)
      refine jjs hG rfl rfl ?_
      refine jj_gr hG (k := 75) rfl rfl rfl rfl ?_
      refine jjs hG rfl rfl ?_
      refine jj_ba hG (k := 75) rfl rfl rfl (fun x1 => ?_)
      refine jj_zne hG (t := 27) rfl rfl ?_ ?_
      · refine jjs hG rfl rfl ?_
        refine jj_l2 hG (v := (664374 : Int64)) rfl rfl ?_
        refine jjs hG rfl rfl ?_
        refine jj_cvA hG 0 rfl rfl (Nat.le_of_ble_eq_true rfl) (by decide) (Nat.le_of_ble_eq_true rfl) rfl (st' := []) rfl (fun _ _ hw h k => pm_rcv_of moM_m (k_beginAt base sa hw h k)) (fun s2 q kc ks => ?_)
        refine jjs hG rfl rfl ?_
        refine jjs hG rfl rfl ?_
        refine jj_cvA hG 0 rfl rfl (Nat.le_of_ble_eq_true rfl) (by decide) (Nat.le_of_ble_eq_true rfl) rfl (st' := []) rfl (fun _ _ hw h k => pm_rcv_of moM_m (k_sayOwn base sa hw h k)) (fun s3 q kc ks => ?_)
        refine jjs hG rfl rfl ?_
        refine jj_zeq hG (t := 49) rfl rfl ?_ ?_
        · exact jj_wl hG [0, 1, 3] rfl (b49 _ _ _ _ _)
        refine jjs hG rfl rfl ?_
        refine jjs hG rfl rfl ?_
        refine jj_cvA hG 0 rfl rfl (Nat.le_of_ble_eq_true rfl) (by decide) (Nat.le_of_ble_eq_true rfl) rfl (st' := []) rfl (fun _ _ hw h k => pm_rcv_of moM_m (k_sayOptions base sa hw h k)) (fun s4 q kc ks => ?_)
        exact jj_wl hG [0, 1, 3] rfl (b49 _ _ _ _ _)
      refine jj_go hG (t := 57) rfl rfl ?_
      exact jj_wl hG [0, 1, 2, 3] rfl (b57 _ _ _ _ _ _)
  refine (show JJ C R base m G 0 [(0, .ref m), (1, .int p1)] [] q t kc ks (M_sayJoins t p1) (some tz) from ?_) hw h
  refine jj_ic hG rfl cc_i1 ?_
  refine jjc hG rfl rfl (Nat.le_of_ble_eq_true rfl) ?_
  refine jj_ic hG rfl cc_i2 ?_
  refine jjs hG rfl rfl ?_
  refine jjs hG rfl rfl ?_
  refine jjc hG rfl rfl (Nat.le_of_ble_eq_true rfl) ?_
  refine jj_lp (fun n => ?_)
  exact jj_wl hG [2, 3, 1, 0] rfl (b6 n _ _ _ _ _ _)
noncomputable def M_aheadOf_b119 (t : moS) (p1 : Int32) (p2 : Int32) (a4 : Int32) (u0 : Int32) (u1 : Int32) : Option ((Int32 × Int32) ⊕ Int32) := (some (.inl ((u0 + u1), (a4 + (1 : Int32)))))
noncomputable def M_aheadOf_b106 (t : moS) (p1 : Int32) (p2 : Int32) (a3 : Int32) (a4 : Int32) (u0 : Int32) : Option ((Int32 × Int32) ⊕ Int32) := if u0 = 0 then ((M_aheadOf_b119 t p1 p2 a4 a3 (0 : Int32))) else ((M_aheadOf_b119 t p1 p2 a4 a3 (1 : Int32)))
noncomputable def M_aheadOf_s8 (t : moS) (p1 : Int32) (p2 : Int32) (a3 : Int32) (a4 : Int32) : Option ((Int32 × Int32) ⊕ Int32) := Option.bind (rdI t 46 p1) (fun x1 => (if a4 < (((32 : Int32) * p1) + x1) then (Option.bind (rdI t 47 a4) (fun x2 => (Option.bind (rdI t 47 p2) (fun x3 => (if x2 = x3 then (Option.bind (rdJ t 48 a4) (fun x4 => (Option.bind (rdJ t 49 a4) (fun x5 => (Option.bind (rdI t 50 a4) (fun x6 => (Option.bind (rdJ t 48 p2) (fun x7 => (Option.bind (rdJ t 49 p2) (fun x8 => (Option.bind (rdI t 50 p2) (fun x9 => (Option.bind (M_isAhead x4 x5 x6 x7 x8 x9) (fun x10 => ((M_aheadOf_b106 t p1 p2 a3 a4 x10)))))))))))))))) else (Option.bind (rdI t 47 a4) (fun x11 => (Option.bind (rdI t 47 p2) (fun x12 => (if x11 < x12 then ((M_aheadOf_b106 t p1 p2 a3 a4 (1 : Int32))) else ((M_aheadOf_b106 t p1 p2 a3 a4 (0 : Int32))))))))))))) else ((xo ((some a3))))))
noncomputable def M_aheadOf_b8 (t : moS) (p1 : Int32) (p2 : Int32) (a3 : Int32) (a4 : Int32) : Option Int32 := lp (fun x => M_aheadOf_s8 t p1 p2 x.1 x.2) (a3, a4)
noncomputable def M_aheadOf (t : moS) (p1 : Int32) (p2 : Int32) : Option Int32 := (M_aheadOf_b8 t p1 p2 (0 : Int32) ((32 : Int32) * p1))
set_option maxRecDepth 100000 in
set_option maxHeartbeats 4000000 in
theorem k_aheadOf (base : Nat) (sa : Nat → Nat) {C : Nat × Nat} {R : pmM} {m : Nat} {q : Nat → Nat} {t : moS} {kc ks : Nat} {Rt : pmR} {p1 : Int32} {p2 : Int32} {r : Int32} (hw : mW C R base m q t kc ks) (h : M_aheadOf t p1 p2 = (some r)) (k : Rt (some (.int r)) (moM R m q t) kc ks) : kP_Mo_aheadOf base sa [.ref m, .int p1, .int p2] (moM R m q t) kc ks Rt := by
  refine ⟨Nat.le_of_ble_eq_true rfl, fun G hG => ?_⟩
  have b8 : ∀ (n : Nat) (a3 : Int32) (a4 : Int32), JJ C R base m G 8 [(0, .ref m), (1, .int p1), (2, .int p2), (3, .int a3), (4, .int a4)] [] q t kc ks (lpN (fun x => M_aheadOf_s8 t p1 p2 x.1 x.2) n (a3, a4)) (some r) := by
    intro n
    induction n with
    | zero => intro a3 a4; exact jj_lp0
    | succ n ih8 =>
      intro a3 a4
      refine jj_lpS (fun y8 c8 => ?_)
      have b119 : ∀ (a4 : Int32) (u0 : Int32) (u1 : Int32), JJ C R base m G 119 [(0, .ref m), (1, .int p1), (2, .int p2), (4, .int a4)] [.int u1, .int u0] q t kc ks (M_aheadOf_b119 t p1 p2 a4 u0 u1) (some y8) := by
        intro a4 u0 u1
        refine jjs hG rfl rfl ?_
        refine jjc hG rfl rfl (Nat.le_of_ble_eq_true rfl) ?_
        refine jj_inc hG rfl (Nat.le_of_ble_eq_true rfl) rfl cc_i1 ?_
        refine jj_go hG (t := 8) rfl rfl ?_
        exact jj_back c8 (jj_wl hG [2, 3, 4, 1, 0] rfl (ih8 _ _))
      have b106 : ∀ (a3 : Int32) (a4 : Int32) (u0 : Int32), JJ C R base m G 106 [(0, .ref m), (1, .int p1), (2, .int p2), (3, .int a3), (4, .int a4)] [.int u0] q t kc ks (M_aheadOf_b106 t p1 p2 a3 a4 u0) (some y8) := by
        intro a3 a4 u0
        refine jjc hG rfl rfl (Nat.le_of_ble_eq_true rfl) ?_
        refine jjs hG rfl rfl ?_
        refine jjs hG rfl rfl ?_
        refine jj_zeq hG (t := 118) rfl rfl ?_ ?_
        · refine jj_ic hG rfl cc_i0 ?_
          exact jj_wl hG [1, 2, 3, 5] rfl (b119 _ _ _)
        refine jj_ic hG rfl cc_i1 ?_
        refine jj_go hG (t := 119) rfl rfl ?_
        exact jj_wl hG [1, 2, 3, 5] rfl (b119 _ _ _)
      refine (show JJ C R base m G 8 [(0, .ref m), (1, .int p1), (2, .int p2), (3, .int a3), (4, .int a4)] [] q t kc ks (M_aheadOf_s8 t p1 p2 a3 a4) (some y8) from ?_)
      refine jjs hG rfl rfl ?_
      refine jj_bi hG rfl cc_b32 ?_
      refine jjs hG rfl rfl ?_
      refine jjs hG rfl rfl ?_
      refine jjs hG rfl rfl ?_
      refine jj_gr hG (k := 46) rfl rfl rfl rfl ?_
      refine jjs hG rfl rfl ?_
      refine jj_ia hG (k := 46) rfl rfl rfl (fun x1 => ?_)
      refine jjs hG rfl rfl ?_
      refine jj_ige hG (t := 127) rfl rfl ?_ ?_
      · refine jj_exit c8 ?_
        refine jjs hG rfl rfl ?_
        exact jj_ri hG rfl rfl rfl k
      refine jjs hG rfl rfl ?_
      refine jj_gr hG (k := 47) rfl rfl rfl rfl ?_
      refine jjs hG rfl rfl ?_
      refine jj_ia hG (k := 47) rfl rfl rfl (fun x2 => ?_)
      refine jjs hG rfl rfl ?_
      refine jj_gr hG (k := 47) rfl rfl rfl rfl ?_
      refine jjs hG rfl rfl ?_
      refine jj_ia hG (k := 47) rfl rfl rfl (fun x3 => ?_)
      refine jj_ieq hG (t := 64) rfl rfl ?_ ?_
      · refine jjs hG rfl rfl ?_
        refine jj_gr hG (k := 48) rfl rfl rfl rfl ?_
        refine jjs hG rfl rfl ?_
        refine jj_la hG (k := 48) rfl rfl rfl (fun x4 => ?_)
        refine jjs hG rfl rfl ?_
        refine jj_gr hG (k := 49) rfl rfl rfl rfl ?_
        refine jjs hG rfl rfl ?_
        refine jj_la hG (k := 49) rfl rfl rfl (fun x5 => ?_)
        refine jjs hG rfl rfl ?_
        refine jj_gr hG (k := 50) rfl rfl rfl rfl ?_
        refine jjs hG rfl rfl ?_
        refine jj_ia hG (k := 50) rfl rfl rfl (fun x6 => ?_)
        refine jjs hG rfl rfl ?_
        refine jj_gr hG (k := 48) rfl rfl rfl rfl ?_
        refine jjs hG rfl rfl ?_
        refine jj_la hG (k := 48) rfl rfl rfl (fun x7 => ?_)
        refine jjs hG rfl rfl ?_
        refine jj_gr hG (k := 49) rfl rfl rfl rfl ?_
        refine jjs hG rfl rfl ?_
        refine jj_la hG (k := 49) rfl rfl rfl (fun x8 => ?_)
        refine jjs hG rfl rfl ?_
        refine jj_gr hG (k := 50) rfl rfl rfl rfl ?_
        refine jjs hG rfl rfl ?_
        refine jj_ia hG (k := 50) rfl rfl rfl (fun x9 => ?_)
        refine jj_cp hG 2 rfl rfl (Nat.le_of_ble_eq_true rfl) (by decide) (Nat.le_of_ble_eq_true rfl) rfl (st' := []) rfl (w := .int) (fun _ _ hw h k => k_isAhead base sa hw h k) (fun x10 => ?_)
        exact jj_wl hG [0, 1, 2, 3, 4] rfl (b106 _ _ _)
      refine jjs hG rfl rfl ?_
      refine jj_gr hG (k := 47) rfl rfl rfl rfl ?_
      refine jjs hG rfl rfl ?_
      refine jj_ia hG (k := 47) rfl rfl rfl (fun x11 => ?_)
      refine jjs hG rfl rfl ?_
      refine jj_gr hG (k := 47) rfl rfl rfl rfl ?_
      refine jjs hG rfl rfl ?_
      refine jj_ia hG (k := 47) rfl rfl rfl (fun x12 => ?_)
      refine jj_ige hG (t := 60) rfl rfl ?_ ?_
      · refine jj_ic hG rfl cc_i0 ?_
        refine jj_go hG (t := 106) rfl rfl ?_
        exact jj_wl hG [0, 1, 2, 3, 4] rfl (b106 _ _ _)
      refine jj_ic hG rfl cc_i1 ?_
      refine jj_go hG (t := 106) rfl rfl ?_
      exact jj_wl hG [0, 1, 2, 3, 4] rfl (b106 _ _ _)
  refine (show JJ C R base m G 0 [(0, .ref m), (1, .int p1), (2, .int p2)] [] q t kc ks (M_aheadOf t p1 p2) (some r) from ?_) hw h
  refine jj_ic hG rfl cc_i0 ?_
  refine jjc hG rfl rfl (Nat.le_of_ble_eq_true rfl) ?_
  refine jj_bi hG rfl cc_b32 ?_
  refine jjs hG rfl rfl ?_
  refine jjs hG rfl rfl ?_
  refine jjc hG rfl rfl (Nat.le_of_ble_eq_true rfl) ?_
  refine jj_lp (fun n => ?_)
  exact jj_wl hG [2, 3, 4, 1, 0] rfl (b8 n _ _)
noncomputable def M_sayStatics_s17 (t : moS) (p1 : Int32) (a2 : Int32) (a3 : Int32) : Option ((Int32 × moS) ⊕ ((Int32 × moS) ⊕ moS)) := Option.bind (M_aheadOf t p1 a3) (fun x1 => (if x1 = a2 then ((xo (Option.bind (M_begin t (1996896363 : Int64) p1) (fun s2 => (Option.bind (rdI s2 47 a3) (fun x3 => (Option.bind (rdJ s2 48 a3) (fun x4 => (Option.bind (rdJ s2 49 a3) (fun x5 => (Option.bind (rdI s2 50 a3) (fun x6 => (Option.bind (M_wordPrefix s2 x3 x4 x5 x6) (fun s7 => (Option.bind (rdI s7 51 a3) (fun x8 => (Option.bind (M_wordNumber s7 x8) (fun s9 => (Option.bind (M_word s9 (32047 : Int64)) (fun s10 => (Option.bind (rdI s10 52 a3) (fun x11 => (Option.bind (M_wordNumber s10 x11) (fun s12 => (Option.bind (M_say s12 (10 : Int32)) (fun s13 => ((some (.inl ((a2 + (1 : Int32)), s13)))))))))))))))))))))))))))))) else ((some (.inl ((a3 + (1 : Int32)), t))))))
noncomputable def M_sayStatics_b17 (t : moS) (p1 : Int32) (a2 : Int32) (a3 : Int32) : Option ((Int32 × moS) ⊕ moS) := lp (fun x => M_sayStatics_s17 x.2 p1 a2 x.1) (a3, t)
noncomputable def M_sayStatics_s2 (t : moS) (p1 : Int32) (a2 : Int32) : Option ((Int32 × moS) ⊕ moS) := Option.bind (rdI t 46 p1) (fun x1 => (if a2 < x1 then ((M_sayStatics_b17 t p1 a2 ((32 : Int32) * p1))) else ((xo ((some t))))))
noncomputable def M_sayStatics_b2 (t : moS) (p1 : Int32) (a2 : Int32) : Option moS := lp (fun x => M_sayStatics_s2 x.2 p1 x.1) (a2, t)
noncomputable def M_sayStatics (t : moS) (p1 : Int32) : Option moS := (M_sayStatics_b2 t p1 (0 : Int32))
set_option maxRecDepth 100000 in
set_option maxHeartbeats 4000000 in
theorem k_sayStatics (base : Nat) (sa : Nat → Nat) {C : Nat × Nat} {R : pmM} {m : Nat} {q : Nat → Nat} {t tz : moS} {kc ks : Nat} {Rt : pmR} {p1 : Int32} (hw : mW C R base m q t kc ks) (h : M_sayStatics t p1 = (some tz)) (k : ∀ (q' : Nat → Nat) (kc' ks' : Nat), mW C R base m q' tz kc' ks' → Rt none (moM R m q' tz) kc' ks') : kP_Mo_sayStatics base sa [.ref m, .int p1] (moM R m q t) kc ks Rt := by
  refine ⟨Nat.le_of_ble_eq_true rfl, fun G hG => ?_⟩
  have b2 : ∀ (n : Nat) (a2 : Int32) (q : Nat → Nat) (t : moS) (kc ks : Nat), JJ C R base m G 2 [(0, .ref m), (1, .int p1), (2, .int a2)] [] q t kc ks (lpN (fun x => M_sayStatics_s2 x.2 p1 x.1) n (a2, t)) (some tz) := by
    intro n
    induction n with
    | zero => intro a2 q t kc ks; exact jj_lp0
    | succ n ih2 =>
      intro a2 q t kc ks
      refine jj_lpS (fun y2 c2 => ?_)
      have b17 : ∀ (a2 : Int32) (n : Nat) (a3 : Int32) (q : Nat → Nat) (t : moS) (kc ks : Nat), JJ C R base m G 17 [(0, .ref m), (1, .int p1), (2, .int a2), (3, .int a3)] [] q t kc ks (lpN (fun x => M_sayStatics_s17 x.2 p1 a2 x.1) n (a3, t)) (some y2) := by
        intro a2 n
        induction n with
        | zero => intro a3 q t kc ks; exact jj_lp0
        | succ n ih17 =>
          intro a3 q t kc ks
          refine jj_lpS (fun y17 c17 => ?_)
          refine (show JJ C R base m G 17 [(0, .ref m), (1, .int p1), (2, .int a2), (3, .int a3)] [] q t kc ks (M_sayStatics_s17 t p1 a2 a3) (some y17) from ?_)
          refine jjs hG rfl rfl ?_
          refine jjs hG rfl rfl ?_
          refine jjs hG rfl rfl ?_
          refine jj_cp hG 0 rfl rfl (Nat.le_of_ble_eq_true rfl) (by decide) (Nat.le_of_ble_eq_true rfl) rfl (st' := []) rfl (w := .int) (fun _ _ hw h k => pm_rcv_of moM_m (k_aheadOf base sa hw h k)) (fun x1 => ?_)
          refine jjs hG rfl rfl ?_
          refine jj_ieq hG (t := 33) rfl rfl ?_ ?_
          · refine jj_exit c17 ?_
            refine jjs hG rfl rfl ?_
            refine jj_l2 hG (v := (1996896363 : Int64)) rfl rfl ?_
            refine jjs hG rfl rfl ?_
            refine jj_cvA hG 0 rfl rfl (Nat.le_of_ble_eq_true rfl) (by decide) (Nat.le_of_ble_eq_true rfl) rfl (st' := []) rfl (fun _ _ hw h k => pm_rcv_of moM_m (k_begin base sa hw h k)) (fun s2 q kc ks => ?_)
            refine jjs hG rfl rfl ?_
            refine jjs hG rfl rfl ?_
            refine jj_gr hG (k := 47) rfl rfl rfl rfl ?_
            refine jjs hG rfl rfl ?_
            refine jj_ia hG (k := 47) rfl rfl rfl (fun x3 => ?_)
            refine jjs hG rfl rfl ?_
            refine jj_gr hG (k := 48) rfl rfl rfl rfl ?_
            refine jjs hG rfl rfl ?_
            refine jj_la hG (k := 48) rfl rfl rfl (fun x4 => ?_)
            refine jjs hG rfl rfl ?_
            refine jj_gr hG (k := 49) rfl rfl rfl rfl ?_
            refine jjs hG rfl rfl ?_
            refine jj_la hG (k := 49) rfl rfl rfl (fun x5 => ?_)
            refine jjs hG rfl rfl ?_
            refine jj_gr hG (k := 50) rfl rfl rfl rfl ?_
            refine jjs hG rfl rfl ?_
            refine jj_ia hG (k := 50) rfl rfl rfl (fun x6 => ?_)
            refine jj_cvA hG 0 rfl rfl (Nat.le_of_ble_eq_true rfl) (by decide) (Nat.le_of_ble_eq_true rfl) rfl (st' := []) rfl (fun _ _ hw h k => pm_rcv_of moM_m (k_wordPrefix base sa hw h k)) (fun s7 q kc ks => ?_)
            refine jjs hG rfl rfl ?_
            refine jjs hG rfl rfl ?_
            refine jj_gr hG (k := 51) rfl rfl rfl rfl ?_
            refine jjs hG rfl rfl ?_
            refine jj_ia hG (k := 51) rfl rfl rfl (fun x8 => ?_)
            refine jj_cvA hG 0 rfl rfl (Nat.le_of_ble_eq_true rfl) (by decide) (Nat.le_of_ble_eq_true rfl) rfl (st' := []) rfl (fun _ _ hw h k => pm_rcv_of moM_m (k_wordNumber base sa hw h k)) (fun s9 q kc ks => ?_)
            refine jjs hG rfl rfl ?_
            refine jj_l2 hG (v := (32047 : Int64)) rfl rfl ?_
            refine jj_cvA hG 0 rfl rfl (Nat.le_of_ble_eq_true rfl) (by decide) (Nat.le_of_ble_eq_true rfl) rfl (st' := []) rfl (fun _ _ hw h k => pm_rcv_of moM_m (k_word base sa hw h k)) (fun s10 q kc ks => ?_)
            refine jjs hG rfl rfl ?_
            refine jjs hG rfl rfl ?_
            refine jj_gr hG (k := 52) rfl rfl rfl rfl ?_
            refine jjs hG rfl rfl ?_
            refine jj_ia hG (k := 52) rfl rfl rfl (fun x11 => ?_)
            refine jj_cvA hG 0 rfl rfl (Nat.le_of_ble_eq_true rfl) (by decide) (Nat.le_of_ble_eq_true rfl) rfl (st' := []) rfl (fun _ _ hw h k => pm_rcv_of moM_m (k_wordNumber base sa hw h k)) (fun s12 q kc ks => ?_)
            refine jjs hG rfl rfl ?_
            refine jj_bi hG rfl cc_b10 ?_
            refine jj_cvA hG 0 rfl rfl (Nat.le_of_ble_eq_true rfl) (by decide) (Nat.le_of_ble_eq_true rfl) rfl (st' := []) rfl (fun _ _ hw h k => pm_rcv_of moM_m (k_say base sa hw h k)) (fun s13 q kc ks => ?_)
            refine jj_inc hG rfl (Nat.le_of_ble_eq_true rfl) rfl cc_i1 ?_
            refine jj_go hG (t := 2) rfl rfl ?_
            exact jj_back c2 (jj_wl hG [1, 2, 0] rfl (ih2 _ _ _ _ _))
          refine jj_inc hG rfl (Nat.le_of_ble_eq_true rfl) rfl cc_i1 ?_
          refine jj_go hG (t := 17) rfl rfl ?_
          exact jj_back c17 (jj_wl hG [1, 2, 3, 0] rfl (ih17 _ _ _ _ _))
      refine (show JJ C R base m G 2 [(0, .ref m), (1, .int p1), (2, .int a2)] [] q t kc ks (M_sayStatics_s2 t p1 a2) (some y2) from ?_)
      refine jjs hG rfl rfl ?_
      refine jjs hG rfl rfl ?_
      refine jj_gr hG (k := 46) rfl rfl rfl rfl ?_
      refine jjs hG rfl rfl ?_
      refine jj_ia hG (k := 46) rfl rfl rfl (fun x1 => ?_)
      refine jj_ige hG (t := 108) rfl rfl ?_ ?_
      · refine jj_exit c2 ?_
        exact jj_rvS hG rfl rfl (k _ _ _)
      refine jj_bi hG rfl cc_b32 ?_
      refine jjs hG rfl rfl ?_
      refine jjs hG rfl rfl ?_
      refine jjc hG rfl rfl (Nat.le_of_ble_eq_true rfl) ?_
      refine jj_lp (fun n => ?_)
      exact jj_wl hG [1, 2, 3, 0] rfl (b17 _ n _ _ _ _ _)
  refine (show JJ C R base m G 0 [(0, .ref m), (1, .int p1)] [] q t kc ks (M_sayStatics t p1) (some tz) from ?_) hw h
  refine jj_ic hG rfl cc_i0 ?_
  refine jjc hG rfl rfl (Nat.le_of_ble_eq_true rfl) ?_
  refine jj_lp (fun n => ?_)
  exact jj_wl hG [1, 2, 0] rfl (b2 n _ _ _ _ _)
