/-! The model as functions, by program: sayRouter .. leastAt -/
noncomputable def M_sayRouter_s106 (t : moS) (p1 : Int32) (a2 : Int32) : Option ((Int32 × moS) ⊕ moS) := Option.bind (rdI t 70 p1) (fun x1 => (if a2 < (((4 : Int32) * p1) + x1) then (Option.bind (M_saySummaries t a2) (fun s4 => ((some (.inl ((a2 + (1 : Int32)), s4)))))) else ((xo (Option.bind (M_sayRedistributed t p1 ((2 : Int32) * p1)) (fun s2 => (Option.bind (M_sayRedistributed s2 p1 (((2 : Int32) * p1) + (1 : Int32))) (fun s3 => ((some s3))))))))))
noncomputable def M_sayRouter_b106 (t : moS) (p1 : Int32) (a2 : Int32) : Option moS := lp (fun x => M_sayRouter_s106 x.2 p1 x.1) (a2, t)
noncomputable def M_sayRouter_s62 (t : moS) (p1 : Int32) (a2 : Int32) : Option ((Int32 × moS) ⊕ moS) := Option.bind (rdI t 70 p1) (fun x1 => (if a2 < (((4 : Int32) * p1) + x1) then (Option.bind (M_sayJoins t a2) (fun s5 => ((some (.inl ((a2 + (1 : Int32)), s5)))))) else ((xo (Option.bind (M_sayStatics t p1) (fun s2 => (Option.bind (M_sayFilters s2 p1) (fun s3 => (Option.bind (M_sayLists s3 p1) (fun s4 => ((M_sayRouter_b106 s4 p1 ((4 : Int32) * p1)))))))))))))
noncomputable def M_sayRouter_b62 (t : moS) (p1 : Int32) (a2 : Int32) : Option moS := lp (fun x => M_sayRouter_s62 x.2 p1 x.1) (a2, t)
noncomputable def M_sayRouter (t : moS) (p1 : Int32) : Option moS := Option.bind (M_begin t (1882976218 : Int64) p1) (fun s1 => (Option.bind (M_say s1 (10 : Int32)) (fun s2 => (Option.bind (M_begin s2 (2071880739 : Int64) p1) (fun s3 => (Option.bind (rdI s3 40 p1) (fun x4 => (Option.bind (M_wordNumber s3 x4) (fun s5 => (Option.bind (rdI s5 41 p1) (fun x6 => (Option.bind (M_wordNumber s5 x6) (fun s7 => (Option.bind (rdI s7 42 p1) (fun x8 => (Option.bind (M_wordNumber s7 x8) (fun s9 => (Option.bind (M_say s9 (10 : Int32)) (fun s10 => ((M_sayRouter_b62 s10 p1 ((4 : Int32) * p1))))))))))))))))))))))
set_option maxRecDepth 100000 in
set_option maxHeartbeats 4000000 in
theorem k_sayRouter (base : Nat) (sa : Nat → Nat) {C : Nat × Nat} {R : pmM} {m : Nat} {q : Nat → Nat} {t tz : moS} {kc ks : Nat} {Rt : pmR} {p1 : Int32} (hw : mW C R base m q t kc ks) (h : M_sayRouter t p1 = (some tz)) (k : ∀ (q' : Nat → Nat) (kc' ks' : Nat), mW C R base m q' tz kc' ks' → Rt none (moM R m q' tz) kc' ks') : kP_Mo_sayRouter base sa [.ref m, .int p1] (moM R m q t) kc ks Rt := by
  refine ⟨Nat.le_of_ble_eq_true rfl, fun G hG => ?_⟩
  have b106 : ∀ (n : Nat) (a2 : Int32) (q : Nat → Nat) (t : moS) (kc ks : Nat), JJ C R base m G 106 [(0, .ref m), (1, .int p1), (2, .int a2)] [] q t kc ks (lpN (fun x => M_sayRouter_s106 x.2 p1 x.1) n (a2, t)) (some tz) := by
    intro n
    induction n with
    | zero => intro a2 q t kc ks; exact jj_lp0
    | succ n ih106 =>
      intro a2 q t kc ks
      refine jj_lpS (fun y106 c106 => ?_)
      refine (show JJ C R base m G 106 [(0, .ref m), (1, .int p1), (2, .int a2)] [] q t kc ks (M_sayRouter_s106 t p1 a2) (some y106) from ?_)
      refine jjs hG rfl rfl ?_
      refine jj_ic hG rfl cc_i4 ?_
      refine jjs hG rfl rfl ?_
      refine jjs hG rfl rfl ?_
      refine jjs hG rfl rfl ?_
      refine jj_gr hG (k := 70) rfl rfl rfl rfl ?_
      refine jjs hG rfl rfl ?_
      refine jj_ia hG (k := 70) rfl rfl rfl (fun x1 => ?_)
      refine jjs hG rfl rfl ?_
      refine jj_ige hG (t := 131) rfl rfl ?_ ?_
      · refine jj_exit c106 ?_
        refine jjs hG rfl rfl ?_
        refine jjs hG rfl rfl ?_
        refine jj_ic hG rfl cc_i2 ?_
        refine jjs hG rfl rfl ?_
        refine jjs hG rfl rfl ?_
        refine jj_cvA hG 0 rfl rfl (Nat.le_of_ble_eq_true rfl) (by decide) (Nat.le_of_ble_eq_true rfl) rfl (st' := []) rfl (fun _ _ hw h k => pm_rcv_of moM_m (k_sayRedistributed base sa hw h k)) (fun s2 q kc ks => ?_)
        refine jjs hG rfl rfl ?_
        refine jjs hG rfl rfl ?_
        refine jj_ic hG rfl cc_i2 ?_
        refine jjs hG rfl rfl ?_
        refine jjs hG rfl rfl ?_
        refine jj_ic hG rfl cc_i1 ?_
        refine jjs hG rfl rfl ?_
        refine jj_cvA hG 0 rfl rfl (Nat.le_of_ble_eq_true rfl) (by decide) (Nat.le_of_ble_eq_true rfl) rfl (st' := []) rfl (fun _ _ hw h k => pm_rcv_of moM_m (k_sayRedistributed base sa hw h k)) (fun s3 q kc ks => ?_)
        exact jj_rvS hG rfl rfl (k _ _ _)
      refine jjs hG rfl rfl ?_
      refine jjs hG rfl rfl ?_
      refine jj_cvA hG 0 rfl rfl (Nat.le_of_ble_eq_true rfl) (by decide) (Nat.le_of_ble_eq_true rfl) rfl (st' := []) rfl (fun _ _ hw h k => pm_rcv_of moM_m (k_saySummaries base sa hw h k)) (fun s4 q kc ks => ?_)
      refine jj_inc hG rfl (Nat.le_of_ble_eq_true rfl) rfl cc_i1 ?_
      refine jj_go hG (t := 106) rfl rfl ?_
      exact jj_back c106 (jj_wl hG [1, 2, 0] rfl (ih106 _ _ _ _ _))
  have b62 : ∀ (n : Nat) (a2 : Int32) (q : Nat → Nat) (t : moS) (kc ks : Nat), JJ C R base m G 62 [(0, .ref m), (1, .int p1), (2, .int a2)] [] q t kc ks (lpN (fun x => M_sayRouter_s62 x.2 p1 x.1) n (a2, t)) (some tz) := by
    intro n
    induction n with
    | zero => intro a2 q t kc ks; exact jj_lp0
    | succ n ih62 =>
      intro a2 q t kc ks
      refine jj_lpS (fun y62 c62 => ?_)
      refine (show JJ C R base m G 62 [(0, .ref m), (1, .int p1), (2, .int a2)] [] q t kc ks (M_sayRouter_s62 t p1 a2) (some y62) from ?_)
      refine jjs hG rfl rfl ?_
      refine jj_ic hG rfl cc_i4 ?_
      refine jjs hG rfl rfl ?_
      refine jjs hG rfl rfl ?_
      refine jjs hG rfl rfl ?_
      refine jj_gr hG (k := 70) rfl rfl rfl rfl ?_
      refine jjs hG rfl rfl ?_
      refine jj_ia hG (k := 70) rfl rfl rfl (fun x1 => ?_)
      refine jjs hG rfl rfl ?_
      refine jj_ige hG (t := 87) rfl rfl ?_ ?_
      · refine jj_exit c62 ?_
        refine jjs hG rfl rfl ?_
        refine jjs hG rfl rfl ?_
        refine jj_cvA hG 0 rfl rfl (Nat.le_of_ble_eq_true rfl) (by decide) (Nat.le_of_ble_eq_true rfl) rfl (st' := []) rfl (fun _ _ hw h k => pm_rcv_of moM_m (k_sayStatics base sa hw h k)) (fun s2 q kc ks => ?_)
        refine jjs hG rfl rfl ?_
        refine jjs hG rfl rfl ?_
        refine jj_cvA hG 0 rfl rfl (Nat.le_of_ble_eq_true rfl) (by decide) (Nat.le_of_ble_eq_true rfl) rfl (st' := []) rfl (fun _ _ hw h k => pm_rcv_of moM_m (k_sayFilters base sa hw h k)) (fun s3 q kc ks => ?_)
        refine jjs hG rfl rfl ?_
        refine jjs hG rfl rfl ?_
        refine jj_cvA hG 0 rfl rfl (Nat.le_of_ble_eq_true rfl) (by decide) (Nat.le_of_ble_eq_true rfl) rfl (st' := []) rfl (fun _ _ hw h k => pm_rcv_of moM_m (k_sayLists base sa hw h k)) (fun s4 q kc ks => ?_)
        refine jj_ic hG rfl cc_i4 ?_
        refine jjs hG rfl rfl ?_
        refine jjs hG rfl rfl ?_
        refine jjc hG rfl rfl (Nat.le_of_ble_eq_true rfl) ?_
        refine jj_lp (fun n => ?_)
        exact jj_wl hG [1, 2, 0] rfl (b106 n _ _ _ _ _)
      refine jjs hG rfl rfl ?_
      refine jjs hG rfl rfl ?_
      refine jj_cvA hG 0 rfl rfl (Nat.le_of_ble_eq_true rfl) (by decide) (Nat.le_of_ble_eq_true rfl) rfl (st' := []) rfl (fun _ _ hw h k => pm_rcv_of moM_m (k_sayJoins base sa hw h k)) (fun s5 q kc ks => ?_)
      refine jj_inc hG rfl (Nat.le_of_ble_eq_true rfl) rfl cc_i1 ?_
      refine jj_go hG (t := 62) rfl rfl ?_
      exact jj_back c62 (jj_wl hG [1, 2, 0] rfl (ih62 _ _ _ _ _))
  refine (show JJ C R base m G 0 [(0, .ref m), (1, .int p1)] [] q t kc ks (M_sayRouter t p1) (some tz) from ?_) hw h
  refine jjs hG rfl rfl ?_
  refine jj_l2 hG (v := (1882976218 : Int64)) rfl rfl ?_
  refine jjs hG rfl rfl ?_
  refine jj_cvA hG 0 rfl rfl (Nat.le_of_ble_eq_true rfl) (by decide) (Nat.le_of_ble_eq_true rfl) rfl (st' := []) rfl (fun _ _ hw h k => pm_rcv_of moM_m (k_begin base sa hw h k)) (fun s1 q kc ks => ?_)
  refine jjs hG rfl rfl ?_
  refine jj_bi hG rfl cc_b10 ?_
  refine jj_cvA hG 0 rfl rfl (Nat.le_of_ble_eq_true rfl) (by decide) (Nat.le_of_ble_eq_true rfl) rfl (st' := []) rfl (fun _ _ hw h k => pm_rcv_of moM_m (k_say base sa hw h k)) (fun s2 q kc ks => ?_)
  refine jjs hG rfl rfl ?_
  refine jj_l2 hG (v := (2071880739 : Int64)) rfl rfl ?_
  refine jjs hG rfl rfl ?_
  refine jj_cvA hG 0 rfl rfl (Nat.le_of_ble_eq_true rfl) (by decide) (Nat.le_of_ble_eq_true rfl) rfl (st' := []) rfl (fun _ _ hw h k => pm_rcv_of moM_m (k_begin base sa hw h k)) (fun s3 q kc ks => ?_)
  refine jjs hG rfl rfl ?_
  refine jjs hG rfl rfl ?_
  refine jj_gr hG (k := 40) rfl rfl rfl rfl ?_
  refine jjs hG rfl rfl ?_
  refine jj_ia hG (k := 40) rfl rfl rfl (fun x4 => ?_)
  refine jj_cvA hG 0 rfl rfl (Nat.le_of_ble_eq_true rfl) (by decide) (Nat.le_of_ble_eq_true rfl) rfl (st' := []) rfl (fun _ _ hw h k => pm_rcv_of moM_m (k_wordNumber base sa hw h k)) (fun s5 q kc ks => ?_)
  refine jjs hG rfl rfl ?_
  refine jjs hG rfl rfl ?_
  refine jj_gr hG (k := 41) rfl rfl rfl rfl ?_
  refine jjs hG rfl rfl ?_
  refine jj_ia hG (k := 41) rfl rfl rfl (fun x6 => ?_)
  refine jj_cvA hG 0 rfl rfl (Nat.le_of_ble_eq_true rfl) (by decide) (Nat.le_of_ble_eq_true rfl) rfl (st' := []) rfl (fun _ _ hw h k => pm_rcv_of moM_m (k_wordNumber base sa hw h k)) (fun s7 q kc ks => ?_)
  refine jjs hG rfl rfl ?_
  refine jjs hG rfl rfl ?_
  refine jj_gr hG (k := 42) rfl rfl rfl rfl ?_
  refine jjs hG rfl rfl ?_
  refine jj_ia hG (k := 42) rfl rfl rfl (fun x8 => ?_)
  refine jj_cvA hG 0 rfl rfl (Nat.le_of_ble_eq_true rfl) (by decide) (Nat.le_of_ble_eq_true rfl) rfl (st' := []) rfl (fun _ _ hw h k => pm_rcv_of moM_m (k_wordNumber base sa hw h k)) (fun s9 q kc ks => ?_)
  refine jjs hG rfl rfl ?_
  refine jj_bi hG rfl cc_b10 ?_
  refine jj_cvA hG 0 rfl rfl (Nat.le_of_ble_eq_true rfl) (by decide) (Nat.le_of_ble_eq_true rfl) rfl (st' := []) rfl (fun _ _ hw h k => pm_rcv_of moM_m (k_say base sa hw h k)) (fun s10 q kc ks => ?_)
  refine jj_ic hG rfl cc_i4 ?_
  refine jjs hG rfl rfl ?_
  refine jjs hG rfl rfl ?_
  refine jjc hG rfl rfl (Nat.le_of_ble_eq_true rfl) ?_
  refine jj_lp (fun n => ?_)
  exact jj_wl hG [1, 2, 0] rfl (b62 n _ _ _ _ _)
noncomputable def M_config_s46 (t : moS) (a1 : Int32) (a2 : Int32) : Option ((Int32 × moS) ⊕ ((Int32 × moS) ⊕ (Int32 × moS))) := Option.bind (rdI t 29 a1) (fun x1 => (if a2 < (((16 : Int32) * a1) + x1) then (Option.bind (M_sayListEntry t a1 a2) (fun s2 => ((some (.inl ((a2 + (1 : Int32)), s2)))))) else ((xo ((some (.inl ((a1 + (1 : Int32)), t))))))))
noncomputable def M_config_b46 (t : moS) (a1 : Int32) (a2 : Int32) : Option ((Int32 × moS) ⊕ (Int32 × moS)) := lp (fun x => M_config_s46 x.2 a1 x.1) (a2, t)
noncomputable def M_config_s81 (t : moS) (a1 : Int32) : Option ((Int32 × moS) ⊕ (Int32 × moS)) := if a1 < (moS.S t 37) then (Option.bind (M_sayRouter t a1) (fun s3 => ((some (.inl ((a1 + (1 : Int32)), s3)))))) else ((xo (if (40000 : Int32) < (moS.S t 8) then ((some (((-1) : Int32), t))) else (bn2 (M_shown t) (fun x2 s1 => ((some (x2, s1))))))))
noncomputable def M_config_b81 (t : moS) (a1 : Int32) : Option (Int32 × moS) := lp (fun x => M_config_s81 x.2 x.1) (a1, t)
noncomputable def M_config_s33 (t : moS) (a1 : Int32) : Option ((Int32 × moS) ⊕ (Int32 × moS)) := if a1 < (moS.S t 27) then ((M_config_b46 t a1 ((16 : Int32) * a1))) else ((xo ((M_config_b81 t (0 : Int32)))))
noncomputable def M_config_b33 (t : moS) (a1 : Int32) : Option (Int32 × moS) := lp (fun x => M_config_s33 x.2 x.1) (a1, t)
noncomputable def M_config_s12 (t : moS) (a1 : Int32) : Option ((Int32 × moS) ⊕ (Int32 × moS)) := if a1 < (moS.S t 17) then (Option.bind (M_sayLink t a1) (fun s1 => ((some (.inl ((a1 + (1 : Int32)), s1)))))) else ((xo ((M_config_b33 t (0 : Int32)))))
noncomputable def M_config_b12 (t : moS) (a1 : Int32) : Option (Int32 × moS) := lp (fun x => M_config_s12 x.2 x.1) (a1, t)
noncomputable def M_config (t : moS) : Option (Int32 × moS) := letS (moSS t 0 (0 : Int32)) (fun s1 => (letS (moSS s1 8 (0 : Int32)) (fun s2 => ((M_config_b12 s2 (0 : Int32))))))
set_option maxRecDepth 100000 in
set_option maxHeartbeats 4000000 in
theorem k_config (base : Nat) (sa : Nat → Nat) {C : Nat × Nat} {R : pmM} {m : Nat} {q : Nat → Nat} {t tz : moS} {kc ks : Nat} {Rt : pmR}  {r : Int32} (hw : mW C R base m q t kc ks) (h : M_config t = (some (r, tz))) (k : ∀ (q' : Nat → Nat) (kc' ks' : Nat), mW C R base m q' tz kc' ks' → Rt (some (.int r)) (moM R m q' tz) kc' ks') : kP_Mo_config base sa [.ref m] (moM R m q t) kc ks Rt := by
  refine ⟨Nat.le_of_ble_eq_true rfl, fun G hG => ?_⟩
  have b81 : ∀ (n : Nat) (a1 : Int32) (q : Nat → Nat) (t : moS) (kc ks : Nat), JJ C R base m G 81 [(0, .ref m), (1, .int a1)] [] q t kc ks (lpN (fun x => M_config_s81 x.2 x.1) n (a1, t)) (some (r, tz)) := by
    intro n
    induction n with
    | zero => intro a1 q t kc ks; exact jj_lp0
    | succ n ih81 =>
      intro a1 q t kc ks
      refine jj_lpS (fun y81 c81 => ?_)
      refine (show JJ C R base m G 81 [(0, .ref m), (1, .int a1)] [] q t kc ks (M_config_s81 t a1) (some y81) from ?_)
      refine jjs hG rfl rfl ?_
      refine jjs hG rfl rfl ?_
      refine jj_gi hG (k := 37) rfl rfl rfl rfl ?_
      refine jj_ige hG (t := 100) rfl rfl ?_ ?_
      · refine jj_exit c81 ?_
        refine jjs hG rfl rfl ?_
        refine jj_gi hG (k := 8) rfl rfl rfl rfl ?_
        refine jj_lw hG (v := (40000 : Int32)) rfl rfl ?_
        refine jj_ile hG (t := 114) rfl rfl ?_ ?_
        · refine jjs hG rfl rfl ?_
          refine jj_csA hG 0 rfl rfl (Nat.le_of_ble_eq_true rfl) (by decide) (Nat.le_of_ble_eq_true rfl) rfl (st' := []) rfl (w := .int) (fun _ _ _ hw h k => pm_rcv_of moM_m (k_shown base sa hw h k)) (fun x2 s1 q kc ks => ?_)
          exact jj_riS hG rfl rfl rfl (k _ _ _)
        refine jj_ic hG rfl cc_im1 ?_
        refine jj_go hG (t := 118) rfl rfl ?_
        exact jj_riS hG rfl rfl rfl (k _ _ _)
      refine jjs hG rfl rfl ?_
      refine jjs hG rfl rfl ?_
      refine jj_cvA hG 0 rfl rfl (Nat.le_of_ble_eq_true rfl) (by decide) (Nat.le_of_ble_eq_true rfl) rfl (st' := []) rfl (fun _ _ hw h k => pm_rcv_of moM_m (k_sayRouter base sa hw h k)) (fun s3 q kc ks => ?_)
      refine jj_inc hG rfl (Nat.le_of_ble_eq_true rfl) rfl cc_i1 ?_
      refine jj_go hG (t := 81) rfl rfl ?_
      exact jj_back c81 (jj_wl hG [1, 0] rfl (ih81 _ _ _ _ _))
  have b33 : ∀ (n : Nat) (a1 : Int32) (q : Nat → Nat) (t : moS) (kc ks : Nat), JJ C R base m G 33 [(0, .ref m), (1, .int a1)] [] q t kc ks (lpN (fun x => M_config_s33 x.2 x.1) n (a1, t)) (some (r, tz)) := by
    intro n
    induction n with
    | zero => intro a1 q t kc ks; exact jj_lp0
    | succ n ih33 =>
      intro a1 q t kc ks
      refine jj_lpS (fun y33 c33 => ?_)
      have b46 : ∀ (a1 : Int32) (n : Nat) (a2 : Int32) (q : Nat → Nat) (t : moS) (kc ks : Nat), JJ C R base m G 46 [(0, .ref m), (1, .int a1), (2, .int a2)] [] q t kc ks (lpN (fun x => M_config_s46 x.2 a1 x.1) n (a2, t)) (some y33) := by
        intro a1 n
        induction n with
        | zero => intro a2 q t kc ks; exact jj_lp0
        | succ n ih46 =>
          intro a2 q t kc ks
          refine jj_lpS (fun y46 c46 => ?_)
          refine (show JJ C R base m G 46 [(0, .ref m), (1, .int a1), (2, .int a2)] [] q t kc ks (M_config_s46 t a1 a2) (some y46) from ?_)
          refine jjs hG rfl rfl ?_
          refine jj_bi hG rfl cc_b16 ?_
          refine jjs hG rfl rfl ?_
          refine jjs hG rfl rfl ?_
          refine jjs hG rfl rfl ?_
          refine jj_gr hG (k := 29) rfl rfl rfl rfl ?_
          refine jjs hG rfl rfl ?_
          refine jj_ia hG (k := 29) rfl rfl rfl (fun x1 => ?_)
          refine jjs hG rfl rfl ?_
          refine jj_ige hG (t := 73) rfl rfl ?_ ?_
          · refine jj_exit c46 ?_
            refine jj_inc hG rfl (Nat.le_of_ble_eq_true rfl) rfl cc_i1 ?_
            refine jj_go hG (t := 33) rfl rfl ?_
            exact jj_back c33 (jj_wl hG [1, 0] rfl (ih33 _ _ _ _ _))
          refine jjs hG rfl rfl ?_
          refine jjs hG rfl rfl ?_
          refine jjs hG rfl rfl ?_
          refine jj_cvA hG 0 rfl rfl (Nat.le_of_ble_eq_true rfl) (by decide) (Nat.le_of_ble_eq_true rfl) rfl (st' := []) rfl (fun _ _ hw h k => pm_rcv_of moM_m (k_sayListEntry base sa hw h k)) (fun s2 q kc ks => ?_)
          refine jj_inc hG rfl (Nat.le_of_ble_eq_true rfl) rfl cc_i1 ?_
          refine jj_go hG (t := 46) rfl rfl ?_
          exact jj_back c46 (jj_wl hG [1, 2, 0] rfl (ih46 _ _ _ _ _))
      refine (show JJ C R base m G 33 [(0, .ref m), (1, .int a1)] [] q t kc ks (M_config_s33 t a1) (some y33) from ?_)
      refine jjs hG rfl rfl ?_
      refine jjs hG rfl rfl ?_
      refine jj_gi hG (k := 27) rfl rfl rfl rfl ?_
      refine jj_ige hG (t := 79) rfl rfl ?_ ?_
      · refine jj_exit c33 ?_
        refine jj_ic hG rfl cc_i0 ?_
        refine jjc hG rfl rfl (Nat.le_of_ble_eq_true rfl) ?_
        refine jj_lp (fun n => ?_)
        exact jj_wl hG [1, 0] rfl (b81 n _ _ _ _ _)
      refine jj_bi hG rfl cc_b16 ?_
      refine jjs hG rfl rfl ?_
      refine jjs hG rfl rfl ?_
      refine jjc hG rfl rfl (Nat.le_of_ble_eq_true rfl) ?_
      refine jj_lp (fun n => ?_)
      exact jj_wl hG [1, 2, 0] rfl (b46 _ n _ _ _ _ _)
  have b12 : ∀ (n : Nat) (a1 : Int32) (q : Nat → Nat) (t : moS) (kc ks : Nat), JJ C R base m G 12 [(0, .ref m), (1, .int a1)] [] q t kc ks (lpN (fun x => M_config_s12 x.2 x.1) n (a1, t)) (some (r, tz)) := by
    intro n
    induction n with
    | zero => intro a1 q t kc ks; exact jj_lp0
    | succ n ih12 =>
      intro a1 q t kc ks
      refine jj_lpS (fun y12 c12 => ?_)
      refine (show JJ C R base m G 12 [(0, .ref m), (1, .int a1)] [] q t kc ks (M_config_s12 t a1) (some y12) from ?_)
      refine jjs hG rfl rfl ?_
      refine jjs hG rfl rfl ?_
      refine jj_gi hG (k := 17) rfl rfl rfl rfl ?_
      refine jj_ige hG (t := 31) rfl rfl ?_ ?_
      · refine jj_exit c12 ?_
        refine jj_ic hG rfl cc_i0 ?_
        refine jjc hG rfl rfl (Nat.le_of_ble_eq_true rfl) ?_
        refine jj_lp (fun n => ?_)
        exact jj_wl hG [1, 0] rfl (b33 n _ _ _ _ _)
      refine jjs hG rfl rfl ?_
      refine jjs hG rfl rfl ?_
      refine jj_cvA hG 0 rfl rfl (Nat.le_of_ble_eq_true rfl) (by decide) (Nat.le_of_ble_eq_true rfl) rfl (st' := []) rfl (fun _ _ hw h k => pm_rcv_of moM_m (k_sayLink base sa hw h k)) (fun s1 q kc ks => ?_)
      refine jj_inc hG rfl (Nat.le_of_ble_eq_true rfl) rfl cc_i1 ?_
      refine jj_go hG (t := 12) rfl rfl ?_
      exact jj_back c12 (jj_wl hG [1, 0] rfl (ih12 _ _ _ _ _))
  refine (show JJ C R base m G 0 [(0, .ref m)] [] q t kc ks (M_config t) (some (r, tz)) from ?_) hw h
  refine jjs hG rfl rfl ?_
  refine jj_ic hG rfl cc_i0 ?_
  refine jj_pi hG (k := 0) rfl rfl rfl rfl (fun s1 => ?_)
  refine jjs hG rfl rfl ?_
  refine jj_ic hG rfl cc_i0 ?_
  refine jj_pi hG (k := 8) rfl rfl rfl rfl (fun s2 => ?_)
  refine jj_ic hG rfl cc_i0 ?_
  refine jjc hG rfl rfl (Nat.le_of_ble_eq_true rfl) ?_
  refine jj_lp (fun n => ?_)
  exact jj_wl hG [1, 0] rfl (b12 n _ _ _ _ _)
noncomputable def M_takeAddress (t : moS) : Option (Int32 × moS) := letS (moSS t 3 (0 : Int32)) (fun s1 => (bn2 (M_readAddress s1 (0 : Int32) (moS.S t 3)) (fun x3 s2 => ((okZ x3 (some (x3, s2)))))))
set_option maxRecDepth 100000 in
set_option maxHeartbeats 4000000 in
theorem k_takeAddress (base : Nat) (sa : Nat → Nat) {C : Nat × Nat} {R : pmM} {m : Nat} {q : Nat → Nat} {t tz : moS} {kc ks : Nat} {Rt : pmR}  {r : Int32} (hw : mW C R base m q t kc ks) (h : M_takeAddress t = (some (r, tz))) (k : mW C R base m q tz kc ks → Rt (some (.int r)) (moM R m q tz) kc ks) : kP_Mo_takeAddress base sa [.ref m] (moM R m q t) kc ks Rt := by
  refine ⟨Nat.le_of_ble_eq_true rfl, fun G hG => ?_⟩
  refine (show JJ C R base m G 0 [(0, .ref m)] [] q t kc ks (M_takeAddress t) (some (r, tz)) from ?_) hw h
  refine jjs hG rfl rfl ?_
  refine jj_gi hG (k := 3) rfl rfl rfl rfl ?_
  refine jjc hG rfl rfl (Nat.le_of_ble_eq_true rfl) ?_
  refine jjs hG rfl rfl ?_
  refine jj_ic hG rfl cc_i0 ?_
  refine jj_pi hG (k := 3) rfl rfl rfl rfl (fun s1 => ?_)
  refine jjs hG rfl rfl ?_
  refine jj_ic hG rfl cc_i0 ?_
  refine jjs hG rfl rfl ?_
  refine jj_cs hG 0 rfl rfl (Nat.le_of_ble_eq_true rfl) (by decide) (Nat.le_of_ble_eq_true rfl) rfl (st' := []) rfl (w := .int) (fun _ _ _ hw h k => pm_rcv_of moM_m (k_readAddress base sa hw h k)) (fun x3 s2 => ?_)
  exact jj_rzS hG rfl rfl k
noncomputable def M_isLonger_b38 (t : moS) : Int32 := (0 : Int32)
noncomputable def M_isLonger (t : moS) (p1 : Int32) (p2 : Int64) (p4 : Int64) (p6 : Int32) (p7 : Int32) : Int32 := if p1 = (moS.S t 12) then (if p7 < p6 then (if (M_covers p2 p4 p6 (moS.Z t 13) (moS.Z t 14)) = 0 then ((M_isLonger_b38 t)) else ((1 : Int32))) else ((M_isLonger_b38 t))) else ((M_isLonger_b38 t))
set_option maxRecDepth 100000 in
set_option maxHeartbeats 4000000 in
theorem k_isLonger (base : Nat) (sa : Nat → Nat) {C : Nat × Nat} {R : pmM} {m : Nat} {q : Nat → Nat} {t : moS} {kc ks : Nat} {Rt : pmR} {p1 : Int32} {p2 : Int64} {p4 : Int64} {p6 : Int32} {p7 : Int32} {r : Int32} (hw : mW C R base m q t kc ks) (h : M_isLonger t p1 p2 p4 p6 p7 = r) (k : Rt (some (.int r)) (moM R m q t) kc ks) : kP_Mo_isLonger base sa [.ref m, .int p1, .long p2, .long p4, .int p6, .int p7] (moM R m q t) kc ks Rt := by
  refine ⟨Nat.le_of_ble_eq_true rfl, fun G hG => ?_⟩
  have b38 : JJ C R base m G 38 [] [] q t kc ks (M_isLonger_b38 t) r := by
    refine jj_ic hG rfl cc_i0 ?_
    exact jj_rit hG rfl rfl rfl k
  refine (show JJ C R base m G 0 [(0, .ref m), (1, .int p1), (2, .long p2), (4, .long p4), (6, .int p6), (7, .int p7)] [] q t kc ks (M_isLonger t p1 p2 p4 p6 p7) r from ?_) hw h
  refine jjs hG rfl rfl ?_
  refine jjs hG rfl rfl ?_
  refine jj_gi hG (k := 12) rfl rfl rfl rfl ?_
  refine jj_ine hG (t := 38) rfl rfl ?_ ?_
  · exact jj_wl hG [] rfl (b38)
  refine jjs hG rfl rfl ?_
  refine jjs hG rfl rfl ?_
  refine jj_ile hG (t := 38) rfl rfl ?_ ?_
  · exact jj_wl hG [] rfl (b38)
  refine jjs hG rfl rfl ?_
  refine jjs hG rfl rfl ?_
  refine jjs hG rfl rfl ?_
  refine jjs hG rfl rfl ?_
  refine jj_gz hG (k := 13) rfl rfl rfl rfl ?_
  refine jjs hG rfl rfl ?_
  refine jj_gz hG (k := 14) rfl rfl rfl rfl ?_
  refine jj_ct hG 2 rfl rfl (Nat.le_of_ble_eq_true rfl) (by decide) (Nat.le_of_ble_eq_true rfl) rfl (st' := []) rfl (v := .int (M_covers p2 p4 p6 (moS.Z t 13) (moS.Z t 14))) (fun _ hw k => k_covers base sa hw rfl k) ?_
  refine jj_zeq hG (t := 38) rfl rfl ?_ ?_
  · exact jj_wl hG [] rfl (b38)
  refine jj_ic hG rfl cc_i1 ?_
  refine jj_go hG (t := 39) rfl rfl ?_
  exact jj_rit hG rfl rfl rfl k
noncomputable def M_longestOfAll_b80 (t : moS) (a1 : Int32) (a2 : Int32) (a3 : Int32) : Option ((Int32 × Int32) ⊕ ((Int32 × Int32) ⊕ Int32)) := (some (.inl (a1, (a3 + (1 : Int32)))))
noncomputable def M_longestOfAll_b178 (t : moS) (a1 : Int32) (a2 : Int32) (a3 : Int32) : Option ((Int32 × Int32) ⊕ ((Int32 × Int32) ⊕ Int32)) := (some (.inl (a1, (a3 + (1 : Int32)))))
noncomputable def M_longestOfAll_b184 (t : moS) (a1 : Int32) (a2 : Int32) : Option ((Int32 × Int32) ⊕ Int32) := (some (.inl (a1, (a2 + (1 : Int32)))))
noncomputable def M_longestOfAll_s91 (t : moS) (a2 : Int32) (a1 : Int32) (a3 : Int32) : Option ((Int32 × Int32) ⊕ ((Int32 × Int32) ⊕ Int32)) := Option.bind (rdI t 70 a2) (fun x1 => (if a3 < (((8 : Int32) * a2) + ((2 : Int32) * x1)) then (Option.bind (rdI t 39 a2) (fun x2 => (if x2 = 0 then ((xo (M_longestOfAll_b184 t a1 a2))) else (Option.bind (rdI t 75 a3) (fun x3 => (if x3 = 0 then ((M_longestOfAll_b178 t a1 a2 a3)) else (Option.bind (rdI t 71 (a3 / (2 : Int32))) (fun x4 => (Option.bind (rdI t 22 x4) (fun x5 => (if x5 = 0 then ((M_longestOfAll_b178 t a1 a2 a3)) else (Option.bind (rdJ t 76 a3) (fun x6 => (Option.bind (rdJ t 77 a3) (fun x7 => (Option.bind (rdI t 78 a3) (fun x8 => (if (M_isLonger t (rem_I a3 (2 : Int32)) x6 x7 x8 a1) = 0 then ((M_longestOfAll_b178 t a1 a2 a3)) else (Option.bind (rdI t 78 a3) (fun x9 => ((M_longestOfAll_b178 t x9 a2 a3)))))))))))))))))))))) else ((xo (M_longestOfAll_b184 t a1 a2)))))
noncomputable def M_longestOfAll_b91 (t : moS) (a2 : Int32) (a1 : Int32) (a3 : Int32) : Option ((Int32 × Int32) ⊕ Int32) := lp (fun x => M_longestOfAll_s91 t a2 x.1 x.2) (a1, a3)
noncomputable def M_longestOfAll_b86 (t : moS) (a1 : Int32) (a2 : Int32) : Option ((Int32 × Int32) ⊕ Int32) := (M_longestOfAll_b91 t a2 a1 ((8 : Int32) * a2))
noncomputable def M_longestOfAll_s17 (t : moS) (a2 : Int32) (a1 : Int32) (a3 : Int32) : Option ((Int32 × Int32) ⊕ ((Int32 × Int32) ⊕ Int32)) := Option.bind (rdI t 46 a2) (fun x1 => (if a3 < (((32 : Int32) * a2) + x1) then (Option.bind (rdI t 39 a2) (fun x2 => (if x2 = 0 then ((xo (M_longestOfAll_b86 t a1 a2))) else (Option.bind (rdI t 47 a3) (fun x3 => (Option.bind (rdJ t 48 a3) (fun x4 => (Option.bind (rdJ t 49 a3) (fun x5 => (Option.bind (rdI t 50 a3) (fun x6 => (if (M_isLonger t x3 x4 x5 x6 a1) = 0 then ((M_longestOfAll_b80 t a1 a2 a3)) else (Option.bind (rdI t 50 a3) (fun x7 => ((M_longestOfAll_b80 t x7 a2 a3)))))))))))))))) else ((xo (M_longestOfAll_b86 t a1 a2)))))
noncomputable def M_longestOfAll_b17 (t : moS) (a2 : Int32) (a1 : Int32) (a3 : Int32) : Option ((Int32 × Int32) ⊕ Int32) := lp (fun x => M_longestOfAll_s17 t a2 x.1 x.2) (a1, a3)
noncomputable def M_longestOfAll_s4 (t : moS) (a1 : Int32) (a2 : Int32) : Option ((Int32 × Int32) ⊕ Int32) := if a2 < (moS.S t 37) then ((M_longestOfAll_b17 t a2 a1 ((32 : Int32) * a2))) else ((xo ((some a1))))
noncomputable def M_longestOfAll_b4 (t : moS) (a1 : Int32) (a2 : Int32) : Option Int32 := lp (fun x => M_longestOfAll_s4 t x.1 x.2) (a1, a2)
noncomputable def M_longestOfAll (t : moS) : Option Int32 := (M_longestOfAll_b4 t ((-1) : Int32) (0 : Int32))
set_option maxRecDepth 100000 in
set_option maxHeartbeats 4000000 in
theorem k_longestOfAll (base : Nat) (sa : Nat → Nat) {C : Nat × Nat} {R : pmM} {m : Nat} {q : Nat → Nat} {t : moS} {kc ks : Nat} {Rt : pmR}  {r : Int32} (hw : mW C R base m q t kc ks) (h : M_longestOfAll t = (some r)) (k : Rt (some (.int r)) (moM R m q t) kc ks) : kP_Mo_longestOfAll base sa [.ref m] (moM R m q t) kc ks Rt := by
  refine ⟨Nat.le_of_ble_eq_true rfl, fun G hG => ?_⟩
  have b4 : ∀ (n : Nat) (a1 : Int32) (a2 : Int32), JJ C R base m G 4 [(0, .ref m), (1, .int a1), (2, .int a2)] [] q t kc ks (lpN (fun x => M_longestOfAll_s4 t x.1 x.2) n (a1, a2)) (some r) := by
    intro n
    induction n with
    | zero => intro a1 a2; exact jj_lp0
    | succ n ih4 =>
      intro a1 a2
      refine jj_lpS (fun y4 c4 => ?_)
      have b184 : ∀ (a1 : Int32) (a2 : Int32), JJ C R base m G 184 [(0, .ref m), (1, .int a1), (2, .int a2)] [] q t kc ks (M_longestOfAll_b184 t a1 a2) (some y4) := by
        intro a1 a2
        refine jj_inc hG rfl (Nat.le_of_ble_eq_true rfl) rfl cc_i1 ?_
        refine jj_go hG (t := 4) rfl rfl ?_
        exact jj_back c4 (jj_wl hG [1, 2, 0] rfl (ih4 _ _))
      have b91 : ∀ (a2 : Int32) (n : Nat) (a1 : Int32) (a3 : Int32), JJ C R base m G 91 [(0, .ref m), (1, .int a1), (2, .int a2), (3, .int a3)] [] q t kc ks (lpN (fun x => M_longestOfAll_s91 t a2 x.1 x.2) n (a1, a3)) (some y4) := by
        intro a2 n
        induction n with
        | zero => intro a1 a3; exact jj_lp0
        | succ n ih91 =>
          intro a1 a3
          refine jj_lpS (fun y91 c91 => ?_)
          have b178 : ∀ (a1 : Int32) (a3 : Int32), JJ C R base m G 178 [(0, .ref m), (1, .int a1), (2, .int a2), (3, .int a3)] [] q t kc ks (M_longestOfAll_b178 t a1 a2 a3) (some y91) := by
            intro a1 a3
            refine jj_inc hG rfl (Nat.le_of_ble_eq_true rfl) rfl cc_i1 ?_
            refine jj_go hG (t := 91) rfl rfl ?_
            exact jj_back c91 (jj_wl hG [1, 2, 3, 0] rfl (ih91 _ _))
          refine (show JJ C R base m G 91 [(0, .ref m), (1, .int a1), (2, .int a2), (3, .int a3)] [] q t kc ks (M_longestOfAll_s91 t a2 a1 a3) (some y91) from ?_)
          refine jjs hG rfl rfl ?_
          refine jj_bi hG rfl cc_b8 ?_
          refine jjs hG rfl rfl ?_
          refine jjs hG rfl rfl ?_
          refine jj_ic hG rfl cc_i2 ?_
          refine jjs hG rfl rfl ?_
          refine jj_gr hG (k := 70) rfl rfl rfl rfl ?_
          refine jjs hG rfl rfl ?_
          refine jj_ia hG (k := 70) rfl rfl rfl (fun x1 => ?_)
          refine jjs hG rfl rfl ?_
          refine jjs hG rfl rfl ?_
          refine jj_ige hG (t := 184) rfl rfl ?_ ?_
          · refine jj_exit c91 ?_
            exact jj_wl hG [0, 1, 2] rfl (b184 _ _)
          refine jjs hG rfl rfl ?_
          refine jj_gr hG (k := 39) rfl rfl rfl rfl ?_
          refine jjs hG rfl rfl ?_
          refine jj_ba hG (k := 39) rfl rfl rfl (fun x2 => ?_)
          refine jj_zeq hG (t := 184) rfl rfl ?_ ?_
          · refine jj_exit c91 ?_
            exact jj_wl hG [0, 1, 2] rfl (b184 _ _)
          refine jjs hG rfl rfl ?_
          refine jj_gr hG (k := 75) rfl rfl rfl rfl ?_
          refine jjs hG rfl rfl ?_
          refine jj_ba hG (k := 75) rfl rfl rfl (fun x3 => ?_)
          refine jj_zeq hG (t := 178) rfl rfl ?_ ?_
          · exact jj_wl hG [0, 1, 2, 3] rfl (b178 _ _)
          refine jjs hG rfl rfl ?_
          refine jj_gr hG (k := 22) rfl rfl rfl rfl ?_
          refine jjs hG rfl rfl ?_
          refine jj_gr hG (k := 71) rfl rfl rfl rfl ?_
          refine jjs hG rfl rfl ?_
          refine jj_ic hG rfl cc_i2 ?_
          refine jjc hG rfl rfl (by decide) ?_
          refine jj_ia hG (k := 71) rfl rfl rfl (fun x4 => ?_)
          refine jj_ba hG (k := 22) rfl rfl rfl (fun x5 => ?_)
          refine jj_zeq hG (t := 178) rfl rfl ?_ ?_
          · exact jj_wl hG [0, 1, 2, 3] rfl (b178 _ _)
          refine jjs hG rfl rfl ?_
          refine jjs hG rfl rfl ?_
          refine jj_ic hG rfl cc_i2 ?_
          refine jjc hG rfl rfl (by decide) ?_
          refine jjs hG rfl rfl ?_
          refine jj_gr hG (k := 76) rfl rfl rfl rfl ?_
          refine jjs hG rfl rfl ?_
          refine jj_la hG (k := 76) rfl rfl rfl (fun x6 => ?_)
          refine jjs hG rfl rfl ?_
          refine jj_gr hG (k := 77) rfl rfl rfl rfl ?_
          refine jjs hG rfl rfl ?_
          refine jj_la hG (k := 77) rfl rfl rfl (fun x7 => ?_)
          refine jjs hG rfl rfl ?_
          refine jj_gr hG (k := 78) rfl rfl rfl rfl ?_
          refine jjs hG rfl rfl ?_
          refine jj_ia hG (k := 78) rfl rfl rfl (fun x8 => ?_)
          refine jjs hG rfl rfl ?_
          refine jj_ct hG 0 rfl rfl (Nat.le_of_ble_eq_true rfl) (by decide) (Nat.le_of_ble_eq_true rfl) rfl (st' := []) rfl (v := .int (M_isLonger t (rem_I a3 (2 : Int32)) x6 x7 x8 a1)) (fun _ hw k => pm_rcv_of moM_m (k_isLonger base sa hw rfl k)) ?_
          refine jj_zeq hG (t := 178) rfl rfl ?_ ?_
          · exact jj_wl hG [0, 1, 2, 3] rfl (b178 _ _)
          refine jjs hG rfl rfl ?_
          refine jj_gr hG (k := 78) rfl rfl rfl rfl ?_
          refine jjs hG rfl rfl ?_
          refine jj_ia hG (k := 78) rfl rfl rfl (fun x9 => ?_)
          refine jjc hG rfl rfl (Nat.le_of_ble_eq_true rfl) ?_
          exact jj_wl hG [1, 0, 2, 3] rfl (b178 _ _)
      have b86 : ∀ (a1 : Int32) (a2 : Int32), JJ C R base m G 86 [(0, .ref m), (1, .int a1), (2, .int a2)] [] q t kc ks (M_longestOfAll_b86 t a1 a2) (some y4) := by
        intro a1 a2
        refine jj_bi hG rfl cc_b8 ?_
        refine jjs hG rfl rfl ?_
        refine jjs hG rfl rfl ?_
        refine jjc hG rfl rfl (Nat.le_of_ble_eq_true rfl) ?_
        refine jj_lp (fun n => ?_)
        exact jj_wl hG [1, 2, 3, 0] rfl (b91 _ n _ _)
      have b17 : ∀ (a2 : Int32) (n : Nat) (a1 : Int32) (a3 : Int32), JJ C R base m G 17 [(0, .ref m), (1, .int a1), (2, .int a2), (3, .int a3)] [] q t kc ks (lpN (fun x => M_longestOfAll_s17 t a2 x.1 x.2) n (a1, a3)) (some y4) := by
        intro a2 n
        induction n with
        | zero => intro a1 a3; exact jj_lp0
        | succ n ih17 =>
          intro a1 a3
          refine jj_lpS (fun y17 c17 => ?_)
          have b80 : ∀ (a1 : Int32) (a3 : Int32), JJ C R base m G 80 [(0, .ref m), (1, .int a1), (2, .int a2), (3, .int a3)] [] q t kc ks (M_longestOfAll_b80 t a1 a2 a3) (some y17) := by
            intro a1 a3
            refine jj_inc hG rfl (Nat.le_of_ble_eq_true rfl) rfl cc_i1 ?_
            refine jj_go hG (t := 17) rfl rfl ?_
            exact jj_back c17 (jj_wl hG [1, 2, 3, 0] rfl (ih17 _ _))
          refine (show JJ C R base m G 17 [(0, .ref m), (1, .int a1), (2, .int a2), (3, .int a3)] [] q t kc ks (M_longestOfAll_s17 t a2 a1 a3) (some y17) from ?_)
          refine jjs hG rfl rfl ?_
          refine jj_bi hG rfl cc_b32 ?_
          refine jjs hG rfl rfl ?_
          refine jjs hG rfl rfl ?_
          refine jjs hG rfl rfl ?_
          refine jj_gr hG (k := 46) rfl rfl rfl rfl ?_
          refine jjs hG rfl rfl ?_
          refine jj_ia hG (k := 46) rfl rfl rfl (fun x1 => ?_)
          refine jjs hG rfl rfl ?_
          refine jj_ige hG (t := 86) rfl rfl ?_ ?_
          · refine jj_exit c17 ?_
            exact jj_wl hG [0, 1, 2] rfl (b86 _ _)
          refine jjs hG rfl rfl ?_
          refine jj_gr hG (k := 39) rfl rfl rfl rfl ?_
          refine jjs hG rfl rfl ?_
          refine jj_ba hG (k := 39) rfl rfl rfl (fun x2 => ?_)
          refine jj_zeq hG (t := 86) rfl rfl ?_ ?_
          · refine jj_exit c17 ?_
            exact jj_wl hG [0, 1, 2] rfl (b86 _ _)
          refine jjs hG rfl rfl ?_
          refine jjs hG rfl rfl ?_
          refine jj_gr hG (k := 47) rfl rfl rfl rfl ?_
          refine jjs hG rfl rfl ?_
          refine jj_ia hG (k := 47) rfl rfl rfl (fun x3 => ?_)
          refine jjs hG rfl rfl ?_
          refine jj_gr hG (k := 48) rfl rfl rfl rfl ?_
          refine jjs hG rfl rfl ?_
          refine jj_la hG (k := 48) rfl rfl rfl (fun x4 => ?_)
          refine jjs hG rfl rfl ?_
          refine jj_gr hG (k := 49) rfl rfl rfl rfl ?_
          refine jjs hG rfl rfl ?_
          refine jj_la hG (k := 49) rfl rfl rfl (fun x5 => ?_)
          refine jjs hG rfl rfl ?_
          refine jj_gr hG (k := 50) rfl rfl rfl rfl ?_
          refine jjs hG rfl rfl ?_
          refine jj_ia hG (k := 50) rfl rfl rfl (fun x6 => ?_)
          refine jjs hG rfl rfl ?_
          refine jj_ct hG 0 rfl rfl (Nat.le_of_ble_eq_true rfl) (by decide) (Nat.le_of_ble_eq_true rfl) rfl (st' := []) rfl (v := .int (M_isLonger t x3 x4 x5 x6 a1)) (fun _ hw k => pm_rcv_of moM_m (k_isLonger base sa hw rfl k)) ?_
          refine jj_zeq hG (t := 80) rfl rfl ?_ ?_
          · exact jj_wl hG [0, 1, 2, 3] rfl (b80 _ _)
          refine jjs hG rfl rfl ?_
          refine jj_gr hG (k := 50) rfl rfl rfl rfl ?_
          refine jjs hG rfl rfl ?_
          refine jj_ia hG (k := 50) rfl rfl rfl (fun x7 => ?_)
          refine jjc hG rfl rfl (Nat.le_of_ble_eq_true rfl) ?_
          exact jj_wl hG [1, 0, 2, 3] rfl (b80 _ _)
      refine (show JJ C R base m G 4 [(0, .ref m), (1, .int a1), (2, .int a2)] [] q t kc ks (M_longestOfAll_s4 t a1 a2) (some y4) from ?_)
      refine jjs hG rfl rfl ?_
      refine jjs hG rfl rfl ?_
      refine jj_gi hG (k := 37) rfl rfl rfl rfl ?_
      refine jj_ige hG (t := 190) rfl rfl ?_ ?_
      · refine jj_exit c4 ?_
        refine jjs hG rfl rfl ?_
        exact jj_ri hG rfl rfl rfl k
      refine jj_bi hG rfl cc_b32 ?_
      refine jjs hG rfl rfl ?_
      refine jjs hG rfl rfl ?_
      refine jjc hG rfl rfl (Nat.le_of_ble_eq_true rfl) ?_
      refine jj_lp (fun n => ?_)
      exact jj_wl hG [1, 2, 3, 0] rfl (b17 _ n _ _)
  refine (show JJ C R base m G 0 [(0, .ref m)] [] q t kc ks (M_longestOfAll t) (some r) from ?_) hw h
  refine jj_ic hG rfl cc_im1 ?_
  refine jjc hG rfl rfl (Nat.le_of_ble_eq_true rfl) ?_
  refine jj_ic hG rfl cc_i0 ?_
  refine jjc hG rfl rfl (Nat.le_of_ble_eq_true rfl) ?_
  refine jj_lp (fun n => ?_)
  exact jj_wl hG [2, 1, 0] rfl (b4 n _ _)
noncomputable def M_leastAt_b88 (t : moS) (p1 : Int32) (p2 : Int32) (p3 : Int32) (a4 : Int64) (a6 : Int32) : Option ((Int64 × Int32) ⊕ Int64) := (some (.inl (a4, (a6 + (1 : Int32)))))
noncomputable def M_leastAt_b44 (t : moS) (p1 : Int32) (p2 : Int32) (p3 : Int32) (a4 : Int64) (a6 : Int32) (u0 : Int32) : Option ((Int64 × Int32) ⊕ Int64) := if u0 = ((-1) : Int32) then ((M_leastAt_b88 t p1 p2 p3 a4 a6)) else (Option.bind (rdI t 75 (((2 : Int32) * u0) + p3)) (fun x1 => (if x1 = 0 then ((M_leastAt_b88 t p1 p2 p3 a4 a6)) else (Option.bind (rdJ t 161 a6) (fun x2 => (if x2 < a4 then (Option.bind (rdJ t 161 a6) (fun x3 => ((M_leastAt_b88 t p1 p2 p3 x3 a6)))) else ((M_leastAt_b88 t p1 p2 p3 a4 a6))))))))
noncomputable def M_leastAt_b33 (t : moS) (p1 : Int32) (p2 : Int32) (p3 : Int32) (a4 : Int64) (a6 : Int32) : Option ((Int64 × Int32) ⊕ Int64) := (M_leastAt_b44 t p1 p2 p3 a4 a6 ((-1) : Int32))
noncomputable def M_leastAt_s8 (t : moS) (p1 : Int32) (p2 : Int32) (p3 : Int32) (a4 : Int64) (a6 : Int32) : Option ((Int64 × Int32) ⊕ Int64) := if a6 < (moS.S t 37) then (if a6 = p1 then ((M_leastAt_b33 t p1 p2 p3 a4 a6)) else (Option.bind (rdI t 39 a6) (fun x1 => (if x1 = 0 then ((M_leastAt_b33 t p1 p2 p3 a4 a6)) else (Option.bind (M_interfaceTo t a6 p2) (fun x2 => ((M_leastAt_b44 t p1 p2 p3 a4 a6 x2)))))))) else ((xo ((some a4))))
noncomputable def M_leastAt_b8 (t : moS) (p1 : Int32) (p2 : Int32) (p3 : Int32) (a4 : Int64) (a6 : Int32) : Option Int64 := lp (fun x => M_leastAt_s8 t p1 p2 p3 x.1 x.2) (a4, a6)
noncomputable def M_leastAt (t : moS) (p1 : Int32) (p2 : Int32) (p3 : Int32) : Option Int64 := (M_leastAt_b8 t p1 p2 p3 (1000 : Int64) (0 : Int32))
set_option maxRecDepth 100000 in
set_option maxHeartbeats 4000000 in
theorem k_leastAt (base : Nat) (sa : Nat → Nat) {C : Nat × Nat} {R : pmM} {m : Nat} {q : Nat → Nat} {t : moS} {kc ks : Nat} {Rt : pmR} {p1 : Int32} {p2 : Int32} {p3 : Int32} {r : Int64} (hw : mW C R base m q t kc ks) (h : M_leastAt t p1 p2 p3 = (some r)) (k : Rt (some (.long r)) (moM R m q t) kc ks) : kP_Mo_leastAt base sa [.ref m, .int p1, .int p2, .int p3] (moM R m q t) kc ks Rt := by
  refine ⟨Nat.le_of_ble_eq_true rfl, fun G hG => ?_⟩
  have b8 : ∀ (n : Nat) (a4 : Int64) (a6 : Int32), JJ C R base m G 8 [(0, .ref m), (1, .int p1), (2, .int p2), (3, .int p3), (4, .long a4), (6, .int a6)] [] q t kc ks (lpN (fun x => M_leastAt_s8 t p1 p2 p3 x.1 x.2) n (a4, a6)) (some r) := by
    intro n
    induction n with
    | zero => intro a4 a6; exact jj_lp0
    | succ n ih8 =>
      intro a4 a6
      refine jj_lpS (fun y8 c8 => ?_)
      have b88 : ∀ (a4 : Int64) (a6 : Int32), JJ C R base m G 88 [(0, .ref m), (1, .int p1), (2, .int p2), (3, .int p3), (4, .long a4), (6, .int a6)] [] q t kc ks (M_leastAt_b88 t p1 p2 p3 a4 a6) (some y8) := by
        intro a4 a6
        refine jj_inc hG rfl (Nat.le_of_ble_eq_true rfl) rfl cc_i1 ?_
        refine jj_go hG (t := 8) rfl rfl ?_
        exact jj_back c8 (jj_wl hG [1, 2, 3, 4, 5, 0] rfl (ih8 _ _))
      have b44 : ∀ (a4 : Int64) (a6 : Int32) (u0 : Int32), JJ C R base m G 44 [(0, .ref m), (1, .int p1), (2, .int p2), (3, .int p3), (4, .long a4), (6, .int a6)] [.int u0] q t kc ks (M_leastAt_b44 t p1 p2 p3 a4 a6 u0) (some y8) := by
        intro a4 a6 u0
        refine jjc hG rfl rfl (Nat.le_of_ble_eq_true rfl) ?_
        refine jjs hG rfl rfl ?_
        refine jj_ic hG rfl cc_im1 ?_
        refine jj_ieq hG (t := 88) rfl rfl ?_ ?_
        · exact jj_wl hG [1, 2, 3, 4, 5, 6] rfl (b88 _ _)
        refine jjs hG rfl rfl ?_
        refine jj_gr hG (k := 75) rfl rfl rfl rfl ?_
        refine jj_ic hG rfl cc_i2 ?_
        refine jjs hG rfl rfl ?_
        refine jjs hG rfl rfl ?_
        refine jjs hG rfl rfl ?_
        refine jjs hG rfl rfl ?_
        refine jj_ba hG (k := 75) rfl rfl rfl (fun x1 => ?_)
        refine jj_zeq hG (t := 88) rfl rfl ?_ ?_
        · exact jj_wl hG [1, 2, 3, 4, 5, 6] rfl (b88 _ _)
        refine jjs hG rfl rfl ?_
        refine jj_gr hG (k := 161) rfl rfl rfl rfl ?_
        refine jjs hG rfl rfl ?_
        refine jj_la hG (k := 161) rfl rfl rfl (fun x2 => ?_)
        refine jjs hG rfl rfl ?_
        refine jjs hG rfl rfl ?_
        refine jj_lge hG (t := 88) rfl rfl ?_ ?_
        · exact jj_wl hG [1, 2, 3, 4, 5, 6] rfl (b88 _ _)
        refine jjs hG rfl rfl ?_
        refine jj_gr hG (k := 161) rfl rfl rfl rfl ?_
        refine jjs hG rfl rfl ?_
        refine jj_la hG (k := 161) rfl rfl rfl (fun x3 => ?_)
        refine jjc hG rfl rfl (Nat.le_of_ble_eq_true rfl) ?_
        exact jj_wl hG [2, 3, 4, 5, 0, 6] rfl (b88 _ _)
      have b33 : ∀ (a4 : Int64) (a6 : Int32), JJ C R base m G 33 [(0, .ref m), (1, .int p1), (2, .int p2), (3, .int p3), (4, .long a4), (6, .int a6)] [] q t kc ks (M_leastAt_b33 t p1 p2 p3 a4 a6) (some y8) := by
        intro a4 a6
        refine jj_ic hG rfl cc_im1 ?_
        refine jj_go hG (t := 44) rfl rfl ?_
        exact jj_wl hG [0, 1, 2, 3, 4, 5] rfl (b44 _ _ _)
      refine (show JJ C R base m G 8 [(0, .ref m), (1, .int p1), (2, .int p2), (3, .int p3), (4, .long a4), (6, .int a6)] [] q t kc ks (M_leastAt_s8 t p1 p2 p3 a4 a6) (some y8) from ?_)
      refine jjs hG rfl rfl ?_
      refine jjs hG rfl rfl ?_
      refine jj_gi hG (k := 37) rfl rfl rfl rfl ?_
      refine jj_ige hG (t := 94) rfl rfl ?_ ?_
      · refine jj_exit c8 ?_
        refine jjs hG rfl rfl ?_
        exact jj_rl hG rfl rfl k
      refine jjs hG rfl rfl ?_
      refine jjs hG rfl rfl ?_
      refine jj_ieq hG (t := 33) rfl rfl ?_ ?_
      · exact jj_wl hG [0, 1, 2, 3, 4, 5] rfl (b33 _ _)
      refine jjs hG rfl rfl ?_
      refine jj_gr hG (k := 39) rfl rfl rfl rfl ?_
      refine jjs hG rfl rfl ?_
      refine jj_ba hG (k := 39) rfl rfl rfl (fun x1 => ?_)
      refine jj_zne hG (t := 37) rfl rfl ?_ ?_
      · refine jjs hG rfl rfl ?_
        refine jjs hG rfl rfl ?_
        refine jjs hG rfl rfl ?_
        refine jj_cp hG 0 rfl rfl (Nat.le_of_ble_eq_true rfl) (by decide) (Nat.le_of_ble_eq_true rfl) rfl (st' := []) rfl (w := .int) (fun _ _ hw h k => pm_rcv_of moM_m (k_interfaceTo base sa hw h k)) (fun x2 => ?_)
        exact jj_wl hG [0, 1, 2, 3, 4, 5] rfl (b44 _ _ _)
      exact jj_wl hG [0, 1, 2, 3, 4, 5] rfl (b33 _ _)
  refine (show JJ C R base m G 0 [(0, .ref m), (1, .int p1), (2, .int p2), (3, .int p3)] [] q t kc ks (M_leastAt t p1 p2 p3) (some r) from ?_) hw h
  refine jj_l2 hG (v := (1000 : Int64)) rfl rfl ?_
  refine jjc hG rfl rfl (Nat.le_of_ble_eq_true rfl) ?_
  refine jj_ic hG rfl cc_i0 ?_
  refine jjc hG rfl rfl (Nat.le_of_ble_eq_true rfl) ?_
  refine jj_lp (fun n => ?_)
  exact jj_wl hG [2, 3, 4, 5, 1, 0] rfl (b8 n _ _)
