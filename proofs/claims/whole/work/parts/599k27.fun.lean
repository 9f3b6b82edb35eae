/-! The model as functions, by program: sayName .. isRouter -/
noncomputable def M_sayName_b71 (t : moS) (a3 : Int32) (a4 : Int64) (u1 : Int32) : Option ((Int64 × moS) ⊕ moS) := Option.bind (M_say t u1) (fun s1 => ((some (.inl (((ush_L a4 (3 : Int32)) / (5 : Int64)), s1)))))
noncomputable def M_sayName_s90 (t : moS) (a3 : Int32) (a4 : Int32) : Option ((Int32 × moS) ⊕ moS) := if a4 < (((moS.S t 8) - a3) / (2 : Int32)) then (Option.bind (rdI t 7 (a3 + a4)) (fun x1 => (Option.bind (rdI t 7 (((moS.S t 8) - (1 : Int32)) - a4)) (fun x2 => (Option.bind (wrI t 7 (a3 + a4) x2) (fun s3 => (Option.bind (wrI s3 7 (((moS.S s3 8) - (1 : Int32)) - a4) x1) (fun s4 => ((some (.inl ((a4 + (1 : Int32)), s4)))))))))))) else ((xo ((some t))))
noncomputable def M_sayName_b90 (t : moS) (a3 : Int32) (a4 : Int32) : Option moS := lp (fun x => M_sayName_s90 x.2 a3 x.1) (a4, t)
noncomputable def M_sayName_s8 (t : moS) (a3 : Int32) (a4 : Int64) : Option ((Int64 × moS) ⊕ moS) := if a4 = (0 : Int64) then ((xo ((M_sayName_b90 t a3 (0 : Int32))))) else (if (36 : Int32) < (Int64.toInt32 (a4 - ((40 : Int64) * ((ush_L a4 (3 : Int32)) / (5 : Int64))))) then ((M_sayName_b71 t a3 a4 (42 : Int32))) else (if (26 : Int32) < (Int64.toInt32 (a4 - ((40 : Int64) * ((ush_L a4 (3 : Int32)) / (5 : Int64))))) then ((M_sayName_b71 t a3 a4 (((48 : Int32) + (Int64.toInt32 (a4 - ((40 : Int64) * ((ush_L a4 (3 : Int32)) / (5 : Int64)))))) - (27 : Int32)))) else ((M_sayName_b71 t a3 a4 (((97 : Int32) + (Int64.toInt32 (a4 - ((40 : Int64) * ((ush_L a4 (3 : Int32)) / (5 : Int64)))))) - (1 : Int32))))))
noncomputable def M_sayName_b8 (t : moS) (a3 : Int32) (a4 : Int64) : Option moS := lp (fun x => M_sayName_s8 x.2 a3 x.1) (a4, t)
noncomputable def M_sayName (t : moS) (p1 : Int64) : Option moS := (M_sayName_b8 t (moS.S t 8) p1)
set_option maxRecDepth 100000 in
set_option maxHeartbeats 4000000 in
theorem k_sayName (base : Nat) (sa : Nat → Nat) {C : Nat × Nat} {R : pmM} {m : Nat} {q : Nat → Nat} {t tz : moS} {kc ks : Nat} {Rt : pmR} {p1 : Int64} (hw : mW C R base m q t kc ks) (h : M_sayName t p1 = (some tz)) (k : ∀ (q' : Nat → Nat) (kc' ks' : Nat), mW C R base m q' tz kc' ks' → Rt none (moM R m q' tz) kc' ks') : kP_Mo_sayName base sa [.ref m, .long p1] (moM R m q t) kc ks Rt := by
  refine ⟨Nat.le_of_ble_eq_true rfl, fun G hG => ?_⟩
  have b90 : ∀ (a3 : Int32) (n : Nat) (a4 : Int32) (q : Nat → Nat) (t : moS) (kc ks : Nat), JJ C R base m G 90 [(0, .ref m), (3, .int a3), (4, .int a4)] [] q t kc ks (lpN (fun x => M_sayName_s90 x.2 a3 x.1) n (a4, t)) (some tz) := by
    intro a3 n
    induction n with
    | zero => intro a4 q t kc ks; exact jj_lp0
    | succ n ih90 =>
      intro a4 q t kc ks
      refine jj_lpS (fun y90 c90 => ?_)
      refine (show JJ C R base m G 90 [(0, .ref m), (3, .int a3), (4, .int a4)] [] q t kc ks (M_sayName_s90 t a3 a4) (some y90) from ?_)
      refine jjs hG rfl rfl ?_
      refine jjs hG rfl rfl ?_
      refine jj_gi hG (k := 8) rfl rfl rfl rfl ?_
      refine jjs hG rfl rfl ?_
      refine jjs hG rfl rfl ?_
      refine jj_ic hG rfl cc_i2 ?_
      refine jjc hG rfl rfl (by decide) ?_
      refine jj_ige hG (t := 159) rfl rfl ?_ ?_
      · refine jj_exit c90 ?_
        exact jj_rvS hG rfl rfl (k _ _ _)
      refine jjs hG rfl rfl ?_
      refine jj_gr hG (k := 7) rfl rfl rfl rfl ?_
      refine jjs hG rfl rfl ?_
      refine jjs hG rfl rfl ?_
      refine jjs hG rfl rfl ?_
      refine jj_ia hG (k := 7) rfl rfl rfl (fun x1 => ?_)
      refine jjc hG rfl rfl (Nat.le_of_ble_eq_true rfl) ?_
      refine jjs hG rfl rfl ?_
      refine jj_gr hG (k := 7) rfl rfl rfl rfl ?_
      refine jjs hG rfl rfl ?_
      refine jjs hG rfl rfl ?_
      refine jjs hG rfl rfl ?_
      refine jjs hG rfl rfl ?_
      refine jj_gr hG (k := 7) rfl rfl rfl rfl ?_
      refine jjs hG rfl rfl ?_
      refine jj_gi hG (k := 8) rfl rfl rfl rfl ?_
      refine jj_ic hG rfl cc_i1 ?_
      refine jjs hG rfl rfl ?_
      refine jj_at (pc' := 132) rfl ?_
      refine jjs hG rfl rfl ?_
      refine jjs hG rfl rfl ?_
      refine jj_ia hG (k := 7) rfl rfl rfl (fun x2 => ?_)
      refine jj_is hG (k := 7) rfl rfl rfl (fun s3 => ?_)
      refine jjs hG rfl rfl ?_
      refine jj_gr hG (k := 7) rfl rfl rfl rfl ?_
      refine jjs hG rfl rfl ?_
      refine jj_gi hG (k := 8) rfl rfl rfl rfl ?_
      refine jj_ic hG rfl cc_i1 ?_
      refine jjs hG rfl rfl ?_
      refine jjs hG rfl rfl ?_
      refine jjs hG rfl rfl ?_
      refine jjs hG rfl rfl ?_
      refine jj_is hG (k := 7) rfl rfl rfl (fun s4 => ?_)
      refine jj_inc hG rfl (Nat.le_of_ble_eq_true rfl) rfl cc_i1 ?_
      refine jj_go hG (t := 90) rfl rfl ?_
      exact jj_back c90 (jj_wl hG [2, 3, 0] rfl (ih90 _ _ _ _ _))
  have b8 : ∀ (a3 : Int32) (n : Nat) (a4 : Int64) (q : Nat → Nat) (t : moS) (kc ks : Nat), JJ C R base m G 8 [(0, .ref m), (3, .int a3), (4, .long a4)] [] q t kc ks (lpN (fun x => M_sayName_s8 x.2 a3 x.1) n (a4, t)) (some tz) := by
    intro a3 n
    induction n with
    | zero => intro a4 q t kc ks; exact jj_lp0
    | succ n ih8 =>
      intro a4 q t kc ks
      refine jj_lpS (fun y8 c8 => ?_)
      have b71 : ∀ (a4 : Int64) (u1 : Int32) (q : Nat → Nat) (t : moS) (kc ks : Nat), JJ C R base m G 71 [(0, .ref m), (3, .int a3), (4, .long a4)] [.int u1, .ref m] q t kc ks (M_sayName_b71 t a3 a4 u1) (some y8) := by
        intro a4 u1 q t kc ks
        refine jj_cvA hG 0 rfl rfl (Nat.le_of_ble_eq_true rfl) (by decide) (Nat.le_of_ble_eq_true rfl) rfl (st' := []) rfl (fun _ _ hw h k => pm_rcv_of moM_m (k_say base sa hw h k)) (fun s1 q kc ks => ?_)
        refine jjs hG rfl rfl ?_
        refine jj_ic hG rfl cc_i3 ?_
        refine jjs hG rfl rfl ?_
        refine jj_l2 hG (v := (5 : Int64)) rfl rfl ?_
        refine jjc hG rfl rfl (by decide) ?_
        refine jjc hG rfl rfl (Nat.le_of_ble_eq_true rfl) ?_
        refine jj_go hG (t := 8) rfl rfl ?_
        exact jj_back c8 (jj_wl hG [1, 2, 0] rfl (ih8 _ _ _ _ _))
      refine (show JJ C R base m G 8 [(0, .ref m), (3, .int a3), (4, .long a4)] [] q t kc ks (M_sayName_s8 t a3 a4) (some y8) from ?_)
      refine jjs hG rfl rfl ?_
      refine jj_lc hG (c := 0) (v := 0) rfl rfl ?_
      refine jjs hG rfl rfl ?_
      refine jj_leq hG (t := 87) rfl rfl ?_ ?_
      · refine jj_exit c8 ?_
        refine jj_ic hG rfl cc_i0 ?_
        refine jjc hG rfl rfl (Nat.le_of_ble_eq_true rfl) ?_
        refine jj_lp (fun n => ?_)
        exact jj_wl hG [1, 2, 0] rfl (b90 _ n _ _ _ _ _)
      refine jjs hG rfl rfl ?_
      refine jj_l2 hG (v := (40 : Int64)) rfl rfl ?_
      refine jjs hG rfl rfl ?_
      refine jj_ic hG rfl cc_i3 ?_
      refine jjs hG rfl rfl ?_
      refine jj_l2 hG (v := (5 : Int64)) rfl rfl ?_
      refine jjc hG rfl rfl (by decide) ?_
      refine jjs hG rfl rfl ?_
      refine jjs hG rfl rfl ?_
      refine jjs hG rfl rfl ?_
      refine jjc hG rfl rfl (Nat.le_of_ble_eq_true rfl) ?_
      refine jjs hG rfl rfl ?_
      refine jj_at (pc' := 34) rfl ?_
      refine jjs hG rfl rfl ?_
      refine jj_bi hG rfl cc_b36 ?_
      refine jj_ile hG (t := 46) rfl rfl ?_ ?_
      · refine jjs hG rfl rfl ?_
        refine jj_bi hG rfl cc_b26 ?_
        refine jj_ile hG (t := 64) rfl rfl ?_ ?_
        · refine jj_bi hG rfl cc_b97 ?_
          refine jjs hG rfl rfl ?_
          refine jjs hG rfl rfl ?_
          refine jj_ic hG rfl cc_i1 ?_
          refine jjs hG rfl rfl ?_
          exact jj_wl hG [1, 2, 3] rfl (b71 _ _ _ _ _ _)
        refine jj_bi hG rfl cc_b48 ?_
        refine jjs hG rfl rfl ?_
        refine jjs hG rfl rfl ?_
        refine jj_bi hG rfl cc_b27 ?_
        refine jjs hG rfl rfl ?_
        refine jj_go hG (t := 71) rfl rfl ?_
        exact jj_wl hG [1, 2, 3] rfl (b71 _ _ _ _ _ _)
      refine jj_bi hG rfl cc_b42 ?_
      refine jj_go hG (t := 71) rfl rfl ?_
      exact jj_wl hG [1, 2, 3] rfl (b71 _ _ _ _ _ _)
  refine (show JJ C R base m G 0 [(0, .ref m), (1, .long p1)] [] q t kc ks (M_sayName t p1) (some tz) from ?_) hw h
  refine jjs hG rfl rfl ?_
  refine jj_gi hG (k := 8) rfl rfl rfl rfl ?_
  refine jjc hG rfl rfl (Nat.le_of_ble_eq_true rfl) ?_
  refine jjs hG rfl rfl ?_
  refine jjc hG rfl rfl (Nat.le_of_ble_eq_true rfl) ?_
  refine jj_lp (fun n => ?_)
  exact jj_wl hG [2, 1, 0] rfl (b8 _ n _ _ _ _ _)
noncomputable def M_sayNumber10_s18 (t : moS) (p1 : Int32) (a2 : Int32) : Option ((Int32 × moS) ⊕ moS) := if 0 < a2 then (nz a2 (Option.bind (M_say t ((48 : Int32) + (rem_I (p1 / a2) (10 : Int32)))) (fun s1 => ((some (.inl ((a2 / (10 : Int32)), s1))))))) else ((xo ((some t))))
noncomputable def M_sayNumber10_b18 (t : moS) (p1 : Int32) (a2 : Int32) : Option moS := lp (fun x => M_sayNumber10_s18 x.2 p1 x.1) (a2, t)
noncomputable def M_sayNumber10_s2 (t : moS) (p1 : Int32) (a2 : Int32) : Option ((Int32 × moS) ⊕ moS) := nz a2 (if (9 : Int32) < (p1 / a2) then ((some (.inl (((10 : Int32) * a2), t)))) else ((xo (M_sayNumber10_b18 t p1 a2))))
noncomputable def M_sayNumber10_b2 (t : moS) (p1 : Int32) (a2 : Int32) : Option moS := lp (fun x => M_sayNumber10_s2 x.2 p1 x.1) (a2, t)
noncomputable def M_sayNumber10 (t : moS) (p1 : Int32) : Option moS := (M_sayNumber10_b2 t p1 (1 : Int32))
set_option maxRecDepth 100000 in
set_option maxHeartbeats 4000000 in
theorem k_sayNumber10 (base : Nat) (sa : Nat → Nat) {C : Nat × Nat} {R : pmM} {m : Nat} {q : Nat → Nat} {t tz : moS} {kc ks : Nat} {Rt : pmR} {p1 : Int32} (hw : mW C R base m q t kc ks) (h : M_sayNumber10 t p1 = (some tz)) (k : ∀ (q' : Nat → Nat) (kc' ks' : Nat), mW C R base m q' tz kc' ks' → Rt none (moM R m q' tz) kc' ks') : kP_Mo_sayNumber10 base sa [.ref m, .int p1] (moM R m q t) kc ks Rt := by
  refine ⟨Nat.le_of_ble_eq_true rfl, fun G hG => ?_⟩
  have b18 : ∀ (n : Nat) (a2 : Int32) (q : Nat → Nat) (t : moS) (kc ks : Nat), JJ C R base m G 18 [(0, .ref m), (1, .int p1), (2, .int a2)] [] q t kc ks (lpN (fun x => M_sayNumber10_s18 x.2 p1 x.1) n (a2, t)) (some tz) := by
    intro n
    induction n with
    | zero => intro a2 q t kc ks; exact jj_lp0
    | succ n ih18 =>
      intro a2 q t kc ks
      refine jj_lpS (fun y18 c18 => ?_)
      refine (show JJ C R base m G 18 [(0, .ref m), (1, .int p1), (2, .int a2)] [] q t kc ks (M_sayNumber10_s18 t p1 a2) (some y18) from ?_)
      refine jjs hG rfl rfl ?_
      refine jj_zle hG (t := 43) rfl rfl ?_ ?_
      · refine jj_exit c18 ?_
        exact jj_rvS hG rfl rfl (k _ _ _)
      refine jjs hG rfl rfl ?_
      refine jj_bi hG rfl cc_b48 ?_
      refine jjs hG rfl rfl ?_
      refine jjs hG rfl rfl ?_
      refine jj_nz hG rfl rfl ?_
      refine jj_bi hG rfl cc_b10 ?_
      refine jjc hG rfl rfl (by decide) ?_
      refine jjs hG rfl rfl ?_
      refine jj_cvA hG 0 rfl rfl (Nat.le_of_ble_eq_true rfl) (by decide) (Nat.le_of_ble_eq_true rfl) rfl (st' := []) rfl (fun _ _ hw h k => pm_rcv_of moM_m (k_say base sa hw h k)) (fun s1 q kc ks => ?_)
      refine jjs hG rfl rfl ?_
      refine jj_bi hG rfl cc_b10 ?_
      refine jjc hG rfl rfl (by decide) ?_
      refine jjc hG rfl rfl (Nat.le_of_ble_eq_true rfl) ?_
      refine jj_go hG (t := 18) rfl rfl ?_
      exact jj_back c18 (jj_wl hG [1, 2, 0] rfl (ih18 _ _ _ _ _))
  have b2 : ∀ (n : Nat) (a2 : Int32) (q : Nat → Nat) (t : moS) (kc ks : Nat), JJ C R base m G 2 [(0, .ref m), (1, .int p1), (2, .int a2)] [] q t kc ks (lpN (fun x => M_sayNumber10_s2 x.2 p1 x.1) n (a2, t)) (some tz) := by
    intro n
    induction n with
    | zero => intro a2 q t kc ks; exact jj_lp0
    | succ n ih2 =>
      intro a2 q t kc ks
      refine jj_lpS (fun y2 c2 => ?_)
      refine (show JJ C R base m G 2 [(0, .ref m), (1, .int p1), (2, .int a2)] [] q t kc ks (M_sayNumber10_s2 t p1 a2) (some y2) from ?_)
      refine jjs hG rfl rfl ?_
      refine jjs hG rfl rfl ?_
      refine jj_nz hG rfl rfl ?_
      refine jj_bi hG rfl cc_b9 ?_
      refine jj_ile hG (t := 18) rfl rfl ?_ ?_
      · refine jj_exit c2 ?_
        refine jj_lp (fun n => ?_)
        exact jj_wl hG [0, 1, 2] rfl (b18 n _ _ _ _ _)
      refine jj_bi hG rfl cc_b10 ?_
      refine jjs hG rfl rfl ?_
      refine jjs hG rfl rfl ?_
      refine jjc hG rfl rfl (Nat.le_of_ble_eq_true rfl) ?_
      refine jj_go hG (t := 2) rfl rfl ?_
      exact jj_back c2 (jj_wl hG [1, 2, 0] rfl (ih2 _ _ _ _ _))
  refine (show JJ C R base m G 0 [(0, .ref m), (1, .int p1)] [] q t kc ks (M_sayNumber10 t p1) (some tz) from ?_) hw h
  refine jj_ic hG rfl cc_i1 ?_
  refine jjc hG rfl rfl (Nat.le_of_ble_eq_true rfl) ?_
  refine jj_lp (fun n => ?_)
  exact jj_wl hG [1, 2, 0] rfl (b2 n _ _ _ _ _)
noncomputable def M_sayNumber_b14 (t : moS) (p1 : Int32) : Option moS := Option.bind (M_say t ((48 : Int32) + (rem_I p1 (10 : Int32)))) (fun s1 => ((some s1)))
noncomputable def M_sayNumber (t : moS) (p1 : Int32) : Option moS := if (9 : Int32) < p1 then (Option.bind (M_sayNumber10 t (p1 / (10 : Int32))) (fun s1 => ((M_sayNumber_b14 s1 p1)))) else ((M_sayNumber_b14 t p1))
set_option maxRecDepth 100000 in
set_option maxHeartbeats 4000000 in
theorem k_sayNumber (base : Nat) (sa : Nat → Nat) {C : Nat × Nat} {R : pmM} {m : Nat} {q : Nat → Nat} {t tz : moS} {kc ks : Nat} {Rt : pmR} {p1 : Int32} (hw : mW C R base m q t kc ks) (h : M_sayNumber t p1 = (some tz)) (k : ∀ (q' : Nat → Nat) (kc' ks' : Nat), mW C R base m q' tz kc' ks' → Rt none (moM R m q' tz) kc' ks') : kP_Mo_sayNumber base sa [.ref m, .int p1] (moM R m q t) kc ks Rt := by
  refine ⟨Nat.le_of_ble_eq_true rfl, fun G hG => ?_⟩
  have b14 : ∀ (q : Nat → Nat) (t : moS) (kc ks : Nat), JJ C R base m G 14 [(0, .ref m), (1, .int p1)] [] q t kc ks (M_sayNumber_b14 t p1) (some tz) := by
    intro q t kc ks
    refine jjs hG rfl rfl ?_
    refine jj_bi hG rfl cc_b48 ?_
    refine jjs hG rfl rfl ?_
    refine jj_bi hG rfl cc_b10 ?_
    refine jjc hG rfl rfl (by decide) ?_
    refine jjs hG rfl rfl ?_
    refine jj_cvA hG 0 rfl rfl (Nat.le_of_ble_eq_true rfl) (by decide) (Nat.le_of_ble_eq_true rfl) rfl (st' := []) rfl (fun _ _ hw h k => pm_rcv_of moM_m (k_say base sa hw h k)) (fun s1 q kc ks => ?_)
    exact jj_rvS hG rfl rfl (k _ _ _)
  refine (show JJ C R base m G 0 [(0, .ref m), (1, .int p1)] [] q t kc ks (M_sayNumber t p1) (some tz) from ?_) hw h
  refine jjs hG rfl rfl ?_
  refine jj_bi hG rfl cc_b9 ?_
  refine jj_ile hG (t := 14) rfl rfl ?_ ?_
  · exact jj_wl hG [0, 1] rfl (b14 _ _ _ _)
  refine jjs hG rfl rfl ?_
  refine jjs hG rfl rfl ?_
  refine jj_bi hG rfl cc_b10 ?_
  refine jjc hG rfl rfl (by decide) ?_
  refine jj_cvA hG 0 rfl rfl (Nat.le_of_ble_eq_true rfl) (by decide) (Nat.le_of_ble_eq_true rfl) rfl (st' := []) rfl (fun _ _ hw h k => pm_rcv_of moM_m (k_sayNumber10 base sa hw h k)) (fun s1 q kc ks => ?_)
  exact jj_wl hG [0, 1] rfl (b14 _ _ _ _)
noncomputable def M_hexadecimalDigit (p0 : Int32) : Int32 := if p0 < (10 : Int32) then (((48 : Int32) + p0)) else ((((97 : Int32) + p0) - (10 : Int32)))
set_option maxRecDepth 100000 in
set_option maxHeartbeats 4000000 in
theorem k_hexadecimalDigit (base : Nat) (sa : Nat → Nat) {C : Nat × Nat} {R : pmM} {m : Nat} {q : Nat → Nat} {t : moS} {kc ks : Nat} {Rt : pmR} {p0 : Int32} {r : Int32} (hw : mW C R base m q t kc ks) (h : M_hexadecimalDigit p0 = r) (k : Rt (some (.int r)) (moM R m q t) kc ks) : kP_Mo_hexadecimalDigit base sa [.int p0] (moM R m q t) kc ks Rt := by
  refine ⟨Nat.le_of_ble_eq_true rfl, fun G hG => ?_⟩
  refine (show JJ C R base m G 0 [(0, .int p0)] [] q t kc ks (M_hexadecimalDigit p0) r from ?_) hw h
  refine jjs hG rfl rfl ?_
  refine jj_bi hG rfl cc_b10 ?_
  refine jj_ige hG (t := 13) rfl rfl ?_ ?_
  · refine jj_bi hG rfl cc_b97 ?_
    refine jjs hG rfl rfl ?_
    refine jjs hG rfl rfl ?_
    refine jj_bi hG rfl cc_b10 ?_
    refine jjs hG rfl rfl ?_
    exact jj_rit hG rfl rfl rfl k
  refine jj_bi hG rfl cc_b48 ?_
  refine jjs hG rfl rfl ?_
  refine jjs hG rfl rfl ?_
  refine jj_go hG (t := 20) rfl rfl ?_
  exact jj_rit hG rfl rfl rfl k
noncomputable def M_sayAddress_b24 (t : moS) (p2 : Int64) (a6 : Int32) : Option ((Int32 × moS) ⊕ moS) := Option.bind (M_sayNumber t (Int64.toInt32 ((p2 >>> ((Int32.toInt64 ((56 : Int32) - ((8 : Int32) * a6))) &&& 63)) &&& (255 : Int64)))) (fun s1 => ((some (.inl ((a6 + (1 : Int32)), s1)))))
noncomputable def M_sayAddress_s7 (t : moS) (p2 : Int64) (a6 : Int32) : Option ((Int32 × moS) ⊕ moS) := if a6 < (4 : Int32) then (if 0 < a6 then (Option.bind (M_say t (46 : Int32)) (fun s1 => ((M_sayAddress_b24 s1 p2 a6)))) else ((M_sayAddress_b24 t p2 a6))) else ((xo ((some t))))
noncomputable def M_sayAddress_b7 (t : moS) (p2 : Int64) (a6 : Int32) : Option moS := lp (fun x => M_sayAddress_s7 x.2 p2 x.1) (a6, t)
noncomputable def M_sayAddress_b78 (t : moS) (p2 : Int64) (p4 : Int64) (a6 : Int32) (u1 : Int32) (u2 : Int64) : Option ((Int32 × moS) ⊕ moS) := Option.bind (wrI t 16 u1 (Int64.toInt32 ((u2 >>> ((Int32.toInt64 ((48 : Int32) - ((16 : Int32) * (rem_I a6 (4 : Int32))))) &&& 63)) &&& (65535 : Int64)))) (fun s1 => ((some (.inl ((a6 + (1 : Int32)), s1)))))
noncomputable def M_sayAddress_b164 (t : moS) (a6 : Int32) (a7 : Int32) (a8 : Int32) : Option ((Int32 × Int32 × Int32 × moS) ⊕ moS) := (some (.inl (a6, a7, (a8 + (1 : Int32)), t)))
noncomputable def M_sayAddress_b149 (t : moS) (a6 : Int32) (a7 : Int32) (a8 : Int32) (a9 : Int32) : Option ((Int32 × Int32 × Int32 × moS) ⊕ moS) := if a7 < a9 then ((M_sayAddress_b164 t a8 a9 a8)) else ((M_sayAddress_b164 t a6 a7 a8))
noncomputable def M_sayAddress_s120 (t : moS) (a6 : Int32) (a7 : Int32) (a8 : Int32) (a9 : Int32) : Option ((Int32 × moS) ⊕ ((Int32 × Int32 × Int32 × moS) ⊕ moS)) := if (a8 + a9) < (8 : Int32) then (Option.bind (rdI t 16 (a8 + a9)) (fun x1 => (if x1 = 0 then ((some (.inl ((a9 + (1 : Int32)), t)))) else ((xo (M_sayAddress_b149 t a6 a7 a8 a9)))))) else ((xo (M_sayAddress_b149 t a6 a7 a8 a9)))
noncomputable def M_sayAddress_b120 (t : moS) (a6 : Int32) (a7 : Int32) (a8 : Int32) (a9 : Int32) : Option ((Int32 × Int32 × Int32 × moS) ⊕ moS) := lp (fun x => M_sayAddress_s120 x.2 a6 a7 a8 x.1) (a9, t)
noncomputable def M_sayAddress_b339 (t : moS) (a6 : Int32) (a7 : Int32) (a8 : Int32) (a9 : Int32) : Option ((Int32 × moS) ⊕ moS) := (some (.inl ((a9 + (1 : Int32)), t)))
noncomputable def M_sayAddress_b228 (t : moS) (a6 : Int32) (a7 : Int32) (a8 : Int32) (a9 : Int32) : Option ((Int32 × moS) ⊕ moS) := if a9 = a6 then (Option.bind (M_say t (58 : Int32)) (fun s1 => ((M_sayAddress_b339 s1 a6 a7 a8 a9)))) else ((M_sayAddress_b339 t a6 a7 a8 a9))
noncomputable def M_sayAddress_b333 (t : moS) (a6 : Int32) (a7 : Int32) (a8 : Int32) (a9 : Int32) (a10 : Int32) (a11 : Int32) : Option ((Int32 × Int32 × moS) ⊕ ((Int32 × moS) ⊕ moS)) := (some (.inl (a10, (a11 + ((-4) : Int32)), t)))
noncomputable def M_sayAddress_b317 (t : moS) (a6 : Int32) (a7 : Int32) (a8 : Int32) (a9 : Int32) (a11 : Int32) (a12 : Int32) (u0 : Int32) : Option ((Int32 × Int32 × moS) ⊕ ((Int32 × moS) ⊕ moS)) := if u0 = 0 then ((M_sayAddress_b333 t a6 a7 a8 a9 u0 a11)) else (Option.bind (M_say t (M_hexadecimalDigit a12)) (fun s1 => ((M_sayAddress_b333 s1 a6 a7 a8 a9 u0 a11))))
noncomputable def M_sayAddress_b312 (t : moS) (a6 : Int32) (a7 : Int32) (a8 : Int32) (a9 : Int32) (a11 : Int32) (a12 : Int32) : Option ((Int32 × Int32 × moS) ⊕ ((Int32 × moS) ⊕ moS)) := (M_sayAddress_b317 t a6 a7 a8 a9 a11 a12 (1 : Int32))
noncomputable def M_sayAddress_s277 (t : moS) (a6 : Int32) (a7 : Int32) (a8 : Int32) (a9 : Int32) (a10 : Int32) (a11 : Int32) : Option ((Int32 × Int32 × moS) ⊕ ((Int32 × moS) ⊕ moS)) := if a11 < 0 then ((xo (M_sayAddress_b339 t a6 a7 a8 a9))) else (Option.bind (rdI t 16 a9) (fun x1 => (if a10 = 0 then (if 0 < ((x1 >>> (a11 &&& 31)) &&& (15 : Int32)) then ((M_sayAddress_b312 t a6 a7 a8 a9 a11 ((x1 >>> (a11 &&& 31)) &&& (15 : Int32)))) else (if a11 = 0 then ((M_sayAddress_b312 t a6 a7 a8 a9 a11 ((x1 >>> (a11 &&& 31)) &&& (15 : Int32)))) else ((M_sayAddress_b317 t a6 a7 a8 a9 a11 ((x1 >>> (a11 &&& 31)) &&& (15 : Int32)) (0 : Int32))))) else ((M_sayAddress_b312 t a6 a7 a8 a9 a11 ((x1 >>> (a11 &&& 31)) &&& (15 : Int32)))))))
noncomputable def M_sayAddress_b277 (t : moS) (a6 : Int32) (a7 : Int32) (a8 : Int32) (a9 : Int32) (a10 : Int32) (a11 : Int32) : Option ((Int32 × moS) ⊕ moS) := lp (fun x => M_sayAddress_s277 x.2.2 a6 a7 a8 a9 x.1 x.2.1) (a10, a11, t)
noncomputable def M_sayAddress_b270 (t : moS) (a6 : Int32) (a7 : Int32) (a8 : Int32) (a9 : Int32) : Option ((Int32 × moS) ⊕ moS) := (M_sayAddress_b277 t a6 a7 a8 a9 (0 : Int32) (12 : Int32))
noncomputable def M_sayAddress_b264 (t : moS) (a6 : Int32) (a7 : Int32) (a8 : Int32) (a9 : Int32) : Option ((Int32 × moS) ⊕ moS) := Option.bind (M_say t (58 : Int32)) (fun s1 => ((M_sayAddress_b270 s1 a6 a7 a8 a9)))
noncomputable def M_sayAddress_b244 (t : moS) (a6 : Int32) (a7 : Int32) (a8 : Int32) (a9 : Int32) : Option ((Int32 × moS) ⊕ moS) := if 0 < a9 then (if a8 = 0 then ((M_sayAddress_b264 t a6 a7 a8 a9)) else (if a9 = (a6 + a7) then ((M_sayAddress_b270 t a6 a7 a8 a9)) else ((M_sayAddress_b264 t a6 a7 a8 a9)))) else ((M_sayAddress_b270 t a6 a7 a8 a9))
noncomputable def M_sayAddress_s186 (t : moS) (a6 : Int32) (a7 : Int32) (a8 : Int32) (a9 : Int32) : Option ((Int32 × moS) ⊕ moS) := if a9 < (8 : Int32) then (if a8 = 0 then ((M_sayAddress_b244 t a6 a7 a8 a9)) else (if a9 < a6 then ((M_sayAddress_b244 t a6 a7 a8 a9)) else (if a9 < (a6 + a7) then (if a9 = a6 then (Option.bind (M_say t (58 : Int32)) (fun s1 => ((M_sayAddress_b228 s1 a6 a7 a8 a9)))) else ((M_sayAddress_b228 t a6 a7 a8 a9))) else ((M_sayAddress_b244 t a6 a7 a8 a9))))) else ((xo ((some t))))
noncomputable def M_sayAddress_b186 (t : moS) (a6 : Int32) (a7 : Int32) (a8 : Int32) (a9 : Int32) : Option moS := lp (fun x => M_sayAddress_s186 x.2 a6 a7 a8 x.1) (a9, t)
noncomputable def M_sayAddress_b181 (t : moS) (a6 : Int32) (a7 : Int32) (u0 : Int32) : Option moS := (M_sayAddress_b186 t a6 a7 u0 (0 : Int32))
noncomputable def M_sayAddress_s110 (t : moS) (a6 : Int32) (a7 : Int32) (a8 : Int32) : Option ((Int32 × Int32 × Int32 × moS) ⊕ moS) := if a8 < (8 : Int32) then ((M_sayAddress_b120 t a6 a7 a8 (0 : Int32))) else ((xo (if (1 : Int32) < a7 then ((M_sayAddress_b181 t a6 a7 (1 : Int32))) else ((M_sayAddress_b181 t a6 a7 (0 : Int32))))))
noncomputable def M_sayAddress_b110 (t : moS) (a6 : Int32) (a7 : Int32) (a8 : Int32) : Option moS := lp (fun x => M_sayAddress_s110 x.2.2.2 x.1 x.2.1 x.2.2.1) (a6, a7, a8, t)
noncomputable def M_sayAddress_s53 (t : moS) (p2 : Int64) (p4 : Int64) (a6 : Int32) : Option ((Int32 × moS) ⊕ moS) := if a6 < (8 : Int32) then (if a6 < (4 : Int32) then ((M_sayAddress_b78 t p2 p4 a6 a6 p2)) else ((M_sayAddress_b78 t p2 p4 a6 a6 p4))) else ((xo ((M_sayAddress_b110 t (0 : Int32) (1 : Int32) (0 : Int32)))))
noncomputable def M_sayAddress_b53 (t : moS) (p2 : Int64) (p4 : Int64) (a6 : Int32) : Option moS := lp (fun x => M_sayAddress_s53 x.2 p2 p4 x.1) (a6, t)
noncomputable def M_sayAddress (t : moS) (p1 : Int32) (p2 : Int64) (p4 : Int64) : Option moS := if p1 = 0 then ((M_sayAddress_b7 t p2 (0 : Int32))) else ((M_sayAddress_b53 t p2 p4 (0 : Int32)))
set_option maxRecDepth 100000 in
set_option maxHeartbeats 4000000 in
theorem k_sayAddress (base : Nat) (sa : Nat → Nat) {C : Nat × Nat} {R : pmM} {m : Nat} {q : Nat → Nat} {t tz : moS} {kc ks : Nat} {Rt : pmR} {p1 : Int32} {p2 : Int64} {p4 : Int64} (hw : mW C R base m q t kc ks) (h : M_sayAddress t p1 p2 p4 = (some tz)) (k : ∀ (q' : Nat → Nat) (kc' ks' : Nat), mW C R base m q' tz kc' ks' → Rt none (moM R m q' tz) kc' ks') : kP_Mo_sayAddress base sa [.ref m, .int p1, .long p2, .long p4] (moM R m q t) kc ks Rt := by
  refine ⟨Nat.le_of_ble_eq_true rfl, fun G hG => ?_⟩
  have b7 : ∀ (n : Nat) (a6 : Int32) (q : Nat → Nat) (t : moS) (kc ks : Nat), JJ C R base m G 7 [(0, .ref m), (2, .long p2), (6, .int a6)] [] q t kc ks (lpN (fun x => M_sayAddress_s7 x.2 p2 x.1) n (a6, t)) (some tz) := by
    intro n
    induction n with
    | zero => intro a6 q t kc ks; exact jj_lp0
    | succ n ih7 =>
      intro a6 q t kc ks
      refine jj_lpS (fun y7 c7 => ?_)
      have b24 : ∀ (a6 : Int32) (q : Nat → Nat) (t : moS) (kc ks : Nat), JJ C R base m G 24 [(0, .ref m), (2, .long p2), (6, .int a6)] [] q t kc ks (M_sayAddress_b24 t p2 a6) (some y7) := by
        intro a6 q t kc ks
        refine jjs hG rfl rfl ?_
        refine jjs hG rfl rfl ?_
        refine jj_bi hG rfl cc_b56 ?_
        refine jj_bi hG rfl cc_b8 ?_
        refine jjs hG rfl rfl ?_
        refine jjs hG rfl rfl ?_
        refine jjs hG rfl rfl ?_
        refine jjs hG rfl rfl ?_
        refine jj_l2 hG (v := (255 : Int64)) rfl rfl ?_
        refine jjs hG rfl rfl ?_
        refine jjs hG rfl rfl ?_
        refine jj_cvA hG 0 rfl rfl (Nat.le_of_ble_eq_true rfl) (by decide) (Nat.le_of_ble_eq_true rfl) rfl (st' := []) rfl (fun _ _ hw h k => pm_rcv_of moM_m (k_sayNumber base sa hw h k)) (fun s1 q kc ks => ?_)
        refine jj_inc hG rfl (Nat.le_of_ble_eq_true rfl) rfl cc_i1 ?_
        refine jj_go hG (t := 7) rfl rfl ?_
        exact jj_back c7 (jj_wl hG [1, 2, 0] rfl (ih7 _ _ _ _ _))
      refine (show JJ C R base m G 7 [(0, .ref m), (2, .long p2), (6, .int a6)] [] q t kc ks (M_sayAddress_s7 t p2 a6) (some y7) from ?_)
      refine jjs hG rfl rfl ?_
      refine jj_ic hG rfl cc_i4 ?_
      refine jj_ige hG (t := 49) rfl rfl ?_ ?_
      · refine jj_exit c7 ?_
        exact jj_rvS hG rfl rfl (k _ _ _)
      refine jjs hG rfl rfl ?_
      refine jj_zle hG (t := 24) rfl rfl ?_ ?_
      · exact jj_wl hG [0, 1, 2] rfl (b24 _ _ _ _ _)
      refine jjs hG rfl rfl ?_
      refine jj_bi hG rfl cc_b46 ?_
      refine jj_cvA hG 0 rfl rfl (Nat.le_of_ble_eq_true rfl) (by decide) (Nat.le_of_ble_eq_true rfl) rfl (st' := []) rfl (fun _ _ hw h k => pm_rcv_of moM_m (k_say base sa hw h k)) (fun s1 q kc ks => ?_)
      exact jj_wl hG [0, 1, 2] rfl (b24 _ _ _ _ _)
  have b186 : ∀ (a6 : Int32) (a7 : Int32) (a8 : Int32) (n : Nat) (a9 : Int32) (q : Nat → Nat) (t : moS) (kc ks : Nat), JJ C R base m G 186 [(0, .ref m), (6, .int a6), (7, .int a7), (8, .int a8), (9, .int a9)] [] q t kc ks (lpN (fun x => M_sayAddress_s186 x.2 a6 a7 a8 x.1) n (a9, t)) (some tz) := by
    intro a6 a7 a8 n
    induction n with
    | zero => intro a9 q t kc ks; exact jj_lp0
    | succ n ih186 =>
      intro a9 q t kc ks
      refine jj_lpS (fun y186 c186 => ?_)
      have b339 : ∀ (a9 : Int32) (q : Nat → Nat) (t : moS) (kc ks : Nat), JJ C R base m G 339 [(0, .ref m), (6, .int a6), (7, .int a7), (8, .int a8), (9, .int a9)] [] q t kc ks (M_sayAddress_b339 t a6 a7 a8 a9) (some y186) := by
        intro a9 q t kc ks
        refine jj_inc hG rfl (Nat.le_of_ble_eq_true rfl) rfl cc_i1 ?_
        refine jj_go hG (t := 186) rfl rfl ?_
        exact jj_back c186 (jj_wl hG [1, 2, 3, 4, 0] rfl (ih186 _ _ _ _ _))
      have b228 : ∀ (a9 : Int32) (q : Nat → Nat) (t : moS) (kc ks : Nat), JJ C R base m G 228 [(0, .ref m), (6, .int a6), (7, .int a7), (8, .int a8), (9, .int a9)] [] q t kc ks (M_sayAddress_b228 t a6 a7 a8 a9) (some y186) := by
        intro a9 q t kc ks
        refine jjs hG rfl rfl ?_
        refine jjs hG rfl rfl ?_
        refine jj_ine hG (t := 339) rfl rfl ?_ ?_
        · exact jj_wl hG [0, 1, 2, 3, 4] rfl (b339 _ _ _ _ _)
        refine jjs hG rfl rfl ?_
        refine jj_bi hG rfl cc_b58 ?_
        refine jj_cvA hG 0 rfl rfl (Nat.le_of_ble_eq_true rfl) (by decide) (Nat.le_of_ble_eq_true rfl) rfl (st' := []) rfl (fun _ _ hw h k => pm_rcv_of moM_m (k_say base sa hw h k)) (fun s1 q kc ks => ?_)
        refine jj_go hG (t := 339) rfl rfl ?_
        exact jj_wl hG [0, 1, 2, 3, 4] rfl (b339 _ _ _ _ _)
      have b277 : ∀ (a9 : Int32) (n : Nat) (a10 : Int32) (a11 : Int32) (q : Nat → Nat) (t : moS) (kc ks : Nat), JJ C R base m G 277 [(0, .ref m), (6, .int a6), (7, .int a7), (8, .int a8), (9, .int a9), (10, .int a10), (11, .int a11)] [] q t kc ks (lpN (fun x => M_sayAddress_s277 x.2.2 a6 a7 a8 a9 x.1 x.2.1) n (a10, a11, t)) (some y186) := by
        intro a9 n
        induction n with
        | zero => intro a10 a11 q t kc ks; exact jj_lp0
        | succ n ih277 =>
          intro a10 a11 q t kc ks
          refine jj_lpS (fun y277 c277 => ?_)
          have b333 : ∀ (a10 : Int32) (a11 : Int32) (q : Nat → Nat) (t : moS) (kc ks : Nat), JJ C R base m G 333 [(0, .ref m), (6, .int a6), (7, .int a7), (8, .int a8), (9, .int a9), (10, .int a10), (11, .int a11)] [] q t kc ks (M_sayAddress_b333 t a6 a7 a8 a9 a10 a11) (some y277) := by
            intro a10 a11 q t kc ks
            refine jj_inc hG rfl (Nat.le_of_ble_eq_true rfl) rfl cc_im4 ?_
            refine jj_go hG (t := 277) rfl rfl ?_
            exact jj_back c277 (jj_wl hG [1, 2, 3, 4, 5, 6, 0] rfl (ih277 _ _ _ _ _ _))
          have b317 : ∀ (a11 : Int32) (a12 : Int32) (u0 : Int32) (q : Nat → Nat) (t : moS) (kc ks : Nat), JJ C R base m G 317 [(0, .ref m), (6, .int a6), (7, .int a7), (8, .int a8), (9, .int a9), (11, .int a11), (12, .int a12)] [.int u0] q t kc ks (M_sayAddress_b317 t a6 a7 a8 a9 a11 a12 u0) (some y277) := by
            intro a11 a12 u0 q t kc ks
            refine jjc hG rfl rfl (Nat.le_of_ble_eq_true rfl) ?_
            refine jjs hG rfl rfl ?_
            refine jj_zeq hG (t := 333) rfl rfl ?_ ?_
            · exact jj_wl hG [1, 2, 3, 4, 5, 0, 6] rfl (b333 _ _ _ _ _ _)
            refine jjs hG rfl rfl ?_
            refine jjs hG rfl rfl ?_
            refine jj_ct hG 2 rfl rfl (Nat.le_of_ble_eq_true rfl) (by decide) (Nat.le_of_ble_eq_true rfl) rfl (st' := [.ref m]) rfl (v := .int (M_hexadecimalDigit a12)) (fun _ hw k => k_hexadecimalDigit base sa hw rfl k) ?_
            refine jj_cvA hG 0 rfl rfl (Nat.le_of_ble_eq_true rfl) (by decide) (Nat.le_of_ble_eq_true rfl) rfl (st' := []) rfl (fun _ _ hw h k => pm_rcv_of moM_m (k_say base sa hw h k)) (fun s1 q kc ks => ?_)
            exact jj_wl hG [1, 2, 3, 4, 5, 0, 6] rfl (b333 _ _ _ _ _ _)
          have b312 : ∀ (a11 : Int32) (a12 : Int32) (q : Nat → Nat) (t : moS) (kc ks : Nat), JJ C R base m G 312 [(0, .ref m), (6, .int a6), (7, .int a7), (8, .int a8), (9, .int a9), (11, .int a11), (12, .int a12)] [] q t kc ks (M_sayAddress_b312 t a6 a7 a8 a9 a11 a12) (some y277) := by
            intro a11 a12 q t kc ks
            refine jj_ic hG rfl cc_i1 ?_
            refine jj_go hG (t := 317) rfl rfl ?_
            exact jj_wl hG [0, 1, 2, 3, 4, 5, 6] rfl (b317 _ _ _ _ _ _ _)
          refine (show JJ C R base m G 277 [(0, .ref m), (6, .int a6), (7, .int a7), (8, .int a8), (9, .int a9), (10, .int a10), (11, .int a11)] [] q t kc ks (M_sayAddress_s277 t a6 a7 a8 a9 a10 a11) (some y277) from ?_)
          refine jjs hG rfl rfl ?_
          refine jj_zlt hG (t := 339) rfl rfl ?_ ?_
          · refine jj_exit c277 ?_
            exact jj_wl hG [0, 1, 2, 3, 4] rfl (b339 _ _ _ _ _)
          refine jjs hG rfl rfl ?_
          refine jj_gr hG (k := 16) rfl rfl rfl rfl ?_
          refine jjs hG rfl rfl ?_
          refine jj_ia hG (k := 16) rfl rfl rfl (fun x1 => ?_)
          refine jjs hG rfl rfl ?_
          refine jjs hG rfl rfl ?_
          refine jj_bi hG rfl cc_b15 ?_
          refine jjs hG rfl rfl ?_
          refine jjc hG rfl rfl (Nat.le_of_ble_eq_true rfl) ?_
          refine jjs hG rfl rfl ?_
          refine jj_zne hG (t := 312) rfl rfl ?_ ?_
          · exact jj_wl hG [1, 2, 3, 4, 5, 7, 0] rfl (b312 _ _ _ _ _ _)
          refine jjs hG rfl rfl ?_
          refine jj_zgt hG (t := 312) rfl rfl ?_ ?_
          · exact jj_wl hG [1, 2, 3, 4, 5, 7, 0] rfl (b312 _ _ _ _ _ _)
          refine jjs hG rfl rfl ?_
          refine jj_zne hG (t := 316) rfl rfl ?_ ?_
          · refine jj_ic hG rfl cc_i0 ?_
            exact jj_wl hG [1, 2, 3, 4, 5, 7, 0] rfl (b317 _ _ _ _ _ _ _)
          exact jj_wl hG [1, 2, 3, 4, 5, 7, 0] rfl (b312 _ _ _ _ _ _)
      have b270 : ∀ (a9 : Int32) (q : Nat → Nat) (t : moS) (kc ks : Nat), JJ C R base m G 270 [(0, .ref m), (6, .int a6), (7, .int a7), (8, .int a8), (9, .int a9)] [] q t kc ks (M_sayAddress_b270 t a6 a7 a8 a9) (some y186) := by
        intro a9 q t kc ks
        refine jj_ic hG rfl cc_i0 ?_
        refine jjc hG rfl rfl (Nat.le_of_ble_eq_true rfl) ?_
        refine jj_bi hG rfl cc_b12 ?_
        refine jjc hG rfl rfl (Nat.le_of_ble_eq_true rfl) ?_
        refine jj_lp (fun n => ?_)
        exact jj_wl hG [2, 3, 4, 5, 6, 1, 0] rfl (b277 _ n _ _ _ _ _ _)
      have b264 : ∀ (a9 : Int32) (q : Nat → Nat) (t : moS) (kc ks : Nat), JJ C R base m G 264 [(0, .ref m), (6, .int a6), (7, .int a7), (8, .int a8), (9, .int a9)] [] q t kc ks (M_sayAddress_b264 t a6 a7 a8 a9) (some y186) := by
        intro a9 q t kc ks
        refine jjs hG rfl rfl ?_
        refine jj_bi hG rfl cc_b58 ?_
        refine jj_cvA hG 0 rfl rfl (Nat.le_of_ble_eq_true rfl) (by decide) (Nat.le_of_ble_eq_true rfl) rfl (st' := []) rfl (fun _ _ hw h k => pm_rcv_of moM_m (k_say base sa hw h k)) (fun s1 q kc ks => ?_)
        exact jj_wl hG [0, 1, 2, 3, 4] rfl (b270 _ _ _ _ _)
      have b244 : ∀ (a9 : Int32) (q : Nat → Nat) (t : moS) (kc ks : Nat), JJ C R base m G 244 [(0, .ref m), (6, .int a6), (7, .int a7), (8, .int a8), (9, .int a9)] [] q t kc ks (M_sayAddress_b244 t a6 a7 a8 a9) (some y186) := by
        intro a9 q t kc ks
        refine jjs hG rfl rfl ?_
        refine jj_zle hG (t := 270) rfl rfl ?_ ?_
        · exact jj_wl hG [0, 1, 2, 3, 4] rfl (b270 _ _ _ _ _)
        refine jjs hG rfl rfl ?_
        refine jj_zeq hG (t := 264) rfl rfl ?_ ?_
        · exact jj_wl hG [0, 1, 2, 3, 4] rfl (b264 _ _ _ _ _)
        refine jjs hG rfl rfl ?_
        refine jjs hG rfl rfl ?_
        refine jjs hG rfl rfl ?_
        refine jjs hG rfl rfl ?_
        refine jj_ieq hG (t := 270) rfl rfl ?_ ?_
        · exact jj_wl hG [0, 1, 2, 3, 4] rfl (b270 _ _ _ _ _)
        exact jj_wl hG [0, 1, 2, 3, 4] rfl (b264 _ _ _ _ _)
      refine (show JJ C R base m G 186 [(0, .ref m), (6, .int a6), (7, .int a7), (8, .int a8), (9, .int a9)] [] q t kc ks (M_sayAddress_s186 t a6 a7 a8 a9) (some y186) from ?_)
      refine jjs hG rfl rfl ?_
      refine jj_bi hG rfl cc_b8 ?_
      refine jj_ige hG (t := 345) rfl rfl ?_ ?_
      · refine jj_exit c186 ?_
        exact jj_rvS hG rfl rfl (k _ _ _)
      refine jjs hG rfl rfl ?_
      refine jj_zeq hG (t := 244) rfl rfl ?_ ?_
      · exact jj_wl hG [0, 1, 2, 3, 4] rfl (b244 _ _ _ _ _)
      refine jjs hG rfl rfl ?_
      refine jjs hG rfl rfl ?_
      refine jj_ilt hG (t := 244) rfl rfl ?_ ?_
      · exact jj_wl hG [0, 1, 2, 3, 4] rfl (b244 _ _ _ _ _)
      refine jjs hG rfl rfl ?_
      refine jjs hG rfl rfl ?_
      refine jjs hG rfl rfl ?_
      refine jjs hG rfl rfl ?_
      refine jj_ige hG (t := 244) rfl rfl ?_ ?_
      · exact jj_wl hG [0, 1, 2, 3, 4] rfl (b244 _ _ _ _ _)
      refine jjs hG rfl rfl ?_
      refine jjs hG rfl rfl ?_
      refine jj_ine hG (t := 228) rfl rfl ?_ ?_
      · exact jj_wl hG [0, 1, 2, 3, 4] rfl (b228 _ _ _ _ _)
      refine jjs hG rfl rfl ?_
      refine jj_bi hG rfl cc_b58 ?_
      refine jj_cvA hG 0 rfl rfl (Nat.le_of_ble_eq_true rfl) (by decide) (Nat.le_of_ble_eq_true rfl) rfl (st' := []) rfl (fun _ _ hw h k => pm_rcv_of moM_m (k_say base sa hw h k)) (fun s1 q kc ks => ?_)
      exact jj_wl hG [0, 1, 2, 3, 4] rfl (b228 _ _ _ _ _)
  have b181 : ∀ (a6 : Int32) (a7 : Int32) (u0 : Int32) (q : Nat → Nat) (t : moS) (kc ks : Nat), JJ C R base m G 181 [(0, .ref m), (6, .int a6), (7, .int a7)] [.int u0] q t kc ks (M_sayAddress_b181 t a6 a7 u0) (some tz) := by
    intro a6 a7 u0 q t kc ks
    refine jjc hG rfl rfl (Nat.le_of_ble_eq_true rfl) ?_
    refine jj_ic hG rfl cc_i0 ?_
    refine jjc hG rfl rfl (Nat.le_of_ble_eq_true rfl) ?_
    refine jj_lp (fun n => ?_)
    exact jj_wl hG [2, 3, 4, 1, 0] rfl (b186 _ _ _ n _ _ _ _ _)
  have b110 : ∀ (n : Nat) (a6 : Int32) (a7 : Int32) (a8 : Int32) (q : Nat → Nat) (t : moS) (kc ks : Nat), JJ C R base m G 110 [(0, .ref m), (6, .int a6), (7, .int a7), (8, .int a8)] [] q t kc ks (lpN (fun x => M_sayAddress_s110 x.2.2.2 x.1 x.2.1 x.2.2.1) n (a6, a7, a8, t)) (some tz) := by
    intro n
    induction n with
    | zero => intro a6 a7 a8 q t kc ks; exact jj_lp0
    | succ n ih110 =>
      intro a6 a7 a8 q t kc ks
      refine jj_lpS (fun y110 c110 => ?_)
      have b164 : ∀ (a6 : Int32) (a7 : Int32) (a8 : Int32) (q : Nat → Nat) (t : moS) (kc ks : Nat), JJ C R base m G 164 [(0, .ref m), (6, .int a6), (7, .int a7), (8, .int a8)] [] q t kc ks (M_sayAddress_b164 t a6 a7 a8) (some y110) := by
        intro a6 a7 a8 q t kc ks
        refine jj_inc hG rfl (Nat.le_of_ble_eq_true rfl) rfl cc_i1 ?_
        refine jj_go hG (t := 110) rfl rfl ?_
        exact jj_back c110 (jj_wl hG [1, 2, 3, 0] rfl (ih110 _ _ _ _ _ _ _))
      have b149 : ∀ (a6 : Int32) (a7 : Int32) (a8 : Int32) (a9 : Int32) (q : Nat → Nat) (t : moS) (kc ks : Nat), JJ C R base m G 149 [(0, .ref m), (6, .int a6), (7, .int a7), (8, .int a8), (9, .int a9)] [] q t kc ks (M_sayAddress_b149 t a6 a7 a8 a9) (some y110) := by
        intro a6 a7 a8 a9 q t kc ks
        refine jjs hG rfl rfl ?_
        refine jjs hG rfl rfl ?_
        refine jj_ile hG (t := 164) rfl rfl ?_ ?_
        · exact jj_wl hG [0, 1, 2, 3] rfl (b164 _ _ _ _ _ _ _)
        refine jjs hG rfl rfl ?_
        refine jjc hG rfl rfl (Nat.le_of_ble_eq_true rfl) ?_
        refine jjs hG rfl rfl ?_
        refine jjc hG rfl rfl (Nat.le_of_ble_eq_true rfl) ?_
        exact jj_wl hG [2, 0, 1, 3] rfl (b164 _ _ _ _ _ _ _)
      have b120 : ∀ (a6 : Int32) (a7 : Int32) (a8 : Int32) (n : Nat) (a9 : Int32) (q : Nat → Nat) (t : moS) (kc ks : Nat), JJ C R base m G 120 [(0, .ref m), (6, .int a6), (7, .int a7), (8, .int a8), (9, .int a9)] [] q t kc ks (lpN (fun x => M_sayAddress_s120 x.2 a6 a7 a8 x.1) n (a9, t)) (some y110) := by
        intro a6 a7 a8 n
        induction n with
        | zero => intro a9 q t kc ks; exact jj_lp0
        | succ n ih120 =>
          intro a9 q t kc ks
          refine jj_lpS (fun y120 c120 => ?_)
          refine (show JJ C R base m G 120 [(0, .ref m), (6, .int a6), (7, .int a7), (8, .int a8), (9, .int a9)] [] q t kc ks (M_sayAddress_s120 t a6 a7 a8 a9) (some y120) from ?_)
          refine jjs hG rfl rfl ?_
          refine jjs hG rfl rfl ?_
          refine jjs hG rfl rfl ?_
          refine jj_bi hG rfl cc_b8 ?_
          refine jj_ige hG (t := 149) rfl rfl ?_ ?_
          · refine jj_exit c120 ?_
            exact jj_wl hG [0, 1, 2, 3, 4] rfl (b149 _ _ _ _ _ _ _ _)
          refine jjs hG rfl rfl ?_
          refine jj_gr hG (k := 16) rfl rfl rfl rfl ?_
          refine jjs hG rfl rfl ?_
          refine jjs hG rfl rfl ?_
          refine jjs hG rfl rfl ?_
          refine jj_ia hG (k := 16) rfl rfl rfl (fun x1 => ?_)
          refine jj_zne hG (t := 149) rfl rfl ?_ ?_
          · refine jj_exit c120 ?_
            exact jj_wl hG [0, 1, 2, 3, 4] rfl (b149 _ _ _ _ _ _ _ _)
          refine jj_inc hG rfl (Nat.le_of_ble_eq_true rfl) rfl cc_i1 ?_
          refine jj_go hG (t := 120) rfl rfl ?_
          exact jj_back c120 (jj_wl hG [1, 2, 3, 4, 0] rfl (ih120 _ _ _ _ _))
      refine (show JJ C R base m G 110 [(0, .ref m), (6, .int a6), (7, .int a7), (8, .int a8)] [] q t kc ks (M_sayAddress_s110 t a6 a7 a8) (some y110) from ?_)
      refine jjs hG rfl rfl ?_
      refine jj_bi hG rfl cc_b8 ?_
      refine jj_ige hG (t := 170) rfl rfl ?_ ?_
      · refine jj_exit c110 ?_
        refine jjs hG rfl rfl ?_
        refine jj_ic hG rfl cc_i1 ?_
        refine jj_ile hG (t := 180) rfl rfl ?_ ?_
        · refine jj_ic hG rfl cc_i0 ?_
          exact jj_wl hG [0, 1, 2] rfl (b181 _ _ _ _ _ _ _)
        refine jj_ic hG rfl cc_i1 ?_
        refine jj_go hG (t := 181) rfl rfl ?_
        exact jj_wl hG [0, 1, 2] rfl (b181 _ _ _ _ _ _ _)
      refine jj_ic hG rfl cc_i0 ?_
      refine jjc hG rfl rfl (Nat.le_of_ble_eq_true rfl) ?_
      refine jj_lp (fun n => ?_)
      exact jj_wl hG [1, 2, 3, 4, 0] rfl (b120 _ _ _ n _ _ _ _ _)
  have b53 : ∀ (n : Nat) (a6 : Int32) (q : Nat → Nat) (t : moS) (kc ks : Nat), JJ C R base m G 53 [(0, .ref m), (2, .long p2), (4, .long p4), (6, .int a6)] [] q t kc ks (lpN (fun x => M_sayAddress_s53 x.2 p2 p4 x.1) n (a6, t)) (some tz) := by
    intro n
    induction n with
    | zero => intro a6 q t kc ks; exact jj_lp0
    | succ n ih53 =>
      intro a6 q t kc ks
      refine jj_lpS (fun y53 c53 => ?_)
      have b78 : ∀ (a6 : Int32) (u1 : Int32) (u2 : Int64) (q : Nat → Nat) (t : moS) (kc ks : Nat), JJ C R base m G 78 [(0, .ref m), (2, .long p2), (4, .long p4), (6, .int a6)] [.long u2, .int u1, .ref (q 16)] q t kc ks (M_sayAddress_b78 t p2 p4 a6 u1 u2) (some y53) := by
        intro a6 u1 u2 q t kc ks
        refine jj_bi hG rfl cc_b48 ?_
        refine jj_bi hG rfl cc_b16 ?_
        refine jjs hG rfl rfl ?_
        refine jj_ic hG rfl cc_i4 ?_
        refine jjc hG rfl rfl (by decide) ?_
        refine jjs hG rfl rfl ?_
        refine jjs hG rfl rfl ?_
        refine jjs hG rfl rfl ?_
        refine jj_l2 hG (v := (65535 : Int64)) rfl rfl ?_
        refine jjs hG rfl rfl ?_
        refine jjs hG rfl rfl ?_
        refine jj_is hG (k := 16) rfl rfl rfl (fun s1 => ?_)
        refine jj_inc hG rfl (Nat.le_of_ble_eq_true rfl) rfl cc_i1 ?_
        refine jj_go hG (t := 53) rfl rfl ?_
        exact jj_back c53 (jj_wl hG [1, 2, 3, 0] rfl (ih53 _ _ _ _ _))
      refine (show JJ C R base m G 53 [(0, .ref m), (2, .long p2), (4, .long p4), (6, .int a6)] [] q t kc ks (M_sayAddress_s53 t p2 p4 a6) (some y53) from ?_)
      refine jjs hG rfl rfl ?_
      refine jj_bi hG rfl cc_b8 ?_
      refine jj_ige hG (t := 101) rfl rfl ?_ ?_
      · refine jj_exit c53 ?_
        refine jj_ic hG rfl cc_i0 ?_
        refine jjc hG rfl rfl (Nat.le_of_ble_eq_true rfl) ?_
        refine jj_ic hG rfl cc_i1 ?_
        refine jjc hG rfl rfl (Nat.le_of_ble_eq_true rfl) ?_
        refine jj_ic hG rfl cc_i0 ?_
        refine jjc hG rfl rfl (Nat.le_of_ble_eq_true rfl) ?_
        refine jj_lp (fun n => ?_)
        exact jj_wl hG [3, 2, 1, 0] rfl (b110 n _ _ _ _ _ _ _)
      refine jjs hG rfl rfl ?_
      refine jj_gr hG (k := 16) rfl rfl rfl rfl ?_
      refine jjs hG rfl rfl ?_
      refine jjs hG rfl rfl ?_
      refine jj_ic hG rfl cc_i4 ?_
      refine jj_ige hG (t := 76) rfl rfl ?_ ?_
      · refine jjs hG rfl rfl ?_
        exact jj_wl hG [0, 1, 2, 3] rfl (b78 _ _ _ _ _ _ _)
      refine jjs hG rfl rfl ?_
      refine jj_go hG (t := 78) rfl rfl ?_
      exact jj_wl hG [0, 1, 2, 3] rfl (b78 _ _ _ _ _ _ _)
  refine (show JJ C R base m G 0 [(0, .ref m), (1, .int p1), (2, .long p2), (4, .long p4)] [] q t kc ks (M_sayAddress t p1 p2 p4) (some tz) from ?_) hw h
  refine jjs hG rfl rfl ?_
  refine jj_zne hG (t := 50) rfl rfl ?_ ?_
  · refine jj_ic hG rfl cc_i0 ?_
    refine jjc hG rfl rfl (Nat.le_of_ble_eq_true rfl) ?_
    refine jj_lp (fun n => ?_)
    exact jj_wl hG [1, 3, 4, 0] rfl (b53 n _ _ _ _ _)
  refine jj_ic hG rfl cc_i0 ?_
  refine jjc hG rfl rfl (Nat.le_of_ble_eq_true rfl) ?_
  refine jj_lp (fun n => ?_)
  exact jj_wl hG [1, 3, 0] rfl (b7 n _ _ _ _ _)
noncomputable def M_sayPrefix (t : moS) (p1 : Int32) (p2 : Int64) (p4 : Int64) (p6 : Int32) : Option moS := Option.bind (M_sayAddress t p1 p2 p4) (fun s1 => (Option.bind (M_say s1 (47 : Int32)) (fun s2 => (Option.bind (M_sayNumber s2 p6) (fun s3 => ((some s3)))))))
set_option maxRecDepth 100000 in
set_option maxHeartbeats 4000000 in
theorem k_sayPrefix (base : Nat) (sa : Nat → Nat) {C : Nat × Nat} {R : pmM} {m : Nat} {q : Nat → Nat} {t tz : moS} {kc ks : Nat} {Rt : pmR} {p1 : Int32} {p2 : Int64} {p4 : Int64} {p6 : Int32} (hw : mW C R base m q t kc ks) (h : M_sayPrefix t p1 p2 p4 p6 = (some tz)) (k : ∀ (q' : Nat → Nat) (kc' ks' : Nat), mW C R base m q' tz kc' ks' → Rt none (moM R m q' tz) kc' ks') : kP_Mo_sayPrefix base sa [.ref m, .int p1, .long p2, .long p4, .int p6] (moM R m q t) kc ks Rt := by
  refine ⟨Nat.le_of_ble_eq_true rfl, fun G hG => ?_⟩
  refine (show JJ C R base m G 0 [(0, .ref m), (1, .int p1), (2, .long p2), (4, .long p4), (6, .int p6)] [] q t kc ks (M_sayPrefix t p1 p2 p4 p6) (some tz) from ?_) hw h
  refine jjs hG rfl rfl ?_
  refine jjs hG rfl rfl ?_
  refine jjs hG rfl rfl ?_
  refine jjs hG rfl rfl ?_
  refine jj_cvA hG 0 rfl rfl (Nat.le_of_ble_eq_true rfl) (by decide) (Nat.le_of_ble_eq_true rfl) rfl (st' := []) rfl (fun _ _ hw h k => pm_rcv_of moM_m (k_sayAddress base sa hw h k)) (fun s1 q kc ks => ?_)
  refine jjs hG rfl rfl ?_
  refine jj_bi hG rfl cc_b47 ?_
  refine jj_cvA hG 0 rfl rfl (Nat.le_of_ble_eq_true rfl) (by decide) (Nat.le_of_ble_eq_true rfl) rfl (st' := []) rfl (fun _ _ hw h k => pm_rcv_of moM_m (k_say base sa hw h k)) (fun s2 q kc ks => ?_)
  refine jjs hG rfl rfl ?_
  refine jjs hG rfl rfl ?_
  refine jj_cvA hG 0 rfl rfl (Nat.le_of_ble_eq_true rfl) (by decide) (Nat.le_of_ble_eq_true rfl) rfl (st' := []) rfl (fun _ _ hw h k => pm_rcv_of moM_m (k_sayNumber base sa hw h k)) (fun s3 q kc ks => ?_)
  exact jj_rvS hG rfl rfl (k _ _ _)
noncomputable def M_space (t : moS) : Option moS := Option.bind (M_say t (32 : Int32)) (fun s1 => ((some s1)))
set_option maxRecDepth 100000 in
set_option maxHeartbeats 4000000 in
theorem k_space (base : Nat) (sa : Nat → Nat) {C : Nat × Nat} {R : pmM} {m : Nat} {q : Nat → Nat} {t tz : moS} {kc ks : Nat} {Rt : pmR}  (hw : mW C R base m q t kc ks) (h : M_space t = (some tz)) (k : ∀ (q' : Nat → Nat) (kc' ks' : Nat), mW C R base m q' tz kc' ks' → Rt none (moM R m q' tz) kc' ks') : kP_Mo_space base sa [.ref m] (moM R m q t) kc ks Rt := by
  refine ⟨Nat.le_of_ble_eq_true rfl, fun G hG => ?_⟩
  refine (show JJ C R base m G 0 [(0, .ref m)] [] q t kc ks (M_space t) (some tz) from ?_) hw h
  refine jjs hG rfl rfl ?_
  refine jj_bi hG rfl cc_b32 ?_
  refine jj_cvA hG 0 rfl rfl (Nat.le_of_ble_eq_true rfl) (by decide) (Nat.le_of_ble_eq_true rfl) rfl (st' := []) rfl (fun _ _ hw h k => pm_rcv_of moM_m (k_say base sa hw h k)) (fun s1 q kc ks => ?_)
  exact jj_rvS hG rfl rfl (k _ _ _)
noncomputable def M_word (t : moS) (p1 : Int64) : Option moS := Option.bind (M_space t) (fun s1 => (Option.bind (M_sayName s1 p1) (fun s2 => ((some s2)))))
set_option maxRecDepth 100000 in
set_option maxHeartbeats 4000000 in
theorem k_word (base : Nat) (sa : Nat → Nat) {C : Nat × Nat} {R : pmM} {m : Nat} {q : Nat → Nat} {t tz : moS} {kc ks : Nat} {Rt : pmR} {p1 : Int64} (hw : mW C R base m q t kc ks) (h : M_word t p1 = (some tz)) (k : ∀ (q' : Nat → Nat) (kc' ks' : Nat), mW C R base m q' tz kc' ks' → Rt none (moM R m q' tz) kc' ks') : kP_Mo_word base sa [.ref m, .long p1] (moM R m q t) kc ks Rt := by
  refine ⟨Nat.le_of_ble_eq_true rfl, fun G hG => ?_⟩
  refine (show JJ C R base m G 0 [(0, .ref m), (1, .long p1)] [] q t kc ks (M_word t p1) (some tz) from ?_) hw h
  refine jjs hG rfl rfl ?_
  refine jj_cvA hG 0 rfl rfl (Nat.le_of_ble_eq_true rfl) (by decide) (Nat.le_of_ble_eq_true rfl) rfl (st' := []) rfl (fun _ _ hw h k => pm_rcv_of moM_m (k_space base sa hw h k)) (fun s1 q kc ks => ?_)
  refine jjs hG rfl rfl ?_
  refine jjs hG rfl rfl ?_
  refine jj_cvA hG 0 rfl rfl (Nat.le_of_ble_eq_true rfl) (by decide) (Nat.le_of_ble_eq_true rfl) rfl (st' := []) rfl (fun _ _ hw h k => pm_rcv_of moM_m (k_sayName base sa hw h k)) (fun s2 q kc ks => ?_)
  exact jj_rvS hG rfl rfl (k _ _ _)
noncomputable def M_wordNumber (t : moS) (p1 : Int32) : Option moS := Option.bind (M_space t) (fun s1 => (Option.bind (M_sayNumber s1 p1) (fun s2 => ((some s2)))))
set_option maxRecDepth 100000 in
set_option maxHeartbeats 4000000 in
theorem k_wordNumber (base : Nat) (sa : Nat → Nat) {C : Nat × Nat} {R : pmM} {m : Nat} {q : Nat → Nat} {t tz : moS} {kc ks : Nat} {Rt : pmR} {p1 : Int32} (hw : mW C R base m q t kc ks) (h : M_wordNumber t p1 = (some tz)) (k : ∀ (q' : Nat → Nat) (kc' ks' : Nat), mW C R base m q' tz kc' ks' → Rt none (moM R m q' tz) kc' ks') : kP_Mo_wordNumber base sa [.ref m, .int p1] (moM R m q t) kc ks Rt := by
  refine ⟨Nat.le_of_ble_eq_true rfl, fun G hG => ?_⟩
  refine (show JJ C R base m G 0 [(0, .ref m), (1, .int p1)] [] q t kc ks (M_wordNumber t p1) (some tz) from ?_) hw h
  refine jjs hG rfl rfl ?_
  refine jj_cvA hG 0 rfl rfl (Nat.le_of_ble_eq_true rfl) (by decide) (Nat.le_of_ble_eq_true rfl) rfl (st' := []) rfl (fun _ _ hw h k => pm_rcv_of moM_m (k_space base sa hw h k)) (fun s1 q kc ks => ?_)
  refine jjs hG rfl rfl ?_
  refine jjs hG rfl rfl ?_
  refine jj_cvA hG 0 rfl rfl (Nat.le_of_ble_eq_true rfl) (by decide) (Nat.le_of_ble_eq_true rfl) rfl (st' := []) rfl (fun _ _ hw h k => pm_rcv_of moM_m (k_sayNumber base sa hw h k)) (fun s2 q kc ks => ?_)
  exact jj_rvS hG rfl rfl (k _ _ _)
noncomputable def M_wordPrefix (t : moS) (p1 : Int32) (p2 : Int64) (p4 : Int64) (p6 : Int32) : Option moS := Option.bind (M_space t) (fun s1 => (Option.bind (M_sayPrefix s1 p1 p2 p4 p6) (fun s2 => ((some s2)))))
set_option maxRecDepth 100000 in
set_option maxHeartbeats 4000000 in
theorem k_wordPrefix (base : Nat) (sa : Nat → Nat) {C : Nat × Nat} {R : pmM} {m : Nat} {q : Nat → Nat} {t tz : moS} {kc ks : Nat} {Rt : pmR} {p1 : Int32} {p2 : Int64} {p4 : Int64} {p6 : Int32} (hw : mW C R base m q t kc ks) (h : M_wordPrefix t p1 p2 p4 p6 = (some tz)) (k : ∀ (q' : Nat → Nat) (kc' ks' : Nat), mW C R base m q' tz kc' ks' → Rt none (moM R m q' tz) kc' ks') : kP_Mo_wordPrefix base sa [.ref m, .int p1, .long p2, .long p4, .int p6] (moM R m q t) kc ks Rt := by
  refine ⟨Nat.le_of_ble_eq_true rfl, fun G hG => ?_⟩
  refine (show JJ C R base m G 0 [(0, .ref m), (1, .int p1), (2, .long p2), (4, .long p4), (6, .int p6)] [] q t kc ks (M_wordPrefix t p1 p2 p4 p6) (some tz) from ?_) hw h
  refine jjs hG rfl rfl ?_
  refine jj_cvA hG 0 rfl rfl (Nat.le_of_ble_eq_true rfl) (by decide) (Nat.le_of_ble_eq_true rfl) rfl (st' := []) rfl (fun _ _ hw h k => pm_rcv_of moM_m (k_space base sa hw h k)) (fun s1 q kc ks => ?_)
  refine jjs hG rfl rfl ?_
  refine jjs hG rfl rfl ?_
  refine jjs hG rfl rfl ?_
  refine jjs hG rfl rfl ?_
  refine jjs hG rfl rfl ?_
  refine jj_cvA hG 0 rfl rfl (Nat.le_of_ble_eq_true rfl) (by decide) (Nat.le_of_ble_eq_true rfl) rfl (st' := []) rfl (fun _ _ hw h k => pm_rcv_of moM_m (k_sayPrefix base sa hw h k)) (fun s2 q kc ks => ?_)
  exact jj_rvS hG rfl rfl (k _ _ _)
noncomputable def M_isRouter_b16 (t : moS) : Int32 := (0 : Int32)
noncomputable def M_isRouter (t : moS) (p1 : Int32) : Int32 := if p1 < 0 then ((M_isRouter_b16 t)) else (if p1 < (moS.S t 37) then ((1 : Int32)) else ((M_isRouter_b16 t)))
set_option maxRecDepth 100000 in
set_option maxHeartbeats 4000000 in
theorem k_isRouter (base : Nat) (sa : Nat → Nat) {C : Nat × Nat} {R : pmM} {m : Nat} {q : Nat → Nat} {t : moS} {kc ks : Nat} {Rt : pmR} {p1 : Int32} {r : Int32} (hw : mW C R base m q t kc ks) (h : M_isRouter t p1 = r) (k : Rt (some (.int r)) (moM R m q t) kc ks) : kP_Mo_isRouter base sa [.ref m, .int p1] (moM R m q t) kc ks Rt := by
  refine ⟨Nat.le_of_ble_eq_true rfl, fun G hG => ?_⟩
  have b16 : JJ C R base m G 16 [] [] q t kc ks (M_isRouter_b16 t) r := by
    refine jj_ic hG rfl cc_i0 ?_
    exact jj_rit hG rfl rfl rfl k
  refine (show JJ C R base m G 0 [(0, .ref m), (1, .int p1)] [] q t kc ks (M_isRouter t p1) r from ?_) hw h
  refine jjs hG rfl rfl ?_
  refine jj_zlt hG (t := 16) rfl rfl ?_ ?_
  · exact jj_wl hG [] rfl (b16)
  refine jjs hG rfl rfl ?_
  refine jjs hG rfl rfl ?_
  refine jj_gi hG (k := 37) rfl rfl rfl rfl ?_
  refine jj_ige hG (t := 16) rfl rfl ?_ ?_
  · exact jj_wl hG [] rfl (b16)
  refine jj_ic hG rfl cc_i1 ?_
  refine jj_go hG (t := 17) rfl rfl ?_
  exact jj_rit hG rfl rfl rfl k
