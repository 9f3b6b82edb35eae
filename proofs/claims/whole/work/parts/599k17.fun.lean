/-! The model as functions, by program: read .. remove -/
noncomputable def M_read_b96 (t : moS) (a1 : Int32) (a3 : Int32) : Option ((Int32 × Int32 × moS) ⊕ (Int32 × moS)) := (some (.inl (a1, (a3 + (1 : Int32)), t)))
noncomputable def M_read_b56 (t : moS) (a1 : Int32) (a2 : Int32) (a3 : Int32) : Option ((Int32 × Int32 × moS) ⊕ (Int32 × moS)) := Option.bind (M_part t a2 a3) (fun s1 => (if 0 < (moS.S s1 11) then (Option.bind (rdI s1 9 (0 : Int32)) (fun x2 => (Option.bind (rdI s1 2 x2) (fun x3 => (if x3 = (35 : Int32) then ((M_read_b96 s1 (a1 + (1 : Int32)) a3)) else (bn2 (M_line s1) (fun x5 s4 => (letS (moSS s4 4 x5) (fun s6 => ((M_read_b96 s6 (a1 + (1 : Int32)) a3))))))))))) else ((M_read_b96 s1 (a1 + (1 : Int32)) a3))))
noncomputable def M_read_s31 (t : moS) (a1 : Int32) (a2 : Int32) (a3 : Int32) : Option ((Int32 × moS) ⊕ ((Int32 × Int32 × moS) ⊕ (Int32 × moS))) := if a3 < (moS.S t 3) then (Option.bind (rdI t 2 a3) (fun x1 => (if x1 = (10 : Int32) then ((xo (M_read_b56 t a1 a2 a3))) else ((some (.inl ((a3 + (1 : Int32)), t))))))) else ((xo (M_read_b56 t a1 a2 a3)))
noncomputable def M_read_b31 (t : moS) (a1 : Int32) (a2 : Int32) (a3 : Int32) : Option ((Int32 × Int32 × moS) ⊕ (Int32 × moS)) := lp (fun x => M_read_s31 x.2 a1 a2 x.1) (a3, t)
noncomputable def M_read_b103 (t : moS) (a1 : Int32) : Option (Int32 × moS) := letS (moSS t 3 (0 : Int32)) (fun s1 => (if (moS.S s1 4) = 0 then ((some (a1, s1))) else ((some ((((-1) : Int32) - a1), s1)))))
noncomputable def M_read_s14 (t : moS) (a1 : Int32) (a2 : Int32) : Option ((Int32 × Int32 × moS) ⊕ (Int32 × moS)) := if a2 < (moS.S t 3) then (if (moS.S t 4) = 0 then ((M_read_b31 t a1 a2 a2)) else ((xo (M_read_b103 t a1)))) else ((xo (M_read_b103 t a1)))
noncomputable def M_read_b14 (t : moS) (a1 : Int32) (a2 : Int32) : Option (Int32 × moS) := lp (fun x => M_read_s14 x.2.2 x.1 x.2.1) (a1, a2, t)
noncomputable def M_read (t : moS) : Option (Int32 × moS) := letS (moSS t 0 (0 : Int32)) (fun s1 => (letS (moSS s1 4 (0 : Int32)) (fun s2 => ((M_read_b14 s2 (0 : Int32) (0 : Int32))))))
set_option maxRecDepth 100000 in
set_option maxHeartbeats 4000000 in
theorem k_read (base : Nat) (sa : Nat → Nat) {C : Nat × Nat} {R : pmM} {m : Nat} {q : Nat → Nat} {t tz : moS} {kc ks : Nat} {Rt : pmR}  {r : Int32} (hw : mW C R base m q t kc ks) (h : M_read t = (some (r, tz))) (k : mW C R base m q tz kc ks → Rt (some (.int r)) (moM R m q tz) kc ks) : kP_Mo_read base sa [.ref m] (moM R m q t) kc ks Rt := by
  refine ⟨Nat.le_of_ble_eq_true rfl, fun G hG => ?_⟩
  have b103 : ∀ (a1 : Int32) (t : moS), JJ C R base m G 103 [(0, .ref m), (1, .int a1)] [] q t kc ks (M_read_b103 t a1) (some (r, tz)) := by
    intro a1 t
    refine jjs hG rfl rfl ?_
    refine jj_ic hG rfl cc_i0 ?_
    refine jj_pi hG (k := 3) rfl rfl rfl rfl (fun s1 => ?_)
    refine jjs hG rfl rfl ?_
    refine jj_gi hG (k := 4) rfl rfl rfl rfl ?_
    refine jj_zne hG (t := 119) rfl rfl ?_ ?_
    · refine jj_ic hG rfl cc_im1 ?_
      refine jjs hG rfl rfl ?_
      refine jjs hG rfl rfl ?_
      exact jj_riS hG rfl rfl rfl k
    refine jjs hG rfl rfl ?_
    refine jj_go hG (t := 122) rfl rfl ?_
    exact jj_riS hG rfl rfl rfl k
  have b14 : ∀ (n : Nat) (a1 : Int32) (a2 : Int32) (t : moS), JJ C R base m G 14 [(0, .ref m), (1, .int a1), (2, .int a2)] [] q t kc ks (lpN (fun x => M_read_s14 x.2.2 x.1 x.2.1) n (a1, a2, t)) (some (r, tz)) := by
    intro n
    induction n with
    | zero => intro a1 a2 t; exact jj_lp0
    | succ n ih14 =>
      intro a1 a2 t
      refine jj_lpS (fun y14 c14 => ?_)
      have b96 : ∀ (a1 : Int32) (a3 : Int32) (t : moS), JJ C R base m G 96 [(0, .ref m), (1, .int a1), (3, .int a3)] [] q t kc ks (M_read_b96 t a1 a3) (some y14) := by
        intro a1 a3 t
        refine jjs hG rfl rfl ?_
        refine jj_ic hG rfl cc_i1 ?_
        refine jjs hG rfl rfl ?_
        refine jjc hG rfl rfl (Nat.le_of_ble_eq_true rfl) ?_
        refine jj_go hG (t := 14) rfl rfl ?_
        exact jj_back c14 (jj_wl hG [1, 2, 0] rfl (ih14 _ _ _))
      have b56 : ∀ (a1 : Int32) (a2 : Int32) (a3 : Int32) (t : moS), JJ C R base m G 56 [(0, .ref m), (1, .int a1), (2, .int a2), (3, .int a3)] [] q t kc ks (M_read_b56 t a1 a2 a3) (some y14) := by
        intro a1 a2 a3 t
        refine jj_inc hG rfl (Nat.le_of_ble_eq_true rfl) rfl cc_i1 ?_
        refine jjs hG rfl rfl ?_
        refine jjs hG rfl rfl ?_
        refine jjs hG rfl rfl ?_
        refine jj_cv hG 0 rfl rfl (Nat.le_of_ble_eq_true rfl) (by decide) (Nat.le_of_ble_eq_true rfl) rfl (st' := []) rfl (fun _ _ hw h k => pm_rcv_of moM_m (k_part base sa hw h k)) (fun s1 => ?_)
        refine jjs hG rfl rfl ?_
        refine jj_gi hG (k := 11) rfl rfl rfl rfl ?_
        refine jj_zle hG (t := 96) rfl rfl ?_ ?_
        · exact jj_wl hG [1, 0, 3] rfl (b96 _ _ _)
        refine jjs hG rfl rfl ?_
        refine jj_gr hG (k := 2) rfl rfl rfl rfl ?_
        refine jjs hG rfl rfl ?_
        refine jj_gr hG (k := 9) rfl rfl rfl rfl ?_
        refine jj_ic hG rfl cc_i0 ?_
        refine jj_ia hG (k := 9) rfl rfl rfl (fun x2 => ?_)
        refine jj_ia hG (k := 2) rfl rfl rfl (fun x3 => ?_)
        refine jj_bi hG rfl cc_b35 ?_
        refine jj_ieq hG (t := 96) rfl rfl ?_ ?_
        · exact jj_wl hG [1, 0, 3] rfl (b96 _ _ _)
        refine jjs hG rfl rfl ?_
        refine jjs hG rfl rfl ?_
        refine jj_cs hG 0 rfl rfl (Nat.le_of_ble_eq_true rfl) (by decide) (Nat.le_of_ble_eq_true rfl) rfl (st' := [.ref m]) rfl (w := .int) (fun _ _ _ hw h k => pm_rcv_of moM_m (k_line base sa hw h k)) (fun x5 s4 => ?_)
        refine jj_pi hG (k := 4) rfl rfl rfl rfl (fun s6 => ?_)
        exact jj_wl hG [1, 0, 3] rfl (b96 _ _ _)
      have b31 : ∀ (a1 : Int32) (a2 : Int32) (n : Nat) (a3 : Int32) (t : moS), JJ C R base m G 31 [(0, .ref m), (1, .int a1), (2, .int a2), (3, .int a3)] [] q t kc ks (lpN (fun x => M_read_s31 x.2 a1 a2 x.1) n (a3, t)) (some y14) := by
        intro a1 a2 n
        induction n with
        | zero => intro a3 t; exact jj_lp0
        | succ n ih31 =>
          intro a3 t
          refine jj_lpS (fun y31 c31 => ?_)
          refine (show JJ C R base m G 31 [(0, .ref m), (1, .int a1), (2, .int a2), (3, .int a3)] [] q t kc ks (M_read_s31 t a1 a2 a3) (some y31) from ?_)
          refine jjs hG rfl rfl ?_
          refine jjs hG rfl rfl ?_
          refine jj_gi hG (k := 3) rfl rfl rfl rfl ?_
          refine jj_ige hG (t := 56) rfl rfl ?_ ?_
          · refine jj_exit c31 ?_
            exact jj_wl hG [0, 1, 2, 3] rfl (b56 _ _ _ _)
          refine jjs hG rfl rfl ?_
          refine jj_gr hG (k := 2) rfl rfl rfl rfl ?_
          refine jjs hG rfl rfl ?_
          refine jj_ia hG (k := 2) rfl rfl rfl (fun x1 => ?_)
          refine jj_bi hG rfl cc_b10 ?_
          refine jj_ieq hG (t := 56) rfl rfl ?_ ?_
          · refine jj_exit c31 ?_
            exact jj_wl hG [0, 1, 2, 3] rfl (b56 _ _ _ _)
          refine jj_inc hG rfl (Nat.le_of_ble_eq_true rfl) rfl cc_i1 ?_
          refine jj_go hG (t := 31) rfl rfl ?_
          exact jj_back c31 (jj_wl hG [1, 2, 3, 0] rfl (ih31 _ _))
      refine (show JJ C R base m G 14 [(0, .ref m), (1, .int a1), (2, .int a2)] [] q t kc ks (M_read_s14 t a1 a2) (some y14) from ?_)
      refine jjs hG rfl rfl ?_
      refine jjs hG rfl rfl ?_
      refine jj_gi hG (k := 3) rfl rfl rfl rfl ?_
      refine jj_ige hG (t := 103) rfl rfl ?_ ?_
      · refine jj_exit c14 ?_
        exact jj_wl hG [0, 1] rfl (b103 _ _)
      refine jjs hG rfl rfl ?_
      refine jj_gi hG (k := 4) rfl rfl rfl rfl ?_
      refine jj_zne hG (t := 103) rfl rfl ?_ ?_
      · refine jj_exit c14 ?_
        exact jj_wl hG [0, 1] rfl (b103 _ _)
      refine jjs hG rfl rfl ?_
      refine jjc hG rfl rfl (Nat.le_of_ble_eq_true rfl) ?_
      refine jj_lp (fun n => ?_)
      exact jj_wl hG [1, 2, 3, 0] rfl (b31 _ _ n _ _)
  refine (show JJ C R base m G 0 [(0, .ref m)] [] q t kc ks (M_read t) (some (r, tz)) from ?_) hw h
  refine jjs hG rfl rfl ?_
  refine jj_ic hG rfl cc_i0 ?_
  refine jj_pi hG (k := 0) rfl rfl rfl rfl (fun s1 => ?_)
  refine jjs hG rfl rfl ?_
  refine jj_ic hG rfl cc_i0 ?_
  refine jj_pi hG (k := 4) rfl rfl rfl rfl (fun s2 => ?_)
  refine jj_ic hG rfl cc_i0 ?_
  refine jjc hG rfl rfl (Nat.le_of_ble_eq_true rfl) ?_
  refine jj_ic hG rfl cc_i0 ?_
  refine jjc hG rfl rfl (Nat.le_of_ble_eq_true rfl) ?_
  refine jj_lp (fun n => ?_)
  exact jj_wl hG [2, 1, 0] rfl (b14 n _ _ _)
noncomputable def M_filterAllows_b88 (t : moS) (p1 : Int32) (p2 : Int32) (p3 : Int32) (p4 : Int64) (p6 : Int64) (p8 : Int32) (a9 : Int32) : Option ((Int32) ⊕ Int32) := (some (.inl ((a9 + (1 : Int32)))))
noncomputable def M_filterAllows_s11 (t : moS) (p1 : Int32) (p2 : Int32) (p3 : Int32) (p4 : Int64) (p6 : Int64) (p8 : Int32) (a9 : Int32) : Option ((Int32) ⊕ Int32) := Option.bind (rdI t 53 (((2 : Int32) * p1) + p2)) (fun x1 => (if a9 < ((((64 : Int32) * p1) + ((32 : Int32) * p2)) + x1) then (Option.bind (rdI t 54 a9) (fun x2 => (if x2 = p3 then (Option.bind (rdJ t 55 a9) (fun x3 => (Option.bind (rdJ t 56 a9) (fun x4 => (Option.bind (rdI t 57 a9) (fun x5 => (if (M_coversPrefix x3 x4 x5 p4 p6 p8) = 0 then ((M_filterAllows_b88 t p1 p2 p3 p4 p6 p8 a9)) else ((xo (Option.bind (rdI t 58 a9) (fun x6 => ((okZ x6 (some x6)))))))))))))) else ((M_filterAllows_b88 t p1 p2 p3 p4 p6 p8 a9))))) else ((xo ((some (1 : Int32)))))))
noncomputable def M_filterAllows_b11 (t : moS) (p1 : Int32) (p2 : Int32) (p3 : Int32) (p4 : Int64) (p6 : Int64) (p8 : Int32) (a9 : Int32) : Option Int32 := lp (fun x => M_filterAllows_s11 t p1 p2 p3 p4 p6 p8 x) (a9)
noncomputable def M_filterAllows (t : moS) (p1 : Int32) (p2 : Int32) (p3 : Int32) (p4 : Int64) (p6 : Int64) (p8 : Int32) : Option Int32 := (M_filterAllows_b11 t p1 p2 p3 p4 p6 p8 (((64 : Int32) * p1) + ((32 : Int32) * p2)))
set_option maxRecDepth 100000 in
set_option maxHeartbeats 4000000 in
theorem k_filterAllows (base : Nat) (sa : Nat → Nat) {C : Nat × Nat} {R : pmM} {m : Nat} {q : Nat → Nat} {t : moS} {kc ks : Nat} {Rt : pmR} {p1 : Int32} {p2 : Int32} {p3 : Int32} {p4 : Int64} {p6 : Int64} {p8 : Int32} {r : Int32} (hw : mW C R base m q t kc ks) (h : M_filterAllows t p1 p2 p3 p4 p6 p8 = (some r)) (k : Rt (some (.int r)) (moM R m q t) kc ks) : kP_Mo_filterAllows base sa [.ref m, .int p1, .int p2, .int p3, .long p4, .long p6, .int p8] (moM R m q t) kc ks Rt := by
  refine ⟨Nat.le_of_ble_eq_true rfl, fun G hG => ?_⟩
  have b11 : ∀ (n : Nat) (a9 : Int32), JJ C R base m G 11 [(0, .ref m), (1, .int p1), (2, .int p2), (3, .int p3), (4, .long p4), (6, .long p6), (8, .int p8), (9, .int a9)] [] q t kc ks (lpN (fun x => M_filterAllows_s11 t p1 p2 p3 p4 p6 p8 x) n (a9)) (some r) := by
    intro n
    induction n with
    | zero => intro a9; exact jj_lp0
    | succ n ih11 =>
      intro a9
      refine jj_lpS (fun y11 c11 => ?_)
      have b88 : ∀ (a9 : Int32), JJ C R base m G 88 [(0, .ref m), (1, .int p1), (2, .int p2), (3, .int p3), (4, .long p4), (6, .long p6), (8, .int p8), (9, .int a9)] [] q t kc ks (M_filterAllows_b88 t p1 p2 p3 p4 p6 p8 a9) (some y11) := by
        intro a9
        refine jj_inc hG rfl (Nat.le_of_ble_eq_true rfl) rfl cc_i1 ?_
        refine jj_go hG (t := 11) rfl rfl ?_
        exact jj_back c11 (jj_wl hG [1, 2, 3, 4, 5, 6, 7, 0] rfl (ih11 _))
      refine (show JJ C R base m G 11 [(0, .ref m), (1, .int p1), (2, .int p2), (3, .int p3), (4, .long p4), (6, .long p6), (8, .int p8), (9, .int a9)] [] q t kc ks (M_filterAllows_s11 t p1 p2 p3 p4 p6 p8 a9) (some y11) from ?_)
      refine jjs hG rfl rfl ?_
      refine jj_bi hG rfl cc_b64 ?_
      refine jjs hG rfl rfl ?_
      refine jjs hG rfl rfl ?_
      refine jj_bi hG rfl cc_b32 ?_
      refine jjs hG rfl rfl ?_
      refine jjs hG rfl rfl ?_
      refine jjs hG rfl rfl ?_
      refine jjs hG rfl rfl ?_
      refine jj_gr hG (k := 53) rfl rfl rfl rfl ?_
      refine jj_ic hG rfl cc_i2 ?_
      refine jjs hG rfl rfl ?_
      refine jj_at (pc' := 28) rfl ?_
      refine jjs hG rfl rfl ?_
      refine jjs hG rfl rfl ?_
      refine jjs hG rfl rfl ?_
      refine jj_ia hG (k := 53) rfl rfl rfl (fun x1 => ?_)
      refine jjs hG rfl rfl ?_
      refine jj_ige hG (t := 94) rfl rfl ?_ ?_
      · refine jj_exit c11 ?_
        refine jj_ic hG rfl cc_i1 ?_
        exact jj_ri hG rfl rfl rfl k
      refine jjs hG rfl rfl ?_
      refine jj_gr hG (k := 54) rfl rfl rfl rfl ?_
      refine jjs hG rfl rfl ?_
      refine jj_ia hG (k := 54) rfl rfl rfl (fun x2 => ?_)
      refine jjs hG rfl rfl ?_
      refine jj_ine hG (t := 88) rfl rfl ?_ ?_
      · exact jj_wl hG [0, 1, 2, 3, 4, 5, 6, 7] rfl (b88 _)
      refine jjs hG rfl rfl ?_
      refine jj_gr hG (k := 55) rfl rfl rfl rfl ?_
      refine jjs hG rfl rfl ?_
      refine jj_la hG (k := 55) rfl rfl rfl (fun x3 => ?_)
      refine jjs hG rfl rfl ?_
      refine jj_gr hG (k := 56) rfl rfl rfl rfl ?_
      refine jjs hG rfl rfl ?_
      refine jj_la hG (k := 56) rfl rfl rfl (fun x4 => ?_)
      refine jjs hG rfl rfl ?_
      refine jj_gr hG (k := 57) rfl rfl rfl rfl ?_
      refine jjs hG rfl rfl ?_
      refine jj_ia hG (k := 57) rfl rfl rfl (fun x5 => ?_)
      refine jjs hG rfl rfl ?_
      refine jjs hG rfl rfl ?_
      refine jjs hG rfl rfl ?_
      refine jj_ct hG 2 rfl rfl (Nat.le_of_ble_eq_true rfl) (by decide) (Nat.le_of_ble_eq_true rfl) rfl (st' := []) rfl (v := .int (M_coversPrefix x3 x4 x5 p4 p6 p8)) (fun _ hw k => k_coversPrefix base sa hw rfl k) ?_
      refine jj_zeq hG (t := 88) rfl rfl ?_ ?_
      · exact jj_wl hG [0, 1, 2, 3, 4, 5, 6, 7] rfl (b88 _)
      refine jj_exit c11 ?_
      refine jjs hG rfl rfl ?_
      refine jj_gr hG (k := 58) rfl rfl rfl rfl ?_
      refine jjs hG rfl rfl ?_
      refine jj_ba hG (k := 58) rfl rfl rfl (fun x6 => ?_)
      exact jj_rz hG rfl rfl k
  refine (show JJ C R base m G 0 [(0, .ref m), (1, .int p1), (2, .int p2), (3, .int p3), (4, .long p4), (6, .long p6), (8, .int p8)] [] q t kc ks (M_filterAllows t p1 p2 p3 p4 p6 p8) (some r) from ?_) hw h
  refine jj_bi hG rfl cc_b64 ?_
  refine jjs hG rfl rfl ?_
  refine jjs hG rfl rfl ?_
  refine jj_bi hG rfl cc_b32 ?_
  refine jjs hG rfl rfl ?_
  refine jjs hG rfl rfl ?_
  refine jjs hG rfl rfl ?_
  refine jjc hG rfl rfl (Nat.le_of_ble_eq_true rfl) ?_
  refine jj_lp (fun n => ?_)
  exact jj_wl hG [1, 2, 3, 4, 5, 6, 7, 0] rfl (b11 n _)
noncomputable def M_fits_b148 (t : moS) : Option Int32 := (some (0 : Int32))
noncomputable def M_fits_b128 (t : moS) (p7 : Int32) (a8 : Int32) (u0 : Int32) : Option Int32 := if p7 < a8 then ((M_fits_b148 t)) else (if u0 < p7 then ((M_fits_b148 t)) else ((some (1 : Int32))))
noncomputable def M_fits_b103 (t : moS) (p1 : Int32) (p2 : Int32) (p7 : Int32) (u0 : Int32) : Option Int32 := Option.bind (rdI t 36 p1) (fun x1 => (if x1 = ((-1) : Int32) then ((M_fits_b128 t p7 u0 (M_bitsOf p2))) else (Option.bind (rdI t 36 p1) (fun x2 => ((M_fits_b128 t p7 u0 x2))))))
noncomputable def M_fits_b78 (t : moS) (p1 : Int32) (p2 : Int32) (p7 : Int32) : Option Int32 := Option.bind (rdI t 35 p1) (fun x1 => (if x1 = ((-1) : Int32) then (Option.bind (rdI t 34 p1) (fun x3 => ((M_fits_b103 t p1 p2 p7 x3)))) else (Option.bind (rdI t 35 p1) (fun x2 => ((M_fits_b103 t p1 p2 p7 x2))))))
noncomputable def M_fits (t : moS) (p1 : Int32) (p2 : Int32) (p3 : Int64) (p5 : Int64) (p7 : Int32) : Option Int32 := Option.bind (rdI t 31 p1) (fun x1 => (if x1 = p2 then (Option.bind (rdJ t 32 p1) (fun x2 => (Option.bind (rdJ t 33 p1) (fun x3 => (Option.bind (rdI t 34 p1) (fun x4 => (if (M_coversPrefix x2 x3 x4 p3 p5 p7) = 0 then ((some (0 : Int32))) else (Option.bind (rdI t 35 p1) (fun x5 => (if x5 = ((-1) : Int32) then (Option.bind (rdI t 36 p1) (fun x6 => (if x6 = ((-1) : Int32) then (Option.bind (rdI t 34 p1) (fun x7 => (if p7 = x7 then ((some (1 : Int32))) else ((some (0 : Int32)))))) else ((M_fits_b78 t p1 p2 p7))))) else ((M_fits_b78 t p1 p2 p7)))))))))))) else ((some (0 : Int32)))))
set_option maxRecDepth 100000 in
set_option maxHeartbeats 4000000 in
theorem k_fits (base : Nat) (sa : Nat → Nat) {C : Nat × Nat} {R : pmM} {m : Nat} {q : Nat → Nat} {t : moS} {kc ks : Nat} {Rt : pmR} {p1 : Int32} {p2 : Int32} {p3 : Int64} {p5 : Int64} {p7 : Int32} {r : Int32} (hw : mW C R base m q t kc ks) (h : M_fits t p1 p2 p3 p5 p7 = (some r)) (k : Rt (some (.int r)) (moM R m q t) kc ks) : kP_Mo_fits base sa [.ref m, .int p1, .int p2, .long p3, .long p5, .int p7] (moM R m q t) kc ks Rt := by
  refine ⟨Nat.le_of_ble_eq_true rfl, fun G hG => ?_⟩
  have b148 : JJ C R base m G 148 [] [] q t kc ks (M_fits_b148 t) (some r) := by
    refine jj_ic hG rfl cc_i0 ?_
    exact jj_ri hG rfl rfl rfl k
  have b128 : ∀ (a8 : Int32) (u0 : Int32), JJ C R base m G 128 [(7, .int p7), (8, .int a8)] [.int u0] q t kc ks (M_fits_b128 t p7 a8 u0) (some r) := by
    intro a8 u0
    refine jjc hG rfl rfl (Nat.le_of_ble_eq_true rfl) ?_
    refine jjs hG rfl rfl ?_
    refine jjs hG rfl rfl ?_
    refine jj_ilt hG (t := 148) rfl rfl ?_ ?_
    · exact jj_wl hG [] rfl (b148)
    refine jjs hG rfl rfl ?_
    refine jjs hG rfl rfl ?_
    refine jj_igt hG (t := 148) rfl rfl ?_ ?_
    · exact jj_wl hG [] rfl (b148)
    refine jj_ic hG rfl cc_i1 ?_
    refine jj_go hG (t := 149) rfl rfl ?_
    exact jj_ri hG rfl rfl rfl k
  have b103 : ∀ (u0 : Int32), JJ C R base m G 103 [(0, .ref m), (1, .int p1), (2, .int p2), (7, .int p7)] [.int u0] q t kc ks (M_fits_b103 t p1 p2 p7 u0) (some r) := by
    intro u0
    refine jjc hG rfl rfl (Nat.le_of_ble_eq_true rfl) ?_
    refine jjs hG rfl rfl ?_
    refine jj_gr hG (k := 36) rfl rfl rfl rfl ?_
    refine jjs hG rfl rfl ?_
    refine jj_ia hG (k := 36) rfl rfl rfl (fun x1 => ?_)
    refine jj_ic hG rfl cc_im1 ?_
    refine jj_ine hG (t := 122) rfl rfl ?_ ?_
    · refine jjs hG rfl rfl ?_
      refine jj_gr hG (k := 36) rfl rfl rfl rfl ?_
      refine jjs hG rfl rfl ?_
      refine jj_ia hG (k := 36) rfl rfl rfl (fun x2 => ?_)
      exact jj_wl hG [4, 0] rfl (b128 _ _)
    refine jjs hG rfl rfl ?_
    refine jj_ct hG 2 rfl rfl (Nat.le_of_ble_eq_true rfl) (by decide) (Nat.le_of_ble_eq_true rfl) rfl (st' := []) rfl (v := .int (M_bitsOf p2)) (fun _ hw k => k_bitsOf base sa hw rfl k) ?_
    refine jj_go hG (t := 128) rfl rfl ?_
    exact jj_wl hG [4, 0] rfl (b128 _ _)
  have b78 : JJ C R base m G 78 [(0, .ref m), (1, .int p1), (2, .int p2), (7, .int p7)] [] q t kc ks (M_fits_b78 t p1 p2 p7) (some r) := by
    refine jjs hG rfl rfl ?_
    refine jj_gr hG (k := 35) rfl rfl rfl rfl ?_
    refine jjs hG rfl rfl ?_
    refine jj_ia hG (k := 35) rfl rfl rfl (fun x1 => ?_)
    refine jj_ic hG rfl cc_im1 ?_
    refine jj_ine hG (t := 97) rfl rfl ?_ ?_
    · refine jjs hG rfl rfl ?_
      refine jj_gr hG (k := 35) rfl rfl rfl rfl ?_
      refine jjs hG rfl rfl ?_
      refine jj_ia hG (k := 35) rfl rfl rfl (fun x2 => ?_)
      exact jj_wl hG [0, 1, 2, 3] rfl (b103 _)
    refine jjs hG rfl rfl ?_
    refine jj_gr hG (k := 34) rfl rfl rfl rfl ?_
    refine jjs hG rfl rfl ?_
    refine jj_ia hG (k := 34) rfl rfl rfl (fun x3 => ?_)
    refine jj_go hG (t := 103) rfl rfl ?_
    exact jj_wl hG [0, 1, 2, 3] rfl (b103 _)
  refine (show JJ C R base m G 0 [(0, .ref m), (1, .int p1), (2, .int p2), (3, .long p3), (5, .long p5), (7, .int p7)] [] q t kc ks (M_fits t p1 p2 p3 p5 p7) (some r) from ?_) hw h
  refine jjs hG rfl rfl ?_
  refine jj_gr hG (k := 31) rfl rfl rfl rfl ?_
  refine jjs hG rfl rfl ?_
  refine jj_ia hG (k := 31) rfl rfl rfl (fun x1 => ?_)
  refine jjs hG rfl rfl ?_
  refine jj_ine hG (t := 39) rfl rfl ?_ ?_
  · refine jj_ic hG rfl cc_i0 ?_
    exact jj_ri hG rfl rfl rfl k
  refine jjs hG rfl rfl ?_
  refine jj_gr hG (k := 32) rfl rfl rfl rfl ?_
  refine jjs hG rfl rfl ?_
  refine jj_la hG (k := 32) rfl rfl rfl (fun x2 => ?_)
  refine jjs hG rfl rfl ?_
  refine jj_gr hG (k := 33) rfl rfl rfl rfl ?_
  refine jjs hG rfl rfl ?_
  refine jj_la hG (k := 33) rfl rfl rfl (fun x3 => ?_)
  refine jjs hG rfl rfl ?_
  refine jj_gr hG (k := 34) rfl rfl rfl rfl ?_
  refine jjs hG rfl rfl ?_
  refine jj_ia hG (k := 34) rfl rfl rfl (fun x4 => ?_)
  refine jjs hG rfl rfl ?_
  refine jjs hG rfl rfl ?_
  refine jjs hG rfl rfl ?_
  refine jj_ct hG 2 rfl rfl (Nat.le_of_ble_eq_true rfl) (by decide) (Nat.le_of_ble_eq_true rfl) rfl (st' := []) rfl (v := .int (M_coversPrefix x2 x3 x4 p3 p5 p7)) (fun _ hw k => k_coversPrefix base sa hw rfl k) ?_
  refine jj_zne hG (t := 41) rfl rfl ?_ ?_
  · refine jjs hG rfl rfl ?_
    refine jj_gr hG (k := 35) rfl rfl rfl rfl ?_
    refine jjs hG rfl rfl ?_
    refine jj_ia hG (k := 35) rfl rfl rfl (fun x5 => ?_)
    refine jj_ic hG rfl cc_im1 ?_
    refine jj_ine hG (t := 78) rfl rfl ?_ ?_
    · exact jj_wl hG [0, 1, 2, 5] rfl (b78)
    refine jjs hG rfl rfl ?_
    refine jj_gr hG (k := 36) rfl rfl rfl rfl ?_
    refine jjs hG rfl rfl ?_
    refine jj_ia hG (k := 36) rfl rfl rfl (fun x6 => ?_)
    refine jj_ic hG rfl cc_im1 ?_
    refine jj_ine hG (t := 78) rfl rfl ?_ ?_
    · exact jj_wl hG [0, 1, 2, 5] rfl (b78)
    refine jjs hG rfl rfl ?_
    refine jjs hG rfl rfl ?_
    refine jj_gr hG (k := 34) rfl rfl rfl rfl ?_
    refine jjs hG rfl rfl ?_
    refine jj_ia hG (k := 34) rfl rfl rfl (fun x7 => ?_)
    refine jj_ine hG (t := 76) rfl rfl ?_ ?_
    · refine jj_ic hG rfl cc_i0 ?_
      exact jj_ri hG rfl rfl rfl k
    refine jj_ic hG rfl cc_i1 ?_
    refine jj_go hG (t := 77) rfl rfl ?_
    exact jj_ri hG rfl rfl rfl k
  refine jj_ic hG rfl cc_i0 ?_
  exact jj_ri hG rfl rfl rfl k
noncomputable def M_listAllows_s6 (t : moS) (p1 : Int32) (p2 : Int32) (p3 : Int64) (p5 : Int64) (p7 : Int32) (a8 : Int32) : Option ((Int32) ⊕ Int32) := Option.bind (rdI t 29 p1) (fun x1 => (if a8 < (((16 : Int32) * p1) + x1) then (Option.bind (M_fits t a8 p2 p3 p5 p7) (fun x2 => (if x2 = 0 then ((some (.inl ((a8 + (1 : Int32)))))) else ((xo (Option.bind (rdI t 30 a8) (fun x3 => ((okZ x3 (some x3)))))))))) else ((xo ((some (0 : Int32)))))))
noncomputable def M_listAllows_b6 (t : moS) (p1 : Int32) (p2 : Int32) (p3 : Int64) (p5 : Int64) (p7 : Int32) (a8 : Int32) : Option Int32 := lp (fun x => M_listAllows_s6 t p1 p2 p3 p5 p7 x) (a8)
noncomputable def M_listAllows (t : moS) (p1 : Int32) (p2 : Int32) (p3 : Int64) (p5 : Int64) (p7 : Int32) : Option Int32 := (M_listAllows_b6 t p1 p2 p3 p5 p7 ((16 : Int32) * p1))
set_option maxRecDepth 100000 in
set_option maxHeartbeats 4000000 in
theorem k_listAllows (base : Nat) (sa : Nat → Nat) {C : Nat × Nat} {R : pmM} {m : Nat} {q : Nat → Nat} {t : moS} {kc ks : Nat} {Rt : pmR} {p1 : Int32} {p2 : Int32} {p3 : Int64} {p5 : Int64} {p7 : Int32} {r : Int32} (hw : mW C R base m q t kc ks) (h : M_listAllows t p1 p2 p3 p5 p7 = (some r)) (k : Rt (some (.int r)) (moM R m q t) kc ks) : kP_Mo_listAllows base sa [.ref m, .int p1, .int p2, .long p3, .long p5, .int p7] (moM R m q t) kc ks Rt := by
  refine ⟨Nat.le_of_ble_eq_true rfl, fun G hG => ?_⟩
  have b6 : ∀ (n : Nat) (a8 : Int32), JJ C R base m G 6 [(0, .ref m), (1, .int p1), (2, .int p2), (3, .long p3), (5, .long p5), (7, .int p7), (8, .int a8)] [] q t kc ks (lpN (fun x => M_listAllows_s6 t p1 p2 p3 p5 p7 x) n (a8)) (some r) := by
    intro n
    induction n with
    | zero => intro a8; exact jj_lp0
    | succ n ih6 =>
      intro a8
      refine jj_lpS (fun y6 c6 => ?_)
      refine (show JJ C R base m G 6 [(0, .ref m), (1, .int p1), (2, .int p2), (3, .long p3), (5, .long p5), (7, .int p7), (8, .int a8)] [] q t kc ks (M_listAllows_s6 t p1 p2 p3 p5 p7 a8) (some y6) from ?_)
      refine jjs hG rfl rfl ?_
      refine jj_bi hG rfl cc_b16 ?_
      refine jjs hG rfl rfl ?_
      refine jjs hG rfl rfl ?_
      refine jjs hG rfl rfl ?_
      refine jj_gr hG (k := 29) rfl rfl rfl rfl ?_
      refine jjs hG rfl rfl ?_
      refine jj_ia hG (k := 29) rfl rfl rfl (fun x1 => ?_)
      refine jjs hG rfl rfl ?_
      refine jj_ige hG (t := 51) rfl rfl ?_ ?_
      · refine jj_exit c6 ?_
        refine jj_ic hG rfl cc_i0 ?_
        exact jj_ri hG rfl rfl rfl k
      refine jjs hG rfl rfl ?_
      refine jjs hG rfl rfl ?_
      refine jjs hG rfl rfl ?_
      refine jjs hG rfl rfl ?_
      refine jjs hG rfl rfl ?_
      refine jjs hG rfl rfl ?_
      refine jj_cp hG 0 rfl rfl (Nat.le_of_ble_eq_true rfl) (by decide) (Nat.le_of_ble_eq_true rfl) rfl (st' := []) rfl (w := .int) (fun _ _ hw h k => pm_rcv_of moM_m (k_fits base sa hw h k)) (fun x2 => ?_)
      refine jj_zeq hG (t := 45) rfl rfl ?_ ?_
      · refine jj_inc hG rfl (Nat.le_of_ble_eq_true rfl) rfl cc_i1 ?_
        refine jj_go hG (t := 6) rfl rfl ?_
        exact jj_back c6 (jj_wl hG [1, 2, 3, 4, 5, 6, 0] rfl (ih6 _))
      refine jj_exit c6 ?_
      refine jjs hG rfl rfl ?_
      refine jj_gr hG (k := 30) rfl rfl rfl rfl ?_
      refine jjs hG rfl rfl ?_
      refine jj_ba hG (k := 30) rfl rfl rfl (fun x3 => ?_)
      exact jj_rz hG rfl rfl k
  refine (show JJ C R base m G 0 [(0, .ref m), (1, .int p1), (2, .int p2), (3, .long p3), (5, .long p5), (7, .int p7)] [] q t kc ks (M_listAllows t p1 p2 p3 p5 p7) (some r) from ?_) hw h
  refine jj_bi hG rfl cc_b16 ?_
  refine jjs hG rfl rfl ?_
  refine jjs hG rfl rfl ?_
  refine jjc hG rfl rfl (Nat.le_of_ble_eq_true rfl) ?_
  refine jj_lp (fun n => ?_)
  exact jj_wl hG [1, 2, 3, 4, 5, 6, 0] rfl (b6 n _)
noncomputable def M_distributeAllows_b91 (t : moS) (p1 : Int32) (p2 : Int32) (p3 : Int32) (p4 : Int32) (p5 : Int64) (p7 : Int64) (p9 : Int32) (a10 : Int32) : Option ((Int32) ⊕ Int32) := (some (.inl ((a10 + (1 : Int32)))))
noncomputable def M_distributeAllows_b60 (t : moS) (p1 : Int32) (p2 : Int32) (p3 : Int32) (p4 : Int32) (p5 : Int64) (p7 : Int64) (p9 : Int32) (a10 : Int32) (u0 : Int32) : Option ((Int32) ⊕ Int32) := if u0 = 0 then ((M_distributeAllows_b91 t p1 p2 p3 p4 p5 p7 p9 a10)) else (Option.bind (rdI t 62 a10) (fun x1 => (Option.bind (M_listAllows t x1 p4 p5 p7 p9) (fun x2 => (if x2 = 0 then ((xo ((some (0 : Int32))))) else ((M_distributeAllows_b91 t p1 p2 p3 p4 p5 p7 p9 a10)))))))
noncomputable def M_distributeAllows_b55 (t : moS) (p1 : Int32) (p2 : Int32) (p3 : Int32) (p4 : Int32) (p5 : Int64) (p7 : Int64) (p9 : Int32) (a10 : Int32) : Option ((Int32) ⊕ Int32) := (M_distributeAllows_b60 t p1 p2 p3 p4 p5 p7 p9 a10 (1 : Int32))
noncomputable def M_distributeAllows_b59 (t : moS) (p1 : Int32) (p2 : Int32) (p3 : Int32) (p4 : Int32) (p5 : Int64) (p7 : Int64) (p9 : Int32) (a10 : Int32) : Option ((Int32) ⊕ Int32) := (M_distributeAllows_b60 t p1 p2 p3 p4 p5 p7 p9 a10 (0 : Int32))
noncomputable def M_distributeAllows_s6 (t : moS) (p1 : Int32) (p2 : Int32) (p3 : Int32) (p4 : Int32) (p5 : Int64) (p7 : Int64) (p9 : Int32) (a10 : Int32) : Option ((Int32) ⊕ Int32) := Option.bind (rdI t 59 p1) (fun x1 => (if a10 < (((8 : Int32) * p1) + x1) then (Option.bind (rdI t 60 a10) (fun x2 => (if x2 = p2 then (Option.bind (rdI t 61 a10) (fun x3 => (if x3 = ((-1) : Int32) then ((M_distributeAllows_b55 t p1 p2 p3 p4 p5 p7 p9 a10)) else (Option.bind (rdI t 61 a10) (fun x4 => (if x4 = p3 then ((M_distributeAllows_b55 t p1 p2 p3 p4 p5 p7 p9 a10)) else ((M_distributeAllows_b59 t p1 p2 p3 p4 p5 p7 p9 a10)))))))) else ((M_distributeAllows_b59 t p1 p2 p3 p4 p5 p7 p9 a10))))) else ((xo ((some (1 : Int32)))))))
noncomputable def M_distributeAllows_b6 (t : moS) (p1 : Int32) (p2 : Int32) (p3 : Int32) (p4 : Int32) (p5 : Int64) (p7 : Int64) (p9 : Int32) (a10 : Int32) : Option Int32 := lp (fun x => M_distributeAllows_s6 t p1 p2 p3 p4 p5 p7 p9 x) (a10)
noncomputable def M_distributeAllows (t : moS) (p1 : Int32) (p2 : Int32) (p3 : Int32) (p4 : Int32) (p5 : Int64) (p7 : Int64) (p9 : Int32) : Option Int32 := (M_distributeAllows_b6 t p1 p2 p3 p4 p5 p7 p9 ((8 : Int32) * p1))
set_option maxRecDepth 100000 in
set_option maxHeartbeats 4000000 in
theorem k_distributeAllows (base : Nat) (sa : Nat → Nat) {C : Nat × Nat} {R : pmM} {m : Nat} {q : Nat → Nat} {t : moS} {kc ks : Nat} {Rt : pmR} {p1 : Int32} {p2 : Int32} {p3 : Int32} {p4 : Int32} {p5 : Int64} {p7 : Int64} {p9 : Int32} {r : Int32} (hw : mW C R base m q t kc ks) (h : M_distributeAllows t p1 p2 p3 p4 p5 p7 p9 = (some r)) (k : Rt (some (.int r)) (moM R m q t) kc ks) : kP_Mo_distributeAllows base sa [.ref m, .int p1, .int p2, .int p3, .int p4, .long p5, .long p7, .int p9] (moM R m q t) kc ks Rt := by
  refine ⟨Nat.le_of_ble_eq_true rfl, fun G hG => ?_⟩
  have b6 : ∀ (n : Nat) (a10 : Int32), JJ C R base m G 6 [(0, .ref m), (1, .int p1), (2, .int p2), (3, .int p3), (4, .int p4), (5, .long p5), (7, .long p7), (9, .int p9), (10, .int a10)] [] q t kc ks (lpN (fun x => M_distributeAllows_s6 t p1 p2 p3 p4 p5 p7 p9 x) n (a10)) (some r) := by
    intro n
    induction n with
    | zero => intro a10; exact jj_lp0
    | succ n ih6 =>
      intro a10
      refine jj_lpS (fun y6 c6 => ?_)
      have b91 : ∀ (a10 : Int32), JJ C R base m G 91 [(0, .ref m), (1, .int p1), (2, .int p2), (3, .int p3), (4, .int p4), (5, .long p5), (7, .long p7), (9, .int p9), (10, .int a10)] [] q t kc ks (M_distributeAllows_b91 t p1 p2 p3 p4 p5 p7 p9 a10) (some y6) := by
        intro a10
        refine jj_inc hG rfl (Nat.le_of_ble_eq_true rfl) rfl cc_i1 ?_
        refine jj_go hG (t := 6) rfl rfl ?_
        exact jj_back c6 (jj_wl hG [1, 2, 3, 4, 5, 6, 7, 8, 0] rfl (ih6 _))
      have b60 : ∀ (a10 : Int32) (u0 : Int32), JJ C R base m G 60 [(0, .ref m), (1, .int p1), (2, .int p2), (3, .int p3), (4, .int p4), (5, .long p5), (7, .long p7), (9, .int p9), (10, .int a10)] [.int u0] q t kc ks (M_distributeAllows_b60 t p1 p2 p3 p4 p5 p7 p9 a10 u0) (some y6) := by
        intro a10 u0
        refine jjc hG rfl rfl (Nat.le_of_ble_eq_true rfl) ?_
        refine jjs hG rfl rfl ?_
        refine jj_zeq hG (t := 91) rfl rfl ?_ ?_
        · exact jj_wl hG [1, 2, 3, 4, 5, 6, 7, 8, 9] rfl (b91 _)
        refine jjs hG rfl rfl ?_
        refine jjs hG rfl rfl ?_
        refine jj_gr hG (k := 62) rfl rfl rfl rfl ?_
        refine jjs hG rfl rfl ?_
        refine jj_ia hG (k := 62) rfl rfl rfl (fun x1 => ?_)
        refine jjs hG rfl rfl ?_
        refine jjs hG rfl rfl ?_
        refine jjs hG rfl rfl ?_
        refine jjs hG rfl rfl ?_
        refine jj_cp hG 0 rfl rfl (Nat.le_of_ble_eq_true rfl) (by decide) (Nat.le_of_ble_eq_true rfl) rfl (st' := []) rfl (w := .int) (fun _ _ hw h k => pm_rcv_of moM_m (k_listAllows base sa hw h k)) (fun x2 => ?_)
        refine jj_zne hG (t := 91) rfl rfl ?_ ?_
        · exact jj_wl hG [1, 2, 3, 4, 5, 6, 7, 8, 9] rfl (b91 _)
        refine jj_exit c6 ?_
        refine jj_ic hG rfl cc_i0 ?_
        exact jj_ri hG rfl rfl rfl k
      have b55 : ∀ (a10 : Int32), JJ C R base m G 55 [(0, .ref m), (1, .int p1), (2, .int p2), (3, .int p3), (4, .int p4), (5, .long p5), (7, .long p7), (9, .int p9), (10, .int a10)] [] q t kc ks (M_distributeAllows_b55 t p1 p2 p3 p4 p5 p7 p9 a10) (some y6) := by
        intro a10
        refine jj_ic hG rfl cc_i1 ?_
        refine jj_go hG (t := 60) rfl rfl ?_
        exact jj_wl hG [0, 1, 2, 3, 4, 5, 6, 7, 8] rfl (b60 _ _)
      have b59 : ∀ (a10 : Int32), JJ C R base m G 59 [(0, .ref m), (1, .int p1), (2, .int p2), (3, .int p3), (4, .int p4), (5, .long p5), (7, .long p7), (9, .int p9), (10, .int a10)] [] q t kc ks (M_distributeAllows_b59 t p1 p2 p3 p4 p5 p7 p9 a10) (some y6) := by
        intro a10
        refine jj_ic hG rfl cc_i0 ?_
        exact jj_wl hG [0, 1, 2, 3, 4, 5, 6, 7, 8] rfl (b60 _ _)
      refine (show JJ C R base m G 6 [(0, .ref m), (1, .int p1), (2, .int p2), (3, .int p3), (4, .int p4), (5, .long p5), (7, .long p7), (9, .int p9), (10, .int a10)] [] q t kc ks (M_distributeAllows_s6 t p1 p2 p3 p4 p5 p7 p9 a10) (some y6) from ?_)
      refine jjs hG rfl rfl ?_
      refine jj_bi hG rfl cc_b8 ?_
      refine jjs hG rfl rfl ?_
      refine jjs hG rfl rfl ?_
      refine jjs hG rfl rfl ?_
      refine jj_gr hG (k := 59) rfl rfl rfl rfl ?_
      refine jjs hG rfl rfl ?_
      refine jj_ia hG (k := 59) rfl rfl rfl (fun x1 => ?_)
      refine jjs hG rfl rfl ?_
      refine jj_ige hG (t := 97) rfl rfl ?_ ?_
      · refine jj_exit c6 ?_
        refine jj_ic hG rfl cc_i1 ?_
        exact jj_ri hG rfl rfl rfl k
      refine jjs hG rfl rfl ?_
      refine jj_gr hG (k := 60) rfl rfl rfl rfl ?_
      refine jjs hG rfl rfl ?_
      refine jj_ia hG (k := 60) rfl rfl rfl (fun x2 => ?_)
      refine jjs hG rfl rfl ?_
      refine jj_ine hG (t := 59) rfl rfl ?_ ?_
      · exact jj_wl hG [0, 1, 2, 3, 4, 5, 6, 7, 8] rfl (b59 _)
      refine jjs hG rfl rfl ?_
      refine jj_gr hG (k := 61) rfl rfl rfl rfl ?_
      refine jjs hG rfl rfl ?_
      refine jj_ia hG (k := 61) rfl rfl rfl (fun x3 => ?_)
      refine jj_ic hG rfl cc_im1 ?_
      refine jj_ieq hG (t := 55) rfl rfl ?_ ?_
      · exact jj_wl hG [0, 1, 2, 3, 4, 5, 6, 7, 8] rfl (b55 _)
      refine jjs hG rfl rfl ?_
      refine jj_gr hG (k := 61) rfl rfl rfl rfl ?_
      refine jjs hG rfl rfl ?_
      refine jj_ia hG (k := 61) rfl rfl rfl (fun x4 => ?_)
      refine jjs hG rfl rfl ?_
      refine jj_ine hG (t := 59) rfl rfl ?_ ?_
      · exact jj_wl hG [0, 1, 2, 3, 4, 5, 6, 7, 8] rfl (b59 _)
      exact jj_wl hG [0, 1, 2, 3, 4, 5, 6, 7, 8] rfl (b55 _)
  refine (show JJ C R base m G 0 [(0, .ref m), (1, .int p1), (2, .int p2), (3, .int p3), (4, .int p4), (5, .long p5), (7, .long p7), (9, .int p9)] [] q t kc ks (M_distributeAllows t p1 p2 p3 p4 p5 p7 p9) (some r) from ?_) hw h
  refine jj_bi hG rfl cc_b8 ?_
  refine jjs hG rfl rfl ?_
  refine jjs hG rfl rfl ?_
  refine jjc hG rfl rfl (Nat.le_of_ble_eq_true rfl) ?_
  refine jj_lp (fun n => ?_)
  exact jj_wl hG [1, 2, 3, 4, 5, 6, 7, 8, 0] rfl (b6 n _)
noncomputable def M_offsetFor_b97 (t : moS) (p1 : Int32) (p2 : Int32) (p3 : Int32) (p4 : Int32) (p5 : Int64) (p7 : Int64) (p9 : Int32) (a10 : Int32) : Option ((Int32) ⊕ Int32) := (some (.inl ((a10 + (1 : Int32)))))
noncomputable def M_offsetFor_b60 (t : moS) (p1 : Int32) (p2 : Int32) (p3 : Int32) (p4 : Int32) (p5 : Int64) (p7 : Int64) (p9 : Int32) (a10 : Int32) (u0 : Int32) : Option ((Int32) ⊕ Int32) := if u0 = 0 then ((M_offsetFor_b97 t p1 p2 p3 p4 p5 p7 p9 a10)) else (Option.bind (rdI t 66 a10) (fun x1 => (Option.bind (M_listAllows t x1 p4 p5 p7 p9) (fun x2 => (if x2 = 0 then ((M_offsetFor_b97 t p1 p2 p3 p4 p5 p7 p9 a10)) else ((xo (Option.bind (rdI t 67 a10) (fun x3 => ((some x3)))))))))))
noncomputable def M_offsetFor_b55 (t : moS) (p1 : Int32) (p2 : Int32) (p3 : Int32) (p4 : Int32) (p5 : Int64) (p7 : Int64) (p9 : Int32) (a10 : Int32) : Option ((Int32) ⊕ Int32) := (M_offsetFor_b60 t p1 p2 p3 p4 p5 p7 p9 a10 (1 : Int32))
noncomputable def M_offsetFor_b59 (t : moS) (p1 : Int32) (p2 : Int32) (p3 : Int32) (p4 : Int32) (p5 : Int64) (p7 : Int64) (p9 : Int32) (a10 : Int32) : Option ((Int32) ⊕ Int32) := (M_offsetFor_b60 t p1 p2 p3 p4 p5 p7 p9 a10 (0 : Int32))
noncomputable def M_offsetFor_s6 (t : moS) (p1 : Int32) (p2 : Int32) (p3 : Int32) (p4 : Int32) (p5 : Int64) (p7 : Int64) (p9 : Int32) (a10 : Int32) : Option ((Int32) ⊕ Int32) := Option.bind (rdI t 63 p1) (fun x1 => (if a10 < (((8 : Int32) * p1) + x1) then (Option.bind (rdI t 64 a10) (fun x2 => (if x2 = p2 then (Option.bind (rdI t 65 a10) (fun x3 => (if x3 = ((-1) : Int32) then ((M_offsetFor_b55 t p1 p2 p3 p4 p5 p7 p9 a10)) else (Option.bind (rdI t 65 a10) (fun x4 => (if x4 = p3 then ((M_offsetFor_b55 t p1 p2 p3 p4 p5 p7 p9 a10)) else ((M_offsetFor_b59 t p1 p2 p3 p4 p5 p7 p9 a10)))))))) else ((M_offsetFor_b59 t p1 p2 p3 p4 p5 p7 p9 a10))))) else ((xo ((some (0 : Int32)))))))
noncomputable def M_offsetFor_b6 (t : moS) (p1 : Int32) (p2 : Int32) (p3 : Int32) (p4 : Int32) (p5 : Int64) (p7 : Int64) (p9 : Int32) (a10 : Int32) : Option Int32 := lp (fun x => M_offsetFor_s6 t p1 p2 p3 p4 p5 p7 p9 x) (a10)
noncomputable def M_offsetFor (t : moS) (p1 : Int32) (p2 : Int32) (p3 : Int32) (p4 : Int32) (p5 : Int64) (p7 : Int64) (p9 : Int32) : Option Int32 := (M_offsetFor_b6 t p1 p2 p3 p4 p5 p7 p9 ((8 : Int32) * p1))
set_option maxRecDepth 100000 in
set_option maxHeartbeats 4000000 in
theorem k_offsetFor (base : Nat) (sa : Nat → Nat) {C : Nat × Nat} {R : pmM} {m : Nat} {q : Nat → Nat} {t : moS} {kc ks : Nat} {Rt : pmR} {p1 : Int32} {p2 : Int32} {p3 : Int32} {p4 : Int32} {p5 : Int64} {p7 : Int64} {p9 : Int32} {r : Int32} (hw : mW C R base m q t kc ks) (h : M_offsetFor t p1 p2 p3 p4 p5 p7 p9 = (some r)) (k : Rt (some (.int r)) (moM R m q t) kc ks) : kP_Mo_offsetFor base sa [.ref m, .int p1, .int p2, .int p3, .int p4, .long p5, .long p7, .int p9] (moM R m q t) kc ks Rt := by
  refine ⟨Nat.le_of_ble_eq_true rfl, fun G hG => ?_⟩
  have b6 : ∀ (n : Nat) (a10 : Int32), JJ C R base m G 6 [(0, .ref m), (1, .int p1), (2, .int p2), (3, .int p3), (4, .int p4), (5, .long p5), (7, .long p7), (9, .int p9), (10, .int a10)] [] q t kc ks (lpN (fun x => M_offsetFor_s6 t p1 p2 p3 p4 p5 p7 p9 x) n (a10)) (some r) := by
    intro n
    induction n with
    | zero => intro a10; exact jj_lp0
    | succ n ih6 =>
      intro a10
      refine jj_lpS (fun y6 c6 => ?_)
      have b97 : ∀ (a10 : Int32), JJ C R base m G 97 [(0, .ref m), (1, .int p1), (2, .int p2), (3, .int p3), (4, .int p4), (5, .long p5), (7, .long p7), (9, .int p9), (10, .int a10)] [] q t kc ks (M_offsetFor_b97 t p1 p2 p3 p4 p5 p7 p9 a10) (some y6) := by
        intro a10
        refine jj_inc hG rfl (Nat.le_of_ble_eq_true rfl) rfl cc_i1 ?_
        refine jj_go hG (t := 6) rfl rfl ?_
        exact jj_back c6 (jj_wl hG [1, 2, 3, 4, 5, 6, 7, 8, 0] rfl (ih6 _))
      have b60 : ∀ (a10 : Int32) (u0 : Int32), JJ C R base m G 60 [(0, .ref m), (1, .int p1), (2, .int p2), (3, .int p3), (4, .int p4), (5, .long p5), (7, .long p7), (9, .int p9), (10, .int a10)] [.int u0] q t kc ks (M_offsetFor_b60 t p1 p2 p3 p4 p5 p7 p9 a10 u0) (some y6) := by
        intro a10 u0
        refine jjc hG rfl rfl (Nat.le_of_ble_eq_true rfl) ?_
        refine jjs hG rfl rfl ?_
        refine jj_zeq hG (t := 97) rfl rfl ?_ ?_
        · exact jj_wl hG [1, 2, 3, 4, 5, 6, 7, 8, 9] rfl (b97 _)
        refine jjs hG rfl rfl ?_
        refine jjs hG rfl rfl ?_
        refine jj_gr hG (k := 66) rfl rfl rfl rfl ?_
        refine jjs hG rfl rfl ?_
        refine jj_ia hG (k := 66) rfl rfl rfl (fun x1 => ?_)
        refine jjs hG rfl rfl ?_
        refine jjs hG rfl rfl ?_
        refine jjs hG rfl rfl ?_
        refine jjs hG rfl rfl ?_
        refine jj_cp hG 0 rfl rfl (Nat.le_of_ble_eq_true rfl) (by decide) (Nat.le_of_ble_eq_true rfl) rfl (st' := []) rfl (w := .int) (fun _ _ hw h k => pm_rcv_of moM_m (k_listAllows base sa hw h k)) (fun x2 => ?_)
        refine jj_zeq hG (t := 97) rfl rfl ?_ ?_
        · exact jj_wl hG [1, 2, 3, 4, 5, 6, 7, 8, 9] rfl (b97 _)
        refine jj_exit c6 ?_
        refine jjs hG rfl rfl ?_
        refine jj_gr hG (k := 67) rfl rfl rfl rfl ?_
        refine jjs hG rfl rfl ?_
        refine jj_ia hG (k := 67) rfl rfl rfl (fun x3 => ?_)
        exact jj_ri hG rfl rfl rfl k
      have b55 : ∀ (a10 : Int32), JJ C R base m G 55 [(0, .ref m), (1, .int p1), (2, .int p2), (3, .int p3), (4, .int p4), (5, .long p5), (7, .long p7), (9, .int p9), (10, .int a10)] [] q t kc ks (M_offsetFor_b55 t p1 p2 p3 p4 p5 p7 p9 a10) (some y6) := by
        intro a10
        refine jj_ic hG rfl cc_i1 ?_
        refine jj_go hG (t := 60) rfl rfl ?_
        exact jj_wl hG [0, 1, 2, 3, 4, 5, 6, 7, 8] rfl (b60 _ _)
      have b59 : ∀ (a10 : Int32), JJ C R base m G 59 [(0, .ref m), (1, .int p1), (2, .int p2), (3, .int p3), (4, .int p4), (5, .long p5), (7, .long p7), (9, .int p9), (10, .int a10)] [] q t kc ks (M_offsetFor_b59 t p1 p2 p3 p4 p5 p7 p9 a10) (some y6) := by
        intro a10
        refine jj_ic hG rfl cc_i0 ?_
        exact jj_wl hG [0, 1, 2, 3, 4, 5, 6, 7, 8] rfl (b60 _ _)
      refine (show JJ C R base m G 6 [(0, .ref m), (1, .int p1), (2, .int p2), (3, .int p3), (4, .int p4), (5, .long p5), (7, .long p7), (9, .int p9), (10, .int a10)] [] q t kc ks (M_offsetFor_s6 t p1 p2 p3 p4 p5 p7 p9 a10) (some y6) from ?_)
      refine jjs hG rfl rfl ?_
      refine jj_bi hG rfl cc_b8 ?_
      refine jjs hG rfl rfl ?_
      refine jjs hG rfl rfl ?_
      refine jjs hG rfl rfl ?_
      refine jj_gr hG (k := 63) rfl rfl rfl rfl ?_
      refine jjs hG rfl rfl ?_
      refine jj_ia hG (k := 63) rfl rfl rfl (fun x1 => ?_)
      refine jjs hG rfl rfl ?_
      refine jj_ige hG (t := 103) rfl rfl ?_ ?_
      · refine jj_exit c6 ?_
        refine jj_ic hG rfl cc_i0 ?_
        exact jj_ri hG rfl rfl rfl k
      refine jjs hG rfl rfl ?_
      refine jj_gr hG (k := 64) rfl rfl rfl rfl ?_
      refine jjs hG rfl rfl ?_
      refine jj_ia hG (k := 64) rfl rfl rfl (fun x2 => ?_)
      refine jjs hG rfl rfl ?_
      refine jj_ine hG (t := 59) rfl rfl ?_ ?_
      · exact jj_wl hG [0, 1, 2, 3, 4, 5, 6, 7, 8] rfl (b59 _)
      refine jjs hG rfl rfl ?_
      refine jj_gr hG (k := 65) rfl rfl rfl rfl ?_
      refine jjs hG rfl rfl ?_
      refine jj_ia hG (k := 65) rfl rfl rfl (fun x3 => ?_)
      refine jj_ic hG rfl cc_im1 ?_
      refine jj_ieq hG (t := 55) rfl rfl ?_ ?_
      · exact jj_wl hG [0, 1, 2, 3, 4, 5, 6, 7, 8] rfl (b55 _)
      refine jjs hG rfl rfl ?_
      refine jj_gr hG (k := 65) rfl rfl rfl rfl ?_
      refine jjs hG rfl rfl ?_
      refine jj_ia hG (k := 65) rfl rfl rfl (fun x4 => ?_)
      refine jjs hG rfl rfl ?_
      refine jj_ine hG (t := 59) rfl rfl ?_ ?_
      · exact jj_wl hG [0, 1, 2, 3, 4, 5, 6, 7, 8] rfl (b59 _)
      exact jj_wl hG [0, 1, 2, 3, 4, 5, 6, 7, 8] rfl (b55 _)
  refine (show JJ C R base m G 0 [(0, .ref m), (1, .int p1), (2, .int p2), (3, .int p3), (4, .int p4), (5, .long p5), (7, .long p7), (9, .int p9)] [] q t kc ks (M_offsetFor t p1 p2 p3 p4 p5 p7 p9) (some r) from ?_) hw h
  refine jj_bi hG rfl cc_b8 ?_
  refine jjs hG rfl rfl ?_
  refine jjs hG rfl rfl ?_
  refine jjc hG rfl rfl (Nat.le_of_ble_eq_true rfl) ?_
  refine jj_lp (fun n => ?_)
  exact jj_wl hG [1, 2, 3, 4, 5, 6, 7, 8, 0] rfl (b6 n _)
noncomputable def M_remove_s2 (t : moS) (p1 : Int32) (a3 : Int32) : Option ((Int32 × moS) ⊕ moS) := Option.bind (rdI t 105 p1) (fun x1 => (if (a3 + (1 : Int32)) < (((2700 : Int32) * p1) + x1) then (Option.bind (M_copyRoute t (a3 + (1 : Int32)) a3) (fun s4 => ((some (.inl ((a3 + (1 : Int32)), s4)))))) else ((xo (Option.bind (rdI t 105 p1) (fun x2 => (Option.bind (wrI t 105 p1 (x2 - (1 : Int32))) (fun s3 => ((some s3))))))))))
noncomputable def M_remove_b2 (t : moS) (p1 : Int32) (a3 : Int32) : Option moS := lp (fun x => M_remove_s2 x.2 p1 x.1) (a3, t)
noncomputable def M_remove (t : moS) (p1 : Int32) (p2 : Int32) : Option moS := (M_remove_b2 t p1 p2)
set_option maxRecDepth 100000 in
set_option maxHeartbeats 4000000 in
theorem k_remove (base : Nat) (sa : Nat → Nat) {C : Nat × Nat} {R : pmM} {m : Nat} {q : Nat → Nat} {t tz : moS} {kc ks : Nat} {Rt : pmR} {p1 : Int32} {p2 : Int32} (hw : mW C R base m q t kc ks) (h : M_remove t p1 p2 = (some tz)) (k : mW C R base m q tz kc ks → Rt none (moM R m q tz) kc ks) : kP_Mo_remove base sa [.ref m, .int p1, .int p2] (moM R m q t) kc ks Rt := by
  refine ⟨Nat.le_of_ble_eq_true rfl, fun G hG => ?_⟩
  have b2 : ∀ (n : Nat) (a3 : Int32) (t : moS), JJ C R base m G 2 [(0, .ref m), (1, .int p1), (3, .int a3)] [] q t kc ks (lpN (fun x => M_remove_s2 x.2 p1 x.1) n (a3, t)) (some tz) := by
    intro n
    induction n with
    | zero => intro a3 t; exact jj_lp0
    | succ n ih2 =>
      intro a3 t
      refine jj_lpS (fun y2 c2 => ?_)
      refine (show JJ C R base m G 2 [(0, .ref m), (1, .int p1), (3, .int a3)] [] q t kc ks (M_remove_s2 t p1 a3) (some y2) from ?_)
      refine jjs hG rfl rfl ?_
      refine jj_ic hG rfl cc_i1 ?_
      refine jjs hG rfl rfl ?_
      refine jj_si hG rfl cc_s2700 ?_
      refine jjs hG rfl rfl ?_
      refine jjs hG rfl rfl ?_
      refine jjs hG rfl rfl ?_
      refine jj_gr hG (k := 105) rfl rfl rfl rfl ?_
      refine jjs hG rfl rfl ?_
      refine jj_ia hG (k := 105) rfl rfl rfl (fun x1 => ?_)
      refine jjs hG rfl rfl ?_
      refine jj_ige hG (t := 34) rfl rfl ?_ ?_
      · refine jj_exit c2 ?_
        refine jjs hG rfl rfl ?_
        refine jj_gr hG (k := 105) rfl rfl rfl rfl ?_
        refine jjs hG rfl rfl ?_
        refine jjc2 hG rfl rfl rfl rfl ?_
        refine jj_ia hG (k := 105) rfl rfl rfl (fun x2 => ?_)
        refine jj_ic hG rfl cc_i1 ?_
        refine jjs hG rfl rfl ?_
        refine jj_is hG (k := 105) rfl rfl rfl (fun s3 => ?_)
        exact jj_rvS hG rfl rfl (k)
      refine jjs hG rfl rfl ?_
      refine jjs hG rfl rfl ?_
      refine jj_ic hG rfl cc_i1 ?_
      refine jjs hG rfl rfl ?_
      refine jjs hG rfl rfl ?_
      refine jj_cv hG 0 rfl rfl (Nat.le_of_ble_eq_true rfl) (by decide) (Nat.le_of_ble_eq_true rfl) rfl (st' := []) rfl (fun _ _ hw h k => pm_rcv_of moM_m (k_copyRoute base sa hw h k)) (fun s4 => ?_)
      refine jj_inc hG rfl (Nat.le_of_ble_eq_true rfl) rfl cc_i1 ?_
      refine jj_go hG (t := 2) rfl rfl ?_
      exact jj_back c2 (jj_wl hG [1, 2, 0] rfl (ih2 _ _))
  refine (show JJ C R base m G 0 [(0, .ref m), (1, .int p1), (2, .int p2)] [] q t kc ks (M_remove t p1 p2) (some tz) from ?_) hw h
  refine jjs hG rfl rfl ?_
  refine jjc hG rfl rfl (Nat.le_of_ble_eq_true rfl) ?_
  refine jj_lp (fun n => ?_)
  exact jj_wl hG [1, 2, 0] rfl (b2 n _ _)
