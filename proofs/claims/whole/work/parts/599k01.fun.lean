/-! The model as functions, by program: linkNamed .. hexadecimal -/
noncomputable def M_linkNamed_b29 (t : moS) (p1 : Int64) (a3 : Int32) : Option ((Int32) ⊕ Int32) := (some (.inl ((a3 + (1 : Int32)))))
noncomputable def M_linkNamed_s2 (t : moS) (p1 : Int64) (a3 : Int32) : Option ((Int32) ⊕ Int32) := if a3 < (moS.S t 17) then (if p1 = (0 : Int64) then ((M_linkNamed_b29 t p1 a3)) else (Option.bind (rdJ t 18 a3) (fun x1 => (if x1 = p1 then ((xo ((some a3)))) else ((M_linkNamed_b29 t p1 a3)))))) else ((xo ((some ((-1) : Int32)))))
noncomputable def M_linkNamed_b2 (t : moS) (p1 : Int64) (a3 : Int32) : Option Int32 := lp (fun x => M_linkNamed_s2 t p1 x) (a3)
noncomputable def M_linkNamed (t : moS) (p1 : Int64) : Option Int32 := (M_linkNamed_b2 t p1 (0 : Int32))
set_option maxRecDepth 100000 in
set_option maxHeartbeats 4000000 in
theorem k_linkNamed (base : Nat) (sa : Nat → Nat) {C : Nat × Nat} {R : pmM} {m : Nat} {q : Nat → Nat} {t : moS} {kc ks : Nat} {Rt : pmR} {p1 : Int64} {r : Int32} (hw : mW C R base m q t kc ks) (h : M_linkNamed t p1 = (some r)) (k : Rt (some (.int r)) (moM R m q t) kc ks) : kP_Mo_linkNamed base sa [.ref m, .long p1] (moM R m q t) kc ks Rt := by
  refine ⟨Nat.le_of_ble_eq_true rfl, fun G hG => ?_⟩
  have b2 : ∀ (n : Nat) (a3 : Int32), JJ C R base m G 2 [(0, .ref m), (1, .long p1), (3, .int a3)] [] q t kc ks (lpN (fun x => M_linkNamed_s2 t p1 x) n (a3)) (some r) := by
    intro n
    induction n with
    | zero => intro a3; exact jj_lp0
    | succ n ih2 =>
      intro a3
      refine jj_lpS (fun y2 c2 => ?_)
      have b29 : ∀ (a3 : Int32), JJ C R base m G 29 [(0, .ref m), (1, .long p1), (3, .int a3)] [] q t kc ks (M_linkNamed_b29 t p1 a3) (some y2) := by
        intro a3
        refine jj_inc hG rfl (Nat.le_of_ble_eq_true rfl) rfl cc_i1 ?_
        refine jj_go hG (t := 2) rfl rfl ?_
        exact jj_back c2 (jj_wl hG [1, 2, 0] rfl (ih2 _))
      refine (show JJ C R base m G 2 [(0, .ref m), (1, .long p1), (3, .int a3)] [] q t kc ks (M_linkNamed_s2 t p1 a3) (some y2) from ?_)
      refine jjs hG rfl rfl ?_
      refine jjs hG rfl rfl ?_
      refine jj_gi hG (k := 17) rfl rfl rfl rfl ?_
      refine jj_ige hG (t := 35) rfl rfl ?_ ?_
      · refine jj_exit c2 ?_
        refine jj_ic hG rfl cc_im1 ?_
        exact jj_ri hG rfl rfl rfl k
      refine jjs hG rfl rfl ?_
      refine jj_lc hG (c := 0) (v := 0) rfl rfl ?_
      refine jjs hG rfl rfl ?_
      refine jj_leq hG (t := 29) rfl rfl ?_ ?_
      · exact jj_wl hG [0, 1, 2] rfl (b29 _)
      refine jjs hG rfl rfl ?_
      refine jj_gr hG (k := 18) rfl rfl rfl rfl ?_
      refine jjs hG rfl rfl ?_
      refine jj_la hG (k := 18) rfl rfl rfl (fun x1 => ?_)
      refine jjs hG rfl rfl ?_
      refine jjs hG rfl rfl ?_
      refine jj_lne hG (t := 29) rfl rfl ?_ ?_
      · exact jj_wl hG [0, 1, 2] rfl (b29 _)
      refine jj_exit c2 ?_
      refine jjs hG rfl rfl ?_
      exact jj_ri hG rfl rfl rfl k
  refine (show JJ C R base m G 0 [(0, .ref m), (1, .long p1)] [] q t kc ks (M_linkNamed t p1) (some r) from ?_) hw h
  refine jj_ic hG rfl cc_i0 ?_
  refine jjc hG rfl rfl (Nat.le_of_ble_eq_true rfl) ?_
  refine jj_lp (fun n => ?_)
  exact jj_wl hG [1, 2, 0] rfl (b2 n _)
noncomputable def M_routerNamed_b29 (t : moS) (p1 : Int64) (a3 : Int32) : Option ((Int32) ⊕ Int32) := (some (.inl ((a3 + (1 : Int32)))))
noncomputable def M_routerNamed_s2 (t : moS) (p1 : Int64) (a3 : Int32) : Option ((Int32) ⊕ Int32) := if a3 < (moS.S t 37) then (if p1 = (0 : Int64) then ((M_routerNamed_b29 t p1 a3)) else (Option.bind (rdJ t 38 a3) (fun x1 => (if x1 = p1 then ((xo ((some a3)))) else ((M_routerNamed_b29 t p1 a3)))))) else ((xo ((some ((-1) : Int32)))))
noncomputable def M_routerNamed_b2 (t : moS) (p1 : Int64) (a3 : Int32) : Option Int32 := lp (fun x => M_routerNamed_s2 t p1 x) (a3)
noncomputable def M_routerNamed (t : moS) (p1 : Int64) : Option Int32 := (M_routerNamed_b2 t p1 (0 : Int32))
set_option maxRecDepth 100000 in
set_option maxHeartbeats 4000000 in
theorem k_routerNamed (base : Nat) (sa : Nat → Nat) {C : Nat × Nat} {R : pmM} {m : Nat} {q : Nat → Nat} {t : moS} {kc ks : Nat} {Rt : pmR} {p1 : Int64} {r : Int32} (hw : mW C R base m q t kc ks) (h : M_routerNamed t p1 = (some r)) (k : Rt (some (.int r)) (moM R m q t) kc ks) : kP_Mo_routerNamed base sa [.ref m, .long p1] (moM R m q t) kc ks Rt := by
  refine ⟨Nat.le_of_ble_eq_true rfl, fun G hG => ?_⟩
  have b2 : ∀ (n : Nat) (a3 : Int32), JJ C R base m G 2 [(0, .ref m), (1, .long p1), (3, .int a3)] [] q t kc ks (lpN (fun x => M_routerNamed_s2 t p1 x) n (a3)) (some r) := by
    intro n
    induction n with
    | zero => intro a3; exact jj_lp0
    | succ n ih2 =>
      intro a3
      refine jj_lpS (fun y2 c2 => ?_)
      have b29 : ∀ (a3 : Int32), JJ C R base m G 29 [(0, .ref m), (1, .long p1), (3, .int a3)] [] q t kc ks (M_routerNamed_b29 t p1 a3) (some y2) := by
        intro a3
        refine jj_inc hG rfl (Nat.le_of_ble_eq_true rfl) rfl cc_i1 ?_
        refine jj_go hG (t := 2) rfl rfl ?_
        exact jj_back c2 (jj_wl hG [1, 2, 0] rfl (ih2 _))
      refine (show JJ C R base m G 2 [(0, .ref m), (1, .long p1), (3, .int a3)] [] q t kc ks (M_routerNamed_s2 t p1 a3) (some y2) from ?_)
      refine jjs hG rfl rfl ?_
      refine jjs hG rfl rfl ?_
      refine jj_gi hG (k := 37) rfl rfl rfl rfl ?_
      refine jj_ige hG (t := 35) rfl rfl ?_ ?_
      · refine jj_exit c2 ?_
        refine jj_ic hG rfl cc_im1 ?_
        exact jj_ri hG rfl rfl rfl k
      refine jjs hG rfl rfl ?_
      refine jj_lc hG (c := 0) (v := 0) rfl rfl ?_
      refine jjs hG rfl rfl ?_
      refine jj_leq hG (t := 29) rfl rfl ?_ ?_
      · exact jj_wl hG [0, 1, 2] rfl (b29 _)
      refine jjs hG rfl rfl ?_
      refine jj_gr hG (k := 38) rfl rfl rfl rfl ?_
      refine jjs hG rfl rfl ?_
      refine jj_la hG (k := 38) rfl rfl rfl (fun x1 => ?_)
      refine jjs hG rfl rfl ?_
      refine jjs hG rfl rfl ?_
      refine jj_lne hG (t := 29) rfl rfl ?_ ?_
      · exact jj_wl hG [0, 1, 2] rfl (b29 _)
      refine jj_exit c2 ?_
      refine jjs hG rfl rfl ?_
      exact jj_ri hG rfl rfl rfl k
  refine (show JJ C R base m G 0 [(0, .ref m), (1, .long p1)] [] q t kc ks (M_routerNamed t p1) (some r) from ?_) hw h
  refine jj_ic hG rfl cc_i0 ?_
  refine jjc hG rfl rfl (Nat.le_of_ble_eq_true rfl) ?_
  refine jj_lp (fun n => ?_)
  exact jj_wl hG [1, 2, 0] rfl (b2 n _)
noncomputable def M_listNamed_b29 (t : moS) (p1 : Int64) (a3 : Int32) : Option ((Int32) ⊕ Int32) := (some (.inl ((a3 + (1 : Int32)))))
noncomputable def M_listNamed_s2 (t : moS) (p1 : Int64) (a3 : Int32) : Option ((Int32) ⊕ Int32) := if a3 < (moS.S t 27) then (if p1 = (0 : Int64) then ((M_listNamed_b29 t p1 a3)) else (Option.bind (rdJ t 28 a3) (fun x1 => (if x1 = p1 then ((xo ((some a3)))) else ((M_listNamed_b29 t p1 a3)))))) else ((xo ((some ((-1) : Int32)))))
noncomputable def M_listNamed_b2 (t : moS) (p1 : Int64) (a3 : Int32) : Option Int32 := lp (fun x => M_listNamed_s2 t p1 x) (a3)
noncomputable def M_listNamed (t : moS) (p1 : Int64) : Option Int32 := (M_listNamed_b2 t p1 (0 : Int32))
set_option maxRecDepth 100000 in
set_option maxHeartbeats 4000000 in
theorem k_listNamed (base : Nat) (sa : Nat → Nat) {C : Nat × Nat} {R : pmM} {m : Nat} {q : Nat → Nat} {t : moS} {kc ks : Nat} {Rt : pmR} {p1 : Int64} {r : Int32} (hw : mW C R base m q t kc ks) (h : M_listNamed t p1 = (some r)) (k : Rt (some (.int r)) (moM R m q t) kc ks) : kP_Mo_listNamed base sa [.ref m, .long p1] (moM R m q t) kc ks Rt := by
  refine ⟨Nat.le_of_ble_eq_true rfl, fun G hG => ?_⟩
  have b2 : ∀ (n : Nat) (a3 : Int32), JJ C R base m G 2 [(0, .ref m), (1, .long p1), (3, .int a3)] [] q t kc ks (lpN (fun x => M_listNamed_s2 t p1 x) n (a3)) (some r) := by
    intro n
    induction n with
    | zero => intro a3; exact jj_lp0
    | succ n ih2 =>
      intro a3
      refine jj_lpS (fun y2 c2 => ?_)
      have b29 : ∀ (a3 : Int32), JJ C R base m G 29 [(0, .ref m), (1, .long p1), (3, .int a3)] [] q t kc ks (M_listNamed_b29 t p1 a3) (some y2) := by
        intro a3
        refine jj_inc hG rfl (Nat.le_of_ble_eq_true rfl) rfl cc_i1 ?_
        refine jj_go hG (t := 2) rfl rfl ?_
        exact jj_back c2 (jj_wl hG [1, 2, 0] rfl (ih2 _))
      refine (show JJ C R base m G 2 [(0, .ref m), (1, .long p1), (3, .int a3)] [] q t kc ks (M_listNamed_s2 t p1 a3) (some y2) from ?_)
      refine jjs hG rfl rfl ?_
      refine jjs hG rfl rfl ?_
      refine jj_gi hG (k := 27) rfl rfl rfl rfl ?_
      refine jj_ige hG (t := 35) rfl rfl ?_ ?_
      · refine jj_exit c2 ?_
        refine jj_ic hG rfl cc_im1 ?_
        exact jj_ri hG rfl rfl rfl k
      refine jjs hG rfl rfl ?_
      refine jj_lc hG (c := 0) (v := 0) rfl rfl ?_
      refine jjs hG rfl rfl ?_
      refine jj_leq hG (t := 29) rfl rfl ?_ ?_
      · exact jj_wl hG [0, 1, 2] rfl (b29 _)
      refine jjs hG rfl rfl ?_
      refine jj_gr hG (k := 28) rfl rfl rfl rfl ?_
      refine jjs hG rfl rfl ?_
      refine jj_la hG (k := 28) rfl rfl rfl (fun x1 => ?_)
      refine jjs hG rfl rfl ?_
      refine jjs hG rfl rfl ?_
      refine jj_lne hG (t := 29) rfl rfl ?_ ?_
      · exact jj_wl hG [0, 1, 2] rfl (b29 _)
      refine jj_exit c2 ?_
      refine jjs hG rfl rfl ?_
      exact jj_ri hG rfl rfl rfl k
  refine (show JJ C R base m G 0 [(0, .ref m), (1, .long p1)] [] q t kc ks (M_listNamed t p1) (some r) from ?_) hw h
  refine jj_ic hG rfl cc_i0 ?_
  refine jjc hG rfl rfl (Nat.le_of_ble_eq_true rfl) ?_
  refine jj_lp (fun n => ?_)
  exact jj_wl hG [1, 2, 0] rfl (b2 n _)
noncomputable def M_interfaceTo_s4 (t : moS) (p1 : Int32) (p2 : Int32) (a3 : Int32) : Option ((Int32) ⊕ Int32) := Option.bind (rdI t 70 p1) (fun x1 => (if a3 < (((4 : Int32) * p1) + x1) then (Option.bind (rdI t 71 a3) (fun x2 => (if x2 = p2 then ((xo ((some a3)))) else ((some (.inl ((a3 + (1 : Int32))))))))) else ((xo ((some ((-1) : Int32)))))))
noncomputable def M_interfaceTo_b4 (t : moS) (p1 : Int32) (p2 : Int32) (a3 : Int32) : Option Int32 := lp (fun x => M_interfaceTo_s4 t p1 p2 x) (a3)
noncomputable def M_interfaceTo (t : moS) (p1 : Int32) (p2 : Int32) : Option Int32 := (M_interfaceTo_b4 t p1 p2 ((4 : Int32) * p1))
set_option maxRecDepth 100000 in
set_option maxHeartbeats 4000000 in
theorem k_interfaceTo (base : Nat) (sa : Nat → Nat) {C : Nat × Nat} {R : pmM} {m : Nat} {q : Nat → Nat} {t : moS} {kc ks : Nat} {Rt : pmR} {p1 : Int32} {p2 : Int32} {r : Int32} (hw : mW C R base m q t kc ks) (h : M_interfaceTo t p1 p2 = (some r)) (k : Rt (some (.int r)) (moM R m q t) kc ks) : kP_Mo_interfaceTo base sa [.ref m, .int p1, .int p2] (moM R m q t) kc ks Rt := by
  refine ⟨Nat.le_of_ble_eq_true rfl, fun G hG => ?_⟩
  have b4 : ∀ (n : Nat) (a3 : Int32), JJ C R base m G 4 [(0, .ref m), (1, .int p1), (2, .int p2), (3, .int a3)] [] q t kc ks (lpN (fun x => M_interfaceTo_s4 t p1 p2 x) n (a3)) (some r) := by
    intro n
    induction n with
    | zero => intro a3; exact jj_lp0
    | succ n ih4 =>
      intro a3
      refine jj_lpS (fun y4 c4 => ?_)
      refine (show JJ C R base m G 4 [(0, .ref m), (1, .int p1), (2, .int p2), (3, .int a3)] [] q t kc ks (M_interfaceTo_s4 t p1 p2 a3) (some y4) from ?_)
      refine jjs hG rfl rfl ?_
      refine jj_ic hG rfl cc_i4 ?_
      refine jjs hG rfl rfl ?_
      refine jjs hG rfl rfl ?_
      refine jjs hG rfl rfl ?_
      refine jj_gr hG (k := 70) rfl rfl rfl rfl ?_
      refine jjs hG rfl rfl ?_
      refine jj_ia hG (k := 70) rfl rfl rfl (fun x1 => ?_)
      refine jjs hG rfl rfl ?_
      refine jj_ige hG (t := 36) rfl rfl ?_ ?_
      · refine jj_exit c4 ?_
        refine jj_ic hG rfl cc_im1 ?_
        exact jj_ri hG rfl rfl rfl k
      refine jjs hG rfl rfl ?_
      refine jj_gr hG (k := 71) rfl rfl rfl rfl ?_
      refine jjs hG rfl rfl ?_
      refine jj_ia hG (k := 71) rfl rfl rfl (fun x2 => ?_)
      refine jjs hG rfl rfl ?_
      refine jj_ine hG (t := 30) rfl rfl ?_ ?_
      · refine jj_inc hG rfl (Nat.le_of_ble_eq_true rfl) rfl cc_i1 ?_
        refine jj_go hG (t := 4) rfl rfl ?_
        exact jj_back c4 (jj_wl hG [1, 2, 3, 0] rfl (ih4 _))
      refine jj_exit c4 ?_
      refine jjs hG rfl rfl ?_
      exact jj_ri hG rfl rfl rfl k
  refine (show JJ C R base m G 0 [(0, .ref m), (1, .int p1), (2, .int p2)] [] q t kc ks (M_interfaceTo t p1 p2) (some r) from ?_) hw h
  refine jj_ic hG rfl cc_i4 ?_
  refine jjs hG rfl rfl ?_
  refine jjs hG rfl rfl ?_
  refine jjc hG rfl rfl (Nat.le_of_ble_eq_true rfl) ?_
  refine jj_lp (fun n => ?_)
  exact jj_wl hG [1, 2, 3, 0] rfl (b4 n _)
noncomputable def M_plain_s42 (t : moS) (p2 : Int32) (p3 : Int32) (a5 : Int32) (a6 : Int32) : Option ((Int32 × Int32) ⊕ Int32) := if a6 < p2 then (Option.bind (rdI t 2 a6) (fun x1 => (if (M_isDigit x1) = 0 then ((xo ((some ((-1) : Int32))))) else (Option.bind (rdI t 2 a6) (fun x2 => ((some (.inl (((((10 : Int32) * a5) + x2) - (48 : Int32)), (a6 + (1 : Int32))))))))))) else ((xo (if p3 < a5 then ((some ((-1) : Int32))) else ((some a5)))))
noncomputable def M_plain_b42 (t : moS) (p2 : Int32) (p3 : Int32) (a5 : Int32) (a6 : Int32) : Option Int32 := lp (fun x => M_plain_s42 t p2 p3 x.1 x.2) (a5, a6)
noncomputable def M_plain_b36 (t : moS) (p1 : Int32) (p2 : Int32) (p3 : Int32) : Option Int32 := (M_plain_b42 t p2 p3 (0 : Int32) p1)
noncomputable def M_plain (t : moS) (p1 : Int32) (p2 : Int32) (p3 : Int32) : Option Int32 := if (p2 - p1) < (1 : Int32) then ((some ((-1) : Int32))) else (if (3 : Int32) < (p2 - p1) then ((some ((-1) : Int32))) else (if (1 : Int32) < (p2 - p1) then (Option.bind (rdI t 2 p1) (fun x1 => (if x1 = (48 : Int32) then ((some ((-1) : Int32))) else ((M_plain_b36 t p1 p2 p3))))) else ((M_plain_b36 t p1 p2 p3))))
set_option maxRecDepth 100000 in
set_option maxHeartbeats 4000000 in
theorem k_plain (base : Nat) (sa : Nat → Nat) {C : Nat × Nat} {R : pmM} {m : Nat} {q : Nat → Nat} {t : moS} {kc ks : Nat} {Rt : pmR} {p1 : Int32} {p2 : Int32} {p3 : Int32} {r : Int32} (hw : mW C R base m q t kc ks) (h : M_plain t p1 p2 p3 = (some r)) (k : Rt (some (.int r)) (moM R m q t) kc ks) : kP_Mo_plain base sa [.ref m, .int p1, .int p2, .int p3] (moM R m q t) kc ks Rt := by
  refine ⟨Nat.le_of_ble_eq_true rfl, fun G hG => ?_⟩
  have b42 : ∀ (n : Nat) (a5 : Int32) (a6 : Int32), JJ C R base m G 42 [(0, .ref m), (2, .int p2), (3, .int p3), (5, .int a5), (6, .int a6)] [] q t kc ks (lpN (fun x => M_plain_s42 t p2 p3 x.1 x.2) n (a5, a6)) (some r) := by
    intro n
    induction n with
    | zero => intro a5 a6; exact jj_lp0
    | succ n ih42 =>
      intro a5 a6
      refine jj_lpS (fun y42 c42 => ?_)
      refine (show JJ C R base m G 42 [(0, .ref m), (2, .int p2), (3, .int p3), (5, .int a5), (6, .int a6)] [] q t kc ks (M_plain_s42 t p2 p3 a5 a6) (some y42) from ?_)
      refine jjs hG rfl rfl ?_
      refine jjs hG rfl rfl ?_
      refine jj_ige hG (t := 87) rfl rfl ?_ ?_
      · refine jj_exit c42 ?_
        refine jjs hG rfl rfl ?_
        refine jjs hG rfl rfl ?_
        refine jj_ile hG (t := 97) rfl rfl ?_ ?_
        · refine jjs hG rfl rfl ?_
          exact jj_ri hG rfl rfl rfl k
        refine jj_ic hG rfl cc_im1 ?_
        refine jj_go hG (t := 99) rfl rfl ?_
        exact jj_ri hG rfl rfl rfl k
      refine jjs hG rfl rfl ?_
      refine jj_gr hG (k := 2) rfl rfl rfl rfl ?_
      refine jjs hG rfl rfl ?_
      refine jj_ia hG (k := 2) rfl rfl rfl (fun x1 => ?_)
      refine jj_ct hG 2 rfl rfl (Nat.le_of_ble_eq_true rfl) (by decide) (Nat.le_of_ble_eq_true rfl) rfl (st' := []) rfl (v := .int (M_isDigit x1)) (fun _ hw k => k_isDigit base sa hw rfl k) ?_
      refine jj_zne hG (t := 63) rfl rfl ?_ ?_
      · refine jj_bi hG rfl cc_b10 ?_
        refine jjs hG rfl rfl ?_
        refine jjs hG rfl rfl ?_
        refine jjs hG rfl rfl ?_
        refine jj_gr hG (k := 2) rfl rfl rfl rfl ?_
        refine jjs hG rfl rfl ?_
        refine jj_ia hG (k := 2) rfl rfl rfl (fun x2 => ?_)
        refine jjs hG rfl rfl ?_
        refine jj_bi hG rfl cc_b48 ?_
        refine jjs hG rfl rfl ?_
        refine jjc hG rfl rfl (Nat.le_of_ble_eq_true rfl) ?_
        refine jj_inc hG rfl (Nat.le_of_ble_eq_true rfl) rfl cc_i1 ?_
        refine jj_go hG (t := 42) rfl rfl ?_
        exact jj_back c42 (jj_wl hG [2, 3, 4, 1, 0] rfl (ih42 _ _))
      refine jj_exit c42 ?_
      refine jj_ic hG rfl cc_im1 ?_
      exact jj_ri hG rfl rfl rfl k
  have b36 : JJ C R base m G 36 [(0, .ref m), (1, .int p1), (2, .int p2), (3, .int p3)] [] q t kc ks (M_plain_b36 t p1 p2 p3) (some r) := by
    refine jj_ic hG rfl cc_i0 ?_
    refine jjc hG rfl rfl (Nat.le_of_ble_eq_true rfl) ?_
    refine jjs hG rfl rfl ?_
    refine jjc hG rfl rfl (Nat.le_of_ble_eq_true rfl) ?_
    refine jj_lp (fun n => ?_)
    exact jj_wl hG [2, 4, 5, 1, 0] rfl (b42 n _ _)
  refine (show JJ C R base m G 0 [(0, .ref m), (1, .int p1), (2, .int p2), (3, .int p3)] [] q t kc ks (M_plain t p1 p2 p3) (some r) from ?_) hw h
  refine jjs hG rfl rfl ?_
  refine jjs hG rfl rfl ?_
  refine jjs hG rfl rfl ?_
  refine jjc hG rfl rfl (Nat.le_of_ble_eq_true rfl) ?_
  refine jjs hG rfl rfl ?_
  refine jj_ic hG rfl cc_i1 ?_
  refine jj_ilt hG (t := 34) rfl rfl ?_ ?_
  · refine jj_ic hG rfl cc_im1 ?_
    exact jj_ri hG rfl rfl rfl k
  refine jjs hG rfl rfl ?_
  refine jj_ic hG rfl cc_i3 ?_
  refine jj_igt hG (t := 34) rfl rfl ?_ ?_
  · refine jj_ic hG rfl cc_im1 ?_
    exact jj_ri hG rfl rfl rfl k
  refine jjs hG rfl rfl ?_
  refine jj_ic hG rfl cc_i1 ?_
  refine jj_ile hG (t := 36) rfl rfl ?_ ?_
  · exact jj_wl hG [1, 2, 3, 4] rfl (b36)
  refine jjs hG rfl rfl ?_
  refine jj_gr hG (k := 2) rfl rfl rfl rfl ?_
  refine jjs hG rfl rfl ?_
  refine jj_ia hG (k := 2) rfl rfl rfl (fun x1 => ?_)
  refine jj_bi hG rfl cc_b48 ?_
  refine jj_ine hG (t := 36) rfl rfl ?_ ?_
  · exact jj_wl hG [1, 2, 3, 4] rfl (b36)
  refine jj_ic hG rfl cc_im1 ?_
  exact jj_ri hG rfl rfl rfl k
noncomputable def M_readFour_b83 (t : moS) (p2 : Int32) (a3 : Int64) (a6 : Int32) (a7 : Int32) (a8 : Int32) (u0 : Int32) (u1 : Int32) : Option ((Int64 × Int32 × Int32 × moS) ⊕ (Int32 × moS)) := if u0 = u1 then ((xo ((some ((0 : Int32), t))))) else ((some (.inl (((a3 <<< ((Int32.toInt64 (8 : Int32)) &&& 63)) ||| (Int32.toInt64 a8)), (a7 + (1 : Int32)), (a6 + (1 : Int32)), t))))
noncomputable def M_readFour_b72 (t : moS) (p2 : Int32) (a3 : Int64) (a6 : Int32) (a7 : Int32) (a8 : Int32) (u0 : Int32) : Option ((Int64 × Int32 × Int32 × moS) ⊕ (Int32 × moS)) := if a7 = p2 then ((M_readFour_b83 t p2 a3 a6 a7 a8 u0 (1 : Int32))) else ((M_readFour_b83 t p2 a3 a6 a7 a8 u0 (0 : Int32)))
noncomputable def M_readFour_b42 (t : moS) (p2 : Int32) (a3 : Int64) (a5 : Int32) (a6 : Int32) (a7 : Int32) : Option ((Int64 × Int32 × Int32 × moS) ⊕ (Int32 × moS)) := Option.bind (M_plain t a5 a7 (255 : Int32)) (fun x1 => (if x1 = ((-1) : Int32) then ((xo ((some ((0 : Int32), t))))) else (if a6 < (3 : Int32) then ((M_readFour_b72 t p2 a3 a6 a7 x1 (1 : Int32))) else ((M_readFour_b72 t p2 a3 a6 a7 x1 (0 : Int32))))))
noncomputable def M_readFour_s18 (t : moS) (p2 : Int32) (a3 : Int64) (a5 : Int32) (a6 : Int32) (a7 : Int32) : Option ((Int32 × moS) ⊕ ((Int64 × Int32 × Int32 × moS) ⊕ (Int32 × moS))) := if a7 < p2 then (Option.bind (rdI t 2 a7) (fun x1 => (if x1 = (46 : Int32) then ((xo (M_readFour_b42 t p2 a3 a5 a6 a7))) else ((some (.inl ((a7 + (1 : Int32)), t))))))) else ((xo (M_readFour_b42 t p2 a3 a5 a6 a7)))
noncomputable def M_readFour_b18 (t : moS) (p2 : Int32) (a3 : Int64) (a5 : Int32) (a6 : Int32) (a7 : Int32) : Option ((Int64 × Int32 × Int32 × moS) ⊕ (Int32 × moS)) := lp (fun x => M_readFour_s18 x.2 p2 a3 a5 a6 x.1) (a7, t)
noncomputable def M_readFour_s8 (t : moS) (p2 : Int32) (a3 : Int64) (a5 : Int32) (a6 : Int32) : Option ((Int64 × Int32 × Int32 × moS) ⊕ (Int32 × moS)) := if a6 < (4 : Int32) then ((M_readFour_b18 t p2 a3 a5 a6 a5)) else ((xo (letS (moSS t 12 (0 : Int32)) (fun s1 => (letS (moSZ s1 13 (a3 <<< ((Int32.toInt64 (32 : Int32)) &&& 63))) (fun s2 => (letS (moSZ s2 14 (0 : Int64)) (fun s3 => ((some ((1 : Int32), s3)))))))))))
noncomputable def M_readFour_b8 (t : moS) (p2 : Int32) (a3 : Int64) (a5 : Int32) (a6 : Int32) : Option (Int32 × moS) := lp (fun x => M_readFour_s8 x.2.2.2 p2 x.1 x.2.1 x.2.2.1) (a3, a5, a6, t)
noncomputable def M_readFour (t : moS) (p1 : Int32) (p2 : Int32) : Option (Int32 × moS) := (M_readFour_b8 t p2 (0 : Int64) p1 (0 : Int32))
set_option maxRecDepth 100000 in
set_option maxHeartbeats 4000000 in
theorem k_readFour (base : Nat) (sa : Nat → Nat) {C : Nat × Nat} {R : pmM} {m : Nat} {q : Nat → Nat} {t tz : moS} {kc ks : Nat} {Rt : pmR} {p1 : Int32} {p2 : Int32} {r : Int32} (hw : mW C R base m q t kc ks) (h : M_readFour t p1 p2 = (some (r, tz))) (k : mW C R base m q tz kc ks → Rt (some (.int r)) (moM R m q tz) kc ks) : kP_Mo_readFour base sa [.ref m, .int p1, .int p2] (moM R m q t) kc ks Rt := by
  refine ⟨Nat.le_of_ble_eq_true rfl, fun G hG => ?_⟩
  have b8 : ∀ (n : Nat) (a3 : Int64) (a5 : Int32) (a6 : Int32) (t : moS), JJ C R base m G 8 [(0, .ref m), (2, .int p2), (3, .long a3), (5, .int a5), (6, .int a6)] [] q t kc ks (lpN (fun x => M_readFour_s8 x.2.2.2 p2 x.1 x.2.1 x.2.2.1) n (a3, a5, a6, t)) (some (r, tz)) := by
    intro n
    induction n with
    | zero => intro a3 a5 a6 t; exact jj_lp0
    | succ n ih8 =>
      intro a3 a5 a6 t
      refine jj_lpS (fun y8 c8 => ?_)
      have b83 : ∀ (a3 : Int64) (a6 : Int32) (a7 : Int32) (a8 : Int32) (u0 : Int32) (u1 : Int32) (t : moS), JJ C R base m G 83 [(0, .ref m), (2, .int p2), (3, .long a3), (6, .int a6), (7, .int a7), (8, .int a8)] [.int u1, .int u0] q t kc ks (M_readFour_b83 t p2 a3 a6 a7 a8 u0 u1) (some y8) := by
        intro a3 a6 a7 a8 u0 u1 t
        refine jj_ine hG (t := 88) rfl rfl ?_ ?_
        · refine jjs hG rfl rfl ?_
          refine jj_bi hG rfl cc_b8 ?_
          refine jjs hG rfl rfl ?_
          refine jjs hG rfl rfl ?_
          refine jjs hG rfl rfl ?_
          refine jjs hG rfl rfl ?_
          refine jjc hG rfl rfl (Nat.le_of_ble_eq_true rfl) ?_
          refine jjs hG rfl rfl ?_
          refine jj_ic hG rfl cc_i1 ?_
          refine jjs hG rfl rfl ?_
          refine jjc hG rfl rfl (Nat.le_of_ble_eq_true rfl) ?_
          refine jj_inc hG rfl (Nat.le_of_ble_eq_true rfl) rfl cc_i1 ?_
          refine jj_at (pc' := 106) rfl ?_
          refine jj_go hG (t := 8) rfl rfl ?_
          exact jj_back c8 (jj_wl hG [3, 4, 2, 1, 0] rfl (ih8 _ _ _ _))
        refine jj_exit c8 ?_
        refine jj_ic hG rfl cc_i0 ?_
        exact jj_riS hG rfl rfl rfl k
      have b72 : ∀ (a3 : Int64) (a6 : Int32) (a7 : Int32) (a8 : Int32) (u0 : Int32) (t : moS), JJ C R base m G 72 [(0, .ref m), (2, .int p2), (3, .long a3), (6, .int a6), (7, .int a7), (8, .int a8)] [.int u0] q t kc ks (M_readFour_b72 t p2 a3 a6 a7 a8 u0) (some y8) := by
        intro a3 a6 a7 a8 u0 t
        refine jjs hG rfl rfl ?_
        refine jjs hG rfl rfl ?_
        refine jj_ine hG (t := 82) rfl rfl ?_ ?_
        · refine jj_ic hG rfl cc_i0 ?_
          exact jj_wl hG [0, 1, 2, 3, 4, 5] rfl (b83 _ _ _ _ _ _ _)
        refine jj_ic hG rfl cc_i1 ?_
        refine jj_go hG (t := 83) rfl rfl ?_
        exact jj_wl hG [0, 1, 2, 3, 4, 5] rfl (b83 _ _ _ _ _ _ _)
      have b42 : ∀ (a3 : Int64) (a5 : Int32) (a6 : Int32) (a7 : Int32) (t : moS), JJ C R base m G 42 [(0, .ref m), (2, .int p2), (3, .long a3), (5, .int a5), (6, .int a6), (7, .int a7)] [] q t kc ks (M_readFour_b42 t p2 a3 a5 a6 a7) (some y8) := by
        intro a3 a5 a6 a7 t
        refine jjs hG rfl rfl ?_
        refine jjs hG rfl rfl ?_
        refine jjs hG rfl rfl ?_
        refine jj_si hG rfl cc_s255 ?_
        refine jj_cp hG 0 rfl rfl (Nat.le_of_ble_eq_true rfl) (by decide) (Nat.le_of_ble_eq_true rfl) rfl (st' := []) rfl (w := .int) (fun _ _ hw h k => pm_rcv_of moM_m (k_plain base sa hw h k)) (fun x1 => ?_)
        refine jjc hG rfl rfl (Nat.le_of_ble_eq_true rfl) ?_
        refine jjs hG rfl rfl ?_
        refine jj_ic hG rfl cc_im1 ?_
        refine jj_ieq hG (t := 86) rfl rfl ?_ ?_
        · refine jj_exit c8 ?_
          refine jj_ic hG rfl cc_i0 ?_
          exact jj_riS hG rfl rfl rfl k
        refine jjs hG rfl rfl ?_
        refine jj_ic hG rfl cc_i3 ?_
        refine jj_ige hG (t := 71) rfl rfl ?_ ?_
        · refine jj_ic hG rfl cc_i0 ?_
          exact jj_wl hG [1, 2, 3, 5, 6, 0] rfl (b72 _ _ _ _ _ _)
        refine jj_ic hG rfl cc_i1 ?_
        refine jj_go hG (t := 72) rfl rfl ?_
        exact jj_wl hG [1, 2, 3, 5, 6, 0] rfl (b72 _ _ _ _ _ _)
      have b18 : ∀ (a3 : Int64) (a5 : Int32) (a6 : Int32) (n : Nat) (a7 : Int32) (t : moS), JJ C R base m G 18 [(0, .ref m), (2, .int p2), (3, .long a3), (5, .int a5), (6, .int a6), (7, .int a7)] [] q t kc ks (lpN (fun x => M_readFour_s18 x.2 p2 a3 a5 a6 x.1) n (a7, t)) (some y8) := by
        intro a3 a5 a6 n
        induction n with
        | zero => intro a7 t; exact jj_lp0
        | succ n ih18 =>
          intro a7 t
          refine jj_lpS (fun y18 c18 => ?_)
          refine (show JJ C R base m G 18 [(0, .ref m), (2, .int p2), (3, .long a3), (5, .int a5), (6, .int a6), (7, .int a7)] [] q t kc ks (M_readFour_s18 t p2 a3 a5 a6 a7) (some y18) from ?_)
          refine jjs hG rfl rfl ?_
          refine jjs hG rfl rfl ?_
          refine jj_ige hG (t := 42) rfl rfl ?_ ?_
          · refine jj_exit c18 ?_
            exact jj_wl hG [0, 1, 2, 3, 4, 5] rfl (b42 _ _ _ _ _)
          refine jjs hG rfl rfl ?_
          refine jj_gr hG (k := 2) rfl rfl rfl rfl ?_
          refine jjs hG rfl rfl ?_
          refine jj_ia hG (k := 2) rfl rfl rfl (fun x1 => ?_)
          refine jj_bi hG rfl cc_b46 ?_
          refine jj_ieq hG (t := 42) rfl rfl ?_ ?_
          · refine jj_exit c18 ?_
            exact jj_wl hG [0, 1, 2, 3, 4, 5] rfl (b42 _ _ _ _ _)
          refine jj_inc hG rfl (Nat.le_of_ble_eq_true rfl) rfl cc_i1 ?_
          refine jj_go hG (t := 18) rfl rfl ?_
          exact jj_back c18 (jj_wl hG [1, 2, 3, 4, 5, 0] rfl (ih18 _ _))
      refine (show JJ C R base m G 8 [(0, .ref m), (2, .int p2), (3, .long a3), (5, .int a5), (6, .int a6)] [] q t kc ks (M_readFour_s8 t p2 a3 a5 a6) (some y8) from ?_)
      refine jjs hG rfl rfl ?_
      refine jj_ic hG rfl cc_i4 ?_
      refine jj_ige hG (t := 109) rfl rfl ?_ ?_
      · refine jj_exit c8 ?_
        refine jjs hG rfl rfl ?_
        refine jj_ic hG rfl cc_i0 ?_
        refine jj_pi hG (k := 12) rfl rfl rfl rfl (fun s1 => ?_)
        refine jjs hG rfl rfl ?_
        refine jjs hG rfl rfl ?_
        refine jj_bi hG rfl cc_b32 ?_
        refine jjs hG rfl rfl ?_
        refine jj_pz hG (k := 13) rfl rfl rfl rfl (fun s2 => ?_)
        refine jjs hG rfl rfl ?_
        refine jj_lc hG (c := 0) (v := 0) rfl rfl ?_
        refine jj_pz hG (k := 14) rfl rfl rfl rfl (fun s3 => ?_)
        refine jj_ic hG rfl cc_i1 ?_
        exact jj_riS hG rfl rfl rfl k
      refine jjs hG rfl rfl ?_
      refine jjc hG rfl rfl (Nat.le_of_ble_eq_true rfl) ?_
      refine jj_lp (fun n => ?_)
      exact jj_wl hG [1, 2, 3, 4, 5, 0] rfl (b18 _ _ _ n _ _)
  refine (show JJ C R base m G 0 [(0, .ref m), (1, .int p1), (2, .int p2)] [] q t kc ks (M_readFour t p1 p2) (some (r, tz)) from ?_) hw h
  refine jj_lc hG (c := 0) (v := 0) rfl rfl ?_
  refine jjc hG rfl rfl (Nat.le_of_ble_eq_true rfl) ?_
  refine jjs hG rfl rfl ?_
  refine jjc hG rfl rfl (Nat.le_of_ble_eq_true rfl) ?_
  refine jj_ic hG rfl cc_i0 ?_
  refine jjc hG rfl rfl (Nat.le_of_ble_eq_true rfl) ?_
  refine jj_lp (fun n => ?_)
  exact jj_wl hG [3, 5, 2, 1, 0] rfl (b8 n _ _ _ _)
noncomputable def M_hexadecimal_b54 : Int32 := ((-1) : Int32)
noncomputable def M_hexadecimal_b32 (p0 : Int32) : Int32 := if p0 < (65 : Int32) then ((M_hexadecimal_b54)) else (if (70 : Int32) < p0 then ((M_hexadecimal_b54)) else (((p0 - (65 : Int32)) + (10 : Int32))))
noncomputable def M_hexadecimal (p0 : Int32) : Int32 := if (M_isDigit p0) = 0 then (if p0 < (97 : Int32) then ((M_hexadecimal_b32 p0)) else (if (102 : Int32) < p0 then ((M_hexadecimal_b32 p0)) else (((p0 - (97 : Int32)) + (10 : Int32))))) else ((p0 - (48 : Int32)))
set_option maxRecDepth 100000 in
set_option maxHeartbeats 4000000 in
theorem k_hexadecimal (base : Nat) (sa : Nat → Nat) {C : Nat × Nat} {R : pmM} {m : Nat} {q : Nat → Nat} {t : moS} {kc ks : Nat} {Rt : pmR} {p0 : Int32} {r : Int32} (hw : mW C R base m q t kc ks) (h : M_hexadecimal p0 = r) (k : Rt (some (.int r)) (moM R m q t) kc ks) : kP_Mo_hexadecimal base sa [.int p0] (moM R m q t) kc ks Rt := by
  refine ⟨Nat.le_of_ble_eq_true rfl, fun G hG => ?_⟩
  have b54 : JJ C R base m G 54 [] [] q t kc ks M_hexadecimal_b54 r := by
    refine jj_ic hG rfl cc_im1 ?_
    exact jj_rit hG rfl rfl rfl k
  have b32 : JJ C R base m G 32 [(0, .int p0)] [] q t kc ks (M_hexadecimal_b32 p0) r := by
    refine jjs hG rfl rfl ?_
    refine jj_bi hG rfl cc_b65 ?_
    refine jj_ilt hG (t := 54) rfl rfl ?_ ?_
    · exact jj_wl hG [] rfl (b54)
    refine jjs hG rfl rfl ?_
    refine jj_bi hG rfl cc_b70 ?_
    refine jj_igt hG (t := 54) rfl rfl ?_ ?_
    · exact jj_wl hG [] rfl (b54)
    refine jjs hG rfl rfl ?_
    refine jj_bi hG rfl cc_b65 ?_
    refine jjs hG rfl rfl ?_
    refine jj_bi hG rfl cc_b10 ?_
    refine jjs hG rfl rfl ?_
    refine jj_go hG (t := 55) rfl rfl ?_
    exact jj_rit hG rfl rfl rfl k
  refine (show JJ C R base m G 0 [(0, .int p0)] [] q t kc ks (M_hexadecimal p0) r from ?_) hw h
  refine jjs hG rfl rfl ?_
  refine jj_ct hG 2 rfl rfl (Nat.le_of_ble_eq_true rfl) (by decide) (Nat.le_of_ble_eq_true rfl) rfl (st' := []) rfl (v := .int (M_isDigit p0)) (fun _ hw k => k_isDigit base sa hw rfl k) ?_
  refine jj_zeq hG (t := 12) rfl rfl ?_ ?_
  · refine jjs hG rfl rfl ?_
    refine jj_bi hG rfl cc_b97 ?_
    refine jj_ilt hG (t := 32) rfl rfl ?_ ?_
    · exact jj_wl hG [0] rfl (b32)
    refine jjs hG rfl rfl ?_
    refine jj_bi hG rfl cc_b102 ?_
    refine jj_igt hG (t := 32) rfl rfl ?_ ?_
    · exact jj_wl hG [0] rfl (b32)
    refine jjs hG rfl rfl ?_
    refine jj_bi hG rfl cc_b97 ?_
    refine jjs hG rfl rfl ?_
    refine jj_bi hG rfl cc_b10 ?_
    refine jjs hG rfl rfl ?_
    exact jj_rit hG rfl rfl rfl k
  refine jjs hG rfl rfl ?_
  refine jj_bi hG rfl cc_b48 ?_
  refine jjs hG rfl rfl ?_
  exact jj_rit hG rfl rfl rfl k
