/-! The model as functions, by program: summaryFor .. mostEntries -/
noncomputable def M_summaryFor_b82 (t : moS) (p1 : Int32) (p2 : Int32) (a3 : Int32) : Option ((Int32) ⊕ Int32) := (some (.inl ((a3 + (1 : Int32)))))
noncomputable def M_summaryFor_s2 (t : moS) (p1 : Int32) (p2 : Int32) (a3 : Int32) : Option ((Int32) ⊕ Int32) := Option.bind (rdI t 90 p1) (fun x1 => (if a3 < x1 then (Option.bind (rdI t 91 (((4 : Int32) * p1) + a3)) (fun x2 => (Option.bind (rdI t 106 p2) (fun x3 => (if x2 = x3 then (Option.bind (rdJ t 92 (((4 : Int32) * p1) + a3)) (fun x4 => (Option.bind (rdJ t 93 (((4 : Int32) * p1) + a3)) (fun x5 => (Option.bind (rdI t 94 (((4 : Int32) * p1) + a3)) (fun x6 => (Option.bind (rdJ t 107 p2) (fun x7 => (Option.bind (rdJ t 108 p2) (fun x8 => (Option.bind (rdI t 109 p2) (fun x9 => (if (M_coversPrefix x4 x5 x6 x7 x8 x9) = 0 then ((M_summaryFor_b82 t p1 p2 a3)) else ((xo ((some a3))))))))))))))))) else ((M_summaryFor_b82 t p1 p2 a3))))))) else ((xo ((some ((-1) : Int32)))))))
noncomputable def M_summaryFor_b2 (t : moS) (p1 : Int32) (p2 : Int32) (a3 : Int32) : Option Int32 := lp (fun x => M_summaryFor_s2 t p1 p2 x) (a3)
noncomputable def M_summaryFor (t : moS) (p1 : Int32) (p2 : Int32) : Option Int32 := (M_summaryFor_b2 t p1 p2 (0 : Int32))
set_option maxRecDepth 100000 in
set_option maxHeartbeats 4000000 in
theorem k_summaryFor (base : Nat) (sa : Nat → Nat) {C : Nat × Nat} {R : pmM} {m : Nat} {q : Nat → Nat} {t : moS} {kc ks : Nat} {Rt : pmR} {p1 : Int32} {p2 : Int32} {r : Int32} (hw : mW C R base m q t kc ks) (h : M_summaryFor t p1 p2 = (some r)) (k : Rt (some (.int r)) (moM R m q t) kc ks) : kP_Mo_summaryFor base sa [.ref m, .int p1, .int p2] (moM R m q t) kc ks Rt := by
  refine ⟨Nat.le_of_ble_eq_true rfl, fun G hG => ?_⟩
  have b2 : ∀ (n : Nat) (a3 : Int32), JJ C R base m G 2 [(0, .ref m), (1, .int p1), (2, .int p2), (3, .int a3)] [] q t kc ks (lpN (fun x => M_summaryFor_s2 t p1 p2 x) n (a3)) (some r) := by
    intro n
    induction n with
    | zero => intro a3; exact jj_lp0
    | succ n ih2 =>
      intro a3
      refine jj_lpS (fun y2 c2 => ?_)
      have b82 : ∀ (a3 : Int32), JJ C R base m G 82 [(0, .ref m), (1, .int p1), (2, .int p2), (3, .int a3)] [] q t kc ks (M_summaryFor_b82 t p1 p2 a3) (some y2) := by
        intro a3
        refine jj_inc hG rfl (Nat.le_of_ble_eq_true rfl) rfl cc_i1 ?_
        refine jj_go hG (t := 2) rfl rfl ?_
        exact jj_back c2 (jj_wl hG [1, 2, 3, 0] rfl (ih2 _))
      refine (show JJ C R base m G 2 [(0, .ref m), (1, .int p1), (2, .int p2), (3, .int a3)] [] q t kc ks (M_summaryFor_s2 t p1 p2 a3) (some y2) from ?_)
      refine jjs hG rfl rfl ?_
      refine jjs hG rfl rfl ?_
      refine jj_gr hG (k := 90) rfl rfl rfl rfl ?_
      refine jjs hG rfl rfl ?_
      refine jj_ia hG (k := 90) rfl rfl rfl (fun x1 => ?_)
      refine jj_ige hG (t := 88) rfl rfl ?_ ?_
      · refine jj_exit c2 ?_
        refine jj_ic hG rfl cc_im1 ?_
        exact jj_ri hG rfl rfl rfl k
      refine jj_ic hG rfl cc_i4 ?_
      refine jjs hG rfl rfl ?_
      refine jjs hG rfl rfl ?_
      refine jjs hG rfl rfl ?_
      refine jjs hG rfl rfl ?_
      refine jjc hG rfl rfl (Nat.le_of_ble_eq_true rfl) ?_
      refine jjs hG rfl rfl ?_
      refine jj_gr hG (k := 91) rfl rfl rfl rfl ?_
      refine jjs hG rfl rfl ?_
      refine jj_ia hG (k := 91) rfl rfl rfl (fun x2 => ?_)
      refine jjs hG rfl rfl ?_
      refine jj_gr hG (k := 106) rfl rfl rfl rfl ?_
      refine jjs hG rfl rfl ?_
      refine jj_ia hG (k := 106) rfl rfl rfl (fun x3 => ?_)
      refine jj_ine hG (t := 82) rfl rfl ?_ ?_
      · exact jj_wl hG [1, 2, 3, 4] rfl (b82 _)
      refine jjs hG rfl rfl ?_
      refine jj_gr hG (k := 92) rfl rfl rfl rfl ?_
      refine jjs hG rfl rfl ?_
      refine jj_la hG (k := 92) rfl rfl rfl (fun x4 => ?_)
      refine jjs hG rfl rfl ?_
      refine jj_gr hG (k := 93) rfl rfl rfl rfl ?_
      refine jjs hG rfl rfl ?_
      refine jj_la hG (k := 93) rfl rfl rfl (fun x5 => ?_)
      refine jjs hG rfl rfl ?_
      refine jj_gr hG (k := 94) rfl rfl rfl rfl ?_
      refine jjs hG rfl rfl ?_
      refine jj_ia hG (k := 94) rfl rfl rfl (fun x6 => ?_)
      refine jjs hG rfl rfl ?_
      refine jj_gr hG (k := 107) rfl rfl rfl rfl ?_
      refine jjs hG rfl rfl ?_
      refine jj_la hG (k := 107) rfl rfl rfl (fun x7 => ?_)
      refine jjs hG rfl rfl ?_
      refine jj_gr hG (k := 108) rfl rfl rfl rfl ?_
      refine jjs hG rfl rfl ?_
      refine jj_la hG (k := 108) rfl rfl rfl (fun x8 => ?_)
      refine jjs hG rfl rfl ?_
      refine jj_gr hG (k := 109) rfl rfl rfl rfl ?_
      refine jjs hG rfl rfl ?_
      refine jj_ia hG (k := 109) rfl rfl rfl (fun x9 => ?_)
      refine jj_ct hG 2 rfl rfl (Nat.le_of_ble_eq_true rfl) (by decide) (Nat.le_of_ble_eq_true rfl) rfl (st' := []) rfl (v := .int (M_coversPrefix x4 x5 x6 x7 x8 x9)) (fun _ hw k => k_coversPrefix base sa hw rfl k) ?_
      refine jj_zeq hG (t := 82) rfl rfl ?_ ?_
      · exact jj_wl hG [1, 2, 3, 4] rfl (b82 _)
      refine jj_exit c2 ?_
      refine jjs hG rfl rfl ?_
      exact jj_ri hG rfl rfl rfl k
  refine (show JJ C R base m G 0 [(0, .ref m), (1, .int p1), (2, .int p2)] [] q t kc ks (M_summaryFor t p1 p2) (some r) from ?_) hw h
  refine jj_ic hG rfl cc_i0 ?_
  refine jjc hG rfl rfl (Nat.le_of_ble_eq_true rfl) ?_
  refine jj_lp (fun n => ?_)
  exact jj_wl hG [1, 2, 3, 0] rfl (b2 n _)
noncomputable def M_besideDefault_b22 (t : moS) : Option Int32 := (some (1 : Int32))
noncomputable def M_besideDefault_b26 (t : moS) : Option Int32 := (some (0 : Int32))
noncomputable def M_besideDefault (t : moS) (p1 : Int32) (p2 : Int32) : Option Int32 := Option.bind (rdI t 99 p1) (fun x1 => (if x1 = 0 then ((M_besideDefault_b22 t)) else (if 0 < p2 then (Option.bind (rdI t 100 p1) (fun x2 => (if x2 = 0 then ((M_besideDefault_b22 t)) else ((M_besideDefault_b26 t))))) else ((M_besideDefault_b26 t)))))
set_option maxRecDepth 100000 in
set_option maxHeartbeats 4000000 in
theorem k_besideDefault (base : Nat) (sa : Nat → Nat) {C : Nat × Nat} {R : pmM} {m : Nat} {q : Nat → Nat} {t : moS} {kc ks : Nat} {Rt : pmR} {p1 : Int32} {p2 : Int32} {r : Int32} (hw : mW C R base m q t kc ks) (h : M_besideDefault t p1 p2 = (some r)) (k : Rt (some (.int r)) (moM R m q t) kc ks) : kP_Mo_besideDefault base sa [.ref m, .int p1, .int p2] (moM R m q t) kc ks Rt := by
  refine ⟨Nat.le_of_ble_eq_true rfl, fun G hG => ?_⟩
  have b22 : JJ C R base m G 22 [] [] q t kc ks (M_besideDefault_b22 t) (some r) := by
    refine jj_ic hG rfl cc_i1 ?_
    refine jj_go hG (t := 27) rfl rfl ?_
    exact jj_ri hG rfl rfl rfl k
  have b26 : JJ C R base m G 26 [] [] q t kc ks (M_besideDefault_b26 t) (some r) := by
    refine jj_ic hG rfl cc_i0 ?_
    exact jj_ri hG rfl rfl rfl k
  refine (show JJ C R base m G 0 [(0, .ref m), (1, .int p1), (2, .int p2)] [] q t kc ks (M_besideDefault t p1 p2) (some r) from ?_) hw h
  refine jjs hG rfl rfl ?_
  refine jj_gr hG (k := 99) rfl rfl rfl rfl ?_
  refine jjs hG rfl rfl ?_
  refine jj_ia hG (k := 99) rfl rfl rfl (fun x1 => ?_)
  refine jj_zeq hG (t := 22) rfl rfl ?_ ?_
  · exact jj_wl hG [] rfl (b22)
  refine jjs hG rfl rfl ?_
  refine jj_zle hG (t := 26) rfl rfl ?_ ?_
  · exact jj_wl hG [] rfl (b26)
  refine jjs hG rfl rfl ?_
  refine jj_gr hG (k := 100) rfl rfl rfl rfl ?_
  refine jjs hG rfl rfl ?_
  refine jj_ba hG (k := 100) rfl rfl rfl (fun x2 => ?_)
  refine jj_zne hG (t := 26) rfl rfl ?_ ?_
  · exact jj_wl hG [] rfl (b26)
  exact jj_wl hG [] rfl (b22)
noncomputable def M_gather_b305 (t : moS) (p1 : Int32) (p2 : Int32) (p3 : Int32) (a4 : Int32) (a5 : Int32) : Option ((Int32 × moS) ⊕ moS) := (some (.inl ((a5 + (1 : Int32)), t)))
noncomputable def M_gather_b250 (t : moS) (p1 : Int32) (p2 : Int32) (p3 : Int32) (a4 : Int32) (a5 : Int32) (u1 : Int32) (u2 : Int32) : Option ((Int32 × moS) ⊕ moS) := Option.bind (wrZ t 152 u1 u2) (fun s1 => ((M_gather_b305 s1 p1 p2 p3 a4 a5)))
noncomputable def M_gather_b245 (t : moS) (p1 : Int32) (p2 : Int32) (p3 : Int32) (a4 : Int32) (a5 : Int32) (u1 : Int32) : Option ((Int32 × moS) ⊕ moS) := (M_gather_b250 t p1 p2 p3 a4 a5 u1 (1 : Int32))
noncomputable def M_gather_b223 (t : moS) (p1 : Int32) (p2 : Int32) (p3 : Int32) (a4 : Int32) (a5 : Int32) (a7 : Int32) (a8 : Int32) (u1 : Int32) (u2 : Int32) : Option ((Int32 × moS) ⊕ moS) := Option.bind (wrI t 151 u1 u2) (fun s1 => (Option.bind (rdI s1 152 a8) (fun x2 => (if x2 = 0 then (if a7 = 0 then ((M_gather_b250 s1 p1 p2 p3 a4 a5 a8 (0 : Int32))) else ((M_gather_b245 s1 p1 p2 p3 a4 a5 a8))) else ((M_gather_b245 s1 p1 p2 p3 a4 a5 a8))))))
noncomputable def M_gather_b176 (t : moS) (p1 : Int32) (p2 : Int32) (p3 : Int32) (a4 : Int32) (a5 : Int32) (a6 : Int32) (u0 : Int32) : Option ((Int32 × moS) ⊕ moS) := Option.bind (M_summaryFor t p1 a5) (fun x1 => (if x1 = ((-1) : Int32) then (if u0 = 0 then ((M_gather_b305 t p1 p2 p3 a4 a5)) else (Option.bind (rdI t 109 a5) (fun x2 => (Option.bind (M_besideDefault t p1 x2) (fun x3 => (if x3 = 0 then ((M_gather_b305 t p1 p2 p3 a4 a5)) else (Option.bind (rdJ t 107 a5) (fun x4 => (Option.bind (rdJ t 108 a5) (fun x5 => (Option.bind (rdI t 109 a5) (fun x6 => (Option.bind (M_enter t x4 x5 x6 a6 (moS.S t 145)) (fun s7 => ((M_gather_b305 s7 p1 p2 p3 a4 a5)))))))))))))))) else (Option.bind (rdI t 151 x1) (fun x8 => (if a6 < x8 then ((M_gather_b223 t p1 p2 p3 a4 a5 u0 x1 x1 a6)) else (Option.bind (rdI t 151 x1) (fun x9 => ((M_gather_b223 t p1 p2 p3 a4 a5 u0 x1 x1 x9)))))))))
noncomputable def M_gather_b171 (t : moS) (p1 : Int32) (p2 : Int32) (p3 : Int32) (a4 : Int32) (a5 : Int32) (a6 : Int32) : Option ((Int32 × moS) ⊕ moS) := (M_gather_b176 t p1 p2 p3 a4 a5 a6 (1 : Int32))
noncomputable def M_gather_b143 (t : moS) (p1 : Int32) (p2 : Int32) (p3 : Int32) (a4 : Int32) (a5 : Int32) (a6 : Int32) : Option ((Int32 × moS) ⊕ moS) := if p3 = (2 : Int32) then ((M_gather_b305 t p1 p2 p3 a4 a5)) else (if a6 = ((-1) : Int32) then ((M_gather_b305 t p1 p2 p3 a4 a5)) else (if p3 = 0 then ((M_gather_b171 t p1 p2 p3 a4 a5 a6)) else (Option.bind (rdI t 119 a5) (fun x1 => (if x1 = 0 then ((M_gather_b176 t p1 p2 p3 a4 a5 a6 (0 : Int32))) else ((M_gather_b171 t p1 p2 p3 a4 a5 a6)))))))
noncomputable def M_gather_b102 (t : moS) (p1 : Int32) (p2 : Int32) (p3 : Int32) (a4 : Int32) (a5 : Int32) (u0 : Int32) : Option ((Int32 × moS) ⊕ moS) := if p3 = (2 : Int32) then (Option.bind (rdJ t 107 a5) (fun x1 => (Option.bind (rdJ t 108 a5) (fun x2 => (Option.bind (rdI t 109 a5) (fun x3 => (Option.bind (rdI t 112 a5) (fun x4 => (Option.bind (M_enter t x1 x2 x3 (16 : Int32) x4) (fun s5 => ((M_gather_b143 s5 p1 p2 p3 a4 a5 u0)))))))))))) else ((M_gather_b143 t p1 p2 p3 a4 a5 u0))
noncomputable def M_gather_b391 (t : moS) (p1 : Int32) (p3 : Int32) (a5 : Int32) : Option ((Int32 × moS) ⊕ moS) := (some (.inl ((a5 + (1 : Int32)), t)))
noncomputable def M_gather_s314 (t : moS) (p1 : Int32) (p3 : Int32) (a5 : Int32) : Option ((Int32 × moS) ⊕ moS) := Option.bind (rdI t 90 p1) (fun x1 => (if a5 < x1 then (Option.bind (rdI t 152 a5) (fun x5 => (if x5 = 0 then ((M_gather_b391 t p1 p3 a5)) else (Option.bind (rdI t 94 (((4 : Int32) * p1) + a5)) (fun x6 => (Option.bind (M_besideDefault t p1 x6) (fun x7 => (if x7 = 0 then ((M_gather_b391 t p1 p3 a5)) else (Option.bind (rdJ t 92 (((4 : Int32) * p1) + a5)) (fun x8 => (Option.bind (rdJ t 93 (((4 : Int32) * p1) + a5)) (fun x9 => (Option.bind (rdI t 94 (((4 : Int32) * p1) + a5)) (fun x10 => (Option.bind (rdI t 151 a5) (fun x11 => (Option.bind (M_enter t x8 x9 x10 x11 (0 : Int32)) (fun s12 => ((M_gather_b391 s12 p1 p3 a5)))))))))))))))))))) else ((xo (if p3 = 0 then (Option.bind (rdI t 99 p1) (fun x2 => (if 0 < x2 then (Option.bind (rdI t 99 p1) (fun x3 => (Option.bind (M_enter t (0 : Int64) (0 : Int64) (0 : Int32) x3 (0 : Int32)) (fun s4 => ((some s4)))))) else ((some t))))) else ((some t)))))))
noncomputable def M_gather_b314 (t : moS) (p1 : Int32) (p3 : Int32) (a5 : Int32) : Option moS := lp (fun x => M_gather_s314 x.2 p1 p3 x.1) (a5, t)
noncomputable def M_gather_s50 (t : moS) (p1 : Int32) (p2 : Int32) (p3 : Int32) (a4 : Int32) (a5 : Int32) : Option ((Int32 × moS) ⊕ moS) := Option.bind (rdI t 105 a4) (fun x1 => (if a5 < (((2700 : Int32) * a4) + x1) then (Option.bind (rdI t 106 a5) (fun x2 => (if x2 = p2 then (if p3 = (2 : Int32) then ((M_gather_b102 t p1 p2 p3 a4 a5 (16 : Int32))) else (bn2 (M_toldMetric t a4 p1 a5) (fun x4 s3 => ((M_gather_b102 s3 p1 p2 p3 a4 a5 x4))))) else ((M_gather_b305 t p1 p2 p3 a4 a5))))) else ((xo ((M_gather_b314 t p1 p3 (0 : Int32)))))))
noncomputable def M_gather_b50 (t : moS) (p1 : Int32) (p2 : Int32) (p3 : Int32) (a4 : Int32) (a5 : Int32) : Option moS := lp (fun x => M_gather_s50 x.2 p1 p2 p3 a4 x.1) (a5, t)
noncomputable def M_gather_s13 (t : moS) (p1 : Int32) (p2 : Int32) (p3 : Int32) (a4 : Int32) (a5 : Int32) : Option ((Int32 × moS) ⊕ moS) := if a5 < (4 : Int32) then (Option.bind (wrI t 151 a5 (99 : Int32)) (fun s1 => (Option.bind (wrZ s1 152 a5 (0 : Int32)) (fun s2 => ((some (.inl ((a5 + (1 : Int32)), s2)))))))) else ((xo ((M_gather_b50 t p1 p2 p3 a4 ((2700 : Int32) * a4)))))
noncomputable def M_gather_b13 (t : moS) (p1 : Int32) (p2 : Int32) (p3 : Int32) (a4 : Int32) (a5 : Int32) : Option moS := lp (fun x => M_gather_s13 x.2 p1 p2 p3 a4 x.1) (a5, t)
noncomputable def M_gather (t : moS) (p1 : Int32) (p2 : Int32) (p3 : Int32) : Option moS := letS (moSS t 139 (0 : Int32)) (fun s1 => ((M_gather_b13 s1 p1 p2 p3 (p1 / (4 : Int32)) (0 : Int32))))
set_option maxRecDepth 100000 in
set_option maxHeartbeats 4000000 in
theorem k_gather (base : Nat) (sa : Nat → Nat) {C : Nat × Nat} {R : pmM} {m : Nat} {q : Nat → Nat} {t tz : moS} {kc ks : Nat} {Rt : pmR} {p1 : Int32} {p2 : Int32} {p3 : Int32} (hw : mW C R base m q t kc ks) (h : M_gather t p1 p2 p3 = (some tz)) (k : mW C R base m q tz kc ks → Rt none (moM R m q tz) kc ks) : kP_Mo_gather base sa [.ref m, .int p1, .int p2, .int p3] (moM R m q t) kc ks Rt := by
  refine ⟨Nat.le_of_ble_eq_true rfl, fun G hG => ?_⟩
  have b314 : ∀ (n : Nat) (a5 : Int32) (t : moS), JJ C R base m G 314 [(0, .ref m), (1, .int p1), (3, .int p3), (5, .int a5)] [] q t kc ks (lpN (fun x => M_gather_s314 x.2 p1 p3 x.1) n (a5, t)) (some tz) := by
    intro n
    induction n with
    | zero => intro a5 t; exact jj_lp0
    | succ n ih314 =>
      intro a5 t
      refine jj_lpS (fun y314 c314 => ?_)
      have b391 : ∀ (a5 : Int32) (t : moS), JJ C R base m G 391 [(0, .ref m), (1, .int p1), (3, .int p3), (5, .int a5)] [] q t kc ks (M_gather_b391 t p1 p3 a5) (some y314) := by
        intro a5 t
        refine jj_inc hG rfl (Nat.le_of_ble_eq_true rfl) rfl cc_i1 ?_
        refine jj_go hG (t := 314) rfl rfl ?_
        exact jj_back c314 (jj_wl hG [1, 2, 3, 0] rfl (ih314 _ _))
      refine (show JJ C R base m G 314 [(0, .ref m), (1, .int p1), (3, .int p3), (5, .int a5)] [] q t kc ks (M_gather_s314 t p1 p3 a5) (some y314) from ?_)
      refine jjs hG rfl rfl ?_
      refine jjs hG rfl rfl ?_
      refine jj_gr hG (k := 90) rfl rfl rfl rfl ?_
      refine jjs hG rfl rfl ?_
      refine jj_ia hG (k := 90) rfl rfl rfl (fun x1 => ?_)
      refine jj_ige hG (t := 397) rfl rfl ?_ ?_
      · refine jj_exit c314 ?_
        refine jjs hG rfl rfl ?_
        refine jj_zne hG (t := 424) rfl rfl ?_ ?_
        · exact jj_rvS hG rfl rfl (k)
        refine jjs hG rfl rfl ?_
        refine jj_gr hG (k := 99) rfl rfl rfl rfl ?_
        refine jjs hG rfl rfl ?_
        refine jj_ia hG (k := 99) rfl rfl rfl (fun x2 => ?_)
        refine jj_zle hG (t := 424) rfl rfl ?_ ?_
        · exact jj_rvS hG rfl rfl (k)
        refine jjs hG rfl rfl ?_
        refine jj_lc hG (c := 0) (v := 0) rfl rfl ?_
        refine jj_lc hG (c := 0) (v := 0) rfl rfl ?_
        refine jj_ic hG rfl cc_i0 ?_
        refine jjs hG rfl rfl ?_
        refine jj_gr hG (k := 99) rfl rfl rfl rfl ?_
        refine jjs hG rfl rfl ?_
        refine jj_ia hG (k := 99) rfl rfl rfl (fun x3 => ?_)
        refine jj_ic hG rfl cc_i0 ?_
        refine jj_cv hG 0 rfl rfl (Nat.le_of_ble_eq_true rfl) (by decide) (Nat.le_of_ble_eq_true rfl) rfl (st' := []) rfl (fun _ _ hw h k => pm_rcv_of moM_m (k_enter base sa hw h k)) (fun s4 => ?_)
        exact jj_rvS hG rfl rfl (k)
      refine jj_ic hG rfl cc_i4 ?_
      refine jjs hG rfl rfl ?_
      refine jjs hG rfl rfl ?_
      refine jjs hG rfl rfl ?_
      refine jjs hG rfl rfl ?_
      refine jjc hG rfl rfl (Nat.le_of_ble_eq_true rfl) ?_
      refine jjs hG rfl rfl ?_
      refine jj_gr hG (k := 152) rfl rfl rfl rfl ?_
      refine jjs hG rfl rfl ?_
      refine jj_ba hG (k := 152) rfl rfl rfl (fun x5 => ?_)
      refine jj_zeq hG (t := 391) rfl rfl ?_ ?_
      · exact jj_wl hG [1, 2, 3, 4] rfl (b391 _ _)
      refine jjs hG rfl rfl ?_
      refine jjs hG rfl rfl ?_
      refine jjs hG rfl rfl ?_
      refine jj_gr hG (k := 94) rfl rfl rfl rfl ?_
      refine jjs hG rfl rfl ?_
      refine jj_ia hG (k := 94) rfl rfl rfl (fun x6 => ?_)
      refine jj_cp hG 0 rfl rfl (Nat.le_of_ble_eq_true rfl) (by decide) (Nat.le_of_ble_eq_true rfl) rfl (st' := []) rfl (w := .int) (fun _ _ hw h k => pm_rcv_of moM_m (k_besideDefault base sa hw h k)) (fun x7 => ?_)
      refine jj_zeq hG (t := 391) rfl rfl ?_ ?_
      · exact jj_wl hG [1, 2, 3, 4] rfl (b391 _ _)
      refine jjs hG rfl rfl ?_
      refine jjs hG rfl rfl ?_
      refine jj_gr hG (k := 92) rfl rfl rfl rfl ?_
      refine jjs hG rfl rfl ?_
      refine jj_la hG (k := 92) rfl rfl rfl (fun x8 => ?_)
      refine jjs hG rfl rfl ?_
      refine jj_gr hG (k := 93) rfl rfl rfl rfl ?_
      refine jjs hG rfl rfl ?_
      refine jj_la hG (k := 93) rfl rfl rfl (fun x9 => ?_)
      refine jjs hG rfl rfl ?_
      refine jj_gr hG (k := 94) rfl rfl rfl rfl ?_
      refine jjs hG rfl rfl ?_
      refine jj_ia hG (k := 94) rfl rfl rfl (fun x10 => ?_)
      refine jjs hG rfl rfl ?_
      refine jj_gr hG (k := 151) rfl rfl rfl rfl ?_
      refine jjs hG rfl rfl ?_
      refine jj_ia hG (k := 151) rfl rfl rfl (fun x11 => ?_)
      refine jj_ic hG rfl cc_i0 ?_
      refine jj_cv hG 0 rfl rfl (Nat.le_of_ble_eq_true rfl) (by decide) (Nat.le_of_ble_eq_true rfl) rfl (st' := []) rfl (fun _ _ hw h k => pm_rcv_of moM_m (k_enter base sa hw h k)) (fun s12 => ?_)
      exact jj_wl hG [1, 2, 3, 4] rfl (b391 _ _)
  have b50 : ∀ (a4 : Int32) (n : Nat) (a5 : Int32) (t : moS), JJ C R base m G 50 [(0, .ref m), (1, .int p1), (2, .int p2), (3, .int p3), (4, .int a4), (5, .int a5)] [] q t kc ks (lpN (fun x => M_gather_s50 x.2 p1 p2 p3 a4 x.1) n (a5, t)) (some tz) := by
    intro a4 n
    induction n with
    | zero => intro a5 t; exact jj_lp0
    | succ n ih50 =>
      intro a5 t
      refine jj_lpS (fun y50 c50 => ?_)
      have b305 : ∀ (a5 : Int32) (t : moS), JJ C R base m G 305 [(0, .ref m), (1, .int p1), (2, .int p2), (3, .int p3), (4, .int a4), (5, .int a5)] [] q t kc ks (M_gather_b305 t p1 p2 p3 a4 a5) (some y50) := by
        intro a5 t
        refine jj_inc hG rfl (Nat.le_of_ble_eq_true rfl) rfl cc_i1 ?_
        refine jj_go hG (t := 50) rfl rfl ?_
        exact jj_back c50 (jj_wl hG [1, 2, 3, 4, 5, 0] rfl (ih50 _ _))
      have b250 : ∀ (a5 : Int32) (u1 : Int32) (u2 : Int32) (t : moS), JJ C R base m G 250 [(0, .ref m), (1, .int p1), (2, .int p2), (3, .int p3), (4, .int a4), (5, .int a5)] [.int u2, .int u1, .ref (q 152)] q t kc ks (M_gather_b250 t p1 p2 p3 a4 a5 u1 u2) (some y50) := by
        intro a5 u1 u2 t
        refine jj_bs hG (k := 152) rfl rfl rfl (fun s1 => ?_)
        refine jj_go hG (t := 305) rfl rfl ?_
        exact jj_wl hG [0, 1, 2, 3, 4, 5] rfl (b305 _ _)
      have b245 : ∀ (a5 : Int32) (u1 : Int32) (t : moS), JJ C R base m G 245 [(0, .ref m), (1, .int p1), (2, .int p2), (3, .int p3), (4, .int a4), (5, .int a5)] [.int u1, .ref (q 152)] q t kc ks (M_gather_b245 t p1 p2 p3 a4 a5 u1) (some y50) := by
        intro a5 u1 t
        refine jj_ic hG rfl cc_i1 ?_
        refine jj_go hG (t := 250) rfl rfl ?_
        exact jj_wl hG [0, 1, 2, 3, 4, 5] rfl (b250 _ _ _ _)
      have b223 : ∀ (a5 : Int32) (a7 : Int32) (a8 : Int32) (u1 : Int32) (u2 : Int32) (t : moS), JJ C R base m G 223 [(0, .ref m), (1, .int p1), (2, .int p2), (3, .int p3), (4, .int a4), (5, .int a5), (7, .int a7), (8, .int a8)] [.int u2, .int u1, .ref (q 151)] q t kc ks (M_gather_b223 t p1 p2 p3 a4 a5 a7 a8 u1 u2) (some y50) := by
        intro a5 a7 a8 u1 u2 t
        refine jj_is hG (k := 151) rfl rfl rfl (fun s1 => ?_)
        refine jjs hG rfl rfl ?_
        refine jj_gr hG (k := 152) rfl rfl rfl rfl ?_
        refine jjs hG rfl rfl ?_
        refine jjs hG rfl rfl ?_
        refine jj_gr hG (k := 152) rfl rfl rfl rfl ?_
        refine jjs hG rfl rfl ?_
        refine jj_ba hG (k := 152) rfl rfl rfl (fun x2 => ?_)
        refine jj_zne hG (t := 245) rfl rfl ?_ ?_
        · exact jj_wl hG [0, 1, 2, 3, 4, 5] rfl (b245 _ _ _)
        refine jjs hG rfl rfl ?_
        refine jj_zeq hG (t := 249) rfl rfl ?_ ?_
        · refine jj_ic hG rfl cc_i0 ?_
          exact jj_wl hG [0, 1, 2, 3, 4, 5] rfl (b250 _ _ _ _)
        exact jj_wl hG [0, 1, 2, 3, 4, 5] rfl (b245 _ _ _)
      have b176 : ∀ (a5 : Int32) (a6 : Int32) (u0 : Int32) (t : moS), JJ C R base m G 176 [(0, .ref m), (1, .int p1), (2, .int p2), (3, .int p3), (4, .int a4), (5, .int a5), (6, .int a6)] [.int u0] q t kc ks (M_gather_b176 t p1 p2 p3 a4 a5 a6 u0) (some y50) := by
        intro a5 a6 u0 t
        refine jjc hG rfl rfl (Nat.le_of_ble_eq_true rfl) ?_
        refine jjs hG rfl rfl ?_
        refine jjs hG rfl rfl ?_
        refine jjs hG rfl rfl ?_
        refine jj_cp hG 0 rfl rfl (Nat.le_of_ble_eq_true rfl) (by decide) (Nat.le_of_ble_eq_true rfl) rfl (st' := []) rfl (w := .int) (fun _ _ hw h k => pm_rcv_of moM_m (k_summaryFor base sa hw h k)) (fun x1 => ?_)
        refine jjc hG rfl rfl (Nat.le_of_ble_eq_true rfl) ?_
        refine jjs hG rfl rfl ?_
        refine jj_ic hG rfl cc_im1 ?_
        refine jj_ieq hG (t := 254) rfl rfl ?_ ?_
        · refine jjs hG rfl rfl ?_
          refine jj_zeq hG (t := 305) rfl rfl ?_ ?_
          · exact jj_wl hG [2, 3, 4, 5, 6, 7] rfl (b305 _ _)
          refine jjs hG rfl rfl ?_
          refine jjs hG rfl rfl ?_
          refine jjs hG rfl rfl ?_
          refine jj_gr hG (k := 109) rfl rfl rfl rfl ?_
          refine jjs hG rfl rfl ?_
          refine jj_ia hG (k := 109) rfl rfl rfl (fun x2 => ?_)
          refine jj_cp hG 0 rfl rfl (Nat.le_of_ble_eq_true rfl) (by decide) (Nat.le_of_ble_eq_true rfl) rfl (st' := []) rfl (w := .int) (fun _ _ hw h k => pm_rcv_of moM_m (k_besideDefault base sa hw h k)) (fun x3 => ?_)
          refine jj_zeq hG (t := 305) rfl rfl ?_ ?_
          · exact jj_wl hG [2, 3, 4, 5, 6, 7] rfl (b305 _ _)
          refine jjs hG rfl rfl ?_
          refine jjs hG rfl rfl ?_
          refine jj_gr hG (k := 107) rfl rfl rfl rfl ?_
          refine jjs hG rfl rfl ?_
          refine jj_la hG (k := 107) rfl rfl rfl (fun x4 => ?_)
          refine jjs hG rfl rfl ?_
          refine jj_gr hG (k := 108) rfl rfl rfl rfl ?_
          refine jjs hG rfl rfl ?_
          refine jj_la hG (k := 108) rfl rfl rfl (fun x5 => ?_)
          refine jjs hG rfl rfl ?_
          refine jj_gr hG (k := 109) rfl rfl rfl rfl ?_
          refine jjs hG rfl rfl ?_
          refine jj_ia hG (k := 109) rfl rfl rfl (fun x6 => ?_)
          refine jjs hG rfl rfl ?_
          refine jjs hG rfl rfl ?_
          refine jj_gi hG (k := 145) rfl rfl rfl rfl ?_
          refine jj_cv hG 0 rfl rfl (Nat.le_of_ble_eq_true rfl) (by decide) (Nat.le_of_ble_eq_true rfl) rfl (st' := []) rfl (fun _ _ hw h k => pm_rcv_of moM_m (k_enter base sa hw h k)) (fun s7 => ?_)
          exact jj_wl hG [2, 3, 4, 5, 6, 7] rfl (b305 _ _)
        refine jjs hG rfl rfl ?_
        refine jj_gr hG (k := 151) rfl rfl rfl rfl ?_
        refine jjs hG rfl rfl ?_
        refine jjs hG rfl rfl ?_
        refine jjs hG rfl rfl ?_
        refine jj_gr hG (k := 151) rfl rfl rfl rfl ?_
        refine jjs hG rfl rfl ?_
        refine jj_ia hG (k := 151) rfl rfl rfl (fun x8 => ?_)
        refine jj_ige hG (t := 216) rfl rfl ?_ ?_
        · refine jjs hG rfl rfl ?_
          refine jj_gr hG (k := 151) rfl rfl rfl rfl ?_
          refine jjs hG rfl rfl ?_
          refine jj_ia hG (k := 151) rfl rfl rfl (fun x9 => ?_)
          exact jj_wl hG [2, 3, 4, 5, 6, 7, 1, 0] rfl (b223 _ _ _ _ _ _)
        refine jjs hG rfl rfl ?_
        refine jj_go hG (t := 223) rfl rfl ?_
        exact jj_wl hG [2, 3, 4, 5, 6, 7, 1, 0] rfl (b223 _ _ _ _ _ _)
      have b171 : ∀ (a5 : Int32) (a6 : Int32) (t : moS), JJ C R base m G 171 [(0, .ref m), (1, .int p1), (2, .int p2), (3, .int p3), (4, .int a4), (5, .int a5), (6, .int a6)] [] q t kc ks (M_gather_b171 t p1 p2 p3 a4 a5 a6) (some y50) := by
        intro a5 a6 t
        refine jj_ic hG rfl cc_i1 ?_
        refine jj_go hG (t := 176) rfl rfl ?_
        exact jj_wl hG [0, 1, 2, 3, 4, 5, 6] rfl (b176 _ _ _ _)
      have b143 : ∀ (a5 : Int32) (a6 : Int32) (t : moS), JJ C R base m G 143 [(0, .ref m), (1, .int p1), (2, .int p2), (3, .int p3), (4, .int a4), (5, .int a5), (6, .int a6)] [] q t kc ks (M_gather_b143 t p1 p2 p3 a4 a5 a6) (some y50) := by
        intro a5 a6 t
        refine jjs hG rfl rfl ?_
        refine jj_ic hG rfl cc_i2 ?_
        refine jj_ieq hG (t := 305) rfl rfl ?_ ?_
        · exact jj_wl hG [0, 1, 2, 3, 4, 5] rfl (b305 _ _)
        refine jjs hG rfl rfl ?_
        refine jj_ic hG rfl cc_im1 ?_
        refine jj_ine hG (t := 157) rfl rfl ?_ ?_
        · refine jjs hG rfl rfl ?_
          refine jj_zeq hG (t := 171) rfl rfl ?_ ?_
          · exact jj_wl hG [0, 1, 2, 3, 4, 5, 6] rfl (b171 _ _ _)
          refine jjs hG rfl rfl ?_
          refine jj_gr hG (k := 119) rfl rfl rfl rfl ?_
          refine jjs hG rfl rfl ?_
          refine jj_ba hG (k := 119) rfl rfl rfl (fun x1 => ?_)
          refine jj_zeq hG (t := 175) rfl rfl ?_ ?_
          · refine jj_ic hG rfl cc_i0 ?_
            exact jj_wl hG [0, 1, 2, 3, 4, 5, 6] rfl (b176 _ _ _ _)
          exact jj_wl hG [0, 1, 2, 3, 4, 5, 6] rfl (b171 _ _ _)
        refine jj_go hG (t := 305) rfl rfl ?_
        exact jj_wl hG [0, 1, 2, 3, 4, 5] rfl (b305 _ _)
      have b102 : ∀ (a5 : Int32) (u0 : Int32) (t : moS), JJ C R base m G 102 [(0, .ref m), (1, .int p1), (2, .int p2), (3, .int p3), (4, .int a4), (5, .int a5)] [.int u0] q t kc ks (M_gather_b102 t p1 p2 p3 a4 a5 u0) (some y50) := by
        intro a5 u0 t
        refine jjc hG rfl rfl (Nat.le_of_ble_eq_true rfl) ?_
        refine jjs hG rfl rfl ?_
        refine jj_ic hG rfl cc_i2 ?_
        refine jj_ine hG (t := 143) rfl rfl ?_ ?_
        · exact jj_wl hG [1, 2, 3, 4, 5, 6, 0] rfl (b143 _ _ _)
        refine jjs hG rfl rfl ?_
        refine jjs hG rfl rfl ?_
        refine jj_gr hG (k := 107) rfl rfl rfl rfl ?_
        refine jjs hG rfl rfl ?_
        refine jj_la hG (k := 107) rfl rfl rfl (fun x1 => ?_)
        refine jjs hG rfl rfl ?_
        refine jj_gr hG (k := 108) rfl rfl rfl rfl ?_
        refine jjs hG rfl rfl ?_
        refine jj_la hG (k := 108) rfl rfl rfl (fun x2 => ?_)
        refine jjs hG rfl rfl ?_
        refine jj_gr hG (k := 109) rfl rfl rfl rfl ?_
        refine jjs hG rfl rfl ?_
        refine jj_ia hG (k := 109) rfl rfl rfl (fun x3 => ?_)
        refine jj_bi hG rfl cc_b16 ?_
        refine jjs hG rfl rfl ?_
        refine jj_gr hG (k := 112) rfl rfl rfl rfl ?_
        refine jjs hG rfl rfl ?_
        refine jj_ia hG (k := 112) rfl rfl rfl (fun x4 => ?_)
        refine jj_cv hG 0 rfl rfl (Nat.le_of_ble_eq_true rfl) (by decide) (Nat.le_of_ble_eq_true rfl) rfl (st' := []) rfl (fun _ _ hw h k => pm_rcv_of moM_m (k_enter base sa hw h k)) (fun s5 => ?_)
        exact jj_wl hG [1, 2, 3, 4, 5, 6, 0] rfl (b143 _ _ _)
      refine (show JJ C R base m G 50 [(0, .ref m), (1, .int p1), (2, .int p2), (3, .int p3), (4, .int a4), (5, .int a5)] [] q t kc ks (M_gather_s50 t p1 p2 p3 a4 a5) (some y50) from ?_)
      refine jjs hG rfl rfl ?_
      refine jj_si hG rfl cc_s2700 ?_
      refine jjs hG rfl rfl ?_
      refine jjs hG rfl rfl ?_
      refine jjs hG rfl rfl ?_
      refine jj_gr hG (k := 105) rfl rfl rfl rfl ?_
      refine jjs hG rfl rfl ?_
      refine jj_ia hG (k := 105) rfl rfl rfl (fun x1 => ?_)
      refine jjs hG rfl rfl ?_
      refine jj_ige hG (t := 311) rfl rfl ?_ ?_
      · refine jj_exit c50 ?_
        refine jj_ic hG rfl cc_i0 ?_
        refine jjc hG rfl rfl (Nat.le_of_ble_eq_true rfl) ?_
        refine jj_lp (fun n => ?_)
        exact jj_wl hG [1, 2, 4, 0] rfl (b314 n _ _)
      refine jjs hG rfl rfl ?_
      refine jj_gr hG (k := 106) rfl rfl rfl rfl ?_
      refine jjs hG rfl rfl ?_
      refine jj_ia hG (k := 106) rfl rfl rfl (fun x2 => ?_)
      refine jjs hG rfl rfl ?_
      refine jj_ieq hG (t := 83) rfl rfl ?_ ?_
      · refine jjs hG rfl rfl ?_
        refine jj_ic hG rfl cc_i2 ?_
        refine jj_ine hG (t := 93) rfl rfl ?_ ?_
        · refine jjs hG rfl rfl ?_
          refine jjs hG rfl rfl ?_
          refine jjs hG rfl rfl ?_
          refine jjs hG rfl rfl ?_
          refine jj_cs hG 0 rfl rfl (Nat.le_of_ble_eq_true rfl) (by decide) (Nat.le_of_ble_eq_true rfl) rfl (st' := []) rfl (w := .int) (fun _ _ _ hw h k => pm_rcv_of moM_m (k_toldMetric base sa hw h k)) (fun x4 s3 => ?_)
          exact jj_wl hG [0, 1, 2, 3, 4, 5] rfl (b102 _ _ _)
        refine jj_bi hG rfl cc_b16 ?_
        refine jj_go hG (t := 102) rfl rfl ?_
        exact jj_wl hG [0, 1, 2, 3, 4, 5] rfl (b102 _ _ _)
      refine jj_go hG (t := 305) rfl rfl ?_
      exact jj_wl hG [0, 1, 2, 3, 4, 5] rfl (b305 _ _)
  have b13 : ∀ (a4 : Int32) (n : Nat) (a5 : Int32) (t : moS), JJ C R base m G 13 [(0, .ref m), (1, .int p1), (2, .int p2), (3, .int p3), (4, .int a4), (5, .int a5)] [] q t kc ks (lpN (fun x => M_gather_s13 x.2 p1 p2 p3 a4 x.1) n (a5, t)) (some tz) := by
    intro a4 n
    induction n with
    | zero => intro a5 t; exact jj_lp0
    | succ n ih13 =>
      intro a5 t
      refine jj_lpS (fun y13 c13 => ?_)
      refine (show JJ C R base m G 13 [(0, .ref m), (1, .int p1), (2, .int p2), (3, .int p3), (4, .int a4), (5, .int a5)] [] q t kc ks (M_gather_s13 t p1 p2 p3 a4 a5) (some y13) from ?_)
      refine jjs hG rfl rfl ?_
      refine jj_ic hG rfl cc_i4 ?_
      refine jj_ige hG (t := 42) rfl rfl ?_ ?_
      · refine jj_exit c13 ?_
        refine jj_si hG rfl cc_s2700 ?_
        refine jjs hG rfl rfl ?_
        refine jjs hG rfl rfl ?_
        refine jjc hG rfl rfl (Nat.le_of_ble_eq_true rfl) ?_
        refine jj_lp (fun n => ?_)
        exact jj_wl hG [1, 2, 3, 4, 5, 0] rfl (b50 _ n _ _)
      refine jjs hG rfl rfl ?_
      refine jj_gr hG (k := 151) rfl rfl rfl rfl ?_
      refine jjs hG rfl rfl ?_
      refine jj_bi hG rfl cc_b99 ?_
      refine jj_is hG (k := 151) rfl rfl rfl (fun s1 => ?_)
      refine jjs hG rfl rfl ?_
      refine jj_gr hG (k := 152) rfl rfl rfl rfl ?_
      refine jjs hG rfl rfl ?_
      refine jj_ic hG rfl cc_i0 ?_
      refine jj_bs hG (k := 152) rfl rfl rfl (fun s2 => ?_)
      refine jj_inc hG rfl (Nat.le_of_ble_eq_true rfl) rfl cc_i1 ?_
      refine jj_go hG (t := 13) rfl rfl ?_
      exact jj_back c13 (jj_wl hG [1, 2, 3, 4, 5, 0] rfl (ih13 _ _))
  refine (show JJ C R base m G 0 [(0, .ref m), (1, .int p1), (2, .int p2), (3, .int p3)] [] q t kc ks (M_gather t p1 p2 p3) (some tz) from ?_) hw h
  refine jjs hG rfl rfl ?_
  refine jj_ic hG rfl cc_i4 ?_
  refine jjc hG rfl rfl (by decide) ?_
  refine jjc hG rfl rfl (Nat.le_of_ble_eq_true rfl) ?_
  refine jjs hG rfl rfl ?_
  refine jj_ic hG rfl cc_i0 ?_
  refine jj_pi hG (k := 139) rfl rfl rfl rfl (fun s1 => ?_)
  refine jj_ic hG rfl cc_i0 ?_
  refine jjc hG rfl rfl (Nat.le_of_ble_eq_true rfl) ?_
  refine jj_lp (fun n => ?_)
  exact jj_wl hG [2, 3, 4, 5, 1, 0] rfl (b13 _ n _ _)
noncomputable def M_mostEntries_b112 (t : moS) (p1 : Int32) (a6 : Int32) (u0 : Int32) : Option Int32 := Option.bind (rdI t 71 p1) (fun x1 => (Option.bind (rdI t 21 x1) (fun x2 => (if (((x2 - (4 : Int32)) - a6) / (20 : Int32)) < u0 then ((some (((x2 - (4 : Int32)) - a6) / (20 : Int32)))) else ((some u0))))))
noncomputable def M_mostEntries_b105 (t : moS) (p1 : Int32) (a6 : Int32) : Option Int32 := (M_mostEntries_b112 t p1 a6 (24 : Int32))
noncomputable def M_mostEntries_b84 (t : moS) (p1 : Int32) (a3 : Int32) (a5 : Int32) (u0 : Int32) : Option Int32 := if a3 = 0 then ((M_mostEntries_b112 t p1 u0 (25 : Int32))) else (if a3 = (1 : Int32) then ((M_mostEntries_b105 t p1 u0)) else (if a5 = 0 then ((M_mostEntries_b105 t p1 u0)) else ((M_mostEntries_b112 t p1 u0 (23 : Int32)))))
noncomputable def M_mostEntries_b52 (t : moS) (p1 : Int32) (a3 : Int32) (u0 : Int32) : Option Int32 := if a3 = 0 then ((M_mostEntries_b84 t p1 a3 u0 (0 : Int32))) else (if a3 = (1 : Int32) then ((M_mostEntries_b84 t p1 a3 u0 (20 : Int32))) else (if u0 = 0 then ((M_mostEntries_b84 t p1 a3 u0 (40 : Int32))) else ((M_mostEntries_b84 t p1 a3 u0 (60 : Int32)))))
noncomputable def M_mostEntries_b51 (t : moS) (p1 : Int32) (a3 : Int32) : Option Int32 := (M_mostEntries_b52 t p1 a3 (0 : Int32))
noncomputable def M_mostEntries_b29 (t : moS) (p1 : Int32) (a3 : Int32) (u0 : Int32) : Option Int32 := if u0 = ((-1) : Int32) then ((M_mostEntries_b51 t p1 a3)) else (Option.bind (rdI t 84 u0) (fun x1 => (if x1 = 0 then ((M_mostEntries_b51 t p1 a3)) else ((M_mostEntries_b52 t p1 a3 (1 : Int32))))))
noncomputable def M_mostEntries_b14 (t : moS) (p1 : Int32) (u0 : Int32) : Option Int32 := if u0 = (2 : Int32) then (Option.bind (M_bornKey t p1) (fun x1 => ((M_mostEntries_b29 t p1 u0 x1)))) else ((M_mostEntries_b29 t p1 u0 ((-1) : Int32)))
noncomputable def M_mostEntries (t : moS) (p1 : Int32) (p2 : Int32) : Option Int32 := if p2 = 0 then (Option.bind (rdI t 79 p1) (fun x1 => ((M_mostEntries_b14 t p1 x1)))) else ((M_mostEntries_b14 t p1 (0 : Int32)))
set_option maxRecDepth 100000 in
set_option maxHeartbeats 4000000 in
theorem k_mostEntries (base : Nat) (sa : Nat → Nat) {C : Nat × Nat} {R : pmM} {m : Nat} {q : Nat → Nat} {t : moS} {kc ks : Nat} {Rt : pmR} {p1 : Int32} {p2 : Int32} {r : Int32} (hw : mW C R base m q t kc ks) (h : M_mostEntries t p1 p2 = (some r)) (k : Rt (some (.int r)) (moM R m q t) kc ks) : kP_Mo_mostEntries base sa [.ref m, .int p1, .int p2] (moM R m q t) kc ks Rt := by
  refine ⟨Nat.le_of_ble_eq_true rfl, fun G hG => ?_⟩
  have b112 : ∀ (a6 : Int32) (u0 : Int32), JJ C R base m G 112 [(0, .ref m), (1, .int p1), (6, .int a6)] [.int u0] q t kc ks (M_mostEntries_b112 t p1 a6 u0) (some r) := by
    intro a6 u0
    refine jjc hG rfl rfl (Nat.le_of_ble_eq_true rfl) ?_
    refine jjs hG rfl rfl ?_
    refine jj_gr hG (k := 21) rfl rfl rfl rfl ?_
    refine jjs hG rfl rfl ?_
    refine jj_gr hG (k := 71) rfl rfl rfl rfl ?_
    refine jjs hG rfl rfl ?_
    refine jj_ia hG (k := 71) rfl rfl rfl (fun x1 => ?_)
    refine jj_ia hG (k := 21) rfl rfl rfl (fun x2 => ?_)
    refine jj_ic hG rfl cc_i4 ?_
    refine jjs hG rfl rfl ?_
    refine jjs hG rfl rfl ?_
    refine jjs hG rfl rfl ?_
    refine jj_bi hG rfl cc_b20 ?_
    refine jjc hG rfl rfl (by decide) ?_
    refine jjc hG rfl rfl (Nat.le_of_ble_eq_true rfl) ?_
    refine jjs hG rfl rfl ?_
    refine jjs hG rfl rfl ?_
    refine jj_ige hG (t := 147) rfl rfl ?_ ?_
    · refine jjs hG rfl rfl ?_
      exact jj_ri hG rfl rfl rfl k
    refine jjs hG rfl rfl ?_
    refine jj_go hG (t := 149) rfl rfl ?_
    exact jj_ri hG rfl rfl rfl k
  have b105 : ∀ (a6 : Int32), JJ C R base m G 105 [(0, .ref m), (1, .int p1), (6, .int a6)] [] q t kc ks (M_mostEntries_b105 t p1 a6) (some r) := by
    intro a6
    refine jj_bi hG rfl cc_b24 ?_
    refine jj_go hG (t := 112) rfl rfl ?_
    exact jj_wl hG [0, 1, 2] rfl (b112 _ _)
  have b84 : ∀ (a3 : Int32) (a5 : Int32) (u0 : Int32), JJ C R base m G 84 [(0, .ref m), (1, .int p1), (3, .int a3), (5, .int a5)] [.int u0] q t kc ks (M_mostEntries_b84 t p1 a3 a5 u0) (some r) := by
    intro a3 a5 u0
    refine jjc hG rfl rfl (Nat.le_of_ble_eq_true rfl) ?_
    refine jjs hG rfl rfl ?_
    refine jj_zne hG (t := 95) rfl rfl ?_ ?_
    · refine jjs hG rfl rfl ?_
      refine jj_ic hG rfl cc_i1 ?_
      refine jj_ieq hG (t := 105) rfl rfl ?_ ?_
      · exact jj_wl hG [1, 2, 0] rfl (b105 _)
      refine jjs hG rfl rfl ?_
      refine jj_zne hG (t := 110) rfl rfl ?_ ?_
      · refine jj_bi hG rfl cc_b23 ?_
        exact jj_wl hG [1, 2, 0] rfl (b112 _ _)
      exact jj_wl hG [1, 2, 0] rfl (b105 _)
    refine jj_bi hG rfl cc_b25 ?_
    refine jj_go hG (t := 112) rfl rfl ?_
    exact jj_wl hG [1, 2, 0] rfl (b112 _ _)
  have b52 : ∀ (a3 : Int32) (u0 : Int32), JJ C R base m G 52 [(0, .ref m), (1, .int p1), (3, .int a3)] [.int u0] q t kc ks (M_mostEntries_b52 t p1 a3 u0) (some r) := by
    intro a3 u0
    refine jjc hG rfl rfl (Nat.le_of_ble_eq_true rfl) ?_
    refine jjs hG rfl rfl ?_
    refine jj_zne hG (t := 62) rfl rfl ?_ ?_
    · refine jjs hG rfl rfl ?_
      refine jj_ic hG rfl cc_i1 ?_
      refine jj_ine hG (t := 72) rfl rfl ?_ ?_
      · refine jjs hG rfl rfl ?_
        refine jj_zeq hG (t := 82) rfl rfl ?_ ?_
        · refine jj_bi hG rfl cc_b40 ?_
          exact jj_wl hG [1, 2, 3, 0] rfl (b84 _ _ _)
        refine jj_bi hG rfl cc_b60 ?_
        refine jj_go hG (t := 84) rfl rfl ?_
        exact jj_wl hG [1, 2, 3, 0] rfl (b84 _ _ _)
      refine jj_bi hG rfl cc_b20 ?_
      refine jj_go hG (t := 84) rfl rfl ?_
      exact jj_wl hG [1, 2, 3, 0] rfl (b84 _ _ _)
    refine jj_ic hG rfl cc_i0 ?_
    refine jj_go hG (t := 84) rfl rfl ?_
    exact jj_wl hG [1, 2, 3, 0] rfl (b84 _ _ _)
  have b51 : ∀ (a3 : Int32), JJ C R base m G 51 [(0, .ref m), (1, .int p1), (3, .int a3)] [] q t kc ks (M_mostEntries_b51 t p1 a3) (some r) := by
    intro a3
    refine jj_ic hG rfl cc_i0 ?_
    exact jj_wl hG [0, 1, 2] rfl (b52 _ _)
  have b29 : ∀ (a3 : Int32) (u0 : Int32), JJ C R base m G 29 [(0, .ref m), (1, .int p1), (3, .int a3)] [.int u0] q t kc ks (M_mostEntries_b29 t p1 a3 u0) (some r) := by
    intro a3 u0
    refine jjc hG rfl rfl (Nat.le_of_ble_eq_true rfl) ?_
    refine jjs hG rfl rfl ?_
    refine jj_ic hG rfl cc_im1 ?_
    refine jj_ieq hG (t := 51) rfl rfl ?_ ?_
    · exact jj_wl hG [1, 2, 3] rfl (b51 _)
    refine jjs hG rfl rfl ?_
    refine jj_gr hG (k := 84) rfl rfl rfl rfl ?_
    refine jjs hG rfl rfl ?_
    refine jj_ba hG (k := 84) rfl rfl rfl (fun x1 => ?_)
    refine jj_zeq hG (t := 51) rfl rfl ?_ ?_
    · exact jj_wl hG [1, 2, 3] rfl (b51 _)
    refine jj_ic hG rfl cc_i1 ?_
    refine jj_go hG (t := 52) rfl rfl ?_
    exact jj_wl hG [1, 2, 3] rfl (b52 _ _)
  have b14 : ∀ (u0 : Int32), JJ C R base m G 14 [(0, .ref m), (1, .int p1)] [.int u0] q t kc ks (M_mostEntries_b14 t p1 u0) (some r) := by
    intro u0
    refine jjc hG rfl rfl (Nat.le_of_ble_eq_true rfl) ?_
    refine jjs hG rfl rfl ?_
    refine jj_ic hG rfl cc_i2 ?_
    refine jj_ine hG (t := 28) rfl rfl ?_ ?_
    · refine jj_ic hG rfl cc_im1 ?_
      exact jj_wl hG [1, 2, 0] rfl (b29 _ _)
    refine jjs hG rfl rfl ?_
    refine jjs hG rfl rfl ?_
    refine jj_cp hG 0 rfl rfl (Nat.le_of_ble_eq_true rfl) (by decide) (Nat.le_of_ble_eq_true rfl) rfl (st' := []) rfl (w := .int) (fun _ _ hw h k => pm_rcv_of moM_m (k_bornKey base sa hw h k)) (fun x1 => ?_)
    refine jj_go hG (t := 29) rfl rfl ?_
    exact jj_wl hG [1, 2, 0] rfl (b29 _ _)
  refine (show JJ C R base m G 0 [(0, .ref m), (1, .int p1), (2, .int p2)] [] q t kc ks (M_mostEntries t p1 p2) (some r) from ?_) hw h
  refine jjs hG rfl rfl ?_
  refine jj_zne hG (t := 13) rfl rfl ?_ ?_
  · refine jj_ic hG rfl cc_i0 ?_
    exact jj_wl hG [0, 1] rfl (b14 _)
  refine jjs hG rfl rfl ?_
  refine jj_gr hG (k := 79) rfl rfl rfl rfl ?_
  refine jjs hG rfl rfl ?_
  refine jj_ia hG (k := 79) rfl rfl rfl (fun x1 => ?_)
  refine jj_go hG (t := 14) rfl rfl ?_
  exact jj_wl hG [0, 1] rfl (b14 _)
