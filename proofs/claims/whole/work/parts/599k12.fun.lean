/-! The model as functions, by program: lineJoin .. lineKey -/
noncomputable def M_lineJoin_b490 (t : moS) (a3 : Int32) (a4 : Int32) (a5 : Int32) (a6 : Int32) (a7 : Int32) (a8 : Int32) (a10 : Int32) (a11 : Int32) : Option ((Int32 × moS) ⊕ (Int32 × moS)) := (some (.inl ((a11 + (1 : Int32)), t)))
noncomputable def M_lineJoin_b479 (t : moS) (a3 : Int32) (a4 : Int32) (a5 : Int32) (a6 : Int32) (a7 : Int32) (a8 : Int32) (a10 : Int32) (a11 : Int32) (u1 : Int32) (u2 : Int32) (u3 : Int32) : Option ((Int32 × moS) ⊕ (Int32 × moS)) := Option.bind (M_takeKey t u1 u2 u3 (a11 + (1 : Int32)) (0 : Int32) (99999 : Int32)) (fun s1 => ((M_lineJoin_b490 s1 a3 a4 a5 a6 a7 a8 a10 a11)))
noncomputable def M_lineJoin_b458 (t : moS) (a3 : Int32) (a4 : Int32) (a5 : Int32) (a6 : Int32) (a7 : Int32) (a8 : Int32) (a10 : Int32) (a11 : Int32) : Option ((Int32 × moS) ⊕ (Int32 × moS)) := Option.bind (M_number t a11) (fun x1 => (if a11 = a5 then ((M_lineJoin_b479 t a3 a4 a5 a6 a7 a8 a10 a11 a8 x1 (1 : Int32))) else ((M_lineJoin_b479 t a3 a4 a5 a6 a7 a8 a10 a11 a8 x1 (0 : Int32)))))
noncomputable def M_lineJoin_b444 (t : moS) (a3 : Int32) (a4 : Int32) (a5 : Int32) (a6 : Int32) (a7 : Int32) (a8 : Int32) (a10 : Int32) (a11 : Int32) : Option ((Int32 × moS) ⊕ (Int32 × moS)) := if a11 = a4 then ((M_lineJoin_b458 t a3 a4 a5 a6 a7 a8 a10 a11)) else (if a11 = a5 then ((M_lineJoin_b458 t a3 a4 a5 a6 a7 a8 a10 a11)) else ((M_lineJoin_b490 t a3 a4 a5 a6 a7 a8 a10 a11)))
noncomputable def M_lineJoin_s421 (t : moS) (a3 : Int32) (a4 : Int32) (a5 : Int32) (a6 : Int32) (a7 : Int32) (a8 : Int32) (a10 : Int32) (a11 : Int32) : Option ((Int32 × moS) ⊕ (Int32 × moS)) := if a11 < (moS.S t 11) then (if a11 = a3 then (Option.bind (M_takePassword t a8 a11) (fun s5 => ((M_lineJoin_b444 s5 a3 a4 a5 a6 a7 a8 a10 a11)))) else ((M_lineJoin_b444 t a3 a4 a5 a6 a7 a8 a10 a11))) else ((xo (Option.bind (M_settle t a6) (fun s1 => (Option.bind (rdI s1 39 a6) (fun x2 => (if x2 = 0 then ((some ((0 : Int32), s1))) else (Option.bind (rdI s1 22 a7) (fun x3 => (if x3 = 0 then ((some ((0 : Int32), s1))) else (Option.bind (M_request s1 a8 (a10 - ((2 : Int32) * a8))) (fun s4 => ((some ((0 : Int32), s4)))))))))))))))
noncomputable def M_lineJoin_b421 (t : moS) (a3 : Int32) (a4 : Int32) (a5 : Int32) (a6 : Int32) (a7 : Int32) (a8 : Int32) (a10 : Int32) (a11 : Int32) : Option (Int32 × moS) := lp (fun x => M_lineJoin_s421 x.2 a3 a4 a5 a6 a7 a8 a10 x.1) (a11, t)
noncomputable def M_lineJoin_b418 (t : moS) (a3 : Int32) (a4 : Int32) (a5 : Int32) (a6 : Int32) (a7 : Int32) (a8 : Int32) (a10 : Int32) : Option (Int32 × moS) := (M_lineJoin_b421 t a3 a4 a5 a6 a7 a8 a10 (4 : Int32))
noncomputable def M_lineJoin_b399 (t : moS) (a3 : Int32) (a4 : Int32) (a5 : Int32) (a6 : Int32) (a7 : Int32) (a8 : Int32) (a10 : Int32) : Option (Int32 × moS) := Option.bind (M_option t (65688271285 : Int64) (4 : Int32)) (fun x1 => (if 0 < x1 then (Option.bind (wrZ t 74 a8 (1 : Int32)) (fun s2 => ((M_lineJoin_b418 s2 a3 a4 a5 a6 a7 a8 a10)))) else ((M_lineJoin_b418 t a3 a4 a5 a6 a7 a8 a10))))
noncomputable def M_lineJoin_b383 (t : moS) (a2 : Int32) (a3 : Int32) (a4 : Int32) (a5 : Int32) (a6 : Int32) (a7 : Int32) (a8 : Int32) (a10 : Int32) : Option (Int32 × moS) := if 0 < a2 then (Option.bind (M_code t a2) (fun x1 => (Option.bind (wrJ t 73 a8 x1) (fun s2 => ((M_lineJoin_b399 s2 a3 a4 a5 a6 a7 a8 a10)))))) else ((M_lineJoin_b399 t a3 a4 a5 a6 a7 a8 a10))
noncomputable def M_lineJoin_b315 (t : moS) (a1 : Int32) (a2 : Int32) (a3 : Int32) (a4 : Int32) (a5 : Int32) (a6 : Int32) (a7 : Int32) (a8 : Int32) : Option (Int32 × moS) := Option.bind (wrZ t 75 (((2 : Int32) * a8) + (moS.S t 12)) (1 : Int32)) (fun s1 => (Option.bind (wrJ s1 76 (((2 : Int32) * a8) + (moS.S t 12)) (moS.Z s1 13)) (fun s2 => (Option.bind (wrJ s2 77 (((2 : Int32) * a8) + (moS.S t 12)) (moS.Z s2 14)) (fun s3 => (Option.bind (wrI s3 78 (((2 : Int32) * a8) + (moS.S t 12)) (moS.S s3 15)) (fun s4 => (if 0 < a1 then (Option.bind (M_number s4 a1) (fun x5 => (Option.bind (wrI s4 72 a8 x5) (fun s6 => ((M_lineJoin_b383 s6 a2 a3 a4 a5 a6 a7 a8 (((2 : Int32) * a8) + (moS.S t 12)))))))) else ((M_lineJoin_b383 s4 a2 a3 a4 a5 a6 a7 a8 (((2 : Int32) * a8) + (moS.S t 12))))))))))))
noncomputable def M_lineJoin_b282 (t : moS) (a1 : Int32) (a2 : Int32) (a3 : Int32) (a4 : Int32) (a5 : Int32) (a6 : Int32) (a7 : Int32) (a8 : Int32) : Option (Int32 × moS) := Option.bind (M_haveRoom t a8 a3 a4 a5) (fun x1 => (if x1 = 0 then ((some ((6 : Int32), t))) else (if a8 = ((-1) : Int32) then (bn2 (M_newInterface t a6 a7) (fun x3 s2 => ((M_lineJoin_b315 s2 a1 a2 a3 a4 a5 a6 a7 x3)))) else ((M_lineJoin_b315 t a1 a2 a3 a4 a5 a6 a7 a8)))))
noncomputable def M_lineJoin_b256 (t : moS) (a1 : Int32) (a2 : Int32) (a3 : Int32) (a4 : Int32) (a5 : Int32) (a6 : Int32) (a7 : Int32) (a8 : Int32) (u0 : Int32) : Option (Int32 × moS) := if u0 = 0 then ((some ((4 : Int32), t))) else (if a8 = ((-1) : Int32) then (Option.bind (rdI t 70 a6) (fun x1 => (if x1 = (4 : Int32) then ((some ((6 : Int32), t))) else ((M_lineJoin_b282 t a1 a2 a3 a4 a5 a6 a7 a8))))) else ((M_lineJoin_b282 t a1 a2 a3 a4 a5 a6 a7 a8)))
noncomputable def M_lineJoin_b255 (t : moS) (a1 : Int32) (a2 : Int32) (a3 : Int32) (a4 : Int32) (a5 : Int32) (a6 : Int32) (a7 : Int32) (a8 : Int32) : Option (Int32 × moS) := (M_lineJoin_b256 t a1 a2 a3 a4 a5 a6 a7 a8 (0 : Int32))
noncomputable def M_lineJoin_b233 (t : moS) (a1 : Int32) (a2 : Int32) (a3 : Int32) (a4 : Int32) (a5 : Int32) (a6 : Int32) (a7 : Int32) (a8 : Int32) : Option (Int32 × moS) := Option.bind (M_isKeyOption t a4) (fun x1 => (if x1 = 0 then ((M_lineJoin_b255 t a1 a2 a3 a4 a5 a6 a7 a8)) else (Option.bind (M_isKeyOption t a5) (fun x2 => (if x2 = 0 then ((M_lineJoin_b255 t a1 a2 a3 a4 a5 a6 a7 a8)) else ((M_lineJoin_b256 t a1 a2 a3 a4 a5 a6 a7 a8 (1 : Int32))))))))
noncomputable def M_lineJoin_b221 (t : moS) (a1 : Int32) (a2 : Int32) (a3 : Int32) (a4 : Int32) (a5 : Int32) (a6 : Int32) (a7 : Int32) (a8 : Int32) : Option (Int32 × moS) := if a3 = 0 then ((M_lineJoin_b233 t a1 a2 a3 a4 a5 a6 a7 a8)) else (Option.bind (M_isSecret t a3) (fun x1 => (if x1 = 0 then ((M_lineJoin_b255 t a1 a2 a3 a4 a5 a6 a7 a8)) else ((M_lineJoin_b233 t a1 a2 a3 a4 a5 a6 a7 a8)))))
noncomputable def M_lineJoin_b206 (t : moS) (a1 : Int32) (a2 : Int32) (a3 : Int32) (a4 : Int32) (a5 : Int32) (a6 : Int32) (a7 : Int32) (a8 : Int32) : Option (Int32 × moS) := if a1 = 0 then ((M_lineJoin_b221 t a1 a2 a3 a4 a5 a6 a7 a8)) else (Option.bind (M_isNumber t a1 (1 : Int32) (15 : Int32)) (fun x1 => (if x1 = 0 then ((M_lineJoin_b255 t a1 a2 a3 a4 a5 a6 a7 a8)) else ((M_lineJoin_b221 t a1 a2 a3 a4 a5 a6 a7 a8)))))
noncomputable def M_lineJoin_b125 (t : moS) (a1 : Int32) (a2 : Int32) (a3 : Int32) (a4 : Int32) (a5 : Int32) : Option (Int32 × moS) := Option.bind (M_name t (1 : Int32)) (fun x1 => (Option.bind (M_routerNamed t x1) (fun x2 => (Option.bind (M_name t (2 : Int32)) (fun x3 => (Option.bind (M_linkNamed t x3) (fun x4 => (if x2 = ((-1) : Int32) then ((some ((3 : Int32), t))) else (if x4 = ((-1) : Int32) then ((some ((3 : Int32), t))) else (bn2 (M_isAddressWithLength t (3 : Int32)) (fun x6 s5 => (if x6 = 0 then ((some ((5 : Int32), s5))) else (Option.bind (M_interfaceTo s5 x2 x4) (fun x7 => (if x7 = ((-1) : Int32) then ((M_lineJoin_b206 s5 a1 a2 a3 a4 a5 x2 x4 x7)) else (Option.bind (rdI s5 75 (((2 : Int32) * x7) + (moS.S s5 12))) (fun x8 => (if x8 = 0 then ((M_lineJoin_b206 s5 a1 a2 a3 a4 a5 x2 x4 x7)) else ((some ((3 : Int32), s5)))))))))))))))))))))
noncomputable def M_lineJoin (t : moS) : Option (Int32 × moS) := if (moS.S t 11) < (4 : Int32) then ((some ((2 : Int32), t))) else (Option.bind (M_areOptions t (4 : Int32) (216780 : Int64) (49683580 : Int64) (2627531736724 : Int64) (20992 : Int64) (30721 : Int64) (65688271285 : Int64)) (fun x1 => (if x1 = 0 then ((some ((2 : Int32), t))) else (Option.bind (M_option t (216780 : Int64) (4 : Int32)) (fun x2 => (Option.bind (M_option t (49683580 : Int64) (4 : Int32)) (fun x3 => (Option.bind (M_option t (2627531736724 : Int64) (4 : Int32)) (fun x4 => (Option.bind (M_option t (20992 : Int64) (4 : Int32)) (fun x5 => (Option.bind (M_option t (30721 : Int64) (4 : Int32)) (fun x6 => (if 0 < x3 then (Option.bind (M_code t x3) (fun x7 => (if x7 = (24246 : Int64) then ((M_lineJoin_b125 t x2 x3 x4 x5 x6)) else (Option.bind (M_code t x3) (fun x8 => (if x8 = (1969498085 : Int64) then ((M_lineJoin_b125 t x2 x3 x4 x5 x6)) else (Option.bind (M_code t x3) (fun x9 => (if x9 = (1677407014 : Int64) then ((M_lineJoin_b125 t x2 x3 x4 x5 x6)) else ((some ((2 : Int32), t)))))))))))) else ((M_lineJoin_b125 t x2 x3 x4 x5 x6))))))))))))))))
set_option maxRecDepth 100000 in
set_option maxHeartbeats 4000000 in
theorem k_lineJoin (base : Nat) (sa : Nat → Nat) {C : Nat × Nat} {R : pmM} {m : Nat} {q : Nat → Nat} {t tz : moS} {kc ks : Nat} {Rt : pmR}  {r : Int32} (hw : mW C R base m q t kc ks) (h : M_lineJoin t = (some (r, tz))) (k : mW C R base m q tz kc ks → Rt (some (.int r)) (moM R m q tz) kc ks) : kP_Mo_lineJoin base sa [.ref m] (moM R m q t) kc ks Rt := by
  refine ⟨Nat.le_of_ble_eq_true rfl, fun G hG => ?_⟩
  have b421 : ∀ (a3 : Int32) (a4 : Int32) (a5 : Int32) (a6 : Int32) (a7 : Int32) (a8 : Int32) (a10 : Int32) (n : Nat) (a11 : Int32) (t : moS), JJ C R base m G 421 [(0, .ref m), (3, .int a3), (4, .int a4), (5, .int a5), (6, .int a6), (7, .int a7), (8, .int a8), (10, .int a10), (11, .int a11)] [] q t kc ks (lpN (fun x => M_lineJoin_s421 x.2 a3 a4 a5 a6 a7 a8 a10 x.1) n (a11, t)) (some (r, tz)) := by
    intro a3 a4 a5 a6 a7 a8 a10 n
    induction n with
    | zero => intro a11 t; exact jj_lp0
    | succ n ih421 =>
      intro a11 t
      refine jj_lpS (fun y421 c421 => ?_)
      have b490 : ∀ (a11 : Int32) (t : moS), JJ C R base m G 490 [(0, .ref m), (3, .int a3), (4, .int a4), (5, .int a5), (6, .int a6), (7, .int a7), (8, .int a8), (10, .int a10), (11, .int a11)] [] q t kc ks (M_lineJoin_b490 t a3 a4 a5 a6 a7 a8 a10 a11) (some y421) := by
        intro a11 t
        refine jj_inc hG rfl (Nat.le_of_ble_eq_true rfl) rfl cc_i1 ?_
        refine jj_go hG (t := 421) rfl rfl ?_
        exact jj_back c421 (jj_wl hG [1, 2, 3, 4, 5, 6, 7, 8, 0] rfl (ih421 _ _))
      have b479 : ∀ (a11 : Int32) (u1 : Int32) (u2 : Int32) (u3 : Int32) (t : moS), JJ C R base m G 479 [(0, .ref m), (3, .int a3), (4, .int a4), (5, .int a5), (6, .int a6), (7, .int a7), (8, .int a8), (10, .int a10), (11, .int a11)] [.int u3, .int u2, .int u1, .ref m] q t kc ks (M_lineJoin_b479 t a3 a4 a5 a6 a7 a8 a10 a11 u1 u2 u3) (some y421) := by
        intro a11 u1 u2 u3 t
        refine jjs hG rfl rfl ?_
        refine jj_ic hG rfl cc_i1 ?_
        refine jjs hG rfl rfl ?_
        refine jj_ic hG rfl cc_i0 ?_
        refine jj_lw hG (v := (99999 : Int32)) rfl rfl ?_
        refine jj_cv hG 0 rfl rfl (Nat.le_of_ble_eq_true rfl) (by decide) (Nat.le_of_ble_eq_true rfl) rfl (st' := []) rfl (fun _ _ hw h k => pm_rcv_of moM_m (k_takeKey base sa hw h k)) (fun s1 => ?_)
        exact jj_wl hG [0, 1, 2, 3, 4, 5, 6, 7, 8] rfl (b490 _ _)
      have b458 : ∀ (a11 : Int32) (t : moS), JJ C R base m G 458 [(0, .ref m), (3, .int a3), (4, .int a4), (5, .int a5), (6, .int a6), (7, .int a7), (8, .int a8), (10, .int a10), (11, .int a11)] [] q t kc ks (M_lineJoin_b458 t a3 a4 a5 a6 a7 a8 a10 a11) (some y421) := by
        intro a11 t
        refine jjs hG rfl rfl ?_
        refine jjs hG rfl rfl ?_
        refine jjs hG rfl rfl ?_
        refine jjs hG rfl rfl ?_
        refine jj_cp hG 0 rfl rfl (Nat.le_of_ble_eq_true rfl) (by decide) (Nat.le_of_ble_eq_true rfl) rfl (st' := [.int a8, .ref m]) rfl (w := .int) (fun _ _ hw h k => pm_rcv_of moM_m (k_number base sa hw h k)) (fun x1 => ?_)
        refine jjs hG rfl rfl ?_
        refine jjs hG rfl rfl ?_
        refine jj_ine hG (t := 478) rfl rfl ?_ ?_
        · refine jj_ic hG rfl cc_i0 ?_
          exact jj_wl hG [0, 1, 2, 3, 4, 5, 6, 7, 8] rfl (b479 _ _ _ _ _)
        refine jj_ic hG rfl cc_i1 ?_
        refine jj_go hG (t := 479) rfl rfl ?_
        exact jj_wl hG [0, 1, 2, 3, 4, 5, 6, 7, 8] rfl (b479 _ _ _ _ _)
      have b444 : ∀ (a11 : Int32) (t : moS), JJ C R base m G 444 [(0, .ref m), (3, .int a3), (4, .int a4), (5, .int a5), (6, .int a6), (7, .int a7), (8, .int a8), (10, .int a10), (11, .int a11)] [] q t kc ks (M_lineJoin_b444 t a3 a4 a5 a6 a7 a8 a10 a11) (some y421) := by
        intro a11 t
        refine jjs hG rfl rfl ?_
        refine jjs hG rfl rfl ?_
        refine jj_ieq hG (t := 458) rfl rfl ?_ ?_
        · exact jj_wl hG [0, 1, 2, 3, 4, 5, 6, 7, 8] rfl (b458 _ _)
        refine jjs hG rfl rfl ?_
        refine jjs hG rfl rfl ?_
        refine jj_ine hG (t := 490) rfl rfl ?_ ?_
        · exact jj_wl hG [0, 1, 2, 3, 4, 5, 6, 7, 8] rfl (b490 _ _)
        exact jj_wl hG [0, 1, 2, 3, 4, 5, 6, 7, 8] rfl (b458 _ _)
      refine (show JJ C R base m G 421 [(0, .ref m), (3, .int a3), (4, .int a4), (5, .int a5), (6, .int a6), (7, .int a7), (8, .int a8), (10, .int a10), (11, .int a11)] [] q t kc ks (M_lineJoin_s421 t a3 a4 a5 a6 a7 a8 a10 a11) (some y421) from ?_)
      refine jjs hG rfl rfl ?_
      refine jjs hG rfl rfl ?_
      refine jj_gi hG (k := 11) rfl rfl rfl rfl ?_
      refine jj_ige hG (t := 496) rfl rfl ?_ ?_
      · refine jj_exit c421 ?_
        refine jjs hG rfl rfl ?_
        refine jjs hG rfl rfl ?_
        refine jj_cv hG 0 rfl rfl (Nat.le_of_ble_eq_true rfl) (by decide) (Nat.le_of_ble_eq_true rfl) rfl (st' := []) rfl (fun _ _ hw h k => pm_rcv_of moM_m (k_settle base sa hw h k)) (fun s1 => ?_)
        refine jjs hG rfl rfl ?_
        refine jj_gr hG (k := 39) rfl rfl rfl rfl ?_
        refine jjs hG rfl rfl ?_
        refine jj_ba hG (k := 39) rfl rfl rfl (fun x2 => ?_)
        refine jj_zeq hG (t := 535) rfl rfl ?_ ?_
        · refine jj_ic hG rfl cc_i0 ?_
          exact jj_riS hG rfl rfl rfl k
        refine jjs hG rfl rfl ?_
        refine jj_gr hG (k := 22) rfl rfl rfl rfl ?_
        refine jjs hG rfl rfl ?_
        refine jj_ba hG (k := 22) rfl rfl rfl (fun x3 => ?_)
        refine jj_zeq hG (t := 535) rfl rfl ?_ ?_
        · refine jj_ic hG rfl cc_i0 ?_
          exact jj_riS hG rfl rfl rfl k
        refine jjs hG rfl rfl ?_
        refine jjs hG rfl rfl ?_
        refine jjs hG rfl rfl ?_
        refine jj_ic hG rfl cc_i2 ?_
        refine jjs hG rfl rfl ?_
        refine jjs hG rfl rfl ?_
        refine jjs hG rfl rfl ?_
        refine jj_cv hG 0 rfl rfl (Nat.le_of_ble_eq_true rfl) (by decide) (Nat.le_of_ble_eq_true rfl) rfl (st' := []) rfl (fun _ _ hw h k => pm_rcv_of moM_m (k_request base sa hw h k)) (fun s4 => ?_)
        refine jj_ic hG rfl cc_i0 ?_
        exact jj_riS hG rfl rfl rfl k
      refine jjs hG rfl rfl ?_
      refine jjs hG rfl rfl ?_
      refine jj_ine hG (t := 444) rfl rfl ?_ ?_
      · exact jj_wl hG [0, 1, 2, 3, 4, 5, 6, 7, 8] rfl (b444 _ _)
      refine jjs hG rfl rfl ?_
      refine jjs hG rfl rfl ?_
      refine jjs hG rfl rfl ?_
      refine jj_cv hG 0 rfl rfl (Nat.le_of_ble_eq_true rfl) (by decide) (Nat.le_of_ble_eq_true rfl) rfl (st' := []) rfl (fun _ _ hw h k => pm_rcv_of moM_m (k_takePassword base sa hw h k)) (fun s5 => ?_)
      exact jj_wl hG [0, 1, 2, 3, 4, 5, 6, 7, 8] rfl (b444 _ _)
  have b418 : ∀ (a3 : Int32) (a4 : Int32) (a5 : Int32) (a6 : Int32) (a7 : Int32) (a8 : Int32) (a10 : Int32) (t : moS), JJ C R base m G 418 [(0, .ref m), (3, .int a3), (4, .int a4), (5, .int a5), (6, .int a6), (7, .int a7), (8, .int a8), (10, .int a10)] [] q t kc ks (M_lineJoin_b418 t a3 a4 a5 a6 a7 a8 a10) (some (r, tz)) := by
    intro a3 a4 a5 a6 a7 a8 a10 t
    refine jj_ic hG rfl cc_i4 ?_
    refine jjc hG rfl rfl (Nat.le_of_ble_eq_true rfl) ?_
    refine jj_lp (fun n => ?_)
    exact jj_wl hG [1, 2, 3, 4, 5, 6, 7, 8, 0] rfl (b421 _ _ _ _ _ _ _ n _ _)
  have b399 : ∀ (a3 : Int32) (a4 : Int32) (a5 : Int32) (a6 : Int32) (a7 : Int32) (a8 : Int32) (a10 : Int32) (t : moS), JJ C R base m G 399 [(0, .ref m), (3, .int a3), (4, .int a4), (5, .int a5), (6, .int a6), (7, .int a7), (8, .int a8), (10, .int a10)] [] q t kc ks (M_lineJoin_b399 t a3 a4 a5 a6 a7 a8 a10) (some (r, tz)) := by
    intro a3 a4 a5 a6 a7 a8 a10 t
    refine jjs hG rfl rfl ?_
    refine jj_l2 hG (v := (65688271285 : Int64)) rfl rfl ?_
    refine jj_ic hG rfl cc_i4 ?_
    refine jj_cp hG 0 rfl rfl (Nat.le_of_ble_eq_true rfl) (by decide) (Nat.le_of_ble_eq_true rfl) rfl (st' := []) rfl (w := .int) (fun _ _ hw h k => pm_rcv_of moM_m (k_option base sa hw h k)) (fun x1 => ?_)
    refine jj_zle hG (t := 418) rfl rfl ?_ ?_
    · exact jj_wl hG [0, 1, 2, 3, 4, 5, 6, 7] rfl (b418 _ _ _ _ _ _ _ _)
    refine jjs hG rfl rfl ?_
    refine jj_gr hG (k := 74) rfl rfl rfl rfl ?_
    refine jjs hG rfl rfl ?_
    refine jj_ic hG rfl cc_i1 ?_
    refine jj_bs hG (k := 74) rfl rfl rfl (fun s2 => ?_)
    exact jj_wl hG [0, 1, 2, 3, 4, 5, 6, 7] rfl (b418 _ _ _ _ _ _ _ _)
  have b383 : ∀ (a2 : Int32) (a3 : Int32) (a4 : Int32) (a5 : Int32) (a6 : Int32) (a7 : Int32) (a8 : Int32) (a10 : Int32) (t : moS), JJ C R base m G 383 [(0, .ref m), (2, .int a2), (3, .int a3), (4, .int a4), (5, .int a5), (6, .int a6), (7, .int a7), (8, .int a8), (10, .int a10)] [] q t kc ks (M_lineJoin_b383 t a2 a3 a4 a5 a6 a7 a8 a10) (some (r, tz)) := by
    intro a2 a3 a4 a5 a6 a7 a8 a10 t
    refine jjs hG rfl rfl ?_
    refine jj_zle hG (t := 399) rfl rfl ?_ ?_
    · exact jj_wl hG [0, 2, 3, 4, 5, 6, 7, 8] rfl (b399 _ _ _ _ _ _ _ _)
    refine jjs hG rfl rfl ?_
    refine jj_gr hG (k := 73) rfl rfl rfl rfl ?_
    refine jjs hG rfl rfl ?_
    refine jjs hG rfl rfl ?_
    refine jjs hG rfl rfl ?_
    refine jj_cp hG 0 rfl rfl (Nat.le_of_ble_eq_true rfl) (by decide) (Nat.le_of_ble_eq_true rfl) rfl (st' := [.int a8, .ref (q 73)]) rfl (w := .long) (fun _ _ hw h k => pm_rcv_of moM_m (k_code base sa hw h k)) (fun x1 => ?_)
    refine jj_ls hG (k := 73) rfl rfl rfl (fun s2 => ?_)
    exact jj_wl hG [0, 2, 3, 4, 5, 6, 7, 8] rfl (b399 _ _ _ _ _ _ _ _)
  have b315 : ∀ (a1 : Int32) (a2 : Int32) (a3 : Int32) (a4 : Int32) (a5 : Int32) (a6 : Int32) (a7 : Int32) (a8 : Int32) (t : moS), JJ C R base m G 315 [(0, .ref m), (1, .int a1), (2, .int a2), (3, .int a3), (4, .int a4), (5, .int a5), (6, .int a6), (7, .int a7), (8, .int a8)] [] q t kc ks (M_lineJoin_b315 t a1 a2 a3 a4 a5 a6 a7 a8) (some (r, tz)) := by
    intro a1 a2 a3 a4 a5 a6 a7 a8 t
    refine jj_ic hG rfl cc_i2 ?_
    refine jjs hG rfl rfl ?_
    refine jjs hG rfl rfl ?_
    refine jjs hG rfl rfl ?_
    refine jj_gi hG (k := 12) rfl rfl rfl rfl ?_
    refine jjs hG rfl rfl ?_
    refine jjc hG rfl rfl (Nat.le_of_ble_eq_true rfl) ?_
    refine jjs hG rfl rfl ?_
    refine jj_gr hG (k := 75) rfl rfl rfl rfl ?_
    refine jjs hG rfl rfl ?_
    refine jj_ic hG rfl cc_i1 ?_
    refine jj_bs hG (k := 75) rfl rfl rfl (fun s1 => ?_)
    refine jjs hG rfl rfl ?_
    refine jj_gr hG (k := 76) rfl rfl rfl rfl ?_
    refine jjs hG rfl rfl ?_
    refine jjs hG rfl rfl ?_
    refine jj_gz hG (k := 13) rfl rfl rfl rfl ?_
    refine jj_ls hG (k := 76) rfl rfl rfl (fun s2 => ?_)
    refine jjs hG rfl rfl ?_
    refine jj_gr hG (k := 77) rfl rfl rfl rfl ?_
    refine jjs hG rfl rfl ?_
    refine jjs hG rfl rfl ?_
    refine jj_gz hG (k := 14) rfl rfl rfl rfl ?_
    refine jj_ls hG (k := 77) rfl rfl rfl (fun s3 => ?_)
    refine jjs hG rfl rfl ?_
    refine jj_gr hG (k := 78) rfl rfl rfl rfl ?_
    refine jjs hG rfl rfl ?_
    refine jjs hG rfl rfl ?_
    refine jj_gi hG (k := 15) rfl rfl rfl rfl ?_
    refine jj_is hG (k := 78) rfl rfl rfl (fun s4 => ?_)
    refine jjs hG rfl rfl ?_
    refine jj_zle hG (t := 383) rfl rfl ?_ ?_
    · exact jj_wl hG [1, 3, 4, 5, 6, 7, 8, 9, 0] rfl (b383 _ _ _ _ _ _ _ _ _)
    refine jjs hG rfl rfl ?_
    refine jj_gr hG (k := 72) rfl rfl rfl rfl ?_
    refine jjs hG rfl rfl ?_
    refine jjs hG rfl rfl ?_
    refine jjs hG rfl rfl ?_
    refine jj_cp hG 0 rfl rfl (Nat.le_of_ble_eq_true rfl) (by decide) (Nat.le_of_ble_eq_true rfl) rfl (st' := [.int a8, .ref (q 72)]) rfl (w := .int) (fun _ _ hw h k => pm_rcv_of moM_m (k_number base sa hw h k)) (fun x5 => ?_)
    refine jj_is hG (k := 72) rfl rfl rfl (fun s6 => ?_)
    exact jj_wl hG [1, 3, 4, 5, 6, 7, 8, 9, 0] rfl (b383 _ _ _ _ _ _ _ _ _)
  have b282 : ∀ (a1 : Int32) (a2 : Int32) (a3 : Int32) (a4 : Int32) (a5 : Int32) (a6 : Int32) (a7 : Int32) (a8 : Int32) (t : moS), JJ C R base m G 282 [(0, .ref m), (1, .int a1), (2, .int a2), (3, .int a3), (4, .int a4), (5, .int a5), (6, .int a6), (7, .int a7), (8, .int a8)] [] q t kc ks (M_lineJoin_b282 t a1 a2 a3 a4 a5 a6 a7 a8) (some (r, tz)) := by
    intro a1 a2 a3 a4 a5 a6 a7 a8 t
    refine jjs hG rfl rfl ?_
    refine jjs hG rfl rfl ?_
    refine jjs hG rfl rfl ?_
    refine jjs hG rfl rfl ?_
    refine jjs hG rfl rfl ?_
    refine jj_cp hG 0 rfl rfl (Nat.le_of_ble_eq_true rfl) (by decide) (Nat.le_of_ble_eq_true rfl) rfl (st' := []) rfl (w := .int) (fun _ _ hw h k => pm_rcv_of moM_m (k_haveRoom base sa hw h k)) (fun x1 => ?_)
    refine jj_zne hG (t := 299) rfl rfl ?_ ?_
    · refine jjs hG rfl rfl ?_
      refine jj_ic hG rfl cc_im1 ?_
      refine jj_ine hG (t := 315) rfl rfl ?_ ?_
      · exact jj_wl hG [0, 1, 2, 3, 4, 5, 6, 7, 8] rfl (b315 _ _ _ _ _ _ _ _ _)
      refine jjs hG rfl rfl ?_
      refine jjs hG rfl rfl ?_
      refine jjs hG rfl rfl ?_
      refine jj_cs hG 0 rfl rfl (Nat.le_of_ble_eq_true rfl) (by decide) (Nat.le_of_ble_eq_true rfl) rfl (st' := []) rfl (w := .int) (fun _ _ _ hw h k => pm_rcv_of moM_m (k_newInterface base sa hw h k)) (fun x3 s2 => ?_)
      refine jjc hG rfl rfl (Nat.le_of_ble_eq_true rfl) ?_
      exact jj_wl hG [1, 2, 3, 4, 5, 6, 7, 8, 0] rfl (b315 _ _ _ _ _ _ _ _ _)
    refine jj_bi hG rfl cc_b6 ?_
    exact jj_riS hG rfl rfl rfl k
  have b256 : ∀ (a1 : Int32) (a2 : Int32) (a3 : Int32) (a4 : Int32) (a5 : Int32) (a6 : Int32) (a7 : Int32) (a8 : Int32) (u0 : Int32) (t : moS), JJ C R base m G 256 [(0, .ref m), (1, .int a1), (2, .int a2), (3, .int a3), (4, .int a4), (5, .int a5), (6, .int a6), (7, .int a7), (8, .int a8)] [.int u0] q t kc ks (M_lineJoin_b256 t a1 a2 a3 a4 a5 a6 a7 a8 u0) (some (r, tz)) := by
    intro a1 a2 a3 a4 a5 a6 a7 a8 u0 t
    refine jjc hG rfl rfl (Nat.le_of_ble_eq_true rfl) ?_
    refine jjs hG rfl rfl ?_
    refine jj_zne hG (t := 265) rfl rfl ?_ ?_
    · refine jjs hG rfl rfl ?_
      refine jj_ic hG rfl cc_im1 ?_
      refine jj_ine hG (t := 282) rfl rfl ?_ ?_
      · exact jj_wl hG [1, 2, 3, 4, 5, 6, 7, 8, 9] rfl (b282 _ _ _ _ _ _ _ _ _)
      refine jjs hG rfl rfl ?_
      refine jj_gr hG (k := 70) rfl rfl rfl rfl ?_
      refine jjs hG rfl rfl ?_
      refine jj_ia hG (k := 70) rfl rfl rfl (fun x1 => ?_)
      refine jj_ic hG rfl cc_i4 ?_
      refine jj_ieq hG (t := 296) rfl rfl ?_ ?_
      · refine jj_bi hG rfl cc_b6 ?_
        exact jj_riS hG rfl rfl rfl k
      exact jj_wl hG [1, 2, 3, 4, 5, 6, 7, 8, 9] rfl (b282 _ _ _ _ _ _ _ _ _)
    refine jj_ic hG rfl cc_i4 ?_
    exact jj_riS hG rfl rfl rfl k
  have b255 : ∀ (a1 : Int32) (a2 : Int32) (a3 : Int32) (a4 : Int32) (a5 : Int32) (a6 : Int32) (a7 : Int32) (a8 : Int32) (t : moS), JJ C R base m G 255 [(0, .ref m), (1, .int a1), (2, .int a2), (3, .int a3), (4, .int a4), (5, .int a5), (6, .int a6), (7, .int a7), (8, .int a8)] [] q t kc ks (M_lineJoin_b255 t a1 a2 a3 a4 a5 a6 a7 a8) (some (r, tz)) := by
    intro a1 a2 a3 a4 a5 a6 a7 a8 t
    refine jj_ic hG rfl cc_i0 ?_
    exact jj_wl hG [0, 1, 2, 3, 4, 5, 6, 7, 8] rfl (b256 _ _ _ _ _ _ _ _ _ _)
  have b233 : ∀ (a1 : Int32) (a2 : Int32) (a3 : Int32) (a4 : Int32) (a5 : Int32) (a6 : Int32) (a7 : Int32) (a8 : Int32) (t : moS), JJ C R base m G 233 [(0, .ref m), (1, .int a1), (2, .int a2), (3, .int a3), (4, .int a4), (5, .int a5), (6, .int a6), (7, .int a7), (8, .int a8)] [] q t kc ks (M_lineJoin_b233 t a1 a2 a3 a4 a5 a6 a7 a8) (some (r, tz)) := by
    intro a1 a2 a3 a4 a5 a6 a7 a8 t
    refine jjs hG rfl rfl ?_
    refine jjs hG rfl rfl ?_
    refine jj_cp hG 0 rfl rfl (Nat.le_of_ble_eq_true rfl) (by decide) (Nat.le_of_ble_eq_true rfl) rfl (st' := []) rfl (w := .int) (fun _ _ hw h k => pm_rcv_of moM_m (k_isKeyOption base sa hw h k)) (fun x1 => ?_)
    refine jj_zeq hG (t := 255) rfl rfl ?_ ?_
    · exact jj_wl hG [0, 1, 2, 3, 4, 5, 6, 7, 8] rfl (b255 _ _ _ _ _ _ _ _ _)
    refine jjs hG rfl rfl ?_
    refine jjs hG rfl rfl ?_
    refine jj_cp hG 0 rfl rfl (Nat.le_of_ble_eq_true rfl) (by decide) (Nat.le_of_ble_eq_true rfl) rfl (st' := []) rfl (w := .int) (fun _ _ hw h k => pm_rcv_of moM_m (k_isKeyOption base sa hw h k)) (fun x2 => ?_)
    refine jj_zeq hG (t := 255) rfl rfl ?_ ?_
    · exact jj_wl hG [0, 1, 2, 3, 4, 5, 6, 7, 8] rfl (b255 _ _ _ _ _ _ _ _ _)
    refine jj_ic hG rfl cc_i1 ?_
    refine jj_go hG (t := 256) rfl rfl ?_
    exact jj_wl hG [0, 1, 2, 3, 4, 5, 6, 7, 8] rfl (b256 _ _ _ _ _ _ _ _ _ _)
  have b221 : ∀ (a1 : Int32) (a2 : Int32) (a3 : Int32) (a4 : Int32) (a5 : Int32) (a6 : Int32) (a7 : Int32) (a8 : Int32) (t : moS), JJ C R base m G 221 [(0, .ref m), (1, .int a1), (2, .int a2), (3, .int a3), (4, .int a4), (5, .int a5), (6, .int a6), (7, .int a7), (8, .int a8)] [] q t kc ks (M_lineJoin_b221 t a1 a2 a3 a4 a5 a6 a7 a8) (some (r, tz)) := by
    intro a1 a2 a3 a4 a5 a6 a7 a8 t
    refine jjs hG rfl rfl ?_
    refine jj_zeq hG (t := 233) rfl rfl ?_ ?_
    · exact jj_wl hG [0, 1, 2, 3, 4, 5, 6, 7, 8] rfl (b233 _ _ _ _ _ _ _ _ _)
    refine jjs hG rfl rfl ?_
    refine jjs hG rfl rfl ?_
    refine jj_cp hG 0 rfl rfl (Nat.le_of_ble_eq_true rfl) (by decide) (Nat.le_of_ble_eq_true rfl) rfl (st' := []) rfl (w := .int) (fun _ _ hw h k => pm_rcv_of moM_m (k_isSecret base sa hw h k)) (fun x1 => ?_)
    refine jj_zeq hG (t := 255) rfl rfl ?_ ?_
    · exact jj_wl hG [0, 1, 2, 3, 4, 5, 6, 7, 8] rfl (b255 _ _ _ _ _ _ _ _ _)
    exact jj_wl hG [0, 1, 2, 3, 4, 5, 6, 7, 8] rfl (b233 _ _ _ _ _ _ _ _ _)
  have b206 : ∀ (a1 : Int32) (a2 : Int32) (a3 : Int32) (a4 : Int32) (a5 : Int32) (a6 : Int32) (a7 : Int32) (a8 : Int32) (t : moS), JJ C R base m G 206 [(0, .ref m), (1, .int a1), (2, .int a2), (3, .int a3), (4, .int a4), (5, .int a5), (6, .int a6), (7, .int a7), (8, .int a8)] [] q t kc ks (M_lineJoin_b206 t a1 a2 a3 a4 a5 a6 a7 a8) (some (r, tz)) := by
    intro a1 a2 a3 a4 a5 a6 a7 a8 t
    refine jjs hG rfl rfl ?_
    refine jj_zeq hG (t := 221) rfl rfl ?_ ?_
    · exact jj_wl hG [0, 1, 2, 3, 4, 5, 6, 7, 8] rfl (b221 _ _ _ _ _ _ _ _ _)
    refine jjs hG rfl rfl ?_
    refine jjs hG rfl rfl ?_
    refine jj_ic hG rfl cc_i1 ?_
    refine jj_bi hG rfl cc_b15 ?_
    refine jj_cp hG 0 rfl rfl (Nat.le_of_ble_eq_true rfl) (by decide) (Nat.le_of_ble_eq_true rfl) rfl (st' := []) rfl (w := .int) (fun _ _ hw h k => pm_rcv_of moM_m (k_isNumber base sa hw h k)) (fun x1 => ?_)
    refine jj_zeq hG (t := 255) rfl rfl ?_ ?_
    · exact jj_wl hG [0, 1, 2, 3, 4, 5, 6, 7, 8] rfl (b255 _ _ _ _ _ _ _ _ _)
    exact jj_wl hG [0, 1, 2, 3, 4, 5, 6, 7, 8] rfl (b221 _ _ _ _ _ _ _ _ _)
  have b125 : ∀ (a1 : Int32) (a2 : Int32) (a3 : Int32) (a4 : Int32) (a5 : Int32) (t : moS), JJ C R base m G 125 [(0, .ref m), (1, .int a1), (2, .int a2), (3, .int a3), (4, .int a4), (5, .int a5)] [] q t kc ks (M_lineJoin_b125 t a1 a2 a3 a4 a5) (some (r, tz)) := by
    intro a1 a2 a3 a4 a5 t
    refine jjs hG rfl rfl ?_
    refine jjs hG rfl rfl ?_
    refine jj_ic hG rfl cc_i1 ?_
    refine jj_cp hG 0 rfl rfl (Nat.le_of_ble_eq_true rfl) (by decide) (Nat.le_of_ble_eq_true rfl) rfl (st' := [.ref m]) rfl (w := .long) (fun _ _ hw h k => pm_rcv_of moM_m (k_name base sa hw h k)) (fun x1 => ?_)
    refine jj_cp hG 0 rfl rfl (Nat.le_of_ble_eq_true rfl) (by decide) (Nat.le_of_ble_eq_true rfl) rfl (st' := []) rfl (w := .int) (fun _ _ hw h k => pm_rcv_of moM_m (k_routerNamed base sa hw h k)) (fun x2 => ?_)
    refine jjc hG rfl rfl (Nat.le_of_ble_eq_true rfl) ?_
    refine jjs hG rfl rfl ?_
    refine jjs hG rfl rfl ?_
    refine jj_ic hG rfl cc_i2 ?_
    refine jj_cp hG 0 rfl rfl (Nat.le_of_ble_eq_true rfl) (by decide) (Nat.le_of_ble_eq_true rfl) rfl (st' := [.ref m]) rfl (w := .long) (fun _ _ hw h k => pm_rcv_of moM_m (k_name base sa hw h k)) (fun x3 => ?_)
    refine jj_cp hG 0 rfl rfl (Nat.le_of_ble_eq_true rfl) (by decide) (Nat.le_of_ble_eq_true rfl) rfl (st' := []) rfl (w := .int) (fun _ _ hw h k => pm_rcv_of moM_m (k_linkNamed base sa hw h k)) (fun x4 => ?_)
    refine jjc hG rfl rfl (Nat.le_of_ble_eq_true rfl) ?_
    refine jjs hG rfl rfl ?_
    refine jj_ic hG rfl cc_im1 ?_
    refine jj_ieq hG (t := 159) rfl rfl ?_ ?_
    · refine jj_ic hG rfl cc_i3 ?_
      exact jj_riS hG rfl rfl rfl k
    refine jjs hG rfl rfl ?_
    refine jj_ic hG rfl cc_im1 ?_
    refine jj_ine hG (t := 161) rfl rfl ?_ ?_
    · refine jjs hG rfl rfl ?_
      refine jj_ic hG rfl cc_i3 ?_
      refine jj_cs hG 0 rfl rfl (Nat.le_of_ble_eq_true rfl) (by decide) (Nat.le_of_ble_eq_true rfl) rfl (st' := []) rfl (w := .int) (fun _ _ _ hw h k => pm_rcv_of moM_m (k_isAddressWithLength base sa hw h k)) (fun x6 s5 => ?_)
      refine jj_zne hG (t := 171) rfl rfl ?_ ?_
      · refine jjs hG rfl rfl ?_
        refine jjs hG rfl rfl ?_
        refine jjs hG rfl rfl ?_
        refine jj_cp hG 0 rfl rfl (Nat.le_of_ble_eq_true rfl) (by decide) (Nat.le_of_ble_eq_true rfl) rfl (st' := []) rfl (w := .int) (fun _ _ hw h k => pm_rcv_of moM_m (k_interfaceTo base sa hw h k)) (fun x7 => ?_)
        refine jjc hG rfl rfl (Nat.le_of_ble_eq_true rfl) ?_
        refine jjs hG rfl rfl ?_
        refine jj_ic hG rfl cc_im1 ?_
        refine jj_ieq hG (t := 206) rfl rfl ?_ ?_
        · exact jj_wl hG [3, 4, 5, 6, 7, 8, 2, 1, 0] rfl (b206 _ _ _ _ _ _ _ _ _)
        refine jjs hG rfl rfl ?_
        refine jj_gr hG (k := 75) rfl rfl rfl rfl ?_
        refine jj_ic hG rfl cc_i2 ?_
        refine jjs hG rfl rfl ?_
        refine jjs hG rfl rfl ?_
        refine jjs hG rfl rfl ?_
        refine jj_gi hG (k := 12) rfl rfl rfl rfl ?_
        refine jjs hG rfl rfl ?_
        refine jj_ba hG (k := 75) rfl rfl rfl (fun x8 => ?_)
        refine jj_zeq hG (t := 206) rfl rfl ?_ ?_
        · exact jj_wl hG [3, 4, 5, 6, 7, 8, 2, 1, 0] rfl (b206 _ _ _ _ _ _ _ _ _)
        refine jj_ic hG rfl cc_i3 ?_
        exact jj_riS hG rfl rfl rfl k
      refine jj_ic hG rfl cc_i5 ?_
      exact jj_riS hG rfl rfl rfl k
    refine jj_ic hG rfl cc_i3 ?_
    exact jj_riS hG rfl rfl rfl k
  refine (show JJ C R base m G 0 [(0, .ref m)] [] q t kc ks (M_lineJoin t) (some (r, tz)) from ?_) hw h
  refine jjs hG rfl rfl ?_
  refine jj_gi hG (k := 11) rfl rfl rfl rfl ?_
  refine jj_ic hG rfl cc_i4 ?_
  refine jj_ilt hG (t := 34) rfl rfl ?_ ?_
  · refine jj_ic hG rfl cc_i2 ?_
    exact jj_riS hG rfl rfl rfl k
  refine jjs hG rfl rfl ?_
  refine jj_ic hG rfl cc_i4 ?_
  refine jj_l2 hG (v := (216780 : Int64)) rfl rfl ?_
  refine jj_l2 hG (v := (49683580 : Int64)) rfl rfl ?_
  refine jj_l2 hG (v := (2627531736724 : Int64)) rfl rfl ?_
  refine jj_l2 hG (v := (20992 : Int64)) rfl rfl ?_
  refine jj_l2 hG (v := (30721 : Int64)) rfl rfl ?_
  refine jj_l2 hG (v := (65688271285 : Int64)) rfl rfl ?_
  refine jj_cp hG 0 rfl rfl (Nat.le_of_ble_eq_true rfl) (by decide) (Nat.le_of_ble_eq_true rfl) rfl (st' := []) rfl (w := .int) (fun _ _ hw h k => pm_rcv_of moM_m (k_areOptions base sa hw h k)) (fun x1 => ?_)
  refine jj_zne hG (t := 36) rfl rfl ?_ ?_
  · refine jjs hG rfl rfl ?_
    refine jj_l2 hG (v := (216780 : Int64)) rfl rfl ?_
    refine jj_ic hG rfl cc_i4 ?_
    refine jj_cp hG 0 rfl rfl (Nat.le_of_ble_eq_true rfl) (by decide) (Nat.le_of_ble_eq_true rfl) rfl (st' := []) rfl (w := .int) (fun _ _ hw h k => pm_rcv_of moM_m (k_option base sa hw h k)) (fun x2 => ?_)
    refine jjc hG rfl rfl (Nat.le_of_ble_eq_true rfl) ?_
    refine jjs hG rfl rfl ?_
    refine jj_l2 hG (v := (49683580 : Int64)) rfl rfl ?_
    refine jj_ic hG rfl cc_i4 ?_
    refine jj_cp hG 0 rfl rfl (Nat.le_of_ble_eq_true rfl) (by decide) (Nat.le_of_ble_eq_true rfl) rfl (st' := []) rfl (w := .int) (fun _ _ hw h k => pm_rcv_of moM_m (k_option base sa hw h k)) (fun x3 => ?_)
    refine jjc hG rfl rfl (Nat.le_of_ble_eq_true rfl) ?_
    refine jjs hG rfl rfl ?_
    refine jj_l2 hG (v := (2627531736724 : Int64)) rfl rfl ?_
    refine jj_ic hG rfl cc_i4 ?_
    refine jj_cp hG 0 rfl rfl (Nat.le_of_ble_eq_true rfl) (by decide) (Nat.le_of_ble_eq_true rfl) rfl (st' := []) rfl (w := .int) (fun _ _ hw h k => pm_rcv_of moM_m (k_option base sa hw h k)) (fun x4 => ?_)
    refine jjc hG rfl rfl (Nat.le_of_ble_eq_true rfl) ?_
    refine jjs hG rfl rfl ?_
    refine jj_l2 hG (v := (20992 : Int64)) rfl rfl ?_
    refine jj_ic hG rfl cc_i4 ?_
    refine jj_cp hG 0 rfl rfl (Nat.le_of_ble_eq_true rfl) (by decide) (Nat.le_of_ble_eq_true rfl) rfl (st' := []) rfl (w := .int) (fun _ _ hw h k => pm_rcv_of moM_m (k_option base sa hw h k)) (fun x5 => ?_)
    refine jjc hG rfl rfl (Nat.le_of_ble_eq_true rfl) ?_
    refine jjs hG rfl rfl ?_
    refine jj_l2 hG (v := (30721 : Int64)) rfl rfl ?_
    refine jj_ic hG rfl cc_i4 ?_
    refine jj_cp hG 0 rfl rfl (Nat.le_of_ble_eq_true rfl) (by decide) (Nat.le_of_ble_eq_true rfl) rfl (st' := []) rfl (w := .int) (fun _ _ hw h k => pm_rcv_of moM_m (k_option base sa hw h k)) (fun x6 => ?_)
    refine jjc hG rfl rfl (Nat.le_of_ble_eq_true rfl) ?_
    refine jjs hG rfl rfl ?_
    refine jj_zle hG (t := 125) rfl rfl ?_ ?_
    · exact jj_wl hG [5, 4, 3, 2, 1, 0] rfl (b125 _ _ _ _ _ _)
    refine jjs hG rfl rfl ?_
    refine jjs hG rfl rfl ?_
    refine jj_cp hG 0 rfl rfl (Nat.le_of_ble_eq_true rfl) (by decide) (Nat.le_of_ble_eq_true rfl) rfl (st' := []) rfl (w := .long) (fun _ _ hw h k => pm_rcv_of moM_m (k_code base sa hw h k)) (fun x7 => ?_)
    refine jj_l2 hG (v := (24246 : Int64)) rfl rfl ?_
    refine jjs hG rfl rfl ?_
    refine jj_leq hG (t := 125) rfl rfl ?_ ?_
    · exact jj_wl hG [5, 4, 3, 2, 1, 0] rfl (b125 _ _ _ _ _ _)
    refine jjs hG rfl rfl ?_
    refine jjs hG rfl rfl ?_
    refine jj_cp hG 0 rfl rfl (Nat.le_of_ble_eq_true rfl) (by decide) (Nat.le_of_ble_eq_true rfl) rfl (st' := []) rfl (w := .long) (fun _ _ hw h k => pm_rcv_of moM_m (k_code base sa hw h k)) (fun x8 => ?_)
    refine jj_l2 hG (v := (1969498085 : Int64)) rfl rfl ?_
    refine jjs hG rfl rfl ?_
    refine jj_leq hG (t := 125) rfl rfl ?_ ?_
    · exact jj_wl hG [5, 4, 3, 2, 1, 0] rfl (b125 _ _ _ _ _ _)
    refine jjs hG rfl rfl ?_
    refine jjs hG rfl rfl ?_
    refine jj_cp hG 0 rfl rfl (Nat.le_of_ble_eq_true rfl) (by decide) (Nat.le_of_ble_eq_true rfl) rfl (st' := []) rfl (w := .long) (fun _ _ hw h k => pm_rcv_of moM_m (k_code base sa hw h k)) (fun x9 => ?_)
    refine jj_l2 hG (v := (1677407014 : Int64)) rfl rfl ?_
    refine jjs hG rfl rfl ?_
    refine jj_leq hG (t := 125) rfl rfl ?_ ?_
    · exact jj_wl hG [5, 4, 3, 2, 1, 0] rfl (b125 _ _ _ _ _ _)
    refine jj_ic hG rfl cc_i2 ?_
    exact jj_riS hG rfl rfl rfl k
  refine jj_ic hG rfl cc_i2 ?_
  exact jj_riS hG rfl rfl rfl k
noncomputable def M_interfaceWords_b30 (t : moS) : Option Int32 := (some ((-1) : Int32))
noncomputable def M_interfaceWords (t : moS) : Option Int32 := Option.bind (M_name t (1 : Int32)) (fun x1 => (Option.bind (M_routerNamed t x1) (fun x2 => (Option.bind (M_name t (2 : Int32)) (fun x3 => (Option.bind (M_linkNamed t x3) (fun x4 => (if x2 = ((-1) : Int32) then ((M_interfaceWords_b30 t)) else (if x4 = ((-1) : Int32) then ((M_interfaceWords_b30 t)) else (Option.bind (M_interfaceTo t x2 x4) (fun x5 => ((some x5)))))))))))))
set_option maxRecDepth 100000 in
set_option maxHeartbeats 4000000 in
theorem k_interfaceWords (base : Nat) (sa : Nat → Nat) {C : Nat × Nat} {R : pmM} {m : Nat} {q : Nat → Nat} {t : moS} {kc ks : Nat} {Rt : pmR}  {r : Int32} (hw : mW C R base m q t kc ks) (h : M_interfaceWords t = (some r)) (k : Rt (some (.int r)) (moM R m q t) kc ks) : kP_Mo_interfaceWords base sa [.ref m] (moM R m q t) kc ks Rt := by
  refine ⟨Nat.le_of_ble_eq_true rfl, fun G hG => ?_⟩
  have b30 : JJ C R base m G 30 [] [] q t kc ks (M_interfaceWords_b30 t) (some r) := by
    refine jj_ic hG rfl cc_im1 ?_
    refine jj_go hG (t := 40) rfl rfl ?_
    exact jj_ri hG rfl rfl rfl k
  refine (show JJ C R base m G 0 [(0, .ref m)] [] q t kc ks (M_interfaceWords t) (some r) from ?_) hw h
  refine jjs hG rfl rfl ?_
  refine jjs hG rfl rfl ?_
  refine jj_ic hG rfl cc_i1 ?_
  refine jj_cp hG 0 rfl rfl (Nat.le_of_ble_eq_true rfl) (by decide) (Nat.le_of_ble_eq_true rfl) rfl (st' := [.ref m]) rfl (w := .long) (fun _ _ hw h k => pm_rcv_of moM_m (k_name base sa hw h k)) (fun x1 => ?_)
  refine jj_cp hG 0 rfl rfl (Nat.le_of_ble_eq_true rfl) (by decide) (Nat.le_of_ble_eq_true rfl) rfl (st' := []) rfl (w := .int) (fun _ _ hw h k => pm_rcv_of moM_m (k_routerNamed base sa hw h k)) (fun x2 => ?_)
  refine jjc hG rfl rfl (Nat.le_of_ble_eq_true rfl) ?_
  refine jjs hG rfl rfl ?_
  refine jjs hG rfl rfl ?_
  refine jj_ic hG rfl cc_i2 ?_
  refine jj_cp hG 0 rfl rfl (Nat.le_of_ble_eq_true rfl) (by decide) (Nat.le_of_ble_eq_true rfl) rfl (st' := [.ref m]) rfl (w := .long) (fun _ _ hw h k => pm_rcv_of moM_m (k_name base sa hw h k)) (fun x3 => ?_)
  refine jj_cp hG 0 rfl rfl (Nat.le_of_ble_eq_true rfl) (by decide) (Nat.le_of_ble_eq_true rfl) rfl (st' := []) rfl (w := .int) (fun _ _ hw h k => pm_rcv_of moM_m (k_linkNamed base sa hw h k)) (fun x4 => ?_)
  refine jjc hG rfl rfl (Nat.le_of_ble_eq_true rfl) ?_
  refine jjs hG rfl rfl ?_
  refine jj_ic hG rfl cc_im1 ?_
  refine jj_ieq hG (t := 30) rfl rfl ?_ ?_
  · exact jj_wl hG [] rfl (b30)
  refine jjs hG rfl rfl ?_
  refine jj_ic hG rfl cc_im1 ?_
  refine jj_ine hG (t := 34) rfl rfl ?_ ?_
  · refine jjs hG rfl rfl ?_
    refine jjs hG rfl rfl ?_
    refine jjs hG rfl rfl ?_
    refine jj_cp hG 0 rfl rfl (Nat.le_of_ble_eq_true rfl) (by decide) (Nat.le_of_ble_eq_true rfl) rfl (st' := []) rfl (w := .int) (fun _ _ hw h k => pm_rcv_of moM_m (k_interfaceTo base sa hw h k)) (fun x5 => ?_)
    exact jj_ri hG rfl rfl rfl k
  exact jj_wl hG [] rfl (b30)
noncomputable def M_lineKey_b171 (t : moS) (u1 : Int32) (u2 : Int32) (u3 : Int32) : Option (Int32 × moS) := Option.bind (M_number t (6 : Int32)) (fun x1 => (Option.bind (M_number t (7 : Int32)) (fun x2 => (Option.bind (M_takeKey t u1 u2 u3 (5 : Int32) x1 x2) (fun s3 => ((some ((0 : Int32), s3))))))))
noncomputable def M_lineKey_b147 (t : moS) (a1 : Int32) : Option (Int32 × moS) := Option.bind (M_number t (3 : Int32)) (fun x1 => (Option.bind (M_code t (4 : Int32)) (fun x2 => (if x2 = (30721 : Int64) then ((M_lineKey_b171 t a1 x1 (1 : Int32))) else ((M_lineKey_b171 t a1 x1 (0 : Int32)))))))
noncomputable def M_lineKey_b35 (t : moS) : Option (Int32 × moS) := Option.bind (M_interfaceWords t) (fun x1 => (if x1 = ((-1) : Int32) then ((some ((3 : Int32), t))) else (Option.bind (M_isNumber t (3 : Int32) (0 : Int32) (255 : Int32)) (fun x2 => (if x2 = 0 then ((some ((4 : Int32), t))) else (Option.bind (M_isSecret t (5 : Int32)) (fun x3 => (if x3 = 0 then ((some ((4 : Int32), t))) else (Option.bind (M_isNumber t (6 : Int32) (0 : Int32) (99999 : Int32)) (fun x4 => (if x4 = 0 then ((some ((4 : Int32), t))) else (Option.bind (M_isNumber t (7 : Int32) (0 : Int32) (99999 : Int32)) (fun x5 => (if x5 = 0 then ((some ((4 : Int32), t))) else (Option.bind (M_number t (6 : Int32)) (fun x6 => (Option.bind (M_number t (7 : Int32)) (fun x7 => (if x7 < x6 then ((some ((4 : Int32), t))) else (Option.bind (rdI t 79 x1) (fun x8 => (if x8 = (2 : Int32) then (Option.bind (rdI t 82 x1) (fun x9 => (if x9 = (4 : Int32) then (Option.bind (M_number t (3 : Int32)) (fun x10 => (Option.bind (M_keyPlace t x1 x10) (fun x11 => (if x11 = (4 : Int32) then ((some ((6 : Int32), t))) else ((M_lineKey_b147 t x1))))))) else ((M_lineKey_b147 t x1))))) else ((M_lineKey_b147 t x1))))))))))))))))))))))))
noncomputable def M_lineKey (t : moS) : Option (Int32 × moS) := if (moS.S t 11) = (8 : Int32) then (Option.bind (M_code t (4 : Int32)) (fun x1 => (if x1 = (20992 : Int64) then ((M_lineKey_b35 t)) else (Option.bind (M_code t (4 : Int32)) (fun x2 => (if x2 = (30721 : Int64) then ((M_lineKey_b35 t)) else ((some ((2 : Int32), t))))))))) else ((some ((2 : Int32), t)))
set_option maxRecDepth 100000 in
set_option maxHeartbeats 4000000 in
theorem k_lineKey (base : Nat) (sa : Nat → Nat) {C : Nat × Nat} {R : pmM} {m : Nat} {q : Nat → Nat} {t tz : moS} {kc ks : Nat} {Rt : pmR}  {r : Int32} (hw : mW C R base m q t kc ks) (h : M_lineKey t = (some (r, tz))) (k : mW C R base m q tz kc ks → Rt (some (.int r)) (moM R m q tz) kc ks) : kP_Mo_lineKey base sa [.ref m] (moM R m q t) kc ks Rt := by
  refine ⟨Nat.le_of_ble_eq_true rfl, fun G hG => ?_⟩
  have b171 : ∀ (u1 : Int32) (u2 : Int32) (u3 : Int32) (t : moS), JJ C R base m G 171 [(0, .ref m)] [.int u3, .int u2, .int u1, .ref m] q t kc ks (M_lineKey_b171 t u1 u2 u3) (some (r, tz)) := by
    intro u1 u2 u3 t
    refine jj_ic hG rfl cc_i5 ?_
    refine jjs hG rfl rfl ?_
    refine jj_bi hG rfl cc_b6 ?_
    refine jj_cp hG 0 rfl rfl (Nat.le_of_ble_eq_true rfl) (by decide) (Nat.le_of_ble_eq_true rfl) rfl (st' := [.int (5 : Int32), .int u3, .int u2, .int u1, .ref m]) rfl (w := .int) (fun _ _ hw h k => pm_rcv_of moM_m (k_number base sa hw h k)) (fun x1 => ?_)
    refine jjs hG rfl rfl ?_
    refine jj_bi hG rfl cc_b7 ?_
    refine jj_cp hG 0 rfl rfl (Nat.le_of_ble_eq_true rfl) (by decide) (Nat.le_of_ble_eq_true rfl) rfl (st' := [.int x1, .int (5 : Int32), .int u3, .int u2, .int u1, .ref m]) rfl (w := .int) (fun _ _ hw h k => pm_rcv_of moM_m (k_number base sa hw h k)) (fun x2 => ?_)
    refine jj_cv hG 0 rfl rfl (Nat.le_of_ble_eq_true rfl) (by decide) (Nat.le_of_ble_eq_true rfl) rfl (st' := []) rfl (fun _ _ hw h k => pm_rcv_of moM_m (k_takeKey base sa hw h k)) (fun s3 => ?_)
    refine jj_ic hG rfl cc_i0 ?_
    exact jj_riS hG rfl rfl rfl k
  have b147 : ∀ (a1 : Int32) (t : moS), JJ C R base m G 147 [(0, .ref m), (1, .int a1)] [] q t kc ks (M_lineKey_b147 t a1) (some (r, tz)) := by
    intro a1 t
    refine jjs hG rfl rfl ?_
    refine jjs hG rfl rfl ?_
    refine jjs hG rfl rfl ?_
    refine jj_ic hG rfl cc_i3 ?_
    refine jj_cp hG 0 rfl rfl (Nat.le_of_ble_eq_true rfl) (by decide) (Nat.le_of_ble_eq_true rfl) rfl (st' := [.int a1, .ref m]) rfl (w := .int) (fun _ _ hw h k => pm_rcv_of moM_m (k_number base sa hw h k)) (fun x1 => ?_)
    refine jjs hG rfl rfl ?_
    refine jj_ic hG rfl cc_i4 ?_
    refine jj_cp hG 0 rfl rfl (Nat.le_of_ble_eq_true rfl) (by decide) (Nat.le_of_ble_eq_true rfl) rfl (st' := [.int x1, .int a1, .ref m]) rfl (w := .long) (fun _ _ hw h k => pm_rcv_of moM_m (k_code base sa hw h k)) (fun x2 => ?_)
    refine jj_l2 hG (v := (30721 : Int64)) rfl rfl ?_
    refine jjs hG rfl rfl ?_
    refine jj_lne hG (t := 170) rfl rfl ?_ ?_
    · refine jj_ic hG rfl cc_i0 ?_
      exact jj_wl hG [0] rfl (b171 _ _ _ _)
    refine jj_ic hG rfl cc_i1 ?_
    refine jj_go hG (t := 171) rfl rfl ?_
    exact jj_wl hG [0] rfl (b171 _ _ _ _)
  have b35 : ∀ (t : moS), JJ C R base m G 35 [(0, .ref m)] [] q t kc ks (M_lineKey_b35 t) (some (r, tz)) := by
    intro t
    refine jjs hG rfl rfl ?_
    refine jj_cp hG 0 rfl rfl (Nat.le_of_ble_eq_true rfl) (by decide) (Nat.le_of_ble_eq_true rfl) rfl (st' := []) rfl (w := .int) (fun _ _ hw h k => pm_rcv_of moM_m (k_interfaceWords base sa hw h k)) (fun x1 => ?_)
    refine jjc hG rfl rfl (Nat.le_of_ble_eq_true rfl) ?_
    refine jjs hG rfl rfl ?_
    refine jj_ic hG rfl cc_im1 ?_
    refine jj_ine hG (t := 47) rfl rfl ?_ ?_
    · refine jjs hG rfl rfl ?_
      refine jj_ic hG rfl cc_i3 ?_
      refine jj_ic hG rfl cc_i0 ?_
      refine jj_si hG rfl cc_s255 ?_
      refine jj_cp hG 0 rfl rfl (Nat.le_of_ble_eq_true rfl) (by decide) (Nat.le_of_ble_eq_true rfl) rfl (st' := []) rfl (w := .int) (fun _ _ hw h k => pm_rcv_of moM_m (k_isNumber base sa hw h k)) (fun x2 => ?_)
      refine jj_zeq hG (t := 108) rfl rfl ?_ ?_
      · refine jj_ic hG rfl cc_i4 ?_
        exact jj_riS hG rfl rfl rfl k
      refine jjs hG rfl rfl ?_
      refine jj_ic hG rfl cc_i5 ?_
      refine jj_cp hG 0 rfl rfl (Nat.le_of_ble_eq_true rfl) (by decide) (Nat.le_of_ble_eq_true rfl) rfl (st' := []) rfl (w := .int) (fun _ _ hw h k => pm_rcv_of moM_m (k_isSecret base sa hw h k)) (fun x3 => ?_)
      refine jj_zeq hG (t := 108) rfl rfl ?_ ?_
      · refine jj_ic hG rfl cc_i4 ?_
        exact jj_riS hG rfl rfl rfl k
      refine jjs hG rfl rfl ?_
      refine jj_bi hG rfl cc_b6 ?_
      refine jj_ic hG rfl cc_i0 ?_
      refine jj_lw hG (v := (99999 : Int32)) rfl rfl ?_
      refine jj_cp hG 0 rfl rfl (Nat.le_of_ble_eq_true rfl) (by decide) (Nat.le_of_ble_eq_true rfl) rfl (st' := []) rfl (w := .int) (fun _ _ hw h k => pm_rcv_of moM_m (k_isNumber base sa hw h k)) (fun x4 => ?_)
      refine jj_zeq hG (t := 108) rfl rfl ?_ ?_
      · refine jj_ic hG rfl cc_i4 ?_
        exact jj_riS hG rfl rfl rfl k
      refine jjs hG rfl rfl ?_
      refine jj_bi hG rfl cc_b7 ?_
      refine jj_ic hG rfl cc_i0 ?_
      refine jj_lw hG (v := (99999 : Int32)) rfl rfl ?_
      refine jj_cp hG 0 rfl rfl (Nat.le_of_ble_eq_true rfl) (by decide) (Nat.le_of_ble_eq_true rfl) rfl (st' := []) rfl (w := .int) (fun _ _ hw h k => pm_rcv_of moM_m (k_isNumber base sa hw h k)) (fun x5 => ?_)
      refine jj_zeq hG (t := 108) rfl rfl ?_ ?_
      · refine jj_ic hG rfl cc_i4 ?_
        exact jj_riS hG rfl rfl rfl k
      refine jjs hG rfl rfl ?_
      refine jj_bi hG rfl cc_b6 ?_
      refine jj_cp hG 0 rfl rfl (Nat.le_of_ble_eq_true rfl) (by decide) (Nat.le_of_ble_eq_true rfl) rfl (st' := []) rfl (w := .int) (fun _ _ hw h k => pm_rcv_of moM_m (k_number base sa hw h k)) (fun x6 => ?_)
      refine jjs hG rfl rfl ?_
      refine jj_bi hG rfl cc_b7 ?_
      refine jj_cp hG 0 rfl rfl (Nat.le_of_ble_eq_true rfl) (by decide) (Nat.le_of_ble_eq_true rfl) rfl (st' := [.int x6]) rfl (w := .int) (fun _ _ hw h k => pm_rcv_of moM_m (k_number base sa hw h k)) (fun x7 => ?_)
      refine jj_ile hG (t := 110) rfl rfl ?_ ?_
      · refine jjs hG rfl rfl ?_
        refine jj_gr hG (k := 79) rfl rfl rfl rfl ?_
        refine jjs hG rfl rfl ?_
        refine jj_ia hG (k := 79) rfl rfl rfl (fun x8 => ?_)
        refine jj_ic hG rfl cc_i2 ?_
        refine jj_ine hG (t := 147) rfl rfl ?_ ?_
        · exact jj_wl hG [1, 0] rfl (b147 _ _)
        refine jjs hG rfl rfl ?_
        refine jj_gr hG (k := 82) rfl rfl rfl rfl ?_
        refine jjs hG rfl rfl ?_
        refine jj_ia hG (k := 82) rfl rfl rfl (fun x9 => ?_)
        refine jj_ic hG rfl cc_i4 ?_
        refine jj_ine hG (t := 147) rfl rfl ?_ ?_
        · exact jj_wl hG [1, 0] rfl (b147 _ _)
        refine jjs hG rfl rfl ?_
        refine jjs hG rfl rfl ?_
        refine jjs hG rfl rfl ?_
        refine jj_ic hG rfl cc_i3 ?_
        refine jj_cp hG 0 rfl rfl (Nat.le_of_ble_eq_true rfl) (by decide) (Nat.le_of_ble_eq_true rfl) rfl (st' := [.int x1, .ref m]) rfl (w := .int) (fun _ _ hw h k => pm_rcv_of moM_m (k_number base sa hw h k)) (fun x10 => ?_)
        refine jj_cp hG 0 rfl rfl (Nat.le_of_ble_eq_true rfl) (by decide) (Nat.le_of_ble_eq_true rfl) rfl (st' := []) rfl (w := .int) (fun _ _ hw h k => pm_rcv_of moM_m (k_keyPlace base sa hw h k)) (fun x11 => ?_)
        refine jj_ic hG rfl cc_i4 ?_
        refine jj_ine hG (t := 147) rfl rfl ?_ ?_
        · exact jj_wl hG [1, 0] rfl (b147 _ _)
        refine jj_bi hG rfl cc_b6 ?_
        exact jj_riS hG rfl rfl rfl k
      refine jj_ic hG rfl cc_i4 ?_
      exact jj_riS hG rfl rfl rfl k
    refine jj_ic hG rfl cc_i3 ?_
    exact jj_riS hG rfl rfl rfl k
  refine (show JJ C R base m G 0 [(0, .ref m)] [] q t kc ks (M_lineKey t) (some (r, tz)) from ?_) hw h
  refine jjs hG rfl rfl ?_
  refine jj_gi hG (k := 11) rfl rfl rfl rfl ?_
  refine jj_bi hG rfl cc_b8 ?_
  refine jj_ine hG (t := 33) rfl rfl ?_ ?_
  · refine jj_ic hG rfl cc_i2 ?_
    exact jj_riS hG rfl rfl rfl k
  refine jjs hG rfl rfl ?_
  refine jj_ic hG rfl cc_i4 ?_
  refine jj_cp hG 0 rfl rfl (Nat.le_of_ble_eq_true rfl) (by decide) (Nat.le_of_ble_eq_true rfl) rfl (st' := []) rfl (w := .long) (fun _ _ hw h k => pm_rcv_of moM_m (k_code base sa hw h k)) (fun x1 => ?_)
  refine jj_l2 hG (v := (20992 : Int64)) rfl rfl ?_
  refine jjs hG rfl rfl ?_
  refine jj_leq hG (t := 35) rfl rfl ?_ ?_
  · exact jj_wl hG [0] rfl (b35 _)
  refine jjs hG rfl rfl ?_
  refine jj_ic hG rfl cc_i4 ?_
  refine jj_cp hG 0 rfl rfl (Nat.le_of_ble_eq_true rfl) (by decide) (Nat.le_of_ble_eq_true rfl) rfl (st' := []) rfl (w := .long) (fun _ _ hw h k => pm_rcv_of moM_m (k_code base sa hw h k)) (fun x2 => ?_)
  refine jj_l2 hG (v := (30721 : Int64)) rfl rfl ?_
  refine jjs hG rfl rfl ?_
  refine jj_leq hG (t := 35) rfl rfl ?_ ?_
  · exact jj_wl hG [0] rfl (b35 _)
  refine jj_ic hG rfl cc_i2 ?_
  exact jj_riS hG rfl rfl rfl k
