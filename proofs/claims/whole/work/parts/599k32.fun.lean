/-! The model as functions, by program: oracle .. now -/
noncomputable def M_oracle_b133 (t : moS) (p1 : Int32) (a3 : Int32) (a4 : Int64) (a6 : Int64) (a8 : Int32) (a9 : Int32) : Option ((Int32 × moS) ⊕ (Int32 × moS)) := (some (.inl ((a9 + (1 : Int32)), t)))
noncomputable def M_oracle_b290 (t : moS) (p1 : Int32) (a3 : Int32) (a4 : Int64) (a6 : Int64) (a8 : Int32) (a9 : Int32) (a10 : Int32) (a13 : Int32) (u0 : Int64) : Option ((Int64 × Int32 × moS) ⊕ ((Int32 × Int32 × moS) ⊕ ((Int32 × moS) ⊕ (Int32 × moS)))) := (some (.inl (u0, (a13 + (1 : Int32)), t)))
noncomputable def M_oracle_b288 (t : moS) (p1 : Int32) (a3 : Int32) (a4 : Int64) (a6 : Int64) (a8 : Int32) (a9 : Int32) (a10 : Int32) (a11 : Int64) (a13 : Int32) : Option ((Int64 × Int32 × moS) ⊕ ((Int32 × Int32 × moS) ⊕ ((Int32 × moS) ⊕ (Int32 × moS)))) := (M_oracle_b290 t p1 a3 a4 a6 a8 a9 a10 a13 a11)
noncomputable def M_oracle_b355 (t : moS) (p1 : Int32) (a3 : Int32) (a4 : Int64) (a6 : Int64) (a8 : Int32) (a9 : Int32) (a10 : Int32) : Option ((Int32 × Int32 × moS) ⊕ ((Int32 × moS) ⊕ (Int32 × moS))) := (some (.inl (a9, (a10 + (1 : Int32)), t)))
noncomputable def M_oracle_b354 (t : moS) (p1 : Int32) (a3 : Int32) (a4 : Int64) (a6 : Int64) (a8 : Int32) (a9 : Int32) (a10 : Int32) (u1 : Int32) (u2 : Int64) : Option ((Int32 × Int32 × moS) ⊕ ((Int32 × moS) ⊕ (Int32 × moS))) := Option.bind (wrJ t 161 u1 u2) (fun s1 => ((M_oracle_b355 s1 p1 a3 a4 a6 a8 a9 a10)))
noncomputable def M_oracle_b321 (t : moS) (p1 : Int32) (a3 : Int32) (a4 : Int64) (a6 : Int64) (a8 : Int32) (a10 : Int32) (a11 : Int64) (u0 : Int32) : Option ((Int32 × Int32 × moS) ⊕ ((Int32 × moS) ⊕ (Int32 × moS))) := Option.bind (rdJ t 161 a10) (fun x1 => (if a11 < x1 then ((M_oracle_b354 t p1 a3 a4 a6 a8 u0 a10 a10 a11)) else (Option.bind (rdJ t 161 a10) (fun x2 => ((M_oracle_b354 t p1 a3 a4 a6 a8 u0 a10 a10 x2))))))
noncomputable def M_oracle_b316 (t : moS) (p1 : Int32) (a3 : Int32) (a4 : Int64) (a6 : Int64) (a8 : Int32) (a10 : Int32) (a11 : Int64) : Option ((Int32 × Int32 × moS) ⊕ ((Int32 × moS) ⊕ (Int32 × moS))) := (M_oracle_b321 t p1 a3 a4 a6 a8 a10 a11 (1 : Int32))
noncomputable def M_oracle_s202 (t : moS) (p1 : Int32) (a3 : Int32) (a4 : Int64) (a6 : Int64) (a8 : Int32) (a9 : Int32) (a10 : Int32) (a11 : Int64) (a13 : Int32) : Option ((Int64 × Int32 × moS) ⊕ ((Int32 × Int32 × moS) ⊕ ((Int32 × moS) ⊕ (Int32 × moS)))) := Option.bind (rdI t 70 a10) (fun x1 => (if a13 < (((4 : Int32) * a10) + x1) then (Option.bind (rdI t 71 a13) (fun x3 => (Option.bind (M_leastAt t a10 x3 a8) (fun x4 => (Option.bind (rdI t 72 a13) (fun x5 => (Option.bind (rdI t 75 (((2 : Int32) * a13) + a8)) (fun x6 => (if x6 = 0 then ((M_oracle_b288 t p1 a3 a4 a6 a8 a9 a10 a11 a13)) else (Option.bind (rdI t 71 a13) (fun x7 => (Option.bind (rdI t 22 x7) (fun x8 => (if x8 = 0 then ((M_oracle_b288 t p1 a3 a4 a6 a8 a9 a10 a11 a13)) else (if (x4 + (Int32.toInt64 x5)) < a11 then ((M_oracle_b290 t p1 a3 a4 a6 a8 a9 a10 a13 (x4 + (Int32.toInt64 x5)))) else ((M_oracle_b288 t p1 a3 a4 a6 a8 a9 a10 a11 a13))))))))))))))))) else ((xo (if a9 = 0 then (Option.bind (rdJ t 161 a10) (fun x2 => (if a11 < x2 then ((M_oracle_b316 t p1 a3 a4 a6 a8 a10 a11)) else ((M_oracle_b321 t p1 a3 a4 a6 a8 a10 a11 (0 : Int32)))))) else ((M_oracle_b316 t p1 a3 a4 a6 a8 a10 a11)))))))
noncomputable def M_oracle_b202 (t : moS) (p1 : Int32) (a3 : Int32) (a4 : Int64) (a6 : Int64) (a8 : Int32) (a9 : Int32) (a10 : Int32) (a11 : Int64) (a13 : Int32) : Option ((Int32 × Int32 × moS) ⊕ ((Int32 × moS) ⊕ (Int32 × moS))) := lp (fun x => M_oracle_s202 x.2.2 p1 a3 a4 a6 a8 a9 a10 x.1 x.2.1) (a11, a13, t)
noncomputable def M_oracle_s153 (t : moS) (p1 : Int32) (a3 : Int32) (a4 : Int64) (a6 : Int64) (a8 : Int32) (a9 : Int32) (a10 : Int32) : Option ((Int32 × Int32 × moS) ⊕ ((Int32 × moS) ⊕ (Int32 × moS))) := if a10 < (moS.S t 37) then (Option.bind (rdI t 39 a10) (fun x1 => (if x1 = 0 then ((M_oracle_b355 t p1 a3 a4 a6 a8 a9 a10)) else (bn2 (M_isDue t a10 a8 a4 a6 a3) (fun x3 s2 => (if x3 = 0 then ((M_oracle_b202 s2 p1 a3 a4 a6 a8 a9 a10 (1000 : Int64) ((4 : Int32) * a10))) else ((M_oracle_b355 s2 p1 a3 a4 a6 a8 a9 a10)))))))) else ((xo ((some (.inl (a9, t))))))
noncomputable def M_oracle_b153 (t : moS) (p1 : Int32) (a3 : Int32) (a4 : Int64) (a6 : Int64) (a8 : Int32) (a9 : Int32) (a10 : Int32) : Option ((Int32 × moS) ⊕ (Int32 × moS)) := lp (fun x => M_oracle_s153 x.2.2 p1 a3 a4 a6 a8 x.1 x.2.1) (a9, a10, t)
noncomputable def M_oracle_s142 (t : moS) (p1 : Int32) (a3 : Int32) (a4 : Int64) (a6 : Int64) (a8 : Int32) (a9 : Int32) : Option ((Int32 × moS) ⊕ (Int32 × moS)) := if a9 = 0 then ((xo (Option.bind (rdJ t 161 p1) (fun x1 => (if (15 : Int64) < x1 then ((some ((16 : Int32), t))) else (Option.bind (rdJ t 161 p1) (fun x2 => ((some ((Int64.toInt32 x2), t)))))))))) else ((M_oracle_b153 t p1 a3 a4 a6 a8 (0 : Int32) (0 : Int32)))
noncomputable def M_oracle_b142 (t : moS) (p1 : Int32) (a3 : Int32) (a4 : Int64) (a6 : Int64) (a8 : Int32) (a9 : Int32) : Option (Int32 × moS) := lp (fun x => M_oracle_s142 x.2 p1 a3 a4 a6 a8 x.1) (a9, t)
noncomputable def M_oracle_s76 (t : moS) (p1 : Int32) (a3 : Int32) (a4 : Int64) (a6 : Int64) (a8 : Int32) (a9 : Int32) : Option ((Int32 × moS) ⊕ (Int32 × moS)) := if a9 < (moS.S t 37) then (Option.bind (wrJ t 161 a9 (1000 : Int64)) (fun s1 => (Option.bind (rdI s1 39 a9) (fun x2 => (if x2 = 0 then ((M_oracle_b133 s1 p1 a3 a4 a6 a8 a9)) else (bn2 (M_isDue s1 a9 a8 a4 a6 a3) (fun x4 s3 => (if x4 = 0 then ((M_oracle_b133 s3 p1 a3 a4 a6 a8 a9)) else (Option.bind (wrJ s3 161 a9 (Int32.toInt64 (moS.S s3 154))) (fun s5 => ((M_oracle_b133 s5 p1 a3 a4 a6 a8 a9)))))))))))) else ((xo ((M_oracle_b142 t p1 a3 a4 a6 a8 (1 : Int32)))))
noncomputable def M_oracle_b76 (t : moS) (p1 : Int32) (a3 : Int32) (a4 : Int64) (a6 : Int64) (a8 : Int32) (a9 : Int32) : Option (Int32 × moS) := lp (fun x => M_oracle_s76 x.2 p1 a3 a4 a6 a8 x.1) (a9, t)
noncomputable def M_oracle (t : moS) (p1 : Int32) : Option (Int32 × moS) := letS (moSS t 0 (0 : Int32)) (fun s1 => (bn2 (M_takeAddress s1) (fun x3 s2 => (if x3 = 0 then ((some (((-1) : Int32), s2))) else (if (M_isRouter s2 p1) = 0 then ((some (((-1) : Int32), s2))) else (Option.bind (rdI s2 39 p1) (fun x4 => (if x4 = 0 then ((some (((-1) : Int32), s2))) else (Option.bind (M_longestOfAll s2) (fun x5 => (if x5 = ((-1) : Int32) then ((some (((-1) : Int32), s2))) else ((M_oracle_b76 s2 p1 x5 ((moS.Z s2 13) &&& (M_maskHigh x5)) ((moS.Z s2 14) &&& (M_maskLow x5)) (moS.S s2 12) (0 : Int32))))))))))))))
set_option maxRecDepth 100000 in
set_option maxHeartbeats 4000000 in
theorem k_oracle (base : Nat) (sa : Nat → Nat) {C : Nat × Nat} {R : pmM} {m : Nat} {q : Nat → Nat} {t tz : moS} {kc ks : Nat} {Rt : pmR} {p1 : Int32} {r : Int32} (hw : mW C R base m q t kc ks) (h : M_oracle t p1 = (some (r, tz))) (k : mW C R base m q tz kc ks → Rt (some (.int r)) (moM R m q tz) kc ks) : kP_Mo_oracle base sa [.ref m, .int p1] (moM R m q t) kc ks Rt := by
  refine ⟨Nat.le_of_ble_eq_true rfl, fun G hG => ?_⟩
  have b142 : ∀ (a3 : Int32) (a4 : Int64) (a6 : Int64) (a8 : Int32) (n : Nat) (a9 : Int32) (t : moS), JJ C R base m G 142 [(0, .ref m), (1, .int p1), (3, .int a3), (4, .long a4), (6, .long a6), (8, .int a8), (9, .int a9)] [] q t kc ks (lpN (fun x => M_oracle_s142 x.2 p1 a3 a4 a6 a8 x.1) n (a9, t)) (some (r, tz)) := by
    intro a3 a4 a6 a8 n
    induction n with
    | zero => intro a9 t; exact jj_lp0
    | succ n ih142 =>
      intro a9 t
      refine jj_lpS (fun y142 c142 => ?_)
      have b153 : ∀ (n : Nat) (a9 : Int32) (a10 : Int32) (t : moS), JJ C R base m G 153 [(0, .ref m), (1, .int p1), (3, .int a3), (4, .long a4), (6, .long a6), (8, .int a8), (9, .int a9), (10, .int a10)] [] q t kc ks (lpN (fun x => M_oracle_s153 x.2.2 p1 a3 a4 a6 a8 x.1 x.2.1) n (a9, a10, t)) (some y142) := by
        intro n
        induction n with
        | zero => intro a9 a10 t; exact jj_lp0
        | succ n ih153 =>
          intro a9 a10 t
          refine jj_lpS (fun y153 c153 => ?_)
          have b355 : ∀ (a9 : Int32) (a10 : Int32) (t : moS), JJ C R base m G 355 [(0, .ref m), (1, .int p1), (3, .int a3), (4, .long a4), (6, .long a6), (8, .int a8), (9, .int a9), (10, .int a10)] [] q t kc ks (M_oracle_b355 t p1 a3 a4 a6 a8 a9 a10) (some y153) := by
            intro a9 a10 t
            refine jj_inc hG rfl (Nat.le_of_ble_eq_true rfl) rfl cc_i1 ?_
            refine jj_go hG (t := 153) rfl rfl ?_
            exact jj_back c153 (jj_wl hG [1, 2, 3, 4, 5, 6, 7, 0] rfl (ih153 _ _ _))
          have b354 : ∀ (a9 : Int32) (a10 : Int32) (u1 : Int32) (u2 : Int64) (t : moS), JJ C R base m G 354 [(0, .ref m), (1, .int p1), (3, .int a3), (4, .long a4), (6, .long a6), (8, .int a8), (9, .int a9), (10, .int a10)] [.long u2, .int u1, .ref (q 161)] q t kc ks (M_oracle_b354 t p1 a3 a4 a6 a8 a9 a10 u1 u2) (some y153) := by
            intro a9 a10 u1 u2 t
            refine jj_ls hG (k := 161) rfl rfl rfl (fun s1 => ?_)
            exact jj_wl hG [0, 1, 2, 3, 4, 5, 6, 7] rfl (b355 _ _ _)
          have b321 : ∀ (a10 : Int32) (a11 : Int64) (u0 : Int32) (t : moS), JJ C R base m G 321 [(0, .ref m), (1, .int p1), (3, .int a3), (4, .long a4), (6, .long a6), (8, .int a8), (10, .int a10), (11, .long a11)] [.int u0] q t kc ks (M_oracle_b321 t p1 a3 a4 a6 a8 a10 a11 u0) (some y153) := by
            intro a10 a11 u0 t
            refine jjc hG rfl rfl (Nat.le_of_ble_eq_true rfl) ?_
            refine jjs hG rfl rfl ?_
            refine jj_gr hG (k := 161) rfl rfl rfl rfl ?_
            refine jjs hG rfl rfl ?_
            refine jjs hG rfl rfl ?_
            refine jjs hG rfl rfl ?_
            refine jj_gr hG (k := 161) rfl rfl rfl rfl ?_
            refine jjs hG rfl rfl ?_
            refine jj_la hG (k := 161) rfl rfl rfl (fun x1 => ?_)
            refine jjs hG rfl rfl ?_
            refine jj_lge hG (t := 347) rfl rfl ?_ ?_
            · refine jjs hG rfl rfl ?_
              refine jj_gr hG (k := 161) rfl rfl rfl rfl ?_
              refine jjs hG rfl rfl ?_
              refine jj_la hG (k := 161) rfl rfl rfl (fun x2 => ?_)
              exact jj_wl hG [1, 2, 3, 4, 5, 6, 0, 7] rfl (b354 _ _ _ _ _)
            refine jjs hG rfl rfl ?_
            refine jj_go hG (t := 354) rfl rfl ?_
            exact jj_wl hG [1, 2, 3, 4, 5, 6, 0, 7] rfl (b354 _ _ _ _ _)
          have b316 : ∀ (a10 : Int32) (a11 : Int64) (t : moS), JJ C R base m G 316 [(0, .ref m), (1, .int p1), (3, .int a3), (4, .long a4), (6, .long a6), (8, .int a8), (10, .int a10), (11, .long a11)] [] q t kc ks (M_oracle_b316 t p1 a3 a4 a6 a8 a10 a11) (some y153) := by
            intro a10 a11 t
            refine jj_ic hG rfl cc_i1 ?_
            refine jj_go hG (t := 321) rfl rfl ?_
            exact jj_wl hG [0, 1, 2, 3, 4, 5, 6, 7] rfl (b321 _ _ _ _)
          have b202 : ∀ (a9 : Int32) (a10 : Int32) (n : Nat) (a11 : Int64) (a13 : Int32) (t : moS), JJ C R base m G 202 [(0, .ref m), (1, .int p1), (3, .int a3), (4, .long a4), (6, .long a6), (8, .int a8), (9, .int a9), (10, .int a10), (11, .long a11), (13, .int a13)] [] q t kc ks (lpN (fun x => M_oracle_s202 x.2.2 p1 a3 a4 a6 a8 a9 a10 x.1 x.2.1) n (a11, a13, t)) (some y153) := by
            intro a9 a10 n
            induction n with
            | zero => intro a11 a13 t; exact jj_lp0
            | succ n ih202 =>
              intro a11 a13 t
              refine jj_lpS (fun y202 c202 => ?_)
              have b290 : ∀ (a13 : Int32) (u0 : Int64) (t : moS), JJ C R base m G 290 [(0, .ref m), (1, .int p1), (3, .int a3), (4, .long a4), (6, .long a6), (8, .int a8), (9, .int a9), (10, .int a10), (13, .int a13)] [.long u0] q t kc ks (M_oracle_b290 t p1 a3 a4 a6 a8 a9 a10 a13 u0) (some y202) := by
                intro a13 u0 t
                refine jjc hG rfl rfl (Nat.le_of_ble_eq_true rfl) ?_
                refine jj_inc hG rfl (Nat.le_of_ble_eq_true rfl) rfl cc_i1 ?_
                refine jj_go hG (t := 202) rfl rfl ?_
                exact jj_back c202 (jj_wl hG [2, 3, 4, 5, 6, 7, 8, 9, 1, 0] rfl (ih202 _ _ _))
              have b288 : ∀ (a11 : Int64) (a13 : Int32) (t : moS), JJ C R base m G 288 [(0, .ref m), (1, .int p1), (3, .int a3), (4, .long a4), (6, .long a6), (8, .int a8), (9, .int a9), (10, .int a10), (11, .long a11), (13, .int a13)] [] q t kc ks (M_oracle_b288 t p1 a3 a4 a6 a8 a9 a10 a11 a13) (some y202) := by
                intro a11 a13 t
                refine jjs hG rfl rfl ?_
                exact jj_wl hG [0, 1, 2, 3, 4, 5, 6, 7, 9] rfl (b290 _ _ _)
              refine (show JJ C R base m G 202 [(0, .ref m), (1, .int p1), (3, .int a3), (4, .long a4), (6, .long a6), (8, .int a8), (9, .int a9), (10, .int a10), (11, .long a11), (13, .int a13)] [] q t kc ks (M_oracle_s202 t p1 a3 a4 a6 a8 a9 a10 a11 a13) (some y202) from ?_)
              refine jjs hG rfl rfl ?_
              refine jj_ic hG rfl cc_i4 ?_
              refine jjs hG rfl rfl ?_
              refine jjs hG rfl rfl ?_
              refine jjs hG rfl rfl ?_
              refine jj_gr hG (k := 70) rfl rfl rfl rfl ?_
              refine jjs hG rfl rfl ?_
              refine jj_ia hG (k := 70) rfl rfl rfl (fun x1 => ?_)
              refine jjs hG rfl rfl ?_
              refine jj_ige hG (t := 298) rfl rfl ?_ ?_
              · refine jj_exit c202 ?_
                refine jjs hG rfl rfl ?_
                refine jj_zne hG (t := 316) rfl rfl ?_ ?_
                · exact jj_wl hG [0, 1, 2, 3, 4, 5, 7, 8] rfl (b316 _ _ _)
                refine jjs hG rfl rfl ?_
                refine jjs hG rfl rfl ?_
                refine jj_gr hG (k := 161) rfl rfl rfl rfl ?_
                refine jjs hG rfl rfl ?_
                refine jj_la hG (k := 161) rfl rfl rfl (fun x2 => ?_)
                refine jjs hG rfl rfl ?_
                refine jj_lge hG (t := 320) rfl rfl ?_ ?_
                · refine jj_ic hG rfl cc_i0 ?_
                  exact jj_wl hG [0, 1, 2, 3, 4, 5, 7, 8] rfl (b321 _ _ _ _)
                exact jj_wl hG [0, 1, 2, 3, 4, 5, 7, 8] rfl (b316 _ _ _)
              refine jjs hG rfl rfl ?_
              refine jjs hG rfl rfl ?_
              refine jjs hG rfl rfl ?_
              refine jj_gr hG (k := 71) rfl rfl rfl rfl ?_
              refine jjs hG rfl rfl ?_
              refine jj_ia hG (k := 71) rfl rfl rfl (fun x3 => ?_)
              refine jjs hG rfl rfl ?_
              refine jj_cp hG 0 rfl rfl (Nat.le_of_ble_eq_true rfl) (by decide) (Nat.le_of_ble_eq_true rfl) rfl (st' := []) rfl (w := .long) (fun _ _ hw h k => pm_rcv_of moM_m (k_leastAt base sa hw h k)) (fun x4 => ?_)
              refine jjs hG rfl rfl ?_
              refine jj_gr hG (k := 72) rfl rfl rfl rfl ?_
              refine jjs hG rfl rfl ?_
              refine jj_ia hG (k := 72) rfl rfl rfl (fun x5 => ?_)
              refine jjs hG rfl rfl ?_
              refine jjs hG rfl rfl ?_
              refine jjc hG rfl rfl (Nat.le_of_ble_eq_true rfl) ?_
              refine jjs hG rfl rfl ?_
              refine jj_gr hG (k := 75) rfl rfl rfl rfl ?_
              refine jj_ic hG rfl cc_i2 ?_
              refine jjs hG rfl rfl ?_
              refine jjs hG rfl rfl ?_
              refine jjs hG rfl rfl ?_
              refine jjs hG rfl rfl ?_
              refine jj_ba hG (k := 75) rfl rfl rfl (fun x6 => ?_)
              refine jj_zeq hG (t := 288) rfl rfl ?_ ?_
              · exact jj_wl hG [1, 2, 3, 4, 5, 6, 7, 8, 9, 10] rfl (b288 _ _ _)
              refine jjs hG rfl rfl ?_
              refine jj_gr hG (k := 22) rfl rfl rfl rfl ?_
              refine jjs hG rfl rfl ?_
              refine jj_gr hG (k := 71) rfl rfl rfl rfl ?_
              refine jjs hG rfl rfl ?_
              refine jj_ia hG (k := 71) rfl rfl rfl (fun x7 => ?_)
              refine jj_ba hG (k := 22) rfl rfl rfl (fun x8 => ?_)
              refine jj_zeq hG (t := 288) rfl rfl ?_ ?_
              · exact jj_wl hG [1, 2, 3, 4, 5, 6, 7, 8, 9, 10] rfl (b288 _ _ _)
              refine jjs hG rfl rfl ?_
              refine jjs hG rfl rfl ?_
              refine jjs hG rfl rfl ?_
              refine jj_lge hG (t := 288) rfl rfl ?_ ?_
              · exact jj_wl hG [1, 2, 3, 4, 5, 6, 7, 8, 9, 10] rfl (b288 _ _ _)
              refine jjs hG rfl rfl ?_
              refine jj_go hG (t := 290) rfl rfl ?_
              exact jj_wl hG [1, 2, 3, 4, 5, 6, 7, 8, 10] rfl (b290 _ _ _)
          refine (show JJ C R base m G 153 [(0, .ref m), (1, .int p1), (3, .int a3), (4, .long a4), (6, .long a6), (8, .int a8), (9, .int a9), (10, .int a10)] [] q t kc ks (M_oracle_s153 t p1 a3 a4 a6 a8 a9 a10) (some y153) from ?_)
          refine jjs hG rfl rfl ?_
          refine jjs hG rfl rfl ?_
          refine jj_gi hG (k := 37) rfl rfl rfl rfl ?_
          refine jj_ige hG (t := 361) rfl rfl ?_ ?_
          · refine jj_exit c153 ?_
            refine jj_go hG (t := 142) rfl rfl ?_
            exact jj_back c142 (jj_wl hG [0, 1, 2, 3, 4, 5, 6] rfl (ih142 _ _))
          refine jjs hG rfl rfl ?_
          refine jj_gr hG (k := 39) rfl rfl rfl rfl ?_
          refine jjs hG rfl rfl ?_
          refine jj_ba hG (k := 39) rfl rfl rfl (fun x1 => ?_)
          refine jj_zeq hG (t := 355) rfl rfl ?_ ?_
          · exact jj_wl hG [0, 1, 2, 3, 4, 5, 6, 7] rfl (b355 _ _ _)
          refine jjs hG rfl rfl ?_
          refine jjs hG rfl rfl ?_
          refine jjs hG rfl rfl ?_
          refine jjs hG rfl rfl ?_
          refine jjs hG rfl rfl ?_
          refine jjs hG rfl rfl ?_
          refine jj_cs hG 0 rfl rfl (Nat.le_of_ble_eq_true rfl) (by decide) (Nat.le_of_ble_eq_true rfl) rfl (st' := []) rfl (w := .int) (fun _ _ _ hw h k => pm_rcv_of moM_m (k_isDue base sa hw h k)) (fun x3 s2 => ?_)
          refine jj_zeq hG (t := 191) rfl rfl ?_ ?_
          · refine jj_l2 hG (v := (1000 : Int64)) rfl rfl ?_
            refine jjc hG rfl rfl (Nat.le_of_ble_eq_true rfl) ?_
            refine jj_ic hG rfl cc_i4 ?_
            refine jjs hG rfl rfl ?_
            refine jjs hG rfl rfl ?_
            refine jjc hG rfl rfl (Nat.le_of_ble_eq_true rfl) ?_
            refine jj_lp (fun n => ?_)
            exact jj_wl hG [2, 3, 4, 5, 6, 7, 8, 9, 1, 0] rfl (b202 _ _ n _ _ _)
          refine jj_go hG (t := 355) rfl rfl ?_
          exact jj_wl hG [0, 1, 2, 3, 4, 5, 6, 7] rfl (b355 _ _ _)
      refine (show JJ C R base m G 142 [(0, .ref m), (1, .int p1), (3, .int a3), (4, .long a4), (6, .long a6), (8, .int a8), (9, .int a9)] [] q t kc ks (M_oracle_s142 t p1 a3 a4 a6 a8 a9) (some y142) from ?_)
      refine jjs hG rfl rfl ?_
      refine jj_zeq hG (t := 364) rfl rfl ?_ ?_
      · refine jj_exit c142 ?_
        refine jjs hG rfl rfl ?_
        refine jj_gr hG (k := 161) rfl rfl rfl rfl ?_
        refine jjs hG rfl rfl ?_
        refine jj_la hG (k := 161) rfl rfl rfl (fun x1 => ?_)
        refine jj_l2 hG (v := (15 : Int64)) rfl rfl ?_
        refine jjs hG rfl rfl ?_
        refine jj_lle hG (t := 382) rfl rfl ?_ ?_
        · refine jjs hG rfl rfl ?_
          refine jj_gr hG (k := 161) rfl rfl rfl rfl ?_
          refine jjs hG rfl rfl ?_
          refine jj_la hG (k := 161) rfl rfl rfl (fun x2 => ?_)
          refine jjs hG rfl rfl ?_
          exact jj_riS hG rfl rfl rfl k
        refine jj_bi hG rfl cc_b16 ?_
        refine jj_go hG (t := 389) rfl rfl ?_
        exact jj_riS hG rfl rfl rfl k
      refine jj_ic hG rfl cc_i0 ?_
      refine jjc hG rfl rfl (Nat.le_of_ble_eq_true rfl) ?_
      refine jj_ic hG rfl cc_i0 ?_
      refine jjc hG rfl rfl (Nat.le_of_ble_eq_true rfl) ?_
      refine jj_lp (fun n => ?_)
      exact jj_wl hG [2, 3, 4, 5, 6, 7, 1, 0] rfl (b153 n _ _ _)
  have b76 : ∀ (a3 : Int32) (a4 : Int64) (a6 : Int64) (a8 : Int32) (n : Nat) (a9 : Int32) (t : moS), JJ C R base m G 76 [(0, .ref m), (1, .int p1), (3, .int a3), (4, .long a4), (6, .long a6), (8, .int a8), (9, .int a9)] [] q t kc ks (lpN (fun x => M_oracle_s76 x.2 p1 a3 a4 a6 a8 x.1) n (a9, t)) (some (r, tz)) := by
    intro a3 a4 a6 a8 n
    induction n with
    | zero => intro a9 t; exact jj_lp0
    | succ n ih76 =>
      intro a9 t
      refine jj_lpS (fun y76 c76 => ?_)
      have b133 : ∀ (a9 : Int32) (t : moS), JJ C R base m G 133 [(0, .ref m), (1, .int p1), (3, .int a3), (4, .long a4), (6, .long a6), (8, .int a8), (9, .int a9)] [] q t kc ks (M_oracle_b133 t p1 a3 a4 a6 a8 a9) (some y76) := by
        intro a9 t
        refine jj_inc hG rfl (Nat.le_of_ble_eq_true rfl) rfl cc_i1 ?_
        refine jj_go hG (t := 76) rfl rfl ?_
        exact jj_back c76 (jj_wl hG [1, 2, 3, 4, 5, 6, 0] rfl (ih76 _ _))
      refine (show JJ C R base m G 76 [(0, .ref m), (1, .int p1), (3, .int a3), (4, .long a4), (6, .long a6), (8, .int a8), (9, .int a9)] [] q t kc ks (M_oracle_s76 t p1 a3 a4 a6 a8 a9) (some y76) from ?_)
      refine jjs hG rfl rfl ?_
      refine jjs hG rfl rfl ?_
      refine jj_gi hG (k := 37) rfl rfl rfl rfl ?_
      refine jj_ige hG (t := 139) rfl rfl ?_ ?_
      · refine jj_exit c76 ?_
        refine jj_ic hG rfl cc_i1 ?_
        refine jjc hG rfl rfl (Nat.le_of_ble_eq_true rfl) ?_
        refine jj_lp (fun n => ?_)
        exact jj_wl hG [1, 2, 3, 4, 5, 6, 0] rfl (b142 _ _ _ _ n _ _)
      refine jjs hG rfl rfl ?_
      refine jj_gr hG (k := 161) rfl rfl rfl rfl ?_
      refine jjs hG rfl rfl ?_
      refine jj_l2 hG (v := (1000 : Int64)) rfl rfl ?_
      refine jj_ls hG (k := 161) rfl rfl rfl (fun s1 => ?_)
      refine jjs hG rfl rfl ?_
      refine jj_gr hG (k := 39) rfl rfl rfl rfl ?_
      refine jjs hG rfl rfl ?_
      refine jj_ba hG (k := 39) rfl rfl rfl (fun x2 => ?_)
      refine jj_zeq hG (t := 133) rfl rfl ?_ ?_
      · exact jj_wl hG [0, 1, 2, 3, 4, 5, 6] rfl (b133 _ _)
      refine jjs hG rfl rfl ?_
      refine jjs hG rfl rfl ?_
      refine jjs hG rfl rfl ?_
      refine jjs hG rfl rfl ?_
      refine jjs hG rfl rfl ?_
      refine jjs hG rfl rfl ?_
      refine jj_cs hG 0 rfl rfl (Nat.le_of_ble_eq_true rfl) (by decide) (Nat.le_of_ble_eq_true rfl) rfl (st' := []) rfl (w := .int) (fun _ _ _ hw h k => pm_rcv_of moM_m (k_isDue base sa hw h k)) (fun x4 s3 => ?_)
      refine jj_zeq hG (t := 133) rfl rfl ?_ ?_
      · exact jj_wl hG [0, 1, 2, 3, 4, 5, 6] rfl (b133 _ _)
      refine jjs hG rfl rfl ?_
      refine jj_gr hG (k := 161) rfl rfl rfl rfl ?_
      refine jjs hG rfl rfl ?_
      refine jjs hG rfl rfl ?_
      refine jj_gi hG (k := 154) rfl rfl rfl rfl ?_
      refine jjs hG rfl rfl ?_
      refine jj_ls hG (k := 161) rfl rfl rfl (fun s5 => ?_)
      exact jj_wl hG [0, 1, 2, 3, 4, 5, 6] rfl (b133 _ _)
  refine (show JJ C R base m G 0 [(0, .ref m), (1, .int p1)] [] q t kc ks (M_oracle t p1) (some (r, tz)) from ?_) hw h
  refine jjs hG rfl rfl ?_
  refine jj_ic hG rfl cc_i0 ?_
  refine jj_pi hG (k := 0) rfl rfl rfl rfl (fun s1 => ?_)
  refine jjs hG rfl rfl ?_
  refine jj_cs hG 0 rfl rfl (Nat.le_of_ble_eq_true rfl) (by decide) (Nat.le_of_ble_eq_true rfl) rfl (st' := []) rfl (w := .int) (fun _ _ _ hw h k => pm_rcv_of moM_m (k_takeAddress base sa hw h k)) (fun x3 s2 => ?_)
  refine jjc hG rfl rfl (Nat.le_of_ble_eq_true rfl) ?_
  refine jjs hG rfl rfl ?_
  refine jj_zeq hG (t := 31) rfl rfl ?_ ?_
  · refine jj_ic hG rfl cc_im1 ?_
    exact jj_riS hG rfl rfl rfl k
  refine jjs hG rfl rfl ?_
  refine jjs hG rfl rfl ?_
  refine jj_ct hG 0 rfl rfl (Nat.le_of_ble_eq_true rfl) (by decide) (Nat.le_of_ble_eq_true rfl) rfl (st' := []) rfl (v := .int (M_isRouter s2 p1)) (fun _ hw k => pm_rcv_of moM_m (k_isRouter base sa hw rfl k)) ?_
  refine jj_zeq hG (t := 31) rfl rfl ?_ ?_
  · refine jj_ic hG rfl cc_im1 ?_
    exact jj_riS hG rfl rfl rfl k
  refine jjs hG rfl rfl ?_
  refine jj_gr hG (k := 39) rfl rfl rfl rfl ?_
  refine jjs hG rfl rfl ?_
  refine jj_ba hG (k := 39) rfl rfl rfl (fun x4 => ?_)
  refine jj_zne hG (t := 33) rfl rfl ?_ ?_
  · refine jjs hG rfl rfl ?_
    refine jj_cp hG 0 rfl rfl (Nat.le_of_ble_eq_true rfl) (by decide) (Nat.le_of_ble_eq_true rfl) rfl (st' := []) rfl (w := .int) (fun _ _ hw h k => pm_rcv_of moM_m (k_longestOfAll base sa hw h k)) (fun x5 => ?_)
    refine jjc hG rfl rfl (Nat.le_of_ble_eq_true rfl) ?_
    refine jjs hG rfl rfl ?_
    refine jj_ic hG rfl cc_im1 ?_
    refine jj_ine hG (t := 45) rfl rfl ?_ ?_
    · refine jjs hG rfl rfl ?_
      refine jj_gz hG (k := 13) rfl rfl rfl rfl ?_
      refine jjs hG rfl rfl ?_
      refine jj_ct hG 2 rfl rfl (Nat.le_of_ble_eq_true rfl) (by decide) (Nat.le_of_ble_eq_true rfl) rfl (st' := [.long (moS.Z s2 13)]) rfl (v := .long (M_maskHigh x5)) (fun _ hw k => k_maskHigh base sa hw rfl k) ?_
      refine jjs hG rfl rfl ?_
      refine jjc hG rfl rfl (Nat.le_of_ble_eq_true rfl) ?_
      refine jjs hG rfl rfl ?_
      refine jj_gz hG (k := 14) rfl rfl rfl rfl ?_
      refine jjs hG rfl rfl ?_
      refine jj_ct hG 2 rfl rfl (Nat.le_of_ble_eq_true rfl) (by decide) (Nat.le_of_ble_eq_true rfl) rfl (st' := [.long (moS.Z s2 14)]) rfl (v := .long (M_maskLow x5)) (fun _ hw k => k_maskLow base sa hw rfl k) ?_
      refine jjs hG rfl rfl ?_
      refine jjc hG rfl rfl (Nat.le_of_ble_eq_true rfl) ?_
      refine jj_at (pc' := 67) rfl ?_
      refine jjs hG rfl rfl ?_
      refine jj_gi hG (k := 12) rfl rfl rfl rfl ?_
      refine jjc hG rfl rfl (Nat.le_of_ble_eq_true rfl) ?_
      refine jj_ic hG rfl cc_i0 ?_
      refine jjc hG rfl rfl (Nat.le_of_ble_eq_true rfl) ?_
      refine jj_lp (fun n => ?_)
      exact jj_wl hG [6, 7, 4, 3, 2, 1, 0] rfl (b76 _ _ _ _ n _ _)
    refine jj_ic hG rfl cc_im1 ?_
    exact jj_riS hG rfl rfl rfl k
  refine jj_ic hG rfl cc_im1 ?_
  exact jj_riS hG rfl rfl rfl k
noncomputable def M_way_b117 (t : moS) (p1 : Int32) (a3 : Int32) (a4 : Int32) (a5 : Int32) : Option ((Int32 × Int32 × Int32 × moS) ⊕ (Int32 × moS)) := (some (.inl (a3, a4, (a5 + (1 : Int32)), t)))
noncomputable def M_way_s36 (t : moS) (p1 : Int32) (a3 : Int32) (a4 : Int32) (a5 : Int32) : Option ((Int32 × Int32 × Int32 × moS) ⊕ (Int32 × moS)) := Option.bind (rdI t 105 p1) (fun x1 => (if a5 < (((2700 : Int32) * p1) + x1) then (Option.bind (rdI t 111 a5) (fun x6 => (if x6 = (16 : Int32) then ((M_way_b117 t p1 a3 a4 a5)) else (Option.bind (rdI t 106 a5) (fun x7 => (Option.bind (rdJ t 107 a5) (fun x8 => (Option.bind (rdJ t 108 a5) (fun x9 => (Option.bind (rdI t 109 a5) (fun x10 => (if (M_isLonger t x7 x8 x9 x10 a4) = 0 then ((M_way_b117 t p1 a3 a4 a5)) else (Option.bind (rdI t 109 a5) (fun x11 => ((M_way_b117 t p1 a5 x11 a5)))))))))))))))) else ((xo (if a3 = ((-1) : Int32) then ((some (((-1) : Int32), t))) else (letS (moSS t 8 (0 : Int32)) (fun s2 => (Option.bind (M_sayRoute s2 a3) (fun s3 => (bn2 (M_shown s3) (fun x5 s4 => ((some (x5, s4))))))))))))))
noncomputable def M_way_b36 (t : moS) (p1 : Int32) (a3 : Int32) (a4 : Int32) (a5 : Int32) : Option (Int32 × moS) := lp (fun x => M_way_s36 x.2.2.2 p1 x.1 x.2.1 x.2.2.1) (a3, a4, a5, t)
noncomputable def M_way (t : moS) (p1 : Int32) : Option (Int32 × moS) := letS (moSS t 0 (0 : Int32)) (fun s1 => (bn2 (M_takeAddress s1) (fun x3 s2 => (if x3 = 0 then ((some (((-1) : Int32), s2))) else (if (M_isRouter s2 p1) = 0 then ((some (((-1) : Int32), s2))) else ((M_way_b36 s2 p1 ((-1) : Int32) ((-1) : Int32) ((2700 : Int32) * p1))))))))
set_option maxRecDepth 100000 in
set_option maxHeartbeats 4000000 in
theorem k_way (base : Nat) (sa : Nat → Nat) {C : Nat × Nat} {R : pmM} {m : Nat} {q : Nat → Nat} {t tz : moS} {kc ks : Nat} {Rt : pmR} {p1 : Int32} {r : Int32} (hw : mW C R base m q t kc ks) (h : M_way t p1 = (some (r, tz))) (k : ∀ (q' : Nat → Nat) (kc' ks' : Nat), mW C R base m q' tz kc' ks' → Rt (some (.int r)) (moM R m q' tz) kc' ks') : kP_Mo_way base sa [.ref m, .int p1] (moM R m q t) kc ks Rt := by
  refine ⟨Nat.le_of_ble_eq_true rfl, fun G hG => ?_⟩
  have b36 : ∀ (n : Nat) (a3 : Int32) (a4 : Int32) (a5 : Int32) (q : Nat → Nat) (t : moS) (kc ks : Nat), JJ C R base m G 36 [(0, .ref m), (1, .int p1), (3, .int a3), (4, .int a4), (5, .int a5)] [] q t kc ks (lpN (fun x => M_way_s36 x.2.2.2 p1 x.1 x.2.1 x.2.2.1) n (a3, a4, a5, t)) (some (r, tz)) := by
    intro n
    induction n with
    | zero => intro a3 a4 a5 q t kc ks; exact jj_lp0
    | succ n ih36 =>
      intro a3 a4 a5 q t kc ks
      refine jj_lpS (fun y36 c36 => ?_)
      have b117 : ∀ (a3 : Int32) (a4 : Int32) (a5 : Int32) (q : Nat → Nat) (t : moS) (kc ks : Nat), JJ C R base m G 117 [(0, .ref m), (1, .int p1), (3, .int a3), (4, .int a4), (5, .int a5)] [] q t kc ks (M_way_b117 t p1 a3 a4 a5) (some y36) := by
        intro a3 a4 a5 q t kc ks
        refine jj_inc hG rfl (Nat.le_of_ble_eq_true rfl) rfl cc_i1 ?_
        refine jj_go hG (t := 36) rfl rfl ?_
        exact jj_back c36 (jj_wl hG [1, 2, 3, 4, 0] rfl (ih36 _ _ _ _ _ _ _))
      refine (show JJ C R base m G 36 [(0, .ref m), (1, .int p1), (3, .int a3), (4, .int a4), (5, .int a5)] [] q t kc ks (M_way_s36 t p1 a3 a4 a5) (some y36) from ?_)
      refine jjs hG rfl rfl ?_
      refine jj_si hG rfl cc_s2700 ?_
      refine jjs hG rfl rfl ?_
      refine jjs hG rfl rfl ?_
      refine jjs hG rfl rfl ?_
      refine jj_gr hG (k := 105) rfl rfl rfl rfl ?_
      refine jjs hG rfl rfl ?_
      refine jj_ia hG (k := 105) rfl rfl rfl (fun x1 => ?_)
      refine jjs hG rfl rfl ?_
      refine jj_ige hG (t := 123) rfl rfl ?_ ?_
      · refine jj_exit c36 ?_
        refine jjs hG rfl rfl ?_
        refine jj_ic hG rfl cc_im1 ?_
        refine jj_ine hG (t := 130) rfl rfl ?_ ?_
        · refine jjs hG rfl rfl ?_
          refine jj_ic hG rfl cc_i0 ?_
          refine jj_pi hG (k := 8) rfl rfl rfl rfl (fun s2 => ?_)
          refine jjs hG rfl rfl ?_
          refine jjs hG rfl rfl ?_
          refine jj_cvA hG 0 rfl rfl (Nat.le_of_ble_eq_true rfl) (by decide) (Nat.le_of_ble_eq_true rfl) rfl (st' := []) rfl (fun _ _ hw h k => pm_rcv_of moM_m (k_sayRoute base sa hw h k)) (fun s3 q kc ks => ?_)
          refine jjs hG rfl rfl ?_
          refine jj_csA hG 0 rfl rfl (Nat.le_of_ble_eq_true rfl) (by decide) (Nat.le_of_ble_eq_true rfl) rfl (st' := []) rfl (w := .int) (fun _ _ _ hw h k => pm_rcv_of moM_m (k_shown base sa hw h k)) (fun x5 s4 q kc ks => ?_)
          exact jj_riS hG rfl rfl rfl (k _ _ _)
        refine jj_ic hG rfl cc_im1 ?_
        exact jj_riS hG rfl rfl rfl (k _ _ _)
      refine jjs hG rfl rfl ?_
      refine jj_gr hG (k := 111) rfl rfl rfl rfl ?_
      refine jjs hG rfl rfl ?_
      refine jj_ia hG (k := 111) rfl rfl rfl (fun x6 => ?_)
      refine jj_bi hG rfl cc_b16 ?_
      refine jj_ieq hG (t := 117) rfl rfl ?_ ?_
      · exact jj_wl hG [0, 1, 2, 3, 4] rfl (b117 _ _ _ _ _ _ _)
      refine jjs hG rfl rfl ?_
      refine jjs hG rfl rfl ?_
      refine jj_gr hG (k := 106) rfl rfl rfl rfl ?_
      refine jjs hG rfl rfl ?_
      refine jj_ia hG (k := 106) rfl rfl rfl (fun x7 => ?_)
      refine jjs hG rfl rfl ?_
      refine jj_gr hG (k := 107) rfl rfl rfl rfl ?_
      refine jjs hG rfl rfl ?_
      refine jj_la hG (k := 107) rfl rfl rfl (fun x8 => ?_)
      refine jjs hG rfl rfl ?_
      refine jj_gr hG (k := 108) rfl rfl rfl rfl ?_
      refine jjs hG rfl rfl ?_
      refine jj_la hG (k := 108) rfl rfl rfl (fun x9 => ?_)
      refine jjs hG rfl rfl ?_
      refine jj_gr hG (k := 109) rfl rfl rfl rfl ?_
      refine jjs hG rfl rfl ?_
      refine jj_ia hG (k := 109) rfl rfl rfl (fun x10 => ?_)
      refine jjs hG rfl rfl ?_
      refine jj_ct hG 0 rfl rfl (Nat.le_of_ble_eq_true rfl) (by decide) (Nat.le_of_ble_eq_true rfl) rfl (st' := []) rfl (v := .int (M_isLonger t x7 x8 x9 x10 a4)) (fun _ hw k => pm_rcv_of moM_m (k_isLonger base sa hw rfl k)) ?_
      refine jj_zne hG (t := 105) rfl rfl ?_ ?_
      · refine jjs hG rfl rfl ?_
        refine jjc hG rfl rfl (Nat.le_of_ble_eq_true rfl) ?_
        refine jjs hG rfl rfl ?_
        refine jj_gr hG (k := 109) rfl rfl rfl rfl ?_
        refine jjs hG rfl rfl ?_
        refine jj_ia hG (k := 109) rfl rfl rfl (fun x11 => ?_)
        refine jjc hG rfl rfl (Nat.le_of_ble_eq_true rfl) ?_
        exact jj_wl hG [2, 3, 1, 0, 4] rfl (b117 _ _ _ _ _ _ _)
      refine jj_go hG (t := 117) rfl rfl ?_
      exact jj_wl hG [0, 1, 2, 3, 4] rfl (b117 _ _ _ _ _ _ _)
  refine (show JJ C R base m G 0 [(0, .ref m), (1, .int p1)] [] q t kc ks (M_way t p1) (some (r, tz)) from ?_) hw h
  refine jjs hG rfl rfl ?_
  refine jj_ic hG rfl cc_i0 ?_
  refine jj_pi hG (k := 0) rfl rfl rfl rfl (fun s1 => ?_)
  refine jjs hG rfl rfl ?_
  refine jj_cs hG 0 rfl rfl (Nat.le_of_ble_eq_true rfl) (by decide) (Nat.le_of_ble_eq_true rfl) rfl (st' := []) rfl (w := .int) (fun _ _ _ hw h k => pm_rcv_of moM_m (k_takeAddress base sa hw h k)) (fun x3 s2 => ?_)
  refine jjc hG rfl rfl (Nat.le_of_ble_eq_true rfl) ?_
  refine jjs hG rfl rfl ?_
  refine jj_zeq hG (t := 22) rfl rfl ?_ ?_
  · refine jj_ic hG rfl cc_im1 ?_
    exact jj_riS hG rfl rfl rfl (k _ _ _)
  refine jjs hG rfl rfl ?_
  refine jjs hG rfl rfl ?_
  refine jj_ct hG 0 rfl rfl (Nat.le_of_ble_eq_true rfl) (by decide) (Nat.le_of_ble_eq_true rfl) rfl (st' := []) rfl (v := .int (M_isRouter s2 p1)) (fun _ hw k => pm_rcv_of moM_m (k_isRouter base sa hw rfl k)) ?_
  refine jj_zne hG (t := 24) rfl rfl ?_ ?_
  · refine jj_ic hG rfl cc_im1 ?_
    refine jjc hG rfl rfl (Nat.le_of_ble_eq_true rfl) ?_
    refine jj_ic hG rfl cc_im1 ?_
    refine jjc hG rfl rfl (Nat.le_of_ble_eq_true rfl) ?_
    refine jj_si hG rfl cc_s2700 ?_
    refine jjs hG rfl rfl ?_
    refine jjs hG rfl rfl ?_
    refine jjc hG rfl rfl (Nat.le_of_ble_eq_true rfl) ?_
    refine jj_lp (fun n => ?_)
    exact jj_wl hG [4, 5, 2, 1, 0] rfl (b36 n _ _ _ _ _ _ _)
  refine jj_ic hG rfl cc_im1 ?_
  exact jj_riS hG rfl rfl rfl (k _ _ _)
noncomputable def M_seen_s26 (t : moS) (p1 : Int32) (a2 : Int32) : Option ((Int32 × moS) ⊕ (Int32 × moS)) := Option.bind (rdI t 25 p1) (fun x1 => (if a2 < x1 then (Option.bind (rdI t 26 (((700 : Int32) * p1) + a2)) (fun x4 => (Option.bind (M_say t x4) (fun s5 => ((some (.inl ((a2 + (1 : Int32)), s5)))))))) else ((xo (bn2 (M_shown t) (fun x3 s2 => ((some (x3, s2)))))))))
noncomputable def M_seen_b26 (t : moS) (p1 : Int32) (a2 : Int32) : Option (Int32 × moS) := lp (fun x => M_seen_s26 x.2 p1 x.1) (a2, t)
noncomputable def M_seen (t : moS) (p1 : Int32) : Option (Int32 × moS) := letS (moSS t 0 (0 : Int32)) (fun s1 => (if p1 < 0 then ((some (((-1) : Int32), s1))) else (if p1 < (moS.S s1 17) then (letS (moSS s1 8 (0 : Int32)) (fun s2 => ((M_seen_b26 s2 p1 (0 : Int32))))) else ((some (((-1) : Int32), s1))))))
set_option maxRecDepth 100000 in
set_option maxHeartbeats 4000000 in
theorem k_seen (base : Nat) (sa : Nat → Nat) {C : Nat × Nat} {R : pmM} {m : Nat} {q : Nat → Nat} {t tz : moS} {kc ks : Nat} {Rt : pmR} {p1 : Int32} {r : Int32} (hw : mW C R base m q t kc ks) (h : M_seen t p1 = (some (r, tz))) (k : ∀ (q' : Nat → Nat) (kc' ks' : Nat), mW C R base m q' tz kc' ks' → Rt (some (.int r)) (moM R m q' tz) kc' ks') : kP_Mo_seen base sa [.ref m, .int p1] (moM R m q t) kc ks Rt := by
  refine ⟨Nat.le_of_ble_eq_true rfl, fun G hG => ?_⟩
  have b26 : ∀ (n : Nat) (a2 : Int32) (q : Nat → Nat) (t : moS) (kc ks : Nat), JJ C R base m G 26 [(0, .ref m), (1, .int p1), (2, .int a2)] [] q t kc ks (lpN (fun x => M_seen_s26 x.2 p1 x.1) n (a2, t)) (some (r, tz)) := by
    intro n
    induction n with
    | zero => intro a2 q t kc ks; exact jj_lp0
    | succ n ih26 =>
      intro a2 q t kc ks
      refine jj_lpS (fun y26 c26 => ?_)
      refine (show JJ C R base m G 26 [(0, .ref m), (1, .int p1), (2, .int a2)] [] q t kc ks (M_seen_s26 t p1 a2) (some y26) from ?_)
      refine jjs hG rfl rfl ?_
      refine jjs hG rfl rfl ?_
      refine jj_gr hG (k := 25) rfl rfl rfl rfl ?_
      refine jjs hG rfl rfl ?_
      refine jj_ia hG (k := 25) rfl rfl rfl (fun x1 => ?_)
      refine jj_ige hG (t := 58) rfl rfl ?_ ?_
      · refine jj_exit c26 ?_
        refine jjs hG rfl rfl ?_
        refine jj_csA hG 0 rfl rfl (Nat.le_of_ble_eq_true rfl) (by decide) (Nat.le_of_ble_eq_true rfl) rfl (st' := []) rfl (w := .int) (fun _ _ _ hw h k => pm_rcv_of moM_m (k_shown base sa hw h k)) (fun x3 s2 q kc ks => ?_)
        exact jj_riS hG rfl rfl rfl (k _ _ _)
      refine jjs hG rfl rfl ?_
      refine jjs hG rfl rfl ?_
      refine jj_gr hG (k := 26) rfl rfl rfl rfl ?_
      refine jj_si hG rfl cc_s700 ?_
      refine jjs hG rfl rfl ?_
      refine jjs hG rfl rfl ?_
      refine jjs hG rfl rfl ?_
      refine jjs hG rfl rfl ?_
      refine jj_ia hG (k := 26) rfl rfl rfl (fun x4 => ?_)
      refine jj_cvA hG 0 rfl rfl (Nat.le_of_ble_eq_true rfl) (by decide) (Nat.le_of_ble_eq_true rfl) rfl (st' := []) rfl (fun _ _ hw h k => pm_rcv_of moM_m (k_say base sa hw h k)) (fun s5 q kc ks => ?_)
      refine jj_inc hG rfl (Nat.le_of_ble_eq_true rfl) rfl cc_i1 ?_
      refine jj_go hG (t := 26) rfl rfl ?_
      exact jj_back c26 (jj_wl hG [1, 2, 0] rfl (ih26 _ _ _ _ _))
  refine (show JJ C R base m G 0 [(0, .ref m), (1, .int p1)] [] q t kc ks (M_seen t p1) (some (r, tz)) from ?_) hw h
  refine jjs hG rfl rfl ?_
  refine jj_ic hG rfl cc_i0 ?_
  refine jj_pi hG (k := 0) rfl rfl rfl rfl (fun s1 => ?_)
  refine jjs hG rfl rfl ?_
  refine jj_zlt hG (t := 17) rfl rfl ?_ ?_
  · refine jj_ic hG rfl cc_im1 ?_
    exact jj_riS hG rfl rfl rfl (k _ _ _)
  refine jjs hG rfl rfl ?_
  refine jjs hG rfl rfl ?_
  refine jj_gi hG (k := 17) rfl rfl rfl rfl ?_
  refine jj_ilt hG (t := 19) rfl rfl ?_ ?_
  · refine jjs hG rfl rfl ?_
    refine jj_ic hG rfl cc_i0 ?_
    refine jj_pi hG (k := 8) rfl rfl rfl rfl (fun s2 => ?_)
    refine jj_ic hG rfl cc_i0 ?_
    refine jjc hG rfl rfl (Nat.le_of_ble_eq_true rfl) ?_
    refine jj_lp (fun n => ?_)
    exact jj_wl hG [1, 2, 0] rfl (b26 n _ _ _ _ _)
  refine jj_ic hG rfl cc_im1 ?_
  exact jj_riS hG rfl rfl rfl (k _ _ _)
noncomputable def M_textAt_b18 (t : moS) (p1 : Int32) (u1 : Int32) : Option (Int32 × moS) := letS (moSS t 0 u1) (fun s1 => (if (moS.S s1 0) = 0 then (Option.bind (rdI s1 5 p1) (fun x2 => ((some (x2, s1))))) else ((some ((0 : Int32), s1)))))
noncomputable def M_textAt_b13 (t : moS) (p1 : Int32) : Option (Int32 × moS) := (M_textAt_b18 t p1 (1 : Int32))
noncomputable def M_textAt (t : moS) (p1 : Int32) : Option (Int32 × moS) := if p1 < 0 then ((M_textAt_b13 t p1)) else (if p1 < (moS.S t 6) then ((M_textAt_b18 t p1 (0 : Int32))) else ((M_textAt_b13 t p1)))
set_option maxRecDepth 100000 in
set_option maxHeartbeats 4000000 in
theorem k_textAt (base : Nat) (sa : Nat → Nat) {C : Nat × Nat} {R : pmM} {m : Nat} {q : Nat → Nat} {t tz : moS} {kc ks : Nat} {Rt : pmR} {p1 : Int32} {r : Int32} (hw : mW C R base m q t kc ks) (h : M_textAt t p1 = (some (r, tz))) (k : mW C R base m q tz kc ks → Rt (some (.int r)) (moM R m q tz) kc ks) : kP_Mo_textAt base sa [.ref m, .int p1] (moM R m q t) kc ks Rt := by
  refine ⟨Nat.le_of_ble_eq_true rfl, fun G hG => ?_⟩
  have b18 : ∀ (u1 : Int32) (t : moS), JJ C R base m G 18 [(0, .ref m), (1, .int p1)] [.int u1, .ref m] q t kc ks (M_textAt_b18 t p1 u1) (some (r, tz)) := by
    intro u1 t
    refine jj_pi hG (k := 0) rfl rfl rfl rfl (fun s1 => ?_)
    refine jjs hG rfl rfl ?_
    refine jj_gi hG (k := 0) rfl rfl rfl rfl ?_
    refine jj_zne hG (t := 37) rfl rfl ?_ ?_
    · refine jj_ic hG rfl cc_i0 ?_
      exact jj_riS hG rfl rfl rfl k
    refine jjs hG rfl rfl ?_
    refine jj_gr hG (k := 5) rfl rfl rfl rfl ?_
    refine jjs hG rfl rfl ?_
    refine jj_ia hG (k := 5) rfl rfl rfl (fun x2 => ?_)
    refine jj_go hG (t := 38) rfl rfl ?_
    exact jj_riS hG rfl rfl rfl k
  have b13 : ∀ (t : moS), JJ C R base m G 13 [(0, .ref m), (1, .int p1)] [.ref m] q t kc ks (M_textAt_b13 t p1) (some (r, tz)) := by
    intro t
    refine jj_ic hG rfl cc_i1 ?_
    refine jj_go hG (t := 18) rfl rfl ?_
    exact jj_wl hG [0, 1] rfl (b18 _ _)
  refine (show JJ C R base m G 0 [(0, .ref m), (1, .int p1)] [] q t kc ks (M_textAt t p1) (some (r, tz)) from ?_) hw h
  refine jjs hG rfl rfl ?_
  refine jjs hG rfl rfl ?_
  refine jj_zlt hG (t := 13) rfl rfl ?_ ?_
  · exact jj_wl hG [0, 1] rfl (b13 _)
  refine jjs hG rfl rfl ?_
  refine jjs hG rfl rfl ?_
  refine jj_gi hG (k := 6) rfl rfl rfl rfl ?_
  refine jj_ilt hG (t := 17) rfl rfl ?_ ?_
  · refine jj_ic hG rfl cc_i0 ?_
    exact jj_wl hG [0, 1] rfl (b18 _ _)
  exact jj_wl hG [0, 1] rfl (b13 _)
noncomputable def M_count_b37 (t : moS) : Option (Int32 × moS) := (some (((-1) : Int32), t))
noncomputable def M_count (t : moS) (p1 : Int32) (p2 : Int32) : Option (Int32 × moS) := letS (moSS t 0 (0 : Int32)) (fun s1 => (if (M_isRouter s1 p1) = 0 then ((M_count_b37 s1)) else (if p2 < 0 then ((M_count_b37 s1)) else (if p2 < (11 : Int32) then (Option.bind (rdI s1 45 (((11 : Int32) * p1) + p2)) (fun x2 => ((some (x2, s1))))) else ((M_count_b37 s1))))))
set_option maxRecDepth 100000 in
set_option maxHeartbeats 4000000 in
theorem k_count (base : Nat) (sa : Nat → Nat) {C : Nat × Nat} {R : pmM} {m : Nat} {q : Nat → Nat} {t tz : moS} {kc ks : Nat} {Rt : pmR} {p1 : Int32} {p2 : Int32} {r : Int32} (hw : mW C R base m q t kc ks) (h : M_count t p1 p2 = (some (r, tz))) (k : mW C R base m q tz kc ks → Rt (some (.int r)) (moM R m q tz) kc ks) : kP_Mo_count base sa [.ref m, .int p1, .int p2] (moM R m q t) kc ks Rt := by
  refine ⟨Nat.le_of_ble_eq_true rfl, fun G hG => ?_⟩
  have b37 : ∀ (t : moS), JJ C R base m G 37 [] [] q t kc ks (M_count_b37 t) (some (r, tz)) := by
    intro t
    refine jj_ic hG rfl cc_im1 ?_
    exact jj_riS hG rfl rfl rfl k
  refine (show JJ C R base m G 0 [(0, .ref m), (1, .int p1), (2, .int p2)] [] q t kc ks (M_count t p1 p2) (some (r, tz)) from ?_) hw h
  refine jjs hG rfl rfl ?_
  refine jj_ic hG rfl cc_i0 ?_
  refine jj_pi hG (k := 0) rfl rfl rfl rfl (fun s1 => ?_)
  refine jjs hG rfl rfl ?_
  refine jjs hG rfl rfl ?_
  refine jj_ct hG 0 rfl rfl (Nat.le_of_ble_eq_true rfl) (by decide) (Nat.le_of_ble_eq_true rfl) rfl (st' := []) rfl (v := .int (M_isRouter s1 p1)) (fun _ hw k => pm_rcv_of moM_m (k_isRouter base sa hw rfl k)) ?_
  refine jj_zeq hG (t := 37) rfl rfl ?_ ?_
  · exact jj_wl hG [] rfl (b37 _)
  refine jjs hG rfl rfl ?_
  refine jj_zlt hG (t := 37) rfl rfl ?_ ?_
  · exact jj_wl hG [] rfl (b37 _)
  refine jjs hG rfl rfl ?_
  refine jj_bi hG rfl cc_b11 ?_
  refine jj_ige hG (t := 37) rfl rfl ?_ ?_
  · exact jj_wl hG [] rfl (b37 _)
  refine jjs hG rfl rfl ?_
  refine jj_gr hG (k := 45) rfl rfl rfl rfl ?_
  refine jj_bi hG rfl cc_b11 ?_
  refine jjs hG rfl rfl ?_
  refine jjs hG rfl rfl ?_
  refine jjs hG rfl rfl ?_
  refine jjs hG rfl rfl ?_
  refine jj_ia hG (k := 45) rfl rfl rfl (fun x2 => ?_)
  refine jj_go hG (t := 38) rfl rfl ?_
  exact jj_riS hG rfl rfl rfl k
noncomputable def M_routes (t : moS) (p1 : Int32) : Option (Int32 × moS) := letS (moSS t 0 (0 : Int32)) (fun s1 => (if (M_isRouter s1 p1) = 0 then ((some (((-1) : Int32), s1))) else (Option.bind (rdI s1 105 p1) (fun x2 => ((some (x2, s1)))))))
set_option maxRecDepth 100000 in
set_option maxHeartbeats 4000000 in
theorem k_routes (base : Nat) (sa : Nat → Nat) {C : Nat × Nat} {R : pmM} {m : Nat} {q : Nat → Nat} {t tz : moS} {kc ks : Nat} {Rt : pmR} {p1 : Int32} {r : Int32} (hw : mW C R base m q t kc ks) (h : M_routes t p1 = (some (r, tz))) (k : mW C R base m q tz kc ks → Rt (some (.int r)) (moM R m q tz) kc ks) : kP_Mo_routes base sa [.ref m, .int p1] (moM R m q t) kc ks Rt := by
  refine ⟨Nat.le_of_ble_eq_true rfl, fun G hG => ?_⟩
  refine (show JJ C R base m G 0 [(0, .ref m), (1, .int p1)] [] q t kc ks (M_routes t p1) (some (r, tz)) from ?_) hw h
  refine jjs hG rfl rfl ?_
  refine jj_ic hG rfl cc_i0 ?_
  refine jj_pi hG (k := 0) rfl rfl rfl rfl (fun s1 => ?_)
  refine jjs hG rfl rfl ?_
  refine jjs hG rfl rfl ?_
  refine jj_ct hG 0 rfl rfl (Nat.le_of_ble_eq_true rfl) (by decide) (Nat.le_of_ble_eq_true rfl) rfl (st' := []) rfl (v := .int (M_isRouter s1 p1)) (fun _ hw k => pm_rcv_of moM_m (k_isRouter base sa hw rfl k)) ?_
  refine jj_zeq hG (t := 22) rfl rfl ?_ ?_
  · refine jj_ic hG rfl cc_im1 ?_
    exact jj_riS hG rfl rfl rfl k
  refine jjs hG rfl rfl ?_
  refine jj_gr hG (k := 105) rfl rfl rfl rfl ?_
  refine jjs hG rfl rfl ?_
  refine jj_ia hG (k := 105) rfl rfl rfl (fun x2 => ?_)
  refine jj_go hG (t := 23) rfl rfl ?_
  exact jj_riS hG rfl rfl rfl k
noncomputable def M_flying (t : moS) : Option (Int32 × moS) := letS (moSS t 0 (0 : Int32)) (fun s1 => ((some ((moS.S s1 123), s1))))
set_option maxRecDepth 100000 in
set_option maxHeartbeats 4000000 in
theorem k_flying (base : Nat) (sa : Nat → Nat) {C : Nat × Nat} {R : pmM} {m : Nat} {q : Nat → Nat} {t tz : moS} {kc ks : Nat} {Rt : pmR}  {r : Int32} (hw : mW C R base m q t kc ks) (h : M_flying t = (some (r, tz))) (k : mW C R base m q tz kc ks → Rt (some (.int r)) (moM R m q tz) kc ks) : kP_Mo_flying base sa [.ref m] (moM R m q t) kc ks Rt := by
  refine ⟨Nat.le_of_ble_eq_true rfl, fun G hG => ?_⟩
  refine (show JJ C R base m G 0 [(0, .ref m)] [] q t kc ks (M_flying t) (some (r, tz)) from ?_) hw h
  refine jjs hG rfl rfl ?_
  refine jj_ic hG rfl cc_i0 ?_
  refine jj_pi hG (k := 0) rfl rfl rfl rfl (fun s1 => ?_)
  refine jjs hG rfl rfl ?_
  refine jj_gi hG (k := 123) rfl rfl rfl rfl ?_
  exact jj_riS hG rfl rfl rfl k
noncomputable def M_now (t : moS) : Option (Int32 × moS) := letS (moSS t 0 (0 : Int32)) (fun s1 => ((some ((moS.S s1 1), s1))))
set_option maxRecDepth 100000 in
set_option maxHeartbeats 4000000 in
theorem k_now (base : Nat) (sa : Nat → Nat) {C : Nat × Nat} {R : pmM} {m : Nat} {q : Nat → Nat} {t tz : moS} {kc ks : Nat} {Rt : pmR}  {r : Int32} (hw : mW C R base m q t kc ks) (h : M_now t = (some (r, tz))) (k : mW C R base m q tz kc ks → Rt (some (.int r)) (moM R m q tz) kc ks) : kP_Mo_now base sa [.ref m] (moM R m q t) kc ks Rt := by
  refine ⟨Nat.le_of_ble_eq_true rfl, fun G hG => ?_⟩
  refine (show JJ C R base m G 0 [(0, .ref m)] [] q t kc ks (M_now t) (some (r, tz)) from ?_) hw h
  refine jjs hG rfl rfl ?_
  refine jj_ic hG rfl cc_i0 ?_
  refine jj_pi hG (k := 0) rfl rfl rfl rfl (fun s1 => ?_)
  refine jjs hG rfl rfl ?_
  refine jj_gi hG (k := 1) rfl rfl rfl rfl ?_
  exact jj_riS hG rfl rfl rfl k
