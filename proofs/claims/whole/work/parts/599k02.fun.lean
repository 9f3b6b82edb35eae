/-! The model as functions, by program: readSix .. part -/
noncomputable def M_readSix_b261 (t : moS) (p2 : Int32) (a3 : Int32) (a4 : Int32) (a5 : Int32) (a6 : Int32) : Option ((Int32 × Int32 × Int32 × Int32 × moS) ⊕ (Int32 × moS)) := (some (.inl (a3, a4, a5, a6, t)))
noncomputable def M_readSix_b248 (t : moS) (p2 : Int32) (a3 : Int32) (a4 : Int32) (a5 : Int32) (u0 : Int32) : Option ((Int32 × Int32 × Int32 × Int32 × moS) ⊕ (Int32 × moS)) := (M_readSix_b261 t p2 a3 a4 a5 u0)
noncomputable def M_readSix_b253 (t : moS) (p2 : Int32) (a3 : Int32) (a4 : Int32) (a5 : Int32) (a6 : Int32) : Option ((Int32 × Int32 × Int32 × Int32 × moS) ⊕ (Int32 × moS)) := if a5 = p2 then ((xo ((some ((0 : Int32), t))))) else ((M_readSix_b261 t p2 a3 a4 a5 a6))
noncomputable def M_readSix_b178 (t : moS) (p2 : Int32) (a3 : Int32) (a4 : Int32) (a5 : Int32) (u0 : Int32) : Option ((Int32 × Int32 × Int32 × Int32 × moS) ⊕ (Int32 × moS)) := if u0 = 0 then ((some (.inl (a3, a4, a5, u0, t)))) else (Option.bind (rdI t 2 a5) (fun x1 => (if x1 = (58 : Int32) then (if (a5 + (1 : Int32)) < p2 then (Option.bind (rdI t 2 (a5 + (1 : Int32))) (fun x2 => (if x2 = (58 : Int32) then (if a4 = ((-1) : Int32) then (if ((a5 + (1 : Int32)) + (1 : Int32)) < p2 then ((M_readSix_b248 t p2 a3 a3 ((a5 + (1 : Int32)) + (1 : Int32)) (1 : Int32))) else ((M_readSix_b248 t p2 a3 a3 ((a5 + (1 : Int32)) + (1 : Int32)) (0 : Int32)))) else ((xo ((some ((0 : Int32), t)))))) else ((M_readSix_b253 t p2 a3 a4 (a5 + (1 : Int32)) u0))))) else ((M_readSix_b253 t p2 a3 a4 (a5 + (1 : Int32)) u0))) else ((xo ((some ((0 : Int32), t))))))))
noncomputable def M_readSix_b137 (t : moS) (p2 : Int32) (a3 : Int32) (a4 : Int32) (a5 : Int32) (a7 : Int32) (a8 : Int32) : Option ((Int32 × Int32 × Int32 × Int32 × moS) ⊕ (Int32 × moS)) := if a8 = 0 then ((xo ((some ((0 : Int32), t))))) else (if (4 : Int32) < a8 then ((xo ((some ((0 : Int32), t))))) else (if a3 = (8 : Int32) then ((xo ((some ((0 : Int32), t))))) else (Option.bind (wrI t 16 a3 a7) (fun s1 => (if a5 < p2 then ((M_readSix_b178 s1 p2 (a3 + (1 : Int32)) a4 a5 (1 : Int32))) else ((M_readSix_b178 s1 p2 (a3 + (1 : Int32)) a4 a5 (0 : Int32))))))))
noncomputable def M_readSix_s84 (t : moS) (p2 : Int32) (a3 : Int32) (a4 : Int32) (a5 : Int32) (a7 : Int32) (a8 : Int32) : Option ((Int32 × Int32 × Int32 × moS) ⊕ ((Int32 × Int32 × Int32 × Int32 × moS) ⊕ (Int32 × moS))) := if a5 < p2 then (Option.bind (rdI t 2 a5) (fun x1 => (if (M_hexadecimal x1) = ((-1) : Int32) then ((xo (M_readSix_b137 t p2 a3 a4 a5 a7 a8))) else (if a8 < (5 : Int32) then (Option.bind (rdI t 2 a5) (fun x2 => ((some (.inl ((a5 + (1 : Int32)), (((16 : Int32) * a7) + (M_hexadecimal x2)), (a8 + (1 : Int32)), t)))))) else ((xo (M_readSix_b137 t p2 a3 a4 a5 a7 a8))))))) else ((xo (M_readSix_b137 t p2 a3 a4 a5 a7 a8)))
noncomputable def M_readSix_b84 (t : moS) (p2 : Int32) (a3 : Int32) (a4 : Int32) (a5 : Int32) (a7 : Int32) (a8 : Int32) : Option ((Int32 × Int32 × Int32 × Int32 × moS) ⊕ (Int32 × moS)) := lp (fun x => M_readSix_s84 x.2.2.2 p2 a3 a4 x.1 x.2.1 x.2.2.1) (a5, a7, a8, t)
noncomputable def M_readSix_b387 (t : moS) (a3 : Int32) (a4 : Int32) (a7 : Int64) (a9 : Int64) (a11 : Int32) : Option ((Int64 × Int64 × Int32 × moS) ⊕ (Int32 × moS)) := (some (.inl (a7, a9, (a11 + (1 : Int32)), t)))
noncomputable def M_readSix_b354 (t : moS) (a3 : Int32) (a4 : Int32) (a7 : Int64) (a9 : Int64) (a11 : Int32) (u0 : Int32) : Option ((Int64 × Int64 × Int32 × moS) ⊕ (Int32 × moS)) := if a11 < (4 : Int32) then ((M_readSix_b387 t a3 a4 ((a7 <<< ((Int32.toInt64 (16 : Int32)) &&& 63)) ||| (Int32.toInt64 u0)) a9 a11)) else ((M_readSix_b387 t a3 a4 a7 ((a9 <<< ((Int32.toInt64 (16 : Int32)) &&& 63)) ||| (Int32.toInt64 u0)) a11))
noncomputable def M_readSix_b316 (t : moS) (a3 : Int32) (a4 : Int32) (a7 : Int64) (a9 : Int64) (a11 : Int32) : Option ((Int64 × Int64 × Int32 × moS) ⊕ (Int32 × moS)) := Option.bind (rdI t 16 a11) (fun x1 => ((M_readSix_b354 t a3 a4 a7 a9 a11 x1)))
noncomputable def M_readSix_s296 (t : moS) (a3 : Int32) (a4 : Int32) (a7 : Int64) (a9 : Int64) (a11 : Int32) : Option ((Int64 × Int64 × Int32 × moS) ⊕ (Int32 × moS)) := if a11 < (8 : Int32) then (if a4 = ((-1) : Int32) then ((M_readSix_b316 t a3 a4 a7 a9 a11)) else (if a11 < a4 then ((M_readSix_b316 t a3 a4 a7 a9 a11)) else (if a11 < ((8 : Int32) - (a3 - a4)) then ((M_readSix_b354 t a3 a4 a7 a9 a11 (0 : Int32))) else (Option.bind (rdI t 16 (a11 - ((8 : Int32) - a3))) (fun x4 => ((M_readSix_b354 t a3 a4 a7 a9 a11 x4))))))) else ((xo (letS (moSS t 12 (1 : Int32)) (fun s1 => (letS (moSZ s1 13 a7) (fun s2 => (letS (moSZ s2 14 a9) (fun s3 => ((some ((1 : Int32), s3)))))))))))
noncomputable def M_readSix_b296 (t : moS) (a3 : Int32) (a4 : Int32) (a7 : Int64) (a9 : Int64) (a11 : Int32) : Option (Int32 × moS) := lp (fun x => M_readSix_s296 x.2.2.2 a3 a4 x.1 x.2.1 x.2.2.1) (a7, a9, a11, t)
noncomputable def M_readSix_b287 (t : moS) (a3 : Int32) (a4 : Int32) : Option (Int32 × moS) := (M_readSix_b296 t a3 a4 (0 : Int64) (0 : Int64) (0 : Int32))
noncomputable def M_readSix_s73 (t : moS) (p2 : Int32) (a3 : Int32) (a4 : Int32) (a5 : Int32) (a6 : Int32) : Option ((Int32 × Int32 × Int32 × Int32 × moS) ⊕ (Int32 × moS)) := if a6 = 0 then ((xo (if a4 = ((-1) : Int32) then (if a3 = (8 : Int32) then ((M_readSix_b287 t a3 a4)) else ((some ((0 : Int32), t)))) else (if (7 : Int32) < a3 then ((some ((0 : Int32), t))) else ((M_readSix_b287 t a3 a4)))))) else ((M_readSix_b84 t p2 a3 a4 a5 (0 : Int32) (0 : Int32)))
noncomputable def M_readSix_b73 (t : moS) (p2 : Int32) (a3 : Int32) (a4 : Int32) (a5 : Int32) (a6 : Int32) : Option (Int32 × moS) := lp (fun x => M_readSix_s73 x.2.2.2.2 p2 x.1 x.2.1 x.2.2.1 x.2.2.2.1) (a3, a4, a5, a6, t)
noncomputable def M_readSix_b58 (t : moS) (p2 : Int32) (a3 : Int32) (a4 : Int32) (a5 : Int32) (u0 : Int32) : Option (Int32 × moS) := if u0 = 0 then (if a4 = ((-1) : Int32) then ((some ((0 : Int32), t))) else ((M_readSix_b73 t p2 a3 a4 a5 u0))) else ((M_readSix_b73 t p2 a3 a4 a5 u0))
noncomputable def M_readSix_b47 (t : moS) (p2 : Int32) (a3 : Int32) (a4 : Int32) (a5 : Int32) : Option (Int32 × moS) := if a5 < p2 then ((M_readSix_b58 t p2 a3 a4 a5 (1 : Int32))) else ((M_readSix_b58 t p2 a3 a4 a5 (0 : Int32)))
noncomputable def M_readSix (t : moS) (p1 : Int32) (p2 : Int32) : Option (Int32 × moS) := if (1 : Int32) < (p2 - p1) then (Option.bind (rdI t 2 p1) (fun x1 => (if x1 = (58 : Int32) then (Option.bind (rdI t 2 (p1 + (1 : Int32))) (fun x2 => (if x2 = (58 : Int32) then ((M_readSix_b47 t p2 (0 : Int32) (0 : Int32) (p1 + (2 : Int32)))) else ((M_readSix_b47 t p2 (0 : Int32) ((-1) : Int32) p1))))) else ((M_readSix_b47 t p2 (0 : Int32) ((-1) : Int32) p1))))) else ((M_readSix_b47 t p2 (0 : Int32) ((-1) : Int32) p1))
set_option maxRecDepth 100000 in
set_option maxHeartbeats 4000000 in
theorem k_readSix (base : Nat) (sa : Nat → Nat) {C : Nat × Nat} {R : pmM} {m : Nat} {q : Nat → Nat} {t tz : moS} {kc ks : Nat} {Rt : pmR} {p1 : Int32} {p2 : Int32} {r : Int32} (hw : mW C R base m q t kc ks) (h : M_readSix t p1 p2 = (some (r, tz))) (k : mW C R base m q tz kc ks → Rt (some (.int r)) (moM R m q tz) kc ks) : kP_Mo_readSix base sa [.ref m, .int p1, .int p2] (moM R m q t) kc ks Rt := by
  refine ⟨Nat.le_of_ble_eq_true rfl, fun G hG => ?_⟩
  have b296 : ∀ (a3 : Int32) (a4 : Int32) (n : Nat) (a7 : Int64) (a9 : Int64) (a11 : Int32) (t : moS), JJ C R base m G 296 [(0, .ref m), (3, .int a3), (4, .int a4), (7, .long a7), (9, .long a9), (11, .int a11)] [] q t kc ks (lpN (fun x => M_readSix_s296 x.2.2.2 a3 a4 x.1 x.2.1 x.2.2.1) n (a7, a9, a11, t)) (some (r, tz)) := by
    intro a3 a4 n
    induction n with
    | zero => intro a7 a9 a11 t; exact jj_lp0
    | succ n ih296 =>
      intro a7 a9 a11 t
      refine jj_lpS (fun y296 c296 => ?_)
      have b387 : ∀ (a7 : Int64) (a9 : Int64) (a11 : Int32) (t : moS), JJ C R base m G 387 [(0, .ref m), (3, .int a3), (4, .int a4), (7, .long a7), (9, .long a9), (11, .int a11)] [] q t kc ks (M_readSix_b387 t a3 a4 a7 a9 a11) (some y296) := by
        intro a7 a9 a11 t
        refine jj_inc hG rfl (Nat.le_of_ble_eq_true rfl) rfl cc_i1 ?_
        refine jj_go hG (t := 296) rfl rfl ?_
        exact jj_back c296 (jj_wl hG [1, 2, 3, 4, 5, 0] rfl (ih296 _ _ _ _))
      have b354 : ∀ (a7 : Int64) (a9 : Int64) (a11 : Int32) (u0 : Int32) (t : moS), JJ C R base m G 354 [(0, .ref m), (3, .int a3), (4, .int a4), (7, .long a7), (9, .long a9), (11, .int a11)] [.int u0] q t kc ks (M_readSix_b354 t a3 a4 a7 a9 a11 u0) (some y296) := by
        intro a7 a9 a11 u0 t
        refine jjc hG rfl rfl (Nat.le_of_ble_eq_true rfl) ?_
        refine jjs hG rfl rfl ?_
        refine jj_ic hG rfl cc_i4 ?_
        refine jj_ige hG (t := 376) rfl rfl ?_ ?_
        · refine jjs hG rfl rfl ?_
          refine jj_bi hG rfl cc_b16 ?_
          refine jjs hG rfl rfl ?_
          refine jjs hG rfl rfl ?_
          refine jjs hG rfl rfl ?_
          refine jjs hG rfl rfl ?_
          refine jjc hG rfl rfl (Nat.le_of_ble_eq_true rfl) ?_
          exact jj_wl hG [2, 3, 4, 5, 0, 6] rfl (b387 _ _ _ _)
        refine jjs hG rfl rfl ?_
        refine jj_bi hG rfl cc_b16 ?_
        refine jjs hG rfl rfl ?_
        refine jjs hG rfl rfl ?_
        refine jjs hG rfl rfl ?_
        refine jjs hG rfl rfl ?_
        refine jjc hG rfl rfl (Nat.le_of_ble_eq_true rfl) ?_
        refine jj_go hG (t := 387) rfl rfl ?_
        exact jj_wl hG [2, 3, 4, 0, 5, 6] rfl (b387 _ _ _ _)
      have b316 : ∀ (a7 : Int64) (a9 : Int64) (a11 : Int32) (t : moS), JJ C R base m G 316 [(0, .ref m), (3, .int a3), (4, .int a4), (7, .long a7), (9, .long a9), (11, .int a11)] [] q t kc ks (M_readSix_b316 t a3 a4 a7 a9 a11) (some y296) := by
        intro a7 a9 a11 t
        refine jjs hG rfl rfl ?_
        refine jj_gr hG (k := 16) rfl rfl rfl rfl ?_
        refine jjs hG rfl rfl ?_
        refine jj_ia hG (k := 16) rfl rfl rfl (fun x1 => ?_)
        refine jj_go hG (t := 354) rfl rfl ?_
        exact jj_wl hG [0, 1, 2, 3, 4, 5] rfl (b354 _ _ _ _ _)
      refine (show JJ C R base m G 296 [(0, .ref m), (3, .int a3), (4, .int a4), (7, .long a7), (9, .long a9), (11, .int a11)] [] q t kc ks (M_readSix_s296 t a3 a4 a7 a9 a11) (some y296) from ?_)
      refine jjs hG rfl rfl ?_
      refine jj_bi hG rfl cc_b8 ?_
      refine jj_ige hG (t := 393) rfl rfl ?_ ?_
      · refine jj_exit c296 ?_
        refine jjs hG rfl rfl ?_
        refine jj_ic hG rfl cc_i1 ?_
        refine jj_pi hG (k := 12) rfl rfl rfl rfl (fun s1 => ?_)
        refine jjs hG rfl rfl ?_
        refine jjs hG rfl rfl ?_
        refine jj_pz hG (k := 13) rfl rfl rfl rfl (fun s2 => ?_)
        refine jjs hG rfl rfl ?_
        refine jjs hG rfl rfl ?_
        refine jj_pz hG (k := 14) rfl rfl rfl rfl (fun s3 => ?_)
        refine jj_ic hG rfl cc_i1 ?_
        exact jj_riS hG rfl rfl rfl k
      refine jjs hG rfl rfl ?_
      refine jj_ic hG rfl cc_im1 ?_
      refine jj_ieq hG (t := 316) rfl rfl ?_ ?_
      · exact jj_wl hG [0, 1, 2, 3, 4, 5] rfl (b316 _ _ _ _)
      refine jjs hG rfl rfl ?_
      refine jjs hG rfl rfl ?_
      refine jj_ige hG (t := 326) rfl rfl ?_ ?_
      · refine jjs hG rfl rfl ?_
        refine jj_bi hG rfl cc_b8 ?_
        refine jjs hG rfl rfl ?_
        refine jjs hG rfl rfl ?_
        refine jjs hG rfl rfl ?_
        refine jjs hG rfl rfl ?_
        refine jj_ilt hG (t := 353) rfl rfl ?_ ?_
        · refine jj_ic hG rfl cc_i0 ?_
          exact jj_wl hG [0, 1, 2, 3, 4, 5] rfl (b354 _ _ _ _ _)
        refine jjs hG rfl rfl ?_
        refine jj_gr hG (k := 16) rfl rfl rfl rfl ?_
        refine jjs hG rfl rfl ?_
        refine jj_bi hG rfl cc_b8 ?_
        refine jjs hG rfl rfl ?_
        refine jjs hG rfl rfl ?_
        refine jjs hG rfl rfl ?_
        refine jj_ia hG (k := 16) rfl rfl rfl (fun x4 => ?_)
        refine jj_go hG (t := 354) rfl rfl ?_
        exact jj_wl hG [0, 1, 2, 3, 4, 5] rfl (b354 _ _ _ _ _)
      exact jj_wl hG [0, 1, 2, 3, 4, 5] rfl (b316 _ _ _ _)
  have b287 : ∀ (a3 : Int32) (a4 : Int32) (t : moS), JJ C R base m G 287 [(0, .ref m), (3, .int a3), (4, .int a4)] [] q t kc ks (M_readSix_b287 t a3 a4) (some (r, tz)) := by
    intro a3 a4 t
    refine jj_lc hG (c := 0) (v := 0) rfl rfl ?_
    refine jjc hG rfl rfl (Nat.le_of_ble_eq_true rfl) ?_
    refine jj_lc hG (c := 0) (v := 0) rfl rfl ?_
    refine jjc hG rfl rfl (Nat.le_of_ble_eq_true rfl) ?_
    refine jj_ic hG rfl cc_i0 ?_
    refine jjc hG rfl rfl (Nat.le_of_ble_eq_true rfl) ?_
    refine jj_lp (fun n => ?_)
    exact jj_wl hG [3, 4, 5, 2, 1, 0] rfl (b296 _ _ n _ _ _ _)
  have b73 : ∀ (n : Nat) (a3 : Int32) (a4 : Int32) (a5 : Int32) (a6 : Int32) (t : moS), JJ C R base m G 73 [(0, .ref m), (2, .int p2), (3, .int a3), (4, .int a4), (5, .int a5), (6, .int a6)] [] q t kc ks (lpN (fun x => M_readSix_s73 x.2.2.2.2 p2 x.1 x.2.1 x.2.2.1 x.2.2.2.1) n (a3, a4, a5, a6, t)) (some (r, tz)) := by
    intro n
    induction n with
    | zero => intro a3 a4 a5 a6 t; exact jj_lp0
    | succ n ih73 =>
      intro a3 a4 a5 a6 t
      refine jj_lpS (fun y73 c73 => ?_)
      have b261 : ∀ (a3 : Int32) (a4 : Int32) (a5 : Int32) (a6 : Int32) (t : moS), JJ C R base m G 261 [(0, .ref m), (2, .int p2), (3, .int a3), (4, .int a4), (5, .int a5), (6, .int a6)] [] q t kc ks (M_readSix_b261 t p2 a3 a4 a5 a6) (some y73) := by
        intro a3 a4 a5 a6 t
        refine jj_go hG (t := 73) rfl rfl ?_
        exact jj_back c73 (jj_wl hG [0, 1, 2, 3, 4, 5] rfl (ih73 _ _ _ _ _))
      have b248 : ∀ (a3 : Int32) (a4 : Int32) (a5 : Int32) (u0 : Int32) (t : moS), JJ C R base m G 248 [(0, .ref m), (2, .int p2), (3, .int a3), (4, .int a4), (5, .int a5)] [.int u0] q t kc ks (M_readSix_b248 t p2 a3 a4 a5 u0) (some y73) := by
        intro a3 a4 a5 u0 t
        refine jjc hG rfl rfl (Nat.le_of_ble_eq_true rfl) ?_
        refine jj_go hG (t := 261) rfl rfl ?_
        exact jj_wl hG [1, 2, 3, 4, 5, 0] rfl (b261 _ _ _ _ _)
      have b253 : ∀ (a3 : Int32) (a4 : Int32) (a5 : Int32) (a6 : Int32) (t : moS), JJ C R base m G 253 [(0, .ref m), (2, .int p2), (3, .int a3), (4, .int a4), (5, .int a5), (6, .int a6)] [] q t kc ks (M_readSix_b253 t p2 a3 a4 a5 a6) (some y73) := by
        intro a3 a4 a5 a6 t
        refine jjs hG rfl rfl ?_
        refine jjs hG rfl rfl ?_
        refine jj_ine hG (t := 261) rfl rfl ?_ ?_
        · exact jj_wl hG [0, 1, 2, 3, 4, 5] rfl (b261 _ _ _ _ _)
        refine jj_exit c73 ?_
        refine jj_ic hG rfl cc_i0 ?_
        exact jj_riS hG rfl rfl rfl k
      have b178 : ∀ (a3 : Int32) (a4 : Int32) (a5 : Int32) (u0 : Int32) (t : moS), JJ C R base m G 178 [(0, .ref m), (2, .int p2), (3, .int a3), (4, .int a4), (5, .int a5)] [.int u0] q t kc ks (M_readSix_b178 t p2 a3 a4 a5 u0) (some y73) := by
        intro a3 a4 a5 u0 t
        refine jjc hG rfl rfl (Nat.le_of_ble_eq_true rfl) ?_
        refine jjs hG rfl rfl ?_
        refine jj_zne hG (t := 188) rfl rfl ?_ ?_
        · refine jjs hG rfl rfl ?_
          refine jj_gr hG (k := 2) rfl rfl rfl rfl ?_
          refine jjs hG rfl rfl ?_
          refine jj_ia hG (k := 2) rfl rfl rfl (fun x1 => ?_)
          refine jj_bi hG rfl cc_b58 ?_
          refine jj_ieq hG (t := 202) rfl rfl ?_ ?_
          · refine jj_inc hG rfl (Nat.le_of_ble_eq_true rfl) rfl cc_i1 ?_
            refine jjs hG rfl rfl ?_
            refine jjs hG rfl rfl ?_
            refine jj_ige hG (t := 253) rfl rfl ?_ ?_
            · exact jj_wl hG [2, 3, 4, 5, 0, 1] rfl (b253 _ _ _ _ _)
            refine jjs hG rfl rfl ?_
            refine jj_gr hG (k := 2) rfl rfl rfl rfl ?_
            refine jjs hG rfl rfl ?_
            refine jj_ia hG (k := 2) rfl rfl rfl (fun x2 => ?_)
            refine jj_bi hG rfl cc_b58 ?_
            refine jj_ine hG (t := 253) rfl rfl ?_ ?_
            · exact jj_wl hG [2, 3, 4, 5, 0, 1] rfl (b253 _ _ _ _ _)
            refine jjs hG rfl rfl ?_
            refine jj_ic hG rfl cc_im1 ?_
            refine jj_ieq hG (t := 231) rfl rfl ?_ ?_
            · refine jjs hG rfl rfl ?_
              refine jjc hG rfl rfl (Nat.le_of_ble_eq_true rfl) ?_
              refine jj_inc hG rfl (Nat.le_of_ble_eq_true rfl) rfl cc_i1 ?_
              refine jjs hG rfl rfl ?_
              refine jjs hG rfl rfl ?_
              refine jj_ige hG (t := 247) rfl rfl ?_ ?_
              · refine jj_ic hG rfl cc_i0 ?_
                exact jj_wl hG [3, 4, 5, 1, 0] rfl (b248 _ _ _ _ _)
              refine jj_ic hG rfl cc_i1 ?_
              refine jj_go hG (t := 248) rfl rfl ?_
              exact jj_wl hG [3, 4, 5, 1, 0] rfl (b248 _ _ _ _ _)
            refine jj_exit c73 ?_
            refine jj_ic hG rfl cc_i0 ?_
            exact jj_riS hG rfl rfl rfl k
          refine jj_exit c73 ?_
          refine jj_ic hG rfl cc_i0 ?_
          exact jj_riS hG rfl rfl rfl k
        refine jj_go hG (t := 73) rfl rfl ?_
        exact jj_back c73 (jj_wl hG [1, 2, 3, 4, 5, 0] rfl (ih73 _ _ _ _ _))
      have b137 : ∀ (a3 : Int32) (a4 : Int32) (a5 : Int32) (a7 : Int32) (a8 : Int32) (t : moS), JJ C R base m G 137 [(0, .ref m), (2, .int p2), (3, .int a3), (4, .int a4), (5, .int a5), (7, .int a7), (8, .int a8)] [] q t kc ks (M_readSix_b137 t p2 a3 a4 a5 a7 a8) (some y73) := by
        intro a3 a4 a5 a7 a8 t
        refine jjs hG rfl rfl ?_
        refine jj_zeq hG (t := 154) rfl rfl ?_ ?_
        · refine jj_exit c73 ?_
          refine jj_ic hG rfl cc_i0 ?_
          exact jj_riS hG rfl rfl rfl k
        refine jjs hG rfl rfl ?_
        refine jj_ic hG rfl cc_i4 ?_
        refine jj_igt hG (t := 154) rfl rfl ?_ ?_
        · refine jj_exit c73 ?_
          refine jj_ic hG rfl cc_i0 ?_
          exact jj_riS hG rfl rfl rfl k
        refine jjs hG rfl rfl ?_
        refine jj_bi hG rfl cc_b8 ?_
        refine jj_ine hG (t := 156) rfl rfl ?_ ?_
        · refine jjs hG rfl rfl ?_
          refine jj_gr hG (k := 16) rfl rfl rfl rfl ?_
          refine jjs hG rfl rfl ?_
          refine jjs hG rfl rfl ?_
          refine jj_is hG (k := 16) rfl rfl rfl (fun s1 => ?_)
          refine jj_inc hG rfl (Nat.le_of_ble_eq_true rfl) rfl cc_i1 ?_
          refine jjs hG rfl rfl ?_
          refine jjs hG rfl rfl ?_
          refine jj_ige hG (t := 177) rfl rfl ?_ ?_
          · refine jj_ic hG rfl cc_i0 ?_
            exact jj_wl hG [1, 2, 0, 3, 4] rfl (b178 _ _ _ _ _)
          refine jj_ic hG rfl cc_i1 ?_
          refine jj_go hG (t := 178) rfl rfl ?_
          exact jj_wl hG [1, 2, 0, 3, 4] rfl (b178 _ _ _ _ _)
        refine jj_exit c73 ?_
        refine jj_ic hG rfl cc_i0 ?_
        exact jj_riS hG rfl rfl rfl k
      have b84 : ∀ (a3 : Int32) (a4 : Int32) (n : Nat) (a5 : Int32) (a7 : Int32) (a8 : Int32) (t : moS), JJ C R base m G 84 [(0, .ref m), (2, .int p2), (3, .int a3), (4, .int a4), (5, .int a5), (7, .int a7), (8, .int a8)] [] q t kc ks (lpN (fun x => M_readSix_s84 x.2.2.2 p2 a3 a4 x.1 x.2.1 x.2.2.1) n (a5, a7, a8, t)) (some y73) := by
        intro a3 a4 n
        induction n with
        | zero => intro a5 a7 a8 t; exact jj_lp0
        | succ n ih84 =>
          intro a5 a7 a8 t
          refine jj_lpS (fun y84 c84 => ?_)
          refine (show JJ C R base m G 84 [(0, .ref m), (2, .int p2), (3, .int a3), (4, .int a4), (5, .int a5), (7, .int a7), (8, .int a8)] [] q t kc ks (M_readSix_s84 t p2 a3 a4 a5 a7 a8) (some y84) from ?_)
          refine jjs hG rfl rfl ?_
          refine jjs hG rfl rfl ?_
          refine jj_ige hG (t := 137) rfl rfl ?_ ?_
          · refine jj_exit c84 ?_
            exact jj_wl hG [0, 1, 2, 3, 4, 5, 6] rfl (b137 _ _ _ _ _ _)
          refine jjs hG rfl rfl ?_
          refine jj_gr hG (k := 2) rfl rfl rfl rfl ?_
          refine jjs hG rfl rfl ?_
          refine jj_ia hG (k := 2) rfl rfl rfl (fun x1 => ?_)
          refine jj_ct hG 2 rfl rfl (Nat.le_of_ble_eq_true rfl) (by decide) (Nat.le_of_ble_eq_true rfl) rfl (st' := []) rfl (v := .int (M_hexadecimal x1)) (fun _ hw k => k_hexadecimal base sa hw rfl k) ?_
          refine jj_ic hG rfl cc_im1 ?_
          refine jj_ieq hG (t := 137) rfl rfl ?_ ?_
          · refine jj_exit c84 ?_
            exact jj_wl hG [0, 1, 2, 3, 4, 5, 6] rfl (b137 _ _ _ _ _ _)
          refine jjs hG rfl rfl ?_
          refine jj_ic hG rfl cc_i5 ?_
          refine jj_ige hG (t := 137) rfl rfl ?_ ?_
          · refine jj_exit c84 ?_
            exact jj_wl hG [0, 1, 2, 3, 4, 5, 6] rfl (b137 _ _ _ _ _ _)
          refine jj_bi hG rfl cc_b16 ?_
          refine jjs hG rfl rfl ?_
          refine jjs hG rfl rfl ?_
          refine jjs hG rfl rfl ?_
          refine jj_gr hG (k := 2) rfl rfl rfl rfl ?_
          refine jjs hG rfl rfl ?_
          refine jj_ia hG (k := 2) rfl rfl rfl (fun x2 => ?_)
          refine jj_ct hG 2 rfl rfl (Nat.le_of_ble_eq_true rfl) (by decide) (Nat.le_of_ble_eq_true rfl) rfl (st' := [.int ((16 : Int32) * a7)]) rfl (v := .int (M_hexadecimal x2)) (fun _ hw k => k_hexadecimal base sa hw rfl k) ?_
          refine jjs hG rfl rfl ?_
          refine jjc hG rfl rfl (Nat.le_of_ble_eq_true rfl) ?_
          refine jj_inc hG rfl (Nat.le_of_ble_eq_true rfl) rfl cc_i1 ?_
          refine jj_inc hG rfl (Nat.le_of_ble_eq_true rfl) rfl cc_i1 ?_
          refine jj_go hG (t := 84) rfl rfl ?_
          exact jj_back c84 (jj_wl hG [3, 4, 5, 6, 0, 2, 1] rfl (ih84 _ _ _ _))
      refine (show JJ C R base m G 73 [(0, .ref m), (2, .int p2), (3, .int a3), (4, .int a4), (5, .int a5), (6, .int a6)] [] q t kc ks (M_readSix_s73 t p2 a3 a4 a5 a6) (some y73) from ?_)
      refine jjs hG rfl rfl ?_
      refine jj_zeq hG (t := 264) rfl rfl ?_ ?_
      · refine jj_exit c73 ?_
        refine jjs hG rfl rfl ?_
        refine jj_ic hG rfl cc_im1 ?_
        refine jj_ine hG (t := 279) rfl rfl ?_ ?_
        · refine jjs hG rfl rfl ?_
          refine jj_bi hG rfl cc_b7 ?_
          refine jj_ile hG (t := 287) rfl rfl ?_ ?_
          · exact jj_wl hG [0, 2, 3] rfl (b287 _ _ _)
          refine jj_ic hG rfl cc_i0 ?_
          exact jj_riS hG rfl rfl rfl k
        refine jjs hG rfl rfl ?_
        refine jj_bi hG rfl cc_b8 ?_
        refine jj_ieq hG (t := 287) rfl rfl ?_ ?_
        · exact jj_wl hG [0, 2, 3] rfl (b287 _ _ _)
        refine jj_go hG (t := 285) rfl rfl ?_
        refine jj_ic hG rfl cc_i0 ?_
        exact jj_riS hG rfl rfl rfl k
      refine jj_ic hG rfl cc_i0 ?_
      refine jjc hG rfl rfl (Nat.le_of_ble_eq_true rfl) ?_
      refine jj_ic hG rfl cc_i0 ?_
      refine jjc hG rfl rfl (Nat.le_of_ble_eq_true rfl) ?_
      refine jj_lp (fun n => ?_)
      exact jj_wl hG [2, 3, 4, 5, 6, 1, 0] rfl (b84 _ _ n _ _ _ _)
  have b58 : ∀ (a3 : Int32) (a4 : Int32) (a5 : Int32) (u0 : Int32) (t : moS), JJ C R base m G 58 [(0, .ref m), (2, .int p2), (3, .int a3), (4, .int a4), (5, .int a5)] [.int u0] q t kc ks (M_readSix_b58 t p2 a3 a4 a5 u0) (some (r, tz)) := by
    intro a3 a4 a5 u0 t
    refine jjc hG rfl rfl (Nat.le_of_ble_eq_true rfl) ?_
    refine jjs hG rfl rfl ?_
    refine jj_zne hG (t := 73) rfl rfl ?_ ?_
    · refine jj_lp (fun n => ?_)
      exact jj_wl hG [1, 2, 3, 4, 5, 0] rfl (b73 n _ _ _ _ _)
    refine jjs hG rfl rfl ?_
    refine jj_ic hG rfl cc_im1 ?_
    refine jj_ine hG (t := 73) rfl rfl ?_ ?_
    · refine jj_lp (fun n => ?_)
      exact jj_wl hG [1, 2, 3, 4, 5, 0] rfl (b73 n _ _ _ _ _)
    refine jj_ic hG rfl cc_i0 ?_
    exact jj_riS hG rfl rfl rfl k
  have b47 : ∀ (a3 : Int32) (a4 : Int32) (a5 : Int32) (t : moS), JJ C R base m G 47 [(0, .ref m), (2, .int p2), (3, .int a3), (4, .int a4), (5, .int a5)] [] q t kc ks (M_readSix_b47 t p2 a3 a4 a5) (some (r, tz)) := by
    intro a3 a4 a5 t
    refine jjs hG rfl rfl ?_
    refine jjs hG rfl rfl ?_
    refine jj_ige hG (t := 57) rfl rfl ?_ ?_
    · refine jj_ic hG rfl cc_i0 ?_
      exact jj_wl hG [0, 1, 2, 3, 4] rfl (b58 _ _ _ _ _)
    refine jj_ic hG rfl cc_i1 ?_
    refine jj_go hG (t := 58) rfl rfl ?_
    exact jj_wl hG [0, 1, 2, 3, 4] rfl (b58 _ _ _ _ _)
  refine (show JJ C R base m G 0 [(0, .ref m), (1, .int p1), (2, .int p2)] [] q t kc ks (M_readSix t p1 p2) (some (r, tz)) from ?_) hw h
  refine jj_ic hG rfl cc_i0 ?_
  refine jjc hG rfl rfl (Nat.le_of_ble_eq_true rfl) ?_
  refine jj_ic hG rfl cc_im1 ?_
  refine jjc hG rfl rfl (Nat.le_of_ble_eq_true rfl) ?_
  refine jjs hG rfl rfl ?_
  refine jjc hG rfl rfl (Nat.le_of_ble_eq_true rfl) ?_
  refine jjs hG rfl rfl ?_
  refine jjs hG rfl rfl ?_
  refine jjs hG rfl rfl ?_
  refine jj_ic hG rfl cc_i1 ?_
  refine jj_ile hG (t := 47) rfl rfl ?_ ?_
  · exact jj_wl hG [3, 5, 2, 1, 0] rfl (b47 _ _ _ _)
  refine jjs hG rfl rfl ?_
  refine jj_gr hG (k := 2) rfl rfl rfl rfl ?_
  refine jjs hG rfl rfl ?_
  refine jj_ia hG (k := 2) rfl rfl rfl (fun x1 => ?_)
  refine jj_bi hG rfl cc_b58 ?_
  refine jj_ine hG (t := 47) rfl rfl ?_ ?_
  · exact jj_wl hG [3, 5, 2, 1, 0] rfl (b47 _ _ _ _)
  refine jjs hG rfl rfl ?_
  refine jj_gr hG (k := 2) rfl rfl rfl rfl ?_
  refine jjs hG rfl rfl ?_
  refine jj_ic hG rfl cc_i1 ?_
  refine jjs hG rfl rfl ?_
  refine jj_ia hG (k := 2) rfl rfl rfl (fun x2 => ?_)
  refine jj_bi hG rfl cc_b58 ?_
  refine jj_ine hG (t := 47) rfl rfl ?_ ?_
  · exact jj_wl hG [3, 5, 2, 1, 0] rfl (b47 _ _ _ _)
  refine jj_ic hG rfl cc_i0 ?_
  refine jjc hG rfl rfl (Nat.le_of_ble_eq_true rfl) ?_
  refine jjs hG rfl rfl ?_
  refine jj_ic hG rfl cc_i2 ?_
  refine jjs hG rfl rfl ?_
  refine jjc hG rfl rfl (Nat.le_of_ble_eq_true rfl) ?_
  exact jj_wl hG [3, 5, 2, 1, 0] rfl (b47 _ _ _ _)
noncomputable def M_readAddress_b18 (t : moS) : Option (Int32 × moS) := (some ((1 : Int32), t))
noncomputable def M_readAddress (t : moS) (p1 : Int32) (p2 : Int32) : Option (Int32 × moS) := bn2 (M_readFour t p1 p2) (fun x2 s1 => (if x2 = 0 then (bn2 (M_readSix s1 p1 p2) (fun x4 s3 => (if x4 = 0 then ((some ((0 : Int32), s3))) else ((M_readAddress_b18 s3))))) else ((M_readAddress_b18 s1))))
set_option maxRecDepth 100000 in
set_option maxHeartbeats 4000000 in
theorem k_readAddress (base : Nat) (sa : Nat → Nat) {C : Nat × Nat} {R : pmM} {m : Nat} {q : Nat → Nat} {t tz : moS} {kc ks : Nat} {Rt : pmR} {p1 : Int32} {p2 : Int32} {r : Int32} (hw : mW C R base m q t kc ks) (h : M_readAddress t p1 p2 = (some (r, tz))) (k : mW C R base m q tz kc ks → Rt (some (.int r)) (moM R m q tz) kc ks) : kP_Mo_readAddress base sa [.ref m, .int p1, .int p2] (moM R m q t) kc ks Rt := by
  refine ⟨Nat.le_of_ble_eq_true rfl, fun G hG => ?_⟩
  have b18 : ∀ (t : moS), JJ C R base m G 18 [] [] q t kc ks (M_readAddress_b18 t) (some (r, tz)) := by
    intro t
    refine jj_ic hG rfl cc_i1 ?_
    refine jj_go hG (t := 23) rfl rfl ?_
    exact jj_riS hG rfl rfl rfl k
  refine (show JJ C R base m G 0 [(0, .ref m), (1, .int p1), (2, .int p2)] [] q t kc ks (M_readAddress t p1 p2) (some (r, tz)) from ?_) hw h
  refine jjs hG rfl rfl ?_
  refine jjs hG rfl rfl ?_
  refine jjs hG rfl rfl ?_
  refine jj_cs hG 0 rfl rfl (Nat.le_of_ble_eq_true rfl) (by decide) (Nat.le_of_ble_eq_true rfl) rfl (st' := []) rfl (w := .int) (fun _ _ _ hw h k => pm_rcv_of moM_m (k_readFour base sa hw h k)) (fun x2 s1 => ?_)
  refine jj_zne hG (t := 18) rfl rfl ?_ ?_
  · exact jj_wl hG [] rfl (b18 _)
  refine jjs hG rfl rfl ?_
  refine jjs hG rfl rfl ?_
  refine jjs hG rfl rfl ?_
  refine jj_cs hG 0 rfl rfl (Nat.le_of_ble_eq_true rfl) (by decide) (Nat.le_of_ble_eq_true rfl) rfl (st' := []) rfl (w := .int) (fun _ _ _ hw h k => pm_rcv_of moM_m (k_readSix base sa hw h k)) (fun x4 s3 => ?_)
  refine jj_zeq hG (t := 22) rfl rfl ?_ ?_
  · refine jj_ic hG rfl cc_i0 ?_
    exact jj_riS hG rfl rfl rfl k
  exact jj_wl hG [] rfl (b18 _)
noncomputable def M_isAddress (t : moS) (p1 : Int32) : Option (Int32 × moS) := Option.bind (rdI t 9 p1) (fun x1 => (Option.bind (rdI t 9 p1) (fun x2 => (Option.bind (rdI t 10 p1) (fun x3 => (bn2 (M_readAddress t x1 (x2 + x3)) (fun x5 s4 => ((okZ x5 (some (x5, s4)))))))))))
set_option maxRecDepth 100000 in
set_option maxHeartbeats 4000000 in
theorem k_isAddress (base : Nat) (sa : Nat → Nat) {C : Nat × Nat} {R : pmM} {m : Nat} {q : Nat → Nat} {t tz : moS} {kc ks : Nat} {Rt : pmR} {p1 : Int32} {r : Int32} (hw : mW C R base m q t kc ks) (h : M_isAddress t p1 = (some (r, tz))) (k : mW C R base m q tz kc ks → Rt (some (.int r)) (moM R m q tz) kc ks) : kP_Mo_isAddress base sa [.ref m, .int p1] (moM R m q t) kc ks Rt := by
  refine ⟨Nat.le_of_ble_eq_true rfl, fun G hG => ?_⟩
  refine (show JJ C R base m G 0 [(0, .ref m), (1, .int p1)] [] q t kc ks (M_isAddress t p1) (some (r, tz)) from ?_) hw h
  refine jjs hG rfl rfl ?_
  refine jjs hG rfl rfl ?_
  refine jj_gr hG (k := 9) rfl rfl rfl rfl ?_
  refine jjs hG rfl rfl ?_
  refine jj_ia hG (k := 9) rfl rfl rfl (fun x1 => ?_)
  refine jjs hG rfl rfl ?_
  refine jj_gr hG (k := 9) rfl rfl rfl rfl ?_
  refine jjs hG rfl rfl ?_
  refine jj_ia hG (k := 9) rfl rfl rfl (fun x2 => ?_)
  refine jjs hG rfl rfl ?_
  refine jj_gr hG (k := 10) rfl rfl rfl rfl ?_
  refine jjs hG rfl rfl ?_
  refine jj_ia hG (k := 10) rfl rfl rfl (fun x3 => ?_)
  refine jjs hG rfl rfl ?_
  refine jj_cs hG 0 rfl rfl (Nat.le_of_ble_eq_true rfl) (by decide) (Nat.le_of_ble_eq_true rfl) rfl (st' := []) rfl (w := .int) (fun _ _ _ hw h k => pm_rcv_of moM_m (k_readAddress base sa hw h k)) (fun x5 s4 => ?_)
  exact jj_rzS hG rfl rfl k
noncomputable def M_isAddressWithLength_b43 (t : moS) (p1 : Int32) (a2 : Int32) (a3 : Int32) : Option (Int32 × moS) := if a3 = a2 then ((some ((0 : Int32), t))) else (Option.bind (rdI t 9 p1) (fun x1 => (bn2 (M_readAddress t x1 a3) (fun x3 s2 => (if x3 = 0 then ((some ((0 : Int32), s2))) else (Option.bind (M_plain s2 (a3 + (1 : Int32)) a2 (M_bitsOf (moS.S s2 12))) (fun x4 => (letS (moSS s2 15 x4) (fun s5 => (if (moS.S s5 15) = ((-1) : Int32) then ((some ((0 : Int32), s5))) else ((some ((1 : Int32), s5)))))))))))))
noncomputable def M_isAddressWithLength_s21 (t : moS) (p1 : Int32) (a2 : Int32) (a3 : Int32) : Option ((Int32 × moS) ⊕ (Int32 × moS)) := if a3 < a2 then (Option.bind (rdI t 2 a3) (fun x1 => (if x1 = (47 : Int32) then ((xo (M_isAddressWithLength_b43 t p1 a2 a3))) else ((some (.inl ((a3 + (1 : Int32)), t))))))) else ((xo (M_isAddressWithLength_b43 t p1 a2 a3)))
noncomputable def M_isAddressWithLength_b21 (t : moS) (p1 : Int32) (a2 : Int32) (a3 : Int32) : Option (Int32 × moS) := lp (fun x => M_isAddressWithLength_s21 x.2 p1 a2 x.1) (a3, t)
noncomputable def M_isAddressWithLength (t : moS) (p1 : Int32) : Option (Int32 × moS) := Option.bind (rdI t 9 p1) (fun x1 => (Option.bind (rdI t 10 p1) (fun x2 => (Option.bind (rdI t 9 p1) (fun x3 => ((M_isAddressWithLength_b21 t p1 (x1 + x2) x3)))))))
set_option maxRecDepth 100000 in
set_option maxHeartbeats 4000000 in
theorem k_isAddressWithLength (base : Nat) (sa : Nat → Nat) {C : Nat × Nat} {R : pmM} {m : Nat} {q : Nat → Nat} {t tz : moS} {kc ks : Nat} {Rt : pmR} {p1 : Int32} {r : Int32} (hw : mW C R base m q t kc ks) (h : M_isAddressWithLength t p1 = (some (r, tz))) (k : mW C R base m q tz kc ks → Rt (some (.int r)) (moM R m q tz) kc ks) : kP_Mo_isAddressWithLength base sa [.ref m, .int p1] (moM R m q t) kc ks Rt := by
  refine ⟨Nat.le_of_ble_eq_true rfl, fun G hG => ?_⟩
  have b43 : ∀ (a2 : Int32) (a3 : Int32) (t : moS), JJ C R base m G 43 [(0, .ref m), (1, .int p1), (2, .int a2), (3, .int a3)] [] q t kc ks (M_isAddressWithLength_b43 t p1 a2 a3) (some (r, tz)) := by
    intro a2 a3 t
    refine jjs hG rfl rfl ?_
    refine jjs hG rfl rfl ?_
    refine jj_ieq hG (t := 62) rfl rfl ?_ ?_
    · refine jj_ic hG rfl cc_i0 ?_
      exact jj_riS hG rfl rfl rfl k
    refine jjs hG rfl rfl ?_
    refine jjs hG rfl rfl ?_
    refine jj_gr hG (k := 9) rfl rfl rfl rfl ?_
    refine jjs hG rfl rfl ?_
    refine jj_ia hG (k := 9) rfl rfl rfl (fun x1 => ?_)
    refine jjs hG rfl rfl ?_
    refine jj_cs hG 0 rfl rfl (Nat.le_of_ble_eq_true rfl) (by decide) (Nat.le_of_ble_eq_true rfl) rfl (st' := []) rfl (w := .int) (fun _ _ _ hw h k => pm_rcv_of moM_m (k_readAddress base sa hw h k)) (fun x3 s2 => ?_)
    refine jj_zne hG (t := 64) rfl rfl ?_ ?_
    · refine jjs hG rfl rfl ?_
      refine jjs hG rfl rfl ?_
      refine jjs hG rfl rfl ?_
      refine jj_ic hG rfl cc_i1 ?_
      refine jjs hG rfl rfl ?_
      refine jjs hG rfl rfl ?_
      refine jjs hG rfl rfl ?_
      refine jj_gi hG (k := 12) rfl rfl rfl rfl ?_
      refine jj_ct hG 2 rfl rfl (Nat.le_of_ble_eq_true rfl) (by decide) (Nat.le_of_ble_eq_true rfl) rfl (st' := [.int a2, .int (a3 + (1 : Int32)), .ref m, .ref m]) rfl (v := .int (M_bitsOf (moS.S s2 12))) (fun _ hw k => k_bitsOf base sa hw rfl k) ?_
      refine jj_cp hG 0 rfl rfl (Nat.le_of_ble_eq_true rfl) (by decide) (Nat.le_of_ble_eq_true rfl) rfl (st' := [.ref m]) rfl (w := .int) (fun _ _ hw h k => pm_rcv_of moM_m (k_plain base sa hw h k)) (fun x4 => ?_)
      refine jj_pi hG (k := 15) rfl rfl rfl rfl (fun s5 => ?_)
      refine jjs hG rfl rfl ?_
      refine jj_gi hG (k := 15) rfl rfl rfl rfl ?_
      refine jj_ic hG rfl cc_im1 ?_
      refine jj_ieq hG (t := 95) rfl rfl ?_ ?_
      · refine jj_ic hG rfl cc_i0 ?_
        exact jj_riS hG rfl rfl rfl k
      refine jj_ic hG rfl cc_i1 ?_
      refine jj_go hG (t := 96) rfl rfl ?_
      exact jj_riS hG rfl rfl rfl k
    refine jj_ic hG rfl cc_i0 ?_
    exact jj_riS hG rfl rfl rfl k
  have b21 : ∀ (a2 : Int32) (n : Nat) (a3 : Int32) (t : moS), JJ C R base m G 21 [(0, .ref m), (1, .int p1), (2, .int a2), (3, .int a3)] [] q t kc ks (lpN (fun x => M_isAddressWithLength_s21 x.2 p1 a2 x.1) n (a3, t)) (some (r, tz)) := by
    intro a2 n
    induction n with
    | zero => intro a3 t; exact jj_lp0
    | succ n ih21 =>
      intro a3 t
      refine jj_lpS (fun y21 c21 => ?_)
      refine (show JJ C R base m G 21 [(0, .ref m), (1, .int p1), (2, .int a2), (3, .int a3)] [] q t kc ks (M_isAddressWithLength_s21 t p1 a2 a3) (some y21) from ?_)
      refine jjs hG rfl rfl ?_
      refine jjs hG rfl rfl ?_
      refine jj_ige hG (t := 43) rfl rfl ?_ ?_
      · refine jj_exit c21 ?_
        exact jj_wl hG [0, 1, 2, 3] rfl (b43 _ _ _)
      refine jjs hG rfl rfl ?_
      refine jj_gr hG (k := 2) rfl rfl rfl rfl ?_
      refine jjs hG rfl rfl ?_
      refine jj_ia hG (k := 2) rfl rfl rfl (fun x1 => ?_)
      refine jj_bi hG rfl cc_b47 ?_
      refine jj_ieq hG (t := 43) rfl rfl ?_ ?_
      · refine jj_exit c21 ?_
        exact jj_wl hG [0, 1, 2, 3] rfl (b43 _ _ _)
      refine jj_inc hG rfl (Nat.le_of_ble_eq_true rfl) rfl cc_i1 ?_
      refine jj_go hG (t := 21) rfl rfl ?_
      exact jj_back c21 (jj_wl hG [1, 2, 3, 0] rfl (ih21 _ _))
  refine (show JJ C R base m G 0 [(0, .ref m), (1, .int p1)] [] q t kc ks (M_isAddressWithLength t p1) (some (r, tz)) from ?_) hw h
  refine jjs hG rfl rfl ?_
  refine jj_gr hG (k := 9) rfl rfl rfl rfl ?_
  refine jjs hG rfl rfl ?_
  refine jj_ia hG (k := 9) rfl rfl rfl (fun x1 => ?_)
  refine jjs hG rfl rfl ?_
  refine jj_gr hG (k := 10) rfl rfl rfl rfl ?_
  refine jjs hG rfl rfl ?_
  refine jj_ia hG (k := 10) rfl rfl rfl (fun x2 => ?_)
  refine jjs hG rfl rfl ?_
  refine jjc hG rfl rfl (Nat.le_of_ble_eq_true rfl) ?_
  refine jjs hG rfl rfl ?_
  refine jj_gr hG (k := 9) rfl rfl rfl rfl ?_
  refine jjs hG rfl rfl ?_
  refine jj_ia hG (k := 9) rfl rfl rfl (fun x3 => ?_)
  refine jjc hG rfl rfl (Nat.le_of_ble_eq_true rfl) ?_
  refine jj_lp (fun n => ?_)
  exact jj_wl hG [2, 3, 1, 0] rfl (b21 _ n _ _)
noncomputable def M_isPrefixWord_b30 (t : moS) : Option (Int32 × moS) := (some ((0 : Int32), t))
noncomputable def M_isPrefixWord (t : moS) (p1 : Int32) : Option (Int32 × moS) := bn2 (M_isAddressWithLength t p1) (fun x2 s1 => (if x2 = 0 then ((M_isPrefixWord_b30 s1)) else (if (M_isPrefix (moS.Z s1 13) (moS.Z s1 14) (moS.S s1 15)) = 0 then ((M_isPrefixWord_b30 s1)) else ((some ((1 : Int32), s1))))))
set_option maxRecDepth 100000 in
set_option maxHeartbeats 4000000 in
theorem k_isPrefixWord (base : Nat) (sa : Nat → Nat) {C : Nat × Nat} {R : pmM} {m : Nat} {q : Nat → Nat} {t tz : moS} {kc ks : Nat} {Rt : pmR} {p1 : Int32} {r : Int32} (hw : mW C R base m q t kc ks) (h : M_isPrefixWord t p1 = (some (r, tz))) (k : mW C R base m q tz kc ks → Rt (some (.int r)) (moM R m q tz) kc ks) : kP_Mo_isPrefixWord base sa [.ref m, .int p1] (moM R m q t) kc ks Rt := by
  refine ⟨Nat.le_of_ble_eq_true rfl, fun G hG => ?_⟩
  have b30 : ∀ (t : moS), JJ C R base m G 30 [] [] q t kc ks (M_isPrefixWord_b30 t) (some (r, tz)) := by
    intro t
    refine jj_ic hG rfl cc_i0 ?_
    exact jj_riS hG rfl rfl rfl k
  refine (show JJ C R base m G 0 [(0, .ref m), (1, .int p1)] [] q t kc ks (M_isPrefixWord t p1) (some (r, tz)) from ?_) hw h
  refine jjs hG rfl rfl ?_
  refine jjs hG rfl rfl ?_
  refine jj_cs hG 0 rfl rfl (Nat.le_of_ble_eq_true rfl) (by decide) (Nat.le_of_ble_eq_true rfl) rfl (st' := []) rfl (w := .int) (fun _ _ _ hw h k => pm_rcv_of moM_m (k_isAddressWithLength base sa hw h k)) (fun x2 s1 => ?_)
  refine jj_zeq hG (t := 30) rfl rfl ?_ ?_
  · exact jj_wl hG [] rfl (b30 _)
  refine jjs hG rfl rfl ?_
  refine jj_gz hG (k := 13) rfl rfl rfl rfl ?_
  refine jjs hG rfl rfl ?_
  refine jj_gz hG (k := 14) rfl rfl rfl rfl ?_
  refine jjs hG rfl rfl ?_
  refine jj_gi hG (k := 15) rfl rfl rfl rfl ?_
  refine jj_ct hG 2 rfl rfl (Nat.le_of_ble_eq_true rfl) (by decide) (Nat.le_of_ble_eq_true rfl) rfl (st' := []) rfl (v := .int (M_isPrefix (moS.Z s1 13) (moS.Z s1 14) (moS.S s1 15))) (fun _ hw k => k_isPrefix base sa hw rfl k) ?_
  refine jj_zeq hG (t := 30) rfl rfl ?_ ?_
  · exact jj_wl hG [] rfl (b30 _)
  refine jj_ic hG rfl cc_i1 ?_
  refine jj_go hG (t := 31) rfl rfl ?_
  exact jj_riS hG rfl rfl rfl k
noncomputable def M_fault (t : moS) : Option (Int32 × moS) := letS (moSS t 0 (0 : Int32)) (fun s1 => ((some ((moS.S s1 4), s1))))
set_option maxRecDepth 100000 in
set_option maxHeartbeats 4000000 in
theorem k_fault (base : Nat) (sa : Nat → Nat) {C : Nat × Nat} {R : pmM} {m : Nat} {q : Nat → Nat} {t tz : moS} {kc ks : Nat} {Rt : pmR}  {r : Int32} (hw : mW C R base m q t kc ks) (h : M_fault t = (some (r, tz))) (k : mW C R base m q tz kc ks → Rt (some (.int r)) (moM R m q tz) kc ks) : kP_Mo_fault base sa [.ref m] (moM R m q t) kc ks Rt := by
  refine ⟨Nat.le_of_ble_eq_true rfl, fun G hG => ?_⟩
  refine (show JJ C R base m G 0 [(0, .ref m)] [] q t kc ks (M_fault t) (some (r, tz)) from ?_) hw h
  refine jjs hG rfl rfl ?_
  refine jj_ic hG rfl cc_i0 ?_
  refine jj_pi hG (k := 0) rfl rfl rfl rfl (fun s1 => ?_)
  refine jjs hG rfl rfl ?_
  refine jj_gi hG (k := 4) rfl rfl rfl rfl ?_
  exact jj_riS hG rfl rfl rfl k
noncomputable def M_isBlank_b12 : Int32 := (1 : Int32)
noncomputable def M_isBlank (p0 : Int32) : Int32 := if p0 = (32 : Int32) then ((M_isBlank_b12)) else (if p0 = (9 : Int32) then ((M_isBlank_b12)) else ((0 : Int32)))
set_option maxRecDepth 100000 in
set_option maxHeartbeats 4000000 in
theorem k_isBlank (base : Nat) (sa : Nat → Nat) {C : Nat × Nat} {R : pmM} {m : Nat} {q : Nat → Nat} {t : moS} {kc ks : Nat} {Rt : pmR} {p0 : Int32} {r : Int32} (hw : mW C R base m q t kc ks) (h : M_isBlank p0 = r) (k : Rt (some (.int r)) (moM R m q t) kc ks) : kP_Mo_isBlank base sa [.int p0] (moM R m q t) kc ks Rt := by
  refine ⟨Nat.le_of_ble_eq_true rfl, fun G hG => ?_⟩
  have b12 : JJ C R base m G 12 [] [] q t kc ks M_isBlank_b12 r := by
    refine jj_ic hG rfl cc_i1 ?_
    refine jj_go hG (t := 17) rfl rfl ?_
    exact jj_rit hG rfl rfl rfl k
  refine (show JJ C R base m G 0 [(0, .int p0)] [] q t kc ks (M_isBlank p0) r from ?_) hw h
  refine jjs hG rfl rfl ?_
  refine jj_bi hG rfl cc_b32 ?_
  refine jj_ieq hG (t := 12) rfl rfl ?_ ?_
  · exact jj_wl hG [] rfl (b12)
  refine jjs hG rfl rfl ?_
  refine jj_bi hG rfl cc_b9 ?_
  refine jj_ine hG (t := 16) rfl rfl ?_ ?_
  · refine jj_ic hG rfl cc_i0 ?_
    exact jj_rit hG rfl rfl rfl k
  exact jj_wl hG [] rfl (b12)
noncomputable def M_part_b74 (t : moS) (p2 : Int32) (a3 : Int32) : Option ((Int32 × moS) ⊕ moS) := Option.bind (rdI t 9 (moS.S t 11)) (fun x1 => (Option.bind (wrI t 10 (moS.S t 11) (a3 - x1)) (fun s2 => (letS (moSS s2 11 ((moS.S s2 11) + (1 : Int32))) (fun s3 => ((some (.inl (a3, s3)))))))))
noncomputable def M_part_s51 (t : moS) (p2 : Int32) (a3 : Int32) : Option ((Int32 × moS) ⊕ ((Int32 × moS) ⊕ moS)) := if a3 < p2 then (Option.bind (rdI t 2 a3) (fun x1 => (if (M_isBlank x1) = 0 then ((some (.inl ((a3 + (1 : Int32)), t)))) else ((xo (M_part_b74 t p2 a3)))))) else ((xo (M_part_b74 t p2 a3)))
noncomputable def M_part_b51 (t : moS) (p2 : Int32) (a3 : Int32) : Option ((Int32 × moS) ⊕ moS) := lp (fun x => M_part_s51 x.2 p2 x.1) (a3, t)
noncomputable def M_part_b35 (t : moS) (p2 : Int32) (a3 : Int32) : Option ((Int32 × moS) ⊕ moS) := if a3 = p2 then ((xo ((some t)))) else (Option.bind (wrI t 9 (moS.S t 11) a3) (fun s1 => ((M_part_b51 s1 p2 a3))))
noncomputable def M_part_s12 (t : moS) (p2 : Int32) (a3 : Int32) : Option ((Int32 × moS) ⊕ ((Int32 × moS) ⊕ moS)) := if a3 < p2 then (Option.bind (rdI t 2 a3) (fun x1 => (if (M_isBlank x1) = 0 then ((xo (M_part_b35 t p2 a3))) else ((some (.inl ((a3 + (1 : Int32)), t))))))) else ((xo (M_part_b35 t p2 a3)))
noncomputable def M_part_b12 (t : moS) (p2 : Int32) (a3 : Int32) : Option ((Int32 × moS) ⊕ moS) := lp (fun x => M_part_s12 x.2 p2 x.1) (a3, t)
noncomputable def M_part_s7 (t : moS) (p2 : Int32) (a3 : Int32) : Option ((Int32 × moS) ⊕ moS) := if a3 < p2 then ((M_part_b12 t p2 a3)) else ((xo ((some t))))
noncomputable def M_part_b7 (t : moS) (p2 : Int32) (a3 : Int32) : Option moS := lp (fun x => M_part_s7 x.2 p2 x.1) (a3, t)
noncomputable def M_part (t : moS) (p1 : Int32) (p2 : Int32) : Option moS := letS (moSS t 11 (0 : Int32)) (fun s1 => ((M_part_b7 s1 p2 p1)))
set_option maxRecDepth 100000 in
set_option maxHeartbeats 4000000 in
theorem k_part (base : Nat) (sa : Nat → Nat) {C : Nat × Nat} {R : pmM} {m : Nat} {q : Nat → Nat} {t tz : moS} {kc ks : Nat} {Rt : pmR} {p1 : Int32} {p2 : Int32} (hw : mW C R base m q t kc ks) (h : M_part t p1 p2 = (some tz)) (k : mW C R base m q tz kc ks → Rt none (moM R m q tz) kc ks) : kP_Mo_part base sa [.ref m, .int p1, .int p2] (moM R m q t) kc ks Rt := by
  refine ⟨Nat.le_of_ble_eq_true rfl, fun G hG => ?_⟩
  have b7 : ∀ (n : Nat) (a3 : Int32) (t : moS), JJ C R base m G 7 [(0, .ref m), (2, .int p2), (3, .int a3)] [] q t kc ks (lpN (fun x => M_part_s7 x.2 p2 x.1) n (a3, t)) (some tz) := by
    intro n
    induction n with
    | zero => intro a3 t; exact jj_lp0
    | succ n ih7 =>
      intro a3 t
      refine jj_lpS (fun y7 c7 => ?_)
      have b74 : ∀ (a3 : Int32) (t : moS), JJ C R base m G 74 [(0, .ref m), (2, .int p2), (3, .int a3)] [] q t kc ks (M_part_b74 t p2 a3) (some y7) := by
        intro a3 t
        refine jjs hG rfl rfl ?_
        refine jj_gr hG (k := 10) rfl rfl rfl rfl ?_
        refine jjs hG rfl rfl ?_
        refine jj_gi hG (k := 11) rfl rfl rfl rfl ?_
        refine jjs hG rfl rfl ?_
        refine jjs hG rfl rfl ?_
        refine jj_gr hG (k := 9) rfl rfl rfl rfl ?_
        refine jjs hG rfl rfl ?_
        refine jj_gi hG (k := 11) rfl rfl rfl rfl ?_
        refine jj_ia hG (k := 9) rfl rfl rfl (fun x1 => ?_)
        refine jjs hG rfl rfl ?_
        refine jj_is hG (k := 10) rfl rfl rfl (fun s2 => ?_)
        refine jjs hG rfl rfl ?_
        refine jjc hG rfl rfl rfl ?_
        refine jj_gi hG (k := 11) rfl rfl rfl rfl ?_
        refine jj_ic hG rfl cc_i1 ?_
        refine jjs hG rfl rfl ?_
        refine jj_pi hG (k := 11) rfl rfl rfl rfl (fun s3 => ?_)
        refine jj_go hG (t := 7) rfl rfl ?_
        exact jj_back c7 (jj_wl hG [0, 1, 2] rfl (ih7 _ _))
      have b51 : ∀ (n : Nat) (a3 : Int32) (t : moS), JJ C R base m G 51 [(0, .ref m), (2, .int p2), (3, .int a3)] [] q t kc ks (lpN (fun x => M_part_s51 x.2 p2 x.1) n (a3, t)) (some y7) := by
        intro n
        induction n with
        | zero => intro a3 t; exact jj_lp0
        | succ n ih51 =>
          intro a3 t
          refine jj_lpS (fun y51 c51 => ?_)
          refine (show JJ C R base m G 51 [(0, .ref m), (2, .int p2), (3, .int a3)] [] q t kc ks (M_part_s51 t p2 a3) (some y51) from ?_)
          refine jjs hG rfl rfl ?_
          refine jjs hG rfl rfl ?_
          refine jj_ige hG (t := 74) rfl rfl ?_ ?_
          · refine jj_exit c51 ?_
            exact jj_wl hG [0, 1, 2] rfl (b74 _ _)
          refine jjs hG rfl rfl ?_
          refine jj_gr hG (k := 2) rfl rfl rfl rfl ?_
          refine jjs hG rfl rfl ?_
          refine jj_ia hG (k := 2) rfl rfl rfl (fun x1 => ?_)
          refine jj_ct hG 2 rfl rfl (Nat.le_of_ble_eq_true rfl) (by decide) (Nat.le_of_ble_eq_true rfl) rfl (st' := []) rfl (v := .int (M_isBlank x1)) (fun _ hw k => k_isBlank base sa hw rfl k) ?_
          refine jj_zne hG (t := 74) rfl rfl ?_ ?_
          · refine jj_exit c51 ?_
            exact jj_wl hG [0, 1, 2] rfl (b74 _ _)
          refine jj_inc hG rfl (Nat.le_of_ble_eq_true rfl) rfl cc_i1 ?_
          refine jj_go hG (t := 51) rfl rfl ?_
          exact jj_back c51 (jj_wl hG [1, 2, 0] rfl (ih51 _ _))
      have b35 : ∀ (a3 : Int32) (t : moS), JJ C R base m G 35 [(0, .ref m), (2, .int p2), (3, .int a3)] [] q t kc ks (M_part_b35 t p2 a3) (some y7) := by
        intro a3 t
        refine jjs hG rfl rfl ?_
        refine jjs hG rfl rfl ?_
        refine jj_ine hG (t := 41) rfl rfl ?_ ?_
        · refine jjs hG rfl rfl ?_
          refine jj_gr hG (k := 9) rfl rfl rfl rfl ?_
          refine jjs hG rfl rfl ?_
          refine jj_gi hG (k := 11) rfl rfl rfl rfl ?_
          refine jjs hG rfl rfl ?_
          refine jj_is hG (k := 9) rfl rfl rfl (fun s1 => ?_)
          refine jj_lp (fun n => ?_)
          exact jj_wl hG [0, 1, 2] rfl (b51 n _ _)
        refine jj_exit c7 ?_
        exact jj_rvS hG rfl rfl (k)
      have b12 : ∀ (n : Nat) (a3 : Int32) (t : moS), JJ C R base m G 12 [(0, .ref m), (2, .int p2), (3, .int a3)] [] q t kc ks (lpN (fun x => M_part_s12 x.2 p2 x.1) n (a3, t)) (some y7) := by
        intro n
        induction n with
        | zero => intro a3 t; exact jj_lp0
        | succ n ih12 =>
          intro a3 t
          refine jj_lpS (fun y12 c12 => ?_)
          refine (show JJ C R base m G 12 [(0, .ref m), (2, .int p2), (3, .int a3)] [] q t kc ks (M_part_s12 t p2 a3) (some y12) from ?_)
          refine jjs hG rfl rfl ?_
          refine jjs hG rfl rfl ?_
          refine jj_ige hG (t := 35) rfl rfl ?_ ?_
          · refine jj_exit c12 ?_
            exact jj_wl hG [0, 1, 2] rfl (b35 _ _)
          refine jjs hG rfl rfl ?_
          refine jj_gr hG (k := 2) rfl rfl rfl rfl ?_
          refine jjs hG rfl rfl ?_
          refine jj_ia hG (k := 2) rfl rfl rfl (fun x1 => ?_)
          refine jj_ct hG 2 rfl rfl (Nat.le_of_ble_eq_true rfl) (by decide) (Nat.le_of_ble_eq_true rfl) rfl (st' := []) rfl (v := .int (M_isBlank x1)) (fun _ hw k => k_isBlank base sa hw rfl k) ?_
          refine jj_zeq hG (t := 35) rfl rfl ?_ ?_
          · refine jj_exit c12 ?_
            exact jj_wl hG [0, 1, 2] rfl (b35 _ _)
          refine jj_inc hG rfl (Nat.le_of_ble_eq_true rfl) rfl cc_i1 ?_
          refine jj_go hG (t := 12) rfl rfl ?_
          exact jj_back c12 (jj_wl hG [1, 2, 0] rfl (ih12 _ _))
      refine (show JJ C R base m G 7 [(0, .ref m), (2, .int p2), (3, .int a3)] [] q t kc ks (M_part_s7 t p2 a3) (some y7) from ?_)
      refine jjs hG rfl rfl ?_
      refine jjs hG rfl rfl ?_
      refine jj_ige hG (t := 107) rfl rfl ?_ ?_
      · refine jj_exit c7 ?_
        exact jj_rvS hG rfl rfl (k)
      refine jj_lp (fun n => ?_)
      exact jj_wl hG [0, 1, 2] rfl (b12 n _ _)
  refine (show JJ C R base m G 0 [(0, .ref m), (1, .int p1), (2, .int p2)] [] q t kc ks (M_part t p1 p2) (some tz) from ?_) hw h
  refine jjs hG rfl rfl ?_
  refine jj_ic hG rfl cc_i0 ?_
  refine jj_pi hG (k := 11) rfl rfl rfl rfl (fun s1 => ?_)
  refine jjs hG rfl rfl ?_
  refine jjc hG rfl rfl (Nat.le_of_ble_eq_true rfl) ?_
  refine jj_lp (fun n => ?_)
  exact jj_wl hG [1, 3, 0] rfl (b7 n _ _)
