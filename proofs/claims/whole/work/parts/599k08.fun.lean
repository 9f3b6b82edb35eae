/-! The model as functions, by program: shaBlock .. constant -/
noncomputable def M_shaBlock_b293 (t : moS) (a2 : Int32) (a3 : Int32) (a4 : Int32) (a5 : Int32) (a6 : Int32) (a7 : Int32) (a8 : Int32) (u0 : Int32) : Option ((Int32 × Int32 × Int32 × Int32 × Int32 × Int32 × moS) ⊕ moS) := Option.bind (rdI t 158 a7) (fun x1 => ((some (.inl ((((((M_turned a2 (5 : Int32)) + a8) + a6) + u0) + x1), a2, (M_turned a3 (30 : Int32)), a4, a5, (a7 + (1 : Int32)), t)))))
noncomputable def M_shaBlock_b249 (t : moS) (a2 : Int32) (a3 : Int32) (a4 : Int32) (a5 : Int32) (a6 : Int32) (a7 : Int32) (u0 : Int32) : Option ((Int32 × Int32 × Int32 × Int32 × Int32 × Int32 × moS) ⊕ moS) := if a7 < (20 : Int32) then ((M_shaBlock_b293 t a2 a3 a4 a5 a6 a7 u0 (1518500249 : Int32))) else (if a7 < (40 : Int32) then ((M_shaBlock_b293 t a2 a3 a4 a5 a6 a7 u0 (1859775393 : Int32))) else (if a7 < (60 : Int32) then ((M_shaBlock_b293 t a2 a3 a4 a5 a6 a7 u0 ((-1894007588) : Int32))) else ((M_shaBlock_b293 t a2 a3 a4 a5 a6 a7 u0 ((-899497514) : Int32)))))
noncomputable def M_shaBlock_s172 (t : moS) (a2 : Int32) (a3 : Int32) (a4 : Int32) (a5 : Int32) (a6 : Int32) (a7 : Int32) : Option ((Int32 × Int32 × Int32 × Int32 × Int32 × Int32 × moS) ⊕ moS) := if a7 < (80 : Int32) then (if a7 < (20 : Int32) then ((M_shaBlock_b249 t a2 a3 a4 a5 a6 a7 ((a3 &&& a4) ||| ((a3 ^^^ ((-1) : Int32)) &&& a5)))) else (if a7 < (40 : Int32) then ((M_shaBlock_b249 t a2 a3 a4 a5 a6 a7 ((a3 ^^^ a4) ^^^ a5))) else (if a7 < (60 : Int32) then ((M_shaBlock_b249 t a2 a3 a4 a5 a6 a7 (((a3 &&& a4) ||| (a3 &&& a5)) ||| (a4 &&& a5)))) else ((M_shaBlock_b249 t a2 a3 a4 a5 a6 a7 ((a3 ^^^ a4) ^^^ a5)))))) else ((xo (Option.bind (rdI t 159 (0 : Int32)) (fun x1 => (Option.bind (wrI t 159 (0 : Int32) (x1 + a2)) (fun s2 => (Option.bind (rdI s2 159 (1 : Int32)) (fun x3 => (Option.bind (wrI s2 159 (1 : Int32) (x3 + a3)) (fun s4 => (Option.bind (rdI s4 159 (2 : Int32)) (fun x5 => (Option.bind (wrI s4 159 (2 : Int32) (x5 + a4)) (fun s6 => (Option.bind (rdI s6 159 (3 : Int32)) (fun x7 => (Option.bind (wrI s6 159 (3 : Int32) (x7 + a5)) (fun s8 => (Option.bind (rdI s8 159 (4 : Int32)) (fun x9 => (Option.bind (wrI s8 159 (4 : Int32) (x9 + a6)) (fun s10 => ((some s10))))))))))))))))))))))))
noncomputable def M_shaBlock_b172 (t : moS) (a2 : Int32) (a3 : Int32) (a4 : Int32) (a5 : Int32) (a6 : Int32) (a7 : Int32) : Option moS := lp (fun x => M_shaBlock_s172 x.2.2.2.2.2.2 x.1 x.2.1 x.2.2.1 x.2.2.2.1 x.2.2.2.2.1 x.2.2.2.2.2.1) (a2, a3, a4, a5, a6, a7, t)
noncomputable def M_shaBlock_s71 (t : moS) (a2 : Int32) : Option ((Int32 × moS) ⊕ moS) := if a2 < (80 : Int32) then (Option.bind (rdI t 158 (a2 - (3 : Int32))) (fun x6 => (Option.bind (rdI t 158 (a2 - (8 : Int32))) (fun x7 => (Option.bind (rdI t 158 (a2 - (14 : Int32))) (fun x8 => (Option.bind (rdI t 158 (a2 - (16 : Int32))) (fun x9 => (Option.bind (wrI t 158 a2 (M_turned (((x6 ^^^ x7) ^^^ x8) ^^^ x9) (1 : Int32))) (fun s10 => ((some (.inl ((a2 + (1 : Int32)), s10)))))))))))))) else ((xo (Option.bind (rdI t 159 (0 : Int32)) (fun x1 => (Option.bind (rdI t 159 (1 : Int32)) (fun x2 => (Option.bind (rdI t 159 (2 : Int32)) (fun x3 => (Option.bind (rdI t 159 (3 : Int32)) (fun x4 => (Option.bind (rdI t 159 (4 : Int32)) (fun x5 => ((M_shaBlock_b172 t x1 x2 x3 x4 x5 (0 : Int32)))))))))))))))
noncomputable def M_shaBlock_b71 (t : moS) (a2 : Int32) : Option moS := lp (fun x => M_shaBlock_s71 x.2 x.1) (a2, t)
noncomputable def M_shaBlock_s2 (t : moS) (p1 : Int32) (a2 : Int32) : Option ((Int32 × moS) ⊕ moS) := if a2 < (16 : Int32) then (Option.bind (rdI t 157 (p1 + ((4 : Int32) * a2))) (fun x1 => (Option.bind (rdI t 157 ((p1 + ((4 : Int32) * a2)) + (1 : Int32))) (fun x2 => (Option.bind (rdI t 157 ((p1 + ((4 : Int32) * a2)) + (2 : Int32))) (fun x3 => (Option.bind (rdI t 157 ((p1 + ((4 : Int32) * a2)) + (3 : Int32))) (fun x4 => (Option.bind (wrI t 158 a2 ((((x1 <<< ((24 : Int32) &&& 31)) ||| (x2 <<< ((16 : Int32) &&& 31))) ||| (x3 <<< ((8 : Int32) &&& 31))) ||| x4)) (fun s5 => ((some (.inl ((a2 + (1 : Int32)), s5)))))))))))))) else ((xo ((M_shaBlock_b71 t (16 : Int32)))))
noncomputable def M_shaBlock_b2 (t : moS) (p1 : Int32) (a2 : Int32) : Option moS := lp (fun x => M_shaBlock_s2 x.2 p1 x.1) (a2, t)
noncomputable def M_shaBlock (t : moS) (p1 : Int32) : Option moS := (M_shaBlock_b2 t p1 (0 : Int32))
set_option maxRecDepth 100000 in
set_option maxHeartbeats 4000000 in
theorem k_shaBlock (base : Nat) (sa : Nat → Nat) {C : Nat × Nat} {R : pmM} {m : Nat} {q : Nat → Nat} {t tz : moS} {kc ks : Nat} {Rt : pmR} {p1 : Int32} (hw : mW C R base m q t kc ks) (h : M_shaBlock t p1 = (some tz)) (k : mW C R base m q tz kc ks → Rt none (moM R m q tz) kc ks) : kP_Mo_shaBlock base sa [.ref m, .int p1] (moM R m q t) kc ks Rt := by
  refine ⟨Nat.le_of_ble_eq_true rfl, fun G hG => ?_⟩
  have b172 : ∀ (n : Nat) (a2 : Int32) (a3 : Int32) (a4 : Int32) (a5 : Int32) (a6 : Int32) (a7 : Int32) (t : moS), JJ C R base m G 172 [(0, .ref m), (2, .int a2), (3, .int a3), (4, .int a4), (5, .int a5), (6, .int a6), (7, .int a7)] [] q t kc ks (lpN (fun x => M_shaBlock_s172 x.2.2.2.2.2.2 x.1 x.2.1 x.2.2.1 x.2.2.2.1 x.2.2.2.2.1 x.2.2.2.2.2.1) n (a2, a3, a4, a5, a6, a7, t)) (some tz) := by
    intro n
    induction n with
    | zero => intro a2 a3 a4 a5 a6 a7 t; exact jj_lp0
    | succ n ih172 =>
      intro a2 a3 a4 a5 a6 a7 t
      refine jj_lpS (fun y172 c172 => ?_)
      have b293 : ∀ (a2 : Int32) (a3 : Int32) (a4 : Int32) (a5 : Int32) (a6 : Int32) (a7 : Int32) (a8 : Int32) (u0 : Int32) (t : moS), JJ C R base m G 293 [(0, .ref m), (2, .int a2), (3, .int a3), (4, .int a4), (5, .int a5), (6, .int a6), (7, .int a7), (8, .int a8)] [.int u0] q t kc ks (M_shaBlock_b293 t a2 a3 a4 a5 a6 a7 a8 u0) (some y172) := by
        intro a2 a3 a4 a5 a6 a7 a8 u0 t
        refine jjc hG rfl rfl (Nat.le_of_ble_eq_true rfl) ?_
        refine jjs hG rfl rfl ?_
        refine jj_ic hG rfl cc_i5 ?_
        refine jj_ct hG 2 rfl rfl (Nat.le_of_ble_eq_true rfl) (by decide) (Nat.le_of_ble_eq_true rfl) rfl (st' := []) rfl (v := .int (M_turned a2 (5 : Int32))) (fun _ hw k => k_turned base sa hw rfl k) ?_
        refine jjs hG rfl rfl ?_
        refine jjs hG rfl rfl ?_
        refine jjs hG rfl rfl ?_
        refine jjs hG rfl rfl ?_
        refine jjs hG rfl rfl ?_
        refine jjs hG rfl rfl ?_
        refine jjs hG rfl rfl ?_
        refine jj_gr hG (k := 158) rfl rfl rfl rfl ?_
        refine jj_at (pc' := 313) rfl ?_
        refine jjs hG rfl rfl ?_
        refine jj_ia hG (k := 158) rfl rfl rfl (fun x1 => ?_)
        refine jjs hG rfl rfl ?_
        refine jjc hG rfl rfl (Nat.le_of_ble_eq_true rfl) ?_
        refine jjs hG rfl rfl ?_
        refine jjc hG rfl rfl (Nat.le_of_ble_eq_true rfl) ?_
        refine jjs hG rfl rfl ?_
        refine jjc hG rfl rfl (Nat.le_of_ble_eq_true rfl) ?_
        refine jjs hG rfl rfl ?_
        refine jj_bi hG rfl cc_b30 ?_
        refine jj_ct hG 2 rfl rfl (Nat.le_of_ble_eq_true rfl) (by decide) (Nat.le_of_ble_eq_true rfl) rfl (st' := []) rfl (v := .int (M_turned a3 (30 : Int32))) (fun _ hw k => k_turned base sa hw rfl k) ?_
        refine jjc hG rfl rfl (Nat.le_of_ble_eq_true rfl) ?_
        refine jjs hG rfl rfl ?_
        refine jjc hG rfl rfl (Nat.le_of_ble_eq_true rfl) ?_
        refine jj_at (pc' := 337) rfl ?_
        refine jjs hG rfl rfl ?_
        refine jjc hG rfl rfl (Nat.le_of_ble_eq_true rfl) ?_
        refine jj_inc hG rfl (Nat.le_of_ble_eq_true rfl) rfl cc_i1 ?_
        refine jj_go hG (t := 172) rfl rfl ?_
        exact jj_back c172 (jj_wl hG [8, 1, 2, 3, 4, 5, 0] rfl (ih172 _ _ _ _ _ _ _))
      have b249 : ∀ (a2 : Int32) (a3 : Int32) (a4 : Int32) (a5 : Int32) (a6 : Int32) (a7 : Int32) (u0 : Int32) (t : moS), JJ C R base m G 249 [(0, .ref m), (2, .int a2), (3, .int a3), (4, .int a4), (5, .int a5), (6, .int a6), (7, .int a7)] [.int u0] q t kc ks (M_shaBlock_b249 t a2 a3 a4 a5 a6 a7 u0) (some y172) := by
        intro a2 a3 a4 a5 a6 a7 u0 t
        refine jjc hG rfl rfl (Nat.le_of_ble_eq_true rfl) ?_
        refine jjs hG rfl rfl ?_
        refine jj_bi hG rfl cc_b20 ?_
        refine jj_ige hG (t := 264) rfl rfl ?_ ?_
        · refine jjs hG rfl rfl ?_
          refine jj_bi hG rfl cc_b40 ?_
          refine jj_ige hG (t := 277) rfl rfl ?_ ?_
          · refine jjs hG rfl rfl ?_
            refine jj_bi hG rfl cc_b60 ?_
            refine jj_ige hG (t := 290) rfl rfl ?_ ?_
            · refine jj_lw hG (v := ((-899497514) : Int32)) rfl rfl ?_
              exact jj_wl hG [1, 2, 3, 4, 5, 6, 7, 0] rfl (b293 _ _ _ _ _ _ _ _ _)
            refine jj_lw hG (v := ((-1894007588) : Int32)) rfl rfl ?_
            refine jj_go hG (t := 293) rfl rfl ?_
            exact jj_wl hG [1, 2, 3, 4, 5, 6, 7, 0] rfl (b293 _ _ _ _ _ _ _ _ _)
          refine jj_lw hG (v := (1859775393 : Int32)) rfl rfl ?_
          refine jj_go hG (t := 293) rfl rfl ?_
          exact jj_wl hG [1, 2, 3, 4, 5, 6, 7, 0] rfl (b293 _ _ _ _ _ _ _ _ _)
        refine jj_lw hG (v := (1518500249 : Int32)) rfl rfl ?_
        refine jj_go hG (t := 293) rfl rfl ?_
        exact jj_wl hG [1, 2, 3, 4, 5, 6, 7, 0] rfl (b293 _ _ _ _ _ _ _ _ _)
      refine (show JJ C R base m G 172 [(0, .ref m), (2, .int a2), (3, .int a3), (4, .int a4), (5, .int a5), (6, .int a6), (7, .int a7)] [] q t kc ks (M_shaBlock_s172 t a2 a3 a4 a5 a6 a7) (some y172) from ?_)
      refine jjs hG rfl rfl ?_
      refine jj_bi hG rfl cc_b80 ?_
      refine jj_ige hG (t := 346) rfl rfl ?_ ?_
      · refine jj_exit c172 ?_
        refine jjs hG rfl rfl ?_
        refine jj_gr hG (k := 159) rfl rfl rfl rfl ?_
        refine jj_ic hG rfl cc_i0 ?_
        refine jjc2 hG rfl rfl rfl rfl ?_
        refine jj_ia hG (k := 159) rfl rfl rfl (fun x1 => ?_)
        refine jjs hG rfl rfl ?_
        refine jjs hG rfl rfl ?_
        refine jj_is hG (k := 159) rfl rfl rfl (fun s2 => ?_)
        refine jjs hG rfl rfl ?_
        refine jj_gr hG (k := 159) rfl rfl rfl rfl ?_
        refine jj_ic hG rfl cc_i1 ?_
        refine jjc2 hG rfl rfl rfl rfl ?_
        refine jj_ia hG (k := 159) rfl rfl rfl (fun x3 => ?_)
        refine jjs hG rfl rfl ?_
        refine jjs hG rfl rfl ?_
        refine jj_is hG (k := 159) rfl rfl rfl (fun s4 => ?_)
        refine jjs hG rfl rfl ?_
        refine jj_gr hG (k := 159) rfl rfl rfl rfl ?_
        refine jj_ic hG rfl cc_i2 ?_
        refine jjc2 hG rfl rfl rfl rfl ?_
        refine jj_ia hG (k := 159) rfl rfl rfl (fun x5 => ?_)
        refine jjs hG rfl rfl ?_
        refine jjs hG rfl rfl ?_
        refine jj_is hG (k := 159) rfl rfl rfl (fun s6 => ?_)
        refine jjs hG rfl rfl ?_
        refine jj_gr hG (k := 159) rfl rfl rfl rfl ?_
        refine jj_ic hG rfl cc_i3 ?_
        refine jjc2 hG rfl rfl rfl rfl ?_
        refine jj_ia hG (k := 159) rfl rfl rfl (fun x7 => ?_)
        refine jjs hG rfl rfl ?_
        refine jjs hG rfl rfl ?_
        refine jj_is hG (k := 159) rfl rfl rfl (fun s8 => ?_)
        refine jjs hG rfl rfl ?_
        refine jj_gr hG (k := 159) rfl rfl rfl rfl ?_
        refine jj_ic hG rfl cc_i4 ?_
        refine jjc2 hG rfl rfl rfl rfl ?_
        refine jj_ia hG (k := 159) rfl rfl rfl (fun x9 => ?_)
        refine jjs hG rfl rfl ?_
        refine jjs hG rfl rfl ?_
        refine jj_is hG (k := 159) rfl rfl rfl (fun s10 => ?_)
        exact jj_rvS hG rfl rfl (k)
      refine jjs hG rfl rfl ?_
      refine jj_bi hG rfl cc_b20 ?_
      refine jj_ige hG (t := 200) rfl rfl ?_ ?_
      · refine jjs hG rfl rfl ?_
        refine jj_bi hG rfl cc_b40 ?_
        refine jj_ige hG (t := 217) rfl rfl ?_ ?_
        · refine jjs hG rfl rfl ?_
          refine jj_bi hG rfl cc_b60 ?_
          refine jj_ige hG (t := 242) rfl rfl ?_ ?_
          · refine jjs hG rfl rfl ?_
            refine jjs hG rfl rfl ?_
            refine jjs hG rfl rfl ?_
            refine jjs hG rfl rfl ?_
            refine jjs hG rfl rfl ?_
            exact jj_wl hG [0, 1, 2, 3, 4, 5, 6] rfl (b249 _ _ _ _ _ _ _ _)
          refine jjs hG rfl rfl ?_
          refine jjs hG rfl rfl ?_
          refine jjs hG rfl rfl ?_
          refine jjs hG rfl rfl ?_
          refine jjs hG rfl rfl ?_
          refine jjs hG rfl rfl ?_
          refine jjs hG rfl rfl ?_
          refine jjs hG rfl rfl ?_
          refine jjs hG rfl rfl ?_
          refine jjs hG rfl rfl ?_
          refine jjs hG rfl rfl ?_
          refine jj_go hG (t := 249) rfl rfl ?_
          exact jj_wl hG [0, 1, 2, 3, 4, 5, 6] rfl (b249 _ _ _ _ _ _ _ _)
        refine jjs hG rfl rfl ?_
        refine jjs hG rfl rfl ?_
        refine jjs hG rfl rfl ?_
        refine jjs hG rfl rfl ?_
        refine jjs hG rfl rfl ?_
        refine jj_go hG (t := 249) rfl rfl ?_
        exact jj_wl hG [0, 1, 2, 3, 4, 5, 6] rfl (b249 _ _ _ _ _ _ _ _)
      refine jjs hG rfl rfl ?_
      refine jjs hG rfl rfl ?_
      refine jjs hG rfl rfl ?_
      refine jjs hG rfl rfl ?_
      refine jj_ic hG rfl cc_im1 ?_
      refine jjs hG rfl rfl ?_
      refine jjs hG rfl rfl ?_
      refine jjs hG rfl rfl ?_
      refine jjs hG rfl rfl ?_
      refine jj_go hG (t := 249) rfl rfl ?_
      exact jj_wl hG [0, 1, 2, 3, 4, 5, 6] rfl (b249 _ _ _ _ _ _ _ _)
  have b71 : ∀ (n : Nat) (a2 : Int32) (t : moS), JJ C R base m G 71 [(0, .ref m), (2, .int a2)] [] q t kc ks (lpN (fun x => M_shaBlock_s71 x.2 x.1) n (a2, t)) (some tz) := by
    intro n
    induction n with
    | zero => intro a2 t; exact jj_lp0
    | succ n ih71 =>
      intro a2 t
      refine jj_lpS (fun y71 c71 => ?_)
      refine (show JJ C R base m G 71 [(0, .ref m), (2, .int a2)] [] q t kc ks (M_shaBlock_s71 t a2) (some y71) from ?_)
      refine jjs hG rfl rfl ?_
      refine jj_bi hG rfl cc_b80 ?_
      refine jj_ige hG (t := 131) rfl rfl ?_ ?_
      · refine jj_exit c71 ?_
        refine jjs hG rfl rfl ?_
        refine jj_gr hG (k := 159) rfl rfl rfl rfl ?_
        refine jj_ic hG rfl cc_i0 ?_
        refine jj_ia hG (k := 159) rfl rfl rfl (fun x1 => ?_)
        refine jjc hG rfl rfl (Nat.le_of_ble_eq_true rfl) ?_
        refine jjs hG rfl rfl ?_
        refine jj_gr hG (k := 159) rfl rfl rfl rfl ?_
        refine jj_ic hG rfl cc_i1 ?_
        refine jj_ia hG (k := 159) rfl rfl rfl (fun x2 => ?_)
        refine jjc hG rfl rfl (Nat.le_of_ble_eq_true rfl) ?_
        refine jjs hG rfl rfl ?_
        refine jj_gr hG (k := 159) rfl rfl rfl rfl ?_
        refine jj_ic hG rfl cc_i2 ?_
        refine jj_ia hG (k := 159) rfl rfl rfl (fun x3 => ?_)
        refine jjc hG rfl rfl (Nat.le_of_ble_eq_true rfl) ?_
        refine jjs hG rfl rfl ?_
        refine jj_gr hG (k := 159) rfl rfl rfl rfl ?_
        refine jj_ic hG rfl cc_i3 ?_
        refine jj_ia hG (k := 159) rfl rfl rfl (fun x4 => ?_)
        refine jjc hG rfl rfl (Nat.le_of_ble_eq_true rfl) ?_
        refine jjs hG rfl rfl ?_
        refine jj_gr hG (k := 159) rfl rfl rfl rfl ?_
        refine jj_ic hG rfl cc_i4 ?_
        refine jj_ia hG (k := 159) rfl rfl rfl (fun x5 => ?_)
        refine jjc hG rfl rfl (Nat.le_of_ble_eq_true rfl) ?_
        refine jj_ic hG rfl cc_i0 ?_
        refine jjc hG rfl rfl (Nat.le_of_ble_eq_true rfl) ?_
        refine jj_lp (fun n => ?_)
        exact jj_wl hG [6, 5, 4, 3, 2, 1, 0] rfl (b172 n _ _ _ _ _ _ _)
      refine jjs hG rfl rfl ?_
      refine jj_gr hG (k := 158) rfl rfl rfl rfl ?_
      refine jjs hG rfl rfl ?_
      refine jjs hG rfl rfl ?_
      refine jj_gr hG (k := 158) rfl rfl rfl rfl ?_
      refine jjs hG rfl rfl ?_
      refine jj_ic hG rfl cc_i3 ?_
      refine jjs hG rfl rfl ?_
      refine jj_ia hG (k := 158) rfl rfl rfl (fun x6 => ?_)
      refine jjs hG rfl rfl ?_
      refine jj_gr hG (k := 158) rfl rfl rfl rfl ?_
      refine jjs hG rfl rfl ?_
      refine jj_bi hG rfl cc_b8 ?_
      refine jjs hG rfl rfl ?_
      refine jj_ia hG (k := 158) rfl rfl rfl (fun x7 => ?_)
      refine jjs hG rfl rfl ?_
      refine jjs hG rfl rfl ?_
      refine jj_gr hG (k := 158) rfl rfl rfl rfl ?_
      refine jjs hG rfl rfl ?_
      refine jj_bi hG rfl cc_b14 ?_
      refine jjs hG rfl rfl ?_
      refine jj_ia hG (k := 158) rfl rfl rfl (fun x8 => ?_)
      refine jjs hG rfl rfl ?_
      refine jjs hG rfl rfl ?_
      refine jj_gr hG (k := 158) rfl rfl rfl rfl ?_
      refine jjs hG rfl rfl ?_
      refine jj_bi hG rfl cc_b16 ?_
      refine jjs hG rfl rfl ?_
      refine jj_ia hG (k := 158) rfl rfl rfl (fun x9 => ?_)
      refine jjs hG rfl rfl ?_
      refine jj_ic hG rfl cc_i1 ?_
      refine jj_ct hG 2 rfl rfl (Nat.le_of_ble_eq_true rfl) (by decide) (Nat.le_of_ble_eq_true rfl) rfl (st' := [.int a2, .ref (q 158)]) rfl (v := .int (M_turned (((x6 ^^^ x7) ^^^ x8) ^^^ x9) (1 : Int32))) (fun _ hw k => k_turned base sa hw rfl k) ?_
      refine jj_is hG (k := 158) rfl rfl rfl (fun s10 => ?_)
      refine jj_inc hG rfl (Nat.le_of_ble_eq_true rfl) rfl cc_i1 ?_
      refine jj_go hG (t := 71) rfl rfl ?_
      exact jj_back c71 (jj_wl hG [1, 0] rfl (ih71 _ _))
  have b2 : ∀ (n : Nat) (a2 : Int32) (t : moS), JJ C R base m G 2 [(0, .ref m), (1, .int p1), (2, .int a2)] [] q t kc ks (lpN (fun x => M_shaBlock_s2 x.2 p1 x.1) n (a2, t)) (some tz) := by
    intro n
    induction n with
    | zero => intro a2 t; exact jj_lp0
    | succ n ih2 =>
      intro a2 t
      refine jj_lpS (fun y2 c2 => ?_)
      refine (show JJ C R base m G 2 [(0, .ref m), (1, .int p1), (2, .int a2)] [] q t kc ks (M_shaBlock_s2 t p1 a2) (some y2) from ?_)
      refine jjs hG rfl rfl ?_
      refine jj_bi hG rfl cc_b16 ?_
      refine jj_ige hG (t := 68) rfl rfl ?_ ?_
      · refine jj_exit c2 ?_
        refine jj_bi hG rfl cc_b16 ?_
        refine jjc hG rfl rfl (Nat.le_of_ble_eq_true rfl) ?_
        refine jj_lp (fun n => ?_)
        exact jj_wl hG [1, 0] rfl (b71 n _ _)
      refine jjs hG rfl rfl ?_
      refine jj_ic hG rfl cc_i4 ?_
      refine jjs hG rfl rfl ?_
      refine jjs hG rfl rfl ?_
      refine jjs hG rfl rfl ?_
      refine jjc hG rfl rfl (Nat.le_of_ble_eq_true rfl) ?_
      refine jjs hG rfl rfl ?_
      refine jj_gr hG (k := 158) rfl rfl rfl rfl ?_
      refine jjs hG rfl rfl ?_
      refine jjs hG rfl rfl ?_
      refine jj_gr hG (k := 157) rfl rfl rfl rfl ?_
      refine jjs hG rfl rfl ?_
      refine jj_at (pc' := 24) rfl ?_
      refine jj_ia hG (k := 157) rfl rfl rfl (fun x1 => ?_)
      refine jj_bi hG rfl cc_b24 ?_
      refine jjs hG rfl rfl ?_
      refine jjs hG rfl rfl ?_
      refine jj_gr hG (k := 157) rfl rfl rfl rfl ?_
      refine jjs hG rfl rfl ?_
      refine jj_ic hG rfl cc_i1 ?_
      refine jjs hG rfl rfl ?_
      refine jj_ia hG (k := 157) rfl rfl rfl (fun x2 => ?_)
      refine jj_bi hG rfl cc_b16 ?_
      refine jjs hG rfl rfl ?_
      refine jjs hG rfl rfl ?_
      refine jjs hG rfl rfl ?_
      refine jj_gr hG (k := 157) rfl rfl rfl rfl ?_
      refine jjs hG rfl rfl ?_
      refine jj_ic hG rfl cc_i2 ?_
      refine jjs hG rfl rfl ?_
      refine jj_ia hG (k := 157) rfl rfl rfl (fun x3 => ?_)
      refine jj_bi hG rfl cc_b8 ?_
      refine jjs hG rfl rfl ?_
      refine jjs hG rfl rfl ?_
      refine jjs hG rfl rfl ?_
      refine jj_gr hG (k := 157) rfl rfl rfl rfl ?_
      refine jjs hG rfl rfl ?_
      refine jj_ic hG rfl cc_i3 ?_
      refine jjs hG rfl rfl ?_
      refine jj_ia hG (k := 157) rfl rfl rfl (fun x4 => ?_)
      refine jjs hG rfl rfl ?_
      refine jj_is hG (k := 158) rfl rfl rfl (fun s5 => ?_)
      refine jj_inc hG rfl (Nat.le_of_ble_eq_true rfl) rfl cc_i1 ?_
      refine jj_go hG (t := 2) rfl rfl ?_
      exact jj_back c2 (jj_wl hG [2, 3, 0] rfl (ih2 _ _))
  refine (show JJ C R base m G 0 [(0, .ref m), (1, .int p1)] [] q t kc ks (M_shaBlock t p1) (some tz) from ?_) hw h
  refine jj_ic hG rfl cc_i0 ?_
  refine jjc hG rfl rfl (Nat.le_of_ble_eq_true rfl) ?_
  refine jj_lp (fun n => ?_)
  exact jj_wl hG [1, 2, 0] rfl (b2 n _ _)
noncomputable def M_constant (p0 : Int32) : Int32 := if Int32.toInt p0 < 0 ∨ 62 < Int32.toInt p0 then (((-343485551) : Int32)) else (List.getD [(((-680876936) : Int32)), (((-389564586) : Int32)), ((606105819 : Int32)), (((-1044525330) : Int32)), (((-176418897) : Int32)), ((1200080426 : Int32)), (((-1473231341) : Int32)), (((-45705983) : Int32)), ((1770035416 : Int32)), (((-1958414417) : Int32)), (((-42063) : Int32)), (((-1990404162) : Int32)), ((1804603682 : Int32)), (((-40341101) : Int32)), (((-1502002290) : Int32)), ((1236535329 : Int32)), (((-165796510) : Int32)), (((-1069501632) : Int32)), ((643717713 : Int32)), (((-373897302) : Int32)), (((-701558691) : Int32)), ((38016083 : Int32)), (((-660478335) : Int32)), (((-405537848) : Int32)), ((568446438 : Int32)), (((-1019803690) : Int32)), (((-187363961) : Int32)), ((1163531501 : Int32)), (((-1444681467) : Int32)), (((-51403784) : Int32)), ((1735328473 : Int32)), (((-1926607734) : Int32)), (((-378558) : Int32)), (((-2022574463) : Int32)), ((1839030562 : Int32)), (((-35309556) : Int32)), (((-1530992060) : Int32)), ((1272893353 : Int32)), (((-155497632) : Int32)), (((-1094730640) : Int32)), ((681279174 : Int32)), (((-358537222) : Int32)), (((-722521979) : Int32)), ((76029189 : Int32)), (((-640364487) : Int32)), (((-421815835) : Int32)), ((530742520 : Int32)), (((-995338651) : Int32)), (((-198630844) : Int32)), ((1126891415 : Int32)), (((-1416354905) : Int32)), (((-57434055) : Int32)), ((1700485571 : Int32)), (((-1894986606) : Int32)), (((-1051523) : Int32)), (((-2054922799) : Int32)), ((1873313359 : Int32)), (((-30611744) : Int32)), (((-1560198380) : Int32)), ((1309151649 : Int32)), (((-145523070) : Int32)), (((-1120210379) : Int32)), ((718787259 : Int32))] (Int.toNat (Int32.toInt p0 - 0)) (((-680876936) : Int32)))
set_option maxRecDepth 100000 in
set_option maxHeartbeats 4000000 in
theorem k_constant (base : Nat) (sa : Nat → Nat) {C : Nat × Nat} {R : pmM} {m : Nat} {q : Nat → Nat} {t : moS} {kc ks : Nat} {Rt : pmR} {p0 : Int32} {r : Int32} (hw : mW C R base m q t kc ks) (h : M_constant p0 = r) (k : Rt (some (.int r)) (moM R m q t) kc ks) : kP_Mo_constant base sa [.int p0] (moM R m q t) kc ks Rt := by
  refine ⟨Nat.le_of_ble_eq_true rfl, fun G hG => ?_⟩
  refine (show JJ C R base m G 0 [(0, .int p0)] [] q t kc ks (M_constant p0) r from ?_) hw h
  refine jjs hG rfl rfl ?_
  refine jj_ts hG (td := 520) (n := 63) rfl rfl (by decide) ?_ (fun j hj => ?_)
  · refine jj_lw hG (v := ((-343485551) : Int32)) rfl rfl ?_
    exact jj_rit hG rfl rfl rfl k
  match j, hj with
  | 0, _ =>
    refine ⟨267, 268, rfl, rfl, ?_⟩
    refine jj_lw hG (v := ((-680876936) : Int32)) rfl rfl ?_
    exact jj_rit hG rfl rfl rfl k
  | 1, _ =>
    refine ⟨271, 272, rfl, rfl, ?_⟩
    refine jj_lw hG (v := ((-389564586) : Int32)) rfl rfl ?_
    exact jj_rit hG rfl rfl rfl k
  | 2, _ =>
    refine ⟨275, 276, rfl, rfl, ?_⟩
    refine jj_lw hG (v := (606105819 : Int32)) rfl rfl ?_
    exact jj_rit hG rfl rfl rfl k
  | 3, _ =>
    refine ⟨279, 280, rfl, rfl, ?_⟩
    refine jj_lw hG (v := ((-1044525330) : Int32)) rfl rfl ?_
    exact jj_rit hG rfl rfl rfl k
  | 4, _ =>
    refine ⟨283, 284, rfl, rfl, ?_⟩
    refine jj_lw hG (v := ((-176418897) : Int32)) rfl rfl ?_
    exact jj_rit hG rfl rfl rfl k
  | 5, _ =>
    refine ⟨287, 288, rfl, rfl, ?_⟩
    refine jj_lw hG (v := (1200080426 : Int32)) rfl rfl ?_
    exact jj_rit hG rfl rfl rfl k
  | 6, _ =>
    refine ⟨291, 292, rfl, rfl, ?_⟩
    refine jj_lw hG (v := ((-1473231341) : Int32)) rfl rfl ?_
    exact jj_rit hG rfl rfl rfl k
  | 7, _ =>
    refine ⟨295, 296, rfl, rfl, ?_⟩
    refine jj_lw hG (v := ((-45705983) : Int32)) rfl rfl ?_
    exact jj_rit hG rfl rfl rfl k
  | 8, _ =>
    refine ⟨299, 300, rfl, rfl, ?_⟩
    refine jj_lw hG (v := (1770035416 : Int32)) rfl rfl ?_
    exact jj_rit hG rfl rfl rfl k
  | 9, _ =>
    refine ⟨303, 304, rfl, rfl, ?_⟩
    refine jj_lw hG (v := ((-1958414417) : Int32)) rfl rfl ?_
    exact jj_rit hG rfl rfl rfl k
  | 10, _ =>
    refine ⟨307, 308, rfl, rfl, ?_⟩
    refine jj_lw hG (v := ((-42063) : Int32)) rfl rfl ?_
    exact jj_rit hG rfl rfl rfl k
  | 11, _ =>
    refine ⟨311, 312, rfl, rfl, ?_⟩
    refine jj_lw hG (v := ((-1990404162) : Int32)) rfl rfl ?_
    exact jj_rit hG rfl rfl rfl k
  | 12, _ =>
    refine ⟨315, 316, rfl, rfl, ?_⟩
    refine jj_lw hG (v := (1804603682 : Int32)) rfl rfl ?_
    exact jj_rit hG rfl rfl rfl k
  | 13, _ =>
    refine ⟨319, 320, rfl, rfl, ?_⟩
    refine jj_lw hG (v := ((-40341101) : Int32)) rfl rfl ?_
    exact jj_rit hG rfl rfl rfl k
  | 14, _ =>
    refine ⟨323, 324, rfl, rfl, ?_⟩
    refine jj_lw hG (v := ((-1502002290) : Int32)) rfl rfl ?_
    exact jj_rit hG rfl rfl rfl k
  | 15, _ =>
    refine ⟨327, 328, rfl, rfl, ?_⟩
    refine jj_lw hG (v := (1236535329 : Int32)) rfl rfl ?_
    exact jj_rit hG rfl rfl rfl k
  | 16, _ =>
    refine ⟨331, 332, rfl, rfl, ?_⟩
    refine jj_lw hG (v := ((-165796510) : Int32)) rfl rfl ?_
    exact jj_rit hG rfl rfl rfl k
  | 17, _ =>
    refine ⟨335, 336, rfl, rfl, ?_⟩
    refine jj_lw hG (v := ((-1069501632) : Int32)) rfl rfl ?_
    exact jj_rit hG rfl rfl rfl k
  | 18, _ =>
    refine ⟨339, 340, rfl, rfl, ?_⟩
    refine jj_lw hG (v := (643717713 : Int32)) rfl rfl ?_
    exact jj_rit hG rfl rfl rfl k
  | 19, _ =>
    refine ⟨343, 344, rfl, rfl, ?_⟩
    refine jj_lw hG (v := ((-373897302) : Int32)) rfl rfl ?_
    exact jj_rit hG rfl rfl rfl k
  | 20, _ =>
    refine ⟨347, 348, rfl, rfl, ?_⟩
    refine jj_lw hG (v := ((-701558691) : Int32)) rfl rfl ?_
    exact jj_rit hG rfl rfl rfl k
  | 21, _ =>
    refine ⟨351, 352, rfl, rfl, ?_⟩
    refine jj_lw hG (v := (38016083 : Int32)) rfl rfl ?_
    exact jj_rit hG rfl rfl rfl k
  | 22, _ =>
    refine ⟨355, 356, rfl, rfl, ?_⟩
    refine jj_lw hG (v := ((-660478335) : Int32)) rfl rfl ?_
    exact jj_rit hG rfl rfl rfl k
  | 23, _ =>
    refine ⟨359, 360, rfl, rfl, ?_⟩
    refine jj_lw hG (v := ((-405537848) : Int32)) rfl rfl ?_
    exact jj_rit hG rfl rfl rfl k
  | 24, _ =>
    refine ⟨363, 364, rfl, rfl, ?_⟩
    refine jj_lw hG (v := (568446438 : Int32)) rfl rfl ?_
    exact jj_rit hG rfl rfl rfl k
  | 25, _ =>
    refine ⟨367, 368, rfl, rfl, ?_⟩
    refine jj_lw hG (v := ((-1019803690) : Int32)) rfl rfl ?_
    exact jj_rit hG rfl rfl rfl k
  | 26, _ =>
    refine ⟨371, 372, rfl, rfl, ?_⟩
    refine jj_lw hG (v := ((-187363961) : Int32)) rfl rfl ?_
    exact jj_rit hG rfl rfl rfl k
  | 27, _ =>
    refine ⟨375, 376, rfl, rfl, ?_⟩
    refine jj_lw hG (v := (1163531501 : Int32)) rfl rfl ?_
    exact jj_rit hG rfl rfl rfl k
  | 28, _ =>
    refine ⟨379, 380, rfl, rfl, ?_⟩
    refine jj_lw hG (v := ((-1444681467) : Int32)) rfl rfl ?_
    exact jj_rit hG rfl rfl rfl k
  | 29, _ =>
    refine ⟨383, 384, rfl, rfl, ?_⟩
    refine jj_lw hG (v := ((-51403784) : Int32)) rfl rfl ?_
    exact jj_rit hG rfl rfl rfl k
  | 30, _ =>
    refine ⟨387, 388, rfl, rfl, ?_⟩
    refine jj_lw hG (v := (1735328473 : Int32)) rfl rfl ?_
    exact jj_rit hG rfl rfl rfl k
  | 31, _ =>
    refine ⟨391, 392, rfl, rfl, ?_⟩
    refine jj_lw hG (v := ((-1926607734) : Int32)) rfl rfl ?_
    exact jj_rit hG rfl rfl rfl k
  | 32, _ =>
    refine ⟨395, 396, rfl, rfl, ?_⟩
    refine jj_lw hG (v := ((-378558) : Int32)) rfl rfl ?_
    exact jj_rit hG rfl rfl rfl k
  | 33, _ =>
    refine ⟨399, 400, rfl, rfl, ?_⟩
    refine jj_lw hG (v := ((-2022574463) : Int32)) rfl rfl ?_
    exact jj_rit hG rfl rfl rfl k
  | 34, _ =>
    refine ⟨403, 404, rfl, rfl, ?_⟩
    refine jj_lw hG (v := (1839030562 : Int32)) rfl rfl ?_
    exact jj_rit hG rfl rfl rfl k
  | 35, _ =>
    refine ⟨407, 408, rfl, rfl, ?_⟩
    refine jj_lw hG (v := ((-35309556) : Int32)) rfl rfl ?_
    exact jj_rit hG rfl rfl rfl k
  | 36, _ =>
    refine ⟨411, 412, rfl, rfl, ?_⟩
    refine jj_lw hG (v := ((-1530992060) : Int32)) rfl rfl ?_
    exact jj_rit hG rfl rfl rfl k
  | 37, _ =>
    refine ⟨415, 416, rfl, rfl, ?_⟩
    refine jj_lw hG (v := (1272893353 : Int32)) rfl rfl ?_
    exact jj_rit hG rfl rfl rfl k
  | 38, _ =>
    refine ⟨419, 420, rfl, rfl, ?_⟩
    refine jj_lw hG (v := ((-155497632) : Int32)) rfl rfl ?_
    exact jj_rit hG rfl rfl rfl k
  | 39, _ =>
    refine ⟨423, 424, rfl, rfl, ?_⟩
    refine jj_lw hG (v := ((-1094730640) : Int32)) rfl rfl ?_
    exact jj_rit hG rfl rfl rfl k
  | 40, _ =>
    refine ⟨427, 428, rfl, rfl, ?_⟩
    refine jj_lw hG (v := (681279174 : Int32)) rfl rfl ?_
    exact jj_rit hG rfl rfl rfl k
  | 41, _ =>
    refine ⟨431, 432, rfl, rfl, ?_⟩
    refine jj_lw hG (v := ((-358537222) : Int32)) rfl rfl ?_
    exact jj_rit hG rfl rfl rfl k
  | 42, _ =>
    refine ⟨435, 436, rfl, rfl, ?_⟩
    refine jj_lw hG (v := ((-722521979) : Int32)) rfl rfl ?_
    exact jj_rit hG rfl rfl rfl k
  | 43, _ =>
    refine ⟨439, 440, rfl, rfl, ?_⟩
    refine jj_lw hG (v := (76029189 : Int32)) rfl rfl ?_
    exact jj_rit hG rfl rfl rfl k
  | 44, _ =>
    refine ⟨443, 444, rfl, rfl, ?_⟩
    refine jj_lw hG (v := ((-640364487) : Int32)) rfl rfl ?_
    exact jj_rit hG rfl rfl rfl k
  | 45, _ =>
    refine ⟨447, 448, rfl, rfl, ?_⟩
    refine jj_lw hG (v := ((-421815835) : Int32)) rfl rfl ?_
    exact jj_rit hG rfl rfl rfl k
  | 46, _ =>
    refine ⟨451, 452, rfl, rfl, ?_⟩
    refine jj_lw hG (v := (530742520 : Int32)) rfl rfl ?_
    exact jj_rit hG rfl rfl rfl k
  | 47, _ =>
    refine ⟨455, 456, rfl, rfl, ?_⟩
    refine jj_lw hG (v := ((-995338651) : Int32)) rfl rfl ?_
    exact jj_rit hG rfl rfl rfl k
  | 48, _ =>
    refine ⟨459, 460, rfl, rfl, ?_⟩
    refine jj_lw hG (v := ((-198630844) : Int32)) rfl rfl ?_
    exact jj_rit hG rfl rfl rfl k
  | 49, _ =>
    refine ⟨463, 464, rfl, rfl, ?_⟩
    refine jj_lw hG (v := (1126891415 : Int32)) rfl rfl ?_
    exact jj_rit hG rfl rfl rfl k
  | 50, _ =>
    refine ⟨467, 468, rfl, rfl, ?_⟩
    refine jj_lw hG (v := ((-1416354905) : Int32)) rfl rfl ?_
    exact jj_rit hG rfl rfl rfl k
  | 51, _ =>
    refine ⟨471, 472, rfl, rfl, ?_⟩
    refine jj_lw hG (v := ((-57434055) : Int32)) rfl rfl ?_
    exact jj_rit hG rfl rfl rfl k
  | 52, _ =>
    refine ⟨475, 476, rfl, rfl, ?_⟩
    refine jj_lw hG (v := (1700485571 : Int32)) rfl rfl ?_
    exact jj_rit hG rfl rfl rfl k
  | 53, _ =>
    refine ⟨479, 480, rfl, rfl, ?_⟩
    refine jj_lw hG (v := ((-1894986606) : Int32)) rfl rfl ?_
    exact jj_rit hG rfl rfl rfl k
  | 54, _ =>
    refine ⟨483, 484, rfl, rfl, ?_⟩
    refine jj_lw hG (v := ((-1051523) : Int32)) rfl rfl ?_
    exact jj_rit hG rfl rfl rfl k
  | 55, _ =>
    refine ⟨487, 488, rfl, rfl, ?_⟩
    refine jj_lw hG (v := ((-2054922799) : Int32)) rfl rfl ?_
    exact jj_rit hG rfl rfl rfl k
  | 56, _ =>
    refine ⟨491, 492, rfl, rfl, ?_⟩
    refine jj_lw hG (v := (1873313359 : Int32)) rfl rfl ?_
    exact jj_rit hG rfl rfl rfl k
  | 57, _ =>
    refine ⟨495, 496, rfl, rfl, ?_⟩
    refine jj_lw hG (v := ((-30611744) : Int32)) rfl rfl ?_
    exact jj_rit hG rfl rfl rfl k
  | 58, _ =>
    refine ⟨499, 500, rfl, rfl, ?_⟩
    refine jj_lw hG (v := ((-1560198380) : Int32)) rfl rfl ?_
    exact jj_rit hG rfl rfl rfl k
  | 59, _ =>
    refine ⟨503, 504, rfl, rfl, ?_⟩
    refine jj_lw hG (v := (1309151649 : Int32)) rfl rfl ?_
    exact jj_rit hG rfl rfl rfl k
  | 60, _ =>
    refine ⟨507, 508, rfl, rfl, ?_⟩
    refine jj_lw hG (v := ((-145523070) : Int32)) rfl rfl ?_
    exact jj_rit hG rfl rfl rfl k
  | 61, _ =>
    refine ⟨511, 512, rfl, rfl, ?_⟩
    refine jj_lw hG (v := ((-1120210379) : Int32)) rfl rfl ?_
    exact jj_rit hG rfl rfl rfl k
  | 62, _ =>
    refine ⟨515, 516, rfl, rfl, ?_⟩
    refine jj_lw hG (v := (718787259 : Int32)) rfl rfl ?_
    exact jj_rit hG rfl rfl rfl k
  | n + 63, h => exact absurd h (by omega)
