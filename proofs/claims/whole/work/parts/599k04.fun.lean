/-! The model as functions, by program: haveRoom .. staticOf -/
noncomputable def M_haveRoom_b152 (t : moS) (p1 : Int32) (p2 : Int32) (p3 : Int32) (p4 : Int32) (a5 : Int32) (a6 : Int32) (a7 : Int32) (a8 : Int32) (a9 : Int32) (a11 : Int32) (u0 : Int32) : Option ((Int32 × Int32) ⊕ ((Int32 × Int32 × Int32 × Int32) ⊕ Int32)) := (some (.inl (u0, (a11 + (1 : Int32)))))
noncomputable def M_haveRoom_b147 (t : moS) (p1 : Int32) (p2 : Int32) (p3 : Int32) (p4 : Int32) (a5 : Int32) (a6 : Int32) (a7 : Int32) (a8 : Int32) (a9 : Int32) (a11 : Int32) : Option ((Int32 × Int32) ⊕ ((Int32 × Int32 × Int32 × Int32) ⊕ Int32)) := (M_haveRoom_b152 t p1 p2 p3 p4 a5 a6 a7 a8 a9 a11 (1 : Int32))
noncomputable def M_haveRoom_b198 (t : moS) (p1 : Int32) (p2 : Int32) (p3 : Int32) (p4 : Int32) (a5 : Int32) (a6 : Int32) (a7 : Int32) (a8 : Int32) : Option ((Int32 × Int32 × Int32 × Int32) ⊕ Int32) := (some (.inl (a5, a6, a7, (a8 + (1 : Int32)))))
noncomputable def M_haveRoom_b188 (t : moS) (p1 : Int32) (p2 : Int32) (p3 : Int32) (p4 : Int32) (a5 : Int32) (a6 : Int32) (a8 : Int32) (u0 : Int32) : Option ((Int32 × Int32 × Int32 × Int32) ⊕ Int32) := if (4 : Int32) < a6 then ((xo ((some (0 : Int32))))) else ((M_haveRoom_b198 t p1 p2 p3 p4 a5 a6 u0 a8))
noncomputable def M_haveRoom_b172 (t : moS) (p1 : Int32) (p2 : Int32) (p3 : Int32) (p4 : Int32) (a5 : Int32) (a7 : Int32) (a8 : Int32) (a9 : Int32) (u0 : Int32) (u1 : Int32) : Option ((Int32 × Int32 × Int32 × Int32) ⊕ Int32) := if a7 = ((-1) : Int32) then ((M_haveRoom_b188 t p1 p2 p3 p4 a5 (u0 + u1) a8 a9)) else ((M_haveRoom_b188 t p1 p2 p3 p4 a5 (u0 + u1) a8 a7))
noncomputable def M_haveRoom_b160 (t : moS) (p1 : Int32) (p2 : Int32) (p3 : Int32) (p4 : Int32) (a5 : Int32) (a6 : Int32) (a7 : Int32) (a8 : Int32) (a9 : Int32) (a10 : Int32) : Option ((Int32 × Int32 × Int32 × Int32) ⊕ Int32) := if a10 = 0 then ((M_haveRoom_b172 t p1 p2 p3 p4 a5 a7 a8 a9 a6 (1 : Int32))) else ((M_haveRoom_b172 t p1 p2 p3 p4 a5 a7 a8 a9 a6 (0 : Int32)))
noncomputable def M_haveRoom_s110 (t : moS) (p1 : Int32) (p2 : Int32) (p3 : Int32) (p4 : Int32) (a5 : Int32) (a6 : Int32) (a7 : Int32) (a8 : Int32) (a9 : Int32) (a10 : Int32) (a11 : Int32) : Option ((Int32 × Int32) ⊕ ((Int32 × Int32 × Int32 × Int32) ⊕ Int32)) := if a5 = 0 then ((xo (M_haveRoom_b160 t p1 p2 p3 p4 a5 a6 a7 a8 a9 a10))) else (Option.bind (rdI t 82 p1) (fun x1 => (if a11 < x1 then (if a10 = 0 then (Option.bind (rdI t 83 (((4 : Int32) * p1) + a11)) (fun x2 => (if x2 = a9 then ((M_haveRoom_b147 t p1 p2 p3 p4 a5 a6 a7 a8 a9 a11)) else ((M_haveRoom_b152 t p1 p2 p3 p4 a5 a6 a7 a8 a9 a11 (0 : Int32)))))) else ((M_haveRoom_b147 t p1 p2 p3 p4 a5 a6 a7 a8 a9 a11))) else ((xo (M_haveRoom_b160 t p1 p2 p3 p4 a5 a6 a7 a8 a9 a10))))))
noncomputable def M_haveRoom_b110 (t : moS) (p1 : Int32) (p2 : Int32) (p3 : Int32) (p4 : Int32) (a5 : Int32) (a6 : Int32) (a7 : Int32) (a8 : Int32) (a9 : Int32) (a10 : Int32) (a11 : Int32) : Option ((Int32 × Int32 × Int32 × Int32) ⊕ Int32) := lp (fun x => M_haveRoom_s110 t p1 p2 p3 p4 a5 a6 a7 a8 a9 x.1 x.2) (a10, a11)
noncomputable def M_haveRoom_b105 (t : moS) (p1 : Int32) (p2 : Int32) (p3 : Int32) (p4 : Int32) (a5 : Int32) (a6 : Int32) (a7 : Int32) (a8 : Int32) (a9 : Int32) (u0 : Int32) : Option ((Int32 × Int32 × Int32 × Int32) ⊕ Int32) := (M_haveRoom_b110 t p1 p2 p3 p4 a5 a6 a7 a8 a9 u0 (0 : Int32))
noncomputable def M_haveRoom_b85 (t : moS) (p1 : Int32) (p2 : Int32) (p3 : Int32) (p4 : Int32) (a5 : Int32) (a6 : Int32) (a7 : Int32) (a8 : Int32) : Option ((Int32 × Int32 × Int32 × Int32) ⊕ Int32) := Option.bind (M_number t a8) (fun x1 => (if x1 = a7 then ((M_haveRoom_b105 t p1 p2 p3 p4 a5 a6 a7 a8 x1 (1 : Int32))) else ((M_haveRoom_b105 t p1 p2 p3 p4 a5 a6 a7 a8 x1 (0 : Int32)))))
noncomputable def M_haveRoom_b69 (t : moS) (p1 : Int32) (p2 : Int32) (p3 : Int32) (p4 : Int32) (a5 : Int32) (a6 : Int32) (a7 : Int32) (a8 : Int32) : Option ((Int32 × Int32 × Int32 × Int32) ⊕ Int32) := if a8 = p3 then ((M_haveRoom_b85 t p1 p2 p3 p4 a5 a6 a7 a8)) else (if a8 = p4 then ((M_haveRoom_b85 t p1 p2 p3 p4 a5 a6 a7 a8)) else ((M_haveRoom_b198 t p1 p2 p3 p4 a5 a6 a7 a8)))
noncomputable def M_haveRoom_s45 (t : moS) (p1 : Int32) (p2 : Int32) (p3 : Int32) (p4 : Int32) (a5 : Int32) (a6 : Int32) (a7 : Int32) (a8 : Int32) : Option ((Int32 × Int32 × Int32 × Int32) ⊕ Int32) := if a8 < (moS.S t 11) then (if a8 = p2 then ((M_haveRoom_b69 t p1 p2 p3 p4 (0 : Int32) (0 : Int32) ((-1) : Int32) a8)) else ((M_haveRoom_b69 t p1 p2 p3 p4 a5 a6 a7 a8))) else ((xo ((some (1 : Int32)))))
noncomputable def M_haveRoom_b45 (t : moS) (p1 : Int32) (p2 : Int32) (p3 : Int32) (p4 : Int32) (a5 : Int32) (a6 : Int32) (a7 : Int32) (a8 : Int32) : Option Int32 := lp (fun x => M_haveRoom_s45 t p1 p2 p3 p4 x.1 x.2.1 x.2.2.1 x.2.2.2) (a5, a6, a7, a8)
noncomputable def M_haveRoom_b37 (t : moS) (p1 : Int32) (p2 : Int32) (p3 : Int32) (p4 : Int32) (a5 : Int32) (u0 : Int32) : Option Int32 := (M_haveRoom_b45 t p1 p2 p3 p4 a5 u0 ((-1) : Int32) (4 : Int32))
noncomputable def M_haveRoom_b20 (t : moS) (p1 : Int32) (p2 : Int32) (p3 : Int32) (p4 : Int32) (u0 : Int32) : Option Int32 := if u0 = 0 then ((M_haveRoom_b37 t p1 p2 p3 p4 u0 (0 : Int32))) else (Option.bind (rdI t 82 p1) (fun x1 => ((M_haveRoom_b37 t p1 p2 p3 p4 u0 x1))))
noncomputable def M_haveRoom_b19 (t : moS) (p1 : Int32) (p2 : Int32) (p3 : Int32) (p4 : Int32) : Option Int32 := (M_haveRoom_b20 t p1 p2 p3 p4 (0 : Int32))
noncomputable def M_haveRoom (t : moS) (p1 : Int32) (p2 : Int32) (p3 : Int32) (p4 : Int32) : Option Int32 := if p1 = ((-1) : Int32) then ((M_haveRoom_b19 t p1 p2 p3 p4)) else (Option.bind (rdI t 79 p1) (fun x1 => (if x1 = (2 : Int32) then ((M_haveRoom_b20 t p1 p2 p3 p4 (1 : Int32))) else ((M_haveRoom_b19 t p1 p2 p3 p4)))))
set_option maxRecDepth 100000 in
set_option maxHeartbeats 4000000 in
theorem k_haveRoom (base : Nat) (sa : Nat → Nat) {C : Nat × Nat} {R : pmM} {m : Nat} {q : Nat → Nat} {t : moS} {kc ks : Nat} {Rt : pmR} {p1 : Int32} {p2 : Int32} {p3 : Int32} {p4 : Int32} {r : Int32} (hw : mW C R base m q t kc ks) (h : M_haveRoom t p1 p2 p3 p4 = (some r)) (k : Rt (some (.int r)) (moM R m q t) kc ks) : kP_Mo_haveRoom base sa [.ref m, .int p1, .int p2, .int p3, .int p4] (moM R m q t) kc ks Rt := by
  refine ⟨Nat.le_of_ble_eq_true rfl, fun G hG => ?_⟩
  have b45 : ∀ (n : Nat) (a5 : Int32) (a6 : Int32) (a7 : Int32) (a8 : Int32), JJ C R base m G 45 [(0, .ref m), (1, .int p1), (2, .int p2), (3, .int p3), (4, .int p4), (5, .int a5), (6, .int a6), (7, .int a7), (8, .int a8)] [] q t kc ks (lpN (fun x => M_haveRoom_s45 t p1 p2 p3 p4 x.1 x.2.1 x.2.2.1 x.2.2.2) n (a5, a6, a7, a8)) (some r) := by
    intro n
    induction n with
    | zero => intro a5 a6 a7 a8; exact jj_lp0
    | succ n ih45 =>
      intro a5 a6 a7 a8
      refine jj_lpS (fun y45 c45 => ?_)
      have b198 : ∀ (a5 : Int32) (a6 : Int32) (a7 : Int32) (a8 : Int32), JJ C R base m G 198 [(0, .ref m), (1, .int p1), (2, .int p2), (3, .int p3), (4, .int p4), (5, .int a5), (6, .int a6), (7, .int a7), (8, .int a8)] [] q t kc ks (M_haveRoom_b198 t p1 p2 p3 p4 a5 a6 a7 a8) (some y45) := by
        intro a5 a6 a7 a8
        refine jj_inc hG rfl (Nat.le_of_ble_eq_true rfl) rfl cc_i1 ?_
        refine jj_go hG (t := 45) rfl rfl ?_
        exact jj_back c45 (jj_wl hG [1, 2, 3, 4, 5, 6, 7, 8, 0] rfl (ih45 _ _ _ _))
      have b188 : ∀ (a5 : Int32) (a6 : Int32) (a8 : Int32) (u0 : Int32), JJ C R base m G 188 [(0, .ref m), (1, .int p1), (2, .int p2), (3, .int p3), (4, .int p4), (5, .int a5), (6, .int a6), (8, .int a8)] [.int u0] q t kc ks (M_haveRoom_b188 t p1 p2 p3 p4 a5 a6 a8 u0) (some y45) := by
        intro a5 a6 a8 u0
        refine jjc hG rfl rfl (Nat.le_of_ble_eq_true rfl) ?_
        refine jjs hG rfl rfl ?_
        refine jj_ic hG rfl cc_i4 ?_
        refine jj_ile hG (t := 198) rfl rfl ?_ ?_
        · exact jj_wl hG [1, 2, 3, 4, 5, 6, 7, 0, 8] rfl (b198 _ _ _ _)
        refine jj_exit c45 ?_
        refine jj_ic hG rfl cc_i0 ?_
        exact jj_ri hG rfl rfl rfl k
      have b172 : ∀ (a5 : Int32) (a7 : Int32) (a8 : Int32) (a9 : Int32) (u0 : Int32) (u1 : Int32), JJ C R base m G 172 [(0, .ref m), (1, .int p1), (2, .int p2), (3, .int p3), (4, .int p4), (5, .int a5), (7, .int a7), (8, .int a8), (9, .int a9)] [.int u1, .int u0] q t kc ks (M_haveRoom_b172 t p1 p2 p3 p4 a5 a7 a8 a9 u0 u1) (some y45) := by
        intro a5 a7 a8 a9 u0 u1
        refine jjs hG rfl rfl ?_
        refine jjc hG rfl rfl (Nat.le_of_ble_eq_true rfl) ?_
        refine jjs hG rfl rfl ?_
        refine jj_ic hG rfl cc_im1 ?_
        refine jj_ine hG (t := 186) rfl rfl ?_ ?_
        · refine jjs hG rfl rfl ?_
          exact jj_wl hG [1, 2, 3, 4, 5, 6, 0, 8] rfl (b188 _ _ _ _)
        refine jjs hG rfl rfl ?_
        refine jj_go hG (t := 188) rfl rfl ?_
        exact jj_wl hG [1, 2, 3, 4, 5, 6, 0, 8] rfl (b188 _ _ _ _)
      have b160 : ∀ (a5 : Int32) (a6 : Int32) (a7 : Int32) (a8 : Int32) (a9 : Int32) (a10 : Int32), JJ C R base m G 160 [(0, .ref m), (1, .int p1), (2, .int p2), (3, .int p3), (4, .int p4), (5, .int a5), (6, .int a6), (7, .int a7), (8, .int a8), (9, .int a9), (10, .int a10)] [] q t kc ks (M_haveRoom_b160 t p1 p2 p3 p4 a5 a6 a7 a8 a9 a10) (some y45) := by
        intro a5 a6 a7 a8 a9 a10
        refine jjs hG rfl rfl ?_
        refine jjs hG rfl rfl ?_
        refine jj_zeq hG (t := 171) rfl rfl ?_ ?_
        · refine jj_ic hG rfl cc_i1 ?_
          exact jj_wl hG [0, 1, 2, 3, 4, 5, 7, 8, 9] rfl (b172 _ _ _ _ _ _)
        refine jj_ic hG rfl cc_i0 ?_
        refine jj_go hG (t := 172) rfl rfl ?_
        exact jj_wl hG [0, 1, 2, 3, 4, 5, 7, 8, 9] rfl (b172 _ _ _ _ _ _)
      have b110 : ∀ (a5 : Int32) (a6 : Int32) (a7 : Int32) (a8 : Int32) (a9 : Int32) (n : Nat) (a10 : Int32) (a11 : Int32), JJ C R base m G 110 [(0, .ref m), (1, .int p1), (2, .int p2), (3, .int p3), (4, .int p4), (5, .int a5), (6, .int a6), (7, .int a7), (8, .int a8), (9, .int a9), (10, .int a10), (11, .int a11)] [] q t kc ks (lpN (fun x => M_haveRoom_s110 t p1 p2 p3 p4 a5 a6 a7 a8 a9 x.1 x.2) n (a10, a11)) (some y45) := by
        intro a5 a6 a7 a8 a9 n
        induction n with
        | zero => intro a10 a11; exact jj_lp0
        | succ n ih110 =>
          intro a10 a11
          refine jj_lpS (fun y110 c110 => ?_)
          have b152 : ∀ (a11 : Int32) (u0 : Int32), JJ C R base m G 152 [(0, .ref m), (1, .int p1), (2, .int p2), (3, .int p3), (4, .int p4), (5, .int a5), (6, .int a6), (7, .int a7), (8, .int a8), (9, .int a9), (11, .int a11)] [.int u0] q t kc ks (M_haveRoom_b152 t p1 p2 p3 p4 a5 a6 a7 a8 a9 a11 u0) (some y110) := by
            intro a11 u0
            refine jjc hG rfl rfl (Nat.le_of_ble_eq_true rfl) ?_
            refine jj_inc hG rfl (Nat.le_of_ble_eq_true rfl) rfl cc_i1 ?_
            refine jj_go hG (t := 110) rfl rfl ?_
            exact jj_back c110 (jj_wl hG [2, 3, 4, 5, 6, 7, 8, 9, 10, 11, 1, 0] rfl (ih110 _ _))
          have b147 : ∀ (a11 : Int32), JJ C R base m G 147 [(0, .ref m), (1, .int p1), (2, .int p2), (3, .int p3), (4, .int p4), (5, .int a5), (6, .int a6), (7, .int a7), (8, .int a8), (9, .int a9), (11, .int a11)] [] q t kc ks (M_haveRoom_b147 t p1 p2 p3 p4 a5 a6 a7 a8 a9 a11) (some y110) := by
            intro a11
            refine jj_ic hG rfl cc_i1 ?_
            refine jj_go hG (t := 152) rfl rfl ?_
            exact jj_wl hG [0, 1, 2, 3, 4, 5, 6, 7, 8, 9, 10] rfl (b152 _ _)
          refine (show JJ C R base m G 110 [(0, .ref m), (1, .int p1), (2, .int p2), (3, .int p3), (4, .int p4), (5, .int a5), (6, .int a6), (7, .int a7), (8, .int a8), (9, .int a9), (10, .int a10), (11, .int a11)] [] q t kc ks (M_haveRoom_s110 t p1 p2 p3 p4 a5 a6 a7 a8 a9 a10 a11) (some y110) from ?_)
          refine jjs hG rfl rfl ?_
          refine jj_zeq hG (t := 160) rfl rfl ?_ ?_
          · refine jj_exit c110 ?_
            exact jj_wl hG [0, 1, 2, 3, 4, 5, 6, 7, 8, 9, 10] rfl (b160 _ _ _ _ _ _)
          refine jjs hG rfl rfl ?_
          refine jjs hG rfl rfl ?_
          refine jj_gr hG (k := 82) rfl rfl rfl rfl ?_
          refine jjs hG rfl rfl ?_
          refine jj_ia hG (k := 82) rfl rfl rfl (fun x1 => ?_)
          refine jj_ige hG (t := 160) rfl rfl ?_ ?_
          · refine jj_exit c110 ?_
            exact jj_wl hG [0, 1, 2, 3, 4, 5, 6, 7, 8, 9, 10] rfl (b160 _ _ _ _ _ _)
          refine jjs hG rfl rfl ?_
          refine jj_zne hG (t := 147) rfl rfl ?_ ?_
          · exact jj_wl hG [0, 1, 2, 3, 4, 5, 6, 7, 8, 9, 11] rfl (b147 _)
          refine jjs hG rfl rfl ?_
          refine jj_gr hG (k := 83) rfl rfl rfl rfl ?_
          refine jj_ic hG rfl cc_i4 ?_
          refine jjs hG rfl rfl ?_
          refine jjs hG rfl rfl ?_
          refine jjs hG rfl rfl ?_
          refine jjs hG rfl rfl ?_
          refine jj_ia hG (k := 83) rfl rfl rfl (fun x2 => ?_)
          refine jjs hG rfl rfl ?_
          refine jj_ine hG (t := 151) rfl rfl ?_ ?_
          · refine jj_ic hG rfl cc_i0 ?_
            exact jj_wl hG [0, 1, 2, 3, 4, 5, 6, 7, 8, 9, 11] rfl (b152 _ _)
          exact jj_wl hG [0, 1, 2, 3, 4, 5, 6, 7, 8, 9, 11] rfl (b147 _)
      have b105 : ∀ (a5 : Int32) (a6 : Int32) (a7 : Int32) (a8 : Int32) (a9 : Int32) (u0 : Int32), JJ C R base m G 105 [(0, .ref m), (1, .int p1), (2, .int p2), (3, .int p3), (4, .int p4), (5, .int a5), (6, .int a6), (7, .int a7), (8, .int a8), (9, .int a9)] [.int u0] q t kc ks (M_haveRoom_b105 t p1 p2 p3 p4 a5 a6 a7 a8 a9 u0) (some y45) := by
        intro a5 a6 a7 a8 a9 u0
        refine jjc hG rfl rfl (Nat.le_of_ble_eq_true rfl) ?_
        refine jj_ic hG rfl cc_i0 ?_
        refine jjc hG rfl rfl (Nat.le_of_ble_eq_true rfl) ?_
        refine jj_lp (fun n => ?_)
        exact jj_wl hG [2, 3, 4, 5, 6, 7, 8, 9, 10, 11, 1, 0] rfl (b110 _ _ _ _ _ n _ _)
      have b85 : ∀ (a5 : Int32) (a6 : Int32) (a7 : Int32) (a8 : Int32), JJ C R base m G 85 [(0, .ref m), (1, .int p1), (2, .int p2), (3, .int p3), (4, .int p4), (5, .int a5), (6, .int a6), (7, .int a7), (8, .int a8)] [] q t kc ks (M_haveRoom_b85 t p1 p2 p3 p4 a5 a6 a7 a8) (some y45) := by
        intro a5 a6 a7 a8
        refine jjs hG rfl rfl ?_
        refine jjs hG rfl rfl ?_
        refine jj_cp hG 0 rfl rfl (Nat.le_of_ble_eq_true rfl) (by decide) (Nat.le_of_ble_eq_true rfl) rfl (st' := []) rfl (w := .int) (fun _ _ hw h k => pm_rcv_of moM_m (k_number base sa hw h k)) (fun x1 => ?_)
        refine jjc hG rfl rfl (Nat.le_of_ble_eq_true rfl) ?_
        refine jjs hG rfl rfl ?_
        refine jjs hG rfl rfl ?_
        refine jj_ine hG (t := 104) rfl rfl ?_ ?_
        · refine jj_ic hG rfl cc_i0 ?_
          exact jj_wl hG [1, 2, 3, 4, 5, 6, 7, 8, 9, 0] rfl (b105 _ _ _ _ _ _)
        refine jj_ic hG rfl cc_i1 ?_
        refine jj_go hG (t := 105) rfl rfl ?_
        exact jj_wl hG [1, 2, 3, 4, 5, 6, 7, 8, 9, 0] rfl (b105 _ _ _ _ _ _)
      have b69 : ∀ (a5 : Int32) (a6 : Int32) (a7 : Int32) (a8 : Int32), JJ C R base m G 69 [(0, .ref m), (1, .int p1), (2, .int p2), (3, .int p3), (4, .int p4), (5, .int a5), (6, .int a6), (7, .int a7), (8, .int a8)] [] q t kc ks (M_haveRoom_b69 t p1 p2 p3 p4 a5 a6 a7 a8) (some y45) := by
        intro a5 a6 a7 a8
        refine jjs hG rfl rfl ?_
        refine jjs hG rfl rfl ?_
        refine jj_ieq hG (t := 85) rfl rfl ?_ ?_
        · exact jj_wl hG [0, 1, 2, 3, 4, 5, 6, 7, 8] rfl (b85 _ _ _ _)
        refine jjs hG rfl rfl ?_
        refine jjs hG rfl rfl ?_
        refine jj_ieq hG (t := 85) rfl rfl ?_ ?_
        · exact jj_wl hG [0, 1, 2, 3, 4, 5, 6, 7, 8] rfl (b85 _ _ _ _)
        refine jj_go hG (t := 198) rfl rfl ?_
        exact jj_wl hG [0, 1, 2, 3, 4, 5, 6, 7, 8] rfl (b198 _ _ _ _)
      refine (show JJ C R base m G 45 [(0, .ref m), (1, .int p1), (2, .int p2), (3, .int p3), (4, .int p4), (5, .int a5), (6, .int a6), (7, .int a7), (8, .int a8)] [] q t kc ks (M_haveRoom_s45 t p1 p2 p3 p4 a5 a6 a7 a8) (some y45) from ?_)
      refine jjs hG rfl rfl ?_
      refine jjs hG rfl rfl ?_
      refine jj_gi hG (k := 11) rfl rfl rfl rfl ?_
      refine jj_ige hG (t := 204) rfl rfl ?_ ?_
      · refine jj_exit c45 ?_
        refine jj_ic hG rfl cc_i1 ?_
        exact jj_ri hG rfl rfl rfl k
      refine jjs hG rfl rfl ?_
      refine jjs hG rfl rfl ?_
      refine jj_ine hG (t := 69) rfl rfl ?_ ?_
      · exact jj_wl hG [0, 1, 2, 3, 4, 5, 6, 7, 8] rfl (b69 _ _ _ _)
      refine jj_ic hG rfl cc_i0 ?_
      refine jjc hG rfl rfl (Nat.le_of_ble_eq_true rfl) ?_
      refine jj_ic hG rfl cc_i0 ?_
      refine jjc hG rfl rfl (Nat.le_of_ble_eq_true rfl) ?_
      refine jj_ic hG rfl cc_im1 ?_
      refine jjc hG rfl rfl (Nat.le_of_ble_eq_true rfl) ?_
      exact jj_wl hG [3, 4, 5, 6, 7, 2, 1, 0, 8] rfl (b69 _ _ _ _)
  have b37 : ∀ (a5 : Int32) (u0 : Int32), JJ C R base m G 37 [(0, .ref m), (1, .int p1), (2, .int p2), (3, .int p3), (4, .int p4), (5, .int a5)] [.int u0] q t kc ks (M_haveRoom_b37 t p1 p2 p3 p4 a5 u0) (some r) := by
    intro a5 u0
    refine jjc hG rfl rfl (Nat.le_of_ble_eq_true rfl) ?_
    refine jj_ic hG rfl cc_im1 ?_
    refine jjc hG rfl rfl (Nat.le_of_ble_eq_true rfl) ?_
    refine jj_ic hG rfl cc_i4 ?_
    refine jjc hG rfl rfl (Nat.le_of_ble_eq_true rfl) ?_
    refine jj_lp (fun n => ?_)
    exact jj_wl hG [3, 4, 5, 6, 7, 8, 2, 1, 0] rfl (b45 n _ _ _ _)
  have b20 : ∀ (u0 : Int32), JJ C R base m G 20 [(0, .ref m), (1, .int p1), (2, .int p2), (3, .int p3), (4, .int p4)] [.int u0] q t kc ks (M_haveRoom_b20 t p1 p2 p3 p4 u0) (some r) := by
    intro u0
    refine jjc hG rfl rfl (Nat.le_of_ble_eq_true rfl) ?_
    refine jjs hG rfl rfl ?_
    refine jj_zeq hG (t := 36) rfl rfl ?_ ?_
    · refine jj_ic hG rfl cc_i0 ?_
      exact jj_wl hG [1, 2, 3, 4, 5, 0] rfl (b37 _ _)
    refine jjs hG rfl rfl ?_
    refine jj_gr hG (k := 82) rfl rfl rfl rfl ?_
    refine jjs hG rfl rfl ?_
    refine jj_ia hG (k := 82) rfl rfl rfl (fun x1 => ?_)
    refine jj_go hG (t := 37) rfl rfl ?_
    exact jj_wl hG [1, 2, 3, 4, 5, 0] rfl (b37 _ _)
  have b19 : JJ C R base m G 19 [(0, .ref m), (1, .int p1), (2, .int p2), (3, .int p3), (4, .int p4)] [] q t kc ks (M_haveRoom_b19 t p1 p2 p3 p4) (some r) := by
    refine jj_ic hG rfl cc_i0 ?_
    exact jj_wl hG [0, 1, 2, 3, 4] rfl (b20 _)
  refine (show JJ C R base m G 0 [(0, .ref m), (1, .int p1), (2, .int p2), (3, .int p3), (4, .int p4)] [] q t kc ks (M_haveRoom t p1 p2 p3 p4) (some r) from ?_) hw h
  refine jjs hG rfl rfl ?_
  refine jj_ic hG rfl cc_im1 ?_
  refine jj_ieq hG (t := 19) rfl rfl ?_ ?_
  · exact jj_wl hG [0, 1, 2, 3, 4] rfl (b19)
  refine jjs hG rfl rfl ?_
  refine jj_gr hG (k := 79) rfl rfl rfl rfl ?_
  refine jjs hG rfl rfl ?_
  refine jj_ia hG (k := 79) rfl rfl rfl (fun x1 => ?_)
  refine jj_ic hG rfl cc_i2 ?_
  refine jj_ine hG (t := 19) rfl rfl ?_ ?_
  · exact jj_wl hG [0, 1, 2, 3, 4] rfl (b19)
  refine jj_ic hG rfl cc_i1 ?_
  refine jj_go hG (t := 20) rfl rfl ?_
  exact jj_wl hG [0, 1, 2, 3, 4] rfl (b20 _)
noncomputable def M_newInterface (t : moS) (p1 : Int32) (p2 : Int32) : Option (Int32 × moS) := Option.bind (rdI t 70 p1) (fun x1 => (Option.bind (wrI t 71 (((4 : Int32) * p1) + x1) p2) (fun s2 => (Option.bind (wrI s2 72 (((4 : Int32) * p1) + x1) (1 : Int32)) (fun s3 => (Option.bind (wrJ s3 73 (((4 : Int32) * p1) + x1) (1677407014 : Int64)) (fun s4 => (Option.bind (rdI s4 70 p1) (fun x5 => (Option.bind (wrI s4 70 p1 (x5 + (1 : Int32))) (fun s6 => ((some ((((4 : Int32) * p1) + x1), s6))))))))))))))
set_option maxRecDepth 100000 in
set_option maxHeartbeats 4000000 in
theorem k_newInterface (base : Nat) (sa : Nat → Nat) {C : Nat × Nat} {R : pmM} {m : Nat} {q : Nat → Nat} {t tz : moS} {kc ks : Nat} {Rt : pmR} {p1 : Int32} {p2 : Int32} {r : Int32} (hw : mW C R base m q t kc ks) (h : M_newInterface t p1 p2 = (some (r, tz))) (k : mW C R base m q tz kc ks → Rt (some (.int r)) (moM R m q tz) kc ks) : kP_Mo_newInterface base sa [.ref m, .int p1, .int p2] (moM R m q t) kc ks Rt := by
  refine ⟨Nat.le_of_ble_eq_true rfl, fun G hG => ?_⟩
  refine (show JJ C R base m G 0 [(0, .ref m), (1, .int p1), (2, .int p2)] [] q t kc ks (M_newInterface t p1 p2) (some (r, tz)) from ?_) hw h
  refine jj_ic hG rfl cc_i4 ?_
  refine jjs hG rfl rfl ?_
  refine jjs hG rfl rfl ?_
  refine jjs hG rfl rfl ?_
  refine jj_gr hG (k := 70) rfl rfl rfl rfl ?_
  refine jjs hG rfl rfl ?_
  refine jj_ia hG (k := 70) rfl rfl rfl (fun x1 => ?_)
  refine jjs hG rfl rfl ?_
  refine jjc hG rfl rfl (Nat.le_of_ble_eq_true rfl) ?_
  refine jjs hG rfl rfl ?_
  refine jj_gr hG (k := 71) rfl rfl rfl rfl ?_
  refine jjs hG rfl rfl ?_
  refine jjs hG rfl rfl ?_
  refine jj_is hG (k := 71) rfl rfl rfl (fun s2 => ?_)
  refine jjs hG rfl rfl ?_
  refine jj_gr hG (k := 72) rfl rfl rfl rfl ?_
  refine jjs hG rfl rfl ?_
  refine jj_ic hG rfl cc_i1 ?_
  refine jj_is hG (k := 72) rfl rfl rfl (fun s3 => ?_)
  refine jjs hG rfl rfl ?_
  refine jj_gr hG (k := 73) rfl rfl rfl rfl ?_
  refine jjs hG rfl rfl ?_
  refine jj_l2 hG (v := (1677407014 : Int64)) rfl rfl ?_
  refine jj_ls hG (k := 73) rfl rfl rfl (fun s4 => ?_)
  refine jjs hG rfl rfl ?_
  refine jj_gr hG (k := 70) rfl rfl rfl rfl ?_
  refine jjs hG rfl rfl ?_
  refine jjc2 hG rfl rfl rfl rfl ?_
  refine jj_ia hG (k := 70) rfl rfl rfl (fun x5 => ?_)
  refine jj_ic hG rfl cc_i1 ?_
  refine jjs hG rfl rfl ?_
  refine jj_is hG (k := 70) rfl rfl rfl (fun s6 => ?_)
  refine jjs hG rfl rfl ?_
  exact jj_riS hG rfl rfl rfl k
noncomputable def M_takePassword_s28 (t : moS) (p1 : Int32) (p2 : Int32) (a3 : Int32) : Option ((Int32 × moS) ⊕ moS) := Option.bind (rdI t 10 p2) (fun x1 => (if a3 < x1 then (Option.bind (rdI t 9 p2) (fun x2 => (Option.bind (rdI t 2 (x2 + a3)) (fun x3 => (Option.bind (wrI t 81 (((16 : Int32) * p1) + a3) x3) (fun s4 => ((some (.inl ((a3 + (1 : Int32)), s4)))))))))) else ((xo ((some t))))))
noncomputable def M_takePassword_b28 (t : moS) (p1 : Int32) (p2 : Int32) (a3 : Int32) : Option moS := lp (fun x => M_takePassword_s28 x.2 p1 p2 x.1) (a3, t)
noncomputable def M_takePassword (t : moS) (p1 : Int32) (p2 : Int32) : Option moS := Option.bind (wrI t 79 p1 (1 : Int32)) (fun s1 => (Option.bind (wrI s1 82 p1 (0 : Int32)) (fun s2 => (Option.bind (rdI s2 10 p2) (fun x3 => (Option.bind (wrI s2 80 p1 x3) (fun s4 => ((M_takePassword_b28 s4 p1 p2 (0 : Int32))))))))))
set_option maxRecDepth 100000 in
set_option maxHeartbeats 4000000 in
theorem k_takePassword (base : Nat) (sa : Nat → Nat) {C : Nat × Nat} {R : pmM} {m : Nat} {q : Nat → Nat} {t tz : moS} {kc ks : Nat} {Rt : pmR} {p1 : Int32} {p2 : Int32} (hw : mW C R base m q t kc ks) (h : M_takePassword t p1 p2 = (some tz)) (k : mW C R base m q tz kc ks → Rt none (moM R m q tz) kc ks) : kP_Mo_takePassword base sa [.ref m, .int p1, .int p2] (moM R m q t) kc ks Rt := by
  refine ⟨Nat.le_of_ble_eq_true rfl, fun G hG => ?_⟩
  have b28 : ∀ (n : Nat) (a3 : Int32) (t : moS), JJ C R base m G 28 [(0, .ref m), (1, .int p1), (2, .int p2), (3, .int a3)] [] q t kc ks (lpN (fun x => M_takePassword_s28 x.2 p1 p2 x.1) n (a3, t)) (some tz) := by
    intro n
    induction n with
    | zero => intro a3 t; exact jj_lp0
    | succ n ih28 =>
      intro a3 t
      refine jj_lpS (fun y28 c28 => ?_)
      refine (show JJ C R base m G 28 [(0, .ref m), (1, .int p1), (2, .int p2), (3, .int a3)] [] q t kc ks (M_takePassword_s28 t p1 p2 a3) (some y28) from ?_)
      refine jjs hG rfl rfl ?_
      refine jjs hG rfl rfl ?_
      refine jj_gr hG (k := 10) rfl rfl rfl rfl ?_
      refine jjs hG rfl rfl ?_
      refine jj_ia hG (k := 10) rfl rfl rfl (fun x1 => ?_)
      refine jj_ige hG (t := 68) rfl rfl ?_ ?_
      · refine jj_exit c28 ?_
        exact jj_rvS hG rfl rfl (k)
      refine jjs hG rfl rfl ?_
      refine jj_gr hG (k := 81) rfl rfl rfl rfl ?_
      refine jj_bi hG rfl cc_b16 ?_
      refine jjs hG rfl rfl ?_
      refine jjs hG rfl rfl ?_
      refine jjs hG rfl rfl ?_
      refine jjs hG rfl rfl ?_
      refine jjs hG rfl rfl ?_
      refine jj_gr hG (k := 2) rfl rfl rfl rfl ?_
      refine jjs hG rfl rfl ?_
      refine jj_gr hG (k := 9) rfl rfl rfl rfl ?_
      refine jjs hG rfl rfl ?_
      refine jj_at (pc' := 57) rfl ?_
      refine jj_ia hG (k := 9) rfl rfl rfl (fun x2 => ?_)
      refine jjs hG rfl rfl ?_
      refine jjs hG rfl rfl ?_
      refine jj_ia hG (k := 2) rfl rfl rfl (fun x3 => ?_)
      refine jj_is hG (k := 81) rfl rfl rfl (fun s4 => ?_)
      refine jj_inc hG rfl (Nat.le_of_ble_eq_true rfl) rfl cc_i1 ?_
      refine jj_go hG (t := 28) rfl rfl ?_
      exact jj_back c28 (jj_wl hG [1, 2, 3, 0] rfl (ih28 _ _))
  refine (show JJ C R base m G 0 [(0, .ref m), (1, .int p1), (2, .int p2)] [] q t kc ks (M_takePassword t p1 p2) (some tz) from ?_) hw h
  refine jjs hG rfl rfl ?_
  refine jj_gr hG (k := 79) rfl rfl rfl rfl ?_
  refine jjs hG rfl rfl ?_
  refine jj_ic hG rfl cc_i1 ?_
  refine jj_is hG (k := 79) rfl rfl rfl (fun s1 => ?_)
  refine jjs hG rfl rfl ?_
  refine jj_gr hG (k := 82) rfl rfl rfl rfl ?_
  refine jjs hG rfl rfl ?_
  refine jj_ic hG rfl cc_i0 ?_
  refine jj_is hG (k := 82) rfl rfl rfl (fun s2 => ?_)
  refine jjs hG rfl rfl ?_
  refine jj_gr hG (k := 80) rfl rfl rfl rfl ?_
  refine jjs hG rfl rfl ?_
  refine jjs hG rfl rfl ?_
  refine jj_gr hG (k := 10) rfl rfl rfl rfl ?_
  refine jjs hG rfl rfl ?_
  refine jj_ia hG (k := 10) rfl rfl rfl (fun x3 => ?_)
  refine jj_is hG (k := 80) rfl rfl rfl (fun s4 => ?_)
  refine jj_ic hG rfl cc_i0 ?_
  refine jjc hG rfl rfl (Nat.le_of_ble_eq_true rfl) ?_
  refine jj_lp (fun n => ?_)
  exact jj_wl hG [1, 2, 3, 0] rfl (b28 n _ _)
noncomputable def M_keyPlace_s2 (t : moS) (p1 : Int32) (p2 : Int32) (a3 : Int32) : Option ((Int32) ⊕ Int32) := Option.bind (rdI t 82 p1) (fun x1 => (if a3 < x1 then (Option.bind (rdI t 83 (((4 : Int32) * p1) + a3)) (fun x2 => (if x2 = p2 then ((xo ((some a3)))) else ((some (.inl ((a3 + (1 : Int32))))))))) else ((xo ((some a3))))))
noncomputable def M_keyPlace_b2 (t : moS) (p1 : Int32) (p2 : Int32) (a3 : Int32) : Option Int32 := lp (fun x => M_keyPlace_s2 t p1 p2 x) (a3)
noncomputable def M_keyPlace (t : moS) (p1 : Int32) (p2 : Int32) : Option Int32 := (M_keyPlace_b2 t p1 p2 (0 : Int32))
set_option maxRecDepth 100000 in
set_option maxHeartbeats 4000000 in
theorem k_keyPlace (base : Nat) (sa : Nat → Nat) {C : Nat × Nat} {R : pmM} {m : Nat} {q : Nat → Nat} {t : moS} {kc ks : Nat} {Rt : pmR} {p1 : Int32} {p2 : Int32} {r : Int32} (hw : mW C R base m q t kc ks) (h : M_keyPlace t p1 p2 = (some r)) (k : Rt (some (.int r)) (moM R m q t) kc ks) : kP_Mo_keyPlace base sa [.ref m, .int p1, .int p2] (moM R m q t) kc ks Rt := by
  refine ⟨Nat.le_of_ble_eq_true rfl, fun G hG => ?_⟩
  have b2 : ∀ (n : Nat) (a3 : Int32), JJ C R base m G 2 [(0, .ref m), (1, .int p1), (2, .int p2), (3, .int a3)] [] q t kc ks (lpN (fun x => M_keyPlace_s2 t p1 p2 x) n (a3)) (some r) := by
    intro n
    induction n with
    | zero => intro a3; exact jj_lp0
    | succ n ih2 =>
      intro a3
      refine jj_lpS (fun y2 c2 => ?_)
      refine (show JJ C R base m G 2 [(0, .ref m), (1, .int p1), (2, .int p2), (3, .int a3)] [] q t kc ks (M_keyPlace_s2 t p1 p2 a3) (some y2) from ?_)
      refine jjs hG rfl rfl ?_
      refine jjs hG rfl rfl ?_
      refine jj_gr hG (k := 82) rfl rfl rfl rfl ?_
      refine jjs hG rfl rfl ?_
      refine jj_ia hG (k := 82) rfl rfl rfl (fun x1 => ?_)
      refine jj_ige hG (t := 32) rfl rfl ?_ ?_
      · refine jj_exit c2 ?_
        refine jjs hG rfl rfl ?_
        exact jj_ri hG rfl rfl rfl k
      refine jjs hG rfl rfl ?_
      refine jj_gr hG (k := 83) rfl rfl rfl rfl ?_
      refine jj_ic hG rfl cc_i4 ?_
      refine jjs hG rfl rfl ?_
      refine jjs hG rfl rfl ?_
      refine jjs hG rfl rfl ?_
      refine jjs hG rfl rfl ?_
      refine jj_ia hG (k := 83) rfl rfl rfl (fun x2 => ?_)
      refine jjs hG rfl rfl ?_
      refine jj_ieq hG (t := 32) rfl rfl ?_ ?_
      · refine jj_exit c2 ?_
        refine jjs hG rfl rfl ?_
        exact jj_ri hG rfl rfl rfl k
      refine jj_inc hG rfl (Nat.le_of_ble_eq_true rfl) rfl cc_i1 ?_
      refine jj_go hG (t := 2) rfl rfl ?_
      exact jj_back c2 (jj_wl hG [1, 2, 3, 0] rfl (ih2 _))
  refine (show JJ C R base m G 0 [(0, .ref m), (1, .int p1), (2, .int p2)] [] q t kc ks (M_keyPlace t p1 p2) (some r) from ?_) hw h
  refine jj_ic hG rfl cc_i0 ?_
  refine jjc hG rfl rfl (Nat.le_of_ble_eq_true rfl) ?_
  refine jj_lp (fun n => ?_)
  exact jj_wl hG [1, 2, 3, 0] rfl (b2 n _)
noncomputable def M_takeKey_s94 (t : moS) (p4 : Int32) (p5 : Int32) (p6 : Int32) (a8 : Int32) (a9 : Int32) : Option ((Int32 × moS) ⊕ moS) := Option.bind (rdI t 10 p4) (fun x1 => (if a9 < x1 then (Option.bind (rdI t 9 p4) (fun x4 => (Option.bind (rdI t 2 (x4 + a9)) (fun x5 => (Option.bind (wrI t 86 (((16 : Int32) * a8) + a9) x5) (fun s6 => ((some (.inl ((a9 + (1 : Int32)), s6)))))))))) else ((xo (Option.bind (wrI t 87 a8 p5) (fun s2 => (Option.bind (wrI s2 88 a8 p6) (fun s3 => ((some s3))))))))))
noncomputable def M_takeKey_b94 (t : moS) (p4 : Int32) (p5 : Int32) (p6 : Int32) (a8 : Int32) (a9 : Int32) : Option moS := lp (fun x => M_takeKey_s94 x.2 p4 p5 p6 a8 x.1) (a9, t)
noncomputable def M_takeKey_b53 (t : moS) (p1 : Int32) (p2 : Int32) (p3 : Int32) (p4 : Int32) (p5 : Int32) (p6 : Int32) (a7 : Int32) : Option moS := Option.bind (wrI t 83 (((4 : Int32) * p1) + a7) p2) (fun s1 => (Option.bind (wrZ s1 84 (((4 : Int32) * p1) + a7) p3) (fun s2 => (Option.bind (rdI s2 10 p4) (fun x3 => (Option.bind (wrI s2 85 (((4 : Int32) * p1) + a7) x3) (fun s4 => ((M_takeKey_b94 s4 p4 p5 p6 (((4 : Int32) * p1) + a7) (0 : Int32))))))))))
noncomputable def M_takeKey_b17 (t : moS) (p1 : Int32) (p2 : Int32) (p3 : Int32) (p4 : Int32) (p5 : Int32) (p6 : Int32) : Option moS := Option.bind (wrI t 79 p1 (2 : Int32)) (fun s1 => (Option.bind (M_keyPlace s1 p1 p2) (fun x2 => (Option.bind (rdI s1 82 p1) (fun x3 => (if x2 = x3 then (Option.bind (rdI s1 82 p1) (fun x4 => (Option.bind (wrI s1 82 p1 (x4 + (1 : Int32))) (fun s5 => ((M_takeKey_b53 s5 p1 p2 p3 p4 p5 p6 x2)))))) else ((M_takeKey_b53 s1 p1 p2 p3 p4 p5 p6 x2))))))))
noncomputable def M_takeKey (t : moS) (p1 : Int32) (p2 : Int32) (p3 : Int32) (p4 : Int32) (p5 : Int32) (p6 : Int32) : Option moS := Option.bind (rdI t 79 p1) (fun x1 => (if x1 = (2 : Int32) then ((M_takeKey_b17 t p1 p2 p3 p4 p5 p6)) else (Option.bind (wrI t 82 p1 (0 : Int32)) (fun s2 => ((M_takeKey_b17 s2 p1 p2 p3 p4 p5 p6))))))
set_option maxRecDepth 100000 in
set_option maxHeartbeats 4000000 in
theorem k_takeKey (base : Nat) (sa : Nat → Nat) {C : Nat × Nat} {R : pmM} {m : Nat} {q : Nat → Nat} {t tz : moS} {kc ks : Nat} {Rt : pmR} {p1 : Int32} {p2 : Int32} {p3 : Int32} {p4 : Int32} {p5 : Int32} {p6 : Int32} (hw : mW C R base m q t kc ks) (h : M_takeKey t p1 p2 p3 p4 p5 p6 = (some tz)) (k : mW C R base m q tz kc ks → Rt none (moM R m q tz) kc ks) : kP_Mo_takeKey base sa [.ref m, .int p1, .int p2, .int p3, .int p4, .int p5, .int p6] (moM R m q t) kc ks Rt := by
  refine ⟨Nat.le_of_ble_eq_true rfl, fun G hG => ?_⟩
  have b94 : ∀ (a8 : Int32) (n : Nat) (a9 : Int32) (t : moS), JJ C R base m G 94 [(0, .ref m), (4, .int p4), (5, .int p5), (6, .int p6), (8, .int a8), (9, .int a9)] [] q t kc ks (lpN (fun x => M_takeKey_s94 x.2 p4 p5 p6 a8 x.1) n (a9, t)) (some tz) := by
    intro a8 n
    induction n with
    | zero => intro a9 t; exact jj_lp0
    | succ n ih94 =>
      intro a9 t
      refine jj_lpS (fun y94 c94 => ?_)
      refine (show JJ C R base m G 94 [(0, .ref m), (4, .int p4), (5, .int p5), (6, .int p6), (8, .int a8), (9, .int a9)] [] q t kc ks (M_takeKey_s94 t p4 p5 p6 a8 a9) (some y94) from ?_)
      refine jjs hG rfl rfl ?_
      refine jjs hG rfl rfl ?_
      refine jj_gr hG (k := 10) rfl rfl rfl rfl ?_
      refine jjs hG rfl rfl ?_
      refine jj_ia hG (k := 10) rfl rfl rfl (fun x1 => ?_)
      refine jj_ige hG (t := 140) rfl rfl ?_ ?_
      · refine jj_exit c94 ?_
        refine jjs hG rfl rfl ?_
        refine jj_gr hG (k := 87) rfl rfl rfl rfl ?_
        refine jjs hG rfl rfl ?_
        refine jjs hG rfl rfl ?_
        refine jj_is hG (k := 87) rfl rfl rfl (fun s2 => ?_)
        refine jjs hG rfl rfl ?_
        refine jj_gr hG (k := 88) rfl rfl rfl rfl ?_
        refine jjs hG rfl rfl ?_
        refine jjs hG rfl rfl ?_
        refine jj_is hG (k := 88) rfl rfl rfl (fun s3 => ?_)
        exact jj_rvS hG rfl rfl (k)
      refine jjs hG rfl rfl ?_
      refine jj_gr hG (k := 86) rfl rfl rfl rfl ?_
      refine jj_bi hG rfl cc_b16 ?_
      refine jjs hG rfl rfl ?_
      refine jjs hG rfl rfl ?_
      refine jjs hG rfl rfl ?_
      refine jjs hG rfl rfl ?_
      refine jjs hG rfl rfl ?_
      refine jj_gr hG (k := 2) rfl rfl rfl rfl ?_
      refine jjs hG rfl rfl ?_
      refine jj_gr hG (k := 9) rfl rfl rfl rfl ?_
      refine jjs hG rfl rfl ?_
      refine jj_at (pc' := 128) rfl ?_
      refine jj_ia hG (k := 9) rfl rfl rfl (fun x4 => ?_)
      refine jjs hG rfl rfl ?_
      refine jjs hG rfl rfl ?_
      refine jj_ia hG (k := 2) rfl rfl rfl (fun x5 => ?_)
      refine jj_is hG (k := 86) rfl rfl rfl (fun s6 => ?_)
      refine jj_inc hG rfl (Nat.le_of_ble_eq_true rfl) rfl cc_i1 ?_
      refine jj_go hG (t := 94) rfl rfl ?_
      exact jj_back c94 (jj_wl hG [1, 2, 3, 4, 5, 0] rfl (ih94 _ _))
  have b53 : ∀ (a7 : Int32) (t : moS), JJ C R base m G 53 [(0, .ref m), (1, .int p1), (2, .int p2), (3, .int p3), (4, .int p4), (5, .int p5), (6, .int p6), (7, .int a7)] [] q t kc ks (M_takeKey_b53 t p1 p2 p3 p4 p5 p6 a7) (some tz) := by
    intro a7 t
    refine jj_ic hG rfl cc_i4 ?_
    refine jjs hG rfl rfl ?_
    refine jjs hG rfl rfl ?_
    refine jjs hG rfl rfl ?_
    refine jjs hG rfl rfl ?_
    refine jjc hG rfl rfl (Nat.le_of_ble_eq_true rfl) ?_
    refine jjs hG rfl rfl ?_
    refine jj_gr hG (k := 83) rfl rfl rfl rfl ?_
    refine jjs hG rfl rfl ?_
    refine jjs hG rfl rfl ?_
    refine jj_is hG (k := 83) rfl rfl rfl (fun s1 => ?_)
    refine jjs hG rfl rfl ?_
    refine jj_gr hG (k := 84) rfl rfl rfl rfl ?_
    refine jjs hG rfl rfl ?_
    refine jjs hG rfl rfl ?_
    refine jj_bs hG (k := 84) rfl rfl rfl (fun s2 => ?_)
    refine jjs hG rfl rfl ?_
    refine jj_gr hG (k := 85) rfl rfl rfl rfl ?_
    refine jjs hG rfl rfl ?_
    refine jjs hG rfl rfl ?_
    refine jj_gr hG (k := 10) rfl rfl rfl rfl ?_
    refine jjs hG rfl rfl ?_
    refine jj_ia hG (k := 10) rfl rfl rfl (fun x3 => ?_)
    refine jj_is hG (k := 85) rfl rfl rfl (fun s4 => ?_)
    refine jj_ic hG rfl cc_i0 ?_
    refine jjc hG rfl rfl (Nat.le_of_ble_eq_true rfl) ?_
    refine jj_lp (fun n => ?_)
    exact jj_wl hG [2, 6, 7, 8, 1, 0] rfl (b94 _ n _ _)
  have b17 : ∀ (t : moS), JJ C R base m G 17 [(0, .ref m), (1, .int p1), (2, .int p2), (3, .int p3), (4, .int p4), (5, .int p5), (6, .int p6)] [] q t kc ks (M_takeKey_b17 t p1 p2 p3 p4 p5 p6) (some tz) := by
    intro t
    refine jjs hG rfl rfl ?_
    refine jj_gr hG (k := 79) rfl rfl rfl rfl ?_
    refine jjs hG rfl rfl ?_
    refine jj_ic hG rfl cc_i2 ?_
    refine jj_is hG (k := 79) rfl rfl rfl (fun s1 => ?_)
    refine jjs hG rfl rfl ?_
    refine jjs hG rfl rfl ?_
    refine jjs hG rfl rfl ?_
    refine jj_cp hG 0 rfl rfl (Nat.le_of_ble_eq_true rfl) (by decide) (Nat.le_of_ble_eq_true rfl) rfl (st' := []) rfl (w := .int) (fun _ _ hw h k => pm_rcv_of moM_m (k_keyPlace base sa hw h k)) (fun x2 => ?_)
    refine jjc hG rfl rfl (Nat.le_of_ble_eq_true rfl) ?_
    refine jjs hG rfl rfl ?_
    refine jjs hG rfl rfl ?_
    refine jj_gr hG (k := 82) rfl rfl rfl rfl ?_
    refine jjs hG rfl rfl ?_
    refine jj_ia hG (k := 82) rfl rfl rfl (fun x3 => ?_)
    refine jj_ine hG (t := 53) rfl rfl ?_ ?_
    · exact jj_wl hG [1, 2, 3, 4, 5, 6, 7, 0] rfl (b53 _ _)
    refine jjs hG rfl rfl ?_
    refine jj_gr hG (k := 82) rfl rfl rfl rfl ?_
    refine jjs hG rfl rfl ?_
    refine jjc2 hG rfl rfl rfl rfl ?_
    refine jj_ia hG (k := 82) rfl rfl rfl (fun x4 => ?_)
    refine jj_ic hG rfl cc_i1 ?_
    refine jjs hG rfl rfl ?_
    refine jj_is hG (k := 82) rfl rfl rfl (fun s5 => ?_)
    exact jj_wl hG [1, 2, 3, 4, 5, 6, 7, 0] rfl (b53 _ _)
  refine (show JJ C R base m G 0 [(0, .ref m), (1, .int p1), (2, .int p2), (3, .int p3), (4, .int p4), (5, .int p5), (6, .int p6)] [] q t kc ks (M_takeKey t p1 p2 p3 p4 p5 p6) (some tz) from ?_) hw h
  refine jjs hG rfl rfl ?_
  refine jj_gr hG (k := 79) rfl rfl rfl rfl ?_
  refine jjs hG rfl rfl ?_
  refine jj_ia hG (k := 79) rfl rfl rfl (fun x1 => ?_)
  refine jj_ic hG rfl cc_i2 ?_
  refine jj_ieq hG (t := 17) rfl rfl ?_ ?_
  · exact jj_wl hG [0, 1, 2, 3, 4, 5, 6] rfl (b17 _)
  refine jjs hG rfl rfl ?_
  refine jj_gr hG (k := 82) rfl rfl rfl rfl ?_
  refine jjs hG rfl rfl ?_
  refine jj_ic hG rfl cc_i0 ?_
  refine jj_is hG (k := 82) rfl rfl rfl (fun s2 => ?_)
  exact jj_wl hG [0, 1, 2, 3, 4, 5, 6] rfl (b17 _)
noncomputable def M_isNetwork_b59 (t : moS) : Option Int32 := (some (0 : Int32))
noncomputable def M_isNetwork (t : moS) (p1 : Int32) (p2 : Int64) (p4 : Int64) (p6 : Int32) : Option Int32 := Option.bind (rdI t 75 p1) (fun x1 => (if x1 = 0 then ((M_isNetwork_b59 t)) else (Option.bind (rdI t 78 p1) (fun x2 => (if x2 = p6 then (Option.bind (rdJ t 76 p1) (fun x3 => (if (x3 &&& (M_maskHigh p6)) = p2 then (Option.bind (rdJ t 77 p1) (fun x4 => (if (x4 &&& (M_maskLow p6)) = p4 then ((some (1 : Int32))) else ((M_isNetwork_b59 t))))) else ((M_isNetwork_b59 t))))) else ((M_isNetwork_b59 t)))))))
set_option maxRecDepth 100000 in
set_option maxHeartbeats 4000000 in
theorem k_isNetwork (base : Nat) (sa : Nat → Nat) {C : Nat × Nat} {R : pmM} {m : Nat} {q : Nat → Nat} {t : moS} {kc ks : Nat} {Rt : pmR} {p1 : Int32} {p2 : Int64} {p4 : Int64} {p6 : Int32} {r : Int32} (hw : mW C R base m q t kc ks) (h : M_isNetwork t p1 p2 p4 p6 = (some r)) (k : Rt (some (.int r)) (moM R m q t) kc ks) : kP_Mo_isNetwork base sa [.ref m, .int p1, .long p2, .long p4, .int p6] (moM R m q t) kc ks Rt := by
  refine ⟨Nat.le_of_ble_eq_true rfl, fun G hG => ?_⟩
  have b59 : JJ C R base m G 59 [] [] q t kc ks (M_isNetwork_b59 t) (some r) := by
    refine jj_ic hG rfl cc_i0 ?_
    exact jj_ri hG rfl rfl rfl k
  refine (show JJ C R base m G 0 [(0, .ref m), (1, .int p1), (2, .long p2), (4, .long p4), (6, .int p6)] [] q t kc ks (M_isNetwork t p1 p2 p4 p6) (some r) from ?_) hw h
  refine jjs hG rfl rfl ?_
  refine jj_gr hG (k := 75) rfl rfl rfl rfl ?_
  refine jjs hG rfl rfl ?_
  refine jj_ba hG (k := 75) rfl rfl rfl (fun x1 => ?_)
  refine jj_zeq hG (t := 59) rfl rfl ?_ ?_
  · exact jj_wl hG [] rfl (b59)
  refine jjs hG rfl rfl ?_
  refine jj_gr hG (k := 78) rfl rfl rfl rfl ?_
  refine jjs hG rfl rfl ?_
  refine jj_ia hG (k := 78) rfl rfl rfl (fun x2 => ?_)
  refine jjs hG rfl rfl ?_
  refine jj_ine hG (t := 59) rfl rfl ?_ ?_
  · exact jj_wl hG [] rfl (b59)
  refine jjs hG rfl rfl ?_
  refine jj_gr hG (k := 76) rfl rfl rfl rfl ?_
  refine jjs hG rfl rfl ?_
  refine jj_la hG (k := 76) rfl rfl rfl (fun x3 => ?_)
  refine jjs hG rfl rfl ?_
  refine jj_ct hG 2 rfl rfl (Nat.le_of_ble_eq_true rfl) (by decide) (Nat.le_of_ble_eq_true rfl) rfl (st' := [.long x3]) rfl (v := .long (M_maskHigh p6)) (fun _ hw k => k_maskHigh base sa hw rfl k) ?_
  refine jjs hG rfl rfl ?_
  refine jjs hG rfl rfl ?_
  refine jjs hG rfl rfl ?_
  refine jj_lne hG (t := 59) rfl rfl ?_ ?_
  · exact jj_wl hG [] rfl (b59)
  refine jjs hG rfl rfl ?_
  refine jj_gr hG (k := 77) rfl rfl rfl rfl ?_
  refine jjs hG rfl rfl ?_
  refine jj_la hG (k := 77) rfl rfl rfl (fun x4 => ?_)
  refine jjs hG rfl rfl ?_
  refine jj_ct hG 2 rfl rfl (Nat.le_of_ble_eq_true rfl) (by decide) (Nat.le_of_ble_eq_true rfl) rfl (st' := [.long x4]) rfl (v := .long (M_maskLow p6)) (fun _ hw k => k_maskLow base sa hw rfl k) ?_
  refine jjs hG rfl rfl ?_
  refine jjs hG rfl rfl ?_
  refine jjs hG rfl rfl ?_
  refine jj_lne hG (t := 59) rfl rfl ?_ ?_
  · exact jj_wl hG [] rfl (b59)
  refine jj_ic hG rfl cc_i1 ?_
  refine jj_go hG (t := 60) rfl rfl ?_
  exact jj_ri hG rfl rfl rfl k
noncomputable def M_staticOf_b73 (t : moS) (p1 : Int32) (p2 : Int32) (p3 : Int64) (p5 : Int64) (p7 : Int32) (a8 : Int32) : Option ((Int32) ⊕ Int32) := (some (.inl ((a8 + (1 : Int32)))))
noncomputable def M_staticOf_s6 (t : moS) (p1 : Int32) (p2 : Int32) (p3 : Int64) (p5 : Int64) (p7 : Int32) (a8 : Int32) : Option ((Int32) ⊕ Int32) := Option.bind (rdI t 46 p1) (fun x1 => (if a8 < (((32 : Int32) * p1) + x1) then (Option.bind (rdI t 47 a8) (fun x2 => (if x2 = p2 then (Option.bind (rdJ t 48 a8) (fun x3 => (if x3 = p3 then (Option.bind (rdJ t 49 a8) (fun x4 => (if x4 = p5 then (Option.bind (rdI t 50 a8) (fun x5 => (if x5 = p7 then ((xo ((some a8)))) else ((M_staticOf_b73 t p1 p2 p3 p5 p7 a8))))) else ((M_staticOf_b73 t p1 p2 p3 p5 p7 a8))))) else ((M_staticOf_b73 t p1 p2 p3 p5 p7 a8))))) else ((M_staticOf_b73 t p1 p2 p3 p5 p7 a8))))) else ((xo ((some ((-1) : Int32)))))))
noncomputable def M_staticOf_b6 (t : moS) (p1 : Int32) (p2 : Int32) (p3 : Int64) (p5 : Int64) (p7 : Int32) (a8 : Int32) : Option Int32 := lp (fun x => M_staticOf_s6 t p1 p2 p3 p5 p7 x) (a8)
noncomputable def M_staticOf (t : moS) (p1 : Int32) (p2 : Int32) (p3 : Int64) (p5 : Int64) (p7 : Int32) : Option Int32 := (M_staticOf_b6 t p1 p2 p3 p5 p7 ((32 : Int32) * p1))
set_option maxRecDepth 100000 in
set_option maxHeartbeats 4000000 in
theorem k_staticOf (base : Nat) (sa : Nat → Nat) {C : Nat × Nat} {R : pmM} {m : Nat} {q : Nat → Nat} {t : moS} {kc ks : Nat} {Rt : pmR} {p1 : Int32} {p2 : Int32} {p3 : Int64} {p5 : Int64} {p7 : Int32} {r : Int32} (hw : mW C R base m q t kc ks) (h : M_staticOf t p1 p2 p3 p5 p7 = (some r)) (k : Rt (some (.int r)) (moM R m q t) kc ks) : kP_Mo_staticOf base sa [.ref m, .int p1, .int p2, .long p3, .long p5, .int p7] (moM R m q t) kc ks Rt := by
  refine ⟨Nat.le_of_ble_eq_true rfl, fun G hG => ?_⟩
  have b6 : ∀ (n : Nat) (a8 : Int32), JJ C R base m G 6 [(0, .ref m), (1, .int p1), (2, .int p2), (3, .long p3), (5, .long p5), (7, .int p7), (8, .int a8)] [] q t kc ks (lpN (fun x => M_staticOf_s6 t p1 p2 p3 p5 p7 x) n (a8)) (some r) := by
    intro n
    induction n with
    | zero => intro a8; exact jj_lp0
    | succ n ih6 =>
      intro a8
      refine jj_lpS (fun y6 c6 => ?_)
      have b73 : ∀ (a8 : Int32), JJ C R base m G 73 [(0, .ref m), (1, .int p1), (2, .int p2), (3, .long p3), (5, .long p5), (7, .int p7), (8, .int a8)] [] q t kc ks (M_staticOf_b73 t p1 p2 p3 p5 p7 a8) (some y6) := by
        intro a8
        refine jj_inc hG rfl (Nat.le_of_ble_eq_true rfl) rfl cc_i1 ?_
        refine jj_go hG (t := 6) rfl rfl ?_
        exact jj_back c6 (jj_wl hG [1, 2, 3, 4, 5, 6, 0] rfl (ih6 _))
      refine (show JJ C R base m G 6 [(0, .ref m), (1, .int p1), (2, .int p2), (3, .long p3), (5, .long p5), (7, .int p7), (8, .int a8)] [] q t kc ks (M_staticOf_s6 t p1 p2 p3 p5 p7 a8) (some y6) from ?_)
      refine jjs hG rfl rfl ?_
      refine jj_bi hG rfl cc_b32 ?_
      refine jjs hG rfl rfl ?_
      refine jjs hG rfl rfl ?_
      refine jjs hG rfl rfl ?_
      refine jj_gr hG (k := 46) rfl rfl rfl rfl ?_
      refine jjs hG rfl rfl ?_
      refine jj_ia hG (k := 46) rfl rfl rfl (fun x1 => ?_)
      refine jjs hG rfl rfl ?_
      refine jj_ige hG (t := 79) rfl rfl ?_ ?_
      · refine jj_exit c6 ?_
        refine jj_ic hG rfl cc_im1 ?_
        exact jj_ri hG rfl rfl rfl k
      refine jjs hG rfl rfl ?_
      refine jj_gr hG (k := 47) rfl rfl rfl rfl ?_
      refine jjs hG rfl rfl ?_
      refine jj_ia hG (k := 47) rfl rfl rfl (fun x2 => ?_)
      refine jjs hG rfl rfl ?_
      refine jj_ine hG (t := 73) rfl rfl ?_ ?_
      · exact jj_wl hG [0, 1, 2, 3, 4, 5, 6] rfl (b73 _)
      refine jjs hG rfl rfl ?_
      refine jj_gr hG (k := 48) rfl rfl rfl rfl ?_
      refine jjs hG rfl rfl ?_
      refine jj_la hG (k := 48) rfl rfl rfl (fun x3 => ?_)
      refine jjs hG rfl rfl ?_
      refine jjs hG rfl rfl ?_
      refine jj_lne hG (t := 73) rfl rfl ?_ ?_
      · exact jj_wl hG [0, 1, 2, 3, 4, 5, 6] rfl (b73 _)
      refine jjs hG rfl rfl ?_
      refine jj_gr hG (k := 49) rfl rfl rfl rfl ?_
      refine jjs hG rfl rfl ?_
      refine jj_la hG (k := 49) rfl rfl rfl (fun x4 => ?_)
      refine jjs hG rfl rfl ?_
      refine jjs hG rfl rfl ?_
      refine jj_lne hG (t := 73) rfl rfl ?_ ?_
      · exact jj_wl hG [0, 1, 2, 3, 4, 5, 6] rfl (b73 _)
      refine jjs hG rfl rfl ?_
      refine jj_gr hG (k := 50) rfl rfl rfl rfl ?_
      refine jjs hG rfl rfl ?_
      refine jj_ia hG (k := 50) rfl rfl rfl (fun x5 => ?_)
      refine jjs hG rfl rfl ?_
      refine jj_ine hG (t := 73) rfl rfl ?_ ?_
      · exact jj_wl hG [0, 1, 2, 3, 4, 5, 6] rfl (b73 _)
      refine jj_exit c6 ?_
      refine jjs hG rfl rfl ?_
      exact jj_ri hG rfl rfl rfl k
  refine (show JJ C R base m G 0 [(0, .ref m), (1, .int p1), (2, .int p2), (3, .long p3), (5, .long p5), (7, .int p7)] [] q t kc ks (M_staticOf t p1 p2 p3 p5 p7) (some r) from ?_) hw h
  refine jj_bi hG rfl cc_b32 ?_
  refine jjs hG rfl rfl ?_
  refine jjs hG rfl rfl ?_
  refine jjc hG rfl rfl (Nat.le_of_ble_eq_true rfl) ?_
  refine jj_lp (fun n => ?_)
  exact jj_wl hG [1, 2, 3, 4, 5, 6, 0] rfl (b6 n _)
