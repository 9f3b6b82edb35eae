/-! The model as functions, by program: putAddress .. enter -/
noncomputable def M_putAddress_b37 (t : moS) (p1 : Nat) (p2 : Int32) (p3 : Int32) (p4 : Int64) (p6 : Int64) (a8 : Int32) (u1 : Int32) (u2 : Int64) : Option ((Int32 × moS) ⊕ moS) := Option.bind (wrI t p1 u1 (Int64.toInt32 ((u2 >>> ((Int32.toInt64 ((56 : Int32) - ((8 : Int32) * (rem_I a8 (8 : Int32))))) &&& 63)) &&& (255 : Int64)))) (fun s1 => ((some (.inl ((a8 + (1 : Int32)), s1)))))
noncomputable def M_putAddress_b15 (t : moS) (p1 : Nat) (p2 : Int32) (p3 : Int32) (p4 : Int64) (p6 : Int64) (a8 : Int32) (u0 : Int32) (u1 : Int32) : Option ((Int32 × moS) ⊕ moS) := if u0 < u1 then (if a8 < (8 : Int32) then ((M_putAddress_b37 t p1 p2 p3 p4 p6 a8 (p2 + a8) p4)) else ((M_putAddress_b37 t p1 p2 p3 p4 p6 a8 (p2 + a8) p6))) else ((xo ((some t))))
noncomputable def M_putAddress_s3 (t : moS) (p1 : Nat) (p2 : Int32) (p3 : Int32) (p4 : Int64) (p6 : Int64) (a8 : Int32) : Option ((Int32 × moS) ⊕ moS) := if p3 = 0 then ((M_putAddress_b15 t p1 p2 p3 p4 p6 a8 a8 (4 : Int32))) else ((M_putAddress_b15 t p1 p2 p3 p4 p6 a8 a8 (16 : Int32)))
noncomputable def M_putAddress_b3 (t : moS) (p1 : Nat) (p2 : Int32) (p3 : Int32) (p4 : Int64) (p6 : Int64) (a8 : Int32) : Option moS := lp (fun x => M_putAddress_s3 x.2 p1 p2 p3 p4 p6 x.1) (a8, t)
noncomputable def M_putAddress (t : moS) (p1 : Nat) (p2 : Int32) (p3 : Int32) (p4 : Int64) (p6 : Int64) : Option moS := (M_putAddress_b3 t p1 p2 p3 p4 p6 (0 : Int32))
set_option maxRecDepth 100000 in
set_option maxHeartbeats 4000000 in
theorem k_putAddress (base : Nat) (sa : Nat → Nat) {C : Nat × Nat} {R : pmM} {m : Nat} {q : Nat → Nat} {t tz : moS} {kc ks : Nat} {Rt : pmR} {p1 : Nat} {p2 : Int32} {p3 : Int32} {p4 : Int64} {p6 : Int64} (kp1 : Nat.ble (p1 + 1) 166 = true) (dp1 : moKd p1 = 2) (hw : mW C R base m q t kc ks) (h : M_putAddress t p1 p2 p3 p4 p6 = (some tz)) (k : mW C R base m q tz kc ks → Rt none (moM R m q tz) kc ks) : kP_Mo_putAddress base sa [.ref m, .ref (q p1), .int p2, .int p3, .long p4, .long p6] (moM R m q t) kc ks Rt := by
  refine ⟨Nat.le_of_ble_eq_true rfl, fun G hG => ?_⟩
  have b3 : ∀ (n : Nat) (a8 : Int32) (t : moS), JJ C R base m G 3 [(1, .ref (q p1)), (2, .int p2), (3, .int p3), (4, .long p4), (6, .long p6), (8, .int a8)] [] q t kc ks (lpN (fun x => M_putAddress_s3 x.2 p1 p2 p3 p4 p6 x.1) n (a8, t)) (some tz) := by
    intro n
    induction n with
    | zero => intro a8 t; exact jj_lp0
    | succ n ih3 =>
      intro a8 t
      refine jj_lpS (fun y3 c3 => ?_)
      have b37 : ∀ (a8 : Int32) (u1 : Int32) (u2 : Int64) (t : moS), JJ C R base m G 37 [(1, .ref (q p1)), (2, .int p2), (3, .int p3), (4, .long p4), (6, .long p6), (8, .int a8)] [.long u2, .int u1, .ref (q p1)] q t kc ks (M_putAddress_b37 t p1 p2 p3 p4 p6 a8 u1 u2) (some y3) := by
        intro a8 u1 u2 t
        refine jj_bi hG rfl cc_b56 ?_
        refine jj_bi hG rfl cc_b8 ?_
        refine jjs hG rfl rfl ?_
        refine jj_bi hG rfl cc_b8 ?_
        refine jjc hG rfl rfl (by decide) ?_
        refine jjs hG rfl rfl ?_
        refine jjs hG rfl rfl ?_
        refine jjs hG rfl rfl ?_
        refine jj_l2 hG (v := (255 : Int64)) rfl rfl ?_
        refine jjs hG rfl rfl ?_
        refine jjs hG rfl rfl ?_
        refine jj_is hG (k := p1) rfl kp1 dp1 (fun s1 => ?_)
        refine jj_inc hG rfl (Nat.le_of_ble_eq_true rfl) rfl cc_i1 ?_
        refine jj_go hG (t := 3) rfl rfl ?_
        exact jj_back c3 (jj_wl hG [1, 2, 3, 4, 5, 0] rfl (ih3 _ _))
      have b15 : ∀ (a8 : Int32) (u0 : Int32) (u1 : Int32) (t : moS), JJ C R base m G 15 [(1, .ref (q p1)), (2, .int p2), (3, .int p3), (4, .long p4), (6, .long p6), (8, .int a8)] [.int u1, .int u0] q t kc ks (M_putAddress_b15 t p1 p2 p3 p4 p6 a8 u0 u1) (some y3) := by
        intro a8 u0 u1 t
        refine jj_ige hG (t := 61) rfl rfl ?_ ?_
        · refine jj_exit c3 ?_
          exact jj_rvS hG rfl rfl (k)
        refine jjs hG rfl rfl ?_
        refine jjs hG rfl rfl ?_
        refine jjs hG rfl rfl ?_
        refine jjs hG rfl rfl ?_
        refine jjs hG rfl rfl ?_
        refine jj_bi hG rfl cc_b8 ?_
        refine jj_ige hG (t := 35) rfl rfl ?_ ?_
        · refine jjs hG rfl rfl ?_
          exact jj_wl hG [0, 1, 2, 3, 4, 5] rfl (b37 _ _ _ _)
        refine jjs hG rfl rfl ?_
        refine jj_go hG (t := 37) rfl rfl ?_
        exact jj_wl hG [0, 1, 2, 3, 4, 5] rfl (b37 _ _ _ _)
      refine (show JJ C R base m G 3 [(1, .ref (q p1)), (2, .int p2), (3, .int p3), (4, .long p4), (6, .long p6), (8, .int a8)] [] q t kc ks (M_putAddress_s3 t p1 p2 p3 p4 p6 a8) (some y3) from ?_)
      refine jjs hG rfl rfl ?_
      refine jjs hG rfl rfl ?_
      refine jj_zne hG (t := 13) rfl rfl ?_ ?_
      · refine jj_bi hG rfl cc_b16 ?_
        exact jj_wl hG [0, 1, 2, 3, 4, 5] rfl (b15 _ _ _ _)
      refine jj_ic hG rfl cc_i4 ?_
      refine jj_go hG (t := 15) rfl rfl ?_
      exact jj_wl hG [0, 1, 2, 3, 4, 5] rfl (b15 _ _ _ _)
  refine (show JJ C R base m G 0 [(0, .ref m), (1, .ref (q p1)), (2, .int p2), (3, .int p3), (4, .long p4), (6, .long p6)] [] q t kc ks (M_putAddress t p1 p2 p3 p4 p6) (some tz) from ?_) hw h
  refine jj_ic hG rfl cc_i0 ?_
  refine jjc hG rfl rfl (Nat.le_of_ble_eq_true rfl) ?_
  refine jj_lp (fun n => ?_)
  exact jj_wl hG [2, 3, 4, 5, 6, 0] rfl (b3 n _ _)
noncomputable def M_highOf_b17 (t : moS) (p0 : Nat) (p1 : Int32) (p2 : Int32) (a3 : Int64) (a5 : Int32) (u0 : Int32) (u1 : Int32) : Option ((Int64 × Int32) ⊕ Int64) := if u0 < u1 then (Option.bind (rdI t p0 (p1 + a5)) (fun x1 => ((some (.inl (((a3 <<< ((Int32.toInt64 (8 : Int32)) &&& 63)) ||| (Int32.toInt64 x1)), (a5 + (1 : Int32)))))))) else ((xo (if p2 = 0 then ((some (a3 <<< ((Int32.toInt64 (32 : Int32)) &&& 63)))) else ((some a3)))))
noncomputable def M_highOf_s5 (t : moS) (p0 : Nat) (p1 : Int32) (p2 : Int32) (a3 : Int64) (a5 : Int32) : Option ((Int64 × Int32) ⊕ Int64) := if p2 = 0 then ((M_highOf_b17 t p0 p1 p2 a3 a5 a5 (4 : Int32))) else ((M_highOf_b17 t p0 p1 p2 a3 a5 a5 (8 : Int32)))
noncomputable def M_highOf_b5 (t : moS) (p0 : Nat) (p1 : Int32) (p2 : Int32) (a3 : Int64) (a5 : Int32) : Option Int64 := lp (fun x => M_highOf_s5 t p0 p1 p2 x.1 x.2) (a3, a5)
noncomputable def M_highOf (t : moS) (p0 : Nat) (p1 : Int32) (p2 : Int32) : Option Int64 := (M_highOf_b5 t p0 p1 p2 (0 : Int64) (0 : Int32))
set_option maxRecDepth 100000 in
set_option maxHeartbeats 4000000 in
theorem k_highOf (base : Nat) (sa : Nat → Nat) {C : Nat × Nat} {R : pmM} {m : Nat} {q : Nat → Nat} {t : moS} {kc ks : Nat} {Rt : pmR} {p0 : Nat} {p1 : Int32} {p2 : Int32} {r : Int64} (kp0 : Nat.ble (p0 + 1) 166 = true) (dp0 : moKd p0 = 2) (hw : mW C R base m q t kc ks) (h : M_highOf t p0 p1 p2 = (some r)) (k : Rt (some (.long r)) (moM R m q t) kc ks) : kP_Mo_highOf base sa [.ref (q p0), .int p1, .int p2] (moM R m q t) kc ks Rt := by
  refine ⟨Nat.le_of_ble_eq_true rfl, fun G hG => ?_⟩
  have b5 : ∀ (n : Nat) (a3 : Int64) (a5 : Int32), JJ C R base m G 5 [(0, .ref (q p0)), (1, .int p1), (2, .int p2), (3, .long a3), (5, .int a5)] [] q t kc ks (lpN (fun x => M_highOf_s5 t p0 p1 p2 x.1 x.2) n (a3, a5)) (some r) := by
    intro n
    induction n with
    | zero => intro a3 a5; exact jj_lp0
    | succ n ih5 =>
      intro a3 a5
      refine jj_lpS (fun y5 c5 => ?_)
      have b17 : ∀ (a3 : Int64) (a5 : Int32) (u0 : Int32) (u1 : Int32), JJ C R base m G 17 [(0, .ref (q p0)), (1, .int p1), (2, .int p2), (3, .long a3), (5, .int a5)] [.int u1, .int u0] q t kc ks (M_highOf_b17 t p0 p1 p2 a3 a5 u0 u1) (some y5) := by
        intro a3 a5 u0 u1
        refine jj_ige hG (t := 39) rfl rfl ?_ ?_
        · refine jj_exit c5 ?_
          refine jjs hG rfl rfl ?_
          refine jj_zne hG (t := 50) rfl rfl ?_ ?_
          · refine jjs hG rfl rfl ?_
            exact jj_rl hG rfl rfl k
          refine jjs hG rfl rfl ?_
          refine jj_bi hG rfl cc_b32 ?_
          refine jjs hG rfl rfl ?_
          refine jj_go hG (t := 51) rfl rfl ?_
          exact jj_rl hG rfl rfl k
        refine jjs hG rfl rfl ?_
        refine jj_bi hG rfl cc_b8 ?_
        refine jjs hG rfl rfl ?_
        refine jjs hG rfl rfl ?_
        refine jjs hG rfl rfl ?_
        refine jjs hG rfl rfl ?_
        refine jjs hG rfl rfl ?_
        refine jj_ia hG (k := p0) rfl kp0 dp0 (fun x1 => ?_)
        refine jjs hG rfl rfl ?_
        refine jjs hG rfl rfl ?_
        refine jjc hG rfl rfl (Nat.le_of_ble_eq_true rfl) ?_
        refine jj_inc hG rfl (Nat.le_of_ble_eq_true rfl) rfl cc_i1 ?_
        refine jj_go hG (t := 5) rfl rfl ?_
        exact jj_back c5 (jj_wl hG [2, 3, 4, 1, 0] rfl (ih5 _ _))
      refine (show JJ C R base m G 5 [(0, .ref (q p0)), (1, .int p1), (2, .int p2), (3, .long a3), (5, .int a5)] [] q t kc ks (M_highOf_s5 t p0 p1 p2 a3 a5) (some y5) from ?_)
      refine jjs hG rfl rfl ?_
      refine jjs hG rfl rfl ?_
      refine jj_zne hG (t := 15) rfl rfl ?_ ?_
      · refine jj_bi hG rfl cc_b8 ?_
        exact jj_wl hG [0, 1, 2, 3, 4] rfl (b17 _ _ _ _)
      refine jj_ic hG rfl cc_i4 ?_
      refine jj_go hG (t := 17) rfl rfl ?_
      exact jj_wl hG [0, 1, 2, 3, 4] rfl (b17 _ _ _ _)
  refine (show JJ C R base m G 0 [(0, .ref (q p0)), (1, .int p1), (2, .int p2)] [] q t kc ks (M_highOf t p0 p1 p2) (some r) from ?_) hw h
  refine jj_lc hG (c := 0) (v := 0) rfl rfl ?_
  refine jjc hG rfl rfl (Nat.le_of_ble_eq_true rfl) ?_
  refine jj_ic hG rfl cc_i0 ?_
  refine jjc hG rfl rfl (Nat.le_of_ble_eq_true rfl) ?_
  refine jj_lp (fun n => ?_)
  exact jj_wl hG [2, 3, 4, 1, 0] rfl (b5 n _ _)
noncomputable def M_lowOf_s6 (t : moS) (p0 : Nat) (p1 : Int32) (p2 : Int32) (a3 : Int64) (a5 : Int32) : Option ((Int64 × Int32) ⊕ Int64) := if a5 < (16 : Int32) then (if p2 = (1 : Int32) then (Option.bind (rdI t p0 (p1 + a5)) (fun x1 => ((some (.inl (((a3 <<< ((Int32.toInt64 (8 : Int32)) &&& 63)) ||| (Int32.toInt64 x1)), (a5 + (1 : Int32)))))))) else ((xo ((some a3))))) else ((xo ((some a3))))
noncomputable def M_lowOf_b6 (t : moS) (p0 : Nat) (p1 : Int32) (p2 : Int32) (a3 : Int64) (a5 : Int32) : Option Int64 := lp (fun x => M_lowOf_s6 t p0 p1 p2 x.1 x.2) (a3, a5)
noncomputable def M_lowOf (t : moS) (p0 : Nat) (p1 : Int32) (p2 : Int32) : Option Int64 := (M_lowOf_b6 t p0 p1 p2 (0 : Int64) (8 : Int32))
set_option maxRecDepth 100000 in
set_option maxHeartbeats 4000000 in
theorem k_lowOf (base : Nat) (sa : Nat → Nat) {C : Nat × Nat} {R : pmM} {m : Nat} {q : Nat → Nat} {t : moS} {kc ks : Nat} {Rt : pmR} {p0 : Nat} {p1 : Int32} {p2 : Int32} {r : Int64} (kp0 : Nat.ble (p0 + 1) 166 = true) (dp0 : moKd p0 = 2) (hw : mW C R base m q t kc ks) (h : M_lowOf t p0 p1 p2 = (some r)) (k : Rt (some (.long r)) (moM R m q t) kc ks) : kP_Mo_lowOf base sa [.ref (q p0), .int p1, .int p2] (moM R m q t) kc ks Rt := by
  refine ⟨Nat.le_of_ble_eq_true rfl, fun G hG => ?_⟩
  have b6 : ∀ (n : Nat) (a3 : Int64) (a5 : Int32), JJ C R base m G 6 [(0, .ref (q p0)), (1, .int p1), (2, .int p2), (3, .long a3), (5, .int a5)] [] q t kc ks (lpN (fun x => M_lowOf_s6 t p0 p1 p2 x.1 x.2) n (a3, a5)) (some r) := by
    intro n
    induction n with
    | zero => intro a3 a5; exact jj_lp0
    | succ n ih6 =>
      intro a3 a5
      refine jj_lpS (fun y6 c6 => ?_)
      refine (show JJ C R base m G 6 [(0, .ref (q p0)), (1, .int p1), (2, .int p2), (3, .long a3), (5, .int a5)] [] q t kc ks (M_lowOf_s6 t p0 p1 p2 a3 a5) (some y6) from ?_)
      refine jjs hG rfl rfl ?_
      refine jj_bi hG rfl cc_b16 ?_
      refine jj_ige hG (t := 37) rfl rfl ?_ ?_
      · refine jj_exit c6 ?_
        refine jjs hG rfl rfl ?_
        exact jj_rl hG rfl rfl k
      refine jjs hG rfl rfl ?_
      refine jj_ic hG rfl cc_i1 ?_
      refine jj_ine hG (t := 37) rfl rfl ?_ ?_
      · refine jj_exit c6 ?_
        refine jjs hG rfl rfl ?_
        exact jj_rl hG rfl rfl k
      refine jjs hG rfl rfl ?_
      refine jj_bi hG rfl cc_b8 ?_
      refine jjs hG rfl rfl ?_
      refine jjs hG rfl rfl ?_
      refine jjs hG rfl rfl ?_
      refine jjs hG rfl rfl ?_
      refine jjs hG rfl rfl ?_
      refine jj_ia hG (k := p0) rfl kp0 dp0 (fun x1 => ?_)
      refine jjs hG rfl rfl ?_
      refine jjs hG rfl rfl ?_
      refine jjc hG rfl rfl (Nat.le_of_ble_eq_true rfl) ?_
      refine jj_inc hG rfl (Nat.le_of_ble_eq_true rfl) rfl cc_i1 ?_
      refine jj_go hG (t := 6) rfl rfl ?_
      exact jj_back c6 (jj_wl hG [2, 3, 4, 1, 0] rfl (ih6 _ _))
  refine (show JJ C R base m G 0 [(0, .ref (q p0)), (1, .int p1), (2, .int p2)] [] q t kc ks (M_lowOf t p0 p1 p2) (some r) from ?_) hw h
  refine jj_lc hG (c := 0) (v := 0) rfl rfl ?_
  refine jjc hG rfl rfl (Nat.le_of_ble_eq_true rfl) ?_
  refine jj_bi hG rfl cc_b8 ?_
  refine jjc hG rfl rfl (Nat.le_of_ble_eq_true rfl) ?_
  refine jj_lp (fun n => ?_)
  exact jj_wl hG [2, 3, 4, 1, 0] rfl (b6 n _ _)
noncomputable def M_number4 (t : moS) (p0 : Nat) (p1 : Int32) : Option Int64 := Option.bind (rdI t p0 p1) (fun x1 => (Option.bind (rdI t p0 (p1 + (1 : Int32))) (fun x2 => (Option.bind (rdI t p0 (p1 + (2 : Int32))) (fun x3 => (Option.bind (rdI t p0 (p1 + (3 : Int32))) (fun x4 => ((some (((((Int32.toInt64 x1) <<< ((Int32.toInt64 (24 : Int32)) &&& 63)) ||| (Int32.toInt64 (x2 <<< ((16 : Int32) &&& 31)))) ||| (Int32.toInt64 (x3 <<< ((8 : Int32) &&& 31)))) ||| (Int32.toInt64 x4)))))))))))
set_option maxRecDepth 100000 in
set_option maxHeartbeats 4000000 in
theorem k_number4 (base : Nat) (sa : Nat → Nat) {C : Nat × Nat} {R : pmM} {m : Nat} {q : Nat → Nat} {t : moS} {kc ks : Nat} {Rt : pmR} {p0 : Nat} {p1 : Int32} {r : Int64} (kp0 : Nat.ble (p0 + 1) 166 = true) (dp0 : moKd p0 = 2) (hw : mW C R base m q t kc ks) (h : M_number4 t p0 p1 = (some r)) (k : Rt (some (.long r)) (moM R m q t) kc ks) : kP_Mo_number4 base sa [.ref (q p0), .int p1] (moM R m q t) kc ks Rt := by
  refine ⟨Nat.le_of_ble_eq_true rfl, fun G hG => ?_⟩
  refine (show JJ C R base m G 0 [(0, .ref (q p0)), (1, .int p1)] [] q t kc ks (M_number4 t p0 p1) (some r) from ?_) hw h
  refine jjs hG rfl rfl ?_
  refine jjs hG rfl rfl ?_
  refine jj_ia hG (k := p0) rfl kp0 dp0 (fun x1 => ?_)
  refine jjs hG rfl rfl ?_
  refine jj_bi hG rfl cc_b24 ?_
  refine jjs hG rfl rfl ?_
  refine jjs hG rfl rfl ?_
  refine jjs hG rfl rfl ?_
  refine jj_ic hG rfl cc_i1 ?_
  refine jjs hG rfl rfl ?_
  refine jj_ia hG (k := p0) rfl kp0 dp0 (fun x2 => ?_)
  refine jj_bi hG rfl cc_b16 ?_
  refine jjs hG rfl rfl ?_
  refine jjs hG rfl rfl ?_
  refine jjs hG rfl rfl ?_
  refine jjs hG rfl rfl ?_
  refine jjs hG rfl rfl ?_
  refine jj_ic hG rfl cc_i2 ?_
  refine jjs hG rfl rfl ?_
  refine jj_ia hG (k := p0) rfl kp0 dp0 (fun x3 => ?_)
  refine jj_bi hG rfl cc_b8 ?_
  refine jjs hG rfl rfl ?_
  refine jjs hG rfl rfl ?_
  refine jjs hG rfl rfl ?_
  refine jjs hG rfl rfl ?_
  refine jjs hG rfl rfl ?_
  refine jj_ic hG rfl cc_i3 ?_
  refine jjs hG rfl rfl ?_
  refine jj_ia hG (k := p0) rfl kp0 dp0 (fun x4 => ?_)
  refine jjs hG rfl rfl ?_
  refine jjs hG rfl rfl ?_
  exact jj_rl hG rfl rfl k
noncomputable def M_requests_b26 (t : moS) (p1 : Int32) (a2 : Int32) : Option ((Int32 × moS) ⊕ moS) := (some (.inl ((a2 + (1 : Int32)), t)))
noncomputable def M_requests_s2 (t : moS) (p1 : Int32) (a2 : Int32) : Option ((Int32 × moS) ⊕ moS) := if a2 < (2 : Int32) then (Option.bind (rdI t 75 (((2 : Int32) * p1) + a2)) (fun x1 => (if x1 = 0 then ((M_requests_b26 t p1 a2)) else (Option.bind (M_request t p1 a2) (fun s2 => ((M_requests_b26 s2 p1 a2))))))) else ((xo ((some t))))
noncomputable def M_requests_b2 (t : moS) (p1 : Int32) (a2 : Int32) : Option moS := lp (fun x => M_requests_s2 x.2 p1 x.1) (a2, t)
noncomputable def M_requests (t : moS) (p1 : Int32) : Option moS := (M_requests_b2 t p1 (0 : Int32))
set_option maxRecDepth 100000 in
set_option maxHeartbeats 4000000 in
theorem k_requests (base : Nat) (sa : Nat → Nat) {C : Nat × Nat} {R : pmM} {m : Nat} {q : Nat → Nat} {t tz : moS} {kc ks : Nat} {Rt : pmR} {p1 : Int32} (hw : mW C R base m q t kc ks) (h : M_requests t p1 = (some tz)) (k : mW C R base m q tz kc ks → Rt none (moM R m q tz) kc ks) : kP_Mo_requests base sa [.ref m, .int p1] (moM R m q t) kc ks Rt := by
  refine ⟨Nat.le_of_ble_eq_true rfl, fun G hG => ?_⟩
  have b2 : ∀ (n : Nat) (a2 : Int32) (t : moS), JJ C R base m G 2 [(0, .ref m), (1, .int p1), (2, .int a2)] [] q t kc ks (lpN (fun x => M_requests_s2 x.2 p1 x.1) n (a2, t)) (some tz) := by
    intro n
    induction n with
    | zero => intro a2 t; exact jj_lp0
    | succ n ih2 =>
      intro a2 t
      refine jj_lpS (fun y2 c2 => ?_)
      have b26 : ∀ (a2 : Int32) (t : moS), JJ C R base m G 26 [(0, .ref m), (1, .int p1), (2, .int a2)] [] q t kc ks (M_requests_b26 t p1 a2) (some y2) := by
        intro a2 t
        refine jj_inc hG rfl (Nat.le_of_ble_eq_true rfl) rfl cc_i1 ?_
        refine jj_go hG (t := 2) rfl rfl ?_
        exact jj_back c2 (jj_wl hG [1, 2, 0] rfl (ih2 _ _))
      refine (show JJ C R base m G 2 [(0, .ref m), (1, .int p1), (2, .int a2)] [] q t kc ks (M_requests_s2 t p1 a2) (some y2) from ?_)
      refine jjs hG rfl rfl ?_
      refine jj_ic hG rfl cc_i2 ?_
      refine jj_ige hG (t := 32) rfl rfl ?_ ?_
      · refine jj_exit c2 ?_
        exact jj_rvS hG rfl rfl (k)
      refine jjs hG rfl rfl ?_
      refine jj_gr hG (k := 75) rfl rfl rfl rfl ?_
      refine jj_ic hG rfl cc_i2 ?_
      refine jjs hG rfl rfl ?_
      refine jjs hG rfl rfl ?_
      refine jjs hG rfl rfl ?_
      refine jjs hG rfl rfl ?_
      refine jj_ba hG (k := 75) rfl rfl rfl (fun x1 => ?_)
      refine jj_zeq hG (t := 26) rfl rfl ?_ ?_
      · exact jj_wl hG [0, 1, 2] rfl (b26 _ _)
      refine jjs hG rfl rfl ?_
      refine jjs hG rfl rfl ?_
      refine jjs hG rfl rfl ?_
      refine jj_cv hG 0 rfl rfl (Nat.le_of_ble_eq_true rfl) (by decide) (Nat.le_of_ble_eq_true rfl) rfl (st' := []) rfl (fun _ _ hw h k => pm_rcv_of moM_m (k_request base sa hw h k)) (fun s2 => ?_)
      exact jj_wl hG [0, 1, 2] rfl (b26 _ _)
  refine (show JJ C R base m G 0 [(0, .ref m), (1, .int p1)] [] q t kc ks (M_requests t p1) (some tz) from ?_) hw h
  refine jj_ic hG rfl cc_i0 ?_
  refine jjc hG rfl rfl (Nat.le_of_ble_eq_true rfl) ?_
  refine jj_lp (fun n => ?_)
  exact jj_wl hG [1, 2, 0] rfl (b2 n _ _)
noncomputable def M_toldMetric_b236 (t : moS) (p1 : Int32) (p2 : Int32) (a4 : Int32) (a5 : Int32) (a6 : Int64) (a8 : Int64) (a10 : Int32) : Option (Int32 × moS) := Option.bind (rdI t 71 p2) (fun x1 => (Option.bind (M_offsetFor t p1 (1 : Int32) x1 a5 a6 a8 a10) (fun x2 => (if (16 : Int32) < (a4 + x2) then ((some ((16 : Int32), t))) else ((some ((a4 + x2), t)))))))
noncomputable def M_toldMetric_b234 (t : moS) (p1 : Int32) (p2 : Int32) (a5 : Int32) (a6 : Int64) (a8 : Int64) (a10 : Int32) (u0 : Int32) : Option (Int32 × moS) := (M_toldMetric_b236 t p1 p2 u0 a5 a6 a8 a10)
noncomputable def M_toldMetric_b105 (t : moS) (p1 : Int32) (p2 : Int32) (p3 : Int32) (a4 : Int32) : Option (Int32 × moS) := Option.bind (rdI t 106 p3) (fun x1 => (Option.bind (rdJ t 107 p3) (fun x2 => (Option.bind (rdJ t 108 p3) (fun x3 => (Option.bind (rdI t 109 p3) (fun x4 => (Option.bind (M_filterAllows t p1 (1 : Int32) x1 x2 x3 x4) (fun x5 => (if x5 = 0 then ((some (((-1) : Int32), t))) else (Option.bind (rdI t 71 p2) (fun x6 => (Option.bind (M_distributeAllows t p1 (1 : Int32) x6 x1 x2 x3 x4) (fun x7 => (if x7 = 0 then ((some (((-1) : Int32), t))) else (Option.bind (rdI t 113 p3) (fun x8 => (if x8 = p2 then (Option.bind (rdI t 110 p3) (fun x9 => (if x9 = (2 : Int32) then (Option.bind (rdJ t 73 p2) (fun x10 => (if x10 = (1969498085 : Int64) then ((some (((-1) : Int32), t))) else (Option.bind (rdJ t 73 p2) (fun x11 => (if x11 = (1677407014 : Int64) then ((M_toldMetric_b234 t p1 p2 x1 x2 x3 x4 (16 : Int32))) else ((M_toldMetric_b234 t p1 p2 x1 x2 x3 x4 a4)))))))) else ((some (((-1) : Int32), t)))))) else ((M_toldMetric_b236 t p1 p2 a4 x1 x2 x3 x4))))))))))))))))))))
noncomputable def M_toldMetric_b102 (t : moS) (p1 : Int32) (p2 : Int32) (p3 : Int32) (a4 : Int32) (u1 : Int32) : Option (Int32 × moS) := letS (moSS t 145 u1) (fun s1 => ((M_toldMetric_b105 s1 p1 p2 p3 a4)))
noncomputable def M_toldMetric_b45 (t : moS) (p1 : Int32) (p2 : Int32) (p3 : Int32) (a4 : Int32) (u0 : Int32) (u1 : Int32) : Option (Int32 × moS) := Option.bind (rdI t 68 (u0 + u1)) (fun x1 => (if x1 = 0 then ((some (((-1) : Int32), t))) else (Option.bind (rdI t 68 (u0 + u1)) (fun x2 => (if 0 < x2 then (Option.bind (rdI t 68 (u0 + u1)) (fun x3 => (Option.bind (rdI t 69 (u0 + u1)) (fun x4 => (if x4 = ((-1) : Int32) then ((M_toldMetric_b102 t p1 p2 p3 x3 (0 : Int32))) else (Option.bind (rdI t 69 (u0 + u1)) (fun x5 => ((M_toldMetric_b102 t p1 p2 p3 x3 x5))))))))) else ((M_toldMetric_b105 t p1 p2 p3 a4)))))))
noncomputable def M_toldMetric (t : moS) (p1 : Int32) (p2 : Int32) (p3 : Int32) : Option (Int32 × moS) := Option.bind (rdI t 111 p3) (fun x1 => (Option.bind (rdI t 112 p3) (fun x2 => (letS (moSS t 145 x2) (fun s3 => (Option.bind (rdI s3 110 p3) (fun x4 => (if x4 = (2 : Int32) then ((M_toldMetric_b105 s3 p1 p2 p3 x1)) else (Option.bind (rdI s3 110 p3) (fun x5 => (if x5 = 0 then ((M_toldMetric_b45 s3 p1 p2 p3 x1 ((2 : Int32) * p1) (0 : Int32))) else ((M_toldMetric_b45 s3 p1 p2 p3 x1 ((2 : Int32) * p1) (1 : Int32))))))))))))))
set_option maxRecDepth 100000 in
set_option maxHeartbeats 4000000 in
theorem k_toldMetric (base : Nat) (sa : Nat → Nat) {C : Nat × Nat} {R : pmM} {m : Nat} {q : Nat → Nat} {t tz : moS} {kc ks : Nat} {Rt : pmR} {p1 : Int32} {p2 : Int32} {p3 : Int32} {r : Int32} (hw : mW C R base m q t kc ks) (h : M_toldMetric t p1 p2 p3 = (some (r, tz))) (k : mW C R base m q tz kc ks → Rt (some (.int r)) (moM R m q tz) kc ks) : kP_Mo_toldMetric base sa [.ref m, .int p1, .int p2, .int p3] (moM R m q t) kc ks Rt := by
  refine ⟨Nat.le_of_ble_eq_true rfl, fun G hG => ?_⟩
  have b236 : ∀ (a4 : Int32) (a5 : Int32) (a6 : Int64) (a8 : Int64) (a10 : Int32) (t : moS), JJ C R base m G 236 [(0, .ref m), (1, .int p1), (2, .int p2), (4, .int a4), (5, .int a5), (6, .long a6), (8, .long a8), (10, .int a10)] [] q t kc ks (M_toldMetric_b236 t p1 p2 a4 a5 a6 a8 a10) (some (r, tz)) := by
    intro a4 a5 a6 a8 a10 t
    refine jjs hG rfl rfl ?_
    refine jjs hG rfl rfl ?_
    refine jjs hG rfl rfl ?_
    refine jj_ic hG rfl cc_i1 ?_
    refine jjs hG rfl rfl ?_
    refine jj_gr hG (k := 71) rfl rfl rfl rfl ?_
    refine jjs hG rfl rfl ?_
    refine jj_ia hG (k := 71) rfl rfl rfl (fun x1 => ?_)
    refine jjs hG rfl rfl ?_
    refine jjs hG rfl rfl ?_
    refine jjs hG rfl rfl ?_
    refine jjs hG rfl rfl ?_
    refine jj_cp hG 0 rfl rfl (Nat.le_of_ble_eq_true rfl) (by decide) (Nat.le_of_ble_eq_true rfl) rfl (st' := [.int a4]) rfl (w := .int) (fun _ _ hw h k => pm_rcv_of moM_m (k_offsetFor base sa hw h k)) (fun x2 => ?_)
    refine jjs hG rfl rfl ?_
    refine jjc hG rfl rfl (Nat.le_of_ble_eq_true rfl) ?_
    refine jjs hG rfl rfl ?_
    refine jj_bi hG rfl cc_b16 ?_
    refine jj_ile hG (t := 273) rfl rfl ?_ ?_
    · refine jjs hG rfl rfl ?_
      exact jj_riS hG rfl rfl rfl k
    refine jj_bi hG rfl cc_b16 ?_
    refine jj_go hG (t := 275) rfl rfl ?_
    exact jj_riS hG rfl rfl rfl k
  have b234 : ∀ (a5 : Int32) (a6 : Int64) (a8 : Int64) (a10 : Int32) (u0 : Int32) (t : moS), JJ C R base m G 234 [(0, .ref m), (1, .int p1), (2, .int p2), (5, .int a5), (6, .long a6), (8, .long a8), (10, .int a10)] [.int u0] q t kc ks (M_toldMetric_b234 t p1 p2 a5 a6 a8 a10 u0) (some (r, tz)) := by
    intro a5 a6 a8 a10 u0 t
    refine jjc hG rfl rfl (Nat.le_of_ble_eq_true rfl) ?_
    exact jj_wl hG [1, 2, 3, 0, 4, 5, 6, 7] rfl (b236 _ _ _ _ _ _)
  have b105 : ∀ (a4 : Int32) (t : moS), JJ C R base m G 105 [(0, .ref m), (1, .int p1), (2, .int p2), (3, .int p3), (4, .int a4)] [] q t kc ks (M_toldMetric_b105 t p1 p2 p3 a4) (some (r, tz)) := by
    intro a4 t
    refine jjs hG rfl rfl ?_
    refine jj_gr hG (k := 106) rfl rfl rfl rfl ?_
    refine jjs hG rfl rfl ?_
    refine jj_ia hG (k := 106) rfl rfl rfl (fun x1 => ?_)
    refine jjc hG rfl rfl (Nat.le_of_ble_eq_true rfl) ?_
    refine jjs hG rfl rfl ?_
    refine jj_gr hG (k := 107) rfl rfl rfl rfl ?_
    refine jjs hG rfl rfl ?_
    refine jj_la hG (k := 107) rfl rfl rfl (fun x2 => ?_)
    refine jjc hG rfl rfl (Nat.le_of_ble_eq_true rfl) ?_
    refine jjs hG rfl rfl ?_
    refine jj_gr hG (k := 108) rfl rfl rfl rfl ?_
    refine jjs hG rfl rfl ?_
    refine jj_la hG (k := 108) rfl rfl rfl (fun x3 => ?_)
    refine jjc hG rfl rfl (Nat.le_of_ble_eq_true rfl) ?_
    refine jjs hG rfl rfl ?_
    refine jj_gr hG (k := 109) rfl rfl rfl rfl ?_
    refine jjs hG rfl rfl ?_
    refine jj_ia hG (k := 109) rfl rfl rfl (fun x4 => ?_)
    refine jjc hG rfl rfl (Nat.le_of_ble_eq_true rfl) ?_
    refine jjs hG rfl rfl ?_
    refine jjs hG rfl rfl ?_
    refine jj_ic hG rfl cc_i1 ?_
    refine jjs hG rfl rfl ?_
    refine jjs hG rfl rfl ?_
    refine jjs hG rfl rfl ?_
    refine jjs hG rfl rfl ?_
    refine jj_cp hG 0 rfl rfl (Nat.le_of_ble_eq_true rfl) (by decide) (Nat.le_of_ble_eq_true rfl) rfl (st' := []) rfl (w := .int) (fun _ _ hw h k => pm_rcv_of moM_m (k_filterAllows base sa hw h k)) (fun x5 => ?_)
    refine jj_zeq hG (t := 177) rfl rfl ?_ ?_
    · refine jj_ic hG rfl cc_im1 ?_
      exact jj_riS hG rfl rfl rfl k
    refine jjs hG rfl rfl ?_
    refine jjs hG rfl rfl ?_
    refine jj_ic hG rfl cc_i1 ?_
    refine jjs hG rfl rfl ?_
    refine jj_gr hG (k := 71) rfl rfl rfl rfl ?_
    refine jjs hG rfl rfl ?_
    refine jj_ia hG (k := 71) rfl rfl rfl (fun x6 => ?_)
    refine jjs hG rfl rfl ?_
    refine jjs hG rfl rfl ?_
    refine jjs hG rfl rfl ?_
    refine jjs hG rfl rfl ?_
    refine jj_cp hG 0 rfl rfl (Nat.le_of_ble_eq_true rfl) (by decide) (Nat.le_of_ble_eq_true rfl) rfl (st' := []) rfl (w := .int) (fun _ _ hw h k => pm_rcv_of moM_m (k_distributeAllows base sa hw h k)) (fun x7 => ?_)
    refine jj_zne hG (t := 179) rfl rfl ?_ ?_
    · refine jjs hG rfl rfl ?_
      refine jj_gr hG (k := 113) rfl rfl rfl rfl ?_
      refine jjs hG rfl rfl ?_
      refine jj_ia hG (k := 113) rfl rfl rfl (fun x8 => ?_)
      refine jjs hG rfl rfl ?_
      refine jj_ine hG (t := 236) rfl rfl ?_ ?_
      · exact jj_wl hG [4, 5, 6, 8, 3, 2, 1, 0] rfl (b236 _ _ _ _ _ _)
      refine jjs hG rfl rfl ?_
      refine jj_gr hG (k := 110) rfl rfl rfl rfl ?_
      refine jjs hG rfl rfl ?_
      refine jj_ia hG (k := 110) rfl rfl rfl (fun x9 => ?_)
      refine jj_ic hG rfl cc_i2 ?_
      refine jj_ine hG (t := 212) rfl rfl ?_ ?_
      · refine jj_ic hG rfl cc_im1 ?_
        exact jj_riS hG rfl rfl rfl k
      refine jjs hG rfl rfl ?_
      refine jj_gr hG (k := 73) rfl rfl rfl rfl ?_
      refine jjs hG rfl rfl ?_
      refine jj_la hG (k := 73) rfl rfl rfl (fun x10 => ?_)
      refine jj_l2 hG (v := (1969498085 : Int64)) rfl rfl ?_
      refine jjs hG rfl rfl ?_
      refine jj_lne hG (t := 214) rfl rfl ?_ ?_
      · refine jjs hG rfl rfl ?_
        refine jj_gr hG (k := 73) rfl rfl rfl rfl ?_
        refine jjs hG rfl rfl ?_
        refine jj_la hG (k := 73) rfl rfl rfl (fun x11 => ?_)
        refine jj_l2 hG (v := (1677407014 : Int64)) rfl rfl ?_
        refine jjs hG rfl rfl ?_
        refine jj_lne hG (t := 232) rfl rfl ?_ ?_
        · refine jjs hG rfl rfl ?_
          exact jj_wl hG [4, 5, 6, 3, 2, 1, 0] rfl (b234 _ _ _ _ _ _)
        refine jj_bi hG rfl cc_b16 ?_
        refine jj_go hG (t := 234) rfl rfl ?_
        exact jj_wl hG [4, 5, 6, 3, 2, 1, 0] rfl (b234 _ _ _ _ _ _)
      refine jj_ic hG rfl cc_im1 ?_
      exact jj_riS hG rfl rfl rfl k
    refine jj_ic hG rfl cc_im1 ?_
    exact jj_riS hG rfl rfl rfl k
  have b102 : ∀ (a4 : Int32) (u1 : Int32) (t : moS), JJ C R base m G 102 [(0, .ref m), (1, .int p1), (2, .int p2), (3, .int p3), (4, .int a4)] [.int u1, .ref m] q t kc ks (M_toldMetric_b102 t p1 p2 p3 a4 u1) (some (r, tz)) := by
    intro a4 u1 t
    refine jj_pi hG (k := 145) rfl rfl rfl rfl (fun s1 => ?_)
    exact jj_wl hG [0, 1, 2, 3, 4] rfl (b105 _ _)
  have b45 : ∀ (a4 : Int32) (u0 : Int32) (u1 : Int32) (t : moS), JJ C R base m G 45 [(0, .ref m), (1, .int p1), (2, .int p2), (3, .int p3), (4, .int a4)] [.int u1, .int u0] q t kc ks (M_toldMetric_b45 t p1 p2 p3 a4 u0 u1) (some (r, tz)) := by
    intro a4 u0 u1 t
    refine jjs hG rfl rfl ?_
    refine jjc hG rfl rfl (Nat.le_of_ble_eq_true rfl) ?_
    refine jjs hG rfl rfl ?_
    refine jj_gr hG (k := 68) rfl rfl rfl rfl ?_
    refine jjs hG rfl rfl ?_
    refine jj_ia hG (k := 68) rfl rfl rfl (fun x1 => ?_)
    refine jj_zne hG (t := 60) rfl rfl ?_ ?_
    · refine jjs hG rfl rfl ?_
      refine jj_gr hG (k := 68) rfl rfl rfl rfl ?_
      refine jjs hG rfl rfl ?_
      refine jj_ia hG (k := 68) rfl rfl rfl (fun x2 => ?_)
      refine jj_zle hG (t := 105) rfl rfl ?_ ?_
      · exact jj_wl hG [1, 2, 3, 4, 5] rfl (b105 _ _)
      refine jjs hG rfl rfl ?_
      refine jj_gr hG (k := 68) rfl rfl rfl rfl ?_
      refine jjs hG rfl rfl ?_
      refine jj_ia hG (k := 68) rfl rfl rfl (fun x3 => ?_)
      refine jjc hG rfl rfl (Nat.le_of_ble_eq_true rfl) ?_
      refine jjs hG rfl rfl ?_
      refine jjs hG rfl rfl ?_
      refine jj_gr hG (k := 69) rfl rfl rfl rfl ?_
      refine jjs hG rfl rfl ?_
      refine jj_ia hG (k := 69) rfl rfl rfl (fun x4 => ?_)
      refine jj_ic hG rfl cc_im1 ?_
      refine jj_ine hG (t := 95) rfl rfl ?_ ?_
      · refine jjs hG rfl rfl ?_
        refine jj_gr hG (k := 69) rfl rfl rfl rfl ?_
        refine jjs hG rfl rfl ?_
        refine jj_ia hG (k := 69) rfl rfl rfl (fun x5 => ?_)
        exact jj_wl hG [2, 3, 4, 5, 0] rfl (b102 _ _ _)
      refine jj_ic hG rfl cc_i0 ?_
      refine jj_go hG (t := 102) rfl rfl ?_
      exact jj_wl hG [2, 3, 4, 5, 0] rfl (b102 _ _ _)
    refine jj_ic hG rfl cc_im1 ?_
    exact jj_riS hG rfl rfl rfl k
  refine (show JJ C R base m G 0 [(0, .ref m), (1, .int p1), (2, .int p2), (3, .int p3)] [] q t kc ks (M_toldMetric t p1 p2 p3) (some (r, tz)) from ?_) hw h
  refine jjs hG rfl rfl ?_
  refine jj_gr hG (k := 111) rfl rfl rfl rfl ?_
  refine jjs hG rfl rfl ?_
  refine jj_ia hG (k := 111) rfl rfl rfl (fun x1 => ?_)
  refine jjc hG rfl rfl (Nat.le_of_ble_eq_true rfl) ?_
  refine jjs hG rfl rfl ?_
  refine jjs hG rfl rfl ?_
  refine jj_gr hG (k := 112) rfl rfl rfl rfl ?_
  refine jjs hG rfl rfl ?_
  refine jj_ia hG (k := 112) rfl rfl rfl (fun x2 => ?_)
  refine jj_pi hG (k := 145) rfl rfl rfl rfl (fun s3 => ?_)
  refine jjs hG rfl rfl ?_
  refine jj_gr hG (k := 110) rfl rfl rfl rfl ?_
  refine jjs hG rfl rfl ?_
  refine jj_ia hG (k := 110) rfl rfl rfl (fun x4 => ?_)
  refine jj_ic hG rfl cc_i2 ?_
  refine jj_ieq hG (t := 105) rfl rfl ?_ ?_
  · exact jj_wl hG [1, 2, 3, 4, 0] rfl (b105 _ _)
  refine jj_ic hG rfl cc_i2 ?_
  refine jjs hG rfl rfl ?_
  refine jjs hG rfl rfl ?_
  refine jjs hG rfl rfl ?_
  refine jj_gr hG (k := 110) rfl rfl rfl rfl ?_
  refine jjs hG rfl rfl ?_
  refine jj_ia hG (k := 110) rfl rfl rfl (fun x5 => ?_)
  refine jj_zne hG (t := 44) rfl rfl ?_ ?_
  · refine jj_ic hG rfl cc_i1 ?_
    exact jj_wl hG [1, 2, 3, 4, 0] rfl (b45 _ _ _ _)
  refine jj_ic hG rfl cc_i0 ?_
  refine jj_go hG (t := 45) rfl rfl ?_
  exact jj_wl hG [1, 2, 3, 4, 0] rfl (b45 _ _ _ _)
noncomputable def M_enter_b144 (t : moS) (p1 : Int64) (p3 : Int64) (p5 : Int32) (p6 : Int32) (p7 : Int32) (a8 : Int32) : Option moS := Option.bind (wrJ t 140 a8 p1) (fun s1 => (Option.bind (wrJ s1 141 a8 p3) (fun s2 => (Option.bind (wrI s2 142 a8 p5) (fun s3 => (Option.bind (wrI s3 143 a8 p6) (fun s4 => (Option.bind (wrI s4 144 a8 p7) (fun s5 => ((some s5)))))))))))
noncomputable def M_enter_s16 (t : moS) (p1 : Int64) (p3 : Int64) (p5 : Int32) (p6 : Int32) (p7 : Int32) (a8 : Int32) : Option ((Int32 × moS) ⊕ moS) := if 0 < a8 then (Option.bind (rdJ t 140 (a8 - (1 : Int32))) (fun x1 => (Option.bind (rdJ t 141 (a8 - (1 : Int32))) (fun x2 => (Option.bind (rdI t 142 (a8 - (1 : Int32))) (fun x3 => (Option.bind (M_isAhead p1 p3 p5 x1 x2 x3) (fun x4 => (if x4 = 0 then ((xo (M_enter_b144 t p1 p3 p5 p6 p7 a8))) else (Option.bind (rdJ t 140 (a8 - (1 : Int32))) (fun x5 => (Option.bind (wrJ t 140 a8 x5) (fun s6 => (Option.bind (rdJ s6 141 (a8 - (1 : Int32))) (fun x7 => (Option.bind (wrJ s6 141 a8 x7) (fun s8 => (Option.bind (rdI s8 142 (a8 - (1 : Int32))) (fun x9 => (Option.bind (wrI s8 142 a8 x9) (fun s10 => (Option.bind (rdI s10 143 (a8 - (1 : Int32))) (fun x11 => (Option.bind (wrI s10 143 a8 x11) (fun s12 => (Option.bind (rdI s12 144 (a8 - (1 : Int32))) (fun x13 => (Option.bind (wrI s12 144 a8 x13) (fun s14 => ((some (.inl ((a8 + ((-1) : Int32)), s14))))))))))))))))))))))))))))))))) else ((xo (M_enter_b144 t p1 p3 p5 p6 p7 a8)))
noncomputable def M_enter_b16 (t : moS) (p1 : Int64) (p3 : Int64) (p5 : Int32) (p6 : Int32) (p7 : Int32) (a8 : Int32) : Option moS := lp (fun x => M_enter_s16 x.2 p1 p3 p5 p6 p7 x.1) (a8, t)
noncomputable def M_enter (t : moS) (p1 : Int64) (p3 : Int64) (p5 : Int32) (p6 : Int32) (p7 : Int32) : Option moS := letS (moSS t 139 ((moS.S t 139) + (1 : Int32))) (fun s1 => ((M_enter_b16 s1 p1 p3 p5 p6 p7 (moS.S t 139))))
set_option maxRecDepth 100000 in
set_option maxHeartbeats 4000000 in
theorem k_enter (base : Nat) (sa : Nat → Nat) {C : Nat × Nat} {R : pmM} {m : Nat} {q : Nat → Nat} {t tz : moS} {kc ks : Nat} {Rt : pmR} {p1 : Int64} {p3 : Int64} {p5 : Int32} {p6 : Int32} {p7 : Int32} (hw : mW C R base m q t kc ks) (h : M_enter t p1 p3 p5 p6 p7 = (some tz)) (k : mW C R base m q tz kc ks → Rt none (moM R m q tz) kc ks) : kP_Mo_enter base sa [.ref m, .long p1, .long p3, .int p5, .int p6, .int p7] (moM R m q t) kc ks Rt := by
  refine ⟨Nat.le_of_ble_eq_true rfl, fun G hG => ?_⟩
  have b144 : ∀ (a8 : Int32) (t : moS), JJ C R base m G 144 [(0, .ref m), (1, .long p1), (3, .long p3), (5, .int p5), (6, .int p6), (7, .int p7), (8, .int a8)] [] q t kc ks (M_enter_b144 t p1 p3 p5 p6 p7 a8) (some tz) := by
    intro a8 t
    refine jjs hG rfl rfl ?_
    refine jj_gr hG (k := 140) rfl rfl rfl rfl ?_
    refine jjs hG rfl rfl ?_
    refine jjs hG rfl rfl ?_
    refine jj_ls hG (k := 140) rfl rfl rfl (fun s1 => ?_)
    refine jjs hG rfl rfl ?_
    refine jj_gr hG (k := 141) rfl rfl rfl rfl ?_
    refine jjs hG rfl rfl ?_
    refine jjs hG rfl rfl ?_
    refine jj_ls hG (k := 141) rfl rfl rfl (fun s2 => ?_)
    refine jjs hG rfl rfl ?_
    refine jj_gr hG (k := 142) rfl rfl rfl rfl ?_
    refine jjs hG rfl rfl ?_
    refine jjs hG rfl rfl ?_
    refine jj_is hG (k := 142) rfl rfl rfl (fun s3 => ?_)
    refine jjs hG rfl rfl ?_
    refine jj_gr hG (k := 143) rfl rfl rfl rfl ?_
    refine jjs hG rfl rfl ?_
    refine jjs hG rfl rfl ?_
    refine jj_is hG (k := 143) rfl rfl rfl (fun s4 => ?_)
    refine jjs hG rfl rfl ?_
    refine jj_gr hG (k := 144) rfl rfl rfl rfl ?_
    refine jjs hG rfl rfl ?_
    refine jjs hG rfl rfl ?_
    refine jj_is hG (k := 144) rfl rfl rfl (fun s5 => ?_)
    exact jj_rvS hG rfl rfl (k)
  have b16 : ∀ (n : Nat) (a8 : Int32) (t : moS), JJ C R base m G 16 [(0, .ref m), (1, .long p1), (3, .long p3), (5, .int p5), (6, .int p6), (7, .int p7), (8, .int a8)] [] q t kc ks (lpN (fun x => M_enter_s16 x.2 p1 p3 p5 p6 p7 x.1) n (a8, t)) (some tz) := by
    intro n
    induction n with
    | zero => intro a8 t; exact jj_lp0
    | succ n ih16 =>
      intro a8 t
      refine jj_lpS (fun y16 c16 => ?_)
      refine (show JJ C R base m G 16 [(0, .ref m), (1, .long p1), (3, .long p3), (5, .int p5), (6, .int p6), (7, .int p7), (8, .int a8)] [] q t kc ks (M_enter_s16 t p1 p3 p5 p6 p7 a8) (some y16) from ?_)
      refine jjs hG rfl rfl ?_
      refine jj_zle hG (t := 144) rfl rfl ?_ ?_
      · refine jj_exit c16 ?_
        exact jj_wl hG [0, 1, 2, 3, 4, 5, 6] rfl (b144 _ _)
      refine jjs hG rfl rfl ?_
      refine jjs hG rfl rfl ?_
      refine jjs hG rfl rfl ?_
      refine jjs hG rfl rfl ?_
      refine jj_gr hG (k := 140) rfl rfl rfl rfl ?_
      refine jjs hG rfl rfl ?_
      refine jj_ic hG rfl cc_i1 ?_
      refine jjs hG rfl rfl ?_
      refine jj_la hG (k := 140) rfl rfl rfl (fun x1 => ?_)
      refine jjs hG rfl rfl ?_
      refine jj_gr hG (k := 141) rfl rfl rfl rfl ?_
      refine jjs hG rfl rfl ?_
      refine jj_ic hG rfl cc_i1 ?_
      refine jjs hG rfl rfl ?_
      refine jj_la hG (k := 141) rfl rfl rfl (fun x2 => ?_)
      refine jjs hG rfl rfl ?_
      refine jj_gr hG (k := 142) rfl rfl rfl rfl ?_
      refine jjs hG rfl rfl ?_
      refine jj_ic hG rfl cc_i1 ?_
      refine jjs hG rfl rfl ?_
      refine jj_ia hG (k := 142) rfl rfl rfl (fun x3 => ?_)
      refine jj_cp hG 2 rfl rfl (Nat.le_of_ble_eq_true rfl) (by decide) (Nat.le_of_ble_eq_true rfl) rfl (st' := []) rfl (w := .int) (fun _ _ hw h k => k_isAhead base sa hw h k) (fun x4 => ?_)
      refine jj_zeq hG (t := 144) rfl rfl ?_ ?_
      · refine jj_exit c16 ?_
        exact jj_wl hG [0, 1, 2, 3, 4, 5, 6] rfl (b144 _ _)
      refine jjs hG rfl rfl ?_
      refine jj_gr hG (k := 140) rfl rfl rfl rfl ?_
      refine jjs hG rfl rfl ?_
      refine jjs hG rfl rfl ?_
      refine jj_gr hG (k := 140) rfl rfl rfl rfl ?_
      refine jjs hG rfl rfl ?_
      refine jj_ic hG rfl cc_i1 ?_
      refine jjs hG rfl rfl ?_
      refine jj_la hG (k := 140) rfl rfl rfl (fun x5 => ?_)
      refine jj_ls hG (k := 140) rfl rfl rfl (fun s6 => ?_)
      refine jjs hG rfl rfl ?_
      refine jj_gr hG (k := 141) rfl rfl rfl rfl ?_
      refine jjs hG rfl rfl ?_
      refine jjs hG rfl rfl ?_
      refine jj_gr hG (k := 141) rfl rfl rfl rfl ?_
      refine jjs hG rfl rfl ?_
      refine jj_ic hG rfl cc_i1 ?_
      refine jjs hG rfl rfl ?_
      refine jj_la hG (k := 141) rfl rfl rfl (fun x7 => ?_)
      refine jj_ls hG (k := 141) rfl rfl rfl (fun s8 => ?_)
      refine jjs hG rfl rfl ?_
      refine jj_gr hG (k := 142) rfl rfl rfl rfl ?_
      refine jjs hG rfl rfl ?_
      refine jjs hG rfl rfl ?_
      refine jj_gr hG (k := 142) rfl rfl rfl rfl ?_
      refine jjs hG rfl rfl ?_
      refine jj_ic hG rfl cc_i1 ?_
      refine jjs hG rfl rfl ?_
      refine jj_ia hG (k := 142) rfl rfl rfl (fun x9 => ?_)
      refine jj_is hG (k := 142) rfl rfl rfl (fun s10 => ?_)
      refine jjs hG rfl rfl ?_
      refine jj_gr hG (k := 143) rfl rfl rfl rfl ?_
      refine jjs hG rfl rfl ?_
      refine jjs hG rfl rfl ?_
      refine jj_gr hG (k := 143) rfl rfl rfl rfl ?_
      refine jjs hG rfl rfl ?_
      refine jj_ic hG rfl cc_i1 ?_
      refine jjs hG rfl rfl ?_
      refine jj_ia hG (k := 143) rfl rfl rfl (fun x11 => ?_)
      refine jj_is hG (k := 143) rfl rfl rfl (fun s12 => ?_)
      refine jjs hG rfl rfl ?_
      refine jj_gr hG (k := 144) rfl rfl rfl rfl ?_
      refine jjs hG rfl rfl ?_
      refine jjs hG rfl rfl ?_
      refine jj_gr hG (k := 144) rfl rfl rfl rfl ?_
      refine jjs hG rfl rfl ?_
      refine jj_ic hG rfl cc_i1 ?_
      refine jjs hG rfl rfl ?_
      refine jj_ia hG (k := 144) rfl rfl rfl (fun x13 => ?_)
      refine jj_is hG (k := 144) rfl rfl rfl (fun s14 => ?_)
      refine jj_inc hG rfl (Nat.le_of_ble_eq_true rfl) rfl cc_im1 ?_
      refine jj_go hG (t := 16) rfl rfl ?_
      exact jj_back c16 (jj_wl hG [1, 2, 3, 4, 5, 6, 0] rfl (ih16 _ _))
  refine (show JJ C R base m G 0 [(0, .ref m), (1, .long p1), (3, .long p3), (5, .int p5), (6, .int p6), (7, .int p7)] [] q t kc ks (M_enter t p1 p3 p5 p6 p7) (some tz) from ?_) hw h
  refine jjs hG rfl rfl ?_
  refine jj_gi hG (k := 139) rfl rfl rfl rfl ?_
  refine jjc hG rfl rfl (Nat.le_of_ble_eq_true rfl) ?_
  refine jjs hG rfl rfl ?_
  refine jjc hG rfl rfl rfl ?_
  refine jj_gi hG (k := 139) rfl rfl rfl rfl ?_
  refine jj_ic hG rfl cc_i1 ?_
  refine jjs hG rfl rfl ?_
  refine jj_pi hG (k := 139) rfl rfl rfl rfl (fun s1 => ?_)
  refine jj_lp (fun n => ?_)
  exact jj_wl hG [1, 2, 3, 4, 5, 6, 0] rfl (b16 n _ _)
