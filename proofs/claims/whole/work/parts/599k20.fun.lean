/-! The model as functions, by program: layEntry .. isNotOlder -/
noncomputable def M_layEntry_s3 (t : moS) (p1 : Int32) (p2 : Int32) (p3 : Int32) (a4 : Int32) : Option ((Int32 × moS) ⊕ moS) := if a4 < (20 : Int32) then (Option.bind (wrI t 146 (p2 + a4) (0 : Int32)) (fun s19 => ((some (.inl ((a4 + (1 : Int32)), s19)))))) else ((xo (if p1 = (1 : Int32) then (Option.bind (rdJ t 140 p3) (fun x10 => (Option.bind (rdJ t 141 p3) (fun x11 => (Option.bind (M_putAddress t 146 p2 (1 : Int32) x10 x11) (fun s12 => (Option.bind (rdI s12 144 p3) (fun x13 => (Option.bind (M_put2 s12 146 (p2 + (16 : Int32)) x13) (fun s14 => (Option.bind (rdI s14 142 p3) (fun x15 => (Option.bind (wrI s14 146 (p2 + (18 : Int32)) x15) (fun s16 => (Option.bind (rdI s16 143 p3) (fun x17 => (Option.bind (wrI s16 146 (p2 + (19 : Int32)) x17) (fun s18 => ((some s18)))))))))))))))))))) else (Option.bind (wrI t 146 (p2 + (1 : Int32)) (2 : Int32)) (fun s1 => (Option.bind (rdI s1 144 p3) (fun x2 => (Option.bind (M_put2 s1 146 (p2 + (2 : Int32)) x2) (fun s3 => (Option.bind (rdJ s3 140 p3) (fun x4 => (Option.bind (M_putAddress s3 146 (p2 + (4 : Int32)) (0 : Int32) x4 (0 : Int64)) (fun s5 => (Option.bind (rdI s5 142 p3) (fun x6 => (Option.bind (M_putAddress s5 146 (p2 + (8 : Int32)) (0 : Int32) (M_maskHigh x6) (0 : Int64)) (fun s7 => (Option.bind (rdI s7 143 p3) (fun x8 => (Option.bind (M_put4 s7 146 (p2 + (16 : Int32)) x8) (fun s9 => ((some s9)))))))))))))))))))))))
noncomputable def M_layEntry_b3 (t : moS) (p1 : Int32) (p2 : Int32) (p3 : Int32) (a4 : Int32) : Option moS := lp (fun x => M_layEntry_s3 x.2 p1 p2 p3 x.1) (a4, t)
noncomputable def M_layEntry (t : moS) (p1 : Int32) (p2 : Int32) (p3 : Int32) : Option moS := (M_layEntry_b3 t p1 p2 p3 (0 : Int32))
set_option maxRecDepth 100000 in
set_option maxHeartbeats 4000000 in
theorem k_layEntry (base : Nat) (sa : Nat → Nat) {C : Nat × Nat} {R : pmM} {m : Nat} {q : Nat → Nat} {t tz : moS} {kc ks : Nat} {Rt : pmR} {p1 : Int32} {p2 : Int32} {p3 : Int32} (hw : mW C R base m q t kc ks) (h : M_layEntry t p1 p2 p3 = (some tz)) (k : mW C R base m q tz kc ks → Rt none (moM R m q tz) kc ks) : kP_Mo_layEntry base sa [.ref m, .int p1, .int p2, .int p3] (moM R m q t) kc ks Rt := by
  refine ⟨Nat.le_of_ble_eq_true rfl, fun G hG => ?_⟩
  have b3 : ∀ (n : Nat) (a4 : Int32) (t : moS), JJ C R base m G 3 [(0, .ref m), (1, .int p1), (2, .int p2), (3, .int p3), (4, .int a4)] [] q t kc ks (lpN (fun x => M_layEntry_s3 x.2 p1 p2 p3 x.1) n (a4, t)) (some tz) := by
    intro n
    induction n with
    | zero => intro a4 t; exact jj_lp0
    | succ n ih3 =>
      intro a4 t
      refine jj_lpS (fun y3 c3 => ?_)
      refine (show JJ C R base m G 3 [(0, .ref m), (1, .int p1), (2, .int p2), (3, .int p3), (4, .int a4)] [] q t kc ks (M_layEntry_s3 t p1 p2 p3 a4) (some y3) from ?_)
      refine jjs hG rfl rfl ?_
      refine jj_bi hG rfl cc_b20 ?_
      refine jj_ige hG (t := 26) rfl rfl ?_ ?_
      · refine jj_exit c3 ?_
        refine jjs hG rfl rfl ?_
        refine jj_ic hG rfl cc_i1 ?_
        refine jj_ine hG (t := 102) rfl rfl ?_ ?_
        · refine jjs hG rfl rfl ?_
          refine jj_gr hG (k := 146) rfl rfl rfl rfl ?_
          refine jjs hG rfl rfl ?_
          refine jj_ic hG rfl cc_i1 ?_
          refine jjs hG rfl rfl ?_
          refine jj_ic hG rfl cc_i2 ?_
          refine jj_is hG (k := 146) rfl rfl rfl (fun s1 => ?_)
          refine jjs hG rfl rfl ?_
          refine jjs hG rfl rfl ?_
          refine jj_gr hG (k := 146) rfl rfl rfl rfl ?_
          refine jjs hG rfl rfl ?_
          refine jj_ic hG rfl cc_i2 ?_
          refine jjs hG rfl rfl ?_
          refine jjs hG rfl rfl ?_
          refine jj_gr hG (k := 144) rfl rfl rfl rfl ?_
          refine jjs hG rfl rfl ?_
          refine jj_ia hG (k := 144) rfl rfl rfl (fun x2 => ?_)
          refine jj_cv hG 0 rfl rfl (Nat.le_of_ble_eq_true rfl) (by decide) (Nat.le_of_ble_eq_true rfl) rfl (st' := []) rfl (fun _ _ hw h k => pm_rcv_of moM_m (k_put2 base sa rfl rfl hw h k)) (fun s3 => ?_)
          refine jjs hG rfl rfl ?_
          refine jjs hG rfl rfl ?_
          refine jj_gr hG (k := 146) rfl rfl rfl rfl ?_
          refine jjs hG rfl rfl ?_
          refine jj_ic hG rfl cc_i4 ?_
          refine jjs hG rfl rfl ?_
          refine jj_ic hG rfl cc_i0 ?_
          refine jjs hG rfl rfl ?_
          refine jj_gr hG (k := 140) rfl rfl rfl rfl ?_
          refine jjs hG rfl rfl ?_
          refine jj_la hG (k := 140) rfl rfl rfl (fun x4 => ?_)
          refine jj_lc hG (c := 0) (v := 0) rfl rfl ?_
          refine jj_cv hG 0 rfl rfl (Nat.le_of_ble_eq_true rfl) (by decide) (Nat.le_of_ble_eq_true rfl) rfl (st' := []) rfl (fun _ _ hw h k => pm_rcv_of moM_m (k_putAddress base sa rfl rfl hw h k)) (fun s5 => ?_)
          refine jjs hG rfl rfl ?_
          refine jjs hG rfl rfl ?_
          refine jj_gr hG (k := 146) rfl rfl rfl rfl ?_
          refine jjs hG rfl rfl ?_
          refine jj_bi hG rfl cc_b8 ?_
          refine jjs hG rfl rfl ?_
          refine jj_ic hG rfl cc_i0 ?_
          refine jjs hG rfl rfl ?_
          refine jj_gr hG (k := 142) rfl rfl rfl rfl ?_
          refine jjs hG rfl rfl ?_
          refine jj_ia hG (k := 142) rfl rfl rfl (fun x6 => ?_)
          refine jj_ct hG 2 rfl rfl (Nat.le_of_ble_eq_true rfl) (by decide) (Nat.le_of_ble_eq_true rfl) rfl (st' := [.int (0 : Int32), .int (p2 + (8 : Int32)), .ref (q 146), .ref m]) rfl (v := .long (M_maskHigh x6)) (fun _ hw k => k_maskHigh base sa hw rfl k) ?_
          refine jj_lc hG (c := 0) (v := 0) rfl rfl ?_
          refine jj_cv hG 0 rfl rfl (Nat.le_of_ble_eq_true rfl) (by decide) (Nat.le_of_ble_eq_true rfl) rfl (st' := []) rfl (fun _ _ hw h k => pm_rcv_of moM_m (k_putAddress base sa rfl rfl hw h k)) (fun s7 => ?_)
          refine jjs hG rfl rfl ?_
          refine jjs hG rfl rfl ?_
          refine jj_gr hG (k := 146) rfl rfl rfl rfl ?_
          refine jjs hG rfl rfl ?_
          refine jj_bi hG rfl cc_b16 ?_
          refine jjs hG rfl rfl ?_
          refine jjs hG rfl rfl ?_
          refine jj_gr hG (k := 143) rfl rfl rfl rfl ?_
          refine jjs hG rfl rfl ?_
          refine jj_ia hG (k := 143) rfl rfl rfl (fun x8 => ?_)
          refine jj_cv hG 0 rfl rfl (Nat.le_of_ble_eq_true rfl) (by decide) (Nat.le_of_ble_eq_true rfl) rfl (st' := []) rfl (fun _ _ hw h k => pm_rcv_of moM_m (k_put4 base sa rfl rfl hw h k)) (fun s9 => ?_)
          exact jj_rvS hG rfl rfl (k)
        refine jjs hG rfl rfl ?_
        refine jjs hG rfl rfl ?_
        refine jj_gr hG (k := 146) rfl rfl rfl rfl ?_
        refine jjs hG rfl rfl ?_
        refine jj_ic hG rfl cc_i1 ?_
        refine jjs hG rfl rfl ?_
        refine jj_gr hG (k := 140) rfl rfl rfl rfl ?_
        refine jjs hG rfl rfl ?_
        refine jj_la hG (k := 140) rfl rfl rfl (fun x10 => ?_)
        refine jjs hG rfl rfl ?_
        refine jj_gr hG (k := 141) rfl rfl rfl rfl ?_
        refine jjs hG rfl rfl ?_
        refine jj_la hG (k := 141) rfl rfl rfl (fun x11 => ?_)
        refine jj_cv hG 0 rfl rfl (Nat.le_of_ble_eq_true rfl) (by decide) (Nat.le_of_ble_eq_true rfl) rfl (st' := []) rfl (fun _ _ hw h k => pm_rcv_of moM_m (k_putAddress base sa rfl rfl hw h k)) (fun s12 => ?_)
        refine jjs hG rfl rfl ?_
        refine jjs hG rfl rfl ?_
        refine jj_gr hG (k := 146) rfl rfl rfl rfl ?_
        refine jjs hG rfl rfl ?_
        refine jj_bi hG rfl cc_b16 ?_
        refine jjs hG rfl rfl ?_
        refine jjs hG rfl rfl ?_
        refine jj_gr hG (k := 144) rfl rfl rfl rfl ?_
        refine jjs hG rfl rfl ?_
        refine jj_ia hG (k := 144) rfl rfl rfl (fun x13 => ?_)
        refine jj_cv hG 0 rfl rfl (Nat.le_of_ble_eq_true rfl) (by decide) (Nat.le_of_ble_eq_true rfl) rfl (st' := []) rfl (fun _ _ hw h k => pm_rcv_of moM_m (k_put2 base sa rfl rfl hw h k)) (fun s14 => ?_)
        refine jjs hG rfl rfl ?_
        refine jj_gr hG (k := 146) rfl rfl rfl rfl ?_
        refine jjs hG rfl rfl ?_
        refine jj_bi hG rfl cc_b18 ?_
        refine jjs hG rfl rfl ?_
        refine jjs hG rfl rfl ?_
        refine jj_gr hG (k := 142) rfl rfl rfl rfl ?_
        refine jjs hG rfl rfl ?_
        refine jj_ia hG (k := 142) rfl rfl rfl (fun x15 => ?_)
        refine jj_is hG (k := 146) rfl rfl rfl (fun s16 => ?_)
        refine jjs hG rfl rfl ?_
        refine jj_gr hG (k := 146) rfl rfl rfl rfl ?_
        refine jjs hG rfl rfl ?_
        refine jj_bi hG rfl cc_b19 ?_
        refine jjs hG rfl rfl ?_
        refine jjs hG rfl rfl ?_
        refine jj_gr hG (k := 143) rfl rfl rfl rfl ?_
        refine jjs hG rfl rfl ?_
        refine jj_ia hG (k := 143) rfl rfl rfl (fun x17 => ?_)
        refine jj_is hG (k := 146) rfl rfl rfl (fun s18 => ?_)
        exact jj_rvS hG rfl rfl (k)
      refine jjs hG rfl rfl ?_
      refine jj_gr hG (k := 146) rfl rfl rfl rfl ?_
      refine jjs hG rfl rfl ?_
      refine jjs hG rfl rfl ?_
      refine jjs hG rfl rfl ?_
      refine jj_ic hG rfl cc_i0 ?_
      refine jj_is hG (k := 146) rfl rfl rfl (fun s19 => ?_)
      refine jj_inc hG rfl (Nat.le_of_ble_eq_true rfl) rfl cc_i1 ?_
      refine jj_go hG (t := 3) rfl rfl ?_
      exact jj_back c3 (jj_wl hG [1, 2, 3, 4, 0] rfl (ih3 _ _))
  refine (show JJ C R base m G 0 [(0, .ref m), (1, .int p1), (2, .int p2), (3, .int p3)] [] q t kc ks (M_layEntry t p1 p2 p3) (some tz) from ?_) hw h
  refine jj_ic hG rfl cc_i0 ?_
  refine jjc hG rfl rfl (Nat.le_of_ble_eq_true rfl) ?_
  refine jj_lp (fun n => ?_)
  exact jj_wl hG [1, 2, 3, 4, 0] rfl (b3 n _ _)
noncomputable def M_tellTo_b76 (t : moS) (p1 : Int32) (p2 : Int32) (p3 : Int32) (p4 : Int64) (p6 : Int64) (a8 : Int32) (a9 : Int32) (a10 : Int32) : Option ((Int32 × Int32 × moS) ⊕ moS) := (some (.inl (a9, (a10 + (1 : Int32)), t)))
noncomputable def M_tellTo_b59 (t : moS) (p1 : Int32) (p2 : Int32) (p3 : Int32) (p4 : Int64) (p6 : Int64) (a8 : Int32) (a9 : Int32) (a10 : Int32) : Option ((Int32 × Int32 × moS) ⊕ moS) := Option.bind (M_send t p1 p2 (2 : Int32) a9 p3 p4 p6) (fun s1 => ((M_tellTo_b76 s1 p1 p2 p3 p4 p6 a8 (0 : Int32) a10)))
noncomputable def M_tellTo_s14 (t : moS) (p1 : Int32) (p2 : Int32) (p3 : Int32) (p4 : Int64) (p6 : Int64) (a8 : Int32) (a9 : Int32) (a10 : Int32) : Option ((Int32 × Int32 × moS) ⊕ moS) := if a10 < (moS.S t 139) then (Option.bind (M_layEntry t p2 ((20 : Int32) * a9) a10) (fun s1 => (if (a9 + (1 : Int32)) < a8 then (if (a10 + (1 : Int32)) < (moS.S s1 139) then ((M_tellTo_b76 s1 p1 p2 p3 p4 p6 a8 (a9 + (1 : Int32)) a10)) else ((M_tellTo_b59 s1 p1 p2 p3 p4 p6 a8 (a9 + (1 : Int32)) a10))) else ((M_tellTo_b59 s1 p1 p2 p3 p4 p6 a8 (a9 + (1 : Int32)) a10))))) else ((xo ((some t))))
noncomputable def M_tellTo_b14 (t : moS) (p1 : Int32) (p2 : Int32) (p3 : Int32) (p4 : Int64) (p6 : Int64) (a8 : Int32) (a9 : Int32) (a10 : Int32) : Option moS := lp (fun x => M_tellTo_s14 x.2.2 p1 p2 p3 p4 p6 a8 x.1 x.2.1) (a9, a10, t)
noncomputable def M_tellTo (t : moS) (p1 : Int32) (p2 : Int32) (p3 : Int32) (p4 : Int64) (p6 : Int64) : Option moS := Option.bind (M_mostEntries t p1 p2) (fun x1 => ((M_tellTo_b14 t p1 p2 p3 p4 p6 x1 (0 : Int32) (0 : Int32))))
set_option maxRecDepth 100000 in
set_option maxHeartbeats 4000000 in
theorem k_tellTo (base : Nat) (sa : Nat → Nat) {C : Nat × Nat} {R : pmM} {m : Nat} {q : Nat → Nat} {t tz : moS} {kc ks : Nat} {Rt : pmR} {p1 : Int32} {p2 : Int32} {p3 : Int32} {p4 : Int64} {p6 : Int64} (hw : mW C R base m q t kc ks) (h : M_tellTo t p1 p2 p3 p4 p6 = (some tz)) (k : mW C R base m q tz kc ks → Rt none (moM R m q tz) kc ks) : kP_Mo_tellTo base sa [.ref m, .int p1, .int p2, .int p3, .long p4, .long p6] (moM R m q t) kc ks Rt := by
  refine ⟨Nat.le_of_ble_eq_true rfl, fun G hG => ?_⟩
  have b14 : ∀ (a8 : Int32) (n : Nat) (a9 : Int32) (a10 : Int32) (t : moS), JJ C R base m G 14 [(0, .ref m), (1, .int p1), (2, .int p2), (3, .int p3), (4, .long p4), (6, .long p6), (8, .int a8), (9, .int a9), (10, .int a10)] [] q t kc ks (lpN (fun x => M_tellTo_s14 x.2.2 p1 p2 p3 p4 p6 a8 x.1 x.2.1) n (a9, a10, t)) (some tz) := by
    intro a8 n
    induction n with
    | zero => intro a9 a10 t; exact jj_lp0
    | succ n ih14 =>
      intro a9 a10 t
      refine jj_lpS (fun y14 c14 => ?_)
      have b76 : ∀ (a9 : Int32) (a10 : Int32) (t : moS), JJ C R base m G 76 [(0, .ref m), (1, .int p1), (2, .int p2), (3, .int p3), (4, .long p4), (6, .long p6), (8, .int a8), (9, .int a9), (10, .int a10)] [] q t kc ks (M_tellTo_b76 t p1 p2 p3 p4 p6 a8 a9 a10) (some y14) := by
        intro a9 a10 t
        refine jj_inc hG rfl (Nat.le_of_ble_eq_true rfl) rfl cc_i1 ?_
        refine jj_go hG (t := 14) rfl rfl ?_
        exact jj_back c14 (jj_wl hG [1, 2, 3, 4, 5, 6, 7, 8, 0] rfl (ih14 _ _ _))
      have b59 : ∀ (a9 : Int32) (a10 : Int32) (t : moS), JJ C R base m G 59 [(0, .ref m), (1, .int p1), (2, .int p2), (3, .int p3), (4, .long p4), (6, .long p6), (8, .int a8), (9, .int a9), (10, .int a10)] [] q t kc ks (M_tellTo_b59 t p1 p2 p3 p4 p6 a8 a9 a10) (some y14) := by
        intro a9 a10 t
        refine jjs hG rfl rfl ?_
        refine jjs hG rfl rfl ?_
        refine jjs hG rfl rfl ?_
        refine jj_ic hG rfl cc_i2 ?_
        refine jjs hG rfl rfl ?_
        refine jjs hG rfl rfl ?_
        refine jjs hG rfl rfl ?_
        refine jjs hG rfl rfl ?_
        refine jj_cv hG 0 rfl rfl (Nat.le_of_ble_eq_true rfl) (by decide) (Nat.le_of_ble_eq_true rfl) rfl (st' := []) rfl (fun _ _ hw h k => pm_rcv_of moM_m (k_send base sa hw h k)) (fun s1 => ?_)
        refine jj_ic hG rfl cc_i0 ?_
        refine jjc hG rfl rfl (Nat.le_of_ble_eq_true rfl) ?_
        exact jj_wl hG [1, 2, 3, 4, 5, 6, 7, 0, 8] rfl (b76 _ _ _)
      refine (show JJ C R base m G 14 [(0, .ref m), (1, .int p1), (2, .int p2), (3, .int p3), (4, .long p4), (6, .long p6), (8, .int a8), (9, .int a9), (10, .int a10)] [] q t kc ks (M_tellTo_s14 t p1 p2 p3 p4 p6 a8 a9 a10) (some y14) from ?_)
      refine jjs hG rfl rfl ?_
      refine jjs hG rfl rfl ?_
      refine jj_gi hG (k := 139) rfl rfl rfl rfl ?_
      refine jj_ige hG (t := 82) rfl rfl ?_ ?_
      · refine jj_exit c14 ?_
        exact jj_rvS hG rfl rfl (k)
      refine jjs hG rfl rfl ?_
      refine jjs hG rfl rfl ?_
      refine jj_bi hG rfl cc_b20 ?_
      refine jjs hG rfl rfl ?_
      refine jjs hG rfl rfl ?_
      refine jjs hG rfl rfl ?_
      refine jj_cv hG 0 rfl rfl (Nat.le_of_ble_eq_true rfl) (by decide) (Nat.le_of_ble_eq_true rfl) rfl (st' := []) rfl (fun _ _ hw h k => pm_rcv_of moM_m (k_layEntry base sa hw h k)) (fun s1 => ?_)
      refine jj_inc hG rfl (Nat.le_of_ble_eq_true rfl) rfl cc_i1 ?_
      refine jjs hG rfl rfl ?_
      refine jjs hG rfl rfl ?_
      refine jj_ige hG (t := 59) rfl rfl ?_ ?_
      · exact jj_wl hG [1, 2, 3, 4, 5, 6, 7, 0, 8] rfl (b59 _ _ _)
      refine jjs hG rfl rfl ?_
      refine jj_ic hG rfl cc_i1 ?_
      refine jjs hG rfl rfl ?_
      refine jjs hG rfl rfl ?_
      refine jj_gi hG (k := 139) rfl rfl rfl rfl ?_
      refine jj_ige hG (t := 59) rfl rfl ?_ ?_
      · exact jj_wl hG [1, 2, 3, 4, 5, 6, 7, 0, 8] rfl (b59 _ _ _)
      refine jj_go hG (t := 76) rfl rfl ?_
      exact jj_wl hG [1, 2, 3, 4, 5, 6, 7, 0, 8] rfl (b76 _ _ _)
  refine (show JJ C R base m G 0 [(0, .ref m), (1, .int p1), (2, .int p2), (3, .int p3), (4, .long p4), (6, .long p6)] [] q t kc ks (M_tellTo t p1 p2 p3 p4 p6) (some tz) from ?_) hw h
  refine jjs hG rfl rfl ?_
  refine jjs hG rfl rfl ?_
  refine jjs hG rfl rfl ?_
  refine jj_cp hG 0 rfl rfl (Nat.le_of_ble_eq_true rfl) (by decide) (Nat.le_of_ble_eq_true rfl) rfl (st' := []) rfl (w := .int) (fun _ _ hw h k => pm_rcv_of moM_m (k_mostEntries base sa hw h k)) (fun x1 => ?_)
  refine jjc hG rfl rfl (Nat.le_of_ble_eq_true rfl) ?_
  refine jj_ic hG rfl cc_i0 ?_
  refine jjc hG rfl rfl (Nat.le_of_ble_eq_true rfl) ?_
  refine jj_ic hG rfl cc_i0 ?_
  refine jjc hG rfl rfl (Nat.le_of_ble_eq_true rfl) ?_
  refine jj_lp (fun n => ?_)
  exact jj_wl hG [3, 4, 5, 6, 7, 8, 2, 1, 0] rfl (b14 _ n _ _ _)
noncomputable def M_tell_b100 (t : moS) (p1 : Int32) (p2 : Int32) (a3 : Int32) (a4 : Int32) : Option ((Int32 × moS) ⊕ ((Int32 × moS) ⊕ moS)) := (some (.inl ((a4 + (1 : Int32)), t)))
noncomputable def M_tell_b106 (t : moS) (p1 : Int32) (p2 : Int32) (a3 : Int32) : Option ((Int32 × moS) ⊕ moS) := (some (.inl ((a3 + (1 : Int32)), t)))
noncomputable def M_tell_s53 (t : moS) (p1 : Int32) (p2 : Int32) (a3 : Int32) (a4 : Int32) : Option ((Int32 × moS) ⊕ ((Int32 × moS) ⊕ moS)) := Option.bind (rdI t 95 p1) (fun x1 => (if a4 < (((4 : Int32) * p1) + x1) then (Option.bind (rdI t 96 a4) (fun x2 => (if x2 = a3 then (Option.bind (rdJ t 97 a4) (fun x3 => (Option.bind (rdJ t 98 a4) (fun x4 => (Option.bind (M_tellTo t p1 a3 (0 : Int32) x3 x4) (fun s5 => ((M_tell_b100 s5 p1 p2 a3 a4)))))))) else ((M_tell_b100 t p1 p2 a3 a4))))) else ((xo (M_tell_b106 t p1 p2 a3)))))
noncomputable def M_tell_b53 (t : moS) (p1 : Int32) (p2 : Int32) (a3 : Int32) (a4 : Int32) : Option ((Int32 × moS) ⊕ moS) := lp (fun x => M_tell_s53 x.2 p1 p2 a3 x.1) (a4, t)
noncomputable def M_tell_b48 (t : moS) (p1 : Int32) (p2 : Int32) (a3 : Int32) : Option ((Int32 × moS) ⊕ moS) := (M_tell_b53 t p1 p2 a3 ((4 : Int32) * p1))
noncomputable def M_tell_s2 (t : moS) (p1 : Int32) (p2 : Int32) (a3 : Int32) : Option ((Int32 × moS) ⊕ moS) := if a3 < (2 : Int32) then (Option.bind (rdI t 75 (((2 : Int32) * p1) + a3)) (fun x1 => (if x1 = 0 then ((M_tell_b106 t p1 p2 a3)) else (Option.bind (M_gather t p1 a3 p2) (fun s2 => (Option.bind (rdI s2 74 p1) (fun x3 => (if x3 = 0 then (Option.bind (M_tellTo s2 p1 a3 (1 : Int32) (0 : Int64) (0 : Int64)) (fun s4 => ((M_tell_b48 s4 p1 p2 a3)))) else ((M_tell_b48 s2 p1 p2 a3)))))))))) else ((xo ((some t))))
noncomputable def M_tell_b2 (t : moS) (p1 : Int32) (p2 : Int32) (a3 : Int32) : Option moS := lp (fun x => M_tell_s2 x.2 p1 p2 x.1) (a3, t)
noncomputable def M_tell (t : moS) (p1 : Int32) (p2 : Int32) : Option moS := (M_tell_b2 t p1 p2 (0 : Int32))
set_option maxRecDepth 100000 in
set_option maxHeartbeats 4000000 in
theorem k_tell (base : Nat) (sa : Nat → Nat) {C : Nat × Nat} {R : pmM} {m : Nat} {q : Nat → Nat} {t tz : moS} {kc ks : Nat} {Rt : pmR} {p1 : Int32} {p2 : Int32} (hw : mW C R base m q t kc ks) (h : M_tell t p1 p2 = (some tz)) (k : mW C R base m q tz kc ks → Rt none (moM R m q tz) kc ks) : kP_Mo_tell base sa [.ref m, .int p1, .int p2] (moM R m q t) kc ks Rt := by
  refine ⟨Nat.le_of_ble_eq_true rfl, fun G hG => ?_⟩
  have b2 : ∀ (n : Nat) (a3 : Int32) (t : moS), JJ C R base m G 2 [(0, .ref m), (1, .int p1), (2, .int p2), (3, .int a3)] [] q t kc ks (lpN (fun x => M_tell_s2 x.2 p1 p2 x.1) n (a3, t)) (some tz) := by
    intro n
    induction n with
    | zero => intro a3 t; exact jj_lp0
    | succ n ih2 =>
      intro a3 t
      refine jj_lpS (fun y2 c2 => ?_)
      have b106 : ∀ (a3 : Int32) (t : moS), JJ C R base m G 106 [(0, .ref m), (1, .int p1), (2, .int p2), (3, .int a3)] [] q t kc ks (M_tell_b106 t p1 p2 a3) (some y2) := by
        intro a3 t
        refine jj_inc hG rfl (Nat.le_of_ble_eq_true rfl) rfl cc_i1 ?_
        refine jj_go hG (t := 2) rfl rfl ?_
        exact jj_back c2 (jj_wl hG [1, 2, 3, 0] rfl (ih2 _ _))
      have b53 : ∀ (a3 : Int32) (n : Nat) (a4 : Int32) (t : moS), JJ C R base m G 53 [(0, .ref m), (1, .int p1), (2, .int p2), (3, .int a3), (4, .int a4)] [] q t kc ks (lpN (fun x => M_tell_s53 x.2 p1 p2 a3 x.1) n (a4, t)) (some y2) := by
        intro a3 n
        induction n with
        | zero => intro a4 t; exact jj_lp0
        | succ n ih53 =>
          intro a4 t
          refine jj_lpS (fun y53 c53 => ?_)
          have b100 : ∀ (a4 : Int32) (t : moS), JJ C R base m G 100 [(0, .ref m), (1, .int p1), (2, .int p2), (3, .int a3), (4, .int a4)] [] q t kc ks (M_tell_b100 t p1 p2 a3 a4) (some y53) := by
            intro a4 t
            refine jj_inc hG rfl (Nat.le_of_ble_eq_true rfl) rfl cc_i1 ?_
            refine jj_go hG (t := 53) rfl rfl ?_
            exact jj_back c53 (jj_wl hG [1, 2, 3, 4, 0] rfl (ih53 _ _))
          refine (show JJ C R base m G 53 [(0, .ref m), (1, .int p1), (2, .int p2), (3, .int a3), (4, .int a4)] [] q t kc ks (M_tell_s53 t p1 p2 a3 a4) (some y53) from ?_)
          refine jjs hG rfl rfl ?_
          refine jj_ic hG rfl cc_i4 ?_
          refine jjs hG rfl rfl ?_
          refine jjs hG rfl rfl ?_
          refine jjs hG rfl rfl ?_
          refine jj_gr hG (k := 95) rfl rfl rfl rfl ?_
          refine jjs hG rfl rfl ?_
          refine jj_ia hG (k := 95) rfl rfl rfl (fun x1 => ?_)
          refine jjs hG rfl rfl ?_
          refine jj_ige hG (t := 106) rfl rfl ?_ ?_
          · refine jj_exit c53 ?_
            exact jj_wl hG [0, 1, 2, 3] rfl (b106 _ _)
          refine jjs hG rfl rfl ?_
          refine jj_gr hG (k := 96) rfl rfl rfl rfl ?_
          refine jjs hG rfl rfl ?_
          refine jj_ia hG (k := 96) rfl rfl rfl (fun x2 => ?_)
          refine jjs hG rfl rfl ?_
          refine jj_ine hG (t := 100) rfl rfl ?_ ?_
          · exact jj_wl hG [0, 1, 2, 3, 4] rfl (b100 _ _)
          refine jjs hG rfl rfl ?_
          refine jjs hG rfl rfl ?_
          refine jjs hG rfl rfl ?_
          refine jj_ic hG rfl cc_i0 ?_
          refine jjs hG rfl rfl ?_
          refine jj_gr hG (k := 97) rfl rfl rfl rfl ?_
          refine jjs hG rfl rfl ?_
          refine jj_la hG (k := 97) rfl rfl rfl (fun x3 => ?_)
          refine jjs hG rfl rfl ?_
          refine jj_gr hG (k := 98) rfl rfl rfl rfl ?_
          refine jjs hG rfl rfl ?_
          refine jj_la hG (k := 98) rfl rfl rfl (fun x4 => ?_)
          refine jj_cv hG 0 rfl rfl (Nat.le_of_ble_eq_true rfl) (by decide) (Nat.le_of_ble_eq_true rfl) rfl (st' := []) rfl (fun _ _ hw h k => pm_rcv_of moM_m (k_tellTo base sa hw h k)) (fun s5 => ?_)
          exact jj_wl hG [0, 1, 2, 3, 4] rfl (b100 _ _)
      have b48 : ∀ (a3 : Int32) (t : moS), JJ C R base m G 48 [(0, .ref m), (1, .int p1), (2, .int p2), (3, .int a3)] [] q t kc ks (M_tell_b48 t p1 p2 a3) (some y2) := by
        intro a3 t
        refine jj_ic hG rfl cc_i4 ?_
        refine jjs hG rfl rfl ?_
        refine jjs hG rfl rfl ?_
        refine jjc hG rfl rfl (Nat.le_of_ble_eq_true rfl) ?_
        refine jj_lp (fun n => ?_)
        exact jj_wl hG [1, 2, 3, 4, 0] rfl (b53 _ n _ _)
      refine (show JJ C R base m G 2 [(0, .ref m), (1, .int p1), (2, .int p2), (3, .int a3)] [] q t kc ks (M_tell_s2 t p1 p2 a3) (some y2) from ?_)
      refine jjs hG rfl rfl ?_
      refine jj_ic hG rfl cc_i2 ?_
      refine jj_ige hG (t := 112) rfl rfl ?_ ?_
      · refine jj_exit c2 ?_
        exact jj_rvS hG rfl rfl (k)
      refine jjs hG rfl rfl ?_
      refine jj_gr hG (k := 75) rfl rfl rfl rfl ?_
      refine jj_ic hG rfl cc_i2 ?_
      refine jjs hG rfl rfl ?_
      refine jjs hG rfl rfl ?_
      refine jjs hG rfl rfl ?_
      refine jjs hG rfl rfl ?_
      refine jj_ba hG (k := 75) rfl rfl rfl (fun x1 => ?_)
      refine jj_zne hG (t := 23) rfl rfl ?_ ?_
      · refine jjs hG rfl rfl ?_
        refine jjs hG rfl rfl ?_
        refine jjs hG rfl rfl ?_
        refine jjs hG rfl rfl ?_
        refine jj_cv hG 0 rfl rfl (Nat.le_of_ble_eq_true rfl) (by decide) (Nat.le_of_ble_eq_true rfl) rfl (st' := []) rfl (fun _ _ hw h k => pm_rcv_of moM_m (k_gather base sa hw h k)) (fun s2 => ?_)
        refine jjs hG rfl rfl ?_
        refine jj_gr hG (k := 74) rfl rfl rfl rfl ?_
        refine jjs hG rfl rfl ?_
        refine jj_ba hG (k := 74) rfl rfl rfl (fun x3 => ?_)
        refine jj_zne hG (t := 48) rfl rfl ?_ ?_
        · exact jj_wl hG [0, 1, 2, 3] rfl (b48 _ _)
        refine jjs hG rfl rfl ?_
        refine jjs hG rfl rfl ?_
        refine jjs hG rfl rfl ?_
        refine jj_ic hG rfl cc_i1 ?_
        refine jj_lc hG (c := 0) (v := 0) rfl rfl ?_
        refine jj_lc hG (c := 0) (v := 0) rfl rfl ?_
        refine jj_cv hG 0 rfl rfl (Nat.le_of_ble_eq_true rfl) (by decide) (Nat.le_of_ble_eq_true rfl) rfl (st' := []) rfl (fun _ _ hw h k => pm_rcv_of moM_m (k_tellTo base sa hw h k)) (fun s4 => ?_)
        exact jj_wl hG [0, 1, 2, 3] rfl (b48 _ _)
      refine jj_go hG (t := 106) rfl rfl ?_
      exact jj_wl hG [0, 1, 2, 3] rfl (b106 _ _)
  refine (show JJ C R base m G 0 [(0, .ref m), (1, .int p1), (2, .int p2)] [] q t kc ks (M_tell t p1 p2) (some tz) from ?_) hw h
  refine jj_ic hG rfl cc_i0 ?_
  refine jjc hG rfl rfl (Nat.le_of_ble_eq_true rfl) ?_
  refine jj_lp (fun n => ?_)
  exact jj_wl hG [1, 2, 3, 0] rfl (b2 n _ _)
noncomputable def M_tellAll_s4 (t : moS) (p1 : Int32) (p2 : Int32) (a3 : Int32) : Option ((Int32 × moS) ⊕ moS) := Option.bind (rdI t 70 p1) (fun x1 => (if a3 < (((4 : Int32) * p1) + x1) then (Option.bind (M_tell t a3 p2) (fun s2 => ((some (.inl ((a3 + (1 : Int32)), s2)))))) else ((xo ((some t))))))
noncomputable def M_tellAll_b4 (t : moS) (p1 : Int32) (p2 : Int32) (a3 : Int32) : Option moS := lp (fun x => M_tellAll_s4 x.2 p1 p2 x.1) (a3, t)
noncomputable def M_tellAll (t : moS) (p1 : Int32) (p2 : Int32) : Option moS := (M_tellAll_b4 t p1 p2 ((4 : Int32) * p1))
set_option maxRecDepth 100000 in
set_option maxHeartbeats 4000000 in
theorem k_tellAll (base : Nat) (sa : Nat → Nat) {C : Nat × Nat} {R : pmM} {m : Nat} {q : Nat → Nat} {t tz : moS} {kc ks : Nat} {Rt : pmR} {p1 : Int32} {p2 : Int32} (hw : mW C R base m q t kc ks) (h : M_tellAll t p1 p2 = (some tz)) (k : mW C R base m q tz kc ks → Rt none (moM R m q tz) kc ks) : kP_Mo_tellAll base sa [.ref m, .int p1, .int p2] (moM R m q t) kc ks Rt := by
  refine ⟨Nat.le_of_ble_eq_true rfl, fun G hG => ?_⟩
  have b4 : ∀ (n : Nat) (a3 : Int32) (t : moS), JJ C R base m G 4 [(0, .ref m), (1, .int p1), (2, .int p2), (3, .int a3)] [] q t kc ks (lpN (fun x => M_tellAll_s4 x.2 p1 p2 x.1) n (a3, t)) (some tz) := by
    intro n
    induction n with
    | zero => intro a3 t; exact jj_lp0
    | succ n ih4 =>
      intro a3 t
      refine jj_lpS (fun y4 c4 => ?_)
      refine (show JJ C R base m G 4 [(0, .ref m), (1, .int p1), (2, .int p2), (3, .int a3)] [] q t kc ks (M_tellAll_s4 t p1 p2 a3) (some y4) from ?_)
      refine jjs hG rfl rfl ?_
      refine jj_ic hG rfl cc_i4 ?_
      refine jjs hG rfl rfl ?_
      refine jjs hG rfl rfl ?_
      refine jjs hG rfl rfl ?_
      refine jj_gr hG (k := 70) rfl rfl rfl rfl ?_
      refine jjs hG rfl rfl ?_
      refine jj_ia hG (k := 70) rfl rfl rfl (fun x1 => ?_)
      refine jjs hG rfl rfl ?_
      refine jj_ige hG (t := 30) rfl rfl ?_ ?_
      · refine jj_exit c4 ?_
        exact jj_rvS hG rfl rfl (k)
      refine jjs hG rfl rfl ?_
      refine jjs hG rfl rfl ?_
      refine jjs hG rfl rfl ?_
      refine jj_cv hG 0 rfl rfl (Nat.le_of_ble_eq_true rfl) (by decide) (Nat.le_of_ble_eq_true rfl) rfl (st' := []) rfl (fun _ _ hw h k => pm_rcv_of moM_m (k_tell base sa hw h k)) (fun s2 => ?_)
      refine jj_inc hG rfl (Nat.le_of_ble_eq_true rfl) rfl cc_i1 ?_
      refine jj_go hG (t := 4) rfl rfl ?_
      exact jj_back c4 (jj_wl hG [1, 2, 3, 0] rfl (ih4 _ _))
  refine (show JJ C R base m G 0 [(0, .ref m), (1, .int p1), (2, .int p2)] [] q t kc ks (M_tellAll t p1 p2) (some tz) from ?_) hw h
  refine jj_ic hG rfl cc_i4 ?_
  refine jjs hG rfl rfl ?_
  refine jjs hG rfl rfl ?_
  refine jjc hG rfl rfl (Nat.le_of_ble_eq_true rfl) ?_
  refine jj_lp (fun n => ?_)
  exact jj_wl hG [1, 2, 3, 0] rfl (b4 n _ _)
noncomputable def M_forget_s6 (t : moS) (p1 : Int32) (a2 : Int32) : Option ((Int32 × moS) ⊕ moS) := Option.bind (rdI t 105 p1) (fun x1 => (if a2 < (((2700 : Int32) * p1) + x1) then (Option.bind (wrZ t 119 a2 (0 : Int32)) (fun s3 => ((some (.inl ((a2 + (1 : Int32)), s3)))))) else ((xo (Option.bind (wrI t 44 p1 ((-1) : Int32)) (fun s2 => ((some s2))))))))
noncomputable def M_forget_b6 (t : moS) (p1 : Int32) (a2 : Int32) : Option moS := lp (fun x => M_forget_s6 x.2 p1 x.1) (a2, t)
noncomputable def M_forget (t : moS) (p1 : Int32) : Option moS := (M_forget_b6 t p1 ((2700 : Int32) * p1))
set_option maxRecDepth 100000 in
set_option maxHeartbeats 4000000 in
theorem k_forget (base : Nat) (sa : Nat → Nat) {C : Nat × Nat} {R : pmM} {m : Nat} {q : Nat → Nat} {t tz : moS} {kc ks : Nat} {Rt : pmR} {p1 : Int32} (hw : mW C R base m q t kc ks) (h : M_forget t p1 = (some tz)) (k : mW C R base m q tz kc ks → Rt none (moM R m q tz) kc ks) : kP_Mo_forget base sa [.ref m, .int p1] (moM R m q t) kc ks Rt := by
  refine ⟨Nat.le_of_ble_eq_true rfl, fun G hG => ?_⟩
  have b6 : ∀ (n : Nat) (a2 : Int32) (t : moS), JJ C R base m G 6 [(0, .ref m), (1, .int p1), (2, .int a2)] [] q t kc ks (lpN (fun x => M_forget_s6 x.2 p1 x.1) n (a2, t)) (some tz) := by
    intro n
    induction n with
    | zero => intro a2 t; exact jj_lp0
    | succ n ih6 =>
      intro a2 t
      refine jj_lpS (fun y6 c6 => ?_)
      refine (show JJ C R base m G 6 [(0, .ref m), (1, .int p1), (2, .int a2)] [] q t kc ks (M_forget_s6 t p1 a2) (some y6) from ?_)
      refine jjs hG rfl rfl ?_
      refine jj_si hG rfl cc_s2700 ?_
      refine jjs hG rfl rfl ?_
      refine jjs hG rfl rfl ?_
      refine jjs hG rfl rfl ?_
      refine jj_gr hG (k := 105) rfl rfl rfl rfl ?_
      refine jjs hG rfl rfl ?_
      refine jj_ia hG (k := 105) rfl rfl rfl (fun x1 => ?_)
      refine jjs hG rfl rfl ?_
      refine jj_ige hG (t := 35) rfl rfl ?_ ?_
      · refine jj_exit c6 ?_
        refine jjs hG rfl rfl ?_
        refine jj_gr hG (k := 44) rfl rfl rfl rfl ?_
        refine jjs hG rfl rfl ?_
        refine jj_ic hG rfl cc_im1 ?_
        refine jj_is hG (k := 44) rfl rfl rfl (fun s2 => ?_)
        exact jj_rvS hG rfl rfl (k)
      refine jjs hG rfl rfl ?_
      refine jj_gr hG (k := 119) rfl rfl rfl rfl ?_
      refine jjs hG rfl rfl ?_
      refine jj_ic hG rfl cc_i0 ?_
      refine jj_bs hG (k := 119) rfl rfl rfl (fun s3 => ?_)
      refine jj_inc hG rfl (Nat.le_of_ble_eq_true rfl) rfl cc_i1 ?_
      refine jj_go hG (t := 6) rfl rfl ?_
      exact jj_back c6 (jj_wl hG [1, 2, 0] rfl (ih6 _ _))
  refine (show JJ C R base m G 0 [(0, .ref m), (1, .int p1)] [] q t kc ks (M_forget t p1) (some tz) from ?_) hw h
  refine jj_si hG rfl cc_s2700 ?_
  refine jjs hG rfl rfl ?_
  refine jjs hG rfl rfl ?_
  refine jjc hG rfl rfl (Nat.le_of_ble_eq_true rfl) ?_
  refine jj_lp (fun n => ?_)
  exact jj_wl hG [1, 2, 0] rfl (b6 n _ _)
noncomputable def M_bytesAre_b52 (t : moS) : Option Int32 := (some (0 : Int32))
noncomputable def M_bytesAre (t : moS) (p1 : Int32) (p2 : Int32) (p3 : Int32) (p4 : Int32) (p5 : Int32) : Option Int32 := Option.bind (rdI t 149 p1) (fun x1 => (if x1 = p2 then (Option.bind (rdI t 149 (p1 + (1 : Int32))) (fun x2 => (if x2 = p3 then (Option.bind (rdI t 149 (p1 + (2 : Int32))) (fun x3 => (if x3 = p4 then (Option.bind (rdI t 149 (p1 + (3 : Int32))) (fun x4 => (if x4 = p5 then ((some (1 : Int32))) else ((M_bytesAre_b52 t))))) else ((M_bytesAre_b52 t))))) else ((M_bytesAre_b52 t))))) else ((M_bytesAre_b52 t))))
set_option maxRecDepth 100000 in
set_option maxHeartbeats 4000000 in
theorem k_bytesAre (base : Nat) (sa : Nat → Nat) {C : Nat × Nat} {R : pmM} {m : Nat} {q : Nat → Nat} {t : moS} {kc ks : Nat} {Rt : pmR} {p1 : Int32} {p2 : Int32} {p3 : Int32} {p4 : Int32} {p5 : Int32} {r : Int32} (hw : mW C R base m q t kc ks) (h : M_bytesAre t p1 p2 p3 p4 p5 = (some r)) (k : Rt (some (.int r)) (moM R m q t) kc ks) : kP_Mo_bytesAre base sa [.ref m, .int p1, .int p2, .int p3, .int p4, .int p5] (moM R m q t) kc ks Rt := by
  refine ⟨Nat.le_of_ble_eq_true rfl, fun G hG => ?_⟩
  have b52 : JJ C R base m G 52 [] [] q t kc ks (M_bytesAre_b52 t) (some r) := by
    refine jj_ic hG rfl cc_i0 ?_
    exact jj_ri hG rfl rfl rfl k
  refine (show JJ C R base m G 0 [(0, .ref m), (1, .int p1), (2, .int p2), (3, .int p3), (4, .int p4), (5, .int p5)] [] q t kc ks (M_bytesAre t p1 p2 p3 p4 p5) (some r) from ?_) hw h
  refine jjs hG rfl rfl ?_
  refine jj_gr hG (k := 149) rfl rfl rfl rfl ?_
  refine jjs hG rfl rfl ?_
  refine jj_ia hG (k := 149) rfl rfl rfl (fun x1 => ?_)
  refine jjs hG rfl rfl ?_
  refine jj_ine hG (t := 52) rfl rfl ?_ ?_
  · exact jj_wl hG [] rfl (b52)
  refine jjs hG rfl rfl ?_
  refine jj_gr hG (k := 149) rfl rfl rfl rfl ?_
  refine jjs hG rfl rfl ?_
  refine jj_ic hG rfl cc_i1 ?_
  refine jjs hG rfl rfl ?_
  refine jj_ia hG (k := 149) rfl rfl rfl (fun x2 => ?_)
  refine jjs hG rfl rfl ?_
  refine jj_ine hG (t := 52) rfl rfl ?_ ?_
  · exact jj_wl hG [] rfl (b52)
  refine jjs hG rfl rfl ?_
  refine jj_gr hG (k := 149) rfl rfl rfl rfl ?_
  refine jjs hG rfl rfl ?_
  refine jj_ic hG rfl cc_i2 ?_
  refine jjs hG rfl rfl ?_
  refine jj_ia hG (k := 149) rfl rfl rfl (fun x3 => ?_)
  refine jjs hG rfl rfl ?_
  refine jj_ine hG (t := 52) rfl rfl ?_ ?_
  · exact jj_wl hG [] rfl (b52)
  refine jjs hG rfl rfl ?_
  refine jj_gr hG (k := 149) rfl rfl rfl rfl ?_
  refine jjs hG rfl rfl ?_
  refine jj_ic hG rfl cc_i3 ?_
  refine jjs hG rfl rfl ?_
  refine jj_ia hG (k := 149) rfl rfl rfl (fun x4 => ?_)
  refine jjs hG rfl rfl ?_
  refine jj_ine hG (t := 52) rfl rfl ?_ ?_
  · exact jj_wl hG [] rfl (b52)
  refine jj_ic hG rfl cc_i1 ?_
  refine jj_go hG (t := 53) rfl rfl ?_
  exact jj_ri hG rfl rfl rfl k
noncomputable def M_areZeros_b30 (t : moS) (p2 : Int32) (a4 : Int32) (u0 : Int32) : Option ((Int32 × Int32) ⊕ Int32) := (some (.inl (u0, (a4 + (1 : Int32)))))
noncomputable def M_areZeros_b29 (t : moS) (p2 : Int32) (a4 : Int32) : Option ((Int32 × Int32) ⊕ Int32) := (M_areZeros_b30 t p2 a4 (0 : Int32))
noncomputable def M_areZeros_s5 (t : moS) (p2 : Int32) (a3 : Int32) (a4 : Int32) : Option ((Int32 × Int32) ⊕ Int32) := if a4 < p2 then (if a3 = 0 then ((M_areZeros_b29 t p2 a4)) else (Option.bind (rdI t 149 a4) (fun x1 => (if x1 = 0 then ((M_areZeros_b30 t p2 a4 (1 : Int32))) else ((M_areZeros_b29 t p2 a4)))))) else ((xo ((okZ a3 (some a3)))))
noncomputable def M_areZeros_b5 (t : moS) (p2 : Int32) (a3 : Int32) (a4 : Int32) : Option Int32 := lp (fun x => M_areZeros_s5 t p2 x.1 x.2) (a3, a4)
noncomputable def M_areZeros (t : moS) (p1 : Int32) (p2 : Int32) : Option Int32 := (M_areZeros_b5 t p2 (1 : Int32) p1)
set_option maxRecDepth 100000 in
set_option maxHeartbeats 4000000 in
theorem k_areZeros (base : Nat) (sa : Nat → Nat) {C : Nat × Nat} {R : pmM} {m : Nat} {q : Nat → Nat} {t : moS} {kc ks : Nat} {Rt : pmR} {p1 : Int32} {p2 : Int32} {r : Int32} (hw : mW C R base m q t kc ks) (h : M_areZeros t p1 p2 = (some r)) (k : Rt (some (.int r)) (moM R m q t) kc ks) : kP_Mo_areZeros base sa [.ref m, .int p1, .int p2] (moM R m q t) kc ks Rt := by
  refine ⟨Nat.le_of_ble_eq_true rfl, fun G hG => ?_⟩
  have b5 : ∀ (n : Nat) (a3 : Int32) (a4 : Int32), JJ C R base m G 5 [(0, .ref m), (2, .int p2), (3, .int a3), (4, .int a4)] [] q t kc ks (lpN (fun x => M_areZeros_s5 t p2 x.1 x.2) n (a3, a4)) (some r) := by
    intro n
    induction n with
    | zero => intro a3 a4; exact jj_lp0
    | succ n ih5 =>
      intro a3 a4
      refine jj_lpS (fun y5 c5 => ?_)
      have b30 : ∀ (a4 : Int32) (u0 : Int32), JJ C R base m G 30 [(0, .ref m), (2, .int p2), (4, .int a4)] [.int u0] q t kc ks (M_areZeros_b30 t p2 a4 u0) (some y5) := by
        intro a4 u0
        refine jjc hG rfl rfl (Nat.le_of_ble_eq_true rfl) ?_
        refine jj_inc hG rfl (Nat.le_of_ble_eq_true rfl) rfl cc_i1 ?_
        refine jj_go hG (t := 5) rfl rfl ?_
        exact jj_back c5 (jj_wl hG [2, 3, 1, 0] rfl (ih5 _ _))
      have b29 : ∀ (a4 : Int32), JJ C R base m G 29 [(0, .ref m), (2, .int p2), (4, .int a4)] [] q t kc ks (M_areZeros_b29 t p2 a4) (some y5) := by
        intro a4
        refine jj_ic hG rfl cc_i0 ?_
        exact jj_wl hG [0, 1, 2] rfl (b30 _ _)
      refine (show JJ C R base m G 5 [(0, .ref m), (2, .int p2), (3, .int a3), (4, .int a4)] [] q t kc ks (M_areZeros_s5 t p2 a3 a4) (some y5) from ?_)
      refine jjs hG rfl rfl ?_
      refine jjs hG rfl rfl ?_
      refine jj_ige hG (t := 37) rfl rfl ?_ ?_
      · refine jj_exit c5 ?_
        refine jjs hG rfl rfl ?_
        exact jj_rz hG rfl rfl k
      refine jjs hG rfl rfl ?_
      refine jj_zeq hG (t := 29) rfl rfl ?_ ?_
      · exact jj_wl hG [0, 1, 3] rfl (b29 _)
      refine jjs hG rfl rfl ?_
      refine jj_gr hG (k := 149) rfl rfl rfl rfl ?_
      refine jjs hG rfl rfl ?_
      refine jj_ia hG (k := 149) rfl rfl rfl (fun x1 => ?_)
      refine jj_zne hG (t := 29) rfl rfl ?_ ?_
      · exact jj_wl hG [0, 1, 3] rfl (b29 _)
      refine jj_ic hG rfl cc_i1 ?_
      refine jj_go hG (t := 30) rfl rfl ?_
      exact jj_wl hG [0, 1, 3] rfl (b30 _ _)
  refine (show JJ C R base m G 0 [(0, .ref m), (1, .int p1), (2, .int p2)] [] q t kc ks (M_areZeros t p1 p2) (some r) from ?_) hw h
  refine jj_ic hG rfl cc_i1 ?_
  refine jjc hG rfl rfl (Nat.le_of_ble_eq_true rfl) ?_
  refine jjs hG rfl rfl ?_
  refine jjc hG rfl rfl (Nat.le_of_ble_eq_true rfl) ?_
  refine jj_lp (fun n => ?_)
  exact jj_wl hG [2, 4, 1, 0] rfl (b5 n _ _)
noncomputable def M_isNotOlder_b35 (t : moS) (p1 : Int32) (p2 : Int64) (p4 : Int64) (a6 : Int32) : Option ((Int32 × moS) ⊕ (Int32 × moS)) := (some (.inl ((a6 + (1 : Int32)), t)))
noncomputable def M_isNotOlder_b66 (t : moS) (p1 : Int32) (p2 : Int64) (p4 : Int64) (a6 : Int32) : Option (Int32 × moS) := Option.bind (wrI t 102 a6 p1) (fun s1 => (Option.bind (wrJ s1 103 a6 p2) (fun s2 => (Option.bind (wrJ s2 104 a6 p4) (fun s3 => (letS (moSS s3 101 ((moS.S s3 101) + (1 : Int32))) (fun s4 => ((some ((1 : Int32), s4))))))))))
noncomputable def M_isNotOlder_b41 (t : moS) (p1 : Int32) (p2 : Int64) (p4 : Int64) (a6 : Int32) : Option (Int32 × moS) := if a6 = (moS.S t 101) then (if (moS.S t 101) = (nI (moS.N t 102)) then (Option.bind (M_growSources t) (fun s3 => ((M_isNotOlder_b66 s3 p1 p2 p4 a6)))) else ((M_isNotOlder_b66 t p1 p2 p4 a6))) else (Option.bind (rdJ t 104 a6) (fun x1 => (if p4 < x1 then ((some ((0 : Int32), t))) else (Option.bind (wrJ t 104 a6 p4) (fun s2 => ((some ((1 : Int32), s2))))))))
noncomputable def M_isNotOlder_s3 (t : moS) (p1 : Int32) (p2 : Int64) (p4 : Int64) (a6 : Int32) : Option ((Int32 × moS) ⊕ (Int32 × moS)) := if a6 < (moS.S t 101) then (Option.bind (rdI t 102 a6) (fun x1 => (if x1 = p1 then (Option.bind (rdJ t 103 a6) (fun x2 => (if x2 = p2 then ((xo (M_isNotOlder_b41 t p1 p2 p4 a6))) else ((M_isNotOlder_b35 t p1 p2 p4 a6))))) else ((M_isNotOlder_b35 t p1 p2 p4 a6))))) else ((xo (M_isNotOlder_b41 t p1 p2 p4 a6)))
noncomputable def M_isNotOlder_b3 (t : moS) (p1 : Int32) (p2 : Int64) (p4 : Int64) (a6 : Int32) : Option (Int32 × moS) := lp (fun x => M_isNotOlder_s3 x.2 p1 p2 p4 x.1) (a6, t)
noncomputable def M_isNotOlder (t : moS) (p1 : Int32) (p2 : Int64) (p4 : Int64) : Option (Int32 × moS) := (M_isNotOlder_b3 t p1 p2 p4 (0 : Int32))
set_option maxRecDepth 100000 in
set_option maxHeartbeats 4000000 in
theorem k_isNotOlder (base : Nat) (sa : Nat → Nat) {C : Nat × Nat} {R : pmM} {m : Nat} {q : Nat → Nat} {t tz : moS} {kc ks : Nat} {Rt : pmR} {p1 : Int32} {p2 : Int64} {p4 : Int64} {r : Int32} (hw : mW C R base m q t kc ks) (h : M_isNotOlder t p1 p2 p4 = (some (r, tz))) (k : ∀ (q' : Nat → Nat) (kc' ks' : Nat), mW C R base m q' tz kc' ks' → Rt (some (.int r)) (moM R m q' tz) kc' ks') : kP_Mo_isNotOlder base sa [.ref m, .int p1, .long p2, .long p4] (moM R m q t) kc ks Rt := by
  refine ⟨Nat.le_of_ble_eq_true rfl, fun G hG => ?_⟩
  have b66 : ∀ (a6 : Int32) (q : Nat → Nat) (t : moS) (kc ks : Nat), JJ C R base m G 66 [(0, .ref m), (1, .int p1), (2, .long p2), (4, .long p4), (6, .int a6)] [] q t kc ks (M_isNotOlder_b66 t p1 p2 p4 a6) (some (r, tz)) := by
    intro a6 q t kc ks
    refine jjs hG rfl rfl ?_
    refine jj_gr hG (k := 102) rfl rfl rfl rfl ?_
    refine jjs hG rfl rfl ?_
    refine jjs hG rfl rfl ?_
    refine jj_is hG (k := 102) rfl rfl rfl (fun s1 => ?_)
    refine jjs hG rfl rfl ?_
    refine jj_gr hG (k := 103) rfl rfl rfl rfl ?_
    refine jjs hG rfl rfl ?_
    refine jjs hG rfl rfl ?_
    refine jj_ls hG (k := 103) rfl rfl rfl (fun s2 => ?_)
    refine jjs hG rfl rfl ?_
    refine jj_gr hG (k := 104) rfl rfl rfl rfl ?_
    refine jjs hG rfl rfl ?_
    refine jjs hG rfl rfl ?_
    refine jj_ls hG (k := 104) rfl rfl rfl (fun s3 => ?_)
    refine jjs hG rfl rfl ?_
    refine jjc hG rfl rfl rfl ?_
    refine jj_gi hG (k := 101) rfl rfl rfl rfl ?_
    refine jj_ic hG rfl cc_i1 ?_
    refine jjs hG rfl rfl ?_
    refine jj_pi hG (k := 101) rfl rfl rfl rfl (fun s4 => ?_)
    refine jj_ic hG rfl cc_i1 ?_
    exact jj_riS hG rfl rfl rfl (k _ _ _)
  have b41 : ∀ (a6 : Int32) (q : Nat → Nat) (t : moS) (kc ks : Nat), JJ C R base m G 41 [(0, .ref m), (1, .int p1), (2, .long p2), (4, .long p4), (6, .int a6)] [] q t kc ks (M_isNotOlder_b41 t p1 p2 p4 a6) (some (r, tz)) := by
    intro a6 q t kc ks
    refine jjs hG rfl rfl ?_
    refine jjs hG rfl rfl ?_
    refine jj_gi hG (k := 101) rfl rfl rfl rfl ?_
    refine jj_ine hG (t := 103) rfl rfl ?_ ?_
    · refine jjs hG rfl rfl ?_
      refine jjs hG rfl rfl ?_
      refine jj_gr hG (k := 104) rfl rfl rfl rfl ?_
      refine jjs hG rfl rfl ?_
      refine jj_la hG (k := 104) rfl rfl rfl (fun x1 => ?_)
      refine jjs hG rfl rfl ?_
      refine jj_lge hG (t := 118) rfl rfl ?_ ?_
      · refine jjs hG rfl rfl ?_
        refine jj_gr hG (k := 104) rfl rfl rfl rfl ?_
        refine jjs hG rfl rfl ?_
        refine jjs hG rfl rfl ?_
        refine jj_ls hG (k := 104) rfl rfl rfl (fun s2 => ?_)
        refine jj_ic hG rfl cc_i1 ?_
        exact jj_riS hG rfl rfl rfl (k _ _ _)
      refine jj_ic hG rfl cc_i0 ?_
      exact jj_riS hG rfl rfl rfl (k _ _ _)
    refine jjs hG rfl rfl ?_
    refine jj_gi hG (k := 101) rfl rfl rfl rfl ?_
    refine jjs hG rfl rfl ?_
    refine jj_gr hG (k := 102) rfl rfl rfl rfl ?_
    refine jj_al hG (k := 102) rfl rfl rfl ?_
    refine jj_ine hG (t := 66) rfl rfl ?_ ?_
    · exact jj_wl hG [0, 1, 2, 3, 4] rfl (b66 _ _ _ _ _)
    refine jjs hG rfl rfl ?_
    refine jj_cvA hG 0 rfl rfl (Nat.le_of_ble_eq_true rfl) (by decide) (Nat.le_of_ble_eq_true rfl) rfl (st' := []) rfl (fun _ _ hw h k => pm_rcv_of moM_m (k_growSources base sa hw h k)) (fun s3 q kc ks => ?_)
    exact jj_wl hG [0, 1, 2, 3, 4] rfl (b66 _ _ _ _ _)
  have b3 : ∀ (n : Nat) (a6 : Int32) (q : Nat → Nat) (t : moS) (kc ks : Nat), JJ C R base m G 3 [(0, .ref m), (1, .int p1), (2, .long p2), (4, .long p4), (6, .int a6)] [] q t kc ks (lpN (fun x => M_isNotOlder_s3 x.2 p1 p2 p4 x.1) n (a6, t)) (some (r, tz)) := by
    intro n
    induction n with
    | zero => intro a6 q t kc ks; exact jj_lp0
    | succ n ih3 =>
      intro a6 q t kc ks
      refine jj_lpS (fun y3 c3 => ?_)
      have b35 : ∀ (a6 : Int32) (q : Nat → Nat) (t : moS) (kc ks : Nat), JJ C R base m G 35 [(0, .ref m), (1, .int p1), (2, .long p2), (4, .long p4), (6, .int a6)] [] q t kc ks (M_isNotOlder_b35 t p1 p2 p4 a6) (some y3) := by
        intro a6 q t kc ks
        refine jj_inc hG rfl (Nat.le_of_ble_eq_true rfl) rfl cc_i1 ?_
        refine jj_go hG (t := 3) rfl rfl ?_
        exact jj_back c3 (jj_wl hG [1, 2, 3, 4, 0] rfl (ih3 _ _ _ _ _))
      refine (show JJ C R base m G 3 [(0, .ref m), (1, .int p1), (2, .long p2), (4, .long p4), (6, .int a6)] [] q t kc ks (M_isNotOlder_s3 t p1 p2 p4 a6) (some y3) from ?_)
      refine jjs hG rfl rfl ?_
      refine jjs hG rfl rfl ?_
      refine jj_gi hG (k := 101) rfl rfl rfl rfl ?_
      refine jj_ige hG (t := 41) rfl rfl ?_ ?_
      · refine jj_exit c3 ?_
        exact jj_wl hG [0, 1, 2, 3, 4] rfl (b41 _ _ _ _ _)
      refine jjs hG rfl rfl ?_
      refine jj_gr hG (k := 102) rfl rfl rfl rfl ?_
      refine jjs hG rfl rfl ?_
      refine jj_ia hG (k := 102) rfl rfl rfl (fun x1 => ?_)
      refine jjs hG rfl rfl ?_
      refine jj_ine hG (t := 35) rfl rfl ?_ ?_
      · exact jj_wl hG [0, 1, 2, 3, 4] rfl (b35 _ _ _ _ _)
      refine jjs hG rfl rfl ?_
      refine jj_gr hG (k := 103) rfl rfl rfl rfl ?_
      refine jjs hG rfl rfl ?_
      refine jj_la hG (k := 103) rfl rfl rfl (fun x2 => ?_)
      refine jjs hG rfl rfl ?_
      refine jjs hG rfl rfl ?_
      refine jj_leq hG (t := 41) rfl rfl ?_ ?_
      · refine jj_exit c3 ?_
        exact jj_wl hG [0, 1, 2, 3, 4] rfl (b41 _ _ _ _ _)
      exact jj_wl hG [0, 1, 2, 3, 4] rfl (b35 _ _ _ _ _)
  refine (show JJ C R base m G 0 [(0, .ref m), (1, .int p1), (2, .long p2), (4, .long p4)] [] q t kc ks (M_isNotOlder t p1 p2 p4) (some (r, tz)) from ?_) hw h
  refine jj_ic hG rfl cc_i0 ?_
  refine jjc hG rfl rfl (Nat.le_of_ble_eq_true rfl) ?_
  refine jj_lp (fun n => ?_)
  exact jj_wl hG [1, 2, 3, 4, 0] rfl (b3 n _ _ _ _ _)
