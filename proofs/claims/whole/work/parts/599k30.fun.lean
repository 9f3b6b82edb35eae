/-! The model as functions, by program: sayFilters .. sayRedistributed -/
noncomputable def M_sayFilters_b125 (t : moS) (p1 : Int32) (a2 : Int32) : Option ((Int32 × moS) ⊕ moS) := (some (.inl ((a2 + (1 : Int32)), t)))
noncomputable def M_sayFilters_b116 (t : moS) (p1 : Int32) (a2 : Int32) (u1 : Int64) : Option ((Int32 × moS) ⊕ moS) := Option.bind (M_word t u1) (fun s1 => (Option.bind (M_say s1 (10 : Int32)) (fun s2 => ((M_sayFilters_b125 s2 p1 a2)))))
noncomputable def M_sayFilters_b66 (t : moS) (p1 : Int32) (a2 : Int32) (u1 : Int64) : Option ((Int32 × moS) ⊕ moS) := Option.bind (M_word t u1) (fun s1 => (Option.bind (rdI s1 54 a2) (fun x2 => (Option.bind (rdJ s1 55 a2) (fun x3 => (Option.bind (rdJ s1 56 a2) (fun x4 => (Option.bind (rdI s1 57 a2) (fun x5 => (Option.bind (M_wordPrefix s1 x2 x3 x4 x5) (fun s6 => (Option.bind (rdI s6 58 a2) (fun x7 => (if x7 = 0 then ((M_sayFilters_b116 s6 p1 a2 (264585 : Int64))) else ((M_sayFilters_b116 s6 p1 a2 (1652373180 : Int64)))))))))))))))))
noncomputable def M_sayFilters_s5 (t : moS) (p1 : Int32) (a2 : Int32) : Option ((Int32 × moS) ⊕ moS) := if a2 < (((64 : Int32) * p1) + (64 : Int32)) then (Option.bind (rdI t 53 (((2 : Int32) * p1) + ((rem_I a2 (64 : Int32)) / (32 : Int32)))) (fun x1 => (if (rem_I a2 (32 : Int32)) < x1 then (Option.bind (M_begin t (638240218 : Int64) p1) (fun s2 => (if ((rem_I a2 (64 : Int32)) / (32 : Int32)) = 0 then ((M_sayFilters_b66 s2 p1 a2 (374 : Int64))) else ((M_sayFilters_b66 s2 p1 a2 (24860 : Int64)))))) else ((M_sayFilters_b125 t p1 a2))))) else ((xo ((some t))))
noncomputable def M_sayFilters_b5 (t : moS) (p1 : Int32) (a2 : Int32) : Option moS := lp (fun x => M_sayFilters_s5 x.2 p1 x.1) (a2, t)
noncomputable def M_sayFilters (t : moS) (p1 : Int32) : Option moS := (M_sayFilters_b5 t p1 ((64 : Int32) * p1))
set_option maxRecDepth 100000 in
set_option maxHeartbeats 4000000 in
theorem k_sayFilters (base : Nat) (sa : Nat → Nat) {C : Nat × Nat} {R : pmM} {m : Nat} {q : Nat → Nat} {t tz : moS} {kc ks : Nat} {Rt : pmR} {p1 : Int32} (hw : mW C R base m q t kc ks) (h : M_sayFilters t p1 = (some tz)) (k : ∀ (q' : Nat → Nat) (kc' ks' : Nat), mW C R base m q' tz kc' ks' → Rt none (moM R m q' tz) kc' ks') : kP_Mo_sayFilters base sa [.ref m, .int p1] (moM R m q t) kc ks Rt := by
  refine ⟨Nat.le_of_ble_eq_true rfl, fun G hG => ?_⟩
  have b5 : ∀ (n : Nat) (a2 : Int32) (q : Nat → Nat) (t : moS) (kc ks : Nat), JJ C R base m G 5 [(0, .ref m), (1, .int p1), (2, .int a2)] [] q t kc ks (lpN (fun x => M_sayFilters_s5 x.2 p1 x.1) n (a2, t)) (some tz) := by
    intro n
    induction n with
    | zero => intro a2 q t kc ks; exact jj_lp0
    | succ n ih5 =>
      intro a2 q t kc ks
      refine jj_lpS (fun y5 c5 => ?_)
      have b125 : ∀ (a2 : Int32) (q : Nat → Nat) (t : moS) (kc ks : Nat), JJ C R base m G 125 [(0, .ref m), (1, .int p1), (2, .int a2)] [] q t kc ks (M_sayFilters_b125 t p1 a2) (some y5) := by
        intro a2 q t kc ks
        refine jj_inc hG rfl (Nat.le_of_ble_eq_true rfl) rfl cc_i1 ?_
        refine jj_go hG (t := 5) rfl rfl ?_
        exact jj_back c5 (jj_wl hG [1, 2, 0] rfl (ih5 _ _ _ _ _))
      have b116 : ∀ (a2 : Int32) (u1 : Int64) (q : Nat → Nat) (t : moS) (kc ks : Nat), JJ C R base m G 116 [(0, .ref m), (1, .int p1), (2, .int a2)] [.long u1, .ref m] q t kc ks (M_sayFilters_b116 t p1 a2 u1) (some y5) := by
        intro a2 u1 q t kc ks
        refine jj_cvA hG 0 rfl rfl (Nat.le_of_ble_eq_true rfl) (by decide) (Nat.le_of_ble_eq_true rfl) rfl (st' := []) rfl (fun _ _ hw h k => pm_rcv_of moM_m (k_word base sa hw h k)) (fun s1 q kc ks => ?_)
        refine jjs hG rfl rfl ?_
        refine jj_bi hG rfl cc_b10 ?_
        refine jj_cvA hG 0 rfl rfl (Nat.le_of_ble_eq_true rfl) (by decide) (Nat.le_of_ble_eq_true rfl) rfl (st' := []) rfl (fun _ _ hw h k => pm_rcv_of moM_m (k_say base sa hw h k)) (fun s2 q kc ks => ?_)
        exact jj_wl hG [0, 1, 2] rfl (b125 _ _ _ _ _)
      have b66 : ∀ (a2 : Int32) (u1 : Int64) (q : Nat → Nat) (t : moS) (kc ks : Nat), JJ C R base m G 66 [(0, .ref m), (1, .int p1), (2, .int a2)] [.long u1, .ref m] q t kc ks (M_sayFilters_b66 t p1 a2 u1) (some y5) := by
        intro a2 u1 q t kc ks
        refine jj_cvA hG 0 rfl rfl (Nat.le_of_ble_eq_true rfl) (by decide) (Nat.le_of_ble_eq_true rfl) rfl (st' := []) rfl (fun _ _ hw h k => pm_rcv_of moM_m (k_word base sa hw h k)) (fun s1 q kc ks => ?_)
        refine jjs hG rfl rfl ?_
        refine jjs hG rfl rfl ?_
        refine jj_gr hG (k := 54) rfl rfl rfl rfl ?_
        refine jjs hG rfl rfl ?_
        refine jj_ia hG (k := 54) rfl rfl rfl (fun x2 => ?_)
        refine jjs hG rfl rfl ?_
        refine jj_gr hG (k := 55) rfl rfl rfl rfl ?_
        refine jjs hG rfl rfl ?_
        refine jj_la hG (k := 55) rfl rfl rfl (fun x3 => ?_)
        refine jjs hG rfl rfl ?_
        refine jj_gr hG (k := 56) rfl rfl rfl rfl ?_
        refine jjs hG rfl rfl ?_
        refine jj_la hG (k := 56) rfl rfl rfl (fun x4 => ?_)
        refine jjs hG rfl rfl ?_
        refine jj_gr hG (k := 57) rfl rfl rfl rfl ?_
        refine jjs hG rfl rfl ?_
        refine jj_ia hG (k := 57) rfl rfl rfl (fun x5 => ?_)
        refine jj_cvA hG 0 rfl rfl (Nat.le_of_ble_eq_true rfl) (by decide) (Nat.le_of_ble_eq_true rfl) rfl (st' := []) rfl (fun _ _ hw h k => pm_rcv_of moM_m (k_wordPrefix base sa hw h k)) (fun s6 q kc ks => ?_)
        refine jjs hG rfl rfl ?_
        refine jjs hG rfl rfl ?_
        refine jj_gr hG (k := 58) rfl rfl rfl rfl ?_
        refine jjs hG rfl rfl ?_
        refine jj_ba hG (k := 58) rfl rfl rfl (fun x7 => ?_)
        refine jj_zeq hG (t := 113) rfl rfl ?_ ?_
        · refine jj_l2 hG (v := (264585 : Int64)) rfl rfl ?_
          exact jj_wl hG [0, 1, 2] rfl (b116 _ _ _ _ _ _)
        refine jj_l2 hG (v := (1652373180 : Int64)) rfl rfl ?_
        refine jj_go hG (t := 116) rfl rfl ?_
        exact jj_wl hG [0, 1, 2] rfl (b116 _ _ _ _ _ _)
      refine (show JJ C R base m G 5 [(0, .ref m), (1, .int p1), (2, .int a2)] [] q t kc ks (M_sayFilters_s5 t p1 a2) (some y5) from ?_)
      refine jjs hG rfl rfl ?_
      refine jj_bi hG rfl cc_b64 ?_
      refine jjs hG rfl rfl ?_
      refine jjs hG rfl rfl ?_
      refine jj_bi hG rfl cc_b64 ?_
      refine jjs hG rfl rfl ?_
      refine jj_ige hG (t := 131) rfl rfl ?_ ?_
      · refine jj_exit c5 ?_
        exact jj_rvS hG rfl rfl (k _ _ _)
      refine jjs hG rfl rfl ?_
      refine jj_bi hG rfl cc_b64 ?_
      refine jjc hG rfl rfl (by decide) ?_
      refine jj_bi hG rfl cc_b32 ?_
      refine jjc hG rfl rfl (by decide) ?_
      refine jjc hG rfl rfl (Nat.le_of_ble_eq_true rfl) ?_
      refine jjs hG rfl rfl ?_
      refine jj_bi hG rfl cc_b32 ?_
      refine jjc hG rfl rfl (by decide) ?_
      refine jjs hG rfl rfl ?_
      refine jj_gr hG (k := 53) rfl rfl rfl rfl ?_
      refine jj_ic hG rfl cc_i2 ?_
      refine jj_at (pc' := 33) rfl ?_
      refine jjs hG rfl rfl ?_
      refine jjs hG rfl rfl ?_
      refine jjs hG rfl rfl ?_
      refine jjs hG rfl rfl ?_
      refine jj_ia hG (k := 53) rfl rfl rfl (fun x1 => ?_)
      refine jj_ilt hG (t := 44) rfl rfl ?_ ?_
      · refine jjs hG rfl rfl ?_
        refine jj_l2 hG (v := (638240218 : Int64)) rfl rfl ?_
        refine jjs hG rfl rfl ?_
        refine jj_cvA hG 0 rfl rfl (Nat.le_of_ble_eq_true rfl) (by decide) (Nat.le_of_ble_eq_true rfl) rfl (st' := []) rfl (fun _ _ hw h k => pm_rcv_of moM_m (k_begin base sa hw h k)) (fun s2 q kc ks => ?_)
        refine jjs hG rfl rfl ?_
        refine jjs hG rfl rfl ?_
        refine jj_zne hG (t := 63) rfl rfl ?_ ?_
        · refine jj_l2 hG (v := (24860 : Int64)) rfl rfl ?_
          exact jj_wl hG [1, 2, 3] rfl (b66 _ _ _ _ _ _)
        refine jj_l2 hG (v := (374 : Int64)) rfl rfl ?_
        refine jj_go hG (t := 66) rfl rfl ?_
        exact jj_wl hG [1, 2, 3] rfl (b66 _ _ _ _ _ _)
      refine jj_go hG (t := 125) rfl rfl ?_
      exact jj_wl hG [1, 2, 3] rfl (b125 _ _ _ _ _)
  refine (show JJ C R base m G 0 [(0, .ref m), (1, .int p1)] [] q t kc ks (M_sayFilters t p1) (some tz) from ?_) hw h
  refine jj_bi hG rfl cc_b64 ?_
  refine jjs hG rfl rfl ?_
  refine jjs hG rfl rfl ?_
  refine jjc hG rfl rfl (Nat.le_of_ble_eq_true rfl) ?_
  refine jj_lp (fun n => ?_)
  exact jj_wl hG [1, 2, 0] rfl (b5 n _ _ _ _ _)
noncomputable def M_sayLists_b78 (t : moS) (p1 : Int32) (a2 : Int32) (u1 : Int64) : Option ((Int32 × moS) ⊕ moS) := Option.bind (M_word t u1) (fun s1 => (Option.bind (rdI s1 62 a2) (fun x2 => (Option.bind (rdJ s1 28 x2) (fun x3 => (Option.bind (M_word s1 x3) (fun s4 => (Option.bind (M_say s4 (10 : Int32)) (fun s5 => ((some (.inl ((a2 + (1 : Int32)), s5)))))))))))))
noncomputable def M_sayLists_b47 (t : moS) (p1 : Int32) (a2 : Int32) (u1 : Int64) : Option ((Int32 × moS) ⊕ moS) := Option.bind (M_word t u1) (fun s1 => (Option.bind (rdI s1 61 a2) (fun x2 => (if x2 = ((-1) : Int32) then ((M_sayLists_b78 s1 p1 a2 (37 : Int64))) else (Option.bind (rdI s1 61 a2) (fun x3 => (Option.bind (rdJ s1 18 x3) (fun x4 => ((M_sayLists_b78 s1 p1 a2 x4))))))))))
noncomputable def M_sayLists_b186 (t : moS) (p1 : Int32) (a2 : Int32) (u1 : Int64) : Option ((Int32 × moS) ⊕ moS) := Option.bind (M_word t u1) (fun s1 => (Option.bind (rdI s1 66 a2) (fun x2 => (Option.bind (rdJ s1 28 x2) (fun x3 => (Option.bind (M_word s1 x3) (fun s4 => (Option.bind (rdI s4 67 a2) (fun x5 => (Option.bind (M_wordNumber s4 x5) (fun s6 => (Option.bind (M_say s6 (10 : Int32)) (fun s7 => ((some (.inl ((a2 + (1 : Int32)), s7)))))))))))))))))
noncomputable def M_sayLists_b155 (t : moS) (p1 : Int32) (a2 : Int32) (u1 : Int64) : Option ((Int32 × moS) ⊕ moS) := Option.bind (M_word t u1) (fun s1 => (Option.bind (rdI s1 65 a2) (fun x2 => (if x2 = ((-1) : Int32) then ((M_sayLists_b186 s1 p1 a2 (37 : Int64))) else (Option.bind (rdI s1 65 a2) (fun x3 => (Option.bind (rdJ s1 18 x3) (fun x4 => ((M_sayLists_b186 s1 p1 a2 x4))))))))))
noncomputable def M_sayLists_s113 (t : moS) (p1 : Int32) (a2 : Int32) : Option ((Int32 × moS) ⊕ moS) := Option.bind (rdI t 63 p1) (fun x1 => (if a2 < (((8 : Int32) * p1) + x1) then (Option.bind (M_begin t (1551774620 : Int64) p1) (fun s2 => (Option.bind (rdI s2 64 a2) (fun x3 => (if x3 = 0 then ((M_sayLists_b155 s2 p1 a2 (374 : Int64))) else ((M_sayLists_b155 s2 p1 a2 (24860 : Int64)))))))) else ((xo ((some t))))))
noncomputable def M_sayLists_b113 (t : moS) (p1 : Int32) (a2 : Int32) : Option moS := lp (fun x => M_sayLists_s113 x.2 p1 x.1) (a2, t)
noncomputable def M_sayLists_s5 (t : moS) (p1 : Int32) (a2 : Int32) : Option ((Int32 × moS) ⊕ moS) := Option.bind (rdI t 59 p1) (fun x1 => (if a2 < (((8 : Int32) * p1) + x1) then (Option.bind (M_begin t (1110755146402405 : Int64) p1) (fun s2 => (Option.bind (rdI s2 60 a2) (fun x3 => (if x3 = 0 then ((M_sayLists_b47 s2 p1 a2 (374 : Int64))) else ((M_sayLists_b47 s2 p1 a2 (24860 : Int64)))))))) else ((xo ((M_sayLists_b113 t p1 ((8 : Int32) * p1)))))))
noncomputable def M_sayLists_b5 (t : moS) (p1 : Int32) (a2 : Int32) : Option moS := lp (fun x => M_sayLists_s5 x.2 p1 x.1) (a2, t)
noncomputable def M_sayLists (t : moS) (p1 : Int32) : Option moS := (M_sayLists_b5 t p1 ((8 : Int32) * p1))
set_option maxRecDepth 100000 in
set_option maxHeartbeats 4000000 in
theorem k_sayLists (base : Nat) (sa : Nat → Nat) {C : Nat × Nat} {R : pmM} {m : Nat} {q : Nat → Nat} {t tz : moS} {kc ks : Nat} {Rt : pmR} {p1 : Int32} (hw : mW C R base m q t kc ks) (h : M_sayLists t p1 = (some tz)) (k : ∀ (q' : Nat → Nat) (kc' ks' : Nat), mW C R base m q' tz kc' ks' → Rt none (moM R m q' tz) kc' ks') : kP_Mo_sayLists base sa [.ref m, .int p1] (moM R m q t) kc ks Rt := by
  refine ⟨Nat.le_of_ble_eq_true rfl, fun G hG => ?_⟩
  have b113 : ∀ (n : Nat) (a2 : Int32) (q : Nat → Nat) (t : moS) (kc ks : Nat), JJ C R base m G 113 [(0, .ref m), (1, .int p1), (2, .int a2)] [] q t kc ks (lpN (fun x => M_sayLists_s113 x.2 p1 x.1) n (a2, t)) (some tz) := by
    intro n
    induction n with
    | zero => intro a2 q t kc ks; exact jj_lp0
    | succ n ih113 =>
      intro a2 q t kc ks
      refine jj_lpS (fun y113 c113 => ?_)
      have b186 : ∀ (a2 : Int32) (u1 : Int64) (q : Nat → Nat) (t : moS) (kc ks : Nat), JJ C R base m G 186 [(0, .ref m), (1, .int p1), (2, .int a2)] [.long u1, .ref m] q t kc ks (M_sayLists_b186 t p1 a2 u1) (some y113) := by
        intro a2 u1 q t kc ks
        refine jj_cvA hG 0 rfl rfl (Nat.le_of_ble_eq_true rfl) (by decide) (Nat.le_of_ble_eq_true rfl) rfl (st' := []) rfl (fun _ _ hw h k => pm_rcv_of moM_m (k_word base sa hw h k)) (fun s1 q kc ks => ?_)
        refine jjs hG rfl rfl ?_
        refine jjs hG rfl rfl ?_
        refine jj_gr hG (k := 28) rfl rfl rfl rfl ?_
        refine jjs hG rfl rfl ?_
        refine jj_gr hG (k := 66) rfl rfl rfl rfl ?_
        refine jjs hG rfl rfl ?_
        refine jj_ia hG (k := 66) rfl rfl rfl (fun x2 => ?_)
        refine jj_la hG (k := 28) rfl rfl rfl (fun x3 => ?_)
        refine jj_cvA hG 0 rfl rfl (Nat.le_of_ble_eq_true rfl) (by decide) (Nat.le_of_ble_eq_true rfl) rfl (st' := []) rfl (fun _ _ hw h k => pm_rcv_of moM_m (k_word base sa hw h k)) (fun s4 q kc ks => ?_)
        refine jjs hG rfl rfl ?_
        refine jjs hG rfl rfl ?_
        refine jj_gr hG (k := 67) rfl rfl rfl rfl ?_
        refine jjs hG rfl rfl ?_
        refine jj_ia hG (k := 67) rfl rfl rfl (fun x5 => ?_)
        refine jj_cvA hG 0 rfl rfl (Nat.le_of_ble_eq_true rfl) (by decide) (Nat.le_of_ble_eq_true rfl) rfl (st' := []) rfl (fun _ _ hw h k => pm_rcv_of moM_m (k_wordNumber base sa hw h k)) (fun s6 q kc ks => ?_)
        refine jjs hG rfl rfl ?_
        refine jj_bi hG rfl cc_b10 ?_
        refine jj_cvA hG 0 rfl rfl (Nat.le_of_ble_eq_true rfl) (by decide) (Nat.le_of_ble_eq_true rfl) rfl (st' := []) rfl (fun _ _ hw h k => pm_rcv_of moM_m (k_say base sa hw h k)) (fun s7 q kc ks => ?_)
        refine jj_inc hG rfl (Nat.le_of_ble_eq_true rfl) rfl cc_i1 ?_
        refine jj_go hG (t := 113) rfl rfl ?_
        exact jj_back c113 (jj_wl hG [1, 2, 0] rfl (ih113 _ _ _ _ _))
      have b155 : ∀ (a2 : Int32) (u1 : Int64) (q : Nat → Nat) (t : moS) (kc ks : Nat), JJ C R base m G 155 [(0, .ref m), (1, .int p1), (2, .int a2)] [.long u1, .ref m] q t kc ks (M_sayLists_b155 t p1 a2 u1) (some y113) := by
        intro a2 u1 q t kc ks
        refine jj_cvA hG 0 rfl rfl (Nat.le_of_ble_eq_true rfl) (by decide) (Nat.le_of_ble_eq_true rfl) rfl (st' := []) rfl (fun _ _ hw h k => pm_rcv_of moM_m (k_word base sa hw h k)) (fun s1 q kc ks => ?_)
        refine jjs hG rfl rfl ?_
        refine jjs hG rfl rfl ?_
        refine jj_gr hG (k := 65) rfl rfl rfl rfl ?_
        refine jjs hG rfl rfl ?_
        refine jj_ia hG (k := 65) rfl rfl rfl (fun x2 => ?_)
        refine jj_ic hG rfl cc_im1 ?_
        refine jj_ine hG (t := 175) rfl rfl ?_ ?_
        · refine jjs hG rfl rfl ?_
          refine jj_gr hG (k := 18) rfl rfl rfl rfl ?_
          refine jjs hG rfl rfl ?_
          refine jj_gr hG (k := 65) rfl rfl rfl rfl ?_
          refine jjs hG rfl rfl ?_
          refine jj_ia hG (k := 65) rfl rfl rfl (fun x3 => ?_)
          refine jj_la hG (k := 18) rfl rfl rfl (fun x4 => ?_)
          exact jj_wl hG [0, 1, 2] rfl (b186 _ _ _ _ _ _)
        refine jj_l2 hG (v := (37 : Int64)) rfl rfl ?_
        refine jj_go hG (t := 186) rfl rfl ?_
        exact jj_wl hG [0, 1, 2] rfl (b186 _ _ _ _ _ _)
      refine (show JJ C R base m G 113 [(0, .ref m), (1, .int p1), (2, .int a2)] [] q t kc ks (M_sayLists_s113 t p1 a2) (some y113) from ?_)
      refine jjs hG rfl rfl ?_
      refine jj_bi hG rfl cc_b8 ?_
      refine jjs hG rfl rfl ?_
      refine jjs hG rfl rfl ?_
      refine jjs hG rfl rfl ?_
      refine jj_gr hG (k := 63) rfl rfl rfl rfl ?_
      refine jjs hG rfl rfl ?_
      refine jj_ia hG (k := 63) rfl rfl rfl (fun x1 => ?_)
      refine jjs hG rfl rfl ?_
      refine jj_ige hG (t := 226) rfl rfl ?_ ?_
      · refine jj_exit c113 ?_
        exact jj_rvS hG rfl rfl (k _ _ _)
      refine jjs hG rfl rfl ?_
      refine jj_l2 hG (v := (1551774620 : Int64)) rfl rfl ?_
      refine jjs hG rfl rfl ?_
      refine jj_cvA hG 0 rfl rfl (Nat.le_of_ble_eq_true rfl) (by decide) (Nat.le_of_ble_eq_true rfl) rfl (st' := []) rfl (fun _ _ hw h k => pm_rcv_of moM_m (k_begin base sa hw h k)) (fun s2 q kc ks => ?_)
      refine jjs hG rfl rfl ?_
      refine jjs hG rfl rfl ?_
      refine jj_gr hG (k := 64) rfl rfl rfl rfl ?_
      refine jjs hG rfl rfl ?_
      refine jj_ia hG (k := 64) rfl rfl rfl (fun x3 => ?_)
      refine jj_zne hG (t := 152) rfl rfl ?_ ?_
      · refine jj_l2 hG (v := (24860 : Int64)) rfl rfl ?_
        exact jj_wl hG [0, 1, 2] rfl (b155 _ _ _ _ _ _)
      refine jj_l2 hG (v := (374 : Int64)) rfl rfl ?_
      refine jj_go hG (t := 155) rfl rfl ?_
      exact jj_wl hG [0, 1, 2] rfl (b155 _ _ _ _ _ _)
  have b5 : ∀ (n : Nat) (a2 : Int32) (q : Nat → Nat) (t : moS) (kc ks : Nat), JJ C R base m G 5 [(0, .ref m), (1, .int p1), (2, .int a2)] [] q t kc ks (lpN (fun x => M_sayLists_s5 x.2 p1 x.1) n (a2, t)) (some tz) := by
    intro n
    induction n with
    | zero => intro a2 q t kc ks; exact jj_lp0
    | succ n ih5 =>
      intro a2 q t kc ks
      refine jj_lpS (fun y5 c5 => ?_)
      have b78 : ∀ (a2 : Int32) (u1 : Int64) (q : Nat → Nat) (t : moS) (kc ks : Nat), JJ C R base m G 78 [(0, .ref m), (1, .int p1), (2, .int a2)] [.long u1, .ref m] q t kc ks (M_sayLists_b78 t p1 a2 u1) (some y5) := by
        intro a2 u1 q t kc ks
        refine jj_cvA hG 0 rfl rfl (Nat.le_of_ble_eq_true rfl) (by decide) (Nat.le_of_ble_eq_true rfl) rfl (st' := []) rfl (fun _ _ hw h k => pm_rcv_of moM_m (k_word base sa hw h k)) (fun s1 q kc ks => ?_)
        refine jjs hG rfl rfl ?_
        refine jjs hG rfl rfl ?_
        refine jj_gr hG (k := 28) rfl rfl rfl rfl ?_
        refine jjs hG rfl rfl ?_
        refine jj_gr hG (k := 62) rfl rfl rfl rfl ?_
        refine jjs hG rfl rfl ?_
        refine jj_ia hG (k := 62) rfl rfl rfl (fun x2 => ?_)
        refine jj_la hG (k := 28) rfl rfl rfl (fun x3 => ?_)
        refine jj_cvA hG 0 rfl rfl (Nat.le_of_ble_eq_true rfl) (by decide) (Nat.le_of_ble_eq_true rfl) rfl (st' := []) rfl (fun _ _ hw h k => pm_rcv_of moM_m (k_word base sa hw h k)) (fun s4 q kc ks => ?_)
        refine jjs hG rfl rfl ?_
        refine jj_bi hG rfl cc_b10 ?_
        refine jj_cvA hG 0 rfl rfl (Nat.le_of_ble_eq_true rfl) (by decide) (Nat.le_of_ble_eq_true rfl) rfl (st' := []) rfl (fun _ _ hw h k => pm_rcv_of moM_m (k_say base sa hw h k)) (fun s5 q kc ks => ?_)
        refine jj_inc hG rfl (Nat.le_of_ble_eq_true rfl) rfl cc_i1 ?_
        refine jj_go hG (t := 5) rfl rfl ?_
        exact jj_back c5 (jj_wl hG [1, 2, 0] rfl (ih5 _ _ _ _ _))
      have b47 : ∀ (a2 : Int32) (u1 : Int64) (q : Nat → Nat) (t : moS) (kc ks : Nat), JJ C R base m G 47 [(0, .ref m), (1, .int p1), (2, .int a2)] [.long u1, .ref m] q t kc ks (M_sayLists_b47 t p1 a2 u1) (some y5) := by
        intro a2 u1 q t kc ks
        refine jj_cvA hG 0 rfl rfl (Nat.le_of_ble_eq_true rfl) (by decide) (Nat.le_of_ble_eq_true rfl) rfl (st' := []) rfl (fun _ _ hw h k => pm_rcv_of moM_m (k_word base sa hw h k)) (fun s1 q kc ks => ?_)
        refine jjs hG rfl rfl ?_
        refine jjs hG rfl rfl ?_
        refine jj_gr hG (k := 61) rfl rfl rfl rfl ?_
        refine jjs hG rfl rfl ?_
        refine jj_ia hG (k := 61) rfl rfl rfl (fun x2 => ?_)
        refine jj_ic hG rfl cc_im1 ?_
        refine jj_ine hG (t := 67) rfl rfl ?_ ?_
        · refine jjs hG rfl rfl ?_
          refine jj_gr hG (k := 18) rfl rfl rfl rfl ?_
          refine jjs hG rfl rfl ?_
          refine jj_gr hG (k := 61) rfl rfl rfl rfl ?_
          refine jjs hG rfl rfl ?_
          refine jj_ia hG (k := 61) rfl rfl rfl (fun x3 => ?_)
          refine jj_la hG (k := 18) rfl rfl rfl (fun x4 => ?_)
          exact jj_wl hG [0, 1, 2] rfl (b78 _ _ _ _ _ _)
        refine jj_l2 hG (v := (37 : Int64)) rfl rfl ?_
        refine jj_go hG (t := 78) rfl rfl ?_
        exact jj_wl hG [0, 1, 2] rfl (b78 _ _ _ _ _ _)
      refine (show JJ C R base m G 5 [(0, .ref m), (1, .int p1), (2, .int a2)] [] q t kc ks (M_sayLists_s5 t p1 a2) (some y5) from ?_)
      refine jjs hG rfl rfl ?_
      refine jj_bi hG rfl cc_b8 ?_
      refine jjs hG rfl rfl ?_
      refine jjs hG rfl rfl ?_
      refine jjs hG rfl rfl ?_
      refine jj_gr hG (k := 59) rfl rfl rfl rfl ?_
      refine jjs hG rfl rfl ?_
      refine jj_ia hG (k := 59) rfl rfl rfl (fun x1 => ?_)
      refine jjs hG rfl rfl ?_
      refine jj_ige hG (t := 108) rfl rfl ?_ ?_
      · refine jj_exit c5 ?_
        refine jj_bi hG rfl cc_b8 ?_
        refine jjs hG rfl rfl ?_
        refine jjs hG rfl rfl ?_
        refine jjc hG rfl rfl (Nat.le_of_ble_eq_true rfl) ?_
        refine jj_lp (fun n => ?_)
        exact jj_wl hG [1, 2, 0] rfl (b113 n _ _ _ _ _)
      refine jjs hG rfl rfl ?_
      refine jj_l2 hG (v := (1110755146402405 : Int64)) rfl rfl ?_
      refine jjs hG rfl rfl ?_
      refine jj_cvA hG 0 rfl rfl (Nat.le_of_ble_eq_true rfl) (by decide) (Nat.le_of_ble_eq_true rfl) rfl (st' := []) rfl (fun _ _ hw h k => pm_rcv_of moM_m (k_begin base sa hw h k)) (fun s2 q kc ks => ?_)
      refine jjs hG rfl rfl ?_
      refine jjs hG rfl rfl ?_
      refine jj_gr hG (k := 60) rfl rfl rfl rfl ?_
      refine jjs hG rfl rfl ?_
      refine jj_ia hG (k := 60) rfl rfl rfl (fun x3 => ?_)
      refine jj_zne hG (t := 44) rfl rfl ?_ ?_
      · refine jj_l2 hG (v := (24860 : Int64)) rfl rfl ?_
        exact jj_wl hG [0, 1, 2] rfl (b47 _ _ _ _ _ _)
      refine jj_l2 hG (v := (374 : Int64)) rfl rfl ?_
      refine jj_go hG (t := 47) rfl rfl ?_
      exact jj_wl hG [0, 1, 2] rfl (b47 _ _ _ _ _ _)
  refine (show JJ C R base m G 0 [(0, .ref m), (1, .int p1)] [] q t kc ks (M_sayLists t p1) (some tz) from ?_) hw h
  refine jj_bi hG rfl cc_b8 ?_
  refine jjs hG rfl rfl ?_
  refine jjs hG rfl rfl ?_
  refine jjc hG rfl rfl (Nat.le_of_ble_eq_true rfl) ?_
  refine jj_lp (fun n => ?_)
  exact jj_wl hG [1, 2, 0] rfl (b5 n _ _ _ _ _)
noncomputable def M_saySummaries_b174 (t : moS) : Option moS := Option.bind (M_say t (10 : Int32)) (fun s1 => ((some s1)))
noncomputable def M_saySummaries_s70 (t : moS) (p1 : Int32) (a2 : Int32) : Option ((Int32 × moS) ⊕ moS) := Option.bind (rdI t 95 p1) (fun x1 => (if a2 < (((4 : Int32) * p1) + x1) then (Option.bind (M_beginAt t (2315180035818 : Int64) p1) (fun s8 => (Option.bind (M_space s8) (fun s9 => (Option.bind (rdI s9 96 a2) (fun x10 => (Option.bind (rdJ s9 97 a2) (fun x11 => (Option.bind (rdJ s9 98 a2) (fun x12 => (Option.bind (M_sayAddress s9 x10 x11 x12) (fun s13 => (Option.bind (M_say s13 (10 : Int32)) (fun s14 => ((some (.inl ((a2 + (1 : Int32)), s14)))))))))))))))))) else ((xo (Option.bind (rdI t 99 p1) (fun x2 => (if x2 = 0 then ((some t)) else (Option.bind (M_beginAt t (16911458100 : Int64) p1) (fun s3 => (Option.bind (rdI s3 99 p1) (fun x4 => (Option.bind (M_wordNumber s3 x4) (fun s5 => (Option.bind (rdI s5 100 p1) (fun x6 => (if x6 = 0 then ((M_saySummaries_b174 s5)) else (Option.bind (M_word s5 (982905 : Int64)) (fun s7 => ((M_saySummaries_b174 s7))))))))))))))))))))
noncomputable def M_saySummaries_b70 (t : moS) (p1 : Int32) (a2 : Int32) : Option moS := lp (fun x => M_saySummaries_s70 x.2 p1 x.1) (a2, t)
noncomputable def M_saySummaries_s4 (t : moS) (p1 : Int32) (a2 : Int32) : Option ((Int32 × moS) ⊕ moS) := Option.bind (rdI t 90 p1) (fun x1 => (if a2 < (((4 : Int32) * p1) + x1) then (Option.bind (M_beginAt t (80008514345 : Int64) p1) (fun s2 => (Option.bind (rdI s2 91 a2) (fun x3 => (Option.bind (rdJ s2 92 a2) (fun x4 => (Option.bind (rdJ s2 93 a2) (fun x5 => (Option.bind (rdI s2 94 a2) (fun x6 => (Option.bind (M_wordPrefix s2 x3 x4 x5 x6) (fun s7 => (Option.bind (M_say s7 (10 : Int32)) (fun s8 => ((some (.inl ((a2 + (1 : Int32)), s8)))))))))))))))))) else ((xo ((M_saySummaries_b70 t p1 ((4 : Int32) * p1)))))))
noncomputable def M_saySummaries_b4 (t : moS) (p1 : Int32) (a2 : Int32) : Option moS := lp (fun x => M_saySummaries_s4 x.2 p1 x.1) (a2, t)
noncomputable def M_saySummaries (t : moS) (p1 : Int32) : Option moS := (M_saySummaries_b4 t p1 ((4 : Int32) * p1))
set_option maxRecDepth 100000 in
set_option maxHeartbeats 4000000 in
theorem k_saySummaries (base : Nat) (sa : Nat → Nat) {C : Nat × Nat} {R : pmM} {m : Nat} {q : Nat → Nat} {t tz : moS} {kc ks : Nat} {Rt : pmR} {p1 : Int32} (hw : mW C R base m q t kc ks) (h : M_saySummaries t p1 = (some tz)) (k : ∀ (q' : Nat → Nat) (kc' ks' : Nat), mW C R base m q' tz kc' ks' → Rt none (moM R m q' tz) kc' ks') : kP_Mo_saySummaries base sa [.ref m, .int p1] (moM R m q t) kc ks Rt := by
  refine ⟨Nat.le_of_ble_eq_true rfl, fun G hG => ?_⟩
  have b174 : ∀ (q : Nat → Nat) (t : moS) (kc ks : Nat), JJ C R base m G 174 [(0, .ref m)] [] q t kc ks (M_saySummaries_b174 t) (some tz) := by
    intro q t kc ks
    refine jjs hG rfl rfl ?_
    refine jj_bi hG rfl cc_b10 ?_
    refine jj_cvA hG 0 rfl rfl (Nat.le_of_ble_eq_true rfl) (by decide) (Nat.le_of_ble_eq_true rfl) rfl (st' := []) rfl (fun _ _ hw h k => pm_rcv_of moM_m (k_say base sa hw h k)) (fun s1 q kc ks => ?_)
    exact jj_rvS hG rfl rfl (k _ _ _)
  have b70 : ∀ (n : Nat) (a2 : Int32) (q : Nat → Nat) (t : moS) (kc ks : Nat), JJ C R base m G 70 [(0, .ref m), (1, .int p1), (2, .int a2)] [] q t kc ks (lpN (fun x => M_saySummaries_s70 x.2 p1 x.1) n (a2, t)) (some tz) := by
    intro n
    induction n with
    | zero => intro a2 q t kc ks; exact jj_lp0
    | succ n ih70 =>
      intro a2 q t kc ks
      refine jj_lpS (fun y70 c70 => ?_)
      refine (show JJ C R base m G 70 [(0, .ref m), (1, .int p1), (2, .int a2)] [] q t kc ks (M_saySummaries_s70 t p1 a2) (some y70) from ?_)
      refine jjs hG rfl rfl ?_
      refine jj_ic hG rfl cc_i4 ?_
      refine jjs hG rfl rfl ?_
      refine jjs hG rfl rfl ?_
      refine jjs hG rfl rfl ?_
      refine jj_gr hG (k := 95) rfl rfl rfl rfl ?_
      refine jjs hG rfl rfl ?_
      refine jj_ia hG (k := 95) rfl rfl rfl (fun x1 => ?_)
      refine jjs hG rfl rfl ?_
      refine jj_ige hG (t := 130) rfl rfl ?_ ?_
      · refine jj_exit c70 ?_
        refine jjs hG rfl rfl ?_
        refine jj_gr hG (k := 99) rfl rfl rfl rfl ?_
        refine jjs hG rfl rfl ?_
        refine jj_ia hG (k := 99) rfl rfl rfl (fun x2 => ?_)
        refine jj_zne hG (t := 140) rfl rfl ?_ ?_
        · refine jjs hG rfl rfl ?_
          refine jj_l2 hG (v := (16911458100 : Int64)) rfl rfl ?_
          refine jjs hG rfl rfl ?_
          refine jj_cvA hG 0 rfl rfl (Nat.le_of_ble_eq_true rfl) (by decide) (Nat.le_of_ble_eq_true rfl) rfl (st' := []) rfl (fun _ _ hw h k => pm_rcv_of moM_m (k_beginAt base sa hw h k)) (fun s3 q kc ks => ?_)
          refine jjs hG rfl rfl ?_
          refine jjs hG rfl rfl ?_
          refine jj_gr hG (k := 99) rfl rfl rfl rfl ?_
          refine jjs hG rfl rfl ?_
          refine jj_ia hG (k := 99) rfl rfl rfl (fun x4 => ?_)
          refine jj_cvA hG 0 rfl rfl (Nat.le_of_ble_eq_true rfl) (by decide) (Nat.le_of_ble_eq_true rfl) rfl (st' := []) rfl (fun _ _ hw h k => pm_rcv_of moM_m (k_wordNumber base sa hw h k)) (fun s5 q kc ks => ?_)
          refine jjs hG rfl rfl ?_
          refine jj_gr hG (k := 100) rfl rfl rfl rfl ?_
          refine jjs hG rfl rfl ?_
          refine jj_ba hG (k := 100) rfl rfl rfl (fun x6 => ?_)
          refine jj_zeq hG (t := 174) rfl rfl ?_ ?_
          · exact jj_wl hG [0] rfl (b174 _ _ _ _)
          refine jjs hG rfl rfl ?_
          refine jj_l2 hG (v := (982905 : Int64)) rfl rfl ?_
          refine jj_cvA hG 0 rfl rfl (Nat.le_of_ble_eq_true rfl) (by decide) (Nat.le_of_ble_eq_true rfl) rfl (st' := []) rfl (fun _ _ hw h k => pm_rcv_of moM_m (k_word base sa hw h k)) (fun s7 q kc ks => ?_)
          exact jj_wl hG [0] rfl (b174 _ _ _ _)
        exact jj_rvS hG rfl rfl (k _ _ _)
      refine jjs hG rfl rfl ?_
      refine jj_l2 hG (v := (2315180035818 : Int64)) rfl rfl ?_
      refine jjs hG rfl rfl ?_
      refine jj_cvA hG 0 rfl rfl (Nat.le_of_ble_eq_true rfl) (by decide) (Nat.le_of_ble_eq_true rfl) rfl (st' := []) rfl (fun _ _ hw h k => pm_rcv_of moM_m (k_beginAt base sa hw h k)) (fun s8 q kc ks => ?_)
      refine jjs hG rfl rfl ?_
      refine jj_cvA hG 0 rfl rfl (Nat.le_of_ble_eq_true rfl) (by decide) (Nat.le_of_ble_eq_true rfl) rfl (st' := []) rfl (fun _ _ hw h k => pm_rcv_of moM_m (k_space base sa hw h k)) (fun s9 q kc ks => ?_)
      refine jjs hG rfl rfl ?_
      refine jjs hG rfl rfl ?_
      refine jj_gr hG (k := 96) rfl rfl rfl rfl ?_
      refine jjs hG rfl rfl ?_
      refine jj_ia hG (k := 96) rfl rfl rfl (fun x10 => ?_)
      refine jjs hG rfl rfl ?_
      refine jj_gr hG (k := 97) rfl rfl rfl rfl ?_
      refine jjs hG rfl rfl ?_
      refine jj_la hG (k := 97) rfl rfl rfl (fun x11 => ?_)
      refine jjs hG rfl rfl ?_
      refine jj_gr hG (k := 98) rfl rfl rfl rfl ?_
      refine jjs hG rfl rfl ?_
      refine jj_la hG (k := 98) rfl rfl rfl (fun x12 => ?_)
      refine jj_cvA hG 0 rfl rfl (Nat.le_of_ble_eq_true rfl) (by decide) (Nat.le_of_ble_eq_true rfl) rfl (st' := []) rfl (fun _ _ hw h k => pm_rcv_of moM_m (k_sayAddress base sa hw h k)) (fun s13 q kc ks => ?_)
      refine jjs hG rfl rfl ?_
      refine jj_bi hG rfl cc_b10 ?_
      refine jj_cvA hG 0 rfl rfl (Nat.le_of_ble_eq_true rfl) (by decide) (Nat.le_of_ble_eq_true rfl) rfl (st' := []) rfl (fun _ _ hw h k => pm_rcv_of moM_m (k_say base sa hw h k)) (fun s14 q kc ks => ?_)
      refine jj_inc hG rfl (Nat.le_of_ble_eq_true rfl) rfl cc_i1 ?_
      refine jj_go hG (t := 70) rfl rfl ?_
      exact jj_back c70 (jj_wl hG [1, 2, 0] rfl (ih70 _ _ _ _ _))
  have b4 : ∀ (n : Nat) (a2 : Int32) (q : Nat → Nat) (t : moS) (kc ks : Nat), JJ C R base m G 4 [(0, .ref m), (1, .int p1), (2, .int a2)] [] q t kc ks (lpN (fun x => M_saySummaries_s4 x.2 p1 x.1) n (a2, t)) (some tz) := by
    intro n
    induction n with
    | zero => intro a2 q t kc ks; exact jj_lp0
    | succ n ih4 =>
      intro a2 q t kc ks
      refine jj_lpS (fun y4 c4 => ?_)
      refine (show JJ C R base m G 4 [(0, .ref m), (1, .int p1), (2, .int a2)] [] q t kc ks (M_saySummaries_s4 t p1 a2) (some y4) from ?_)
      refine jjs hG rfl rfl ?_
      refine jj_ic hG rfl cc_i4 ?_
      refine jjs hG rfl rfl ?_
      refine jjs hG rfl rfl ?_
      refine jjs hG rfl rfl ?_
      refine jj_gr hG (k := 90) rfl rfl rfl rfl ?_
      refine jjs hG rfl rfl ?_
      refine jj_ia hG (k := 90) rfl rfl rfl (fun x1 => ?_)
      refine jjs hG rfl rfl ?_
      refine jj_ige hG (t := 66) rfl rfl ?_ ?_
      · refine jj_exit c4 ?_
        refine jj_ic hG rfl cc_i4 ?_
        refine jjs hG rfl rfl ?_
        refine jjs hG rfl rfl ?_
        refine jjc hG rfl rfl (Nat.le_of_ble_eq_true rfl) ?_
        refine jj_lp (fun n => ?_)
        exact jj_wl hG [1, 2, 0] rfl (b70 n _ _ _ _ _)
      refine jjs hG rfl rfl ?_
      refine jj_l2 hG (v := (80008514345 : Int64)) rfl rfl ?_
      refine jjs hG rfl rfl ?_
      refine jj_cvA hG 0 rfl rfl (Nat.le_of_ble_eq_true rfl) (by decide) (Nat.le_of_ble_eq_true rfl) rfl (st' := []) rfl (fun _ _ hw h k => pm_rcv_of moM_m (k_beginAt base sa hw h k)) (fun s2 q kc ks => ?_)
      refine jjs hG rfl rfl ?_
      refine jjs hG rfl rfl ?_
      refine jj_gr hG (k := 91) rfl rfl rfl rfl ?_
      refine jjs hG rfl rfl ?_
      refine jj_ia hG (k := 91) rfl rfl rfl (fun x3 => ?_)
      refine jjs hG rfl rfl ?_
      refine jj_gr hG (k := 92) rfl rfl rfl rfl ?_
      refine jjs hG rfl rfl ?_
      refine jj_la hG (k := 92) rfl rfl rfl (fun x4 => ?_)
      refine jjs hG rfl rfl ?_
      refine jj_gr hG (k := 93) rfl rfl rfl rfl ?_
      refine jjs hG rfl rfl ?_
      refine jj_la hG (k := 93) rfl rfl rfl (fun x5 => ?_)
      refine jjs hG rfl rfl ?_
      refine jj_gr hG (k := 94) rfl rfl rfl rfl ?_
      refine jjs hG rfl rfl ?_
      refine jj_ia hG (k := 94) rfl rfl rfl (fun x6 => ?_)
      refine jj_cvA hG 0 rfl rfl (Nat.le_of_ble_eq_true rfl) (by decide) (Nat.le_of_ble_eq_true rfl) rfl (st' := []) rfl (fun _ _ hw h k => pm_rcv_of moM_m (k_wordPrefix base sa hw h k)) (fun s7 q kc ks => ?_)
      refine jjs hG rfl rfl ?_
      refine jj_bi hG rfl cc_b10 ?_
      refine jj_cvA hG 0 rfl rfl (Nat.le_of_ble_eq_true rfl) (by decide) (Nat.le_of_ble_eq_true rfl) rfl (st' := []) rfl (fun _ _ hw h k => pm_rcv_of moM_m (k_say base sa hw h k)) (fun s8 q kc ks => ?_)
      refine jj_inc hG rfl (Nat.le_of_ble_eq_true rfl) rfl cc_i1 ?_
      refine jj_go hG (t := 4) rfl rfl ?_
      exact jj_back c4 (jj_wl hG [1, 2, 0] rfl (ih4 _ _ _ _ _))
  refine (show JJ C R base m G 0 [(0, .ref m), (1, .int p1)] [] q t kc ks (M_saySummaries t p1) (some tz) from ?_) hw h
  refine jj_ic hG rfl cc_i4 ?_
  refine jjs hG rfl rfl ?_
  refine jjs hG rfl rfl ?_
  refine jjc hG rfl rfl (Nat.le_of_ble_eq_true rfl) ?_
  refine jj_lp (fun n => ?_)
  exact jj_wl hG [1, 2, 0] rfl (b4 n _ _ _ _ _)
noncomputable def M_sayRedistributed_b119 (t : moS) : Option moS := Option.bind (M_say t (10 : Int32)) (fun s1 => ((some s1)))
noncomputable def M_sayRedistributed_b92 (t : moS) (p2 : Int32) : Option moS := Option.bind (rdI t 69 p2) (fun x1 => (if x1 = ((-1) : Int32) then ((M_sayRedistributed_b119 t)) else (Option.bind (M_word t (32047 : Int64)) (fun s2 => (Option.bind (rdI s2 69 p2) (fun x3 => (Option.bind (M_wordNumber s2 x3) (fun s4 => ((M_sayRedistributed_b119 s4))))))))))
noncomputable def M_sayRedistributed_b89 (t : moS) (p2 : Int32) (u1 : Int64) : Option moS := Option.bind (M_word t u1) (fun s1 => ((M_sayRedistributed_b92 s1 p2)))
noncomputable def M_sayRedistributed_b45 (t : moS) (p2 : Int32) (u1 : Int64) : Option moS := Option.bind (M_word t u1) (fun s1 => (Option.bind (rdI s1 68 p2) (fun x2 => (if 0 < x2 then (Option.bind (rdI s1 68 p2) (fun x4 => (Option.bind (M_wordNumber s1 x4) (fun s5 => ((M_sayRedistributed_b92 s5 p2)))))) else (Option.bind (rdI s1 68 p2) (fun x3 => (if x3 = 0 then ((M_sayRedistributed_b89 s1 p2 (24246 : Int64))) else ((M_sayRedistributed_b89 s1 p2 (24934 : Int64))))))))))
noncomputable def M_sayRedistributed_b21 (t : moS) (p1 : Int32) (p2 : Int32) : Option moS := Option.bind (M_begin t (7603286755146402405 : Int64) p1) (fun s1 => (if (rem_I p2 (2 : Int32)) = 0 then ((M_sayRedistributed_b45 s1 p2 (22177190624204 : Int64))) else ((M_sayRedistributed_b45 s1 p2 (1996896363 : Int64)))))
noncomputable def M_sayRedistributed (t : moS) (p1 : Int32) (p2 : Int32) : Option moS := Option.bind (rdI t 68 p2) (fun x1 => (if x1 = ((-1) : Int32) then (Option.bind (rdI t 69 p2) (fun x2 => (if x2 = ((-1) : Int32) then ((some t)) else ((M_sayRedistributed_b21 t p1 p2))))) else ((M_sayRedistributed_b21 t p1 p2))))
set_option maxRecDepth 100000 in
set_option maxHeartbeats 4000000 in
theorem k_sayRedistributed (base : Nat) (sa : Nat → Nat) {C : Nat × Nat} {R : pmM} {m : Nat} {q : Nat → Nat} {t tz : moS} {kc ks : Nat} {Rt : pmR} {p1 : Int32} {p2 : Int32} (hw : mW C R base m q t kc ks) (h : M_sayRedistributed t p1 p2 = (some tz)) (k : ∀ (q' : Nat → Nat) (kc' ks' : Nat), mW C R base m q' tz kc' ks' → Rt none (moM R m q' tz) kc' ks') : kP_Mo_sayRedistributed base sa [.ref m, .int p1, .int p2] (moM R m q t) kc ks Rt := by
  refine ⟨Nat.le_of_ble_eq_true rfl, fun G hG => ?_⟩
  have b119 : ∀ (q : Nat → Nat) (t : moS) (kc ks : Nat), JJ C R base m G 119 [(0, .ref m)] [] q t kc ks (M_sayRedistributed_b119 t) (some tz) := by
    intro q t kc ks
    refine jjs hG rfl rfl ?_
    refine jj_bi hG rfl cc_b10 ?_
    refine jj_cvA hG 0 rfl rfl (Nat.le_of_ble_eq_true rfl) (by decide) (Nat.le_of_ble_eq_true rfl) rfl (st' := []) rfl (fun _ _ hw h k => pm_rcv_of moM_m (k_say base sa hw h k)) (fun s1 q kc ks => ?_)
    exact jj_rvS hG rfl rfl (k _ _ _)
  have b92 : ∀ (q : Nat → Nat) (t : moS) (kc ks : Nat), JJ C R base m G 92 [(0, .ref m), (2, .int p2)] [] q t kc ks (M_sayRedistributed_b92 t p2) (some tz) := by
    intro q t kc ks
    refine jjs hG rfl rfl ?_
    refine jj_gr hG (k := 69) rfl rfl rfl rfl ?_
    refine jjs hG rfl rfl ?_
    refine jj_ia hG (k := 69) rfl rfl rfl (fun x1 => ?_)
    refine jj_ic hG rfl cc_im1 ?_
    refine jj_ieq hG (t := 119) rfl rfl ?_ ?_
    · exact jj_wl hG [0] rfl (b119 _ _ _ _)
    refine jjs hG rfl rfl ?_
    refine jj_l2 hG (v := (32047 : Int64)) rfl rfl ?_
    refine jj_cvA hG 0 rfl rfl (Nat.le_of_ble_eq_true rfl) (by decide) (Nat.le_of_ble_eq_true rfl) rfl (st' := []) rfl (fun _ _ hw h k => pm_rcv_of moM_m (k_word base sa hw h k)) (fun s2 q kc ks => ?_)
    refine jjs hG rfl rfl ?_
    refine jjs hG rfl rfl ?_
    refine jj_gr hG (k := 69) rfl rfl rfl rfl ?_
    refine jjs hG rfl rfl ?_
    refine jj_ia hG (k := 69) rfl rfl rfl (fun x3 => ?_)
    refine jj_cvA hG 0 rfl rfl (Nat.le_of_ble_eq_true rfl) (by decide) (Nat.le_of_ble_eq_true rfl) rfl (st' := []) rfl (fun _ _ hw h k => pm_rcv_of moM_m (k_wordNumber base sa hw h k)) (fun s4 q kc ks => ?_)
    exact jj_wl hG [0] rfl (b119 _ _ _ _)
  have b89 : ∀ (u1 : Int64) (q : Nat → Nat) (t : moS) (kc ks : Nat), JJ C R base m G 89 [(0, .ref m), (2, .int p2)] [.long u1, .ref m] q t kc ks (M_sayRedistributed_b89 t p2 u1) (some tz) := by
    intro u1 q t kc ks
    refine jj_cvA hG 0 rfl rfl (Nat.le_of_ble_eq_true rfl) (by decide) (Nat.le_of_ble_eq_true rfl) rfl (st' := []) rfl (fun _ _ hw h k => pm_rcv_of moM_m (k_word base sa hw h k)) (fun s1 q kc ks => ?_)
    exact jj_wl hG [0, 1] rfl (b92 _ _ _ _)
  have b45 : ∀ (u1 : Int64) (q : Nat → Nat) (t : moS) (kc ks : Nat), JJ C R base m G 45 [(0, .ref m), (2, .int p2)] [.long u1, .ref m] q t kc ks (M_sayRedistributed_b45 t p2 u1) (some tz) := by
    intro u1 q t kc ks
    refine jj_cvA hG 0 rfl rfl (Nat.le_of_ble_eq_true rfl) (by decide) (Nat.le_of_ble_eq_true rfl) rfl (st' := []) rfl (fun _ _ hw h k => pm_rcv_of moM_m (k_word base sa hw h k)) (fun s1 q kc ks => ?_)
    refine jjs hG rfl rfl ?_
    refine jj_gr hG (k := 68) rfl rfl rfl rfl ?_
    refine jjs hG rfl rfl ?_
    refine jj_ia hG (k := 68) rfl rfl rfl (fun x2 => ?_)
    refine jj_zle hG (t := 70) rfl rfl ?_ ?_
    · refine jjs hG rfl rfl ?_
      refine jjs hG rfl rfl ?_
      refine jj_gr hG (k := 68) rfl rfl rfl rfl ?_
      refine jjs hG rfl rfl ?_
      refine jj_ia hG (k := 68) rfl rfl rfl (fun x3 => ?_)
      refine jj_zne hG (t := 86) rfl rfl ?_ ?_
      · refine jj_l2 hG (v := (24934 : Int64)) rfl rfl ?_
        exact jj_wl hG [0, 1] rfl (b89 _ _ _ _ _)
      refine jj_l2 hG (v := (24246 : Int64)) rfl rfl ?_
      refine jj_go hG (t := 89) rfl rfl ?_
      exact jj_wl hG [0, 1] rfl (b89 _ _ _ _ _)
    refine jjs hG rfl rfl ?_
    refine jjs hG rfl rfl ?_
    refine jj_gr hG (k := 68) rfl rfl rfl rfl ?_
    refine jjs hG rfl rfl ?_
    refine jj_ia hG (k := 68) rfl rfl rfl (fun x4 => ?_)
    refine jj_cvA hG 0 rfl rfl (Nat.le_of_ble_eq_true rfl) (by decide) (Nat.le_of_ble_eq_true rfl) rfl (st' := []) rfl (fun _ _ hw h k => pm_rcv_of moM_m (k_wordNumber base sa hw h k)) (fun s5 q kc ks => ?_)
    refine jj_go hG (t := 92) rfl rfl ?_
    exact jj_wl hG [0, 1] rfl (b92 _ _ _ _)
  have b21 : ∀ (q : Nat → Nat) (t : moS) (kc ks : Nat), JJ C R base m G 21 [(0, .ref m), (1, .int p1), (2, .int p2)] [] q t kc ks (M_sayRedistributed_b21 t p1 p2) (some tz) := by
    intro q t kc ks
    refine jjs hG rfl rfl ?_
    refine jj_l2 hG (v := (7603286755146402405 : Int64)) rfl rfl ?_
    refine jjs hG rfl rfl ?_
    refine jj_cvA hG 0 rfl rfl (Nat.le_of_ble_eq_true rfl) (by decide) (Nat.le_of_ble_eq_true rfl) rfl (st' := []) rfl (fun _ _ hw h k => pm_rcv_of moM_m (k_begin base sa hw h k)) (fun s1 q kc ks => ?_)
    refine jjs hG rfl rfl ?_
    refine jjs hG rfl rfl ?_
    refine jj_ic hG rfl cc_i2 ?_
    refine jjc hG rfl rfl (by decide) ?_
    refine jj_zne hG (t := 42) rfl rfl ?_ ?_
    · refine jj_l2 hG (v := (1996896363 : Int64)) rfl rfl ?_
      exact jj_wl hG [0, 2] rfl (b45 _ _ _ _ _)
    refine jj_l2 hG (v := (22177190624204 : Int64)) rfl rfl ?_
    refine jj_go hG (t := 45) rfl rfl ?_
    exact jj_wl hG [0, 2] rfl (b45 _ _ _ _ _)
  refine (show JJ C R base m G 0 [(0, .ref m), (1, .int p1), (2, .int p2)] [] q t kc ks (M_sayRedistributed t p1 p2) (some tz) from ?_) hw h
  refine jjs hG rfl rfl ?_
  refine jj_gr hG (k := 68) rfl rfl rfl rfl ?_
  refine jjs hG rfl rfl ?_
  refine jj_ia hG (k := 68) rfl rfl rfl (fun x1 => ?_)
  refine jj_ic hG rfl cc_im1 ?_
  refine jj_ine hG (t := 21) rfl rfl ?_ ?_
  · exact jj_wl hG [0, 1, 2] rfl (b21 _ _ _ _)
  refine jjs hG rfl rfl ?_
  refine jj_gr hG (k := 69) rfl rfl rfl rfl ?_
  refine jjs hG rfl rfl ?_
  refine jj_ia hG (k := 69) rfl rfl rfl (fun x2 => ?_)
  refine jj_ic hG rfl cc_im1 ?_
  refine jj_ine hG (t := 21) rfl rfl ?_ ?_
  · exact jj_wl hG [0, 1, 2] rfl (b21 _ _ _ _)
  exact jj_rvS hG rfl rfl (k _ _ _)
