/-! The model as functions, by program: answer .. takeOff -/
noncomputable def M_answer_b193 (t : moS) (p1 : Int32) (p2 : Int32) (p3 : Int64) (p5 : Int64) (a7 : Int32) (a8 : Int32) : Option ((Int32 × moS) ⊕ moS) := (some (.inl ((a8 + (1 : Int32)), t)))
noncomputable def M_answer_b151 (t : moS) (p1 : Int32) (p2 : Int32) (p3 : Int64) (p5 : Int64) (a7 : Int32) (a8 : Int32) (u0 : Int32) : Option ((Int32 × moS) ⊕ moS) := if p2 = 0 then (Option.bind (M_put4 t 146 (((20 : Int32) * a8) + (16 : Int32)) u0) (fun s2 => ((M_answer_b193 s2 p1 p2 p3 p5 a7 a8)))) else (Option.bind (wrI t 146 (((20 : Int32) * a8) + (19 : Int32)) u0) (fun s1 => ((M_answer_b193 s1 p1 p2 p3 p5 a7 a8))))
noncomputable def M_answer_b133 (t : moS) (p1 : Int32) (p2 : Int32) (p3 : Int64) (p5 : Int64) (a7 : Int32) (a8 : Int32) (a9 : Int32) : Option ((Int32 × moS) ⊕ moS) := if a9 = ((-1) : Int32) then ((M_answer_b151 t p1 p2 p3 p5 a7 a8 (16 : Int32))) else (Option.bind (rdI t 111 a9) (fun x1 => ((M_answer_b151 t p1 p2 p3 p5 a7 a8 x1))))
noncomputable def M_answer_s83 (t : moS) (p1 : Int32) (p2 : Int32) (p3 : Int64) (p5 : Int64) (a7 : Int32) (a8 : Int32) : Option ((Int32 × moS) ⊕ moS) := if a8 < a7 then (bn2 (M_isEntry t p2 ((moS.S t 162) + ((20 : Int32) * a8))) (fun x3 s2 => (if x3 = 0 then ((M_answer_b133 s2 p1 p2 p3 p5 a7 a8 ((-1) : Int32))) else (Option.bind (M_find s2 (p1 / (4 : Int32)) p2 (moS.Z s2 13) (moS.Z s2 14) (moS.S s2 15)) (fun x4 => ((M_answer_b133 s2 p1 p2 p3 p5 a7 a8 x4))))))) else ((xo (Option.bind (M_send t p1 p2 (2 : Int32) a7 (0 : Int32) p3 p5) (fun s1 => ((some s1))))))
noncomputable def M_answer_b83 (t : moS) (p1 : Int32) (p2 : Int32) (p3 : Int64) (p5 : Int64) (a7 : Int32) (a8 : Int32) : Option moS := lp (fun x => M_answer_s83 x.2 p1 p2 p3 p5 a7 x.1) (a8, t)
noncomputable def M_answer_s45 (t : moS) (p1 : Int32) (p2 : Int32) (p3 : Int64) (p5 : Int64) (a7 : Int32) (a8 : Int32) : Option ((Int32 × moS) ⊕ moS) := if a8 < ((20 : Int32) * a7) then (Option.bind (rdI t 149 ((moS.S t 162) + a8)) (fun x1 => (Option.bind (wrI t 146 a8 x1) (fun s2 => ((some (.inl ((a8 + (1 : Int32)), s2)))))))) else ((xo ((M_answer_b83 t p1 p2 p3 p5 a7 (0 : Int32)))))
noncomputable def M_answer_b45 (t : moS) (p1 : Int32) (p2 : Int32) (p3 : Int64) (p5 : Int64) (a7 : Int32) (a8 : Int32) : Option moS := lp (fun x => M_answer_s45 x.2 p1 p2 p3 p5 a7 x.1) (a8, t)
noncomputable def M_answer (t : moS) (p1 : Int32) (p2 : Int32) (p3 : Int64) (p5 : Int64) : Option moS := Option.bind (M_tally t (p1 / (4 : Int32)) (8 : Int32) (1 : Int32)) (fun s1 => (Option.bind (M_asksForAll s1 p2) (fun x2 => (if x2 = 0 then ((M_answer_b45 s1 p1 p2 p3 p5 (moS.S s1 163) (0 : Int32))) else (Option.bind (M_gather s1 p1 p2 (0 : Int32)) (fun s3 => (Option.bind (M_tellTo s3 p1 p2 (0 : Int32) p3 p5) (fun s4 => ((some s4))))))))))
set_option maxRecDepth 100000 in
set_option maxHeartbeats 4000000 in
theorem k_answer (base : Nat) (sa : Nat → Nat) {C : Nat × Nat} {R : pmM} {m : Nat} {q : Nat → Nat} {t tz : moS} {kc ks : Nat} {Rt : pmR} {p1 : Int32} {p2 : Int32} {p3 : Int64} {p5 : Int64} (hw : mW C R base m q t kc ks) (h : M_answer t p1 p2 p3 p5 = (some tz)) (k : mW C R base m q tz kc ks → Rt none (moM R m q tz) kc ks) : kP_Mo_answer base sa [.ref m, .int p1, .int p2, .long p3, .long p5] (moM R m q t) kc ks Rt := by
  refine ⟨Nat.le_of_ble_eq_true rfl, fun G hG => ?_⟩
  have b83 : ∀ (a7 : Int32) (n : Nat) (a8 : Int32) (t : moS), JJ C R base m G 83 [(0, .ref m), (1, .int p1), (2, .int p2), (3, .long p3), (5, .long p5), (7, .int a7), (8, .int a8)] [] q t kc ks (lpN (fun x => M_answer_s83 x.2 p1 p2 p3 p5 a7 x.1) n (a8, t)) (some tz) := by
    intro a7 n
    induction n with
    | zero => intro a8 t; exact jj_lp0
    | succ n ih83 =>
      intro a8 t
      refine jj_lpS (fun y83 c83 => ?_)
      have b193 : ∀ (a8 : Int32) (t : moS), JJ C R base m G 193 [(0, .ref m), (1, .int p1), (2, .int p2), (3, .long p3), (5, .long p5), (7, .int a7), (8, .int a8)] [] q t kc ks (M_answer_b193 t p1 p2 p3 p5 a7 a8) (some y83) := by
        intro a8 t
        refine jj_inc hG rfl (Nat.le_of_ble_eq_true rfl) rfl cc_i1 ?_
        refine jj_go hG (t := 83) rfl rfl ?_
        exact jj_back c83 (jj_wl hG [1, 2, 3, 4, 5, 6, 0] rfl (ih83 _ _))
      have b151 : ∀ (a8 : Int32) (u0 : Int32) (t : moS), JJ C R base m G 151 [(0, .ref m), (1, .int p1), (2, .int p2), (3, .long p3), (5, .long p5), (7, .int a7), (8, .int a8)] [.int u0] q t kc ks (M_answer_b151 t p1 p2 p3 p5 a7 a8 u0) (some y83) := by
        intro a8 u0 t
        refine jjc hG rfl rfl (Nat.le_of_ble_eq_true rfl) ?_
        refine jjs hG rfl rfl ?_
        refine jj_zne hG (t := 178) rfl rfl ?_ ?_
        · refine jjs hG rfl rfl ?_
          refine jj_gr hG (k := 146) rfl rfl rfl rfl ?_
          refine jj_bi hG rfl cc_b20 ?_
          refine jjs hG rfl rfl ?_
          refine jjs hG rfl rfl ?_
          refine jj_bi hG rfl cc_b19 ?_
          refine jjs hG rfl rfl ?_
          refine jjs hG rfl rfl ?_
          refine jj_is hG (k := 146) rfl rfl rfl (fun s1 => ?_)
          exact jj_wl hG [1, 2, 3, 4, 5, 6, 7] rfl (b193 _ _)
        refine jjs hG rfl rfl ?_
        refine jjs hG rfl rfl ?_
        refine jj_gr hG (k := 146) rfl rfl rfl rfl ?_
        refine jj_bi hG rfl cc_b20 ?_
        refine jjs hG rfl rfl ?_
        refine jjs hG rfl rfl ?_
        refine jj_bi hG rfl cc_b16 ?_
        refine jjs hG rfl rfl ?_
        refine jjs hG rfl rfl ?_
        refine jj_cv hG 0 rfl rfl (Nat.le_of_ble_eq_true rfl) (by decide) (Nat.le_of_ble_eq_true rfl) rfl (st' := []) rfl (fun _ _ hw h k => pm_rcv_of moM_m (k_put4 base sa rfl rfl hw h k)) (fun s2 => ?_)
        refine jj_go hG (t := 193) rfl rfl ?_
        exact jj_wl hG [1, 2, 3, 4, 5, 6, 7] rfl (b193 _ _)
      have b133 : ∀ (a8 : Int32) (a9 : Int32) (t : moS), JJ C R base m G 133 [(0, .ref m), (1, .int p1), (2, .int p2), (3, .long p3), (5, .long p5), (7, .int a7), (8, .int a8), (9, .int a9)] [] q t kc ks (M_answer_b133 t p1 p2 p3 p5 a7 a8 a9) (some y83) := by
        intro a8 a9 t
        refine jjs hG rfl rfl ?_
        refine jj_ic hG rfl cc_im1 ?_
        refine jj_ine hG (t := 144) rfl rfl ?_ ?_
        · refine jjs hG rfl rfl ?_
          refine jj_gr hG (k := 111) rfl rfl rfl rfl ?_
          refine jjs hG rfl rfl ?_
          refine jj_ia hG (k := 111) rfl rfl rfl (fun x1 => ?_)
          exact jj_wl hG [0, 1, 2, 3, 4, 5, 6] rfl (b151 _ _ _)
        refine jj_bi hG rfl cc_b16 ?_
        refine jj_go hG (t := 151) rfl rfl ?_
        exact jj_wl hG [0, 1, 2, 3, 4, 5, 6] rfl (b151 _ _ _)
      refine (show JJ C R base m G 83 [(0, .ref m), (1, .int p1), (2, .int p2), (3, .long p3), (5, .long p5), (7, .int a7), (8, .int a8)] [] q t kc ks (M_answer_s83 t p1 p2 p3 p5 a7 a8) (some y83) from ?_)
      refine jjs hG rfl rfl ?_
      refine jjs hG rfl rfl ?_
      refine jj_ige hG (t := 199) rfl rfl ?_ ?_
      · refine jj_exit c83 ?_
        refine jjs hG rfl rfl ?_
        refine jjs hG rfl rfl ?_
        refine jjs hG rfl rfl ?_
        refine jj_ic hG rfl cc_i2 ?_
        refine jjs hG rfl rfl ?_
        refine jj_ic hG rfl cc_i0 ?_
        refine jjs hG rfl rfl ?_
        refine jjs hG rfl rfl ?_
        refine jj_cv hG 0 rfl rfl (Nat.le_of_ble_eq_true rfl) (by decide) (Nat.le_of_ble_eq_true rfl) rfl (st' := []) rfl (fun _ _ hw h k => pm_rcv_of moM_m (k_send base sa hw h k)) (fun s1 => ?_)
        exact jj_rvS hG rfl rfl (k)
      refine jj_ic hG rfl cc_im1 ?_
      refine jjc hG rfl rfl (Nat.le_of_ble_eq_true rfl) ?_
      refine jjs hG rfl rfl ?_
      refine jjs hG rfl rfl ?_
      refine jjs hG rfl rfl ?_
      refine jj_gi hG (k := 162) rfl rfl rfl rfl ?_
      refine jj_bi hG rfl cc_b20 ?_
      refine jjs hG rfl rfl ?_
      refine jjs hG rfl rfl ?_
      refine jjs hG rfl rfl ?_
      refine jj_cs hG 0 rfl rfl (Nat.le_of_ble_eq_true rfl) (by decide) (Nat.le_of_ble_eq_true rfl) rfl (st' := []) rfl (w := .int) (fun _ _ _ hw h k => pm_rcv_of moM_m (k_isEntry base sa hw h k)) (fun x3 s2 => ?_)
      refine jj_zeq hG (t := 133) rfl rfl ?_ ?_
      · exact jj_wl hG [1, 2, 3, 4, 5, 6, 7, 0] rfl (b133 _ _ _)
      refine jjs hG rfl rfl ?_
      refine jjs hG rfl rfl ?_
      refine jj_ic hG rfl cc_i4 ?_
      refine jjc hG rfl rfl (by decide) ?_
      refine jjs hG rfl rfl ?_
      refine jjs hG rfl rfl ?_
      refine jj_gz hG (k := 13) rfl rfl rfl rfl ?_
      refine jjs hG rfl rfl ?_
      refine jj_gz hG (k := 14) rfl rfl rfl rfl ?_
      refine jjs hG rfl rfl ?_
      refine jj_gi hG (k := 15) rfl rfl rfl rfl ?_
      refine jj_cp hG 0 rfl rfl (Nat.le_of_ble_eq_true rfl) (by decide) (Nat.le_of_ble_eq_true rfl) rfl (st' := []) rfl (w := .int) (fun _ _ hw h k => pm_rcv_of moM_m (k_find base sa hw h k)) (fun x4 => ?_)
      refine jjc hG rfl rfl (Nat.le_of_ble_eq_true rfl) ?_
      exact jj_wl hG [1, 2, 3, 4, 5, 6, 7, 0] rfl (b133 _ _ _)
  have b45 : ∀ (a7 : Int32) (n : Nat) (a8 : Int32) (t : moS), JJ C R base m G 45 [(0, .ref m), (1, .int p1), (2, .int p2), (3, .long p3), (5, .long p5), (7, .int a7), (8, .int a8)] [] q t kc ks (lpN (fun x => M_answer_s45 x.2 p1 p2 p3 p5 a7 x.1) n (a8, t)) (some tz) := by
    intro a7 n
    induction n with
    | zero => intro a8 t; exact jj_lp0
    | succ n ih45 =>
      intro a8 t
      refine jj_lpS (fun y45 c45 => ?_)
      refine (show JJ C R base m G 45 [(0, .ref m), (1, .int p1), (2, .int p2), (3, .long p3), (5, .long p5), (7, .int a7), (8, .int a8)] [] q t kc ks (M_answer_s45 t p1 p2 p3 p5 a7 a8) (some y45) from ?_)
      refine jjs hG rfl rfl ?_
      refine jj_bi hG rfl cc_b20 ?_
      refine jjs hG rfl rfl ?_
      refine jjs hG rfl rfl ?_
      refine jj_ige hG (t := 80) rfl rfl ?_ ?_
      · refine jj_exit c45 ?_
        refine jj_ic hG rfl cc_i0 ?_
        refine jjc hG rfl rfl (Nat.le_of_ble_eq_true rfl) ?_
        refine jj_lp (fun n => ?_)
        exact jj_wl hG [1, 2, 3, 4, 5, 6, 0] rfl (b83 _ n _ _)
      refine jjs hG rfl rfl ?_
      refine jj_gr hG (k := 146) rfl rfl rfl rfl ?_
      refine jjs hG rfl rfl ?_
      refine jjs hG rfl rfl ?_
      refine jj_gr hG (k := 149) rfl rfl rfl rfl ?_
      refine jjs hG rfl rfl ?_
      refine jj_gi hG (k := 162) rfl rfl rfl rfl ?_
      refine jjs hG rfl rfl ?_
      refine jjs hG rfl rfl ?_
      refine jj_ia hG (k := 149) rfl rfl rfl (fun x1 => ?_)
      refine jj_is hG (k := 146) rfl rfl rfl (fun s2 => ?_)
      refine jj_inc hG rfl (Nat.le_of_ble_eq_true rfl) rfl cc_i1 ?_
      refine jj_go hG (t := 45) rfl rfl ?_
      exact jj_back c45 (jj_wl hG [1, 2, 3, 4, 5, 6, 0] rfl (ih45 _ _))
  refine (show JJ C R base m G 0 [(0, .ref m), (1, .int p1), (2, .int p2), (3, .long p3), (5, .long p5)] [] q t kc ks (M_answer t p1 p2 p3 p5) (some tz) from ?_) hw h
  refine jjs hG rfl rfl ?_
  refine jjs hG rfl rfl ?_
  refine jj_ic hG rfl cc_i4 ?_
  refine jjc hG rfl rfl (by decide) ?_
  refine jj_bi hG rfl cc_b8 ?_
  refine jj_ic hG rfl cc_i1 ?_
  refine jj_cv hG 0 rfl rfl (Nat.le_of_ble_eq_true rfl) (by decide) (Nat.le_of_ble_eq_true rfl) rfl (st' := []) rfl (fun _ _ hw h k => pm_rcv_of moM_m (k_tally base sa hw h k)) (fun s1 => ?_)
  refine jjs hG rfl rfl ?_
  refine jjs hG rfl rfl ?_
  refine jj_cp hG 0 rfl rfl (Nat.le_of_ble_eq_true rfl) (by decide) (Nat.le_of_ble_eq_true rfl) rfl (st' := []) rfl (w := .int) (fun _ _ hw h k => pm_rcv_of moM_m (k_asksForAll base sa hw h k)) (fun x2 => ?_)
  refine jj_zeq hG (t := 36) rfl rfl ?_ ?_
  · refine jjs hG rfl rfl ?_
    refine jj_gi hG (k := 163) rfl rfl rfl rfl ?_
    refine jjc hG rfl rfl (Nat.le_of_ble_eq_true rfl) ?_
    refine jj_ic hG rfl cc_i0 ?_
    refine jjc hG rfl rfl (Nat.le_of_ble_eq_true rfl) ?_
    refine jj_lp (fun n => ?_)
    exact jj_wl hG [2, 3, 4, 5, 6, 1, 0] rfl (b45 _ n _ _)
  refine jjs hG rfl rfl ?_
  refine jjs hG rfl rfl ?_
  refine jjs hG rfl rfl ?_
  refine jj_ic hG rfl cc_i0 ?_
  refine jj_cv hG 0 rfl rfl (Nat.le_of_ble_eq_true rfl) (by decide) (Nat.le_of_ble_eq_true rfl) rfl (st' := []) rfl (fun _ _ hw h k => pm_rcv_of moM_m (k_gather base sa hw h k)) (fun s3 => ?_)
  refine jjs hG rfl rfl ?_
  refine jjs hG rfl rfl ?_
  refine jjs hG rfl rfl ?_
  refine jj_ic hG rfl cc_i0 ?_
  refine jjs hG rfl rfl ?_
  refine jjs hG rfl rfl ?_
  refine jj_cv hG 0 rfl rfl (Nat.le_of_ble_eq_true rfl) (by decide) (Nat.le_of_ble_eq_true rfl) rfl (st' := []) rfl (fun _ _ hw h k => pm_rcv_of moM_m (k_tellTo base sa hw h k)) (fun s4 => ?_)
  exact jj_rvS hG rfl rfl (k)
noncomputable def M_receive_b87 (t : moS) (a9 : Int32) : Option moS := Option.bind (M_tally t a9 (1 : Int32) (1 : Int32)) (fun s1 => ((some s1)))
noncomputable def M_receive_b346 (t : moS) (p1 : Int32) (p2 : Int32) (p3 : Int64) (p5 : Int64) (a14 : Int32) : Option moS := if a14 = 0 then (if 0 < (moS.S t 163) then (Option.bind (M_answer t p1 p2 p3 p5) (fun s1 => ((some s1)))) else ((some t))) else (Option.bind (M_takeAll t p1 p2 p3 p5) (fun s2 => ((some s2))))
noncomputable def M_receive_b313 (t : moS) (p1 : Int32) (p2 : Int32) (p3 : Int64) (p5 : Int64) (a9 : Int32) (a12 : Int32) (a14 : Int32) : Option moS := letS (moSS t 162 (4 : Int32)) (fun s1 => (letS (moSS s1 163 a12) (fun s2 => (if p2 = 0 then (bn2 (M_keysAreGood s2 p1 p3) (fun x4 s3 => (if x4 = 0 then (Option.bind (M_tally s3 a9 (3 : Int32) (1 : Int32)) (fun s5 => ((some s5)))) else ((M_receive_b346 s3 p1 p2 p3 p5 a14))))) else ((M_receive_b346 s2 p1 p2 p3 p5 a14))))))
noncomputable def M_receive_b285 (t : moS) (p1 : Int32) (p2 : Int32) (p3 : Int64) (p5 : Int64) (p8 : Int32) (a9 : Int32) (a12 : Int32) (a14 : Int32) : Option moS := if a14 = 0 then ((M_receive_b313 t p1 p2 p3 p5 a9 a12 a14)) else (if p2 = (1 : Int32) then (if p8 = (255 : Int32) then ((M_receive_b313 t p1 p2 p3 p5 a9 a12 a14)) else (Option.bind (M_tally t a9 (10 : Int32) (1 : Int32)) (fun s1 => ((some s1))))) else ((M_receive_b313 t p1 p2 p3 p5 a9 a12 a14)))
noncomputable def M_receive_b272 (t : moS) (p1 : Int32) (p2 : Int32) (p3 : Int64) (p5 : Int64) (p8 : Int32) (a9 : Int32) (a12 : Int32) (a14 : Int32) (u0 : Int32) (u1 : Int32) : Option moS := if u0 = u1 then ((M_receive_b285 t p1 p2 p3 p5 p8 a9 a12 a14)) else (Option.bind (M_tally t a9 (9 : Int32) (1 : Int32)) (fun s1 => ((some s1))))
noncomputable def M_receive_b250 (t : moS) (p1 : Int32) (p2 : Int32) (p3 : Int64) (p5 : Int64) (p7 : Int32) (p8 : Int32) (a9 : Int32) (a12 : Int32) (u0 : Int32) : Option moS := if u0 = 0 then ((M_receive_b285 t p1 p2 p3 p5 p8 a9 a12 u0)) else (if p2 = 0 then ((M_receive_b272 t p1 p2 p3 p5 p8 a9 a12 u0 p7 (520 : Int32))) else ((M_receive_b272 t p1 p2 p3 p5 p8 a9 a12 u0 p7 (521 : Int32))))
noncomputable def M_receive_b219 (t : moS) (p1 : Int32) (p2 : Int32) (p3 : Int64) (p5 : Int64) (p7 : Int32) (p8 : Int32) (a9 : Int32) (a12 : Int32) (u0 : Int32) : Option moS := if u0 = 0 then (Option.bind (M_tally t a9 (2 : Int32) (1 : Int32)) (fun s2 => ((some s2)))) else (Option.bind (rdI t 149 (0 : Int32)) (fun x1 => (if x1 = (2 : Int32) then ((M_receive_b250 t p1 p2 p3 p5 p7 p8 a9 a12 (1 : Int32))) else ((M_receive_b250 t p1 p2 p3 p5 p7 p8 a9 a12 (0 : Int32))))))
noncomputable def M_receive_b218 (t : moS) (p1 : Int32) (p2 : Int32) (p3 : Int64) (p5 : Int64) (p7 : Int32) (p8 : Int32) (a9 : Int32) (a12 : Int32) : Option moS := (M_receive_b219 t p1 p2 p3 p5 p7 p8 a9 a12 (0 : Int32))
noncomputable def M_receive_b193 (t : moS) (p1 : Int32) (p2 : Int32) (p3 : Int64) (p5 : Int64) (p7 : Int32) (p8 : Int32) (a9 : Int32) (a12 : Int32) (u0 : Int32) (u1 : Int32) : Option moS := if u0 = u1 then (Option.bind (rdI t 149 (2 : Int32)) (fun x1 => (if x1 = 0 then (Option.bind (rdI t 149 (3 : Int32)) (fun x2 => (if x2 = 0 then ((M_receive_b219 t p1 p2 p3 p5 p7 p8 a9 a12 (1 : Int32))) else ((M_receive_b218 t p1 p2 p3 p5 p7 p8 a9 a12))))) else ((M_receive_b218 t p1 p2 p3 p5 p7 p8 a9 a12))))) else ((M_receive_b218 t p1 p2 p3 p5 p7 p8 a9 a12))
noncomputable def M_receive_b178 (t : moS) (p1 : Int32) (p2 : Int32) (p3 : Int64) (p5 : Int64) (p7 : Int32) (p8 : Int32) (a9 : Int32) (a12 : Int32) : Option moS := Option.bind (rdI t 149 (1 : Int32)) (fun x1 => (if p2 = 0 then ((M_receive_b193 t p1 p2 p3 p5 p7 p8 a9 a12 x1 (2 : Int32))) else ((M_receive_b193 t p1 p2 p3 p5 p7 p8 a9 a12 x1 (1 : Int32)))))
noncomputable def M_receive_b151 (t : moS) (p1 : Int32) (p2 : Int32) (p3 : Int64) (p5 : Int64) (p7 : Int32) (p8 : Int32) (a9 : Int32) (a12 : Int32) (u0 : Int32) : Option moS := if u0 = 0 then ((M_receive_b218 t p1 p2 p3 p5 p7 p8 a9 a12)) else (Option.bind (rdI t 149 (0 : Int32)) (fun x1 => (if x1 = (1 : Int32) then ((M_receive_b178 t p1 p2 p3 p5 p7 p8 a9 a12)) else (Option.bind (rdI t 149 (0 : Int32)) (fun x2 => (if x2 = (2 : Int32) then ((M_receive_b178 t p1 p2 p3 p5 p7 p8 a9 a12)) else ((M_receive_b218 t p1 p2 p3 p5 p7 p8 a9 a12))))))))
noncomputable def M_receive_b150 (t : moS) (p1 : Int32) (p2 : Int32) (p3 : Int64) (p5 : Int64) (p7 : Int32) (p8 : Int32) (a9 : Int32) (a12 : Int32) : Option moS := (M_receive_b151 t p1 p2 p3 p5 p7 p8 a9 a12 (0 : Int32))
noncomputable def M_receive_b143 (t : moS) (p1 : Int32) (p2 : Int32) (p3 : Int64) (p5 : Int64) (p7 : Int32) (p8 : Int32) (a9 : Int32) (a12 : Int32) (u0 : Int32) (u1 : Int32) : Option moS := if u1 < u0 then ((M_receive_b150 t p1 p2 p3 p5 p7 p8 a9 a12)) else ((M_receive_b151 t p1 p2 p3 p5 p7 p8 a9 a12 (1 : Int32)))
noncomputable def M_receive_b50 (t : moS) (p1 : Int32) (p2 : Int32) (p3 : Int64) (p5 : Int64) (p7 : Int32) (p8 : Int32) (a9 : Int32) (a10 : Int32) (u0 : Int32) : Option moS := if u0 = 0 then (Option.bind (rdJ t 76 a10) (fun x1 => (Option.bind (rdJ t 77 a10) (fun x2 => (Option.bind (rdI t 78 a10) (fun x3 => (if (M_covers x1 x2 x3 p3 p5) = 0 then ((M_receive_b87 t a9)) else (if (moS.S t 150) < (24 : Int32) then ((M_receive_b150 t p1 p2 p3 p5 p7 p8 a9 (((moS.S t 150) - (4 : Int32)) / (20 : Int32)))) else (if (moS.S t 150) = ((4 : Int32) + ((20 : Int32) * (((moS.S t 150) - (4 : Int32)) / (20 : Int32)))) then (if p2 = 0 then ((M_receive_b143 t p1 p2 p3 p5 p7 p8 a9 (((moS.S t 150) - (4 : Int32)) / (20 : Int32)) (((moS.S t 150) - (4 : Int32)) / (20 : Int32)) (28 : Int32))) else ((M_receive_b143 t p1 p2 p3 p5 p7 p8 a9 (((moS.S t 150) - (4 : Int32)) / (20 : Int32)) (((moS.S t 150) - (4 : Int32)) / (20 : Int32)) (25 : Int32)))) else ((M_receive_b150 t p1 p2 p3 p5 p7 p8 a9 (((moS.S t 150) - (4 : Int32)) / (20 : Int32))))))))))))) else ((M_receive_b87 t a9))
noncomputable def M_receive_b49 (t : moS) (p1 : Int32) (p2 : Int32) (p3 : Int64) (p5 : Int64) (p7 : Int32) (p8 : Int32) (a9 : Int32) (a10 : Int32) : Option moS := (M_receive_b50 t p1 p2 p3 p5 p7 p8 a9 a10 (0 : Int32))
noncomputable def M_receive (t : moS) (p1 : Int32) (p2 : Int32) (p3 : Int64) (p5 : Int64) (p7 : Int32) (p8 : Int32) : Option moS := Option.bind (M_tally t (p1 / (4 : Int32)) (0 : Int32) (1 : Int32)) (fun s1 => (Option.bind (rdJ s1 76 (((2 : Int32) * p1) + p2)) (fun x2 => (if p3 = x2 then (Option.bind (rdJ s1 77 (((2 : Int32) * p1) + p2)) (fun x3 => (if p5 = x3 then ((M_receive_b50 s1 p1 p2 p3 p5 p7 p8 (p1 / (4 : Int32)) (((2 : Int32) * p1) + p2) (1 : Int32))) else ((M_receive_b49 s1 p1 p2 p3 p5 p7 p8 (p1 / (4 : Int32)) (((2 : Int32) * p1) + p2)))))) else ((M_receive_b49 s1 p1 p2 p3 p5 p7 p8 (p1 / (4 : Int32)) (((2 : Int32) * p1) + p2)))))))
set_option maxRecDepth 100000 in
set_option maxHeartbeats 4000000 in
theorem k_receive (base : Nat) (sa : Nat → Nat) {C : Nat × Nat} {R : pmM} {m : Nat} {q : Nat → Nat} {t tz : moS} {kc ks : Nat} {Rt : pmR} {p1 : Int32} {p2 : Int32} {p3 : Int64} {p5 : Int64} {p7 : Int32} {p8 : Int32} (hw : mW C R base m q t kc ks) (h : M_receive t p1 p2 p3 p5 p7 p8 = (some tz)) (k : ∀ (q' : Nat → Nat) (kc' ks' : Nat), mW C R base m q' tz kc' ks' → Rt none (moM R m q' tz) kc' ks') : kP_Mo_receive base sa [.ref m, .int p1, .int p2, .long p3, .long p5, .int p7, .int p8] (moM R m q t) kc ks Rt := by
  refine ⟨Nat.le_of_ble_eq_true rfl, fun G hG => ?_⟩
  have b87 : ∀ (a9 : Int32) (q : Nat → Nat) (t : moS) (kc ks : Nat), JJ C R base m G 87 [(0, .ref m), (9, .int a9)] [] q t kc ks (M_receive_b87 t a9) (some tz) := by
    intro a9 q t kc ks
    refine jjs hG rfl rfl ?_
    refine jjs hG rfl rfl ?_
    refine jj_ic hG rfl cc_i1 ?_
    refine jj_ic hG rfl cc_i1 ?_
    refine jj_cv hG 0 rfl rfl (Nat.le_of_ble_eq_true rfl) (by decide) (Nat.le_of_ble_eq_true rfl) rfl (st' := []) rfl (fun _ _ hw h k => pm_rcv_of moM_m (k_tally base sa hw h k)) (fun s1 => ?_)
    exact jj_rvS hG rfl rfl (k _ _ _)
  have b346 : ∀ (a14 : Int32) (q : Nat → Nat) (t : moS) (kc ks : Nat), JJ C R base m G 346 [(0, .ref m), (1, .int p1), (2, .int p2), (3, .long p3), (5, .long p5), (14, .int a14)] [] q t kc ks (M_receive_b346 t p1 p2 p3 p5 a14) (some tz) := by
    intro a14 q t kc ks
    refine jjs hG rfl rfl ?_
    refine jj_zeq hG (t := 363) rfl rfl ?_ ?_
    · refine jjs hG rfl rfl ?_
      refine jj_gi hG (k := 163) rfl rfl rfl rfl ?_
      refine jj_zle hG (t := 379) rfl rfl ?_ ?_
      · exact jj_rvS hG rfl rfl (k _ _ _)
      refine jjs hG rfl rfl ?_
      refine jjs hG rfl rfl ?_
      refine jjs hG rfl rfl ?_
      refine jjs hG rfl rfl ?_
      refine jjs hG rfl rfl ?_
      refine jj_cv hG 0 rfl rfl (Nat.le_of_ble_eq_true rfl) (by decide) (Nat.le_of_ble_eq_true rfl) rfl (st' := []) rfl (fun _ _ hw h k => pm_rcv_of moM_m (k_answer base sa hw h k)) (fun s1 => ?_)
      exact jj_rvS hG rfl rfl (k _ _ _)
    refine jjs hG rfl rfl ?_
    refine jjs hG rfl rfl ?_
    refine jjs hG rfl rfl ?_
    refine jjs hG rfl rfl ?_
    refine jjs hG rfl rfl ?_
    refine jj_cv hG 0 rfl rfl (Nat.le_of_ble_eq_true rfl) (by decide) (Nat.le_of_ble_eq_true rfl) rfl (st' := []) rfl (fun _ _ hw h k => pm_rcv_of moM_m (k_takeAll base sa hw h k)) (fun s2 => ?_)
    refine jj_go hG (t := 379) rfl rfl ?_
    exact jj_rvS hG rfl rfl (k _ _ _)
  have b313 : ∀ (a9 : Int32) (a12 : Int32) (a14 : Int32) (q : Nat → Nat) (t : moS) (kc ks : Nat), JJ C R base m G 313 [(0, .ref m), (1, .int p1), (2, .int p2), (3, .long p3), (5, .long p5), (9, .int a9), (12, .int a12), (14, .int a14)] [] q t kc ks (M_receive_b313 t p1 p2 p3 p5 a9 a12 a14) (some tz) := by
    intro a9 a12 a14 q t kc ks
    refine jjs hG rfl rfl ?_
    refine jj_ic hG rfl cc_i4 ?_
    refine jj_pi hG (k := 162) rfl rfl rfl rfl (fun s1 => ?_)
    refine jjs hG rfl rfl ?_
    refine jjs hG rfl rfl ?_
    refine jj_pi hG (k := 163) rfl rfl rfl rfl (fun s2 => ?_)
    refine jjs hG rfl rfl ?_
    refine jj_zne hG (t := 346) rfl rfl ?_ ?_
    · exact jj_wl hG [0, 1, 2, 3, 4, 7] rfl (b346 _ _ _ _ _)
    refine jjs hG rfl rfl ?_
    refine jjs hG rfl rfl ?_
    refine jjs hG rfl rfl ?_
    refine jj_csA hG 0 rfl rfl (Nat.le_of_ble_eq_true rfl) (by decide) (Nat.le_of_ble_eq_true rfl) rfl (st' := []) rfl (w := .int) (fun _ _ _ hw h k => pm_rcv_of moM_m (k_keysAreGood base sa hw h k)) (fun x4 s3 q kc ks => ?_)
    refine jj_zne hG (t := 346) rfl rfl ?_ ?_
    · exact jj_wl hG [0, 1, 2, 3, 4, 7] rfl (b346 _ _ _ _ _)
    refine jjs hG rfl rfl ?_
    refine jjs hG rfl rfl ?_
    refine jj_ic hG rfl cc_i3 ?_
    refine jj_ic hG rfl cc_i1 ?_
    refine jj_cv hG 0 rfl rfl (Nat.le_of_ble_eq_true rfl) (by decide) (Nat.le_of_ble_eq_true rfl) rfl (st' := []) rfl (fun _ _ hw h k => pm_rcv_of moM_m (k_tally base sa hw h k)) (fun s5 => ?_)
    exact jj_rvS hG rfl rfl (k _ _ _)
  have b285 : ∀ (a9 : Int32) (a12 : Int32) (a14 : Int32) (q : Nat → Nat) (t : moS) (kc ks : Nat), JJ C R base m G 285 [(0, .ref m), (1, .int p1), (2, .int p2), (3, .long p3), (5, .long p5), (8, .int p8), (9, .int a9), (12, .int a12), (14, .int a14)] [] q t kc ks (M_receive_b285 t p1 p2 p3 p5 p8 a9 a12 a14) (some tz) := by
    intro a9 a12 a14 q t kc ks
    refine jjs hG rfl rfl ?_
    refine jj_zeq hG (t := 313) rfl rfl ?_ ?_
    · exact jj_wl hG [0, 1, 2, 3, 4, 6, 7, 8] rfl (b313 _ _ _ _ _ _ _)
    refine jjs hG rfl rfl ?_
    refine jj_ic hG rfl cc_i1 ?_
    refine jj_ine hG (t := 313) rfl rfl ?_ ?_
    · exact jj_wl hG [0, 1, 2, 3, 4, 6, 7, 8] rfl (b313 _ _ _ _ _ _ _)
    refine jjs hG rfl rfl ?_
    refine jj_si hG rfl cc_s255 ?_
    refine jj_ieq hG (t := 313) rfl rfl ?_ ?_
    · exact jj_wl hG [0, 1, 2, 3, 4, 6, 7, 8] rfl (b313 _ _ _ _ _ _ _)
    refine jjs hG rfl rfl ?_
    refine jjs hG rfl rfl ?_
    refine jj_bi hG rfl cc_b10 ?_
    refine jj_ic hG rfl cc_i1 ?_
    refine jj_cv hG 0 rfl rfl (Nat.le_of_ble_eq_true rfl) (by decide) (Nat.le_of_ble_eq_true rfl) rfl (st' := []) rfl (fun _ _ hw h k => pm_rcv_of moM_m (k_tally base sa hw h k)) (fun s1 => ?_)
    exact jj_rvS hG rfl rfl (k _ _ _)
  have b272 : ∀ (a9 : Int32) (a12 : Int32) (a14 : Int32) (u0 : Int32) (u1 : Int32) (q : Nat → Nat) (t : moS) (kc ks : Nat), JJ C R base m G 272 [(0, .ref m), (1, .int p1), (2, .int p2), (3, .long p3), (5, .long p5), (8, .int p8), (9, .int a9), (12, .int a12), (14, .int a14)] [.int u1, .int u0] q t kc ks (M_receive_b272 t p1 p2 p3 p5 p8 a9 a12 a14 u0 u1) (some tz) := by
    intro a9 a12 a14 u0 u1 q t kc ks
    refine jj_ieq hG (t := 285) rfl rfl ?_ ?_
    · exact jj_wl hG [0, 1, 2, 3, 4, 5, 6, 7, 8] rfl (b285 _ _ _ _ _ _ _)
    refine jjs hG rfl rfl ?_
    refine jjs hG rfl rfl ?_
    refine jj_bi hG rfl cc_b9 ?_
    refine jj_ic hG rfl cc_i1 ?_
    refine jj_cv hG 0 rfl rfl (Nat.le_of_ble_eq_true rfl) (by decide) (Nat.le_of_ble_eq_true rfl) rfl (st' := []) rfl (fun _ _ hw h k => pm_rcv_of moM_m (k_tally base sa hw h k)) (fun s1 => ?_)
    exact jj_rvS hG rfl rfl (k _ _ _)
  have b250 : ∀ (a9 : Int32) (a12 : Int32) (u0 : Int32) (q : Nat → Nat) (t : moS) (kc ks : Nat), JJ C R base m G 250 [(0, .ref m), (1, .int p1), (2, .int p2), (3, .long p3), (5, .long p5), (7, .int p7), (8, .int p8), (9, .int a9), (12, .int a12)] [.int u0] q t kc ks (M_receive_b250 t p1 p2 p3 p5 p7 p8 a9 a12 u0) (some tz) := by
    intro a9 a12 u0 q t kc ks
    refine jjc hG rfl rfl (Nat.le_of_ble_eq_true rfl) ?_
    refine jjs hG rfl rfl ?_
    refine jj_zeq hG (t := 285) rfl rfl ?_ ?_
    · exact jj_wl hG [1, 2, 3, 4, 5, 7, 8, 9, 0] rfl (b285 _ _ _ _ _ _ _)
    refine jjs hG rfl rfl ?_
    refine jjs hG rfl rfl ?_
    refine jj_zne hG (t := 269) rfl rfl ?_ ?_
    · refine jj_si hG rfl cc_s521 ?_
      exact jj_wl hG [1, 2, 3, 4, 5, 7, 8, 9, 0] rfl (b272 _ _ _ _ _ _ _ _ _)
    refine jj_si hG rfl cc_s520 ?_
    refine jj_go hG (t := 272) rfl rfl ?_
    exact jj_wl hG [1, 2, 3, 4, 5, 7, 8, 9, 0] rfl (b272 _ _ _ _ _ _ _ _ _)
  have b219 : ∀ (a9 : Int32) (a12 : Int32) (u0 : Int32) (q : Nat → Nat) (t : moS) (kc ks : Nat), JJ C R base m G 219 [(0, .ref m), (1, .int p1), (2, .int p2), (3, .long p3), (5, .long p5), (7, .int p7), (8, .int p8), (9, .int a9), (12, .int a12)] [.int u0] q t kc ks (M_receive_b219 t p1 p2 p3 p5 p7 p8 a9 a12 u0) (some tz) := by
    intro a9 a12 u0 q t kc ks
    refine jjc hG rfl rfl (Nat.le_of_ble_eq_true rfl) ?_
    refine jjs hG rfl rfl ?_
    refine jj_zne hG (t := 235) rfl rfl ?_ ?_
    · refine jjs hG rfl rfl ?_
      refine jj_gr hG (k := 149) rfl rfl rfl rfl ?_
      refine jj_ic hG rfl cc_i0 ?_
      refine jj_ia hG (k := 149) rfl rfl rfl (fun x1 => ?_)
      refine jj_ic hG rfl cc_i2 ?_
      refine jj_ine hG (t := 249) rfl rfl ?_ ?_
      · refine jj_ic hG rfl cc_i0 ?_
        exact jj_wl hG [1, 2, 3, 4, 5, 6, 7, 8, 9] rfl (b250 _ _ _ _ _ _ _)
      refine jj_ic hG rfl cc_i1 ?_
      refine jj_go hG (t := 250) rfl rfl ?_
      exact jj_wl hG [1, 2, 3, 4, 5, 6, 7, 8, 9] rfl (b250 _ _ _ _ _ _ _)
    refine jjs hG rfl rfl ?_
    refine jjs hG rfl rfl ?_
    refine jj_ic hG rfl cc_i2 ?_
    refine jj_ic hG rfl cc_i1 ?_
    refine jj_cv hG 0 rfl rfl (Nat.le_of_ble_eq_true rfl) (by decide) (Nat.le_of_ble_eq_true rfl) rfl (st' := []) rfl (fun _ _ hw h k => pm_rcv_of moM_m (k_tally base sa hw h k)) (fun s2 => ?_)
    exact jj_rvS hG rfl rfl (k _ _ _)
  have b218 : ∀ (a9 : Int32) (a12 : Int32) (q : Nat → Nat) (t : moS) (kc ks : Nat), JJ C R base m G 218 [(0, .ref m), (1, .int p1), (2, .int p2), (3, .long p3), (5, .long p5), (7, .int p7), (8, .int p8), (9, .int a9), (12, .int a12)] [] q t kc ks (M_receive_b218 t p1 p2 p3 p5 p7 p8 a9 a12) (some tz) := by
    intro a9 a12 q t kc ks
    refine jj_ic hG rfl cc_i0 ?_
    exact jj_wl hG [0, 1, 2, 3, 4, 5, 6, 7, 8] rfl (b219 _ _ _ _ _ _ _)
  have b193 : ∀ (a9 : Int32) (a12 : Int32) (u0 : Int32) (u1 : Int32) (q : Nat → Nat) (t : moS) (kc ks : Nat), JJ C R base m G 193 [(0, .ref m), (1, .int p1), (2, .int p2), (3, .long p3), (5, .long p5), (7, .int p7), (8, .int p8), (9, .int a9), (12, .int a12)] [.int u1, .int u0] q t kc ks (M_receive_b193 t p1 p2 p3 p5 p7 p8 a9 a12 u0 u1) (some tz) := by
    intro a9 a12 u0 u1 q t kc ks
    refine jj_ine hG (t := 218) rfl rfl ?_ ?_
    · exact jj_wl hG [0, 1, 2, 3, 4, 5, 6, 7, 8] rfl (b218 _ _ _ _ _ _)
    refine jjs hG rfl rfl ?_
    refine jj_gr hG (k := 149) rfl rfl rfl rfl ?_
    refine jj_ic hG rfl cc_i2 ?_
    refine jj_ia hG (k := 149) rfl rfl rfl (fun x1 => ?_)
    refine jj_zne hG (t := 218) rfl rfl ?_ ?_
    · exact jj_wl hG [0, 1, 2, 3, 4, 5, 6, 7, 8] rfl (b218 _ _ _ _ _ _)
    refine jjs hG rfl rfl ?_
    refine jj_gr hG (k := 149) rfl rfl rfl rfl ?_
    refine jj_ic hG rfl cc_i3 ?_
    refine jj_ia hG (k := 149) rfl rfl rfl (fun x2 => ?_)
    refine jj_zne hG (t := 218) rfl rfl ?_ ?_
    · exact jj_wl hG [0, 1, 2, 3, 4, 5, 6, 7, 8] rfl (b218 _ _ _ _ _ _)
    refine jj_ic hG rfl cc_i1 ?_
    refine jj_go hG (t := 219) rfl rfl ?_
    exact jj_wl hG [0, 1, 2, 3, 4, 5, 6, 7, 8] rfl (b219 _ _ _ _ _ _ _)
  have b178 : ∀ (a9 : Int32) (a12 : Int32) (q : Nat → Nat) (t : moS) (kc ks : Nat), JJ C R base m G 178 [(0, .ref m), (1, .int p1), (2, .int p2), (3, .long p3), (5, .long p5), (7, .int p7), (8, .int p8), (9, .int a9), (12, .int a12)] [] q t kc ks (M_receive_b178 t p1 p2 p3 p5 p7 p8 a9 a12) (some tz) := by
    intro a9 a12 q t kc ks
    refine jjs hG rfl rfl ?_
    refine jj_gr hG (k := 149) rfl rfl rfl rfl ?_
    refine jj_ic hG rfl cc_i1 ?_
    refine jj_ia hG (k := 149) rfl rfl rfl (fun x1 => ?_)
    refine jjs hG rfl rfl ?_
    refine jj_zne hG (t := 192) rfl rfl ?_ ?_
    · refine jj_ic hG rfl cc_i1 ?_
      exact jj_wl hG [0, 1, 2, 3, 4, 5, 6, 7, 8] rfl (b193 _ _ _ _ _ _ _ _)
    refine jj_ic hG rfl cc_i2 ?_
    refine jj_go hG (t := 193) rfl rfl ?_
    exact jj_wl hG [0, 1, 2, 3, 4, 5, 6, 7, 8] rfl (b193 _ _ _ _ _ _ _ _)
  have b151 : ∀ (a9 : Int32) (a12 : Int32) (u0 : Int32) (q : Nat → Nat) (t : moS) (kc ks : Nat), JJ C R base m G 151 [(0, .ref m), (1, .int p1), (2, .int p2), (3, .long p3), (5, .long p5), (7, .int p7), (8, .int p8), (9, .int a9), (12, .int a12)] [.int u0] q t kc ks (M_receive_b151 t p1 p2 p3 p5 p7 p8 a9 a12 u0) (some tz) := by
    intro a9 a12 u0 q t kc ks
    refine jjc hG rfl rfl (Nat.le_of_ble_eq_true rfl) ?_
    refine jjs hG rfl rfl ?_
    refine jj_zeq hG (t := 218) rfl rfl ?_ ?_
    · exact jj_wl hG [1, 2, 3, 4, 5, 6, 7, 8, 9] rfl (b218 _ _ _ _ _ _)
    refine jjs hG rfl rfl ?_
    refine jj_gr hG (k := 149) rfl rfl rfl rfl ?_
    refine jj_ic hG rfl cc_i0 ?_
    refine jj_ia hG (k := 149) rfl rfl rfl (fun x1 => ?_)
    refine jj_ic hG rfl cc_i1 ?_
    refine jj_ieq hG (t := 178) rfl rfl ?_ ?_
    · exact jj_wl hG [1, 2, 3, 4, 5, 6, 7, 8, 9] rfl (b178 _ _ _ _ _ _)
    refine jjs hG rfl rfl ?_
    refine jj_gr hG (k := 149) rfl rfl rfl rfl ?_
    refine jj_ic hG rfl cc_i0 ?_
    refine jj_ia hG (k := 149) rfl rfl rfl (fun x2 => ?_)
    refine jj_ic hG rfl cc_i2 ?_
    refine jj_ine hG (t := 218) rfl rfl ?_ ?_
    · exact jj_wl hG [1, 2, 3, 4, 5, 6, 7, 8, 9] rfl (b218 _ _ _ _ _ _)
    exact jj_wl hG [1, 2, 3, 4, 5, 6, 7, 8, 9] rfl (b178 _ _ _ _ _ _)
  have b150 : ∀ (a9 : Int32) (a12 : Int32) (q : Nat → Nat) (t : moS) (kc ks : Nat), JJ C R base m G 150 [(0, .ref m), (1, .int p1), (2, .int p2), (3, .long p3), (5, .long p5), (7, .int p7), (8, .int p8), (9, .int a9), (12, .int a12)] [] q t kc ks (M_receive_b150 t p1 p2 p3 p5 p7 p8 a9 a12) (some tz) := by
    intro a9 a12 q t kc ks
    refine jj_ic hG rfl cc_i0 ?_
    exact jj_wl hG [0, 1, 2, 3, 4, 5, 6, 7, 8] rfl (b151 _ _ _ _ _ _ _)
  have b143 : ∀ (a9 : Int32) (a12 : Int32) (u0 : Int32) (u1 : Int32) (q : Nat → Nat) (t : moS) (kc ks : Nat), JJ C R base m G 143 [(0, .ref m), (1, .int p1), (2, .int p2), (3, .long p3), (5, .long p5), (7, .int p7), (8, .int p8), (9, .int a9), (12, .int a12)] [.int u1, .int u0] q t kc ks (M_receive_b143 t p1 p2 p3 p5 p7 p8 a9 a12 u0 u1) (some tz) := by
    intro a9 a12 u0 u1 q t kc ks
    refine jj_igt hG (t := 150) rfl rfl ?_ ?_
    · exact jj_wl hG [0, 1, 2, 3, 4, 5, 6, 7, 8] rfl (b150 _ _ _ _ _ _)
    refine jj_ic hG rfl cc_i1 ?_
    refine jj_go hG (t := 151) rfl rfl ?_
    exact jj_wl hG [0, 1, 2, 3, 4, 5, 6, 7, 8] rfl (b151 _ _ _ _ _ _ _)
  have b50 : ∀ (a9 : Int32) (a10 : Int32) (u0 : Int32) (q : Nat → Nat) (t : moS) (kc ks : Nat), JJ C R base m G 50 [(0, .ref m), (1, .int p1), (2, .int p2), (3, .long p3), (5, .long p5), (7, .int p7), (8, .int p8), (9, .int a9), (10, .int a10)] [.int u0] q t kc ks (M_receive_b50 t p1 p2 p3 p5 p7 p8 a9 a10 u0) (some tz) := by
    intro a9 a10 u0 q t kc ks
    refine jjc hG rfl rfl (Nat.le_of_ble_eq_true rfl) ?_
    refine jjs hG rfl rfl ?_
    refine jj_zne hG (t := 87) rfl rfl ?_ ?_
    · exact jj_wl hG [1, 8] rfl (b87 _ _ _ _ _)
    refine jjs hG rfl rfl ?_
    refine jj_gr hG (k := 76) rfl rfl rfl rfl ?_
    refine jjs hG rfl rfl ?_
    refine jj_la hG (k := 76) rfl rfl rfl (fun x1 => ?_)
    refine jjs hG rfl rfl ?_
    refine jj_gr hG (k := 77) rfl rfl rfl rfl ?_
    refine jjs hG rfl rfl ?_
    refine jj_la hG (k := 77) rfl rfl rfl (fun x2 => ?_)
    refine jjs hG rfl rfl ?_
    refine jj_gr hG (k := 78) rfl rfl rfl rfl ?_
    refine jjs hG rfl rfl ?_
    refine jj_ia hG (k := 78) rfl rfl rfl (fun x3 => ?_)
    refine jjs hG rfl rfl ?_
    refine jjs hG rfl rfl ?_
    refine jj_ct hG 2 rfl rfl (Nat.le_of_ble_eq_true rfl) (by decide) (Nat.le_of_ble_eq_true rfl) rfl (st' := []) rfl (v := .int (M_covers x1 x2 x3 p3 p5)) (fun _ hw k => k_covers base sa hw rfl k) ?_
    refine jj_zne hG (t := 96) rfl rfl ?_ ?_
    · refine jjs hG rfl rfl ?_
      refine jj_gi hG (k := 150) rfl rfl rfl rfl ?_
      refine jj_ic hG rfl cc_i4 ?_
      refine jjs hG rfl rfl ?_
      refine jj_bi hG rfl cc_b20 ?_
      refine jjc hG rfl rfl (by decide) ?_
      refine jjc hG rfl rfl (Nat.le_of_ble_eq_true rfl) ?_
      refine jjs hG rfl rfl ?_
      refine jj_gi hG (k := 150) rfl rfl rfl rfl ?_
      refine jj_bi hG rfl cc_b24 ?_
      refine jj_ilt hG (t := 150) rfl rfl ?_ ?_
      · exact jj_wl hG [2, 3, 4, 5, 6, 7, 8, 9, 0] rfl (b150 _ _ _ _ _ _)
      refine jjs hG rfl rfl ?_
      refine jj_gi hG (k := 150) rfl rfl rfl rfl ?_
      refine jj_ic hG rfl cc_i4 ?_
      refine jj_bi hG rfl cc_b20 ?_
      refine jjs hG rfl rfl ?_
      refine jjs hG rfl rfl ?_
      refine jjs hG rfl rfl ?_
      refine jj_ine hG (t := 150) rfl rfl ?_ ?_
      · exact jj_wl hG [2, 3, 4, 5, 6, 7, 8, 9, 0] rfl (b150 _ _ _ _ _ _)
      refine jjs hG rfl rfl ?_
      refine jjs hG rfl rfl ?_
      refine jj_zne hG (t := 141) rfl rfl ?_ ?_
      · refine jj_bi hG rfl cc_b25 ?_
        exact jj_wl hG [2, 3, 4, 5, 6, 7, 8, 9, 0] rfl (b143 _ _ _ _ _ _ _ _)
      refine jj_bi hG rfl cc_b28 ?_
      refine jj_go hG (t := 143) rfl rfl ?_
      exact jj_wl hG [2, 3, 4, 5, 6, 7, 8, 9, 0] rfl (b143 _ _ _ _ _ _ _ _)
    exact jj_wl hG [1, 8] rfl (b87 _ _ _ _ _)
  have b49 : ∀ (a9 : Int32) (a10 : Int32) (q : Nat → Nat) (t : moS) (kc ks : Nat), JJ C R base m G 49 [(0, .ref m), (1, .int p1), (2, .int p2), (3, .long p3), (5, .long p5), (7, .int p7), (8, .int p8), (9, .int a9), (10, .int a10)] [] q t kc ks (M_receive_b49 t p1 p2 p3 p5 p7 p8 a9 a10) (some tz) := by
    intro a9 a10 q t kc ks
    refine jj_ic hG rfl cc_i0 ?_
    exact jj_wl hG [0, 1, 2, 3, 4, 5, 6, 7, 8] rfl (b50 _ _ _ _ _ _ _)
  refine (show JJ C R base m G 0 [(0, .ref m), (1, .int p1), (2, .int p2), (3, .long p3), (5, .long p5), (7, .int p7), (8, .int p8)] [] q t kc ks (M_receive t p1 p2 p3 p5 p7 p8) (some tz) from ?_) hw h
  refine jjs hG rfl rfl ?_
  refine jj_ic hG rfl cc_i4 ?_
  refine jjc hG rfl rfl (by decide) ?_
  refine jjc hG rfl rfl (Nat.le_of_ble_eq_true rfl) ?_
  refine jj_ic hG rfl cc_i2 ?_
  refine jjs hG rfl rfl ?_
  refine jjs hG rfl rfl ?_
  refine jjs hG rfl rfl ?_
  refine jjs hG rfl rfl ?_
  refine jjc hG rfl rfl (Nat.le_of_ble_eq_true rfl) ?_
  refine jjs hG rfl rfl ?_
  refine jjs hG rfl rfl ?_
  refine jj_at (pc' := 15) rfl ?_
  refine jj_ic hG rfl cc_i0 ?_
  refine jj_ic hG rfl cc_i1 ?_
  refine jj_cv hG 0 rfl rfl (Nat.le_of_ble_eq_true rfl) (by decide) (Nat.le_of_ble_eq_true rfl) rfl (st' := []) rfl (fun _ _ hw h k => pm_rcv_of moM_m (k_tally base sa hw h k)) (fun s1 => ?_)
  refine jjs hG rfl rfl ?_
  refine jjs hG rfl rfl ?_
  refine jj_gr hG (k := 76) rfl rfl rfl rfl ?_
  refine jjs hG rfl rfl ?_
  refine jj_la hG (k := 76) rfl rfl rfl (fun x2 => ?_)
  refine jjs hG rfl rfl ?_
  refine jj_lne hG (t := 49) rfl rfl ?_ ?_
  · exact jj_wl hG [2, 3, 4, 5, 6, 7, 8, 1, 0] rfl (b49 _ _ _ _ _ _)
  refine jjs hG rfl rfl ?_
  refine jjs hG rfl rfl ?_
  refine jj_gr hG (k := 77) rfl rfl rfl rfl ?_
  refine jjs hG rfl rfl ?_
  refine jj_la hG (k := 77) rfl rfl rfl (fun x3 => ?_)
  refine jjs hG rfl rfl ?_
  refine jj_lne hG (t := 49) rfl rfl ?_ ?_
  · exact jj_wl hG [2, 3, 4, 5, 6, 7, 8, 1, 0] rfl (b49 _ _ _ _ _ _)
  refine jj_ic hG rfl cc_i1 ?_
  refine jj_go hG (t := 50) rfl rfl ?_
  exact jj_wl hG [2, 3, 4, 5, 6, 7, 8, 1, 0] rfl (b50 _ _ _ _ _ _ _)
noncomputable def M_takeOff_s14 (t : moS) (a2 : Int32) : Option ((Int32 × moS) ⊕ moS) := if (a2 + (1 : Int32)) < (moS.S t 123) then (Option.bind (rdI t 124 (a2 + (1 : Int32))) (fun x2 => (Option.bind (wrI t 124 a2 x2) (fun s3 => ((some (.inl ((a2 + (1 : Int32)), s3)))))))) else ((xo (letS (moSS t 123 ((moS.S t 123) - (1 : Int32))) (fun s1 => ((some s1))))))
noncomputable def M_takeOff_b14 (t : moS) (a2 : Int32) : Option moS := lp (fun x => M_takeOff_s14 x.2 x.1) (a2, t)
noncomputable def M_takeOff (t : moS) (p1 : Int32) : Option moS := Option.bind (rdI t 124 p1) (fun x1 => (Option.bind (wrZ t 125 x1 (0 : Int32)) (fun s2 => ((M_takeOff_b14 s2 p1)))))
set_option maxRecDepth 100000 in
set_option maxHeartbeats 4000000 in
theorem k_takeOff (base : Nat) (sa : Nat → Nat) {C : Nat × Nat} {R : pmM} {m : Nat} {q : Nat → Nat} {t tz : moS} {kc ks : Nat} {Rt : pmR} {p1 : Int32} (hw : mW C R base m q t kc ks) (h : M_takeOff t p1 = (some tz)) (k : mW C R base m q tz kc ks → Rt none (moM R m q tz) kc ks) : kP_Mo_takeOff base sa [.ref m, .int p1] (moM R m q t) kc ks Rt := by
  refine ⟨Nat.le_of_ble_eq_true rfl, fun G hG => ?_⟩
  have b14 : ∀ (n : Nat) (a2 : Int32) (t : moS), JJ C R base m G 14 [(0, .ref m), (2, .int a2)] [] q t kc ks (lpN (fun x => M_takeOff_s14 x.2 x.1) n (a2, t)) (some tz) := by
    intro n
    induction n with
    | zero => intro a2 t; exact jj_lp0
    | succ n ih14 =>
      intro a2 t
      refine jj_lpS (fun y14 c14 => ?_)
      refine (show JJ C R base m G 14 [(0, .ref m), (2, .int a2)] [] q t kc ks (M_takeOff_s14 t a2) (some y14) from ?_)
      refine jjs hG rfl rfl ?_
      refine jj_ic hG rfl cc_i1 ?_
      refine jjs hG rfl rfl ?_
      refine jjs hG rfl rfl ?_
      refine jj_gi hG (k := 123) rfl rfl rfl rfl ?_
      refine jj_ige hG (t := 44) rfl rfl ?_ ?_
      · refine jj_exit c14 ?_
        refine jjs hG rfl rfl ?_
        refine jjc hG rfl rfl rfl ?_
        refine jj_gi hG (k := 123) rfl rfl rfl rfl ?_
        refine jj_ic hG rfl cc_i1 ?_
        refine jjs hG rfl rfl ?_
        refine jj_pi hG (k := 123) rfl rfl rfl rfl (fun s1 => ?_)
        exact jj_rvS hG rfl rfl (k)
      refine jjs hG rfl rfl ?_
      refine jj_gr hG (k := 124) rfl rfl rfl rfl ?_
      refine jjs hG rfl rfl ?_
      refine jjs hG rfl rfl ?_
      refine jj_gr hG (k := 124) rfl rfl rfl rfl ?_
      refine jjs hG rfl rfl ?_
      refine jj_ic hG rfl cc_i1 ?_
      refine jjs hG rfl rfl ?_
      refine jj_ia hG (k := 124) rfl rfl rfl (fun x2 => ?_)
      refine jj_is hG (k := 124) rfl rfl rfl (fun s3 => ?_)
      refine jj_inc hG rfl (Nat.le_of_ble_eq_true rfl) rfl cc_i1 ?_
      refine jj_go hG (t := 14) rfl rfl ?_
      exact jj_back c14 (jj_wl hG [1, 0] rfl (ih14 _ _))
  refine (show JJ C R base m G 0 [(0, .ref m), (1, .int p1)] [] q t kc ks (M_takeOff t p1) (some tz) from ?_) hw h
  refine jjs hG rfl rfl ?_
  refine jj_gr hG (k := 125) rfl rfl rfl rfl ?_
  refine jjs hG rfl rfl ?_
  refine jj_gr hG (k := 124) rfl rfl rfl rfl ?_
  refine jjs hG rfl rfl ?_
  refine jj_ia hG (k := 124) rfl rfl rfl (fun x1 => ?_)
  refine jj_ic hG rfl cc_i0 ?_
  refine jj_bs hG (k := 125) rfl rfl rfl (fun s2 => ?_)
  refine jjs hG rfl rfl ?_
  refine jjc hG rfl rfl (Nat.le_of_ble_eq_true rfl) ?_
  refine jj_lp (fun n => ?_)
  exact jj_wl hG [1, 0] rfl (b14 n _ _)
