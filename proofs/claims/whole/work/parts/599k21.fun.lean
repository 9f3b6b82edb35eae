/-! The model as functions, by program: keysAreGood .. isEntry -/
noncomputable def M_keysAreGood_b51 (t : moS) : Option (Int32 × moS) := (some ((1 : Int32), t))
noncomputable def M_keysAreGood_b158 (t : moS) (p1 : Int32) (a5 : Int32) (u0 : Int32) : Option ((Int32 × Int32 × moS) ⊕ (Int32 × moS)) := (some (.inl (u0, (a5 + (1 : Int32)), t)))
noncomputable def M_keysAreGood_b157 (t : moS) (p1 : Int32) (a5 : Int32) : Option ((Int32 × Int32 × moS) ⊕ (Int32 × moS)) := (M_keysAreGood_b158 t p1 a5 (0 : Int32))
noncomputable def M_keysAreGood_b150 (t : moS) (p1 : Int32) (a5 : Int32) (u0 : Int32) (u1 : Int32) : Option ((Int32 × Int32 × moS) ⊕ (Int32 × moS)) := if u0 = u1 then ((M_keysAreGood_b158 t p1 a5 (1 : Int32))) else ((M_keysAreGood_b157 t p1 a5))
noncomputable def M_keysAreGood_s101 (t : moS) (p1 : Int32) (a4 : Int32) (a5 : Int32) : Option ((Int32 × Int32 × moS) ⊕ (Int32 × moS)) := if a5 < (16 : Int32) then (if a4 = 0 then ((M_keysAreGood_b157 t p1 a5)) else (Option.bind (rdI t 149 ((8 : Int32) + a5)) (fun x1 => (Option.bind (rdI t 80 p1) (fun x2 => (if a5 < x2 then (Option.bind (rdI t 81 (((16 : Int32) * p1) + a5)) (fun x3 => ((M_keysAreGood_b150 t p1 a5 x1 x3)))) else ((M_keysAreGood_b150 t p1 a5 x1 (0 : Int32))))))))) else ((xo ((okZ a4 (some (a4, t))))))
noncomputable def M_keysAreGood_b101 (t : moS) (p1 : Int32) (a4 : Int32) (a5 : Int32) : Option (Int32 × moS) := lp (fun x => M_keysAreGood_s101 x.2.2 p1 x.1 x.2.1) (a4, a5, t)
noncomputable def M_keysAreGood_s398 (t : moS) (p1 : Int32) (p2 : Int64) (a6 : Int32) (a7 : Int32) (a9 : Int32) : Option ((Int32 × moS) ⊕ (Int32 × moS)) := if a9 < a7 then (Option.bind (rdI t 149 ((a6 + (4 : Int32)) + a9)) (fun x5 => (Option.bind (rdI t 160 a9) (fun x6 => (if x5 = x6 then ((some (.inl ((a9 + (1 : Int32)), t)))) else ((xo ((some ((0 : Int32), t)))))))))) else ((xo (letS (moSS t 163 ((a6 - (24 : Int32)) / (20 : Int32))) (fun s1 => (Option.bind (M_number4 s1 149 (12 : Int32)) (fun x2 => (bn2 (M_isNotOlder s1 p1 p2 x2) (fun x4 s3 => ((okZ x4 (some (x4, s3))))))))))))
noncomputable def M_keysAreGood_b398 (t : moS) (p1 : Int32) (p2 : Int64) (a6 : Int32) (a7 : Int32) (a9 : Int32) : Option (Int32 × moS) := lp (fun x => M_keysAreGood_s398 x.2 p1 p2 a6 a7 x.1) (a9, t)
noncomputable def M_keysAreGood_b381 (t : moS) (p1 : Int32) (p2 : Int64) (a5 : Int32) (a6 : Int32) (a7 : Int32) : Option (Int32 × moS) := Option.bind (M_sumOf t a5 149 (a6 + (4 : Int32))) (fun s1 => ((M_keysAreGood_b398 s1 p1 p2 a6 a7 (0 : Int32))))
noncomputable def M_keysAreGood_b273 (t : moS) (p1 : Int32) (p2 : Int64) (a5 : Int32) (a6 : Int32) (a7 : Int32) (u0 : Int32) : Option (Int32 × moS) := Option.bind (M_bytesAre t (4 : Int32) (255 : Int32) (255 : Int32) (0 : Int32) (3 : Int32)) (fun x1 => (if x1 = 0 then ((some ((0 : Int32), t))) else (Option.bind (rdI t 149 (11 : Int32)) (fun x2 => (if x2 = a7 then (Option.bind (M_areZeros t (16 : Int32) (24 : Int32)) (fun x3 => (if x3 = 0 then ((some ((0 : Int32), t))) else (if a6 < (24 : Int32) then ((some ((0 : Int32), t))) else (if (moS.S t 150) = (a6 + u0) then (Option.bind (M_bytesAre t a6 (255 : Int32) (255 : Int32) (0 : Int32) (1 : Int32)) (fun x4 => (if x4 = 0 then ((some ((0 : Int32), t))) else (Option.bind (rdI t 84 a5) (fun x5 => (if x5 = 0 then ((M_keysAreGood_b381 t p1 p2 a5 a6 a7)) else (Option.bind (M_areZeros t (a6 + (24 : Int32)) (a6 + (40 : Int32))) (fun x6 => (if x6 = 0 then ((some ((0 : Int32), t))) else ((M_keysAreGood_b381 t p1 p2 a5 a6 a7))))))))))) else ((some ((0 : Int32), t)))))))) else ((some ((0 : Int32), t))))))))
noncomputable def M_keysAreGood_b254 (t : moS) (p1 : Int32) (p2 : Int64) (a5 : Int32) (a6 : Int32) (u0 : Int32) : Option (Int32 × moS) := Option.bind (rdI t 84 a5) (fun x1 => (if x1 = 0 then ((M_keysAreGood_b273 t p1 p2 a5 a6 u0 (20 : Int32))) else ((M_keysAreGood_b273 t p1 p2 a5 a6 u0 (40 : Int32)))))
noncomputable def M_keysAreGood (t : moS) (p1 : Int32) (p2 : Int64) : Option (Int32 × moS) := letS (moSS t 162 (4 : Int32)) (fun s1 => (letS (moSS s1 163 (((moS.S s1 150) - (4 : Int32)) / (20 : Int32))) (fun s2 => (Option.bind (rdI s2 79 p1) (fun x3 => (if x3 = 0 then (Option.bind (rdI s2 149 (4 : Int32)) (fun x15 => (if x15 = (255 : Int32) then (Option.bind (rdI s2 149 (5 : Int32)) (fun x16 => (if x16 = (255 : Int32) then ((some ((0 : Int32), s2))) else ((M_keysAreGood_b51 s2))))) else ((M_keysAreGood_b51 s2))))) else (letS (moSS s2 162 (24 : Int32)) (fun s4 => (letS (moSS s4 163 ((moS.S s4 163) - (1 : Int32))) (fun s5 => (Option.bind (rdI s5 79 p1) (fun x6 => (if x6 = (1 : Int32) then (Option.bind (M_bytesAre s5 (4 : Int32) (255 : Int32) (255 : Int32) (0 : Int32) (2 : Int32)) (fun x14 => ((M_keysAreGood_b101 s5 p1 x14 (0 : Int32))))) else (Option.bind (rdI s5 149 (10 : Int32)) (fun x7 => (Option.bind (M_keyPlace s5 p1 x7) (fun x8 => (Option.bind (rdI s5 82 p1) (fun x9 => (if x8 = x9 then ((some ((0 : Int32), s5))) else (Option.bind (M_isGood s5 (((4 : Int32) * p1) + x8)) (fun x10 => (if x10 = 0 then ((some ((0 : Int32), s5))) else (Option.bind (rdI s5 149 (8 : Int32)) (fun x11 => (Option.bind (rdI s5 149 (9 : Int32)) (fun x12 => (Option.bind (rdI s5 84 (((4 : Int32) * p1) + x8)) (fun x13 => (if x13 = 0 then ((M_keysAreGood_b254 s5 p1 p2 (((4 : Int32) * p1) + x8) ((x11 <<< ((8 : Int32) &&& 31)) ||| x12) (16 : Int32))) else ((M_keysAreGood_b254 s5 p1 p2 (((4 : Int32) * p1) + x8) ((x11 <<< ((8 : Int32) &&& 31)) ||| x12) (20 : Int32)))))))))))))))))))))))))))))))))
set_option maxRecDepth 100000 in
set_option maxHeartbeats 4000000 in
theorem k_keysAreGood (base : Nat) (sa : Nat → Nat) {C : Nat × Nat} {R : pmM} {m : Nat} {q : Nat → Nat} {t tz : moS} {kc ks : Nat} {Rt : pmR} {p1 : Int32} {p2 : Int64} {r : Int32} (hw : mW C R base m q t kc ks) (h : M_keysAreGood t p1 p2 = (some (r, tz))) (k : ∀ (q' : Nat → Nat) (kc' ks' : Nat), mW C R base m q' tz kc' ks' → Rt (some (.int r)) (moM R m q' tz) kc' ks') : kP_Mo_keysAreGood base sa [.ref m, .int p1, .long p2] (moM R m q t) kc ks Rt := by
  refine ⟨Nat.le_of_ble_eq_true rfl, fun G hG => ?_⟩
  have b51 : ∀ (q : Nat → Nat) (t : moS) (kc ks : Nat), JJ C R base m G 51 [] [] q t kc ks (M_keysAreGood_b51 t) (some (r, tz)) := by
    intro q t kc ks
    refine jj_ic hG rfl cc_i1 ?_
    refine jj_go hG (t := 56) rfl rfl ?_
    exact jj_riS hG rfl rfl rfl (k _ _ _)
  have b101 : ∀ (n : Nat) (a4 : Int32) (a5 : Int32) (q : Nat → Nat) (t : moS) (kc ks : Nat), JJ C R base m G 101 [(0, .ref m), (1, .int p1), (4, .int a4), (5, .int a5)] [] q t kc ks (lpN (fun x => M_keysAreGood_s101 x.2.2 p1 x.1 x.2.1) n (a4, a5, t)) (some (r, tz)) := by
    intro n
    induction n with
    | zero => intro a4 a5 q t kc ks; exact jj_lp0
    | succ n ih101 =>
      intro a4 a5 q t kc ks
      refine jj_lpS (fun y101 c101 => ?_)
      have b158 : ∀ (a5 : Int32) (u0 : Int32) (q : Nat → Nat) (t : moS) (kc ks : Nat), JJ C R base m G 158 [(0, .ref m), (1, .int p1), (5, .int a5)] [.int u0] q t kc ks (M_keysAreGood_b158 t p1 a5 u0) (some y101) := by
        intro a5 u0 q t kc ks
        refine jjc hG rfl rfl (Nat.le_of_ble_eq_true rfl) ?_
        refine jj_inc hG rfl (Nat.le_of_ble_eq_true rfl) rfl cc_i1 ?_
        refine jj_go hG (t := 101) rfl rfl ?_
        exact jj_back c101 (jj_wl hG [2, 3, 1, 0] rfl (ih101 _ _ _ _ _ _))
      have b157 : ∀ (a5 : Int32) (q : Nat → Nat) (t : moS) (kc ks : Nat), JJ C R base m G 157 [(0, .ref m), (1, .int p1), (5, .int a5)] [] q t kc ks (M_keysAreGood_b157 t p1 a5) (some y101) := by
        intro a5 q t kc ks
        refine jj_ic hG rfl cc_i0 ?_
        exact jj_wl hG [0, 1, 2] rfl (b158 _ _ _ _ _ _)
      have b150 : ∀ (a5 : Int32) (u0 : Int32) (u1 : Int32) (q : Nat → Nat) (t : moS) (kc ks : Nat), JJ C R base m G 150 [(0, .ref m), (1, .int p1), (5, .int a5)] [.int u1, .int u0] q t kc ks (M_keysAreGood_b150 t p1 a5 u0 u1) (some y101) := by
        intro a5 u0 u1 q t kc ks
        refine jj_ine hG (t := 157) rfl rfl ?_ ?_
        · exact jj_wl hG [0, 1, 2] rfl (b157 _ _ _ _ _)
        refine jj_ic hG rfl cc_i1 ?_
        refine jj_go hG (t := 158) rfl rfl ?_
        exact jj_wl hG [0, 1, 2] rfl (b158 _ _ _ _ _ _)
      refine (show JJ C R base m G 101 [(0, .ref m), (1, .int p1), (4, .int a4), (5, .int a5)] [] q t kc ks (M_keysAreGood_s101 t p1 a4 a5) (some y101) from ?_)
      refine jjs hG rfl rfl ?_
      refine jj_bi hG rfl cc_b16 ?_
      refine jj_ige hG (t := 166) rfl rfl ?_ ?_
      · refine jj_exit c101 ?_
        refine jjs hG rfl rfl ?_
        exact jj_rzS hG rfl rfl (k _ _ _)
      refine jjs hG rfl rfl ?_
      refine jj_zeq hG (t := 157) rfl rfl ?_ ?_
      · exact jj_wl hG [0, 1, 3] rfl (b157 _ _ _ _ _)
      refine jjs hG rfl rfl ?_
      refine jj_gr hG (k := 149) rfl rfl rfl rfl ?_
      refine jj_bi hG rfl cc_b8 ?_
      refine jjs hG rfl rfl ?_
      refine jjs hG rfl rfl ?_
      refine jj_ia hG (k := 149) rfl rfl rfl (fun x1 => ?_)
      refine jjs hG rfl rfl ?_
      refine jjs hG rfl rfl ?_
      refine jj_gr hG (k := 80) rfl rfl rfl rfl ?_
      refine jjs hG rfl rfl ?_
      refine jj_ia hG (k := 80) rfl rfl rfl (fun x2 => ?_)
      refine jj_ige hG (t := 149) rfl rfl ?_ ?_
      · refine jj_ic hG rfl cc_i0 ?_
        exact jj_wl hG [0, 1, 3] rfl (b150 _ _ _ _ _ _ _)
      refine jjs hG rfl rfl ?_
      refine jj_gr hG (k := 81) rfl rfl rfl rfl ?_
      refine jj_bi hG rfl cc_b16 ?_
      refine jjs hG rfl rfl ?_
      refine jjs hG rfl rfl ?_
      refine jjs hG rfl rfl ?_
      refine jjs hG rfl rfl ?_
      refine jj_ia hG (k := 81) rfl rfl rfl (fun x3 => ?_)
      refine jj_go hG (t := 150) rfl rfl ?_
      exact jj_wl hG [0, 1, 3] rfl (b150 _ _ _ _ _ _ _)
  have b398 : ∀ (a6 : Int32) (a7 : Int32) (n : Nat) (a9 : Int32) (q : Nat → Nat) (t : moS) (kc ks : Nat), JJ C R base m G 398 [(0, .ref m), (1, .int p1), (2, .long p2), (6, .int a6), (7, .int a7), (9, .int a9)] [] q t kc ks (lpN (fun x => M_keysAreGood_s398 x.2 p1 p2 a6 a7 x.1) n (a9, t)) (some (r, tz)) := by
    intro a6 a7 n
    induction n with
    | zero => intro a9 q t kc ks; exact jj_lp0
    | succ n ih398 =>
      intro a9 q t kc ks
      refine jj_lpS (fun y398 c398 => ?_)
      refine (show JJ C R base m G 398 [(0, .ref m), (1, .int p1), (2, .long p2), (6, .int a6), (7, .int a7), (9, .int a9)] [] q t kc ks (M_keysAreGood_s398 t p1 p2 a6 a7 a9) (some y398) from ?_)
      refine jjs hG rfl rfl ?_
      refine jjs hG rfl rfl ?_
      refine jj_ige hG (t := 435) rfl rfl ?_ ?_
      · refine jj_exit c398 ?_
        refine jjs hG rfl rfl ?_
        refine jjs hG rfl rfl ?_
        refine jj_bi hG rfl cc_b24 ?_
        refine jjs hG rfl rfl ?_
        refine jj_bi hG rfl cc_b20 ?_
        refine jjc hG rfl rfl (by decide) ?_
        refine jj_pi hG (k := 163) rfl rfl rfl rfl (fun s1 => ?_)
        refine jjs hG rfl rfl ?_
        refine jjs hG rfl rfl ?_
        refine jjs hG rfl rfl ?_
        refine jjs hG rfl rfl ?_
        refine jj_gr hG (k := 149) rfl rfl rfl rfl ?_
        refine jj_bi hG rfl cc_b12 ?_
        refine jj_cp hG 2 rfl rfl (Nat.le_of_ble_eq_true rfl) (by decide) (Nat.le_of_ble_eq_true rfl) rfl (st' := [.long p2, .int p1, .ref m]) rfl (w := .long) (fun _ _ hw h k => k_number4 base sa rfl rfl hw h k) (fun x2 => ?_)
        refine jj_csA hG 0 rfl rfl (Nat.le_of_ble_eq_true rfl) (by decide) (Nat.le_of_ble_eq_true rfl) rfl (st' := []) rfl (w := .int) (fun _ _ _ hw h k => pm_rcv_of moM_m (k_isNotOlder base sa hw h k)) (fun x4 s3 q kc ks => ?_)
        exact jj_rzS hG rfl rfl (k _ _ _)
      refine jjs hG rfl rfl ?_
      refine jj_gr hG (k := 149) rfl rfl rfl rfl ?_
      refine jjs hG rfl rfl ?_
      refine jj_ic hG rfl cc_i4 ?_
      refine jjs hG rfl rfl ?_
      refine jjs hG rfl rfl ?_
      refine jjs hG rfl rfl ?_
      refine jj_ia hG (k := 149) rfl rfl rfl (fun x5 => ?_)
      refine jjs hG rfl rfl ?_
      refine jj_gr hG (k := 160) rfl rfl rfl rfl ?_
      refine jjs hG rfl rfl ?_
      refine jj_ia hG (k := 160) rfl rfl rfl (fun x6 => ?_)
      refine jj_ieq hG (t := 429) rfl rfl ?_ ?_
      · refine jj_inc hG rfl (Nat.le_of_ble_eq_true rfl) rfl cc_i1 ?_
        refine jj_go hG (t := 398) rfl rfl ?_
        exact jj_back c398 (jj_wl hG [1, 2, 3, 4, 5, 0] rfl (ih398 _ _ _ _ _))
      refine jj_exit c398 ?_
      refine jj_ic hG rfl cc_i0 ?_
      exact jj_riS hG rfl rfl rfl (k _ _ _)
  have b381 : ∀ (a5 : Int32) (a6 : Int32) (a7 : Int32) (q : Nat → Nat) (t : moS) (kc ks : Nat), JJ C R base m G 381 [(0, .ref m), (1, .int p1), (2, .long p2), (5, .int a5), (6, .int a6), (7, .int a7)] [] q t kc ks (M_keysAreGood_b381 t p1 p2 a5 a6 a7) (some (r, tz)) := by
    intro a5 a6 a7 q t kc ks
    refine jjs hG rfl rfl ?_
    refine jjs hG rfl rfl ?_
    refine jjs hG rfl rfl ?_
    refine jj_gr hG (k := 149) rfl rfl rfl rfl ?_
    refine jjs hG rfl rfl ?_
    refine jj_ic hG rfl cc_i4 ?_
    refine jjs hG rfl rfl ?_
    refine jj_cv hG 0 rfl rfl (Nat.le_of_ble_eq_true rfl) (by decide) (Nat.le_of_ble_eq_true rfl) rfl (st' := []) rfl (fun _ _ hw h k => pm_rcv_of moM_m (k_sumOf base sa rfl rfl hw h k)) (fun s1 => ?_)
    refine jj_ic hG rfl cc_i0 ?_
    refine jjc hG rfl rfl (Nat.le_of_ble_eq_true rfl) ?_
    refine jj_lp (fun n => ?_)
    exact jj_wl hG [1, 2, 3, 5, 6, 0] rfl (b398 _ _ n _ _ _ _ _)
  have b273 : ∀ (a5 : Int32) (a6 : Int32) (a7 : Int32) (u0 : Int32) (q : Nat → Nat) (t : moS) (kc ks : Nat), JJ C R base m G 273 [(0, .ref m), (1, .int p1), (2, .long p2), (5, .int a5), (6, .int a6), (7, .int a7)] [.int u0] q t kc ks (M_keysAreGood_b273 t p1 p2 a5 a6 a7 u0) (some (r, tz)) := by
    intro a5 a6 a7 u0 q t kc ks
    refine jjc hG rfl rfl (Nat.le_of_ble_eq_true rfl) ?_
    refine jjs hG rfl rfl ?_
    refine jj_ic hG rfl cc_i4 ?_
    refine jj_si hG rfl cc_s255 ?_
    refine jj_si hG rfl cc_s255 ?_
    refine jj_ic hG rfl cc_i0 ?_
    refine jj_ic hG rfl cc_i3 ?_
    refine jj_cp hG 0 rfl rfl (Nat.le_of_ble_eq_true rfl) (by decide) (Nat.le_of_ble_eq_true rfl) rfl (st' := []) rfl (w := .int) (fun _ _ hw h k => pm_rcv_of moM_m (k_bytesAre base sa hw h k)) (fun x1 => ?_)
    refine jj_zeq hG (t := 333) rfl rfl ?_ ?_
    · refine jj_ic hG rfl cc_i0 ?_
      exact jj_riS hG rfl rfl rfl (k _ _ _)
    refine jjs hG rfl rfl ?_
    refine jj_gr hG (k := 149) rfl rfl rfl rfl ?_
    refine jj_bi hG rfl cc_b11 ?_
    refine jj_ia hG (k := 149) rfl rfl rfl (fun x2 => ?_)
    refine jjs hG rfl rfl ?_
    refine jj_ine hG (t := 333) rfl rfl ?_ ?_
    · refine jj_ic hG rfl cc_i0 ?_
      exact jj_riS hG rfl rfl rfl (k _ _ _)
    refine jjs hG rfl rfl ?_
    refine jj_bi hG rfl cc_b16 ?_
    refine jj_bi hG rfl cc_b24 ?_
    refine jj_cp hG 0 rfl rfl (Nat.le_of_ble_eq_true rfl) (by decide) (Nat.le_of_ble_eq_true rfl) rfl (st' := []) rfl (w := .int) (fun _ _ hw h k => pm_rcv_of moM_m (k_areZeros base sa hw h k)) (fun x3 => ?_)
    refine jj_zeq hG (t := 333) rfl rfl ?_ ?_
    · refine jj_ic hG rfl cc_i0 ?_
      exact jj_riS hG rfl rfl rfl (k _ _ _)
    refine jjs hG rfl rfl ?_
    refine jj_bi hG rfl cc_b24 ?_
    refine jj_ilt hG (t := 333) rfl rfl ?_ ?_
    · refine jj_ic hG rfl cc_i0 ?_
      exact jj_riS hG rfl rfl rfl (k _ _ _)
    refine jjs hG rfl rfl ?_
    refine jj_gi hG (k := 150) rfl rfl rfl rfl ?_
    refine jjs hG rfl rfl ?_
    refine jjs hG rfl rfl ?_
    refine jjs hG rfl rfl ?_
    refine jj_ieq hG (t := 335) rfl rfl ?_ ?_
    · refine jjs hG rfl rfl ?_
      refine jjs hG rfl rfl ?_
      refine jj_si hG rfl cc_s255 ?_
      refine jj_si hG rfl cc_s255 ?_
      refine jj_ic hG rfl cc_i0 ?_
      refine jj_ic hG rfl cc_i1 ?_
      refine jj_cp hG 0 rfl rfl (Nat.le_of_ble_eq_true rfl) (by decide) (Nat.le_of_ble_eq_true rfl) rfl (st' := []) rfl (w := .int) (fun _ _ hw h k => pm_rcv_of moM_m (k_bytesAre base sa hw h k)) (fun x4 => ?_)
      refine jj_zeq hG (t := 379) rfl rfl ?_ ?_
      · refine jj_ic hG rfl cc_i0 ?_
        exact jj_riS hG rfl rfl rfl (k _ _ _)
      refine jjs hG rfl rfl ?_
      refine jj_gr hG (k := 84) rfl rfl rfl rfl ?_
      refine jjs hG rfl rfl ?_
      refine jj_ba hG (k := 84) rfl rfl rfl (fun x5 => ?_)
      refine jj_zeq hG (t := 381) rfl rfl ?_ ?_
      · exact jj_wl hG [1, 2, 3, 4, 5, 6] rfl (b381 _ _ _ _ _ _ _)
      refine jjs hG rfl rfl ?_
      refine jjs hG rfl rfl ?_
      refine jj_bi hG rfl cc_b24 ?_
      refine jjs hG rfl rfl ?_
      refine jjs hG rfl rfl ?_
      refine jj_bi hG rfl cc_b40 ?_
      refine jjs hG rfl rfl ?_
      refine jj_cp hG 0 rfl rfl (Nat.le_of_ble_eq_true rfl) (by decide) (Nat.le_of_ble_eq_true rfl) rfl (st' := []) rfl (w := .int) (fun _ _ hw h k => pm_rcv_of moM_m (k_areZeros base sa hw h k)) (fun x6 => ?_)
      refine jj_zne hG (t := 381) rfl rfl ?_ ?_
      · exact jj_wl hG [1, 2, 3, 4, 5, 6] rfl (b381 _ _ _ _ _ _ _)
      refine jj_ic hG rfl cc_i0 ?_
      exact jj_riS hG rfl rfl rfl (k _ _ _)
    refine jj_ic hG rfl cc_i0 ?_
    exact jj_riS hG rfl rfl rfl (k _ _ _)
  have b254 : ∀ (a5 : Int32) (a6 : Int32) (u0 : Int32) (q : Nat → Nat) (t : moS) (kc ks : Nat), JJ C R base m G 254 [(0, .ref m), (1, .int p1), (2, .long p2), (5, .int a5), (6, .int a6)] [.int u0] q t kc ks (M_keysAreGood_b254 t p1 p2 a5 a6 u0) (some (r, tz)) := by
    intro a5 a6 u0 q t kc ks
    refine jjc hG rfl rfl (Nat.le_of_ble_eq_true rfl) ?_
    refine jjs hG rfl rfl ?_
    refine jj_gr hG (k := 84) rfl rfl rfl rfl ?_
    refine jjs hG rfl rfl ?_
    refine jj_ba hG (k := 84) rfl rfl rfl (fun x1 => ?_)
    refine jj_zeq hG (t := 271) rfl rfl ?_ ?_
    · refine jj_bi hG rfl cc_b20 ?_
      exact jj_wl hG [1, 2, 3, 4, 5, 0] rfl (b273 _ _ _ _ _ _ _ _)
    refine jj_bi hG rfl cc_b40 ?_
    refine jj_go hG (t := 273) rfl rfl ?_
    exact jj_wl hG [1, 2, 3, 4, 5, 0] rfl (b273 _ _ _ _ _ _ _ _)
  refine (show JJ C R base m G 0 [(0, .ref m), (1, .int p1), (2, .long p2)] [] q t kc ks (M_keysAreGood t p1 p2) (some (r, tz)) from ?_) hw h
  refine jjs hG rfl rfl ?_
  refine jj_ic hG rfl cc_i4 ?_
  refine jj_pi hG (k := 162) rfl rfl rfl rfl (fun s1 => ?_)
  refine jjs hG rfl rfl ?_
  refine jjs hG rfl rfl ?_
  refine jj_gi hG (k := 150) rfl rfl rfl rfl ?_
  refine jj_ic hG rfl cc_i4 ?_
  refine jjs hG rfl rfl ?_
  refine jj_bi hG rfl cc_b20 ?_
  refine jjc hG rfl rfl (by decide) ?_
  refine jj_pi hG (k := 163) rfl rfl rfl rfl (fun s2 => ?_)
  refine jjs hG rfl rfl ?_
  refine jj_gr hG (k := 79) rfl rfl rfl rfl ?_
  refine jjs hG rfl rfl ?_
  refine jj_ia hG (k := 79) rfl rfl rfl (fun x3 => ?_)
  refine jj_zne hG (t := 57) rfl rfl ?_ ?_
  · refine jjs hG rfl rfl ?_
    refine jj_bi hG rfl cc_b24 ?_
    refine jj_pi hG (k := 162) rfl rfl rfl rfl (fun s4 => ?_)
    refine jjs hG rfl rfl ?_
    refine jjc hG rfl rfl rfl ?_
    refine jj_gi hG (k := 163) rfl rfl rfl rfl ?_
    refine jj_ic hG rfl cc_i1 ?_
    refine jjs hG rfl rfl ?_
    refine jj_pi hG (k := 163) rfl rfl rfl rfl (fun s5 => ?_)
    refine jjs hG rfl rfl ?_
    refine jj_gr hG (k := 79) rfl rfl rfl rfl ?_
    refine jjs hG rfl rfl ?_
    refine jj_ia hG (k := 79) rfl rfl rfl (fun x6 => ?_)
    refine jj_ic hG rfl cc_i1 ?_
    refine jj_ine hG (t := 169) rfl rfl ?_ ?_
    · refine jjs hG rfl rfl ?_
      refine jjs hG rfl rfl ?_
      refine jjs hG rfl rfl ?_
      refine jj_gr hG (k := 149) rfl rfl rfl rfl ?_
      refine jj_bi hG rfl cc_b10 ?_
      refine jj_ia hG (k := 149) rfl rfl rfl (fun x7 => ?_)
      refine jj_cp hG 0 rfl rfl (Nat.le_of_ble_eq_true rfl) (by decide) (Nat.le_of_ble_eq_true rfl) rfl (st' := []) rfl (w := .int) (fun _ _ hw h k => pm_rcv_of moM_m (k_keyPlace base sa hw h k)) (fun x8 => ?_)
      refine jjc hG rfl rfl (Nat.le_of_ble_eq_true rfl) ?_
      refine jjs hG rfl rfl ?_
      refine jjs hG rfl rfl ?_
      refine jj_gr hG (k := 82) rfl rfl rfl rfl ?_
      refine jjs hG rfl rfl ?_
      refine jj_ia hG (k := 82) rfl rfl rfl (fun x9 => ?_)
      refine jj_ieq hG (t := 207) rfl rfl ?_ ?_
      · refine jj_ic hG rfl cc_i0 ?_
        exact jj_riS hG rfl rfl rfl (k _ _ _)
      refine jjs hG rfl rfl ?_
      refine jj_ic hG rfl cc_i4 ?_
      refine jjs hG rfl rfl ?_
      refine jjs hG rfl rfl ?_
      refine jjs hG rfl rfl ?_
      refine jjs hG rfl rfl ?_
      refine jj_cp hG 0 rfl rfl (Nat.le_of_ble_eq_true rfl) (by decide) (Nat.le_of_ble_eq_true rfl) rfl (st' := []) rfl (w := .int) (fun _ _ hw h k => pm_rcv_of moM_m (k_isGood base sa hw h k)) (fun x10 => ?_)
      refine jj_zne hG (t := 209) rfl rfl ?_ ?_
      · refine jj_ic hG rfl cc_i4 ?_
        refine jjs hG rfl rfl ?_
        refine jjs hG rfl rfl ?_
        refine jjs hG rfl rfl ?_
        refine jjs hG rfl rfl ?_
        refine jjc hG rfl rfl (Nat.le_of_ble_eq_true rfl) ?_
        refine jjs hG rfl rfl ?_
        refine jj_gr hG (k := 149) rfl rfl rfl rfl ?_
        refine jj_bi hG rfl cc_b8 ?_
        refine jj_ia hG (k := 149) rfl rfl rfl (fun x11 => ?_)
        refine jj_bi hG rfl cc_b8 ?_
        refine jjs hG rfl rfl ?_
        refine jjs hG rfl rfl ?_
        refine jj_gr hG (k := 149) rfl rfl rfl rfl ?_
        refine jj_bi hG rfl cc_b9 ?_
        refine jj_ia hG (k := 149) rfl rfl rfl (fun x12 => ?_)
        refine jjs hG rfl rfl ?_
        refine jjc hG rfl rfl (Nat.le_of_ble_eq_true rfl) ?_
        refine jjs hG rfl rfl ?_
        refine jj_gr hG (k := 84) rfl rfl rfl rfl ?_
        refine jjs hG rfl rfl ?_
        refine jj_ba hG (k := 84) rfl rfl rfl (fun x13 => ?_)
        refine jj_zeq hG (t := 252) rfl rfl ?_ ?_
        · refine jj_bi hG rfl cc_b16 ?_
          exact jj_wl hG [3, 4, 5, 1, 0] rfl (b254 _ _ _ _ _ _ _)
        refine jj_bi hG rfl cc_b20 ?_
        refine jj_go hG (t := 254) rfl rfl ?_
        exact jj_wl hG [3, 4, 5, 1, 0] rfl (b254 _ _ _ _ _ _ _)
      refine jj_ic hG rfl cc_i0 ?_
      exact jj_riS hG rfl rfl rfl (k _ _ _)
    refine jjs hG rfl rfl ?_
    refine jj_ic hG rfl cc_i4 ?_
    refine jj_si hG rfl cc_s255 ?_
    refine jj_si hG rfl cc_s255 ?_
    refine jj_ic hG rfl cc_i0 ?_
    refine jj_ic hG rfl cc_i2 ?_
    refine jj_cp hG 0 rfl rfl (Nat.le_of_ble_eq_true rfl) (by decide) (Nat.le_of_ble_eq_true rfl) rfl (st' := []) rfl (w := .int) (fun _ _ hw h k => pm_rcv_of moM_m (k_bytesAre base sa hw h k)) (fun x14 => ?_)
    refine jjc hG rfl rfl (Nat.le_of_ble_eq_true rfl) ?_
    refine jj_ic hG rfl cc_i0 ?_
    refine jjc hG rfl rfl (Nat.le_of_ble_eq_true rfl) ?_
    refine jj_lp (fun n => ?_)
    exact jj_wl hG [2, 3, 1, 0] rfl (b101 n _ _ _ _ _ _)
  refine jjs hG rfl rfl ?_
  refine jj_gr hG (k := 149) rfl rfl rfl rfl ?_
  refine jj_ic hG rfl cc_i4 ?_
  refine jj_ia hG (k := 149) rfl rfl rfl (fun x15 => ?_)
  refine jj_si hG rfl cc_s255 ?_
  refine jj_ine hG (t := 51) rfl rfl ?_ ?_
  · exact jj_wl hG [] rfl (b51 _ _ _ _)
  refine jjs hG rfl rfl ?_
  refine jj_gr hG (k := 149) rfl rfl rfl rfl ?_
  refine jj_ic hG rfl cc_i5 ?_
  refine jj_ia hG (k := 149) rfl rfl rfl (fun x16 => ?_)
  refine jj_si hG rfl cc_s255 ?_
  refine jj_ieq hG (t := 55) rfl rfl ?_ ?_
  · refine jj_ic hG rfl cc_i0 ?_
    exact jj_riS hG rfl rfl rfl (k _ _ _)
  exact jj_wl hG [] rfl (b51 _ _ _ _)
noncomputable def M_tally (t : moS) (p1 : Int32) (p2 : Int32) (p3 : Int32) : Option moS := Option.bind (rdI t 45 (((11 : Int32) * p1) + p2)) (fun x1 => (Option.bind (wrI t 45 (((11 : Int32) * p1) + p2) (x1 + p3)) (fun s2 => ((some s2)))))
set_option maxRecDepth 100000 in
set_option maxHeartbeats 4000000 in
theorem k_tally (base : Nat) (sa : Nat → Nat) {C : Nat × Nat} {R : pmM} {m : Nat} {q : Nat → Nat} {t tz : moS} {kc ks : Nat} {Rt : pmR} {p1 : Int32} {p2 : Int32} {p3 : Int32} (hw : mW C R base m q t kc ks) (h : M_tally t p1 p2 p3 = (some tz)) (k : mW C R base m q tz kc ks → Rt none (moM R m q tz) kc ks) : kP_Mo_tally base sa [.ref m, .int p1, .int p2, .int p3] (moM R m q t) kc ks Rt := by
  refine ⟨Nat.le_of_ble_eq_true rfl, fun G hG => ?_⟩
  refine (show JJ C R base m G 0 [(0, .ref m), (1, .int p1), (2, .int p2), (3, .int p3)] [] q t kc ks (M_tally t p1 p2 p3) (some tz) from ?_) hw h
  refine jjs hG rfl rfl ?_
  refine jj_gr hG (k := 45) rfl rfl rfl rfl ?_
  refine jj_bi hG rfl cc_b11 ?_
  refine jjs hG rfl rfl ?_
  refine jjs hG rfl rfl ?_
  refine jjs hG rfl rfl ?_
  refine jjs hG rfl rfl ?_
  refine jjc2 hG rfl rfl rfl rfl ?_
  refine jj_ia hG (k := 45) rfl rfl rfl (fun x1 => ?_)
  refine jjs hG rfl rfl ?_
  refine jjs hG rfl rfl ?_
  refine jj_is hG (k := 45) rfl rfl rfl (fun s2 => ?_)
  exact jj_rvS hG rfl rfl (k)
noncomputable def M_isEntry_b86 (t : moS) : Option (Int32 × moS) := (some ((0 : Int32), t))
noncomputable def M_isEntry_b210 (t : moS) : Option (Int32 × moS) := (some ((0 : Int32), t))
noncomputable def M_isEntry_s155 (t : moS) (a3 : Int64) (a5 : Int64) : Option ((Int64 × moS) ⊕ (Int32 × moS)) := if a5 = (0 : Int64) then ((xo (if (a3 &&& (a3 + (1 : Int64))) = (0 : Int64) then (if (M_isPrefix (moS.Z t 13) (0 : Int64) (moS.S t 15)) = 0 then ((M_isEntry_b210 t)) else ((some ((1 : Int32), t)))) else ((M_isEntry_b210 t))))) else (letS (moSS t 15 ((moS.S t 15) - (1 : Int32))) (fun s1 => ((some (.inl ((a5 >>> ((Int32.toInt64 (1 : Int32)) &&& 63)), s1))))))
noncomputable def M_isEntry_b155 (t : moS) (a3 : Int64) (a5 : Int64) : Option (Int32 × moS) := lp (fun x => M_isEntry_s155 x.2 a3 x.1) (a5, t)
noncomputable def M_isEntry (t : moS) (p1 : Int32) (p2 : Int32) : Option (Int32 × moS) := letS (moSS t 12 p1) (fun s1 => (letS (moSZ s1 14 (0 : Int64)) (fun s2 => (if p1 = (1 : Int32) then (Option.bind (M_highOf s2 149 p2 (1 : Int32)) (fun x9 => (letS (moSZ s2 13 x9) (fun s10 => (Option.bind (M_lowOf s10 149 p2 (1 : Int32)) (fun x11 => (letS (moSZ s10 14 x11) (fun s12 => (Option.bind (rdI s12 149 (p2 + (18 : Int32))) (fun x13 => (letS (moSS s12 15 x13) (fun s14 => (if (128 : Int32) < (moS.S s14 15) then ((M_isEntry_b86 s14)) else (if (M_isPrefix (moS.Z s14 13) (moS.Z s14 14) (moS.S s14 15)) = 0 then ((M_isEntry_b86 s14)) else ((some ((1 : Int32), s14))))))))))))))))) else (Option.bind (rdI s2 149 p2) (fun x3 => (if x3 = 0 then (Option.bind (rdI s2 149 (p2 + (1 : Int32))) (fun x4 => (if x4 = (2 : Int32) then (Option.bind (M_highOf s2 149 (p2 + (4 : Int32)) (0 : Int32)) (fun x5 => (letS (moSZ s2 13 x5) (fun s6 => (Option.bind (M_number4 s6 149 (p2 + (8 : Int32))) (fun x7 => (letS (moSS s6 15 (32 : Int32)) (fun s8 => ((M_isEntry_b155 s8 ((x7 ^^^ ((-1) : Int64)) &&& (4294967295 : Int64)) ((x7 ^^^ ((-1) : Int64)) &&& (4294967295 : Int64)))))))))))) else ((some ((0 : Int32), s2)))))) else ((some ((0 : Int32), s2))))))))))
set_option maxRecDepth 100000 in
set_option maxHeartbeats 4000000 in
theorem k_isEntry (base : Nat) (sa : Nat → Nat) {C : Nat × Nat} {R : pmM} {m : Nat} {q : Nat → Nat} {t tz : moS} {kc ks : Nat} {Rt : pmR} {p1 : Int32} {p2 : Int32} {r : Int32} (hw : mW C R base m q t kc ks) (h : M_isEntry t p1 p2 = (some (r, tz))) (k : mW C R base m q tz kc ks → Rt (some (.int r)) (moM R m q tz) kc ks) : kP_Mo_isEntry base sa [.ref m, .int p1, .int p2] (moM R m q t) kc ks Rt := by
  refine ⟨Nat.le_of_ble_eq_true rfl, fun G hG => ?_⟩
  have b86 : ∀ (t : moS), JJ C R base m G 86 [] [] q t kc ks (M_isEntry_b86 t) (some (r, tz)) := by
    intro t
    refine jj_ic hG rfl cc_i0 ?_
    exact jj_riS hG rfl rfl rfl k
  have b210 : ∀ (t : moS), JJ C R base m G 210 [] [] q t kc ks (M_isEntry_b210 t) (some (r, tz)) := by
    intro t
    refine jj_ic hG rfl cc_i0 ?_
    exact jj_riS hG rfl rfl rfl k
  have b155 : ∀ (a3 : Int64) (n : Nat) (a5 : Int64) (t : moS), JJ C R base m G 155 [(0, .ref m), (3, .long a3), (5, .long a5)] [] q t kc ks (lpN (fun x => M_isEntry_s155 x.2 a3 x.1) n (a5, t)) (some (r, tz)) := by
    intro a3 n
    induction n with
    | zero => intro a5 t; exact jj_lp0
    | succ n ih155 =>
      intro a5 t
      refine jj_lpS (fun y155 c155 => ?_)
      refine (show JJ C R base m G 155 [(0, .ref m), (3, .long a3), (5, .long a5)] [] q t kc ks (M_isEntry_s155 t a3 a5) (some y155) from ?_)
      refine jjs hG rfl rfl ?_
      refine jj_lc hG (c := 0) (v := 0) rfl rfl ?_
      refine jjs hG rfl rfl ?_
      refine jj_leq hG (t := 181) rfl rfl ?_ ?_
      · refine jj_exit c155 ?_
        refine jjs hG rfl rfl ?_
        refine jjs hG rfl rfl ?_
        refine jj_lc hG (c := 1) (v := 1) rfl rfl ?_
        refine jjs hG rfl rfl ?_
        refine jjs hG rfl rfl ?_
        refine jj_lc hG (c := 0) (v := 0) rfl rfl ?_
        refine jjs hG rfl rfl ?_
        refine jj_lne hG (t := 210) rfl rfl ?_ ?_
        · exact jj_wl hG [] rfl (b210 _)
        refine jjs hG rfl rfl ?_
        refine jj_gz hG (k := 13) rfl rfl rfl rfl ?_
        refine jj_lc hG (c := 0) (v := 0) rfl rfl ?_
        refine jjs hG rfl rfl ?_
        refine jj_gi hG (k := 15) rfl rfl rfl rfl ?_
        refine jj_ct hG 2 rfl rfl (Nat.le_of_ble_eq_true rfl) (by decide) (Nat.le_of_ble_eq_true rfl) rfl (st' := []) rfl (v := .int (M_isPrefix (moS.Z t 13) (0 : Int64) (moS.S t 15))) (fun _ hw k => k_isPrefix base sa hw rfl k) ?_
        refine jj_zeq hG (t := 210) rfl rfl ?_ ?_
        · exact jj_wl hG [] rfl (b210 _)
        refine jj_ic hG rfl cc_i1 ?_
        refine jj_go hG (t := 211) rfl rfl ?_
        exact jj_riS hG rfl rfl rfl k
      refine jjs hG rfl rfl ?_
      refine jjc hG rfl rfl rfl ?_
      refine jj_gi hG (k := 15) rfl rfl rfl rfl ?_
      refine jj_ic hG rfl cc_i1 ?_
      refine jjs hG rfl rfl ?_
      refine jj_pi hG (k := 15) rfl rfl rfl rfl (fun s1 => ?_)
      refine jjs hG rfl rfl ?_
      refine jj_ic hG rfl cc_i1 ?_
      refine jjs hG rfl rfl ?_
      refine jjc hG rfl rfl (Nat.le_of_ble_eq_true rfl) ?_
      refine jj_go hG (t := 155) rfl rfl ?_
      exact jj_back c155 (jj_wl hG [1, 2, 0] rfl (ih155 _ _))
  refine (show JJ C R base m G 0 [(0, .ref m), (1, .int p1), (2, .int p2)] [] q t kc ks (M_isEntry t p1 p2) (some (r, tz)) from ?_) hw h
  refine jjs hG rfl rfl ?_
  refine jjs hG rfl rfl ?_
  refine jj_pi hG (k := 12) rfl rfl rfl rfl (fun s1 => ?_)
  refine jjs hG rfl rfl ?_
  refine jj_lc hG (c := 0) (v := 0) rfl rfl ?_
  refine jj_pz hG (k := 14) rfl rfl rfl rfl (fun s2 => ?_)
  refine jjs hG rfl rfl ?_
  refine jj_ic hG rfl cc_i1 ?_
  refine jj_ine hG (t := 88) rfl rfl ?_ ?_
  · refine jjs hG rfl rfl ?_
    refine jj_gr hG (k := 149) rfl rfl rfl rfl ?_
    refine jjs hG rfl rfl ?_
    refine jj_ia hG (k := 149) rfl rfl rfl (fun x3 => ?_)
    refine jj_zne hG (t := 109) rfl rfl ?_ ?_
    · refine jj_ic hG rfl cc_i0 ?_
      exact jj_riS hG rfl rfl rfl k
    refine jjs hG rfl rfl ?_
    refine jj_gr hG (k := 149) rfl rfl rfl rfl ?_
    refine jjs hG rfl rfl ?_
    refine jj_ic hG rfl cc_i1 ?_
    refine jjs hG rfl rfl ?_
    refine jj_ia hG (k := 149) rfl rfl rfl (fun x4 => ?_)
    refine jj_ic hG rfl cc_i2 ?_
    refine jj_ieq hG (t := 111) rfl rfl ?_ ?_
    · refine jjs hG rfl rfl ?_
      refine jjs hG rfl rfl ?_
      refine jj_gr hG (k := 149) rfl rfl rfl rfl ?_
      refine jjs hG rfl rfl ?_
      refine jj_ic hG rfl cc_i4 ?_
      refine jjs hG rfl rfl ?_
      refine jj_ic hG rfl cc_i0 ?_
      refine jj_cp hG 2 rfl rfl (Nat.le_of_ble_eq_true rfl) (by decide) (Nat.le_of_ble_eq_true rfl) rfl (st' := [.ref m]) rfl (w := .long) (fun _ _ hw h k => k_highOf base sa rfl rfl hw h k) (fun x5 => ?_)
      refine jj_pz hG (k := 13) rfl rfl rfl rfl (fun s6 => ?_)
      refine jjs hG rfl rfl ?_
      refine jj_gr hG (k := 149) rfl rfl rfl rfl ?_
      refine jjs hG rfl rfl ?_
      refine jj_bi hG rfl cc_b8 ?_
      refine jjs hG rfl rfl ?_
      refine jj_cp hG 2 rfl rfl (Nat.le_of_ble_eq_true rfl) (by decide) (Nat.le_of_ble_eq_true rfl) rfl (st' := []) rfl (w := .long) (fun _ _ hw h k => k_number4 base sa rfl rfl hw h k) (fun x7 => ?_)
      refine jj_l2 hG (v := ((-1) : Int64)) rfl rfl ?_
      refine jjs hG rfl rfl ?_
      refine jj_l2 hG (v := (4294967295 : Int64)) rfl rfl ?_
      refine jjs hG rfl rfl ?_
      refine jjc hG rfl rfl (Nat.le_of_ble_eq_true rfl) ?_
      refine jjs hG rfl rfl ?_
      refine jj_bi hG rfl cc_b32 ?_
      refine jj_pi hG (k := 15) rfl rfl rfl rfl (fun s8 => ?_)
      refine jjs hG rfl rfl ?_
      refine jjc hG rfl rfl (Nat.le_of_ble_eq_true rfl) ?_
      refine jj_lp (fun n => ?_)
      exact jj_wl hG [2, 1, 0] rfl (b155 _ n _ _)
    refine jj_ic hG rfl cc_i0 ?_
    exact jj_riS hG rfl rfl rfl k
  refine jjs hG rfl rfl ?_
  refine jjs hG rfl rfl ?_
  refine jj_gr hG (k := 149) rfl rfl rfl rfl ?_
  refine jjs hG rfl rfl ?_
  refine jj_ic hG rfl cc_i1 ?_
  refine jj_cp hG 2 rfl rfl (Nat.le_of_ble_eq_true rfl) (by decide) (Nat.le_of_ble_eq_true rfl) rfl (st' := [.ref m]) rfl (w := .long) (fun _ _ hw h k => k_highOf base sa rfl rfl hw h k) (fun x9 => ?_)
  refine jj_pz hG (k := 13) rfl rfl rfl rfl (fun s10 => ?_)
  refine jjs hG rfl rfl ?_
  refine jjs hG rfl rfl ?_
  refine jj_gr hG (k := 149) rfl rfl rfl rfl ?_
  refine jjs hG rfl rfl ?_
  refine jj_ic hG rfl cc_i1 ?_
  refine jj_cp hG 2 rfl rfl (Nat.le_of_ble_eq_true rfl) (by decide) (Nat.le_of_ble_eq_true rfl) rfl (st' := [.ref m]) rfl (w := .long) (fun _ _ hw h k => k_lowOf base sa rfl rfl hw h k) (fun x11 => ?_)
  refine jj_pz hG (k := 14) rfl rfl rfl rfl (fun s12 => ?_)
  refine jjs hG rfl rfl ?_
  refine jjs hG rfl rfl ?_
  refine jj_gr hG (k := 149) rfl rfl rfl rfl ?_
  refine jjs hG rfl rfl ?_
  refine jj_bi hG rfl cc_b18 ?_
  refine jjs hG rfl rfl ?_
  refine jj_ia hG (k := 149) rfl rfl rfl (fun x13 => ?_)
  refine jj_pi hG (k := 15) rfl rfl rfl rfl (fun s14 => ?_)
  refine jjs hG rfl rfl ?_
  refine jj_gi hG (k := 15) rfl rfl rfl rfl ?_
  refine jj_si hG rfl cc_s128 ?_
  refine jj_igt hG (t := 86) rfl rfl ?_ ?_
  · exact jj_wl hG [] rfl (b86 _)
  refine jjs hG rfl rfl ?_
  refine jj_gz hG (k := 13) rfl rfl rfl rfl ?_
  refine jjs hG rfl rfl ?_
  refine jj_gz hG (k := 14) rfl rfl rfl rfl ?_
  refine jjs hG rfl rfl ?_
  refine jj_gi hG (k := 15) rfl rfl rfl rfl ?_
  refine jj_ct hG 2 rfl rfl (Nat.le_of_ble_eq_true rfl) (by decide) (Nat.le_of_ble_eq_true rfl) rfl (st' := []) rfl (v := .int (M_isPrefix (moS.Z s14 13) (moS.Z s14 14) (moS.S s14 15))) (fun _ hw k => k_isPrefix base sa hw rfl k) ?_
  refine jj_zeq hG (t := 86) rfl rfl ?_ ?_
  · exact jj_wl hG [] rfl (b86 _)
  refine jj_ic hG rfl cc_i1 ?_
  refine jj_go hG (t := 87) rfl rfl ?_
  exact jj_riS hG rfl rfl rfl k
