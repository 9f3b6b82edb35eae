/-! The model as functions, by program: takeAll .. asksForAll -/
noncomputable def M_takeAll_b499 (t : moS) (p1 : Int32) (p2 : Int32) (p3 : Int64) (p5 : Int64) (a7 : Int32) (a8 : Int32) (a9 : Int32) (a10 : Int64) (a12 : Int64) (a14 : Int32) : Option ((Int64 × Int64 × Int32 × moS) ⊕ moS) := (some (.inl (a10, a12, (a14 + (1 : Int32)), t)))
noncomputable def M_takeAll_b491 (t : moS) (p1 : Int32) (p2 : Int32) (p3 : Int64) (p5 : Int64) (a7 : Int32) (a8 : Int32) (a9 : Int32) (a10 : Int64) (a12 : Int64) (a14 : Int32) (a21 : Int32) (u1 : Int32) (u2 : Int32) (u3 : Int32) (u4 : Int32) : Option ((Int64 × Int64 × Int32 × moS) ⊕ moS) := Option.bind (M_learn t u1 u2 u3 u4 a21 p3 p5) (fun s1 => ((M_takeAll_b499 s1 p1 p2 p3 p5 a7 a8 a9 a10 a12 a14)))
noncomputable def M_takeAll_b469 (t : moS) (p1 : Int32) (p2 : Int32) (p3 : Int64) (p5 : Int64) (a7 : Int32) (a8 : Int32) (a9 : Int32) (a10 : Int64) (a12 : Int64) (a14 : Int32) (a19 : Int32) (a21 : Int32) (u1 : Int64) : Option ((Int64 × Int64 × Int32 × moS) ⊕ moS) := letS (moSZ t 165 u1) (fun s1 => (if (16 : Int32) < a19 then ((M_takeAll_b491 s1 p1 p2 p3 p5 a7 a8 a9 a10 a12 a14 a21 a7 p1 p2 (16 : Int32))) else ((M_takeAll_b491 s1 p1 p2 p3 p5 a7 a8 a9 a10 a12 a14 a21 a7 p1 p2 a19))))
noncomputable def M_takeAll_b453 (t : moS) (p1 : Int32) (p2 : Int32) (p3 : Int64) (p5 : Int64) (a7 : Int32) (a8 : Int32) (a9 : Int32) (a10 : Int64) (a12 : Int64) (a14 : Int32) (a19 : Int32) (a20 : Int32) (a21 : Int32) (u1 : Int64) : Option ((Int64 × Int64 × Int32 × moS) ⊕ moS) := letS (moSZ t 164 u1) (fun s1 => (if a20 = 0 then ((M_takeAll_b469 s1 p1 p2 p3 p5 a7 a8 a9 a10 a12 a14 a19 a21 a12)) else ((M_takeAll_b469 s1 p1 p2 p3 p5 a7 a8 a9 a10 a12 a14 a19 a21 p5))))
noncomputable def M_takeAll_b439 (t : moS) (p1 : Int32) (p2 : Int32) (p3 : Int64) (p5 : Int64) (a7 : Int32) (a8 : Int32) (a9 : Int32) (a10 : Int64) (a12 : Int64) (a14 : Int32) (a19 : Int32) (a20 : Int32) (u0 : Int32) : Option ((Int64 × Int64 × Int32 × moS) ⊕ moS) := if a20 = 0 then ((M_takeAll_b453 t p1 p2 p3 p5 a7 a8 a9 a10 a12 a14 a19 a20 u0 a10)) else ((M_takeAll_b453 t p1 p2 p3 p5 a7 a8 a9 a10 a12 a14 a19 a20 u0 p3))
noncomputable def M_takeAll_b384 (t : moS) (p1 : Int32) (p2 : Int32) (p3 : Int64) (p5 : Int64) (a7 : Int32) (a8 : Int32) (a9 : Int32) (a10 : Int64) (a12 : Int64) (a14 : Int32) (a15 : Int32) (a19 : Int32) (u0 : Int32) : Option ((Int64 × Int64 × Int32 × moS) ⊕ moS) := if p2 = 0 then (Option.bind (rdI t 149 (a15 + (2 : Int32))) (fun x3 => (Option.bind (rdI t 149 (a15 + (3 : Int32))) (fun x4 => ((M_takeAll_b439 t p1 p2 p3 p5 a7 a8 a9 a10 a12 a14 a19 u0 ((x3 <<< ((8 : Int32) &&& 31)) ||| x4))))))) else (Option.bind (rdI t 149 (a15 + (16 : Int32))) (fun x1 => (Option.bind (rdI t 149 (a15 + (17 : Int32))) (fun x2 => ((M_takeAll_b439 t p1 p2 p3 p5 a7 a8 a9 a10 a12 a14 a19 u0 ((x1 <<< ((8 : Int32) &&& 31)) ||| x2)))))))
noncomputable def M_takeAll_b379 (t : moS) (p1 : Int32) (p2 : Int32) (p3 : Int64) (p5 : Int64) (a7 : Int32) (a8 : Int32) (a9 : Int32) (a10 : Int64) (a12 : Int64) (a14 : Int32) (a15 : Int32) (a19 : Int32) : Option ((Int64 × Int64 × Int32 × moS) ⊕ moS) := (M_takeAll_b384 t p1 p2 p3 p5 a7 a8 a9 a10 a12 a14 a15 a19 (1 : Int32))
noncomputable def M_takeAll_b348 (t : moS) (p1 : Int32) (p2 : Int32) (p3 : Int64) (p5 : Int64) (a7 : Int32) (a8 : Int32) (a9 : Int32) (a10 : Int64) (a12 : Int64) (a14 : Int32) (a15 : Int32) (a19 : Int32) : Option ((Int64 × Int64 × Int32 × moS) ⊕ moS) := Option.bind (rdJ t 76 a9) (fun x1 => (Option.bind (rdJ t 77 a9) (fun x2 => (Option.bind (rdI t 78 a9) (fun x3 => (if (M_covers x1 x2 x3 a10 a12) = 0 then ((M_takeAll_b379 t p1 p2 p3 p5 a7 a8 a9 a10 a12 a14 a15 a19)) else ((M_takeAll_b384 t p1 p2 p3 p5 a7 a8 a9 a10 a12 a14 a15 a19 (0 : Int32)))))))))
noncomputable def M_takeAll_b322 (t : moS) (p1 : Int32) (p2 : Int32) (p3 : Int64) (p5 : Int64) (a7 : Int32) (a8 : Int32) (a9 : Int32) (a10 : Int64) (a12 : Int64) (a14 : Int32) (a15 : Int32) (a19 : Int32) : Option ((Int64 × Int64 × Int32 × moS) ⊕ moS) := Option.bind (rdJ t 76 a9) (fun x1 => (if a10 = x1 then (Option.bind (rdJ t 77 a9) (fun x2 => (if a12 = x2 then ((M_takeAll_b379 t p1 p2 p3 p5 a7 a8 a9 a10 a12 a14 a15 a19)) else ((M_takeAll_b348 t p1 p2 p3 p5 a7 a8 a9 a10 a12 a14 a15 a19))))) else ((M_takeAll_b348 t p1 p2 p3 p5 a7 a8 a9 a10 a12 a14 a15 a19))))
noncomputable def M_takeAll_b308 (t : moS) (p1 : Int32) (p2 : Int32) (p3 : Int64) (p5 : Int64) (a7 : Int32) (a8 : Int32) (a9 : Int32) (a10 : Int64) (a12 : Int64) (a14 : Int32) (a15 : Int32) (a19 : Int32) : Option ((Int64 × Int64 × Int32 × moS) ⊕ moS) := if a10 = (0 : Int64) then (if a12 = (0 : Int64) then ((M_takeAll_b379 t p1 p2 p3 p5 a7 a8 a9 a10 a12 a14 a15 a19)) else ((M_takeAll_b322 t p1 p2 p3 p5 a7 a8 a9 a10 a12 a14 a15 a19))) else ((M_takeAll_b322 t p1 p2 p3 p5 a7 a8 a9 a10 a12 a14 a15 a19))
noncomputable def M_takeAll_b236 (t : moS) (p1 : Int32) (p2 : Int32) (p3 : Int64) (p5 : Int64) (a7 : Int32) (a8 : Int32) (a9 : Int32) (a10 : Int64) (a12 : Int64) (a14 : Int32) (a15 : Int32) (a16 : Int64) (u0 : Int32) : Option ((Int64 × Int64 × Int32 × moS) ⊕ moS) := if u0 = 0 then (Option.bind (M_tally t a7 (4 : Int32) (1 : Int32)) (fun s4 => ((M_takeAll_b499 s4 p1 p2 p3 p5 a7 a8 a9 a10 a12 a14)))) else (Option.bind (rdI t 72 p1) (fun x1 => (Option.bind (M_offsetFor t a7 (0 : Int32) a8 p2 (moS.Z t 13) (moS.Z t 14) (moS.S t 15)) (fun x2 => (if p2 = 0 then (Option.bind (M_highOf t 149 (a15 + (12 : Int32)) (0 : Int32)) (fun x3 => ((M_takeAll_b308 t p1 p2 p3 p5 a7 a8 a9 x3 a12 a14 a15 (((Int64.toInt32 a16) + x1) + x2))))) else ((M_takeAll_b308 t p1 p2 p3 p5 a7 a8 a9 a10 a12 a14 a15 (((Int64.toInt32 a16) + x1) + x2))))))))
noncomputable def M_takeAll_b235 (t : moS) (p1 : Int32) (p2 : Int32) (p3 : Int64) (p5 : Int64) (a7 : Int32) (a8 : Int32) (a9 : Int32) (a10 : Int64) (a12 : Int64) (a14 : Int32) (a15 : Int32) (a16 : Int64) : Option ((Int64 × Int64 × Int32 × moS) ⊕ moS) := (M_takeAll_b236 t p1 p2 p3 p5 a7 a8 a9 a10 a12 a14 a15 a16 (0 : Int32))
noncomputable def M_takeAll_b176 (t : moS) (p1 : Int32) (p2 : Int32) (p3 : Int64) (p5 : Int64) (a7 : Int32) (a8 : Int32) (a9 : Int32) (a10 : Int64) (a12 : Int64) (a14 : Int32) (a15 : Int32) (a16 : Int64) (u0 : Int32) : Option ((Int64 × Int64 × Int32 × moS) ⊕ moS) := if u0 = 0 then ((M_takeAll_b235 t p1 p2 p3 p5 a7 a8 a9 a10 a12 a14 a15 a16)) else (Option.bind (M_filterAllows t a7 (0 : Int32) p2 (moS.Z t 13) (moS.Z t 14) (moS.S t 15)) (fun x1 => (if x1 = 0 then ((M_takeAll_b235 t p1 p2 p3 p5 a7 a8 a9 a10 a12 a14 a15 a16)) else (Option.bind (M_distributeAllows t a7 (0 : Int32) a8 p2 (moS.Z t 13) (moS.Z t 14) (moS.S t 15)) (fun x2 => (if x2 = 0 then ((M_takeAll_b235 t p1 p2 p3 p5 a7 a8 a9 a10 a12 a14 a15 a16)) else ((M_takeAll_b236 t p1 p2 p3 p5 a7 a8 a9 a10 a12 a14 a15 a16 (1 : Int32)))))))))
noncomputable def M_takeAll_b175 (t : moS) (p1 : Int32) (p2 : Int32) (p3 : Int64) (p5 : Int64) (a7 : Int32) (a8 : Int32) (a9 : Int32) (a10 : Int64) (a12 : Int64) (a14 : Int32) (a15 : Int32) (a16 : Int64) : Option ((Int64 × Int64 × Int32 × moS) ⊕ moS) := (M_takeAll_b176 t p1 p2 p3 p5 a7 a8 a9 a10 a12 a14 a15 a16 (0 : Int32))
noncomputable def M_takeAll_b128 (t : moS) (p1 : Int32) (p2 : Int32) (p3 : Int64) (p5 : Int64) (a7 : Int32) (a8 : Int32) (a9 : Int32) (a10 : Int64) (a12 : Int64) (a14 : Int32) (a15 : Int32) (u0 : Int64) : Option ((Int64 × Int64 × Int32 × moS) ⊕ moS) := bn2 (M_isEntry t p2 a15) (fun x2 s1 => (if x2 = 0 then ((M_takeAll_b175 s1 p1 p2 p3 p5 a7 a8 a9 a10 a12 a14 a15 u0)) else (if u0 < (1 : Int64) then ((M_takeAll_b175 s1 p1 p2 p3 p5 a7 a8 a9 a10 a12 a14 a15 u0)) else (if (16 : Int64) < u0 then ((M_takeAll_b175 s1 p1 p2 p3 p5 a7 a8 a9 a10 a12 a14 a15 u0)) else (if (M_isForbidden p2 (moS.Z s1 13) (moS.S s1 15)) = 0 then ((M_takeAll_b176 s1 p1 p2 p3 p5 a7 a8 a9 a10 a12 a14 a15 u0 (1 : Int32))) else ((M_takeAll_b175 s1 p1 p2 p3 p5 a7 a8 a9 a10 a12 a14 a15 u0)))))))
noncomputable def M_takeAll_b98 (t : moS) (p1 : Int32) (p2 : Int32) (p3 : Int64) (p5 : Int64) (a7 : Int32) (a8 : Int32) (a9 : Int32) (a10 : Int64) (a12 : Int64) (a14 : Int32) (a15 : Int32) : Option ((Int64 × Int64 × Int32 × moS) ⊕ moS) := if p2 = 0 then (Option.bind (M_number4 t 149 (a15 + (16 : Int32))) (fun x2 => ((M_takeAll_b128 t p1 p2 p3 p5 a7 a8 a9 a10 a12 a14 a15 x2)))) else (Option.bind (rdI t 149 (a15 + (19 : Int32))) (fun x1 => ((M_takeAll_b128 t p1 p2 p3 p5 a7 a8 a9 a10 a12 a14 a15 (Int32.toInt64 x1)))))
noncomputable def M_takeAll_s29 (t : moS) (p1 : Int32) (p2 : Int32) (p3 : Int64) (p5 : Int64) (a7 : Int32) (a8 : Int32) (a9 : Int32) (a10 : Int64) (a12 : Int64) (a14 : Int32) : Option ((Int64 × Int64 × Int32 × moS) ⊕ moS) := if a14 < (moS.S t 163) then (if p2 = (1 : Int32) then (Option.bind (rdI t 149 (((moS.S t 162) + ((20 : Int32) * a14)) + (19 : Int32))) (fun x1 => (if x1 = (255 : Int32) then (Option.bind (M_highOf t 149 ((moS.S t 162) + ((20 : Int32) * a14)) (1 : Int32)) (fun x2 => (Option.bind (M_lowOf t 149 ((moS.S t 162) + ((20 : Int32) * a14)) (1 : Int32)) (fun x3 => ((M_takeAll_b499 t p1 p2 p3 p5 a7 a8 a9 x2 x3 a14)))))) else ((M_takeAll_b98 t p1 p2 p3 p5 a7 a8 a9 a10 a12 a14 ((moS.S t 162) + ((20 : Int32) * a14))))))) else ((M_takeAll_b98 t p1 p2 p3 p5 a7 a8 a9 a10 a12 a14 ((moS.S t 162) + ((20 : Int32) * a14))))) else ((xo ((some t))))
noncomputable def M_takeAll_b29 (t : moS) (p1 : Int32) (p2 : Int32) (p3 : Int64) (p5 : Int64) (a7 : Int32) (a8 : Int32) (a9 : Int32) (a10 : Int64) (a12 : Int64) (a14 : Int32) : Option moS := lp (fun x => M_takeAll_s29 x.2.2.2 p1 p2 p3 p5 a7 a8 a9 x.1 x.2.1 x.2.2.1) (a10, a12, a14, t)
noncomputable def M_takeAll (t : moS) (p1 : Int32) (p2 : Int32) (p3 : Int64) (p5 : Int64) : Option moS := Option.bind (rdI t 71 p1) (fun x1 => ((M_takeAll_b29 t p1 p2 p3 p5 (p1 / (4 : Int32)) x1 (((2 : Int32) * p1) + p2) (0 : Int64) (0 : Int64) (0 : Int32))))
set_option maxRecDepth 100000 in
set_option maxHeartbeats 4000000 in
theorem k_takeAll (base : Nat) (sa : Nat → Nat) {C : Nat × Nat} {R : pmM} {m : Nat} {q : Nat → Nat} {t tz : moS} {kc ks : Nat} {Rt : pmR} {p1 : Int32} {p2 : Int32} {p3 : Int64} {p5 : Int64} (hw : mW C R base m q t kc ks) (h : M_takeAll t p1 p2 p3 p5 = (some tz)) (k : mW C R base m q tz kc ks → Rt none (moM R m q tz) kc ks) : kP_Mo_takeAll base sa [.ref m, .int p1, .int p2, .long p3, .long p5] (moM R m q t) kc ks Rt := by
  refine ⟨Nat.le_of_ble_eq_true rfl, fun G hG => ?_⟩
  have b29 : ∀ (a7 : Int32) (a8 : Int32) (a9 : Int32) (n : Nat) (a10 : Int64) (a12 : Int64) (a14 : Int32) (t : moS), JJ C R base m G 29 [(0, .ref m), (1, .int p1), (2, .int p2), (3, .long p3), (5, .long p5), (7, .int a7), (8, .int a8), (9, .int a9), (10, .long a10), (12, .long a12), (14, .int a14)] [] q t kc ks (lpN (fun x => M_takeAll_s29 x.2.2.2 p1 p2 p3 p5 a7 a8 a9 x.1 x.2.1 x.2.2.1) n (a10, a12, a14, t)) (some tz) := by
    intro a7 a8 a9 n
    induction n with
    | zero => intro a10 a12 a14 t; exact jj_lp0
    | succ n ih29 =>
      intro a10 a12 a14 t
      refine jj_lpS (fun y29 c29 => ?_)
      have b499 : ∀ (a10 : Int64) (a12 : Int64) (a14 : Int32) (t : moS), JJ C R base m G 499 [(0, .ref m), (1, .int p1), (2, .int p2), (3, .long p3), (5, .long p5), (7, .int a7), (8, .int a8), (9, .int a9), (10, .long a10), (12, .long a12), (14, .int a14)] [] q t kc ks (M_takeAll_b499 t p1 p2 p3 p5 a7 a8 a9 a10 a12 a14) (some y29) := by
        intro a10 a12 a14 t
        refine jj_inc hG rfl (Nat.le_of_ble_eq_true rfl) rfl cc_i1 ?_
        refine jj_go hG (t := 29) rfl rfl ?_
        exact jj_back c29 (jj_wl hG [1, 2, 3, 4, 5, 6, 7, 8, 9, 10, 0] rfl (ih29 _ _ _ _))
      have b491 : ∀ (a10 : Int64) (a12 : Int64) (a14 : Int32) (a21 : Int32) (u1 : Int32) (u2 : Int32) (u3 : Int32) (u4 : Int32) (t : moS), JJ C R base m G 491 [(0, .ref m), (1, .int p1), (2, .int p2), (3, .long p3), (5, .long p5), (7, .int a7), (8, .int a8), (9, .int a9), (10, .long a10), (12, .long a12), (14, .int a14), (21, .int a21)] [.int u4, .int u3, .int u2, .int u1, .ref m] q t kc ks (M_takeAll_b491 t p1 p2 p3 p5 a7 a8 a9 a10 a12 a14 a21 u1 u2 u3 u4) (some y29) := by
        intro a10 a12 a14 a21 u1 u2 u3 u4 t
        refine jjs hG rfl rfl ?_
        refine jjs hG rfl rfl ?_
        refine jjs hG rfl rfl ?_
        refine jj_cv hG 0 rfl rfl (Nat.le_of_ble_eq_true rfl) (by decide) (Nat.le_of_ble_eq_true rfl) rfl (st' := []) rfl (fun _ _ hw h k => pm_rcv_of moM_m (k_learn base sa hw h k)) (fun s1 => ?_)
        exact jj_wl hG [0, 1, 2, 3, 4, 5, 6, 7, 8, 9, 10] rfl (b499 _ _ _ _)
      have b469 : ∀ (a10 : Int64) (a12 : Int64) (a14 : Int32) (a19 : Int32) (a21 : Int32) (u1 : Int64) (t : moS), JJ C R base m G 469 [(0, .ref m), (1, .int p1), (2, .int p2), (3, .long p3), (5, .long p5), (7, .int a7), (8, .int a8), (9, .int a9), (10, .long a10), (12, .long a12), (14, .int a14), (19, .int a19), (21, .int a21)] [.long u1, .ref m] q t kc ks (M_takeAll_b469 t p1 p2 p3 p5 a7 a8 a9 a10 a12 a14 a19 a21 u1) (some y29) := by
        intro a10 a12 a14 a19 a21 u1 t
        refine jj_pz hG (k := 165) rfl rfl rfl rfl (fun s1 => ?_)
        refine jjs hG rfl rfl ?_
        refine jjs hG rfl rfl ?_
        refine jjs hG rfl rfl ?_
        refine jjs hG rfl rfl ?_
        refine jjs hG rfl rfl ?_
        refine jj_bi hG rfl cc_b16 ?_
        refine jj_ile hG (t := 489) rfl rfl ?_ ?_
        · refine jjs hG rfl rfl ?_
          exact jj_wl hG [0, 1, 2, 3, 4, 5, 6, 7, 8, 9, 10, 12] rfl (b491 _ _ _ _ _ _ _ _ _)
        refine jj_bi hG rfl cc_b16 ?_
        refine jj_go hG (t := 491) rfl rfl ?_
        exact jj_wl hG [0, 1, 2, 3, 4, 5, 6, 7, 8, 9, 10, 12] rfl (b491 _ _ _ _ _ _ _ _ _)
      have b453 : ∀ (a10 : Int64) (a12 : Int64) (a14 : Int32) (a19 : Int32) (a20 : Int32) (a21 : Int32) (u1 : Int64) (t : moS), JJ C R base m G 453 [(0, .ref m), (1, .int p1), (2, .int p2), (3, .long p3), (5, .long p5), (7, .int a7), (8, .int a8), (9, .int a9), (10, .long a10), (12, .long a12), (14, .int a14), (19, .int a19), (20, .int a20), (21, .int a21)] [.long u1, .ref m] q t kc ks (M_takeAll_b453 t p1 p2 p3 p5 a7 a8 a9 a10 a12 a14 a19 a20 a21 u1) (some y29) := by
        intro a10 a12 a14 a19 a20 a21 u1 t
        refine jj_pz hG (k := 164) rfl rfl rfl rfl (fun s1 => ?_)
        refine jjs hG rfl rfl ?_
        refine jjs hG rfl rfl ?_
        refine jj_zeq hG (t := 467) rfl rfl ?_ ?_
        · refine jjs hG rfl rfl ?_
          exact jj_wl hG [0, 1, 2, 3, 4, 5, 6, 7, 8, 9, 10, 11, 13] rfl (b469 _ _ _ _ _ _ _)
        refine jjs hG rfl rfl ?_
        refine jj_go hG (t := 469) rfl rfl ?_
        exact jj_wl hG [0, 1, 2, 3, 4, 5, 6, 7, 8, 9, 10, 11, 13] rfl (b469 _ _ _ _ _ _ _)
      have b439 : ∀ (a10 : Int64) (a12 : Int64) (a14 : Int32) (a19 : Int32) (a20 : Int32) (u0 : Int32) (t : moS), JJ C R base m G 439 [(0, .ref m), (1, .int p1), (2, .int p2), (3, .long p3), (5, .long p5), (7, .int a7), (8, .int a8), (9, .int a9), (10, .long a10), (12, .long a12), (14, .int a14), (19, .int a19), (20, .int a20)] [.int u0] q t kc ks (M_takeAll_b439 t p1 p2 p3 p5 a7 a8 a9 a10 a12 a14 a19 a20 u0) (some y29) := by
        intro a10 a12 a14 a19 a20 u0 t
        refine jjc hG rfl rfl (Nat.le_of_ble_eq_true rfl) ?_
        refine jjs hG rfl rfl ?_
        refine jjs hG rfl rfl ?_
        refine jj_zeq hG (t := 451) rfl rfl ?_ ?_
        · refine jjs hG rfl rfl ?_
          exact jj_wl hG [1, 2, 3, 4, 5, 6, 7, 8, 9, 10, 11, 12, 13, 0] rfl (b453 _ _ _ _ _ _ _ _)
        refine jjs hG rfl rfl ?_
        refine jj_go hG (t := 453) rfl rfl ?_
        exact jj_wl hG [1, 2, 3, 4, 5, 6, 7, 8, 9, 10, 11, 12, 13, 0] rfl (b453 _ _ _ _ _ _ _ _)
      have b384 : ∀ (a10 : Int64) (a12 : Int64) (a14 : Int32) (a15 : Int32) (a19 : Int32) (u0 : Int32) (t : moS), JJ C R base m G 384 [(0, .ref m), (1, .int p1), (2, .int p2), (3, .long p3), (5, .long p5), (7, .int a7), (8, .int a8), (9, .int a9), (10, .long a10), (12, .long a12), (14, .int a14), (15, .int a15), (19, .int a19)] [.int u0] q t kc ks (M_takeAll_b384 t p1 p2 p3 p5 a7 a8 a9 a10 a12 a14 a15 a19 u0) (some y29) := by
        intro a10 a12 a14 a15 a19 u0 t
        refine jjc hG rfl rfl (Nat.le_of_ble_eq_true rfl) ?_
        refine jjs hG rfl rfl ?_
        refine jj_zne hG (t := 415) rfl rfl ?_ ?_
        · refine jjs hG rfl rfl ?_
          refine jj_gr hG (k := 149) rfl rfl rfl rfl ?_
          refine jjs hG rfl rfl ?_
          refine jj_bi hG rfl cc_b16 ?_
          refine jjs hG rfl rfl ?_
          refine jj_ia hG (k := 149) rfl rfl rfl (fun x1 => ?_)
          refine jj_bi hG rfl cc_b8 ?_
          refine jjs hG rfl rfl ?_
          refine jjs hG rfl rfl ?_
          refine jj_gr hG (k := 149) rfl rfl rfl rfl ?_
          refine jjs hG rfl rfl ?_
          refine jj_bi hG rfl cc_b17 ?_
          refine jjs hG rfl rfl ?_
          refine jj_ia hG (k := 149) rfl rfl rfl (fun x2 => ?_)
          refine jjs hG rfl rfl ?_
          exact jj_wl hG [1, 2, 3, 4, 5, 6, 7, 8, 9, 10, 11, 13, 0] rfl (b439 _ _ _ _ _ _ _)
        refine jjs hG rfl rfl ?_
        refine jj_gr hG (k := 149) rfl rfl rfl rfl ?_
        refine jjs hG rfl rfl ?_
        refine jj_ic hG rfl cc_i2 ?_
        refine jjs hG rfl rfl ?_
        refine jj_ia hG (k := 149) rfl rfl rfl (fun x3 => ?_)
        refine jj_bi hG rfl cc_b8 ?_
        refine jjs hG rfl rfl ?_
        refine jjs hG rfl rfl ?_
        refine jj_gr hG (k := 149) rfl rfl rfl rfl ?_
        refine jjs hG rfl rfl ?_
        refine jj_ic hG rfl cc_i3 ?_
        refine jjs hG rfl rfl ?_
        refine jj_ia hG (k := 149) rfl rfl rfl (fun x4 => ?_)
        refine jjs hG rfl rfl ?_
        refine jj_go hG (t := 439) rfl rfl ?_
        exact jj_wl hG [1, 2, 3, 4, 5, 6, 7, 8, 9, 10, 11, 13, 0] rfl (b439 _ _ _ _ _ _ _)
      have b379 : ∀ (a10 : Int64) (a12 : Int64) (a14 : Int32) (a15 : Int32) (a19 : Int32) (t : moS), JJ C R base m G 379 [(0, .ref m), (1, .int p1), (2, .int p2), (3, .long p3), (5, .long p5), (7, .int a7), (8, .int a8), (9, .int a9), (10, .long a10), (12, .long a12), (14, .int a14), (15, .int a15), (19, .int a19)] [] q t kc ks (M_takeAll_b379 t p1 p2 p3 p5 a7 a8 a9 a10 a12 a14 a15 a19) (some y29) := by
        intro a10 a12 a14 a15 a19 t
        refine jj_ic hG rfl cc_i1 ?_
        refine jj_go hG (t := 384) rfl rfl ?_
        exact jj_wl hG [0, 1, 2, 3, 4, 5, 6, 7, 8, 9, 10, 11, 12] rfl (b384 _ _ _ _ _ _ _)
      have b348 : ∀ (a10 : Int64) (a12 : Int64) (a14 : Int32) (a15 : Int32) (a19 : Int32) (t : moS), JJ C R base m G 348 [(0, .ref m), (1, .int p1), (2, .int p2), (3, .long p3), (5, .long p5), (7, .int a7), (8, .int a8), (9, .int a9), (10, .long a10), (12, .long a12), (14, .int a14), (15, .int a15), (19, .int a19)] [] q t kc ks (M_takeAll_b348 t p1 p2 p3 p5 a7 a8 a9 a10 a12 a14 a15 a19) (some y29) := by
        intro a10 a12 a14 a15 a19 t
        refine jjs hG rfl rfl ?_
        refine jj_gr hG (k := 76) rfl rfl rfl rfl ?_
        refine jjs hG rfl rfl ?_
        refine jj_la hG (k := 76) rfl rfl rfl (fun x1 => ?_)
        refine jjs hG rfl rfl ?_
        refine jj_gr hG (k := 77) rfl rfl rfl rfl ?_
        refine jjs hG rfl rfl ?_
        refine jj_la hG (k := 77) rfl rfl rfl (fun x2 => ?_)
        refine jjs hG rfl rfl ?_
        refine jj_gr hG (k := 78) rfl rfl rfl rfl ?_
        refine jjs hG rfl rfl ?_
        refine jj_ia hG (k := 78) rfl rfl rfl (fun x3 => ?_)
        refine jjs hG rfl rfl ?_
        refine jjs hG rfl rfl ?_
        refine jj_ct hG 2 rfl rfl (Nat.le_of_ble_eq_true rfl) (by decide) (Nat.le_of_ble_eq_true rfl) rfl (st' := []) rfl (v := .int (M_covers x1 x2 x3 a10 a12)) (fun _ hw k => k_covers base sa hw rfl k) ?_
        refine jj_zne hG (t := 383) rfl rfl ?_ ?_
        · refine jj_ic hG rfl cc_i0 ?_
          exact jj_wl hG [0, 1, 2, 3, 4, 5, 6, 7, 8, 9, 10, 11, 12] rfl (b384 _ _ _ _ _ _ _)
        exact jj_wl hG [0, 1, 2, 3, 4, 5, 6, 7, 8, 9, 10, 11, 12] rfl (b379 _ _ _ _ _ _)
      have b322 : ∀ (a10 : Int64) (a12 : Int64) (a14 : Int32) (a15 : Int32) (a19 : Int32) (t : moS), JJ C R base m G 322 [(0, .ref m), (1, .int p1), (2, .int p2), (3, .long p3), (5, .long p5), (7, .int a7), (8, .int a8), (9, .int a9), (10, .long a10), (12, .long a12), (14, .int a14), (15, .int a15), (19, .int a19)] [] q t kc ks (M_takeAll_b322 t p1 p2 p3 p5 a7 a8 a9 a10 a12 a14 a15 a19) (some y29) := by
        intro a10 a12 a14 a15 a19 t
        refine jjs hG rfl rfl ?_
        refine jjs hG rfl rfl ?_
        refine jj_gr hG (k := 76) rfl rfl rfl rfl ?_
        refine jjs hG rfl rfl ?_
        refine jj_la hG (k := 76) rfl rfl rfl (fun x1 => ?_)
        refine jjs hG rfl rfl ?_
        refine jj_lne hG (t := 348) rfl rfl ?_ ?_
        · exact jj_wl hG [0, 1, 2, 3, 4, 5, 6, 7, 8, 9, 10, 11, 12] rfl (b348 _ _ _ _ _ _)
        refine jjs hG rfl rfl ?_
        refine jjs hG rfl rfl ?_
        refine jj_gr hG (k := 77) rfl rfl rfl rfl ?_
        refine jjs hG rfl rfl ?_
        refine jj_la hG (k := 77) rfl rfl rfl (fun x2 => ?_)
        refine jjs hG rfl rfl ?_
        refine jj_leq hG (t := 379) rfl rfl ?_ ?_
        · exact jj_wl hG [0, 1, 2, 3, 4, 5, 6, 7, 8, 9, 10, 11, 12] rfl (b379 _ _ _ _ _ _)
        exact jj_wl hG [0, 1, 2, 3, 4, 5, 6, 7, 8, 9, 10, 11, 12] rfl (b348 _ _ _ _ _ _)
      have b308 : ∀ (a10 : Int64) (a12 : Int64) (a14 : Int32) (a15 : Int32) (a19 : Int32) (t : moS), JJ C R base m G 308 [(0, .ref m), (1, .int p1), (2, .int p2), (3, .long p3), (5, .long p5), (7, .int a7), (8, .int a8), (9, .int a9), (10, .long a10), (12, .long a12), (14, .int a14), (15, .int a15), (19, .int a19)] [] q t kc ks (M_takeAll_b308 t p1 p2 p3 p5 a7 a8 a9 a10 a12 a14 a15 a19) (some y29) := by
        intro a10 a12 a14 a15 a19 t
        refine jjs hG rfl rfl ?_
        refine jj_lc hG (c := 0) (v := 0) rfl rfl ?_
        refine jjs hG rfl rfl ?_
        refine jj_lne hG (t := 322) rfl rfl ?_ ?_
        · exact jj_wl hG [0, 1, 2, 3, 4, 5, 6, 7, 8, 9, 10, 11, 12] rfl (b322 _ _ _ _ _ _)
        refine jjs hG rfl rfl ?_
        refine jj_lc hG (c := 0) (v := 0) rfl rfl ?_
        refine jjs hG rfl rfl ?_
        refine jj_leq hG (t := 379) rfl rfl ?_ ?_
        · exact jj_wl hG [0, 1, 2, 3, 4, 5, 6, 7, 8, 9, 10, 11, 12] rfl (b379 _ _ _ _ _ _)
        exact jj_wl hG [0, 1, 2, 3, 4, 5, 6, 7, 8, 9, 10, 11, 12] rfl (b322 _ _ _ _ _ _)
      have b236 : ∀ (a10 : Int64) (a12 : Int64) (a14 : Int32) (a15 : Int32) (a16 : Int64) (u0 : Int32) (t : moS), JJ C R base m G 236 [(0, .ref m), (1, .int p1), (2, .int p2), (3, .long p3), (5, .long p5), (7, .int a7), (8, .int a8), (9, .int a9), (10, .long a10), (12, .long a12), (14, .int a14), (15, .int a15), (16, .long a16)] [.int u0] q t kc ks (M_takeAll_b236 t p1 p2 p3 p5 a7 a8 a9 a10 a12 a14 a15 a16 u0) (some y29) := by
        intro a10 a12 a14 a15 a16 u0 t
        refine jjc hG rfl rfl (Nat.le_of_ble_eq_true rfl) ?_
        refine jjs hG rfl rfl ?_
        refine jj_zne hG (t := 254) rfl rfl ?_ ?_
        · refine jjs hG rfl rfl ?_
          refine jjs hG rfl rfl ?_
          refine jjs hG rfl rfl ?_
          refine jj_gr hG (k := 72) rfl rfl rfl rfl ?_
          refine jjs hG rfl rfl ?_
          refine jj_ia hG (k := 72) rfl rfl rfl (fun x1 => ?_)
          refine jjs hG rfl rfl ?_
          refine jjs hG rfl rfl ?_
          refine jjs hG rfl rfl ?_
          refine jj_ic hG rfl cc_i0 ?_
          refine jjs hG rfl rfl ?_
          refine jjs hG rfl rfl ?_
          refine jjs hG rfl rfl ?_
          refine jj_gz hG (k := 13) rfl rfl rfl rfl ?_
          refine jjs hG rfl rfl ?_
          refine jj_gz hG (k := 14) rfl rfl rfl rfl ?_
          refine jjs hG rfl rfl ?_
          refine jj_gi hG (k := 15) rfl rfl rfl rfl ?_
          refine jj_at (pc' := 283) rfl ?_
          refine jj_cp hG 0 rfl rfl (Nat.le_of_ble_eq_true rfl) (by decide) (Nat.le_of_ble_eq_true rfl) rfl (st' := [.int ((Int64.toInt32 a16) + x1)]) rfl (w := .int) (fun _ _ hw h k => pm_rcv_of moM_m (k_offsetFor base sa hw h k)) (fun x2 => ?_)
          refine jjs hG rfl rfl ?_
          refine jjc hG rfl rfl (Nat.le_of_ble_eq_true rfl) ?_
          refine jjs hG rfl rfl ?_
          refine jj_zne hG (t := 308) rfl rfl ?_ ?_
          · exact jj_wl hG [2, 3, 4, 5, 6, 7, 8, 9, 10, 11, 12, 13, 0] rfl (b308 _ _ _ _ _ _)
          refine jjs hG rfl rfl ?_
          refine jj_gr hG (k := 149) rfl rfl rfl rfl ?_
          refine jjs hG rfl rfl ?_
          refine jj_bi hG rfl cc_b12 ?_
          refine jjs hG rfl rfl ?_
          refine jj_ic hG rfl cc_i0 ?_
          refine jj_cp hG 2 rfl rfl (Nat.le_of_ble_eq_true rfl) (by decide) (Nat.le_of_ble_eq_true rfl) rfl (st' := []) rfl (w := .long) (fun _ _ hw h k => k_highOf base sa rfl rfl hw h k) (fun x3 => ?_)
          refine jjc hG rfl rfl (Nat.le_of_ble_eq_true rfl) ?_
          exact jj_wl hG [3, 4, 5, 6, 7, 8, 9, 10, 0, 11, 12, 13, 1] rfl (b308 _ _ _ _ _ _)
        refine jjs hG rfl rfl ?_
        refine jjs hG rfl rfl ?_
        refine jj_ic hG rfl cc_i4 ?_
        refine jj_ic hG rfl cc_i1 ?_
        refine jj_cv hG 0 rfl rfl (Nat.le_of_ble_eq_true rfl) (by decide) (Nat.le_of_ble_eq_true rfl) rfl (st' := []) rfl (fun _ _ hw h k => pm_rcv_of moM_m (k_tally base sa hw h k)) (fun s4 => ?_)
        refine jj_go hG (t := 499) rfl rfl ?_
        exact jj_wl hG [1, 2, 3, 4, 5, 6, 7, 8, 9, 10, 11] rfl (b499 _ _ _ _)
      have b235 : ∀ (a10 : Int64) (a12 : Int64) (a14 : Int32) (a15 : Int32) (a16 : Int64) (t : moS), JJ C R base m G 235 [(0, .ref m), (1, .int p1), (2, .int p2), (3, .long p3), (5, .long p5), (7, .int a7), (8, .int a8), (9, .int a9), (10, .long a10), (12, .long a12), (14, .int a14), (15, .int a15), (16, .long a16)] [] q t kc ks (M_takeAll_b235 t p1 p2 p3 p5 a7 a8 a9 a10 a12 a14 a15 a16) (some y29) := by
        intro a10 a12 a14 a15 a16 t
        refine jj_ic hG rfl cc_i0 ?_
        exact jj_wl hG [0, 1, 2, 3, 4, 5, 6, 7, 8, 9, 10, 11, 12] rfl (b236 _ _ _ _ _ _ _)
      have b176 : ∀ (a10 : Int64) (a12 : Int64) (a14 : Int32) (a15 : Int32) (a16 : Int64) (u0 : Int32) (t : moS), JJ C R base m G 176 [(0, .ref m), (1, .int p1), (2, .int p2), (3, .long p3), (5, .long p5), (7, .int a7), (8, .int a8), (9, .int a9), (10, .long a10), (12, .long a12), (14, .int a14), (15, .int a15), (16, .long a16)] [.int u0] q t kc ks (M_takeAll_b176 t p1 p2 p3 p5 a7 a8 a9 a10 a12 a14 a15 a16 u0) (some y29) := by
        intro a10 a12 a14 a15 a16 u0 t
        refine jjc hG rfl rfl (Nat.le_of_ble_eq_true rfl) ?_
        refine jjs hG rfl rfl ?_
        refine jj_zeq hG (t := 235) rfl rfl ?_ ?_
        · exact jj_wl hG [1, 2, 3, 4, 5, 6, 7, 8, 9, 10, 11, 12, 13] rfl (b235 _ _ _ _ _ _)
        refine jjs hG rfl rfl ?_
        refine jjs hG rfl rfl ?_
        refine jj_ic hG rfl cc_i0 ?_
        refine jjs hG rfl rfl ?_
        refine jjs hG rfl rfl ?_
        refine jj_gz hG (k := 13) rfl rfl rfl rfl ?_
        refine jjs hG rfl rfl ?_
        refine jj_gz hG (k := 14) rfl rfl rfl rfl ?_
        refine jjs hG rfl rfl ?_
        refine jj_gi hG (k := 15) rfl rfl rfl rfl ?_
        refine jj_cp hG 0 rfl rfl (Nat.le_of_ble_eq_true rfl) (by decide) (Nat.le_of_ble_eq_true rfl) rfl (st' := []) rfl (w := .int) (fun _ _ hw h k => pm_rcv_of moM_m (k_filterAllows base sa hw h k)) (fun x1 => ?_)
        refine jj_zeq hG (t := 235) rfl rfl ?_ ?_
        · exact jj_wl hG [1, 2, 3, 4, 5, 6, 7, 8, 9, 10, 11, 12, 13] rfl (b235 _ _ _ _ _ _)
        refine jjs hG rfl rfl ?_
        refine jjs hG rfl rfl ?_
        refine jj_ic hG rfl cc_i0 ?_
        refine jjs hG rfl rfl ?_
        refine jjs hG rfl rfl ?_
        refine jjs hG rfl rfl ?_
        refine jj_gz hG (k := 13) rfl rfl rfl rfl ?_
        refine jjs hG rfl rfl ?_
        refine jj_gz hG (k := 14) rfl rfl rfl rfl ?_
        refine jjs hG rfl rfl ?_
        refine jj_gi hG (k := 15) rfl rfl rfl rfl ?_
        refine jj_cp hG 0 rfl rfl (Nat.le_of_ble_eq_true rfl) (by decide) (Nat.le_of_ble_eq_true rfl) rfl (st' := []) rfl (w := .int) (fun _ _ hw h k => pm_rcv_of moM_m (k_distributeAllows base sa hw h k)) (fun x2 => ?_)
        refine jj_zeq hG (t := 235) rfl rfl ?_ ?_
        · exact jj_wl hG [1, 2, 3, 4, 5, 6, 7, 8, 9, 10, 11, 12, 13] rfl (b235 _ _ _ _ _ _)
        refine jj_ic hG rfl cc_i1 ?_
        refine jj_go hG (t := 236) rfl rfl ?_
        exact jj_wl hG [1, 2, 3, 4, 5, 6, 7, 8, 9, 10, 11, 12, 13] rfl (b236 _ _ _ _ _ _ _)
      have b175 : ∀ (a10 : Int64) (a12 : Int64) (a14 : Int32) (a15 : Int32) (a16 : Int64) (t : moS), JJ C R base m G 175 [(0, .ref m), (1, .int p1), (2, .int p2), (3, .long p3), (5, .long p5), (7, .int a7), (8, .int a8), (9, .int a9), (10, .long a10), (12, .long a12), (14, .int a14), (15, .int a15), (16, .long a16)] [] q t kc ks (M_takeAll_b175 t p1 p2 p3 p5 a7 a8 a9 a10 a12 a14 a15 a16) (some y29) := by
        intro a10 a12 a14 a15 a16 t
        refine jj_ic hG rfl cc_i0 ?_
        exact jj_wl hG [0, 1, 2, 3, 4, 5, 6, 7, 8, 9, 10, 11, 12] rfl (b176 _ _ _ _ _ _ _)
      have b128 : ∀ (a10 : Int64) (a12 : Int64) (a14 : Int32) (a15 : Int32) (u0 : Int64) (t : moS), JJ C R base m G 128 [(0, .ref m), (1, .int p1), (2, .int p2), (3, .long p3), (5, .long p5), (7, .int a7), (8, .int a8), (9, .int a9), (10, .long a10), (12, .long a12), (14, .int a14), (15, .int a15)] [.long u0] q t kc ks (M_takeAll_b128 t p1 p2 p3 p5 a7 a8 a9 a10 a12 a14 a15 u0) (some y29) := by
        intro a10 a12 a14 a15 u0 t
        refine jjc hG rfl rfl (Nat.le_of_ble_eq_true rfl) ?_
        refine jjs hG rfl rfl ?_
        refine jjs hG rfl rfl ?_
        refine jjs hG rfl rfl ?_
        refine jj_cs hG 0 rfl rfl (Nat.le_of_ble_eq_true rfl) (by decide) (Nat.le_of_ble_eq_true rfl) rfl (st' := []) rfl (w := .int) (fun _ _ _ hw h k => pm_rcv_of moM_m (k_isEntry base sa hw h k)) (fun x2 s1 => ?_)
        refine jj_zeq hG (t := 175) rfl rfl ?_ ?_
        · exact jj_wl hG [1, 2, 3, 4, 5, 6, 7, 8, 9, 10, 11, 12, 0] rfl (b175 _ _ _ _ _ _)
        refine jjs hG rfl rfl ?_
        refine jj_lc hG (c := 1) (v := 1) rfl rfl ?_
        refine jjs hG rfl rfl ?_
        refine jj_llt hG (t := 175) rfl rfl ?_ ?_
        · exact jj_wl hG [1, 2, 3, 4, 5, 6, 7, 8, 9, 10, 11, 12, 0] rfl (b175 _ _ _ _ _ _)
        refine jjs hG rfl rfl ?_
        refine jj_l2 hG (v := (16 : Int64)) rfl rfl ?_
        refine jjs hG rfl rfl ?_
        refine jj_lgt hG (t := 175) rfl rfl ?_ ?_
        · exact jj_wl hG [1, 2, 3, 4, 5, 6, 7, 8, 9, 10, 11, 12, 0] rfl (b175 _ _ _ _ _ _)
        refine jjs hG rfl rfl ?_
        refine jjs hG rfl rfl ?_
        refine jj_gz hG (k := 13) rfl rfl rfl rfl ?_
        refine jjs hG rfl rfl ?_
        refine jj_gi hG (k := 15) rfl rfl rfl rfl ?_
        refine jj_ct hG 2 rfl rfl (Nat.le_of_ble_eq_true rfl) (by decide) (Nat.le_of_ble_eq_true rfl) rfl (st' := []) rfl (v := .int (M_isForbidden p2 (moS.Z s1 13) (moS.S s1 15))) (fun _ hw k => k_isForbidden base sa hw rfl k) ?_
        refine jj_zne hG (t := 175) rfl rfl ?_ ?_
        · exact jj_wl hG [1, 2, 3, 4, 5, 6, 7, 8, 9, 10, 11, 12, 0] rfl (b175 _ _ _ _ _ _)
        refine jj_ic hG rfl cc_i1 ?_
        refine jj_go hG (t := 176) rfl rfl ?_
        exact jj_wl hG [1, 2, 3, 4, 5, 6, 7, 8, 9, 10, 11, 12, 0] rfl (b176 _ _ _ _ _ _ _)
      have b98 : ∀ (a10 : Int64) (a12 : Int64) (a14 : Int32) (a15 : Int32) (t : moS), JJ C R base m G 98 [(0, .ref m), (1, .int p1), (2, .int p2), (3, .long p3), (5, .long p5), (7, .int a7), (8, .int a8), (9, .int a9), (10, .long a10), (12, .long a12), (14, .int a14), (15, .int a15)] [] q t kc ks (M_takeAll_b98 t p1 p2 p3 p5 a7 a8 a9 a10 a12 a14 a15) (some y29) := by
        intro a10 a12 a14 a15 t
        refine jjs hG rfl rfl ?_
        refine jj_zne hG (t := 117) rfl rfl ?_ ?_
        · refine jjs hG rfl rfl ?_
          refine jj_gr hG (k := 149) rfl rfl rfl rfl ?_
          refine jjs hG rfl rfl ?_
          refine jj_bi hG rfl cc_b19 ?_
          refine jjs hG rfl rfl ?_
          refine jj_ia hG (k := 149) rfl rfl rfl (fun x1 => ?_)
          refine jjs hG rfl rfl ?_
          exact jj_wl hG [0, 1, 2, 3, 4, 5, 6, 7, 8, 9, 10, 11] rfl (b128 _ _ _ _ _ _)
        refine jjs hG rfl rfl ?_
        refine jj_gr hG (k := 149) rfl rfl rfl rfl ?_
        refine jjs hG rfl rfl ?_
        refine jj_bi hG rfl cc_b16 ?_
        refine jjs hG rfl rfl ?_
        refine jj_cp hG 2 rfl rfl (Nat.le_of_ble_eq_true rfl) (by decide) (Nat.le_of_ble_eq_true rfl) rfl (st' := []) rfl (w := .long) (fun _ _ hw h k => k_number4 base sa rfl rfl hw h k) (fun x2 => ?_)
        refine jj_go hG (t := 128) rfl rfl ?_
        exact jj_wl hG [0, 1, 2, 3, 4, 5, 6, 7, 8, 9, 10, 11] rfl (b128 _ _ _ _ _ _)
      refine (show JJ C R base m G 29 [(0, .ref m), (1, .int p1), (2, .int p2), (3, .long p3), (5, .long p5), (7, .int a7), (8, .int a8), (9, .int a9), (10, .long a10), (12, .long a12), (14, .int a14)] [] q t kc ks (M_takeAll_s29 t p1 p2 p3 p5 a7 a8 a9 a10 a12 a14) (some y29) from ?_)
      refine jjs hG rfl rfl ?_
      refine jjs hG rfl rfl ?_
      refine jj_gi hG (k := 163) rfl rfl rfl rfl ?_
      refine jj_ige hG (t := 505) rfl rfl ?_ ?_
      · refine jj_exit c29 ?_
        exact jj_rvS hG rfl rfl (k)
      refine jjs hG rfl rfl ?_
      refine jj_gi hG (k := 162) rfl rfl rfl rfl ?_
      refine jj_bi hG rfl cc_b20 ?_
      refine jjs hG rfl rfl ?_
      refine jjs hG rfl rfl ?_
      refine jjs hG rfl rfl ?_
      refine jjc hG rfl rfl (Nat.le_of_ble_eq_true rfl) ?_
      refine jjs hG rfl rfl ?_
      refine jj_ic hG rfl cc_i1 ?_
      refine jj_ine hG (t := 98) rfl rfl ?_ ?_
      · exact jj_wl hG [1, 2, 3, 4, 5, 6, 7, 8, 9, 10, 11, 0] rfl (b98 _ _ _ _ _)
      refine jjs hG rfl rfl ?_
      refine jj_gr hG (k := 149) rfl rfl rfl rfl ?_
      refine jjs hG rfl rfl ?_
      refine jj_bi hG rfl cc_b19 ?_
      refine jjs hG rfl rfl ?_
      refine jj_ia hG (k := 149) rfl rfl rfl (fun x1 => ?_)
      refine jj_si hG rfl cc_s255 ?_
      refine jj_ine hG (t := 98) rfl rfl ?_ ?_
      · exact jj_wl hG [1, 2, 3, 4, 5, 6, 7, 8, 9, 10, 11, 0] rfl (b98 _ _ _ _ _)
      refine jjs hG rfl rfl ?_
      refine jj_gr hG (k := 149) rfl rfl rfl rfl ?_
      refine jjs hG rfl rfl ?_
      refine jj_ic hG rfl cc_i1 ?_
      refine jj_cp hG 2 rfl rfl (Nat.le_of_ble_eq_true rfl) (by decide) (Nat.le_of_ble_eq_true rfl) rfl (st' := []) rfl (w := .long) (fun _ _ hw h k => k_highOf base sa rfl rfl hw h k) (fun x2 => ?_)
      refine jjc hG rfl rfl (Nat.le_of_ble_eq_true rfl) ?_
      refine jjs hG rfl rfl ?_
      refine jj_gr hG (k := 149) rfl rfl rfl rfl ?_
      refine jjs hG rfl rfl ?_
      refine jj_ic hG rfl cc_i1 ?_
      refine jj_cp hG 2 rfl rfl (Nat.le_of_ble_eq_true rfl) (by decide) (Nat.le_of_ble_eq_true rfl) rfl (st' := []) rfl (w := .long) (fun _ _ hw h k => k_lowOf base sa rfl rfl hw h k) (fun x3 => ?_)
      refine jjc hG rfl rfl (Nat.le_of_ble_eq_true rfl) ?_
      refine jj_go hG (t := 499) rfl rfl ?_
      exact jj_wl hG [3, 4, 5, 6, 7, 8, 9, 10, 1, 0, 11] rfl (b499 _ _ _ _)
  refine (show JJ C R base m G 0 [(0, .ref m), (1, .int p1), (2, .int p2), (3, .long p3), (5, .long p5)] [] q t kc ks (M_takeAll t p1 p2 p3 p5) (some tz) from ?_) hw h
  refine jjs hG rfl rfl ?_
  refine jj_ic hG rfl cc_i4 ?_
  refine jjc hG rfl rfl (by decide) ?_
  refine jjc hG rfl rfl (Nat.le_of_ble_eq_true rfl) ?_
  refine jjs hG rfl rfl ?_
  refine jj_gr hG (k := 71) rfl rfl rfl rfl ?_
  refine jjs hG rfl rfl ?_
  refine jj_ia hG (k := 71) rfl rfl rfl (fun x1 => ?_)
  refine jjc hG rfl rfl (Nat.le_of_ble_eq_true rfl) ?_
  refine jj_ic hG rfl cc_i2 ?_
  refine jjs hG rfl rfl ?_
  refine jjs hG rfl rfl ?_
  refine jjs hG rfl rfl ?_
  refine jjs hG rfl rfl ?_
  refine jjc hG rfl rfl (Nat.le_of_ble_eq_true rfl) ?_
  refine jj_lc hG (c := 0) (v := 0) rfl rfl ?_
  refine jjc hG rfl rfl (Nat.le_of_ble_eq_true rfl) ?_
  refine jj_lc hG (c := 0) (v := 0) rfl rfl ?_
  refine jjc hG rfl rfl (Nat.le_of_ble_eq_true rfl) ?_
  refine jj_ic hG rfl cc_i0 ?_
  refine jj_at (pc' := 27) rfl ?_
  refine jjc hG rfl rfl (Nat.le_of_ble_eq_true rfl) ?_
  refine jj_lp (fun n => ?_)
  exact jj_wl hG [6, 7, 8, 9, 10, 5, 4, 3, 2, 1, 0] rfl (b29 _ _ _ n _ _ _ _)
noncomputable def M_asksForAll_b61 (t : moS) : Option Int32 := (some (0 : Int32))
noncomputable def M_asksForAll_b93 (t : moS) : Option Int32 := (some (0 : Int32))
noncomputable def M_asksForAll (t : moS) (p1 : Int32) : Option Int32 := if (moS.S t 163) = (1 : Int32) then (if p1 = 0 then (Option.bind (rdI t 149 (moS.S t 162)) (fun x3 => (if x3 = 0 then (Option.bind (rdI t 149 ((moS.S t 162) + (1 : Int32))) (fun x4 => (if x4 = 0 then (Option.bind (M_number4 t 149 ((moS.S t 162) + (16 : Int32))) (fun x5 => (if x5 = (16 : Int64) then ((some (1 : Int32))) else ((M_asksForAll_b61 t))))) else ((M_asksForAll_b61 t))))) else ((M_asksForAll_b61 t))))) else (Option.bind (M_areZeros t (moS.S t 162) ((moS.S t 162) + (19 : Int32))) (fun x1 => (if x1 = 0 then ((M_asksForAll_b93 t)) else (Option.bind (rdI t 149 ((moS.S t 162) + (19 : Int32))) (fun x2 => (if x2 = (16 : Int32) then ((some (1 : Int32))) else ((M_asksForAll_b93 t))))))))) else ((some (0 : Int32)))
set_option maxRecDepth 100000 in
set_option maxHeartbeats 4000000 in
theorem k_asksForAll (base : Nat) (sa : Nat → Nat) {C : Nat × Nat} {R : pmM} {m : Nat} {q : Nat → Nat} {t : moS} {kc ks : Nat} {Rt : pmR} {p1 : Int32} {r : Int32} (hw : mW C R base m q t kc ks) (h : M_asksForAll t p1 = (some r)) (k : Rt (some (.int r)) (moM R m q t) kc ks) : kP_Mo_asksForAll base sa [.ref m, .int p1] (moM R m q t) kc ks Rt := by
  refine ⟨Nat.le_of_ble_eq_true rfl, fun G hG => ?_⟩
  have b61 : JJ C R base m G 61 [] [] q t kc ks (M_asksForAll_b61 t) (some r) := by
    refine jj_ic hG rfl cc_i0 ?_
    exact jj_ri hG rfl rfl rfl k
  have b93 : JJ C R base m G 93 [] [] q t kc ks (M_asksForAll_b93 t) (some r) := by
    refine jj_ic hG rfl cc_i0 ?_
    exact jj_ri hG rfl rfl rfl k
  refine (show JJ C R base m G 0 [(0, .ref m), (1, .int p1)] [] q t kc ks (M_asksForAll t p1) (some r) from ?_) hw h
  refine jjs hG rfl rfl ?_
  refine jj_gi hG (k := 162) rfl rfl rfl rfl ?_
  refine jjc hG rfl rfl (Nat.le_of_ble_eq_true rfl) ?_
  refine jjs hG rfl rfl ?_
  refine jj_gi hG (k := 163) rfl rfl rfl rfl ?_
  refine jj_ic hG rfl cc_i1 ?_
  refine jj_ieq hG (t := 15) rfl rfl ?_ ?_
  · refine jjs hG rfl rfl ?_
    refine jj_zne hG (t := 63) rfl rfl ?_ ?_
    · refine jjs hG rfl rfl ?_
      refine jjs hG rfl rfl ?_
      refine jjs hG rfl rfl ?_
      refine jj_bi hG rfl cc_b19 ?_
      refine jjs hG rfl rfl ?_
      refine jj_cp hG 0 rfl rfl (Nat.le_of_ble_eq_true rfl) (by decide) (Nat.le_of_ble_eq_true rfl) rfl (st' := []) rfl (w := .int) (fun _ _ hw h k => pm_rcv_of moM_m (k_areZeros base sa hw h k)) (fun x1 => ?_)
      refine jj_zeq hG (t := 93) rfl rfl ?_ ?_
      · exact jj_wl hG [] rfl (b93)
      refine jjs hG rfl rfl ?_
      refine jj_gr hG (k := 149) rfl rfl rfl rfl ?_
      refine jjs hG rfl rfl ?_
      refine jj_bi hG rfl cc_b19 ?_
      refine jjs hG rfl rfl ?_
      refine jj_ia hG (k := 149) rfl rfl rfl (fun x2 => ?_)
      refine jj_bi hG rfl cc_b16 ?_
      refine jj_ine hG (t := 93) rfl rfl ?_ ?_
      · exact jj_wl hG [] rfl (b93)
      refine jj_ic hG rfl cc_i1 ?_
      refine jj_go hG (t := 94) rfl rfl ?_
      exact jj_ri hG rfl rfl rfl k
    refine jjs hG rfl rfl ?_
    refine jj_gr hG (k := 149) rfl rfl rfl rfl ?_
    refine jjs hG rfl rfl ?_
    refine jj_ia hG (k := 149) rfl rfl rfl (fun x3 => ?_)
    refine jj_zne hG (t := 61) rfl rfl ?_ ?_
    · exact jj_wl hG [] rfl (b61)
    refine jjs hG rfl rfl ?_
    refine jj_gr hG (k := 149) rfl rfl rfl rfl ?_
    refine jjs hG rfl rfl ?_
    refine jj_ic hG rfl cc_i1 ?_
    refine jjs hG rfl rfl ?_
    refine jj_ia hG (k := 149) rfl rfl rfl (fun x4 => ?_)
    refine jj_zne hG (t := 61) rfl rfl ?_ ?_
    · exact jj_wl hG [] rfl (b61)
    refine jjs hG rfl rfl ?_
    refine jj_gr hG (k := 149) rfl rfl rfl rfl ?_
    refine jjs hG rfl rfl ?_
    refine jj_bi hG rfl cc_b16 ?_
    refine jjs hG rfl rfl ?_
    refine jj_cp hG 2 rfl rfl (Nat.le_of_ble_eq_true rfl) (by decide) (Nat.le_of_ble_eq_true rfl) rfl (st' := []) rfl (w := .long) (fun _ _ hw h k => k_number4 base sa rfl rfl hw h k) (fun x5 => ?_)
    refine jj_l2 hG (v := (16 : Int64)) rfl rfl ?_
    refine jjs hG rfl rfl ?_
    refine jj_lne hG (t := 61) rfl rfl ?_ ?_
    · exact jj_wl hG [] rfl (b61)
    refine jj_ic hG rfl cc_i1 ?_
    refine jj_go hG (t := 62) rfl rfl ?_
    exact jj_ri hG rfl rfl rfl k
  refine jj_ic hG rfl cc_i0 ?_
  exact jj_ri hG rfl rfl rfl k
