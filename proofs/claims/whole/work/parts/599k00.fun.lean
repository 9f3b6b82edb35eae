/-! The model as functions, by program: thrown .. isSecret -/
noncomputable def M_thrown (t : moS) : Int32 := (moS.S t 0)
set_option maxRecDepth 100000 in
set_option maxHeartbeats 4000000 in
theorem k_thrown (base : Nat) (sa : Nat → Nat) {C : Nat × Nat} {R : pmM} {m : Nat} {q : Nat → Nat} {t : moS} {kc ks : Nat} {Rt : pmR}  {r : Int32} (hw : mW C R base m q t kc ks) (h : M_thrown t = r) (k : Rt (some (.int r)) (moM R m q t) kc ks) : kP_Mo_thrown base sa [.ref m] (moM R m q t) kc ks Rt := by
  refine ⟨Nat.le_of_ble_eq_true rfl, fun G hG => ?_⟩
  refine (show JJ C R base m G 0 [(0, .ref m)] [] q t kc ks (M_thrown t) r from ?_) hw h
  refine jjs hG rfl rfl ?_
  refine jj_gi hG (k := 0) rfl rfl rfl rfl ?_
  exact jj_rit hG rfl rfl rfl k
noncomputable def M_maskHigh (p0 : Int32) : Int64 := if 0 < p0 then (if p0 < (64 : Int32) then ((((-1) : Int64) <<< ((Int32.toInt64 ((64 : Int32) - p0)) &&& 63))) else (((-1) : Int64))) else ((0 : Int64))
set_option maxRecDepth 100000 in
set_option maxHeartbeats 4000000 in
theorem k_maskHigh (base : Nat) (sa : Nat → Nat) {C : Nat × Nat} {R : pmM} {m : Nat} {q : Nat → Nat} {t : moS} {kc ks : Nat} {Rt : pmR} {p0 : Int32} {r : Int64} (hw : mW C R base m q t kc ks) (h : M_maskHigh p0 = r) (k : Rt (some (.long r)) (moM R m q t) kc ks) : kP_Mo_maskHigh base sa [.int p0] (moM R m q t) kc ks Rt := by
  refine ⟨Nat.le_of_ble_eq_true rfl, fun G hG => ?_⟩
  refine (show JJ C R base m G 0 [(0, .int p0)] [] q t kc ks (M_maskHigh p0) r from ?_) hw h
  refine jjs hG rfl rfl ?_
  refine jj_zgt hG (t := 8) rfl rfl ?_ ?_
  · refine jjs hG rfl rfl ?_
    refine jj_bi hG rfl cc_b64 ?_
    refine jj_ilt hG (t := 20) rfl rfl ?_ ?_
    · refine jj_l2 hG (v := ((-1) : Int64)) rfl rfl ?_
      refine jj_bi hG rfl cc_b64 ?_
      refine jjs hG rfl rfl ?_
      refine jjs hG rfl rfl ?_
      refine jjs hG rfl rfl ?_
      exact jj_rlt hG rfl rfl k
    refine jj_l2 hG (v := ((-1) : Int64)) rfl rfl ?_
    refine jj_go hG (t := 28) rfl rfl ?_
    exact jj_rlt hG rfl rfl k
  refine jj_lc hG (c := 0) (v := 0) rfl rfl ?_
  refine jj_go hG (t := 28) rfl rfl ?_
  exact jj_rlt hG rfl rfl k
noncomputable def M_maskLow (p0 : Int32) : Int64 := if (64 : Int32) < p0 then (if p0 < (128 : Int32) then ((((-1) : Int64) <<< ((Int32.toInt64 ((128 : Int32) - p0)) &&& 63))) else (((-1) : Int64))) else ((0 : Int64))
set_option maxRecDepth 100000 in
set_option maxHeartbeats 4000000 in
theorem k_maskLow (base : Nat) (sa : Nat → Nat) {C : Nat × Nat} {R : pmM} {m : Nat} {q : Nat → Nat} {t : moS} {kc ks : Nat} {Rt : pmR} {p0 : Int32} {r : Int64} (hw : mW C R base m q t kc ks) (h : M_maskLow p0 = r) (k : Rt (some (.long r)) (moM R m q t) kc ks) : kP_Mo_maskLow base sa [.int p0] (moM R m q t) kc ks Rt := by
  refine ⟨Nat.le_of_ble_eq_true rfl, fun G hG => ?_⟩
  refine (show JJ C R base m G 0 [(0, .int p0)] [] q t kc ks (M_maskLow p0) r from ?_) hw h
  refine jjs hG rfl rfl ?_
  refine jj_bi hG rfl cc_b64 ?_
  refine jj_igt hG (t := 10) rfl rfl ?_ ?_
  · refine jjs hG rfl rfl ?_
    refine jj_si hG rfl cc_s128 ?_
    refine jj_ilt hG (t := 23) rfl rfl ?_ ?_
    · refine jj_l2 hG (v := ((-1) : Int64)) rfl rfl ?_
      refine jj_si hG rfl cc_s128 ?_
      refine jjs hG rfl rfl ?_
      refine jjs hG rfl rfl ?_
      refine jjs hG rfl rfl ?_
      exact jj_rlt hG rfl rfl k
    refine jj_l2 hG (v := ((-1) : Int64)) rfl rfl ?_
    refine jj_go hG (t := 32) rfl rfl ?_
    exact jj_rlt hG rfl rfl k
  refine jj_lc hG (c := 0) (v := 0) rfl rfl ?_
  refine jj_go hG (t := 32) rfl rfl ?_
  exact jj_rlt hG rfl rfl k
noncomputable def M_isPrefix_b36 : Int32 := (0 : Int32)
noncomputable def M_isPrefix (p0 : Int64) (p2 : Int64) (p4 : Int32) : Int32 := if (p0 &&& ((M_maskHigh p4) ^^^ ((-1) : Int64))) = (0 : Int64) then (if (p2 &&& ((M_maskLow p4) ^^^ ((-1) : Int64))) = (0 : Int64) then ((1 : Int32)) else ((M_isPrefix_b36))) else ((M_isPrefix_b36))
set_option maxRecDepth 100000 in
set_option maxHeartbeats 4000000 in
theorem k_isPrefix (base : Nat) (sa : Nat → Nat) {C : Nat × Nat} {R : pmM} {m : Nat} {q : Nat → Nat} {t : moS} {kc ks : Nat} {Rt : pmR} {p0 : Int64} {p2 : Int64} {p4 : Int32} {r : Int32} (hw : mW C R base m q t kc ks) (h : M_isPrefix p0 p2 p4 = r) (k : Rt (some (.int r)) (moM R m q t) kc ks) : kP_Mo_isPrefix base sa [.long p0, .long p2, .int p4] (moM R m q t) kc ks Rt := by
  refine ⟨Nat.le_of_ble_eq_true rfl, fun G hG => ?_⟩
  have b36 : JJ C R base m G 36 [] [] q t kc ks M_isPrefix_b36 r := by
    refine jj_ic hG rfl cc_i0 ?_
    exact jj_rit hG rfl rfl rfl k
  refine (show JJ C R base m G 0 [(0, .long p0), (2, .long p2), (4, .int p4)] [] q t kc ks (M_isPrefix p0 p2 p4) r from ?_) hw h
  refine jjs hG rfl rfl ?_
  refine jjs hG rfl rfl ?_
  refine jj_ct hG 2 rfl rfl (Nat.le_of_ble_eq_true rfl) (by decide) (Nat.le_of_ble_eq_true rfl) rfl (st' := [.long p0]) rfl (v := .long (M_maskHigh p4)) (fun _ hw k => k_maskHigh base sa hw rfl k) ?_
  refine jj_l2 hG (v := ((-1) : Int64)) rfl rfl ?_
  refine jjs hG rfl rfl ?_
  refine jjs hG rfl rfl ?_
  refine jj_lc hG (c := 0) (v := 0) rfl rfl ?_
  refine jjs hG rfl rfl ?_
  refine jj_lne hG (t := 36) rfl rfl ?_ ?_
  · exact jj_wl hG [] rfl (b36)
  refine jjs hG rfl rfl ?_
  refine jjs hG rfl rfl ?_
  refine jj_ct hG 2 rfl rfl (Nat.le_of_ble_eq_true rfl) (by decide) (Nat.le_of_ble_eq_true rfl) rfl (st' := [.long p2]) rfl (v := .long (M_maskLow p4)) (fun _ hw k => k_maskLow base sa hw rfl k) ?_
  refine jj_l2 hG (v := ((-1) : Int64)) rfl rfl ?_
  refine jjs hG rfl rfl ?_
  refine jjs hG rfl rfl ?_
  refine jj_lc hG (c := 0) (v := 0) rfl rfl ?_
  refine jjs hG rfl rfl ?_
  refine jj_lne hG (t := 36) rfl rfl ?_ ?_
  · exact jj_wl hG [] rfl (b36)
  refine jj_ic hG rfl cc_i1 ?_
  refine jj_go hG (t := 37) rfl rfl ?_
  exact jj_rit hG rfl rfl rfl k
noncomputable def M_covers_b34 : Int32 := (0 : Int32)
noncomputable def M_covers (p0 : Int64) (p2 : Int64) (p4 : Int32) (p5 : Int64) (p7 : Int64) : Int32 := if ((p0 ^^^ p5) &&& (M_maskHigh p4)) = (0 : Int64) then (if ((p2 ^^^ p7) &&& (M_maskLow p4)) = (0 : Int64) then ((1 : Int32)) else ((M_covers_b34))) else ((M_covers_b34))
set_option maxRecDepth 100000 in
set_option maxHeartbeats 4000000 in
theorem k_covers (base : Nat) (sa : Nat → Nat) {C : Nat × Nat} {R : pmM} {m : Nat} {q : Nat → Nat} {t : moS} {kc ks : Nat} {Rt : pmR} {p0 : Int64} {p2 : Int64} {p4 : Int32} {p5 : Int64} {p7 : Int64} {r : Int32} (hw : mW C R base m q t kc ks) (h : M_covers p0 p2 p4 p5 p7 = r) (k : Rt (some (.int r)) (moM R m q t) kc ks) : kP_Mo_covers base sa [.long p0, .long p2, .int p4, .long p5, .long p7] (moM R m q t) kc ks Rt := by
  refine ⟨Nat.le_of_ble_eq_true rfl, fun G hG => ?_⟩
  have b34 : JJ C R base m G 34 [] [] q t kc ks M_covers_b34 r := by
    refine jj_ic hG rfl cc_i0 ?_
    exact jj_rit hG rfl rfl rfl k
  refine (show JJ C R base m G 0 [(0, .long p0), (2, .long p2), (4, .int p4), (5, .long p5), (7, .long p7)] [] q t kc ks (M_covers p0 p2 p4 p5 p7) r from ?_) hw h
  refine jjs hG rfl rfl ?_
  refine jjs hG rfl rfl ?_
  refine jjs hG rfl rfl ?_
  refine jjs hG rfl rfl ?_
  refine jj_ct hG 2 rfl rfl (Nat.le_of_ble_eq_true rfl) (by decide) (Nat.le_of_ble_eq_true rfl) rfl (st' := [.long (p0 ^^^ p5)]) rfl (v := .long (M_maskHigh p4)) (fun _ hw k => k_maskHigh base sa hw rfl k) ?_
  refine jjs hG rfl rfl ?_
  refine jj_lc hG (c := 0) (v := 0) rfl rfl ?_
  refine jjs hG rfl rfl ?_
  refine jj_lne hG (t := 34) rfl rfl ?_ ?_
  · exact jj_wl hG [] rfl (b34)
  refine jjs hG rfl rfl ?_
  refine jjs hG rfl rfl ?_
  refine jjs hG rfl rfl ?_
  refine jjs hG rfl rfl ?_
  refine jj_ct hG 2 rfl rfl (Nat.le_of_ble_eq_true rfl) (by decide) (Nat.le_of_ble_eq_true rfl) rfl (st' := [.long (p2 ^^^ p7)]) rfl (v := .long (M_maskLow p4)) (fun _ hw k => k_maskLow base sa hw rfl k) ?_
  refine jjs hG rfl rfl ?_
  refine jj_lc hG (c := 0) (v := 0) rfl rfl ?_
  refine jjs hG rfl rfl ?_
  refine jj_lne hG (t := 34) rfl rfl ?_ ?_
  · exact jj_wl hG [] rfl (b34)
  refine jj_ic hG rfl cc_i1 ?_
  refine jj_go hG (t := 35) rfl rfl ?_
  exact jj_rit hG rfl rfl rfl k
noncomputable def M_coversPrefix_b25 : Int32 := (0 : Int32)
noncomputable def M_coversPrefix (p0 : Int64) (p2 : Int64) (p4 : Int32) (p5 : Int64) (p7 : Int64) (p9 : Int32) : Int32 := if p9 < p4 then ((M_coversPrefix_b25)) else (if (M_covers p0 p2 p4 p5 p7) = 0 then ((M_coversPrefix_b25)) else ((1 : Int32)))
set_option maxRecDepth 100000 in
set_option maxHeartbeats 4000000 in
theorem k_coversPrefix (base : Nat) (sa : Nat → Nat) {C : Nat × Nat} {R : pmM} {m : Nat} {q : Nat → Nat} {t : moS} {kc ks : Nat} {Rt : pmR} {p0 : Int64} {p2 : Int64} {p4 : Int32} {p5 : Int64} {p7 : Int64} {p9 : Int32} {r : Int32} (hw : mW C R base m q t kc ks) (h : M_coversPrefix p0 p2 p4 p5 p7 p9 = r) (k : Rt (some (.int r)) (moM R m q t) kc ks) : kP_Mo_coversPrefix base sa [.long p0, .long p2, .int p4, .long p5, .long p7, .int p9] (moM R m q t) kc ks Rt := by
  refine ⟨Nat.le_of_ble_eq_true rfl, fun G hG => ?_⟩
  have b25 : JJ C R base m G 25 [] [] q t kc ks M_coversPrefix_b25 r := by
    refine jj_ic hG rfl cc_i0 ?_
    exact jj_rit hG rfl rfl rfl k
  refine (show JJ C R base m G 0 [(0, .long p0), (2, .long p2), (4, .int p4), (5, .long p5), (7, .long p7), (9, .int p9)] [] q t kc ks (M_coversPrefix p0 p2 p4 p5 p7 p9) r from ?_) hw h
  refine jjs hG rfl rfl ?_
  refine jjs hG rfl rfl ?_
  refine jj_igt hG (t := 25) rfl rfl ?_ ?_
  · exact jj_wl hG [] rfl (b25)
  refine jjs hG rfl rfl ?_
  refine jjs hG rfl rfl ?_
  refine jjs hG rfl rfl ?_
  refine jjs hG rfl rfl ?_
  refine jjs hG rfl rfl ?_
  refine jj_ct hG 2 rfl rfl (Nat.le_of_ble_eq_true rfl) (by decide) (Nat.le_of_ble_eq_true rfl) rfl (st' := []) rfl (v := .int (M_covers p0 p2 p4 p5 p7)) (fun _ hw k => k_covers base sa hw rfl k) ?_
  refine jj_zeq hG (t := 25) rfl rfl ?_ ?_
  · exact jj_wl hG [] rfl (b25)
  refine jj_ic hG rfl cc_i1 ?_
  refine jj_go hG (t := 26) rfl rfl ?_
  exact jj_rit hG rfl rfl rfl k
noncomputable def M_isLess (p0 : Int64) (p2 : Int64) : Int32 := if (p0 + ((-9223372036854775808) : Int64)) < (p2 + ((-9223372036854775808) : Int64)) then ((1 : Int32)) else ((0 : Int32))
set_option maxRecDepth 100000 in
set_option maxHeartbeats 4000000 in
theorem k_isLess (base : Nat) (sa : Nat → Nat) {C : Nat × Nat} {R : pmM} {m : Nat} {q : Nat → Nat} {t : moS} {kc ks : Nat} {Rt : pmR} {p0 : Int64} {p2 : Int64} {r : Int32} (hw : mW C R base m q t kc ks) (h : M_isLess p0 p2 = r) (k : Rt (some (.int r)) (moM R m q t) kc ks) : kP_Mo_isLess base sa [.long p0, .long p2] (moM R m q t) kc ks Rt := by
  refine ⟨Nat.le_of_ble_eq_true rfl, fun G hG => ?_⟩
  refine (show JJ C R base m G 0 [(0, .long p0), (2, .long p2)] [] q t kc ks (M_isLess p0 p2) r from ?_) hw h
  refine jjs hG rfl rfl ?_
  refine jj_l2 hG (v := ((-9223372036854775808) : Int64)) rfl rfl ?_
  refine jjs hG rfl rfl ?_
  refine jjs hG rfl rfl ?_
  refine jj_l2 hG (v := ((-9223372036854775808) : Int64)) rfl rfl ?_
  refine jjs hG rfl rfl ?_
  refine jjs hG rfl rfl ?_
  refine jj_lge hG (t := 18) rfl rfl ?_ ?_
  · refine jj_ic hG rfl cc_i0 ?_
    exact jj_rit hG rfl rfl rfl k
  refine jj_ic hG rfl cc_i1 ?_
  refine jj_go hG (t := 19) rfl rfl ?_
  exact jj_rit hG rfl rfl rfl k
noncomputable def M_isAhead (p0 : Int64) (p2 : Int64) (p4 : Int32) (p5 : Int64) (p7 : Int64) (p9 : Int32) : Option Int32 := if p0 = p5 then (if p2 = p7 then (if p4 < p9 then ((some (1 : Int32))) else ((some (0 : Int32)))) else ((okZ (M_isLess p2 p7) (some (M_isLess p2 p7))))) else ((okZ (M_isLess p0 p5) (some (M_isLess p0 p5))))
set_option maxRecDepth 100000 in
set_option maxHeartbeats 4000000 in
theorem k_isAhead (base : Nat) (sa : Nat → Nat) {C : Nat × Nat} {R : pmM} {m : Nat} {q : Nat → Nat} {t : moS} {kc ks : Nat} {Rt : pmR} {p0 : Int64} {p2 : Int64} {p4 : Int32} {p5 : Int64} {p7 : Int64} {p9 : Int32} {r : Int32} (hw : mW C R base m q t kc ks) (h : M_isAhead p0 p2 p4 p5 p7 p9 = (some r)) (k : Rt (some (.int r)) (moM R m q t) kc ks) : kP_Mo_isAhead base sa [.long p0, .long p2, .int p4, .long p5, .long p7, .int p9] (moM R m q t) kc ks Rt := by
  refine ⟨Nat.le_of_ble_eq_true rfl, fun G hG => ?_⟩
  refine (show JJ C R base m G 0 [(0, .long p0), (2, .long p2), (4, .int p4), (5, .long p5), (7, .long p7), (9, .int p9)] [] q t kc ks (M_isAhead p0 p2 p4 p5 p7 p9) (some r) from ?_) hw h
  refine jjs hG rfl rfl ?_
  refine jjs hG rfl rfl ?_
  refine jjs hG rfl rfl ?_
  refine jj_leq hG (t := 14) rfl rfl ?_ ?_
  · refine jjs hG rfl rfl ?_
    refine jjs hG rfl rfl ?_
    refine jjs hG rfl rfl ?_
    refine jj_leq hG (t := 28) rfl rfl ?_ ?_
    · refine jjs hG rfl rfl ?_
      refine jjs hG rfl rfl ?_
      refine jj_ige hG (t := 39) rfl rfl ?_ ?_
      · refine jj_ic hG rfl cc_i0 ?_
        exact jj_ri hG rfl rfl rfl k
      refine jj_ic hG rfl cc_i1 ?_
      refine jj_go hG (t := 40) rfl rfl ?_
      exact jj_ri hG rfl rfl rfl k
    refine jjs hG rfl rfl ?_
    refine jjs hG rfl rfl ?_
    refine jj_ct hG 2 rfl rfl (Nat.le_of_ble_eq_true rfl) (by decide) (Nat.le_of_ble_eq_true rfl) rfl (st' := []) rfl (v := .int (M_isLess p2 p7)) (fun _ hw k => k_isLess base sa hw rfl k) ?_
    exact jj_rz hG rfl rfl k
  refine jjs hG rfl rfl ?_
  refine jjs hG rfl rfl ?_
  refine jj_ct hG 2 rfl rfl (Nat.le_of_ble_eq_true rfl) (by decide) (Nat.le_of_ble_eq_true rfl) rfl (st' := []) rfl (v := .int (M_isLess p0 p5)) (fun _ hw k => k_isLess base sa hw rfl k) ?_
  exact jj_rz hG rfl rfl k
noncomputable def M_bitsOf (p0 : Int32) : Int32 := if p0 = 0 then ((32 : Int32)) else ((128 : Int32))
set_option maxRecDepth 100000 in
set_option maxHeartbeats 4000000 in
theorem k_bitsOf (base : Nat) (sa : Nat → Nat) {C : Nat × Nat} {R : pmM} {m : Nat} {q : Nat → Nat} {t : moS} {kc ks : Nat} {Rt : pmR} {p0 : Int32} {r : Int32} (hw : mW C R base m q t kc ks) (h : M_bitsOf p0 = r) (k : Rt (some (.int r)) (moM R m q t) kc ks) : kP_Mo_bitsOf base sa [.int p0] (moM R m q t) kc ks Rt := by
  refine ⟨Nat.le_of_ble_eq_true rfl, fun G hG => ?_⟩
  refine (show JJ C R base m G 0 [(0, .int p0)] [] q t kc ks (M_bitsOf p0) r from ?_) hw h
  refine jjs hG rfl rfl ?_
  refine jj_zne hG (t := 9) rfl rfl ?_ ?_
  · refine jj_si hG rfl cc_s128 ?_
    exact jj_rit hG rfl rfl rfl k
  refine jj_bi hG rfl cc_b32 ?_
  refine jj_go hG (t := 12) rfl rfl ?_
  exact jj_rit hG rfl rfl rfl k
noncomputable def M_lay_s3 (t : moS) (p1 : Int32) (a2 : Int32) : Option ((Int32 × moS) ⊕ moS) := if a2 < 0 then ((xo ((some t)))) else (Option.bind (wrI t 2 (moS.S t 3) ((p1 >>> (a2 &&& 31)) &&& (255 : Int32))) (fun s1 => (letS (moSS s1 3 ((moS.S s1 3) + (1 : Int32))) (fun s2 => ((some (.inl ((a2 + ((-8) : Int32)), s2))))))))
noncomputable def M_lay_b3 (t : moS) (p1 : Int32) (a2 : Int32) : Option moS := lp (fun x => M_lay_s3 x.2 p1 x.1) (a2, t)
noncomputable def M_lay (t : moS) (p1 : Int32) : Option moS := (M_lay_b3 t p1 (24 : Int32))
set_option maxRecDepth 100000 in
set_option maxHeartbeats 4000000 in
theorem k_lay (base : Nat) (sa : Nat → Nat) {C : Nat × Nat} {R : pmM} {m : Nat} {q : Nat → Nat} {t tz : moS} {kc ks : Nat} {Rt : pmR} {p1 : Int32} (hw : mW C R base m q t kc ks) (h : M_lay t p1 = (some tz)) (k : mW C R base m q tz kc ks → Rt none (moM R m q tz) kc ks) : kP_Mo_lay base sa [.ref m, .int p1] (moM R m q t) kc ks Rt := by
  refine ⟨Nat.le_of_ble_eq_true rfl, fun G hG => ?_⟩
  have b3 : ∀ (n : Nat) (a2 : Int32) (t : moS), JJ C R base m G 3 [(0, .ref m), (1, .int p1), (2, .int a2)] [] q t kc ks (lpN (fun x => M_lay_s3 x.2 p1 x.1) n (a2, t)) (some tz) := by
    intro n
    induction n with
    | zero => intro a2 t; exact jj_lp0
    | succ n ih3 =>
      intro a2 t
      refine jj_lpS (fun y3 c3 => ?_)
      refine (show JJ C R base m G 3 [(0, .ref m), (1, .int p1), (2, .int a2)] [] q t kc ks (M_lay_s3 t p1 a2) (some y3) from ?_)
      refine jjs hG rfl rfl ?_
      refine jj_zlt hG (t := 39) rfl rfl ?_ ?_
      · refine jj_exit c3 ?_
        exact jj_rvS hG rfl rfl (k)
      refine jjs hG rfl rfl ?_
      refine jj_gr hG (k := 2) rfl rfl rfl rfl ?_
      refine jjs hG rfl rfl ?_
      refine jj_gi hG (k := 3) rfl rfl rfl rfl ?_
      refine jjs hG rfl rfl ?_
      refine jjs hG rfl rfl ?_
      refine jjs hG rfl rfl ?_
      refine jj_si hG rfl cc_s255 ?_
      refine jjs hG rfl rfl ?_
      refine jj_is hG (k := 2) rfl rfl rfl (fun s1 => ?_)
      refine jjs hG rfl rfl ?_
      refine jjc hG rfl rfl rfl ?_
      refine jj_gi hG (k := 3) rfl rfl rfl rfl ?_
      refine jj_ic hG rfl cc_i1 ?_
      refine jjs hG rfl rfl ?_
      refine jj_pi hG (k := 3) rfl rfl rfl rfl (fun s2 => ?_)
      refine jj_inc hG rfl (Nat.le_of_ble_eq_true rfl) rfl cc_im8 ?_
      refine jj_go hG (t := 3) rfl rfl ?_
      exact jj_back c3 (jj_wl hG [1, 2, 0] rfl (ih3 _ _))
  refine (show JJ C R base m G 0 [(0, .ref m), (1, .int p1)] [] q t kc ks (M_lay t p1) (some tz) from ?_) hw h
  refine jj_bi hG rfl cc_b24 ?_
  refine jjc hG rfl rfl (Nat.le_of_ble_eq_true rfl) ?_
  refine jj_lp (fun n => ?_)
  exact jj_wl hG [1, 2, 0] rfl (b3 n _ _)
noncomputable def M_feed (t : moS) (p1 : Int32) (p2 : Int32) (p3 : Int32) (p4 : Int32) (p5 : Int32) : Option (Int32 × moS) := letS (moSS t 0 (0 : Int32)) (fun s1 => (if (4096 : Int32) < ((moS.S s1 3) + (20 : Int32)) then ((some ((0 : Int32), s1))) else (Option.bind (M_lay s1 p1) (fun s2 => (Option.bind (M_lay s2 p2) (fun s3 => (Option.bind (M_lay s3 p3) (fun s4 => (Option.bind (M_lay s4 p4) (fun s5 => (Option.bind (M_lay s5 p5) (fun s6 => ((some ((1 : Int32), s6)))))))))))))))
set_option maxRecDepth 100000 in
set_option maxHeartbeats 4000000 in
theorem k_feed (base : Nat) (sa : Nat → Nat) {C : Nat × Nat} {R : pmM} {m : Nat} {q : Nat → Nat} {t tz : moS} {kc ks : Nat} {Rt : pmR} {p1 : Int32} {p2 : Int32} {p3 : Int32} {p4 : Int32} {p5 : Int32} {r : Int32} (hw : mW C R base m q t kc ks) (h : M_feed t p1 p2 p3 p4 p5 = (some (r, tz))) (k : mW C R base m q tz kc ks → Rt (some (.int r)) (moM R m q tz) kc ks) : kP_Mo_feed base sa [.ref m, .int p1, .int p2, .int p3, .int p4, .int p5] (moM R m q t) kc ks Rt := by
  refine ⟨Nat.le_of_ble_eq_true rfl, fun G hG => ?_⟩
  refine (show JJ C R base m G 0 [(0, .ref m), (1, .int p1), (2, .int p2), (3, .int p3), (4, .int p4), (5, .int p5)] [] q t kc ks (M_feed t p1 p2 p3 p4 p5) (some (r, tz)) from ?_) hw h
  refine jjs hG rfl rfl ?_
  refine jj_ic hG rfl cc_i0 ?_
  refine jj_pi hG (k := 0) rfl rfl rfl rfl (fun s1 => ?_)
  refine jjs hG rfl rfl ?_
  refine jj_gi hG (k := 3) rfl rfl rfl rfl ?_
  refine jj_bi hG rfl cc_b20 ?_
  refine jjs hG rfl rfl ?_
  refine jj_si hG rfl cc_s4096 ?_
  refine jj_ile hG (t := 20) rfl rfl ?_ ?_
  · refine jjs hG rfl rfl ?_
    refine jjs hG rfl rfl ?_
    refine jj_cv hG 0 rfl rfl (Nat.le_of_ble_eq_true rfl) (by decide) (Nat.le_of_ble_eq_true rfl) rfl (st' := []) rfl (fun _ _ hw h k => pm_rcv_of moM_m (k_lay base sa hw h k)) (fun s2 => ?_)
    refine jjs hG rfl rfl ?_
    refine jjs hG rfl rfl ?_
    refine jj_cv hG 0 rfl rfl (Nat.le_of_ble_eq_true rfl) (by decide) (Nat.le_of_ble_eq_true rfl) rfl (st' := []) rfl (fun _ _ hw h k => pm_rcv_of moM_m (k_lay base sa hw h k)) (fun s3 => ?_)
    refine jjs hG rfl rfl ?_
    refine jjs hG rfl rfl ?_
    refine jj_cv hG 0 rfl rfl (Nat.le_of_ble_eq_true rfl) (by decide) (Nat.le_of_ble_eq_true rfl) rfl (st' := []) rfl (fun _ _ hw h k => pm_rcv_of moM_m (k_lay base sa hw h k)) (fun s4 => ?_)
    refine jjs hG rfl rfl ?_
    refine jjs hG rfl rfl ?_
    refine jj_cv hG 0 rfl rfl (Nat.le_of_ble_eq_true rfl) (by decide) (Nat.le_of_ble_eq_true rfl) rfl (st' := []) rfl (fun _ _ hw h k => pm_rcv_of moM_m (k_lay base sa hw h k)) (fun s5 => ?_)
    refine jjs hG rfl rfl ?_
    refine jjs hG rfl rfl ?_
    refine jj_cv hG 0 rfl rfl (Nat.le_of_ble_eq_true rfl) (by decide) (Nat.le_of_ble_eq_true rfl) rfl (st' := []) rfl (fun _ _ hw h k => pm_rcv_of moM_m (k_lay base sa hw h k)) (fun s6 => ?_)
    refine jj_ic hG rfl cc_i1 ?_
    exact jj_riS hG rfl rfl rfl k
  refine jj_ic hG rfl cc_i0 ?_
  exact jj_riS hG rfl rfl rfl k
noncomputable def M_end (t : moS) (p1 : Int32) : Option (Int32 × moS) := letS (moSS t 0 (0 : Int32)) (fun s1 => (if p1 < 0 then ((some ((0 : Int32), s1))) else (if (moS.S s1 3) < p1 then ((some ((0 : Int32), s1))) else (letS (moSS s1 3 p1) (fun s2 => ((some ((1 : Int32), s2))))))))
set_option maxRecDepth 100000 in
set_option maxHeartbeats 4000000 in
theorem k_end (base : Nat) (sa : Nat → Nat) {C : Nat × Nat} {R : pmM} {m : Nat} {q : Nat → Nat} {t tz : moS} {kc ks : Nat} {Rt : pmR} {p1 : Int32} {r : Int32} (hw : mW C R base m q t kc ks) (h : M_end t p1 = (some (r, tz))) (k : mW C R base m q tz kc ks → Rt (some (.int r)) (moM R m q tz) kc ks) : kP_Mo_end base sa [.ref m, .int p1] (moM R m q t) kc ks Rt := by
  refine ⟨Nat.le_of_ble_eq_true rfl, fun G hG => ?_⟩
  refine (show JJ C R base m G 0 [(0, .ref m), (1, .int p1)] [] q t kc ks (M_end t p1) (some (r, tz)) from ?_) hw h
  refine jjs hG rfl rfl ?_
  refine jj_ic hG rfl cc_i0 ?_
  refine jj_pi hG (k := 0) rfl rfl rfl rfl (fun s1 => ?_)
  refine jjs hG rfl rfl ?_
  refine jj_zlt hG (t := 17) rfl rfl ?_ ?_
  · refine jj_ic hG rfl cc_i0 ?_
    exact jj_riS hG rfl rfl rfl k
  refine jjs hG rfl rfl ?_
  refine jjs hG rfl rfl ?_
  refine jj_gi hG (k := 3) rfl rfl rfl rfl ?_
  refine jj_ile hG (t := 19) rfl rfl ?_ ?_
  · refine jjs hG rfl rfl ?_
    refine jjs hG rfl rfl ?_
    refine jj_pi hG (k := 3) rfl rfl rfl rfl (fun s2 => ?_)
    refine jj_ic hG rfl cc_i1 ?_
    exact jj_riS hG rfl rfl rfl k
  refine jj_ic hG rfl cc_i0 ?_
  exact jj_riS hG rfl rfl rfl k
noncomputable def M_isDigit_b16 : Int32 := (0 : Int32)
noncomputable def M_isDigit (p0 : Int32) : Int32 := if p0 < (48 : Int32) then ((M_isDigit_b16)) else (if (57 : Int32) < p0 then ((M_isDigit_b16)) else ((1 : Int32)))
set_option maxRecDepth 100000 in
set_option maxHeartbeats 4000000 in
theorem k_isDigit (base : Nat) (sa : Nat → Nat) {C : Nat × Nat} {R : pmM} {m : Nat} {q : Nat → Nat} {t : moS} {kc ks : Nat} {Rt : pmR} {p0 : Int32} {r : Int32} (hw : mW C R base m q t kc ks) (h : M_isDigit p0 = r) (k : Rt (some (.int r)) (moM R m q t) kc ks) : kP_Mo_isDigit base sa [.int p0] (moM R m q t) kc ks Rt := by
  refine ⟨Nat.le_of_ble_eq_true rfl, fun G hG => ?_⟩
  have b16 : JJ C R base m G 16 [] [] q t kc ks M_isDigit_b16 r := by
    refine jj_ic hG rfl cc_i0 ?_
    exact jj_rit hG rfl rfl rfl k
  refine (show JJ C R base m G 0 [(0, .int p0)] [] q t kc ks (M_isDigit p0) r from ?_) hw h
  refine jjs hG rfl rfl ?_
  refine jj_bi hG rfl cc_b48 ?_
  refine jj_ilt hG (t := 16) rfl rfl ?_ ?_
  · exact jj_wl hG [] rfl (b16)
  refine jjs hG rfl rfl ?_
  refine jj_bi hG rfl cc_b57 ?_
  refine jj_igt hG (t := 16) rfl rfl ?_ ?_
  · exact jj_wl hG [] rfl (b16)
  refine jj_ic hG rfl cc_i1 ?_
  refine jj_go hG (t := 17) rfl rfl ?_
  exact jj_rit hG rfl rfl rfl k
noncomputable def M_code_b131 (t : moS) (p1 : Int32) (a2 : Int32) (a5 : Int32) (u0 : Int64) (u1 : Int32) : Option ((Int64 × Int32) ⊕ Int64) := (some (.inl ((u0 + (Int32.toInt64 u1)), (a5 + (1 : Int32)))))
noncomputable def M_code_b103 (t : moS) (p1 : Int32) (a2 : Int32) (a3 : Int64) (a5 : Int32) (a6 : Int32) (a7 : Int32) : Option ((Int64 × Int32) ⊕ Int64) := if a7 = 0 then ((M_code_b131 t p1 a2 a5 ((40 : Int64) * a3) ((a6 - (48 : Int32)) + (27 : Int32)))) else ((M_code_b131 t p1 a2 a5 ((40 : Int64) * a3) ((a6 - (97 : Int32)) + (1 : Int32))))
noncomputable def M_code_b86 (t : moS) (p1 : Int32) (a2 : Int32) (a3 : Int64) (a5 : Int32) (a6 : Int32) (u0 : Int32) : Option ((Int64 × Int32) ⊕ Int64) := if u0 = 0 then (if (M_isDigit a6) = 0 then ((xo ((some (0 : Int64))))) else ((M_code_b103 t p1 a2 a3 a5 a6 u0))) else ((M_code_b103 t p1 a2 a3 a5 a6 u0))
noncomputable def M_code_b85 (t : moS) (p1 : Int32) (a2 : Int32) (a3 : Int64) (a5 : Int32) (a6 : Int32) : Option ((Int64 × Int32) ⊕ Int64) := (M_code_b86 t p1 a2 a3 a5 a6 (0 : Int32))
noncomputable def M_code_s45 (t : moS) (p1 : Int32) (a2 : Int32) (a3 : Int64) (a5 : Int32) : Option ((Int64 × Int32) ⊕ Int64) := if a5 < a2 then (Option.bind (rdI t 9 p1) (fun x1 => (Option.bind (rdI t 2 (x1 + a5)) (fun x2 => (if x2 < (97 : Int32) then ((M_code_b85 t p1 a2 a3 a5 x2)) else (if (122 : Int32) < x2 then ((M_code_b85 t p1 a2 a3 a5 x2)) else ((M_code_b86 t p1 a2 a3 a5 x2 (1 : Int32))))))))) else ((xo ((some a3))))
noncomputable def M_code_b45 (t : moS) (p1 : Int32) (a2 : Int32) (a3 : Int64) (a5 : Int32) : Option Int64 := lp (fun x => M_code_s45 t p1 a2 x.1 x.2) (a3, a5)
noncomputable def M_code_b32 (t : moS) (p1 : Int32) (a2 : Int32) : Option Int64 := if (12 : Int32) < a2 then ((some (0 : Int64))) else ((M_code_b45 t p1 a2 (0 : Int64) (0 : Int32)))
noncomputable def M_code (t : moS) (p1 : Int32) : Option Int64 := Option.bind (rdI t 10 p1) (fun x1 => (if x1 = (1 : Int32) then (Option.bind (rdI t 9 p1) (fun x2 => (Option.bind (rdI t 2 x2) (fun x3 => (if x3 = (42 : Int32) then ((some (37 : Int64))) else ((M_code_b32 t p1 x1))))))) else ((M_code_b32 t p1 x1))))
set_option maxRecDepth 100000 in
set_option maxHeartbeats 4000000 in
theorem k_code (base : Nat) (sa : Nat → Nat) {C : Nat × Nat} {R : pmM} {m : Nat} {q : Nat → Nat} {t : moS} {kc ks : Nat} {Rt : pmR} {p1 : Int32} {r : Int64} (hw : mW C R base m q t kc ks) (h : M_code t p1 = (some r)) (k : Rt (some (.long r)) (moM R m q t) kc ks) : kP_Mo_code base sa [.ref m, .int p1] (moM R m q t) kc ks Rt := by
  refine ⟨Nat.le_of_ble_eq_true rfl, fun G hG => ?_⟩
  have b45 : ∀ (a2 : Int32) (n : Nat) (a3 : Int64) (a5 : Int32), JJ C R base m G 45 [(0, .ref m), (1, .int p1), (2, .int a2), (3, .long a3), (5, .int a5)] [] q t kc ks (lpN (fun x => M_code_s45 t p1 a2 x.1 x.2) n (a3, a5)) (some r) := by
    intro a2 n
    induction n with
    | zero => intro a3 a5; exact jj_lp0
    | succ n ih45 =>
      intro a3 a5
      refine jj_lpS (fun y45 c45 => ?_)
      have b131 : ∀ (a5 : Int32) (u0 : Int64) (u1 : Int32), JJ C R base m G 131 [(0, .ref m), (1, .int p1), (2, .int a2), (5, .int a5)] [.int u1, .long u0] q t kc ks (M_code_b131 t p1 a2 a5 u0 u1) (some y45) := by
        intro a5 u0 u1
        refine jjs hG rfl rfl ?_
        refine jjs hG rfl rfl ?_
        refine jjc hG rfl rfl (Nat.le_of_ble_eq_true rfl) ?_
        refine jj_inc hG rfl (Nat.le_of_ble_eq_true rfl) rfl cc_i1 ?_
        refine jj_go hG (t := 45) rfl rfl ?_
        exact jj_back c45 (jj_wl hG [2, 3, 4, 1, 0] rfl (ih45 _ _))
      have b103 : ∀ (a3 : Int64) (a5 : Int32) (a6 : Int32) (a7 : Int32), JJ C R base m G 103 [(0, .ref m), (1, .int p1), (2, .int a2), (3, .long a3), (5, .int a5), (6, .int a6), (7, .int a7)] [] q t kc ks (M_code_b103 t p1 a2 a3 a5 a6 a7) (some y45) := by
        intro a3 a5 a6 a7
        refine jj_l2 hG (v := (40 : Int64)) rfl rfl ?_
        refine jjs hG rfl rfl ?_
        refine jjs hG rfl rfl ?_
        refine jjs hG rfl rfl ?_
        refine jj_zeq hG (t := 123) rfl rfl ?_ ?_
        · refine jjs hG rfl rfl ?_
          refine jj_bi hG rfl cc_b48 ?_
          refine jjs hG rfl rfl ?_
          refine jj_bi hG rfl cc_b27 ?_
          refine jjs hG rfl rfl ?_
          exact jj_wl hG [0, 1, 2, 4] rfl (b131 _ _ _)
        refine jjs hG rfl rfl ?_
        refine jj_bi hG rfl cc_b97 ?_
        refine jjs hG rfl rfl ?_
        refine jj_ic hG rfl cc_i1 ?_
        refine jjs hG rfl rfl ?_
        refine jj_go hG (t := 131) rfl rfl ?_
        exact jj_wl hG [0, 1, 2, 4] rfl (b131 _ _ _)
      have b86 : ∀ (a3 : Int64) (a5 : Int32) (a6 : Int32) (u0 : Int32), JJ C R base m G 86 [(0, .ref m), (1, .int p1), (2, .int a2), (3, .long a3), (5, .int a5), (6, .int a6)] [.int u0] q t kc ks (M_code_b86 t p1 a2 a3 a5 a6 u0) (some y45) := by
        intro a3 a5 a6 u0
        refine jjc hG rfl rfl (Nat.le_of_ble_eq_true rfl) ?_
        refine jjs hG rfl rfl ?_
        refine jj_zne hG (t := 103) rfl rfl ?_ ?_
        · exact jj_wl hG [1, 2, 3, 4, 5, 6, 0] rfl (b103 _ _ _ _)
        refine jjs hG rfl rfl ?_
        refine jj_ct hG 2 rfl rfl (Nat.le_of_ble_eq_true rfl) (by decide) (Nat.le_of_ble_eq_true rfl) rfl (st' := []) rfl (v := .int (M_isDigit a6)) (fun _ hw k => k_isDigit base sa hw rfl k) ?_
        refine jj_zne hG (t := 103) rfl rfl ?_ ?_
        · exact jj_wl hG [1, 2, 3, 4, 5, 6, 0] rfl (b103 _ _ _ _)
        refine jj_exit c45 ?_
        refine jj_lc hG (c := 0) (v := 0) rfl rfl ?_
        exact jj_rl hG rfl rfl k
      have b85 : ∀ (a3 : Int64) (a5 : Int32) (a6 : Int32), JJ C R base m G 85 [(0, .ref m), (1, .int p1), (2, .int a2), (3, .long a3), (5, .int a5), (6, .int a6)] [] q t kc ks (M_code_b85 t p1 a2 a3 a5 a6) (some y45) := by
        intro a3 a5 a6
        refine jj_ic hG rfl cc_i0 ?_
        exact jj_wl hG [0, 1, 2, 3, 4, 5] rfl (b86 _ _ _ _)
      refine (show JJ C R base m G 45 [(0, .ref m), (1, .int p1), (2, .int a2), (3, .long a3), (5, .int a5)] [] q t kc ks (M_code_s45 t p1 a2 a3 a5) (some y45) from ?_)
      refine jjs hG rfl rfl ?_
      refine jjs hG rfl rfl ?_
      refine jj_ige hG (t := 140) rfl rfl ?_ ?_
      · refine jj_exit c45 ?_
        refine jjs hG rfl rfl ?_
        exact jj_rl hG rfl rfl k
      refine jjs hG rfl rfl ?_
      refine jj_gr hG (k := 2) rfl rfl rfl rfl ?_
      refine jjs hG rfl rfl ?_
      refine jj_gr hG (k := 9) rfl rfl rfl rfl ?_
      refine jjs hG rfl rfl ?_
      refine jj_ia hG (k := 9) rfl rfl rfl (fun x1 => ?_)
      refine jjs hG rfl rfl ?_
      refine jjs hG rfl rfl ?_
      refine jj_ia hG (k := 2) rfl rfl rfl (fun x2 => ?_)
      refine jjc hG rfl rfl (Nat.le_of_ble_eq_true rfl) ?_
      refine jjs hG rfl rfl ?_
      refine jj_bi hG rfl cc_b97 ?_
      refine jj_ilt hG (t := 85) rfl rfl ?_ ?_
      · exact jj_wl hG [1, 2, 3, 4, 5, 0] rfl (b85 _ _ _)
      refine jjs hG rfl rfl ?_
      refine jj_bi hG rfl cc_b122 ?_
      refine jj_igt hG (t := 85) rfl rfl ?_ ?_
      · exact jj_wl hG [1, 2, 3, 4, 5, 0] rfl (b85 _ _ _)
      refine jj_ic hG rfl cc_i1 ?_
      refine jj_go hG (t := 86) rfl rfl ?_
      exact jj_wl hG [1, 2, 3, 4, 5, 0] rfl (b86 _ _ _ _)
  have b32 : ∀ (a2 : Int32), JJ C R base m G 32 [(0, .ref m), (1, .int p1), (2, .int a2)] [] q t kc ks (M_code_b32 t p1 a2) (some r) := by
    intro a2
    refine jjs hG rfl rfl ?_
    refine jj_bi hG rfl cc_b12 ?_
    refine jj_ile hG (t := 40) rfl rfl ?_ ?_
    · refine jj_lc hG (c := 0) (v := 0) rfl rfl ?_
      refine jjc hG rfl rfl (Nat.le_of_ble_eq_true rfl) ?_
      refine jj_ic hG rfl cc_i0 ?_
      refine jjc hG rfl rfl (Nat.le_of_ble_eq_true rfl) ?_
      refine jj_lp (fun n => ?_)
      exact jj_wl hG [2, 3, 4, 1, 0] rfl (b45 _ n _ _)
    refine jj_lc hG (c := 0) (v := 0) rfl rfl ?_
    exact jj_rl hG rfl rfl k
  refine (show JJ C R base m G 0 [(0, .ref m), (1, .int p1)] [] q t kc ks (M_code t p1) (some r) from ?_) hw h
  refine jjs hG rfl rfl ?_
  refine jj_gr hG (k := 10) rfl rfl rfl rfl ?_
  refine jjs hG rfl rfl ?_
  refine jj_ia hG (k := 10) rfl rfl rfl (fun x1 => ?_)
  refine jjc hG rfl rfl (Nat.le_of_ble_eq_true rfl) ?_
  refine jjs hG rfl rfl ?_
  refine jj_ic hG rfl cc_i1 ?_
  refine jj_ine hG (t := 32) rfl rfl ?_ ?_
  · exact jj_wl hG [1, 2, 0] rfl (b32 _)
  refine jjs hG rfl rfl ?_
  refine jj_gr hG (k := 2) rfl rfl rfl rfl ?_
  refine jjs hG rfl rfl ?_
  refine jj_gr hG (k := 9) rfl rfl rfl rfl ?_
  refine jjs hG rfl rfl ?_
  refine jj_ia hG (k := 9) rfl rfl rfl (fun x2 => ?_)
  refine jj_ia hG (k := 2) rfl rfl rfl (fun x3 => ?_)
  refine jj_bi hG rfl cc_b42 ?_
  refine jj_ine hG (t := 32) rfl rfl ?_ ?_
  · exact jj_wl hG [1, 2, 0] rfl (b32 _)
  refine jj_l2 hG (v := (37 : Int64)) rfl rfl ?_
  exact jj_rl hG rfl rfl k
noncomputable def M_name (t : moS) (p1 : Int32) : Option Int64 := Option.bind (M_code t p1) (fun x1 => (if x1 = (37 : Int64) then ((some (0 : Int64))) else ((some x1))))
set_option maxRecDepth 100000 in
set_option maxHeartbeats 4000000 in
theorem k_name (base : Nat) (sa : Nat → Nat) {C : Nat × Nat} {R : pmM} {m : Nat} {q : Nat → Nat} {t : moS} {kc ks : Nat} {Rt : pmR} {p1 : Int32} {r : Int64} (hw : mW C R base m q t kc ks) (h : M_name t p1 = (some r)) (k : Rt (some (.long r)) (moM R m q t) kc ks) : kP_Mo_name base sa [.ref m, .int p1] (moM R m q t) kc ks Rt := by
  refine ⟨Nat.le_of_ble_eq_true rfl, fun G hG => ?_⟩
  refine (show JJ C R base m G 0 [(0, .ref m), (1, .int p1)] [] q t kc ks (M_name t p1) (some r) from ?_) hw h
  refine jjs hG rfl rfl ?_
  refine jjs hG rfl rfl ?_
  refine jj_cp hG 0 rfl rfl (Nat.le_of_ble_eq_true rfl) (by decide) (Nat.le_of_ble_eq_true rfl) rfl (st' := []) rfl (w := .long) (fun _ _ hw h k => pm_rcv_of moM_m (k_code base sa hw h k)) (fun x1 => ?_)
  refine jjc hG rfl rfl (Nat.le_of_ble_eq_true rfl) ?_
  refine jjs hG rfl rfl ?_
  refine jj_l2 hG (v := (37 : Int64)) rfl rfl ?_
  refine jjs hG rfl rfl ?_
  refine jj_lne hG (t := 18) rfl rfl ?_ ?_
  · refine jjs hG rfl rfl ?_
    exact jj_rl hG rfl rfl k
  refine jj_lc hG (c := 0) (v := 0) rfl rfl ?_
  refine jj_go hG (t := 19) rfl rfl ?_
  exact jj_rl hG rfl rfl k
noncomputable def M_number_s4 (t : moS) (p1 : Int32) (a2 : Int32) (a3 : Int32) : Option ((Int32 × Int32) ⊕ Int32) := Option.bind (rdI t 10 p1) (fun x1 => (if a3 < x1 then (Option.bind (rdI t 9 p1) (fun x2 => (Option.bind (rdI t 2 (x2 + a3)) (fun x3 => (if (M_isDigit x3) = 0 then ((xo ((some ((-1) : Int32))))) else (Option.bind (rdI t 10 p1) (fun x4 => (if (6 : Int32) < x4 then ((xo ((some ((-1) : Int32))))) else ((some (.inl (((((10 : Int32) * a2) + x3) - (48 : Int32)), (a3 + (1 : Int32)))))))))))))) else ((xo ((some a2))))))
noncomputable def M_number_b4 (t : moS) (p1 : Int32) (a2 : Int32) (a3 : Int32) : Option Int32 := lp (fun x => M_number_s4 t p1 x.1 x.2) (a2, a3)
noncomputable def M_number (t : moS) (p1 : Int32) : Option Int32 := (M_number_b4 t p1 (0 : Int32) (0 : Int32))
set_option maxRecDepth 100000 in
set_option maxHeartbeats 4000000 in
theorem k_number (base : Nat) (sa : Nat → Nat) {C : Nat × Nat} {R : pmM} {m : Nat} {q : Nat → Nat} {t : moS} {kc ks : Nat} {Rt : pmR} {p1 : Int32} {r : Int32} (hw : mW C R base m q t kc ks) (h : M_number t p1 = (some r)) (k : Rt (some (.int r)) (moM R m q t) kc ks) : kP_Mo_number base sa [.ref m, .int p1] (moM R m q t) kc ks Rt := by
  refine ⟨Nat.le_of_ble_eq_true rfl, fun G hG => ?_⟩
  have b4 : ∀ (n : Nat) (a2 : Int32) (a3 : Int32), JJ C R base m G 4 [(0, .ref m), (1, .int p1), (2, .int a2), (3, .int a3)] [] q t kc ks (lpN (fun x => M_number_s4 t p1 x.1 x.2) n (a2, a3)) (some r) := by
    intro n
    induction n with
    | zero => intro a2 a3; exact jj_lp0
    | succ n ih4 =>
      intro a2 a3
      refine jj_lpS (fun y4 c4 => ?_)
      refine (show JJ C R base m G 4 [(0, .ref m), (1, .int p1), (2, .int a2), (3, .int a3)] [] q t kc ks (M_number_s4 t p1 a2 a3) (some y4) from ?_)
      refine jjs hG rfl rfl ?_
      refine jjs hG rfl rfl ?_
      refine jj_gr hG (k := 10) rfl rfl rfl rfl ?_
      refine jjs hG rfl rfl ?_
      refine jj_ia hG (k := 10) rfl rfl rfl (fun x1 => ?_)
      refine jj_ige hG (t := 67) rfl rfl ?_ ?_
      · refine jj_exit c4 ?_
        refine jjs hG rfl rfl ?_
        exact jj_ri hG rfl rfl rfl k
      refine jjs hG rfl rfl ?_
      refine jj_gr hG (k := 2) rfl rfl rfl rfl ?_
      refine jjs hG rfl rfl ?_
      refine jj_gr hG (k := 9) rfl rfl rfl rfl ?_
      refine jjs hG rfl rfl ?_
      refine jj_ia hG (k := 9) rfl rfl rfl (fun x2 => ?_)
      refine jjs hG rfl rfl ?_
      refine jjs hG rfl rfl ?_
      refine jj_ia hG (k := 2) rfl rfl rfl (fun x3 => ?_)
      refine jjc hG rfl rfl (Nat.le_of_ble_eq_true rfl) ?_
      refine jjs hG rfl rfl ?_
      refine jj_ct hG 2 rfl rfl (Nat.le_of_ble_eq_true rfl) (by decide) (Nat.le_of_ble_eq_true rfl) rfl (st' := []) rfl (v := .int (M_isDigit x3)) (fun _ hw k => k_isDigit base sa hw rfl k) ?_
      refine jj_zeq hG (t := 48) rfl rfl ?_ ?_
      · refine jj_exit c4 ?_
        refine jj_ic hG rfl cc_im1 ?_
        exact jj_ri hG rfl rfl rfl k
      refine jjs hG rfl rfl ?_
      refine jj_gr hG (k := 10) rfl rfl rfl rfl ?_
      refine jjs hG rfl rfl ?_
      refine jj_ia hG (k := 10) rfl rfl rfl (fun x4 => ?_)
      refine jj_bi hG rfl cc_b6 ?_
      refine jj_ile hG (t := 50) rfl rfl ?_ ?_
      · refine jj_bi hG rfl cc_b10 ?_
        refine jjs hG rfl rfl ?_
        refine jjs hG rfl rfl ?_
        refine jjs hG rfl rfl ?_
        refine jjs hG rfl rfl ?_
        refine jj_bi hG rfl cc_b48 ?_
        refine jjs hG rfl rfl ?_
        refine jjc hG rfl rfl (Nat.le_of_ble_eq_true rfl) ?_
        refine jj_inc hG rfl (Nat.le_of_ble_eq_true rfl) rfl cc_i1 ?_
        refine jj_go hG (t := 4) rfl rfl ?_
        exact jj_back c4 (jj_wl hG [3, 4, 1, 0] rfl (ih4 _ _))
      refine jj_exit c4 ?_
      refine jj_ic hG rfl cc_im1 ?_
      exact jj_ri hG rfl rfl rfl k
  refine (show JJ C R base m G 0 [(0, .ref m), (1, .int p1)] [] q t kc ks (M_number t p1) (some r) from ?_) hw h
  refine jj_ic hG rfl cc_i0 ?_
  refine jjc hG rfl rfl (Nat.le_of_ble_eq_true rfl) ?_
  refine jj_ic hG rfl cc_i0 ?_
  refine jjc hG rfl rfl (Nat.le_of_ble_eq_true rfl) ?_
  refine jj_lp (fun n => ?_)
  exact jj_wl hG [2, 3, 1, 0] rfl (b4 n _ _)
noncomputable def M_isNumber_b29 (t : moS) : Option Int32 := (some (0 : Int32))
noncomputable def M_isNumber (t : moS) (p1 : Int32) (p2 : Int32) (p3 : Int32) : Option Int32 := Option.bind (M_number t p1) (fun x1 => (if x1 = ((-1) : Int32) then ((M_isNumber_b29 t)) else (if x1 < p2 then ((M_isNumber_b29 t)) else (if p3 < x1 then ((M_isNumber_b29 t)) else ((some (1 : Int32)))))))
set_option maxRecDepth 100000 in
set_option maxHeartbeats 4000000 in
theorem k_isNumber (base : Nat) (sa : Nat → Nat) {C : Nat × Nat} {R : pmM} {m : Nat} {q : Nat → Nat} {t : moS} {kc ks : Nat} {Rt : pmR} {p1 : Int32} {p2 : Int32} {p3 : Int32} {r : Int32} (hw : mW C R base m q t kc ks) (h : M_isNumber t p1 p2 p3 = (some r)) (k : Rt (some (.int r)) (moM R m q t) kc ks) : kP_Mo_isNumber base sa [.ref m, .int p1, .int p2, .int p3] (moM R m q t) kc ks Rt := by
  refine ⟨Nat.le_of_ble_eq_true rfl, fun G hG => ?_⟩
  have b29 : JJ C R base m G 29 [] [] q t kc ks (M_isNumber_b29 t) (some r) := by
    refine jj_ic hG rfl cc_i0 ?_
    exact jj_ri hG rfl rfl rfl k
  refine (show JJ C R base m G 0 [(0, .ref m), (1, .int p1), (2, .int p2), (3, .int p3)] [] q t kc ks (M_isNumber t p1 p2 p3) (some r) from ?_) hw h
  refine jjs hG rfl rfl ?_
  refine jjs hG rfl rfl ?_
  refine jj_cp hG 0 rfl rfl (Nat.le_of_ble_eq_true rfl) (by decide) (Nat.le_of_ble_eq_true rfl) rfl (st' := []) rfl (w := .int) (fun _ _ hw h k => pm_rcv_of moM_m (k_number base sa hw h k)) (fun x1 => ?_)
  refine jjc hG rfl rfl (Nat.le_of_ble_eq_true rfl) ?_
  refine jjs hG rfl rfl ?_
  refine jj_ic hG rfl cc_im1 ?_
  refine jj_ieq hG (t := 29) rfl rfl ?_ ?_
  · exact jj_wl hG [] rfl (b29)
  refine jjs hG rfl rfl ?_
  refine jjs hG rfl rfl ?_
  refine jj_ilt hG (t := 29) rfl rfl ?_ ?_
  · exact jj_wl hG [] rfl (b29)
  refine jjs hG rfl rfl ?_
  refine jjs hG rfl rfl ?_
  refine jj_igt hG (t := 29) rfl rfl ?_ ?_
  · exact jj_wl hG [] rfl (b29)
  refine jj_ic hG rfl cc_i1 ?_
  refine jj_go hG (t := 30) rfl rfl ?_
  exact jj_ri hG rfl rfl rfl k
noncomputable def M_isSecret_b74 (t : moS) (p1 : Int32) (a3 : Int32) (u0 : Int32) : Option ((Int32 × Int32) ⊕ Int32) := (some (.inl (u0, (a3 + (1 : Int32)))))
noncomputable def M_isSecret_b73 (t : moS) (p1 : Int32) (a3 : Int32) : Option ((Int32 × Int32) ⊕ Int32) := (M_isSecret_b74 t p1 a3 (0 : Int32))
noncomputable def M_isSecret_s19 (t : moS) (p1 : Int32) (a2 : Int32) (a3 : Int32) : Option ((Int32 × Int32) ⊕ Int32) := Option.bind (rdI t 10 p1) (fun x1 => (if a3 < x1 then (if a2 = 0 then ((xo ((okZ a2 (some a2))))) else (Option.bind (rdI t 9 p1) (fun x2 => (Option.bind (rdI t 2 (x2 + a3)) (fun x3 => (if x3 < (33 : Int32) then ((M_isSecret_b73 t p1 a3)) else (Option.bind (rdI t 9 p1) (fun x4 => (Option.bind (rdI t 2 (x4 + a3)) (fun x5 => (if (126 : Int32) < x5 then ((M_isSecret_b73 t p1 a3)) else ((M_isSecret_b74 t p1 a3 (1 : Int32)))))))))))))) else ((xo ((okZ a2 (some a2)))))))
noncomputable def M_isSecret_b19 (t : moS) (p1 : Int32) (a2 : Int32) (a3 : Int32) : Option Int32 := lp (fun x => M_isSecret_s19 t p1 x.1 x.2) (a2, a3)
noncomputable def M_isSecret_b16 (t : moS) (p1 : Int32) (u0 : Int32) : Option Int32 := (M_isSecret_b19 t p1 u0 (0 : Int32))
noncomputable def M_isSecret (t : moS) (p1 : Int32) : Option Int32 := Option.bind (rdI t 10 p1) (fun x1 => (if (16 : Int32) < x1 then ((M_isSecret_b16 t p1 (0 : Int32))) else ((M_isSecret_b16 t p1 (1 : Int32)))))
set_option maxRecDepth 100000 in
set_option maxHeartbeats 4000000 in
theorem k_isSecret (base : Nat) (sa : Nat → Nat) {C : Nat × Nat} {R : pmM} {m : Nat} {q : Nat → Nat} {t : moS} {kc ks : Nat} {Rt : pmR} {p1 : Int32} {r : Int32} (hw : mW C R base m q t kc ks) (h : M_isSecret t p1 = (some r)) (k : Rt (some (.int r)) (moM R m q t) kc ks) : kP_Mo_isSecret base sa [.ref m, .int p1] (moM R m q t) kc ks Rt := by
  refine ⟨Nat.le_of_ble_eq_true rfl, fun G hG => ?_⟩
  have b19 : ∀ (n : Nat) (a2 : Int32) (a3 : Int32), JJ C R base m G 19 [(0, .ref m), (1, .int p1), (2, .int a2), (3, .int a3)] [] q t kc ks (lpN (fun x => M_isSecret_s19 t p1 x.1 x.2) n (a2, a3)) (some r) := by
    intro n
    induction n with
    | zero => intro a2 a3; exact jj_lp0
    | succ n ih19 =>
      intro a2 a3
      refine jj_lpS (fun y19 c19 => ?_)
      have b74 : ∀ (a3 : Int32) (u0 : Int32), JJ C R base m G 74 [(0, .ref m), (1, .int p1), (3, .int a3)] [.int u0] q t kc ks (M_isSecret_b74 t p1 a3 u0) (some y19) := by
        intro a3 u0
        refine jjc hG rfl rfl (Nat.le_of_ble_eq_true rfl) ?_
        refine jj_inc hG rfl (Nat.le_of_ble_eq_true rfl) rfl cc_i1 ?_
        refine jj_go hG (t := 19) rfl rfl ?_
        exact jj_back c19 (jj_wl hG [2, 3, 1, 0] rfl (ih19 _ _))
      have b73 : ∀ (a3 : Int32), JJ C R base m G 73 [(0, .ref m), (1, .int p1), (3, .int a3)] [] q t kc ks (M_isSecret_b73 t p1 a3) (some y19) := by
        intro a3
        refine jj_ic hG rfl cc_i0 ?_
        exact jj_wl hG [0, 1, 2] rfl (b74 _ _)
      refine (show JJ C R base m G 19 [(0, .ref m), (1, .int p1), (2, .int a2), (3, .int a3)] [] q t kc ks (M_isSecret_s19 t p1 a2 a3) (some y19) from ?_)
      refine jjs hG rfl rfl ?_
      refine jjs hG rfl rfl ?_
      refine jj_gr hG (k := 10) rfl rfl rfl rfl ?_
      refine jjs hG rfl rfl ?_
      refine jj_ia hG (k := 10) rfl rfl rfl (fun x1 => ?_)
      refine jj_ige hG (t := 81) rfl rfl ?_ ?_
      · refine jj_exit c19 ?_
        refine jjs hG rfl rfl ?_
        exact jj_rz hG rfl rfl k
      refine jjs hG rfl rfl ?_
      refine jj_zeq hG (t := 81) rfl rfl ?_ ?_
      · refine jj_exit c19 ?_
        refine jjs hG rfl rfl ?_
        exact jj_rz hG rfl rfl k
      refine jjs hG rfl rfl ?_
      refine jj_gr hG (k := 2) rfl rfl rfl rfl ?_
      refine jjs hG rfl rfl ?_
      refine jj_gr hG (k := 9) rfl rfl rfl rfl ?_
      refine jjs hG rfl rfl ?_
      refine jj_ia hG (k := 9) rfl rfl rfl (fun x2 => ?_)
      refine jjs hG rfl rfl ?_
      refine jjs hG rfl rfl ?_
      refine jj_ia hG (k := 2) rfl rfl rfl (fun x3 => ?_)
      refine jj_bi hG rfl cc_b33 ?_
      refine jj_ilt hG (t := 73) rfl rfl ?_ ?_
      · exact jj_wl hG [0, 1, 3] rfl (b73 _)
      refine jjs hG rfl rfl ?_
      refine jj_gr hG (k := 2) rfl rfl rfl rfl ?_
      refine jjs hG rfl rfl ?_
      refine jj_gr hG (k := 9) rfl rfl rfl rfl ?_
      refine jjs hG rfl rfl ?_
      refine jj_ia hG (k := 9) rfl rfl rfl (fun x4 => ?_)
      refine jjs hG rfl rfl ?_
      refine jjs hG rfl rfl ?_
      refine jj_ia hG (k := 2) rfl rfl rfl (fun x5 => ?_)
      refine jj_bi hG rfl cc_b126 ?_
      refine jj_igt hG (t := 73) rfl rfl ?_ ?_
      · exact jj_wl hG [0, 1, 3] rfl (b73 _)
      refine jj_ic hG rfl cc_i1 ?_
      refine jj_go hG (t := 74) rfl rfl ?_
      exact jj_wl hG [0, 1, 3] rfl (b74 _ _)
  have b16 : ∀ (u0 : Int32), JJ C R base m G 16 [(0, .ref m), (1, .int p1)] [.int u0] q t kc ks (M_isSecret_b16 t p1 u0) (some r) := by
    intro u0
    refine jjc hG rfl rfl (Nat.le_of_ble_eq_true rfl) ?_
    refine jj_ic hG rfl cc_i0 ?_
    refine jjc hG rfl rfl (Nat.le_of_ble_eq_true rfl) ?_
    refine jj_lp (fun n => ?_)
    exact jj_wl hG [2, 3, 1, 0] rfl (b19 n _ _)
  refine (show JJ C R base m G 0 [(0, .ref m), (1, .int p1)] [] q t kc ks (M_isSecret t p1) (some r) from ?_) hw h
  refine jjs hG rfl rfl ?_
  refine jj_gr hG (k := 10) rfl rfl rfl rfl ?_
  refine jjs hG rfl rfl ?_
  refine jj_ia hG (k := 10) rfl rfl rfl (fun x1 => ?_)
  refine jj_bi hG rfl cc_b16 ?_
  refine jj_igt hG (t := 15) rfl rfl ?_ ?_
  · refine jj_ic hG rfl cc_i0 ?_
    exact jj_wl hG [0, 1] rfl (b16 _)
  refine jj_ic hG rfl cc_i1 ?_
  refine jj_go hG (t := 16) rfl rfl ?_
  exact jj_wl hG [0, 1] rfl (b16 _)
