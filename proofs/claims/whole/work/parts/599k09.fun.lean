/-! The model as functions, by program: turn .. digest -/
noncomputable def M_turn (p0 : Int32) : Int32 := if Int32.toInt (p0 / (16 : Int32)) < 0 ∨ 2 < Int32.toInt (p0 / (16 : Int32)) then (if (rem_I p0 (4 : Int32)) = 0 then ((6 : Int32)) else (if (rem_I p0 (4 : Int32)) = (1 : Int32) then ((10 : Int32)) else (if (rem_I p0 (4 : Int32)) = (2 : Int32) then ((15 : Int32)) else ((21 : Int32))))) else (List.getD [(if (rem_I p0 (4 : Int32)) = 0 then ((7 : Int32)) else (if (rem_I p0 (4 : Int32)) = (1 : Int32) then ((12 : Int32)) else (if (rem_I p0 (4 : Int32)) = (2 : Int32) then ((17 : Int32)) else ((22 : Int32))))), (if (rem_I p0 (4 : Int32)) = 0 then ((5 : Int32)) else (if (rem_I p0 (4 : Int32)) = (1 : Int32) then ((9 : Int32)) else (if (rem_I p0 (4 : Int32)) = (2 : Int32) then ((14 : Int32)) else ((20 : Int32))))), (if (rem_I p0 (4 : Int32)) = 0 then ((4 : Int32)) else (if (rem_I p0 (4 : Int32)) = (1 : Int32) then ((11 : Int32)) else (if (rem_I p0 (4 : Int32)) = (2 : Int32) then ((16 : Int32)) else ((23 : Int32)))))] (Int.toNat (Int32.toInt (p0 / (16 : Int32)) - 0)) (if (rem_I p0 (4 : Int32)) = 0 then ((7 : Int32)) else (if (rem_I p0 (4 : Int32)) = (1 : Int32) then ((12 : Int32)) else (if (rem_I p0 (4 : Int32)) = (2 : Int32) then ((17 : Int32)) else ((22 : Int32))))))
set_option maxRecDepth 100000 in
set_option maxHeartbeats 4000000 in
theorem k_turn (base : Nat) (sa : Nat → Nat) {C : Nat × Nat} {R : pmM} {m : Nat} {q : Nat → Nat} {t : moS} {kc ks : Nat} {Rt : pmR} {p0 : Int32} {r : Int32} (hw : mW C R base m q t kc ks) (h : M_turn p0 = r) (k : Rt (some (.int r)) (moM R m q t) kc ks) : kP_Mo_turn base sa [.int p0] (moM R m q t) kc ks Rt := by
  refine ⟨Nat.le_of_ble_eq_true rfl, fun G hG => ?_⟩
  refine (show JJ C R base m G 0 [(0, .int p0)] [] q t kc ks (M_turn p0) r from ?_) hw h
  refine jjs hG rfl rfl ?_
  refine jj_ic hG rfl cc_i4 ?_
  refine jjc hG rfl rfl (by decide) ?_
  refine jjc hG rfl rfl (Nat.le_of_ble_eq_true rfl) ?_
  refine jjs hG rfl rfl ?_
  refine jj_bi hG rfl cc_b16 ?_
  refine jjc hG rfl rfl (by decide) ?_
  refine jj_ts hG (td := 130) (n := 3) rfl rfl (by decide) ?_ (fun j hj => ?_)
  · refine jjs hG rfl rfl ?_
    refine jj_zne hG (t := 139) rfl rfl ?_ ?_
    · refine jjs hG rfl rfl ?_
      refine jj_ic hG rfl cc_i1 ?_
      refine jj_ine hG (t := 149) rfl rfl ?_ ?_
      · refine jjs hG rfl rfl ?_
        refine jj_ic hG rfl cc_i2 ?_
        refine jj_ine hG (t := 159) rfl rfl ?_ ?_
        · refine jj_bi hG rfl cc_b21 ?_
          exact jj_rit hG rfl rfl rfl k
        refine jj_bi hG rfl cc_b15 ?_
        refine jj_go hG (t := 161) rfl rfl ?_
        exact jj_rit hG rfl rfl rfl k
      refine jj_bi hG rfl cc_b10 ?_
      refine jj_go hG (t := 161) rfl rfl ?_
      exact jj_rit hG rfl rfl rfl k
    refine jj_bi hG rfl cc_b6 ?_
    refine jj_go hG (t := 161) rfl rfl ?_
    exact jj_rit hG rfl rfl rfl k
  match j, hj with
  | 0, _ =>
    refine ⟨28, 36, rfl, rfl, ?_⟩
    refine jjs hG rfl rfl ?_
    refine jj_zne hG (t := 45) rfl rfl ?_ ?_
    · refine jjs hG rfl rfl ?_
      refine jj_ic hG rfl cc_i1 ?_
      refine jj_ine hG (t := 55) rfl rfl ?_ ?_
      · refine jjs hG rfl rfl ?_
        refine jj_ic hG rfl cc_i2 ?_
        refine jj_ine hG (t := 65) rfl rfl ?_ ?_
        · refine jj_bi hG rfl cc_b22 ?_
          exact jj_rit hG rfl rfl rfl k
        refine jj_bi hG rfl cc_b17 ?_
        refine jj_go hG (t := 67) rfl rfl ?_
        exact jj_rit hG rfl rfl rfl k
      refine jj_bi hG rfl cc_b12 ?_
      refine jj_go hG (t := 67) rfl rfl ?_
      exact jj_rit hG rfl rfl rfl k
    refine jj_bi hG rfl cc_b7 ?_
    refine jj_go hG (t := 67) rfl rfl ?_
    exact jj_rit hG rfl rfl rfl k
  | 1, _ =>
    refine ⟨60, 68, rfl, rfl, ?_⟩
    refine jjs hG rfl rfl ?_
    refine jj_zne hG (t := 76) rfl rfl ?_ ?_
    · refine jjs hG rfl rfl ?_
      refine jj_ic hG rfl cc_i1 ?_
      refine jj_ine hG (t := 86) rfl rfl ?_ ?_
      · refine jjs hG rfl rfl ?_
        refine jj_ic hG rfl cc_i2 ?_
        refine jj_ine hG (t := 96) rfl rfl ?_ ?_
        · refine jj_bi hG rfl cc_b20 ?_
          exact jj_rit hG rfl rfl rfl k
        refine jj_bi hG rfl cc_b14 ?_
        refine jj_go hG (t := 98) rfl rfl ?_
        exact jj_rit hG rfl rfl rfl k
      refine jj_bi hG rfl cc_b9 ?_
      refine jj_go hG (t := 98) rfl rfl ?_
      exact jj_rit hG rfl rfl rfl k
    refine jj_ic hG rfl cc_i5 ?_
    refine jj_go hG (t := 98) rfl rfl ?_
    exact jj_rit hG rfl rfl rfl k
  | 2, _ =>
    refine ⟨91, 99, rfl, rfl, ?_⟩
    refine jjs hG rfl rfl ?_
    refine jj_zne hG (t := 107) rfl rfl ?_ ?_
    · refine jjs hG rfl rfl ?_
      refine jj_ic hG rfl cc_i1 ?_
      refine jj_ine hG (t := 117) rfl rfl ?_ ?_
      · refine jjs hG rfl rfl ?_
        refine jj_ic hG rfl cc_i2 ?_
        refine jj_ine hG (t := 127) rfl rfl ?_ ?_
        · refine jj_bi hG rfl cc_b23 ?_
          exact jj_rit hG rfl rfl rfl k
        refine jj_bi hG rfl cc_b16 ?_
        refine jj_go hG (t := 129) rfl rfl ?_
        exact jj_rit hG rfl rfl rfl k
      refine jj_bi hG rfl cc_b11 ?_
      refine jj_go hG (t := 129) rfl rfl ?_
      exact jj_rit hG rfl rfl rfl k
    refine jj_ic hG rfl cc_i4 ?_
    refine jj_go hG (t := 129) rfl rfl ?_
    exact jj_rit hG rfl rfl rfl k
  | n + 3, h => exact absurd h (by omega)
noncomputable def M_md5Block_b228 (t : moS) (a2 : Int32) (a3 : Int32) (a4 : Int32) (a5 : Int32) (a6 : Int32) (a7 : Int32) (u0 : Int32) : Option ((Int32 × Int32 × Int32 × Int32 × Int32 × moS) ⊕ moS) := Option.bind (rdI t 158 (rem_I u0 (16 : Int32))) (fun x1 => ((some (.inl (a5, (a3 + (M_turned (((a2 + a7) + (M_constant a6)) + x1) (M_turn a6))), a3, a4, (a6 + (1 : Int32)), t)))))
noncomputable def M_md5Block_b177 (t : moS) (a2 : Int32) (a3 : Int32) (a4 : Int32) (a5 : Int32) (a6 : Int32) (u0 : Int32) : Option ((Int32 × Int32 × Int32 × Int32 × Int32 × moS) ⊕ moS) := if a6 < (16 : Int32) then ((M_md5Block_b228 t a2 a3 a4 a5 a6 u0 a6)) else (if a6 < (32 : Int32) then ((M_md5Block_b228 t a2 a3 a4 a5 a6 u0 (((5 : Int32) * a6) + (1 : Int32)))) else (if a6 < (48 : Int32) then ((M_md5Block_b228 t a2 a3 a4 a5 a6 u0 (((3 : Int32) * a6) + (5 : Int32)))) else ((M_md5Block_b228 t a2 a3 a4 a5 a6 u0 ((7 : Int32) * a6)))))
noncomputable def M_md5Block_s101 (t : moS) (a2 : Int32) (a3 : Int32) (a4 : Int32) (a5 : Int32) (a6 : Int32) : Option ((Int32 × Int32 × Int32 × Int32 × Int32 × moS) ⊕ moS) := if a6 < (64 : Int32) then (if a6 < (16 : Int32) then ((M_md5Block_b177 t a2 a3 a4 a5 a6 ((a3 &&& a4) ||| ((a3 ^^^ ((-1) : Int32)) &&& a5)))) else (if a6 < (32 : Int32) then ((M_md5Block_b177 t a2 a3 a4 a5 a6 ((a5 &&& a3) ||| ((a5 ^^^ ((-1) : Int32)) &&& a4)))) else (if a6 < (48 : Int32) then ((M_md5Block_b177 t a2 a3 a4 a5 a6 ((a3 ^^^ a4) ^^^ a5))) else ((M_md5Block_b177 t a2 a3 a4 a5 a6 (a4 ^^^ (a3 ||| (a5 ^^^ ((-1) : Int32))))))))) else ((xo (Option.bind (rdI t 159 (0 : Int32)) (fun x1 => (Option.bind (wrI t 159 (0 : Int32) (x1 + a2)) (fun s2 => (Option.bind (rdI s2 159 (1 : Int32)) (fun x3 => (Option.bind (wrI s2 159 (1 : Int32) (x3 + a3)) (fun s4 => (Option.bind (rdI s4 159 (2 : Int32)) (fun x5 => (Option.bind (wrI s4 159 (2 : Int32) (x5 + a4)) (fun s6 => (Option.bind (rdI s6 159 (3 : Int32)) (fun x7 => (Option.bind (wrI s6 159 (3 : Int32) (x7 + a5)) (fun s8 => ((some s8))))))))))))))))))))
noncomputable def M_md5Block_b101 (t : moS) (a2 : Int32) (a3 : Int32) (a4 : Int32) (a5 : Int32) (a6 : Int32) : Option moS := lp (fun x => M_md5Block_s101 x.2.2.2.2.2 x.1 x.2.1 x.2.2.1 x.2.2.2.1 x.2.2.2.2.1) (a2, a3, a4, a5, a6, t)
noncomputable def M_md5Block_s2 (t : moS) (p1 : Int32) (a2 : Int32) : Option ((Int32 × moS) ⊕ moS) := if a2 < (16 : Int32) then (Option.bind (rdI t 157 (p1 + ((4 : Int32) * a2))) (fun x5 => (Option.bind (rdI t 157 ((p1 + ((4 : Int32) * a2)) + (1 : Int32))) (fun x6 => (Option.bind (rdI t 157 ((p1 + ((4 : Int32) * a2)) + (2 : Int32))) (fun x7 => (Option.bind (rdI t 157 ((p1 + ((4 : Int32) * a2)) + (3 : Int32))) (fun x8 => (Option.bind (wrI t 158 a2 (((x5 ||| (x6 <<< ((8 : Int32) &&& 31))) ||| (x7 <<< ((16 : Int32) &&& 31))) ||| (x8 <<< ((24 : Int32) &&& 31)))) (fun s9 => ((some (.inl ((a2 + (1 : Int32)), s9)))))))))))))) else ((xo (Option.bind (rdI t 159 (0 : Int32)) (fun x1 => (Option.bind (rdI t 159 (1 : Int32)) (fun x2 => (Option.bind (rdI t 159 (2 : Int32)) (fun x3 => (Option.bind (rdI t 159 (3 : Int32)) (fun x4 => ((M_md5Block_b101 t x1 x2 x3 x4 (0 : Int32)))))))))))))
noncomputable def M_md5Block_b2 (t : moS) (p1 : Int32) (a2 : Int32) : Option moS := lp (fun x => M_md5Block_s2 x.2 p1 x.1) (a2, t)
noncomputable def M_md5Block (t : moS) (p1 : Int32) : Option moS := (M_md5Block_b2 t p1 (0 : Int32))
set_option maxRecDepth 100000 in
set_option maxHeartbeats 4000000 in
theorem k_md5Block (base : Nat) (sa : Nat → Nat) {C : Nat × Nat} {R : pmM} {m : Nat} {q : Nat → Nat} {t tz : moS} {kc ks : Nat} {Rt : pmR} {p1 : Int32} (hw : mW C R base m q t kc ks) (h : M_md5Block t p1 = (some tz)) (k : mW C R base m q tz kc ks → Rt none (moM R m q tz) kc ks) : kP_Mo_md5Block base sa [.ref m, .int p1] (moM R m q t) kc ks Rt := by
  refine ⟨Nat.le_of_ble_eq_true rfl, fun G hG => ?_⟩
  have b101 : ∀ (n : Nat) (a2 : Int32) (a3 : Int32) (a4 : Int32) (a5 : Int32) (a6 : Int32) (t : moS), JJ C R base m G 101 [(0, .ref m), (2, .int a2), (3, .int a3), (4, .int a4), (5, .int a5), (6, .int a6)] [] q t kc ks (lpN (fun x => M_md5Block_s101 x.2.2.2.2.2 x.1 x.2.1 x.2.2.1 x.2.2.2.1 x.2.2.2.2.1) n (a2, a3, a4, a5, a6, t)) (some tz) := by
    intro n
    induction n with
    | zero => intro a2 a3 a4 a5 a6 t; exact jj_lp0
    | succ n ih101 =>
      intro a2 a3 a4 a5 a6 t
      refine jj_lpS (fun y101 c101 => ?_)
      have b228 : ∀ (a2 : Int32) (a3 : Int32) (a4 : Int32) (a5 : Int32) (a6 : Int32) (a7 : Int32) (u0 : Int32) (t : moS), JJ C R base m G 228 [(0, .ref m), (2, .int a2), (3, .int a3), (4, .int a4), (5, .int a5), (6, .int a6), (7, .int a7)] [.int u0] q t kc ks (M_md5Block_b228 t a2 a3 a4 a5 a6 a7 u0) (some y101) := by
        intro a2 a3 a4 a5 a6 a7 u0 t
        refine jj_bi hG rfl cc_b16 ?_
        refine jjc hG rfl rfl (by decide) ?_
        refine jjc hG rfl rfl (Nat.le_of_ble_eq_true rfl) ?_
        refine jjs hG rfl rfl ?_
        refine jjs hG rfl rfl ?_
        refine jjs hG rfl rfl ?_
        refine jjs hG rfl rfl ?_
        refine jjs hG rfl rfl ?_
        refine jj_ct hG 2 rfl rfl (Nat.le_of_ble_eq_true rfl) (by decide) (Nat.le_of_ble_eq_true rfl) rfl (st' := [.int (a2 + a7), .int a3]) rfl (v := .int (M_constant a6)) (fun _ hw k => k_constant base sa hw rfl k) ?_
        refine jjs hG rfl rfl ?_
        refine jjs hG rfl rfl ?_
        refine jj_gr hG (k := 158) rfl rfl rfl rfl ?_
        refine jj_at (pc' := 248) rfl ?_
        refine jjs hG rfl rfl ?_
        refine jj_ia hG (k := 158) rfl rfl rfl (fun x1 => ?_)
        refine jjs hG rfl rfl ?_
        refine jjs hG rfl rfl ?_
        refine jj_ct hG 2 rfl rfl (Nat.le_of_ble_eq_true rfl) (by decide) (Nat.le_of_ble_eq_true rfl) rfl (st' := [.int (((a2 + a7) + (M_constant a6)) + x1), .int a3]) rfl (v := .int (M_turn a6)) (fun _ hw k => k_turn base sa hw rfl k) ?_
        refine jj_ct hG 2 rfl rfl (Nat.le_of_ble_eq_true rfl) (by decide) (Nat.le_of_ble_eq_true rfl) rfl (st' := [.int a3]) rfl (v := .int (M_turned (((a2 + a7) + (M_constant a6)) + x1) (M_turn a6))) (fun _ hw k => k_turned base sa hw rfl k) ?_
        refine jjs hG rfl rfl ?_
        refine jjc hG rfl rfl (Nat.le_of_ble_eq_true rfl) ?_
        refine jjs hG rfl rfl ?_
        refine jjc hG rfl rfl (Nat.le_of_ble_eq_true rfl) ?_
        refine jjs hG rfl rfl ?_
        refine jjc hG rfl rfl (Nat.le_of_ble_eq_true rfl) ?_
        refine jjs hG rfl rfl ?_
        refine jjc hG rfl rfl (Nat.le_of_ble_eq_true rfl) ?_
        refine jj_at (pc' := 273) rfl ?_
        refine jjs hG rfl rfl ?_
        refine jjc hG rfl rfl (Nat.le_of_ble_eq_true rfl) ?_
        refine jj_inc hG rfl (Nat.le_of_ble_eq_true rfl) rfl cc_i1 ?_
        refine jj_go hG (t := 101) rfl rfl ?_
        exact jj_back c101 (jj_wl hG [7, 4, 1, 2, 3, 0] rfl (ih101 _ _ _ _ _ _))
      have b177 : ∀ (a2 : Int32) (a3 : Int32) (a4 : Int32) (a5 : Int32) (a6 : Int32) (u0 : Int32) (t : moS), JJ C R base m G 177 [(0, .ref m), (2, .int a2), (3, .int a3), (4, .int a4), (5, .int a5), (6, .int a6)] [.int u0] q t kc ks (M_md5Block_b177 t a2 a3 a4 a5 a6 u0) (some y101) := by
        intro a2 a3 a4 a5 a6 u0 t
        refine jjc hG rfl rfl (Nat.le_of_ble_eq_true rfl) ?_
        refine jjs hG rfl rfl ?_
        refine jj_bi hG rfl cc_b16 ?_
        refine jj_ige hG (t := 191) rfl rfl ?_ ?_
        · refine jjs hG rfl rfl ?_
          refine jj_bi hG rfl cc_b32 ?_
          refine jj_ige hG (t := 207) rfl rfl ?_ ?_
          · refine jjs hG rfl rfl ?_
            refine jj_bi hG rfl cc_b48 ?_
            refine jj_ige hG (t := 223) rfl rfl ?_ ?_
            · refine jj_bi hG rfl cc_b7 ?_
              refine jjs hG rfl rfl ?_
              refine jjs hG rfl rfl ?_
              exact jj_wl hG [1, 2, 3, 4, 5, 6, 0] rfl (b228 _ _ _ _ _ _ _ _)
            refine jj_ic hG rfl cc_i3 ?_
            refine jjs hG rfl rfl ?_
            refine jjs hG rfl rfl ?_
            refine jj_ic hG rfl cc_i5 ?_
            refine jjs hG rfl rfl ?_
            refine jj_go hG (t := 228) rfl rfl ?_
            exact jj_wl hG [1, 2, 3, 4, 5, 6, 0] rfl (b228 _ _ _ _ _ _ _ _)
          refine jj_ic hG rfl cc_i5 ?_
          refine jjs hG rfl rfl ?_
          refine jjs hG rfl rfl ?_
          refine jj_ic hG rfl cc_i1 ?_
          refine jjs hG rfl rfl ?_
          refine jj_go hG (t := 228) rfl rfl ?_
          exact jj_wl hG [1, 2, 3, 4, 5, 6, 0] rfl (b228 _ _ _ _ _ _ _ _)
        refine jjs hG rfl rfl ?_
        refine jj_go hG (t := 228) rfl rfl ?_
        exact jj_wl hG [1, 2, 3, 4, 5, 6, 0] rfl (b228 _ _ _ _ _ _ _ _)
      refine (show JJ C R base m G 101 [(0, .ref m), (2, .int a2), (3, .int a3), (4, .int a4), (5, .int a5), (6, .int a6)] [] q t kc ks (M_md5Block_s101 t a2 a3 a4 a5 a6) (some y101) from ?_)
      refine jjs hG rfl rfl ?_
      refine jj_bi hG rfl cc_b64 ?_
      refine jj_ige hG (t := 282) rfl rfl ?_ ?_
      · refine jj_exit c101 ?_
        refine jjs hG rfl rfl ?_
        refine jj_gr hG (k := 159) rfl rfl rfl rfl ?_
        refine jj_ic hG rfl cc_i0 ?_
        refine jjc2 hG rfl rfl rfl rfl ?_
        refine jj_ia hG (k := 159) rfl rfl rfl (fun x1 => ?_)
        refine jjs hG rfl rfl ?_
        refine jjs hG rfl rfl ?_
        refine jj_is hG (k := 159) rfl rfl rfl (fun s2 => ?_)
        refine jjs hG rfl rfl ?_
        refine jj_gr hG (k := 159) rfl rfl rfl rfl ?_
        refine jj_ic hG rfl cc_i1 ?_
        refine jjc2 hG rfl rfl rfl rfl ?_
        refine jj_ia hG (k := 159) rfl rfl rfl (fun x3 => ?_)
        refine jjs hG rfl rfl ?_
        refine jjs hG rfl rfl ?_
        refine jj_is hG (k := 159) rfl rfl rfl (fun s4 => ?_)
        refine jjs hG rfl rfl ?_
        refine jj_gr hG (k := 159) rfl rfl rfl rfl ?_
        refine jj_ic hG rfl cc_i2 ?_
        refine jjc2 hG rfl rfl rfl rfl ?_
        refine jj_ia hG (k := 159) rfl rfl rfl (fun x5 => ?_)
        refine jjs hG rfl rfl ?_
        refine jjs hG rfl rfl ?_
        refine jj_is hG (k := 159) rfl rfl rfl (fun s6 => ?_)
        refine jjs hG rfl rfl ?_
        refine jj_gr hG (k := 159) rfl rfl rfl rfl ?_
        refine jj_ic hG rfl cc_i3 ?_
        refine jjc2 hG rfl rfl rfl rfl ?_
        refine jj_ia hG (k := 159) rfl rfl rfl (fun x7 => ?_)
        refine jjs hG rfl rfl ?_
        refine jjs hG rfl rfl ?_
        refine jj_is hG (k := 159) rfl rfl rfl (fun s8 => ?_)
        exact jj_rvS hG rfl rfl (k)
      refine jjs hG rfl rfl ?_
      refine jj_bi hG rfl cc_b16 ?_
      refine jj_ige hG (t := 129) rfl rfl ?_ ?_
      · refine jjs hG rfl rfl ?_
        refine jj_bi hG rfl cc_b32 ?_
        refine jj_ige hG (t := 151) rfl rfl ?_ ?_
        · refine jjs hG rfl rfl ?_
          refine jj_bi hG rfl cc_b48 ?_
          refine jj_ige hG (t := 168) rfl rfl ?_ ?_
          · refine jjs hG rfl rfl ?_
            refine jjs hG rfl rfl ?_
            refine jjs hG rfl rfl ?_
            refine jj_ic hG rfl cc_im1 ?_
            refine jjs hG rfl rfl ?_
            refine jjs hG rfl rfl ?_
            refine jjs hG rfl rfl ?_
            exact jj_wl hG [0, 1, 2, 3, 4, 5] rfl (b177 _ _ _ _ _ _ _)
          refine jjs hG rfl rfl ?_
          refine jjs hG rfl rfl ?_
          refine jjs hG rfl rfl ?_
          refine jjs hG rfl rfl ?_
          refine jjs hG rfl rfl ?_
          refine jj_go hG (t := 177) rfl rfl ?_
          exact jj_wl hG [0, 1, 2, 3, 4, 5] rfl (b177 _ _ _ _ _ _ _)
        refine jjs hG rfl rfl ?_
        refine jjs hG rfl rfl ?_
        refine jjs hG rfl rfl ?_
        refine jjs hG rfl rfl ?_
        refine jj_ic hG rfl cc_im1 ?_
        refine jjs hG rfl rfl ?_
        refine jjs hG rfl rfl ?_
        refine jjs hG rfl rfl ?_
        refine jjs hG rfl rfl ?_
        refine jj_go hG (t := 177) rfl rfl ?_
        exact jj_wl hG [0, 1, 2, 3, 4, 5] rfl (b177 _ _ _ _ _ _ _)
      refine jjs hG rfl rfl ?_
      refine jjs hG rfl rfl ?_
      refine jjs hG rfl rfl ?_
      refine jjs hG rfl rfl ?_
      refine jj_ic hG rfl cc_im1 ?_
      refine jjs hG rfl rfl ?_
      refine jjs hG rfl rfl ?_
      refine jjs hG rfl rfl ?_
      refine jjs hG rfl rfl ?_
      refine jj_go hG (t := 177) rfl rfl ?_
      exact jj_wl hG [0, 1, 2, 3, 4, 5] rfl (b177 _ _ _ _ _ _ _)
  have b2 : ∀ (n : Nat) (a2 : Int32) (t : moS), JJ C R base m G 2 [(0, .ref m), (1, .int p1), (2, .int a2)] [] q t kc ks (lpN (fun x => M_md5Block_s2 x.2 p1 x.1) n (a2, t)) (some tz) := by
    intro n
    induction n with
    | zero => intro a2 t; exact jj_lp0
    | succ n ih2 =>
      intro a2 t
      refine jj_lpS (fun y2 c2 => ?_)
      refine (show JJ C R base m G 2 [(0, .ref m), (1, .int p1), (2, .int a2)] [] q t kc ks (M_md5Block_s2 t p1 a2) (some y2) from ?_)
      refine jjs hG rfl rfl ?_
      refine jj_bi hG rfl cc_b16 ?_
      refine jj_ige hG (t := 68) rfl rfl ?_ ?_
      · refine jj_exit c2 ?_
        refine jjs hG rfl rfl ?_
        refine jj_gr hG (k := 159) rfl rfl rfl rfl ?_
        refine jj_ic hG rfl cc_i0 ?_
        refine jj_ia hG (k := 159) rfl rfl rfl (fun x1 => ?_)
        refine jjc hG rfl rfl (Nat.le_of_ble_eq_true rfl) ?_
        refine jjs hG rfl rfl ?_
        refine jj_gr hG (k := 159) rfl rfl rfl rfl ?_
        refine jj_ic hG rfl cc_i1 ?_
        refine jj_ia hG (k := 159) rfl rfl rfl (fun x2 => ?_)
        refine jjc hG rfl rfl (Nat.le_of_ble_eq_true rfl) ?_
        refine jjs hG rfl rfl ?_
        refine jj_gr hG (k := 159) rfl rfl rfl rfl ?_
        refine jj_ic hG rfl cc_i2 ?_
        refine jj_ia hG (k := 159) rfl rfl rfl (fun x3 => ?_)
        refine jjc hG rfl rfl (Nat.le_of_ble_eq_true rfl) ?_
        refine jjs hG rfl rfl ?_
        refine jj_gr hG (k := 159) rfl rfl rfl rfl ?_
        refine jj_ic hG rfl cc_i3 ?_
        refine jj_ia hG (k := 159) rfl rfl rfl (fun x4 => ?_)
        refine jjc hG rfl rfl (Nat.le_of_ble_eq_true rfl) ?_
        refine jj_ic hG rfl cc_i0 ?_
        refine jjc hG rfl rfl (Nat.le_of_ble_eq_true rfl) ?_
        refine jj_lp (fun n => ?_)
        exact jj_wl hG [5, 4, 3, 2, 1, 0] rfl (b101 n _ _ _ _ _ _)
      refine jjs hG rfl rfl ?_
      refine jj_ic hG rfl cc_i4 ?_
      refine jjs hG rfl rfl ?_
      refine jjs hG rfl rfl ?_
      refine jjs hG rfl rfl ?_
      refine jjc hG rfl rfl (Nat.le_of_ble_eq_true rfl) ?_
      refine jjs hG rfl rfl ?_
      refine jj_gr hG (k := 158) rfl rfl rfl rfl ?_
      refine jjs hG rfl rfl ?_
      refine jjs hG rfl rfl ?_
      refine jj_gr hG (k := 157) rfl rfl rfl rfl ?_
      refine jjs hG rfl rfl ?_
      refine jj_at (pc' := 24) rfl ?_
      refine jj_ia hG (k := 157) rfl rfl rfl (fun x5 => ?_)
      refine jjs hG rfl rfl ?_
      refine jj_gr hG (k := 157) rfl rfl rfl rfl ?_
      refine jjs hG rfl rfl ?_
      refine jj_ic hG rfl cc_i1 ?_
      refine jjs hG rfl rfl ?_
      refine jj_ia hG (k := 157) rfl rfl rfl (fun x6 => ?_)
      refine jj_bi hG rfl cc_b8 ?_
      refine jjs hG rfl rfl ?_
      refine jjs hG rfl rfl ?_
      refine jjs hG rfl rfl ?_
      refine jj_gr hG (k := 157) rfl rfl rfl rfl ?_
      refine jjs hG rfl rfl ?_
      refine jj_ic hG rfl cc_i2 ?_
      refine jjs hG rfl rfl ?_
      refine jj_ia hG (k := 157) rfl rfl rfl (fun x7 => ?_)
      refine jj_bi hG rfl cc_b16 ?_
      refine jjs hG rfl rfl ?_
      refine jjs hG rfl rfl ?_
      refine jjs hG rfl rfl ?_
      refine jj_gr hG (k := 157) rfl rfl rfl rfl ?_
      refine jjs hG rfl rfl ?_
      refine jj_ic hG rfl cc_i3 ?_
      refine jjs hG rfl rfl ?_
      refine jj_ia hG (k := 157) rfl rfl rfl (fun x8 => ?_)
      refine jj_bi hG rfl cc_b24 ?_
      refine jjs hG rfl rfl ?_
      refine jjs hG rfl rfl ?_
      refine jj_is hG (k := 158) rfl rfl rfl (fun s9 => ?_)
      refine jj_inc hG rfl (Nat.le_of_ble_eq_true rfl) rfl cc_i1 ?_
      refine jj_go hG (t := 2) rfl rfl ?_
      exact jj_back c2 (jj_wl hG [2, 3, 0] rfl (ih2 _ _))
  refine (show JJ C R base m G 0 [(0, .ref m), (1, .int p1)] [] q t kc ks (M_md5Block t p1) (some tz) from ?_) hw h
  refine jj_ic hG rfl cc_i0 ?_
  refine jjc hG rfl rfl (Nat.le_of_ble_eq_true rfl) ?_
  refine jj_lp (fun n => ?_)
  exact jj_wl hG [1, 2, 0] rfl (b2 n _ _)
noncomputable def M_digest_b80 (t : moS) (p2 : Int32) (a3 : Int32) (a4 : Int32) : Option ((Int32 × moS) ⊕ moS) := (some (.inl ((a4 + (64 : Int32)), t)))
noncomputable def M_digest_b163 (t : moS) (p2 : Int32) (a4 : Int32) (u1 : Int32) (u2 : Int32) : Option ((Int32 × moS) ⊕ moS) := Option.bind (wrI t 160 u1 u2) (fun s1 => ((some (.inl ((a4 + (1 : Int32)), s1)))))
noncomputable def M_digest_b102 (t : moS) (p2 : Int32) (a4 : Int32) (u0 : Int32) (u1 : Int32) : Option ((Int32 × moS) ⊕ moS) := if u0 < u1 then (if p2 = 0 then (Option.bind (rdI t 159 (a4 / (4 : Int32))) (fun x1 => ((M_digest_b163 t p2 a4 a4 ((x1 >>> (((8 : Int32) * (rem_I a4 (4 : Int32))) &&& 31)) &&& (255 : Int32)))))) else (Option.bind (rdI t 159 (a4 / (4 : Int32))) (fun x2 => ((M_digest_b163 t p2 a4 a4 ((x2 >>> (((24 : Int32) - ((8 : Int32) * (rem_I a4 (4 : Int32)))) &&& 31)) &&& (255 : Int32))))))) else ((xo ((some t))))
noncomputable def M_digest_s89 (t : moS) (p2 : Int32) (a4 : Int32) : Option ((Int32 × moS) ⊕ moS) := if p2 = 0 then ((M_digest_b102 t p2 a4 a4 (16 : Int32))) else ((M_digest_b102 t p2 a4 a4 (20 : Int32)))
noncomputable def M_digest_b89 (t : moS) (p2 : Int32) (a4 : Int32) : Option moS := lp (fun x => M_digest_s89 x.2 p2 x.1) (a4, t)
noncomputable def M_digest_s55 (t : moS) (p2 : Int32) (a3 : Int32) (a4 : Int32) : Option ((Int32 × moS) ⊕ moS) := if a4 < a3 then (if p2 = 0 then (Option.bind (M_md5Block t a4) (fun s1 => ((M_digest_b80 s1 p2 a3 a4)))) else (Option.bind (M_shaBlock t a4) (fun s2 => ((M_digest_b80 s2 p2 a3 a4))))) else ((xo ((M_digest_b89 t p2 (0 : Int32)))))
noncomputable def M_digest_b55 (t : moS) (p2 : Int32) (a3 : Int32) (a4 : Int32) : Option moS := lp (fun x => M_digest_s55 x.2 p2 a3 x.1) (a4, t)
noncomputable def M_digest (t : moS) (p1 : Int32) (p2 : Int32) : Option moS := Option.bind (wrI t 159 (0 : Int32) (1732584193 : Int32)) (fun s1 => (Option.bind (wrI s1 159 (1 : Int32) ((-271733879) : Int32)) (fun s2 => (Option.bind (wrI s2 159 (2 : Int32) ((-1732584194) : Int32)) (fun s3 => (Option.bind (wrI s3 159 (3 : Int32) (271733878 : Int32)) (fun s4 => (Option.bind (wrI s4 159 (4 : Int32) ((-1009589776) : Int32)) (fun s5 => (bn2 (M_pad s5 p1 p2) (fun x7 s6 => ((M_digest_b55 s6 p2 x7 (0 : Int32))))))))))))))
set_option maxRecDepth 100000 in
set_option maxHeartbeats 4000000 in
theorem k_digest (base : Nat) (sa : Nat → Nat) {C : Nat × Nat} {R : pmM} {m : Nat} {q : Nat → Nat} {t tz : moS} {kc ks : Nat} {Rt : pmR} {p1 : Int32} {p2 : Int32} (hw : mW C R base m q t kc ks) (h : M_digest t p1 p2 = (some tz)) (k : mW C R base m q tz kc ks → Rt none (moM R m q tz) kc ks) : kP_Mo_digest base sa [.ref m, .int p1, .int p2] (moM R m q t) kc ks Rt := by
  refine ⟨Nat.le_of_ble_eq_true rfl, fun G hG => ?_⟩
  have b89 : ∀ (n : Nat) (a4 : Int32) (t : moS), JJ C R base m G 89 [(0, .ref m), (2, .int p2), (4, .int a4)] [] q t kc ks (lpN (fun x => M_digest_s89 x.2 p2 x.1) n (a4, t)) (some tz) := by
    intro n
    induction n with
    | zero => intro a4 t; exact jj_lp0
    | succ n ih89 =>
      intro a4 t
      refine jj_lpS (fun y89 c89 => ?_)
      have b163 : ∀ (a4 : Int32) (u1 : Int32) (u2 : Int32) (t : moS), JJ C R base m G 163 [(0, .ref m), (2, .int p2), (4, .int a4)] [.int u2, .int u1, .ref (q 160)] q t kc ks (M_digest_b163 t p2 a4 u1 u2) (some y89) := by
        intro a4 u1 u2 t
        refine jj_is hG (k := 160) rfl rfl rfl (fun s1 => ?_)
        refine jj_inc hG rfl (Nat.le_of_ble_eq_true rfl) rfl cc_i1 ?_
        refine jj_go hG (t := 89) rfl rfl ?_
        exact jj_back c89 (jj_wl hG [1, 2, 0] rfl (ih89 _ _))
      have b102 : ∀ (a4 : Int32) (u0 : Int32) (u1 : Int32) (t : moS), JJ C R base m G 102 [(0, .ref m), (2, .int p2), (4, .int a4)] [.int u1, .int u0] q t kc ks (M_digest_b102 t p2 a4 u0 u1) (some y89) := by
        intro a4 u0 u1 t
        refine jj_ige hG (t := 170) rfl rfl ?_ ?_
        · refine jj_exit c89 ?_
          exact jj_rvS hG rfl rfl (k)
        refine jjs hG rfl rfl ?_
        refine jj_gr hG (k := 160) rfl rfl rfl rfl ?_
        refine jjs hG rfl rfl ?_
        refine jjs hG rfl rfl ?_
        refine jj_zeq hG (t := 142) rfl rfl ?_ ?_
        · refine jjs hG rfl rfl ?_
          refine jj_gr hG (k := 159) rfl rfl rfl rfl ?_
          refine jjs hG rfl rfl ?_
          refine jj_ic hG rfl cc_i4 ?_
          refine jjc hG rfl rfl (by decide) ?_
          refine jj_ia hG (k := 159) rfl rfl rfl (fun x1 => ?_)
          refine jj_bi hG rfl cc_b8 ?_
          refine jjs hG rfl rfl ?_
          refine jj_ic hG rfl cc_i4 ?_
          refine jjc hG rfl rfl (by decide) ?_
          refine jjs hG rfl rfl ?_
          refine jjs hG rfl rfl ?_
          refine jj_si hG rfl cc_s255 ?_
          refine jjs hG rfl rfl ?_
          exact jj_wl hG [0, 1, 2] rfl (b163 _ _ _ _)
        refine jjs hG rfl rfl ?_
        refine jj_gr hG (k := 159) rfl rfl rfl rfl ?_
        refine jjs hG rfl rfl ?_
        refine jj_ic hG rfl cc_i4 ?_
        refine jjc hG rfl rfl (by decide) ?_
        refine jj_ia hG (k := 159) rfl rfl rfl (fun x2 => ?_)
        refine jj_bi hG rfl cc_b24 ?_
        refine jj_bi hG rfl cc_b8 ?_
        refine jjs hG rfl rfl ?_
        refine jj_ic hG rfl cc_i4 ?_
        refine jjc hG rfl rfl (by decide) ?_
        refine jjs hG rfl rfl ?_
        refine jjs hG rfl rfl ?_
        refine jjs hG rfl rfl ?_
        refine jj_si hG rfl cc_s255 ?_
        refine jjs hG rfl rfl ?_
        refine jj_go hG (t := 163) rfl rfl ?_
        exact jj_wl hG [0, 1, 2] rfl (b163 _ _ _ _)
      refine (show JJ C R base m G 89 [(0, .ref m), (2, .int p2), (4, .int a4)] [] q t kc ks (M_digest_s89 t p2 a4) (some y89) from ?_)
      refine jjs hG rfl rfl ?_
      refine jjs hG rfl rfl ?_
      refine jj_zeq hG (t := 100) rfl rfl ?_ ?_
      · refine jj_bi hG rfl cc_b16 ?_
        exact jj_wl hG [0, 1, 2] rfl (b102 _ _ _ _)
      refine jj_bi hG rfl cc_b20 ?_
      refine jj_go hG (t := 102) rfl rfl ?_
      exact jj_wl hG [0, 1, 2] rfl (b102 _ _ _ _)
  have b55 : ∀ (a3 : Int32) (n : Nat) (a4 : Int32) (t : moS), JJ C R base m G 55 [(0, .ref m), (2, .int p2), (3, .int a3), (4, .int a4)] [] q t kc ks (lpN (fun x => M_digest_s55 x.2 p2 a3 x.1) n (a4, t)) (some tz) := by
    intro a3 n
    induction n with
    | zero => intro a4 t; exact jj_lp0
    | succ n ih55 =>
      intro a4 t
      refine jj_lpS (fun y55 c55 => ?_)
      have b80 : ∀ (a4 : Int32) (t : moS), JJ C R base m G 80 [(0, .ref m), (2, .int p2), (3, .int a3), (4, .int a4)] [] q t kc ks (M_digest_b80 t p2 a3 a4) (some y55) := by
        intro a4 t
        refine jj_inc hG rfl (Nat.le_of_ble_eq_true rfl) rfl cc_i64 ?_
        refine jj_go hG (t := 55) rfl rfl ?_
        exact jj_back c55 (jj_wl hG [1, 2, 3, 0] rfl (ih55 _ _))
      refine (show JJ C R base m G 55 [(0, .ref m), (2, .int p2), (3, .int a3), (4, .int a4)] [] q t kc ks (M_digest_s55 t p2 a3 a4) (some y55) from ?_)
      refine jjs hG rfl rfl ?_
      refine jjs hG rfl rfl ?_
      refine jj_ige hG (t := 86) rfl rfl ?_ ?_
      · refine jj_exit c55 ?_
        refine jj_ic hG rfl cc_i0 ?_
        refine jjc hG rfl rfl (Nat.le_of_ble_eq_true rfl) ?_
        refine jj_lp (fun n => ?_)
        exact jj_wl hG [1, 2, 0] rfl (b89 n _ _)
      refine jjs hG rfl rfl ?_
      refine jj_zeq hG (t := 74) rfl rfl ?_ ?_
      · refine jjs hG rfl rfl ?_
        refine jjs hG rfl rfl ?_
        refine jj_cv hG 0 rfl rfl (Nat.le_of_ble_eq_true rfl) (by decide) (Nat.le_of_ble_eq_true rfl) rfl (st' := []) rfl (fun _ _ hw h k => pm_rcv_of moM_m (k_md5Block base sa hw h k)) (fun s1 => ?_)
        exact jj_wl hG [0, 1, 2, 3] rfl (b80 _ _)
      refine jjs hG rfl rfl ?_
      refine jjs hG rfl rfl ?_
      refine jj_cv hG 0 rfl rfl (Nat.le_of_ble_eq_true rfl) (by decide) (Nat.le_of_ble_eq_true rfl) rfl (st' := []) rfl (fun _ _ hw h k => pm_rcv_of moM_m (k_shaBlock base sa hw h k)) (fun s2 => ?_)
      refine jj_go hG (t := 80) rfl rfl ?_
      exact jj_wl hG [0, 1, 2, 3] rfl (b80 _ _)
  refine (show JJ C R base m G 0 [(0, .ref m), (1, .int p1), (2, .int p2)] [] q t kc ks (M_digest t p1 p2) (some tz) from ?_) hw h
  refine jjs hG rfl rfl ?_
  refine jj_gr hG (k := 159) rfl rfl rfl rfl ?_
  refine jj_ic hG rfl cc_i0 ?_
  refine jj_lw hG (v := (1732584193 : Int32)) rfl rfl ?_
  refine jj_is hG (k := 159) rfl rfl rfl (fun s1 => ?_)
  refine jjs hG rfl rfl ?_
  refine jj_gr hG (k := 159) rfl rfl rfl rfl ?_
  refine jj_ic hG rfl cc_i1 ?_
  refine jj_lw hG (v := ((-271733879) : Int32)) rfl rfl ?_
  refine jj_is hG (k := 159) rfl rfl rfl (fun s2 => ?_)
  refine jjs hG rfl rfl ?_
  refine jj_gr hG (k := 159) rfl rfl rfl rfl ?_
  refine jj_ic hG rfl cc_i2 ?_
  refine jj_lw hG (v := ((-1732584194) : Int32)) rfl rfl ?_
  refine jj_is hG (k := 159) rfl rfl rfl (fun s3 => ?_)
  refine jjs hG rfl rfl ?_
  refine jj_gr hG (k := 159) rfl rfl rfl rfl ?_
  refine jj_ic hG rfl cc_i3 ?_
  refine jj_lw hG (v := (271733878 : Int32)) rfl rfl ?_
  refine jj_is hG (k := 159) rfl rfl rfl (fun s4 => ?_)
  refine jjs hG rfl rfl ?_
  refine jj_gr hG (k := 159) rfl rfl rfl rfl ?_
  refine jj_ic hG rfl cc_i4 ?_
  refine jj_lw hG (v := ((-1009589776) : Int32)) rfl rfl ?_
  refine jj_is hG (k := 159) rfl rfl rfl (fun s5 => ?_)
  refine jjs hG rfl rfl ?_
  refine jjs hG rfl rfl ?_
  refine jjs hG rfl rfl ?_
  refine jj_cs hG 0 rfl rfl (Nat.le_of_ble_eq_true rfl) (by decide) (Nat.le_of_ble_eq_true rfl) rfl (st' := []) rfl (w := .int) (fun _ _ _ hw h k => pm_rcv_of moM_m (k_pad base sa hw h k)) (fun x7 s6 => ?_)
  refine jjc hG rfl rfl (Nat.le_of_ble_eq_true rfl) ?_
  refine jj_ic hG rfl cc_i0 ?_
  refine jjc hG rfl rfl (Nat.le_of_ble_eq_true rfl) ?_
  refine jj_lp (fun n => ?_)
  exact jj_wl hG [2, 4, 1, 0] rfl (b55 _ n _ _)
