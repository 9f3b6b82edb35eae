/-! The class: calls that are refused; calls on a field without links and routers. -/
theorem outR_no {y : Int32} {t j : Nat} (h : outR y t) (hy : y = nI j) (hj : j < t) (ht : t < 2 ^ 31) : False := by
  subst hy
  rcases h with h | ⟨i, hi, e, hti⟩
  · rw [Int32.lt_iff_toInt_lt, nI_toInt (by omega)] at h
    have h0 : (0 : Int32).toInt = 0 := rfl
    omega
  · have e2 := congrArg Int32.toInt e
    rw [nI_toInt (by omega), nI_toInt hi] at e2
    omega
theorem outR_all (y : Int32) : outR y 0 := by
  by_cases h : y < 0
  · exact Or.inl h
  · obtain ⟨j, hj, rfl⟩ := nI_of h
    exact Or.inr ⟨j, hj, rfl, Nat.zero_le _⟩
set_option maxRecDepth 100000 in
theorem c_link0 (base : Nat) (sa : Nat → Nat) {z : Int32} {x d n t : Nat} {ty : FieldType} {F : Nat → Value} {f : Nat → Option Nat} {y : Int32} {M : pmM} {Rt : pmR} {kc ks : Nat} (hx : M x = some (.inr (11, obL 20 F))) (h7 : F 7 = .int (nI t)) (h6 : F 6 = .ref d) (hd : M d = some (.inl (ty, n, .inr (.inr (.inr (.inr f)))))) (hty : ty.isReference = true) (htn : t ≤ n) (hn : n < 2 ^ 31) (ho : outR y t) (k : Rt (some (.int 0)) M kc ks) : kP_Rf_link base sa [.ref x, .int y, .int z] M kc ks Rt := by
  refine ⟨Nat.le_of_ble_eq_true rfl, fun G hG => ?_⟩
  refine pgs hG rfl rfl ?_
  refine pgs hG rfl rfl ?_
  refine pg_cal hG 0 rfl rfl (Nat.le_of_ble_eq_true rfl) (by decide) (Nat.le_of_ble_eq_true rfl) ?_
  refine pm_rcv_of (As' := [.int y]) hx (s_Rf_linkAt base sa hx h7 h6 hd hty htn hn (fun _ => ?_) (fun j hy hj => (outR_no ho hy hj (by omega)).elim))
  refine pgc hG rfl rfl (Nat.le_of_ble_eq_true rfl) ?_
  refine pgs hG rfl rfl ?_
  refine pn_null (q := none) hG (t := 18) rfl rfl (fun _ => ?_) (fun c => absurd rfl c)
  refine pgs hG rfl rfl ?_
  exact pg_ri hG rfl rfl rfl k
set_option maxRecDepth 100000 in
theorem c_run0 (base : Nat) (sa : Nat → Nat) {z : Int32} {x d n t : Nat} {ty : FieldType} {F : Nat → Value} {f : Nat → Option Nat} {y : Int32} {M : pmM} {Rt : pmR} {kc ks : Nat} (hx : M x = some (.inr (11, obL 20 F))) (h9 : F 9 = .int (nI t)) (h8 : F 8 = .ref d) (hd : M d = some (.inl (ty, n, .inr (.inr (.inr (.inr f)))))) (hty : ty.isReference = true) (htn : t ≤ n) (hn : n < 2 ^ 31) (ho : outR y t) (k : Rt (some (.int 0)) M kc ks) : kP_Rf_run base sa [.ref x, .int y, .int z] M kc ks Rt := by
  refine ⟨Nat.le_of_ble_eq_true rfl, fun G hG => ?_⟩
  refine pgs hG rfl rfl ?_
  refine pgs hG rfl rfl ?_
  refine pg_cal hG 0 rfl rfl (Nat.le_of_ble_eq_true rfl) (by decide) (Nat.le_of_ble_eq_true rfl) ?_
  refine pm_rcv_of (As' := [.int y]) hx (s_Rf_routerAt base sa hx h9 h8 hd hty htn hn (fun _ => ?_) (fun j hy hj => (outR_no ho hy hj (by omega)).elim))
  refine pgc hG rfl rfl (Nat.le_of_ble_eq_true rfl) ?_
  refine pgs hG rfl rfl ?_
  refine pn_null (q := none) hG (t := 18) rfl rfl (fun _ => ?_) (fun c => absurd rfl c)
  refine pgs hG rfl rfl ?_
  exact pg_ri hG rfl rfl rfl k
set_option maxRecDepth 100000 in
theorem c_show0 (base : Nat) (sa : Nat → Nat) {z : Int32} {x d n t : Nat} {ty : FieldType} {F : Nat → Value} {f : Nat → Option Nat} {y : Int32} {M : pmM} {Rt : pmR} {kc ks : Nat} (hx : M x = some (.inr (11, obL 20 F))) (h9 : F 9 = .int (nI t)) (h8 : F 8 = .ref d) (hd : M d = some (.inl (ty, n, .inr (.inr (.inr (.inr f)))))) (hty : ty.isReference = true) (htn : t ≤ n) (hn : n < 2 ^ 31) (ho : outR y t) (k : Rt (some (.int (-1))) M kc ks) : kP_Rf_show base sa [.ref x, .int y, .int z] M kc ks Rt := by
  refine ⟨Nat.le_of_ble_eq_true rfl, fun G hG => ?_⟩
  refine pgs hG rfl rfl ?_
  refine pgs hG rfl rfl ?_
  refine pg_cal hG 0 rfl rfl (Nat.le_of_ble_eq_true rfl) (by decide) (Nat.le_of_ble_eq_true rfl) ?_
  refine pm_rcv_of (As' := [.int y]) hx (s_Rf_routerAt base sa hx h9 h8 hd hty htn hn (fun _ => ?_) (fun j hy hj => (outR_no ho hy hj (by omega)).elim))
  refine pgc hG rfl rfl (Nat.le_of_ble_eq_true rfl) ?_
  refine pgs hG rfl rfl ?_
  refine pn_null (q := none) hG (t := 19) rfl rfl (fun _ => ?_) (fun c => absurd rfl c)
  refine pgs hG rfl rfl ?_
  exact pg_ri hG rfl rfl rfl k
set_option maxRecDepth 100000 in
theorem c_seen0 (base : Nat) (sa : Nat → Nat) {x d n t : Nat} {ty : FieldType} {F : Nat → Value} {f : Nat → Option Nat} {y : Int32} {M : pmM} {Rt : pmR} {kc ks : Nat} (hx : M x = some (.inr (11, obL 20 F))) (h7 : F 7 = .int (nI t)) (h6 : F 6 = .ref d) (hd : M d = some (.inl (ty, n, .inr (.inr (.inr (.inr f)))))) (hty : ty.isReference = true) (htn : t ≤ n) (hn : n < 2 ^ 31) (ho : outR y t) (k : Rt (some (.int (-1))) M kc ks) : kP_Rf_seen base sa [.ref x, .int y] M kc ks Rt := by
  refine ⟨Nat.le_of_ble_eq_true rfl, fun G hG => ?_⟩
  refine pgs hG rfl rfl ?_
  refine pgs hG rfl rfl ?_
  refine pg_cal hG 0 rfl rfl (Nat.le_of_ble_eq_true rfl) (by decide) (Nat.le_of_ble_eq_true rfl) ?_
  refine pm_rcv_of (As' := [.int y]) hx (s_Rf_linkAt base sa hx h7 h6 hd hty htn hn (fun _ => ?_) (fun j hy hj => (outR_no ho hy hj (by omega)).elim))
  refine pgc hG rfl rfl (Nat.le_of_ble_eq_true rfl) ?_
  refine pgs hG rfl rfl ?_
  refine pn_nonnull (q := none) hG (t := 12) rfl rfl (fun c => absurd rfl c) (fun _ => ?_)
  refine pgs hG rfl rfl ?_
  exact pg_ri hG rfl rfl rfl k
set_option maxRecDepth 100000 in
theorem c_put0 (base : Nat) (sa : Nat → Nat) {z2 z3 z4 : Int32} {b bd cap : Nat} {l : List Int32} {x d n t : Nat} {ty : FieldType} {F : Nat → Value} {f : Nat → Option Nat} {y : Int32} {M : pmM} {Rt : pmR} {kc ks : Nat} (hx : M x = some (.inr (11, obL 20 F))) (h7 : F 7 = .int (nI t)) (h6 : F 6 = .ref d) (hd : M d = some (.inl (ty, n, .inr (.inr (.inr (.inr f)))))) (hty : ty.isReference = true) (htn : t ≤ n) (hn : n < 2 ^ 31) (ho : outR y t) (h0 : F 0 = .ref b) (hv : vBy base M b l bd cap) (hbb : base ≤ b) (k : Rt (some (.int 0)) (pm_up M b (.inr (0, [.ref bd, .int 0]))) kc ks) : kP_Rf_put base sa [.ref x, .int y, .int z2, .int z3, .int z4] M kc ks Rt := by
  refine ⟨Nat.le_of_ble_eq_true rfl, fun G hG => ?_⟩
  refine pgs hG rfl rfl ?_
  refine pgs hG rfl rfl ?_
  refine pg_cal hG 0 rfl rfl (Nat.le_of_ble_eq_true rfl) (by decide) (Nat.le_of_ble_eq_true rfl) ?_
  refine pm_rcv_of (As' := [.int y]) hx (s_Rf_linkAt base sa hx h7 h6 hd hty htn hn (fun _ => ?_) (fun j hy hj => (outR_no ho hy hj (by omega)).elim))
  refine pgc hG rfl rfl (Nat.le_of_ble_eq_true rfl) ?_
  refine pgs hG rfl rfl ?_
  refine pgs hG rfl rfl ?_
  refine pi_ne hG (t := 16) rfl rfl (fun _ => ?_) (fun _ => ?_)
  · refine pgs hG rfl rfl ?_
    refine pgc hG rfl rfl (Nat.le_of_ble_eq_true rfl) ?_
    refine pgs hG rfl rfl ?_
    refine pg_gn hG rfl rfl hx rfl h0 ?_
    refine pg_gf hG rfl rfl hv.ob rfl ?_
    refine pgs hG rfl rfl ?_
    refine pgs hG rfl rfl ?_
    refine pgc hG rfl rfl (Nat.le_of_ble_eq_true rfl) ?_
    refine pgs hG rfl rfl ?_
    refine pgs hG rfl rfl ?_
    refine pi_eq hG (t := 43) rfl rfl (fun _ => ?_) (fun _ => ?_)
    · refine pgs hG rfl rfl ?_
      refine pn_null (q := none) hG (t := 83) rfl rfl (fun _ => ?_) (fun c => absurd rfl c)
      refine pgs hG rfl rfl ?_
      refine pgc hG rfl rfl (Nat.le_of_ble_eq_true rfl) ?_
      refine pgs hG rfl rfl ?_
      refine pz_eq hG (t := 187) rfl rfl (fun _ => ?_) (fun c => absurd rfl c)
      refine pgs hG rfl rfl ?_
      refine pg_gn hG rfl rfl hx rfl h0 ?_
      refine pg_cal hG 0 rfl rfl (Nat.le_of_ble_eq_true rfl) (by decide) (Nat.le_of_ble_eq_true rfl) ?_
      refine pm_rcv_of (As' := []) hv.ob (s_By_clear base sa hv.ob hbb ?_)
      refine pgs hG rfl rfl ?_
      exact pg_ri hG rfl rfl rfl k
    · refine pgs hG rfl rfl ?_
      refine pgs hG rfl rfl ?_
      refine pi_ne hG (t := 83) rfl rfl (fun _ => ?_) (fun _ => ?_)
      · refine pgs hG rfl rfl ?_
        refine pgc hG rfl rfl (Nat.le_of_ble_eq_true rfl) ?_
        refine pgs hG rfl rfl ?_
        refine pz_eq hG (t := 187) rfl rfl (fun _ => ?_) (fun c => absurd rfl c)
        refine pgs hG rfl rfl ?_
        refine pg_gn hG rfl rfl hx rfl h0 ?_
        refine pg_cal hG 0 rfl rfl (Nat.le_of_ble_eq_true rfl) (by decide) (Nat.le_of_ble_eq_true rfl) ?_
        refine pm_rcv_of (As' := []) hv.ob (s_By_clear base sa hv.ob hbb ?_)
        refine pgs hG rfl rfl ?_
        exact pg_ri hG rfl rfl rfl k
      · refine pgs hG rfl rfl ?_
        refine pn_null (q := none) hG (t := 83) rfl rfl (fun _ => ?_) (fun c => absurd rfl c)
        refine pgs hG rfl rfl ?_
        refine pgc hG rfl rfl (Nat.le_of_ble_eq_true rfl) ?_
        refine pgs hG rfl rfl ?_
        refine pz_eq hG (t := 187) rfl rfl (fun _ => ?_) (fun c => absurd rfl c)
        refine pgs hG rfl rfl ?_
        refine pg_gn hG rfl rfl hx rfl h0 ?_
        refine pg_cal hG 0 rfl rfl (Nat.le_of_ble_eq_true rfl) (by decide) (Nat.le_of_ble_eq_true rfl) ?_
        refine pm_rcv_of (As' := []) hv.ob (s_By_clear base sa hv.ob hbb ?_)
        refine pgs hG rfl rfl ?_
        exact pg_ri hG rfl rfl rfl k
  · refine pgs hG rfl rfl ?_
    refine pg_go hG (t := 18) rfl rfl ?_
    refine pgc hG rfl rfl (Nat.le_of_ble_eq_true rfl) ?_
    refine pgs hG rfl rfl ?_
    refine pg_gn hG rfl rfl hx rfl h0 ?_
    refine pg_gf hG rfl rfl hv.ob rfl ?_
    refine pgs hG rfl rfl ?_
    refine pgs hG rfl rfl ?_
    refine pgc hG rfl rfl (Nat.le_of_ble_eq_true rfl) ?_
    refine pgs hG rfl rfl ?_
    refine pgs hG rfl rfl ?_
    refine pi_eq hG (t := 43) rfl rfl (fun _ => ?_) (fun _ => ?_)
    · refine pgs hG rfl rfl ?_
      refine pn_null (q := none) hG (t := 83) rfl rfl (fun _ => ?_) (fun c => absurd rfl c)
      refine pgs hG rfl rfl ?_
      refine pgc hG rfl rfl (Nat.le_of_ble_eq_true rfl) ?_
      refine pgs hG rfl rfl ?_
      refine pz_eq hG (t := 187) rfl rfl (fun _ => ?_) (fun c => absurd rfl c)
      refine pgs hG rfl rfl ?_
      refine pg_gn hG rfl rfl hx rfl h0 ?_
      refine pg_cal hG 0 rfl rfl (Nat.le_of_ble_eq_true rfl) (by decide) (Nat.le_of_ble_eq_true rfl) ?_
      refine pm_rcv_of (As' := []) hv.ob (s_By_clear base sa hv.ob hbb ?_)
      refine pgs hG rfl rfl ?_
      exact pg_ri hG rfl rfl rfl k
    · refine pgs hG rfl rfl ?_
      refine pgs hG rfl rfl ?_
      refine pi_ne hG (t := 83) rfl rfl (fun _ => ?_) (fun _ => ?_)
      · refine pgs hG rfl rfl ?_
        refine pgc hG rfl rfl (Nat.le_of_ble_eq_true rfl) ?_
        refine pgs hG rfl rfl ?_
        refine pz_eq hG (t := 187) rfl rfl (fun _ => ?_) (fun c => absurd rfl c)
        refine pgs hG rfl rfl ?_
        refine pg_gn hG rfl rfl hx rfl h0 ?_
        refine pg_cal hG 0 rfl rfl (Nat.le_of_ble_eq_true rfl) (by decide) (Nat.le_of_ble_eq_true rfl) ?_
        refine pm_rcv_of (As' := []) hv.ob (s_By_clear base sa hv.ob hbb ?_)
        refine pgs hG rfl rfl ?_
        exact pg_ri hG rfl rfl rfl k
      · refine pgs hG rfl rfl ?_
        refine pn_null (q := none) hG (t := 83) rfl rfl (fun _ => ?_) (fun c => absurd rfl c)
        refine pgs hG rfl rfl ?_
        refine pgc hG rfl rfl (Nat.le_of_ble_eq_true rfl) ?_
        refine pgs hG rfl rfl ?_
        refine pz_eq hG (t := 187) rfl rfl (fun _ => ?_) (fun c => absurd rfl c)
        refine pgs hG rfl rfl ?_
        refine pg_gn hG rfl rfl hx rfl h0 ?_
        refine pg_cal hG 0 rfl rfl (Nat.le_of_ble_eq_true rfl) (by decide) (Nat.le_of_ble_eq_true rfl) ?_
        refine pm_rcv_of (As' := []) hv.ob (s_By_clear base sa hv.ob hbb ?_)
        refine pgs hG rfl rfl ?_
        exact pg_ri hG rfl rfl rfl k
set_option maxRecDepth 100000 in
theorem c_config0 (base : Nat) (sa : Nat → Nat) {x p pd tx : Nat} {F : Nat → Value} {w : Value} {M : pmM} {Rt : pmR} {kc ks : Nat} (hx : M x = some (.inr (11, obL 20 F))) (hbx : base ≤ x) (h1 : F 1 = .ref tx) (h2 : F 2 = .ref p) (hp : M p = some (.inr (0, [.ref pd, w]))) (hbp : base ≤ p) (h7 : F 7 = .int 0) (h9 : F 9 = .int 0) (h11 : F 11 = .int 0)
    (k : ∀ M' : pmM, M' x = some (.inr (11, obL 20 (upF (upF F 1 (.ref p)) 2 (.ref tx)))) → M' p = some (.inr (0, [.ref pd, .int 0])) → (∀ a, a ≠ x → a ≠ p → M' a = M a) → Rt (some (.int 0)) M' kc ks) : kP_Rf_config base sa [.ref x] M kc ks Rt := by
  have hxp : x ≠ p := by
    rintro rfl
    rw [hx] at hp
    exact absurd (congrArg (fun e => match e with | some (.inr (c, _)) => c | _ => 0) hp) (show ¬ ((11 : Nat) = 0) from by decide)
  refine ⟨Nat.le_of_ble_eq_true rfl, fun G hG => ?_⟩
  refine pgs hG rfl rfl ?_
  refine pg_gn hG rfl rfl hx rfl h2 ?_
  refine pg_cal hG 0 rfl rfl (Nat.le_of_ble_eq_true rfl) (by decide) (Nat.le_of_ble_eq_true rfl) ?_
  refine pm_rcv_of (As' := []) hp (s_By_clear base sa hp hbp ?_)
  have hx1 : pm_up M p (.inr (0, [.ref pd, .int 0])) x = some (.inr (11, obL 20 F)) := (pm_up_ne _ _ hxp).trans hx
  refine pgs hG rfl rfl ?_
  refine pgc hG rfl rfl (Nat.le_of_ble_eq_true rfl) ?_
  refine pgs hG rfl rfl ?_
  refine pgs hG rfl rfl ?_
  refine pg_gn hG rfl rfl hx1 rfl h7 ?_
  refine pi_ge hG (t := 33) rfl rfl (fun _ => ?_) (fun c => absurd (by decide) c)
  refine pgs hG rfl rfl ?_
  refine pgc hG rfl rfl (Nat.le_of_ble_eq_true rfl) ?_
  refine pgs hG rfl rfl ?_
  refine pgs hG rfl rfl ?_
  refine pg_gn hG rfl rfl hx1 rfl h11 ?_
  refine pi_ge hG (t := 59) rfl rfl (fun _ => ?_) (fun c => absurd (by decide) c)
  refine pgs hG rfl rfl ?_
  refine pgc hG rfl rfl (Nat.le_of_ble_eq_true rfl) ?_
  refine pgs hG rfl rfl ?_
  refine pgs hG rfl rfl ?_
  refine pg_gn hG rfl rfl hx1 rfl h9 ?_
  refine pi_ge hG (t := 85) rfl rfl (fun _ => ?_) (fun c => absurd (by decide) c)
  refine pgs hG rfl rfl ?_
  refine pg_gn hG rfl rfl hx1 rfl h2 ?_
  refine pg_gf hG rfl rfl (pm_up_self _ _ _) rfl ?_
  refine pg_ldi hG rfl rfl ?_
  refine pi_le hG (t := 99) rfl rfl (fun _ => ?_) (fun c => absurd (by decide) c)
  refine pgs hG rfl rfl ?_
  refine pg_gn hG rfl rfl hx1 rfl h1 ?_
  refine pgc hG rfl rfl (Nat.le_of_ble_eq_true rfl) ?_
  refine pgs hG rfl rfl ?_
  refine pgs hG rfl rfl ?_
  refine pg_gn hG rfl rfl hx1 rfl h2 ?_
  refine pg_pn hG rfl rfl hx1 hbx rfl rfl rfl ?_
  refine pgs hG rfl rfl ?_
  refine pgs hG rfl rfl ?_
  refine pg_pn hG rfl rfl (pm_up_self _ _ _) hbx rfl rfl rfl ?_
  refine pgs hG rfl rfl ?_
  refine pg_gn hG rfl rfl (pm_up_self _ _ _) rfl ((upF_n _ _ (by decide)).trans (upF_s _ _ _)) ?_
  have hp3 : ∀ e e' : pmE, pm_up (pm_up (pm_up M p (.inr (0, [.ref pd, .int 0]))) x e) x e' p = some (.inr (0, [.ref pd, .int 0])) := fun e e' => (pm_up_ne _ _ hxp.symm).trans ((pm_up_ne _ _ hxp.symm).trans (pm_up_self _ _ _))
  refine pg_gf hG rfl rfl (hp3 _ _) rfl ?_
  exact pg_ri hG rfl rfl rfl (k _ (pm_up_self _ _ _) (hp3 _ _) (fun a ha hb => (pm_up_ne _ _ ha).trans ((pm_up_ne _ _ ha).trans (pm_up_ne _ _ hb))))
set_option maxRecDepth 100000 in
theorem c_addr0 (base : Nat) (sa : Nat → Nat) {h b bd cap : Nat} {a1 a4 : Int32} {a2 a3 : Int64} {M : pmM} {Rt : pmR} {kc ks : Nat} (hv : vBy base M b [] bd cap) (hh : M h = some (pfx a1 a2 a3 a4)) (hbh : base ≤ h) (k : Rt (some (.int 0)) M kc ks) : kP_Pr_parseAddress base sa [.ref h, .ref b, .int (nI 0), .int (nI 0)] M kc ks Rt := by
  refine ⟨Nat.le_of_ble_eq_true rfl, fun G hG => ?_⟩
  refine pgs hG rfl rfl ?_
  refine pgc hG rfl rfl (Nat.le_of_ble_eq_true rfl) ?_
  refine pgs hG rfl rfl ?_
  refine pgs hG rfl rfl ?_
  refine pi_ge hG (t := 34) rfl rfl (fun _ => ?_) (fun c => absurd (by decide) c)
  refine pgs hG rfl rfl ?_
  refine pgs hG rfl rfl ?_
  refine pgs hG rfl rfl ?_
  refine pgs hG rfl rfl ?_
  refine pg_cal hG 0 rfl rfl (Nat.le_of_ble_eq_true rfl) (by decide) (Nat.le_of_ble_eq_true rfl) ?_
  refine pm_rcv_of (As' := [.ref b, .int (nI 0), .int (nI 0)]) hh (v_Pr_parseFour base sa (f := 0) (t := 0) hv hh hbh (Nat.zero_le _) (by decide) (fun _ => ?_) (fun v e => ?_))
  · exact pg_ri hG rfl rfl rfl k
  · exact absurd ((show four (vc []) 0 4 0 0 = none from rfl).symm.trans e) (by simp)
set_option maxRecDepth 100000 in
theorem c_oracle0 (base : Nat) (sa : Nat → Nat) {x d n t : Nat} {ty : FieldType} {F : Nat → Value} {f : Nat → Option Nat} {y : Int32} {M : pmM} {Rt : pmR} {kc ks : Nat} (hx : M x = some (.inr (11, obL 20 F))) (h9 : F 9 = .int (nI t)) (h8 : F 8 = .ref d) (hd : M d = some (.inl (ty, n, .inr (.inr (.inr (.inr f)))))) (hty : ty.isReference = true) (htn : t ≤ n) (hn : n < 2 ^ 31) (ho : outR y t) {b bd cap h : Nat} {a1 a4 : Int32} {a2 a3 : Int64} (h0 : F 0 = .ref b) (hv : vBy base M b [] bd cap) (hbb : base ≤ b) (h19 : F 19 = .ref h) (hh : M h = some (pfx a1 a2 a3 a4)) (hbh : base ≤ h) (k : Rt (some (.int (-1))) (pm_up M b (.inr (0, [.ref bd, .int 0]))) kc ks) : kP_Rf_oracle base sa [.ref x, .int y] M kc ks Rt := by
  refine ⟨Nat.le_of_ble_eq_true rfl, fun G hG => ?_⟩
  refine pgs hG rfl rfl ?_
  refine pgs hG rfl rfl ?_
  refine pg_cal hG 0 rfl rfl (Nat.le_of_ble_eq_true rfl) (by decide) (Nat.le_of_ble_eq_true rfl) ?_
  refine pm_rcv_of (As' := [.int y]) hx (s_Rf_routerAt base sa hx h9 h8 hd hty htn hn (fun _ => ?_) (fun j hy hj => (outR_no ho hy hj (by omega)).elim))
  refine pgc hG rfl rfl (Nat.le_of_ble_eq_true rfl) ?_
  refine pgs hG rfl rfl ?_
  refine pg_gn hG rfl rfl hx rfl h19 ?_
  refine pgs hG rfl rfl ?_
  refine pg_gn hG rfl rfl hx rfl h0 ?_
  refine pgs hG rfl rfl ?_
  refine pgs hG rfl rfl ?_
  refine pg_gn hG rfl rfl hx rfl h0 ?_
  refine pg_gf hG rfl rfl hv.ob rfl ?_
  refine pg_cal hG 0 rfl rfl (Nat.le_of_ble_eq_true rfl) (by decide) (Nat.le_of_ble_eq_true rfl) ?_
  refine pm_rcv_of (As' := [.ref b, .int (nI 0), .int (nI 0)]) hh (c_addr0 base sa hv hh hbh ?_)
  refine pgc hG rfl rfl (Nat.le_of_ble_eq_true rfl) ?_
  refine pgs hG rfl rfl ?_
  refine pg_gn hG rfl rfl hx rfl h0 ?_
  refine pg_cal hG 0 rfl rfl (Nat.le_of_ble_eq_true rfl) (by decide) (Nat.le_of_ble_eq_true rfl) ?_
  refine pm_rcv_of (As' := []) hv.ob (s_By_clear base sa hv.ob hbb ?_)
  refine pgs hG rfl rfl ?_
  refine pz_eq hG (t := 48) rfl rfl (fun _ => ?_) (fun c => absurd rfl c)
  refine pgs hG rfl rfl ?_
  exact pg_ri hG rfl rfl rfl k
set_option maxRecDepth 100000 in
theorem c_way0 (base : Nat) (sa : Nat → Nat) {x d n t : Nat} {ty : FieldType} {F : Nat → Value} {f : Nat → Option Nat} {y : Int32} {M : pmM} {Rt : pmR} {kc ks : Nat} (hx : M x = some (.inr (11, obL 20 F))) (h9 : F 9 = .int (nI t)) (h8 : F 8 = .ref d) (hd : M d = some (.inl (ty, n, .inr (.inr (.inr (.inr f)))))) (hty : ty.isReference = true) (htn : t ≤ n) (hn : n < 2 ^ 31) (ho : outR y t) {b bd cap h : Nat} {a1 a4 : Int32} {a2 a3 : Int64} (h0 : F 0 = .ref b) (hv : vBy base M b [] bd cap) (hbb : base ≤ b) (h19 : F 19 = .ref h) (hh : M h = some (pfx a1 a2 a3 a4)) (hbh : base ≤ h) (k : Rt (some (.int (-1))) (pm_up M b (.inr (0, [.ref bd, .int 0]))) kc ks) : kP_Rf_way base sa [.ref x, .int y] M kc ks Rt := by
  refine ⟨Nat.le_of_ble_eq_true rfl, fun G hG => ?_⟩
  refine pgs hG rfl rfl ?_
  refine pgs hG rfl rfl ?_
  refine pg_cal hG 0 rfl rfl (Nat.le_of_ble_eq_true rfl) (by decide) (Nat.le_of_ble_eq_true rfl) ?_
  refine pm_rcv_of (As' := [.int y]) hx (s_Rf_routerAt base sa hx h9 h8 hd hty htn hn (fun _ => ?_) (fun j hy hj => (outR_no ho hy hj (by omega)).elim))
  refine pgc hG rfl rfl (Nat.le_of_ble_eq_true rfl) ?_
  refine pgs hG rfl rfl ?_
  refine pg_gn hG rfl rfl hx rfl h19 ?_
  refine pgs hG rfl rfl ?_
  refine pg_gn hG rfl rfl hx rfl h0 ?_
  refine pgs hG rfl rfl ?_
  refine pgs hG rfl rfl ?_
  refine pg_gn hG rfl rfl hx rfl h0 ?_
  refine pg_gf hG rfl rfl hv.ob rfl ?_
  refine pg_cal hG 0 rfl rfl (Nat.le_of_ble_eq_true rfl) (by decide) (Nat.le_of_ble_eq_true rfl) ?_
  refine pm_rcv_of (As' := [.ref b, .int (nI 0), .int (nI 0)]) hh (c_addr0 base sa hv hh hbh ?_)
  refine pgc hG rfl rfl (Nat.le_of_ble_eq_true rfl) ?_
  refine pgs hG rfl rfl ?_
  refine pg_gn hG rfl rfl hx rfl h0 ?_
  refine pg_cal hG 0 rfl rfl (Nat.le_of_ble_eq_true rfl) (by decide) (Nat.le_of_ble_eq_true rfl) ?_
  refine pm_rcv_of (As' := []) hv.ob (s_By_clear base sa hv.ob hbb ?_)
  refine pgs hG rfl rfl ?_
  refine pgc hG rfl rfl (Nat.le_of_ble_eq_true rfl) ?_
  refine pgs hG rfl rfl ?_
  refine pz_eq hG (t := 54) rfl rfl (fun _ => ?_) (fun c => absurd rfl c)
  refine pgs hG rfl rfl ?_
  refine pn_nonnull (q := none) hG (t := 61) rfl rfl (fun c => absurd rfl c) (fun _ => ?_)
  refine pgs hG rfl rfl ?_
  exact pg_ri hG rfl rfl rfl k
set_option maxRecDepth 100000 in
theorem c_due0 (base : Nat) (sa : Nat → Nat) {x : Nat} {F : Nat → Value} {M : pmM} {Rt : pmR} {kc ks : Nat} (hx : M x = some (.inr (11, obL 20 F))) (h13 : F 13 = .int 0) (k : Rt none M kc ks) : kP_Rf_bringDue base sa [.ref x] M kc ks Rt := by
  refine ⟨Nat.le_of_ble_eq_true rfl, fun G hG => ?_⟩
  refine pgs hG rfl rfl ?_
  refine pg_gn hG rfl rfl hx rfl h13 ?_
  refine pgc hG rfl rfl (Nat.le_of_ble_eq_true rfl) ?_
  refine pgs hG rfl rfl ?_
  refine pgc hG rfl rfl (Nat.le_of_ble_eq_true rfl) ?_
  refine pgs hG rfl rfl ?_
  refine pgc hG rfl rfl (Nat.le_of_ble_eq_true rfl) ?_
  refine pgs hG rfl rfl ?_
  refine pgs hG rfl rfl ?_
  refine pi_ge hG (t := 189) rfl rfl (fun _ => ?_) (fun c => absurd (by decide) c)
  exact pg_rv hG rfl rfl k
set_option maxRecDepth 100000 in
/-- ticks of a field without routers, where nothing flies -/
theorem c_ticks0 (base : Nat) (sa : Nat → Nat) {x τ : Nat} {F : Nat → Value} {y : Int32} {M : pmM} {Rt : pmR} {kc ks : Nat} (hx : M x = some (.inr (11, obL 20 F))) (hbx : base ≤ x) (h5 : F 5 = .int (nI τ)) (hτ : τ ≤ 20000) (h9 : F 9 = .int 0) (h13 : F 13 = .int 0)
    (k0 : (y < 0 ∨ ∃ n, y = nI n ∧ n < 2 ^ 31 ∧ (2000 < n ∨ 20000 < τ + n)) → Rt (some (.int (-1))) M kc ks) (k1 : ∀ n, y = nI n → n ≤ 2000 → τ + n ≤ 20000 → Rt (some (.int (nI (τ + n)))) (pm_up M x (.inr (11, obL 20 (upF F 5 (.int (nI (τ + n))))))) kc ks) : kP_Rf_ticks base sa [.ref x, .int y] M kc ks Rt := by
  refine ⟨Nat.le_of_ble_eq_true rfl, fun G hG => ?_⟩
  have e2000 : (Int16.ofInt 2000).toInt32 = nI 2000 := by decide
  have e20000 : (Int16.ofInt 20000).toInt32 = nI 20000 := by decide
  refine pgs hG rfl rfl ?_
  refine pz_lt hG (t := 23) rfl rfl (fun c1 => ?_) (fun c1 => ?_)
  · refine pgs hG rfl rfl ?_
    exact pg_ri hG rfl rfl rfl (k0 (Or.inl c1))
  obtain ⟨n, hn, rfl⟩ := nI_of c1
  refine pgs hG rfl rfl ?_
  refine pgs hG rfl rfl ?_
  rw [e2000]
  refine pi_gt hG (t := 23) rfl rfl (fun c8 => ?_) (fun c8 => ?_)
  · refine pgs hG rfl rfl ?_
    refine pg_ri hG rfl rfl rfl (k0 (Or.inr ⟨n, rfl, hn, Or.inl ?_⟩))
    rcases Nat.lt_or_ge 2000 n with h | h
    · exact h
    · exact absurd c8 (Int32.not_lt.mpr (nI_le h (by omega)))
  have hn2 : n ≤ 2000 := by
    rcases Nat.lt_or_ge 2000 n with h | h
    · exact absurd (Int32.not_lt.mp c8) (nI_ge h hn)
    · exact h
  refine pgs hG rfl rfl ?_
  refine pg_gn hG rfl rfl hx rfl h5 ?_
  refine pgs hG rfl rfl ?_
  refine pgs hG rfl rfl ?_
  refine pgs hG rfl rfl ?_
  rw [e20000, nI_add]
  refine pi_le hG (t := 25) rfl rfl (fun c20 => ?_) (fun c20 => ?_)
  rotate_left
  · refine pgs hG rfl rfl ?_
    refine pg_ri hG rfl rfl rfl (k0 (Or.inr ⟨n, rfl, hn, Or.inr ?_⟩))
    rcases Nat.lt_or_ge 20000 (τ + n) with h | h
    · exact h
    · exact absurd (nI_le h (by omega)) c20
  have hn3 : τ + n ≤ 20000 := by
    rcases Nat.lt_or_ge 20000 (τ + n) with h | h
    · exact absurd c20 (nI_ge h (by omega))
    · exact h
  refine pgs hG rfl rfl ?_
  refine pgc hG rfl rfl (Nat.le_of_ble_eq_true rfl) ?_
  have key : ∀ r i, i + r = n → G 27 [(2, .int (nI i)), (0, .ref x), (1, .int (nI n))] [] (pm_up M x (.inr (11, obL 20 (upF F 5 (.int (nI (τ + i))))))) kc ks := by
    intro r
    induction r with
    | zero =>
      intro i hi
      have hi : i = n := hi
      subst hi
      refine pgs hG rfl rfl ?_
      refine pgs hG rfl rfl ?_
      refine pi_ge hG (t := 89) rfl rfl (fun _ => ?_) (fun c => absurd (Int32.le_refl _) c)
      refine pgs hG rfl rfl ?_
      refine pg_gn hG rfl rfl (pm_up_self _ _ _) rfl (upF_s _ _ _) ?_
      exact pg_ri hG rfl rfl rfl (k1 i rfl hn2 hn3)
    | succ r ih =>
      intro i hi
      have h9' : ∀ v, upF F 5 v 9 = .int 0 := fun v => (upF_n _ _ (by decide)).trans h9
      have h13' : ∀ v, upF F 5 v 13 = .int 0 := fun v => (upF_n _ _ (by decide)).trans h13
      refine pgs hG rfl rfl ?_
      refine pgs hG rfl rfl ?_
      refine pi_ge hG (t := 89) rfl rfl (fun c => absurd c (nI_ge (by omega) (by omega))) (fun _ => ?_)
      refine pgs hG rfl rfl ?_
      refine pgc hG rfl rfl rfl ?_
      refine pg_gn hG rfl rfl (pm_up_self _ _ _) rfl (upF_s _ _ _) ?_
      refine pgs hG rfl rfl ?_
      refine pgs hG rfl rfl ?_
      refine pg_pn hG rfl rfl (pm_up_self _ _ _) hbx rfl rfl rfl ?_
      rw [pm_uu, upF_uu, show nI (τ + i) + Int32.ofInt 1 = nI (τ + (i + 1)) from (nI_add (τ + i) 1).trans (congrArg nI (by omega))]
      refine pgs hG rfl rfl ?_
      refine pg_cal hG 0 rfl rfl (Nat.le_of_ble_eq_true rfl) (by decide) (Nat.le_of_ble_eq_true rfl) ?_
      refine pm_rcv_of (As' := []) (pm_up_self _ _ _) (c_due0 base sa (pm_up_self _ _ _) (h13' _) ?_)
      refine pgs hG rfl rfl ?_
      refine pgc hG rfl rfl (Nat.le_of_ble_eq_true rfl) ?_
      refine pgs hG rfl rfl ?_
      refine pgs hG rfl rfl ?_
      refine pg_gn hG rfl rfl (pm_up_self _ _ _) rfl (h9' _) ?_
      refine pi_ge hG (t := 83) rfl rfl (fun _ => ?_) (fun c => absurd (by decide) c)
      refine pgc hG rfl rfl (Nat.le_of_ble_eq_true rfl) ?_
      refine pg_go hG (t := 27) rfl rfl ?_
      have e : nI i + Int32.ofInt 1 = nI (i + 1) := nI_add i 1
      have h4 := ih (i + 1) (by omega)
      rw [← e] at h4
      exact pg_wl hG [0, 2, 3] rfl h4
  have h4 := key n 0 (by omega)
  have e0 : pm_up M x (.inr (11, obL 20 (upF F 5 (.int (nI (τ + 0)))))) = M := by
    refine pm_sf (hx.trans ?_)
    have e : upF F 5 (.int (nI (τ + 0))) = F := by
      funext j
      by_cases hj : j = 5
      · subst hj
        rw [upF_s, h5]
        rfl
      · exact upF_n _ _ hj
    rw [e]
  rw [e0] at h4
  exact h4
set_option maxRecDepth 100000 in
/-- read of an empty tape, the first time -/
theorem c_read0 (base : Nat) (sa : Nat → Nat) {x b bd cap : Nat} {F : Nat → Value} {M : pmM} {Rt : pmR} {kc ks : Nat} (hx : M x = some (.inr (11, obL 20 F))) (hbx : base ≤ x) (h0 : F 0 = .ref b) (h3 : F 3 = .null) (hv : vBy base M b [] bd cap) (hbb : base ≤ b) (h1 : 200 ≤ kc) (h2 : 2000 ≤ ks)
    (k : ∀ M' : pmM, (∀ a, M a ≠ none → a ≠ x → a ≠ b → M' a = M a) → Rt (some (.int 0)) M' (kc - 31) (ks - 412)) : kP_Rf_read base sa [.ref x] M kc ks Rt := by
  have hob := hv.ob
  have hxb : x ≠ b := by
    rintro rfl
    rw [hx] at hob
    exact absurd (congrArg (fun e => match e with | some (.inr (c, _)) => c | _ => 0) hob) (show ¬ ((11 : Nat) = 0) from by decide)
  refine ⟨Nat.le_of_ble_eq_true rfl, fun G hG => ?_⟩
  refine pgs hG rfl rfl ?_
  refine pgc hG rfl rfl (Nat.le_of_ble_eq_true rfl) ?_
  refine pgs hG rfl rfl ?_
  refine pgc hG rfl rfl (Nat.le_of_ble_eq_true rfl) ?_
  refine pgs hG rfl rfl ?_
  refine pgs hG rfl rfl ?_
  refine pg_pn hG rfl rfl hx hbx rfl rfl rfl ?_
  refine pgs hG rfl rfl ?_
  refine pg_gn hG rfl rfl (pm_up_self _ _ _) rfl ((upF_n _ _ (by decide)).trans h3) ?_
  refine pn_nonnull (q := none) hG (t := 28) rfl rfl (fun c => absurd rfl c) (fun _ => ?_)
  refine pgs hG rfl rfl ?_
  refine pg_new hG rfl rfl (by omega) (by show 12 ≤ ks; omega) (fun q hq hbq => ?_)
  refine pgc hG rfl rfl rfl ?_
  refine pgs hG rfl rfl ?_
  refine pg_cal hG 1 rfl rfl (Nat.le_of_ble_eq_true rfl) (by decide) (Nat.le_of_ble_eq_true rfl) ?_
  refine pm_rcv_of (As' := [.ref x]) (pm_up_self _ _ _) (w_Re_init base sa hbq (ini_rf (n := 12) (pm_up_self _ _ _) rfl) (by omega) (by show 1000 ≤ ks - 12; omega) (fun M1 hI => ?_))
  have hqx : q ≠ x := fun e => by
    rw [e, pm_up_self] at hq
    cases hq
  have hqo : ∀ a, M a ≠ none → q ≠ a := fun a ha e => by
    subst e
    rw [pm_up_ne _ _ hqx] at hq
    exact ha hq
  have old : ∀ a, M a ≠ none → a ≠ x → M1 a = M a := fun a ha hax => by
    have e1 : pm_up (pm_up M x (.inr (11, obL 20 (upF F 4 (.int 0))))) q (.inr (7, [.null, .null, .null, .int 0, .int 0, .int 0, .null, .null, .int 0, .int 0, .int 0, .null])) a = M a := (pm_up_ne _ _ (hqo a ha).symm).trans (pm_up_ne _ _ hax)
    exact (hI.2 a (fun z => ha (e1.symm.trans z)) (hqo a ha).symm).trans e1
  have hx1 : M1 x = some (.inr (11, obL 20 (upF F 4 (.int 0)))) := by
    have e1 : pm_up (pm_up M x (.inr (11, obL 20 (upF F 4 (.int 0))))) q (.inr (7, [.null, .null, .null, .int 0, .int 0, .int 0, .null, .null, .int 0, .int 0, .int 0, .null])) x = some (.inr (11, obL 20 (upF F 4 (.int 0)))) := (pm_up_ne _ _ hqx.symm).trans (pm_up_self _ _ _)
    exact (hI.2 x (fun z => absurd (e1.symm.trans z) (by simp)) hqx.symm).trans e1
  have hb1 : M1 b = some (.inr (0, [.ref bd, .int (nI 0)])) := (old b (by rw [hob]; simp) hxb.symm).trans hob
  refine pg_pn hG rfl rfl hx1 hbx rfl rfl rfl ?_
  have hx2 := pm_up_self M1 x (.inr (11, obL 20 (upF (upF F 4 (.int 0)) 3 (.ref q))))
  have hb2 := (pm_up_ne M1 (.inr (11, obL 20 (upF (upF F 4 (.int 0)) 3 (.ref q)))) hxb.symm).trans hb1
  have g0 : upF (upF F 4 (.int 0)) 3 (.ref q) 0 = .ref b := (upF_n _ _ (by decide)).trans ((upF_n _ _ (by decide)).trans h0)
  have g4 : upF (upF F 4 (.int 0)) 3 (.ref q) 4 = .int 0 := (upF_n _ _ (by decide)).trans (upF_s _ _ _)
  refine pgs hG rfl rfl ?_
  refine pgs hG rfl rfl ?_
  refine pg_gn hG rfl rfl hx2 rfl g0 ?_
  refine pg_gf hG rfl rfl hb2 rfl ?_
  refine pi_ge hG (t := 101) rfl rfl (fun _ => ?_) (fun c => absurd (by decide) c)
  refine pgs hG rfl rfl ?_
  refine pg_gn hG rfl rfl hx2 rfl g0 ?_
  refine pg_cal hG 0 rfl rfl (Nat.le_of_ble_eq_true rfl) (by decide) (Nat.le_of_ble_eq_true rfl) ?_
  refine pm_rcv_of (As' := []) hb2 (s_By_clear base sa hb2 hbb ?_)
  refine pgs hG rfl rfl ?_
  refine pg_gn hG rfl rfl ((pm_up_ne _ _ hxb).trans hx2) rfl g4 ?_
  refine pz_ne hG (t := 119) rfl rfl (fun c => absurd rfl c) (fun _ => ?_)
  refine pgs hG rfl rfl ?_
  refine pg_go hG (t := 122) rfl rfl ?_
  refine pg_wb hG (kc' := kc - 31) (ks' := ks - 412) (by omega) (by show ks - 412 ≤ ks - 12 - 400; omega) ?_
  refine pg_ri hG rfl rfl rfl (k _ (fun a ha hax hab => ?_))
  exact (pm_up_ne _ _ hab).trans ((pm_up_ne _ _ hax).trans (old a ha hax))
