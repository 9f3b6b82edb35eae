/-! The class's object, new: by program (gen_rfinit.py). -/
def rfF (qt qta qx qxa qp qpa ql qr qi qf qs qd qd1 qd2 qd3 qd4 qo qoa qe qh : Nat) : List Value := [.ref qt, .ref qx, .ref qp, .null, .int 0, .int 0, .ref ql, .int 0, .ref qr, .int 0, .ref qi, .int 0, .ref qf, .int 0, .ref qs, .int 0, .ref qd, .ref qo, .ref qe, .ref qh]
def rfM (M : pmM) (x qt qta qx qxa qp qpa ql qr qi qf qs qd qd1 qd2 qd3 qd4 qo qoa qe qh : Nat) : pmM := pm_up (pm_up (pm_up (pm_up (pm_up (pm_up (pm_up (pm_up (pm_up (pm_up (pm_up (pm_up (pm_up (pm_up (pm_up (pm_up (pm_up (pm_up (pm_up (pm_up (pm_up (M) qta (.inl (.byte, 64, .inl fun _ => 0))) qt (.inr (0, [.ref qta, .int 0]))) qxa (.inl (.byte, 64, .inl fun _ => 0))) qx (.inr (0, [.ref qxa, .int 0]))) qpa (.inl (.byte, 64, .inl fun _ => 0))) qp (.inr (0, [.ref qpa, .int 0]))) ql (.inl (.object "RoutingField$Link", 10, .inr (.inr (.inr (.inr fun _ => none)))))) qr (.inl (.object "RoutingField$Router", 6, .inr (.inr (.inr (.inr fun _ => none)))))) qi (.inl (.object "RoutingField$PrefixList", 8, .inr (.inr (.inr (.inr fun _ => none)))))) qf (.inl (.object "RoutingField$Datagram", 256, .inr (.inr (.inr (.inr fun _ => none)))))) qs (.inl (.object "RoutingField$Datagram", 258, .inr (.inr (.inr (.inr fun _ => none)))))) qd2 (.inl (.byte, 600, .inl fun _ => 0))) qd1 (.inr (0, [.ref qd2, .int 0]))) qd3 (.inr (5, [.int 4, .long 0, .long 0, .int 0]))) qd4 (.inr (5, [.int 4, .long 0, .long 0, .int 0]))) qd (.inr (2, daF qd1 qd3 qd4))) qoa (.inl (.object "RoutingField$Route", 16, .inr (.inr (.inr (.inr fun _ => none)))))) qo (.inr (10, [.ref qoa, .int 0]))) qe (.inr (5, [.int 4, .long 0, .long 0, .int 0]))) qh (.inr (5, [.int 4, .long 0, .long 0, .int 0]))) x (.inr (11, rfF qt qta qx qxa qp qpa ql qr qi qf qs qd qd1 qd2 qd3 qd4 qo qoa qe qh))
set_option maxRecDepth 100000 in
set_option maxHeartbeats 4000000 in
theorem s_Rf_init (base : Nat) (sa : Nat → Nat) {x : Nat} {M : pmM} {Rt : pmR} {kc ks : Nat} (hbb : base ≤ x) (hc : 20 ≤ kc) (hs : 1384 ≤ ks)
    (k : ∀ qt qta qx qxa qp qpa ql qr qi qf qs qd qd1 qd2 qd3 qd4 qo qoa qe qh : Nat, (∀ q ∈ [qt, qta, qx, qxa, qp, qpa, ql, qr, qi, qf, qs, qd, qd1, qd2, qd3, qd4, qo, qoa, qe, qh], base ≤ q ∧ M q = none) → [x, qt, qta, qx, qxa, qp, qpa, ql, qr, qi, qf, qs, qd, qd1, qd2, qd3, qd4, qo, qoa, qe, qh].Nodup → Rt none (rfM M x qt qta qx qxa qp qpa ql qr qi qf qs qd qd1 qd2 qd3 qd4 qo qoa qe qh) (kc - 20) (ks - 1384)) :
    kP_Rf_init base sa [.ref x] (pm_up M x (.inr (11, [.null, .null, .null, .null, .int 0, .int 0, .null, .int 0, .null, .int 0, .null, .int 0, .null, .int 0, .null, .int 0, .null, .null, .null, .null]))) kc ks Rt := by
  refine ⟨Nat.le_of_ble_eq_true rfl, fun G hG => ?_⟩
  refine pgs hG rfl rfl ?_
  refine pg_cal hG 1 rfl rfl (Nat.le_of_ble_eq_true rfl) (by decide) (Nat.le_of_ble_eq_true rfl) ⟨x, rfl, ?_⟩
  refine pgs hG rfl rfl ?_
  refine pg_new hG rfl rfl (by show 1 ≤ kc; omega) (by show 2 ≤ ks; omega) (fun qt h_qt b_qt => ?_)
  obtain ⟨n_qt_x, h_qt⟩ := pm_fr h_qt
  refine pgc hG rfl rfl rfl ?_
  refine pgs hG rfl rfl ?_
  refine pg_cal hG 1 rfl rfl (Nat.le_of_ble_eq_true rfl) (by decide) (Nat.le_of_ble_eq_true rfl) ?_
  refine pm_rcv_of (As' := [.int (nI 64)]) (pm_up_self _ _ _) (s_By_make base sa (n := 64) b_qt (by decide) (by decide) (by show 1 ≤ kc - 1; omega) (by show 64 ≤ ks - 2; omega) (fun qta n_qta_qt h_qta b_qta => ?_))
  obtain ⟨n_qta_x, h_qta⟩ := pm_fr h_qta
  rw [pm_co _ n_qta_x.symm, pm_co _ n_qt_x.symm]
  refine pg_pv hG (fs' := [.ref qt, .null, .null, .null, .int 0, .int 0, .null, .int 0, .null, .int 0, .null, .int 0, .null, .int 0, .null, .int 0, .null, .null, .null, .null]) rfl rfl hbb (Nat.le_of_ble_eq_true rfl) rfl rfl rfl ?_
  refine pg_nf (pc' := 17) (st' := []) (kc' := kc - 1 - 1) (ks' := ks - 2 - 64) rfl rfl rfl rfl ?_
  refine pgs hG rfl rfl ?_
  refine pg_new hG rfl rfl (by show 1 ≤ kc - 1 - 1; omega) (by show 2 ≤ ks - 2 - 64; omega) (fun qx h_qx b_qx => ?_)
  obtain ⟨n_qx_x, h_qx⟩ := pm_fr h_qx
  obtain ⟨n_qx_qt, h_qx⟩ := pm_fr h_qx
  obtain ⟨n_qx_qta, h_qx⟩ := pm_fr h_qx
  refine pgc hG rfl rfl rfl ?_
  refine pgs hG rfl rfl ?_
  refine pg_cal hG 1 rfl rfl (Nat.le_of_ble_eq_true rfl) (by decide) (Nat.le_of_ble_eq_true rfl) ?_
  refine pm_rcv_of (As' := [.int (nI 64)]) (pm_up_self _ _ _) (s_By_make base sa (n := 64) b_qx (by decide) (by decide) (by show 1 ≤ kc - 1 - 1 - 1; omega) (by show 64 ≤ ks - 2 - 64 - 2; omega) (fun qxa n_qxa_qx h_qxa b_qxa => ?_))
  obtain ⟨n_qxa_x, h_qxa⟩ := pm_fr h_qxa
  obtain ⟨n_qxa_qt, h_qxa⟩ := pm_fr h_qxa
  obtain ⟨n_qxa_qta, h_qxa⟩ := pm_fr h_qxa
  rw [pm_co _ n_qxa_x.symm, pm_co _ n_qx_x.symm]
  refine pg_pv hG (fs' := [.ref qt, .ref qx, .null, .null, .int 0, .int 0, .null, .int 0, .null, .int 0, .null, .int 0, .null, .int 0, .null, .int 0, .null, .null, .null, .null]) rfl rfl hbb (Nat.le_of_ble_eq_true rfl) rfl rfl rfl ?_
  refine pg_nf (pc' := 30) (st' := []) (kc' := kc - 1 - 1 - 1 - 1) (ks' := ks - 2 - 64 - 2 - 64) rfl rfl rfl rfl ?_
  refine pgs hG rfl rfl ?_
  refine pg_new hG rfl rfl (by show 1 ≤ kc - 1 - 1 - 1 - 1; omega) (by show 2 ≤ ks - 2 - 64 - 2 - 64; omega) (fun qp h_qp b_qp => ?_)
  obtain ⟨n_qp_x, h_qp⟩ := pm_fr h_qp
  obtain ⟨n_qp_qx, h_qp⟩ := pm_fr h_qp
  obtain ⟨n_qp_qxa, h_qp⟩ := pm_fr h_qp
  obtain ⟨n_qp_qt, h_qp⟩ := pm_fr h_qp
  obtain ⟨n_qp_qta, h_qp⟩ := pm_fr h_qp
  refine pgc hG rfl rfl rfl ?_
  refine pgs hG rfl rfl ?_
  refine pg_cal hG 1 rfl rfl (Nat.le_of_ble_eq_true rfl) (by decide) (Nat.le_of_ble_eq_true rfl) ?_
  refine pm_rcv_of (As' := [.int (nI 64)]) (pm_up_self _ _ _) (s_By_make base sa (n := 64) b_qp (by decide) (by decide) (by show 1 ≤ kc - 1 - 1 - 1 - 1 - 1; omega) (by show 64 ≤ ks - 2 - 64 - 2 - 64 - 2; omega) (fun qpa n_qpa_qp h_qpa b_qpa => ?_))
  obtain ⟨n_qpa_x, h_qpa⟩ := pm_fr h_qpa
  obtain ⟨n_qpa_qx, h_qpa⟩ := pm_fr h_qpa
  obtain ⟨n_qpa_qxa, h_qpa⟩ := pm_fr h_qpa
  obtain ⟨n_qpa_qt, h_qpa⟩ := pm_fr h_qpa
  obtain ⟨n_qpa_qta, h_qpa⟩ := pm_fr h_qpa
  rw [pm_co _ n_qpa_x.symm, pm_co _ n_qp_x.symm]
  refine pg_pv hG (fs' := [.ref qt, .ref qx, .ref qp, .null, .int 0, .int 0, .null, .int 0, .null, .int 0, .null, .int 0, .null, .int 0, .null, .int 0, .null, .null, .null, .null]) rfl rfl hbb (Nat.le_of_ble_eq_true rfl) rfl rfl rfl ?_
  refine pg_nf (pc' := 43) (st' := []) (kc' := kc - 1 - 1 - 1 - 1 - 1 - 1) (ks' := ks - 2 - 64 - 2 - 64 - 2 - 64) rfl rfl rfl rfl ?_
  refine pgs hG rfl rfl ?_
  refine pgs hG rfl rfl ?_
  refine pg_pv hG (fs' := [.ref qt, .ref qx, .ref qp, .null, .int 0, .int 0, .null, .int 0, .null, .int 0, .null, .int 0, .null, .int 0, .null, .int 0, .null, .null, .null, .null]) rfl rfl hbb (Nat.le_of_ble_eq_true rfl) rfl rfl rfl ?_
  refine pg_nf (pc' := 48) (st' := []) (kc' := kc - 1 - 1 - 1 - 1 - 1 - 1) (ks' := ks - 2 - 64 - 2 - 64 - 2 - 64) rfl rfl rfl rfl ?_
  refine pgs hG rfl rfl ?_
  refine pgs hG rfl rfl ?_
  refine pg_pv hG (fs' := [.ref qt, .ref qx, .ref qp, .null, .int 0, .int 0, .null, .int 0, .null, .int 0, .null, .int 0, .null, .int 0, .null, .int 0, .null, .null, .null, .null]) rfl rfl hbb (Nat.le_of_ble_eq_true rfl) rfl rfl rfl ?_
  refine pg_nf (pc' := 53) (st' := []) (kc' := kc - 1 - 1 - 1 - 1 - 1 - 1) (ks' := ks - 2 - 64 - 2 - 64 - 2 - 64) rfl rfl rfl rfl ?_
  refine pgs hG rfl rfl ?_
  refine pgs hG rfl rfl ?_
  refine pg_pv hG (fs' := [.ref qt, .ref qx, .ref qp, .null, .int 0, .int 0, .null, .int 0, .null, .int 0, .null, .int 0, .null, .int 0, .null, .int 0, .null, .null, .null, .null]) rfl rfl hbb (Nat.le_of_ble_eq_true rfl) rfl rfl rfl ?_
  refine pg_nf (pc' := 58) (st' := []) (kc' := kc - 1 - 1 - 1 - 1 - 1 - 1) (ks' := ks - 2 - 64 - 2 - 64 - 2 - 64) rfl rfl rfl rfl ?_
  refine pgs hG rfl rfl ?_
  refine pgs hG rfl rfl ?_
  refine pg_naq hG (n := 10) rfl rfl (by decide) (by show 1 ≤ kc - 1 - 1 - 1 - 1 - 1 - 1; omega) (by show 10 ≤ ks - 2 - 64 - 2 - 64 - 2 - 64; omega) (fun ql h_ql b_ql => ?_)
  obtain ⟨n_ql_x, h_ql⟩ := pm_fr h_ql
  obtain ⟨n_ql_qp, h_ql⟩ := pm_fr h_ql
  obtain ⟨n_ql_qpa, h_ql⟩ := pm_fr h_ql
  obtain ⟨n_ql_qx, h_ql⟩ := pm_fr h_ql
  obtain ⟨n_ql_qxa, h_ql⟩ := pm_fr h_ql
  obtain ⟨n_ql_qt, h_ql⟩ := pm_fr h_ql
  obtain ⟨n_ql_qta, h_ql⟩ := pm_fr h_ql
  rw [pm_co _ n_ql_x.symm]
  refine pg_pv hG (fs' := [.ref qt, .ref qx, .ref qp, .null, .int 0, .int 0, .ref ql, .int 0, .null, .int 0, .null, .int 0, .null, .int 0, .null, .int 0, .null, .null, .null, .null]) rfl rfl hbb (Nat.le_of_ble_eq_true rfl) rfl rfl rfl ?_
  refine pg_nf (pc' := 67) (st' := []) (kc' := kc - 1 - 1 - 1 - 1 - 1 - 1 - 1) (ks' := ks - 2 - 64 - 2 - 64 - 2 - 64 - 10) rfl rfl rfl rfl ?_
  refine pgs hG rfl rfl ?_
  refine pgs hG rfl rfl ?_
  refine pg_pv hG (fs' := [.ref qt, .ref qx, .ref qp, .null, .int 0, .int 0, .ref ql, .int 0, .null, .int 0, .null, .int 0, .null, .int 0, .null, .int 0, .null, .null, .null, .null]) rfl rfl hbb (Nat.le_of_ble_eq_true rfl) rfl rfl rfl ?_
  refine pg_nf (pc' := 72) (st' := []) (kc' := kc - 1 - 1 - 1 - 1 - 1 - 1 - 1) (ks' := ks - 2 - 64 - 2 - 64 - 2 - 64 - 10) rfl rfl rfl rfl ?_
  refine pgs hG rfl rfl ?_
  refine pgs hG rfl rfl ?_
  refine pg_naq hG (n := 6) rfl rfl (by decide) (by show 1 ≤ kc - 1 - 1 - 1 - 1 - 1 - 1 - 1; omega) (by show 6 ≤ ks - 2 - 64 - 2 - 64 - 2 - 64 - 10; omega) (fun qr h_qr b_qr => ?_)
  obtain ⟨n_qr_x, h_qr⟩ := pm_fr h_qr
  obtain ⟨n_qr_ql, h_qr⟩ := pm_fr h_qr
  obtain ⟨n_qr_qp, h_qr⟩ := pm_fr h_qr
  obtain ⟨n_qr_qpa, h_qr⟩ := pm_fr h_qr
  obtain ⟨n_qr_qx, h_qr⟩ := pm_fr h_qr
  obtain ⟨n_qr_qxa, h_qr⟩ := pm_fr h_qr
  obtain ⟨n_qr_qt, h_qr⟩ := pm_fr h_qr
  obtain ⟨n_qr_qta, h_qr⟩ := pm_fr h_qr
  rw [pm_co _ n_qr_x.symm]
  refine pg_pv hG (fs' := [.ref qt, .ref qx, .ref qp, .null, .int 0, .int 0, .ref ql, .int 0, .ref qr, .int 0, .null, .int 0, .null, .int 0, .null, .int 0, .null, .null, .null, .null]) rfl rfl hbb (Nat.le_of_ble_eq_true rfl) rfl rfl rfl ?_
  refine pg_nf (pc' := 81) (st' := []) (kc' := kc - 1 - 1 - 1 - 1 - 1 - 1 - 1 - 1) (ks' := ks - 2 - 64 - 2 - 64 - 2 - 64 - 10 - 6) rfl rfl rfl rfl ?_
  refine pgs hG rfl rfl ?_
  refine pgs hG rfl rfl ?_
  refine pg_pv hG (fs' := [.ref qt, .ref qx, .ref qp, .null, .int 0, .int 0, .ref ql, .int 0, .ref qr, .int 0, .null, .int 0, .null, .int 0, .null, .int 0, .null, .null, .null, .null]) rfl rfl hbb (Nat.le_of_ble_eq_true rfl) rfl rfl rfl ?_
  refine pg_nf (pc' := 86) (st' := []) (kc' := kc - 1 - 1 - 1 - 1 - 1 - 1 - 1 - 1) (ks' := ks - 2 - 64 - 2 - 64 - 2 - 64 - 10 - 6) rfl rfl rfl rfl ?_
  refine pgs hG rfl rfl ?_
  refine pgs hG rfl rfl ?_
  refine pg_naq hG (n := 8) rfl rfl (by decide) (by show 1 ≤ kc - 1 - 1 - 1 - 1 - 1 - 1 - 1 - 1; omega) (by show 8 ≤ ks - 2 - 64 - 2 - 64 - 2 - 64 - 10 - 6; omega) (fun qi h_qi b_qi => ?_)
  obtain ⟨n_qi_x, h_qi⟩ := pm_fr h_qi
  obtain ⟨n_qi_qr, h_qi⟩ := pm_fr h_qi
  obtain ⟨n_qi_ql, h_qi⟩ := pm_fr h_qi
  obtain ⟨n_qi_qp, h_qi⟩ := pm_fr h_qi
  obtain ⟨n_qi_qpa, h_qi⟩ := pm_fr h_qi
  obtain ⟨n_qi_qx, h_qi⟩ := pm_fr h_qi
  obtain ⟨n_qi_qxa, h_qi⟩ := pm_fr h_qi
  obtain ⟨n_qi_qt, h_qi⟩ := pm_fr h_qi
  obtain ⟨n_qi_qta, h_qi⟩ := pm_fr h_qi
  rw [pm_co _ n_qi_x.symm]
  refine pg_pv hG (fs' := [.ref qt, .ref qx, .ref qp, .null, .int 0, .int 0, .ref ql, .int 0, .ref qr, .int 0, .ref qi, .int 0, .null, .int 0, .null, .int 0, .null, .null, .null, .null]) rfl rfl hbb (Nat.le_of_ble_eq_true rfl) rfl rfl rfl ?_
  refine pg_nf (pc' := 95) (st' := []) (kc' := kc - 1 - 1 - 1 - 1 - 1 - 1 - 1 - 1 - 1) (ks' := ks - 2 - 64 - 2 - 64 - 2 - 64 - 10 - 6 - 8) rfl rfl rfl rfl ?_
  refine pgs hG rfl rfl ?_
  refine pgs hG rfl rfl ?_
  refine pg_pv hG (fs' := [.ref qt, .ref qx, .ref qp, .null, .int 0, .int 0, .ref ql, .int 0, .ref qr, .int 0, .ref qi, .int 0, .null, .int 0, .null, .int 0, .null, .null, .null, .null]) rfl rfl hbb (Nat.le_of_ble_eq_true rfl) rfl rfl rfl ?_
  refine pg_nf (pc' := 100) (st' := []) (kc' := kc - 1 - 1 - 1 - 1 - 1 - 1 - 1 - 1 - 1) (ks' := ks - 2 - 64 - 2 - 64 - 2 - 64 - 10 - 6 - 8) rfl rfl rfl rfl ?_
  refine pgs hG rfl rfl ?_
  refine pgs hG rfl rfl ?_
  refine pg_naq hG (n := 256) rfl rfl (by decide) (by show 1 ≤ kc - 1 - 1 - 1 - 1 - 1 - 1 - 1 - 1 - 1; omega) (by show 256 ≤ ks - 2 - 64 - 2 - 64 - 2 - 64 - 10 - 6 - 8; omega) (fun qf h_qf b_qf => ?_)
  obtain ⟨n_qf_x, h_qf⟩ := pm_fr h_qf
  obtain ⟨n_qf_qi, h_qf⟩ := pm_fr h_qf
  obtain ⟨n_qf_qr, h_qf⟩ := pm_fr h_qf
  obtain ⟨n_qf_ql, h_qf⟩ := pm_fr h_qf
  obtain ⟨n_qf_qp, h_qf⟩ := pm_fr h_qf
  obtain ⟨n_qf_qpa, h_qf⟩ := pm_fr h_qf
  obtain ⟨n_qf_qx, h_qf⟩ := pm_fr h_qf
  obtain ⟨n_qf_qxa, h_qf⟩ := pm_fr h_qf
  obtain ⟨n_qf_qt, h_qf⟩ := pm_fr h_qf
  obtain ⟨n_qf_qta, h_qf⟩ := pm_fr h_qf
  rw [pm_co _ n_qf_x.symm]
  refine pg_pv hG (fs' := [.ref qt, .ref qx, .ref qp, .null, .int 0, .int 0, .ref ql, .int 0, .ref qr, .int 0, .ref qi, .int 0, .ref qf, .int 0, .null, .int 0, .null, .null, .null, .null]) rfl rfl hbb (Nat.le_of_ble_eq_true rfl) rfl rfl rfl ?_
  refine pg_nf (pc' := 110) (st' := []) (kc' := kc - 1 - 1 - 1 - 1 - 1 - 1 - 1 - 1 - 1 - 1) (ks' := ks - 2 - 64 - 2 - 64 - 2 - 64 - 10 - 6 - 8 - 256) rfl rfl rfl rfl ?_
  refine pgs hG rfl rfl ?_
  refine pgs hG rfl rfl ?_
  refine pg_pv hG (fs' := [.ref qt, .ref qx, .ref qp, .null, .int 0, .int 0, .ref ql, .int 0, .ref qr, .int 0, .ref qi, .int 0, .ref qf, .int 0, .null, .int 0, .null, .null, .null, .null]) rfl rfl hbb (Nat.le_of_ble_eq_true rfl) rfl rfl rfl ?_
  refine pg_nf (pc' := 115) (st' := []) (kc' := kc - 1 - 1 - 1 - 1 - 1 - 1 - 1 - 1 - 1 - 1) (ks' := ks - 2 - 64 - 2 - 64 - 2 - 64 - 10 - 6 - 8 - 256) rfl rfl rfl rfl ?_
  refine pgs hG rfl rfl ?_
  refine pgs hG rfl rfl ?_
  refine pg_naq hG (n := 258) rfl rfl (by decide) (by show 1 ≤ kc - 1 - 1 - 1 - 1 - 1 - 1 - 1 - 1 - 1 - 1; omega) (by show 258 ≤ ks - 2 - 64 - 2 - 64 - 2 - 64 - 10 - 6 - 8 - 256; omega) (fun qs h_qs b_qs => ?_)
  obtain ⟨n_qs_x, h_qs⟩ := pm_fr h_qs
  obtain ⟨n_qs_qf, h_qs⟩ := pm_fr h_qs
  obtain ⟨n_qs_qi, h_qs⟩ := pm_fr h_qs
  obtain ⟨n_qs_qr, h_qs⟩ := pm_fr h_qs
  obtain ⟨n_qs_ql, h_qs⟩ := pm_fr h_qs
  obtain ⟨n_qs_qp, h_qs⟩ := pm_fr h_qs
  obtain ⟨n_qs_qpa, h_qs⟩ := pm_fr h_qs
  obtain ⟨n_qs_qx, h_qs⟩ := pm_fr h_qs
  obtain ⟨n_qs_qxa, h_qs⟩ := pm_fr h_qs
  obtain ⟨n_qs_qt, h_qs⟩ := pm_fr h_qs
  obtain ⟨n_qs_qta, h_qs⟩ := pm_fr h_qs
  rw [pm_co _ n_qs_x.symm]
  refine pg_pv hG (fs' := [.ref qt, .ref qx, .ref qp, .null, .int 0, .int 0, .ref ql, .int 0, .ref qr, .int 0, .ref qi, .int 0, .ref qf, .int 0, .ref qs, .int 0, .null, .null, .null, .null]) rfl rfl hbb (Nat.le_of_ble_eq_true rfl) rfl rfl rfl ?_
  refine pg_nf (pc' := 125) (st' := []) (kc' := kc - 1 - 1 - 1 - 1 - 1 - 1 - 1 - 1 - 1 - 1 - 1) (ks' := ks - 2 - 64 - 2 - 64 - 2 - 64 - 10 - 6 - 8 - 256 - 258) rfl rfl rfl rfl ?_
  refine pgs hG rfl rfl ?_
  refine pgs hG rfl rfl ?_
  refine pg_pv hG (fs' := [.ref qt, .ref qx, .ref qp, .null, .int 0, .int 0, .ref ql, .int 0, .ref qr, .int 0, .ref qi, .int 0, .ref qf, .int 0, .ref qs, .int 0, .null, .null, .null, .null]) rfl rfl hbb (Nat.le_of_ble_eq_true rfl) rfl rfl rfl ?_
  refine pg_nf (pc' := 130) (st' := []) (kc' := kc - 1 - 1 - 1 - 1 - 1 - 1 - 1 - 1 - 1 - 1 - 1) (ks' := ks - 2 - 64 - 2 - 64 - 2 - 64 - 10 - 6 - 8 - 256 - 258) rfl rfl rfl rfl ?_
  refine pgs hG rfl rfl ?_
  refine pg_new hG rfl rfl (by show 1 ≤ kc - 1 - 1 - 1 - 1 - 1 - 1 - 1 - 1 - 1 - 1 - 1; omega) (by show 12 ≤ ks - 2 - 64 - 2 - 64 - 2 - 64 - 10 - 6 - 8 - 256 - 258; omega) (fun qd h_qd b_qd => ?_)
  obtain ⟨n_qd_x, h_qd⟩ := pm_fr h_qd
  obtain ⟨n_qd_qs, h_qd⟩ := pm_fr h_qd
  obtain ⟨n_qd_qf, h_qd⟩ := pm_fr h_qd
  obtain ⟨n_qd_qi, h_qd⟩ := pm_fr h_qd
  obtain ⟨n_qd_qr, h_qd⟩ := pm_fr h_qd
  obtain ⟨n_qd_ql, h_qd⟩ := pm_fr h_qd
  obtain ⟨n_qd_qp, h_qd⟩ := pm_fr h_qd
  obtain ⟨n_qd_qpa, h_qd⟩ := pm_fr h_qd
  obtain ⟨n_qd_qx, h_qd⟩ := pm_fr h_qd
  obtain ⟨n_qd_qxa, h_qd⟩ := pm_fr h_qd
  obtain ⟨n_qd_qt, h_qd⟩ := pm_fr h_qd
  obtain ⟨n_qd_qta, h_qd⟩ := pm_fr h_qd
  refine pgc hG rfl rfl rfl ?_
  refine pg_cal hG 1 rfl rfl (Nat.le_of_ble_eq_true rfl) (by decide) (Nat.le_of_ble_eq_true rfl) ?_
  refine pm_rcv_of (As' := []) (pm_up_self _ _ _) (s_Da_init base sa b_qd (by show 4 ≤ kc - 1 - 1 - 1 - 1 - 1 - 1 - 1 - 1 - 1 - 1 - 1 - 1; omega) (by show 610 ≤ ks - 2 - 64 - 2 - 64 - 2 - 64 - 10 - 6 - 8 - 256 - 258 - 12; omega) ?_)
  intro qd1 qd2 qd3 qd4 b_qd1 b_qd2 b_qd3 b_qd4 h_qd1 h_qd2 h_qd3 h_qd4 n_qd1_qd n_qd2_qd n_qd3_qd n_qd4_qd n_qd2_qd1 n_qd3_qd1 n_qd3_qd2 n_qd4_qd1 n_qd4_qd2 n_qd4_qd3
  obtain ⟨n_qd1_x, h_qd1⟩ := pm_fr h_qd1
  obtain ⟨n_qd1_qs, h_qd1⟩ := pm_fr h_qd1
  obtain ⟨n_qd1_qf, h_qd1⟩ := pm_fr h_qd1
  obtain ⟨n_qd1_qi, h_qd1⟩ := pm_fr h_qd1
  obtain ⟨n_qd1_qr, h_qd1⟩ := pm_fr h_qd1
  obtain ⟨n_qd1_ql, h_qd1⟩ := pm_fr h_qd1
  obtain ⟨n_qd1_qp, h_qd1⟩ := pm_fr h_qd1
  obtain ⟨n_qd1_qpa, h_qd1⟩ := pm_fr h_qd1
  obtain ⟨n_qd1_qx, h_qd1⟩ := pm_fr h_qd1
  obtain ⟨n_qd1_qxa, h_qd1⟩ := pm_fr h_qd1
  obtain ⟨n_qd1_qt, h_qd1⟩ := pm_fr h_qd1
  obtain ⟨n_qd1_qta, h_qd1⟩ := pm_fr h_qd1
  obtain ⟨n_qd2_x, h_qd2⟩ := pm_fr h_qd2
  obtain ⟨n_qd2_qs, h_qd2⟩ := pm_fr h_qd2
  obtain ⟨n_qd2_qf, h_qd2⟩ := pm_fr h_qd2
  obtain ⟨n_qd2_qi, h_qd2⟩ := pm_fr h_qd2
  obtain ⟨n_qd2_qr, h_qd2⟩ := pm_fr h_qd2
  obtain ⟨n_qd2_ql, h_qd2⟩ := pm_fr h_qd2
  obtain ⟨n_qd2_qp, h_qd2⟩ := pm_fr h_qd2
  obtain ⟨n_qd2_qpa, h_qd2⟩ := pm_fr h_qd2
  obtain ⟨n_qd2_qx, h_qd2⟩ := pm_fr h_qd2
  obtain ⟨n_qd2_qxa, h_qd2⟩ := pm_fr h_qd2
  obtain ⟨n_qd2_qt, h_qd2⟩ := pm_fr h_qd2
  obtain ⟨n_qd2_qta, h_qd2⟩ := pm_fr h_qd2
  obtain ⟨n_qd3_x, h_qd3⟩ := pm_fr h_qd3
  obtain ⟨n_qd3_qs, h_qd3⟩ := pm_fr h_qd3
  obtain ⟨n_qd3_qf, h_qd3⟩ := pm_fr h_qd3
  obtain ⟨n_qd3_qi, h_qd3⟩ := pm_fr h_qd3
  obtain ⟨n_qd3_qr, h_qd3⟩ := pm_fr h_qd3
  obtain ⟨n_qd3_ql, h_qd3⟩ := pm_fr h_qd3
  obtain ⟨n_qd3_qp, h_qd3⟩ := pm_fr h_qd3
  obtain ⟨n_qd3_qpa, h_qd3⟩ := pm_fr h_qd3
  obtain ⟨n_qd3_qx, h_qd3⟩ := pm_fr h_qd3
  obtain ⟨n_qd3_qxa, h_qd3⟩ := pm_fr h_qd3
  obtain ⟨n_qd3_qt, h_qd3⟩ := pm_fr h_qd3
  obtain ⟨n_qd3_qta, h_qd3⟩ := pm_fr h_qd3
  obtain ⟨n_qd4_x, h_qd4⟩ := pm_fr h_qd4
  obtain ⟨n_qd4_qs, h_qd4⟩ := pm_fr h_qd4
  obtain ⟨n_qd4_qf, h_qd4⟩ := pm_fr h_qd4
  obtain ⟨n_qd4_qi, h_qd4⟩ := pm_fr h_qd4
  obtain ⟨n_qd4_qr, h_qd4⟩ := pm_fr h_qd4
  obtain ⟨n_qd4_ql, h_qd4⟩ := pm_fr h_qd4
  obtain ⟨n_qd4_qp, h_qd4⟩ := pm_fr h_qd4
  obtain ⟨n_qd4_qpa, h_qd4⟩ := pm_fr h_qd4
  obtain ⟨n_qd4_qx, h_qd4⟩ := pm_fr h_qd4
  obtain ⟨n_qd4_qxa, h_qd4⟩ := pm_fr h_qd4
  obtain ⟨n_qd4_qt, h_qd4⟩ := pm_fr h_qd4
  obtain ⟨n_qd4_qta, h_qd4⟩ := pm_fr h_qd4
  unfold daM
  rw [pm_co _ n_qd2_x.symm, pm_co _ n_qd1_x.symm, pm_co _ n_qd3_x.symm, pm_co _ n_qd4_x.symm, pm_co _ n_qd_x.symm]
  refine pg_pv hG (fs' := [.ref qt, .ref qx, .ref qp, .null, .int 0, .int 0, .ref ql, .int 0, .ref qr, .int 0, .ref qi, .int 0, .ref qf, .int 0, .ref qs, .int 0, .ref qd, .null, .null, .null]) rfl rfl hbb (Nat.le_of_ble_eq_true rfl) rfl rfl rfl ?_
  refine pg_nf (pc' := 141) (st' := []) (kc' := kc - 1 - 1 - 1 - 1 - 1 - 1 - 1 - 1 - 1 - 1 - 1 - 1 - 1 - 1 - 1 - 1) (ks' := ks - 2 - 64 - 2 - 64 - 2 - 64 - 10 - 6 - 8 - 256 - 258 - 12 - 610) rfl rfl rfl rfl ?_
  refine pgs hG rfl rfl ?_
  refine pg_new hG rfl rfl (by show 1 ≤ kc - 1 - 1 - 1 - 1 - 1 - 1 - 1 - 1 - 1 - 1 - 1 - 1 - 1 - 1 - 1 - 1; omega) (by show 2 ≤ ks - 2 - 64 - 2 - 64 - 2 - 64 - 10 - 6 - 8 - 256 - 258 - 12 - 610; omega) (fun qo h_qo b_qo => ?_)
  obtain ⟨n_qo_x, h_qo⟩ := pm_fr h_qo
  obtain ⟨n_qo_qd, h_qo⟩ := pm_fr h_qo
  obtain ⟨n_qo_qd4, h_qo⟩ := pm_fr h_qo
  obtain ⟨n_qo_qd3, h_qo⟩ := pm_fr h_qo
  obtain ⟨n_qo_qd1, h_qo⟩ := pm_fr h_qo
  obtain ⟨n_qo_qd2, h_qo⟩ := pm_fr h_qo
  obtain ⟨n_qo_qs, h_qo⟩ := pm_fr h_qo
  obtain ⟨n_qo_qf, h_qo⟩ := pm_fr h_qo
  obtain ⟨n_qo_qi, h_qo⟩ := pm_fr h_qo
  obtain ⟨n_qo_qr, h_qo⟩ := pm_fr h_qo
  obtain ⟨n_qo_ql, h_qo⟩ := pm_fr h_qo
  obtain ⟨n_qo_qp, h_qo⟩ := pm_fr h_qo
  obtain ⟨n_qo_qpa, h_qo⟩ := pm_fr h_qo
  obtain ⟨n_qo_qx, h_qo⟩ := pm_fr h_qo
  obtain ⟨n_qo_qxa, h_qo⟩ := pm_fr h_qo
  obtain ⟨n_qo_qt, h_qo⟩ := pm_fr h_qo
  obtain ⟨n_qo_qta, h_qo⟩ := pm_fr h_qo
  refine pgc hG rfl rfl rfl ?_
  refine pg_cal hG 1 rfl rfl (Nat.le_of_ble_eq_true rfl) (by decide) (Nat.le_of_ble_eq_true rfl) ?_
  refine pm_rcv_of (As' := []) (pm_up_self _ _ _) (s_Ta_init base sa b_qo (by show 1 ≤ kc - 1 - 1 - 1 - 1 - 1 - 1 - 1 - 1 - 1 - 1 - 1 - 1 - 1 - 1 - 1 - 1 - 1; omega) (by show 16 ≤ ks - 2 - 64 - 2 - 64 - 2 - 64 - 10 - 6 - 8 - 256 - 258 - 12 - 610 - 2; omega) (fun qoa n_qoa_qo h_qoa b_qoa => ?_))
  obtain ⟨n_qoa_x, h_qoa⟩ := pm_fr h_qoa
  obtain ⟨n_qoa_qd, h_qoa⟩ := pm_fr h_qoa
  obtain ⟨n_qoa_qd4, h_qoa⟩ := pm_fr h_qoa
  obtain ⟨n_qoa_qd3, h_qoa⟩ := pm_fr h_qoa
  obtain ⟨n_qoa_qd1, h_qoa⟩ := pm_fr h_qoa
  obtain ⟨n_qoa_qd2, h_qoa⟩ := pm_fr h_qoa
  obtain ⟨n_qoa_qs, h_qoa⟩ := pm_fr h_qoa
  obtain ⟨n_qoa_qf, h_qoa⟩ := pm_fr h_qoa
  obtain ⟨n_qoa_qi, h_qoa⟩ := pm_fr h_qoa
  obtain ⟨n_qoa_qr, h_qoa⟩ := pm_fr h_qoa
  obtain ⟨n_qoa_ql, h_qoa⟩ := pm_fr h_qoa
  obtain ⟨n_qoa_qp, h_qoa⟩ := pm_fr h_qoa
  obtain ⟨n_qoa_qpa, h_qoa⟩ := pm_fr h_qoa
  obtain ⟨n_qoa_qx, h_qoa⟩ := pm_fr h_qoa
  obtain ⟨n_qoa_qxa, h_qoa⟩ := pm_fr h_qoa
  obtain ⟨n_qoa_qt, h_qoa⟩ := pm_fr h_qoa
  obtain ⟨n_qoa_qta, h_qoa⟩ := pm_fr h_qoa
  rw [pm_co _ n_qoa_x.symm, pm_co _ n_qo_x.symm]
  refine pg_pv hG (fs' := [.ref qt, .ref qx, .ref qp, .null, .int 0, .int 0, .ref ql, .int 0, .ref qr, .int 0, .ref qi, .int 0, .ref qf, .int 0, .ref qs, .int 0, .ref qd, .ref qo, .null, .null]) rfl rfl hbb (Nat.le_of_ble_eq_true rfl) rfl rfl rfl ?_
  refine pg_nf (pc' := 152) (st' := []) (kc' := kc - 1 - 1 - 1 - 1 - 1 - 1 - 1 - 1 - 1 - 1 - 1 - 1 - 1 - 1 - 1 - 1 - 1 - 1) (ks' := ks - 2 - 64 - 2 - 64 - 2 - 64 - 10 - 6 - 8 - 256 - 258 - 12 - 610 - 2 - 16) rfl rfl rfl rfl ?_
  refine pgs hG rfl rfl ?_
  refine pg_new hG rfl rfl (by show 1 ≤ kc - 1 - 1 - 1 - 1 - 1 - 1 - 1 - 1 - 1 - 1 - 1 - 1 - 1 - 1 - 1 - 1 - 1 - 1; omega) (by show 4 ≤ ks - 2 - 64 - 2 - 64 - 2 - 64 - 10 - 6 - 8 - 256 - 258 - 12 - 610 - 2 - 16; omega) (fun qe h_qe b_qe => ?_)
  obtain ⟨n_qe_x, h_qe⟩ := pm_fr h_qe
  obtain ⟨n_qe_qo, h_qe⟩ := pm_fr h_qe
  obtain ⟨n_qe_qoa, h_qe⟩ := pm_fr h_qe
  obtain ⟨n_qe_qd, h_qe⟩ := pm_fr h_qe
  obtain ⟨n_qe_qd4, h_qe⟩ := pm_fr h_qe
  obtain ⟨n_qe_qd3, h_qe⟩ := pm_fr h_qe
  obtain ⟨n_qe_qd1, h_qe⟩ := pm_fr h_qe
  obtain ⟨n_qe_qd2, h_qe⟩ := pm_fr h_qe
  obtain ⟨n_qe_qs, h_qe⟩ := pm_fr h_qe
  obtain ⟨n_qe_qf, h_qe⟩ := pm_fr h_qe
  obtain ⟨n_qe_qi, h_qe⟩ := pm_fr h_qe
  obtain ⟨n_qe_qr, h_qe⟩ := pm_fr h_qe
  obtain ⟨n_qe_ql, h_qe⟩ := pm_fr h_qe
  obtain ⟨n_qe_qp, h_qe⟩ := pm_fr h_qe
  obtain ⟨n_qe_qpa, h_qe⟩ := pm_fr h_qe
  obtain ⟨n_qe_qx, h_qe⟩ := pm_fr h_qe
  obtain ⟨n_qe_qxa, h_qe⟩ := pm_fr h_qe
  obtain ⟨n_qe_qt, h_qe⟩ := pm_fr h_qe
  obtain ⟨n_qe_qta, h_qe⟩ := pm_fr h_qe
  refine pgc hG rfl rfl rfl ?_
  refine pg_cal hG 1 rfl rfl (Nat.le_of_ble_eq_true rfl) (by decide) (Nat.le_of_ble_eq_true rfl) ?_
  refine pm_rcv_of (As' := []) (pm_up_self _ _ _) (s_Pr_init base sa b_qe ?_)
  rw [pm_co _ n_qe_x.symm]
  refine pg_pv hG (fs' := [.ref qt, .ref qx, .ref qp, .null, .int 0, .int 0, .ref ql, .int 0, .ref qr, .int 0, .ref qi, .int 0, .ref qf, .int 0, .ref qs, .int 0, .ref qd, .ref qo, .ref qe, .null]) rfl rfl hbb (Nat.le_of_ble_eq_true rfl) rfl rfl rfl ?_
  refine pg_nf (pc' := 163) (st' := []) (kc' := kc - 1 - 1 - 1 - 1 - 1 - 1 - 1 - 1 - 1 - 1 - 1 - 1 - 1 - 1 - 1 - 1 - 1 - 1 - 1) (ks' := ks - 2 - 64 - 2 - 64 - 2 - 64 - 10 - 6 - 8 - 256 - 258 - 12 - 610 - 2 - 16 - 4) rfl rfl rfl rfl ?_
  refine pgs hG rfl rfl ?_
  refine pg_new hG rfl rfl (by show 1 ≤ kc - 1 - 1 - 1 - 1 - 1 - 1 - 1 - 1 - 1 - 1 - 1 - 1 - 1 - 1 - 1 - 1 - 1 - 1 - 1; omega) (by show 4 ≤ ks - 2 - 64 - 2 - 64 - 2 - 64 - 10 - 6 - 8 - 256 - 258 - 12 - 610 - 2 - 16 - 4; omega) (fun qh h_qh b_qh => ?_)
  obtain ⟨n_qh_x, h_qh⟩ := pm_fr h_qh
  obtain ⟨n_qh_qe, h_qh⟩ := pm_fr h_qh
  obtain ⟨n_qh_qo, h_qh⟩ := pm_fr h_qh
  obtain ⟨n_qh_qoa, h_qh⟩ := pm_fr h_qh
  obtain ⟨n_qh_qd, h_qh⟩ := pm_fr h_qh
  obtain ⟨n_qh_qd4, h_qh⟩ := pm_fr h_qh
  obtain ⟨n_qh_qd3, h_qh⟩ := pm_fr h_qh
  obtain ⟨n_qh_qd1, h_qh⟩ := pm_fr h_qh
  obtain ⟨n_qh_qd2, h_qh⟩ := pm_fr h_qh
  obtain ⟨n_qh_qs, h_qh⟩ := pm_fr h_qh
  obtain ⟨n_qh_qf, h_qh⟩ := pm_fr h_qh
  obtain ⟨n_qh_qi, h_qh⟩ := pm_fr h_qh
  obtain ⟨n_qh_qr, h_qh⟩ := pm_fr h_qh
  obtain ⟨n_qh_ql, h_qh⟩ := pm_fr h_qh
  obtain ⟨n_qh_qp, h_qh⟩ := pm_fr h_qh
  obtain ⟨n_qh_qpa, h_qh⟩ := pm_fr h_qh
  obtain ⟨n_qh_qx, h_qh⟩ := pm_fr h_qh
  obtain ⟨n_qh_qxa, h_qh⟩ := pm_fr h_qh
  obtain ⟨n_qh_qt, h_qh⟩ := pm_fr h_qh
  obtain ⟨n_qh_qta, h_qh⟩ := pm_fr h_qh
  refine pgc hG rfl rfl rfl ?_
  refine pg_cal hG 1 rfl rfl (Nat.le_of_ble_eq_true rfl) (by decide) (Nat.le_of_ble_eq_true rfl) ?_
  refine pm_rcv_of (As' := []) (pm_up_self _ _ _) (s_Pr_init base sa b_qh ?_)
  rw [pm_co _ n_qh_x.symm]
  refine pg_pv hG (fs' := [.ref qt, .ref qx, .ref qp, .null, .int 0, .int 0, .ref ql, .int 0, .ref qr, .int 0, .ref qi, .int 0, .ref qf, .int 0, .ref qs, .int 0, .ref qd, .ref qo, .ref qe, .ref qh]) rfl rfl hbb (Nat.le_of_ble_eq_true rfl) rfl rfl rfl ?_
  refine pg_nf (pc' := 174) (st' := []) (kc' := kc - 1 - 1 - 1 - 1 - 1 - 1 - 1 - 1 - 1 - 1 - 1 - 1 - 1 - 1 - 1 - 1 - 1 - 1 - 1 - 1) (ks' := ks - 2 - 64 - 2 - 64 - 2 - 64 - 10 - 6 - 8 - 256 - 258 - 12 - 610 - 2 - 16 - 4 - 4) rfl rfl rfl rfl ?_
  refine pg_rv hG rfl rfl ?_
  have r := k qt qta qx qxa qp qpa ql qr qi qf qs qd qd1 qd2 qd3 qd4 qo qoa qe qh ?_ ?_
  · have e1 : kc - 1 - 1 - 1 - 1 - 1 - 1 - 1 - 1 - 1 - 1 - 1 - 1 - 1 - 1 - 1 - 1 - 1 - 1 - 1 - 1 = kc - 20 := by omega
    have e2 : ks - 2 - 64 - 2 - 64 - 2 - 64 - 10 - 6 - 8 - 256 - 258 - 12 - 610 - 2 - 16 - 4 - 4 = ks - 1384 := by omega
    rw [← e1, ← e2] at r
    exact r
  · intro q hq
    simp only [List.mem_cons, List.not_mem_nil, or_false] at hq
    rcases hq with rfl | rfl | rfl | rfl | rfl | rfl | rfl | rfl | rfl | rfl | rfl | rfl | rfl | rfl | rfl | rfl | rfl | rfl | rfl | rfl
    · exact ⟨b_qt, h_qt⟩
    · exact ⟨b_qta, h_qta⟩
    · exact ⟨b_qx, h_qx⟩
    · exact ⟨b_qxa, h_qxa⟩
    · exact ⟨b_qp, h_qp⟩
    · exact ⟨b_qpa, h_qpa⟩
    · exact ⟨b_ql, h_ql⟩
    · exact ⟨b_qr, h_qr⟩
    · exact ⟨b_qi, h_qi⟩
    · exact ⟨b_qf, h_qf⟩
    · exact ⟨b_qs, h_qs⟩
    · exact ⟨b_qd, h_qd⟩
    · exact ⟨b_qd1, h_qd1⟩
    · exact ⟨b_qd2, h_qd2⟩
    · exact ⟨b_qd3, h_qd3⟩
    · exact ⟨b_qd4, h_qd4⟩
    · exact ⟨b_qo, h_qo⟩
    · exact ⟨b_qoa, h_qoa⟩
    · exact ⟨b_qe, h_qe⟩
    · exact ⟨b_qh, h_qh⟩
  · simp only [List.nodup_cons, List.mem_cons, List.not_mem_nil, or_false, not_or, not_false_eq_true, List.nodup_nil, and_true]
    exact ⟨⟨n_qt_x.symm, n_qta_x.symm, n_qx_x.symm, n_qxa_x.symm, n_qp_x.symm, n_qpa_x.symm, n_ql_x.symm, n_qr_x.symm, n_qi_x.symm, n_qf_x.symm, n_qs_x.symm, n_qd_x.symm, n_qd1_x.symm, n_qd2_x.symm, n_qd3_x.symm, n_qd4_x.symm, n_qo_x.symm, n_qoa_x.symm, n_qe_x.symm, n_qh_x.symm⟩, ⟨n_qta_qt.symm, n_qx_qt.symm, n_qxa_qt.symm, n_qp_qt.symm, n_qpa_qt.symm, n_ql_qt.symm, n_qr_qt.symm, n_qi_qt.symm, n_qf_qt.symm, n_qs_qt.symm, n_qd_qt.symm, n_qd1_qt.symm, n_qd2_qt.symm, n_qd3_qt.symm, n_qd4_qt.symm, n_qo_qt.symm, n_qoa_qt.symm, n_qe_qt.symm, n_qh_qt.symm⟩, ⟨n_qx_qta.symm, n_qxa_qta.symm, n_qp_qta.symm, n_qpa_qta.symm, n_ql_qta.symm, n_qr_qta.symm, n_qi_qta.symm, n_qf_qta.symm, n_qs_qta.symm, n_qd_qta.symm, n_qd1_qta.symm, n_qd2_qta.symm, n_qd3_qta.symm, n_qd4_qta.symm, n_qo_qta.symm, n_qoa_qta.symm, n_qe_qta.symm, n_qh_qta.symm⟩, ⟨n_qxa_qx.symm, n_qp_qx.symm, n_qpa_qx.symm, n_ql_qx.symm, n_qr_qx.symm, n_qi_qx.symm, n_qf_qx.symm, n_qs_qx.symm, n_qd_qx.symm, n_qd1_qx.symm, n_qd2_qx.symm, n_qd3_qx.symm, n_qd4_qx.symm, n_qo_qx.symm, n_qoa_qx.symm, n_qe_qx.symm, n_qh_qx.symm⟩, ⟨n_qp_qxa.symm, n_qpa_qxa.symm, n_ql_qxa.symm, n_qr_qxa.symm, n_qi_qxa.symm, n_qf_qxa.symm, n_qs_qxa.symm, n_qd_qxa.symm, n_qd1_qxa.symm, n_qd2_qxa.symm, n_qd3_qxa.symm, n_qd4_qxa.symm, n_qo_qxa.symm, n_qoa_qxa.symm, n_qe_qxa.symm, n_qh_qxa.symm⟩, ⟨n_qpa_qp.symm, n_ql_qp.symm, n_qr_qp.symm, n_qi_qp.symm, n_qf_qp.symm, n_qs_qp.symm, n_qd_qp.symm, n_qd1_qp.symm, n_qd2_qp.symm, n_qd3_qp.symm, n_qd4_qp.symm, n_qo_qp.symm, n_qoa_qp.symm, n_qe_qp.symm, n_qh_qp.symm⟩, ⟨n_ql_qpa.symm, n_qr_qpa.symm, n_qi_qpa.symm, n_qf_qpa.symm, n_qs_qpa.symm, n_qd_qpa.symm, n_qd1_qpa.symm, n_qd2_qpa.symm, n_qd3_qpa.symm, n_qd4_qpa.symm, n_qo_qpa.symm, n_qoa_qpa.symm, n_qe_qpa.symm, n_qh_qpa.symm⟩, ⟨n_qr_ql.symm, n_qi_ql.symm, n_qf_ql.symm, n_qs_ql.symm, n_qd_ql.symm, n_qd1_ql.symm, n_qd2_ql.symm, n_qd3_ql.symm, n_qd4_ql.symm, n_qo_ql.symm, n_qoa_ql.symm, n_qe_ql.symm, n_qh_ql.symm⟩, ⟨n_qi_qr.symm, n_qf_qr.symm, n_qs_qr.symm, n_qd_qr.symm, n_qd1_qr.symm, n_qd2_qr.symm, n_qd3_qr.symm, n_qd4_qr.symm, n_qo_qr.symm, n_qoa_qr.symm, n_qe_qr.symm, n_qh_qr.symm⟩, ⟨n_qf_qi.symm, n_qs_qi.symm, n_qd_qi.symm, n_qd1_qi.symm, n_qd2_qi.symm, n_qd3_qi.symm, n_qd4_qi.symm, n_qo_qi.symm, n_qoa_qi.symm, n_qe_qi.symm, n_qh_qi.symm⟩, ⟨n_qs_qf.symm, n_qd_qf.symm, n_qd1_qf.symm, n_qd2_qf.symm, n_qd3_qf.symm, n_qd4_qf.symm, n_qo_qf.symm, n_qoa_qf.symm, n_qe_qf.symm, n_qh_qf.symm⟩, ⟨n_qd_qs.symm, n_qd1_qs.symm, n_qd2_qs.symm, n_qd3_qs.symm, n_qd4_qs.symm, n_qo_qs.symm, n_qoa_qs.symm, n_qe_qs.symm, n_qh_qs.symm⟩, ⟨n_qd1_qd.symm, n_qd2_qd.symm, n_qd3_qd.symm, n_qd4_qd.symm, n_qo_qd.symm, n_qoa_qd.symm, n_qe_qd.symm, n_qh_qd.symm⟩, ⟨n_qd2_qd1.symm, n_qd3_qd1.symm, n_qd4_qd1.symm, n_qo_qd1.symm, n_qoa_qd1.symm, n_qe_qd1.symm, n_qh_qd1.symm⟩, ⟨n_qd3_qd2.symm, n_qd4_qd2.symm, n_qo_qd2.symm, n_qoa_qd2.symm, n_qe_qd2.symm, n_qh_qd2.symm⟩, ⟨n_qd4_qd3.symm, n_qo_qd3.symm, n_qoa_qd3.symm, n_qe_qd3.symm, n_qh_qd3.symm⟩, ⟨n_qo_qd4.symm, n_qoa_qd4.symm, n_qe_qd4.symm, n_qh_qd4.symm⟩, ⟨n_qoa_qo.symm, n_qe_qo.symm, n_qh_qo.symm⟩, ⟨n_qe_qoa.symm, n_qh_qoa.symm⟩, n_qh_qe.symm⟩
