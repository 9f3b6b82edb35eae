/-! Configuration: a router; both sides. -/
section Ca
variable {G H : Nat → Nat → Nat} {sa : Nat → Nat} {pg k0 m0 m kc ks x r p q f : Nat} {s0 s : cS} {t0 t : moS} {Q : cS → Nat → Nat → Prop}
theorem j_184 (hq : RQ G H sa x s0 t0) (hM : MV t0) (h222 : s0.P 222 x = some pg) (hr : r < cR t0) (h : J0 sa pg s0 k0 m0 t0 m s kc ks t) (hm : m + 4000 ≤ 131000) (k : ∀ t', M_sayRouter_b106 t (nI r) (nI (4 * r)) = some t' → ∀ s' kc' ks', J0 sa pg s0 k0 m0 t0 (m + 3412) s' kc' ks' t' → Q s' kc' ks') : C_Rf_writeRouter_b184 sa x (some (G 1 r)) 0 s kc ks Q := by
  have ox := hq.ox
  have hN := hM.n
  have h6 := hM.nR
  have h4 := hM.nIf hr
  obtain ⟨⟨k26, -⟩, -, ⟨-, -, i185, -⟩, -⟩ := hq.rt hr
  have e70 : t0.I 70 r = nI (cI t0 r) := (hM.r hr).2.2.2.2.2.2.2.2.2.1.n.1
  have o9 := okr k26 9
  have r184 := hq.ty.r k26 184 139 4
  have e4 : (4 : Int32) * nI r = nI (4 * r) := by rw [show (4 : Int32) = nI 4 from rfl, pk_mul]
  unfold C_Rf_writeRouter_b184
  intro P hP
  have loop : ∀ d j (s : cS) (kc ks : Nat) (t : moS), j + d = cI t0 r → J0 sa pg s0 k0 m0 t0 (m + 815 * j) s kc ks t → (∀ t', M_sayRouter_b106 t (nI r) (nI (4 * r + j)) = some t' → ∀ s' kc' ks', J0 sa pg s0 k0 m0 t0 (m + 3412) s' kc' ks' t' → Q s' kc' ks') → P (nI j) s kc ks := by
    intro d
    induction d with
    | zero =>
      intro j s kc ks t hj h k
      apply hP
      unfold C_Rf_writeRouter_s184
      refine ⟨_, rfl, h.gI o9 (by decide) ?_⟩
      rw [show s0.I (20 * 9 + 5) (G 1 r) = nI (cI t0 r) from i185.trans e70]
      refine ifF (nI_nlt (by omega) (by omega)) ?_
      have e2 : (2 : Int32) * nI r = nI (2 * r) := by rw [show (2 : Int32) = nI 2 from rfl, pk_mul]
      refine ⟨h.gO ox (by decide), j_share (i := 0) hq hM h222 hr (by decide) h (by omega) fun t1 e1 s1 c1 d1 h1 => ?_⟩
      refine ⟨h1.gO ox (by decide), j_share (i := 1) hq hM h222 hr (by decide) h1 (by omega) fun t2 e2' s2 c2 d2 h2 => ?_⟩
      refine k t2 ?_ s2 c2 d2 (h2.wk (by omega))
      unfold M_sayRouter_b106
      refine lp_x ?_
      show M_sayRouter_s106 t (nI r) (nI (4 * r + j)) = _
      unfold M_sayRouter_s106
      rw [h.rI hN 70 6 (by omega), Option.bind_some, e70, e4, nI_add, if_neg (nI_nlt (by omega) (by omega)), e2, nI_1, show nI (2 * r) = nI (2 * r + 0) from rfl, e1, Option.bind_some, e2', Option.bind_some]
    | succ d ih =>
      intro j s kc ks t hj h k
      have hj' : j < cI t0 r := by omega
      obtain ⟨⟨-, q184, -⟩, -⟩ := hq.po hr hj'
      apply hP
      unfold C_Rf_writeRouter_s184
      refine ⟨_, rfl, h.gI o9 (by decide) ?_⟩
      rw [show s0.I (20 * 9 + 5) (G 1 r) = nI (cI t0 r) from i185.trans e70]
      refine ifT (nI_lt (by omega) (by omega)) (h.gP o9 (by decide) ⟨_, r184.1, h.rQ r184.2 (by decide) (by decide) (by omega) (by decide) ?_⟩)
      rw [q184]
      refine ⟨h.gO ox (by decide), j_extras hq hM h222 hr hj' rfl h (by omega) fun t1 e1 s1 c1 d1 h1 => ?_⟩
      rw [nI_1]
      refine ih (j + 1) s1 c1 d1 t1 (by omega) (h1.wk (by omega)) fun t2 e2 => k t2 (Eq.trans ?_ e2)
      unfold M_sayRouter_b106
      refine lp_l (f := fun x : Int32 × moS => M_sayRouter_s106 x.2 (nI r) x.1) (x := (nI (4 * r + j), t)) (y := (nI (4 * r + (j + 1)), t1)) ?_
      show M_sayRouter_s106 t (nI r) (nI (4 * r + j)) = _
      unfold M_sayRouter_s106
      rw [h.rI hN 70 6 (by omega), Option.bind_some, e70, e4, nI_add, if_pos (nI_lt (by omega) (by omega)), e1, Option.bind_some, nI_1]
      rfl
  exact loop (cI t0 r) 0 s kc ks t (by omega) h k
theorem j_97 (hq : RQ G H sa x s0 t0) (hM : MV t0) (h222 : s0.P 222 x = some pg) (hr : r < cR t0) (h : J0 sa pg s0 k0 m0 t0 m s kc ks t) (hm : m + 19400 ≤ 131000) (k : ∀ t', M_sayRouter_b62 t (nI r) (nI (4 * r)) = some t' → ∀ s' kc' ks', J0 sa pg s0 k0 m0 t0 (m + 18332) s' kc' ks' t' → Q s' kc' ks') : C_Rf_writeRouter_b97 sa x (some (G 1 r)) 0 s kc ks Q := by
  have ox := hq.ox
  have hN := hM.n
  have h6 := hM.nR
  have h4 := hM.nIf hr
  obtain ⟨⟨k26, -⟩, -, ⟨-, -, i185, -⟩, -⟩ := hq.rt hr
  obtain ⟨-, -, -, -, -, ⟨⟨i190, i192⟩, -⟩, -⟩ := hq.2.2.2.2.2.1 r hr
  have e70 : t0.I 70 r = nI (cI t0 r) := (hM.r hr).2.2.2.2.2.2.2.2.2.1.n.1
  have o9 := okr k26 9
  have r184 := hq.ty.r k26 184 139 4
  have r189 := hq.ty.r k26 189 140 8
  have r191 := hq.ty.r k26 191 141 8
  have e4 : (4 : Int32) * nI r = nI (4 * r) := by rw [show (4 : Int32) = nI 4 from rfl, pk_mul]
  unfold C_Rf_writeRouter_b97
  intro P hP
  have loop : ∀ d j (s : cS) (kc ks : Nat) (t : moS), j + d = cI t0 r → J0 sa pg s0 k0 m0 t0 (m + 808 * j) s kc ks t → (∀ t', M_sayRouter_b62 t (nI r) (nI (4 * r + j)) = some t' → ∀ s' kc' ks', J0 sa pg s0 k0 m0 t0 (m + 18332) s' kc' ks' t' → Q s' kc' ks') → P (nI j) s kc ks := by
    intro d
    induction d with
    | zero =>
      intro j s kc ks t hj h k
      apply hP
      unfold C_Rf_writeRouter_s97
      refine ⟨_, rfl, h.gI o9 (by decide) ?_⟩
      rw [show s0.I (20 * 9 + 5) (G 1 r) = nI (cI t0 r) from i185.trans e70]
      refine ifF (nI_nlt (by omega) (by omega)) ?_
      refine ⟨h.gO ox (by decide), j_stat hq hM h222 hr h (by omega) fun t1 e1 s1 c1 d1 h1 => ?_⟩
      refine ⟨h1.gO ox (by decide), j_filt (w := 0) hq hM h222 hr (by decide) h1 (by omega) fun t2 e2 s2 c2 d2 h2 => ?_⟩
      refine ⟨h2.gO ox (by decide), j_filt (w := 1) hq hM h222 hr (by decide) h2 (by omega) fun t3 e3 s3 c3 d3 h3 => ?_⟩
      have e64 : (64 : Int32) * nI r = nI (64 * r) := by rw [show (64 : Int32) = nI 64 from rfl, pk_mul]
      have eF : M_sayFilters t1 (nI r) = some t3 := by
        unfold M_sayFilters
        rw [e64]
        refine Eq.trans e2 (Eq.trans e3 ?_)
        unfold M_sayFilters_b5
        refine lp_x ?_
        show M_sayFilters_s5 t3 (nI r) (nI (64 * r + 32 * 1 + 32)) = _
        unfold M_sayFilters_s5
        rw [e64, show (64 : Int32) = nI 64 from rfl, nI_add, if_neg (nI_nlt (by omega) (by omega))]
      refine h3.gP o9 (by decide) (h3.gI o9 (by decide) ?_)
      rw [show s0.P (20 * 9 + 9) (G 1 r) = some (H 189 (G 1 r)) from r189.1, show s0.I (20 * 9 + 10) (G 1 r) = t0.I 59 r from i190]
      refine ⟨h3.gO ox (by decide), j_dist hq hM h222 hr h3 (by omega) fun t4 e4' s4 c4 d4 h4' => ?_⟩
      refine h4'.gP o9 (by decide) (h4'.gI o9 (by decide) ?_)
      rw [show s0.P (20 * 9 + 11) (G 1 r) = some (H 191 (G 1 r)) from r191.1, show s0.I (20 * 9 + 12) (G 1 r) = t0.I 63 r from i192]
      refine ⟨h4'.gO ox (by decide), j_off hq hM h222 hr h4' (by omega) fun t5 e5 s5 c5 d5 h5 => ?_⟩
      have e8 : (8 : Int32) * nI r = nI (8 * r) := by rw [show (8 : Int32) = nI 8 from rfl, pk_mul]
      have eL : M_sayLists t3 (nI r) = some t5 := by
        unfold M_sayLists
        rw [e8]
        exact Eq.trans e4' e5
      refine j_184 hq hM h222 hr h5 (by omega) fun t6 e6 s6 c6 d6 h6' => k t6 ?_ s6 c6 d6 (h6'.wk (by omega))
      refine Eq.trans ?_ e6
      unfold M_sayRouter_b62
      refine lp_x ?_
      show M_sayRouter_s62 t (nI r) (nI (4 * r + j)) = _
      unfold M_sayRouter_s62
      rw [h.rI hN 70 6 (by omega), Option.bind_some, e70, e4, nI_add, if_neg (nI_nlt (by omega) (by omega)), e1, Option.bind_some, eF, Option.bind_some, eL, Option.bind_some]
    | succ d ih =>
      intro j s kc ks t hj h k
      have hj' : j < cI t0 r := by omega
      obtain ⟨⟨-, q184, -⟩, -⟩ := hq.po hr hj'
      apply hP
      unfold C_Rf_writeRouter_s97
      refine ⟨_, rfl, h.gI o9 (by decide) ?_⟩
      rw [show s0.I (20 * 9 + 5) (G 1 r) = nI (cI t0 r) from i185.trans e70]
      refine ifT (nI_lt (by omega) (by omega)) (h.gP o9 (by decide) ⟨_, r184.1, h.rQ r184.2 (by decide) (by decide) (by omega) (by decide) ?_⟩)
      rw [q184]
      refine ⟨h.gO ox (by decide), j_joins hq hM h222 hr hj' rfl h (by omega) fun t1 e1 s1 c1 d1 h1 => ?_⟩
      refine h1.gP o9 (by decide) ⟨_, r184.1, h1.rQ r184.2 (by decide) (by decide) (by omega) (by decide) ?_⟩
      rw [q184]
      refine ⟨h1.gO ox (by decide), j_keys hq hM h222 hr hj' rfl h1 (by omega) fun t2 e2 s2 c2 d2 h2 => ?_⟩
      rw [nI_1]
      refine ih (j + 1) s2 c2 d2 t2 (by omega) (h2.wk (by omega)) fun t3 e3 => k t3 (Eq.trans ?_ e3)
      unfold M_sayRouter_b62
      refine lp_l (f := fun x : Int32 × moS => M_sayRouter_s62 x.2 (nI r) x.1) (x := (nI (4 * r + j), t)) (y := (nI (4 * r + (j + 1)), t2)) ?_
      show M_sayRouter_s62 t (nI r) (nI (4 * r + j)) = _
      unfold M_sayRouter_s62
      rw [h.rI hN 70 6 (by omega), Option.bind_some, e70, e4, nI_add, if_pos (nI_lt (by omega) (by omega)), e1.trans e2, Option.bind_some, nI_1]
      rfl
  exact loop (cI t0 r) 0 s kc ks t (by omega) h k
theorem j_router (hq : RQ G H sa x s0 t0) (hM : MV t0) (h222 : s0.P 222 x = some pg) (hr : r < cR t0) (h : J0 sa pg s0 k0 m0 t0 m s kc ks t) (hm : m + 19600 ≤ 131000) (k : ∀ t', M_sayRouter t (nI r) = some t' → ∀ s' kc' ks', J0 sa pg s0 k0 m0 t0 (m + 18417) s' kc' ks' t' → Q s' kc' ks') : C_Rf_writeRouter sa x (some (G 1 r)) s kc ks Q := by
  have ox := hq.ox
  have ht := hq.tk
  have hN := hM.n
  have h6 := hM.nR
  obtain ⟨⟨k26, -⟩, ⟨nm, p181, tx, nn⟩, -, ⟨w0, w1, w2⟩, -⟩ := hq.rt hr
  have o9 := okr k26 9
  have r195 := hq.ty.r k26 195 123 3
  have e4 : (4 : Int32) * nI r = nI (4 * r) := by rw [show (4 : Int32) = nI 4 from rfl, pk_mul]
  unfold M_sayRouter M_begin at k
  unfold C_Rf_writeRouter
  refine h.page ox h222 ⟨_, rfl, j0_c 4 1882976218 (by decide +kernel) (by decide) h ht (by omega) fun s1 c1 d1 t1 e1 h1 => ?_⟩
  rw [e1, Option.bind_some, h1.rJ hN 38 6 (by omega), Option.bind_some] at k
  refine h1.page ox h222 ⟨_, rfl, h1.gP o9 (by decide) ⟨_, rfl, ?_⟩⟩
  refine j1_n (p := H 181 (G 1 r)) p181 tx nn h1 (by omega) fun s2 c2 d2 t2 e2 h2 => ?_
  rw [e2, Option.bind_some, Option.bind_some] at k
  refine h2.page ox h222 ⟨_, rfl, j1_e h2 (by omega) fun s3 c3 d3 t3 e3 h3 => ?_⟩
  rw [e3, Option.bind_some] at k
  refine h3.page ox h222 ⟨_, rfl, j0_c 38 2071880739 (by decide +kernel) (by decide) h3 ht (by omega) fun s4 c4 d4 t4 e4' h4 => ?_⟩
  rw [e4', Option.bind_some, h4.rJ hN 38 6 (by omega), Option.bind_some] at k
  refine h4.page ox h222 (h4.gP o9 (by decide) ⟨_, rfl, ?_⟩)
  refine j1_n (p := H 181 (G 1 r)) p181 tx nn h4 (by omega) fun s5 c5 d5 t5 e5 h5 => ?_
  rw [e5, Option.bind_some, Option.bind_some, h5.rI hN 40 6 (by omega), Option.bind_some] at k
  refine h5.page ox h222 (h5.gP o9 (by decide) ⟨_, r195.1, h5.rE (i := 0) r195.2 (by decide) (by decide) (by decide) (by decide) ⟨_, rfl, ?_⟩⟩)
  rw [w0]
  refine j1_u _ h5 ht (by omega) fun s6 c6 d6 t6 e6 h6' => ?_
  rw [e6, Option.bind_some, h6'.rI hN 41 6 (by omega), Option.bind_some] at k
  refine h6'.page ox h222 (h6'.gP o9 (by decide) ⟨_, r195.1, h6'.rE (i := 1) r195.2 (by decide) (by decide) (by decide) (by decide) ⟨_, rfl, ?_⟩⟩)
  rw [w1]
  refine j1_u _ h6' ht (by omega) fun s7 c7 d7 t7 e7 h7 => ?_
  rw [e7, Option.bind_some, h7.rI hN 42 6 (by omega), Option.bind_some] at k
  refine h7.page ox h222 (h7.gP o9 (by decide) ⟨_, r195.1, h7.rE (i := 2) r195.2 (by decide) (by decide) (by decide) (by decide) ⟨_, rfl, ?_⟩⟩)
  rw [w2]
  refine j1_u _ h7 ht (by omega) fun s8 c8 d8 t8 e8 h8 => ?_
  rw [e8, Option.bind_some] at k
  refine h8.page ox h222 ⟨_, rfl, j1_e h8 (by omega) fun s9 c9 d9 t9 e9 h9 => ?_⟩
  rw [e9, Option.bind_some, e4] at k
  exact j_97 hq hM h222 hr h9 (by omega) fun t' w s' kc' ks' hh => k t' w s' kc' ks' (hh.wk (by omega))
end Ca
