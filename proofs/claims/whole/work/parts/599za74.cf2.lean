/-! Configuration: lists, both sides. -/
section C2
variable {G H : Nat → Nat → Nat} {sa : Nat → Nat} {pg k0 m0 m kc ks x : Nat} {s0 s : cS} {t0 t : moS} {Q : cS → Nat → Nat → Prop} {P2 : Int32 → cS → Nat → Nat → Prop}
theorem j_ls145 (hq : RQ G H sa x s0 t0) (hM : MV t0) (h222 : s0.P 222 x = some pg) {i j : Nat} (h : J1 sa pg s0 k0 m0 t0 (m) s kc ks t) (hm : m + 40 ≤ 131000) (k : ∀ t', M_sayListEntry_b121 t = some t' → ∀ s' kc' ks', J0 sa pg s0 k0 m0 t0 (m + 1) s' kc' ks' t' → P2 (nI j + 1) s' kc' ks') : C_Rf_writeList_b145 sa x (some (G 3 i)) (nI j) s kc ks Q P2 := by
  have ox := hq.ox
  have ht := hq.tk
  have hN := hM.n
  unfold M_sayListEntry_b121 at k
  unfold C_Rf_writeList_b145
  refine h.page ox h222 ⟨_, rfl, j1_e h (by omega) fun s1 c1 d1 t1 e1 h1 => ?_⟩
  rw [e1, Option.bind_some] at k
  exact k _ rfl _ _ _ h1
theorem j_ls112 (hq : RQ G H sa x s0 t0) (hM : MV t0) (h222 : s0.P 222 x = some pg) {i j : Nat} (hi : i < cS' t0) (hj : j < (t0.I 29 i).toNatClampNeg) (h : J1 sa pg s0 k0 m0 t0 (m) s kc ks t) (hm : m + 80 ≤ 131000) (k : ∀ t', M_sayListEntry_b94 t (nI (16 * i + j)) = some t' → ∀ s' kc' ks', J0 sa pg s0 k0 m0 t0 (m + 25) s' kc' ks' t' → P2 (nI j + 1) s' kc' ks') : C_Rf_writeList_b112 sa x (some (G 3 i)) (nI j) s kc ks Q P2 := by
  have ox := hq.ox
  have ht := hq.tk
  have hN := hM.n
  have h8 : cS' t0 ≤ 8 := hM.1.2.2.2.2.2.2.1.n.2.2
  obtain ⟨⟨k20, -⟩, -, i125, rp⟩ := hq.2.2.2.2.1 i hi
  have r16 := (hM.2.2.1 i hi).1.n
  obtain ⟨pp, pq, pk, pf, e122, e123, e124⟩ := rp j hj
  have o6 := okr k20 6
  have r121 := hq.ty.r k20 121 138 16
  have r122 := hq.ty.r k20 122 102 16
  have r123 := hq.ty.r k20 123 105 16
  have r124 := hq.ty.r k20 124 106 16
  have hj16 : j < 16 := Nat.lt_of_lt_of_le hj r16.2.2
  unfold M_sayListEntry_b94 at k
  unfold C_Rf_writeList_b112
  refine ⟨_, rfl, h.gP o6 (by decide) ⟨_, r124.1, h.rE r124.2 (by decide) (by decide) hj16 (by decide) ?_⟩⟩
  rw [e124]
  rw [h.rI hN 36 128 (by omega), Option.bind_some] at k
  by_cases c : t0.I 36 (16 * i + j) = -1
  · rw [if_pos c] at k
    exact ifT c (j_ls145 hq hM h222 h (by omega) fun t' w s' kc' ks' hh => k t' w s' kc' ks' (hh.wk (by omega)))
  · rw [if_neg c] at k
    refine ifF c ?_
    refine h.page ox h222 ⟨_, rfl, j1_c 27 485 (by decide +kernel) (by decide) h ht (by omega) fun s1 c1 d1 t1 e1 h1 => ?_⟩
    rw [e1, Option.bind_some] at k
    refine h1.page ox h222 (h1.gP o6 (by decide) ⟨_, r124.1, h1.rE r124.2 (by decide) (by decide) hj16 (by decide) ⟨_, rfl, ?_⟩⟩)
    rw [e124]
    rw [h1.rI hN 36 128 (by omega), Option.bind_some] at k
    refine j1_u (t0.I 36 (16 * i + j)) h1 ht (by omega) fun s2 c2 d2 t2 e2 h2 => ?_
    rw [e2, Option.bind_some] at k
    exact j_ls145 hq hM h222 h2 (by omega) fun t' w s' kc' ks' hh => k t' w s' kc' ks' (hh.wk (by omega))
theorem j_ls53 (hq : RQ G H sa x s0 t0) (hM : MV t0) (h222 : s0.P 222 x = some pg) {i j : Nat} (hi : i < cS' t0) (hj : j < (t0.I 29 i).toNatClampNeg) (u : Nat) (cd : Int64) (hc : u < 48 ∧ u ≠ 39 ∧ u ≠ 42 ∧ cdL (cT u) = cd) (hu : u ≠ 3) (h : J1 sa pg s0 k0 m0 t0 (m) s kc ks t) (hm : m + 200 ≤ 131000) (k : ∀ t', M_sayListEntry_b36 t (nI (16 * i + j)) cd = some t' → ∀ s' kc' ks', J0 sa pg s0 k0 m0 t0 (m + 117) s' kc' ks' t' → P2 (nI j + 1) s' kc' ks') : C_Rf_writeList_b53 sa x (some (G 3 i)) (nI j) (some pg) (some (sa u)) s kc ks Q P2 := by
  have ox := hq.ox
  have ht := hq.tk
  have hN := hM.n
  have h8 : cS' t0 ≤ 8 := hM.1.2.2.2.2.2.2.1.n.2.2
  obtain ⟨⟨k20, -⟩, -, i125, rp⟩ := hq.2.2.2.2.1 i hi
  have r16 := (hM.2.2.1 i hi).1.n
  obtain ⟨pp, pq, pk, pf, e122, e123, e124⟩ := rp j hj
  have o6 := okr k20 6
  have r121 := hq.ty.r k20 121 138 16
  have r122 := hq.ty.r k20 122 102 16
  have r123 := hq.ty.r k20 123 105 16
  have r124 := hq.ty.r k20 124 106 16
  have hj16 : j < 16 := Nat.lt_of_lt_of_le hj r16.2.2
  unfold M_sayListEntry_b36 at k
  unfold C_Rf_writeList_b53
  refine ⟨_, rfl, j1_c u cd hc hu h ht (by omega) fun s1 c1 d1 t1 e1 h1 => ?_⟩
  rw [e1, Option.bind_some] at k
  refine h1.page ox h222 ⟨_, rfl, j1_h h1 ht (by omega) fun s2 c2 d2 h2 => ?_⟩
  refine h2.page ox h222 ⟨_, rfl, h2.gP o6 (by decide) ⟨_, r121.1, h2.rQ r121.2 (by decide) (by decide) hj16 (by decide) ⟨_, rfl, ?_⟩⟩⟩
  rw [h2.rI hN 31 128 (by omega), Option.bind_some, h2.rJ hN 32 128 (by omega), Option.bind_some, h2.rJ hN 33 128 (by omega), Option.bind_some, h2.rI hN 34 128 (by omega), Option.bind_some] at k
  refine jh_p (p := pp) pq (okr pk 5) pf h2 ht (by omega) fun s3 c3 d3 t3 e3 h3 => ?_
  rw [e3, Option.bind_some] at k
  refine h3.gP o6 (by decide) ⟨_, r123.1, h3.rE r123.2 (by decide) (by decide) hj16 (by decide) ?_⟩
  rw [e123]
  rw [h3.rI hN 35 128 (by omega), Option.bind_some] at k
  by_cases c : t0.I 35 (16 * i + j) = -1
  · rw [if_pos c] at k
    exact ifT c (j_ls112 hq hM h222 hi hj h3 (by omega) fun t' w s' kc' ks' hh => k t' w s' kc' ks' (hh.wk (by omega)))
  · rw [if_neg c] at k
    refine ifF c ?_
    refine h3.page ox h222 ⟨_, rfl, j1_c 26 285 (by decide +kernel) (by decide) h3 ht (by omega) fun s4 c4 d4 t4 e4 h4 => ?_⟩
    rw [e4, Option.bind_some] at k
    refine h4.page ox h222 (h4.gP o6 (by decide) ⟨_, r123.1, h4.rE r123.2 (by decide) (by decide) hj16 (by decide) ⟨_, rfl, ?_⟩⟩)
    rw [e123]
    rw [h4.rI hN 35 128 (by omega), Option.bind_some] at k
    refine j1_u (t0.I 35 (16 * i + j)) h4 ht (by omega) fun s5 c5 d5 t5 e5 h5 => ?_
    rw [e5, Option.bind_some] at k
    exact j_ls112 hq hM h222 hi hj h5 (by omega) fun t' w s' kc' ks' hh => k t' w s' kc' ks' (hh.wk (by omega))
theorem j_list (hq : RQ G H sa x s0 t0) (hM : MV t0) (h222 : s0.P 222 x = some pg) {i : Nat} (hi : i < cS' t0) (h : J0 sa pg s0 k0 m0 t0 (m) s kc ks t) (hm : m + 3200 ≤ 131000) (k : ∀ t', M_config_b46 t (nI i) (nI (16 * i)) = some (.inl (nI (i + 1), t')) → ∀ s' kc' ks', J0 sa pg s0 k0 m0 t0 (m + 2272) s' kc' ks' t' → Q s' kc' ks') : C_Rf_writeList sa x (some (G 3 i)) s kc ks Q := by
  have ox := hq.ox
  have ht := hq.tk
  have hN := hM.n
  have h8 : cS' t0 ≤ 8 := hM.1.2.2.2.2.2.2.1.n.2.2
  obtain ⟨⟨k20, -⟩, ⟨nm, p120, tx, nn⟩, i125, rp⟩ := hq.2.2.2.2.1 i hi
  have r16 := (hM.2.2.1 i hi).1.n
  have bt := (hM.2.2.1 i hi).2.2
  have o6 := okr k20 6
  have r122 := hq.ty.r k20 122 102 16
  have e29 : t0.I 29 i = nI (t0.I 29 i).toNatClampNeg := r16.1
  generalize hn : (t0.I 29 i).toNatClampNeg = n at *
  have e16 : (16 : Int32) * nI i = nI (16 * i) := by rw [show (16 : Int32) = nI 16 from rfl, pk_mul]
  unfold C_Rf_writeList C_Rf_writeList_b2
  intro P hP
  have loop : ∀ d j (s : cS) (kc ks : Nat) (t : moS), j + d = n → J0 sa pg s0 k0 m0 t0 (m + 142 * j) s kc ks t → (∀ t', M_config_b46 t (nI i) (nI (16 * i + j)) = some (.inl (nI (i + 1), t')) → ∀ s' kc' ks', J0 sa pg s0 k0 m0 t0 (m + 2272) s' kc' ks' t' → Q s' kc' ks') → P (nI j) s kc ks := by
    intro d
    induction d with
    | zero =>
      intro j s kc ks t hj h k
      apply hP
      unfold C_Rf_writeList_s2
      refine ⟨_, rfl, h.gI o6 (by decide) ?_⟩
      rw [show s0.I (20 * 6 + 5) (G 3 i) = nI n from i125]
      refine ifF (nI_nlt (by omega) (by omega)) (k t ?_ s kc ks (h.wk (by omega)))
      unfold M_config_b46
      refine lp_x ?_
      show M_config_s46 t (nI i) (nI (16 * i + j)) = _
      unfold M_config_s46
      rw [h.rI hN 29 8 (by omega), Option.bind_some, e29, e16, nI_add, if_neg (nI_nlt (by omega) (by omega)), nI_1]
    | succ d ih =>
      intro j s kc ks t hj h k
      have hj' : j < n := by omega
      obtain ⟨pp, pq, pk, pf, e122, e123, e124⟩ := rp j hj'
      apply hP
      unfold C_Rf_writeList_s2
      refine ⟨_, rfl, h.gI o6 (by decide) ?_⟩
      rw [show s0.I (20 * 6 + 5) (G 3 i) = nI n from i125]
      refine ifT (nI_lt (by omega) (by omega)) ?_
      have kE : ∀ t', M_sayListEntry t (nI i) (nI (16 * i + j)) = some t' → ∀ s' kc' ks', J0 sa pg s0 k0 m0 t0 (m + 142 * j + 142) s' kc' ks' t' → P (nI j + 1) s' kc' ks' := fun t' e s' kc' ks' h' => by
        rw [nI_1]
        refine ih (j + 1) s' kc' ks' t' (by omega) (h'.wk (by omega)) fun t2 e2 => k t2 (Eq.trans ?_ e2)
        unfold M_config_b46
        refine lp_l (f := fun x : Int32 × moS => M_config_s46 x.2 (nI i) x.1) (x := (nI (16 * i + j), t)) (y := (nI (16 * i + (j + 1)), t')) ?_
        show M_config_s46 t (nI i) (nI (16 * i + j)) = _
        unfold M_config_s46
        rw [h.rI hN 29 8 (by omega), Option.bind_some, e29, e16, nI_add, if_pos (nI_lt (by omega) (by omega)), e, nI_1]
        rfl
      unfold M_sayListEntry at kE
      refine h.page ox h222 ⟨_, rfl, j0_c 25 783180 (by decide +kernel) (by decide) h ht (by omega) fun s1 c1 d1 t1 e1 h1 => ?_⟩
      rw [e1, Option.bind_some, h1.rJ hN 28 8 (by omega), Option.bind_some] at kE
      refine h1.page ox h222 (h1.gP o6 (by decide) ⟨_, rfl, ?_⟩)
      refine j1_n (p := H 120 (G 3 i)) p120 tx nn h1 (by omega) fun s2 c2 d2 t2 e2 h2 => ?_
      rw [e2, Option.bind_some, h2.rI hN 30 128 (by omega), Option.bind_some] at kE
      refine h2.page ox h222 (h2.gP o6 (by decide) ⟨_, r122.1, h2.rE r122.2 (by decide) (by decide) (by omega) (by decide) ?_⟩)
      rw [e122]
      by_cases c : t0.I 30 (16 * i + j) = 0
      · rw [if_pos c] at kE
        exact ifT c (j_ls53 hq hM h222 hi (by rw [hn]; exact hj') 24 264585 (by decide +kernel) (by decide) h2 (by omega) fun t' w s' kc' ks' hh => kE t' w s' kc' ks' (hh.wk (by omega)))
      · rw [if_neg c] at kE
        exact ifF c (j_ls53 hq hM h222 hi (by rw [hn]; exact hj') 23 1652373180 (by decide +kernel) (by decide) h2 (by omega) fun t' w s' kc' ks' hh => kE t' w s' kc' ks' (hh.wk (by omega)))
  exact loop n 0 s kc ks t (by omega) h k
end C2
