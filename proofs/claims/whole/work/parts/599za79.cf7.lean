/-! Configuration: policies; both sides. -/
section C7
variable {G H : Nat → Nat → Nat} {sa : Nat → Nat} {pg k0 m0 m kc ks x r p q f : Nat} {s0 s : cS} {t0 t : moS} {Q : cS → Nat → Nat → Prop} {P3 : Int32 → cS → Nat → Nat → Prop} {p1 p2 p3 : Option Nat} {p4 : Int32}
theorem j_dist_t (hq : RQ G H sa x s0 t0) (hM : MV t0) (h222 : s0.P 222 x = some pg) (hr : r < cR t0) {j w ls : Nat} (hj : j < 8) {o : Option Nat} {cd : Int64} (kw : s0.K w = (100, 4)) (w2 : s0.E w 2 = t0.I 62 (8 * r + j)) (w3 : s0.E w 3 = 0) (els : t0.I 62 (8 * r + j) = nI ls) (hls : ls < cS' t0) (hw : ∀ Q' : cS → Nat → Nat → Prop, (∀ s' kc' ks' t', M_word t cd = some t' → J1 sa pg s0 k0 m0 t0 (m + 13) s' kc' ks' t' → Q' s' kc' ks') → okO s 0 pg ∧ C_By_word sa pg o s kc ks Q') (hm : m + 100 ≤ 131000) (k : ∀ t', M_sayLists_b78 t (nI r) (nI (8 * r + j)) cd = some (.inl (nI (8 * r + j) + 1, t')) → ∀ s' kc' ks', J0 sa pg s0 k0 m0 t0 (m + 27) s' kc' ks' t' → P3 (nI j + 1) s' kc' ks') : C_Rf_writePolicies_b79 sa x p1 p2 p3 p4 (nI j) (some w) (some pg) o s kc ks Q P3 := by
  have ox := hq.ox
  have ht := hq.tk
  have hN := hM.n
  have h6 := hM.nR
  have h8 : cS' t0 ≤ 8 := hM.1.2.2.2.2.2.2.1.n.2.2
  obtain ⟨⟨k20, q230⟩, ⟨nm3, p120, tx3, nn3⟩, -⟩ := hq.2.2.2.2.1 ls hls
  have r230 := hq.ty.r hq.1.1 230 132 8
  have fin : ∀ {m : Nat} {s : cS} {kc ks : Nat} {t : moS}, J1 sa pg s0 k0 m0 t0 m s kc ks t → m + 20 ≤ 131000 → (∀ t', Option.bind (M_say t 10) (fun s5 => some (Sum.inl (nI (8 * r + j) + 1, s5))) = some (Sum.inl (nI (8 * r + j) + 1, t') : (Int32 × moS) ⊕ moS) → ∀ s' kc' ks', J0 sa pg s0 k0 m0 t0 (m + 1) s' kc' ks' t' → P3 (nI j + 1) s' kc' ks') → C_Rf_writePolicies_b119 sa x p1 p2 p3 p4 (nI j) s kc ks Q P3 := by
    intro m s kc ks t h hm k
    unfold C_Rf_writePolicies_b119
    refine h.page ox h222 ⟨_, rfl, j1_e h (by omega) fun s1 c1 d1 t1 e1 h1 => ?_⟩
    rw [e1, Option.bind_some] at k
    exact k _ rfl _ _ _ h1
  unfold M_sayLists_b78 at k
  unfold C_Rf_writePolicies_b79
  refine ⟨_, rfl, hw _ fun s1 c1 d1 t1 e1 h1 => ?_⟩
  rw [e1, Option.bind_some, h1.rI hN 62 48 (by omega), Option.bind_some, els, h1.rJ hN 28 8 (by omega), Option.bind_some] at k
  refine h1.page ox h222 (h1.gP ox (by decide) ⟨_, rfl, h1.rE (i := 2) kw (by decide) (by decide) (by decide) (by decide) ⟨_, r230.1, ?_⟩⟩)
  rw [w2, els]
  refine h1.rQ r230.2 (by decide) (by decide) (by omega) (by decide) ⟨_, q230, h1.gP (okr k20 6) (by decide) ⟨_, rfl, ?_⟩⟩
  refine j1_n (p := H 120 (G 3 ls)) p120 tx3 nn3 h1 (by omega) fun s2 c2 d2 t2 e2 h2 => ?_
  rw [e2, Option.bind_some] at k
  refine h2.rE (i := 3) kw (by decide) (by decide) (by decide) (by decide) ?_
  rw [w3]
  exact ifF (by decide) (fin h2 (by omega) fun t' w s' kc' ks' hh => k t' w s' kc' ks' (hh.wk (by omega)))
theorem j_dist (hq : RQ G H sa x s0 t0) (hM : MV t0) (h222 : s0.P 222 x = some pg) (hr : r < cR t0) (h : J0 sa pg s0 k0 m0 t0 m s kc ks t) (hm : m + 1100 ≤ 131000) (k : ∀ t', M_sayLists_b5 t (nI r) (nI (8 * r)) = M_sayLists_b113 t' (nI r) (nI (8 * r)) → ∀ s' kc' ks', J0 sa pg s0 k0 m0 t0 (m + 520) s' kc' ks' t' → Q s' kc' ks') : C_Rf_writePolicies sa x (some (G 1 r)) (some (sa 28)) (some (H 189 (G 1 r))) (t0.I 59 r) s kc ks Q := by
  have ox := hq.ox
  have ht := hq.tk
  have hN := hM.n
  have h6 := hM.nR
  have h8 : cS' t0 ≤ 8 := hM.1.2.2.2.2.2.2.1.n.2.2
  have h10 := hM.nL
  obtain ⟨⟨k26, -⟩, ⟨nm, p181, tx, nn⟩, -⟩ := hq.rt hr
  obtain ⟨-, -, -, -, -, ⟨-, py2, py3, py4, -⟩, -⟩ := hq.2.2.2.2.2.1 r hr
  have o9 := okr k26 9
  have ra := hq.ty.r k26 189 140 8
  have mv := (hM.r hr).2.2.2.2.2.2.1
  obtain ⟨eT, -, hT8⟩ := mv.1.n
  have mv := mv.2
  have py := py3
  generalize (t0.I 59 r).toNatClampNeg = n at *
  rw [eT]
  have e8 : (8 : Int32) * nI r = nI (8 * r) := by rw [show (8 : Int32) = nI 8 from rfl, pk_mul]
  unfold C_Rf_writePolicies C_Rf_writePolicies_b3
  intro P hP
  have loop : ∀ d j (s : cS) (kc ks : Nat) (t : moS), j + d = n → J0 sa pg s0 k0 m0 t0 (m + 65 * j) s kc ks t → (∀ t', M_sayLists_b5 t (nI r) (nI (8 * r + j)) = M_sayLists_b113 t' (nI r) (nI (8 * r)) → ∀ s' kc' ks', J0 sa pg s0 k0 m0 t0 (m + 520) s' kc' ks' t' → Q s' kc' ks') → P (nI j) s kc ks := by
    intro d
    induction d with
    | zero =>
      intro j s kc ks t hj h k
      apply hP
      unfold C_Rf_writePolicies_s3
      refine ifF (nI_nlt (by omega) (by omega)) (k t ?_ s kc ks (h.wk (by omega)))
      unfold M_sayLists_b5
      refine lp_x ?_
      show M_sayLists_s5 t (nI r) (nI (8 * r + j)) = _
      unfold M_sayLists_s5
      rw [h.rI hN 59 6 (by omega), Option.bind_some, eT, e8, nI_add, if_neg (nI_nlt (by omega) (by omega))]
    | succ d ih =>
      intro j s kc ks t hj h k
      have hj' : j < n := by omega
      have hj8 : j < 8 := by omega
      obtain ⟨qa, ka, -, -⟩ := py2 j hj8
      obtain ⟨w0, w1, w2, w3⟩ := py j hj'
      obtain ⟨m60, m61, ls, els, hls⟩ := mv j hj'
      apply hP
      unfold C_Rf_writePolicies_s3
      refine ifT (nI_lt (by omega) (by omega)) ?_
      have kE : ∀ t', M_sayLists_s5 t (nI r) (nI (8 * r + j)) = some (.inl (nI (8 * r + j) + 1, t')) → ∀ s' kc' ks', J0 sa pg s0 k0 m0 t0 (m + 65 * j + 65) s' kc' ks' t' → P (nI j + 1) s' kc' ks' := fun t' e s' kc' ks' h' => by
        rw [nI_1]
        refine ih (j + 1) s' kc' ks' t' (by omega) (h'.wk (by omega)) fun t2 e2 => k t2 (Eq.trans ?_ e2)
        rw [nI_1] at e
        unfold M_sayLists_b5
        exact lp_l (f := fun x : Int32 × moS => M_sayLists_s5 x.2 (nI r) x.1) (x := (nI (8 * r + j), t)) (y := (nI (8 * r + (j + 1)), t')) e
      unfold M_sayLists_s5 M_begin at kE
      rw [h.rI hN 59 6 (by omega), Option.bind_some, eT, e8, nI_add, if_pos (nI_lt (by omega) (by omega))] at kE
      refine ⟨_, rfl, h.rQ ra.2 (by decide) (by decide) hj8 (by decide) ⟨_, qa, h.rE (i := 1) ka (by decide) (by decide) (by decide) (by decide) ?_⟩⟩
      rw [w1]
      refine ⟨h.gO ox (by decide), j_linkAt hq hM h m61 (fun c => ?_) (fun ln en hln => ?_)⟩
      · skip
        refine h.page ox h222 ⟨_, rfl, j0_c 28 1110755146402405 (by decide +kernel) (by decide) h ht (by omega) fun s1 c1 d1 t1 e1 h1 => ?_⟩
        rw [e1, Option.bind_some, h1.rJ hN 38 6 (by omega), Option.bind_some] at kE
        refine h1.page ox h222 ⟨_, rfl, h1.gP o9 (by decide) ⟨_, rfl, ?_⟩⟩
        refine j1_n (p := H 181 (G 1 r)) p181 tx nn h1 (by omega) fun s2 c2 d2 t2 e2 h2 => ?_
        rw [e2, Option.bind_some, Option.bind_some, h2.rI hN 60 48 (by omega), Option.bind_some] at kE
        refine h2.page ox h222 (h2.rE (i := 0) ka (by decide) (by decide) (by decide) (by decide) ?_)
        rw [w0]
        obtain ⟨u, cd, hc, hu, hsd, eE⟩ : ∃ u cd, (u < 48 ∧ u ≠ 39 ∧ u ≠ 42 ∧ cdL (cT u) = cd) ∧ u ≠ 3 ∧ (∀ Q' : Option Nat → cS → Nat → Nat → Prop, Q' (some (sa u)) s2 c2 d2 → C_Rf_sideWord sa (t0.I 60 (8 * r + j)) s2 c2 d2 Q') ∧ (if t0.I 60 (8 * r + j) = 0 then M_sayLists_b47 t2 (nI r) (nI (8 * r + j)) 374 else M_sayLists_b47 t2 (nI r) (nI (8 * r + j)) 24860) = M_sayLists_b47 t2 (nI r) (nI (8 * r + j)) cd := by
          unfold C_Rf_sideWord
          by_cases c0 : t0.I 60 (8 * r + j) = 0
          · exact ⟨21, 374, by decide +kernel, by decide, fun Q' h => ifT c0 h, if_pos c0⟩
          · exact ⟨22, 24860, by decide +kernel, by decide, fun Q' h => ifF c0 h, if_neg c0⟩
        rw [eE] at kE
        unfold M_sayLists_b47 at kE
        refine hsd _ ⟨_, rfl, j1_c u cd hc hu h2 ht (by omega) fun s3 c3 d3 t3 e3 h3 => ?_⟩
        rw [e3, Option.bind_some, h3.rI hN 61 48 (by omega), Option.bind_some] at kE
        refine h3.page ox h222 ?_
        rw [if_pos c] at kE
        exact ifT rfl (j_dist_t hq hM h222 hr hj8 ka w2 w3 els hls (fun Q' kk => j1_c 29 37 (by decide +kernel) (by decide) h3 ht (by omega) kk) (by omega) fun t' w s' kc' ks' hh => kE t' w s' kc' ks' (hh.wk (by omega)))
      · obtain ⟨⟨k7, -⟩, ⟨nm2, p60, tx2, nn2⟩, -⟩ := hq.link hln
        refine h.page ox h222 ⟨_, rfl, j0_c 28 1110755146402405 (by decide +kernel) (by decide) h ht (by omega) fun s1 c1 d1 t1 e1 h1 => ?_⟩
        rw [e1, Option.bind_some, h1.rJ hN 38 6 (by omega), Option.bind_some] at kE
        refine h1.page ox h222 ⟨_, rfl, h1.gP o9 (by decide) ⟨_, rfl, ?_⟩⟩
        refine j1_n (p := H 181 (G 1 r)) p181 tx nn h1 (by omega) fun s2 c2 d2 t2 e2 h2 => ?_
        rw [e2, Option.bind_some, Option.bind_some, h2.rI hN 60 48 (by omega), Option.bind_some] at kE
        refine h2.page ox h222 (h2.rE (i := 0) ka (by decide) (by decide) (by decide) (by decide) ?_)
        rw [w0]
        obtain ⟨u, cd, hc, hu, hsd, eE⟩ : ∃ u cd, (u < 48 ∧ u ≠ 39 ∧ u ≠ 42 ∧ cdL (cT u) = cd) ∧ u ≠ 3 ∧ (∀ Q' : Option Nat → cS → Nat → Nat → Prop, Q' (some (sa u)) s2 c2 d2 → C_Rf_sideWord sa (t0.I 60 (8 * r + j)) s2 c2 d2 Q') ∧ (if t0.I 60 (8 * r + j) = 0 then M_sayLists_b47 t2 (nI r) (nI (8 * r + j)) 374 else M_sayLists_b47 t2 (nI r) (nI (8 * r + j)) 24860) = M_sayLists_b47 t2 (nI r) (nI (8 * r + j)) cd := by
          unfold C_Rf_sideWord
          by_cases c0 : t0.I 60 (8 * r + j) = 0
          · exact ⟨21, 374, by decide +kernel, by decide, fun Q' h => ifT c0 h, if_pos c0⟩
          · exact ⟨22, 24860, by decide +kernel, by decide, fun Q' h => ifF c0 h, if_neg c0⟩
        rw [eE] at kE
        unfold M_sayLists_b47 at kE
        refine hsd _ ⟨_, rfl, j1_c u cd hc hu h2 ht (by omega) fun s3 c3 d3 t3 e3 h3 => ?_⟩
        rw [e3, Option.bind_some, h3.rI hN 61 48 (by omega), Option.bind_some] at kE
        refine h3.page ox h222 ?_
        rw [if_neg (show ¬ t0.I 61 (8 * r + j) = -1 by rw [en]; exact nI_ne (by omega)), Option.bind_some, en, h3.rJ hN 18 10 (by omega), Option.bind_some] at kE
        refine ifF (by simp) ⟨_, rfl, h3.gP (okr k7 3) (by decide) ?_⟩
        exact j_dist_t hq hM h222 hr hj8 ka w2 w3 els hls (fun Q' kk => j1_n (p := H 60 (G 0 ln)) p60 tx2 nn2 h3 (by omega) kk) (by omega) fun t' w s' kc' ks' hh => kE t' w s' kc' ks' (hh.wk (by omega))
  exact loop n 0 s kc ks t (by omega) h k
theorem j_off_t (hq : RQ G H sa x s0 t0) (hM : MV t0) (h222 : s0.P 222 x = some pg) (hr : r < cR t0) {j w ls : Nat} (hj : j < 8) {o : Option Nat} {cd : Int64} (kw : s0.K w = (128, 4)) (w2 : s0.E w 2 = t0.I 66 (8 * r + j)) (w3 : s0.E w 3 = t0.I 67 (8 * r + j)) (h67 : 0 < t0.I 67 (8 * r + j)) (els : t0.I 66 (8 * r + j) = nI ls) (hls : ls < cS' t0) (hw : ∀ Q' : cS → Nat → Nat → Prop, (∀ s' kc' ks' t', M_word t cd = some t' → J1 sa pg s0 k0 m0 t0 (m + 13) s' kc' ks' t' → Q' s' kc' ks') → okO s 0 pg ∧ C_By_word sa pg o s kc ks Q') (hm : m + 100 ≤ 131000) (k : ∀ t', M_sayLists_b186 t (nI r) (nI (8 * r + j)) cd = some (.inl (nI (8 * r + j) + 1, t')) → ∀ s' kc' ks', J0 sa pg s0 k0 m0 t0 (m + 38) s' kc' ks' t' → P3 (nI j + 1) s' kc' ks') : C_Rf_writePolicies_b79 sa x p1 p2 p3 p4 (nI j) (some w) (some pg) o s kc ks Q P3 := by
  have ox := hq.ox
  have ht := hq.tk
  have hN := hM.n
  have h6 := hM.nR
  have h8 : cS' t0 ≤ 8 := hM.1.2.2.2.2.2.2.1.n.2.2
  obtain ⟨⟨k20, q230⟩, ⟨nm3, p120, tx3, nn3⟩, -⟩ := hq.2.2.2.2.1 ls hls
  have r230 := hq.ty.r hq.1.1 230 132 8
  have fin : ∀ {m : Nat} {s : cS} {kc ks : Nat} {t : moS}, J1 sa pg s0 k0 m0 t0 m s kc ks t → m + 20 ≤ 131000 → (∀ t', Option.bind (M_say t 10) (fun s5 => some (Sum.inl (nI (8 * r + j) + 1, s5))) = some (Sum.inl (nI (8 * r + j) + 1, t') : (Int32 × moS) ⊕ moS) → ∀ s' kc' ks', J0 sa pg s0 k0 m0 t0 (m + 1) s' kc' ks' t' → P3 (nI j + 1) s' kc' ks') → C_Rf_writePolicies_b119 sa x p1 p2 p3 p4 (nI j) s kc ks Q P3 := by
    intro m s kc ks t h hm k
    unfold C_Rf_writePolicies_b119
    refine h.page ox h222 ⟨_, rfl, j1_e h (by omega) fun s1 c1 d1 t1 e1 h1 => ?_⟩
    rw [e1, Option.bind_some] at k
    exact k _ rfl _ _ _ h1
  unfold M_sayLists_b186 at k
  unfold C_Rf_writePolicies_b79
  refine ⟨_, rfl, hw _ fun s1 c1 d1 t1 e1 h1 => ?_⟩
  rw [e1, Option.bind_some, h1.rI hN 66 48 (by omega), Option.bind_some, els, h1.rJ hN 28 8 (by omega), Option.bind_some] at k
  refine h1.page ox h222 (h1.gP ox (by decide) ⟨_, rfl, h1.rE (i := 2) kw (by decide) (by decide) (by decide) (by decide) ⟨_, r230.1, ?_⟩⟩)
  rw [w2, els]
  refine h1.rQ r230.2 (by decide) (by decide) (by omega) (by decide) ⟨_, q230, h1.gP (okr k20 6) (by decide) ⟨_, rfl, ?_⟩⟩
  refine j1_n (p := H 120 (G 3 ls)) p120 tx3 nn3 h1 (by omega) fun s2 c2 d2 t2 e2 h2 => ?_
  rw [e2, Option.bind_some, h2.rI hN 67 48 (by omega), Option.bind_some] at k
  refine h2.rE (i := 3) kw (by decide) (by decide) (by decide) (by decide) ?_
  rw [w3]
  refine ifT h67 (h2.page ox h222 (h2.rE (i := 3) kw (by decide) (by decide) (by decide) (by decide) ⟨_, rfl, ?_⟩))
  rw [w3]
  refine j1_u _ h2 ht (by omega) fun s3 c3 d3 t3 e3 h3 => ?_
  rw [e3, Option.bind_some] at k
  exact fin h3 (by omega) fun t' w s' kc' ks' hh => k t' w s' kc' ks' (hh.wk (by omega))
theorem j_off (hq : RQ G H sa x s0 t0) (hM : MV t0) (h222 : s0.P 222 x = some pg) (hr : r < cR t0) (h : J0 sa pg s0 k0 m0 t0 m s kc ks t) (hm : m + 1100 ≤ 131000) (k : ∀ t', M_sayLists_b113 t (nI r) (nI (8 * r)) = some t' → ∀ s' kc' ks', J0 sa pg s0 k0 m0 t0 (m + 608) s' kc' ks' t' → Q s' kc' ks') : C_Rf_writePolicies sa x (some (G 1 r)) (some (sa 30)) (some (H 191 (G 1 r))) (t0.I 63 r) s kc ks Q := by
  have ox := hq.ox
  have ht := hq.tk
  have hN := hM.n
  have h6 := hM.nR
  have h8 : cS' t0 ≤ 8 := hM.1.2.2.2.2.2.2.1.n.2.2
  have h10 := hM.nL
  obtain ⟨⟨k26, -⟩, ⟨nm, p181, tx, nn⟩, -⟩ := hq.rt hr
  obtain ⟨-, -, -, -, -, ⟨-, py2, py3, py4, -⟩, -⟩ := hq.2.2.2.2.2.1 r hr
  have o9 := okr k26 9
  have ra := hq.ty.r k26 191 141 8
  have mv := (hM.r hr).2.2.2.2.2.2.2.1
  obtain ⟨eT, -, hT8⟩ := mv.1.n
  have mv := mv.2
  have py := py4
  generalize (t0.I 63 r).toNatClampNeg = n at *
  rw [eT]
  have e8 : (8 : Int32) * nI r = nI (8 * r) := by rw [show (8 : Int32) = nI 8 from rfl, pk_mul]
  unfold C_Rf_writePolicies C_Rf_writePolicies_b3
  intro P hP
  have loop : ∀ d j (s : cS) (kc ks : Nat) (t : moS), j + d = n → J0 sa pg s0 k0 m0 t0 (m + 76 * j) s kc ks t → (∀ t', M_sayLists_b113 t (nI r) (nI (8 * r + j)) = some t' → ∀ s' kc' ks', J0 sa pg s0 k0 m0 t0 (m + 608) s' kc' ks' t' → Q s' kc' ks') → P (nI j) s kc ks := by
    intro d
    induction d with
    | zero =>
      intro j s kc ks t hj h k
      apply hP
      unfold C_Rf_writePolicies_s3
      refine ifF (nI_nlt (by omega) (by omega)) (k t ?_ s kc ks (h.wk (by omega)))
      unfold M_sayLists_b113
      refine lp_x ?_
      show M_sayLists_s113 t (nI r) (nI (8 * r + j)) = _
      unfold M_sayLists_s113
      rw [h.rI hN 63 6 (by omega), Option.bind_some, eT, e8, nI_add, if_neg (nI_nlt (by omega) (by omega))]
    | succ d ih =>
      intro j s kc ks t hj h k
      have hj' : j < n := by omega
      have hj8 : j < 8 := by omega
      obtain ⟨-, -, qa, ka⟩ := py2 j hj8
      obtain ⟨w0, w1, w2, w3⟩ := py j hj'
      obtain ⟨m60, m61, ⟨ls, els, hls⟩, m67⟩ := mv j hj'
      have h67 : 0 < t0.I 67 (8 * r + j) := by
        obtain ⟨v, ev, hv1, hv2⟩ := m67
        rw [ev]
        exact nI_lt (a := 0) (by omega) (by omega)
      apply hP
      unfold C_Rf_writePolicies_s3
      refine ifT (nI_lt (by omega) (by omega)) ?_
      have kE : ∀ t', M_sayLists_s113 t (nI r) (nI (8 * r + j)) = some (.inl (nI (8 * r + j) + 1, t')) → ∀ s' kc' ks', J0 sa pg s0 k0 m0 t0 (m + 76 * j + 76) s' kc' ks' t' → P (nI j + 1) s' kc' ks' := fun t' e s' kc' ks' h' => by
        rw [nI_1]
        refine ih (j + 1) s' kc' ks' t' (by omega) (h'.wk (by omega)) fun t2 e2 => k t2 (Eq.trans ?_ e2)
        rw [nI_1] at e
        unfold M_sayLists_b113
        exact lp_l (f := fun x : Int32 × moS => M_sayLists_s113 x.2 (nI r) x.1) (x := (nI (8 * r + j), t)) (y := (nI (8 * r + (j + 1)), t')) e
      unfold M_sayLists_s113 M_begin at kE
      rw [h.rI hN 63 6 (by omega), Option.bind_some, eT, e8, nI_add, if_pos (nI_lt (by omega) (by omega))] at kE
      refine ⟨_, rfl, h.rQ ra.2 (by decide) (by decide) hj8 (by decide) ⟨_, qa, h.rE (i := 1) ka (by decide) (by decide) (by decide) (by decide) ?_⟩⟩
      rw [w1]
      refine ⟨h.gO ox (by decide), j_linkAt hq hM h m61 (fun c => ?_) (fun ln en hln => ?_)⟩
      · skip
        refine h.page ox h222 ⟨_, rfl, j0_c 30 1551774620 (by decide +kernel) (by decide) h ht (by omega) fun s1 c1 d1 t1 e1 h1 => ?_⟩
        rw [e1, Option.bind_some, h1.rJ hN 38 6 (by omega), Option.bind_some] at kE
        refine h1.page ox h222 ⟨_, rfl, h1.gP o9 (by decide) ⟨_, rfl, ?_⟩⟩
        refine j1_n (p := H 181 (G 1 r)) p181 tx nn h1 (by omega) fun s2 c2 d2 t2 e2 h2 => ?_
        rw [e2, Option.bind_some, Option.bind_some, h2.rI hN 64 48 (by omega), Option.bind_some] at kE
        refine h2.page ox h222 (h2.rE (i := 0) ka (by decide) (by decide) (by decide) (by decide) ?_)
        rw [w0]
        obtain ⟨u, cd, hc, hu, hsd, eE⟩ : ∃ u cd, (u < 48 ∧ u ≠ 39 ∧ u ≠ 42 ∧ cdL (cT u) = cd) ∧ u ≠ 3 ∧ (∀ Q' : Option Nat → cS → Nat → Nat → Prop, Q' (some (sa u)) s2 c2 d2 → C_Rf_sideWord sa (t0.I 64 (8 * r + j)) s2 c2 d2 Q') ∧ (if t0.I 64 (8 * r + j) = 0 then M_sayLists_b155 t2 (nI r) (nI (8 * r + j)) 374 else M_sayLists_b155 t2 (nI r) (nI (8 * r + j)) 24860) = M_sayLists_b155 t2 (nI r) (nI (8 * r + j)) cd := by
          unfold C_Rf_sideWord
          by_cases c0 : t0.I 64 (8 * r + j) = 0
          · exact ⟨21, 374, by decide +kernel, by decide, fun Q' h => ifT c0 h, if_pos c0⟩
          · exact ⟨22, 24860, by decide +kernel, by decide, fun Q' h => ifF c0 h, if_neg c0⟩
        rw [eE] at kE
        unfold M_sayLists_b155 at kE
        refine hsd _ ⟨_, rfl, j1_c u cd hc hu h2 ht (by omega) fun s3 c3 d3 t3 e3 h3 => ?_⟩
        rw [e3, Option.bind_some, h3.rI hN 65 48 (by omega), Option.bind_some] at kE
        refine h3.page ox h222 ?_
        rw [if_pos c] at kE
        exact ifT rfl (j_off_t hq hM h222 hr hj8 ka w2 w3 h67 els hls (fun Q' kk => j1_c 29 37 (by decide +kernel) (by decide) h3 ht (by omega) kk) (by omega) fun t' w s' kc' ks' hh => kE t' w s' kc' ks' (hh.wk (by omega)))
      · obtain ⟨⟨k7, -⟩, ⟨nm2, p60, tx2, nn2⟩, -⟩ := hq.link hln
        refine h.page ox h222 ⟨_, rfl, j0_c 30 1551774620 (by decide +kernel) (by decide) h ht (by omega) fun s1 c1 d1 t1 e1 h1 => ?_⟩
        rw [e1, Option.bind_some, h1.rJ hN 38 6 (by omega), Option.bind_some] at kE
        refine h1.page ox h222 ⟨_, rfl, h1.gP o9 (by decide) ⟨_, rfl, ?_⟩⟩
        refine j1_n (p := H 181 (G 1 r)) p181 tx nn h1 (by omega) fun s2 c2 d2 t2 e2 h2 => ?_
        rw [e2, Option.bind_some, Option.bind_some, h2.rI hN 64 48 (by omega), Option.bind_some] at kE
        refine h2.page ox h222 (h2.rE (i := 0) ka (by decide) (by decide) (by decide) (by decide) ?_)
        rw [w0]
        obtain ⟨u, cd, hc, hu, hsd, eE⟩ : ∃ u cd, (u < 48 ∧ u ≠ 39 ∧ u ≠ 42 ∧ cdL (cT u) = cd) ∧ u ≠ 3 ∧ (∀ Q' : Option Nat → cS → Nat → Nat → Prop, Q' (some (sa u)) s2 c2 d2 → C_Rf_sideWord sa (t0.I 64 (8 * r + j)) s2 c2 d2 Q') ∧ (if t0.I 64 (8 * r + j) = 0 then M_sayLists_b155 t2 (nI r) (nI (8 * r + j)) 374 else M_sayLists_b155 t2 (nI r) (nI (8 * r + j)) 24860) = M_sayLists_b155 t2 (nI r) (nI (8 * r + j)) cd := by
          unfold C_Rf_sideWord
          by_cases c0 : t0.I 64 (8 * r + j) = 0
          · exact ⟨21, 374, by decide +kernel, by decide, fun Q' h => ifT c0 h, if_pos c0⟩
          · exact ⟨22, 24860, by decide +kernel, by decide, fun Q' h => ifF c0 h, if_neg c0⟩
        rw [eE] at kE
        unfold M_sayLists_b155 at kE
        refine hsd _ ⟨_, rfl, j1_c u cd hc hu h2 ht (by omega) fun s3 c3 d3 t3 e3 h3 => ?_⟩
        rw [e3, Option.bind_some, h3.rI hN 65 48 (by omega), Option.bind_some] at kE
        refine h3.page ox h222 ?_
        rw [if_neg (show ¬ t0.I 65 (8 * r + j) = -1 by rw [en]; exact nI_ne (by omega)), Option.bind_some, en, h3.rJ hN 18 10 (by omega), Option.bind_some] at kE
        refine ifF (by simp) ⟨_, rfl, h3.gP (okr k7 3) (by decide) ?_⟩
        exact j_off_t hq hM h222 hr hj8 ka w2 w3 h67 els hls (fun Q' kk => j1_n (p := H 60 (G 0 ln)) p60 tx2 nn2 h3 (by omega) kk) (by omega) fun t' w s' kc' ks' hh => kE t' w s' kc' ks' (hh.wk (by omega))
  exact loop n 0 s kc ks t (by omega) h k
end C7
