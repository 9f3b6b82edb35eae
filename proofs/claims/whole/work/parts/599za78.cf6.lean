/-! Configuration: filters, policies, shares; both sides. -/
theorem rem_n {a b : Nat} (ha : a < 2 ^ 31) (hb : 0 < b) (hb2 : b < 2 ^ 31) : rem_I (nI a) (nI b) = nI (a % b) := by
  show nI a - nI a / nI b * nI b = _
  rw [pk_rem ha hb hb2]
section C6
variable {G H : Nat → Nat → Nat} {sa : Nat → Nat} {pg k0 m0 m kc ks x r p q f : Nat} {s0 s : cS} {t0 t : moS} {Q : cS → Nat → Nat → Prop} {P3 : Int32 → cS → Nat → Nat → Prop}
theorem j_linkAt {Fl : List Int32 → List Int32} {N : List Int32 → Prop} (hq : RQ G H sa x s0 t0) (hM : MV t0) (h : JX sa pg s0 k0 m0 t0 Fl N m s kc ks t) {y : Int32} (hy : y = -1 ∨ ∃ n, y = nI n ∧ n < cL t0) {Q : Option Nat → cS → Nat → Nat → Prop} (k0' : y = -1 → Q none s kc ks) (k1 : ∀ n, y = nI n → n < cL t0 → Q (some (G 0 n)) s kc ks) : C_Rf_linkAt sa x y s kc ks Q := by
  have h10 := hM.nL
  have ha := hq.ty.r hq.1.1 226 130 10
  unfold C_Rf_linkAt
  rcases hy with rfl | ⟨n, rfl, hn⟩
  · exact ifT (by decide) (k0' rfl)
  · refine ifF (nI_pos (by omega)) (h.gI hq.ox (by decide) ?_)
    rw [show s0.I (20 * 11 + 7) x = _ from hq.nL hM]
    refine ifT (nI_lt hn (by omega)) (h.gP hq.ox (by decide) ⟨_, ha.1, h.rQ ha.2 (by decide) (by decide) (by omega) (by decide) ?_⟩)
    rw [(hq.link hn).1.2]
    exact k1 n rfl hn
theorem j_sh110 (hq : RQ G H sa x s0 t0) (hM : MV t0) (h222 : s0.P 222 x = some pg) {i : Nat} (hi : i < 12) (h : J1 sa pg s0 k0 m0 t0 m s kc ks t) (hm : m + 80 ≤ 131000) (k : ∀ t', M_sayRedistributed_b92 t (nI i) = some t' → ∀ s' kc' ks', J0 sa pg s0 k0 m0 t0 (m + 25) s' kc' ks' t' → Q s' kc' ks') : C_Rf_writeShare_b110 sa x (t0.I 69 i) s kc ks Q := by
  have ox := hq.ox
  have ht := hq.tk
  have hN := hM.n
  have h6 := hM.nR
  have e135 : ∀ {m : Nat} {s : cS} {kc ks : Nat} {t : moS}, J1 sa pg s0 k0 m0 t0 m s kc ks t → m + 40 ≤ 131000 → (∀ t', M_sayRedistributed_b119 t = some t' → ∀ s' kc' ks', J0 sa pg s0 k0 m0 t0 (m + 1) s' kc' ks' t' → Q s' kc' ks') → C_Rf_writeShare_b135 sa x s kc ks Q := by
    intro m s kc ks t h hm k
    unfold M_sayRedistributed_b119 at k
    unfold C_Rf_writeShare_b135
    refine h.page ox h222 ⟨_, rfl, j1_e h (by omega) fun s1 c1 d1 t1 e1 h1 => ?_⟩
    rw [e1, Option.bind_some] at k
    exact k _ rfl _ _ _ h1
  unfold M_sayRedistributed_b92 at k
  rw [h.rI hN 69 12 hi, Option.bind_some] at k
  unfold C_Rf_writeShare_b110
  by_cases c : t0.I 69 i = -1
  · rw [if_pos c] at k
    exact ifT c (e135 h (by omega) fun t' w s' kc' ks' hh => k t' w s' kc' ks' (hh.wk (by omega)))
  · rw [if_neg c] at k
    refine ifF c (h.page ox h222 ⟨_, rfl, j1_c 18 32047 (by decide +kernel) (by decide) h ht (by omega) fun s1 c1 d1 t1 e1 h1 => ?_⟩)
    rw [e1, Option.bind_some, h1.rI hN 69 12 hi, Option.bind_some] at k
    refine h1.page ox h222 ⟨_, rfl, j1_u _ h1 ht (by omega) fun s2 c2 d2 t2 e2 h2 => ?_⟩
    rw [e2, Option.bind_some] at k
    exact e135 h2 (by omega) fun t' w s' kc' ks' hh => k t' w s' kc' ks' (hh.wk (by omega))
theorem j_share (hq : RQ G H sa x s0 t0) (hM : MV t0) (h222 : s0.P 222 x = some pg) (hr : r < cR t0) {i : Nat} (hi : i < 2) (h : J0 sa pg s0 k0 m0 t0 m s kc ks t) (hm : m + 200 ≤ 131000) (k : ∀ t', M_sayRedistributed t (nI r) (nI (2 * r + i)) = some t' → ∀ s' kc' ks', J0 sa pg s0 k0 m0 t0 (m + 76) s' kc' ks' t' → Q s' kc' ks') : C_Rf_writeShare sa x (some (G 1 r)) (nI i) s kc ks Q := by
  have ox := hq.ox
  have ht := hq.tk
  have hN := hM.n
  have h6 := hM.nR
  have rem := rem2 r i hi (by omega)
  obtain ⟨⟨k26, -⟩, ⟨nm, p181, tx, nn⟩, -⟩ := hq.rt hr
  obtain ⟨-, -, -, -, -, i6, -⟩ := hq.2.2.2.2.2.1 r hr
  obtain ⟨e193, e194⟩ := i6.2.2.2.2 i hi
  have mv68 := ((hM.r hr).2.2.2.2.2.2.2.2.1 i hi).1
  obtain ⟨z1, z2, z3, z4⟩ := shc_0 mv68
  have o9 := okr k26 9
  have r193 := hq.ty.r k26 193 121 2
  have r194 := hq.ty.r k26 194 122 2
  have b64 : ∀ {m : Nat} {s : cS} {kc ks : Nat} {t : moS} (u : Nat) (cd : Int64), (u < 48 ∧ u ≠ 39 ∧ u ≠ 42 ∧ cdL (cT u) = cd) → u ≠ 3 → J1 sa pg s0 k0 m0 t0 m s kc ks t → m + 120 ≤ 131000 → (∀ t', M_sayRedistributed_b45 t (nI (2 * r + i)) cd = some t' → ∀ s' kc' ks', J0 sa pg s0 k0 m0 t0 (m + 51) s' kc' ks' t' → Q s' kc' ks') → C_Rf_writeShare_b64 sa x (shc (t0.I 68 (2 * r + i))) (t0.I 69 (2 * r + i)) (some pg) (some (sa u)) s kc ks Q := by
    intro m s kc ks t u cd hc hu h hm k
    unfold M_sayRedistributed_b45 at k
    unfold C_Rf_writeShare_b64
    refine ⟨_, rfl, j1_c u cd hc hu h ht (by omega) fun s1 c1 d1 t1 e1 h1 => ?_⟩
    rw [e1, Option.bind_some, h1.rI hN 68 12 (by omega), Option.bind_some] at k
    by_cases c0 : t0.I 68 (2 * r + i) = -1
    · have n0 : ¬ 0 < t0.I 68 (2 * r + i) := fun z => (z4.1 z).1 c0
      rw [if_neg n0, Option.bind_some, if_neg (show ¬ t0.I 68 (2 * r + i) = 0 by rw [c0]; decide)] at k
      unfold M_sayRedistributed_b89 at k
      refine ifT (z1.2 c0) (h1.page ox h222 ⟨_, rfl, j1_c 35 24934 (by decide +kernel) (by decide) h1 ht (by omega) fun s2 c2 d2 t2 e2 h2 => ?_⟩)
      rw [e2, Option.bind_some] at k
      exact j_sh110 hq hM h222 (by omega) h2 (by omega) fun t' w s' kc' ks' hh => k t' w s' kc' ks' (hh.wk (by omega))
    · by_cases c1 : t0.I 68 (2 * r + i) = 0
      · have n0 : ¬ 0 < t0.I 68 (2 * r + i) := fun z => (z4.1 z).2 c1
        rw [if_neg n0, Option.bind_some, if_pos c1] at k
        unfold M_sayRedistributed_b89 at k
        refine ifF (fun z => c0 (z1.1 z)) (ifT (z2.2 c1) (h1.page ox h222 ⟨_, rfl, j1_c 12 24246 (by decide +kernel) (by decide) h1 ht (by omega) fun s2 c2 d2 t2 e2 h2 => ?_⟩))
        rw [e2, Option.bind_some] at k
        exact j_sh110 hq hM h222 (by omega) h2 (by omega) fun t' w s' kc' ks' hh => k t' w s' kc' ks' (hh.wk (by omega))
      · have n0 : 0 < t0.I 68 (2 * r + i) := z4.2 ⟨c0, c1⟩
        rw [if_pos n0, Option.bind_some] at k
        refine ifF (fun z => c0 (z1.1 z)) (ifF (fun z => c1 (z2.1 z)) (h1.page ox h222 ⟨_, rfl, ?_⟩))
        rw [z3 n0]
        refine j1_u _ h1 ht (by omega) fun s2 c2 d2 t2 e2 h2 => ?_
        rw [e2, Option.bind_some] at k
        exact j_sh110 hq hM h222 (by omega) h2 (by omega) fun t' w s' kc' ks' hh => k t' w s' kc' ks' (hh.wk (by omega))
  have b26 : (∀ t', M_sayRedistributed_b21 t (nI r) (nI (2 * r + i)) = some t' → ∀ s' kc' ks', J0 sa pg s0 k0 m0 t0 (m + 76) s' kc' ks' t' → Q s' kc' ks') → C_Rf_writeShare_b26 sa x (some (G 1 r)) (nI i) (shc (t0.I 68 (2 * r + i))) (t0.I 69 (2 * r + i)) s kc ks Q := by
    intro k
    unfold M_sayRedistributed_b21 M_begin at k
    unfold C_Rf_writeShare_b26
    refine h.page ox h222 ⟨_, rfl, j0_c 33 7603286755146402405 (by decide +kernel) (by decide) h ht (by omega) fun s1 c1 d1 t1 e1 h1 => ?_⟩
    rw [e1, Option.bind_some, h1.rJ hN 38 6 (by omega), Option.bind_some] at k
    refine h1.page ox h222 ⟨_, rfl, h1.gP o9 (by decide) ⟨_, rfl, ?_⟩⟩
    refine j1_n (p := H 181 (G 1 r)) p181 tx nn h1 (by omega) fun s2 c2 d2 t2 e2 h2 => ?_
    rw [e2, Option.bind_some, Option.bind_some, rem] at k
    refine h2.page ox h222 ?_
    rcases (show i = 0 ∨ i = 1 by omega) with rfl | rfl
    · rw [if_pos (show nI 0 = 0 from rfl)] at k
      exact ifT rfl (b64 34 22177190624204 (by decide +kernel) (by decide) h2 (by omega) fun t' w s' kc' ks' hh => k t' w s' kc' ks' (hh.wk (by omega)))
    · rw [if_neg (show ¬ nI 1 = 0 by decide)] at k
      exact ifF (by decide) (b64 17 1996896363 (by decide +kernel) (by decide) h2 (by omega) fun t' w s' kc' ks' hh => k t' w s' kc' ks' (hh.wk (by omega)))
  unfold M_sayRedistributed at k
  rw [h.rI hN 68 12 (by omega), Option.bind_some] at k
  unfold C_Rf_writeShare
  refine ⟨_, rfl, h.gP o9 (by decide) ⟨_, r193.1, h.rE r193.2 (by decide) (by decide) hi (by decide) (h.gP o9 (by decide) ⟨_, r194.1, h.rE r194.2 (by decide) (by decide) hi (by decide) ?_⟩)⟩⟩
  rw [e193, e194]
  by_cases c0 : t0.I 68 (2 * r + i) = -1
  · rw [if_pos c0, h.rI hN 69 12 (by omega), Option.bind_some] at k
    refine ifT (z1.2 c0) ?_
    by_cases c1 : t0.I 69 (2 * r + i) = -1
    · rw [if_pos c1] at k
      exact ifT c1 (k t rfl s kc ks (h.wk (by omega)))
    · rw [if_neg c1] at k
      exact ifF c1 (b26 k)
  · rw [if_neg c0] at k
    exact ifF (fun z => c0 (z1.1 z)) (b26 k)
theorem j_filt (hq : RQ G H sa x s0 t0) (hM : MV t0) (h222 : s0.P 222 x = some pg) (hr : r < cR t0) {w : Nat} (hw : w < 2) (h : J0 sa pg s0 k0 m0 t0 m s kc ks t) (hm : m + 4500 ≤ 131000) (k : ∀ t', M_sayFilters_b5 t (nI r) (nI (64 * r + 32 * w)) = M_sayFilters_b5 t' (nI r) (nI (64 * r + 32 * w + 32)) → ∀ s' kc' ks', J0 sa pg s0 k0 m0 t0 (m + 3424) s' kc' ks' t' → Q s' kc' ks') : C_Rf_writeFilters sa x (some (G 1 r)) (nI w) s kc ks Q := by
  have ox := hq.ox
  have ht := hq.tk
  have hN := hM.n
  have h6 := hM.nR
  obtain ⟨⟨k26, -⟩, ⟨nm, p181, tx, nn⟩, -⟩ := hq.rt hr
  obtain ⟨-, -, -, i4, i5, -⟩ := hq.2.2.2.2.2.1 r hr
  have rf : RFi G H s0 t0 r w := by
    rcases (show w = 0 ∨ w = 1 by omega) with rfl | rfl
    · exact i4
    · exact i5
  obtain ⟨⟨k21, q188⟩, i125, rp⟩ := rf
  have mv := ((hM.r hr).2.2.2.2.2.1 w hw).1.n
  have o9 := okr k26 9
  have o6 := okr k21 6
  have r188 := hq.ty.r k26 188 143 2
  have r121 := hq.ty.r k21 121 138 32
  have r122 := hq.ty.r k21 122 102 32
  have e53 : t0.I 53 (2 * r + w) = nI (t0.I 53 (2 * r + w)).toNatClampNeg := mv.1
  have n32 : (t0.I 53 (2 * r + w)).toNatClampNeg ≤ 32 := mv.2.2
  generalize (t0.I 53 (2 * r + w)).toNatClampNeg = n at *
  have e64 : (64 : Int32) * nI r + 64 = nI (64 * r + 64) := by rw [show (64 : Int32) = nI 64 from rfl, pk_mul, nI_add]
  have a1 : ∀ j, j < 32 → (rem_I (nI (64 * r + 32 * w + j)) (64 : Int32)) / (32 : Int32) = nI w := fun j hj => by
    rw [show (64 : Int32) = nI 64 from rfl, rem_n (by omega) (by decide) (by decide), show (32 : Int32) = nI 32 from rfl]
    have : nI ((64 * r + 32 * w + j) % 64) / nI 32 = nI ((64 * r + 32 * w + j) % 64 / 32) := pk_div (d := 32) (by omega) (by decide) (by decide)
    rw [this]
    congr 1
    omega
  have a2 : ∀ j, j < 32 → rem_I (nI (64 * r + 32 * w + j)) (32 : Int32) = nI j := fun j hj => by
    rw [show (32 : Int32) = nI 32 from rfl, rem_n (by omega) (by decide) (by decide)]
    congr 1
    omega
  have a3 : (2 : Int32) * nI r + nI w = nI (2 * r + w) := by rw [show (2 : Int32) = nI 2 from rfl, pk_mul, nI_add]
  have skip : ∀ d j (s : cS) (kc ks : Nat) (t : moS), j + d = 32 → n ≤ j → J0 sa pg s0 k0 m0 t0 (m + 3424) s kc ks t → M_sayFilters_b5 t (nI r) (nI (64 * r + 32 * w + j)) = M_sayFilters_b5 t (nI r) (nI (64 * r + 32 * w + 32)) := by
    intro d
    induction d with
    | zero =>
      intro j s kc ks t hj _ h
      rw [show j = 32 by omega]
    | succ d ih =>
      intro j s kc ks t hj hnj h
      refine Eq.trans ?_ (ih (j + 1) s kc ks t (by omega) (by omega) h)
      unfold M_sayFilters_b5
      refine lp_l (f := fun x : Int32 × moS => M_sayFilters_s5 x.2 (nI r) x.1) (x := (nI (64 * r + 32 * w + j), t)) (y := (nI (64 * r + 32 * w + (j + 1)), t)) ?_
      show M_sayFilters_s5 t (nI r) (nI (64 * r + 32 * w + j)) = _
      unfold M_sayFilters_s5
      rw [e64, if_pos (nI_lt (by omega) (by omega)), a1 j (by omega), a3, h.rI hN 53 12 (by omega), Option.bind_some, a2 j (by omega), e53, if_neg (nI_nlt (by omega) (by omega))]
      unfold M_sayFilters_b125
      rw [nI_1]
      rfl
  unfold C_Rf_writeFilters
  refine ⟨_, rfl, h.gP o9 (by decide) ⟨_, r188.1, h.rQ r188.2 (by decide) (by decide) hw (by decide) ?_⟩⟩
  rw [q188]
  unfold C_Rf_writeFilters_b10
  intro P hP
  have loop : ∀ d j (s : cS) (kc ks : Nat) (t : moS), j + d = n → J0 sa pg s0 k0 m0 t0 (m + 107 * j) s kc ks t → (∀ t', M_sayFilters_b5 t (nI r) (nI (64 * r + 32 * w + j)) = M_sayFilters_b5 t' (nI r) (nI (64 * r + 32 * w + 32)) → ∀ s' kc' ks', J0 sa pg s0 k0 m0 t0 (m + 3424) s' kc' ks' t' → Q s' kc' ks') → P (nI j) s kc ks := by
    intro d
    induction d with
    | zero =>
      intro j s kc ks t hj h k
      apply hP
      unfold C_Rf_writeFilters_s10
      refine ⟨_, rfl, h.gI o6 (by decide) ?_⟩
      rw [show s0.I (20 * 6 + 5) (G 5 (2 * r + w)) = nI n from i125]
      have hh := h.wk (m' := m + 3424) (by omega)
      exact ifF (nI_nlt (by omega) (by omega)) (k t (skip (32 - j) j s kc ks t (by omega) (by omega) hh) s kc ks hh)
    | succ d ih =>
      intro j s kc ks t hj h k
      have hj' : j < n := by omega
      obtain ⟨pp, pq, pk, pf, e122, -, -⟩ := rp j hj'
      apply hP
      unfold C_Rf_writeFilters_s10
      refine ⟨_, rfl, h.gI o6 (by decide) ?_⟩
      rw [show s0.I (20 * 6 + 5) (G 5 (2 * r + w)) = nI n from i125]
      refine ifT (nI_lt (by omega) (by omega)) ?_
      have kE : ∀ t', M_sayFilters_s5 t (nI r) (nI (64 * r + 32 * w + j)) = some (.inl (nI (64 * r + 32 * w + j) + 1, t')) → ∀ s' kc' ks', J0 sa pg s0 k0 m0 t0 (m + 107 * j + 107) s' kc' ks' t' → P (nI j + 1) s' kc' ks' := fun t' e s' kc' ks' h' => by
        rw [nI_1]
        refine ih (j + 1) s' kc' ks' t' (by omega) (h'.wk (by omega)) fun t2 e2 => k t2 (Eq.trans ?_ e2)
        rw [nI_1] at e
        unfold M_sayFilters_b5
        exact lp_l (f := fun x : Int32 × moS => M_sayFilters_s5 x.2 (nI r) x.1) (x := (nI (64 * r + 32 * w + j), t)) (y := (nI (64 * r + 32 * w + (j + 1)), t')) e
      unfold M_sayFilters_s5 M_begin at kE
      rw [e64, if_pos (nI_lt (by omega) (by omega)), a1 j (by omega), a3, h.rI hN 53 12 (by omega), Option.bind_some, a2 j (by omega), e53, if_pos (nI_lt (by omega) (by omega))] at kE
      refine h.page ox h222 ⟨_, rfl, j0_c 20 638240218 (by decide +kernel) (by decide) h ht (by omega) fun s1 c1 d1 t1 e1 h1 => ?_⟩
      rw [e1, Option.bind_some, h1.rJ hN 38 6 (by omega), Option.bind_some] at kE
      refine h1.page ox h222 ⟨_, rfl, h1.gP o9 (by decide) ⟨_, rfl, ?_⟩⟩
      refine j1_n (p := H 181 (G 1 r)) p181 tx nn h1 (by omega) fun s2 c2 d2 t2 e2 h2 => ?_
      rw [e2, Option.bind_some, Option.bind_some] at kE
      refine h2.page ox h222 ?_
      obtain ⟨u, cd, hc, hu, hsd, eE⟩ : ∃ u cd, (u < 48 ∧ u ≠ 39 ∧ u ≠ 42 ∧ cdL (cT u) = cd) ∧ u ≠ 3 ∧ (∀ Q' : Option Nat → cS → Nat → Nat → Prop, Q' (some (sa u)) s2 c2 d2 → C_Rf_sideWord sa (nI w) s2 c2 d2 Q') ∧ (if nI w = 0 then M_sayFilters_b66 t2 (nI r) (nI (64 * r + 32 * w + j)) 374 else M_sayFilters_b66 t2 (nI r) (nI (64 * r + 32 * w + j)) 24860) = M_sayFilters_b66 t2 (nI r) (nI (64 * r + 32 * w + j)) cd := by
        unfold C_Rf_sideWord
        rcases (show w = 0 ∨ w = 1 by omega) with rfl | rfl
        · exact ⟨21, 374, by decide +kernel, by decide, fun Q' h => ifT rfl h, if_pos rfl⟩
        · exact ⟨22, 24860, by decide +kernel, by decide, fun Q' h => ifF (by decide) h, if_neg (by decide)⟩
      rw [eE] at kE
      unfold M_sayFilters_b66 at kE
      refine hsd _ ⟨_, rfl, j1_c u cd hc hu h2 ht (by omega) fun s3 c3 d3 t3 e3 h3 => ?_⟩
      rw [e3, Option.bind_some] at kE
      refine h3.page ox h222 ⟨_, rfl, j1_h h3 ht (by omega) fun s4 c4 d4 h4 => ?_⟩
      refine h4.page ox h222 (h4.gP o6 (by decide) ⟨_, r121.1, h4.rQ r121.2 (by decide) (by decide) (by omega) (by decide) ⟨_, rfl, ?_⟩⟩)
      rw [h4.rI hN 54 384 (by omega), Option.bind_some, h4.rJ hN 55 384 (by omega), Option.bind_some, h4.rJ hN 56 384 (by omega), Option.bind_some, h4.rI hN 57 384 (by omega), Option.bind_some] at kE
      refine jh_p (p := pp) pq (okr pk 5) pf h4 ht (by omega) fun s5 c5 d5 t5 e5 h5 => ?_
      rw [e5, Option.bind_some, h5.rI hN 58 384 (by omega), Option.bind_some] at kE
      refine h5.page ox h222 (h5.gP o6 (by decide) ⟨_, r122.1, h5.rE r122.2 (by decide) (by decide) (by omega) (by decide) ?_⟩)
      rw [e122]
      have b98 : ∀ u cd, (u < 48 ∧ u ≠ 39 ∧ u ≠ 42 ∧ cdL (cT u) = cd) → u ≠ 3 → (∀ t', M_sayFilters_b116 t5 (nI r) (nI (64 * r + 32 * w + j)) cd = some (.inl (nI (64 * r + 32 * w + j) + 1, t')) → ∀ s' kc' ks', J0 sa pg s0 k0 m0 t0 (m + 107 * j + 107) s' kc' ks' t' → P (nI j + 1) s' kc' ks') → C_Rf_writeFilters_b98 sa x (some (G 1 r)) (nI w) (some (G 5 (2 * r + w))) (nI j) (some pg) (some (sa u)) s5 c5 d5 Q P := by
        intro u cd hc hu kE
        unfold M_sayFilters_b116 at kE
        unfold C_Rf_writeFilters_b98
        refine ⟨_, rfl, j1_c u cd hc hu h5 ht (by omega) fun s6 c6 d6 t6 e6 h6' => ?_⟩
        rw [e6, Option.bind_some] at kE
        refine h6'.page ox h222 ⟨_, rfl, j1_e h6' (by omega) fun s7 c7 d7 t7 e7 h7 => ?_⟩
        rw [e7, Option.bind_some] at kE
        exact kE _ rfl _ _ _ (h7.wk (by omega))
      by_cases c58 : t0.I 58 (64 * r + 32 * w + j) = 0
      · rw [if_pos c58] at kE
        exact ifT c58 (b98 24 264585 (by decide +kernel) (by decide) kE)
      · rw [if_neg c58] at kE
        exact ifF c58 (b98 23 1652373180 (by decide +kernel) (by decide) kE)
  exact loop n 0 s kc ks t (by omega) h k
end C6
