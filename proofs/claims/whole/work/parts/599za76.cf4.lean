/-! Configuration: an interface's addresses and keys, both sides. -/
section C4
variable {G H : Nat → Nat → Nat} {sa : Nat → Nat} {pg k0 m0 m kc ks x r p q f : Nat} {s0 s : cS} {t0 t : moS} {Q : cS → Nat → Nat → Prop} {P5 : Int32 → Int32 → cS → Nat → Nat → Prop} {a4 : Int32} {p1 p2 : Option Nat}
theorem j_166 (hq : RQ G H sa x s0 t0) (h222 : s0.P 222 x = some pg) (h : J1 sa pg s0 k0 m0 t0 m s kc ks t) (hm : m + 40 ≤ 131000) (k : ∀ t', M_sayJoins_b49 t (nI q) (nI (2 * q + f)) = some (.inl (0, nI (2 * q + f) + 1, t')) → ∀ s' kc' ks', J0 sa pg s0 k0 m0 t0 (m + 1) s' kc' ks' t' → P5 0 (a4 + 2) s' kc' ks') : C_Rf_writeJoins_b166 sa x p1 p2 a4 s kc ks Q P5 := by
  have ox := hq.ox
  unfold M_sayJoins_b49 at k
  unfold C_Rf_writeJoins_b166
  refine h.page ox h222 ⟨_, rfl, j1_e h (by omega) fun s1 c1 d1 t1 e1 h1 => ?_⟩
  rw [e1, Option.bind_some] at k
  exact k _ rfl _ _ _ h1
theorem j_149 (hq : RQ G H sa x s0 t0) (hM : MV t0) (h222 : s0.P 222 x = some pg) (hr : r < cR t0) (hp : p < cI t0 r) (eq' : q = 4 * r + p) (h : J1 sa pg s0 k0 m0 t0 m s kc ks t) (hm : m + 60 ≤ 131000) (k : ∀ t', Option.bind (M_sayOptions_b88 t (nI q)) (fun s4 => M_sayJoins_b49 s4 (nI q) (nI (2 * q + f))) = some (.inl (0, nI (2 * q + f) + 1, t')) → ∀ s' kc' ks', J0 sa pg s0 k0 m0 t0 (m + 20) s' kc' ks' t' → P5 0 (a4 + 2) s' kc' ks') : C_Rf_writeJoins_b149 sa x p1 (some (G 2 q)) a4 s kc ks Q P5 := by
  have ox := hq.ox
  have ht := hq.tk
  have hN := hM.n
  have h6 := hM.nR
  have h4 := hM.nIf hr
  subst eq'
  obtain ⟨⟨k8, -⟩, -, -, ⟨-, -, i85, -⟩, -⟩ := hq.po hr hp
  unfold M_sayOptions_b88 at k
  rw [h.rI hN 74 24 (by omega), Option.bind_some] at k
  unfold C_Rf_writeJoins_b149
  refine ⟨_, rfl, h.gI (okr k8 4) (by decide) ?_⟩
  rw [show s0.I (20 * 4 + 5) (G 2 (4 * r + p)) = t0.I 74 (4 * r + p) from i85]
  by_cases c : t0.I 74 (4 * r + p) = 0
  · rw [if_pos c, Option.bind_some] at k
    exact ifT c (j_166 hq h222 h (by omega) fun t' w s' kc' ks' hh => k t' w s' kc' ks' (hh.wk (by omega)))
  · rw [if_neg c] at k
    refine ifF c (h.page ox h222 ⟨_, rfl, j1_c 11 65688271285 (by decide +kernel) (by decide) h ht (by omega) fun s1 c1 d1 t1 e1 h1 => ?_⟩)
    rw [e1, Option.bind_some, Option.bind_some] at k
    exact j_166 hq h222 h1 (by omega) fun t' w s' kc' ks' hh => k t' w s' kc' ks' (hh.wk (by omega))
theorem sy_57 (hN : mN t0) (hq24 : q < 24) {n : Nat} (e80 : t0.I 80 q = nI n) (hn : n ≤ 16) : ∀ d i t t', i + d = n → sy t0 (fun i => t0.I 81 (16 * q + i)) i d t t' → (∃ l, DD [7, 8, 16] t0 t' l) → M_sayOptions_b57 t (nI q) (nI i) = M_sayOptions_b88 t' (nI q)
  | 0, i, t, t', hi, h, hd => by
    have h : t = t' := h
    subst h
    obtain ⟨l, hd⟩ := hd
    unfold M_sayOptions_b57
    refine lp_x ?_
    show M_sayOptions_s57 t (nI q) (nI i) = _
    unfold M_sayOptions_s57
    rw [hd.rI hN 80 24 hq24, Option.bind_some, e80, if_neg (nI_nlt (by omega) (by omega))]
  | d + 1, i, t, t', hi, h, hd => by
    obtain ⟨⟨l, hl⟩, u, e, h⟩ := h
    have ih := sy_57 hN hq24 e80 hn d (i + 1) u t' (by omega) h hd
    unfold M_sayOptions_b57 at ih ⊢
    refine Eq.trans (lp_l (f := fun x : Int32 × moS => M_sayOptions_s57 x.2 (nI q) x.1) (x := (nI i, t)) (y := (nI (i + 1), u)) ?_) ih
    show M_sayOptions_s57 t (nI q) (nI i) = _
    unfold M_sayOptions_s57
    rw [hl.rI hN 80 24 hq24, Option.bind_some, e80, if_pos (nI_lt (by omega) (by omega)), show (16 : Int32) * nI q + nI i = nI (16 * q + i) by rw [show (16 : Int32) = nI 16 from rfl, pk_mul, nI_add], hl.rI hN 81 384 (by omega), Option.bind_some, e, Option.bind_some, nI_1]
theorem j_join1 (hq : RQ G H sa x s0 t0) (hM : MV t0) (h222 : s0.P 222 x = some pg) (hr : r < cR t0) (hp : p < cI t0 r) (eq' : q = 4 * r + p) (hf : f < 2) {a : Int32} (h : J0 sa pg s0 k0 m0 t0 m s kc ks t) (hm : m + 300 ≤ 131000) (k : ∀ t' a', M_sayJoins_s6 t (nI q) a (nI (2 * q + f)) = some (.inl (a', nI (2 * q + f) + 1, t')) → ∀ s' kc' ks', J0 sa pg s0 k0 m0 t0 (m + 200) s' kc' ks' t' → P5 a' (nI (4 + 2 * f) + 2) s' kc' ks') : C_Rf_writeJoins_s5 sa x (some (G 1 r)) (some (G 2 q)) a (nI (4 + 2 * f)) s kc ks Q P5 := by
  have ox := hq.ox
  have ht := hq.tk
  have hN := hM.n
  have h6 := hM.nR
  have h4 := hM.nIf hr
  subst eq'
  have hpo := hq.po hr hp
  obtain ⟨⟨k8, -⟩, ad0, ad1, ⟨i83, i84, -⟩, -, -, ⟨ch1, -, -, -, ch5, -⟩, -⟩ := hpo
  have hvi := (hM.r hr).i hp
  obtain ⟨-, -, -, -, -, ⟨b75, b75'⟩, -, -, m79, m80, -⟩ := hvi
  have p86 := hq.ty.p k8 86 4
  have r21 := hq.ty.r p86.2 21 103 16
  have e2 : (2 : Int32) * nI (4 * r + p) + 2 = nI (2 * (4 * r + p) + 2) := by rw [show (2 : Int32) = nI 2 from rfl, pk_mul, nI_add]
  have rem : rem_I (nI (2 * (4 * r + p) + f)) 2 = nI f := rem2 _ _ hf (by omega)
  have ad : RAd G s0 t0 (4 * r + p) f := by
    rcases (show f = 0 ∨ f = 1 by omega) with rfl | rfl
    · exact ad0
    · exact ad1
  unfold M_sayJoins_s6 at k
  rw [e2, if_pos (nI_lt (by omega) (by omega)), h.rI hN 75 48 (by omega), Option.bind_some] at k
  unfold C_Rf_writeJoins_s5
  refine ifF (show ¬ (6 : Int32) < nI (4 + 2 * f) from nI_nlt (a := 6) (b := 4 + 2 * f) (by omega) (by omega)) ⟨_, rfl, h.gO (okr k8 4) (by decide), ?_⟩
  obtain ⟨l, hA, -⟩ := id h
  refine ap_ad hf hq k8 ad hA (fun c => ?_) (fun pa c kp pf => ?_)
  · rw [if_pos c] at k
    refine ifT rfl ?_
    unfold C_Rf_writeJoins_b175
    exact k t a rfl s kc ks (h.wk (by omega))
  · rw [if_neg (by rw [c]; decide)] at k
    refine ifF (by simp) ?_
    refine j_bpl hq hM h222 hr hp 5 664374 (by decide +kernel) (by decide) h (by omega) fun t1 e1 s1 c1 d1 h1 => ?_
    rw [e1, Option.bind_some] at k
    refine h1.page ox h222 ⟨_, rfl, j1_h h1 ht (by omega) fun s2 c2 d2 h2 => ?_⟩
    unfold M_sayOwn at k
    rw [h2.rJ hN 76 48 (by omega), Option.bind_some, h2.rJ hN 77 48 (by omega), Option.bind_some, h2.rI hN 78 48 (by omega), Option.bind_some, rem] at k
    refine h2.page ox h222 ⟨_, rfl, jh_p (p := pa) rfl (okr kp 5) pf h2 ht (by omega) fun s3 c3 d3 t3 e3 h3 => ?_⟩
    rw [e3, Option.bind_some, Option.bind_some] at k
    by_cases ca : a = 0
    · rw [if_pos ca] at k
      exact ifT ca (j_166 hq h222 h3 (by omega) fun t' w s' kc' ks' hh => k t' 0 w s' kc' ks' (hh.wk (by omega)))
    rw [if_neg ca] at k
    refine ifF ca ?_
    unfold M_sayOptions at k
    refine h3.page ox h222 ⟨_, rfl, j1_c 6 216780 (by decide +kernel) (by decide) h3 ht (by omega) fun s4 c4 d4 t4 e4 h4 => ?_⟩
    rw [e4, Option.bind_some, h4.rI hN 72 24 (by omega), Option.bind_some] at k
    refine h4.page ox h222 (h4.gI (okr k8 4) (by decide) ⟨_, rfl, ?_⟩)
    rw [show s0.I (20 * 4 + 3) (G 2 (4 * r + p)) = t0.I 72 (4 * r + p) from i83]
    refine j1_u (t0.I 72 (4 * r + p)) h4 ht (by omega) fun s5 c5 d5 t5 e5 h5 => ?_
    rw [e5, Option.bind_some] at k
    refine h5.page ox h222 ⟨_, rfl, j1_c 7 49683580 (by decide +kernel) (by decide) h5 ht (by omega) fun s6 c6 d6 t6 e6 h6' => ?_⟩
    rw [e6, Option.bind_some, h6'.rJ hN 73 24 (by omega), Option.bind_some] at k
    refine h6'.page ox h222 (h6'.gI (okr k8 4) (by decide) ?_)
    rw [show s0.I (20 * 4 + 4) (G 2 (4 * r + p)) = s0.I 84 (G 2 (4 * r + p)) from rfl]
    obtain ⟨n, hn, hn3, hsp⟩ : ∃ n, (n < 48 ∧ n ≠ 39 ∧ n ≠ 42 ∧ cdL (cT n) = t0.J 73 (4 * r + p)) ∧ n ≠ 3 ∧ ∀ Q' : Option Nat → cS → Nat → Nat → Prop, Q' (some (sa n)) s6 c6 d6 → C_Rf_splitWord sa (s0.I 84 (G 2 (4 * r + p))) s6 c6 d6 Q' := by
      unfold C_Rf_splitWord
      rcases i84 with ⟨z1, z2⟩ | ⟨z1, z2⟩ | ⟨z1, z2⟩
      · exact ⟨12, by rw [z2]; decide +kernel, by decide, fun Q' h => ifT z1 h⟩
      · exact ⟨13, by rw [z2]; decide +kernel, by decide, fun Q' h => ifF (by rw [z1]; decide) (ifT z1 h)⟩
      · exact ⟨14, by rw [z2]; decide +kernel, by decide, fun Q' h => ifF (by rw [z1]; decide) (ifF (by rw [z1]; decide) h)⟩
    refine hsp _ ?_
    refine ⟨_, rfl, j1_c n (t0.J 73 (4 * r + p)) hn hn3 h6' ht (by omega) fun s7 c7 d7 t7 e7 h7 => ?_⟩
    rw [e7, Option.bind_some, h7.rI hN 79 24 (by omega), Option.bind_some] at k
    refine h7.gP (okr k8 4) (by decide) ⟨_, p86.1, h7.gI (okr p86.2 1) (by decide) ?_⟩
    rw [show s0.I (20 * 1 + 0) (H 86 (G 2 (4 * r + p))) = (if t0.I 79 (4 * r + p) = 1 then 1 else 0) from ch1]
    by_cases c1' : t0.I 79 (4 * r + p) = 1
    · rw [if_pos c1'] at k ⊢
      refine ifF (by decide) (h7.page ox h222 ⟨_, rfl, j1_c 8 2627531736724 (by decide +kernel) (by decide) h7 ht (by omega) fun s8 c8 d8 t8 e8 h8 => ?_⟩)
      rw [e8, Option.bind_some] at k
      refine h8.page ox h222 ⟨_, rfl, j1_h h8 ht (by omega) fun s9 c9 d9 h9 => ?_⟩
      obtain ⟨sz, esz, hs1, hs2⟩ := m80 c1'
      have ecl : (t0.I 80 (4 * r + p)).toNatClampNeg = sz := by rw [esz, nI_clamp (by omega)]
      have rs := ch5 c1'
      rw [ecl] at rs
      refine h9.page ox h222 (h9.gP (okr k8 4) (by decide) ⟨_, p86.1, h9.gP (okr p86.2 1) (by decide) ⟨_, rfl, ?_⟩⟩)
      refine jh_s (p := H 21 (H 86 (G 2 (4 * r + p)))) (u := 103) (n := sz) (g := fun i => t0.I 81 (16 * (4 * r + p) + i)) r21.1 r21.2 (by decide) rs hs1 h9 (by omega) fun s10 c10 d10 t10 t11 e10 y11 h11 => ?_
      rw [e10, Option.bind_some, show M_sayOptions_b57 t10 (nI (4 * r + p)) 0 = M_sayOptions_b88 t11 (nI (4 * r + p)) from sy_57 hN (by omega) esz hs2 sz 0 t10 t11 (by omega) y11 (by obtain ⟨l, -, hd, -⟩ := h11; exact ⟨l, hd⟩)] at k
      exact j_149 hq hM h222 hr hp rfl h11 (by omega) fun t' w s' kc' ks' hh => k t' 0 w s' kc' ks' (hh.wk (by omega))
    · rw [if_neg c1'] at k ⊢
      exact ifT rfl (j_149 hq hM h222 hr hp rfl h7 (by omega) fun t' w s' kc' ks' hh => k t' 0 w s' kc' ks' (hh.wk (by omega)))
theorem j_joins (hq : RQ G H sa x s0 t0) (hM : MV t0) (h222 : s0.P 222 x = some pg) (hr : r < cR t0) (hp : p < cI t0 r) (eq' : q = 4 * r + p) (h : J0 sa pg s0 k0 m0 t0 m s kc ks t) (hm : m + 600 ≤ 131000) (k : ∀ t', M_sayJoins t (nI q) = M_sayJoins_b67 t' (nI q) (nI (4 * q)) → ∀ s' kc' ks', J0 sa pg s0 k0 m0 t0 (m + 400) s' kc' ks' t' → Q s' kc' ks') : C_Rf_writeJoins sa x (some (G 1 r)) (some (G 2 q)) s kc ks Q := by
  have h6 := hM.nR
  have h4 := hM.nIf hr
  unfold C_Rf_writeJoins C_Rf_writeJoins_b5
  intro P hP
  have e2 : (2 : Int32) * nI q = nI (2 * q) := by rw [show (2 : Int32) = nI 2 from rfl, pk_mul]
  have step : ∀ {t u : moS} {a a' : Int32} {i j : Nat}, M_sayJoins_s6 t (nI q) a (nI i) = some (.inl (a', nI j, u)) → M_sayJoins_b6 t (nI q) a (nI i) = M_sayJoins_b6 u (nI q) a' (nI j) := fun {t u a a' i j} e => by
    unfold M_sayJoins_b6
    exact lp_l (f := fun x : Int32 × Int32 × moS => M_sayJoins_s6 x.2.2 (nI q) x.1 x.2.1) (x := (a, nI i, t)) (y := (a', nI j, u)) e
  refine hP _ _ _ _ _ (j_join1 (f := 0) (q := q) (a := 1) hq hM h222 hr hp eq' (by decide) h (by omega) fun t1 a1 e1 s1 c1 d1 h1 => ?_)
  refine hP _ _ _ _ _ ?_
  rw [show nI (4 + 2 * 0) + 2 = nI (4 + 2 * 1) from rfl]
  refine j_join1 (f := 1) (q := q) (a := a1) hq hM h222 hr hp eq' (by decide) h1 (by omega) fun t2 a2 e2' s2 c2 d2 h2 => ?_
  refine hP _ _ _ _ _ ?_
  unfold C_Rf_writeJoins_s5
  refine ifT (by decide) (k t2 ?_ s2 c2 d2 (h2.wk (by omega)))
  rw [nI_1] at e1 e2'
  unfold M_sayJoins
  rw [e2]
  refine (step e1).trans ((step e2').trans ?_)
  unfold M_sayJoins_b6
  refine lp_x ?_
  show M_sayJoins_s6 t2 (nI q) a2 (nI (2 * q + 1 + 1)) = _
  unfold M_sayJoins_s6
  rw [e2, show (2 : Int32) = nI 2 from rfl, nI_add, if_neg (nI_nlt (by omega) (by omega)), show (4 : Int32) = nI 4 from rfl, pk_mul]
end C4
