/-! Configuration: summaries, neighbors, defaults; both sides. -/
section C8
variable {G H : Nat → Nat → Nat} {sa : Nat → Nat} {pg k0 m0 m kc ks x r p q f : Nat} {s0 s : cS} {t0 t : moS} {Q : cS → Nat → Nat → Prop}
theorem j_nbr (hq : RQ G H sa x s0 t0) (hM : MV t0) (h222 : s0.P 222 x = some pg) (hr : r < cR t0) (hp : p < cI t0 r) (eq' : q = 4 * r + p) (h : J0 sa pg s0 k0 m0 t0 m s kc ks t) (hm : m + 700 ≤ 131000) (k : ∀ t', M_saySummaries_b70 t (nI q) (nI (4 * q)) = some t' → ∀ s' kc' ks', J0 sa pg s0 k0 m0 t0 (m + 439) s' kc' ks' t' → Q s' kc' ks') : C_Rf_writeExtras_b57 sa x (some (G 1 r)) (some (G 2 q)) 0 s kc ks Q := by
  have ox := hq.ox
  have ht := hq.tk
  have hN := hM.n
  have h6 := hM.nR
  have h4 := hM.nIf hr
  subst eq'
  obtain ⟨⟨k8, -⟩, -, -, ⟨-, -, -, -, i92, i93, i94, -⟩, -, nb, -⟩ := hq.po hr hp
  have hvi := (hM.r hr).i hp
  obtain ⟨-, -, -, -, -, -, -, -, -, -, -, -, -, -, -, m95, -, ⟨dm, e99, -, h99⟩, -⟩ := hvi
  obtain ⟨e95, -, h95⟩ := m95.n
  have o4 := okr k8 4
  have r91 := hq.ty.r k8 91 137 4
  generalize hn : (t0.I 95 (4 * r + p)).toNatClampNeg = n at *
  have e4 : (4 : Int32) * nI (4 * r + p) = nI (4 * (4 * r + p)) := by rw [show (4 : Int32) = nI 4 from rfl, pk_mul]
  unfold C_Rf_writeExtras_b57
  intro P hP
  have loop : ∀ d j (s : cS) (kc ks : Nat) (t : moS), j + d = n → J0 sa pg s0 k0 m0 t0 (m + 94 * j) s kc ks t → (∀ t', M_saySummaries_b70 t (nI (4 * r + p)) (nI (4 * (4 * r + p) + j)) = some t' → ∀ s' kc' ks', J0 sa pg s0 k0 m0 t0 (m + 439) s' kc' ks' t' → Q s' kc' ks') → P (nI j) s kc ks := by
    intro d
    induction d with
    | zero =>
      intro j s kc ks t hj h k
      apply hP
      unfold C_Rf_writeExtras_s57
      refine ⟨_, rfl, h.gI o4 (by decide) ?_⟩
      rw [show s0.I (20 * 4 + 12) (G 2 (4 * r + p)) = nI n from i92.trans e95]
      refine ifF (nI_nlt (by omega) (by omega)) (h.gI o4 (by decide) ?_)
      rw [show s0.I (20 * 4 + 13) (G 2 (4 * r + p)) = t0.I 99 (4 * r + p) from i93]
      have eX : M_saySummaries_b70 t (nI (4 * r + p)) (nI (4 * (4 * r + p) + j)) = Option.bind (rdI t 99 (nI (4 * r + p))) (fun x2 => (if x2 = 0 then ((some t)) else (Option.bind (M_beginAt t (16911458100 : Int64) (nI (4 * r + p))) (fun s3 => (Option.bind (rdI s3 99 (nI (4 * r + p))) (fun x4 => (Option.bind (M_wordNumber s3 x4) (fun s5 => (Option.bind (rdI s5 100 (nI (4 * r + p))) (fun x6 => (if x6 = 0 then ((M_saySummaries_b174 s5)) else (Option.bind (M_word s5 (982905 : Int64)) (fun s7 => ((M_saySummaries_b174 s7))))))))))))))) := by
        unfold M_saySummaries_b70
        refine lp_x ?_
        show M_saySummaries_s70 t (nI (4 * r + p)) (nI (4 * (4 * r + p) + j)) = _
        unfold M_saySummaries_s70
        rw [h.rI hN 95 24 (by omega), Option.bind_some, e95, e4, nI_add, if_neg (nI_nlt (by omega) (by omega))]
      rw [eX, h.rI hN 99 24 (by omega), Option.bind_some] at k
      by_cases c : t0.I 99 (4 * r + p) = 0
      · rw [if_pos c] at k
        exact ifF (by rw [c]; decide) (k t rfl s kc ks (h.wk (by omega)))
      · rw [if_neg c] at k
        have c' : 0 < t0.I 99 (4 * r + p) := by
          rw [e99] at c ⊢
          exact nI_lt (a := 0) (Nat.pos_of_ne_zero fun z => c (by rw [z]; rfl)) (by omega)
        refine ifT c' ?_
        refine j_bpl hq hM h222 hr hp 36 16911458100 (by decide +kernel) (by decide) h (by omega) fun t1 e1 s1 c1 d1 h1 => ?_
        rw [e1, Option.bind_some, h1.rI hN 99 24 (by omega), Option.bind_some] at k
        refine h1.page ox h222 (h1.gI o4 (by decide) ⟨_, rfl, ?_⟩)
        rw [show s0.I (20 * 4 + 13) (G 2 (4 * r + p)) = t0.I 99 (4 * r + p) from i93]
        refine j1_u _ h1 ht (by omega) fun s2 c2 d2 t2 e2 h2 => ?_
        rw [e2, Option.bind_some, h2.rI hN 100 24 (by omega), Option.bind_some] at k
        refine h2.gI o4 (by decide) ?_
        rw [show s0.I (20 * 4 + 14) (G 2 (4 * r + p)) = t0.I 100 (4 * r + p) from i94]
        have fin : ∀ {m : Nat} {s : cS} {kc ks : Nat} {t : moS}, J1 sa pg s0 k0 m0 t0 m s kc ks t → m + 40 ≤ 131000 → (∀ t', M_saySummaries_b174 t = some t' → ∀ s' kc' ks', J0 sa pg s0 k0 m0 t0 (m + 1) s' kc' ks' t' → Q s' kc' ks') → C_Rf_writeExtras_b154 sa x s kc ks Q := by
          intro m s kc ks t h hm k
          unfold M_saySummaries_b174 at k
          unfold C_Rf_writeExtras_b154
          refine h.page ox h222 ⟨_, rfl, j1_e h (by omega) fun s1 c1 d1 t1 e1 h1 => ?_⟩
          rw [e1, Option.bind_some] at k
          exact k _ rfl _ _ _ h1
        by_cases c0 : t0.I 100 (4 * r + p) = 0
        · rw [if_pos c0] at k
          exact ifT c0 (fin h2 (by omega) fun t' w s' kc' ks' hh => k t' w s' kc' ks' (hh.wk (by omega)))
        · rw [if_neg c0] at k
          refine ifF c0 (h2.page ox h222 ⟨_, rfl, j1_c 37 982905 (by decide +kernel) (by decide) h2 ht (by omega) fun s3 c3 d3 t3 e3 h3 => ?_⟩)
          rw [e3, Option.bind_some] at k
          exact fin h3 (by omega) fun t' w s' kc' ks' hh => k t' w s' kc' ks' (hh.wk (by omega))
    | succ d ih =>
      intro j s kc ks t hj h k
      have hj' : j < n := by omega
      obtain ⟨pp, pn, pq, pk, pf⟩ := nb j hj'
      apply hP
      unfold C_Rf_writeExtras_s57
      refine ⟨_, rfl, h.gI o4 (by decide) ?_⟩
      rw [show s0.I (20 * 4 + 12) (G 2 (4 * r + p)) = nI n from i92.trans e95]
      refine ifT (nI_lt (by omega) (by omega)) ?_
      have kE : ∀ t', M_saySummaries_s70 t (nI (4 * r + p)) (nI (4 * (4 * r + p) + j)) = some (.inl (nI (4 * (4 * r + p) + j) + 1, t')) → ∀ s' kc' ks', J0 sa pg s0 k0 m0 t0 (m + 94 * j + 94) s' kc' ks' t' → P (nI j + 1) s' kc' ks' := fun t' e s' kc' ks' h' => by
        rw [nI_1]
        refine ih (j + 1) s' kc' ks' t' (by omega) (h'.wk (by omega)) fun t2 e2 => k t2 (Eq.trans ?_ e2)
        rw [nI_1] at e
        unfold M_saySummaries_b70
        exact lp_l (f := fun x : Int32 × moS => M_saySummaries_s70 x.2 (nI (4 * r + p)) x.1) (x := (nI (4 * (4 * r + p) + j), t)) (y := (nI (4 * (4 * r + p) + (j + 1)), t')) e
      unfold M_saySummaries_s70 at kE
      rw [h.rI hN 95 24 (by omega), Option.bind_some, e95, e4, nI_add, if_pos (nI_lt (by omega) (by omega))] at kE
      refine j_bpl hq hM h222 hr hp 32 2315180035818 (by decide +kernel) (by decide) h (by omega) fun t1 e1 s1 c1 d1 h1 => ?_
      rw [e1, Option.bind_some] at kE
      refine h1.page ox h222 ⟨_, rfl, j1_h h1 ht (by omega) fun s2 c2 d2 h2 => ?_⟩
      refine h2.page ox h222 (h2.gP o4 (by decide) ⟨_, r91.1, h2.rQ r91.2 (by decide) (by decide) (by omega) (by decide) ⟨_, rfl, ?_⟩⟩)
      refine jh_a (p := pp) (fm := t0.I 96 (4 * (4 * r + p) + j)) (hi := t0.J 97 (4 * (4 * r + p) + j)) (lo := t0.J 98 (4 * (4 * r + p) + j)) pq (okr pk 5) ⟨pf.1, pf.2.1, pf.2.2.1⟩ h2 ht (by omega) fun s3 c3 d3 t3' t3 e3' e3 h3 => ?_
      have rd : ∀ g, g ∉ [7, 8, 16] ∧ g ∉ mG ∧ moN0 g = 96 → rdI t3' g (nI (4 * (4 * r + p) + j)) = some (t0.I g (4 * (4 * r + p) + j)) ∧ rdJ t3' g (nI (4 * (4 * r + p) + j)) = some (t0.J g (4 * (4 * r + p) + j)) := fun g hg => by
        obtain ⟨l, -, hd, hl, -⟩ := h2
        obtain ⟨t9, e9, hd9⟩ := dd_space hd (by omega)
        rw [e3'] at e9
        cases e9
        exact ⟨hd9.rI hN g 96 (by omega) hg, hd9.rJ hN g 96 (by omega) hg⟩
      rw [e3', Option.bind_some, (rd 96 (by decide +kernel)).1, Option.bind_some, (rd 97 (by decide +kernel)).2, Option.bind_some, (rd 98 (by decide +kernel)).2, Option.bind_some, e3, Option.bind_some] at kE
      refine h3.page ox h222 ⟨_, rfl, j1_e h3 (by omega) fun s4 c4 d4 t4 e4' h4' => ?_⟩
      rw [e4', Option.bind_some] at kE
      exact kE _ rfl _ _ _ (h4'.wk (by omega))
  exact loop n 0 s kc ks t (by omega) h k
theorem j_extras (hq : RQ G H sa x s0 t0) (hM : MV t0) (h222 : s0.P 222 x = some pg) (hr : r < cR t0) (hp : p < cI t0 r) (eq' : q = 4 * r + p) (h : J0 sa pg s0 k0 m0 t0 m s kc ks t) (hm : m + 1300 ≤ 131000) (k : ∀ t', M_saySummaries t (nI q) = some t' → ∀ s' kc' ks', J0 sa pg s0 k0 m0 t0 (m + 815) s' kc' ks' t' → Q s' kc' ks') : C_Rf_writeExtras sa x (some (G 1 r)) (some (G 2 q)) s kc ks Q := by
  have ox := hq.ox
  have ht := hq.tk
  have hN := hM.n
  have h6 := hM.nR
  have h4 := hM.nIf hr
  subst eq'
  obtain ⟨⟨k8, -⟩, -, -, ⟨-, -, -, i88, -⟩, sm, -⟩ := hq.po hr hp
  have hvi := (hM.r hr).i hp
  obtain ⟨-, -, -, -, -, -, -, -, -, -, -, -, -, m90, -⟩ := hvi
  obtain ⟨e90, -, h90⟩ := m90.n
  have o4 := okr k8 4
  have r87 := hq.ty.r k8 87 136 4
  generalize hn : (t0.I 90 (4 * r + p)).toNatClampNeg = n at *
  have e4 : (4 : Int32) * nI (4 * r + p) = nI (4 * (4 * r + p)) := by rw [show (4 : Int32) = nI 4 from rfl, pk_mul]
  unfold M_saySummaries at k
  rw [e4] at k
  unfold C_Rf_writeExtras C_Rf_writeExtras_b2
  intro P hP
  have loop : ∀ d j (s : cS) (kc ks : Nat) (t : moS), j + d = n → J0 sa pg s0 k0 m0 t0 (m + 94 * j) s kc ks t → (∀ t', M_saySummaries_b4 t (nI (4 * r + p)) (nI (4 * (4 * r + p) + j)) = some t' → ∀ s' kc' ks', J0 sa pg s0 k0 m0 t0 (m + 815) s' kc' ks' t' → Q s' kc' ks') → P (nI j) s kc ks := by
    intro d
    induction d with
    | zero =>
      intro j s kc ks t hj h k
      apply hP
      unfold C_Rf_writeExtras_s2
      refine ⟨_, rfl, h.gI o4 (by decide) ?_⟩
      rw [show s0.I (20 * 4 + 8) (G 2 (4 * r + p)) = nI n from i88.trans e90]
      refine ifF (nI_nlt (by omega) (by omega)) ?_
      refine j_nbr hq hM h222 hr hp rfl h (by omega) fun t' w s' kc' ks' hh => k t' (Eq.trans ?_ w) s' kc' ks' (hh.wk (by omega))
      unfold M_saySummaries_b4
      refine lp_x ?_
      show M_saySummaries_s4 t (nI (4 * r + p)) (nI (4 * (4 * r + p) + j)) = _
      unfold M_saySummaries_s4
      rw [h.rI hN 90 24 (by omega), Option.bind_some, e90, e4, nI_add, if_neg (nI_nlt (by omega) (by omega))]
    | succ d ih =>
      intro j s kc ks t hj h k
      have hj' : j < n := by omega
      obtain ⟨pp, pq, pk, pf⟩ := sm j hj'
      apply hP
      unfold C_Rf_writeExtras_s2
      refine ⟨_, rfl, h.gI o4 (by decide) ?_⟩
      rw [show s0.I (20 * 4 + 8) (G 2 (4 * r + p)) = nI n from i88.trans e90]
      refine ifT (nI_lt (by omega) (by omega)) ?_
      have kE : ∀ t', M_saySummaries_s4 t (nI (4 * r + p)) (nI (4 * (4 * r + p) + j)) = some (.inl (nI (4 * (4 * r + p) + j) + 1, t')) → ∀ s' kc' ks', J0 sa pg s0 k0 m0 t0 (m + 94 * j + 94) s' kc' ks' t' → P (nI j + 1) s' kc' ks' := fun t' e s' kc' ks' h' => by
        rw [nI_1]
        refine ih (j + 1) s' kc' ks' t' (by omega) (h'.wk (by omega)) fun t2 e2 => k t2 (Eq.trans ?_ e2)
        rw [nI_1] at e
        unfold M_saySummaries_b4
        exact lp_l (f := fun x : Int32 × moS => M_saySummaries_s4 x.2 (nI (4 * r + p)) x.1) (x := (nI (4 * (4 * r + p) + j), t)) (y := (nI (4 * (4 * r + p) + (j + 1)), t')) e
      unfold M_saySummaries_s4 at kE
      rw [h.rI hN 90 24 (by omega), Option.bind_some, e90, e4, nI_add, if_pos (nI_lt (by omega) (by omega))] at kE
      refine j_bpl hq hM h222 hr hp 31 80008514345 (by decide +kernel) (by decide) h (by omega) fun t1 e1 s1 c1 d1 h1 => ?_
      rw [e1, Option.bind_some] at kE
      refine h1.page ox h222 ⟨_, rfl, j1_h h1 ht (by omega) fun s2 c2 d2 h2 => ?_⟩
      refine h2.page ox h222 (h2.gP o4 (by decide) ⟨_, r87.1, h2.rQ r87.2 (by decide) (by decide) (by omega) (by decide) ⟨_, rfl, ?_⟩⟩)
      rw [h2.rI hN 91 96 (by omega), Option.bind_some, h2.rJ hN 92 96 (by omega), Option.bind_some, h2.rJ hN 93 96 (by omega), Option.bind_some, h2.rI hN 94 96 (by omega), Option.bind_some] at kE
      refine jh_p (p := pp) pq (okr pk 5) pf h2 ht (by omega) fun s3 c3 d3 t3 e3 h3 => ?_
      rw [e3, Option.bind_some] at kE
      refine h3.page ox h222 ⟨_, rfl, j1_e h3 (by omega) fun s4 c4 d4 t4 e4' h4' => ?_⟩
      rw [e4', Option.bind_some] at kE
      exact kE _ rfl _ _ _ (h4'.wk (by omega))
  exact loop n 0 s kc ks t (by omega) h k
end C8
