/-! Configuration: keys, shares; both sides. -/
section C5
variable {G H : Nat → Nat → Nat} {sa : Nat → Nat} {pg k0 m0 m kc ks x r p q f : Nat} {s0 s : cS} {t0 t : moS} {Q : cS → Nat → Nat → Prop} {P8 : Int32 → cS → Nat → Nat → Prop} {p1 p2 : Option Nat}
theorem sy_138 (hN : mN t0) {y : Nat} (hy : y < 96) {n : Nat} (e85 : t0.I 85 y = nI n) (hn : n ≤ 16) {q' : Int32} : ∀ d i t t', i + d = n → sy t0 (fun i => t0.I 86 (16 * y + i)) i d t t' → (∃ l, DD [7, 8, 16] t0 t' l) → M_sayJoins_b138 t q' (nI y) (nI i) = Option.bind (rdI t' 87 (nI y)) (fun x2 => (Option.bind (M_wordNumber t' x2) (fun s3 => (Option.bind (rdI s3 88 (nI y)) (fun x4 => (Option.bind (M_wordNumber s3 x4) (fun s5 => (Option.bind (M_say s5 (10 : Int32)) (fun s6 => ((some (.inl ((nI y + (1 : Int32)), s6)))))))))))))
  | 0, i, t, t', hi, h, hd => by
    have h : t = t' := h
    subst h
    obtain ⟨l, hd⟩ := hd
    unfold M_sayJoins_b138
    refine lp_x ?_
    show M_sayJoins_s138 t q' (nI y) (nI i) = _
    unfold M_sayJoins_s138
    rw [hd.rI hN 85 96 hy, Option.bind_some, e85, if_neg (nI_nlt (by omega) (by omega))]
  | d + 1, i, t, t', hi, h, hd => by
    obtain ⟨⟨l, hl⟩, u, e, h⟩ := h
    have ih := sy_138 hN hy e85 hn (q' := q') d (i + 1) u t' (by omega) h hd
    unfold M_sayJoins_b138 at ih ⊢
    refine Eq.trans (lp_l (f := fun x : Int32 × moS => M_sayJoins_s138 x.2 q' (nI y) x.1) (x := (nI i, t)) (y := (nI (i + 1), u)) ?_) ih
    show M_sayJoins_s138 t q' (nI y) (nI i) = _
    unfold M_sayJoins_s138
    rw [hl.rI hN 85 96 hy, Option.bind_some, e85, if_pos (nI_lt (by omega) (by omega)), show (16 : Int32) * nI y + nI i = nI (16 * y + i) by rw [show (16 : Int32) = nI 16 from rfl, pk_mul, nI_add], hl.rI hN 86 1536 (by omega), Option.bind_some, e, Option.bind_some, nI_1]
theorem j_keys (hq : RQ G H sa x s0 t0) (hM : MV t0) (h222 : s0.P 222 x = some pg) (hr : r < cR t0) (hp : p < cI t0 r) (eq' : q = 4 * r + p) (h : J0 sa pg s0 k0 m0 t0 m s kc ks t) (hm : m + 800 ≤ 131000) (k : ∀ t', M_sayJoins_b67 t (nI q) (nI (4 * q)) = some t' → ∀ s' kc' ks', J0 sa pg s0 k0 m0 t0 (m + 408) s' kc' ks' t' → Q s' kc' ks') : C_Rf_writeKeys sa x (some (G 1 r)) (some (G 2 q)) s kc ks Q := by
  have ox := hq.ox
  have ht := hq.tk
  have hN := hM.n
  have h6 := hM.nR
  have h4 := hM.nIf hr
  subst eq'
  obtain ⟨⟨k8, -⟩, -, -, -, -, -, ⟨-, i22, ch3, ch4, -, -⟩, -⟩ := hq.po hr hp
  have hvi := (hM.r hr).i hp
  obtain ⟨-, -, -, -, -, -, -, -, -, -, m82, m79, mk, -⟩ := hvi
  obtain ⟨e82, -, h82⟩ := m82.n
  have p86 := hq.ty.p k8 86 4
  have o1 := okr p86.2 1
  have r23 := hq.ty.r p86.2 23 109 4
  have r24 := hq.ty.r p86.2 24 110 4
  have r25 := hq.ty.r p86.2 25 111 4
  have r26 := hq.ty.r p86.2 26 112 4
  have r27 := hq.ty.r p86.2 27 142 4
  generalize hn : (t0.I 82 (4 * r + p)).toNatClampNeg = n at *
  have e4 : (4 : Int32) * nI (4 * r + p) = nI (4 * (4 * r + p)) := by rw [show (4 : Int32) = nI 4 from rfl, pk_mul]
  unfold C_Rf_writeKeys
  refine ⟨_, rfl, h.gP (okr k8 4) (by decide) ?_⟩
  rw [show s0.P (20 * 4 + 6) (G 2 (4 * r + p)) = some (H 86 (G 2 (4 * r + p))) from p86.1]
  unfold C_Rf_writeKeys_b8
  intro P hP
  have loop : ∀ d j (s : cS) (kc ks : Nat) (t : moS), j + d = n → J0 sa pg s0 k0 m0 t0 (m + 102 * j) s kc ks t → (∀ t', M_sayJoins_b67 t (nI (4 * r + p)) (nI (4 * (4 * r + p) + j)) = some t' → ∀ s' kc' ks', J0 sa pg s0 k0 m0 t0 (m + 408) s' kc' ks' t' → Q s' kc' ks') → P (nI j) s kc ks := by
    intro d
    induction d with
    | zero =>
      intro j s kc ks t hj h k
      apply hP
      unfold C_Rf_writeKeys_s8
      refine ⟨_, rfl, h.gI o1 (by decide) ?_⟩
      rw [show s0.I (20 * 1 + 2) (H 86 (G 2 (4 * r + p))) = nI n from i22.trans e82]
      refine ifF (nI_nlt (by omega) (by omega)) (k t ?_ s kc ks (h.wk (by omega)))
      unfold M_sayJoins_b67
      refine lp_x ?_
      show M_sayJoins_s67 t (nI (4 * r + p)) (nI (4 * (4 * r + p) + j)) = _
      unfold M_sayJoins_s67
      rw [h.rI hN 82 24 (by omega), Option.bind_some, e82, e4, nI_add, if_neg (nI_nlt (by omega) (by omega))]
    | succ d ih =>
      intro j s kc ks t hj h k
      have hj' : j < n := by omega
      obtain ⟨c1, c2, c3, c4, rs⟩ := ch3 j hj'
      obtain ⟨q8, k8'⟩ := ch4 j (by omega)
      obtain ⟨-, -, ⟨sz, esz, hs1, hs2⟩, -⟩ := mk j hj'
      have ecl : (t0.I 85 (4 * (4 * r + p) + j)).toNatClampNeg = sz := by rw [esz, nI_clamp (by omega)]
      rw [ecl] at rs
      have h79 : t0.I 79 (4 * r + p) = 2 := m79.2 (by omega)
      apply hP
      unfold C_Rf_writeKeys_s8
      refine ⟨_, rfl, h.gI o1 (by decide) ?_⟩
      rw [show s0.I (20 * 1 + 2) (H 86 (G 2 (4 * r + p))) = nI n from i22.trans e82]
      refine ifT (nI_lt (by omega) (by omega)) ?_
      have kE : ∀ t', M_sayJoins_s67 t (nI (4 * r + p)) (nI (4 * (4 * r + p) + j)) = some (.inl (nI (4 * (4 * r + p) + j) + 1, t')) → ∀ s' kc' ks', J0 sa pg s0 k0 m0 t0 (m + 102 * j + 102) s' kc' ks' t' → P (nI j + 1) s' kc' ks' := fun t' e s' kc' ks' h' => by
        rw [nI_1]
        refine ih (j + 1) s' kc' ks' t' (by omega) (h'.wk (by omega)) fun t2 e2 => k t2 (Eq.trans ?_ e2)
        rw [nI_1] at e
        unfold M_sayJoins_b67
        exact lp_l (f := fun x : Int32 × moS => M_sayJoins_s67 x.2 (nI (4 * r + p)) x.1) (x := (nI (4 * (4 * r + p) + j), t)) (y := (nI (4 * (4 * r + p) + (j + 1)), t')) e
      unfold M_sayJoins_s67 at kE
      rw [h.rI hN 82 24 (by omega), Option.bind_some, e82, e4, nI_add, if_pos (nI_lt (by omega) (by omega)), h.rI hN 79 24 (by omega), Option.bind_some, if_pos h79] at kE
      refine j_bpl hq hM h222 hr hp 15 17825 (by decide +kernel) (by decide) h (by omega) fun t1 e1 s1 cc1 d1 h1 => ?_
      rw [e1, Option.bind_some, h1.rI hN 83 96 (by omega), Option.bind_some] at kE
      refine h1.page ox h222 (h1.gP o1 (by decide) ⟨_, r23.1, h1.rE r23.2 (by decide) (by decide) (by omega) (by decide) ⟨_, rfl, ?_⟩⟩)
      rw [c1]
      refine j1_u _ h1 ht (by omega) fun s2 cc2 d2 t2 e2 h2 => ?_
      rw [e2, Option.bind_some, h2.rI hN 84 96 (by omega), Option.bind_some] at kE
      refine h2.page ox h222 (h2.gP o1 (by decide) ⟨_, r24.1, h2.rE r24.2 (by decide) (by decide) (by omega) (by decide) ?_⟩)
      rw [c2]
      have b65 : ∀ u cd, (u < 48 ∧ u ≠ 39 ∧ u ≠ 42 ∧ cdL (cT u) = cd) → u ≠ 3 → (∀ t', M_sayJoins_b128 t2 (nI (4 * r + p)) (nI (4 * (4 * r + p) + j)) cd = some (.inl (nI (4 * (4 * r + p) + j) + 1, t')) → ∀ s' kc' ks', J0 sa pg s0 k0 m0 t0 (m + 102 * j + 102) s' kc' ks' t' → P (nI j + 1) s' kc' ks') → C_Rf_writeKeys_b65 sa x (some (G 1 r)) (some (G 2 (4 * r + p))) (some (H 86 (G 2 (4 * r + p)))) (nI j) (some pg) (some (sa u)) s2 cc2 d2 Q P := by
        intro u cd hc hu kE
        unfold M_sayJoins_b128 at kE
        unfold C_Rf_writeKeys_b65
        refine ⟨_, rfl, j1_c u cd hc hu h2 ht (by omega) fun s3 cc3 d3 t3 e3 h3 => ?_⟩
        rw [e3, Option.bind_some] at kE
        refine h3.page ox h222 ⟨_, rfl, j1_h h3 ht (by omega) fun s4 cc4 d4 h4' => ?_⟩
        refine h4'.page ox h222 ⟨_, rfl, h4'.gP o1 (by decide) ⟨_, r27.1, h4'.rQ r27.2 (by decide) (by decide) (by omega) (by decide) ⟨_, rfl, ?_⟩⟩⟩
        refine jh_s (p := G 8 (4 * (4 * r + p) + j)) (u := 126) (n := sz) (g := fun i => t0.I 86 (16 * (4 * (4 * r + p) + j) + i)) q8 k8' (by decide) rs hs1 h4' (by omega) fun s5 cc5 d5 t5 t6 e5 y6 h6' => ?_
        rw [e5, Option.bind_some, show M_sayJoins_b138 t5 (nI (4 * r + p)) (nI (4 * (4 * r + p) + j)) 0 = _ from sy_138 hN (by omega) esz hs2 sz 0 t5 t6 (by omega) y6 (by obtain ⟨l, -, hd, -⟩ := h6'; exact ⟨l, hd⟩), h6'.rI hN 87 96 (by omega), Option.bind_some] at kE
        refine h6'.page ox h222 (h6'.gP o1 (by decide) ⟨_, r25.1, h6'.rE r25.2 (by decide) (by decide) (by omega) (by decide) ⟨_, rfl, ?_⟩⟩)
        rw [c3]
        refine j1_u _ h6' ht (by omega) fun s7 cc7 d7 t7 e7 h7 => ?_
        rw [e7, Option.bind_some, h7.rI hN 88 96 (by omega), Option.bind_some] at kE
        refine h7.page ox h222 (h7.gP o1 (by decide) ⟨_, r26.1, h7.rE r26.2 (by decide) (by decide) (by omega) (by decide) ⟨_, rfl, ?_⟩⟩)
        rw [c4]
        refine j1_u _ h7 ht (by omega) fun s8 cc8 d8 t8 e8 h8 => ?_
        rw [e8, Option.bind_some] at kE
        refine h8.page ox h222 ⟨_, rfl, j1_e h8 (by omega) fun s9 cc9 d9 t9 e9 h9 => ?_⟩
        rw [e9, Option.bind_some] at kE
        exact kE _ rfl _ _ _ (h9.wk (by omega))
      by_cases c84 : t0.I 84 (4 * (4 * r + p) + j) = 0
      · rw [if_pos c84] at kE ⊢
        exact ifT rfl (b65 9 20992 (by decide +kernel) (by decide) kE)
      · rw [if_neg c84] at kE ⊢
        exact ifF (by decide) (b65 10 30721 (by decide +kernel) (by decide) kE)
  exact loop n 0 s kc ks t (by omega) h k
end C5
