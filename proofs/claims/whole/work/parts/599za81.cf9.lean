/-! Configuration: static routes in their order; both sides. -/
theorem sm_one {f : Nat → Nat} {a : Nat} : ∀ n, sm (fun k => f k + if k = a then 1 else 0) n = sm f n + if a < n then 1 else 0
  | 0 => rfl
  | n + 1 => by
    show sm (fun k => f k + if k = a then 1 else 0) n + (f n + if n = a then 1 else 0) = sm f n + f n + if a < n + 1 then 1 else 0
    rw [sm_one n]
    by_cases c : n = a
    · rw [if_pos c, if_neg (by omega), if_pos (by omega)]
      omega
    · rw [if_neg c]
      by_cases c2 : a < n
      · rw [if_pos c2, if_pos (by omega)]
        omega
      · rw [if_neg c2, if_neg (by omega)]
        omega
/-- how many keys are ahead -/
def rkA (K : Nat → Nat) (n c : Nat) : Nat := sm (fun k => if K k < c then 1 else 0) n
theorem sm_z {f : Nat → Nat} : ∀ n, (∀ k, k < n → f k = 0) → sm f n = 0
  | 0, _ => rfl
  | n + 1, h => by
    show sm f n + f n = 0
    rw [sm_z n fun k hk => h k (by omega), h n (by omega)]
theorem rkA_le {K : Nat → Nat} {c : Nat} : ∀ n, rkA K n c ≤ n
  | 0 => Nat.le_refl _
  | n + 1 => by
    have := rkA_le (K := K) (c := c) n
    show rkA K n c + (if K n < c then 1 else 0) ≤ n + 1
    split <;> omega
theorem rkA_g {K g : Nat → Nat} {n : Nat} (hb : ∀ j, j < n → g j < n) (hm : ∀ i j, i < j → j < n → K (g i) < K (g j)) : ∀ j, j < n → rkA K n (K (g j)) = j := by
  have inj : ∀ i j, i < n → j < n → g i = g j → i = j := fun i j h1 h2 e => by
    rcases Nat.lt_trichotomy i j with c | c | c
    · have := hm i j c h2
      rw [e] at this
      omega
    · exact c
    · have := hm j i c h1
      rw [e] at this
      omega
  have sur := inj_sur n g hb inj
  intro j
  induction j with
  | zero =>
    intro hj
    refine sm_z n fun k hk => if_neg ?_
    obtain ⟨i, hi, rfl⟩ := sur k hk
    rcases Nat.eq_zero_or_pos i with rfl | c
    · omega
    · have := hm 0 i c hi
      omega
  | succ j ih =>
    intro hj
    have e := ih (by omega)
    have key : ∀ k, k < n → (if K k < K (g (j + 1)) then 1 else 0) = (if K k < K (g j) then 1 else 0) + if k = g j then 1 else 0 := fun k hk => by
      obtain ⟨i, hi, rfl⟩ := sur k hk
      have h1 := hm j (j + 1) (by omega) hj
      rcases Nat.lt_trichotomy i j with c | c | c
      · have h2 := hm i j c (by omega)
        rw [if_pos (by omega), if_pos h2, if_neg (fun z => by have := inj _ _ hi (by omega) z; omega)]
      · subst c
        rw [if_pos h1, if_neg (by omega), if_pos rfl]
      · have h2 : K (g (j + 1)) ≤ K (g i) := by
          rcases Nat.eq_or_lt_of_le (show j + 1 ≤ i by omega) with e' | e'
          · rw [← e']; exact Nat.le_refl _
          · exact Nat.le_of_lt (hm _ _ e' hi)
        rw [if_neg (by omega), if_neg (by omega), if_neg (fun z => by have := inj _ _ hi (by omega) z; omega)]
    show sm (fun k => if K k < K (g (j + 1)) then 1 else 0) n = j + 1
    rw [sm_e key, sm_one, if_pos (hb j (by omega))]
    show rkA K n (K (g j)) + 1 = j + 1
    rw [e]
section C9
variable {G H : Nat → Nat → Nat} {sa : Nat → Nat} {pg k0 m0 m kc ks x r p q f : Nat} {s0 s : cS} {t0 t : moS} {Q : cS → Nat → Nat → Prop}
/-- a static route's key -/
def kyT (t : moS) (r i : Nat) : Nat := kyV (t.I 47 (32 * r + i)) (t.J 48 (32 * r + i)) (t.J 49 (32 * r + i)) (t.I 50 (32 * r + i))
theorem m_ahOf (hM : MV t0) (hr : r < cR t0) {l : List Int32} (hD : DD [7, 8, 16] t0 t l) {i : Nat} (hi : i < (t0.I 46 r).toNatClampNeg) : M_aheadOf t (nI r) (nI (32 * r + i)) = some (nI (rkA (kyT t0 r) (t0.I 46 r).toNatClampNeg (kyT t0 r i))) := by
  have hN := hM.n
  have h6 := hM.nR
  obtain ⟨e46, -, h46⟩ := (hM.r hr).2.2.2.1.n
  have ok := (hM.r hr).2.2.2.2.1
  generalize (t0.I 46 r).toNatClampNeg = n at *
  have e32 : (32 : Int32) * nI r = nI (32 * r) := by rw [show (32 : Int32) = nI 32 from rfl, pk_mul]
  unfold M_aheadOf M_aheadOf_b8
  rw [e32]
  have loop : ∀ d k, k + d = n → lp (fun x : Int32 × Int32 => M_aheadOf_s8 t (nI r) (nI (32 * r + i)) x.1 x.2) (nI (rkA (kyT t0 r) k (kyT t0 r i)), nI (32 * r + k)) = some (nI (rkA (kyT t0 r) n (kyT t0 r i))) := by
    intro d
    induction d with
    | zero =>
      intro k hk
      have : k = n := by omega
      subst this
      refine lp_x ?_
      show M_aheadOf_s8 t (nI r) (nI (32 * r + i)) (nI (rkA (kyT t0 r) k (kyT t0 r i))) (nI (32 * r + k)) = _
      unfold M_aheadOf_s8
      rw [hD.rI hN 46 6 (by omega), Option.bind_some, e46, e32, nI_add, if_neg (nI_nlt (by omega) (by omega))]
    | succ d ih =>
      intro k hk
      refine Eq.trans (lp_l (f := fun x : Int32 × Int32 => M_aheadOf_s8 t (nI r) (nI (32 * r + i)) x.1 x.2) (x := (nI (rkA (kyT t0 r) k (kyT t0 r i)), nI (32 * r + k))) (y := (nI (rkA (kyT t0 r) (k + 1) (kyT t0 r i)), nI (32 * r + (k + 1)))) ?_) (ih (k + 1) (by omega))
      show M_aheadOf_s8 t (nI r) (nI (32 * r + i)) (nI (rkA (kyT t0 r) k (kyT t0 r i))) (nI (32 * r + k)) = _
      have hb : ∀ u : Int32, (u = 0 ∨ u = 1) → (u = 1 ↔ kyT t0 r k < kyT t0 r i) → M_aheadOf_b106 t (nI r) (nI (32 * r + i)) (nI (rkA (kyT t0 r) k (kyT t0 r i))) (nI (32 * r + k)) u = some (.inl (nI (rkA (kyT t0 r) (k + 1) (kyT t0 r i)), nI (32 * r + (k + 1)))) := fun u hu hk' => by
        have es : rkA (kyT t0 r) (k + 1) (kyT t0 r i) = rkA (kyT t0 r) k (kyT t0 r i) + if kyT t0 r k < kyT t0 r i then 1 else 0 := rfl
        unfold M_aheadOf_b106 M_aheadOf_b119
        rcases hu with rfl | rfl
        · rw [if_pos rfl, es, if_neg (fun z => absurd (hk'.2 z) (by decide)), nI_1, Int32.add_zero]
          rfl
        · rw [if_neg (by decide), es, if_pos (hk'.1 rfl), nI_1, nI_1]
          rfl
      unfold M_aheadOf_s8
      have o1 := (ok k (by omega)).1
      have o2 := (ok i hi).1
      rw [hD.rI hN 46 6 (by omega), Option.bind_some, e46, e32, nI_add, if_pos (nI_lt (by omega) (by omega)), hD.rI hN 47 192 (i := 32 * r + k) (by omega), Option.bind_some, hD.rI hN 47 192 (i := 32 * r + i) (by omega), Option.bind_some]
      by_cases c : t0.I 47 (32 * r + k) = t0.I 47 (32 * r + i)
      · rw [if_pos c, hD.rJ hN 48 192 (i := 32 * r + k) (by omega), Option.bind_some, hD.rJ hN 49 192 (i := 32 * r + k) (by omega), Option.bind_some, hD.rI hN 50 192 (i := 32 * r + k) (by omega), Option.bind_some, hD.rJ hN 48 192 (i := 32 * r + i) (by omega), Option.bind_some, hD.rJ hN 49 192 (i := 32 * r + i) (by omega), Option.bind_some, hD.rI hN 50 192 (i := 32 * r + i) (by omega), Option.bind_some, ky_same (f := t0.I 47 (32 * r + i)) (by rw [← c]; exact o1) o2, Option.bind_some]
        have ek : kyV (t0.I 47 (32 * r + i)) (t0.J 48 (32 * r + k)) (t0.J 49 (32 * r + k)) (t0.I 50 (32 * r + k)) = kyT t0 r k := by unfold kyT; rw [c]
        rw [ek]
        show M_aheadOf_b106 t (nI r) (nI (32 * r + i)) _ _ (if kyT t0 r k < kyT t0 r i then 1 else 0) = _
        refine hb _ ?_ ?_
        · split
          · exact Or.inr rfl
          · exact Or.inl rfl
        · split
          · rename_i h; exact ⟨fun _ => h, fun _ => rfl⟩
          · rename_i h; exact ⟨fun z => absurd z (by decide), fun z => absurd z h⟩
      · have kd := ky_diff (h := t0.J 48 (32 * r + k)) (l := t0.J 49 (32 * r + k)) (h' := t0.J 48 (32 * r + i)) (l' := t0.J 49 (32 * r + i)) o1 o2 (fun z => c z.symm)
        rw [if_neg c, Option.bind_some, Option.bind_some]
        by_cases c2 : t0.I 47 (32 * r + k) < t0.I 47 (32 * r + i)
        · rw [if_pos c2]
          exact hb 1 (Or.inr rfl) ⟨fun _ => kd.2 c2, fun _ => rfl⟩
        · rw [if_neg c2]
          exact hb 0 (Or.inl rfl) ⟨fun z => absurd z (by decide), fun z => absurd (kd.1 z) c2⟩
  exact loop n 0 (by omega)
theorem j_stat (hq : RQ G H sa x s0 t0) (hM : MV t0) (h222 : s0.P 222 x = some pg) (hr : r < cR t0) (h : J0 sa pg s0 k0 m0 t0 m s kc ks t) (hm : m + 4500 ≤ 131000) (k : ∀ t', M_sayStatics t (nI r) = some t' → ∀ s' kc' ks', J0 sa pg s0 k0 m0 t0 (m + 3712) s' kc' ks' t' → Q s' kc' ks') : C_Rf_writeStatics sa x (some (G 1 r)) s kc ks Q := by
  have ox := hq.ox
  have ht := hq.tk
  have hN := hM.n
  have h6 := hM.nR
  obtain ⟨⟨k26, -⟩, ⟨nm, p181, tx, nn⟩, -⟩ := hq.rt hr
  obtain ⟨-, -, ⟨⟨i201, nhw, hw32, w, cap, p200, kw, hwc, -, hc2, qr, -, -⟩, st, srt⟩, -⟩ := hq.2.2.2.2.2.1 r hr
  obtain ⟨e46, -, h46⟩ := (hM.r hr).2.2.2.1.n
  have o9 := okr k26 9
  have p187 := hq.ty.p k26 187 28
  have o10 := okr p187.2 10
  have ahd := fun {t : moS} {l : List Int32} (hD : DD [7, 8, 16] t0 t l) {i : Nat} (hi : i < (t0.I 46 r).toNatClampNeg) => m_ahOf hM hr hD hi
  have rk := rkA_g (K := kyT t0 r) (g := fun j => G 7 (32 * r + j)) (n := (t0.I 46 r).toNatClampNeg) (fun j hj => (st j hj).1) (fun i j h1 h2 => by
    have ke : ∀ j, j < (t0.I 46 r).toNatClampNeg → cPk s0 (H 160 (G 6 (32 * r + j))) = kyT t0 r (G 7 (32 * r + j)) := fun j hj => by
      obtain ⟨-, ⟨f1, f2, f3, f4⟩, -⟩ := st j hj
      unfold cPk kyT kyV
      rw [f1, f2, f3, f4]
    have := srt i j h1 h2
    rw [ke i (by omega), ke j h2] at this
    exact this)
  have rk : ∀ j, j < (t0.I 46 r).toNatClampNeg → rkA (kyT t0 r) (t0.I 46 r).toNatClampNeg (kyT t0 r (G 7 (32 * r + j))) = j := rk
  have sur := inj_sur (t0.I 46 r).toNatClampNeg (fun j => G 7 (32 * r + j)) (fun j hj => (st j hj).1) (fun i j h1 h2 e => by
    have e : G 7 (32 * r + i) = G 7 (32 * r + j) := e
    have e1 := rk i h1
    rw [e, rk j h2] at e1
    exact e1.symm)
  generalize (t0.I 46 r).toNatClampNeg = n at *
  have e32 : (32 : Int32) * nI r = nI (32 * r) := by rw [show (32 : Int32) = nI 32 from rfl, pk_mul]
  unfold M_sayStatics at k
  unfold C_Rf_writeStatics C_Rf_writeStatics_b2
  intro P hP
  have loop : ∀ d j (s : cS) (kc ks : Nat) (t : moS), j + d = n → J0 sa pg s0 k0 m0 t0 (m + 116 * j) s kc ks t → (∀ t', M_sayStatics_b2 t (nI r) (nI j) = some t' → ∀ s' kc' ks', J0 sa pg s0 k0 m0 t0 (m + 3712) s' kc' ks' t' → Q s' kc' ks') → P (nI j) s kc ks := by
    intro d
    induction d with
    | zero =>
      intro j s kc ks t hj h k
      apply hP
      unfold C_Rf_writeStatics_s2
      refine ⟨_, rfl, h.gP o9 (by decide) ⟨_, p187.1, h.gI o10 (by decide) ?_⟩⟩
      rw [show s0.I (20 * 10 + 1) (H 187 (G 1 r)) = nI n from i201]
      refine ifF (nI_nlt (by omega) (by omega)) (k t ?_ s kc ks (h.wk (by omega)))
      unfold M_sayStatics_b2
      refine lp_x ?_
      show M_sayStatics_s2 t (nI r) (nI j) = _
      unfold M_sayStatics_s2
      rw [h.rI hN 46 6 (by omega), Option.bind_some, e46, if_neg (nI_nlt (by omega) (by omega))]
    | succ d ih =>
      intro j s kc ks t hj h k
      have hj' : j < n := by omega
      obtain ⟨g7, pf, i164, i165⟩ := st j hj'
      obtain ⟨qj, kj⟩ := qr j (by omega)
      have p160 := hq.ty.p kj 160 36
      apply hP
      unfold C_Rf_writeStatics_s2
      refine ⟨_, rfl, h.gP o9 (by decide) ⟨_, p187.1, h.gI o10 (by decide) ?_⟩⟩
      rw [show s0.I (20 * 10 + 1) (H 187 (G 1 r)) = nI n from i201]
      refine ifT (nI_lt (by omega) (by omega)) (h.gP o9 (by decide) ⟨_, p187.1, h.gP o10 (by decide) ⟨_, p200, h.rQ kw (by decide) (by decide) (by omega) (by omega) ?_⟩⟩)
      rw [qj]
      -- the model finds it
      have find : ∀ d i, i + d = G 7 (32 * r + j) → M_sayStatics_b17 t (nI r) (nI j) (nI (32 * r + i)) = M_sayStatics_b17 t (nI r) (nI j) (nI (32 * r + G 7 (32 * r + j))) := by
        obtain ⟨l, -, hD, -⟩ := id h
        intro d
        induction d with
        | zero =>
          intro i hi
          rw [show i = G 7 (32 * r + j) by omega]
        | succ d ih =>
          intro i hi
          refine Eq.trans ?_ (ih (i + 1) (by omega))
          unfold M_sayStatics_b17
          refine lp_l (f := fun x : Int32 × moS => M_sayStatics_s17 x.2 (nI r) (nI j) x.1) (x := (nI (32 * r + i), t)) (y := (nI (32 * r + (i + 1)), t)) ?_
          show M_sayStatics_s17 t (nI r) (nI j) (nI (32 * r + i)) = _
          unfold M_sayStatics_s17
          have hi2 : i < n := by omega
          rw [ahd hD hi2, Option.bind_some]
          have ne : rkA (kyT t0 r) n (kyT t0 r i) ≠ j := fun z => by
            obtain ⟨i', hi', ei⟩ := sur i hi2
            have ei : G 7 (32 * r + i') = i := ei
            have e1 := rk i' hi'
            rw [ei, z] at e1
            rw [← e1] at ei
            omega
          have le := rkA_le (K := kyT t0 r) (c := kyT t0 r i) n
          rw [if_neg (fun z => ne ((nI_eq (by omega) (by omega)).mp z)), nI_1]
          rfl
      have kE : ∀ t', M_sayStatics_b17 t (nI r) (nI j) (nI (32 * r)) = some (.inl (nI j + 1, t')) → ∀ s' kc' ks', J0 sa pg s0 k0 m0 t0 (m + 116 * j + 116) s' kc' ks' t' → P (nI j + 1) s' kc' ks' := fun t' e s' kc' ks' h' => by
        rw [nI_1]
        refine ih (j + 1) s' kc' ks' t' (by omega) (h'.wk (by omega)) fun t2 e2 => k t2 (Eq.trans ?_ e2)
        rw [nI_1] at e
        unfold M_sayStatics_b2
        refine lp_l (f := fun x : Int32 × moS => M_sayStatics_s2 x.2 (nI r) x.1) (x := (nI j, t)) (y := (nI (j + 1), t')) ?_
        show M_sayStatics_s2 t (nI r) (nI j) = _
        unfold M_sayStatics_s2
        rw [h.rI hN 46 6 (by omega), Option.bind_some, e46, if_pos (nI_lt (by omega) (by omega)), e32]
        exact e
      have eX : M_sayStatics_b17 t (nI r) (nI j) (nI (32 * r)) = Option.bind (M_begin t (1996896363 : Int64) (nI r)) (fun s2 => Option.bind (rdI s2 47 (nI (32 * r + G 7 (32 * r + j)))) (fun x3 => Option.bind (rdJ s2 48 (nI (32 * r + G 7 (32 * r + j)))) (fun x4 => Option.bind (rdJ s2 49 (nI (32 * r + G 7 (32 * r + j)))) (fun x5 => Option.bind (rdI s2 50 (nI (32 * r + G 7 (32 * r + j)))) (fun x6 => Option.bind (M_wordPrefix s2 x3 x4 x5 x6) (fun s7 => Option.bind (rdI s7 51 (nI (32 * r + G 7 (32 * r + j)))) (fun x8 => Option.bind (M_wordNumber s7 x8) (fun s9 => Option.bind (M_word s9 (32047 : Int64)) (fun s10 => Option.bind (rdI s10 52 (nI (32 * r + G 7 (32 * r + j)))) (fun x11 => Option.bind (M_wordNumber s10 x11) (fun s12 => Option.bind (M_say s12 (10 : Int32)) (fun s13 => some (Sum.inl (nI j + (1 : Int32), s13)))))))))))))) := by
        rw [show nI (32 * r) = nI (32 * r + 0) from rfl, find (G 7 (32 * r + j)) 0 (by omega)]
        obtain ⟨l, -, hD, -⟩ := id h
        unfold M_sayStatics_b17
        refine lp_x ?_
        show M_sayStatics_s17 t (nI r) (nI j) (nI (32 * r + G 7 (32 * r + j))) = _
        unfold M_sayStatics_s17
        rw [ahd hD g7, Option.bind_some, rk j hj', if_pos rfl]
      rw [eX] at kE
      unfold M_begin at kE
      refine h.page ox h222 ⟨_, rfl, j0_c 17 1996896363 (by decide +kernel) (by decide) h ht (by omega) fun s1 c1 d1 t1 e1 h1 => ?_⟩
      rw [e1, Option.bind_some, h1.rJ hN 38 6 (by omega), Option.bind_some] at kE
      refine h1.page ox h222 (h1.gP o9 (by decide) ⟨_, rfl, ?_⟩)
      refine j1_n (p := H 181 (G 1 r)) p181 tx nn h1 (by omega) fun s2 c2 d2 t2 e2 h2 => ?_
      rw [e2, Option.bind_some, Option.bind_some] at kE
      refine h2.page ox h222 ⟨_, rfl, j1_h h2 ht (by omega) fun s3 c3 d3 h3 => ?_⟩
      rw [h3.rI hN 47 192 (by omega), Option.bind_some, h3.rJ hN 48 192 (by omega), Option.bind_some, h3.rJ hN 49 192 (by omega), Option.bind_some, h3.rI hN 50 192 (by omega), Option.bind_some] at kE
      refine h3.page ox h222 ⟨_, rfl, h3.gP (okr kj 8) (by decide) ⟨_, rfl, ?_⟩⟩
      refine jh_p (p := H 160 (G 6 (32 * r + j))) p160.1 (okr p160.2 5) pf h3 ht (by omega) fun s4 c4 d4 t4 e4 h4 => ?_
      rw [e4, Option.bind_some, h4.rI hN 51 192 (by omega), Option.bind_some] at kE
      refine h4.page ox h222 (h4.gI (okr kj 8) (by decide) ⟨_, rfl, ?_⟩)
      rw [show s0.I (20 * 8 + 4) (G 6 (32 * r + j)) = _ from i164]
      refine j1_u _ h4 ht (by omega) fun s5 c5 d5 t5 e5 h5 => ?_
      rw [e5, Option.bind_some] at kE
      refine h5.page ox h222 ⟨_, rfl, j1_c 18 32047 (by decide +kernel) (by decide) h5 ht (by omega) fun s6 c6 d6 t6 e6 h6' => ?_⟩
      rw [e6, Option.bind_some, h6'.rI hN 52 192 (by omega), Option.bind_some] at kE
      refine h6'.page ox h222 (h6'.gI (okr kj 8) (by decide) ⟨_, rfl, ?_⟩)
      rw [show s0.I (20 * 8 + 5) (G 6 (32 * r + j)) = _ from i165]
      refine j1_u _ h6' ht (by omega) fun s7 c7 d7 t7 e7 h7 => ?_
      rw [e7, Option.bind_some] at kE
      refine h7.page ox h222 ⟨_, rfl, j1_e h7 (by omega) fun s8 c8 d8 t8 e8 h8 => ?_⟩
      rw [e8, Option.bind_some] at kE
      exact kE _ rfl _ _ _ (h8.wk (by omega))
  exact loop n 0 s kc ks t (by omega) h k
end C9
