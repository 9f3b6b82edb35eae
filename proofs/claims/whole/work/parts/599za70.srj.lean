/-! Where datagrams come from: what a read keeps, by program. -/
/-- an interface that is there and has no address of the family yet -/
def oldJ (t : moS) (a : Int32) : Prop := a ≠ -1 → ∃ r p, r < 6 ∧ p < cI t r ∧ a = nI (4 * r + p) ∧ (t.S 12 = 0 → t.I 75 (2 * (4 * r + p)) = 0)
theorem if_to2 {t : moS} {p1 p2 : Int32} (hI : t.N 70 = 6 ∧ ∀ r, r < 6 → rng (t.I 70 r) 0 4) : aw (M_interfaceTo t p1 p2) (fun v => v = -1 ∨ ∃ r p, r < 6 ∧ p < cI t r ∧ v = nI (4 * r + p)) := by
  unfold M_interfaceTo M_interfaceTo_b4
  by_cases c : ¬ p1 < 0 ∧ p1.toNatClampNeg < 6
  · have e := nI_cl c.1
    generalize p1.toNatClampNeg = r at e c
    subst e
    refine aw_lp (I := fun y => ∃ j, y = nI j ∧ 4 * r ≤ j ∧ j ≤ 4 * r + 4) ⟨4 * r, by rw [show (4 : Int32) = nI 4 from rfl, pk_mul], Nat.le_refl _, by omega⟩ fun y hy => ?_
    obtain ⟨j, rfl, h1, h2⟩ := hy
    obtain ⟨k, ek, -, hk⟩ := hI.2 r c.2
    intro z e
    unfold M_interfaceTo_s4 at e
    obtain ⟨x1, e1, e⟩ := Option.bind_eq_some_iff.mp e
    obtain ⟨-, -, e1⟩ := rdI_x e1
    rw [nI_clamp (by omega), ek] at e1
    rw [e1, show (4 : Int32) = nI 4 from rfl, pk_mul, nI_add] at e
    split at e
    · rename_i cl
      have hj : j < 4 * r + k := Nat.lt_of_not_le fun z => nI_nlt z (by omega) cl
      obtain ⟨x2, -, e⟩ := Option.bind_eq_some_iff.mp e
      split at e
      · cases e
        refine Or.inr ⟨r, j - 4 * r, c.2, ?_, by congr 1; omega⟩
        unfold cI
        rw [ek, nI_clamp (by omega)]
        omega
      · cases e
        exact ⟨j + 1, by rw [nI_1], by omega, by omega⟩
    · cases e
      exact Or.inl rfl
  · refine aw_lp (I := fun y => True) trivial fun y _ => ?_
    intro z e
    unfold M_interfaceTo_s4 at e
    obtain ⟨x1, e1, e⟩ := Option.bind_eq_some_iff.mp e
    obtain ⟨a1, a2, -⟩ := rdI_x e1
    rw [hI.1] at a2
    exact absurd ⟨a1, a2⟩ c
theorem SRC.i70 {E : List (Int32 × Int64)} {t : moS} (h : SRC E t) : t.N 70 = 6 ∧ ∀ r, r < 6 → rng (t.I 70 r) 0 4 := ⟨h.1.1, fun r hr => (h.2.2.2.1 r hr).1⟩
section Sj
variable {E : List (Int32 × Int64)}
theorem sM_read_b96 {t : moS} {a1 : Int32} {a3 : Int32} (h : SRC E t) : aw (M_read_b96 t a1 a3) (Sum.elim (fun z => (fun z => (SRC E) z.2) z.2) (fun z => (SRC E) z.2)) := by
  unfold M_read_b96
  exact (aw_some (by first | assumption | trivial | exact True.intro))
theorem sM_newInterface {t : moS} {p1 p2 : Int32} (h4 : t.I 70 p1.toNatClampNeg ≠ 4) (ha : adF t) (h : SRC E t) : aw (M_newInterface t p1 p2) (fun z => SRC E z.2 ∧ adF z.2 ∧ z.1 ≠ -1 ∧ oldJ z.2 z.1) := by
  unfold M_newInterface
  intro z e
  obtain ⟨x1, e1, e⟩ := Option.bind_eq_some_iff.mp e
  obtain ⟨s2, e2, e⟩ := Option.bind_eq_some_iff.mp e
  obtain ⟨s3, e3, e⟩ := Option.bind_eq_some_iff.mp e
  obtain ⟨s4, e4, e⟩ := Option.bind_eq_some_iff.mp e
  obtain ⟨x5, e5, e⟩ := Option.bind_eq_some_iff.mp e
  obtain ⟨s6, e6, e⟩ := Option.bind_eq_some_iff.mp e
  cases e
  obtain ⟨a1, a2, a3⟩ := rdI_x e1
  rw [h.1.1] at a2
  have ep := nI_cl a1
  generalize p1.toNatClampNeg = r at a2 a3 ep h4
  subst ep
  obtain ⟨c, ec, -, hc⟩ := (h.2.2.2.1 r a2).1
  have hc4 : c < 4 := by
    refine Nat.lt_of_le_of_ne hc fun z => h4 ?_
    rw [ec, z]
    rfl
  have eI : cI t r = c := by unfold cI; rw [ec, nI_clamp (by omega)]
  have z75 := (h.2.2.2.1 r a2).2 c hc4 (by omega)
  rw [a3, ec, show (4 : Int32) = nI 4 from rfl, pk_mul, nI_add] at e2 e3 e4 ⊢
  have q2 := wrI_x e2
  have m4 : mfr [72, 73] s2 s4 := by
    rw [wrJ_x e4, wrI_x e3]
    exact (mfr.si (by decide)).tr (mfr.sj (by decide))
  obtain ⟨-, -, b3⟩ := rdI_x e5
  rw [nI_clamp (by omega), m4.I 70 (by decide), q2, moSI_n (by decide), ec] at b3
  have q6 := wrI_x e6
  rw [b3, nI_1, nI_clamp (show r < 2 ^ 31 by omega)] at q6
  rw [nI_clamp (show 4 * r + c < 2 ^ 31 by omega)] at q2
  have i71 : ∀ j, s6.I 71 j = if j = 4 * r + c then p2 else t.I 71 j := fun j => by
    rw [q6, moSI_n (by decide), m4.I 71 (by decide), q2, evMI]
    by_cases cj : j = 4 * r + c
    · rw [if_pos ⟨rfl, cj⟩, if_pos cj]
    · rw [if_neg (fun z => cj z.2), if_neg cj]
  have i70 : ∀ j, s6.I 70 j = if j = r then nI (c + 1) else t.I 70 j := fun j => by
    rw [q6, evMI, m4.I 70 (by decide), q2, moSI_n (by decide)]
    by_cases cj : j = r
    · rw [if_pos ⟨rfl, cj⟩, if_pos cj]
    · rw [if_neg (fun z => cj z.2), if_neg cj]
  have mm : mfr [70, 71, 72, 73] t s6 := by
    rw [q6]
    refine mfr.tr (t1 := s4) (mfr.tr (t1 := s2) ?_ (m4.wk (by decide))) (mfr.si (by decide))
    rw [q2]
    exact mfr.si (by decide)
  have cI6 : ∀ j, cI s6 j = if j = r then c + 1 else cI t j := fun j => by
    unfold cI
    rw [i70]
    by_cases cj : j = r
    · rw [if_pos cj, if_pos cj, nI_clamp (by omega)]
    · rw [if_neg cj, if_neg cj]
  have si : ∀ {l : Int32} {hh : Int64}, sIn E t l hh → sIn E s6 l hh := fun {l hh} i => by
    rcases i with w | w | ⟨q, w1, w2, w3, w4⟩
    · exact Or.inl w
    · exact Or.inr (Or.inl w)
    · refine Or.inr (Or.inr ⟨q, w1, ?_, ?_, ?_⟩)
      · rw [mm.I 75 (by decide)]; exact w2
      · rw [i71, if_neg (fun z => w2 (by rw [z]; exact z75))]; exact w3
      · rw [mm.J 76 (by decide)]; exact w4
  have adz : adF s6 := by
    unfold adF at ha ⊢
    rw [mm.S 12 (by decide), mm.Z 13 (by decide)]
    exact ha
  obtain ⟨⟨n1, n2, n3, n4⟩, k1, k2, k3, k4, k5, k6⟩ := h
  refine ⟨⟨⟨?_, ?_, ?_, ?_⟩, k1, ?_, fun r' hr' => ⟨?_, fun p hp hpp => ?_⟩, fun p hp => ?_, fun k hk => ?_, ?_⟩, adz, nI_ne (show 4 * r + c < 16200 by omega), fun _ => ⟨r, c, a2, ?_, rfl, fun _ => ?_⟩⟩
  · rw [mm.2 70 (Or.inr (by decide))]; exact n1
  · rw [mm.2 71 (Or.inr (by decide))]; exact n2
  · rw [mm.2 75 (Or.inr (by decide))]; exact n3
  · rw [mm.2 76 (Or.inr (by decide))]; exact n4
  · rw [mm.J 76 (by decide), mm.I 75 (by decide)]; exact k2
  · rw [i70]
    by_cases cj : r' = r
    · rw [if_pos cj]; exact ⟨c + 1, rfl, Nat.zero_le _, by omega⟩
    · rw [if_neg cj]; exact (k3 r' hr').1
  · rw [mm.I 75 (by decide)]
    rw [cI6] at hpp
    by_cases cj : r' = r
    · rw [if_pos cj] at hpp
      exact (k3 r' hr').2 p hp (by rw [cj]; omega)
    · rw [if_neg cj] at hpp
      exact (k3 r' hr').2 p hp hpp
  · rw [mm.I 131 (by decide)] at hp
    rw [mm.I 126 (by decide), mm.J 132 (by decide)]
    exact si (k4 p hp)
  · rw [mm.S 101 (by decide)] at hk
    obtain ⟨⟨r', p, b1, b2, b3', b4⟩, b5⟩ := k5 k hk
    have hp4 : p < 4 := by
      obtain ⟨y, ey, -, hy⟩ := (k3 r' b1).1
      have : cI t r' = y := by unfold cI; rw [ey, nI_clamp (by omega)]
      omega
    refine ⟨⟨r', p, b1, ?_, ?_, ?_⟩, ?_⟩
    · rw [cI6]
      by_cases cj : r' = r
      · rw [if_pos cj]; rw [cj] at b2; omega
      · rw [if_neg cj]; exact b2
    · rw [mm.I 102 (by decide)]; exact b3'
    · rw [i71, mm.J 103 (by decide), if_neg (fun z => ?_)]
      · exact si b4
      · have : r' = r := by omega
        rw [this] at b2
        omega
    · rw [mm.J 104 (by decide)]; exact b5
  · rw [mm.S 101 (by decide), mm.I 102 (by decide), mm.J 103 (by decide)]
    exact k6
  · rw [cI6, if_pos rfl]; omega
  · rw [mm.I 75 (by decide)]; exact z75
theorem sM_lineJoin_b490 {t : moS} {a3 : Int32} {a4 : Int32} {a5 : Int32} {a6 : Int32} {a7 : Int32} {a8 : Int32} {a10 : Int32} {a11 : Int32} (h : SRC E t) : aw (M_lineJoin_b490 t a3 a4 a5 a6 a7 a8 a10 a11) (Sum.elim (fun z => (SRC E) z.2) (fun z => (SRC E) z.2)) := by
  unfold M_lineJoin_b490
  exact (aw_some (by first | assumption | trivial | exact True.intro))
theorem sM_lineJoin_b479 {t : moS} {a3 : Int32} {a4 : Int32} {a5 : Int32} {a6 : Int32} {a7 : Int32} {a8 : Int32} {a10 : Int32} {a11 : Int32} {u1 : Int32} {u2 : Int32} {u3 : Int32} (h : SRC E t) : aw (M_lineJoin_b479 t a3 a4 a5 a6 a7 a8 a10 a11 u1 u2 u3) (Sum.elim (fun z => (SRC E) z.2) (fun z => (SRC E) z.2)) := by
  unfold M_lineJoin_b479
  exact (aw_bind (sr_f (fM_takeKey (W := wM_takeKey) rfl mfr.rf) (by assumption) rfl) (fun _ h => (sM_lineJoin_b490 (by assumption))))
theorem sM_lineJoin_b458 {t : moS} {a3 : Int32} {a4 : Int32} {a5 : Int32} {a6 : Int32} {a7 : Int32} {a8 : Int32} {a10 : Int32} {a11 : Int32} (h : SRC E t) : aw (M_lineJoin_b458 t a3 a4 a5 a6 a7 a8 a10 a11) (Sum.elim (fun z => (SRC E) z.2) (fun z => (SRC E) z.2)) := by
  unfold M_lineJoin_b458
  exact (aw_bind aw_t (fun _ h => (aw_if (sM_lineJoin_b479 (by assumption)) (sM_lineJoin_b479 (by assumption)))))
theorem sM_lineJoin_b444 {t : moS} {a3 : Int32} {a4 : Int32} {a5 : Int32} {a6 : Int32} {a7 : Int32} {a8 : Int32} {a10 : Int32} {a11 : Int32} (h : SRC E t) : aw (M_lineJoin_b444 t a3 a4 a5 a6 a7 a8 a10 a11) (Sum.elim (fun z => (SRC E) z.2) (fun z => (SRC E) z.2)) := by
  unfold M_lineJoin_b444
  exact (aw_if (sM_lineJoin_b458 (by assumption)) (aw_if (sM_lineJoin_b458 (by assumption)) (sM_lineJoin_b490 (by assumption))))
theorem sM_lineJoin_s421 {t : moS} {a3 : Int32} {a4 : Int32} {a5 : Int32} {a6 : Int32} {a7 : Int32} {a8 : Int32} {a10 : Int32} {a11 : Int32} (h : SRC E t) : aw (M_lineJoin_s421 t a3 a4 a5 a6 a7 a8 a10 a11) (Sum.elim (fun z => (SRC E) z.2) (fun z => (SRC E) z.2)) := by
  unfold M_lineJoin_s421
  exact (aw_if (aw_if (aw_bind (sr_f (fM_takePassword (W := wM_takePassword) rfl mfr.rf) (by assumption) rfl) (fun _ h => (sM_lineJoin_b444 (by assumption)))) (sM_lineJoin_b444 (by assumption))) (aw_xo (aw_bind (sr_f (fM_settle (W := wM_settle) rfl mfr.rf) (by assumption) rfl) (fun _ h => (aw_bind aw_t (fun _ h => (aw_if (aw_some (by first | assumption | trivial | exact True.intro)) (aw_bind aw_t (fun _ h => (aw_if (aw_some (by first | assumption | trivial | exact True.intro)) (aw_bind (sM_request (by assumption)) (fun _ h => (aw_some (by first | assumption | trivial | exact True.intro))))))))))))))
theorem sM_lineJoin_b421 {t : moS} {a3 : Int32} {a4 : Int32} {a5 : Int32} {a6 : Int32} {a7 : Int32} {a8 : Int32} {a10 : Int32} {a11 : Int32} (h : SRC E t) : aw (M_lineJoin_b421 t a3 a4 a5 a6 a7 a8 a10 a11) (fun z => (SRC E) z.2) := by
  unfold M_lineJoin_b421
  refine aw_lp (I := (fun z => (SRC E) z.2)) ?_ ?_
  · exact h
  · intro y hy
    exact (sM_lineJoin_s421 hy)
theorem sM_lineJoin_b418 {t : moS} {a3 : Int32} {a4 : Int32} {a5 : Int32} {a6 : Int32} {a7 : Int32} {a8 : Int32} {a10 : Int32} (h : SRC E t) : aw (M_lineJoin_b418 t a3 a4 a5 a6 a7 a8 a10) (fun z => (SRC E) z.2) := by
  unfold M_lineJoin_b418
  exact (sM_lineJoin_b421 (by assumption))
theorem sM_lineJoin_b399 {t : moS} {a3 : Int32} {a4 : Int32} {a5 : Int32} {a6 : Int32} {a7 : Int32} {a8 : Int32} {a10 : Int32} (h : SRC E t) : aw (M_lineJoin_b399 t a3 a4 a5 a6 a7 a8 a10) (fun z => (SRC E) z.2) := by
  unfold M_lineJoin_b399
  exact (aw_bind aw_t (fun _ h => (aw_if (aw_bind (sr_wrZ (by assumption) rfl) (fun _ h => (sM_lineJoin_b418 (by assumption)))) (sM_lineJoin_b418 (by assumption)))))
theorem sM_lineJoin_b383 {t : moS} {a2 : Int32} {a3 : Int32} {a4 : Int32} {a5 : Int32} {a6 : Int32} {a7 : Int32} {a8 : Int32} {a10 : Int32} (h : SRC E t) : aw (M_lineJoin_b383 t a2 a3 a4 a5 a6 a7 a8 a10) (fun z => (SRC E) z.2) := by
  unfold M_lineJoin_b383
  exact (aw_if (aw_bind aw_t (fun _ h => (aw_bind (sr_wrJ (by assumption) rfl) (fun _ h => (sM_lineJoin_b399 (by assumption)))))) (sM_lineJoin_b399 (by assumption)))
theorem sM_lineJoin_b315 {t : moS} {a1 a2 a3 a4 a5 a6 a7 a8 : Int32} (hn : a8 ≠ -1) (ha : adF t) (hz : oldJ t a8) (h : SRC E t) : aw (M_lineJoin_b315 t a1 a2 a3 a4 a5 a6 a7 a8) (fun z => SRC E z.2) := by
  unfold M_lineJoin_b315
  obtain ⟨r, p, hr, hp, rfl, h75⟩ := hz hn
  intro z e
  obtain ⟨s1, e1, e⟩ := Option.bind_eq_some_iff.mp e
  obtain ⟨s2, e2, e⟩ := Option.bind_eq_some_iff.mp e
  obtain ⟨f, hf, ef⟩ : ∃ f : Nat, (f = 0 ∨ f = 1) ∧ t.S 12 = nI f := by
    rcases ha with w | w
    · exact ⟨0, Or.inl rfl, w.1⟩
    · exact ⟨1, Or.inr rfl, w⟩
  have hp4 : p < 4 := by
    obtain ⟨y, ey, -, hy⟩ := (h.2.2.2.1 r hr).1
    have : cI t r = y := by unfold cI; rw [ey, nI_clamp (by omega)]
    omega
  have ex : (2 : Int32) * nI (4 * r + p) + t.S 12 = nI (2 * (4 * r + p) + f) := by rw [ef, show (2 : Int32) = nI 2 from rfl, pk_mul, nI_add]
  rw [ex] at e1 e2
  have q1 := wrZ_x e1
  have q2 := wrJ_x e2
  rw [nI_clamp (by omega)] at q1 q2
  have e13 : s1.Z 13 = t.Z 13 := by rw [q1]; rfl
  have i75 : ∀ j, s2.I 75 j = if j = 2 * (4 * r + p) + f then 1 else t.I 75 j := fun j => by
    rw [q2]
    show s1.I 75 j = _
    rw [q1, evMI]
    by_cases cj : j = 2 * (4 * r + p) + f
    · rw [if_pos ⟨rfl, cj⟩, if_pos cj]
      rfl
    · rw [if_neg (fun z => cj z.2), if_neg cj]
  have j76 : ∀ j, s2.J 76 j = if j = 2 * (4 * r + p) + f then t.Z 13 else t.J 76 j := fun j => by
    rw [q2, evMJ, e13, q1]
    show (if 76 = 76 ∧ j = 2 * (4 * r + p) + f then t.Z 13 else t.J 76 j) = _
    by_cases cj : j = 2 * (4 * r + p) + f
    · rw [if_pos ⟨rfl, cj⟩, if_pos cj]
    · rw [if_neg (fun z => cj z.2), if_neg cj]
  have mm : mfr [75, 76] t s2 := by
    rw [q2, q1]
    exact (mfr.si (by decide)).tr (mfr.sj (by decide))
  have f0 : f = 0 → t.I 75 (2 * (4 * r + p)) = 0 ∧ lh0 (t.Z 13) := fun z => by
    refine ⟨h75 (by rw [ef, z]; rfl), ?_⟩
    rcases ha with w | w
    · exact w.2
    · rw [ef, z] at w
      exact absurd w (by decide)
  have si : ∀ {l : Int32} {hh : Int64}, sIn E t l hh → sIn E s2 l hh := fun {l hh} i => by
    rcases i with w | w | ⟨q, w1, w2, w3, w4⟩
    · exact Or.inl w
    · exact Or.inr (Or.inl w)
    · have ne : ¬ 2 * q = 2 * (4 * r + p) + f := fun z => by
        have z0 : f = 0 := by omega
        have zq : q = 4 * r + p := by omega
        rw [zq] at w2
        exact w2 (f0 z0).1
      refine Or.inr (Or.inr ⟨q, w1, ?_, ?_, ?_⟩)
      · rw [i75, if_neg ne]; exact w2
      · rw [mm.I 71 (by decide)]; exact w3
      · rw [j76, if_neg ne]; exact w4
  have S2 : SRC E s2 := by
    obtain ⟨⟨n1, n2, n3, n4⟩, k1, k2, k3, k4, k5, k6⟩ := h
    refine ⟨⟨?_, ?_, ?_, ?_⟩, k1, fun q hq => ?_, fun r' hr' => ⟨?_, fun p' hp' hpp => ?_⟩, fun p hp => ?_, fun k hk => ?_, ?_⟩
    · rw [mm.2 70 (Or.inr (by decide))]; exact n1
    · rw [mm.2 71 (Or.inr (by decide))]; exact n2
    · rw [mm.2 75 (Or.inr (by decide))]; exact n3
    · rw [mm.2 76 (Or.inr (by decide))]; exact n4
    · rw [i75, j76]
      by_cases cj : 2 * q = 2 * (4 * r + p) + f
      · rw [if_pos cj, if_pos cj]
        exact ⟨(f0 (by omega)).2, fun z => absurd z (by decide)⟩
      · rw [if_neg cj, if_neg cj]
        exact k2 q hq
    · rw [mm.I 70 (by decide)]; exact (k3 r' hr').1
    · have e1' : cI s2 r' = cI t r' := by unfold cI; rw [mm.I 70 (by decide)]
      rw [e1'] at hpp
      rw [i75, if_neg (fun z => ?_)]
      · exact (k3 r' hr').2 p' hp' hpp
      · have : r' = r := by omega
        rw [this] at hpp
        omega
    · rw [mm.I 131 (by decide)] at hp
      rw [mm.I 126 (by decide), mm.J 132 (by decide)]
      exact si (k4 p hp)
    · rw [mm.S 101 (by decide)] at hk
      obtain ⟨⟨r', p', b1, b2, b3', b4⟩, b5⟩ := k5 k hk
      refine ⟨⟨r', p', b1, ?_, ?_, ?_⟩, ?_⟩
      · unfold cI; rw [mm.I 70 (by decide)]; exact b2
      · rw [mm.I 102 (by decide)]; exact b3'
      · rw [mm.I 71 (by decide), mm.J 103 (by decide)]; exact si b4
      · rw [mm.J 104 (by decide)]; exact b5
    · rw [mm.S 101 (by decide), mm.I 102 (by decide), mm.J 103 (by decide)]
      exact k6
  refine aw_use (P := fun z : Int32 × moS => SRC E z.2) ?_ e
  exact aw_bind (sr_wrJ S2 rfl) fun _ h => aw_bind (sr_wrI h rfl) fun _ h => aw_if (aw_bind aw_t fun _ _ => aw_bind (sr_wrI h rfl) fun _ h => sM_lineJoin_b383 h) (sM_lineJoin_b383 h)
theorem sM_lineJoin_b282 {t : moS} {a1 a2 a3 a4 a5 a6 a7 a8 : Int32} (h4 : a8 = -1 → t.I 70 a6.toNatClampNeg ≠ 4) (ha : adF t) (hz : oldJ t a8) (h : SRC E t) : aw (M_lineJoin_b282 t a1 a2 a3 a4 a5 a6 a7 a8) (fun z => SRC E z.2) := by
  unfold M_lineJoin_b282
  refine aw_bind aw_t fun x1 _ => aw_if (aw_some h) ?_
  by_cases c : a8 = -1
  · rw [if_pos c]
    refine aw_bn2 (sM_newInterface (h4 c) ha h) fun x3 s2 h2 => ?_
    exact sM_lineJoin_b315 h2.2.2.1 h2.2.1 h2.2.2.2 h2.1
  · rw [if_neg c]
    exact sM_lineJoin_b315 c ha hz h
theorem sM_lineJoin_b256 {t : moS} {a1 a2 a3 a4 a5 a6 a7 a8 u0 : Int32} (ha : adF t) (hz : oldJ t a8) (h : SRC E t) : aw (M_lineJoin_b256 t a1 a2 a3 a4 a5 a6 a7 a8 u0) (fun z => SRC E z.2) := by
  unfold M_lineJoin_b256
  refine aw_if (aw_some h) ?_
  by_cases c : a8 = -1
  · rw [if_pos c]
    intro z e
    obtain ⟨x1, e1, e⟩ := Option.bind_eq_some_iff.mp e
    split at e
    · cases e
      exact h
    · rename_i c4
      obtain ⟨-, -, b⟩ := rdI_x e1
      exact sM_lineJoin_b282 (fun _ => by rw [← b]; exact c4) ha hz h z e
  · rw [if_neg c]
    exact sM_lineJoin_b282 (fun z => absurd z c) ha hz h
theorem sM_lineJoin_b255 {t : moS} {a1 : Int32} {a2 : Int32} {a3 : Int32} {a4 : Int32} {a5 : Int32} {a6 : Int32} {a7 : Int32} {a8 : Int32} (ha : adF t) (hz : oldJ t a8) (h : SRC E t) : aw (M_lineJoin_b255 t a1 a2 a3 a4 a5 a6 a7 a8) (fun z => (SRC E) z.2) := by
  unfold M_lineJoin_b255
  exact (sM_lineJoin_b256 (by assumption) (by assumption) (by assumption))
theorem sM_lineJoin_b233 {t : moS} {a1 : Int32} {a2 : Int32} {a3 : Int32} {a4 : Int32} {a5 : Int32} {a6 : Int32} {a7 : Int32} {a8 : Int32} (ha : adF t) (hz : oldJ t a8) (h : SRC E t) : aw (M_lineJoin_b233 t a1 a2 a3 a4 a5 a6 a7 a8) (fun z => (SRC E) z.2) := by
  unfold M_lineJoin_b233
  exact (aw_bind aw_t (fun _ h => (aw_if (sM_lineJoin_b255 (by assumption) (by assumption) (by assumption)) (aw_bind aw_t (fun _ h => (aw_if (sM_lineJoin_b255 (by assumption) (by assumption) (by assumption)) (sM_lineJoin_b256 (by assumption) (by assumption) (by assumption))))))))
theorem sM_lineJoin_b221 {t : moS} {a1 : Int32} {a2 : Int32} {a3 : Int32} {a4 : Int32} {a5 : Int32} {a6 : Int32} {a7 : Int32} {a8 : Int32} (ha : adF t) (hz : oldJ t a8) (h : SRC E t) : aw (M_lineJoin_b221 t a1 a2 a3 a4 a5 a6 a7 a8) (fun z => (SRC E) z.2) := by
  unfold M_lineJoin_b221
  exact (aw_if (sM_lineJoin_b233 (by assumption) (by assumption) (by assumption)) (aw_bind aw_t (fun _ h => (aw_if (sM_lineJoin_b255 (by assumption) (by assumption) (by assumption)) (sM_lineJoin_b233 (by assumption) (by assumption) (by assumption))))))
theorem sM_lineJoin_b206 {t : moS} {a1 : Int32} {a2 : Int32} {a3 : Int32} {a4 : Int32} {a5 : Int32} {a6 : Int32} {a7 : Int32} {a8 : Int32} (ha : adF t) (hz : oldJ t a8) (h : SRC E t) : aw (M_lineJoin_b206 t a1 a2 a3 a4 a5 a6 a7 a8) (fun z => (SRC E) z.2) := by
  unfold M_lineJoin_b206
  exact (aw_if (sM_lineJoin_b221 (by assumption) (by assumption) (by assumption)) (aw_bind aw_t (fun _ h => (aw_if (sM_lineJoin_b255 (by assumption) (by assumption) (by assumption)) (sM_lineJoin_b221 (by assumption) (by assumption) (by assumption))))))
theorem sM_lineJoin_b125 {t : moS} {a1 a2 a3 a4 a5 : Int32} (h : SRC E t) : aw (M_lineJoin_b125 t a1 a2 a3 a4 a5) (fun z => SRC E z.2) := by
  unfold M_lineJoin_b125
  refine aw_bind aw_t fun x1 _ => aw_bind aw_t fun x2 _ => aw_bind aw_t fun x3 _ => aw_bind aw_t fun x4 _ => aw_if (aw_some h) (aw_if (aw_some h) ?_)
  refine aw_bn2 (P := fun z => SRC E z.2 ∧ (z.1 = 0 ∨ adF z.2)) (fun z e => ⟨(sr_f2 (fM_isAddressWithLength (W := wM_isAddressWithLength) rfl mfr.rf) h rfl) z e, dM_isAddressWithLength z e⟩) fun x6 s5 h5 => ?_
  by_cases c6 : x6 = 0
  · rw [if_pos c6]
    exact aw_some h5.1
  rw [if_neg c6]
  have ha := h5.2.resolve_left c6
  have h := h5.1
  refine aw_bind (if_to2 h.i70) fun x7 h7 => ?_
  by_cases c7 : x7 = -1
  · rw [if_pos c7]
    exact sM_lineJoin_b206 ha (fun z => absurd c7 z) h
  rw [if_neg c7]
  obtain ⟨r, p, hr, hp, rfl⟩ := h7.resolve_left c7
  intro z e
  obtain ⟨x8, e8, e⟩ := Option.bind_eq_some_iff.mp e
  split at e
  · rename_i c8
    refine sM_lineJoin_b206 ha (fun _ => ⟨r, p, hr, hp, rfl, fun z0 => ?_⟩) h z e
    have hp4 : p < 4 := by
      obtain ⟨y, ey, -, hy⟩ := (h.2.2.2.1 r hr).1
      have : cI s5 r = y := by unfold cI; rw [ey, nI_clamp (by omega)]
      omega
    obtain ⟨-, -, b⟩ := rdI_x e8
    rw [z0, Int32.add_zero, show (2 : Int32) = nI 2 from rfl, pk_mul, nI_clamp (by omega)] at b
    rw [← b]
    exact c8
  · cases e
    exact h
theorem sM_lineJoin {t : moS} (h : SRC E t) : aw (M_lineJoin t) (fun z => (SRC E) z.2) := by
  unfold M_lineJoin
  exact (aw_if (aw_some (by first | assumption | trivial | exact True.intro)) (aw_bind aw_t (fun _ h => (aw_if (aw_some (by first | assumption | trivial | exact True.intro)) (aw_bind aw_t (fun _ h => (aw_bind aw_t (fun _ h => (aw_bind aw_t (fun _ h => (aw_bind aw_t (fun _ h => (aw_bind aw_t (fun _ h => (aw_if (aw_bind aw_t (fun _ h => (aw_if (sM_lineJoin_b125 (by assumption)) (aw_bind aw_t (fun _ h => (aw_if (sM_lineJoin_b125 (by assumption)) (aw_bind aw_t (fun _ h => (aw_if (sM_lineJoin_b125 (by assumption)) (aw_some (by first | assumption | trivial | exact True.intro))))))))))) (sM_lineJoin_b125 (by assumption)))))))))))))))))
theorem sM_line {t : moS} (h : SRC E t) : aw (M_line t) (fun z => (SRC E) z.2) := by
  unfold M_line
  exact (aw_bind aw_t (fun _ h => (aw_if (aw_bn2 (sr_f2 (fM_lineLink (W := wM_lineLink) rfl mfr.rf) (by assumption) rfl) (fun _ _ h => (aw_some (by first | assumption | trivial | exact True.intro)))) (aw_if (aw_bn2 (sr_f2 (fM_lineRouter (W := wM_lineRouter) rfl mfr.rf) (by assumption) rfl) (fun _ _ h => (aw_some (by first | assumption | trivial | exact True.intro)))) (aw_if (aw_bn2 (sM_lineJoin (by assumption)) (fun _ _ h => (aw_some (by first | assumption | trivial | exact True.intro)))) (aw_if (aw_bn2 (sr_f2 (fM_lineKey (W := wM_lineKey) rfl mfr.rf) (by assumption) rfl) (fun _ _ h => (aw_some (by first | assumption | trivial | exact True.intro)))) (aw_if (aw_bn2 (sr_f2 (fM_lineNokey (W := wM_lineNokey) rfl mfr.rf) (by assumption) rfl) (fun _ _ h => (aw_some (by first | assumption | trivial | exact True.intro)))) (aw_if (aw_bn2 (sr_f2 (fM_lineStatic (W := wM_lineStatic) rfl mfr.rf) (by assumption) rfl) (fun _ _ h => (aw_some (by first | assumption | trivial | exact True.intro)))) (aw_if (aw_bn2 (sr_f2 (fM_lineNostatic (W := wM_lineNostatic) rfl mfr.rf) (by assumption) rfl) (fun _ _ h => (aw_some (by first | assumption | trivial | exact True.intro)))) (aw_if (aw_bn2 (sr_f2 (fM_lineFilter (W := wM_lineFilter) rfl mfr.rf) (by assumption) rfl) (fun _ _ h => (aw_some (by first | assumption | trivial | exact True.intro)))) (aw_if (aw_bn2 (sr_f2 (fM_lineList (W := wM_lineList) rfl mfr.rf) (by assumption) rfl) (fun _ _ h => (aw_some (by first | assumption | trivial | exact True.intro)))) (aw_if (aw_bn2 (sr_f2 (fM_lineDistribute (W := wM_lineDistribute) rfl mfr.rf) (by assumption) rfl) (fun _ _ h => (aw_some (by first | assumption | trivial | exact True.intro)))) (aw_if (aw_bn2 (sr_f2 (fM_lineOffset (W := wM_lineOffset) rfl mfr.rf) (by assumption) rfl) (fun _ _ h => (aw_some (by first | assumption | trivial | exact True.intro)))) (aw_if (aw_bn2 (sr_f2 (fM_lineSummary (W := wM_lineSummary) rfl mfr.rf) (by assumption) rfl) (fun _ _ h => (aw_some (by first | assumption | trivial | exact True.intro)))) (aw_if (aw_bn2 (sr_f2 (fM_lineNeighbor (W := wM_lineNeighbor) rfl mfr.rf) (by assumption) rfl) (fun _ _ h => (aw_some (by first | assumption | trivial | exact True.intro)))) (aw_if (aw_bn2 (sr_f2 (fM_lineRedistribute (W := wM_lineRedistribute) rfl mfr.rf) (by assumption) rfl) (fun _ _ h => (aw_some (by first | assumption | trivial | exact True.intro)))) (aw_if (aw_bn2 (sr_f2 (fM_lineDefault (W := wM_lineDefault) rfl mfr.rf) (by assumption) rfl) (fun _ _ h => (aw_some (by first | assumption | trivial | exact True.intro)))) (aw_if (aw_bn2 (sr_f2 (fM_lineTimers (W := wM_lineTimers) rfl mfr.rf) (by assumption) rfl) (fun _ _ h => (aw_some (by first | assumption | trivial | exact True.intro)))) (aw_some (by first | assumption | trivial | exact True.intro))))))))))))))))))))
theorem sM_read_b56 {t : moS} {a1 : Int32} {a2 : Int32} {a3 : Int32} (h : SRC E t) : aw (M_read_b56 t a1 a2 a3) (Sum.elim (fun z => (fun z => (SRC E) z.2) z.2) (fun z => (SRC E) z.2)) := by
  unfold M_read_b56
  exact (aw_bind (sr_f (fM_part (W := wM_part) rfl mfr.rf) (by assumption) rfl) (fun _ h => (aw_if (aw_bind aw_t (fun _ h => (aw_bind aw_t (fun _ h => (aw_if (sM_read_b96 (by assumption)) (aw_bn2 (sM_line (by assumption)) (fun _ _ h => (aw_let (P := SRC E) (sr_s (by assumption) rfl) (fun _ h => (sM_read_b96 (by assumption))))))))))) (sM_read_b96 (by assumption)))))
theorem sM_read_s31 {t : moS} {a1 : Int32} {a2 : Int32} {a3 : Int32} (h : SRC E t) : aw (M_read_s31 t a1 a2 a3) (Sum.elim (fun z => (SRC E) z.2) (Sum.elim (fun z => (fun z => (SRC E) z.2) z.2) (fun z => (SRC E) z.2))) := by
  unfold M_read_s31
  exact (aw_if (aw_bind aw_t (fun _ h => (aw_if (aw_xo (sM_read_b56 (by assumption))) (aw_some (by first | assumption | trivial | exact True.intro))))) (aw_xo (sM_read_b56 (by assumption))))
theorem sM_read_b31 {t : moS} {a1 : Int32} {a2 : Int32} {a3 : Int32} (h : SRC E t) : aw (M_read_b31 t a1 a2 a3) (Sum.elim (fun z => (fun z => (SRC E) z.2) z.2) (fun z => (SRC E) z.2)) := by
  unfold M_read_b31
  refine aw_lp (I := (fun z => (SRC E) z.2)) ?_ ?_
  · exact h
  · intro y hy
    exact (sM_read_s31 hy)
theorem sM_read_s14 {t : moS} {a1 : Int32} {a2 : Int32} (h : SRC E t) : aw (M_read_s14 t a1 a2) (Sum.elim (fun z => (fun z => (SRC E) z.2) z.2) (fun z => (SRC E) z.2)) := by
  unfold M_read_s14
  exact (aw_if (aw_if (sM_read_b31 (by assumption)) (aw_xo (sr_f2 (fM_read_b103 (W := wM_read_b103) rfl mfr.rf) (by assumption) rfl))) (aw_xo (sr_f2 (fM_read_b103 (W := wM_read_b103) rfl mfr.rf) (by assumption) rfl)))
theorem sM_read_b14 {t : moS} {a1 : Int32} {a2 : Int32} (h : SRC E t) : aw (M_read_b14 t a1 a2) (fun z => (SRC E) z.2) := by
  unfold M_read_b14
  refine aw_lp (I := (fun z => (fun z => (SRC E) z.2) z.2)) ?_ ?_
  · exact h
  · intro y hy
    exact (sM_read_s14 hy)
theorem sM_read {t : moS} (h : SRC E t) : aw (M_read t) (fun z => (SRC E) z.2) := by
  unfold M_read
  exact (aw_let (P := SRC E) (sr_s (by assumption) rfl) (fun _ h => (aw_let (P := SRC E) (sr_s (by assumption) rfl) (fun _ h => (sM_read_b14 (by assumption))))))
end Sj
