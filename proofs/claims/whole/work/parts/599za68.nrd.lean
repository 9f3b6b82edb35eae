/-! A router that stands has no routes: what a read keeps, by program. -/
theorem NR.m {t t' : moS} {W : List Nat} (h : NR t) (m : mfr W t t') (d : dj [37, 39, 44, 105] W) : NR t' := by
  unfold NR cN cR at h ⊢
  rw [m.S 37 (d.n 37), m.I 39 (d.n 39), m.I 44 (d.n 44), m.I 105 (d.n 105)]
  exact h
theorem nr_wrI {t : moS} {k : Nat} {i v : Int32} (h : NR t) (d : dj [37, 39, 44, 105] [k]) : aw (wrI t k i v) NR := fun z e => by
  rw [wrI_x e]
  exact h.m (mfr.si (W := [k]) List.mem_cons_self) d
theorem nr_wrZ {t : moS} {k : Nat} {i v : Int32} (h : NR t) (d : dj [37, 39, 44, 105] [k]) : aw (wrZ t k i v) NR := fun z e => by
  rw [wrZ_x e]
  exact h.m (mfr.si (W := [k]) List.mem_cons_self) d
theorem nr_wrJ {t : moS} {k : Nat} {i : Int32} {v : Int64} (h : NR t) (d : dj [37, 39, 44, 105] [k]) : aw (wrJ t k i v) NR := fun z e => by
  rw [wrJ_x e]
  exact h.m (mfr.sj (W := [k]) List.mem_cons_self) d
theorem nr_s {t : moS} {k : Nat} {v : Int32} (h : NR t) (d : dj [37, 39, 44, 105] [k]) : NR (moSS t k v) := h.m (mfr.ss (W := [k]) List.mem_cons_self) d
theorem nr_z {t : moS} {k : Nat} {v : Int64} (h : NR t) (d : dj [37, 39, 44, 105] [k]) : NR (moSZ t k v) := h.m (mfr.sz (W := [k]) List.mem_cons_self) d
theorem nr_f {t : moS} {W : List Nat} {o : Option moS} (g : aw o (mfr W t)) (h : NR t) (d : dj [37, 39, 44, 105] W) : aw o NR := fun z e => h.m (g z e) d
theorem nr_f2 {α : Type} {t : moS} {W : List Nat} {o : Option (α × moS)} (g : aw o (fun z => mfr W t z.2)) (h : NR t) (d : dj [37, 39, 44, 105] W) : aw o (fun z => NR z.2) := fun z e => h.m (g z e) d
theorem NR.i {t t' : moS} {B : Prop} (h : NI (cR t) (t.I 39) B t') (e : cR t' = cR t) : NR t' := fun r hr hz => h.2.2 r (by rw [← e]; exact hr) (by rw [← h.1]; exact hz)
theorem NR.o {t : moS} (h : NR t) : NI (cR t) (t.I 39) False t := ⟨rfl, fun z => z.elim, h⟩
theorem rM_settle {t : moS} {p1 : Int32} (h : NR t) : aw (M_settle t p1) NR := fun z e => NR.i (nM_settle (cR t) (t.I 39) False h.o z e) (by unfold cR; rw [(fM_settle (W := wM_settle) rfl mfr.rf z e).S 37 (by decide)])
theorem cl_1 (x : Int32) : (x + 1).toNatClampNeg ≤ x.toNatClampNeg + 1 := by
  show (x + 1).toInt.toNat ≤ x.toInt.toNat + 1
  have h1 : (x + 1).toInt = (x.toInt + 1).bmod (2 ^ 32) := Int32.toInt_add x 1
  have h2 := Int32.toInt_lt x
  have h3 := Int32.le_toInt x
  rw [h1]
  unfold Int.bmod
  dsimp only
  split <;> omega
theorem rM_lineRouter {t : moS} (h : NR t) : aw (M_lineRouter t) (fun z => NR z.2) := by
  unfold M_lineRouter
  refine aw_if (aw_bind aw_t fun x1 _ => aw_if (aw_some h) (aw_bind aw_t fun x2 _ => aw_if (aw_if (aw_some h) ?_) (aw_some h))) (aw_some h)
  intro z e
  obtain ⟨s3, e3, e⟩ := Option.bind_eq_some_iff.mp e
  obtain ⟨s4, e4, e⟩ := Option.bind_eq_some_iff.mp e
  obtain ⟨s5, e5, e⟩ := Option.bind_eq_some_iff.mp e
  obtain ⟨s6, e6, e⟩ := Option.bind_eq_some_iff.mp e
  obtain ⟨s7, e7, e⟩ := Option.bind_eq_some_iff.mp e
  obtain ⟨s8, e8, e⟩ := Option.bind_eq_some_iff.mp e
  obtain ⟨s9, e9, e⟩ := Option.bind_eq_some_iff.mp e
  have m3 : mfr [38] t s3 := by rw [wrJ_x e3]; exact mfr.sj (by decide)
  have q4 := wrZ_x e4
  have m8 : mfr [40, 41, 42, 43] s4 s8 := by
    rw [wrI_x e8, wrI_x e7, wrI_x e6, wrI_x e5]
    exact ((mfr.si (by decide)).tr (mfr.si (by decide))).tr ((mfr.si (by decide)).tr (mfr.si (by decide)))
  have q9 := wrI_x e9
  have mz : mfr [68, 69] s9 z.2 ∨ ∃ u, mfr [68, 69] s9 u ∧ z.2 = moSS u 37 (u.S 37 + 1) := by
    unfold M_lineRouter_b114 at e
    refine (aw_lp (I := fun y => mfr [68, 69] s9 y.2) (R := fun z => mfr [68, 69] s9 z.2 ∨ ∃ u, mfr [68, 69] s9 u ∧ z.2 = moSS u 37 (u.S 37 + 1)) mfr.rf fun y hy => ?_) z e
    unfold M_lineRouter_s114
    refine aw_if (aw_bind (aw_wrI (by decide) hy) fun _ h2 => aw_bind (aw_wrI (by decide) h2) fun _ h3 => aw_some h3) (aw_xo ?_)
    intro z e
    cases e
    exact Or.inr ⟨y.2, hy, rfl⟩
  have i39 : ∀ j, z.2.I 39 j = if j = (t.S 37).toNatClampNeg then 1 else t.I 39 j := fun j => by
    have : z.2.I 39 j = s9.I 39 j := by
      rcases mz with m | ⟨u, m, e⟩
      · rw [m.I 39 (by decide)]
      · rw [e]
        show u.I 39 j = _
        rw [m.I 39 (by decide)]
    rw [this, q9, moSI_n (by decide), m8.I 39 (by decide), q4, evMI, m3.I 39 (by decide)]
    by_cases c : j = (t.S 37).toNatClampNeg
    · rw [if_pos ⟨rfl, c⟩, if_pos c]
      rfl
    · rw [if_neg (fun z => c z.2), if_neg c]
  have i44 : ∀ j, z.2.I 44 j = if j = (t.S 37).toNatClampNeg then -1 else t.I 44 j := fun j => by
    have : z.2.I 44 j = s9.I 44 j := by
      rcases mz with m | ⟨u, m, e⟩
      · rw [m.I 44 (by decide)]
      · rw [e]
        show u.I 44 j = _
        rw [m.I 44 (by decide)]
    rw [this, q9, evMI, m8.I 44 (by decide), q4, moSI_n (by decide), m3.I 44 (by decide)]
    by_cases c : j = (t.S 37).toNatClampNeg
    · rw [if_pos ⟨rfl, c⟩, if_pos c]
    · rw [if_neg (fun z => c z.2), if_neg c]
  have i105 : z.2.I 105 = t.I 105 := by
    have : z.2.I 105 = s9.I 105 := by
      rcases mz with m | ⟨u, m, e⟩
      · rw [m.I 105 (by decide)]
      · rw [e]
        show u.I 105 = _
        rw [m.I 105 (by decide)]
    rw [this, q9, moSI_n (by decide), m8.I 105 (by decide), q4, moSI_n (by decide), m3.I 105 (by decide)]
  have i37 : cR z.2 ≤ cR t + 1 := by
    have e9 : s9.S 37 = t.S 37 := by
      rw [q9]
      show s8.S 37 = _
      rw [m8.S 37 (by decide), q4]
      show s3.S 37 = _
      rw [m3.S 37 (by decide)]
    rcases mz with m | ⟨u, m, e⟩
    · unfold cR; rw [m.S 37 (by decide), e9]; omega
    · unfold cR
      rw [e, moSS_s, m.S 37 (by decide), e9]
      exact cl_1 _
  intro r hr hz
  rw [i39] at hz
  by_cases c : r = (t.S 37).toNatClampNeg
  · rw [if_pos c] at hz
    exact absurd hz (by decide)
  · rw [if_neg c] at hz
    obtain ⟨w1, w2⟩ := h r (by
      have : r ≠ cR t := c
      omega) hz
    refine ⟨?_, ?_⟩
    · unfold cN
      rw [i105]
      exact w1
    · rw [i44, if_neg c]
      exact w2
theorem rM_read_b96 {t : moS} {a1 : Int32} {a3 : Int32} (h : NR t) : aw (M_read_b96 t a1 a3) (Sum.elim (fun z => (fun z => NR z.2) z.2) (fun z => NR z.2)) := by
  unfold M_read_b96
  exact (aw_some (by first | assumption | trivial | exact True.intro))
theorem rM_lineJoin_b490 {t : moS} {a3 : Int32} {a4 : Int32} {a5 : Int32} {a6 : Int32} {a7 : Int32} {a8 : Int32} {a10 : Int32} {a11 : Int32} (h : NR t) : aw (M_lineJoin_b490 t a3 a4 a5 a6 a7 a8 a10 a11) (Sum.elim (fun z => NR z.2) (fun z => NR z.2)) := by
  unfold M_lineJoin_b490
  exact (aw_some (by first | assumption | trivial | exact True.intro))
theorem rM_lineJoin_b479 {t : moS} {a3 : Int32} {a4 : Int32} {a5 : Int32} {a6 : Int32} {a7 : Int32} {a8 : Int32} {a10 : Int32} {a11 : Int32} {u1 : Int32} {u2 : Int32} {u3 : Int32} (h : NR t) : aw (M_lineJoin_b479 t a3 a4 a5 a6 a7 a8 a10 a11 u1 u2 u3) (Sum.elim (fun z => NR z.2) (fun z => NR z.2)) := by
  unfold M_lineJoin_b479
  exact (aw_bind (nr_f (fM_takeKey (W := wM_takeKey) rfl mfr.rf) (by assumption) rfl) (fun _ h => (rM_lineJoin_b490 (by assumption))))
theorem rM_lineJoin_b458 {t : moS} {a3 : Int32} {a4 : Int32} {a5 : Int32} {a6 : Int32} {a7 : Int32} {a8 : Int32} {a10 : Int32} {a11 : Int32} (h : NR t) : aw (M_lineJoin_b458 t a3 a4 a5 a6 a7 a8 a10 a11) (Sum.elim (fun z => NR z.2) (fun z => NR z.2)) := by
  unfold M_lineJoin_b458
  exact (aw_bind aw_t (fun _ h => (aw_if (rM_lineJoin_b479 (by assumption)) (rM_lineJoin_b479 (by assumption)))))
theorem rM_lineJoin_b444 {t : moS} {a3 : Int32} {a4 : Int32} {a5 : Int32} {a6 : Int32} {a7 : Int32} {a8 : Int32} {a10 : Int32} {a11 : Int32} (h : NR t) : aw (M_lineJoin_b444 t a3 a4 a5 a6 a7 a8 a10 a11) (Sum.elim (fun z => NR z.2) (fun z => NR z.2)) := by
  unfold M_lineJoin_b444
  exact (aw_if (rM_lineJoin_b458 (by assumption)) (aw_if (rM_lineJoin_b458 (by assumption)) (rM_lineJoin_b490 (by assumption))))
theorem rM_lineJoin_s421 {t : moS} {a3 : Int32} {a4 : Int32} {a5 : Int32} {a6 : Int32} {a7 : Int32} {a8 : Int32} {a10 : Int32} {a11 : Int32} (h : NR t) : aw (M_lineJoin_s421 t a3 a4 a5 a6 a7 a8 a10 a11) (Sum.elim (fun z => NR z.2) (fun z => NR z.2)) := by
  unfold M_lineJoin_s421
  exact (aw_if (aw_if (aw_bind (nr_f (fM_takePassword (W := wM_takePassword) rfl mfr.rf) (by assumption) rfl) (fun _ h => (rM_lineJoin_b444 (by assumption)))) (rM_lineJoin_b444 (by assumption))) (aw_xo (aw_bind (rM_settle (by assumption)) (fun _ h => (aw_bind aw_t (fun _ h => (aw_if (aw_some (by first | assumption | trivial | exact True.intro)) (aw_bind aw_t (fun _ h => (aw_if (aw_some (by first | assumption | trivial | exact True.intro)) (aw_bind (nr_f (fM_request (W := wM_request) rfl mfr.rf) (by assumption) rfl) (fun _ h => (aw_some (by first | assumption | trivial | exact True.intro))))))))))))))
theorem rM_lineJoin_b421 {t : moS} {a3 : Int32} {a4 : Int32} {a5 : Int32} {a6 : Int32} {a7 : Int32} {a8 : Int32} {a10 : Int32} {a11 : Int32} (h : NR t) : aw (M_lineJoin_b421 t a3 a4 a5 a6 a7 a8 a10 a11) (fun z => NR z.2) := by
  unfold M_lineJoin_b421
  refine aw_lp (I := (fun z => NR z.2)) ?_ ?_
  · exact h
  · intro y hy
    exact (rM_lineJoin_s421 hy)
theorem rM_lineJoin_b418 {t : moS} {a3 : Int32} {a4 : Int32} {a5 : Int32} {a6 : Int32} {a7 : Int32} {a8 : Int32} {a10 : Int32} (h : NR t) : aw (M_lineJoin_b418 t a3 a4 a5 a6 a7 a8 a10) (fun z => NR z.2) := by
  unfold M_lineJoin_b418
  exact (rM_lineJoin_b421 (by assumption))
theorem rM_lineJoin_b399 {t : moS} {a3 : Int32} {a4 : Int32} {a5 : Int32} {a6 : Int32} {a7 : Int32} {a8 : Int32} {a10 : Int32} (h : NR t) : aw (M_lineJoin_b399 t a3 a4 a5 a6 a7 a8 a10) (fun z => NR z.2) := by
  unfold M_lineJoin_b399
  exact (aw_bind aw_t (fun _ h => (aw_if (aw_bind (nr_wrZ (by assumption) rfl) (fun _ h => (rM_lineJoin_b418 (by assumption)))) (rM_lineJoin_b418 (by assumption)))))
theorem rM_lineJoin_b383 {t : moS} {a2 : Int32} {a3 : Int32} {a4 : Int32} {a5 : Int32} {a6 : Int32} {a7 : Int32} {a8 : Int32} {a10 : Int32} (h : NR t) : aw (M_lineJoin_b383 t a2 a3 a4 a5 a6 a7 a8 a10) (fun z => NR z.2) := by
  unfold M_lineJoin_b383
  exact (aw_if (aw_bind aw_t (fun _ h => (aw_bind (nr_wrJ (by assumption) rfl) (fun _ h => (rM_lineJoin_b399 (by assumption)))))) (rM_lineJoin_b399 (by assumption)))
theorem rM_lineJoin_b315 {t : moS} {a1 : Int32} {a2 : Int32} {a3 : Int32} {a4 : Int32} {a5 : Int32} {a6 : Int32} {a7 : Int32} {a8 : Int32} (h : NR t) : aw (M_lineJoin_b315 t a1 a2 a3 a4 a5 a6 a7 a8) (fun z => NR z.2) := by
  unfold M_lineJoin_b315
  exact (aw_bind (nr_wrZ (by assumption) rfl) (fun _ h => (aw_bind (nr_wrJ (by assumption) rfl) (fun _ h => (aw_bind (nr_wrJ (by assumption) rfl) (fun _ h => (aw_bind (nr_wrI (by assumption) rfl) (fun _ h => (aw_if (aw_bind aw_t (fun _ h => (aw_bind (nr_wrI (by assumption) rfl) (fun _ h => (rM_lineJoin_b383 (by assumption)))))) (rM_lineJoin_b383 (by assumption)))))))))))
theorem rM_lineJoin_b282 {t : moS} {a1 : Int32} {a2 : Int32} {a3 : Int32} {a4 : Int32} {a5 : Int32} {a6 : Int32} {a7 : Int32} {a8 : Int32} (h : NR t) : aw (M_lineJoin_b282 t a1 a2 a3 a4 a5 a6 a7 a8) (fun z => NR z.2) := by
  unfold M_lineJoin_b282
  exact (aw_bind aw_t (fun _ h => (aw_if (aw_some (by first | assumption | trivial | exact True.intro)) (aw_if (aw_bn2 (nr_f2 (fM_newInterface (W := wM_newInterface) rfl mfr.rf) (by assumption) rfl) (fun _ _ h => (rM_lineJoin_b315 (by assumption)))) (rM_lineJoin_b315 (by assumption))))))
theorem rM_lineJoin_b256 {t : moS} {a1 : Int32} {a2 : Int32} {a3 : Int32} {a4 : Int32} {a5 : Int32} {a6 : Int32} {a7 : Int32} {a8 : Int32} {u0 : Int32} (h : NR t) : aw (M_lineJoin_b256 t a1 a2 a3 a4 a5 a6 a7 a8 u0) (fun z => NR z.2) := by
  unfold M_lineJoin_b256
  exact (aw_if (aw_some (by first | assumption | trivial | exact True.intro)) (aw_if (aw_bind aw_t (fun _ h => (aw_if (aw_some (by first | assumption | trivial | exact True.intro)) (rM_lineJoin_b282 (by assumption))))) (rM_lineJoin_b282 (by assumption))))
theorem rM_lineJoin_b255 {t : moS} {a1 : Int32} {a2 : Int32} {a3 : Int32} {a4 : Int32} {a5 : Int32} {a6 : Int32} {a7 : Int32} {a8 : Int32} (h : NR t) : aw (M_lineJoin_b255 t a1 a2 a3 a4 a5 a6 a7 a8) (fun z => NR z.2) := by
  unfold M_lineJoin_b255
  exact (rM_lineJoin_b256 (by assumption))
theorem rM_lineJoin_b233 {t : moS} {a1 : Int32} {a2 : Int32} {a3 : Int32} {a4 : Int32} {a5 : Int32} {a6 : Int32} {a7 : Int32} {a8 : Int32} (h : NR t) : aw (M_lineJoin_b233 t a1 a2 a3 a4 a5 a6 a7 a8) (fun z => NR z.2) := by
  unfold M_lineJoin_b233
  exact (aw_bind aw_t (fun _ h => (aw_if (rM_lineJoin_b255 (by assumption)) (aw_bind aw_t (fun _ h => (aw_if (rM_lineJoin_b255 (by assumption)) (rM_lineJoin_b256 (by assumption))))))))
theorem rM_lineJoin_b221 {t : moS} {a1 : Int32} {a2 : Int32} {a3 : Int32} {a4 : Int32} {a5 : Int32} {a6 : Int32} {a7 : Int32} {a8 : Int32} (h : NR t) : aw (M_lineJoin_b221 t a1 a2 a3 a4 a5 a6 a7 a8) (fun z => NR z.2) := by
  unfold M_lineJoin_b221
  exact (aw_if (rM_lineJoin_b233 (by assumption)) (aw_bind aw_t (fun _ h => (aw_if (rM_lineJoin_b255 (by assumption)) (rM_lineJoin_b233 (by assumption))))))
theorem rM_lineJoin_b206 {t : moS} {a1 : Int32} {a2 : Int32} {a3 : Int32} {a4 : Int32} {a5 : Int32} {a6 : Int32} {a7 : Int32} {a8 : Int32} (h : NR t) : aw (M_lineJoin_b206 t a1 a2 a3 a4 a5 a6 a7 a8) (fun z => NR z.2) := by
  unfold M_lineJoin_b206
  exact (aw_if (rM_lineJoin_b221 (by assumption)) (aw_bind aw_t (fun _ h => (aw_if (rM_lineJoin_b255 (by assumption)) (rM_lineJoin_b221 (by assumption))))))
theorem rM_lineJoin_b125 {t : moS} {a1 : Int32} {a2 : Int32} {a3 : Int32} {a4 : Int32} {a5 : Int32} (h : NR t) : aw (M_lineJoin_b125 t a1 a2 a3 a4 a5) (fun z => NR z.2) := by
  unfold M_lineJoin_b125
  exact (aw_bind aw_t (fun _ h => (aw_bind aw_t (fun _ h => (aw_bind aw_t (fun _ h => (aw_bind aw_t (fun _ h => (aw_if (aw_some (by first | assumption | trivial | exact True.intro)) (aw_if (aw_some (by first | assumption | trivial | exact True.intro)) (aw_bn2 (nr_f2 (fM_isAddressWithLength (W := wM_isAddressWithLength) rfl mfr.rf) (by assumption) rfl) (fun _ _ h => (aw_if (aw_some (by first | assumption | trivial | exact True.intro)) (aw_bind aw_t (fun _ h => (aw_if (rM_lineJoin_b206 (by assumption)) (aw_bind aw_t (fun _ h => (aw_if (rM_lineJoin_b206 (by assumption)) (aw_some (by first | assumption | trivial | exact True.intro)))))))))))))))))))))
theorem rM_lineJoin {t : moS} (h : NR t) : aw (M_lineJoin t) (fun z => NR z.2) := by
  unfold M_lineJoin
  exact (aw_if (aw_some (by first | assumption | trivial | exact True.intro)) (aw_bind aw_t (fun _ h => (aw_if (aw_some (by first | assumption | trivial | exact True.intro)) (aw_bind aw_t (fun _ h => (aw_bind aw_t (fun _ h => (aw_bind aw_t (fun _ h => (aw_bind aw_t (fun _ h => (aw_bind aw_t (fun _ h => (aw_if (aw_bind aw_t (fun _ h => (aw_if (rM_lineJoin_b125 (by assumption)) (aw_bind aw_t (fun _ h => (aw_if (rM_lineJoin_b125 (by assumption)) (aw_bind aw_t (fun _ h => (aw_if (rM_lineJoin_b125 (by assumption)) (aw_some (by first | assumption | trivial | exact True.intro))))))))))) (rM_lineJoin_b125 (by assumption)))))))))))))))))
theorem rM_lineStatic_b228 {t : moS} {a1 : Int32} {u1 : Int32} {u2 : Int32} (h : NR t) : aw (M_lineStatic_b228 t a1 u1 u2) (fun z => NR z.2) := by
  unfold M_lineStatic_b228
  exact (aw_bind (nr_wrI (by assumption) rfl) (fun _ h => (aw_bind (rM_settle (by assumption)) (fun _ h => (aw_some (by first | assumption | trivial | exact True.intro))))))
theorem rM_lineStatic_b199 {t : moS} {a1 : Int32} {a2 : Int32} {a3 : Int32} (h : NR t) : aw (M_lineStatic_b199 t a1 a2 a3) (fun z => NR z.2) := by
  unfold M_lineStatic_b199
  exact (aw_bind aw_t (fun _ h => (aw_bind (nr_wrI (by assumption) rfl) (fun _ h => (aw_if (aw_bind aw_t (fun _ h => (rM_lineStatic_b228 (by assumption)))) (rM_lineStatic_b228 (by assumption)))))))
theorem rM_lineStatic_b132 {t : moS} {a1 : Int32} {a2 : Int32} {a3 : Int32} (h : NR t) : aw (M_lineStatic_b132 t a1 a2 a3) (fun z => NR z.2) := by
  unfold M_lineStatic_b132
  exact (aw_if (aw_bind aw_t (fun _ h => (aw_bind aw_t (fun _ h => (aw_bind (nr_wrI (by assumption) rfl) (fun _ h => (aw_bind (nr_wrI (by assumption) rfl) (fun _ h => (aw_bind (nr_wrJ (by assumption) rfl) (fun _ h => (aw_bind (nr_wrJ (by assumption) rfl) (fun _ h => (aw_bind (nr_wrI (by assumption) rfl) (fun _ h => (rM_lineStatic_b199 (by assumption)))))))))))))))) (rM_lineStatic_b199 (by assumption)))
theorem rM_lineStatic_b91 {t : moS} {a1 : Int32} {a2 : Int32} (h : NR t) : aw (M_lineStatic_b91 t a1 a2) (fun z => NR z.2) := by
  unfold M_lineStatic_b91
  exact (aw_bind aw_t (fun _ h => (aw_if (aw_bind aw_t (fun _ h => (aw_if (aw_some (by first | assumption | trivial | exact True.intro)) (rM_lineStatic_b132 (by assumption))))) (rM_lineStatic_b132 (by assumption)))))
theorem rM_lineStatic {t : moS} (h : NR t) : aw (M_lineStatic t) (fun z => NR z.2) := by
  unfold M_lineStatic
  exact (aw_if (aw_some (by first | assumption | trivial | exact True.intro)) (aw_bind aw_t (fun _ h => (aw_if (aw_some (by first | assumption | trivial | exact True.intro)) (aw_bind aw_t (fun _ h => (aw_bind aw_t (fun _ h => (aw_if (aw_some (by first | assumption | trivial | exact True.intro)) (aw_bn2 (nr_f2 (fM_isPrefixWord (W := wM_isPrefixWord) rfl mfr.rf) (by assumption) rfl) (fun _ _ h => (aw_if (aw_some (by first | assumption | trivial | exact True.intro)) (aw_bind aw_t (fun _ h => (aw_bind aw_t (fun _ h => (aw_if (aw_some (by first | assumption | trivial | exact True.intro)) (aw_if (aw_bind aw_t (fun _ h => (aw_if (aw_some (by first | assumption | trivial | exact True.intro)) (rM_lineStatic_b91 (by assumption))))) (rM_lineStatic_b91 (by assumption))))))))))))))))))))
theorem rM_lineNostatic_s68 {t : moS} {a1 : Int32} {a3 : Int32} (h : NR t) : aw (M_lineNostatic_s68 t a1 a3) (Sum.elim (fun z => NR z.2) (fun z => NR z.2)) := by
  unfold M_lineNostatic_s68
  exact (aw_bind aw_t (fun _ h => (aw_if (aw_bind aw_t (fun _ h => (aw_bind (nr_wrI (by assumption) rfl) (fun _ h => (aw_bind aw_t (fun _ h => (aw_bind (nr_wrJ (by assumption) rfl) (fun _ h => (aw_bind aw_t (fun _ h => (aw_bind (nr_wrJ (by assumption) rfl) (fun _ h => (aw_bind aw_t (fun _ h => (aw_bind (nr_wrI (by assumption) rfl) (fun _ h => (aw_bind aw_t (fun _ h => (aw_bind (nr_wrI (by assumption) rfl) (fun _ h => (aw_bind aw_t (fun _ h => (aw_bind (nr_wrI (by assumption) rfl) (fun _ h => (aw_some (by first | assumption | trivial | exact True.intro)))))))))))))))))))))))))) (aw_xo (aw_bind aw_t (fun _ h => (aw_bind (nr_wrI (by assumption) rfl) (fun _ h => (aw_bind (rM_settle (by assumption)) (fun _ h => (aw_some (by first | assumption | trivial | exact True.intro))))))))))))
theorem rM_lineNostatic_b68 {t : moS} {a1 : Int32} {a3 : Int32} (h : NR t) : aw (M_lineNostatic_b68 t a1 a3) (fun z => NR z.2) := by
  unfold M_lineNostatic_b68
  refine aw_lp (I := (fun z => NR z.2)) ?_ ?_
  · exact h
  · intro y hy
    exact (rM_lineNostatic_s68 hy)
theorem rM_lineNostatic {t : moS} (h : NR t) : aw (M_lineNostatic t) (fun z => NR z.2) := by
  unfold M_lineNostatic
  exact (aw_if (aw_bind aw_t (fun _ h => (aw_bind aw_t (fun _ h => (aw_if (aw_some (by first | assumption | trivial | exact True.intro)) (aw_bn2 (nr_f2 (fM_isPrefixWord (W := wM_isPrefixWord) rfl mfr.rf) (by assumption) rfl) (fun _ _ h => (aw_if (aw_some (by first | assumption | trivial | exact True.intro)) (aw_bind aw_t (fun _ h => (aw_if (aw_some (by first | assumption | trivial | exact True.intro)) (rM_lineNostatic_b68 (by assumption))))))))))))) (aw_some (by first | assumption | trivial | exact True.intro)))
theorem rM_line {t : moS} (h : NR t) : aw (M_line t) (fun z => NR z.2) := by
  unfold M_line
  exact (aw_bind aw_t (fun _ h => (aw_if (aw_bn2 (nr_f2 (fM_lineLink (W := wM_lineLink) rfl mfr.rf) (by assumption) rfl) (fun _ _ h => (aw_some (by first | assumption | trivial | exact True.intro)))) (aw_if (aw_bn2 (rM_lineRouter (by assumption)) (fun _ _ h => (aw_some (by first | assumption | trivial | exact True.intro)))) (aw_if (aw_bn2 (rM_lineJoin (by assumption)) (fun _ _ h => (aw_some (by first | assumption | trivial | exact True.intro)))) (aw_if (aw_bn2 (nr_f2 (fM_lineKey (W := wM_lineKey) rfl mfr.rf) (by assumption) rfl) (fun _ _ h => (aw_some (by first | assumption | trivial | exact True.intro)))) (aw_if (aw_bn2 (nr_f2 (fM_lineNokey (W := wM_lineNokey) rfl mfr.rf) (by assumption) rfl) (fun _ _ h => (aw_some (by first | assumption | trivial | exact True.intro)))) (aw_if (aw_bn2 (rM_lineStatic (by assumption)) (fun _ _ h => (aw_some (by first | assumption | trivial | exact True.intro)))) (aw_if (aw_bn2 (rM_lineNostatic (by assumption)) (fun _ _ h => (aw_some (by first | assumption | trivial | exact True.intro)))) (aw_if (aw_bn2 (nr_f2 (fM_lineFilter (W := wM_lineFilter) rfl mfr.rf) (by assumption) rfl) (fun _ _ h => (aw_some (by first | assumption | trivial | exact True.intro)))) (aw_if (aw_bn2 (nr_f2 (fM_lineList (W := wM_lineList) rfl mfr.rf) (by assumption) rfl) (fun _ _ h => (aw_some (by first | assumption | trivial | exact True.intro)))) (aw_if (aw_bn2 (nr_f2 (fM_lineDistribute (W := wM_lineDistribute) rfl mfr.rf) (by assumption) rfl) (fun _ _ h => (aw_some (by first | assumption | trivial | exact True.intro)))) (aw_if (aw_bn2 (nr_f2 (fM_lineOffset (W := wM_lineOffset) rfl mfr.rf) (by assumption) rfl) (fun _ _ h => (aw_some (by first | assumption | trivial | exact True.intro)))) (aw_if (aw_bn2 (nr_f2 (fM_lineSummary (W := wM_lineSummary) rfl mfr.rf) (by assumption) rfl) (fun _ _ h => (aw_some (by first | assumption | trivial | exact True.intro)))) (aw_if (aw_bn2 (nr_f2 (fM_lineNeighbor (W := wM_lineNeighbor) rfl mfr.rf) (by assumption) rfl) (fun _ _ h => (aw_some (by first | assumption | trivial | exact True.intro)))) (aw_if (aw_bn2 (nr_f2 (fM_lineRedistribute (W := wM_lineRedistribute) rfl mfr.rf) (by assumption) rfl) (fun _ _ h => (aw_some (by first | assumption | trivial | exact True.intro)))) (aw_if (aw_bn2 (nr_f2 (fM_lineDefault (W := wM_lineDefault) rfl mfr.rf) (by assumption) rfl) (fun _ _ h => (aw_some (by first | assumption | trivial | exact True.intro)))) (aw_if (aw_bn2 (nr_f2 (fM_lineTimers (W := wM_lineTimers) rfl mfr.rf) (by assumption) rfl) (fun _ _ h => (aw_some (by first | assumption | trivial | exact True.intro)))) (aw_some (by first | assumption | trivial | exact True.intro))))))))))))))))))))
theorem rM_read_b56 {t : moS} {a1 : Int32} {a2 : Int32} {a3 : Int32} (h : NR t) : aw (M_read_b56 t a1 a2 a3) (Sum.elim (fun z => (fun z => NR z.2) z.2) (fun z => NR z.2)) := by
  unfold M_read_b56
  exact (aw_bind (nr_f (fM_part (W := wM_part) rfl mfr.rf) (by assumption) rfl) (fun _ h => (aw_if (aw_bind aw_t (fun _ h => (aw_bind aw_t (fun _ h => (aw_if (rM_read_b96 (by assumption)) (aw_bn2 (rM_line (by assumption)) (fun _ _ h => (aw_let (P := NR) (nr_s (by assumption) rfl) (fun _ h => (rM_read_b96 (by assumption))))))))))) (rM_read_b96 (by assumption)))))
theorem rM_read_s31 {t : moS} {a1 : Int32} {a2 : Int32} {a3 : Int32} (h : NR t) : aw (M_read_s31 t a1 a2 a3) (Sum.elim (fun z => NR z.2) (Sum.elim (fun z => (fun z => NR z.2) z.2) (fun z => NR z.2))) := by
  unfold M_read_s31
  exact (aw_if (aw_bind aw_t (fun _ h => (aw_if (aw_xo (rM_read_b56 (by assumption))) (aw_some (by first | assumption | trivial | exact True.intro))))) (aw_xo (rM_read_b56 (by assumption))))
theorem rM_read_b31 {t : moS} {a1 : Int32} {a2 : Int32} {a3 : Int32} (h : NR t) : aw (M_read_b31 t a1 a2 a3) (Sum.elim (fun z => (fun z => NR z.2) z.2) (fun z => NR z.2)) := by
  unfold M_read_b31
  refine aw_lp (I := (fun z => NR z.2)) ?_ ?_
  · exact h
  · intro y hy
    exact (rM_read_s31 hy)
theorem rM_read_s14 {t : moS} {a1 : Int32} {a2 : Int32} (h : NR t) : aw (M_read_s14 t a1 a2) (Sum.elim (fun z => (fun z => NR z.2) z.2) (fun z => NR z.2)) := by
  unfold M_read_s14
  exact (aw_if (aw_if (rM_read_b31 (by assumption)) (aw_xo (nr_f2 (fM_read_b103 (W := wM_read_b103) rfl mfr.rf) (by assumption) rfl))) (aw_xo (nr_f2 (fM_read_b103 (W := wM_read_b103) rfl mfr.rf) (by assumption) rfl)))
theorem rM_read_b14 {t : moS} {a1 : Int32} {a2 : Int32} (h : NR t) : aw (M_read_b14 t a1 a2) (fun z => NR z.2) := by
  unfold M_read_b14
  refine aw_lp (I := (fun z => (fun z => NR z.2) z.2)) ?_ ?_
  · exact h
  · intro y hy
    exact (rM_read_s14 hy)
theorem rM_read {t : moS} (h : NR t) : aw (M_read t) (fun z => NR z.2) := by
  unfold M_read
  exact (aw_let (P := NR) (nr_s (by assumption) rfl) (fun _ h => (aw_let (P := NR) (nr_s (by assumption) rfl) (fun _ h => (rM_read_b14 (by assumption))))))
/-- a link goes up or down, ticks pass -/
theorem rM_link {t : moS} {p1 p2 : Int32} (h : NR t) : aw (M_link t p1 p2) (fun z => NR z.2) := fun z e => NR.i (nM_link (cR t) (t.I 39) False h.o z e) (by unfold cR; rw [(fM_link (W := wM_link) rfl mfr.rf z e).S 37 (by decide)])
theorem rM_ticks {t : moS} {p1 : Int32} (h : NR t) (hI : t.N 70 = 6 ∧ ∀ r, r < 6 → rng (t.I 70 r) 0 4) : aw (M_ticks t p1) (fun z => NR z.2) := fun z e => NR.i (nM_ticks (cR t) (t.I 39) True trivial ⟨rfl, fun _ => hI, h⟩ z e) (by unfold cR; rw [(fM_ticks (W := wM_ticks) rfl mfr.rf z e).S 37 (by decide)])
