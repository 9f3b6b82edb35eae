/-! The times of learned routes stay in their bounds. -/
def AGs (t : moS) : Prop := ∀ k, rng (t.I 120 k) 0 20000 ∧ rng (t.I 121 k) 0 1000
theorem AGs.m {t t' : moS} {W : List Nat} (h : AGs t) (m : mfr W t t') (d : 120 ∉ W ∧ 121 ∉ W) : AGs t' := fun k => by
  rw [m.I 120 d.1, m.I 121 d.2]
  exact h k
theorem ag_wrI {t : moS} {k : Nat} {i v : Int32} (hk : k ≠ 120 ∧ k ≠ 121) (h : AGs t) : aw (wrI t k i v) AGs := fun z e => by
  unfold wrI at e
  split at e
  · cases e
  · cases e
    exact fun y => by
      rw [moSI_n (fun z => hk.1 z.symm), moSI_n (fun z => hk.2 z.symm)]
      exact h y
theorem ag_wrZ {t : moS} {k : Nat} {i v : Int32} (hk : k ≠ 120 ∧ k ≠ 121) (h : AGs t) : aw (wrZ t k i v) AGs := fun z e => by
  unfold wrZ at e
  split at e
  · cases e
  · cases e
    exact fun y => by
      rw [moSI_n (fun z => hk.1 z.symm), moSI_n (fun z => hk.2 z.symm)]
      exact h y
theorem ag_wrJ {t : moS} {k : Nat} {i : Int32} {v : Int64} (_ : k ≠ 120 ∧ k ≠ 121) (h : AGs t) : aw (wrJ t k i v) AGs := fun z e => by
  unfold wrJ at e
  split at e
  · cases e
  · cases e
    exact h
theorem ag_f {t : moS} {W : List Nat} {o : Option moS} (f : aw o (mfr W t)) (h : AGs t) (d : 120 ∉ W ∧ 121 ∉ W) : aw o AGs := fun z e => h.m (f z e) d
theorem ag_f2 {α : Type} {t : moS} {W : List Nat} {o : Option (α × moS)} (f : aw o (fun z => mfr W t z.2)) (h : AGs t) (d : 120 ∉ W ∧ 121 ∉ W) : aw o (fun z => AGs z.2) := fun z e => h.m (f z e) d
theorem aM_copyRoute {t : moS} {p1 : Int32} {p2 : Int32} (h : AGs t) : aw (M_copyRoute t p1 p2) AGs := by
  have rI : ∀ {u : moS} {k : Nat} {i : Int32}, aw (rdI u k i) (fun v => ∃ j, v = u.I k j) := fun {u k i} z e => by
    unfold rdI at e
    split at e
    · cases e
    · cases e
      exact ⟨_, rfl⟩
  have w0 : ∀ {u : moS} {i v : Int32}, AGs u → (∃ y, v = t.I 120 y ∨ rng v 0 20000) → rng v 0 20000 → aw (wrI u 120 i v) AGs := fun {u i v} hu _ hv z e => by
    unfold wrI at e
    split at e
    · cases e
    · cases e
      intro y
      refine ⟨?_, by rw [moSI_n (by decide)]; exact (hu y).2⟩
      rw [moSI_s]
      show rng (if y = _ then v else u.I 120 y) 0 20000
      split
      · exact hv
      · exact (hu y).1
  have w1 : ∀ {u : moS} {i v : Int32}, AGs u → rng v 0 1000 → aw (wrI u 121 i v) AGs := fun {u i v} hu hv z e => by
    unfold wrI at e
    split at e
    · cases e
    · cases e
      intro y
      refine ⟨by rw [moSI_n (by decide)]; exact (hu y).1, ?_⟩
      rw [moSI_s]
      show rng (if y = _ then v else u.I 121 y) 0 1000
      split
      · exact hv
      · exact (hu y).2
  unfold M_copyRoute
  exact (aw_bind aw_t (fun _ _ => (aw_bind (ag_wrI (by decide) (by assumption)) (fun _ h => (aw_bind aw_t (fun _ _ => (aw_bind (ag_wrJ (by decide) (by assumption)) (fun _ h => (aw_bind aw_t (fun _ _ => (aw_bind (ag_wrJ (by decide) (by assumption)) (fun _ h => (aw_bind aw_t (fun _ _ => (aw_bind (ag_wrI (by decide) (by assumption)) (fun _ h => (aw_bind aw_t (fun _ _ => (aw_bind (ag_wrI (by decide) (by assumption)) (fun _ h => (aw_bind aw_t (fun _ _ => (aw_bind (ag_wrI (by decide) (by assumption)) (fun _ h => (aw_bind aw_t (fun _ _ => (aw_bind (ag_wrI (by decide) (by assumption)) (fun _ h => (aw_bind aw_t (fun _ _ => (aw_bind (ag_wrI (by decide) (by assumption)) (fun _ h => (aw_bind aw_t (fun _ _ => (aw_bind (ag_wrJ (by decide) (by assumption)) (fun _ h => (aw_bind aw_t (fun _ _ => (aw_bind (ag_wrJ (by decide) (by assumption)) (fun _ h => (aw_bind aw_t (fun _ _ => (aw_bind (ag_wrI (by decide) (by assumption)) (fun _ h => (aw_bind aw_t (fun _ _ => (aw_bind (ag_wrJ (by decide) (by assumption)) (fun _ h => (aw_bind aw_t (fun _ _ => (aw_bind (ag_wrJ (by decide) (by assumption)) (fun _ h => (aw_bind aw_t (fun _ _ => (aw_bind (ag_wrZ (by decide) (by assumption)) (fun _ h => (aw_bind (P := fun v => rng v 0 20000) (fun z e => by obtain ⟨j, ej⟩ := rI z e; rw [ej]; exact (by assumption : AGs _) j |>.1) (fun _ hv120 => (aw_bind (w0 (by assumption) ⟨0, Or.inr hv120⟩ hv120) (fun _ h => (aw_bind (P := fun v => rng v 0 1000) (fun z e => by obtain ⟨j, ej⟩ := rI z e; rw [ej]; exact (by assumption : AGs _) j |>.2) (fun _ hv121 => (aw_bind (w1 (by assumption) hv121) (fun _ h => (aw_bind aw_t (fun _ _ => (aw_bind (ag_wrI (by decide) (by assumption)) (fun _ h => (aw_some (by assumption))))))))))))))))))))))))))))))))))))))))))))))))))))))))))))))))))))))
theorem aM_isDue_b85 {t : moS} {p1 : Int32} {p2 : Int32} {p3 : Int64} {p5 : Int64} {p7 : Int32} {a8 : Int32} (h : AGs t) : aw (M_isDue_b85 t p1 p2 p3 p5 p7 a8) (Sum.elim (fun z => AGs z.2) (fun z => AGs z.2)) := by
  unfold M_isDue_b85
  exact (aw_some (by first | assumption | trivial | exact True.intro))
theorem aM_isDue_s10 {t : moS} {p1 : Int32} {p2 : Int32} {p3 : Int64} {p5 : Int64} {p7 : Int32} {a8 : Int32} (h : AGs t) : aw (M_isDue_s10 t p1 p2 p3 p5 p7 a8) (Sum.elim (fun z => AGs z.2) (fun z => AGs z.2)) := by
  unfold M_isDue_s10
  exact (aw_bind aw_t (fun _ h => (aw_if (aw_bind aw_t (fun _ h => (aw_bind aw_t (fun _ h => (aw_if (aM_isDue_b85 (by assumption)) (aw_bind aw_t (fun _ h => (aw_if (aM_isDue_b85 (by assumption)) (aw_xo (aw_let (P := AGs) (by assumption) (fun _ h => (aw_bind aw_t (fun _ h => (aw_let (P := AGs) (by assumption) (fun _ h => (aw_let (P := AGs) (by assumption) (fun _ h => (aw_some (by first | assumption | trivial | exact True.intro))))))))))))))))))) (aw_xo (aw_bind aw_t (fun _ h => (aw_if (aw_some (by first | assumption | trivial | exact True.intro)) (aw_let (P := AGs) (by assumption) (fun _ h => (aw_bind aw_t (fun _ h => (aw_let (P := AGs) (by assumption) (fun _ h => (aw_let (P := AGs) (by assumption) (fun _ h => (aw_bind aw_t (fun _ h => (aw_let (P := AGs) (by assumption) (fun _ h => (aw_some (by first | assumption | trivial | exact True.intro)))))))))))))))))))))
theorem aM_settle_b89 {t : moS} {p1 : Int32} {a2 : Int32} (h : AGs t) : aw (M_settle_b89 t p1 a2) (Sum.elim (fun z => AGs z.2) AGs) := by
  unfold M_settle_b89
  exact (aw_some (by first | assumption | trivial | exact True.intro))
theorem aM_settle_b172 {t : moS} {p1 : Int32} {a2 : Int32} (h : AGs t) : aw (M_settle_b172 t p1 a2) (Sum.elim (fun z => AGs z.2) AGs) := by
  unfold M_settle_b172
  exact (aw_some (by first | assumption | trivial | exact True.intro))
theorem aM_insert_s24 {t : moS} {p1 : Int32} {p2 : Int32} {p3 : Int64} {p5 : Int64} {p7 : Int32} {a8 : Int32} (h : AGs t) : aw (M_insert_s24 t p1 p2 p3 p5 p7 a8) (Sum.elim (fun z => AGs z.2) (fun z => AGs z.2)) := by
  unfold M_insert_s24
  exact (aw_if (aw_bind aw_t (fun _ h => (aw_if (aw_xo (ag_f2 (fM_insert_b67 (W := wM_insert_b67) rfl mfr.rf) (by assumption) (by decide))) (aw_bind (aM_copyRoute (by assumption)) (fun _ h => (aw_some (by first | assumption | trivial | exact True.intro))))))) (aw_xo (ag_f2 (fM_insert_b67 (W := wM_insert_b67) rfl mfr.rf) (by assumption) (by decide))))
theorem aM_insert_b24 {t : moS} {p1 : Int32} {p2 : Int32} {p3 : Int64} {p5 : Int64} {p7 : Int32} {a8 : Int32} (h : AGs t) : aw (M_insert_b24 t p1 p2 p3 p5 p7 a8) (fun z => AGs z.2) := by
  unfold M_insert_b24
  refine aw_lp (I := (fun z => AGs z.2)) ?_ ?_
  · exact h
  · intro y hy
    exact (aM_insert_s24 hy)
theorem aM_insert {t : moS} {p1 : Int32} {p2 : Int32} {p3 : Int64} {p5 : Int64} {p7 : Int32} (h : AGs t) : aw (M_insert t p1 p2 p3 p5 p7) (fun z => AGs z.2) := by
  unfold M_insert
  exact (aw_bind aw_t (fun _ h => (aw_bind aw_t (fun _ h => (aw_bind (ag_wrI (by decide) (by assumption)) (fun _ h => (aM_insert_b24 (by assumption))))))))
theorem aM_come {t : moS} {p1 : Int32} {p2 : Int32} {p3 : Int64} {p5 : Int64} {p7 : Int32} (h : AGs t) : aw (M_come t p1 p2 p3 p5 p7) AGs := by
  unfold M_come
  exact (aw_bind aw_t (fun _ h => (aw_if (aw_bn2 (ag_f2 (fM_isDue (W := wM_isDue) rfl mfr.rf) (by assumption) (by decide)) (fun _ _ h => (aw_if (aw_some (by first | assumption | trivial | exact True.intro)) (aw_bn2 (aM_insert (by assumption)) (fun _ _ h => (aw_bind (ag_wrI (by decide) (by assumption)) (fun _ h => (aw_bind (ag_wrI (by decide) (by assumption)) (fun _ h => (aw_bind (ag_wrI (by decide) (by assumption)) (fun _ h => (aw_bind (ag_wrI (by decide) (by assumption)) (fun _ h => (aw_bind (ag_f (fM_markChanged (W := wM_markChanged) rfl mfr.rf) (by assumption) (by decide)) (fun _ h => (aw_some (by first | assumption | trivial | exact True.intro))))))))))))))))) (aw_some (by first | assumption | trivial | exact True.intro)))))
theorem aM_settle_s183 {t : moS} {p1 : Int32} {a2 : Int32} (h : AGs t) : aw (M_settle_s183 t p1 a2) (Sum.elim (fun z => AGs z.2) AGs) := by
  unfold M_settle_s183
  exact (aw_bind aw_t (fun _ h => (aw_if (aw_bind aw_t (fun _ h => (aw_bind aw_t (fun _ h => (aw_bind aw_t (fun _ h => (aw_bind aw_t (fun _ h => (aw_bind (aM_come (by assumption)) (fun _ h => (aw_some (by first | assumption | trivial | exact True.intro)))))))))))) (aw_xo (aw_some (by first | assumption | trivial | exact True.intro))))))
theorem aM_settle_b183 {t : moS} {p1 : Int32} {a2 : Int32} (h : AGs t) : aw (M_settle_b183 t p1 a2) AGs := by
  unfold M_settle_b183
  refine aw_lp (I := (fun z => AGs z.2)) ?_ ?_
  · exact h
  · intro y hy
    exact (aM_settle_s183 hy)
theorem aM_settle_s100 {t : moS} {p1 : Int32} {a2 : Int32} (h : AGs t) : aw (M_settle_s100 t p1 a2) (Sum.elim (fun z => AGs z.2) AGs) := by
  unfold M_settle_s100
  exact (aw_bind aw_t (fun _ h => (aw_if (aw_bind aw_t (fun _ h => (aw_if (aM_settle_b172 (by assumption)) (aw_bind aw_t (fun _ h => (aw_bind aw_t (fun _ h => (aw_bind aw_t (fun _ h => (aw_bind aw_t (fun _ h => (aw_bind aw_t (fun _ h => (aw_bind (aM_come (by assumption)) (fun _ h => (aM_settle_b172 (by assumption))))))))))))))))) (aw_xo (aM_settle_b183 (by assumption))))))
theorem aM_settle_b100 {t : moS} {p1 : Int32} {a2 : Int32} (h : AGs t) : aw (M_settle_b100 t p1 a2) AGs := by
  unfold M_settle_b100
  refine aw_lp (I := (fun z => AGs z.2)) ?_ ?_
  · exact h
  · intro y hy
    exact (aM_settle_s100 hy)
theorem aM_settle_s16 {t : moS} {p1 : Int32} {a2 : Int32} (h : AGs t) : aw (M_settle_s16 t p1 a2) (Sum.elim (fun z => AGs z.2) AGs) := by
  unfold M_settle_s16
  exact (aw_bind aw_t (fun _ h => (aw_if (aw_bind aw_t (fun _ h => (aw_bind aw_t (fun _ h => (aw_bind aw_t (fun _ h => (aw_bind aw_t (fun _ h => (aw_bn2 (ag_f2 (fM_isDue (W := wM_isDue) rfl mfr.rf) (by assumption) (by decide)) (fun _ _ h => (aw_if (aw_bind aw_t (fun _ h => (aw_if (aM_settle_b89 (by assumption)) (aw_bind (ag_f (fM_forsake (W := wM_forsake) rfl mfr.rf) (by assumption) (by decide)) (fun _ h => (aM_settle_b89 (by assumption))))))) (aw_bind (ag_f (fM_become (W := wM_become) rfl mfr.rf) (by assumption) (by decide)) (fun _ h => (aM_settle_b89 (by assumption))))))))))))))) (aw_xo (aM_settle_b100 (by assumption))))))
theorem aM_settle_b16 {t : moS} {p1 : Int32} {a2 : Int32} (h : AGs t) : aw (M_settle_b16 t p1 a2) AGs := by
  unfold M_settle_b16
  refine aw_lp (I := (fun z => AGs z.2)) ?_ ?_
  · exact h
  · intro y hy
    exact (aM_settle_s16 hy)
theorem aM_settle {t : moS} {p1 : Int32} (h : AGs t) : aw (M_settle t p1) AGs := by
  unfold M_settle
  exact (aw_bind aw_t (fun _ h => (aw_if (aw_some (by first | assumption | trivial | exact True.intro)) (aM_settle_b16 (by assumption)))))
theorem aM_remove_s2 {t : moS} {p1 : Int32} {a3 : Int32} (h : AGs t) : aw (M_remove_s2 t p1 a3) (Sum.elim (fun z => AGs z.2) AGs) := by
  unfold M_remove_s2
  exact (aw_bind aw_t (fun _ h => (aw_if (aw_bind (aM_copyRoute (by assumption)) (fun _ h => (aw_some (by first | assumption | trivial | exact True.intro)))) (aw_xo (aw_bind aw_t (fun _ h => (aw_bind (ag_wrI (by decide) (by assumption)) (fun _ h => (aw_some (by first | assumption | trivial | exact True.intro))))))))))
theorem aM_remove_b2 {t : moS} {p1 : Int32} {a3 : Int32} (h : AGs t) : aw (M_remove_b2 t p1 a3) AGs := by
  unfold M_remove_b2
  refine aw_lp (I := (fun z => AGs z.2)) ?_ ?_
  · exact h
  · intro y hy
    exact (aM_remove_s2 hy)
theorem aM_remove {t : moS} {p1 : Int32} {p2 : Int32} (h : AGs t) : aw (M_remove t p1 p2) AGs := by
  unfold M_remove
  exact (aM_remove_b2 (by assumption))
theorem aM_part_b74 {t : moS} {p2 : Int32} {a3 : Int32} (h : AGs t) : aw (M_part_b74 t p2 a3) (Sum.elim (fun z => AGs z.2) AGs) := by
  unfold M_part_b74
  exact (aw_bind aw_t (fun _ h => (aw_bind (ag_wrI (by decide) (by assumption)) (fun _ h => (aw_let (P := AGs) (by assumption) (fun _ h => (aw_some (by first | assumption | trivial | exact True.intro))))))))
theorem aM_part_s51 {t : moS} {p2 : Int32} {a3 : Int32} (h : AGs t) : aw (M_part_s51 t p2 a3) (Sum.elim (fun z => AGs z.2) (Sum.elim (fun z => AGs z.2) AGs)) := by
  unfold M_part_s51
  exact (aw_if (aw_bind aw_t (fun _ h => (aw_if (aw_some (by first | assumption | trivial | exact True.intro)) (aw_xo (aM_part_b74 (by assumption)))))) (aw_xo (aM_part_b74 (by assumption))))
theorem aM_part_b51 {t : moS} {p2 : Int32} {a3 : Int32} (h : AGs t) : aw (M_part_b51 t p2 a3) (Sum.elim (fun z => AGs z.2) AGs) := by
  unfold M_part_b51
  refine aw_lp (I := (fun z => AGs z.2)) ?_ ?_
  · exact h
  · intro y hy
    exact (aM_part_s51 hy)
theorem aM_part_b35 {t : moS} {p2 : Int32} {a3 : Int32} (h : AGs t) : aw (M_part_b35 t p2 a3) (Sum.elim (fun z => AGs z.2) AGs) := by
  unfold M_part_b35
  exact (aw_if (aw_xo (aw_some (by first | assumption | trivial | exact True.intro))) (aw_bind (ag_wrI (by decide) (by assumption)) (fun _ h => (aM_part_b51 (by assumption)))))
theorem aM_part_s12 {t : moS} {p2 : Int32} {a3 : Int32} (h : AGs t) : aw (M_part_s12 t p2 a3) (Sum.elim (fun z => AGs z.2) (Sum.elim (fun z => AGs z.2) AGs)) := by
  unfold M_part_s12
  exact (aw_if (aw_bind aw_t (fun _ h => (aw_if (aw_xo (aM_part_b35 (by assumption))) (aw_some (by first | assumption | trivial | exact True.intro))))) (aw_xo (aM_part_b35 (by assumption))))
theorem aM_part_b12 {t : moS} {p2 : Int32} {a3 : Int32} (h : AGs t) : aw (M_part_b12 t p2 a3) (Sum.elim (fun z => AGs z.2) AGs) := by
  unfold M_part_b12
  refine aw_lp (I := (fun z => AGs z.2)) ?_ ?_
  · exact h
  · intro y hy
    exact (aM_part_s12 hy)
theorem aM_part_s7 {t : moS} {p2 : Int32} {a3 : Int32} (h : AGs t) : aw (M_part_s7 t p2 a3) (Sum.elim (fun z => AGs z.2) AGs) := by
  unfold M_part_s7
  exact (aw_if (aM_part_b12 (by assumption)) (aw_xo (aw_some (by first | assumption | trivial | exact True.intro))))
theorem aM_read_b96 {t : moS} {a1 : Int32} {a3 : Int32} (h : AGs t) : aw (M_read_b96 t a1 a3) (Sum.elim (fun z => (fun z => AGs z.2) z.2) (fun z => AGs z.2)) := by
  unfold M_read_b96
  exact (aw_some (by first | assumption | trivial | exact True.intro))
theorem aM_lineRouter_s114 {t : moS} {a3 : Int32} {a4 : Int32} (h : AGs t) : aw (M_lineRouter_s114 t a3 a4) (Sum.elim (fun z => AGs z.2) (fun z => AGs z.2)) := by
  unfold M_lineRouter_s114
  exact (aw_if (aw_bind (ag_wrI (by decide) (by assumption)) (fun _ h => (aw_bind (ag_wrI (by decide) (by assumption)) (fun _ h => (aw_some (by first | assumption | trivial | exact True.intro)))))) (aw_xo (aw_let (P := AGs) (by assumption) (fun _ h => (aw_some (by first | assumption | trivial | exact True.intro))))))
theorem aM_readFour_b83 {t : moS} {p2 : Int32} {a3 : Int64} {a6 : Int32} {a7 : Int32} {a8 : Int32} {u0 : Int32} {u1 : Int32} (h : AGs t) : aw (M_readFour_b83 t p2 a3 a6 a7 a8 u0 u1) (Sum.elim (fun z => (fun z => (fun z => AGs z.2) z.2) z.2) (fun z => AGs z.2)) := by
  unfold M_readFour_b83
  exact (aw_if (aw_xo (aw_some (by first | assumption | trivial | exact True.intro))) (aw_some (by first | assumption | trivial | exact True.intro)))
theorem aM_readFour_b72 {t : moS} {p2 : Int32} {a3 : Int64} {a6 : Int32} {a7 : Int32} {a8 : Int32} {u0 : Int32} (h : AGs t) : aw (M_readFour_b72 t p2 a3 a6 a7 a8 u0) (Sum.elim (fun z => (fun z => (fun z => AGs z.2) z.2) z.2) (fun z => AGs z.2)) := by
  unfold M_readFour_b72
  exact (aw_if (aM_readFour_b83 (by assumption)) (aM_readFour_b83 (by assumption)))
theorem aM_readFour_b42 {t : moS} {p2 : Int32} {a3 : Int64} {a5 : Int32} {a6 : Int32} {a7 : Int32} (h : AGs t) : aw (M_readFour_b42 t p2 a3 a5 a6 a7) (Sum.elim (fun z => (fun z => (fun z => AGs z.2) z.2) z.2) (fun z => AGs z.2)) := by
  unfold M_readFour_b42
  exact (aw_bind aw_t (fun _ h => (aw_if (aw_xo (aw_some (by first | assumption | trivial | exact True.intro))) (aw_if (aM_readFour_b72 (by assumption)) (aM_readFour_b72 (by assumption))))))
theorem aM_readFour_s18 {t : moS} {p2 : Int32} {a3 : Int64} {a5 : Int32} {a6 : Int32} {a7 : Int32} (h : AGs t) : aw (M_readFour_s18 t p2 a3 a5 a6 a7) (Sum.elim (fun z => AGs z.2) (Sum.elim (fun z => (fun z => (fun z => AGs z.2) z.2) z.2) (fun z => AGs z.2))) := by
  unfold M_readFour_s18
  exact (aw_if (aw_bind aw_t (fun _ h => (aw_if (aw_xo (aM_readFour_b42 (by assumption))) (aw_some (by first | assumption | trivial | exact True.intro))))) (aw_xo (aM_readFour_b42 (by assumption))))
theorem aM_readFour_b18 {t : moS} {p2 : Int32} {a3 : Int64} {a5 : Int32} {a6 : Int32} {a7 : Int32} (h : AGs t) : aw (M_readFour_b18 t p2 a3 a5 a6 a7) (Sum.elim (fun z => (fun z => (fun z => AGs z.2) z.2) z.2) (fun z => AGs z.2)) := by
  unfold M_readFour_b18
  refine aw_lp (I := (fun z => AGs z.2)) ?_ ?_
  · exact h
  · intro y hy
    exact (aM_readFour_s18 hy)
theorem aM_readFour_s8 {t : moS} {p2 : Int32} {a3 : Int64} {a5 : Int32} {a6 : Int32} (h : AGs t) : aw (M_readFour_s8 t p2 a3 a5 a6) (Sum.elim (fun z => (fun z => (fun z => AGs z.2) z.2) z.2) (fun z => AGs z.2)) := by
  unfold M_readFour_s8
  exact (aw_if (aM_readFour_b18 (by assumption)) (aw_xo (aw_let (P := AGs) (by assumption) (fun _ h => (aw_let (P := AGs) (by assumption) (fun _ h => (aw_let (P := AGs) (by assumption) (fun _ h => (aw_some (by first | assumption | trivial | exact True.intro))))))))))
theorem aM_readSix_b387 {t : moS} {a3 : Int32} {a4 : Int32} {a7 : Int64} {a9 : Int64} {a11 : Int32} (h : AGs t) : aw (M_readSix_b387 t a3 a4 a7 a9 a11) (Sum.elim (fun z => (fun z => (fun z => AGs z.2) z.2) z.2) (fun z => AGs z.2)) := by
  unfold M_readSix_b387
  exact (aw_some (by first | assumption | trivial | exact True.intro))
theorem aM_readSix_b354 {t : moS} {a3 : Int32} {a4 : Int32} {a7 : Int64} {a9 : Int64} {a11 : Int32} {u0 : Int32} (h : AGs t) : aw (M_readSix_b354 t a3 a4 a7 a9 a11 u0) (Sum.elim (fun z => (fun z => (fun z => AGs z.2) z.2) z.2) (fun z => AGs z.2)) := by
  unfold M_readSix_b354
  exact (aw_if (aM_readSix_b387 (by assumption)) (aM_readSix_b387 (by assumption)))
theorem aM_readSix_b316 {t : moS} {a3 : Int32} {a4 : Int32} {a7 : Int64} {a9 : Int64} {a11 : Int32} (h : AGs t) : aw (M_readSix_b316 t a3 a4 a7 a9 a11) (Sum.elim (fun z => (fun z => (fun z => AGs z.2) z.2) z.2) (fun z => AGs z.2)) := by
  unfold M_readSix_b316
  exact (aw_bind aw_t (fun _ h => (aM_readSix_b354 (by assumption))))
theorem aM_readSix_s296 {t : moS} {a3 : Int32} {a4 : Int32} {a7 : Int64} {a9 : Int64} {a11 : Int32} (h : AGs t) : aw (M_readSix_s296 t a3 a4 a7 a9 a11) (Sum.elim (fun z => (fun z => (fun z => AGs z.2) z.2) z.2) (fun z => AGs z.2)) := by
  unfold M_readSix_s296
  exact (aw_if (aw_if (aM_readSix_b316 (by assumption)) (aw_if (aM_readSix_b316 (by assumption)) (aw_if (aM_readSix_b354 (by assumption)) (aw_bind aw_t (fun _ h => (aM_readSix_b354 (by assumption))))))) (aw_xo (aw_let (P := AGs) (by assumption) (fun _ h => (aw_let (P := AGs) (by assumption) (fun _ h => (aw_let (P := AGs) (by assumption) (fun _ h => (aw_some (by first | assumption | trivial | exact True.intro))))))))))
theorem aM_readSix_b261 {t : moS} {p2 : Int32} {a3 : Int32} {a4 : Int32} {a5 : Int32} {a6 : Int32} (h : AGs t) : aw (M_readSix_b261 t p2 a3 a4 a5 a6) (Sum.elim (fun z => (fun z => (fun z => (fun z => AGs z.2) z.2) z.2) z.2) (fun z => AGs z.2)) := by
  unfold M_readSix_b261
  exact (aw_some (by first | assumption | trivial | exact True.intro))
theorem aM_readSix_b248 {t : moS} {p2 : Int32} {a3 : Int32} {a4 : Int32} {a5 : Int32} {u0 : Int32} (h : AGs t) : aw (M_readSix_b248 t p2 a3 a4 a5 u0) (Sum.elim (fun z => (fun z => (fun z => (fun z => AGs z.2) z.2) z.2) z.2) (fun z => AGs z.2)) := by
  unfold M_readSix_b248
  exact (aM_readSix_b261 (by assumption))
theorem aM_readSix_b253 {t : moS} {p2 : Int32} {a3 : Int32} {a4 : Int32} {a5 : Int32} {a6 : Int32} (h : AGs t) : aw (M_readSix_b253 t p2 a3 a4 a5 a6) (Sum.elim (fun z => (fun z => (fun z => (fun z => AGs z.2) z.2) z.2) z.2) (fun z => AGs z.2)) := by
  unfold M_readSix_b253
  exact (aw_if (aw_xo (aw_some (by first | assumption | trivial | exact True.intro))) (aM_readSix_b261 (by assumption)))
theorem aM_readSix_b178 {t : moS} {p2 : Int32} {a3 : Int32} {a4 : Int32} {a5 : Int32} {u0 : Int32} (h : AGs t) : aw (M_readSix_b178 t p2 a3 a4 a5 u0) (Sum.elim (fun z => (fun z => (fun z => (fun z => AGs z.2) z.2) z.2) z.2) (fun z => AGs z.2)) := by
  unfold M_readSix_b178
  exact (aw_if (aw_some (by first | assumption | trivial | exact True.intro)) (aw_bind aw_t (fun _ h => (aw_if (aw_if (aw_bind aw_t (fun _ h => (aw_if (aw_if (aw_if (aM_readSix_b248 (by assumption)) (aM_readSix_b248 (by assumption))) (aw_xo (aw_some (by first | assumption | trivial | exact True.intro)))) (aM_readSix_b253 (by assumption))))) (aM_readSix_b253 (by assumption))) (aw_xo (aw_some (by first | assumption | trivial | exact True.intro)))))))
theorem aM_readSix_b137 {t : moS} {p2 : Int32} {a3 : Int32} {a4 : Int32} {a5 : Int32} {a7 : Int32} {a8 : Int32} (h : AGs t) : aw (M_readSix_b137 t p2 a3 a4 a5 a7 a8) (Sum.elim (fun z => (fun z => (fun z => (fun z => AGs z.2) z.2) z.2) z.2) (fun z => AGs z.2)) := by
  unfold M_readSix_b137
  exact (aw_if (aw_xo (aw_some (by first | assumption | trivial | exact True.intro))) (aw_if (aw_xo (aw_some (by first | assumption | trivial | exact True.intro))) (aw_if (aw_xo (aw_some (by first | assumption | trivial | exact True.intro))) (aw_bind (ag_wrI (by decide) (by assumption)) (fun _ h => (aw_if (aM_readSix_b178 (by assumption)) (aM_readSix_b178 (by assumption))))))))
theorem aM_readSix_s84 {t : moS} {p2 : Int32} {a3 : Int32} {a4 : Int32} {a5 : Int32} {a7 : Int32} {a8 : Int32} (h : AGs t) : aw (M_readSix_s84 t p2 a3 a4 a5 a7 a8) (Sum.elim (fun z => (fun z => (fun z => AGs z.2) z.2) z.2) (Sum.elim (fun z => (fun z => (fun z => (fun z => AGs z.2) z.2) z.2) z.2) (fun z => AGs z.2))) := by
  unfold M_readSix_s84
  exact (aw_if (aw_bind aw_t (fun _ h => (aw_if (aw_xo (aM_readSix_b137 (by assumption))) (aw_if (aw_bind aw_t (fun _ h => (aw_some (by first | assumption | trivial | exact True.intro)))) (aw_xo (aM_readSix_b137 (by assumption))))))) (aw_xo (aM_readSix_b137 (by assumption))))
theorem aM_readSix_b84 {t : moS} {p2 : Int32} {a3 : Int32} {a4 : Int32} {a5 : Int32} {a7 : Int32} {a8 : Int32} (h : AGs t) : aw (M_readSix_b84 t p2 a3 a4 a5 a7 a8) (Sum.elim (fun z => (fun z => (fun z => (fun z => AGs z.2) z.2) z.2) z.2) (fun z => AGs z.2)) := by
  unfold M_readSix_b84
  refine aw_lp (I := (fun z => (fun z => (fun z => AGs z.2) z.2) z.2)) ?_ ?_
  · exact h
  · intro y hy
    exact (aM_readSix_s84 hy)
theorem aM_readSix_s73 {t : moS} {p2 : Int32} {a3 : Int32} {a4 : Int32} {a5 : Int32} {a6 : Int32} (h : AGs t) : aw (M_readSix_s73 t p2 a3 a4 a5 a6) (Sum.elim (fun z => (fun z => (fun z => (fun z => AGs z.2) z.2) z.2) z.2) (fun z => AGs z.2)) := by
  unfold M_readSix_s73
  exact (aw_if (aw_xo (aw_if (aw_if (ag_f2 (fM_readSix_b287 (W := wM_readSix_b287) rfl mfr.rf) (by assumption) (by decide)) (aw_some (by first | assumption | trivial | exact True.intro))) (aw_if (aw_some (by first | assumption | trivial | exact True.intro)) (ag_f2 (fM_readSix_b287 (W := wM_readSix_b287) rfl mfr.rf) (by assumption) (by decide))))) (aM_readSix_b84 (by assumption)))
theorem aM_isAddressWithLength_s21 {t : moS} {p1 : Int32} {a2 : Int32} {a3 : Int32} (h : AGs t) : aw (M_isAddressWithLength_s21 t p1 a2 a3) (Sum.elim (fun z => AGs z.2) (fun z => AGs z.2)) := by
  unfold M_isAddressWithLength_s21
  exact (aw_if (aw_bind aw_t (fun _ h => (aw_if (aw_xo (ag_f2 (fM_isAddressWithLength_b43 (W := wM_isAddressWithLength_b43) rfl mfr.rf) (by assumption) (by decide))) (aw_some (by first | assumption | trivial | exact True.intro))))) (aw_xo (ag_f2 (fM_isAddressWithLength_b43 (W := wM_isAddressWithLength_b43) rfl mfr.rf) (by assumption) (by decide))))
theorem aM_takePassword_s28 {t : moS} {p1 : Int32} {p2 : Int32} {a3 : Int32} (h : AGs t) : aw (M_takePassword_s28 t p1 p2 a3) (Sum.elim (fun z => AGs z.2) AGs) := by
  unfold M_takePassword_s28
  exact (aw_bind aw_t (fun _ h => (aw_if (aw_bind aw_t (fun _ h => (aw_bind aw_t (fun _ h => (aw_bind (ag_wrI (by decide) (by assumption)) (fun _ h => (aw_some (by first | assumption | trivial | exact True.intro)))))))) (aw_xo (aw_some (by first | assumption | trivial | exact True.intro))))))
theorem aM_takeKey_s94 {t : moS} {p4 : Int32} {p5 : Int32} {p6 : Int32} {a8 : Int32} {a9 : Int32} (h : AGs t) : aw (M_takeKey_s94 t p4 p5 p6 a8 a9) (Sum.elim (fun z => AGs z.2) AGs) := by
  unfold M_takeKey_s94
  exact (aw_bind aw_t (fun _ h => (aw_if (aw_bind aw_t (fun _ h => (aw_bind aw_t (fun _ h => (aw_bind (ag_wrI (by decide) (by assumption)) (fun _ h => (aw_some (by first | assumption | trivial | exact True.intro)))))))) (aw_xo (aw_bind (ag_wrI (by decide) (by assumption)) (fun _ h => (aw_bind (ag_wrI (by decide) (by assumption)) (fun _ h => (aw_some (by first | assumption | trivial | exact True.intro))))))))))
theorem aM_lineJoin_b490 {t : moS} {a3 : Int32} {a4 : Int32} {a5 : Int32} {a6 : Int32} {a7 : Int32} {a8 : Int32} {a10 : Int32} {a11 : Int32} (h : AGs t) : aw (M_lineJoin_b490 t a3 a4 a5 a6 a7 a8 a10 a11) (Sum.elim (fun z => AGs z.2) (fun z => AGs z.2)) := by
  unfold M_lineJoin_b490
  exact (aw_some (by first | assumption | trivial | exact True.intro))
theorem aM_lineJoin_b479 {t : moS} {a3 : Int32} {a4 : Int32} {a5 : Int32} {a6 : Int32} {a7 : Int32} {a8 : Int32} {a10 : Int32} {a11 : Int32} {u1 : Int32} {u2 : Int32} {u3 : Int32} (h : AGs t) : aw (M_lineJoin_b479 t a3 a4 a5 a6 a7 a8 a10 a11 u1 u2 u3) (Sum.elim (fun z => AGs z.2) (fun z => AGs z.2)) := by
  unfold M_lineJoin_b479
  exact (aw_bind (ag_f (fM_takeKey (W := wM_takeKey) rfl mfr.rf) (by assumption) (by decide)) (fun _ h => (aM_lineJoin_b490 (by assumption))))
theorem aM_lineJoin_b458 {t : moS} {a3 : Int32} {a4 : Int32} {a5 : Int32} {a6 : Int32} {a7 : Int32} {a8 : Int32} {a10 : Int32} {a11 : Int32} (h : AGs t) : aw (M_lineJoin_b458 t a3 a4 a5 a6 a7 a8 a10 a11) (Sum.elim (fun z => AGs z.2) (fun z => AGs z.2)) := by
  unfold M_lineJoin_b458
  exact (aw_bind aw_t (fun _ h => (aw_if (aM_lineJoin_b479 (by assumption)) (aM_lineJoin_b479 (by assumption)))))
theorem aM_lineJoin_b444 {t : moS} {a3 : Int32} {a4 : Int32} {a5 : Int32} {a6 : Int32} {a7 : Int32} {a8 : Int32} {a10 : Int32} {a11 : Int32} (h : AGs t) : aw (M_lineJoin_b444 t a3 a4 a5 a6 a7 a8 a10 a11) (Sum.elim (fun z => AGs z.2) (fun z => AGs z.2)) := by
  unfold M_lineJoin_b444
  exact (aw_if (aM_lineJoin_b458 (by assumption)) (aw_if (aM_lineJoin_b458 (by assumption)) (aM_lineJoin_b490 (by assumption))))
theorem aM_pad_b66 {t : moS} {p1 : Int32} {p2 : Int32} {a3 : Int32} {a4 : Int32} {u0 : Int32} (h : AGs t) : aw (M_pad_b66 t p1 p2 a3 a4 u0) (Sum.elim (fun z => AGs z.2) (fun z => AGs z.2)) := by
  unfold M_pad_b66
  exact (aw_bind (ag_wrI (by decide) (by assumption)) (fun _ h => (aw_some (by first | assumption | trivial | exact True.intro))))
theorem aM_pad_s39 {t : moS} {p1 : Int32} {p2 : Int32} {a3 : Int32} {a4 : Int32} (h : AGs t) : aw (M_pad_s39 t p1 p2 a3 a4) (Sum.elim (fun z => AGs z.2) (fun z => AGs z.2)) := by
  unfold M_pad_s39
  exact (aw_if (aw_if (aM_pad_b66 (by assumption)) (aM_pad_b66 (by assumption))) (aw_xo (aw_some (by first | assumption | trivial | exact True.intro))))
theorem aM_pad_s14 {t : moS} {p1 : Int32} {p2 : Int32} {a3 : Int32} (h : AGs t) : aw (M_pad_s14 t p1 p2 a3) (Sum.elim (fun z => AGs z.2) (fun z => AGs z.2)) := by
  unfold M_pad_s14
  exact (aw_if (aw_xo (ag_f2 (fM_pad_b39 (W := wM_pad_b39) rfl mfr.rf) (by assumption) (by decide))) (aw_bind (ag_wrI (by decide) (by assumption)) (fun _ h => (aw_some (by first | assumption | trivial | exact True.intro)))))
theorem aM_md5Block_b228 {t : moS} {a2 : Int32} {a3 : Int32} {a4 : Int32} {a5 : Int32} {a6 : Int32} {a7 : Int32} {u0 : Int32} (h : AGs t) : aw (M_md5Block_b228 t a2 a3 a4 a5 a6 a7 u0) (Sum.elim (fun z => (fun z => (fun z => (fun z => (fun z => AGs z.2) z.2) z.2) z.2) z.2) AGs) := by
  unfold M_md5Block_b228
  exact (aw_bind aw_t (fun _ h => (aw_some (by first | assumption | trivial | exact True.intro))))
theorem aM_md5Block_b177 {t : moS} {a2 : Int32} {a3 : Int32} {a4 : Int32} {a5 : Int32} {a6 : Int32} {u0 : Int32} (h : AGs t) : aw (M_md5Block_b177 t a2 a3 a4 a5 a6 u0) (Sum.elim (fun z => (fun z => (fun z => (fun z => (fun z => AGs z.2) z.2) z.2) z.2) z.2) AGs) := by
  unfold M_md5Block_b177
  exact (aw_if (aM_md5Block_b228 (by assumption)) (aw_if (aM_md5Block_b228 (by assumption)) (aw_if (aM_md5Block_b228 (by assumption)) (aM_md5Block_b228 (by assumption)))))
theorem aM_md5Block_s101 {t : moS} {a2 : Int32} {a3 : Int32} {a4 : Int32} {a5 : Int32} {a6 : Int32} (h : AGs t) : aw (M_md5Block_s101 t a2 a3 a4 a5 a6) (Sum.elim (fun z => (fun z => (fun z => (fun z => (fun z => AGs z.2) z.2) z.2) z.2) z.2) AGs) := by
  unfold M_md5Block_s101
  exact (aw_if (aw_if (aM_md5Block_b177 (by assumption)) (aw_if (aM_md5Block_b177 (by assumption)) (aw_if (aM_md5Block_b177 (by assumption)) (aM_md5Block_b177 (by assumption))))) (aw_xo (aw_bind aw_t (fun _ h => (aw_bind (ag_wrI (by decide) (by assumption)) (fun _ h => (aw_bind aw_t (fun _ h => (aw_bind (ag_wrI (by decide) (by assumption)) (fun _ h => (aw_bind aw_t (fun _ h => (aw_bind (ag_wrI (by decide) (by assumption)) (fun _ h => (aw_bind aw_t (fun _ h => (aw_bind (ag_wrI (by decide) (by assumption)) (fun _ h => (aw_some (by first | assumption | trivial | exact True.intro))))))))))))))))))))
theorem aM_md5Block_s2 {t : moS} {p1 : Int32} {a2 : Int32} (h : AGs t) : aw (M_md5Block_s2 t p1 a2) (Sum.elim (fun z => AGs z.2) AGs) := by
  unfold M_md5Block_s2
  exact (aw_if (aw_bind aw_t (fun _ h => (aw_bind aw_t (fun _ h => (aw_bind aw_t (fun _ h => (aw_bind aw_t (fun _ h => (aw_bind (ag_wrI (by decide) (by assumption)) (fun _ h => (aw_some (by first | assumption | trivial | exact True.intro)))))))))))) (aw_xo (aw_bind aw_t (fun _ h => (aw_bind aw_t (fun _ h => (aw_bind aw_t (fun _ h => (aw_bind aw_t (fun _ h => (ag_f (fM_md5Block_b101 (W := wM_md5Block_b101) rfl mfr.rf) (by assumption) (by decide))))))))))))
theorem aM_digest_b80 {t : moS} {p2 : Int32} {a3 : Int32} {a4 : Int32} (h : AGs t) : aw (M_digest_b80 t p2 a3 a4) (Sum.elim (fun z => AGs z.2) AGs) := by
  unfold M_digest_b80
  exact (aw_some (by first | assumption | trivial | exact True.intro))
theorem aM_shaBlock_b293 {t : moS} {a2 : Int32} {a3 : Int32} {a4 : Int32} {a5 : Int32} {a6 : Int32} {a7 : Int32} {a8 : Int32} {u0 : Int32} (h : AGs t) : aw (M_shaBlock_b293 t a2 a3 a4 a5 a6 a7 a8 u0) (Sum.elim (fun z => (fun z => (fun z => (fun z => (fun z => (fun z => AGs z.2) z.2) z.2) z.2) z.2) z.2) AGs) := by
  unfold M_shaBlock_b293
  exact (aw_bind aw_t (fun _ h => (aw_some (by first | assumption | trivial | exact True.intro))))
theorem aM_shaBlock_b249 {t : moS} {a2 : Int32} {a3 : Int32} {a4 : Int32} {a5 : Int32} {a6 : Int32} {a7 : Int32} {u0 : Int32} (h : AGs t) : aw (M_shaBlock_b249 t a2 a3 a4 a5 a6 a7 u0) (Sum.elim (fun z => (fun z => (fun z => (fun z => (fun z => (fun z => AGs z.2) z.2) z.2) z.2) z.2) z.2) AGs) := by
  unfold M_shaBlock_b249
  exact (aw_if (aM_shaBlock_b293 (by assumption)) (aw_if (aM_shaBlock_b293 (by assumption)) (aw_if (aM_shaBlock_b293 (by assumption)) (aM_shaBlock_b293 (by assumption)))))
theorem aM_shaBlock_s172 {t : moS} {a2 : Int32} {a3 : Int32} {a4 : Int32} {a5 : Int32} {a6 : Int32} {a7 : Int32} (h : AGs t) : aw (M_shaBlock_s172 t a2 a3 a4 a5 a6 a7) (Sum.elim (fun z => (fun z => (fun z => (fun z => (fun z => (fun z => AGs z.2) z.2) z.2) z.2) z.2) z.2) AGs) := by
  unfold M_shaBlock_s172
  exact (aw_if (aw_if (aM_shaBlock_b249 (by assumption)) (aw_if (aM_shaBlock_b249 (by assumption)) (aw_if (aM_shaBlock_b249 (by assumption)) (aM_shaBlock_b249 (by assumption))))) (aw_xo (aw_bind aw_t (fun _ h => (aw_bind (ag_wrI (by decide) (by assumption)) (fun _ h => (aw_bind aw_t (fun _ h => (aw_bind (ag_wrI (by decide) (by assumption)) (fun _ h => (aw_bind aw_t (fun _ h => (aw_bind (ag_wrI (by decide) (by assumption)) (fun _ h => (aw_bind aw_t (fun _ h => (aw_bind (ag_wrI (by decide) (by assumption)) (fun _ h => (aw_bind aw_t (fun _ h => (aw_bind (ag_wrI (by decide) (by assumption)) (fun _ h => (aw_some (by first | assumption | trivial | exact True.intro))))))))))))))))))))))))
theorem aM_shaBlock_s71 {t : moS} {a2 : Int32} (h : AGs t) : aw (M_shaBlock_s71 t a2) (Sum.elim (fun z => AGs z.2) AGs) := by
  unfold M_shaBlock_s71
  exact (aw_if (aw_bind aw_t (fun _ h => (aw_bind aw_t (fun _ h => (aw_bind aw_t (fun _ h => (aw_bind aw_t (fun _ h => (aw_bind (ag_wrI (by decide) (by assumption)) (fun _ h => (aw_some (by first | assumption | trivial | exact True.intro)))))))))))) (aw_xo (aw_bind aw_t (fun _ h => (aw_bind aw_t (fun _ h => (aw_bind aw_t (fun _ h => (aw_bind aw_t (fun _ h => (aw_bind aw_t (fun _ h => (ag_f (fM_shaBlock_b172 (W := wM_shaBlock_b172) rfl mfr.rf) (by assumption) (by decide))))))))))))))
theorem aM_shaBlock_s2 {t : moS} {p1 : Int32} {a2 : Int32} (h : AGs t) : aw (M_shaBlock_s2 t p1 a2) (Sum.elim (fun z => AGs z.2) AGs) := by
  unfold M_shaBlock_s2
  exact (aw_if (aw_bind aw_t (fun _ h => (aw_bind aw_t (fun _ h => (aw_bind aw_t (fun _ h => (aw_bind aw_t (fun _ h => (aw_bind (ag_wrI (by decide) (by assumption)) (fun _ h => (aw_some (by first | assumption | trivial | exact True.intro)))))))))))) (aw_xo (ag_f (fM_shaBlock_b71 (W := wM_shaBlock_b71) rfl mfr.rf) (by assumption) (by decide))))
theorem aM_digest_b163 {t : moS} {p2 : Int32} {a4 : Int32} {u1 : Int32} {u2 : Int32} (h : AGs t) : aw (M_digest_b163 t p2 a4 u1 u2) (Sum.elim (fun z => AGs z.2) AGs) := by
  unfold M_digest_b163
  exact (aw_bind (ag_wrI (by decide) (by assumption)) (fun _ h => (aw_some (by first | assumption | trivial | exact True.intro))))
theorem aM_digest_b102 {t : moS} {p2 : Int32} {a4 : Int32} {u0 : Int32} {u1 : Int32} (h : AGs t) : aw (M_digest_b102 t p2 a4 u0 u1) (Sum.elim (fun z => AGs z.2) AGs) := by
  unfold M_digest_b102
  exact (aw_if (aw_if (aw_bind aw_t (fun _ h => (aM_digest_b163 (by assumption)))) (aw_bind aw_t (fun _ h => (aM_digest_b163 (by assumption))))) (aw_xo (aw_some (by first | assumption | trivial | exact True.intro))))
theorem aM_digest_s89 {t : moS} {p2 : Int32} {a4 : Int32} (h : AGs t) : aw (M_digest_s89 t p2 a4) (Sum.elim (fun z => AGs z.2) AGs) := by
  unfold M_digest_s89
  exact (aw_if (aM_digest_b102 (by assumption)) (aM_digest_b102 (by assumption)))
theorem aM_digest_s55 {t : moS} {p2 : Int32} {a3 : Int32} {a4 : Int32} (h : AGs t) : aw (M_digest_s55 t p2 a3 a4) (Sum.elim (fun z => AGs z.2) AGs) := by
  unfold M_digest_s55
  exact (aw_if (aw_if (aw_bind (ag_f (fM_md5Block (W := wM_md5Block) rfl mfr.rf) (by assumption) (by decide)) (fun _ h => (aM_digest_b80 (by assumption)))) (aw_bind (ag_f (fM_shaBlock (W := wM_shaBlock) rfl mfr.rf) (by assumption) (by decide)) (fun _ h => (aM_digest_b80 (by assumption))))) (aw_xo (ag_f (fM_digest_b89 (W := wM_digest_b89) rfl mfr.rf) (by assumption) (by decide))))
theorem aM_sumOf_s38 {t : moS} {p1 : Int32} {p3 : Int32} {a4 : Int32} (h : AGs t) : aw (M_sumOf_s38 t p1 p3 a4) (Sum.elim (fun z => AGs z.2) AGs) := by
  unfold M_sumOf_s38
  exact (aw_if (aw_bind aw_t (fun _ h => (aw_bind (ag_wrI (by decide) (by assumption)) (fun _ h => (aw_some (by first | assumption | trivial | exact True.intro)))))) (aw_xo (aw_bind (ag_f (fM_digest (W := wM_digest) rfl mfr.rf) (by assumption) (by decide)) (fun _ h => (aw_some (by first | assumption | trivial | exact True.intro))))))
theorem aM_sumOf_s12 {t : moS} {p1 : Int32} {p2 : Nat} {p3 : Int32} {a4 : Int32} (h : AGs t) : aw (M_sumOf_s12 t p1 p2 p3 a4) (Sum.elim (fun z => AGs z.2) AGs) := by
  unfold M_sumOf_s12
  exact (aw_if (aw_bind aw_t (fun _ h => (aw_bind (ag_wrI (by decide) (by assumption)) (fun _ h => (aw_some (by first | assumption | trivial | exact True.intro)))))) (aw_xo (ag_f (fM_sumOf_b38 (W := wM_sumOf_b38) rfl mfr.rf) (by assumption) (by decide))))
theorem aM_sumOf_s184 {t : moS} {a4 : Int32} (h : AGs t) : aw (M_sumOf_s184 t a4) (Sum.elim (fun z => AGs z.2) AGs) := by
  unfold M_sumOf_s184
  exact (aw_if (aw_bind aw_t (fun _ h => (aw_bind (ag_wrI (by decide) (by assumption)) (fun _ h => (aw_some (by first | assumption | trivial | exact True.intro)))))) (aw_xo (aw_bind (ag_f (fM_digest (W := wM_digest) rfl mfr.rf) (by assumption) (by decide)) (fun _ h => (aw_some (by first | assumption | trivial | exact True.intro))))))
theorem aM_sumOf_s151 {t : moS} {p1 : Int32} {a4 : Int32} (h : AGs t) : aw (M_sumOf_s151 t p1 a4) (Sum.elim (fun z => AGs z.2) AGs) := by
  unfold M_sumOf_s151
  exact (aw_if (aw_bind aw_t (fun _ h => (aw_bind (ag_wrI (by decide) (by assumption)) (fun _ h => (aw_some (by first | assumption | trivial | exact True.intro)))))) (aw_xo (ag_f (fM_sumOf_b184 (W := wM_sumOf_b184) rfl mfr.rf) (by assumption) (by decide))))
theorem aM_sumOf_s113 {t : moS} {p1 : Int32} {p2 : Nat} {p3 : Int32} {a4 : Int32} (h : AGs t) : aw (M_sumOf_s113 t p1 p2 p3 a4) (Sum.elim (fun z => AGs z.2) AGs) := by
  unfold M_sumOf_s113
  exact (aw_if (aw_bind aw_t (fun _ h => (aw_bind (ag_wrI (by decide) (by assumption)) (fun _ h => (aw_some (by first | assumption | trivial | exact True.intro)))))) (aw_xo (aw_bind (ag_f (fM_digest (W := wM_digest) rfl mfr.rf) (by assumption) (by decide)) (fun _ h => (ag_f (fM_sumOf_b151 (W := wM_sumOf_b151) rfl mfr.rf) (by assumption) (by decide))))))
theorem aM_sumOf_s80 {t : moS} {p1 : Int32} {p2 : Nat} {p3 : Int32} {a4 : Int32} (h : AGs t) : aw (M_sumOf_s80 t p1 p2 p3 a4) (Sum.elim (fun z => AGs z.2) AGs) := by
  unfold M_sumOf_s80
  exact (aw_if (aw_bind aw_t (fun _ h => (aw_bind (ag_wrI (by decide) (by assumption)) (fun _ h => (aw_some (by first | assumption | trivial | exact True.intro)))))) (aw_xo (ag_f (fM_sumOf_b113 (W := wM_sumOf_b113) rfl mfr.rf) (by assumption) (by decide))))
theorem aM_wrap_s382 {t : moS} {a6 : Int32} {a7 : Int32} {a8 : Int32} (h : AGs t) : aw (M_wrap_s382 t a6 a7 a8) (Sum.elim (fun z => AGs z.2) (fun z => AGs z.2)) := by
  unfold M_wrap_s382
  exact (aw_if (aw_bind aw_t (fun _ h => (aw_bind (ag_wrI (by decide) (by assumption)) (fun _ h => (aw_some (by first | assumption | trivial | exact True.intro)))))) (aw_xo (aw_bind aw_t (fun _ h => (aw_if (ag_f2 (fM_wrap_b438 (W := wM_wrap_b438) rfl mfr.rf) (by assumption) (by decide)) (ag_f2 (fM_wrap_b438 (W := wM_wrap_b438) rfl mfr.rf) (by assumption) (by decide)))))))
theorem aM_wrap_s194 {t : moS} {p1 : Int32} {p4 : Int32} {a5 : Int32} {a6 : Int32} {a7 : Int32} (h : AGs t) : aw (M_wrap_s194 t p1 p4 a5 a6 a7) (Sum.elim (fun z => AGs z.2) (fun z => AGs z.2)) := by
  unfold M_wrap_s194
  exact (aw_if (aw_bind aw_t (fun _ h => (aw_bind (ag_wrI (by decide) (by assumption)) (fun _ h => (aw_some (by first | assumption | trivial | exact True.intro)))))) (aw_xo (aw_let (P := AGs) (by assumption) (fun _ h => (aw_if (aw_some (by first | assumption | trivial | exact True.intro)) (aw_bind aw_t (fun _ h => (aw_if (ag_f2 (fM_wrap_b268 (W := wM_wrap_b268) rfl mfr.rf) (by assumption) (by decide)) (ag_f2 (fM_wrap_b268 (W := wM_wrap_b268) rfl mfr.rf) (by assumption) (by decide))))))))))
theorem aM_wrap_s152 {t : moS} {p1 : Int32} {p4 : Int32} {a5 : Int32} {a6 : Int32} {a7 : Int32} (h : AGs t) : aw (M_wrap_s152 t p1 p4 a5 a6 a7) (Sum.elim (fun z => AGs z.2) (fun z => AGs z.2)) := by
  unfold M_wrap_s152
  exact (aw_bind aw_t (fun _ h => (aw_if (aw_bind aw_t (fun _ h => (aw_bind (ag_wrI (by decide) (by assumption)) (fun _ h => (aw_some (by first | assumption | trivial | exact True.intro)))))) (aw_xo (ag_f2 (fM_wrap_b191 (W := wM_wrap_b191) rfl mfr.rf) (by assumption) (by decide))))))
theorem aM_wrap_s3 {t : moS} {p1 : Int32} {p2 : Int32} {p3 : Int32} {p4 : Int32} {a5 : Int32} (h : AGs t) : aw (M_wrap_s3 t p1 p2 p3 p4 a5) (Sum.elim (fun z => AGs z.2) (fun z => AGs z.2)) := by
  unfold M_wrap_s3
  exact (aw_if (aw_bind (ag_wrI (by decide) (by assumption)) (fun _ h => (aw_some (by first | assumption | trivial | exact True.intro)))) (aw_xo (aw_bind (ag_wrI (by decide) (by assumption)) (fun _ h => (aw_if (ag_f2 (fM_wrap_b46 (W := wM_wrap_b46) rfl mfr.rf) (by assumption) (by decide)) (ag_f2 (fM_wrap_b46 (W := wM_wrap_b46) rfl mfr.rf) (by assumption) (by decide)))))))
theorem aM_go_s288 {t : moS} {a17 : Int32} {a18 : Int32} (h : AGs t) : aw (M_go_s288 t a17 a18) (Sum.elim (fun z => AGs z.2) AGs) := by
  unfold M_go_s288
  exact (aw_if (aw_bind aw_t (fun _ h => (aw_bind (ag_wrI (by decide) (by assumption)) (fun _ h => (aw_some (by first | assumption | trivial | exact True.intro)))))) (aw_xo (aw_some (by first | assumption | trivial | exact True.intro))))
theorem aM_go_s105 {t : moS} {p1 : Int32} {p2 : Int32} {p3 : Int32} {p4 : Int64} {p6 : Int64} {p8 : Int32} {p9 : Int64} {p11 : Int64} {p13 : Int32} {p14 : Int32} {a16 : Int32} {a17 : Int32} (h : AGs t) : aw (M_go_s105 t p1 p2 p3 p4 p6 p8 p9 p11 p13 p14 a16 a17) (Sum.elim (fun z => AGs z.2) AGs) := by
  unfold M_go_s105
  exact (aw_bind aw_t (fun _ h => (aw_if (aw_xo (aw_bind (ag_wrZ (by decide) (by assumption)) (fun _ h => (aw_bind (ag_wrI (by decide) (by assumption)) (fun _ h => (aw_let (P := AGs) (by assumption) (fun _ h => (aw_bind (ag_wrI (by decide) (by assumption)) (fun _ h => (aw_bind (ag_wrI (by decide) (by assumption)) (fun _ h => (aw_bind (ag_wrZ (by decide) (by assumption)) (fun _ h => (aw_bind (ag_wrJ (by decide) (by assumption)) (fun _ h => (aw_bind (ag_wrJ (by decide) (by assumption)) (fun _ h => (aw_bind (ag_wrI (by decide) (by assumption)) (fun _ h => (aw_bind (ag_wrJ (by decide) (by assumption)) (fun _ h => (aw_bind (ag_wrJ (by decide) (by assumption)) (fun _ h => (aw_bind (ag_wrI (by decide) (by assumption)) (fun _ h => (aw_bind (ag_wrI (by decide) (by assumption)) (fun _ h => (aw_bind aw_t (fun _ h => (aw_bind aw_t (fun _ h => (aw_nzL (aw_bind (ag_wrI (by decide) (by assumption)) (fun _ h => (aw_bind (ag_wrI (by decide) (by assumption)) (fun _ h => (ag_f (fM_go_b288 (W := wM_go_b288) rfl mfr.rf) (by assumption) (by decide)))))))))))))))))))))))))))))))))))))) (aw_some (by first | assumption | trivial | exact True.intro)))))
theorem aM_go_s31 {t : moS} {p1 : Int32} {p2 : Int32} {p3 : Int32} {p4 : Int64} {p6 : Int64} {p8 : Int32} {p9 : Int64} {p11 : Int64} {p13 : Int32} {p14 : Int32} {p15 : Int32} {a16 : Int32} {a17 : Int32} (h : AGs t) : aw (M_go_s31 t p1 p2 p3 p4 p6 p8 p9 p11 p13 p14 p15 a16 a17) (Sum.elim (fun z => AGs z.2) AGs) := by
  unfold M_go_s31
  exact (aw_if (aw_bind aw_t (fun _ h => (aw_bind (ag_wrI (by decide) (by assumption)) (fun _ h => (aw_some (by first | assumption | trivial | exact True.intro)))))) (aw_xo (aw_if (aw_some (by first | assumption | trivial | exact True.intro)) (aw_if (ag_f (fM_go_b102 (W := wM_go_b102) rfl mfr.rf) (by assumption) (by decide)) (aw_bind aw_t (fun _ h => (aw_if (aw_bind aw_t (fun _ h => (aw_bind (ag_wrI (by decide) (by assumption)) (fun _ h => (aw_some (by first | assumption | trivial | exact True.intro)))))) (ag_f (fM_go_b102 (W := wM_go_b102) rfl mfr.rf) (by assumption) (by decide)))))))))
theorem aM_request_s2 {t : moS} {p1 : Int32} {p2 : Int32} {a3 : Int32} (h : AGs t) : aw (M_request_s2 t p1 p2 a3) (Sum.elim (fun z => AGs z.2) AGs) := by
  unfold M_request_s2
  exact (aw_if (aw_bind (ag_wrI (by decide) (by assumption)) (fun _ h => (aw_some (by first | assumption | trivial | exact True.intro)))) (aw_xo (aw_bind (ag_wrI (by decide) (by assumption)) (fun _ h => (aw_bind (ag_f (fM_send (W := wM_send) rfl mfr.rf) (by assumption) (by decide)) (fun _ h => (aw_some (by first | assumption | trivial | exact True.intro))))))))
theorem aM_lineJoin_s421 {t : moS} {a3 : Int32} {a4 : Int32} {a5 : Int32} {a6 : Int32} {a7 : Int32} {a8 : Int32} {a10 : Int32} {a11 : Int32} (h : AGs t) : aw (M_lineJoin_s421 t a3 a4 a5 a6 a7 a8 a10 a11) (Sum.elim (fun z => AGs z.2) (fun z => AGs z.2)) := by
  unfold M_lineJoin_s421
  exact (aw_if (aw_if (aw_bind (ag_f (fM_takePassword (W := wM_takePassword) rfl mfr.rf) (by assumption) (by decide)) (fun _ h => (aM_lineJoin_b444 (by assumption)))) (aM_lineJoin_b444 (by assumption))) (aw_xo (aw_bind (aM_settle (by assumption)) (fun _ h => (aw_bind aw_t (fun _ h => (aw_if (aw_some (by first | assumption | trivial | exact True.intro)) (aw_bind aw_t (fun _ h => (aw_if (aw_some (by first | assumption | trivial | exact True.intro)) (aw_bind (ag_f (fM_request (W := wM_request) rfl mfr.rf) (by assumption) (by decide)) (fun _ h => (aw_some (by first | assumption | trivial | exact True.intro))))))))))))))
theorem aM_lineJoin_b421 {t : moS} {a3 : Int32} {a4 : Int32} {a5 : Int32} {a6 : Int32} {a7 : Int32} {a8 : Int32} {a10 : Int32} {a11 : Int32} (h : AGs t) : aw (M_lineJoin_b421 t a3 a4 a5 a6 a7 a8 a10 a11) (fun z => AGs z.2) := by
  unfold M_lineJoin_b421
  refine aw_lp (I := (fun z => AGs z.2)) ?_ ?_
  · exact h
  · intro y hy
    exact (aM_lineJoin_s421 hy)
theorem aM_lineJoin_b418 {t : moS} {a3 : Int32} {a4 : Int32} {a5 : Int32} {a6 : Int32} {a7 : Int32} {a8 : Int32} {a10 : Int32} (h : AGs t) : aw (M_lineJoin_b418 t a3 a4 a5 a6 a7 a8 a10) (fun z => AGs z.2) := by
  unfold M_lineJoin_b418
  exact (aM_lineJoin_b421 (by assumption))
theorem aM_lineJoin_b399 {t : moS} {a3 : Int32} {a4 : Int32} {a5 : Int32} {a6 : Int32} {a7 : Int32} {a8 : Int32} {a10 : Int32} (h : AGs t) : aw (M_lineJoin_b399 t a3 a4 a5 a6 a7 a8 a10) (fun z => AGs z.2) := by
  unfold M_lineJoin_b399
  exact (aw_bind aw_t (fun _ h => (aw_if (aw_bind (ag_wrZ (by decide) (by assumption)) (fun _ h => (aM_lineJoin_b418 (by assumption)))) (aM_lineJoin_b418 (by assumption)))))
theorem aM_lineJoin_b383 {t : moS} {a2 : Int32} {a3 : Int32} {a4 : Int32} {a5 : Int32} {a6 : Int32} {a7 : Int32} {a8 : Int32} {a10 : Int32} (h : AGs t) : aw (M_lineJoin_b383 t a2 a3 a4 a5 a6 a7 a8 a10) (fun z => AGs z.2) := by
  unfold M_lineJoin_b383
  exact (aw_if (aw_bind aw_t (fun _ h => (aw_bind (ag_wrJ (by decide) (by assumption)) (fun _ h => (aM_lineJoin_b399 (by assumption)))))) (aM_lineJoin_b399 (by assumption)))
theorem aM_lineJoin_b315 {t : moS} {a1 : Int32} {a2 : Int32} {a3 : Int32} {a4 : Int32} {a5 : Int32} {a6 : Int32} {a7 : Int32} {a8 : Int32} (h : AGs t) : aw (M_lineJoin_b315 t a1 a2 a3 a4 a5 a6 a7 a8) (fun z => AGs z.2) := by
  unfold M_lineJoin_b315
  exact (aw_bind (ag_wrZ (by decide) (by assumption)) (fun _ h => (aw_bind (ag_wrJ (by decide) (by assumption)) (fun _ h => (aw_bind (ag_wrJ (by decide) (by assumption)) (fun _ h => (aw_bind (ag_wrI (by decide) (by assumption)) (fun _ h => (aw_if (aw_bind aw_t (fun _ h => (aw_bind (ag_wrI (by decide) (by assumption)) (fun _ h => (aM_lineJoin_b383 (by assumption)))))) (aM_lineJoin_b383 (by assumption)))))))))))
theorem aM_lineJoin_b282 {t : moS} {a1 : Int32} {a2 : Int32} {a3 : Int32} {a4 : Int32} {a5 : Int32} {a6 : Int32} {a7 : Int32} {a8 : Int32} (h : AGs t) : aw (M_lineJoin_b282 t a1 a2 a3 a4 a5 a6 a7 a8) (fun z => AGs z.2) := by
  unfold M_lineJoin_b282
  exact (aw_bind aw_t (fun _ h => (aw_if (aw_some (by first | assumption | trivial | exact True.intro)) (aw_if (aw_bn2 (ag_f2 (fM_newInterface (W := wM_newInterface) rfl mfr.rf) (by assumption) (by decide)) (fun _ _ h => (aM_lineJoin_b315 (by assumption)))) (aM_lineJoin_b315 (by assumption))))))
theorem aM_lineJoin_b256 {t : moS} {a1 : Int32} {a2 : Int32} {a3 : Int32} {a4 : Int32} {a5 : Int32} {a6 : Int32} {a7 : Int32} {a8 : Int32} {u0 : Int32} (h : AGs t) : aw (M_lineJoin_b256 t a1 a2 a3 a4 a5 a6 a7 a8 u0) (fun z => AGs z.2) := by
  unfold M_lineJoin_b256
  exact (aw_if (aw_some (by first | assumption | trivial | exact True.intro)) (aw_if (aw_bind aw_t (fun _ h => (aw_if (aw_some (by first | assumption | trivial | exact True.intro)) (aM_lineJoin_b282 (by assumption))))) (aM_lineJoin_b282 (by assumption))))
theorem aM_lineJoin_b255 {t : moS} {a1 : Int32} {a2 : Int32} {a3 : Int32} {a4 : Int32} {a5 : Int32} {a6 : Int32} {a7 : Int32} {a8 : Int32} (h : AGs t) : aw (M_lineJoin_b255 t a1 a2 a3 a4 a5 a6 a7 a8) (fun z => AGs z.2) := by
  unfold M_lineJoin_b255
  exact (aM_lineJoin_b256 (by assumption))
theorem aM_lineJoin_b233 {t : moS} {a1 : Int32} {a2 : Int32} {a3 : Int32} {a4 : Int32} {a5 : Int32} {a6 : Int32} {a7 : Int32} {a8 : Int32} (h : AGs t) : aw (M_lineJoin_b233 t a1 a2 a3 a4 a5 a6 a7 a8) (fun z => AGs z.2) := by
  unfold M_lineJoin_b233
  exact (aw_bind aw_t (fun _ h => (aw_if (aM_lineJoin_b255 (by assumption)) (aw_bind aw_t (fun _ h => (aw_if (aM_lineJoin_b255 (by assumption)) (aM_lineJoin_b256 (by assumption))))))))
theorem aM_lineJoin_b221 {t : moS} {a1 : Int32} {a2 : Int32} {a3 : Int32} {a4 : Int32} {a5 : Int32} {a6 : Int32} {a7 : Int32} {a8 : Int32} (h : AGs t) : aw (M_lineJoin_b221 t a1 a2 a3 a4 a5 a6 a7 a8) (fun z => AGs z.2) := by
  unfold M_lineJoin_b221
  exact (aw_if (aM_lineJoin_b233 (by assumption)) (aw_bind aw_t (fun _ h => (aw_if (aM_lineJoin_b255 (by assumption)) (aM_lineJoin_b233 (by assumption))))))
theorem aM_lineJoin_b206 {t : moS} {a1 : Int32} {a2 : Int32} {a3 : Int32} {a4 : Int32} {a5 : Int32} {a6 : Int32} {a7 : Int32} {a8 : Int32} (h : AGs t) : aw (M_lineJoin_b206 t a1 a2 a3 a4 a5 a6 a7 a8) (fun z => AGs z.2) := by
  unfold M_lineJoin_b206
  exact (aw_if (aM_lineJoin_b221 (by assumption)) (aw_bind aw_t (fun _ h => (aw_if (aM_lineJoin_b255 (by assumption)) (aM_lineJoin_b221 (by assumption))))))
theorem aM_lineJoin_b125 {t : moS} {a1 : Int32} {a2 : Int32} {a3 : Int32} {a4 : Int32} {a5 : Int32} (h : AGs t) : aw (M_lineJoin_b125 t a1 a2 a3 a4 a5) (fun z => AGs z.2) := by
  unfold M_lineJoin_b125
  exact (aw_bind aw_t (fun _ h => (aw_bind aw_t (fun _ h => (aw_bind aw_t (fun _ h => (aw_bind aw_t (fun _ h => (aw_if (aw_some (by first | assumption | trivial | exact True.intro)) (aw_if (aw_some (by first | assumption | trivial | exact True.intro)) (aw_bn2 (ag_f2 (fM_isAddressWithLength (W := wM_isAddressWithLength) rfl mfr.rf) (by assumption) (by decide)) (fun _ _ h => (aw_if (aw_some (by first | assumption | trivial | exact True.intro)) (aw_bind aw_t (fun _ h => (aw_if (aM_lineJoin_b206 (by assumption)) (aw_bind aw_t (fun _ h => (aw_if (aM_lineJoin_b206 (by assumption)) (aw_some (by first | assumption | trivial | exact True.intro)))))))))))))))))))))
theorem aM_lineJoin {t : moS} (h : AGs t) : aw (M_lineJoin t) (fun z => AGs z.2) := by
  unfold M_lineJoin
  exact (aw_if (aw_some (by first | assumption | trivial | exact True.intro)) (aw_bind aw_t (fun _ h => (aw_if (aw_some (by first | assumption | trivial | exact True.intro)) (aw_bind aw_t (fun _ h => (aw_bind aw_t (fun _ h => (aw_bind aw_t (fun _ h => (aw_bind aw_t (fun _ h => (aw_bind aw_t (fun _ h => (aw_if (aw_bind aw_t (fun _ h => (aw_if (aM_lineJoin_b125 (by assumption)) (aw_bind aw_t (fun _ h => (aw_if (aM_lineJoin_b125 (by assumption)) (aw_bind aw_t (fun _ h => (aw_if (aM_lineJoin_b125 (by assumption)) (aw_some (by first | assumption | trivial | exact True.intro))))))))))) (aM_lineJoin_b125 (by assumption)))))))))))))))))
theorem aM_lineStatic_b228 {t : moS} {a1 : Int32} {u1 : Int32} {u2 : Int32} (h : AGs t) : aw (M_lineStatic_b228 t a1 u1 u2) (fun z => AGs z.2) := by
  unfold M_lineStatic_b228
  exact (aw_bind (ag_wrI (by decide) (by assumption)) (fun _ h => (aw_bind (aM_settle (by assumption)) (fun _ h => (aw_some (by first | assumption | trivial | exact True.intro))))))
theorem aM_lineStatic_b199 {t : moS} {a1 : Int32} {a2 : Int32} {a3 : Int32} (h : AGs t) : aw (M_lineStatic_b199 t a1 a2 a3) (fun z => AGs z.2) := by
  unfold M_lineStatic_b199
  exact (aw_bind aw_t (fun _ h => (aw_bind (ag_wrI (by decide) (by assumption)) (fun _ h => (aw_if (aw_bind aw_t (fun _ h => (aM_lineStatic_b228 (by assumption)))) (aM_lineStatic_b228 (by assumption)))))))
theorem aM_lineStatic_b132 {t : moS} {a1 : Int32} {a2 : Int32} {a3 : Int32} (h : AGs t) : aw (M_lineStatic_b132 t a1 a2 a3) (fun z => AGs z.2) := by
  unfold M_lineStatic_b132
  exact (aw_if (aw_bind aw_t (fun _ h => (aw_bind aw_t (fun _ h => (aw_bind (ag_wrI (by decide) (by assumption)) (fun _ h => (aw_bind (ag_wrI (by decide) (by assumption)) (fun _ h => (aw_bind (ag_wrJ (by decide) (by assumption)) (fun _ h => (aw_bind (ag_wrJ (by decide) (by assumption)) (fun _ h => (aw_bind (ag_wrI (by decide) (by assumption)) (fun _ h => (aM_lineStatic_b199 (by assumption)))))))))))))))) (aM_lineStatic_b199 (by assumption)))
theorem aM_lineStatic_b91 {t : moS} {a1 : Int32} {a2 : Int32} (h : AGs t) : aw (M_lineStatic_b91 t a1 a2) (fun z => AGs z.2) := by
  unfold M_lineStatic_b91
  exact (aw_bind aw_t (fun _ h => (aw_if (aw_bind aw_t (fun _ h => (aw_if (aw_some (by first | assumption | trivial | exact True.intro)) (aM_lineStatic_b132 (by assumption))))) (aM_lineStatic_b132 (by assumption)))))
theorem aM_lineStatic {t : moS} (h : AGs t) : aw (M_lineStatic t) (fun z => AGs z.2) := by
  unfold M_lineStatic
  exact (aw_if (aw_some (by first | assumption | trivial | exact True.intro)) (aw_bind aw_t (fun _ h => (aw_if (aw_some (by first | assumption | trivial | exact True.intro)) (aw_bind aw_t (fun _ h => (aw_bind aw_t (fun _ h => (aw_if (aw_some (by first | assumption | trivial | exact True.intro)) (aw_bn2 (ag_f2 (fM_isPrefixWord (W := wM_isPrefixWord) rfl mfr.rf) (by assumption) (by decide)) (fun _ _ h => (aw_if (aw_some (by first | assumption | trivial | exact True.intro)) (aw_bind aw_t (fun _ h => (aw_bind aw_t (fun _ h => (aw_if (aw_some (by first | assumption | trivial | exact True.intro)) (aw_if (aw_bind aw_t (fun _ h => (aw_if (aw_some (by first | assumption | trivial | exact True.intro)) (aM_lineStatic_b91 (by assumption))))) (aM_lineStatic_b91 (by assumption))))))))))))))))))))
theorem aM_lineNostatic_s68 {t : moS} {a1 : Int32} {a3 : Int32} (h : AGs t) : aw (M_lineNostatic_s68 t a1 a3) (Sum.elim (fun z => AGs z.2) (fun z => AGs z.2)) := by
  unfold M_lineNostatic_s68
  exact (aw_bind aw_t (fun _ h => (aw_if (aw_bind aw_t (fun _ h => (aw_bind (ag_wrI (by decide) (by assumption)) (fun _ h => (aw_bind aw_t (fun _ h => (aw_bind (ag_wrJ (by decide) (by assumption)) (fun _ h => (aw_bind aw_t (fun _ h => (aw_bind (ag_wrJ (by decide) (by assumption)) (fun _ h => (aw_bind aw_t (fun _ h => (aw_bind (ag_wrI (by decide) (by assumption)) (fun _ h => (aw_bind aw_t (fun _ h => (aw_bind (ag_wrI (by decide) (by assumption)) (fun _ h => (aw_bind aw_t (fun _ h => (aw_bind (ag_wrI (by decide) (by assumption)) (fun _ h => (aw_some (by first | assumption | trivial | exact True.intro)))))))))))))))))))))))))) (aw_xo (aw_bind aw_t (fun _ h => (aw_bind (ag_wrI (by decide) (by assumption)) (fun _ h => (aw_bind (aM_settle (by assumption)) (fun _ h => (aw_some (by first | assumption | trivial | exact True.intro))))))))))))
theorem aM_lineNostatic_b68 {t : moS} {a1 : Int32} {a3 : Int32} (h : AGs t) : aw (M_lineNostatic_b68 t a1 a3) (fun z => AGs z.2) := by
  unfold M_lineNostatic_b68
  refine aw_lp (I := (fun z => AGs z.2)) ?_ ?_
  · exact h
  · intro y hy
    exact (aM_lineNostatic_s68 hy)
theorem aM_lineNostatic {t : moS} (h : AGs t) : aw (M_lineNostatic t) (fun z => AGs z.2) := by
  unfold M_lineNostatic
  exact (aw_if (aw_bind aw_t (fun _ h => (aw_bind aw_t (fun _ h => (aw_if (aw_some (by first | assumption | trivial | exact True.intro)) (aw_bn2 (ag_f2 (fM_isPrefixWord (W := wM_isPrefixWord) rfl mfr.rf) (by assumption) (by decide)) (fun _ _ h => (aw_if (aw_some (by first | assumption | trivial | exact True.intro)) (aw_bind aw_t (fun _ h => (aw_if (aw_some (by first | assumption | trivial | exact True.intro)) (aM_lineNostatic_b68 (by assumption))))))))))))) (aw_some (by first | assumption | trivial | exact True.intro)))
theorem aM_lineTimers_s29 {t : moS} {a1 : Int32} {a2 : Int32} (h : AGs t) : aw (M_lineTimers_s29 t a1 a2) (Sum.elim (fun z => AGs z.2) (fun z => AGs z.2)) := by
  unfold M_lineTimers_s29
  exact (aw_if (aw_bind aw_t (fun _ h => (aw_if (aw_xo (aw_some (by first | assumption | trivial | exact True.intro))) (aw_some (by first | assumption | trivial | exact True.intro))))) (aw_xo (aw_bind aw_t (fun _ h => (aw_bind (ag_wrI (by decide) (by assumption)) (fun _ h => (aw_bind aw_t (fun _ h => (aw_bind (ag_wrI (by decide) (by assumption)) (fun _ h => (aw_bind aw_t (fun _ h => (aw_bind (ag_wrI (by decide) (by assumption)) (fun _ h => (aw_some (by first | assumption | trivial | exact True.intro))))))))))))))))
theorem aM_line {t : moS} (h : AGs t) : aw (M_line t) (fun z => AGs z.2) := by
  unfold M_line
  exact (aw_bind aw_t (fun _ h => (aw_if (aw_bn2 (ag_f2 (fM_lineLink (W := wM_lineLink) rfl mfr.rf) (by assumption) (by decide)) (fun _ _ h => (aw_some (by first | assumption | trivial | exact True.intro)))) (aw_if (aw_bn2 (ag_f2 (fM_lineRouter (W := wM_lineRouter) rfl mfr.rf) (by assumption) (by decide)) (fun _ _ h => (aw_some (by first | assumption | trivial | exact True.intro)))) (aw_if (aw_bn2 (aM_lineJoin (by assumption)) (fun _ _ h => (aw_some (by first | assumption | trivial | exact True.intro)))) (aw_if (aw_bn2 (ag_f2 (fM_lineKey (W := wM_lineKey) rfl mfr.rf) (by assumption) (by decide)) (fun _ _ h => (aw_some (by first | assumption | trivial | exact True.intro)))) (aw_if (aw_bn2 (ag_f2 (fM_lineNokey (W := wM_lineNokey) rfl mfr.rf) (by assumption) (by decide)) (fun _ _ h => (aw_some (by first | assumption | trivial | exact True.intro)))) (aw_if (aw_bn2 (aM_lineStatic (by assumption)) (fun _ _ h => (aw_some (by first | assumption | trivial | exact True.intro)))) (aw_if (aw_bn2 (aM_lineNostatic (by assumption)) (fun _ _ h => (aw_some (by first | assumption | trivial | exact True.intro)))) (aw_if (aw_bn2 (ag_f2 (fM_lineFilter (W := wM_lineFilter) rfl mfr.rf) (by assumption) (by decide)) (fun _ _ h => (aw_some (by first | assumption | trivial | exact True.intro)))) (aw_if (aw_bn2 (ag_f2 (fM_lineList (W := wM_lineList) rfl mfr.rf) (by assumption) (by decide)) (fun _ _ h => (aw_some (by first | assumption | trivial | exact True.intro)))) (aw_if (aw_bn2 (ag_f2 (fM_lineDistribute (W := wM_lineDistribute) rfl mfr.rf) (by assumption) (by decide)) (fun _ _ h => (aw_some (by first | assumption | trivial | exact True.intro)))) (aw_if (aw_bn2 (ag_f2 (fM_lineOffset (W := wM_lineOffset) rfl mfr.rf) (by assumption) (by decide)) (fun _ _ h => (aw_some (by first | assumption | trivial | exact True.intro)))) (aw_if (aw_bn2 (ag_f2 (fM_lineSummary (W := wM_lineSummary) rfl mfr.rf) (by assumption) (by decide)) (fun _ _ h => (aw_some (by first | assumption | trivial | exact True.intro)))) (aw_if (aw_bn2 (ag_f2 (fM_lineNeighbor (W := wM_lineNeighbor) rfl mfr.rf) (by assumption) (by decide)) (fun _ _ h => (aw_some (by first | assumption | trivial | exact True.intro)))) (aw_if (aw_bn2 (ag_f2 (fM_lineRedistribute (W := wM_lineRedistribute) rfl mfr.rf) (by assumption) (by decide)) (fun _ _ h => (aw_some (by first | assumption | trivial | exact True.intro)))) (aw_if (aw_bn2 (ag_f2 (fM_lineDefault (W := wM_lineDefault) rfl mfr.rf) (by assumption) (by decide)) (fun _ _ h => (aw_some (by first | assumption | trivial | exact True.intro)))) (aw_if (aw_bn2 (ag_f2 (fM_lineTimers (W := wM_lineTimers) rfl mfr.rf) (by assumption) (by decide)) (fun _ _ h => (aw_some (by first | assumption | trivial | exact True.intro)))) (aw_some (by first | assumption | trivial | exact True.intro))))))))))))))))))))
theorem aM_read_b56 {t : moS} {a1 : Int32} {a2 : Int32} {a3 : Int32} (h : AGs t) : aw (M_read_b56 t a1 a2 a3) (Sum.elim (fun z => (fun z => AGs z.2) z.2) (fun z => AGs z.2)) := by
  unfold M_read_b56
  exact (aw_bind (ag_f (fM_part (W := wM_part) rfl mfr.rf) (by assumption) (by decide)) (fun _ h => (aw_if (aw_bind aw_t (fun _ h => (aw_bind aw_t (fun _ h => (aw_if (aM_read_b96 (by assumption)) (aw_bn2 (aM_line (by assumption)) (fun _ _ h => (aw_let (P := AGs) (by assumption) (fun _ h => (aM_read_b96 (by assumption))))))))))) (aM_read_b96 (by assumption)))))
theorem aM_read_s31 {t : moS} {a1 : Int32} {a2 : Int32} {a3 : Int32} (h : AGs t) : aw (M_read_s31 t a1 a2 a3) (Sum.elim (fun z => AGs z.2) (Sum.elim (fun z => (fun z => AGs z.2) z.2) (fun z => AGs z.2))) := by
  unfold M_read_s31
  exact (aw_if (aw_bind aw_t (fun _ h => (aw_if (aw_xo (aM_read_b56 (by assumption))) (aw_some (by first | assumption | trivial | exact True.intro))))) (aw_xo (aM_read_b56 (by assumption))))
theorem aM_read_b31 {t : moS} {a1 : Int32} {a2 : Int32} {a3 : Int32} (h : AGs t) : aw (M_read_b31 t a1 a2 a3) (Sum.elim (fun z => (fun z => AGs z.2) z.2) (fun z => AGs z.2)) := by
  unfold M_read_b31
  refine aw_lp (I := (fun z => AGs z.2)) ?_ ?_
  · exact h
  · intro y hy
    exact (aM_read_s31 hy)
theorem aM_read_s14 {t : moS} {a1 : Int32} {a2 : Int32} (h : AGs t) : aw (M_read_s14 t a1 a2) (Sum.elim (fun z => (fun z => AGs z.2) z.2) (fun z => AGs z.2)) := by
  unfold M_read_s14
  exact (aw_if (aw_if (aM_read_b31 (by assumption)) (aw_xo (ag_f2 (fM_read_b103 (W := wM_read_b103) rfl mfr.rf) (by assumption) (by decide)))) (aw_xo (ag_f2 (fM_read_b103 (W := wM_read_b103) rfl mfr.rf) (by assumption) (by decide))))
theorem aM_read_b14 {t : moS} {a1 : Int32} {a2 : Int32} (h : AGs t) : aw (M_read_b14 t a1 a2) (fun z => AGs z.2) := by
  unfold M_read_b14
  refine aw_lp (I := (fun z => (fun z => AGs z.2) z.2)) ?_ ?_
  · exact h
  · intro y hy
    exact (aM_read_s14 hy)
theorem aM_read {t : moS} (h : AGs t) : aw (M_read t) (fun z => AGs z.2) := by
  unfold M_read
  exact (aw_let (P := AGs) (by assumption) (fun _ h => (aw_let (P := AGs) (by assumption) (fun _ h => (aM_read_b14 (by assumption))))))
theorem aM_takeOff_s14 {t : moS} {a2 : Int32} (h : AGs t) : aw (M_takeOff_s14 t a2) (Sum.elim (fun z => AGs z.2) AGs) := by
  unfold M_takeOff_s14
  exact (aw_if (aw_bind aw_t (fun _ h => (aw_bind (ag_wrI (by decide) (by assumption)) (fun _ h => (aw_some (by first | assumption | trivial | exact True.intro)))))) (aw_xo (aw_let (P := AGs) (by assumption) (fun _ h => (aw_some (by first | assumption | trivial | exact True.intro))))))
theorem aM_link_b197 {t : moS} {p1 : Int32} {p2 : Int32} {a4 : Int32} (h : AGs t) : aw (M_link_b197 t p1 p2 a4) (Sum.elim (fun z => AGs z.2) (fun z => AGs z.2)) := by
  unfold M_link_b197
  exact (aw_some (by first | assumption | trivial | exact True.intro))
theorem aM_link_b185 {t : moS} {p1 : Int32} {p2 : Int32} {a4 : Int32} {a5 : Int32} {a6 : Int32} (h : AGs t) : aw (M_link_b185 t p1 p2 a4 a5 a6) (Sum.elim (fun z => AGs z.2) (Sum.elim (fun z => AGs z.2) (fun z => AGs z.2))) := by
  unfold M_link_b185
  exact (aw_some (by first | assumption | trivial | exact True.intro))
theorem aM_link_b191 {t : moS} {p1 : Int32} {p2 : Int32} {a4 : Int32} (h : AGs t) : aw (M_link_b191 t p1 p2 a4) (Sum.elim (fun z => AGs z.2) (fun z => AGs z.2)) := by
  unfold M_link_b191
  exact (aw_bind (aM_settle (by assumption)) (fun _ h => (aM_link_b197 (by assumption))))
theorem aM_link_s131 {t : moS} {p1 : Int32} {p2 : Int32} {a4 : Int32} {a5 : Int32} {a6 : Int32} (h : AGs t) : aw (M_link_s131 t p1 p2 a4 a5 a6) (Sum.elim (fun z => AGs z.2) (Sum.elim (fun z => AGs z.2) (fun z => AGs z.2))) := by
  unfold M_link_s131
  exact (aw_bind aw_t (fun _ h => (aw_if (aw_if (aw_bind aw_t (fun _ h => (aw_if (aw_bind aw_t (fun _ h => (aw_if (aw_bind (ag_f (fM_die (W := wM_die) rfl mfr.rf) (by assumption) (by decide)) (fun _ h => (aM_link_b185 (by assumption)))) (aM_link_b185 (by assumption))))) (aM_link_b185 (by assumption))))) (aw_xo (aM_link_b191 (by assumption)))) (aw_xo (aM_link_b191 (by assumption))))))
theorem aM_link_b131 {t : moS} {p1 : Int32} {p2 : Int32} {a4 : Int32} {a5 : Int32} {a6 : Int32} (h : AGs t) : aw (M_link_b131 t p1 p2 a4 a5 a6) (Sum.elim (fun z => AGs z.2) (fun z => AGs z.2)) := by
  unfold M_link_b131
  refine aw_lp (I := (fun z => AGs z.2)) ?_ ?_
  · exact h
  · intro y hy
    exact (aM_link_s131 hy)
theorem aM_link_b112 {t : moS} {p1 : Int32} {p2 : Int32} {a4 : Int32} {u0 : Int32} (h : AGs t) : aw (M_link_b112 t p1 p2 a4 u0) (Sum.elim (fun z => AGs z.2) (fun z => AGs z.2)) := by
  unfold M_link_b112
  exact (aw_if (aM_link_b197 (by assumption)) (aM_link_b131 (by assumption)))
theorem aM_link_b254 {t : moS} {p1 : Int32} {p2 : Int32} {a4 : Int32} (h : AGs t) : aw (M_link_b254 t p1 p2 a4) (Sum.elim (fun z => AGs z.2) (fun z => AGs z.2)) := by
  unfold M_link_b254
  exact (aw_some (by first | assumption | trivial | exact True.intro))
theorem aM_requests_b26 {t : moS} {p1 : Int32} {a2 : Int32} (h : AGs t) : aw (M_requests_b26 t p1 a2) (Sum.elim (fun z => AGs z.2) AGs) := by
  unfold M_requests_b26
  exact (aw_some (by first | assumption | trivial | exact True.intro))
theorem aM_requests_s2 {t : moS} {p1 : Int32} {a2 : Int32} (h : AGs t) : aw (M_requests_s2 t p1 a2) (Sum.elim (fun z => AGs z.2) AGs) := by
  unfold M_requests_s2
  exact (aw_if (aw_bind aw_t (fun _ h => (aw_if (aM_requests_b26 (by assumption)) (aw_bind (ag_f (fM_request (W := wM_request) rfl mfr.rf) (by assumption) (by decide)) (fun _ h => (aM_requests_b26 (by assumption))))))) (aw_xo (aw_some (by first | assumption | trivial | exact True.intro))))
theorem aM_link_b240 {t : moS} {p1 : Int32} {p2 : Int32} {a4 : Int32} {u0 : Int32} (h : AGs t) : aw (M_link_b240 t p1 p2 a4 u0) (Sum.elim (fun z => AGs z.2) (fun z => AGs z.2)) := by
  unfold M_link_b240
  exact (aw_if (aM_link_b254 (by assumption)) (aw_bind (ag_f (fM_requests (W := wM_requests) rfl mfr.rf) (by assumption) (by decide)) (fun _ h => (aM_link_b254 (by assumption)))))
theorem aM_link_s206 {t : moS} {p1 : Int32} {p2 : Int32} {a4 : Int32} (h : AGs t) : aw (M_link_s206 t p1 p2 a4) (Sum.elim (fun z => AGs z.2) (fun z => AGs z.2)) := by
  unfold M_link_s206
  exact (aw_if (aw_if (aw_xo (aw_some (by first | assumption | trivial | exact True.intro))) (aw_bind aw_t (fun _ h => (aw_if (aM_link_b240 (by assumption)) (aw_bind aw_t (fun _ h => (aM_link_b240 (by assumption)))))))) (aw_xo (aw_some (by first | assumption | trivial | exact True.intro))))
theorem aM_link_s82 {t : moS} {p1 : Int32} {p2 : Int32} {a4 : Int32} (h : AGs t) : aw (M_link_s82 t p1 p2 a4) (Sum.elim (fun z => AGs z.2) (fun z => AGs z.2)) := by
  unfold M_link_s82
  exact (aw_if (aw_bind aw_t (fun _ h => (aw_if (aM_link_b112 (by assumption)) (aw_bind aw_t (fun _ h => (aM_link_b112 (by assumption))))))) (aw_xo (ag_f2 (fM_link_b206 (W := wM_link_b206) rfl mfr.rf) (by assumption) (by decide))))
theorem aM_link_b82 {t : moS} {p1 : Int32} {p2 : Int32} {a4 : Int32} (h : AGs t) : aw (M_link_b82 t p1 p2 a4) (fun z => AGs z.2) := by
  unfold M_link_b82
  refine aw_lp (I := (fun z => AGs z.2)) ?_ ?_
  · exact h
  · intro y hy
    exact (aM_link_s82 hy)
theorem aM_link_b79 {t : moS} {p1 : Int32} {p2 : Int32} (h : AGs t) : aw (M_link_b79 t p1 p2) (fun z => AGs z.2) := by
  unfold M_link_b79
  exact (aM_link_b82 (by assumption))
theorem aM_link_s38 {t : moS} {p1 : Int32} {p2 : Int32} {a3 : Int32} (h : AGs t) : aw (M_link_s38 t p1 p2 a3) (Sum.elim (fun z => AGs z.2) (fun z => AGs z.2)) := by
  unfold M_link_s38
  exact (aw_if (aw_if (aw_bind aw_t (fun _ h => (aw_bind aw_t (fun _ h => (aw_if (aw_bind (ag_f (fM_takeOff (W := wM_takeOff) rfl mfr.rf) (by assumption) (by decide)) (fun _ h => (aw_some (by first | assumption | trivial | exact True.intro)))) (aw_some (by first | assumption | trivial | exact True.intro))))))) (aw_xo (aM_link_b79 (by assumption)))) (aw_xo (aM_link_b79 (by assumption))))
theorem aM_link_b38 {t : moS} {p1 : Int32} {p2 : Int32} {a3 : Int32} (h : AGs t) : aw (M_link_b38 t p1 p2 a3) (fun z => AGs z.2) := by
  unfold M_link_b38
  refine aw_lp (I := (fun z => AGs z.2)) ?_ ?_
  · exact h
  · intro y hy
    exact (aM_link_s38 hy)
theorem aM_link {t : moS} {p1 : Int32} {p2 : Int32} (h : AGs t) : aw (M_link t p1 p2) (fun z => AGs z.2) := by
  unfold M_link
  exact (aw_let (P := AGs) (by assumption) (fun _ h => (aw_if (aw_some (by first | assumption | trivial | exact True.intro)) (aw_if (aw_bind aw_t (fun _ h => (aw_if (aw_some (by first | assumption | trivial | exact True.intro)) (aw_bind (ag_wrZ (by decide) (by assumption)) (fun _ h => (aM_link_b38 (by assumption))))))) (aw_some (by first | assumption | trivial | exact True.intro))))))
theorem aM_age_b115 {t : moS} {p1 : Int32} {a2 : Int32} (h : AGs t) : aw (M_age_b115 t p1 a2) (Sum.elim (fun z => AGs z.2) AGs) := by
  unfold M_age_b115
  exact (aw_some (by first | assumption | trivial | exact True.intro))
theorem aM_age_b68 {t : moS} {p1 : Int32} {a2 : Int32} {u0 : Int32} (h : AGs t) : aw (M_age_b68 t p1 a2 u0) (Sum.elim (fun z => AGs z.2) AGs) := by
  unfold M_age_b68
  exact (aw_if (aw_bind aw_t (fun _ h => (aw_if (aw_bind aw_t (fun _ h => (aw_if (aM_age_b115 (by assumption)) (aw_bind (aM_remove (by assumption)) (fun _ h => (aw_some (by first | assumption | trivial | exact True.intro))))))) (aM_age_b115 (by assumption))))) (aw_bind (ag_f (fM_die (W := wM_die) rfl mfr.rf) (by assumption) (by decide)) (fun _ h => (aM_age_b115 (by assumption)))))
theorem aM_age_b67 {t : moS} {p1 : Int32} {a2 : Int32} (h : AGs t) : aw (M_age_b67 t p1 a2) (Sum.elim (fun z => AGs z.2) AGs) := by
  unfold M_age_b67
  exact (aM_age_b68 (by assumption))
theorem aM_age_s6 {t : moS} {p1 : Int32} {a2 : Int32} (h : AGs t) : aw (M_age_s6 t p1 a2) (Sum.elim (fun z => AGs z.2) AGs) := by
  unfold M_age_s6
  exact (aw_bind aw_t (fun _ h => (aw_if (aw_bind aw_t (fun _ h => (aw_if (aw_bind aw_t (fun _ h => (aw_if (aw_bind aw_t (fun _ h => (aw_bind aw_t (fun _ h => (aw_if (aM_age_b67 (by assumption)) (aM_age_b68 (by assumption))))))) (aM_age_b67 (by assumption))))) (aM_age_b67 (by assumption))))) (aw_xo (aw_some (by first | assumption | trivial | exact True.intro))))))
theorem aM_age_b6 {t : moS} {p1 : Int32} {a2 : Int32} (h : AGs t) : aw (M_age_b6 t p1 a2) AGs := by
  unfold M_age_b6
  refine aw_lp (I := (fun z => AGs z.2)) ?_ ?_
  · exact h
  · intro y hy
    exact (aM_age_s6 hy)
theorem aM_age {t : moS} {p1 : Int32} (h : AGs t) : aw (M_age t p1) AGs := by
  unfold M_age
  exact (aM_age_b6 (by assumption))
theorem aM_forget_s6 {t : moS} {p1 : Int32} {a2 : Int32} (h : AGs t) : aw (M_forget_s6 t p1 a2) (Sum.elim (fun z => AGs z.2) AGs) := by
  unfold M_forget_s6
  exact (aw_bind aw_t (fun _ h => (aw_if (aw_bind (ag_wrZ (by decide) (by assumption)) (fun _ h => (aw_some (by first | assumption | trivial | exact True.intro)))) (aw_xo (aw_bind (ag_wrI (by decide) (by assumption)) (fun _ h => (aw_some (by first | assumption | trivial | exact True.intro))))))))
