/-! What is read as an address: its family, its upper half; by program. -/
theorem dM_readFour_b83 {t : moS} {p2 : Int32} {a3 : Int64} {a6 : Int32} {a7 : Int32} {a8 : Int32} {u0 : Int32} {u1 : Int32} : aw (M_readFour_b83 t p2 a3 a6 a7 a8 u0 u1) (Sum.elim (fun _ => True) (fun z => z.1 = 0 ∨ (z.2.S 12 = 0 ∧ lh0 (z.2.Z 13)))) := by
  unfold M_readFour_b83
  exact (aw_if (aw_xo (aw_some (by first | exact trivial | exact Or.inl rfl))) (aw_some (by first | exact trivial | exact Or.inl rfl)))
theorem dM_readFour_b72 {t : moS} {p2 : Int32} {a3 : Int64} {a6 : Int32} {a7 : Int32} {a8 : Int32} {u0 : Int32} : aw (M_readFour_b72 t p2 a3 a6 a7 a8 u0) (Sum.elim (fun _ => True) (fun z => z.1 = 0 ∨ (z.2.S 12 = 0 ∧ lh0 (z.2.Z 13)))) := by
  unfold M_readFour_b72
  exact (aw_if (dM_readFour_b83) (dM_readFour_b83))
theorem dM_readFour_b42 {t : moS} {p2 : Int32} {a3 : Int64} {a5 : Int32} {a6 : Int32} {a7 : Int32} : aw (M_readFour_b42 t p2 a3 a5 a6 a7) (Sum.elim (fun _ => True) (fun z => z.1 = 0 ∨ (z.2.S 12 = 0 ∧ lh0 (z.2.Z 13)))) := by
  unfold M_readFour_b42
  exact (aw_bind aw_t (fun _ h => (aw_if (aw_xo (aw_some (by first | exact trivial | exact Or.inl rfl))) (aw_if (dM_readFour_b72) (dM_readFour_b72)))))
theorem dM_readFour_s18 {t : moS} {p2 : Int32} {a3 : Int64} {a5 : Int32} {a6 : Int32} {a7 : Int32} : aw (M_readFour_s18 t p2 a3 a5 a6 a7) (Sum.elim (fun _ => True) (Sum.elim (fun _ => True) (fun z => z.1 = 0 ∨ (z.2.S 12 = 0 ∧ lh0 (z.2.Z 13))))) := by
  unfold M_readFour_s18
  exact (aw_if (aw_bind aw_t (fun _ h => (aw_if (aw_xo (dM_readFour_b42)) (aw_some (by first | exact trivial | exact Or.inl rfl))))) (aw_xo (dM_readFour_b42)))
theorem dM_readFour_b18 {t : moS} {p2 : Int32} {a3 : Int64} {a5 : Int32} {a6 : Int32} {a7 : Int32} : aw (M_readFour_b18 t p2 a3 a5 a6 a7) (Sum.elim (fun _ => True) (fun z => z.1 = 0 ∨ (z.2.S 12 = 0 ∧ lh0 (z.2.Z 13)))) := by
  unfold M_readFour_b18
  refine aw_lp (I := (fun _ => True)) trivial ?_
  intro y _
  exact (dM_readFour_s18)
theorem dM_readFour_s8 {t : moS} {p2 : Int32} {a3 : Int64} {a5 a6 : Int32} : aw (M_readFour_s8 t p2 a3 a5 a6) (Sum.elim (fun _ => True) (fun z => z.1 = 0 ∨ (z.2.S 12 = 0 ∧ lh0 (z.2.Z 13)))) := by
  unfold M_readFour_s8
  exact aw_if dM_readFour_b18 (aw_xo (aw_some (Or.inr ⟨rfl, lh_shl a3⟩)))
theorem dM_readFour_b8 {t : moS} {p2 : Int32} {a3 : Int64} {a5 : Int32} {a6 : Int32} : aw (M_readFour_b8 t p2 a3 a5 a6) (fun z => z.1 = 0 ∨ (z.2.S 12 = 0 ∧ lh0 (z.2.Z 13))) := by
  unfold M_readFour_b8
  refine aw_lp (I := (fun _ => True)) trivial ?_
  intro y _
  exact (dM_readFour_s8)
theorem dM_readFour {t : moS} {p1 : Int32} {p2 : Int32} : aw (M_readFour t p1 p2) (fun z => z.1 = 0 ∨ (z.2.S 12 = 0 ∧ lh0 (z.2.Z 13))) := by
  unfold M_readFour
  exact (dM_readFour_b8)
theorem dM_readSix_b387 {t : moS} {a3 : Int32} {a4 : Int32} {a7 : Int64} {a9 : Int64} {a11 : Int32} : aw (M_readSix_b387 t a3 a4 a7 a9 a11) (Sum.elim (fun _ => True) (fun z => z.1 = 0 ∨ z.2.S 12 = 1)) := by
  unfold M_readSix_b387
  exact (aw_some (by first | exact trivial | exact Or.inl rfl))
theorem dM_readSix_b354 {t : moS} {a3 : Int32} {a4 : Int32} {a7 : Int64} {a9 : Int64} {a11 : Int32} {u0 : Int32} : aw (M_readSix_b354 t a3 a4 a7 a9 a11 u0) (Sum.elim (fun _ => True) (fun z => z.1 = 0 ∨ z.2.S 12 = 1)) := by
  unfold M_readSix_b354
  exact (aw_if (dM_readSix_b387) (dM_readSix_b387))
theorem dM_readSix_b316 {t : moS} {a3 : Int32} {a4 : Int32} {a7 : Int64} {a9 : Int64} {a11 : Int32} : aw (M_readSix_b316 t a3 a4 a7 a9 a11) (Sum.elim (fun _ => True) (fun z => z.1 = 0 ∨ z.2.S 12 = 1)) := by
  unfold M_readSix_b316
  exact (aw_bind aw_t (fun _ h => (dM_readSix_b354)))
theorem dM_readSix_s296 {t : moS} {a3 a4 : Int32} {a7 a9 : Int64} {a11 : Int32} : aw (M_readSix_s296 t a3 a4 a7 a9 a11) (Sum.elim (fun _ => True) (fun z => z.1 = 0 ∨ z.2.S 12 = 1)) := by
  unfold M_readSix_s296
  exact aw_if (aw_if dM_readSix_b316 (aw_if dM_readSix_b316 (aw_if dM_readSix_b354 (aw_bind aw_t fun _ _ => dM_readSix_b354)))) (aw_xo (aw_some (Or.inr rfl)))
theorem dM_readSix_b296 {t : moS} {a3 : Int32} {a4 : Int32} {a7 : Int64} {a9 : Int64} {a11 : Int32} : aw (M_readSix_b296 t a3 a4 a7 a9 a11) (fun z => z.1 = 0 ∨ z.2.S 12 = 1) := by
  unfold M_readSix_b296
  refine aw_lp (I := (fun _ => True)) trivial ?_
  intro y _
  exact (dM_readSix_s296)
theorem dM_readSix_b287 {t : moS} {a3 : Int32} {a4 : Int32} : aw (M_readSix_b287 t a3 a4) (fun z => z.1 = 0 ∨ z.2.S 12 = 1) := by
  unfold M_readSix_b287
  exact (dM_readSix_b296)
theorem dM_readSix_b261 {t : moS} {p2 : Int32} {a3 : Int32} {a4 : Int32} {a5 : Int32} {a6 : Int32} : aw (M_readSix_b261 t p2 a3 a4 a5 a6) (Sum.elim (fun _ => True) (fun z => z.1 = 0 ∨ z.2.S 12 = 1)) := by
  unfold M_readSix_b261
  exact (aw_some (by first | exact trivial | exact Or.inl rfl))
theorem dM_readSix_b248 {t : moS} {p2 : Int32} {a3 : Int32} {a4 : Int32} {a5 : Int32} {u0 : Int32} : aw (M_readSix_b248 t p2 a3 a4 a5 u0) (Sum.elim (fun _ => True) (fun z => z.1 = 0 ∨ z.2.S 12 = 1)) := by
  unfold M_readSix_b248
  exact (dM_readSix_b261)
theorem dM_readSix_b253 {t : moS} {p2 : Int32} {a3 : Int32} {a4 : Int32} {a5 : Int32} {a6 : Int32} : aw (M_readSix_b253 t p2 a3 a4 a5 a6) (Sum.elim (fun _ => True) (fun z => z.1 = 0 ∨ z.2.S 12 = 1)) := by
  unfold M_readSix_b253
  exact (aw_if (aw_xo (aw_some (by first | exact trivial | exact Or.inl rfl))) (dM_readSix_b261))
theorem dM_readSix_b178 {t : moS} {p2 : Int32} {a3 : Int32} {a4 : Int32} {a5 : Int32} {u0 : Int32} : aw (M_readSix_b178 t p2 a3 a4 a5 u0) (Sum.elim (fun _ => True) (fun z => z.1 = 0 ∨ z.2.S 12 = 1)) := by
  unfold M_readSix_b178
  exact (aw_if (aw_some (by first | exact trivial | exact Or.inl rfl)) (aw_bind aw_t (fun _ h => (aw_if (aw_if (aw_bind aw_t (fun _ h => (aw_if (aw_if (aw_if (dM_readSix_b248) (dM_readSix_b248)) (aw_xo (aw_some (by first | exact trivial | exact Or.inl rfl)))) (dM_readSix_b253)))) (dM_readSix_b253)) (aw_xo (aw_some (by first | exact trivial | exact Or.inl rfl)))))))
theorem dM_readSix_b137 {t : moS} {p2 : Int32} {a3 : Int32} {a4 : Int32} {a5 : Int32} {a7 : Int32} {a8 : Int32} : aw (M_readSix_b137 t p2 a3 a4 a5 a7 a8) (Sum.elim (fun _ => True) (fun z => z.1 = 0 ∨ z.2.S 12 = 1)) := by
  unfold M_readSix_b137
  exact (aw_if (aw_xo (aw_some (by first | exact trivial | exact Or.inl rfl))) (aw_if (aw_xo (aw_some (by first | exact trivial | exact Or.inl rfl))) (aw_if (aw_xo (aw_some (by first | exact trivial | exact Or.inl rfl))) (aw_bind aw_t (fun _ h => (aw_if (dM_readSix_b178) (dM_readSix_b178)))))))
theorem dM_readSix_s84 {t : moS} {p2 : Int32} {a3 : Int32} {a4 : Int32} {a5 : Int32} {a7 : Int32} {a8 : Int32} : aw (M_readSix_s84 t p2 a3 a4 a5 a7 a8) (Sum.elim (fun _ => True) (Sum.elim (fun _ => True) (fun z => z.1 = 0 ∨ z.2.S 12 = 1))) := by
  unfold M_readSix_s84
  exact (aw_if (aw_bind aw_t (fun _ h => (aw_if (aw_xo (dM_readSix_b137)) (aw_if (aw_bind aw_t (fun _ h => (aw_some (by first | exact trivial | exact Or.inl rfl)))) (aw_xo (dM_readSix_b137)))))) (aw_xo (dM_readSix_b137)))
theorem dM_readSix_b84 {t : moS} {p2 : Int32} {a3 : Int32} {a4 : Int32} {a5 : Int32} {a7 : Int32} {a8 : Int32} : aw (M_readSix_b84 t p2 a3 a4 a5 a7 a8) (Sum.elim (fun _ => True) (fun z => z.1 = 0 ∨ z.2.S 12 = 1)) := by
  unfold M_readSix_b84
  refine aw_lp (I := (fun _ => True)) trivial ?_
  intro y _
  exact (dM_readSix_s84)
theorem dM_readSix_s73 {t : moS} {p2 : Int32} {a3 : Int32} {a4 : Int32} {a5 : Int32} {a6 : Int32} : aw (M_readSix_s73 t p2 a3 a4 a5 a6) (Sum.elim (fun _ => True) (fun z => z.1 = 0 ∨ z.2.S 12 = 1)) := by
  unfold M_readSix_s73
  exact (aw_if (aw_xo (aw_if (aw_if (dM_readSix_b287) (aw_some (by first | exact trivial | exact Or.inl rfl))) (aw_if (aw_some (by first | exact trivial | exact Or.inl rfl)) (dM_readSix_b287)))) (dM_readSix_b84))
theorem dM_readSix_b73 {t : moS} {p2 : Int32} {a3 : Int32} {a4 : Int32} {a5 : Int32} {a6 : Int32} : aw (M_readSix_b73 t p2 a3 a4 a5 a6) (fun z => z.1 = 0 ∨ z.2.S 12 = 1) := by
  unfold M_readSix_b73
  refine aw_lp (I := (fun _ => True)) trivial ?_
  intro y _
  exact (dM_readSix_s73)
theorem dM_readSix_b58 {t : moS} {p2 : Int32} {a3 : Int32} {a4 : Int32} {a5 : Int32} {u0 : Int32} : aw (M_readSix_b58 t p2 a3 a4 a5 u0) (fun z => z.1 = 0 ∨ z.2.S 12 = 1) := by
  unfold M_readSix_b58
  exact (aw_if (aw_if (aw_some (by first | exact trivial | exact Or.inl rfl)) (dM_readSix_b73)) (dM_readSix_b73))
theorem dM_readSix_b47 {t : moS} {p2 : Int32} {a3 : Int32} {a4 : Int32} {a5 : Int32} : aw (M_readSix_b47 t p2 a3 a4 a5) (fun z => z.1 = 0 ∨ z.2.S 12 = 1) := by
  unfold M_readSix_b47
  exact (aw_if (dM_readSix_b58) (dM_readSix_b58))
theorem dM_readSix {t : moS} {p1 : Int32} {p2 : Int32} : aw (M_readSix t p1 p2) (fun z => z.1 = 0 ∨ z.2.S 12 = 1) := by
  unfold M_readSix
  exact (aw_if (aw_bind aw_t (fun _ h => (aw_if (aw_bind aw_t (fun _ h => (aw_if (dM_readSix_b47) (dM_readSix_b47)))) (dM_readSix_b47)))) (dM_readSix_b47))
def adF (t : moS) : Prop := (t.S 12 = 0 ∧ lh0 (t.Z 13)) ∨ t.S 12 = 1
theorem dM_readAddress {t : moS} {p1 p2 : Int32} : aw (M_readAddress t p1 p2) (fun z => z.1 = 0 ∨ adF z.2) := by
  unfold M_readAddress M_readAddress_b18
  refine aw_bn2 dM_readFour fun x2 s1 h1 => ?_
  split
  · refine aw_bn2 dM_readSix fun x4 s3 h3 => ?_
    split
    · exact aw_some (Or.inl rfl)
    · rename_i c
      exact aw_some (Or.inr (Or.inr (h3.resolve_left c)))
  · rename_i c
    exact aw_some (Or.inr (Or.inl (h1.resolve_left c)))
theorem dM_isAddressWithLength {t : moS} {p1 : Int32} : aw (M_isAddressWithLength t p1) (fun z => z.1 = 0 ∨ adF z.2) := by
  have e43 : ∀ {t : moS} {p1 a2 a3 : Int32}, aw (M_isAddressWithLength_b43 t p1 a2 a3) (fun z => z.1 = 0 ∨ adF z.2) := by
    intro t p1 a2 a3
    unfold M_isAddressWithLength_b43
    refine aw_if (aw_some (Or.inl rfl)) (aw_bind aw_t fun x1 _ => aw_bn2 dM_readAddress fun x3 s2 h2 => ?_)
    split
    · exact aw_some (Or.inl rfl)
    · rename_i c
      refine aw_bind aw_t fun x4 _ => ?_
      unfold letS
      have h2 := h2.resolve_left c
      exact aw_if (aw_some (Or.inl rfl)) (aw_some (Or.inr h2))
  unfold M_isAddressWithLength
  refine aw_bind aw_t fun x1 _ => aw_bind aw_t fun x2 _ => aw_bind aw_t fun x3 _ => ?_
  unfold M_isAddressWithLength_b21
  refine aw_lp (I := fun _ => True) trivial fun y _ => ?_
  unfold M_isAddressWithLength_s21
  exact aw_if (aw_bind aw_t fun x1 _ => aw_if (aw_xo e43) (aw_some trivial)) (aw_xo e43)
