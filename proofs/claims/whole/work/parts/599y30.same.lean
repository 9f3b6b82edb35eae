/-! Two states of the model with the same map: the class cannot tell them apart. -/
theorem inc_ge {f : Nat → Nat} {n : Nat} (h : ∀ i j, i < j → j < n → f i < f j) : ∀ i, i < n → i ≤ f i
  | 0, _ => Nat.zero_le _
  | i + 1, hi => by
    have h1 := inc_ge h i (by omega)
    have h2 := h i (i + 1) (by omega) hi
    omega
theorem srt_le {a b : Nat → Nat} {n m : Nat} (ha : ∀ i j, i < j → j < n → a i < a j) (hb : ∀ i j, i < j → j < m → b i < b j) (h : ∀ i, i < n → ∃ j, j < m ∧ b j = a i) : n ≤ m ∧ ∀ i, i < n → b i ≤ a i := by
  obtain ⟨f, hf⟩ : ∃ f : Nat → Nat, ∀ i, i < n → f i < m ∧ b (f i) = a i := by
    refine ⟨fun i => @dite _ (i < n) (Classical.propDecidable _) (fun hi => (h i hi).choose) (fun _ => 0), fun i hi => ?_⟩
    dsimp only
    rw [dif_pos hi]
    exact (h i hi).choose_spec
  have inc : ∀ i j, i < j → j < n → f i < f j := fun i j hij hj => by
    obtain ⟨h1, h2⟩ := hf i (by omega)
    obtain ⟨h3, h4⟩ := hf j hj
    have h5 := ha i j hij hj
    rcases Nat.lt_or_ge (f i) (f j) with z | z
    · exact z
    · rcases Nat.lt_or_ge (f j) (f i) with y | y
      · have := hb _ _ y h1; omega
      · have : f i = f j := by omega
        rw [this] at h2; omega
  refine ⟨?_, fun i hi => ?_⟩
  · cases n with
    | zero => exact Nat.zero_le _
    | succ n =>
      have h1 := inc_ge inc n (by omega)
      have h2 := (hf n (by omega)).1
      omega
  · have h1 := inc_ge inc i hi
    obtain ⟨h2, h3⟩ := hf i hi
    rw [← h3]
    rcases Nat.lt_or_ge i (f i) with z | z
    · exact Nat.le_of_lt (hb _ _ z h2)
    · have : f i = i := by omega
      rw [this]; exact Nat.le_refl _
section Sm
variable {G H : Nat → Nat → Nat} {sa : Nat → Nat} {x r a k : Nat} {s : cS} {t t' : moS}
theorem al_rows (hM : MV t) (hM' : MV t') (hr : r < cR t) (hr' : r < cR t') (e : Vt t' r = Vt t r) : cN t' r = cN t r ∧ ∀ j, j < cN t r → pfR t' (2700 * r + j) = pfR t (2700 * r + j) ∧ rvN t' (2700 * r + j) = rvN t (2700 * r + j) := by
  have dir : ∀ {t t' : moS}, MV t → MV t' → r < cR t → r < cR t' → Vt t' r = Vt t r → ∀ i, i < cN t r → ∃ j, j < cN t' r ∧ kyR t' (2700 * r + j) = kyR t (2700 * r + i) := by
    intro t t' hM hM' hr hr' e i hi
    have h1 := Vt_some hM hr hi rfl
    rw [← e] at h1
    apply Classical.byContradiction
    intro z
    rw [Vt_none] at h1
    · cases h1
    · intro j hj y
      exact z ⟨j, hj, (pfR_k (hM'.kl hr' hj) (hM.kl hr hi)).mp y⟩
  have l1 := srt_le (a := fun i => kyR t (2700 * r + i)) (b := fun i => kyR t' (2700 * r + i)) (fun i j h1 h2 => hM.ks hr h1 h2) (fun i j h1 h2 => hM'.ks hr' h1 h2) (dir hM hM' hr hr' e)
  have l2 := srt_le (a := fun i => kyR t' (2700 * r + i)) (b := fun i => kyR t (2700 * r + i)) (fun i j h1 h2 => hM'.ks hr' h1 h2) (fun i j h1 h2 => hM.ks hr h1 h2) (dir hM' hM hr' hr e.symm)
  have en : cN t' r = cN t r := Nat.le_antisymm l2.1 l1.1
  refine ⟨en, fun j hj => ?_⟩
  have hj' : j < cN t' r := by rw [en]; exact hj
  have ek : kyR t' (2700 * r + j) = kyR t (2700 * r + j) := Nat.le_antisymm (l1.2 j hj) (l2.2 j hj')
  have ep := (pfR_k (hM'.kl hr' hj') (hM.kl hr hj)).mpr ek
  refine ⟨ep, ?_⟩
  have h1 := Vt_some hM hr hj rfl
  have h2 := Vt_some hM' hr' hj' ep
  rw [e, h1] at h2
  exact (Option.some.inj h2).symm
theorem RW.rv (h : RW G H s t a k) (e1 : pfR t' k = pfR t k) (e2 : rvN t' k = rvN t k) : RW G H s t' a k ∧ t'.I 110 k = t.I 110 k := by
  unfold pfR at e1
  unfold rvN at e2
  simp only [Prod.mk.injEq] at e1 e2
  obtain ⟨p1, p2, p3, p4⟩ := e1
  obtain ⟨q1, q2, q3, q4, q5, q6, q7, q8, q9, q10⟩ := e2
  rw [q1, q2] at q8 q9
  rw [q1, q4] at q10
  refine ⟨?_, q1⟩
  unfold RW at h ⊢
  rw [p1, p2, p3, p4, q1, q2, q3, q4, q5, q6, q7]
  obtain ⟨h1, h2, h3, h4, h5, h6, h7⟩ := h
  refine ⟨h1, h2, h3, h4, fun z1 z2 => ?_, fun z1 z2 => ?_, fun z1 z2 => ?_⟩
  · rw [if_pos ⟨z1, z2⟩, if_pos ⟨z1, z2⟩] at q8
    injection q8 with y1 y2
    rw [y1, y2]
    exact h5 z1 z2
  · rw [if_pos ⟨z1, z2⟩, if_pos ⟨z1, z2⟩] at q9
    rw [q9]
    exact h6 z1 z2
  · rw [if_pos ⟨z1, z2⟩, if_pos ⟨z1, z2⟩] at q10
    injection q10 with y1 y2
    rw [y1, y2]
    exact h7 z1 z2
theorem rr_al (hR : RR G H sa x s t) (hM : MV t) (hM' : MV t') (hr : r < cR t) (c : rwT r t t') (e : al t' r = al t r) (h45 : ∀ i, i ≠ 7 → t'.I 45 (11 * r + i) = t.I 45 (11 * r + i)) : RR G H sa x s t' := by
  have hq := hR.q.1
  have hT := hq.ty
  have hx := hq.1.1
  obtain ⟨m, m44, m45, m5, mI, mJ⟩ := c
  have hr' : r < cR t' := by unfold cR; rw [m.S 37 (by decide)]; exact hr
  have e0 : Vt t' r = Vt t r := congrArg Prod.fst e
  have e1 : t'.I 45 (11 * r + 7) = t.I 45 (11 * r + 7) := congrArg (fun y : AA => y.2.1) e
  have e2 : t'.I 44 r = t.I 44 r := congrArg (fun y : AA => y.2.2) e
  obtain ⟨en, erow⟩ := al_rows hM hM' hr hr' e0
  have e44 : ∀ j, t'.I 44 j = t.I 44 j := fun j => by
    by_cases z : j = r
    · rw [z]; exact e2
    · exact m44 j z
  have e45 : ∀ j, t'.I 45 j = t.I 45 j := fun j => by
    by_cases z : j < 11 * r ∨ 11 * r + 11 ≤ j
    · exact m45 j z
    · rw [show j = 11 * r + (j - 11 * r) by omega]
      by_cases y : j - 11 * r = 7
      · rw [y]; exact e1
      · exact h45 _ y
  refine rr_tb hR hM (fun _ _ => rfl) hq.1 (hq.2.1.fr m rfl) (fr.rf) (m.wk (by decide)) (fun _ _ => ⟨rfl, rfl⟩) fun r' hr'' => ?_
  have k1 := (hq.rt hr'').1.1
  refine ⟨?_, ?_, (hq.2.2.2.2.2.1 r' hr'').2.2.1.fr hT k1 (fr.rf (Rv := []) (Gp := []) (Rq := [])) m rfl rfl rfl rfl⟩
  · have := hq.rt hr''
    unfold RRt at this ⊢
    rw [m.J 38 (by decide), m.I 39 (by decide), m.I 40 (by decide), m.I 41 (by decide), m.I 42 (by decide), m.I 43 (by decide), e44, m.I 70 (by decide)]
    simp only [e45]
    exact this
  · obtain ⟨b0, b1, b2⟩ := hq.tb hr''
    by_cases z : r' = r
    · subst z
      unfold RTb
      rw [en]
      refine ⟨b0, fun j hj => ((b1 j hj).rv (erow j hj).1 (erow j hj).2).1, fun j hj => ?_⟩
      rw [((b1 j hj).rv (erow j hj).1 (erow j hj).2).2]
      exact b2 j hj
    · have en' : cN t' r' = cN t r' := by unfold cN; rw [m5 r' z]
      have h9 := hM.nRo hr''
      unfold RTb
      rw [en']
      refine ⟨b0, fun j hj => (b1 j hj).mv rfl (fun _ => rfl) rfl ⟨fun _ => rfl, fun _ => rfl⟩ ⟨fun _ => rfl, fun _ => rfl⟩ ⟨fun _ => rfl, fun _ => rfl⟩ (fun g hg => mI g hg _ (by omega)) (fun g hg => mJ g hg _ (by omega)), fun j hj => ?_⟩
      rw [mI 110 (by decide) _ (by omega)]
      exact b2 j hj
end Sm
