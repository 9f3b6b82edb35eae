/-! Lines static and nostatic, in the one form. -/
theorem sm_sp {g : Nat → Nat} {c K : Nat} : ∀ {n : Nat}, c ≤ n → sm (fun r => if r < c then g r else K) n = sm g c + (n - c) * K
  | 0, h => by
    have : c = 0 := by omega
    subst this
    simp [sm]
  | n + 1, h => by
    show sm (fun r => if r < c then g r else K) n + (if n < c then g n else K) = _
    by_cases e : c = n + 1
    · subst e
      rw [if_pos (by omega), sm_e (g := g) fun r hr => if_pos (by omega), show n + 1 - (n + 1) = 0 by omega, Nat.zero_mul]
      rfl
    · rw [sm_sp (n := n) (by omega), if_neg (by omega), show n + 1 - c = (n - c) + 1 by omega, Nat.add_mul]
      omega
section Ls
variable {G H : Nat → Nat → Nat} {sa : Nat → Nat} {rd x kc ks : Nat} {s : cS} {t : moS} {l : List Int32} {ws : List (Nat × Nat)} {Os : Nat → List Pf} {B : Int32 → Prop} {o : Option (Int32 × moS)} {C : (Int32 → cS → Nat → Nat → Prop) → Prop}
theorem fA_sm (h : cR t ≤ 6) : sm (fA G t) 6 = sm (pA G) (cR t) + (6 - cR t) * 13660 := sm_sp h
theorem fB_sm (h : cR t ≤ 6) : sm (fB s G H t) 6 = sm (pB s G H) (cR t) + (6 - cR t) * 76496 := sm_sp h
theorem pot_s (hM : MV t) : sm (pA G) (cR t) ≤ PoC s G H t ∧ sm (pB s G H) (cR t) ≤ PoS s G H t := by
  have h6 := hM.nR
  unfold PoC PoS
  rw [fA_sm h6, fB_sm h6]
  omega
theorem LSt.u (h : LX G H sa x rd s t l ws) (hg : LSt G H sa x s t kc ks Os o C) (hB : ∀ c t', o = some (c, t') → B c) : LU G H sa x s t kc ks Os B o C := by
  obtain ⟨c, t', Os', e1, e2, e3, e4, e5, e6⟩ := hg
  have hM := h.mv
  have h6 := hM.nR
  have hq := h.q
  have hT := hq.ty
  refine ⟨c, t', Os', e1, e2, e3, Or.inr ⟨hB c t' e1, e4⟩, e5.wk (by decide), fun i => Or.inl (by rw [e5.I 23 (by decide)]), fun Q k => e6 Q fun G' H' s' kc' ks' R g hh f k1 k2 => ?_⟩
  have eR : cR t' = cR t := by unfold cR; rw [e5.S 37 (by decide)]
  have eL : cL t' = cL t := by unfold cL; rw [e5.S 17 (by decide)]
  have eI : ∀ r, cI t' r = cI t r := fun r => by unfold cI; rw [e5.I 70 (by decide)]
  have eF : cF t' = cF t := by unfold cF; rw [e5.S 123 (by decide)]
  have a3 : sm (fL s' G' H' t') 10 ≤ sm (fL s G H t) 10 := sm_le fun i _ => by
    unfold fL
    rw [eL]
    split
    · rename_i hi
      have k7 := (hq.2.2.2.1 i hi).1.1
      have e67 : H' 67 (G 0 i) = H 67 (G 0 i) := hh 67 _ (by rw [k7]; decide)
      have := plC_fr hq hi f rfl
      unfold plC at this ⊢
      rw [g 0 (by decide), e67]
      omega
    · exact Nat.le_refl _
  have a4 : sm (fW s' G' H' t') 24 ≤ sm (fW s G H t) 24 := sm_le fun i _ => by
    unfold fW
    rw [eR, eI]
    split
    · rename_i hi
      have k8 := (hq.po hi.1 hi.2).1.1
      rw [show 4 * (i / 4) + i % 4 = i by omega] at k8
      have k4 := (hT.p k8 86 4).2
      rw [g 2 (by decide), hh 86 _ (by rw [k8]; decide)]
      unfold wkC
      rw [f.p k4 (by decide)]
      exact Nat.le_refl _
    · exact Nat.le_refl _
  have ed : dN G' t' = dN G t := by unfold dN; rw [eF, g 12 (by decide)]
  obtain ⟨a5, a6⟩ := so_le (t := t) (t' := t') (G := G) (G' := G') (s := s) (s' := s') (by rw [eR]; exact Nat.le_refl _) (fun r _ => by rw [eI]; exact Nat.le_refl _) (fun r p hr hp => by
    rw [g 2 (by decide)]
    exact cpZ_fr hq.1 f (hq.po hr hp).1.1 (by decide))
  refine k G' H' s' kc' ks' R (f.kp hq.1.1 rfl) ?_ ?_
  · unfold PoC
    rw [fA_sm h6, fA_sm (t := t') (by rw [eR]; exact h6), eR, ed]
    omega
  · unfold PoS
    rw [fB_sm h6, fB_sm (t := t') (by rw [eR]; exact h6), eR, ed]
    omega
theorem U_static (h : LX G H sa x rd s t l ws) (hE : EX Os t) (hO : ∀ r, (Os r).length < 760) (hkc : PoC s G H t ≤ kc) (hks : PoS s G H t ≤ ks) (hB : ∀ c, (c = 0 → 4 ≤ ws.length ∧ (ws.getD 2 (0, 0)).1 + 4 ≤ (ws.getD 2 (0, 0)).2) → B c) : LU G H sa x s t kc ks Os B (M_lineStatic t) (C_Re_staticLine sa rd s kc ks) := by
  have := pot_s (G := G) (H := H) (s := s) h.mv
  exact (P_static h hE hO (by omega) (by omega)).u h fun c t' e => hB c (st_g h _ e)
theorem U_nostatic (h : LX G H sa x rd s t l ws) (hE : EX Os t) (hO : ∀ r, (Os r).length < 760) (hkc : PoC s G H t ≤ kc) (hks : PoS s G H t ≤ ks) (hB : ∀ c, (c = 0 → 3 ≤ ws.length ∧ (ws.getD 2 (0, 0)).1 + 4 ≤ (ws.getD 2 (0, 0)).2) → B c) : LU G H sa x s t kc ks Os B (M_lineNostatic t) (C_Re_nostaticLine sa rd s kc ks) := by
  have := pot_s (G := G) (H := H) (s := s) h.mv
  exact (P_nostatic h hE hO (by omega) (by omega)).u h fun c t' e => hB c (ns_g h _ e)
end Ls
