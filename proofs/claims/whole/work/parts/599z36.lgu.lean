/-! Lines of other forms, in the one form. -/
abbrev Wpl : List Nat := [12, 13, 14, 15, 16, 27, 28, 29, 30, 31, 32, 33, 34, 35, 36, 40, 41, 42, 43, 53, 54, 55, 56, 57, 58, 59, 60, 61, 62, 63, 64, 65, 66, 67, 68, 69, 79, 80, 81, 82, 83, 84, 85, 86, 87, 88, 89, 90, 91, 92, 93, 94, 95, 96, 97, 98, 99, 100]
section Lg
variable {G H : Nat → Nat → Nat} {sa : Nat → Nat} {rd x kc ks : Nat} {s : cS} {t : moS} {l : List Int32} {ws : List (Nat × Nat)} {Os : Nat → List Pf} {B : Int32 → Prop} {o : Option (Int32 × moS)} {C : (Int32 → cS → Nat → Nat → Prop) → Prop}
theorem LG.u (h : LX G H sa x rd s t l ws) (hg : LG G H sa x s t kc ks o C) (hE : ∀ c t', o = some (c, t') → MV t' → EX Os t' ∧ cR t ≤ cR t' ∧ cL t ≤ cL t') : LU G H sa x s t kc ks Os B o C := by
  obtain ⟨c, t', e1, e2, e3, e4⟩ := hg
  obtain ⟨f1, f2, f3⟩ := hE c t' e1 e2
  refine ⟨c, t', Os, e1, e2, f1, Or.inl rfl, e3.wk (by decide), fun i => Or.inl (by rw [e3.I 23 (by decide)]), fun Q k => e4 Q fun G' H' s' kc' ks' R g hh f k1 k2 => ?_⟩
  obtain ⟨a1, a2⟩ := pot_fr (t' := t') h.1 h.mv f rfl g hh f2 f3 (fun r _ => by unfold cI; rw [e3.I 70 (by decide)]; exact Nat.le_refl _) (by unfold cF; rw [e3.S 123 (by decide)])
  exact k G' H' s' kc' ks' R (f.kp h.q.1.1 rfl) (by omega) (by omega)
theorem LG.p (h : LX G H sa x rd s t l ws) (hE : EX Os t) (hg : LG G H sa x s t kc ks o C) (hw : aw o (fun z => mfr Wpl t z.2)) : LU G H sa x s t kc ks Os B o C := hg.u h fun c t' e hM' => by
  have m : mfr Wpl t t' := hw _ e
  exact ⟨hE.of h.mv hM' (by unfold cR; rw [m.S 37 (by decide)]) (fun _ _ => sEq.m m rfl) (fun _ _ z => by rw [m.I 39 (by decide)] at z; exact z), by unfold cR; rw [m.S 37 (by decide)]; exact Nat.le_refl _, by unfold cL; rw [m.S 17 (by decide)]; exact Nat.le_refl _⟩
theorem U_default (h : LX G H sa x rd s t l ws) (hE : EX Os t) : LU G H sa x s t kc ks Os B (M_lineDefault t) (C_Re_defaultLine sa rd s kc ks) := (P_default h).g.p h hE (fM_lineDefault rfl mfr.rf)
theorem U_timers (h : LX G H sa x rd s t l ws) (hE : EX Os t) : LU G H sa x s t kc ks Os B (M_lineTimers t) (C_Re_timersLine sa rd s kc ks) := (P_timers h).g.p h hE (fM_lineTimers rfl mfr.rf)
theorem U_redistribute (h : LX G H sa x rd s t l ws) (hE : EX Os t) : LU G H sa x s t kc ks Os B (M_lineRedistribute t) (C_Re_redistributeLine sa rd s kc ks) := (P_redistribute h).g.p h hE (fM_lineRedistribute rfl mfr.rf)
theorem U_distribute (h : LX G H sa x rd s t l ws) (hE : EX Os t) : LU G H sa x s t kc ks Os B (M_lineDistribute t) (C_Re_distributeLine sa rd s kc ks) := (P_distribute h).g.p h hE (fM_lineDistribute rfl mfr.rf)
theorem U_offset (h : LX G H sa x rd s t l ws) (hE : EX Os t) : LU G H sa x s t kc ks Os B (M_lineOffset t) (C_Re_offsetLine sa rd s kc ks) := (P_offset h).g.p h hE (fM_lineOffset rfl mfr.rf)
theorem U_nokey (h : LX G H sa x rd s t l ws) (hE : EX Os t) : LU G H sa x s t kc ks Os B (M_lineNokey t) (C_Re_nokeyLine sa rd s kc ks) := (P_nokey h).g.p h hE (fM_lineNokey rfl mfr.rf)
theorem U_key (h : LX G H sa x rd s t l ws) (hE : EX Os t) : LU G H sa x s t kc ks Os B (M_lineKey t) (C_Re_keyLine sa rd s kc ks) := (P_key h).g.p h hE (fM_lineKey rfl mfr.rf)
theorem U_summary (h : LX G H sa x rd s t l ws) (hE : EX Os t) (hkc : 64 ≤ kc) (hks : 1200 ≤ ks) : LU G H sa x s t kc ks Os B (M_lineSummary t) (C_Re_summaryLine sa rd s kc ks) := (P_summary h hkc hks).g.p h hE (fM_lineSummary rfl mfr.rf)
theorem U_neighbor (h : LX G H sa x rd s t l ws) (hE : EX Os t) (hkc : 64 ≤ kc) (hks : 1200 ≤ ks) : LU G H sa x s t kc ks Os B (M_lineNeighbor t) (C_Re_neighborLine sa rd s kc ks) := (P_neighbor h hkc hks).g.p h hE (fM_lineNeighbor rfl mfr.rf)
theorem U_filter (h : LX G H sa x rd s t l ws) (hE : EX Os t) (hkc : 64 ≤ kc) (hks : 1200 ≤ ks) : LU G H sa x s t kc ks Os B (M_lineFilter t) (C_Re_filterLine sa rd s kc ks) := (P_filter h hkc hks).g.p h hE (fM_lineFilter rfl mfr.rf)
theorem U_list (h : LX G H sa x rd s t l ws) (hE : EX Os t) (hc0 : wC l ws 0 = 783180) (hkc : 64 ≤ kc) (hks : 1200 ≤ ks) : LU G H sa x s t kc ks Os B (M_lineList t) (C_Re_listLine sa rd s kc ks) := (P_list h hc0 hkc hks).p h hE (fM_lineList rfl mfr.rf)
end Lg
