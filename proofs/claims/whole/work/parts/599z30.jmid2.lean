/-! A join, from the place where its interface is there. -/
section Jm2
variable {sa : Nat → Nat} {x r p f lk rd : Nat} {t t0 : moS} {l : List Int32} {ws : List (Nat × Nat)} {P : List (Nat × Nat)} {V0 : chV} {hh ll : Int64} {nn : Int32} {Os : Nat → List Pf}
abbrev Wjm : List Nat := [72, 73, 74, 75, 76, 77, 78, 79, 80, 81, 82, 83, 84, 85, 86, 87, 88] ++ Wje
theorem j_mid (hM0 : MV t0) (hE : EX Os t0) (hr : r < cR t0) (hM : MV t) (hW : WX t l ws) (c0 : jnT r p t0 t) (m0 : mfr [70, 71, 72, 73] t0 t) (hf : f = 0 ∨ f = 1) (h75 : p < cI t0 r → t0.I 75 (2 * (4 * r + p) + f) = 0) (hO : (Os r).length < 760) (hl : lk < cL t) (h71 : t.I 71 (4 * r + p) = nI lk) (h12 : t.S 12 = nI f) (h13 : t.Z 13 = hh) (h14 : t.Z 14 = ll) (h15 : t.S 15 = nn) (hn : rng nn 0 (if f = 0 then 32 else 128)) (hP : jP (wC l ws) ws.length ws.length 4 0 = some P) (hg : ∀ e, e ∈ P → gdE l ws e) (ok : jOk (wC l ws) P) (hrm : rmO l ws P V0) (hV0 : VV V0) (hC0 : MC t (4 * r + p) V0) (hs : ¬ t.I 23 lk + 1 < 0) : ∃ t' O, M_lineJoin_b315 t (nI (jW 1 P)) (nI (jW 2 P)) (nI (jW 3 P)) (nI (jW 4 P)) (nI (jW 5 P)) (nI r) (nI lk) (nI (4 * r + p)) = some (0, t') ∧ MV t' ∧ EX (fun r' => if r' = r then O :: Os r else Os r') t' ∧ mfr Wjm t t' ∧ (t'.I 23 = t.I 23 ∨ t'.I 23 = upd (t.I 23) lk (t.I 23 lk + 1)) ∧ ∀ G H s kc ks, RR G H sa x s t → (s.K rd).1 = 22 → PF s (H 146 rd) (fam (nI f)) hh ll nn → CC H s (H 151 rd) (P.foldl (vS l ws) V0) → (s.I 148 rd = (if jW 1 P = 0 then -1 else oI (nmR (wN l ws (jW 1 P)) 1 15)) ∧ s.I 149 rd = (if jW 2 P = 0 then -1 else spV (wC l ws (jW 2 P))) ∧ s.I 150 rd = (if jW 6 P = 0 then 0 else 1)) → PoC s G H t + 1 ≤ kc → PoS s G H t + 4 ≤ ks → ∀ Q : Int32 → cS → Nat → Nat → Prop, (∀ G' H' s' kc' ks', RR G' H' sa x s' t' → kp x s s' → kc + PoC s' G' H' t' ≤ kc' + PoC s G H t + 1 → ks + PoS s' G' H' t' ≤ ks' + PoS s G H t + 4 → Q 0 s' kc' ks') → C_Re_joinLine_b129 sa rd (some (G 1 r)) (some (G 0 lk)) (some (G 2 (4 * r + p))) s kc ks Q := by
  have h6 := hM0.nR
  have eR : cR t = cR t0 := by unfold cR; rw [m0.S 37 (by decide)]
  have hrt : r < cR t := by rw [eR]; exact hr
  have hp : p < cI t r := c0.2.2.1
  have h4 := hM.nIf hrt
  have hq : 4 * r + p < 24 := by omega
  have b74 : bit (t.I 74 (4 * r + p)) := ((hM.r hrt).i hp).2.2.2.2.1
  obtain ⟨tm, e1, hJ⟩ := m_j315 (a6 := nI r) (a7 := nI lk) hM.n hW hP hg ok hq hf h12 b74
  rw [h13, h14, h15] at hJ
  have bco : (if jW 1 P = 0 then (-1 : Int32) else oI (nmR (wN l ws (jW 1 P)) 1 15)) = -1 ∨ rng (if jW 1 P = 0 then (-1 : Int32) else oI (nmR (wN l ws (jW 1 P)) 1 15)) 1 15 := by
    by_cases z : jW 1 P = 0
    · exact Or.inl (if_pos z)
    · obtain ⟨n, en⟩ := Option.isSome_iff_exists.mp (((gd_all hP).mp hg).1 z)
      have hb := nmR_b en
      refine Or.inr ?_
      rw [if_neg z, en]
      exact ⟨n, rfl, by omega, by omega⟩
  have hpas : bit (if jW 6 P = 0 then (0 : Int32) else 1) := by
    by_cases z : jW 6 P = 0
    · exact Or.inl (if_pos z)
    · exact Or.inr (if_neg z)
  have hMm := mv_jm hM hrt hp hf hJ hn bco hpas
  have mJ := hJ.1
  have hCm : MC tm (4 * r + p) V0 := by
    unfold MC at hC0 ⊢
    rw [mJ.I 79 (by decide), mJ.I 80 (by decide), mJ.I 81 (by decide), mJ.I 82 (by decide), mJ.I 83 (by decide), mJ.I 84 (by decide), mJ.I 85 (by decide), mJ.I 86 (by decide), mJ.I 87 (by decide), mJ.I 88 (by decide)]
    exact hC0
  obtain ⟨t1, e2, fk, hC1, hV1⟩ := m_app (Pt := P) (a6 := nI r) (a7 := nI lk) (a10 := nI (2 * (4 * r + p) + f)) hq ws.length 4 0 P V0 tm (hW.mf mJ rfl) hMm.n (by decide) (by decide) hP cA_0 hg hrm hV0 hCm
  have hrm' : r < cR tm := by unfold cR; rw [mJ.S 37 (by decide)]; exact hrt
  have hpm : p < cI tm r := by unfold cI; rw [mJ.I 70 (by decide)]; exact hp
  have hM1 : MV t1 := mv_ch hMm hrm' hpm fk hV1 hC1
  obtain ⟨jn1, ho, mm⟩ := jn_jm c0 m0 hf h75 hJ fk
  have e23 : t1.I 23 = t.I 23 := mm.I 23 (by decide)
  obtain ⟨t', q1, q2, q3, q4, q5, q6⟩ := j_end (sa := sa) (x := x) (rd := rd) (l := lk) hM0 hr hE hM1 jn1 (show f < 2 by omega) ho hO (by unfold cL; rw [mm.S 17 (by decide)]; exact hl) (by rw [mm.I 71 (by decide)]; exact h71) (by rw [fk.1.I 75 (by decide), hJ.2.2.1.1]; decide) hV1 hC1 (by rw [e23]; exact hs)
  refine ⟨t', _, ?_, q2, q3, (mm.wk (by decide)).tr (q4.wk (by decide)), by rw [e23] at q5; exact q5, fun G H s kc ks hR krd hPF hCC hI hkc hks Q k => ?_⟩
  · rw [e1]
    unfold M_lineJoin_b418 M_lineJoin_b421
    exact e2.trans q1
  · unfold C_Re_joinLine_b129
    refine ⟨okr krd 7, c_joined hR hM hrt hp krd hf hPF hn hV1 hCC hI hpas hJ.1 hJ.2.1 hJ.2.2.1.1 hJ.2.2.1.2.1 hJ.2.2.1.2.2.1 hJ.2.2.1.2.2.2 hJ.2.2.2.1 hJ.2.2.2.2.1 hJ.2.2.2.2.2.1 hJ.2.2.2.2.2.2 bco fk hC1 (by omega) (by omega) fun s1 R1 _ f1 => ?_⟩
    have hT := hR.q.1.ty
    obtain ⟨p146, k146⟩ := hT.p krd 146 19
    obtain ⟨a1, a2⟩ := pot_fr (G' := G) (H' := H) (t' := t1) hR hM f1 rfl gA.rf hA.rf (by unfold cR; rw [mm.S 37 (by decide)]; exact Nat.le_refl _) (by unfold cL; rw [mm.S 17 (by decide)]; exact Nat.le_refl _) (fun r _ => by unfold cI; rw [mm.I 70 (by decide)]; exact Nat.le_refl _) (by unfold cF; rw [mm.S 123 (by decide)])
    refine q6 G H s1 (kc - 1) (ks - 4) (H 146 rd) R1 (okr (f1.r krd) 7) (f1.r krd) ((f1.p krd (by decide)).trans p146) (f1.r k146) (((f1.v k146 (by decide)).1 100).trans hPF.1) (by omega) (by omega) Q fun G' H' s' kc' ks' b1 b2 b3 b4 => ?_
    exact k G' H' s' kc' ks' b1 ((f1.kp hR.q.1.1.1 rfl).tr b2) (by omega) (by omega)
end Jm2
