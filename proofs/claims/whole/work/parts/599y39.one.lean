/-! A router settles where one prefix is to be settled: the class that one, the model all. -/
/-- what stands behind a settling -/
def SetR (G H : Nat → Nat → Nat) (sa : Nat → Nat) (x : Nat) (s : cS) (t : moS) (r : Nat) (t' : moS) (kc ks : Nat) (Q : cS → Nat → Nat → Prop) : Prop := ∀ G' H' s' kc' ks', RR G' H' sa x s' t' → (∀ b, b ≠ 4 → b ≠ 13 → G' b = G b) → (∀ r', r' ≠ r → G' 13 r' = G 13 r') → hA H H' s → fr Rtb Ptb Qtb s s' → (∀ b g, b ≠ H 186 (G 1 r) → (s.K b).1 ≠ 0 → g ≠ 166 → s'.P g b = s.P g b) → kc + potC G' r ≤ kc' + potC G r → ks + potS s' G' H' r ≤ ks' + potS s G H r → Q s' kc' ks'
section One
variable {G H : Nat → Nat → Nat} {sa : Nat → Nat} {x r p kc ks : Nat} {s : cS} {t : moS} {f n : Int32} {h l : Int64} {K : List Pf}
theorem set_one (hR : RR G H sa x s t) (hM : MV t) (hr : r < cR t) (hf : lnOk f n) (hpx : isPx h l n) (hp : PF s p (fam f) h l n) (h5 : okO s 5 p) (hrole : (s.K p).1 = 18 ∨ (s.K p).1 = 19 ∨ (s.K p).1 = 36) (hb : KB K t r) (hK : ∀ k, k < cSt t r → stP t (32 * r + k) ∈ K) (hK2 : ∀ y, y < 2 * cI t r → t.I 75 (8 * r + y) ≠ 0 → neP t r y ∈ K) (hP : (f, h, l, n) ∈ K) (hcov : t.I 39 r ≠ 0 → ∀ P : Pf, lnOk P.1 P.2.2.2 → P ≠ (f, h, l, n) → stM t r P (al t r) = al t r) (hkc : potC G r ≤ kc) (hks : potS s G H r ≤ ks) : ∃ t', M_settle t (nI r) = some t' ∧ MV t' ∧ rwT r t t' ∧ (t.I 39 r ≠ 0 → SEt t' r) ∧ KB K t' r ∧ ∀ Q, SetR G H sa x s t r t' kc ks Q → C_Rr_settle sa (G 1 r) (some p) s kc ks Q := by
  have h6 := hM.nR
  have hq := hR.q.1
  have k26 := (hq.rt hr).1.1
  by_cases hrun : t.I 39 r = 0
  · refine ⟨t, ?_, hM, rwT.rf, fun z => absurd hrun z, hb, fun Q kk => ?_⟩
    · unfold M_settle
      rw [rdI_n (n := 6) (hM.n.n 39 6) (by omega) (by decide)]
      simp only [Option.bind_some]
      rw [if_pos hrun]
    · unfold C_Rr_settle
      refine ⟨_, gd_to (okr k26 9), ?_⟩
      rw [show s.I (20 * 9 + 3) (G 1 r) = t.I 39 r from (hq.rt hr).2.2.1.2.1]
      exact ifT hrun (kk G H s kc ks hR (fun _ _ _ => rfl) (fun _ _ => rfl) hA.rf fr.rf (fun _ _ _ _ _ => rfl) (Nat.le_refl _) (Nat.le_refl _))
  · obtain ⟨t2, t', e2, e1, q1, se, tr⟩ := c_fin (X := [(f, h, l, n)]) hM hr hrun hb hK hK2 (fun P hP' => by
      rw [List.mem_singleton.mp hP']
      exact ⟨hf, hP⟩) (fun P hP' => by
      by_cases c : P = (f, h, l, n)
      · exact Or.inl (by rw [c]; simp)
      · refine Or.inr (hcov hrun P ?_ c)
        rcases List.mem_append.mp hP' with z | z
        · obtain ⟨i, -, h2, e⟩ := (L1M_m _ _).mp z
          rw [e]
          exact hM.kl hr (by omega)
        · rcases List.mem_append.mp z with z | z
          · obtain ⟨i, -, h2, h3, e⟩ := (L2M_m _ _).mp z
            rw [e]
            exact neP_ok hM hr (by omega) h3
          · obtain ⟨i, -, h2, e⟩ := (L3M_m _ _).mp z
            rw [e]
            exact (hM.sl hr (by omega)).1)
    have e2' : SA t r f h l n = some t2 := by
      have : Option.bind (SA t r f h l n) (fun t' => some t') = some t2 := e2
      cases c : SA t r f h l n with
      | none => rw [c] at this; cases this
      | some y => rw [c] at this; exact this
    refine ⟨t', e1, q1.1, q1.2.1, fun _ => se, q1.2.2.1, fun Q kk => ?_⟩
    refine c_settle hR hM hr hrun hf hpx hp h5 hrole (fun z => hb.lt hM hr hP fun j hj y => z j hj ((pfR_v (hM.kl hr hj) hf).mp y)) hkc hks ?_
    intro G' H' s' t3 kc' ks' e3 hR' hM' g1 g2 g3 g4 g5 g6 g7 g8
    rw [e2'] at e3
    cases e3
    exact kk G' H' s' kc' ks' (tr G' H' sa x s' hR') g1 g2 g3 g4 g6 g7 g8
end One
