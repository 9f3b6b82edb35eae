/-! Learned routes die: what of a table stays. -/
def dR (r : Nat) (t t' : moS) : Prop := rwT r t t' ∧ t'.J = t.J ∧ t'.I 105 = t.I 105 ∧ (∀ g, g ∈ fRI → g ≠ 111 → g ≠ 119 → g ≠ 122 → t'.I g = t.I g) ∧ ∀ k, t.I 110 k ≠ 2 → t'.I 111 k = t.I 111 k ∧ t'.I 119 k = t.I 119 k ∧ t'.I 122 k = t.I 122 k
def vD (a b : Option NV) : Prop := a = b ∨ ∃ w w' : NV, a = some w ∧ b = some w' ∧ w.1 = 2 ∧ w'.1 = 2
section Dr
variable {G H : Nat → Nat → Nat} {sa : Nat → Nat} {x r j k kc ks : Nat} {s : cS} {t t1 t' : moS} {P : Pf}
theorem dR.rf : dR r t t := ⟨rwT.rf, rfl, rfl, fun _ _ _ _ _ => rfl, fun _ _ => ⟨rfl, rfl, rfl⟩⟩
theorem dR.tr (h : dR r t t1) (g : dR r t1 t') : dR r t t' := by
  obtain ⟨a1, a2, a3, a4, a5⟩ := h
  obtain ⟨b1, b2, b3, b4, b5⟩ := g
  have e110 : t1.I 110 = t.I 110 := a4 110 (by decide) (by decide) (by decide) (by decide)
  refine ⟨a1.tr b1, b2.trans a2, b3.trans a3, fun g h1 h2 h3 h4 => (b4 g h1 h2 h3 h4).trans (a4 g h1 h2 h3 h4), fun k hk => ?_⟩
  obtain ⟨y1, y2, y3⟩ := b5 k (by rw [e110]; exact hk)
  obtain ⟨z1, z2, z3⟩ := a5 k hk
  exact ⟨y1.trans z1, y2.trans z2, y3.trans z3⟩
theorem dR.die (hk : 2700 * r ≤ k ∧ k < 2700 * r + 2700) (h2 : t.I 110 k = 2) : dR r t (dieM t r k) := by
  have eI : ∀ g i, g ≠ 45 → g ≠ 44 → (dieM t r k).I g i = if g = 119 ∧ i = k then 1 else if g = 122 ∧ i = k then t.S 1 + t.I 42 r else if g = 111 ∧ i = k then 16 else t.I g i := fun g i h1 h2 => by
    unfold dieM mkM
    split
    · simp only [evMI]
      rw [if_neg (fun z => h2 z.1), if_neg (fun z => h1 z.1)]
    · simp only [evMI]
      rw [if_neg (fun z => h1 z.1)]
  refine ⟨rwT.die hk, ?_, funext fun i => ?_, fun g h1 h3 h4 h5 => funext fun i => ?_, fun i hi => ?_⟩
  · unfold dieM mkM
    split <;> rfl
  · rw [eI _ _ (by decide) (by decide), if_neg (by omega), if_neg (by omega), if_neg (by omega)]
  · have n1 : g ≠ 45 ∧ g ≠ 44 := by
      clear h3 h4 h5
      revert h1; revert g; decide
    rw [eI _ _ n1.1 n1.2, if_neg (fun z => h4 z.1), if_neg (fun z => h5 z.1), if_neg (fun z => h3 z.1)]
  · have ne : i ≠ k := fun z => hi (by rw [z]; exact h2)
    rw [eI _ _ (by decide) (by decide), eI _ _ (by decide) (by decide), eI _ _ (by decide) (by decide)]
    refine ⟨?_, ?_, ?_⟩ <;> rw [if_neg (fun z => ne z.2), if_neg (fun z => ne z.2), if_neg (fun z => ne z.2)]
theorem dR.v (c : dR r t t') (hM : MV t) (hM' : MV t') (hr : r < cR t) (hr' : r < cR t') : vD (Vt t r P) (Vt t' r P) := by
  obtain ⟨-, a2, a3, a4, a5⟩ := c
  have hn : cN t' r = cN t r := by unfold cN; rw [a3]
  have ep : ∀ k, pfR t' k = pfR t k := fun k => by
    unfold pfR
    rw [a4 106 (by decide) (by decide) (by decide) (by decide), a4 109 (by decide) (by decide) (by decide) (by decide), a2]
  have e110 : t'.I 110 = t.I 110 := a4 110 (by decide) (by decide) (by decide) (by decide)
  by_cases c : ∃ j, j < cN t r ∧ pfR t (2700 * r + j) = P
  · obtain ⟨j, h1, h2⟩ := c
    rw [Vt_some hM hr h1 h2, Vt_some hM' hr' (j := j) (by rw [hn]; exact h1) (by rw [ep]; exact h2)]
    by_cases k2 : t.I 110 (2700 * r + j) = 2
    · exact Or.inr ⟨_, _, rfl, rfl, k2, by show t'.I 110 _ = 2; rw [e110]; exact k2⟩
    · obtain ⟨y1, y2, y3⟩ := a5 _ k2
      left
      unfold rvN
      rw [a2, e110, y1, y2, y3, a4 112 (by decide) (by decide) (by decide) (by decide), a4 113 (by decide) (by decide) (by decide) (by decide), a4 120 (by decide) (by decide) (by decide) (by decide), a4 121 (by decide) (by decide) (by decide) (by decide)]
  · left
    rw [Vt_none (t := t) (fun j h1 h2 => c ⟨j, h1, h2⟩), Vt_none (t := t')]
    intro j h1 h2
    rw [hn] at h1
    rw [ep] at h2
    exact c ⟨j, h1, h2⟩
theorem dF_01 {d : DU} (h : dF t r P = some d) : d.1 ≠ 2 := by
  unfold dF at h
  split at h
  · rename_i c
    have hs := c.choose_spec
    cases h
    rcases hs with ⟨p, -, -, -, e, -⟩ | ⟨-, k, -, -, -, e, -⟩
    · rw [e]; decide
    · rw [e]; decide
  · cases h
theorem stp_vD {d : Option DU} {a b : Option NV} (hd : ∀ y, d = some y → y.1 ≠ 2) (h : stp 0 d a = (a, false)) (v : vD a b) : stp 0 d b = (b, false) := by
  rcases v with e | ⟨w, w', e1, e2, e3, e4⟩
  · rw [← e]; exact h
  · subst e1 e2
    cases d with
    | none =>
      show (if w'.1 = 2 then (some w', false) else _) = _
      rw [if_pos e4]
    | some y =>
      exfalso
      have h : (if ownS y w then (some (ownV y w.2.2.2.2.1), false) else (some (ownV y 1), true)) = (some w, false) := h
      by_cases c : ownS y w
      · rw [if_pos c] at h
        have := congrArg Prod.fst h
        have := congrArg (fun z : NV => z.1) (Option.some.inj this)
        exact hd y rfl (this.trans e3)
      · rw [if_neg c] at h
        exact absurd (show true = false from congrArg Prod.snd h) (by decide)
/-- one learned route, both sides -/
theorem c_dieL (hR : RR G H sa x s t) (hM : MV t) (hr : r < cR t) (hj : j < cN t r) (h2 : t.I 110 (2700 * r + j) = 2) : ∃ t', M_die t (nI r) (nI (2700 * r + j)) = some t' ∧ MV t' ∧ dR r t t' ∧ ∀ Q : cS → Nat → Nat → Prop, (∀ s', RR G H sa x s' t' → s'.K = s.K → s'.P = s.P → fr [23, 26, 104] [] [] s s' → Q s' kc ks) → C_Rr_die sa (G 1 r) (some (G 4 (2700 * r + j))) s kc ks Q := by
  have h6 := hM.nR
  have hn := hM.nRo hr
  have hq := hR.q.1
  have hT := hq.ty
  obtain ⟨b0, b1, b2⟩ := hq.tb hr
  obtain ⟨c1, c2, c3, w, cap, d1, d2, d3, d4, d5, d6, d7, d8⟩ := id b0
  have k1 := (hq.rt hr).1.1
  have ka : (s.K (G 4 (2700 * r + j))).1 = 23 := (d6 j (by omega)).2
  have p196 := hT.r k1 196 104 11
  have p195 := hT.r k1 195 123 3
  have p180 : s.P 180 (G 1 r) = some x := by rw [(hT.p k1 180 30).1, (hq.rt hr).1.2.2]
  have hra : G 1 r ≠ G 4 (2700 * r + j) := ne_ro k1 ka
  have i164 : s.I 164 (G 4 (2700 * r + j)) = t.I 111 (2700 * r + j) := (b1 j hj).2.1.2.1
  have wd := fun {Q : cS → Nat → Nat → Prop} => w_die (sa := sa) (kc := kc) (ks := ks) (Qk := Q) (okr k1 9) (okr ka 8) (okr hq.1.1 11) p196.1 p196.2 p180 p195.1 p195.2 hra
  have hb : 2700 * r ≤ 2700 * r + j ∧ 2700 * r + j < 2700 * r + 2700 := by omega
  obtain ⟨mm, em, hm1, hm16⟩ := ((hM.r hr).w hj).2.2.1
  by_cases c16 : t.I 111 (2700 * r + j) = 16
  · refine ⟨t, ?_, hM, dR.rf, fun Q k => wd (fun _ => k s hR rfl rfl fr.rf) (fun z => ?_)⟩
    · unfold M_die
      rw [rdI_n (n := 16200) (hM.n.n 111 16200) (by omega) (by decide)]
      simp only [Option.bind_some]
      rw [if_pos c16]
    · rw [i164, c16] at z
      exact absurd z (by decide)
  · have lt : s.I 164 (G 4 (2700 * r + j)) < 16 := by
      rw [i164, em]
      refine nI_lt (b := 16) ?_ (by decide)
      have : mm ≠ 16 := fun z => c16 (by rw [em, z]; rfl)
      omega
    have e1 := dieM_e (t := t) (r := r) (k := 2700 * r + j) (fun k hk => hM.n.n k 16200 (by revert hk; revert k; decide)) (hM.n.n 45 66) (hM.n.n 44 6) (hM.n.n 42 6) (by omega) (by omega) c16
    obtain ⟨R1, M1⟩ := rr_dead hR hM hr hj rfl rfl h2
    have n1 : cN (moSI (moSI t 111 (2700 * r + j) 16) 122 (2700 * r + j) (t.S 1 + t.I 42 r)) r = cN t r := by unfold cN; rw [moSI_n (by decide), moSI_n (by decide)]
    obtain ⟨R2, M2⟩ := rr_mk R1 M1 (r := r) (j := j) hr (by rw [n1]; exact hj) rfl rfl
    refine ⟨_, e1, M2, dR.die hb h2, fun Q k => wd (fun z => absurd lt z) fun _ => ?_⟩
    obtain ⟨nK, nP, nE, nQ, nJ⟩ := dlS_k (s := cSI s 164 (G 4 (2700 * r + j)) 16) (rr := G 1 r) (a := G 4 (2700 * r + j)) (v := s.I 225 x + s.E (H 195 (G 1 r)) 2)
    have f1 : fr [23, 26, 104] [] [] s (dlS (cSI s 164 (G 4 (2700 * r + j)) 16) (G 1 r) (G 4 (2700 * r + j)) (s.I 225 x + s.E (H 195 (G 1 r)) 2)) := by
      have g1 : fr [23, 26, 104] [] [] s (cSI s 164 (G 4 (2700 * r + j)) 16) := fr.si (by rw [ka]; decide)
      refine g1.tr ?_
      unfold dlS
      split
      · exact (fr.si (by show (s.K _).1 ∈ _; rw [ka]; decide)).tr (fr.si (by show (s.K _).1 ∈ _; rw [k1]; decide))
      · exact fr.si (by show (s.K _).1 ∈ _; rw [ka]; decide)
    generalize hs1 : dlS (cSI s 164 (G 4 (2700 * r + j)) 16) (G 1 r) (G 4 (2700 * r + j)) (s.I 225 x + s.E (H 195 (G 1 r)) 2) = s1 at f1 nK nP R2
    have eK : s1.K = s.K := nK
    have eP : s1.P = s.P := nP
    have f2 : fr [23, 26, 104] [] [] s1 (mkS s1 (G 1 r) (H 196 (G 1 r)) x (G 4 (2700 * r + j))) ∧ (mkS s1 (G 1 r) (H 196 (G 1 r)) x (G 4 (2700 * r + j))).K = s1.K ∧ (mkS s1 (G 1 r) (H 196 (G 1 r)) x (G 4 (2700 * r + j))).P = s1.P := by
      have y1 : (s1.K (G 4 (2700 * r + j))).1 = 23 := by rw [eK]; exact ka
      have y2 : (s1.K (H 196 (G 1 r))).1 = 104 := by rw [eK, p196.2]
      have y3 : (s1.K (G 1 r)).1 = 26 := by rw [eK]; exact k1
      unfold mkS
      split
      · exact ⟨((fr.si (by rw [y1]; decide)).tr (fr.se (by show (s1.K _).1 ∈ _; rw [y2]; decide))).tr (fr.si (by show (s1.K _).1 ∈ _; rw [y3]; decide)), rfl, rfl⟩
      · exact ⟨(fr.si (by rw [y1]; decide)).tr (fr.se (by show (s1.K _).1 ∈ _; rw [y2]; decide)), rfl, rfl⟩
    have kk := k (mkS s1 (G 1 r) (H 196 (G 1 r)) x (G 4 (2700 * r + j))) R2 (f2.2.1.trans eK) (f2.2.2.trans eP) (f1.tr f2.1)
    unfold dieS
    rw [hs1]
    exact kk
end Dr
