/-! lose, and what changes a link. -/
section Lo
variable {G H : Nat → Nat → Nat} {sa : Nat → Nat} {x kc ks : Nat} {s s' : cS} {t t' : moS} {W : List Nat}
/-- only links are others -/
theorem rq_lk (h : RQ G H sa x s t) (hM : MV t) (hg : RGl G H sa x s') (f : fr [7, 2, 125] [(0, 2)] [] s s') (m : mfr [0, 22, 23, 24, 25, 26] t t') (hl : ∀ i, i < cL t → RLk G H sa x s' t' i) : RQ G H sa x s' t' := by
  obtain ⟨a, b, c, e, g, i, j⟩ := h
  have hT := a.2.1
  have hx := a.1
  have ht := hg.2.2.1
  have e1 : cL t' = cL t := by unfold cL; rw [m.S 17 (by decide)]
  have e2 : cS' t' = cS' t := by unfold cS'; rw [m.S 27 (by decide)]
  have e3 : cR t' = cR t := by unfold cR; rw [m.S 37 (by decide)]
  have e4 : ∀ r, cI t' r = cI t r := fun r => by unfold cI; rw [m.I 70 (by decide)]
  obtain ⟨v1, v2, v3⟩ := f.v hx (by decide)
  refine ⟨hg, b.fr m rfl, ?_, ?_, ?_, ?_, j.fr hT hx f m ⟨v1 233, v1 235⟩ rfl rfl rfl rfl⟩
  · rw [v1, v1, v1, v1, v1, m.S 4 (by decide), m.S 1 (by decide), m.S 17 (by decide), m.S 37 (by decide), m.S 27 (by decide)]
    exact c
  · rw [e1]; exact hl
  · rw [e2]; exact fun k hk => (g k hk).fr hT hx f ht m rfl rfl rfl rfl
  · rw [e3]
    intro r hr
    obtain ⟨i1, i2, i3, i4, i5, i6, i7⟩ := i r hr
    have hv := hM.r hr
    refine ⟨i1.fr hT hx f ht m rfl rfl rfl rfl, i2.fr hT i1.1.1 f ((f.v i1.1.1 (by decide)).1 199) m rfl rfl rfl rfl, i3.fr hT i1.1.1 f m rfl rfl rfl rfl, i4.fr hT i1.1.1 f m rfl rfl rfl, i5.fr hT i1.1.1 f m rfl rfl rfl, i6.fr hT i1.1.1 ⟨hv.2.2.2.2.2.2.1.1.n.2.2, hv.2.2.2.2.2.2.2.1.1.n.2.2⟩ f m rfl rfl rfl, ?_⟩
    rw [e4]
    intro p hp
    exact (i7 p hp).fr hT i1.1.1 (hv.i hp).2.2.2.2.2.2.2.2.2.2.1.n.2.2 f m rfl rfl rfl rfl
theorem rr_lk (h : RR G H sa x s t) (hM : MV t) (hg : RGl G H sa x s') (f : fr [7, 2, 125] [(0, 2)] [] s s') (m : mfr [0, 22, 23, 24, 25, 26] t t') (hl : ∀ i, i < cL t → RLk G H sa x s' t' i) : RR G H sa x s' t' := by
  obtain ⟨hq, ht⟩ := h.q
  exact RQ.r (rq_lk hq hM hg f m hl) (ht.fr hq.ty hq.1.1 f m rfl rfl rfl)
theorem MV.lk (h : MV t) (m : mfr [0, 22, 23, 24, 25, 26] t t') (hl : ∀ i, i < cL t → mVl t' i) (hz : ∀ i, cL t ≤ i → i < 10 → t'.I 23 i = 0 ∧ t'.I 24 i = 0 ∧ t'.I 25 i = 0) : MV t' := by
  obtain ⟨h0, h1, h2, h3, h4, h5⟩ := h
  have e1 : cL t' = cL t := by unfold cL; rw [m.S 17 (by decide)]
  have e2 : cS' t' = cS' t := by unfold cS'; rw [m.S 27 (by decide)]
  have e3 : cR t' = cR t := by unfold cR; rw [m.S 37 (by decide)]
  refine ⟨h0.fr m rfl, ?_, ?_, ?_, h4.fr m rfl, ?_⟩
  · rw [e1]; exact hl
  · rw [e2]; exact fun i hi => (h2 i hi).fr m rfl
  · rw [e3]; exact fun r hr => (h3 r hr).fr m rfl
  · obtain ⟨z1, z2⟩ := h5
    refine ⟨by rw [e1]; exact hz, ?_⟩
    unfold mZi cS' cR cI at z2 ⊢
    simp only [m.I 29 (by decide), m.I 45 (by decide), m.I 46 (by decide), m.I 53 (by decide), m.I 59 (by decide), m.I 63 (by decide), m.I 70 (by decide), m.I 74 (by decide), m.I 75 (by decide), m.I 79 (by decide), m.I 82 (by decide), m.I 89 (by decide), m.I 90 (by decide), m.I 95 (by decide), m.I 99 (by decide), m.I 100 (by decide), m.I 102 (by decide), m.I 105 (by decide), m.S 27 (by decide), m.S 37 (by decide), m.S 101 (by decide), m.2 102 (Or.inl (by decide))]
    exact z2
/-- a number of a link, on both sides -/
theorem rlk_si {i j k g : Nat} {v : Int32} (h : RLk G H sa x s t i) (hT : TY cNo H s) (ht : TK sa s) (hi : i < cL t) (hj : j < cL t) (hI : RIn G t) (hg : (g = 64 ∧ k = 22) ∨ (g = 65 ∧ k = 23) ∨ (g = 66 ∧ k = 24)) (hk : (s.K (G 0 j)).1 = 7) : RLk G H sa x (cSI s g (G 0 j) v) (moSI t k j v) i := by
  have f : fr [7] [] [] s (cSI s g (G 0 j) v) := fr.si (by rw [hk]; decide)
  obtain ⟨⟨a1, a2⟩, ⟨nm, a3, a4, a5⟩, ⟨b1, b2, b3, b4, b5, b6⟩, cap, c1, c2⟩ := h
  have hc : ∀ n, (cSI s g (G 0 j) v).I n (G 0 i) = if n = g then (if i = j then v else s.I n (G 0 i)) else s.I n (G 0 i) := by
    intro n
    by_cases e : n = g
    · subst e
      rw [if_pos rfl]
      by_cases e2 : i = j
      · subst e2; rw [if_pos rfl, cSI_s]
      · rw [if_neg e2, cSI_a (fun z => e2 (hI.1 i j hi hj z))]
    · rw [if_neg e, cSI_g e]
  have hm : ∀ n, (moSI t k j v).I n i = if n = k then (if i = j then v else t.I n i) else t.I n i := by
    intro n
    by_cases e : n = k
    · subst e
      rw [if_pos rfl, moSI_s]
      rfl
    · rw [if_neg e, moSI_n e]
  have h26 : (moSI t k j v).I 26 = t.I 26 := moSI_n (by omega)
  have h25 : (moSI t k j v).I 25 = t.I 25 := moSI_n (by omega)
  refine ⟨⟨a1, a2⟩, ⟨nm, a3, a4.fr f (by decide) (by decide) (by decide) ht, a5⟩, ?_, cap, c1, ?_⟩
  · rcases hg with ⟨rfl, rfl⟩ | ⟨rfl, rfl⟩ | ⟨rfl, rfl⟩ <;> (simp only [hc, hm]; simp [b1, b2, b3, b4, b5, b6])
  · rw [h25, h26]; exact c2.fr f (hT.p a1 67 2).2 (by decide) (by decide) (by decide)
theorem P_lose (hR : RR G H sa x s t) (hM : MV t) (y z : Int32) : SO G H sa x t [0, 24] (M_lose t y z) (C_Rf_lose sa x y z s kc ks) (fun s' kc' ks' => fr [7] [] [] s s' ∧ kc' = kc ∧ ks' = ks) := by
  have hq := hR.q.1
  have h10 := hM.nL
  have m0 : mfr [0] t (moSS t 0 0) := mfr.ss (by decide)
  have e17 : t.S 17 = nI (cL t) := hM.1.2.2.2.2.2.1.n.1
  have no : M_lose t y z = some (0, moSS t 0 0) → (∀ Q : Int32 → cS → Nat → Nat → Prop, Q 0 s kc ks → C_Rf_lose sa x y z s kc ks Q) → SO G H sa x t [0, 24] (M_lose t y z) (C_Rf_lose sa x y z s kc ks) (fun s' kc' ks' => fr [7] [] [] s s' ∧ kc' = kc ∧ ks' = ks) :=
    fun e k => ⟨0, _, e, hM.m0 m0, mfr.ss (by decide), fun Q h => k Q (h s kc ks (hR.mf hM m0 rfl rfl) ⟨fr.rf, rfl, rfl⟩)⟩
  by_cases c0 : y < 0
  · exact no (if_pos c0) fun Q k => ⟨hq.ox, w_ln hq hM (fun r hr e => nI_pos (show r < 2 ^ 31 by omega) (by rw [← e]; exact c0)) (ifT rfl k)⟩
  by_cases c1 : y < t.S 17
  · obtain ⟨j, hj, rfl⟩ := nI_of c0
    have hj : j < cL t := Nat.lt_of_not_le fun h => by rw [e17] at c1; exact nI_nlt h hj c1
    by_cases c2 : z < 0
    · exact no ((if_neg c0).trans ((if_pos c1).trans (if_pos c2))) fun Q k => ⟨hq.ox, w_la hq hM hj (ifF (by simp) (ifT c2 k))⟩
    have hk := (hq.link hj).1.1
    have m : mfr [0, 24] t (moSI (moSS t 0 0) 24 j z) := (mfr.ss (by decide)).tr (mfr.si (by decide))
    have m' : mfr [0, 22, 23, 24, 25, 26] (moSS t 0 0) (moSI (moSS t 0 0) 24 j z) := mfr.si (by decide)
    have hM0 := hM.m0 m0
    have hR0 : RR G H sa x s (moSS t 0 0) := hR.mf hM m0 rfl rfl
    refine ⟨1, moSI (moSS t 0 0) 24 j z, (if_neg c0).trans ((if_pos c1).trans ((if_neg c2).trans ?_)), hM0.lk m' (fun i hi => ?_) (fun i hi h10 => ?_), m, fun Q k => ⟨hq.ox, w_la hq hM hj (ifF (by simp) (ifF c2 ⟨_, rfl, _, gd_to (okr hk 3), ?_⟩))⟩⟩
    · rw [wrI_n (n := 10) (hM0.n.n 24 10) (by omega) (by decide)]; rfl
    · obtain ⟨q1, q2, q3, q4, q5, q6, q7⟩ := hM0.2.1 i hi
      refine ⟨q1, q2, q3, q4, q5, ?_, q7⟩
      rw [moSI_s]
      show ¬ (if i = j then z else _) < 0
      split
      · exact c2
      · exact q6
    · obtain ⟨q1, q2, q3⟩ := hM0.2.2.2.2.2.1 i hi h10
      have hi : cL t ≤ i := hi
      refine ⟨q1, ?_, q3⟩
      rw [moSI_s]
      show (if i = j then z else _) = 0
      rw [if_neg (by omega)]
      exact q2
    · have f : fr [7] [] [] s (cSI s 66 (G 0 j) z) := fr.si (by rw [hk]; decide)
      exact k _ _ _ (rr_lk hR0 hM0 (hq.1.v rfl rfl f rfl rfl rfl) f.wk m' fun i hi => rlk_si (hR0.q.1.link hi) hq.ty hq.tk hi hj hR0.q.1.2.1 (by decide) hk) ⟨f, rfl, rfl⟩
  · refine no ((if_neg c0).trans (if_neg c1)) fun Q k => ⟨hq.ox, w_ln hq hM (fun r hr e => c1 ?_) (ifT rfl k)⟩
    rw [e, e17]; exact nI_lt hr (by omega)
end Lo
