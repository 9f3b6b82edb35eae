/-! A link changes its state: both sides; a link is raised. -/
section Lu2
variable {G H : Nat → Nat → Nat} {sa : Nat → Nat} {x l kc ks : Nat} {s : cS} {t : moS} {Os : Nat → List Pf} {v : Int32}
theorem rr_22 (hR : RR G H sa x s t) (hM : MV t) (hl : l < cL t) (hv : bit v) : RR G H sa x (cSI s 64 (G 0 l) v) (moSI t 22 l v) ∧ MV (moSI t 22 l v) ∧ fr [7] [] [] s (cSI s 64 (G 0 l) v) := by
  have hq := hR.q.1
  have hk := (hq.link hl).1.1
  have m : mfr [0, 22, 23, 24, 25, 26] t (moSI t 22 l v) := mfr.si (by decide)
  have f : fr [7] [] [] s (cSI s 64 (G 0 l) v) := fr.si (by rw [hk]; decide)
  refine ⟨rr_lk hR hM (hq.1.v rfl rfl f rfl rfl rfl) f.wk m fun i hi => ?_, hM.lk m (fun i hi => ?_) (fun i hi h10 => hM.2.2.2.2.2.1 i hi h10), f⟩
  · exact rlk_si (hq.link hi) hq.ty hq.tk hi hl hq.2.1 (Or.inl ⟨rfl, rfl⟩) hk
  · obtain ⟨q1, q2, q3, q4, q5⟩ := hM.2.1 i hi
    refine ⟨q1, q2, q3, ?_, q5⟩
    rw [moSI_s]
    show bit (if i = l then v else t.I 22 i)
    by_cases c : i = l
    · rw [if_pos c]; exact hv
    · rw [if_neg c]; exact q4
theorem sEl_22 {r : Nat} : sEl l r t (moSI t 22 l v) := by
  have m : mfr [22] t (moSI t 22 l v) := mfr.si (by decide)
  refine ⟨⟨?_, ?_, ?_⟩, fun k hk => ?_, fun p hp => ⟨?_, ?_, fun hne => ?_⟩, fun y hy => ?_, fun g hg j hj => ?_, fun g hg j hj => ?_⟩
  · unfold cSt; rw [m.I 46 (by decide)]
  · unfold cI; rw [m.I 70 (by decide)]
  · unfold cN; rw [m.I 105 (by decide)]
  · rw [m.I 47 (by decide), m.J 48 (by decide), m.J 49 (by decide), m.I 50 (by decide), m.I 51 (by decide), m.I 52 (by decide)]
    exact ⟨rfl, rfl, rfl, rfl, rfl, rfl⟩
  · rw [m.I 71 (by decide)]
  · rw [m.I 72 (by decide)]
  · rw [moSI_s, upd_n hne]
  · unfold eqA
    rw [m.I 75 (by decide), m.J 76 (by decide), m.J 77 (by decide), m.I 78 (by decide)]
    exact ⟨rfl, rfl, rfl, rfl⟩
  · rw [m.I g (by revert hg; revert g; decide)]
  · rw [m.J g (by revert hg; revert g; decide)]
abbrev Wlk : List Nat := 0 :: 22 :: Wrb
/-- a link that is down is raised -/
theorem lk_up (hR : RR G H sa x s t) (hM : MV t) (hE : EX Os t) (hO : ∀ r, (Os r).length ≤ 760) (hl : l < cL t) (h22 : t.I 22 l = 0) (hs : ∀ j, j < 10 → ∃ d, t.I 23 j = nI d ∧ d + 13 < 2 ^ 31) (hkc : PoC s G H t ≤ kc) (hks : PoS s G H t ≤ ks) (Q : cS → Nat → Nat → Prop) (k : ∀ t', M_link t (nI l) 1 = some (1, t') → MV t' → EX Os t' → mfr Wlk t t' → (∀ j, ∃ d, d ≤ 12 ∧ t'.I 23 j = t.I 23 j + nI d) → ∀ G' H' s' kc' ks', RR G' H' sa x s' t' → kp x s s' → kc + PoC s' G' H' t' ≤ kc' + PoC s G H t → ks + PoS s' G' H' t' ≤ ks' + PoS s G H t → Q s' kc' ks') : okO (cSI s 64 (G 0 l) 1) 11 x ∧ C_Rf_raise sa x (some (G 0 l)) (cSI s 64 (G 0 l) 1) kc ks Q := by
  have h10 : cL t ≤ 10 := hM.1.2.2.2.2.2.1.n.2.2
  have m0 : mfr [0] t (moSS t 0 0) := mfr.ss (by decide)
  have hM0 : MV (moSS t 0 0) := hM.fr m0 rfl (hM.1.fr m0 rfl)
  have hR0 : RR G H sa x s (moSS t 0 0) := rr_fr hR hM hR.q.1.1 (fr.rf (Rv := []) (Gp := []) (Rq := [])) m0 rfl rfl rfl rfl rfl rfl rfl
  have hE0 : EX Os (moSS t 0 0) := hE.of hM hM0 rfl (fun _ _ => sEq.m m0 rfl) (fun _ _ z => z)
  obtain ⟨R1, M1, f1⟩ := rr_22 (v := 1) hR0 hM0 (l := l) hl (Or.inr rfl)
  have m1 : mfr [0, 22] t (moSI (moSS t 0 0) 22 l 1) := (m0.wk (by decide)).tr (mfr.si (by decide))
  have e17 : t.S 17 = nI (cL t) := hM.1.2.2.2.2.2.1.n.1
  have em : M_link t (nI l) 1 = M_link_b82 (moSI (moSS t 0 0) 22 l 1) (nI l) 1 (nI 0) := by
    show (if nI l < 0 then _ else if nI l < t.S 17 then _ else _) = _
    rw [if_neg (nI_pos (by omega)), e17, if_pos (nI_lt hl (by omega)), rdI_n (t := moSS t 0 0) (n := 10) (hM0.n.n 22 10) (by omega) (by decide)]
    simp only [Option.bind_some]
    rw [show (moSS t 0 0).I 22 l = 0 from h22, if_neg (show ¬ (0 : Int32) = 1 by decide), wrZ_n (t := moSS t 0 0) (n := 10) (hM0.n.n 22 10) (by omega) (by decide)]
    simp only [Option.bind_some]
    rw [show vp_nar .boolean 1 = 1 from rfl]
    unfold M_link_b38
    refine lp_x ?_
    show M_link_s38 (moSI (moSS t 0 0) 22 l 1) (nI l) 1 0 = _
    unfold M_link_s38 M_link_b79
    rw [if_neg (show ¬ (1 : Int32) = 0 by decide)]
    split <;> rfl
  have he : ∀ r, sEl l r (moSS t 0 0) (moSI (moSS t 0 0) 22 l 1) := fun r => sEl_22
  have e39 : (moSI (moSS t 0 0) 22 l 1).I 39 = (moSS t 0 0).I 39 := moSI_n (by decide)
  have e23 : (moSI (moSS t 0 0) 22 l 1).I 23 = t.I 23 := moSI_n (by decide)
  have eR : cR (moSI (moSS t 0 0) 22 l 1) = cR (moSS t 0 0) := rfl
  have hl1 : l < cL (moSI (moSS t 0 0) 22 l 1) := hl
  generalize moSI (moSS t 0 0) 22 l 1 = t1 at R1 M1 m1 em he e39 e23 eR hl1
  have hx := hR.q.1.1.1
  have zk := pot_kp (s := s) (s1 := cSI s 64 (G 0 l) 1) (G := G) (H := H) (t := t1) rfl rfl
  have zt := pot_t (G := G) (H := H) (s := s) m1 rfl
  refine ⟨okr (f1.r hx) 11, ?_⟩
  unfold C_Rf_raise
  refine ra_set (t0 := moSS t 0 0) hM0 hE0 hO (cR t1) 0 G H _ t1 kc ks (by omega) eR R1 M1 (fun r hr => absurd hr (Nat.not_lt_zero r)) (fun r _ _ => he r) e39 hl1 (fun j hj => by rw [e23]; exact hs j hj) (by rw [zk.1, zt.1]; exact hkc) (by rw [zk.2, zt.2]; exact hks) Q fun t' y1 y2 y3 y4 y5 => ?_
  intro G' H' s' kc' ks' z1 z2 z3 z4 z5 z6
  rw [zk.1, zt.1] at z5
  rw [zk.2, zt.2] at z6
  refine k t' (em.trans y1) y2 y3 ((m1.wk (by decide)).tr (y4.wk (by decide))) (fun j => ?_) G' H' s' kc' ks' z1 ((kp.e rfl rfl rfl).tr (z4.kp (f1.r hx) rfl)) z5 z6
  obtain ⟨d, d1, d2⟩ := y5 j
  exact ⟨d, d1, by rw [d2, e23]⟩
end Lu2
