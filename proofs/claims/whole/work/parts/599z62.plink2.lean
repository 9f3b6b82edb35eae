/-! link: the operation. -/
section Po
variable {G H : Nat → Nat → Nat} {sa : Nat → Nat} {x kc ks : Nat} {s : cS} {t : moS} {Os : Nat → List Pf} {y b : Int32}
theorem P_lnk (hR : RR G H sa x s t) (hM : MV t) (hE : EX Os t) (hO : ∀ r, (Os r).length ≤ 760) (hb : b = 0 ∨ b = 1) (hs : ∀ j, j < 10 → ∃ d, t.I 23 j = nI d ∧ d + 13 < 2 ^ 31) (hkc : PoC s G H t ≤ kc) (hks : PoS s G H t ≤ ks) (Q : Int32 → cS → Nat → Nat → Prop) (k : ∀ r t', M_link t y b = some (r, t') → MV t' → EX Os t' → mfr Wln t t' → (∀ j, ∃ d, d ≤ 12 ∧ t'.I 23 j = t.I 23 j + nI d) → ∀ G' H' s' kc' ks', RR G' H' sa x s' t' → kp x s s' → kc + PoC s' G' H' t' ≤ kc' + PoC s G H t → ks + PoS s' G' H' t' ≤ ks' + PoS s G H t → Q r s' kc' ks') : C_Rf_link sa x y b s kc ks Q := by
  have hq := hR.q.1
  have h10 := hM.nL
  have m0 : mfr [0] t (moSS t 0 0) := mfr.ss (by decide)
  have e17 : t.S 17 = nI (cL t) := hM.1.2.2.2.2.2.1.n.1
  have hM0 : MV (moSS t 0 0) := hM.fr m0 rfl (hM.1.fr m0 rfl)
  have hR0 : RR G H sa x s (moSS t 0 0) := rr_fr hR hM hR.q.1.1 (fr.rf (Rv := []) (Gp := []) (Rq := [])) m0 rfl rfl rfl rfl rfl rfl rfl
  have hE0 : EX Os (moSS t 0 0) := hE.of hM hM0 rfl (fun _ _ => sEq.m m0 rfl) (fun _ _ z => z)
  have z0 := pot_t (G := G) (H := H) (s := s) m0 rfl
  have no : M_link t y b = some (0, moSS t 0 0) → Q 0 s kc ks := fun e => k 0 _ e hM0 hE0 (m0.wk (by decide)) (fun j => ⟨0, by omega, by rw [show nI 0 = 0 from rfl, Int32.add_zero]; rfl⟩) G H s kc ks hR0 kp.rf (by rw [z0.1]; exact Nat.le_refl _) (by rw [z0.2]; exact Nat.le_refl _)
  have e0 : M_link t y b = if y < 0 then some (0, moSS t 0 0) else if y < t.S 17 then Option.bind (rdI (moSS t 0 0) 22 y) (fun x2 => if x2 = b then some (0, moSS t 0 0) else Option.bind (wrZ (moSS t 0 0) 22 y b) (fun s3 => M_link_b38 s3 y b 0)) else some (0, moSS t 0 0) := rfl
  unfold C_Rf_link
  refine ⟨hq.ox, ?_⟩
  by_cases c0 : y < 0
  · exact w_ln hq hM (fun r hr e => nI_pos (show r < 2 ^ 31 by omega) (by rw [← e]; exact c0)) (ifT rfl (no (by rw [e0, if_pos c0])))
  by_cases c1 : y < t.S 17
  · obtain ⟨j, hj, rfl⟩ := nI_of c0
    have hj : j < cL t := Nat.lt_of_not_le fun h => by rw [e17] at c1; exact nI_nlt h hj c1
    have hk := (hq.link hj).1.1
    have i64 : s.I 64 (G 0 j) = t.I 22 j := (hq.link hj).2.2.1.2.2.2.1
    refine w_la hq hM hj (ifF (by simp) ⟨_, rfl, _, gd_to (okr hk 3), ?_⟩)
    rw [show s.I (20 * 3 + 4) (G 0 j) = t.I 22 j from i64]
    by_cases c2 : t.I 22 j = b
    · refine ifT c2 (no ?_)
      rw [e0, if_neg c0, if_pos c1, rdI_n (t := moSS t 0 0) (n := 10) (hM0.n.n 22 10) (by omega) (by decide)]
      simp only [Option.bind_some]
      rw [if_pos (show (moSS t 0 0).I 22 j = b from c2)]
    · refine ifF c2 ⟨_, gd_to ⟨okr hk 3, hb⟩, ?_⟩
      have bj : bit (t.I 22 j) := (hM.2.1 j hj).2.2.2.1
      rcases hb with rfl | rfl
      · exact ifT rfl (lk_dn hR hM hE hO hj c2 hkc hks _ fun t' y1 y2 y3 y4 y5 G' H' s' kc' ks' w1 w2 w3 w4 => k 1 t' y1 y2 y3 y4 (fun i => ⟨0, by omega, by rw [y5, show nI 0 = 0 from rfl, Int32.add_zero]⟩) G' H' s' kc' ks' w1 w2 w3 w4)
      · have h22 : t.I 22 j = 0 := bj.resolve_right c2
        exact ifF (by decide) (lk_up hR hM hE hO hj h22 hs hkc hks _ fun t' y1 y2 y3 y4 y5 G' H' s' kc' ks' w1 w2 w3 w4 => k 1 t' y1 y2 y3 (y4.wk (by decide)) y5 G' H' s' kc' ks' w1 w2 w3 w4)
  · refine w_ln hq hM (fun r hr e => c1 ?_) (ifT rfl (no (by rw [e0, if_neg c0, if_neg c1])))
    rw [e, e17]; exact nI_lt hr (by omega)
end Po
