/-! What hearing may cost, all in one number. -/
def RcC (s : cS) (G H : Nat → Nat → Nat) (t : moS) : Nat := PoC s G H t + tdC G
def RcS (s : cS) (G H : Nat → Nat → Nat) (x : Nat) (t : moS) : Nat := PoS s G H t + tdS s G H x
abbrev Rrv : List Nat := Rtk ++ Rjd
abbrev Prv : List (Nat × Nat) := Ptk ++ Pjd
abbrev Qrv : List Nat := Qtk
/-- how it goes on behind a hearing -/
def RvK (sa : Nat → Nat) (x A : Nat) (G H : Nat → Nat → Nat) (s : cS) (t : moS) (kc ks : Nat) (t' : moS) (Q : cS → Nat → Nat → Prop) : Prop := ∀ G' H' s' kc' ks', RR G' H' sa x s' t' → (G' 0 = G 0 ∧ G' 1 = G 1 ∧ G' 2 = G 2) → hA H H' s → fr Rrv Prv Qrv s s' → hdX H A s s' → hFr G' t' A → kc + RcC s' G' H' t' ≤ kc' + RcC s G H t → ks + RcS s' G' H' x t' ≤ ks' + RcS s G H x t → Q s' kc' ks'
theorem ar_v1 {kc a a' b kc' : Nat} (h : kc + a' ≤ kc' + a) : kc + (a' + b) ≤ kc' + (a + b) := by omega
section Rp
variable {G H G' H' G1 H1 : Nat → Nat → Nat} {sa : Nat → Nat} {x A r p kc ks kc' ks' kc1 ks1 : Nat} {s s' s1 : cS} {t t' t1 : moS} {E : List (Int32 × Int64)} {Q : cS → Nat → Nat → Prop}
theorem RvK.tr (k : RvK sa x A G H s t kc ks t' Q) (g1 : G1 0 = G 0 ∧ G1 1 = G 1 ∧ G1 2 = G 2) (h1 : hA H H1 s) (f1 : fr Rrv Prv Qrv s s1) (kA : (s.K A).1 ≠ 0) (o1 : hdX H A s s1) (c1 : kc + RcC s1 G1 H1 t1 ≤ kc1 + RcC s G H t) (c2 : ks + RcS s1 G1 H1 x t1 ≤ ks1 + RcS s G H x t) : RvK sa x A G1 H1 s1 t1 kc1 ks1 t' Q := fun G' H' s' kc' ks' R g h f o q b1 b2 => k G' H' s' kc' ks' R ⟨g.1.trans g1.1, g.2.1.trans g1.2.1, g.2.2.trans g1.2.2⟩ (fun y a ha => (h y a (by rw [(f1 a ha).1]; exact ha)).trans (h1 y a ha)) (f1.tr f) (o1.tr (by
    have e : ∀ g, H1 g A = H g A := fun g => h1 g A kA
    unfold hdX at o ⊢
    rw [e, e, e] at o
    exact o)) q (ar_6 c1 b1) (ar_6 c2 b2)
/-- nothing new is made, no pointer is another -/
theorem RvK.same {W : List Nat} (k : RvK sa x A G H s t kc ks t' Q) (hK : s1.K = s.K) (hP : s1.P = s.P) (kA : (s.K A).1 ≠ 0) (o1 : hdX H A s s1) (w : fr Rrv Prv Qrv s s1) (m : mfr W t t1) (d : dj [17, 37, 70, 123] W) : RvK sa x A G H s1 t1 kc ks t' Q := by
  have z1 := pot_kp (G := G) (H := H) (t := t1) hK hP
  have z2 := pot_t (G := G) (H := H) (s := s) m d
  have z5 : tdS s1 G H x = tdS s G H x := td_kp hK hP
  refine k.tr ⟨rfl, rfl, rfl⟩ hA.rf w kA o1 ?_ ?_
  · unfold RcC
    rw [z1.1, z2.1]
    exact Nat.le_refl _
  · unfold RcS
    rw [z1.2, z2.2, z5]
    exact Nat.le_refl _
/-- behind a judgement -/
theorem pot_jd (hR : RR G H sa x s t) (hM : MV t) (hr : r < cR t) (hp : p < cI t r) (j : JB G H sa x E s t (4 * r + p) A kc ks s' t' kc' ks') : kc + RcC s' G H t' ≤ kc' + RcC s G H t ∧ ks + RcS s' G H x t' ≤ ks' + RcS s G H x t := by
  obtain ⟨-, m, f, -, p28, cz, c1, c2⟩ := j
  have h6 := hM.nR
  have h4 := hM.nIf hr
  have hq := hR.q.1
  have hT := hq.ty
  have eR : cR t' = cR t := by unfold cR; rw [m.S 37 (by decide)]
  have eL : cL t' = cL t := by unfold cL; rw [m.S 17 (by decide)]
  have eI : ∀ r, cI t' r = cI t r := fun r => by unfold cI; rw [m.I 70 (by decide)]
  have eF : cF t' = cF t := by unfold cF; rw [m.S 123 (by decide)]
  have k26 : ∀ r', r' < cR t → (s.K (G 1 r')).1 = 26 := fun r' hr' => (hq.rt hr').1.1
  have k8q := (hq.po hr hp).1.1
  have ix : ∀ i, i / 4 < cR t ∧ i % 4 < cI t (i / 4) → (s.K (G 2 i)).1 = 8 := fun i hi => by
    have := (hq.po hi.1 hi.2).1.1
    rw [show 4 * (i / 4) + i % 4 = i by omega] at this
    exact this
  have ne : ∀ i, i / 4 < cR t ∧ i % 4 < cI t (i / 4) → i ≠ 4 * r + p → G 2 i ≠ G 2 (4 * r + p) := fun i hi hne e => by
    have := hq.2.1.2.2.1 (i / 4) r (i % 4) p hi.1 hr hi.2 hp (by rw [show 4 * (i / 4) + i % 4 = i by omega]; exact e)
    omega
  have cq : (4 * r + p) / 4 < cR t ∧ (4 * r + p) % 4 < cI t ((4 * r + p) / 4) := ⟨by omega, by rw [show (4 * r + p) / 4 = r by omega, show (4 * r + p) % 4 = p by omega]; exact hp⟩
  have eA : ∀ i, fA G t' i = fA G t i := fun i => by unfold fA; rw [eR]
  have eB : ∀ i, fB s' G H t' i = fB s G H t i := fun i => by
    unfold fB
    rw [eR]
    split
    · rename_i hi
      obtain ⟨-, ⟨z1, z2, z3⟩, ⟨w, z4, z5⟩, w', z6, z7⟩ := rt_two hR hi
      have k187 := (hT.p (k26 i hi) 187 28).2
      have k186 := (hT.p (k26 i hi) 186 27).2
      unfold pB potS cpO cpT
      rw [f.p k187 (by decide), f.p k186 (by decide), z4, z6]
      show _ + (_ - 2 * (s'.K w).2) + (_ + (_ - 2 * (s'.K w').2)) = _ + (_ - 2 * (s.K w).2) + (_ + (_ - 2 * (s.K w').2))
      rw [(f w z5).1, (f w' z7).1]
    · rfl
  have eLk : ∀ i, fL s' G H t' i = fL s G H t i := fun i => by
    unfold fL
    rw [eL]
    split
    · rename_i hi
      exact plC_fr hq hi f rfl
    · rfl
  have eD : dN G t' = dN G t := by unfold dN; rw [eF]
  have aW : sm (fW s' G H t') 24 + wkC s (H 86 (G 2 (4 * r + p))) ≤ sm (fW s G H t) 24 + wkC s' (H 86 (G 2 (4 * r + p))) := by
    refine sm_le1 (show 4 * r + p < 24 by omega) (fun i hi hne => ?_) ?_
    · unfold fW
      rw [eR, eI]
      split
      · rename_i hi'
        have k4 := (hT.p (ix i hi') 86 4).2
        unfold wkC
        rw [p28 _ (okr k4 1) (fun e => ne i hi' hne (hT.i (ix i hi') k8q 86 (by decide) e))]
        exact Nat.le_refl _
      · exact Nat.le_refl _
    · unfold fW
      rw [eR, eI, if_pos cq, if_pos cq]
      omega
  have aS : sm (fS s' G t') 24 + soC s (G 2 (4 * r + p)) ≤ sm (fS s G t) 24 + soC s' (G 2 (4 * r + p)) := by
    refine sm_le1 (show 4 * r + p < 24 by omega) (fun i hi hne => ?_) ?_
    · unfold fS
      rw [eR, eI]
      split
      · rename_i hi'
        unfold soC
        rw [cz _ (ix i hi') (ne i hi' hne)]
        exact Nat.le_refl _
      · exact Nat.le_refl _
    · unfold fS
      rw [eR, eI, if_pos cq, if_pos cq]
      omega
  have aT : sm (fT s' G t') 24 + soS s (G 2 (4 * r + p)) ≤ sm (fT s G t) 24 + soS s' (G 2 (4 * r + p)) := by
    refine sm_le1 (show 4 * r + p < 24 by omega) (fun i hi hne => ?_) ?_
    · unfold fT
      rw [eR, eI]
      split
      · rename_i hi'
        unfold soS
        rw [cz _ (ix i hi') (ne i hi' hne)]
        exact Nat.le_refl _
      · exact Nat.le_refl _
    · unfold fT
      rw [eR, eI, if_pos cq, if_pos cq]
      omega
  have eTd : tdS s' G H x = tdS s G H x := (td_same (G' := G) (H' := H) hq.1 rfl hA.rf f (f.p (hT.p hq.1.1 237 29).2 (by decide))).2
  unfold jdC at c1
  unfold jdS at c2
  unfold RcC RcS PoC PoS
  rw [sm_e fun i _ => eA i, sm_e fun i _ => eB i, sm_e fun i _ => eLk i, eD, eTd]
  generalize sm (fA G t) 6 = v1
  generalize sm (fB s G H t) 6 = v2
  generalize sm (fL s G H t) 10 = v3
  generalize dN G t = v4
  generalize sm (fW s' G H t') 24 = w1 at aW ⊢
  generalize sm (fW s G H t) 24 = w2 at aW ⊢
  generalize sm (fS s' G t') 24 = w3 at aS ⊢
  generalize sm (fS s G t) 24 = w4 at aS ⊢
  generalize sm (fT s' G t') 24 = w5 at aT ⊢
  generalize sm (fT s G t) 24 = w6 at aT ⊢
  generalize tdC G = v5
  generalize tdS s G H x = v6
  omega
end Rp
