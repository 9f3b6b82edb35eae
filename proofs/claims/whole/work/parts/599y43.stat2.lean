/-! An own route is told: class and model together. -/
section Sy
variable {G H : Nat → Nat → Nat} {sa : Nat → Nat} {x rd r p kc ks : Nat} {s : cS} {t : moS} {f n mm tt x6 : Int32} {h l : Int64} {Os : Nat → List Pf}
theorem StK.no {Q : cS → Nat → Nat → Prop} (kk : StK G H sa x s r t kc ks Q) (hR : RR G H sa x s t) : Q s kc ks :=
  kk G H s kc ks hR (fun _ _ _ _ _ _ => rfl) (fun _ _ => ⟨rfl, rfl⟩) hA.rf fr.rf (fun _ _ _ _ _ _ => rfl) (Nat.le_refl _) (Nat.le_refl _)
theorem kyV_ne {f f' n n' : Int32} {h l h' l' : Int64} (a : lnOk f n) (b : lnOk f' n') (z : ((f, h, l, n) : Pf) ≠ (f', h', l', n')) : kyV f h l n ≠ kyV f' h' l' n' := fun e => z (by
  obtain ⟨e1, e2, e3, e4⟩ := (kyV_i a b).mp e
  rw [e1, e2, e3, e4])
/-- the facts about a router's two tables -/
theorem rt_two (hR : RR G H sa x s t) (hr : r < cR t) : (s.K (G 1 r)).1 = 26 ∧ ((s.K (H 186 (G 1 r))).1 ≠ 0 ∧ (s.K (H 187 (G 1 r))).1 ≠ 0 ∧ H 186 (G 1 r) ≠ H 187 (G 1 r)) ∧ (∃ w, s.P 200 (H 186 (G 1 r)) = some w ∧ (s.K w).1 ≠ 0) ∧ ∃ w, s.P 200 (H 187 (G 1 r)) = some w ∧ (s.K w).1 ≠ 0 := by
  have hq := hR.q.1
  have k26 := (hq.rt hr).1.1
  have a := (hq.ty.p k26 186 27).2
  have b := (hq.ty.p k26 187 28).2
  refine ⟨k26, ⟨by rw [a]; decide, by rw [b]; decide, ne_ro a b⟩, ?_, ?_⟩
  · obtain ⟨-, -, -, w, cap, b1, b2, -⟩ := (hq.tb hr).1
    exact ⟨w, b1, by rw [b2]; show 135 ≠ 0; decide⟩
  · obtain ⟨-, -, -, w, cap, b1, b2, -⟩ := (hq.st hr).1
    exact ⟨w, b1, by rw [b2]; show 145 ≠ 0; decide⟩
/-- one that is there already -/
theorem stat_mod (hR : RR G H sa x s t) (hM : MV t) (hE : EX Os t) (hr : r < cR t) (hor : okO s 7 rd) (h146 : s.P 146 rd = some p) (kp : (s.K p).1 = 19) (hf : lnOk f n) (hpx : isPx h l n) (hp : PF s p (fam f) h l n) (hO : (Os r).length < 760) (hmm : rng mm 1 15) (htt : rng tt 0 65535) (hkc : pA G r ≤ kc) (hks : pB s G H r ≤ ks) {j : Nat} (hj : j < cSt t r) (hk : kyS t (32 * r + G 7 (32 * r + j)) = kyV f h l n) : ∃ t', M_settle (moSI (moSI t 51 (32 * r + G 7 (32 * r + j)) mm) 52 (32 * r + G 7 (32 * r + j)) tt) (nI r) = some t' ∧ MV t' ∧ EX (fun r' => if r' = r then (f, h, l, n) :: Os r else Os r') t' ∧ mfr (Wst ++ Wrow) t t' ∧ ∀ Q : Int32 → cS → Nat → Nat → Prop, StK G H sa x s r t' kc ks (Q 0) → C_Re_staticLine_b134 sa rd (some (G 1 r)) mm tt (some (G 6 (32 * r + j))) s kc ks Q := by
  have hq := hR.q.1
  have h32 := (hM.st hr).2
  obtain ⟨-, b1, b2⟩ := hq.st hr
  have hG7 : G 7 (32 * r + j) < cSt t r := (b1 j hj).1
  obtain ⟨k26, k2, kw, kw1⟩ := rt_two hR hr
  have ka : (s.K (G 6 (32 * r + j))).1 = 24 := by
    obtain ⟨-, y2, -, w0, cap0, -, -, -, -, -, d6, -⟩ := (hq.st hr).1
    exact (d6 j (by have : cSt t r ≤ G 14 r := y2; omega)).2
  obtain ⟨w, hw, kw0⟩ := kw1
  have kw145 : (s.K w).1 = 145 := by
    obtain ⟨-, -, -, w', cap, c1, c2, -⟩ := (hq.st hr).1
    rw [hw] at c1
    cases c1
    rw [c2]
  obtain ⟨r1, r2, r3, r4⟩ := rr_stm (w := w) (m := mm) (tg := tt) hR hM hr hj rfl rfl hmm htt
  have tI : ∀ g y, g ≠ 51 → g ≠ 52 → (moSI (moSI t 51 (32 * r + G 7 (32 * r + j)) mm) 52 (32 * r + G 7 (32 * r + j)) tt).I g y = t.I g y := fun g y h1 h2 => by rw [moSI_n h2, moSI_n h1]
  have tV : ∀ g y, y ≠ 32 * r + G 7 (32 * r + j) → (moSI (moSI t 51 (32 * r + G 7 (32 * r + j)) mm) 52 (32 * r + G 7 (32 * r + j)) tt).I g y = t.I g y := fun g y h1 => by rw [evMI, if_neg (fun z => h1 z.2), evMI, if_neg (fun z => h1 z.2)]
  have tJ : (moSI (moSI t 51 (32 * r + G 7 (32 * r + j)) mm) 52 (32 * r + G 7 (32 * r + j)) tt).J = t.J := rfl
  generalize moSI (moSI t 51 (32 * r + G 7 (32 * r + j)) mm) 52 (32 * r + G 7 (32 * r + j)) tt = t1 at *
  have f1 := r3.fr hq.ty k26 ka kw145
  have sI : ∀ b, b ≠ G 6 (32 * r + j) → ∀ g, (cSI (cSI s 164 (G 6 (32 * r + j)) mm) 165 (G 6 (32 * r + j)) tt).I g b = s.I g b := fun b hb g => by rw [cSI_o hb, cSI_o hb]
  have hpa : p ≠ G 6 (32 * r + j) := ne_ro kp ka
  have ec : cSt t1 r = cSt t r := by unfold cSt; rw [tI 46 r (by decide) (by decide)]
  have ky : ∀ y, kyS t1 y = kyS t y := fun y => by unfold kyS; rw [tI 47 y (by decide) (by decide), tI 50 y (by decide) (by decide), tJ]
  have hp1 : PF (cSI (cSI s 164 (G 6 (32 * r + j)) mm) 165 (G 6 (32 * r + j)) tt) p (fam f) h l n := by
    obtain ⟨y1, y2, y3, y4⟩ := hp
    exact ⟨by rw [sI p hpa]; exact y1, y2, y3, by rw [sI p hpa]; exact y4⟩
  have hcost : potC G r ≤ kc ∧ potS s G H r ≤ ks := by unfold pA at hkc; unfold pB at hks; omega
  have pSe : potS (cSI (cSI s 164 (G 6 (32 * r + j)) mm) 165 (G 6 (32 * r + j)) tt) G H r = potS s G H r := rfl
  obtain ⟨⟨o1, -⟩, -, px⟩ := hE r hr
  obtain ⟨t', e1, e2, e3, e4, e5⟩ := st_set (O1 := (f, h, l, n) :: Os r) (kc1 := kc) (ks1 := ks) hM hr hE r1 r2 r4 hf hpx hp1 (okr (s := cSI (cSI s 164 (G 6 (32 * r + j)) mm) 165 (G 6 (32 * r + j)) tt) kp 5) (Or.inr (Or.inl kp)) (fun k hk' => List.mem_cons_of_mem _ (by
    rw [ec] at hk'
    have := o1 k hk'
    unfold stP at this ⊢
    rw [tI 47 _ (by decide) (by decide), tI 50 _ (by decide) (by decide), tJ]
    exact this)) (fun P hP => List.mem_cons_of_mem _ hP) (by show (Os r).length + 1 ≤ 760; omega) (by simp) (fun k hk' => by
    rw [ec] at hk'
    rw [tI 50 _ (by decide) (by decide), tJ]
    exact px k hk') (fun P hP hne => by
    obtain ⟨f', h', l', n'⟩ := P
    refine dF_stP r4.1 ⟨fun k k1 k2 k3 => ?_, fun k k1 k2 k3 => ?_⟩
    · rw [ec] at k1
      rw [ky] at k2
      have hne2 : 32 * r + k ≠ 32 * r + G 7 (32 * r + j) := fun z => by
        rw [z, hk] at k2
        exact kyV_ne hf hP (fun y => hne y.symm) k2
      exact ⟨k, k1, k2, fun k' hk' => by rw [← ky]; exact k3 k' hk', tV 51 _ hne2, tV 52 _ hne2⟩
    · have hne2 : 32 * r + k ≠ 32 * r + G 7 (32 * r + j) := fun z => by
        rw [z, hk] at k2
        exact kyV_ne hf hP (fun y => hne y.symm) k2
      exact ⟨k, by rw [ec]; exact k1, by rw [ky]; exact k2, fun k' hk' => by rw [ky]; exact k3 k' hk', tV 51 _ hne2, tV 52 _ hne2⟩) hcost.1 (by rw [pSe]; exact hcost.2)
  refine ⟨t', e1, e2, e3, e4, fun Q kk => ?_⟩
  have sj := st_join (t1 := t1) (s1 := cSI (cSI s 164 (G 6 (32 * r + j)) mm) 165 (G 6 (32 * r + j)) tt) (kc1 := kc) (ks1 := ks) (G1 := G) (H1 := H) kk (fun _ _ _ _ => rfl) (fun _ _ => rfl) hA.rf (by rw [k26]; decide) f1.wk (fun _ _ _ _ _ => rfl) k2 kw ⟨w, hw, kw0⟩ (Nat.le_refl _) (Nat.le_refl _)
  have hset := e5 _ sj.1
  unfold C_Re_staticLine_b134
  refine ⟨_, rfl, _, gd_to (okr ka 8), _, gd_to (show okO _ 8 _ from okr ka 8), _, gd_to (show okO _ 7 rd from hor), G 1 r, rfl, show okO _ 9 _ from okr k26 9, ?_⟩
  rw [show (cSI (cSI s (20 * 8 + 4) (G 6 (32 * r + j)) mm) (20 * 8 + 5) (G 6 (32 * r + j)) tt).P (20 * 7 + 6) rd = some p from h146]
  exact hset
end Sy
