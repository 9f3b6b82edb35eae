/-! One prefix is settled: the class, first parts. -/
/-- what is due, as the class has it -/
def dueC (s : cS) (a2 a3 : Option Nat) (dk dm dt : Int32) (port : Option Nat) : Prop := (∃ q, a2 = some q ∧ (s.K q).1 = 8 ∧ dk = 0 ∧ s.I 83 q = dm ∧ dt = 0 ∧ port = some q) ∨ (a2 = none ∧ ∃ b, a3 = some b ∧ (s.K b).1 = 24 ∧ dk = 1 ∧ s.I 164 b = dm ∧ s.I 165 b = dt ∧ port = none)
/-- what a router's table may still cost -/
def potC (G : Nat → Nat → Nat) (r : Nat) : Nat := 5 * (2700 - G 13 r)
def cpT (s : cS) (G H : Nat → Nat → Nat) (r : Nat) : Nat := (s.K ((s.P 200 (H 186 (G 1 r))).getD 0)).2
def potS (s : cS) (G H : Nat → Nat → Nat) (r : Nat) : Nat := 24 * (2700 - G 13 r) + (4 * 2700 - 2 * cpT s G H r)
/-- what stands behind the settling of one prefix -/
def SetK (G H : Nat → Nat → Nat) (sa : Nat → Nat) (x : Nat) (s : cS) (t : moS) (r : Nat) (o : Option moS) (kc ks : Nat) (Q : cS → Nat → Nat → Prop) : Prop := ∀ G' H' s' t' kc' ks', o = some t' → RR G' H' sa x s' t' → MV t' → (∀ b, b ≠ 4 → b ≠ 13 → G' b = G b) → (∀ r', r' ≠ r → G' 13 r' = G 13 r') → hA H H' s → fr Rtb Ptb Qtb s s' → rwT r t t' → (∀ b g, b ≠ H 186 (G 1 r) → (s.K b).1 ≠ 0 → g ≠ 166 → s'.P g b = s.P g b) → kc + potC G' r ≤ kc' + potC G r → ks + potS s' G' H' r ≤ ks' + potS s G H r → Q s' kc' ks'
section S1
variable {G H : Nat → Nat → Nat} {sa : Nat → Nat} {x r rr cnt a p1 p2 w kc ks : Nat} {s s' : cS} {t t' : moS} {dk dm dt : Int32} {a2 a3 port : Option Nat}
theorem w_b74 {Q : cS → Nat → Nat → Prop} (hd : dueC s a2 a3 dk dm dt port) (o9 : okO s 9 rr) (oa : okO s 8 a) (ox : okO s 11 x) (h1 : s.P 196 rr = some cnt) (h2 : s.K cnt = (104, 11)) (h3 : s.P 180 rr = some x) (e1 : s.P 160 a = some p1) (e2 : s.P 161 a = some p2) (o1 : okO s 5 p1) (o2 : okO s 5 p2) (k0 : boD s a p2 dk dm dt port → Q (boS s a p1 p2 dk dm dt port) kc ks) (k1 : ¬ boD s a p2 dk dm dt port → Q (mkS (boS s a p1 p2 dk dm dt port) rr cnt x a) kc ks) : C_Rr_settle_b74 sa rr a2 a3 (some a) s kc ks Q := by
  have c0 : boD s a p2 dk dm dt port → C_Rr_settle_b119 sa rr (some a) 0 (boS s a p1 p2 dk dm dt port) kc ks Q := fun z => by
    unfold C_Rr_settle_b119
    exact ifT rfl (k0 z)
  have c1 : ¬ boD s a p2 dk dm dt port → C_Rr_settle_b119 sa rr (some a) 1 (boS s a p1 p2 dk dm dt port) kc ks Q := fun z => by
    unfold C_Rr_settle_b119
    have hP : ∀ g, g ≠ 166 → (boS s a p1 p2 dk dm dt port).P g rr = s.P g rr := fun g hg => by rw [boP, if_neg (fun z => hg z.1)]
    refine ifF (by decide) ⟨show okO _ 9 rr from o9, w_mark (show okO _ 9 rr from o9) (show okO _ 8 a from oa) (show okO _ 11 x from ox) (by rw [hP 196 (by decide)]; exact h1) h2 (by rw [hP 180 (by decide)]; exact h3) (k1 z)⟩
  unfold C_Rr_settle_b74
  rcases hd with ⟨q, rfl, kq, rfl, em, rfl, rfl⟩ | ⟨rfl, b, rfl, kb, rfl, em, et, rfl⟩
  · refine ifF (by simp) ⟨q, rfl, _, gd_to (okr kq 4), a, rfl, oa, ?_⟩
    rw [show s.I (20 * 4 + 3) q = dm from em]
    exact w_become oa e1 e2 o1 o2 c0 c1
  · refine ifT rfl (ifF (by simp) ⟨b, rfl, _, gd_to (okr kb 8), _, gd_to (okr kb 8), a, rfl, oa, ?_⟩)
    rw [show s.I (20 * 8 + 4) b = dm from em, show s.I (20 * 8 + 5) b = dt from et]
    exact w_become oa e1 e2 o1 o2 c0 c1
theorem potS_e (hP : s'.P 200 (H 186 (G 1 r)) = s.P 200 (H 186 (G 1 r))) (hK : s'.K = s.K) : potS s' G H r = potS s G H r := by
  unfold potS cpT
  rw [hP, hK]
theorem potS_c {cap u : Nat} (h1 : s.P 200 (H 186 (G 1 r)) = some w) (h2 : s.K w = (u, cap)) : potS s G H r = 24 * (2700 - G 13 r) + (4 * 2700 - 2 * cap) := by
  unfold potS cpT
  rw [h1]
  show 24 * (2700 - G 13 r) + (4 * 2700 - 2 * (s.K w).2) = _
  rw [h2]
/-- nothing new was made -/
theorem SetK.o {o : Option moS} {Q : cS → Nat → Nat → Prop} (kk : SetK G H sa x s t r o kc ks Q) (hq : RQ G H sa x s t) (hr : r < cR t) (ka : (s.K a).1 = 23) (hw : s.P 200 (H 186 (G 1 r)) = some w) (ho : o = some t') (hR : RR G H sa x s' t') (hM : MV t') (c : rwC G H r a w s s') (ct : rwT r t t') : Q s' kc ks := by
  have k1 := (hq.rt hr).1.1
  have kw : (s.K w).1 = 135 := by
    obtain ⟨-, -, -, w', cap, b1, b2, -⟩ := (hq.tb hr).1
    rw [hw] at b1
    cases b1
    rw [b2]
  exact kk G H s' t' kc ks ho hR hM (fun _ _ _ => rfl) (fun _ _ => rfl) hA.rf (c.fr hq.ty k1 ka kw).wk ct (fun b g _ _ hg => c.2.1 g b hg) (Nat.le_refl _) (by rw [potS_e (c.2.1 200 _ (by decide)) c.1]; exact Nat.le_refl _)
/-- nothing is another -/
theorem SetK.n {o : Option moS} {Q : cS → Nat → Nat → Prop} (kk : SetK G H sa x s t r o kc ks Q) (ho : o = some t') (hR : RR G H sa x s t') (hM : MV t') (ct : rwT r t t') : Q s kc ks :=
  kk G H s t' kc ks ho hR hM (fun _ _ _ => rfl) (fun _ _ => rfl) hA.rf fr.rf ct (fun _ _ _ _ _ => rfl) (Nat.le_refl _) (Nat.le_refl _)
end S1
