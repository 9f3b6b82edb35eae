/-! A line that tells own routes: what both sides come to. -/
def sm (f : Nat → Nat) : Nat → Nat
  | 0 => 0
  | n + 1 => sm f n + f n
theorem sm_e {f g : Nat → Nat} : ∀ {n : Nat}, (∀ r, r < n → f r = g r) → sm f n = sm g n
  | 0, _ => rfl
  | n + 1, h => by
    show sm f n + f n = sm g n + g n
    rw [sm_e fun r hr => h r (by omega), h n (by omega)]
theorem sm_1 {f g : Nat → Nat} {r : Nat} : ∀ {n : Nat}, r < n → (∀ r', r' < n → r' ≠ r → f r' = g r') → sm f n + g r = sm g n + f r
  | 0, hr, _ => absurd hr (by omega)
  | n + 1, hr, h => by
    show sm f n + f n + g r = sm g n + g n + f r
    by_cases c : r = n
    · subst c
      rw [sm_e (f := f) (g := g) fun r' hr' => h r' (by omega) (by omega)]
      omega
    · have := sm_1 (f := f) (g := g) (r := r) (n := n) (by omega) fun r' hr' hne => h r' (by omega) hne
      have := h n (by omega) (fun z => c z.symm)
      omega
theorem sm_ge {f : Nat → Nat} {r : Nat} : ∀ {n : Nat}, r < n → f r ≤ sm f n
  | 0, hr => absurd hr (by omega)
  | n + 1, hr => by
    show f r ≤ sm f n + f n
    by_cases c : r = n
    · subst c; omega
    · have := sm_ge (f := f) (r := r) (n := n) (by omega)
      omega
abbrev Wls : List Nat := Wst ++ Wrow ++ [12, 13, 14, 15, 16]
def LSt (G H : Nat → Nat → Nat) (sa : Nat → Nat) (x : Nat) (s : cS) (t : moS) (kc ks : Nat) (Os : Nat → List Pf) (o : Option (Int32 × moS)) (C : (Int32 → cS → Nat → Nat → Prop) → Prop) : Prop := ∃ c t' Os', o = some (c, t') ∧ MV t' ∧ EX Os' t' ∧ (∀ r, (Os' r).length ≤ (Os r).length + 1) ∧ mfr Wls t t' ∧ ∀ Q : Int32 → cS → Nat → Nat → Prop, (∀ G' H' s' kc' ks', RR G' H' sa x s' t' → (∀ b, b ∉ Gtb → G' b = G b) → hA H H' s → fr (Rc ++ Rtb) (Pc ++ Ptb) (Qc ++ Qtb) s s' → kc + sm (pA G') (cR t) ≤ kc' + sm (pA G) (cR t) → ks + sm (pB s' G' H') (cR t) ≤ ks' + sm (pB s G H) (cR t) → Q c s' kc' ks') → C Q
section Ls
variable {G H : Nat → Nat → Nat} {sa : Nat → Nat} {rd x r kc ks : Nat} {s s1 s2 : cS} {t t1 t' : moS} {l : List Int32} {ws : List (Nat × Nat)} {Os : Nat → List Pf} {o : Option (Int32 × moS)} {C : (Int32 → cS → Nat → Nat → Prop) → Prop}
theorem pB_e (hK : s1.K = s.K) (hP : s1.P = s.P) : pB s1 G H = pB s G H := by
  funext r
  unfold pB potS cpT cpO
  rw [hK, hP]
theorem EX.mf (h : EX Os t) (hM : MV t) (m : mfr [12, 13, 14, 15, 16] t t1) (hM1 : MV t1) : EX Os t1 := by
  intro r hr1
  have eR : cR t1 = cR t := by unfold cR; rw [m.S 37 (by decide)]
  have hr : r < cR t := by rw [← eR]; exact hr1
  have ec : cSt t1 r = cSt t r := by unfold cSt; rw [m.I 46 (by decide)]
  have ei : cI t1 r = cI t r := by unfold cI; rw [m.I 70 (by decide)]
  have en : cN t1 r = cN t r := by unfold cN; rw [m.I 105 (by decide)]
  have ea : al t1 r = al t r := al_eq hM hM1 hr hr1 en (fun g hg j _ => by rw [m.I g (by revert hg; revert g; decide)]) (fun g hg j _ => by rw [m.J g (by revert hg; revert g; decide)]) (by rw [m.I 45 (by decide)]) (by rw [m.I 44 (by decide)])
  have key : ∀ f h l n dk dm di dt, isDu t1 r f h l n dk dm di dt ↔ isDu t r f h l n dk dm di dt := fun f h l n dk dm di dt => by
    unfold isDu upN cI cSt kyS
    rw [m.I 22 (by decide), m.I 46 (by decide), m.I 47 (by decide), m.J 48 (by decide), m.J 49 (by decide), m.I 50 (by decide), m.I 51 (by decide), m.I 52 (by decide), m.I 70 (by decide), m.I 71 (by decide), m.I 72 (by decide), m.I 75 (by decide), m.J 76 (by decide), m.J 77 (by decide), m.I 78 (by decide)]
  have ed : dF t1 r = dF t r := by
    funext P
    obtain ⟨f, h, l, n⟩ := P
    by_cases c : ∃ q : DU, isDu t r f h l n q.1 q.2.1 q.2.2.1 q.2.2.2
    · obtain ⟨q, hq⟩ := c
      rw [dF_some hq, dF_some ((key _ _ _ _ _ _ _ _).mpr hq)]
    · unfold dF
      rw [dif_neg c, dif_neg]
      rintro ⟨q, hq⟩
      exact c ⟨q, (key _ _ _ _ _ _ _ _).mp hq⟩
  obtain ⟨⟨o1, o2, D0, D1, l0, l1, hrow⟩, se, px⟩ := h r hr
  refine ⟨⟨?_, ?_, D0, D1, l0, l1, ?_⟩, fun z => ?_, ?_⟩
  · rw [ec]; unfold stP; rw [m.I 47 (by decide), m.J 48 (by decide), m.J 49 (by decide), m.I 50 (by decide)]; exact o1
  · rw [ei]; unfold neP; rw [m.I 75 (by decide), m.J 76 (by decide), m.J 77 (by decide), m.I 78 (by decide)]; exact o2
  · rw [en]; unfold pfR at hrow ⊢; rw [m.I 106 (by decide), m.I 109 (by decide), m.J 107 (by decide), m.J 108 (by decide)]; exact hrow
  · rw [m.I 39 (by decide)] at z
    intro P hP
    have := se z P hP
    show st1 (dF t1 r) (tgM t1 r) (g0M t1 r) P (al t1 r) = al t1 r
    rw [ea, ed]
    unfold tgM g0M
    rw [m.S 1 (by decide), m.I 42 (by decide), m.I 45 (by decide)]
    exact this
  · rw [ec, m.J 48 (by decide), m.J 49 (by decide), m.I 50 (by decide)]; exact px
/-- a fault, before anything was done -/
theorem LSt.no (h : LX G H sa x rd s t l ws) (hE : EX Os t) (m : mfr [12, 13, 14, 15, 16] t t1) (c : Int32) (e : o = some (c, t1)) (hC : ∀ Q : Int32 → cS → Nat → Nat → Prop, (∀ s1 s2, fo rd s s1 → fp (H 146 rd) s1 s2 → Q c s2 kc ks) → C Q) : LSt G H sa x s t kc ks Os o C := by
  have hM1 : MV t1 := (lx_fm h fp.rf m).mv
  refine ⟨c, t1, Os, e, hM1, hE.mf h.mv m hM1, fun r => by omega, m.wk (by decide), fun Q k => hC Q fun s1 s2 f1 f2 => ?_⟩
  have L1 := h.fo f1
  have L2 := lx_fm L1 f2 m
  refine k G H s2 kc ks L2.1 (fun _ _ => rfl) hA.rf (((fo_cf f1 h.2.2.1.2).wk).tr ((fp_cf L1 f2).wk)) (Nat.le_refl _) ?_
  rw [pB_e (G := G) (H := H) (f2.1.trans f1.1) (f2.2.1.trans f1.2.1)]
  exact Nat.le_refl _
/-- what one router's own routes cost, for all of them -/
theorem StK.ls {Q : Int32 → cS → Nat → Nat → Prop} {c : Int32} (h : LX G H sa x rd s t l ws) (f1 : fo rd s s1) (f2 : fp (H 146 rd) s1 s2) (m : mfr [12, 13, 14, 15, 16] t t1) (hr : r < cR t) (k : ∀ G' H' s' kc' ks', RR G' H' sa x s' t' → (∀ b, b ∉ Gtb → G' b = G b) → hA H H' s → fr (Rc ++ Rtb) (Pc ++ Ptb) (Qc ++ Qtb) s s' → kc + sm (pA G') (cR t) ≤ kc' + sm (pA G) (cR t) → ks + sm (pB s' G' H') (cR t) ≤ ks' + sm (pB s G H) (cR t) → Q c s' kc' ks') : StK G H sa x s2 r t' kc ks (Q c) := by
  intro G' H' s' kc' ks' hR g1 g2 hA1 f3 p1 b1 b2
  have L1 := h.fo f1
  have L2 := lx_fm L1 f2 m
  have hq := L2.q
  have eR : cR t1 = cR t := by unfold cR; rw [m.S 37 (by decide)]
  have e1 : G' 1 = G 1 := g1 1 (by decide) (by decide) (by decide) (by decide) (by decide)
  have hK2 : s2.K = s.K := f2.1.trans f1.1
  refine k G' H' s' kc' ks' hR (fun b hb => g1 b (fun z => hb (by rw [z]; decide)) (fun z => hb (by rw [z]; decide)) (fun z => hb (by rw [z]; decide)) (fun z => hb (by rw [z]; decide)) (fun z => hb (by rw [z]; decide))) (fun g a ha => hA1 g a (by rw [hK2]; exact ha)) ((((fo_cf f1 h.2.2.1.2).wk).tr ((fp_cf L1 f2).wk)).tr f3.wk) ?_ ?_
  · have := sm_1 (f := pA G') (g := pA G) (r := r) (n := cR t) hr fun r' _ hne => by
      unfold pA potC
      rw [(g2 r' hne).1, (g2 r' hne).2]
    omega
  · rw [← pB_e (G := G) (H := H) hK2 (f2.2.1.trans f1.2.1)]
    have := sm_1 (f := pB s' G' H') (g := pB s2 G H) (r := r) (n := cR t) hr fun r' hr' hne => by
      obtain ⟨k26, k2, ⟨w1, y1, y2⟩, w2, z1, z2⟩ := rt_two L2.1 (by rw [eR]; exact hr' : r' < cR t1)
      obtain ⟨j26, j2, -, -⟩ := rt_two L2.1 (by rw [eR]; exact hr : r < cR t1)
      have hne' : G 1 r' ≠ G 1 r := fun z => hne (hq.2.1.2.1 r' r (by rw [eR]; exact hr') (by rw [eR]; exact hr) z)
      have a27 := (hq.ty.p k26 186 27).2
      have a28 := (hq.ty.p k26 187 28).2
      have b27 := (hq.ty.p j26 186 27).2
      have b28 := (hq.ty.p j26 187 28).2
      have eH : ∀ g, H' g (G 1 r') = H g (G 1 r') := fun g => hA1 g _ (by rw [k26]; decide)
      have q1 : s'.P 200 (H 186 (G 1 r')) = some w1 := by
        rw [p1 _ 200 (fun z => hne' (hq.ty.i k26 j26 186 (by decide) z)) (ne_ro a27 b28) k2.1 (by decide)]; exact y1
      have q2 : s'.P 200 (H 187 (G 1 r')) = some w2 := by
        rw [p1 _ 200 (ne_ro a28 b27) (fun z => hne' (hq.ty.i k26 j26 187 (by decide) z)) k2.2.1 (by decide)]; exact z1
      unfold pB potS cpT cpO
      rw [e1, eH, eH, (g2 r' hne).1, (g2 r' hne).2, q1, q2, y1, z1]
      show _ + (_ - 2 * (s'.K w1).2) + (_ + (_ - 2 * (s'.K w2).2)) = _ + (_ - 2 * (s2.K w1).2) + (_ + (_ - 2 * (s2.K w2).2))
      rw [(f3 w1 y2).1, (f3 w2 z2).1]
    omega
end Ls
