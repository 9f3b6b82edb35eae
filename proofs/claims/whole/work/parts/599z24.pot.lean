/-! All that may still be made, as one number. -/
def fA (G : Nat → Nat → Nat) (t : moS) (r : Nat) : Nat := if r < cR t then pA G r else 13660
def fB (s : cS) (G H : Nat → Nat → Nat) (t : moS) (r : Nat) : Nat := if r < cR t then pB s G H r else 76496
def fL (s : cS) (G H : Nat → Nat → Nat) (t : moS) (l : Nat) : Nat := if l < cL t then plC s G H l else 1200
def fW (s : cS) (G H : Nat → Nat → Nat) (t : moS) (i : Nat) : Nat := if i / 4 < cR t ∧ i % 4 < cI t (i / 4) then wkC s (H 86 (G 2 i)) else 1
/-- how long an interface's row of sources is -/
def cpZ (s : cS) (a : Nat) : Nat := match s.P 96 a with
  | none => 0
  | some w => (s.K w).2
def soC (s : cS) (a : Nat) : Nat := (1400 - cpZ s a) / 2
def soS (s : cS) (a : Nat) : Nat := 4 * (1400 - cpZ s a)
def fS (s : cS) (G : Nat → Nat → Nat) (t : moS) (i : Nat) : Nat := if i / 4 < cR t ∧ i % 4 < cI t (i / 4) then soC s (G 2 i) else 700
def fT (s : cS) (G : Nat → Nat → Nat) (t : moS) (i : Nat) : Nat := if i / 4 < cR t ∧ i % 4 < cI t (i / 4) then soS s (G 2 i) else 5600
def PoC (s : cS) (G H : Nat → Nat → Nat) (t : moS) : Nat := sm (fA G t) 6 + sm (fL s G H t) 10 + 5 * dN G t + sm (fW s G H t) 24 + sm (fS s G t) 24
def PoS (s : cS) (G H : Nat → Nat → Nat) (t : moS) : Nat := sm (fB s G H t) 6 + 2 * sm (fL s G H t) 10 + 622 * dN G t + 792 * sm (fW s G H t) 24 + sm (fT s G t) 24
theorem sm_le1 {f g : Nat → Nat} {j a b : Nat} : ∀ {n : Nat}, j < n → (∀ i, i < n → i ≠ j → f i ≤ g i) → f j + a ≤ g j + b → sm f n + a ≤ sm g n + b
  | 0, hj, _, _ => absurd hj (by omega)
  | n + 1, hj, h, h2 => by
    show sm f n + f n + a ≤ sm g n + g n + b
    have le : ∀ {m : Nat}, m ≤ n → (∀ i, i < m → f i ≤ g i) → sm f m ≤ sm g m := by
      intro m
      induction m with
      | zero => exact fun _ _ => Nat.le_refl _
      | succ m ih =>
        intro hm hh
        show sm f m + f m ≤ sm g m + g m
        have := ih (by omega) (fun i hi => hh i (by omega))
        have := hh m (by omega)
        omega
    by_cases c : j = n
    · subst c
      have := le (Nat.le_refl j) (fun i hi => h i (by omega) (by omega))
      omega
    · have := sm_le1 (f := f) (g := g) (j := j) (a := a) (b := b) (n := n) (by omega) (fun i hi hne => h i (by omega) hne) h2
      have := h n (by omega) (fun z => c z.symm)
      omega
theorem sm_le {f g : Nat → Nat} {n : Nat} (h : ∀ i, i < n → f i ≤ g i) : sm f n ≤ sm g n := by
  cases n with
  | zero => exact Nat.le_refl _
  | succ n =>
    have := sm_le1 (f := f) (g := g) (j := n) (a := 0) (b := 0) (n := n + 1) (by omega) (fun i hi _ => h i hi) (h n (by omega))
    omega
section Pt
variable {G H G' H' : Nat → Nat → Nat} {sa : Nat → Nat} {x r p l c kc ks kc' ks' : Nat} {s s' : cS} {t t' : moS}
theorem pA_f : pA G r ≤ 13660 := by unfold pA potC; omega
theorem pB_f : pB s G H r ≤ 76496 := by unfold pB potS; omega
theorem plC_f : plC s G H l ≤ 1200 := by unfold plC; omega
theorem wkC_f : wkC s c ≤ 1 := by unfold wkC; split <;> omega
theorem soC_f : soC s c ≤ 700 := by unfold soC; omega
theorem soS_f : soS s c ≤ 5600 := by unfold soS; omega
/-- the sources that may still be made do not grow -/
theorem so_le (hR : cR t ≤ cR t') (hI : ∀ r, r < cR t → cI t r ≤ cI t' r) (d : ∀ r p, r < cR t → p < cI t r → cpZ s' (G' 2 (4 * r + p)) = cpZ s (G 2 (4 * r + p))) : sm (fS s' G' t') 24 ≤ sm (fS s G t) 24 ∧ sm (fT s' G' t') 24 ≤ sm (fT s G t) 24 := by
  constructor
  · refine sm_le fun i _ => ?_
    unfold fS
    by_cases c1 : i / 4 < cR t ∧ i % 4 < cI t (i / 4)
    · have := hI (i / 4) c1.1
      rw [if_pos c1, if_pos ⟨by omega, by omega⟩]
      have := d (i / 4) (i % 4) c1.1 c1.2
      rw [show 4 * (i / 4) + i % 4 = i by omega] at this
      unfold soC
      rw [this]
      exact Nat.le_refl _
    · rw [if_neg c1]
      split
      · exact soC_f
      · exact Nat.le_refl _
  · refine sm_le fun i _ => ?_
    unfold fT
    by_cases c1 : i / 4 < cR t ∧ i % 4 < cI t (i / 4)
    · have := hI (i / 4) c1.1
      rw [if_pos c1, if_pos ⟨by omega, by omega⟩]
      have := d (i / 4) (i % 4) c1.1 c1.2
      rw [show 4 * (i / 4) + i % 4 = i by omega] at this
      unfold soS
      rw [this]
      exact Nat.le_refl _
    · rw [if_neg c1]
      split
      · exact soS_f
      · exact Nat.le_refl _
theorem cpZ_same {s' : cS} {a : Nat} (h96 : s'.P 96 a = s.P 96 a) (hK : ∀ w, s.P 96 a = some w → s'.K w = s.K w) : cpZ s' a = cpZ s a := by
  unfold cpZ
  rw [h96]
  split
  · rfl
  · rename_i w hw
    rw [hK w hw]
theorem cpZ_fr {s' : cS} {Rv Rq : List Nat} {Gp : List (Nat × Nat)} {a : Nat} (hg : RGl G H sa x s) (f : fr Rv Gp Rq s s') (ka : (s.K a).1 = 8) (d : (96, 8) ∉ Gp) : cpZ s' a = cpZ s a := by
  refine cpZ_same (f.p ka d) fun w hw => ?_
  obtain ⟨e, -, d1, -, d2, -⟩ := hg.2.2.2.2.2.2.2.2.2.2.2.2.2.2.2.1 a ka
  have : e = w := Option.some.inj (d1.symm.trans hw)
  exact (f w (by rw [← this, d2]; decide)).1
theorem pot_le (hR : cR t ≤ cR t') (hL : cL t ≤ cL t') (hI : ∀ r, r < cR t → cI t r ≤ cI t' r) (a : ∀ r, r < cR t → pA G' r ≤ pA G r) (b : ∀ r, r < cR t → pB s' G' H' r ≤ pB s G H r) (c : ∀ l, l < cL t → plC s' G' H' l ≤ plC s G H l) (d : ∀ r p, r < cR t → p < cI t r → wkC s' (H' 86 (G' 2 (4 * r + p))) ≤ wkC s (H 86 (G 2 (4 * r + p)))) (e : dN G' t' ≤ dN G t) (z : ∀ r p, r < cR t → p < cI t r → cpZ s' (G' 2 (4 * r + p)) = cpZ s (G 2 (4 * r + p))) : PoC s' G' H' t' ≤ PoC s G H t ∧ PoS s' G' H' t' ≤ PoS s G H t := by
  have h1 : sm (fA G' t') 6 ≤ sm (fA G t) 6 := sm_le fun i _ => by
    unfold fA
    by_cases c1 : i < cR t
    · rw [if_pos c1, if_pos (by omega)]; exact a i c1
    · rw [if_neg c1]
      split
      · exact pA_f
      · exact Nat.le_refl _
  have h2 : sm (fB s' G' H' t') 6 ≤ sm (fB s G H t) 6 := sm_le fun i _ => by
    unfold fB
    by_cases c1 : i < cR t
    · rw [if_pos c1, if_pos (by omega)]; exact b i c1
    · rw [if_neg c1]
      split
      · exact pB_f
      · exact Nat.le_refl _
  have h3 : sm (fL s' G' H' t') 10 ≤ sm (fL s G H t) 10 := sm_le fun i _ => by
    unfold fL
    by_cases c1 : i < cL t
    · rw [if_pos c1, if_pos (by omega)]; exact c i c1
    · rw [if_neg c1]
      split
      · exact plC_f
      · exact Nat.le_refl _
  have h4 : sm (fW s' G' H' t') 24 ≤ sm (fW s G H t) 24 := sm_le fun i _ => by
    unfold fW
    by_cases c1 : i / 4 < cR t ∧ i % 4 < cI t (i / 4)
    · have := hI (i / 4) c1.1
      rw [if_pos c1, if_pos ⟨by omega, by omega⟩]
      have := d (i / 4) (i % 4) c1.1 c1.2
      rw [show 4 * (i / 4) + i % 4 = i by omega] at this
      exact this
    · rw [if_neg c1]
      split
      · exact wkC_f
      · exact Nat.le_refl _
  obtain ⟨h5, h6⟩ := so_le (G := G) (G' := G') (s := s) (s' := s') hR hI z
  unfold PoC PoS
  omega
/-- what a part is of the whole -/
theorem pot_p (hM : MV t) (hr : r < cR t) (hp : p < cI t r) (hl : l < cL t) : potC G r + plC s G H l + 5 * dN G t + wkC s (H 86 (G 2 (4 * r + p))) ≤ PoC s G H t ∧ potS s G H r + 2 * plC s G H l + 622 * dN G t + 792 * wkC s (H 86 (G 2 (4 * r + p))) ≤ PoS s G H t := by
  have h6 := hM.nR
  have h4 := hM.nIf hr
  have h10 : cL t ≤ 10 := hM.1.2.2.2.2.2.1.n.2.2
  have a := sm_ge (f := fA G t) (show r < 6 by omega)
  have b := sm_ge (f := fB s G H t) (show r < 6 by omega)
  have c := sm_ge (f := fL s G H t) (show l < 10 by omega)
  have d := sm_ge (f := fW s G H t) (show 4 * r + p < 24 by omega)
  have d' : fW s G H t (4 * r + p) = wkC s (H 86 (G 2 (4 * r + p))) := if_pos ⟨by omega, by rw [show (4 * r + p) / 4 = r by omega, show (4 * r + p) % 4 = p by omega]; exact hp⟩
  rw [show fA G t r = pA G r from if_pos hr] at a
  rw [show fB s G H t r = pB s G H r from if_pos hr] at b
  rw [show fL s G H t l = plC s G H l from if_pos hl] at c
  rw [d'] at d
  unfold PoC PoS
  unfold pA at a
  unfold pB at b
  omega
/-- behind a settling -/
theorem pot_set (hR : RR G H sa x s t) (hM : MV t) (hr : r < cR t) (m : mfr Wrow t t') (g1 : ∀ b, b ≠ 4 → b ≠ 13 → G' b = G b) (g2 : ∀ r', r' ≠ r → G' 13 r' = G 13 r') (hh : hA H H' s) (f : fr Rtb Ptb Qtb s s') (pp : ∀ b g, b ≠ H 186 (G 1 r) → (s.K b).1 ≠ 0 → g ≠ 166 → s'.P g b = s.P g b) (k1 : kc + potC G' r ≤ kc' + potC G r) (k2 : ks + potS s' G' H' r ≤ ks' + potS s G H r) : kc + PoC s' G' H' t' ≤ kc' + PoC s G H t ∧ ks + PoS s' G' H' t' ≤ ks' + PoS s G H t := by
  have h6 := hM.nR
  have hq := hR.q.1
  have hT := hq.ty
  have eR : cR t' = cR t := by unfold cR; rw [m.S 37 (by decide)]
  have eL : cL t' = cL t := by unfold cL; rw [m.S 17 (by decide)]
  have eI : ∀ r, cI t' r = cI t r := fun r => by unfold cI; rw [m.I 70 (by decide)]
  have eF : cF t' = cF t := by unfold cF; rw [m.S 123 (by decide)]
  have e0 : G' 0 = G 0 := g1 0 (by decide) (by decide)
  have e1 : G' 1 = G 1 := g1 1 (by decide) (by decide)
  have e2 : G' 2 = G 2 := g1 2 (by decide) (by decide)
  have e14 : G' 14 = G 14 := g1 14 (by decide) (by decide)
  have ed : dN G' t' = dN G t := by unfold dN; rw [eF, g1 12 (by decide) (by decide)]
  have k26 : ∀ r', r' < cR t → (s.K (G 1 r')).1 = 26 := fun r' hr' => (hq.rt hr').1.1
  obtain ⟨-, ⟨n186, -, -⟩, -, -⟩ := rt_two hR hr
  have k186 := (hT.p (k26 r hr) 186 27).2
  have eO : ∀ r', r' < cR t → cpO s' G' H' r' = cpO s G H r' := fun r' hr' => by
    obtain ⟨-, ⟨z1, z2, z3⟩, -, w, z4, z5⟩ := rt_two hR hr'
    have k187 := (hT.p (k26 r' hr') 187 28).2
    unfold cpO
    rw [e1, hh 187 (G 1 r') (by rw [k26 r' hr']; decide), pp _ 200 (fun e => by rw [e, k186] at k187; exact absurd k187 (by decide)) z2 (by decide), z4]
    show (s'.K w).2 = (s.K w).2
    rw [(f w z5).1]
  have eT : ∀ r', r' < cR t → r' ≠ r → cpT s' G' H' r' = cpT s G H r' := fun r' hr' hne => by
    obtain ⟨-, ⟨z1, z2, z3⟩, ⟨w, z4, z5⟩, -⟩ := rt_two hR hr'
    unfold cpT
    rw [e1, hh 186 (G 1 r') (by rw [k26 r' hr']; decide), pp _ 200 (fun e => hne (hq.2.1.2.1 r' r hr' hr (hT.i (k26 r' hr') (k26 r hr) 186 (by decide) e))) z1 (by decide), z4]
    show (s'.K w).2 = (s.K w).2
    rw [(f w z5).1]
  have a1 : sm (fA G' t') 6 + potC G r ≤ sm (fA G t) 6 + potC G' r := by
    refine sm_le1 (show r < 6 by omega) (fun i hi hne => ?_) ?_
    · unfold fA
      rw [eR]
      split
      · rename_i hi'
        unfold pA potC
        rw [g2 i hne, e14]
        exact Nat.le_refl _
      · exact Nat.le_refl _
    · rw [show fA G' t' r = pA G' r from if_pos (by rw [eR]; exact hr), show fA G t r = pA G r from if_pos hr]
      unfold pA
      rw [e14]
      omega
  have a2 : sm (fB s' G' H' t') 6 + potS s G H r ≤ sm (fB s G H t) 6 + potS s' G' H' r := by
    refine sm_le1 (show r < 6 by omega) (fun i hi hne => ?_) ?_
    · unfold fB
      rw [eR]
      split
      · rename_i hi'
        unfold pB potS
        rw [g2 i hne, e14, eO i hi', eT i hi' hne]
        exact Nat.le_refl _
      · exact Nat.le_refl _
    · rw [show fB s' G' H' t' r = pB s' G' H' r from if_pos (by rw [eR]; exact hr), show fB s G H t r = pB s G H r from if_pos hr]
      unfold pB
      rw [e14, eO r hr]
      omega
  have a3 : sm (fL s' G' H' t') 10 ≤ sm (fL s G H t) 10 := sm_le fun i _ => by
    unfold fL
    rw [eL]
    split
    · rename_i hi
      have k7 := (hq.2.2.2.1 i hi).1.1
      have e67 : H' 67 (G 0 i) = H 67 (G 0 i) := hh 67 _ (by rw [k7]; decide)
      have := plC_fr hq hi f rfl
      unfold plC at this ⊢
      rw [e0, e67]
      omega
    · exact Nat.le_refl _
  have a4 : sm (fW s' G' H' t') 24 ≤ sm (fW s G H t) 24 := sm_le fun i _ => by
    unfold fW
    rw [eR, eI]
    split
    · rename_i hi
      have k8 := (hq.po hi.1 hi.2).1.1
      rw [show 4 * (i / 4) + i % 4 = i by omega] at k8
      have k4 := (hT.p k8 86 4).2
      rw [e2, hh 86 _ (by rw [k8]; decide)]
      unfold wkC
      rw [pp _ 28 (fun e => by rw [e, k186] at k4; exact absurd k4 (by decide)) (by rw [k4]; decide) (by decide)]
      exact Nat.le_refl _
    · exact Nat.le_refl _
  obtain ⟨a5, a6⟩ := so_le (t := t) (t' := t') (G := G) (G' := G') (s := s) (s' := s') (by rw [eR]; exact Nat.le_refl _) (fun r _ => by rw [eI]; exact Nat.le_refl _) (fun r p hr hp => by
    rw [e2]
    exact cpZ_fr hq.1 f (hq.po hr hp).1.1 (by decide))
  unfold PoC PoS
  rw [ed]
  omega
/-- behind a datagram that was sent -/
theorem pot_ask (hR : RR G H sa x s t) (hM : MV t) (hr : r < cR t) (hp : p < cI t r) (hl : l < cL t) (hc : c = H 86 (G 2 (4 * r + p))) (m : mfr Wsd t t') (g1 : ∀ b, b ≠ 11 → b ≠ 12 → G' b = G b) (hh : hA H H' s) (f : fr Ras Pas Qfl s s') (pl : ∀ i, i < cL t → i ≠ l → plC s' G H i = plC s G H i) (pp : ∀ a, okO s 1 a → a ≠ c → s'.P 28 a = s.P 28 a) (k1 : kc + plC s' G H l + 5 * dN G' t' + wkC s' c ≤ kc' + plC s G H l + 5 * dN G t + wkC s c) (k2 : ks + 2 * plC s' G H l + 622 * dN G' t' + 792 * wkC s' c ≤ ks' + 2 * plC s G H l + 622 * dN G t + 792 * wkC s c) : kc + PoC s' G' H' t' ≤ kc' + PoC s G H t ∧ ks + PoS s' G' H' t' ≤ ks' + PoS s G H t := by
  have h6 := hM.nR
  have h4 := hM.nIf hr
  have h10 : cL t ≤ 10 := hM.1.2.2.2.2.2.1.n.2.2
  have hq := hR.q.1
  have hT := hq.ty
  have eR : cR t' = cR t := by unfold cR; rw [m.S 37 (by decide)]
  have eL : cL t' = cL t := by unfold cL; rw [m.S 17 (by decide)]
  have eI : ∀ r, cI t' r = cI t r := fun r => by unfold cI; rw [m.I 70 (by decide)]
  have e0 : G' 0 = G 0 := g1 0 (by decide) (by decide)
  have e1 : G' 1 = G 1 := g1 1 (by decide) (by decide)
  have e2 : G' 2 = G 2 := g1 2 (by decide) (by decide)
  have e13 : G' 13 = G 13 := g1 13 (by decide) (by decide)
  have e14 : G' 14 = G 14 := g1 14 (by decide) (by decide)
  have k26 : ∀ r', r' < cR t → (s.K (G 1 r')).1 = 26 := fun r' hr' => (hq.rt hr').1.1
  have ep : ∀ i, i < cL t → plC s' G' H' i = plC s' G H i := fun i hi => by
    have k7 := (hq.2.2.2.1 i hi).1.1
    unfold plC
    rw [e0, hh 67 _ (by rw [k7]; decide)]
  have eB : ∀ r', r' < cR t → pB s' G' H' r' = pB s G H r' := fun r' hr' => by
    obtain ⟨-, ⟨z1, z2, z3⟩, ⟨w, z4, z5⟩, w', z6, z7⟩ := rt_two hR hr'
    have k187 := (hT.p (k26 r' hr') 187 28).2
    have k186 := (hT.p (k26 r' hr') 186 27).2
    unfold pB potS cpO cpT
    rw [e1, e13, e14, hh 187 (G 1 r') (by rw [k26 r' hr']; decide), hh 186 (G 1 r') (by rw [k26 r' hr']; decide), f.p k187 (by decide), f.p k186 (by decide), z4, z6]
    show _ + (_ - 2 * (s'.K w).2) + (_ + (_ - 2 * (s'.K w').2)) = _ + (_ - 2 * (s.K w).2) + (_ + (_ - 2 * (s.K w').2))
    rw [(f w z5).1, (f w' z7).1]
  have a1 : sm (fA G' t') 6 ≤ sm (fA G t) 6 := sm_le fun i _ => by
    unfold fA pA potC
    rw [eR, e13, e14]
    exact Nat.le_refl _
  have a2 : sm (fB s' G' H' t') 6 ≤ sm (fB s G H t) 6 := sm_le fun i _ => by
    unfold fB
    rw [eR]
    split
    · rename_i hi
      rw [eB i hi]
      exact Nat.le_refl _
    · exact Nat.le_refl _
  have a3 : sm (fL s' G' H' t') 10 + plC s G H l ≤ sm (fL s G H t) 10 + plC s' G H l := by
    refine sm_le1 (show l < 10 by omega) (fun i hi hne => ?_) ?_
    · unfold fL
      rw [eL]
      split
      · rename_i hi'
        rw [ep i hi', pl i hi' hne]
        exact Nat.le_refl _
      · exact Nat.le_refl _
    · rw [show fL s' G' H' t' l = plC s' G' H' l from if_pos (by rw [eL]; exact hl), show fL s G H t l = plC s G H l from if_pos hl, ep l hl]
      omega
  have a4 : sm (fW s' G' H' t') 24 + wkC s c ≤ sm (fW s G H t) 24 + wkC s' c := by
    refine sm_le1 (show 4 * r + p < 24 by omega) (fun i hi hne => ?_) ?_
    · unfold fW
      rw [eR, eI]
      split
      · rename_i hi'
        have hP := (hq.po hi'.1 hi'.2).1.1
        have k8 := hP
        rw [show 4 * (i / 4) + i % 4 = i by omega] at k8
        have k4 := (hT.p k8 86 4).2
        rw [e2, hh 86 _ (by rw [k8]; decide)]
        unfold wkC
        rw [pp _ (okr k4 1) (fun e => ?_)]
        · exact Nat.le_refl _
        · have k8' := (hq.po hr hp).1.1
          have e3 := hT.i k8 k8' 86 (by decide) (e.trans hc)
          have := hq.2.1.2.2.1 (i / 4) r (i % 4) p hi'.1 hr hi'.2 hp (by rw [show 4 * (i / 4) + i % 4 = i by omega]; exact e3)
          omega
      · exact Nat.le_refl _
    · have k8' := (hq.po hr hp).1.1
      have x1 : fW s' G' H' t' (4 * r + p) = wkC s' c := by
        unfold fW
        rw [eR, eI, if_pos ⟨by omega, by rw [show (4 * r + p) / 4 = r by omega, show (4 * r + p) % 4 = p by omega]; exact hp⟩, e2, hh 86 _ (by rw [k8']; decide), hc]
      have x2 : fW s G H t (4 * r + p) = wkC s c := by
        unfold fW
        rw [if_pos ⟨by omega, by rw [show (4 * r + p) / 4 = r by omega, show (4 * r + p) % 4 = p by omega]; exact hp⟩, hc]
      omega
  obtain ⟨a5, a6⟩ := so_le (t := t) (t' := t') (G := G) (G' := G') (s := s) (s' := s') (by rw [eR]; exact Nat.le_refl _) (fun r _ => by rw [eI]; exact Nat.le_refl _) (fun r p hr hp => by
    rw [e2]
    exact cpZ_fr hq.1 f (hq.po hr hp).1.1 (by decide))
  unfold PoC PoS
  omega
end Pt
