/-! Changes are forgotten: both sides. -/
def vF (a b : Option NV) : Prop := a = b ∨ ∃ w w' : NV, a = some w ∧ b = some w' ∧ w' = (w.1, w.2.1, w.2.2.1, w.2.2.2.1, w'.2.2.2.2.1, w.2.2.2.2.2)
/-- only flags of rows are others -/
def fR (r : Nat) (t t' : moS) : Prop := rwT r t t' ∧ t'.J = t.J ∧ t'.I 105 = t.I 105 ∧ (∀ g, g ∈ fRI → g ≠ 119 → t'.I g = t.I g)
section Fg
variable {G H : Nat → Nat → Nat} {sa : Nat → Nat} {x r w a k j kc ks : Nat} {s s' : cS} {t t1 t' : moS} {P : Pf} {O : List Pf}
theorem fR.rf : fR r t t := ⟨rwT.rf, rfl, rfl, fun _ _ _ => rfl⟩
theorem fR.tr (h : fR r t t1) (g : fR r t1 t') : fR r t t' := ⟨h.1.tr g.1, g.2.1.trans h.2.1, g.2.2.1.trans h.2.2.1, fun y h1 h2 => (g.2.2.2 y h1 h2).trans (h.2.2.2 y h1 h2)⟩
theorem fR.v (c : fR r t t') (hM : MV t) (hM' : MV t') (hr : r < cR t) (hr' : r < cR t') : vF (Vt t r P) (Vt t' r P) := by
  obtain ⟨-, a2, a3, a4⟩ := c
  have hn : cN t' r = cN t r := by unfold cN; rw [a3]
  have ep : ∀ k, pfR t' k = pfR t k := fun k => by
    unfold pfR
    rw [a4 106 (by decide) (by decide), a4 109 (by decide) (by decide), a2]
  by_cases c : ∃ j, j < cN t r ∧ pfR t (2700 * r + j) = P
  · obtain ⟨j, h1, h2⟩ := c
    rw [Vt_some hM hr h1 h2, Vt_some hM' hr' (j := j) (by rw [hn]; exact h1) (by rw [ep]; exact h2)]
    refine Or.inr ⟨_, _, rfl, rfl, ?_⟩
    unfold rvN
    rw [a2, a4 110 (by decide) (by decide), a4 111 (by decide) (by decide), a4 112 (by decide) (by decide), a4 113 (by decide) (by decide), a4 120 (by decide) (by decide), a4 121 (by decide) (by decide), a4 122 (by decide) (by decide)]
  · left
    rw [Vt_none (t := t) (fun j h1 h2 => c ⟨j, h1, h2⟩), Vt_none (t := t')]
    intro j h1 h2
    rw [hn] at h1
    rw [ep] at h2
    exact c ⟨j, h1, h2⟩
theorem stp_vF {d : Option DU} {a b : Option NV} (h : stp 0 d a = (a, false)) (v : vF a b) : stp 0 d b = (b, false) := by
  rcases v with e | ⟨w, w', e1, e2, e3⟩
  · rw [← e]; exact h
  · subst e1 e2
    have q1 : w'.1 = w.1 := by rw [e3]
    cases d with
    | none =>
      have h : (if w.1 = 2 then (some w, false) else _) = (some w, false) := h
      show (if w'.1 = 2 then (some w', false) else _) = _
      by_cases c : w.1 = 2
      · rw [if_pos (by rw [q1]; exact c)]
      · rw [if_neg c] at h
        exact absurd (show true = false from congrArg Prod.snd h) (by decide)
    | some y =>
      have h : (if ownS y w then (some (ownV y w.2.2.2.2.1), false) else (some (ownV y 1), true)) = (some w, false) := h
      show (if ownS y w' then (some (ownV y w'.2.2.2.2.1), false) else (some (ownV y 1), true)) = (some w', false)
      by_cases c : ownS y w
      · rw [if_pos c] at h
        have ew : ownV y w.2.2.2.2.1 = w := Option.some.inj (congrArg Prod.fst h)
        have ew' : w' = ownV y w'.2.2.2.2.1 := by
          rw [e3, ← ew]
          rfl
        rw [if_pos (by rw [ew']; exact ownV_s y _), ← ew']
      · rw [if_neg c] at h
        exact absurd (show true = false from congrArg Prod.snd h) (by decide)
theorem EXr.fg (h : EXr O t r) (c : fR r t t') (hM : MV t) (hM' : MV t') (hr : r < cR t) (hr' : r < cR t') : EXr O t' r := by
  have m := c.1.1
  have ed := dF_fr (r := r) m
  have hv := fun (P : Pf) => c.v (P := P) hM hM' hr hr'
  obtain ⟨-, a2, a3, a4⟩ := c
  have e1 : cSt t' r = cSt t r := by unfold cSt; rw [m.I 46 (by decide)]
  have e2 : cI t' r = cI t r := by unfold cI; rw [m.I 70 (by decide)]
  have e3 : cN t' r = cN t r := by unfold cN; rw [a3]
  obtain ⟨⟨o1, o2, D0, D1, l0, l1, hrow⟩, se, px⟩ := h
  refine ⟨⟨?_, ?_, D0, D1, l0, l1, ?_⟩, fun z => se_iff.mpr fun P hP => ?_, ?_⟩
  · rw [e1]; unfold stP at o1 ⊢; rw [m.I 47 (by decide), a2, m.I 50 (by decide)]; exact o1
  · rw [e2]; unfold neP at o2 ⊢; rw [m.I 75 (by decide), a2, m.I 78 (by decide)]; exact o2
  · rw [e3]; unfold pfR at hrow ⊢; rw [a4 106 (by decide) (by decide), a4 109 (by decide) (by decide), a2]; exact hrow
  · rw [m.I 39 (by decide)] at z
    rw [ed]
    exact stp_vF (se_iff.mp (se z) P hP) (hv P)
  · rw [e1, a2, m.I 50 (by decide)]; exact px
/-- a row's flag -/
theorem rr_119 (h : RR G H sa x s t) (hM : MV t) (hr : r < cR t) (hj : j < cN t r) (ea : a = G 4 (2700 * r + j)) (ek : k = 2700 * r + j) : RR G H sa x (cSI s 167 a 0) (moSI t 119 k 0) ∧ MV (moSI t 119 k 0) ∧ fR r t (moSI t 119 k 0) := by
  subst ek
  have h6 := hM.nR
  have hn := hM.nRo hr
  have hq := h.q.1
  have hT := hq.ty
  obtain ⟨b0, b1, b2⟩ := hq.tb hr
  obtain ⟨c1, c2, c3, w, cap, d1, d2, d3, d4, d5, d6, d7, d8⟩ := id b0
  have k1 := (hq.rt hr).1.1
  have ka : (s.K a).1 = 23 := by rw [ea]; exact (d6 j (by omega)).2
  have kw : (s.K w).1 = 135 := by rw [d2]
  have k9 := (hT.p ka 160 9).2
  have k10 := (hT.p ka 161 10).2
  have k11 := (hT.p ka 162 11).2
  have ktb := (hT.p k1 186 27).2
  have hra : G 1 r ≠ a := ne_ro k1 ka
  have sI : ∀ g b, (cSI s 167 a 0).I g b = if g = 167 ∧ b = a then 0 else s.I g b := fun g b => evI
  have c : rwC G H r a w s (cSI s 167 a 0) := rwC.i (Or.inr (Or.inl rfl))
  have oI : ∀ g b, b ≠ a → b ≠ G 1 r → (cSI s 167 a 0).I g b = s.I g b := fun g b h1 h2 => by rw [sI, if_neg (fun z => h1 z.2)]
  have iR : ∀ g, g ≠ 199 → (cSI s 167 a 0).I g (G 1 r) = s.I g (G 1 r) := fun g hg => by rw [sI, if_neg (fun z => hra z.2)]
  have i199 : (cSI s 167 a 0).I 199 (G 1 r) = s.I 199 (G 1 r) := by rw [sI, if_neg (fun z => hra z.2)]
  have ia : ∀ g, g ≠ 167 → (cSI s 167 a 0).I g a = s.I g a := fun g h1 => by rw [sI, if_neg (fun z => h1 z.1)]
  have nK : (cSI s 167 a 0).K = s.K := rfl
  have hRW := b1 j hj
  rw [← ea] at hRW
  have hm := (hM.r hr).w hj
  have mI : ∀ g i, (moSI t 119 (2700 * r + j) 0).I g i = if g = 119 ∧ i = 2700 * r + j then 0 else t.I g i := fun g i => evMI
  have hb : 2700 * r ≤ 2700 * r + j ∧ 2700 * r + j < 2700 * r + 2700 := by omega
  have ct : rwT r t (moSI t 119 (2700 * r + j) 0) := rwT.i (by decide) hb
  have mo : ∀ g, g ≠ 119 → (moSI t 119 (2700 * r + j) 0).I g (2700 * r + j) = t.I g (2700 * r + j) := fun g h1 => by rw [mI, if_neg (fun z => h1 z.1)]
  have m19 : (moSI t 119 (2700 * r + j) 0).I 119 (2700 * r + j) = 0 := by rw [mI, if_pos ⟨rfl, rfl⟩]
  have fr1 : fR r t (moSI t 119 (2700 * r + j) 0) := ⟨ct, rfl, moSI_n (by decide), fun g _ h2 => moSI_n (fun z => h2 z)⟩
  have mJ : (moSI t 119 (2700 * r + j) 0).J = t.J := rfl
  generalize moSI t 119 (2700 * r + j) 0 = t' at mI ct mo m19 fr1 mJ
  have main := rr_at (s' := cSI s 167 a 0) (t' := t') h hM hr hj ea d1 c rfl (oI 201 _ (ne_ro ktb ka) (ne_ro ktb k1)) ct (by rw [mI, if_neg (by omega)]) ⟨iR 190 (by decide), iR 192 (by decide)⟩ (rt_keep (hq.rt hr) hq hr c ka kw iR rfl ct.1 (by rw [mI, if_neg (by omega)]) fun i _ => by rw [mI, if_neg (by omega)]) (by rw [i199]; exact Int32.lt_irrefl) (fun g hg i hi => by rw [mI, if_neg (fun z => hi z.2)]) (fun g hg i hi => by rw [mJ]) ?_ (fun z => ?_) ?_ ?_
  · exact ⟨main.1, main.2, fr1⟩
  · unfold RW PF at hRW ⊢
    obtain ⟨⟨e1, e2, e3, e4⟩, ⟨e5, e6, e7, e8⟩, e9, ⟨e10, e11, e12⟩, e13, e14, e15⟩ := hRW
    rw [mJ, mo 106 (by decide), mo 109 (by decide), mo 110 (by decide), mo 111 (by decide), mo 112 (by decide), mo 113 (by decide), m19, mo 120 (by decide), mo 121 (by decide), mo 122 (by decide), oI 100 _ (ne_ro k9 ka) (ne_ro k9 k1), oI 103 _ (ne_ro k9 ka) (ne_ro k9 k1), oI 100 _ (ne_ro k10 ka) (ne_ro k10 k1), oI 100 _ (ne_ro k11 ka) (ne_ro k11 k1), ia 163 (by decide), ia 164 (by decide), ia 165 (by decide), ia 168 (by decide), ia 169 (by decide), ia 170 (by decide)]
    exact ⟨⟨e1, e2, e3, e4⟩, ⟨e5, e6, e7, cSI_s⟩, e9, ⟨e10, e11, e12⟩, e13, e14, e15⟩
  · rw [ia 170 (by decide), i199]
    rw [mo 110 (by decide)] at z
    rw [ea]
    exact b2 j hj z
  · unfold kyR
    rw [mo 106 (by decide), mo 109 (by decide), mJ]
  · have ei : cI t' r = cI t r := by unfold cI; rw [ct.1.I 70 (by decide)]
    obtain ⟨e1, e2, e3, e4, e5, e6, e7, e8, e9, e10, e11, e12⟩ := hm
    unfold mRw
    rw [ei, mJ, mo 106 (by decide), mo 109 (by decide), mo 110 (by decide), mo 111 (by decide), mo 112 (by decide), mo 113 (by decide), mo 116 (by decide), m19]
    exact ⟨e1, e2, e3, e4, e5, e6, e7, e8, e9, Or.inl rfl, e11, e12⟩
end Fg
