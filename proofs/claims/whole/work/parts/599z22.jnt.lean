/-! An interface joined: what is due. -/
abbrev Wjn : List Nat := [70, 71, 72, 73, 74, 75, 76, 77, 78, 79, 80, 81, 82, 83, 84, 85, 86, 87, 88]
def eqA (t t1 : moS) (y : Nat) : Prop := t1.I 75 y = t.I 75 y ∧ t1.J 76 y = t.J 76 y ∧ t1.J 77 y = t.J 77 y ∧ t1.I 78 y = t.I 78 y
/-- interface p of router r is another, or is new -/
def jnT (r p : Nat) (t t1 : moS) : Prop := mfr Wjn t t1 ∧ (∀ r', r' ≠ r → t1.I 70 r' = t.I 70 r') ∧ p < cI t1 r ∧ (cI t1 r = cI t r ∨ cI t r = p ∧ cI t1 r = p + 1) ∧ (∀ i, i ≠ 4 * r + p → t1.I 71 i = t.I 71 i ∧ t1.I 72 i = t.I 72 i) ∧ (p < cI t r → t1.I 71 (4 * r + p) = t.I 71 (4 * r + p)) ∧ (∀ y, y ≠ 2 * (4 * r + p) → y ≠ 2 * (4 * r + p) + 1 → eqA t t1 y) ∧ ∀ f, f < 2 → p < cI t r → t.I 75 (2 * (4 * r + p) + f) ≠ 0 → eqA t t1 (2 * (4 * r + p) + f)
section Jn
variable {r p r' : Nat} {t t1 : moS} {O : List Pf} {P : Pf}
theorem jn_up (c : jnT r p t t1) {p' : Nat} {f n : Int32} {h l : Int64} (hf : f = 0 ∨ f = 1) (hne : 4 * r' + p' ≠ 4 * r + p) : upN t1 r' p' f h l n ↔ upN t r' p' f h l n := by
  obtain ⟨m, -, -, -, m1, -, m5, -⟩ := c
  have hf' : f.toNatClampNeg < 2 := by rcases hf with e | e <;> rw [e] <;> decide
  obtain ⟨a1, a2, a3, a4⟩ := m5 (2 * (4 * r' + p') + f.toNatClampNeg) (by omega) (by omega)
  unfold upN
  rw [m.I 22 (by decide), (m1 _ hne).1, a1, a2, a3, a4]
theorem jn_dF {f n : Int32} {h l : Int64} (c : jnT r p t t1) (hf : f = 0 ∨ f = 1) (h1 : ¬ upN t1 r p f h l n) (h2 : p < cI t r → ¬ upN t r p f h l n) : dF t1 r (f, h, l, n) = dF t r (f, h, l, n) := by
  have eu : ∀ p', p' ≠ p → (upN t1 r p' f h l n ↔ upN t r p' f h l n) := fun p' hp' => jn_up c hf (by omega)
  obtain ⟨m, -, hp1, hc, m1, -, -, -⟩ := c
  have key : ∀ dk dm di dt, isDu t1 r f h l n dk dm di dt ↔ isDu t r f h l n dk dm di dt := fun dk dm di dt => by
    have ek : ∀ k, kyS t1 (32 * r + k) = kyS t (32 * r + k) := fun k => by
      unfold kyS
      rw [m.I 47 (by decide), m.I 50 (by decide), m.J 48 (by decide), m.J 49 (by decide)]
    have es : cSt t1 r = cSt t r := by unfold cSt; rw [m.I 46 (by decide)]
    have lt1 : ∀ p', p' < cI t1 r → p' ≠ p → p' < cI t r := fun p' a b => by omega
    have lt2 : ∀ p', p' < cI t r → p' < cI t1 r := fun p' a => by omega
    unfold isDu
    rw [es, m.I 51 (by decide), m.I 52 (by decide)]
    simp only [ek]
    constructor
    · rintro (⟨p', a1, a2, a3, a4, a5, a6, a7⟩ | ⟨a0, a1⟩)
      · have np : p' ≠ p := fun e => h1 (by rw [← e]; exact a2)
        refine Or.inl ⟨p', lt1 p' a1 np, (eu p' np).mp a2, fun q hq z => ?_, a4, by rw [a5, (m1 _ (by omega)).2], a6, a7⟩
        by_cases cq : q = p
        · have := lt1 p' a1 np
          exact h2 (by omega) (by rw [← cq]; exact z)
        · exact a3 q hq ((eu q cq).mpr z)
      · refine Or.inr ⟨fun q hq z => ?_, a1⟩
        by_cases cq : q = p
        · exact h2 (by omega) (by rw [← cq]; exact z)
        · exact a0 q (lt2 q hq) ((eu q cq).mpr z)
    · rintro (⟨p', a1, a2, a3, a4, a5, a6, a7⟩ | ⟨a0, a1⟩)
      · have np : p' ≠ p := fun e => h2 (by omega) (by rw [← e]; exact a2)
        refine Or.inl ⟨p', lt2 p' a1, (eu p' np).mpr a2, fun q hq z => ?_, a4, by rw [a5, (m1 _ (by omega)).2], a6, a7⟩
        by_cases cq : q = p
        · exact h1 (by rw [← cq]; exact z)
        · exact a3 q hq ((eu q cq).mp z)
      · refine Or.inr ⟨fun q hq z => ?_, a1⟩
        by_cases cq : q = p
        · exact h1 (by rw [← cq]; exact z)
        · exact a0 q (lt1 q hq cq) ((eu q cq).mp z)
  by_cases c : ∃ q : DU, isDu t r f h l n q.1 q.2.1 q.2.2.1 q.2.2.2
  · obtain ⟨q, hq⟩ := c
    rw [dF_some hq, dF_some ((key _ _ _ _).mpr hq)]
  · unfold dF
    rw [dif_neg c, dif_neg]
    rintro ⟨q, hq⟩
    exact c ⟨q, (key _ _ _ _).mp hq⟩
theorem jn_dFo {f n : Int32} {h l : Int64} (c : jnT r p t t1) (hp4 : p < 4) (hM : MV t) (hr' : r' < cR t) (hf : f = 0 ∨ f = 1) (hne : r' ≠ r) : dF t1 r' (f, h, l, n) = dF t r' (f, h, l, n) := by
  have h4 := hM.nIf hr'
  have eu : ∀ p', p' < cI t r' → (upN t1 r' p' f h l n ↔ upN t r' p' f h l n) := fun p' hp' => jn_up c hf (by omega)
  obtain ⟨m, m70, hp1, hc, m1, -, -, -⟩ := c
  have ei : cI t1 r' = cI t r' := by unfold cI; rw [m70 r' hne]
  have key : ∀ dk dm di dt, isDu t1 r' f h l n dk dm di dt ↔ isDu t r' f h l n dk dm di dt := fun dk dm di dt => by
    have ek : ∀ k, kyS t1 (32 * r' + k) = kyS t (32 * r' + k) := fun k => by
      unfold kyS
      rw [m.I 47 (by decide), m.I 50 (by decide), m.J 48 (by decide), m.J 49 (by decide)]
    have es : cSt t1 r' = cSt t r' := by unfold cSt; rw [m.I 46 (by decide)]
    unfold isDu
    rw [es, ei, m.I 51 (by decide), m.I 52 (by decide)]
    simp only [ek]
    constructor
    · rintro (⟨p', a1, a2, a3, a4, a5, a6, a7⟩ | ⟨a0, a1⟩)
      · exact Or.inl ⟨p', a1, (eu p' a1).mp a2, fun q hq z => a3 q hq ((eu q (by omega)).mpr z), a4, by rw [a5, (m1 _ (by omega)).2], a6, a7⟩
      · exact Or.inr ⟨fun q hq z => a0 q hq ((eu q hq).mpr z), a1⟩
    · rintro (⟨p', a1, a2, a3, a4, a5, a6, a7⟩ | ⟨a0, a1⟩)
      · exact Or.inl ⟨p', a1, (eu p' a1).mpr a2, fun q hq z => a3 q hq ((eu q (by omega)).mp z), a4, by rw [a5, (m1 _ (by omega)).2], a6, a7⟩
      · exact Or.inr ⟨fun q hq z => a0 q hq ((eu q hq).mp z), a1⟩
  by_cases c : ∃ q : DU, isDu t r' f h l n q.1 q.2.1 q.2.2.1 q.2.2.2
  · obtain ⟨q, hq⟩ := c
    rw [dF_some hq, dF_some ((key _ _ _ _).mpr hq)]
  · unfold dF
    rw [dif_neg c, dif_neg]
    rintro ⟨q, hq⟩
    exact c ⟨q, (key _ _ _ _).mp hq⟩
theorem jn_upL {f n : Int32} {h l : Int64} (hf : f = 0 ∨ f = 1) (z : upN t1 r p f h l n) : (f, h, l, n) ∈ L2M t1 r 2 (2 * p) := by
  obtain ⟨-, z1, z2, z3, z4⟩ := z
  obtain ⟨k, e, hk⟩ : ∃ k, f.toNatClampNeg = k ∧ k < 2 ∧ f = nI k := by
    rcases hf with e | e
    · exact ⟨0, by rw [e]; rfl, by decide, by rw [e]; rfl⟩
    · exact ⟨1, by rw [e]; rfl, by decide, by rw [e]; rfl⟩
  rw [e, show 2 * (4 * r + p) + k = 8 * r + (2 * p + k) by omega] at z1 z2 z3 z4
  refine (L2M_m _ _).mpr ⟨2 * p + k, by omega, by omega, z1, ?_⟩
  unfold neP
  rw [z2, z3, z4, show (2 * p + k) % 2 = k by omega, ← hk.2]
theorem jn_up2 (c : jnT r p t t1) {f n : Int32} {h l : Int64} (hf : f = 0 ∨ f = 1) (hp : p < cI t r) (z : upN t r p f h l n) : upN t1 r p f h l n := by
  obtain ⟨m, -, -, -, m1, m2, m5, m6⟩ := c
  have hf' : f.toNatClampNeg < 2 := by rcases hf with e | e <;> rw [e] <;> decide
  obtain ⟨z0, z1, z2, z3, z4⟩ := z
  obtain ⟨a1, a2, a3, a4⟩ := m6 f.toNatClampNeg hf' hp z1
  exact ⟨by rw [m.I 22 (by decide), m2 hp]; exact z0, by rw [a1]; exact z1, by rw [a4]; exact z2, by rw [a2]; exact z3, by rw [a3]; exact z4⟩
theorem al_jn (hM : MV t) (hM1 : MV t1) (hr' : r' < cR t) (m : mfr Wjn t t1) : al t1 r' = al t r' :=
  al_eq hM hM1 hr' (by unfold cR; rw [m.S 37 (by decide)]; exact hr') (by unfold cN; rw [m.I 105 (by decide)]) (fun g hg j _ => by rw [m.I g (by revert hg; revert g; decide)]) (fun g hg j _ => by rw [m.J g (by revert hg; revert g; decide)]) (by rw [m.I 45 (by decide)]) (by rw [m.I 44 (by decide)])
theorem cov_jn (hM : MV t) (hM1 : MV t1) (hr' : r' < cR t) (m : mfr Wjn t t1) (se : SEt t r') (hP : lnOk P.1 P.2.2.2) (e : dF t1 r' P = dF t r' P) : stM t1 r' P (al t1 r') = al t1 r' := by
  have := se P hP
  have ea := al_jn hM hM1 hr' m
  show st1 (dF t1 r') (tgM t1 r') (g0M t1 r') P (al t1 r') = al t1 r'
  rw [ea]
  unfold st1
  rw [e]
  unfold tgM g0M
  rw [m.S 1 (by decide), m.I 42 (by decide), m.I 45 (by decide)]
  exact this
theorem lnf {f n : Int32} (h : lnOk f n) : f = 0 ∨ f = 1 := h.1
theorem EXr.jn (h : EXr O t r') (hM : MV t) (hM1 : MV t1) (hr' : r' < cR t) (c : jnT r p t t1) (hp4 : p < 4) (hne : r' ≠ r) : EXr O t1 r' := by
  have h4 := hM.nIf hr'
  have ed : ∀ P : Pf, lnOk P.1 P.2.2.2 → dF t1 r' P = dF t r' P := fun P hP => by
    obtain ⟨f, hh, l, n⟩ := P
    exact jn_dFo c hp4 hM hr' (lnf hP) hne
  obtain ⟨m, m70, hp1, hc, m1, -, m5, -⟩ := c
  have ei : cI t1 r' = cI t r' := by unfold cI; rw [m70 r' hne]
  have ec : cSt t1 r' = cSt t r' := by unfold cSt; rw [m.I 46 (by decide)]
  have en : cN t1 r' = cN t r' := by unfold cN; rw [m.I 105 (by decide)]
  obtain ⟨⟨o1, o2, D0, D1, l0, l1, hr⟩, se, px⟩ := h
  refine ⟨⟨?_, ?_, D0, D1, l0, l1, ?_⟩, fun z P hP => ?_, ?_⟩
  · rw [ec]; unfold stP; rw [m.I 47 (by decide), m.J 48 (by decide), m.J 49 (by decide), m.I 50 (by decide)]; exact o1
  · rw [ei]
    intro y hy hz
    obtain ⟨a1, a2, a3, a4⟩ := m5 (8 * r' + y) (by omega) (by omega)
    rw [a1] at hz
    have := o2 y hy hz
    unfold neP at this ⊢
    rw [a2, a3, a4]
    exact this
  · rw [en]; unfold pfR at hr ⊢; rw [m.I 106 (by decide), m.I 109 (by decide), m.J 107 (by decide), m.J 108 (by decide)]; exact hr
  · rw [m.I 39 (by decide)] at z
    exact cov_jn hM hM1 hr' m (se z) hP (ed P hP)
  · rw [ec, m.J 48 (by decide), m.J 49 (by decide), m.I 50 (by decide)]; exact px
end Jn
