/-! The sources of an interface: the relation behind. -/
section Fe
variable {G H : Nat → Nat → Nat} {sa : Nat → Nat} {x r p v1 v2 cp i n' : Nat} {s s4 : cS} {t t' : moS} {a nu : Int32}
theorem rso_same {q : Nat} {s' : cS} (h : RSo G s t q) (e98 : s'.I 98 (G 2 q) = s.I 98 (G 2 q)) (e96 : s'.P 96 (G 2 q) = s.P 96 (G 2 q)) (e97 : s'.P 97 (G 2 q) = s.P 97 (G 2 q)) (eK : ∀ w, (s.K w).1 ≠ 0 → s'.K w = s.K w) (eE : ∀ w, s.P 96 (G 2 q) = some w ∨ s.P 97 (G 2 q) = some w → s'.E w = s.E w) (em : msL t' q = msL t q) (e3 : ∀ k, k ∈ msL t q → t'.J 103 k = t.J 103 k ∧ t'.J 104 k = t.J 104 k) : RSo G s' t' q := by
  obtain ⟨z, w1, w2, cap, y1, y2, y3, y4, y5, y6, y7, y8⟩ := h
  unfold RSo
  rw [em, e98, e96, e97]
  refine ⟨z, w1, w2, cap, y1, y2, (eK w1 (by rw [y3]; show 115 ≠ 0; decide)).trans y3, (eK w2 (by rw [y4]; show 120 ≠ 0; decide)).trans y4, y5, y6, y7, fun i hi => ?_⟩
  obtain ⟨b1, b2⟩ := e3 _ (gd_mem hi)
  rw [eE w1 (Or.inl y1), eE w2 (Or.inr y2), b1, b2]
  exact y8 i hi
theorem frs_end (hR : RR G H sa x s t) (hM : MV t) (hr : r < cR t) (hp : p < cI t r) (hg4 : RGl G H sa x s4) (f4 : fr [] [(96, 8), (97, 8)] [] s s4) (hI4 : ∀ g b, (s.K b).1 = 8 → s4.I g b = s.I g b) (o4 : ∀ b, (s.K b).1 = 8 → b ≠ G 2 (4 * r + p) → s4.P 96 b = s.P 96 b ∧ s4.P 97 b = s.P 97 b) (p1 : s4.P 96 (G 2 (4 * r + p)) = some v1) (p2 : s4.P 97 (G 2 (4 * r + p)) = some v2) (k1 : s4.K v1 = (115, cp)) (k2 : s4.K v2 = (120, cp)) (hc4 : 4 ≤ cp) (hc8 : cp ≤ 8192) (m : mfr [101, 102, 103, 104] t t') (hl : (msL t' (4 * r + p)).length = n') (hn : n' ≤ cp)
    (vals : ∀ j, j < n' → (if j = i then a else s4.E v1 j) = (ush (t'.J 103 ((msL t' (4 * r + p)).getD j 0)) 32).toInt32 ∧ (if j = i then nu else s4.E v2 j) = (t'.J 104 ((msL t' (4 * r + p)).getD j 0)).toInt32)
    (oth : ∀ q', q' < 24 → q' ≠ 4 * r + p → msL t' q' = msL t q' ∧ ∀ k, k ∈ msL t q' → t'.J 103 k = t.J 103 k ∧ t'.J 104 k = t.J 104 k) : RR G H sa x (cSI (cSE (cSE s4 v1 i a) v2 i nu) 98 (G 2 (4 * r + p)) (nI n')) t' ∧ fr [8, 115, 120] [(96, 8), (97, 8)] [] s (cSI (cSE (cSE s4 v1 i a) v2 i nu) 98 (G 2 (4 * r + p)) (nI n')) ∧ ∀ g b, (s.K b).1 = 8 → g ≠ 98 → (cSI (cSE (cSE s4 v1 i a) v2 i nu) 98 (G 2 (4 * r + p)) (nI n')).I g b = s.I g b := by
  have h6 := hM.nR
  have kc : (s.K (G 2 (4 * r + p))).1 = 8 := ((hR.q.1.2.2.2.2.2.1 r hr).2.2.2.2.2.2 p hp).1.1
  have kc4 : (s4.K (G 2 (4 * r + p))).1 = 8 := f4.r kc
  have n12 : v1 ≠ v2 := fun z => by
    rw [z, k2] at k1
    exact absurd (congrArg Prod.fst k1) (show ¬ (120 : Nat) = 115 by decide)
  have f5 : fr [8, 115, 120] [] [] s4 (cSI (cSE (cSE s4 v1 i a) v2 i nu) 98 (G 2 (4 * r + p)) (nI n')) := ((fr.se (by rw [k1]; show 115 ∈ _; decide)).tr (fr.se (by show (s4.K v2).1 ∈ _; rw [k2]; show 120 ∈ _; decide))).tr (fr.si (by show (s4.K (G 2 (4 * r + p))).1 ∈ _; rw [kc4]; decide))
  have f : fr [8, 115, 120] [(96, 8), (97, 8)] [] s (cSI (cSE (cSE s4 v1 i a) v2 i nu) 98 (G 2 (4 * r + p)) (nI n')) := (f4.wk (by decide) (by decide) (by decide)).tr (f5.wk (by decide) (by decide) (by decide))
  have hg5 : RGl G H sa x (cSI (cSE (cSE s4 v1 i a) v2 i nu) 98 (G 2 (4 * r + p)) (nI n')) := hg4.v rfl rfl f5 rfl rfl rfl
  have eI : ∀ g b, (s.K b).1 = 8 → g ≠ 98 → (cSI (cSE (cSE s4 v1 i a) v2 i nu) 98 (G 2 (4 * r + p)) (nI n')).I g b = s.I g b := fun g b hb hg => by
    rw [cSI_g hg]
    exact hI4 g b hb
  refine ⟨rr_so hR hM hg5 f m eI fun r' p' hr' hp' => ?_, f, eI⟩
  have hx4 := (hM.r hr).2.2.2.2.2.2.2.2.2.1.n.2.2
  have hx4' := (hM.r hr').2.2.2.2.2.2.2.2.2.1.n.2.2
  have hp4 : p < 4 := Nat.lt_of_lt_of_le hp hx4
  have hp4' : p' < 4 := Nat.lt_of_lt_of_le hp' hx4'
  by_cases c : 4 * r' + p' = 4 * r + p
  · rw [c]
    unfold RSo
    rw [hl, cSI_s]
    refine ⟨rfl, v1, v2, cp, p1, p2, k1, k2, hn, hc4, hc8, fun j hj => ?_⟩
    obtain ⟨x1, x2⟩ := vals j hj
    rw [← x1, ← x2]
    constructor
    · show (cSE (cSE s4 v1 i a) v2 i nu).E v1 j = _
      rw [cSE_a n12, cSE_s]
      rfl
    · show (cSE (cSE s4 v1 i a) v2 i nu).E v2 j = _
      rw [cSE_s, cSE_a (fun z => n12 z.symm)]
      rfl
  · have ng : G 2 (4 * r' + p') ≠ G 2 (4 * r + p) := fun z => c (hR.q.1.2.1.2.2.1 r' r p' p hr' hr hp' hp z)
    have kq : (s.K (G 2 (4 * r' + p'))).1 = 8 := ((hR.q.1.2.2.2.2.2.1 r' hr').2.2.2.2.2.2 p' hp').1.1
    have hso : RSo G s t (4 * r' + p') := ((hR.q.1.2.2.2.2.2.1 r' hr').2.2.2.2.2.2 p' hp').2.2.2.2.2.2.2
    obtain ⟨o96, o97⟩ := o4 _ kq ng
    obtain ⟨b1, b2⟩ := oth (4 * r' + p') (by omega) c
    have hso2 := hso
    obtain ⟨-, w1, w2, cap, y1, y2, y3, y4, -⟩ := hso2
    refine rso_same hso ?_ o96 o97 (fun w hw => (f w hw).1) (fun w hw => ?_) b1 b2
    · rw [cSI_a ng]
      exact hI4 98 _ kq
    · have kw : (s.K w).1 = 115 ∧ w ≠ v1 ∧ w ≠ v2 ∨ (s.K w).1 = 120 ∧ w ≠ v1 ∧ w ≠ v2 := by
        rcases hw with z | z
        · have ew : w = w1 := Option.some.inj (z.symm.trans y1)
          have k' : (s.K w).1 = 115 := by rw [ew, y3]
          have k4 : (s4.K w).1 = 115 := f4.r k'
          refine Or.inl ⟨k', fun y => ng ?_, fun y => ?_⟩
          · exact hg4.2.2.2.2.2.2.1 _ _ v1 (f4.r kq) kc4 (by rw [o96, z, y]) p1
          · rw [y, k2] at k4
            exact absurd k4 (show ¬ (120 : Nat) = 115 by decide)
        · have ew : w = w2 := Option.some.inj (z.symm.trans y2)
          have k' : (s.K w).1 = 120 := by rw [ew, y4]
          have k4 : (s4.K w).1 = 120 := f4.r k'
          refine Or.inr ⟨k', fun y => ?_, fun y => ng ?_⟩
          · rw [y, k1] at k4
            exact absurd k4 (show ¬ (115 : Nat) = 120 by decide)
          · exact hg4.2.2.2.2.2.2.2.1 _ _ v2 (f4.r kq) kc4 (by rw [o97, z, y]) p2
      have e4 : s4.E w = s.E w := by
        rcases kw with z | z
        · exact (f4.v z.1 (by decide)).2.2
        · exact (f4.v z.1 (by decide)).2.2
      show (cSE (cSE s4 v1 i a) v2 i nu).E w = _
      have nn : w ≠ v1 ∧ w ≠ v2 := by
        rcases kw with z | z
        · exact z.2
        · exact z.2
      rw [cSE_a nn.2, cSE_a nn.1, e4]
end Fe
