/-! What a router holds besides: from what it is seen. -/
section Eo
variable {r : Nat} {t t' : moS} {O : List Pf} {P : Pf}
theorem st1_f {d : Pf → Option DU} {tg g0 : Int32} {a : AA} (h : st1 d tg g0 P a = a) : stp 0 (d P) (a.1 P) = (a.1 P, false) := by
  have h2 : (stp tg (d P) (a.1 P)).2 = false := by
    cases c : (stp tg (d P) (a.1 P)).2 with
    | false => rfl
    | true =>
      exfalso
      have := congrArg (fun y : AA => y.2.1) h
      unfold st1 st2 at this
      rw [c] at this
      have z : a.2.1 + 1 = a.2.1 := this
      have := congrArg (fun y => y - a.2.1) z
      simp only [Int32.add_sub_cancel, Int32.sub_self] at this
      rw [Int32.add_comm, Int32.add_sub_cancel] at this
      exact absurd this (by decide)
  have e : stp 0 (d P) (a.1 P) = stp tg (d P) (a.1 P) := by
    unfold stp at h2 ⊢
    split at h2
    all_goals first | rfl | skip
    · split at h2 <;> simp_all
  rw [e]
  refine Prod.ext ?_ h2
  have := congrFun (congrArg (fun y : AA => y.1) h) P
  rw [st1_s] at this
  exact this
theorem st1_b {d : Pf → Option DU} {tg g0 : Int32} {a : AA} (h : stp 0 (d P) (a.1 P) = (a.1 P, false)) : st1 d tg g0 P a = a := by
  have e : stp tg (d P) (a.1 P) = stp 0 (d P) (a.1 P) := by
    have h2 : (stp 0 (d P) (a.1 P)).2 = false := by rw [h]
    unfold stp at h2 ⊢
    split at h2
    all_goals first | rfl | skip
    · split at h2 <;> simp_all
  unfold st1
  rw [e, h]
  unfold st2
  refine Prod.ext (funext fun k => ?_) rfl
  show (if k = P then a.1 P else a.1 k) = a.1 k
  split
  · rename_i e; rw [e]
  · rfl
theorem se_iff : SEt t r ↔ ∀ P : Pf, lnOk P.1 P.2.2.2 → stp 0 (dF t r P) (Vt t r P) = (Vt t r P, false) := ⟨fun h P hP => st1_f (h P hP), fun h P hP => st1_b (h P hP)⟩
/-- what is seen of a router's own -/
def sEq (r : Nat) (t t' : moS) : Prop := (cSt t' r = cSt t r ∧ cI t' r = cI t r ∧ cN t' r = cN t r) ∧ (∀ k, k < cSt t r → t'.I 47 (32 * r + k) = t.I 47 (32 * r + k) ∧ t'.J 48 (32 * r + k) = t.J 48 (32 * r + k) ∧ t'.J 49 (32 * r + k) = t.J 49 (32 * r + k) ∧ t'.I 50 (32 * r + k) = t.I 50 (32 * r + k) ∧ t'.I 51 (32 * r + k) = t.I 51 (32 * r + k) ∧ t'.I 52 (32 * r + k) = t.I 52 (32 * r + k)) ∧ (∀ p, p < cI t r → t'.I 71 (4 * r + p) = t.I 71 (4 * r + p) ∧ t'.I 72 (4 * r + p) = t.I 72 (4 * r + p) ∧ t'.I 22 (t.I 71 (4 * r + p)).toNatClampNeg = t.I 22 (t.I 71 (4 * r + p)).toNatClampNeg) ∧ (∀ y, y < 2 * cI t r → eqA t t' (8 * r + y)) ∧ (∀ g, g ∈ fRI → ∀ j, j < cN t r → t'.I g (2700 * r + j) = t.I g (2700 * r + j)) ∧ ∀ g, g ∈ fRJ → ∀ j, j < cN t r → t'.J g (2700 * r + j) = t.J g (2700 * r + j)
theorem sEq.m {W : List Nat} (m : mfr W t t') (d : dj [22, 46, 47, 48, 49, 50, 51, 52, 70, 71, 72, 75, 76, 77, 78, 105, 106, 107, 108, 109, 110, 111, 112, 113, 114, 115, 116, 117, 118, 119, 120, 121, 122] W) : sEq r t t' := by
  refine ⟨⟨?_, ?_, ?_⟩, fun k hk => ?_, fun p hp => ?_, fun y hy => ?_, fun g hg j hj => ?_, fun g hg j hj => ?_⟩
  · unfold cSt; rw [m.I 46 (d.n 46)]
  · unfold cI; rw [m.I 70 (d.n 70)]
  · unfold cN; rw [m.I 105 (d.n 105)]
  · rw [m.I 47 (d.n 47), m.J 48 (d.n 48), m.J 49 (d.n 49), m.I 50 (d.n 50), m.I 51 (d.n 51), m.I 52 (d.n 52)]
    exact ⟨rfl, rfl, rfl, rfl, rfl, rfl⟩
  · rw [m.I 71 (d.n 71), m.I 72 (d.n 72), m.I 22 (d.n 22)]
    exact ⟨rfl, rfl, rfl⟩
  · unfold eqA
    rw [m.I 75 (d.n 75), m.J 76 (d.n 76), m.J 77 (d.n 77), m.I 78 (d.n 78)]
    exact ⟨rfl, rfl, rfl, rfl⟩
  · rw [m.I g (d.n g (by revert hg; revert g; decide))]
  · rw [m.J g (d.n g (by revert hg; revert g; decide))]
theorem sEq.v (h : sEq r t t') (hM : MV t) (hM' : MV t') (hr : r < cR t) (hr' : r < cR t') : Vt t' r = Vt t r := by
  obtain ⟨⟨-, -, hn⟩, -, -, -, mI, mJ⟩ := h
  have e : ∀ j, j < cN t r → rvN t' (2700 * r + j) = rvN t (2700 * r + j) ∧ pfR t' (2700 * r + j) = pfR t (2700 * r + j) := fun j hj => rvN_mv (fun g hg => mI g hg j hj) fun g hg => mJ g hg j hj
  funext P
  by_cases c : ∃ j, j < cN t r ∧ pfR t (2700 * r + j) = P
  · obtain ⟨j, h1, h2⟩ := c
    rw [Vt_some hM hr h1 h2, Vt_some hM' hr' (j := j) (by rw [hn]; exact h1) (by rw [(e j h1).2]; exact h2), (e j h1).1]
  · rw [Vt_none (t := t) (fun j h1 h2 => c ⟨j, h1, h2⟩), Vt_none (t := t')]
    intro j h1 h2
    rw [hn] at h1
    rw [(e j h1).2] at h2
    exact c ⟨j, h1, h2⟩
theorem sEq.d (h : sEq r t t') {f n : Int32} {hh l : Int64} (hf : f = 0 ∨ f = 1) : dF t' r (f, hh, l, n) = dF t r (f, hh, l, n) := by
  obtain ⟨⟨e1, e2, e3⟩, s1, s2, s3, -, -⟩ := h
  have hf' : f.toNatClampNeg < 2 := by rcases hf with e | e <;> rw [e] <;> decide
  have eu : ∀ p', p' < cI t r → (upN t' r p' f hh l n ↔ upN t r p' f hh l n) := fun p' hp' => by
    obtain ⟨a1, a2, a3⟩ := s2 p' hp'
    obtain ⟨b1, b2, b3, b4⟩ := s3 (2 * p' + f.toNatClampNeg) (by omega)
    rw [show 8 * r + (2 * p' + f.toNatClampNeg) = 2 * (4 * r + p') + f.toNatClampNeg by omega] at b1 b2 b3 b4
    unfold upN
    rw [a1, a3, b1, b2, b3, b4]
  have ek : ∀ k, k < cSt t r → kyS t' (32 * r + k) = kyS t (32 * r + k) ∧ t'.I 51 (32 * r + k) = t.I 51 (32 * r + k) ∧ t'.I 52 (32 * r + k) = t.I 52 (32 * r + k) := fun k hk => by
    obtain ⟨a1, a2, a3, a4, a5, a6⟩ := s1 k hk
    unfold kyS
    rw [a1, a2, a3, a4, a5, a6]
    exact ⟨rfl, rfl, rfl⟩
  have key : ∀ dk dm di dt, isDu t' r f hh l n dk dm di dt ↔ isDu t r f hh l n dk dm di dt := fun dk dm di dt => by
    unfold isDu
    rw [e1, e2]
    constructor
    · rintro (⟨p', a1, a2, a3, a4, a5, a6, a7⟩ | ⟨a0, k, h1, h2, h3, h4, h5, h6, h7⟩)
      · exact Or.inl ⟨p', a1, (eu p' a1).mp a2, fun q hq z => a3 q hq ((eu q (by omega)).mpr z), a4, by rw [a5, (s2 p' a1).2.1], a6, a7⟩
      · exact Or.inr ⟨fun q hq z => a0 q hq ((eu q hq).mpr z), k, h1, by rw [← (ek k h1).1]; exact h2, fun k' hk z => h3 k' hk (by rw [(ek k' (by omega)).1]; exact z), h4, by rw [← (ek k h1).2.1]; exact h5, h6, by rw [← (ek k h1).2.2]; exact h7⟩
    · rintro (⟨p', a1, a2, a3, a4, a5, a6, a7⟩ | ⟨a0, k, h1, h2, h3, h4, h5, h6, h7⟩)
      · exact Or.inl ⟨p', a1, (eu p' a1).mpr a2, fun q hq z => a3 q hq ((eu q (by omega)).mp z), a4, by rw [a5, (s2 p' a1).2.1], a6, a7⟩
      · exact Or.inr ⟨fun q hq z => a0 q hq ((eu q hq).mp z), k, h1, by rw [(ek k h1).1]; exact h2, fun k' hk z => h3 k' hk (by rw [← (ek k' (by omega)).1]; exact z), h4, by rw [(ek k h1).2.1]; exact h5, h6, by rw [(ek k h1).2.2]; exact h7⟩
  by_cases c : ∃ q : DU, isDu t r f hh l n q.1 q.2.1 q.2.2.1 q.2.2.2
  · obtain ⟨q, hq⟩ := c
    rw [dF_some hq, dF_some ((key _ _ _ _).mpr hq)]
  · unfold dF
    rw [dif_neg c, dif_neg]
    rintro ⟨q, hq⟩
    exact c ⟨q, (key _ _ _ _).mp hq⟩
theorem EXr.of (h : EXr O t r) (hM : MV t) (hM' : MV t') (hr : r < cR t) (hr' : r < cR t') (c : sEq r t t') (h39 : t'.I 39 r ≠ 0 → t.I 39 r ≠ 0) : EXr O t' r := by
  have hV := c.v hM hM' hr hr'
  have hd := fun {f n : Int32} {hh l : Int64} (hf : f = 0 ∨ f = 1) => c.d (n := n) (hh := hh) (l := l) hf
  obtain ⟨⟨e1, e2, e3⟩, s1, s2, s3, s4, s5⟩ := c
  obtain ⟨⟨o1, o2, D0, D1, l0, l1, hrow⟩, se, px⟩ := h
  refine ⟨⟨fun k hk => ?_, fun y hy hz => ?_, D0, D1, l0, l1, fun j hj => ?_⟩, fun z => se_iff.mpr fun P hP => ?_, fun k hk => ?_⟩
  · rw [e1] at hk
    obtain ⟨a1, a2, a3, a4, a5, a6⟩ := s1 k hk
    have := o1 k hk
    unfold stP at this ⊢
    rw [a1, a2, a3, a4]
    exact this
  · rw [e2] at hy
    obtain ⟨b1, b2, b3, b4⟩ := s3 y hy
    rw [b1] at hz
    have := o2 y hy hz
    unfold neP at this ⊢
    rw [b2, b3, b4]
    exact this
  · rw [e3] at hj
    have := hrow j hj
    unfold pfR at this ⊢
    rw [s4 106 (by decide) j hj, s4 109 (by decide) j hj, s5 107 (by decide) j hj, s5 108 (by decide) j hj]
    exact this
  · obtain ⟨f, hh, l, n⟩ := P
    rw [hV, hd (lnf hP)]
    exact se_iff.mp (se (h39 z)) (f, hh, l, n) hP
  · rw [e1] at hk
    obtain ⟨a1, a2, a3, a4, a5, a6⟩ := s1 k hk
    rw [a2, a3, a4]
    exact px k hk
theorem EX.of {Os : Nat → List Pf} (h : EX Os t) (hM : MV t) (hM' : MV t') (eR : cR t' = cR t) (c : ∀ r, r < cR t → sEq r t t') (h39 : ∀ r, r < cR t → t'.I 39 r ≠ 0 → t.I 39 r ≠ 0) : EX Os t' := fun r hr' => by
  have hr : r < cR t := by rw [← eR]; exact hr'
  exact (h r hr).of hM hM' hr hr' (c r hr) (h39 r hr)
end Eo
