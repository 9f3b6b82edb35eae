/-! A link changes its state: what a router settles. -/
def sEl (l r : Nat) (t t' : moS) : Prop := (cSt t' r = cSt t r ∧ cI t' r = cI t r ∧ cN t' r = cN t r) ∧ (∀ k, k < cSt t r → t'.I 47 (32 * r + k) = t.I 47 (32 * r + k) ∧ t'.J 48 (32 * r + k) = t.J 48 (32 * r + k) ∧ t'.J 49 (32 * r + k) = t.J 49 (32 * r + k) ∧ t'.I 50 (32 * r + k) = t.I 50 (32 * r + k) ∧ t'.I 51 (32 * r + k) = t.I 51 (32 * r + k) ∧ t'.I 52 (32 * r + k) = t.I 52 (32 * r + k)) ∧ (∀ p, p < cI t r → t'.I 71 (4 * r + p) = t.I 71 (4 * r + p) ∧ t'.I 72 (4 * r + p) = t.I 72 (4 * r + p) ∧ ((t.I 71 (4 * r + p)).toNatClampNeg ≠ l → t'.I 22 (t.I 71 (4 * r + p)).toNatClampNeg = t.I 22 (t.I 71 (4 * r + p)).toNatClampNeg)) ∧ (∀ y, y < 2 * cI t r → eqA t t' (8 * r + y)) ∧ (∀ g, g ∈ fRI → ∀ j, j < cN t r → t'.I g (2700 * r + j) = t.I g (2700 * r + j)) ∧ ∀ g, g ∈ fRJ → ∀ j, j < cN t r → t'.J g (2700 * r + j) = t.J g (2700 * r + j)
section Ls2
variable {l r p : Nat} {t t' : moS} {O : List Pf}
theorem sEl.v (h : sEl l r t t') (hM : MV t) (hM' : MV t') (hr : r < cR t) (hr' : r < cR t') : Vt t' r = Vt t r := by
  obtain ⟨⟨-, -, hn⟩, -, -, -, mI, mJ⟩ := h
  have e : ∀ j, j < cN t r → rvN t' (2700 * r + j) = rvN t (2700 * r + j) ∧ pfR t' (2700 * r + j) = pfR t (2700 * r + j) := fun j hj => rvN_mv (fun g hg => mI g hg j hj) fun g hg => mJ g hg j hj
  funext P
  by_cases c : ∃ j, j < cN t r ∧ pfR t (2700 * r + j) = P
  · obtain ⟨j, h1, h2⟩ := c
    rw [Vt_some hM hr h1 h2, Vt_some hM' hr' (j := j) (by rw [hn]; exact h1) (by rw [(e j h1).2]; exact h2), (e j h1).1]
  · rw [Vt_none (t := t) (fun j h1 h2 => c ⟨j, h1, h2⟩), Vt_none (t := t')]
    intro j h1 h2
    rw [hn] at h1
    rw [(e j h1).2] at h2
    exact c ⟨j, h1, h2⟩
theorem sEl.d (h : sEl l r t t') {f n : Int32} {hh lo : Int64} (hf : f = 0 ∨ f = 1) (hno : ∀ p, p < cI t r → (t.I 71 (4 * r + p)).toNatClampNeg = l → ¬ upN t r p f hh lo n ∧ ¬ upN t' r p f hh lo n) : dF t' r (f, hh, lo, n) = dF t r (f, hh, lo, n) := by
  obtain ⟨⟨e1, e2, e3⟩, s1, s2, s3, -, -⟩ := h
  have hf' : f.toNatClampNeg < 2 := by rcases hf with e | e <;> rw [e] <;> decide
  have eu : ∀ p', p' < cI t r → (upN t' r p' f hh lo n ↔ upN t r p' f hh lo n) := fun p' hp' => by
    by_cases cl : (t.I 71 (4 * r + p')).toNatClampNeg = l
    · exact ⟨fun z => absurd z (hno p' hp' cl).2, fun z => absurd z (hno p' hp' cl).1⟩
    obtain ⟨a1, a2, a3⟩ := s2 p' hp'
    obtain ⟨b1, b2, b3, b4⟩ := s3 (2 * p' + f.toNatClampNeg) (by omega)
    rw [show 8 * r + (2 * p' + f.toNatClampNeg) = 2 * (4 * r + p') + f.toNatClampNeg by omega] at b1 b2 b3 b4
    unfold upN
    rw [a1, a3 cl, b1, b2, b3, b4]
  have ek : ∀ k, k < cSt t r → kyS t' (32 * r + k) = kyS t (32 * r + k) ∧ t'.I 51 (32 * r + k) = t.I 51 (32 * r + k) ∧ t'.I 52 (32 * r + k) = t.I 52 (32 * r + k) := fun k hk => by
    obtain ⟨a1, a2, a3, a4, a5, a6⟩ := s1 k hk
    unfold kyS
    rw [a1, a2, a3, a4, a5, a6]
    exact ⟨rfl, rfl, rfl⟩
  have key : ∀ dk dm di dt, isDu t' r f hh lo n dk dm di dt ↔ isDu t r f hh lo n dk dm di dt := fun dk dm di dt => by
    unfold isDu
    rw [e1, e2]
    constructor
    · rintro (⟨p', a1, a2, a3, a4, a5, a6, a7⟩ | ⟨a0, k, h1, h2, h3, h4, h5, h6, h7⟩)
      · exact Or.inl ⟨p', a1, (eu p' a1).mp a2, fun q hq z => a3 q hq ((eu q (by omega)).mpr z), a4, by rw [a5, (s2 p' a1).2.1], a6, a7⟩
      · exact Or.inr ⟨fun q hq z => a0 q hq ((eu q hq).mpr z), k, h1, by rw [← (ek k h1).1]; exact h2, fun k' hk z => h3 k' hk (by rw [(ek k' (by omega)).1]; exact z), h4, by rw [← (ek k h1).2.1]; exact h5, h6, by rw [← (ek k h1).2.2]; exact h7⟩
    · rintro (⟨p', a1, a2, a3, a4, a5, a6, a7⟩ | ⟨a0, k, h1, h2, h3, h4, h5, h6, h7⟩)
      · exact Or.inl ⟨p', a1, (eu p' a1).mpr a2, fun q hq z => a3 q hq ((eu q (by omega)).mp z), a4, by rw [a5, (s2 p' a1).2.1], a6, a7⟩
      · exact Or.inr ⟨fun q hq z => a0 q hq ((eu q hq).mp z), k, h1, by rw [(ek k h1).1]; exact h2, fun k' hk z => h3 k' hk (by rw [← (ek k' (by omega)).1]; exact z), h4, by rw [(ek k h1).2.1]; exact h5, h6, by rw [(ek k h1).2.2]; exact h7⟩
  by_cases c : ∃ q : DU, isDu t r f hh lo n q.1 q.2.1 q.2.2.1 q.2.2.2
  · obtain ⟨q, hq⟩ := c
    rw [dF_some hq, dF_some ((key _ _ _ _).mpr hq)]
  · unfold dF
    rw [dif_neg c, dif_neg]
    rintro ⟨q, hq⟩
    exact c ⟨q, (key _ _ _ _).mp hq⟩
/-- what is owned, as it was -/
theorem OWr.el (h : OWr O t r) (c : sEl l r t t') : OWr O t' r := by
  obtain ⟨⟨e1, e2, e3⟩, s1, s2, s3, s4, s5⟩ := c
  obtain ⟨o1, o2, D0, D1, l0, l1, hrow⟩ := h
  refine ⟨fun k hk => ?_, fun y hy hz => ?_, D0, D1, l0, l1, fun j hj => ?_⟩
  · rw [e1] at hk
    obtain ⟨a1, a2, a3, a4, a5, a6⟩ := s1 k hk
    have := o1 k hk
    unfold stP at this ⊢
    rw [a1, a2, a3, a4]
    exact this
  · rw [e2] at hy
    obtain ⟨b1, b2, b3, b4⟩ := s3 y hy
    rw [b1] at hz
    have := o2 y hy hz
    unfold neP at this ⊢
    rw [b2, b3, b4]
    exact this
  · rw [e3] at hj
    have := hrow j hj
    unfold pfR at this ⊢
    rw [s4 106 (by decide) j hj, s4 109 (by decide) j hj, s5 107 (by decide) j hj, s5 108 (by decide) j hj]
    exact this
/-- no interface at that link -/
theorem sEl.eq (h : sEl l r t t') (hno : ∀ p, p < cI t r → (t.I 71 (4 * r + p)).toNatClampNeg ≠ l) : sEq r t t' := ⟨h.1, h.2.1, fun p hp => ⟨(h.2.2.1 p hp).1, (h.2.2.1 p hp).2.1, (h.2.2.1 p hp).2.2 (hno p hp)⟩, h.2.2.2.1, h.2.2.2.2.1, h.2.2.2.2.2⟩
theorem EXr.px (h : EXr O t r) (c : sEl l r t t') : ∀ k, k < cSt t' r → isPx (t'.J 48 (32 * r + k)) (t'.J 49 (32 * r + k)) (t'.I 50 (32 * r + k)) := fun k hk => by
  rw [c.1.1] at hk
  obtain ⟨a1, a2, a3, a4, a5, a6⟩ := c.2.1 k hk
  rw [a2, a3, a4]
  exact h.2.2 k hk
/-- what is not the interface's is settled -/
theorem lk_cov (h : EXr O t r) (hM : MV t) (hM' : MV t') (hr : r < cR t) (hr' : r < cR t') (c : sEl l r t t') (hp : p < cI t r) (hl : t.I 71 (4 * r + p) = nI l) (hl9 : l < 2 ^ 31) (hrun : t.I 39 r ≠ 0) : ∀ P : Pf, lnOk P.1 P.2.2.2 → P ∉ L2M t' r 2 (2 * p) → stM t' r P (al t' r) = al t' r := fun P hP hn => by
  obtain ⟨f, hh, lo, n⟩ := P
  have hu := (hM.r hr).2.2.2.2.2.2.2.2.2.2.2.1
  have only : ∀ p', p' < cI t r → (t.I 71 (4 * r + p')).toNatClampNeg = l → p' = p := fun p' hp' e => by
    have e' : t.I 71 (4 * r + p') = nI l := cnt_of ((hM.r hr).i hp').1.n.1 e
    by_cases c1 : p' < p
    · exact absurd (e'.trans hl.symm) (hu p' p c1 hp)
    · by_cases c2 : p < p'
      · exact absurd (hl.trans e'.symm) (hu p p' c2 hp')
      · omega
  have ed := c.d (n := n) (hh := hh) (lo := lo) (lnf hP) fun p' hp' e => by
    have := only p' hp' e
    subst this
    refine ⟨fun z => hn ?_, fun z => hn (jn_upL (lnf hP) z)⟩
    obtain ⟨i, i1, i2, i3, i4⟩ := (L2M_m _ _).mp (jn_upL (lnf hP) z)
    obtain ⟨b1, b2, b3, b4⟩ := c.2.2.2.1 i (by omega)
    refine (L2M_m _ _).mpr ⟨i, i1, i2, by rw [b1]; exact i3, ?_⟩
    rw [i4]
    unfold neP
    rw [b2, b3, b4]
  have ev := c.v hM hM' hr hr'
  exact st1_b (by
    show stp 0 (dF t' r (f, hh, lo, n)) (Vt t' r (f, hh, lo, n)) = (Vt t' r (f, hh, lo, n), false)
    rw [ed, ev]
    exact se_iff.mp (h.2.1 hrun) (f, hh, lo, n) hP)
/-- one router settles at a link that changed -/
theorem lk_one {sa : Nat → Nat} {x : Nat} (h : EXr O t r) (hO : O.length ≤ 760) (hM : MV t) (hM' : MV t') (hr : r < cR t) (hr' : r < cR t') (c : sEl l r t t') (hp : p < cI t r) (hl : t.I 71 (4 * r + p) = nI l) (hl9 : l < 2 ^ 31) (h39 : t'.I 39 r = t.I 39 r) : ∃ t2, M_settle t' (nI r) = some t2 ∧ MV t2 ∧ EXr O t2 r ∧ rwT r t' t2 ∧ ∀ G H s kc ks, RR G H sa x s t' → potC G r ≤ kc → potS s G H r ≤ ks → ∀ Q, SetR G H sa x s t' r t2 kc ks Q → C_Rr_settlePort sa (G 1 r) (some (G 2 (4 * r + p))) s kc ks Q := by
  have ow := h.1.el c
  obtain ⟨K, kb, sub, back⟩ := ow.kb hO
  have hK : ∀ k, k < cSt t' r → stP t' (32 * r + k) ∈ K := fun k hk => sub _ (ow.1 k hk)
  have hK2 : ∀ y, y < 2 * cI t' r → t'.I 75 (8 * r + y) ≠ 0 → neP t' r y ∈ K := fun y hy hz => sub _ (ow.2.1 y hy hz)
  have hp' : p < cI t' r := by rw [c.1.2.1]; exact hp
  have px := h.px c
  obtain ⟨t2, e1, e2, e3, e4, e5⟩ := set_m hM' hr' kb hK hK2
  refine ⟨t2, e1, e2, ?_, e3, fun G H s kc ks hR hkc hks Q kk => ?_⟩
  · have m' := e3.1
    have ec : cSt t2 r = cSt t' r := by unfold cSt; rw [m'.I 46 (by decide)]
    have ei : cI t2 r = cI t' r := by unfold cI; rw [m'.I 70 (by decide)]
    refine ⟨⟨?_, ?_, back t2 e5⟩, fun z => e4 (by rw [m'.I 39 (by decide)] at z; exact z), ?_⟩
    · have := ow.1
      rw [ec]; unfold stP at this ⊢; rw [m'.I 47 (by decide), m'.J 48 (by decide), m'.J 49 (by decide), m'.I 50 (by decide)]; exact this
    · have := ow.2.1
      rw [ei]; unfold neP at this ⊢; rw [m'.I 75 (by decide), m'.J 76 (by decide), m'.J 77 (by decide), m'.I 78 (by decide)]; exact this
    · rw [ec, m'.J 48 (by decide), m'.J 49 (by decide), m'.I 50 (by decide)]; exact px
  · obtain ⟨t3, y1, -, -, -, -, y6⟩ := set_port (kc := kc) (ks := ks) hR hM' hr' hp' kb hK hK2 (fun z => lk_cov h hM hM' hr hr' c hp hl hl9 (by rw [h39] at z; exact z)) hkc hks
    rw [e1] at y1
    cases y1
    exact y6 Q kk
end Ls2
