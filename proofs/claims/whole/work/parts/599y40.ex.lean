/-! What holds of the model besides: routers are settled; how many prefixes there may be. -/
def OWr (O : List Pf) (t : moS) (r : Nat) : Prop := (∀ k, k < cSt t r → stP t (32 * r + k) ∈ O) ∧ (∀ y, y < 2 * cI t r → t.I 75 (8 * r + y) ≠ 0 → neP t r y ∈ O) ∧ ∃ D0 D1 : List Pf, D0.length ≤ 60 ∧ D1.length ≤ 60 ∧ ∀ j, j < cN t r → pfR t (2700 * r + j) ∈ O ∨ t.I 106 (2700 * r + j) = 0 ∧ pfR t (2700 * r + j) ∈ D0 ∨ t.I 106 (2700 * r + j) = 1 ∧ pfR t (2700 * r + j) ∈ D1
def EXr (O : List Pf) (t : moS) (r : Nat) : Prop := OWr O t r ∧ (t.I 39 r ≠ 0 → SEt t r) ∧ ∀ k, k < cSt t r → isPx (t.J 48 (32 * r + k)) (t.J 49 (32 * r + k)) (t.I 50 (32 * r + k))
def EX (O : Nat → List Pf) (t : moS) : Prop := ∀ r, r < cR t → EXr (O r) t r
theorem xor_m1 (a : Int64) : a ^^^ -1 = ~~~ a := by
  rw [← Int64.toBitVec_inj, Int64.toBitVec_xor, Int64.toBitVec_not]
  apply BitVec.eq_of_getLsbD_eq
  intro i hi
  rw [show (-1 : Int64).toBitVec = BitVec.allOnes 64 from by decide]
  simp only [BitVec.getLsbD_xor, BitVec.getLsbD_not, BitVec.getLsbD_allOnes, hi, decide_true, Bool.true_and, Bool.xor_true]
theorem mpre_px {a b : Int64} {n : Int32} (h : mpre a b n) : isPx a b n := by
  unfold mpre at h
  unfold isPx
  rw [xor_m1, xor_m1] at h
  exact h
section Ex
variable {t t' : moS} {r r' : Nat} {O K : List Pf} {P : Pf}
theorem OWr.kb (h : OWr O t r) (hO : O.length ≤ 760) : ∃ K, KB K t r ∧ (∀ P, P ∈ O → P ∈ K) ∧ ∀ t', KB K t' r → ∃ D0 D1 : List Pf, D0.length ≤ 60 ∧ D1.length ≤ 60 ∧ ∀ j, j < cN t' r → pfR t' (2700 * r + j) ∈ O ∨ t'.I 106 (2700 * r + j) = 0 ∧ pfR t' (2700 * r + j) ∈ D0 ∨ t'.I 106 (2700 * r + j) = 1 ∧ pfR t' (2700 * r + j) ∈ D1 := by
  obtain ⟨-, -, D0, D1, l0, l1, hr⟩ := h
  have f0 : ∀ P, P ∈ D0.filter (fun P => decide (P.1 = 0)) ↔ P ∈ D0 ∧ P.1 = 0 := fun P => by rw [List.mem_filter, decide_eq_true_iff]
  have f1 : ∀ P, P ∈ D1.filter (fun P => decide (P.1 = 1)) ↔ P ∈ D1 ∧ P.1 = 1 := fun P => by rw [List.mem_filter, decide_eq_true_iff]
  have g0 := List.length_filter_le (fun P : Pf => decide (P.1 = 0)) D0
  have g1 := List.length_filter_le (fun P : Pf => decide (P.1 = 1)) D1
  refine ⟨D0.filter (fun P => decide (P.1 = 0)) ++ (D1.filter (fun P => decide (P.1 = 1)) ++ O), ⟨?_, fun j hj => ?_⟩, fun P hP => List.mem_append.mpr (Or.inr (List.mem_append.mpr (Or.inr hP))), fun t' k => ⟨D0, D1, l0, l1, fun j hj => ?_⟩⟩
  · rw [List.length_append, List.length_append]; omega
  · rcases hr j hj with z | ⟨y, z⟩ | ⟨y, z⟩
    · exact List.mem_append.mpr (Or.inr (List.mem_append.mpr (Or.inr z)))
    · exact List.mem_append.mpr (Or.inl ((f0 _).mpr ⟨z, y⟩))
    · exact List.mem_append.mpr (Or.inr (List.mem_append.mpr (Or.inl ((f1 _).mpr ⟨z, y⟩))))
  · rcases List.mem_append.mp (k.2 j hj) with z | z
    · obtain ⟨y1, y2⟩ := (f0 _).mp z
      exact Or.inr (Or.inl ⟨y2, y1⟩)
    · rcases List.mem_append.mp z with z | z
      · obtain ⟨y1, y2⟩ := (f1 _).mp z
        exact Or.inr (Or.inr ⟨y2, y1⟩)
      · exact Or.inl z
/-- the map, where the routes are what they were -/
theorem al_eq (hM : MV t) (hM' : MV t') (hr : r < cR t) (hr' : r < cR t') (hn : cN t' r = cN t r) (mI : ∀ g, g ∈ fRI → ∀ j, j < cN t r → t'.I g (2700 * r + j) = t.I g (2700 * r + j)) (mJ : ∀ g, g ∈ fRJ → ∀ j, j < cN t r → t'.J g (2700 * r + j) = t.J g (2700 * r + j)) (h45 : t'.I 45 (11 * r + 7) = t.I 45 (11 * r + 7)) (h44 : t'.I 44 r = t.I 44 r) : al t' r = al t r := by
  have e : ∀ j, j < cN t r → rvN t' (2700 * r + j) = rvN t (2700 * r + j) ∧ pfR t' (2700 * r + j) = pfR t (2700 * r + j) := fun j hj => rvN_mv (fun g hg => mI g hg j hj) fun g hg => mJ g hg j hj
  have ev : Vt t' r = Vt t r := by
    funext P
    by_cases c : ∃ j, j < cN t r ∧ pfR t (2700 * r + j) = P
    · obtain ⟨j, h1, h2⟩ := c
      rw [Vt_some hM hr h1 h2, Vt_some hM' hr' (j := j) (by rw [hn]; exact h1) (by rw [(e j h1).2]; exact h2), (e j h1).1]
    · rw [Vt_none (t := t) (fun j h1 h2 => c ⟨j, h1, h2⟩), Vt_none (t := t')]
      intro j h1 h2
      rw [hn] at h1
      rw [(e j h1).2] at h2
      exact c ⟨j, h1, h2⟩
  unfold al
  rw [ev, h45, h44]
theorem al_rw (hM : MV t) (hM' : MV t') (hr' : r' < cR t) (c : rwT r t t') (hne : r' ≠ r) : al t' r' = al t r' := by
  have h9 := hM.nRo hr'
  obtain ⟨m, m44, m45, m5, mI, mJ⟩ := c
  exact al_eq hM hM' hr' (by unfold cR; rw [m.S 37 (by decide)]; exact hr') (by unfold cN; rw [m5 r' hne]) (fun g hg j hj => mI g hg _ (by omega)) (fun g hg j hj => mJ g hg _ (by omega)) (m45 _ (by omega)) (m44 r' hne)
theorem al_st (hM : MV t) (hM' : MV t') (hr : r < cR t) (m : mfr Wst t t') : al t' r = al t r :=
  al_eq hM hM' hr (by unfold cR; rw [m.S 37 (by decide)]; exact hr) (by unfold cN; rw [m.I 105 (by decide)]) (fun g hg j _ => by rw [m.I g (by revert hg; revert g; decide)]) (fun g hg j _ => by rw [m.J g (by revert hg; revert g; decide)]) (by rw [m.I 45 (by decide)]) (by rw [m.I 44 (by decide)])
/-- what is due elsewhere -/
theorem dF_st (c : stT r t t') (hne : r' ≠ r) (h32 : cSt t r' ≤ 32) : dF t' r' = dF t r' := by
  obtain ⟨m, m46, mI, mJ⟩ := c
  have ec : cSt t' r' = cSt t r' := by unfold cSt; rw [m46 r' hne]
  have ei : cI t' r' = cI t r' := by unfold cI; rw [m.I 70 (by decide)]
  have eu : ∀ p f h l n, upN t' r' p f h l n ↔ upN t r' p f h l n := fun p f h l n => by
    unfold upN
    rw [m.I 22 (by decide), m.I 71 (by decide), m.I 75 (by decide), m.I 78 (by decide), m.J 76 (by decide), m.J 77 (by decide)]
  have ek : ∀ k, k < cSt t r' → kyS t' (32 * r' + k) = kyS t (32 * r' + k) ∧ t'.I 51 (32 * r' + k) = t.I 51 (32 * r' + k) ∧ t'.I 52 (32 * r' + k) = t.I 52 (32 * r' + k) := fun k hk => by
    unfold kyS
    rw [mI 47 (by decide) _ (by omega), mI 50 (by decide) _ (by omega), mI 51 (by decide) _ (by omega), mI 52 (by decide) _ (by omega), mJ 48 (by decide) _ (by omega), mJ 49 (by decide) _ (by omega)]
    exact ⟨rfl, rfl, rfl⟩
  have key : ∀ f h l n dk dm di dt, isDu t' r' f h l n dk dm di dt ↔ isDu t r' f h l n dk dm di dt := fun f h l n dk dm di dt => by
    unfold isDu
    rw [ei, ec, m.I 72 (by decide)]
    constructor
    · rintro (⟨p, h1, h2, h3, h4⟩ | ⟨h0, k, h1, h2, h3, h4, h5, h6, h7⟩)
      · exact Or.inl ⟨p, h1, (eu _ _ _ _ _).mp h2, fun p' hp z => h3 p' hp ((eu _ _ _ _ _).mpr z), h4⟩
      · exact Or.inr ⟨fun p hp z => h0 p hp ((eu _ _ _ _ _).mpr z), k, h1, by rw [← (ek k h1).1]; exact h2, fun k' hk z => h3 k' hk (by rw [(ek k' (by omega)).1]; exact z), h4, by rw [← (ek k h1).2.1]; exact h5, h6, by rw [← (ek k h1).2.2]; exact h7⟩
    · rintro (⟨p, h1, h2, h3, h4⟩ | ⟨h0, k, h1, h2, h3, h4, h5, h6, h7⟩)
      · exact Or.inl ⟨p, h1, (eu _ _ _ _ _).mpr h2, fun p' hp z => h3 p' hp ((eu _ _ _ _ _).mp z), h4⟩
      · exact Or.inr ⟨fun p hp z => h0 p hp ((eu _ _ _ _ _).mp z), k, h1, by rw [(ek k h1).1]; exact h2, fun k' hk z => h3 k' hk (by rw [← (ek k' (by omega)).1]; exact z), h4, by rw [(ek k h1).2.1]; exact h5, h6, by rw [(ek k h1).2.2]; exact h7⟩
  funext P
  obtain ⟨f, h, l, n⟩ := P
  by_cases c : ∃ q : DU, isDu t r' f h l n q.1 q.2.1 q.2.2.1 q.2.2.2
  · obtain ⟨q, hq⟩ := c
    rw [dF_some hq, dF_some ((key _ _ _ _ _ _ _ _).mpr hq)]
  · unfold dF
    rw [dif_neg c, dif_neg]
    rintro ⟨q, hq⟩
    exact c ⟨q, (key _ _ _ _ _ _ _ _).mp hq⟩
/-- another router is not touched -/
theorem EXr.rw (h : EXr O t r') (hM : MV t) (hM' : MV t') (hr' : r' < cR t) (c : rwT r t t') (hne : r' ≠ r) : EXr O t' r' := by
  have h9 := hM.nRo hr'
  have ea := al_rw hM hM' hr' c hne
  have ed := dF_fr (r := r') c.1
  obtain ⟨m, m44, m45, m5, mI, mJ⟩ := c
  have ec : cSt t' r' = cSt t r' := by unfold cSt; rw [m.I 46 (by decide)]
  have ei : cI t' r' = cI t r' := by unfold cI; rw [m.I 70 (by decide)]
  have en : cN t' r' = cN t r' := by unfold cN; rw [m5 r' hne]
  obtain ⟨⟨o1, o2, D0, D1, l0, l1, hr⟩, se, px⟩ := h
  refine ⟨⟨?_, ?_, D0, D1, l0, l1, fun j hj => ?_⟩, fun z => ?_, ?_⟩
  · rw [ec]; unfold stP; rw [m.I 47 (by decide), m.J 48 (by decide), m.J 49 (by decide), m.I 50 (by decide)]; exact o1
  · rw [ei]; unfold neP; rw [m.I 75 (by decide), m.J 76 (by decide), m.J 77 (by decide), m.I 78 (by decide)]; exact o2
  · rw [en] at hj
    have := hr j hj
    unfold pfR at this ⊢
    rw [mI 106 (by decide) _ (by omega), mI 109 (by decide) _ (by omega), mJ 107 (by decide) _ (by omega), mJ 108 (by decide) _ (by omega)]
    exact this
  · rw [m.I 39 (by decide)] at z
    intro P hP
    have := se z P hP
    show st1 (dF t' r') (tgM t' r') (g0M t' r') P (al t' r') = al t' r'
    rw [ea, ed]
    unfold tgM g0M
    rw [m.S 1 (by decide), m.I 42 (by decide), m45 _ (by omega)]
    exact this
  · rw [ec, m.J 48 (by decide), m.J 49 (by decide), m.I 50 (by decide)]; exact px
theorem EXr.st (h : EXr O t r') (hM : MV t) (hM' : MV t') (hr' : r' < cR t) (c : stT r t t') (hne : r' ≠ r) : EXr O t' r' := by
  have h32 := (hM.st hr').2
  have ea := al_st hM hM' hr' c.1
  have ed := dF_st c hne h32
  obtain ⟨m, m46, mI, mJ⟩ := c
  have ec : cSt t' r' = cSt t r' := by unfold cSt; rw [m46 r' hne]
  have ei : cI t' r' = cI t r' := by unfold cI; rw [m.I 70 (by decide)]
  have en : cN t' r' = cN t r' := by unfold cN; rw [m.I 105 (by decide)]
  obtain ⟨⟨o1, o2, D0, D1, l0, l1, hr⟩, se, px⟩ := h
  refine ⟨⟨fun k hk => ?_, ?_, D0, D1, l0, l1, ?_⟩, fun z => ?_, fun k hk => ?_⟩
  · rw [ec] at hk
    have := o1 k hk
    unfold stP at this ⊢
    rw [mI 47 (by decide) _ (by omega), mI 50 (by decide) _ (by omega), mJ 48 (by decide) _ (by omega), mJ 49 (by decide) _ (by omega)]
    exact this
  · rw [ei]; unfold neP; rw [m.I 75 (by decide), m.J 76 (by decide), m.J 77 (by decide), m.I 78 (by decide)]; exact o2
  · rw [en]; unfold pfR at hr ⊢; rw [m.I 106 (by decide), m.I 109 (by decide), m.J 107 (by decide), m.J 108 (by decide)]; exact hr
  · rw [m.I 39 (by decide)] at z
    intro P hP
    have := se z P hP
    show st1 (dF t' r') (tgM t' r') (g0M t' r') P (al t' r') = al t' r'
    rw [ea, ed]
    unfold tgM g0M
    rw [m.S 1 (by decide), m.I 42 (by decide), m.I 45 (by decide)]
    exact this
  · rw [ec] at hk
    rw [mI 50 (by decide) _ (by omega), mJ 48 (by decide) _ (by omega), mJ 49 (by decide) _ (by omega)]
    exact px k hk
/-- what is due for other prefixes, where only one of a router's own is another -/
theorem dF_stP {f n : Int32} {h l : Int64} (m : mfr Wst t t') (key : (∀ k, k < cSt t' r → kyS t' (32 * r + k) = kyV f h l n → (∀ k', k' < k → kyS t' (32 * r + k') ≠ kyV f h l n) → ∃ j, j < cSt t r ∧ kyS t (32 * r + j) = kyV f h l n ∧ (∀ k', k' < j → kyS t (32 * r + k') ≠ kyV f h l n) ∧ t'.I 51 (32 * r + k) = t.I 51 (32 * r + j) ∧ t'.I 52 (32 * r + k) = t.I 52 (32 * r + j)) ∧ ∀ j, j < cSt t r → kyS t (32 * r + j) = kyV f h l n → (∀ k', k' < j → kyS t (32 * r + k') ≠ kyV f h l n) → ∃ k, k < cSt t' r ∧ kyS t' (32 * r + k) = kyV f h l n ∧ (∀ k', k' < k → kyS t' (32 * r + k') ≠ kyV f h l n) ∧ t'.I 51 (32 * r + k) = t.I 51 (32 * r + j) ∧ t'.I 52 (32 * r + k) = t.I 52 (32 * r + j)) : dF t' r (f, h, l, n) = dF t r (f, h, l, n) := by
  have ei : cI t' r = cI t r := by unfold cI; rw [m.I 70 (by decide)]
  have eu : ∀ p f h l n, upN t' r p f h l n ↔ upN t r p f h l n := fun p f h l n => by
    unfold upN
    rw [m.I 22 (by decide), m.I 71 (by decide), m.I 75 (by decide), m.I 78 (by decide), m.J 76 (by decide), m.J 77 (by decide)]
  have key : ∀ dk dm di dt, isDu t' r f h l n dk dm di dt ↔ isDu t r f h l n dk dm di dt := fun dk dm di dt => by
    unfold isDu
    rw [ei, m.I 72 (by decide)]
    constructor
    · rintro (⟨p, h1, h2, h3, h4⟩ | ⟨h0, k, h1, h2, h3, h4, h5, h6, h7⟩)
      · exact Or.inl ⟨p, h1, (eu _ _ _ _ _).mp h2, fun p' hp z => h3 p' hp ((eu _ _ _ _ _).mpr z), h4⟩
      · obtain ⟨j, j1, j2, j3, j4, j5⟩ := key.1 k h1 h2 h3
        exact Or.inr ⟨fun p hp z => h0 p hp ((eu _ _ _ _ _).mpr z), j, j1, j2, j3, h4, by rw [← j4]; exact h5, h6, by rw [← j5]; exact h7⟩
    · rintro (⟨p, h1, h2, h3, h4⟩ | ⟨h0, k, h1, h2, h3, h4, h5, h6, h7⟩)
      · exact Or.inl ⟨p, h1, (eu _ _ _ _ _).mpr h2, fun p' hp z => h3 p' hp ((eu _ _ _ _ _).mp z), h4⟩
      · obtain ⟨j, j1, j2, j3, j4, j5⟩ := key.2 k h1 h2 h3
        exact Or.inr ⟨fun p hp z => h0 p hp ((eu _ _ _ _ _).mp z), j, j1, j2, j3, h4, by rw [j4]; exact h5, h6, by rw [j5]; exact h7⟩
  by_cases c : ∃ q : DU, isDu t r f h l n q.1 q.2.1 q.2.2.1 q.2.2.2
  · obtain ⟨q, hq⟩ := c
    rw [dF_some hq, dF_some ((key _ _ _ _).mpr hq)]
  · unfold dF
    rw [dif_neg c, dif_neg]
    rintro ⟨q, hq⟩
    exact c ⟨q, (key _ _ _ _).mp hq⟩
theorem cov_st (hM : MV t) (hM' : MV t') (hr : r < cR t) (m : mfr Wst t t') (se : SEt t r) (hP : lnOk P.1 P.2.2.2) (e : dF t' r P = dF t r P) : stM t' r P (al t' r) = al t' r := by
  have := se P hP
  have ea := al_st hM hM' hr m
  show st1 (dF t' r) (tgM t' r) (g0M t' r) P (al t' r) = al t' r
  rw [ea]
  unfold st1
  rw [e]
  unfold tgM g0M
  rw [m.S 1 (by decide), m.I 42 (by decide), m.I 45 (by decide)]
  exact this
end Ex
