/-! What holds of the model, where some fields are others. -/
section Mvf
variable {W : List Nat} {t t' : moS}
def f_mVl : List Nat := [18, 19, 20, 21, 22, 23, 24, 25]
theorem mVl.fr {i : Nat} (h : mVl t i) (m : mfr W t t') (d : dj f_mVl W) : mVl t' i := by
  unfold mVl at h ⊢
  simp only [m.I 19 (d.n 19), m.I 20 (d.n 20), m.I 21 (d.n 21), m.I 22 (d.n 22), m.I 23 (d.n 23), m.I 24 (d.n 24), m.I 25 (d.n 25), m.J 18 (d.n 18)]
  exact h
def f_mVs : List Nat := [28, 29, 30, 31, 34, 35, 36]
theorem mVs.fr {i : Nat} (h : mVs t i) (m : mfr W t t') (d : dj f_mVs W) : mVs t' i := by
  unfold mVs at h ⊢
  simp only [m.I 29 (d.n 29), m.I 30 (d.n 30), m.I 31 (d.n 31), m.I 34 (d.n 34), m.I 35 (d.n 35), m.I 36 (d.n 36), m.J 28 (d.n 28)]
  exact h
def f_mVr : List Nat := [17, 27, 38, 39, 40, 41, 42, 46, 47, 50, 51, 52, 53, 54, 57, 58, 59, 60, 61, 62, 63, 64, 65, 66, 67, 68, 69, 70, 71, 72, 73, 74, 75, 78, 79, 80, 82, 83, 84, 85, 87, 88, 90, 91, 94, 95, 96, 99, 100, 105, 106, 107, 108, 109, 110, 111, 112, 113, 114, 115, 116, 119]
theorem mVr.fr {r : Nat} (h : mVr t r) (m : mfr W t t') (d : dj f_mVr W) : mVr t' r := by
  unfold mVr mVi mRw mKy cL cS' cI cN at h ⊢
  simp only [m.I 39 (d.n 39), m.I 40 (d.n 40), m.I 41 (d.n 41), m.I 42 (d.n 42), m.I 46 (d.n 46), m.I 47 (d.n 47), m.I 50 (d.n 50), m.I 51 (d.n 51), m.I 52 (d.n 52), m.I 53 (d.n 53), m.I 54 (d.n 54), m.I 57 (d.n 57), m.I 58 (d.n 58), m.I 59 (d.n 59), m.I 60 (d.n 60), m.I 61 (d.n 61), m.I 62 (d.n 62), m.I 63 (d.n 63), m.I 64 (d.n 64), m.I 65 (d.n 65), m.I 66 (d.n 66), m.I 67 (d.n 67), m.I 68 (d.n 68), m.I 69 (d.n 69), m.I 70 (d.n 70), m.I 71 (d.n 71), m.I 72 (d.n 72), m.I 74 (d.n 74), m.I 75 (d.n 75), m.I 78 (d.n 78), m.I 79 (d.n 79), m.I 80 (d.n 80), m.I 82 (d.n 82), m.I 83 (d.n 83), m.I 84 (d.n 84), m.I 85 (d.n 85), m.I 87 (d.n 87), m.I 88 (d.n 88), m.I 90 (d.n 90), m.I 91 (d.n 91), m.I 94 (d.n 94), m.I 95 (d.n 95), m.I 96 (d.n 96), m.I 99 (d.n 99), m.I 100 (d.n 100), m.I 105 (d.n 105), m.I 106 (d.n 106), m.I 109 (d.n 109), m.I 110 (d.n 110), m.I 111 (d.n 111), m.I 112 (d.n 112), m.I 113 (d.n 113), m.I 116 (d.n 116), m.I 119 (d.n 119), m.J 38 (d.n 38), m.J 73 (d.n 73), m.J 107 (d.n 107), m.J 108 (d.n 108), m.J 114 (d.n 114), m.J 115 (d.n 115), m.S 17 (d.n 17), m.S 27 (d.n 27)]
  exact h
def f_mVf : List Nat := [17, 37, 70, 71, 123, 124, 125, 126, 127, 128, 131, 137]
theorem mVf.fr (h : mVf t) (m : mfr W t t') (d : dj f_mVf W) : mVf t' := by
  unfold mVf cL cR cI cF at h ⊢
  simp only [m.I 70 (d.n 70), m.I 71 (d.n 71), m.I 124 (d.n 124), m.I 125 (d.n 125), m.I 126 (d.n 126), m.I 127 (d.n 127), m.I 128 (d.n 128), m.I 131 (d.n 131), m.I 137 (d.n 137), m.S 17 (d.n 17), m.S 37 (d.n 37), m.S 123 (d.n 123)]
  exact h
def f_mVz : List Nat := [17, 23, 24, 25, 27, 29, 37, 45, 46, 53, 59, 63, 70, 74, 75, 79, 82, 89, 90, 95, 99, 100, 101, 102, 105]
theorem mVz.fr (h : mVz t) (m : mfr W t t') (d : dj f_mVz W) : mVz t' := by
  unfold mVz mZi cL cS' cR cI at h ⊢
  simp only [m.I 23 (d.n 23), m.I 24 (d.n 24), m.I 25 (d.n 25), m.I 29 (d.n 29), m.I 45 (d.n 45), m.I 46 (d.n 46), m.I 53 (d.n 53), m.I 59 (d.n 59), m.I 63 (d.n 63), m.I 70 (d.n 70), m.I 74 (d.n 74), m.I 75 (d.n 75), m.I 79 (d.n 79), m.I 82 (d.n 82), m.I 89 (d.n 89), m.I 90 (d.n 90), m.I 95 (d.n 95), m.I 99 (d.n 99), m.I 100 (d.n 100), m.I 102 (d.n 102), m.I 105 (d.n 105), m.S 17 (d.n 17), m.S 27 (d.n 27), m.S 37 (d.n 37), m.S 101 (d.n 101), m.2 102 (Or.inl (d.n 102))]
  exact h
def f_MV : List Nat := [17, 18, 19, 20, 21, 22, 23, 24, 25, 27, 28, 29, 30, 31, 34, 35, 36, 37, 38, 39, 40, 41, 42, 45, 46, 47, 50, 51, 52, 53, 54, 57, 58, 59, 60, 61, 62, 63, 64, 65, 66, 67, 68, 69, 70, 71, 72, 73, 74, 75, 78, 79, 80, 82, 83, 84, 85, 87, 88, 89, 90, 91, 94, 95, 96, 99, 100, 101, 102, 105, 106, 107, 108, 109, 110, 111, 112, 113, 114, 115, 116, 119, 123, 124, 125, 126, 127, 128, 131, 137]
theorem dj.s {L L' R : List Nat} (h : dj L R) (g : (L'.all fun u => L.contains u) = true := by decide) : dj L' R := List.all_eq_true.mpr fun u hu => List.all_eq_true.mp h u (List.contains_iff_mem.mp (List.all_eq_true.mp g u hu))
theorem MV.fr (h : MV t) (m : mfr W t t') (d : dj f_MV W) (ha : mVa t') : MV t' := by
  obtain ⟨-, h1, h2, h3, h4, h5⟩ := h
  have e1 : cL t' = cL t := by unfold cL; rw [m.S 17 (d.n 17)]
  have e2 : cS' t' = cS' t := by unfold cS'; rw [m.S 27 (d.n 27)]
  have e3 : cR t' = cR t := by unfold cR; rw [m.S 37 (d.n 37)]
  refine ⟨ha, ?_, ?_, ?_, h4.fr m d.s, h5.fr m d.s⟩
  · rw [e1]; exact fun i hi => (h1 i hi).fr m d.s
  · rw [e2]; exact fun i hi => (h2 i hi).fr m d.s
  · rw [e3]; exact fun r hr => (h3 r hr).fr m d.s
theorem mN.fr (h : mN t) (m : mfr W t t') (d : dj [5, 7, 102, 103, 104] W) : mN t' := by
  obtain ⟨a, b, c, e⟩ := h
  refine ⟨fun k hk => (m.2 k (Or.inr hk)).trans (a k hk), ?_, ?_, ?_⟩
  · rw [m.2 7 (Or.inl (d.n 7))]; exact b
  · rw [m.2 5 (Or.inl (d.n 5))]; exact c
  · rw [m.2 102 (Or.inl (d.n 102)), m.2 103 (Or.inl (d.n 103)), m.2 104 (Or.inl (d.n 104))]; exact e
def f_mVa : List Nat := [1, 3, 5, 6, 7, 17, 27, 37, 102, 103, 104]
theorem mVa.fr (h : mVa t) (m : mfr W t t') (d : dj f_mVa W) : mVa t' := by
  obtain ⟨a, b⟩ := h
  refine ⟨a.fr m d.s, ?_⟩
  rw [m.S 1 (d.n 1), m.S 3 (d.n 3), m.S 6 (d.n 6), m.2 5 (Or.inl (d.n 5)), m.S 17 (d.n 17), m.S 27 (d.n 27), m.S 37 (d.n 37)]
  exact b
end Mvf
