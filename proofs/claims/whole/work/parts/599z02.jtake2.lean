/-! A join's options, all of the class's taking. -/
section Cz
variable {G H : Nat → Nat → Nat} {sa : Nat → Nat} {x kc ks ch cp rd : Nat} {s s1 : cS} {t : moS} {V : chV} {Q : cS → Nat → Nat → Prop} {l : List Int32} {ws : List (Nat × Nat)}
theorem w_copyC (hg : RGl G H sa x s) (hc : okO s 1 ch) (hp : okO s 1 cp) (hne : cp ≠ ch) (hV : VV V) (hC : CC H s cp V) (k : ∀ s', fch H ch s s' → CC H s' ch V → (∀ i, i < 16 → s'.E (H 21 ch) i = s.E (H 21 cp) i) → Q s' kc ks) : C_Ch_copy sa ch (some cp) s kc ks Q := by
  obtain ⟨⟨p1, q1⟩, -⟩ := chK hg hc
  obtain ⟨⟨P1, Q1⟩, -⟩ := chK hg hp
  have n21 : H 21 cp ≠ H 21 ch := fun z => hne (by
    rcases ok1 hp with a | a <;> rcases ok1 hc with b | b <;> exact hg.2.1.i a b 21 (by decide) z)
  have b20 : s.I 20 cp = 0 ∨ s.I 20 cp = 1 := by
    rw [hC.1]; split
    · exact Or.inr rfl
    · exact Or.inl rfl
  unfold C_Ch_copy
  refine ⟨cp, rfl, _, gd_to hp, _, gd_to ⟨hc, b20⟩, _, gd_to (show okO (cSI s 20 ch _) 1 cp from hp), _, gd_to (show okO (cSI s 20 ch _) 1 ch from hc), H 21 cp, P1, H 21 ch, p1, ?_⟩
  show ob (cpE (cSI s 20 ch (s.I 20 cp)) (H 21 cp) 0 (H 21 ch) 0 16) _
  refine cp16 (s := cSI s 20 ch (s.I 20 cp)) (u := 103) (v := 103) Q1 q1 (by decide) (by decide) (fun i hi => hg.2.2.2.2.2.2.2.2.2.2.2.2.2.2.1 _ i (by rw [Q1]) hi) fun s2 f2 e2 => ?_
  have f20 : fch H ch s s2 := (fch.si (g := 20) (v := s.I 20 cp)).tr (fe_ch f2 (Or.inl rfl))
  refine ⟨_, gd_to (f20.o hp), _, gd_to (f20.o hc), ?_⟩
  have e22 : s2.I 22 cp = nI V.2.2.length := by rw [f20.2.2.2.2.1 22 cp hne]; exact hC.2.1
  rw [show s2.I (20 * 1 + 2) cp = nI V.2.2.length from e22]
  show C_Ch_copy_b33 sa ch (some cp) 0 (cSI s2 22 ch (nI V.2.2.length)) kc ks Q
  unfold C_Ch_copy_b33
  intro P33 hP
  refine w_cpL hg hc hp hne hV hC hP k V.2.2.length 0 _ (by omega) (f20.tr fch.si) ⟨?_, cSI_s, fun j v hj => absurd hj (Nat.not_lt_zero j), fun h1 i hi => ?_⟩ fun i hi => e2 i hi
  · rw [cSI_g (by decide), f2.2.2.2.2.1, cSI_s]; exact hC.1
  · show s2.E (H 21 ch) i = _
    rw [e2 i hi]
    exact hC.2.2.2 h1 i hi
/-- all options of a join -/
theorem w_takeJ {Q : Int32 → cS → Nat → Nat → Prop} {po : Option Nat} {P : List (Nat × Nat)} {V0 : chV} (h : LX G H sa x rd s t l ws) (hP : jP (wC l ws) ws.length ws.length 4 0 = some P) (ok : jOk (wC l ws) P) (hpo : po = none ∧ V0 = (0, [], []) ∨ ∃ a cp, po = some a ∧ okO s 4 a ∧ s.P 86 a = some cp ∧ (s.K cp).1 = 4 ∧ VV V0 ∧ CC H s cp V0) (k : ∀ s' z', z' = P.foldl (jS l ws) (-1, -1, 0, V0, 0) → JZ G H sa x rd s s' t l ws z' → Q z'.2.2.2.2 s' kc ks) : C_Re_takeJoinOptions sa rd po s kc ks Q := by
  have or' := h.or
  obtain ⟨c1, c2, c3⟩ := h.c5
  have n5 : H 151 rd ≠ rd := fun z => by
    have := h.2.2.1.2
    rw [z] at c2
    rw [c2] at this
    exact absurd this (by decide)
  unfold C_Re_takeJoinOptions
  refine ⟨_, gd_to or', _, gd_to or', _, gd_to ⟨or', Or.inl rfl⟩, _, gd_to or', H 151 rd, c1, c3, ?_⟩
  show C_Ch_clear sa (H 151 rd) (cSI (cSI (cSI s 148 rd (-1)) 149 rd (-1)) 150 rd 0) kc ks _
  generalize hs3 : cSI (cSI (cSI s 148 rd (-1)) 149 rd (-1)) 150 rd 0 = s3
  have f3 : fo rd s s3 := by rw [← hs3]; exact (fo.si (by decide)).tr ((fo.si (by decide)).tr (fo.si (by decide)))
  have h3 := h.fo f3
  have i3 : s3.I 148 rd = -1 ∧ s3.I 149 rd = -1 ∧ s3.I 150 rd = 0 := by
    rw [← hs3]
    exact ⟨by rw [cSI_g (by decide), cSI_g (by decide), cSI_s], by rw [cSI_g (by decide), cSI_s], cSI_s⟩
  have c33 := h3.c5.2.2
  unfold C_Ch_clear
  refine ⟨_, gd_to ⟨c33, Or.inl rfl⟩, _, gd_to c33, ?_⟩
  show (if po = none then C_Re_takeJoinOptions_b37 sa rd (cSI (cSI s3 20 (H 151 rd) 0) 22 (H 151 rd) 0) kc ks Q else _)
  generalize hs5 : cSI (cSI s3 20 (H 151 rd) 0) 22 (H 151 rd) 0 = s5
  have f5 : fch H (H 151 rd) s3 s5 := by rw [← hs5]; exact fch.si.tr fch.si
  have k21 := (chK h3.q.1 c33).1.2
  obtain ⟨h5, ff5⟩ := lx_fc h3 f5 fun i hi => by
    rw [show s5.E = s3.E by rw [← hs5]; rfl]
    exact h3.q.1.2.2.2.2.2.2.2.2.2.2.2.2.2.2.1 _ i (by rw [k21]) hi
  have i5 : ∀ g, s5.I g rd = s3.I g rd := fun g => f5.2.2.2.2.1 g rd n5.symm
  have fr5 : fr Rjo [] [] s s5 := (f3.fr h.2.2.1.2).wk.tr ff5
  have lp : ∀ s6, JZ G H sa x rd s s6 t l ws (-1, -1, 0, V0, 0) → C_Re_takeJoinOptions_b37 sa rd s6 kc ks Q := fun s6 hz => by
    unfold C_Re_takeJoinOptions_b37 C_Re_takeJoinOptions_b41
    intro P41 hP41
    exact w_takeL hP41 ws.length 4 0 P (-1, -1, 0, V0, 0) s6 (by decide) (by decide) hP ok hz k
  rcases hpo with ⟨rfl, rfl⟩ | ⟨a, cp, rfl, oa, pa, kp, hV0, hC0⟩
  · refine ifT rfl (lp s5 ⟨h5, ⟨?_, ?_, fun k v hk => (by cases hk), fun z => absurd (show (0 : Nat) = 1 from z) (by decide)⟩, ⟨show 0 ≤ 2 by decide, show 0 ≤ 4 by decide, ⟨fun z : 0 = 2 => absurd z (by decide), fun z : 1 ≤ 0 => absurd z (by decide)⟩, fun z : 0 = 1 => absurd z (by decide), fun k v hk => (by cases hk), fun k k' v v' hk _ _ => (by cases hk)⟩, ⟨by rw [i5]; exact i3.1, by rw [i5]; exact i3.2.1, by rw [i5]; exact i3.2.2⟩, fr5, f5.1.trans f3.1, f5.2.1.trans f3.2.1⟩)
    · rw [← hs5, cSI_g (by decide), cSI_s]; rfl
    · rw [← hs5]; exact cSI_s
  · have K5 : s5.K = s.K := f5.1.trans f3.1
    have P5 : s5.P = s.P := f5.2.1.trans f3.2.1
    have ok5 : ∀ {u a : Nat}, okO s u a → okO s5 u a := fun h => by unfold okO at h ⊢; rw [K5]; exact h
    have ne : cp ≠ H 151 rd := fun z => by rw [z, c2] at kp; exact absurd kp (by decide)
    have nr : cp ≠ rd := fun z => by
      have := h.2.2.1.2
      rw [← z, kp] at this
      exact absurd this (by decide)
    have ocp : okO s 1 cp := okr kp 1
    have C3 : CC H s3 cp V0 := by
      obtain ⟨e1, e2, e3⟩ := hC0
      refine ⟨by rw [f3.2.2.2.2.2 20 cp (fun z => nr z.1)]; exact e1, by rw [f3.2.2.2.2.2 22 cp (fun z => nr z.1)]; exact e2, ?_⟩
      rw [f3.2.2.2.2.1, f3.2.2.2.1]
      exact e3
    have C5 : CC H s5 cp V0 := C3.fch f5 h3.q.1 c33 (f3.o ocp) ne hV0.2.1
    refine ifF (by intro z; cases z) ⟨_, gd_to h5.or, a, rfl, _, gd_to (ok5 oa), H 151 rd, by show s5.P 151 rd = _; rw [P5]; exact c1, h5.c5.2.2, ?_⟩
    rw [show s5.P (20 * 4 + 6) a = some cp by show s5.P 86 a = _; rw [P5]; exact pa]
    refine w_copyC h5.q.1 h5.c5.2.2 (ok5 ocp) ne hV0 C5 fun s6 f6 C6 e6 => ?_
    have k21' := (chK h5.q.1 (ok5 ocp)).1.2
    obtain ⟨h6, ff6⟩ := lx_fc h5 f6 fun i hi => by
      rw [e6 i hi]
      exact h5.q.1.2.2.2.2.2.2.2.2.2.2.2.2.2.2.1 _ i (by rw [k21']) hi
    have i6 : ∀ g, s6.I g rd = s3.I g rd := fun g => (f6.2.2.2.2.1 g rd n5.symm).trans (i5 g)
    exact lp s6 ⟨h6, C6, hV0, ⟨by rw [i6]; exact i3.1, by rw [i6]; exact i3.2.1, by rw [i6]; exact i3.2.2⟩, fr5.tr ff6, f6.1.trans K5, f6.2.1.trans P5⟩
end Cz
