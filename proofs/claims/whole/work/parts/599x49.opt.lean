/-! Options of two sorts, each with a number behind it. -/
def fo (rd : Nat) (s s' : cS) : Prop := s'.K = s.K ∧ s'.P = s.P ∧ s'.J = s.J ∧ s'.Q = s.Q ∧ s'.E = s.E ∧ ∀ g a, ¬ (a = rd ∧ g ≠ 143) → s'.I g a = s.I g a
section Fo
variable {G H : Nat → Nat → Nat} {sa : Nat → Nat} {rd x kc ks : Nat} {s s1 s2 : cS} {t t' : moS} {l : List Int32} {ws : List (Nat × Nat)} {W : List Nat}
theorem fo.rf : fo rd s s := ⟨rfl, rfl, rfl, rfl, rfl, fun _ _ _ => rfl⟩
theorem fo.tr (h : fo rd s s1) (g : fo rd s1 s2) : fo rd s s2 := by
  obtain ⟨a1, a2, a3, a4, a5, a6⟩ := h
  obtain ⟨b1, b2, b3, b4, b5, b6⟩ := g
  exact ⟨b1.trans a1, b2.trans a2, b3.trans a3, b4.trans a4, b5.trans a5, fun g a z => (b6 g a z).trans (a6 g a z)⟩
theorem cSI_o {g k a b : Nat} {v : Int32} (h : b ≠ a) : (cSI s g a v).I k b = s.I k b := by
  by_cases c : k = g
  · subst c; exact cSI_a h
  · exact cSI_g c
theorem fo.si {g : Nat} {v : Int32} (hg : g ≠ 143) : fo rd s (cSI s g rd v) := ⟨rfl, rfl, rfl, rfl, rfl, fun k a h => by
  by_cases c : a = rd
  · subst c
    by_cases c2 : k = g
    · exact absurd ⟨rfl, by rw [c2]; exact hg⟩ h
    · exact cSI_g c2
  · exact cSI_o c⟩
theorem fo.o (h : fo rd s s1) {c a : Nat} (ha : okO s c a) : okO s1 c a := by unfold okO at ha ⊢; rw [h.1]; exact ha
theorem fo.fr (h : fo rd s s1) (hr : (s.K rd).1 = 22) : fr [22] [] [] s s1 := by
  obtain ⟨a1, a2, a3, a4, a5, a6⟩ := h
  intro a ha
  refine ⟨by rw [a1], fun hb => ⟨fun g => a6 g a (fun z => hb (by rw [z.1, hr]; exact List.mem_singleton.mpr rfl)), fun g => by rw [a3], by rw [a5]⟩, fun g _ => by rw [a2], fun _ => by rw [a4]⟩
theorem rr_fr {Rv Rq : List Nat} {Gp : List (Nat × Nat)} (h : RR G H sa x s t) (hM : MV t) (hg : RGl G H sa x s1) (f : fr Rv Gp Rq s s1) (m : mfr W t t') (d1 : dj r_RQ Rv) (d2 : djp p_RQ Gp) (d3 : dj q_RQ Rq) (d4 : dj f_RQ W) (d5 : dj [1, 101, 32, 124] Rv) (d6 : djp [(0, 1), (0, 32), (221, 30), (222, 30)] Gp) (d7 : dj [2, 3, 5, 6] W) : RR G H sa x s1 t' :=
  RQ.r (h.q.1.fr hM hg f m d1 d2 d3 d4) (h.q.2.fr h.q.1.ty h.q.1.1.1 f m d5 d6 d7)
theorem RdC.fo (h : RdC H x rd s l ws) (f : fo rd s s1) (hx : x ≠ rd) (h2 : H 220 x ≠ rd) : RdC H x rd s1 l ws := by
  obtain ⟨⟨cap, hb⟩, ⟨o1, o2⟩, ⟨p1, p2⟩, ⟨a1, a2⟩, ⟨b1, b2⟩, ⟨w1, w2⟩, w3, w4⟩ := h
  have f' := f
  obtain ⟨e1, e2, e3, e4, e5, e6⟩ := f'
  refine ⟨⟨cap, ?_⟩, ⟨f.o o1, f.o o2⟩, ?_, ?_, ?_, ⟨?_, ?_⟩, w3, w4⟩
  · obtain ⟨z1, z2, d, z3, z4, z5, z6⟩ := hb
    exact ⟨f.o z1, z2, d, by rw [e2]; exact z3, by rw [e1]; exact z4, by rw [e6 1 _ (fun z => h2 z.1)]; exact z5, by rw [e5]; exact z6⟩
  · rw [e2]; exact ⟨p1, p2⟩
  · rw [e1, e2]; exact ⟨a1, a2⟩
  · rw [e1, e2]; exact ⟨b1, b2⟩
  · rw [e6 143 rd (fun z => z.2 rfl)]; exact w1
  · rw [e5]; exact w2
theorem LX.ne (h : LX G H sa x rd s t l ws) : x ≠ rd ∧ H 220 x ≠ rd := by
  have h1 := h.2.2.1.2
  refine ⟨fun e => ?_, fun e => ?_⟩
  · have := h.q.1.1
    rw [e, h1] at this
    exact absurd this (by decide)
  · have := (h.q.ty.p h.q.1.1 220 1).2
    rw [e, h1] at this
    exact absurd this (by decide)
theorem LX.fo (h : LX G H sa x rd s t l ws) (f : fo rd s s1) : LX G H sa x rd s1 t l ws := by
  have hne := h.ne
  obtain ⟨hR, hM, ⟨p1, p2⟩, hc, hw, hu⟩ := h
  have ff := f.fr p2
  refine ⟨rr_fr hR hM (hR.q.1.1.v f.1 f.2.1 ff rfl rfl rfl) ff (mfr.rf (W := [])) rfl rfl rfl rfl rfl rfl rfl, hM, ⟨by rw [f.2.1]; exact p1, by rw [f.1]; exact p2⟩, RdC.fo hc f hne.1 hne.2, hw, hu⟩
theorem LX.px (h : LX G H sa x rd s t l ws) : s.P 146 rd = some (H 146 rd) ∧ (s.K (H 146 rd)).1 = 19 ∧ okO s 5 (H 146 rd) ∧ H 146 rd ≠ H 220 x ∧ H 146 rd ≠ rd := by
  have h1 := h.q.ty.p h.2.2.1.2 146 19
  refine ⟨h1.1, h1.2, okr h1.2 5, fun e => ?_, fun e => ?_⟩
  · have := (h.q.ty.p h.q.1.1 220 1).2
    rw [← e, h1.2] at this
    exact absurd this (by decide)
  · have := h1.2
    rw [e, h.2.2.1.2] at this
    exact absurd this (by decide)
theorem LX.fp (h : LX G H sa x rd s t l ws) (f : fp (H 146 rd) s s1) : LX G H sa x rd s1 t l ws := by
  obtain ⟨-, q1, -, q2, q3⟩ := h.px
  obtain ⟨hR, hM, ⟨p1, p2⟩, hc, hw, hu⟩ := h
  have ff := f.fr q1
  refine ⟨rr_fr hR hM (hR.q.1.1.v f.1 f.2.1 ff rfl rfl rfl) ff (mfr.rf (W := [])) rfl rfl rfl rfl rfl rfl rfl, hM, ⟨by rw [f.2.1]; exact p1, by rw [f.1]; exact p2⟩, RdC.fp hc f q2 q3, hw, hu⟩
/-- the model has read something beside -/
theorem LX.mf (h : LX G H sa x rd s t l ws) (m : mfr W t t') (d : dj f_RQ W) (d2 : dj [2, 3, 5, 6] W) (d3 : dj [9, 10, 11, 102, 103, 104, 7] W) (d4 : dj f_MV W) (d5 : dj f_mVa W) : LX G H sa x rd s t' l ws := by
  obtain ⟨hR, hM, hp, hc, hw, hu⟩ := h
  refine ⟨hR.mf hM m d d2, hM.fr m d4 (hM.1.fr m d5), hp, hc, ?_, ?_⟩
  · unfold mWw at hw ⊢
    rw [m.S 11 (d3.n 11), m.I 9 (d3.n 9), m.I 10 (d3.n 10)]
    exact hw
  · obtain ⟨u1, u2, u3⟩ := hu
    refine ⟨u1, u2, fun i hi => ?_⟩
    have := u3 i hi
    unfold rdI at this ⊢
    rw [m.I 2 (d2.n 2), m.2 2 (Or.inl (d2.n 2))]
    exact this
end Fo
/-- options of the sorts a and b from f on, of n words: where their numbers stand -/
def oP (C : Nat → Int64) (a b : Int64) (n f : Nat) : Option (Nat × Nat) := if n = f then some (0, 0) else if n = f + 2 then (if C f = a then some (f + 1, 0) else if C f = b then some (0, f + 1) else none) else if n = f + 4 then (if C f = a ∧ C (f + 2) = b then some (f + 1, f + 3) else if C f = b ∧ C (f + 2) = a then some (f + 3, f + 1) else none) else none
theorem oP_s {C : Nat → Int64} {a b : Int64} {n f p q : Nat} (h : oP C a b n f = some (p, q)) : (p = 0 ∨ f < p ∧ p < n) ∧ (q = 0 ∨ f < q ∧ q < n) ∧ f ≤ n ∧ n ≤ f + 4 := by
  unfold oP at h
  split at h
  · cases h; omega
  · split at h
    · split at h
      · cases h; omega
      · split at h
        · cases h; omega
        · cases h
    · split at h
      · split at h
        · cases h; omega
        · split at h
          · cases h; omega
          · cases h
      · cases h
