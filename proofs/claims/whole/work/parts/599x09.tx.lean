/-! What a writing of bytes leaves of the relation. -/
theorem tyF_k {u g : Nat} {e : Nat × Nat} (h : tyF u g = some e) : 1 ≤ u ∧ u < 100 ∧ e.1 ≠ 0 ∧ g ≠ 0 := by
  unfold tyF at h
  split at h <;> first | (cases h; done) | (injection h with h; subst h; decide)
theorem ok1 {s : cS} {a : Nat} (h : okO s 1 a) : (s.K a).1 = 4 ∨ (s.K a).1 = 5 := by
  obtain ⟨h1, h2, h3⟩ := h
  generalize (s.K a).1 = u at h1 h2 h3
  revert h3 h1
  revert u
  decide
theorem tyc {H : Nat → Nat → Nat} {s : cS} {a : Nat} (hT : TY cNo H s) (h : okO s 1 a) : (s.K (H 27 a)).1 = 142 := by
  rcases ok1 h with h | h
  · rw [(hT.r h 27 142 4).2]
  · rw [(hT.r h 27 142 4).2]
section Tx
variable {G H : Nat → Nat → Nat} {sa : Nat → Nat} {x b w F L k0 m0 kc ks u : Nat} {s s' : cS} {l : List Int32}
theorem AP.new (h : AP sa b w F L s k0 m0 l s' kc ks) {a : Nat} (ha : (s'.K a).1 ≠ 0) (hw : (s'.K a).1 < 100) : (s.K a).1 ≠ 0 ∧ s'.K a = s.K a := by
  obtain ⟨cap, d, ⟨-, hw2, -⟩, -, -, -, -, -, -, hx, -, -, hg⟩ := h
  by_cases c : (s.K a).1 = 0
  · exfalso
    rcases hg.2 a c with z | z
    · exact ha z
    · omega
  · exact ⟨c, (hx a c).1⟩
theorem AP.pg (h : AP sa b w F L s k0 m0 l s' kc ks) {a g : Nat} (ha : (s.K a).1 ≠ 0) (hg : ¬ (g = 0 ∧ a = b)) : s'.P g a = s.P g a := by
  obtain ⟨cap, d, -, -, -, -, -, -, -, -, -, -, h1⟩ := h
  exact (h1.1 a ha).2 g hg
theorem TY.ap (h : TY cNo H s) (h0 : ∀ a, okO s 0 a → ∃ d, s.P 0 a = some d ∧ 100 ≤ (s.K d).1 ∧ (s.K d).1 < 130) (hA : AP sa b w F L s k0 m0 l s' kc ks) : TY cNo H s' := by
  have hx := hA.x
  refine ⟨fun a g v n _ e => ?_, fun a c g e e' _ _ h1 h2 g1 g2 g3 hh => ?_, fun a c d h1 h2 e1 e2 => ?_⟩
  · have hk := tyF_k e
    obtain ⟨a0, ak⟩ := hA.new (a := a) (by omega) hk.2.1
    rw [ak] at e
    obtain ⟨p1, p2, p3⟩ := h.1 a g v n (fun z => z) e
    have hv : (s.K (H g a)).1 ≠ 0 := by rw [p2]; exact hk.2.2.1
    have kk := (hx (H g a) hv).1
    exact ⟨by rw [hA.pg a0 (fun z => hk.2.2.2 z.1)]; exact p1, by rw [kk]; exact p2, by rw [kk]; exact p3⟩
  · have hk := tyF_k h1
    have hk2 := tyF_k h2
    obtain ⟨a0, ak⟩ := hA.new (a := a) (by omega) hk.2.1
    obtain ⟨c0, ck⟩ := hA.new (a := c) (by omega) hk2.2.1
    rw [ak] at h1
    rw [ck] at h2
    exact h.2.1 a c g e e' (fun z => z) (fun z => z) h1 h2 g1 g2 g3 hh
  · obtain ⟨a0, ak⟩ := hA.new h1.n0 h1.2.1
    obtain ⟨c0, ck⟩ := hA.new h2.n0 h2.2.1
    have o1 : okO s 0 a := by unfold okO at h1 ⊢; rw [← ak]; exact h1
    have o2 : okO s 0 c := by unfold okO at h2 ⊢; rw [← ck]; exact h2
    have hb : ∀ y, okO s 0 y → y ≠ b → s'.P 0 y = some d → s'.P 0 b = some d → False := by
      intro y oy hy ey eb
      rw [hA.pg oy.n0 (fun z => hy z.2)] at ey
      obtain ⟨cap, -, -, -, -, -, hd⟩ := hA.bl
      rcases hd d eb with z | z
      · obtain ⟨-, -, -, -, -, -, -, -, -, -, -, ⟨ob, -⟩, -⟩ := hA
        exact hy (h.2.2 y b d oy ob ey z)
      · obtain ⟨d', e1, e2, -⟩ := h0 y oy
        rw [ey] at e1
        cases e1
        omega
    by_cases ca : a = b
    · by_cases cc : c = b
      · rw [ca, cc]
      · rw [ca] at e1
        exact (hb c o2 cc e2 e1).elim
    · by_cases cc : c = b
      · rw [cc] at e2
        exact (hb a o1 ca e1 e2).elim
      · rw [hA.pg a0 (fun z => ca z.2)] at e1
        rw [hA.pg c0 (fun z => cc z.2)] at e2
        exact h.2.2 a c d o1 o2 e1 e2
theorem RGl.ap (h : RGl G H sa x s) (hA : AP sa b w F L s k0 m0 l s' kc ks) (hb : (s.K b).1 = u) (hu : u ≠ 3) (hw' : w ≠ 129 ∧ w ≠ 103) : RGl G H sa x s' := by
  have hw := hw'.1
  obtain ⟨a1, a2, a3, a4, ⟨n, a5⟩, a6, a7, a8, a9, a10, a11, a12, a13, a14, a15, a16, a17⟩ := h
  have f := hA.fr hb
  have ob := hA
  obtain ⟨cap, d, ⟨o1, ⟨w1, w2, w3⟩, o3, o4, -⟩, -, -, -, -, -, ht, hx, hd0, ⟨ob0, d0, e1, e2⟩, hg⟩ := ob
  have u0 : u ≠ 0 := by rw [← hb]; exact ob0.n0
  have u100 : u < 100 := by rw [← hb]; exact ob0.2.1
  have uk : cKn u = 0 := by rw [← hb]; exact ob0.2.2
  have kind : ∀ v, v < 100 → cKn v ≠ 0 → v ∉ [u, w] := by
    intro v hv hk hm
    rcases List.mem_cons.mp hm with rfl | hm
    · exact hk uk
    · rw [List.mem_singleton.mp hm] at hv; omega
  have old : ∀ {c a}, okO s' c a → okO s c a := by
    intro c a h
    obtain ⟨-, k⟩ := hA.new h.n0 h.2.1
    unfold okO at h ⊢
    rw [← k]; exact h
  have same : ∀ {c a g}, c ≠ 0 → okO s c a → s'.P g a = s.P g a := by
    intro c a g hc h
    refine hA.pg h.n0 (fun z => ?_)
    have := h.2.2
    rw [z.2, ob0.2.2] at this
    exact hc this.symm
  refine ⟨f.r a1, a2.ap a12 hA, ht, fun a ha => ?_, ⟨n, a5.fr f (a2.p a1 237 29).2 (by decide) (kind 29 (by decide) (by decide)) ?_ (by simp)⟩, ?_, ?_, ?_, ?_, ?_, ?_, ?_, ?_, ?_, ?_, ?_, ?_⟩
  · obtain ⟨c0, ck⟩ := hA.new (a := a) (by rw [ha]; decide) (by rw [ha]; decide)
    rw [ck] at ha
    obtain ⟨l2, hl2⟩ := a4 a ha
    have h3 := (a2.p ha 40 3).2
    refine ⟨l2, hl2.fr f h3 ?_ ?_ ?_⟩
    · intro z
      rcases List.mem_cons.mp z with z | z
      · exact hu z.symm
      · rw [List.mem_singleton] at z; omega
    · intro z
      rcases List.mem_cons.mp z with z | z
      · omega
      · exact hw (List.mem_singleton.mp z).symm
    · intro z
      have := List.mem_singleton.mp z
      injection this with q1 q2
      exact hu q2.symm
  · intro z
    have := List.mem_singleton.mp z
    injection this with q1 q2
    exact absurd q1 (by decide)
  · rw [same (c := 11) (by decide) (okr a1 11)]
    rcases a6 with z | ⟨d, z1, z2⟩
    · exact Or.inl z
    · exact Or.inr ⟨d, z1, f.r z2⟩
  · intro a c d h1 h2 e1 e2
    obtain ⟨-, k1⟩ := hA.new (a := a) (by rw [h1]; decide) (by rw [h1]; decide)
    obtain ⟨-, k2⟩ := hA.new (a := c) (by rw [h2]; decide) (by rw [h2]; decide)
    rw [k1] at h1
    rw [k2] at h2
    rw [same (c := 4) (by decide) (okr h1 4)] at e1
    rw [same (c := 4) (by decide) (okr h2 4)] at e2
    exact a7 a c d h1 h2 e1 e2
  · intro a c d h1 h2 e1 e2
    obtain ⟨-, k1⟩ := hA.new (a := a) (by rw [h1]; decide) (by rw [h1]; decide)
    obtain ⟨-, k2⟩ := hA.new (a := c) (by rw [h2]; decide) (by rw [h2]; decide)
    rw [k1] at h1
    rw [k2] at h2
    rw [same (c := 4) (by decide) (okr h1 4)] at e1
    rw [same (c := 4) (by decide) (okr h2 4)] at e2
    exact a8 a c d h1 h2 e1 e2
  · intro a c d h1 h2 e1 e2
    rw [same (c := 10) (by decide) (old h1)] at e1
    rw [same (c := 10) (by decide) (old h2)] at e2
    exact a9 a c d (old h1) (old h2) e1 e2
  · intro a d h1 e1
    rw [same (c := 1) (by decide) (old h1)] at e1
    exact f.k (a10 a d (old h1) e1)
  · intro a c d h1 h2 e1 e2
    rw [same (c := 1) (by decide) (old h1)] at e1
    rw [same (c := 1) (by decide) (old h2)] at e2
    exact a11 a c d (old h1) (old h2) e1 e2
  · intro a h1
    by_cases c : a = b
    · subst c
      exact ⟨d, o3, by rw [o4]; exact w1, by rw [o4]; exact w2⟩
    · obtain ⟨d', q1, q2, q3⟩ := a12 a (old h1)
      have kk := (hx d' (by omega)).1
      exact ⟨d', by rw [hA.pg (old h1).n0 (fun z => c z.2)]; exact q1, by rw [kk]; exact q2, by rw [kk]; exact q3⟩
  · intro a h1 k hk
    obtain ⟨w', q1, q2⟩ := a13 a (old h1) k hk
    exact ⟨w', by rw [f.q (tyc a2 (old h1)) (by simp)]; exact q1, f.k q2⟩
  · intro a c k k' w' h1 h2 hk hk' e1 e2
    rw [f.q (tyc a2 (old h1)) (by simp)] at e1
    rw [f.q (tyc a2 (old h2)) (by simp)] at e2
    exact a14 a c k k' w' (old h1) (old h2) hk hk' e1 e2
  · intro a i h1 hi
    by_cases c0 : (s.K a).1 = 0
    · exfalso
      rcases hg.2 a c0 with z | z
      · rw [h1] at z; exact absurd z (by decide)
      · exact hw'.2 (z.symm.trans h1)
    · have kk := (hx a c0).1
      have h1' : (s.K a).1 = 103 := by rw [← kk]; exact h1
      rw [(f.v h1' (fun z => by
        rcases List.mem_cons.mp z with z | z
        · omega
        · exact hw'.2 (List.mem_singleton.mp z).symm)).2.2]
      exact a15 a i h1' hi
  · intro a h1
    obtain ⟨-, k1⟩ := hA.new (a := a) (by rw [h1]; decide) (by rw [h1]; decide)
    rw [k1] at h1
    obtain ⟨d', e', q1, q2, q3, q4⟩ := a16 a h1
    exact ⟨d', e', by rw [same (c := 4) (by decide) (okr h1 4)]; exact q1, by rw [same (c := 4) (by decide) (okr h1 4)]; exact q2, f.r q3, f.r q4⟩
  · intro a h1
    obtain ⟨d', q1, q2⟩ := a17 a (old h1)
    exact ⟨d', by rw [same (c := 10) (by decide) (old h1)]; exact q1, by rw [(hx d' q2).1]; exact q2⟩
end Tx
theorem djp.s {L L' R : List (Nat × Nat)} (h : djp L R) (g : (L'.all fun u => L.contains u) = true := by decide) : djp L' R := List.all_eq_true.mpr fun u hu => List.all_eq_true.mp h u (List.contains_iff_mem.mp (List.all_eq_true.mp g u hu))
section Rq
variable {G H : Nat → Nat → Nat} {sa : Nat → Nat} {x : Nat} {s s' : cS} {t t' : moS} {W : List Nat}
theorem RIn.fr (h : RIn G t) (m : mfr W t t') (d : dj [17, 27, 37, 46, 70] W) : RIn G t' := by
  unfold RIn cL cS' cR cI at h ⊢
  simp only [m.S 17 (d.n 17), m.S 27 (d.n 27), m.S 37 (d.n 37), m.I 46 (d.n 46), m.I 70 (d.n 70)]
  exact h
def f_RQ : List Nat := [1, 4, 17, 18, 19, 20, 21, 22, 23, 24, 25, 26, 27, 28, 29, 30, 31, 32, 33, 34, 35, 36, 37, 38, 39, 40, 41, 42, 43, 44, 45, 46, 47, 48, 49, 50, 51, 52, 53, 54, 55, 56, 57, 58, 59, 60, 61, 62, 63, 64, 65, 66, 67, 68, 69, 70, 71, 72, 73, 74, 75, 76, 77, 78, 79, 80, 81, 82, 83, 84, 85, 86, 87, 88, 89, 90, 91, 92, 93, 94, 95, 96, 97, 98, 99, 100, 101, 102, 103, 104, 105, 106, 107, 108, 109, 110, 111, 112, 113, 114, 115, 117, 118, 119, 120, 121, 122, 123, 124, 126, 127, 128, 129, 130, 131, 132, 133, 134, 135, 136, 137, 138]
def r_RQ : List Nat := [2, 3, 4, 6, 7, 8, 9, 10, 11, 12, 13, 14, 15, 16, 17, 20, 21, 23, 24, 26, 27, 28, 30, 31, 36, 100, 102, 103, 104, 105, 106, 109, 110, 111, 112, 115, 118, 120, 121, 122, 123, 125, 126, 128, 129]
def p_RQ : List (Nat × Nat) := [(0, 2), (0, 3), (28, 4), (47, 6), (48, 6), (60, 7), (81, 8), (82, 8), (96, 8), (97, 8), (120, 20), (166, 23), (181, 26), (200, 27), (200, 28), (236, 30), (260, 31)]
def q_RQ : List Nat := [130, 131, 132, 133, 134, 135, 136, 137, 138, 139, 140, 141, 142, 143, 145]
/-- the relation but for the texts stays where its parts stay -/
theorem RQ.fr {Rv Rq : List Nat} {Gp : List (Nat × Nat)} (h : RQ G H sa x s t) (hM : MV t) (hg : RGl G H sa x s') (f : fr Rv Gp Rq s s') (m : mfr W t t') (d1 : dj r_RQ Rv) (d2 : djp p_RQ Gp) (d3 : dj q_RQ Rq) (d4 : dj f_RQ W) : RQ G H sa x s' t' := by
  obtain ⟨a, b, c, e, g, i, j⟩ := h
  have hT := a.2.1
  have hx := a.1
  have ht := hg.2.2.1
  have e1 : cL t' = cL t := by unfold cL; rw [m.S 17 (d4.n 17)]
  have e2 : cS' t' = cS' t := by unfold cS'; rw [m.S 27 (d4.n 27)]
  have e3 : cR t' = cR t := by unfold cR; rw [m.S 37 (d4.n 37)]
  have e4 : ∀ r, cI t' r = cI t r := fun r => by unfold cI; rw [m.I 70 (d4.n 70)]
  obtain ⟨v1, v2, v3⟩ := f.v hx (d1.n 30)
  refine ⟨hg, b.fr m d4.s, ?_, ?_, ?_, ?_, j.fr hT hx f m ⟨v1 233, v1 235⟩ d1.s d2.s d3.s d4.s⟩
  · rw [v1, v1, v1, v1, v1, m.S 4 (d4.n 4), m.S 1 (d4.n 1), m.S 17 (d4.n 17), m.S 37 (d4.n 37), m.S 27 (d4.n 27)]
    exact c
  · rw [e1]; exact fun k hk => (e k hk).fr hT hx f ht m d1.s d2.s d3.s d4.s
  · rw [e2]; exact fun k hk => (g k hk).fr hT hx f ht m d1.s d2.s d3.s d4.s
  · rw [e3]
    intro r hr
    obtain ⟨i1, i2, i3, i4, i5, i6, i7⟩ := i r hr
    have hv := hM.r hr
    refine ⟨i1.fr hT hx f ht m d1.s d2.s d3.s d4.s, i2.fr hT i1.1.1 f ((f.v i1.1.1 (d1.n 26)).1 199) m d1.s d2.s d3.s d4.s, i3.fr hT i1.1.1 f m d1.s d2.s d3.s d4.s, i4.fr hT i1.1.1 f m d1.s d3.s d4.s, i5.fr hT i1.1.1 f m d1.s d3.s d4.s, i6.fr hT i1.1.1 ⟨hv.2.2.2.2.2.2.1.1.n.2.2, hv.2.2.2.2.2.2.2.1.1.n.2.2⟩ f m d1.s d3.s d4.s, ?_⟩
    rw [e4]
    intro p hp
    exact (i7 p hp).fr hT i1.1.1 (hv.i hp).2.2.2.2.2.2.2.2.2.2.1.n.2.2 f m d1.s d2.s d3.s d4.s
end Rq
