/-! What changes with datagrams: those that fly, the spare ones, the one that is written. -/
abbrev Rfl : List Nat := [3, 6, 12, 13, 30, 129]
abbrev Pfl : List (Nat × Nat) := [(47, 6), (48, 6), (236, 30)]
abbrev Qfl : List Nat := [133, 134]
theorem tyF_nf {u g : Nat} {e : Nat × Nat} (h : tyF u g = some e) : g ≠ 47 ∧ g ≠ 48 ∧ g ≠ 236 := by
  unfold tyF at h
  split at h <;> first | (cases h; done) | decide
section Fl
variable {G G' H : Nat → Nat → Nat} {sa : Nat → Nat} {x : Nat} {s s' : cS} {t t' : moS}
theorem RGl.v5 {Rv Rq : List Nat} {Gp : List (Nat × Nat)} (h : RGl G H sa x s) (hK : s'.K = s.K) (hP : ∀ g a, g ≠ 47 → g ≠ 48 → g ≠ 236 → s'.P g a = s.P g a) (f : fr Rv Gp Rq s s') (d1 : dj [29, 103] Rv) (d2 : djp [(200, 29)] Gp) (d3 : dj [144, 142] Rq) (h4 : ∀ a, (s.K a).1 = 6 → ∃ l, BL s' (H 40 a) 129 l 600) (e15 : G' 15 = G 15) (e16 : G' 16 = G 16) : RGl G' H sa x s' := by
  obtain ⟨a1, a2, a3, a4, ⟨n, a5⟩, a6, a7, a8, a9, a10, a11, a12, a13, a14, a15, a16, a17⟩ := h
  have pP : ∀ g, g ≠ 47 → g ≠ 48 → g ≠ 236 → s'.P g = s.P g := fun g h1 h2 h3 => funext fun a => hP g a h1 h2 h3
  refine ⟨by rw [hK]; exact a1, ⟨fun a g v n hu et => ?_, ?_, ?_⟩, ?_, fun a ha => ?_, ⟨n, ?_⟩, ?_, ?_, ?_, ?_, ?_, ?_, ?_, ?_, ?_, ?_, ?_, ?_⟩
  · rw [hK] at et ⊢
    have := tyF_nf et
    rw [hP g a this.1 this.2.1 this.2.2]
    exact a2.1 a g v n hu et
  · rw [hK]; exact a2.2.1
  · have := a2.2.2
    unfold okO at this ⊢
    rw [hK, pP 0 (by decide) (by decide) (by decide)]
    exact this
  · unfold TK at a3 ⊢; rw [hK]; exact a3
  · rw [hK] at ha
    exact h4 a ha
  · rw [e15, e16]; exact a5.fr f (a2.p a1 237 29).2 (by decide) (d1.n 29) (d2.n (200, 29)) (d3.n 144)
  · rw [hK, pP 223 (by decide) (by decide) (by decide)]; exact a6
  · rw [hK, pP 96 (by decide) (by decide) (by decide)]; exact a7
  · rw [hK, pP 97 (by decide) (by decide) (by decide)]; exact a8
  · unfold okO at a9 ⊢; rw [hK, pP 200 (by decide) (by decide) (by decide)]; exact a9
  · unfold okO at a10 ⊢; rw [hK, pP 28 (by decide) (by decide) (by decide)]; exact a10
  · unfold okO at a11 ⊢; rw [hK, pP 28 (by decide) (by decide) (by decide)]; exact a11
  · unfold okO at a12 ⊢; rw [hK, pP 0 (by decide) (by decide) (by decide)]; exact a12
  · intro a h1 k hk
    have h1 : okO s 1 a := by unfold okO at h1 ⊢; rw [← hK]; exact h1
    rw [hK, f.q (tyc a2 h1) (d3.n 142)]
    exact a13 a h1 k hk
  · intro a c k k' w' h1 h2 hk hk' e1 e2
    have h1 : okO s 1 a := by unfold okO at h1 ⊢; rw [← hK]; exact h1
    have h2 : okO s 1 c := by unfold okO at h2 ⊢; rw [← hK]; exact h2
    rw [f.q (tyc a2 h1) (d3.n 142)] at e1
    rw [f.q (tyc a2 h2) (d3.n 142)] at e2
    exact a14 a c k k' w' h1 h2 hk hk' e1 e2
  · intro a i h1 hi
    rw [hK] at h1
    rw [(f.v h1 (d1.n 103)).2.2]
    exact a15 a i h1 hi
  · rw [hK, pP 96 (by decide) (by decide) (by decide), pP 97 (by decide) (by decide) (by decide)]; exact a16
  · unfold okO at a17 ⊢; rw [hK, pP 200 (by decide) (by decide) (by decide)]; exact a17
/-- only datagrams are others -/
theorem rr_fl (h : RR G H sa x s t) (hM : MV t) (eG : ∀ b, b ≠ 11 → b ≠ 12 → G' b = G b) (hg : RGl G' H sa x s') (f : fr Rfl Pfl Qfl s s') (m : mfr Wfl t t') (h30 : ∀ g, g ≠ 233 → g ≠ 235 → s'.I g x = s.I g x) (hl : RFl G' H x s' t') : RR G' H sa x s' t' := by
  obtain ⟨⟨a, b, c, e', g, i, -⟩, htx⟩ := h.q
  have hT := a.2.1
  have hx := a.1
  have ht := hg.2.2.1
  have e1 : cL t' = cL t := by unfold cL; rw [m.S 17 (by decide)]
  have e2 : cS' t' = cS' t := by unfold cS'; rw [m.S 27 (by decide)]
  have e3 : cR t' = cR t := by unfold cR; rw [m.S 37 (by decide)]
  have e4 : ∀ r, cI t' r = cI t r := fun r => by unfold cI; rw [m.I 70 (by decide)]
  refine RQ.r ⟨hg, ?_, ?_, ?_, ?_, ?_, hl⟩ (htx.fr hT hx f m rfl rfl rfl)
  · have := b.fr m rfl
    unfold RIn at this ⊢
    rw [eG 0 (by decide) (by decide), eG 1 (by decide) (by decide), eG 2 (by decide) (by decide), eG 3 (by decide) (by decide), eG 4 (by decide) (by decide), eG 5 (by decide) (by decide), eG 6 (by decide) (by decide), eG 7 (by decide) (by decide), eG 8 (by decide) (by decide), eG 9 (by decide) (by decide), eG 10 (by decide) (by decide), eG 13 (by decide) (by decide), eG 14 (by decide) (by decide)]
    exact this
  · rw [h30 224 (by decide) (by decide), h30 225 (by decide) (by decide), h30 227 (by decide) (by decide), h30 229 (by decide) (by decide), h30 231 (by decide) (by decide), m.S 4 (by decide), m.S 1 (by decide), m.S 17 (by decide), m.S 37 (by decide), m.S 27 (by decide)]
    exact c
  · rw [e1]
    intro k hk
    have := (e' k hk).fr hT hx f ht m rfl rfl rfl rfl
    unfold RLk at this ⊢
    rw [eG 0 (by decide) (by decide)]
    exact this
  · rw [e2]
    intro k hk
    have := (g k hk).fr hT hx f ht m rfl rfl rfl rfl
    unfold RLs at this ⊢
    rw [eG 3 (by decide) (by decide)]
    exact this
  · rw [e3]
    intro r hr
    obtain ⟨i1, i2, i3, i4, i5, i6, i7⟩ := i r hr
    have hv := hM.r hr
    have j1 := i1.fr hT hx f ht m rfl rfl rfl rfl
    have j2 := i2.fr hT i1.1.1 f ((f.v i1.1.1 (by decide)).1 199) m rfl rfl rfl rfl
    have j3 := i3.fr hT i1.1.1 f m rfl rfl rfl rfl
    have j4 := i4.fr hT i1.1.1 f m rfl rfl rfl
    have j5 := i5.fr hT i1.1.1 f m rfl rfl rfl
    have j6 := i6.fr hT i1.1.1 ⟨hv.2.2.2.2.2.2.1.1.n.2.2, hv.2.2.2.2.2.2.2.1.1.n.2.2⟩ f m rfl rfl rfl
    refine ⟨?_, ?_, ?_, ?_, ?_, ?_, ?_⟩
    · unfold RRt at j1 ⊢; rw [eG 1 (by decide) (by decide)]; exact j1
    · unfold RTb RW ifp at j2 ⊢; rw [eG 1 (by decide) (by decide), eG 2 (by decide) (by decide), eG 4 (by decide) (by decide), eG 13 (by decide) (by decide)]; exact j2
    · unfold RSt at j3 ⊢; rw [eG 1 (by decide) (by decide), eG 6 (by decide) (by decide), eG 7 (by decide) (by decide), eG 14 (by decide) (by decide)]; exact j3
    · unfold RFi at j4 ⊢; rw [eG 1 (by decide) (by decide), eG 5 (by decide) (by decide)]; exact j4
    · unfold RFi at j5 ⊢; rw [eG 1 (by decide) (by decide), eG 5 (by decide) (by decide)]; exact j5
    · unfold RPy at j6 ⊢; rw [eG 1 (by decide) (by decide), eG 9 (by decide) (by decide), eG 10 (by decide) (by decide)]; exact j6
    · rw [e4]
      intro p hp
      have := (i7 p hp).fr hT i1.1.1 (hv.i hp).2.2.2.2.2.2.2.2.2.2.1.n.2.2 f m rfl rfl rfl rfl
      unfold RPo RAd RCh RSo at this ⊢
      rw [eG 0 (by decide) (by decide), eG 1 (by decide) (by decide), eG 2 (by decide) (by decide), eG 8 (by decide) (by decide)]
      exact this
end Fl
