/-! The draft: what is written there, the relation keeps. -/
/-- only the draft D, with its row d, is another -/
def DF (H : Nat → Nat → Nat) (D d : Nat) (s s' : cS) : Prop := (s'.K = s.K ∧ s'.Q = s.Q) ∧ (∀ g a, ¬ (g = 47 ∧ a = D) → s'.P g a = s.P g a) ∧ (∀ a, a ≠ D → a ≠ H 40 D → a ≠ H 41 D → a ≠ H 42 D → (∀ g, s'.I g a = s.I g a) ∧ ∀ g, s'.J g a = s.J g a) ∧ ∀ a, a ≠ d → s'.E a = s.E a
abbrev Rdr : List Nat := [3, 6, 12, 13, 129]
section Dr
variable {G H : Nat → Nat → Nat} {sa : Nat → Nat} {x kc ks D d : Nat} {s s' s1 s2 : cS} {t t' : moS} {l : List Int32}
theorem DF.rf : DF H D d s s := ⟨⟨rfl, rfl⟩, fun _ _ _ => rfl, fun _ _ _ _ _ => ⟨fun _ => rfl, fun _ => rfl⟩, fun _ _ => rfl⟩
theorem DF.tr (f : DF H D d s s1) (g : DF H D d s1 s2) : DF H D d s s2 := by
  obtain ⟨⟨a1, a2⟩, a3, a4, a5⟩ := f
  obtain ⟨⟨b1, b2⟩, b3, b4, b5⟩ := g
  exact ⟨⟨b1.trans a1, b2.trans a2⟩, fun g a h => (b3 g a h).trans (a3 g a h), fun a h1 h2 h3 h4 => ⟨fun g => ((b4 a h1 h2 h3 h4).1 g).trans ((a4 a h1 h2 h3 h4).1 g), fun g => ((b4 a h1 h2 h3 h4).2 g).trans ((a4 a h1 h2 h3 h4).2 g)⟩, fun a h => (b5 a h).trans (a5 a h)⟩
theorem FW.df (h : FW (H 40 D) d s l s') : DF H D d s s' := by
  obtain ⟨⟨k1, k2, k3, k4⟩, i, e, -⟩ := h
  exact ⟨⟨k1, k3⟩, fun g a _ => by rw [k2], fun a _ h2 _ _ => ⟨fun g => i g a (fun z => h2 z.2), fun g => by rw [k4]⟩, e⟩
theorem DF.siD {g : Nat} {v : Int32} : DF H D d s (cSI s g D v) := ⟨⟨rfl, rfl⟩, fun _ _ _ => rfl, fun a h1 _ _ _ => ⟨fun g' => by rw [evI, if_neg (fun z => h1 z.2)], fun _ => rfl⟩, fun _ _ => rfl⟩
theorem DF.fr (f : DF H D d s s') (hT : TY cNo H s) (k6 : (s.K D).1 = 6) (kd : (s.K d).1 = 129) : fr Rdr [(47, 6)] [] s s' := by
  obtain ⟨⟨a1, a2⟩, a3, a4, a5⟩ := f
  have r0 := (hT.p k6 40 3).2
  have r1 := (hT.p k6 41 12).2
  have r2 := (hT.p k6 42 13).2
  intro a ha
  have key : (s.K a).1 ∉ Rdr → a ≠ D ∧ a ≠ H 40 D ∧ a ≠ H 41 D ∧ a ≠ H 42 D ∧ a ≠ d := fun hn => ⟨fun z => hn (by rw [z, k6]; decide), fun z => hn (by rw [z, r0]; decide), fun z => hn (by rw [z, r1]; decide), fun z => hn (by rw [z, r2]; decide), fun z => hn (by rw [z, kd]; decide)⟩
  refine ⟨by rw [a1], fun hn => ?_, fun g hg => a3 g a (fun z => hg ?_), fun _ => by rw [a2]⟩
  · obtain ⟨n1, n2, n3, n4, n5⟩ := key hn
    exact ⟨(a4 a n1 n2 n3 n4).1, (a4 a n1 n2 n3 n4).2, a5 a n5⟩
  · rw [z.1, z.2, k6]; decide
/-- another datagram stays as it is -/
theorem df_o (f : DF H D d s s') (hT : TY cNo H s) (k6 : (s.K D).1 = 6) (hd : s.P 0 (H 40 D) = some d) {a : Nat} (ka : (s.K a).1 = 6) (ne : a ≠ D) : (∀ l, BL s (H 40 a) 129 l 600 → BL s' (H 40 a) 129 l 600) ∧ (∀ g, s'.I g (H 41 a) = s.I g (H 41 a)) ∧ (∀ g, s'.J g (H 41 a) = s.J g (H 41 a)) ∧ (∀ g, s'.I g (H 42 a) = s.I g (H 42 a)) ∧ (∀ g, s'.J g (H 42 a) = s.J g (H 42 a)) ∧ (∀ g, s'.I g a = s.I g a) ∧ ∀ g, s'.P g a = s.P g a := by
  have hf := f
  obtain ⟨⟨a1, a2⟩, a3, a4, a5⟩ := f
  have r0 := (hT.p k6 40 3).2
  have r1 := (hT.p k6 41 12).2
  have r2 := (hT.p k6 42 13).2
  have q0 := (hT.p ka 40 3).2
  have q1 := (hT.p ka 41 12).2
  have q2 := (hT.p ka 42 13).2
  have ne' : ∀ {a b u v : Nat}, (s.K a).1 = u → (s.K b).1 = v → u ≠ v → a ≠ b := fun h1 h2 h3 z => h3 (by rw [← h1, ← h2, z])
  have n0 : H 40 a ≠ H 40 D := fun z => ne (hT.i ka k6 40 (by decide) z)
  have n1 : H 41 a ≠ H 41 D := fun z => ne (hT.i ka k6 41 (by decide) z)
  have n2 : H 42 a ≠ H 42 D := fun z => ne (hT.i ka k6 42 (by decide) z)
  have A := a4 a ne (ne' ka r0 (by decide)) (ne' ka r1 (by decide)) (ne' ka r2 (by decide))
  have A0 := a4 (H 40 a) (ne' q0 k6 (by decide)) n0 (ne' q0 r1 (by decide)) (ne' q0 r2 (by decide))
  have A1 := a4 (H 41 a) (ne' q1 k6 (by decide)) (ne' q1 r0 (by decide)) n1 (ne' q1 r2 (by decide))
  have A2 := a4 (H 42 a) (ne' q2 k6 (by decide)) (ne' q2 r0 (by decide)) (ne' q2 r1 (by decide)) n2
  refine ⟨fun l hl => ?_, A1.1, A1.2, A2.1, A2.2, A.1, fun g => a3 g a (fun z => ne z.2)⟩
  obtain ⟨o, w, e, b1, b2, b3, b4⟩ := hl
  have ed : e ≠ d := fun z => n0 (hT.2.2 (H 40 a) (H 40 D) d o (okr r0 0) (by rw [b1, z]) hd)
  refine ⟨by unfold okO at *; rw [a1]; exact o, w, e, by rw [a3 0 (H 40 a) (fun z => absurd z.1 (by decide))]; exact b1, by rw [a1]; exact b2, by rw [A0.1 1]; exact b3, ?_⟩
  rw [a5 e ed]
  exact b4
theorem hdF.df (f : DF H D d s s') (hT : TY cNo H s) (k6 : (s.K D).1 = 6) (hd : s.P 0 (H 40 D) = some d) {A : Nat} (kA : (s.K A).1 = 6) (ne : A ≠ D) : hdF H A s s' := by
  obtain ⟨o1, o2, o3, o4, o5, o6, o7⟩ := df_o f hT k6 hd kA ne
  exact ⟨o6, o7, ⟨o2, o3⟩, ⟨o4, o5⟩, o1⟩
theorem rr_dr (h : RR G H sa x s t) (hM : MV t) (hD : G 11 999 = D) (hd : s.P 0 (H 40 D) = some d) (kd : (s.K d).1 = 129) (f : DF H D d s s') (hb : ∃ l, BL s' (H 40 D) 129 l 600) : RR G H sa x s' t := by
  have hq := h.q.1
  have hT := hq.ty
  have hx := hq.1.1
  have hl := hq.2.2.2.2.2.2
  have k6 : (s.K D).1 = 6 := by rw [← hD]; exact hl.2.2.2.1.2
  have g := f.fr hT k6 kd
  have ob := fun {a : Nat} (ka : (s.K a).1 = 6) (ne : a ≠ D) => df_o f hT k6 hd ka ne
  have xD : x ≠ D := fun z => by rw [z, k6] at hx; exact absurd hx (by decide)
  have hg : RGl G H sa x s' := hq.1.v5 f.1.1 (fun g a h1 _ _ => f.2.1 g a (fun z => h1 z.1)) g rfl rfl rfl (fun a ka => by
    by_cases z : a = D
    · rw [z]; exact hb
    · obtain ⟨l, hl⟩ := hq.1.2.2.2.1 a ka
      exact ⟨l, (ob ka z).1 l hl⟩) rfl rfl
  obtain ⟨vx, -, -⟩ := g.v hx (by decide)
  refine rr_fl h hM (fun _ _ _ => rfl) hg g.wk (mfr.rf (W := Wfl)) (fun g _ _ => vx g) ?_
  obtain ⟨⟨c1, c2, c3⟩, c4, c5, ⟨c6, c7⟩, c8⟩ := hl
  have eQ : ∀ a, s'.Q a = s.Q a := fun a => by rw [f.1.2]
  refine ⟨⟨by rw [vx]; exact c1, by rw [vx]; exact c2, c3⟩, fun i hi => ?_, fun i hi => ?_, ⟨?_, by rw [f.1.1]; exact c7⟩, c8⟩
  · obtain ⟨d1, d2, e1, e2, e3, e4, e5, e6⟩ := c4 i hi
    have ne : G 11 i ≠ D := by rw [← hD]; exact c8.2.2.2.1 i hi
    obtain ⟨o1, o2, o3, o4, o5, o6, o7⟩ := ob d2 ne
    refine ⟨by rw [eQ]; exact d1, by rw [f.1.1]; exact d2, o1 _ e1, ?_, ?_, ?_, ?_, ?_⟩
    · unfold PF at e2 ⊢
      rw [o2, o3, o3, o2]
      exact e2
    · rw [o6, o6, o6, o6, o6]; exact e3
    · rw [o4, o5, o5]; exact e4
    · rw [o7]; exact e5
    · rw [o7]; exact e6
  · obtain ⟨d1, d2⟩ := c5 i hi
    exact ⟨by rw [eQ]; exact d1, by rw [f.1.1]; exact d2⟩
  · rw [f.2.1 236 x (fun z => xD z.2)]; exact c6
end Dr
