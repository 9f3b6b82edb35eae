/-! The datagram that is being received. -/
/-- it is as it was, but for where its entries stand -/
def hdX (H : Nat → Nat → Nat) (A : Nat) (s s' : cS) : Prop := (∀ g, g ≠ 50 → g ≠ 51 → s'.I g A = s.I g A) ∧ (∀ g, s'.P g A = s.P g A) ∧ ((∀ g, s'.I g (H 41 A) = s.I g (H 41 A)) ∧ ∀ g, s'.J g (H 41 A) = s.J g (H 41 A)) ∧ ((∀ g, s'.I g (H 42 A) = s.I g (H 42 A)) ∧ ∀ g, s'.J g (H 42 A) = s.J g (H 42 A)) ∧ ∀ l, BL s (H 40 A) 129 l 600 → BL s' (H 40 A) 129 l 600
def HE (H : Nat → Nat → Nat) (s : cS) (A : Nat) (L : List Int32) (f : Nat) (h l : Int64) (po ho : Int32) : Prop := (s.K A).1 = 6 ∧ BL s (H 40 A) 129 L 600 ∧ PF s (H 41 A) (fam (nI f)) h l (if f = 0 then 32 else 128) ∧ (s.I 44 A = fam (nI f) ∧ s.I 45 A = po ∧ s.I 46 A = ho) ∧ (f = 0 ∨ f = 1)
section Hd
variable {G H H' : Nat → Nat → Nat} {sa : Nat → Nat} {x A f g : Nat} {s s' s1 : cS} {t t0 : moS} {L : List Int32} {h l : Int64} {po ho v : Int32}
theorem hdX.rf : hdX H A s s := ⟨fun _ _ _ => rfl, fun _ => rfl, ⟨fun _ => rfl, fun _ => rfl⟩, ⟨fun _ => rfl, fun _ => rfl⟩, fun _ h => h⟩
theorem hdX.tr (a : hdX H A s s1) (b : hdX H A s1 s') : hdX H A s s' := by
  obtain ⟨a1, a2, ⟨a3, a4⟩, ⟨a5, a6⟩, a7⟩ := a
  obtain ⟨b1, b2, ⟨b3, b4⟩, ⟨b5, b6⟩, b7⟩ := b
  exact ⟨fun g h1 h2 => (b1 g h1 h2).trans (a1 g h1 h2), fun g => (b2 g).trans (a2 g), ⟨fun g => (b3 g).trans (a3 g), fun g => (b4 g).trans (a4 g)⟩, ⟨fun g => (b5 g).trans (a5 g), fun g => (b6 g).trans (a6 g)⟩, fun l z => b7 l (a7 l z)⟩
theorem hdX.of (a : hdF H A s s') : hdX H A s s' := ⟨fun g _ _ => a.1 g, a.2⟩
theorem hdX.hA (a : hdX H A s s') (e : hA H H' s1) (kA : (s1.K A).1 ≠ 0) : hdX H' A s s' := by
  unfold hdX at a ⊢
  rw [e 41 A kA, e 42 A kA, e 40 A kA]
  exact a
theorem HE.hx (a : HE H s A L f h l po ho) (b : hdX H A s s') (kA : (s'.K A).1 = 6) : HE H s' A L f h l po ho := by
  obtain ⟨a1, a2, ⟨a3, a4, a5, a6⟩, ⟨a7, a8, a9⟩, a10⟩ := a
  obtain ⟨b1, b2, ⟨b3, b4⟩, ⟨b5, b6⟩, b7⟩ := b
  exact ⟨kA, b7 _ a2, ⟨(b3 _).trans a3, (b4 _).trans a4, (b4 _).trans a5, (b3 _).trans a6⟩, ⟨(b1 44 (by decide) (by decide)).trans a7, (b1 45 (by decide) (by decide)).trans a8, (b1 46 (by decide) (by decide)).trans a9⟩, a10⟩
theorem HE.hA (a : HE H s A L f h l po ho) (e : hA H H' s1) (kA : (s1.K A).1 ≠ 0) : HE H' s A L f h l po ho := by
  unfold HE at a ⊢
  rw [e 41 A kA, e 40 A kA]
  exact a
theorem RDg.hx {p : Nat} (a : RDg G H s t0 A p) (b : hdX H A s s') : RDg G H s' t0 A p := by
  obtain ⟨a1, ⟨a3, a4, a5, a6⟩, ⟨a7, a8, a9, a10, a11⟩, a12, a13, a14⟩ := a
  obtain ⟨b1, b2, ⟨b3, b4⟩, ⟨b5, b6⟩, b7⟩ := b
  refine ⟨b7 _ a1, ⟨(b3 _).trans a3, (b4 _).trans a4, (b4 _).trans a5, (b3 _).trans a6⟩, ⟨(b1 43 (by decide) (by decide)).trans a7, (b1 44 (by decide) (by decide)).trans a8, (b1 45 (by decide) (by decide)).trans a9, (b1 46 (by decide) (by decide)).trans a10, (b1 49 (by decide) (by decide)).trans a11⟩, fun z => ?_, (b2 _).trans a13, (b2 _).trans a14⟩
  obtain ⟨c1, c2, c3⟩ := a12 z
  exact ⟨(b5 _).trans c1, (b6 _).trans c2, (b6 _).trans c3⟩
/-- where the entries of a datagram stand -/
theorem rr_50 (hR : RR G H sa x s t) (hM : MV t) (kA : (s.K A).1 = 6) (hg : g = 50 ∨ g = 51) : RR G H sa x (cSI s g A v) t ∧ fr [6] [] [] s (cSI s g A v) ∧ ∀ B, (s.K B).1 = 6 → hdX H B s (cSI s g A v) := by
  have hT := hR.q.1.ty
  have f : fr [6] [] [] s (cSI s g A v) := fr.si (by rw [kA]; decide)
  have eI : ∀ k b, k ≠ 50 → k ≠ 51 → (cSI s g A v).I k b = s.I k b := fun k b h1 h2 => cSI_g (by rcases hg with z | z <;> omega)
  have hX : ∀ B, (s.K B).1 = 6 → hdX H B s (cSI s g A v) := fun B kB => by
    have p1 := hT.p kB 41 12
    have p2 := hT.p kB 42 13
    have p0 := hT.p kB 40 3
    refine ⟨fun k h1 h2 => eI k B h1 h2, fun _ => rfl, ⟨fun k => (f.v p1.2 (by decide)).1 k, fun _ => rfl⟩, ⟨fun k => (f.v p2.2 (by decide)).1 k, fun _ => rfl⟩, fun l hl => hl.fr f p0.2 (by decide) (by decide) (by decide)⟩
  have hgl : RGl G H sa x (cSI s g A v) := hR.q.1.1.v rfl rfl f rfl rfl rfl
  refine ⟨rr_fl hR hM (fun _ _ _ => rfl) hgl (f.wk (by decide) (by decide) (by decide)) (mfr.rf (W := Wfl)) (fun k h1 h2 => ?_) ?_, f, hX⟩
  · exact (f.v hR.q.1.1.1 (by decide)).1 k
  · obtain ⟨⟨a1, a2, a3⟩, b1, b2, b3, b4⟩ := hR.q.1.2.2.2.2.2.2
    refine ⟨⟨((f.v hR.q.1.1.1 (by decide)).1 233).trans a1, ((f.v hR.q.1.1.1 (by decide)).1 235).trans a2, a3⟩, fun i hi => ?_, b2, b3, b4⟩
    obtain ⟨c1, c2, c3⟩ := b1 i hi
    exact ⟨c1, c2, c3.hx (hX _ c2)⟩
end Hd
