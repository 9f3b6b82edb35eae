/-! Chains of the class: what changes one. -/
/-- a row that belongs to a chain -/
def chA (H : Nat → Nat → Nat) (s : cS) (ch a : Nat) : Prop := a = H 21 ch ∨ a = H 23 ch ∨ a = H 24 ch ∨ a = H 25 ch ∨ a = H 26 ch ∨ ∃ k, k < 4 ∧ s.Q (H 27 ch) k = some a
/-- only the chain is another -/
def fch (H : Nat → Nat → Nat) (ch : Nat) (s s' : cS) : Prop := s'.K = s.K ∧ s'.P = s.P ∧ s'.J = s.J ∧ s'.Q = s.Q ∧ (∀ g a, a ≠ ch → s'.I g a = s.I g a) ∧ ∀ a, ¬ chA H s ch a → s'.E a = s.E a
section Cc
variable {G H : Nat → Nat → Nat} {sa : Nat → Nat} {x ch kc ks : Nat} {s s1 s2 : cS} {t t' : moS} {V : chV}
theorem fch.rf : fch H ch s s := ⟨rfl, rfl, rfl, rfl, fun _ _ _ => rfl, fun _ _ => rfl⟩
theorem fch.tr (h : fch H ch s s1) (g : fch H ch s1 s2) : fch H ch s s2 := by
  obtain ⟨a1, a2, a3, a4, a5, a6⟩ := h
  obtain ⟨b1, b2, b3, b4, b5, b6⟩ := g
  refine ⟨b1.trans a1, b2.trans a2, b3.trans a3, b4.trans a4, fun g a h => (b5 g a h).trans (a5 g a h), fun a h => (b6 a (fun z => h ?_)).trans (a6 a h)⟩
  unfold chA at z ⊢
  rw [a4] at z
  exact z
theorem fch.si {g : Nat} {v : Int32} : fch H ch s (cSI s g ch v) := ⟨rfl, rfl, rfl, rfl, fun _ _ h => cSI_o h, fun _ _ => rfl⟩
theorem fch.se {a i : Nat} {v : Int32} (ha : chA H s ch a) : fch H ch s (cSE s a i v) := ⟨rfl, rfl, rfl, rfl, fun _ _ _ => rfl, fun b hb => cSE_a (fun e => hb (by rw [e]; exact ha))⟩
theorem fch.o (h : fch H ch s s1) {c a : Nat} (ha : okO s c a) : okO s1 c a := by unfold okO at ha ⊢; rw [h.1]; exact ha
/-- the rows of a chain -/
theorem chK (hg : RGl G H sa x s) (hc : okO s 1 ch) : (s.P 21 ch = some (H 21 ch) ∧ s.K (H 21 ch) = (103, 16)) ∧ (s.P 23 ch = some (H 23 ch) ∧ s.K (H 23 ch) = (109, 4)) ∧ (s.P 24 ch = some (H 24 ch) ∧ s.K (H 24 ch) = (110, 4)) ∧ (s.P 25 ch = some (H 25 ch) ∧ s.K (H 25 ch) = (111, 4)) ∧ (s.P 26 ch = some (H 26 ch) ∧ s.K (H 26 ch) = (112, 4)) ∧ (s.P 27 ch = some (H 27 ch) ∧ s.K (H 27 ch) = (142, 4)) ∧ ∀ k, k < 4 → ∃ w, s.Q (H 27 ch) k = some w ∧ s.K w = (126, 16) := by
  have hT := hg.2.1
  have hr := hg.2.2.2.2.2.2.2.2.2.2.2.2.1 ch hc
  rcases ok1 hc with h | h
  · exact ⟨hT.r h 21 103 16, hT.r h 23 109 4, hT.r h 24 110 4, hT.r h 25 111 4, hT.r h 26 112 4, hT.r h 27 142 4, hr⟩
  · exact ⟨hT.r h 21 103 16, hT.r h 23 109 4, hT.r h 24 110 4, hT.r h 25 111 4, hT.r h 26 112 4, hT.r h 27 142 4, hr⟩
theorem chA_r (hg : RGl G H sa x s) (hc : okO s 1 ch) {a : Nat} (h : chA H s ch a) : (s.K a).1 = 103 ∧ a = H 21 ch ∨ (s.K a).1 = 109 ∧ a = H 23 ch ∨ (s.K a).1 = 110 ∧ a = H 24 ch ∨ (s.K a).1 = 111 ∧ a = H 25 ch ∨ (s.K a).1 = 112 ∧ a = H 26 ch ∨ (s.K a).1 = 126 ∧ ∃ k, k < 4 ∧ s.Q (H 27 ch) k = some a := by
  obtain ⟨k1, k2, k3, k4, k5, k6, k7⟩ := chK hg hc
  rcases h with rfl | rfl | rfl | rfl | rfl | ⟨k, hk, e⟩
  · exact Or.inl ⟨by rw [k1.2], rfl⟩
  · exact Or.inr (Or.inl ⟨by rw [k2.2], rfl⟩)
  · exact Or.inr (Or.inr (Or.inl ⟨by rw [k3.2], rfl⟩))
  · exact Or.inr (Or.inr (Or.inr (Or.inl ⟨by rw [k4.2], rfl⟩)))
  · exact Or.inr (Or.inr (Or.inr (Or.inr (Or.inl ⟨by rw [k5.2], rfl⟩))))
  · obtain ⟨w, h1, h2⟩ := k7 k hk
    rw [e] at h1
    have h1 := Option.some.inj h1
    subst h1
    exact Or.inr (Or.inr (Or.inr (Or.inr (Or.inr ⟨by rw [h2], k, hk, e⟩))))
theorem fch.fr (f : fch H ch s s1) (hg : RGl G H sa x s) (hc : okO s 1 ch) : fr [4, 5, 103, 109, 110, 111, 112, 126] [] [] s s1 := by
  obtain ⟨a1, a2, a3, a4, a5, a6⟩ := f
  intro b hb
  refine ⟨by rw [a1], fun hn => ⟨fun g => a5 g b (fun e => hn ?_), fun g => by rw [a3], a6 b (fun z => hn ?_)⟩, fun g _ => by rw [a2], fun _ => by rw [a4]⟩
  · rw [e]
    rcases ok1 hc with h | h <;> rw [h] <;> decide
  · rcases chA_r hg hc z with ⟨h, _⟩ | ⟨h, _⟩ | ⟨h, _⟩ | ⟨h, _⟩ | ⟨h, _⟩ | ⟨h, _⟩ <;> rw [h] <;> decide
/-- another chain keeps what it has -/
theorem CC.fch {ch' : Nat} (h : CC H s ch' V) (f : fch H ch s s1) (hg : RGl G H sa x s) (hc : okO s 1 ch) (hc' : okO s 1 ch') (hne : ch' ≠ ch) (h4 : V.2.2.length ≤ 4) : CC H s1 ch' V := by
  obtain ⟨a1, a2, a3, a4, a5, a6⟩ := f
  obtain ⟨k1, k2, k3, k4, k5, k6, k7⟩ := chK hg hc'
  have inj : ∀ g, (tyF 4 g).isSome = true ∧ (tyF 5 g).isSome = true ∧ g ≠ 80 ∧ g ≠ 140 ∧ g ≠ 180 → H g ch' = H g ch → False := by
    intro g hg' e
    have hT := hg.2.1
    refine hne ?_
    rcases ok1 hc with q | q <;> rcases ok1 hc' with q' | q'
    · exact hT.i q' q g ⟨hg'.1, hg'.1, hg'.2.2⟩ e
    · exact hT.i q' q g ⟨hg'.2.1, hg'.1, hg'.2.2⟩ e
    · exact hT.i q' q g ⟨hg'.1, hg'.2.1, hg'.2.2⟩ e
    · exact hT.i q' q g ⟨hg'.2.1, hg'.2.1, hg'.2.2⟩ e
  have no : ∀ a u, (s.K a).1 = u → (u = 103 → a = H 21 ch') → (u = 109 → a = H 23 ch') → (u = 110 → a = H 24 ch') → (u = 111 → a = H 25 ch') → (u = 112 → a = H 26 ch') → (u = 126 → ∃ k, k < 4 ∧ s.Q (H 27 ch') k = some a) → ¬ chA H s ch a := by
    intro a u hu e1 e2 e3 e4 e5 e6 z
    rcases chA_r hg hc z with ⟨h, e⟩ | ⟨h, e⟩ | ⟨h, e⟩ | ⟨h, e⟩ | ⟨h, e⟩ | ⟨h, k, hk, e⟩
    · exact inj 21 (by decide) ((e1 (hu.symm.trans h)).symm.trans e)
    · exact inj 23 (by decide) ((e2 (hu.symm.trans h)).symm.trans e)
    · exact inj 24 (by decide) ((e3 (hu.symm.trans h)).symm.trans e)
    · exact inj 25 (by decide) ((e4 (hu.symm.trans h)).symm.trans e)
    · exact inj 26 (by decide) ((e5 (hu.symm.trans h)).symm.trans e)
    · obtain ⟨k', hk', e'⟩ := e6 (hu.symm.trans h)
      exact hne (hg.2.2.2.2.2.2.2.2.2.2.2.2.2.1 ch' ch k' k a hc' hc hk' hk e' e).1
  have nn : ∀ {u v : Nat} {P : Prop}, u ≠ v → u = v → P := fun h e => absurd e h
  obtain ⟨c1, c2, c3, c4⟩ := h
  unfold CC
  rw [a5 _ _ hne, a5 _ _ hne, a4, a6 _ (no (H 23 ch') 109 (by rw [k2.2]) (nn (by decide)) (fun _ => rfl) (nn (by decide)) (nn (by decide)) (nn (by decide)) (nn (by decide))), a6 _ (no (H 24 ch') 110 (by rw [k3.2]) (nn (by decide)) (nn (by decide)) (fun _ => rfl) (nn (by decide)) (nn (by decide)) (nn (by decide))), a6 _ (no (H 25 ch') 111 (by rw [k4.2]) (nn (by decide)) (nn (by decide)) (nn (by decide)) (fun _ => rfl) (nn (by decide)) (nn (by decide))), a6 _ (no (H 26 ch') 112 (by rw [k5.2]) (nn (by decide)) (nn (by decide)) (nn (by decide)) (nn (by decide)) (fun _ => rfl) (nn (by decide))), a6 _ (no (H 21 ch') 103 (by rw [k1.2]) (fun _ => rfl) (nn (by decide)) (nn (by decide)) (nn (by decide)) (nn (by decide)) (nn (by decide)))]
  refine ⟨c1, c2, fun k v hv => ?_, c4⟩
  obtain ⟨d1, d2, d3, d4, d5⟩ := c3 k v hv
  refine ⟨d1, d2, d3, d4, fun w hw i hi => ?_⟩
  have hk : k < 4 := by have := (List.getElem?_eq_some_iff.mp hv).1; omega
  obtain ⟨w', e1, e2⟩ := k7 k hk
  have ew : w' = w := Option.some.inj (e1.symm.trans hw)
  subst ew
  rw [a6 _ (no w' 126 (by rw [e2]) (nn (by decide)) (nn (by decide)) (nn (by decide)) (nn (by decide)) (nn (by decide)) (fun _ => ⟨k, hk, e1⟩))]
  exact d5 _ hw i hi
end Cc
