/-! The fault is told. -/
section F4
variable {G H : Nat → Nat → Nat} {sa : Nat → Nat} {x : Nat} {s : cS} {t : moS} {v : Int32}
theorem mv_4 (hM : MV t) : MV (moSS t 4 v) := by
  have m : mfr [4] t (moSS t 4 v) := mfr.ss (by decide)
  exact hM.fr m rfl (hM.1.fr m rfl)
theorem rr_4 (h : RR G H sa x s t) (hM : MV t) : RR G H sa x (cSI s 224 x v) (moSS t 4 v) := by
  have m : mfr [4] t (moSS t 4 v) := mfr.ss (by decide)
  obtain ⟨⟨a, b, c', e, g, i, j⟩, htx⟩ := h.q
  have hT := a.2.1
  have hx := a.1
  have f : fr [30] [] [] s (cSI s 224 x v) := fr.si (by rw [hx]; decide)
  have hg : RGl G H sa x (cSI s 224 x v) := a.v rfl rfl f rfl rfl rfl
  have ht := hg.2.2.1
  have oI : ∀ g, g ≠ 224 → (cSI s 224 x v).I g x = s.I g x := fun g hg => by rw [cSI_g hg]
  have ec : cR (moSS t 4 v) = cR t := rfl
  refine RQ.r ⟨hg, b.fr m rfl, ⟨?_, ?_, ?_, ?_, ?_⟩, fun k hk => (e k hk).fr hT hx f ht m rfl rfl rfl rfl, fun k hk => (g k hk).fr hT hx f ht m rfl rfl rfl rfl, fun r hr => ?_, j.fr hT hx f m ⟨oI 233 (by decide), oI 235 (by decide)⟩ rfl rfl rfl rfl⟩ (htx.fr hT hx f m rfl rfl rfl)
  · rw [cSI_s, moSS_s]
  · rw [oI _ (by decide)]; exact c'.2.1
  · rw [oI _ (by decide)]; exact c'.2.2.1
  · rw [oI _ (by decide)]; exact c'.2.2.2.1
  · rw [oI _ (by decide)]; exact c'.2.2.2.2
  · obtain ⟨i1, i2, i3, i4, i5, i6, i7⟩ := i r hr
    have hv := hM.r (show r < cR t from hr)
    exact ⟨i1.fr hT hx f ht m rfl rfl rfl rfl, i2.fr hT i1.1.1 f (cSI_g (by decide)) m rfl rfl rfl rfl, i3.fr hT i1.1.1 f m rfl rfl rfl rfl, i4.fr hT i1.1.1 f m rfl rfl rfl, i5.fr hT i1.1.1 f m rfl rfl rfl, i6.fr hT i1.1.1 ⟨hv.2.2.2.2.2.2.1.1.n.2.2, hv.2.2.2.2.2.2.2.1.1.n.2.2⟩ f m rfl rfl rfl, fun p hp => (i7 p hp).fr hT i1.1.1 (hv.i hp).2.2.2.2.2.2.2.2.2.2.1.n.2.2 f m rfl rfl rfl rfl⟩
end F4
