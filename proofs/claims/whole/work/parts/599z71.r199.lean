/-! A router's next deadline is another. -/
section R9
variable {G H : Nat → Nat → Nat} {sa : Nat → Nat} {x r : Nat} {s : cS} {t : moS} {v : Int32}
theorem rr_199 (h : RR G H sa x s t) (hM : MV t) (hr : r < cR t) (hd : ∀ j, j < cN t r → t.I 110 (2700 * r + j) = 2 → ¬ s.I 170 (G 4 (2700 * r + j)) < v) : RR G H sa x (cSI s 199 (G 1 r) v) t ∧ fr [26] [] [] s (cSI s 199 (G 1 r) v) := by
  have hq := h.q.1
  have hT := hq.ty
  have k1 := (hq.rt hr).1.1
  have m : mfr [] t t := mfr.rf
  have f : fr [26] [] [] s (cSI s 199 (G 1 r) v) := fr.si (by rw [k1]; decide)
  have hg : RGl G H sa x (cSI s 199 (G 1 r) v) := hq.1.v rfl rfl f rfl rfl rfl
  have ht := hg.2.2.1
  have oI : ∀ g b, ¬ (g = 199 ∧ b = G 1 r) → (cSI s 199 (G 1 r) v).I g b = s.I g b := fun g b hn => by rw [evI, if_neg hn]
  refine ⟨rr_tb h hM (fun _ _ => rfl) hg hq.2.1 (f.wk (by decide) (by decide) (by decide)) (mfr.rf (W := Wtb)) (fun r' hr' => ⟨oI _ _ (by omega), oI _ _ (by omega)⟩) (fun r' hr' => ?_), f⟩
  obtain ⟨i1, i2, i3, -⟩ := hq.2.2.2.2.2.1 r' hr'
  refine ⟨?_, ?_, i3.fr hT i1.1.1 f m rfl rfl rfl rfl⟩
  · obtain ⟨⟨y1, y2, y3⟩, ⟨nm', y4, y5, y6⟩, ⟨u1, u2, u3, u4, u5⟩, y8, y9⟩ := i1
    exact ⟨⟨y1, y2, y3⟩, ⟨nm', y4, y5.fr f (by decide) (by decide) (by decide) ht, y6⟩, ⟨(oI _ _ (by omega)).trans u1, (oI _ _ (by omega)).trans u2, (oI _ _ (by omega)).trans u3, (oI _ _ (by omega)).trans u4, (oI _ _ (by omega)).trans u5⟩, y8, y9⟩
  · by_cases c : r' = r
    · subst c
      obtain ⟨b0, b1, b2⟩ := i2
      have hn := hM.nRo hr
      have row : ∀ j, j < cN t r' → (s.K (G 4 (2700 * r' + j))).1 = 23 := fun j hj => by
        obtain ⟨-, c2, -, w, cap, -, -, -, -, -, d6, -⟩ := id b0
        exact (d6 j (by omega)).2
      refine ⟨b0.fr f (hT.p i1.1.1 186 27).2 (by decide) (by decide) (by decide) (by decide), fun j hj => (b1 j hj).fr hT (row j hj) f m rfl rfl rfl, fun j hj h2 => ?_⟩
      rw [cSI_s, oI _ _ (by omega)]
      exact hd j hj h2
    · exact i2.fr hT i1.1.1 f (oI _ _ (fun z => c (hq.2.1.2.1 r' r hr' hr z.2))) m rfl rfl rfl rfl
end R9
