/-! A router's turn: both sides. -/
section Tu
variable {G H : Nat → Nat → Nat} {sa : Nat → Nat} {x r kc ks : Nat} {s : cS} {t : moS}
/-- the next update of a router -/
theorem rr_43 {v : Int32} (h : RR G H sa x s t) (hM : MV t) (hr : r < cR t) : RR G H sa x (cSI s 197 (G 1 r) v) (moSI t 43 r v) ∧ MV (moSI t 43 r v) ∧ fr [26] [] [] s (cSI s 197 (G 1 r) v) := by
  have hq := h.q.1
  have hT := hq.ty
  have hx := hq.1.1
  have k1 := (hq.rt hr).1.1
  have m : mfr [43] t (moSI t 43 r v) := mfr.si (by decide)
  have f : fr [26] [] [] s (cSI s 197 (G 1 r) v) := fr.si (by rw [k1]; decide)
  have hg : RGl G H sa x (cSI s 197 (G 1 r) v) := hq.1.v rfl rfl f rfl rfl rfl
  have ht := hg.2.2.1
  have oI : ∀ g b, ¬ (g = 197 ∧ b = G 1 r) → (cSI s 197 (G 1 r) v).I g b = s.I g b := fun g b hn => by
    rw [evI, if_neg hn]
  have e43 : ∀ i, (moSI t 43 r v).I 43 i = if i = r then v else t.I 43 i := fun i => by rw [moSI_s]; rfl
  refine ⟨rr_tb h hM (fun _ _ => rfl) hg (hq.2.1.fr m rfl) (f.wk (by decide) (by decide) (by decide)) (m.wk (by decide)) (fun r' hr' => ⟨oI _ _ (by omega), oI _ _ (by omega)⟩) (fun r' hr' => ?_), hM.tb (m.wk (by decide)) (fun r' hr' => (hM.r hr').fr m rfl) (fun r' h1 h2 => ?_), f⟩
  · obtain ⟨i1, i2, i3, -⟩ := hq.2.2.2.2.2.1 r' hr'
    refine ⟨?_, i2.fr hT i1.1.1 f (oI _ _ (by omega)) m rfl rfl rfl rfl, i3.fr hT i1.1.1 f m rfl rfl rfl rfl⟩
    obtain ⟨⟨y1, y2, y3⟩, ⟨nm', y4, y5, y6⟩, ⟨u1, u2, u3, u4, u5⟩, y8, y9⟩ := i1
    refine ⟨⟨y1, y2, y3⟩, ⟨nm', y4, y5.fr f (by decide) (by decide) (by decide) ht, y6⟩, ⟨(oI _ _ (by omega)).trans u1, (oI _ _ (by omega)).trans (by rw [m.I 39 (by decide)]; exact u2), (oI _ _ (by omega)).trans (by rw [m.I 70 (by decide)]; exact u3), ?_, (oI _ _ (by omega)).trans (by rw [m.I 44 (by decide)]; exact u5)⟩, by rw [m.I 40 (by decide), m.I 41 (by decide), m.I 42 (by decide)]; exact y8, by rw [m.I 45 (by decide)]; exact y9⟩
    rw [e43]
    by_cases c : r' = r
    · rw [if_pos c, c, cSI_s]
    · rw [if_neg c, oI _ _ (fun z => c (hq.2.1.2.1 r' r hr' hr z.2))]
      exact u4
  · obtain ⟨⟨w1, -, -, -, -, -, w7⟩, w8⟩ := hM.2.2.2.2.2.2.2.1 r' h1 h2
    rw [m.I 46 (by decide), m.I 105 (by decide), m.I 45 (by decide)]
    exact ⟨w1, w7, w8⟩
theorem fg_cm {t' : moS} {ku iu : Nat} {vu : Int32} (hu : ku = 43 ∨ ku = 45) (h : M_forget (moSI t ku iu vu) (nI r) = some t') : ∃ t1, M_forget t (nI r) = some t1 ∧ t' = moSI t1 ku iu vu := by
  rw [dM_forget hu] at h
  cases e : M_forget t (nI r) with
  | none => rw [e] at h; cases h
  | some t1 =>
    rw [e] at h
    cases h
    exact ⟨t1, rfl, rfl⟩
end Tu
