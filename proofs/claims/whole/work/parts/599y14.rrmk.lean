/-! The relation where a route is marked, becomes its router's own, lapses or dies. -/
section Rm
variable {G H : Nat → Nat → Nat} {sa : Nat → Nat} {x r w a k j : Nat} {s s' : cS} {t t' : moS}
theorem ta_keep {tb u ur n hw mx : Nat} {g : Nat → Nat} (h : RTa s tb u ur n hw mx g) (hK : s'.K = s.K) (hQ : s'.Q = s.Q) (hP : s'.P 200 tb = s.P 200 tb) (hI : s'.I 201 tb = s.I 201 tb) : RTa s' tb u ur n hw mx g := by
  unfold RTa at h ⊢
  rw [hK, hQ, hP, hI]
  exact h
/-- the router's own numbers are what they were -/
theorem rt_keep (h : RRt G H sa x s t r) (hq : RQ G H sa x s t) (hr : r < cR t) (c : rwC G H r a w s s') (ka : (s.K a).1 = 23) (kw : (s.K w).1 = 135) (hI : ∀ g, g ≠ 199 → s'.I g (G 1 r) = s.I g (G 1 r)) (hE : s'.E (H 196 (G 1 r)) = s.E (H 196 (G 1 r))) (ct : mfr Wrow t t') (m4 : t'.I 44 r = t.I 44 r) (m5 : ∀ i, i < 11 → t'.I 45 (11 * r + i) = t.I 45 (11 * r + i)) : RRt G H sa x s' t' r := by
  have hT := hq.ty
  have f := c.fr hT h.1.1 ka kw
  obtain ⟨hK, hP, hP6, hQ, hE', -⟩ := c
  obtain ⟨⟨a1, a2, a3⟩, ⟨nm, b1, b2, b3⟩, d, d2, d3⟩ := h
  have k196 : (s.K (H 196 (G 1 r))).1 = 104 := by rw [(hT.r a1 196 104 11).2]
  unfold RRt
  rw [ct.J 38 (by decide), ct.I 39 (by decide), ct.I 40 (by decide), ct.I 41 (by decide), ct.I 42 (by decide), ct.I 43 (by decide), m4, ct.I 70 (by decide), hE, hE' (H 195 (G 1 r)) (ne_ro (u := 123) (by rw [(hT.r a1 195 123 3).2]) k196), hI 182 (by decide), hI 183 (by decide), hI 185 (by decide), hI 197 (by decide), hI 198 (by decide), hK, hP 181 _ (by decide)]
  refine ⟨⟨a1, ?_, a3⟩, ⟨nm, b1, b2.fr f (by decide) (by decide) (by decide) ?_, b3⟩, d, d2, fun i hi => ?_⟩
  · rw [hQ _ (ne_ro (u := 131) (by rw [(hT.r hq.1.1 228 131 6).2]) kw)]; exact a2
  · have := hq.1.2.2.1
    unfold TK at this ⊢
    rw [hK]; exact this
  · rw [m5 i hi]; exact d3 i hi
/-- one row is another, at its place -/
theorem rr_at (h : RR G H sa x s t) (hM : MV t) (hr : r < cR t) (hj : j < cN t r) (ea : a = G 4 (2700 * r + j)) (hw : s.P 200 (H 186 (G 1 r)) = some w) (c : rwC G H r a w s s') (hQ : s'.Q = s.Q) (h201 : s'.I 201 (H 186 (G 1 r)) = s.I 201 (H 186 (G 1 r))) (ct : rwT r t t') (hn : t'.I 105 r = t.I 105 r) (h26 : s'.I 190 (G 1 r) = s.I 190 (G 1 r) ∧ s'.I 192 (G 1 r) = s.I 192 (G 1 r)) (hrt : RRt G H sa x s' t' r) (h199 : ¬ s.I 199 (G 1 r) < s'.I 199 (G 1 r)) (oI : ∀ g, g ∈ fRI → ∀ i, i ≠ 2700 * r + j → t'.I g i = t.I g i) (oJ : ∀ g, g ∈ fRJ → ∀ i, i ≠ 2700 * r + j → t'.J g i = t.J g i) (hRW : RW G H s' t' a (2700 * r + j)) (hdl : t'.I 110 (2700 * r + j) = 2 → ¬ s'.I 170 a < s'.I 199 (G 1 r)) (ky : kyR t' (2700 * r + j) = kyR t (2700 * r + j)) (hmr : mRw t' r (2700 * r + j)) : RR G H sa x s' t' ∧ MV t' := by
  have hq := h.q.1
  have hT := hq.ty
  obtain ⟨b0, b1, b2⟩ := hq.tb hr
  obtain ⟨c1, c2, c3, w', cap, d1, d2, d3, d4, d5, d6, d7, d8⟩ := id b0
  have ka : (s.K a).1 = 23 := by rw [ea]; exact (d6 j (by omega)).2
  have en : cN t' r = cN t r := by unfold cN; rw [hn]
  constructor
  · refine rr_row h hM hr (fun _ _ _ => rfl) (fun _ _ _ => ⟨rfl, fun _ _ => rfl⟩) c ct hw ka h26 hrt h199 ?_ (fun r' j' hr' hne hj' z => ?_) (fun i hi => Or.inr ⟨i, hi, rfl⟩) fun i hi => ?_
    · rw [en]
      exact ta_keep b0 c.1 hQ (c.2.1 200 _ (by decide)) h201
    · rw [ea] at z
      have hb := (hq.tb hr').1.2.2.1
      have := hq.2.1.2.2.2.2.1 r' r j' j hr' hr hj' (by omega) z
      omega
    · rw [en] at hi
      by_cases e : i = j
      · subst e
        exact Or.inl ⟨ea.symm, hRW, hdl⟩
      · refine Or.inr ⟨i, hi, fun z => e ?_, rfl, fun g hg => oI g hg _ (by omega), fun g hg => oJ g hg _ (by omega)⟩
        rw [ea] at z
        exact d8 i j (by omega) (by omega) z
  · have ei : cI t' r = cI t r := by unfold cI; rw [ct.1.I 70 (by decide)]
    have kyo : ∀ i, kyR t' (2700 * r + i) = kyR t (2700 * r + i) := fun i => by
      by_cases e : i = j
      · rw [e]; exact ky
      · unfold kyR
        rw [oI 106 (by decide) _ (by omega), oI 109 (by decide) _ (by omega), oJ 107 (by decide) _ (by omega), oJ 108 (by decide) _ (by omega)]
    refine hM.rw hr ct ?_ (fun i hi => ?_) fun i i' h1 h2 => ?_
    · rw [hn]; exact (hM.r hr).2.2.2.2.2.2.2.2.2.2.2.2.1
    · rw [en] at hi
      by_cases e : i = j
      · rw [e]; exact hmr
      · exact ((hM.r hr).w hi).mv ei (fun g hg => oI g hg _ (by omega)) (fun g hg => oJ g hg _ (by omega))
    · rw [en] at h2
      rw [kyo, kyo]
      exact hM.ks hr h1 h2
theorem mkM_I {g i : Nat} (hg : g ∈ fRI) : (mkM t r k).I g i = if g = 119 ∧ i = k then 1 else t.I g i := by
  have h : g ≠ 44 ∧ g ≠ 45 := by revert hg; revert g; decide
  unfold mkM
  split
  · rw [moSI_n h.1, moSI_n h.2, evMI]
  · rw [moSI_n h.2, evMI]
theorem mkM_J : (mkM t r k).J = t.J := by unfold mkM; split <;> rfl
theorem mkM_5 : (mkM t r k).I 105 = t.I 105 := by
  unfold mkM
  split
  · rw [moSI_n (by decide), moSI_n (by decide), moSI_n (by decide)]
  · rw [moSI_n (by decide), moSI_n (by decide)]
theorem mkS_I {rr cnt g b : Nat} (h : ¬ (g = 198 ∧ b = rr)) : (mkS s rr cnt x a).I g b = if g = 167 ∧ b = a then 1 else s.I g b := by
  unfold mkS
  split
  · rw [evI, if_neg h]
    exact evI
  · exact evI
theorem mkS_K {rr cnt : Nat} : (mkS s rr cnt x a).K = s.K ∧ (mkS s rr cnt x a).P = s.P ∧ (mkS s rr cnt x a).Q = s.Q ∧ (mkS s rr cnt x a).J = s.J := by
  unfold mkS
  split <;> exact ⟨rfl, rfl, rfl, rfl⟩
theorem rr_mk (h : RR G H sa x s t) (hM : MV t) (hr : r < cR t) (hj : j < cN t r) (ea : a = G 4 (2700 * r + j)) (ek : k = 2700 * r + j) : RR G H sa x (mkS s (G 1 r) (H 196 (G 1 r)) x a) (mkM t r k) ∧ MV (mkM t r k) := by
  subst ek
  have h6 := hM.nR
  have hn := hM.nRo hr
  have hq := h.q.1
  have hT := hq.ty
  obtain ⟨b0, b1, b2⟩ := hq.tb hr
  obtain ⟨c1, c2, c3, w, cap, d1, d2, d3, d4, d5, d6, d7, d8⟩ := id b0
  have k1 := (hq.rt hr).1.1
  have ka : (s.K a).1 = 23 := by rw [ea]; exact (d6 j (by omega)).2
  have hra : a ≠ G 1 r := ne_ro ka k1
  obtain ⟨nK, nP, nQ, nJ⟩ := mkS_K (s := s) (rr := G 1 r) (cnt := H 196 (G 1 r)) (x := x) (a := a)
  have iR : ∀ g, g ≠ 198 → (mkS s (G 1 r) (H 196 (G 1 r)) x a).I g (G 1 r) = s.I g (G 1 r) := fun g hg => by
    rw [mkS_I (fun z => hg z.1), if_neg (fun z => hra z.2.symm)]
  have iA : ∀ g, g ≠ 167 → (mkS s (G 1 r) (H 196 (G 1 r)) x a).I g a = s.I g a := fun g hg => by
    rw [mkS_I (fun z => hra z.2), if_neg (fun z => hg z.1)]
  have oP : ∀ g b u, (s.K b).1 = u → u ≠ 26 → u ≠ 23 → (mkS s (G 1 r) (H 196 (G 1 r)) x a).I g b = s.I g b := fun g b u hb h1 h2 => by
    rw [mkS_I (fun z => h1 (by rw [← hb, z.2]; exact k1)), if_neg (fun z => h2 (by rw [← hb, z.2]; exact ka))]
  have mI : ∀ g, g ∈ fRI → g ≠ 119 → ∀ i, (mkM t r (2700 * r + j)).I g i = t.I g i := fun g hg h1 i => by rw [mkM_I hg, if_neg (fun z => h1 z.1)]
  have hRW := b1 j hj
  rw [← ea] at hRW
  refine rr_at h hM hr hj ea d1 rwC.mk nQ ?_ (rwT.mk (by omega)) (by rw [mkM_5]) ⟨iR 190 (by decide), iR 192 (by decide)⟩ (rt_mark (hq.rt hr) hT hq.1.1 hq.2.2.1.2.1 ka) (by rw [iR 199 (by decide)]; exact Int32.lt_irrefl) (fun g hg i hi => ?_) (fun g hg i hi => by rw [mkM_J]) ?_ (fun z => ?_) ?_ ?_
  · exact oP 201 _ 27 (hT.p k1 186 27).2 (by decide) (by decide)
  · rw [mkM_I hg, if_neg (fun z => hi z.2)]
  · unfold RW PF at hRW ⊢
    have k9 := (hT.p ka 160 9).2
    have k10 := (hT.p ka 161 10).2
    have k11 := (hT.p ka 162 11).2
    rw [mkM_J, nJ, nP, mI 106 (by decide) (by decide), mI 109 (by decide) (by decide), mI 110 (by decide) (by decide), mI 111 (by decide) (by decide), mI 112 (by decide) (by decide), mI 113 (by decide) (by decide), mI 120 (by decide) (by decide), mI 121 (by decide) (by decide), mI 122 (by decide) (by decide), oP 100 _ 9 k9 (by decide) (by decide), oP 103 _ 9 k9 (by decide) (by decide), oP 100 _ 10 k10 (by decide) (by decide), oP 100 _ 11 k11 (by decide) (by decide), iA 163 (by decide), iA 164 (by decide), iA 165 (by decide), iA 168 (by decide), iA 169 (by decide), iA 170 (by decide), mkM_I (by decide), if_pos ⟨rfl, rfl⟩, mkS_I (fun z => hra z.2), if_pos ⟨rfl, rfl⟩]
    obtain ⟨e1, ⟨e2, e3, e4, e5⟩, e6⟩ := hRW
    exact ⟨e1, ⟨e2, e3, e4, rfl⟩, e6⟩
  · rw [mI 110 (by decide) (by decide)] at z
    rw [iA 170 (by decide), iR 199 (by decide), ea]
    exact b2 j hj z
  · unfold kyR
    rw [mI 106 (by decide) (by decide), mI 109 (by decide) (by decide), mkM_J]
  · have := (hM.r hr).w hj
    have ei : cI (mkM t r (2700 * r + j)) r = cI t r := by unfold cI; rw [(rwT.mk (t := t) (r := r) (k := 2700 * r + j) (by omega)).1.I 70 (by decide)]
    unfold mRw at this ⊢
    rw [ei, mkM_J, mI 106 (by decide) (by decide), mI 109 (by decide) (by decide), mI 110 (by decide) (by decide), mI 111 (by decide) (by decide), mI 112 (by decide) (by decide), mI 113 (by decide) (by decide), mI 116 (by decide) (by decide), mkM_I (by decide), if_pos ⟨rfl, rfl⟩]
    obtain ⟨e1, e2, e3, e4, e5, e6, e7, e8, e9, e10, e11⟩ := this
    exact ⟨e1, e2, e3, e4, e5, e6, e7, e8, e9, Or.inr rfl, e11⟩
end Rm
