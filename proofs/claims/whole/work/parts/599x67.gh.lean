/-! The books with more in them. -/
/-- the books agree in what there is -/
def gA (G G' : Nat → Nat → Nat) (t : moS) : Prop := (∀ i, i < cL t → G' 0 i = G 0 i) ∧ (∀ r, r < cR t → G' 1 r = G 1 r ∧ (∀ p, p < cI t r → G' 2 (4 * r + p) = G 2 (4 * r + p) ∧ ∀ k, k < 4 → G' 8 (4 * (4 * r + p) + k) = G 8 (4 * (4 * r + p) + k)) ∧ (G' 13 r = G 13 r ∧ ∀ j, j < G 13 r → G' 4 (2700 * r + j) = G 4 (2700 * r + j)) ∧ (G' 5 (2 * r) = G 5 (2 * r) ∧ G' 5 (2 * r + 1) = G 5 (2 * r + 1)) ∧ (G' 14 r = G 14 r ∧ (∀ j, j < G 14 r → G' 6 (32 * r + j) = G 6 (32 * r + j)) ∧ ∀ j, j < (t.I 46 r).toNatClampNeg → G' 7 (32 * r + j) = G 7 (32 * r + j)) ∧ ∀ k, k < 8 → G' 9 (8 * r + k) = G 9 (8 * r + k) ∧ G' 10 (8 * r + k) = G 10 (8 * r + k)) ∧ (∀ i, i < cS' t → G' 3 i = G 3 i) ∧ (∀ i, G' 11 i = G 11 i) ∧ (∀ i, G' 12 i = G 12 i) ∧ G' 15 0 = G 15 0 ∧ ∀ i, G' 16 i = G 16 i
def hA (H H' : Nat → Nat → Nat) (s : cS) : Prop := ∀ g a, (s.K a).1 ≠ 0 → H' g a = H g a
section Gh
variable {G G' H H' : Nat → Nat → Nat} {sa : Nat → Nat} {x : Nat} {s : cS} {t : moS}
theorem gA.rf : gA G G t := ⟨fun _ _ => rfl, fun _ _ => ⟨rfl, fun _ _ => ⟨rfl, fun _ _ => rfl⟩, ⟨rfl, fun _ _ => rfl⟩, ⟨rfl, rfl⟩, ⟨rfl, fun _ _ => rfl, fun _ _ => rfl⟩, fun _ _ => ⟨rfl, rfl⟩⟩, fun _ _ => rfl, fun _ => rfl, fun _ => rfl, rfl, fun _ => rfl⟩
theorem hA.rf : hA H H s := fun _ _ _ => rfl
theorem hA.u {a u : Nat} (h : hA H H' s) (ha : (s.K a).1 = u) (g : Nat) (hu : u ≠ 0 := by decide) : H' g a = H g a := h g a (by rw [ha]; exact hu)
theorem RLk.gh {i : Nat} (h : RLk G H sa x s t i) (hx : (s.K x).1 = 30) (g : gA G G' t) (e : hA H H' s) (hi : i < cL t) : RLk G' H' sa x s t i := by
  have k := h.1.1
  unfold RLk at h ⊢
  rw [g.1 i hi, e.u hx, e.u k, e.u k]
  exact h
theorem RPl.gh {a n u : Nat} {ff gg per le mo : Nat → Int32} {hh ll : Nat → Int64} (h : RPl H s a n ff hh ll gg per le mo) (ha : (s.K a).1 = u) (hu : u ≠ 0) (e : hA H H' s) : RPl H' s a n ff hh ll gg per le mo := by
  unfold RPl at h ⊢
  rw [e.u ha 121 hu, e.u ha 122 hu, e.u ha 123 hu, e.u ha 124 hu]
  exact h
theorem RLs.gh {i : Nat} (h : RLs G H sa x s t i) (hx : (s.K x).1 = 30) (g : gA G G' t) (e : hA H H' s) (hi : i < cS' t) : RLs G' H' sa x s t i := by
  obtain ⟨⟨a1, a2⟩, b, c⟩ := h
  unfold RLs
  rw [g.2.2.1 i hi, e.u hx, e.u a1]
  exact ⟨⟨a1, a2⟩, b, c.gh a1 (by decide) e⟩
theorem RRt.gh {r : Nat} (h : RRt G H sa x s t r) (hx : (s.K x).1 = 30) (g : gA G G' t) (e : hA H H' s) (hr : r < cR t) : RRt G' H' sa x s t r := by
  have k := h.1.1
  unfold RRt at h ⊢
  rw [(g.2.1 r hr).1, e.u hx, e.u k, e.u k, e.u k, e.u k]
  exact h
theorem RTa.gh {tb u ur n hw mx : Nat} {f f' : Nat → Nat} (h : RTa s tb u ur n hw mx f) (hf : ∀ j, j < hw → f' j = f j) : RTa s tb u ur n hw mx f' := by
  obtain ⟨a, b, c, w, cap, d1, d2, d3, d4, d5, d6, d7, d8⟩ := h
  refine ⟨a, b, c, w, cap, d1, d2, d3, d4, d5, fun j hj => by rw [hf j hj]; exact d6 j hj, d7, fun i j hi hj h => d8 i j hi hj (by rw [← hf i hi, ← hf j hj]; exact h)⟩
theorem RW.gh {r a k : Nat} (h : RW G H s t a k) (ha : (s.K a).1 = 23) (hMV : MV t) (hM : mRw t r k) (hr : r < cR t) (g : gA G G' t) (e : hA H H' s) : RW G' H' s t a k := by
  unfold RW at h ⊢
  have h6 := hMV.nR
  have h4 := hMV.nIf hr
  have ei : ifp G' (t.I 113 k) = ifp G (t.I 113 k) := by
    unfold ifp
    split
    · rfl
    · rename_i hne
      rcases hM.2.2.2.2.2.1 with z | ⟨q, z, h1, h2⟩
      · exact absurd z hne
      · rw [z, nI_clamp (by omega)]
        rw [show q = 4 * r + (q - 4 * r) by omega, ((g.2.1 r hr).2.1 (q - 4 * r) (by omega)).1]
  rw [ei, e.u ha, e.u ha, e.u ha]
  exact h
theorem RTb.gh {r : Nat} (h : RTb G H s t r) (hM : MV t) (hr1 : (s.K (G 1 r)).1 = 26) (hr : r < cR t) (g : gA G G' t) (e : hA H H' s) : RTb G' H' s t r := by
  obtain ⟨h1, h2, h3⟩ := h
  have hg := (g.2.1 r hr).2.2.1
  have hn := h1.2.1
  refine ⟨?_, fun j hj => ?_, fun j hj => ?_⟩
  · rw [(g.2.1 r hr).1, e.u hr1, hg.1]
    exact h1.gh hg.2
  · rw [hg.2 j (by omega)]
    obtain ⟨-, -, -, w, cap, -, -, -, -, -, b6, -, -⟩ := h1
    exact (h2 j hj).gh (b6 j (by omega)).2 hM ((hM.r hr).w hj) hr g e
  · rw [hg.2 j (by omega), (g.2.1 r hr).1]
    exact h3 j hj
theorem RSt.gh {r : Nat} (h : RSt G H s t r) (hr1 : (s.K (G 1 r)).1 = 26) (hr : r < cR t) (g : gA G G' t) (e : hA H H' s) : RSt G' H' s t r := by
  obtain ⟨h1, h2, h3⟩ := h
  obtain ⟨g1, g2, g3⟩ := (g.2.1 r hr).2.2.2.2.1
  have hn := h1.2.1
  have k : ∀ j, j < (t.I 46 r).toNatClampNeg → (s.K (G 6 (32 * r + j))).1 = 24 := fun j hj => by
    obtain ⟨-, -, -, w, cap, -, -, -, -, -, b6, -, -⟩ := h1
    exact (b6 j (by omega)).2
  refine ⟨?_, fun j hj => ?_, fun i j hij hj => ?_⟩
  · rw [(g.2.1 r hr).1, e.u hr1, g1]
    exact h1.gh g2
  · rw [g2 j (by omega), g3 j hj, e.u (k j hj)]
    exact h2 j hj
  · rw [g2 i (by omega), g2 j (by omega), e.u (k i (by omega)), e.u (k j hj)]
    exact h3 i j hij hj
theorem RFi.gh {r w : Nat} (h : RFi G H s t r w) (hw : w = 0 ∨ w = 1) (hr1 : (s.K (G 1 r)).1 = 26) (hr : r < cR t) (g : gA G G' t) (e : hA H H' s) : RFi G' H' s t r w := by
  obtain ⟨⟨a1, a2⟩, b⟩ := h
  have e5 : G' 5 (2 * r + w) = G 5 (2 * r + w) := by
    obtain ⟨y1, y2⟩ := (g.2.1 r hr).2.2.2.1
    rcases hw with rfl | rfl
    · exact y1
    · exact y2
  unfold RFi
  rw [e5, (g.2.1 r hr).1, e.u hr1]
  exact ⟨⟨a1, a2⟩, b.gh a1 (by decide) e⟩
theorem RPy.gh {r : Nat} (h : RPy G H s t r) (hM : MV t) (hr1 : (s.K (G 1 r)).1 = 26) (hr : r < cR t) (g : gA G G' t) (e : hA H H' s) : RPy G' H' s t r := by
  obtain ⟨a, b, c, d, f⟩ := h
  have gk := (g.2.1 r hr).2.2.2.2.2
  have hv := hM.r hr
  have h8 : (t.I 59 r).toNatClampNeg ≤ 8 ∧ (t.I 63 r).toNatClampNeg ≤ 8 := ⟨hv.2.2.2.2.2.2.1.1.n.2.2, hv.2.2.2.2.2.2.2.1.1.n.2.2⟩
  unfold RPy
  rw [(g.2.1 r hr).1, e.u hr1, e.u hr1, e.u hr1, e.u hr1]
  refine ⟨a, fun k hk => ?_, fun k hk => ?_, fun k hk => ?_, f⟩
  · rw [(gk k hk).1, (gk k hk).2]; exact b k hk
  · rw [(gk k (by omega)).1]; exact c k hk
  · rw [(gk k (by omega)).2]; exact d k hk
theorem RPo.gh {r p : Nat} (h : RPo G H s t r p) (hM : MV t) (hT : TY cNo H s) (hr1 : (s.K (G 1 r)).1 = 26) (hr : r < cR t) (hp : p < cI t r) (g : gA G G' t) (e : hA H H' s) : RPo G' H' s t r p := by
  obtain ⟨⟨a1, a2, a3⟩, b1, b2, c, d, f, k, q⟩ := h
  obtain ⟨e2, e8⟩ := (g.2.1 r hr).2.1 p hp
  have hv := (hM.r hr).i hp
  have hc := (hT.p a1 86 4).2
  unfold RPo RAd RCh RSo
  rw [e2, (g.2.1 r hr).1, e.u hr1, e.u a1, e.u a1, e.u a1, e.u a1, e.u hc, e.u hc, e.u hc, e.u hc, e.u hc, e.u hc, g.1 _ hv.2.1]
  obtain ⟨k1, k2, k3, k4, k5, k6⟩ := k
  refine ⟨⟨a1, a2, a3⟩, b1, b2, c, d, f, ⟨k1, k2, fun j hj => ?_, fun j hj => ?_, k5, k6⟩, q⟩
  · rw [e8 j (by have := hv.2.2.2.2.2.2.2.2.2.2.1.n.2.2; omega)]; exact k3 j hj
  · rw [e8 j hj]; exact k4 j hj
theorem RFl.gh (h : RFl G H x s t) (hM : MV t) (hx : (s.K x).1 = 30) (g : gA G G' t) (e : hA H H' s) : RFl G' H' x s t := by
  obtain ⟨a, b, c, d, f⟩ := h
  obtain ⟨g0, gr, g3, g11, g12, g15, g16⟩ := g
  unfold RFl
  simp only [g11, g12, e.u hx]
  refine ⟨a, fun i hi => ?_, c, d, f⟩
  obtain ⟨b1, b2, b3⟩ := b i hi
  refine ⟨b1, b2, ?_⟩
  obtain ⟨⟨n, hn1, hn2⟩, -, -, -, hfr⟩ := hM.2.2.2.2.1.2.2.2.2.2 i hi
  have h10 := hM.nL
  unfold RDg at b3 ⊢
  rw [e.u b2, e.u b2, e.u b2, g0 _ (by rw [hn1, nI_clamp (by omega)]; exact hn2)]
  have es : (if t.I 127 (t.I 124 i).toNatClampNeg = -1 then none else some (G' 1 ((t.I 127 (t.I 124 i).toNatClampNeg).toNatClampNeg / 4))) = if t.I 127 (t.I 124 i).toNatClampNeg = -1 then none else some (G 1 ((t.I 127 (t.I 124 i).toNatClampNeg).toNatClampNeg / 4)) := by
    split
    · rfl
    · rename_i hne
      rcases hfr with z | ⟨r, p, hr, hp, z, -⟩
      · exact absurd z hne
      · have h6 := hM.nR
        have h4 := hM.nIf hr
        rw [z, nI_clamp (by omega), show (4 * r + p) / 4 = r by omega, (gr r hr).1]
  rw [es]
  exact b3
theorem RTx.gh (h : RTx H x s t) (hx : (s.K x).1 = 30) (e : hA H H' s) : RTx H' x s t := by
  unfold RTx at h ⊢
  rw [e.u hx]
  exact h
end Gh
