/-! An interface's address. -/
theorem tyF_81 {u g : Nat} {e : Nat × Nat} (h : tyF u g = some e) : g ≠ 81 ∧ g ≠ 82 := by
  unfold tyF at h
  split at h <;> first | (cases h; done) | decide
section Ad
variable {G H : Nat → Nat → Nat} {sa : Nat → Nat} {x r p : Nat} {s s' : cS} {t t' : moS}
theorem RGl.v9 {g a : Nat} {v : Option Nat} (h : RGl G H sa x s) (hg : g = 81 ∨ g = 82) : RGl G H sa x (cSP s g a v) := by
  obtain ⟨a1, a2, a3, a4, a5, a6, a7, a8, a9, a10, a11, a12, a13, a14, a15, a16, a17⟩ := h
  have pP : ∀ g' b, g' ≠ 81 → g' ≠ 82 → (cSP s g a v).P g' b = s.P g' b := fun g' b h1 h2 => cSP_g (fun z => by rcases hg with y | y <;> rw [y] at z <;> contradiction)
  have pF : ∀ g', g' ≠ 81 → g' ≠ 82 → (cSP s g a v).P g' = s.P g' := fun g' h1 h2 => funext fun b => pP g' b h1 h2
  refine ⟨a1, ⟨fun b g' v n hu et => ?_, a2.2.1, ?_⟩, a3, fun b hb => ?_, ?_, ?_, ?_, ?_, ?_, ?_, ?_, ?_, a13, a14, a15, ?_, ?_⟩
  · rw [pP g' b (tyF_81 et).1 (tyF_81 et).2]
    exact a2.1 b g' v n hu et
  · rw [pF 0 (by decide) (by decide)]; exact a2.2.2
  · obtain ⟨l, o, w, d, b1, b2⟩ := a4 b hb
    exact ⟨l, o, w, d, by rw [pF 0 (by decide) (by decide)]; exact b1, b2⟩
  · obtain ⟨n, c1⟩ := a5
    refine ⟨n, ?_⟩
    unfold RTa at c1 ⊢
    rw [pF 200 (by decide) (by decide)]
    exact c1
  · rw [pF 223 (by decide) (by decide)]; exact a6
  · rw [pF 96 (by decide) (by decide)]; exact a7
  · rw [pF 97 (by decide) (by decide)]; exact a8
  · rw [pF 200 (by decide) (by decide)]; exact a9
  · rw [pF 28 (by decide) (by decide)]; exact a10
  · rw [pF 28 (by decide) (by decide)]; exact a11
  · rw [pF 0 (by decide) (by decide)]; exact a12
  · rw [pF 96 (by decide) (by decide), pF 97 (by decide) (by decide)]; exact a16
  · rw [pF 200 (by decide) (by decide)]; exact a17
theorem po_ad (h : RPo G H s t r p) (hT : TY cNo H s) (hr : (s.K (G 1 r)).1 = 26) (h4' : (t.I 82 (4 * r + p)).toNatClampNeg ≤ 4) (f : fr [] [(81, 8), (82, 8)] [] s s') (m : mfr [75, 76, 77, 78] t t') (b1' : RAd G s' t' (4 * r + p) 0) (b2' : RAd G s' t' (4 * r + p) 1) : RPo G H s' t' r p := by
  obtain ⟨⟨a1, a2, a3⟩, b1, b2, c, d, e, g, k⟩ := h
  obtain ⟨v1, v2, v3⟩ := f.v a1 (by decide)
  have g' := g.fr hT a1 h4' f m rfl rfl rfl rfl
  have k' := k.fr a1 f m rfl rfl rfl
  unfold RPo
  rw [m.I 71 (by decide), m.I 72 (by decide), m.J 73 (by decide), m.I 74 (by decide), m.I 89 (by decide), m.I 90 (by decide), m.I 91 (by decide), m.J 92 (by decide), m.J 93 (by decide), m.I 94 (by decide), m.I 95 (by decide), m.I 96 (by decide), m.J 97 (by decide), m.J 98 (by decide), m.I 99 (by decide), m.I 100 (by decide), f.q (a := H 184 (G 1 r)) (u := 139) (by rw [(hT.r hr 184 139 4).2]) (by decide), f.q (a := H 87 (G 2 (4 * r + p))) (u := 136) (by rw [(hT.r a1 87 136 4).2]) (by decide), f.q (a := H 91 (G 2 (4 * r + p))) (u := 137) (by rw [(hT.r a1 91 137 4).2]) (by decide)]
  simp only [v1]
  refine ⟨⟨f.r a1, a2, a3⟩, b1', b2', c, fun j hj => ?_, fun j hj => ?_, g', k'⟩
  · obtain ⟨q, q1, q2, q3⟩ := d j hj
    exact ⟨q, q1, f.r q2, q3.fr f q2 (by decide)⟩
  · obtain ⟨q, n, q1, q2, q3⟩ := e j hj
    exact ⟨q, n, q1, f.r q2, q3.fr f q2 (by decide)⟩
theorem rr_adr (h : RR G H sa x s t) (hM : MV t) (hr : r < cR t) (hp : p < cI t r) {f ap : Nat} {hh ll : Int64} {nn : Int32} (hf : f = 0 ∨ f = 1) (kap : (s.K ap).1 = 14) (hPF : PF s ap (fam (nI f)) hh ll nn) (hn : rng nn 0 (if f = 0 then 32 else 128)) (m : mfr [75, 76, 77, 78] t t') (o : ∀ i, i ≠ 2 * (4 * r + p) + f → t'.I 75 i = t.I 75 i ∧ t'.J 76 i = t.J 76 i ∧ t'.J 77 i = t.J 77 i ∧ t'.I 78 i = t.I 78 i) (v5 : t'.I 75 (2 * (4 * r + p) + f) = 1) (v6 : t'.J 76 (2 * (4 * r + p) + f) = hh) (v7 : t'.J 77 (2 * (4 * r + p) + f) = ll) (v8 : t'.I 78 (2 * (4 * r + p) + f) = nn) : RR G H sa x (cSP s (81 + f) (G 2 (4 * r + p)) (some ap)) t' ∧ MV t' ∧ fr [] [(81, 8), (82, 8)] [] s (cSP s (81 + f) (G 2 (4 * r + p)) (some ap)) := by
  have hq := h.q.1
  have hk := (hq.po hr hp).1.1
  have fs : fr [] [(81, 8), (82, 8)] [] s (cSP s (81 + f) (G 2 (4 * r + p)) (some ap)) := fr.sp (by
    rw [hk]
    rcases hf with rfl | rfl <;> decide)
  have p4 : p < 4 := Nat.lt_of_lt_of_le hp (hM.r hr).2.2.2.2.2.2.2.2.2.1.n.2.2
  have ad : ∀ r' p', r' < cR t → p' < cI t r' → ∀ f', f' = 0 ∨ f' = 1 → RAd G (cSP s (81 + f) (G 2 (4 * r + p)) (some ap)) t' (4 * r' + p') f' := fun r' p' hr' hp' f' hf' => by
    have hP := hq.po hr' hp'
    have old : RAd G s t (4 * r' + p') f' := by
      rcases hf' with rfl | rfl
      · exact hP.2.1
      · exact hP.2.2.1
    have hin : G 2 (4 * r' + p') = G 2 (4 * r + p) → 4 * r' + p' = 4 * r + p := fun e => hq.2.1.2.2.1 r' r p' p hr' hr hp' hp e
    by_cases e : 4 * r' + p' = 4 * r + p ∧ f' = f
    · obtain ⟨e1, e2⟩ := e
      rw [e1, e2]
      exact Or.inr ⟨v5, ap, cSP_s, kap, by rw [v6, v7, v8]; exact hPF⟩
    · obtain ⟨q1, q2, q3, q4⟩ := o (2 * (4 * r' + p') + f') (fun z => e (by omega))
      unfold RAd at old ⊢
      rw [q1, q2, q3, q4]
      have eP : (cSP s (81 + f) (G 2 (4 * r + p)) (some ap)).P (81 + f') (G 2 (4 * r' + p')) = s.P (81 + f') (G 2 (4 * r' + p')) := by
        rw [evP, if_neg]
        rintro ⟨z1, z2⟩
        exact e ⟨hin z2, by omega⟩
      rw [eP]
      exact old
  refine ⟨rr_po h hM (hq.1.v9 (by omega)) fs.wk (m.wk (by decide)) fun r' p' hr' hp' => ?_, hM.po (m.wk (by decide)) (fun r' p' hr' hp' => ?_) (fun r' p' h6 hp' h4 => ?_), fs⟩
  · exact po_ad (hq.po hr' hp') hq.ty (hq.rt hr').1.1 ((hM.r hr').i hp').2.2.2.2.2.2.2.2.2.2.1.n.2.2 fs m (ad r' p' hr' hp' 0 (Or.inl rfl)) (ad r' p' hr' hp' 1 (Or.inr rfl))
  · have := (hM.r hr').i hp'
    unfold mVi cL at this ⊢
    simp only [m.I 71 (by decide), m.S 17 (by decide), m.I 72 (by decide), m.J 73 (by decide), m.I 74 (by decide), m.I 79 (by decide), m.I 80 (by decide), m.I 82 (by decide), m.I 83 (by decide), m.I 84 (by decide), m.I 85 (by decide), m.I 87 (by decide), m.I 88 (by decide), m.I 90 (by decide), m.I 91 (by decide), m.I 94 (by decide), m.I 95 (by decide), m.I 96 (by decide), m.I 99 (by decide), m.I 100 (by decide)]
    obtain ⟨c1, c2, c3, c4, c5, ⟨c6, c6'⟩, c7, c8, c9⟩ := this
    have bx : ∀ f', f' = 0 ∨ f' = 1 → bit (t.I 75 (2 * (4 * r' + p') + f')) → (t.I 75 (2 * (4 * r' + p') + f') = 1 → rng (t.I 78 (2 * (4 * r' + p') + f')) 0 (if f' = 0 then 32 else 128)) → bit (t'.I 75 (2 * (4 * r' + p') + f')) ∧ (t'.I 75 (2 * (4 * r' + p') + f') = 1 → rng (t'.I 78 (2 * (4 * r' + p') + f')) 0 (if f' = 0 then 32 else 128)) := fun f' hf' z1 z2 => by
      by_cases e : 2 * (4 * r' + p') + f' = 2 * (4 * r + p) + f
      · have ef : f' = f := by omega
        rw [e, v5, v8, ef]
        exact ⟨Or.inr rfl, fun _ => hn⟩
      · obtain ⟨q1, -, -, q4⟩ := o _ e
        rw [q1, q4]
        exact ⟨z1, z2⟩
    obtain ⟨x1, x2⟩ := bx 0 (Or.inl rfl) c6 c7
    obtain ⟨x3, x4⟩ := bx 1 (Or.inr rfl) c6' c8
    exact ⟨c1, c2, c3, c4, c5, ⟨x1, x3⟩, x2, x4, c9⟩
  · have := hM.2.2.2.2.2.2.2.2.1 r' p' h6 hp' h4
    have ne : ∀ f', f' = 0 ∨ f' = 1 → 2 * (4 * r' + p') + f' ≠ 2 * (4 * r + p) + f := fun f' hf' z => by
      have e : r' = r := by omega
      subst e
      omega
    unfold mZi at this ⊢
    rw [show 2 * (4 * r' + p') = 2 * (4 * r' + p') + 0 from rfl, (o _ (ne 0 (Or.inl rfl))).1, (o _ (ne 1 (Or.inr rfl))).1, m.I 74 (by decide), m.I 79 (by decide), m.I 82 (by decide), m.I 89 (by decide), m.I 90 (by decide), m.I 95 (by decide), m.I 99 (by decide), m.I 100 (by decide)]
    exact this
end Ad
