/-! What a sum changes, the relation keeps. -/
abbrev Rwk : List Nat := [4, 5, 113, 119, 127]
abbrev Pwk : List (Nat × Nat) := [(28, 4), (28, 5)]
section Wk
variable {G H : Nat → Nat → Nat} {sa : Nat → Nat} {x kc ks c W S V : Nat} {s s' s1 : cS} {t t' : moS}
theorem ch_wk {q : Nat} (h : RCh G H s t q) (hT : TY cNo H s) (hq : (s.K (G 2 q)).1 = 8) (h4' : (t.I 82 q).toNatClampNeg ≤ 4) (f : fr Rwk Pwk [] s s') (hI : ∀ g a, g ≠ 29 → okO s 1 a → s'.I g a = s.I g a) (h28 : ∀ a d, okO s' 1 a → s'.P 28 a = some d → s'.K d = (127, 792)) : RCh G H s' t q := by
  obtain ⟨a, b, c, d, e, g⟩ := h
  have hc := (hT.p hq 86 4).2
  have oc : okO s 1 (H 86 (G 2 q)) := by unfold okO; rw [hc]; decide
  have oc' : okO s' 1 (H 86 (G 2 q)) := by unfold okO; rw [f.r hc]; decide
  unfold RCh
  rw [hI 20 _ (by decide) oc, hI 22 _ (by decide) oc, f.q (a := H 27 (H 86 (G 2 q))) (u := 142) (by rw [(hT.r hc 27 142 4).2]) (by decide), (f.v (a := H 23 (H 86 (G 2 q))) (u := 109) (by rw [(hT.r hc 23 109 4).2]) (by decide)).2.2, (f.v (a := H 24 (H 86 (G 2 q))) (u := 110) (by rw [(hT.r hc 24 110 4).2]) (by decide)).2.2, (f.v (a := H 25 (H 86 (G 2 q))) (u := 111) (by rw [(hT.r hc 25 111 4).2]) (by decide)).2.2, (f.v (a := H 26 (H 86 (G 2 q))) (u := 112) (by rw [(hT.r hc 26 112 4).2]) (by decide)).2.2, (f.v (a := H 21 (H 86 (G 2 q))) (u := 103) (by rw [(hT.r hc 21 103 16).2]) (by decide)).2.2]
  refine ⟨a, b, fun k hk => ?_, fun k hk => ⟨(d k hk).1, f.k (d k hk).2⟩, e, ?_⟩
  · rw [(f.v (a := G 8 (4 * q + k)) (u := 126) (by rw [(d k (by omega)).2]) (by decide)).2.2]
    exact c k hk
  · rcases hp : s'.P 28 (H 86 (G 2 q)) with _ | w
    · exact Or.inl rfl
    · exact Or.inr ⟨w, rfl, h28 _ w oc' hp⟩
theorem po_wk {r p : Nat} (h : RPo G H s t r p) (hT : TY cNo H s) (hr : (s.K (G 1 r)).1 = 26) (h4' : (t.I 82 (4 * r + p)).toNatClampNeg ≤ 4) (f : fr Rwk Pwk [] s s') (hI : ∀ g a, g ≠ 29 → okO s 1 a → s'.I g a = s.I g a) (h28 : ∀ a d, okO s' 1 a → s'.P 28 a = some d → s'.K d = (127, 792)) : RPo G H s' t r p := by
  obtain ⟨⟨a1, a2, a3⟩, b1, b2, c, d, e, g, k⟩ := h
  obtain ⟨v1, v2, v3⟩ := f.v a1 (by decide)
  have m : mfr [] t t := mfr.rf
  have b1' := b1.fr a1 f m rfl (by decide) rfl
  have b2' := b2.fr a1 f m rfl (by decide) rfl
  have g' := ch_wk g hT a1 h4' f hI h28
  have k' := k.fr a1 f m rfl rfl rfl
  unfold RPo
  rw [f.q (a := H 184 (G 1 r)) (u := 139) (by rw [(hT.r hr 184 139 4).2]) (by decide), f.q (a := H 87 (G 2 (4 * r + p))) (u := 136) (by rw [(hT.r a1 87 136 4).2]) (by decide), f.q (a := H 91 (G 2 (4 * r + p))) (u := 137) (by rw [(hT.r a1 91 137 4).2]) (by decide)]
  simp only [v1]
  refine ⟨⟨f.r a1, a2, a3⟩, b1', b2', c, fun j hj => ?_, fun j hj => ?_, g', k'⟩
  · obtain ⟨q, q1, q2, q3⟩ := d j hj
    exact ⟨q, q1, f.r q2, q3.fr f q2 (by decide)⟩
  · obtain ⟨q, n, q1, q2, q3⟩ := e j hj
    exact ⟨q, n, q1, f.r q2, q3.fr f q2 (by decide)⟩
/-- only what a chain works with is another -/
theorem rr_wk (h : RR G H sa x s t) (hM : MV t) (hg : RGl G H sa x s') (f : fr Rwk Pwk [] s s') (hI : ∀ g a, g ≠ 29 → okO s 1 a → s'.I g a = s.I g a) : RR G H sa x s' t := by
  obtain ⟨⟨a, b, c, e, g, i, j⟩, htx⟩ := h.q
  have hT := a.2.1
  have hx := a.1
  have ht := hg.2.2.1
  have m : mfr [] t t := mfr.rf
  obtain ⟨v1, v2, v3⟩ := f.v hx (by decide)
  refine RQ.r ⟨hg, b, ?_, ?_, ?_, ?_, j.fr hT hx f m ⟨v1 233, v1 235⟩ rfl rfl rfl rfl⟩ (htx.fr hT hx f m rfl rfl rfl)
  · rw [v1, v1, v1, v1, v1]; exact c
  · exact fun k hk => (e k hk).fr hT hx f ht m rfl rfl rfl rfl
  · exact fun k hk => (g k hk).fr hT hx f ht m rfl rfl rfl rfl
  · intro r hr
    obtain ⟨i1, i2, i3, i4, i5, i6, i7⟩ := i r hr
    have hv := hM.r hr
    have e199 := (f.v i1.1.1 (by decide)).1 199
    refine ⟨i1.fr hT hx f ht m rfl rfl rfl rfl, i2.fr hT i1.1.1 f e199 m rfl rfl rfl rfl, i3.fr hT i1.1.1 f m rfl rfl rfl rfl, i4.fr hT i1.1.1 f m rfl rfl rfl, i5.fr hT i1.1.1 f m rfl rfl rfl, i6.fr hT i1.1.1 ⟨hv.2.2.2.2.2.2.1.1.n.2.2, hv.2.2.2.2.2.2.2.1.1.n.2.2⟩ f m rfl rfl rfl, fun p hp => ?_⟩
    exact po_wk (i7 p hp) hT i1.1.1 (hv.2.2.2.2.2.2.2.2.2.2.1 p hp).2.2.2.2.2.2.2.2.2.2.1.n.2.2 f hI hg.2.2.2.2.2.2.2.2.2.1
theorem dw_fr (h : DW c W S V s s') : fr Rwk [] [] s s' := by
  obtain ⟨⟨o, -, -, -, kW, kS, kV⟩, ⟨k1, k2, k3, k4⟩, i, e⟩ := h
  intro b hb
  refine ⟨by rw [k1], fun hn => ⟨fun g => i g b (fun z => hn ?_), fun g => by rw [k4], e b (fun z => hn ?_) (fun z => hn ?_) (fun z => hn ?_)⟩, fun g _ => by rw [k2], fun _ => by rw [k3]⟩
  · rw [z.2]
    rcases ok1 o with h | h <;> rw [h] <;> decide
  · rw [z, kW]; decide
  · rw [z, kS]; decide
  · rw [z, kV]; decide
theorem rr_dw (h : RR G H sa x s t) (hM : MV t) (hd : DW c W S V s s') : RR G H sa x s' t := by
  have f := dw_fr hd
  have hg : RGl G H sa x s' := h.q.1.1.v hd.2.1.1 hd.2.1.2.1 f rfl rfl rfl
  exact rr_wk h hM hg f.wk fun g a hg ha => hd.2.2.1 g a (fun z => hg z.1)
end Wk
