/-! A datagram is taken out of those on their way; one is given back. -/
def oG (G : Nat → Nat → Nat) (j : Nat) : Nat → Nat → Nat := fun b i => if b = 11 ∧ i < 998 then G 11 (skI j i) else G b i
def bG (G : Nat → Nat → Nat) (a : Nat) : Nat → Nat → Nat := fun b i => if b = 12 ∧ i = G 12 999 then a else if b = 12 ∧ i = 999 then G 12 999 + 1 else G b i
section Of
variable {G H : Nat → Nat → Nat} {sa : Nat → Nat} {x j a : Nat} {s s' : cS} {t t' : moS}
theorem oG_o {b : Nat} (h : b ≠ 11) : oG G j b = G b := funext fun i => by unfold oG; rw [if_neg (fun z => h z.1)]
theorem oG_11 {i : Nat} (h : i < 998) : oG G j 11 i = G 11 (skI j i) := if_pos ⟨rfl, h⟩
theorem oG_d : oG G j 11 999 = G 11 999 := if_neg (by omega)
theorem RDg.ge {G' : Nat → Nat → Nat} {d p : Nat} (h : RDg G H s t d p) (e0 : G' 0 = G 0) (e1 : G' 1 = G 1) : RDg G' H s t d p := by
  unfold RDg at h ⊢
  rw [e0, e1]
  exact h
theorem rr_out (hR : RR G H sa x s t) (hM : MV t) (hj : j < cF t) (o : ofT j t t') (hK : s'.K = s.K) (hP : s'.P = s.P) (hE : s'.E = s.E) (hJ : s'.J = s.J) (hI : ∀ g b, ¬ (g = 233 ∧ b = x) → s'.I g b = s.I g b) (hQ : ∀ b, b ≠ H 232 x → s'.Q b = s.Q b) (i233 : s'.I 233 x = nI (cF t - 1)) (hq : ∀ i, i < cF t - 1 → s'.Q (H 232 x) i = some (G 11 (skI j i))) : RR (oG G j) H sa x s' t' ∧ MV t' := by
  have hM' := mv_off hM hj o
  have hF2 : cF t ≤ 256 := hM.2.2.2.2.1.1.n.2.2
  obtain ⟨m, e1, e2, e3⟩ := o
  have eF : cF t' = cF t - 1 := by unfold cF; rw [e1, nI_clamp (by omega)]
  have hx := hR.q.1.1.1
  have hT := hR.q.1.ty
  have p232 := hT.r hx 232 133 256
  have p234 := hT.r hx 234 134 258
  have n4 : H 234 x ≠ H 232 x := fun z => by
    have := p234.2
    rw [z, p232.2] at this
    exact absurd (congrArg Prod.fst this) (show ¬ (133 : Nat) = 134 by decide)
  have f : fr [30] [] [133] s s' := fun b hb => ⟨by rw [hK], fun hn => ⟨fun g => hI g b (fun z => hn (by rw [z.2, hx]; decide)), fun g => by rw [hJ], by rw [hE]⟩, fun g _ => by rw [hP], fun hn => hQ b (fun z => hn (by rw [z, p232.2]; decide))⟩
  have sk : ∀ i, i < cF t - 1 → skI j i < cF t := fun i hi => by unfold skI; split <;> omega
  have inj : ∀ i i', skI j i = skI j i' → i = i' := fun i i' h => by unfold skI at h; split at h <;> split at h <;> omega
  obtain ⟨⟨a1, a2, a3⟩, b1, b2, b3, b4, b5, b6, b7, b8⟩ := hR.q.1.2.2.2.2.2.2
  have o12 : oG G j 12 = G 12 := oG_o (by decide)
  have hg : RGl (oG G j) H sa x s' := by
    have := hR.q.1.1.v hK hP f rfl rfl rfl
    unfold RGl at this ⊢
    rw [oG_o (show 15 ≠ 11 by decide), oG_o (show 16 ≠ 11 by decide)]
    exact this
  refine ⟨rr_fl hR hM (fun b h1 _ => oG_o h1) hg (f.wk (by decide) (by decide) (by decide)) (m.wk (by decide)) (fun g h1 h2 => hI g x (fun z => h1 z.1)) ⟨⟨?_, ?_, ?_⟩, fun i hi => ?_, fun i hi => ?_, ⟨?_, ?_⟩, fun i i' hi hi' e => ?_, ?_, fun i i' hi hi' => ?_, fun i hi => ?_, ?_⟩, hM'⟩
  · rw [i233, e1]
  · rw [hI 235 x (by omega), o12]; exact a2
  · rw [eF, o12]; omega
  · rw [eF] at hi
    obtain ⟨g1, g2, g3⟩ := b1 _ (sk i hi)
    rw [oG_11 (by omega), hq i hi, hK, e2 i hi]
    refine ⟨rfl, g2, ?_⟩
    exact (g3.fr hT g2 f m rfl rfl rfl).ge (oG_o (by decide)) (oG_o (by decide))
  · rw [o12] at hi ⊢
    rw [hQ _ n4, hK]
    exact b2 i hi
  · rw [hP, oG_d]; exact b3.1
  · rw [hK, oG_d]; exact b3.2
  · rw [eF] at hi hi'
    rw [oG_11 (by omega), oG_11 (by omega)] at e
    exact inj _ _ (b4 _ _ (sk i hi) (sk i' hi') e)
  · rw [o12]; exact b5
  · rw [eF] at hi
    rw [o12] at hi' ⊢
    rw [oG_11 (by omega)]
    exact b6 _ _ (sk i hi) hi'
  · rw [eF] at hi
    rw [oG_11 (by omega), oG_d]
    exact b7 _ (sk i hi)
  · rw [o12, oG_d]; exact b8
theorem bG_o {b : Nat} (h : b ≠ 12) : bG G a b = G b := funext fun i => by unfold bG; rw [if_neg (fun z => h z.1), if_neg (fun z => h z.1)]
theorem rr_back (hR : RR G H sa x s t) (hM : MV t) (ha : (s.K a).1 = 6) (hf : ∀ i, i < cF t → G 11 i ≠ a) (hs : ∀ i, i < G 12 999 → G 12 i ≠ a) (hd : G 11 999 ≠ a) (hc : cF t + G 12 999 + 2 ≤ 258) : RR (bG G a) H sa x (cSI (cSQ s (H 234 x) (G 12 999) (some a)) 235 x (nI (G 12 999 + 1))) t ∧ fr [30] [] [134] s (cSI (cSQ s (H 234 x) (G 12 999) (some a)) 235 x (nI (G 12 999 + 1))) := by
  have hx := hR.q.1.1.1
  have hT := hR.q.1.ty
  have p232 := hT.r hx 232 133 256
  have p234 := hT.r hx 234 134 258
  have n4 : H 232 x ≠ H 234 x := fun z => by
    have := p234.2
    rw [← z, p232.2] at this
    exact absurd (congrArg Prod.fst this) (show ¬ (133 : Nat) = 134 by decide)
  generalize hn : G 12 999 = n at hs hc
  generalize hs' : cSI (cSQ s (H 234 x) n (some a)) 235 x (nI (n + 1)) = s'
  have f : fr [30] [] [134] s s' := by
    rw [← hs']
    exact (fr.sq (by rw [p234.2]; decide)).tr (fr.si (by show (s.K x).1 ∈ _; rw [hx]; decide))
  have hK : s'.K = s.K := by rw [← hs']; rfl
  have hP : s'.P = s.P := by rw [← hs']; rfl
  have oI : ∀ g, g ≠ 235 → s'.I g x = s.I g x := fun g h => by rw [← hs', cSI_g h]; rfl
  have oQ : ∀ k, s'.Q (H 234 x) k = if k = n then some a else s.Q (H 234 x) k := fun k => by
    rw [← hs']
    show (cSQ s (H 234 x) n (some a)).Q (H 234 x) k = _
    rw [cSQ_s]; rfl
  have oQa : ∀ b, b ≠ H 234 x → s'.Q b = s.Q b := fun b hb => by
    rw [← hs']
    exact cSQ_a hb
  have b9 : bG G a 12 999 = n + 1 := by unfold bG; rw [hn, if_neg (by omega), if_pos ⟨rfl, rfl⟩]
  have bi : ∀ i, i < n → bG G a 12 i = G 12 i := fun i hi => by unfold bG; rw [hn, if_neg (by omega), if_neg (by omega)]
  have bn : bG G a 12 n = a := by unfold bG; rw [hn, if_pos ⟨rfl, rfl⟩]
  have b11 : bG G a 11 = G 11 := bG_o (by decide)
  obtain ⟨⟨a1, a2, a3⟩, b1, b2, b3, b4, b5, b6, b7, b8⟩ := hR.q.1.2.2.2.2.2.2
  rw [hn] at a2 a3 b2 b5 b6 b8
  have hg : RGl (bG G a) H sa x s' := by
    have := hR.q.1.1.v hK hP f rfl rfl rfl
    unfold RGl at this ⊢
    rw [bG_o (show 15 ≠ 12 by decide), bG_o (show 16 ≠ 12 by decide)]
    exact this
  refine ⟨rr_fl hR hM (fun b _ h2 => bG_o h2) hg (f.wk (by decide) (by decide) (by decide)) (mfr.rf (W := Wfl)) (fun g h1 h2 => oI g h2) ⟨⟨?_, ?_, ?_⟩, fun i hi => ?_, fun i hi => ?_, ⟨?_, ?_⟩, ?_, fun i i' hi hi' e => ?_, fun i i' hi hi' => ?_, ?_, fun i hi => ?_⟩, f⟩
  · rw [oI 233 (by decide)]; exact a1
  · rw [b9, ← hs', cSI_s]
  · rw [b9]; omega
  · obtain ⟨g1, g2, g3⟩ := b1 i hi
    rw [b11, oQa _ n4, hK]
    exact ⟨g1, g2, (g3.fr hT g2 f (mfr.rf (W := [])) rfl rfl rfl).ge (bG_o (by decide)) (bG_o (by decide))⟩
  · rw [b9] at hi
    rw [oQ, hK]
    by_cases c : i = n
    · rw [if_pos c, c, bn]; exact ⟨rfl, ha⟩
    · rw [if_neg c, bi i (by omega)]; exact b2 i (by omega)
  · rw [hP, b11]; exact b3.1
  · rw [hK, b11]; exact b3.2
  · rw [b11]; exact b4
  · rw [b9] at hi hi'
    by_cases c : i = n
    · by_cases c' : i' = n
      · omega
      · rw [c, bn, bi i' (by omega)] at e
        exact absurd e.symm (hs i' (by omega))
    · by_cases c' : i' = n
      · rw [c', bn, bi i (by omega)] at e
        exact absurd e (hs i (by omega))
      · rw [bi i (by omega), bi i' (by omega)] at e
        exact b5 i i' (by omega) (by omega) e
  · rw [b9] at hi'
    rw [b11]
    by_cases c' : i' = n
    · rw [c', bn]; exact hf i hi
    · rw [bi i' (by omega)]; exact b6 i i' hi (by omega)
  · rw [b11]; exact b7
  · rw [b9] at hi
    rw [b11]
    by_cases c : i = n
    · rw [c, bn]; exact fun z => hd z.symm
    · rw [bi i (by omega)]; exact b8 i (by omega)
end Of
