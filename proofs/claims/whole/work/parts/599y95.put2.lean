/-! put, both sides. -/
abbrev Rpu : List Nat := [1, 2, 3, 6, 7, 12, 13, 30, 104, 125, 129]
/-- how it goes on behind put -/
def PuK (G H : Nat → Nat → Nat) (sa : Nat → Nat) (x : Nat) (s : cS) (t t' : moS) (kc ks : Nat) (Q : cS → Nat → Nat → Prop) : Prop := ∀ G' H' s' kc' ks', RR G' H' sa x s' t' → (∀ b, b ≠ 11 → b ≠ 12 → G' b = G b) → hA H H' s → fr Rpu Pgo Qfl s s' → kc + plT s' G H (cL t) + 5 * dN G' t' ≤ kc' + plT s G H (cL t) + 5 * dN G t → ks + 2 * plT s' G H (cL t) + 622 * dN G' t' ≤ ks' + 2 * plT s G H (cL t) + 622 * dN G t → Q s' kc' ks'
section Pv
variable {G H : Nat → Nat → Nat} {sa : Nat → Nat} {x kc ks l f n D b d : Nat} {s s' : cS} {t t' tA : moS} {L : List Int32} {po ho : Int32}
theorem DF.tk {g : Nat → Int32} {i : Nat} : DF H D d s (tkS s (H 41 D) f g i) := ⟨⟨rfl, rfl⟩, fun _ _ _ => rfl, fun _ _ _ h3 _ => tk_o h3, fun _ _ => rfl⟩
theorem c_put84 {Q : Int32 → cS → Nat → Nat → Prop} (hR : RR G H sa x s t) (hM : MV t) (hl : l < cL t) (hf : f = 0 ∨ f = 1) (hn : n ≤ 4096) (h3 : t.S 3 = nI n) (hu : skN f ≤ n) (hm : n - skN f ≤ 564) (mA : mfr [147, 148] t tA) (hMA : MV tA) (hO : OU tA ((tl (t.I 2) n).drop (skN f))) (hs : ¬ t.I 23 l + 1 < 0) (hkc : plT s G H (cL t) + 5 * dN G t ≤ kc) (hks : 2 * plT s G H (cL t) + 622 * dN G t ≤ ks) (hgo : M_go tA (nI l) (-1) 1 0 0 (nI f) (hiF (t.I 2) 0 f) (loF (t.I 2) 0 f) po ho 0 = some t') (hM' : MV t') (k : PuK G H sa x s t (clT t') kc ks (Q 1)) : C_Rf_put_b84 sa x (fam (nI f)) po ho (some (G 0 l)) (nI (skN f)) 1 s kc ks Q := by
  have hq := hR.q.1
  have hT := hq.ty
  have hx := hq.1.1
  have ox := okr hx 11
  have k6 := hq.2.2.2.2.2.2.2.2.2.1.2
  have p236 := hq.2.2.2.2.2.2.2.2.2.1.1
  generalize hD : G 11 999 = D at k6 p236
  have o2 := okr k6 2
  have p40 := hT.p k6 40 3
  have p41 := hT.p k6 41 12
  have p42 := hT.p k6 42 13
  generalize hb : H 40 D = b at p40
  have h220 := hT.p hx 220 1
  have otp := okr h220.2 0
  obtain ⟨cap, hcap, hbt⟩ := hR.q.2.1
  rw [h3, nI_clamp (by omega)] at hbt
  obtain ⟨l', hb0⟩ := hq.1.2.2.2.1 D k6
  rw [hb] at hb0
  obtain ⟨d, h0⟩ := hb0.fw
  have hpd : s.P 0 b = some d := h0.2.2.2.1.2.1
  have kd : s.K d = (129, 600) := h0.2.2.2.1.2.2
  have tb : H 220 x ≠ b := fun z => by have := h220.2; rw [z, p40.2] at this; exact absurd this (by decide)
  have tD : H 220 x ≠ D := fun z => by have := h220.2; rw [z, k6] at this; exact absurd this (by decide)
  have t41 : H 220 x ≠ H 41 D := fun z => by have := h220.2; rw [z, p41.2] at this; exact absurd this (by decide)
  have b41 : b ≠ H 41 D := fun z => by have := p40.2; rw [z, p41.2] at this; exact absurd this (by decide)
  have bD : b ≠ D := fun z => by have := p40.2; rw [z, k6] at this; exact absurd this (by decide)
  have n41 : H 41 D ≠ D := fun z => by have := p41.2; rw [z, k6] at this; exact absurd this (by decide)
  have htl : (tl (t.I 2) n).length = n := tl_len _ _
  -- the tape stays
  have tape : ∀ {s1 : cS} {L1 : List Int32}, FW b d s L1 s1 → BL s1 (H 220 x) 101 (tl (t.I 2) n) cap ∧ ∀ e, s1.P 0 (H 220 x) = some e → e ≠ d := fun {s1 L1} h1 => by
    obtain ⟨a1, a2, e, a3, a4, a5, a6⟩ := hbt
    have ed : e ≠ d := fun z => by rw [z, kd] at a4; exact absurd a4 (by intro q; cases q)
    refine ⟨⟨h1.ok a1, a2, e, by rw [h1.1.2.1]; exact a3, by rw [h1.1.1]; exact a4, by rw [h1.2.1 1 _ (fun z => tb z.2)]; exact a5, by rw [h1.2.2.1 e ed]; exact a6⟩, fun e' he => ?_⟩
    rw [h1.1.2.1, a3] at he
    cases he
    exact ed
  unfold C_Rf_put_b84
  refine ifF (by decide) ⟨_, gd_to ox, D, p236, _, gd_to o2, b, p40.1, h0.o, fw_clear h0 fun s1 h1 => ?_⟩
  have P1 : s1.P = s.P := h1.1.2.1
  obtain ⟨bt1, nt1⟩ := tape h1
  refine ⟨_, gd_to (h1.ok ox), D, by show s1.P 236 x = _; rw [P1]; exact p236, _, gd_to (h1.ok o2), _, gd_to (h1.ok ox), _, gd_to (h1.ok ox), H 220 x, by show s1.P 220 x = _; rw [P1]; exact h220.1, _, gd_to (h1.ok otp), b, by show s1.P 40 D = _; rw [P1]; exact p40.1, h1.o, ?_⟩
  rw [show s1.P (20 * 11 + 0) x = some (H 220 x) by show s1.P 220 x = _; rw [P1]; exact h220.1, show s1.I (20 * 0 + 1) (H 220 x) = nI n by
    obtain ⟨-, -, e, -, -, z, -⟩ := bt1
    rw [htl] at z; exact z]
  refine fw_part (i := skN f) (j := n) h1 bt1 tb nt1 hu (by rw [htl]; exact Nat.le_refl _) (by show 0 + (n - skN f) ≤ 600; omega) fun s2 h2 => ?_
  have eL : [] ++ ((tl (t.I 2) n).drop (skN f)).take (n - skN f) = (tl (t.I 2) n).drop (skN f) := by
    rw [List.nil_append, List.take_of_length_le (by rw [List.length_drop, htl]; exact Nat.le_refl _)]
  rw [eL] at h2
  have P2 : s2.P = s.P := h2.1.2.1
  obtain ⟨bt2, -⟩ := tape h2
  refine ⟨_, gd_to (h2.ok ox), D, by show s2.P 236 x = _; rw [P2]; exact p236, _, gd_to (h2.ok o2), _, gd_to (h2.ok ox), H 41 D, by show s2.P 41 D = _; rw [P2]; exact p41.1, h2.ok (okr p41.2 5), ?_⟩
  rw [show s2.P (20 * 11 + 0) x = some (H 220 x) by show s2.P 220 x = _; rw [P2]; exact h220.1]
  refine c_take (i := 0) (h2.ok (okr p41.2 5)) bt2 t41 hf (by decide) ?_
  generalize hs3 : tkS s2 (H 41 D) f (fun j => (tl (t.I 2) n).getD j 0) 0 = s3
  have P3 : s3.P = s.P := by rw [← hs3]; exact P2
  have K3 : s3.K = s.K := by rw [← hs3]; exact h2.1.1
  have ok3 : ∀ {u a : Nat}, okO s u a → okO s3 u a := fun h => by unfold okO at h ⊢; rw [K3]; exact h
  have q236 : s3.P (20 * 11 + 16) x = some D := by show s3.P 236 x = _; rw [P3]; exact p236
  refine ⟨_, gd_to (ok3 ox), D, q236, _, gd_to (ok3 o2), _, gd_to (ok3 ox), D, q236, _, gd_to (ok3 o2), _, gd_to (ok3 ox), D, q236, _, gd_to (ok3 o2), _, gd_to (ok3 ox), D, q236, _, gd_to ⟨ok3 o2, Or.inr rfl⟩, _, gd_to (ok3 ox), D, q236, _, gd_to (ok3 o2), ok3 ox, ?_⟩
  show C_Rf_launch sa x (some (G 0 l)) (cSP (cSI (cSI (cSI (cSI s3 44 D (fam (nI f))) 45 D po) 46 D ho) 43 D 1) 47 D none) kc ks _
  generalize hs7 : cSP (cSI (cSI (cSI (cSI s3 44 D (fam (nI f))) 45 D po) 46 D ho) 43 D 1) 47 D none = s7
  have df7 : DF H D d s s7 := by
    rw [← hs7, ← hs3]
    exact (FW.df (by rw [hb]; exact h2)).tr (DF.tk.tr (DF.siD.tr (DF.siD.tr (DF.siD.tr (DF.siD.tr DF.sp)))))
  have i7 : ∀ g a, a ≠ D → s7.I g a = s3.I g a := fun g a z => by
    rw [← hs7]
    show (cSI (cSI (cSI (cSI s3 44 D (fam (nI f))) 45 D po) 46 D ho) 43 D 1).I g a = _
    rw [cSI_o z, cSI_o z, cSI_o z, cSI_o z]
  have b2 := h2.bl
  have hb7 : BL s7 b 129 ((tl (t.I 2) n).drop (skN f)) 600 := by
    obtain ⟨a1, a2, e, a3, a4, a5, a6⟩ := b2
    have tk := tk_o (s := s2) (a := H 41 D) (f := f) (i := 0) (e := b) (g := fun j => (tl (t.I 2) n).getD j 0) b41
    refine ⟨by unfold okO at a1 ⊢; rw [df7.1.1, ← h2.1.1]; exact a1, a2, e, ?_, by rw [df7.1.1, ← h2.1.1]; exact a4, ?_, ?_⟩
    · rw [df7.2.1 0 b (fun z => absurd z.1 (by decide)), ← P2]; exact a3
    · rw [i7 1 b bD, ← hs3, tk.1 1]; exact a5
    · rw [show s7.E = s2.E by rw [← hs7, ← hs3]; rfl]; exact a6
  have hRA : RR G H sa x s tA := hR.mf hM mA rfl rfl
  have hR7 : RR G H sa x s7 tA := rr_dr hRA hMA hD (by rw [hb]; exact hpd) (by rw [kd]) df7 ⟨_, by rw [hb]; exact hb7⟩
  have f7 := df7.fr hT k6 (by rw [kd])
  have hfa : bit (nI f) := by
    rcases hf with rfl | rfl
    · exact Or.inl rfl
    · exact Or.inr rfl
  have ebits : (if f = 0 then (32 : Int32) else 128) = if nI f = 0 then 32 else 128 := by
    rcases hf with rfl | rfl <;> rfl
  have eg : ∀ i, i < n → (fun j => (tl (t.I 2) n).getD j 0) i = t.I 2 i := fun i hi => tl_get hi
  have eh : hiF (fun j => (tl (t.I 2) n).getD j 0) 0 f = hiF (t.I 2) 0 f := by
    unfold hiF
    rcases hf with rfl | rfl
    · rw [if_pos rfl, if_pos rfl, nbF_e 4 0 0 fun i _ h2 => eg i (by have : skN 0 = 4 := rfl; omega)]
    · rw [if_neg (by decide), if_neg (by decide), nbF_e 8 0 0 fun i _ h2 => eg i (by have : skN 1 = 16 := rfl; omega)]
  have el : loF (fun j => (tl (t.I 2) n).getD j 0) 0 f = loF (t.I 2) 0 f := by
    unfold loF
    rcases hf with rfl | rfl
    · rw [if_pos rfl, if_pos rfl]
    · rw [if_neg (by decide), if_neg (by decide), nbF_e 8 _ 0 fun i _ h2 => eg i (by have : skN 1 = 16 := rfl; omega)]
  have hDR : DRf H s7 (G 11 999) ((tl (t.I 2) n).drop (skN f)) 1 0 0 (nI f) (hiF (t.I 2) 0 f) (loF (t.I 2) 0 f) po ho none := by
    rw [hD]
    have tk := tk_s (s := s2) (a := H 41 D) (f := f) (i := 0) (g := fun j => (tl (t.I 2) n).getD j 0)
    rw [hs3, eh, el, ebits] at tk
    refine ⟨by rw [hb]; exact hb7, ?_, ⟨?_, ?_, ?_, ?_⟩, fun z => absurd z (by decide), ?_⟩
    · unfold PF at tk ⊢
      rw [i7 100 _ n41, i7 103 _ n41, show s7.J = s3.J by rw [← hs7]; rfl]
      exact tk
    · rw [← hs7]
      show (cSI (cSI (cSI (cSI s3 44 D (fam (nI f))) 45 D po) 46 D ho) 43 D 1).I 43 D = _
      rw [cSI_s]
    · rw [← hs7]
      show (cSI (cSI (cSI (cSI s3 44 D (fam (nI f))) 45 D po) 46 D ho) 43 D 1).I 44 D = _
      rw [cSI_g (by decide), cSI_g (by decide), cSI_g (by decide), cSI_s]
    · rw [← hs7]
      show (cSI (cSI (cSI (cSI s3 44 D (fam (nI f))) 45 D po) 46 D ho) 43 D 1).I 45 D = _
      rw [cSI_g (by decide), cSI_g (by decide), cSI_s]
    · rw [← hs7]
      show (cSI (cSI (cSI (cSI s3 44 D (fam (nI f))) 45 D po) 46 D ho) 43 D 1).I 46 D = _
      rw [cSI_g (by decide), cSI_s]
    · rw [← hs7, cSP_s]
  have eL' : cL tA = cL t := by unfold cL; rw [mA.S 17 (by decide)]
  have ed : dN G tA = dN G t := by unfold dN cF; rw [mA.S 123 (by decide)]
  have e7 : ∀ i, i < cL t → plC s7 G H i = plC s G H i := fun i hi => plC_fr hq hi f7 rfl
  have ge := sm_ge (f := plC s G H) hl
  have ge' : plC s G H l ≤ plT s G H (cL t) := ge
  obtain ⟨t'', g1, g2, -, -, g5⟩ := c_launch (kc := kc) (ks := ks) (fm := -1) (tld := 0) (t6 := tA) hR7 hMA (by rw [eL']; exact hl) hO (Or.inl ⟨rfl, rfl, rfl, rfl⟩) hDR (Or.inr rfl) hfa (by rw [mA.I 23 (by decide)]; exact hs) (by rw [e7 l hl, ed]; omega) (by rw [e7 l hl, ed]; omega)
  have et : t'' = t' := Option.some.inj (g1.symm.trans hgo)
  subst et
  refine g5 _ fun G' H' s' kc' ks' a1 a2 a3 a4 a5 a6 a7 _ => ?_
  rw [e7 l hl, ed] at a6 a7
  have hA7 : hA H H' s := fun g a ha => a3 g a (by rw [df7.1.1]; exact ha)
  have f8 : fr Rpu Pgo Qfl s s' := f7.wk.tr a4.wk
  have hx0 : (s.K x).1 ≠ 0 := by rw [hx]; decide
  have e220 : H' 220 x = H 220 x := hA7 220 x hx0
  have hq' := a1.q.1
  have h220' := hq'.ty.p hq'.1.1 220 1
  obtain ⟨c1, c2, c3⟩ := tp_clr a1 g2
  unfold C_Rf_put_b187
  refine ⟨_, gd_to (okr hq'.1.1 11), _, h220'.1, okr h220'.2 0, c_clear (okr h220'.2 0) ⟨Or.inr rfl, ?_⟩⟩
  have pl9 : ∀ i, i < cL t → plC (cSI s' 1 (H' 220 x) 0) G H i = plC s' G H i := fun i _ => rfl
  have s1 := sm_1 (f := plC s' G H) (g := plC s G H) hl (fun i hi ne => (a5 i (by rw [eL']; exact hi) ne).trans (e7 i hi))
  have s1' : plT s' G H (cL t) + plC s G H l = plT s G H (cL t) + plC s' G H l := s1
  have s2' : plT (cSI s' 1 (H' 220 x) 0) G H (cL t) = plT s' G H (cL t) := rfl
  have ed' : dN G' (clT t'') = dN G' t'' := rfl
  refine k G' H' _ kc' ks' c2 a2 hA7 (f8.tr c3.wk) ?_ ?_
  · rw [s2', ed']; omega
  · rw [s2', ed']; omega
end Pv
