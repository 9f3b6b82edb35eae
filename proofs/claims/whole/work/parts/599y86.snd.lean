/-! A draft is sent. -/
section Sd
variable {G H : Nat → Nat → Nat} {sa : Nat → Nat} {x kc ks r p l c D b d f : Nat} {s s' s4 : cS} {t t' : moS} {V : chV} {L : List Int32} {ta : Int32} {th tl : Int64} {Q : cS → Nat → Nat → Prop}
theorem spf_o {a e : Nat} {u w : Int32} {h o : Int64} (ne : e ≠ a) : (∀ g, (cSpf s a u h o w).I g e = s.I g e) ∧ ∀ g, (cSpf s a u h o w).J g e = s.J g e := by
  refine ⟨fun g => ?_, fun g => ?_⟩
  · show (cSI (cSJ (cSJ (cSI s 100 a u) 101 a h) 102 a o) 103 a w).I g e = _
    rw [cSI_o ne]
    show (cSI s 100 a u).I g e = _
    rw [cSI_o ne]
  · show (cSJ (cSJ (cSI s 100 a u) 101 a h) 102 a o).J g e = _
    rw [cSJ_o ne, cSJ_o ne]
    rfl
theorem spf_s {a : Nat} {u w : Int32} {h o : Int64} : PF (cSpf s a u h o w) a u h o w := ⟨(cSI_g (by decide)).trans (show (cSI s 100 a u).I 100 a = u from cSI_s), (show (cSJ (cSJ (cSI s 100 a u) 101 a h) 102 a o).J 101 a = _ from cSJ_g (by decide)).trans cSJ_s, (show (cSJ (cSJ (cSI s 100 a u) 101 a h) 102 a o).J 102 a = o from cSJ_s), cSI_s⟩
theorem DF.spf {a : Nat} {u w : Int32} {h o : Int64} (ha : a = H 41 D ∨ a = H 42 D) : DF H D d s (cSpf s a u h o w) := by
  refine ⟨⟨rfl, rfl⟩, fun _ _ _ => rfl, fun e h1 h2 h3 h4 => spf_o fun z => ?_, fun _ _ => rfl⟩
  rcases ha with y | y
  · exact h3 (z.trans y)
  · exact h4 (z.trans y)
theorem DF.si1 {g : Nat} {v : Int32} : DF H D d s (cSI s g (H 41 D) v) := ⟨⟨rfl, rfl⟩, fun _ _ _ => rfl, fun a _ _ h3 _ => ⟨fun g' => cSI_o h3, fun _ => rfl⟩, fun _ _ => rfl⟩
theorem DF.sp {v : Option Nat} : DF H D d s (cSP s 47 D v) := ⟨⟨rfl, rfl⟩, fun g a h => by rw [evP, if_neg h], fun _ _ _ _ _ => ⟨fun _ => rfl, fun _ => rfl⟩, fun _ _ => rfl⟩
theorem DF.bl {l : List Int32} (df : DF H D d s s') (hT : TY cNo H s) (k6 : (s.K D).1 = 6) (hd : s.P 0 (H 40 D) = some d) (h1 : s'.I 1 (H 40 D) = s.I 1 (H 40 D)) (hE : s'.E d = s.E d) (hb : BL s (H 40 D) 129 l 600) : BL s' (H 40 D) 129 l 600 := by
  obtain ⟨o, w, e, b1, b2, b3, b4⟩ := hb
  rw [hd] at b1
  cases b1
  refine ⟨by unfold okO at *; rw [df.1.1]; exact o, w, d, by rw [df.2.1 0 _ (fun z => absurd z.1 (by decide))]; exact hd, by rw [df.1.1]; exact b2, h1.trans b3, ?_⟩
  rw [hE]
  exact b4
/-- the draft's target -/
def TG (H : Nat → Nat → Nat) (s : cS) (D : Nat) (p2 : Option Nat) (ta : Int32) (th tl : Int64) (f : Nat) : Prop := (p2 = none ∧ ta = 1) ∨ ∃ tp, p2 = some tp ∧ ta = 0 ∧ okO s 5 tp ∧ tp ≠ H 41 D ∧ s.I 100 tp = fam (nI f) ∧ s.J 101 tp = th ∧ s.J 102 tp = tl
abbrev ptN (f : Nat) : Int32 := if f = 0 then 520 else 521
/-- what the model does then -/
noncomputable abbrev goM (t : moS) (r p l : Nat) (ta : Int32) (th tl : Int64) (f : Nat) : Option moS := M_go (moSI t 45 (11 * r + 5) (t.I 45 (11 * r + 5) + 1)) (nI l) (nI (4 * r + p)) ta th tl (nI f) (t.J 76 (2 * (4 * r + p) + f)) (t.J 77 (2 * (4 * r + p) + f)) (ptN f) 255 1
theorem c_sd72 {p1 : Option Nat} (hR : RR G H sa x s t) (hM : MV t) (hr : r < cR t) (hp : p < cI t r) (hX : PX G H x s t r p l c D b V) (hf : f = 0 ∨ f = 1) (hp1 : p1 = some (G 2 (4 * r + p))) (df : DF H D d s s4) (hd : s.P 0 b = some d) (kd : s.K d = (129, 600)) (hb : BL s4 b 129 L 600) (hO : OU t L) (h44 : s4.I 44 D = fam (nI f)) (h43 : s4.I 43 D = ta) (hta : bit ta) (hPF : PF s4 (H 41 D) (fam (nI f)) (t.J 76 (2 * (4 * r + p) + f)) (t.J 77 (2 * (4 * r + p) + f)) (if nI f = 0 then 32 else 128)) (hTa : ta = 0 → s4.I 100 (H 42 D) = fam (nI f) ∧ s4.J 101 (H 42 D) = th ∧ s4.J 102 (H 42 D) = tl) (hs : ¬ t.I 23 l + 1 < 0) (hkc : plC s G H l + 5 * dN G t ≤ kc) (hks : 2 * plC s G H l + 622 * dN G t ≤ ks) (hgo : goM t r p l ta th tl f = some t') (k : GoK G H sa x s t l t' kc ks Q) : C_Rr_sendDraft_b72 sa (G 1 r) p1 (some D) s4 kc ks Q := by
  subst hp1
  have hq := hR.q.1
  have hT := hq.ty
  obtain ⟨⟨x1, x2, x3, x4, x5, x6, x7, x8, x9⟩, ⟨y1, y2, y3, y4, y5, y6, y7, y8⟩, -⟩ := hX
  have ok4 : ∀ {u a : Nat}, okO s u a → okO s4 u a := fun h => by unfold okO at h ⊢; rw [df.1.1]; exact h
  have pK : ∀ {g a : Nat}, g ≠ 47 → s4.P g a = s.P g a := fun h => df.2.1 _ _ (fun z => h z.1)
  have r1 := (hT.p x7 41 12).2
  have r2 := (hT.p x7 42 13).2
  have ne1 : H 41 D ≠ D := fun z => by rw [z, x7] at r1; exact absurd r1 (by decide)
  have ne2 : H 42 D ≠ D := fun z => by rw [z, x7] at r2; exact absurd r2 (by decide)
  have bD : b ≠ D := fun z => by
    have := (hT.p x7 40 3).2
    rw [← x9, z, x7] at this
    exact absurd this (by decide)
  unfold C_Rr_sendDraft_b72
  refine ⟨D, rfl, _, gd_to (ok4 x5), ?_⟩
  rw [show s4.I (20 * 2 + 4) D = fam (nI f) from h44]
  have port : ∀ Q' : Int32 → cS → Nat → Nat → Prop, Q' (ptN f) s4 kc ks → C_Da_portOf sa (fam (nI f)) s4 kc ks Q' := fun Q' h => by
    unfold C_Da_portOf
    rcases hf with rfl | rfl
    · exact ifT rfl h
    · exact ifF (by decide) h
  refine port _ ⟨_, gd_to (ok4 x5), _, gd_to (ok4 x5), _, gd_to (ok4 x5), _, gd_to (ok4 x1), _, rfl, _, gd_to (ok4 y1), x, ?_, ?_⟩
  · show (cSP _ 47 D _).P 180 (G 1 r) = some x
    rw [cSP_g (by decide)]
    exact (pK (by decide)).trans x2
  refine ⟨ok4 x3, ?_⟩
  generalize hs7 : (cSP (cSI (cSI s4 45 D (ptN f)) 46 D 255) 47 D (some (G 1 r)) : cS) = s7
  have df7 : DF H D d s s7 := by rw [← hs7]; exact df.tr (DF.siD.tr (DF.siD.tr DF.sp))
  have e80 : s7.P (20 * 4 + 0) (G 2 (4 * r + p)) = some (G 0 l) := by
    rw [← hs7]
    show (cSP _ 47 D _).P 80 (G 2 (4 * r + p)) = some (G 0 l)
    rw [cSP_g (by decide)]
    exact (pK (by decide)).trans y3
  rw [e80]
  have i7 : ∀ g a, ¬ (a = D ∧ (g = 45 ∨ g = 46)) → s7.I g a = s4.I g a := fun g a z => by
    rw [← hs7]
    show (cSI (cSI s4 45 D (ptN f)) 46 D 255).I g a = _
    rw [evI, if_neg (fun y => z ⟨y.2, Or.inr y.1⟩), evI, if_neg (fun y => z ⟨y.2, Or.inl y.1⟩)]
  have hb7 : BL s7 b 129 L 600 := by
    obtain ⟨a1, a2, e, a3, a4, a5, a6⟩ := hb
    rw [← hs7]
    refine ⟨a1, a2, e, ?_, a4, ?_, a6⟩
    · rw [cSP_g (by decide)]; exact a3
    · show (cSI (cSI s4 45 D (ptN f)) 46 D 255).I 1 b = _
      rw [cSI_o bD, cSI_o bD]; exact a5
  have hR7 : RR G H sa x s7 t := rr_dr hR hM x8.symm (by rw [← x9]; exact hd) (by rw [kd]) df7 ⟨L, by rw [← x9]; exact hb7⟩
  have f7 := df7.fr hT x7 (by rw [kd])
  have hfa : bit (nI f) := by
    rcases hf with rfl | rfl
    · exact Or.inl rfl
    · exact Or.inr rfl
  have hDR : DRf H s7 (G 11 999) L ta th tl (nI f) (t.J 76 (2 * (4 * r + p) + f)) (t.J 77 (2 * (4 * r + p) + f)) (ptN f) 255 (some (G 1 r)) := by
    rw [← x8]
    refine ⟨by rw [← x9]; exact hb7, ?_, ⟨?_, ?_, ?_, ?_⟩, fun z => ?_, ?_⟩
    · unfold PF at hPF ⊢
      rw [i7 100 _ (fun z => ne1 z.1), i7 103 _ (fun z => ne1 z.1), show s7.J = s4.J by rw [← hs7]; rfl]
      exact hPF
    · rw [i7 43 D (fun z => z.2.elim (by decide) (by decide))]; exact h43
    · rw [i7 44 D (fun z => z.2.elim (by decide) (by decide))]; exact h44
    · rw [← hs7]
      show (cSI (cSI s4 45 D (ptN f)) 46 D 255).I 45 D = _
      rw [cSI_g (by decide), cSI_s]
    · rw [← hs7]
      show (cSI (cSI s4 45 D (ptN f)) 46 D 255).I 46 D = _
      rw [cSI_s]
    · rw [i7 100 _ (fun z => ne2 z.1), show s7.J = s4.J by rw [← hs7]; rfl]
      exact hTa z
    · rw [← hs7, cSP_s]
  have e7 : ∀ i, i < cL t → plC s7 G H i = plC s G H i := fun i hi => plC_fr hq hi f7 rfl
  obtain ⟨t'', g1, -, -, -, g5⟩ := c_launch (kc := kc) (ks := ks) (fm := nI (4 * r + p)) (tld := 1) (t6 := moSI t 45 (11 * r + 5) (t.I 45 (11 * r + 5) + 1)) hR7 hM y4 ⟨hO.1, hO.2.1, hO.2.2⟩ (Or.inr ⟨r, p, hr, hp, rfl, y5, rfl, rfl, by decide⟩) hDR hta hfa hs (by rw [e7 l y4]; exact hkc) (by rw [e7 l y4]; exact hks)
  have et : t'' = t' := Option.some.inj (g1.symm.trans hgo)
  subst et
  refine g5 _ fun G' H' s' kc' ks' a1 a2 a3 a4 a5 a6 a7 a8 => ?_
  rw [e7 l y4] at a6 a7
  exact k G' H' s' kc' ks' a1 a2 (fun g a ha => a3 g a (by rw [df7.1.1]; exact ha)) (f7.wk.tr a4) (fun i hi ne => (a5 i hi ne).trans (e7 i hi)) a6 a7 (HO.pre (fun A kA nA => hdF.df df7 hT x7 (by rw [← x9]; exact hd) kA (by rw [x8]; exact nA)) rfl (fun A kA => by rw [df7.1.1]; exact kA) a8)
end Sd
