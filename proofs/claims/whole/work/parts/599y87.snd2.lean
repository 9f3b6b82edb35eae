/-! A draft is sent: all of it; the model's send. -/
section Se
variable {G H : Nat → Nat → Nat} {sa : Nat → Nat} {x kc ks r p l c D b f : Nat} {s : cS} {t t' : moS} {V : chV} {L E : List Int32} {ta cmd : Int32} {th tl : Int64} {Q : cS → Nat → Nat → Prop}
theorem c_snd {p2 : Option Nat} (hR : RR G H sa x s t) (hM : MV t) (hr : r < cR t) (hp : p < cI t r) (hX : PX G H x s t r p l c D b V) (hf : f = 0 ∨ f = 1) (hb : BL s b 129 L 600) (hO : OU t L) (h44 : s.I 44 D = fam (nI f)) (h75 : t.I 75 (2 * (4 * r + p) + f) ≠ 0) (hTG : TG H s D p2 ta th tl f) (hs : ¬ t.I 23 l + 1 < 0) (hkc : plC s G H l + 5 * dN G t ≤ kc) (hks : 2 * plC s G H l + 622 * dN G t ≤ ks) (hgo : goM t r p l ta th tl f = some t') (k : GoK G H sa x s t l t' kc ks Q) : C_Rr_sendDraft sa (G 1 r) (some (G 2 (4 * r + p))) p2 s kc ks Q := by
  have hX0 := hX
  have hq := hR.q.1
  have hT := hq.ty
  obtain ⟨⟨x1, x2, x3, x4, x5, x6, x7, x8, x9⟩, ⟨y1, y2, y3, y4, y5, y6, y7, y8⟩, -⟩ := hX
  have hAd : RAd G s t (4 * r + p) f := by
    have hP := hq.po hr hp
    rcases hf with rfl | rfl
    · exact hP.2.1
    · exact hP.2.2.1
  rcases hAd with ⟨z, -⟩ | ⟨-, ap, hps, kap, hPF⟩
  · exact absurd z h75
  have p41 := hT.p x7 41 12
  have p42 := hT.p x7 42 13
  have r0 := (hT.p x7 40 3).2
  obtain ⟨-, -, d, hd, kd, -⟩ := id hb
  have o41 := okr p41.2 5
  have o42 := okr p42.2 5
  have oap := okr kap 5
  have nD1 : D ≠ H 41 D := fun z => by rw [← z, x7] at p41; exact absurd p41.2 (by decide)
  have nD2 : D ≠ H 42 D := fun z => by rw [← z, x7] at p42; exact absurd p42.2 (by decide)
  have n12 : H 41 D ≠ H 42 D := fun z => by have := p41.2; rw [z, p42.2] at this; exact absurd this (by decide)
  have nb1 : b ≠ H 41 D := fun z => by rw [← x9, z, p41.2] at r0; exact absurd r0 (by decide)
  have nb2 : b ≠ H 42 D := fun z => by rw [← x9, z, p42.2] at r0; exact absurd r0 (by decide)
  have nbD : b ≠ D := fun z => by rw [← x9, z, x7] at r0; exact absurd r0 (by decide)
  have adr : ∀ Q' : Option Nat → cS → Nat → Nat → Prop, Q' (s.P (81 + f) (G 2 (4 * r + p))) s kc ks → C_Po_addressOf sa (G 2 (4 * r + p)) (fam (nI f)) s kc ks Q' := fun Q' h => by
    unfold C_Po_addressOf
    rcases hf with rfl | rfl
    · exact ifT rfl ⟨_, gd_to y1, h⟩
    · exact ifF (by decide) ⟨_, gd_to y1, h⟩
  have bits : ∀ s' (Q' : Int32 → cS → Nat → Nat → Prop), Q' (if nI f = 0 then 32 else 128) s' kc ks → C_Pr_bitsOf sa (fam (nI f)) s' kc ks Q' := fun s' Q' h => by
    unfold C_Pr_bitsOf
    rcases hf with rfl | rfl
    · exact ifT rfl h
    · exact ifF (by decide) h
  unfold C_Rr_sendDraft
  refine ⟨_, gd_to x1, x, x2, _, gd_to x3, D, x4, _, gd_to x5, ?_⟩
  rw [show s.I (20 * 2 + 4) D = fam (nI f) from h44]
  refine ⟨_, rfl, y1, adr _ ?_⟩
  rw [hps]
  refine ifF (by intro z; cases z) ⟨_, gd_to x5, H 41 D, p41.1, o41, w_copy o41 oap ⟨_, gd_to x5, _, gd_to x5, ?_⟩⟩
  have i1 := spf_o (s := s) (a := H 41 D) (e := D) (u := s.I 100 ap) (w := s.I 103 ap) (h := s.J 101 ap) (o := s.J 102 ap) nD1
  rw [show (cSpf s (H 41 D) (s.I 100 ap) (s.J 101 ap) (s.J 102 ap) (s.I 103 ap)).I (20 * 2 + 4) D = fam (nI f) from (i1.1 44).trans h44]
  refine bits _ _ ⟨H 41 D, p41.1, _, gd_to o41, ?_⟩
  show (if p2 = none then C_Rr_sendDraft_b57 sa (G 1 r) (some (G 2 (4 * r + p))) p2 (some D) (some D) 1 (cSI (cSpf s (H 41 D) (s.I 100 ap) (s.J 101 ap) (s.J 102 ap) (s.I 103 ap)) 103 (H 41 D) (if nI f = 0 then 32 else 128)) kc ks Q else C_Rr_sendDraft_b57 sa (G 1 r) (some (G 2 (4 * r + p))) p2 (some D) (some D) 0 (cSI (cSpf s (H 41 D) (s.I 100 ap) (s.J 101 ap) (s.J 102 ap) (s.I 103 ap)) 103 (H 41 D) (if nI f = 0 then 32 else 128)) kc ks Q)
  generalize hs2 : cSI (cSpf s (H 41 D) (s.I 100 ap) (s.J 101 ap) (s.J 102 ap) (s.I 103 ap)) 103 (H 41 D) (if nI f = 0 then 32 else 128) = s2
  have d2 : DF H D d s s2 := by rw [← hs2]; exact (DF.spf (Or.inl rfl)).tr DF.si1
  have o2 : ∀ e, e ≠ H 41 D → (∀ g, s2.I g e = s.I g e) ∧ ∀ g, s2.J g e = s.J g e := fun e ne => by
    have sp := spf_o (s := s) (a := H 41 D) (e := e) (u := s.I 100 ap) (w := s.I 103 ap) (h := s.J 101 ap) (o := s.J 102 ap) ne
    rw [← hs2]
    refine ⟨fun g => ?_, fun g => sp.2 g⟩
    rw [cSI_o ne]; exact sp.1 g
  have q2 : PF s2 (H 41 D) (fam (nI f)) (t.J 76 (2 * (4 * r + p) + f)) (t.J 77 (2 * (4 * r + p) + f)) (if nI f = 0 then 32 else 128) := by
    obtain ⟨e1, e2, e3, e4⟩ := hPF
    obtain ⟨f1, f2, f3, f4⟩ := spf_s (s := s) (a := H 41 D) (u := s.I 100 ap) (w := s.I 103 ap) (h := s.J 101 ap) (o := s.J 102 ap)
    rw [← hs2]
    exact ⟨(cSI_g (by decide)).trans (f1.trans e1), f2.trans e2, f3.trans e3, cSI_s⟩
  have E2 : s2.E = s.E := by rw [← hs2]; rfl
  -- with the mark for all
  have key : ∀ s3, s3 = cSI s2 43 D ta → (DF H D d s s3 ∧ PF s3 (H 41 D) (fam (nI f)) (t.J 76 (2 * (4 * r + p) + f)) (t.J 77 (2 * (4 * r + p) + f)) (if nI f = 0 then 32 else 128)) ∧ (s3.I 44 D = fam (nI f) ∧ s3.I 43 D = ta) ∧ (∀ e, e ≠ H 41 D → e ≠ D → (∀ g, s3.I g e = s.I g e) ∧ ∀ g, s3.J g e = s.J g e) ∧ s3.E = s.E := by
    intro s3 e3
    subst e3
    refine ⟨⟨d2.tr DF.siD, ?_⟩, ⟨?_, cSI_s⟩, fun e n1 n2 => ⟨fun g => ?_, fun g => (o2 e n1).2 g⟩, E2⟩
    · unfold PF at q2 ⊢
      rw [cSI_o nD1.symm, cSI_o nD1.symm]
      exact q2
    · rw [cSI_g (by decide), (o2 D nD1).1 44]; exact h44
    · rw [cSI_o n2]; exact (o2 e n1).1 g
  have blO : ∀ {s'}, DF H D d s s' → s'.I 1 b = s.I 1 b → s'.E = s.E → BL s' b 129 L 600 := fun {s'} df h1 hE => by
    have hd' : s.P 0 (H 40 D) = some d := by rw [← x9]; exact hd
    have := df.bl hT x7 hd' (by rw [← x9]; exact h1) (by rw [hE]) (by rw [← x9]; exact hb)
    rw [← x9] at this
    exact this
  have ok2 : ∀ {u a : Nat}, okO s u a → okO s2 u a := fun h => by unfold okO at h ⊢; rw [d2.1.1]; exact h
  rcases hTG with ⟨rfl, rfl⟩ | ⟨tp, rfl, rfl, otp, ntp, t1, t2, t3⟩
  · refine ifT rfl ?_
    unfold C_Rr_sendDraft_b57
    refine ⟨D, rfl, _, gd_to ⟨ok2 x5, Or.inr rfl⟩, ifT rfl ?_⟩
    obtain ⟨⟨a1, a2⟩, ⟨a3, a4⟩, a5, a6⟩ := key _ rfl
    exact c_sd72 hR hM hr hp hX0 hf rfl a1 hd kd (blO a1 ((a5 b nb1 nbD).1 1) a6) hO a3 a4 (Or.inr rfl) a2 (fun z => absurd z (by decide)) hs hkc hks hgo k
  · refine ifF (by intro z; cases z) ?_
    unfold C_Rr_sendDraft_b57
    obtain ⟨⟨a1, a2⟩, ⟨a3, a4⟩, a5, a6⟩ := key _ rfl
    refine ⟨D, rfl, _, gd_to ⟨ok2 x5, Or.inl rfl⟩, ifF (by intro z; cases z) ⟨D, rfl, _, gd_to (ok2 x5), H 42 D, (a1.2.1 42 D (fun z => absurd z.1 (by decide))).trans p42.1, ok2 o42, w_copy (ok2 o42) (ok2 otp) ?_⟩⟩
    have ntD : tp ≠ D := fun z => by
      have := otp.2.2
      rw [z, x7] at this
      exact absurd this (by decide)
    have b5 := a5 tp ntp ntD
    have S1 := spf_s (s := cSI s2 43 D 0) (a := H 42 D) (u := (cSI s2 43 D 0).I 100 tp) (w := (cSI s2 43 D 0).I 103 tp) (h := (cSI s2 43 D 0).J 101 tp) (o := (cSI s2 43 D 0).J 102 tp)
    have So := fun {e : Nat} (ne : e ≠ H 42 D) => spf_o (s := cSI s2 43 D 0) (a := H 42 D) (e := e) (u := (cSI s2 43 D 0).I 100 tp) (w := (cSI s2 43 D 0).I 103 tp) (h := (cSI s2 43 D 0).J 101 tp) (o := (cSI s2 43 D 0).J 102 tp) ne
    have d5 : DF H D d s (cSpf (cSI s2 43 D 0) (H 42 D) ((cSI s2 43 D 0).I 100 tp) ((cSI s2 43 D 0).J 101 tp) ((cSI s2 43 D 0).J 102 tp) ((cSI s2 43 D 0).I 103 tp)) := a1.tr (DF.spf (Or.inr rfl))
    refine c_sd72 hR hM hr hp hX0 hf rfl d5 hd kd (blO d5 (((So nb2).1 1).trans ((a5 b nb1 nbD).1 1)) a6) hO (((So nD2).1 44).trans a3) (((So nD2).1 43).trans a4) (Or.inl rfl) ?_ (fun _ => ?_) hs hkc hks hgo k
    · unfold PF at a2 ⊢
      rw [(So n12).1, (So n12).1, (So n12).2, (So n12).2]
      exact a2
    · obtain ⟨g1, g2, g3, -⟩ := S1
      rw [g1, g2, g3, b5.1, b5.2, b5.2]
      exact ⟨t1, t2, t3⟩
/-- the model's go, by itself -/
theorem m_goX {fm f' po ho tld : Int32} {h lo : Int64} (hM : MV t) (hl : l < cL t) (hO : OU t L) (hta : bit ta) (hf : bit f') (hfm : fm = -1 ∨ ∃ r p, r < cR t ∧ p < cI t r ∧ fm = nI (4 * r + p) ∧ t.I 71 (4 * r + p) = nI l) (hs : ¬ t.I 23 l + 1 < 0) : ∃ t', M_go t (nI l) fm ta th tl f' h lo po ho tld = some t' ∧ MV t' ∧ mfr Wgo t t' ∧ t'.I 23 = upd (t.I 23) l (t.I 23 l + 1) := by
  have hL6 := hO.2.1
  have hM1 := mv_se hM hl hL6 hs
  have ms := seT_m (t := t) (l := l) (L := L)
  have eF : cF (seT t l L) = cF t := by unfold cF; rw [ms.S 123 (by decide)]
  have e24 : (seT t l L).I 24 = t.I 24 := ms.I 24 (by decide)
  have e25 : (seT t l L).I 125 = t.I 125 := ms.I 125 (by decide)
  have s23 : (seT t l L).I 23 = upd (t.I 23) l (t.I 23 l + 1) := seT_23
  have hl1 : l < cL (seT t l L) := by unfold cL; rw [ms.S 17 (by decide)]; exact hl
  rcases m_go (fm := fm) (ta := ta) (th := th) (tl := tl) (f := f') (h := h) (lo := lo) (po := po) (ho := ho) (tld := tld) hM hl hO hta with ⟨c1, g⟩ | ⟨c1, c2, c3, g⟩ | ⟨c1, c2, p, p1, p2, g⟩
  · exact ⟨_, g, hM1, ms.wk (by decide), s23⟩
  · refine ⟨_, g, ?_, (ms.wk (by decide)).tr (mfr.si (by decide)), ?_⟩
    · have := mv_lo hM1 hl1 (by rw [e24]; exact c3)
      rw [e24] at this
      exact this
    · rw [moSI_n (by decide)]; exact s23
  · refine ⟨_, g, ?_, (ms.wk (by decide)).tr (flT_m.wk (by decide)), ?_⟩
    · refine mv_fl hM1 hl1 (by rw [eF]; exact c1) p1 (by rw [e25]; exact p2) hta hf hL6 ?_
      rcases hfm with z | ⟨r, p, z1, z2, z3, z4⟩
      · exact Or.inl z
      · refine Or.inr ⟨r, p, by unfold cR; rw [ms.S 37 (by decide)]; exact z1, by unfold cI; rw [ms.I 70 (by decide)]; exact z2, z3, by rw [ms.I 71 (by decide)]; exact z4⟩
    · rw [flT_m.I 23 (by decide)]; exact s23
end Se
