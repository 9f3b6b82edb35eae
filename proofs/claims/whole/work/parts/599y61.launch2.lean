/-! launch and go: both sides, from the start. -/
abbrev Wgo : List Nat := [23, 24, 25, 26] ++ Wfl
section Lb
variable {G H : Nat → Nat → Nat} {sa : Nat → Nat} {x l kc ks : Nat} {s : cS} {t t6 : moS} {L : List Int32} {fm ta f po ho tld : Int32} {th tl h lo : Int64} {sn : Option Nat}
/-- who sends it: nobody, or a router -/
def Snd (G : Nat → Nat → Nat) (t : moS) (l : Nat) (fm tld : Int32) (sn : Option Nat) (t6 : moS) : Prop := (fm = -1 ∧ sn = none ∧ t6 = t ∧ tld = 0) ∨ ∃ r p, r < cR t ∧ p < cI t r ∧ fm = nI (4 * r + p) ∧ t.I 71 (4 * r + p) = nI l ∧ sn = some (G 1 r) ∧ t6 = moSI t 45 (11 * r + 5) (t.I 45 (11 * r + 5) + 1) ∧ tld ≠ 0
theorem snd_n (hS : Snd G t l fm tld sn t6) (hM : MV t) : sn = (if fm = -1 then none else some (G 1 (fm.toNatClampNeg / 4))) ∧ mfr [45] t t6 ∧ (sn = none ↔ tld = 0) := by
  have h6 := hM.nR
  rcases hS with ⟨rfl, rfl, rfl, rfl⟩ | ⟨r, p, hr, hp, rfl, -, rfl, rfl, h0⟩
  · exact ⟨by rw [if_pos rfl], mfr.rf, by simp⟩
  · have := hM.nIf hr
    refine ⟨?_, mfr.si (by decide), by simp [h0]⟩
    rw [if_neg (nI_ne (by omega)), nI_clamp (by omega), show (4 * r + p) / 4 = r by omega]
theorem Snd.mv (hS : Snd G t l fm tld sn t6) (hR : RR G H sa x s t) (hM : MV t) : MV t6 ∧ (fm = -1 ∨ ∃ r p, r < cR t6 ∧ p < cI t6 r ∧ fm = nI (4 * r + p) ∧ t6.I 71 (4 * r + p) = nI l) := by
  rcases hS with ⟨rfl, rfl, rfl, rfl⟩ | ⟨r, p, hr, hp, rfl, h71, rfl, rfl, h0⟩
  · exact ⟨hM, Or.inl rfl⟩
  · refine ⟨(rr_cnt hR hM hr (by decide)).2, Or.inr ⟨r, p, hr, ?_, rfl, ?_⟩⟩
    · unfold cI; rw [moSI_n (by decide)]; exact hp
    · rw [moSI_n (by decide)]; exact h71
theorem c_launch (hR : RR G H sa x s t) (hM : MV t) (hl : l < cL t) (hO : OU t6 L) (hS : Snd G t l fm tld sn t6) (hD : DRf H s (G 11 999) L ta th tl f h lo po ho sn) (hta : bit ta) (hf : bit f) (hs : ¬ t.I 23 l + 1 < 0) (hkc : plC s G H l + 5 * dN G t ≤ kc) (hks : 2 * plC s G H l + 622 * dN G t ≤ ks) : ∃ t', M_go t6 (nI l) fm ta th tl f h lo po ho tld = some t' ∧ MV t' ∧ mfr Wgo t6 t' ∧ t'.I 23 = upd (t.I 23) l (t.I 23 l + 1) ∧ ∀ Q, GoK G H sa x s t l t' kc ks Q → C_Rf_launch sa x (some (G 0 l)) s kc ks Q := by
  obtain ⟨sn1, m6, sn2⟩ := snd_n hS hM
  obtain ⟨hM6, hfm⟩ := hS.mv hR hM
  have hL6 := hO.2.1
  have e1 : cL t6 = cL t := by unfold cL; rw [m6.S 17 (by decide)]
  have hl6 : l < cL t6 := by rw [e1]; exact hl
  have hs6 : ¬ t6.I 23 l + 1 < 0 := by rw [m6.I 23 (by decide)]; exact hs
  have hM1 := mv_se hM6 hl6 hL6 hs6
  have ms := seT_m (t := t6) (l := l) (L := L)
  have eF : cF (seT t6 l L) = cF t := by unfold cF; rw [ms.S 123 (by decide), m6.S 123 (by decide)]
  have eF6 : cF t6 = cF t := by unfold cF; rw [m6.S 123 (by decide)]
  have e24 : (seT t6 l L).I 24 = t.I 24 := by rw [ms.I 24 (by decide), m6.I 24 (by decide)]
  have e25 : (seT t6 l L).I 125 = t.I 125 := by rw [ms.I 125 (by decide), m6.I 125 (by decide)]
  have e23 : t6.I 23 = t.I 23 := m6.I 23 (by decide)
  have ed : dueT (seT t6 l L) l (t.I 23 l) = dueT t6 l (t6.I 23 l) := by unfold dueT; rw [ms.S 1 (by decide), ms.I 19 (by decide), ms.I 20 (by decide), e23]
  have s23 : (seT t6 l L).I 23 = upd (t.I 23) l (t.I 23 l + 1) := by rw [seT_23, e23]
  have hl1 : l < cL (seT t6 l L) := by unfold cL; rw [ms.S 17 (by decide)]; exact hl6
  -- the model
  have mod : ∃ t', M_go t6 (nI l) fm ta th tl f h lo po ho tld = some t' ∧ MV t' ∧ mfr Wgo t6 t' ∧ t'.I 23 = upd (t.I 23) l (t.I 23 l + 1) ∧ ((cF (seT t6 l L) = 256 ∧ t' = seT t6 l L) ∨ (cF (seT t6 l L) < 256 ∧ sn ≠ none ∧ 0 < (seT t6 l L).I 24 l ∧ t' = moSI (seT t6 l L) 24 l ((seT t6 l L).I 24 l - 1)) ∨ (cF (seT t6 l L) < 256 ∧ (sn = none ∨ ¬ 0 < (seT t6 l L).I 24 l) ∧ ∃ p, p < 256 ∧ (seT t6 l L).I 125 p = 0 ∧ t' = flT (seT t6 l L) p l fm ta th tl f h lo po ho (dueT (seT t6 l L) l (t.I 23 l)) L)) := by
    have e6 : t6.I 24 = t.I 24 := m6.I 24 (by decide)
    rcases m_go (fm := fm) (ta := ta) (th := th) (tl := tl) (f := f) (h := h) (lo := lo) (po := po) (ho := ho) (tld := tld) hM6 hl6 hO hta with ⟨c1, g⟩ | ⟨c1, c2, c3, g⟩ | ⟨c1, c2, p, p1, p2, g⟩
    · exact ⟨_, g, hM1, ms.wk (by decide), s23, Or.inl ⟨by rw [eF, ← eF6]; exact c1, rfl⟩⟩
    · rw [e6] at c3 g
      refine ⟨_, g, ?_, (ms.wk (by decide)).tr (mfr.si (by decide)), ?_, Or.inr (Or.inl ⟨by rw [eF, ← eF6]; exact c1, fun z => c2 (sn2.mp z), by rw [e24]; exact c3, by rw [e24]⟩)⟩
      · have := mv_lo hM1 hl1 (by rw [e24]; exact c3)
        rw [e24] at this
        exact this
      · rw [moSI_n (by decide)]; exact s23
    · rw [← ed] at g
      refine ⟨_, g, ?_, (ms.wk (by decide)).tr (flT_m.wk (by decide)), ?_, Or.inr (Or.inr ⟨by rw [eF, ← eF6]; exact c1, ?_, p, p1, by rw [e25, ← m6.I 125 (by decide)]; exact p2, rfl⟩)⟩
      · refine mv_fl hM1 hl1 (by rw [eF, ← eF6]; exact c1) p1 (by rw [e25, ← m6.I 125 (by decide)]; exact p2) hta hf hL6 ?_
        rcases hfm with z | ⟨r, p, z1, z2, z3, z4⟩
        · exact Or.inl z
        · refine Or.inr ⟨r, p, by unfold cR; rw [ms.S 37 (by decide)]; exact z1, by unfold cI; rw [ms.I 70 (by decide)]; exact z2, z3, by rw [ms.I 71 (by decide)]; exact z4⟩
      · rw [flT_m.I 23 (by decide)]; exact s23
      · rw [e24, ← e6]
        exact c2.imp_left sn2.mpr
  obtain ⟨t', g1, g2, g3, g4, g5⟩ := mod
  refine ⟨t', g1, g2, g3, g4, fun Q kk => ?_⟩
  have hq := hR.q.1
  have hT := hq.ty
  have hx := hq.1.1
  have k7 := (hq.link hl).1.1
  have h67 := hT.p k7 67 2
  obtain ⟨-, -, ⟨b1, b2, b3, b4, b5, b6⟩, cap, c1, bl⟩ := hq.link hl
  obtain ⟨-, -, -, ⟨d1, d2⟩, -⟩ := hq.2.2.2.2.2.2
  have h40 := hT.p d2 40 3
  have ox := okr hx 11
  have o2 := okr d2 2
  have o3 := okr k7 3
  have o0 := okr h67.2 0
  have o03 := okr h40.2 0
  have bL := hD.1
  unfold C_Rf_launch
  refine ⟨_, rfl, _, gd_to o3, _, gd_to o3, _, gd_to o3, ?_, _, gd_to o3, _, gd_to o3, _, gd_to o3, _, h67.1, o0, ?_⟩
  · rw [show s.I (20 * 3 + 2) (G 0 l) = t.I 20 l from b2]; exact jit_nz hM hl
  unfold C_By_clear
  refine ⟨_, gd_to o0, ?_⟩
  refine ⟨_, gd_to o3, _, gd_to ox, _, d1, _, gd_to o2, _, gd_to ox, _, d1, _, gd_to o2, _, h40.1, _, gd_to o03, _, h67.1, o0, ?_⟩
  have eW : s.I (20 * 3 + 1) (G 0 l) = t.I 19 l := b1
  have eJ : s.I (20 * 3 + 2) (G 0 l) = t.I 20 l := b2
  have eS : s.I (20 * 3 + 5) (G 0 l) = t.I 23 l := b5
  rw [eW, eJ, eS]
  have nb : H 40 (G 11 999) ≠ H 67 (G 0 l) := ne_ro h40.2 h67.2
  have n7 : H 67 (G 0 l) ≠ G 0 l := ne_ro h67.2 k7
  have n7' : H 40 (G 11 999) ≠ G 0 l := ne_ro h40.2 k7
  have st : (cSI (cSI s (20 * 3 + 5) (G 0 l) (t.I 23 l + 1)) (20 * 0 + 1) (H 67 (G 0 l)) 0) = cSI (cSI s 65 (G 0 l) (s.I 65 (G 0 l) + 1)) 1 (H 67 (G 0 l)) 0 := by rw [b5]
  rw [st]
  have bl2 : BL (cSI (cSI s 65 (G 0 l) (s.I 65 (G 0 l) + 1)) 1 (H 67 (G 0 l)) 0) (H 67 (G 0 l)) 125 [] cap := by
    obtain ⟨q1, q2, d, q3, q4, q5, q6, q7, q8, q9⟩ := bl
    exact ⟨q1, q2, d, q3, q4, cSI_s, Nat.zero_le _, q7, q8, fun i hi => absurd hi (Nat.not_lt_zero i)⟩
  have bL2 : BL (cSI (cSI s 65 (G 0 l) (s.I 65 (G 0 l) + 1)) 1 (H 67 (G 0 l)) 0) (H 40 (G 11 999)) 129 L 600 := by
    obtain ⟨q1, q2, d, q3, q4, q5, q6⟩ := bL
    refine ⟨q1, q2, d, q3, q4, ?_, q6⟩
    rw [cSI_a nb, cSI_g (by decide)]
    exact q5
  have ec : plC s G H l = 1200 - cap := by unfold plC; rw [bl.cap]
  have hap := bl2.ap (sa := sa) (F := 600) (L := 1200) (kc := kc) (ks := ks) (Or.inr (by decide)) (by decide) c1 (by omega) (by omega) hq.tk
  have eL : (cSI (cSI s 65 (G 0 l) (s.I 65 (G 0 l) + 1)) 1 (H 67 (G 0 l)) 0).I (20 * 0 + 1) (H 40 (G 11 999)) = nI L.length := by
    obtain ⟨-, -, d, -, -, q5, -⟩ := bL2
    exact q5
  rw [eL, show (cSI (cSI s 65 (G 0 l) (s.I 65 (G 0 l) + 1)) 1 (H 67 (G 0 l)) 0).P (20 * 2 + 0) (G 11 999) = some (H 40 (G 11 999)) from h40.1]
  refine ap_part (i := 0) (j := L.length) hap bL2 nb (fun d e1 e2 => ?_) (Nat.zero_le _) (Nat.le_refl _) (by simpa using hL6) (by decide) fun s3 kc3 ks3 h3 => ?_
  · obtain ⟨-, -, d1', q3, q4, -⟩ := bL2
    obtain ⟨-, -, d2', q3', q4', -⟩ := bl2
    rw [e1] at q3
    rw [e2] at q3'
    cases q3
    cases q3'
    rw [q4] at q4'
    exact absurd (show (129 : Nat) = 125 from congrArg Prod.fst q4') (by decide)
  rw [List.nil_append, List.drop_zero, Nat.sub_zero, List.take_length] at h3
  obtain ⟨R3, F3, P3⟩ := rr_seen hR hM hl hL6 h3
  obtain ⟨cap3, ⟨bl3, c3⟩, k3, m3, -⟩ := h3.bl
  have ec3 : plC s3 G H l = 1200 - cap3 := by unfold plC; rw [bl3.cap]
  have mon := h3.mon
  rw [bl2.cap, bl3.cap] at mon
  have D3 := hD.fr hT d2 F3 rfl rfl
  obtain ⟨-, -, -, ⟨d1', d2'⟩, -⟩ := R3.q.1.2.2.2.2.2.2
  have ox3 := okr R3.q.1.1.1 11
  have o23 := okr d2' 2
  refine ⟨_, gd_to ox3, _, d1', _, gd_to o23, ?_⟩
  rw [show s3.P (20 * 2 + 7) (G 11 999) = sn from D3.2.2.2.2]
  have eW6 : (seT t6 l L).I 19 l = t.I 19 l := by rw [ms.I 19 (by decide), m6.I 19 (by decide)]
  have eJ6 : (seT t6 l L).I 20 l = t.I 20 l := by rw [ms.I 20 (by decide), m6.I 20 (by decide)]
  have dn6 : dN G (seT t6 l L) = dN G t := by unfold dN; rw [eF]
  -- the last part
  have last : ∀ s4, RR G H sa x s4 (seT t6 l L) → fr [104] [] [] s3 s4 → C_Rf_launch_b92 sa x (some (G 0 l)) (t.I 19 l + Int64.toInt32 (rem_L ((3 : Int64) * (Int32.toInt64 (t.I 23 l))) (Int32.toInt64 (t.I 20 l + 1)))) s4 kc3 ks3 Q := fun s4 R4 F4 => by
    have := c_b92 (k := t.I 23 l) (t' := t') (kc := kc3) (ks := ks3) R4 hM1 hl1 (D3.fr R3.q.1.ty d2' F4 rfl rfl) sn1 g5 (by rw [dn6]; omega) (by rw [dn6]; omega) (Q := Q) fun G' H' s' kc' ks' r1 r2 r3 r4 r5 r6 r7 => ?_
    · rw [eW6, eJ6] at this
      exact this
    · rw [dn6] at r5 r6
      have f34 : fr Rgo Pgo Qfl s s4 := (F3.wk).tr F4.wk
      have hA' : hA H H' s := fun g a ha => r3 g a (by rw [(f34 a ha).1]; exact ha)
      have pe : ∀ i, i < cL t → plC s' G H i = plC s3 G H i := fun i hi => by
        have hi3 : i < cL (seT t l L) := by unfold cL; rw [seT_m.S 17 (by decide)]; exact hi
        have hi4 : i < cL (seT t6 l L) := by unfold cL; rw [ms.S 17 (by decide), m6.S 17 (by decide)]; exact hi
        rw [plC_fr R4.q.1 hi4 r4 rfl, plC_fr R3.q.1 hi3 F4 rfl]
      refine kk G' H' s' kc' ks' r1 r2 hA' (f34.tr r4.wk) (fun i hi hne => (pe i hi).trans (P3 i hi hne)) ?_ ?_ (HO.pre (fun A kA _ => (hdF.fr F3 hT kA rfl (fun _ => by simp) (by simp)).tr (hdF.fr F4 R3.q.1.ty (F3.r kA) rfl (fun _ => by simp) (by simp))) eF (fun A kA => F4.r (F3.r kA)) r7)
      · rw [pe l hl, ec3, ec]; omega
      · rw [pe l hl, ec3, ec]; omega
  rcases hS with ⟨z1, z2, z3, z4⟩ | ⟨r, p, hr, hp, z1, z2, z3, z4, z5⟩
  · refine ifT z2 (last s3 ?_ fr.rf)
    rw [z3]; exact R3
  · refine ifF (by rw [z3]; simp) ⟨_, gd_to ox3, _, d1', _, gd_to o23, _, (show s3.P (20 * 2 + 7) (G 11 999) = some (G 1 r) from D3.2.2.2.2.trans z3), ?_⟩
    have hr3 : r < cR (seT t l L) := by unfold cR; rw [seT_m.S 37 (by decide)]; exact hr
    have rt3 := R3.q.1.rt hr3
    have k26 := rt3.1.1
    have h196 := R3.q.1.ty.r k26 196 104 11
    refine ⟨_, gd_to (okr k26 9), _, h196.1, ?_⟩
    have okA5 : okA s3 .int (H 196 (G 1 r)) 5 := ⟨by rw [h196.2]; decide, by rw [h196.2]; decide, by rw [h196.2]; decide, by rw [h196.2]; exact vp_in_nI (n := 5) (by decide) (by decide)⟩
    refine ⟨_, gd_to okA5, _, gd_to okA5, ?_⟩
    have e5 : s3.E (H 196 (G 1 r)) 5 = t.I 45 (11 * r + 5) := (rt3.2.2.2.2 5 (by decide)).trans (by rw [seT_m.I 45 (by decide)])
    refine last _ ?_ (fr.se (by rw [h196.2]; decide))
    rw [z4, se_comm]
    have := (rr_cnt (i := 5) (v := t.I 45 (11 * r + 5) + 1) R3 (mv_se hM hl hL6 hs) hr3 (by decide)).1
    rw [← e5] at this ⊢
    exact this
end Lb
