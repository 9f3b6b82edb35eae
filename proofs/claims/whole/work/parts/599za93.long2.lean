/-! The longest prefix of a router that covers an address: the class. -/
theorem xr_eq {a b m : Int64} (h : (a ^^^ b) &&& m = 0) : a &&& m = b &&& m := by
  have h := congrArg Int64.toBitVec h
  refine Int64.toBitVec_inj.mp ?_
  have h : (a.toBitVec ^^^ b.toBitVec) &&& m.toBitVec = 0 := h
  show a.toBitVec &&& m.toBitVec = b.toBitVec &&& m.toBitVec
  refine BitVec.eq_of_getLsbD_eq fun i hi => ?_
  have hi := congrArg (fun z => BitVec.getLsbD z i) h
  simp only [BitVec.getLsbD_and, BitVec.getLsbD_xor, BitVec.getLsbD_zero] at hi ⊢
  cases ha : a.toBitVec.getLsbD i <;> cases hb : b.toBitVec.getLsbD i <;> cases hm : m.toBitVec.getLsbD i <;> simp_all
theorem px_id {h m : Int64} (hp : h &&& ~~~ m = 0) : h &&& m = h := by
  have := (px_eq (a := h) hp).1
  refine this ?_
  rw [Int64.xor_self, Int64.zero_and]
/-- the entry holds the best that was found -/
def eBs (s : cS) (e : Nat) (t : moS) (a : Int32) : Prop := s.I 103 e = a ∧ (a ≠ -1 → PF s e (fam (t.S 12)) (t.Z 13 &&& mskH a) (t.Z 14 &&& mskL a) a)
section Fl
variable {G H : Nat → Nat → Nat} {sa : Nat → Nat} {x kc ks o f : Nat} {s : cS} {t : moS} {a : Int32} {Q : cS → Nat → Nat → Prop}
theorem w_flo (hR : RR G H sa x s t) (hM : MV t) (hpx : ∀ k, k < cSt t o → isPx (t.J 48 (32 * o + k)) (t.J 49 (32 * o + k)) (t.I 50 (32 * o + k))) (ho : o < cR t) (h39 : t.I 39 o ≠ 0) (hf : f = 0 ∨ f = 1) (e12 : t.S 12 = nI f) (hh : PF s (H 239 x) (fam (nI f)) (t.Z 13) (t.Z 14) (if fam (nI f) = 4 then 32 else 128)) (hB : eBs s (H 238 x) t a) (hm : mxP (lgA t o) a) (k : ∀ s' a', RR G H sa x s' t → fr [18] [] [] s s' → eBs s' (H 238 x) t a' → mxP (lgA t (o + 1)) a' → Q s' kc ks) : C_Rr_findLongestOwn sa (G 1 o) (some (H 239 x)) (some (H 238 x)) s kc ks Q := by
  have h6 := hM.nR
  have h4 := hM.nIf ho
  have hf2 : f < 2 := by omega
  have hq0 := hR.q.1
  have k238 := (hq0.ty.p hq0.1.1 238 18).2
  have k239 := (hq0.ty.p hq0.1.1 239 39).2
  have le : ∀ m : Nat, lnOk (nI f) (nI m) → m ≤ 128 → nI m ≤ (if fam (nI f) = 4 then 32 else 128 : Int32) := fun m hm hm2 => by
    rcases hf with rfl | rfl
    · have : m ≤ 32 := by
        obtain ⟨-, m', em, -, hm'⟩ := hm
        have hm' : m' ≤ 32 := hm'
        have := (nI_eq (show m < 2 ^ 31 by omega) (show m' < 2 ^ 31 by omega)).mp em
        omega
      exact nI_le (b := 32) this (by decide)
    · exact nI_le (b := 128) hm2 (by decide)
  -- what every state behind has
  have inv : ∀ u : cS, RR G H sa x u t → fr [18] [] [] s u → okO u 5 (H 239 x) ∧ okO u 5 (H 238 x) ∧ PF u (H 239 x) (fam (nI f)) (t.Z 13) (t.Z 14) (if fam (nI f) = 4 then 32 else 128) := fun u _ fu => ⟨okr (fu.r k239) 5, okr (fu.r k238) 5, hh.fr fu k239 (by decide)⟩
  have put : ∀ (u : cS) (h l : Int64) (n : Int32), RR G H sa x u t → fr [18] [] [] s u → h = t.Z 13 &&& mskH n → l = t.Z 14 &&& mskL n → ∀ u', u'.K = u.K → u'.P = u.P → fr [18] [] [] u u' → PF u' (H 238 x) (fam (nI f)) h l n → RR G H sa x u' t ∧ fr [18] [] [] s u' ∧ eBs u' (H 238 x) t n := fun u h l n Ru fu eh el u' eK eP f' pf => by
    refine ⟨rr_fr Ru hM (Ru.q.1.1.v eK eP f' rfl rfl rfl) f' (mfr.rf (W := [])) rfl rfl rfl rfl rfl rfl rfl, fu.tr f', pf.2.2.2, fun _ => ?_⟩
    rw [e12, ← eh, ← el]
    exact pf
  -- the static routes
  have stats : ∀ d j (u : cS) (a : Int32), j + d = cSt t o → RR G H sa x u t → fr [18] [] [] s u → eBs u (H 238 x) t a → mxP (fun n => lgA t o n ∨ (∃ j', j' < 2 * cI t o ∧ lgP t o j' n) ∨ ∃ j', j' < j ∧ lgS t o (G 7 (32 * o + j')) n) a → ∀ P : Int32 → cS → Nat → Nat → Prop, (∀ (a3 : Int32) (s : cS) (kc ks : Nat), C_Rr_findLongestOwn_s84 sa (G 1 o) (some (H 239 x)) (some (H 238 x)) a3 s kc ks Q P → P a3 s kc ks) → P (nI j) u kc ks := by
    intro d
    induction d with
    | zero =>
      intro j u a hj Ru fu eb mx P hP
      have hq := Ru.q.1
      have k26 := (hq.rt ho).1.1
      have p187 := hq.ty.p k26 187 28
      obtain ⟨s1, s2⟩ := st_both hq hM ho
      have : j = cSt t o := by omega
      subst this
      apply hP
      unfold C_Rr_findLongestOwn_s84
      refine ⟨_, gd_to (okr k26 9), _, p187.1, _, gd_to (okr p187.2 10), ?_⟩
      rw [show u.I (20 * 10 + 1) (H 187 (G 1 o)) = nI (cSt t o) from (hq.st ho).1.1]
      refine ifF (nI_nlt (Nat.le_refl _) (by have : cSt t o ≤ 32 := (hM.r ho).2.2.2.1.n.2.2; omega)) (k u a Ru fu eb (mx_cg mx fun n => ⟨?_, ?_⟩))
      · rintro ⟨o', h1, h2, h3⟩
        rcases Nat.lt_or_ge o' o with c | c
        · exact Or.inl ⟨o', c, h2, h3⟩
        · have : o' = o := by omega
          subst this
          rcases h3 with ⟨k', z1, z2⟩ | z
          · obtain ⟨j', y1, y2⟩ := s2 k' z1
            exact Or.inr (Or.inr ⟨j', y1, by rw [y2]; exact z2⟩)
          · exact Or.inr (Or.inl z)
      · rintro (⟨o', h1, h2⟩ | z | ⟨j', z1, z2⟩)
        · exact ⟨o', by omega, h2⟩
        · exact ⟨o, by omega, h39, Or.inr z⟩
        · exact ⟨o, by omega, h39, Or.inl ⟨_, ((hq.st ho).2.1 j' z1).1, z2⟩⟩
    | succ d ih =>
      intro j u a hj Ru fu eb mx P hP
      have hj' : j < cSt t o := by omega
      have hq := Ru.q.1
      have k26 := (hq.rt ho).1.1
      have p187 := hq.ty.p k26 187 28
      have h46 : cSt t o ≤ 32 := (hM.r ho).2.2.2.1.n.2.2
      obtain ⟨⟨i201, nhw, hw32, w, cap, p200, kw, hwc, -, hc2, qr, -, -⟩, st, -⟩ := hq.st ho
      obtain ⟨g7, pf, -, -⟩ := st j hj'
      obtain ⟨qj, kj⟩ := qr j (by have : cSt t o ≤ G 14 o := nhw; omega)
      have p160 := hq.ty.p kj 160 36
      have ok := ((hM.r ho).2.2.2.2.1 _ g7).1
      have px := hpx _ g7
      obtain ⟨m, em, hm'⟩ := ok.n
      obtain ⟨o239, o238, ph⟩ := inv u Ru fu
      have key := mx_add (c := t.I 47 (32 * o + G 7 (32 * o + j)) = t.S 12 ∧ mcov (t.J 48 (32 * o + G 7 (32 * o + j))) (t.J 49 (32 * o + G 7 (32 * o + j))) (t.I 50 (32 * o + G 7 (32 * o + j))) (t.Z 13) (t.Z 14)) (v := t.I 50 (32 * o + G 7 (32 * o + j))) (S' := fun n => lgA t o n ∨ (∃ j', j' < 2 * cI t o ∧ lgP t o j' n) ∨ ∃ j', j' < j + 1 ∧ lgS t o (G 7 (32 * o + j')) n) mx (fun n => by
        constructor
        · rintro (h1 | h1 | ⟨k', h3, h4⟩)
          · exact Or.inl (Or.inl h1)
          · exact Or.inl (Or.inr (Or.inl h1))
          · rcases Nat.lt_or_ge k' j with c | c
            · exact Or.inl (Or.inr (Or.inr ⟨k', c, h4⟩))
            · have : k' = j := by omega
              subst this
              exact Or.inr h4
        · rintro ((h1 | h1 | ⟨k', h3, h4⟩) | h1)
          · exact Or.inl h1
          · exact Or.inr (Or.inl h1)
          · exact Or.inr (Or.inr ⟨k', by omega, h4⟩)
          · exact Or.inr (Or.inr ⟨j, by omega, h1⟩)) (fun _ => by
        rw [em]
        exact nI_m1 (by omega))
      apply hP
      unfold C_Rr_findLongestOwn_s84 C_Rr_findLongestOwn_b136
      refine ⟨_, gd_to (okr k26 9), _, p187.1, _, gd_to (okr p187.2 10), ?_⟩
      rw [show u.I (20 * 10 + 1) (H 187 (G 1 o)) = nI (cSt t o) from i201]
      refine ifT (nI_lt hj' (by omega)) ⟨_, gd_to (okr k26 9), _, p187.1, _, gd_to (okr p187.2 10), _, p200, _, rd_Q kw (by decide) (by have : cSt t o ≤ G 14 o := nhw; omega) (by omega) qj, _, rfl, _, gd_to (okr kj 8), _, p160.1, _, gd_to (okr p160.2 5), _, rfl, _, gd_to o238, ?_⟩
      rw [show u.I (20 * 5 + 3) (H 160 (G 6 (32 * o + j))) = t.I 50 (32 * o + G 7 (32 * o + j)) from pf.2.2.2, show u.I (20 * 5 + 3) (H 238 x) = a from eb.1, nI_1]
      by_cases c1 : a < t.I 50 (32 * o + G 7 (32 * o + j))
      · refine ifT c1 ⟨okr p160.2 5, w_covers (okr p160.2 5) o239 (fun z => ifT rfl ?_) (fun z => ifF (by decide) ?_)⟩
        · refine ih (j + 1) u a (by omega) Ru fu eb (key.2 fun y => z ?_) P hP
          rw [pf.1, pf.2.1, pf.2.2.1, pf.2.2.2, ph.1, ph.2.1, ph.2.2.1, ph.2.2.2, em, pcov_m (by omega)]
          have y1 := y.1
          rw [em, e12] at y1
          refine ⟨by rw [y1.1], le m ?_ (by omega), y1.2⟩
          rw [← em, ← y1.1]
          exact ok
        · rw [pf.1, pf.2.1, pf.2.2.1, pf.2.2.2, ph.1, ph.2.1, ph.2.2.1, ph.2.2.2, em, pcov_m (by omega)] at z
          have bf : bit (nI f) := by rcases hf with rfl | rfl; exact Or.inl rfl; exact Or.inr rfl
          have ef : t.I 47 (32 * o + G 7 (32 * o + j)) = nI f := (fam_i ok.1 bf).1 z.1
          refine ⟨o238, w_copy o238 (okr p160.2 5) ?_⟩
          rw [pf.1, pf.2.1, pf.2.2.1, pf.2.2.2]
          have m1 := xr_eq z.2.2.1
          have m2 := xr_eq z.2.2.2
          rw [← em] at m1 m2
          rw [px_id px.1] at m1
          rw [px_id px.2] at m2
          obtain ⟨R2, F2, B2⟩ := put u _ _ (t.I 50 (32 * o + G 7 (32 * o + j))) Ru fu m1 m2 (cSpf u (H 238 x) (fam (t.I 47 (32 * o + G 7 (32 * o + j)))) (t.J 48 (32 * o + G 7 (32 * o + j))) (t.J 49 (32 * o + G 7 (32 * o + j))) (t.I 50 (32 * o + G 7 (32 * o + j)))) rfl rfl (fr.spf (by rw [fu.r k238]; decide)) (by rw [← ef]; exact cSpf_v)
          refine ih (j + 1) _ _ (by omega) R2 F2 B2 (key.1 ⟨⟨ef.trans e12.symm, ?_⟩, c1⟩) P hP
          rw [em]
          exact z.2.2
      · exact ifF c1 (ih (j + 1) u a (by omega) Ru fu eb (key.2 fun y => c1 y.2) P hP)
  -- the interfaces
  have ports : ∀ d p (u : cS) (a : Int32), p + d = cI t o → RR G H sa x u t → fr [18] [] [] s u → eBs u (H 238 x) t a → mxP (fun n => lgA t o n ∨ ∃ j', j' < 2 * p ∧ lgP t o j' n) a → ∀ P : Int32 → cS → Nat → Nat → Prop, (∀ (a3 : Int32) (s : cS) (kc ks : Nat), C_Rr_findLongestOwn_s2 sa (G 1 o) (some (H 239 x)) (some (H 238 x)) a3 s kc ks Q P → P a3 s kc ks) → P (nI p) u kc ks := by
    intro d
    induction d with
    | zero =>
      intro p u a hp Ru fu eb mx P hP
      have hq := Ru.q.1
      have k26 := (hq.rt ho).1.1
      have : p = cI t o := by omega
      subst this
      apply hP
      unfold C_Rr_findLongestOwn_s2
      refine ⟨_, gd_to (okr k26 9), ?_⟩
      rw [show u.I (20 * 9 + 5) (G 1 o) = nI (cI t o) from (hq.rt ho).2.2.1.2.2.1.trans (hM.r ho).2.2.2.2.2.2.2.2.2.1.n.1]
      refine ifF (nI_nlt (Nat.le_refl _) (by omega)) ?_
      unfold C_Rr_findLongestOwn_b84
      intro P' hP'
      refine stats (cSt t o) 0 u a (by omega) Ru fu eb (mx_cg mx fun n => ⟨?_, ?_⟩) P' hP'
      · rintro (h1 | h1 | ⟨j', z, -⟩)
        · exact Or.inl h1
        · exact Or.inr h1
        · exact absurd z (Nat.not_lt_zero _)
      · rintro (h1 | h1)
        · exact Or.inl h1
        · exact Or.inr (Or.inl h1)
    | succ d ih =>
      intro p u a hp Ru fu eb mx P hP
      have hp' : p < cI t o := by omega
      have hq := Ru.q.1
      have k26 := (hq.rt ho).1.1
      have hpo := hq.po ho hp'
      obtain ⟨⟨k8, q184, e80⟩, ad0, ad1, -⟩ := id hpo
      have r184 := hq.ty.r k26 184 139 4
      have hvi := (hM.r ho).i hp'
      have hcl := hvi.2.1
      have p80 := hq.ty.p k8 80 7
      rw [e80] at p80
      have i64 := (hq.link hcl).2.2.1.2.2.2.1
      have k7 := (hq.link hcl).1.1
      obtain ⟨o239, o238, ph⟩ := inv u Ru fu
      have ix : 2 * (4 * o + p) + f = 8 * o + (2 * p + f) := by omega
      have jd : (2 * p + f) / 2 = p := by omega
      have jm : (2 * p + f) % 2 = f := by omega
      have bf : bit (nI f) := by rcases hf with rfl | rfl; exact Or.inl rfl; exact Or.inr rfl
      have ra : RAd G u t (4 * o + p) f := by
        rcases hf with rfl | rfl
        · exact ad0
        · exact ad1
      have l78 : t.I 75 (8 * o + (2 * p + f)) = 1 → ∃ m, t.I 78 (8 * o + (2 * p + f)) = nI m ∧ m ≤ 128 ∧ lnOk (nI f) (nI m) := fun z => by
        obtain ⟨-, -, -, -, -, -, b2, b3, -⟩ := hvi
        rw [← ix] at z ⊢
        rcases hf with rfl | rfl
        · obtain ⟨m, em, -, hm'⟩ := b2 z
          exact ⟨m, em, by omega, Or.inl rfl, m, rfl, Nat.zero_le _, hm'⟩
        · obtain ⟨m, em, -, hm'⟩ := b3 z
          exact ⟨m, em, hm', Or.inr rfl, m, rfl, Nat.zero_le _, hm'⟩
      have b75 : bit (t.I 75 (8 * o + (2 * p + f))) := by
        obtain ⟨-, -, -, -, -, ⟨b0, b1⟩, -⟩ := hvi
        rw [← ix]
        rcases hf with rfl | rfl
        · exact b0
        · exact b1
      have other : ∀ j' n, j' < 2 * (p + 1) → ¬ j' < 2 * p → lgP t o j' n → j' = 2 * p + f := fun j' n h1 h2 h3 => by
        have h5 := h3.1.2.2.1
        rw [e12] at h5
        have := (nI_eq (show j' % 2 < 2 ^ 31 by omega) (show f < 2 ^ 31 by omega)).mp h5
        omega
      have key := mx_add (c := lgQ t o (2 * p + f)) (v := t.I 78 (8 * o + (2 * p + f))) (S' := fun n => lgA t o n ∨ ∃ j', j' < 2 * (p + 1) ∧ lgP t o j' n) mx (fun n => by
        constructor
        · rintro (h1 | ⟨k', h3, h4⟩)
          · exact Or.inl (Or.inl h1)
          · by_cases c : k' < 2 * p
            · exact Or.inl (Or.inr ⟨k', c, h4⟩)
            · have := other k' n h3 c h4
              subst this
              exact Or.inr h4
        · rintro ((h1 | ⟨k', h3, h4⟩) | h1)
          · exact Or.inl h1
          · exact Or.inr ⟨k', by omega, h4⟩
          · exact Or.inr ⟨2 * p + f, by omega, h1⟩) (fun z => by
        obtain ⟨m, em, hm', -⟩ := l78 (b75.resolve_left z.1)
        rw [em]
        exact nI_m1 hm')
      have skip : ¬ (lgQ t o (2 * p + f) ∧ a < t.I 78 (8 * o + (2 * p + f))) → P (nI p + 1) u kc ks := fun z => by
        rw [nI_1]
        exact ih (p + 1) u a (by omega) Ru fu eb (key.2 z) P hP
      apply hP
      unfold C_Rr_findLongestOwn_s2 C_Rr_findLongestOwn_b76
      refine ⟨_, gd_to (okr k26 9), ?_⟩
      rw [show u.I (20 * 9 + 5) (G 1 o) = nI (cI t o) from (hq.rt ho).2.2.1.2.2.1.trans (hM.r ho).2.2.2.2.2.2.2.2.2.1.n.1]
      refine ifT (nI_lt hp' (by omega)) ⟨_, gd_to (okr k26 9), _, r184.1, _, rd_Q r184.2 (by decide) (by omega) (by decide) q184, _, rfl, _, gd_to o239, _, rfl, okr k8 4, ?_⟩
      rw [show u.I (20 * 5 + 0) (H 239 x) = fam (nI f) from ph.1]
      refine w_adOf hf (okr k8 4) ?_
      rcases ra with ⟨z1, z2⟩ | ⟨z1, pa, z2, z3, z4⟩
      · rw [z2]
        refine ifT rfl (skip fun y => y.1.1 ?_)
        rw [← ix]
        exact z1
      rw [z2]
      rw [ix] at z1 z4
      refine ifF (by simp) ⟨_, gd_to (okr k26 9), _, r184.1, _, rd_Q r184.2 (by decide) (by omega) (by decide) q184, _, rfl, _, gd_to (okr k8 4), _, p80.1, _, gd_to (okr k7 3), ?_⟩
      rw [show u.I (20 * 3 + 4) (G 0 (t.I 71 (4 * o + p)).toNatClampNeg) = t.I 22 (t.I 71 (4 * o + p)).toNatClampNeg from i64]
      by_cases c0 : t.I 22 (t.I 71 (4 * o + p)).toNatClampNeg = 0
      · refine ifT c0 (skip fun y => ?_)
        have := y.1.2.1
        rw [jd] at this
        exact this c0
      obtain ⟨m, em, hm', lo⟩ := l78 z1
      have o5 := okr z3 5
      refine ifF c0 ⟨_, rfl, _, gd_to o5, _, rfl, _, gd_to o238, ?_⟩
      rw [show u.I (20 * 5 + 3) pa = t.I 78 (8 * o + (2 * p + f)) from z4.2.2.2, show u.I (20 * 5 + 3) (H 238 x) = a from eb.1]
      by_cases c1 : a < t.I 78 (8 * o + (2 * p + f))
      · refine ifT c1 ⟨o5, w_covers o5 o239 (fun z => ifT rfl ?_) (fun z => ifF (by decide) ?_)⟩
        · refine skip fun y => z ?_
          rw [z4.1, z4.2.1, z4.2.2.1, z4.2.2.2, ph.1, ph.2.1, ph.2.2.1, ph.2.2.2, em, pcov_m (by omega)]
          have y1 := y.1.2.2.2
          rw [em] at y1
          exact ⟨rfl, le m lo hm', y1⟩
        · rw [z4.1, z4.2.1, z4.2.2.1, z4.2.2.2, ph.1, ph.2.1, ph.2.2.1, ph.2.2.2, em, pcov_m (by omega)] at z
          refine ⟨o238, w_copy o238 o5 ⟨?_, w_drop ?_ ?_⟩⟩
          · exact okr (show ((cSpf u (H 238 x) _ _ _ _).K (H 238 x)).1 = 18 from fu.r k238) 5
          · exact okr (show ((cSpf u (H 238 x) _ _ _ _).K (H 238 x)).1 = 18 from fu.r k238) 5
          rw [z4.1, z4.2.1, z4.2.2.1, z4.2.2.2]
          have v := cSpf_v (s := u) (a := H 238 x) (a1 := fam (nI f)) (a2 := t.J 76 (8 * o + (2 * p + f))) (a3 := t.J 77 (8 * o + (2 * p + f))) (a4 := t.I 78 (8 * o + (2 * p + f)))
          have f1 : fr [18] [] [] u (cSpf u (H 238 x) (fam (nI f)) (t.J 76 (8 * o + (2 * p + f))) (t.J 77 (8 * o + (2 * p + f))) (t.I 78 (8 * o + (2 * p + f)))) := fr.spf (by rw [fu.r k238]; decide)
          have hK : (cSpf u (H 238 x) (fam (nI f)) (t.J 76 (8 * o + (2 * p + f))) (t.J 77 (8 * o + (2 * p + f))) (t.I 78 (8 * o + (2 * p + f)))).K = u.K := rfl
          have hP2 : (cSpf u (H 238 x) (fam (nI f)) (t.J 76 (8 * o + (2 * p + f))) (t.J 77 (8 * o + (2 * p + f))) (t.I 78 (8 * o + (2 * p + f)))).P = u.P := rfl
          generalize cSpf u (H 238 x) (fam (nI f)) (t.J 76 (8 * o + (2 * p + f))) (t.J 77 (8 * o + (2 * p + f))) (t.I 78 (8 * o + (2 * p + f))) = s1 at v f1 hK hP2 ⊢
          obtain ⟨v1, v2, v3, v4⟩ := v
          rw [v2, v3, v4]
          have ke : (s1.K (H 238 x)).1 = 18 := by rw [hK]; exact fu.r k238
          have m1 := xr_eq z.2.2.1
          have m2 := xr_eq z.2.2.2
          rw [← em] at m1 m2
          obtain ⟨R2, F2, B2⟩ := put u _ _ (t.I 78 (8 * o + (2 * p + f))) Ru fu m1 m2 (cSJ (cSJ s1 101 (H 238 x) (t.J 76 (8 * o + (2 * p + f)) &&& mskH (t.I 78 (8 * o + (2 * p + f))))) 102 (H 238 x) (t.J 77 (8 * o + (2 * p + f)) &&& mskL (t.I 78 (8 * o + (2 * p + f))))) hK hP2 (f1.tr ((fr.sj (by rw [ke]; decide)).tr (fr.sj (by show (s1.K (H 238 x)).1 ∈ _; rw [ke]; decide)))) ⟨v1, by rw [cSJ_g (by decide)]; exact cSJ_s, cSJ_s, v4⟩
          rw [nI_1]
          refine ih (p + 1) _ _ (by omega) R2 F2 B2 (key.1 ⟨⟨by rw [z1]; decide, by rw [jd]; exact c0, by rw [jm, e12], ?_⟩, c1⟩) P hP
          rw [em]
          exact z.2.2
      · exact ifF c1 (skip fun y => c1 y.2)
  unfold C_Rr_findLongestOwn C_Rr_findLongestOwn_b2
  intro P hP
  refine ports (cI t o) 0 s a (by omega) hR fr.rf hB (mx_cg hm fun n => ⟨?_, Or.inl⟩) P hP
  rintro (h1 | ⟨j', z, -⟩)
  · exact h1
  · exact absurd z (Nat.not_lt_zero _)
end Fl
