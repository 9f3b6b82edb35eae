/-! Lines: distribute, offset: what they write. -/
section Po
variable {G H : Nat → Nat → Nat} {sa : Nat → Nat} {rd x kc ks : Nat} {s : cS} {t : moS} {l : List Int32} {ws : List (Nat × Nat)}
theorem RdC.se (h : RdC H x rd s l ws) {a i : Nat} {v : Int32} (ha : (s.K a).1 ≠ 101 ∧ (s.K a).1 ≠ 107 ∧ (s.K a).1 ≠ 108) : RdC H x rd (cSE s a i v) l ws := by
  obtain ⟨⟨cap, hb⟩, o, p, ⟨z1, z2⟩, ⟨y1, y2⟩, ⟨w1, w2⟩, w3⟩ := h
  refine ⟨⟨cap, ?_⟩, o, p, ⟨z1, z2⟩, ⟨y1, y2⟩, ⟨w1, fun j h1 h2 => ?_⟩, w3⟩
  · obtain ⟨c1, c2, d, c3, c4, c5, c6, c7, c8, c9⟩ := hb
    exact ⟨c1, c2, d, c3, c4, c5, c6, c7, c8, fun i hi => by rw [cSE_a (fun e => ha.1 (by rw [← e, c4]))]; exact c9 i hi⟩
  · rw [cSE_a (fun e => ha.2.1 (by rw [← e, z2])), cSE_a (fun e => ha.2.2 (by rw [← e, y2]))]
    exact w2 j h1 h2
/-- a row of policies that is not yet one -/
def nRow (G : Nat → Nat → Nat) (t : moS) (r k a : Nat) : Prop := r < cR t ∧ k < 8 ∧ (a = G 9 (8 * r + k) ∧ (t.I 59 r).toNatClampNeg ≤ k ∨ a = G 10 (8 * r + k) ∧ (t.I 63 r).toNatClampNeg ≤ k)
theorem LX.row (h : LX G H sa x rd s t l ws) {r k a i : Nat} {v : Int32} (ha : nRow G t r k a) : LX G H sa x rd (cSE s a i v) t l ws ∧ fr [100, 128] [] [] s (cSE s a i v) ∧ (s.K a = (100, 4) ∨ s.K a = (128, 4)) := by
  obtain ⟨hr, hk, ha⟩ := ha
  have hq := h.q
  have h6 := h.mv.nR
  have b := (hq.2.2.2.2.2.1 r hr).2.2.2.2.2.1.2.1 k hk
  have hK : s.K a = (100, 4) ∨ s.K a = (128, 4) := by
    rcases ha with ⟨rfl, _⟩ | ⟨rfl, _⟩
    · exact Or.inl b.2.1
    · exact Or.inr b.2.2.2
  have hK1 : (s.K a).1 = 100 ∨ (s.K a).1 = 128 := by
    rcases hK with e | e
    · exact Or.inl (by rw [e])
    · exact Or.inr (by rw [e])
  have f : fr [100, 128] [] [] s (cSE s a i v) := fr.se (by rcases hK1 with e | e <;> rw [e] <;> decide)
  refine ⟨?_, f, hK⟩
  obtain ⟨hR, hM, hp, hc, hw, hu⟩ := h
  have hg : RGl G H sa x (cSE s a i v) := hq.1.v rfl rfl f rfl rfl rfl
  refine ⟨rr_rt hR hM hg f.wk (fun _ _ => rfl) mfr.rf fun r' hr' => ?_, hM, hp, RdC.se hc (by rcases hK1 with e | e <;> rw [e] <;> decide), hw, hu⟩
  obtain ⟨i1, i2, i3, i4, i5, i6, i7⟩ := hq.2.2.2.2.2.1 r' hr'
  refine ⟨i1.fr hq.ty hq.1.1 f hg.2.2.1 (mfr.rf (W := [])) rfl rfl rfl rfl, ?_⟩
  have hv := hM.r hr'
  have h8 : (t.I 59 r').toNatClampNeg ≤ 8 ∧ (t.I 63 r').toNatClampNeg ≤ 8 := ⟨hv.2.2.2.2.2.2.1.1.n.2.2, hv.2.2.2.2.2.2.2.1.1.n.2.2⟩
  obtain ⟨c1, c2, c3, c4, c5⟩ := i6
  refine ⟨c1, c2, fun j hj => ?_, fun j hj => ?_, fun j hj => ?_⟩
  · rw [cSE_a (fun e => ?_)]
    · exact c3 j hj
    · rcases ha with ⟨rfl, hc⟩ | ⟨rfl, hc⟩
      · have := hq.2.1.2.2.2.2.2.2.2.2.1 (8 * r' + j) (8 * r + k) (by omega) (by omega) e
        have : r' = r := by omega
        subst this
        omega
      · have z := (c2 j (by omega)).2.1
        rw [e, b.2.2.2] at z
        exact absurd (congrArg Prod.fst z) (by decide)
  · rw [cSE_a (fun e => ?_)]
    · exact c4 j hj
    · rcases ha with ⟨rfl, hc⟩ | ⟨rfl, hc⟩
      · have z := (c2 j (by omega)).2.2.2
        rw [e, b.2.1] at z
        exact absurd (congrArg Prod.fst z) (by decide)
      · have := hq.2.1.2.2.2.2.2.2.2.2.2.1 (8 * r' + j) (8 * r + k) (by omega) (by omega) e
        have : r' = r := by omega
        subst this
        omega
  · have k1 := (hq.ty.r i1.1.1 193 121 2).2
    have k2 := (hq.ty.r i1.1.1 194 122 2).2
    rw [cSE_a (fun e => ?_), cSE_a (fun e => ?_)]
    · exact c5 j hj
    · rw [e] at k2
      rcases hK1 with z | z <;> rw [k2] at z <;> exact absurd z (by decide)
    · rw [e] at k1
      rcases hK1 with z | z <;> rw [k1] at z <;> exact absurd z (by decide)
/-- a policy is written into its row -/
theorem w_setPolicy {Q : cS → Nat → Nat → Prop} (h : LX G H sa x rd s t l ws) (hn : 5 ≤ ws.length) {r k a : Nat} (ha : nRow G t r k a) {p2 : Int32} (kq : LX G H sa x rd (cSE (cSE (cSE (cSE s a 0 (if wC l ws 2 = 374 then 0 else 1)) a 1 (oI (nmF (t.J 18) (wM l ws 3) (cL t) 0))) a 2 (oI (nmF (t.J 28) (wM l ws 4) (cS' t) 0))) a 3 p2) t l ws → fr [100, 128] [] [] s (cSE (cSE (cSE (cSE s a 0 (if wC l ws 2 = 374 then 0 else 1)) a 1 (oI (nmF (t.J 18) (wM l ws 3) (cL t) 0))) a 2 (oI (nmF (t.J 28) (wM l ws 4) (cS' t) 0))) a 3 p2) → Q (cSE (cSE (cSE (cSE s a 0 (if wC l ws 2 = 374 then 0 else 1)) a 1 (oI (nmF (t.J 18) (wM l ws 3) (cL t) 0))) a 2 (oI (nmF (t.J 28) (wM l ws 4) (cS' t) 0))) a 3 p2) kc ks) : C_Re_setPolicy sa rd (some a) p2 s kc ks Q := by
  have go : ∀ {st : cS} {i : Nat} {v : Int32} {f : cS → Prop}, LX G H sa x rd st t l ws → i < 4 → f (cSE st a i v) → ob (wEi st a (nI i) v) f := by
    intro st i v f L hi k
    have hK := (L.row (i := i) (v := v) ha).2.2
    have e : okA st .int a (nI i) := by
      unfold okA
      rcases hK with e | e <;> rw [e] <;> exact ⟨by decide, by decide, rfl, vp_in_nI hi (by decide)⟩
    refine ⟨_, gd_to e, ?_⟩
    rw [nI_clamp (by omega)]
    exact k
  have b18 : ∀ u2 : Int32, u2 = (if wC l ws 2 = 374 then 0 else 1) → C_Re_setPolicy_b18 sa rd (some a) p2 (some a) 0 u2 s kc ks Q := by
    intro u2 hu
    unfold C_Re_setPolicy_b18
    rw [hu]
    have r1 := h.row (i := 0) (v := if wC l ws 2 = 374 then 0 else 1) ha
    have r2 := r1.1.row (i := 1) (v := oI (nmF (t.J 18) (wM l ws 3) (cL t) 0)) ha
    have r3 := r2.1.row (i := 2) (v := oI (nmF (t.J 28) (wM l ws 4) (cS' t) 0)) ha
    have r4 := r3.1.row (i := 3) (v := p2) ha
    refine ⟨_, rfl, go (i := 0) h (by decide) ⟨r1.1.or, w_linkNamed r1.1.q r1.1.mv r1.1.rc (i := 3) (by omega) (by decide) ⟨_, rfl, go (i := 1) r1.1 (by decide) ⟨r2.1.or, w_listNamed r2.1.q r2.1.mv r2.1.rc (i := 4) (by omega) (by decide) (go (i := 2) r2.1 (by decide) (go (i := 3) r3.1 (by decide) (kq r4.1 (((r1.2.1.tr r2.2.1).tr r3.2.1).tr r4.2.1))))⟩⟩⟩⟩
  unfold C_Re_setPolicy
  refine ⟨h.or, w_isK h.rc h.tk (i := 2) 374 (by omega) (by decide) (fun e => ifF (by decide) (b18 0 (if_pos e).symm)) (fun e => ifT rfl (b18 1 (if_neg e).symm))⟩
theorem w_namesPolicy {Q : Int32 → cS → Nat → Nat → Prop} (h : LX G H sa x rd s t l ws) (hn : 5 ≤ ws.length) {r : Nat} (er : nmF (t.J 38) (wM l ws 1) (cR t) 0 = some r) (k1 : (wC l ws 3 = 37 ∨ (nmF (t.J 18) (wM l ws 3) (cL t) 0).isSome) → (nmF (t.J 28) (wM l ws 4) (cS' t) 0).isSome → Q 1 s kc ks) (k0 : ¬ ((wC l ws 3 = 37 ∨ (nmF (t.J 18) (wM l ws 3) (cL t) 0).isSome) ∧ (nmF (t.J 28) (wM l ws 4) (cS' t) 0).isSome) → Q 0 s kc ks) : C_Re_namesPolicy sa rd s kc ks Q := by
  have h8 : cS' t ≤ 8 := h.mv.1.2.2.2.2.2.2.1.n.2.2
  have h10 := h.mv.nL
  have b28 : (wC l ws 3 = 37 ∨ (nmF (t.J 18) (wM l ws 3) (cL t) 0).isSome) → C_Re_namesPolicy_b28 sa rd s kc ks Q := by
    intro hl
    unfold C_Re_namesPolicy_b28
    refine ⟨h.or, w_listNamed h.q h.mv h.rc (i := 4) (by omega) (by decide) ?_⟩
    show if oI (nmF (t.J 28) (wM l ws 4) (cS' t) 0) = -1 then _ else _
    cases e : nmF (t.J 28) (wM l ws 4) (cS' t) 0 with
    | none => exact ifT rfl (k0 (fun z => by rw [e] at z; cases z.2))
    | some i =>
      have := nmF_s e
      exact ifF (oI_n1 i (by omega)) (k1 hl (by rw [e]; rfl))
  unfold C_Re_namesPolicy
  refine ⟨h.or, w_routerNamed h.q h.mv h.rc (i := 1) (by omega) (by decide) ?_⟩
  show if Option.map (G 1) (nmF (t.J 38) (wM l ws 1) (cR t) 0) = none then _ else _
  rw [er]
  refine ifF (by simp) ⟨h.or, w_isK h.rc h.tk (i := 3) 37 (by omega) (by decide) (fun e => ifF (by decide) (b28 (Or.inl e))) (fun e => ifT rfl ⟨h.or, w_linkNamed h.q h.mv h.rc (i := 3) (by omega) (by decide) ?_⟩)⟩
  show if oI (nmF (t.J 18) (wM l ws 3) (cL t) 0) = -1 then _ else _
  cases e2 : nmF (t.J 18) (wM l ws 3) (cL t) 0 with
  | none => exact ifT rfl (k0 (fun z => by rw [e2] at z; exact z.1.elim e (fun z => by cases z)))
  | some i =>
    have := nmF_s e2
    exact ifF (oI_n1 i (by omega)) (b28 (Or.inr (by rw [e2]; rfl)))
/-- the model's link of a policy -/
theorem m_loa (h : LX G H sa x rd s t l ws) (hn : 4 ≤ ws.length) : M_linkOrAll t 3 = some (if wC l ws 3 = 37 ∨ (nmF (t.J 18) (wM l ws 3) (cL t) 0).isSome then oI (nmF (t.J 18) (wM l ws 3) (cL t) 0) else -2) := by
  have h10 := h.mv.nL
  unfold M_linkOrAll
  rw [show M_code t 3 = some (wC l ws 3) from h.code (i := 3) (by omega)]
  simp only [Option.bind_some]
  by_cases e : wC l ws 3 = 37
  · rw [if_pos e, if_pos (Or.inl e)]
    have em : wM l ws 3 = 0 := by
      unfold wM
      rw [← nm_of_cd (vc_lt l)]
      exact if_pos e
    rw [em]
    cases e2 : nmF (t.J 18) 0 (cL t) 0 with
    | none => rfl
    | some i =>
      have hi := nmF_s e2
      obtain ⟨nm, hnm⟩ := (h.mv.2.1 i (by omega)).2.2.2.2.2.2.2
      exact absurd hi.2.2 (nmL_n0 hnm)
  · rw [if_neg e, show M_name t 3 = some (wM l ws 3) from h.name (i := 3) (by omega)]
    simp only [Option.bind_some, m_linkNamed h.mv]
    cases e2 : nmF (t.J 18) (wM l ws 3) (cL t) 0 with
    | none => rw [if_pos (show oI none = -1 from rfl), if_neg (fun z => z.elim e (fun z => by cases z))]
    | some i =>
      have hi := nmF_s e2
      rw [if_neg (oI_n1 i (by omega)), if_pos (show wC l ws 3 = 37 ∨ (some i).isSome = true from Or.inr rfl)]
theorem nmF_link (hM : MV t) (c : Int64) : oI (nmF (t.J 18) c (cL t) 0) = -1 ∨ ∃ n, oI (nmF (t.J 18) c (cL t) 0) = nI n ∧ n < cL t := by
  cases e : nmF (t.J 18) c (cL t) 0 with
  | none => exact Or.inl rfl
  | some i => exact Or.inr ⟨i, rfl, by have := nmF_s e; omega⟩
end Po
