/-! Lines link and router, in the one form. -/
section Ul
variable {G H : Nat → Nat → Nat} {sa : Nat → Nat} {rd x kc ks : Nat} {s : cS} {t t' s1 : moS} {l : List Int32} {ws : List (Nat × Nat)} {Os : Nat → List Pf} {B : Int32 → Prop}
/-- a link more, at most -/
def lkM (t t' : moS) : Prop := (∀ i, i ≠ cL t → t'.I 22 i = t.I 22 i) ∧ (t'.S 17 = t.S 17 ∨ t'.S 17 = t.S 17 + 1)
theorem aw_wz {k : Nat} {i v : Int32} : aw (wrZ t k i v) (fun z => (∀ j, j ≠ i.toNatClampNeg → z.I k j = t.I k j) ∧ z.S = t.S) := fun z e => by
  unfold wrZ at e
  split at e
  · cases e
  · cases e
    exact ⟨fun j hj => by rw [moSI_s, upd_n hj], rfl⟩
theorem lk198 (m : mfr [18, 19, 20, 21] t s1) {u1 u2 : Int32} : aw (M_lineLink_b198 s1 u1 u2) (fun z => lkM t z.2) := by
  unfold M_lineLink_b198
  refine aw_bind (aw_wrI (W := [18, 19, 20, 21]) (by decide) m) fun y hy => ?_
  refine aw_bind aw_wz fun y2 hy2 => ?_
  refine aw_some ⟨fun i hi => ?_, Or.inr ?_⟩
  · have := hy2.1 i (by rw [hy.S 17 (by decide)]; exact hi)
    rw [hy.I 22 (by decide)] at this
    exact this
  · show (moSS y2 17 (y2.S 17 + 1)).S 17 = _
    have : y2.S 17 = t.S 17 := by rw [hy2.2, hy.S 17 (by decide)]
    rw [← this, moSS_s]
theorem lk172 (m : mfr [18, 19, 20, 21] t s1) {a4 u1 u2 : Int32} : aw (M_lineLink_b172 s1 a4 u1 u2) (fun z => lkM t z.2) := by
  unfold M_lineLink_b172
  refine aw_bind (aw_wrI (W := [18, 19, 20, 21]) (by decide) m) fun y hy => ?_
  exact aw_if (aw_bind aw_t fun _ _ => lk198 hy) (lk198 hy)
theorem lkM.rf : lkM t t := ⟨fun _ _ => rfl, Or.inl rfl⟩
theorem lk115 {a1 : Int64} {a3 a4 : Int32} : aw (M_lineLink_b115 t a1 a3 a4) (fun z => lkM t z.2) := by
  unfold M_lineLink_b115
  refine aw_if (aw_some lkM.rf) (aw_bind (aw_wrJ (W := [18, 19, 20, 21]) (by decide) mfr.rf) fun y hy => aw_bind aw_t fun _ _ => aw_bind (aw_wrI (W := [18, 19, 20, 21]) (by decide) hy) fun y2 hy2 => ?_)
  exact aw_if (aw_bind aw_t fun _ _ => lk172 hy2) (lk172 hy2)
theorem lk94 {a1 : Int64} {a3 a4 : Int32} : aw (M_lineLink_b94 t a1 a3 a4) (fun z => lkM t z.2) := by
  unfold M_lineLink_b94
  exact aw_if (aw_bind aw_t fun _ _ => aw_if (aw_some lkM.rf) lk115) lk115
theorem lk_m : aw (M_lineLink t) (fun z => lkM t z.2) := by
  unfold M_lineLink
  refine aw_if (aw_some lkM.rf) (aw_bind aw_t fun _ _ => aw_if (aw_some lkM.rf) (aw_bind aw_t fun _ _ => aw_if (aw_some lkM.rf) (aw_bind aw_t fun _ _ => aw_if (aw_bind aw_t fun _ _ => aw_bind aw_t fun _ _ => aw_bind aw_t fun _ _ => aw_if (aw_some lkM.rf) (aw_if (aw_bind aw_t fun _ _ => aw_if (aw_some lkM.rf) lk94) lk94)) (aw_some lkM.rf))))
theorem U_link (h : LX G H sa x rd s t l ws) (hE : EX Os t) (hkc : 64 ≤ kc) (hks : 1200 ≤ ks) : LU G H sa x s t kc ks Os B (M_lineLink t) (C_Re_linkLine sa rd s kc ks) := (P_link h hkc hks).u h fun c t' e hM' => by
  have hM := h.mv
  obtain ⟨k1, k2⟩ := lk_m _ e
  have m : mfr [17, 18, 19, 20, 21, 22] t t' := fM_lineLink (W := [17, 18, 19, 20, 21, 22]) rfl mfr.rf _ e
  have eR : cR t' = cR t := by unfold cR; rw [m.S 37 (by decide)]
  refine ⟨hE.of hM hM' eR (fun r hr => ?_) (fun _ _ z => by rw [m.I 39 (by decide)] at z; exact z), by rw [eR]; exact Nat.le_refl _, ?_⟩
  · refine ⟨⟨?_, ?_, ?_⟩, fun k hk => ?_, fun p hp => ?_, fun y hy => ?_, fun g hg j hj => ?_, fun g hg j hj => ?_⟩
    · unfold cSt; rw [m.I 46 (by decide)]
    · unfold cI; rw [m.I 70 (by decide)]
    · unfold cN; rw [m.I 105 (by decide)]
    · rw [m.I 47 (by decide), m.J 48 (by decide), m.J 49 (by decide), m.I 50 (by decide), m.I 51 (by decide), m.I 52 (by decide)]
      exact ⟨rfl, rfl, rfl, rfl, rfl, rfl⟩
    · rw [m.I 71 (by decide), m.I 72 (by decide)]
      have := ((hM.r hr).i hp).2.1
      exact ⟨rfl, rfl, k1 _ (by omega)⟩
    · unfold eqA
      rw [m.I 75 (by decide), m.J 76 (by decide), m.J 77 (by decide), m.I 78 (by decide)]
      exact ⟨rfl, rfl, rfl, rfl⟩
    · rw [m.I g (by revert hg; revert g; decide)]
    · rw [m.J g (by revert hg; revert g; decide)]
  · have e17 := hM.1.2.2.2.2.2.1.n
    rcases k2 with z | z
    · unfold cL; rw [z]; exact Nat.le_refl _
    · have y : t.S 17 + 1 = nI (cL t + 1) := by rw [← nI_1]; exact congrArg (· + 1) e17.1
      show cL t ≤ (t'.S 17).toNatClampNeg
      rw [z, y, nI_clamp (by have : cL t ≤ 10 := e17.2.2; omega)]
      omega
theorem rt_m (h : LX G H sa x rd s t l ws) : (∃ c, M_lineRouter t = some (c, t)) ∨ cR t < 6 ∧ ∃ k, M_lineRouter t = some (0, mRt t (cR t) k) := by
  have hw := h.nw
  by_cases c2 : ws.length = 2
  rotate_left
  · have ne : ¬ nI ws.length = (2 : Int32) := fun z => c2 ((nI_eq (b := 2) (by omega) (by decide)).mp z)
    refine Or.inl ⟨2, ?_⟩
    unfold M_lineRouter
    rw [h.ww, if_neg ne]
  have e2 : nI ws.length = (2 : Int32) := by rw [c2]; rfl
  have em : M_lineRouter t = if wM l ws 1 = 0 then some (3, t) else if oI (nmF (t.J 38) (wM l ws 1) (cR t) 0) = -1 then (if (moS.S t 37) = (6 : Int32) then some ((6 : Int32), t) else (Option.bind (wrJ t 38 (moS.S t 37) (wM l ws 1)) (fun s3 => (Option.bind (wrZ s3 39 (moS.S t 37) (1 : Int32)) (fun s4 => (Option.bind (wrI s4 40 (moS.S t 37) (30 : Int32)) (fun s5 => (Option.bind (wrI s5 41 (moS.S t 37) (180 : Int32)) (fun s6 => (Option.bind (wrI s6 42 (moS.S t 37) (120 : Int32)) (fun s7 => (Option.bind (wrI s7 43 (moS.S t 37) ((moS.S s7 1) + (30 : Int32))) (fun s8 => (Option.bind (wrI s8 44 (moS.S t 37) ((-1) : Int32)) (fun s9 => ((M_lineRouter_b114 s9 (moS.S t 37) ((2 : Int32) * (moS.S t 37))))))))))))))))))) else some (3, t) := by
    unfold M_lineRouter
    rw [h.ww, if_pos e2, show M_name t 1 = some (wM l ws 1) from h.name (i := 1) (by omega)]
    simp only [Option.bind_some, m_routerNamed h.mv]
  have e37 : t.S 37 = nI (cR t) := h.mv.1.2.2.2.2.2.2.2.n.1
  have h6 := h.mv.nR
  by_cases c1 : wM l ws 1 = 0
  · exact Or.inl ⟨3, by rw [em, if_pos c1]⟩
  rw [if_neg c1] at em
  by_cases c3 : oI (nmF (t.J 38) (wM l ws 1) (cR t) 0) = -1
  rotate_left
  · exact Or.inl ⟨3, by rw [em, if_neg c3]⟩
  rw [if_pos c3] at em
  by_cases c6 : t.S 37 = 6
  · exact Or.inl ⟨6, by rw [em, if_pos c6]⟩
  have hn : cR t < 6 := by
    have : cR t ≠ 6 := fun z => c6 (by rw [e37, z]; rfl)
    omega
  rw [if_neg c6, m_rt h.mv rfl hn] at em
  exact Or.inr ⟨hn, _, em⟩
theorem U_router (h : LX G H sa x rd s t l ws) (hE : EX Os t) (hkc : 64 ≤ kc) (hks : 1200 ≤ ks) : LU G H sa x s t kc ks Os B (M_lineRouter t) (C_Re_routerLine sa rd s kc ks) := (P_router h hkc hks).u h fun c t' e hM' => by
  have hM := h.mv
  rcases rt_m h with ⟨c', e'⟩ | ⟨h6, k, e'⟩
  · rw [e] at e'
    cases e'
    exact ⟨hE, Nat.le_refl _, Nat.le_refl _⟩
  · rw [e] at e'
    cases e'
    obtain ⟨m, e37, -, e39, -⟩ := mRt_e (t := t) (n := cR t) (c := k)
    have eR : cR (mRt t (cR t) k) = cR t + 1 := by unfold cR; rw [e37, nI_clamp (by have : cR t < 6 := h6; omega)]
    refine ⟨fun r hr => ?_, by omega, by unfold cL; rw [m.S 17 (by decide)]; exact Nat.le_refl _⟩
    by_cases c : r = cR t
    · obtain ⟨⟨z46, -, -, -, -, z70, z105⟩, -⟩ := hM.2.2.2.2.2.2.2.1 r (by omega) (by omega)
      have y1 : cSt (mRt t (cR t) k) r = 0 := by unfold cSt; rw [m.I 46 (by decide), z46]; rfl
      have y2 : cI (mRt t (cR t) k) r = 0 := by unfold cI; rw [m.I 70 (by decide), z70]; rfl
      have y3 : cN (mRt t (cR t) k) r = 0 := by unfold cN; rw [m.I 105 (by decide), z105]; rfl
      refine ⟨⟨fun k hk => by omega, fun y hy => by omega, [], [], by decide, by decide, fun j hj => by omega⟩, fun _ => se_iff.mpr fun P hP => ?_, fun k hk => by omega⟩
      have v : Vt (mRt t (cR t) k) r P = none := Vt_none fun j hj => by omega
      have d : dF (mRt t (cR t) k) r P = none := by
        unfold dF
        rw [dif_neg]
        rintro ⟨q, hq⟩
        unfold isDu at hq
        rcases hq with ⟨p, hp, -⟩ | ⟨-, k', hk', -⟩
        · omega
        · omega
      rw [v, d]
      rfl
    · have hr' : r < cR t := by omega
      exact (hE r hr').of hM hM' hr' hr (sEq.m m rfl) (fun z => by rw [e39, if_neg c] at z; exact z)
end Ul
