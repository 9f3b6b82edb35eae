/-! An own route is told: the model alone; then where it is known what was told. -/
section Sw
variable {G H : Nat → Nat → Nat} {sa : Nat → Nat} {x rd r p kc ks k : Nat} {s : cS} {t : moS} {f n mm tt x6 : Int32} {h l : Int64} {Os : Nat → List Pf}
theorem mst_add (hM : MV t) (hE : EX Os t) (hr : r < cR t) (hf : lnOk f n) (hpx : isPx h l n) (hO : (Os r).length < 760) (hmm : rng mm 1 15) (htt : rng tt 0 65535) (h32 : cSt t r < 32) : ∃ t', M_settle (adM t r (cSt t r) f h l n mm tt) (nI r) = some t' ∧ MV t' ∧ EX (fun r' => if r' = r then (f, h, l, n) :: Os r else Os r') t' ∧ mfr (Wst ++ Wrow) t t' := by
  obtain ⟨⟨o1, -⟩, -, px⟩ := hE r hr
  obtain ⟨ct, e46, oI, oJ, v1, v2, v3, v4, v5, v6⟩ := ad_mod (f := f) (h := h) (l := l) (n' := n) (m := mm) (tg := tt) hM hr rfl h32
  have ec : cSt (adM t r (cSt t r) f h l n mm tt) r = cSt t r + 1 := by unfold cSt at e46 ⊢; rw [e46]; exact nI_clamp (by have : (t.I 46 r).toNatClampNeg < 32 := h32; omega)
  refine st_setM (O1 := (f, h, l, n) :: Os r) hM hr hE ?_ ct (fun k hk' => ?_) (fun P hP => List.mem_cons_of_mem _ hP) (by show (Os r).length + 1 ≤ 760; omega) fun k hk' => ?_
  · refine mv_st hM hr ct ⟨cSt t r + 1, e46, by omega, by omega⟩ fun k hk => ?_
    rw [ec] at hk
    by_cases z : k = cSt t r
    · rw [z, v1, v4, v5, v6]
      exact ⟨hf, hmm, htt⟩
    · rw [oI 47 (by decide) _ (by omega), oI 50 (by decide) _ (by omega), oI 51 (by decide) _ (by omega), oI 52 (by decide) _ (by omega)]
      exact hM.sl hr (by omega)
  · rw [ec] at hk'
    by_cases c : k = cSt t r
    · rw [c]
      unfold stP
      rw [v1, v2, v3, v4]
      simp
    · have := o1 k (by omega)
      unfold stP at this ⊢
      rw [oI 47 (by decide) _ (by omega), oI 50 (by decide) _ (by omega), oJ 48 (by decide) _ (by omega), oJ 49 (by decide) _ (by omega)]
      exact List.mem_cons_of_mem _ this
  · rw [ec] at hk'
    by_cases c : k = cSt t r
    · rw [c, v2, v3, v4]; exact hpx
    · rw [oI 50 (by decide) _ (by omega), oJ 48 (by decide) _ (by omega), oJ 49 (by decide) _ (by omega)]
      exact px k (by omega)
theorem mst_mod (P : Pf) (hM : MV t) (hE : EX Os t) (hr : r < cR t) (hO : (Os r).length < 760) (hmm : rng mm 1 15) (htt : rng tt 0 65535) (hk : k < cSt t r) : ∃ t', M_settle (moSI (moSI t 51 (32 * r + k) mm) 52 (32 * r + k) tt) (nI r) = some t' ∧ MV t' ∧ EX (fun r' => if r' = r then P :: Os r else Os r') t' ∧ mfr (Wst ++ Wrow) t t' := by
  have h32 := (hM.st hr).2
  obtain ⟨⟨o1, -⟩, -, px⟩ := hE r hr
  have tI : ∀ g y, (moSI (moSI t 51 (32 * r + k) mm) 52 (32 * r + k) tt).I g y = if g = 52 ∧ y = 32 * r + k then tt else if g = 51 ∧ y = 32 * r + k then mm else t.I g y := fun g y => by rw [evMI, evMI]
  have ct : stT r t (moSI (moSI t 51 (32 * r + k) mm) 52 (32 * r + k) tt) := by
    refine ⟨(mfr.si (by decide)).tr (mfr.si (by decide)), fun y _ => by rw [tI, if_neg (by omega), if_neg (by omega)], fun g hg y hy => by rw [tI, if_neg (by omega), if_neg (by omega)], fun _ _ _ _ => rfl⟩
  have tJ : (moSI (moSI t 51 (32 * r + k) mm) 52 (32 * r + k) tt).J = t.J := rfl
  have t46 : (moSI (moSI t 51 (32 * r + k) mm) 52 (32 * r + k) tt).I 46 r = t.I 46 r := by rw [tI, if_neg (by omega), if_neg (by omega)]
  have ec : cSt (moSI (moSI t 51 (32 * r + k) mm) 52 (32 * r + k) tt) r = cSt t r := by unfold cSt; rw [t46]
  refine st_setM (O1 := P :: Os r) hM hr hE ?_ ct (fun y hy => ?_) (fun P hP => List.mem_cons_of_mem _ hP) (by show (Os r).length + 1 ≤ 760; omega) fun y hy => ?_
  · refine mv_st hM hr ct (by rw [t46]; exact (hM.r hr).2.2.2.1) fun y hy => ?_
    rw [ec] at hy
    obtain ⟨q1, q2, q3⟩ := hM.sl hr hy
    rw [tI, if_neg (by omega), if_neg (by omega), tI, if_neg (by omega), if_neg (by omega), tI, if_neg (by omega), tI]
    refine ⟨q1, ?_, ?_⟩
    · by_cases c : 32 * r + y = 32 * r + k
      · rw [if_pos ⟨rfl, c⟩]; exact hmm
      · rw [if_neg (fun z => c z.2)]; exact q2
    · by_cases c : 32 * r + y = 32 * r + k
      · rw [if_pos ⟨rfl, c⟩]; exact htt
      · rw [if_neg (fun z => c z.2), if_neg (by omega)]; exact q3
  · rw [ec] at hy
    have := o1 y hy
    unfold stP at this ⊢
    rw [tI, if_neg (by omega), if_neg (by omega), tI, if_neg (by omega), if_neg (by omega), tJ]
    exact List.mem_cons_of_mem _ this
  · rw [ec] at hy
    rw [tI, if_neg (by omega), if_neg (by omega), tJ]
    exact px y hy
/-- the end of the line, on both sides; s0 is the class where the line began -/
theorem b73_both {s0 : cS} (hR0 : RR G H sa x s0 t) (hM : MV t) (hE : EX Os t) (hr : r < cR t) (hf : lnOk f n) (hpx : isPx h l n) (hO : (Os r).length < 760) (hmm : rng mm 1 15) (htt : rng tt 0 65535) (i1 : t.S 12 = f) (i2 : t.Z 13 = h) (i3 : t.Z 14 = l) (i4 : t.S 15 = n) (hn3 : ∀ t', mfr Wst t t' → M_number t' 3 = some mm) (hn6 : (0 < x6 → ∀ t', mfr Wst t t' → M_number t' x6 = some tt) ∧ (¬ 0 < x6 → tt = 0)) : ∃ c t', M_lineStatic_b91 t (nI r) x6 = some (c, t') ∧ MV t' ∧ EX (fun r' => if r' = r then (f, h, l, n) :: Os r else Os r') t' ∧ mfr (Wst ++ Wrow) t t' ∧ ∀ s p kc ks, RR G H sa x s t → okO s 7 rd → s.P 146 rd = some p → (s.K p).1 = 19 → PF s p (fam f) h l n → pA G r ≤ kc → pB s G H r ≤ ks → ∀ Q : Int32 → cS → Nat → Nat → Prop, StK G H sa x s r t' kc ks (Q c) → C_Re_staticLine_b73 sa rd (some (G 1 r)) mm tt s kc ks Q := by
  have h32 := (hM.st hr).2
  have nm : mm ≠ -1 := by obtain ⟨q, q1, -, q3⟩ := hmm; rw [q1]; exact nI_ne (by omega)
  have nt : tt ≠ -1 := by
    obtain ⟨q, q1, -, q3⟩ := htt
    rw [q1]
    intro z
    have h1 : ¬ nI q < 0 := nI_nlt (b := 0) (by omega) (by omega)
    rw [z] at h1
    exact h1 (by decide)
  -- the class up to the finding
  have cls : ∀ s p kc ks, RR G H sa x s t → okO s 7 rd → s.P 146 rd = some p → (s.K p).1 = 19 → PF s p (fam f) h l n → ∀ Q : Int32 → cS → Nat → Nat → Prop, ((∀ j, j < cSt t r → kyS t (32 * r + G 7 (32 * r + j)) ≠ kyV f h l n) → (if nI (cSt t r) < (32 : Int32) then C_Ta_add sa (H 187 (G 1 r)) (some p) tt mm s kc ks (fun r12 sr12 cr12 dr12 => C_Re_staticLine_b134 sa rd (some (G 1 r)) mm tt r12 sr12 cr12 dr12 Q) else Q 6 s kc ks)) → (∀ j, j < cSt t r → kyS t (32 * r + G 7 (32 * r + j)) = kyV f h l n → C_Re_staticLine_b134 sa rd (some (G 1 r)) mm tt (some (G 6 (32 * r + j))) s kc ks Q) → C_Re_staticLine_b73 sa rd (some (G 1 r)) mm tt s kc ks Q := by
    intro s p kc ks hR hor h146 kp hp Q k0 k1
    have hq := hR.q.1
    have k26 := (hq.rt hr).1.1
    have h187 := hq.ty.p k26 187 28
    obtain ⟨w, cap, ht, hK⟩ := tbo_s hq hM hr
    obtain ⟨s1, s2⟩ := st_both hq hM hr
    have hpk := hp.key
    unfold C_Re_staticLine_b73
    refine ifF nm (ifF nt ⟨G 1 r, rfl, _, gd_to (okr k26 9), _, gd_to hor, _, h187.1, okr h187.2 10, ?_⟩)
    rw [show s.P (20 * 7 + 6) rd = some p from h146]
    refine w_find ht (hp.ok hf (okr kp 5)) (fun z => ifT rfl ?_) fun j hj z => ifF (by simp) ?_
    · have := k0 fun j hj y => z j hj (by rw [hpk, ← y]; exact s1 j hj)
      refine ⟨_, gd_to (okr k26 9), _, h187.1, _, gd_to (okr h187.2 10), ?_⟩
      rw [show s.I (20 * 10 + 1) (H 187 (G 1 r)) = nI (cSt t r) from ht.2.2.1]
      by_cases c : nI (cSt t r) < (32 : Int32)
      · rw [if_pos c] at this
        refine ifT c ⟨_, gd_to (okr k26 9), _, gd_to hor, _, h187.1, okr h187.2 10, ?_⟩
        rw [show s.P (20 * 7 + 6) rd = some p from h146]
        exact this
      · rw [if_neg c] at this
        exact ifF c this
    · refine k1 j hj ?_
      have z : cPk s (H 160 (G 6 (32 * r + j))) = cPk s p := z
      rw [s1 j hj, hpk] at z
      exact z
  by_cases hx : ∃ j, j < cSt t r ∧ kyS t (32 * r + G 7 (32 * r + j)) = kyV f h l n
  · obtain ⟨j, hj, hk⟩ := hx
    have hG7 : G 7 (32 * r + j) < cSt t r := ((hR0.q.1.st hr).2.1 j hj).1
    obtain ⟨t', e1, e2, e3, e4⟩ := mst_mod (f, h, l, n) hM hE hr hO hmm htt hG7
    have em := m_stat_mod (x6 := x6) hM hr hG7 i1 i2 i3 i4 hn3 hn6 (st_fnd hR0 hM hr hf hj hk)
    rw [e1] at em
    refine ⟨0, t', em, e2, e3, e4, fun s p kc ks hR hor h146 kp hp hkc hks Q kk => cls s p kc ks hR hor h146 kp hp Q (fun z => absurd hk (z j hj)) fun j' hj' hk' => ?_⟩
    obtain ⟨t2, y1, -, -, -, y5⟩ := stat_mod hR hM hE hr hor h146 kp hf hpx hp hO hmm htt hkc hks hj' hk'
    have ej : G 7 (32 * r + j') = G 7 (32 * r + j) := by
      have a1 := st_fnd hR0 hM hr hf hj hk
      have a2 := st_fnd hR hM hr hf hj' hk'
      rw [a1] at a2
      have h6 := hM.nR
      have hG7' : G 7 (32 * r + j') < cSt t r := ((hR.q.1.st hr).2.1 j' hj').1
      have := nI_inj (Option.some.inj a2) (by omega) (by omega)
      omega
    rw [ej, e1] at y1
    cases y1
    exact y5 Q kk
  · have hno : ∀ j, j < cSt t r → kyS t (32 * r + G 7 (32 * r + j)) ≠ kyV f h l n := fun j hj z => hx ⟨j, hj, z⟩
    have hS : M_staticOf t (nI r) f h l n = some (-1) := by
      rcases m_static (h := h) (l := l) hM hr hf with ⟨-, e⟩ | ⟨k, h1, h2, -⟩
      · exact e
      · obtain ⟨j, j1, j2⟩ := (st_both hR0.q.1 hM hr).2 k h1
        exact absurd (by rw [j2]; exact h2) (hno j j1)
    by_cases hfull : cSt t r < 32
    · obtain ⟨t', e1, e2, e3, e4⟩ := mst_add hM hE hr hf hpx hO hmm htt hfull
      have em := m_stat_add (x6 := x6) hM hr hfull i1 i2 i3 i4 hn3 hn6 hS
      rw [e1] at em
      refine ⟨0, t', em, e2, e3, e4, fun s p kc ks hR hor h146 kp hp hkc hks Q kk => cls s p kc ks hR hor h146 kp hp Q (fun _ => ?_) fun j hj hk => absurd hk (hno j hj)⟩
      rw [if_pos (show nI (cSt t r) < (32 : Int32) from nI_lt (b := 32) hfull (by decide))]
      obtain ⟨t2, y1, -, -, -, y5⟩ := stat_add (f := f) (n := n) (h := h) (l := l) hR hM hE hr hor h146 kp hf hpx hp hO hmm htt hkc hks hfull fun j hj z => hno j hj (by
        rw [← z]; exact ((st_both hR.q.1 hM hr).1 j hj).symm)
      rw [e1] at y1
      cases y1
      exact y5 Q kk
    · have h6 := hM.nR
      have e32 : cSt t r = 32 := by omega
      refine ⟨6, t, ?_, hM, fun r' hr' => ?_, mfr.rf, fun s p kc ks hR hor h146 kp hp hkc hks Q kk => cls s p kc ks hR hor h146 kp hp Q (fun _ => ?_) fun j hj hk => absurd hk (hno j hj)⟩
      · unfold M_lineStatic_b91
        rw [i1, i2, i3, i4, hS]
        simp only [Option.bind_some]
        rw [if_pos trivial, rdI_n (n := 6) (hM.n.n 46 6) (by omega) (by decide), (hM.st hr).1, e32]
        rfl
      · show EXr (if r' = r then (f, h, l, n) :: Os r else Os r') t r'
        by_cases c : r' = r
        · rw [if_pos c, c]
          exact (hE r hr).mono fun P hP => List.mem_cons_of_mem _ hP
        · rw [if_neg c]; exact hE r' hr'
      · rw [if_neg (by rw [e32]; decide)]
        exact kk.no hR
end Sw
