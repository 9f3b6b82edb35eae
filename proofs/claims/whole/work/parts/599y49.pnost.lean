/-! Lines: nostatic, both sides. -/
section Pn
variable {G H : Nat → Nat → Nat} {sa : Nat → Nat} {rd x kc ks : Nat} {s : cS} {t : moS} {l : List Int32} {ws : List (Nat × Nat)} {Os : Nat → List Pf}
theorem P_nostatic (h : LX G H sa x rd s t l ws) (hE : EX Os t) (hO : ∀ r, (Os r).length < 760) (hkc : sm (pA G) (cR t) ≤ kc) (hks : sm (pB s G H) (cR t) ≤ ks) : LSt G H sa x s t kc ks Os (M_lineNostatic t) (C_Re_nostaticLine sa rd s kc ks) := by
  have hn := h.nw
  have h6 := h.mv.nR
  by_cases n3 : ws.length = 3
  rotate_left
  · have n3' : ¬ nI ws.length = (3 : Int32) := fun z => n3 ((h.tot (n := 3) (by decide)).mp z)
    refine LSt.no h hE mfr.rf 2 ?_ fun Q kq => ?_
    · unfold M_lineNostatic
      rw [h.ww, if_neg n3']
    · unfold C_Re_nostaticLine
      refine ⟨_, gd_to h.or, ?_⟩
      rw [w_tot h]
      exact ifF n3' (kq s s fo.rf fp.rf)
  have n3' : nI ws.length = (3 : Int32) := by rw [n3]; rfl
  have em : M_lineNostatic t = (if oI (nmF (t.J 38) (wM l ws 1) (cR t) 0) = ((-1) : Int32) then ((some ((3 : Int32), t))) else (bn2 (M_isPrefixWord t (2 : Int32)) (fun x4 s3 => (if x4 = 0 then ((some ((5 : Int32), s3))) else (Option.bind (M_staticOf s3 (oI (nmF (t.J 38) (wM l ws 1) (cR t) 0)) (moS.S s3 12) (moS.Z s3 13) (moS.Z s3 14) (moS.S s3 15)) (fun x5 => (if x5 = ((-1) : Int32) then ((some ((3 : Int32), s3))) else ((M_lineNostatic_b68 s3 (oI (nmF (t.J 38) (wM l ws 1) (cR t) 0)) x5))))))))) := by
    unfold M_lineNostatic
    rw [h.ww, if_pos n3', show M_name t 1 = some (wM l ws 1) from h.name (i := 1) (by omega)]
    simp only [Option.bind_some, m_routerNamed h.mv]
  have cls : ∀ Q : Int32 → cS → Nat → Nat → Prop, (if (nmF (t.J 38) (wM l ws 1) (cR t) 0).map (G 1) = none then Q 3 s kc ks else C_Re_takePrefix sa rd (nI 2) 0 s kc ks (fun r3 sr3 cr3 dr3 => (if r3 = 0 then (Q (5 : Int32) sr3 cr3 dr3) else (ob ((nmF (t.J 38) (wM l ws 1) (cR t) 0).map (G 1)) (fun b4 => (ob (gP sr3 9 7 b4) (fun v5 => (ob (gP sr3 7 6 rd) (fun v6 => (ob v5 (fun b7 => (okO sr3 10 b7 ∧ C_Ta_find sa b7 v6 sr3 cr3 dr3 (fun r8 sr8 cr8 dr8 => (if r8 = none then (Q (3 : Int32) sr8 cr8 dr8) else (ob (gP sr8 9 7 b4) (fun v9 => (ob (gP sr8 7 6 rd) (fun v10 => (ob v9 (fun b11 => (okO sr8 10 b11 ∧ C_Ta_removeOf sa b11 v10 sr8 cr8 dr8 (fun sr12 cr12 dr12 => (ob (gP sr12 7 6 rd) (fun v13 => (okO sr12 9 b4 ∧ C_Rr_settle sa b4 v13 sr12 cr12 dr12 (fun sr14 cr14 dr14 => (Q (0 : Int32) sr14 cr14 dr14))))))))))))))))))))))))))) → C_Re_nostaticLine sa rd s kc ks Q := by
    intro Q k
    unfold C_Re_nostaticLine
    refine ⟨_, gd_to h.or, ?_⟩
    rw [w_tot h]
    refine ifT n3' ⟨h.or, w_routerNamed h.q h.mv h.rc (i := 1) (by omega) (by decide) ?_⟩
    show if Option.map (G 1) (nmF (t.J 38) (wM l ws 1) (cR t) 0) = none then _ else _
    by_cases en : Option.map (G 1) (nmF (t.J 38) (wM l ws 1) (cR t) 0) = none
    · rw [if_pos en] at k
      exact ifT en k
    · rw [if_neg en] at k
      exact ifF en ⟨h.or, k⟩
  cases er : nmF (t.J 38) (wM l ws 1) (cR t) 0 with
  | none =>
    rw [er] at em cls
    rw [if_pos (show oI none = -1 from rfl)] at em
    exact LSt.no h hE mfr.rf 3 em fun Q kq => cls Q (by rw [if_pos (show Option.map (G 1) none = none from rfl)]; exact kq s s fo.rf fp.rf)
  | some r =>
    have hr : r < cR t := by have := nmF_s er; omega
    rw [er] at em cls
    rw [if_neg (oI_n1 r (by omega))] at em
    simp only [show ¬ Option.map (G 1) (some r) = none by simp, if_false] at cls
    rcases px_both (kc := kc) (ks := ks) h (i := 2) (by omega) (by decide) with ⟨t1, e1, m1, c1⟩ | ⟨t1, f, a, b, m, e1, m1, hP, hm, c1⟩
    · refine LSt.no h hE m1 5 ?_ fun Q kq => cls Q (c1 _ fun s2 f2 => ifT rfl (kq s s2 fo.rf f2))
      rw [em, show M_isPrefixWord t 2 = some (0, t1) from e1]
      rfl
    have L0 := lx_fm h fp.rf m1
    have hM1 := L0.mv
    have hE1 := hE.mf h.mv m1 hM1
    have hr1 : r < cR t1 := by unfold cR; rw [m1.S 37 (by decide)]; exact hr
    obtain ⟨i1, i0, i2, i3, i4, i5⟩ := id hP
    have hln : lnOk f (nI m) := ⟨i0, m, rfl, by omega, i5⟩
    have hpx : isPx a b (nI m) := mpre_px hm
    have em2 : M_lineNostatic t = Option.bind (M_staticOf t1 (nI r) f a b (nI m)) (fun x5 => (if x5 = ((-1) : Int32) then ((some ((3 : Int32), t1))) else ((M_lineNostatic_b68 t1 (nI r) x5)))) := by
      rw [em, show M_isPrefixWord t 2 = some (1, t1) from e1, bn2_s, if_neg (by decide), i1, i2, i3, i4]
      rfl
    -- the class up to the finding
    have cls2 : ∀ Q : Int32 → cS → Nat → Nat → Prop, (∀ s2, fp (H 146 rd) s s2 → PF s2 (H 146 rd) (fam f) a b (nI m) → ((∀ j, j < cSt t1 r → kyS t1 (32 * r + G 7 (32 * r + j)) ≠ kyV f a b (nI m)) → Q 3 s2 kc ks) ∧ ∀ j, j < cSt t1 r → kyS t1 (32 * r + G 7 (32 * r + j)) = kyV f a b (nI m) → C_Ta_removeOf sa (H 187 (G 1 r)) (some (H 146 rd)) s2 kc ks (fun sr12 cr12 dr12 => (ob (gP sr12 7 6 rd) (fun v13 => (okO sr12 9 (G 1 r) ∧ C_Rr_settle sa (G 1 r) v13 sr12 cr12 dr12 (fun sr14 cr14 dr14 => (Q (0 : Int32) sr14 cr14 dr14))))))) → C_Re_nostaticLine sa rd s kc ks Q := by
      intro Q k
      refine cls Q (c1 _ fun s2 f2 hpf => ifF (by decide) ?_)
      have L2 := lx_fm h f2 m1
      obtain ⟨k0, k1⟩ := k s2 f2 hpf
      have hq := L2.q
      have k26 := (hq.rt hr1).1.1
      have h187 := hq.ty.p k26 187 28
      obtain ⟨w, cap, ht, hK⟩ := tbo_s hq hM1 hr1
      obtain ⟨s1, -⟩ := st_both hq hM1 hr1
      have hpk := hpf.key
      refine ⟨G 1 r, rfl, _, gd_to (okr k26 9), _, gd_to L2.or, _, h187.1, okr h187.2 10, ?_⟩
      rw [show s2.P (20 * 7 + 6) rd = some (H 146 rd) from L2.px.1]
      refine w_find ht (hpf.ok hln L2.px.2.2.1) (fun z => ifT rfl (k0 fun j hj y => z j hj (by rw [hpk, ← y]; exact s1 j hj))) fun j hj z => ifF (by simp) ⟨_, gd_to (okr k26 9), _, gd_to L2.or, _, h187.1, okr h187.2 10, ?_⟩
      rw [show s2.P (20 * 7 + 6) rd = some (H 146 rd) from L2.px.1]
      refine k1 j hj ?_
      have z : cPk s2 (H 160 (G 6 (32 * r + j))) = cPk s2 (H 146 rd) := z
      rw [s1 j hj, hpk] at z
      exact z
    by_cases hx : ∃ j, j < cSt t1 r ∧ kyS t1 (32 * r + G 7 (32 * r + j)) = kyV f a b (nI m)
    · obtain ⟨j, hj, hk⟩ := hx
      obtain ⟨t', q1, q2, q3, q4, q5⟩ := rem_both (rd := rd) L0.1 hM1 hE1 hr1 hln hpx (hO r) hj hk
      have h32 := (hM1.st hr1).2
      have hG7 : G 7 (32 * r + j) < cSt t1 r := ((L0.q.st hr1).2.1 j hj).1
      refine ⟨0, t', Os, ?_, q2, q3, fun r' => by omega, (m1.wk (by decide)).tr (q4.wk (by decide)), fun Q kq => cls2 Q fun s2 f2 hpf => ⟨fun z => absurd hk (z j hj), fun j' hj' hk' => ?_⟩⟩
      · rw [em2, st_fnd L0.1 hM1 hr1 hln hj hk]
        simp only [Option.bind_some]
        rw [if_neg (nI_ne (by omega))]
        exact q1
      · have L2 := lx_fm h f2 m1
        refine q5 s2 (H 146 rd) kc ks L2.1 L2.or L2.px.1 L2.px.2.1 hpf (Nat.le_trans (sm_ge hr) hkc) ?_ Q (StK.ls h fo.rf f2 m1 hr kq)
        rw [pB_e (G := G) (H := H) f2.1 f2.2.1]
        exact Nat.le_trans (sm_ge hr) hks
    · have hno : ∀ j, j < cSt t1 r → kyS t1 (32 * r + G 7 (32 * r + j)) ≠ kyV f a b (nI m) := fun j hj z => hx ⟨j, hj, z⟩
      have hS : M_staticOf t1 (nI r) f a b (nI m) = some (-1) := by
        rcases m_static (h := a) (l := b) hM1 hr1 hln with ⟨-, e⟩ | ⟨k, h1, h2, -⟩
        · exact e
        · obtain ⟨j, j1, j2⟩ := (st_both L0.q hM1 hr1).2 k h1
          exact absurd (by rw [j2]; exact h2) (hno j j1)
      refine LSt.no h hE m1 3 ?_ fun Q kq => cls2 Q fun s2 f2 hpf => ⟨fun _ => kq s s2 fo.rf f2, fun j hj hk => absurd hk (hno j hj)⟩
      rw [em2, hS]
      simp only [Option.bind_some]
      exact if_pos trivial
end Pn
