/-! Lines: static, both sides. -/
section Pt
variable {G H : Nat → Nat → Nat} {sa : Nat → Nat} {rd x kc ks : Nat} {s : cS} {t : moS} {l : List Int32} {ws : List (Nat × Nat)} {Os : Nat → List Pf}
theorem P_static (h : LX G H sa x rd s t l ws) (hE : EX Os t) (hO : ∀ r, (Os r).length < 760) (hkc : sm (pA G) (cR t) ≤ kc) (hks : sm (pB s G H) (cR t) ≤ ks) : LSt G H sa x s t kc ks Os (M_lineStatic t) (C_Re_staticLine sa rd s kc ks) := by
  have hn := h.nw
  have h6 := h.mv.nR
  by_cases n4 : ws.length < 4
  · refine LSt.no h hE mfr.rf 2 ?_ fun Q kq => ?_
    · unfold M_lineStatic
      rw [h.ww, if_pos (show nI _ < (4 : Int32) from nI_lt (b := 4) n4 (by decide))]
    · unfold C_Re_staticLine
      refine ⟨_, gd_to h.or, ?_⟩
      rw [w_tot h]
      exact ifT (nI_lt (b := 4) n4 (by decide)) (kq s s fo.rf fp.rf)
  have n4' : ¬ nI ws.length < (4 : Int32) := nI_nlt (b := 4) (by omega) (by omega)
  have ha : M_areOptions t 4 32047 0 0 0 0 0 = some (if ws.length = 4 ∨ ws.length = 4 + 2 ∧ wC l ws 4 = 32047 then 1 else 0) := m_tag h (f := 4) (by omega)
  -- the class up to the router
  have cls : ∀ Q : Int32 → cS → Nat → Nat → Prop, (¬ (ws.length = 4 ∨ ws.length = 4 + 2 ∧ wC l ws 4 = 32047) → ∀ s1, fo rd s s1 → Q 2 s1 kc ks) → (∀ s1 tg, fo rd s s1 → (ws.length = 4 ∧ tg = 0 ∨ ws.length = 4 + 2 ∧ wC l ws 4 = 32047 ∧ tg = 5) → s1.I 144 rd = nI tg → if (nmF (t.J 38) (wM l ws 1) (cR t) 0).map (G 1) = none then Q 3 s1 kc ks else C_Re_takePrefix sa rd (nI 2) 0 s1 kc ks (fun r4 sr4 cr4 dr4 => (if r4 = 0 then (Q (5 : Int32) sr4 cr4 dr4) else (okO sr4 7 rd ∧ C_Re_number sa rd (nI 3) (nI 1) (nI 15) sr4 cr4 dr4 (fun r5 sr5 cr5 dr5 => (ob (gI sr5 7 4 rd) (fun v6 => (if v6 = 0 then ((C_Re_staticLine_b73 sa rd ((nmF (t.J 38) (wM l ws 1) (cR t) 0).map (G 1)) r5 (0 : Int32) sr5 cr5 dr5 Q)) else (ob (gI sr5 7 4 rd) (fun v7 => (okO sr5 7 rd ∧ C_Re_number sa rd v7 (nI 0) (nI 65535) sr5 cr5 dr5 (fun r8 sr8 cr8 dr8 => ((C_Re_staticLine_b73 sa rd ((nmF (t.J 38) (wM l ws 1) (cR t) 0).map (G 1)) r5 r8 sr8 cr8 dr8 Q)))))))))))))) → C_Re_staticLine sa rd s kc ks Q := by
    intro Q k0 k1
    unfold C_Re_staticLine
    refine ⟨_, gd_to h.or, ?_⟩
    rw [w_tot h]
    have go : ∀ s1 tg, fo rd s s1 → (ws.length = 4 ∧ tg = 0 ∨ ws.length = 4 + 2 ∧ wC l ws 4 = 32047 ∧ tg = 5) → s1.I 144 rd = nI tg → okO s1 7 rd ∧ C_Re_routerNamed sa rd (1 : Int32) s1 kc ks (fun r3 sr3 cr3 dr3 => (if r3 = none then (Q (3 : Int32) sr3 cr3 dr3) else (okO sr3 7 rd ∧ C_Re_takePrefix sa rd (2 : Int32) (0 : Int32) sr3 cr3 dr3 (fun r4 sr4 cr4 dr4 => (if r4 = 0 then (Q (5 : Int32) sr4 cr4 dr4) else (okO sr4 7 rd ∧ C_Re_number sa rd (3 : Int32) (1 : Int32) (15 : Int32) sr4 cr4 dr4 (fun r5 sr5 cr5 dr5 => (ob (gI sr5 7 4 rd) (fun v6 => (if v6 = 0 then ((C_Re_staticLine_b73 sa rd r3 r5 (0 : Int32) sr5 cr5 dr5 Q)) else (ob (gI sr5 7 4 rd) (fun v7 => (okO sr5 7 rd ∧ C_Re_number sa rd v7 (0 : Int32) (65535 : Int32) sr5 cr5 dr5 (fun r8 sr8 cr8 dr8 => ((C_Re_staticLine_b73 sa rd r3 r5 r8 sr8 cr8 dr8 Q)))))))))))))))) := by
      intro s1 tg f1 ht hI
      have L := h.fo f1
      have q2 := k1 s1 tg f1 ht hI
      refine ⟨L.or, w_routerNamed L.q L.mv L.rc (i := 1) (by omega) (by decide) ?_⟩
      show if Option.map (G 1) (nmF (t.J 38) (wM l ws 1) (cR t) 0) = none then _ else _
      by_cases en : Option.map (G 1) (nmF (t.J 38) (wM l ws 1) (cR t) 0) = none
      · rw [if_pos en] at q2
        exact ifT en q2
      · rw [if_neg en] at q2
        exact ifF en ⟨L.or, q2⟩
    refine ifF n4' ⟨h.or, w_tag h (f := 4) (by decide) (fun e s1 f1 => ifT rfl (k0 e s1 f1)) (fun e s1 f1 hI => ifF (by decide) (go s1 0 f1 (Or.inl ⟨e, rfl⟩) hI)) (fun e e2 s1 f1 hI => ifF (by decide) (go s1 5 f1 (Or.inr ⟨e, e2, rfl⟩) hI))⟩
  by_cases sh : ws.length = 4 ∨ ws.length = 4 + 2 ∧ wC l ws 4 = 32047
  rotate_left
  · refine LSt.no h hE mfr.rf 2 ?_ fun Q kq => cls Q (fun _ s1 f1 => kq s1 s1 f1 fp.rf) (fun s1 tg f1 ht => absurd (ht.elim (fun z => Or.inl z.1) (fun z => Or.inr ⟨z.1, z.2.1⟩)) sh)
    unfold M_lineStatic
    rw [h.ww, if_neg n4', ha, if_neg sh]
    rfl
  rw [if_pos sh] at ha
  have em : M_lineStatic t = (if oI (nmF (t.J 38) (wM l ws 1) (cR t) 0) = ((-1) : Int32) then ((some ((3 : Int32), t))) else (bn2 (M_isPrefixWord t (2 : Int32)) (fun x5 s4 => (if x5 = 0 then ((some ((5 : Int32), s4))) else (Option.bind (M_option s4 (32047 : Int64) (4 : Int32)) (fun x6 => (Option.bind (M_isNumber s4 (3 : Int32) (1 : Int32) (15 : Int32)) (fun x7 => (if x7 = 0 then ((some ((4 : Int32), s4))) else (if 0 < x6 then (Option.bind (M_isNumber s4 x6 (0 : Int32) (65535 : Int32)) (fun x8 => (if x8 = 0 then ((some ((4 : Int32), s4))) else ((M_lineStatic_b91 s4 (oI (nmF (t.J 38) (wM l ws 1) (cR t) 0)) x6))))) else ((M_lineStatic_b91 s4 (oI (nmF (t.J 38) (wM l ws 1) (cR t) 0)) x6)))))))))))) := by
    unfold M_lineStatic
    rw [h.ww, if_neg n4', ha]
    simp only [Option.bind_some]
    rw [if_neg (by decide), show M_name t 1 = some (wM l ws 1) from h.name (i := 1) (by omega)]
    simp only [Option.bind_some, m_routerNamed h.mv]
  cases er : nmF (t.J 38) (wM l ws 1) (cR t) 0 with
  | none =>
    rw [er] at em cls
    rw [if_pos (show oI none = -1 from rfl)] at em
    exact LSt.no h hE mfr.rf 3 em fun Q kq => cls Q (fun z => absurd sh z) (fun s1 tg f1 _ _ => by rw [if_pos (show Option.map (G 1) none = none from rfl)]; exact kq s1 s1 f1 fp.rf)
  | some r =>
    have hr : r < cR t := by have := nmF_s er; omega
    rw [er] at em cls
    rw [if_neg (oI_n1 r (by omega))] at em
    have cls2 : ∀ Q : Int32 → cS → Nat → Nat → Prop, (∀ s1 tg, fo rd s s1 → (ws.length = 4 ∧ tg = 0 ∨ ws.length = 4 + 2 ∧ wC l ws 4 = 32047 ∧ tg = 5) → s1.I 144 rd = nI tg → C_Re_takePrefix sa rd (nI 2) 0 s1 kc ks (fun r4 sr4 cr4 dr4 => (if r4 = 0 then (Q (5 : Int32) sr4 cr4 dr4) else (okO sr4 7 rd ∧ C_Re_number sa rd (nI 3) (nI 1) (nI 15) sr4 cr4 dr4 (fun r5 sr5 cr5 dr5 => (ob (gI sr5 7 4 rd) (fun v6 => (if v6 = 0 then ((C_Re_staticLine_b73 sa rd (some (G 1 r)) r5 (0 : Int32) sr5 cr5 dr5 Q)) else (ob (gI sr5 7 4 rd) (fun v7 => (okO sr5 7 rd ∧ C_Re_number sa rd v7 (nI 0) (nI 65535) sr5 cr5 dr5 (fun r8 sr8 cr8 dr8 => ((C_Re_staticLine_b73 sa rd (some (G 1 r)) r5 r8 sr8 cr8 dr8 Q)))))))))))))) → C_Re_staticLine sa rd s kc ks Q := fun Q k => cls Q (fun z => absurd sh z) fun s1 tg f1 ht hI => by
      rw [if_neg (show ¬ Option.map (G 1) (some r) = none by simp)]
      exact k s1 tg f1 ht hI
    clear cls
    rcases px_both (kc := kc) (ks := ks) h (i := 2) (by omega) (by decide) with ⟨t1, e1, m1, -⟩ | ⟨t1, f, a, b, m, e1, m1, hP, hm, -⟩
    · refine LSt.no h hE m1 5 ?_ fun Q kq => cls2 Q fun s1 tg f1 _ _ => ?_
      · rw [em, show M_isPrefixWord t 2 = some (0, t1) from e1]
        rfl
      · rcases px_both (kc := kc) (ks := ks) (h.fo f1) (i := 2) (by omega) (by decide) with ⟨t2, -, -, c1⟩ | ⟨t2, f, a, b, m, e2, -⟩
        · exact c1 _ fun s2 f2 => ifT rfl (kq s1 s2 f1 f2)
        · rw [e1] at e2
          cases e2
    -- a prefix
    have L0 := lx_fm h fp.rf m1
    have hM1 := L0.mv
    have hE1 := hE.mf h.mv m1 hM1
    have hr1 : r < cR t1 := by unfold cR; rw [m1.S 37 (by decide)]; exact hr
    obtain ⟨i1, i0, i2, i3, i4, i5⟩ := id hP
    have hln : lnOk f (nI m) := ⟨i0, m, rfl, by omega, i5⟩
    have hpx : isPx a b (nI m) := mpre_px hm
    obtain ⟨tg, htg, hopt⟩ : ∃ tg, (ws.length = 4 ∧ tg = 0 ∨ ws.length = 4 + 2 ∧ wC l ws 4 = 32047 ∧ tg = 5) ∧ M_option t1 32047 4 = some (nI tg) := by
      rcases sh with e | ⟨e, e2⟩
      · exact ⟨0, Or.inl ⟨e, rfl⟩, m_tag4 L0 (f := 4) e⟩
      · exact ⟨5, Or.inr ⟨e, e2, rfl⟩, m_tag6 L0 (f := 4) e e2⟩
    have isn3 : M_isNumber t1 3 1 15 = some (if (nmR (wN l ws 3) 1 15).isSome then 1 else 0) := L0.isn (i := 3) (lo := 1) (hi := 15) (by omega) (by decide) (by decide)
    have em2 : M_lineStatic t = (if (if (nmR (wN l ws 3) 1 15).isSome then (1 : Int32) else 0) = 0 then ((some ((4 : Int32), t1))) else (if 0 < nI tg then (Option.bind (M_isNumber t1 (nI tg) (0 : Int32) (65535 : Int32)) (fun x8 => (if x8 = 0 then ((some ((4 : Int32), t1))) else ((M_lineStatic_b91 t1 (nI r) (nI tg)))))) else ((M_lineStatic_b91 t1 (nI r) (nI tg))))) := by
      rw [em, show M_isPrefixWord t 2 = some (1, t1) from e1, bn2_s, if_neg (by decide), hopt]
      simp only [Option.bind_some]
      rw [isn3]
      rfl
    -- the class from the prefix on
    have cls3 : ∀ Q : Int32 → cS → Nat → Nat → Prop, (∀ s1 s2, fo rd s s1 → fp (H 146 rd) s1 s2 → PF s2 (H 146 rd) (fam f) a b (nI m) → (if tg = 0 then C_Re_staticLine_b73 sa rd (some (G 1 r)) (oI (nmR (wN l ws 3) 1 15)) 0 s2 kc ks Q else C_Re_staticLine_b73 sa rd (some (G 1 r)) (oI (nmR (wN l ws 3) 1 15)) (oI (nmR (wN l ws 5) 0 65535)) s2 kc ks Q)) → C_Re_staticLine sa rd s kc ks Q := by
      intro Q k
      refine cls2 Q fun s1 tg' f1 ht' hI => ?_
      have etg : tg' = tg := by omega
      subst etg
      have L1 := h.fo f1
      rcases px_both (kc := kc) (ks := ks) L1 (i := 2) (by omega) (by decide) with ⟨t2, e2, -⟩ | ⟨t2, f', a', b', m', e2, m2, hP2, hm2, c1⟩
      · rw [e1] at e2
        cases e2
      · rw [e1] at e2
        cases e2
        obtain ⟨j1, -, j2, j3, j4, j5⟩ := hP2
        have ef : f' = f := by rw [← j1, i1]
        have ea : a' = a := by rw [← j2, i2]
        have eb : b' = b := by rw [← j3, i3]
        have enm : nI m' = nI m := by rw [← j4, i4]
        refine c1 _ fun s2 f2 hpf => ifF (by decide) ?_
        rw [ef, ea, eb, enm] at hpf
        have L2 := lx_fm L1 f2 m1
        have kk := k s1 s2 f1 f2 hpf
        have i144 : s2.I (20 * 7 + 4) rd = nI tg' := by
          have := (f2.2.2.2.2 144 rd (fun z => L1.px.2.2.2.2 z.symm)).1
          exact this.trans hI
        refine ⟨L2.or, w_number L2.rc (i := 3) (lo := 1) (hi := 15) (by decide) (by decide) (by decide) (fun _ _ => ?_) (fun z => absurd ⟨by omega, by decide⟩ z)⟩
        refine ⟨_, gd_to L2.or, ?_⟩
        rw [i144]
        by_cases c : tg' = 0
        · rw [if_pos c] at kk
          exact ifT (by rw [c]; rfl) kk
        · rw [if_neg c] at kk
          have e5 : tg' = 5 := by omega
          subst e5
          refine ifF (by decide) ⟨_, gd_to L2.or, L2.or, ?_⟩
          rw [i144]
          exact w_number L2.rc (i := 5) (lo := 0) (hi := 65535) (by decide) (by decide) (by decide) (fun _ _ => kk) (fun z => absurd ⟨by omega, by decide⟩ z)
    clear cls2
    -- the numbers
    have bad : ∀ (Q : Int32 → cS → Nat → Nat → Prop) s2 (u v : Int32), (u = -1 ∨ v = -1) → Q 4 s2 kc ks → C_Re_staticLine_b73 sa rd (some (G 1 r)) u v s2 kc ks Q := by
      intro Q s2 u v hu kq
      unfold C_Re_staticLine_b73
      by_cases c : u = -1
      · exact ifT c kq
      · exact ifF c (ifT (hu.resolve_left c) kq)
    cases e3 : nmR (wN l ws 3) 1 15 with
    | none =>
      rw [e3] at em2 cls3
      refine LSt.no h hE m1 4 (em2.trans (if_pos rfl)) fun Q kq => cls3 Q fun s1 s2 f1 f2 _ => ?_
      split
      · exact bad Q s2 _ _ (Or.inl rfl) (kq s1 s2 f1 f2)
      · exact bad Q s2 _ _ (Or.inl rfl) (kq s1 s2 f1 f2)
    | some mv =>
      obtain ⟨w3, lo3, hi3⟩ := nmR_i e3
      rw [e3] at em2 cls3
      rw [if_neg (show ¬ (if (some mv).isSome then (1 : Int32) else 0) = 0 from fun z => absurd (show (1 : Int32) = 0 from z) (by decide))] at em2
      have hn3 : ∀ t', mfr Wst t1 t' → M_number t' 3 = some (nI mv) := fun t' mt => by
        have := (L0.wx.mf mt rfl).num (i := 3) (by omega)
        rw [w3] at this
        exact this
      have rmm : rng (nI mv) 1 15 := ⟨mv, rfl, lo3, hi3⟩
      -- both told well
      have good : ∀ (tv : Nat), tv ≤ 65535 → (tg = 0 → tv = 0) → (tg = 5 → wN l ws 5 = some tv) → M_lineStatic t = M_lineStatic_b91 t1 (nI r) (nI tg) → (∀ Q : Int32 → cS → Nat → Nat → Prop, (∀ s1 s2, fo rd s s1 → fp (H 146 rd) s1 s2 → PF s2 (H 146 rd) (fam f) a b (nI m) → C_Re_staticLine_b73 sa rd (some (G 1 r)) (nI mv) (nI tv) s2 kc ks Q) → C_Re_staticLine sa rd s kc ks Q) → LSt G H sa x s t kc ks Os (M_lineStatic t) (C_Re_staticLine sa rd s kc ks) := by
        intro tv htv ht0 ht5 eM cl
        obtain ⟨c, t', q1, q2, q3, q4, q5⟩ := b73_both (rd := rd) (f := f) (h := a) (l := b) (n := nI m) (mm := nI mv) (tt := nI tv) (x6 := nI tg) L0.1 hM1 hE1 hr1 hln hpx (hO r) rmm ⟨tv, rfl, by omega, htv⟩ i1 i2 i3 i4 hn3 ⟨fun z t' mt => by
          have e5 : tg = 5 := by
            rcases htg with ⟨-, y⟩ | ⟨-, -, y⟩
            · rw [y] at z; exact absurd z (by decide)
            · exact y
          have := (L0.wx.mf mt rfl).num (i := 5) (by omega)
          rw [ht5 e5] at this
          rw [e5]
          exact this, fun z => by
          have e0 : tg = 0 := by
            rcases htg with ⟨-, y⟩ | ⟨-, -, y⟩
            · exact y
            · rw [y] at z; exact absurd (by decide) z
          rw [ht0 e0]; rfl⟩
        refine ⟨c, t', _, eM.trans q1, q2, q3, fun r' => ?_, (m1.wk (by decide)).tr (q4.wk (by decide)), fun Q kq => cl Q fun s1 s2 f1 f2 hpf => ?_⟩
        · split
          · rename_i e
            rw [e]
            exact Nat.le_refl _
          · omega
        · have L1 := h.fo f1
          have L2 := lx_fm L1 f2 m1
          refine q5 s2 (H 146 rd) kc ks L2.1 L2.or L2.px.1 L2.px.2.1 hpf (Nat.le_trans (sm_ge hr) hkc) ?_ Q (StK.ls h f1 f2 m1 hr kq)
          rw [pB_e (G := G) (H := H) (f2.1.trans f1.1) (f2.2.1.trans f1.2.1)]
          exact Nat.le_trans (sm_ge hr) hks
      rcases htg with ⟨l4, e0⟩ | ⟨l6, -, e5⟩
      · subst e0
        rw [if_neg (show ¬ (0 : Int32) < nI 0 by decide)] at em2
        exact good 0 (by omega) (fun _ => rfl) (fun z => absurd z (by decide)) em2 fun Q k => cls3 Q fun s1 s2 f1 f2 hpf => by
          rw [if_pos rfl]
          exact k s1 s2 f1 f2 hpf
      · subst e5
        have isn5 : M_isNumber t1 (nI 5) 0 65535 = some (if (nmR (wN l ws 5) 0 65535).isSome then 1 else 0) := L0.isn (i := 5) (lo := 0) (hi := 65535) (by omega) (by decide) (by decide)
        rw [if_pos (show (0 : Int32) < nI 5 by decide), isn5] at em2
        simp only [Option.bind_some] at em2
        cases e5 : nmR (wN l ws 5) 0 65535 with
        | none =>
          rw [e5] at em2 cls3
          refine LSt.no h hE m1 4 (em2.trans (if_pos rfl)) fun Q kq => cls3 Q fun s1 s2 f1 f2 _ => ?_
          rw [if_neg (by decide)]
          exact bad Q s2 _ _ (Or.inr rfl) (kq s1 s2 f1 f2)
        | some tv =>
          obtain ⟨w5, -, hi5⟩ := nmR_i e5
          rw [e5] at em2 cls3
          rw [if_neg (show ¬ (if (some tv).isSome then (1 : Int32) else 0) = 0 from fun z => absurd (show (1 : Int32) = 0 from z) (by decide))] at em2
          exact good tv hi5 (fun z => absurd z (by decide)) (fun _ => w5) em2 fun Q k => cls3 Q fun s1 s2 f1 f2 hpf => by
            rw [if_neg (by decide)]
            exact k s1 s2 f1 f2 hpf
end Pt
