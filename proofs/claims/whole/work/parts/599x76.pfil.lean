/-! Lines: filter, both sides. -/
section Pf
variable {G H : Nat → Nat → Nat} {sa : Nat → Nat} {rd x kc ks : Nat} {s : cS} {t : moS} {l : List Int32} {ws : List (Nat × Nat)}
theorem m_isDec (h : LX G H sa x rd s t l ws) {i : Nat} (hi : i < ws.length) : M_isDecision t (nI i) = some (if wC l ws i = 1652373180 ∨ wC l ws i = 264585 then 1 else 0) := by
  unfold M_isDecision M_isDecision_b24
  rw [h.code hi]
  simp only [Option.bind_some]
  by_cases e : wC l ws i = 1652373180
  · rw [if_pos e, if_pos (Or.inl e)]
  · rw [if_neg e]
    by_cases e2 : wC l ws i = 264585
    · rw [if_pos e2, if_pos (Or.inr e2)]
    · rw [if_neg e2, if_neg (fun z => z.elim e e2)]
theorem P_filter (h : LX G H sa x rd s t l ws) (hkc : 64 ≤ kc) (hks : 1200 ≤ ks) : LO G H sa x s t kc ks (M_lineFilter t) (C_Re_filterLine sa rd s kc ks) := by
  have hn := h.nw
  have h6 := h.mv.nR
  by_cases n5 : ws.length = 5
  rotate_left
  · have n5' : ¬ nI ws.length = (5 : Int32) := fun z => n5 ((h.tot (n := 5) (by decide)).mp z)
    refine LO.no h 2 ?_ fun Q kq => ?_
    · unfold M_lineFilter
      rw [h.ww, if_neg n5']
    · unfold C_Re_filterLine
      refine ⟨_, gd_to h.or, ?_⟩
      rw [w_tot h]
      exact ifF n5' (kq s fo.rf)
  have n5' : nI ws.length = (5 : Int32) := by rw [n5]; rfl
  have hd : M_isDecision t 4 = _ := m_isDec h (i := 4) (by omega)
  by_cases cw : wC l ws 2 = 374 ∨ wC l ws 2 = 24860
  rotate_left
  · refine LO.no h 2 ?_ fun Q kq => ?_
    · unfold M_lineFilter
      rw [h.ww, if_pos n5', m_isWay h (by omega), if_neg cw]
      rfl
    · unfold C_Re_filterLine
      refine ⟨_, gd_to h.or, ?_⟩
      rw [w_tot h]
      exact ifT n5' ⟨h.or, w_isE h.rc h.tk (i := 2) 374 24860 (by omega) (by decide) (fun z => absurd z cw) (fun _ _ => ifT rfl (kq s fo.rf))⟩
  by_cases cd : wC l ws 4 = 1652373180 ∨ wC l ws 4 = 264585
  rotate_left
  · refine LO.no h 2 ?_ fun Q kq => ?_
    · unfold M_lineFilter
      rw [h.ww, if_pos n5', m_isWay h (by omega), if_pos cw]
      simp only [Option.bind_some]
      rw [if_neg (by decide), hd, if_neg cd]
      rfl
    · unfold C_Re_filterLine
      refine ⟨_, gd_to h.or, ?_⟩
      rw [w_tot h]
      exact ifT n5' ⟨h.or, w_isE h.rc h.tk (i := 2) 374 24860 (by omega) (by decide) (fun _ => ifF (by decide) ⟨h.or, w_isE h.rc h.tk (i := 4) 1652373180 264585 (by omega) (by decide) (fun z => absurd z cd) (fun _ _ => ifT rfl (kq s fo.rf))⟩) (fun z1 z2 => absurd cw (fun z => z.elim z1 z2))⟩
  have em : M_lineFilter t = if oI (nmF (t.J 38) (wM l ws 1) (cR t) 0) = -1 then some (3, t) else bn2 (M_isPrefixWord t 3) (fun x6 s5 => if x6 = 0 then some (5, s5) else Option.bind (M_code s5 2) (fun x7 => if x7 = 374 then M_lineFilter_b70 s5 (oI (nmF (t.J 38) (wM l ws 1) (cR t) 0)) 0 else M_lineFilter_b70 s5 (oI (nmF (t.J 38) (wM l ws 1) (cR t) 0)) 1)) := by
    unfold M_lineFilter
    rw [h.ww, if_pos n5', m_isWay h (by omega), if_pos cw]
    simp only [Option.bind_some]
    rw [if_neg (by decide), hd, if_pos cd]
    simp only [Option.bind_some]
    rw [if_neg (by decide), show M_name t 1 = some (wM l ws 1) from h.name (i := 1) (by omega)]
    simp only [Option.bind_some, m_routerNamed h.mv]
  have ec : ∀ Q : Int32 → cS → Nat → Nat → Prop, (if Option.map (G 1) (nmF (t.J 38) (wM l ws 1) (cR t) 0) = none then Q 3 s kc ks else C_Re_takePrefix sa rd (nI 3) 0 s kc ks (fun r5 sr5 cr5 dr5 => if r5 = 0 then Q 5 sr5 cr5 dr5 else ob (Option.map (G 1) (nmF (t.J 38) (wM l ws 1) (cR t) 0)) (fun b6 => ob (gP sr5 9 8 b6) (fun v7 => okO sr5 7 rd ∧ C_Re_is sa rd (nI 2) (some (sa 21)) sr5 cr5 dr5 (fun r8 sr8 cr8 dr8 => if r8 = 0 then C_Re_filterLine_b81 sa rd v7 1 sr8 cr8 dr8 Q else C_Re_filterLine_b81 sa rd v7 0 sr8 cr8 dr8 Q))))) → C_Re_filterLine sa rd s kc ks Q := by
    intro Q k
    unfold C_Re_filterLine
    refine ⟨_, gd_to h.or, ?_⟩
    rw [w_tot h]
    refine ifT n5' ⟨h.or, w_isE h.rc h.tk (i := 2) 374 24860 (by omega) (by decide) (fun _ => ifF (by decide) ⟨h.or, w_isE h.rc h.tk (i := 4) 1652373180 264585 (by omega) (by decide) (fun _ => ifF (by decide) ⟨h.or, w_routerNamed h.q h.mv h.rc (i := 1) (by omega) (by decide) ?_⟩) (fun z1 z2 => absurd cd (fun z => z.elim z1 z2))⟩) (fun z1 z2 => absurd cw (fun z => z.elim z1 z2))⟩
    by_cases e : Option.map (G 1) (nmF (t.J 38) (wM l ws 1) (cR t) 0) = none
    · rw [if_pos e] at k; exact ifT e k
    · rw [if_neg e] at k; exact ifF e ⟨h.or, k⟩
  cases er : nmF (t.J 38) (wM l ws 1) (cR t) 0 with
  | none =>
    rw [er] at em ec
    exact LO.no h 3 (em.trans (if_pos rfl)) fun Q kq => ec Q (by rw [if_pos (show Option.map (G 1) none = none from rfl)]; exact kq s fo.rf)
  | some r =>
    have hr : r < cR t := by have := nmF_s er; omega
    rw [er, if_neg (oI_n1 r (by omega)), show oI (some r) = nI r from rfl] at em
    rw [er] at ec
    have ec : ∀ Q : Int32 → cS → Nat → Nat → Prop, C_Re_takePrefix sa rd (nI 3) 0 s kc ks (fun r5 sr5 cr5 dr5 => if r5 = 0 then Q 5 sr5 cr5 dr5 else ob (some (G 1 r)) (fun b6 => ob (gP sr5 9 8 b6) (fun v7 => okO sr5 7 rd ∧ C_Re_is sa rd (nI 2) (some (sa 21)) sr5 cr5 dr5 (fun r8 sr8 cr8 dr8 => if r8 = 0 then C_Re_filterLine_b81 sa rd v7 1 sr8 cr8 dr8 Q else C_Re_filterLine_b81 sa rd v7 0 sr8 cr8 dr8 Q)))) → C_Re_filterLine sa rd s kc ks Q := fun Q k => ec Q (by rw [if_neg (show ¬ Option.map (G 1) (some r) = none by simp)]; exact k)
    rcases px_both (kc := kc) (ks := ks) h (i := 3) (by omega) (by decide) with ⟨t1, e1, m1, c1⟩ | ⟨t1, f, a, b, m, e1, m1, hP, hm, c1⟩
    · refine LO.pf h m1 5 ?_ fun Q kq => ec Q (c1 _ fun s1 f1 => ifT rfl (kq s1 f1))
      rw [em, show M_isPrefixWord t 3 = some (0, t1) from e1]
      rfl
    have L1 := lx_fm h fp.rf m1
    have hr1 : r < cR t1 := by unfold cR; rw [m1.S 37 (by decide)]; exact hr
    have N1 := L1.mv.n
    obtain ⟨w, hw, ew⟩ : ∃ w, w < 2 ∧ (wC l ws 2 = 374 ∧ w = 0 ∨ wC l ws 2 ≠ 374 ∧ w = 1) := by
      by_cases e : wC l ws 2 = 374
      · exact ⟨0, by decide, Or.inl ⟨e, rfl⟩⟩
      · exact ⟨1, by decide, Or.inr ⟨e, rfl⟩⟩
    have em : M_lineFilter t = M_lineFilter_b70 t1 (nI r) (nI w) := by
      rw [em, show M_isPrefixWord t 3 = some (1, t1) from e1]
      unfold bn2
      simp only [Option.bind_some]
      rw [if_neg (show ¬ (1 : Int32) = 0 by decide), show M_code t1 2 = some (wC l ws 2) from L1.code (i := 2) (by omega)]
      simp only [Option.bind_some]
      rcases ew with ⟨e, rfl⟩ | ⟨e, rfl⟩
      · rw [if_pos e]; rfl
      · rw [if_neg e]; rfl
    obtain ⟨g53, -⟩ := (L1.mv.r hr1).2.2.2.2.2.1 w hw
    have e53 : t1.I 53 (2 * r + w) = nI (t1.I 53 (2 * r + w)).toNatClampNeg := g53.n.1
    have h53 : (t1.I 53 (2 * r + w)).toNatClampNeg ≤ 32 := g53.n.2.2
    generalize ek : (t1.I 53 (2 * r + w)).toNatClampNeg = k at e53 h53
    obtain ⟨pm, hpm, epm⟩ : ∃ pm : Int32, bit pm ∧ (wC l ws 4 = 1652373180 ∧ pm = 1 ∨ wC l ws 4 ≠ 1652373180 ∧ pm = 0) := by
      by_cases e : wC l ws 4 = 1652373180
      · exact ⟨1, Or.inr rfl, Or.inl ⟨e, rfl⟩⟩
      · exact ⟨0, Or.inl rfl, Or.inr ⟨e, rfl⟩⟩
    have em3 : M_lineFilter t = (if nI k = (32 : Int32) then some (6, t1) else some (0, mFi t1 r w k f (nI m) pm a b)) := by
      rw [em]
      unfold M_lineFilter_b70 M_lineFilter_b186
      rw [show (2 : Int32) = nI 2 from rfl, pk_mul, nI_add, rdI_n (N1.n 53 12) (show 2 * r + w < 12 by omega) (by decide), e53]
      simp only [Option.bind_some]
      by_cases c4 : nI k = (32 : Int32)
      · rw [if_pos c4, if_pos c4]
      · have hk : k < 32 := by
          have : k ≠ 32 := fun z => c4 (by rw [z]; rfl)
          omega
        have mi : mfr [53, 54, 55, 56, 57] t1 (moSI (moSJ (moSJ (moSI (moSI t1 53 (2 * r + w) (nI (k + 1))) 54 (64 * r + 32 * w + k) (t1.S 12)) 55 (64 * r + 32 * w + k) (t1.Z 13)) 56 (64 * r + 32 * w + k) (t1.Z 14)) 57 (64 * r + 32 * w + k) (t1.S 15)) := ((((mfr.si (by decide)).tr (mfr.si (by decide))).tr (mfr.sj (by decide))).tr (mfr.sj (by decide))).tr (mfr.si (by decide))
        have w1 : ∀ v, wrI t1 53 (nI (2 * r + w)) v = some (moSI t1 53 (2 * r + w) v) := fun v => wrI_n (N1.n 53 12) (by omega) (by decide)
        have w2 : ∀ u v, wrI (moSI t1 53 (2 * r + w) u) 54 (nI (64 * r + 32 * w + k)) v = some (moSI (moSI t1 53 (2 * r + w) u) 54 (64 * r + 32 * w + k) v) := fun u v => wrI_n (n := 384) (N1.n 54 384) (by omega) (by decide)
        have w3 : ∀ u v y, wrJ (moSI (moSI t1 53 (2 * r + w) u) 54 (64 * r + 32 * w + k) v) 55 (nI (64 * r + 32 * w + k)) y = some (moSJ (moSI (moSI t1 53 (2 * r + w) u) 54 (64 * r + 32 * w + k) v) 55 (64 * r + 32 * w + k) y) := fun u v y => wrJ_n (n := 384) (N1.n 55 384) (by omega) (by decide)
        have w4 : ∀ u v y z, wrJ (moSJ (moSI (moSI t1 53 (2 * r + w) u) 54 (64 * r + 32 * w + k) v) 55 (64 * r + 32 * w + k) y) 56 (nI (64 * r + 32 * w + k)) z = some (moSJ (moSJ (moSI (moSI t1 53 (2 * r + w) u) 54 (64 * r + 32 * w + k) v) 55 (64 * r + 32 * w + k) y) 56 (64 * r + 32 * w + k) z) := fun u v y z => wrJ_n (n := 384) (N1.n 56 384) (by omega) (by decide)
        have w5 : ∀ u v y z v2, wrI (moSJ (moSJ (moSI (moSI t1 53 (2 * r + w) u) 54 (64 * r + 32 * w + k) v) 55 (64 * r + 32 * w + k) y) 56 (64 * r + 32 * w + k) z) 57 (nI (64 * r + 32 * w + k)) v2 = some (moSI (moSJ (moSJ (moSI (moSI t1 53 (2 * r + w) u) 54 (64 * r + 32 * w + k) v) 55 (64 * r + 32 * w + k) y) 56 (64 * r + 32 * w + k) z) 57 (64 * r + 32 * w + k) v2) := fun u v y z v2 => wrI_n (n := 384) (N1.n 57 384) (by omega) (by decide)
        have w6 : ∀ v2, wrZ (moSI (moSJ (moSJ (moSI (moSI t1 53 (2 * r + w) (nI (k + 1))) 54 (64 * r + 32 * w + k) (t1.S 12)) 55 (64 * r + 32 * w + k) (t1.Z 13)) 56 (64 * r + 32 * w + k) (t1.Z 14)) 57 (64 * r + 32 * w + k) (t1.S 15)) 58 (nI (64 * r + 32 * w + k)) v2 = some (moSI (moSI (moSJ (moSJ (moSI (moSI t1 53 (2 * r + w) (nI (k + 1))) 54 (64 * r + 32 * w + k) (t1.S 12)) 55 (64 * r + 32 * w + k) (t1.Z 13)) 56 (64 * r + 32 * w + k) (t1.Z 14)) 57 (64 * r + 32 * w + k) (t1.S 15)) 58 (64 * r + 32 * w + k) (vp_nar .boolean v2)) := fun v2 => wrZ_n (n := 384) (N1.n 58 384) (by omega) (by decide)
        have cc : M_code (moSI (moSJ (moSJ (moSI (moSI t1 53 (2 * r + w) (nI (k + 1))) 54 (64 * r + 32 * w + k) (t1.S 12)) 55 (64 * r + 32 * w + k) (t1.Z 13)) 56 (64 * r + 32 * w + k) (t1.Z 14)) 57 (64 * r + 32 * w + k) (t1.S 15)) 4 = some (wC l ws 4) := (L1.wx.mf mi rfl).code (i := 4) (by omega)
        rw [if_neg c4, if_neg c4, nI_1, show (64 : Int32) = nI 64 from rfl, show (32 : Int32) = nI 32 from rfl, pk_mul, pk_mul, nI_add, nI_add]
        simp only [w1, Option.bind_some]
        rw [show (moSI t1 53 (2 * r + w) (nI (k + 1))).S 12 = t1.S 12 from rfl, w2]
        simp only [Option.bind_some]
        rw [show (moSI (moSI t1 53 (2 * r + w) (nI (k + 1))) 54 (64 * r + 32 * w + k) (t1.S 12)).Z 13 = t1.Z 13 from rfl, w3]
        simp only [Option.bind_some]
        rw [show (moSJ (moSI (moSI t1 53 (2 * r + w) (nI (k + 1))) 54 (64 * r + 32 * w + k) (t1.S 12)) 55 (64 * r + 32 * w + k) (t1.Z 13)).Z 14 = t1.Z 14 from rfl, w4]
        simp only [Option.bind_some]
        rw [show (moSJ (moSJ (moSI (moSI t1 53 (2 * r + w) (nI (k + 1))) 54 (64 * r + 32 * w + k) (t1.S 12)) 55 (64 * r + 32 * w + k) (t1.Z 13)) 56 (64 * r + 32 * w + k) (t1.Z 14)).S 15 = t1.S 15 from rfl, w5]
        simp only [Option.bind_some]
        rw [cc]
        simp only [Option.bind_some]
        obtain ⟨z1, -, z3, z4, z5, -⟩ := hP
        unfold mFi
        rcases epm with ⟨e, rfl⟩ | ⟨e, rfl⟩
        · rw [if_pos e, w6, z1, z3, z4, z5]; rfl
        · rw [if_neg e, w6, z1, z3, z4, z5]; rfl
    have cls : ∀ Q : Int32 → cS → Nat → Nat → Prop, (∀ s1, fp (H 146 rd) s s1 → PF s1 (H 146 rd) (fam f) a b (nI m) → ((k = 32 → Q 6 s1 kc ks) ∧ (k < 32 → C_Pl_add sa (G 5 (2 * r + w)) (some (H 146 rd)) pm (nI m) (-1) s1 kc ks (fun sr7 cr7 dr7 => Q 0 sr7 cr7 dr7)))) → C_Re_filterLine sa rd s kc ks Q := by
      intro Q kk
      refine ec Q (c1 _ fun s1 f1 hpf => ifF (by decide) ⟨_, rfl, ?_⟩)
      obtain ⟨k6, k0⟩ := kk s1 f1 hpf
      have L := lx_fm h f1 m1
      have hrt := L.q.rt hr1
      have o9 := okr hrt.1.1 9
      have p188 := L.q.ty.r hrt.1.1 188 143 2
      have hF : RFi G H s1 t1 r w := by
        obtain ⟨i1, i2, i3, i4, i5, i6, i7⟩ := L.q.2.2.2.2.2.1 r hr1
        rcases (show w = 0 ∨ w = 1 by omega) with e | e
        · rw [e]; exact i4
        · rw [e]; exact i5
      have hpl := L.q.ty.pf hF.1.1
      have hc : s1.I 125 (G 5 (2 * r + w)) = nI k := by
        have := hF.2.1
        rw [ek] at this
        exact this
      have b81 : ∀ u1 : Int32, u1 = nI w → C_Re_filterLine_b81 sa rd (some (H 188 (G 1 r))) u1 s1 kc ks Q := by
        intro u1 hu
        unfold C_Re_filterLine_b81
        rw [hu]
        refine ⟨_, rfl, _, gd_to ⟨by rw [p188.2]; decide, by rw [p188.2]; decide, by rw [p188.2]; exact vp_in_nI hw (by decide)⟩, ?_⟩
        rw [nI_clamp (by omega), hF.1.2]
        refine ⟨_, rfl, hpl.1, w_full hpl hc (by omega) (fun e => ifF (by decide) (k6 e)) (fun e => ifT rfl ⟨_, gd_to L.or, L.or, ?_⟩)⟩
        have y1 := L.px
        have fin : ∀ r6 : Int32, r6 = pm → ob (gP s1 7 6 rd) (fun v7 => ob v7 (fun b8 => ob (gI s1 5 3 b8) (fun v9 => okO s1 6 (G 5 (2 * r + w)) ∧ C_Pl_add sa (G 5 (2 * r + w)) (s1.P (20 * 7 + 6) rd) r6 v9 (-1) s1 kc ks (fun sr10 cr10 dr10 => Q 0 sr10 cr10 dr10)))) := by
          intro r6 h6'
          refine ⟨_, gd_to L.or, _, y1.1, _, gd_to y1.2.2.1, hpl.1, ?_⟩
          rw [h6', show s1.P (20 * 7 + 6) rd = some (H 146 rd) from y1.1, show s1.I (20 * 5 + 3) (H 146 rd) = nI m from hpf.2.2.2]
          exact k0 e
        refine w_isK L.rc L.tk (i := 4) 1652373180 (by omega) (by decide) (fun e4 => ?_) (fun e4 => ?_)
        · rcases epm with ⟨_, rfl⟩ | ⟨z, _⟩
          · exact fin 1 rfl
          · exact absurd e4 z
        · rcases epm with ⟨z, _⟩ | ⟨_, rfl⟩
          · exact absurd z e4
          · exact fin 0 rfl
      refine ⟨_, gd_to o9, L.or, ?_⟩
      rw [show s1.P (20 * 9 + 8) (G 1 r) = some (H 188 (G 1 r)) from p188.1]
      refine w_isK L.rc L.tk (i := 2) 374 (by omega) (by decide) (fun e2 => ifF (by decide) (b81 0 ?_)) (fun e2 => ifT rfl (b81 1 ?_))
      · rcases ew with ⟨_, rfl⟩ | ⟨z, _⟩
        · rfl
        · exact absurd e2 z
      · rcases ew with ⟨z, _⟩ | ⟨_, rfl⟩
        · exact absurd z e2
        · rfl
    by_cases hk : k = 32
    · rw [if_pos (by rw [hk]; rfl)] at em3
      exact LO.pf h m1 6 em3 fun Q kq => cls Q fun s1 f1 _ => ⟨fun _ => kq s1 f1, fun z => by omega⟩
    have hk32 : k < 32 := by omega
    rw [if_neg (show ¬ nI k = (32 : Int32) from fun z => hk ((nI_eq (b := 32) (by omega) (by decide)).mp z))] at em3
    refine ⟨0, _, em3, mv_fil L1.mv hr1 hw e53 hk32 hP.ln hpm, (m1.wk (by decide)).tr (mFi_e.1.wk (by decide)), fun Q kq => cls Q fun s1 f1 hpf => ⟨fun z => absurd z hk, fun _ => ?_⟩⟩
    have L := lx_fm h f1 m1
    have hF : RFi G H s1 t1 r w := by
      obtain ⟨i1, i2, i3, i4, i5, i6, i7⟩ := L.q.2.2.2.2.2.1 r hr1
      rcases (show w = 0 ∨ w = 1 by omega) with e | e
      · rw [e]; exact i4
      · rw [e]; exact i5
    have hc : s1.I 125 (G 5 (2 * r + w)) = nI k := by
      have := hF.2.1
      rw [ek] at this
      exact this
    refine w_plAdd (L.q.ty.pf hF.1.1) hc hk32 L.px.2.2.1 hpf hpm (by omega) (by omega) fun z sP hz hK ex hPF => ?_
    obtain ⟨R1, fx⟩ := rr_newP L.1 L.mv hz hK ex (Or.inr (Or.inr (Or.inr rfl)))
    obtain ⟨g1, g3⟩ := fil_rr (pm := pm) R1 L.mv hr1 hw e53 hk32 (by rw [hK]) hPF
    exact kq _ _ _ g1 ⟨((fp_cf h f1).tr fx.wk).tr g3.wk, by omega, by omega⟩
end Pf
