/-! Lines: list. -/
section Pt2
variable {G H : Nat → Nat → Nat} {sa : Nat → Nat} {rd x kc ks : Nat} {s : cS} {t : moS} {l : List Int32} {ws : List (Nat × Nat)}
theorem P_list (h : LX G H sa x rd s t l ws) (hc0 : wC l ws 0 = 783180) (hkc : 64 ≤ kc) (hks : 1200 ≤ ks) : LG G H sa x s t kc ks (M_lineList t) (C_Re_listLine sa rd s kc ks) := by
  have hn := h.nw
  have h8 : cS' t ≤ 8 := h.mv.1.2.2.2.2.2.2.1.n.2.2
  have no : ∀ r, M_lineList t = some (r, t) → (∀ Q : Int32 → cS → Nat → Nat → Prop, (∀ s1, fo rd s s1 → Q r s1 kc ks) → C_Re_listLine sa rd s kc ks Q) → LG G H sa x s t kc ks (M_lineList t) (C_Re_listLine sa rd s kc ks) := fun r e k => (LO.no h r e k).g
  cases ho : oP (wC l ws) 285 485 ws.length 4 with
  | none =>
    refine no 2 ?_ fun Q kq => ?_
    · unfold M_lineList
      rw [h.ww]
      by_cases c4 : ws.length < 4
      · rw [if_pos (show nI _ < (4 : Int32) from nI_lt (b := 4) c4 (by decide))]
      · rw [if_neg (show ¬ nI _ < (4 : Int32) from nI_nlt (b := 4) (by omega) (by omega)), show M_isDecision t 2 = _ from m_isDec h (i := 2) (by omega)]
        simp only [Option.bind_some]
        rw [show M_areOptions t 4 285 485 0 0 0 0 = _ from m_are2 h (f := 4) 285 485 (by omega) ⟨by decide, by decide, own_ge, Or.inr own_le⟩, if_neg (show ¬ (485 : Int64) = 0 by decide), ho]
        simp
    · unfold C_Re_listLine
      exact ⟨h.or, w_has2 h (f := 4) 285 485 (by decide) (by decide) (fun _ s1 f1 => ifT rfl (kq s1 f1)) (fun p q e => by rw [ho] at e; cases e)⟩
  | some pq =>
  obtain ⟨p, q⟩ := pq
  have hs := oP_s ho
  have hp5 : p < ws.length := by omega
  have hq5 : q < ws.length := by omega
  have mo := m_opt2 h (f := 4) 285 485 ⟨by decide, own_ge, own_le⟩ ho
  have c4 : ¬ nI ws.length < (4 : Int32) := nI_nlt (b := 4) (by omega) (by omega)
  have hd : M_isDecision t 2 = _ := m_isDec h (i := 2) (by omega)
  have ar : M_areOptions t 4 285 485 0 0 0 0 = some 1 := by
    have := m_are2 h (f := 4) 285 485 (by omega) ⟨by decide, by decide, own_ge, Or.inr own_le⟩
    rw [if_neg (show ¬ (485 : Int64) = 0 by decide), ho] at this
    exact this
  by_cases cd : wC l ws 2 = 1652373180 ∨ wC l ws 2 = 264585
  rotate_left
  · refine no 2 ?_ fun Q kq => ?_
    · unfold M_lineList
      rw [h.ww, if_neg c4, hd, if_neg cd]
      rfl
    · unfold C_Re_listLine
      refine ⟨h.or, w_has2 h (f := 4) 285 485 (by decide) (by decide) (fun e => by rw [ho] at e; cases e) (fun p' q' e s1 f1 _ _ => ifF (by decide) ?_)⟩
      have L := h.fo f1
      exact ⟨L.or, w_isE L.rc L.tk (i := 2) 1652373180 264585 (by omega) (by decide) (fun z => absurd z cd) (fun _ _ => ifT rfl (kq s1 f1))⟩
  -- the model up to the prefix
  have em : M_lineList t = if wM l ws 1 = 0 then some (3, t) else bn2 (M_isPrefixWord t 3) (fun x5 s4 => if x5 = 0 then some (5, s4) else Option.bind (M_option s4 285 4) (fun x6 => Option.bind (M_option s4 485 4) (fun x7 => if 0 < x6 then Option.bind (M_isNumber s4 x6 (s4.S 15) (M_bitsOf (s4.S 12))) (fun x8 => if x8 = 0 then some (4, s4) else M_lineList_b106 s4 (wM l ws 1) x6 x7 (M_bitsOf (s4.S 12))) else M_lineList_b106 s4 (wM l ws 1) x6 x7 (M_bitsOf (s4.S 12))))) := by
    unfold M_lineList
    rw [h.ww, if_neg c4, hd, if_pos cd]
    simp only [Option.bind_some]
    rw [if_neg (by decide), ar]
    simp only [Option.bind_some]
    rw [if_neg (by decide), show M_name t 1 = some (wM l ws 1) from h.name (i := 1) (by omega)]
    simp only [Option.bind_some]
  have ec : ∀ Q : Int32 → cS → Nat → Nat → Prop, (∀ s1, fo rd s s1 → s1.I 144 rd = nI p → s1.I 145 rd = nI q → ((wM l ws 1 = 0 → Q 3 s1 kc ks) ∧ (nmL (wU (vc l) (ws.getD 1 (0, 0)).1 ((ws.getD 1 (0, 0)).2 - (ws.getD 1 (0, 0)).1)) (wM l ws 1) → C_Re_takePrefix sa rd (nI 3) 0 s1 kc ks (fun r4 sr4 cr4 dr4 => (if r4 = 0 then (Q (5 : Int32) sr4 cr4 dr4) else (ob (gP sr4 7 6 rd) (fun v5 => (ob v5 (fun b6 => (ob (gI sr4 5 0 b6) (fun v7 => (C_Pr_bitsOf sa v7 sr4 cr4 dr4 (fun r8 sr8 cr8 dr8 => (ob (gI sr8 7 4 rd) (fun v9 => (ob (gP sr8 7 6 rd) (fun v10 => (ob v10 (fun b11 => (ob (gI sr8 5 3 b11) (fun v12 => (okO sr8 7 rd ∧ C_Re_number sa rd v9 v12 r8 sr8 cr8 dr8 (fun r13 sr13 cr13 dr13 => (ob (gI sr13 7 5 rd) (fun v14 => (ob (gP sr13 7 6 rd) (fun v15 => (ob v15 (fun b16 => (ob (gI sr13 5 3 b16) (fun v17 => (okO sr13 7 rd ∧ C_Re_number sa rd v14 v17 r8 sr13 cr13 dr13 (fun r18 sr18 cr18 dr18 => (ob (gI sr18 7 4 rd) (fun v19 => (if 0 < v19 then (if r13 = ((-1) : Int32) then (Q (4 : Int32) sr18 cr18 dr18) else ((C_Re_listLine_b108 sa rd r13 r18 sr18 cr18 dr18 Q))) else ((C_Re_listLine_b108 sa rd r13 r18 sr18 cr18 dr18 Q)))))))))))))))))))))))))))))))))))))) → C_Re_listLine sa rd s kc ks Q := by
    intro Q k
    unfold C_Re_listLine
    refine ⟨h.or, w_has2 h (f := 4) 285 485 (by decide) (by decide) (fun e => by rw [ho] at e; cases e) (fun p' q' e s1 f1 i4 i5 => ifF (by decide) ?_)⟩
    rw [ho] at e
    cases e
    have L := h.fo f1
    obtain ⟨k0, k1⟩ := k s1 f1 i4 i5
    refine ⟨L.or, w_isE L.rc L.tk (i := 2) 1652373180 264585 (by omega) (by decide) (fun _ => ifF (by decide) ⟨L.or, w_isName L.rc (i := 1) (by decide) (fun _ _ z1 z2 => ifF (by decide) ?_) (fun z => ifT rfl (k0 ?_))⟩) (fun z1 z2 => absurd cd (fun z => z.elim z1 z2))⟩
    · rcases wM_z h (i := 1) (by omega) with ⟨_, z⟩ | ⟨z, z3, z4⟩
      · exact absurd ⟨z1, z2⟩ z
      · exact ⟨L.or, k1 z⟩
    · rcases wM_z h (i := 1) (by omega) with ⟨z1, _⟩ | ⟨_, z3, z4⟩
      · exact z1
      · exact absurd ⟨by omega, by decide, z3, z4⟩ z
  rcases wM_z h (i := 1) (by omega) with ⟨z0, zn⟩ | ⟨znm, zl, za⟩
  · rw [if_pos z0] at em
    exact no 3 em fun Q kq => ec Q fun s1 f1 _ _ => ⟨fun _ => kq s1 f1, fun y => absurd z0 (nmL_n0 y)⟩
  rw [if_neg (nmL_n0 znm)] at em
  have wr : ∀ {s1 s2 : cS}, fo rd s s1 → fp (H 146 rd) s1 s2 → fr Rc Pc Qc s s2 := fun {s1 s2} f1 f2 => (fo_cf f1 h.2.2.1.2).tr (fp_cf (h.fo f1) f2)
  rcases px_both (kc := kc) (ks := ks) h (i := 3) (by omega) (by decide) with ⟨t1, e1, m1, -⟩ | ⟨t1, f, a, b, m, e1, m1, hP, hm, -⟩
  · refine ⟨5, t1, ?_, (lx_fm h fp.rf m1).mv, m1.wk (by decide), fun Q kq => ec Q fun s1 f1 _ _ => ⟨fun z => absurd z (nmL_n0 znm), fun _ => ?_⟩⟩
    · rw [em, show M_isPrefixWord t 3 = some (0, t1) from e1]
      rfl
    · have L := h.fo f1
      rcases px_both (kc := kc) (ks := ks) L (i := 3) (by omega) (by decide) with ⟨t2, e2, m2, c2⟩ | ⟨t2, f', a', b', m', e2, -⟩
      · refine c2 _ fun s2 f2 => ifT rfl (kq G H s2 kc ks (lx_fm L f2 m1).1 gA.rf hA.rf (wr f1 f2).wk (by omega) (by omega))
      · rw [e1] at e2; cases e2
  have L1 := lx_fm h fp.rf m1
  generalize hbits : (if f = 0 then 32 else 128 : Nat) = bits
  have hb128 : bits ≤ 128 := by
    rw [← hbits]
    split <;> decide
  have hmb : m ≤ bits := by rw [← hbits]; exact hP.2.2.2.2.2
  have ebits : M_bitsOf (t1.S 12) = nI bits := by
    rw [hP.1]
    unfold M_bitsOf
    rw [← hbits]
    rcases hP.2.1 with e | e <;> rw [e] <;> rfl
  have mo1 := m_opt2 L1 (f := 4) 285 485 ⟨by decide, own_ge, own_le⟩ ho
  have em : M_lineList t = if p ≠ 0 ∧ nmR (wN l ws p) m bits = none then some (4, t1) else M_lineList_b106 t1 (wM l ws 1) (nI p) (nI q) (nI bits) := by
    rw [em, show M_isPrefixWord t 3 = some (1, t1) from e1]
    unfold bn2
    simp only [Option.bind_some]
    rw [if_neg (show ¬ (1 : Int32) = 0 by decide), show M_option t1 285 4 = some (nI p) from mo1.1, show M_option t1 485 4 = some (nI q) from mo1.2, ebits, hP.2.2.2.2.1]
    simp only [Option.bind_some]
    by_cases p0 : p = 0
    · rw [if_neg (show ¬ (p ≠ 0 ∧ _) from fun z => z.1 p0), p0, if_neg (show ¬ (0 : Int32) < nI 0 by decide)]
    · rw [if_pos (show (0 : Int32) < nI p from nI_lt (a := 0) (by omega) (by omega)), show M_isNumber t1 (nI p) (nI m) (nI bits) = _ from L1.isn (i := p) (lo := m) (hi := bits) (by omega) (by omega) (by omega)]
      simp only [Option.bind_some]
      cases nmR (wN l ws p) m bits with
      | none => simp [p0]
      | some v => simp
  -- what the class has of the two numbers
  have w0 : wN l ws 0 = none := wN_k (k := 25) hc0
  generalize hgv : (if p = 0 then none else nmR (wN l ws p) m bits) = gv
  generalize hlv : (if q = 0 then none else nmR (wN l ws q) m bits) = lv
  have ec : ∀ Q : Int32 → cS → Nat → Nat → Prop, (∀ s1 s2, fo rd s s1 → fp (H 146 rd) s1 s2 → PF s2 (H 146 rd) (fam f) a b (nI m) → s2.I 144 rd = nI p → s2.I 145 rd = nI q → if p ≠ 0 ∧ gv = none then Q 4 s2 kc ks else if q ≠ 0 ∧ lv = none then Q 4 s2 kc ks else if (p ≠ 0 ∧ q ≠ 0) ∧ oI lv < oI gv then Q 4 s2 kc ks else C_Re_listLine_b141 sa rd (oI gv) (oI lv) s2 kc ks Q) → C_Re_listLine sa rd s kc ks Q := by
    intro Q k
    refine ec Q fun s1 f1 i4 i5 => ⟨fun z => absurd z (nmL_n0 znm), fun _ => ?_⟩
    have L := h.fo f1
    rcases px_both (kc := kc) (ks := ks) L (i := 3) (by omega) (by decide) with ⟨t2, e2, -⟩ | ⟨t2, f', a', b', m', e2, m2, hP', hm', c2⟩
    · rw [e1] at e2; cases e2
    rw [e1] at e2
    cases e2
    have ef : f' = f := hP'.1.symm.trans hP.1
    have ea : a' = a := hP'.2.2.1.symm.trans hP.2.2.1
    have eb : b' = b := hP'.2.2.2.1.symm.trans hP.2.2.2.1
    have emm : m' = m := (nI_eq (by have := hP'.2.2.2.2.2; have : (if f' = 0 then 32 else 128) ≤ 128 := by split <;> decide
                                    omega) (by omega)).mp (hP'.2.2.2.2.1.symm.trans hP.2.2.2.2.1)
    subst ef ea eb emm
    refine c2 _ fun s2 f2 hpf => ifF (by decide) ?_
    have k := k s1 s2 f1 f2 hpf
    have L2 := lx_fm L f2 m1
    obtain ⟨y1, y2, y3, y4, y5⟩ := L2.px
    have i4' : s2.I 144 rd = nI p := by rw [(f2.2.2.2.2 144 rd (fun e => y5 e.symm)).1]; exact i4
    have i5' : s2.I 145 rd = nI q := by rw [(f2.2.2.2.2 145 rd (fun e => y5 e.symm)).1]; exact i5
    have k := k i4' i5'
    refine ⟨_, gd_to L2.or, _, y1, _, gd_to y3, ?_⟩
    rw [show s2.I (20 * 5 + 0) (H 146 rd) = fam f' from hpf.1]
    have hb : C_Pr_bitsOf sa (fam f') s2 kc ks = fun Q => Q (nI bits) s2 kc ks := by
      funext Q'
      unfold C_Pr_bitsOf
      rw [← hbits]
      rcases hP'.2.1 with e | e <;> rw [e]
      · exact if_pos rfl
      · exact if_neg (by decide)
    show C_Pr_bitsOf sa (fam f') s2 kc ks _
    rw [hb]
    refine ⟨_, gd_to L2.or, _, gd_to L2.or, _, y1, _, gd_to y3, L2.or, ?_⟩
    rw [show s2.I (20 * 7 + 4) rd = nI p from i4', show s2.I (20 * 5 + 3) (H 146 rd) = nI m' from hpf.2.2.2]
    have num : ∀ w (wv : Option Nat), (w = 0 ∨ 4 < w ∧ w < ws.length) → (if w = 0 then none else nmR (wN l ws w) m' bits) = wv → ∀ Q' : Int32 → cS → Nat → Nat → Prop, Q' (oI wv) s2 kc ks → C_Re_number sa rd (nI w) (nI m') (nI bits) s2 kc ks Q' := by
      intro w wv hw hwv Q' kq
      refine w_number L2.rc (i := w) (lo := m') (hi := bits) (by omega) (by omega) (by omega) (fun _ _ => ?_) (fun z => absurd ⟨by omega, by omega⟩ z)
      show Q' (oI (nmR (wN l ws w) m' bits)) s2 kc ks
      by_cases w00 : w = 0
      · rw [w00, w0]
        rw [if_pos w00] at hwv
        rw [← hwv] at kq
        exact kq
      · rw [if_neg w00] at hwv
        rw [hwv]; exact kq
    refine num p gv hs.1 hgv _ ⟨_, gd_to L2.or, _, gd_to L2.or, _, y1, _, gd_to y3, L2.or, ?_⟩
    rw [show s2.I (20 * 7 + 5) rd = nI q from i5', show s2.I (20 * 5 + 3) (H 146 rd) = nI m' from hpf.2.2.2]
    refine num q lv hs.2.1 hlv _ ⟨_, gd_to L2.or, ?_⟩
    rw [show s2.I (20 * 7 + 4) rd = nI p from i4']
    have gn : ∀ {o : Option Nat} {w : Nat}, (if w = 0 then none else nmR (wN l ws w) m' bits) = o → (oI o = -1 ↔ o = none) := fun {o w} ho' => by
      cases o with
      | none => exact ⟨fun _ => rfl, fun _ => rfl⟩
      | some v =>
        by_cases w00 : w = 0
        · rw [if_pos w00] at ho'; cases ho'
        · rw [if_neg w00] at ho'
          have := nmR_i ho'
          exact ⟨fun z => absurd z (oI_n1 v (by omega)), fun z => by cases z⟩
    have b120 : ¬ (p ≠ 0 ∧ gv = none) → ¬ (q ≠ 0 ∧ lv = none) → C_Re_listLine_b120 sa rd (oI gv) (oI lv) s2 kc ks Q := by
      intro z1 z2
      rw [if_neg z1, if_neg z2] at k
      unfold C_Re_listLine_b120
      refine ⟨_, gd_to L2.or, ?_⟩
      rw [show s2.I (20 * 7 + 4) rd = nI p from i4']
      by_cases p0 : p = 0
      · rw [if_neg (fun z => z.1.1 p0)] at k
        exact ifF (by rw [p0]; decide) k
      refine ifT (show (0 : Int32) < nI p from nI_lt (a := 0) (by omega) (by omega)) ⟨_, gd_to L2.or, ?_⟩
      rw [show s2.I (20 * 7 + 5) rd = nI q from i5']
      by_cases q0 : q = 0
      · rw [if_neg (fun z => z.1.2 q0)] at k
        exact ifF (by rw [q0]; decide) k
      refine ifT (show (0 : Int32) < nI q from nI_lt (a := 0) (by omega) (by omega)) ?_
      by_cases c : oI lv < oI gv
      · rw [if_pos ⟨⟨p0, q0⟩, c⟩] at k; exact ifT c k
      · rw [if_neg (fun z => c z.2)] at k; exact ifF c k
    have b108 : ¬ (p ≠ 0 ∧ gv = none) → C_Re_listLine_b108 sa rd (oI gv) (oI lv) s2 kc ks Q := by
      intro z1
      unfold C_Re_listLine_b108
      refine ⟨_, gd_to L2.or, ?_⟩
      rw [show s2.I (20 * 7 + 5) rd = nI q from i5']
      by_cases q0 : q = 0
      · exact ifF (by rw [q0]; decide) (b120 z1 (fun z => z.1 q0))
      refine ifT (show (0 : Int32) < nI q from nI_lt (a := 0) (by omega) (by omega)) ?_
      by_cases c : lv = none
      · rw [if_neg z1, if_pos ⟨q0, c⟩] at k
        exact ifT ((gn hlv).mpr c) k
      · exact ifF (fun z => c ((gn hlv).mp z)) (b120 z1 (fun z => c z.2))
    by_cases p0 : p = 0
    · exact ifF (by rw [p0]; decide) (b108 (fun z => z.1 p0))
    refine ifT (show (0 : Int32) < nI p from nI_lt (a := 0) (by omega) (by omega)) ?_
    by_cases c : gv = none
    · rw [if_pos ⟨p0, c⟩] at k
      exact ifT ((gn hgv).mpr c) k
    · exact ifF (fun z => c ((gn hgv).mp z)) (b108 (fun z => c z.2))
  have fault : ∀ r, M_lineList t = some (r, t1) → (∀ Q : Int32 → cS → Nat → Nat → Prop, (∀ s1 s2, fo rd s s1 → fp (H 146 rd) s1 s2 → Q r s2 kc ks) → C_Re_listLine sa rd s kc ks Q) → LG G H sa x s t kc ks (M_lineList t) (C_Re_listLine sa rd s kc ks) := fun r e k => ⟨r, t1, e, L1.mv, m1.wk (by decide), fun Q kq => k Q fun s1 s2 f1 f2 => kq G H s2 kc ks (lx_fm (h.fo f1) f2 m1).1 gA.rf hA.rf (wr f1 f2).wk (by omega) (by omega)⟩
  by_cases pg : p ≠ 0 ∧ gv = none
  · have : nmR (wN l ws p) m bits = none := by rw [← pg.2, ← hgv, if_neg pg.1]
    rw [if_pos ⟨pg.1, this⟩] at em
    exact fault 4 em fun Q kq => ec Q fun s1 s2 f1 f2 _ _ _ => by rw [if_pos pg]; exact kq s1 s2 f1 f2
  rw [if_neg (fun z => pg ⟨z.1, by rw [← hgv, if_neg z.1]; exact z.2⟩)] at em
  have em : M_lineList t = if q ≠ 0 ∧ nmR (wN l ws q) m bits = none then some (4, t1) else M_lineList_b128 t1 (wM l ws 1) (nI p) (nI q) := by
    rw [em]
    unfold M_lineList_b106
    rw [hP.2.2.2.2.1]
    by_cases q0 : q = 0
    · rw [if_neg (show ¬ (q ≠ 0 ∧ _) from fun z => z.1 q0), q0, if_neg (show ¬ (0 : Int32) < nI 0 by decide)]
    · rw [if_pos (show (0 : Int32) < nI q from nI_lt (a := 0) (by omega) (by omega)), show M_isNumber t1 (nI q) (nI m) (nI bits) = _ from L1.isn (i := q) (lo := m) (hi := bits) (by omega) (by omega) (by omega)]
      simp only [Option.bind_some]
      cases nmR (wN l ws q) m bits with
      | none => simp [q0]
      | some v => simp
  by_cases qg : q ≠ 0 ∧ lv = none
  · have : nmR (wN l ws q) m bits = none := by rw [← qg.2, ← hlv, if_neg qg.1]
    rw [if_pos ⟨qg.1, this⟩] at em
    exact fault 4 em fun Q kq => ec Q fun s1 s2 f1 f2 _ _ _ => by rw [if_neg pg, if_pos qg]; exact kq s1 s2 f1 f2
  rw [if_neg (fun z => qg ⟨z.1, by rw [← hlv, if_neg z.1]; exact z.2⟩)] at em
  have val : ∀ {o : Option Nat} {w : Nat}, (if w = 0 then none else nmR (wN l ws w) m bits) = o → ¬ (w ≠ 0 ∧ o = none) → (w = 0 ∧ o = none ∨ w ≠ 0 ∧ ∃ v, o = some v ∧ wN l ws w = some v ∧ v ≤ 128) := fun {o w} ho' hne => by
    by_cases w00 : w = 0
    · rw [if_pos w00] at ho'; exact Or.inl ⟨w00, ho'.symm⟩
    · rw [if_neg w00] at ho'
      cases o with
      | none => exact absurd ⟨w00, rfl⟩ hne
      | some v =>
        have := nmR_i ho'
        exact Or.inr ⟨w00, v, rfl, this.1, by omega⟩
  have vg := val hgv pg
  have vl := val hlv qg
  have em : M_lineList t = if (p ≠ 0 ∧ q ≠ 0) ∧ oI lv < oI gv then some (4, t1) else M_lineList_b153 t1 (wM l ws 1) (nI p) (nI q) := by
    rw [em]
    unfold M_lineList_b128
    rcases vg with ⟨p0, eg⟩ | ⟨p0, v, eg, ev, hv⟩
    · rw [if_neg (show ¬ ((p ≠ 0 ∧ q ≠ 0) ∧ oI lv < oI gv) from fun z => z.1.1 p0), p0, if_neg (show ¬ (0 : Int32) < nI 0 by decide)]
    rw [if_pos (show (0 : Int32) < nI p from nI_lt (a := 0) (by omega) (by omega))]
    rcases vl with ⟨q0, el⟩ | ⟨q0, u, el, eu, hu⟩
    · rw [if_neg (show ¬ ((p ≠ 0 ∧ q ≠ 0) ∧ _) from fun z => z.1.2 q0), q0, if_neg (show ¬ (0 : Int32) < nI 0 by decide)]
    rw [if_pos (show (0 : Int32) < nI q from nI_lt (a := 0) (by omega) (by omega)), L1.num (i := p) (by omega), L1.num (i := q) (by omega), ev, eu, eg, el]
    simp only [Option.bind_some]
    by_cases c : oI (some u) < oI (some v)
    · rw [if_pos c, if_pos ⟨⟨p0, q0⟩, c⟩]
    · rw [if_neg c, if_neg (fun z => c z.2)]
  by_cases cc : (p ≠ 0 ∧ q ≠ 0) ∧ oI lv < oI gv
  · rw [if_pos cc] at em
    exact fault 4 em fun Q kq => ec Q fun s1 s2 f1 f2 _ _ _ => by rw [if_neg pg, if_neg qg, if_pos cc]; exact kq s1 s2 f1 f2
  rw [if_neg cc] at em
  have ec : ∀ Q : Int32 → cS → Nat → Nat → Prop, (∀ s1 s2, fo rd s s1 → fp (H 146 rd) s1 s2 → PF s2 (H 146 rd) (fam f) a b (nI m) → C_Re_listLine_b141 sa rd (oI gv) (oI lv) s2 kc ks Q) → C_Re_listLine sa rd s kc ks Q := fun Q k => ec Q fun s1 s2 f1 f2 hpf _ _ => by rw [if_neg pg, if_neg qg, if_neg cc]; exact k s1 s2 f1 f2 hpf
  obtain ⟨pm, hpm, epm⟩ : ∃ pm : Int32, bit pm ∧ (wC l ws 2 = 1652373180 ∧ pm = 1 ∨ wC l ws 2 ≠ 1652373180 ∧ pm = 0) := by
    by_cases e : wC l ws 2 = 1652373180
    · exact ⟨1, Or.inr rfl, Or.inl ⟨e, rfl⟩⟩
    · exact ⟨0, Or.inl rfl, Or.inr ⟨e, rfl⟩⟩
  have e28 : t1.J 28 = t.J 28 := m1.J 28 (by decide)
  have ecs : cS' t1 = cS' t := by unfold cS'; rw [m1.S 27 (by decide)]
  have N1 := L1.mv.n
  have ml : M_listNamed t1 (wM l ws 1) = some (oI (nmF (t1.J 28) (wM l ws 1) (cS' t1) 0)) := m_listNamed L1.mv _
  have e27 : t1.S 27 = nI (cS' t1) := L1.mv.1.2.2.2.2.2.2.1.n.1
  cases ea : nmF (t1.J 28) (wM l ws 1) (cS' t1) 0 with
  | some i =>
    have hi : i < cS' t1 := by have := nmF_s ea; omega
    have g29 := (L1.mv.2.2.1 i hi).1
    have e29 : t1.I 29 i = nI (t1.I 29 i).toNatClampNeg := g29.n.1
    have h29 := g29.n.2.2
    generalize ek : (t1.I 29 i).toNatClampNeg = k at e29 h29
    rw [ea] at ml
    have em : M_lineList t = if nI k = (16 : Int32) then some (6, t1) else M_lineList_b223 t1 (nI p) (nI q) (nI i) := by
      rw [em]
      unfold M_lineList_b153 M_lineList_b193
      rw [ml]
      simp only [Option.bind_some]
      rw [if_neg (oI_n1 i (by omega)), show oI (some i) = nI i from rfl, rdI_n (N1.n 29 8) (show i < 8 by omega) (by decide), e29]
      simp only [Option.bind_some]
      rw [if_neg (show ¬ nI i = -1 from oI_n1 i (by omega))]
    have ec : ∀ Q : Int32 → cS → Nat → Nat → Prop, (∀ s1 s2, fo rd s s1 → fp (H 146 rd) s1 s2 → PF s2 (H 146 rd) (fam f) a b (nI m) → ((k = 16 → Q 6 s2 kc ks) ∧ (k < 16 → C_Re_listLine_b240 sa rd (oI gv) (oI lv) (nI i) s2 kc ks Q))) → C_Re_listLine sa rd s kc ks Q := by
      intro Q k'
      refine ec Q fun s1 s2 f1 f2 hpf => ?_
      obtain ⟨k6, k0⟩ := k' s1 s2 f1 f2 hpf
      have L2 := lx_fm (h.fo f1) f2 m1
      obtain ⟨-, ⟨o1, o2⟩, ⟨p1, p2⟩, -⟩ := id L2.rc
      have p230 := L2.q.ty.r L2.q.1.1 230 132 8
      have hls := L2.q.2.2.2.2.1 i hi
      have hpl := L2.q.ty.pl hls.1.1
      have hc : s2.I 125 (G 3 i) = nI k := by
        have := hls.2.2.1
        rw [ek] at this
        exact this
      unfold C_Re_listLine_b141
      refine ⟨o1, w_listNamed L2.q L2.mv L2.rc (i := 1) (by omega) (by decide) ?_⟩
      have er : oI (nmF (t1.J 28) (nmW (vc l) (ws.getD 1 (0, 0)).1 ((ws.getD 1 (0, 0)).2 - (ws.getD 1 (0, 0)).1)) (cS' t1) 0) = nI i := by
        show oI (nmF (t1.J 28) (wM l ws 1) (cS' t1) 0) = nI i
        rw [ea]; rfl
      rw [er]
      refine ifF (show ¬ nI i = -1 from oI_n1 i (by omega)) ⟨_, gd_to o1, _, p1, _, gd_to o2, _, p230.1, _, gd_to ⟨by rw [p230.2]; decide, by rw [p230.2]; decide, by rw [p230.2]; exact vp_in_nI (show i < 8 by omega) (by decide)⟩, ?_⟩
      rw [nI_clamp (by omega), hls.1.2]
      refine ⟨_, rfl, hpl.1, w_full hpl hc h29 (fun e => ifF (by decide) (k6 e)) (fun e => ifT rfl ?_)⟩
      unfold C_Re_listLine_b188
      exact ifF (show ¬ nI i = -1 from oI_n1 i (by omega)) (k0 e)
    by_cases hk : k = 16
    · rw [if_pos (by rw [hk]; rfl)] at em
      exact fault 6 em fun Q kq => ec Q fun s1 s2 f1 f2 _ => ⟨fun _ => kq s1 s2 f1 f2, fun z => by omega⟩
    have hk16 : k < 16 := by omega
    rw [if_neg (show ¬ nI k = (16 : Int32) from fun z => hk ((nI_eq (b := 16) (by omega) (by decide)).mp z))] at em
    obtain ⟨m9, mv9⟩ := ls_tailM (pm := pm) L1.mv L1.wx (by omega) hp5 hq5 hi e29 hk16 hP vg vl hpm epm
    refine ⟨0, _, em.trans m9, mv9, (m1.wk (by decide)).tr (mLe_e.1.wk (by decide)), fun Q kq => ec Q fun s1 s2 f1 f2 hpf => ⟨fun z => absurd z hk, fun _ => ?_⟩⟩
    have L2 := lx_fm (h.fo f1) f2 m1
    exact ls_tail (kc := kc) (ks := ks) (p := p) (q := q) L2 (by omega) hp5 hq5 hi e29 hk16 hP hpf hpm epm (by omega) (by omega) Q fun s' hR fx => kq G H s' _ _ hR gA.rf hA.rf ((wr f1 f2).tr fx).wk (by omega) (by omega)
  | none =>
  generalize hnn : cS' t1 = n at ecs ea ml e27
  have hn8 : n ≤ 8 := by omega
  rw [ea] at ml
  have em : M_lineList t = if nI n = (8 : Int32) then some (6, t1) else M_lineList_b223 (mLs t1 n (wM l ws 1)) (nI p) (nI q) (nI n) := by
    rw [em]
    unfold M_lineList_b153 M_lineList_b193
    rw [ml]
    simp only [Option.bind_some]
    rw [if_pos (show oI none = -1 from rfl), e27]
    by_cases c : nI n = (8 : Int32)
    · rw [if_pos c, if_pos c]
    · have hn8' : n < 8 := by
        have : n ≠ 8 := fun z => c (by rw [z]; rfl)
        omega
      rw [if_neg c, if_neg c, if_pos (show oI none = -1 from rfl), wrJ_n (N1.n 28 8) hn8' (by decide)]
      simp only [Option.bind_some]
      unfold letS mLs
      rw [show (moSJ t1 28 n (wM l ws 1)).S 27 = nI n from e27, nI_1]
  have ec : ∀ Q : Int32 → cS → Nat → Nat → Prop, (∀ s1 s2, fo rd s s1 → fp (H 146 rd) s1 s2 → PF s2 (H 146 rd) (fam f) a b (nI m) → if nI n < (8 : Int32) then (ob (gP s2 11 10 x) (fun v6 => (nwO sa s2 kc ks 6 6 (fun q7 sq7 cq7 dq7 => (okO sq7 7 rd ∧ C_Re_nameAt sa rd (nI 1) sq7 cq7 dq7 (fun r8 sr8 cr8 dr8 => (okO sr8 6 q7 ∧ C_Pl_init sa q7 r8 (nI 16) sr8 cr8 dr8 (fun sr9 cr9 dr9 => (ob v6 (fun b10 => (ob (wQ sr9 b10 (nI n) (some q7)) (fun s11 => (ob (gP s11 7 0 rd) (fun v12 => (ob v12 (fun b13 => (ob (gI s11 11 11 b13) (fun v14 => (ob (pI s11 11 11 b13 (v14 + (1 : Int32))) (fun s15 => ((C_Re_listLine_b240 sa rd (oI gv) (oI lv) (nI n) s15 cr9 dr9 Q)))))))))))))))))))))) else Q 6 s2 kc ks) → C_Re_listLine sa rd s kc ks Q := by
    intro Q k'
    refine ec Q fun s1 s2 f1 f2 hpf => ?_
    have k' := k' s1 s2 f1 f2 hpf
    have L2 := lx_fm (h.fo f1) f2 m1
    obtain ⟨-, ⟨o1, o2⟩, ⟨p1, p2⟩, -⟩ := id L2.rc
    have i231 : s2.I (20 * 11 + 11) x = nI n := by
      rw [show s2.I (20 * 11 + 11) x = t1.S 27 from L2.q.2.2.1.2.2.2.2]; exact e27
    unfold C_Re_listLine_b141
    refine ⟨o1, w_listNamed L2.q L2.mv L2.rc (i := 1) (by omega) (by decide) ?_⟩
    have er : oI (nmF (t1.J 28) (nmW (vc l) (ws.getD 1 (0, 0)).1 ((ws.getD 1 (0, 0)).2 - (ws.getD 1 (0, 0)).1)) (cS' t1) 0) = -1 := by
      show oI (nmF (t1.J 28) (wM l ws 1) (cS' t1) 0) = -1
      rw [hnn, ea]; rfl
    rw [er]
    refine ifT rfl ⟨_, gd_to o1, _, p1, _, gd_to o2, ?_⟩
    rw [i231]
    by_cases c : nI n < (8 : Int32)
    · rw [if_pos c] at k'
      obtain ⟨v6, hv6, k'⟩ := k'
      refine ifT c ?_
      unfold C_Re_listLine_b188
      refine ifT rfl ⟨_, gd_to o1, _, p1, _, gd_to o2, _, gd_to o1, _, p1, v6, hv6, ?_⟩
      rw [i231]
      exact k'
    · rw [if_neg c] at k'
      exact ifF c k'
  by_cases n8 : n = 8
  · rw [if_pos (by rw [n8]; rfl)] at em
    exact fault 6 em fun Q kq => ec Q fun s1 s2 f1 f2 _ => by rw [if_neg (by rw [n8]; decide)]; exact kq s1 s2 f1 f2
  have hn8' : n < 8 := by omega
  rw [if_neg (show ¬ nI n = (8 : Int32) from fun z => n8 ((nI_eq (b := 8) (by omega) (by decide)).mp z))] at em
  obtain ⟨mm, e27', e28'⟩ := mLs_e (t := t1) (n := n) (c := wM l ws 1)
  have mvL := mv_ls (c := wM l ws 1) L1.mv hnn.symm hn8' ⟨_, znm⟩
  have hcs2 : n < cS' (mLs t1 n (wM l ws 1)) := by unfold cS'; rw [e27', nI_clamp (by omega)]; omega
  have hk0 : (mLs t1 n (wM l ws 1)).I 29 n = nI 0 := by
    rw [mm.I 29 (by decide)]
    exact L1.mv.2.2.2.2.2.2.1 n (by omega) hn8'
  have hP2 : isP (mLs t1 n (wM l ws 1)) f a b m := hP.mf mm rfl
  obtain ⟨m9, mv9⟩ := ls_tailM (pm := pm) mvL (L1.wx.mf mm rfl) (by omega) hp5 hq5 hcs2 hk0 (by decide) hP2 vg vl hpm epm
  refine ⟨0, _, em.trans m9, mv9, ((m1.wk (by decide)).tr (mm.wk (by decide))).tr (mLe_e.1.wk (by decide)), fun Q kq => ec Q fun s1 s2 f1 f2 hpf => ?_⟩
  have L := lx_fm (h.fo f1) f2 m1
  rw [if_pos (show nI n < (8 : Int32) from nI_lt (b := 8) hn8' (by decide))]
  refine ls_made (R := fun i _ s15 kc' ks' => C_Re_listLine_b240 sa rd (oI gv) (oI lv) i s15 kc' ks' Q) L (by omega) hnn hn8' znm zl za hpf (by omega) (by omega) fun lk H' s15 kc' ks' LN hpf' hAs ff h1 h2 => ?_
  refine ls_tail (k := 0) (pm := pm) (p := p) (q := q) LN (by omega) hp5 hq5 hcs2 hk0 (by decide) hP2 hpf' hpm epm (by omega) (by omega) Q fun s' hR fx => kq (upG G 3 n lk) H' s' _ _ hR (gA_3 (by omega)) (fun g a' ha' => hAs g a' (by rw [f2.1, f1.1]; exact ha')) (((wr f1 f2).wk.tr ff.wk).tr fx.wk) (by omega) (by omega)
end Pt2
