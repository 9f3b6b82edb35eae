/-! Lines: offset. -/
section Of
variable {G H : Nat → Nat → Nat} {sa : Nat → Nat} {rd x kc ks : Nat} {s : cS} {t : moS} {l : List Int32} {ws : List (Nat × Nat)}
/-- an offset more -/
theorem off_rr (h : RR G H sa x s t) (hM : MV t) {r k : Nat} {a b c d' : Int32} (hr : r < cR t) (hk : t.I 63 r = nI k) (hk8 : k < 8) (ha : bit a) (hb : b = -1 ∨ ∃ n, b = nI n ∧ n < cL t) (hc : ∃ n, c = nI n ∧ n < cS' t) (hd : rng d' 1 15) (e0 : s.E (G 10 (8 * r + k)) 0 = a) (e1 : s.E (G 10 (8 * r + k)) 1 = b) (e2 : s.E (G 10 (8 * r + k)) 2 = c) (e3 : s.E (G 10 (8 * r + k)) 3 = d') : RR G H sa x (cSI s 192 (G 1 r) (nI (k + 1))) (moSI (moSI (moSI (moSI (moSI t 63 r (nI (k + 1))) 64 (8 * r + k) a) 65 (8 * r + k) b) 66 (8 * r + k) c) 67 (8 * r + k) d') ∧ MV (moSI (moSI (moSI (moSI (moSI t 63 r (nI (k + 1))) 64 (8 * r + k) a) 65 (8 * r + k) b) 66 (8 * r + k) c) 67 (8 * r + k) d') ∧ fr [26] [] [] s (cSI s 192 (G 1 r) (nI (k + 1))) ∧ mfr [63, 64, 65, 66, 67] t (moSI (moSI (moSI (moSI (moSI t 63 r (nI (k + 1))) 64 (8 * r + k) a) 65 (8 * r + k) b) 66 (8 * r + k) c) 67 (8 * r + k) d') := by
  have hq := h.q.1
  have hr1 := (hq.rt hr).1.1
  have f : fr [26] [] [] s (cSI s 192 (G 1 r) (nI (k + 1))) := fr.si (by rw [hr1]; decide)
  have m : mfr [63, 64, 65, 66, 67] t (moSI (moSI (moSI (moSI (moSI t 63 r (nI (k + 1))) 64 (8 * r + k) a) 65 (8 * r + k) b) 66 (8 * r + k) c) 67 (8 * r + k) d') := ((((mfr.si (by decide)).tr (mfr.si (by decide))).tr (mfr.si (by decide))).tr (mfr.si (by decide))).tr (mfr.si (by decide))
  generalize ht' : moSI (moSI (moSI (moSI (moSI t 63 r (nI (k + 1))) 64 (8 * r + k) a) 65 (8 * r + k) b) 66 (8 * r + k) c) 67 (8 * r + k) d' = t' at m
  have e63 : ∀ i, t'.I 63 i = if i = r then nI (k + 1) else t.I 63 i := fun i => by rw [← ht', moSI_n (by decide), moSI_n (by decide), moSI_n (by decide), moSI_n (by decide), moSI_s]; rfl
  have e64 : ∀ i, t'.I 64 i = if i = 8 * r + k then a else t.I 64 i := fun i => by rw [← ht', moSI_n (by decide), moSI_n (by decide), moSI_n (by decide), moSI_s, moSI_n (by decide)]; rfl
  have e65 : ∀ i, t'.I 65 i = if i = 8 * r + k then b else t.I 65 i := fun i => by rw [← ht', moSI_n (by decide), moSI_n (by decide), moSI_s, moSI_n (by decide), moSI_n (by decide)]; rfl
  have e66 : ∀ i, t'.I 66 i = if i = 8 * r + k then c else t.I 66 i := fun i => by rw [← ht', moSI_n (by decide), moSI_s, moSI_n (by decide), moSI_n (by decide), moSI_n (by decide)]; rfl
  have e67 : ∀ i, t'.I 67 i = if i = 8 * r + k then d' else t.I 67 i := fun i => by rw [← ht', moSI_s, moSI_n (by decide), moSI_n (by decide), moSI_n (by decide), moSI_n (by decide)]; rfl
  have hg : RGl G H sa x (cSI s 192 (G 1 r) (nI (k + 1))) := hq.1.v rfl rfl f rfl rfl rfl
  have hid : ∀ r', r' < cR t → (G 1 r' = G 1 r ↔ r' = r) := fun r' hr' => ⟨fun e => hq.2.1.2.1 r' r hr' hr e, fun e => by rw [e]⟩
  have o1 : ∀ r' g, g ≠ 192 → (cSI s 192 (G 1 r) (nI (k + 1))).I g (G 1 r') = s.I g (G 1 r') := fun r' g eg => cSI_g eg
  have o192 : ∀ r', r' < cR t → (cSI s 192 (G 1 r) (nI (k + 1))).I 192 (G 1 r') = if r' = r then nI (k + 1) else s.I 192 (G 1 r') := by
    intro r' hr'
    by_cases er : r' = r
    · rw [if_pos er, er, cSI_s]
    · rw [if_neg er, cSI_a (fun z => er ((hid r' hr').mp z))]
  refine ⟨rr_rt h hM hg f.wk (fun r' _ => o1 r' 199 (by decide)) (m.wk (by decide)) fun r' hr' => ?_, hM.ro (m.wk (by decide)) (fun r' hr' => ?_) (fun r' hr' h6 => ?_), f, m⟩
  · obtain ⟨i1, i2, i3, i4, i5, i6, i7⟩ := hq.2.2.2.2.2.1 r' hr'
    have hv := hM.r hr'
    have h8 : (t.I 59 r').toNatClampNeg ≤ 8 ∧ (t.I 63 r').toNatClampNeg ≤ 8 := ⟨hv.2.2.2.2.2.2.1.1.n.2.2, hv.2.2.2.2.2.2.2.1.1.n.2.2⟩
    refine ⟨?_, ?_⟩
    · obtain ⟨⟨a1, a2, a3⟩, ⟨nm, b1, b2, b3⟩, c', d, g⟩ := i1
      refine ⟨⟨a1, a2, a3⟩, ⟨nm, b1, b2.fr f (by decide) (by decide) (by decide) hg.2.2.1, by rw [m.J 38 (by decide)]; exact b3⟩, ?_, ?_, ?_⟩
      · rw [o1 r' 182 (by decide), o1 r' 183 (by decide), o1 r' 185 (by decide), o1 r' 197 (by decide), o1 r' 198 (by decide), m.I 39 (by decide), m.I 70 (by decide), m.I 43 (by decide), m.I 44 (by decide)]
        exact c'
      · rw [m.I 40 (by decide), m.I 41 (by decide), m.I 42 (by decide)]; exact d
      · rw [m.I 45 (by decide)]; exact g
    · obtain ⟨c1, c2, c3, c4, c5⟩ := i6
      refine ⟨?_, c2, fun j hj => ?_, fun j hj => ?_, fun j hj => ?_⟩
      · rw [o1 r' 190 (by decide), o192 r' hr', m.I 59 (by decide), e63]
        by_cases er : r' = r
        · rw [if_pos er, if_pos er]; exact ⟨c1.1, rfl⟩
        · rw [if_neg er, if_neg er]; exact c1
      · rw [m.I 59 (by decide)] at hj
        rw [m.I 60 (by decide), m.I 61 (by decide), m.I 62 (by decide)]
        exact c3 j hj
      · rw [e63] at hj
        rw [e64, e65, e66, e67]
        show s.E (G 10 (8 * r' + j)) 0 = _ ∧ s.E (G 10 (8 * r' + j)) 1 = _ ∧ s.E (G 10 (8 * r' + j)) 2 = _ ∧ s.E (G 10 (8 * r' + j)) 3 = _
        by_cases er : r' = r
        · subst er
          rw [if_pos rfl, nI_clamp (by omega)] at hj
          by_cases ej : j = k
          · subst ej
            rw [if_pos rfl, if_pos rfl, if_pos rfl, if_pos rfl]
            exact ⟨e0, e1, e2, e3⟩
          · rw [if_neg (by omega), if_neg (by omega), if_neg (by omega), if_neg (by omega)]
            exact c4 j (by rw [hk, nI_clamp (by omega)]; omega)
        · rw [if_neg er] at hj
          rw [if_neg (by omega), if_neg (by omega), if_neg (by omega), if_neg (by omega)]
          exact c4 j hj
      · rw [m.I 68 (by decide), m.I 69 (by decide)]; exact c5 j hj
  · obtain ⟨a1, a2, a3, a4, a5, a6, a7, a8, a9, a10⟩ := id (hM.r hr')
    refine (hM.r hr').ro (m.wk (by decide)) ?_ ?_ ?_ ?_
    · rw [m.I 40 (by decide), m.I 41 (by decide), m.I 42 (by decide)]; exact a3
    · rw [m.I 59 (by decide), m.I 60 (by decide), m.I 61 (by decide), m.I 62 (by decide)]; exact a7
    · rw [e63]
      by_cases er : r' = r
      · subst er
        rw [if_pos rfl]
        refine ⟨⟨k + 1, rfl, Nat.zero_le _, by omega⟩, fun j hj => ?_⟩
        rw [nI_clamp (by omega)] at hj
        rw [e64, e65, e66, e67]
        by_cases ej : j = k
        · subst ej
          rw [if_pos rfl, if_pos rfl, if_pos rfl, if_pos rfl]
          exact ⟨ha, hb, hc, hd⟩
        · rw [if_neg (by omega), if_neg (by omega), if_neg (by omega), if_neg (by omega)]
          exact a8.2 j (by rw [hk, nI_clamp (by omega)]; omega)
      · rw [if_neg er]
        refine ⟨a8.1, fun j hj => ?_⟩
        have := a8.1.n.2.2
        rw [e64, e65, e66, e67, if_neg (by omega), if_neg (by omega), if_neg (by omega), if_neg (by omega)]
        exact a8.2 j hj
    · rw [m.I 68 (by decide), m.I 69 (by decide)]; exact a9
  · rw [m.I 59 (by decide), e63, if_neg (by omega)]
    obtain ⟨⟨w1, w2, w3, w4, w5, w6, w7⟩, w8⟩ := hM.2.2.2.2.2.2.2.1 r' hr' h6
    exact ⟨w4, w5⟩
theorem P_offset (h : LX G H sa x rd s t l ws) : LO G H sa x s t kc ks (M_lineOffset t) (C_Re_offsetLine sa rd s kc ks) := by
  have hn := h.nw
  have h6 := h.mv.nR
  have h8 : cS' t ≤ 8 := h.mv.1.2.2.2.2.2.2.1.n.2.2
  have h10 := h.mv.nL
  by_cases n6 : ws.length = 6
  rotate_left
  · have n6' : ¬ nI ws.length = (6 : Int32) := fun z => n6 ((h.tot (n := 6) (by decide)).mp z)
    refine LO.no h 2 ?_ fun Q kq => ?_
    · unfold M_lineOffset
      rw [h.ww, if_neg n6']
    · unfold C_Re_offsetLine
      refine ⟨_, gd_to h.or, ?_⟩
      rw [w_tot h]
      exact ifF n6' (kq s fo.rf)
  have n6' : nI ws.length = (6 : Int32) := by rw [n6]; rfl
  by_cases cw : wC l ws 2 = 374 ∨ wC l ws 2 = 24860
  rotate_left
  · refine LO.no h 2 ?_ fun Q kq => ?_
    · unfold M_lineOffset
      rw [h.ww, if_pos n6', m_isWay h (by omega), if_neg cw]
      rfl
    · unfold C_Re_offsetLine
      refine ⟨_, gd_to h.or, ?_⟩
      rw [w_tot h]
      exact ifT n6' ⟨h.or, w_isE h.rc h.tk (i := 2) 374 24860 (by omega) (by decide) (fun z => absurd z cw) (fun _ _ => ifT rfl (kq s fo.rf))⟩
  have em : M_lineOffset t = if (oI (nmF (t.J 38) (wM l ws 1) (cR t) 0)) = -1 then some (3, t) else if (if wC l ws 3 = 37 ∨ (nmF (t.J 18) (wM l ws 3) (cL t) 0).isSome then oI (nmF (t.J 18) (wM l ws 3) (cL t) 0) else -2) = -2 then some (3, t) else if (oI (nmF (t.J 28) (wM l ws 4) (cS' t) 0)) = -1 then some (3, t) else Option.bind (M_isNumber t 5 1 15) (fun x7 => if x7 = 0 then some (4, t) else Option.bind (rdI t 63 (oI (nmF (t.J 38) (wM l ws 1) (cR t) 0))) (fun x8 => if x8 = 8 then some (6, t) else Option.bind (rdI t 63 (oI (nmF (t.J 38) (wM l ws 1) (cR t) 0))) (fun x9 => Option.bind (rdI t 63 (oI (nmF (t.J 38) (wM l ws 1) (cR t) 0))) (fun x10 => Option.bind (wrI t 63 (oI (nmF (t.J 38) (wM l ws 1) (cR t) 0)) (x10 + 1)) (fun s11 => Option.bind (M_code s11 2) (fun x12 => if x12 = 374 then M_lineOffset_b136 s11 (if wC l ws 3 = 37 ∨ (nmF (t.J 18) (wM l ws 3) (cL t) 0).isSome then oI (nmF (t.J 18) (wM l ws 3) (cL t) 0) else -2) (oI (nmF (t.J 28) (wM l ws 4) (cS' t) 0)) (8 * (oI (nmF (t.J 38) (wM l ws 1) (cR t) 0)) + x9) (8 * (oI (nmF (t.J 38) (wM l ws 1) (cR t) 0)) + x9) 0 else M_lineOffset_b136 s11 (if wC l ws 3 = 37 ∨ (nmF (t.J 18) (wM l ws 3) (cL t) 0).isSome then oI (nmF (t.J 18) (wM l ws 3) (cL t) 0) else -2) (oI (nmF (t.J 28) (wM l ws 4) (cS' t) 0)) (8 * (oI (nmF (t.J 38) (wM l ws 1) (cR t) 0)) + x9) (8 * (oI (nmF (t.J 38) (wM l ws 1) (cR t) 0)) + x9) 1)))))) := by
    unfold M_lineOffset
    rw [h.ww, if_pos n6', m_isWay h (by omega), if_pos cw]
    simp only [Option.bind_some]
    rw [if_neg (by decide), show M_name t 1 = some (wM l ws 1) from h.name (i := 1) (by omega), m_loa h (by omega), show M_name t 4 = some (wM l ws 4) from h.name (i := 4) (by omega)]
    simp only [Option.bind_some, m_routerNamed h.mv, m_listNamed h.mv]
  have ec : ∀ Q : Int32 → cS → Nat → Nat → Prop, (if Option.map (G 1) (nmF (t.J 38) (wM l ws 1) (cR t) 0) = none then Q 3 s kc ks else C_Re_namesPolicy sa rd s kc ks (fun r4 sr4 cr4 dr4 => if r4 = 0 then Q 3 sr4 cr4 dr4 else (okO sr4 7 rd ∧ C_Re_number sa rd (nI 5) (nI 1) (nI 15) sr4 cr4 dr4 (fun r5 sr5 cr5 dr5 => if r5 = -1 then Q 4 sr5 cr5 dr5 else ob (Option.map (G 1) (nmF (t.J 38) (wM l ws 1) (cR t) 0)) (fun b6 => ob (gI sr5 9 12 b6) (fun v7 => if v7 < 8 then ob (gP sr5 9 11 b6) (fun v8 => ob (gI sr5 9 12 b6) (fun v9 => ob v8 (fun b10 => ob (rQ sr5 b10 v9) (fun v11 => okO sr5 7 rd ∧ C_Re_setPolicy sa rd v11 r5 sr5 cr5 dr5 (fun sr12 cr12 dr12 => ob (gI sr12 9 12 b6) (fun v13 => ob (pI sr12 9 12 b6 (v13 + 1)) (fun s14 => Q 0 s14 cr12 dr12))))))) else Q 6 sr5 cr5 dr5)))))) → C_Re_offsetLine sa rd s kc ks Q := by
    intro Q k
    unfold C_Re_offsetLine
    refine ⟨_, gd_to h.or, ?_⟩
    rw [w_tot h]
    refine ifT n6' ⟨h.or, w_isE h.rc h.tk (i := 2) 374 24860 (by omega) (by decide) (fun _ => ifF (by decide) ⟨h.or, w_routerNamed h.q h.mv h.rc (i := 1) (by omega) (by decide) ?_⟩) (fun z1 z2 => absurd cw (fun z => z.elim z1 z2))⟩
    by_cases e : Option.map (G 1) (nmF (t.J 38) (wM l ws 1) (cR t) 0) = none
    · rw [if_pos e] at k; exact ifT e k
    · rw [if_neg e] at k; exact ifF e ⟨h.or, k⟩
  cases er : nmF (t.J 38) (wM l ws 1) (cR t) 0 with
  | none =>
    rw [er] at em ec
    exact LO.no h 3 (em.trans (if_pos rfl)) fun Q kq => ec Q (by rw [if_pos (show Option.map (G 1) none = none from rfl)]; exact kq s fo.rf)
  | some r =>
    have hr : r < cR t := by have := nmF_s er; omega
    rw [er, if_neg (oI_n1 r (by omega))] at em
    by_cases hp : (wC l ws 3 = 37 ∨ (nmF (t.J 18) (wM l ws 3) (cL t) 0).isSome) ∧ (nmF (t.J 28) (wM l ws 4) (cS' t) 0).isSome
    rotate_left
    · refine LO.no h 3 (em.trans ?_) fun Q kq => ec Q ?_
      · by_cases e1 : wC l ws 3 = 37 ∨ (nmF (t.J 18) (wM l ws 3) (cL t) 0).isSome
        · have e2 : nmF (t.J 28) (wM l ws 4) (cS' t) 0 = none := Option.not_isSome_iff_eq_none.mp (fun z => hp ⟨e1, z⟩)
          rw [e2, if_pos (show oI none = -1 from rfl)]
          rw [if_pos e1, ite_self]
        · rw [if_pos (if_neg e1)]
      · rw [er, if_neg (show ¬ Option.map (G 1) (some r) = none by simp)]
        exact w_namesPolicy h (by omega) er (fun z1 z2 => absurd ⟨z1, z2⟩ hp) (fun _ => ifT rfl (kq s fo.rf))
    obtain ⟨i, hi⟩ := Option.isSome_iff_exists.mp hp.2
    have hi' := nmF_s hi
    have hlk := nmF_link h.mv (wM l ws 3)
    rw [if_pos hp.1, hi, if_neg (oI_n1 i (by omega)), show oI (some r) = nI r from rfl] at em
    rw [if_neg (fun z => by
      rcases hlk with e | ⟨n, e, hn'⟩
      · rw [e] at z; exact absurd z (by decide)
      · rw [e] at z
        have := nI_pos (n := n) (by omega)
        rw [z] at this
        exact this (by decide)), show M_isNumber t 5 1 15 = some (if (nmR (wN l ws 5) 1 15).isSome then 1 else 0) from h.isn (i := 5) (lo := 1) (hi := 15) (by omega) (by decide) (by decide)] at em
    simp only [Option.bind_some] at em
    have cl : ∀ Q : Int32 → cS → Nat → Nat → Prop, (if oI (nmR (wN l ws 5) 1 15) = -1 then Q 4 s kc ks else ob (some (G 1 r)) (fun b6 => ob (gI s 9 12 b6) (fun v7 => if v7 < 8 then ob (gP s 9 11 b6) (fun v8 => ob (gI s 9 12 b6) (fun v9 => ob v8 (fun b10 => ob (rQ s b10 v9) (fun v11 => okO s 7 rd ∧ C_Re_setPolicy sa rd v11 (oI (nmR (wN l ws 5) 1 15)) s kc ks (fun sr12 cr12 dr12 => ob (gI sr12 9 12 b6) (fun v13 => ob (pI sr12 9 12 b6 (v13 + 1)) (fun s14 => Q 0 s14 cr12 dr12))))))) else Q 6 s kc ks))) → C_Re_offsetLine sa rd s kc ks Q := by
      intro Q k
      refine ec Q ?_
      rw [er, if_neg (show ¬ Option.map (G 1) (some r) = none by simp)]
      exact w_namesPolicy h (by omega) er (fun _ _ => ifF (by decide) ⟨h.or, w_number h.rc (i := 5) (lo := 1) (hi := 15) (by decide) (by decide) (by decide) (fun _ _ => k) (fun z => absurd ⟨by omega, by decide⟩ z)⟩) (fun z => absurd hp z)
    cases e5 : nmR (wN l ws 5) 1 15 with
    | none =>
      rw [e5] at em cl
      exact LO.no h 4 (em.trans (if_pos rfl)) fun Q kq => cl Q (by rw [if_pos (show oI none = -1 from rfl)]; exact kq s fo.rf)
    | some mo =>
    have hmo := nmR_i e5
    rw [e5, if_neg (show ¬ (if (some mo).isSome = true then (1 : Int32) else 0) = 0 by simp)] at em
    rw [e5] at cl
    have cl : ∀ Q : Int32 → cS → Nat → Nat → Prop, ob (some (G 1 r)) (fun b6 => ob (gI s 9 12 b6) (fun v7 => if v7 < 8 then ob (gP s 9 11 b6) (fun v8 => ob (gI s 9 12 b6) (fun v9 => ob v8 (fun b10 => ob (rQ s b10 v9) (fun v11 => okO s 7 rd ∧ C_Re_setPolicy sa rd v11 (nI mo) s kc ks (fun sr12 cr12 dr12 => ob (gI sr12 9 12 b6) (fun v13 => ob (pI sr12 9 12 b6 (v13 + 1)) (fun s14 => Q 0 s14 cr12 dr12))))))) else Q 6 s kc ks)) → C_Re_offsetLine sa rd s kc ks Q := fun Q k => cl Q (by rw [if_neg (oI_n1 mo (by omega))]; exact k)
    have e63 : t.I 63 r = nI (t.I 63 r).toNatClampNeg := (h.mv.r hr).2.2.2.2.2.2.2.1.1.n.1
    have h63 : (t.I 63 r).toNatClampNeg ≤ 8 := (h.mv.r hr).2.2.2.2.2.2.2.1.1.n.2.2
    rw [rdI_n (n := 6) (h.mv.n.n 63 6) (by omega) (by decide)] at em
    simp only [Option.bind_some] at em
    have hrt := h.q.rt hr
    have o9 := okr hrt.1.1 9
    have i192 : s.I (20 * 9 + 12) (G 1 r) = t.I 63 r := (h.q.2.2.2.2.2.1 r hr).2.2.2.2.2.1.1.2
    have p9 := h.q.ty.r hrt.1.1 191 141 8
    by_cases k8 : (t.I 63 r).toNatClampNeg = 8
    · refine LO.no h 6 (em.trans (if_pos (by rw [e63, k8]; rfl))) fun Q kq => cl Q ⟨_, rfl, _, gd_to o9, ?_⟩
      rw [i192, e63, k8]
      exact ifF (by decide) (kq s fo.rf)
    have hk : (t.I 63 r).toNatClampNeg < 8 := by omega
    generalize ek : (t.I 63 r).toNatClampNeg = k at e63 h63 k8 hk
    rw [if_neg (show ¬ t.I 63 r = 8 from fun z => by rw [e63] at z; exact k8 ((nI_eq (b := 8) (by omega) (by decide)).mp z)), e63, nI_1, wrI_n (n := 6) (h.mv.n.n 63 6) (by omega) (by decide)] at em
    simp only [Option.bind_some] at em
    have mm : mfr [63] t (moSI t 63 r (nI (k + 1))) := mfr.si (by decide)
    have hrow : nRow G t r k (G 10 (8 * r + k)) := ⟨hr, hk, Or.inr ⟨rfl, by omega⟩⟩
    have hQ : s.Q (H 191 (G 1 r)) k = some (G 10 (8 * r + k)) := ((h.q.2.2.2.2.2.1 r hr).2.2.2.2.2.1.2.1 k hk).2.2.1
    rw [show M_code (moSI t 63 r (nI (k + 1))) 2 = some (wC l ws 2) from (h.wx.mf mm rfl).code (i := 2) (by omega)] at em
    simp only [Option.bind_some] at em
    have hbit : bit (if wC l ws 2 = 374 then (0 : Int32) else 1) := by
      by_cases e : wC l ws 2 = 374
      · rw [if_pos e]; exact Or.inl rfl
      · rw [if_neg e]; exact Or.inr rfl
    have em : M_lineOffset t = some (0, moSI (moSI (moSI (moSI (moSI t 63 r (nI (k + 1))) 64 (8 * r + k) (if wC l ws 2 = 374 then 0 else 1)) 65 (8 * r + k) (oI (nmF (t.J 18) (wM l ws 3) (cL t) 0))) 66 (8 * r + k) (nI i)) 67 (8 * r + k) (nI mo)) := by
      rw [em]
      unfold M_lineOffset_b136
      rw [show (8 : Int32) = nI 8 from rfl, pk_mul, nI_add]
      have w0 : ∀ v, wrI (moSI t 63 r (nI (k + 1))) 64 (nI (8 * r + k)) v = some (moSI (moSI t 63 r (nI (k + 1))) 64 (8 * r + k) v) := fun v => wrI_n (n := 48) (h.mv.n.n 64 48) (by omega) (by decide)
      have w1 : ∀ v w, wrI (moSI (moSI t 63 r (nI (k + 1))) 64 (8 * r + k) v) 65 (nI (8 * r + k)) w = some (moSI (moSI (moSI t 63 r (nI (k + 1))) 64 (8 * r + k) v) 65 (8 * r + k) w) := fun v w => wrI_n (n := 48) (h.mv.n.n 65 48) (by omega) (by decide)
      have w2 : ∀ v w y, wrI (moSI (moSI (moSI t 63 r (nI (k + 1))) 64 (8 * r + k) v) 65 (8 * r + k) w) 66 (nI (8 * r + k)) y = some (moSI (moSI (moSI (moSI t 63 r (nI (k + 1))) 64 (8 * r + k) v) 65 (8 * r + k) w) 66 (8 * r + k) y) := fun v w y => wrI_n (n := 48) (h.mv.n.n 66 48) (by omega) (by decide)
      have w3 : ∀ v w y z, wrI (moSI (moSI (moSI (moSI t 63 r (nI (k + 1))) 64 (8 * r + k) v) 65 (8 * r + k) w) 66 (8 * r + k) y) 67 (nI (8 * r + k)) z = some (moSI (moSI (moSI (moSI (moSI t 63 r (nI (k + 1))) 64 (8 * r + k) v) 65 (8 * r + k) w) 66 (8 * r + k) y) 67 (8 * r + k) z) := fun v w y z => wrI_n (n := 48) (h.mv.n.n 67 48) (by omega) (by decide)
      have nb : ∀ v w y, M_number (moSI (moSI (moSI (moSI t 63 r (nI (k + 1))) 64 (8 * r + k) v) 65 (8 * r + k) w) 66 (8 * r + k) y) 5 = some (nI mo) := fun v w y => by
        have m4 : mfr [63, 64, 65, 66] t (moSI (moSI (moSI (moSI t 63 r (nI (k + 1))) 64 (8 * r + k) v) 65 (8 * r + k) w) 66 (8 * r + k) y) := (((mfr.si (by decide)).tr (mfr.si (by decide))).tr (mfr.si (by decide))).tr (mfr.si (by decide))
        have := (h.wx.mf m4 rfl).num (i := 5) (by omega)
        rw [hmo.1] at this
        exact this
      simp only [w0, w1, w2, w3, nb, Option.bind_some]
      by_cases e : wC l ws 2 = 374
      · rw [if_pos e, if_pos e]; rfl
      · rw [if_neg e, if_neg e]; rfl
    have gm := off_rr (G := G) (H := H) (sa := sa) (x := x) (s := cSE (cSE (cSE (cSE s (G 10 (8 * r + k)) 0 (if wC l ws 2 = 374 then 0 else 1)) (G 10 (8 * r + k)) 1 (oI (nmF (t.J 18) (wM l ws 3) (cL t) 0))) (G 10 (8 * r + k)) 2 (oI (nmF (t.J 28) (wM l ws 4) (cS' t) 0))) (G 10 (8 * r + k)) 3 (nI mo)) (((((h.row (i := 0) (v := if wC l ws 2 = 374 then 0 else 1) hrow).1.row (i := 1) (v := oI (nmF (t.J 18) (wM l ws 3) (cL t) 0)) hrow).1.row (i := 2) (v := oI (nmF (t.J 28) (wM l ws 4) (cS' t) 0)) hrow).1.row (i := 3) (v := nI mo) hrow).1).1 h.mv hr e63 hk hbit hlk ⟨i, rfl, by omega⟩ ⟨mo, rfl, hmo.2⟩ (by rw [cSE_i (by decide), cSE_i (by decide), cSE_i (by decide), cSE_v]) (by rw [cSE_i (by decide), cSE_i (by decide), cSE_v]) (by rw [cSE_i (by decide), cSE_v, hi]; rfl) cSE_v
    refine ⟨0, _, em, gm.2.1, gm.2.2.2.wk (by decide), fun Q kq => cl Q ⟨_, rfl, _, gd_to o9, ?_⟩⟩
    rw [i192, e63]
    refine ifT (nI_lt (b := 8) hk (by decide)) ⟨_, gd_to o9, _, gd_to o9, _, p9.1, _, gd_to ⟨by rw [p9.2]; decide, by rw [p9.2]; decide, by rw [p9.2]; rw [i192, e63]; exact vp_in_nI hk (by decide)⟩, h.or, ?_⟩
    rw [i192, e63, nI_clamp (by omega), hQ]
    refine w_setPolicy h (by omega) hrow fun L f => ⟨_, gd_to (okr (L.q.rt hr).1.1 9), ?_⟩
    have i192' : (cSE (cSE (cSE (cSE s (G 10 (8 * r + k)) 0 (if wC l ws 2 = 374 then 0 else 1)) (G 10 (8 * r + k)) 1 (oI (nmF (t.J 18) (wM l ws 3) (cL t) 0))) (G 10 (8 * r + k)) 2 (oI (nmF (t.J 28) (wM l ws 4) (cS' t) 0))) (G 10 (8 * r + k)) 3 (nI mo)).I (20 * 9 + 12) (G 1 r) = nI k := i192.trans e63
    rw [i192']
    dsimp only
    rw [nI_1]
    exact ⟨_, gd_to (okr (L.q.rt hr).1.1 9), kq _ _ _ gm.1 ⟨f.wk.tr gm.2.2.1.wk, by omega, by omega⟩⟩
end Of
