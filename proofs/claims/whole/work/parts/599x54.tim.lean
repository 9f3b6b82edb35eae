/-! Lines: timers. -/
abbrev Wr : List Nat := [12, 13, 14, 15, 16, 40, 41, 42, 59, 60, 61, 62, 63, 64, 65, 66, 67, 68, 69]
theorem cSE_v {s : cS} {a i : Nat} {v : Int32} : (cSE s a i v).E a i = v := by
  rw [cSE_s]; exact if_pos rfl
theorem cSE_i {s : cS} {a i j : Nat} {v : Int32} (h : j ≠ i) : (cSE s a i v).E a j = s.E a j := by
  rw [cSE_s]; exact if_neg h
section Tm
variable {G H : Nat → Nat → Nat} {sa : Nat → Nat} {rd x kc ks : Nat} {s s' : cS} {t t' : moS} {l : List Int32} {ws : List (Nat × Nat)}
/-- only routers' numbers are others -/
theorem rr_rt (h : RR G H sa x s t) (hM : MV t) (hg : RGl G H sa x s') (f : fr [19, 22, 26, 100, 107, 108, 121, 122, 123, 127, 128] [] [] s s') (h199 : ∀ r, r < cR t → s'.I 199 (G 1 r) = s.I 199 (G 1 r)) (m : mfr Wr t t') (hr : ∀ r, r < cR t → RRt G H sa x s' t' r ∧ RPy G H s' t' r) : RR G H sa x s' t' := by
  have hq := h.q.1
  have hT := hq.ty
  have hx := hq.1.1
  have ht := hg.2.2.1
  refine rr_cf h hM hg f.wk h199 (m.wk (by decide)) (fun i hi => (hq.2.2.2.2.1 i hi).fr hT hx f ht m rfl rfl rfl rfl) fun r hr' => ?_
  obtain ⟨i1, i2, i3, i4, i5, i6, i7⟩ := hq.2.2.2.2.2.1 r hr'
  have hv := hM.r hr'
  exact ⟨(hr r hr').1, i4.fr hT i1.1.1 f m rfl rfl rfl, i5.fr hT i1.1.1 f m rfl rfl rfl, (hr r hr').2, fun p hp => (i7 p hp).fr hT i1.1.1 (hv.i hp).2.2.2.2.2.2.2.2.2.2.1.n.2.2 f m rfl rfl rfl rfl⟩
theorem mVr.ro {r : Nat} (h : mVr t r) (m : mfr Wr t t') (h3 : rng (t'.I 40 r) 1 1000 ∧ rng (t'.I 41 r) 1 1000 ∧ rng (t'.I 42 r) 1 1000) (h7 : rng (t'.I 59 r) 0 8 ∧ ∀ k, k < (t'.I 59 r).toNatClampNeg → bit (t'.I 60 (8 * r + k)) ∧ (t'.I 61 (8 * r + k) = -1 ∨ ∃ n, t'.I 61 (8 * r + k) = nI n ∧ n < cL t) ∧ ∃ n, t'.I 62 (8 * r + k) = nI n ∧ n < cS' t) (h8 : rng (t'.I 63 r) 0 8 ∧ ∀ k, k < (t'.I 63 r).toNatClampNeg → bit (t'.I 64 (8 * r + k)) ∧ (t'.I 65 (8 * r + k) = -1 ∨ ∃ n, t'.I 65 (8 * r + k) = nI n ∧ n < cL t) ∧ (∃ n, t'.I 66 (8 * r + k) = nI n ∧ n < cS' t) ∧ rng (t'.I 67 (8 * r + k)) 1 15) (h9 : ∀ k, k < 2 → (t'.I 68 (2 * r + k) = -1 ∨ rng (t'.I 68 (2 * r + k)) 0 15) ∧ (t'.I 69 (2 * r + k) = -1 ∨ rng (t'.I 69 (2 * r + k)) 0 65535)) : mVr t' r := by
  obtain ⟨a1, a2, a3, a4, a5, a6, a7, a8, a9, a10, a11, a12, a13, a14, a15⟩ := h
  have e4 : cI t' r = cI t r := by unfold cI; rw [m.I 70 (by decide)]
  have e1 : cL t' = cL t := by unfold cL; rw [m.S 17 (by decide)]
  have e2 : cS' t' = cS' t := by unfold cS'; rw [m.S 27 (by decide)]
  refine ⟨?_, ?_, h3, ?_, ?_, ?_, ?_, ?_, h9, ?_, ?_, ?_, ?_, ?_, ?_⟩
  · rw [m.J 38 (by decide)]; exact a1
  · rw [m.I 39 (by decide)]; exact a2
  · rw [m.I 46 (by decide)]; exact a4
  · rw [m.I 46 (by decide), m.I 47 (by decide), m.I 50 (by decide), m.I 51 (by decide), m.I 52 (by decide)]; exact a5
  · rw [m.I 53 (by decide), m.I 54 (by decide), m.I 57 (by decide), m.I 58 (by decide)]; exact a6
  · rw [e1, e2]; exact h7
  · rw [e1, e2]; exact h8
  · rw [m.I 70 (by decide)]; exact a10
  · rw [e4]
    intro p hp
    have := a11 p hp
    unfold mVi cL at this ⊢
    simp only [m.I 71 (by decide), m.S 17 (by decide), m.I 72 (by decide), m.J 73 (by decide), m.I 74 (by decide), m.I 75 (by decide), m.I 78 (by decide), m.I 79 (by decide), m.I 80 (by decide), m.I 82 (by decide), m.I 83 (by decide), m.I 84 (by decide), m.I 85 (by decide), m.I 87 (by decide), m.I 88 (by decide), m.I 90 (by decide), m.I 91 (by decide), m.I 94 (by decide), m.I 95 (by decide), m.I 96 (by decide), m.I 99 (by decide), m.I 100 (by decide)]
    exact this
  · rw [e4, m.I 71 (by decide)]; exact a12
  · rw [m.I 105 (by decide)]; exact a13
  · unfold mRw cN cI at a14 ⊢
    rw [m.I 105 (by decide), m.I 106 (by decide), m.I 109 (by decide), m.I 110 (by decide), m.I 111 (by decide), m.I 112 (by decide), m.I 113 (by decide), m.J 114 (by decide), m.J 115 (by decide), m.I 116 (by decide), m.I 119 (by decide), m.I 70 (by decide)]; exact a14
  · unfold mKy cN at a15 ⊢
    rw [m.I 105 (by decide), m.I 106 (by decide), m.J 107 (by decide), m.J 108 (by decide), m.I 109 (by decide)]; exact a15
theorem MV.ro (h : MV t) (m : mfr Wr t t') (hr : ∀ r, r < cR t → mVr t' r) (z2 : ∀ r, cR t ≤ r → r < 6 → t'.I 59 r = 0 ∧ t'.I 63 r = 0) : MV t' := by
  obtain ⟨h0, h1, h2, h3, h4, h5⟩ := id h
  obtain ⟨q1, q2, q3, q4, q5, q6⟩ := h5
  refine h.cf (m.wk (by decide)) (fun i hi => (h2 i hi).fr m rfl) hr ?_ ?_ ?_
  · rw [m.I 29 (by decide)]; exact q2
  · rw [m.I 53 (by decide)]
    intro r hr h6
    obtain ⟨⟨w1, w2, w3, w4, w5, w6, w7⟩, w8⟩ := q3 r hr h6
    exact ⟨w2, w3, z2 r hr h6⟩
  · intro r p h6 hp h4
    have := q4 r p h6 hp h4
    unfold mZi at this ⊢
    simp only [m.I 74 (by decide), m.I 75 (by decide), m.I 79 (by decide), m.I 82 (by decide), m.I 89 (by decide), m.I 90 (by decide), m.I 95 (by decide), m.I 99 (by decide), m.I 100 (by decide)]
    exact this
/-- a router's timers -/
theorem tim_rr (h : RR G H sa x s t) (hM : MV t) {r : Nat} {v0 v1 v2 : Int32} (hr : r < cR t) (h0 : rng v0 1 1000) (h1 : rng v1 1 1000) (h2 : rng v2 1 1000) : RR G H sa x (cSE (cSE (cSE s (H 195 (G 1 r)) 0 v0) (H 195 (G 1 r)) 1 v1) (H 195 (G 1 r)) 2 v2) (moSI (moSI (moSI t 40 r v0) 41 r v1) 42 r v2) ∧ MV (moSI (moSI (moSI t 40 r v0) 41 r v1) 42 r v2) ∧ fr [123] [] [] s (cSE (cSE (cSE s (H 195 (G 1 r)) 0 v0) (H 195 (G 1 r)) 1 v1) (H 195 (G 1 r)) 2 v2) ∧ mfr [40, 41, 42] t (moSI (moSI (moSI t 40 r v0) 41 r v1) 42 r v2) := by
  have hq := h.q.1
  have hk := (hq.ty.r (hq.rt hr).1.1 195 123 3).2
  have f : fr [123] [] [] s (cSE (cSE (cSE s (H 195 (G 1 r)) 0 v0) (H 195 (G 1 r)) 1 v1) (H 195 (G 1 r)) 2 v2) := ((fr.se (by rw [hk]; decide)).tr (fr.se (by show (s.K _).1 ∈ _; rw [hk]; decide))).tr (fr.se (by show (s.K _).1 ∈ _; rw [hk]; decide))
  have m : mfr [40, 41, 42] t (moSI (moSI (moSI t 40 r v0) 41 r v1) 42 r v2) := ((mfr.si (by decide)).tr (mfr.si (by decide))).tr (mfr.si (by decide))
  have e40 : ∀ i, (moSI (moSI (moSI t 40 r v0) 41 r v1) 42 r v2).I 40 i = if i = r then v0 else t.I 40 i := fun i => by rw [moSI_n (by decide), moSI_n (by decide), moSI_s]; rfl
  have e41 : ∀ i, (moSI (moSI (moSI t 40 r v0) 41 r v1) 42 r v2).I 41 i = if i = r then v1 else t.I 41 i := fun i => by rw [moSI_n (by decide), moSI_s, moSI_n (by decide)]; rfl
  have e42 : ∀ i, (moSI (moSI (moSI t 40 r v0) 41 r v1) 42 r v2).I 42 i = if i = r then v2 else t.I 42 i := fun i => by rw [moSI_s, moSI_n (by decide), moSI_n (by decide)]; rfl
  have hg : RGl G H sa x (cSE (cSE (cSE s (H 195 (G 1 r)) 0 v0) (H 195 (G 1 r)) 1 v1) (H 195 (G 1 r)) 2 v2) := hq.1.v rfl rfl f rfl rfl rfl
  refine ⟨rr_rt h hM hg f.wk (fun _ _ => rfl) (m.wk (by decide)) fun r' hr' => ?_, hM.ro (m.wk (by decide)) (fun r' hr' => ?_) (fun r' hr' h6 => ?_), f, m⟩
  · obtain ⟨i1, i2, i3, i4, i5, i6, i7⟩ := hq.2.2.2.2.2.1 r' hr'
    have hv := hM.r hr'
    refine ⟨?_, i6.fr hq.ty i1.1.1 ⟨hv.2.2.2.2.2.2.1.1.n.2.2, hv.2.2.2.2.2.2.2.1.1.n.2.2⟩ f m rfl rfl rfl⟩
    obtain ⟨⟨a1, a2, a3⟩, ⟨nm, b1, b2, b3⟩, c, ⟨d0, d1, d2⟩, g⟩ := i1
    refine ⟨⟨a1, a2, a3⟩, ⟨nm, b1, b2.fr f (by decide) (by decide) (by decide) hg.2.2.1, b3⟩, ?_, ?_, ?_⟩
    · rw [m.I 39 (by decide), m.I 70 (by decide), m.I 43 (by decide), m.I 44 (by decide)]; exact c
    · rw [e40, e41, e42]
      by_cases er : r' = r
      · subst er
        rw [if_pos rfl, if_pos rfl, if_pos rfl]
        refine ⟨?_, ?_, ?_⟩
        · rw [cSE_i (by decide), cSE_i (by decide), cSE_v]
        · rw [cSE_i (by decide), cSE_v]
        · rw [cSE_v]
      · have hne : H 195 (G 1 r') ≠ H 195 (G 1 r) := fun e => er (hq.2.1.2.1 r' r hr' hr (hq.ty.i a1 (hq.rt hr).1.1 195 (by decide) e))
        rw [if_neg er, if_neg er, if_neg er, cSE_a hne, cSE_a hne, cSE_a hne]
        exact ⟨d0, d1, d2⟩
    · rw [(f.v (a := H 196 (G 1 r')) (u := 104) (by rw [(hq.ty.r a1 196 104 11).2]) (by decide)).2.2, m.I 45 (by decide)]; exact g
  · obtain ⟨a1, a2, a3, a4, a5, a6, a7, a8, a9, a10⟩ := id (hM.r hr')
    refine (hM.r hr').ro (m.wk (by decide)) ?_ ?_ ?_ ?_
    · rw [e40, e41, e42]
      by_cases er : r' = r
      · rw [if_pos er, if_pos er, if_pos er]; exact ⟨h0, h1, h2⟩
      · rw [if_neg er, if_neg er, if_neg er]; exact a3
    · rw [m.I 59 (by decide), m.I 60 (by decide), m.I 61 (by decide), m.I 62 (by decide)]; exact a7
    · rw [m.I 63 (by decide), m.I 64 (by decide), m.I 65 (by decide), m.I 66 (by decide), m.I 67 (by decide)]; exact a8
    · rw [m.I 68 (by decide), m.I 69 (by decide)]; exact a9
  · rw [m.I 59 (by decide), m.I 63 (by decide)]
    obtain ⟨⟨w1, w2, w3, w4, w5, w6, w7⟩, w8⟩ := hM.2.2.2.2.2.2.2.1 r' hr' h6
    exact ⟨w4, w5⟩
theorem nmR_i {o : Option Nat} {lo hi v : Nat} (h : nmR o lo hi = some v) : o = some v ∧ lo ≤ v ∧ v ≤ hi := by
  cases o with
  | none => cases h
  | some w =>
    have h : (if lo ≤ w ∧ w ≤ hi then some w else none) = some v := h
    split at h
    · cases h; exact ⟨rfl, by assumption⟩
    · cases h
theorem LX.tot {n : Nat} (h : LX G H sa x rd s t l ws) (hn : n < 2 ^ 31) : (nI ws.length = nI n ↔ ws.length = n) := nI_eq (by have := h.nw; omega) hn
theorem P_timers (h : LX G H sa x rd s t l ws) : LO G H sa x s t kc ks (M_lineTimers t) (C_Re_timersLine sa rd s kc ks) := by
  have hn := h.nw
  have h6 := h.mv.nR
  by_cases n5 : ws.length = 5
  rotate_left
  · have n5' : ¬ nI ws.length = (5 : Int32) := fun z => n5 ((h.tot (n := 5) (by decide)).mp z)
    refine LO.no h 2 ?_ fun Q kq => ?_
    · unfold M_lineTimers
      rw [h.ww, if_neg n5']
    · unfold C_Re_timersLine
      refine ⟨_, gd_to h.or, ?_⟩
      rw [w_tot h]
      exact ifF n5' (kq s fo.rf)
  have n1 : M_name t 1 = some (wM l ws 1) := h.name (i := 1) (by omega)
  have em : M_lineTimers t = if oI (nmF (t.J 38) (wM l ws 1) (cR t) 0) = -1 then some (3, t) else M_lineTimers_b29 t (oI (nmF (t.J 38) (wM l ws 1) (cR t) 0)) 2 := by
    unfold M_lineTimers
    rw [h.ww, if_pos (by rw [n5]; rfl), n1]
    simp only [Option.bind_some, m_routerNamed h.mv]
  have ec : ∀ Q : Int32 → cS → Nat → Nat → Prop, (if (nmF (t.J 38) (wM l ws 1) (cR t) 0).map (G 1) = none then Q 3 s kc ks else C_Re_timersLine_b24 sa rd ((nmF (t.J 38) (wM l ws 1) (cR t) 0).map (G 1)) 0 s kc ks Q) → C_Re_timersLine sa rd s kc ks Q := by
    intro Q k
    unfold C_Re_timersLine
    refine ⟨_, gd_to h.or, ?_⟩
    rw [w_tot h]
    exact ifT (by rw [n5]; rfl) ⟨h.or, w_routerNamed h.q h.mv h.rc (i := 1) (by omega) (by decide) k⟩
  cases er : nmF (t.J 38) (wM l ws 1) (cR t) 0 with
  | none =>
    rw [er] at em ec
    exact LO.no h 3 (em.trans (if_pos rfl)) fun Q kq => ec Q (by rw [if_pos (show Option.map (G 1) none = none from rfl)]; exact kq s fo.rf)
  | some r =>
    have hr := (nmF_s er).2.1
    have hr : r < cR t := by omega
    rw [er, if_neg (oI_n1 r (by omega)), show oI (some r) = nI r from rfl] at em
    rw [er] at ec
    have ec : ∀ Q : Int32 → cS → Nat → Nat → Prop, C_Re_timersLine_b24 sa rd (some (G 1 r)) 0 s kc ks Q → C_Re_timersLine sa rd s kc ks Q := fun Q k => ec Q (by rw [if_neg (show ¬ Option.map (G 1) (some r) = none by simp)]; exact k)
    have isn : ∀ i, i < 5 → M_isNumber t (nI i) 1 1000 = some (if (nmR (wN l ws i) 1 1000).isSome then 1 else 0) := fun i hi => h.isn (lo := 1) (hi := 1000) (by omega) (by decide) (by decide)
    have cnum : ∀ {st : cS} {Q : Int32 → cS → Nat → Nat → Prop} (L : LX G H sa x rd st t l ws) (i : Nat), i < 3 → Q (oI (nmR (wN l ws (2 + i)) 1 1000)) st kc ks → C_Re_number sa rd (2 + nI i) 1 1000 st kc ks Q := by
      intro st Q L i hi k
      rw [show (2 : Int32) = nI 2 from rfl, nI_add]
      exact w_number L.rc (i := 2 + i) (lo := 1) (hi := 1000) (by omega) (by decide) (by decide) (fun _ _ => k) (fun z => absurd ⟨by omega, by omega⟩ z)
    -- the model's loop, the class's first loop
    have mbad : ∀ i, i < 5 → nmR (wN l ws i) 1 1000 = none → M_lineTimers_s29 t (nI r) (nI i) = xo (some (4, t)) := by
      intro i hi hb
      unfold M_lineTimers_s29
      rw [if_pos (show nI _ < (5 : Int32) from nI_lt (b := 5) hi (by decide)), isn i hi, hb]
      rfl
    have mgo : ∀ i v, i < 5 → nmR (wN l ws i) 1 1000 = some v → M_lineTimers_s29 t (nI r) (nI i) = some (.inl (nI (i + 1), t)) := by
      intro i v hi hb
      unfold M_lineTimers_s29
      rw [if_pos (show nI _ < (5 : Int32) from nI_lt (b := 5) hi (by decide)), isn i hi, hb, nI_1]
      rfl
    have cbad : ∀ (Q : Int32 → cS → Nat → Nat → Prop) (P : Int32 → cS → Nat → Nat → Prop) i, i < 3 → nmR (wN l ws (2 + i)) 1 1000 = none → Q 4 s kc ks → C_Re_timersLine_s24 sa rd (some (G 1 r)) (nI i) s kc ks Q P := by
      intro Q P i hi hb k
      unfold C_Re_timersLine_s24
      refine ifT (nI_lt (b := 3) hi (by decide)) ⟨h.or, cnum h i hi ?_⟩
      rw [hb]
      exact ifT rfl k
    have cgo : ∀ (Q : Int32 → cS → Nat → Nat → Prop) (P : Int32 → cS → Nat → Nat → Prop) i v, i < 3 → nmR (wN l ws (2 + i)) 1 1000 = some v → P (nI (i + 1)) s kc ks → C_Re_timersLine_s24 sa rd (some (G 1 r)) (nI i) s kc ks Q P := by
      intro Q P i v hi hb k
      have hv := nmR_i hb
      unfold C_Re_timersLine_s24
      refine ifT (nI_lt (b := 3) hi (by decide)) ⟨h.or, cnum h i hi ?_⟩
      rw [hb, nI_1]
      exact ifF (oI_n1 v (by omega)) k
    unfold M_lineTimers_b29 at em
    cases e2 : nmR (wN l ws 2) 1 1000 with
    | none =>
      refine LO.no h 4 (em.trans (lp_x (mbad 2 (by decide) e2))) fun Q kq => ec Q ?_
      intro P hP
      exact hP _ _ _ _ (cbad Q P 0 (by decide) e2 (kq s fo.rf))
    | some v0 =>
      have em := em.trans (lp_l (f := fun y : Int32 × moS => M_lineTimers_s29 y.2 (nI r) y.1) (mgo 2 v0 (by decide) e2))
      cases e3 : nmR (wN l ws 3) 1 1000 with
      | none =>
        refine LO.no h 4 (em.trans (lp_x (mbad 3 (by decide) e3))) fun Q kq => ec Q ?_
        intro P hP
        exact hP _ _ _ _ (cgo Q P 0 v0 (by decide) e2 (hP _ _ _ _ (cbad Q P 1 (by decide) e3 (kq s fo.rf))))
      | some v1 =>
        have em := em.trans (lp_l (f := fun y : Int32 × moS => M_lineTimers_s29 y.2 (nI r) y.1) (mgo 3 v1 (by decide) e3))
        cases e4 : nmR (wN l ws 4) 1 1000 with
        | none =>
          refine LO.no h 4 (em.trans (lp_x (mbad 4 (by decide) e4))) fun Q kq => ec Q ?_
          intro P hP
          exact hP _ _ _ _ (cgo Q P 0 v0 (by decide) e2 (hP _ _ _ _ (cgo Q P 1 v1 (by decide) e3 (hP _ _ _ _ (cbad Q P 2 (by decide) e4 (kq s fo.rf))))))
        | some v2 =>
          have em := em.trans (lp_l (f := fun y : Int32 × moS => M_lineTimers_s29 y.2 (nI r) y.1) (mgo 4 v2 (by decide) e4))
          have b0 := nmR_i e2
          have b1 := nmR_i e3
          have b2 := nmR_i e4
          obtain ⟨g1, g2, g3, g4⟩ := tim_rr h.1 h.mv hr (v0 := nI v0) (v1 := nI v1) (v2 := nI v2) ⟨v0, rfl, b0.2⟩ ⟨v1, rfl, b1.2⟩ ⟨v2, rfl, b2.2⟩
          have num : ∀ (tt : moS), mfr [40, 41, 42] t tt → ∀ i v, i < 5 → wN l ws i = some v → M_number tt (nI i) = some (nI v) := by
            intro tt mm i v hi hv
            have L : LX G H sa x rd s tt l ws ∨ True := Or.inr trivial
            obtain ⟨-, -, -, -, hw, hu⟩ := id h
            have hw' : mWw tt ws := by
              unfold mWw at hw ⊢
              rw [mm.S 11 (by decide), mm.I 9 (by decide), mm.I 10 (by decide)]
              exact hw
            have hu' : uT tt (vc l) l.length := by
              refine ⟨hu.1, hu.2.1, fun i hi => ?_⟩
              have := hu.2.2 i hi
              unfold rdI at this ⊢
              rw [mm.I 2 (by decide), mm.2 2 (Or.inl (by decide))]
              exact this
            have := m_number hu' (by rw [mm.2 9 (Or.inl (by decide))]; exact h.n9.1) (by rw [mm.2 10 (Or.inl (by decide))]; exact h.n9.2.1) hw' (i := i) (by omega) (by omega) rfl (h.b (by omega)).1 (h.b (by omega)).2
            exact this.trans (congrArg (fun o => some (oI o)) hv)
          have q1 : mfr [40, 41, 42] t (moSI t 40 r (nI v0)) := mfr.si (by decide)
          have q2 : mfr [40, 41, 42] t (moSI (moSI t 40 r (nI v0)) 41 r (nI v1)) := q1.tr (mfr.si (by decide))
          have k0 : M_number t 2 = some (nI v0) := num t mfr.rf 2 v0 (by decide) b0.1
          have k1 : M_number (moSI t 40 r (nI v0)) 3 = some (nI v1) := num _ q1 3 v1 (by decide) b1.1
          have k2 : M_number (moSI (moSI t 40 r (nI v0)) 41 r (nI v1)) 4 = some (nI v2) := num _ q2 4 v2 (by decide) b2.1
          refine ⟨0, _, em.trans (lp_x (o := some (0, moSI (moSI (moSI t 40 r (nI v0)) 41 r (nI v1)) 42 r (nI v2))) ?_), g2, g4.wk (by decide), fun Q k => ec Q ?_⟩
          · show M_lineTimers_s29 t (nI r) (nI 5) = _
            unfold M_lineTimers_s29
            rw [if_neg (by decide), k0]
            simp only [Option.bind_some, wrI_n (h.mv.n.n 40 6) (show r < 6 by omega) (by decide), k1, wrI_n (t := moSI t 40 r (nI v0)) (h.mv.n.n 41 6) (show r < 6 by omega) (by decide), k2, wrI_n (t := moSI (moSI t 40 r (nI v0)) 41 r (nI v1)) (h.mv.n.n 42 6) (show r < 6 by omega) (by decide)]
          · intro P hP
            refine hP _ _ _ _ (cgo Q P 0 v0 (by decide) e2 (hP _ _ _ _ (cgo Q P 1 v1 (by decide) e3 (hP _ _ _ _ (cgo Q P 2 v2 (by decide) e4 (hP _ _ _ _ ?_))))))
            unfold C_Re_timersLine_s24
            refine ifF (by decide) ?_
            unfold C_Re_timersLine_b54
            intro P hP
            have a195 := h.q.ty.r (h.q.rt hr).1.1 195 123 3
            have wr : ∀ (st : cS) i v, i < 3 → LX G H sa x rd st t l ws ∨ True → st.K = s.K → st.P = s.P → nmR (wN l ws (2 + i)) 1 1000 = some v → RdC H x rd st l ws → P (nI (i + 1)) (cSE st (H 195 (G 1 r)) i (nI v)) kc ks → P (nI i) st kc ks := by
              intro st i v hi _ hK hP' hv hrc kP
              apply hP
              unfold C_Re_timersLine_s54
              have o9 : okO st 9 (G 1 r) := by have := okr (h.q.rt hr).1.1 9; unfold okO at this ⊢; rw [hK]; exact this
              refine ifT (nI_lt (b := 3) hi (by decide)) ⟨_, rfl, _, gd_to o9, hrc.2.1.1, ?_⟩
              rw [show (2 : Int32) = nI 2 from rfl, nI_add, hP', show s.P (20 * 9 + 15) (G 1 r) = some (H 195 (G 1 r)) from a195.1]
              refine w_number hrc (i := 2 + i) (lo := 1) (hi := 1000) (by omega) (by decide) (by decide) (fun _ _ => ?_) (fun z => absurd ⟨by omega, by omega⟩ z)
              have hv : nmR (nmb (vc l) (ws.getD (2 + i) (0, 0)).1 ((ws.getD (2 + i) (0, 0)).2 - (ws.getD (2 + i) (0, 0)).1)) 1 1000 = some v := hv
              rw [hv]
              refine ⟨_, rfl, _, gd_to ⟨by rw [hK, a195.2]; decide, by rw [hK, a195.2]; decide, by rw [hK, a195.2]; rfl, by rw [hK, a195.2]; exact vp_in_nI hi (by decide)⟩, ?_⟩
              rw [nI_clamp (by omega), nI_1]
              exact kP
            have rc : ∀ (st : cS) (i : Nat) (v : Int32), st.K = s.K → RdC H x rd st l ws → RdC H x rd (cSE st (H 195 (G 1 r)) i v) l ws := by
              intro st i v hK hrc
              obtain ⟨⟨cap, hb⟩, o, p, ⟨z1, z2⟩, ⟨y1, y2⟩, ⟨w1, w2⟩, w3⟩ := hrc
              have ne : ∀ a u n, st.K a = (u, n) → u ≠ 123 → a ≠ H 195 (G 1 r) := fun a u n e hu ea => by
                rw [ea, hK, a195.2] at e
                exact hu (congrArg Prod.fst e).symm
              refine ⟨⟨cap, ?_⟩, o, p, ⟨z1, z2⟩, ⟨y1, y2⟩, ⟨w1, fun j h1 h2 => ?_⟩, w3⟩
              · obtain ⟨c1, c2, d, c3, c4, c5, c6, c7, c8, c9⟩ := hb
                exact ⟨c1, c2, d, c3, c4, c5, c6, c7, c8, fun i hi => by rw [cSE_a (ne d 101 _ c4 (by decide))]; exact c9 i hi⟩
              · rw [cSE_a (ne _ 107 _ z2 (by decide)), cSE_a (ne _ 108 _ y2 (by decide))]
                exact w2 j h1 h2
            refine wr s 0 v0 (by decide) (Or.inr trivial) rfl rfl e2 h.rc ?_
            refine wr _ 1 v1 (by decide) (Or.inr trivial) rfl rfl e3 (rc _ _ _ rfl h.rc) ?_
            refine wr _ 2 v2 (by decide) (Or.inr trivial) rfl rfl e4 (rc _ _ _ rfl (rc _ _ _ rfl h.rc)) ?_
            apply hP
            unfold C_Re_timersLine_s54
            exact ifF (by decide) (k _ _ _ g1 ⟨g3.wk, by omega, by omega⟩)
end Tm
