/-! Lines: key. -/
section Kz
variable {G H : Nat → Nat → Nat} {sa : Nat → Nat} {rd x ch kc ks : Nat} {s s' : cS} {t t' : moS} {l : List Int32} {ws : List (Nat × Nat)}
theorem P_key (h : LX G H sa x rd s t l ws) : LO G H sa x s t kc ks (M_lineKey t) (C_Re_keyLine sa rd s kc ks) := by
  have hn := h.nw
  have h6 := h.mv.nR
  by_cases n8 : ws.length = 8
  rotate_left
  · have n8' : ¬ nI ws.length = (8 : Int32) := fun z => n8 ((h.tot (n := 8) (by decide)).mp z)
    refine LO.no h 2 ?_ fun Q kq => ?_
    · unfold M_lineKey
      rw [h.ww, if_neg n8']
    · unfold C_Re_keyLine
      refine ⟨_, gd_to h.or, ?_⟩
      rw [w_tot h]
      exact ifF n8' (kq s fo.rf)
  have n8' : nI ws.length = (8 : Int32) := by rw [n8]; rfl
  have c4 : M_code t 4 = some (wC l ws 4) := h.code (i := 4) (by omega)
  by_cases ck : wC l ws 4 = 20992 ∨ wC l ws 4 = 30721
  rotate_left
  · refine LO.no h 2 ?_ fun Q kq => ?_
    · unfold M_lineKey
      rw [h.ww, if_pos n8', c4]
      simp only [Option.bind_some]
      rw [if_neg (fun z => ck (Or.inl z)), if_neg (fun z => ck (Or.inr z))]
    · unfold C_Re_keyLine
      refine ⟨_, gd_to h.or, ?_⟩
      rw [w_tot h]
      exact ifT n8' ⟨h.or, w_isE h.rc h.tk (i := 4) 20992 30721 (by omega) (by decide) (fun z => absurd z ck) (fun _ _ => ifT rfl (kq s fo.rf))⟩
  have em : M_lineKey t = M_lineKey_b35 t := by
    unfold M_lineKey
    rw [h.ww, if_pos n8', c4]
    simp only [Option.bind_some]
    by_cases e : wC l ws 4 = 20992
    · rw [if_pos e]
    · rw [if_neg e, if_pos (ck.resolve_left e)]
  have iw := m_iw h (by omega)
  cases ep : pN t (wM l ws 1) (wM l ws 2) with
  | none =>
    rw [ep] at iw
    refine LO.no h 3 ?_ fun Q kq => ?_
    · rw [em]
      unfold M_lineKey_b35
      rw [iw]
      rfl
    · unfold C_Re_keyLine
      refine ⟨_, gd_to h.or, ?_⟩
      rw [w_tot h]
      refine ifT n8' ⟨h.or, w_isE h.rc h.tk (i := 4) 20992 30721 (by omega) (by decide) (fun _ => ifF (by decide) ⟨h.or, w_portNamed h (by omega) ?_⟩) (fun z1 z2 => absurd ck (fun z => z.elim z1 z2))⟩
      rw [ep]
      exact ifT rfl (kq s fo.rf)
  | some q =>
    obtain ⟨r, p, hr, hp, rfl⟩ := pN_s ep
    have h4 := h.mv.nIf hr
    have hch := rq_ch h.q hr hp
    rw [ep] at iw
    have i3 : M_isNumber t 3 0 255 = _ := h.isn (i := 3) (lo := 0) (hi := 255) (by omega) (by decide) (by decide)
    have i6 : M_isNumber t 6 0 99999 = _ := h.isn (i := 6) (lo := 0) (hi := 99999) (by omega) (by decide) (by decide)
    have i7 : M_isNumber t 7 0 99999 = _ := h.isn (i := 7) (lo := 0) (hi := 99999) (by omega) (by decide) (by decide)
    have i5 : M_isSecret t 5 = _ := m_secret h (i := 5) (by omega)
    have m3 : M_number t 3 = some (oI (wN l ws 3)) := h.num (i := 3) (by omega)
    have m6 : M_number t 6 = some (oI (wN l ws 6)) := h.num (i := 6) (by omega)
    have m7 : M_number t 7 = some (oI (wN l ws 7)) := h.num (i := 7) (by omega)
    have lf : ∀ s1, fe (H 147 rd) s s1 → fr Rc Pc Qc s s1 := fun s1 f1 => (f1.fr (by rw [h.sr.2])).wk
    -- the class up to the numbers
    have cls : ∀ Q : Int32 → cS → Nat → Nat → Prop, (nmR (wN l ws 3) 0 255 = none → Q 4 s kc ks) → ((nmR (wN l ws 3) 0 255).isSome → ¬ sOK l ws 5 → ∀ s1, fe (H 147 rd) s s1 → Q 4 s1 kc ks) → ((nmR (wN l ws 3) 0 255).isSome → sOK l ws 5 → ∀ s1, fe (H 147 rd) s s1 → (∀ j, j < 16 → s1.E (H 147 rd) j = (wS l ws 5).getD j 0) → if oI (nmR (wN l ws 6) 0 99999) = -1 then Q 4 s1 kc ks else if oI (nmR (wN l ws 7) 0 99999) = -1 then Q 4 s1 kc ks else if oI (nmR (wN l ws 7) 0 99999) < oI (nmR (wN l ws 6) 0 99999) then Q 4 s1 kc ks else C_Re_keyLine_b119 sa rd (some (G 2 (4 * r + p))) (oI (nmR (wN l ws 3) 0 255)) (oI (nmR (wN l ws 6) 0 99999)) (oI (nmR (wN l ws 7) 0 99999)) (if wC l ws 4 = 20992 then 16 else 20) s1 kc ks Q) → C_Re_keyLine sa rd s kc ks Q := by
      intro Q k3 k5 kk
      unfold C_Re_keyLine
      refine ⟨_, gd_to h.or, ?_⟩
      rw [w_tot h]
      refine ifT n8' ⟨h.or, w_isE h.rc h.tk (i := 4) 20992 30721 (by omega) (by decide) (fun _ => ifF (by decide) ⟨h.or, w_portNamed h (by omega) ?_⟩) (fun z1 z2 => absurd ck (fun z => z.elim z1 z2))⟩
      rw [ep]
      refine ifF (by simp) ⟨h.or, w_number h.rc (i := 3) (lo := 0) (hi := 255) (by decide) (by decide) (by decide) (fun _ _ => ⟨h.or, w_number h.rc (i := 6) (lo := 0) (hi := 99999) (by decide) (by decide) (by decide) (fun _ _ => ⟨h.or, w_number h.rc (i := 7) (lo := 0) (hi := 99999) (by decide) (by decide) (by decide) (fun _ _ => ?_) (fun z => absurd ⟨by omega, by decide⟩ z)⟩) (fun z => absurd ⟨by omega, by decide⟩ z)⟩) (fun z => absurd ⟨by omega, by decide⟩ z)⟩
      show if oI (nmR (wN l ws 3) 0 255) = -1 then _ else _
      cases e3 : nmR (wN l ws 3) 0 255 with
      | none => exact ifT rfl (k3 e3)
      | some v =>
        have hv := nmR_i e3
        refine ifF (oI_n1 v (by omega)) ⟨h.or, w_secret h (i := 5) (by omega) (by decide) (fun z s1 f1 => ifT rfl (k5 (by rw [e3]; rfl) z s1 f1)) (fun z s1 f1 he => ifF (by decide) ?_)⟩
        have kk := kk (by rw [e3]; rfl) z s1 f1 (fun j hj => by rw [he j hj, wS_e])
        have L := h.fe f1
        by_cases e6 : oI (nmR (wN l ws 6) 0 99999) = -1
        · rw [if_pos e6] at kk; exact ifT e6 kk
        rw [if_neg e6] at kk
        refine ifF e6 ?_
        by_cases e7 : oI (nmR (wN l ws 7) 0 99999) = -1
        · rw [if_pos e7] at kk; exact ifT e7 kk
        rw [if_neg e7] at kk
        refine ifF e7 ?_
        by_cases e8 : oI (nmR (wN l ws 7) 0 99999) < oI (nmR (wN l ws 6) 0 99999)
        · rw [if_pos e8] at kk; exact ifT e8 kk
        rw [if_neg e8] at kk
        refine ifF e8 ⟨L.or, w_isK L.rc L.tk (i := 4) 20992 (by omega) (by decide) (fun e => ?_) (fun e => ?_)⟩
        · rw [if_pos e] at kk; exact ifF (by decide) kk
        · rw [if_neg e] at kk; exact ifT rfl kk
    have b35 : M_lineKey t = if (nmR (wN l ws 3) 0 255).isSome then (if sOK l ws 5 then (if (nmR (wN l ws 6) 0 99999).isSome then (if (nmR (wN l ws 7) 0 99999).isSome then (if oI (wN l ws 7) < oI (wN l ws 6) then some (4, t) else Option.bind (rdI t 79 (nI (4 * r + p))) (fun x8 => (if x8 = (2 : Int32) then (Option.bind (rdI t 82 (nI (4 * r + p))) (fun x9 => (if x9 = (4 : Int32) then (Option.bind (M_number t (3 : Int32)) (fun x10 => (Option.bind (M_keyPlace t (nI (4 * r + p)) x10) (fun x11 => (if x11 = (4 : Int32) then ((some ((6 : Int32), t))) else ((M_lineKey_b147 t (nI (4 * r + p)))))))))else ((M_lineKey_b147 t (nI (4 * r + p))))))) else ((M_lineKey_b147 t (nI (4 * r + p))))))) else some (4, t)) else some (4, t)) else some (4, t)) else some (4, t) := by
      rw [em]
      unfold M_lineKey_b35
      rw [iw]
      simp only [Option.bind_some]
      rw [if_neg (oI_n1 (4 * r + p) (by omega)), i3]
      simp only [Option.bind_some]
      by_cases e3 : (nmR (wN l ws 3) 0 255).isSome
      rotate_left
      · rw [if_neg e3, if_neg e3, if_pos rfl]
      rw [if_pos e3, if_pos e3, if_neg (by decide), i5]
      simp only [Option.bind_some]
      by_cases e5 : sOK l ws 5
      rotate_left
      · rw [if_neg e5, if_neg e5, if_pos rfl]
      rw [if_pos e5, if_pos e5, if_neg (by decide), i6]
      simp only [Option.bind_some]
      by_cases e6 : (nmR (wN l ws 6) 0 99999).isSome
      rotate_left
      · rw [if_neg e6, if_neg e6, if_pos rfl]
      rw [if_pos e6, if_pos e6, if_neg (by decide), i7]
      simp only [Option.bind_some]
      by_cases e7 : (nmR (wN l ws 7) 0 99999).isSome
      rotate_left
      · rw [if_neg e7, if_neg e7, if_pos rfl]
      rw [if_pos e7, if_pos e7, if_neg (by decide), m6, m7]
      simp only [Option.bind_some]
      rfl
    by_cases e3 : (nmR (wN l ws 3) 0 255).isSome
    rotate_left
    · rw [if_neg e3] at b35
      exact LO.no h 4 b35 fun Q kq => cls Q (fun _ => kq s fo.rf) (fun z => absurd z e3) (fun z => absurd z e3)
    rw [if_pos e3] at b35
    have n3 : nmR (wN l ws 3) 0 255 ≠ none := fun z => by rw [z] at e3; cases e3
    have fault : M_lineKey t = some (4, t) → (∀ Q : Int32 → cS → Nat → Nat → Prop, (∀ s1, fe (H 147 rd) s s1 → Q 4 s1 kc ks) → C_Re_keyLine sa rd s kc ks Q) → LO G H sa x s t kc ks (M_lineKey t) (C_Re_keyLine sa rd s kc ks) := fun e k => ⟨4, t, e, h.mv, mfr.rf, fun Q kq => k Q fun s1 f1 => kq s1 kc ks (h.fe f1).1 ⟨lf s1 f1, by omega, by omega⟩⟩
    by_cases e5 : sOK l ws 5
    rotate_left
    · rw [if_neg e5] at b35
      exact fault b35 fun Q kq => cls Q (fun z => absurd z n3) (fun _ _ s1 f1 => kq s1 f1) (fun _ z => absurd z e5)
    rw [if_pos e5] at b35
    have cls : ∀ Q : Int32 → cS → Nat → Nat → Prop, _ → C_Re_keyLine sa rd s kc ks Q := fun Q k => cls Q (fun z => absurd z n3) (fun _ z => absurd e5 z) (fun _ _ => k)
    obtain ⟨v3, hv3⟩ := Option.isSome_iff_exists.mp e3
    have w3 := nmR_i hv3
    cases e6 : nmR (wN l ws 6) 0 99999 with
    | none =>
      rw [e6] at b35 cls
      exact fault b35 fun Q kq => cls Q fun s1 f1 _ => by rw [if_pos (show oI none = -1 from rfl)]; exact kq s1 f1
    | some v6 =>
    have w6 := nmR_i e6
    cases e7 : nmR (wN l ws 7) 0 99999 with
    | none =>
      rw [e6, e7] at b35 cls
      exact fault b35 fun Q kq => cls Q fun s1 f1 _ => by rw [if_neg (oI_n1 v6 (by omega)), if_pos (show oI none = -1 from rfl)]; exact kq s1 f1
    | some v7 =>
    have w7 := nmR_i e7
    rw [e6, e7, w6.1, w7.1, if_pos (show (some v6).isSome = true from rfl), if_pos (show (some v7).isSome = true from rfl)] at b35
    rw [e6, e7, hv3] at cls
    have cls : ∀ Q : Int32 → cS → Nat → Nat → Prop, (∀ s1, fe (H 147 rd) s s1 → (∀ j, j < 16 → s1.E (H 147 rd) j = (wS l ws 5).getD j 0) → if oI (some v7) < oI (some v6) then Q 4 s1 kc ks else C_Re_keyLine_b119 sa rd (some (G 2 (4 * r + p))) (oI (some v3)) (oI (some v6)) (oI (some v7)) (if wC l ws 4 = 20992 then 16 else 20) s1 kc ks Q) → C_Re_keyLine sa rd s kc ks Q := fun Q k => cls Q fun s1 f1 he => by
      rw [if_neg (oI_n1 v6 (by omega)), if_neg (oI_n1 v7 (by omega))]
      exact k s1 f1 he
    by_cases e8 : v7 < v6
    · have e8' : oI (some v7) < oI (some v6) := nI_lt e8 (by omega)
      rw [if_pos e8'] at b35
      exact fault b35 fun Q kq => cls Q fun s1 f1 _ => by rw [if_pos e8']; exact kq s1 f1
    have e8' : ¬ oI (some v7) < oI (some v6) := nI_nlt (by omega) (by omega)
    rw [if_neg e8'] at b35
    -- what both sides have
    obtain ⟨hV, hC, hm⟩ := ch_of (h.q.po hr hp).2.2.2.2.2.2.1 ((h.mv.r hr).i hp)
    generalize mcV t (4 * r + p) = V at hV hC hm
    have hL := hV.2.1
    have hle := kIx_le (nI v3) V.2.2
    have kp : M_keyPlace t (nI (4 * r + p)) (nI v3) = some (nI (kIx (nI v3) V.2.2)) := m_keyPlace h.mv.n (by omega) hL hm.2.1 (fun k v hv => (hm.2.2.1 k v hv).1)
    rw [rdI_n (n := 24) (h.mv.n.n 79 24) (by omega) (by decide), hm.1, rdI_n (n := 24) (h.mv.n.n 82 24) (by omega) (by decide), hm.2.1, m3, w3.1] at b35
    simp only [Option.bind_some] at b35
    rw [show oI (some v3) = nI v3 from rfl, kp] at b35
    simp only [Option.bind_some] at b35
    have hcls : ∀ Q : Int32 → cS → Nat → Nat → Prop, (∀ s1, fe (H 147 rd) s s1 → C_Ch_setKey sa (H 86 (G 2 (4 * r + p))) (nI v3) (if wC l ws 4 = 20992 then 16 else 20) (some (H 147 rd)) (nI v6) (nI v7) s1 kc ks (fun r5 sr5 cr5 dr5 => (if r5 = 0 then (Q (6 : Int32) sr5 cr5 dr5) else (Q (0 : Int32) sr5 cr5 dr5))) ∨ ¬ (∀ j, j < 16 → s1.E (H 147 rd) j = (wS l ws 5).getD j 0)) → C_Re_keyLine sa rd s kc ks Q := by
      intro Q k
      refine cls Q fun s1 f1 he => ?_
      rw [if_neg e8']
      have L := h.fe f1
      have hch1 := rq_ch L.q hr hp
      unfold C_Re_keyLine_b119
      refine ⟨_, rfl, _, gd_to (okr (L.q.po hr hp).1.1 4), _, gd_to L.or, _, hch1.1, hch1.2.2, ?_⟩
      rw [show s1.P (20 * 7 + 7) rd = some (H 147 rd) from L.sr.1]
      rcases k s1 f1 with k | k
      · exact k
      · exact absurd he k
    have cc1 : ∀ s1, fe (H 147 rd) s s1 → CC H s1 (H 86 (G 2 (4 * r + p))) V := by
      intro s1 f1
      have hk := chK h.q.1 hch.2.2
      have ne : ∀ {b u m : Nat}, s.K b = (u, m) → u ≠ 127 → b ≠ H 147 rd := fun h1 h2 e => by
        rw [e, h.sr.2] at h1
        exact h2 (congrArg Prod.fst h1).symm
      obtain ⟨x1, x2, x3, x4⟩ := hC
      unfold CC
      rw [f1.2.2.2.2.1, f1.2.2.2.1, f1.2.2.2.2.2 _ (ne hk.1.2 (by decide)), f1.2.2.2.2.2 _ (ne hk.2.1.2 (by decide)), f1.2.2.2.2.2 _ (ne hk.2.2.1.2 (by decide)), f1.2.2.2.2.2 _ (ne hk.2.2.2.1.2 (by decide)), f1.2.2.2.2.2 _ (ne hk.2.2.2.2.1.2 (by decide))]
      refine ⟨x1, x2, fun k v hv => ?_, x4⟩
      obtain ⟨d1, d2, d3, d4, d5⟩ := x3 k v hv
      refine ⟨d1, d2, d3, d4, fun w hw i hi => ?_⟩
      have hk4 : k < 4 := by have := (List.getElem?_eq_some_iff.mp hv).1; omega
      obtain ⟨w', g1, g2⟩ := hk.2.2.2.2.2.2 k hk4
      have ew : w' = w := Option.some.inj (g1.symm.trans hw)
      subst ew
      rw [f1.2.2.2.2.2 _ (ne g2 (by decide))]
      exact d5 _ hw i hi
    have hsz : (if wC l ws 4 = 20992 then (16 : Int32) else 20) = if (if wC l ws 4 = 30721 then (1 : Int32) else 0) = 0 then 16 else 20 := by
      by_cases e : wC l ws 4 = 20992
      · rw [if_pos e, if_neg (show ¬ wC l ws 4 = 30721 by rw [e]; decide), if_pos rfl]
      · rw [if_neg e, if_pos (ck.resolve_left e), if_neg (by decide)]
    have hsec := wS_ok e5 (h.b (i := 5) (by omega)).1
    by_cases c4' : kIx (nI v3) V.2.2 < 4
    rotate_left
    · have hl4 : V.2.2.length = 4 := by omega
      have hx4 : kIx (nI v3) V.2.2 = 4 := by omega
      have hk2 : V.1 = 2 := hV.2.2.1.mpr (by omega)
      rw [if_pos (by rw [hk2]; rfl), if_pos (by rw [hl4]; rfl), if_pos (by rw [hx4]; rfl)] at b35
      refine ⟨6, t, b35, h.mv, mfr.rf, fun Q kq => hcls Q fun s1 f1 => ?_⟩
      have L := h.fe f1
      by_cases he : ∀ j, j < 16 → s1.E (H 147 rd) j = (wS l ws 5).getD j 0
      · exact Or.inl (w_setKey (sha := if wC l ws 4 = 30721 then 1 else 0) L.q.1 (rq_ch L.q hr hp).2.2 hV (cc1 s1 f1) L.sr.2 he hsec hsz (fun _ => ifT rfl (kq s1 kc ks L.1 ⟨lf s1 f1, by omega, by omega⟩)) (fun z => absurd z c4'))
      · exact Or.inr he
    have b147 : M_lineKey t = M_lineKey_b147 t (nI (4 * r + p)) := by
      rw [b35]
      by_cases e1 : nI V.1 = (2 : Int32)
      · rw [if_pos e1]
        by_cases e2 : nI V.2.2.length = (4 : Int32)
        · rw [if_pos e2, if_neg (fun z => by have := (nI_eq (b := 4) (show kIx (nI v3) V.2.2 < 2 ^ 31 by omega) (by decide)).mp z; omega)]
        · rw [if_neg e2]
      · rw [if_neg e1]
    have hbit : bit (if wC l ws 4 = 30721 then (1 : Int32) else 0) := by
      by_cases e : wC l ws 4 = 30721
      · rw [if_pos e]; exact Or.inr rfl
      · rw [if_neg e]; exact Or.inl rfl
    obtain ⟨t', q1, q2, q3⟩ := m_key (w := 5) (num := nI v3) (sha := if wC l ws 4 = 30721 then 1 else 0) (fr' := nI v6) (to := nI v7) h.wx h.mv.n (by omega) (by omega) e5 hV hm hbit c4'
    have hfin : M_lineKey t = some (0, t') := by
      rw [b147]
      unfold M_lineKey_b147 M_lineKey_b171
      rw [m3, w3.1, c4, m6, w6.1, m7, w7.1]
      simp only [Option.bind_some]
      rw [show oI (some v3) = nI v3 from rfl, show oI (some v6) = nI v6 from rfl, show oI (some v7) = nI v7 from rfl]
      by_cases e : wC l ws 4 = 30721
      · rw [if_pos e] at q1 ⊢
        rw [show (5 : Int32) = nI 5 from rfl, q1]; rfl
      · rw [if_neg e] at q1 ⊢
        rw [show (5 : Int32) = nI 5 from rfl, q1]; rfl
    have hVk : VV (vKey V (nI v3, (if wC l ws 4 = 30721 then 1 else 0), wS l ws 5, nI v6, nI v7)) := hV.key ⟨⟨v3, rfl, w3.2⟩, hbit, hsec, ⟨v6, rfl, w6.2⟩, ⟨v7, rfl, w7.2⟩⟩ c4'
    have hMV : MV t' := mv_ch h.mv hr hp q2 hVk q3
    refine ⟨0, t', hfin, hMV, q2.1.wk (by decide), fun Q kq => hcls Q fun s1 f1 => ?_⟩
    have L := h.fe f1
    have hch1 := rq_ch L.q hr hp
    by_cases he : ∀ j, j < 16 → s1.E (H 147 rd) j = (wS l ws 5).getD j 0
    · refine Or.inl (w_setKey (sha := if wC l ws 4 = 30721 then 1 else 0) L.q.1 hch1.2.2 hV (cc1 s1 f1) L.sr.2 he hsec hsz (fun z => absurd c4' z) (fun _ s' f' hC' he21 => ifF (by decide) ?_))
      have hk := chK L.q.1 hch1.2.2
      obtain ⟨g1, g2⟩ := ch_one L.1 L.mv hr hp f' (fun i hi => by rw [he21]; exact L.q.1.2.2.2.2.2.2.2.2.2.2.2.2.2.2.1 _ i (by rw [hk.1.2]) hi) q2 hVk hC' q3
      exact kq s' kc ks g1 ⟨(lf s1 f1).tr (f'.fr L.q.1 hch1.2.2).wk, by omega, by omega⟩
    · exact Or.inr he
end Kz
