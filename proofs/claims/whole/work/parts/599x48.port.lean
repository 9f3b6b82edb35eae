/-! Interfaces by the names of router and link, on both sides. -/
section If
variable {G H : Nat → Nat → Nat} {sa : Nat → Nat} {rd x kc ks : Nat} {s : cS} {t : moS} {l : List Int32} {ws : List (Nat × Nat)} {Q : Option Nat → cS → Nat → Nat → Prop}
theorem m_interfaceTo (hM : MV t) {r i : Nat} (hr : r < cR t) : M_interfaceTo t (nI r) (nI i) = some (oI (ifF' (t.I 71) (nI i) (cI t r) (4 * r))) := by
  have h6 := hM.nR
  have h4 := hM.nIf hr
  have e70 : t.I 70 r = nI (cI t r) := (hM.r hr).2.2.2.2.2.2.2.2.2.1.n.1
  have e4 : (4 : Int32) * nI r = nI (4 * r) := by rw [show (4 : Int32) = nI 4 from rfl, pk_mul]
  unfold M_interfaceTo M_interfaceTo_b4
  have loop : ∀ q j, j + q = 4 * r + cI t r → lp (fun y : Int32 => M_interfaceTo_s4 t (nI r) (nI i) y) (nI j) = some (oI (ifF' (t.I 71) (nI i) q j)) := by
    intro q
    induction q with
    | zero =>
      intro j hj
      refine lp_x ?_
      show M_interfaceTo_s4 t (nI r) (nI i) (nI j) = _
      unfold M_interfaceTo_s4
      rw [rdI_n (n := 6) (hM.n.n 70 6) (by omega) (by decide)]
      show (if nI j < 4 * nI r + t.I 70 r then _ else _) = _
      rw [e4, e70, nI_add, if_neg (nI_nlt (by omega) (by omega))]
      rfl
    | succ q ih =>
      intro j hj
      have st : M_interfaceTo_s4 t (nI r) (nI i) (nI j) = if t.I 71 j = nI i then xo (some (nI j)) else some (.inl (nI (j + 1))) := by
        unfold M_interfaceTo_s4
        rw [rdI_n (n := 6) (hM.n.n 70 6) (by omega) (by decide)]
        show (if nI j < 4 * nI r + t.I 70 r then _ else _) = _
        rw [e4, e70, nI_add, if_pos (nI_lt (by omega) (by omega)), rdI_n (n := 24) (hM.n.n 71 24) (by omega) (by decide), nI_1]
        rfl
      show lp (fun y : Int32 => M_interfaceTo_s4 t (nI r) (nI i) y) (nI j) = some (oI (if t.I 71 j = nI i then some j else ifF' (t.I 71) (nI i) q (j + 1)))
      by_cases ce : t.I 71 j = nI i
      · rw [if_pos ce] at st ⊢
        exact lp_x st
      · rw [if_neg ce] at st ⊢
        rw [lp_l (show (fun y : Int32 => M_interfaceTo_s4 t (nI r) (nI i) y) (nI j) = _ from st)]
        exact ih (j + 1) (by omega)
  rw [e4]
  exact loop (cI t r) (4 * r) (by omega)
theorem w_portOn (hq : RQ G H sa x s t) (hM : MV t) {r i : Nat} (hr : r < cR t) (hi : i < cL t) (k : Q ((ifF' (t.I 71) (nI i) (cI t r) (4 * r)).map (G 2)) s kc ks) : C_Rr_portOn sa (G 1 r) (some (G 0 i)) s kc ks Q := by
  have h6 := hM.nR
  have h4 := hM.nIf hr
  have h10 := hM.nL
  have hrt := hq.rt hr
  have e70 : t.I 70 r = nI (cI t r) := (hM.r hr).2.2.2.2.2.2.2.2.2.1.n.1
  have ha := hq.ty.r hrt.1.1 184 139 4
  have o9 := okr hrt.1.1 9
  unfold C_Rr_portOn C_Rr_portOn_b2
  intro P hP
  have loop : ∀ q j, j + q = cI t r → ifF' (t.I 71) (nI i) q (4 * r + j) = ifF' (t.I 71) (nI i) (cI t r) (4 * r) → P (nI j) s kc ks := by
    intro q
    induction q with
    | zero =>
      intro j hj hR
      have hR : none = ifF' (t.I 71) (nI i) (cI t r) (4 * r) := hR
      rw [← hR] at k
      apply hP
      unfold C_Rr_portOn_s2
      refine ⟨_, gd_to o9, ?_⟩
      rw [show s.I (20 * 9 + 5) (G 1 r) = nI (cI t r) from hrt.2.2.1.2.2.1.trans e70]
      exact ifF (nI_nlt (by omega) (by omega)) k
    | succ q ih =>
      intro j hj hR
      have hj' : j < cI t r := by omega
      have hR : (if t.I 71 (4 * r + j) = nI i then some (4 * r + j) else ifF' (t.I 71) (nI i) q (4 * r + j + 1)) = ifF' (t.I 71) (nI i) (cI t r) (4 * r) := hR
      obtain ⟨⟨z1, z2, z3⟩, -⟩ := hq.po hr hj'
      have hv := (hM.r hr).i hj'
      have e80 := hq.ty.p z1 80 7
      apply hP
      unfold C_Rr_portOn_s2
      refine ⟨_, gd_to o9, ?_⟩
      rw [show s.I (20 * 9 + 5) (G 1 r) = nI (cI t r) from hrt.2.2.1.2.2.1.trans e70]
      refine ifT (nI_lt hj' (by omega)) ⟨_, gd_to o9, _, ha.1, _, gd_to ⟨by rw [ha.2]; decide, by rw [ha.2]; decide, by rw [ha.2]; exact vp_in_nI (by omega) (by decide)⟩, ?_⟩
      rw [nI_clamp (by omega), z2]
      refine ⟨_, rfl, _, gd_to (okr z1 4), ?_⟩
      rw [show s.P (20 * 4 + 0) (G 2 (4 * r + j)) = some (H 80 (G 2 (4 * r + j))) from e80.1, z3]
      have hiff : G 0 (t.I 71 (4 * r + j)).toNatClampNeg = G 0 i ↔ t.I 71 (4 * r + j) = nI i := by
        constructor
        · intro e
          rw [hv.1.n.1, hq.2.1.1 _ _ hv.2.1 hi e]
        · intro e
          rw [e, nI_clamp (by omega)]
      by_cases ce : t.I 71 (4 * r + j) = nI i
      · rw [if_pos ce] at hR
        rw [← hR] at k
        refine ifT (congrArg some (hiff.mpr ce)) ⟨_, gd_to o9, _, ha.1, _, gd_to ⟨by rw [ha.2]; decide, by rw [ha.2]; decide, by rw [ha.2]; exact vp_in_nI (by omega) (by decide)⟩, ?_⟩
        rw [nI_clamp (by omega), z2]
        exact k
      · rw [if_neg ce] at hR
        refine ifF (fun z => ce (hiff.mp (Option.some.inj z))) ?_
        rw [nI_1]
        exact ih (j + 1) (by omega) hR
  exact loop (cI t r) 0 (by omega) rfl
/-- the interface that two names say -/
def pN (t : moS) (c1 c2 : Int64) : Option Nat := match nmF (t.J 38) c1 (cR t) 0 with
  | none => none
  | some r => match nmF (t.J 18) c2 (cL t) 0 with
    | none => none
    | some i => ifF' (t.I 71) (nI i) (cI t r) (4 * r)
theorem pN_s {c1 c2 : Int64} {q : Nat} (h : pN t c1 c2 = some q) : ∃ r p, r < cR t ∧ p < cI t r ∧ q = 4 * r + p := by
  unfold pN at h
  cases e1 : nmF (t.J 38) c1 (cR t) 0 with
  | none => rw [e1] at h; cases h
  | some r =>
    rw [e1] at h
    have h : (match nmF (t.J 18) c2 (cL t) 0 with
      | none => none
      | some i => ifF' (t.I 71) (nI i) (cI t r) (4 * r)) = some q := h
    cases e2 : nmF (t.J 18) c2 (cL t) 0 with
    | none => rw [e2] at h; cases h
    | some i =>
      rw [e2] at h
      have h3 := ifF_s h
      have h4 := nmF_s e1
      exact ⟨r, q - 4 * r, by omega, by omega, by omega⟩
theorem m_iw (h : LX G H sa x rd s t l ws) (h3 : 3 ≤ ws.length) : M_interfaceWords t = some (oI (pN t (wM l ws 1) (wM l ws 2))) := by
  unfold M_interfaceWords M_interfaceWords_b30
  have n1 : M_name t 1 = some (wM l ws 1) := h.name (i := 1) (by omega)
  have n2 : M_name t 2 = some (wM l ws 2) := h.name (i := 2) (by omega)
  rw [n1]
  show Option.bind (M_routerNamed t (wM l ws 1)) _ = _
  rw [m_routerNamed h.mv]
  show Option.bind (M_name t 2) _ = _
  rw [n2]
  show Option.bind (M_linkNamed t (wM l ws 2)) _ = _
  rw [m_linkNamed h.mv]
  have h6 := h.mv.nR
  have h10 := h.mv.nL
  unfold pN
  show (if oI (nmF (t.J 38) (wM l ws 1) (cR t) 0) = -1 then _ else _) = _
  cases e1 : nmF (t.J 38) (wM l ws 1) (cR t) 0 with
  | none => rw [if_pos (show oI none = -1 from rfl)]; rfl
  | some r =>
    have hr := nmF_s e1
    rw [if_neg (oI_n1 r (by omega))]
    cases e2 : nmF (t.J 18) (wM l ws 2) (cL t) 0 with
    | none => rw [if_pos (show oI none = -1 from rfl)]; rfl
    | some i =>
      have hi := nmF_s e2
      rw [if_neg (oI_n1 i (by omega)), show oI (some r) = nI r from rfl, show oI (some i) = nI i from rfl, m_interfaceTo h.mv (by omega)]
      rfl
theorem w_portNamed (h : LX G H sa x rd s t l ws) (h3 : 3 ≤ ws.length) (k : Q ((pN t (wM l ws 1) (wM l ws 2)).map (G 2)) s kc ks) : C_Re_portNamed sa rd s kc ks Q := by
  unfold C_Re_portNamed
  have h6 := h.mv.nR
  have h10 := h.mv.nL
  obtain ⟨-, ⟨o1, o2⟩, ⟨p1, p2⟩, -⟩ := id h.rc
  refine ⟨o1, w_routerNamed h.q h.mv h.rc (i := 1) (by omega) (by decide) ⟨_, gd_to o1, o1, w_linkNamed h.q h.mv h.rc (i := 2) (by omega) (by decide) ⟨_, p1, o2, ?_⟩⟩⟩
  unfold pN at k
  show C_Rf_linkAt sa x (oI (nmF (t.J 18) (wM l ws 2) (cL t) 0)) s kc ks _
  cases e2 : nmF (t.J 18) (wM l ws 2) (cL t) 0 with
  | none =>
    refine w_ln h.q h.mv (fun r hr e => oI_n1 r (by omega) e.symm) ?_
    show if Option.map (G 1) (nmF (t.J 38) (wM l ws 1) (cR t) 0) = none then _ else _
    cases e1 : nmF (t.J 38) (wM l ws 1) (cR t) 0 with
    | none => rw [e1] at k; exact ifT rfl k
    | some r => rw [e1, e2] at k; exact ifF (by simp) (ifT rfl k)
  | some i =>
    have hi := nmF_s e2
    refine w_la h.q h.mv (by omega) ?_
    show if Option.map (G 1) (nmF (t.J 38) (wM l ws 1) (cR t) 0) = none then _ else _
    cases e1 : nmF (t.J 38) (wM l ws 1) (cR t) 0 with
    | none => rw [e1] at k; exact ifT rfl k
    | some r =>
      have hr := nmF_s e1
      rw [e1, e2] at k
      exact ifF (by simp) (ifF (by simp) ⟨_, congrArg (Option.map (G 1)) (show nmF (t.J 38) (nmW (vc l) (ws.getD 1 (0, 0)).1 ((ws.getD 1 (0, 0)).2 - (ws.getD 1 (0, 0)).1)) (cR t) 0 = some r from e1), okr (h.q.rt (by omega)).1.1 9, w_portOn h.q h.mv (by omega) (by omega) k⟩)
end If
