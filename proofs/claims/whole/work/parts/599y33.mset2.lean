/-! The model settles a router: all of it. -/
theorem stp_some {tg : Int32} {d : Option DU} {w : NV} : (stp tg d (some w)).1 ≠ none := by
  cases d with
  | none =>
    show (if w.1 = 2 then (some w, false) else _).1 ≠ none
    split <;> simp
  | some d =>
    show (if ownS d w then (some (ownV d w.2.2.2.2.1), false) else (some (ownV d 1), true)).1 ≠ none
    split <;> simp
section M2
variable {t t0 t1 t2 : moS} {r j : Nat} {K : List Pf} {P : Pf}
theorem mfr.sym {W : List Nat} (h : mfr W t t1) : mfr W t1 t := ⟨fun k hk => by
  obtain ⟨a, b, c, d⟩ := h.1 k hk
  exact ⟨a.symm, b.symm, c.symm, d.symm⟩, fun k hk => (h.2 k hk).symm⟩
theorem rwT.sym (h : rwT r t t1) : rwT r t1 t := by
  obtain ⟨a1, a2, a3, a4, a5, a6⟩ := h
  exact ⟨a1.sym, fun j hj => (a2 j hj).symm, fun j hj => (a3 j hj).symm, fun j hj => (a4 j hj).symm, fun k hk j hj => (a5 k hk j hj).symm, fun k hk j hj => (a6 k hk j hj).symm⟩
theorem s16_sa (hM : MV t) (hr : r < cR t) (hj : j < cN t r) : M_settle_s16 t (nI r) (nI (2700 * r + j)) = Option.bind (SA t r (t.I 106 (2700 * r + j)) (t.J 107 (2700 * r + j)) (t.J 108 (2700 * r + j)) (t.I 109 (2700 * r + j))) fun t' => some (.inl (nI (2700 * r + (j + 1)), t')) := by
  have h6 := hM.nR
  obtain ⟨e105, h8⟩ := hM.c5 hr
  have e2700 : (2700 : Int32) * nI r = nI (2700 * r) := by rw [show (2700 : Int32) = nI 2700 from rfl, pk_mul]
  have hf := hM.kl hr hj
  have hF : M_find t (nI r) (t.I 106 (2700 * r + j)) (t.J 107 (2700 * r + j)) (t.J 108 (2700 * r + j)) (t.I 109 (2700 * r + j)) = some (nI (2700 * r + j)) := by
    rcases m_find (h := t.J 107 (2700 * r + j)) (l := t.J 108 (2700 * r + j)) hM hr hf with ⟨y, -⟩ | ⟨j', y1, y2, y3⟩
    · exact absurd rfl (y j hj)
    · have y2 : kyR t (2700 * r + j') = kyR t (2700 * r + j) := y2
      have : j' = j := by
        rcases Nat.lt_trichotomy j' j with q | q | q
        · have := hM.ks hr q hj; omega
        · exact q
        · have := hM.ks hr q y1; omega
      rw [← this] at y3 ⊢
      exact y3
  have rI : ∀ g, g ∈ fRA → rdI t g (nI (2700 * r + j)) = some (t.I g (2700 * r + j)) := fun g hg => rdI_n (n := 16200) (hM.row g hg) (by omega) (by decide)
  have rJ : ∀ g, g ∈ fRA → rdJ t g (nI (2700 * r + j)) = some (t.J g (2700 * r + j)) := fun g hg => rdJ_n (n := 16200) (hM.row g hg) (by omega) (by decide)
  have b89 : ∀ t', M_settle_b89 t' (nI r) (nI (2700 * r + j)) = some (.inl (nI (2700 * r + (j + 1)), t')) := fun t' => by
    unfold M_settle_b89
    rw [nI_1]
    rfl
  unfold M_settle_s16 SA
  rw [rdI_n (n := 6) (hM.n.n 105 6) (by omega) (by decide), e105, hF]
  show (if nI (2700 * r + j) < 2700 * nI r + nI (cN t r) then _ else _) = _
  rw [e2700, nI_add, if_pos (nI_lt (by omega) (by omega)), rI 106 (by decide), rJ 107 (by decide), rJ 108 (by decide), rI 109 (by decide)]
  simp only [Option.bind_some]
  rw [if_neg (nI_ne (by omega))]
  rcases m_isDue (h := t.J 107 (2700 * r + j)) (l := t.J 108 (2700 * r + j)) hM hr hf with ⟨dk, dm, di, dt, td, hd, hD, m, -⟩ | ⟨hno, td, hD, m⟩
  · rw [hD, bn2_s, bn2_s, if_neg (by decide), if_neg (by decide)]
    cases M_become td (nI r) (nI (2700 * r + j)) with
    | none => rfl
    | some y => exact b89 y
  · have hM' : MV td := hM.fr m rfl (hM.1.fr m rfl)
    rw [hD, bn2_s, bn2_s, if_pos rfl, if_pos rfl, rdI_n (n := 16200) (hM'.row 110 (by decide)) (by omega) (by decide)]
    simp only [Option.bind_some]
    by_cases c : td.I 110 (2700 * r + j) = 2
    · rw [if_pos c, if_pos c]
      exact b89 td
    · rw [if_neg c, if_neg c]
      cases M_forsake td (nI r) (nI (2700 * r + j)) with
      | none => rfl
      | some y => exact b89 y
theorem m_set1 (hM0 : MV t0) (hr : r < cR t0) (hK : ∀ k, k < cSt t0 r → stP t0 (32 * r + k) ∈ K) (hK2 : ∀ y, y < 2 * cI t0 r → t0.I 75 (8 * r + y) ≠ 0 → neP t0 r y ∈ K) (hK1 : ∀ i, i < cN t0 r → pfR t0 (2700 * r + i) ∈ K) : ∀ q j t, j + q = cN t0 r → SQ K t0 r t → cN t r = cN t0 r → (∀ i, i < cN t0 r → pfR t (2700 * r + i) = pfR t0 (2700 * r + i)) → (∀ i, i < j → stM t0 r (pfR t0 (2700 * r + i)) (al t r) = al t r) → ∃ t', lp (fun x : Int32 × moS => M_settle_s16 x.2 (nI r) x.1) (nI (2700 * r + j), t) = some t' ∧ SQ K t0 r t' ∧ PS t0 r t' ∧ al t' r = fld (stM t0 r) (L1M t0 r q j ++ (L2M t0 r (2 * cI t0 r) 0 ++ L3M t0 r (cSt t0 r) 0)) (al t r) := by
  have h6 := hM0.nR
  have h9 := hM0.nRo hr
  have e2700 : (2700 : Int32) * nI r = nI (2700 * r) := by rw [show (2700 : Int32) = nI 2700 from rfl, pk_mul]
  have e8 : (8 : Int32) * nI r = nI (8 * r + 0) := by rw [show (8 : Int32) = nI 8 from rfl, pk_mul]; rfl
  intro q
  induction q with
  | zero =>
    intro j t hj sq hn hp hs
    have hM := sq.1
    have hr1 := sq.cr hr
    have ps : PS t0 r t := fun P hP => by
      have : ∃ i, i < cN t r ∧ pfR t (2700 * r + i) = P := by
        apply Classical.byContradiction
        intro z
        exact hP (Vt_none fun i h1 h2 => z ⟨i, h1, h2⟩)
      obtain ⟨i, h1, h2⟩ := this
      rw [← h2, hp i (by omega)]
      exact hs i (by omega)
    obtain ⟨t1, e1, q1, p1, a1⟩ := m_set2 hM0 hr hK hK2 (2 * cI t0 r) 0 t (by omega) sq ps
    refine ⟨t1, lp_x ?_, q1, p1, a1⟩
    show M_settle_s16 t (nI r) (nI (2700 * r + j)) = _
    unfold M_settle_s16
    rw [rdI_n (n := 6) (hM.n.n 105 6) (by omega) (by decide), (hM.c5 hr1).1, hn]
    show (if nI (2700 * r + j) < 2700 * nI r + nI (cN t0 r) then _ else _) = _
    rw [e2700, nI_add, if_neg (nI_nlt (by omega) (by omega)), e8]
    unfold M_settle_b100
    rw [e1]
  | succ q ih =>
    intro j t hj sq hn hp hs
    have hM := sq.1
    have hr1 := sq.cr hr
    have hj0 : j < cN t0 r := by omega
    have hj1 : j < cN t r := by omega
    have epf := hp j hj0
    have hPK : (t.I 106 (2700 * r + j), t.J 107 (2700 * r + j), t.J 108 (2700 * r + j), t.I 109 (2700 * r + j)) ∈ K := by
      have := hK1 j hj0
      rw [← epf] at this
      exact this
    obtain ⟨t1, e1, q1, a1⟩ := sq.st hr (hM.kl hr1 hj1) hPK
    have ea : ((t.I 106 (2700 * r + j), t.J 107 (2700 * r + j), t.J 108 (2700 * r + j), t.I 109 (2700 * r + j)) : Pf) = pfR t0 (2700 * r + j) := epf
    rw [ea] at a1
    have hM1 := q1.1
    have hr2 := q1.cr hr
    have hV : ∀ P', Vt t1 r P' = (stM t0 r (pfR t0 (2700 * r + j)) (al t r)).1 P' := fun P' => congrArg (fun y : AA => y.1 P') a1
    obtain ⟨n1, n2⟩ := key_rows hM hM1 hr1 hr2 fun P' => by
      rw [hV]
      by_cases c : P' = pfR t0 (2700 * r + j)
      · rw [c, st1_s]
        have hv : (al t r).1 (pfR t0 (2700 * r + j)) = some (rvN t (2700 * r + j)) := Vt_some hM hr1 hj1 epf
        rw [hv]
        have hv' : Vt t r (pfR t0 (2700 * r + j)) = some (rvN t (2700 * r + j)) := hv
        rw [hv']
        exact ⟨fun z => absurd z stp_some, fun z => by cases z⟩
      · rw [st1_n c]
        exact Iff.rfl
    have st : M_settle_s16 t (nI r) (nI (2700 * r + j)) = some (.inl (nI (2700 * r + (j + 1)), t1)) := by
      rw [s16_sa hM hr1 hj1, e1]
      rfl
    rw [lp_l (show (fun x : Int32 × moS => M_settle_s16 x.2 (nI r) x.1) (nI (2700 * r + j), t) = _ from st)]
    obtain ⟨t2, e2, q2, p2, a2⟩ := ih (j + 1) t1 (by omega) q1 (n1.trans hn) (fun i hi => (n2 i (by omega)).trans (hp i hi)) fun i hi => by
      rw [a1]
      rcases Nat.lt_or_ge i j with z | z
      · show st1 _ _ _ _ (st1 _ _ _ _ (al t r)) = _
        rw [st1_c]
        exact congrArg (st1 (dF t0 r) (tgM t0 r) (g0M t0 r) (pfR t0 (2700 * r + j))) (hs i z)
      · have : i = j := by omega
        rw [this]
        exact st1_i _ _ _ _ _
    refine ⟨t2, e2, q2, p2, ?_⟩
    rw [a2, a1]
    rfl
/-- all that is settled, one after the other -/
def LM (t : moS) (r : Nat) : List Pf := L1M t r (cN t r) 0 ++ (L2M t r (2 * cI t r) 0 ++ L3M t r (cSt t r) 0)
theorem m_settle (hM0 : MV t0) (hr : r < cR t0) (hrun : t0.I 39 r ≠ 0) (hb : KB K t0 r) (hK : ∀ k, k < cSt t0 r → stP t0 (32 * r + k) ∈ K) (hK2 : ∀ y, y < 2 * cI t0 r → t0.I 75 (8 * r + y) ≠ 0 → neP t0 r y ∈ K) : ∃ t', M_settle t0 (nI r) = some t' ∧ SQ K t0 r t' ∧ PS t0 r t' ∧ al t' r = fld (stM t0 r) (LM t0 r) (al t0 r) := by
  have h6 := hM0.nR
  have e2700 : (2700 : Int32) * nI r = nI (2700 * r + 0) := by rw [show (2700 : Int32) = nI 2700 from rfl, pk_mul]; rfl
  obtain ⟨t', e1, q1, p1, a1⟩ := m_set1 hM0 hr hK hK2 hb.2 (cN t0 r) 0 t0 (by omega) ⟨hM0, rwT.rf, hb, fun _ _ => rfl⟩ rfl (fun _ _ => rfl) (fun i hi => absurd hi (Nat.not_lt_zero _))
  refine ⟨t', ?_, q1, p1, a1⟩
  unfold M_settle M_settle_b16
  rw [rdI_n (n := 6) (hM0.n.n 39 6) (by omega) (by decide)]
  simp only [Option.bind_some]
  rw [if_neg hrun, e2700]
  exact e1
end M2
