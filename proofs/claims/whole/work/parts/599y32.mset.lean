/-! The model settles a router: as steps. -/
def stP (t : moS) (k : Nat) : Pf := (t.I 47 k, t.J 48 k, t.J 49 k, t.I 50 k)
def neP (t : moS) (r y : Nat) : Pf := (nI (y % 2), t.J 76 (8 * r + y) &&& mskH (t.I 78 (8 * r + y)), t.J 77 (8 * r + y) &&& mskL (t.I 78 (8 * r + y)), t.I 78 (8 * r + y))
def L1M (t : moS) (r : Nat) : Nat → Nat → List Pf
  | 0, _ => []
  | q + 1, j => pfR t (2700 * r + j) :: L1M t r q (j + 1)
def L2M (t : moS) (r : Nat) : Nat → Nat → List Pf
  | 0, _ => []
  | q + 1, y => (if t.I 75 (8 * r + y) = 0 then [] else [neP t r y]) ++ L2M t r q (y + 1)
def L3M (t : moS) (r : Nat) : Nat → Nat → List Pf
  | 0, _ => []
  | q + 1, k => stP t (32 * r + k) :: L3M t r q (k + 1)
theorem L1M_m {t : moS} {r : Nat} {P : Pf} : ∀ q j, P ∈ L1M t r q j ↔ ∃ i, j ≤ i ∧ i < j + q ∧ P = pfR t (2700 * r + i)
  | 0, j => ⟨fun z => absurd z (by simp [L1M]), fun ⟨i, h1, h2, _⟩ => absurd h1 (by omega)⟩
  | q + 1, j => by
    show P ∈ _ :: _ ↔ _
    rw [List.mem_cons, L1M_m q (j + 1)]
    constructor
    · rintro (e | ⟨i, h1, h2, h3⟩)
      · exact ⟨j, by omega, by omega, e⟩
      · exact ⟨i, by omega, by omega, h3⟩
    · rintro ⟨i, h1, h2, h3⟩
      by_cases c : i = j
      · left; rw [h3, c]
      · right; exact ⟨i, by omega, by omega, h3⟩
theorem L3M_m {t : moS} {r : Nat} {P : Pf} : ∀ q j, P ∈ L3M t r q j ↔ ∃ i, j ≤ i ∧ i < j + q ∧ P = stP t (32 * r + i)
  | 0, j => ⟨fun z => absurd z (by simp [L3M]), fun ⟨i, h1, h2, _⟩ => absurd h1 (by omega)⟩
  | q + 1, j => by
    show P ∈ _ :: _ ↔ _
    rw [List.mem_cons, L3M_m q (j + 1)]
    constructor
    · rintro (e | ⟨i, h1, h2, h3⟩)
      · exact ⟨j, by omega, by omega, e⟩
      · exact ⟨i, by omega, by omega, h3⟩
    · rintro ⟨i, h1, h2, h3⟩
      by_cases c : i = j
      · left; rw [h3, c]
      · right; exact ⟨i, by omega, by omega, h3⟩
theorem L2M_m {t : moS} {r : Nat} {P : Pf} : ∀ q j, P ∈ L2M t r q j ↔ ∃ i, j ≤ i ∧ i < j + q ∧ t.I 75 (8 * r + i) ≠ 0 ∧ P = neP t r i
  | 0, j => ⟨fun z => absurd z (by simp [L2M]), fun ⟨i, h1, h2, _⟩ => absurd h1 (by omega)⟩
  | q + 1, j => by
    show P ∈ _ ++ _ ↔ _
    rw [List.mem_append, L2M_m q (j + 1)]
    constructor
    · rintro (e | ⟨i, h1, h2, h3⟩)
      · by_cases c : t.I 75 (8 * r + j) = 0
        · rw [if_pos c] at e; exact absurd e (by simp)
        · rw [if_neg c] at e
          exact ⟨j, by omega, by omega, c, List.mem_singleton.mp e⟩
      · exact ⟨i, by omega, by omega, h3⟩
    · rintro ⟨i, h1, h2, h3, h4⟩
      by_cases c : i = j
      · subst c
        left
        rw [if_neg h3, h4]
        simp
      · right; exact ⟨i, by omega, by omega, h3, h4⟩
section Ms
variable {t t0 : moS} {r : Nat} {K : List Pf} {f n : Int32} {h l : Int64}
noncomputable abbrev stM (t0 : moS) (r : Nat) : Pf → AA → AA := st1 (dF t0 r) (tgM t0 r) (g0M t0 r)
/-- what is there is settled -/
def PS (t0 : moS) (r : Nat) (t : moS) : Prop := ∀ P, Vt t r P ≠ none → stM t0 r P (al t r) = al t r
theorem m_come (q : SQ K t0 r t) (ps : PS t0 r t) (hr : r < cR t0) (hf : lnOk f n) (hP : (f, h, l, n) ∈ K) : ∃ t', M_come t (nI r) f h l n = some t' ∧ SQ K t0 r t' ∧ PS t0 r t' ∧ al t' r = stM t0 r (f, h, l, n) (al t r) := by
  have hr1 := q.cr hr
  have hM := q.1
  have h6 := hM.nR
  have h8 := (hM.c5 hr1).2
  rcases m_find (h := h) (l := l) hM hr1 hf with ⟨hnf, hF⟩ | ⟨j, hj, hk, hF⟩
  · obtain ⟨t', e1, q1, a1⟩ := q.st hr hf hP
    refine ⟨t', ?_, q1, fun P' hP' => ?_, a1⟩
    · unfold SA at e1
      rw [hF] at e1
      simp only [Option.bind_some] at e1
      rw [if_pos trivial] at e1
      exact e1
    · rw [a1]
      by_cases c : P' = (f, h, l, n)
      · rw [c]; exact st1_i _ _ _ _ _
      · have : Vt t' r P' = Vt t r P' := by
          have := congrArg (fun y : AA => y.1 P') a1
          have this : Vt t' r P' = (stM t0 r (f, h, l, n) (al t r)).1 P' := this
          rw [this, st1_n c]
          rfl
        show st1 _ _ _ P' (st1 _ _ _ (f, h, l, n) (al t r)) = _
        rw [st1_c]
        exact congrArg (st1 (dF t0 r) (tgM t0 r) (g0M t0 r) (f, h, l, n)) (ps P' (by rw [← this]; exact hP'))
  · refine ⟨t, ?_, q, ps, (ps _ ?_).symm⟩
    · unfold M_come
      rw [hF]
      simp only [Option.bind_some]
      rw [if_neg (nI_ne (by omega))]
    · rw [Vt_some hM hr1 hj ((pfR_v (hM.kl hr1 hj) hf).mpr hk)]
      simp
/-- own routes -/
theorem m_set3 (hM0 : MV t0) (hr : r < cR t0) (hK : ∀ k, k < cSt t0 r → stP t0 (32 * r + k) ∈ K) : ∀ q k t, k + q = cSt t0 r → SQ K t0 r t → PS t0 r t → ∃ t', lp (fun x : Int32 × moS => M_settle_s183 x.2 (nI r) x.1) (nI (32 * r + k), t) = some t' ∧ SQ K t0 r t' ∧ PS t0 r t' ∧ al t' r = fld (stM t0 r) (L3M t0 r q k) (al t r) := by
  have h6 := hM0.nR
  have e32 : (32 : Int32) * nI r = nI (32 * r) := by rw [show (32 : Int32) = nI 32 from rfl, pk_mul]
  obtain ⟨e46, hn⟩ := hM0.st hr
  intro q
  induction q with
  | zero =>
    intro k t hk sq ps
    have hM := sq.1
    refine ⟨t, lp_x ?_, sq, ps, rfl⟩
    show M_settle_s183 t (nI r) (nI (32 * r + k)) = _
    unfold M_settle_s183
    rw [rdI_n (n := 6) (hM.n.n 46 6) (by omega) (by decide), sq.2.1.1.I 46 (by decide), e46]
    show (if nI (32 * r + k) < 32 * nI r + nI (cSt t0 r) then _ else _) = _
    rw [e32, nI_add, if_neg (nI_nlt (by omega) (by omega))]
  | succ q ih =>
    intro k t hk sq ps
    have hM := sq.1
    have m := sq.2.1.1
    have hk' : k < cSt t0 r := by omega
    obtain ⟨t1, e1, q1, p1, a1⟩ := m_come (f := t0.I 47 (32 * r + k)) (h := t0.J 48 (32 * r + k)) (l := t0.J 49 (32 * r + k)) (n := t0.I 50 (32 * r + k)) sq ps hr (hM0.sl hr hk').1 (hK k hk')
    have rI : ∀ g, (g ∉ mG ∧ moN0 g = 192) → g ∉ Wrow → rdI t g (nI (32 * r + k)) = some (t0.I g (32 * r + k)) := fun g hg hw => by
      rw [rdI_n (n := 192) (by rw [hM.n.1 g hg.1]; exact hg.2) (by omega) (by decide), m.I g hw]
    have rJ : ∀ g, (g ∉ mG ∧ moN0 g = 192) → g ∉ Wrow → rdJ t g (nI (32 * r + k)) = some (t0.J g (32 * r + k)) := fun g hg hw => by
      rw [rdJ_n (n := 192) (by rw [hM.n.1 g hg.1]; exact hg.2) (by omega) (by decide), m.J g hw]
    have st : M_settle_s183 t (nI r) (nI (32 * r + k)) = some (.inl (nI (32 * r + (k + 1)), t1)) := by
      unfold M_settle_s183
      rw [rdI_n (n := 6) (hM.n.n 46 6) (by omega) (by decide), m.I 46 (by decide), e46]
      show (if nI (32 * r + k) < 32 * nI r + nI (cSt t0 r) then _ else _) = _
      rw [e32, nI_add, if_pos (nI_lt (by omega) (by omega)), rI 47 (by decide +kernel) (by decide), rJ 48 (by decide +kernel) (by decide), rJ 49 (by decide +kernel) (by decide), rI 50 (by decide +kernel) (by decide)]
      simp only [Option.bind_some]
      rw [e1]
      simp only [Option.bind_some]
      rw [nI_1]
      rfl
    rw [lp_l (show (fun x : Int32 × moS => M_settle_s183 x.2 (nI r) x.1) (nI (32 * r + k), t) = _ from st)]
    obtain ⟨t2, e2, q2, p2, a2⟩ := ih (k + 1) t1 (by omega) q1 p1
    refine ⟨t2, e2, q2, p2, ?_⟩
    rw [a2, a1]
    rfl
theorem remP : ∀ q, q < 48 → rem_I (nI q) 2 = nI (q % 2) := by decide +kernel
theorem neP_ok (hM : MV t) (hr : r < cR t) {y : Nat} (hy : y < 2 * cI t r) (h : t.I 75 (8 * r + y) ≠ 0) : lnOk (nI (y % 2)) (t.I 78 (8 * r + y)) := by
  have hv := (hM.r hr).i (p := y / 2) (by omega)
  rcases Nat.mod_two_eq_zero_or_one y with c | c
  · have e : 2 * (4 * r + y / 2) = 8 * r + y := by omega
    rw [c]
    refine ⟨Or.inl rfl, ?_⟩
    have hb := hv.2.2.2.2.2.1.1
    have := hv.2.2.2.2.2.2.1
    rw [e] at hb this
    exact this (hb.resolve_left h)
  · have e : 2 * (4 * r + y / 2) + 1 = 8 * r + y := by omega
    rw [c]
    refine ⟨Or.inr rfl, ?_⟩
    have hb := hv.2.2.2.2.2.1.2
    have := hv.2.2.2.2.2.2.2.1
    rw [e] at hb this
    exact this (hb.resolve_left h)
/-- the networks of its interfaces -/
theorem m_set2 (hM0 : MV t0) (hr : r < cR t0) (hK : ∀ k, k < cSt t0 r → stP t0 (32 * r + k) ∈ K) (hK2 : ∀ y, y < 2 * cI t0 r → t0.I 75 (8 * r + y) ≠ 0 → neP t0 r y ∈ K) : ∀ q y t, y + q = 2 * cI t0 r → SQ K t0 r t → PS t0 r t → ∃ t', lp (fun x : Int32 × moS => M_settle_s100 x.2 (nI r) x.1) (nI (8 * r + y), t) = some t' ∧ SQ K t0 r t' ∧ PS t0 r t' ∧ al t' r = fld (stM t0 r) (L2M t0 r q y ++ L3M t0 r (cSt t0 r) 0) (al t r) := by
  have h6 := hM0.nR
  have h4 := hM0.nIf hr
  have e8 : (8 : Int32) * nI r = nI (8 * r) := by rw [show (8 : Int32) = nI 8 from rfl, pk_mul]
  have e32 : (32 : Int32) * nI r = nI (32 * r + 0) := by rw [show (32 : Int32) = nI 32 from rfl, pk_mul]; rfl
  have e70 : t0.I 70 r = nI (cI t0 r) := (hM0.r hr).2.2.2.2.2.2.2.2.2.1.n.1
  have e2 : (2 : Int32) * nI (cI t0 r) = nI (2 * cI t0 r) := by rw [show (2 : Int32) = nI 2 from rfl, pk_mul]
  intro q
  induction q with
  | zero =>
    intro y t hy sq ps
    have hM := sq.1
    obtain ⟨t1, e1, q1, p1, a1⟩ := m_set3 hM0 hr hK (cSt t0 r) 0 t (by omega) sq ps
    refine ⟨t1, lp_x ?_, q1, p1, a1⟩
    show M_settle_s100 t (nI r) (nI (8 * r + y)) = _
    unfold M_settle_s100
    rw [rdI_n (n := 6) (hM.n.n 70 6) (by omega) (by decide), sq.2.1.1.I 70 (by decide), e70]
    show (if nI (8 * r + y) < 8 * nI r + 2 * nI (cI t0 r) then _ else _) = _
    rw [e8, e2, nI_add, if_neg (nI_nlt (by omega) (by omega)), e32]
    unfold M_settle_b183
    rw [e1]
  | succ q ih =>
    intro y t hy sq ps
    have hM := sq.1
    have m := sq.2.1.1
    have hy' : y < 2 * cI t0 r := by omega
    have rI : ∀ g, (g ∉ mG ∧ moN0 g = 48) → g ∉ Wrow → rdI t g (nI (8 * r + y)) = some (t0.I g (8 * r + y)) := fun g hg hw => by
      rw [rdI_n (n := 48) (by rw [hM.n.1 g hg.1]; exact hg.2) (by omega) (by decide), m.I g hw]
    have rJ : ∀ g, (g ∉ mG ∧ moN0 g = 48) → g ∉ Wrow → rdJ t g (nI (8 * r + y)) = some (t0.J g (8 * r + y)) := fun g hg hw => by
      rw [rdJ_n (n := 48) (by rw [hM.n.1 g hg.1]; exact hg.2) (by omega) (by decide), m.J g hw]
    have head : ∀ o, (if t0.I 75 (8 * r + y) = 0 then (M_settle_b172 t (nI r) (nI (8 * r + y))) else (Option.bind (M_come t (nI r) (nI (y % 2)) (t0.J 76 (8 * r + y) &&& mskH (t0.I 78 (8 * r + y))) (t0.J 77 (8 * r + y) &&& mskL (t0.I 78 (8 * r + y))) (t0.I 78 (8 * r + y))) (fun s8 => M_settle_b172 s8 (nI r) (nI (8 * r + y))))) = o → M_settle_s100 t (nI r) (nI (8 * r + y)) = o := by
      intro o ho
      unfold M_settle_s100
      rw [rdI_n (n := 6) (hM.n.n 70 6) (by omega) (by decide), m.I 70 (by decide), e70]
      show (if nI (8 * r + y) < 8 * nI r + 2 * nI (cI t0 r) then _ else _) = _
      rw [e8, e2, nI_add, if_pos (nI_lt (by omega) (by omega)), rI 75 (by decide +kernel) (by decide), rJ 76 (by decide +kernel) (by decide), rI 78 (by decide +kernel) (by decide), rJ 77 (by decide +kernel) (by decide)]
      simp only [Option.bind_some]
      rw [M_mH, M_mL, remP _ (by omega), show (8 * r + y) % 2 = y % 2 by omega]
      exact ho
    have b172 : ∀ t', M_settle_b172 t' (nI r) (nI (8 * r + y)) = some (.inl (nI (8 * r + (y + 1)), t')) := fun t' => by
      unfold M_settle_b172
      rw [nI_1]
      rfl
    by_cases c : t0.I 75 (8 * r + y) = 0
    · have st : M_settle_s100 t (nI r) (nI (8 * r + y)) = some (.inl (nI (8 * r + (y + 1)), t)) := head _ (by rw [if_pos c]; exact b172 t)
      rw [lp_l (show (fun x : Int32 × moS => M_settle_s100 x.2 (nI r) x.1) (nI (8 * r + y), t) = _ from st)]
      obtain ⟨t2, e2', q2, p2, a2⟩ := ih (y + 1) t (by omega) sq ps
      refine ⟨t2, e2', q2, p2, ?_⟩
      rw [a2]
      show _ = fld (stM t0 r) (((if t0.I 75 (8 * r + y) = 0 then [] else [neP t0 r y]) ++ L2M t0 r q (y + 1)) ++ L3M t0 r (cSt t0 r) 0) (al t r)
      rw [if_pos c]
      rfl
    · obtain ⟨t1, e1, q1, p1, a1⟩ := m_come (f := nI (y % 2)) (h := t0.J 76 (8 * r + y) &&& mskH (t0.I 78 (8 * r + y))) (l := t0.J 77 (8 * r + y) &&& mskL (t0.I 78 (8 * r + y))) (n := t0.I 78 (8 * r + y)) sq ps hr (neP_ok hM0 hr hy' c) (hK2 y hy' c)
      have st : M_settle_s100 t (nI r) (nI (8 * r + y)) = some (.inl (nI (8 * r + (y + 1)), t1)) := head _ (by rw [if_neg c, e1]; exact b172 t1)
      rw [lp_l (show (fun x : Int32 × moS => M_settle_s100 x.2 (nI r) x.1) (nI (8 * r + y), t) = _ from st)]
      obtain ⟨t2, e2', q2, p2, a2⟩ := ih (y + 1) t1 (by omega) q1 p1
      refine ⟨t2, e2', q2, p2, ?_⟩
      rw [a2, a1]
      show _ = fld (stM t0 r) (((if t0.I 75 (8 * r + y) = 0 then [] else [neP t0 r y]) ++ L2M t0 r q (y + 1)) ++ L3M t0 r (cSt t0 r) 0) (al t r)
      rw [if_neg c]
      rfl
end Ms
