/-! The model gathers: all of it. -/
section Mh
variable {t t1 : moS} {r p l n : Nat} {f how : Int32} {g : gst}
/-- summaries, then the default -/
theorem m_g314 (hM : MV t) (hr : r < cR t) (hp : p < cI t r) (hf : bit f) (hh : how = 0 ∨ how = 1 ∨ how = 2) (hI : GI t r (4 * r + p) f how (cN t r) g) (hG : GM t g t1) : ∃ t2, M_gather_b314 t1 (nI (4 * r + p)) how 0 = some t2 ∧ EN t2 (if how = 0 ∧ 0 < t.I 99 (4 * r + p) then eIns f (0, 0, 0, t.I 99 (4 * r + p), 0) (gUs t (4 * r + p) f g (t.I 90 (4 * r + p)).toNatClampNeg) else gUs t (4 * r + p) f g (t.I 90 (4 * r + p)).toNatClampNeg) ∧ mfr Wga t t2 := by
  have h6 := hM.nR
  have h4 := hM.nIf hr
  have h9 := hM.nRo hr
  have hi := (hM.r hr).i hp
  obtain ⟨N, eN, -, hN⟩ := hi.2.2.2.2.2.2.2.2.2.2.2.2.2.1
  have cN' : (t.I 90 (4 * r + p)).toNatClampNeg = N := by rw [eN, nI_clamp (by omega)]
  rw [cN']
  have e4 : ∀ j : Nat, (4 : Int32) * nI (4 * r + p) + nI j = nI (4 * (4 * r + p) + j) := fun j => by rw [show (4 : Int32) = nI 4 from rfl, pk_mul, nI_add]
  have gj := fun (m : Nat) (hm : m ≤ N) => gj_all (m := m) hM hr hp (Nat.le_refl _) hI (by rw [cN']; exact hm)
  have loop : ∀ m j, j + m = N → ∀ t1, mfr Wga t t1 → EN t1 (gUs t (4 * r + p) f g j) → (∀ i, i < 4 → t1.I 151 i = g.2.1 i ∧ t1.I 152 i = g.2.2 i) → ∃ t2, lp (fun x : Int32 × moS => M_gather_s314 x.2 (nI (4 * r + p)) how x.1) (nI j, t1) = some t2 ∧ EN t2 (if how = 0 ∧ 0 < t.I 99 (4 * r + p) then eIns f (0, 0, 0, t.I 99 (4 * r + p), 0) (gUs t (4 * r + p) f g N) else gUs t (4 * r + p) f g N) ∧ mfr Wga t t2 := by
    intro m
    induction m with
    | zero =>
      intro j hj t1 m1 e1 s1
      have hj : j = N := by omega
      subst hj
      have hM1 := hM.ga m1
      have ex : ∃ t2, (if how = 0 then (Option.bind (rdI t1 99 (nI (4 * r + p))) (fun x2 => (if 0 < x2 then (Option.bind (rdI t1 99 (nI (4 * r + p))) (fun x3 => (Option.bind (M_enter t1 (0 : Int64) (0 : Int64) (0 : Int32) x3 (0 : Int32)) (fun s4 => ((some s4)))))) else ((some t1))))) else ((some t1))) = some t2 ∧ EN t2 (if how = 0 ∧ 0 < t.I 99 (4 * r + p) then eIns f (0, 0, 0, t.I 99 (4 * r + p), 0) (gUs t (4 * r + p) f g j) else gUs t (4 * r + p) f g j) ∧ mfr Wga t t2 := by
        by_cases c1 : how = 0
        · rw [if_pos c1, rdI_n (n := 24) (hM1.n.n 99 24) (by omega) (by decide), m1.I 99 (by decide)]
          simp only [Option.bind_some]
          by_cases c2 : 0 < t.I 99 (4 * r + p)
          · rw [if_pos c2, if_pos ⟨c1, c2⟩]
            obtain ⟨j1, j2, j3⟩ := gj j (Nat.le_refl _)
            obtain ⟨t2, q1, q2, q3⟩ := m_enter (f := f) (e := (0, 0, 0, t.I 99 (4 * r + p), 0)) hM1.n e1 (by omega) j1 (fun a ha => (j2 a ha).1.1) ⟨hf, 0, rfl, by omega, Nat.zero_le _⟩ (gj_def hf c1 c2 ⟨j1, j2, j3⟩)
            refine ⟨t2, ?_, q2, m1.tr (q3.wk (by decide))⟩
            rw [q1]
            rfl
          · rw [if_neg c2, if_neg (fun z => c2 z.2)]
            exact ⟨t1, rfl, e1, m1⟩
        · rw [if_neg c1, if_neg (fun z => c1 z.1)]
          exact ⟨t1, rfl, e1, m1⟩
      obtain ⟨t2, q1, q2, q3⟩ := ex
      refine ⟨t2, ?_, q2, q3⟩
      rw [← q1]
      refine lp_x ?_
      show M_gather_s314 t1 (nI (4 * r + p)) how (nI j) = _
      unfold M_gather_s314
      rw [rdI_n (n := 24) (hM1.n.n 90 24) (by omega) (by decide), m1.I 90 (by decide), eN]
      simp only [Option.bind_some]
      rw [if_neg (nI_nlt (by omega) (by omega))]
    | succ m ih =>
      intro j hj t1 m1 e1 s1
      have hM1 := hM.ga m1
      have hr1 : r < cR t1 := by unfold cR; rw [m1.S 37 (by decide)]; exact hr
      have hp1 : p < cI t1 r := by unfold cI; rw [m1.I 70 (by decide)]; exact hp
      have r96 : ∀ g, (g ∉ mG ∧ moN0 g = 96) → g ∉ Wga → rdI t1 g (nI (4 * (4 * r + p) + j)) = some (t.I g (4 * (4 * r + p) + j)) := fun g hg hw => by rw [← m1.I g hw]; exact rdI_n (n := 96) (by rw [hM1.n.1 g hg.1]; exact hg.2) (by omega) (by decide)
      have j96 : ∀ g, (g ∉ mG ∧ moN0 g = 96) → g ∉ Wga → rdJ t1 g (nI (4 * (4 * r + p) + j)) = some (t.J g (4 * (4 * r + p) + j)) := fun g hg hw => by rw [← m1.J g hw]; exact rdJ_n (n := 96) (by rw [hM1.n.1 g hg.1]; exact hg.2) (by omega) (by decide)
      have hj4 : j < 4 := by omega
      obtain ⟨z1, z2⟩ := s1 j hj4
      have st : ∃ t2, M_gather_s314 t1 (nI (4 * r + p)) how (nI j) = some (.inl (nI (j + 1), t2)) ∧ mfr Wga t t2 ∧ EN t2 (gUs t (4 * r + p) f g (j + 1)) ∧ ∀ i, i < 4 → t2.I 151 i = g.2.1 i ∧ t2.I 152 i = g.2.2 i := by
        unfold M_gather_s314 M_gather_b391
        rw [rdI_n (n := 24) (hM1.n.n 90 24) (by omega) (by decide), m1.I 90 (by decide), eN, rdI_n (n := 4) (hM1.n.n 152 4) hj4 (by decide)]
        simp only [Option.bind_some]
        rw [if_pos (nI_lt (by omega) (by omega)), z2, nI_1]
        show ∃ t2, _ ∧ mfr Wga t t2 ∧ EN t2 (gU t (4 * r + p) f g j (gUs t (4 * r + p) f g j)) ∧ _
        unfold gU
        by_cases c1 : g.2.2 j = 0
        · have no : ¬ (g.2.2 j ≠ 0 ∧ bsD t (4 * r + p) (t.I 94 (4 * (4 * r + p) + j))) := fun z => z.1 c1
          rw [if_pos c1, if_neg no]
          exact ⟨t1, rfl, m1, e1, s1⟩
        rw [if_neg c1, e4, r96 94 (by decide +kernel) (by decide)]
        simp only [Option.bind_some]
        rw [m_bsD hM1 hr1 hp1]
        simp only [Option.bind_some]
        by_cases c2 : bsD t (4 * r + p) (t.I 94 (4 * (4 * r + p) + j))
        · have ys : g.2.2 j ≠ 0 ∧ bsD t (4 * r + p) (t.I 94 (4 * (4 * r + p) + j)) := ⟨c1, c2⟩
          rw [if_pos ((bsD_m m1).mpr c2), if_pos ys, if_neg (show ¬ (1 : Int32) = 0 by decide), j96 92 (by decide +kernel) (by decide), j96 93 (by decide +kernel) (by decide), rdI_n (n := 4) (hM1.n.n 151 4) hj4 (by decide), z1]
          simp only [Option.bind_some]
          obtain ⟨j1, j2, j3⟩ := gj j (by omega)
          obtain ⟨k1, k2⟩ := (gj_step (m := j) hM hr hp (Nat.le_refl _) hI (by omega) ⟨j1, j2, j3⟩).2 ⟨c1, c2⟩
          obtain ⟨t2, q1, q2, q3⟩ := m_enter (f := f) (e := (t.J 92 (4 * (4 * r + p) + j), t.J 93 (4 * (4 * r + p) + j), t.I 94 (4 * (4 * r + p) + j), g.2.1 j, 0)) hM1.n e1 (by omega) j1 (fun a ha => (j2 a ha).1.1) k1 k2
          refine ⟨t2, ?_, m1.tr (q3.wk (by decide)), q2, fun i hi => ?_⟩
          · rw [q1]
            rfl
          · rw [q3.I 151 (by decide), q3.I 152 (by decide)]
            exact s1 i hi
        · have no : ¬ (g.2.2 j ≠ 0 ∧ bsD t (4 * r + p) (t.I 94 (4 * (4 * r + p) + j))) := fun z => c2 z.2
          rw [if_neg (fun z => c2 ((bsD_m m1).mp z)), if_neg no, if_pos (show (0 : Int32) = 0 from rfl)]
          exact ⟨t1, rfl, m1, e1, s1⟩
      obtain ⟨t2, q1, q2, q3, q4⟩ := st
      obtain ⟨t3, w1, w2, w3⟩ := ih (j + 1) (by omega) t2 q2 q3 q4
      exact ⟨t3, (lp_l (f := fun x : Int32 × moS => M_gather_s314 x.2 (nI (4 * r + p)) how x.1) (x := (nI j, t1)) q1).trans w1, w2, w3⟩
  exact loop N 0 (by omega) t1 hG.1 hG.2.1 hG.2.2
theorem m_gather (hM : MV t) (hr : r < cR t) (hp : p < cI t r) (hl : t.I 71 (4 * r + p) = nI l) (hf : bit f) (hh : how = 0 ∨ how = 1 ∨ how = 2) : ∃ t2, M_gather t (nI (4 * r + p)) f how = some t2 ∧ EN t2 (gL t r (4 * r + p) l f how) ∧ mfr Wga t t2 := by
  have h6 := hM.nR
  have h4 := hM.nIf hr
  have h9 := hM.nRo hr
  obtain ⟨e105, -⟩ := hM.c5 hr
  have e2700 : (2700 : Int32) * nI r = nI (2700 * r) := by rw [show (2700 : Int32) = nI 2700 from rfl, pk_mul]
  have ed : nI (4 * r + p) / 4 = nI r := (pk_div (d := 4) (by omega) (by omega) (by omega)).trans (congrArg nI (by omega))
  -- the routes
  have loop : ∀ m j, j + m = cN t r → ∀ t1, GM t (gRs t r (4 * r + p) l f how j) t1 → ∃ t2, lp (fun x : Int32 × moS => M_gather_s50 x.2 (nI (4 * r + p)) f how (nI r) x.1) (nI (2700 * r + j), t1) = some t2 ∧ EN t2 (gL t r (4 * r + p) l f how) ∧ mfr Wga t t2 := by
    intro m
    induction m with
    | zero =>
      intro j hj t1 hG
      have hj : j = cN t r := by omega
      subst hj
      have m1 := hG.1
      have hM1 := hM.ga m1
      obtain ⟨t2, q1, q2, q3⟩ := m_g314 hM hr hp hf hh (gi_all hM hr (Nat.le_refl _)) hG
      refine ⟨t2, ?_, q2, q3⟩
      rw [← q1]
      refine lp_x ?_
      show M_gather_s50 t1 (nI (4 * r + p)) f how (nI r) (nI (2700 * r + cN t r)) = _
      unfold M_gather_s50
      rw [rdI_n (n := 6) (hM1.n.n 105 6) (by omega) (by decide), m1.I 105 (by decide), e105]
      simp only [Option.bind_some]
      rw [e2700, nI_add, if_neg (nI_nlt (by omega) (by omega))]
    | succ m ih =>
      intro j hj t1 hG
      obtain ⟨t2, q1, q2⟩ := m_g50 hM hr hp hl hh (show j < cN t r by omega) (gi_all hM hr (by omega)) hG
      obtain ⟨t3, w1, w2, w3⟩ := ih (j + 1) (by omega) t2 q2
      exact ⟨t3, (lp_l (f := fun x : Int32 × moS => M_gather_s50 x.2 (nI (4 * r + p)) f how (nI r) x.1) (x := (nI (2700 * r + j), t1)) q1).trans w1, w2, w3⟩
  have loop0 : ∀ m j, j + m = 4 → ∀ t1, mfr Wga t t1 → t1.S 139 = 0 → (∀ i, i < j → t1.I 151 i = 99 ∧ t1.I 152 i = 0) → ∃ t2, lp (fun x : Int32 × moS => M_gather_s13 x.2 (nI (4 * r + p)) f how (nI r) x.1) (nI j, t1) = some t2 ∧ EN t2 (gL t r (4 * r + p) l f how) ∧ mfr Wga t t2 := by
    intro m
    induction m with
    | zero =>
      intro j hj t1 m1 h0 hz
      have hj : j = 4 := by omega
      subst hj
      obtain ⟨t2, q1, q2, q3⟩ := loop (cN t r) 0 (by omega) t1 ⟨m1, ⟨h0, fun j hj => absurd hj (Nat.not_lt_zero _)⟩, hz⟩
      refine ⟨t2, ?_, q2, q3⟩
      rw [← q1]
      refine lp_x ?_
      show M_gather_s13 t1 (nI (4 * r + p)) f how (nI r) (nI 4) = _
      unfold M_gather_s13
      rw [if_neg (by decide), e2700]
      rfl
    | succ m ih =>
      intro j hj t1 m1 h0 hz
      have hM1 := hM.ga m1
      have n151 : t1.N 151 = 4 := hM1.n.n 151 4
      have n152 : t1.N 152 = 4 := hM1.n.n 152 4
      have st : M_gather_s13 t1 (nI (4 * r + p)) f how (nI r) (nI j) = some (.inl (nI (j + 1), moSI (moSI t1 151 j 99) 152 j 0)) := by
        unfold M_gather_s13
        rw [if_pos (show nI j < 4 from nI_lt (b := 4) (by omega) (by decide)), nI_1]
        refine (sw_I (n := 4) n151 (by omega) (by decide)).trans ?_
        exact (sw_Z (n := 4) (t := moSI t1 151 j 99) (Or.inl rfl) n152 (by omega) (by decide)).trans rfl
      have hz' : ∀ i, i < j + 1 → (moSI (moSI t1 151 j 99) 152 j 0).I 151 i = 99 ∧ (moSI (moSI t1 151 j 99) 152 j 0).I 152 i = 0 := fun i hi => by
        rw [moSI_n (show 151 ≠ 152 by decide), moSI_s, moSI_s, moSI_n (show 152 ≠ 151 by decide)]
        by_cases c : i = j
        · rw [c, upd_s, upd_s]; exact ⟨rfl, rfl⟩
        · rw [upd_n c, upd_n c]; exact hz i (by omega)
      obtain ⟨t3, w1, w2, w3⟩ := ih (j + 1) (by omega) (moSI (moSI t1 151 j 99) 152 j 0) ((m1.tr (mfr.si (by decide))).tr (mfr.si (by decide))) h0 hz'
      exact ⟨t3, (lp_l (f := fun x : Int32 × moS => M_gather_s13 x.2 (nI (4 * r + p)) f how (nI r) x.1) (x := (nI j, t1)) st).trans w1, w2, w3⟩
  unfold M_gather
  show ∃ t2, M_gather_b13 (moSS t 139 0) (nI (4 * r + p)) f how (nI (4 * r + p) / 4) 0 = some t2 ∧ _
  rw [ed]
  exact loop0 4 0 rfl _ (mfr.ss (by decide)) moSS_s fun i hi => absurd hi (Nat.not_lt_zero _)
/-- what is told: in order, all right, not too many -/
theorem gL_ok (hM : MV t) (hr : r < cR t) (hp : p < cI t r) (hf : bit f) (hh : how = 0 ∨ how = 1 ∨ how = 2) : eSo f (gL t r (4 * r + p) l f how) ∧ (∀ a, a ∈ gL t r (4 * r + p) l f how → eOk f a) ∧ (gL t r (4 * r + p) l f how).length ≤ 885 := by
  have h9 := hM.nRo hr
  have hi := (hM.r hr).i hp
  have h4 := hi.2.2.2.2.2.2.2.2.2.2.2.2.2.1.n.2.2
  obtain ⟨j1, j2, j3⟩ := gj_all (m := (t.I 90 (4 * r + p)).toNatClampNeg) hM hr hp (Nat.le_refl _) (gi_all (l := l) (f := f) (how := how) hM hr (Nat.le_refl _)) (Nat.le_refl _)
  unfold gL
  by_cases c : how = 0 ∧ 0 < t.I 99 (4 * r + p)
  · rw [if_pos c]
    have nd := gj_def (mt := t.I 99 (4 * r + p)) (tg := 0) hf c.1 c.2 ⟨j1, j2, j3⟩
    refine ⟨eIns_s j1 nd, fun a ha => ?_, by rw [eIns_l]; omega⟩
    rcases eIns_m.mp ha with z | z
    · subst z
      refine ⟨⟨hf, 0, rfl, by omega, Nat.zero_le _⟩, ?_, ⟨0, rfl, by omega, by omega⟩⟩
      obtain ⟨m, e, -, h2⟩ := hi.2.2.2.2.2.2.2.2.2.2.2.2.2.2.2.2.2.1
      refine ⟨m, e, ?_, by omega⟩
      rcases Nat.eq_zero_or_pos m with y | y
      · have := c.2
        rw [e, y] at this
        exact absurd this (by decide)
      · exact y
    · exact (j2 a z).1
  · rw [if_neg c]
    exact ⟨j1, fun a ha => (j2 a ha).1, by omega⟩
end Mh
