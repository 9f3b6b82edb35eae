/-! The model gathers what is told. -/
abbrev Wga : List Nat := [139, 140, 141, 142, 143, 144, 145, 151, 152]
def GM (t : moS) (g : gst) (t1 : moS) : Prop := mfr Wga t t1 ∧ EN t1 g.1 ∧ ∀ i, i < 4 → t1.I 151 i = g.2.1 i ∧ t1.I 152 i = g.2.2 i
section Mg
variable {t t1 : moS} {r p l n : Nat} {f how : Int32} {g : gst}
theorem MV.ga (hM : MV t) (m : mfr Wga t t1) : MV t1 := hM.fr m rfl (hM.1.fr m rfl)
theorem tmV_m (m : mfr Wga t t1) {q k : Nat} {lk : Int32} : tmV t1 r q k lk = tmV t r q k lk := by
  unfold tmV tmF tmB tmO shW faV daV ofV laV
  rw [m.I 29 (by decide), m.I 30 (by decide), m.I 31 (by decide), m.J 32 (by decide), m.J 33 (by decide), m.I 34 (by decide), m.I 35 (by decide), m.I 36 (by decide), m.I 53 (by decide), m.I 54 (by decide), m.J 55 (by decide), m.J 56 (by decide), m.I 57 (by decide), m.I 58 (by decide), m.I 59 (by decide), m.I 60 (by decide), m.I 61 (by decide), m.I 62 (by decide), m.I 63 (by decide), m.I 64 (by decide), m.I 65 (by decide), m.I 66 (by decide), m.I 67 (by decide), m.I 68 (by decide), m.J 73 (by decide), m.I 106 (by decide), m.J 107 (by decide), m.J 108 (by decide), m.I 109 (by decide), m.I 110 (by decide), m.I 111 (by decide), m.I 113 (by decide)]
theorem ttV_m (m : mfr Wga t t1) {k : Nat} : ttV t1 r k = ttV t r k := by
  unfold ttV shW
  rw [m.I 68 (by decide), m.I 69 (by decide), m.I 110 (by decide), m.I 112 (by decide)]
theorem m_sumF (hM : MV t) (hr : r < cR t) (hp : p < cI t r) (hn : n < cN t r) : M_summaryFor t (nI (4 * r + p)) (nI (2700 * r + n)) = some (ixO 0 (smV t (4 * r + p) (2700 * r + n))) := by
  have h6 := hM.nR
  have h4 := hM.nIf hr
  have h9 := hM.nRo hr
  have hi := (hM.r hr).i hp
  obtain ⟨N, eN, -, hN⟩ := hi.2.2.2.2.2.2.2.2.2.2.2.2.2.1
  have cN' : (t.I 90 (4 * r + p)).toNatClampNeg = N := by rw [eN, nI_clamp (by omega)]
  have e4 : ∀ j : Nat, (4 : Int32) * nI (4 * r + p) + nI j = nI (4 * (4 * r + p) + j) := fun j => by rw [show (4 : Int32) = nI 4 from rfl, pk_mul, nI_add]
  have hk : 2700 * r + n < 16200 := by omega
  have rI : ∀ g, g ∈ fRA → rdI t g (nI (2700 * r + n)) = some (t.I g (2700 * r + n)) := fun g hg => rdI_n (n := 16200) (hM.row g hg) hk (by decide)
  have rJ : ∀ g, g ∈ fRA → rdJ t g (nI (2700 * r + n)) = some (t.J g (2700 * r + n)) := fun g hg => rdJ_n (n := 16200) (hM.row g hg) hk (by decide)
  unfold M_summaryFor M_summaryFor_b2 smV
  rw [cN']
  have loop : ∀ m j, j + m = N → lp (fun y => M_summaryFor_s2 t (nI (4 * r + p)) (nI (2700 * r + n)) y) (nI j) = some (ixO 0 (fsN (smC t (4 * r + p) (2700 * r + n)) m j)) := by
    intro m
    induction m with
    | zero =>
      intro j hj
      refine lp_x ?_
      unfold M_summaryFor_s2
      rw [rdI_n (n := 24) (hM.n.n 90 24) (by omega) (by decide)]
      simp only [Option.bind_some]
      rw [eN, if_neg (nI_nlt (by omega) (by omega))]
      rfl
    | succ m ih =>
      intro j hj
      have s1 : ∀ g, (g ∉ mG ∧ moN0 g = 96) → rdI t g (nI (4 * (4 * r + p) + j)) = some (t.I g (4 * (4 * r + p) + j)) := fun g hg => rdI_n (n := 96) (by rw [hM.n.1 g hg.1]; exact hg.2) (by omega) (by decide)
      have s2 : ∀ g, (g ∉ mG ∧ moN0 g = 96) → rdJ t g (nI (4 * (4 * r + p) + j)) = some (t.J g (4 * (4 * r + p) + j)) := fun g hg => rdJ_n (n := 96) (by rw [hM.n.1 g hg.1]; exact hg.2) (by omega) (by decide)
      have st : M_summaryFor_s2 t (nI (4 * r + p)) (nI (2700 * r + n)) (nI j) = @ite _ (smC t (4 * r + p) (2700 * r + n) j) (Classical.propDecidable _) (xo (some (nI j))) (some (.inl (nI (j + 1)))) := by
        unfold M_summaryFor_s2 M_summaryFor_b82
        rw [rdI_n (n := 24) (hM.n.n 90 24) (by omega) (by decide)]
        simp only [Option.bind_some]
        rw [eN, if_pos (nI_lt (by omega) (by omega)), e4, s1 91 (by decide +kernel), rI 106 (by decide), nI_1]
        simp only [Option.bind_some]
        by_cases c1 : t.I 91 (4 * (4 * r + p) + j) = t.I 106 (2700 * r + n)
        · rw [if_pos c1, s2 92 (by decide +kernel), s2 93 (by decide +kernel), s1 94 (by decide +kernel), rJ 107 (by decide), rJ 108 (by decide), rI 109 (by decide)]
          simp only [Option.bind_some]
          by_cases c2 : M_coversPrefix (t.J 92 (4 * (4 * r + p) + j)) (t.J 93 (4 * (4 * r + p) + j)) (t.I 94 (4 * (4 * r + p) + j)) (t.J 107 (2700 * r + n)) (t.J 108 (2700 * r + n)) (t.I 109 (2700 * r + n)) = 0
          · rw [if_pos c2, if_neg (fun z => (M_covP _ _ _ _ _ _).mp c2 z.2)]
          · rw [if_neg c2, if_pos ⟨c1, Classical.byContradiction fun z => c2 ((M_covP _ _ _ _ _ _).mpr z)⟩]
        · rw [if_neg c1, if_neg (fun z => c1 z.1)]
      unfold fsN
      by_cases c : smC t (4 * r + p) (2700 * r + n) j
      · rw [if_pos c] at st ⊢
        rw [show ixO 0 (some j) = nI j by show nI (0 + j) = _; rw [Nat.zero_add]]
        exact lp_x st
      · rw [if_neg c] at st ⊢
        rw [lp_l st]
        exact ih (j + 1) (by omega)
  exact loop N 0 (by omega)
theorem m_bsD (hM : MV t) (hr : r < cR t) (hp : p < cI t r) {n : Int32} : M_besideDefault t (nI (4 * r + p)) n = some (@ite _ (bsD t (4 * r + p) n) (Classical.propDecidable _) 1 0) := by
  have h6 := hM.nR
  have h4 := hM.nIf hr
  unfold M_besideDefault M_besideDefault_b22 M_besideDefault_b26 bsD
  rw [rdI_n (n := 24) (hM.n.n 99 24) (by omega) (by decide), rdI_n (n := 24) (hM.n.n 100 24) (by omega) (by decide)]
  simp only [Option.bind_some]
  by_cases c1 : t.I 99 (4 * r + p) = 0
  · rw [if_pos c1, if_pos (Or.inl c1)]
  rw [if_neg c1]
  by_cases c2 : 0 < n
  · rw [if_pos c2]
    by_cases c3 : t.I 100 (4 * r + p) = 0
    · rw [if_pos c3, if_pos (Or.inr ⟨c2, c3⟩)]
    · rw [if_neg c3, if_neg (fun z => z.elim c1 fun y => c3 y.2)]
  · rw [if_neg c2, if_neg (fun z => z.elim c1 fun y => c2 y.1)]
theorem smV_m (m : mfr Wga t t1) {q k : Nat} : smV t1 q k = smV t q k := by
  unfold smV smC
  rw [m.I 90 (by decide), m.I 91 (by decide), m.J 92 (by decide), m.J 93 (by decide), m.I 94 (by decide), m.I 106 (by decide), m.J 107 (by decide), m.J 108 (by decide), m.I 109 (by decide)]
theorem bsD_m (m : mfr Wga t t1) {q : Nat} {n : Int32} : bsD t1 q n ↔ bsD t q n := by
  unfold bsD
  rw [m.I 99 (by decide), m.I 100 (by decide)]
/-- an entry more -/
theorem gm_ins (hM : MV t) (hG : GM t g t1) {e : En} (hL : g.1.length < 2800) (hs : eSo f g.1) (ho : ∀ a, a ∈ g.1 → lnOk f a.2.2.1) (he : lnOk f e.2.2.1) (hn : ∀ a, a ∈ g.1 → kE f a ≠ kE f e) : ∃ t2, M_enter t1 e.1 e.2.1 e.2.2.1 e.2.2.2.1 e.2.2.2.2 = some t2 ∧ GM t (eIns f e g.1, g.2) t2 := by
  obtain ⟨m1, e1, s1⟩ := hG
  obtain ⟨t2, q1, q2, q3⟩ := m_enter (hM.ga m1).n e1 hL hs ho he hn
  refine ⟨t2, q1, m1.tr (q3.wk (by decide)), q2, fun i hi => ?_⟩
  rw [q3.I 151 (by decide), q3.I 152 (by decide)]
  exact s1 i hi
theorem gm_145 {v : Int32} (hG : GM t g t1) : GM t g (moSS t1 145 v) := by
  obtain ⟨m1, e1, s1⟩ := hG
  refine ⟨m1.tr (mfr.ss (by decide)), ⟨?_, e1.2⟩, s1⟩
  rw [moSS_n (by decide)]
  exact e1.1
theorem m_g50 (hM : MV t) (hr : r < cR t) (hp : p < cI t r) (hl : t.I 71 (4 * r + p) = nI l) (hh : how = 0 ∨ how = 1 ∨ how = 2) (hn : n < cN t r) (hI : GI t r (4 * r + p) f how n g) (hG : GM t g t1) : ∃ t2, M_gather_s50 t1 (nI (4 * r + p)) f how (nI r) (nI (2700 * r + n)) = some (.inl (nI (2700 * r + (n + 1)), t2)) ∧ GM t (gR t r (4 * r + p) l f how (2700 * r + n) g) t2 := by
  have h6 := hM.nR
  have h9 := hM.nRo hr
  have m1 := hG.1
  have hM1 := hM.ga m1
  have hr1 : r < cR t1 := by unfold cR; rw [m1.S 37 (by decide)]; exact hr
  have hp1 : p < cI t1 r := by unfold cI; rw [m1.I 70 (by decide)]; exact hp
  have hn1 : n < cN t1 r := by unfold cN; rw [m1.I 105 (by decide)]; exact hn
  have hl1 : t1.I 71 (4 * r + p) = nI l := by rw [m1.I 71 (by decide)]; exact hl
  obtain ⟨e105, -⟩ := hM.c5 hr
  have e2700 : (2700 : Int32) * nI r = nI (2700 * r) := by rw [show (2700 : Int32) = nI 2700 from rfl, pk_mul]
  have hk : 2700 * r + n < 16200 := by omega
  have N16 : ∀ {u : moS}, mfr Wga t u → ∀ g, g ∈ fRA → u.N g = 16200 := fun mu g hg => (hM.ga mu).row g hg
  have rI : ∀ {u : moS}, mfr Wga t u → ∀ g, g ∈ fRA → g ∉ Wga → rdI u g (nI (2700 * r + n)) = some (t.I g (2700 * r + n)) := fun mu g hg hw => by rw [← mu.I g hw]; exact rdI_n (n := 16200) (N16 mu g hg) hk (by decide)
  have rJ : ∀ {u : moS}, mfr Wga t u → ∀ g, g ∈ fRA → g ∉ Wga → rdJ u g (nI (2700 * r + n)) = some (t.J g (2700 * r + n)) := fun mu g hg hw => by rw [← mu.J g hw]; exact rdJ_n (n := 16200) (N16 mu g hg) hk (by decide)
  have e1 : nI (2700 * r + n) + 1 = nI (2700 * r + (n + 1)) := nI_1 _
  have hlen : g.1.length < 2800 := by have := hI.2.2.1; omega
  have hoL : ∀ a, a ∈ g.1 → lnOk f a.2.2.1 := fun a ha => (hI.2.1 a ha).1.1
  unfold M_gather_s50 gR
  rw [rdI_n (n := 6) (hM1.n.n 105 6) (by omega) (by decide)]
  simp only [Option.bind_some]
  rw [m1.I 105 (by decide), e105, e2700, nI_add, if_pos (nI_lt (by omega) (by omega)), rI m1 106 (by decide) (by decide)]
  simp only [Option.bind_some]
  have b305 : ∀ u, M_gather_b305 u (nI (4 * r + p)) f how (nI r) (nI (2700 * r + n)) = some (.inl (nI (2700 * r + (n + 1)), u)) := fun u => by
    unfold M_gather_b305
    rw [e1]
  by_cases c1 : t.I 106 (2700 * r + n) = f
  rotate_left
  · rw [if_neg c1, if_neg c1, b305]
    exact ⟨t1, rfl, hG⟩
  have lnf : lnOk f (t.I 109 (2700 * r + n)) := by
    have := hM.kl hr hn
    rw [c1] at this
    exact this
  rw [if_pos c1, if_pos c1]
  by_cases c2 : how = 2
  · rw [if_pos c2, if_pos c2]
    unfold M_gather_b102 M_gather_b143
    rw [if_pos c2, rJ m1 107 (by decide) (by decide), rJ m1 108 (by decide) (by decide), rI m1 109 (by decide) (by decide), rI m1 112 (by decide) (by decide)]
    simp only [Option.bind_some]
    obtain ⟨ne, -⟩ := gi_ins (m := 16) (tg := t.I 112 (2700 * r + n)) hM hr hn hI c1 ⟨16, rfl, by omega, by omega⟩ ((hM.r hr).w hn).2.2.2.2.1 (Or.inl c2)
    obtain ⟨t2, q1, q2⟩ := gm_ins (e := (t.J 107 (2700 * r + n), t.J 108 (2700 * r + n), t.I 109 (2700 * r + n), 16, t.I 112 (2700 * r + n))) hM hG hlen hI.1 hoL lnf ne
    refine ⟨t2, ?_, q2⟩
    rw [q1]
    simp only [Option.bind_some]
    rw [if_pos c2, b305]
  rw [if_neg c2, if_neg c2]
  obtain ⟨v, a1, a2⟩ := m_toldM hM1 hr1 hp1 hn1 hl1
  rw [tmV_m m1] at a1 a2
  rw [ttV_m m1] at a2
  rw [a1]
  have hG2 : GM t g (moSS t1 145 v) := gm_145 hG
  have m2 := hG2.1
  have hM2 := hM.ga m2
  have hr2 : r < cR (moSS t1 145 v) := by unfold cR; rw [m2.S 37 (by decide)]; exact hr
  have hp2 : p < cI (moSS t1 145 v) r := by unfold cI; rw [m2.I 70 (by decide)]; exact hp
  have hn2 : n < cN (moSS t1 145 v) r := by unfold cN; rw [m2.I 105 (by decide)]; exact hn
  show ∃ t2, M_gather_b102 (moSS t1 145 v) (nI (4 * r + p)) f how (nI r) (nI (2700 * r + n)) (tmV t r (4 * r + p) (2700 * r + n) (nI l)) = _ ∧ _
  unfold M_gather_b102 M_gather_b143
  rw [if_neg c2, if_neg c2]
  by_cases c3 : tmV t r (4 * r + p) (2700 * r + n) (nI l) = -1
  · rw [if_pos c3, if_pos c3, b305]
    exact ⟨_, rfl, hG2⟩
  rw [if_neg c3, if_neg c3]
  have hv : v = ttV t r (2700 * r + n) := a2 c3
  have hm := (tmV_r (q := 4 * r + p) (lk := nI l) hM hr hn).resolve_left c3
  -- with what is due now
  have b176 : ∀ u0, (u0 = 0 ∧ ¬ nwR t how (2700 * r + n) ∨ u0 = 1 ∧ nwR t how (2700 * r + n)) → ∃ t2, M_gather_b176 (moSS t1 145 v) (nI (4 * r + p)) f how (nI r) (nI (2700 * r + n)) (tmV t r (4 * r + p) (2700 * r + n) (nI l)) u0 = some (.inl (nI (2700 * r + (n + 1)), t2)) ∧ GM t (match smV t (4 * r + p) (2700 * r + n) with
      | some i => gSm t how (tmV t r (4 * r + p) (2700 * r + n) (nI l)) (2700 * r + n) i g
      | none => @ite _ (nwR t how (2700 * r + n) ∧ bsD t (4 * r + p) (t.I 109 (2700 * r + n))) (Classical.propDecidable _) (eIns f (t.J 107 (2700 * r + n), t.J 108 (2700 * r + n), t.I 109 (2700 * r + n), tmV t r (4 * r + p) (2700 * r + n) (nI l), ttV t r (2700 * r + n)) g.1, g.2) g) t2 := by
    intro u0 hu
    unfold M_gather_b176
    rw [m_sumF hM2 hr2 hp2 hn2, smV_m m2]
    simp only [Option.bind_some]
    cases es : smV t (4 * r + p) (2700 * r + n) with
    | none =>
      rw [show ixO 0 (none : Option Nat) = -1 from rfl, if_pos rfl]
      show ∃ t2, _ ∧ GM t (@ite _ (nwR t how (2700 * r + n) ∧ bsD t (4 * r + p) (t.I 109 (2700 * r + n))) (Classical.propDecidable _) _ g) t2
      rcases hu with ⟨rfl, hu⟩ | ⟨rfl, hu⟩
      · rw [if_pos rfl, if_neg (fun z => hu z.1), b305]
        exact ⟨_, rfl, hG2⟩
      rw [if_neg (by decide), rI m2 109 (by decide) (by decide)]
      simp only [Option.bind_some]
      rw [m_bsD hM2 hr2 hp2]
      simp only [Option.bind_some]
      by_cases c5 : bsD t (4 * r + p) (t.I 109 (2700 * r + n))
      · have ys : nwR t how (2700 * r + n) ∧ bsD t (4 * r + p) (t.I 109 (2700 * r + n)) := ⟨hu, c5⟩
        rw [if_pos ((bsD_m m2).mpr c5), if_pos ys, if_neg (show ¬ (1 : Int32) = 0 by decide), rJ m2 107 (by decide) (by decide), rJ m2 108 (by decide) (by decide)]
        simp only [Option.bind_some]
        obtain ⟨ne, -⟩ := gi_ins (m := tmV t r (4 * r + p) (2700 * r + n) (nI l)) (tg := ttV t r (2700 * r + n)) hM hr hn hI c1 hm (ttV_r hM hr hn) (Or.inr ⟨es, c5⟩)
        obtain ⟨t2, q1, q2⟩ := gm_ins (e := (t.J 107 (2700 * r + n), t.J 108 (2700 * r + n), t.I 109 (2700 * r + n), tmV t r (4 * r + p) (2700 * r + n) (nI l), ttV t r (2700 * r + n))) hM hG2 hlen hI.1 hoL lnf ne
        refine ⟨t2, ?_, q2⟩
        rw [show (moSS t1 145 v).S 145 = ttV t r (2700 * r + n) by rw [moSS_s, hv], q1]
        simp only [Option.bind_some]
        rw [b305]
      · have no : ¬ (nwR t how (2700 * r + n) ∧ bsD t (4 * r + p) (t.I 109 (2700 * r + n))) := fun z => c5 z.2
        rw [if_neg (fun z => c5 ((bsD_m m2).mp z)), if_neg no, if_pos (show (0 : Int32) = 0 from rfl), b305]
        exact ⟨_, rfl, hG2⟩
    | some i =>
      obtain ⟨y1, y2, y3, y4⟩ := fsN_s es
      have hi4 : i < 4 := by
        have h4 := ((hM.r hr).i hp).2.2.2.2.2.2.2.2.2.2.2.2.2.1.n.2.2
        omega
      rw [show ixO 0 (some i) = nI i by show nI (0 + i) = _; rw [Nat.zero_add], if_neg (show ¬ nI i = -1 from nI_ne (by omega))]
      show ∃ t2, _ ∧ GM t (gSm t how (tmV t r (4 * r + p) (2700 * r + n) (nI l)) (2700 * r + n) i g) t2
      obtain ⟨s1, s2⟩ := hG2.2.2 i hi4
      have n151 : (moSS t1 145 v).N 151 = 4 := hM2.n.n 151 4
      have n152 : (moSS t1 145 v).N 152 = 4 := hM2.n.n 152 4
      have b223 : ∀ w, ∃ t2, M_gather_b223 (moSS t1 145 v) (nI (4 * r + p)) f how (nI r) (nI (2700 * r + n)) u0 (nI i) (nI i) w = some (.inl (nI (2700 * r + (n + 1)), t2)) ∧ GM t (g.1, upd g.2.1 i w, upd g.2.2 i (@ite _ (g.2.2 i ≠ 0 ∨ nwR t how (2700 * r + n)) (Classical.propDecidable _) 1 0)) t2 := by
        intro w
        unfold M_gather_b223
        refine (show ∀ {o : Option (moS)} {F : moS → Option ((Int32 × moS) ⊕ moS)} {u : moS}, o = some u → (∃ t2, F u = some (.inl (nI (2700 * r + (n + 1)), t2)) ∧ GM t (g.1, upd g.2.1 i w, upd g.2.2 i (@ite _ (g.2.2 i ≠ 0 ∨ nwR t how (2700 * r + n)) (Classical.propDecidable _) 1 0)) t2) → ∃ t2, Option.bind o F = some (.inl (nI (2700 * r + (n + 1)), t2)) ∧ GM t (g.1, upd g.2.1 i w, upd g.2.2 i (@ite _ (g.2.2 i ≠ 0 ∨ nwR t how (2700 * r + n)) (Classical.propDecidable _) 1 0)) t2 from fun e h => by rw [e]; exact h) (wrI_n n151 hi4 (by decide)) ?_
        rw [rdI_n (n := 4) (t := moSI (moSS t1 145 v) 151 i w) n152 hi4 (by decide)]
        simp only [Option.bind_some]
        rw [show (moSI (moSS t1 145 v) 151 i w).I 152 i = g.2.2 i by rw [moSI_n (by decide)]; exact s2]
        have fin : ∀ z, bit z → (@ite _ (g.2.2 i ≠ 0 ∨ nwR t how (2700 * r + n)) (Classical.propDecidable _) (1 : Int32) 0) = z → ∃ t2, M_gather_b250 (moSI (moSS t1 145 v) 151 i w) (nI (4 * r + p)) f how (nI r) (nI (2700 * r + n)) (nI i) z = some (.inl (nI (2700 * r + (n + 1)), t2)) ∧ GM t (g.1, upd g.2.1 i w, upd g.2.2 i (@ite _ (g.2.2 i ≠ 0 ∨ nwR t how (2700 * r + n)) (Classical.propDecidable _) 1 0)) t2 := by
          intro z hz ez
          unfold M_gather_b250
          rw [sw_Z (n := 4) (t := moSI (moSS t1 145 v) 151 i w) hz n152 hi4 (by decide), b305, ez]
          refine ⟨_, rfl, (m2.tr (mfr.si (by decide))).tr (mfr.si (by decide)), ⟨?_, hG2.2.1.2⟩, fun i' hi' => ?_⟩
          · exact hG2.2.1.1
          · have := hG2.2.2 i' hi'
            constructor
            · rw [moSI_n (by decide), moSI_s]
              exact upd_c this.1
            · rw [moSI_s, moSI_n (by decide)]
              exact upd_c this.2
        unfold M_gather_b245
        by_cases c6 : g.2.2 i = 0
        · rw [if_pos c6]
          rcases hu with ⟨rfl, hu⟩ | ⟨rfl, hu⟩
          · rw [if_pos rfl]
            exact fin 0 (Or.inl rfl) (if_neg (fun z => z.elim (fun y => y c6) hu))
          · rw [if_neg (by decide)]
            exact fin 1 (Or.inr rfl) (if_pos (Or.inr hu))
        · rw [if_neg c6]
          exact fin 1 (Or.inr rfl) (if_pos (Or.inl c6))
      rw [rdI_n (n := 4) (t := moSS t1 145 v) n151 hi4 (by decide)]
      simp only [Option.bind_some]
      rw [show (moSS t1 145 v).I 151 i = g.2.1 i from s1]
      unfold gSm
      by_cases c7 : tmV t r (4 * r + p) (2700 * r + n) (nI l) < g.2.1 i
      · rw [if_pos c7, if_pos c7]
        exact b223 _
      · rw [if_neg c7, if_neg c7]
        exact b223 _
  unfold M_gather_b171
  by_cases c4 : how = 0
  · rw [if_pos c4]
    exact b176 1 (Or.inr ⟨rfl, Or.inl c4⟩)
  · rw [if_neg c4, rI m2 119 (by decide) (by decide)]
    simp only [Option.bind_some]
    by_cases c5 : t.I 119 (2700 * r + n) = 0
    · rw [if_pos c5]
      exact b176 0 (Or.inl ⟨rfl, fun z => z.elim c4 fun y => y c5⟩)
    · rw [if_neg c5]
      exact b176 1 (Or.inr ⟨rfl, Or.inr c5⟩)
end Mg
