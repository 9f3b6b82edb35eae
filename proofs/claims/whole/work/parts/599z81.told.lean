/-! With which metric and tag a route is told: the model, the class. -/
def shW (t : moS) (r k : Nat) : Nat := 2 * r + (if t.I 110 k = 0 then 0 else 1)
def tmO (t : moS) (r k : Nat) : Prop := t.I 110 k ≠ 2 ∧ t.I 68 (shW t r k) = 0
noncomputable def tmB (t : moS) (r k : Nat) : Int32 := if t.I 110 k ≠ 2 ∧ 0 < t.I 68 (shW t r k) then t.I 68 (shW t r k) else t.I 111 k
noncomputable def ttV (t : moS) (r k : Nat) : Int32 := if t.I 110 k ≠ 2 ∧ 0 < t.I 68 (shW t r k) then (if t.I 69 (shW t r k) = -1 then 0 else t.I 69 (shW t r k)) else t.I 112 k
noncomputable def tmF (t : moS) (r q k : Nat) (lk me : Int32) : Int32 := if faV t r 1 (t.I 106 k) (t.J 107 k) (t.J 108 k) (t.I 109 k) = 0 ∨ daV t r 1 lk (t.I 106 k) (t.J 107 k) (t.J 108 k) (t.I 109 k) = 0 then -1 else if t.I 113 k = nI q then (if t.I 110 k ≠ 2 ∨ t.J 73 q = 1969498085 then -1 else mn16 ((if t.J 73 q = 1677407014 then 16 else me) + ofV t r 1 lk (t.I 106 k) (t.J 107 k) (t.J 108 k) (t.I 109 k))) else mn16 (me + ofV t r 1 lk (t.I 106 k) (t.J 107 k) (t.J 108 k) (t.I 109 k))
noncomputable def tmV (t : moS) (r q k : Nat) (lk : Int32) : Int32 := @ite _ (tmO t r k) (Classical.propDecidable _) (-1) (tmF t r q k lk (tmB t r k))
theorem mn16_m (v : Int32) : mn16 v = if 16 < v then 16 else v := by
  unfold mn16 mnI
  by_cases c : v < 16
  · rw [if_pos c, if_neg (fun z => Int32.lt_irrefl (Int32.lt_trans c z))]
  · rw [if_neg c]
    by_cases c2 : 16 < v
    · rw [if_pos c2]
    · rw [if_neg c2]
      exact Int32.le_antisymm (Int32.not_lt.mp c) (Int32.not_lt.mp c2)
section Tm
variable {G H : Nat → Nat → Nat} {sa : Nat → Nat} {x kc ks r p l j : Nat} {s : cS} {t : moS} {v me : Int32}
theorem MV.s145 (hM : MV t) : MV (moSS t 145 v) := hM.fr (mfr.ss (W := [145]) (by decide)) rfl (hM.1.fr (mfr.ss (W := [145]) (by decide)) rfl)
theorem ss_145 {u : Int32} : moSS (moSS t 145 v) 145 u = moSS t 145 u := by
  unfold moSS
  refine Prod.ext (funext fun k => ?_) rfl
  show (if k = 145 then u else if k = 145 then v else t.S k) = if k = 145 then u else t.S k
  by_cases c : k = 145
  · rw [if_pos c, if_pos c]
  · rw [if_neg c, if_neg c, if_neg c]
theorem m_tm105 (hM : MV t) (hr : r < cR t) (hp : p < cI t r) (hj : j < cN t r) (hl : t.I 71 (4 * r + p) = nI l) : M_toldMetric_b105 (moSS t 145 v) (nI r) (nI (4 * r + p)) (nI (2700 * r + j)) me = some (tmF t r (4 * r + p) (2700 * r + j) (nI l) me, moSS t 145 v) := by
  have h6 := hM.nR
  have h4 := hM.nIf hr
  have h9 := hM.nRo hr
  have hk : 2700 * r + j < 16200 := by omega
  have hM1 : MV (moSS t 145 v) := hM.s145
  have hf : lnOk (t.I 106 (2700 * r + j)) (t.I 109 (2700 * r + j)) := hM.kl hr hj
  have rI : ∀ g, g ∈ fRA → rdI (moSS t 145 v) g (nI (2700 * r + j)) = some (t.I g (2700 * r + j)) := fun g hg => rdI_n (n := 16200) (t := moSS t 145 v) (hM.row g hg) hk (by decide)
  have rJ : ∀ g, g ∈ fRA → rdJ (moSS t 145 v) g (nI (2700 * r + j)) = some (t.J g (2700 * r + j)) := fun g hg => rdJ_n (n := 16200) (t := moSS t 145 v) (hM.row g hg) hk (by decide)
  have r71 : rdI (moSS t 145 v) 71 (nI (4 * r + p)) = some (nI l) := by
    rw [← hl]
    exact rdI_n (n := 24) (t := moSS t 145 v) (hM.n.n 71 24) (by omega) (by decide)
  have r73 : rdJ (moSS t 145 v) 73 (nI (4 * r + p)) = some (t.J 73 (4 * r + p)) := rdJ_n (n := 24) (t := moSS t 145 v) (hM.n.n 73 24) (by omega) (by decide)
  have hr1 : r < cR (moSS t 145 v) := hr
  have fa := m_filtA (w := 1) (h := t.J 107 (2700 * r + j)) (l := t.J 108 (2700 * r + j)) hM1 hr1 (by decide) hf
  have da := m_distA (w := 1) (lk := nI l) (h := t.J 107 (2700 * r + j)) (l := t.J 108 (2700 * r + j)) hM1 hr1 hf
  have oa := m_offA (w := 1) (lk := nI l) (h := t.J 107 (2700 * r + j)) (l := t.J 108 (2700 * r + j)) hM1 hr1 hf
  have b236 : ∀ u, M_toldMetric_b236 (moSS t 145 v) (nI r) (nI (4 * r + p)) u (t.I 106 (2700 * r + j)) (t.J 107 (2700 * r + j)) (t.J 108 (2700 * r + j)) (t.I 109 (2700 * r + j)) = some (mn16 (u + ofV t r 1 (nI l) (t.I 106 (2700 * r + j)) (t.J 107 (2700 * r + j)) (t.J 108 (2700 * r + j)) (t.I 109 (2700 * r + j))), moSS t 145 v) := by
    intro u
    unfold M_toldMetric_b236
    rw [r71]
    simp only [Option.bind_some]
    rw [show M_offsetFor (moSS t 145 v) (nI r) 1 (nI l) (t.I 106 (2700 * r + j)) (t.J 107 (2700 * r + j)) (t.J 108 (2700 * r + j)) (t.I 109 (2700 * r + j)) = _ from oa]
    simp only [Option.bind_some]
    rw [mn16_m]
    show (if 16 < u + ofV t r 1 (nI l) (t.I 106 (2700 * r + j)) (t.J 107 (2700 * r + j)) (t.J 108 (2700 * r + j)) (t.I 109 (2700 * r + j)) then _ else _) = _
    by_cases c : 16 < u + ofV t r 1 (nI l) (t.I 106 (2700 * r + j)) (t.J 107 (2700 * r + j)) (t.J 108 (2700 * r + j)) (t.I 109 (2700 * r + j))
    · rw [if_pos c, if_pos c]
    · rw [if_neg c, if_neg c]
      rfl
  unfold M_toldMetric_b105 M_toldMetric_b234 tmF
  rw [rI 106 (by decide), rJ 107 (by decide), rJ 108 (by decide), rI 109 (by decide)]
  simp only [Option.bind_some]
  rw [show M_filterAllows (moSS t 145 v) (nI r) 1 (t.I 106 (2700 * r + j)) (t.J 107 (2700 * r + j)) (t.J 108 (2700 * r + j)) (t.I 109 (2700 * r + j)) = _ from fa]
  simp only [Option.bind_some]
  by_cases c1 : faV t r 1 (t.I 106 (2700 * r + j)) (t.J 107 (2700 * r + j)) (t.J 108 (2700 * r + j)) (t.I 109 (2700 * r + j)) = 0
  · rw [if_pos (show faV (moSS t 145 v) r 1 (t.I 106 (2700 * r + j)) (t.J 107 (2700 * r + j)) (t.J 108 (2700 * r + j)) (t.I 109 (2700 * r + j)) = 0 from c1), if_pos (Or.inl c1)]
  rw [if_neg (show ¬ faV (moSS t 145 v) r 1 (t.I 106 (2700 * r + j)) (t.J 107 (2700 * r + j)) (t.J 108 (2700 * r + j)) (t.I 109 (2700 * r + j)) = 0 from c1), r71]
  simp only [Option.bind_some]
  rw [show M_distributeAllows (moSS t 145 v) (nI r) 1 (nI l) (t.I 106 (2700 * r + j)) (t.J 107 (2700 * r + j)) (t.J 108 (2700 * r + j)) (t.I 109 (2700 * r + j)) = _ from da]
  simp only [Option.bind_some]
  by_cases c2 : daV t r 1 (nI l) (t.I 106 (2700 * r + j)) (t.J 107 (2700 * r + j)) (t.J 108 (2700 * r + j)) (t.I 109 (2700 * r + j)) = 0
  · rw [if_pos (show daV (moSS t 145 v) r 1 (nI l) (t.I 106 (2700 * r + j)) (t.J 107 (2700 * r + j)) (t.J 108 (2700 * r + j)) (t.I 109 (2700 * r + j)) = 0 from c2), if_pos (Or.inr c2)]
  rw [if_neg (show ¬ daV (moSS t 145 v) r 1 (nI l) (t.I 106 (2700 * r + j)) (t.J 107 (2700 * r + j)) (t.J 108 (2700 * r + j)) (t.I 109 (2700 * r + j)) = 0 from c2), if_neg (fun z => z.elim c1 c2), rI 113 (by decide)]
  simp only [Option.bind_some]
  by_cases c3 : t.I 113 (2700 * r + j) = nI (4 * r + p)
  · rw [if_pos c3, if_pos c3, rI 110 (by decide)]
    simp only [Option.bind_some]
    by_cases c4 : t.I 110 (2700 * r + j) = 2
    · rw [if_pos c4, r73]
      simp only [Option.bind_some]
      by_cases c5 : t.J 73 (4 * r + p) = 1969498085
      · rw [if_pos c5, if_pos (Or.inr c5)]
      · have no : ¬ (t.I 110 (2700 * r + j) ≠ 2 ∨ t.J 73 (4 * r + p) = 1969498085) := fun z => z.elim (fun y => y c4) c5
        rw [if_neg c5, if_neg no]
        by_cases c6 : t.J 73 (4 * r + p) = 1677407014
        · rw [if_pos c6, if_pos c6, b236]
        · rw [if_neg c6, if_neg c6, b236]
    · rw [if_neg c4, if_pos (Or.inl c4)]
  · rw [if_neg c3, if_neg c3, b236]
theorem m_toldM (hM : MV t) (hr : r < cR t) (hp : p < cI t r) (hj : j < cN t r) (hl : t.I 71 (4 * r + p) = nI l) : ∃ v, M_toldMetric t (nI r) (nI (4 * r + p)) (nI (2700 * r + j)) = some (tmV t r (4 * r + p) (2700 * r + j) (nI l), moSS t 145 v) ∧ (tmV t r (4 * r + p) (2700 * r + j) (nI l) ≠ -1 → v = ttV t r (2700 * r + j)) := by
  have h6 := hM.nR
  have h9 := hM.nRo hr
  have hk : 2700 * r + j < 16200 := by omega
  have rI0 : ∀ g, g ∈ fRA → rdI t g (nI (2700 * r + j)) = some (t.I g (2700 * r + j)) := fun g hg => rdI_n (n := 16200) (hM.row g hg) hk (by decide)
  have r110 : ∀ v, rdI (moSS t 145 v) 110 (nI (2700 * r + j)) = some (t.I 110 (2700 * r + j)) := fun v => rdI_n (n := 16200) (t := moSS t 145 v) (hM.row 110 (by decide)) hk (by decide)
  have b105 := fun v me => m_tm105 (v := v) (me := me) hM hr hp hj hl
  have e2 : ∀ y : Nat, (2 : Int32) * nI r + nI y = nI (2 * r + y) := fun y => by rw [show (2 : Int32) = nI 2 from rfl, pk_mul, nI_add]
  have b45 : ∀ v y, y < 2 → shW t r (2700 * r + j) = 2 * r + y → t.I 110 (2700 * r + j) ≠ 2 → v = t.I 112 (2700 * r + j) → ∃ v', M_toldMetric_b45 (moSS t 145 v) (nI r) (nI (4 * r + p)) (nI (2700 * r + j)) (t.I 111 (2700 * r + j)) ((2 : Int32) * nI r) (nI y) = some (tmV t r (4 * r + p) (2700 * r + j) (nI l), moSS t 145 v') ∧ (tmV t r (4 * r + p) (2700 * r + j) (nI l) ≠ -1 → v' = ttV t r (2700 * r + j)) := by
    intro v y hy es hk2 ev
    have r68 : rdI (moSS t 145 v) 68 (nI (2 * r + y)) = some (t.I 68 (2 * r + y)) := rdI_n (n := 12) (t := moSS t 145 v) (hM.n.n 68 12) (by omega) (by decide)
    have r69 : rdI (moSS t 145 v) 69 (nI (2 * r + y)) = some (t.I 69 (2 * r + y)) := rdI_n (n := 12) (t := moSS t 145 v) (hM.n.n 69 12) (by omega) (by decide)
    unfold M_toldMetric_b45 M_toldMetric_b102 tmV ttV tmB tmO
    rw [e2, es, r68]
    simp only [Option.bind_some]
    by_cases c1 : t.I 68 (2 * r + y) = 0
    · have ys : t.I 110 (2700 * r + j) ≠ 2 ∧ t.I 68 (2 * r + y) = 0 := ⟨hk2, c1⟩
      rw [if_pos c1, if_pos ys]
      exact ⟨v, rfl, fun z => absurd rfl z⟩
    have no : ¬ (t.I 110 (2700 * r + j) ≠ 2 ∧ t.I 68 (2 * r + y) = 0) := fun z => c1 z.2
    rw [if_neg c1, if_neg no]
    by_cases c2 : 0 < t.I 68 (2 * r + y)
    · have ys : t.I 110 (2700 * r + j) ≠ 2 ∧ 0 < t.I 68 (2 * r + y) := ⟨hk2, c2⟩
      rw [if_pos c2, if_pos ys, if_pos ys, r69]
      simp only [Option.bind_some]
      by_cases c3 : t.I 69 (2 * r + y) = -1
      · rw [if_pos c3, if_pos c3]
        refine ⟨0, ?_, fun _ => rfl⟩
        show M_toldMetric_b105 (moSS (moSS t 145 v) 145 0) _ _ _ _ = _
        rw [ss_145, b105]
      · rw [if_neg c3, if_neg c3]
        refine ⟨t.I 69 (2 * r + y), ?_, fun _ => rfl⟩
        show M_toldMetric_b105 (moSS (moSS t 145 v) 145 (t.I 69 (2 * r + y))) _ _ _ _ = _
        rw [ss_145, b105]
    · have no2 : ¬ (t.I 110 (2700 * r + j) ≠ 2 ∧ 0 < t.I 68 (2 * r + y)) := fun z => c2 z.2
      rw [if_neg c2, if_neg no2, if_neg no2, b105]
      exact ⟨v, rfl, fun _ => ev⟩
  unfold M_toldMetric
  rw [rI0 111 (by decide), rI0 112 (by decide)]
  simp only [Option.bind_some]
  show ∃ v, Option.bind (rdI (moSS t 145 (t.I 112 (2700 * r + j))) 110 (nI (2700 * r + j))) _ = _ ∧ _
  rw [r110]
  simp only [Option.bind_some]
  by_cases c0 : t.I 110 (2700 * r + j) = 2
  · rw [if_pos c0, b105]
    unfold tmV ttV tmB tmO
    have n1 : ¬ (t.I 110 (2700 * r + j) ≠ 2 ∧ t.I 68 (shW t r (2700 * r + j)) = 0) := fun z => z.1 c0
    have n2 : ¬ (t.I 110 (2700 * r + j) ≠ 2 ∧ 0 < t.I 68 (shW t r (2700 * r + j))) := fun z => z.1 c0
    rw [if_neg n1, if_neg n2, if_neg n2]
    exact ⟨_, rfl, fun _ => rfl⟩
  · rw [if_neg c0]
    by_cases c1 : t.I 110 (2700 * r + j) = 0
    · rw [if_pos c1]
      exact b45 _ 0 (by decide) (by unfold shW; rw [if_pos c1]) c0 rfl
    · rw [if_neg c1]
      exact b45 _ 1 (by decide) (by unfold shW; rw [if_neg c1]) c0 rfl
/-- the class: its share of a kind -/
theorem w_sh (hq : RQ G H sa x s t) (hM : MV t) (hr : r < cR t) (hj : j < cN t r) (hk2 : t.I 110 (2700 * r + j) ≠ 2) : rE s .int (H 193 (G 1 r)) (t.I 110 (2700 * r + j)) = some (shc (t.I 68 (shW t r (2700 * r + j)))) ∧ rE s .int (H 194 (G 1 r)) (t.I 110 (2700 * r + j)) = some (t.I 69 (shW t r (2700 * r + j))) := by
  have k26 := (hq.rt hr).1.1
  obtain ⟨kd, ek, -, hkd⟩ := ((hM.r hr).w hj).2.1
  have b := (rq_py hq hr).2.2.2.2
  have es : shW t r (2700 * r + j) = 2 * r + kd := by
    unfold shW
    rw [ek]
    rcases (show kd = 0 ∨ kd = 1 ∨ kd = 2 by omega) with rfl | rfl | rfl
    · rfl
    · rfl
    · exact absurd ek hk2
  have h2 : kd < 2 := by
    rcases (show kd = 0 ∨ kd = 1 ∨ kd = 2 by omega) with rfl | rfl | rfl
    · decide
    · decide
    · exact absurd ek hk2
  rw [es, ek]
  exact ⟨rd_E (hq.ty.r k26 193 121 2).2 ⟨by decide, by decide, rfl⟩ h2 (by decide) (b kd h2).1, rd_E (hq.ty.r k26 194 122 2).2 ⟨by decide, by decide, rfl⟩ h2 (by decide) (b kd h2).2⟩
theorem shc_0 {m : Int32} (h : m = -1 ∨ rng m 0 15) : (shc m = 0 ↔ m = -1) ∧ (shc m = -1 ↔ m = 0) ∧ (0 < m → shc m = m) ∧ (0 < m ↔ m ≠ -1 ∧ m ≠ 0) := by
  rcases h with rfl | ⟨n, rfl, -, hn⟩
  · decide
  · revert hn
    have : ∀ n : Fin 16, (shc (nI n.1) = 0 ↔ nI n.1 = -1) ∧ (shc (nI n.1) = -1 ↔ nI n.1 = 0) ∧ (0 < nI n.1 → shc (nI n.1) = nI n.1) ∧ (0 < nI n.1 ↔ nI n.1 ≠ -1 ∧ nI n.1 ≠ 0) := by decide
    intro hn
    exact this ⟨n, by omega⟩
theorem w_toldTag {Q : Int32 → cS → Nat → Nat → Prop} (hq : RQ G H sa x s t) (hM : MV t) (hr : r < cR t) (hj : j < cN t r) (k : ∀ v, (¬ tmO t r (2700 * r + j) → v = ttV t r (2700 * r + j)) → Q v s kc ks) : C_Rr_toldTag sa (G 1 r) (some (G 4 (2700 * r + j))) s kc ks Q := by
  have k26 := (hq.rt hr).1.1
  have o9 : okO s 9 (G 1 r) := okr k26 9
  obtain ⟨k23, hW⟩ := hq.row hr hj
  have o8 : okO s 8 (G 4 (2700 * r + j)) := okr k23 8
  obtain ⟨-, ⟨w1, w2, w3, w4⟩, -⟩ := hW
  have e110 : s.I (20 * 8 + 3) (G 4 (2700 * r + j)) = t.I 110 (2700 * r + j) := w1
  unfold C_Rr_toldTag
  refine ⟨_, rfl, _, gd_to o8, ?_⟩
  rw [e110]
  have b20 : (¬ tmO t r (2700 * r + j) → t.I 112 (2700 * r + j) = ttV t r (2700 * r + j)) → C_Rr_toldTag_b20 sa (some (G 4 (2700 * r + j))) s kc ks Q := fun z => by
    unfold C_Rr_toldTag_b20
    refine ⟨_, rfl, _, gd_to o8, ?_⟩
    rw [show s.I (20 * 8 + 5) (G 4 (2700 * r + j)) = t.I 112 (2700 * r + j) from w3]
    exact k _ z
  by_cases c0 : t.I 110 (2700 * r + j) = 2
  · refine ifT c0 (b20 fun _ => ?_)
    unfold ttV
    rw [if_neg (fun z => z.1 c0)]
  obtain ⟨s1, s2⟩ := w_sh hq hM hr hj c0
  have sh := (hM.r hr).2.2.2.2.2.2.2.2.1
  have hs : (t.I 68 (shW t r (2700 * r + j)) = -1 ∨ rng (t.I 68 (shW t r (2700 * r + j))) 0 15) ∧ (t.I 69 (shW t r (2700 * r + j)) = -1 ∨ rng (t.I 69 (shW t r (2700 * r + j))) 0 65535) := by
    unfold shW
    split
    · exact sh 0 (by decide)
    · exact sh 1 (by decide)
  obtain ⟨z1, z2, z3, z4⟩ := shc_0 hs.1
  refine ifF c0 ⟨_, gd_to o9, _, gd_to o8, H 193 (G 1 r), (hq.ty.r k26 193 121 2).1, ?_⟩
  rw [e110]
  refine ⟨_, s1, ?_⟩
  by_cases c1 : shc (t.I 68 (shW t r (2700 * r + j))) = 0
  · refine ifT c1 (b20 fun _ => ?_)
    unfold ttV
    rw [if_neg (fun z => (z4.mp z.2).1 (z1.mp c1))]
  refine ifF c1 ⟨_, gd_to o9, _, gd_to o8, H 194 (G 1 r), (hq.ty.r k26 194 122 2).1, ?_⟩
  rw [e110]
  refine ⟨_, s2, k _ fun z => ?_⟩
  have n0 : t.I 68 (shW t r (2700 * r + j)) ≠ 0 := fun y => z ⟨c0, y⟩
  unfold ttV
  rw [if_pos ⟨c0, z4.mpr ⟨fun y => c1 (z1.mpr y), n0⟩⟩]
  unfold mxI
  rcases hs.2 with y | ⟨m, y, -, hm⟩
  · rw [if_pos y, y]; decide
  · rw [y, if_neg (show ¬ nI m = -1 from oI_n1 m (by omega))]
    by_cases c3 : 0 < m
    · rw [if_pos (show (0 : Int32) < nI m from nI_lt (a := 0) c3 (by omega))]
    · have : m = 0 := by omega
      subst this
      rfl
theorem w_toldMetric {Q : Int32 → cS → Nat → Nat → Prop} (hq : RQ G H sa x s t) (hM : MV t) (hr : r < cR t) (hp : p < cI t r) (hj : j < cN t r) (hl : t.I 71 (4 * r + p) = nI l) (hlL : l < cL t) (k : Q (tmV t r (4 * r + p) (2700 * r + j) (nI l)) s kc ks) : C_Rr_toldMetric sa (G 1 r) (some (G 4 (2700 * r + j))) (some (G 2 (4 * r + p))) s kc ks Q := by
  have h6 := hM.nR
  have h4 := hM.nIf hr
  have h10 := hM.nL
  have k26 := (hq.rt hr).1.1
  have o9 : okO s 9 (G 1 r) := okr k26 9
  obtain ⟨k23, hW⟩ := hq.row hr hj
  have o8 : okO s 8 (G 4 (2700 * r + j)) := okr k23 8
  obtain ⟨w0, ⟨w1, w2, w3, w4⟩, w5, -⟩ := hW
  have mr := (hM.r hr).w hj
  have hf : lnOk (t.I 106 (2700 * r + j)) (t.I 109 (2700 * r + j)) := mr.1
  have p160 := hq.ty.p k23 160 9
  have h5 : okO s 5 (H 160 (G 4 (2700 * r + j))) := okr p160.2 5
  obtain ⟨⟨y1, y2, y3⟩, -, -, ⟨-, y5, -⟩, -⟩ := hq.po hr hp
  have o4 : okO s 4 (G 2 (4 * r + p)) := okr y1 4
  have p80 := (hq.ty.p y1 80 7).1
  rw [y3, hl, nI_clamp (by omega)] at p80
  have e110 : s.I (20 * 8 + 3) (G 4 (2700 * r + j)) = t.I 110 (2700 * r + j) := w1
  have b95 : ∀ me, Q (mn16 (me + ofV t r 1 (nI l) (t.I 106 (2700 * r + j)) (t.J 107 (2700 * r + j)) (t.J 108 (2700 * r + j)) (t.I 109 (2700 * r + j)))) s kc ks → C_Rr_toldMetric_b95 sa (G 1 r) (some (G 4 (2700 * r + j))) (some (G 2 (4 * r + p))) me s kc ks Q := by
    intro me q
    unfold C_Rr_toldMetric_b95
    refine ⟨_, rfl, _, gd_to o4, _, rfl, _, gd_to o8, o9, ?_⟩
    show C_Rr_raised sa (G 1 r) me (nI 1) (s.P 80 (G 2 (4 * r + p))) (s.P 160 (G 4 (2700 * r + j))) s kc ks _
    rw [p80, p160.1]
    exact w_raised hq hM hr hlL hf w0 h5 q
  have eport : s.P 166 (G 4 (2700 * r + j)) = some (G 2 (4 * r + p)) ↔ t.I 113 (2700 * r + j) = nI (4 * r + p) := by
    rw [w5]
    unfold ifp
    rcases mr.2.2.2.2.2.1 with z | ⟨q, z, q1, q2⟩
    · rw [z, if_pos rfl]
      exact ⟨fun e => (by cases e), fun e => absurd e.symm (nI_ne (by omega))⟩
    · rw [z, if_neg (show ¬ nI q = -1 from nI_ne (by omega)), nI_clamp (by omega)]
      refine ⟨fun e => ?_, fun e => by rw [nI_inj e (by omega) (by omega)]⟩
      have e2 := hq.2.1.2.2.1 r r (q - 4 * r) p hr hr (by omega) hp (by rw [show 4 * r + (q - 4 * r) = q by omega]; exact Option.some.inj e)
      rw [show q = 4 * r + p by omega]
  have spv : (s.I 84 (G 2 (4 * r + p)) = 1 ↔ t.J 73 (4 * r + p) = 1969498085) ∧ (s.I 84 (G 2 (4 * r + p)) = 2 ↔ t.J 73 (4 * r + p) = 1677407014) := by
    rcases y5 with ⟨a, b⟩ | ⟨a, b⟩ | ⟨a, b⟩ <;> rw [a, b] <;> decide
  have b35 : ∀ me, ¬ me = -1 → Q (tmF t r (4 * r + p) (2700 * r + j) (nI l) me) s kc ks → C_Rr_toldMetric_b35 sa (G 1 r) (some (G 4 (2700 * r + j))) (some (G 2 (4 * r + p))) me s kc ks Q := by
    intro me hme q
    unfold tmF at q
    unfold C_Rr_toldMetric_b35
    refine ifF hme ⟨_, rfl, _, gd_to o4, _, rfl, _, gd_to o8, o9, ?_⟩
    show C_Rr_refuses sa (G 1 r) (nI 1) (s.P 80 (G 2 (4 * r + p))) (s.P 160 (G 4 (2700 * r + j))) s kc ks _
    rw [p80, p160.1]
    refine w_refuses hq hM hr hlL (by decide) hf w0 h5 (fun z => ifF (by decide) ?_) (fun z1 z2 => ifT rfl ⟨_, gd_to o8, ?_⟩)
    · rw [if_pos z] at q
      exact q
    rw [if_neg (fun y => y.elim z1 z2)] at q
    by_cases c3 : t.I 113 (2700 * r + j) = nI (4 * r + p)
    · rw [if_pos c3] at q
      refine ifT (eport.mpr c3) ⟨_, gd_to o8, ?_⟩
      rw [e110]
      by_cases c4 : t.I 110 (2700 * r + j) = 2
      · refine ifT c4 ⟨_, gd_to o4, ?_⟩
        by_cases c5 : t.J 73 (4 * r + p) = 1969498085
        · rw [if_pos (Or.inr c5)] at q
          exact ifT (spv.1.mpr c5) q
        · rw [if_neg (fun z => z.elim (fun y => y c4) c5)] at q
          refine ifF (fun z => c5 (spv.1.mp z)) ⟨_, gd_to o4, ?_⟩
          by_cases c6 : t.J 73 (4 * r + p) = 1677407014
          · rw [if_pos c6] at q
            exact ifT (spv.2.mpr c6) (b95 _ q)
          · rw [if_neg c6] at q
            exact ifF (fun z => c6 (spv.2.mp z)) (b95 _ q)
      · rw [if_pos (Or.inl c4)] at q
        exact ifF c4 q
    · rw [if_neg c3] at q
      exact ifF (fun z => c3 (eport.mp z)) (b95 _ q)
  have m1 : ¬ t.I 111 (2700 * r + j) = -1 := by
    obtain ⟨m, e, -, hm⟩ := mr.2.2.1
    rw [e]
    exact nI_ne (by omega)
  unfold C_Rr_toldMetric
  refine ⟨_, rfl, _, gd_to o8, _, gd_to o8, ?_⟩
  rw [e110, show s.I (20 * 8 + 4) (G 4 (2700 * r + j)) = t.I 111 (2700 * r + j) from w2]
  unfold tmV tmB tmO at k
  by_cases c0 : t.I 110 (2700 * r + j) = 2
  · rw [if_neg (fun z => z.1 c0), if_neg (fun z => z.1 c0)] at k
    exact ifT c0 (b35 _ m1 k)
  obtain ⟨s1, s2⟩ := w_sh hq hM hr hj c0
  have sh := (hM.r hr).2.2.2.2.2.2.2.2.1
  have hs : (t.I 68 (shW t r (2700 * r + j)) = -1 ∨ rng (t.I 68 (shW t r (2700 * r + j))) 0 15) := by
    unfold shW
    split
    · exact (sh 0 (by decide)).1
    · exact (sh 1 (by decide)).1
  obtain ⟨z1, z2, z3, z4⟩ := shc_0 hs
  refine ifF c0 ⟨_, gd_to o9, _, gd_to o8, H 193 (G 1 r), (hq.ty.r k26 193 121 2).1, ?_⟩
  rw [e110]
  refine ⟨_, s1, ?_⟩
  by_cases c1 : shc (t.I 68 (shW t r (2700 * r + j))) = 0
  · rw [if_neg (fun z => absurd (z1.mp c1) (by rw [z.2]; decide)), if_neg (fun z => (z4.mp z.2).1 (z1.mp c1))] at k
    exact ifT c1 (b35 _ m1 k)
  refine ifF c1 ⟨_, gd_to o9, _, gd_to o8, H 193 (G 1 r), (hq.ty.r k26 193 121 2).1, ?_⟩
  rw [e110]
  refine ⟨_, s1, ?_⟩
  by_cases c2 : t.I 68 (shW t r (2700 * r + j)) = 0
  · rw [if_pos ⟨c0, c2⟩] at k
    unfold C_Rr_toldMetric_b35
    exact ifT (z2.mpr c2) k
  · have hp0 : 0 < t.I 68 (shW t r (2700 * r + j)) := z4.mpr ⟨fun y => c1 (z1.mpr y), c2⟩
    rw [if_neg (fun z => c2 z.2), if_pos ⟨c0, hp0⟩] at k
    rw [z3 hp0]
    exact b35 _ (z4.mp hp0).1 k
end Tm
