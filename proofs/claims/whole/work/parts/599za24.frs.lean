/-! A number that came with a key is not older: both sides. -/
section Ms
variable {t t' : moS} {q q' n k : Nat} {h num : Int64} {E : List (Int32 × Int64)}
theorem ms_mem (hk : k ∈ msL t q) : k < (t.S 101).toNatClampNeg ∧ t.I 102 k = nI q := by
  unfold msL at hk
  obtain ⟨h1, h2⟩ := List.mem_filter.mp hk
  exact ⟨List.mem_range.mp h1, of_decide_eq_true h2⟩
theorem ms_in (h1 : k < (t.S 101).toNatClampNeg) (h2 : t.I 102 k = nI q) : k ∈ msL t q := List.mem_filter.mpr ⟨List.mem_range.mpr h1, decide_eq_true h2⟩
theorem gd_mem {l : List Nat} {i : Nat} (hi : i < l.length) : l.getD i 0 ∈ l := by
  rw [List.getD_eq_getElem?_getD, List.getElem?_eq_getElem hi]
  exact List.getElem_mem hi
theorem gd_ex {l : List Nat} {k : Nat} (hk : k ∈ l) : ∃ i, i < l.length ∧ l.getD i 0 = k := by
  obtain ⟨i, hi, e⟩ := List.mem_iff_getElem.mp hk
  exact ⟨i, hi, by rw [List.getD_eq_getElem?_getD, List.getElem?_eq_getElem hi]; exact e⟩
theorem ms_nd : (msL t q).Nodup := by
  unfold msL
  exact List.Nodup.sublist List.filter_sublist List.nodup_range
theorem ms_eq (h1 : t'.S 101 = t.S 101) (h2 : t'.I 102 = t.I 102) : msL t' q = msL t q := by
  unfold msL
  rw [h1, h2]
theorem ms_ap {q0 : Nat} (hS : t.S 101 = nI n) (hn : n ≤ 8192) (o : apO t t' n (nI q0) h num) (h0 : q0 < 2 ^ 31) (hq : q < 2 ^ 31) : msL t' q = msL t q ++ (if q = q0 then [n] else []) := by
  obtain ⟨-, e1, ⟨e2, -, -⟩, e3, -⟩ := o
  unfold msL
  rw [e1, hS, nI_clamp (by omega), nI_clamp (by omega), List.range_succ, List.filter_append]
  congr 1
  · refine List.filter_congr fun k hk => ?_
    rw [(e3 k (List.mem_range.mp hk)).1]
  · by_cases c : q = q0
    · rw [if_pos c, List.filter_cons_of_pos (by rw [e2, c]; exact decide_eq_true rfl)]
      rfl
    · rw [if_neg c, List.filter_cons_of_neg (by
        rw [e2]
        intro z
        exact c (nI_inj (of_decide_eq_true z) h0 hq).symm)]
      rfl
theorem src_ap {r p : Nat} (hS : SRC E t) (h1 : t.S 101 = nI n) (hn : n < 8192) (o : apO t t' n (nI (4 * r + p)) h num) (hr : r < 6) (hp : p < cI t r) (hi : sIn E t (t.I 71 (4 * r + p)) h) (hu : nu4 num) (no : ∀ j, j < n → ¬ (t.I 102 j = nI (4 * r + p) ∧ t.J 103 j = h)) : SRC E t' := by
  obtain ⟨m, e1, ⟨e2, e3, e4⟩, e5, -⟩ := o
  obtain ⟨a1, a2, a3, a4, a5, a6, a7⟩ := hS
  have eI : ∀ r, cI t' r = cI t r := fun r => by unfold cI; rw [m.I 70 (by decide)]
  have fi : ∀ l h, sIn E t l h → sIn E t' l h := fun l h z => z.fr m rfl
  refine ⟨?_, a2, ?_, ?_, ?_, fun k hk => ?_, fun k k' hk hk' x1 x2 => ?_⟩
  · rw [m.2 70 (Or.inr (by decide)), m.2 71 (Or.inr (by decide)), m.2 75 (Or.inr (by decide)), m.2 76 (Or.inr (by decide))]
    exact a1
  · rw [m.J 76 (by decide), m.I 75 (by decide)]; exact a3
  · intro r hr
    rw [eI, m.I 70 (by decide), m.I 75 (by decide)]; exact a4 r hr
  · intro p hp
    rw [m.I 131 (by decide)] at hp
    rw [m.I 126 (by decide), m.J 132 (by decide)]
    exact fi _ _ (a5 p hp)
  · rw [e1, nI_clamp (by omega)] at hk
    rw [h1, nI_clamp (by omega)] at a6
    rw [m.I 71 (by decide)]
    by_cases c : k < n
    · obtain ⟨y1, y2, y3⟩ := e5 k c
      rw [y1, y2, y3]
      obtain ⟨⟨r', p', b1, b2, b3, b4⟩, b5⟩ := a6 k c
      exact ⟨⟨r', p', b1, by rw [eI]; exact b2, b3, fi _ _ b4⟩, b5⟩
    · have : k = n := by omega
      subst this
      rw [e2, e3, e4]
      exact ⟨⟨r, p, hr, by rw [eI]; exact hp, rfl, fi _ _ hi⟩, hu⟩
  · rw [e1, nI_clamp (by omega)] at hk hk'
    rw [h1, nI_clamp (by omega)] at a7
    by_cases c : k < n <;> by_cases c' : k' < n
    · rw [(e5 k c).1, (e5 k' c').1] at x1
      rw [(e5 k c).2.1, (e5 k' c').2.1] at x2
      exact a7 k k' c c' x1 x2
    · have : k' = n := by omega
      subst this
      rw [(e5 k c).1, e2] at x1
      rw [(e5 k c).2.1, e3] at x2
      exact absurd ⟨x1, x2⟩ (no k c)
    · have : k = n := by omega
      subst this
      rw [(e5 k' c').1, e2] at x1
      rw [(e5 k' c').2.1, e3] at x2
      exact absurd ⟨x1.symm, x2.symm⟩ (no k' c')
    · omega
theorem src_104 (hS : SRC E t) (hu : nu4 num) : SRC E (moSJ t 104 k num) := by
  have m : mfr [104] t (moSJ t 104 k num) := mfr.sj (by decide)
  obtain ⟨a1, a2, a3, a4, a5, a6, a7⟩ := hS
  have fi : ∀ l h, sIn E t l h → sIn E (moSJ t 104 k num) l h := fun l h z => z.fr m rfl
  refine ⟨a1, a2, ?_, a4, fun p hp => ?_, fun j hj => ?_, ?_⟩
  · rw [m.J 76 (by decide)]; exact a3
  · rw [m.J 132 (by decide)]
    exact fi _ _ (a5 p hp)
  · obtain ⟨⟨r', p', b1, b2, b3, b4⟩, b5⟩ := a6 j hj
    refine ⟨⟨r', p', b1, b2, b3, by rw [m.J 103 (by decide)]; exact fi _ _ b4⟩, ?_⟩
    rw [moSJ_s]
    show nu4 (if j = k then num else t.J 104 j)
    split
    · exact hu
    · exact b5
  · rw [m.J 103 (by decide)]; exact a7
end Ms
