/-! The model's haveRoom. -/
section Hr
variable {t : moS} {q : Nat} {p1 p2 p3 p4 a5 a6 a7 a8 : Int32} {L : List kV}
/-- a key's number is there -/
def kHas (L : List kV) (v : Int32) : Prop := ∃ (k : Nat) (u : kV), L[k]? = some u ∧ u.1 = v
theorem kHas_ix {v : Int32} : kHas L v ↔ kIx v L < L.length := by
  constructor
  · rintro ⟨k, u, h1, h2⟩
    have hk := (List.getElem?_eq_some_iff.mp h1).1
    rcases Nat.lt_or_ge (kIx v L) L.length with h | h
    · exact h
    · exact absurd h2 (kIx_e v L k u h1 (by omega))
  · intro h
    obtain ⟨u, hu⟩ := gk_some h
    exact ⟨_, u, hu, kIx_a v L u hu⟩
/-- the keys that an interface has are asked -/
theorem m_hr110 (hN : mN t) (hq : q < 24) (h4 : L.length ≤ 4) (h82 : t.I 82 q = nI L.length) (h83 : ∀ k u, L[k]? = some u → t.I 83 (4 * q + k) = u.1) {a9 : Int32} (B : Bool) (hB : B = true ↔ a5 ≠ 0) : ∀ m j (b : Bool), j + m = L.length → ∃ b' : Bool, lp (fun x : Int32 × Int32 => M_haveRoom_s110 t (nI q) p2 p3 p4 a5 a6 a7 a8 a9 x.1 x.2) ((if b = true then 1 else 0), nI j) = M_haveRoom_b160 t (nI q) p2 p3 p4 a5 a6 a7 a8 a9 (if b' = true then 1 else 0) ∧ (b' = true ↔ b = true ∨ a5 ≠ 0 ∧ ∃ (k : Nat) (u : kV), j ≤ k ∧ L[k]? = some u ∧ u.1 = a9) := by
  intro m
  induction m with
  | zero =>
    intro j b hj
    have hj : j = L.length := by omega
    subst hj
    refine ⟨b, lp_x ?_, ⟨Or.inl, fun h => h.elim id fun ⟨_, k, u, h1, h2, _⟩ => absurd (List.getElem?_eq_some_iff.mp h2).1 (by omega)⟩⟩
    show M_haveRoom_s110 t (nI q) p2 p3 p4 a5 a6 a7 a8 a9 (if b = true then 1 else 0) (nI L.length) = _
    unfold M_haveRoom_s110
    by_cases c : a5 = 0
    · rw [if_pos c]
    · rw [if_neg c]
      refine (sr_I (hN.n 82 24) hq (by decide)).trans ?_
      rw [h82, if_neg (nI_nlt (Nat.le_refl _) (by omega))]
  | succ m ih =>
    intro j b hj
    by_cases c : a5 = 0
    · refine ⟨b, lp_x ?_, ⟨Or.inl, fun h => h.elim id fun y => absurd c y.1⟩⟩
      show M_haveRoom_s110 t (nI q) p2 p3 p4 a5 a6 a7 a8 a9 (if b = true then 1 else 0) (nI j) = _
      unfold M_haveRoom_s110
      rw [if_pos c]
    · obtain ⟨u, hu⟩ := gk_some (L := L) (k := j) (by omega)
      have st : M_haveRoom_s110 t (nI q) p2 p3 p4 a5 a6 a7 a8 a9 (if b = true then 1 else 0) (nI j) = some (.inl ((if (b || decide (u.1 = a9)) = true then 1 else 0), nI (j + 1))) := by
        unfold M_haveRoom_s110 M_haveRoom_b147 M_haveRoom_b152
        rw [if_neg c]
        refine (sr_I (hN.n 82 24) hq (by decide)).trans ?_
        rw [h82, if_pos (nI_lt (by omega) (by omega)), nI_1]
        cases b with
        | true =>
          rw [if_neg (show ¬ (if true = true then (1 : Int32) else 0) = 0 by decide)]
          rfl
        | false =>
          rw [if_pos (show (if false = true then (1 : Int32) else 0) = 0 by decide), show (4 : Int32) * nI q + nI j = nI (4 * q + j) by rw [show (4 : Int32) = nI 4 from rfl, pk_mul, nI_add]]
          refine (sr_I (hN.n 83 96) (by omega) (by decide)).trans ?_
          rw [h83 j u hu]
          by_cases cu : u.1 = a9
          · rw [if_pos cu, Bool.false_or, if_pos (decide_eq_true cu)]
          · rw [if_neg cu, Bool.false_or, if_neg (by rw [decide_eq_false cu]; decide)]
      obtain ⟨b', e1, e2⟩ := ih (j + 1) (b || decide (u.1 = a9)) (by omega)
      refine ⟨b', ?_, ?_⟩
      · rw [lp_l (show (fun x : Int32 × Int32 => M_haveRoom_s110 t (nI q) p2 p3 p4 a5 a6 a7 a8 a9 x.1 x.2) ((if b = true then 1 else 0), nI j) = _ from st)]
        exact e1
      · rw [e2, Bool.or_eq_true, decide_eq_true_iff]
        constructor
        · rintro ((h | h) | ⟨h1, k, u', h2, h3, h4⟩)
          · exact Or.inl h
          · exact Or.inr ⟨c, j, u, Nat.le_refl _, hu, h⟩
          · exact Or.inr ⟨h1, k, u', by omega, h3, h4⟩
        · rintro (h | ⟨h1, k, u', h2, h3, h4⟩)
          · exact Or.inl (Or.inl h)
          · by_cases ck : k = j
            · subst ck
              rw [hu] at h3
              cases h3
              exact Or.inl (Or.inr h4)
            · exact Or.inr ⟨h1, k, u', by omega, h3, h4⟩
/-- a key's number comes -/
theorem m_hr85 (hN : mN t) (hq : q < 24) (h4 : L.length ≤ 4) (h82 : t.I 82 q = nI L.length) (h83 : ∀ k u, L[k]? = some u → t.I 83 (4 * q + k) = u.1) {v : Int32} {n : Nat} (hv : M_number t a8 = some v) (ha6 : a6 = nI n) (hn : n ≤ 4) : ∃ b : Bool, (b = true ↔ v = a7 ∨ a5 ≠ 0 ∧ kHas L v) ∧ M_haveRoom_b85 t (nI q) p2 p3 p4 a5 a6 a7 a8 = if 4 < n + (if b = true then 0 else 1) then xo (some 0) else some (.inl (a5, nI (n + (if b = true then 0 else 1)), (if a7 = -1 then v else a7), a8 + 1)) := by
  obtain ⟨b, e1, e2⟩ := m_hr110 (p2 := p2) (p3 := p3) (p4 := p4) (a5 := a5) (a6 := a6) (a7 := a7) (a8 := a8) (a9 := v) hN hq h4 h82 h83 (decide (a5 ≠ 0)) decide_eq_true_iff L.length 0 (decide (v = a7)) (by omega)
  refine ⟨b, ?_, ?_⟩
  · rw [e2, decide_eq_true_iff]
    unfold kHas
    exact ⟨fun h => h.imp_right fun ⟨h1, k, u, _, h3, h4⟩ => ⟨h1, k, u, h3, h4⟩, fun h => h.imp_right fun ⟨h1, k, u, h3, h4⟩ => ⟨h1, k, u, Nat.zero_le _, h3, h4⟩⟩
  · have f : ∀ d : Nat, d ≤ 1 → M_haveRoom_b172 t (nI q) p2 p3 p4 a5 a7 a8 v a6 (nI d) = if 4 < n + d then xo (some 0) else some (.inl (a5, nI (n + d), (if a7 = -1 then v else a7), a8 + 1)) := fun d hd => by
      unfold M_haveRoom_b172 M_haveRoom_b188 M_haveRoom_b198
      rw [ha6, nI_add]
      have d4 : ∀ y : Int32, (if (4 : Int32) < nI (n + d) then (xo (some (0 : Int32)) : Option ((Int32 × Int32 × Int32 × Int32) ⊕ Int32)) else some (.inl (a5, nI (n + d), y, a8 + 1))) = if 4 < n + d then xo (some 0) else some (.inl (a5, nI (n + d), y, a8 + 1)) := fun y => by
        by_cases c : 4 < n + d
        · rw [if_pos c, if_pos (show (4 : Int32) < nI (n + d) from nI_lt (a := 4) c (by omega))]
        · rw [if_neg c, if_neg (show ¬ (4 : Int32) < nI (n + d) from nI_nlt (a := 4) (by omega) (by decide))]
      by_cases c7 : a7 = -1
      · rw [if_pos c7, if_pos c7]; exact d4 v
      · rw [if_neg c7, if_neg c7]; exact d4 a7
    have g : M_haveRoom_b160 t (nI q) p2 p3 p4 a5 a6 a7 a8 v (if b = true then 1 else 0) = if 4 < n + (if b = true then 0 else 1) then xo (some 0) else some (.inl (a5, nI (n + (if b = true then 0 else 1)), (if a7 = -1 then v else a7), a8 + 1)) := by
      unfold M_haveRoom_b160
      cases b with
      | true => exact (if_neg (by decide)).trans (f 0 (by decide))
      | false => exact (if_pos rfl).trans (f 1 (by decide))
    unfold M_haveRoom_b85 M_haveRoom_b105 M_haveRoom_b110
    rw [hv]
    show (if v = a7 then lp (fun x : Int32 × Int32 => M_haveRoom_s110 t (nI q) p2 p3 p4 a5 a6 a7 a8 v x.1 x.2) (1, 0) else lp (fun x : Int32 × Int32 => M_haveRoom_s110 t (nI q) p2 p3 p4 a5 a6 a7 a8 v x.1 x.2) (0, 0)) = _
    rw [← g, ← e1]
    by_cases c : v = a7
    · rw [if_pos c, if_pos (decide_eq_true c)]; rfl
    · rw [if_neg c, if_neg (by rw [decide_eq_false c]; decide)]; rfl
end Hr
