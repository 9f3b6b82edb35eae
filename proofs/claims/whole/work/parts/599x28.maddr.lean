/-! Addresses, read by the model: the end. -/
theorem dgs_dig (u : Nat → Nat) : ∀ k i a v, dgs u k i a = some v → ∀ p, i ≤ p → p < i + k → 48 ≤ u p ∧ u p ≤ 57
  | 0, i, a, v, h, p, h1, h2 => by omega
  | k + 1, i, a, v, h, p, h1, h2 => by
    have h : (if 48 ≤ u i ∧ u i ≤ 57 then dgs u k (i + 1) (10 * a + (u i - 48)) else none) = some v := h
    split at h
    · rename_i c
      by_cases e : p = i
      · rw [e]; exact c
      · exact dgs_dig u k (i + 1) _ v h p (by omega) (by omega)
    · cases h
theorem plain_dig {u : Nat → Nat} {f e v : Nat} (h : plain u f e = some v) : ∀ p, f ≤ p → p < e → 48 ≤ u p ∧ u p ≤ 57 := by
  unfold plain at h
  split at h
  · intro p h1 h2
    exact dgs_dig u (e - f) f 0 v h p h1 (by omega)
  · cases h
/-- no address of four holds a colon -/
theorem four_no (u : Nat → Nat) (e c : Nat) (hc : u c = 58) (hce : c < e) : ∀ r i a, i ≤ c → four u e (r + 1) i a = none := by
  intro r
  induction r with
  | zero =>
    intro i a hi
    have hE := fnd_le u 46 (e - i) i
    show (match plain u i (fnd u 46 (e - i) i) with
      | some n => if n ≤ 255 ∧ (0 = 0 ↔ fnd u 46 (e - i) i = e) then four u e 0 (fnd u 46 (e - i) i + 1) (sh8 a n) else none
      | none => none) = none
    cases hp : plain u i (fnd u 46 (e - i) i) with
    | none => rfl
    | some n =>
      show (if n ≤ 255 ∧ (0 = 0 ↔ fnd u 46 (e - i) i = e) then _ else none) = none
      refine if_neg fun h => ?_
      have hEe := h.2.mp rfl
      have := plain_dig hp c hi (by omega)
      omega
  | succ r ih =>
    intro i a hi
    have hE := fnd_le u 46 (e - i) i
    show (match plain u i (fnd u 46 (e - i) i) with
      | some n => if n ≤ 255 ∧ (r + 1 = 0 ↔ fnd u 46 (e - i) i = e) then four u e (r + 1) (fnd u 46 (e - i) i + 1) (sh8 a n) else none
      | none => none) = none
    cases hp : plain u i (fnd u 46 (e - i) i) with
    | none => rfl
    | some n =>
      show (if n ≤ 255 ∧ (r + 1 = 0 ↔ fnd u 46 (e - i) i = e) then _ else none) = none
      split
      · rename_i h
        by_cases c1 : c < fnd u 46 (e - i) i
        · have := plain_dig hp c hi c1
          omega
        · have hlt : fnd u 46 (e - i) i < i + (e - i) := by omega
          have h46 := fnd_eq u 46 (e - i) i hlt
          refine ih _ _ ?_
          have : fnd u 46 (e - i) i ≠ c := fun z => by rw [z, hc] at h46; omega
          omega
      · rfl
/-- no address of six is without a colon -/
theorem six_no {u : Nat → Nat} {f e : Nat} (hf : f ≤ e) (h : ¬ fnd u 58 (e - f) f < e) : sixQ u f e = none := by
  have hb := fnd_le u 58 (e - f) f
  have hE : fnd u 58 (e - f) f = e := by omega
  unfold sixQ
  have hc : ¬ (u f = 58 ∧ f + 1 < e ∧ u (f + 1) = 58) := fun z => fnd_ne u 58 (e - f) f f (Nat.le_refl _) (by rw [hE]; omega) z.1
  rw [if_neg hc]
  show sixE (if f < e then
      match hexN u f (fnd u 58 (e - f) f) with
      | none => none
      | some v => if ([] : List Nat).length = 8 then none else
          if fnd u 58 (e - f) f < e then
            if fnd u 58 (e - f) f + 1 = e then none else
            if u (fnd u 58 (e - f) f + 1) = 58 then (if (none : Option Nat) = none then sx6 u e 8 (fnd u 58 (e - f) f + 2) ([] ++ [v]) (some (([] : List Nat).length + 1)) else none)
            else sx6 u e 8 (fnd u 58 (e - f) f + 1) ([] ++ [v]) none
          else sx6 u e 8 (fnd u 58 (e - f) f + 1) ([] ++ [v]) none
    else some ([], none)) = none
  split
  · cases hexN u f (fnd u 58 (e - f) f) with
    | none => rfl
    | some v =>
      show sixE (if ([] : List Nat).length = 8 then none else _) = none
      rw [if_neg (show ¬ ([] : List Nat).length = 8 by decide)]
      show sixE (if fnd u 58 (e - f) f + 1 < e then _ else some ([] ++ [v], none)) = none
      rw [if_neg (by omega)]
      rfl
  · rfl
section Ma
variable {t : moS} {u : Nat → Nat} {n e f : Nat}
theorem m_six (hu : uT t u n) (h16 : t.N 16 = 8) (he : e ≤ n) (hf : f ≤ e) : ∃ r t'', M_readSix t (nI f) (nI e) = some (r, t'') ∧ mfr [12, 13, 14, 16] t t'' ∧ r6 (sixQ u f e) r t'' := by
  have hn := hu.1
  have hu1 := hu.2.1
  have b47 : ∀ (i : Nat) (gap : Option Nat), i ≤ e + 1 → (gap = none ∨ gap = some 0) → ∃ r t'', M_readSix_b47 t (nI e) 0 (gpI gap) (nI i) = some (r, t'') ∧ mfr [12, 13, 14, 16] t t'' ∧ r6 (sixE (sx6 u e 9 i [] gap)) r t'' := by
    intro i gap hi hgap
    have main := m_loop6 hu h16 he (sx6 u e 9 i [] gap) 9 i [] gap t (nI i) rfl (by decide) (fun _ => rfl) mfr.rf (fun a ha => by cases ha) (fun g h => by
      rcases hgap with h2 | h2
      · rw [h2] at h; cases h
      · rw [h2] at h; cases h; exact Nat.le_refl _) (fun j hj => absurd hj (Nat.not_lt_zero _)) rfl
    unfold M_readSix_b47
    by_cases ci : i < e
    · rw [if_pos (nI_lt ci (by omega))]
      rw [if_pos ci] at main
      unfold M_readSix_b58
      rw [if_neg (by decide)]
      exact main
    · rw [if_neg (nI_nlt (by omega) (by omega))]
      rw [if_neg ci] at main
      unfold M_readSix_b58
      rw [if_pos rfl]
      rcases hgap with rfl | rfl
      · rw [if_pos (show gpI none = -1 from rfl)]
        refine ⟨0, t, rfl, mfr.rf, ?_⟩
        rw [show sx6 u e 9 i [] none = some ([], none) from if_neg ci]
        exact rfl
      · rw [if_neg (show ¬ gpI (some 0) = -1 by decide)]
        exact main
  unfold M_readSix sixQ
  have hd : (nI e - nI f).toInt = (e : Int) - f := pk_sub_toInt (by omega) (by omega)
  have o1 : (1 : Int32).toInt = 1 := by decide
  by_cases c : 1 < nI e - nI f
  · rw [if_pos c]
    rw [Int32.lt_iff_toInt_lt, hd, o1] at c
    rw [hu.2.2 f (by omega)]
    have hv1 := hu1 f
    have hv2 := hu1 (f + 1)
    show ∃ r t'', (if nI (u f) = 58 then Option.bind (rdI t 2 (nI f + 1)) (fun x2 => if x2 = 58 then M_readSix_b47 t (nI e) 0 0 (nI f + 2) else M_readSix_b47 t (nI e) 0 (-1) (nI f)) else M_readSix_b47 t (nI e) 0 (-1) (nI f)) = some (r, t'') ∧ _
    by_cases c1 : u f = 58
    · rw [if_pos (show nI (u f) = 58 by rw [c1]; rfl), nI_1, hu.2.2 (f + 1) (by omega)]
      show ∃ r t'', (if nI (u (f + 1)) = 58 then M_readSix_b47 t (nI e) 0 0 (nI f + 2) else M_readSix_b47 t (nI e) 0 (-1) (nI f)) = some (r, t'') ∧ _
      by_cases c2 : u (f + 1) = 58
      · rw [if_pos (show nI (u (f + 1)) = 58 by rw [c2]; rfl), if_pos ⟨c1, by omega, c2⟩, show nI f + 2 = nI (f + 2) from nI_add f 2]
        exact b47 (f + 2) (some 0) (by omega) (Or.inr rfl)
      · rw [if_neg (show ¬ nI (u (f + 1)) = 58 from fun h => c2 ((nI_eq (b := 58) (by omega) (by omega)).mp h)), if_neg (fun h => c2 h.2.2)]
        exact b47 f none (by omega) (Or.inl rfl)
    · rw [if_neg (show ¬ nI (u f) = 58 from fun h => c1 ((nI_eq (b := 58) (by omega) (by omega)).mp h)), if_neg (fun h => c1 h.1)]
      exact b47 f none (by omega) (Or.inl rfl)
  · rw [if_neg c]
    rw [Int32.lt_iff_toInt_lt, hd, o1] at c
    rw [if_neg (fun h => by omega)]
    exact b47 f none (by omega) (Or.inl rfl)
/-- what the model has read -/
def rA (o : Option (Int32 × Int64 × Int64)) (r : Int32) (t : moS) : Prop := match o with
  | none => r = 0
  | some (a1, a2, a3) => r = 1 ∧ bit (t.S 12) ∧ a1 = fam (t.S 12) ∧ t.Z 13 = a2 ∧ t.Z 14 = a3
theorem m_addr (hu : uT t u n) (h16 : t.N 16 = 8) (he : e ≤ n) (hf : f ≤ e) : ∃ r t'', M_readAddress t (nI f) (nI e) = some (r, t'') ∧ mfr [12, 13, 14, 16] t t'' ∧ rA (adP u f e) r t'' := by
  unfold M_readAddress
  rw [m_four hu he (by omega)]
  have hb := fnd_le u 58 (e - f) f
  cases h4 : four u e 4 f 0 with
  | some v =>
    have hnc : ¬ fnd u 58 (e - f) f < e := fun h => by
      have h58 := fnd_eq u 58 (e - f) f (by omega)
      rw [four_no u e _ h58 h 3 f 0 hb.1] at h4
      cases h4
    refine ⟨1, moSZ (moSZ (moSS t 12 0) 13 (v <<< ((32 : Int32).toInt64 &&& 63))) 14 0, rfl, ((mfr.ss (by decide)).tr (mfr.sz (by decide))).tr (mfr.sz (by decide)), ?_⟩
    unfold adP
    rw [if_neg hnc, h4]
    refine ⟨rfl, Or.inl ?_, ?_, ?_, moSZ_s⟩
    · show (moSS t 12 0).S 12 = 0
      exact moSS_s
    · show 4 = fam ((moSS t 12 0).S 12)
      rw [moSS_s]; rfl
    · rw [moSZ_n (by decide)]; exact moSZ_s
  | none =>
    obtain ⟨r, t'', e6, m6, h6⟩ := m_six (f := f) hu h16 he hf
    show ∃ r t'', bn2 (M_readSix t (nI f) (nI e)) (fun x4 s3 => if x4 = 0 then some (0, s3) else M_readAddress_b18 s3) = some (r, t'') ∧ _
    rw [e6]
    show ∃ r' t', (if r = 0 then some (0, t'') else M_readAddress_b18 t'') = some (r', t') ∧ _
    cases hq : sixQ u f e with
    | none =>
      rw [hq] at h6
      have h6 : r = 0 := h6
      refine ⟨0, t'', by rw [if_pos h6], m6, ?_⟩
      unfold adP
      rw [h4, hq]
      split <;> rfl
    | some gs =>
      rw [hq] at h6
      obtain ⟨h1, h2, h3, h4'⟩ := h6
      refine ⟨1, t'', by rw [if_neg (by rw [h1]; decide)]; rfl, m6, ?_⟩
      have hc : fnd u 58 (e - f) f < e := Classical.byContradiction fun z => by rw [six_no hf z] at hq; cases hq
      unfold adP
      rw [if_pos hc, hq]
      exact ⟨rfl, Or.inr h2, by rw [h2]; rfl, h3, h4'⟩
end Ma
