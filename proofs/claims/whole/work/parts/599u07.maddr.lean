/-! The model's draft: addresses and prefixes. -/
theorem sr_low {x : BitVec 64} {k m : Nat} (h : k + m ≤ 64) : (x.sshiftRight k).toNat % 2 ^ m = (x >>> k).toNat % 2 ^ m := by
  apply Nat.eq_of_testBit_eq
  intro i
  rw [Nat.testBit_mod_two_pow, Nat.testBit_mod_two_pow]
  by_cases hi : i < m
  · have e1 : (x.sshiftRight k).toNat.testBit i = (x.sshiftRight k).getLsbD i := rfl
    have e2 : (x >>> k).toNat.testBit i = (x >>> k).getLsbD i := rfl
    rw [e1, e2, BitVec.getLsbD_sshiftRight, BitVec.getLsbD_ushiftRight]
    have h1 : k + i < 64 := by omega
    have h2 : ¬ 64 ≤ i := by omega
    simp [h1, h2]
  · simp [hi]
/-- the low bits are the same, whichever sign goes in -/
theorem sr_ush (x : Int64) (c : Int64) (d : Int32) (k m : Nat) (M : Int64) (M' : Int32) (hM : M.toInt32 = M') (hm : M'.toBitVec.toNat = 2 ^ m - 1) (hc : (c.toBitVec.smod 64).toNat = k) (hd : (d.toInt64.toUInt64 &&& Int64.toUInt64 63).toNat % 64 = k) (h : k + m ≤ 64) (hm2 : m ≤ 32) : ((x >>> c) &&& M).toInt32 = nI ((ush x d).toInt32.toBitVec.toNat % 2 ^ m) := by
  rw [Int64.toInt32_and, hM, pk_and _ m hm]
  congr 1
  have e1 : (x >>> c).toInt32.toBitVec.toNat % 2 ^ m = (x.toBitVec.sshiftRight k).toNat % 2 ^ m := by
    have : (x >>> c).toBitVec = x.toBitVec.sshiftRight k := by
      rw [Int64.toBitVec_shiftRight, ← hc]; rfl
    have e : (x >>> c).toInt32.toBitVec = (x >>> c).toBitVec.signExtend 32 := rfl
    rw [e, this, BitVec.signExtend_eq_setWidth_of_le _ (by decide)]
    rw [BitVec.toNat_setWidth, Nat.mod_mod_of_dvd _ (Nat.pow_dvd_pow 2 hm2)]
  have e2 : (ush x d).toInt32.toBitVec.toNat % 2 ^ m = (x.toBitVec >>> k).toNat % 2 ^ m := by
    have : (ush x d).toBitVec = x.toBitVec >>> k := by
      apply BitVec.eq_of_toNat_eq
      show (x.toUInt64 >>> (d.toInt64.toUInt64 &&& Int64.toUInt64 63)).toNat = _
      rw [UInt64.toNat_shiftRight, hd, BitVec.toNat_ushiftRight]
      rfl
    have e : (ush x d).toInt32.toBitVec = (ush x d).toBitVec.signExtend 32 := rfl
    rw [e, this, BitVec.signExtend_eq_setWidth_of_le _ (by decide)]
    rw [BitVec.toNat_setWidth, Nat.mod_mod_of_dvd _ (Nat.pow_dvd_pow 2 hm2)]
  rw [e1, e2, sr_low h]
theorem sr_oct (x : Int64) : ∀ k, k < 4 → ((x >>> ((Int32.toInt64 ((56 : Int32) - ((8 : Int32) * nI k))) &&& 63)) &&& (255 : Int64)).toInt32 = nI (oct4 x (nI (8 * (3 - k) + 32))) := by
  intro k hk
  rcases (show k = 0 ∨ k = 1 ∨ k = 2 ∨ k = 3 by omega) with rfl | rfl | rfl | rfl
  · exact sr_ush x _ _ 56 8 255 255 (by decide) (by decide) (by decide) (by decide) (by decide) (by decide)
  · exact sr_ush x _ _ 48 8 255 255 (by decide) (by decide) (by decide) (by decide) (by decide) (by decide)
  · exact sr_ush x _ _ 40 8 255 255 (by decide) (by decide) (by decide) (by decide) (by decide) (by decide)
  · exact sr_ush x _ _ 32 8 255 255 (by decide) (by decide) (by decide) (by decide) (by decide) (by decide)
theorem sr_prt (hi lo : Int64) : ∀ k, k < 8 → (((if nI k < 4 then hi else lo) >>> ((Int32.toInt64 ((48 : Int32) - ((16 : Int32) * (rem_I (nI k) (4 : Int32))))) &&& 63)) &&& (65535 : Int64)).toInt32 = nI (prt hi lo k) := by
  intro k hk
  unfold prt
  rcases (show k = 0 ∨ k = 1 ∨ k = 2 ∨ k = 3 ∨ k = 4 ∨ k = 5 ∨ k = 6 ∨ k = 7 by omega) with rfl | rfl | rfl | rfl | rfl | rfl | rfl | rfl
  · exact sr_ush _ _ _ 48 16 65535 65535 (by decide) (by decide) (by decide) (by decide) (by decide) (by decide)
  · exact sr_ush _ _ _ 32 16 65535 65535 (by decide) (by decide) (by decide) (by decide) (by decide) (by decide)
  · exact sr_ush _ _ _ 16 16 65535 65535 (by decide) (by decide) (by decide) (by decide) (by decide) (by decide)
  · exact sr_ush _ _ _ 0 16 65535 65535 (by decide) (by decide) (by decide) (by decide) (by decide) (by decide)
  · exact sr_ush _ _ _ 48 16 65535 65535 (by decide) (by decide) (by decide) (by decide) (by decide) (by decide)
  · exact sr_ush _ _ _ 32 16 65535 65535 (by decide) (by decide) (by decide) (by decide) (by decide) (by decide)
  · exact sr_ush _ _ _ 16 16 65535 65535 (by decide) (by decide) (by decide) (by decide) (by decide) (by decide)
  · exact sr_ush _ _ _ 0 16 65535 65535 (by decide) (by decide) (by decide) (by decide) (by decide) (by decide)
/-- the family's number in the class -/
def fam (f : Int32) : Int32 := if f = 0 then 4 else 6
section Dd
variable {W : List Nat} {t0 t : moS} {l : List Int32}
theorem dd_dots (hi : Int64) : ∀ n k t l, k + n = 4 → l.length + 11 * n + 10 < 160000 → DD W t0 t l → ∃ t', M_sayAddress_b7 t hi (nI k) = some t' ∧ DD W t0 t' (l ++ (if n = 0 then [] else if k = 0 then dotT hi 3 else 46 :: dotT hi (n - 1))) := by
  intro n
  induction n with
  | zero =>
    intro k t l hk hl h
    refine ⟨t, ?_, by rw [if_pos rfl, List.append_nil]; exact h⟩
    unfold M_sayAddress_b7
    refine lp_r ?_
    show M_sayAddress_s7 t hi (nI k) = _
    unfold M_sayAddress_s7
    have hk : k = 4 := by omega
    subst hk
    rw [if_neg (by decide)]
    rfl
  | succ n ih =>
    intro k t l hk hl h
    have hlt : nI k < 4 := by rw [show (4 : Int32) = nI 4 from rfl]; exact nI_lt (by omega) (by decide)
    rw [if_neg (by omega)]
    have step : ∀ t1 l1, DD W t0 t1 l1 → l1.length + 11 * n + 20 < 160000 → ∃ t', (M_sayAddress_b24 t1 hi (nI k)).bind (Sum.elim (lp fun x => M_sayAddress_s7 x.2 hi x.1) some) = some t' ∧ DD W t0 t' (l1 ++ dotT hi n) := by
      intro t1 l1 h1 hl1
      obtain ⟨t2, e2, h2⟩ := dd_num (nI (oct4 hi (nI (8 * (3 - k) + 32)))) h1 (by omega)
      rw [decZ_n (Nat.lt_trans (oct4_lt _ _) (by decide))] at h2
      have hdl := dec_len (oct4 hi (nI (8 * (3 - k) + 32)))
      obtain ⟨t3, e3, h3⟩ := ih (k + 1) t2 _ (by omega) (by rw [List.length_append]; omega) h2
      refine ⟨t3, ?_, ?_⟩
      · unfold M_sayAddress_b24
        rw [sr_oct hi k (by omega), e2]
        show M_sayAddress_b7 t2 hi (nI k + 1) = _
        rw [nI_1]
        exact e3
      · have e : 3 - k = n := by omega
        rw [e] at h3
        rcases n with _ | n
        · rw [if_pos rfl, List.append_nil] at h3; exact h3
        · rw [if_neg (by omega), if_neg (by omega)] at h3
          have e4 : l1 ++ dotT hi (n + 1) = l1 ++ dec (oct4 hi (nI (8 * (n + 1) + 32))) ++ 46 :: dotT hi n := by
            show l1 ++ ((dec _ ++ [46]) ++ dotT hi n) = _
            simp only [List.append_assoc]
            rfl
          rw [e4]
          exact h3
    unfold M_sayAddress_b7
    rw [lp_eq]
    show ∃ t', (M_sayAddress_s7 t hi (nI k)).bind _ = some t' ∧ _
    unfold M_sayAddress_s7
    rw [if_pos hlt]
    by_cases c : k = 0
    · subst c
      rw [if_neg (by decide), if_pos rfl]
      obtain ⟨t', e, h'⟩ := step t l h (by omega)
      have : n = 3 := by omega
      subst this
      exact ⟨t', e, h'⟩
    · rw [if_pos (show (0 : Int32) < nI k from nI_lt (a := 0) (by omega) (by omega)), if_neg c]
      obtain ⟨t1, e1, h1⟩ := dd_say 46 h (by omega)
      obtain ⟨t', e, h'⟩ := step t1 _ h1 (by rw [List.length_append]; show l.length + 1 + _ + _ < _; omega)
      rw [e1]
      refine ⟨t', e, ?_⟩
      rw [List.append_assoc] at h'
      exact h'
/-- a part's digits -/
theorem dd_hex {p : Nat → Nat} (hp : ∀ k, k < 8 → t0.I 16 k = nI (p k)) (hp2 : ∀ k, p k < 65536) (hN : t0.N 16 = 8) (h16 : 16 ∉ W) (a6 a7 a8 : Int32) (i : Nat) (hi : i < 8) : ∀ j any t l, j ≤ 3 → l.length + j + 1 < 160000 → DD W t0 t l → (any = 0 ∧ hxK (p i) ≤ j ∨ any = 1) → ∃ t', M_sayAddress_b277 t a6 a7 a8 (nI i) any (nI (4 * j)) = M_sayAddress_b339 t' a6 a7 a8 (nI i) ∧ DD W t0 t' (l ++ hxT (p i) (if any = 0 then hxK (p i) else j)) := by
  intro j
  induction j with
  | zero =>
    intro any t l hj hl h ha
    have hR : rdI t 16 (nI i) = some (nI (p i)) := by
      have h1 := h.2.2.2.1 16 h16
      rw [rdI_n (h.2.2.1) hi (by decide), h1.2.2.1, hp i hi]
    have hd : (nI (p i) >>> (nI (4 * 0) &&& 31)) &&& 15 = nI (p i % 16) := by
      rw [nI_sh4 (Nat.lt_trans (hp2 i) (by decide)) (by decide), Nat.pow_zero, Nat.div_one]
      exact pk_andN (by have := hp2 i; omega) 4 (by decide)
    have hh : ∀ d, d < 16 → M_hexadecimalDigit (nI d) = hd16 d := by decide +kernel
    obtain ⟨t1, e1, h1⟩ := dd_say (hd16 (p i % 16)) h (by omega)
    refine ⟨t1, ?_, ?_⟩
    · unfold M_sayAddress_b277
      have ef : M_sayAddress_s277 t a6 a7 a8 (nI i) any (nI (4 * 0)) = some (.inl (1, nI (4 * 0) + (-4), t1)) := by
        unfold M_sayAddress_s277
        rw [if_neg (by decide), hR]
        show (if any = 0 then (if 0 < (nI (p i) >>> (nI (4 * 0) &&& 31)) &&& 15 then _ else _) else _) = _
        unfold M_sayAddress_b312 M_sayAddress_b317
        rw [hd, if_neg (show ¬ (1 : Int32) = 0 by decide), hh _ (Nat.mod_lt _ (by decide)), e1, if_pos (show nI (4 * 0) = 0 from rfl)]
        by_cases c : any = 0
        · rw [if_pos c]
          by_cases c2 : (0 : Int32) < nI (p i % 16)
          · rw [if_pos c2]; rfl
          · rw [if_neg c2]; rfl
        · rw [if_neg c]; rfl
      rw [lp_l (y := (1, nI (4 * 0) + (-4), t1)) ef]
      refine lp_x ?_
      show M_sayAddress_s277 t1 a6 a7 a8 (nI i) 1 (nI (4 * 0) + (-4)) = _
      unfold M_sayAddress_s277
      rw [if_pos (by decide)]
    · rcases ha with ⟨c, d⟩ | c
      · rw [if_pos c, show hxK (p i) = 0 by omega]; exact h1
      · rw [if_neg (by rw [c]; decide)]; exact h1
  | succ j ih =>
    intro any t l hj hl h ha
    have hR : rdI t 16 (nI i) = some (nI (p i)) := by
      have h1 := h.2.2.2.1 16 h16
      rw [rdI_n (h.2.2.1) hi (by decide), h1.2.2.1, hp i hi]
    have hd : (nI (p i) >>> (nI (4 * (j + 1)) &&& 31)) &&& 15 = nI (p i / 16 ^ (j + 1) % 16) := by
      rw [nI_sh4 (Nat.lt_trans (hp2 i) (by decide)) (by omega)]
      exact pk_andN (by have := hp2 i; have := Nat.div_le_self (p i) (16 ^ (j + 1)); omega) 4 (by decide)
    have hh : ∀ d, d < 16 → M_hexadecimalDigit (nI d) = hd16 d := by decide +kernel
    have hnz : ¬ nI (4 * (j + 1)) = 0 := nI_ne0 (by omega) (by omega)
    have hm := nI_m4' j (by omega)
    by_cases c : any = 0 ∧ hxK (p i) ≤ j
    · -- nothing yet
      have hz : p i / 16 ^ (j + 1) % 16 = 0 := by
        have : p i / 16 ^ (j + 1) = 0 := Classical.byContradiction fun z => by
          have := hxK_hi (n := p i) (k := j) (by omega) z
          omega
        rw [this]
      obtain ⟨t1, e1, h1⟩ := ih any t l (by omega) (by omega) h (Or.inl c)
      refine ⟨t1, ?_, by rw [if_pos c.1] at h1 ⊢; exact h1⟩
      unfold M_sayAddress_b277 at e1 ⊢
      rw [lp_l (y := (0, nI (4 * j), t))]
      · rw [c.1] at e1; exact e1
      · show M_sayAddress_s277 t a6 a7 a8 (nI i) any (nI (4 * (j + 1))) = _
        unfold M_sayAddress_s277
        rw [if_neg (nI_pos (by omega)), hR]
        show (if any = 0 then (if 0 < (nI (p i) >>> (nI (4 * (j + 1)) &&& 31)) &&& 15 then _ else _) else _) = _
        rw [hd, hz, if_pos c.1, if_neg (by decide), if_neg hnz]
        unfold M_sayAddress_b317 M_sayAddress_b333
        rw [if_pos rfl, hm]
    · obtain ⟨t1, e1, h1⟩ := dd_say (hd16 (p i / 16 ^ (j + 1) % 16)) h (by omega)
      obtain ⟨t2, e2, h2⟩ := ih 1 t1 _ (by omega) (by rw [List.length_append]; show l.length + 1 + j + 1 < _; omega) h1 (Or.inr rfl)
      refine ⟨t2, ?_, ?_⟩
      · unfold M_sayAddress_b277 at e2 ⊢
        rw [lp_l (y := (1, nI (4 * j), t1))]
        · exact e2
        · show M_sayAddress_s277 t a6 a7 a8 (nI i) any (nI (4 * (j + 1))) = _
          unfold M_sayAddress_s277
          rw [if_neg (nI_pos (by omega)), hR]
          show (if any = 0 then (if 0 < (nI (p i) >>> (nI (4 * (j + 1)) &&& 31)) &&& 15 then _ else _) else _) = _
          unfold M_sayAddress_b312 M_sayAddress_b317 M_sayAddress_b333
          rw [hd, if_neg (show ¬ (1 : Int32) = 0 by decide), hh _ (Nat.mod_lt _ (by decide)), e1, hm]
          by_cases c2 : any = 0
          · have hK : hxK (p i) = j + 1 := by
              rcases ha with ⟨-, d⟩ | d
              · have : ¬ hxK (p i) ≤ j := fun z => c ⟨c2, z⟩
                omega
              · rw [d] at c2; exact absurd c2 (by decide)
            have hpos : 0 < p i / 16 ^ (j + 1) := Nat.pos_of_ne_zero fun z => by
              have := hxK_lo (n := p i) (k := j) (by omega) z
              omega
            have h16' : p i / 16 ^ (j + 1) < 16 := by
              have h9 := hp2 i
              have : hxK (p i) = j + 1 := hK
              unfold hxK at this
              rcases (show j = 0 ∨ j = 1 ∨ j = 2 by omega) with rfl | rfl | rfl
              · have : p i < 256 := by
                  by_cases q1 : p i < 16
                  · omega
                  · rw [if_neg q1] at this
                    by_cases q2 : p i < 256
                    · exact q2
                    · rw [if_neg q2] at this
                      split at this <;> omega
                show p i / 16 < 16
                omega
              · have : p i < 4096 := by
                  by_cases q1 : p i < 16
                  · omega
                  · rw [if_neg q1] at this
                    by_cases q2 : p i < 256
                    · omega
                    · rw [if_neg q2] at this
                      by_cases q3 : p i < 4096
                      · exact q3
                      · rw [if_neg q3] at this
                        omega
                show p i / 256 < 16
                omega
              · show p i / 4096 < 16
                omega
            rw [if_pos c2, if_pos (show (0 : Int32) < nI _ from nI_lt (a := 0) (by rw [Nat.mod_eq_of_lt h16']; exact hpos) (by omega))]
            rfl
          · rw [if_neg c2]
            rfl
      · rw [if_neg (by decide), List.append_assoc] at h2
        by_cases c2 : any = 0
        · have hK : hxK (p i) = j + 1 := by
            rcases ha with ⟨-, d⟩ | d
            · have : ¬ hxK (p i) ≤ j := fun z => c ⟨c2, z⟩
              omega
            · rw [d] at c2; exact absurd c2 (by decide)
          rw [if_pos c2, hK]
          exact h2
        · rw [if_neg c2]
          exact h2
end Dd
