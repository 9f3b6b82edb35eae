/-! The words of a line, in the model. -/
/-- the model's words -/
def mWw (t : moS) (ws : List (Nat × Nat)) : Prop := t.S 11 = nI ws.length ∧ ∀ j, j < ws.length → t.I 9 j = nI (ws.getD j (0, 0)).1 ∧ t.I 10 j = nI ((ws.getD j (0, 0)).2 - (ws.getD j (0, 0)).1)
section Mw
variable {t : moS} {u : Nat → Nat} {n e f : Nat}
theorem m_blk {v : Nat} (h : v < 256) : (blk v ∧ M_isBlank (nI v) = 1) ∨ (¬ blk v ∧ M_isBlank (nI v) = 0) := by
  unfold M_isBlank M_isBlank_b12
  by_cases c1 : v = 32
  · exact Or.inl ⟨Or.inl c1, if_pos (by rw [c1]; rfl)⟩
  rw [if_neg (show ¬ nI v = 32 from fun h => c1 ((nI_eq (b := 32) (by omega) (by omega)).mp h))]
  by_cases c2 : v = 9
  · exact Or.inl ⟨Or.inr c2, if_pos (by rw [c2]; rfl)⟩
  rw [if_neg (show ¬ nI v = 9 from fun h => c2 ((nI_eq (b := 9) (by omega) (by omega)).mp h))]
  exact Or.inr ⟨fun h => h.elim c1 c2, rfl⟩
theorem m_part (hu : uT t u n) (h9 : t.N 9 = 2100) (h10 : t.N 10 = 2100) (he : e ≤ n) (hf : f ≤ e) : ∃ t', M_part t (nI f) (nI e) = some t' ∧ mfr [9, 10, 11] t t' ∧ mWw t' (wdS u (e - f) f none) := by
  have hn := hu.1
  have hu1 := hu.2.1
  generalize hRd : wdS u (e - f) f none = R
  have stp : ∀ (x : Int32) (t' : moS), M_part_b7 t' (nI e) x = Option.bind (M_part_s7 t' (nI e) x) (Sum.elim (fun y : Int32 × moS => M_part_b7 y.2 (nI e) y.1) some) := by
    intro x t'
    unfold M_part_b7
    exact lp_eq _ _
  -- a word's end, and the outer loop behind it
  have close : ∀ (i b : Nat) (ws : List (Nat × Nat)) (t' : moS), b < i → i ≤ e → 2 * ws.length ≤ b → mfr [9, 10, 11] t t' → mWw t' ws → t'.I 9 ws.length = nI b → ∃ t3, M_part_b74 t' (nI e) (nI i) = some (.inl (nI i, t3)) ∧ mfr [9, 10, 11] t t3 ∧ mWw t3 (ws ++ [(b, i)]) := by
    intro i b ws t' hbi hie h2 m hw hb
    have n9 : t'.N 9 = 2100 := (m.2 9 (Or.inr (by decide))).trans h9
    have n10 : t'.N 10 = 2100 := (m.2 10 (Or.inr (by decide))).trans h10
    refine ⟨moSS (moSI t' 10 ws.length (nI (i - b))) 11 (nI (ws.length + 1)), ?_, (m.tr (mfr.si (by decide))).tr (mfr.ss (by decide)), ?_, fun j hj => ?_⟩
    · unfold M_part_b74
      rw [hw.1, rdI_n (n := 2100) n9 (by omega) (by decide), hb]
      show Option.bind (wrI t' 10 (nI ws.length) (nI i - nI b)) _ = _
      rw [pk_sub (by omega), wrI_n (n := 2100) n10 (by omega) (by decide)]
      show some (Sum.inl (nI i, moSS (moSI t' 10 ws.length (nI (i - b))) 11 (t'.S 11 + 1))) = _
      rw [hw.1, nI_1]
    · rw [moSS_s, List.length_append]; rfl
    · rw [List.length_append] at hj
      have hj : j < ws.length + 1 := hj
      have e9 : (moSS (moSI t' 10 ws.length (nI (i - b))) 11 (nI (ws.length + 1))).I 9 = t'.I 9 := moSI_n (by decide)
      have e10 : (moSS (moSI t' 10 ws.length (nI (i - b))) 11 (nI (ws.length + 1))).I 10 = upd (t'.I 10) ws.length (nI (i - b)) := moSI_s
      rw [e9, e10]
      by_cases c : j = ws.length
      · subst c
        rw [pd_s, pk_us]
        exact ⟨hb, rfl⟩
      · rw [pd_l (by omega), pk_un c]
        exact hw.2 j (by omega)
  have main : ∀ q, (∀ (i : Nat) (ws : List (Nat × Nat)) (t' : moS), i + q = e → 2 * ws.length ≤ i + 1 → (2 * ws.length ≤ i ∨ q = 0 ∨ blk (u i)) → mfr [9, 10, 11] t t' → mWw t' ws → ws ++ wdS u q i none = R → ∃ t'', Option.bind (M_part_b12 t' (nI e) (nI i)) (Sum.elim (fun y : Int32 × moS => M_part_b7 y.2 (nI e) y.1) some) = some t'' ∧ mfr [9, 10, 11] t t'' ∧ mWw t'' R) ∧ (∀ (i b : Nat) (ws : List (Nat × Nat)) (t' : moS), i + q = e → b < i → 2 * ws.length ≤ b → mfr [9, 10, 11] t t' → mWw t' ws → t'.I 9 ws.length = nI b → ws ++ wdS u q i (some b) = R → ∃ t'', Option.bind (M_part_b51 t' (nI e) (nI i)) (Sum.elim (fun y : Int32 × moS => M_part_b7 y.2 (nI e) y.1) some) = some t'' ∧ mfr [9, 10, 11] t t'' ∧ mWw t'' R) := by
    intro q
    induction q with
    | zero =>
      refine ⟨fun i ws t' hi h2 _ m hw hR => ?_, fun i b ws t' hi hbi h2 m hw hb hR => ?_⟩
      · have hR : ws ++ [] = R := hR
        rw [List.append_nil] at hR
        refine ⟨t', ?_, m, by rw [← hR]; exact hw⟩
        have e1 : M_part_b12 t' (nI e) (nI i) = xo (some t') := by
          unfold M_part_b12
          refine lp_x ?_
          show M_part_s12 t' (nI e) (nI i) = _
          unfold M_part_s12
          rw [if_neg (nI_nlt (by omega) (by omega))]
          congr 1
          unfold M_part_b35
          rw [if_pos (by rw [show i = e by omega])]
        rw [e1]
        rfl
      · obtain ⟨t3, e3, m3, hw3⟩ := close i b ws t' hbi (by omega) h2 m hw hb
        have hR : ws ++ [(b, i)] = R := hR
        refine ⟨t3, ?_, m3, by rw [← hR]; exact hw3⟩
        have e1 : M_part_b51 t' (nI e) (nI i) = some (.inl (nI i, t3)) := by
          unfold M_part_b51
          refine lp_x ?_
          show M_part_s51 t' (nI e) (nI i) = _
          unfold M_part_s51
          rw [if_neg (nI_nlt (by omega) (by omega)), e3]
        rw [e1]
        show M_part_b7 t3 (nI e) (nI i) = _
        rw [stp]
        unfold M_part_s7
        rw [if_neg (nI_nlt (by omega) (by omega))]
        rfl
    | succ q ih =>
      obtain ⟨ihA, ihB⟩ := ih
      have A : ∀ (i : Nat) (ws : List (Nat × Nat)) (t' : moS), i + (q + 1) = e → 2 * ws.length ≤ i + 1 → (2 * ws.length ≤ i ∨ q + 1 = 0 ∨ blk (u i)) → mfr [9, 10, 11] t t' → mWw t' ws → ws ++ wdS u (q + 1) i none = R → ∃ t'', Option.bind (M_part_b12 t' (nI e) (nI i)) (Sum.elim (fun y : Int32 × moS => M_part_b7 y.2 (nI e) y.1) some) = some t'' ∧ mfr [9, 10, 11] t t'' ∧ mWw t'' R := by
        intro i ws t' hi h2 h2' m hw hR
        have hu' := uT.fr hu m (by decide)
        have n9 : t'.N 9 = 2100 := (m.2 9 (Or.inr (by decide))).trans h9
        have hR : ws ++ (@ite _ (blk (u i)) (isBlk _) (wdS u q (i + 1) none) (wdS u q (i + 1) (some i))) = R := hR
        rcases m_blk (hu1 i) with ⟨hb, hm⟩ | ⟨hb, hm⟩
        · rw [if_pos hb] at hR
          have st : M_part_b12 t' (nI e) (nI i) = M_part_b12 t' (nI e) (nI (i + 1)) := by
            unfold M_part_b12
            refine lp_l ?_
            show M_part_s12 t' (nI e) (nI i) = _
            unfold M_part_s12
            rw [if_pos (nI_lt (by omega) (by omega)), hu'.2.2 i (by omega)]
            show (if M_isBlank (nI (u i)) = 0 then _ else _) = _
            rw [if_neg (by rw [hm]; decide), nI_1]
          rw [st]
          exact ihA (i + 1) ws t' (by omega) (by omega) (Or.inl (by omega)) m hw hR
        · rw [if_neg hb] at hR
          have h2i : 2 * ws.length ≤ i := by
            rcases h2' with h | h | h
            · exact h
            · omega
            · exact absurd h hb
          have st : M_part_b12 t' (nI e) (nI i) = M_part_b51 (moSI t' 9 ws.length (nI i)) (nI e) (nI (i + 1)) := by
            unfold M_part_b12
            refine lp_x ?_
            show M_part_s12 t' (nI e) (nI i) = _
            unfold M_part_s12
            rw [if_pos (nI_lt (by omega) (by omega)), hu'.2.2 i (by omega)]
            show (if M_isBlank (nI (u i)) = 0 then xo (M_part_b35 t' (nI e) (nI i)) else _) = _
            rw [if_pos hm]
            congr 1
            unfold M_part_b35
            rw [if_neg (show ¬ nI i = nI e from fun h => by have := (nI_eq (show i < 2 ^ 31 by omega) (show e < 2 ^ 31 by omega)).mp h; omega), hw.1, wrI_n (n := 2100) n9 (by omega) (by decide)]
            show M_part_b51 (moSI t' 9 ws.length (nI i)) (nI e) (nI i) = _
            unfold M_part_b51
            refine lp_l ?_
            show M_part_s51 (moSI t' 9 ws.length (nI i)) (nI e) (nI i) = _
            unfold M_part_s51
            rw [if_pos (nI_lt (by omega) (by omega)), (uT.fr hu' (mfr.si (W := [9]) (k := 9) (by decide)) (by decide)).2.2 i (by omega)]
            show (if M_isBlank (nI (u i)) = 0 then _ else _) = _
            rw [if_pos hm, nI_1]
          rw [st]
          refine ihB (i + 1) i ws _ (by omega) (by omega) h2i (m.tr (mfr.si (by decide))) ⟨hw.1, fun j hj => ?_⟩ ?_ hR
          · rw [moSI_s, moSI_n (show (10 : Nat) ≠ 9 by decide), pk_un (show j ≠ ws.length by omega)]
            exact hw.2 j hj
          · rw [moSI_s]; exact pk_us
      refine ⟨A, fun i b ws t' hi hbi h2 m hw hb hR => ?_⟩
      have hu' := uT.fr hu m (by decide)
      have hR : ws ++ (@ite _ (blk (u i)) (isBlk _) ((b, i) :: wdS u q (i + 1) none) (wdS u q (i + 1) (some b))) = R := hR
      rcases m_blk (hu1 i) with ⟨hk, hm⟩ | ⟨hk, hm⟩
      · rw [if_pos hk] at hR
        obtain ⟨t3, e3, m3, hw3⟩ := close i b ws t' hbi (by omega) h2 m hw hb
        have e1 : M_part_b51 t' (nI e) (nI i) = some (.inl (nI i, t3)) := by
          unfold M_part_b51
          refine lp_x ?_
          show M_part_s51 t' (nI e) (nI i) = _
          unfold M_part_s51
          rw [if_pos (nI_lt (by omega) (by omega)), hu'.2.2 i (by omega)]
          show (if M_isBlank (nI (u i)) = 0 then _ else xo (M_part_b74 t' (nI e) (nI i))) = _
          rw [if_neg (by rw [hm]; decide), e3]
        rw [e1]
        show ∃ t'', M_part_b7 t3 (nI e) (nI i) = some t'' ∧ _
        rw [stp]
        unfold M_part_s7
        rw [if_pos (nI_lt (by omega) (by omega))]
        refine A i (ws ++ [(b, i)]) t3 hi (by rw [List.length_append]; show 2 * (ws.length + 1) ≤ i + 1; omega) (Or.inr (Or.inr hk)) m3 hw3 ?_
        show (ws ++ [(b, i)]) ++ (@ite _ (blk (u i)) (isBlk _) (wdS u q (i + 1) none) (wdS u q (i + 1) (some i))) = R
        rw [if_pos hk, List.append_assoc]
        exact hR
      · rw [if_neg hk] at hR
        have st : M_part_b51 t' (nI e) (nI i) = M_part_b51 t' (nI e) (nI (i + 1)) := by
          unfold M_part_b51
          refine lp_l ?_
          show M_part_s51 t' (nI e) (nI i) = _
          unfold M_part_s51
          rw [if_pos (nI_lt (by omega) (by omega)), hu'.2.2 i (by omega)]
          show (if M_isBlank (nI (u i)) = 0 then _ else _) = _
          rw [if_pos hm, nI_1]
        rw [st]
        exact ihB (i + 1) b ws t' (by omega) (by omega) h2 m hw hb hR
  have m1 : mfr [9, 10, 11] t (moSS t 11 0) := mfr.ss (by decide)
  have w1 : mWw (moSS t 11 0) [] := ⟨moSS_s, fun j hj => absurd hj (Nat.not_lt_zero _)⟩
  show ∃ t', M_part_b7 (moSS t 11 0) (nI e) (nI f) = some t' ∧ _
  rw [stp]
  unfold M_part_s7
  by_cases c : f < e
  · rw [if_pos (nI_lt c (by omega))]
    exact (main (e - f)).1 f [] _ (by omega) (by show 0 ≤ f + 1; omega) (Or.inl (Nat.zero_le _)) m1 w1 hRd
  · rw [if_neg (nI_nlt (by omega) (by omega))]
    refine ⟨moSS t 11 0, rfl, m1, ?_⟩
    rw [← hRd, show e - f = 0 by omega]
    exact w1
end Mw
