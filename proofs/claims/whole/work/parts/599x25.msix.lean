/-! Addresses of six, read by the model: a group. -/
section Ms
variable {t t' : moS} {u : Nat → Nat} {n e : Nat}
theorem uT.fr {W : List Nat} (h : uT t u n) (m : mfr W t t') (d : 2 ∉ W) : uT t' u n := by
  refine ⟨h.1, h.2.1, fun i hi => ?_⟩
  have := h.2.2 i hi
  unfold rdI at this ⊢
  rw [m.I 2 d, m.2 2 (Or.inl d)]
  exact this
/-- the digits of a group, read -/
theorem m_dgs (hu : uT t u n) (h16 : t.N 16 = 8) (he : e ≤ n) {i E k : Nat} {a4 : Int32} (hi : i < e) (hE : fnd u 58 (e - i) i = E) (hk : k ≤ 8) : (∀ v, hexN u i E = some v → M_readSix_b84 t (nI e) (nI k) a4 (nI i) 0 0 = M_readSix_b137 t (nI e) (nI k) a4 (nI E) (nI v) (nI (E - i))) ∧ (hexN u i E = none → ∃ t'', mfr [16] t t'' ∧ M_readSix_b84 t (nI e) (nI k) a4 (nI i) 0 0 = xo (some (0, t''))) := by
  have hn := hu.1
  have hu1 := hu.2.1
  have hu2 := hu.2.2
  have hb := fnd_le u 58 (e - i) i
  have hne := fnd_ne u 58 (e - i) i
  have heq := fnd_eq u 58 (e - i) i
  rw [hE] at hb hne heq
  have h58 : hx 58 = none := by decide
  unfold M_readSix_b84
  have bad : ∀ p a c : Nat, c ≤ 5 → p < e → i ≤ p → ((c = 0 ∨ c = 5) ∨ u p ≠ 58) → ∃ t'', mfr [16] t t'' ∧ M_readSix_b137 t (nI e) (nI k) a4 (nI p) (nI a) (nI c) = some (.inr (0, t'')) := by
    intro p a c hc hp _ hor
    unfold M_readSix_b137
    by_cases c0 : c = 0
    · exact ⟨t, mfr.rf, by rw [if_pos (by rw [c0]; rfl)]; rfl⟩
    rw [if_neg (show ¬ nI c = 0 from fun h => c0 ((nI_eq (b := 0) (by omega) (by omega)).mp h))]
    by_cases c5 : c = 5
    · exact ⟨t, mfr.rf, by rw [if_pos (by rw [c5]; decide)]; rfl⟩
    rw [if_neg (show ¬ 4 < nI c from nI_nlt (a := 4) (by omega) (by omega))]
    by_cases c8 : k = 8
    · exact ⟨t, mfr.rf, by rw [if_pos (by rw [c8]; rfl)]; rfl⟩
    rw [if_neg (show ¬ nI k = 8 from fun h => c8 ((nI_eq (b := 8) (by omega) (by omega)).mp h)), wrI_n (n := 8) h16 (by omega) (by decide)]
    have m1 : mfr [16] t (moSI t 16 k (nI a)) := mfr.si (by decide)
    refine ⟨moSI t 16 k (nI a), m1, ?_⟩
    show (if nI p < nI e then M_readSix_b178 (moSI t 16 k (nI a)) (nI e) (nI k + 1) a4 (nI p) 1 else _) = _
    rw [if_pos (nI_lt hp (by omega))]
    unfold M_readSix_b178
    rw [if_neg (by decide), (uT.fr hu m1 (by decide)).2.2 p (by omega)]
    have := hu1 p
    show (if nI (u p) = 58 then _ else _) = _
    rw [if_neg (show ¬ nI (u p) = 58 from fun h => by
      have := (nI_eq (b := 58) (by omega) (by omega)).mp h
      rcases hor with hor | hor
      · omega
      · exact hor this)]
    rfl
  have bad5 : ∀ p a c : Nat, (c = 0 ∨ c = 5) → M_readSix_b137 t (nI e) (nI k) a4 (nI p) (nI a) (nI c) = some (.inr (0, t)) := by
    intro p a c hc
    unfold M_readSix_b137
    rcases hc with rfl | rfl
    · rw [if_pos (by decide)]; rfl
    · rw [if_neg (by decide), if_pos (by decide)]; rfl
  have loop : ∀ (q c a : Nat), c + q = 5 → i + c ≤ E → hxs u c i 0 = some a → (∀ v, hexN u i E = some v → lp (fun y : Int32 × Int32 × Int32 × moS => M_readSix_s84 y.2.2.2 (nI e) (nI k) a4 y.1 y.2.1 y.2.2.1) (nI (i + c), nI a, nI c, t) = M_readSix_b137 t (nI e) (nI k) a4 (nI E) (nI v) (nI (E - i))) ∧ (hexN u i E = none → ∃ t'', mfr [16] t t'' ∧ lp (fun y : Int32 × Int32 × Int32 × moS => M_readSix_s84 y.2.2.2 (nI e) (nI k) a4 y.1 y.2.1 y.2.2.1) (nI (i + c), nI a, nI c, t) = xo (some (0, t''))) := by
    intro q
    induction q with
    | zero =>
      intro c a hc hcE ha
      have hc : c = 5 := by omega
      subst hc
      have hno : hexN u i E = none := if_neg (by omega)
      refine ⟨fun v h => (by rw [hno] at h; cases h), fun _ => ⟨t, mfr.rf, lp_x ?_⟩⟩
      show M_readSix_s84 t (nI e) (nI k) a4 (nI (i + 5)) (nI a) (nI 5) = _
      unfold M_readSix_s84
      by_cases ce : i + 5 < e
      · rw [if_pos (nI_lt ce (by omega)), hu2 _ (by omega)]
        show (if M_hexadecimal (nI (u (i + 5))) = -1 then xo (M_readSix_b137 t (nI e) (nI k) a4 (nI (i + 5)) (nI a) (nI 5)) else _) = _
        rw [bad5 (i + 5) a 5 (Or.inr rfl)]
        split
        · rfl
        · rw [if_neg (by decide)]; rfl
      · rw [if_neg (nI_nlt (by omega) (by omega)), bad5 (i + 5) a 5 (Or.inr rfl)]; rfl
    | succ q ih =>
      intro c a hc hcE ha
      by_cases cE : i + c = E
      · -- the group's end
        have st : M_readSix_s84 t (nI e) (nI k) a4 (nI (i + c)) (nI a) (nI c) = xo (M_readSix_b137 t (nI e) (nI k) a4 (nI (i + c)) (nI a) (nI c)) := by
          unfold M_readSix_s84
          by_cases ce : i + c < e
          · rw [if_pos (nI_lt ce (by omega)), hu2 _ (by omega)]
            show (if M_hexadecimal (nI (u (i + c))) = -1 then xo (M_readSix_b137 t (nI e) (nI k) a4 (nI (i + c)) (nI a) (nI c)) else _) = _
            rw [if_pos (by rw [m_hex (hu1 _), cE, heq (by omega), h58]; rfl)]
          · rw [if_neg (nI_nlt (by omega) (by omega))]
        rw [lp_x (show (fun y : Int32 × Int32 × Int32 × moS => M_readSix_s84 y.2.2.2 (nI e) (nI k) a4 y.1 y.2.1 y.2.2.1) (nI (i + c), nI a, nI c, t) = _ from st)]
        by_cases c0 : c = 0
        · have hno : hexN u i E = none := if_neg (by omega)
          exact ⟨fun v h => (by rw [hno] at h; cases h), fun _ => ⟨t, mfr.rf, bad5 (i + c) a c (Or.inl c0)⟩⟩
        · have hyes : hexN u i E = some a := by
            unfold hexN
            rw [if_pos (by omega), show E - i = c by omega]; exact ha
          refine ⟨fun v h => ?_, fun h => by rw [hyes] at h; cases h⟩
          rw [hyes] at h
          cases h
          rw [cE, show E - i = c by omega]
      · cases hd : hx (u (i + c)) with
        | none =>
          have hno : hexN u i E = none := by
            unfold hexN
            split
            · exact hxs_no ha hd (E - i) (by omega)
            · rfl
          refine ⟨fun v h => (by rw [hno] at h; cases h), fun _ => ?_⟩
          obtain ⟨t'', m, hb'⟩ := bad (i + c) a c (by omega) (by omega) (by omega) (Or.inr (hne (i + c) (by omega) (by omega)))
          refine ⟨t'', m, ?_⟩
          rw [lp_x (o := M_readSix_b137 t (nI e) (nI k) a4 (nI (i + c)) (nI a) (nI c)) ?_, hb']
          · rfl
          · show M_readSix_s84 t (nI e) (nI k) a4 (nI (i + c)) (nI a) (nI c) = _
            unfold M_readSix_s84
            rw [if_pos (nI_lt (by omega) (by omega)), hu2 _ (by omega)]
            show (if M_hexadecimal (nI (u (i + c))) = -1 then xo (M_readSix_b137 t (nI e) (nI k) a4 (nI (i + c)) (nI a) (nI c)) else _) = _
            rw [if_pos (by rw [m_hex (hu1 _), hd]; rfl)]
        | some d =>
          have hd16 := hx_lt hd
          have ha2 : hxs u (c + 1) i 0 = some (16 * a + d) := by rw [hxs_sn, ha]; show (hx (u (i + c))).bind _ = _; rw [hd]; rfl
          have st : M_readSix_s84 t (nI e) (nI k) a4 (nI (i + c)) (nI a) (nI c) = some (.inl (nI (i + (c + 1)), nI (16 * a + d), nI (c + 1), t)) := by
            unfold M_readSix_s84
            rw [if_pos (nI_lt (by omega) (by omega)), hu2 _ (by omega)]
            show (if M_hexadecimal (nI (u (i + c))) = -1 then _ else if nI c < 5 then some (Sum.inl (nI (i + c) + 1, 16 * nI a + M_hexadecimal (nI (u (i + c))), nI c + 1, t)) else _) = _
            rw [if_neg (show ¬ M_hexadecimal (nI (u (i + c))) = -1 from fun h => by
              rw [m_hex (hu1 _), hd] at h
              exact nI_pos (show d < 2 ^ 31 by omega) (by rw [show nI d = -1 from h]; decide)), if_pos (show nI c < 5 from nI_lt (b := 5) (by omega) (by omega))]
            rw [m_hex (hu1 _), hd, nI_1, nI_1, show (16 : Int32) * nI a = nI (16 * a) from pk_mul 16 a]
            show some (Sum.inl (nI (i + c + 1), nI (16 * a) + nI d, nI (c + 1), t)) = _
            rw [nI_add]
            rfl
          rw [lp_l (show (fun y : Int32 × Int32 × Int32 × moS => M_readSix_s84 y.2.2.2 (nI e) (nI k) a4 y.1 y.2.1 y.2.2.1) (nI (i + c), nI a, nI c, t) = _ from st)]
          exact ih (c + 1) (16 * a + d) (by omega) (by omega) ha2
  exact loop 5 0 0 rfl (by omega) rfl
end Ms
