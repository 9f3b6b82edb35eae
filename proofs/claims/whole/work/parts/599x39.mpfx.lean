/-! Prefixes among the words, in the model. -/
/-- what the model has read: address and length -/
def rP (o : Option (Int32 × Int64 × Int64 × Nat)) (r : Int32) (t : moS) : Prop := match o with
  | none => r = 0
  | some (a1, a2, a3, n) => r = 1 ∧ bit (t.S 12) ∧ a1 = fam (t.S 12) ∧ t.Z 13 = a2 ∧ t.Z 14 = a3 ∧ t.S 15 = nI n
section Mp
variable {t : moS} {u : Nat → Nat} {n : Nat}
theorem m_awl (hu : uT t u n) (h16 : t.N 16 = 8) (h9 : t.N 9 = 2100) (h10 : t.N 10 = 2100) {ws : List (Nat × Nat)} (hw : mWw t ws) {i a b : Nat} (hi : i < ws.length) (hi2 : i < 2100) (hab : ws.getD i (0, 0) = (a, b)) (h1 : a < b) (h2 : b ≤ n) : ∃ r t', M_isAddressWithLength t (nI i) = some (r, t') ∧ mfr [12, 13, 14, 15, 16] t t' ∧ rP (pxP u a b) r t' := by
  have hn := hu.1
  have hu1 := hu.2.1
  obtain ⟨e9, e10⟩ := hw.2 i hi
  rw [hab] at e9 e10
  have e9 : t.I 9 i = nI a := e9
  have e10 : t.I 10 i = nI (b - a) := e10
  have r9 : rdI t 9 (nI i) = some (nI a) := by rw [rdI_n (n := 2100) h9 hi2 (by decide), e9]
  have r10 : rdI t 10 (nI i) = some (nI (b - a)) := by rw [rdI_n (n := 2100) h10 hi2 (by decide), e10]
  have hcl := fnd_le u 47 (b - a) a
  unfold pxP
  generalize hc : fnd u 47 (b - a) a = c at hcl
  have e0 : M_isAddressWithLength t (nI i) = M_isAddressWithLength_b21 t (nI i) (nI b) (nI a) := by
    unfold M_isAddressWithLength
    rw [r9, r10]
    show M_isAddressWithLength_b21 t (nI i) (nI a + nI (b - a)) (nI a) = _
    rw [nI_add, show a + (b - a) = b by omega]
  have e1 : M_isAddressWithLength_b21 t (nI i) (nI b) (nI a) = M_isAddressWithLength_b43 t (nI i) (nI b) (nI c) := by
    unfold M_isAddressWithLength_b21
    have loop : ∀ q j, j + q = b → a ≤ j → fnd u 47 q j = c → lp (fun y : Int32 × moS => M_isAddressWithLength_s21 y.2 (nI i) (nI b) y.1) (nI j, t) = M_isAddressWithLength_b43 t (nI i) (nI b) (nI c) := by
      intro q
      induction q with
      | zero =>
        intro j hj haj hf
        have hf : j = c := hf
        refine lp_x ?_
        show M_isAddressWithLength_s21 t (nI i) (nI b) (nI j) = _
        unfold M_isAddressWithLength_s21
        rw [if_neg (nI_nlt (by omega) (by omega)), hf]
      | succ q ih =>
        intro j hj haj hf
        have hf : (if u j = 47 then j else fnd u 47 q (j + 1)) = c := hf
        have hvl := hu1 j
        by_cases c47 : u j = 47
        · rw [if_pos c47] at hf
          refine lp_x ?_
          show M_isAddressWithLength_s21 t (nI i) (nI b) (nI j) = _
          unfold M_isAddressWithLength_s21
          rw [if_pos (nI_lt (by omega) (by omega)), hu.2.2 j (by omega)]
          show (if nI (u j) = 47 then _ else _) = _
          rw [if_pos (show nI (u j) = 47 by rw [c47]; rfl), hf]
        · rw [if_neg c47] at hf
          have st : M_isAddressWithLength_s21 t (nI i) (nI b) (nI j) = some (.inl (nI (j + 1), t)) := by
            unfold M_isAddressWithLength_s21
            rw [if_pos (nI_lt (by omega) (by omega)), hu.2.2 j (by omega)]
            show (if nI (u j) = 47 then _ else _) = _
            rw [if_neg (show ¬ nI (u j) = 47 from fun z => c47 ((nI_eq (b := 47) (by omega) (by omega)).mp z)), nI_1]
          rw [lp_l (show (fun y : Int32 × moS => M_isAddressWithLength_s21 y.2 (nI i) (nI b) y.1) (nI j, t) = _ from st)]
          exact ih (j + 1) (by omega) (by omega) hf
    exact loop (b - a) a (by omega) (Nat.le_refl _) hc
  rw [e0, e1]
  unfold M_isAddressWithLength_b43
  by_cases cb : c = b
  · rw [if_pos (show nI c = nI b by rw [cb]), if_pos cb]
    exact ⟨0, t, rfl, mfr.rf, rfl⟩
  rw [if_neg (show ¬ nI c = nI b from fun z => cb ((nI_eq (by omega) (by omega)).mp z)), if_neg cb, r9]
  obtain ⟨r, t1, e2, m2, h2'⟩ := m_addr (f := a) (e := c) hu h16 (by omega) (by omega)
  show ∃ r' t', bn2 (M_readAddress t (nI a) (nI c)) (fun x3 s2 => if x3 = 0 then some (0, s2) else Option.bind (M_plain s2 (nI c + 1) (nI b) (M_bitsOf (s2.S 12))) fun x4 => letS (moSS s2 15 x4) fun s5 => if s5.S 15 = -1 then some (0, s5) else some (1, s5)) = some (r', t') ∧ _
  rw [e2]
  have mw : mfr [12, 13, 14, 15, 16] t t1 := m2.wk (by intro k hk; revert hk; revert k; decide)
  show ∃ r' t', (if r = 0 then some (0, t1) else Option.bind (M_plain t1 (nI c + 1) (nI b) (M_bitsOf (t1.S 12))) (fun x4 => if (moSS t1 15 x4).S 15 = -1 then some (0, moSS t1 15 x4) else some (1, moSS t1 15 x4))) = some (r', t') ∧ _
  cases ha : adP u a c with
  | none =>
    rw [ha] at h2'
    have h2' : r = 0 := h2'
    rw [if_pos h2']
    exact ⟨0, t1, rfl, mw, rfl⟩
  | some p =>
    obtain ⟨a1, a2, a3⟩ := p
    rw [ha] at h2'
    obtain ⟨k1, k2, k3, k4, k5⟩ := h2'
    rw [if_neg (show ¬ r = 0 by rw [k1]; decide), nI_1]
    have hu' := uT.fr hu m2 (by decide)
    have eb : M_bitsOf (t1.S 12) = nI (if a1 = 4 then 32 else 128) := by
      rw [k3]
      rcases k2 with e | e <;> (rw [e]; decide)
    have hlt : (if a1 = 4 then 32 else 128) < 2 ^ 31 := by split <;> decide
    rw [eb, m_plain hu' (by omega) (by omega) (by omega) hlt]
    show ∃ r' t', (if (moSS t1 15 (oI (plM u (c + 1) b (if a1 = 4 then 32 else 128)))).S 15 = -1 then some (0, moSS t1 15 (oI (plM u (c + 1) b (if a1 = 4 then 32 else 128)))) else some (1, moSS t1 15 (oI (plM u (c + 1) b (if a1 = 4 then 32 else 128))))) = some (r', t') ∧ _
    rw [moSS_s]
    cases hp : plM u (c + 1) b (if a1 = 4 then 32 else 128) with
    | none =>
      refine ⟨0, moSS t1 15 (-1), rfl, mw.tr (mfr.ss (by decide)), ?_⟩
      show rP (match plM u (c + 1) b (if a1 = 4 then 32 else 128) with
        | none => none
        | some n => some (a1, a2, a3, n)) _ _
      rw [hp]
      exact rfl
    | some v =>
      have hv := (plM_lt hp).2
      refine ⟨1, moSS t1 15 (nI v), if_neg (show ¬ nI v = -1 from fun z => nI_pos (show v < 2 ^ 31 by omega) (by rw [z]; decide)), mw.tr (mfr.ss (by decide)), ?_⟩
      show rP (match plM u (c + 1) b (if a1 = 4 then 32 else 128) with
        | none => none
        | some n => some (a1, a2, a3, n)) _ _
      rw [hp]
      exact ⟨rfl, k2, k3, k4, k5, moSS_s⟩
end Mp
