/-! Addresses of four, read by the model. -/
/-- the model's tape is u, n long -/
def uT (t : moS) (u : Nat → Nat) (n : Nat) : Prop := n ≤ 4096 ∧ (∀ i, u i < 256) ∧ ∀ i, i < n → rdI t 2 (nI i) = some (nI (u i))
section Mr
variable {t : moS} {u : Nat → Nat} {n f e : Nat}
theorem m_dig {v : Nat} (h : v < 256) : (48 ≤ v ∧ v ≤ 57 ∧ M_isDigit (nI v) = 1) ∨ (¬ (48 ≤ v ∧ v ≤ 57) ∧ M_isDigit (nI v) = 0) := by
  unfold M_isDigit M_isDigit_b16
  by_cases c1 : v < 48
  · exact Or.inr ⟨by omega, if_pos (nI_lt (b := 48) c1 (by omega))⟩
  rw [if_neg (show ¬ nI v < 48 from nI_nlt (b := 48) (by omega) (by omega))]
  by_cases c2 : 57 < v
  · exact Or.inr ⟨by omega, if_pos (nI_lt (a := 57) c2 (by omega))⟩
  · exact Or.inl ⟨by omega, by omega, if_neg (nI_nlt (a := 57) (by omega) (by omega))⟩
/-- a plain number of at most m -/
def plM (u : Nat → Nat) (f e m : Nat) : Option Nat := match plain u f e with
  | some v => if v ≤ m then some v else none
  | none => none
theorem m_plain (hu : uT t u n) (he : e ≤ n + 1) (hfe : f + 1 ≤ e → e ≤ n) (hf : f ≤ n + 1) {m : Nat} (hm : m < 2 ^ 31) : M_plain t (nI f) (nI e) (nI m) = some (oI (plM u f e m)) := by
  obtain ⟨hn, hu1, hu2⟩ := hu
  have hd : (nI e - nI f).toInt = (e : Int) - f := pk_sub_toInt (by omega) (by omega)
  have o1 : (1 : Int32).toInt = 1 := by decide
  have o3 : (3 : Int32).toInt = 3 := by decide
  have no : plain u f e = none → some (-1 : Int32) = some (oI (plM u f e m)) := fun h => by unfold plM; rw [h]; rfl
  have loop : ∀ (q i a : Nat), e ≤ n → i + q = e → q ≤ 3 → a < 10 ^ (3 - q) → dgs u q i a = plain u f e → lp (fun x : Int32 × Int32 => M_plain_s42 t (nI e) (nI m) x.1 x.2) (nI a, nI i) = some (oI (plM u f e m)) := by
    intro q
    induction q with
    | zero =>
      intro i a htl hi _ ha hp
      have ha : a < 1000 := ha
      have hp : some a = plain u f e := hp
      refine lp_x ?_
      show M_plain_s42 t (nI e) (nI m) (nI a) (nI i) = _
      unfold M_plain_s42
      rw [if_neg (nI_nlt (by omega) (by omega))]
      congr 1
      unfold plM
      rw [← hp]
      show (if nI m < nI a then some (-1 : Int32) else some (nI a)) = some (oI (if a ≤ m then some a else none))
      by_cases c : a ≤ m
      · rw [if_neg (nI_nlt c hm), if_pos c]; rfl
      · rw [if_pos (nI_lt (by omega) (by omega)), if_neg c]; rfl
    | succ q ih =>
      intro i a htl hi hq ha hp
      have e3 : 10 ^ (3 - q) = 10 * 10 ^ (3 - (q + 1)) := by rw [show 3 - q = (3 - (q + 1)) + 1 by omega, Nat.pow_succ, Nat.mul_comm]
      have hp : (if 48 ≤ u i ∧ u i ≤ 57 then dgs u q (i + 1) (10 * a + (u i - 48)) else none) = plain u f e := hp
      have hvl := hu1 i
      rcases m_dig hvl with ⟨d1, d2, d3⟩ | ⟨d1, d3⟩
      · rw [if_pos ⟨d1, d2⟩] at hp
        have st : M_plain_s42 t (nI e) (nI m) (nI a) (nI i) = some (.inl (nI (10 * a + (u i - 48)), nI (i + 1))) := by
          unfold M_plain_s42
          rw [if_pos (nI_lt (by omega) (by omega)), hu2 i (by omega)]
          show (if M_isDigit (nI (u i)) = 0 then _ else _) = _
          rw [if_neg (by rw [d3]; decide)]
          show some (Sum.inl (10 * nI a + nI (u i) - 48, nI i + 1)) = _
          rw [nI_1, show (10 : Int32) * nI a = nI (10 * a) from pk_mul 10 a, nI_add, show nI (10 * a + u i) - 48 = nI (10 * a + u i - 48) from pk_sub (b := 48) (by omega), show 10 * a + u i - 48 = 10 * a + (u i - 48) by omega]
        rw [lp_l (show (fun x : Int32 × Int32 => M_plain_s42 t (nI e) (nI m) x.1 x.2) (nI a, nI i) = _ from st)]
        exact ih (i + 1) _ htl (by omega) (by omega) (by omega) hp
      · rw [if_neg d1] at hp
        rw [← no hp.symm]
        refine lp_x ?_
        show M_plain_s42 t (nI e) (nI m) (nI a) (nI i) = _
        unfold M_plain_s42
        rw [if_pos (nI_lt (by omega) (by omega)), hu2 i (by omega)]
        show (if M_isDigit (nI (u i)) = 0 then _ else _) = _
        rw [if_pos d3]
  have b36 : f + 1 ≤ e → e ≤ f + 3 → ¬ (f + 1 < e ∧ u f = 48) → M_plain_b36 t (nI f) (nI e) (nI m) = some (oI (plM u f e m)) := by
    intro c1 c2 c3
    unfold M_plain_b36 M_plain_b42
    refine loop (e - f) f 0 (hfe c1) (by omega) (by omega) (Nat.pow_pos (by decide)) ?_
    unfold plain
    rw [if_pos ⟨c1, c2, c3⟩]
  unfold M_plain
  by_cases c : nI e - nI f < 1
  · rw [if_pos c]
    rw [Int32.lt_iff_toInt_lt, hd, o1] at c
    exact no (if_neg (by omega))
  rw [if_neg c]
  rw [Int32.lt_iff_toInt_lt, hd, o1] at c
  by_cases c2 : 3 < nI e - nI f
  · rw [if_pos c2]
    rw [Int32.lt_iff_toInt_lt, hd, o3] at c2
    exact no (if_neg (by omega))
  rw [if_neg c2]
  rw [Int32.lt_iff_toInt_lt, hd, o3] at c2
  by_cases c3 : 1 < nI e - nI f
  · rw [if_pos c3]
    rw [Int32.lt_iff_toInt_lt, hd, o1] at c3
    have hfl : f < n := by have := hfe (by omega); omega
    rw [hu2 f hfl]
    have hvl := hu1 f
    show (if nI (u f) = 48 then _ else _) = _
    by_cases c4 : u f = 48
    · rw [if_pos (by rw [c4]; rfl)]
      exact no (if_neg (by omega))
    · rw [if_neg (show ¬ nI (u f) = 48 from fun h => c4 ((nI_eq (b := 48) (by omega) (by omega)).mp h))]
      exact b36 (by omega) (by omega) (by omega)
  · rw [if_neg c3]
    rw [Int32.lt_iff_toInt_lt, hd, o1] at c3
    exact b36 (by omega) (by omega) (by omega)
theorem m_four (hu : uT t u n) (he : e ≤ n) (hf : f ≤ e + 1) : M_readFour t (nI f) (nI e) = some (match four u e 4 f 0 with
    | some v => (1, moSZ (moSZ (moSS t 12 0) 13 (v <<< ((32 : Int32).toInt64 &&& 63))) 14 0)
    | none => (0, t)) := by
  have hn := hu.1
  have hu1 := hu.2.1
  have hu2 := hu.2.2
  generalize hres : (match four u e 4 f 0 with
    | some v => ((1 : Int32), moSZ (moSZ (moSS t 12 0) 13 (v <<< ((32 : Int32).toInt64 &&& 63))) 14 0)
    | none => (0, t)) = res
  have no : four u e 4 f 0 = none → some ((0 : Int32), t) = some res := fun h => by rw [h] at hres; rw [← hres]
  unfold M_readFour M_readFour_b8
  have loop : ∀ (r i at_ : Nat) (a : Int64), i + r = 4 → at_ ≤ e + 1 → four u e r at_ a = four u e 4 f 0 → lp (fun x : Int64 × Int32 × Int32 × moS => M_readFour_s8 x.2.2.2 (nI e) x.1 x.2.1 x.2.2.1) (a, nI at_, nI i, t) = some res := by
    intro r
    induction r with
    | zero =>
      intro i at_ a hi hat hp
      have hi4 : i = 4 := by omega
      subst hi4
      have hp : some a = four u e 4 f 0 := hp
      refine lp_x ?_
      show M_readFour_s8 t (nI e) a (nI at_) (nI 4) = _
      unfold M_readFour_s8
      rw [if_neg (by decide)]
      congr 1
      rw [← hres, ← hp]
      rfl
    | succ r ih =>
      intro i at_ a hi hat hp
      have hE := fnd_le u 46 (e - at_) at_
      generalize hEe : fnd u 46 (e - at_) at_ = E at hE
      have hp : (match plain u at_ (fnd u 46 (e - at_) at_) with
        | some n => if n ≤ 255 ∧ (r = 0 ↔ fnd u 46 (e - at_) at_ = e) then four u e r (fnd u 46 (e - at_) at_ + 1) (sh8 a n) else none
        | none => none) = four u e 4 f 0 := hp
      rw [hEe] at hp
      have h42 : (M_readFour_b42 t (nI e) a (nI at_) (nI i) (nI E) = xo (some res)) ∨ ∃ a' E', M_readFour_b42 t (nI e) a (nI at_) (nI i) (nI E) = some (.inl (a', nI (E' + 1), nI (i + 1), t)) ∧ E' ≤ e ∧ four u e r (E' + 1) a' = four u e 4 f 0 := by
        unfold M_readFour_b42
        rw [show M_plain t (nI at_) (nI E) 255 = some (oI (plM u at_ E 255)) from m_plain hu (by omega) (by omega) (by omega) (m := 255) (by decide)]
        cases hn : plain u at_ E with
        | none =>
          rw [hn] at hp
          have hpl : plM u at_ E 255 = none := by unfold plM; rw [hn]
          rw [hpl]
          exact Or.inl (by rw [← no hp.symm]; rfl)
        | some n =>
          rw [hn] at hp
          have hp : (if n ≤ 255 ∧ (r = 0 ↔ E = e) then four u e r (E + 1) (sh8 a n) else none) = four u e 4 f 0 := hp
          have hn1 := plain_lt hn
          have hn2 := plain_ge hn
          have hpl : plM u at_ E 255 = if n ≤ 255 then some n else none := by unfold plM; rw [hn]
          rw [hpl]
          by_cases c : n ≤ 255
          · rw [if_pos c]
            show (if nI n = -1 then _ else _) = _ ∨ ∃ a' E', (if nI n = -1 then _ else _) = _ ∧ _
            have hne : ¬ nI n = -1 := fun h => nI_pos (show n < 2 ^ 31 by omega) (by rw [h]; decide)
            rw [if_neg hne]
            have h72 : ∀ k : Nat, (k = 1 ↔ r ≠ 0) → k ≤ 1 → (M_readFour_b72 t (nI e) a (nI i) (nI E) (nI n) (nI k) = xo (some res)) ∨ ∃ a' E', M_readFour_b72 t (nI e) a (nI i) (nI E) (nI n) (nI k) = some (.inl (a', nI (E' + 1), nI (i + 1), t)) ∧ E' ≤ e ∧ four u e r (E' + 1) a' = four u e 4 f 0 := by
              intro k hk hk1
              have h83 : ∀ j : Nat, (j = 1 ↔ E = e) → j ≤ 1 → (M_readFour_b83 t (nI e) a (nI i) (nI E) (nI n) (nI k) (nI j) = xo (some res)) ∨ ∃ a' E', M_readFour_b83 t (nI e) a (nI i) (nI E) (nI n) (nI k) (nI j) = some (.inl (a', nI (E' + 1), nI (i + 1), t)) ∧ E' ≤ e ∧ four u e r (E' + 1) a' = four u e 4 f 0 := by
                intro j hj hj1
                unfold M_readFour_b83
                by_cases ck : k = j
                · rw [if_pos (by rw [ck])]
                  rw [if_neg (fun h => by
                    have := h.2
                    by_cases c5 : r = 0
                    · have := hj.mpr (this.mp c5); omega
                    · have := hk.mpr c5
                      have := h.2.mpr (hj.mp (by omega)); omega)] at hp
                  exact Or.inl (by rw [no hp.symm])
                · rw [if_neg (fun h => ck ((nI_eq (by omega) (by omega)).mp h))]
                  rw [if_pos ⟨c, by
                    constructor
                    · intro h; exact hj.mp (by have : k ≠ 1 := fun z => hk.mp z h; omega)
                    · intro h; have := hj.mpr h; exact Classical.byContradiction fun z => ck (by have := hk.mpr z; omega)⟩] at hp
                  refine Or.inr ⟨sh8 a n, E, ?_, by omega, hp⟩
                  rw [nI_1, nI_1]
                  rfl
              unfold M_readFour_b72
              by_cases cE : E = e
              · rw [if_pos (by rw [cE])]
                exact h83 1 ⟨fun _ => cE, fun _ => rfl⟩ (by decide)
              · rw [if_neg (fun h => cE ((nI_eq (by omega) (by omega)).mp h))]
                exact h83 0 ⟨fun h => absurd h (by decide), fun h => absurd h cE⟩ (by decide)
            by_cases c3 : i < 3
            · rw [if_pos (show nI i < 3 from nI_lt (b := 3) c3 (by omega))]
              exact h72 1 ⟨fun _ => by omega, fun _ => rfl⟩ (by decide)
            · rw [if_neg (show ¬ nI i < 3 from nI_nlt (b := 3) (by omega) (by omega))]
              exact h72 0 ⟨fun h => absurd h (by decide), fun h => by omega⟩ (by decide)
          · rw [if_neg (fun h => c h.1)] at hp
            rw [if_neg c]
            exact Or.inl (by rw [← no hp.symm]; rfl)
      have hb18 : M_readFour_b18 t (nI e) a (nI at_) (nI i) (nI at_) = M_readFour_b42 t (nI e) a (nI at_) (nI i) (nI E) := by
        unfold M_readFour_b18
        have inner : ∀ (q g : Nat), (g + q = e ∨ (q = 0 ∧ e ≤ g)) → fnd u 46 q g = E → g ≤ e + 1 → lp (fun x : Int32 × moS => M_readFour_s18 x.2 (nI e) a (nI at_) (nI i) x.1) (nI g, t) = M_readFour_b42 t (nI e) a (nI at_) (nI i) (nI E) := by
          intro q
          induction q with
          | zero =>
            intro g he' hfe hle
            have hfe : g = E := hfe
            refine lp_x ?_
            show M_readFour_s18 t (nI e) a (nI at_) (nI i) (nI g) = _
            unfold M_readFour_s18
            rw [if_neg (nI_nlt (by omega) (by omega)), hfe]
          | succ q ihq =>
            intro g he' hfe hle
            have hfe : (if u g = 46 then g else fnd u 46 q (g + 1)) = E := hfe
            have hvl := hu1 g
            by_cases c : u g = 46
            · rw [if_pos c] at hfe
              refine lp_x ?_
              show M_readFour_s18 t (nI e) a (nI at_) (nI i) (nI g) = _
              unfold M_readFour_s18
              rw [if_pos (nI_lt (by omega) (by omega)), hu2 g (by omega)]
              show (if nI (u g) = 46 then _ else _) = _
              rw [if_pos (by rw [c]; rfl), hfe]
            · rw [if_neg c] at hfe
              have st : M_readFour_s18 t (nI e) a (nI at_) (nI i) (nI g) = some (.inl (nI (g + 1), t)) := by
                unfold M_readFour_s18
                rw [if_pos (nI_lt (by omega) (by omega)), hu2 g (by omega)]
                show (if nI (u g) = 46 then _ else _) = _
                rw [if_neg (show ¬ nI (u g) = 46 from fun h => c ((nI_eq (b := 46) (by omega) (by omega)).mp h)), nI_1]
              rw [lp_l (show (fun x : Int32 × moS => M_readFour_s18 x.2 (nI e) a (nI at_) (nI i) x.1) (nI g, t) = _ from st)]
              exact ihq (g + 1) (by omega) hfe (by omega)
        exact inner (e - at_) at_ (by omega) hEe hat
      have st : M_readFour_s8 t (nI e) a (nI at_) (nI i) = M_readFour_b42 t (nI e) a (nI at_) (nI i) (nI E) := by
        unfold M_readFour_s8
        rw [if_pos (show nI i < 4 from nI_lt (b := 4) (by omega) (by omega)), hb18]
      rcases h42 with h | ⟨a', E', h, hE', hp'⟩
      · exact lp_x (show (fun x : Int64 × Int32 × Int32 × moS => M_readFour_s8 x.2.2.2 (nI e) x.1 x.2.1 x.2.2.1) (a, nI at_, nI i, t) = _ from st.trans h)
      · rw [lp_l (show (fun x : Int64 × Int32 × Int32 × moS => M_readFour_s8 x.2.2.2 (nI e) x.1 x.2.1 x.2.2.1) (a, nI at_, nI i, t) = _ from st.trans h)]
        exact ih (i + 1) (E' + 1) a' (by omega) (by omega) hp'
  exact loop 4 0 f 0 rfl hf rfl
end Mr
