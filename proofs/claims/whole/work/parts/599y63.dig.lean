/-! Digests as numbers; the model's blocks. -/
def m5F (i : Nat) (b c d : Int32) : Int32 := if i < 16 then (b &&& c) ||| ((b ^^^ ((-1) : Int32)) &&& d) else if i < 32 then (d &&& b) ||| ((d ^^^ ((-1) : Int32)) &&& c) else if i < 48 then (b ^^^ c) ^^^ d else c ^^^ (b ||| (d ^^^ ((-1) : Int32)))
def m5G (i : Nat) : Nat := (if i < 16 then i else if i < 32 then 5 * i + 1 else if i < 48 then 3 * i + 5 else 7 * i) % 16
abbrev q4 : Type := Int32 × Int32 × Int32 × Int32
abbrev q5 : Type := Int32 × Int32 × Int32 × Int32 × Int32
noncomputable def m5S (w : Nat → Int32) (i : Nat) (q : q4) : q4 := (q.2.2.2, q.2.1 + M_turned (((q.1 + m5F i q.2.1 q.2.2.1 q.2.2.2) + M_constant (nI i)) + w (m5G i)) (M_turn (nI i)), q.2.1, q.2.2.1)
noncomputable def m5N (w : Nat → Int32) : Nat → Nat → q4 → q4
  | 0, _, q => q
  | n + 1, i, q => m5N w n (i + 1) (m5S w i q)
/-- a block of md5 -/
noncomputable def m5B (w : Nat → Int32) (st : q5) : q5 := ((st.1 + (m5N w 64 0 (st.1, st.2.1, st.2.2.1, st.2.2.2.1)).1), (st.2.1 + (m5N w 64 0 (st.1, st.2.1, st.2.2.1, st.2.2.2.1)).2.1), (st.2.2.1 + (m5N w 64 0 (st.1, st.2.1, st.2.2.1, st.2.2.2.1)).2.2.1), (st.2.2.2.1 + (m5N w 64 0 (st.1, st.2.1, st.2.2.1, st.2.2.2.1)).2.2.2), st.2.2.2.2)
def shaF (i : Nat) (b c d : Int32) : Int32 := if i < 20 then (b &&& c) ||| ((b ^^^ ((-1) : Int32)) &&& d) else if i < 40 then (b ^^^ c) ^^^ d else if i < 60 then ((b &&& c) ||| (b &&& d)) ||| (c &&& d) else (b ^^^ c) ^^^ d
def shaK (i : Nat) : Int32 := if i < 20 then 1518500249 else if i < 40 then 1859775393 else if i < 60 then -1894007588 else -899497514
noncomputable def shS (w : Nat → Int32) (i : Nat) (q : q5) : q5 := ((((M_turned q.1 5 + shaF i q.2.1 q.2.2.1 q.2.2.2.1) + q.2.2.2.2) + shaK i) + w i, q.1, M_turned q.2.1 30, q.2.2.1, q.2.2.2.1)
noncomputable def shN (w : Nat → Int32) : Nat → Nat → q5 → q5
  | 0, _, q => q
  | n + 1, i, q => shN w n (i + 1) (shS w i q)
noncomputable def shB (w : Nat → Int32) (st : q5) : q5 := (st.1 + (shN w 80 0 st).1, st.2.1 + (shN w 80 0 st).2.1, st.2.2.1 + (shN w 80 0 st).2.2.1, st.2.2.2.1 + (shN w 80 0 st).2.2.2.1, st.2.2.2.2 + (shN w 80 0 st).2.2.2.2)
/-- the words of a block -/
def w5 (B : Nat → Int32) (at' j : Nat) : Int32 := ((B (at' + 4 * j) ||| (B (at' + 4 * j + 1) <<< ((8 : Int32) &&& 31))) ||| (B (at' + 4 * j + 2) <<< ((16 : Int32) &&& 31))) ||| (B (at' + 4 * j + 3) <<< ((24 : Int32) &&& 31))
def wH (B : Nat → Int32) (at' j : Nat) : Int32 := (((B (at' + 4 * j) <<< ((24 : Int32) &&& 31)) ||| (B (at' + 4 * j + 1) <<< ((16 : Int32) &&& 31))) ||| (B (at' + 4 * j + 2) <<< ((8 : Int32) &&& 31))) ||| B (at' + 4 * j + 3)
/-- sha's words: n of them -/
noncomputable def wX (B : Nat → Int32) (at' : Nat) : Nat → Nat → Int32
  | 0 => fun j => wH B at' j
  | n + 1 => upd (wX B at' n) (16 + n) (M_turned (((wX B at' n (16 + n - 3) ^^^ wX B at' n (16 + n - 8)) ^^^ wX B at' n (16 + n - 14)) ^^^ wX B at' n (16 + n - 16)) 1)
noncomputable def dg5 (B : Nat → Int32) : Nat → q5
  | 0 => (1732584193, -271733879, -1732584194, 271733878, -1009589776)
  | k + 1 => m5B (w5 B (64 * k)) (dg5 B k)
noncomputable def dgH (B : Nat → Int32) : Nat → q5
  | 0 => (1732584193, -271733879, -1732584194, 271733878, -1009589776)
  | k + 1 => shB (wX B (64 * k) 64) (dgH B k)
theorem m5_g1 : ∀ i, i < 16 → rem_I (nI i) 16 = nI (m5G i) := by decide +kernel
theorem m5_g2 : ∀ i, i < 32 → 16 ≤ i → rem_I (5 * nI i + 1) 16 = nI (m5G i) := by decide +kernel
theorem m5_g3 : ∀ i, i < 48 → 32 ≤ i → rem_I (3 * nI i + 5) 16 = nI (m5G i) := by decide +kernel
theorem m5_g4 : ∀ i, i < 64 → 48 ≤ i → rem_I (7 * nI i) 16 = nI (m5G i) := by decide +kernel
theorem m5G_lt (i : Nat) : m5G i < 16 := Nat.mod_lt _ (by decide)
/-- only what w has at its first 16 counts -/
theorem m5N_e {w w' : Nat → Int32} (h : ∀ j, j < 16 → w j = w' j) : ∀ n i q, m5N w n i q = m5N w' n i q
  | 0, _, _ => rfl
  | n + 1, i, q => by
    show m5N w n (i + 1) (m5S w i q) = m5N w' n (i + 1) (m5S w' i q)
    rw [m5N_e h n, show m5S w i q = m5S w' i q by unfold m5S; rw [h _ (m5G_lt i)]]
theorem m5B_e {w w' : Nat → Int32} (h : ∀ j, j < 16 → w j = w' j) (st : q5) : m5B w st = m5B w' st := by unfold m5B; rw [m5N_e h]
theorem shN_e {w w' : Nat → Int32} (h : ∀ j, j < 80 → w j = w' j) : ∀ n i q, i + n ≤ 80 → shN w n i q = shN w' n i q
  | 0, _, _, _ => rfl
  | n + 1, i, q, hi => by
    show shN w n (i + 1) (shS w i q) = shN w' n (i + 1) (shS w' i q)
    rw [shN_e h n _ _ (by omega), show shS w i q = shS w' i q by unfold shS; rw [h i (by omega)]]
theorem shB_e {w w' : Nat → Int32} (h : ∀ j, j < 80 → w j = w' j) (st : q5) : shB w st = shB w' st := by unfold shB; rw [shN_e h 80 0 st (by omega)]
/-- the model's state of a digest -/
def mst (t : moS) : q5 := (t.I 159 0, t.I 159 1, t.I 159 2, t.I 159 3, t.I 159 4)
section Dg
variable {t : moS}
theorem m5_step (hN : t.N 158 = 80) {i : Nat} (hi : i < 64) (a b c d : Int32) : M_md5Block_s101 t a b c d (nI i) = some (.inl ((m5S (t.I 158) i (a, b, c, d)).1, (m5S (t.I 158) i (a, b, c, d)).2.1, (m5S (t.I 158) i (a, b, c, d)).2.2.1, (m5S (t.I 158) i (a, b, c, d)).2.2.2, nI (i + 1), t)) := by
  have hg := m5G_lt i
  have rd : rdI t 158 (nI (m5G i)) = some (t.I 158 (m5G i)) := rdI_n hN (by omega) (by decide)
  unfold M_md5Block_s101 m5S m5F
  rw [if_pos (show nI i < 64 from nI_lt (b := 64) hi (by decide))]
  by_cases c1 : i < 16
  · rw [if_pos (show nI i < 16 from nI_lt (b := 16) c1 (by decide)), if_pos c1]
    unfold M_md5Block_b177 M_md5Block_b228
    rw [if_pos (show nI i < 16 from nI_lt (b := 16) c1 (by decide)), m5_g1 i c1, rd, nI_1]
    rfl
  rw [if_neg (show ¬ nI i < 16 from nI_nlt (b := 16) (by omega) (by omega)), if_neg c1]
  by_cases c2 : i < 32
  · rw [if_pos (show nI i < 32 from nI_lt (b := 32) c2 (by decide)), if_pos c2]
    unfold M_md5Block_b177 M_md5Block_b228
    rw [if_neg (show ¬ nI i < 16 from nI_nlt (b := 16) (by omega) (by omega)), if_pos (show nI i < 32 from nI_lt (b := 32) c2 (by decide)), m5_g2 i c2 (by omega), rd, nI_1]
    rfl
  rw [if_neg (show ¬ nI i < 32 from nI_nlt (b := 32) (by omega) (by omega)), if_neg c2]
  by_cases c3 : i < 48
  · rw [if_pos (show nI i < 48 from nI_lt (b := 48) c3 (by decide)), if_pos c3]
    unfold M_md5Block_b177 M_md5Block_b228
    rw [if_neg (show ¬ nI i < 16 from nI_nlt (b := 16) (by omega) (by omega)), if_neg (show ¬ nI i < 32 from nI_nlt (b := 32) (by omega) (by omega)), if_pos (show nI i < 48 from nI_lt (b := 48) c3 (by decide)), m5_g3 i c3 (by omega), rd, nI_1]
    rfl
  · rw [if_neg (show ¬ nI i < 48 from nI_nlt (b := 48) (by omega) (by omega)), if_neg c3]
    unfold M_md5Block_b177 M_md5Block_b228
    rw [if_neg (show ¬ nI i < 16 from nI_nlt (b := 16) (by omega) (by omega)), if_neg (show ¬ nI i < 32 from nI_nlt (b := 32) (by omega) (by omega)), if_neg (show ¬ nI i < 48 from nI_nlt (b := 48) (by omega) (by omega)), m5_g4 i hi (by omega), rd, nI_1]
    rfl
/-- the model's md5Block -/
theorem m_md5B {B : Nat → Int32} {a : Nat} (h7 : t.N 157 = 832) (h8 : t.N 158 = 80) (h9 : t.N 159 = 5) (ha : a + 64 ≤ 832) (hB : ∀ i, a ≤ i → i < a + 64 → t.I 157 i = B i) : ∃ t', M_md5Block t (nI a) = some t' ∧ mfr [158, 159] t t' ∧ mst t' = m5B (w5 B a) (mst t) := by
  unfold M_md5Block M_md5Block_b2
  have loop : ∀ n j, j + n = 16 → ∀ t1, mfr [158] t t1 → (∀ i, i < j → t1.I 158 i = w5 B a i) → ∃ t', lp (fun x : Int32 × moS => M_md5Block_s2 x.2 (nI a) x.1) (nI j, t1) = some t' ∧ mfr [158, 159] t t' ∧ mst t' = m5B (w5 B a) (mst t) := by
    intro n
    induction n with
    | zero =>
      intro j hj t1 m1 hw
      have hj : j = 16 := by omega
      subst hj
      have n8 : t1.N 158 = 80 := (m1.2 158 (Or.inr (by decide))).trans h8
      have n9 : t1.N 159 = 5 := (m1.2 159 (Or.inr (by decide))).trans h9
      have e9 : t1.I 159 = t.I 159 := m1.I 159 (by decide)
      have st : M_md5Block_s2 t1 (nI a) (nI 16) = xo (M_md5Block_b101 t1 (t1.I 159 0) (t1.I 159 1) (t1.I 159 2) (t1.I 159 3) 0) := by
        unfold M_md5Block_s2
        rw [if_neg (by decide)]
        refine congrArg xo ?_
        refine (sr_I (i := 0) n9 (by decide) (by decide)).trans ?_
        refine (sr_I (i := 1) n9 (by decide) (by decide)).trans ?_
        refine (sr_I (i := 2) n9 (by decide) (by decide)).trans ?_
        exact (sr_I (i := 3) n9 (by decide) (by decide)).trans rfl
      have inn : ∀ n i (q : q4), i + n = 64 → lp (fun x : Int32 × Int32 × Int32 × Int32 × Int32 × moS => M_md5Block_s101 x.2.2.2.2.2 x.1 x.2.1 x.2.2.1 x.2.2.2.1 x.2.2.2.2.1) (q.1, q.2.1, q.2.2.1, q.2.2.2, nI i, t1) = lp (fun x : Int32 × Int32 × Int32 × Int32 × Int32 × moS => M_md5Block_s101 x.2.2.2.2.2 x.1 x.2.1 x.2.2.1 x.2.2.2.1 x.2.2.2.2.1) ((m5N (t1.I 158) n i q).1, (m5N (t1.I 158) n i q).2.1, (m5N (t1.I 158) n i q).2.2.1, (m5N (t1.I 158) n i q).2.2.2, nI 64, t1) := by
        intro n
        induction n with
        | zero =>
          intro i q hi
          have : i = 64 := by omega
          rw [this]
          rfl
        | succ n ih =>
          intro i q hi
          rw [lp_l (m5_step n8 (show i < 64 by omega) q.1 q.2.1 q.2.2.1 q.2.2.2)]
          exact ih (i + 1) (m5S (t1.I 158) i q) (by omega)
      rw [lp_x st]
      unfold M_md5Block_b101
      rw [show (0 : Int32) = nI 0 from rfl, inn 64 0 (t1.I 159 0, t1.I 159 1, t1.I 159 2, t1.I 159 3) rfl]
      generalize hq : m5N (t1.I 158) 64 0 (t1.I 159 0, t1.I 159 1, t1.I 159 2, t1.I 159 3) = q
      have en : M_md5Block_s101 t1 q.1 q.2.1 q.2.2.1 q.2.2.2 (nI 64) = xo (some (moSI (moSI (moSI (moSI t1 159 0 (t1.I 159 0 + q.1)) 159 1 (t1.I 159 1 + q.2.1)) 159 2 (t1.I 159 2 + q.2.2.1)) 159 3 (t1.I 159 3 + q.2.2.2))) := by
        unfold M_md5Block_s101
        rw [if_neg (by decide)]
        refine congrArg xo ?_
        refine (sr_I (i := 0) n9 (by decide) (by decide)).trans ?_
        refine (sw_I (i := 0) n9 (by decide) (by decide)).trans ?_
        refine (sr_I (i := 1) (n := 5) (by exact n9) (by decide) (by decide)).trans ?_
        refine (sw_I (i := 1) (n := 5) (by exact n9) (by decide) (by decide)).trans ?_
        refine (sr_I (i := 2) (n := 5) (by exact n9) (by decide) (by decide)).trans ?_
        refine (sw_I (i := 2) (n := 5) (by exact n9) (by decide) (by decide)).trans ?_
        refine (sr_I (i := 3) (n := 5) (by exact n9) (by decide) (by decide)).trans ?_
        exact (sw_I (i := 3) (n := 5) (by exact n9) (by decide) (by decide)).trans rfl
      rw [lp_x (show (fun x : Int32 × Int32 × Int32 × Int32 × Int32 × moS => M_md5Block_s101 x.2.2.2.2.2 x.1 x.2.1 x.2.2.1 x.2.2.2.1 x.2.2.2.2.1) (q.1, q.2.1, q.2.2.1, q.2.2.2, nI 64, t1) = _ from en)]
      refine ⟨_, rfl, ((((m1.wk (by decide)).tr (mfr.si (by decide))).tr (mfr.si (by decide))).tr (mfr.si (by decide))).tr (mfr.si (by decide)), ?_⟩
      have eq : q = m5N (w5 B a) 64 0 (t.I 159 0, t.I 159 1, t.I 159 2, t.I 159 3) := by rw [← hq, e9]; exact m5N_e (fun j hj => hw j hj) 64 0 _
      rw [← m5B_e (w := w5 B a) (fun j _ => rfl)]
      unfold m5B mst
      rw [← eq, ← e9]
      rfl
    | succ n ih =>
      intro j hj t1 m1 hw
      have n7 : t1.N 157 = 832 := (m1.2 157 (Or.inr (by decide))).trans h7
      have n8 : t1.N 158 = 80 := (m1.2 158 (Or.inr (by decide))).trans h8
      have e7 : t1.I 157 = t.I 157 := m1.I 157 (by decide)
      have st : M_md5Block_s2 t1 (nI a) (nI j) = some (.inl (nI (j + 1), moSI t1 158 j (w5 B a j))) := by
        unfold M_md5Block_s2
        have ea : nI a + 4 * nI j = nI (a + 4 * j) := by rw [show (4 : Int32) = nI 4 from rfl, pk_mul, nI_add]
        rw [if_pos (show nI j < 16 from nI_lt (b := 16) (by omega) (by decide)), ea, show nI (a + 4 * j) + 2 = nI (a + 4 * j + 2) from nI_add _ 2, show nI (a + 4 * j) + 3 = nI (a + 4 * j + 3) from nI_add _ 3, nI_1, nI_1]
        refine (sr_I n7 (by omega) (by decide)).trans ?_
        refine (sr_I n7 (by omega) (by decide)).trans ?_
        refine (sr_I n7 (by omega) (by decide)).trans ?_
        refine (sr_I n7 (by omega) (by decide)).trans ?_
        rw [e7, hB _ (by omega) (by omega), hB _ (by omega) (by omega), hB _ (by omega) (by omega), hB _ (by omega) (by omega)]
        exact (sw_I n8 (by omega) (by decide)).trans rfl
      rw [lp_l (show (fun x : Int32 × moS => M_md5Block_s2 x.2 (nI a) x.1) (nI j, t1) = _ from st)]
      refine ih (j + 1) (by omega) _ (m1.tr (mfr.si (by decide))) fun i hi => ?_
      rw [moSI_s]
      by_cases c : i = j
      · rw [c, upd_s]
      · rw [upd_n c]; exact hw i (by omega)
  exact loop 16 0 rfl t mfr.rf (fun i hi => absurd hi (Nat.not_lt_zero i))
end Dg
