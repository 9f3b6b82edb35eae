/-! A number that came with a key is not older: the model. -/
section Mo
variable {t : moS} {q : Int32} {h num : Int64} {n k N : Nat}
theorem m_oldL (hS : t.S 101 = nI n) (hN : t.N 102 = N) (hN3 : t.N 103 = N) (hn : n ≤ N) (hN' : N ≤ 8192) : ∀ m a, a + m = k → k ≤ n → (∀ j, a ≤ j → j < k → ¬ (t.I 102 j = q ∧ t.J 103 j = h)) → (k = n ∨ (t.I 102 k = q ∧ t.J 103 k = h)) → M_isNotOlder_b3 t q h num (nI a) = M_isNotOlder_b41 t q h num (nI k)
  | 0, a, ha, hk, hj, hx => by
    have ha : a = k := by omega
    subst ha
    unfold M_isNotOlder_b3
    refine lp_x ?_
    show M_isNotOlder_s3 t q h num (nI a) = _
    unfold M_isNotOlder_s3
    rw [hS]
    by_cases c : a < n
    · rw [if_pos (nI_lt c (by omega)), rdI_n hN (by omega) (by omega)]
      rcases hx with rfl | ⟨x1, x2⟩
      · omega
      · simp only [Option.bind_some]
        rw [if_pos x1, rdJ_n hN3 (by omega) (by omega)]
        simp only [Option.bind_some]
        rw [if_pos x2]
    · rw [if_neg (nI_nlt (by omega) (by omega))]
  | m + 1, a, ha, hk, hj, hx => by
    have ih := m_oldL hS hN hN3 hn hN' m (a + 1) (by omega) hk (fun j h1 h2 => hj j (by omega) h2) hx
    rw [← ih]
    unfold M_isNotOlder_b3
    refine lp_l ?_
    show M_isNotOlder_s3 t q h num (nI a) = _
    have no := hj a (Nat.le_refl _) (by omega)
    unfold M_isNotOlder_s3 M_isNotOlder_b35
    rw [hS, if_pos (nI_lt (by omega) (by omega)), rdI_n hN (by omega) (by omega), show nI a + 1 = nI (a + 1) from nI_1 a]
    simp only [Option.bind_some]
    by_cases c : t.I 102 a = q
    · rw [if_pos c, rdJ_n hN3 (by omega) (by omega)]
      simp only [Option.bind_some]
      rw [if_neg (fun z => no ⟨c, z⟩)]
    · rw [if_neg c]
/-- one source more -/
def apT (t : moS) (n : Nat) (q : Int32) (h num : Int64) : moS := moSS (moSJ (moSJ (moSI t 102 n q) 103 n h) 104 n num) 101 (nI (n + 1))
theorem m_ap (hS : t.S 101 = nI n) (hN : t.N 102 = N) (hN3 : t.N 103 = N) (hN4 : t.N 104 = N) (hn : n < N) (hN' : N ≤ 8192) : M_isNotOlder_b66 t q h num (nI n) = some (1, apT t n q h num) := by
  unfold M_isNotOlder_b66
  rw [wrI_n hN hn (by omega)]
  simp only [Option.bind_some]
  rw [wrJ_n (t := moSI t 102 n q) (show (moSI t 102 n q).N 103 = N from hN3) hn (by omega)]
  simp only [Option.bind_some]
  rw [wrJ_n (t := moSJ (moSI t 102 n q) 103 n h) (show (moSI t 102 n q).N 104 = N from hN4) hn (by omega)]
  simp only [Option.bind_some]
  show letS _ _ = _
  unfold letS
  rw [show (moSJ (moSJ (moSI t 102 n q) 103 n h) 104 n num).S 101 + 1 = nI (n + 1) by rw [show (moSJ (moSJ (moSI t 102 n q) 103 n h) 104 n num).S 101 = nI n from hS, nI_1]]
  rfl
theorem gr_fr : mfr [101, 102, 103, 104] t (mgS t) := by
  refine ⟨fun j hj => ?_, fun j hj => ?_⟩
  · simp only [List.mem_cons, List.not_mem_nil, or_false, not_or] at hj
    refine ⟨rfl, rfl, ?_, ?_⟩
    · show (if j = 102 then _ else t.I j) = t.I j
      rw [if_neg hj.2.1]
    · show (if j = 104 then _ else if j = 103 then _ else t.J j) = t.J j
      rw [if_neg hj.2.2.2, if_neg hj.2.2.1]
  · have : j ≠ 102 ∧ j ≠ 103 ∧ j ≠ 104 := by
      rcases hj with z | z
      · simp only [List.mem_cons, List.not_mem_nil, or_false, not_or] at z
        exact z.2
      · unfold mG at z
        simp only [List.mem_cons, List.not_mem_nil, or_false, not_or] at z
        exact z.2.2
    show (if j = 104 then _ else if j = 103 then _ else if j = 102 then _ else t.N j) = t.N j
    rw [if_neg this.2.2, if_neg this.2.1, if_neg this.1]
theorem ap_fr : mfr [101, 102, 103, 104] t (apT t n q h num) := (mfr.si (by decide)).tr ((mfr.sj (by decide)).tr ((mfr.sj (by decide)).tr (mfr.ss (by decide))))
/-- what one source more leaves -/
def apO (t t' : moS) (n : Nat) (q : Int32) (h num : Int64) : Prop := mfr [101, 102, 103, 104] t t' ∧ t'.S 101 = nI (n + 1) ∧ (t'.I 102 n = q ∧ t'.J 103 n = h ∧ t'.J 104 n = num) ∧ (∀ k, k < n → t'.I 102 k = t.I 102 k ∧ t'.J 103 k = t.J 103 k ∧ t'.J 104 k = t.J 104 k) ∧ (64 ≤ t'.N 102 ∧ t'.N 102 ≤ 8192 ∧ t'.N 103 = t'.N 102 ∧ t'.N 104 = t'.N 102) ∧ n + 1 ≤ t'.N 102
theorem m_oldB (hS : t.S 101 = nI n) (hN : 64 ≤ t.N 102 ∧ t.N 102 ≤ 8192 ∧ t.N 103 = t.N 102 ∧ t.N 104 = t.N 102) (hn : n ≤ t.N 102) (h4 : n ≤ 4096) (no : ∀ j, j < n → ¬ (t.I 102 j = q ∧ t.J 103 j = h)) : ∃ t', M_isNotOlder t q h num = some (1, t') ∧ apO t t' n q h num := by
  have e : M_isNotOlder t q h num = M_isNotOlder_b41 t q h num (nI n) := m_oldL (k := n) (num := num) hS rfl hN.2.2.1 hn hN.2.1 n 0 (by omega) (Nat.le_refl _) (fun j _ hj => no j hj) (Or.inl rfl)
  rw [e]
  unfold M_isNotOlder_b41
  rw [hS, if_pos rfl]
  have u1 : ∀ (t0 : moS), (apT t0 n q h num).I 102 = upd (t0.I 102) n q := fun t0 => by
    show (moSI t0 102 n q).I 102 = _
    exact moSI_s
  have u2 : ∀ (t0 : moS), (apT t0 n q h num).J 103 = vp_updL (t0.J 103) n h := fun t0 => by
    show (moSJ (moSJ (moSI t0 102 n q) 103 n h) 104 n num).J 103 = _
    rw [moSJ_n (by decide), moSJ_s]
    rfl
  have u3 : ∀ (t0 : moS), (apT t0 n q h num).J 104 = vp_updL (t0.J 104) n num := fun t0 => by
    show (moSJ (moSJ (moSI t0 102 n q) 103 n h) 104 n num).J 104 = _
    rw [moSJ_s, moSJ_n (by decide)]
    rfl
  have pI : ∀ (f : Nat → Int32) (v : Int32), upd f n v n = v ∧ ∀ k, k < n → upd f n v k = f k := fun f v => ⟨by unfold upd; rw [if_pos rfl], fun k hk => by unfold upd; rw [if_neg (by omega)]⟩
  have pJ : ∀ (f : Nat → Int64) (v : Int64), vp_updL f n v n = v ∧ ∀ k, k < n → vp_updL f n v k = f k := fun f v => ⟨by unfold vp_updL; rw [if_pos rfl], fun k hk => by unfold vp_updL; rw [if_neg (by omega)]⟩
  by_cases c : n = t.N 102
  · rw [if_pos (by rw [c])]
    have hg : M_growSources t = some (mgS t) := by
      unfold M_growSources
      rw [if_neg]
      rw [hS, nI_clamp (by omega)]
      rintro (z | z | z)
      · exact nI_pos (by omega) z
      · exact z c
      · omega
    have n2 : (mgS t).N 102 = 2 * t.N 102 := rfl
    have n3 : (mgS t).N 103 = 2 * t.N 102 := rfl
    have n4 : (mgS t).N 104 = 2 * t.N 102 := rfl
    rw [hg]
    simp only [Option.bind_some]
    rw [m_ap (t := mgS t) (N := 2 * t.N 102) (show t.S 101 = nI n from hS) n2 n3 n4 (by omega) (by omega)]
    refine ⟨_, rfl, gr_fr.tr ap_fr, moSS_s, ⟨?_, ?_, ?_⟩, fun k hk => ⟨?_, ?_, ?_⟩, ?_, ?_⟩
    · rw [u1]; exact (pI _ _).1
    · rw [u2]; exact (pJ _ _).1
    · rw [u3]; exact (pJ _ _).1
    · rw [u1, (pI _ _).2 k hk]
      show (if k < t.N 102 then t.I 102 k else 0) = _
      rw [if_pos (by omega)]
    · rw [u2, (pJ _ _).2 k hk]
      show (if k < t.N 102 then t.J 103 k else 0) = _
      rw [if_pos (by omega)]
    · rw [u3, (pJ _ _).2 k hk]
      show (if k < t.N 102 then t.J 104 k else 0) = _
      rw [if_pos (by omega)]
    · show 64 ≤ 2 * t.N 102 ∧ 2 * t.N 102 ≤ 8192 ∧ 2 * t.N 102 = 2 * t.N 102 ∧ 2 * t.N 102 = 2 * t.N 102
      omega
    · show n + 1 ≤ 2 * t.N 102
      omega
  · rw [if_neg (fun z => c (nI_inj z (by omega) (by omega))), m_ap hS rfl hN.2.2.1 hN.2.2.2 (by omega) hN.2.1]
    refine ⟨_, rfl, ap_fr, moSS_s, ⟨?_, ?_, ?_⟩, fun k hk => ⟨?_, ?_, ?_⟩, hN, ?_⟩
    · rw [u1]; exact (pI _ _).1
    · rw [u2]; exact (pJ _ _).1
    · rw [u3]; exact (pJ _ _).1
    · rw [u1, (pI _ _).2 k hk]
    · rw [u2, (pJ _ _).2 k hk]
    · rw [u3, (pJ _ _).2 k hk]
    · show n + 1 ≤ t.N 102
      omega
theorem m_oldA (hS : t.S 101 = nI n) (hN : 64 ≤ t.N 102 ∧ t.N 102 ≤ 8192 ∧ t.N 103 = t.N 102 ∧ t.N 104 = t.N 102) (hn : n ≤ t.N 102) (hk : k < n) (hx : t.I 102 k = q ∧ t.J 103 k = h) (no : ∀ j, j < k → ¬ (t.I 102 j = q ∧ t.J 103 j = h)) : (num < t.J 104 k → M_isNotOlder t q h num = some (0, t)) ∧ (¬ num < t.J 104 k → M_isNotOlder t q h num = some (1, moSJ t 104 k num)) := by
  have e : M_isNotOlder t q h num = M_isNotOlder_b41 t q h num (nI k) := m_oldL (k := k) (num := num) hS rfl hN.2.2.1 hn hN.2.1 k 0 (by omega) (by omega) (fun j _ hj => no j hj) (Or.inr hx)
  rw [e]
  unfold M_isNotOlder_b41
  rw [hS, if_neg (fun z => by have := nI_inj z (by omega) (by omega); omega), rdJ_n hN.2.2.2 (by omega) (by omega)]
  simp only [Option.bind_some]
  constructor
  · intro c
    rw [if_pos c]
  · intro c
    rw [if_neg c, wrJ_n hN.2.2.2 (by omega) (by omega)]
    rfl
end Mo
