/-! Numbers among the words, on both sides. -/
/-- a number of at most six digits -/
def nmb (u : Nat → Nat) (a n : Nat) : Option Nat := if n ≤ 6 then dgs u n a 0 else none
/-- one from lo to hi -/
def nmR (o : Option Nat) (lo hi : Nat) : Option Nat := match o with
  | some v => if lo ≤ v ∧ v ≤ hi then some v else none
  | none => none
theorem nmb_lt {u : Nat → Nat} {a n v : Nat} (h : nmb u a n = some v) : v < 1000000 := by
  unfold nmb at h
  split at h
  · have h1 := dgs_lt u _ _ _ _ h
    have h2 : (10 : Nat) ^ n ≤ 10 ^ 6 := Nat.pow_le_pow_right (by decide) (by assumption)
    omega
  · cases h
section Nu
variable {H : Nat → Nat → Nat} {sa : Nat → Nat} {rd x kc ks : Nat} {s : cS} {l : List Int32} {ws : List (Nat × Nat)} {Q : Int32 → cS → Nat → Nat → Prop}
theorem w_number (h : RdC H x rd s l ws) {i lo hi : Nat} (hi31 : i < 2 ^ 31) (hlo : lo < 2 ^ 31) (hhi : hi < 2 ^ 31) (k1 : i < ws.length → i < 24 → Q (oI (nmR (nmb (vc l) (ws.getD i (0, 0)).1 ((ws.getD i (0, 0)).2 - (ws.getD i (0, 0)).1)) lo hi)) s kc ks) (k0 : ¬ (i < ws.length ∧ i < 24) → Q (-1) s kc ks) : C_Re_number sa rd (nI i) (nI lo) (nI hi) s kc ks Q := by
  unfold C_Re_number
  refine ⟨h.2.1.1, w_isWord h hi31 (fun c1 c2 => ?_) (fun c => ifT rfl (k0 c))⟩
  obtain ⟨⟨cap, hb⟩, -, -, -, -, -, hv, -⟩ := id h
  have hs := hb.sm
  obtain ⟨v1, v2⟩ := hv i c1
  have k1 := k1 c1 c2
  refine ifF (by decide) (w_bb h c1 c2 (w_ba h c1 c2 ?_))
  generalize hA : (ws.getD i (0, 0)).1 = a at v1 k1
  generalize hB : (ws.getD i (0, 0)).2 = b at v1 v2 k1
  rw [pk_sub (by omega)]
  by_cases c6 : 6 < b - a
  · refine ifT (nI_lt (a := 6) c6 (by omega)) ?_
    rw [show nmb (vc l) a (b - a) = none from if_neg (by omega)] at k1
    exact k1
  refine ifF (nI_nlt (a := 6) (by omega) (by omega)) (w_ba h c1 c2 ?_)
  rw [hA]
  have hR : nmb (vc l) a (b - a) = dgs (vc l) (b - a) a 0 := if_pos (by omega)
  rw [hR] at k1
  unfold C_Re_number_b39
  intro P hP
  have loop : ∀ q j v, j + q = b → a ≤ j → q ≤ 6 → v < 10 ^ (6 - q) → dgs (vc l) q j v = dgs (vc l) (b - a) a 0 → P (nI v) (nI j) s kc ks := by
    intro q
    induction q with
    | zero =>
      intro j v hj _ _ hlt hp
      have hlt : v < 1000000 := hlt
      have hp : some v = dgs (vc l) (b - a) a 0 := hp
      rw [← hp] at k1
      apply hP
      unfold C_Re_number_s39
      refine w_bb h c1 c2 ?_
      rw [hB]
      refine ifF (nI_nlt (by omega) (by omega)) ?_
      have k1 : Q (oI (if lo ≤ v ∧ v ≤ hi then some v else none)) s kc ks := k1
      by_cases cl : v < lo
      · rw [if_neg (by omega)] at k1
        exact ifT (nI_lt cl hlo) k1
      refine ifF (nI_nlt (by omega) (by omega)) ?_
      by_cases ch : hi < v
      · rw [if_neg (by omega)] at k1
        exact ifT (nI_lt ch (by omega)) k1
      · rw [if_pos (by omega)] at k1
        exact ifF (nI_nlt (by omega) hhi) k1
    | succ q ih =>
      intro j v hj haj hq hlt hp
      have e3 : 10 ^ (6 - q) = 10 * 10 ^ (6 - (q + 1)) := by rw [show 6 - q = (6 - (q + 1)) + 1 by omega, Nat.pow_succ, Nat.mul_comm]
      have hvl := vc_lt l j
      have hp : (if 48 ≤ vc l j ∧ vc l j ≤ 57 then dgs (vc l) q (j + 1) (10 * v + (vc l j - 48)) else none) = dgs (vc l) (b - a) a 0 := hp
      apply hP
      unfold C_Re_number_s39
      refine w_bb h c1 c2 ?_
      rw [hB]
      obtain ⟨-, ⟨o1, o2⟩, ⟨p1, p2⟩, -⟩ := id h
      refine ifT (nI_lt (by omega) (by omega)) ⟨_, gd_to o1, _, p1, _, gd_to o2, _, p2, hb.1, w_at hb (by omega) ?_⟩
      by_cases d1 : vc l j < 48
      · rw [if_neg (by omega)] at hp
        rw [← hp] at k1
        exact ifT (pk_sneg (b := 48) (by decide) d1) k1
      rw [show nI (vc l j) - 48 = nI (vc l j - 48) from pk_sub (b := 48) (by omega)]
      refine ifF (nI_pos (by omega)) ?_
      by_cases d2 : 57 < vc l j
      · rw [if_neg (by omega)] at hp
        rw [← hp] at k1
        exact ifT (nI_lt (a := 9) (by omega) (by omega)) k1
      · rw [if_pos (by omega)] at hp
        refine ifF (nI_nlt (a := 9) (by omega) (by omega)) ?_
        rw [show nI v * 10 = nI (10 * v) by rw [Nat.mul_comm]; exact pk_mul v 10, nI_add, nI_1]
        exact ih (j + 1) _ (by omega) (by omega) (by omega) (by omega) hp
  exact loop (b - a) a 0 (by omega) (Nat.le_refl _) (by omega) (Nat.pow_pos (by decide)) rfl
end Nu
section Nm
variable {t : moS} {u : Nat → Nat} {n : Nat}
theorem m_number (hu : uT t u n) (h9 : t.N 9 = 2100) (h10 : t.N 10 = 2100) {ws : List (Nat × Nat)} (hw : mWw t ws) {i a b : Nat} (hi : i < ws.length) (hi2 : i < 2100) (hab : ws.getD i (0, 0) = (a, b)) (h1 : a < b) (h2 : b ≤ n) : M_number t (nI i) = some (oI (nmb u a (b - a))) := by
  have hn := hu.1
  have hu1 := hu.2.1
  obtain ⟨e9, e10⟩ := hw.2 i hi
  rw [hab] at e9 e10
  have e9 : t.I 9 i = nI a := e9
  have e10 : t.I 10 i = nI (b - a) := e10
  have r9 : rdI t 9 (nI i) = some (nI a) := by rw [rdI_n (n := 2100) h9 hi2 (by decide), e9]
  have r10 : rdI t 10 (nI i) = some (nI (b - a)) := by rw [rdI_n (n := 2100) h10 hi2 (by decide), e10]
  have hm : 1 ≤ b - a := by omega
  have hmn : a + (b - a) ≤ n := by omega
  generalize b - a = m at hm hmn e10 r10
  unfold M_number M_number_b4
  -- one step
  have head : ∀ k v Y, k < m → (if M_isDigit (nI (u (a + k))) = 0 then xo (some (-1 : Int32)) else if 6 < nI m then xo (some (-1 : Int32)) else some (.inl (10 * nI v + nI (u (a + k)) - 48, nI k + 1))) = Y → M_number_s4 t (nI i) (nI v) (nI k) = Y := by
    intro k v Y hk h
    unfold M_number_s4
    rw [r10]
    show (if nI k < nI m then _ else _) = _
    rw [if_pos (nI_lt hk (by omega)), r9]
    show Option.bind (rdI t 2 (nI a + nI k)) _ = _
    rw [nI_add, hu.2.2 (a + k) (by omega)]
    exact h
  by_cases c6 : 6 < m
  · rw [show nmb u a m = none from if_neg (by omega)]
    refine lp_x ?_
    show M_number_s4 t (nI i) (nI 0) (nI 0) = _
    refine head 0 0 _ (by omega) ?_
    rw [if_pos (show 6 < nI m from nI_lt (a := 6) c6 (by omega))]
    split <;> rfl
  have hR : nmb u a m = dgs u m a 0 := if_pos (by omega)
  rw [hR]
  have loop : ∀ q k v, k + q = m → v < 10 ^ (6 - q) → dgs u q (a + k) v = dgs u m a 0 → lp (fun y : Int32 × Int32 => M_number_s4 t (nI i) y.1 y.2) (nI v, nI k) = some (oI (dgs u m a 0)) := by
    intro q
    induction q with
    | zero =>
      intro k v hk _ hp
      have hp : some v = dgs u m a 0 := hp
      rw [← hp]
      refine lp_x ?_
      show M_number_s4 t (nI i) (nI v) (nI k) = _
      unfold M_number_s4
      rw [r10]
      show (if nI k < nI m then _ else _) = _
      rw [if_neg (nI_nlt (by omega) (by omega))]
      rfl
    | succ q ih =>
      intro k v hk hlt hp
      have e3 : 10 ^ (6 - q) = 10 * 10 ^ (6 - (q + 1)) := by rw [show 6 - q = (6 - (q + 1)) + 1 by omega, Nat.pow_succ, Nat.mul_comm]
      have hp : (if 48 ≤ u (a + k) ∧ u (a + k) ≤ 57 then dgs u q (a + k + 1) (10 * v + (u (a + k) - 48)) else none) = dgs u m a 0 := hp
      rcases m_dig (hu1 (a + k)) with ⟨d1, d2, d3⟩ | ⟨d1, d3⟩
      · rw [if_pos ⟨d1, d2⟩] at hp
        have st : M_number_s4 t (nI i) (nI v) (nI k) = some (.inl (nI (10 * v + (u (a + k) - 48)), nI (k + 1))) := by
          refine head k v _ (by omega) ?_
          rw [if_neg (by rw [d3]; decide), if_neg (show ¬ 6 < nI m from nI_nlt (a := 6) (by omega) (by omega)), nI_1, show (10 : Int32) * nI v = nI (10 * v) from pk_mul 10 v, nI_add, show nI (10 * v + u (a + k)) - 48 = nI (10 * v + u (a + k) - 48) from pk_sub (b := 48) (by omega), show 10 * v + u (a + k) - 48 = 10 * v + (u (a + k) - 48) by omega]
        rw [lp_l (show (fun y : Int32 × Int32 => M_number_s4 t (nI i) y.1 y.2) (nI v, nI k) = _ from st)]
        exact ih (k + 1) _ (by omega) (by omega) hp
      · rw [if_neg d1] at hp
        rw [← hp]
        refine lp_x (head k v _ (by omega) ?_)
        rw [if_pos d3]
        rfl
  exact loop m 0 0 (by omega) (Nat.pow_pos (by decide)) rfl
end Nm
