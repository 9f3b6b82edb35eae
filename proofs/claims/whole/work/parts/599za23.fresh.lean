/-! A number that came with a key is not older: the class. -/
/-- a row twice as long -/
def wdV (u cap : Nat) (f : Nat → Int32) : Ov := ((u, 2 * cap), fun _ => 0, fun _ => 0, fun _ => none, fun i => if i < cap then f i else 0, fun _ => none)
section Fs
variable {sa : Nat → Nat} {c w1 w2 w u cap n kc ks b1 : Nat} {s : cS} {a num : Int32}
theorem w_wide {Q : Option Nat → cS → Nat → Nat → Prop} (hK : s.K w = (u, cap)) (hu : 100 ≤ u ∧ u < 130 ∧ cAT u = .int) (hc : cap ≤ 8192) (h1 : 1 ≤ kc) (h2 : 2 * cap ≤ ks) (k : ∀ q s', HP sa s [(q, wdV u cap (s.E w))] s' → Q (some q) s' (kc - 1) (ks - 2 * cap)) : C_Po_widened sa (some w) s kc ks Q := by
  unfold C_Po_widened
  refine ⟨w, rfl, _, gd_to ⟨by rw [hK]; exact hu.1, by rw [hK]; show u < 160; omega⟩, ?_⟩
  dsimp only
  rw [show nI (s.K w).2 * 2 = nI (2 * cap) by rw [hK]; show nI cap * 2 = _; rw [show (2 : Int32) = nI 2 from rfl, nI_mul, Nat.mul_comm]]
  refine hq_nwA (u := u) hp_rf (by omega) h1 h2 (fun q s1 e => ?_) hu
  obtain ⟨z1, z2, z3⟩ := hp_at (L1 := []) e
  have nw : w ≠ q := fun z => by
    have := z2.1
    rw [← z, hK] at this
    have hu1 := hu.1
    have this : u = 0 := this
    omega
  have ow : ov s1 w = ov s w := e.1 w (fun p hp => by rw [List.mem_singleton.mp hp]; exact fun z => nw z.symm)
  have kw : s1.K w = (u, cap) := by rw [ov_K ow]; exact hK
  have kq : s1.K q = (u, 2 * cap) := ov_K z1
  have ew : s1.E w = s.E w := by rw [ov_E ow]; rfl
  have em : (nI cap).toNatClampNeg = cap := nI_clamp (by omega)
  refine ⟨_, gd_to ⟨by rw [kw]; exact hu.1, by rw [kw]; show u < 160; omega⟩, ?_⟩
  rw [show nI (s1.K w).2 = nI cap by rw [kw]]
  refine ⟨_, gd_to ⟨by rw [kw]; exact ⟨hu.1, hu.2.1⟩, by rw [kq]; exact ⟨hu.1, hu.2.1⟩, by rw [kw, kq], by decide, by decide, nI_pos (by omega), by rw [em, kw]; show 0 + cap ≤ cap; omega, by rw [em, kq]; show 0 + cap ≤ 2 * cap; omega, fun i hi => ?_⟩, k q _ ?_⟩
  · rw [kw, hu.2.2]
    rfl
  · refine hp_up (L1 := []) e (fun b hb => ?_) ?_ (by show u ≠ 0; omega)
    · refine ov_eq rfl (fun _ => rfl) (fun _ => rfl) (fun _ => rfl) (if_neg hb) rfl
    · show (s1.K q, (fun g => s1.I g q), (fun g => s1.J g q), (fun g => s1.P g q), (if q = q then va_cpy (s1.E w) (s1.E q) 0 0 (nI cap).toNatClampNeg else s1.E q), s1.Q q) = wdV u cap (s.E w)
      rw [if_pos rfl, em, ew, kq, funext (fun g => ov_I z1 g), funext (fun g => ov_P z1 g), ov_Q z1, ov_E z1]
      have ej : (fun g => s1.J g q) = fun _ => 0 := by
        have := congrArg (fun y : Ov => y.2.2.1) z1
        exact this
      rw [ej]
      unfold wdV
      refine congrArg (fun y => ((u, 2 * cap), (fun _ => (0 : Int32)), (fun _ => (0 : Int64)), (fun _ => none), y, (fun _ => none))) (funext fun i => ?_)
      show (if 0 ≤ i ∧ i < 0 + cap then s.E w (0 + (i - 0)) else 0) = if i < cap then s.E w i else 0
      rw [Nat.zero_add, Nat.zero_add, Nat.sub_zero]
      by_cases z : i < cap
      · rw [if_pos ⟨Nat.zero_le _, z⟩, if_pos z]
      · rw [if_neg (fun y => z y.2), if_neg z]
theorem w_frW {Q : Int32 → cS → Nat → Nat → Prop} {i : Nat} (kc8 : (s.K c).1 = 8) (p1 : s.P 96 c = some w1) (p2 : s.P 97 c = some w2) (k1 : s.K w1 = (115, cap)) (k2 : s.K w2 = (120, cap)) (hi : i < cap) (hn : n < 2 ^ 31) (hc : cap ≤ 16384) (i98 : s.I 98 c = nI n) (k : Q 1 (cSI (cSE (cSE s w1 i a) w2 i num) 98 c (nI (max n (i + 1)))) kc ks) : C_Po_isFresh_b103 sa c num a (nI i) s kc ks Q := by
  have oc := okr kc8 4
  unfold C_Po_isFresh_b103
  refine ⟨_, gd_to oc, w1, p1, _, wr_E k1 (by decide) hi (by omega), _, gd_to oc, w2, p2, _, wr_E (s := cSE s w1 i a) k2 (by decide) hi (by omega), _, gd_to oc, _, gd_to oc, ?_⟩
  show Q 1 (cSI (cSE (cSE s w1 i a) w2 i num) 98 c (mxI (s.I 98 c) (nI i + 1))) kc ks
  rw [i98, show nI i + 1 = nI (i + 1) from nI_1 i, mxI_n _ _ hn (by omega)]
  exact k
theorem w_fresh {Q : Int32 → cS → Nat → Nat → Prop} {h : Int64} (kc8 : (s.K c).1 = 8) (p1 : s.P 96 c = some w1) (p2 : s.P 97 c = some w2) (k1 : s.K w1 = (115, cap)) (k2 : s.K w2 = (120, cap)) (hn : n ≤ cap) (hc4 : 4 ≤ cap) (hc : cap ≤ 8192) (i98 : s.I 98 c = nI n) (hb1 : okO s 5 b1) (hh : s.J 101 b1 = h) (ha : a = Int64.toInt32 (ush h 32))
    (kA : ∀ i, i < n → s.E w1 i = a → ((Int32.toInt64 num) &&& (4294967295 : Int64)) < ((Int32.toInt64 (s.E w2 i)) &&& (4294967295 : Int64)) → Q 0 s kc ks)
    (kB : ∀ i, i < n → s.E w1 i = a → ¬ ((Int32.toInt64 num) &&& (4294967295 : Int64)) < ((Int32.toInt64 (s.E w2 i)) &&& (4294967295 : Int64)) → Q 1 (cSI (cSE (cSE s w1 i a) w2 i num) 98 c (nI n)) kc ks)
    (kC : (∀ i, i < n → s.E w1 i ≠ a) → n < cap → Q 1 (cSI (cSE (cSE s w1 n a) w2 n num) 98 c (nI (n + 1))) kc ks)
    (kD : (∀ i, i < n → s.E w1 i ≠ a) → n = cap → 2 ≤ kc ∧ 4 * cap ≤ ks ∧ ∀ q1 s1 q2 s2, HP sa s [(q1, wdV 115 cap (s.E w1))] s1 → HP sa (cSP s1 96 c (some q1)) [(q2, wdV 120 cap (s.E w2))] s2 → Q 1 (cSI (cSE (cSE (cSP s2 97 c (some q2)) q1 n a) q2 n num) 98 c (nI (n + 1))) (kc - 2) (ks - 4 * cap)) : C_Po_isFresh sa c (some b1) num s kc ks Q := by
  have oc := okr kc8 4
  have kn0 : (s.K c).1 ≠ 0 := by rw [kc8]; decide
  unfold C_Po_isFresh
  refine ⟨b1, rfl, _, gd_to hb1, ?_⟩
  rw [show s.J (20 * 5 + 1) b1 = h from hh]
  dsimp only
  rw [show Int64.toInt32 (ush_L h 32) = a from ha.symm]
  unfold C_Po_isFresh_b12
  intro P hP
  have lastB : (∀ i, i < n → s.E w1 i ≠ a) → C_Po_isFresh_b71 sa c num a (nI n) s kc ks Q := fun no => by
    unfold C_Po_isFresh_b71
    refine ⟨_, gd_to oc, w1, p1, _, gd_to ⟨by rw [k1]; show 100 ≤ 115; decide, by rw [k1]; show 115 < 160; decide⟩, ?_⟩
    rw [show nI (s.K w1).2 = nI cap by rw [k1]]
    by_cases z : n < cap
    · refine ifT (nI_lt z (by omega)) (w_frW (n := n) kc8 p1 p2 k1 k2 z (by omega) (by omega) i98 ?_)
      rw [show max n (n + 1) = n + 1 by omega]
      exact kC no z
    · have z : n = cap := by omega
      obtain ⟨g1, g2, g3⟩ := kD no z
      refine ifF (nI_nlt (by omega) (by omega)) ⟨_, gd_to oc, ?_⟩
      rw [show s.P (20 * 4 + 16) c = some w1 from p1]
      refine w_wide k1 (by decide) (by omega) (by omega) (by omega) fun q1 s1 e1 => ?_
      obtain ⟨y1, y2, y3⟩ := hp_at (L1 := []) e1
      have nq : ∀ b, (s.K b).1 ≠ 0 → b ≠ q1 := fun b hb z => hb (by rw [z]; exact y2.1)
      have o1 : ∀ b, (s.K b).1 ≠ 0 → ov s1 b = ov s b := fun b hb => e1.1 b (fun p hp => by rw [List.mem_singleton.mp hp]; exact fun z => nq b hb z.symm)
      have kc1 : (s1.K c).1 = 8 := by rw [ov_K (o1 c kn0)]; exact kc8
      have oc1 := okr kc1 4
      have kw2 : (s.K w2).1 ≠ 0 := by rw [k2]; show 120 ≠ 0; decide
      refine ⟨_, gd_to oc1, _, gd_to (show okO (cSP s1 (20 * 4 + 16) c (some q1)) 4 c from oc1), ?_⟩
      have p97 : (cSP s1 96 c (some q1)).P 97 c = some w2 := by
        rw [cSP_g (by decide), ov_P (o1 c kn0)]
        exact p2
      rw [show (cSP s1 (20 * 4 + 16) c (some q1)).P (20 * 4 + 17) c = some w2 from p97]
      have k2' : (cSP s1 96 c (some q1)).K w2 = (120, cap) := by
        show s1.K w2 = _
        rw [ov_K (o1 w2 kw2)]
        exact k2
      refine w_wide k2' (by decide) (by omega) (by omega) (by omega) fun q2 s2 e2 => ?_
      have e2w : (cSP s1 96 c (some q1)).E w2 = s.E w2 := by
        show s1.E w2 = _
        rw [ov_E (o1 w2 kw2)]
        rfl
      rw [e2w] at e2
      obtain ⟨x1, x2, x3⟩ := hp_at (L1 := []) e2
      have o2 : ∀ b, (s1.K b).1 ≠ 0 → ov s2 b = ov (cSP s1 96 c (some q1)) b := fun b hb => e2.1 b (fun p hp => by
        rw [List.mem_singleton.mp hp]
        exact fun z => hb (by rw [← z]; exact x2.1))
      have kc2 : (s2.K c).1 = 8 := by rw [ov_K (o2 c (by rw [kc1]; decide))]; exact kc1
      have oc2 := okr kc2 4
      have q1K : s1.K q1 = (115, 2 * cap) := ov_K y1
      have q2K : s2.K q1 = (115, 2 * cap) := by
        rw [ov_K (o2 q1 (by rw [q1K]; show 115 ≠ 0; decide))]
        exact q1K
      refine ⟨_, gd_to oc2, ?_⟩
      refine w_frW (s := cSP s2 97 c (some q2)) (w1 := q1) (w2 := q2) (cap := 2 * cap) (n := n) kc2 ?_ cSP_s q2K (ov_K x1) (by omega) (by omega) (by omega) ?_ ?_
      · rw [cSP_g (by decide), ov_P (o2 c (by rw [kc1]; decide))]
        show (cSP s1 96 c (some q1)).P 96 c = some q1
        exact cSP_s
      · show s2.I 98 c = _
        rw [ov_I (o2 c (by rw [kc1]; decide))]
        show s1.I 98 c = _
        rw [ov_I (o1 c kn0)]
        exact i98
      · rw [show max n (n + 1) = n + 1 by omega, show kc - 1 - 1 = kc - 2 by omega, show ks - 2 * cap - 2 * cap = ks - 4 * cap by omega]
        exact g3 q1 s1 q2 s2 e1 e2
  have loop : ∀ m j, j + m = n → (∀ i, i < j → s.E w1 i ≠ a) → P (nI j) s kc ks := by
    intro m
    induction m with
    | zero =>
      intro j hj no
      have hj : j = n := by omega
      subst hj
      refine hP _ _ _ _ ?_
      unfold C_Po_isFresh_s12
      refine ⟨_, gd_to oc, ?_⟩
      rw [show s.I (20 * 4 + 18) c = nI j from i98]
      refine ifF (nI_nlt (by omega) (by omega)) ?_
      unfold C_Po_isFresh_b38
      refine ⟨_, gd_to oc, ?_⟩
      rw [show s.I (20 * 4 + 18) c = nI j from i98]
      exact ifF (nI_nlt (by omega) (by omega)) (lastB no)
    | succ m ih =>
      intro j hj no
      refine hP _ _ _ _ ?_
      unfold C_Po_isFresh_s12
      refine ⟨_, gd_to oc, ?_⟩
      rw [show s.I (20 * 4 + 18) c = nI n from i98]
      refine ifT (nI_lt (by omega) (by omega)) ⟨_, gd_to oc, w1, p1, _, rd_E k1 (by decide) (show j < cap by omega) (by omega) rfl, ?_⟩
      by_cases z : s.E w1 j = a
      · refine ifT z ?_
        unfold C_Po_isFresh_b38
        refine ⟨_, gd_to oc, ?_⟩
        rw [show s.I (20 * 4 + 18) c = nI n from i98]
        refine ifT (nI_lt (by omega) (by omega)) ⟨_, gd_to oc, w2, p2, _, rd_E k2 (by decide) (show j < cap by omega) (by omega) rfl, ?_⟩
        by_cases y : ((Int32.toInt64 num) &&& (4294967295 : Int64)) < ((Int32.toInt64 (s.E w2 j)) &&& (4294967295 : Int64))
        · exact ifT y (kA j (by omega) z y)
        · refine ifF y ?_
          unfold C_Po_isFresh_b71
          refine ⟨_, gd_to oc, w1, p1, _, gd_to ⟨by rw [k1]; show 100 ≤ 115; decide, by rw [k1]; show 115 < 160; decide⟩, ?_⟩
          rw [show nI (s.K w1).2 = nI cap by rw [k1]]
          refine ifT (nI_lt (by omega) (by omega)) (w_frW (n := n) kc8 p1 p2 k1 k2 (by omega) (by omega) (by omega) i98 ?_)
          rw [show max n (j + 1) = n by omega]
          exact kB j (by omega) z y
      · refine ifF z ?_
        rw [show nI j + 1 = nI (j + 1) from nI_1 j]
        refine ih (j + 1) (by omega) fun i hi => ?_
        by_cases w : i = j
        · rw [w]; exact z
        · exact no i (by omega)
  exact loop n 0 (by omega) (fun i hi => absurd hi (by omega))
end Fs
