/-! A datagram is taken off its link: the class; how many requests fly. -/
section To
variable {G H : Nat → Nat → Nat} {sa : Nat → Nat} {x j kc ks : Nat} {s : cS} {t : moS} {Q : cS → Nat → Nat → Prop}
theorem c_tkout (hR : RR G H sa x s t) (hM : MV t) (hj : j < cF t) (k : ∀ s', s'.K = s.K → s'.P = s.P → s'.E = s.E → s'.J = s.J → (∀ g b, ¬ (g = 233 ∧ b = x) → s'.I g b = s.I g b) → (∀ b, b ≠ H 232 x → s'.Q b = s.Q b) → s'.I 233 x = nI (cF t - 1) → (∀ i, i < cF t - 1 → s'.Q (H 232 x) i = some (G 11 (skI j i))) → Q s' kc ks) : C_Rf_takeOut sa x (nI j) s kc ks Q := by
  have hq := hR.q.1
  have hx := hq.1.1
  have mf1 := hM.2.2.2.2.1.1
  have hF2 : cF t ≤ 256 := mf1.n.2.2
  have e123 : t.S 123 = nI (cF t) := mf1.n.1
  have p232 := hq.ty.r hx 232 133 256
  obtain ⟨⟨a1, -, -⟩, b1, -⟩ := hq.2.2.2.2.2.2
  have e0 : s.I 233 x - 1 = nI (cF t - 1) := by
    rw [a1, e123, show nI (cF t) = nI (cF t - 1) + 1 by rw [nI_1]; congr 1; omega, Int32.add_sub_cancel]
  unfold C_Rf_takeOut
  refine ⟨_, gd_to (okr hx 11), _, gd_to (okr hx 11), ?_⟩
  rw [show s.I (20 * 11 + 13) x - 1 = nI (cF t - 1) from e0]
  unfold C_Rf_takeOut_b12
  intro P hP
  have loop : ∀ d i (u : cS), i + d = cF t - 1 → j ≤ i → u.K = s.K → u.P = s.P → u.E = s.E → u.J = s.J → (∀ g b, ¬ (g = 233 ∧ b = x) → u.I g b = s.I g b) → (∀ b, b ≠ H 232 x → u.Q b = s.Q b) → u.I 233 x = nI (cF t - 1) → (∀ y, u.Q (H 232 x) y = if y < i then (if y < j then s.Q (H 232 x) y else s.Q (H 232 x) (y + 1)) else s.Q (H 232 x) y) → P (nI i) u kc ks := by
    intro d
    induction d with
    | zero =>
      intro i u hi hji k1 k2 k3 k4 k5 k6 k7 k8
      have ei : i = cF t - 1 := by omega
      apply hP
      unfold C_Rf_takeOut_s12
      have o11 : okO u 11 x := okr (show (u.K x).1 = 30 by rw [k1]; exact hx) 11
      refine ⟨_, gd_to o11, ?_⟩
      rw [show u.I (20 * 11 + 13) x = nI (cF t - 1) from k7]
      refine ifF (nI_nlt (by omega) (by omega)) (k u k1 k2 k3 k4 k5 k6 k7 fun y hy => ?_)
      rw [k8, if_pos (by omega)]
      unfold skI
      by_cases c : y < j
      · rw [if_pos c, if_pos c]; exact (b1 y (by omega)).1
      · rw [if_neg c, if_neg c]; exact (b1 (y + 1) (by omega)).1
    | succ d ih =>
      intro i u hi hji k1 k2 k3 k4 k5 k6 k7 k8
      have hxu : (u.K x).1 = 30 := by rw [k1]; exact hx
      have o11 : okO u 11 x := okr hxu 11
      have q232 : u.P 232 x = some (H 232 x) := by rw [k2]; exact p232.1
      have K232 : u.K (H 232 x) = (133, 256) := by rw [k1]; exact p232.2
      have v1 : u.Q (H 232 x) (i + 1) = some (G 11 (i + 1)) := by
        rw [k8, if_neg (by omega)]
        exact (b1 (i + 1) (by omega)).1
      have kd : (u.K (G 11 (i + 1))).1 = 6 := by rw [k1]; exact (b1 (i + 1) (by omega)).2.1
      apply hP
      unfold C_Rf_takeOut_s12
      refine ⟨_, gd_to o11, ?_⟩
      rw [show u.I (20 * 11 + 13) x = nI (cF t - 1) from k7]
      refine ifT (nI_lt (by omega) (by omega)) ⟨_, gd_to o11, _, gd_to o11, _, q232, some (G 11 (i + 1)), ?_, H 232 x, q232, _, gd_to ⟨⟨by rw [K232]; decide, by rw [K232]; decide, by rw [K232]; exact vp_in_nI (by omega) (by decide)⟩, by rw [K232]; decide, fun b hb => by cases hb; rw [K232]; exact okr kd 2⟩, ?_⟩
      · rw [nI_1]
        exact rd_Q K232 (by decide) (by omega) (by decide) v1
      · rw [nI_1, nI_clamp (show i < 2 ^ 31 by omega)]
        refine ih (i + 1) (cSQ u (H 232 x) i (some (G 11 (i + 1)))) (by omega) (by omega) k1 k2 k3 k4 k5 (fun b hb => (cSQ_a hb).trans (k6 b hb)) k7 fun y => ?_
        rw [cSQ_s]
        show (if y = i then some (G 11 (i + 1)) else u.Q (H 232 x) y) = _
        by_cases c : y = i
        · rw [if_pos c, if_pos (by omega), if_neg (by omega), c]
          exact (b1 (i + 1) (by omega)).1.symm
        · rw [if_neg c, k8]
          by_cases c2 : y < i
          · rw [if_pos c2, if_pos (show y < i + 1 by omega)]
          · rw [if_neg c2, if_neg (show ¬ y < i + 1 by omega)]
  refine loop (cF t - 1 - j) j (cSI s 233 x (nI (cF t - 1))) (by omega) (Nat.le_refl _) rfl rfl rfl rfl (fun g b hg => by rw [evI, if_neg hg]) (fun b _ => rfl) cSI_s fun y => ?_
  show s.Q (H 232 x) y = _
  by_cases c : y < j
  · rw [if_pos c, if_pos c]
  · rw [if_neg c]
end To
/-- a sum without one of its numbers -/
theorem sm_sk {f : Nat → Nat} {j : Nat} : ∀ n, j ≤ n → sm f (n + 1) = sm (fun i => f (skI j i)) n + f j
  | 0, h => by
    have : j = 0 := by omega
    subst this
    rfl
  | n + 1, h => by
    by_cases c : j = n + 1
    · subst c
      have e : sm (fun i => f (skI (n + 1) i)) (n + 1) = sm f (n + 1) := sm_e fun i hi => by
        show f (skI (n + 1) i) = f i
        unfold skI
        rw [if_pos hi]
      rw [e]
      rfl
    · have ih := sm_sk (f := f) (j := j) n (by omega)
      show sm f (n + 1) + f (n + 1) = sm (fun i => f (skI j i)) n + f (skI j n) + f j
      have e : skI j n = n + 1 := by unfold skI; rw [if_neg (by omega)]
      rw [e, ih]
      omega
theorem rqC_sm {t : moS} : ∀ n, rqC t n = sm (fun i => if t.I 138 (700 * pl t i) = 1 then 1 else 0) n
  | 0 => rfl
  | n + 1 => by
    show rqC t n + _ = _
    rw [rqC_sm n]
    rfl
/-- a datagram more off its link: a request less, if it is one -/
theorem rq_off {t t' : moS} {j : Nat} (hM : MV t) (hj : j < cF t) (o : ofT j t t') (e138 : t'.I 138 = t.I 138) : rqN t = rqN t' + if t.I 138 (700 * pl t j) = 1 then 1 else 0 := by
  obtain ⟨-, o1, o2, -⟩ := o
  have hF2 : cF t ≤ 256 := hM.2.2.2.2.1.1.n.2.2
  have eF : cF t' = cF t - 1 := by unfold cF; rw [o1, nI_clamp (by omega)]
  unfold rqN
  rw [rqC_sm, rqC_sm, eF]
  obtain ⟨n, hn⟩ : ∃ n, cF t = n + 1 := ⟨cF t - 1, by omega⟩
  rw [hn, Nat.add_sub_cancel, sm_sk (j := j) n (by omega)]
  congr 1
  refine sm_e fun i hi => ?_
  show (if t.I 138 (700 * pl t (skI j i)) = 1 then 1 else 0) = if t'.I 138 (700 * pl t' i) = 1 then 1 else 0
  have : pl t' i = pl t (skI j i) := by unfold pl; rw [o2 i (by omega)]
  rw [this, e138]
/-- what was sent is paid by the requests that are gone -/
def SQr (t t' : moS) : Prop := ∀ j, j < 10 → ∃ d, t'.I 23 j = t.I 23 j + nI d ∧ d + 5310 * rqN t' ≤ 5310 * rqN t
theorem SQr.rf {t : moS} : SQr t t := fun j _ => ⟨0, by rw [show nI 0 = 0 from rfl, Int32.add_zero], by omega⟩
theorem SQr.tr {t t1 t2 : moS} (a : SQr t t1) (b : SQr t1 t2) : SQr t t2 := fun j hj => by
  obtain ⟨d, e, h⟩ := a j hj
  obtain ⟨d', e', h'⟩ := b j hj
  exact ⟨d + d', by rw [e', e, Int32.add_assoc, nI_add], by omega⟩
