/-! Least sums: the model's answer. -/
section Ms
variable {t t0 : moS} {r f : Nat} {x y : Nat → Nat} {a3 : Int32} {a4 a6 : Int64}
theorem edM_ok (hM : MV t) {r : Nat} (hr : r < cR t) : ∀ e, e ∈ edM t f r → e.1 < cR t ∧ 1 ≤ e.2 := fun e he => by
  obtain ⟨p, hp, -, h1, h2, -⟩ := (edE_mem _).1 he
  obtain ⟨c, ec, h3, h4⟩ := ((hM.r hr).i hp).2.2.1
  refine ⟨h1, ?_⟩
  rw [h2, ec, nI_clamp (by omega)]
  exact h3
/-- rounds until nothing changes -/
theorem m_142 (hM0 : MV t0) (hf : f < 2) (hl : lnOk (nI f) a3) (hr : r < cR t0) (hx : ∀ o, x o ≤ 1000) : ∀ d k (t : moS), k + d = cR t0 → mfr Wor t0 t → sumM t (itV (cR t0) 1000 (rlB t0 f a4 a6 a3) (edM t0 f) x k) → ∃ t', M_oracle_b142 t (nI r) a3 a4 a6 (nI f) 1 = some (nI (min 16 (itV (cR t0) 1000 (rlB t0 f a4 a6 a3) (edM t0 f) x (cR t0) r)), t') ∧ mfr Wor t0 t' := by
  have h6 := hM0.nR
  have fixN := it_n (n := cR t0) (B := 1000) (rl := rlB t0 f a4 a6 a3) (ed := edM t0 f) (x := x) hx (fun r hr => edM_ok hM0 hr)
  intro d
  induction d with
  | zero =>
    intro k t hk m hs
    have : k = cR t0 := by omega
    subst this
    obtain ⟨t', a', e, m', s', ha, h0, h1⟩ := m_153 (p1 := nI r) (y := itV (cR t0) 1000 (rlB t0 f a4 a6 a3) (edM t0 f) x (cR t0)) hM0 hf hl (cR t0) 0 t 0 (by omega) m hs (Or.inl rfl) (fun _ => rfl) (fun z => absurd z (by decide))
    have fx : gsV 1000 (rlB t0 f a4 a6 a3) (edM t0 f) (itV (cR t0) 1000 (rlB t0 f a4 a6 a3) (edM t0 f) x (cR t0)) (cR t0) = itV (cR t0) 1000 (rlB t0 f a4 a6 a3) (edM t0 f) x (cR t0) := fixN
    have az : a' = 0 := by
      rcases ha with z | z
      · exact z
      · obtain ⟨o, ho⟩ := h1 z
        rw [fx] at ho
        omega
    subst az
    rw [fx] at s'
    have eRt : cR t' = cR t0 := by unfold cR; rw [m'.S 37 (by decide)]
    obtain ⟨q1, q2⟩ := s' r (by omega)
    have Mt : MV t' := hM0.fr m' rfl (hM0.1.fr m' rfl)
    refine ⟨t', ?_, m'⟩
    unfold M_oracle_b142
    refine Eq.trans (lp_l (f := fun z : Int32 × moS => M_oracle_s142 z.2 (nI r) a3 a4 a6 (nI f) z.1) (x := (1, t)) (y := (0, t')) ?_) (lp_x ?_)
    · show M_oracle_s142 t (nI r) a3 a4 a6 (nI f) 1 = _
      unfold M_oracle_s142
      rw [if_neg (by decide)]
      exact e
    · show M_oracle_s142 t' (nI r) a3 a4 a6 (nI f) 0 = _
      unfold M_oracle_s142
      rw [if_pos rfl, rdJ_n (n := 6) (Mt.n.n 161 6) (by omega) (by decide), Option.bind_some, q1]
      generalize itV (cR t0) 1000 (rlB t0 f a4 a6 a3) (edM t0 f) x (cR t0) r = v at q2 ⊢
      by_cases c : 15 < v
      · rw [if_pos (show (15 : Int64) < Int64.ofNat v from (L_lt (A := 15) (by omega) (by omega)).2 c), Nat.min_eq_left (by omega)]
        rfl
      · rw [if_neg (show ¬ (15 : Int64) < Int64.ofNat v from fun z => c ((L_lt (A := 15) (by omega) (by omega)).1 z)), Option.bind_some, L_toI, Nat.min_eq_right (by omega)]
  | succ d ih =>
    intro k t hk m hs
    obtain ⟨t', a', e, m', s', ha, h0, h1⟩ := m_153 (p1 := nI r) (y := itV (cR t0) 1000 (rlB t0 f a4 a6 a3) (edM t0 f) x k) hM0 hf hl (cR t0) 0 t 0 (by omega) m hs (Or.inl rfl) (fun _ => rfl) (fun z => absurd z (by decide))
    have st : M_oracle_s142 t (nI r) a3 a4 a6 (nI f) 1 = some (.inl (a', t')) := by
      unfold M_oracle_s142
      rw [if_neg (by decide)]
      exact e
    rcases ha with az | az
    · subst az
      have fx : itV (cR t0) 1000 (rlB t0 f a4 a6 a3) (edM t0 f) x (k + 1) = itV (cR t0) 1000 (rlB t0 f a4 a6 a3) (edM t0 f) x k := h0 rfl
      have eN := it_st fx (cR t0 - k)
      rw [show k + (cR t0 - k) = cR t0 by omega] at eN
      have s' : sumM t' (itV (cR t0) 1000 (rlB t0 f a4 a6 a3) (edM t0 f) x (k + 1)) := s'
      rw [fx] at s'
      have eRt : cR t' = cR t0 := by unfold cR; rw [m'.S 37 (by decide)]
      obtain ⟨q1, q2⟩ := s' r (by omega)
      have Mt : MV t' := hM0.fr m' rfl (hM0.1.fr m' rfl)
      refine ⟨t', ?_, m'⟩
      rw [eN]
      unfold M_oracle_b142
      refine Eq.trans (lp_l (f := fun z : Int32 × moS => M_oracle_s142 z.2 (nI r) a3 a4 a6 (nI f) z.1) (x := (1, t)) (y := (0, t')) st) (lp_x ?_)
      show M_oracle_s142 t' (nI r) a3 a4 a6 (nI f) 0 = _
      unfold M_oracle_s142
      rw [if_pos rfl, rdJ_n (n := 6) (Mt.n.n 161 6) (by omega) (by decide), Option.bind_some, q1]
      generalize itV (cR t0) 1000 (rlB t0 f a4 a6 a3) (edM t0 f) x k r = v at q2 ⊢
      by_cases c : 15 < v
      · rw [if_pos (show (15 : Int64) < Int64.ofNat v from (L_lt (A := 15) (by omega) (by omega)).2 c), Nat.min_eq_left (by omega)]
        rfl
      · rw [if_neg (show ¬ (15 : Int64) < Int64.ofNat v from fun z => c ((L_lt (A := 15) (by omega) (by omega)).1 z)), Option.bind_some, L_toI, Nat.min_eq_right (by omega)]
    · subst az
      obtain ⟨t2, e2, m2⟩ := ih (k + 1) t' (by omega) m' s'
      refine ⟨t2, ?_, m2⟩
      unfold M_oracle_b142 at e2 ⊢
      exact Eq.trans (lp_l (f := fun z : Int32 × moS => M_oracle_s142 z.2 (nI r) a3 a4 a6 (nI f) z.1) (x := (1, t)) (y := (1, t')) st) e2
/-- what every router has of its own -/
theorem m_76 (hM0 : MV t0) (hf : f < 2) (hl : lnOk (nI f) a3) {p1 : Int32} : ∀ d k (t : moS), k + d = cR t0 → mfr Wor t0 t → (∀ o, o < k → t.J 161 o = Int64.ofNat (oSu t0 f a4 a6 a3 o) ∧ oSu t0 f a4 a6 a3 o ≤ 1000) → ∃ t', M_oracle_b76 t p1 a3 a4 a6 (nI f) (nI k) = M_oracle_b142 t' p1 a3 a4 a6 (nI f) 1 ∧ mfr Wor t0 t' ∧ sumM t' (oSu t0 f a4 a6 a3) := by
  have h6 := hM0.nR
  have e37 : t0.S 37 = nI (cR t0) := hM0.1.2.2.2.2.2.2.2.n.1
  intro d
  induction d with
  | zero =>
    intro k t hk m hs
    have : k = cR t0 := by omega
    subst this
    refine ⟨t, ?_, m, fun o ho => hs o (by unfold cR at ho ⊢; rw [m.S 37 (by decide)] at ho; exact ho)⟩
    unfold M_oracle_b76
    refine lp_x ?_
    show M_oracle_s76 t p1 a3 a4 a6 (nI f) (nI (cR t0)) = _
    unfold M_oracle_s76
    rw [m.S 37 (by decide), e37, if_neg (nI_nlt (Nat.le_refl _) (by omega))]
  | succ d ih =>
    intro k t hk m hs
    have hk' : k < cR t0 := by omega
    have Mt : MV t := hM0.fr m rfl (hM0.1.fr m rfl)
    have mj : mfr [161] t (moSJ t 161 k 1000) := mfr.sj (by decide)
    have m1 : mfr Wor t0 (moSJ t 161 k 1000) := m.tr (mj.wk (by decide))
    have M1 : MV (moSJ t 161 k 1000) := hM0.fr m1 rfl (hM0.1.fr m1 rfl)
    have hk1 : k < cR (moSJ t 161 k 1000) := by unfold cR; rw [m1.S 37 (by decide)]; exact hk'
    have step : ∀ {t' : moS}, M_oracle_s76 t p1 a3 a4 a6 (nI f) (nI k) = some (.inl (nI (k + 1), t')) → M_oracle_b76 t p1 a3 a4 a6 (nI f) (nI k) = M_oracle_b76 t' p1 a3 a4 a6 (nI f) (nI (k + 1)) := fun {t'} e => by
      unfold M_oracle_b76
      exact lp_l (f := fun z : Int32 × moS => M_oracle_s76 z.2 p1 a3 a4 a6 (nI f) z.1) (x := (nI k, t)) (y := (nI (k + 1), t')) e
    have head : M_oracle_s76 t p1 a3 a4 a6 (nI f) (nI k) = (if t0.I 39 k = 0 then M_oracle_b133 (moSJ t 161 k 1000) p1 a3 a4 a6 (nI f) (nI k) else bn2 (M_isDue (moSJ t 161 k 1000) (nI k) (nI f) a4 a6 a3) (fun x4 s3 => if x4 = 0 then M_oracle_b133 s3 p1 a3 a4 a6 (nI f) (nI k) else Option.bind (wrJ s3 161 (nI k) (Int32.toInt64 (s3.S 154))) (fun s5 => M_oracle_b133 s5 p1 a3 a4 a6 (nI f) (nI k)))) := by
      unfold M_oracle_s76
      rw [m.S 37 (by decide), e37, if_pos (nI_lt hk' (by omega)), wrJ_n (n := 6) (Mt.n.n 161 6) (by omega) (by decide), Option.bind_some, rdI_n (n := 6) (M1.n.n 39 6) (by omega) (by decide), Option.bind_some, m1.I 39 (by decide)]
    have keep : ∀ (t' : moS) (v : Nat), (∀ o, t'.J 161 o = if o = k then Int64.ofNat v else t.J 161 o) → v = oSu t0 f a4 a6 a3 k → v ≤ 1000 → ∀ o, o < k + 1 → t'.J 161 o = Int64.ofNat (oSu t0 f a4 a6 a3 o) ∧ oSu t0 f a4 a6 a3 o ≤ 1000 := fun t' v e1 e2 hv o ho => by
      rw [e1]
      by_cases co : o = k
      · rw [if_pos co, co, ← e2]
        exact ⟨rfl, hv⟩
      · rw [if_neg co]
        exact hs o (by omega)
    have j1 : ∀ o, (moSJ t 161 k 1000).J 161 o = if o = k then Int64.ofNat 1000 else t.J 161 o := fun o => by
      rw [evMJ]
      by_cases co : o = k
      · rw [if_pos ⟨rfl, co⟩, if_pos co]
        rfl
      · rw [if_neg (fun z => co z.2), if_neg co]
    by_cases c : t0.I 39 k = 0
    · rw [if_pos c] at head
      unfold M_oracle_b133 at head
      rw [nI_1] at head
      rw [step head]
      exact ih (k + 1) _ (by omega) m1 (keep _ 1000 j1 (oSu_n fun _ _ _ _ _ z => absurd c z).symm (Nat.le_refl _))
    · rw [if_neg c] at head
      rcases m_isDue M1 hk1 hl with ⟨dk, dm, di, dt, td, du, eD, mD, -, e154, -⟩ | ⟨nd, td, eD, mD⟩
      · have du0 : isDu t0 k (nI f) a4 a6 a3 dk dm di dt := by
          have := du
          unfold isDu upN kyS cSt cI at this ⊢
          simp only [m1.I 22 (by decide), m1.I 46 (by decide), m1.I 47 (by decide), m1.I 50 (by decide), m1.I 51 (by decide), m1.I 52 (by decide), m1.I 70 (by decide), m1.I 71 (by decide), m1.I 72 (by decide), m1.I 75 (by decide), m1.I 78 (by decide), m1.J 48 (by decide), m1.J 49 (by decide), m1.J 76 (by decide), m1.J 77 (by decide)] at this
          exact this
        have ok := isDu.ok hM0 hk' du0
        have rg : rng dm 1 15 := ok.2.1
        obtain ⟨v, ev, h1, h2⟩ := rg
        have Md : MV td := M1.fr mD rfl (M1.1.fr mD rfl)
        rw [eD, bn2_s, if_neg (by decide), e154, ev, nI_L (by omega), wrJ_n (n := 6) (Md.n.n 161 6) (by omega) (by decide), Option.bind_some] at head
        unfold M_oracle_b133 at head
        rw [nI_1] at head
        rw [step head]
        have mz : mfr [161] td (moSJ td 161 k (Int64.ofNat v)) := mfr.sj (by decide)
        refine ih (k + 1) _ (by omega) (m1.tr ((mD.wk (by decide)).tr (mz.wk (by decide)))) (keep _ v (fun o => ?_) ?_ (by omega))
        · rw [evMJ]
          by_cases co : o = k
          · rw [if_pos ⟨rfl, co⟩, if_pos co]
          · rw [if_neg (fun z => co z.2), if_neg co, mD.J 161 (by decide), j1, if_neg co]
        · rw [oSu_y hk' c du0, ev, nI_clamp (by omega)]
      · rw [eD, bn2_s, if_pos rfl] at head
        unfold M_oracle_b133 at head
        rw [nI_1] at head
        rw [step head]
        refine ih (k + 1) _ (by omega) (m1.tr (mD.wk (by decide))) (keep _ 1000 (fun o => by rw [mD.J 161 (by decide)]; exact j1 o) (oSu_n fun _ _ _ _ _ _ z => isDu_no z ((noDu_fr m1).1 nd)).symm (Nat.le_refl _))
end Ms
