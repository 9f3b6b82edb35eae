/-! Least sums: the model from its beginning to its end. -/
noncomputable def rlB (t : moS) (f : Nat) (h l : Int64) (n : Int32) (k : Nat) : Bool := @decide (t.I 39 k ≠ 0 ∧ noDu t k (nI f) h l n) (Classical.propDecidable _)
theorem rlB_t {t : moS} {f k : Nat} {h l : Int64} {n : Int32} : rlB t f h l n k = true ↔ t.I 39 k ≠ 0 ∧ noDu t k (nI f) h l n := by
  unfold rlB
  exact @decide_eq_true_iff _ (Classical.propDecidable _)
def edM (t : moS) (f r : Nat) : List (Nat × Nat) := edE t f (fun o => decide (o = r)) r (cI t r)
/-- what a router has of its own -/
noncomputable def oSu (t : moS) (f : Nat) (h l : Int64) (n : Int32) (k : Nat) : Nat := @dite _ (∃ dm, k < cR t ∧ t.I 39 k ≠ 0 ∧ ∃ dk di dt, isDu t k (nI f) h l n dk dm di dt) (Classical.propDecidable _) (fun e => e.choose.toNatClampNeg) (fun _ => 1000)
theorem isDu_no {t : moS} {r : Nat} {f n dk dm di dt : Int32} {h l : Int64} (a : isDu t r f h l n dk dm di dt) : ¬ noDu t r f h l n := fun b => by
  rcases a with ⟨p, h1, h2, -⟩ | ⟨-, k, h1, h2, -⟩
  · exact b.1 p h1 h2
  · exact b.2 k h1 h2
theorem oSu_y {t : moS} {f k : Nat} {h l : Int64} {n dk dm di dt : Int32} (hk : k < cR t) (h39 : t.I 39 k ≠ 0) (a : isDu t k (nI f) h l n dk dm di dt) : oSu t f h l n k = dm.toNatClampNeg := by
  have ex : ∃ dm, k < cR t ∧ t.I 39 k ≠ 0 ∧ ∃ dk di dt, isDu t k (nI f) h l n dk dm di dt := ⟨dm, hk, h39, dk, di, dt, a⟩
  have e1 : oSu t f h l n k = ex.choose.toNatClampNeg := dif_pos ex
  obtain ⟨-, -, dk', di', dt', b⟩ := ex.choose_spec
  have e := isDu.uq a b
  have e2 : dm = ex.choose := congrArg (fun z : DU => z.2.1) e
  rw [e1, ← e2]
theorem oSu_n {t : moS} {f k : Nat} {h l : Int64} {n : Int32} (no : ∀ dk dm di dt, k < cR t → t.I 39 k ≠ 0 → ¬ isDu t k (nI f) h l n dk dm di dt) : oSu t f h l n k = 1000 := dif_neg fun ⟨dm, h1, h2, dk, di, dt, h3⟩ => no dk dm di dt h1 h2 h3
section Mq
variable {t t0 : moS} {r f : Nat} {x y : Nat → Nat} {p1 a3 : Int32} {a4 a6 : Int64}
theorem sumM.m (h : sumM t x) {t' : moS} {W : List Nat} (m : mfr W t t') (d : dj [37, 161] W) : sumM t' x := fun o ho => by
  rw [m.J 161 (d.n 161)]
  exact h o (by unfold cR at ho ⊢; rw [m.S 37 (d.n 37)] at ho; exact ho)
/-- a round -/
theorem m_153 (hM0 : MV t0) (hf : f < 2) (hl : lnOk (nI f) a3) : ∀ d k (t : moS) (a : Int32), k + d = cR t0 → mfr Wor t0 t → sumM t (gsV 1000 (rlB t0 f a4 a6 a3) (edM t0 f) y k) → (a = 0 ∨ a = 1) → (a = 0 → gsV 1000 (rlB t0 f a4 a6 a3) (edM t0 f) y k = y) → (a = 1 → ∃ o, gsV 1000 (rlB t0 f a4 a6 a3) (edM t0 f) y k o < y o) → ∃ t' a', M_oracle_b153 t p1 a3 a4 a6 (nI f) a (nI k) = some (.inl (a', t')) ∧ mfr Wor t0 t' ∧ sumM t' (gsV 1000 (rlB t0 f a4 a6 a3) (edM t0 f) y (cR t0)) ∧ (a' = 0 ∨ a' = 1) ∧ (a' = 0 → gsV 1000 (rlB t0 f a4 a6 a3) (edM t0 f) y (cR t0) = y) ∧ (a' = 1 → ∃ o, gsV 1000 (rlB t0 f a4 a6 a3) (edM t0 f) y (cR t0) o < y o) := by
  have h6 := hM0.nR
  have e37 : t0.S 37 = nI (cR t0) := hM0.1.2.2.2.2.2.2.2.n.1
  intro d
  induction d with
  | zero =>
    intro k t a hk m hs ha h0 h1
    have : k = cR t0 := by omega
    subst this
    refine ⟨t, a, ?_, m, hs, ha, h0, h1⟩
    unfold M_oracle_b153
    refine lp_x ?_
    show M_oracle_s153 t p1 a3 a4 a6 (nI f) a (nI (cR t0)) = _
    unfold M_oracle_s153
    rw [m.S 37 (by decide), e37, if_neg (nI_nlt (Nat.le_refl _) (by omega))]
  | succ d ih =>
    intro k t a hk m hs ha h0 h1
    have hk' : k < cR t0 := by omega
    have Mt : MV t := hM0.fr m rfl (hM0.1.fr m rfl)
    have eR : cR t = cR t0 := by unfold cR; rw [m.S 37 (by decide)]
    have hkt : k < cR t := by omega
    have step : ∀ {t' : moS} {a' : Int32}, M_oracle_s153 t p1 a3 a4 a6 (nI f) a (nI k) = some (.inl (a', nI (k + 1), t')) → M_oracle_b153 t p1 a3 a4 a6 (nI f) a (nI k) = M_oracle_b153 t' p1 a3 a4 a6 (nI f) a' (nI (k + 1)) := fun {t' a'} e => by
      unfold M_oracle_b153
      exact lp_l (f := fun z : Int32 × Int32 × moS => M_oracle_s153 z.2.2 p1 a3 a4 a6 (nI f) z.1 z.2.1) (x := (a, nI k, t)) (y := (a', nI (k + 1), t')) e
    have same : ∀ t', M_oracle_s153 t p1 a3 a4 a6 (nI f) a (nI k) = some (.inl (a, nI (k + 1), t')) → mfr Wor t0 t' → sumM t' (gsV 1000 (rlB t0 f a4 a6 a3) (edM t0 f) y k) → ¬ rlB t0 f a4 a6 a3 k = true → ∃ t' a', M_oracle_b153 t p1 a3 a4 a6 (nI f) a (nI k) = some (.inl (a', t')) ∧ mfr Wor t0 t' ∧ sumM t' (gsV 1000 (rlB t0 f a4 a6 a3) (edM t0 f) y (cR t0)) ∧ (a' = 0 ∨ a' = 1) ∧ (a' = 0 → gsV 1000 (rlB t0 f a4 a6 a3) (edM t0 f) y (cR t0) = y) ∧ (a' = 1 → ∃ o, gsV 1000 (rlB t0 f a4 a6 a3) (edM t0 f) y (cR t0) o < y o) := fun t' e m' s' nr => by
      have eg : gsV 1000 (rlB t0 f a4 a6 a3) (edM t0 f) y (k + 1) = gsV 1000 (rlB t0 f a4 a6 a3) (edM t0 f) y k := if_neg nr
      rw [step e]
      refine ih (k + 1) t' a (by omega) m' ?_ ha ?_ ?_
      · rw [eg]; exact s'
      · rw [eg]; exact h0
      · rw [eg]; exact h1
    have e39 : rdI t 39 (nI k) = some (t0.I 39 k) := by rw [rdI_n (n := 6) (Mt.n.n 39 6) (by omega) (by decide), m.I 39 (by decide)]
    by_cases c : t0.I 39 k = 0
    · refine same t ?_ m hs (fun z => (rlB_t.1 z).1 c)
      unfold M_oracle_s153 M_oracle_b355
      rw [m.S 37 (by decide), e37, if_pos (nI_lt hk' (by omega)), e39, Option.bind_some, if_pos c, nI_1]
    · rcases m_isDue Mt hkt hl with ⟨dk, dm, di, dt, td, du, eD, mD, -⟩ | ⟨nd, td, eD, mD⟩
      · refine same td ?_ (m.tr (mD.wk (by decide))) (hs.m mD rfl) (fun z => isDu_no du ((noDu_fr m).2 (rlB_t.1 z).2))
        unfold M_oracle_s153 M_oracle_b355
        rw [m.S 37 (by decide), e37, if_pos (nI_lt hk' (by omega)), e39, Option.bind_some, if_neg c, eD, bn2_s, if_neg (by decide), nI_1]
      · have mt : mfr Wor t0 td := m.tr (mD.wk (by decide))
        have Md : MV td := hM0.fr mt rfl (hM0.1.fr mt rfl)
        have yr : rlB t0 f a4 a6 a3 k = true := rlB_t.2 ⟨c, (noDu_fr m).1 nd⟩
        have sd := hs.m mD rfl
        have eRd : cR td = cR t0 := by unfold cR; rw [mt.S 37 (by decide)]
        have eI : cI td k = cI t0 k := by unfold cI; rw [mt.I 70 (by decide)]
        have e202 := m_202 (p1 := p1) (a3 := a3) (a4 := a4) (a6 := a6) Md sd (r := k) (by omega) hf ha
        rw [edE_fr mt rfl rfl, eI] at e202
        have ee : edE t0 f (fun o => decide (o = k)) k (cI t0 k) = edM t0 f k := rfl
        rw [ee] at e202
        have eg : gsV 1000 (rlB t0 f a4 a6 a3) (edM t0 f) y (k + 1) = uvN (gsV 1000 (rlB t0 f a4 a6 a3) (edM t0 f) y k) k (min (gsV 1000 (rlB t0 f a4 a6 a3) (edM t0 f) y k k) (loE (gsV 1000 (rlB t0 f a4 a6 a3) (edM t0 f) y k) 1000 (edM t0 f k))) := if_pos yr
        have gk : gsV 1000 (rlB t0 f a4 a6 a3) (edM t0 f) y k k = y k := gsV_o k k (Nat.le_refl _)
        have gl := fun o => gsV_le (B := 1000) (rl := rlB t0 f a4 a6 a3) (ed := edM t0 f) (x := y) (k + 1) o
        generalize gsV 1000 (rlB t0 f a4 a6 a3) (edM t0 f) y k = g at *
        generalize loE g 1000 (edM t0 f k) = v at *
        have st : M_oracle_s153 t p1 a3 a4 a6 (nI f) a (nI k) = some (.inl (if a = 0 ∧ ¬ v < g k then 0 else 1, nI (k + 1), moSJ td 161 k (Int64.ofNat (min (g k) v)))) := by
          unfold M_oracle_s153
          rw [m.S 37 (by decide), e37, if_pos (nI_lt hk' (by omega)), e39, Option.bind_some, if_neg c, eD, bn2_s, if_pos rfl, show (4 : Int32) * nI k = nI (4 * k) by rw [show (4 : Int32) = nI 4 from rfl, pk_mul]]
          exact e202
        have mj : mfr [161] td (moSJ td 161 k (Int64.ofNat (min (g k) v))) := mfr.sj (by decide)
        rw [step st]
        refine ih (k + 1) _ _ (by omega) (mt.tr (mj.wk (by decide))) ?_ ?_ ?_ ?_
        · rw [eg]
          intro o ho
          have ho' : o < cR td := ho
          obtain ⟨q1, q2⟩ := sd o ho'
          rw [evMJ]
          unfold uvN
          by_cases co : o = k
          · rw [if_pos ⟨rfl, co⟩, if_pos co]
            refine ⟨rfl, ?_⟩
            have := (sd k (by omega)).2
            have := Nat.min_le_left (g k) v
            omega
          · rw [if_neg (fun z => co z.2), if_neg co]
            exact ⟨q1, q2⟩
        · split
          · exact Or.inl rfl
          · exact Or.inr rfl
        · intro z
          split at z
          · rename_i hz
            have e0 := h0 hz.1
            rw [eg]
            refine funext fun o => ?_
            unfold uvN
            split
            · rename_i co
              rw [co, Nat.min_eq_left (by omega), gk]
            · rw [e0]
          · exact absurd z (by decide)
        · intro z
          split at z
          · exact absurd z (by decide)
          · rename_i hz
            rcases ha with a0 | a1
            · refine ⟨k, ?_⟩
              have hv : v < g k := Classical.byContradiction fun q => hz ⟨a0, q⟩
              rw [eg]
              unfold uvN
              rw [if_pos rfl, Nat.min_eq_right (by omega), ← gk]
              exact hv
            · obtain ⟨o, ho⟩ := h1 a1
              refine ⟨o, ?_⟩
              rw [eg]
              unfold uvN
              split
              · rename_i co
                rw [co] at ho ⊢
                have := Nat.min_le_left (g k) v
                omega
              · exact ho
end Mq
