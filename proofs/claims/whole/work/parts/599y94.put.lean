/-! put: the model. -/
theorem sb16 : ∀ n, n < 16 → ∀ u, u < 17 → n < u → nI n - nI u < 0 := by decide +kernel
theorem nI_subn {n u : Nat} (h : u ≤ n) : nI n - nI u = nI (n - u) := by
  rw [show nI n = nI (n - u) + nI u by rw [nI_add, Nat.sub_add_cancel h], Int32.add_sub_cancel]
abbrev skN (f : Nat) : Nat := if f = 0 then 4 else 16
section Pu
variable {t t' : moS} {l f n : Nat} {po ho : Int32}
/-- the model's out takes the tape's bytes -/
theorem m_putX (hN : mN t) (hn : n ≤ 4096) (h3 : t.S 3 = nI n) (hf : f = 0 ∨ f = 1) (hu : skN f ≤ n) (hm : n - skN f ≤ 564) {p1 : Int32} : ∃ t3, mfr [147, 148] (clT t) t3 ∧ OU t3 ((tl (t.I 2) n).drop (skN f)) ∧ M_put_b121 (moSS (clT t) 148 (nI (n - skN f))) p1 po ho (nI f) (nI (skN f)) 0 = Option.bind (M_go t3 p1 (-1) 1 0 0 (nI f) (hiF (t.I 2) 0 f) (loF (t.I 2) 0 f) po ho 0) (fun s3 => some (1, s3)) := by
  have hs16 : skN f ≤ 16 := by unfold skN; split <;> omega
  generalize hu' : skN f = u at *
  have hNc : mN (clT t) := hN.fr ((mfr.ss (by decide)).tr (mfr.ss (by decide)) : mfr [0, 3] t (clT t)) rfl
  generalize hL : (tl (t.I 2) n).drop u = L
  have lL : L.length = n - u := by rw [← hL, List.length_drop, tl_len]
  have gL : ∀ i, i < n - u → L.getD i 0 = t.I 2 (u + i) := fun i hi => by
    rw [← hL, List.getD_eq_getElem?_getD, List.getElem?_drop, ← List.getD_eq_getElem?_getD, tl_get (by omega)]
  have w0 : WF [147, 148] (clT t) (moSS (clT t) 148 (nI (n - u))) (n - u) (t.I 147) := ⟨mfr.ss (by decide), moSS_s, n147 hNc, fun i _ => rfl⟩
  have loop : ∀ k j, j + k = n - u → ∀ t1, WF [147, 148] (clT t) t1 (n - u) (fun i => if i < j then L.getD i 0 else t.I 147 i) → ∃ t3, mfr [147, 148] (clT t) t3 ∧ OU t3 L ∧ lp (fun x : Int32 × moS => M_put_s121 x.2 p1 po ho (nI f) (nI u) x.1) (nI j, t1) = Option.bind (M_go t3 p1 (-1) 1 0 0 (nI f) (hiF (t.I 2) 0 f) (loF (t.I 2) 0 f) po ho 0) (fun s3 => some (1, s3)) := by
    intro k
    induction k with
    | zero =>
      intro j hj t1 w1
      have hj : j = n - u := by omega
      subst hj
      have N1 : mN t1 := hNc.fr w1.1 rfl
      have e2 : t1.I 2 = t.I 2 := w1.1.I 2 (by decide)
      have g1 := m_high (t := t1) (k := 2) (N := 4096) (a := 0) (f := f) (N1.n 2 4096) (by decide) (by decide) hf
      have g2 := m_low (t := t1) (k := 2) (N := 4096) (a := 0) (f := f) (N1.n 2 4096) (by decide) (by decide) hf
      rw [e2] at g1 g2
      refine ⟨t1, w1.1, ⟨by rw [w1.2.1, lL], by omega, fun i hi => ?_⟩, lp_x ?_⟩
      · rw [w1.2.2.2 i (by omega)]
        exact if_pos (by omega)
      · show M_put_s121 t1 p1 po ho (nI f) (nI u) (nI (n - u)) = _
        unfold M_put_s121
        rw [w1.2.1, if_neg (nI_nlt (Nat.le_refl _) (by omega)), show (0 : Int32) = nI 0 from rfl, g1]
        refine congrArg xo ?_
        show Option.bind (M_lowOf t1 2 (nI 0) (nI f)) _ = _
        rw [g2]
        rfl
    | succ k ih =>
      intro j hj t1 w1
      have N1 : mN t1 := hNc.fr w1.1 rfl
      have e2 : t1.I 2 = t.I 2 := w1.1.I 2 (by decide)
      obtain ⟨t2, q2, w2⟩ := wf_w (i := j) (v := L.getD j 0) w1 (by omega)
      have st : M_put_s121 t1 p1 po ho (nI f) (nI u) (nI j) = some (.inl (nI (j + 1), t2)) := by
        unfold M_put_s121
        rw [w1.2.1, if_pos (nI_lt (by omega) (by omega)), nI_add, nI_1]
        refine (sr_I (N1.n 2 4096) (by omega) (by decide)).trans ?_
        rw [e2, ← gL j (by omega), q2]
        rfl
      obtain ⟨t3, a1, a2, a3⟩ := ih (j + 1) (by omega) t2 (wf_e w2 fun i hi => by
        by_cases c : i = j
        · rw [c, upd_s]
          exact (if_pos (by omega)).symm
        · rw [upd_n c]
          by_cases c2 : i < j
          · exact (if_pos c2).trans (if_pos (by omega)).symm
          · exact (if_neg c2).trans (if_neg (by omega)).symm)
      refine ⟨t3, a1, a2, ?_⟩
      rw [lp_l (show (fun x : Int32 × moS => M_put_s121 x.2 p1 po ho (nI f) (nI u) x.1) (nI j, t1) = _ from st)]
      exact a3
  unfold M_put_b121
  exact loop (n - u) 0 (by omega) _ (wf_e w0 fun i _ => (if_neg (Nat.not_lt_zero i)).symm)
/-- when put's datagram goes -/
def puOk (t : moS) (l f n : Nat) : Prop := t.I 22 l ≠ 0 ∧ skN f ≤ n ∧ n - skN f ≤ 564 ∧ ¬ t.I 21 l < nI (n - skN f)
theorem m_put (hM : MV t) (hn : n ≤ 4096) (h3 : t.S 3 = nI n) : (∀ y2, (y2 ≠ 4 ∧ y2 ≠ 6) → ∀ y1, M_put t y1 y2 po ho = some (0, clT t)) ∧ (∀ y1, (∀ l, l < cL t → y1 ≠ nI l) → ∀ y2, M_put t y1 y2 po ho = some (0, clT t)) ∧ ∀ l f, l < cL t → (f = 0 ∨ f = 1) → (¬ puOk t l f n → M_put t (nI l) (fam (nI f)) po ho = some (0, clT t)) ∧ (puOk t l f n → ∃ t3, mfr [147, 148] (clT t) t3 ∧ OU t3 ((tl (t.I 2) n).drop (skN f)) ∧ M_put t (nI l) (fam (nI f)) po ho = Option.bind (M_go t3 (nI l) (-1) 1 0 0 (nI f) (hiF (t.I 2) 0 f) (loF (t.I 2) 0 f) po ho 0) (fun s3 => some (1, s3))) := by
  have hN := hM.n
  have hNc : mN (clT t) := hN.fr ((mfr.ss (by decide)).tr (mfr.ss (by decide)) : mfr [0, 3] t (clT t)) rfl
  have h10 := hM.nL
  have e17 : t.S 17 = nI (cL t) := hM.1.2.2.2.2.2.1.n.1
  have e : ∀ y1 y2, M_put t y1 y2 po ho = if y2 = 4 then M_put_b27 (clT t) y1 y2 po ho (t.S 3) else if y2 = 6 then M_put_b27 (clT t) y1 y2 po ho (t.S 3) else some (0, clT t) := fun _ _ => rfl
  refine ⟨fun y2 h y1 => ?_, fun y1 h y2 => ?_, fun l f hl hf => ?_⟩
  · rw [e, if_neg h.1, if_neg h.2]
  · have b : M_put_b27 (clT t) y1 y2 po ho (t.S 3) = some (0, clT t) := by
      unfold M_put_b27
      by_cases c0 : y1 < 0
      · rw [if_pos c0]
      rw [if_neg c0]
      obtain ⟨j, hj, rfl⟩ := nI_of c0
      rw [if_neg]
      intro z
      have z : nI j < t.S 17 := z
      rw [e17] at z
      exact h j (Nat.lt_of_not_le fun q => nI_nlt q (by omega) z) rfl
    rw [e, b]
    split
    · rfl
    · split <;> rfl
  · have e1 : M_put t (nI l) (fam (nI f)) po ho = M_put_b27 (clT t) (nI l) (fam (nI f)) po ho (nI n) := by
      rw [e, h3]
      rcases hf with rfl | rfl
      · exact if_pos rfl
      · exact (if_neg (by decide)).trans (if_pos rfl)
    have e2 : M_put_b27 (clT t) (nI l) (fam (nI f)) po ho (nI n) = if t.I 22 l = 0 then some (0, clT t) else M_put_b73 (clT t) (nI l) po ho (nI n) (nI f) (nI (skN f)) := by
      unfold M_put_b27
      rw [if_neg (nI_pos (by omega)), if_pos (show nI l < (clT t).S 17 by show nI l < t.S 17; rw [e17]; exact nI_lt hl (by omega))]
      refine (sr_I (hNc.n 22 10) (by omega) (by decide)).trans ?_
      show (if t.I 22 l = 0 then _ else _) = _
      by_cases c : t.I 22 l = 0
      · rw [if_pos c, if_pos c]
      · rw [if_neg c, if_neg c]
        rcases hf with rfl | rfl
        · exact if_pos rfl
        · exact if_neg (by decide)
    have hs16 : skN f ≤ 16 := by unfold skN; split <;> omega
    rw [e1, e2]
    by_cases c : t.I 22 l = 0
    · rw [if_pos c]
      exact ⟨fun _ => rfl, fun h => absurd c h.1⟩
    rw [if_neg c]
    unfold M_put_b73
    by_cases c1 : skN f ≤ n
    rotate_left
    · rw [if_pos (nI_lt (by omega) (by omega))]
      exact ⟨fun _ => rfl, fun h => absurd h.2.1 c1⟩
    rw [if_neg (nI_nlt c1 (by omega)), nI_subn c1]
    by_cases c2 : n - skN f ≤ 564
    rotate_left
    · rw [if_pos (show (564 : Int32) < nI (n - skN f) from nI_lt (a := 564) (by omega) (by omega))]
      exact ⟨fun _ => rfl, fun h => absurd h.2.2.1 c2⟩
    rw [if_neg (show ¬ (564 : Int32) < nI (n - skN f) from nI_nlt (a := 564) c2 (by decide)), show Option.bind (rdI (clT t) 21 (nI l)) (fun x1 => if x1 < nI (n - skN f) then some (0, clT t) else letS (moSS (clT t) 148 (nI (n - skN f))) fun s2 => M_put_b121 s2 (nI l) po ho (nI f) (nI (skN f)) 0) = if t.I 21 l < nI (n - skN f) then some (0, clT t) else M_put_b121 (moSS (clT t) 148 (nI (n - skN f))) (nI l) po ho (nI f) (nI (skN f)) 0 from (sr_I (hNc.n 21 10) (by omega) (by decide)).trans rfl]
    by_cases c3 : t.I 21 l < nI (n - skN f)
    · rw [if_pos c3]
      exact ⟨fun _ => rfl, fun h => absurd c3 h.2.2.2⟩
    · rw [if_neg c3]
      exact ⟨fun h => absurd ⟨c, c1, c2, c3⟩ h, fun _ => m_putX hN hn h3 hf c1 c2⟩
end Pu
