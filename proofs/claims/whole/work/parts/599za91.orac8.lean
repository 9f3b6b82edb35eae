/-! Least sums: the class from its beginning to its end. -/
section Ln
variable {G H : Nat → Nat → Nat} {sa : Nat → Nat} {x q : Nat} {s s1 : cS} {t : moS}
/-- a row of sums that is new and stands nowhere -/
theorem rr_newS (h : RR G H sa x s t) (hM : MV t) {v : Ov} (e : HP sa s [(q, v)] s1) (hv : v.1.1 = 119) : RR G H sa x s1 t ∧ fr [] [] [] s s1 := by
  have ex := hp_ex e
  obtain ⟨z1, z2, z3⟩ := hp_at (L1 := []) e
  have hK : s1.K q = v.1 := ov_K z1
  have fresh : ∀ a, a ∈ [q] → cFr sa s a := fun a ha => by rw [List.mem_singleton.mp ha]; exact z2
  have f : fr [] [] [] s s1 := ex.fr (fun a ha => (fresh a ha).1)
  have ht : TK sa s1 := h.q.1.tk.ex ex (fun a ha => (fresh a ha).2)
  have only : ∀ a, nwd s s1 a → (s1.K a).1 = 119 := fun a ha => by
    have hm := ex.new ha
    rw [List.mem_singleton.mp hm]
    show (s1.K q).1 = 119
    rw [hK]
    exact hv
  have nO : ∀ c a, nwd s s1 a → okO s1 c a → False := fun c a ha ho => by
    have := only a ha
    have := ho.2.1
    omega
  refine ⟨rr_fr h hM (rgl_ext h.q.1.1 f ht ?_ ?_ ?_ ?_ ?_ ?_ ?_) f (mfr.rf (W := [])) rfl rfl rfl rfl rfl rfl rfl, f⟩
  · intro a ha g v n et
    have := only a ha
    have := (tyF_k et).2.1
    omega
  · exact fun a ha ho => (nO 0 a ha ho).elim
  · intro a ha h6
    have := only a ha
    omega
  · intro a ha h6
    have := only a ha
    omega
  · exact fun a ha ho => (nO 10 a ha ho).elim
  · exact fun a ha ho => (nO 1 a ha ho).elim
  · intro a i ha h6
    have := only a ha
    omega
end Ln
section Ls
variable {G H : Nat → Nat → Nat} {sa : Nat → Nat} {x kc ks r f : Nat} {s : cS} {t : moS} {n : Int32} {h l : Int64}
theorem own_rl (hM : MV t) {o : Nat} (ho : o < cR t) (hf : lnOk (nI f) n) (h39 : t.I 39 o ≠ 0) : nI (min 16 (oSu t f h l n o)) = 16 ↔ rlB t f h l n o = true := by
  rw [rlB_t]
  rcases m_isDue (h := h) (l := l) hM ho hf with ⟨dk, dm, di, dt, td, du, -⟩ | ⟨nd, -⟩
  · obtain ⟨v, ev, h1, h2⟩ := (du.ok hM ho).2.1
    rw [oSu_y ho h39 du, ev, nI_clamp (by omega), Nat.min_eq_right (by omega)]
    refine ⟨fun z => ?_, fun z => absurd z.2 (isDu_no du)⟩
    have := (nI_eq (show v < 2 ^ 31 by omega) (show 16 < 2 ^ 31 by decide)).mp z
    omega
  · rw [oSu_n fun _ _ _ _ _ _ z => isDu_no z nd]
    exact ⟨fun _ => ⟨h39, nd⟩, fun _ => rfl⟩
theorem oSu_le (hM : MV t) (hf : lnOk (nI f) n) (o : Nat) : oSu t f h l n o ≤ 1000 := by
  by_cases ho : o < cR t
  · by_cases h39 : t.I 39 o = 0
    · rw [oSu_n fun _ _ _ _ _ z => absurd h39 z]; exact Nat.le_refl _
    · rcases m_isDue (h := h) (l := l) hM ho hf with ⟨dk, dm, di, dt, td, du, -⟩ | ⟨nd, -⟩
      · obtain ⟨v, ev, h1, h2⟩ := (du.ok hM ho).2.1
        rw [oSu_y ho h39 du, ev, nI_clamp (by omega)]
        omega
      · rw [oSu_n fun _ _ _ _ _ _ z => isDu_no z nd]; exact Nat.le_refl _
  · rw [oSu_n fun _ _ _ _ z => absurd z ho]; exact Nat.le_refl _
/-- the sums stand in the class's row -/
def sumC (s : cS) (A : Nat) (t : moS) (y : Nat → Nat) : Prop := ∀ o, o < cR t → s.E A o = nI (min 16 (y o))
theorem w_least {Q : Int32 → cS → Nat → Nat → Prop} (hR : RR G H sa x s t) (hM : MV t) (hr : r < cR t) (hff : f = 0 ∨ f = 1) (hf : lnOk (nI f) n) (hpx : isPx h l n) (hp : PF s (H 238 x) (fam (nI f)) h l n) (hkc : 1 ≤ kc) (hks : 6 ≤ ks) (k : ∀ s', RR G H sa x s' t → fr [119] [] [] s s' → Q (nI (min 16 (itV (cR t) 1000 (rlB t f h l n) (edM t f) (oSu t f h l n) (cR t) r))) s' (kc - 1) (ks - 6)) : C_Rf_leastSum sa x (nI r) s kc ks Q := by
  have h6 := hM.nR
  have hT := hR.q.1.ty
  have kx := hR.q.1.1.1
  have p238 := hT.p kx 238 18
  unfold C_Rf_leastSum
  refine hq_nwA (u := 119) (n := 6) (hp_rf (sa := sa) (s := s)) (by decide) hkc hks fun A s1 e => ?_
  obtain ⟨R1, f1⟩ := rr_newS hR hM e rfl
  have kA : s1.K A = (119, 6) := ov_K (hp_at (L1 := []) e).1
  -- all states behind: the row alone is another
  have wr : ∀ (u : cS) (o : Nat) (v : Int32), RR G H sa x u t → fr [119] [] [] s u → u.K A = (119, 6) → RR G H sa x (cSE u A o v) t ∧ fr [119] [] [] s (cSE u A o v) ∧ (cSE u A o v).K A = (119, 6) := fun u o v Ru fu ku => by
    have fe : fr [119] [] [] u (cSE u A o v) := fr.se (by rw [ku]; decide)
    exact ⟨rr_fr Ru hM (Ru.q.1.1.v rfl rfl fe rfl rfl rfl) fe (mfr.rf (W := [])) rfl rfl rfl rfl rfl rfl rfl, fu.tr fe, ku⟩
  have pf : ∀ u : cS, fr [119] [] [] s u → PF u (H 238 x) (fam (nI f)) h l n ∧ okO u 5 (H 238 x) := fun u fu => ⟨hp.fr fu p238.2 (by decide), okr (fu.r p238.2) 5⟩
  have F1 : fr [119] [] [] s s1 := f1.wk
  -- rounds
  have rounds : ∀ d i (u : cS), i + d = cR t → RR G H sa x u t → fr [119] [] [] s u → u.K A = (119, 6) → sumC u A t (itV (cR t) 1000 (rlB t f h l n) (edM t f) (oSu t f h l n) i) → ∀ P : Int32 → cS → Nat → Nat → Prop, (∀ (a3 : Int32) (s : cS) (kc ks : Nat), C_Rf_leastSum_s39 sa x (nI r) (some A) a3 s kc ks Q P → P a3 s kc ks) → P (nI i) u (kc - 1) (ks - 6) := by
    intro d
    induction d with
    | zero =>
      intro i u hi Ru fu ku hs P hP
      have : i = cR t := by omega
      subst this
      apply hP
      unfold C_Rf_leastSum_s39
      refine ⟨_, gd_to Ru.q.1.ox, ?_⟩
      rw [show u.I (20 * 11 + 9) x = nI (cR t) from Ru.q.1.nR hM]
      refine ifF (nI_nlt (Nat.le_refl _) (by omega)) ⟨_, rfl, _, rd_E ku (by decide) (by omega) (by decide) (hs r hr), ?_⟩
      have e16 : ∀ v : Nat, mnI (16 : Int32) (nI (min 16 v)) = nI (min 16 v) := fun v => by
        have : mnI (nI 16) (nI (min 16 v)) = nI (min 16 (min 16 v)) := mn_n (by decide) (by omega)
        rw [show (16 : Int32) = nI 16 from rfl, this]
        congr 1
        omega
      show Q (mnI 16 (nI (min 16 (itV (cR t) 1000 (rlB t f h l n) (edM t f) (oSu t f h l n) (cR t) r)))) u (kc - 1) (ks - 6)
      rw [e16]
      exact k u Ru fu
    | succ d ih =>
      intro i u hi Ru fu ku hs P hP
      apply hP
      unfold C_Rf_leastSum_s39
      refine ⟨_, gd_to Ru.q.1.ox, ?_⟩
      rw [show u.I (20 * 11 + 9) x = nI (cR t) from Ru.q.1.nR hM]
      refine ifT (nI_lt (by omega) (by omega)) ?_
      unfold C_Rf_leastSum_b50
      intro P' hP'
      have pass : ∀ d o (w : cS), o + d = cR t → RR G H sa x w t → fr [119] [] [] s w → w.K A = (119, 6) → sumC w A t (gsV 1000 (rlB t f h l n) (edM t f) (itV (cR t) 1000 (rlB t f h l n) (edM t f) (oSu t f h l n) i) o) → P' (nI o) w (kc - 1) (ks - 6) := by
        intro d
        induction d with
        | zero =>
          intro o w ho Rw fw kw hw
          have : o = cR t := by omega
          subst this
          apply hP'
          unfold C_Rf_leastSum_s50
          refine ⟨_, gd_to Rw.q.1.ox, ?_⟩
          rw [show w.I (20 * 11 + 9) x = nI (cR t) from Rw.q.1.nR hM]
          refine ifF (nI_nlt (Nat.le_refl _) (by omega)) ?_
          rw [nI_1]
          exact ih (i + 1) w (by omega) Rw fw kw hw P hP
        | succ d ih2 =>
          intro o w ho Rw fw kw hw
          have ho' : o < cR t := by omega
          have hq := Rw.q.1
          have k26 := (hq.rt ho').1.1
          obtain ⟨pw, p5⟩ := pf w fw
          have p238w := hq.ty.p hq.1.1 238 18
          generalize hy : itV (cR t) 1000 (rlB t f h l n) (edM t f) (oSu t f h l n) i = y at *
          have same : ¬ rlB t f h l n o = true → P' (nI o + 1) w (kc - 1) (ks - 6) := fun z => by
            rw [nI_1]
            refine ih2 (o + 1) w (by omega) Rw fw kw ?_
            rw [show gsV 1000 (rlB t f h l n) (edM t f) y (o + 1) = gsV 1000 (rlB t f h l n) (edM t f) y o from if_neg z]
            exact hw
          apply hP'
          unfold C_Rf_leastSum_s50 C_Rf_leastSum_b114
          refine ⟨_, gd_to hq.ox, ?_⟩
          rw [show w.I (20 * 11 + 9) x = nI (cR t) from hq.nR hM]
          refine ifT (nI_lt ho' (by omega)) (w_rts hq hM ho' ⟨_, gd_to (okr k26 9), ?_⟩)
          rw [show w.I (20 * 9 + 3) (G 1 o) = t.I 39 o from (hq.rt ho').2.2.1.2.1]
          by_cases c : t.I 39 o = 0
          · exact ifT c (same fun z => (rlB_t.1 z).1 c)
          have r228 := hq.ty.r hq.1.1 228 131 6
          have q228 := (hq.rt ho').1.2.1
          refine ifF c ⟨_, gd_to hq.ox, _, r228.1, _, rd_Q r228.2 (by decide) (by omega) (by decide) q228, _, gd_to hq.ox, _, rfl, okr k26 9, ?_⟩
          rw [show w.P (20 * 11 + 18) x = some (H 238 x) from p238w.1]
          refine w_ownSum hq hM ho' hf hpx pw p5 ?_
          by_cases c2 : rlB t f h l n o = true
          · refine ifT ((own_rl hM ho' hf c).2 c2) ⟨_, rfl, _, rd_E kw (by decide) (by omega) (by decide) (hw o ho'), _, gd_to hq.ox, _, r228.1, _, rd_Q r228.2 (by decide) (by omega) (by decide) q228, hq.ox, ?_⟩
            generalize hg : gsV 1000 (rlB t f h l n) (edM t f) y o = g at *
            refine w_sbn (c := fun o => min 16 (g o)) hq hM ho' hff pw.1 kw (by decide) (fun o' h' => ⟨hw o' h', by show min 16 (g o') ≤ 1000; omega⟩) ?_
            have cs := cap_st (x := g) (L := edM t f o) (L' := edE t f (fun _ => false) o (cI t o)) (r := o) (B := 1000) (by decide) (fun e he => by
              obtain ⟨p, b1, b2, b3, b4, b5, b6⟩ := (edE_mem _).1 he
              exact (edE_mem _).2 ⟨p, b1, b2, b3, b4, rfl, b6⟩) (fun e he => by
              obtain ⟨p, b1, b2, b3, b4, b5, b6⟩ := (edE_mem _).1 he
              by_cases ce : e.1 = o
              · exact Or.inr ce
              · exact Or.inl ((edE_mem _).2 ⟨p, b1, b2, b3, b4, by rw [decide_eq_false_iff_not]; exact ce, b6⟩))
            have b16 := (loE_le (x := fun o => min 16 (g o)) (edE t f (fun _ => false) o (cI t o)) 16).1
            rw [mn_n (by omega) (by omega), cs]
            refine ⟨_, wr_E kw (by decide) (by omega) (by decide), ?_⟩
            rw [nI_1]
            obtain ⟨R2, F2, K2⟩ := wr w o (nI (min 16 (min (g o) (loE g 1000 (edM t f o))))) Rw fw kw
            refine ih2 (o + 1) _ (by omega) R2 F2 K2 ?_
            rw [show gsV 1000 (rlB t f h l n) (edM t f) y (o + 1) = uvN g o (min (g o) (loE g 1000 (edM t f o))) by rw [← hg]; exact if_pos c2]
            intro o' ho2
            unfold uvN
            by_cases co : o' = o
            · rw [if_pos co, co, cSE_v]
            · rw [if_neg co, cSE_i co]
              exact hw o' ho2
          · exact ifF (fun z => c2 ((own_rl hM ho' hf c).1 z)) (same c2)
      exact pass (cR t) 0 u (by omega) Ru fu ku hs
  have init : ∀ d o (u : cS), o + d = cR t → RR G H sa x u t → fr [119] [] [] s u → u.K A = (119, 6) → (∀ o', o' < o → u.E A o' = nI (min 16 (oSu t f h l n o'))) → ∀ P : Int32 → cS → Nat → Nat → Prop, (∀ (a3 : Int32) (s : cS) (kc ks : Nat), C_Rf_leastSum_s7 sa x (nI r) (some A) a3 s kc ks Q P → P a3 s kc ks) → P (nI o) u (kc - 1) (ks - 6) := by
    intro d
    induction d with
    | zero =>
      intro o u ho Ru fu ku hs P hP
      have : o = cR t := by omega
      subst this
      apply hP
      unfold C_Rf_leastSum_s7
      refine ⟨_, gd_to Ru.q.1.ox, ?_⟩
      rw [show u.I (20 * 11 + 9) x = nI (cR t) from Ru.q.1.nR hM]
      refine ifF (nI_nlt (Nat.le_refl _) (by omega)) ?_
      unfold C_Rf_leastSum_b39
      intro P' hP'
      exact rounds (cR t) 0 u (by omega) Ru fu ku hs P' hP'
    | succ d ih =>
      intro o u ho Ru fu ku hs P hP
      have ho' : o < cR t := by omega
      have hq := Ru.q.1
      have k26 := (hq.rt ho').1.1
      obtain ⟨pw, p5⟩ := pf u fu
      have p238w := hq.ty.p hq.1.1 238 18
      have r228 := hq.ty.r hq.1.1 228 131 6
      have q228 := (hq.rt ho').1.2.1
      apply hP
      unfold C_Rf_leastSum_s7
      refine ⟨_, gd_to hq.ox, ?_⟩
      rw [show u.I (20 * 11 + 9) x = nI (cR t) from hq.nR hM]
      refine ifT (nI_lt ho' (by omega)) ⟨_, gd_to hq.ox, _, r228.1, _, rd_Q r228.2 (by decide) (by omega) (by decide) q228, _, gd_to hq.ox, _, rfl, okr k26 9, ?_⟩
      rw [show u.P (20 * 11 + 18) x = some (H 238 x) from p238w.1]
      refine w_ownSum hq hM ho' hf hpx pw p5 ⟨_, rfl, _, wr_E ku (by decide) (by omega) (by decide), ?_⟩
      rw [nI_1]
      obtain ⟨R2, F2, K2⟩ := wr u o (nI (min 16 (oSu t f h l n o))) Ru fu ku
      refine ih (o + 1) _ (by omega) R2 F2 K2 (fun o' h' => ?_) P hP
      by_cases co : o' = o
      · rw [co, cSE_v]
      · rw [cSE_i co]
        exact hs o' (by omega)
  unfold C_Rf_leastSum_b7
  intro P hP
  exact init (cR t) 0 s1 (by omega) R1 F1 kA (fun o' h' => absurd h' (Nat.not_lt_zero _)) P hP
end Ls
