/-! A learned route that is gone: what a table is as a map. -/
def gD (a b : Option NV) : Prop := vD a b ∨ ∃ w : NV, a = some w ∧ w.1 = 2 ∧ b = none
section Gd
variable {r i n : Nat} {t t' : moS} {P : Pf}
theorem gD.tr {a b c : Option NV} (h : gD a b) (g : gD b c) : gD a c := by
  rcases h with (e | ⟨w, w', e1, e2, e3, e4⟩) | ⟨w, e1, e2, e3⟩
  · rw [e]; exact g
  · rcases g with (e | ⟨y, y', f1, f2, f3, f4⟩) | ⟨y, f1, f2, f3⟩
    · exact Or.inl (Or.inr ⟨w, w', e1, by rw [← e, e2], e3, e4⟩)
    · exact Or.inl (Or.inr ⟨w, y', e1, f2, e3, f4⟩)
    · exact Or.inr ⟨w, e1, e3, f3⟩
  · rcases g with (e | ⟨y, y', f1, f2, f3, f4⟩) | ⟨y, f1, f2, f3⟩
    · exact Or.inr ⟨w, e1, e2, by rw [← e, e3]⟩
    · rw [e3] at f1; cases f1
    · rw [e3] at f1; cases f1
theorem stp_gD {d : Option DU} {a b : Option NV} (hd : ∀ y, d = some y → y.1 ≠ 2) (h : stp 0 d a = (a, false)) (v : gD a b) : stp 0 d b = (b, false) := by
  rcases v with v | ⟨w, e1, e2, e3⟩
  · exact stp_vD hd h v
  · subst e1 e3
    cases d with
    | none => rfl
    | some y =>
      exfalso
      have h : (if ownS y w then (some (ownV y w.2.2.2.2.1), false) else (some (ownV y 1), true)) = (some w, false) := h
      by_cases c : ownS y w
      · rw [if_pos c] at h
        have := congrArg (fun z : NV => z.1) (Option.some.inj (congrArg Prod.fst h))
        exact hd y rfl (this.trans e2)
      · rw [if_neg c] at h
        exact absurd (show true = false from congrArg Prod.snd h) (by decide)
theorem rm_v (hM : MV t) (hM' : MV t') (hr : r < cR t) (hr' : r < cR t') (hn : cN t r = n + 1) (hi : i ≤ n) (o : rmT r i n t t') (h2 : t.I 110 (2700 * r + i) = 2) : gD (Vt t r P) (Vt t' r P) := by
  have h9 := hM.nRo hr
  obtain ⟨m, e5, oI, oJ⟩ := o
  have en : cN t' r = n := by unfold cN; rw [e5, upd_s, nI_clamp (by omega)]
  have e : ∀ j, j < n → rvN t' (2700 * r + j) = rvN t (2700 * r + skI i j) ∧ pfR t' (2700 * r + j) = pfR t (2700 * r + skI i j) := fun j hj => by
    have sk : (if 2700 * r + i ≤ 2700 * r + j ∧ 2700 * r + j < 2700 * r + n then 2700 * r + j + 1 else 2700 * r + j) = 2700 * r + skI i j := by
      unfold skI
      by_cases c : j < i
      · rw [if_neg (by omega), if_pos c]
      · rw [if_pos (by omega), if_neg c]; rfl
    exact rvN_mv (fun g hg => by rw [oI g hg, sk]) fun g hg => by rw [oJ g hg, sk]
  have un : ∀ j j', j < cN t r → j' < cN t r → pfR t (2700 * r + j) = P → pfR t (2700 * r + j') = P → j = j' := fun j j' hj hj' a b => by
    have hs := (hM.r hr).2.2.2.2.2.2.2.2.2.2.2.2.2.2
    have ek : pfR t (2700 * r + j) = pfR t (2700 * r + j') := a.trans b.symm
    unfold pfR at ek
    have k1 := congrArg (fun z : Pf => z.1) ek
    have k2 := congrArg (fun z : Pf => z.2.1) ek
    have k3 := congrArg (fun z : Pf => z.2.2.1) ek
    have k4 := congrArg (fun z : Pf => z.2.2.2) ek
    dsimp only at k1 k2 k3 k4
    by_cases c1 : j < j'
    · have := hs j j' c1 hj'
      unfold mKy at this
      rw [k1, k2, k3, k4] at this
      exact absurd this (Nat.lt_irrefl _)
    · by_cases c2 : j' < j
      · have := hs j' j c2 hj
        unfold mKy at this
        rw [k1, k2, k3, k4] at this
        exact absurd this (Nat.lt_irrefl _)
      · omega
  by_cases c : ∃ j, j < cN t r ∧ pfR t (2700 * r + j) = P
  · obtain ⟨j, h1, hP⟩ := c
    by_cases cj : j = i
    · subst cj
      refine Or.inr ⟨_, Vt_some hM hr h1 hP, h2, Vt_none fun j' h' z => ?_⟩
      rw [en] at h'
      rw [(e j' h').2] at z
      have := un _ _ (show skI j j' < cN t r by unfold skI; split <;> omega) h1 z hP
      unfold skI at this
      split at this <;> omega
    · left
      left
      obtain ⟨j', hj', ej⟩ : ∃ j', j' < n ∧ skI i j' = j := by
        by_cases c2 : j < i
        · exact ⟨j, by omega, if_pos c2⟩
        · exact ⟨j - 1, by omega, by unfold skI; rw [if_neg (by omega)]; omega⟩
      rw [Vt_some hM hr h1 hP, Vt_some hM' hr' (j := j') (by rw [en]; exact hj') (by rw [(e j' hj').2, ej]; exact hP), (e j' hj').1, ej]
  · left
    left
    rw [Vt_none (t := t) (fun j h1 h2 => c ⟨j, h1, h2⟩), Vt_none (t := t')]
    intro j' h' z
    rw [en] at h'
    rw [(e j' h').2] at z
    exact c ⟨skI i j', by unfold skI; split <;> omega, z⟩
end Gd
