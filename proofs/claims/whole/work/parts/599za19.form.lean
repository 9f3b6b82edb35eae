/-! A datagram's form, on both sides. -/
def wfF (g : Nat → Int32) (n f : Nat) : Prop := 24 ≤ n ∧ n = 4 + 20 * ((n - 4) / 20) ∧ (n - 4) / 20 ≤ (if f = 0 then 28 else 25) ∧ (g 0 = 1 ∨ g 0 = 2) ∧ g 1 = (if f = 0 then 2 else 1) ∧ g 2 = 0 ∧ g 3 = 0
theorem w_at' {sa : Nat → Nat} {b w cap kc ks i : Nat} {s : cS} {l : List Int32} {Q : Int32 → cS → Nat → Nat → Prop} (hb : BL s b w l cap) (hi : i < 2 ^ 31) (k : Q (if i < l.length then l.getD i 0 else -1) s kc ks) : C_By_at sa b (nI i) s kc ks Q := by
  by_cases c : i < l.length
  · rw [if_pos c, hb.gv c] at k
    exact w_at hb c k
  · rw [if_neg c] at k
    have hs := hb.sm
    obtain ⟨a1, a2, d, a3, a4, a5, a6, a7, a8, a9⟩ := hb
    unfold C_By_at
    refine ifF (nI_pos (by omega)) ⟨_, gd_to a1, ?_⟩
    show if nI i < s.I 1 b then _ else _
    rw [a5]
    exact ifF (nI_nlt (by omega) (by omega)) k
theorem n4_sm : ∀ n, n < 4 → ¬ nI n = 4 + ((nI n - 4) / 20) * 20 := by decide
theorem wf_d {n : Nat} (h : 4 ≤ n) (hn : n ≤ 700) : (nI n - 4) / 20 = nI ((n - 4) / 20) := by
  rw [show nI n - 4 = nI (n - 4) from pk_sub (b := 4) h]
  exact pk_div (d := 20) (by omega) (by omega) (by omega)
section Wf
variable {sa : Nat → Nat} {A b cap f kc ks : Nat} {s : cS} {L : List Int32}
theorem w_wf {Q : Int32 → cS → Nat → Nat → Prop} (kA : (s.K A).1 = 6) (hf : f = 0 ∨ f = 1) (i44 : s.I 44 A = fam (nI f)) (p40 : s.P 40 A = some b) (kb : (s.K b).1 = 3) (hb : BL s b 129 L cap) (hc : L.length ≤ 600) (k1 : wfF (fun j => L.getD j 0) L.length f → Q 1 s kc ks) (k0 : ¬ wfF (fun j => L.getD j 0) L.length f → Q 0 s kc ks) : C_Da_isWellFormed sa A s kc ks Q := by
  have oA := okr kA 2
  have ob := okr kb 0
  have i1 : s.I 1 b = nI L.length := by obtain ⟨-, -, d, -, -, h, -⟩ := hb; exact h
  unfold C_Da_isWellFormed
  refine ⟨_, gd_to oA, b, p40, _, gd_to ob, _, gd_to oA, b, p40, ob, w_at' (i := 0) hb (by decide) ⟨_, gd_to oA, b, p40, _, gd_to ob, ?_⟩⟩
  rw [show s.I (20 * 0 + 1) b = nI L.length from i1]
  by_cases c4 : L.length < 4
  · exact ifF (n4_sm _ c4) (k0 (fun z => by have := z.1; omega))
  rw [wf_d (by omega) (by omega)]
  by_cases c1 : L.length = 4 + 20 * ((L.length - 4) / 20)
  rotate_left
  · refine ifF (fun z => c1 ?_) (k0 (fun z => c1 z.2.1))
    rw [show (20 : Int32) = nI 20 from rfl, pk_mul, show (4 : Int32) = nI 4 from rfl, nI_add] at z
    have := nI_inj z (by omega) (by omega)
    omega
  refine ifT ?_ ?_
  · rw [show (20 : Int32) = nI 20 from rfl, pk_mul, show (4 : Int32) = nI 4 from rfl, nI_add]
    exact congrArg nI (by omega)
  generalize hm : (L.length - 4) / 20 = m at c1
  by_cases c2 : m < 1
  · exact ifT (nI_lt (b := 1) c2 (by decide)) (k0 (fun z => by have := z.1; omega))
  refine ifF (nI_nlt (b := 1) (by omega) (by omega)) ⟨_, gd_to oA, ?_⟩
  rw [if_pos (show 0 < L.length by omega), show s.I (20 * 2 + 4) A = fam (nI f) from i44]
  have zz : zrF (fun j => L.getD j 0) 2 4 ↔ L.getD 2 0 = 0 ∧ L.getD 3 0 = 0 := by
    constructor
    · intro h
      exact ⟨h 2 (by omega) (by omega), h 3 (by omega) (by omega)⟩
    · intro h j h1 h2
      rcases (show j = 2 ∨ j = 3 by omega) with rfl | rfl
      · exact h.1
      · exact h.2
  have end93 : ∀ (u : Int32), (u = if f = 0 then 2 else 1) → m ≤ (if f = 0 then 28 else 25) → (L.getD 0 0 = 1 ∨ L.getD 0 0 = 2) → C_Da_isWellFormed_b93 sa A (L.getD 1 0) u s kc ks Q := fun u hu hm2 h0 => by
    unfold C_Da_isWellFormed_b93
    by_cases c : L.getD 1 0 = u
    · refine ifT c ⟨_, gd_to oA, b, p40, ob, w_zer (a := 2) (c := 4) hb (by omega) (by omega) (fun h => ?_) (fun h => ?_)⟩
      · exact ifF (by decide) (k1 ⟨by omega, by rw [hm]; exact c1, by rw [hm]; exact hm2, h0, c.trans hu, zz.mp h⟩)
      · exact ifT rfl (k0 (fun z => h (zz.mpr z.2.2.2.2.2)))
    · exact ifF c (k0 (fun z => c (z.2.2.2.2.1.trans hu.symm)))
  have end72 : m ≤ (if f = 0 then 28 else 25) → (L.getD 0 0 = 1 ∨ L.getD 0 0 = 2) → C_Da_isWellFormed_b72 sa A s kc ks Q := fun hm2 h0 => by
    unfold C_Da_isWellFormed_b72
    refine ⟨_, gd_to oA, b, p40, ob, w_at' (i := 1) hb (by decide) ⟨_, gd_to oA, ?_⟩⟩
    rw [if_pos (show 1 < L.length by omega), show s.I (20 * 2 + 4) A = fam (nI f) from i44]
    rcases hf with rfl | rfl
    · exact ifT rfl (end93 2 rfl hm2 h0)
    · exact ifF (by decide) (end93 1 rfl hm2 h0)
  have end59 : ∀ (v : Nat), (v = if f = 0 then 28 else 25) → C_Da_isWellFormed_b59 sa A (L.getD 0 0) (nI m) (nI v) s kc ks Q := fun v hv => by
    have hv2 : v ≤ 28 := by rw [hv]; split <;> omega
    unfold C_Da_isWellFormed_b59
    by_cases c : v < m
    · exact ifT (nI_lt c (by omega)) (k0 (fun z => by have := z.2.2.1; rw [hm, ← hv] at this; omega))
    refine ifF (nI_nlt (by omega) (by omega)) ?_
    have hm2 : m ≤ (if f = 0 then 28 else 25) := by rw [← hv]; omega
    by_cases d1 : L.getD 0 0 = 1
    · exact ifT d1 (end72 hm2 (Or.inl d1))
    by_cases d2 : L.getD 0 0 = 2
    · exact ifF d1 (ifT d2 (end72 hm2 (Or.inr d2)))
    · exact ifF d1 (ifF d2 (k0 (fun z => z.2.2.2.1.elim d1 d2)))
  rcases hf with rfl | rfl
  · exact ifT rfl (end59 28 rfl)
  · exact ifF (by decide) (end59 25 rfl)
end Wf
