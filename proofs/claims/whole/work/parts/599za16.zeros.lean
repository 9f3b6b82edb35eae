/-! Zeros, on both sides. -/
/-- all zeros from a to before c -/
def zrF (g : Nat → Int32) (a c : Nat) : Prop := ∀ j, a ≤ j → j < c → g j = 0
section Zr
variable {sa : Nat → Nat} {b w cap kc ks : Nat} {s : cS} {L : List Int32} {Q : Int32 → cS → Nat → Nat → Prop} {t : moS}
theorem w_zer {a c : Nat} (hb : BL s b w L cap) (hc : c ≤ L.length) (hac : a ≤ c) (k1 : zrF (fun j => L.getD j 0) a c → Q 1 s kc ks) (k0 : ¬ zrF (fun j => L.getD j 0) a c → Q 0 s kc ks) : C_By_zerosAt sa b (nI a) (nI c) s kc ks Q := by
  have hL := hb.sm
  have o0 : okO s 0 b := hb.1
  unfold C_By_zerosAt C_By_zerosAt_b2
  intro P hP
  have loop : ∀ m j, j + m = c → a ≤ j → (∀ i, a ≤ i → i < j → L.getD i 0 = 0) → P (nI j) s kc ks := by
    intro m
    induction m with
    | zero =>
      intro j hj _ hz
      apply hP
      unfold C_By_zerosAt_s2
      exact ifF (nI_nlt (by omega) (by omega)) (k1 fun i h1 h2 => hz i h1 (by omega))
    | succ m ih =>
      intro j hj haj hz
      apply hP
      unfold C_By_zerosAt_s2
      refine ifT (nI_lt (by omega) (by omega)) ⟨o0, w_at hb (by omega) ?_⟩
      rw [← hb.gv (show j < L.length by omega)]
      by_cases c0 : L.getD j 0 = 0
      · refine ifT c0 ?_
        rw [nI_1]
        refine ih (j + 1) (by omega) (by omega) fun i h1 h2 => ?_
        by_cases e : i = j
        · subst e; exact c0
        · exact hz i h1 (by omega)
      · exact ifF c0 (k0 fun z => c0 (z j haj (by omega)))
  exact loop (c - a) a (by omega) (Nat.le_refl _) fun i h1 h2 => absurd h1 (by omega)
theorem m_zer {a c : Nat} (hN : t.N 149 = 700) (hc : c ≤ 700) (hac : a ≤ c) : (zrF (t.I 149) a c → M_areZeros t (nI a) (nI c) = some 1) ∧ (¬ zrF (t.I 149) a c → M_areZeros t (nI a) (nI c) = some 0) := by
  have st : ∀ (v : Int32) (j : Nat), (v = 0 ∨ v = 1) → j < c → M_areZeros_s5 t (nI c) v (nI j) = some (.inl ((if v = 1 ∧ t.I 149 j = 0 then 1 else 0), nI (j + 1))) := fun v j hv hj => by
    unfold M_areZeros_s5 M_areZeros_b29 M_areZeros_b30
    rw [if_pos (nI_lt hj (by omega))]
    rcases hv with rfl | rfl
    · rw [if_pos rfl, if_neg (fun z => absurd z.1 (by decide)), nI_1]
    · rw [if_neg (by decide), rdI_n hN (by omega) (by decide)]
      simp only [Option.bind_some]
      by_cases c0 : t.I 149 j = 0
      · rw [if_pos c0, if_pos ⟨trivial, c0⟩, nI_1]
      · rw [if_neg c0, if_neg (fun z => c0 z.2), nI_1]
  have loop : ∀ m j v, j + m = c → (v = 0 ∨ v = 1) → (((v = 1 ∧ zrF (t.I 149) j c) → M_areZeros_b5 t (nI c) v (nI j) = some 1) ∧ (¬ (v = 1 ∧ zrF (t.I 149) j c) → M_areZeros_b5 t (nI c) v (nI j) = some 0)) := by
    intro m
    induction m with
    | zero =>
      intro j v hj hv
      have e : M_areZeros_b5 t (nI c) v (nI j) = some v := by
        unfold M_areZeros_b5
        refine lp_x ?_
        show M_areZeros_s5 t (nI c) v (nI j) = _
        unfold M_areZeros_s5
        rw [if_neg (nI_nlt (by omega) (by omega))]
        unfold okZ
        rw [if_pos hv]
      refine ⟨fun z => by rw [e, z.1], fun z => ?_⟩
      rcases hv with rfl | rfl
      · exact e
      · exact absurd ⟨rfl, fun i h1 h2 => absurd h1 (by omega)⟩ z
    | succ m ih =>
      intro j v hj hv
      have e : M_areZeros_b5 t (nI c) v (nI j) = M_areZeros_b5 t (nI c) (if v = 1 ∧ t.I 149 j = 0 then 1 else 0) (nI (j + 1)) := by
        unfold M_areZeros_b5
        exact lp_l (f := fun x : Int32 × Int32 => M_areZeros_s5 t (nI c) x.1 x.2) (st v j hv (by omega))
      have hi := ih (j + 1) (if v = 1 ∧ t.I 149 j = 0 then 1 else 0) (by omega) (by split; exact Or.inr rfl; exact Or.inl rfl)
      rw [e]
      have iff : (v = 1 ∧ zrF (t.I 149) j c) ↔ ((if v = 1 ∧ t.I 149 j = 0 then (1 : Int32) else 0) = 1 ∧ zrF (t.I 149) (j + 1) c) := by
        constructor
        · rintro ⟨z1, z2⟩
          exact ⟨if_pos ⟨z1, z2 j (Nat.le_refl _) (by omega)⟩, fun i h1 h2 => z2 i (by omega) h2⟩
        · rintro ⟨z1, z2⟩
          by_cases d : v = 1 ∧ t.I 149 j = 0
          · refine ⟨d.1, fun i h1 h2 => ?_⟩
            by_cases ee : i = j
            · subst ee; exact d.2
            · exact z2 i (by omega) h2
          · rw [if_neg d] at z1
            exact absurd z1 (by decide)
      exact ⟨fun z => hi.1 (iff.mp z), fun z => hi.2 fun y => z (iff.mpr y)⟩
  have h := loop (c - a) a 1 (by omega) (Or.inr rfl)
  unfold M_areZeros
  exact ⟨fun z => h.1 ⟨rfl, z⟩, fun z => h.2 fun y => z y.2⟩
end Zr
