/-! Words that are names, or a given text. -/
theorem alC_nm {v : Nat} (h : alC v) : nmC (nI v) ∧ nI v ≠ 42 := by
  refine ⟨⟨v, rfl, by unfold alC at h; omega⟩, fun z => ?_⟩
  unfold alC at h
  have := (nI_eq (a := v) (b := 42) (by omega) (by omega)).mp z
  omega
theorem nm_alC {v : Nat} (hv : v < 256) (h : nmC (nI v)) (h2 : nI v ≠ 42) : alC v := by
  obtain ⟨j, e, hj⟩ := h
  have := (nI_eq (a := v) (b := j) (by omega) (by omega)).mp e
  subst this
  unfold alC
  have : v ≠ 42 := fun z => h2 (by rw [z]; rfl)
  omega
theorem wU_mem {u : Nat → Nat} {a n : Nat} {c : Int32} (h : c ∈ wU u a n) : ∃ k, k < n ∧ c = nI (u (a + k)) := by
  unfold wU tl at h
  obtain ⟨k, hk, e⟩ := List.mem_map.mp h
  exact ⟨k, List.mem_range.mp hk, e.symm⟩
theorem mem_wU {u : Nat → Nat} {a n k : Nat} (h : k < n) : nI (u (a + k)) ∈ wU u a n := List.mem_map.mpr ⟨k, List.mem_range.mpr h, rfl⟩
theorem cdL_n0 {y : List Int32} (hy : ∀ c ∈ y, nmC c) (h1 : 1 ≤ y.length) (h2 : y.length ≤ 12) : cdL y ≠ 0 := fun z => by
  have : y = [] := cdL_inj (y := []) hy (fun c hc => by cases hc) h2 (by decide) z
  rw [this] at h1
  exact absurd h1 (by decide)
/-- a word has the number of a text if it is that text -/
theorem cdW_eq {u : Nat → Nat} (hu : ∀ i, u i < 256) {a n : Nat} {y : List Int32} (hy : y = [42] ∨ ∀ c ∈ y, nmC c ∧ c ≠ 42) (h1 : 1 ≤ y.length) (h2 : y.length ≤ 12) : cdW u a n = cdL y ↔ wU u a n = y := by
  have hyn : ∀ c ∈ y, nmC c := fun c hc => by
    rcases hy with e | e
    · rw [e] at hc
      rw [List.mem_singleton.mp hc]
      exact ⟨42, rfl, by omega⟩
    · exact (e c hc).1
  unfold cdW
  by_cases c1 : n = 1 ∧ u a = 42
  · rw [if_pos c1]
    have e : wU u a n = [42] := by
      rw [c1.1]
      show [nI (u (a + 0))] = [42]
      rw [Nat.add_zero, c1.2]
      rfl
    rw [e]
    constructor
    · intro h
      exact cdL_inj (x := [42]) (fun c hc => by rw [List.mem_singleton.mp hc]; exact ⟨42, rfl, by omega⟩) hyn (by decide) h2 (by rw [← h]; decide)
    · intro h
      rw [← h]; decide
  rw [if_neg c1]
  by_cases c2 : n ≤ 12 ∧ ∀ k, k < n → alC (u (a + k))
  · rw [if_pos c2]
    constructor
    · intro h
      refine cdL_inj (fun c hc => ?_) hyn (by rw [wU_len]; exact c2.1) h2 h
      obtain ⟨k, hk, e⟩ := wU_mem hc
      rw [e]; exact (alC_nm (c2.2 k hk)).1
    · intro h; rw [h]
  · rw [if_neg c2]
    constructor
    · intro h; exact absurd h.symm (cdL_n0 hyn h1 h2)
    · intro h
      exfalso
      have hl : n = y.length := by rw [← h, wU_len]
      rcases hy with e | e
      · have hn1 : n = 1 := by rw [hl, e]; rfl
        refine c1 ⟨hn1, ?_⟩
        have := mem_wU (u := u) (a := a) (n := n) (k := 0) (by omega)
        rw [h, e, Nat.add_zero] at this
        have hua := hu a
        exact (nI_eq (b := 42) (by omega) (by omega)).mp (List.mem_singleton.mp this)
      · refine c2 ⟨by omega, fun k hk => ?_⟩
        have := mem_wU (u := u) (a := a) hk
        rw [h] at this
        exact nm_alC (hu _) (e _ this).1 (e _ this).2
section Nz
variable {H : Nat → Nat → Nat} {sa : Nat → Nat} {rd x kc ks : Nat} {s : cS} {l : List Int32} {ws : List (Nat × Nat)} {Q : Int32 → cS → Nat → Nat → Prop}
theorem w_isName (h : RdC H x rd s l ws) {i : Nat} (hi : i < 2 ^ 31) (k1 : i < ws.length → i < 24 → (ws.getD i (0, 0)).2 - (ws.getD i (0, 0)).1 ≤ 12 → (∀ j, (ws.getD i (0, 0)).1 ≤ j → j < (ws.getD i (0, 0)).2 → alC (vc l j)) → Q 1 s kc ks) (k0 : ¬ (i < ws.length ∧ i < 24 ∧ (ws.getD i (0, 0)).2 - (ws.getD i (0, 0)).1 ≤ 12 ∧ ∀ j, (ws.getD i (0, 0)).1 ≤ j → j < (ws.getD i (0, 0)).2 → alC (vc l j)) → Q 0 s kc ks) : C_Re_isName sa rd (nI i) s kc ks Q := by
  unfold C_Re_isName
  refine ⟨h.2.1.1, w_isWord h hi (fun c1 c2 => ?_) (fun c => ifT rfl (k0 (fun z => c ⟨z.1, z.2.1⟩)))⟩
  obtain ⟨⟨cap, hb⟩, ⟨o1, o2⟩, ⟨p1, p2⟩, -, -, -, hv, -⟩ := id h
  have hs := hb.sm
  obtain ⟨v1, v2⟩ := hv i c1
  refine ifF (by decide) (w_bb h c1 c2 (w_ba h c1 c2 ?_))
  generalize hA : (ws.getD i (0, 0)).1 = a at v1 k1 k0
  generalize hB : (ws.getD i (0, 0)).2 = b at v1 v2 k1 k0
  rw [pk_sub (by omega)]
  by_cases c12 : 12 < b - a
  · exact ifT (nI_lt (a := 12) c12 (by omega)) (k0 (fun z => by omega))
  refine ifF (nI_nlt (a := 12) (by omega) (by omega)) (w_ba h c1 c2 ?_)
  rw [hA]
  unfold C_Re_isName_b35
  intro P hP
  have loop : ∀ q j, j + q = b → a ≤ j → (∀ m, a ≤ m → m < j → alC (vc l m)) → P (nI j) s kc ks := by
    intro q
    induction q with
    | zero =>
      intro j hj haj hal
      apply hP
      unfold C_Re_isName_s35
      refine w_bb h c1 c2 ?_
      rw [hB]
      exact ifF (nI_nlt (by omega) (by omega)) (k1 c1 c2 (by omega) (fun m h1 h2 => hal m h1 (by omega)))
    | succ q ih =>
      intro j hj haj hal
      have hvl := vc_lt l j
      apply hP
      unfold C_Re_isName_s35
      refine w_bb h c1 c2 ?_
      rw [hB]
      refine ifT (nI_lt (by omega) (by omega)) ⟨_, gd_to o1, _, p1, _, gd_to o2, _, p2, hb.1, w_at hb (by omega) ?_⟩
      have go : alC (vc l j) → C_Re_isName_b83 sa rd (nI i) (nI j) s kc ks Q P := by
        intro hc
        unfold C_Re_isName_b83
        rw [nI_1]
        refine ih (j + 1) (by omega) (by omega) (fun m h1 h2 => ?_)
        by_cases em : m = j
        · rw [em]; exact hc
        · exact hal m h1 (by omega)
      have no : ¬ alC (vc l j) → Q 0 s kc ks := fun hc => k0 (fun z => hc (z.2.2.2 j haj (by omega)))
      have b69 : ¬ (97 ≤ vc l j ∧ vc l j ≤ 122) → C_Re_isName_b69 sa rd (nI i) (nI j) (nI (vc l j)) s kc ks Q P := by
        intro hc
        unfold C_Re_isName_b69
        by_cases d1 : vc l j < 48
        · exact ifT (nI_lt (b := 48) d1 (by omega)) (no (by unfold alC; omega))
        refine ifF (nI_nlt (b := 48) (by omega) (by omega)) ?_
        by_cases d2 : 57 < vc l j
        · exact ifT (nI_lt (a := 57) d2 (by omega)) (no (by unfold alC; omega))
        · exact ifF (nI_nlt (a := 57) (by omega) (by omega)) (go (Or.inr (by omega)))
      by_cases d1 : vc l j < 97
      · exact ifT (nI_lt (b := 97) d1 (by omega)) (b69 (by omega))
      refine ifF (nI_nlt (b := 97) (by omega) (by omega)) ?_
      by_cases d2 : 122 < vc l j
      · exact ifT (nI_lt (a := 122) d2 (by omega)) (b69 (by omega))
      · exact ifF (nI_nlt (a := 122) (by omega) (by omega)) (go (Or.inl (by omega)))
  exact loop (b - a) a (by omega) (Nat.le_refl _) (fun m h1 h2 => by omega)
end Nz
