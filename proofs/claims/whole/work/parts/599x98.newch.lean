/-! Chains that are new, as values. -/
def chNv (u : Nat) (A : Nat → Nat) : Ov := ovP (ovP (ovI (ovP (ovP (ovP (ovP (ovP (ovP (ovI (ovP (ovI (ov0 (u, 0)) 20 0) 21 (some (A 21))) 22 0) 23 (some (A 23))) 24 (some (A 24))) 25 (some (A 25))) 26 (some (A 26))) 27 (some (A 27))) 28 none) 29 0) 30 (some (A 30))) 31 (some (A 31))
section Nc
variable {sa : Nat → Nat} {s0 s s' : cS} {q u kc ks : Nat} {L : List (Nat × Ov)}
theorem hq_Ch {f : cS → Nat → Nat → Prop} (h : HP sa s0 ((q, ov0 (u, 0)) :: L) s) (hu : 1 ≤ u ∧ u < 100 ∧ cKn u = 1) (hkc : 13 ≤ kc) (hks : 200 ≤ ks) (kk : ∀ (A : Nat → Nat) (y : Nat → Nat → Option Nat) LA s' kc' ks', HP sa s0 ((q, chNv u A) :: (LA ++ L)) s' → (∀ g, g ∈ LA ↔ g ∈ [(A 21, ov0 (103, 16)), (A 23, ov0 (109, 4)), (A 24, ov0 (110, 4)), (A 25, ov0 (111, 4)), (A 26, ov0 (112, 4)), (A 27, ovM 142 (A 27) 4), (A 30, ov0 (113, 5)), (A 31, ov0 (119, 80))] ∨ g ∈ rwF (A 27) 126 16 y 4) → kc ≤ kc' + 13 → ks ≤ ks' + 200 → f s' kc' ks') : C_Ch_init sa q s kc ks f := by
  unfold C_Ch_init
  refine hq_pZ (L1 := []) h (fun s1 h => ?_) (Or.inl rfl) hu
  refine hq_nwA (n := 16) (u := 103) h (by decide) (by omega) (by omega) fun q21 s2 h => ?_
  refine hq_pP (L1 := [_]) h (fun s3 h => ?_) hu
  refine hq_pI (L1 := [_]) h (fun s4 h => ?_) hu
  have h := hp_mv (L1 := [_]) h
  refine hq_nwA (n := 4) (u := 109) h (by decide) (by omega) (by omega) fun q23 s5 h => ?_
  refine hq_pP (L1 := [_]) h (fun s6 h => ?_) hu
  have h := hp_mv (L1 := [_]) h
  refine hq_nwA (n := 4) (u := 110) h (by decide) (by omega) (by omega) fun q24 s7 h => ?_
  refine hq_pP (L1 := [_]) h (fun s8 h => ?_) hu
  have h := hp_mv (L1 := [_]) h
  refine hq_nwA (n := 4) (u := 111) h (by decide) (by omega) (by omega) fun q25 s9 h => ?_
  refine hq_pP (L1 := [_]) h (fun s10 h => ?_) hu
  have h := hp_mv (L1 := [_]) h
  refine hq_nwA (n := 4) (u := 112) h (by decide) (by omega) (by omega) fun q26 s11 h => ?_
  refine hq_pP (L1 := [_]) h (fun s12 h => ?_) hu
  have h := hp_mv (L1 := [_]) h
  refine hq_nwM (u := 142) (v := 126) h (by decide) (by decide) (by omega) (by omega) fun q27 y s13 h => ?_
  have h := hp_mv (L1 := _ :: rwF q27 126 16 y 4) h
  refine hq_pP (L1 := []) h (fun s14 h => ?_) hu
  refine hq_pP (L1 := []) h (fun s15 h => ?_) hu
  refine hq_pI (L1 := []) h (fun s16 h => ?_) hu
  refine hq_nwA (n := 5) (u := 113) h (by decide) (by omega) (by omega) fun q30 s17 h => ?_
  refine hq_pP (L1 := [_]) h (fun s18 h => ?_) hu
  have h := hp_mv (L1 := [_]) h
  refine hq_nwA (n := 80) (u := 119) h (by decide) (by omega) (by omega) fun q31 s19 h => ?_
  refine hq_pP (L1 := [_]) h (fun s20 h => ?_) hu
  have h := hp_mv (L1 := [_]) h
  obtain ⟨A, rfl, rfl, rfl, rfl, rfl, rfl, rfl, rfl⟩ : ∃ A : Nat → Nat, A 21 = q21 ∧ A 23 = q23 ∧ A 24 = q24 ∧ A 25 = q25 ∧ A 26 = q26 ∧ A 27 = q27 ∧ A 30 = q30 ∧ A 31 = q31 := ⟨fun g => if g = 21 then q21 else if g = 23 then q23 else if g = 24 then q24 else if g = 25 then q25 else if g = 26 then q26 else if g = 27 then q27 else if g = 30 then q30 else q31, rfl, rfl, rfl, rfl, rfl, rfl, rfl, rfl⟩
  have h : HP sa s0 ((q, chNv u A) :: (((A 31, ov0 (119, 80)) :: (A 30, ov0 (113, 5)) :: (A 27, ovM 142 (A 27) 4) :: (rwF (A 27) 126 16 y 4 ++ [(A 26, ov0 (112, 4)), (A 25, ov0 (111, 4)), (A 24, ov0 (110, 4)), (A 23, ov0 (109, 4)), (A 21, ov0 (103, 16))])) ++ L)) s20 := h
  refine kk A y ((A 31, ov0 (119, 80)) :: (A 30, ov0 (113, 5)) :: (A 27, ovM 142 (A 27) 4) :: (rwF (A 27) 126 16 y 4 ++ [(A 26, ov0 (112, 4)), (A 25, ov0 (111, 4)), (A 24, ov0 (110, 4)), (A 23, ov0 (109, 4)), (A 21, ov0 (103, 16))])) s20 _ _ h (fun g => ?_) (by omega) (by omega)
  simp only [List.mem_append, List.mem_cons, List.not_mem_nil, or_false]
  exact iff_of_eq (by ac_rfl)
end Nc
