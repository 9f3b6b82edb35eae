/-! Ports that are new, as values. -/
def poNv (A : Nat → Nat) (p1 : Option Nat) : Ov := ovP (ovI (ovP (ovP (ovI (ovI (ovI (ovI (ovP (ovP (ovP (ovI (ovP (ovP (ovI (ovI (ovI (ovP (ovP (ov0 (8, 0)) 81 none) 82 none) 83 1) 84 2) 85 0) 86 (some (A 86))) 87 (some (A 87))) 88 0) 89 (some (A 89))) 90 (some (A 90))) 91 (some (A 91))) 92 0) 93 0) 94 0) 95 0) 96 (some (A 96))) 97 (some (A 97))) 98 0) 80 p1
section Np
variable {sa : Nat → Nat} {s0 s s' : cS} {a q u kc ks : Nat} {L : List (Nat × Ov)}
theorem hq_Po {f : cS → Nat → Nat → Prop} {p1 : Option Nat} (h : HP sa s0 ((q, ov0 (8, 0)) :: L) s) (hkc : 20 ≤ kc) (hks : 240 ≤ ks) (kk : ∀ (A C : Nat → Nat) (y : Nat → Nat → Option Nat) LA s' kc' ks', HP sa s0 ((q, poNv A p1) :: (LA ++ L)) s' → (∀ g, g ∈ LA ↔ g ∈ [(A 86, chNv 4 C), (A 87, ov0 (136, 4)), (A 89, ov0 (114, 4)), (A 90, ov0 (116, 4)), (A 91, ov0 (137, 4)), (A 96, ov0 (115, 4)), (A 97, ov0 (120, 4)), (C 21, ov0 (103, 16)), (C 23, ov0 (109, 4)), (C 24, ov0 (110, 4)), (C 25, ov0 (111, 4)), (C 26, ov0 (112, 4)), (C 27, ovM 142 (C 27) 4), (C 30, ov0 (113, 5)), (C 31, ov0 (119, 80))] ∨ g ∈ rwF (C 27) 126 16 y 4) → kc ≤ kc' + 20 → ks ≤ ks' + 240 → f s' kc' ks') : C_Po_init sa q p1 s kc ks f := by
  have o8 : (1 : Nat) ≤ 8 ∧ (8 : Nat) < 100 ∧ cKn 8 = 4 := by decide
  unfold C_Po_init
  refine hq_pP (L1 := []) h (fun s1 h => ?_) o8
  refine hq_pP (L1 := []) h (fun s2 h => ?_) o8
  refine hq_pI (L1 := []) h (fun s3 h => ?_) o8
  refine hq_pI (L1 := []) h (fun s4 h => ?_) o8
  refine hq_pZ (L1 := []) h (fun s5 h => ?_) (Or.inl rfl) o8
  refine hq_nwO (u := 4) h (by omega) (by omega) fun q6 s6 h => ?_
  refine ⟨hp_o (L1 := []) h (by decide), hq_Ch h (by decide) (by omega) (by omega) fun C y LC s7 kc2 ks2 h hm hk1 hk2 => ?_⟩
  have h := hp_mv (L1 := _ :: LC) h
  refine hq_pP (L1 := []) h (fun s8 h => ?_) o8
  refine hq_nwQ (n := 4) (u := 136) h (by decide) (by omega) (by omega) fun q9 s9 h => ?_
  refine hq_pP (L1 := [_]) h (fun s10 h => ?_) o8
  refine hq_pI (L1 := [_]) h (fun s11 h => ?_) o8
  have h := hp_mv (L1 := [_]) h
  refine hq_nwA (n := 4) (u := 114) h (by decide) (by omega) (by omega) fun q12 s12 h => ?_
  refine hq_pP (L1 := [_]) h (fun s13 h => ?_) o8
  have h := hp_mv (L1 := [_]) h
  refine hq_nwA (n := 4) (u := 116) h (by decide) (by omega) (by omega) fun q14 s14 h => ?_
  refine hq_pP (L1 := [_]) h (fun s15 h => ?_) o8
  have h := hp_mv (L1 := [_]) h
  refine hq_nwQ (n := 4) (u := 137) h (by decide) (by omega) (by omega) fun q16 s16 h => ?_
  refine hq_pP (L1 := [_]) h (fun s17 h => ?_) o8
  have h := hp_mv (L1 := [_]) h
  refine hq_pI (L1 := []) h (fun s18 h => ?_) o8
  refine hq_pI (L1 := []) h (fun s19 h => ?_) o8
  refine hq_pZ (L1 := []) h (fun s20 h => ?_) (Or.inl rfl) o8
  refine hq_pI (L1 := []) h (fun s21 h => ?_) o8
  refine hq_nwA (n := 4) (u := 115) h (by decide) (by omega) (by omega) fun q22 s22 h => ?_
  refine hq_pP (L1 := [_]) h (fun s23 h => ?_) o8
  have h := hp_mv (L1 := [_]) h
  refine hq_nwA (n := 4) (u := 120) h (by decide) (by omega) (by omega) fun q24 s24 h => ?_
  refine hq_pP (L1 := [_]) h (fun s25 h => ?_) o8
  have h := hp_mv (L1 := [_]) h
  refine hq_pI (L1 := []) h (fun s26 h => ?_) o8
  refine hq_pP (L1 := []) h (fun s27 h => ?_) o8
  obtain ⟨A, rfl, rfl, rfl, rfl, rfl, rfl, rfl⟩ : ∃ A : Nat → Nat, A 86 = q6 ∧ A 87 = q9 ∧ A 89 = q12 ∧ A 90 = q14 ∧ A 91 = q16 ∧ A 96 = q22 ∧ A 97 = q24 := ⟨fun g => if g = 86 then q6 else if g = 87 then q9 else if g = 89 then q12 else if g = 90 then q14 else if g = 91 then q16 else if g = 96 then q22 else q24, rfl, rfl, rfl, rfl, rfl, rfl, rfl⟩
  have h : HP sa s0 ((q, poNv A p1) :: ((A 97, ov0 (120, 4)) :: (A 96, ov0 (115, 4)) :: (A 91, ov0 (137, 4)) :: (A 90, ov0 (116, 4)) :: (A 89, ov0 (114, 4)) :: (A 87, ov0 (136, 4)) :: (A 86, chNv 4 C) :: (LC ++ L))) s27 := h
  refine kk A C y ((A 97, ov0 (120, 4)) :: (A 96, ov0 (115, 4)) :: (A 91, ov0 (137, 4)) :: (A 90, ov0 (116, 4)) :: (A 89, ov0 (114, 4)) :: (A 87, ov0 (136, 4)) :: (A 86, chNv 4 C) :: LC) s27 _ _ h (fun g => ?_) (by omega) (by omega)
  simp only [List.mem_append, List.mem_cons, List.not_mem_nil, or_false, hm g]
  exact iff_of_eq (by ac_rfl)
end Np
