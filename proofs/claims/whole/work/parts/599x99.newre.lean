/-! Readers that are new, as values. -/
def ovJ (v : Ov) (g : Nat) (i : Int64) : Ov := (v.1, v.2.1, fun k => if k = g then i else v.2.2.1 k, v.2.2.2)
def prNv (u : Nat) : Ov := ovI (ovJ (ovJ (ovI (ov0 (u, 0)) 100 4) 101 0) 102 0) 103 0
def rdNv (A : Nat → Nat) (p1 : Option Nat) : Ov := ovP (ovP (ovI (ovI (ovI (ovP (ovP (ovI (ovI (ovI (ovP (ovP (ov0 (22, 0)) 141 (some (A 141))) 142 (some (A 142))) 143 0) 144 0) 145 0) 146 (some (A 146))) 147 (some (A 147))) 148 (-1)) 149 (-1)) 150 0) 151 (some (A 151))) 140 p1
section Ne
variable {sa : Nat → Nat} {s0 s s' : cS} {a q u kc ks : Nat} {v : Ov} {L L1 L2 : List (Nat × Ov)}
theorem evJ {g k b : Nat} {i : Int64} : (cSJ s g a i).J k b = if k = g ∧ b = a then i else s.J k b := by
  by_cases c : b = a
  · subst c
    by_cases c2 : k = g
    · subst c2; rw [cSJ_s, if_pos ⟨rfl, rfl⟩]
    · rw [cSJ_g c2, if_neg (fun z => c2 z.1)]
  · rw [if_neg (fun z => c z.2)]
    by_cases c2 : k = g
    · subst c2; exact cSJ_a c
    · exact cSJ_g c2
theorem hp_sj (h : HP sa s0 (L1 ++ (a, v) :: L2) s) {g : Nat} {i : Int64} : HP sa s0 (L1 ++ (a, ovJ v g i) :: L2) (cSJ s g a i) := by
  refine hp_up h (fun b hb => ov_eq rfl (fun _ => rfl) (fun k => by rw [evJ, if_neg (fun z => hb z.2)]) (fun _ => rfl) rfl rfl) ?_ (hp_at h).2.2
  have := (hp_at h).1
  rw [← this]
  refine Prod.ext rfl (Prod.ext rfl (Prod.ext (funext fun k => ?_) rfl))
  show (cSJ s g a i).J k a = if k = g then i else s.J k a
  rw [evJ]
  by_cases c : k = g
  · rw [if_pos ⟨c, rfl⟩, if_pos c]
  · rw [if_neg (fun z => c z.1), if_neg c]
theorem hq_pJ {c k : Nat} {i : Int64} {f : cS → Prop} (h : HP sa s0 (L1 ++ (a, v) :: L2) s) (kk : ∀ s', HP sa s0 (L1 ++ (a, ovJ v (20 * c + k) i) :: L2) s' → f s') (hc : 1 ≤ v.1.1 ∧ v.1.1 < 100 ∧ cKn v.1.1 = c := by decide) : ob (pJ s c k a i) f := ⟨_, gd_to (hp_o h hc), kk _ (hp_sj h)⟩
theorem hq_Pr {f : cS → Nat → Nat → Prop} (h : HP sa s0 ((q, ov0 (u, 0)) :: L) s) (hu : 1 ≤ u ∧ u < 100 ∧ cKn u = 5) (kk : ∀ s', HP sa s0 ((q, prNv u) :: L) s' → f s' kc ks) : C_Pr_init sa q s kc ks f := by
  unfold C_Pr_init
  refine hq_pI (L1 := []) h (fun s1 h => ?_) hu
  refine hq_pJ (L1 := []) h (fun s2 h => ?_) hu
  refine hq_pJ (L1 := []) h (fun s3 h => ?_) hu
  exact hq_pI (L1 := []) h (fun s4 h => kk s4 h) hu
theorem hq_Re {f : cS → Nat → Nat → Prop} {p1 : Option Nat} (h : HP sa s0 ((q, ov0 (22, 0)) :: L) s) (hkc : 18 ≤ kc) (hks : 280 ≤ ks) (kk : ∀ (A C : Nat → Nat) (y : Nat → Nat → Option Nat) L' s' kc' ks', HP sa s0 L' s' → (∀ g, g ∈ L' ↔ g ∈ [(q, rdNv A p1), (A 141, ov0 (107, 24)), (A 142, ov0 (108, 24)), (A 146, prNv 19), (A 147, ov0 (127, 16)), (A 151, chNv 5 C), (C 21, ov0 (103, 16)), (C 23, ov0 (109, 4)), (C 24, ov0 (110, 4)), (C 25, ov0 (111, 4)), (C 26, ov0 (112, 4)), (C 27, ovM 142 (C 27) 4), (C 30, ov0 (113, 5)), (C 31, ov0 (119, 80))] ∨ g ∈ rwF (C 27) 126 16 y 4 ∨ g ∈ L) → kc ≤ kc' + 18 → ks ≤ ks' + 280 → f s' kc' ks') : C_Re_init sa q p1 s kc ks f := by
  have o22 : (1 : Nat) ≤ 22 ∧ (22 : Nat) < 100 ∧ cKn 22 = 7 := by decide
  unfold C_Re_init
  refine hq_nwA (n := 24) (u := 107) h (by decide) (by omega) (by omega) fun q1 s1 h => ?_
  refine hq_pP (L1 := [_]) h (fun s2 h => ?_) o22
  have h := hp_mv (L1 := [_]) h
  refine hq_nwA (n := 24) (u := 108) h (by decide) (by omega) (by omega) fun q3 s3 h => ?_
  refine hq_pP (L1 := [_]) h (fun s4 h => ?_) o22
  have h := hp_mv (L1 := [_]) h
  refine hq_pI (L1 := []) h (fun s5 h => ?_) o22
  refine hq_pI (L1 := []) h (fun s6 h => ?_) o22
  refine hq_pI (L1 := []) h (fun s7 h => ?_) o22
  refine hq_nwO (u := 19) h (by omega) (by omega) fun q8 s8 h => ?_
  refine ⟨hp_o (L1 := []) h (by decide), hq_Pr h (by decide) fun s9 h => ?_⟩
  refine hq_pP (L1 := [_]) h (fun s10 h => ?_) o22
  have h := hp_mv (L1 := [_]) h
  refine hq_nwA (n := 16) (u := 127) h (by decide) (by omega) (by omega) fun q11 s11 h => ?_
  refine hq_pP (L1 := [_]) h (fun s12 h => ?_) o22
  have h := hp_mv (L1 := [_]) h
  refine hq_pI (L1 := []) h (fun s13 h => ?_) o22
  refine hq_pI (L1 := []) h (fun s14 h => ?_) o22
  refine hq_pZ (L1 := []) h (fun s15 h => ?_) (Or.inl rfl) o22
  refine hq_nwO (u := 5) h (by omega) (by omega) fun q16 s16 h => ?_
  refine ⟨hp_o (L1 := []) h (by decide), hq_Ch h (by decide) (by omega) (by omega) fun C y LA s17 kc2 ks2 h hm hk1 hk2 => ?_⟩
  have h := hp_mv (L1 := _ :: LA) h
  refine hq_pP (L1 := []) h (fun s18 h => ?_) o22
  refine hq_pP (L1 := []) h (fun s19 h => ?_) o22
  obtain ⟨A, rfl, rfl, rfl, rfl, rfl⟩ : ∃ A : Nat → Nat, A 141 = q1 ∧ A 142 = q3 ∧ A 146 = q8 ∧ A 147 = q11 ∧ A 151 = q16 := ⟨fun g => if g = 141 then q1 else if g = 142 then q3 else if g = 146 then q8 else if g = 147 then q11 else q16, rfl, rfl, rfl, rfl, rfl⟩
  have h : HP sa s0 ((q, rdNv A p1) :: (((A 151, chNv 5 C) :: LA) ++ ((A 147, ov0 (127, 16)) :: (A 146, prNv 19) :: (A 142, ov0 (108, 24)) :: (A 141, ov0 (107, 24)) :: L))) s19 := h
  refine kk A C y _ s19 _ _ h (fun g => ?_) (by omega) (by omega)
  simp only [List.mem_append, List.mem_cons, List.not_mem_nil, or_false, hm g]
  exact iff_of_eq (by ac_rfl)
end Ne
