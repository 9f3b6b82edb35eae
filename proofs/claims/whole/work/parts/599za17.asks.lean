/-! A metric, and whether all is asked for: the class. -/
/-- an entry's metric -/
def meF (g : Nat → Int32) (f i : Nat) : Int64 := if f = 0 then nbF g (i + 16) 4 0 else Int32.toInt64 (g (i + 19))
section Me
variable {sa : Nat → Nat} {A b cap i f kc ks : Nat} {s : cS} {L : List Int32}
theorem w_met {Q : Int64 → cS → Nat → Nat → Prop} (kA : (s.K A).1 = 6) (hf : f = 0 ∨ f = 1) (i44 : s.I 44 A = fam (nI f)) (p40 : s.P 40 A = some b) (kb : (s.K b).1 = 3) (hb : BL s b 129 L cap) (hi : i + 20 ≤ L.length) (k : Q (meF (fun j => L.getD j 0) f i) s kc ks) : C_Da_metricAt sa A (nI i) s kc ks Q := by
  have hL := hb.sm
  have oA := okr kA 2
  have ob := okr kb 0
  unfold C_Da_metricAt
  refine ⟨_, gd_to oA, ?_⟩
  rw [show s.I (20 * 2 + 4) A = fam (nI f) from i44]
  rcases hf with rfl | rfl
  · refine ifT rfl ⟨_, gd_to oA, b, p40, ob, ?_⟩
    rw [show nI i + 16 = nI (i + 16) from nI_add i 16]
    refine w_numAt (n := 4) hb (by omega) ?_
    unfold meF at k
    rw [if_pos rfl] at k
    exact k
  · refine ifF (by decide) ⟨_, gd_to oA, b, p40, ob, ?_⟩
    rw [show nI i + 19 = nI (i + 19) from nI_add i 19]
    refine w_at hb (by omega) ?_
    rw [← hb.gv (show i + 19 < L.length by omega)]
    unfold meF at k
    rw [if_neg (by decide)] at k
    exact k
/-- all is asked for -/
def asF (g : Nat → Int32) (f o : Nat) : Prop := meF g f o = 16 ∧ zrF g o (o + if f = 0 then 2 else 19)
theorem w_asks {n : Nat} {Q : Int32 → cS → Nat → Nat → Prop} (kA : (s.K A).1 = 6) (hf : f = 0 ∨ f = 1) (i44 : s.I 44 A = fam (nI f)) (p40 : s.P 40 A = some b) (kb : (s.K b).1 = 3) (hb : BL s b 129 L cap) (i50 : s.I 50 A = nI i) (i51 : s.I 51 A = nI (i + n)) (hi : i + n ≤ L.length) (k1 : n = 20 → asF (fun j => L.getD j 0) f i → Q 1 s kc ks) (k0 : ¬ (n = 20 ∧ asF (fun j => L.getD j 0) f i) → Q 0 s kc ks) : C_Da_asksForAll sa A s kc ks Q := by
  have hL := hb.sm
  have oA := okr kA 2
  have ob := okr kb 0
  unfold C_Da_asksForAll
  refine ⟨_, gd_to oA, _, gd_to oA, ?_⟩
  rw [show s.I (20 * 2 + 11) A = nI (i + n) from i51, show s.I (20 * 2 + 10) A = nI i from i50]
  have en : nI (i + n) - nI i = nI n := by rw [pk_sub (by omega)]; congr 1; omega
  try dsimp only
  rw [en]
  by_cases c : n = 20
  rotate_left
  · exact ifF (fun z => c (nI_inj32 (by omega) (by decide) (z.trans (show (20 : Int32) = nI 20 from rfl)))) (k0 fun z => c z.1)
  subst c
  refine ifT rfl ⟨_, gd_to oA, oA, ?_⟩
  rw [show s.I (20 * 2 + 10) A = nI i from i50]
  refine w_met kA hf i44 p40 kb hb hi ?_
  by_cases c2 : meF (fun j => L.getD j 0) f i = 16
  rotate_left
  · exact ifF c2 (k0 fun z => c2 z.2.1)
  refine ifT c2 ⟨_, gd_to oA, ?_⟩
  rw [show s.I (20 * 2 + 4) A = fam (nI f) from i44]
  rcases hf with rfl | rfl
  · refine ifT rfl ⟨_, gd_to oA, _, gd_to oA, _, gd_to oA, b, p40, ob, ?_⟩
    rw [show s.I (20 * 2 + 10) A = nI i from i50]
    try dsimp only
    rw [show nI i + 2 = nI (i + 2) from nI_add i 2]
    exact w_zer hb (by omega) (by omega) (fun z => ⟨Or.inr rfl, k1 rfl ⟨c2, z⟩⟩) fun z => ⟨Or.inl rfl, k0 fun y => z y.2.2⟩
  · refine ifF (by decide) ⟨_, gd_to oA, _, gd_to oA, _, gd_to oA, b, p40, ob, ?_⟩
    rw [show s.I (20 * 2 + 10) A = nI i from i50]
    try dsimp only
    rw [show nI i + 19 = nI (i + 19) from nI_add i 19]
    exact w_zer hb (by omega) (by omega) (fun z => ⟨Or.inr rfl, k1 rfl ⟨c2, z⟩⟩) fun z => ⟨Or.inl rfl, k0 fun y => z y.2.2⟩
end Me
