/-! A link that is new. -/
section Ev
variable {s : cS} {g k a b i j : Nat}
theorem evI {v : Int32} : (cSI s g a v).I k b = if k = g ∧ b = a then v else s.I k b := by
  by_cases c : b = a
  · subst c
    by_cases c2 : k = g
    · subst c2; rw [cSI_s, if_pos ⟨rfl, rfl⟩]
    · rw [cSI_g c2, if_neg (fun z => c2 z.1)]
  · rw [cSI_o c, if_neg (fun z => c z.2)]
theorem evP {v : Option Nat} : (cSP s g a v).P k b = if k = g ∧ b = a then v else s.P k b := by
  by_cases c : b = a
  · subst c
    by_cases c2 : k = g
    · subst c2; rw [cSP_s, if_pos ⟨rfl, rfl⟩]
    · rw [cSP_g c2, if_neg (fun z => c2 z.1)]
  · rw [cSP_o c, if_neg (fun z => c z.2)]
theorem evIP {v : Option Nat} : (cSP s g a v).I k b = s.I k b := rfl
theorem evPI {v : Int32} : (cSI s g a v).P k b = s.P k b := rfl
theorem evKI {v : Int32} : (cSI s g a v).K b = s.K b := rfl
theorem evKP {v : Option Nat} : (cSP s g a v).K b = s.K b := rfl
theorem evKN {u : Nat × Nat} : (cNw s a u).K b = if b = a then u else s.K b := rfl
theorem evIN {u : Nat × Nat} : (cNw s a u).I k b = if b = a then 0 else s.I k b := rfl
theorem evPN {u : Nat × Nat} : (cNw s a u).P k b = if b = a then none else s.P k b := rfl
theorem evEI {v : Int32} : (cSI s g a v).E b = s.E b := rfl
theorem evEP {v : Option Nat} : (cSP s g a v).E b = s.E b := rfl
theorem evEN {u : Nat × Nat} : (cNw s a u).E b = if b = a then (fun _ => 0) else s.E b := rfl
theorem evQI {v : Int32} : (cSI s g a v).Q b = s.Q b := rfl
theorem evQP {v : Option Nat} : (cSP s g a v).Q b = s.Q b := rfl
theorem evQN {u : Nat × Nat} : (cNw s a u).Q b = if b = a then (fun _ => none) else s.Q b := rfl
end Ev
section Lk
variable {G H : Nat → Nat → Nat} {sa : Nat → Nat} {rd x kc ks : Nat} {s : cS} {t : moS}
theorem w_Li {Q : cS → Nat → Nat → Prop} {q : Nat} {p1 : Option Nat} {p2 p3 p4 : Int32} (hq : okO s 3 q) (hkc : 2 ≤ kc) (hks : 18 ≤ ks) (k : ∀ b d s', cFr sa s b → cFr sa s d → b ≠ d → exA [q, b, d] s s' → s'.K q = s.K q → s'.K b = (2, 0) → s'.K d = (125, 16) → s'.P 0 b = some d → s'.I 1 b = 0 → s'.I 64 q = 1 → s'.I 65 q = 0 → s'.I 66 q = 0 → s'.P 67 q = some b → s'.P 60 q = p1 → s'.I 61 q = mxI p2 1 → s'.I 62 q = mxI p3 0 → s'.I 63 q = p4 → Q s' (kc - 1 - 1) (ks - 2 - 16)) : C_Li_init sa q p1 p2 p3 p4 s kc ks Q := by
  have hq0 := hq.n0
  unfold C_Li_init
  refine ⟨_, gd_to ⟨hq, Or.inr rfl⟩, _, gd_to hq, _, gd_to hq, by omega, by omega, 2, by decide, fun b hb => ?_⟩
  have hbq : b ≠ q := fun e => hq0 (by rw [← e]; exact hb.1)
  have ob : okO (cNw (cSI (cSI (cSI s (20 * 3 + 4) q 1) (20 * 3 + 5) q 0) (20 * 3 + 6) q 0) b (2, 0)) 0 b := by unfold okO; rw [cNw_ks]; decide
  refine ⟨ob, ?_⟩
  unfold C_By_init
  refine ifF (by decide) ?_
  unfold C_By_init_b17
  refine ⟨16, rfl, by decide, by omega, by omega, 125, by decide, fun d hd => ?_⟩
  have hdb : d ≠ b := fun e => by have := hd.1; rw [e, cNw_ks] at this; exact absurd this (by decide)
  have hds : (s.K d).1 = 0 := by have := hd.1; rw [cNw_kn hdb] at this; exact this
  have hdq : d ≠ q := fun e => hq0 (by rw [← e]; exact hds)
  have ob2 : okO (cNw (cNw (cSI (cSI (cSI s (20 * 3 + 4) q 1) (20 * 3 + 5) q 0) (20 * 3 + 6) q 0) b (2, 0)) d (125, 16)) 0 b := okO.nw ob hd.1
  have oq2 : okO (cNw (cNw (cSI (cSI (cSI s (20 * 3 + 4) q 1) (20 * 3 + 5) q 0) (20 * 3 + 6) q 0) b (2, 0)) d (125, 16)) 3 q := okO.nw (okO.nw (show okO (cSI (cSI (cSI s (20 * 3 + 4) q 1) (20 * 3 + 5) q 0) (20 * 3 + 6) q 0) 3 q from hq) hb.1) hd.1
  refine ⟨_, rfl, _, gd_to ob2, _, gd_to ob2, _, gd_to oq2, _, gd_to oq2, _, gd_to oq2, _, gd_to oq2, _, gd_to oq2, k b d _ hb ⟨hds, hd.2⟩ (fun e => hdb e.symm) ?_ ?_ ?_ ?_ ?_ ?_ ?_ ?_ ?_ ?_ ?_ ?_ ?_ ?_⟩
  · exact (exA.si (by simp)).tr ((exA.si (by simp)).tr ((exA.si (by simp)).tr ((exA.nw (by simp)).tr ((exA.nw (by simp)).tr ((exA.sp (by simp)).tr ((exA.si (by simp)).tr ((exA.sp (by simp)).tr ((exA.sp (by simp)).tr ((exA.si (by simp)).tr ((exA.si (by simp)).tr (exA.si (by simp))))))))))))
  all_goals simp [evI, evP, evIP, evPI, evKI, evKP, evKN, evIN, evPN, hbq, hdb, hdq, hbq.symm, hdb.symm, hdq.symm]
end Lk
