/-! Routers by name, in the class. -/
section Cn
variable {G H : Nat → Nat → Nat} {sa : Nat → Nat} {rd x kc ks : Nat} {s : cS} {t : moS} {l : List Int32} {ws : List (Nat × Nat)} {Q : Option Nat → cS → Nat → Nat → Prop}
theorem w_routerNamed (hq : RQ G H sa x s t) (hM : MV t) (h : RdC H x rd s l ws) {i : Nat} (hi : i < ws.length) (h24 : i < 24) (k : Q ((nmF (t.J 38) (nmW (vc l) (ws.getD i (0, 0)).1 ((ws.getD i (0, 0)).2 - (ws.getD i (0, 0)).1)) (cR t) 0).map (G 1)) s kc ks) : C_Re_routerNamed sa rd (nI i) s kc ks Q := by
  have h10 := hM.nR
  obtain ⟨-, ⟨o1, o2⟩, ⟨p1, p2⟩, -⟩ := id h
  have ha := hq.ty.r hq.1.1 228 131 6
  generalize hc : nmW (vc l) (ws.getD i (0, 0)).1 ((ws.getD i (0, 0)).2 - (ws.getD i (0, 0)).1) = c at k
  unfold C_Re_routerNamed C_Re_routerNamed_b2
  intro P hP
  have loop : ∀ q j, j + q = cR t → nmF (t.J 38) c q j = nmF (t.J 38) c (cR t) 0 → P (nI j) s kc ks := by
    intro q
    induction q with
    | zero =>
      intro j hj hR
      have hR : none = nmF (t.J 38) c (cR t) 0 := hR
      rw [← hR] at k
      apply hP
      unfold C_Re_routerNamed_s2
      refine ⟨_, gd_to o1, _, p1, _, gd_to o2, ?_⟩
      rw [show s.I (20 * 11 + 9) x = nI (cR t) from hq.nR hM]
      exact ifF (nI_nlt (by omega) (by omega)) k
    | succ q ih =>
      intro j hj hR
      have hj' : j < cR t := by omega
      have hR : (if t.J 38 j = c then some j else nmF (t.J 38) c q (j + 1)) = nmF (t.J 38) c (cR t) 0 := hR
      obtain ⟨⟨z1, z2, -⟩, ⟨nm, z3, z4, z5⟩, -⟩ := hq.rt hj'
      apply hP
      unfold C_Re_routerNamed_s2
      refine ⟨_, gd_to o1, _, p1, _, gd_to o2, ?_⟩
      rw [show s.I (20 * 11 + 9) x = nI (cR t) from hq.nR hM]
      refine ifT (nI_lt hj' (by omega)) ⟨_, gd_to o1, _, p1, _, gd_to o2, _, ha.1, _, gd_to ⟨by rw [ha.2]; decide, by rw [ha.2]; decide, by rw [ha.2]; exact vp_in_nI (by omega) (by decide)⟩, ?_⟩
      rw [nI_clamp (by omega), z2]
      refine ⟨_, rfl, _, gd_to (okr z1 9), o1, ?_⟩
      rw [show s.P (20 * 9 + 1) (G 1 j) = some (H 181 (G 1 j)) from z3]
      refine w_isN h hi h24 z4 z5 (fun e => ?_) (fun e => ?_)
      · rw [hc] at e
        rw [if_pos e.symm] at hR
        rw [← hR] at k
        refine ifF (by decide) ⟨_, gd_to o1, _, p1, _, gd_to o2, _, ha.1, _, gd_to ⟨by rw [ha.2]; decide, by rw [ha.2]; decide, by rw [ha.2]; exact vp_in_nI (by omega) (by decide)⟩, ?_⟩
        rw [nI_clamp (by omega), z2]
        exact k
      · rw [hc] at e
        rw [if_neg (fun z => e z.symm)] at hR
        refine ifT rfl ?_
        rw [nI_1]
        exact ih (j + 1) (by omega) hR
  exact loop (cR t) 0 (by omega) rfl
end Cn
