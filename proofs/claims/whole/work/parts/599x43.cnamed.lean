/-! What bears a name, in the class. -/
theorem gD_mem {y : List Int32} {j : Nat} (h : j < y.length) : y.getD j 0 ∈ y := by
  rw [List.getD_eq_getElem?_getD, List.getElem?_eq_getElem h]
  exact List.getElem_mem h
section Cn
variable {G H : Nat → Nat → Nat} {sa : Nat → Nat} {rd x kc ks : Nat} {s : cS} {t : moS} {l : List Int32} {ws : List (Nat × Nat)} {Q : Int32 → cS → Nat → Nat → Prop}
/-- is word i this name? -/
theorem w_isN (h : RdC H x rd s l ws) {i p : Nat} {y : List Int32} {c : Int64} (hi : i < ws.length) (h24 : i < 24) (hy : isTx sa s p y) (hn : nmL y c) (k1 : nmW (vc l) (ws.getD i (0, 0)).1 ((ws.getD i (0, 0)).2 - (ws.getD i (0, 0)).1) = c → Q 1 s kc ks) (k0 : ¬ nmW (vc l) (ws.getD i (0, 0)).1 ((ws.getD i (0, 0)).2 - (ws.getD i (0, 0)).1) = c → Q 0 s kc ks) : C_Re_is sa rd (nI i) (some p) s kc ks Q := by
  have hiff := nmW_eq (u := vc l) (vc_lt l) (a := (ws.getD i (0, 0)).1) (n := (ws.getD i (0, 0)).2 - (ws.getD i (0, 0)).1) hn
  refine w_is h (by omega) hy (fun j hj => (hn.2.2.2 _ (gD_mem hj)).1.k.2.2.2.1) (by have := hn.2.2.1; omega) (fun _ _ e => k1 (hiff.mpr e)) (fun z => k0 (fun e => z ⟨hi, h24, hiff.mp e⟩))
theorem w_linkNamed (hq : RQ G H sa x s t) (hM : MV t) (h : RdC H x rd s l ws) {i : Nat} (hi : i < ws.length) (h24 : i < 24) (k : Q (oI (nmF (t.J 18) (nmW (vc l) (ws.getD i (0, 0)).1 ((ws.getD i (0, 0)).2 - (ws.getD i (0, 0)).1)) (cL t) 0)) s kc ks) : C_Re_linkNamed sa rd (nI i) s kc ks Q := by
  have h10 := hM.nL
  obtain ⟨-, ⟨o1, o2⟩, ⟨p1, p2⟩, -⟩ := id h
  have ha := hq.ty.r hq.1.1 226 130 10
  generalize hc : nmW (vc l) (ws.getD i (0, 0)).1 ((ws.getD i (0, 0)).2 - (ws.getD i (0, 0)).1) = c at k
  unfold C_Re_linkNamed C_Re_linkNamed_b2
  intro P hP
  have loop : ∀ q j, j + q = cL t → nmF (t.J 18) c q j = nmF (t.J 18) c (cL t) 0 → P (nI j) s kc ks := by
    intro q
    induction q with
    | zero =>
      intro j hj hR
      have hR : none = nmF (t.J 18) c (cL t) 0 := hR
      rw [← hR] at k
      apply hP
      unfold C_Re_linkNamed_s2
      refine ⟨_, gd_to o1, _, p1, _, gd_to o2, ?_⟩
      rw [show s.I (20 * 11 + 7) x = nI (cL t) from hq.nL hM]
      exact ifF (nI_nlt (by omega) (by omega)) k
    | succ q ih =>
      intro j hj hR
      have hj' : j < cL t := by omega
      have hR : (if t.J 18 j = c then some j else nmF (t.J 18) c q (j + 1)) = nmF (t.J 18) c (cL t) 0 := hR
      obtain ⟨⟨z1, z2⟩, ⟨nm, z3, z4, z5⟩, -⟩ := hq.link hj'
      apply hP
      unfold C_Re_linkNamed_s2
      refine ⟨_, gd_to o1, _, p1, _, gd_to o2, ?_⟩
      rw [show s.I (20 * 11 + 7) x = nI (cL t) from hq.nL hM]
      refine ifT (nI_lt hj' (by omega)) ⟨_, gd_to o1, _, p1, _, gd_to o2, _, ha.1, _, gd_to ⟨by rw [ha.2]; decide, by rw [ha.2]; decide, by rw [ha.2]; exact vp_in_nI (by omega) (by decide)⟩, ?_⟩
      rw [nI_clamp (by omega), z2]
      refine ⟨_, rfl, _, gd_to (okr z1 3), o1, ?_⟩
      rw [show s.P (20 * 3 + 0) (G 0 j) = some (H 60 (G 0 j)) from z3]
      refine w_isN h hi h24 z4 z5 (fun e => ?_) (fun e => ?_)
      · rw [hc] at e
        rw [if_pos e.symm] at hR
        rw [← hR] at k
        exact ifF (by decide) k
      · rw [hc] at e
        rw [if_neg (fun z => e z.symm)] at hR
        refine ifT rfl ?_
        rw [nI_1]
        exact ih (j + 1) (by omega) hR
  exact loop (cL t) 0 (by omega) rfl
end Cn
