/-! The settling behind a join. -/
section Js
variable {sa : Nat → Nat} {x r p f : Nat} {t t1 : moS} {Os : Nat → List Pf}
theorem jn_set (hM : MV t) (hr : r < cR t) (hE : EX Os t) (hM1 : MV t1) (c : jnT r p t t1) (hf : f < 2) (ho : ∀ y, y ≠ 2 * (4 * r + p) + f → eqA t t1 y) (hl : (Os r).length < 760) : ∃ t', M_settle t1 (nI r) = some t' ∧ MV t' ∧ EX (fun r' => if r' = r then neP t1 r (2 * p + f) :: Os r else Os r') t' ∧ rwT r t1 t' ∧ (t1.I 39 r ≠ 0 → t1.I 22 (t1.I 71 (4 * r + p)).toNatClampNeg ≠ 0 → ∀ G H s kc ks, RR G H sa x s t1 → potC G r ≤ kc → potS s G H r ≤ ks → ∀ Q, SetR G H sa x s t1 r t' kc ks Q → C_Rr_settlePort sa (G 1 r) (some (G 2 (4 * r + p))) s kc ks Q) ∧ (¬ (t1.I 39 r ≠ 0 ∧ t1.I 22 (t1.I 71 (4 * r + p)).toNatClampNeg ≠ 0) → ∀ G H s, RR G H sa x s t1 → RR G H sa x s t') := by
  have m := c.1
  have h6 := hM.nR
  have eR : cR t1 = cR t := by unfold cR; rw [m.S 37 (by decide)]
  have hr1 : r < cR t1 := by rw [eR]; exact hr
  have hp1 : p < cI t1 r := c.2.2.1
  have h41 := hM1.nIf hr1
  have hp4 : p < 4 := by omega
  obtain ⟨⟨o1, o2, D0, D1, l0, l1, hrows⟩, se, px⟩ := hE r hr
  have eN : cN t1 r = cN t r := by unfold cN; rw [m.I 105 (by decide)]
  have eS : cSt t1 r = cSt t r := by unfold cSt; rw [m.I 46 (by decide)]
  have ow1 : OWr (neP t1 r (2 * p + f) :: Os r) t1 r := by
    refine ⟨fun k hk => ?_, fun y hy hz => ?_, D0, D1, l0, l1, fun j hj => ?_⟩
    · rw [eS] at hk
      have := o1 k hk
      unfold stP at this ⊢
      rw [m.I 47 (by decide), m.I 50 (by decide), m.J 48 (by decide), m.J 49 (by decide)]
      exact List.mem_cons_of_mem _ this
    · by_cases cy : y = 2 * p + f
      · rw [cy]; exact List.mem_cons_self
      · obtain ⟨a1, a2, a3, a4⟩ := ho (8 * r + y) (by omega)
        rw [a1] at hz
        have hy' : y < 2 * cI t r := by
          rcases c.2.2.2.1 with e | ⟨e1, e2⟩
          · omega
          · by_cases cp : y < 2 * p
            · omega
            · exfalso
              obtain ⟨-, ⟨z1, z2⟩, -⟩ := hM.2.2.2.2.2.2.2.2.1 r p (by omega) (by omega) hp4
              have : y = 2 * p ∨ y = 2 * p + 1 := by omega
              rcases this with e | e
              · exact hz (by rw [e, show 8 * r + 2 * p = 2 * (4 * r + p) by omega]; exact z1)
              · exact hz (by rw [e, show 8 * r + (2 * p + 1) = 2 * (4 * r + p) + 1 by omega]; exact z2)
        have := o2 y hy' hz
        unfold neP at this ⊢
        rw [a2, a3, a4]
        exact List.mem_cons_of_mem _ this
    · rw [eN] at hj
      have := hrows j hj
      unfold pfR at this ⊢
      rw [m.I 106 (by decide), m.J 107 (by decide), m.J 108 (by decide), m.I 109 (by decide)]
      exact this.imp_left (List.mem_cons_of_mem _)
  obtain ⟨K, kb, sub, back⟩ := ow1.kb (by rw [List.length_cons]; omega)
  have hK : ∀ k, k < cSt t1 r → stP t1 (32 * r + k) ∈ K := fun k hk => sub _ (ow1.1 k hk)
  have hK2 : ∀ y, y < 2 * cI t1 r → t1.I 75 (8 * r + y) ≠ 0 → neP t1 r y ∈ K := fun y hy hz => sub _ (ow1.2.1 y hy hz)
  obtain ⟨t', e1, e2, e3, e4, e5⟩ := set_m hM1 hr1 kb hK hK2
  have dFe : ∀ P : Pf, lnOk P.1 P.2.2.2 → ¬ upN t1 r p P.1 P.2.1 P.2.2.1 P.2.2.2 → dF t1 r P = dF t r P := fun P hP hn => by
    obtain ⟨f, hh, l, n⟩ := P
    exact jn_dF c (lnf hP) hn fun z z' => hn (jn_up2 c (lnf hP) z z')
  have e39 : t1.I 39 = t.I 39 := m.I 39 (by decide)
  refine ⟨t', e1, e2, fun r' hr' => ?_, e3, fun hrun hup G H s kc ks hR hkc hks Q kk => ?_, fun hno G H s hR => ?_⟩
  · have hr'' : r' < cR t := by
      have : cR t' = cR t1 := by unfold cR; rw [e3.1.S 37 (by decide)]
      rw [this, eR] at hr'
      exact hr'
    show EXr (if r' = r then neP t1 r (2 * p + f) :: Os r else Os r') t' r'
    by_cases cr : r' = r
    · subst cr
      rw [if_pos rfl]
      have m' := e3.1
      have ec : cSt t' r' = cSt t1 r' := by unfold cSt; rw [m'.I 46 (by decide)]
      have ei : cI t' r' = cI t1 r' := by unfold cI; rw [m'.I 70 (by decide)]
      refine ⟨⟨?_, ?_, back t' e5⟩, fun z => e4 (by rw [m'.I 39 (by decide)] at z; exact z), ?_⟩
      · rw [ec]; unfold stP; rw [m'.I 47 (by decide), m'.J 48 (by decide), m'.J 49 (by decide), m'.I 50 (by decide)]; exact ow1.1
      · have := ow1.2.1
        rw [ei]; unfold neP at this ⊢; rw [m'.I 75 (by decide), m'.J 76 (by decide), m'.J 77 (by decide), m'.I 78 (by decide)]; exact this
      · rw [ec, eS, m'.J 48 (by decide), m'.J 49 (by decide), m'.I 50 (by decide), m.J 48 (by decide), m.J 49 (by decide), m.I 50 (by decide)]; exact px
    · rw [if_neg cr]
      exact ((hE r' hr'').jn hM hM1 hr'' c hp4 cr).rw hM1 e2 (by rw [eR]; exact hr'') e3 cr
  · obtain ⟨t2, y1, -, -, -, -, y6⟩ := set_port (kc := kc) (ks := ks) hR hM1 hr1 hp1 kb hK hK2 (fun z P hP hn => cov_jn hM hM1 hr m (se (by rw [← e39]; exact z)) hP (dFe P hP fun z' => hn (jn_upL (lnf hP) z'))) hkc hks
    rw [e1] at y1
    cases y1
    exact y6 Q kk
  · by_cases hrun : t1.I 39 r = 0
    · have : M_settle t1 (nI r) = some t1 := by
        unfold M_settle
        rw [rdI_n (n := 6) (hM1.n.n 39 6) (by omega) (by decide)]
        simp only [Option.bind_some]
        rw [if_pos hrun]
      rw [this] at e1
      cases e1
      exact hR
    · have hdn : ¬ t1.I 22 (t1.I 71 (4 * r + p)).toNatClampNeg ≠ 0 := fun z => hno ⟨hrun, z⟩
      have cov : ∀ P : Pf, lnOk P.1 P.2.2.2 → stM t1 r P (al t1 r) = al t1 r := fun P hP => cov_jn hM hM1 hr m (se (by rw [← e39]; exact hrun)) hP (dFe P hP fun z' => hdn z'.1)
      obtain ⟨t2, t3, y1, y2, -, -, y5⟩ := c_fin (X := []) hM1 hr1 hrun kb hK hK2 (fun P hP => by cases hP) (fun P hP => by
        refine Or.inr (cov P ?_)
        rcases List.mem_append.mp hP with z | z
        · obtain ⟨i, -, h2, e⟩ := (L1M_m _ _).mp z
          rw [e]
          exact hM1.kl hr1 (by omega)
        · rcases List.mem_append.mp z with z | z
          · obtain ⟨i, -, h2, h3, e⟩ := (L2M_m _ _).mp z
            rw [e]
            exact neP_ok hM1 hr1 (by omega) h3
          · obtain ⟨i, -, h2, e⟩ := (L3M_m _ _).mp z
            rw [e]
            exact (hM1.sl hr1 (by omega)).1)
      rw [e1] at y2
      cases y2
      have y1 : some t1 = some t2 := y1
      cases y1
      exact y5 G H sa x s hR
end Js
