/-! A router settles where one interface's networks are to be settled. -/
section Sr
variable {G H : Nat → Nat → Nat} {sa : Nat → Nat} {x r p kc ks : Nat} {s : cS} {t : moS} {K : List Pf}
/-- a router that stands still: only the field's own place is another -/
theorem c_sport0 (hR : RR G H sa x s t) (hM : MV t) (hr : r < cR t) (hrun : t.I 39 r = 0) (hp : p < cI t r) {Q : cS → Nat → Nat → Prop} (kk : ∀ s2, s2.K = s.K → s2.P = s.P → fr [18] [] [] s s2 → RR G H sa x s2 t → Q s2 kc ks) : C_Rr_settlePort sa (G 1 r) (some (G 2 (4 * r + p))) s kc ks Q := by
  have one : ∀ (f : Nat) (s1 : cS), f < 2 → s1.K = s.K → s1.P = s.P → fr [18] [] [] s s1 → RR G H sa x s1 t → ∀ Pn : cS → Nat → Nat → Prop, (∀ s2, s2.K = s.K → s2.P = s.P → fr [18] [] [] s s2 → RR G H sa x s2 t → Pn s2 kc ks) → okO s1 4 (G 2 (4 * r + p)) ∧ C_Po_addressOf sa (G 2 (4 * r + p)) (fam (nI f)) s1 kc ks (fun r2 sr2 cr2 dr2 => (if r2 = none then Pn sr2 cr2 dr2 else (ob (gP sr2 9 0 (G 1 r)) (fun v3 => (ob v3 (fun b4 => (ob (gP sr2 11 18 b4) (fun v5 => (ob v5 (fun b6 => (okO sr2 5 b6 ∧ C_Pr_copy sa b6 r2 sr2 cr2 dr2 (fun sr7 cr7 dr7 => (ob (gP sr7 9 0 (G 1 r)) (fun v8 => (ob v8 (fun b9 => (ob (gP sr7 11 18 b9) (fun v10 => (ob v10 (fun b11 => (okO sr7 5 b11 ∧ C_Pr_dropBitsBehind sa b11 sr7 cr7 dr7 (fun sr12 cr12 dr12 => (ob (gP sr12 9 0 (G 1 r)) (fun v13 => (ob v13 (fun b14 => (ob (gP sr12 11 18 b14) (fun v15 => (okO sr12 9 (G 1 r) ∧ C_Rr_settle sa (G 1 r) v15 sr12 cr12 dr12 (fun sr16 cr16 dr16 => Pn sr16 cr16 dr16)))))))))))))))))))))))))))))) := by
    intro f s1 hf hK hP f1 hR1 Pn kk
    have hq1 := hR1.q.1
    have hpo := hq1.po hr hp
    have k8 := hpo.1.1
    have k26 := (hq1.rt hr).1.1
    have h180 := hq1.ty.p k26 180 30
    have e180 : s1.P 180 (G 1 r) = some x := by rw [h180.1, (hq1.rt hr).1.2.2]
    have h238 := hq1.ty.p hq1.1.1 238 18
    have o4 := okr k8 4
    have rad : RAd G s1 t (4 * r + p) f := by
      rcases Nat.lt_or_ge f 1 with z | z
      · have : f = 0 := by omega
        subst this; exact hpo.2.1
      · have : f = 1 := by omega
        subst this; exact hpo.2.2.1
    refine ⟨o4, ?_⟩
    have tail : ∀ v, v = s1.P (81 + f) (G 2 (4 * r + p)) → (if v = none then Pn s1 kc ks else (ob (gP s1 9 0 (G 1 r)) (fun v3 => (ob v3 (fun b4 => (ob (gP s1 11 18 b4) (fun v5 => (ob v5 (fun b6 => (okO s1 5 b6 ∧ C_Pr_copy sa b6 v s1 kc ks (fun sr7 cr7 dr7 => (ob (gP sr7 9 0 (G 1 r)) (fun v8 => (ob v8 (fun b9 => (ob (gP sr7 11 18 b9) (fun v10 => (ob v10 (fun b11 => (okO sr7 5 b11 ∧ C_Pr_dropBitsBehind sa b11 sr7 cr7 dr7 (fun sr12 cr12 dr12 => (ob (gP sr12 9 0 (G 1 r)) (fun v13 => (ob v13 (fun b14 => (ob (gP sr12 11 18 b14) (fun v15 => (okO sr12 9 (G 1 r) ∧ C_Rr_settle sa (G 1 r) v15 sr12 cr12 dr12 (fun sr16 cr16 dr16 => Pn sr16 cr16 dr16))))))))))))))))))))))))))))) := by
      intro v hv
      rcases rad with ⟨a1, a2⟩ | ⟨a1, pa, a2, a3, a4⟩
      · rw [hv, a2]
        exact ifT rfl (kk s1 hK hP f1 hR1)
      · rw [hv, a2]
        refine ifF (by simp) (w_entry (okr k26 9) hq1.ox e180 h238.1 h238.2 (okr a3 5) a4 fun s2 hK2 hP2 fe hpf => ?_)
        have hR2 := rr_18 hR1 hM hK2 hP2 fe
        unfold C_Rr_settle
        refine ⟨_, gd_to (okr (hR2.q.1.rt hr).1.1 9), ?_⟩
        rw [show s2.I (20 * 9 + 3) (G 1 r) = t.I 39 r from (hR2.q.1.rt hr).2.2.1.2.1]
        exact ifT hrun (kk s2 (hK2.trans hK) (hP2.trans hP) (f1.tr fe) hR2)
    unfold C_Po_addressOf
    rcases Nat.lt_or_ge f 1 with z | z
    · have : f = 0 := by omega
      subst this
      exact ifT rfl ⟨_, gd_to o4, tail _ rfl⟩
    · have : f = 1 := by omega
      subst this
      exact ifF (by decide) ⟨_, gd_to o4, tail _ rfl⟩
  unfold C_Rr_settlePort C_Rr_settlePort_b2
  intro P hP
  have fin : ∀ s' kc' ks', Q s' kc' ks' → P 8 s' kc' ks' := fun s' kc' ks' hQ => by
    apply hP
    unfold C_Rr_settlePort_s2
    exact ifT (by decide) hQ
  apply hP
  unfold C_Rr_settlePort_s2
  refine ifF (by decide) ⟨_, rfl, ?_⟩
  refine one 0 s (by decide) rfl rfl fr.rf hR (fun s' kc' ks' => P (4 + 2) s' kc' ks') fun s2 a1 a2 a3 a4 => ?_
  show P 6 s2 kc ks
  apply hP
  unfold C_Rr_settlePort_s2
  refine ifF (by decide) ⟨_, rfl, ?_⟩
  exact one 1 s2 (by decide) a1 a2 a3 a4 (fun s' kc' ks' => P (6 + 2) s' kc' ks') fun s3 b1 b2 b3 b4 => fin s3 kc ks (kk s3 b1 b2 b3 b4)
theorem set_port (hR : RR G H sa x s t) (hM : MV t) (hr : r < cR t) (hp : p < cI t r) (hb : KB K t r) (hK : ∀ k, k < cSt t r → stP t (32 * r + k) ∈ K) (hK2 : ∀ y, y < 2 * cI t r → t.I 75 (8 * r + y) ≠ 0 → neP t r y ∈ K) (hcov : t.I 39 r ≠ 0 → ∀ P : Pf, lnOk P.1 P.2.2.2 → P ∉ L2M t r 2 (2 * p) → stM t r P (al t r) = al t r) (hkc : potC G r ≤ kc) (hks : potS s G H r ≤ ks) : ∃ t', M_settle t (nI r) = some t' ∧ MV t' ∧ rwT r t t' ∧ (t.I 39 r ≠ 0 → SEt t' r) ∧ KB K t' r ∧ ∀ Q, SetR G H sa x s t r t' kc ks Q → C_Rr_settlePort sa (G 1 r) (some (G 2 (4 * r + p))) s kc ks Q := by
  have h6 := hM.nR
  by_cases hrun : t.I 39 r = 0
  · refine ⟨t, ?_, hM, rwT.rf, fun z => absurd hrun z, hb, fun Q kk => c_sport0 hR hM hr hrun hp fun s2 a1 a2 a3 a4 => kk G H s2 kc ks a4 (fun _ _ _ => rfl) (fun _ _ => rfl) hA.rf a3.wk (fun b g _ _ _ => by rw [a2]) (Nat.le_refl _) ?_⟩
    · unfold M_settle
      rw [rdI_n (n := 6) (hM.n.n 39 6) (by omega) (by decide)]
      simp only [Option.bind_some]
      rw [if_pos hrun]
    · rw [potS_e (by rw [a2]) a1]
      exact Nat.le_refl _
  · have mem : ∀ P, P ∈ L2M t r 2 (2 * p) → lnOk P.1 P.2.2.2 ∧ P ∈ K := fun P hP => by
      obtain ⟨i, h1, h2, h3, e⟩ := (L2M_m _ _).mp hP
      rw [e]
      exact ⟨neP_ok hM hr (by omega) h3, hK2 i (by omega) h3⟩
    obtain ⟨t2, t', e2, e1, q1, se, tr⟩ := c_fin (X := L2M t r 2 (2 * p)) hM hr hrun hb hK hK2 mem (fun P hP' => by
      by_cases c : P ∈ L2M t r 2 (2 * p)
      · exact Or.inl c
      · refine Or.inr (hcov hrun P ?_ c)
        rcases List.mem_append.mp hP' with z | z
        · obtain ⟨i, -, h2, e⟩ := (L1M_m _ _).mp z
          rw [e]
          exact hM.kl hr (by omega)
        · rcases List.mem_append.mp z with z | z
          · obtain ⟨i, -, h2, h3, e⟩ := (L2M_m _ _).mp z
            rw [e]
            exact neP_ok hM hr (by omega) h3
          · obtain ⟨i, -, h2, e⟩ := (L3M_m _ _).mp z
            rw [e]
            exact (hM.sl hr (by omega)).1)
    refine ⟨t', e1, q1.1, q1.2.1, fun _ => se, q1.2.2.1, fun Q kk => ?_⟩
    refine c_sport hR hM hr hrun hp hb (fun f hf hz => hK2 (2 * p + f) (by omega) hz) hkc hks fun G2 H2 s2 t3 kc2 ks2 sp e3 => ?_
    rw [e2] at e3
    cases e3
    obtain ⟨c1, c2, c3, c4, c5, c6, c7, c8, c9⟩ := sp
    exact kk G2 H2 s2 kc2 ks2 (tr G2 H2 sa x s2 c1) c3 c4 c5 c6 c7 c8 c9
end Sr
