/-! Lines: summary, both sides. -/
section Ps
variable {G H : Nat → Nat → Nat} {sa : Nat → Nat} {rd x kc ks : Nat} {s : cS} {t : moS} {l : List Int32} {ws : List (Nat × Nat)}
theorem lx_fm {s1 : cS} {t1 : moS} (h : LX G H sa x rd s t l ws) (f1 : fp (H 146 rd) s s1) (m1 : mfr [12, 13, 14, 15, 16] t t1) : LX G H sa x rd s1 t1 l ws := (h.fp f1).mf m1 rfl rfl rfl rfl rfl
theorem fp_cf {s1 : cS} (h : LX G H sa x rd s t l ws) (f1 : fp (H 146 rd) s s1) : fr Rc Pc Qc s s1 := (f1.fr h.px.2.1).wk
theorem LO.pf {o : Option (Int32 × moS)} {C : (Int32 → cS → Nat → Nat → Prop) → Prop} {t1 : moS} (h : LX G H sa x rd s t l ws) (m1 : mfr [12, 13, 14, 15, 16] t t1) (r : Int32) (e : o = some (r, t1)) (hC : ∀ Q : Int32 → cS → Nat → Nat → Prop, (∀ s1, fp (H 146 rd) s s1 → Q r s1 kc ks) → C Q) : LO G H sa x s t kc ks o C :=
  ⟨r, t1, e, (lx_fm h fp.rf m1).mv, m1.wk (by decide), fun Q k => hC Q fun s1 f1 => k s1 kc ks (lx_fm h f1 m1).1 ⟨fp_cf h f1, by omega, by omega⟩⟩
theorem P_summary (h : LX G H sa x rd s t l ws) (hkc : 64 ≤ kc) (hks : 1200 ≤ ks) : LO G H sa x s t kc ks (M_lineSummary t) (C_Re_summaryLine sa rd s kc ks) := by
  have hn := h.nw
  have h6 := h.mv.nR
  by_cases n4 : ws.length = 4
  rotate_left
  · have n4' : ¬ nI ws.length = (4 : Int32) := fun z => n4 ((h.tot (n := 4) (by decide)).mp z)
    refine LO.no h 2 ?_ fun Q kq => ?_
    · unfold M_lineSummary
      rw [h.ww, if_neg n4']
    · unfold C_Re_summaryLine
      refine ⟨_, gd_to h.or, ?_⟩
      rw [w_tot h]
      exact ifF n4' (kq s fo.rf)
  have n4' : nI ws.length = (4 : Int32) := by rw [n4]; rfl
  have iw := m_iw h (by omega)
  have cl : ∀ Q : Int32 → cS → Nat → Nat → Prop, (if (pN t (wM l ws 1) (wM l ws 2)).map (G 2) = none then Q 3 s kc ks else C_Re_takePrefix sa rd (nI 3) 0 s kc ks (fun r3 sr3 cr3 dr3 => if r3 = 0 then Q 5 sr3 cr3 dr3 else ob ((pN t (wM l ws 1) (wM l ws 2)).map (G 2)) (fun b4 => ob (gI sr3 4 8 b4) (fun v5 => if v5 < 4 then ob (gP sr3 7 6 rd) (fun v6 => okO sr3 4 b4 ∧ C_Po_addSummary sa b4 v6 sr3 cr3 dr3 (fun sr7 cr7 dr7 => Q 0 sr7 cr7 dr7)) else Q 6 sr3 cr3 dr3)))) → C_Re_summaryLine sa rd s kc ks Q := by
    intro Q k
    unfold C_Re_summaryLine
    refine ⟨_, gd_to h.or, ?_⟩
    rw [w_tot h]
    refine ifT n4' ⟨h.or, w_portNamed h (by omega) ?_⟩
    by_cases e : (pN t (wM l ws 1) (wM l ws 2)).map (G 2) = none
    · rw [if_pos e] at k; exact ifT e k
    · rw [if_neg e] at k; exact ifF e ⟨h.or, k⟩
  cases ep : pN t (wM l ws 1) (wM l ws 2) with
  | none =>
    rw [ep] at iw cl
    refine LO.no h 3 ?_ fun Q kq => cl Q (by rw [if_pos (show Option.map (G 2) none = none from rfl)]; exact kq s fo.rf)
    unfold M_lineSummary
    rw [h.ww, if_pos n4', iw]
    rfl
  | some q =>
    obtain ⟨r, p, hr, hp, rfl⟩ := pN_s ep
    have h4 := h.mv.nIf hr
    rw [ep] at iw cl
    have em : M_lineSummary t = bn2 (M_isPrefixWord t 3) (fun x3 s2 => if x3 = 0 then some (5, s2) else Option.bind (rdI s2 90 (nI (4 * r + p))) (fun x4 => if x4 = 4 then some (6, s2) else Option.bind (rdI s2 90 (nI (4 * r + p))) (fun x5 => Option.bind (rdI s2 90 (nI (4 * r + p))) (fun x6 => Option.bind (wrI s2 90 (nI (4 * r + p)) (x6 + 1)) (fun s7 => Option.bind (wrI s7 91 (4 * nI (4 * r + p) + x5) (s7.S 12)) (fun s8 => Option.bind (wrJ s8 92 (4 * nI (4 * r + p) + x5) (s8.Z 13)) (fun s9 => Option.bind (wrJ s9 93 (4 * nI (4 * r + p) + x5) (s9.Z 14)) (fun s10 => Option.bind (wrI s10 94 (4 * nI (4 * r + p) + x5) (s10.S 15)) (fun s11 => some (0, s11)))))))))) := by
      unfold M_lineSummary
      rw [h.ww, if_pos n4', iw]
      simp only [Option.bind_some]
      rw [if_neg (oI_n1 (4 * r + p) (by omega))]
      rfl
    have cl : ∀ Q : Int32 → cS → Nat → Nat → Prop, C_Re_takePrefix sa rd (nI 3) 0 s kc ks (fun r3 sr3 cr3 dr3 => if r3 = 0 then Q 5 sr3 cr3 dr3 else ob (some (G 2 (4 * r + p))) (fun b4 => ob (gI sr3 4 8 b4) (fun v5 => if v5 < 4 then ob (gP sr3 7 6 rd) (fun v6 => okO sr3 4 b4 ∧ C_Po_addSummary sa b4 v6 sr3 cr3 dr3 (fun sr7 cr7 dr7 => Q 0 sr7 cr7 dr7)) else Q 6 sr3 cr3 dr3))) → C_Re_summaryLine sa rd s kc ks Q := fun Q k => cl Q (by rw [if_neg (show ¬ Option.map (G 2) (some (4 * r + p)) = none by simp)]; exact k)
    rcases px_both (kc := kc) (ks := ks) h (i := 3) (by omega) (by decide) with ⟨t1, e1, m1, c1⟩ | ⟨t1, f, a, b, m, e1, m1, hP, hm, c1⟩
    · refine LO.pf h m1 5 ?_ fun Q kq => cl Q (c1 _ fun s1 f1 => ifT rfl (kq s1 f1))
      rw [em, show M_isPrefixWord t 3 = some (0, t1) from e1]
      rfl
    have em2 : M_lineSummary t = _ := em.trans (by rw [show M_isPrefixWord t 3 = some (1, t1) from e1])
    have L1 := lx_fm h fp.rf m1
    have e90 : t1.I 90 (4 * r + p) = nI (t1.I 90 (4 * r + p)).toNatClampNeg := ((L1.mv.r (show r < cR t1 by unfold cR; rw [m1.S 37 (by decide)]; exact hr)).i (show p < cI t1 r by unfold cI; rw [m1.I 70 (by decide)]; exact hp)).2.2.2.2.2.2.2.2.2.2.2.2.2.1.n.1
    have h90 : (t1.I 90 (4 * r + p)).toNatClampNeg ≤ 4 := ((L1.mv.r (show r < cR t1 by unfold cR; rw [m1.S 37 (by decide)]; exact hr)).i (show p < cI t1 r by unfold cI; rw [m1.I 70 (by decide)]; exact hp)).2.2.2.2.2.2.2.2.2.2.2.2.2.1.n.2.2
    have hr1 : r < cR t1 := by unfold cR; rw [m1.S 37 (by decide)]; exact hr
    have hp1 : p < cI t1 r := by unfold cI; rw [m1.I 70 (by decide)]; exact hp
    have N1 := L1.mv.n
    generalize ek : (t1.I 90 (4 * r + p)).toNatClampNeg = k at e90 h90
    have em3 : M_lineSummary t = (if nI k = (4 : Int32) then some (6, t1) else some (0, moSI (moSJ (moSJ (moSI (moSI t1 90 (4 * r + p) (nI (k + 1))) 91 (4 * (4 * r + p) + k) f) 92 (4 * (4 * r + p) + k) a) 93 (4 * (4 * r + p) + k) b) 94 (4 * (4 * r + p) + k) (nI m))) := by
      rw [em2]
      unfold bn2
      simp only [Option.bind_some]
      rw [if_neg (show ¬ (1 : Int32) = 0 by decide), rdI_n (N1.n 90 24) (show 4 * r + p < 24 by omega) (by decide), e90]
      simp only [Option.bind_some]
      by_cases c4 : nI k = (4 : Int32)
      · rw [if_pos c4, if_pos c4]
      · have hk : k < 4 := by
          have : k ≠ 4 := fun z => c4 (by rw [z]; rfl)
          omega
        rw [if_neg c4, if_neg c4, nI_1, wrI_n (N1.n 90 24) (show 4 * r + p < 24 by omega) (by decide)]
        simp only [Option.bind_some]
        rw [show (4 : Int32) = nI 4 from rfl, pk_mul, nI_add, wrI_n (t := moSI t1 90 (4 * r + p) (nI (k + 1))) (N1.n 91 96) (show 4 * (4 * r + p) + k < 96 by omega) (by decide)]
        simp only [Option.bind_some]
        rw [wrJ_n (t := moSI (moSI t1 90 (4 * r + p) (nI (k + 1))) 91 (4 * (4 * r + p) + k) ((moSI t1 90 (4 * r + p) (nI (k + 1))).S 12)) (N1.n 92 96) (show 4 * (4 * r + p) + k < 96 by omega) (by decide)]
        simp only [Option.bind_some]
        rw [wrJ_n (t := moSJ (moSI (moSI t1 90 (4 * r + p) (nI (k + 1))) 91 (4 * (4 * r + p) + k) ((moSI t1 90 (4 * r + p) (nI (k + 1))).S 12)) 92 (4 * (4 * r + p) + k) _) (N1.n 93 96) (show 4 * (4 * r + p) + k < 96 by omega) (by decide)]
        simp only [Option.bind_some]
        rw [wrI_n (t := moSJ (moSJ (moSI (moSI t1 90 (4 * r + p) (nI (k + 1))) 91 (4 * (4 * r + p) + k) ((moSI t1 90 (4 * r + p) (nI (k + 1))).S 12)) 92 (4 * (4 * r + p) + k) _) 93 (4 * (4 * r + p) + k) _) (N1.n 94 96) (show 4 * (4 * r + p) + k < 96 by omega) (by decide)]
        simp only [Option.bind_some]
        obtain ⟨z1, -, z3, z4, z5, -⟩ := hP
        show some (0, moSI (moSJ (moSJ (moSI (moSI t1 90 (4 * r + p) (nI (k + 1))) 91 (4 * (4 * r + p) + k) (t1.S 12)) 92 (4 * (4 * r + p) + k) (t1.Z 13)) 93 (4 * (4 * r + p) + k) (t1.Z 14)) 94 (4 * (4 * r + p) + k) (t1.S 15)) = _
        rw [z1, z3, z4, z5]
    have cls : ∀ Q : Int32 → cS → Nat → Nat → Prop, (∀ s1, fp (H 146 rd) s s1 → PF s1 (H 146 rd) (fam f) a b (nI m) → if nI k < (4 : Int32) then C_Po_addSummary sa (G 2 (4 * r + p)) (some (H 146 rd)) s1 kc ks (fun sr7 cr7 dr7 => Q 0 sr7 cr7 dr7) else Q 6 s1 kc ks) → C_Re_summaryLine sa rd s kc ks Q := by
      intro Q kk
      refine cl Q (c1 _ fun s1 f1 hpf => ifF (by decide) ⟨_, rfl, ?_⟩)
      have L := lx_fm h f1 m1
      have o4 := okr (L.q.po hr1 hp1).1.1 4
      have i88 : s1.I (20 * 4 + 8) (G 2 (4 * r + p)) = nI k := (L.q.po hr1 hp1).2.2.2.1.2.2.2.1.trans e90
      refine ⟨_, gd_to o4, ?_⟩
      rw [i88]
      have kk := kk s1 f1 hpf
      by_cases c : nI k < (4 : Int32)
      · rw [if_pos c] at kk
        refine ifT c ⟨_, gd_to L.or, o4, ?_⟩
        rw [show s1.P (20 * 7 + 6) rd = some (H 146 rd) from L.px.1]
        exact kk
      · rw [if_neg c] at kk
        exact ifF c kk
    by_cases hk : k = 4
    · rw [if_pos (by rw [hk]; rfl)] at em3
      exact LO.pf h m1 6 em3 fun Q kq => cls Q fun s1 f1 _ => by rw [if_neg (by rw [hk]; decide)]; exact kq s1 f1
    have hk4 : k < 4 := by omega
    rw [if_neg (show ¬ nI k = (4 : Int32) from fun z => hk ((nI_eq (b := 4) (by omega) (by decide)).mp z))] at em3
    have gm := mv_sum L1.mv hr1 hp1 e90 hk4 hP.ln (a := a) (b := b)
    refine ⟨0, _, em3, gm.1, (m1.wk (by decide)).tr (gm.2.wk (by decide)), fun Q kq => cls Q fun s1 f1 hpf => ?_⟩
    rw [if_pos (show nI k < (4 : Int32) from nI_lt (b := 4) hk4 (by decide))]
    have L := lx_fm h f1 m1
    have hpo := L.q.po hr1 hp1
    refine w_addSum hpo.1.1 (L.q.ty.r hpo.1.1 87 136 4) (hpo.2.2.2.1.2.2.2.1.trans e90) hk4 L.px.2.2.1 hpf (by omega) (by omega) fun z sP hz hK ex hPF => ?_
    obtain ⟨R1, fx⟩ := rr_newP L.1 L.mv hz hK ex (Or.inr (Or.inl rfl))
    obtain ⟨g1, -, g3, -⟩ := sum_rr R1 L.mv hr1 hp1 e90 hk4 (by rw [hK]) hPF hP.ln
    exact kq _ _ _ g1 ⟨((fp_cf h f1).tr fx.wk).tr g3.wk, by omega, by omega⟩
end Ps
