/-! Lines: neighbor, both sides. -/
section Pn
variable {G H : Nat → Nat → Nat} {sa : Nat → Nat} {rd x kc ks : Nat} {s : cS} {t : moS} {l : List Int32} {ws : List (Nat × Nat)}
theorem m_isAddr (h : LX G H sa x rd s t l ws) {i : Nat} (hi : i < ws.length) : ∃ r t1, M_isAddress t (nI i) = some (r, t1) ∧ mfr [12, 13, 14, 15, 16] t t1 ∧ rA (adP (vc l) (ws.getD i (0, 0)).1 (ws.getD i (0, 0)).2) r t1 := by
  have hn := h.nw
  have hb := h.b hi
  obtain ⟨hw, hu, ⟨h9, h10⟩, -, -⟩ := h.wx
  obtain ⟨r, t1, e1, e2, e3⟩ := m_addr hu h.n9.2.2 hb.2 (Nat.le_of_lt hb.1)
  have hz : r = 0 ∨ r = 1 := by
    cases e : adP (vc l) (ws.getD i (0, 0)).1 (ws.getD i (0, 0)).2 with
    | none => rw [e] at e3; exact Or.inl e3
    | some v =>
      obtain ⟨v1, v2, v3⟩ := v
      rw [e] at e3
      exact Or.inr e3.1
  refine ⟨r, t1, ?_, e2.wk (by decide), e3⟩
  unfold M_isAddress bn2
  rw [rdI_n h9 (show i < 2100 by omega) (by decide), rdI_n h10 (show i < 2100 by omega) (by decide), (hw.2 i hi).1, (hw.2 i hi).2]
  simp only [Option.bind_some]
  rw [nI_add, show (ws.getD i (0, 0)).1 + ((ws.getD i (0, 0)).2 - (ws.getD i (0, 0)).1) = (ws.getD i (0, 0)).2 by omega, e1]
  simp only [Option.bind_some]
  unfold okZ
  rw [if_pos hz]
theorem P_neighbor (h : LX G H sa x rd s t l ws) (hkc : 64 ≤ kc) (hks : 1200 ≤ ks) : LO G H sa x s t kc ks (M_lineNeighbor t) (C_Re_neighborLine sa rd s kc ks) := by
  have hn := h.nw
  have h6 := h.mv.nR
  by_cases n4 : ws.length = 4
  rotate_left
  · have n4' : ¬ nI ws.length = (4 : Int32) := fun z => n4 ((h.tot (n := 4) (by decide)).mp z)
    refine LO.no h 2 ?_ fun Q kq => ?_
    · unfold M_lineNeighbor
      rw [h.ww, if_neg n4']
    · unfold C_Re_neighborLine
      refine ⟨_, gd_to h.or, ?_⟩
      rw [w_tot h]
      exact ifF n4' (kq s fo.rf)
  have n4' : nI ws.length = (4 : Int32) := by rw [n4]; rfl
  have iw := m_iw h (by omega)
  obtain ⟨⟨cap, hb⟩, ⟨o1, o2⟩, ⟨p1, p2⟩, -⟩ := id h.rc
  obtain ⟨y1, y2, y3, y4, y5⟩ := h.px
  have cl : ∀ Q : Int32 → cS → Nat → Nat → Prop, (if (pN t (wM l ws 1) (wM l ws 2)).map (G 2) = none then Q 3 s kc ks else C_Pr_parseAddress sa (H 146 rd) (some (H 220 x)) (nI (ws.getD 3 (0, 0)).1) (nI (ws.getD 3 (0, 0)).2) s kc ks (fun r3 sr3 cr3 dr3 => if r3 = 0 then Q 5 sr3 cr3 dr3 else ob ((pN t (wM l ws 1) (wM l ws 2)).map (G 2)) (fun b4 => ob (gI sr3 4 12 b4) (fun v5 => if v5 < 4 then ob (gP sr3 7 6 rd) (fun v6 => okO sr3 4 b4 ∧ C_Po_addNeighbor sa b4 v6 sr3 cr3 dr3 (fun sr7 cr7 dr7 => Q 0 sr7 cr7 dr7)) else Q 6 sr3 cr3 dr3)))) → C_Re_neighborLine sa rd s kc ks Q := by
    intro Q k
    unfold C_Re_neighborLine
    refine ⟨_, gd_to h.or, ?_⟩
    rw [w_tot h]
    refine ifT n4' ⟨h.or, w_portNamed h (by omega) ?_⟩
    by_cases e : (pN t (wM l ws 1) (wM l ws 2)).map (G 2) = none
    · rw [if_pos e] at k; exact ifT e k
    · rw [if_neg e] at k
      refine ifF e ⟨_, gd_to o1, _, gd_to o1, _, p1, _, gd_to o2, w_ba h.rc (i := 3) (by omega) (by decide) (w_bb h.rc (i := 3) (by omega) (by decide) ⟨_, y1, y3, ?_⟩)⟩
      rw [show s.P (20 * 11 + 0) x = some (H 220 x) from p2]
      exact k
  have hw3 := h.b (i := 3) (by omega)
  cases ep : pN t (wM l ws 1) (wM l ws 2) with
  | none =>
    rw [ep] at iw cl
    refine LO.no h 3 ?_ fun Q kq => cl Q (by rw [if_pos (show Option.map (G 2) none = none from rfl)]; exact kq s fo.rf)
    unfold M_lineNeighbor
    rw [h.ww, if_pos n4', iw]
    rfl
  | some q =>
    obtain ⟨r, p, hr, hp, rfl⟩ := pN_s ep
    have h4 := h.mv.nIf hr
    rw [ep] at iw cl
    have em : M_lineNeighbor t = bn2 (M_isAddress t 3) (fun x3 s2 => if x3 = 0 then some (5, s2) else Option.bind (rdI s2 95 (nI (4 * r + p))) (fun x4 => if x4 = 4 then some (6, s2) else Option.bind (rdI s2 95 (nI (4 * r + p))) (fun x5 => Option.bind (rdI s2 95 (nI (4 * r + p))) (fun x6 => Option.bind (wrI s2 95 (nI (4 * r + p)) (x6 + 1)) (fun s7 => Option.bind (wrI s7 96 (4 * nI (4 * r + p) + x5) (s7.S 12)) (fun s8 => Option.bind (wrJ s8 97 (4 * nI (4 * r + p) + x5) (s8.Z 13)) (fun s9 => Option.bind (wrJ s9 98 (4 * nI (4 * r + p) + x5) (s9.Z 14)) (fun s10 => some (0, s10))))))))) := by
      unfold M_lineNeighbor
      rw [h.ww, if_pos n4', iw]
      simp only [Option.bind_some]
      rw [if_neg (oI_n1 (4 * r + p) (by omega))]
      rfl
    have cl : ∀ Q : Int32 → cS → Nat → Nat → Prop, C_Pr_parseAddress sa (H 146 rd) (some (H 220 x)) (nI (ws.getD 3 (0, 0)).1) (nI (ws.getD 3 (0, 0)).2) s kc ks (fun r3 sr3 cr3 dr3 => if r3 = 0 then Q 5 sr3 cr3 dr3 else ob (some (G 2 (4 * r + p))) (fun b4 => ob (gI sr3 4 12 b4) (fun v5 => if v5 < 4 then ob (gP sr3 7 6 rd) (fun v6 => okO sr3 4 b4 ∧ C_Po_addNeighbor sa b4 v6 sr3 cr3 dr3 (fun sr7 cr7 dr7 => Q 0 sr7 cr7 dr7)) else Q 6 sr3 cr3 dr3))) → C_Re_neighborLine sa rd s kc ks Q := fun Q k => cl Q (by rw [if_neg (show ¬ Option.map (G 2) (some (4 * r + p)) = none by simp)]; exact k)
    obtain ⟨rr, t1, e1, m1, hA⟩ := m_isAddr h (i := 3) (by omega)
    cases ea : adP (vc l) (ws.getD 3 (0, 0)).1 (ws.getD 3 (0, 0)).2 with
    | none =>
      rw [ea] at hA
      have hA : rr = 0 := hA
      subst hA
      refine LO.pf h m1 5 ?_ fun Q kq => cl Q (w_addr hb y3 (fun e => y4 e.symm) hw3.2 (Nat.le_of_lt hw3.1) (fun _ s1 f1 => ifT rfl (kq s1 f1)) (fun a1 a2 a3 e => by rw [ea] at e; cases e))
      rw [em, show M_isAddress t 3 = some (0, t1) from e1]
      rfl
    | some v =>
    obtain ⟨a1, a, b⟩ := v
    rw [ea] at hA
    obtain ⟨rfl, hf, hfa, hZa, hZb⟩ := hA
    have L1 := lx_fm h fp.rf m1
    have hr1 : r < cR t1 := by unfold cR; rw [m1.S 37 (by decide)]; exact hr
    have hp1 : p < cI t1 r := by unfold cI; rw [m1.I 70 (by decide)]; exact hp
    have hv1 := (L1.mv.r hr1).i hp1
    have e95 : t1.I 95 (4 * r + p) = nI (t1.I 95 (4 * r + p)).toNatClampNeg := hv1.2.2.2.2.2.2.2.2.2.2.2.2.2.2.2.1.n.1
    have h95 : (t1.I 95 (4 * r + p)).toNatClampNeg ≤ 4 := hv1.2.2.2.2.2.2.2.2.2.2.2.2.2.2.2.1.n.2.2
    have N1 := L1.mv.n
    generalize ek : (t1.I 95 (4 * r + p)).toNatClampNeg = k at e95 h95
    have em3 : M_lineNeighbor t = (if nI k = (4 : Int32) then some (6, t1) else some (0, moSJ (moSJ (moSI (moSI t1 95 (4 * r + p) (nI (k + 1))) 96 (4 * (4 * r + p) + k) (t1.S 12)) 97 (4 * (4 * r + p) + k) a) 98 (4 * (4 * r + p) + k) b)) := by
      rw [em, show M_isAddress t 3 = some (1, t1) from e1]
      unfold bn2
      simp only [Option.bind_some]
      rw [if_neg (show ¬ (1 : Int32) = 0 by decide), rdI_n (N1.n 95 24) (show 4 * r + p < 24 by omega) (by decide), e95]
      simp only [Option.bind_some]
      by_cases c4 : nI k = (4 : Int32)
      · rw [if_pos c4, if_pos c4]
      · have hk : k < 4 := by
          have : k ≠ 4 := fun z => c4 (by rw [z]; rfl)
          omega
        rw [if_neg c4, if_neg c4, nI_1, wrI_n (N1.n 95 24) (show 4 * r + p < 24 by omega) (by decide)]
        simp only [Option.bind_some]
        rw [show (4 : Int32) = nI 4 from rfl, pk_mul, nI_add, wrI_n (t := moSI t1 95 (4 * r + p) (nI (k + 1))) (N1.n 96 96) (show 4 * (4 * r + p) + k < 96 by omega) (by decide)]
        simp only [Option.bind_some]
        rw [wrJ_n (t := moSI (moSI t1 95 (4 * r + p) (nI (k + 1))) 96 (4 * (4 * r + p) + k) ((moSI t1 95 (4 * r + p) (nI (k + 1))).S 12)) (N1.n 97 96) (show 4 * (4 * r + p) + k < 96 by omega) (by decide)]
        simp only [Option.bind_some]
        rw [wrJ_n (t := moSJ (moSI (moSI t1 95 (4 * r + p) (nI (k + 1))) 96 (4 * (4 * r + p) + k) ((moSI t1 95 (4 * r + p) (nI (k + 1))).S 12)) 97 (4 * (4 * r + p) + k) _) (N1.n 98 96) (show 4 * (4 * r + p) + k < 96 by omega) (by decide)]
        simp only [Option.bind_some]
        show some (0, moSJ (moSJ (moSI (moSI t1 95 (4 * r + p) (nI (k + 1))) 96 (4 * (4 * r + p) + k) (t1.S 12)) 97 (4 * (4 * r + p) + k) (t1.Z 13)) 98 (4 * (4 * r + p) + k) (t1.Z 14)) = _
        rw [hZa, hZb]
    have cls : ∀ Q : Int32 → cS → Nat → Nat → Prop, (∀ s1, fp (H 146 rd) s s1 → PF s1 (H 146 rd) (fam (t1.S 12)) a b (if a1 = 4 then 32 else 128) → if nI k < (4 : Int32) then C_Po_addNeighbor sa (G 2 (4 * r + p)) (some (H 146 rd)) s1 kc ks (fun sr7 cr7 dr7 => Q 0 sr7 cr7 dr7) else Q 6 s1 kc ks) → C_Re_neighborLine sa rd s kc ks Q := by
      intro Q kk
      refine cl Q (w_addr hb y3 (fun e => y4 e.symm) hw3.2 (Nat.le_of_lt hw3.1) (fun e => by rw [ea] at e; cases e) (fun c1 c2 c3 e s1 f1 hpf => ifF (by decide) ⟨_, rfl, ?_⟩))
      rw [ea] at e
      cases e
      have L := lx_fm h f1 m1
      have o4 := okr (L.q.po hr1 hp1).1.1 4
      have i92 : s1.I (20 * 4 + 12) (G 2 (4 * r + p)) = nI k := (L.q.po hr1 hp1).2.2.2.1.2.2.2.2.1.trans e95
      refine ⟨_, gd_to o4, ?_⟩
      rw [i92]
      rw [hfa] at hpf
      have kk := kk s1 f1 (by rw [hfa]; exact hpf)
      by_cases c : nI k < (4 : Int32)
      · rw [if_pos c] at kk
        refine ifT c ⟨_, gd_to L.or, o4, ?_⟩
        rw [show s1.P (20 * 7 + 6) rd = some (H 146 rd) from L.px.1]
        exact kk
      · rw [if_neg c] at kk
        exact ifF c kk
    by_cases hk : k = 4
    · rw [if_pos (by rw [hk]; rfl)] at em3
      exact LO.pf h m1 6 em3 fun Q kq => cls Q fun s1 f1 _ => by rw [if_neg (by rw [hk]; decide)]; exact kq s1 f1
    have hk4 : k < 4 := by omega
    rw [if_neg (show ¬ nI k = (4 : Int32) from fun z => hk ((nI_eq (b := 4) (by omega) (by decide)).mp z))] at em3
    have gm := mv_nb L1.mv hr1 hp1 e95 hk4 hf (a := a) (b := b)
    refine ⟨0, _, em3, gm.1, (m1.wk (by decide)).tr (gm.2.wk (by decide)), fun Q kq => cls Q fun s1 f1 hpf => ?_⟩
    rw [if_pos (show nI k < (4 : Int32) from nI_lt (b := 4) hk4 (by decide))]
    have L := lx_fm h f1 m1
    have hpo := L.q.po hr1 hp1
    refine w_addNb hpo.1.1 (L.q.ty.r hpo.1.1 91 137 4) (hpo.2.2.2.1.2.2.2.2.1.trans e95) hk4 L.px.2.2.1 hpf (by omega) (by omega) fun z sP hz hK ex hPF => ?_
    obtain ⟨R1, fx⟩ := rr_newP L.1 L.mv hz hK ex (Or.inr (Or.inr (Or.inl rfl)))
    obtain ⟨g1, g3⟩ := nb_rr R1 L.mv hr1 hp1 e95 hk4 (by rw [hK]) hPF hf
    exact kq _ _ _ g1 ⟨((fp_cf h f1).tr fx.wk).tr g3.wk, by omega, by omega⟩
end Pn
