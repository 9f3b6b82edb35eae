/-! A line on the tape, both sides. -/
section Ud
variable {G H : Nat → Nat → Nat} {sa : Nat → Nat} {x : Nat} {s : cS} {t : moS} {v : Int32}
/-- a line as it stands on the tape -/
theorem U_do {rd kc ks f e : Nat} {l : List Int32} {Os : Nat → List Pf} {a1 : Int32} (hR : RR G H sa x s t) (hM : MV t) (hE : EX Os t) (h223 : s.P 223 x = some rd) (h140 : s.P 140 rd = some x) (h4 : t.S 4 = 0) (hl : l = tl (t.I 2) (t.S 3).toNatClampNeg) (hfe : f ≤ e) (he : e ≤ l.length) (hO : ∀ r, (Os r).length < 760) (hs : ∀ i, i < cL t → ¬ t.I 23 i + 1 < 0) (hkc : PoC s G H t + 64 ≤ kc) (hks : PoS s G H t + 1200 ≤ ks) : ∃ (t' : moS) (Os' : Nat → List Pf) (w u : Nat), (w = 0 ∨ w = 1 ∧ (t'.S 4 = 0 → f + 3 ≤ e)) ∧ (u = 0 ∨ u = 1 ∧ (t'.S 4 = 0 → f + 13 ≤ e)) ∧ M_read_b56 t a1 (nI f) (nI e) = some (.inl (a1 + 1, nI e + 1, t')) ∧ MV t' ∧ EX Os' t' ∧ (∀ r, (Os' r).length ≤ (Os r).length + u) ∧ mfr (4 :: 9 :: 10 :: 11 :: Wlu) t t' ∧ (∀ i, t'.I 23 i = t.I 23 i ∨ t'.I 23 i = t.I 23 i + 1) ∧ ∀ Q : Int32 → cS → Nat → Nat → Prop, (∀ G' H' s' kc' ks', RR G' H' sa x (cSI s' 224 x (t'.S 4)) t' → (s'.K x).1 = 30 → kp x s s' → kc + PoC s' G' H' t' ≤ kc' + PoC s G H t + 64 * w → ks + PoS s' G' H' t' ≤ ks' + PoS s G H t + 1200 * w → Q (t'.S 4) s' kc' ks') → C_Re_doLine sa rd (nI f) (nI e) s kc ks Q := by
  obtain ⟨t1, e1, m1, hM1, ⟨s0, k0, p0, L0⟩, c1⟩ := lx_parse (kc := kc) (ks := ks) hR hM h223 h140 hl hfe he
  have gp := wdS_gap (vc l) (e - f) f none (fun b z => by cases z)
  have la : 0 < (wdS (vc l) (e - f) f none).length → ((wdS (vc l) (e - f) f none).getD ((wdS (vc l) (e - f) f none).length - 1) (0, 0)).2 ≤ e := fun h0 => by
    have hj : (wdS (vc l) (e - f) f none).length - 1 < (wdS (vc l) (e - f) f none).length := by omega
    have hm : (wdS (vc l) (e - f) f none).getD ((wdS (vc l) (e - f) f none).length - 1) (0, 0) ∈ wdS (vc l) (e - f) f none := by
      rw [List.getD_eq_getElem?_getD, List.getElem?_eq_getElem hj]
      exact List.getElem_mem hj
    have h2 := (wdS_ok (vc l) (e - f) f none (fun b z => by cases z) _ hm).2
    omega
  have lh : 0 < (wdS (vc l) (e - f) f none).length → f ≤ ((wdS (vc l) (e - f) f none).getD 0 (0, 0)).1 ∧ ((wdS (vc l) (e - f) f none).getD 0 (0, 0)).2 ≤ e := fun h0 => by
    have hm : (wdS (vc l) (e - f) f none).getD 0 (0, 0) ∈ wdS (vc l) (e - f) f none := by
      rw [List.getD_eq_getElem?_getD, List.getElem?_eq_getElem h0]
      exact List.getElem_mem h0
    have h1 : f ≤ _ := wdS_lo (vc l) (e - f) f none (fun b z => by cases z) _ hm
    have h2 := (wdS_ok (vc l) (e - f) f none (fun b z => by cases z) _ hm).2
    exact ⟨h1, by omega⟩
  generalize wdS (vc l) (e - f) f none = ws at L0 c1 lh la gp
  have hE1 : EX Os t1 := hE.of hM hM1 (by unfold cR; rw [m1.S 37 (by decide)]) (fun _ _ => sEq.m m1 rfl) (fun _ _ z => by rw [m1.I 39 (by decide)] at z; exact z)
  have zt := pot_t (G := G) (H := H) (s := s) m1 rfl
  have h41 : t1.S 4 = 0 := by rw [m1.S 4 (by decide)]; exact h4
  have hx := hR.q.1.1.1
  have hn := L0.nw
  have id4 : moSS t1 4 0 = t1 := by
    unfold moSS
    refine Prod.ext (funext fun j => ?_) rfl
    show (if j = 4 then (0 : Int32) else t1.S j) = t1.S j
    by_cases c : j = 4
    · rw [if_pos c, c, h41]
    · rw [if_neg c]
  have pk : ∀ s1 : cS, s1.K = s.K → s1.P = s.P → PoC s1 G H t1 = PoC s G H t ∧ PoS s1 G H t1 = PoS s G H t := fun s1 a b => by
    have := pot_kp (G := G) (H := H) (t := t1) a b
    exact ⟨this.1.trans zt.1, this.2.trans zt.2⟩
  -- nothing is done
  have no : M_read_b56 t a1 (nI f) (nI e) = some (.inl (a1 + 1, nI e + 1, t1)) → (∀ Q : Int32 → cS → Nat → Nat → Prop, (∀ s1, s1.K = s.K → s1.P = s.P ∧ s1.Q = s.Q → LX G H sa x rd s1 t1 l ws → Q 0 s1 kc ks) → C_Re_doLine sa rd (nI f) (nI e) s kc ks Q) → ∃ (t' : moS) (Os' : Nat → List Pf) (w u : Nat), (w = 0 ∨ w = 1 ∧ (t'.S 4 = 0 → f + 3 ≤ e)) ∧ (u = 0 ∨ u = 1 ∧ (t'.S 4 = 0 → f + 13 ≤ e)) ∧ M_read_b56 t a1 (nI f) (nI e) = some (.inl (a1 + 1, nI e + 1, t')) ∧ MV t' ∧ EX Os' t' ∧ (∀ r, (Os' r).length ≤ (Os r).length + u) ∧ mfr (4 :: 9 :: 10 :: 11 :: Wlu) t t' ∧ (∀ i, t'.I 23 i = t.I 23 i ∨ t'.I 23 i = t.I 23 i + 1) ∧ ∀ Q : Int32 → cS → Nat → Nat → Prop, (∀ G' H' s' kc' ks', RR G' H' sa x (cSI s' 224 x (t'.S 4)) t' → (s'.K x).1 = 30 → kp x s s' → kc + PoC s' G' H' t' ≤ kc' + PoC s G H t + 64 * w → ks + PoS s' G' H' t' ≤ ks' + PoS s G H t + 1200 * w → Q (t'.S 4) s' kc' ks') → C_Re_doLine sa rd (nI f) (nI e) s kc ks Q := fun em hc => by
    refine ⟨t1, Os, 0, 0, Or.inl rfl, Or.inl rfl, em, hM1, hE1, fun _ => Nat.le_refl _, m1.wk (by decide), fun i => Or.inl (by rw [m1.I 23 (by decide)]), fun Q k => hc Q fun s1 a b L => ?_⟩
    have R1 := rr_4 (v := 0) L.1 hM1
    rw [id4] at R1
    have := k G H s1 kc ks (by rw [h41]; exact R1) (by rw [a]; exact hx) (kp.e a b.1 b.2) (by have := (pk s1 a b.1).1; omega) (by have := (pk s1 a b.1).2; omega)
    rw [h41] at this
    exact this
  have ew : t1.S 11 = nI ws.length := L0.ww
  by_cases c0 : ws.length = 0
  · refine no ?_ fun Q k => ?_
    · unfold M_read_b56
      rw [e1]
      simp only [Option.bind_some]
      rw [ew, if_neg (show ¬ (0 : Int32) < nI ws.length by rw [c0]; decide)]
      rfl
    · have o7 : okO s 7 rd := by
        have := L0.or
        unfold okO at this ⊢
        rw [← k0]; exact this
      unfold C_Re_doLine
      refine ⟨o7, c1 _ fun s1 a b L => ⟨_, gd_to L.or, ?_⟩⟩
      rw [w_tot L]
      exact ifT (by rw [c0]; rfl) (k s1 a b L)
  have h0 : 0 < ws.length := by omega
  have o7 : okO s 7 rd := by
    have := L0.or
    unfold okO at this ⊢
    rw [← k0]; exact this
  have hb0 := L0.b h0
  generalize hB : (ws.getD 0 (0, 0)).1 = b0 at hb0
  have hbl : b0 < l.length := by omega
  have hl4 : l.length ≤ 4096 := L0.2.2.2.2.2.1
  have hv := vc_lt l b0
  have r9 : rdI t1 9 0 = some (nI b0) := by
    rw [show (0 : Int32) = nI 0 from rfl, rdI_n (n := 2100) L0.n9.1 (by decide) (by decide), (L0.2.2.2.2.1.2 0 h0).1, hB]
  have r2 : rdI t1 2 (nI b0) = some (nI (vc l b0)) := L0.2.2.2.2.2.2.2 b0 hbl
  have em0 : M_read_b56 t a1 (nI f) (nI e) = if nI (vc l b0) = 35 then M_read_b96 t1 (a1 + 1) (nI e) else bn2 (M_line t1) (fun x5 s4 => letS (moSS s4 4 x5) fun s6 => M_read_b96 s6 (a1 + 1) (nI e)) := by
    unfold M_read_b56
    rw [e1]
    simp only [Option.bind_some]
    rw [ew, if_pos (show (0 : Int32) < nI ws.length from nI_lt (a := 0) h0 (by omega)), r9]
    simp only [Option.bind_some]
    rw [r2]
    simp only [Option.bind_some]
  -- the class up to the first byte
  have cls : ∀ Q : Int32 → cS → Nat → Nat → Prop, (∀ s1, s1.K = s.K → s1.P = s.P ∧ s1.Q = s.Q → LX G H sa x rd s1 t1 l ws → if nI (vc l b0) = 35 then Q 0 s1 kc ks else dLn sa rd s1 kc ks Q) → C_Re_doLine sa rd (nI f) (nI e) s kc ks Q := by
    intro Q k
    unfold C_Re_doLine
    refine ⟨o7, c1 _ fun s1 a b L => ⟨_, gd_to L.or, ?_⟩⟩
    rw [w_tot L]
    obtain ⟨⟨cap, hbl'⟩, ⟨o1, o2⟩, ⟨p1, p2⟩, -⟩ := id L.rc
    have q2 := k s1 a b L
    refine ifF (fun z => by have := (nI_eq (a := ws.length) (b := 0) (by omega) (by decide)).mp z; omega) ⟨_, gd_to o1, _, p1, _, gd_to o2, ?_⟩
    have w := w_ba L.rc (i := 0) h0 (by decide) (f := fun v8 => ob (s1.P (20 * 11 + 0) x) (fun b9 => okO s1 0 b9 ∧ C_By_at sa b9 v8 s1 kc ks (fun r10 sr10 cr10 dr10 => if r10 = 35 then Q 0 sr10 cr10 dr10 else dLn sa rd sr10 cr10 dr10 Q)))
    refine w ⟨_, p2, hbl'.1, ?_⟩
    rw [hB]
    refine w_at hbl' hbl ?_
    by_cases c35 : nI (vc l b0) = 35
    · rw [if_pos c35] at q2
      exact ifT c35 q2
    · rw [if_neg c35] at q2
      exact ifF c35 q2
  by_cases c35 : nI (vc l b0) = 35
  · refine no ?_ fun Q k => cls Q fun s1 a b L => by rw [if_pos c35]; exact k s1 a b L
    rw [em0, if_pos c35]
    rfl
  rw [if_neg c35] at em0
  have hs1 : ∀ i, i < cL t1 → ¬ t1.I 23 i + 1 < 0 := fun i hi => by
    rw [m1.I 23 (by decide)]
    exact hs i (by unfold cL at hi ⊢; rw [m1.S 17 (by decide)] at hi; exact hi)
  obtain ⟨c, tL, Os', x1, x2, x3, x4, x5, x6, -⟩ := U_line (kc := kc) (ks := ks) L0 h0 hE1 hO hs1 (by rw [(pk s0 k0 p0).1]; exact hkc) (by rw [(pk s0 k0 p0).2]; exact hks) gp
  have m4 : mfr [4] tL (moSS tL 4 c) := mfr.ss (by decide)
  have e4 : (moSS tL 4 c).S 4 = c := moSS_s
  have ex4 : ∃ u : Nat, (u = 0 ∨ u = 1 ∧ ((moSS tL 4 c).S 4 = 0 → f + 13 ≤ e)) ∧ ∀ r, (Os' r).length ≤ (Os r).length + u := by
    rcases x4 with z | ⟨z1, z2⟩
    · exact ⟨0, Or.inl rfl, fun r => by rw [z]; exact Nat.le_refl _⟩
    · refine ⟨1, Or.inr ⟨rfl, fun z => ?_⟩, z2⟩
      rw [e4] at z
      have y1 := z1 z
      have y2 := lh h0
      have y3 := la h0
      omega
  obtain ⟨u, xu, x4⟩ := ex4
  refine ⟨moSS tL 4 c, Os', 1, u, Or.inr ⟨rfl, fun z => ?_⟩, xu, ?_, mv_4 x2, x3.of x2 (mv_4 x2) rfl (fun _ _ => sEq.m m4 rfl) (fun _ _ z => z), x4, (m1.wk (by decide)).tr ((x5.wk (fun k hk => List.mem_cons_of_mem _ (List.mem_cons_of_mem _ (List.mem_cons_of_mem _ (List.mem_cons_of_mem _ hk))))).tr (m4.wk (fun k hk => by rw [List.mem_singleton.mp hk]; exact List.mem_cons_self))), fun i => ?_, fun Q k => cls Q fun s1 a b L => ?_⟩
  · rw [e4] at z
    rw [z] at x1
    have y1 := ln_3 L0 h0 x1
    have y2 := lh h0
    omega
  · rw [em0, x1]
    rfl
  · have := x6 i
    rw [m1.I 23 (by decide)] at this
    exact this
  · rw [if_neg c35]
    obtain ⟨c', tL', Os'', y1, y2, -, -, -, -, y7⟩ := U_line (kc := kc) (ks := ks) L h0 hE1 hO hs1 (by rw [(pk s1 a b.1).1]; exact hkc) (by rw [(pk s1 a b.1).2]; exact hks) gp
    rw [x1] at y1
    cases y1
    refine y7 Q fun G' H' s' kc' ks' R z1 z2 z3 => ?_
    have z4 := pot_t (G := G') (H := H') (s := s') m4 rfl
    rw [(pk s1 a b.1).1] at z2
    rw [(pk s1 a b.1).2] at z3
    have := k G' H' s' kc' ks' (by rw [e4]; exact rr_4 R x2) R.q.1.1.1 ((kp.e a b.1 b.2).tr z1) (by rw [z4.1]; exact z2) (by rw [z4.2]; exact z3)
    rw [e4] at this
    exact this
end Ud
