/-! way, on both sides: the end. -/
/-- what way leaves -/
def XY (s : cS) (x kc ks : Nat) (s' : cS) (kc' ks' : Nat) : Prop := fr [39, 1, 32, 124] [(0, 32)] [] s s' ∧ s'.P 221 x = s.P 221 x ∧ s'.P 222 x = s.P 222 x ∧ capOf s' ((s.P 222 x).getD 0) = capOf s ((s.P 222 x).getD 0) ∧ 16 * kc + capOf s ((s.P 221 x).getD 0) ≤ 16 * kc' + capOf s' ((s.P 221 x).getD 0) ∧ ks + 2 * capOf s ((s.P 221 x).getD 0) ≤ ks' + 2 * capOf s' ((s.P 221 x).getD 0)
section Wz
variable {G H : Nat → Nat → Nat} {sa : Nat → Nat} {x kc ks : Nat} {s s' : cS} {t t' : moS}
theorem XY.of {s1 : cS} {kc' ks' : Nat} (hK : s1.K = s.K) (hP : s1.P = s.P) (f : fr [39, 1] [] [] s s1) (h : XT s1 x kc ks s' kc' ks') : XY s x kc ks s' kc' ks' := by
  have hc : ∀ a, capOf s1 a = capOf s a := fun a => by unfold capOf; rw [hK, hP]
  obtain ⟨a1, a2, a3, a4, a5, a6⟩ := h
  rw [hP] at a2 a3 a4 a5 a6
  rw [hc] at a4 a5 a6
  exact ⟨f.wk.tr a1.wk, a2, a3, a4, a5, a6⟩
/-- the tape read as an address, and emptied -/
theorem w_take {K : Int32 → cS → Nat → Nat → Prop} (hq : RQ G H sa x s t) {l : List Int32} {cap : Nat} (hb : BL s (H 220 x) 101 l cap) (k0 : adP (vc l) 0 l.length = none → ∀ s1, fp (H 239 x) s s1 → K 0 (cSI s1 1 (H 220 x) 0) kc ks) (k1 : ∀ a1 a2 a3, adP (vc l) 0 l.length = some (a1, a2, a3) → ∀ s1, fp (H 239 x) s s1 → PF s1 (H 239 x) a1 a2 a3 (if a1 = 4 then 32 else 128) → K 1 (cSI s1 1 (H 220 x) 0) kc ks) : ob (gP s 11 19 x) (fun v2 => ob (gP s 11 0 x) fun v3 => ob (gP s 11 0 x) fun v4 => ob v4 fun b5 => ob (gI s 0 1 b5) fun v6 => ob v2 fun b7 => okO s 5 b7 ∧ C_Pr_parseAddress sa b7 v3 0 v6 s kc ks (fun r8 sr8 cr8 dr8 => ob (gP sr8 11 0 x) fun v9 => ob v9 fun b10 => okO sr8 0 b10 ∧ C_By_clear sa b10 sr8 cr8 dr8 (K r8))) := by
  have hx := hq.1.1
  have h220 := hq.ty.p hx 220 1
  have h239 := hq.ty.p hx 239 39
  have ho := okr h239.2 5
  have hne : H 220 x ≠ H 239 x := fun e => by have := h239.2; rw [← e, h220.2] at this; exact absurd this (by decide)
  have fin : ∀ s1, fp (H 239 x) s s1 → ∀ r, K r (cSI s1 1 (H 220 x) 0) kc ks → ob (gP s1 11 0 x) fun v9 => ob v9 fun b10 => okO s1 0 b10 ∧ C_By_clear sa b10 s1 kc ks (K r) := by
    intro s1 f1 r hk
    have p1 : s1.P (20 * 11 + 0) x = some (H 220 x) := by rw [f1.2.1]; exact h220.1
    exact ⟨_, gd_to (f1.o hq.ox), _, p1, f1.o hb.1, _, gd_to (f1.o hb.1), hk⟩
  refine ⟨_, gd_to hq.ox, _, gd_to hq.ox, _, gd_to hq.ox, _, h220.1, _, gd_to hb.1, _, h239.1, ho, ?_⟩
  rw [show s.P (20 * 11 + 0) x = some (H 220 x) from h220.1, show s.I (20 * 0 + 1) (H 220 x) = nI l.length from hb.2.2.elim fun _ h => h.2.2.1]
  exact w_addr (f := 0) hb ho hne (Nat.le_refl _) (Nat.zero_le _) (fun h s1 f1 => fin s1 f1 0 (k0 h s1 f1)) (fun a1 a2 a3 h s1 f1 hp => fin s1 f1 1 (k1 a1 a2 a3 h s1 f1 hp))
theorem P_way (hR : RR G H sa x s t) (hM : MV t) (hB : BT s x kc ks) (y : Int32) : SO G H sa x t [0, 3, 5, 6, 7, 8, 12, 13, 14, 16] (M_way t y) (C_Rf_way sa x y s kc ks) (XY s x kc ks) := by
  obtain ⟨tx, pg, h221, h222⟩ := hR.txs
  obtain ⟨hq, ⟨cap, hc, hb⟩, -⟩ := hR.q
  have hx := hq.1.1
  have h239 := hq.ty.p hx 239 39
  obtain ⟨n, e3, -, hn⟩ := hM.1.2.2.1
  have ec : (t.S 3).toNatClampNeg = n := by rw [e3, nI_clamp (by omega)]
  rw [ec] at hb
  have ll : (tl (t.I 2) n).length = n := tl_len _ _
  have hu : uT (moSS (moSS t 0 0) 3 0) (vc (tl (t.I 2) n)) n := by
    refine ⟨hn, vc_lt _, fun i hi => ?_⟩
    rw [rdI_n (t := moSS (moSS t 0 0) 3 0) (k := 2) (i := i) (n := 4096) (hM.n.n 2 4096) (by omega) (by decide), ← hb.gv (by rw [ll]; exact hi), tl_get hi]
    rfl
  obtain ⟨ra, t2, e2, m2, h2⟩ := m_addr (f := 0) (e := n) hu (hM.n.n 16 8) (Nat.le_refl _) (Nat.zero_le _)
  have mm : mfr [0, 3, 12, 13, 14, 16] t t2 := ((mfr.ss (k := 0) (v := 0) (by decide)).tr (mfr.ss (k := 3) (v := 0) (by decide))).tr (m2.wk (by intro k hk; revert hk; revert k; decide))
  have s3 : t2.S 3 = 0 := (m2.S 3 (by decide)).trans moSS_s
  have mw : mfr [0, 3, 5, 6, 7, 8, 12, 13, 14, 16] t t2 := mm.wk (by intro k hk; revert hk; revert k; decide)
  have eR : cR t2 = cR t := by unfold cR; rw [mm.S 37 (by decide)]
  have hra : ra = 0 ∨ ra = 1 := by
    unfold rA at h2
    cases ho : adP (vc (tl (t.I 2) n)) 0 n with
    | none => rw [ho] at h2; exact Or.inl h2
    | some p => obtain ⟨a1, a2, a3⟩ := p; rw [ho] at h2; exact Or.inr h2.1
  have eM : M_way t y = if ra = 0 then some (-1, t2) else if M_isRouter t2 y = 0 then some (-1, t2) else M_way_b36 t2 y (-1) (-1) (2700 * y) := by
    have eT : M_takeAddress (moSS t 0 0) = some (ra, t2) := by
      have e2' : M_readAddress (moSS (moSS t 0 0) 3 0) 0 ((moSS t 0 0).S 3) = some (ra, t2) := by
        rw [show (moSS t 0 0).S 3 = nI n from e3]; exact e2
      unfold M_takeAddress letS
      dsimp only
      rw [e2']
      exact if_pos hra
    unfold M_way letS
    dsimp only
    rw [eT]
    rfl
  have aft : ∀ s1, fp (H 239 x) s s1 → MV t2 ∧ RR G H sa x (cSI s1 1 (H 220 x) 0) t2 ∧ fr [39, 1] [] [] s (cSI s1 1 (H 220 x) 0) := fun s1 f1 => tp_take hR hM h239.2 f1 mm s3
  have hM2 : MV t2 := (aft s fp.rf).1
  have nn : M_way t y = some (-1, t2) → (∀ Q : Int32 → cS → Nat → Nat → Prop, (∀ s1, fp (H 239 x) s s1 → Q (-1) (cSI s1 1 (H 220 x) 0) kc ks) → C_Rf_way sa x y s kc ks Q) → SO G H sa x t [0, 3, 5, 6, 7, 8, 12, 13, 14, 16] (M_way t y) (C_Rf_way sa x y s kc ks) (XY s x kc ks) := by
    intro e k
    refine ⟨-1, t2, e, hM2, mw, fun Q h => k Q fun s1 f1 => ?_⟩
    obtain ⟨-, hR1, f⟩ := aft s1 f1
    exact h _ kc ks hR1 (XY.of (s1 := cSI s1 1 (H 220 x) 0) f1.1 f1.2.1 f XT.rf)
  have hadl : adP (vc (tl (t.I 2) n)) 0 (tl (t.I 2) n).length = adP (vc (tl (t.I 2) n)) 0 n := by rw [ll]
  have nb54 : ∀ (Q : Int32 → cS → Nat → Nat → Prop) s1, Q (-1) s1 kc ks → C_Rf_way_b54 sa x none s1 kc ks Q := fun Q s1 h => ifT rfl h
  cases ho : adP (vc (tl (t.I 2) n)) 0 n with
  | none =>
    rw [ho] at h2
    have h2 : ra = 0 := h2
    refine nn (by rw [eM, if_pos h2]) fun Q k => ⟨hq.ox, w_routerAt hq hM (fun _ => w_take hq hb (fun _ s1 f1 => ifT rfl (nb54 Q _ (k s1 f1))) (fun a1 a2 a3 h => by rw [hadl, ho] at h; cases h)) (fun r _ _ => w_take hq hb (fun _ s1 f1 => ifT rfl (nb54 Q _ (k s1 f1))) (fun a1 a2 a3 h => by rw [hadl, ho] at h; cases h))⟩
  | some p =>
    obtain ⟨a1, a2, a3⟩ := p
    rw [ho] at h2
    obtain ⟨r1, hbit, hfam, hz1, hz2⟩ := h2
    have hr0 : ¬ ra = 0 := by rw [r1]; decide
    rcases M_isR hM2 y with ⟨e, hnr⟩ | ⟨e, r, hr, rfl⟩
    · rw [eR] at hnr
      refine nn (by rw [eM, if_neg hr0, if_pos e]) fun Q k => ⟨hq.ox, w_rn hq hM hnr (w_take hq hb (fun h => by rw [hadl, ho] at h; cases h) (fun b1 b2 b3 _ s1 f1 _ => ifF (by decide) (ifT rfl (nb54 Q _ (k s1 f1)))))⟩
    have e : ¬ M_isRouter t2 (nI r) = 0 := by rw [e]; decide
    have hr' : r < cR t := by rw [← eR]; exact hr
    have eM' := eM
    rw [if_neg hr0, if_neg e, m_longest hM2 hr] at eM'
    have hlt := wyR_lt (t := t2) (r := r) (m := cN t2 r) (cN t2 r) 0 none (fun i h => by cases h) (by omega)
    have cls : ∀ (Q : Int32 → cS → Nat → Nat → Prop), (∀ s1, fp (H 239 x) s s1 → C_Rf_way_b54 sa x ((wyR t2 r (cN t2 r) 0 none).map fun j => G 4 (2700 * r + j)) (cSI s1 1 (H 220 x) 0) kc ks Q) → C_Rf_way sa x (nI r) s kc ks Q := by
      intro Q k
      refine ⟨hq.ox, w_ra hq hM hr' (w_take hq hb (fun h => by rw [hadl, ho] at h; cases h) (fun b1 b2 b3 hh s1 f1 hp => ?_))⟩
      rw [hadl, ho] at hh
      cases hh
      obtain ⟨-, hR1, f⟩ := aft s1 f1
      have hq1 := hR1.q.1
      have p239 := hq1.ty.p hq1.1.1 239 39
      refine ifF (by decide) (ifF (by simp) ⟨_, gd_to hq1.ox, _, rfl, okr (hq1.rt hr).1.1 9, ?_⟩)
      rw [show (cSI s1 1 (H 220 x) 0).P (20 * 11 + 19) x = some (H 239 x) from p239.1]
      refine w_longest hq1 hM2 hr (okr p239.2 5) hbit ?_ (k s1 f1)
      have hne : H 239 x ≠ H 220 x := fun e => by have := p239.2; rw [e, (hq1.ty.p hq1.1.1 220 1).2] at this; exact absurd this (by decide)
      rw [← hfam, hz1, hz2]
      obtain ⟨z1, z2, z3, z4⟩ := hp
      exact ⟨by rw [cSI_g (by decide)]; exact z1, z2, z3, by rw [cSI_g (by decide)]; exact z4⟩
    cases hw : wyR t2 r (cN t2 r) 0 none with
    | none =>
      rw [hw] at eM' cls
      exact nn (eM'.trans (if_pos rfl)) fun Q k => cls Q fun s1 f1 => nb54 Q _ (k s1 f1)
    | some j =>
      rw [hw] at eM' cls
      have hj := hlt j hw
      have hn880 := hM2.nRo hr
      have h6 := hM2.nR
      rw [if_neg (show ¬ ixI r (some j) = -1 from fun h => nI_pos (show 2700 * r + j < 2 ^ 31 by omega) (by rw [show nI (2700 * r + j) = -1 from h]; decide))] at eM'
      obtain ⟨t3, e4, d3⟩ := dd_route hM2 hr hj (DD.new hM2.n) (by decide)
      have eM2 : M_way t (nI r) = bn2 (M_shown t3) fun y s1 => some (y, s1) := by
        rw [eM']
        show Option.bind (M_sayRoute (moSS t2 8 0) (nI (2700 * r + j))) _ = _
        rw [e4]
        rfl
      have hlen : (([] : List Int32) ++ rtL t2 (2700 * r + j)).length ≤ 120000 := by
        have := rtL_len t2 (2700 * r + j)
        rw [List.nil_append]; omega
      have hd := dd_shown d3 hM2.1.1.2.2.1
      obtain ⟨e5, m5, h6', h5', d5, n5, n7, -⟩ := hd
      have m6 : mfr [0, 5, 6, 7, 8, 16] t2 (moShn t3) := m5.wk (by intro k hk; revert hk; revert k; decide)
      refine ⟨nI (([] : List Int32) ++ rtL t2 (2700 * r + j)).length, moShn t3, by rw [eM2, e5]; rfl, hM2.fr m6 rfl (hM2.1.tx m6 h6' hlen d5 n5 n7), mw.tr (m6.wk (by intro k hk; revert hk; revert k; decide)), fun Q k => cls Q fun s1 f1 => ?_⟩
      obtain ⟨-, hR1, f⟩ := aft s1 f1
      have hq1 := hR1.q.1
      have P1 : (cSI s1 1 (H 220 x) 0).P = s.P := f1.2.1
      have K1 : (cSI s1 1 (H 220 x) 0).K = s.K := f1.1
      have h221' : (cSI s1 1 (H 220 x) 0).P 221 x = some tx := by rw [P1]; exact h221
      have h222' : (cSI s1 1 (H 220 x) 0).P 222 x = some pg := by rw [P1]; exact h222
      have hB1 : BT (cSI s1 1 (H 220 x) 0) x kc ks := by
        unfold BT capOf at hB ⊢
        rw [P1, K1]; exact hB
      generalize cSI s1 1 (H 220 x) 0 = sB at hR1 hq1 f P1 K1 h221' h222' hB1
      obtain ⟨o1, q1, p1, A1⟩ := tx_new hR1 hM2 hB1 h221'
      refine ifF (by simp) ⟨_, gd_to hq1.ox, _, h221', o1, _, gd_to o1, q1.ox, ap_route q1 hM2 hr hj p1 A1 (Or.inl rfl) (by decide) (by decide) fun s' kc' ks' hA => ?_⟩
      obtain ⟨hR', hX⟩ := tx_end hR1 hM2 h221' h222' rfl hA m6 h6' h5' hlen
      have p' : s'.P 221 x = some tx := by rw [hX.2.1]; exact h221'
      refine ⟨_, gd_to hR'.q.1.ox, _, p', _, gd_to hA.o, ?_⟩
      rw [show s'.I (20 * 0 + 1) tx = nI (([] : List Int32) ++ rtL t2 (2700 * r + j)).length from hA.elim fun _ h => h.elim fun _ h => h.1.2.2.2.2.1]
      exact k s' kc' ks' hR' (XY.of K1 P1 f hX)
end Wz
