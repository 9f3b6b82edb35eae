/-! show, at the end. -/
section Sh
variable {G H : Nat → Nat → Nat} {sa : Nat → Nat} {x kc ks tx : Nat} {s s' : cS} {t t' : moS} {W : List Nat}
theorem mfr.s6 (h : mVa t) (m : mfr [0] t t') : ∃ n, t'.S 6 = nI n ∧ n ≤ 120000 ∧ n ≤ t'.N 5 := by
  obtain ⟨-, -, -, ⟨n, e, -, hn⟩, h5, -⟩ := h
  rw [e, nI_clamp (by omega)] at h5
  exact ⟨n, (m.S 6 (by decide)).trans e, hn, by rw [m.2 5 (Or.inl (by decide))]; exact h5⟩
theorem MV.m0 (h : MV t) (m : mfr [0] t t') : MV t' := by
  obtain ⟨n, e, hn, h5⟩ := m.s6 h.1
  have a := h.1.1
  refine h.fr m rfl (h.1.tx (m.wk (by intro k hk; revert hk; revert k; decide)) e hn h5 ?_ ?_)
  · rw [m.2 5 (Or.inl (by decide))]; exact a.2.2.1
  · rw [m.2 7 (Or.inl (by decide))]; exact a.2.1
theorem RTx.mf (h : RTx H x s t) (m : mfr W t t') (d : dj [2, 3, 5, 6] W) : RTx H x s t' := by
  unfold RTx
  rw [m.I 2 (d.n 2), m.S 3 (d.n 3), m.I 5 (d.n 5), m.S 6 (d.n 6)]
  exact h
/-- the model wrote nothing that counts -/
theorem RR.mf (h : RR G H sa x s t) (hM : MV t) (m : mfr W t t') (d : dj f_RQ W) (d2 : dj [2, 3, 5, 6] W) : RR G H sa x s t' := by
  obtain ⟨hq, ht⟩ := h.q
  exact RQ.r (hq.fr hM hq.1 (Rv := []) (Gp := []) (Rq := []) fr.rf m rfl rfl rfl d) (ht.mf m d2)
theorem RR.txs (h : RR G H sa x s t) : ∃ tx pg, s.P 221 x = some tx ∧ s.P 222 x = some pg := by
  obtain ⟨-, -, tx, pg, -, -, h1, h2, -⟩ := h.q
  exact ⟨tx, pg, h1, h2⟩
/-- the text, emptied -/
theorem tx_new (hR : RR G H sa x s t) (hM : MV t) (hB : BT s x kc ks) (h221 : s.P 221 x = some tx) : okO s 0 tx ∧ RQ G H sa x (cSI s 1 tx 0) t ∧ (cSI s 1 tx 0).P 221 x = some tx ∧ AP sa tx 124 120000 262144 (cSI s 1 tx 0) (16 * kc + capOf s tx) (ks + 2 * capOf s tx) [] (cSI s 1 tx 0) kc ks := by
  obtain ⟨hq, -, tx', pg', c1, c2, b1, b2, b3, b4, b5, b6, b7, b8, lp, b9⟩ := hR.q
  rw [h221] at b1
  cases b1
  obtain ⟨B1, B2⟩ := hB
  rw [h221] at B1 B2
  have B1 : 262144 ≤ 16 * kc + capOf s tx := B1
  have B2 : 524288 ≤ ks + 2 * capOf s tx := B2
  have f1 : fr [32, 124] [(0, 32)] [] s (cSI s 1 tx 0) := fr.si (by rw [b3]; decide)
  have g1 : RGl G H sa x (cSI s 1 tx 0) := hq.1.v rfl rfl f1 rfl rfl rfl
  have hq1 := hq.fr hM g1 f1 (mfr.rf (W := [])) rfl rfl rfl rfl
  have hb : BL (cSI s 1 tx 0) tx 124 [] c1 := by
    obtain ⟨a1, a2, d, a3, a4, a5, a6, a7, a8, a9⟩ := b8
    exact ⟨a1, a2, d, a3, a4, cSI_s, Nat.zero_le _, a7, a8, fun i hi => absurd hi (Nat.not_lt_zero _)⟩
  have e := b8.cap
  rw [e] at B1 B2 ⊢
  exact ⟨b8.1, hq1, h221, hb.ap (Or.inr (by decide)) (by decide) b6 B1 B2 hq1.1.2.2.1⟩
theorem DD.new {t0 : moS} (hN : mN t0) : DD [7, 8, 16] t0 (moSS t0 8 0) [] := ⟨⟨by decide, by decide⟩, ⟨moSS_s, Nat.zero_le _, hN.2.1.1, hN.2.1.2, fun i hi => absurd hi (Nat.not_lt_zero _)⟩, hN.1 16 (by decide), mfr.ss (by decide)⟩
theorem XT.rf : XT s x kc ks s kc ks := ⟨fr.rf, rfl, rfl, rfl, Nat.le_refl _, Nat.le_refl _⟩
theorem shL_len (hM : MV t) {r w : Nat} (hr : r < cR t) : (shL t r w).length ≤ 120000 := by
  have h4 := hM.nIf hr
  have hn := hM.nRo hr
  unfold shL
  split
  · have := lnS_len (cN t r) (fun j _ => rtL_len t (2700 * r + j)); omega
  split
  · have := lnS_len (cI t r) (fun j _ => itL_len t (4 * r + j)); omega
  split
  · have := lnS_len (f := fun i => ctL t r i) 11 (fun j _ => ctL_len t r j); omega
  · have := lnS_len (cN t r) (fun j _ => tmL_len t (2700 * r + j)); omega
theorem P_show (hR : RR G H sa x s t) (hM : MV t) (hB : BT s x kc ks) (y z : Int32) : ∃ r t', M_show t y z = some (r, t') ∧ MV t' ∧ mfr [0, 5, 6, 7, 8, 16] t t' ∧ ∀ Q : Int32 → cS → Nat → Nat → Prop, (∀ s' kc' ks', RR G H sa x s' t' → XT s x kc ks s' kc' ks' → Q r s' kc' ks') → C_Rf_show sa x y z s kc ks Q := by
  obtain ⟨tx, pg, h221, h222⟩ := hR.txs
  have hq := hR.q.1
  have m0 : mfr [0] t (moSS t 0 0) := mfr.ss (by decide)
  have hM0 := hM.m0 m0
  have hR0 : RR G H sa x s (moSS t 0 0) := hR.mf hM m0 rfl rfl
  have m0' : mfr [0, 5, 6, 7, 8, 16] t (moSS t 0 0) := mfr.ss (by decide)
  have no : M_show t y z = some (-1, moSS t 0 0) → (∀ Q : Int32 → cS → Nat → Nat → Prop, Q (-1) s kc ks → C_Rf_show sa x y z s kc ks Q) → ∃ r t', M_show t y z = some (r, t') ∧ MV t' ∧ mfr [0, 5, 6, 7, 8, 16] t t' ∧ ∀ Q : Int32 → cS → Nat → Nat → Prop, (∀ s' kc' ks', RR G H sa x s' t' → XT s x kc ks s' kc' ks' → Q r s' kc' ks') → C_Rf_show sa x y z s kc ks Q :=
    fun e k => ⟨-1, _, e, hM0, m0', fun Q h => k Q (h s kc ks hR0 XT.rf)⟩
  rcases M_isR hM0 y with ⟨e, hn⟩ | ⟨e, r, hr, rfl⟩
  · refine no (if_pos e) fun Q hQ => ⟨hq.ox, w_routerAt hq hM (fun _ => ifT rfl hQ) fun r hr e => absurd e (hn r hr)⟩
  have e : ¬ M_isRouter (moSS t 0 0) (nI r) = 0 := by rw [e]; decide
  have hr' : r < cR t := hr
  have ra : ∀ {Q : Option Nat → cS → Nat → Nat → Prop}, Q (some (G 1 r)) s kc ks → C_Rf_routerAt sa x (nI r) s kc ks Q := fun h => w_routerAt hq hM (fun h => absurd rfl (h r hr')) fun r' h1 h2 => by
    have h6 := hM.nR
    rw [← (nI_eq (show r < 2 ^ 31 by omega) (show r' < 2 ^ 31 by omega)).mp h2]; exact h
  by_cases c0 : z < 0
  · exact no ((if_neg e).trans (if_pos c0)) fun Q hQ => ⟨hq.ox, ra (ifF (by simp) (ifT c0 hQ))⟩
  by_cases c3 : (3 : Int32) < z
  · exact no ((if_neg e).trans ((if_neg c0).trans (if_pos c3))) fun Q hQ => ⟨hq.ox, ra (ifF (by simp) (ifF c0 (ifT c3 hQ)))⟩
  obtain ⟨w, hw, rfl⟩ := nI_of c0
  have hw3 : w ≤ 3 := Nat.le_of_not_lt fun h => c3 (nI_lt (a := 3) h hw)
  obtain ⟨t1, e1, h1⟩ := dd_show hM0 hr hw3 (DD.new hM0.n)
  obtain ⟨e2, m2, h6, h5, d5, n5, n7, -⟩ := dd_shown h1 hM0.1.1.2.2.1
  have hL := shL_len (w := w) hM0 hr
  have m3 : mfr [0, 5, 6, 7, 8, 16] (moSS t 0 0) (moShn t1) := m2.wk (by intro k hk; revert hk; revert k; decide)
  refine ⟨nI (shL (moSS t 0 0) r w).length, moShn t1, ?_, hM0.fr m3 rfl (hM0.1.tx m3 h6 hL d5 n5 n7), m0'.tr m3, fun Q k => ⟨hq.ox, ra (ifF (by simp) (ifF c0 (ifF c3 ⟨_, gd_to hq.ox, _, h221, ?_⟩)))⟩⟩
  · refine (if_neg e).trans ((if_neg c0).trans ((if_neg c3).trans ?_))
    refine e1.trans ?_
    unfold M_show_b174
    rw [e2]
    rfl
  obtain ⟨o1, q1, p1, A1⟩ := tx_new hR0 hM0 hB h221
  refine ⟨o1, _, gd_to o1, ?_⟩
  have nw : ∀ a : Nat, a ≤ 3 → (nI w = nI a ↔ w = a) := fun a ha => nI_eq (by omega) (by omega)
  have fin : ∀ s' kc' ks', AP sa tx 124 120000 262144 (cSI s 1 tx 0) (16 * kc + capOf s tx) (ks + 2 * capOf s tx) (shL (moSS t 0 0) r w) s' kc' ks' → C_Rf_show_b71 sa x s' kc' ks' Q := by
    intro s' kc' ks' hA
    obtain ⟨hR', hX⟩ := tx_end hR0 hM0 h221 h222 rfl hA m3 h6 h5 hL
    have hq' := hR'.q.1
    have p' : s'.P 221 x = some tx := by rw [hX.2.1]; exact h221
    refine ⟨_, gd_to hq'.ox, _, p', _, gd_to hA.o, ?_⟩
    rw [show s'.I (20 * 0 + 1) tx = nI (shL (moSS t 0 0) r w).length from hA.elim fun _ h => h.elim fun _ h => h.1.2.2.2.2.1]
    exact k s' kc' ks' hR' hX
  show (if nI w = 0 then _ else _)
  by_cases w0 : w = 0
  · refine ifT ((nw 0 (by decide)).mpr w0) ⟨q1.ox, ap_routes q1 hM0 hr p1 A1 (by decide) (by decide) fun s' kc' ks' hA => fin s' kc' ks' ?_⟩
    unfold shL; rw [if_pos w0]; exact hA
  refine ifF (fun h => w0 ((nw 0 (by decide)).mp h)) ?_
  by_cases w1 : w = 1
  · refine ifT ((nw 1 (by decide)).mpr w1) ⟨q1.ox, ap_ports q1 hM0 hr p1 A1 (by decide) (by decide) fun s' kc' ks' hA => fin s' kc' ks' ?_⟩
    unfold shL; rw [if_neg w0, if_pos w1]; exact hA
  refine ifF (fun h => w1 ((nw 1 (by decide)).mp h)) ?_
  by_cases w2 : w = 2
  · refine ifT ((nw 2 (by decide)).mpr w2) ⟨q1.ox, ap_counts q1 hr p1 A1 (by decide) (by decide) fun s' kc' ks' hA => fin s' kc' ks' ?_⟩
    unfold shL; rw [if_neg w0, if_neg w1, if_pos w2]; exact hA
  refine ifF (fun h => w2 ((nw 2 (by decide)).mp h)) ⟨q1.ox, ap_times q1 hM0 hr p1 A1 (by decide) (by decide) fun s' kc' ks' hA => fin s' kc' ks' ?_⟩
  unfold shL; rw [if_neg w0, if_neg w1, if_neg w2]; exact hA
end Sh
