/-! An operation of the law, over any invariant of both memories. -/
/-- the law's invariant out of one of both memories -/
def picI (base : Nat) (sa : Nat → Nat) (b L : Nat) (xs : Nat → Int32) (V : Nat → Nat → cS → moS → Nat → Nat → Prop) (x m o n : Nat) (M : pmM) (kc ks : Nat) : Prop := ∃ (R : pmM) (q : Nat → Nat) (s : cS) (t : moS), M = cM (moM R m q t) s ∧ picP base sa b L xs m o R q s ∧ V x n s t kc ks
/-- behind the class's call: enough is left for the model's, and behind that the invariant holds -/
def midV (V : Nat → Nat → cS → moS → Nat → Nat → Prop) (x n : Nat) (s : cS) (t t' : moS) (kc ks : Nat) : Prop := (2700000 ≤ 4096 * kc + (t.N 7 + t.N 5) + 192 * t.N 102 ∧ 1340000 ≤ ks + 2 * (t.N 7 + t.N 5) + 6 * t.N 102) ∧ ∀ kc2 ks2, 4096 * kc + (t.N 7 + t.N 5) + 192 * t.N 102 ≤ 4096 * kc2 + (t'.N 7 + t'.N 5) + 192 * t'.N 102 → ks + 2 * (t.N 7 + t.N 5) + 6 * t.N 102 ≤ ks2 + 2 * (t'.N 7 + t'.N 5) + 6 * t'.N 102 → V x n s t' kc2 ks2
section Lo
variable {base b L : Nat} {sa : Nat → Nat} {R : pmM} {x m o : Nat} {q : Nat → Nat} {s : cS} {t : moS} {xs : Nat → Int32} {V : Nat → Nat → cS → moS → Nat → Nat → Prop}
theorem pic_mW {kc ks : Nat} (h : picP base sa b L xs m o R q s) (hN : mN t) (h1 : 2700000 ≤ 4096 * kc + (t.N 7 + t.N 5) + 192 * t.N 102) (h2 : 1340000 ≤ ks + 2 * (t.N 7 + t.N 5) + 6 * t.N 102) : mW (4096 * kc + (t.N 7 + t.N 5) + 192 * t.N 102, ks + 2 * (t.N 7 + t.N 5) + 6 * t.N 102) (cM R s) base m q t kc ks := ⟨h.1, pic_D h.2.1 h.2.2.1, Nat.le_refl _, Nat.le_refl _, hN.2.1, hN.2.2.1, hN.2.2.2, h1, h2⟩
theorem lw_op (hV : ∀ x n s t kc ks, V x n s t kc ks → (s.K x).1 = 30 ∧ mN t) {A : List Value} {T1 T2 : pmT} (C : cS → Nat → Nat → (Int32 → cS → Nat → Nat → Prop) → Prop) (Mo : moS → Option (Int32 × moS)) (hc : ∀ (R : pmM) (s : cS) (kc ks : Nat) (Rt : pmR) (Q : Int32 → cS → Nat → Nat → Prop), cW sa R base s → C s kc ks Q → (∀ r s' kc' ks', cW sa R base s' → Q r s' kc' ks' → Rt (some (.int r)) (cM R s') kc' ks') → T1 (.ref x :: A) (cM R s) kc ks Rt) (hm : ∀ (C : Nat × Nat) (R : pmM) (q : Nat → Nat) (t tz : moS) (kc ks : Nat) (Rt : pmR) (r : Int32), mW C R base m q t kc ks → Mo t = some (r, tz) → (∀ (q' : Nat → Nat) (kc' ks' : Nat), mW C R base m q' tz kc' ks' → Rt (some (.int r)) (moM R m q' tz) kc' ks') → T2 (.ref m :: A) (moM R m q t) kc ks Rt) (h : ∀ n s t kc ks, V x (n + 1) s t kc ks → C s kc ks (fun r s' kc' ks' => ∃ t', Mo t = some (r, t') ∧ midV V x n s' t t' kc' ks')) : lw2 (picI base sa b L xs V x m o) b L xs (pm_rcv 11 T1) (pm_rcv 12 T2) (.ref x :: A) (.ref m :: A) := by
  rintro n M kc ks ⟨R, q, s, t, rfl, hP, hI⟩
  obtain ⟨kx, hN⟩ := hV _ _ _ _ _ _ hI
  obtain ⟨hq, hD, hA, hC, hb, ho⟩ := hP
  refine pm_rcv_of (cM_o (u := 30) kx rfl rfl rfl) (hc _ _ _ _ _ _ (pic_cW hD hA hC) (h n s t kc ks hI) fun r s' kc' ks' hw hQ => ?_)
  obtain ⟨t', e, ⟨b1, b2⟩, hmid⟩ := hQ
  have hA' := pic_ap hq hw
  have hP' : picP base sa b L xs m o R q s' := ⟨hq, hD, hA', hC, hb, ho⟩
  refine ⟨by rw [pic_R hD hA' (by rw [hb]; simp)]; exact hb, r, rfl, ?_⟩
  rw [pic_cm hq hA']
  refine pm_rcv_of moM_m (hm _ _ _ _ _ _ _ _ _ (pic_mW hP' hN b1 b2) e fun q' kc2 ks2 hw2 => ⟨rfl, ?_⟩)
  obtain ⟨w1, w2, w3, w4, -⟩ := hw2
  obtain ⟨d1, d2⟩ := pic_D' hA' w2
  exact ⟨R, q', s', t', (pic_cm w1 d2).symm, ⟨w1, d1, d2, hC, hb, ho⟩, hmid kc2 ks2 w3 w4⟩
set_option maxRecDepth 100000 in
theorem g_textAt {kc ks tx cap j : Nat} {l : List Int32} {Rt : pmR} (hO : isO s 30 x) (h221 : s.P 221 x = some tx) (hT : isO s 32 tx) (hb : BL s tx 124 l cap) (hj : j < l.length) (hw : cW sa R base s) (k : Rt (some (.int (nI (vc l j)))) (cM R s) kc ks) : kP_Rf_textAt base sa [.ref x, .int (nI j)] (cM R s) kc ks Rt := by
  have hl : l.length < 2 ^ 31 := by
    obtain ⟨-, -, d, -, -, -, h6, -, h8, -⟩ := hb
    omega
  have e1 : s.I 1 tx = nI l.length := by
    obtain ⟨-, -, d, -, -, h5, -⟩ := hb
    exact h5
  refine ⟨Nat.le_of_ble_eq_true rfl, fun G hG => ?_⟩
  refine pgs hG rfl rfl ?_
  refine pz_lt hG (t := 15) rfl rfl (fun c => absurd c (nI_pos (by omega))) (fun _ => ?_)
  refine pgs hG rfl rfl ?_
  refine pgs hG rfl rfl ?_
  refine c_gr hG rfl rfl hO rfl rfl rfl rfl rfl h221 ?_
  refine c_gi hG rfl rfl hT rfl rfl rfl rfl rfl ?_
  refine pi_lt hG (t := 25) rfl rfl (fun _ => ?_) (fun c => absurd (show nI j < s.I (20 * 0 + 1) tx from by rw [show s.I (20 * 0 + 1) tx = nI l.length from e1]; exact nI_lt hj hl) c)
  refine pgs hG rfl rfl ?_
  refine c_gr hG rfl rfl hO rfl rfl rfl rfl rfl h221 ?_
  refine pgs hG rfl rfl ?_
  refine pg_cal hG 0 rfl rfl (Nat.le_of_ble_eq_true rfl) (by decide) (Nat.le_of_ble_eq_true rfl) ?_
  refine pm_rcv_of (As' := [.int (nI j)]) (cM_o hT rfl rfl rfl) (kc_By_at base sa (Q := fun r s' kc' ks' => r = nI (vc l j) ∧ s' = s ∧ kc' = kc ∧ ks' = ks) hw (w_at hb hj ⟨rfl, rfl, rfl, rfl⟩) ?_)
  rintro r s' kc' ks' - ⟨rfl, rfl, rfl, rfl⟩
  exact pg_ri hG rfl rfl rfl k
set_option maxRecDepth 100000 in
theorem law_textAt {kc ks tx cap j : Nat} {l : List Int32} {f : Nat → Int64} {Rt : pmR} (hO : isO s 30 x) (h221 : s.P 221 x = some tx) (hT : isO s 32 tx) (hb : BL s tx 124 l cap) (hj : j < l.length) (hw : cW sa R base s) (ho : base ≤ o) (hf : cM R s o = some (.inl (.long, 1, .inr (.inl f)))) (k : Rt (some (.int 0)) (pm_up (cM R s) o (.inl (.long, 1, .inr (.inl (vp_updL f 0 (nI (vc l j)).toInt64))))) kc ks) : kP_La_textAt base sa [.ref x, .int (nI j), .ref o] (cM R s) kc ks Rt := by
  refine ⟨Nat.le_of_ble_eq_true rfl, fun G hG => ?_⟩
  refine pgs hG rfl rfl ?_
  refine pgs hG rfl rfl ?_
  refine pgs hG rfl rfl ?_
  refine pgs hG rfl rfl ?_
  refine pg_cal hG 0 rfl rfl (Nat.le_of_ble_eq_true rfl) (by decide) (Nat.le_of_ble_eq_true rfl) ?_
  refine pm_rcv_of (As' := [.int (nI j)]) (cM_o hO rfl rfl rfl) (g_textAt hO h221 hT hb hj hw ?_)
  refine pgs hG rfl rfl ?_
  refine pg_ls hG rfl hf ho (show vp_in (nI 0) 1 from vp_in_nI (by decide) (by decide)) ?_
  refine pg_go hG (t := 15) rfl rfl ?_
  refine pgs hG rfl rfl ?_
  exact pg_ri hG rfl rfl rfl k
end Lo
