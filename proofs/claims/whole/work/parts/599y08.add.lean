/-! A row more in a table of the class. -/
section Ad
variable {G H : Nat → Nat → Nat} {sa : Nat → Nat} {x kc ks : Nat} {s : cS} {t : moS} {tb w p u ur u1 u2 u3 n hw mx cap at' : Nat} {g pf : Nat → Nat} {tag metric : Int32}
theorem w_b67 {Qk : Option Nat → cS → Nat → Nat → Prop} (hR : RR G H sa x s t) (hM : MV t) (h3 : ro3 ur u1 u2 u3) (hu : 130 ≤ u ∧ u < 146 ∧ cAk u = 8) (ho : okO s 10 tb) (hT : RTa s tb u ur n hw mx g) (hmx : mx ≤ 2800) (hP : s.P 200 tb = some w) (hK : s.K w = (u, cap)) (hn : n < cap) (hnm : n < mx) (hat : at' ≤ n) (hp : okO s 5 p) (hrole : (s.K p).1 ≠ u1 ∧ (s.K p).1 ≠ u2) (hkc : 4 * (mx - hw) ≤ kc) (hks : 24 * (mx - hw) ≤ ks) (kk : ∀ (H' : Nat → Nat → Nat) (a hw' : Nat) (s1 : cS) kc' ks', RR G H' sa x s1 t → hA H H' s → fr [] [] [] s s1 → RTa s1 tb u ur n hw mx g → s1.P 200 tb = some w → s1.K w = (u, cap) → (s1.K a).1 = ur → (n < hw ∧ hw' = hw ∧ a = g n ∨ n = hw ∧ hw' = hw + 1 ∧ (s.K a).1 = 0) → kc + 4 * (mx - hw') ≤ kc' + 4 * (mx - hw) → ks + 24 * (mx - hw') ≤ ks' + 24 * (mx - hw) → Qk (some a) (bgS (cSI (cQs s1 w (inF (s1.Q w) at' n a)) 201 tb (nI (n + 1))) a p (H' 160 a) (H' 161 a) (H' 162 a) tag metric) kc' ks') : C_Ta_add_b67 sa tb (some p) tag metric (nI at') s kc ks Qk := by
  have o3 := h3.u
  have e160 : tyF ur 160 = some (u1, 0) := by rcases h3 with ⟨rfl, rfl, rfl, rfl⟩ | ⟨rfl, rfl, rfl, rfl⟩ | ⟨rfl, rfl, rfl, rfl⟩ <;> rfl
  have e161 : tyF ur 161 = some (u2, 0) := by rcases h3 with ⟨rfl, rfl, rfl, rfl⟩ | ⟨rfl, rfl, rfl, rfl⟩ | ⟨rfl, rfl, rfl, rfl⟩ <;> rfl
  have e162 : tyF ur 162 = some (u3, 0) := by rcases h3 with ⟨rfl, rfl, rfl, rfl⟩ | ⟨rfl, rfl, rfl, rfl⟩ | ⟨rfl, rfl, rfl, rfl⟩ <;> rfl
  -- from a state where the row is there
  have go : ∀ (H' : Nat → Nat → Nat) (a hw' : Nat) (s1 : cS) kc' ks', RR G H' sa x s1 t → hA H H' s → fr [] [] [] s s1 → (s1.K a).1 = ur → (n < hw ∧ hw' = hw ∧ a = g n ∨ n = hw ∧ hw' = hw + 1 ∧ (s.K a).1 = 0) → kc + 4 * (mx - hw') ≤ kc' + 4 * (mx - hw) → ks + 24 * (mx - hw') ≤ ks' + 24 * (mx - hw) → C_Ta_add_b92 sa tb (some p) tag metric (nI at') (some a) s1 kc' ks' Qk := by
    intro H' a hw' s1 kc' ks' hR1 hA1 f ka hc b1 b2
    have hT1 : RTa s1 tb u ur n hw mx g := hT.fr f rfl ⟨ho.n0, by omega, by omega⟩ (by simp) (by simp) (by simp)
    have ho1 : okO s1 10 tb := by unfold okO; rw [(f tb ho.n0).1]; exact ho
    have hP1 : s1.P 200 tb = some w := by rw [(f tb ho.n0).2.2.1 200 (by simp)]; exact hP
    have hK1 : s1.K w = (u, cap) := by rw [(f w (by rw [hK]; show u ≠ 0; omega)).1]; exact hK
    have hp1 : okO s1 5 p := by unfold okO; rw [(f p hp.n0).1]; exact hp
    have kp : s1.K p = s.K p := (f p hp.n0).1
    have q1 := hR1.q.1.ty
    have r1 := q1.p ka 160 u1 e160
    have r2 := q1.p ka 161 u2 e161
    have r3 := q1.p ka 162 u3 e162
    refine w_b92 hT1 ho1 ⟨hu, o3.1⟩ hmx hP1 hK1 hn hat (okr ka 8 o3.1) hp1 r1.1 r2.1 r3.1 (okr r1.2 5 o3.2.1) (okr r2.2 5 o3.2.2.1) (okr r3.2 5 o3.2.2.2) (fun e => hrole.1 ?_) (fun e => hrole.2 ?_) (kk H' a hw' s1 kc' ks' hR1 hA1 f hT1 hP1 hK1 ka hc b1 b2)
    · rw [← kp, e]; exact r1.2
    · rw [← kp, e]; exact r2.2
  obtain ⟨a1, a2, a3, w', cap', b1, b2, b3, b4, b5, b6, b7, b8⟩ := id hT
  rw [hP] at b1
  cases b1
  rw [hK] at b2
  cases b2
  unfold C_Ta_add_b67
  refine ⟨_, gd_to ho, _, gd_to ho, w, hP, ?_⟩
  rw [show s.I (20 * 10 + 1) tb = nI n from a1]
  refine ⟨_, gd_to ⟨by rw [hK]; exact hu.1, by rw [hK]; exact hu.2.1, by rw [hK]; exact vp_in_nI hn (by omega)⟩, ?_⟩
  rw [nI_clamp (by omega)]
  by_cases c : n < hw
  · obtain ⟨y1, y2⟩ := b6 n c
    rw [y1]
    refine ifF (by simp) ?_
    exact go H (g n) hw s kc ks hR hA.rf fr.rf y2 (Or.inl ⟨c, rfl, rfl⟩) (Nat.le_refl _) (Nat.le_refl _)
  · have e : n = hw := by omega
    rw [b7 n (by omega)]
    refine ifT rfl ?_
    refine hq_nwO (u := ur) (hp_rf (sa := sa) (s := s)) (by omega) (by omega) (fun q s1 h => ?_) o3.1
    refine ⟨hp_o (L1 := []) h o3.1, hq_Ro h h3 (by omega) (by omega) fun A s2 h => ?_⟩
    obtain ⟨k1, k2, k3, k4⟩ := rr_newRo hR hM h3 h
    exact go (upH H q A) q (hw + 1) s2 _ _ k1 (hA_up k4) k2 (by rw [k3]) (Or.inr ⟨e, rfl, k4⟩) (by omega) (by omega)
theorem w_add {Qk : Option Nat → cS → Nat → Nat → Prop} (hR : RR G H sa x s t) (hM : MV t) (h3 : ro3 ur u1 u2 u3) (hu : 130 ≤ u ∧ u < 146 ∧ cAk u = 8) (huT : cAT u = .object "RoutingField$Route") (hT : RTa s tb u ur n hw mx g) (hmx : mx ≤ 2800) (hnm : n < mx) (ht : TbO s tb w n cap g pf) (hp : pOk s p) (hrole : (s.K p).1 ≠ u1 ∧ (s.K p).1 ≠ u2) (hkc : 5 * (mx - hw) ≤ kc) (hks : 24 * (mx - hw) + (4 * mx - 2 * cap) ≤ ks) (kk : ∀ (H' : Nat → Nat → Nat) (a i w' cap' hw' : Nat) (s1 : cS) kc' ks', RR G H' sa x s1 t → hA H H' s → fr [] [(200, 27), (200, 28), (200, 29)] [] s s1 → (∀ b g, b ≠ tb → (s.K b).1 ≠ 0 → s1.P g b = s.P g b) → i ≤ n → (∀ j, j < i → cPk s (pf j) < cPk s p) → (∀ j, i ≤ j → j < n → cPk s p ≤ cPk s (pf j)) → RTa s1 tb u ur n hw mx g → s1.P 200 tb = some w' → s1.K w' = (u, cap') → n < cap' → (s1.K a).1 = ur → (n < hw ∧ hw' = hw ∧ a = g n ∨ n = hw ∧ hw' = hw + 1 ∧ (s.K a).1 = 0) → kc + 5 * (mx - hw') ≤ kc' + 5 * (mx - hw) → ks + (24 * (mx - hw') + (4 * mx - 2 * cap')) ≤ ks' + (24 * (mx - hw) + (4 * mx - 2 * cap)) → Qk (some a) (bgS (cSI (cQs s1 w' (inF (s1.Q w') i n a)) 201 tb (nI (n + 1))) a p (H' 160 a) (H' 161 a) (H' 162 a) tag metric) kc' ks') : C_Ta_add sa tb (some p) tag metric s kc ks Qk := by
  have o3 := h3.u
  obtain ⟨hO, hw', hn, hA', hcap, hcap2, hrow, hs⟩ := id ht
  have hK : s.K w = (u, cap) := by
    obtain ⟨a1, a2, a3, w', cap', b1, b2, b3, b4, b5, b6, b7, b8⟩ := hT
    rw [hw'] at b1
    cases b1
    rw [b2] at hA' ⊢
    have : cap' = cap := hA'.2.2
    rw [this]
  have hwl : hw ≤ mx ∧ hw ≤ cap := by
    obtain ⟨a1, a2, a3, w', cap', b1, b2, b3, b4, b5, b6, b7, b8⟩ := hT
    rw [hw'] at b1
    cases b1
    rw [hK] at b2
    cases b2
    exact ⟨a3, b3⟩
  have hnw : n ≤ hw := hT.2.1
  unfold C_Ta_add
  refine ⟨hO, w_place ht hp fun i hi i1 i2 => ⟨_, gd_to hO, _, gd_to hO, w, hw', _, gd_to ⟨by rw [hK]; show 100 ≤ u; omega, by rw [hK]; show u < 160; omega⟩, ?_⟩⟩
  rw [show s.I (20 * 10 + 1) tb = nI n from hn, hK]
  show (if nI n < nI cap then _ else _)
  by_cases c : n < cap
  · refine ifT (nI_lt c (by omega)) ?_
    refine w_b67 hR hM h3 hu hO hT hmx hw' hK c hnm hi hp.1 hrole (by omega) (by omega) ?_
    intro H' a hw2 s1 kc' ks' q1 q2 q3 q4 q5 q6 q7 q8 q9 q10
    exact kk H' a i w cap hw2 s1 kc' ks' q1 q2 q3.wk (fun b g _ hb => (q3 b hb).2.2.1 g (by simp)) hi i1 i2 q4 q5 q6 c q7 q8 (by omega) (by omega)
  · have ec : cap = n := by omega
    refine ifF (nI_nlt (by omega) (by omega)) ⟨_, gd_to hO, w, hw', _, gd_to ⟨by rw [hK]; show 100 ≤ u; omega, by rw [hK]; show u < 160; omega⟩, ?_⟩
    rw [hK]
    refine ⟨2 * cap, ?_, by omega, by omega, by omega, u, ⟨hu.1, hu.2.1, huT⟩, fun q hq => ?_⟩
    · show nI cap * 2 = nI (2 * cap)
      rw [show (2 : Int32) = nI 2 from rfl, nI_mul, Nat.mul_comm]
    refine w_b34 hT hO ⟨hu, o3.1⟩ hmx hw' hK ec hq fun s1 hh => ?_
    have hR2 := rr_grow hR hM hO hw' hK hn ec (by omega) ⟨hu.1, hu.2.1⟩ hh
    have z1 := hp_at (L1 := []) hh
    have f1 : fr [] [(200, 27), (200, 28), (200, 29)] [] s (cSP s1 200 tb (some q)) := by
      have e1 : fr [] [] [] s s1 := (hp_ex hh).fr (fun a ha => by rw [List.mem_singleton.mp ha]; exact hq.1)
      have ho1 : okO s1 10 tb := by unfold okO; rw [(e1 tb hO.n0).1]; exact hO
      refine e1.wk.tr (fr.sp ?_)
      rcases ok10 ho1 with c | c | c <;> rw [c] <;> decide
    have hO2 : okO (cSP s1 200 tb (some q)) 10 tb := by unfold okO; rw [(f1 tb hO.n0).1]; exact hO
    have hT2 := ta_grow hw' hK hn ec (by omega) hq.1 (by omega) hh hT hmx ⟨hO.n0, by omega, by omega⟩
    have h16 : 16 ≤ cap := by
      obtain ⟨a1, a2, a3, w2, cap2, b1, b2, b3, b4, b5, b6, b7, b8⟩ := hT
      rw [hw'] at b1
      cases b1
      rw [hK] at b2
      cases b2
      exact b4
    refine w_b67 hR2 hM h3 hu hO2 hT2 hmx cSP_s (ov_K z1.1) (cap := 2 * cap) (by omega) hnm hi (by unfold okO; rw [(f1 p hp.1.n0).1]; exact hp.1) (by rw [(f1 p hp.1.n0).1]; exact hrole) (by omega) (by omega) ?_
    intro H' a hw2 s3 kc' ks' q1 q2 q3 q4 q5 q6 q7 q8 q9 q10
    refine kk H' a i q (2 * cap) hw2 s3 kc' ks' q1 (fun g b hb => q2 g b (by rw [(f1 b hb).1]; exact hb)) (f1.tr q3.wk) (fun b g hne hb => by
      rw [(q3 b (by rw [(f1 b hb).1]; exact hb)).2.2.1 g (by simp), cSP_o hne]
      exact (hp_ex hh b (fun z => hb (by rw [List.mem_singleton.mp z]; exact hq.1))).2.2.2.1 g) hi i1 i2 q4 q5 q6 (by omega) q7 ?_ (by omega) (by omega)
    rcases q8 with z | ⟨z1, z2, z3⟩
    · exact Or.inl z
    · refine Or.inr ⟨z1, z2, ?_⟩
      by_cases c0 : (s.K a).1 = 0
      · exact c0
      · rw [(f1 a c0).1] at z3
        exact absurd z3 c0
end Ad
/-- of what a table's growth changes, its own kind alone -/
theorem fr_tb1 {Rv Rq : List Nat} {s s1 : cS} {tb u : Nat} (f : fr Rv [(200, 27), (200, 28), (200, 29)] Rq s s1) (hP : ∀ b g, b ≠ tb → (s.K b).1 ≠ 0 → s1.P g b = s.P g b) (k : (s.K tb).1 = u) : fr Rv [(200, u)] Rq s s1 := fun a ha => by
  obtain ⟨h1, h2, h3, h4⟩ := f a ha
  refine ⟨h1, h2, fun g hg => ?_, h4⟩
  by_cases e : a = tb
  · refine h3 g fun z => hg ?_
    have z2 : g = 200 := by
      simp only [List.mem_cons, List.not_mem_nil, or_false, Prod.mk.injEq] at z
      omega
    rw [z2, e, k]
    exact List.mem_cons_self
  · exact hP a g e ha
