/-! All routers take their turns: both sides. -/
theorem ar_u1 {d m N : Nat} (h : d + (m + 1) * 8850 < N) : d + m * 8850 < N := Nat.lt_of_le_of_lt (Nat.add_le_add_left (Nat.mul_le_mul_right 8850 (Nat.le_succ m)) d) h
theorem ar_u2 {d m N : Nat} (h : d + (m + 1) * 8850 < N) : d + 8850 < N := Nat.lt_of_le_of_lt (Nat.add_le_add_left (Nat.le_trans (Nat.le_of_eq (Nat.one_mul 8850).symm) (Nat.mul_le_mul_right 8850 (Nat.le_add_left 1 m))) d) h
theorem ar_u3 {d e m N : Nat} (he : e ≤ 8850) (h : d + (m + 1) * 8850 < N) : d + e + m * 8850 < N := by
  have : (m + 1) * 8850 = m * 8850 + 8850 := Nat.succ_mul m 8850
  rw [this] at h
  omega
theorem ar_u4 (m : Nat) : 8850 + m * 8850 = (m + 1) * 8850 := by rw [Nat.succ_mul, Nat.add_comm]
section Ts
variable {sa : Nat → Nat} {x : Nat} {Q : Int32 → cS → Nat → Nat → Prop} {P27 : Int32 → cS → Nat → Nat → Prop} {p1 a2 : Int32} {Os : Nat → List Pf}
theorem tk_rts : ∀ (m r : Nat) (G H : Nat → Nat → Nat) (s : cS) (t : moS) (kc ks : Nat), r + m = cR t → RR G H sa x s t → MV t → AGs t → EX Os t → (∀ j, j < 10 → ∃ d, t.I 23 j = nI d ∧ d + m * 8850 < 2 ^ 31) → PoC s G H t + tdC G ≤ kc → PoS s G H t + tdS s G H x ≤ ks → (∀ t', M_tick_b54 t (nI r) = some t' → MV t' → AGs t' → EX Os t' → mfr Wtu t t' → SA23 (m * 8850) t t' → SD t t' → TuK sa x G H s t kc ks t' (fun s' kc' ks' => P27 (a2 + 1) s' kc' ks')) → C_Rf_ticks_b48 sa x p1 a2 (nI r) s kc ks Q P27
  | 0, r, G, H, s, t, kc, ks, hm, hR, hM, hAg, hE, hs, hkc, hks, k => by
    intro P48 hc
    refine hc _ _ _ _ ?_
    have h6 := hM.nR
    have hq := hR.q.1
    have e37 : t.S 37 = nI (cR t) := hM.1.2.2.2.2.2.2.2.n.1
    have i229 : s.I 229 x = t.S 37 := hq.2.2.1.2.2.2.1
    have em : M_tick_b54 t (nI r) = some t := by
      unfold M_tick_b54
      refine lp_x ?_
      show M_tick_s54 t (nI r) = _
      unfold M_tick_s54
      rw [if_neg (by rw [e37]; exact nI_nlt (by omega) (by omega))]
    unfold C_Rf_ticks_s48
    refine ⟨_, gd_to hq.ox, ?_⟩
    rw [show s.I (20 * 11 + 9) x = nI (cR t) from i229.trans e37]
    exact ifF (nI_nlt (by omega) (by omega)) (k t em hM hAg hE mfr.rf (SA23.fr (mfr.rf (W := [])) (by decide)) SD.rf G H s kc ks hR ⟨rfl, rfl, rfl⟩ hA.rf fr.rf (HO.rf rfl) (Nat.le_refl _) (Nat.le_refl _))
  | m + 1, r, G, H, s, t, kc, ks, hm, hR, hM, hAg, hE, hs, hkc, hks, k => by
    intro P48 hc
    refine hc _ _ _ _ ?_
    have h6 := hM.nR
    have hq := hR.q.1
    have hr : r < cR t := by omega
    have e37 : t.S 37 = nI (cR t) := hM.1.2.2.2.2.2.2.2.n.1
    have i229 : s.I 229 x = t.S 37 := hq.2.2.1.2.2.2.1
    have i183 : s.I 183 (G 1 r) = t.I 39 r := (hq.rt hr).2.2.1.2.1
    have step : ∀ t', M_tick_s54 t (nI r) = some (.inl (nI (r + 1), t')) → M_tick_b54 t (nI r) = M_tick_b54 t' (nI (r + 1)) := fun t' st => by
      unfold M_tick_b54
      exact lp_l (f := fun x : Int32 × moS => M_tick_s54 x.2 x.1) st
    unfold C_Rf_ticks_s48
    refine ⟨_, gd_to hq.ox, ?_⟩
    rw [show s.I (20 * 11 + 9) x = nI (cR t) from i229.trans e37]
    refine ifT (nI_lt hr (by omega)) (w_rts hq hM hr ⟨_, gd_to (okr (hq.rt hr).1.1 9), ?_⟩)
    rw [show s.I (20 * 9 + 3) (G 1 r) = t.I 39 r from i183]
    by_cases c : t.I 39 r = 0
    · refine ifT c ?_
      unfold C_Rf_ticks_b77
      have st : M_tick_s54 t (nI r) = some (.inl (nI (r + 1), t)) := by
        unfold M_tick_s54 M_tick_b165
        rw [if_pos (by rw [e37]; exact nI_lt hr (by omega)), rdI_n (n := 6) (hM.n.n 39 6) (by omega) (by decide)]
        simp only [Option.bind_some]
        rw [if_pos c, nI_1]
      rw [nI_1]
      refine tk_rts m (r + 1) G H s t kc ks (by omega) hR hM hAg hE (fun j hj => ?_) hkc hks (fun t' y1 y2 y3 y4 y5 y6 y7 => k t' ((step t st).trans y1) y2 y3 y4 y5 ?_ y7) P48 hc
      · obtain ⟨d, e, hd⟩ := hs j hj
        exact ⟨d, e, ar_u1 hd⟩
      · rw [← ar_u4]
        exact (SA23.fr (n := 8850) (mfr.rf (W := [])) (by decide)).tr y6
    · refine ifF c (w_rts hq hM hr ⟨okr (hq.rt hr).1.1 9, ?_⟩)
      refine c_turn hR hM hAg hE hr c (fun j hj => ?_) hkc hks fun t2 e2 M2 A2 E2 m2 b2 d2 => ?_
      · obtain ⟨d, e, hd⟩ := hs j hj
        exact ⟨d, e, ar_u2 hd⟩
      intro G2 H2 s2 kc2 ks2 R2 g2 h2 f2 o2 x1 x2
      unfold C_Rf_ticks_b77
      rw [nI_1]
      refine tk_rts m (r + 1) G2 H2 s2 t2 kc2 ks2 (by unfold cR; rw [m2.S 37 (by decide)]; show r + 1 + m = cR t; omega) R2 M2 A2 E2 (fun j hj => ?_) (ar_7 x1 hkc) (ar_7 x2 hks) (fun t' y1 y2 y3 y4 y5 y6 y7 => (k t' ((step t2 e2).trans y1) y2 y3 y4 (m2.tr y5) ?_ (d2.tr y7)).tr g2 h2 f2 o2 x1 x2) P48 hc
      · obtain ⟨d, e, hd⟩ := hs j hj
        obtain ⟨d', h', e'⟩ := b2 j hj
        exact ⟨d + d', by rw [e', e, nI_add], ar_u3 h' hd⟩
      · rw [← ar_u4]
        exact b2.tr y6
end Ts
