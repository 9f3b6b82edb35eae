/-! The law answers 1. -/
section Lw
variable {base b L : Nat} {sa : Nat → Nat} {xs : Nat → Int32} {M0 : pmM} {kc ks : Nat}
theorem ar_d1 {R d n B c k N5 N7 N1 : Nat} (h : 4096 * (R + d + 320 * (n + 1) + 16 * B) + 139027744 ≤ 4096 * k + (N7 + N5) + 192 * N1 + 256 * c) : 4096 * (R + d + 320 * n + 16 * B) + 139027744 ≤ 4096 * k + (N7 + N5) + 192 * N1 + 256 * c := by omega
theorem ar_d2 {R d n B c k N5 N7 N1 : Nat} (h : R + d + 6000 * (n + 1) + 300 * B + 2404960 ≤ k + 2 * (N7 + N5) + 6 * N1 + 2 * c) : R + d + 6000 * n + 300 * B + 2404960 ≤ k + 2 * (N7 + N5) + 6 * N1 + 2 * c := by omega
theorem vN.drop {n : Nat} {t : moS} {Os : Nat → List Pf} {E : List (Int32 × Int64)} (h : vN (n + 1) t Os E) : vN n t Os E := by
  obtain ⟨h1, h2, h3⟩ := h
  refine ⟨fun r => by have := h1 r; omega, by omega, fun j hj => ?_⟩
  obtain ⟨v, e, hv⟩ := h3 j hj
  exact ⟨v, e, by omega⟩
theorem IVn.drop {x n : Nat} {s : cS} {t : moS} (h : IVn sa x (n + 1) s t kc ks) : IVn sa x n s t kc ks := by
  obtain ⟨G, H, Os, E, hr, hn, c1, c2⟩ := h
  exact ⟨G, H, Os, E, hr, hn.drop, ar_d1 c1, ar_d2 c2⟩
/-- textAt's two ends -/
theorem ar_d3 {R d n B c k N : Nat} (h : 4096 * (R + d + 320 * (n + 1) + 16 * B) + 139027744 ≤ 4096 * k + N + 256 * c) (hk : 1 ≤ k) : 4096 * (R + d + 320 * n + 16 * B) + 139027744 ≤ 4096 * (k - 1) + N + 256 * c := by omega
theorem ar_d4 {R d n B c k N : Nat} (h : R + d + 6000 * (n + 1) + 300 * B + 2404960 ≤ k + N + 2 * c) (hk : 6 ≤ k) : R + d + 6000 * n + 300 * B + 2404960 ≤ k - 6 + N + 2 * c := by omega
theorem IVn.s0 {x n : Nat} {s : cS} {t : moS} {v : Int32} (h : IVn sa x n s t kc ks) : IVn sa x n s (moSS t 0 v) kc ks := by
  obtain ⟨G, H, Os, E, hr, hn, c1, c2⟩ := h
  have m0 : mfr [0] t (moSS t 0 v) := mfr.ss (by decide)
  have hM0 : MV (moSS t 0 v) := hr.2.1.fr m0 rfl (hr.2.1.1.fr m0 rfl)
  have hR0 : RR G H sa x s (moSS t 0 v) := rr_fr hr.1 hr.2.1 hr.1.q.1.1 (fr.rf (Rv := []) (Gp := []) (Rq := [])) m0 rfl rfl rfl rfl rfl rfl rfl
  obtain ⟨p1, p2⟩ := rc_same (G := G) (H := H) (x := x) (s := s) (s1 := s) rfl rfl m0 rfl rfl
  refine ⟨G, H, Os, E, hr.so hR0 hM0 m0 rfl rfl rfl (fr.rf (Rv := []) (Gp := []) (Rq := [])) rfl, ⟨hn.1, hn.2.1, fun j hj => ?_⟩, ?_, ?_⟩
  · obtain ⟨d, e, hd⟩ := hn.2.2 j hj
    refine ⟨d, e, ?_⟩
    rw [rq_m m0 rfl]
    exact hd
  · rw [p1]
    exact c1
  · rw [p2]
    exact c2
theorem IVn.t1 {x n : Nat} {s : cS} {t : moS} (h : IVn sa x (n + 1) s t kc ks) : (1 ≤ kc ∧ 6 ≤ ks) ∧ IVn sa x n s (moSS t 0 1) (kc - 1) (ks - 6) ∧ IVn sa x n s (moSS t 0 0) kc ks := by
  have h0 : 1 ≤ kc ∧ 6 ≤ ks := by
    obtain ⟨G, H, Os, E, hr, hn, hC⟩ := h
    obtain ⟨b1, b2⟩ := hC.k (m1 := 1) (m2 := 6) hr.1 hr.2.1 (by omega) (by omega)
    exact ⟨Nat.le_trans (Nat.le_add_left _ _) b1, Nat.le_trans (Nat.le_add_left _ _) b2⟩
  refine ⟨h0, IVn.s0 ?_, h.drop.s0⟩
  obtain ⟨G, H, Os, E, hr, hn, c1, c2⟩ := h
  refine ⟨G, H, Os, E, hr, hn.drop, ?_, ?_⟩
  · rw [Nat.add_assoc (4096 * kc)] at c1
    rw [Nat.add_assoc (4096 * (kc - 1))]
    exact ar_d3 c1 h0.1
  · rw [Nat.add_assoc ks] at c2
    rw [Nat.add_assoc (ks - 6)]
    exact ar_d4 c2 h0.2
theorem IVn.tx {x n : Nat} {s : cS} {t : moS} (h : IVn sa x n s t kc ks) : (s.K x).1 = 30 ∧ mN t ∧ ∃ tx cap n, s.P 221 x = some tx ∧ (s.K tx).1 = 32 ∧ t.S 6 = nI n ∧ n ≤ 120000 ∧ n ≤ t.N 5 ∧ BL s tx 124 (tl (t.I 5) n) cap := by
  have hv := h.v
  obtain ⟨G, H, Os, E, hr, -⟩ := h
  obtain ⟨-, -, tx, pg, c1, c2, h1, h2, k1, -, -, -, -, b1, -⟩ := hr.1.q
  obtain ⟨k, e6, -, hk⟩ := hr.2.1.1.2.2.2.1
  have e : (t.S 6).toNatClampNeg = k := by rw [e6, nI_clamp (by omega)]
  have h5 := hr.2.1.1.2.2.2.2.1
  rw [e] at b1 h5
  exact ⟨hv.1, hv.2, tx, c1, k, h1, k1, e6, hk, h5, b1⟩
/-- the start, as the law makes it -/
theorem law_start {x qt qta qx qxa qp qpa ql qr qi qf qs qd qd1 qd2 qd3 qd4 qo qoa qe qh m : Nat} {ws : List Nat} {o : Nat} (hC : cstR sa M0) (hb : M0 b = some (.inl (.int, L, .inl xs))) (hkc : 600000 ≤ kc) (hks : 6400000 ≤ ks) (hbx : base ≤ x) (hx : M0 x = none) (hq : ∀ q ∈ [qt, qta, qx, qxa, qp, qpa, ql, qr, qi, qf, qs, qd, qd1, qd2, qd3, qd4, qo, qoa, qe, qh], base ≤ q ∧ M0 q = none) (hnd : [x, qt, qta, qx, qxa, qp, qpa, ql, qr, qi, qf, qs, qd, qd1, qd2, qd3, qd4, qo, qoa, qe, qh].Nodup) (hbm : base ≤ m) (hm : rfM M0 x qt qta qx qxa qp qpa ql qr qi qf qs qd qd1 qd2 qd3 qd4 qo qoa qe qh m = none) (hwl : ws.length = 138) (hwf : moFresh base (rfM M0 x qt qta qx qxa qp qpa ql qr qi qf qs qd qd1 qd2 qd3 qd4 qo qoa qe qh) m [] ws) (hbo : base ≤ o) (ho : pm_up (pm_ups (rfM M0 x qt qta qx qxa qp qpa ql qr qi qf qs qd qd1 qd2 qd3 qd4 qo qoa qe qh) (moCells moTab ws)) m (.inr (12, moL (moFs moF0 moTab ws))) o = none) : picI base sa b L xs (IVn sa) x m o 512 (pm_up (pm_up (pm_ups (rfM M0 x qt qta qx qxa qp qpa ql qr qi qf qs qd qd1 qd2 qd3 qd4 qo qoa qe qh) (moCells moTab ws)) m (.inr (12, moL (moFs moF0 moTab ws)))) o (.inl (.long, 1, .inr (.inl fun _ => 0)))) kc ks := by
  have hall : ∀ a ∈ [x, qt, qta, qx, qxa, qp, qpa, ql, qr, qi, qf, qs, qd, qd1, qd2, qd3, qd4, qo, qoa, qe, qh], base ≤ a ∧ M0 a = none := fun a ha => by
    rcases List.mem_cons.mp ha with rfl | ha
    · exact ⟨hbx, hx⟩
    · exact hq a ha
  have hx0 : x = stq [x, qt, qta, qx, qxa, qp, qpa, ql, qr, qi, qf, qs, qd, qd1, qd2, qd3, qd4, qo, qoa, qe, qh] 0 := rfl
  rw [rf_pic hnd] at hm hwf ho ⊢
  generalize hLs : [x, qt, qta, qx, qxa, qp, qpa, ql, qr, qi, qf, qs, qd, qd1, qd2, qd3, qd4, qo, qoa, qe, qh] = Ls at hm hwf ho hall hnd hx0 ⊢
  have hlen : Ls.length = 21 := by rw [← hLs]; rfl
  clear hLs hq hx hbx
  obtain ⟨hQ, e2⟩ := moM_init hbm hwl hwf
  rw [e2] at ho ⊢
  have hD1 : moD (cM M0 (stS Ls)) m (moQs ws) := ⟨hm, fun k hk => by
    have har : moAr.length = 138 := by rw [← moTab_ar, List.length_map]; rfl
    have hi : moAr.idxOf k < ws.length := by rw [hwl, ← har]; exact List.idxOf_lt_length_of_mem hk
    have : moQs ws k ∈ ws := by
      unfold moQs
      rw [List.getD_eq_getElem?_getD, List.getElem?_eq_getElem hi]
      exact List.getElem_mem _
    exact (hwf.1 _ this).2.1⟩
  have hA : aptC M0 base m (moQs ws) (stS Ls) := fun a ha => by
    obtain ⟨i, hi, ea⟩ := st_ex hlen ha
    have h160 : ((stS Ls).K a).1 < 160 := by
      rw [ea, stK_q hlen hnd hi]
      exact (by decide : ∀ i, i < 21 → (stX i).1 < 160) i hi
    obtain ⟨a1, a2⟩ := hall a (by rw [ea]; exact st_mem hlen hi)
    exact ⟨a1, a2, h160, fun e => cM_some (R := M0) ha h160 (by rw [e]; exact hD1.1), fun k hk e => cM_some (R := M0) ha h160 (by rw [← e]; exact hD1.2 k hk)⟩
  have hD : moD M0 m (moQs ws) := (pic_D' hA hD1).1
  rw [← pic_cm hQ hA] at ho ⊢
  have c0 : ((stS Ls).K o).1 = 0 := Classical.byContradiction fun c => cM_some c (hA o c).2.2.1 ho
  rw [cM_r c0] at ho
  have n1 : o ≠ m := fun e => by rw [e, moM_m] at ho; cases ho
  have n2 : ∀ k ∈ moAr, moQs ws k ≠ o := fun k hk e => by rw [← e, moM_q hQ hk] at ho; cases ho
  rw [moM_o n1 n2] at ho
  have ne : ∀ a, M0 a ≠ none → a ≠ o := fun a h e => h (by rw [e]; exact ho)
  have hT : ∀ k, k < kTx.length → sa k ∉ Ls := fun k hk h => by
    obtain ⟨v, h', z, f, b1, -⟩ := hC.1 k hk
    rw [(hall _ h).2] at b1
    cases b1
  have up : ∀ a, a ≠ o → pm_up M0 o (.inl (.long, 1, .inr (.inl fun _ => 0))) a = M0 a := fun a h => pm_up_ne _ _ h
  refine ⟨pm_up M0 o (.inl (.long, 1, .inr (.inl fun _ => 0))), moQs ws, stS Ls, moS0, pic_u hQ c0 n1 n2, ⟨hQ, ⟨?_, fun k hk => ?_⟩, fun a ha => ?_, ⟨fun k hk => ?_, ?_, ?_⟩, ?_, hbo, _, pm_up_self _ _ _⟩, ?_⟩
  · rw [up m n1.symm]; exact hD.1
  · rw [up _ (n2 k hk)]; exact hD.2 k hk
  · obtain ⟨a1, a2, a3⟩ := hA a ha
    exact ⟨a1, by rw [up a (fun e => by rw [e] at ha; exact ha c0)]; exact a2, a3⟩
  · obtain ⟨v, h', z, f, b1, b2, b3⟩ := hC.1 k hk
    refine ⟨v, h', z, f, ?_, ?_, b3⟩
    · rw [up _ (ne _ (by rw [b1]; simp))]; exact b1
    · rw [up _ (ne _ (by rw [b2]; simp))]; exact b2
  · rw [up _ (ne _ (by rw [hC.2.1]; simp))]; exact hC.2.1
  · rw [up _ (ne _ (by rw [hC.2.2]; simp))]; exact hC.2.2
  · rw [up _ (ne _ (by rw [hb]; simp))]; exact hb
  · rw [hx0]
    exact st_iv hlen hnd hT hkc hks
end Lw
