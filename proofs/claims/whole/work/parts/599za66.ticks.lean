/-! Ticks: both sides. -/
section F1
variable {G H : Nat → Nat → Nat} {sa : Nat → Nat} {x : Nat} {s : cS} {t : moS} {v : Int32}
theorem mv_1 (hM : MV t) (hv : rng v 0 20000) : MV (moSS t 1 v) := by
  have m : mfr [1] t (moSS t 1 v) := mfr.ss (by decide)
  exact hM.fr m rfl ⟨hM.1.1.fr m rfl, by rw [moSS_s]; exact hv, hM.1.2.2⟩
theorem rr_1 (h : RR G H sa x s t) (hM : MV t) : RR G H sa x (cSI s 225 x v) (moSS t 1 v) := by
  have m : mfr [1] t (moSS t 1 v) := mfr.ss (by decide)
  obtain ⟨⟨a, b, c', e, g, i, j⟩, htx⟩ := h.q
  have hT := a.2.1
  have hx := a.1
  have f : fr [30] [] [] s (cSI s 225 x v) := fr.si (by rw [hx]; decide)
  have hg : RGl G H sa x (cSI s 225 x v) := a.v rfl rfl f rfl rfl rfl
  have ht := hg.2.2.1
  have oI : ∀ g, g ≠ 225 → (cSI s 225 x v).I g x = s.I g x := fun g hg => by rw [cSI_g hg]
  have ec : cR (moSS t 1 v) = cR t := rfl
  refine RQ.r ⟨hg, b.fr m rfl, ⟨?_, ?_, ?_, ?_, ?_⟩, fun k hk => (e k hk).fr hT hx f ht m rfl rfl rfl rfl, fun k hk => (g k hk).fr hT hx f ht m rfl rfl rfl rfl, fun r hr => ?_, j.fr hT hx f m ⟨oI 233 (by decide), oI 235 (by decide)⟩ rfl rfl rfl rfl⟩ (htx.fr hT hx f m rfl rfl rfl)
  · rw [oI _ (by decide)]; exact c'.1
  · rw [cSI_s, moSS_s]
  · rw [oI _ (by decide)]; exact c'.2.2.1
  · rw [oI _ (by decide)]; exact c'.2.2.2.1
  · rw [oI _ (by decide)]; exact c'.2.2.2.2
  · obtain ⟨i1, i2, i3, i4, i5, i6, i7⟩ := i r hr
    have hv := hM.r (show r < cR t from hr)
    exact ⟨i1.fr hT hx f ht m rfl rfl rfl rfl, i2.fr hT i1.1.1 f (cSI_g (by decide)) m rfl rfl rfl rfl, i3.fr hT i1.1.1 f m rfl rfl rfl rfl, i4.fr hT i1.1.1 f m rfl rfl rfl, i5.fr hT i1.1.1 f m rfl rfl rfl, i6.fr hT i1.1.1 ⟨hv.2.2.2.2.2.2.1.1.n.2.2, hv.2.2.2.2.2.2.2.1.1.n.2.2⟩ f m rfl rfl rfl, fun p hp => (i7 p hp).fr hT i1.1.1 (hv.i hp).2.2.2.2.2.2.2.2.2.2.1.n.2.2 f m rfl rfl rfl rfl⟩
end F1
abbrev Wts : List Nat := 1 :: (Wbd ++ Wtu)
/-- what m ticks send on a link, with the requests that fly -/
def SQn (m : Nat) (t t' : moS) : Prop := ∀ j, j < 10 → ∃ d, t'.I 23 j = t.I 23 j + nI d ∧ d + 5310 * rqN t' ≤ 5310 * rqN t + 53100 * m
section Tc
variable {G H : Nat → Nat → Nat} {sa : Nat → Nat} {x kc ks n : Nat} {s s1 : cS} {t t1 t' : moS} {E : List (Int32 × Int64)} {Os : Nat → List Pf} {Q : Int32 → cS → Nat → Nat → Prop}
theorem SQn.tr {a b : Nat} {u : moS} (h : SQn a t u) (g : SQn b u t') : SQn (a + b) t t' := fun j hj => by
  obtain ⟨d, e1, h1⟩ := h j hj
  obtain ⟨d', e2, h2⟩ := g j hj
  exact ⟨d + d', by rw [e2, e1, Int32.add_assoc, nI_add], by omega⟩
theorem rq_m {W : List Nat} (m : mfr W t t') (d : dj [123, 124, 138] W) : rqN t' = rqN t := by
  have e : cF t' = cF t := by unfold cF; rw [m.S 123 (d.n 123)]
  unfold rqN
  rw [e]
  exact rqC_le fun i _ => by unfold pl; rw [m.I 138 (d.n 138), m.I 124 (d.n 124)]
/-- nothing new is made, no pointer is another: what may still be made stays -/
theorem rc_same {W : List Nat} (hK : s1.K = s.K) (hP : s1.P = s.P) (m : mfr W t t1) (d : dj [17, 37, 70, 123] W) (d2 : dj [37, 70] W) : RcC s1 G H t1 = RcC s G H t ∧ RcS s1 G H x t1 = RcS s G H x t := by
  have z1 := pot_kp (G := G) (H := H) (t := t1) hK hP
  have z2 := pot_t (G := G) (H := H) (s := s) m d
  have z5 : tdS s1 G H x = tdS s G H x := td_kp hK hP
  unfold RcC RcS
  rw [z1.1, z2.1, z1.2, z2.2, z5]
  exact ⟨rfl, rfl⟩
theorem BdK.toTu {Q : cS → Nat → Nat → Prop} {W : List Nat} (k : BdK sa x G H s t kc ks t' Q) (hR : RR G H sa x s t) (m : mfr W t t') (d : dj [37, 70] W) : TuK sa x G H s t kc ks t' Q := fun G' H' s' kc' ks' R g h f o c1 c2 => by
  refine k G' H' s' kc' ks' R g h f.wk ?_ ?_
  · exact c1
  · exact c2
theorem tk_loop (hO : ∀ r, (Os r).length ≤ 760) (hE6 : E.length ≤ 600) (hn : n ≤ 2000) : ∀ (m i : Nat) (G H : Nat → Nat → Nat) (s : cS) (t : moS) (kc ks : Nat), i + m = n → RR G H sa x s t → MV t → AGs t → EX Os t → SRC E t → (∃ T, t.S 1 = nI T ∧ T + m ≤ 20000) → (∀ j, j < 10 → ∃ d, t.I 23 j = nI d ∧ d + 5310 * rqN t + 53100 * m + 5310 < 2 ^ 31) → RcC s G H t + 5 ≤ kc → RcS s G H x t + 622 ≤ ks → (∀ t', M_ticks_b32 t (nI n) (nI i) = some (t'.S 1, t') → MV t' → AGs t' → EX Os t' → SRC E t' → mfr Wts t t' → SQn m t t' → (∀ T, t.S 1 = nI T → t'.S 1 = nI (T + m)) → BdK sa x G H s t kc ks t' (fun s' kc' ks' => Q (t'.S 1) s' kc' ks')) → C_Rf_ticks_b27 sa x (nI n) (nI i) s kc ks Q
  | 0, i, G, H, s, t, kc, ks, hi, hR, hM, hAg, hE, hS, hT, hs, hkc, hks, k => by
    intro P27 hc
    refine hc _ _ _ _ ?_
    have hq := hR.q.1
    have i225 : s.I 225 x = t.S 1 := hq.2.2.1.2.1
    have em : M_ticks_b32 t (nI n) (nI i) = some (t.S 1, t) := by
      unfold M_ticks_b32
      refine lp_x ?_
      show M_ticks_s32 t (nI n) (nI i) = _
      unfold M_ticks_s32
      rw [if_neg (nI_nlt (by omega) (by omega))]
    unfold C_Rf_ticks_s27
    refine ifF (nI_nlt (by omega) (by omega)) ⟨_, gd_to hq.ox, ?_⟩
    rw [show s.I (20 * 11 + 5) x = t.S 1 from i225]
    exact k t em hM hAg hE hS mfr.rf (fun j _ => ⟨0, by rw [show nI 0 = 0 from rfl, Int32.add_zero], by omega⟩) (fun T z => z) G H s kc ks hR ⟨rfl, rfl, rfl⟩ hA.rf fr.rf (Nat.le_refl _) (Nat.le_refl _)
  | m + 1, i, G, H, s, t, kc, ks, hi, hR, hM, hAg, hE, hS, hT, hs, hkc, hks, k => by
    intro P27 hc
    refine hc _ _ _ _ ?_
    have hq := hR.q.1
    have hx := hq.1.1
    obtain ⟨T, eT, hT2⟩ := hT
    have i225 : s.I 225 x = t.S 1 := hq.2.2.1.2.1
    unfold C_Rf_ticks_s27
    refine ifT (nI_lt (by omega) (by omega)) ⟨_, gd_to hq.ox, _, gd_to hq.ox, ?_⟩
    rw [show s.I (20 * 11 + 5) x = t.S 1 from i225, eT, nI_1]
    show okO (cSI s 225 x (nI (T + 1))) 11 x ∧ _
    have m1 : mfr [1] t (moSS t 1 (nI (T + 1))) := mfr.ss (by decide)
    have R1 := rr_1 (v := nI (T + 1)) hR hM
    have M1 : MV (moSS t 1 (nI (T + 1))) := mv_1 hM ⟨T + 1, rfl, Nat.zero_le _, by omega⟩
    have A1 : AGs (moSS t 1 (nI (T + 1))) := hAg.m m1 ⟨by decide, by decide⟩
    have E1 : EX Os (moSS t 1 (nI (T + 1))) := hE.of hM M1 rfl (fun _ _ => sEq.m m1 rfl) (fun _ _ z => z)
    have S1 : SRC E (moSS t 1 (nI (T + 1))) := hS.fr m1 rfl
    obtain ⟨pz1, pz2⟩ := rc_same (G := G) (H := H) (x := x) (s := s) (s1 := cSI s 225 x (nI (T + 1))) rfl rfl m1 rfl rfl
    have f1 : fr [30] [] [] s (cSI s 225 x (nI (T + 1))) := fr.si (by rw [hx]; decide)
    have eR1 : rqN (moSS t 1 (nI (T + 1))) = rqN t := rq_m m1 rfl
    have e23 : (moSS t 1 (nI (T + 1))).I 23 = t.I 23 := rfl
    have eS1 : (moSS t 1 (nI (T + 1))).S 1 = nI (T + 1) := moSS_s
    have eM1 : M_ticks_s32 t (nI n) (nI i) = Option.bind (M_tick_b12 (moSS t 1 (nI (T + 1))) 0) (fun s1 => some (.inl (nI i + 1, s1))) := by
      unfold M_ticks_s32 M_tick letS
      rw [if_pos (nI_lt (by omega) (by omega)), eT, nI_1]
    generalize moSS t 1 (nI (T + 1)) = t1 at *
    generalize cSI s 225 x (nI (T + 1)) = s1 at *
    have hq1 := R1.q.1
    refine ⟨hq1.ox, ?_⟩
    unfold C_Rf_bringDue
    have mf1 := M1.2.2.2.2.1.1
    have hF : cF t1 ≤ 256 := mf1.n.2.2
    have e123 : t1.S 123 = nI (cF t1) := mf1.n.1
    have i233 : s1.I 233 x = t1.S 123 := hq1.2.2.2.2.2.2.1.1
    refine ⟨_, gd_to hq1.ox, ?_⟩
    rw [show s1.I (20 * 11 + 13) x = nI (cF t1) from i233.trans e123]
    refine br_loop hO hE6 hF (cF t1) 0 0 G H s1 t1 kc ks (by omega) (by omega) (fun i h1 h2 => absurd h2 (by omega)) R1 M1 A1 E1 S1 (fun j hj => ?_) (by rw [pz1]; exact hkc) (by rw [pz2]; exact hks) fun t2 y1 M2 A2 E2 S2 m2 q2 => ?_
    · obtain ⟨d, e, hd⟩ := hs j hj
      exact ⟨d, by rw [e23]; exact e, by rw [eR1]; omega⟩
    intro G2 H2 s2 kc2 ks2 R2 g2 h2 f2 c1 c2
    rw [pz1] at c1
    rw [pz2] at c2
    have k1' : RcC s2 G2 H2 t2 + 5 ≤ kc2 := ar_b5 c1 hkc
    have k2' : RcS s2 G2 H2 x t2 + 622 ≤ ks2 := ar_b5 c2 hks
    have h6 := M2.nR
    refine tk_rts (cR t2) 0 G2 H2 s2 t2 kc2 ks2 (by omega) R2 M2 A2 E2 (fun j hj => ?_) (by unfold RcC at k1'; omega) (by unfold RcS at k2'; omega) fun t3 z1 M3 A3 E3 m3 q3 d3 => ?_
    · obtain ⟨d, e, hd⟩ := hs j hj
      obtain ⟨d', e', hd'⟩ := q2 j hj
      refine ⟨d + d', by rw [e', e23, e, nI_add], ?_⟩
      have : cR t2 * 8850 ≤ 6 * 8850 := Nat.mul_le_mul_right 8850 h6
      rw [eR1] at hd'
      omega
    have S3 : SRC E t3 := sM_tick_b54 S2 t3 z1
    have q13 : SQn 1 t t3 := fun j hj => by
      obtain ⟨d, e, hd⟩ := q2 j hj
      obtain ⟨d', hd', e'⟩ := q3 j hj
      refine ⟨d + d', by rw [e', e, e23, Int32.add_assoc, nI_add], ?_⟩
      have : cR t2 * 8850 ≤ 6 * 8850 := Nat.mul_le_mul_right 8850 h6
      have := d3.rq
      rw [eR1] at hd
      omega
    have m13 : mfr Wts t t3 := ((m1.wk (by decide)).tr (m2.wk (by decide))).tr (m3.wk (by decide))
    have eS3 : t3.S 1 = nI (T + 1) := by rw [d3.1, m2.S 1 (by decide), eS1]
    refine BdK.toTu ?_ R2 m3 rfl
    intro G3 H3 s3 kc3 ks3 R3 g3 h3 f3 c3 c4
    have x1 : kc + RcC s3 G3 H3 t3 ≤ kc3 + RcC s G H t := ar_6 c1 c3
    have x2 : ks + RcS s3 G3 H3 x t3 ≤ ks3 + RcS s G H x t := ar_6 c2 c4
    have st : M_ticks_s32 t (nI n) (nI i) = some (.inl (nI (i + 1), t3)) := by
      rw [eM1, show M_tick_b12 t1 0 = M_tick_b54 t2 0 from y1, show M_tick_b54 t2 0 = some t3 from z1, nI_1]
      rfl
    rw [nI_1]
    refine tk_loop hO hE6 hn m (i + 1) G3 H3 s3 t3 kc3 ks3 (by omega) R3 M3 A3 E3 S3 ⟨T + 1, eS3, by omega⟩ (fun j hj => ?_) (ar_b5 x1 hkc) (ar_b5 x2 hks) (fun t' w1 w2 w3 w4 w5 w6 w7 w8 => (k t' (Eq.trans ?_ w1) w2 w3 w4 w5 (m13.tr w6) ?_ ?_).tr ⟨g3.1.trans g2.1, g3.2.1.trans g2.2.1, g3.2.2.trans g2.2.2⟩ ?_ (f1.wk.tr (f2.tr f3)) x1 x2) P27 hc
    · obtain ⟨d, e, hd⟩ := hs j hj
      obtain ⟨d', e', hd'⟩ := q13 j hj
      exact ⟨d + d', by rw [e', e, nI_add], by omega⟩
    · unfold M_ticks_b32
      exact lp_l (f := fun x : Int32 × moS => M_ticks_s32 x.2 (nI n) x.1) st
    · have := q13.tr w7
      rw [show m + 1 = 1 + m by omega]
      exact this
    · intro T' e'
      have := w8 (T' + 1) (by rw [eS3, ← nI_1, ← nI_1, ← e', ← eT])
      rw [this]
      congr 1
      omega
    · intro g a ha
      have ha1 : (s1.K a).1 ≠ 0 := by rw [(f1 a ha).1]; exact ha
      have ha2 : (s2.K a).1 ≠ 0 := by rw [(f2 a ha1).1]; exact ha1
      exact (h3 g a ha2).trans (h2 g a ha1)
theorem P_ticks (hR : RR G H sa x s t) (hM : MV t) (hAg : AGs t) (hE : EX Os t) (hS : SRC E t) (hO : ∀ r, (Os r).length ≤ 760) (hE6 : E.length ≤ 600) {T : Nat} (eT : t.S 1 = nI T) (hT2 : T ≤ 20000) (hs : ∀ j, j < 10 → ∃ d, t.I 23 j = nI d ∧ d + 5310 * rqN t + 53100 * (20000 - T) + 5310 < 2 ^ 31) (hkc : RcC s G H t + 5 ≤ kc) (hks : RcS s G H x t + 622 ≤ ks) {y : Int32} (Q : Int32 → cS → Nat → Nat → Prop) (k : ∀ r t', M_ticks t y = some (r, t') → MV t' → AGs t' → EX Os t' → SRC E t' → mfr (0 :: Wts) t t' → (∃ m, t'.S 1 = nI (T + m) ∧ T + m ≤ 20000 ∧ SQn m t t') → ∀ G' H' s' kc' ks', RR G' H' sa x s' t' → kp0 x s s' → kc + RcC s' G' H' t' ≤ kc' + RcC s G H t → ks + RcS s' G' H' x t' ≤ ks' + RcS s G H x t → Q r s' kc' ks') : C_Rf_ticks sa x y s kc ks Q := by
  have hq := hR.q.1
  have m0 : mfr [0] t (moSS t 0 0) := mfr.ss (by decide)
  have hM0 : MV (moSS t 0 0) := hM.fr m0 rfl (hM.1.fr m0 rfl)
  have hR0 : RR G H sa x s (moSS t 0 0) := rr_fr hR hM hR.q.1.1 (fr.rf (Rv := []) (Gp := []) (Rq := [])) m0 rfl rfl rfl rfl rfl rfl rfl
  have hE0 : EX Os (moSS t 0 0) := hE.of hM hM0 rfl (fun _ _ => sEq.m m0 rfl) (fun _ _ z => z)
  have hA0 : AGs (moSS t 0 0) := hAg.m m0 ⟨by decide, by decide⟩
  have hS0 : SRC E (moSS t 0 0) := hS.fr m0 rfl
  obtain ⟨pz1, pz2⟩ := rc_same (G := G) (H := H) (x := x) (s := s) (s1 := s) rfl rfl m0 rfl rfl
  have sq0 : SQn 0 t (moSS t 0 0) := fun j _ => ⟨0, by rw [show nI 0 = 0 from rfl, Int32.add_zero, m0.I 23 (by decide)], by rw [rq_m m0 rfl]; omega⟩
  have no : M_ticks t y = some (-1, moSS t 0 0) → Q (-1) s kc ks := fun e => k (-1) _ e hM0 hA0 hE0 hS0 (m0.wk (by decide)) ⟨0, eT, hT2, sq0⟩ G H s kc ks hR0 kp0.rf (by rw [pz1]; exact Nat.le_refl _) (by rw [pz2]; exact Nat.le_refl _)
  have e0 : M_ticks t y = if y < 0 then some (-1, moSS t 0 0) else if 2000 < y then some (-1, moSS t 0 0) else if 20000 < t.S 1 + y then some (-1, moSS t 0 0) else M_ticks_b32 (moSS t 0 0) y 0 := rfl
  have i225 : s.I 225 x = t.S 1 := hq.2.2.1.2.1
  unfold C_Rf_ticks
  by_cases c0 : y < 0
  · exact ifT c0 (no (by rw [e0, if_pos c0]))
  refine ifF c0 ?_
  rw [if_neg c0] at e0
  by_cases c1 : (2000 : Int32) < y
  · exact ifT c1 (no (by rw [e0, if_pos c1]))
  refine ifF c1 ⟨_, gd_to hq.ox, ?_⟩
  rw [if_neg c1] at e0
  rw [show s.I (20 * 11 + 5) x = t.S 1 from i225]
  by_cases c2 : (20000 : Int32) < t.S 1 + y
  · exact ifT c2 (no (by rw [e0, if_pos c2]))
  refine ifF c2 ?_
  rw [if_neg c2] at e0
  obtain ⟨n, hn, rfl⟩ := nI_of c0
  have hn2 : n ≤ 2000 := Nat.le_of_not_lt fun h => c1 (nI_lt h hn)
  have hTn : T + n ≤ 20000 := Nat.le_of_not_lt fun h => c2 (by rw [eT, nI_add]; exact nI_lt h (by omega))
  refine tk_loop hO hE6 hn2 n 0 G H s (moSS t 0 0) kc ks (by omega) hR0 hM0 hA0 hE0 hS0 ⟨T, eT, hTn⟩ (fun j hj => ?_) (by rw [pz1]; exact hkc) (by rw [pz2]; exact hks) fun t' w1 w2 w3 w4 w5 w6 w7 w8 => ?_
  · obtain ⟨d, e, hd⟩ := hs j hj
    refine ⟨d, e, ?_⟩
    have : 53100 * n ≤ 53100 * (20000 - T) := Nat.mul_le_mul_left _ (by omega)
    rw [rq_m m0 rfl]
    omega
  intro G' H' s' kc' ks' R g h f c1 c2
  rw [pz1] at c1
  rw [pz2] at c2
  refine k _ t' (e0.trans w1) w2 w3 w4 w5 ((m0.wk (by decide)).tr (w6.wk (by decide +kernel))) ⟨n, w8 T eT, hTn, ?_⟩ G' H' s' kc' ks' R (f.kp0 hq.1.1 rfl) c1 c2
  have := sq0.tr w7
  rw [Nat.zero_add] at this
  exact this
end Tc
