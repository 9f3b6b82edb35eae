/-! put, link, run, ticks, read keep the invariant. -/
section Ip
variable {G H G' H' : Nat → Nat → Nat} {sa : Nat → Nat} {x n kc ks kc' ks' : Nat} {s s' : cS} {t t' : moS} {Os Os' : Nat → List Pf} {E E' : List (Int32 × Int64)}
theorem rqC_n : ∀ k, rqC t k ≤ k
  | 0 => Nat.le_refl _
  | k + 1 => by
    have h := rqC_n k
    rw [rqC_sm] at h ⊢
    show sm _ k + (if _ then 1 else 0) ≤ k + 1
    split <;> omega
theorem rq_256 (hM : MV t) : rqN t ≤ 256 := Nat.le_trans (rqC_n (cF t)) hM.2.2.2.2.1.1.n.2.2
theorem vN.st (h : vN (n + 1) t Os E) (hO : ∀ r, 14 * (Os' r).length + btL t' ≤ 14 * (Os r).length + btL t + 20) (hE : E'.length ≤ E.length + 1) (eT : tmN t' = tmN t) (h23 : ∀ j, j < 10 → ∃ d, d ≤ 8850 ∧ t'.I 23 j = t.I 23 j + nI d) (hq : rqN t' ≤ 256) : vN n t' Os' E' := by
  obtain ⟨h1, h2, h3⟩ := h
  refine ⟨fun r => by have := h1 r; have := hO r; omega, by omega, fun j hj => ?_⟩
  obtain ⟨v, e, hv⟩ := h3 j hj
  obtain ⟨d, hd, e'⟩ := h23 j hj
  refine ⟨v + d, by rw [e', e, nI_add], ?_⟩
  rw [eT]
  omega
/-- what was told, and its row -/
theorem tdk_e (hR : RR G H sa x s t) (hR' : RR G' H' sa x s' t') (e : tdk x s s') : tdC G' = tdC G ∧ tdS s' G' H' x = tdS s G H x := by
  obtain ⟨e15, eH⟩ := tdk_c hR hR' e
  have hq := hR.q.1.1
  obtain ⟨k, a1, a2, a3, w, cap, b1, b2, -⟩ := hq.2.2.2.2.1
  refine ⟨by unfold tdC; rw [e15], ?_⟩
  unfold tdS cpD
  rw [eH, e15, (e.2.1 _ (hR.q.1.ty.p hq.1 237 29).2).2, b1]
  show 24 * _ + (_ - 2 * (s'.K w).2) = 24 * _ + (_ - 2 * (s.K w).2)
  rw [e.2.2.2.2.2.2 w (by rw [b2]; exact (by decide : (144 : Nat) ≠ 0))]
theorem kp0.i (h : kp0 x s s') (hk : ∀ rd, s.P 223 x = some rd → (s.K rd).1 = 22) (hi : rdI' x s) : rdI' x s' := fun rd e => by
  rw [h.1] at e
  rw [(h.2.1 rd (hk rd e)).2]
  exact hi rd e
theorem pot_pu {W : List Nat} (hR : RR G H sa x s t) (hM : MV t) (m : mfr W t t') (dm : dj [17, 37, 70] W) (g1 : ∀ b, b ≠ 11 → b ≠ 12 → G' b = G b) (hh : hA H H' s) (f : fr Rpu Pgo Qfl s s') (k1 : kc + plT s' G H (cL t) + 5 * dN G' t' ≤ kc' + plT s G H (cL t) + 5 * dN G t) (k2 : ks + 2 * plT s' G H (cL t) + 622 * dN G' t' ≤ ks' + 2 * plT s G H (cL t) + 622 * dN G t) : kc + RcC s' G' H' t' ≤ kc' + RcC s G H t ∧ ks + RcS s' G' H' x t' ≤ ks' + RcS s G H x t := by
  have hq := hR.q.1
  have hT := hq.ty
  have h10 := hM.nL
  have eR : cR t' = cR t := by unfold cR; rw [m.S 37 (dm.n 37)]
  have eL : cL t' = cL t := by unfold cL; rw [m.S 17 (dm.n 17)]
  have eI : ∀ r, cI t' r = cI t r := fun r => by unfold cI; rw [m.I 70 (dm.n 70)]
  have e0 : G' 0 = G 0 := g1 0 (by decide) (by decide)
  have e1 : G' 1 = G 1 := g1 1 (by decide) (by decide)
  have e2 : G' 2 = G 2 := g1 2 (by decide) (by decide)
  have e13 : G' 13 = G 13 := g1 13 (by decide) (by decide)
  have e14 : G' 14 = G 14 := g1 14 (by decide) (by decide)
  have k26 : ∀ r', r' < cR t → (s.K (G 1 r')).1 = 26 := fun r' hr' => (hq.rt hr').1.1
  have ep : ∀ i, i < cL t → plC s' G' H' i = plC s' G H i := fun i hi => by
    have k7 := (hq.2.2.2.1 i hi).1.1
    unfold plC
    rw [e0, hh 67 _ (by rw [k7]; decide)]
  have eB : ∀ r', r' < cR t → pB s' G' H' r' = pB s G H r' := fun r' hr' => by
    obtain ⟨-, ⟨z1, z2, z3⟩, ⟨w, z4, z5⟩, w', z6, z7⟩ := rt_two hR hr'
    have k187 := (hT.p (k26 r' hr') 187 28).2
    have k186 := (hT.p (k26 r' hr') 186 27).2
    unfold pB potS cpO cpT
    rw [e1, e13, e14, hh 187 (G 1 r') (by rw [k26 r' hr']; decide), hh 186 (G 1 r') (by rw [k26 r' hr']; decide), f.p k187 (by decide), f.p k186 (by decide), z4, z6]
    show _ + (_ - 2 * (s'.K w).2) + (_ + (_ - 2 * (s'.K w').2)) = _ + (_ - 2 * (s.K w).2) + (_ + (_ - 2 * (s.K w').2))
    rw [(f w z5).1, (f w' z7).1]
  have a1 : sm (fA G' t') 6 = sm (fA G t) 6 := sm_e fun i _ => by
    unfold fA pA potC
    rw [eR, e13, e14]
  have a2 : sm (fB s' G' H' t') 6 = sm (fB s G H t) 6 := sm_e fun i _ => by
    unfold fB
    rw [eR]
    split
    · rename_i hi
      rw [eB i hi]
    · rfl
  have a3 : sm (fL s' G' H' t') 10 = plT s' G H (cL t) + (10 - cL t) * 1200 := by
    have : sm (fL s' G' H' t') 10 = sm (fun l => if l < cL t then plC s' G H l else 1200) 10 := sm_e fun i _ => by
      unfold fL
      rw [eL]
      split
      · rename_i hi
        exact ep i hi
      · rfl
    rw [this]
    exact sm_sp h10
  have a3' : sm (fL s G H t) 10 = plT s G H (cL t) + (10 - cL t) * 1200 := sm_sp h10
  have a4 : sm (fW s' G' H' t') 24 = sm (fW s G H t) 24 := sm_e fun i _ => by
    unfold fW
    rw [eR, eI]
    split
    · rename_i hi
      have k8 := (hq.po hi.1 hi.2).1.1
      rw [show 4 * (i / 4) + i % 4 = i by omega] at k8
      have k4 := (hT.p k8 86 4).2
      rw [e2, hh 86 _ (by rw [k8]; decide)]
      unfold wkC
      rw [f.p k4 (by decide)]
    · rfl
  obtain ⟨a5, a6⟩ := so_le (t := t) (t' := t') (G := G) (G' := G') (s := s) (s' := s') (by rw [eR]; exact Nat.le_refl _) (fun r _ => by rw [eI]; exact Nat.le_refl _) (fun r p hr hp => by
    rw [e2]
    exact cpZ_fr hq.1 f (hq.po hr hp).1.1 (by decide))
  obtain ⟨y1, y2⟩ := td_same (G' := G') (H' := H') hq.1 (g1 15 (by decide) (by decide)) hh f (f.p (hT.p hq.1.1 237 29).2 (by decide))
  unfold RcC RcS PoC PoS
  rw [a1, a2, a3, a3', a4, y1, y2]
  generalize sm (fA G t) 6 = v1
  generalize sm (fB s G H t) 6 = v2
  generalize plT s' G H (cL t) = v3 at k1 k2 ⊢
  generalize plT s G H (cL t) = v4 at k1 k2 ⊢
  generalize (10 - cL t) * 1200 = v5
  generalize dN G' t' = v6 at k1 k2 ⊢
  generalize dN G t = v7 at k1 k2 ⊢
  generalize sm (fW s G H t) 24 = v8
  generalize sm (fS s' G' t') 24 = v9 at a5 ⊢
  generalize sm (fS s G t) 24 = va at a5 ⊢
  generalize sm (fT s' G' t') 24 = vb at a6 ⊢
  generalize sm (fT s G t) 24 = vc at a6 ⊢
  generalize tdC G = vd
  generalize tdS s G H x = ve
  omega
theorem pot_pp (hM : MV t) : plT s G H (cL t) + 5 * dN G t ≤ RcC s G H t ∧ 2 * plT s G H (cL t) + 622 * dN G t ≤ RcS s G H x t := by
  have a3' : sm (fL s G H t) 10 = plT s G H (cL t) + (10 - cL t) * 1200 := sm_sp hM.nL
  unfold RcC RcS PoC PoS
  rw [a3']
  generalize sm (fA G t) 6 = v1
  generalize sm (fB s G H t) 6 = v2
  generalize plT s G H (cL t) = v4
  generalize (10 - cL t) * 1200 = v5
  generalize dN G t = v7
  generalize sm (fW s G H t) 24 = v8
  generalize sm (fS s G t) 24 = va
  generalize sm (fT s G t) 24 = vc
  generalize tdC G = vd
  generalize tdS s G H x = ve
  omega
theorem put_0 {y1 y2 y3 y4 : Int32} : aw (M_put t y1 y2 y3 y4) (fun z => z.2.S 3 = 0) := by
  unfold M_put
  refine aw_let (P := fun _ => True) trivial fun u _ => aw_let (P := fun u => u.S 3 = 0) moSS_s fun v hv => aw_if (fun z e => ?_) (aw_if (fun z e => ?_) (aw_some hv))
  · show z.2.S 3 = 0
    rw [(fM_put_b27 (W := wM_put_b27) rfl mfr.rf z e).S 3 (by decide)]
    exact hv
  · show z.2.S 3 = 0
    rw [(fM_put_b27 (W := wM_put_b27) rfl mfr.rf z e).S 3 (by decide)]
    exact hv
theorem ar_p1 {kc kc' R R' d d' c c' b b' : Nat} (hk : kc + R' ≤ kc' + R) (hd : d' = d) (hb : b' ≤ b) (hc : c' = c) : 16 * (kc + R' + d') + c + 256 * b' ≤ 16 * (kc' + R + d) + c' + 256 * b + 5120 := by omega
theorem ar_p2 {kc kc' R R' d d' c c' b b' : Nat} (hk : kc + R' ≤ kc' + R) (hd : d' = d) (hb : b' ≤ b) (hc : c' = c) : kc + R' + d' + 2 * c + 300 * b' ≤ kc' + R + d + 2 * c' + 300 * b + 6000 := by omega
theorem ar_p3 {z R d m k : Nat} (h : R + d + m ≤ k) (hz : z ≤ R) : z ≤ k := by omega
theorem bt_z (e : t'.S 3 = 0) : btL t' = 0 := by
  unfold btL
  rw [e]
  rfl
theorem vN.ps (h : vN (n + 1) t Os E) (hM : MV t) : ∀ l, l < cL t → ¬ t.I 23 l + 1 < 0 := fun l hl => by
  obtain ⟨d, e, hd⟩ := h.2.2 l (Nat.lt_of_lt_of_le hl hM.nL)
  rw [e, nI_1]
  exact nI_pos (by omega)
theorem vN.d {k : Nat} (h : vN (n + 1) t Os E) (hk : k ≤ 1372000) : ∀ l, l < 10 → ∃ d, t.I 23 l = nI d ∧ d + k < 2 ^ 31 := fun l hl => by
  obtain ⟨d, e, hd⟩ := h.2.2 l hl
  exact ⟨d, e, by omega⟩
theorem vN.o (h : vN n t Os E) : ∀ r, (Os r).length ≤ 760 := fun r => by
  have := h.1 r
  omega
theorem O_put (h : IVn sa x (n + 1) s t kc ks) (y1 y2 y3 y4 : Int32) : C_Rf_put sa x y1 y2 y3 y4 s kc ks (opQ sa x n t (M_put t y1 y2 y3 y4)) := by
  obtain ⟨G, H, Os, E, ⟨hR, hM, hA, hE, hN, hS, hI⟩, hn, hC⟩ := h
  obtain ⟨b1, b2⟩ := hC.k (m1 := 0) (m2 := 0) hR hM (Nat.zero_le _) (Nat.zero_le _)
  obtain ⟨p1, p2⟩ := pot_pp (G := G) (H := H) (s := s) (x := x) hM
  obtain ⟨r, t', e, M', m, i23, c⟩ := P_put hR hM (hn.ps hM) (ar_p3 b1 p1) (ar_p3 b2 p2) y1 y2 y3 y4
  refine c _ fun G' H' s' kc' ks' R' g1 hh f k1 k2 => ⟨t', e, ?_⟩
  obtain ⟨E', hE', hS'⟩ := sM_put hS _ e
  obtain ⟨z1, z2⟩ := pot_pu (x := x) hR hM m rfl g1 hh f k1 k2
  obtain ⟨q1, q2⟩ := rdC.fr hR f rfl
  have ec := kb.cp hR R' (f.kb hR.q.1.1.1 rfl)
  have eb := bt_z (put_0 _ e)
  refine IVh.mid ⟨G', H', Os, E', ⟨R', M', hA.m m ⟨by decide, by decide⟩, hE.of hM M' (by unfold cR; rw [m.S 37 (by decide)]) (fun _ _ => sEq.m m rfl) (fun _ _ z => by rw [m.I 39 (by decide)] at z; exact z), hN.m m rfl, hS', rdI.fr hR f rfl hI⟩, hn.st (fun r => by rw [eb]; omega) hE' (by unfold tmN; rw [m.S 1 (by decide)]) (fun j hj => ?_) (rq_256 M'), hC.st (ar_p1 z1 q1 (by rw [eb]; exact Nat.zero_le _) ec) (ar_p2 z2 q2 (by rw [eb]; exact Nat.zero_le _) ec)⟩
  rcases i23 with z | ⟨l, hl, z⟩
  · exact ⟨0, Nat.zero_le _, by rw [z, show nI 0 = 0 from rfl, Int32.add_zero]⟩
  · rw [z]
    by_cases cj : j = l
    · subst cj
      exact ⟨1, by omega, by rw [upd_s]; rfl⟩
    · exact ⟨0, Nat.zero_le _, by rw [upd_n cj, show nI 0 = 0 from rfl, Int32.add_zero]⟩
theorem ar_q1 {kc kc' P P' T T' : Nat} (h : kc + P' ≤ kc' + P) (e : T' = T) : kc + (P' + T') ≤ kc' + (P + T) := by omega
theorem ar_q2 {P T d m k : Nat} (h : P + T + d + m ≤ k) : P ≤ k ∧ P + T ≤ k ∧ P + d + m ≤ k := by omega
theorem ar_q3 {R d m k : Nat} (h : R + d + m ≤ k) : R + m ≤ k := by omega
theorem O_link (h : IVn sa x (n + 1) s t kc ks) (y b : Int32) (hb : b = 0 ∨ b = 1) : C_Rf_link sa x y b s kc ks (opQ sa x n t (M_link t y b)) := by
  obtain ⟨G, H, Os, E, ⟨hR, hM, hA, hE, hN, hS, hI⟩, hn, hC⟩ := h
  obtain ⟨b1, b2⟩ := hC.k (m1 := 0) (m2 := 0) hR hM (Nat.zero_le _) (Nat.zero_le _)
  refine P_lnk hR hM hE hn.o hb (hn.d (by decide)) (ar_q2 b1).1 (ar_q2 b2).1 _ fun r t' e M' E' m i23 G' H' s' kc' ks' R' k k1 k2 => ⟨t', e, ?_⟩
  obtain ⟨w1, w2⟩ := tdk_e hR R' k.2.2
  obtain ⟨q1, q2⟩ := rd_kp k.1
  have ec := kb.cp hR R' k.2.2.2.2.2
  have eb : btL t' = btL t := by unfold btL; rw [m.S 3 (by decide)]
  exact IVh.mid ⟨G', H', Os, E, ⟨R', M', aM_link hA _ e, E', rM_link hN _ e, sM_link hS _ e, k.i (rd_22 hR) hI⟩, hn.st (fun r => by rw [eb]; omega) (Nat.le_succ _) (by unfold tmN; rw [m.S 1 (by decide)]) (fun j hj => by
    obtain ⟨d, hd, z⟩ := i23 j
    exact ⟨d, by omega, z⟩) (rq_256 M'), hC.st (ar_p1 (ar_q1 k1 w1) q1 (by rw [eb]; exact Nat.le_refl _) ec) (ar_p2 (ar_q1 k2 w2) q2 (by rw [eb]; exact Nat.le_refl _) ec)⟩
theorem O_run (h : IVn sa x (n + 1) s t kc ks) (y b : Int32) (hb : b = 0 ∨ b = 1) : C_Rf_run sa x y b s kc ks (opQ sa x n t (M_run t y b)) := by
  obtain ⟨G, H, Os, E, ⟨hR, hM, hA, hE, hN, hS, hI⟩, hn, hC⟩ := h
  obtain ⟨b1, b2⟩ := hC.k (m1 := 0) (m2 := 0) hR hM (Nat.zero_le _) (Nat.zero_le _)
  refine P_run hR hM hA hE hN hn.o hb (hn.d (by decide)) (ar_q2 b1).2.1 (ar_q2 b2).2.1 _ fun r t' e M' A' E' N' m i23 G' H' s' kc' ks' R' k k1 k2 => ⟨t', e, ?_⟩
  obtain ⟨q1, q2⟩ := rd_kp k.1
  have ec := kb.cp hR R' k.2.2
  have eb : btL t' = btL t := by unfold btL; rw [m.S 3 (by decide)]
  exact IVh.mid ⟨G', H', Os, E, ⟨R', M', A', E', N', sM_run hS _ e, k.i (rd_22 hR) hI⟩, hn.st (fun r => by rw [eb]; omega) (Nat.le_succ _) (by unfold tmN; rw [m.S 1 (by decide)]) i23 (rq_256 M'), hC.st (ar_p1 k1 q1 (by rw [eb]; exact Nat.le_refl _) ec) (ar_p2 k2 q2 (by rw [eb]; exact Nat.le_refl _) ec)⟩
theorem O_ticks (h : IVn sa x (n + 1) s t kc ks) (y : Int32) : C_Rf_ticks sa x y s kc ks (opQ sa x n t (M_ticks t y)) := by
  obtain ⟨G, H, Os, E, ⟨hR, hM, hA, hE, hN, hS, hI⟩, hn, hC⟩ := h
  obtain ⟨b1, b2⟩ := hC.k (m1 := 5) (m2 := 622) hR hM (by omega) (by omega)
  obtain ⟨T, eT, -, hT2⟩ := hM.1.2.1
  have tm : tmN t = T := by unfold tmN; rw [eT, nI_clamp (by omega)]
  refine P_ticks hR hM hA hE hS hn.o (by have := hn.2.1; omega) eT hT2 (fun j hj => ?_) (ar_q3 b1) (ar_q3 b2) _ fun r t' e M' A' E' S' m hs G' H' s' kc' ks' R' k k1 k2 => ⟨t', e, ?_⟩
  · obtain ⟨d, z, hd⟩ := hn.2.2 j hj
    rw [tm] at hd
    exact ⟨d, z, by omega⟩
  obtain ⟨q1, q2⟩ := rd_kp k.1
  have ec := kb.cp hR R' k.2.2
  have eb : btL t' = btL t := by unfold btL; rw [m.S 3 (by decide)]
  obtain ⟨v, e1, hv, sq⟩ := hs
  have tm' : tmN t' = T + v := by unfold tmN; rw [e1, nI_clamp (by omega)]
  refine IVh.mid ⟨G', H', Os, E, ⟨R', M', A', E', rM_ticks hN hS.i70 _ e, S', k.i (rd_22 hR) hI⟩, ⟨fun r => ?_, ?_, fun j hj => ?_⟩, hC.st (ar_p1 k1 q1 (by rw [eb]; exact Nat.le_refl _) ec) (ar_p2 k2 q2 (by rw [eb]; exact Nat.le_refl _) ec)⟩
  · have := hn.1 r
    rw [eb]
    omega
  · have := hn.2.1
    omega
  · obtain ⟨d, z, hd⟩ := hn.2.2 j hj
    obtain ⟨d', z', hd'⟩ := sq j hj
    rw [tm] at hd
    refine ⟨d + d', by rw [z', z, nI_add], ?_⟩
    rw [tm']
    omega
theorem ar_r1 {kc kc' P P' T T' d d' b c c' : Nat} (h : kc + P' + d' ≤ kc' + P + d + 16 * (b + 1) + 64) (e : T' = T) (hc : c' = c) : 16 * (kc + (P' + T') + d') + c + 256 * 0 ≤ 16 * (kc' + (P + T) + d) + c' + 256 * b + 5120 := by omega
theorem ar_r2 {kc kc' P P' T T' d d' b c c' : Nat} (h : kc + P' + d' ≤ kc' + P + d + 300 * (b + 1) + 1200) (e : T' = T) (hc : c' = c) : kc + (P' + T') + d' + 2 * c + 300 * 0 ≤ kc' + (P + T) + d + 2 * c' + 300 * b + 6000 := by omega
theorem ar_r3 {P d b k u : Nat} (h : P + d + (16 * b + 320) ≤ k) (hu : u = b) : P + d + 16 * (u + 1) + 64 ≤ k := by omega
set_option maxRecDepth 100000 in
theorem ar_r4 {P d b k u : Nat} (h : P + d + (300 * b + 6000) ≤ k) (hu : u = b) : P + d + 300 * (u + 1) + 1200 ≤ k := by
  subst hu
  have e : 300 * (u + 1) = 300 * u + 300 := by rw [Nat.mul_add]
  rw [e]
  omega
theorem O_read (h : IVn sa x (n + 1) s t kc ks) : C_Rf_read sa x s kc ks (opQ sa x n t (M_read t)) := by
  obtain ⟨G, H, Os, E, ⟨hR, hM, hA, hE, hN, hS, hI⟩, hn, hC⟩ := h
  obtain ⟨b1, b2⟩ := hC.k (m1 := 16 * btL t + 320) (m2 := 300 * btL t + 6000) hR hM (Nat.le_refl _) (Nat.le_refl _)
  obtain ⟨u, e3, -, hu⟩ := hM.1.2.2.1
  have bt : btL t = u := by unfold btL; rw [e3, nI_clamp (by omega)]
  refine P_read hR hM hE hI e3 hu (fun r => ?_) (fun i hi => ?_) (ar_r3 (ar_q2 b1).2.2 bt.symm) (ar_r4 (ar_q2 b2).2.2 bt.symm) _ fun r t' Os' G' H' s' kc' ks' e M' E' hO' m e30 i23 R' I' k k1 k2 => ⟨t', e, ?_⟩
  · have := hn.1 r
    rw [bt] at this
    omega
  · obtain ⟨d, z, hd⟩ := hn.2.2 i hi
    exact ⟨d, z, by omega⟩
  have eb := bt_z e30
  obtain ⟨w1, w2⟩ := tdk_e hR R' k
  have ec := kb.cp hR R' k.2.2.2
  refine IVh.mid ⟨G', H', Os', E, ⟨R', M', aM_read hA _ e, E', rM_read hN _ e, sM_read hS _ e, I'⟩, hn.st (fun r => ?_) (Nat.le_succ _) (by unfold tmN; rw [m.S 1 (by decide)]) (fun j hj => ?_) (rq_256 M'), hC.st ?_ ?_⟩
  · have := hO' r
    rw [eb, bt]
    omega
  · obtain ⟨d, hd, z⟩ := i23 j
    exact ⟨d, by omega, z⟩
  · rw [eb, bt]
    exact ar_r1 k1 w1 ec
  · rw [eb, bt]
    exact ar_r2 k2 w2 ec
end Ip
