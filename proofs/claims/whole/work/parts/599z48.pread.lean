/-! read, both sides. -/
def rdI' (x : Nat) (s : cS) : Prop := ∀ rd, s.P 223 x = some rd → s.P 140 rd = some x
def rdC (s : cS) (x : Nat) : Nat := if s.P 223 x = none then 19 else 0
def rdS (s : cS) (x : Nat) : Nat := if s.P 223 x = none then 292 else 0
theorem kp.i {x : Nat} {s s' : cS} (h : kp x s s') (hk : ∀ rd, s.P 223 x = some rd → (s.K rd).1 = 22) (hi : rdI' x s) : rdI' x s' := fun rd e => by
  rw [h.1] at e
  exact ((h.2.1 rd (hk rd e)).2).trans (hi rd e)
theorem ar_1 {p1 p2 p3 z n ks ks2 : Nat} (h1 : p2 ≤ p3) (h2 : p1 ≤ p2) (h3 : ks - 12 ≤ ks2 + 280) (hz : z = 292) (h4 : p3 + z + 300 * n + 1200 ≤ ks) : p1 + 300 * n + 1200 ≤ ks2 := by omega
theorem ar_2 {p1 p3 z n ks : Nat} (h1 : p1 = p3) (hz : z = 0) (h4 : p3 + z + 300 * n + 1200 ≤ ks) : p1 + 300 * n + 1200 ≤ ks := by omega
theorem ar_3 {p p3 z z' n ks ks' : Nat} (hz : z = 0) (hz' : z' = 0) (h : ks + p ≤ ks' + p3 + 300 * n + 1200) : ks + p + z' ≤ ks' + p3 + z + 300 * n + 1200 := by omega
theorem ar_4 {p p1 p2 p3 z z' n ks ks' ks2 : Nat} (h1 : p2 ≤ p3) (h2 : p1 ≤ p2) (h3 : ks - 12 ≤ ks2 + 280) (h12 : 12 ≤ ks) (hz : z = 292) (hz' : z' = 0) (h : ks2 + p ≤ ks' + p1 + 300 * n + 1200) : ks + p + z' ≤ ks' + p3 + z + 300 * n + 1200 := by omega
section Pr
variable {sa : Nat → Nat} {x : Nat} {G H : Nat → Nat → Nat} {s : cS} {t : moS} {Os : Nat → List Pf} {kc ks n : Nat}
theorem rd_22 (hR : RR G H sa x s t) : ∀ rd, s.P 223 x = some rd → (s.K rd).1 = 22 := fun rd e => by
  rcases hR.q.1.1.2.2.2.2.2.1 with z | ⟨d, z1, z2⟩
  · rw [e] at z; cases z
  · rw [e] at z1; cases z1; exact z2
theorem P_read (hR : RR G H sa x s t) (hM : MV t) (hE : EX Os t) (hI : rdI' x s) (hn : t.S 3 = nI n) (hn4 : n ≤ 4096) (hO : ∀ r, 14 * (Os r).length + (n + 1) + 14 ≤ 14 * 760) (hs : ∀ i, i < 10 → ∃ d, t.I 23 i = nI d ∧ d + (n + 1) + 1 < 2 ^ 31) (hkc : PoC s G H t + rdC s x + 16 * (n + 1) + 64 ≤ kc) (hks : PoS s G H t + rdS s x + 300 * (n + 1) + 1200 ≤ ks) (Q : Int32 → cS → Nat → Nat → Prop) (k : ∀ r t' Os' G' H' s' kc' ks', M_read t = some (r, t') → MV t' → EX Os' t' → (∀ r, 14 * (Os' r).length ≤ 14 * (Os r).length + (n + 1) + 14) → mfr (0 :: Wrd) t t' → t'.S 3 = 0 → (∀ i, ∃ d, d ≤ n + 1 ∧ t'.I 23 i = t.I 23 i + nI d) → RR G' H' sa x s' t' → rdI' x s' → tdk x s s' → kc + PoC s' G' H' t' + rdC s' x ≤ kc' + PoC s G H t + rdC s x + 16 * (n + 1) + 64 → ks + PoS s' G' H' t' + rdS s' x ≤ ks' + PoS s G H t + rdS s x + 300 * (n + 1) + 1200 → Q r s' kc' ks') : C_Rf_read sa x s kc ks Q := by
  have m0 : mfr [0] t (moSS t 0 0) := mfr.ss (by decide)
  have hM0 : MV (moSS t 0 0) := hM.fr m0 rfl (hM.1.fr m0 rfl)
  have hR0 : RR G H sa x s (moSS t 0 0) := rr_fr hR hM hR.q.1.1 (fr.rf (Rv := []) (Gp := []) (Rq := [])) m0 rfl rfl rfl rfl rfl rfl rfl
  have R1 := rr_4 (v := 0) hR0 hM0
  have M1 : MV (moSS (moSS t 0 0) 4 0) := mv_4 hM0
  have m1 : mfr [0, 4] t (moSS (moSS t 0 0) 4 0) := (m0.wk (by decide)).tr (mfr.ss (by decide))
  have em : M_read t = M_read_b14 (moSS (moSS t 0 0) 4 0) 0 (nI 0) := rfl
  generalize moSS (moSS t 0 0) 4 0 = t1 at R1 M1 m1 em
  have E1 : EX Os t1 := hE.of hM M1 (by unfold cR; rw [m1.S 37 (by decide)]) (fun _ _ => sEq.m m1 rfl) (fun _ _ z => by rw [m1.I 39 (by decide)] at z; exact z)
  have n1 : t1.S 3 = nI n := by rw [m1.S 3 (by decide)]; exact hn
  obtain ⟨l, hl⟩ : ∃ l, l = tl (t1.I 2) (t1.S 3).toNatClampNeg := ⟨_, rfl⟩
  have ll : l.length = n := by rw [hl, tl_len, n1, nI_clamp (by omega)]
  have hx := hR.q.1.1.1
  have k30 : ((cSI s 224 x 0).K x).1 = 30 := hx
  have zt := fun (G H : Nat → Nat → Nat) (s : cS) => pot_t (G := G) (H := H) (s := s) m1 rfl
  have zk := pot_kp (s := s) (s1 := cSI s 224 x 0) (G := G) (H := H) (t := t1) rfl rfl
  have h23 : ∀ i, i < 10 → ∃ d, t1.I 23 i = nI d ∧ d + (l.length + 1 - 0) + 1 < 2 ^ 31 := fun i hi => by
    obtain ⟨d, d1, d2⟩ := hs i hi
    exact ⟨d, by rw [m1.I 23 (by decide)]; exact d1, by rw [ll]; exact d2⟩
  have hO1 : ∀ r, 14 * (Os r).length + (l.length + 1 - 0) + 14 ≤ 14 * 760 := fun r => by
    have := hO r
    rw [ll]
    exact this
  have nx := fun (y : Nat) (hy : y ∈ [0, 4]) => show y ∈ 0 :: Wrd by
    simp only [List.mem_cons, List.not_mem_nil, or_false] at hy
    rcases hy with rfl | rfl
    · exact List.mem_cons_self
    · exact List.mem_cons_of_mem _ (List.mem_cons_of_mem _ List.mem_cons_self)
  have e0 : l.length + 1 - 0 = n + 1 := by omega
  unfold C_Rf_read
  refine ⟨_, gd_to (okr hx 11), _, gd_to (okr k30 11), ?_⟩
  show if s.P 223 x = none then _ else _
  cases e : s.P 223 x with
  | some rd =>
    have c0 : rdC s x = 0 := if_neg (by rw [e]; simp)
    have c1 : rdS s x = 0 := if_neg (by rw [e]; simp)
    refine ifF (by simp) ?_
    have b1 : PoC (cSI s 224 x 0) G H t1 + 16 * (l.length + 1 - 0) + 64 ≤ kc := by
      have := zk.1
      have := (zt G H s).1
      omega
    have b2 : PoS (cSI s 224 x 0) G H t1 + 300 * (l.length + 1 - 0) + 1200 ≤ ks := by
      rw [e0]
      exact ar_2 (zk.2.trans (zt G H s).2) c1 hks
    have b0 : l.length + 1 ≤ 0 + (l.length + 1) := by omega
    have go := rd_loop (sa := sa) (x := x) (rd := rd) (l := l) (l.length + 1) 0 0 G H (cSI s 224 x 0) t1 Os kc ks b0 (Nat.zero_le _) R1 M1 E1 e (hI rd e) hl hO1 h23 b1 b2 Q
    refine go ?_
    intro r t' Os' G' H' s' kc' ks' y1 y2 y3 y4 y5 y50 y6 y7 y8 y9 y10
    rw [zk.1, (zt G H s).1, e0] at y9
    rw [zk.2, (zt G H s).2, e0] at y10
    have e' : s'.P 223 x = some rd := y8.1.trans e
    have d0 : rdC s' x = 0 := if_neg (by rw [e']; simp)
    have d1 : rdS s' x = 0 := if_neg (by rw [e']; simp)
    refine k r t' Os' G' H' s' kc' ks' (em.trans y1) y2 y3 (fun r => by have := y4 r; rw [e0] at this; omega) ((m1.wk nx).tr (y5.wk (fun y hy => List.mem_cons_of_mem _ hy))) y50 (fun i => ?_) y7 ?_ ((tdk.e (s1 := cSI s 224 x 0) rfl rfl rfl).tr y8.2.2) (by omega) (ar_3 c1 d1 y10)
    · obtain ⟨d, z1, z2⟩ := y6 i
      exact ⟨d, by omega, by rw [z2, m1.I 23 (by decide)]⟩
    · exact kp.i y8 (rd_22 R1) hI
  | none =>
    have c0 : rdC s x = 19 := if_pos e
    have c1 : rdS s x = 292 := if_pos e
    refine ifT rfl ?_
    refine hq_nwO (u := 22) hp_rf (by omega) (by omega) fun q sq hq => ?_
    refine ⟨hp_o (L1 := []) hq (by decide), hq_Re hq (by omega) (by omega) fun A C y L' sN kc2 ks2 hp hm hk1 hk2 => ?_⟩
    obtain ⟨R2, f2, hh, kq, p140⟩ := re_made R1 M1 hp hm
    have kx : (sN.K x).1 = 30 := f2.r k30
    have R3 := rr_223 R2 M1 (q := q) (by rw [kq])
    refine ⟨_, gd_to (okr kx 11), ?_⟩
    have hh' : hA H (reH H q x A C) (cSI s 224 x 0) := hh
    obtain ⟨a1, a2⟩ := pot_fr (G' := G) (H' := reH H q x A C) (t' := t1) R1 M1 f2 rfl gA.rf hh' (Nat.le_refl _) (Nat.le_refl _) (fun _ _ => Nat.le_refl _) rfl
    have f3 : fr [] [(223, 30)] [] sN (cSP sN 223 x (some q)) := fr.sp (by rw [kx]; decide)
    obtain ⟨b1, b2⟩ := pot_fr (G' := G) (H' := reH H q x A C) (t' := t1) R2 M1 f3 rfl gA.rf hA.rf (Nat.le_refl _) (Nat.le_refl _) (fun _ _ => Nat.le_refl _) rfl
    rw [zk.1, (zt G H s).1] at a1
    rw [zk.2, (zt G H s).2] at a2
    have e2 : (cSP sN 223 x (some q)).P 223 x = some q := cSP_s
    have e3 : (cSP sN 223 x (some q)).P 140 q = some x := (cSP_g (by decide)).trans p140
    have g1 : PoC (cSP sN 223 x (some q)) G (reH H q x A C) t1 + 16 * (l.length + 1 - 0) + 64 ≤ kc2 := by omega
    have g2 : PoS (cSP sN 223 x (some q)) G (reH H q x A C) t1 + 300 * (l.length + 1 - 0) + 1200 ≤ ks2 := by
      rw [e0]
      exact ar_1 a2 b2 hk2 c1 hks
    have b0 : l.length + 1 ≤ 0 + (l.length + 1) := by omega
    have go := rd_loop (sa := sa) (x := x) (rd := q) (l := l) (l.length + 1) 0 0 G (reH H q x A C) (cSP sN 223 x (some q)) t1 Os kc2 ks2 b0 (Nat.zero_le _) R3 M1 E1 e2 e3 hl hO1 h23 g1 g2 Q
    refine go ?_
    intro r t' Os' G' H' s' kc' ks' y1 y2 y3 y4 y5 y50 y6 y7 y8 y9 y10
    rw [e0] at y9 y10
    have e' : s'.P 223 x = some q := y8.1.trans e2
    have d0 : rdC s' x = 0 := if_neg (by rw [e']; simp)
    have d1 : rdS s' x = 0 := if_neg (by rw [e']; simp)
    refine k r t' Os' G' H' s' kc' ks' (em.trans y1) y2 y3 (fun r => by have := y4 r; rw [e0] at this; omega) ((m1.wk nx).tr (y5.wk (fun y hy => List.mem_cons_of_mem _ hy))) y50 (fun i => ?_) y7 ?_ (((tdk.e (s1 := cSI s 224 x 0) rfl rfl rfl).tr (fr.tdk f2 k30 rfl rfl)).tr ((fr.tdk f3 kx rfl rfl).tr y8.2.2)) (by omega) (ar_4 a2 b2 hk2 (Nat.le_trans (Nat.le_trans (show 12 ≤ 1200 by decide) (Nat.le_add_left _ _)) hks) c1 d1 y10)
    · obtain ⟨d, z1, z2⟩ := y6 i
      exact ⟨d, by omega, by rw [z2, m1.I 23 (by decide)]⟩
    · refine kp.i y8 (rd_22 R3) fun rd z => ?_
      rw [e2] at z
      cases z
      exact e3
end Pr
section Tq
variable {sa : Nat → Nat} {x : Nat} {G H G' H' : Nat → Nat → Nat} {s s' : cS} {t t' : moS}
/-- told is as it was: so is what it may still cost -/
theorem rta_hw {s s' : cS} {tb u ur n n' hw hw' mx : Nat} {g g' : Nat → Nat} (h : RTa s tb u ur n hw mx g) (h' : RTa s' tb u ur n' hw' mx g') (e : s'.P 200 tb = s.P 200 tb) (eQ : ∀ w, (s.K w).1 = u → s'.Q w = s.Q w) : hw' = hw := by
  obtain ⟨-, -, -, w, cap, p1, k1, -, -, -, a1, a2, -⟩ := h
  obtain ⟨-, -, -, w', cap', p1', k1', -, -, -, b1, b2, -⟩ := h'
  rw [e, p1] at p1'
  cases p1'
  have q := eQ w (by rw [k1])
  rcases Nat.lt_trichotomy hw hw' with c | c | c
  · have z1 := (b1 hw c).1
    rw [q, a2 hw (Nat.le_refl _)] at z1
    cases z1
  · exact c.symm
  · have z1 := (a1 hw' c).1
    rw [← q, b2 hw' (Nat.le_refl _)] at z1
    cases z1
theorem tdk_c (hR : RR G H sa x s t) (hR' : RR G' H' sa x s' t') (e : tdk x s s') : G' 15 0 = G 15 0 ∧ H' 237 x = H 237 x := by
  have hx := hR.q.1.1.1
  have hx' := hR'.q.1.1.1
  have p := hR.q.1.ty.p hx 237 29
  have p' := hR'.q.1.ty.p hx' 237 29
  have eH : H' 237 x = H 237 x := by
    have := p'.1
    rw [e.1, p.1] at this
    exact (Option.some.inj this).symm
  obtain ⟨n, r1⟩ := hR.q.1.1.2.2.2.2.1
  obtain ⟨n', r2⟩ := hR'.q.1.1.2.2.2.2.1
  rw [eH] at r2
  exact ⟨rta_hw r1 r2 (e.2.1 _ p.2).2 (fun w hw => (e.2.2.1 w hw).2), eH⟩
end Tq
