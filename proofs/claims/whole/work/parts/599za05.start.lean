/-! A router is started, the class settles: interfaces and static routes. -/
theorem inj_sur : ∀ (n : Nat) (g : Nat → Nat), (∀ j, j < n → g j < n) → (∀ i j, i < n → j < n → g i = g j → i = j) → ∀ k, k < n → ∃ j, j < n ∧ g j = k
  | 0, _, _, _, k, hk => absurd hk (Nat.not_lt_zero k)
  | n + 1, g, hb, hi, k, hk => by
    have ih := inj_sur n (fun j => if g j = n then g n else g j) (fun j hj => by
      have h1 := hb j (by omega)
      have h2 := hb n (by omega)
      show (if g j = n then g n else g j) < n
      split
      · next c =>
        have : g n ≠ n := fun z => by
          have := hi j n (by omega) (by omega) (by rw [c, z])
          omega
        omega
      · omega) (fun i j h1 h2 e => by
      have e : (if g i = n then g n else g i) = (if g j = n then g n else g j) := e
      by_cases c1 : g i = n
      · by_cases c2 : g j = n
        · exact hi i j (by omega) (by omega) (by rw [c1, c2])
        · rw [if_pos c1, if_neg c2] at e
          have := hi n j (by omega) (by omega) e
          omega
      · by_cases c2 : g j = n
        · rw [if_neg c1, if_pos c2] at e
          have := hi i n (by omega) (by omega) e
          omega
        · rw [if_neg c1, if_neg c2] at e
          exact hi i j (by omega) (by omega) e)
    by_cases ck : k < n
    · obtain ⟨j, h1, h2⟩ := ih k ck
      have h2 : (if g j = n then g n else g j) = k := h2
      by_cases c : g j = n
      · rw [if_pos c] at h2
        exact ⟨n, by omega, h2⟩
      · rw [if_neg c] at h2
        exact ⟨j, by omega, h2⟩
    · have : k = n := by omega
      subst this
      by_cases c : ∃ j, j < k + 1 ∧ g j = k
      · exact c
      · exfalso
        have hk' : g k < k := by
          have h1 := hb k (by omega)
          have h2 : g k ≠ k := fun z => c ⟨k, by omega, z⟩
          omega
        obtain ⟨j, h1, h2⟩ := ih (g k) hk'
        have h2 : (if g j = k then g k else g j) = g k := h2
        rw [if_neg (fun z => c ⟨j, by omega, z⟩)] at h2
        have := hi j k (by omega) (by omega) h2
        omega
section Sa
variable {G H G1 H1 : Nat → Nat → Nat} {sa : Nat → Nat} {x r p kc ks kc1 ks1 : Nat} {s s1 : cS} {t t1 : moS} {K : List Pf}
/-- both of an interface's networks, further on -/
theorem sp_port (sp : SPI G H sa x s t r K kc ks G1 H1 s1 t1 kc1 ks1) (hM : MV t) (hr : r < cR t) (k26 : (s.K (G 1 r)).1 = 26) (hrun : t.I 39 r ≠ 0) (hp : p < cI t r) (hPK : ∀ f, f < 2 → t.I 75 (8 * r + (2 * p + f)) ≠ 0 → neP t r (2 * p + f) ∈ K) (hkc : potC G r ≤ kc) (hks : potS s G H r ≤ ks) {Q : cS → Nat → Nat → Prop} (kk : ∀ G2 H2 s2 t2 kc2 ks2, SPI G H sa x s t r K kc ks G2 H2 s2 t2 kc2 ks2 → SAs t1 r (L2M t r 2 (2 * p)) = some t2 → Q s2 kc2 ks2) : C_Rr_settlePort sa (G 1 r) (some (G 2 (4 * r + p))) s1 kc1 ks1 Q := by
  unfold C_Rr_settlePort C_Rr_settlePort_b2
  intro P hP
  have fin : ∀ s' kc' ks', Q s' kc' ks' → P 8 s' kc' ks' := fun s' kc' ks' hQ => by
    apply hP
    unfold C_Rr_settlePort_s2
    exact ifT (by decide) hQ
  apply hP
  unfold C_Rr_settlePort_s2
  refine ifF (by decide) ⟨_, rfl, ?_⟩
  refine sp_step (f := 0) (Pn := fun s' kc' ks' => P (4 + 2) s' kc' ks') sp hM hr k26 hrun hp (by decide) (hPK 0 (by decide)) hkc hks fun G2 H2 s2 t2 kc2 ks2 sp2 e2 => ?_
  show P 6 s2 kc2 ks2
  apply hP
  unfold C_Rr_settlePort_s2
  refine ifF (by decide) ⟨_, rfl, ?_⟩
  refine sp_step (f := 1) (Pn := fun s' kc' ks' => P (6 + 2) s' kc' ks') sp2 hM hr k26 hrun hp (by decide) (hPK 1 (by decide)) hkc hks fun G3 H3 s3 t3 kc3 ks3 sp3 e3 => ?_
  refine fin s3 kc3 ks3 (kk G3 H3 s3 t3 kc3 ks3 sp3 ?_)
  show SAs t1 r ((if t.I 75 (8 * r + (2 * p + 0)) = 0 then [] else [neP t r (2 * p + 0)]) ++ ((if t.I 75 (8 * r + (2 * p + 1)) = 0 then [] else [neP t r (2 * p + 1)]) ++ [])) = some t3
  rw [List.append_nil, SAs_ap, e2]
  exact e3
/-- a static route's prefix, further on -/
theorem sp_stat {j : Nat} (sp : SPI G H sa x s t r K kc ks G1 H1 s1 t1 kc1 ks1) (hM : MV t) (hr : r < cR t) (hR : RR G H sa x s t) (hrun : t.I 39 r ≠ 0) (hj : j < cSt t r) (hPK : ∀ k, k < cSt t r → stP t (32 * r + k) ∈ K) (hpx : ∀ k, k < cSt t r → isPx (t.J 48 (32 * r + k)) (t.J 49 (32 * r + k)) (t.I 50 (32 * r + k))) (hkc : potC G r ≤ kc) (hks : potS s G H r ≤ ks) {Q : cS → Nat → Nat → Prop} (kk : ∀ G2 H2 s2 t2 kc2 ks2, SPI G H sa x s t r K kc ks G2 H2 s2 t2 kc2 ks2 → SAs t1 r [stP t (32 * r + G 7 (32 * r + j))] = some t2 → Q s2 kc2 ks2) : ob (gP s1 9 7 (G 1 r)) (fun v4 => (ob v4 (fun b5 => (ob (gP s1 10 0 b5) (fun v6 => (ob v6 (fun b7 => (ob (rQ s1 b7 (nI j)) (fun v8 => (ob v8 (fun b9 => (ob (gP s1 8 0 b9) (fun v10 => (okO s1 9 (G 1 r) ∧ C_Rr_settle sa (G 1 r) v10 s1 kc1 ks1 Q)))))))))))))) := by
  obtain ⟨hR1, sq, g1, g2, hA1, f1, p1, b1, b2⟩ := id sp
  have k26 := (hR.q.1.rt hr).1.1
  have h6 := hM.nR
  have h32 := (hM.st hr).2
  have m := sq.2.1.1
  have hM1 := sq.1
  have hr1 := sq.cr hr
  have e1 : G1 1 = G 1 := g1 1 (by decide) (by decide)
  have e6 : G1 6 = G 6 := g1 6 (by decide) (by decide)
  have e7 : G1 7 = G 7 := g1 7 (by decide) (by decide)
  have eS : cSt t1 r = cSt t r := by unfold cSt; rw [m.I 46 (by decide)]
  have hq1 := hR1.q.1
  obtain ⟨⟨c1, c2, c3, w, cap, d1, d2, d3, d4, d5, d6, d7, d8⟩, bb, -⟩ := hq1.st hr1
  have hj1 : j < cSt t1 r := by rw [eS]; exact hj
  obtain ⟨b71, bpf, -⟩ := bb j hj1
  rw [e1] at d1
  rw [e6, e7, m.I 47 (by decide), m.J 48 (by decide), m.J 49 (by decide), m.I 50 (by decide)] at bpf
  have b71 : G 7 (32 * r + j) < cSt t r := by rw [← e7, ← eS]; exact b71
  have c2 : cSt t1 r ≤ G1 14 r := c2
  obtain ⟨q1, q2⟩ := d6 j (by omega)
  rw [e6] at q1 q2
  have k26' := (hq1.rt hr1).1.1
  rw [e1] at k26'
  have p187 := hq1.ty.p k26' 187 28
  have p160 := hq1.ty.p q2 160 36
  have hln := (hM.sl hr b71).1
  have hPK' := hPK _ b71
  generalize hk : 32 * r + G 7 (32 * r + j) = k' at *
  have hset := c_settle (f := t.I 47 k') (h := t.J 48 k') (l := t.J 49 k') (n := t.I 50 k') (p := H1 160 (G 6 (32 * r + j))) (kc := kc1) (ks := ks1) (Q := Q) hR1 hM1 hr1 (by rw [m.I 39 (by decide)]; exact hrun) hln (by have := hpx _ b71; rw [hk] at this; exact this) bpf (okr p160.2 5) (Or.inr (Or.inr p160.2)) (fun z => sq.2.2.1.lt hM1 hr1 hPK' fun j hj y => z j hj ((pfR_v (hM1.kl hr1 hj) hln).mp y)) (by omega) (by omega) (by
    intro G2 H2 s3 t2 kc2 ks2 eSA hR3 hM3 c1 c2 c3 c4 c5 c6 c7 c8
    obtain ⟨t2', y1, y2, -⟩ := sq.st hr hln hPK'
    rw [eSA] at y1
    cases y1
    refine kk G2 H2 s3 t2 kc2 ks2 ⟨hR3, y2, fun b h4 h13 => (c1 b h4 h13).trans (g1 b h4 h13), fun r' hne => (c2 r' hne).trans (g2 r' hne), fun g a ha => (c3 g a (by rw [(f1 a ha).1]; exact ha)).trans (hA1 g a ha), f1.tr c4, fun b g hb hk hg => ?_, by omega, by omega⟩ ?_
    · rw [e1, hA1.u k26 186] at c6
      rw [c6 b g hb (by rw [(f1 b hk).1]; exact hk) hg]
      exact p1 b g hb hk hg
    · show Option.bind (SA t1 r (t.I 47 k') (t.J 48 k') (t.J 49 k') (t.I 50 k')) _ = _
      rw [eSA]
      rfl)
  rw [e1] at hset
  refine ⟨_, gd_to (okr k26' 9), _, p187.1, _, gd_to (okr p187.2 10), w, d1, _, rd_Q d2 (by decide) (by omega) (by omega) q1, _, rfl, _, gd_to (okr q2 8), okr k26' 9, ?_⟩
  rw [show s1.P (20 * 8 + 0) (G 6 (32 * r + j)) = some (H1 160 (G 6 (32 * r + j))) from p160.1]
  exact hset
end Sa
