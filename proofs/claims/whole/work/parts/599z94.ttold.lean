/-! What was gathered is sent: both sides. -/
/-- how it goes on behind datagrams that were sent -/
def SnK (sa : Nat → Nat) (x : Nat) (G H : Nat → Nat → Nat) (s : cS) (t : moS) (kc ks : Nat) (t' : moS) (Q : cS → Nat → Nat → Prop) : Prop := ∀ G' H' s' kc' ks', RR G' H' sa x s' t' → (∀ b, b ≠ 11 → b ≠ 12 → G' b = G b) → hA H H' s → fr Ras Pas Qfl s s' → HO G H s t G' s' t' → kc + PoC s' G' H' t' ≤ kc' + PoC s G H t → ks + PoS s' G' H' t' ≤ ks' + PoS s G H t → Q s' kc' ks'
/-- a target -/
def TGh (G H : Nat → Nat → Nat) (s : cS) (t : moS) (p2 : Option Nat) (ta : Int32) (th tl : Int64) (f : Nat) : Prop := (p2 = none ∧ ta = 1) ∨ ∃ tp, p2 = some tp ∧ ta = 0 ∧ s.I 100 tp = fam (nI f) ∧ s.J 101 tp = th ∧ s.J 102 tp = tl ∧ ((s.K tp).1 = 16 ∨ ∃ A, (s.K A).1 = 6 ∧ hFr G t A ∧ tp = H 41 A)
theorem ar_50 {p a b c z : Nat} (h : p + a + 5 * b + c ≤ z) : a + 5 * b + c ≤ z := by omega
section Tt
variable {G H G' H' : Nat → Nat → Nat} {sa : Nat → Nat} {x kc ks kc' ks' r p l f N : Nat} {s s' : cS} {t t' t1 : moS} {L : List En} {ta : Int32} {th tl : Int64} {V : chV} {p2 : Option Nat} {Q : cS → Nat → Nat → Prop}
theorem HO.tr {G1 : Nat → Nat → Nat} {H1 : Nat → Nat → Nat} {s1 s2 : cS} {t2 : moS} {G2 : Nat → Nat → Nat} (h : HO G H s t G1 s1 t1) (hk : ∀ A, (s.K A).1 = 6 → (s1.K A).1 = 6) (hh : hA H H1 s) (g : HO G1 H1 s1 t1 G2 s2 t2) : HO G H s t G2 s2 t2 := fun A kA hA' => by
  obtain ⟨a, b⟩ := h A kA hA'
  obtain ⟨c, d⟩ := g A (hk A kA) b
  refine ⟨a.tr ?_, d⟩
  have e : ∀ g, H1 g A = H g A := fun g => hh g A (by rw [kA]; decide)
  unfold hdF at c ⊢
  rw [e 40, e 41, e 42] at c
  exact c
theorem SnK.tr {G1 H1 : Nat → Nat → Nat} {s1 : cS} {kc1 ks1 : Nat} (k : SnK sa x G H s t kc ks t' Q) (g1 : ∀ b, b ≠ 11 → b ≠ 12 → G1 b = G b) (h1 : hA H H1 s) (f1 : fr Ras Pas Qfl s s1) (o1 : HO G H s t G1 s1 t1) (c1 : kc + PoC s1 G1 H1 t1 ≤ kc1 + PoC s G H t) (c2 : ks + PoS s1 G1 H1 t1 ≤ ks1 + PoS s G H t) : SnK sa x G1 H1 s1 t1 kc1 ks1 t' Q := fun G' H' s' kc' ks' R g h f o b1 b2 => k G' H' s' kc' ks' R (fun b x1 x2 => (g b x1 x2).trans (g1 b x1 x2)) (fun y a ha => (h y a (by rw [(f1 a ha).1]; exact ha)).trans (h1 y a ha)) (f1.tr f) (o1.tr (fun A kA => f1.r kA) h1 o) (ar_6 c1 b1) (ar_6 c2 b2)
/-- what was gathered is still there -/
theorem tdc_fr {Rv Rq : List Nat} {Gp : List (Nat × Nat)} {F : Int32} (h : TDc G H x s F L) (hq : RGl G H sa x s) (e15 : G' 15 = G 15) (e16 : G' 16 = G 16) (hh : hA H H' s) (g : fr Rv Gp Rq s s') (d1 : dj [25, 29, 33] Rv) (d2 : (200, 29) ∉ Gp) (d3 : 144 ∉ Rq) : TDc G' H' x s' F L ∧ tdC G' = tdC G ∧ tdS s' G' H' x = tdS s G H x := by
  have kx : (s.K x).1 = 30 := hq.1
  have eH : H' 237 x = H 237 x := hh 237 x (by rw [kx]; decide)
  have kt := (hq.2.1.p kx 237 29).2
  obtain ⟨t1, t2⟩ := h
  have t1' := t1
  obtain ⟨a1, a2, a3, w, cap, b1, b2, b3, b4, b5, b6, b7, b8⟩ := t1'
  refine ⟨⟨?_, fun j e he => ?_⟩, by unfold tdC; rw [e15], ?_⟩
  · rw [eH, e15, e16]
    exact t1.fr g kt ⟨by decide, by decide, by decide⟩ (d1.n 29) d2 d3
  · obtain ⟨q1, q2, q3⟩ := t2 j e he
    have hjl := (List.getElem?_eq_some_iff.mp he).1
    have k25 := (b6 j (by omega)).2
    have o := (g.v k25 (d1.n 25)).1
    rw [e16, hh 160 _ (by rw [k25]; decide), o, o]
    exact ⟨q1.fr g ((hq.2.1.p k25 160 33).2) (d1.n 33), q2, q3⟩
  · unfold tdS cpD
    rw [eH, e15, g.p kt d2, b1]
    show 24 * _ + (_ - 2 * (s'.K w).2) = 24 * _ + (_ - 2 * (s.K w).2)
    rw [(g w (by rw [b2]; exact (by decide : (144 : Nat) ≠ 0))).1]
theorem op_nn {fa tm nn nn' cmd : Int32} {ky : Option Nat} {hd : List Int32} (h : opH V fa tm nn cmd = some (ky, hd)) : ∃ hd', opH V fa tm nn' cmd = some (ky, hd') := by
  unfold opH at h ⊢
  split at h
  · split at h
    · cases h; rw [if_pos (by assumption), if_pos (by assumption)]; exact ⟨_, rfl⟩
    · split at h
      · cases h; rw [if_pos (by assumption), if_neg (by assumption), if_pos (by assumption)]; exact ⟨_, rfl⟩
      · rw [if_pos (by assumption), if_neg (by assumption), if_neg (by assumption)]
        cases e : bkN tm V.2.2 V.2.2.length with
        | none => rw [e] at h; cases h
        | some b => rw [e] at h; cases h; exact ⟨_, rfl⟩
  · cases h; rw [if_neg (by assumption)]; exact ⟨_, rfl⟩
theorem tgh_fr (h : TGh G H s t p2 ta th tl f) (hT : TY cNo H s) (hh : hA H H' s) (g : fr Ras Pas Qfl s s') (o : HO G H s t G' s' t') : TGh G' H' s' t' p2 ta th tl f := by
  rcases h with h | ⟨tp, e1, e2, e3, e4, e5, e6⟩
  · exact Or.inl h
  refine Or.inr ⟨tp, e1, e2, ?_⟩
  rcases e6 with k | ⟨A, kA, nA, eA⟩
  · have v := g.v k (by decide)
    exact ⟨by rw [v.1]; exact e3, by rw [v.2.1]; exact e4, by rw [v.2.1]; exact e5, Or.inl (g.r k)⟩
  · obtain ⟨⟨-, -, ⟨v1, v2⟩, -⟩, nA'⟩ := o A kA nA
    rw [← eA] at v1 v2
    exact ⟨by rw [v1]; exact e3, by rw [v2]; exact e4, by rw [v2]; exact e5, Or.inr ⟨A, g.r kA, nA', by rw [hh 41 A (by rw [kA]; decide)]; exact eA⟩⟩
theorem tgh_0 (h : TGh G H s t p2 ta th tl f) : TG0 H s (G 11 999) p2 ta th tl f := by
  rcases h with h | ⟨tp, e1, e2, e3, e4, e5, e6⟩
  · exact Or.inl h
  refine Or.inr ⟨tp, e1, e2, e3, e4, e5, ?_⟩
  rcases e6 with k | ⟨A, kA, nA, eA⟩
  · exact Or.inl k
  · exact Or.inr ⟨A, kA, nA.1, eA⟩
theorem tgh_b (h : TGh G H s t p2 ta th tl f) : bit ta := by
  rcases h with ⟨-, h⟩ | ⟨-, -, h, -⟩
  · exact Or.inr h
  · exact Or.inl h
/-- told.rows[j] -/
theorem td_row {F : Int32} (hq : RQ G H sa x s t) (hT : TDc G H x s F L) {j : Nat} {e : En} (he : L[j]? = some e) : ∃ w cap, s.P 200 (H 237 x) = some w ∧ s.K w = (144, cap) ∧ j < cap ∧ cap < 2 ^ 31 ∧ s.Q w j = some (G 16 j) ∧ (s.K (G 16 j)).1 = 25 ∧ s.P 160 (G 16 j) = some (H 160 (G 16 j)) ∧ okO s 5 (H 160 (G 16 j)) := by
  obtain ⟨⟨a1, a2, a3, w, cap, b1, b2, b3, b4, b5, b6, b7, b8⟩, hv⟩ := hT
  have hj := (List.getElem?_eq_some_iff.mp he).1
  obtain ⟨c1, c2⟩ := b6 j (by omega)
  have p160 := hq.ty.p c2 160 33
  exact ⟨w, cap, b1, b2, by omega, by omega, c1, c2, p160.1, okr p160.2 5⟩
/-- all that was gathered, from entry a on -/
theorem tt_loop (hf : f = 0 ∨ f = 1) (hok : ∀ e, e ∈ L → eOk (nI f) e) (hLen : L.length ≤ 885) {ky : Option Nat} : ∀ (y a : Nat), a + y = L.length → ∀ (G H : Nat → Nat → Nat) (s : cS) (t : moS) (kc ks : Nat), RR G H sa x s t → MV t → r < cR t → p < cI t r → l < cL t → t.I 71 (4 * r + p) = nI l → t.I 22 l ≠ 0 → t.I 75 (2 * (4 * r + p) + f) ≠ 0 → (∃ hd, opH (mcV t (4 * r + p)) (nI f) (t.S 1) (t.I 89 (4 * r + p)) 2 = some (ky, hd)) → N = roN (mcV t (4 * r + p)) f ky (t.I 21 l).toNatClampNeg → TDc G H x s (nI f) L → EN t L → TGh G H s t p2 ta th tl f → (∃ d, t.I 23 l = nI d ∧ d + y < 2 ^ 31) → PoC s G H t ≤ kc → PoS s G H t ≤ ks → ∀ Q : cS → Nat → Nat → Prop, (∀ t', M_tellTo_b14 t (nI (4 * r + p)) (nI f) ta th tl (nI N) 0 (nI a) = some t' → MV t' → mfr Wtt t t' → SB l y t t' → SD t t' → SnK sa x G H s t kc ks t' Q) → C_Rr_sendTold_b3 sa (G 1 r) (some (G 2 (4 * r + p))) (fam (nI f)) p2 (nI a) s kc ks Q := by
  intro y
  induction y using Nat.strongRecOn with
  | ind y ih =>
    intro a hay G H s t kc ks hR hM hr hp hlL h71 u0 h75 hop hNr hT hE hTG hs hkc hks Q k P3 hc
    refine hc _ _ _ _ ?_
    have hq := hR.q.1
    have h6 := hM.nR
    have h4 := hM.nIf hr
    have h10 := hM.nL
    have k26 := (hq.rt hr).1.1
    have o9 : okO s 9 (G 1 r) := okr k26 9
    have p180 := (hq.ty.p k26 180 30).1
    rw [(hq.rt hr).1.2.2] at p180
    have p237 := hq.ty.p hq.1.1 237 29
    have hfa : bit (nI f) := by
      rcases hf with rfl | rfl
      · exact Or.inl rfl
      · exact Or.inr rfl
    obtain ⟨mt, emt, hm84, hm576⟩ := (hM.2.1 l hlL).2.2.1
    rw [show (t.I 21 l).toNatClampNeg = mt by rw [emt, nI_clamp (by omega)]] at hNr
    obtain ⟨hN1, hN25⟩ := roN_b (V := mcV t (4 * r + p)) (f := f) (ky := ky) hm84
    rw [← hNr] at hN1 hN25
    unfold C_Rr_sendTold_s3
    refine ⟨_, gd_to o9, x, p180, _, gd_to hq.ox, _, p237.1, _, gd_to (okr p237.2 10), ?_⟩
    rw [show s.I (20 * 10 + 1) (H 237 x) = nI L.length from hT.1.1]
    by_cases ca : a < L.length
    rotate_left
    · have ea : a = L.length := by omega
      refine ifF (nI_nlt (by omega) (by omega)) (k t ?_ hM mfr.rf SB.rf SD.rf G H s kc ks hR (fun _ _ _ => rfl) hA.rf fr.rf (HO.rf rfl) (Nat.le_refl _) (Nat.le_refl _))
      rw [ea]
      exact m_tt_end hE (by omega)
    refine ifT (nI_lt ca (by omega)) ⟨o9, ?_⟩
    -- the model's datagram
    obtain ⟨te, ⟨me, be⟩, eM⟩ := m_chunk (ta := ta) (th := th) (tl := tl) (q := nI (4 * r + p)) (N := N) hM hE (by omega) hfa hok hN1 hN25 ca
    generalize hm : min N (L.length - a) = m at be eM
    have hm1 : 1 ≤ m ∧ m ≤ N ∧ a + m ≤ L.length := by omega
    have hEl : (EBn (nI f) L a m).length = 20 * m := EB_l (by omega)
    have hMe : MV te := hM.fr me rfl (hM.1.fr me rfl)
    have Re : RR G H sa x s te := rr_fr hR hM hq.1 (fr.rf (Rv := []) (Gp := []) (Rq := [])) me rfl rfl rfl rfl rfl rfl rfl
    have hre : r < cR te := by unfold cR; rw [me.S 37 (by decide)]; exact hr
    have hpe : p < cI te r := by unfold cI; rw [me.I 70 (by decide)]; exact hp
    have hle : l < cL te := by unfold cL; rw [me.S 17 (by decide)]; exact hlL
    have h71e : te.I 71 (4 * r + p) = nI l := by rw [me.I 71 (by decide)]; exact h71
    have u0e : te.I 22 l ≠ 0 := by rw [me.I 22 (by decide)]; exact u0
    have h75e : te.I 75 (2 * (4 * r + p) + f) ≠ 0 := by rw [me.I 75 (by decide)]; exact h75
    have hVe : mcV te (4 * r + p) = mcV t (4 * r + p) := by
      unfold mcV
      rw [me.I 79 (by decide), me.I 80 (by decide), me.I 81 (by decide), me.I 82 (by decide), me.I 83 (by decide), me.I 84 (by decide), me.I 85 (by decide), me.I 86 (by decide), me.I 87 (by decide), me.I 88 (by decide)]
    have hX := px_of Re hMe hre hpe
    rw [show (te.I 71 (4 * r + p)).toNatClampNeg = l by rw [h71e, nI_clamp (by omega)], hVe] at hX
    generalize hV : mcV t (4 * r + p) = V at *
    generalize hD : G 11 999 = D at hX
    generalize hb : H 40 D = b at hX
    generalize hcc : H 86 (G 2 (4 * r + p)) = c at hX
    have hX0 := hX
    obtain ⟨⟨x1, x2, x3, x4, x5, x6, x7, x8, x9⟩, ⟨y1, y2, y3, y4, y5, y6, y7, y8⟩, ⟨z1, z2, z3, z4, z5, z6⟩, -⟩ := hX
    have hse : ¬ te.I 23 l + 1 < 0 := by
      obtain ⟨d, e, hd⟩ := hs
      rw [me.I 23 (by decide), e, nI_1]
      exact nI_pos (by omega)
    have hEe : ∀ i, i < (EBn (nI f) L a m).length → te.I 146 i = (EBn (nI f) L a m).getD i 0 := fun i hi => be i (by omega)
    obtain ⟨t2, g1, hM2, m2, sb2, sd2⟩ := m_send2 (ta := ta) (th := th) (tl := tl) (m := m) hMe hre hpe hf hle h71e z4 z6 hEl (by omega) (fun _ => by omega) hEe (tgh_b hTG) hse
    rw [g1] at eM
    have eM : M_tellTo_b14 t (nI (4 * r + p)) (nI f) ta th tl (nI N) 0 (nI a) = M_tellTo_b14 t2 (nI (4 * r + p)) (nI f) ta th tl (nI N) 0 (nI (a + m)) := eM
    have mt2 : mfr Wtt t t2 := (me.wk (by decide)).tr (m2.wk (by decide))
    obtain ⟨hdz, hop⟩ := hop
    refine c_open Re hMe hre hpe hX0 hVe.symm hf (by decide) (fun z => ?_) fun ky' hd s1 _ _ ho hR1 f1 b1 i44 eP o01 => ?_
    · exfalso
      rw [me.S 1 (by decide), me.I 89 (by decide), hop] at z
      rcases z with z | z | z
      · exact u0e z
      · exact h75e z
      · cases z
    have ek : ky' = ky := by
      rw [me.S 1 (by decide), me.I 89 (by decide), hop] at ho
      cases ho
      rfl
    subst ek
    have hk4 : ∀ kx, ky' = some kx → kx < 4 := fun kx e => Nat.lt_of_lt_of_le ((op_wr (E := []) z4 ho).2 kx e).1 z4.2.1
    have hd24 : hd.length ≤ 24 := by
      obtain ⟨w0, w1⟩ := op_wr (E := []) z4 ho
      cases ek2 : ky' with
      | none => exact (w0 ek2).2.2
      | some kx => rw [(w1 kx ek2).2.1]; exact Nat.le_refl 24
    refine ifF (ixO_2 fun kx e => Nat.lt_trans (hk4 kx e) (by decide)) ?_
    -- told and the interface, still
    have ok1 : ∀ {u' a' : Nat}, okO s u' a' → okO s1 u' a' := fun h => by have n := okO.n0 h; unfold okO at h ⊢; rw [(f1 _ n).1]; exact h
    have v29 := (f1.v p237.2 (by decide)).1
    refine ⟨_, gd_to (ok1 x1), x, by rw [eP]; exact x2, _, gd_to (ok1 x3), _, (show s1.P 237 x = _ by rw [eP]; exact p237.1), _, gd_to (ok1 (okr p237.2 10)), _, rfl, ok1 y1, ?_⟩
    rw [show s1.I (20 * 10 + 1) (H 237 x) = nI L.length by show s1.I 201 _ = _; rw [v29]; exact hT.1.1]
    generalize ht1 : (if ky' = none then te else moSI te 89 (4 * r + p) (te.I 89 (4 * r + p) + 1)) = t1 at hR1
    have m1 : mfr [89] te t1 := by
      rw [← ht1]
      split
      · exact mfr.rf
      · exact mfr.si (by decide)
    have hM1 : MV t1 := by
      rw [← ht1]
      split
      · exact hMe
      · exact (rr_num Re hMe hre hpe).2.1
    have hr1 : r < cR t1 := by unfold cR; rw [m1.S 37 (by decide)]; exact hre
    have hp1 : p < cI t1 r := by unfold cI; rw [m1.I 70 (by decide)]; exact hpe
    have hl1 : l < cL t1 := by unfold cL; rw [m1.S 17 (by decide)]; exact hle
    have hX1 := px_of hR1 hM1 hr1 hp1
    have hV1 : mcV t1 (4 * r + p) = V := by
      rw [← hVe]
      unfold mcV
      rw [m1.I 79 (by decide), m1.I 80 (by decide), m1.I 81 (by decide), m1.I 82 (by decide), m1.I 83 (by decide), m1.I 84 (by decide), m1.I 85 (by decide), m1.I 86 (by decide), m1.I 87 (by decide), m1.I 88 (by decide)]
    rw [show (t1.I 71 (4 * r + p)).toNatClampNeg = l by rw [m1.I 71 (by decide), h71e, nI_clamp (by omega)], hV1] at hX1
    have e63 : s1.I 63 (G 0 l) = nI mt := by
      rw [(hR1.q.1.link hl1).2.2.1.2.2.1, m1.I 21 (by decide), me.I 21 (by decide)]
      exact emt
    refine w_room (cmd := 2) (nn := te.I 89 (4 * r + p)) hR1.q.1.1 hX1 hf e63 hm84 hm576 (hd := hd) (ky := ky') (by rw [m1.S 1 (by decide)]; exact ho) ?_
    rw [← hNr]
    have emn : mnI (nI L.length) (nI a + nI N) = nI (a + m) := by
      unfold mnI
      rw [nI_add]
      by_cases c1 : a + N < L.length
      · rw [if_pos (nI_lt c1 (by omega))]; congr 1; omega
      · rw [if_neg (nI_nlt (by omega) (by omega))]; congr 1; omega
    rw [emn]
    obtain ⟨d, h1⟩ := b1.fw
    -- the end of the datagram
    have fin : ∀ s3, FW b d s1 (hd ++ EBn (nI f) L a m) s3 → (if ixO 0 ky' = ((-1) : Int32) then ((C_Rr_sendTold_b138 sa (G 1 r) (some (G 2 (4 * r + p))) (fam (nI f)) p2 (nI (a + m)) s3 kc ks Q P3)) else (ob (some (G 2 (4 * r + p))) (fun b1 => (ob (gP s3 4 6 b1) (fun v2 => (ob (gP s3 9 0 (G 1 r)) (fun v3 => (ob v3 (fun b4 => (ob (gP s3 11 16 b4) (fun v5 => (ob v5 (fun b6 => (ob (gP s3 2 0 b6) (fun v7 => (ob v2 (fun b8 => (okO s3 1 b8 ∧ C_Ch_seal sa b8 v7 (ixO 0 ky') s3 kc ks (fun sr9 cr9 dr9 => ((C_Rr_sendTold_b138 sa (G 1 r) (some b1) (fam (nI f)) p2 (nI (a + m)) sr9 cr9 dr9 Q P3))))))))))))))))))))) := by
      intro s3 h3
      obtain ⟨w1, w2⟩ := pot_p (G := G) (H := H) (s := s) hMe hre hpe hle
      have ec := pot_t (G := G) (H := H) (s := s) me rfl
      rw [hcc] at w1 w2
      obtain ⟨s0, sk⟩ := sd_end (kc := kc) (ks := ks) (Q := fun s' kc' ks' => P3 (nI (a + m)) s' kc' ks') Re hMe hre hpe hf (by decide) hX0 (by rw [h71e, nI_clamp (by omega)]) (by rw [hVe]) hEl (by omega) (fun _ => by omega) hEe u0e h75e ho (by rw [ht1]; exact hR1) f1 i44 eP o01 h3 (by rw [← hD]; exact tgh_0 hTG) hse (Nat.le_trans (Nat.le_trans (ar_50 w1) (Nat.le_of_eq ec.1)) hkc) (Nat.le_trans (Nat.le_trans (ar_5 w2) (Nat.le_of_eq ec.2)) hks) g1 (by
        intro G3 H3 s4 kc3 ks3 R3 d1 d2 d3 d4 d5 d6 d7 o3
        obtain ⟨u1, u2⟩ := pot_ask (kc := kc) (kc' := kc3) (ks := ks) (ks' := ks3) Re hMe hre hpe hle hcc.symm m2 d1 d2 d3 d4 d5 d6 d7
        rw [ec.1] at u1
        rw [ec.2] at u2
        have o3' : HO G H s t G3 s4 t2 := HO.pre (fun _ _ _ => hdF.rf) (by unfold cF; rw [me.S 123 (by decide)]) (fun _ h => h) o3
        have e1 : G3 1 = G 1 := d1 1 (by decide) (by decide)
        have e2 : G3 2 = G 2 := d1 2 (by decide) (by decide)
        have hT3 := (tdc_fr (sa := sa) hT hq.1 (d1 15 (by decide) (by decide)) (d1 16 (by decide) (by decide)) d2 d3 rfl (by decide) (by decide)).1
        have hV2 : mcV t2 (4 * r + p) = V := by
          rw [← hVe]
          unfold mcV
          rw [m2.I 79 (by decide), m2.I 80 (by decide), m2.I 81 (by decide), m2.I 82 (by decide), m2.I 83 (by decide), m2.I 84 (by decide), m2.I 85 (by decide), m2.I 86 (by decide), m2.I 87 (by decide), m2.I 88 (by decide)]
        have hc' := hc
        rw [← e1, ← e2] at hc'
        refine ih (y - m) (by omega) (a + m) (by omega) G3 H3 s4 t2 kc3 ks3 R3 hM2 (by unfold cR; rw [mt2.S 37 (by decide)]; exact hr) (by unfold cI; rw [mt2.I 70 (by decide)]; exact hp) (by unfold cL; rw [mt2.S 17 (by decide)]; exact hlL) (by rw [mt2.I 71 (by decide)]; exact h71) (by rw [mt2.I 22 (by decide)]; exact u0) (by rw [mt2.I 75 (by decide)]; exact h75) ?_ ?_ hT3 (hE.fr mt2 rfl) (tgh_fr hTG hq.ty d2 d3 o3') ?_ (ar_7 u1 hkc) (ar_7 u2 hks) Q (fun t' q1 q2 q3 q4 q5 => ?_) P3 hc'
        · rw [hV2, mt2.S 1 (by decide)]
          exact op_nn hop
        · rw [hV2, mt2.I 21 (by decide), show (t.I 21 l).toNatClampNeg = mt by rw [emt, nI_clamp (by omega)]]
          exact hNr
        · obtain ⟨dd, e, hd⟩ := hs
          obtain ⟨-, d', hd', e'⟩ := sb2
          refine ⟨dd + d', ?_, by omega⟩
          rw [e', me.I 23 (by decide), e, nI_add]
        · have sb : SB l y t t' := (((SB.fr (l := l) (n := 0) me (by decide)).tr sb2).tr q4).wk (by omega)
          exact (k t' (eM.trans q1) q2 (mt2.tr q3) sb (((SD.fr me rfl).tr sd2).tr q5)).tr d1 d2 d3 o3' u1 u2)
      cases ek2 : ky' with
      | none =>
        refine ifT rfl ?_
        unfold C_Rr_sendTold_b138
        exact s0 ek2
      | some kx =>
        have hkx := hk4 kx ek2
        obtain ⟨s2, s3'⟩ := sk kx ek2
        have P3' : s3.P = s1.P := h3.1.2.1
        refine ifF (ixO_n (by omega)) ⟨_, rfl, _, gd_to (h3.ok (ok1 y1)), _, gd_to (h3.ok (ok1 x1)), x, by show s3.P 180 _ = _; rw [P3', eP]; exact x2, _, gd_to (h3.ok (ok1 x3)), D, by show s3.P 236 _ = _; rw [P3', eP]; exact x4, _, gd_to (h3.ok (ok1 x5)), c, by show s3.P 86 _ = _; rw [P3', eP]; exact z1, s2, ?_⟩
        rw [show s3.P (20 * 2 + 0) D = some b by show s3.P 40 D = _; rw [P3', eP]; exact x6, show ixO 0 (some kx) = nI kx by show nI (0 + kx) = _; rw [Nat.zero_add]]
        unfold C_Rr_sendTold_b138
        exact s3' _ fun _ _ _ _ hh => hh
    -- entries
    unfold C_Rr_sendTold_b60
    intro P60 h60
    have loop : ∀ w j, j + w = m → ∀ s3, FW b d s1 (hd ++ EBn (nI f) L a j) s3 → P60 (nI (a + j)) s3 kc ks := by
      intro w
      induction w with
      | zero =>
        intro j hj s3 h3
        have hj : j = m := by omega
        subst hj
        apply h60
        unfold C_Rr_sendTold_s60
        exact ifF (nI_nlt (by omega) (by omega)) (fin s3 h3)
      | succ w ihw =>
        intro j hj s3 h3
        obtain ⟨e, he⟩ : ∃ e, L[a + j]? = some e := ⟨L[a + j], List.getElem?_eq_getElem (by omega)⟩
        obtain ⟨w0, cap0, r1, r2, r3, r4, r5, r6, r7, r8⟩ := td_row hq hT he
        obtain ⟨pf, i164, i165⟩ := hT.2 (a + j) e he
        have P3' : s3.P = s1.P := h3.1.2.1
        have K3 : ∀ a', (s.K a').1 ≠ 0 → s3.K a' = s.K a' := fun a' ha' => by rw [h3.1.1, (f1 a' ha').1]
        have Q3 : s3.Q w0 = s.Q w0 := by rw [h3.1.2.2.1, f1.q (a := w0) (u := 144) (by rw [r2]) (by decide)]
        have k33 := (hq.ty.p r6 160 33).2
        have v25 := (f1.v r6 (by decide)).1
        apply h60
        unfold C_Rr_sendTold_s60
        refine ifT (nI_lt (by omega) (by omega)) ⟨_, gd_to (h3.ok (ok1 x1)), x, by show s3.P 180 _ = _; rw [P3', eP]; exact x2, _, gd_to (h3.ok (ok1 x3)), _, (show s3.P 237 x = _ by rw [P3', eP]; exact p237.1), _, gd_to (h3.ok (ok1 (okr p237.2 10))), w0, by show s3.P 200 _ = _; rw [P3', eP]; exact r1, _, rd_Q (by rw [K3 w0 (by rw [r2]; exact (by decide : (144 : Nat) ≠ 0))]; exact r2) (by decide) r3 r4 ((congrFun Q3 _).trans r5), ?_⟩
        refine ⟨_, gd_to (h3.ok (ok1 x1)), x, by show s3.P 180 _ = _; rw [P3', eP]; exact x2, _, gd_to (h3.ok (ok1 x3)), _, rfl, _, gd_to (h3.ok (ok1 (okr r6 8))), _, gd_to (h3.ok (ok1 (okr r6 8))), _, gd_to (h3.ok (ok1 (okr r6 8))), D, by show s3.P 236 _ = _; rw [P3', eP]; exact x4, h3.ok (ok1 x5), ?_⟩
        rw [show s3.P (20 * 8 + 0) (G 16 (a + j)) = some (H 160 (G 16 (a + j))) by show s3.P 160 _ = _; rw [P3', eP]; exact r7, show s3.I (20 * 8 + 5) (G 16 (a + j)) = e.2.2.2.2 by show s3.I 165 _ = _; rw [h3.2.1 165 _ (fun z => absurd z.1 (by decide)), v25]; exact i165, show s3.I (20 * 8 + 4) (G 16 (a + j)) = e.2.2.2.1 by show s3.I 164 _ = _; rw [h3.2.1 164 _ (fun z => absurd z.1 (by decide)), v25]; exact i164]
        refine c_adE h3 hfa (by rw [eP]; exact x6) (ok1 x5) i44 (pf.fr f1 k33 (by decide)) (ok1 r8) ?_ fun s4 h4 => ?_
        · rw [List.length_append, EB_l (by omega)]
          omega
        · rw [nI_1, show a + j + 1 = a + (j + 1) by omega]
          refine ihw (j + 1) (by omega) s4 ?_
          rw [EB_s he, ← List.append_assoc]
          exact h4
    refine loop m 0 (by omega) s1 ?_
    rw [show EBn (nI f) L a 0 = [] by unfold EBn; rw [List.take_zero]; rfl, List.append_nil]
    exact h1
end Tt
