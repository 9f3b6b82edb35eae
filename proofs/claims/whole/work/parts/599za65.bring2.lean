/-! What is due is brought: the loop. -/
section Bl
variable {G H : Nat → Nat → Nat} {sa : Nat → Nat} {x a : Nat} {s : cS} {t : moS} {E : List (Int32 × Int64)} {Os : Nat → List Pf} {Q : cS → Nat → Nat → Prop}
/-- the model takes one off and hands it round -/
theorem m_arrv (hM : MV t) (ha : a < cF t) : ∃ tin t1, mfr [149, 150] t tin ∧ ofT a tin t1 ∧ mfr [123, 124, 125, 149, 150] t t1 ∧ IN t1 (tl (fun j => t.I 138 (700 * pl t a + j)) (t.I 137 (pl t a)).toNatClampNeg) ∧ M_arrive t (nI a) = M_arrive_b154 t1 (t.I 126 (pl t a)) (t.I 131 (pl t a)) (t.I 127 (pl t a)) (t.I 128 (pl t a)) (t.J 129 (pl t a)) (t.J 130 (pl t a)) (t.J 132 (pl t a)) (t.J 133 (pl t a)) (t.I 134 (pl t a)) (t.I 135 (pl t a)) 0 := by
  obtain ⟨mf1, mf2, mf3, mf4, mf5, mf6⟩ := hM.2.2.2.2.1
  have h2 : cF t ≤ 256 := mf1.n.2.2
  obtain ⟨p, ep, -, hp⟩ := (mf3 a ha).1
  have epl : pl t a = p := by unfold pl; rw [ep, nI_clamp (by omega)]
  obtain ⟨sz, esz, -, hsz⟩ : rng (t.I 137 (pl t a)) 0 600 := (mf6 a ha).2.2.2.1
  rw [epl] at esz ⊢
  have ecl : (t.I 137 p).toNatClampNeg = sz := by rw [esz, nI_clamp (by omega)]
  rw [ecl]
  have hN := hM.1.1
  have r : ∀ k, (k ∉ mG ∧ moN0 k = 256) → rdI t k (nI p) = some (t.I k p) := fun k hk => rdI_n (n := 256) (hN.n k 256 hk) (by omega) (by decide)
  have rj : ∀ k, (k ∉ mG ∧ moN0 k = 256) → rdJ t k (nI p) = some (t.J k p) := fun k hk => rdJ_n (n := 256) (hN.n k 256 hk) (by omega) (by decide)
  have r124 : rdI t 124 (nI a) = some (nI p) := by rw [rdI_n (n := 256) (hN.n 124 256) (by omega) (by decide), ep]
  have m0 : mfr [150] t (moSS t 150 (nI sz)) := mfr.ss (by decide)
  obtain ⟨tin, i1, i2, i3⟩ := m_in (p1 := nI a) (a3 := t.I 126 p) (a4 := t.I 131 p) (a5 := t.I 127 p) (a6 := t.I 128 p) (a7 := t.J 129 p) (a9 := t.J 130 p) (a11 := t.J 132 p) (a13 := t.J 133 p) (a15 := t.I 134 p) (a16 := t.I 135 p) (n := sz) (p := p) (N := 179200) 700 0 (moSS t 150 (nI sz)) rfl (hN.n 149 700) (hN.n 138 179200) (by omega) (by decide) moSS_s (by omega) (fun j hj => absurd hj (Nat.not_lt_zero j))
  have mi : mfr [149, 150] t tin := (m0.wk (by decide)).tr (i1.wk (by decide))
  have Mi : MV tin := hM.fr mi rfl (hM.1.fr mi rfl)
  have eFi : cF tin = cF t := by unfold cF; rw [mi.S 123 (by decide)]
  obtain ⟨t1, o1, o2⟩ := m_off (j := a) Mi (by rw [eFi]; exact ha)
  refine ⟨tin, t1, mi, o2, (mi.wk (by decide)).tr (o2.1.wk (by decide)), ⟨?_, fun j hj => ?_⟩, ?_⟩
  · rw [o2.1.S 150 (by decide), i1.S 150 (by decide), tl_len]
    exact moSS_s
  · rw [o2.1.I 149 (by decide), i2 j hj]
    show (if j < sz then t.I 138 (700 * p + j) else 0) = _
    by_cases c : j < sz
    · rw [if_pos c, tl_get c]
    · rw [if_neg c, List.getD_eq_getElem?_getD, List.getElem?_eq_none (by rw [tl_len]; omega)]
      rfl
  · unfold M_arrive
    rw [r124]
    simp only [Option.bind_some]
    rw [r 126 (by decide +kernel), r 131 (by decide +kernel), r 127 (by decide +kernel), r 128 (by decide +kernel), rj 129 (by decide +kernel), rj 130 (by decide +kernel), rj 132 (by decide +kernel), rj 133 (by decide +kernel), r 134 (by decide +kernel), r 135 (by decide +kernel), r 137 (by decide +kernel)]
    simp only [Option.bind_some]
    unfold letS
    rw [esz]
    refine Eq.trans i3 ?_
    rw [o1]
    rfl
theorem br_loop (hO : ∀ r, (Os r).length ≤ 760) (hE6 : E.length ≤ 600) {al : Nat} (hal : al ≤ 256) : ∀ (w n a : Nat) (G H : Nat → Nat → Nat) (s : cS) (t : moS) (kc ks : Nat), n + w = al → a + w ≤ cF t → (∀ i, a + w ≤ i → i < cF t → t.S 1 < t.I 136 (pl t i)) → RR G H sa x s t → MV t → AGs t → EX Os t → SRC E t → (∀ j, j < 10 → ∃ d, t.I 23 j = nI d ∧ d + 5310 * rqN t + 5310 < 2 ^ 31) → RcC s G H t + 5 ≤ kc → RcS s G H x t + 622 ≤ ks → (∀ t', M_tick_b12 t (nI a) = M_tick_b54 t' 0 → MV t' → AGs t' → EX Os t' → SRC E t' → mfr Wbd t t' → SQr t t' → BdK sa x G H s t kc ks t' Q) → C_Rf_bringDue_b9 sa x (nI al) (nI a) (nI n) s kc ks Q
  | 0, n, a, G, H, s, t, kc, ks, hn, ha, hl, hR, hM, hAg, hE, hS, hs, hkc, hks, k => by
    intro P9 hc
    refine hc _ _ _ _ _ ?_
    unfold C_Rf_bringDue_s9
    refine ifF (nI_nlt (by omega) (by omega)) ?_
    exact k t (m_rest hM (cF t - a) a (by omega) fun i h1 h2 => hl i (by omega) h2) hM hAg hE hS mfr.rf SQr.rf G H s kc ks hR ⟨rfl, rfl, rfl⟩ hA.rf fr.rf (Nat.le_refl _) (Nat.le_refl _)
  | w + 1, n, a, G, H, s, t, kc, ks, hn, ha, hl, hR, hM, hAg, hE, hS, hs, hkc, hks, k => by
    intro P9 hc
    refine hc _ _ _ _ _ ?_
    have hac : a < cF t := by omega
    have hq := hR.q.1
    have hT := hq.ty
    have hx := hq.1.1
    have h6 := hM.nR
    have h10 := hM.nL
    obtain ⟨mf1, mf2, mf3, mf4, mf5, mf6⟩ := hM.2.2.2.2.1
    have h2 : cF t ≤ 256 := mf1.n.2.2
    have e123 : t.S 123 = nI (cF t) := mf1.n.1
    obtain ⟨p, ep, -, hp⟩ := (mf3 a hac).1
    have epl : pl t a = p := by unfold pl; rw [ep, nI_clamp (by omega)]
    have p232 := hT.r hx 232 133 256
    obtain ⟨⟨a1, a2, a3⟩, b1, b2, b3, b4, b5, b6, b7, b8⟩ := hq.2.2.2.2.2.2
    obtain ⟨g1, kA, g3⟩ := b1 a hac
    have i225 : s.I 225 x = t.S 1 := hq.2.2.1.2.1
    have i49 : s.I 49 (G 11 a) = t.I 136 (pl t a) := g3.2.2.1.2.2.2.2
    unfold C_Rf_bringDue_s9
    refine ifT (nI_lt (by omega) (by omega)) ⟨_, gd_to (okr hx 11), _, p232.1, some (G 11 a), rd_Q p232.2 (by decide) (by omega) (by decide) g1, G 11 a, rfl, _, gd_to (okr kA 2), _, gd_to (okr hx 11), ?_⟩
    rw [show s.I (20 * 2 + 9) (G 11 a) = t.I 136 (pl t a) from i49, show s.I (20 * 11 + 5) x = t.S 1 from i225]
    have rd1 : rdI t 124 (nI a) = some (nI p) := by rw [rdI_n (n := 256) (hM.n.n 124 256) (by omega) (by decide), ep]
    have rd2 : rdI t 136 (nI p) = some (t.I 136 p) := rdI_n (n := 256) (hM.n.n 136 256) (by omega) (by decide)
    by_cases c : t.S 1 < t.I 136 (pl t a)
    · -- later
      refine ifT c ?_
      unfold C_Rf_bringDue_b183
      rw [nI_1, nI_1]
      have st : M_tick_s12 t (nI a) = some (.inl (nI (a + 1), t)) := by
        unfold M_tick_s12
        rw [e123, if_pos (nI_lt hac (by omega)), rd1]
        simp only [Option.bind_some]
        rw [rd2]
        simp only [Option.bind_some]
        rw [epl] at c
        rw [if_pos c, nI_1]
      refine br_loop hO hE6 hal w (n + 1) (a + 1) G H s t kc ks (by omega) (by omega) (fun i h1 h2 => hl i (by omega) h2) hR hM hAg hE hS hs hkc hks (fun t' y1 y2 y3 y4 y5 y6 y7 => k t' (Eq.trans ?_ y1) y2 y3 y4 y5 y6 y7) P9 hc
      unfold M_tick_b12
      exact lp_l (f := fun x : Int32 × moS => M_tick_s12 x.2 x.1) st
    -- due
    refine ifF c ⟨okr hx 11, c_tkout hR hM hac fun s1 eK eP eE eJ eI eQ i233 hq1 => ?_⟩
    obtain ⟨tin, t1, mi, o2, m1, I1, eM⟩ := m_arrv hM hac
    have Mi : MV tin := hM.fr mi rfl (hM.1.fr mi rfl)
    have Ri : RR G H sa x s tin := rr_fr hR hM hq.1 (fr.rf (Rv := []) (Gp := []) (Rq := [])) mi rfl rfl rfl rfl rfl rfl rfl
    have eFi : cF tin = cF t := by unfold cF; rw [mi.S 123 (by decide)]
    obtain ⟨R1, M1⟩ := rr_out (s' := s1) Ri Mi (by rw [eFi]; exact hac) o2 eK eP eE eJ eI eQ (by rw [eFi]; exact i233) (fun i hi => hq1 i (by rw [eFi] at hi; exact hi))
    have eF1 : cF t1 = cF t - 1 := by unfold cF; rw [o2.2.1, eFi, nI_clamp (by omega)]
    have f1 : fr [30] [] [133] s s1 := fun b _ => ⟨by rw [eK], fun hv => ⟨fun g => eI g b (fun z => hv (by rw [z.2, hx]; decide)), fun g => by rw [eJ], by rw [eE]⟩, fun g _ => by rw [eP], fun hv => eQ b (fun z => hv (by rw [z, p232.2]; decide))⟩
    have A1 : AGs t1 := hAg.m m1 (by decide)
    have E1 : EX Os t1 := hE.of hM M1 (by unfold cR; rw [m1.S 37 (by decide)]) (fun _ _ => sEq.m m1 rfl) (fun _ _ z => by rw [m1.I 39 (by decide)] at z; exact z)
    have S1 : SRC E t1 := hS.fr m1 rfl
    -- the datagram
    obtain ⟨⟨lk, elk, hlk⟩, bta, bf, ⟨sz, esz, -, hsz⟩, hfm⟩ := mf6 a hac
    have g3 : RDg G H s t (G 11 a) (pl t a) := g3
    have elk : t.I 126 (pl t a) = nI lk := elk
    have bta : bit (t.I 128 (pl t a)) := bta
    have bf : bit (t.I 131 (pl t a)) := bf
    obtain ⟨f, hf, ef⟩ : ∃ f : Nat, (f = 0 ∨ f = 1) ∧ t.I 131 (pl t a) = nI f := by
      rcases bf with z | z
      · exact ⟨0, Or.inl rfl, z⟩
      · exact ⟨1, Or.inr rfl, z⟩
    have sI := hS.2.2.2.2.1 (pl t a)
    generalize hL : tl (fun j => t.I 138 (700 * pl t a + j)) (t.I 137 (pl t a)).toNatClampNeg = L at I1
    have hLq : L.getD 0 0 = 1 → t.I 138 (700 * pl t a) = 1 := fun z => by
      rw [← hL] at z
      by_cases c0 : 0 < (t.I 137 (pl t a)).toNatClampNeg
      · rw [tl_get c0] at z; exact z
      · rw [List.getD_eq_getElem?_getD, List.getElem?_eq_none (by rw [tl_len]; omega)] at z
        exact absurd z (by decide)
    have rqo := rq_off Mi (by rw [eFi]; exact hac) o2 (by rw [o2.1.I 138 (by decide)])
    have rqi : rqN tin = rqN t := by
      unfold rqN
      rw [eFi]
      exact rqC_le fun i _ => by unfold pl; rw [mi.I 138 (by decide), mi.I 124 (by decide)]
    rw [rqi, show tin.I 138 (700 * pl tin a) = t.I 138 (700 * pl t a) by unfold pl; rw [mi.I 138 (by decide), mi.I 124 (by decide)]] at rqo
    have D0 : HD G H s (G 11 a) L f (t.J 132 (pl t a)) (t.J 133 (pl t a)) (t.I 134 (pl t a)) (t.I 135 (pl t a)) lk (t.I 127 (pl t a)) (t.I 128 (pl t a)) (t.J 129 (pl t a)) (t.J 130 (pl t a)) := by
      obtain ⟨d1, d2, ⟨d3, d4, d5, d6, d7⟩, d8, d9, d10⟩ := g3
      rw [hL] at d1
      rw [ef] at d2 d4 d8
      rw [elk, nI_clamp (by omega)] at d10
      refine ⟨⟨kA, d1, ?_, ⟨d4, d5, d6⟩, hf⟩, d9, d10, d3, d8⟩
      rcases hf with rfl | rfl
      · exact d2
      · exact d2
    have hB := fun j => vc_nI D0.1.2.1 j
    have D1 : HD (oG G a) H s1 (G 11 a) L f (t.J 132 (pl t a)) (t.J 133 (pl t a)) (t.I 134 (pl t a)) (t.I 135 (pl t a)) lk (t.I 127 (pl t a)) (t.I 128 (pl t a)) (t.J 129 (pl t a)) (t.J 130 (pl t a)) := D0.hx (hdX.of (hdF.fr f1 hT kA rfl (nin6 rfl) (by decide))) (by rw [eK]; exact kA) (oG_o (by decide)) (oG_o (by decide)) hA.rf
    have T1 : HT t1 E f (t.J 132 (pl t a)) lk (t.I 127 (pl t a)) (t.I 128 (pl t a)) := by
      refine HT.fr (t := t) ⟨hlk, ?_, bta, fun z => ?_⟩ m1 rfl
      · rcases hfm with z | ⟨r, q, z1, z2, z3, z4⟩
        · exact Or.inl z
        · exact Or.inr ⟨r, q, z1, z2, z3, z4.trans elk⟩
      · rw [← elk]
        exact sI (by rw [ef, z]; rfl)
    have F1 : hFr (oG G a) t1 (G 11 a) := by
      have sk := fun (i : Nat) (hi : i < cF t - 1) => show skI a i < cF t by unfold skI; split <;> omega
      refine ⟨by rw [oG_d]; exact b7 a hac, fun i hi => ?_, fun i hi => ?_, ?_⟩
      · rw [eF1] at hi
        rw [oG_11 (by omega)]
        intro z
        have := b4 _ _ (sk i hi) hac z
        unfold skI at this
        split at this <;> omega
      · rw [oG_o (by decide)] at hi
        rw [oG_o (by decide)]
        exact fun z => b6 a i hac hi z.symm
      · rw [eF1, oG_o (by decide)]; omega
    obtain ⟨po1, po2⟩ := pot_11 (G' := oG G a) (G := G) (H := H) (x := x) (s := s) (s' := s1) eK eP (fun b h1 _ => oG_o h1) m1 rfl
    have dn1 : dN (oG G a) t1 = dN G t + 1 := by unfold dN; rw [eF1, oG_o (by decide)]; omega
    obtain ⟨d0, e230, hd0⟩ := hs lk (by omega)
    have cR6 : cR t1 ≤ 6 := M1.nR
    have eR1 : cR t1 = cR t := by unfold cR; rw [m1.S 37 (by decide)]
    refine ar_rts (lk := lk) (f := f) (L := L) (A := G 11 a) hO hE6 hB (cR t1) 0 (oG G a) H s1 t1 kc ks (by omega) R1 M1 A1 E1 S1 D1 T1 F1 I1 ⟨d0, by rw [m1.I 23 (by decide)]; exact e230, ?_⟩ (ar_b3 po1 dn1 hkc) (ar_b4 po2 dn1 hks) fun t2 y1 y2 y3 y4 y5 y6 y7 y8 => ?_
    · have : cR t1 * 885 ≤ 6 * 885 := Nat.mul_le_mul_right 885 cR6
      omega
    intro G2 H2 s2 kc2 ks2 R2 u2 h2' f2 o2' F2 c1 c2
    have kA2 : (s2.K (G 11 a)).1 = 6 := f2.r (by rw [eK]; exact kA)
    have hx2 : (s2.K x).1 = 30 := R2.q.1.1.1
    have p234 := R2.q.1.ty.r hx2 234 134 258
    have i235 : s2.I 235 x = nI (G2 12 999) := R2.q.1.2.2.2.2.2.2.1.2.1
    obtain ⟨R3, f3⟩ := rr_back (a := G 11 a) R2 y2 kA2 F2.2.1 F2.2.2.1 (fun z => F2.1 z.symm) (by have := F2.2.2.2; omega)
    unfold C_Rf_bringDue_b177
    refine ⟨okr hx2 11, c_gback (H := H2) (m := G2 12 999) hx2 p234 i235 (by have := F2.2.2.2; omega) kA2 ?_⟩
    unfold C_Rf_bringDue_b183
    rw [nI_1]
    obtain ⟨po3, po4⟩ := pot_11 (G' := bG G2 (G 11 a)) (G := G2) (H := H2) (x := x) (t := t2) (t' := t2) (s := s2) (s' := cSI (cSQ s2 (H2 234 x) (G2 12 999) (some (G 11 a))) 235 x (nI (G2 12 999 + 1))) rfl rfl (fun b _ h1 => bG_o h1) (mfr.rf (W := [])) rfl
    have b12 : bG G2 (G 11 a) 12 999 = G2 12 999 + 1 := by
      unfold bG
      have := F2.2.2.2
      rw [if_neg (by omega), if_pos ⟨rfl, rfl⟩]
    have dn2 : dN G2 t2 = dN (bG G2 (G 11 a)) t2 + 1 := by
      have := F2.2.2.2
      unfold dN
      rw [b12]
      omega
    have q1' := ar_b1 po1 dn1 c1 po3 dn2
    have q2' := ar_b2 po2 dn1 c2 po4 dn2
    generalize cSI (cSQ s2 (H2 234 x) (G2 12 999) (some (G 11 a))) 235 x (nI (G2 12 999 + 1)) = s3 at R3 f3 q1' q2' ⊢
    -- what was sent
    have sq : SQr t t2 := by
      intro j hj
      have rq2 := y8.rq
      by_cases cj : j = lk
      · subst cj
        obtain ⟨-, d', hd', e'⟩ := y7
        refine ⟨d', by rw [e', m1.I 23 (by decide)], ?_⟩
        have hb : d' ≤ 5310 * (if t.I 138 (700 * pl t a) = 1 then 1 else 0) := by
          by_cases cq : L.getD 0 0 = 1
          · rw [if_pos (hLq cq)]
            have : cR t1 * rq1 L ≤ 6 * 885 := Nat.mul_le_mul cR6 rq1_le
            omega
          · have : rq1 L = 0 := if_neg cq
            rw [this, Nat.mul_zero] at hd'
            omega
        generalize (if t.I 138 (700 * pl t a) = 1 then 1 else 0) = z at rqo hb
        omega
      · refine ⟨0, ?_, ?_⟩
        · rw [y7.1 j cj, m1.I 23 (by decide), show nI 0 = 0 from rfl, Int32.add_zero]
        · have : rqN t1 ≤ rqN t := by rw [rqo]; exact Nat.le_add_right _ _
          omega
    have m2 : mfr Wbd t t2 := (m1.wk (by decide)).tr (y6.wk (by decide))
    have st : M_tick_s12 t (nI a) = some (.inl (nI a, t2)) := by
      unfold M_tick_s12
      rw [e123, if_pos (nI_lt hac (by omega)), rd1]
      simp only [Option.bind_some]
      rw [rd2]
      simp only [Option.bind_some]
      rw [epl] at c
      rw [if_neg c, eM, elk, ef]
      refine (congrArg (fun y => Option.bind y (fun s3 => some (Sum.inl (nI a, s3)))) y1).trans rfl
    have S1e : t2.S 1 = t.S 1 := m2.S 1 (by decide)
    have g3' : (bG G2 (G 11 a)) 0 = G 0 ∧ (bG G2 (G 11 a)) 1 = G 1 ∧ (bG G2 (G 11 a)) 2 = G 2 := ⟨(bG_o (by decide)).trans (u2.1.trans (oG_o (by decide))), (bG_o (by decide)).trans (u2.2.1.trans (oG_o (by decide))), (bG_o (by decide)).trans (u2.2.2.trans (oG_o (by decide)))⟩
    have h3' : hA H H2 s := fun g b hb => h2' g b (by rw [eK]; exact hb)
    have f3' : fr Rrv Prv Qrv s s3 := f1.wk.tr (f2.tr f3.wk)
    refine br_loop hO hE6 hal w (n + 1) a (bG G2 (G 11 a)) H2 s3 t2 kc2 ks2 (by omega) ?_ (fun i h1 h2 => ?_) R3 y2 y3 y4 y5 (fun j hj => ?_) (ar_b5 q1' hkc) (ar_b5 q2' hks) (fun t' z1 z2 z3 z4 z5 z6 z7 => (k t' (Eq.trans ?_ z1) z2 z3 z4 z5 (m2.tr z6) (sq.tr z7)).tr g3' h3' f3' q1' q2') P9 hc
    · have := y8.2.1
      omega
    · -- what is newer comes later
      rw [S1e]
      by_cases ci : i < cF t1
      · obtain ⟨v1, v2, -⟩ := y8.2.2.1 i ci
        have e1 : t1.I 124 i = t.I 124 (i + 1) := by
          rw [o2.2.2.1 i (by rw [eFi, ← eF1]; exact ci)]
          unfold skI
          rw [if_neg (by omega), mi.I 124 (by decide)]
        have e2 : pl t2 i = pl t (i + 1) := by unfold pl; rw [v1, e1]
        have e3 : pl t1 i = pl t (i + 1) := by unfold pl; rw [e1]
        rw [e3, m1.I 136 (by decide)] at v2
        rw [e2, v2]
        exact hl (i + 1) (by omega) (by omega)
      · have := (y8.2.2.2 i (by omega) h2).1
        rw [m1.S 1 (by decide)] at this
        exact this
    · obtain ⟨d, e, hd⟩ := hs j hj
      obtain ⟨d', e', hd'⟩ := sq j hj
      exact ⟨d + d', by rw [e', e, nI_add], by omega⟩
    · unfold M_tick_b12
      exact lp_l (f := fun x : Int32 × moS => M_tick_s12 x.2 x.1) st
end Bl
