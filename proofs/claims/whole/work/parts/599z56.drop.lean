/-! The datagrams on a link that goes down are dropped: both sides. -/
/-- but for the row of what flies, and its count -/
def vEq (x w : Nat) (s v : cS) : Prop := v.K = s.K ∧ v.P = s.P ∧ v.J = s.J ∧ v.E = s.E ∧ (∀ g b, ¬ (g = 233 ∧ b = x) → v.I g b = s.I g b) ∧ ∀ b, b ≠ w → v.Q b = s.Q b
section Dp
variable {H : Nat → Nat → Nat} {sa : Nat → Nat} {x l n0 kc ks : Nat} {g0 : Nat → Nat}
theorem c_gback {s : cS} {d m : Nat} {Q : cS → Nat → Nat → Prop} (hx : (s.K x).1 = 30) (h234 : s.P 234 x = some (H 234 x) ∧ s.K (H 234 x) = (134, 258)) (i235 : s.I 235 x = nI m) (hm : m < 258) (hd : (s.K d).1 = 6) (k : Q (cSI (cSQ s (H 234 x) m (some d)) 235 x (nI (m + 1))) kc ks) : C_Rf_giveBack sa x (some d) s kc ks Q := by
  have o11 := okr hx 11
  unfold C_Rf_giveBack
  refine ⟨_, gd_to o11, _, gd_to o11, _, h234.1, _, gd_to ⟨by rw [h234.2]; decide, by rw [h234.2]; decide⟩, ?_⟩
  rw [show s.I (20 * 11 + 15) x = nI m from i235, h234.2]
  refine ifT (nI_lt (b := 258) hm (by decide)) ⟨_, gd_to o11, _, gd_to o11, _, h234.1, ?_⟩
  rw [show s.I (20 * 11 + 15) x = nI m from i235]
  refine ⟨_, gd_to ⟨⟨by rw [h234.2]; decide, by rw [h234.2]; decide, by rw [h234.2]; exact vp_in_nI hm (by decide)⟩, by rw [h234.2]; decide, fun b' hb' => by cases hb'; rw [h234.2]; exact okr hd 2⟩, ?_⟩
  rw [nI_clamp (by omega)]
  have o11' : okO (cSQ s (H 234 x) m (some d)) 11 x := o11
  refine ⟨_, gd_to o11', ?_⟩
  rw [show (cSQ s (H 234 x) m (some d)).I (20 * 11 + 15) x = nI m from i235]
  dsimp only
  rw [nI_1]
  exact ⟨_, gd_to o11', k⟩
theorem df_loop (hn0 : n0 ≤ 256) : ∀ (d a2 a3 : Nat) (G : Nat → Nat → Nat) (s v : cS) (t : moS), a3 + d = n0 → a2 ≤ a3 → cF t = a2 + d → RR G H sa x v t → MV t → vEq x (H 232 x) s v → s.I 233 x = nI n0 → (∀ i, i < a2 → s.Q (H 232 x) i = some (G 11 i)) → (∀ i, i < d → s.Q (H 232 x) (a3 + i) = some (G 11 (a2 + i))) → l < cL t → G 0 = g0 → ∀ Q : cS → Nat → Nat → Prop, (∀ t' G' s', M_link_b38 t (nI l) 0 (nI a2) = M_link_b79 t' (nI l) 0 → RR G' H sa x s' t' → MV t' → mfr [123, 124, 125] t t' → (∀ b, b ≠ 11 → b ≠ 12 → G' b = G b) → cF t' + G' 12 999 = cF t + G 12 999 → s'.K = s.K → s'.P = s.P → fr [30] [] [133, 134] s s' → Q s' kc ks) → C_Rf_dropFlights_b4 sa x (some (g0 l)) (nI a2) (nI a3) s kc ks Q
  | 0, a2, a3, G, s, v, t, hd, h23, hc, hR, hM, hv, i233, q1, q2, hl, hg0, Q, k => by
    intro P4 hcl
    refine hcl _ _ _ _ _ ?_
    obtain ⟨v1, v2, v3, v4, v5, v6⟩ := hv
    have hq := hR.q.1
    have hxv := hq.1.1
    have hx : (s.K x).1 = 30 := by rw [← v1]; exact hxv
    have o11 := okr hx 11
    have hF2 : cF t ≤ 256 := hM.2.2.2.2.1.1.n.2.2
    have e123 : t.S 123 = nI (cF t) := hM.2.2.2.2.1.1.n.1
    have p232 := hq.ty.r hxv 232 133 256
    have em : M_link_b38 t (nI l) 0 (nI a2) = M_link_b79 t (nI l) 0 := by
      unfold M_link_b38
      refine lp_x ?_
      show M_link_s38 t (nI l) 0 (nI a2) = _
      unfold M_link_s38
      rw [e123, if_neg (nI_nlt (by omega) (by omega))]
    unfold C_Rf_dropFlights_s4
    refine ⟨_, gd_to o11, ?_⟩
    rw [show s.I (20 * 11 + 13) x = nI n0 from i233]
    refine ifF (nI_nlt (by omega) (by omega)) ⟨_, gd_to o11, ?_⟩
    have f : fr [30] [] [133, 134] s (cSI s 233 x (nI a2)) := fr.si (by rw [hx]; decide)
    have fv : fr [30] [] [133] v (cSI s 233 x (nI a2)) := fun b hb => ⟨v1.symm ▸ rfl, fun hn => ⟨fun g => by
      rw [cSI_o (fun z => hn (by rw [z, hxv]; decide))]
      exact (v5 g b (fun z => hn (by rw [z.2, hxv]; decide))).symm, fun g => (congrFun (congrFun v3 g) b).symm, (congrFun v4 b).symm⟩, fun g _ => (congrFun (congrFun v2 g) b).symm, fun hn => (v6 b (fun z => hn (by rw [z, p232.2]; decide))).symm⟩
    obtain ⟨⟨a1, a2', a3'⟩, b1, b2, b3, b4, b5, b6, b7, b8⟩ := hR.q.1.2.2.2.2.2.2
    have hKs : (cSI s 233 x (nI a2)).K = v.K := v1.symm
    have hPs : (cSI s 233 x (nI a2)).P = v.P := v2.symm
    have p234 := hq.ty.r hxv 234 134 258
    have n4 : H 234 x ≠ H 232 x := fun z => by
      have := p234.2
      rw [z, p232.2] at this
      exact absurd (congrArg Prod.fst this) (show ¬ (133 : Nat) = 134 by decide)
    have R2 : RR G H sa x (cSI s 233 x (nI a2)) t := by
      refine rr_fl hR hM (fun _ _ _ => rfl) (hR.q.1.1.v hKs hPs fv rfl rfl rfl) (fv.wk (by decide) (by decide) (by decide)) (mfr.rf (W := Wfl)) (fun g h1 h2 => by rw [cSI_g h1]; exact (v5 g x (fun z => h1 z.1)).symm) ⟨⟨?_, ?_, a3'⟩, fun i hi => ?_, fun i hi => ?_, ⟨?_, ?_⟩, b4, b5, b6, b7, b8⟩
      · rw [cSI_s, e123, hc]; rfl
      · rw [cSI_g (by decide), ← v5 235 x (by omega)]; exact a2'
      · obtain ⟨g1, g2, g3⟩ := b1 i hi
        refine ⟨?_, by rw [hKs]; exact g2, g3.fr hq.ty g2 fv (mfr.rf (W := [])) rfl rfl rfl⟩
        show s.Q (H 232 x) i = _
        exact q1 i (by omega)
      · obtain ⟨g1, g2⟩ := b2 i hi
        refine ⟨?_, by rw [hKs]; exact g2⟩
        show s.Q (H 234 x) i = _
        rw [← v6 _ n4]
        exact g1
      · rw [hPs]; exact b3.1
      · rw [hKs]; exact b3.2
    exact k t G _ em R2 hM mfr.rf (fun _ _ _ => rfl) rfl rfl rfl f
  | d + 1, a2, a3, G, s, v, t, hd, h23, hc, hR, hM, hv, i233, q1, q2, hl, hg0, Q, k => by
    intro P4 hcl
    refine hcl _ _ _ _ _ ?_
    have hv0 := hv
    obtain ⟨v1, v2, v3, v4, v5, v6⟩ := hv
    have hq := hR.q.1
    have hxv := hq.1.1
    have hx : (s.K x).1 = 30 := by rw [← v1]; exact hxv
    have o11 := okr hx 11
    obtain ⟨mf1, mf2, mf3, mf4, mf5, mf6⟩ := hM.2.2.2.2.1
    have hF2 : cF t ≤ 256 := mf1.n.2.2
    have e123 : t.S 123 = nI (cF t) := mf1.n.1
    have p232 := hq.ty.r hxv 232 133 256
    have p234 := hq.ty.r hxv 234 134 258
    have s232 : s.P 232 x = some (H 232 x) ∧ s.K (H 232 x) = (133, 256) := ⟨by rw [← v2]; exact p232.1, by rw [← v1]; exact p232.2⟩
    have s234 : s.P 234 x = some (H 234 x) ∧ s.K (H 234 x) = (134, 258) := ⟨by rw [← v2]; exact p234.1, by rw [← v1]; exact p234.2⟩
    have n4 : H 234 x ≠ H 232 x := fun z => by
      have := p234.2
      rw [z, p232.2] at this
      exact absurd (congrArg Prod.fst this) (show ¬ (133 : Nat) = 134 by decide)
    have ha : a2 < cF t := by omega
    obtain ⟨⟨a1, a2', a3'⟩, b1, b2, b3, b4, b5, b6, b7, b8⟩ := hR.q.1.2.2.2.2.2.2
    obtain ⟨g1, g2, g3⟩ := b1 a2 ha
    have kd : (s.K (G 11 a2)).1 = 6 := by rw [← v1]; exact g2
    obtain ⟨lk, el, hlk⟩ := (mf6 a2 ha).1
    obtain ⟨pl, ep, -, hpl⟩ := (mf3 a2 ha).1
    have epc : (t.I 124 a2).toNatClampNeg = pl := by rw [ep, nI_clamp (by omega)]
    rw [epc] at el g3
    have h10 : cL t ≤ 10 := hM.1.2.2.2.2.2.1.n.2.2
    have p48 : s.P 48 (G 11 a2) = some (G 0 lk) := by
      rw [← v2]
      have := g3.2.2.2.2.2
      rw [el, nI_clamp (by omega)] at this
      exact this
    have r1 : rdI t 124 (nI a2) = some (nI pl) := by rw [rdI_n (n := 256) (hM.n.n 124 256) (by omega) (by decide), ep]
    have r2 : rdI t 126 (nI pl) = some (nI lk) := by rw [rdI_n (n := 256) (hM.n.n 126 256) (by omega) (by decide), el]
    have es : M_link_s38 t (nI l) 0 (nI a2) = if nI lk = nI l then Option.bind (M_takeOff t (nI a2)) (fun s3 => some (.inl (nI a2, s3))) else some (.inl (nI (a2 + 1), t)) := by
      unfold M_link_s38
      rw [e123, if_pos (nI_lt ha (by omega)), if_pos rfl, r1]
      simp only [Option.bind_some]
      rw [r2]
      simp only [Option.bind_some]
      rw [nI_1]
    have fl : ∀ {K : Nat → Prop}, K (G 11 a2) → ob (gP s 11 12 x) (fun v3 => ob v3 (fun b4 => ob (rQ s b4 (nI a3)) (fun v5 => ob v5 K))) := fun {K} kk => by
      refine ⟨_, gd_to o11, _, s232.1, _, gd_to ⟨by rw [s232.2]; decide, by rw [s232.2]; decide, by rw [s232.2]; exact vp_in_nI (by omega) (by decide)⟩, ?_⟩
      rw [nI_clamp (by omega)]
      exact ⟨_, q2 0 (by omega), kk⟩
    have fl2 : ∀ {K : Option Nat → Prop}, K (some (G 11 a2)) → ob (gP s 11 12 x) (fun v3 => ob v3 (fun b4 => ob (rQ s b4 (nI a3)) K)) := fun {K} kk => by
      refine ⟨_, gd_to o11, _, s232.1, _, gd_to ⟨by rw [s232.2]; decide, by rw [s232.2]; decide, by rw [s232.2]; exact vp_in_nI (by omega) (by decide)⟩, ?_⟩
      have z : s.Q (H 232 x) (nI a3).toNatClampNeg = some (G 11 a2) := by
        rw [nI_clamp (by omega)]
        exact q2 0 (by omega)
      rw [z]
      exact kk
    unfold C_Rf_dropFlights_s4
    refine ⟨_, gd_to o11, ?_⟩
    rw [show s.I (20 * 11 + 13) x = nI n0 from i233]
    refine ifT (nI_lt (by omega) (by omega)) (fl ⟨_, gd_to (okr kd 2), ?_⟩)
    rw [show s.P (20 * 2 + 8) (G 11 a2) = some (G 0 lk) from p48]
    by_cases cl : lk = l
    · -- dropped
      have e0 : some (G 0 lk) = some (g0 l) := by rw [cl, hg0]
      refine ifT e0 ?_
      obtain ⟨t1, o1, o2⟩ := m_off hM ha
      rw [if_pos (by rw [cl]), o1] at es
      have sk := fun (i : Nat) (hi : i < cF t - 1) => show skI a2 i < cF t by unfold skI; split <;> omega
      -- taken out
      have vI : ∀ g b, ¬ (g = 233 ∧ b = x) → (cSI (cQs v (H 232 x) (fun i => some (G 11 (skI a2 i)))) 233 x (nI (cF t - 1))).I g b = v.I g b := fun g b h => by
        by_cases c : b = x
        · rw [cSI_g (fun z => h ⟨z, c⟩)]; rfl
        · rw [cSI_o c]; rfl
      obtain ⟨R1, M1⟩ := rr_out (s' := cSI (cQs v (H 232 x) (fun i => some (G 11 (skI a2 i)))) 233 x (nI (cF t - 1))) hR hM ha o2 rfl rfl rfl rfl vI (fun b hb => if_neg hb) cSI_s (fun i hi => congrFun (if_pos rfl) i)
      have m1 := o2.1
      have eF : cF t1 = cF t - 1 := by unfold cF; rw [o2.2.1, nI_clamp (by omega)]
      generalize hm : G 12 999 = m at a2' a3' b2 b5 b6 b8
      have o12 : oG G a2 12 999 = m := by rw [oG_o (by decide)]; exact hm
      obtain ⟨R2, f2⟩ := rr_back (a := G 11 a2) R1 M1 g2 (fun i hi => by
        rw [eF] at hi
        rw [oG_11 (by omega)]
        intro z
        have := b4 _ _ (sk i hi) ha z
        unfold skI at this
        split at this <;> omega) (fun i hi => by
        rw [o12] at hi
        rw [oG_o (by decide)]
        exact fun z => b6 a2 i ha hi z.symm) (by
        rw [oG_d]
        exact fun z => b7 a2 ha z.symm) (by rw [eF, o12]; omega)
      rw [o12] at R2 f2
      have i235 : s.I 235 x = nI m := by rw [← v5 235 x (by omega)]; exact a2'
      refine fl2 ⟨o11, c_gback (H := H) (m := m) hx s234 i235 (by omega) kd ?_⟩
      unfold C_Rf_dropFlights_b53
      rw [nI_1]
      have em : M_link_b38 t (nI l) 0 (nI a2) = M_link_b38 t1 (nI l) 0 (nI a2) := by
        unfold M_link_b38
        exact lp_l (f := fun x : Int32 × moS => M_link_s38 x.2 (nI l) 0 x.1) es
      generalize hvv : cSI (cQs v (H 232 x) (fun i => some (G 11 (skI a2 i)))) 233 x (nI (cF t - 1)) = vv at R1 R2 f2 vI
      have vvQ : ∀ b, b ≠ H 232 x → vv.Q b = v.Q b := fun b hb => by rw [← hvv]; exact if_neg hb
      have vvK : vv.K = v.K ∧ vv.P = v.P ∧ vv.J = v.J ∧ vv.E = v.E := by rw [← hvv]; exact ⟨rfl, rfl, rfl, rfl⟩
      have hf1 : fr [30] [] [133, 134] s (cSI (cSQ s (H 234 x) m (some (G 11 a2))) 235 x (nI (m + 1))) := (fr.sq (by rw [s234.2]; decide)).tr (fr.si (by show (s.K x).1 ∈ _; rw [hx]; decide))
      refine df_loop hn0 d a2 (a3 + 1) (bG (oG G a2) (G 11 a2)) (cSI (cSQ s (H 234 x) m (some (G 11 a2))) 235 x (nI (m + 1))) (cSI (cSQ vv (H 234 x) m (some (G 11 a2))) 235 x (nI (m + 1))) t1 (by omega) (by omega) (by omega) R2 M1 ⟨vvK.1.trans v1, vvK.2.1.trans v2, vvK.2.2.1.trans v3, vvK.2.2.2.trans v4, fun g b h => ?_, fun b hb => ?_⟩ ?_ (fun i hi => ?_) (fun i hi => ?_) (by unfold cL; rw [m1.S 17 (by decide)]; exact hl) ?_ Q (fun t' G' s' y1 y2 y3 y4 y5 y6 y7 y8 y9 => ?_) P4 hcl
      · by_cases c1 : b = x
        · subst c1
          by_cases c2 : g = 235
          · rw [c2, cSI_s, cSI_s]
          · rw [cSI_g c2, cSI_g c2]
            exact (vI g b h).trans (v5 g b h)
        · rw [cSI_o c1, cSI_o c1]
          exact (vI g b h).trans (v5 g b h)
      · show (cSQ vv (H 234 x) m (some (G 11 a2))).Q b = (cSQ s (H 234 x) m (some (G 11 a2))).Q b
        by_cases c1 : b = H 234 x
        · rw [c1, cSQ_s, cSQ_s, vvQ _ n4, v6 _ n4]
        · rw [cSQ_a c1, cSQ_a c1, vvQ b hb, v6 b hb]
      · rw [cSI_g (by decide)]; exact i233
      · show (cSQ s (H 234 x) m (some (G 11 a2))).Q (H 232 x) i = _
        rw [cSQ_a (fun z => n4 z.symm), q1 i hi, bG_o (by decide), oG_11 (by omega), show skI a2 i = i from if_pos hi]
      · show (cSQ s (H 234 x) m (some (G 11 a2))).Q (H 232 x) (a3 + 1 + i) = _
        rw [cSQ_a (fun z => n4 z.symm), show a3 + 1 + i = a3 + (i + 1) by omega, q2 (i + 1) (by omega), bG_o (by decide), oG_11 (by omega), show skI a2 (a2 + i) = a2 + (i + 1) by unfold skI; rw [if_neg (by omega)]; omega]
      · rw [bG_o (by decide), oG_o (by decide)]; exact hg0
      · have bz : bG (oG G a2) (G 11 a2) 12 999 = m + 1 := by unfold bG; rw [o12, if_neg (by omega), if_pos ⟨rfl, rfl⟩]
        exact k t' G' s' (em.trans y1) y2 y3 ((m1.wk (by decide)).tr y4) (fun b h1 h2 => by rw [y5 b h1 h2, bG_o h2, oG_o h1]) (by rw [y6, eF, bz, hm]; omega) y7 y8 (hf1.tr y9)
    · -- kept
      have e0 : ¬ some (G 0 lk) = some (g0 l) := fun z => cl (hq.2.1.1 lk l hlk hl (by rw [← hg0] at z; exact Option.some.inj z))
      rw [if_neg (fun z => cl ((nI_eq (by omega) (by omega)).mp z))] at es
      have em : M_link_b38 t (nI l) 0 (nI a2) = M_link_b38 t (nI l) 0 (nI (a2 + 1)) := by
        unfold M_link_b38
        exact lp_l (f := fun x : Int32 × moS => M_link_s38 x.2 (nI l) 0 x.1) es
      refine ifF e0 ⟨_, gd_to o11, fl2 ⟨_, s232.1, _, gd_to ⟨⟨by rw [s232.2]; decide, by rw [s232.2]; decide, by rw [s232.2]; exact vp_in_nI (by omega) (by decide)⟩, by rw [s232.2]; decide, fun b' hb' => by cases hb'; rw [s232.2]; exact okr kd 2⟩, ?_⟩⟩
      rw [nI_clamp (by omega)]
      unfold C_Rf_dropFlights_b53
      rw [nI_1, nI_1]
      have hf1 : fr [30] [] [133, 134] s (cSQ s (H 232 x) a2 (some (G 11 a2))) := fr.sq (by rw [s232.2]; decide)
      have oQ : ∀ i, (cSQ s (H 232 x) a2 (some (G 11 a2))).Q (H 232 x) i = if i = a2 then some (G 11 a2) else s.Q (H 232 x) i := fun i => by rw [cSQ_s]; rfl
      refine df_loop hn0 d (a2 + 1) (a3 + 1) G (cSQ s (H 232 x) a2 (some (G 11 a2))) v t (by omega) (by omega) (by omega) hR hM ⟨v1, v2, v3, v4, v5, fun b hb => by rw [cSQ_a hb]; exact v6 b hb⟩ i233 (fun i hi => ?_) (fun i hi => ?_) hl hg0 Q (fun t' G' s' y1 y2 y3 y4 y5 y6 y7 y8 y9 => k t' G' s' (em.trans y1) y2 y3 y4 y5 y6 y7 y8 (hf1.tr y9)) P4 hcl
      · rw [oQ]
        by_cases c : i = a2
        · rw [if_pos c, c]
        · rw [if_neg c]; exact q1 i (by omega)
      · rw [oQ, if_neg (by omega), show a3 + 1 + i = a3 + (i + 1) by omega, q2 (i + 1) (by omega), show a2 + (i + 1) = a2 + 1 + i by omega]
end Dp
