/-! A datagram is heard by all routers that hear it: both sides. -/
theorem ar_w1 {d m N : Nat} (h : d + (m + 1) * 885 < N) : d + 885 < N := Nat.lt_of_le_of_lt (Nat.add_le_add_left (Nat.le_trans (Nat.le_of_eq (Nat.one_mul 885).symm) (Nat.mul_le_mul_right 885 (Nat.le_add_left 1 m))) d) h
theorem ar_w3 {d e m N : Nat} (he : e ≤ 885) (h : d + (m + 1) * 885 < N) : d + e + m * 885 < N := by
  have : (m + 1) * 885 = m * 885 + 885 := Nat.succ_mul m 885
  rw [this] at h
  omega
theorem ar_w4 (m e : Nat) : e + m * e = (m + 1) * e := by rw [Nat.succ_mul, Nat.add_comm]
section Rs
variable {sa : Nat → Nat} {x A f lk : Nat} {po ho fm ta a1 a2 a3 : Int32} {h l th tl : Int64} {L : List Int32} {E : List (Int32 × Int64)} {Os : Nat → List Pf} {Q : cS → Nat → Nat → Prop} {P9 : Int32 → Int32 → cS → Nat → Nat → Prop}
theorem ar_rts (hO : ∀ r, (Os r).length ≤ 760) (hE6 : E.length ≤ 600) (hB : ∀ j, L.getD j 0 = nI (vc L j)) : ∀ (m r : Nat) (G H : Nat → Nat → Nat) (s : cS) (t : moS) (kc ks : Nat), r + m = cR t → RR G H sa x s t → MV t → AGs t → EX Os t → SRC E t → HD G H s A L f h l po ho lk fm ta th tl → HT t E f h lk fm ta → hFr G t A → IN t L → (∃ d, t.I 23 lk = nI d ∧ d + m * 885 < 2 ^ 31) → RcC s G H t ≤ kc → RcS s G H x t ≤ ks → (∀ t', M_arrive_b154 t (nI lk) (nI f) fm ta th tl h l po ho (nI r) = some t' → MV t' → AGs t' → EX Os t' → SRC E t' → mfr Wrv t t' → SB lk (m * rq1 L) t t' → SD t t' → RvK sa x A G H s t kc ks t' (fun s' kc' ks' => C_Rf_bringDue_b177 sa x a1 a2 a3 (some A) s' kc' ks' Q P9)) → C_Rf_bringDue_b48 sa x a1 a2 a3 (some A) (nI r) s kc ks Q P9
  | 0, r, G, H, s, t, kc, ks, hm, hR, hM, hAg, hE, hS, hD, hTt, hF, hI, hs, hkc, hks, k => by
    intro P48 hc
    refine hc _ _ _ _ ?_
    have h6 := hM.nR
    have hq := hR.q.1
    have e37 : t.S 37 = nI (cR t) := hM.1.2.2.2.2.2.2.2.n.1
    have i229 : s.I 229 x = t.S 37 := hq.2.2.1.2.2.2.1
    have em : M_arrive_b154 t (nI lk) (nI f) fm ta th tl h l po ho (nI r) = some t := by
      unfold M_arrive_b154
      refine lp_x ?_
      show M_arrive_s154 t (nI lk) (nI f) fm ta th tl h l po ho (nI r) = _
      unfold M_arrive_s154
      rw [if_neg (by rw [e37]; exact nI_nlt (by omega) (by omega))]
    unfold C_Rf_bringDue_s48
    refine ⟨_, gd_to hq.ox, ?_⟩
    rw [show s.I (20 * 11 + 9) x = nI (cR t) from i229.trans e37]
    exact ifF (nI_nlt (by omega) (by omega)) (k t em hM hAg hE hS mfr.rf SB.rf SD.rf G H s kc ks hR ⟨rfl, rfl, rfl⟩ hA.rf fr.rf hdX.rf hF (Nat.le_refl _) (Nat.le_refl _))
  | m + 1, r, G, H, s, t, kc, ks, hm, hR, hM, hAg, hE, hS, hD, hTt, hF, hI, hs, hkc, hks, k => by
    intro P48 hc
    refine hc _ _ _ _ ?_
    have h6 := hM.nR
    have hq := hR.q.1
    have hr : r < cR t := by omega
    have e37 : t.S 37 = nI (cR t) := hM.1.2.2.2.2.2.2.2.n.1
    have i229 : s.I 229 x = t.S 37 := hq.2.2.1.2.2.2.1
    have kA := hD.1.1
    have hf := hD.1.2.2.2.2
    have kA0 : (s.K A).1 ≠ 0 := by rw [kA]; decide
    have step : ∀ t', M_arrive_s154 t (nI lk) (nI f) fm ta th tl h l po ho (nI r) = some (.inl (nI (r + 1), t')) → M_arrive_b154 t (nI lk) (nI f) fm ta th tl h l po ho (nI r) = M_arrive_b154 t' (nI lk) (nI f) fm ta th tl h l po ho (nI (r + 1)) := fun t' st => by
      unfold M_arrive_b154
      exact lp_l (f := fun x : Int32 × moS => M_arrive_s154 x.2 (nI lk) (nI f) fm ta th tl h l po ho x.1) st
    obtain ⟨dd, e23, hdd⟩ := hs
    unfold C_Rf_bringDue_s48
    refine ⟨_, gd_to hq.ox, ?_⟩
    rw [show s.I (20 * 11 + 9) x = nI (cR t) from i229.trans e37]
    refine ifT (nI_lt hr (by omega)) (w_rts hq hM hr ⟨okr (hq.rt hr).1.1 9, w_hearer hR hM hr hD hTt (fun c => ifT rfl ?_) (fun p c => ifF (by simp) ?_)⟩)
    · -- it doesn't hear it
      unfold C_Rf_bringDue_b171
      rw [nI_1]
      have st := (m_arr (p := 0) (h := h) (l := l) (po := po) (ho := ho) hM hr hf hTt.2.2.1).1 c
      refine ar_rts hO hE6 hB m (r + 1) G H s t kc ks (by omega) hR hM hAg hE hS hD hTt hF hI ⟨dd, e23, ?_⟩ hkc hks (fun t' y1 y2 y3 y4 y5 y6 y7 y8 => k t' ((step t st).trans y1) y2 y3 y4 y5 y6 ?_ y8) P48 hc
      · have := ar_w3 (e := 0) (Nat.zero_le _) hdd
        omega
      · refine y7.wk ?_
        rw [← ar_w4]
        exact Nat.le_add_left _ _
    · -- it hears it
      have st := (m_arr (p := p) (h := h) (l := l) (po := po) (ho := ho) hM hr hf hTt.2.2.1).2 c
      obtain ⟨-, hp, ef, -, h75, -⟩ := c
      have e71 : t.I 71 (4 * r + p) = nI lk := (ifF_s ef).2.2
      refine c_rcv (Q := fun a4 s kc ks => C_Rf_bringDue_b160 sa x a1 a2 a3 a4 (nI r) s kc ks Q P9 P48) hR hM hAg hE hO hS hE6 hr hp hD.1 hF hI hB h75 (fun z => by rw [e71]; exact hTt.2.2.2 z) hTt.1 e71 ⟨dd, e23, ar_w1 hdd⟩ hkc hks fun t' w1 w2 w3 w4 w5 w6 w7 w8 => ?_
      intro G' H' s' kc' ks' R' g' h' f' o' F' c1 c2
      rw [w1] at st
      simp only [Option.bind_some] at st
      have kA' : (s'.K A).1 = 6 := f'.r kA
      have D' : HD G' H' s' A L f h l po ho lk fm ta th tl := hD.hx o' kA' g'.1 g'.2.1 h'
      unfold C_Rf_bringDue_b160
      refine ⟨A, rfl, _, gd_to (okr kA' 2), ?_⟩
      rw [show s'.I (20 * 2 + 3) A = ta from D'.2.2.2.1]
      by_cases ct : ta = 0
      · rw [if_pos ct] at st
        refine ifT ct (k t' ?_ w2 w3 w4 w5 w6 (w7.wk ?_) w8 G' H' s' kc' ks' R' g' h' f' o' F' c1 c2)
        · unfold M_arrive_b154
          exact lp_x st
        · rw [← ar_w4]
          exact Nat.le_add_right _ _
      · rw [if_neg ct] at st
        refine ifF ct ?_
        unfold C_Rf_bringDue_b171
        rw [nI_1]
        have w7' := w7
        obtain ⟨-, d', hd', e'⟩ := w7'
        refine ar_rts hO hE6 hB m (r + 1) G' H' s' t' kc' ks' (by unfold cR; rw [w6.S 37 (by decide)]; show r + 1 + m = cR t; omega) R' w2 w3 w4 w5 D' (hTt.fr w6 rfl) F' (hI.fr w6 rfl) ⟨dd + d', by rw [e', e23, nI_add], ar_w3 (Nat.le_trans hd' rq1_le) hdd⟩ (ar_7 c1 hkc) (ar_7 c2 hks) (fun t'' y1 y2 y3 y4 y5 y6 y7 y8 => (k t'' ((step t' st).trans y1) y2 y3 y4 y5 (w6.tr y6) ?_ (w8.tr y8)).tr g' h' f' kA0 o' c1 c2) P48 hc
        have := w7.tr y7
        rw [ar_w4] at this
        exact this
end Rs
