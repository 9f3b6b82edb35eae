/-! A router's table ages: the loop, both sides. -/
section Al
variable {H : Nat → Nat → Nat} {sa : Nat → Nat} {x r a1 kc ks : Nat}
/-- what ageing leaves of a table -/
def agR (r : Nat) (t t' : moS) : Prop := rwT r t t' ∧ (∀ P, gD (Vt t r P) (Vt t' r P)) ∧ ∀ j, j < cN t' r → ∃ j0, j0 < cN t r ∧ pfR t' (2700 * r + j) = pfR t (2700 * r + j0)
theorem agR.rf {t : moS} : agR r t t := ⟨rwT.rf, fun _ => Or.inl (Or.inl rfl), fun j hj => ⟨j, hj, rfl⟩⟩
theorem agR.tr {t t1 t2 : moS} (h : agR r t t1) (g : agR r t1 t2) : agR r t t2 := ⟨h.1.tr g.1, fun P => (h.2.1 P).tr (g.2.1 P), fun j hj => by
  obtain ⟨j0, h0, e0⟩ := g.2.2 j hj
  obtain ⟨j1, h1, e1⟩ := h.2.2 j0 h0
  exact ⟨j1, h1, e0.trans e1⟩⟩
theorem die_f {s : cS} {rr tm cnt x a : Nat} (k1 : (s.K rr).1 = 26) (ka : (s.K a).1 = 23) (kc' : (s.K cnt).1 = 104) : (dieS s rr tm cnt x a).K = s.K ∧ (dieS s rr tm cnt x a).P = s.P ∧ fr [23, 26, 27, 104] [] [135] s (dieS s rr tm cnt x a) ∧ (∀ b, b ≠ a → b ≠ rr → ∀ g, (dieS s rr tm cnt x a).I g b = s.I g b) ∧ ((dieS s rr tm cnt x a).I 163 a = s.I 163 a) ∧ ¬ s.I 199 rr < (dieS s rr tm cnt x a).I 199 rr := by
  have hra : a ≠ rr := fun z => by rw [z, k1] at ka; exact absurd ka (by decide)
  unfold dieS
  have g1 : fr [23, 26, 27, 104] [] [135] s (cSI s 164 a 16) := fr.si (by rw [ka]; decide)
  generalize s.I 225 x + s.E tm 2 = val
  have dl : (dlS (cSI s 164 a 16) rr a val).K = s.K ∧ (dlS (cSI s 164 a 16) rr a val).P = s.P ∧ fr [23, 26, 27, 104] [] [135] s (dlS (cSI s 164 a 16) rr a val) ∧ (∀ b, b ≠ a → b ≠ rr → ∀ g, (dlS (cSI s 164 a 16) rr a val).I g b = s.I g b) ∧ ((dlS (cSI s 164 a 16) rr a val).I 163 a = s.I 163 a) ∧ ¬ s.I 199 rr < (dlS (cSI s 164 a 16) rr a val).I 199 rr := by
    unfold dlS
    split
    · rename_i c
      refine ⟨rfl, rfl, g1.tr ((fr.si (by show (s.K a).1 ∈ _; rw [ka]; decide)).tr (fr.si (by show (s.K rr).1 ∈ _; rw [k1]; decide))), fun b h1 h2 g => by rw [cSI_o h2, cSI_o h1, cSI_o h1], by rw [cSI_o hra, cSI_g (by decide), cSI_g (by decide)], ?_⟩
      rw [cSI_s]
      rw [cSI_g (by decide)] at c
      exact fun z => Int32.lt_irrefl (Int32.lt_trans z c)
    · refine ⟨rfl, rfl, g1.tr (fr.si (by show (s.K a).1 ∈ _; rw [ka]; decide)), fun b h1 h2 g => by rw [cSI_o h1, cSI_o h1], by rw [cSI_g (by decide), cSI_g (by decide)], ?_⟩
      rw [cSI_g (by decide), cSI_g (by decide)]
      exact Int32.lt_irrefl
  generalize dlS (cSI s 164 a 16) rr a val = z at dl
  obtain ⟨e1, e2, e3, e4, e5, e6⟩ := dl
  have za : (z.K a).1 = 23 := by rw [e1]; exact ka
  have zc : (z.K cnt).1 = 104 := by rw [e1]; exact kc'
  have zr : (z.K rr).1 = 26 := by rw [e1]; exact k1
  unfold mkS
  split
  · refine ⟨e1, e2, e3.tr (((fr.si (by rw [za]; decide)).tr (fr.se (by show (z.K cnt).1 ∈ _; rw [zc]; decide))).tr (fr.si (by show (z.K rr).1 ∈ _; rw [zr]; decide))), fun b h1 h2 g => ?_, ?_, ?_⟩
    · rw [cSI_o h2]
      show (cSI z 167 a 1).I g b = _
      rw [cSI_o h1]; exact e4 b h1 h2 g
    · rw [cSI_o hra]
      show (cSI z 167 a 1).I 163 a = _
      rw [cSI_g (by decide)]; exact e5
    · rw [cSI_g (by decide)]
      show ¬ _ < (cSI z 167 a 1).I 199 rr
      rw [cSI_g (by decide)]; exact e6
  · refine ⟨e1, e2, e3.tr ((fr.si (by rw [za]; decide)).tr (fr.se (by show (z.K cnt).1 ∈ _; rw [zc]; decide))), fun b h1 h2 g => ?_, ?_, ?_⟩
    · show (cSI z 167 a 1).I g b = _
      rw [cSI_o h1]; exact e4 b h1 h2 g
    · show (cSI z 167 a 1).I 163 a = _
      rw [cSI_g (by decide)]; exact e5
    · show ¬ _ < (cSI z 167 a 1).I 199 rr
      rw [cSI_g (by decide)]; exact e6
theorem age_loop (h88 : a1 ≤ 880) : ∀ (d a2 a3 : Nat) (G : Nat → Nat → Nat) (s : cS) (t : moS), a3 + d = a1 → a2 + d = cN t r → RR G H sa x (cSI s 199 (G 1 r) (-2147483648)) t → MV t → AGs t → r < cR t → (∀ j, j < a2 → t.I 110 (2700 * r + j) = 2 → ¬ s.I 170 (G 4 (2700 * r + j)) < s.I 199 (G 1 r)) → ∀ Q : cS → Nat → Nat → Prop, (∀ t' G' s', M_age_b6 t (nI r) (nI (2700 * r + a2)) = some t' → RR G' H sa x s' t' → MV t' → AGs t' → agR r t t' → (∀ b, b ≠ 4 → G' b = G b) → s'.K = s.K → s'.P = s.P → fr [23, 26, 27, 104] [] [135] s s' → Q s' kc ks) → C_Rr_age_b34 sa (G 1 r) (nI a1) (nI a2) (nI a3) s kc ks Q
  | 0, a2, a3, G, s, t, h1, h2, hR, hM, hA, hr, hpr, Q, k => by
    intro P34 hc
    refine hc _ _ _ _ _ ?_
    have h6 := hM.nR
    have hn := hM.nRo hr
    unfold C_Rr_age_s34
    refine ifF (nI_nlt (by omega) (by omega)) ?_
    have ea : a2 = cN t r := by omega
    have R := (rr_199 (v := s.I 199 (G 1 r)) hR hM hr fun j hj h => by
      rw [cSI_g (by decide)]
      exact hpr j (by omega) h).1
    rw [cSI_id] at R
    refine k t G s ?_ R hM hA agR.rf (fun _ _ => rfl) rfl rfl fr.rf
    unfold M_age_b6
    refine lp_x ?_
    show M_age_s6 t (nI r) (nI (2700 * r + a2)) = _
    rw [ea]
    exact m_age_e hM hr
  | d + 1, a2, a3, G, s, t, h1, h2, hR, hM, hA, hr, hpr, Q, k => by
    intro P34 hc
    refine hc _ _ _ _ _ ?_
    have h6 := hM.nR
    have hn := hM.nRo hr
    have hj : a2 < cN t r := by omega
    have hq := hR.q.1
    have hT := hq.ty
    have hx : (s.K x).1 = 30 := hq.1.1
    obtain ⟨b0, b1, b2⟩ := hq.tb hr
    obtain ⟨c1, c2, c3, w, cap, d1, d2, d3, d4, d5, d6, d7, d8⟩ := id b0
    have k1 : (s.K (G 1 r)).1 = 26 := (hq.rt hr).1.1
    have p186 : s.P 186 (G 1 r) = some (H 186 (G 1 r)) ∧ (s.K (H 186 (G 1 r))).1 = 27 := hT.p k1 186 27
    have d1 : s.P 200 (H 186 (G 1 r)) = some w := d1
    have d2 : s.K w = (135, cap) := d2
    obtain ⟨dq, ka⟩ := d6 a2 (by omega)
    have dq : s.Q w a2 = some (G 4 (2700 * r + a2)) := dq
    have ka : (s.K (G 4 (2700 * r + a2))).1 = 23 := ka
    have hRW := b1 a2 hj
    have vI : ∀ g b, g ≠ 199 → (cSI s 199 (G 1 r) (-2147483648)).I g b = s.I g b := fun g b hg => cSI_g hg
    have i163 : s.I 163 (G 4 (2700 * r + a2)) = t.I 110 (2700 * r + a2) := by rw [← vI 163 _ (by decide)]; exact hRW.2.1.1
    have i164 : s.I 164 (G 4 (2700 * r + a2)) = t.I 111 (2700 * r + a2) := by rw [← vI 164 _ (by decide)]; exact hRW.2.1.2.1
    have i225 : s.I 225 x = t.S 1 := by rw [← vI 225 _ (by decide)]; exact hq.2.2.1.2.1
    have p180 : s.P 180 (G 1 r) = some x := by
      have : s.P 180 (G 1 r) = some (H 180 (G 1 r)) := (hT.p k1 180 30).1
      rw [this, (hq.rt hr).1.2.2]
    have hra : G 1 r ≠ G 4 (2700 * r + a2) := ne_ro k1 ka
    have es := m_age_s hM hA hr hj
    have hm := (hM.r hr).w hj
    -- on to the next row
    have adv : ∀ (s1 : cS) (t1 : moS), M_age_s6 t (nI r) (nI (2700 * r + a2)) = some (.inl (nI (2700 * r + a2 + 1), t1)) → RR G H sa x (cSI s1 199 (G 1 r) (-2147483648)) t1 → MV t1 → AGs t1 → agR r t t1 → t1.I 110 = t.I 110 → t1.I 105 = t.I 105 → s1.K = s.K → s1.P = s.P → fr [23, 26, 27, 104] [] [135] s s1 → (∀ j, j < a2 → t.I 110 (2700 * r + j) = 2 → ¬ s1.I 170 (G 4 (2700 * r + j)) < s1.I 199 (G 1 r)) → s1.I 163 (G 4 (2700 * r + a2)) = t.I 110 (2700 * r + a2) → C_Rr_age_b118 sa (G 1 r) (nI a1) (nI a2) (nI a3) (some (G 4 (2700 * r + a2))) s1 kc ks Q P34 := fun s1 t1 e R1 M1 A1 g1 e110 e105 eK eP f1 hp1 hk => by
      have em : M_age_b6 t (nI r) (nI (2700 * r + a2)) = M_age_b6 t1 (nI r) (nI (2700 * r + (a2 + 1))) := by
        unfold M_age_b6
        exact lp_l (f := fun x : Int32 × moS => M_age_s6 x.2 (nI r) x.1) e
      have ka1 : (s1.K (G 4 (2700 * r + a2))).1 = 23 := by rw [eK]; exact ka
      have k11 : (s1.K (G 1 r)).1 = 26 := by rw [eK]; exact k1
      have m1 := g1.1.1
      have hr1 : r < cR t1 := by unfold cR; rw [m1.S 37 (by decide)]; exact hr
      have n1 : cN t1 r = cN t r := by unfold cN; rw [e105]
      have go : ∀ s2 : cS, cSI s2 199 (G 1 r) (-2147483648) = cSI s1 199 (G 1 r) (-2147483648) → s2.K = s1.K → s2.P = s1.P → fr [23, 26, 27, 104] [] [135] s1 s2 → (∀ j, j < a2 + 1 → t.I 110 (2700 * r + j) = 2 → ¬ s2.I 170 (G 4 (2700 * r + j)) < s2.I 199 (G 1 r)) → C_Rr_age_b143 sa (G 1 r) (nI a1) (nI a2) (nI a3) s2 kc ks Q P34 := fun s2 ev eK2 eP2 f2 hp2 => by
        unfold C_Rr_age_b143 C_Rr_age_b146
        rw [nI_1, nI_1]
        refine age_loop h88 d (a2 + 1) (a3 + 1) G s2 t1 (by omega) (by omega) (by rw [ev]; exact R1) M1 A1 hr1 (fun j hj h => hp2 j hj (by rw [e110] at h; exact h)) Q (fun t' G' s' y1 y2 y3 y4 y5 y6 y7 y8 y9 => k t' G' s' (em.trans y1) y2 y3 y4 (g1.tr y5) y6 (y7.trans (eK2.trans eK)) (y8.trans (eP2.trans eP)) (f1.tr (f2.tr y9))) P34 hc
      unfold C_Rr_age_b118
      refine ⟨_, rfl, _, gd_to (okr ka1 8), ?_⟩
      show if s1.I 163 (G 4 (2700 * r + a2)) = 2 then _ else _
      rw [hk]
      by_cases c : t.I 110 (2700 * r + a2) = 2
      · refine ifT c ⟨_, gd_to (okr k11 9), _, gd_to (okr ka1 8), _, gd_to (okr k11 9), go _ cSI_ow rfl rfl (fr.si (by rw [k11]; decide)) fun j hj h => ?_⟩
        rw [cSI_s, cSI_g (by decide)]
        by_cases cj : j = a2
        · rw [cj]; exact mnI_le.2
        · intro z
          have hh := hp1 j (by omega) h
          have hle := (mnI_le (a := s1.I 199 (G 1 r)) (b := s1.I 170 (G 4 (2700 * r + a2)))).1
          exact hh (Int32.lt_of_lt_of_le z (Int32.not_lt.mp hle))
      · refine ifF c (go s1 rfl rfl rfl fr.rf fun j hj h => ?_)
        by_cases cj : j = a2
        · rw [cj] at h; exact absurd h c
        · exact hp1 j (by omega) h
    have k16 : t.I 110 (2700 * r + a2) ≠ 2 → t.I 111 (2700 * r + a2) ≠ 16 := fun c z => by
      obtain ⟨y, e, -, hy⟩ := hm.2.2.2.1 c
      rw [e] at z
      have := (nI_eq (b := 16) (by omega) (by decide)).mp z
      omega
    have stay : ¬ (t.I 110 (2700 * r + a2) = 2 ∧ t.I 111 (2700 * r + a2) ≠ 16 ∧ ¬ t.S 1 < t.I 120 (2700 * r + a2) + t.I 121 (2700 * r + a2)) → ¬ (t.I 111 (2700 * r + a2) = 16 ∧ ¬ t.S 1 < t.I 122 (2700 * r + a2)) → C_Rr_age_b118 sa (G 1 r) (nI a1) (nI a2) (nI a3) (some (G 4 (2700 * r + a2))) s kc ks Q P34 := fun z1 z2 => by
      rw [if_neg z1, if_neg z2] at es
      exact adv s t es hR hM hA agR.rf rfl rfl rfl rfl fr.rf hpr i163
    unfold C_Rr_age_s34
    refine ifT (nI_lt (by omega) (by omega)) ⟨_, gd_to (okr k1 9), _, p186.1, _, gd_to (okr p186.2 10), _, d1, _, gd_to ⟨by rw [d2]; exact (show 130 ≤ 135 by decide), by rw [d2]; exact (show 135 < 146 by decide), by rw [d2]; exact vp_in_nI (by omega) (by omega)⟩, ?_⟩
    rw [nI_clamp (by omega), dq]
    refine ⟨_, rfl, _, gd_to (okr ka 8), ?_⟩
    show if s.I 163 (G 4 (2700 * r + a2)) = 2 then _ else _
    rw [i163]
    have b0' : ∀ {Q' : Prop}, Q' → Q' := fun q => q
    by_cases c1 : t.I 110 (2700 * r + a2) = 2
    rotate_left
    · refine ifF c1 ?_
      unfold C_Rr_age_b79 C_Rr_age_b107
      exact ifT rfl (ifT rfl (stay (fun z => c1 z.1) fun z => k16 c1 z.1))
    refine ifT c1 ⟨_, gd_to (okr k1 9), _, p180, _, gd_to (okr hx 11), _, gd_to (okr ka 8), ?_⟩
    show if s.I 225 x < s.I 170 (G 4 (2700 * r + a2)) then _ else _
    rw [i225]
    have v170 : (t.I 111 (2700 * r + a2) = 16 → s.I 170 (G 4 (2700 * r + a2)) = t.I 122 (2700 * r + a2)) ∧ (t.I 111 (2700 * r + a2) ≠ 16 → s.I 170 (G 4 (2700 * r + a2)) = t.I 120 (2700 * r + a2) + t.I 121 (2700 * r + a2)) := by
      rw [← vI 170 _ (by decide)]
      exact ⟨fun z => hRW.2.2.2.2.2.1 c1 z, fun z => (hRW.2.2.2.2.1 c1 z).2.2⟩
    by_cases cd : t.S 1 < s.I 170 (G 4 (2700 * r + a2))
    · refine ifT cd ?_
      unfold C_Rr_age_b79 C_Rr_age_b107
      refine ifT rfl (ifT rfl (stay (fun z => z.2.2 ?_) fun z => z.2 ?_))
      · rw [← v170.2 z.2.1]; exact cd
      · rw [← v170.1 z.1]; exact cd
    refine ifF cd ?_
    unfold C_Rr_age_b79
    refine ifF (by decide) ⟨_, rfl, _, gd_to (okr ka 8), ?_⟩
    show if s.I 164 (G 4 (2700 * r + a2)) = 16 then _ else _
    rw [i164]
    by_cases c16 : t.I 111 (2700 * r + a2) = 16
    rotate_left
    · -- it dies
      refine ifF c16 ?_
      unfold C_Rr_age_b107
      obtain ⟨q1, q2, q3, q4, q5⟩ := age_die (kc := kc) (ks := ks) hR hM hr hj c1 c16
      rw [if_pos ⟨c1, c16, fun z => cd (by rw [v170.2 c16]; exact z)⟩, q1] at es
      simp only [Option.bind_some] at es
      refine ifF (by decide) ⟨okr k1 9, q5 _ ?_⟩
      have k104 : (s.K (H 196 (G 1 r))).1 = 104 := by
        have : s.K (H 196 (G 1 r)) = (104, 11) := (hT.r k1 196 104 11).2
        rw [this]
      obtain ⟨y1, y2, y3, y4, y5, y6⟩ := die_f (tm := H 195 (G 1 r)) (x := x) k1 ka k104
      have hr' : r < cR (dieM t r (2700 * r + a2)) := by unfold cR; rw [q3.1.1.S 37 (by decide)]; exact hr
      have n0 : cN (dieM t r (2700 * r + a2)) r = cN t r := by unfold cN; rw [q3.2.2.1]
      refine adv _ _ es q4 q2 (fun y => by rw [q3.2.2.2.1 120 (by decide) (by decide) (by decide) (by decide), q3.2.2.2.1 121 (by decide) (by decide) (by decide) (by decide)]; exact hA y) ⟨q3.1, fun P => Or.inl (q3.v hM q2 hr hr'), fun j hj' => ⟨j, by omega, ?_⟩⟩ (q3.2.2.2.1 110 (by decide) (by decide) (by decide) (by decide)) q3.2.2.1 y1 y2 y3 (fun j hj' hk => ?_) (y5.trans i163)
      · unfold pfR
        rw [q3.2.2.2.1 106 (by decide) (by decide) (by decide) (by decide), q3.2.2.2.1 109 (by decide) (by decide) (by decide) (by decide), q3.2.1]
      · have ne : G 4 (2700 * r + j) ≠ G 4 (2700 * r + a2) := fun z => by
          have := d8 j a2 (by omega) (by omega) z
          omega
        have ne2 : G 4 (2700 * r + j) ≠ G 1 r := fun z => by
          have : (s.K (G 4 (2700 * r + j))).1 = 23 := (d6 j (by omega)).2
          rw [z, k1] at this
          exact absurd this (by decide)
        rw [y4 _ ne ne2]
        exact fun z => hpr j hj' hk (Int32.lt_of_lt_of_le z (Int32.not_lt.mp y6))
    · -- it goes
      refine ifT c16 ⟨_, gd_to (okr k1 9), _, p186.1, okr p186.2 10, ?_⟩
      have hn1 : cN t r = (a2 + d) + 1 := by omega
      obtain ⟨t1, q1, o1⟩ := m_remove (i := a2) hM hr hn1 (by omega)
      rw [if_neg (fun z => z.2.1 c16), if_pos ⟨c16, fun z => cd (by rw [v170.1 c16]; exact z)⟩, q1] at es
      simp only [Option.bind_some] at es
      have em : M_age_b6 t (nI r) (nI (2700 * r + a2)) = M_age_b6 t1 (nI r) (nI (2700 * r + a2)) := by
        unfold M_age_b6
        exact lp_l (f := fun x : Int32 × moS => M_age_s6 x.2 (nI r) x.1) es
      have bs : RTa s (H 186 (G 1 r)) 135 23 ((a2 + d) + 1) (G 13 r) 2700 (fun j => G 4 (2700 * r + j)) := by
        have := b0
        rw [hn1] at this
        unfold RTa at this ⊢
        rw [vI 201 _ (by decide)] at this
        exact this
      obtain ⟨R1, M1⟩ := rr_rem (w := w) hR hM hr hn1 (show a2 ≤ a2 + d by omega) d1 o1
      have w1 := o1.rw (show a2 ≤ a2 + d by omega) (by omega)
      have hr1 : r < cR t1 := by unfold cR; rw [w1.1.S 37 (by decide)]; exact hr
      have n1 : cN t1 r = a2 + d := by unfold cN; rw [o1.2.1, upd_s, nI_clamp (by omega)]
      refine w_remove bs (okr p186.2 10) (by decide) (by decide) d1 (show a2 ≤ a2 + d by omega) ?_
      unfold C_Rr_age_b146
      rw [nI_1]
      have hc' := hc
      have e1 : rmG4 G r a2 (a2 + d) 1 = G 1 := rmG4_o (by decide)
      rw [show G 1 r = rmG4 G r a2 (a2 + d) 1 r by rw [e1]] at hc'
      have ev : cQs (cSI (cSI s 199 (G 1 r) (-2147483648)) 201 (H 186 (G 1 r)) (nI (a2 + d))) w (rmF ((cSI s 199 (G 1 r) (-2147483648)).Q w) a2 (a2 + d)) = cSI (cQs (cSI s 201 (H 186 (G 1 r)) (nI (a2 + d))) w (rmF (s.Q w) a2 (a2 + d))) 199 (G 1 r) (-2147483648) := by
        rw [cSI_cm (show 199 ≠ 201 by decide), cQs_cm]
        rfl
      rw [ev] at R1
      have f1 : fr [23, 26, 27, 104] [] [135] s (cQs (cSI s 201 (H 186 (G 1 r)) (nI (a2 + d))) w (rmF (s.Q w) a2 (a2 + d))) := fun b hb => ⟨rfl, fun hn => ⟨fun g => by
        show (cSI s 201 (H 186 (G 1 r)) (nI (a2 + d))).I g b = _
        rw [cSI_o (fun z => hn (by rw [z, p186.2]; decide))], fun g => rfl, rfl⟩, fun g _ => rfl, fun hn => if_neg (fun z => hn (by rw [z, d2]; exact List.mem_singleton.mpr rfl))⟩
      refine age_loop h88 d a2 (a3 + 1) (rmG4 G r a2 (a2 + d)) (cQs (cSI s 201 (H 186 (G 1 r)) (nI (a2 + d))) w (rmF (s.Q w) a2 (a2 + d))) t1 (by omega) (by omega) (by rw [e1]; exact R1) M1 (aM_remove hA _ q1) hr1 (fun j hj' hk => ?_) Q (fun t' G' s' y1 y2 y3 y4 y5 y6 y7 y8 y9 => k t' G' s' (em.trans y1) y2 y3 y4 (agR.tr ⟨w1, fun P => rm_v hM M1 hr hr1 hn1 (by omega) o1 c1, fun j hj' => ⟨skI a2 j, by unfold skI; split <;> omega, ?_⟩⟩ y5) (fun b hb => by rw [y6 b hb, rmG4_o hb]) y7 y8 (f1.tr y9)) P34 hc'
      · have hk' : t.I 110 (2700 * r + j) = 2 := by
          rw [o1.2.2.1 110 (by decide), if_neg (by omega)] at hk
          exact hk
        rw [rmG4_4 (by omega), if_pos hj', e1]
        show ¬ (cSI s 201 (H 186 (G 1 r)) (nI (a2 + d))).I 170 _ < (cSI s 201 (H 186 (G 1 r)) (nI (a2 + d))).I 199 _
        rw [cSI_g (by decide), cSI_g (by decide)]
        exact hpr j hj' hk'
      · rw [n1] at hj'
        have sk : (if 2700 * r + a2 ≤ 2700 * r + j ∧ 2700 * r + j < 2700 * r + (a2 + d) then 2700 * r + j + 1 else 2700 * r + j) = 2700 * r + skI a2 j := by
          unfold skI
          by_cases c : j < a2
          · rw [if_neg (by omega), if_pos c]
          · rw [if_pos (by omega), if_neg c]; rfl
        unfold pfR
        rw [o1.2.2.1 106 (by decide), o1.2.2.1 109 (by decide), o1.2.2.2 107 (by decide), o1.2.2.2 108 (by decide), sk]
end Al
