/-! A table is told on an interface: both sides. -/
abbrev Wdn : List Nat := Wga ++ [146, 147, 148]
theorem ar_t5 {d m N : Nat} (h : d + (m + 1) * 4425 < N) : d + m * 4425 < N := Nat.lt_of_le_of_lt (Nat.add_le_add_left (Nat.mul_le_mul_right 4425 (Nat.le_succ m)) d) h
theorem ar_t6 {d m n N : Nat} (h4 : n ≤ 4) (h : d + (m + 1) * 4425 < N) : d + n * 885 < N := Nat.lt_of_le_of_lt (Nat.add_le_add_left (Nat.le_trans (Nat.mul_le_mul_right 885 h4) (Nat.le_trans (show 4 * 885 ≤ 1 * 4425 by decide) (Nat.mul_le_mul_right 4425 (Nat.le_add_left 1 m)))) d) h
section Tp
variable {G H : Nat → Nat → Nat} {sa : Nat → Nat} {x kc ks r p l f : Nat} {s : cS} {t t1 : moS} {L : List En} {how : Int32} {Q : cS → Nat → Nat → Prop}
theorem mc_fr {W : List Nat} {q : Nat} {V : chV} (h : MC t q V) (m : mfr W t t1) (d : dj [79, 80, 81, 82, 83, 84, 85, 86, 87, 88] W) : MC t1 q V := by
  unfold MC at h ⊢
  rw [m.I 79 (d.n 79), m.I 80 (d.n 80), m.I 81 (d.n 81), m.I 82 (d.n 82), m.I 83 (d.n 83), m.I 84 (d.n 84), m.I 85 (d.n 85), m.I 86 (d.n 86), m.I 87 (d.n 87), m.I 88 (d.n 88)]
  exact h
theorem MV.dn (hM : MV t) (m : mfr Wdn t t1) : MV t1 := hM.fr m rfl (hM.1.fr m rfl)
/-- on a link that is down: the model alone -/
theorem m_down (hf : f = 0 ∨ f = 1) (hM : MV t) (hr : r < cR t) (hp : p < cI t r) (hlL : l < cL t) (h71 : t.I 71 (4 * r + p) = nI l) (hV : ∃ V, VV V ∧ MC t (4 * r + p) V) (hh : how = 0 ∨ how = 1 ∨ how = 2) (h75 : t.I 75 (2 * (4 * r + p) + f) ≠ 0) (hz : t.I 22 l = 0) : ∃ t', M_tell_s2 t (nI (4 * r + p)) how (nI f) = some (.inl (nI (f + 1), t')) ∧ mfr Wdn t t' := by
  have h6 := hM.nR
  have h4 := hM.nIf hr
  obtain ⟨V, z4, z6⟩ := hV
  have hfa : bit (nI f) := by
    rcases hf with rfl | rfl
    · exact Or.inl rfl
    · exact Or.inr rfl
  have hf2 : f < 2 := by omega
  obtain ⟨t1, e1, E1, m1⟩ := m_gather (f := nI f) hM hr hp h71 hfa hh
  obtain ⟨-, hok, hLen⟩ := gL_ok (l := l) (f := nI f) hM hr hp hfa hh
  generalize gL t r (4 * r + p) l (nI f) how = L at E1 hok hLen
  have tv : ∀ {u : moS} (ta : Int32) (th tl : Int64), mfr Wdn t u → EN u L → ∃ t', M_tellTo u (nI (4 * r + p)) (nI f) ta th tl = some t' ∧ mfr Wdn t t' ∧ EN t' L := fun {u} ta th tl mu eu => by
    obtain ⟨t', q1, q2⟩ := m_tv (ta := ta) (th := th) (tl := tl) hf hok hLen (hM.dn mu) (by unfold cR; rw [mu.S 37 (by decide)]; exact hr) (by unfold cI; rw [mu.I 70 (by decide)]; exact hp) (by unfold cL; rw [mu.S 17 (by decide)]; exact hlL) (by rw [mu.I 71 (by decide)]; exact h71) ⟨V, z4, mc_fr z6 mu rfl⟩ eu (by rw [mu.I 22 (by decide)]; exact hz)
    exact ⟨t', q1, mu.tr (q2.wk (by decide)), eu.fr q2 rfl⟩
  obtain ⟨NB, eNB, -, hNB⟩ := ((hM.r hr).i hp).2.2.2.2.2.2.2.2.2.2.2.2.2.2.2.1
  have e4 : (4 : Int32) * nI (4 * r + p) + nI NB = nI (4 * (4 * r + p) + NB) := by rw [show (4 : Int32) = nI 4 from rfl, pk_mul, nI_add]
  have nb : ∀ m j, j + m = NB → ∀ u, mfr Wdn t u → EN u L → ∃ t', M_tell_b53 u (nI (4 * r + p)) how (nI f) (nI (4 * (4 * r + p) + j)) = some (.inl (nI (f + 1), t')) ∧ mfr Wdn t t' := by
    intro m
    induction m with
    | zero =>
      intro j hj u mu eu
      have hj : j = NB := by omega
      subst hj
      have hMu := hM.dn mu
      refine ⟨u, ?_, mu⟩
      unfold M_tell_b53
      refine lp_x ?_
      show M_tell_s53 u (nI (4 * r + p)) how (nI f) (nI (4 * (4 * r + p) + j)) = _
      unfold M_tell_s53 M_tell_b106
      rw [rdI_n (n := 24) (hMu.n.n 95 24) (by omega) (by decide), mu.I 95 (by decide), eNB]
      simp only [Option.bind_some]
      rw [e4, if_neg (nI_nlt (Nat.le_refl _) (by omega)), nI_1]
    | succ m ih =>
      intro j hj u mu eu
      have hMu := hM.dn mu
      have go : ∀ u', mfr Wdn t u' → EN u' L → M_tell_s53 u (nI (4 * r + p)) how (nI f) (nI (4 * (4 * r + p) + j)) = some (.inl (nI (4 * (4 * r + p) + (j + 1)), u')) → ∃ t', M_tell_b53 u (nI (4 * r + p)) how (nI f) (nI (4 * (4 * r + p) + j)) = some (.inl (nI (f + 1), t')) ∧ mfr Wdn t t' := fun u' mu' eu' st => by
        obtain ⟨t', w1, w2⟩ := ih (j + 1) (by omega) u' mu' eu'
        refine ⟨t', ?_, w2⟩
        unfold M_tell_b53 at w1 ⊢
        exact (lp_l (f := fun x : Int32 × moS => M_tell_s53 x.2 (nI (4 * r + p)) how (nI f) x.1) st).trans w1
      have r96 : rdI u 96 (nI (4 * (4 * r + p) + j)) = some (u.I 96 (4 * (4 * r + p) + j)) := rdI_n (n := 96) (hMu.n.n 96 96) (by omega) (by decide)
      have s53 : M_tell_s53 u (nI (4 * r + p)) how (nI f) (nI (4 * (4 * r + p) + j)) = if u.I 96 (4 * (4 * r + p) + j) = nI f then Option.bind (M_tellTo u (nI (4 * r + p)) (nI f) 0 (u.J 97 (4 * (4 * r + p) + j)) (u.J 98 (4 * (4 * r + p) + j))) (fun s5 => some (.inl (nI (4 * (4 * r + p) + (j + 1)), s5))) else some (.inl (nI (4 * (4 * r + p) + (j + 1)), u)) := by
        unfold M_tell_s53 M_tell_b100
        rw [rdI_n (n := 24) (hMu.n.n 95 24) (by omega) (by decide), mu.I 95 (by decide), eNB]
        simp only [Option.bind_some]
        rw [e4, if_pos (nI_lt (by omega) (by omega)), r96]
        simp only [Option.bind_some]
        rw [rdJ_n (n := 96) (hMu.n.n 97 96) (by omega) (by decide), rdJ_n (n := 96) (hMu.n.n 98 96) (by omega) (by decide), nI_1]
        rfl
      by_cases c1 : u.I 96 (4 * (4 * r + p) + j) = nI f
      · rw [if_pos c1] at s53
        obtain ⟨u', q1, q2, q3⟩ := tv 0 (u.J 97 (4 * (4 * r + p) + j)) (u.J 98 (4 * (4 * r + p) + j)) mu eu
        rw [q1] at s53
        exact go u' q2 q3 s53
      · rw [if_neg c1] at s53
        exact go u mu eu s53
  have md : mfr Wdn t t1 := m1.wk (by decide)
  have hM1 := hM.dn md
  have st : ∃ t', (if t1.I 74 (4 * r + p) = 0 then (Option.bind (M_tellTo t1 (nI (4 * r + p)) (nI f) (1 : Int32) (0 : Int64) (0 : Int64)) (fun s4 => ((M_tell_b48 s4 (nI (4 * r + p)) how (nI f))))) else ((M_tell_b48 t1 (nI (4 * r + p)) how (nI f)))) = some (.inl (nI (f + 1), t')) ∧ mfr Wdn t t' := by
    have b48 : ∀ u, mfr Wdn t u → EN u L → ∃ t', M_tell_b48 u (nI (4 * r + p)) how (nI f) = some (.inl (nI (f + 1), t')) ∧ mfr Wdn t t' := fun u mu eu => by
      obtain ⟨t', w1, w2⟩ := nb NB 0 (by omega) u mu eu
      refine ⟨t', ?_, w2⟩
      unfold M_tell_b48
      rw [show (4 : Int32) * nI (4 * r + p) = nI (4 * (4 * r + p) + 0) by rw [show (4 : Int32) = nI 4 from rfl, pk_mul]; rfl]
      exact w1
    by_cases c : t1.I 74 (4 * r + p) = 0
    · rw [if_pos c]
      obtain ⟨u', q1, q2, q3⟩ := tv 1 0 0 md E1
      rw [q1]
      exact b48 u' q2 q3
    · rw [if_neg c]
      exact b48 t1 md E1
  obtain ⟨t', w1, w2⟩ := st
  refine ⟨t', ?_, w2⟩
  unfold M_tell_s2
  rw [if_pos (show nI f < 2 from nI_lt (b := 2) hf2 (by decide)), show (2 : Int32) * nI (4 * r + p) + nI f = nI (2 * (4 * r + p) + f) by rw [show (2 : Int32) = nI 2 from rfl, pk_mul, nI_add], rdI_n (n := 48) (hM.n.n 75 48) (by omega) (by decide)]
  simp only [Option.bind_some]
  rw [if_neg h75, e1]
  simp only [Option.bind_some]
  rw [rdI_n (n := 24) (hM1.n.n 74 24) (by omega) (by decide)]
  simp only [Option.bind_some]
  exact w1
/-- both families -/
theorem tl_f (hh : how = 0 ∨ how = 1 ∨ how = 2) {a2 : Int32} {P2 : Int32 → cS → Nat → Nat → Prop} : ∀ (m f : Nat), f + m = 2 → ∀ (G H : Nat → Nat → Nat) (s : cS) (t : moS) (kc ks : Nat), RR G H sa x s t → MV t → r < cR t → p < cI t r → l < cL t → t.I 71 (4 * r + p) = nI l → (∃ d, t.I 23 l = nI d ∧ d + m * 4425 < 2 ^ 31) → PoC s G H t + tdC G ≤ kc → PoS s G H t + tdS s G H x ≤ ks → (∀ t', M_tell_b2 t (nI (4 * r + p)) how (nI f) = some t' → MV t' → mfr Wtl t t' → SB l (m * 4425) t t' → SD t t' → TlK sa x G H s t kc ks t' (fun s' kc' ks' => P2 (a2 + 1) s' kc' ks')) → C_Rr_tell_b20 sa (G 1 r) how a2 (some (G 2 (4 * r + p))) (nI (4 + 2 * f)) s kc ks Q P2 := by
  intro m
  induction m with
  | zero =>
    intro f hf G H s t kc ks hR hM hr hp hlL h71 hs hkc hks k P20 hc
    refine hc _ _ _ _ ?_
    have hf : f = 2 := by omega
    subst hf
    unfold C_Rr_tell_s20
    refine ifT (by decide) (k t ?_ hM mfr.rf SB.rf SD.rf G H s kc ks hR (fun _ _ _ _ _ => rfl) hA.rf fr.rf (HO.rf rfl) (Nat.le_refl _) (Nat.le_refl _))
    unfold M_tell_b2
    refine lp_x ?_
    show M_tell_s2 t (nI (4 * r + p)) how (nI 2) = _
    unfold M_tell_s2
    rw [if_neg (by decide)]
  | succ m ih =>
    intro f hfm G H s t kc ks hR hM hr hp hlL h71 hs hkc hks k P20 hc
    refine hc _ _ _ _ ?_
    have h6 := hM.nR
    have h4 := hM.nIf hr
    have h10 := hM.nL
    have hq := hR.q.1
    have hf : f = 0 ∨ f = 1 := by omega
    have ef : nI (4 + 2 * f) = fam (nI f) := by rcases hf with rfl | rfl <;> rfl
    have ef2 : fam (nI f) + 2 = nI (4 + 2 * (f + 1)) := by rcases hf with rfl | rfl <;> rfl
    have hfa : bit (nI f) := by
      rcases hf with rfl | rfl
      · exact Or.inl rfl
      · exact Or.inr rfl
    have hX := px_of hR hM hr hp
    rw [show (t.I 71 (4 * r + p)).toNatClampNeg = l by rw [h71, nI_clamp (by omega)]] at hX
    obtain ⟨⟨x1, x2, x3, -⟩, ⟨y1, y2, y3, y4, y5, y6, y7, y8⟩, ⟨z1, z2, z3, z4, z5, z6⟩, -⟩ := hX
    have hAd : RAd G s t (4 * r + p) f := by
      have hP := hq.po hr hp
      rcases hf with rfl | rfl
      · exact hP.2.1
      · exact hP.2.2.1
    have r75 : rdI t 75 ((2 : Int32) * nI (4 * r + p) + nI f) = some (t.I 75 (2 * (4 * r + p) + f)) := by
      rw [show (2 : Int32) * nI (4 * r + p) + nI f = nI (2 * (4 * r + p) + f) by rw [show (2 : Int32) = nI 2 from rfl, pk_mul, nI_add]]
      exact rdI_n (n := 48) (hM.n.n 75 48) (by omega) (by decide)
    have hlt : nI f < (2 : Int32) := nI_lt (b := 2) (by omega) (by decide)
    have step : ∀ t2, M_tell_s2 t (nI (4 * r + p)) how (nI f) = some (.inl (nI (f + 1), t2)) → M_tell_b2 t (nI (4 * r + p)) how (nI f) = M_tell_b2 t2 (nI (4 * r + p)) how (nI (f + 1)) := fun t2 st => by
      unfold M_tell_b2
      exact lp_l (f := fun x : Int32 × moS => M_tell_s2 x.2 (nI (4 * r + p)) how x.1) st
    have adr : ∀ Q' : Option Nat → cS → Nat → Nat → Prop, Q' (s.P (81 + f) (G 2 (4 * r + p))) s kc ks → C_Po_addressOf sa (G 2 (4 * r + p)) (fam (nI f)) s kc ks Q' := fun Q' h => by
      unfold C_Po_addressOf
      rcases hf with rfl | rfl
      · exact ifT rfl ⟨_, gd_to y1, h⟩
      · exact ifF (by decide) ⟨_, gd_to y1, h⟩
    -- from here on nothing of this family
    have next : ∀ t2, mfr Wdn t t2 → M_tell_s2 t (nI (4 * r + p)) how (nI f) = some (.inl (nI (f + 1), t2)) → P20 (fam (nI f) + 2) s kc ks := fun t2 m2 st => by
      have hM2 := hM.dn m2
      have R2 : RR G H sa x s t2 := rr_fr hR hM hq.1 (fr.rf (Rv := []) (Gp := []) (Rq := [])) m2 rfl rfl rfl rfl rfl rfl rfl
      have ec := pot_t (G := G) (H := H) (s := s) m2 rfl
      rw [ef2]
      refine ih (f + 1) (by omega) G H s t2 kc ks R2 hM2 (by unfold cR; rw [m2.S 37 (by decide)]; exact hr) (by unfold cI; rw [m2.I 70 (by decide)]; exact hp) (by unfold cL; rw [m2.S 17 (by decide)]; exact hlL) (by rw [m2.I 71 (by decide)]; exact h71) ?_ (by rw [ec.1]; exact hkc) (by rw [ec.2]; exact hks) (fun t' q1 q2 q3 q4 q5 => ?_) P20 hc
      · obtain ⟨d, e, hd⟩ := hs
        exact ⟨d, by rw [m2.I 23 (by decide)]; exact e, ar_t5 hd⟩
      · have kk := k t' ((step t2 st).trans q1) q2 ((m2.wk (by decide)).tr q3) (((SB.fr (l := l) (n := 0) m2 (by decide)).tr q4).wk (by omega)) ((SD.fr m2 rfl).tr q5)
        exact kk.tr (fun _ _ _ _ _ => rfl) hA.rf fr.rf (HO.rf (by unfold cF; rw [m2.S 123 (by decide)])) (by rw [ec.1]; exact Nat.le_refl _) (by rw [ec.2]; exact Nat.le_refl _)
    rw [ef]
    unfold C_Rr_tell_s20
    refine ifF (by rcases hf with rfl | rfl <;> decide) ⟨_, rfl, y1, adr _ ?_⟩
    rcases hAd with ⟨h75, hpn⟩ | ⟨h75, ap, hps, -⟩
    · rw [hpn]
      refine ifT rfl ?_
      unfold C_Rr_tell_b119
      refine next t mfr.rf ?_
      unfold M_tell_s2 M_tell_b106
      rw [if_pos hlt, r75]
      simp only [Option.bind_some]
      rw [if_pos h75, nI_1]
    rw [hps]
    have n75 : t.I 75 (2 * (4 * r + p) + f) ≠ 0 := by rw [h75]; decide
    refine ifF (by intro z; cases z) ⟨_, gd_to y1, G 0 l, y3, _, gd_to y6, ?_⟩
    rw [show s.I (20 * 3 + 4) (G 0 l) = t.I 22 l from y7]
    by_cases up : t.I 22 l = 0
    · refine ifT up ?_
      unfold C_Rr_tell_b119
      obtain ⟨t2, w1, w2⟩ := m_down hf hM hr hp hlL h71 ⟨_, z4, z6⟩ hh n75 up
      exact next t2 w2 w1
    -- it is gathered
    refine ifF up ⟨x1, ?_⟩
    obtain ⟨t1, e1, E1, m1⟩ := m_gather (f := nI f) hM hr hp h71 hfa hh
    obtain ⟨-, hok, hLen⟩ := gL_ok (l := l) (f := nI f) hM hr hp hfa hh
    have md : mfr Wdn t t1 := m1.wk (by decide)
    have hM1 := hM.dn md
    have hr1 : r < cR t1 := by unfold cR; rw [m1.S 37 (by decide)]; exact hr
    have hp1 : p < cI t1 r := by unfold cI; rw [m1.I 70 (by decide)]; exact hp
    have hl1 : l < cL t1 := by unfold cL; rw [m1.S 17 (by decide)]; exact hlL
    have h711 : t1.I 71 (4 * r + p) = nI l := by rw [m1.I 71 (by decide)]; exact h71
    have h751 : t1.I 75 (2 * (4 * r + p) + f) ≠ 0 := by rw [m1.I 75 (by decide)]; exact n75
    have b48 : ∀ u, M_tell_b48 u (nI (4 * r + p)) how (nI f) = M_tell_b53 u (nI (4 * r + p)) how (nI f) (nI (4 * (4 * r + p) + 0)) := fun u => by
      unfold M_tell_b48
      rw [show (4 : Int32) * nI (4 * r + p) = nI (4 * (4 * r + p) + 0) by rw [show (4 : Int32) = nI 4 from rfl, pk_mul]; rfl]
    have s2e : M_tell_s2 t (nI (4 * r + p)) how (nI f) = if t.I 74 (4 * r + p) = 0 then (Option.bind (M_tellTo t1 (nI (4 * r + p)) (nI f) (1 : Int32) (0 : Int64) (0 : Int64)) (fun s4 => ((M_tell_b48 s4 (nI (4 * r + p)) how (nI f))))) else ((M_tell_b48 t1 (nI (4 * r + p)) how (nI f))) := by
      unfold M_tell_s2
      rw [if_pos hlt, r75]
      simp only [Option.bind_some]
      rw [if_neg n75, e1]
      simp only [Option.bind_some]
      rw [rdI_n (n := 24) (hM1.n.n 74 24) (by omega) (by decide), m1.I 74 (by decide)]
      simp only [Option.bind_some]
    refine c_gather hR hM hr hp h71 hlL hfa hh (ar_t3 hkc).2 (ar_t3 hks).2 (GaK.toT hR hM fun G1 H1 s1 kc1 ks1 R1 g1 h1 f1 T1 o1 c1 c2 => ?_)
    generalize gL t r (4 * r + p) l (nI f) how = L at E1 hok hLen T1
    have R1' : RR G1 H1 sa x s1 t1 := rr_fr R1 hM R1.q.1.1 (fr.rf (Rv := []) (Gp := []) (Rq := [])) m1 rfl rfl rfl rfl rfl rfl rfl
    have ec1 := pot_t (G := G1) (H := H1) (s := s1) m1 rfl
    have e11 : G1 1 = G 1 := g1 1 (by decide) (by decide)
    have e12 : G1 2 = G 2 := g1 2 (by decide) (by decide)
    have hkc1 : PoC s1 G1 H1 t1 + tdC G1 ≤ kc1 := by rw [ec1.1]; exact ar_7 c1 hkc
    have hks1 : PoS s1 G1 H1 t1 + tdS s1 G1 H1 x ≤ ks1 := by rw [ec1.2]; exact ar_7 c2 hks
    have o1' : HO G H s t G1 s1 t1 := fun A kA hF => ⟨(o1 A kA hF).1, by
      have := (o1 A kA hF).2
      unfold hFr at this ⊢
      rw [show cF t1 = cF t by unfold cF; rw [m1.S 123 (by decide)]]
      exact this⟩
    obtain ⟨NB, eNB, -, hNB⟩ := ((hM.r hr).i hp).2.2.2.2.2.2.2.2.2.2.2.2.2.2.2.1
    have k1 : ∀ t', M_tell_s2 t (nI (4 * r + p)) how (nI f) = some (.inl (nI (f + 1), t')) → MV t' → mfr Wtt t1 t' → SB l 4425 t1 t' → SD t1 t' → TlK sa x G1 H1 s1 t1 kc1 ks1 t' (fun s' kc' ks' => P20 (fam (nI f) + 2) s' kc' ks') := fun t2 w1 w2 w3 w4 w5 => by
      intro G2 H2 s2 kc2 ks2 R2 g2 h2 f2 o2 c3 c4
      have m02 : mfr Wtl t t2 := (m1.wk (by decide)).tr (w3.wk (by decide))
      have e21 : G2 1 = G 1 := (g2 1 (by decide) (by decide) (by decide) (by decide)).trans e11
      have e22 : G2 2 = G 2 := (g2 2 (by decide) (by decide) (by decide) (by decide)).trans e12
      have hc' := hc
      rw [← e21, ← e22] at hc'
      rw [ec1.1] at c3
      rw [ec1.2] at c4
      have x1' := ar_6 c1 c3
      have x2' := ar_6 c2 c4
      rw [ef2]
      refine ih (f + 1) (by omega) G2 H2 s2 t2 kc2 ks2 R2 w2 (by unfold cR; rw [m02.S 37 (by decide)]; exact hr) (by unfold cI; rw [m02.I 70 (by decide)]; exact hp) (by unfold cL; rw [m02.S 17 (by decide)]; exact hlL) (by rw [m02.I 71 (by decide)]; exact h71) ?_ (ar_7 x1' hkc) (ar_7 x2' hks) (fun t' q1 q2 q3 q4 q5 => ?_) P20 hc'
      · obtain ⟨d, e, hd⟩ := hs
        obtain ⟨-, d', hd', e'⟩ := w4
        refine ⟨d + d', ?_, by omega⟩
        rw [e', m1.I 23 (by decide), e, nI_add]
      · have kk := k t' ((step t2 w1).trans q1) q2 (m02.tr q3) ((((SB.fr (l := l) (n := 0) m1 (by decide)).tr w4).tr q4).wk (by omega)) (((SD.fr m1 rfl).tr w5).tr q5)
        exact kk.tr (fun b z1 z2 z3 z4 => (g2 b z1 z2 z3 z4).trans (g1 b z3 z4)) (fun y a ha => (h2 y a (by rw [(f1 a ha).1]; exact ha)).trans (h1 y a ha)) (f1.tr f2) (o1'.tr (fun A kA => f1.r kA) h1 o2) x1' x2'
    have k8 : (s1.K (G 2 (4 * r + p))).1 = 8 := f1.r y2
    have e85 : s1.I 85 (G 2 (4 * r + p)) = t.I 74 (4 * r + p) := by
      have := (R1.q.1.po hr hp).2.2.2.1.2.2.1
      rw [e12] at this
      exact this
    have hs1 : ∃ d, t1.I 23 l = nI d ∧ d + (m + 1) * 4425 < 2 ^ 31 := by
      obtain ⟨d, e, hd⟩ := hs
      exact ⟨d, by rw [m1.I 23 (by decide)]; exact e, hd⟩
    refine ⟨_, gd_to (okr k8 4), ?_⟩
    rw [show s1.I (20 * 4 + 5) (G 2 (4 * r + p)) = t.I 74 (4 * r + p) from e85]
    by_cases pa : t.I 74 (4 * r + p) = 0
    · rw [if_pos pa] at s2e
      refine ifT pa ⟨by rw [← e11]; exact okr (R1.q.1.rt hr).1.1 9, ?_⟩
      rw [← e11, ← e12]
      refine tt_all (ta := 1) (th := 0) (tl := 0) hf hok hLen R1' hM1 hr1 hp1 hl1 h711 h751 T1 E1 (Or.inl ⟨rfl, rfl⟩) ?_ (ar_t3 hkc1).1 (ar_t3 hks1).1 fun t2 w1 w2 w3 w4 w5 => ?_
      · obtain ⟨d, e, hd⟩ := hs1
        exact ⟨d, e, by omega⟩
      intro G2 H2 s2 kc2 ks2 R2 g2 h2 f2 o2 c3 c4
      obtain ⟨hT2, et1, et2⟩ := tdc_fr (sa := sa) T1 R1.q.1.1 (g2 15 (by decide) (by decide)) (g2 16 (by decide) (by decide)) h2 f2 rfl (by decide) (by decide)
      have x1' : kc1 + (PoC s2 G2 H2 t2 + tdC G2) ≤ kc2 + (PoC s1 G1 H1 t1 + tdC G1) := by rw [et1]; exact ar_t1 c3
      have x2' : ks1 + (PoS s2 G2 H2 t2 + tdS s2 G2 H2 x) ≤ ks2 + (PoS s1 G1 H1 t1 + tdS s1 G1 H1 x) := by rw [et2]; exact ar_t1 c4
      unfold C_Rr_tell_b72
      rw [show G1 1 = G2 1 from (g2 1 (by decide) (by decide)).symm, show G1 2 = G2 2 from (g2 2 (by decide) (by decide)).symm]
      refine tl_nb (NB := NB) hf hok hLen hNB NB 0 (by omega) G2 H2 s2 t2 kc2 ks2 R2 w2 (by unfold cR; rw [w3.S 37 (by decide)]; exact hr1) (by unfold cI; rw [w3.I 70 (by decide)]; exact hp1) (by unfold cL; rw [w3.S 17 (by decide)]; exact hl1) (by rw [w3.I 71 (by decide)]; exact h711) (by rw [w3.I 75 (by decide)]; exact h751) (by rw [w3.I 95 (by decide), m1.I 95 (by decide)]; exact eNB) hT2 (E1.fr w3 rfl) ?_ (ar_7 x1' hkc1) (ar_7 x2' hks1) fun t' q1 q2 q3 q4 q5 => ?_
      · obtain ⟨d, e, hd⟩ := hs1
        obtain ⟨-, d', hd', e'⟩ := w4
        refine ⟨d + d', by rw [e', e, nI_add], by omega⟩
      · rw [w1] at s2e
        have s2e : M_tell_s2 t (nI (4 * r + p)) how (nI f) = M_tell_b48 t2 (nI (4 * r + p)) how (nI f) := s2e
        rw [b48, q1, nI_1] at s2e
        exact (k1 t' s2e q2 (w3.tr q3) ((w4.tr q4).wk (by omega)) (w5.tr q5)).tr (fun b z1 z2 _ _ => g2 b z1 z2) h2 f2.wk o2 x1' x2'
    · rw [if_neg pa] at s2e
      refine ifF pa ?_
      unfold C_Rr_tell_b72
      rw [← e11, ← e12]
      refine tl_nb (NB := NB) hf hok hLen hNB NB 0 (by omega) G1 H1 s1 t1 kc1 ks1 R1' hM1 hr1 hp1 hl1 h711 h751 (by rw [m1.I 95 (by decide)]; exact eNB) T1 E1 ?_ hkc1 hks1 fun t' q1 q2 q3 q4 q5 => ?_
      · obtain ⟨d, e, hd⟩ := hs1
        exact ⟨d, e, ar_t6 hNB hd⟩
      · rw [b48, q1, nI_1] at s2e
        exact k1 t' s2e q2 q3 (q4.wk (by omega)) q5
end Tp
