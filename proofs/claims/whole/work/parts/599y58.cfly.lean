/-! A datagram is on its way: the class. -/
/-- new objects out of another state -/
def mrgS (A : List Nat) (s s5 : cS) : cS := (fun a => if a ∈ A then s5.K a else s.K a, fun g a => if a ∈ A then s5.I g a else s.I g a, fun g a => if a ∈ A then s5.J g a else s.J g a, fun g a => if a ∈ A then s5.P g a else s.P g a, fun a => if a ∈ A then s5.E a else s.E a, fun a => if a ∈ A then s5.Q a else s.Q a)
theorem mrgS_y {A : List Nat} {s s5 : cS} {a : Nat} (h : a ∈ A) : ov (mrgS A s s5) a = ov s5 a := ov_eq (if_pos h) (fun _ => if_pos h) (fun _ => if_pos h) (fun _ => if_pos h) (if_pos h) (if_pos h)
theorem mrgS_n {A : List Nat} {s s5 : cS} {a : Nat} (h : a ∉ A) : ov (mrgS A s s5) a = ov s a := ov_eq (if_neg h) (fun _ => if_neg h) (fun _ => if_neg h) (fun _ => if_neg h) (if_neg h) (if_neg h)
theorem ov_J {s : cS} {a : Nat} {v : Ov} (h : ov s a = v) (g : Nat) : s.J g a = v.2.2.1 g := by rw [← h]; rfl
theorem hp_mg {sa : Nat → Nat} {s s4 s5 : cS} {L : List (Nat × Ov)} (h : HP sa s4 L s5) (hK : s4.K = s.K) : HP sa s L (mrgS (L.map Prod.fst) s s5) := by
  obtain ⟨h1, h2, h3⟩ := h
  refine ⟨fun a ha => mrgS_n fun z => ?_, fun p hp => ?_, h3⟩
  · obtain ⟨p, hp, e⟩ := List.mem_map.mp z
    exact ha p hp e
  · obtain ⟨a1, a2, a3⟩ := h2 p hp
    refine ⟨(mrgS_y (List.mem_map.mpr ⟨p, hp, rfl⟩)).trans a1, ⟨?_, a2.2⟩, a3⟩
    rw [← hK]; exact a2.1
/-- how many datagrams may still be made -/
def dN (G : Nat → Nat → Nat) (t : moS) : Nat := 258 - (cF t + G 12 999 + 1)
section Cf
variable {G H : Nat → Nat → Nat} {sa : Nat → Nat} {x p l kc ks : Nat} {s : cS} {t : moS} {L : List Int32} {fm ta f po ho du wt : Int32} {th tl h lo : Int64} {sn : Option Nat}
theorem c_fly (hR : RR G H sa x s t) (hM : MV t) (h2 : cF t < 256) (hl : l < cL t) (hp : p < 256) (h0 : t.I 125 p = 0) (hD : DRf H s (G 11 999) L ta th tl f h lo po ho sn) (hsn : sn = if fm = -1 then none else some (G 1 (fm.toNatClampNeg / 4))) (hdu : s.I 225 x + wt = du) (hkc : 5 * dN G t ≤ kc) (hks : 622 * dN G t ≤ ks) {Q : cS → Nat → Nat → Prop} (kk : ∀ G' H' s' kc' ks', RR G' H' sa x s' (flT t p l fm ta th tl f h lo po ho du L) → (∀ b, b ≠ 11 → b ≠ 12 → G' b = G b) → hA H H' s → fr Rfl Pfl Qfl s s' → kc + 5 * dN G' (flT t p l fm ta th tl f h lo po ho du L) ≤ kc' + 5 * dN G t → ks + 622 * dN G' (flT t p l fm ta th tl f h lo po ho du L) ≤ ks' + 622 * dN G t → HO G H s t G' s' (flT t p l fm ta th tl f h lo po ho du L) → Q s' kc' ks') : C_Rf_launch_b131 sa x (some (G 0 l)) wt s kc ks Q := by
  have hq := hR.q.1
  have hT := hq.ty
  have hx := hq.1.1
  obtain ⟨⟨a1, a2, a3⟩, b, c, ⟨d1, d2⟩, e1, e2, e3, e4, e5⟩ := hq.2.2.2.2.2.2
  have k133 := (hT.r hx 232 133 256)
  have k134 := (hT.r hx 234 134 258)
  have dx : G 11 999 ≠ x := ne_ro d2 hx
  have ox : ∀ s1 : cS, s1.K = s.K → okO s1 11 x := fun s1 e => by unfold okO; rw [e]; exact okr hx 11
  have oD : ∀ s1 : cS, s1.K = s.K → okO s1 2 (G 11 999) := fun s1 e => by unfold okO; rw [e]; exact okr d2 2
  obtain ⟨u1, u2⟩ := cF_up hM.2.2.2.2.1.1 h2
  have eF : cF (flT t p l fm ta th tl f h lo po ho du L) = cF t + 1 := by unfold cF; rw [flT_S]; exact u2
  have hF : t.S 123 = nI (cF t) := hM.2.2.2.2.1.1.n.1
  unfold C_Rf_launch_b131
  refine ⟨_, gd_to (ox _ rfl), _, d1, _, gd_to (oD _ rfl), ?_⟩
  refine ⟨_, gd_to (ox _ rfl), _, gd_to (ox _ rfl), G 11 999, (cSP_g (by decide)).trans d1, _, gd_to (oD _ rfl), ?_⟩
  generalize hs2 : cSI (cSP s 48 (G 11 999) (some (G 0 l))) 49 (G 11 999) du = s2
  have es2 : cSI (cSP s (20 * 2 + 8) (G 11 999) (some (G 0 l))) (20 * 2 + 9) (G 11 999) ((cSP s (20 * 2 + 8) (G 11 999) (some (G 0 l))).I (20 * 11 + 5) x + wt) = s2 := by rw [← hs2, ← hdu]; rfl
  rw [es2]
  have K2 : s2.K = s.K := by rw [← hs2]; rfl
  have P2 : ∀ g a, ¬ (g = 48 ∧ a = G 11 999) → s2.P g a = s.P g a := fun g a hg => by
    rw [← hs2]
    show (cSP s 48 (G 11 999) (some (G 0 l))).P g a = _
    by_cases c : g = 48
    · rw [c]; exact cSP_a (fun z => hg ⟨c, z⟩)
    · exact cSP_g c
  have P2' : s2.P 48 (G 11 999) = some (G 0 l) := by rw [← hs2]; exact cSP_s
  have I2 : ∀ g a, ¬ (g = 49 ∧ a = G 11 999) → s2.I g a = s.I g a := fun g a hg => by
    rw [← hs2, evI, if_neg hg]; rfl
  have I2' : s2.I 49 (G 11 999) = du := by rw [← hs2]; exact cSI_s
  have J2 : s2.J = s.J := by rw [← hs2]; rfl
  have E2 : s2.E = s.E := by rw [← hs2]; rfl
  have Q2 : s2.Q = s.Q := by rw [← hs2]; rfl
  clear es2 hs2
  refine ⟨_, gd_to (ox _ K2), _, gd_to (ox _ K2), _, gd_to (ox _ K2), H 232 x, (P2 232 x (by omega)).trans k133.1, ?_⟩
  have eV : s2.I (20 * 11 + 13) x = nI (cF t) := (I2 233 x (by omega)).trans (a1.trans hF)
  have eD : s2.P (20 * 11 + 16) x = some (G 11 999) := (P2 236 x (by omega)).trans d1
  rw [eV, eD]
  refine ⟨_, gd_to ⟨⟨by rw [K2, k133.2]; decide, by rw [K2, k133.2]; decide, by rw [K2, k133.2]; exact vp_in_nI h2 (by decide)⟩, by rw [K2, k133.2]; decide, fun b hb => by cases hb; rw [K2, k133.2]; exact oD _ K2⟩, ?_⟩
  rw [nI_clamp (show cF t < 2 ^ 31 by omega)]
  refine ⟨_, gd_to (ox _ K2), _, gd_to (ox _ K2), _, gd_to (ox _ K2), ?_⟩
  rw [show (cSQ s2 (H 232 x) (cF t) (some (G 11 999))).I (20 * 11 + 13) x + 1 = nI (cF t + 1) by rw [← nI_1]; exact congrArg (· + 1) eV]
  generalize hs4 : cSI (cSQ s2 (H 232 x) (cF t) (some (G 11 999))) (20 * 11 + 13) x (nI (cF t + 1)) = s4
  have K4 : s4.K = s.K := by rw [← hs4]; exact K2
  have P4 : s4.P = s2.P := by rw [← hs4]; rfl
  have I4 : ∀ g a, ¬ (g = 233 ∧ a = x) → s4.I g a = s2.I g a := fun g a hg => by rw [← hs4, evI, if_neg hg]; rfl
  have I4' : s4.I 233 x = nI (cF t + 1) := by rw [← hs4]; exact cSI_s
  have J4 : s4.J = s.J := by rw [← hs4]; exact J2
  have E4 : s4.E = s.E := by rw [← hs4]; exact E2
  have Q4 : ∀ a, a ≠ H 232 x → s4.Q a = s.Q a := fun a ha => by rw [← hs4]; exact (cSQ_a ha).trans (by rw [Q2])
  have Q4' : ∀ i, s4.Q (H 232 x) i = if i = cF t then some (G 11 999) else s.Q (H 232 x) i := fun i => by
    rw [← hs4]
    show (cSQ s2 (H 232 x) (cF t) (some (G 11 999))).Q (H 232 x) i = _
    rw [cSQ_s, Q2]
    rfl
  clear hs4
  have e235 : s4.I (20 * 11 + 15) x = nI (G 12 999) := (I4 235 x (by omega)).trans ((I2 235 x (by omega)).trans a2)
  rw [e235]
  have kcF : cF t + G 12 999 + 1 ≤ 258 := a3
  by_cases c0 : G 12 999 = 0
  · rw [c0]
    refine ifF (by decide) ?_
    have dn : 1 ≤ dN G t := by unfold dN; omega
    refine hq_nwO (u := 6) hp_rf (by omega) (by omega) (fun q s5 h5 => ⟨hp_o (L1 := []) h5 (by decide), hq_Da h5 (by omega) (by omega) fun A s6 h6 => ?_⟩) (by decide)
    have h7 := hp_mg (s := s) h6 K4
    obtain ⟨r1, r2, r3, r4⟩ := rr_newDa hR hM h7
    have ox6 : okO s6 11 x := by
      have := h6.1 x (fun p hp e => by
        have := (h6.2.1 p hp).2.1.1
        rw [e, K4, hx] at this
        exact absurd this (by decide))
      have e : s6.K x = s4.K x := ov_K this
      unfold okO; rw [e, K4]; exact okr hx 11
    refine ⟨_, gd_to ox6, ?_⟩
    -- the state in which they are new already
    generalize hA' : (List.map Prod.fst [(q, daNv A), (A 42, prNv 13), (A 41, prNv 12), (A 40, byNv 3 (A 0)), (A 0, ov0 (129, 600))]) = AL at *
    have fresh : ∀ a, a ∈ AL → (s.K a).1 = 0 := fun a ha => by
      rw [← hA'] at ha
      obtain ⟨p, hp, e⟩ := List.mem_map.mp ha
      have := (h6.2.1 p hp).2.1.1
      rw [K4, e] at this
      exact this
    have old : ∀ a, a ∉ AL → ov s6 a = ov s4 a := fun a ha => h6.1 a (fun p hp e => ha (by rw [← hA']; exact List.mem_map.mpr ⟨p, hp, e⟩))
    have nin : ∀ a u, (s.K a).1 = u → u ≠ 0 → a ∉ AL := fun a u ha hu z => hu (ha.symm.trans (fresh a z))
    have xn := nin x 30 hx (by decide)
    have Dn := nin (G 11 999) 6 d2 (by decide)
    have Hn := nin (H 232 x) 133 (by rw [k133.2]) (by decide)
    have cK6 : ∀ a, a ∉ AL → s6.K a = s4.K a := fun a ha => ov_K (old a ha)
    have cJ6 : ∀ g a, a ∉ AL → s6.J g a = s4.J g a := fun g a ha => ov_J (old a ha) g
    have cE6 : ∀ a, a ∉ AL → s6.E a = s4.E a := fun a ha => ov_E (old a ha)
    have cI6 : ∀ g a, a ∉ AL → s6.I g a = s4.I g a := fun g a ha => ov_I (old a ha) g
    have cP6 : ∀ g a, a ∉ AL → s6.P g a = s4.P g a := fun g a ha => ov_P (old a ha) g
    have cQ6 : ∀ a, a ∉ AL → s6.Q a = s4.Q a := fun a ha => ov_Q (old a ha)
    have eH : upH H q A 232 x = H 232 x := upH_n (fun z => by rw [← z, hx] at r4; exact absurd r4 (by decide))
    have hAq : hA H (upH H q A) s := hA_up r4
    have hD' : DRf (upH H q A) (mrgS AL s s6) (G 11 999) L ta th tl f h lo po ho sn := by
      obtain ⟨q1, q2, ⟨q3, q4, q5, q6⟩, q7, q8⟩ := hD
      have k3 := (hT.p d2 40 3).2
      have k12 := (hT.p d2 41 12).2
      have k13 := (hT.p d2 42 13).2
      have vD := mrgS_n (s5 := s6) (s := s) Dn
      have v12 := mrgS_n (s5 := s6) (s := s) (nin _ 12 k12 (by decide))
      have v13 := mrgS_n (s5 := s6) (s := s) (nin _ 13 k13 (by decide))
      unfold DRf PF
      rw [hAq 40 _ (by rw [d2]; decide), hAq 41 _ (by rw [d2]; decide), hAq 42 _ (by rw [d2]; decide), ov_I vD, ov_I vD, ov_I vD, ov_I vD, ov_P vD, ov_I v12, ov_I v12, ov_J v12, ov_J v12, ov_I v13, ov_J v13, ov_J v13]
      exact ⟨q1.fr r2 k3 (by decide) (by decide) (by decide), q2, ⟨q3, q4, q5, q6⟩, q7, q8⟩
    have hKm : ∀ a, (mrgS AL s s6).K a = s6.K a := fun a => by
      by_cases c : a ∈ AL
      · exact if_pos c
      · refine (if_neg c).trans ?_
        rw [cK6 a c, K4]
    have qn : q ∈ AL := by rw [← hA']; simp
    have F := fly_rr (s' := cSP s6 236 x (some q)) (n := 0) (D := q) (p := p) (l := l) (L := L) (fm := fm) (ta := ta) (th := th) (tl := tl) (f := f) (h := h) (lo := lo) (po := po) (ho := ho) (du := du) r1 hM h2 hl hp h0 hD' hsn (funext fun a => (hKm a).symm) (fun g a h1 h2 => by
        have e : (cSP s6 236 x (some q)).P g a = s6.P g a := by
          by_cases c : g = 236
          · rw [c]; exact cSP_a (fun z => h2 ⟨c, z⟩)
          · exact cSP_g c
        rw [e]
        by_cases c : a ∈ AL
        · exact (if_pos c).symm
        · refine Eq.trans ?_ (if_neg c).symm
          rw [cP6 g a c, P4]
          exact P2 g a h1) (by rw [cSP_g (by decide), cP6 48 _ Dn, P4]; exact P2') cSP_s (fun g a h1 h2 => by
        show s6.I g a = _
        by_cases c : a ∈ AL
        · exact (if_pos c).symm
        · refine Eq.trans ?_ (if_neg c).symm
          rw [cI6 g a c, I4 g a (fun z => h2 ⟨z.2, Or.inl z.1⟩)]
          exact I2 g a h1) (by show s6.I 49 _ = _; rw [cI6 49 _ Dn, I4 49 _ (by omega)]; exact I2') (by show s6.I 233 x = _; rw [cI6 233 x xn]; exact I4') (by show s6.I 235 x = _; rw [cI6 235 x xn, e235, c0]) (funext fun g => funext fun a => by
        show s6.J g a = _
        by_cases c : a ∈ AL
        · exact (if_pos c).symm
        · refine Eq.trans ?_ (if_neg c).symm
          rw [cJ6 g a c, J4]) (funext fun a => by
        show s6.E a = _
        by_cases c : a ∈ AL
        · exact (if_pos c).symm
        · refine Eq.trans ?_ (if_neg c).symm
          rw [cE6 a c, E4]) (fun a ha => by
        show s6.Q a = _
        by_cases c : a ∈ AL
        · exact (if_pos c).symm
        · refine Eq.trans ?_ (if_neg c).symm
          rw [cQ6 a c]
          exact Q4 a (by rw [eH] at ha; exact ha)) (fun i => by
        show s6.Q _ i = _
        rw [eH, cQ6 _ Hn, Q4', show (mrgS AL s s6).Q (H 232 x) = s.Q (H 232 x) from if_neg Hn]) (by rw [hKm, ← hKm, r3]) (Nat.zero_le _) (by omega) (fun z => by rw [z, d2] at r4; exact absurd r4 (by decide)) (fun i hi z => by
        have := (b i hi).2.1
        rw [z] at this
        omega) (fun i hi => absurd hi (Nat.not_lt_zero i))
    refine kk (flG G (cF t) 0 q) (upH H q A) _ _ _ F.1 (fun b h1 h2 => by funext i; unfold flG; rw [if_neg h1, if_neg h2]) hAq ((r2.wk (by decide) (by decide) (by decide)).tr F.2) ?_ ?_ ?_
    rotate_left 2
    · intro A kA hFA
      refine ⟨hdF.pt hT kA d2 hx hFA.1 fun a ha n1 n2 => ?_, fun z => ?_, fun i hi => ?_, fun i hi => absurd hi (Nat.not_lt_zero i), by rw [eF, show flG G (cF t) 0 q 12 999 = 0 from rfl]; omega⟩
      · have hn : a ∉ AL := fun z => ha (fresh a z)
        refine ⟨⟨fun g => ?_, fun g => ?_⟩, ⟨?_, ?_⟩, fun g => ?_⟩
        · show s6.I g a = _
          rw [cI6 g a hn, I4 g a (fun z => n2 z.2)]
          exact I2 g a (fun z => n1 z.2)
        · show s6.J g a = _
          rw [cJ6 g a hn, J4]
        · show s6.E a = _
          rw [cE6 a hn, E4]
        · show s6.K a = _
          rw [cK6 a hn, K4]
        · rw [cSP_o n2, cP6 g a hn, P4]
          exact P2 g a (fun z => n1 z.2)
      · have z : A = q := z.trans (by unfold flG; rw [if_pos rfl, if_neg (by omega), if_pos rfl])
        rw [z] at kA
        omega
      · rw [eF] at hi
        show flG G (cF t) 0 q 11 i ≠ A
        unfold flG
        rw [if_pos rfl]
        by_cases ci : i = cF t
        · rw [if_pos ci]; exact hFA.1.symm
        · rw [if_neg ci, if_neg (by omega)]; exact hFA.2.1 i (by omega)
    · have : dN (flG G (cF t) 0 q) (flT t p l fm ta th tl f h lo po ho du L) = 258 - (cF t + 1 + 0 + 1) := by unfold dN; rw [eF]; rfl
      rw [this]; unfold dN at hkc dn ⊢; omega
    · have : dN (flG G (cF t) 0 q) (flT t p l fm ta th tl f h lo po ho du L) = 258 - (cF t + 1 + 0 + 1) := by unfold dN; rw [eF]; rfl
      rw [this]; unfold dN at hks dn ⊢; omega
  · refine ifT (nI_lt (a := 0) (by omega) (by omega)) ?_
    refine ⟨_, gd_to (ox _ K4), _, gd_to (ox _ K4), ?_⟩
    have en : s4.I (20 * 11 + 15) x - 1 = nI (G 12 999 - 1) := by
      rw [e235, show nI (G 12 999) = nI (G 12 999 - 1) + 1 by rw [nI_1]; congr 1; omega, Int32.add_sub_cancel]
    rw [en]
    generalize hs5 : cSI s4 (20 * 11 + 15) x (nI (G 12 999 - 1)) = s5
    have K5 : s5.K = s.K := by rw [← hs5]; exact K4
    have P5 : s5.P = s2.P := by rw [← hs5]; exact P4
    have Q5 : s5.Q = s4.Q := by rw [← hs5]; rfl
    have I5 : ∀ g a, ¬ (g = 235 ∧ a = x) → s5.I g a = s4.I g a := fun g a hg => by rw [← hs5, evI, if_neg hg]
    have I5' : s5.I 235 x = nI (G 12 999 - 1) := by rw [← hs5]; exact cSI_s
    have J5 : s5.J = s.J := by rw [← hs5]; exact J4
    have E5 : s5.E = s.E := by rw [← hs5]; exact E4
    clear hs5
    have n232 : H 234 x ≠ H 232 x := ne_ro (u := 134) (v := 133) (by rw [k134.2]) (by rw [k133.2])
    obtain ⟨cc1, cc2⟩ := c (G 12 999 - 1) (by omega)
    refine ⟨_, gd_to (ox _ K5), _, gd_to (ox _ K5), H 234 x, by rw [P5]; exact (P2 234 x (by omega)).trans k134.1, ?_⟩
    rw [show s5.I (20 * 11 + 15) x = nI (G 12 999 - 1) from I5']
    refine ⟨_, gd_to ⟨by rw [K5, k134.2]; decide, by rw [K5, k134.2]; decide, by rw [K5, k134.2]; exact vp_in_nI (by omega) (by decide)⟩, ?_⟩
    rw [nI_clamp (show G 12 999 - 1 < 2 ^ 31 by omega), Q5, Q4 _ n232, cc1]
    refine ⟨_, gd_to (ox _ K5), ?_⟩
    have F := fly_rr (s' := cSP s5 236 x (some (G 12 (G 12 999 - 1)))) (n := G 12 999 - 1) (D := G 12 (G 12 999 - 1)) (p := p) (l := l) (L := L) (fm := fm) (ta := ta) (th := th) (tl := tl) (f := f) (h := h) (lo := lo) (po := po) (ho := ho) (du := du) hR hM h2 hl hp h0 hD hsn K5 (fun g a h1 h2 => by
        have e : (cSP s5 236 x (some (G 12 (G 12 999 - 1)))).P g a = s5.P g a := by
          by_cases c : g = 236
          · rw [c]; exact cSP_a (fun z => h2 ⟨c, z⟩)
          · exact cSP_g c
        rw [e, P5]
        exact P2 g a h1) (by rw [cSP_g (by decide), P5]; exact P2') cSP_s (fun g a h1 h2 => by
        show s5.I g a = _
        rw [I5 g a (fun z => h2 ⟨z.2, Or.inr z.1⟩), I4 g a (fun z => h2 ⟨z.2, Or.inl z.1⟩)]
        exact I2 g a h1) (by show s5.I 49 _ = _; rw [I5 49 _ (by omega), I4 49 _ (by omega)]; exact I2') (by show s5.I 233 x = _; rw [I5 233 x (by omega)]; exact I4') I5' J5 E5 (fun a ha => by show s5.Q a = _; rw [Q5]; exact Q4 a ha) (fun i => by show s5.Q _ i = _; rw [Q5]; exact Q4' i) cc2 (by omega) (by omega) (e5 _ (by omega)) (fun i hi => e3 i _ hi (by omega)) (fun i hi z => by
        have := e2 i (G 12 999 - 1) (by omega) (by omega) z
        omega)
    refine kk (flG G (cF t) (G 12 999 - 1) (G 12 (G 12 999 - 1))) H _ _ _ F.1 (fun b h1 h2 => by funext i; unfold flG; rw [if_neg h1, if_neg h2]) hA.rf F.2 ?_ ?_ ?_
    rotate_left 2
    · intro A kA hFA
      refine ⟨hdF.pt hT kA d2 hx hFA.1 fun a ha n1 n2 => ?_, fun z => ?_, fun i hi => ?_, fun i hi => ?_, by have := hFA.2.2.2; rw [eF, show flG G (cF t) (G 12 999 - 1) (G 12 (G 12 999 - 1)) 12 999 = G 12 999 - 1 from rfl]; omega⟩
      · refine ⟨⟨fun g => ?_, fun g => ?_⟩, ⟨?_, ?_⟩, fun g => ?_⟩
        · show s5.I g a = _
          rw [I5 g a (fun z => n2 z.2), I4 g a (fun z => n2 z.2)]
          exact I2 g a (fun z => n1 z.2)
        · show s5.J g a = _
          rw [J5]
        · show s5.E a = _
          rw [E5]
        · show s5.K a = _
          rw [K5]
        · rw [cSP_o n2, P5]
          exact P2 g a (fun z => n1 z.2)
      · exact hFA.2.2.1 (G 12 999 - 1) (by omega) (show A = G 12 (G 12 999 - 1) from z.trans (by unfold flG; rw [if_pos rfl, if_neg (by omega), if_pos rfl])).symm
      · rw [eF] at hi
        show flG G (cF t) (G 12 999 - 1) (G 12 (G 12 999 - 1)) 11 i ≠ A
        unfold flG
        rw [if_pos rfl]
        by_cases ci : i = cF t
        · rw [if_pos ci]; exact hFA.1.symm
        · rw [if_neg ci, if_neg (by omega)]; exact hFA.2.1 i (by omega)
      · have hi : i < G 12 999 - 1 := hi
        show flG G (cF t) (G 12 999 - 1) (G 12 (G 12 999 - 1)) 12 i ≠ A
        unfold flG
        rw [if_neg (by decide), if_pos rfl, if_neg (by omega)]
        exact hFA.2.2.1 i (by omega)
    · have : dN (flG G (cF t) (G 12 999 - 1) (G 12 (G 12 999 - 1))) (flT t p l fm ta th tl f h lo po ho du L) = 258 - (cF t + 1 + (G 12 999 - 1) + 1) := by unfold dN; rw [eF]; rfl
      rw [this]; unfold dN; omega
    · have : dN (flG G (cF t) (G 12 999 - 1) (G 12 (G 12 999 - 1))) (flT t p l fm ta th tl f h lo po ho du L) = 258 - (cF t + 1 + (G 12 999 - 1) + 1) := by unfold dN; rw [eF]; rfl
      rw [this]; unfold dN; omega
end Cf
