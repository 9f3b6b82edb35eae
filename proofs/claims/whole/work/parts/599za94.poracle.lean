/-! oracle: both sides. -/
theorem an_nt {h m : Int64} : (h &&& m) &&& ~~~ m = 0 := by
  refine Int64.toBitVec_inj.mp ?_
  show (h.toBitVec &&& m.toBitVec) &&& ~~~ m.toBitVec = 0#64
  refine BitVec.eq_of_getLsbD_eq fun i hi => ?_
  simp only [BitVec.getLsbD_and, BitVec.getLsbD_not, BitVec.getLsbD_zero]
  cases h.toBitVec.getLsbD i <;> cases m.toBitVec.getLsbD i <;> simp
theorem lg_ok {t : moS} {f o : Nat} {n : Int32} (hM : MV t) (ho : o ≤ cR t) (hf : f = 0 ∨ f = 1) (e12 : t.S 12 = nI f) (h : lgA t o n) : lnOk (nI f) n := by
  obtain ⟨o', h1, -, h2⟩ := h
  have hr : o' < cR t := by omega
  rcases h2 with ⟨k, z1, z2, rfl⟩ | ⟨j, z1, z2, rfl⟩
  · rw [← e12, ← z2.1]
    exact ((hM.r hr).2.2.2.2.1 k z1).1
  · obtain ⟨y1, -, y3, -⟩ := z2
    have hp : j / 2 < cI t o' := by omega
    obtain ⟨-, -, -, -, -, ⟨b0, b1⟩, b2, b3, -⟩ := (hM.r hr).i hp
    rw [e12] at y3
    have ej := (nI_eq (show j % 2 < 2 ^ 31 by omega) (show f < 2 ^ 31 by omega)).mp y3
    rcases hf with rfl | rfl
    · rw [show 2 * (4 * o' + j / 2) = 8 * o' + j by omega] at b0 b2
      exact ⟨Or.inl rfl, b2 (b0.resolve_left y1)⟩
    · rw [show 2 * (4 * o' + j / 2) + 1 = 8 * o' + j by omega] at b1 b3
      exact ⟨Or.inr rfl, b3 (b1.resolve_left y1)⟩
section Po
variable {G H : Nat → Nat → Nat} {sa : Nat → Nat} {x kc ks : Nat} {s : cS} {t : moS} {Os : Nat → List Pf}
theorem P_oracle (hR : RR G H sa x s t) (hM : MV t) (hE : EX Os t) (hkc : 1 ≤ kc) (hks : 6 ≤ ks) (y : Int32) (Q : Int32 → cS → Nat → Nat → Prop) (k : ∀ r t', M_oracle t y = some (r, t') → MV t' → mfr [0, 3, 12, 13, 14, 16, 153, 154, 155, 156, 161] t t' → ∀ s' kc' ks', RR G H sa x s' t' → fr [39, 1, 18, 119] [] [] s s' → kc ≤ kc' + 1 → ks ≤ ks' + 6 → Q r s' kc' ks') : C_Rf_oracle sa x y s kc ks Q := by
  obtain ⟨hq, ⟨cap, hc, hb⟩, -⟩ := hR.q
  have hx := hq.1.1
  have h239 := hq.ty.p hx 239 39
  obtain ⟨n, e3, -, hn⟩ := hM.1.2.2.1
  have ec : (t.S 3).toNatClampNeg = n := by rw [e3, nI_clamp (by omega)]
  rw [ec] at hb
  have ll : (tl (t.I 2) n).length = n := tl_len _ _
  have hu : uT (moSS (moSS t 0 0) 3 0) (vc (tl (t.I 2) n)) n := by
    refine ⟨hn, vc_lt _, fun i hi => ?_⟩
    rw [rdI_n (t := moSS (moSS t 0 0) 3 0) (k := 2) (i := i) (n := 4096) (hM.n.n 2 4096) (by omega) (by decide), ← hb.gv (by rw [ll]; exact hi), tl_get hi]
    rfl
  obtain ⟨ra, t2, e2, m2, h2⟩ := m_addr (f := 0) (e := n) hu (hM.n.n 16 8) (Nat.le_refl _) (Nat.zero_le _)
  have mm : mfr [0, 3, 12, 13, 14, 16] t t2 := ((mfr.ss (k := 0) (v := 0) (by decide)).tr (mfr.ss (k := 3) (v := 0) (by decide))).tr (m2.wk (by decide))
  have s3 : t2.S 3 = 0 := (m2.S 3 (by decide)).trans moSS_s
  have mw : mfr [0, 3, 12, 13, 14, 16, 153, 154, 155, 156, 161] t t2 := mm.wk (by decide)
  have eR : cR t2 = cR t := by unfold cR; rw [mm.S 37 (by decide)]
  have hra : ra = 0 ∨ ra = 1 := by
    unfold rA at h2
    cases ho : adP (vc (tl (t.I 2) n)) 0 n with
    | none => rw [ho] at h2; exact Or.inl h2
    | some p => obtain ⟨a1, a2, a3⟩ := p; rw [ho] at h2; exact Or.inr h2.1
  have eM : M_oracle t y = if ra = 0 then some (-1, t2) else if M_isRouter t2 y = 0 then some (-1, t2) else Option.bind (rdI t2 39 y) (fun x4 => if x4 = 0 then some (-1, t2) else Option.bind (M_longestOfAll t2) (fun x5 => if x5 = -1 then some (-1, t2) else M_oracle_b76 t2 y x5 (t2.Z 13 &&& M_maskHigh x5) (t2.Z 14 &&& M_maskLow x5) (t2.S 12) 0)) := by
    have eT : M_takeAddress (moSS t 0 0) = some (ra, t2) := by
      have e2' : M_readAddress (moSS (moSS t 0 0) 3 0) 0 ((moSS t 0 0).S 3) = some (ra, t2) := by
        rw [show (moSS t 0 0).S 3 = nI n from e3]; exact e2
      unfold M_takeAddress letS
      dsimp only
      rw [e2']
      exact if_pos hra
    unfold M_oracle letS
    dsimp only
    rw [eT]
    rfl
  have aft : ∀ s1, fp (H 239 x) s s1 → MV t2 ∧ RR G H sa x (cSI s1 1 (H 220 x) 0) t2 ∧ fr [39, 1] [] [] s (cSI s1 1 (H 220 x) 0) := fun s1 f1 => tp_take hR hM h239.2 f1 mm s3
  have hM2 : MV t2 := (aft s fp.rf).1
  have no : M_oracle t y = some (-1, t2) → ∀ s1, fp (H 239 x) s s1 → Q (-1) (cSI s1 1 (H 220 x) 0) kc ks := fun e s1 f1 => by
    obtain ⟨-, hR1, f⟩ := aft s1 f1
    exact k (-1) t2 e hM2 mw _ kc ks hR1 f.wk (by omega) (by omega)
  have hadl : adP (vc (tl (t.I 2) n)) 0 (tl (t.I 2) n).length = adP (vc (tl (t.I 2) n)) 0 n := by rw [ll]
  unfold C_Rf_oracle
  refine ⟨hq.ox, ?_⟩
  cases ho : adP (vc (tl (t.I 2) n)) 0 n with
  | none =>
    rw [ho] at h2
    have h2 : ra = 0 := h2
    have e := no (by rw [eM, if_pos h2])
    exact w_routerAt hq hM (fun _ => w_take hq hb (fun _ s1 f1 => ifT rfl (e s1 f1)) (fun a1 a2 a3 h => by rw [hadl, ho] at h; cases h)) (fun r _ _ => w_take hq hb (fun _ s1 f1 => ifT rfl (e s1 f1)) (fun a1 a2 a3 h => by rw [hadl, ho] at h; cases h))
  | some p =>
    obtain ⟨a1, a2, a3⟩ := p
    rw [ho] at h2
    obtain ⟨r1, hbit, hfam, hz1, hz2⟩ := h2
    have hr0 : ¬ ra = 0 := by rw [r1]; decide
    rcases M_isR hM2 y with ⟨e, hnr⟩ | ⟨e, r, hr, rfl⟩
    · rw [eR] at hnr
      have e' := no (by rw [eM, if_neg hr0, if_pos e])
      exact w_rn hq hM hnr (w_take hq hb (fun h => by rw [hadl, ho] at h; cases h) (fun b1 b2 b3 _ s1 f1 _ => ifF (by decide) (ifT rfl (e' s1 f1))))
    have e : ¬ M_isRouter t2 (nI r) = 0 := by rw [e]; decide
    have hr' : r < cR t := by rw [← eR]; exact hr
    have h6 := hM2.nR
    rw [if_neg hr0, if_neg e, rdI_n (n := 6) (hM2.n.n 39 6) (by omega) (by decide), Option.bind_some] at eM
    refine w_ra hq hM hr' (w_take hq hb (fun h => by rw [hadl, ho] at h; cases h) (fun b1 b2 b3 hh s1 f1 hp => ?_))
    rw [hadl, ho] at hh
    cases hh
    obtain ⟨-, hR1, F1⟩ := aft s1 f1
    have no1 := fun e => no e s1 f1
    have hq1 := hR1.q.1
    have p239 := hq1.ty.p hq1.1.1 239 39
    have p238 := hq1.ty.p hq1.1.1 238 18
    obtain ⟨f, hf, ef⟩ : ∃ f : Nat, (f = 0 ∨ f = 1) ∧ t2.S 12 = nI f := by
      rcases hbit with z | z
      · exact ⟨0, Or.inl rfl, z⟩
      · exact ⟨1, Or.inr rfl, z⟩
    have hh : PF (cSI s1 1 (H 220 x) 0) (H 239 x) (fam (nI f)) (t2.Z 13) (t2.Z 14) (if fam (nI f) = 4 then 32 else 128) := by
      rw [← ef, ← hfam, hz1, hz2]
      obtain ⟨z1, z2, z3, z4⟩ := hp
      exact ⟨by rw [cSI_g (by decide)]; exact z1, z2, z3, by rw [cSI_g (by decide)]; exact z4⟩
    refine ifF (by decide) (ifF (by simp) ⟨_, rfl, _, gd_to (okr (hq1.rt hr).1.1 9), ?_⟩)
    rw [show (cSI s1 1 (H 220 x) 0).I (20 * 9 + 3) (G 1 r) = t2.I 39 r from (hq1.rt hr).2.2.1.2.1]
    generalize cSI s1 1 (H 220 x) 0 = s2 at hR1 F1 no1 hq1 p239 p238 hh ⊢
    by_cases c39 : t2.I 39 r = 0
    · rw [if_pos c39] at eM
      exact ifT c39 (no1 eM)
    rw [if_neg c39] at eM
    obtain ⟨am, eL, mxm⟩ := m_long hM2
    rw [eL, Option.bind_some] at eM
    have E2 : EX Os t2 := hE.of hM hM2 eR (fun _ _ => sEq.m mm rfl) (fun _ _ z => by rw [mm.I 39 (by decide)] at z; exact z)
    refine ifF c39 ⟨_, gd_to hq1.ox, _, p238.1, _, gd_to (okr p238.2 5), ?_⟩
    show C_Rf_oracle_b61 sa x (some (G 1 r)) 0 (cSI s2 103 (H 238 x) (-1)) kc ks Q
    have f3 : fr [18] [] [] s2 (cSI s2 103 (H 238 x) (-1)) := fr.si (by rw [p238.2]; decide)
    have R3 : RR G H sa x (cSI s2 103 (H 238 x) (-1)) t2 := rr_fr hR1 hM2 (hq1.1.v rfl rfl f3 rfl rfl rfl) f3 (mfr.rf (W := [])) rfl rfl rfl rfl rfl rfl rfl
    have hh3 := hh.fr f3 p239.2 (by decide)
    have B3 : eBs (cSI s2 103 (H 238 x) (-1)) (H 238 x) t2 (-1) := ⟨cSI_s, fun z => absurd rfl z⟩
    generalize cSI s2 103 (H 238 x) (-1) = s4 at f3 R3 hh3 B3 ⊢
    have F4 : fr [39, 1, 18, 119] [] [] s s4 := F1.wk.tr f3.wk
    unfold C_Rf_oracle_b61
    intro P hP
    have loop : ∀ d o (u : cS) (a : Int32), o + d = cR t2 → RR G H sa x u t2 → fr [18] [] [] s4 u → eBs u (H 238 x) t2 a → mxP (lgA t2 o) a → P (nI o) u kc ks := by
      intro d
      induction d with
      | zero =>
        intro o u a ho' Ru fu eb mx
        have : o = cR t2 := by omega
        subst this
        have hqu := Ru.q.1
        have p238u := hqu.ty.p hqu.1.1 238 18
        have ea := mx_uq mx mxm
        subst ea
        apply hP
        unfold C_Rf_oracle_s61
        refine ⟨_, gd_to hqu.ox, ?_⟩
        rw [show u.I (20 * 11 + 9) x = nI (cR t2) from hqu.nR hM2]
        refine ifF (nI_nlt (Nat.le_refl _) (by omega)) ⟨_, gd_to hqu.ox, _, p238u.1, _, gd_to (okr p238u.2 5), ?_⟩
        rw [show u.I (20 * 5 + 3) (H 238 x) = a from eb.1]
        by_cases ca : a = -1
        · rw [if_pos ca] at eM
          exact ifT ca (k (-1) t2 eM hM2 mw u kc ks Ru (F4.tr fu.wk) (by omega) (by omega))
        rw [if_neg ca, M_mH, M_mL, ef] at eM
        have pe := eb.2 ca
        rw [ef] at pe
        have lo : lnOk (nI f) a := by
          rcases mx with ⟨z, -⟩ | ⟨z, -⟩
          · exact absurd z ca
          · exact lg_ok hM2 (Nat.le_refl _) hf ef z
        have hf2 : f < 2 := by omega
        obtain ⟨t3, q1, q2, q3⟩ := m_76 (a4 := t2.Z 13 &&& mskH a) (a6 := t2.Z 14 &&& mskL a) (p1 := nI r) hM2 hf2 lo (cR t2) 0 t2 (by omega) mfr.rf (fun o h => absurd h (Nat.not_lt_zero _))
        obtain ⟨t4, q4, q5⟩ := m_142 (x := oSu t2 f (t2.Z 13 &&& mskH a) (t2.Z 14 &&& mskL a) a) hM2 hf2 lo hr (oSu_le hM2 lo) (cR t2) 0 t3 (by omega) q2 q3
        have eO := eM.trans (q1.trans q4)
        have M4 : MV t4 := hM2.fr q5 rfl (hM2.1.fr q5 rfl)
        refine ifF ca ⟨_, rfl, _, gd_to (okr (hqu.rt hr).1.1 9), hqu.ox, ?_⟩
        rw [show u.I (20 * 9 + 2) (G 1 r) = nI r from (hqu.rt hr).2.2.1.1]
        refine w_least Ru hM2 hr hf lo ⟨an_nt, an_nt⟩ pe hkc hks fun s' R' f' => k _ t4 eO M4 (mw.tr (q5.wk (by decide))) s' (kc - 1) (ks - 6) (rr_fr R' hM2 R'.q.1.1 (fr.rf (Rv := []) (Gp := []) (Rq := [])) q5 rfl rfl rfl rfl rfl rfl rfl) ((F4.tr fu.wk).tr f'.wk) (by omega) (by omega)
      | succ d ih =>
        intro o u a ho' Ru fu eb mx
        have ho2 : o < cR t2 := by omega
        have hqu := Ru.q.1
        have k26 := (hqu.rt ho2).1.1
        have r228 := hqu.ty.r hqu.1.1 228 131 6
        have q228 := (hqu.rt ho2).1.2.1
        apply hP
        unfold C_Rf_oracle_s61 C_Rf_oracle_b101
        refine ⟨_, gd_to hqu.ox, ?_⟩
        rw [show u.I (20 * 11 + 9) x = nI (cR t2) from hqu.nR hM2]
        refine ifT (nI_lt ho2 (by omega)) ⟨_, gd_to hqu.ox, _, r228.1, _, rd_Q r228.2 (by decide) (by omega) (by decide) q228, _, rfl, _, gd_to (okr k26 9), ?_⟩
        rw [show u.I (20 * 9 + 3) (G 1 o) = t2.I 39 o from (hqu.rt ho2).2.2.1.2.1]
        by_cases c : t2.I 39 o = 0
        · refine ifT c ?_
          rw [nI_1]
          refine ih (o + 1) u a (by omega) Ru fu eb (mx_cg mx fun m => ⟨?_, ?_⟩)
          · rintro ⟨o', h1, h2, h3⟩
            rcases Nat.lt_or_ge o' o with z | z
            · exact ⟨o', z, h2, h3⟩
            · have : o' = o := by omega
              subst this
              exact absurd c h2
          · rintro ⟨o', h1, h2⟩
            exact ⟨o', by omega, h2⟩
        · refine ifF c ⟨_, gd_to hqu.ox, _, r228.1, _, rd_Q r228.2 (by decide) (by omega) (by decide) q228, _, gd_to hqu.ox, _, gd_to hqu.ox, _, rfl, okr k26 9, ?_⟩
          rw [show u.P (20 * 11 + 19) x = some (H 239 x) from (hqu.ty.p hqu.1.1 239 39).1, show u.P (20 * 11 + 18) x = some (H 238 x) from (hqu.ty.p hqu.1.1 238 18).1]
          refine w_flo Ru hM2 ((E2 o ho2).2.2) ho2 c hf ef (hh3.fr fu (R3.q.1.ty.p R3.q.1.1.1 239 39).2 (by decide)) eb mx fun s' a' R' f' eb' mx' => ?_
          rw [nI_1]
          exact ih (o + 1) s' a' (by omega) R' (fu.tr f') eb' mx'
    exact loop (cR t2) 0 s4 (-1) (by omega) R3 fr.rf B3 (Or.inl ⟨rfl, fun m ⟨o', z, _⟩ => absurd z (Nat.not_lt_zero _)⟩)
end Po
