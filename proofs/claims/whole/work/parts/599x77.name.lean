/-! New objects in the class: names. -/
/-- all but those of A is as it was -/
def exA (A : List Nat) (s s' : cS) : Prop := ∀ a, a ∉ A → s'.K a = s.K a ∧ (∀ g, s'.I g a = s.I g a) ∧ (∀ g, s'.J g a = s.J g a) ∧ (∀ g, s'.P g a = s.P g a) ∧ s'.E a = s.E a ∧ s'.Q a = s.Q a
theorem ch16 : ∀ v, v < 256 → vp_nar .char (UInt32.toInt32 (Int32.toUInt32 (nI v) % 65536)) = nI v := by decide +kernel
section Nm
variable {G H : Nat → Nat → Nat} {sa : Nat → Nat} {rd x kc ks : Nat} {s s1 s2 : cS} {t : moS} {l : List Int32} {ws : List (Nat × Nat)} {A B : List Nat}
theorem exA.rf : exA A s s := fun _ _ => ⟨rfl, fun _ => rfl, fun _ => rfl, fun _ => rfl, rfl, rfl⟩
theorem exA.tr (h : exA A s s1) (g : exA A s1 s2) : exA A s s2 := fun a ha => by
  obtain ⟨x1, x2, x3, x4, x5, x6⟩ := h a ha
  obtain ⟨y1, y2, y3, y4, y5, y6⟩ := g a ha
  exact ⟨y1.trans x1, fun g => (y2 g).trans (x2 g), fun g => (y3 g).trans (x3 g), fun g => (y4 g).trans (x4 g), y5.trans x5, y6.trans x6⟩
theorem exA.wk (h : exA A s s1) (hAB : ∀ a, a ∈ A → a ∈ B) : exA B s s1 := fun a ha => h a (fun z => ha (hAB a z))
theorem exA.nw {q : Nat} {u : Nat × Nat} (hq : q ∈ A) : exA A s (cNw s q u) := fun a ha => by
  have hne : a ≠ q := fun e => ha (by rw [e]; exact hq)
  exact ⟨cNw_kn hne, fun _ => cNw_in hne, fun _ => cNw_jn hne, fun _ => cNw_pn hne, cNw_en hne, cNw_qn hne⟩
theorem exA.si {q g : Nat} {v : Int32} (hq : q ∈ A) : exA A s (cSI s g q v) := fun a ha => ⟨rfl, fun _ => cSI_o (fun e => ha (by rw [e]; exact hq)), fun _ => rfl, fun _ => rfl, rfl, rfl⟩
theorem cSP_o {g k a b : Nat} {v : Option Nat} (h : b ≠ a) : (cSP s g a v).P k b = s.P k b := by
  by_cases c : k = g
  · subst c; exact cSP_a h
  · exact cSP_g c
theorem exA.sp {q g : Nat} {v : Option Nat} (hq : q ∈ A) : exA A s (cSP s g q v) := fun a ha => ⟨rfl, fun _ => rfl, fun _ => rfl, fun _ => cSP_o (fun e => ha (by rw [e]; exact hq)), rfl, rfl⟩
theorem exA.se {q i : Nat} {v : Int32} (hq : q ∈ A) : exA A s (cSE s q i v) := fun a ha => ⟨rfl, fun _ => rfl, fun _ => rfl, fun _ => rfl, cSE_a (fun e => ha (by rw [e]; exact hq)), rfl⟩
theorem exA.sq {q i : Nat} {v : Option Nat} (hq : q ∈ A) : exA A s (cSQ s q i v) := fun a ha => ⟨rfl, fun _ => rfl, fun _ => rfl, fun _ => rfl, rfl, cSQ_a (fun e => ha (by rw [e]; exact hq))⟩
theorem exA.o {c a : Nat} (h : exA A s s1) (ha : a ∉ A) (ho : okO s c a) : okO s1 c a := by unfold okO at ho ⊢; rw [(h a ha).1]; exact ho
theorem exA.fr (h : exA A s s1) (hA : ∀ a, a ∈ A → (s.K a).1 = 0) : fr [] [] [] s s1 := fun a ha => by
  obtain ⟨x1, x2, x3, x4, x5, x6⟩ := h a (fun z => ha (hA a z))
  exact ⟨x1, fun _ => ⟨x2, x3, x5⟩, fun g _ => x4 g, fun _ => x6⟩
/-- the reader where something is new -/
theorem rdc_ext (h : RdC H x rd s l ws) (f : fr [] [] [] s s1) : RdC H x rd s1 l ws := by
  obtain ⟨⟨cap, hb⟩, ⟨o1, o2⟩, ⟨p1, p2⟩, ⟨z1, z2⟩, ⟨y1, y2⟩, ⟨w1, w2⟩, w3⟩ := h
  have hk : ∀ {a u n : Nat}, s.K a = (u, n) → u ≠ 0 → (s.K a).1 ≠ 0 := fun e hu => by rw [e]; exact hu
  have oo : ∀ {c a : Nat}, okO s c a → okO s1 c a := fun {c a} ho => by
    have := (f a ho.n0).1
    unfold okO at ho ⊢
    rw [this]; exact ho
  have fv := fun a (ha : (s.K a).1 ≠ 0) => (f a ha).2.1 (by simp)
  have fp := fun a (ha : (s.K a).1 ≠ 0) g => (f a ha).2.2.1 g (by simp)
  refine ⟨⟨cap, hb.fr f rfl (by simp) (by simp) (by simp)⟩, ⟨oo o1, oo o2⟩, ⟨?_, ?_⟩, ⟨?_, ?_⟩, ⟨?_, ?_⟩, ⟨?_, fun j h1 h2 => ?_⟩, w3⟩
  · rw [fp rd o1.n0]; exact p1
  · rw [fp x o2.n0]; exact p2
  · rw [fp rd o1.n0]; exact z1
  · rw [(f _ (hk z2 (by decide))).1]; exact z2
  · rw [fp rd o1.n0]; exact y1
  · rw [(f _ (hk y2 (by decide))).1]; exact y2
  · rw [(fv rd o1.n0).1]; exact w1
  · rw [(fv _ (hk z2 (by decide))).2.2, (fv _ (hk y2 (by decide))).2.2]; exact w2 j h1 h2
/-- a name is made: its letters c, its bytes v, itself z -/
theorem w_nameAt {Q : Option Nat → cS → Nat → Nat → Prop} (h : RdC H x rd s l ws) {i : Nat} (hi : i < ws.length) (h24 : i < 24) (h12 : (ws.getD i (0, 0)).2 - (ws.getD i (0, 0)).1 ≤ 12) (hal : ∀ j, (ws.getD i (0, 0)).1 ≤ j → j < (ws.getD i (0, 0)).2 → alC (vc l j)) (hkc : 3 ≤ kc) (hks : 28 ≤ ks) (k : ∀ c z v s', cFr sa s c → cFr sa s z → cFr sa s v → c ≠ z → c ≠ v → z ≠ v → exA [c, z, v] s s' → s'.K c = (117, (ws.getD i (0, 0)).2 - (ws.getD i (0, 0)).1) → s'.K z = (31, 0) → s'.K v = (118, (ws.getD i (0, 0)).2 - (ws.getD i (0, 0)).1) → isTx sa s' z (wU (vc l) (ws.getD i (0, 0)).1 ((ws.getD i (0, 0)).2 - (ws.getD i (0, 0)).1)) → ∀ kc' ks', kc ≤ kc' + 3 → ks ≤ ks' + 28 → Q (some z) s' kc' ks') : C_Re_nameAt sa rd (nI i) s kc ks Q := by
  have hv := h.2.2.2.2.2.2.1 i hi
  obtain ⟨⟨cap0, hb0⟩, -⟩ := id h
  have hsm := hb0.sm
  unfold C_Re_nameAt
  refine ⟨h.2.1.1, w_isWord h (by omega) (fun _ _ => ifF (by decide) (w_bb h hi h24 (w_ba h hi h24 ?_))) (fun z => absurd ⟨hi, h24⟩ z)⟩
  generalize hA : (ws.getD i (0, 0)).1 = a at hv h12 hal k
  generalize hB : (ws.getD i (0, 0)).2 = b at hv h12 hal k
  rw [pk_sub (by omega), show mxI 0 (nI (b - a)) = nI (b - a) from if_pos (show (0 : Int32) < nI (b - a) from nI_lt (a := 0) (by omega) (by omega))]
  refine ⟨b - a, rfl, by omega, by omega, by omega, 117, by decide, fun c hc => ?_⟩
  have n1 : fr [] [] [] s (cNw s c (117, b - a)) := fr.nw hc.1
  have h1 := rdc_ext h n1
  -- the string and its bytes, from the letters
  have mk : ∀ st, exA [c] s st → st.K c = (117, b - a) → (∀ j, j < b - a → st.E c j = nI (vc l (a + j))) → nwO sa st (kc - 1) (ks - (b - a)) 13 4 (fun q3 sq3 cq3 dq3 => (okO sq3 13 q3 ∧ C_St_init sa q3 (some c) sq3 cq3 dq3 (fun sr4 cr4 dr4 => (Q (some q3) sr4 cr4 dr4)))) := by
    intro st ex hKc hE
    refine ⟨by omega, by omega, 31, by decide, fun z hz => ?_⟩
    have hzc : z ≠ c := fun e => by have := hz.1; rw [e, hKc] at this; exact absurd this (by show ¬ (117 : Nat) = 0; decide)
    have hzs : (s.K z).1 = 0 := by have := hz.1; rw [(ex z (fun w => hzc (List.mem_singleton.mp w))).1] at this; exact this
    have oz : okO (cNw st z (31, 0)) 13 z := by unfold okO; rw [cNw_ks]; decide
    have kc1 : (cNw st z (31, 0)).K c = (117, b - a) := (cNw_kn (fun e => hzc e.symm)).trans hKc
    refine ⟨oz, ?_⟩
    unfold C_St_init
    refine ⟨_, rfl, _, gd_to (by rw [kc1]; exact ⟨show 100 ≤ 117 by decide, show 117 < 160 by decide⟩), oz, ?_⟩
    rw [kc1]
    unfold C_St_init2
    show if nI (b - a) = 0 then _ else _
    refine ifF (fun e => absurd ((nI_eq (b := 0) (by omega) (by decide)).mp e) (by omega)) (ifF (by decide) ?_)
    unfold C_S2_compress
    refine ⟨b - a, rfl, by omega, by omega, by omega, 118, by decide, fun v hvf => ?_⟩
    have hvz : v ≠ z := fun e => by have := hvf.1; rw [e, cNw_ks] at this; exact absurd this (by decide)
    have hvc : v ≠ c := fun e => by have := hvf.1; rw [e, kc1] at this; exact absurd this (by show ¬ (117 : Nat) = 0; decide)
    have hvs : (s.K v).1 = 0 := by
      have := hvf.1
      rw [cNw_kn hvz, (ex v (fun w => hvc (List.mem_singleton.mp w))).1] at this
      exact this
    have kc2 : (cNw (cNw st z (31, 0)) v (118, b - a)).K c = (117, b - a) := (cNw_kn (fun e => hvc e.symm)).trans kc1
    have kv2 : (cNw (cNw st z (31, 0)) v (118, b - a)).K v = (118, b - a) := cNw_ks
    have ec2 : (cNw (cNw st z (31, 0)) v (118, b - a)).E c = st.E c := (cNw_en (fun e => hvc e.symm)).trans (cNw_en (fun e => hzc e.symm))
    unfold C_S2_compress2 C_S2_compress2_b3
    intro P hP
    have loop : ∀ q j s2, j + q = b - a → exA [v] (cNw (cNw st z (31, 0)) v (118, b - a)) s2 → s2.K v = (118, b - a) → (∀ m, m < j → s2.E v m = nI (vc l (a + m))) → P (nI j) (nI j) (nI j) s2 (kc - 1 - 1 - 1) (ks - (b - a) - 4 - (b - a)) := by
      intro q
      induction q with
      | zero =>
        intro j s2 hj e2 hK2 hE2
        apply hP
        unfold C_S2_compress2_s3
        refine ifF (nI_nlt (by omega) (by omega)) (ifT rfl ?_)
        unfold C_S2_coderFromArrayLen
        refine ⟨_, rfl, _, gd_to (by rw [hK2]; exact ⟨show 100 ≤ 118 by decide, show 118 < 160 by decide⟩), ?_⟩
        rw [hK2]
        dsimp only
        rw [show nI (b - a) - nI (b - a) = 0 from by rw [pk_sub (Nat.le_refl _), Nat.sub_self]; rfl]
        have oz2 : okO s2 13 z := e2.o (fun w => hvz (List.mem_singleton.mp w).symm) (okO.nw oz hvf.1)
        refine ⟨by decide, _, gd_to ⟨oz2, by decide⟩, _, gd_to oz2, ?_⟩
        have kz : s2.K z = (31, 0) := ((e2 z (fun w => hvz (List.mem_singleton.mp w).symm)).1.trans (cNw_kn (fun e => hvz e.symm))).trans cNw_ks
        have kc3 : s2.K c = (117, b - a) := ((e2 c (fun w => hvc (List.mem_singleton.mp w).symm)).1).trans kc2
        have exf : exA [c, z, v] s (cSP (cSI s2 (20 * 13 + 1) z (Int8.toInt32 (Int32.toInt8 (ush_I 0 31)))) (20 * 13 + 0) z (some v)) := by
          have x1 : exA [c, z, v] s st := ex.wk (fun a ha => by rw [List.mem_singleton.mp ha]; exact List.mem_cons_self)
          have x2 : exA [c, z, v] st (cNw (cNw st z (31, 0)) v (118, b - a)) := (exA.nw (by simp)).tr (exA.nw (by simp))
          have x3 : exA [c, z, v] (cNw (cNw st z (31, 0)) v (118, b - a)) s2 := e2.wk (fun a ha => by rw [List.mem_singleton.mp ha]; simp)
          exact ((x1.tr x2).tr x3).tr ((exA.si (by simp)).tr (exA.sp (by simp)))
        refine k c z v _ hc ⟨hzs, hz.2⟩ ⟨hvs, hvf.2⟩ (fun e => hzc e.symm) (fun e => hvc e.symm) (fun e => hvz e.symm) exf kc3 kz hK2 (Or.inl ⟨by show (s2.K z).1 = 31; rw [kz], ?_, v, cSP_s, ?_, by rw [wU_len]; omega, fun m hm => ?_⟩) _ _ (by omega) (by omega)
        · show (cSI s2 261 z _).I 261 z = 0
          rw [cSI_s]
          decide
        · show s2.K v = _
          rw [hK2, wU_len]
        · rw [wU_len] at hm
          rw [wU_get hm]
          exact hE2 m (by omega)
      | succ q ih =>
        intro j s2 hj e2 hK2 hE2
        have hvl := hal (a + j) (by omega) (by omega)
        have hv127 : vc l (a + j) < 127 := by unfold alC at hvl; omega
        have kc3 : s2.K c = (117, b - a) := ((e2 c (fun w => hvc (List.mem_singleton.mp w).symm)).1).trans kc2
        have ec3 : s2.E c j = nI (vc l (a + j)) := by
          rw [(e2 c (fun w => hvc (List.mem_singleton.mp w).symm)).2.2.2.2.1, ec2]
          exact hE j (by omega)
        apply hP
        unfold C_S2_compress2_s3
        refine ifT (nI_lt (by omega) (by omega)) ⟨_, rfl, _, gd_to ⟨by rw [kc3]; exact (show 100 ≤ 117 by decide), by rw [kc3]; exact (show 117 < 130 by decide), by rw [kc3]; rfl, by rw [kc3]; exact vp_in_nI (show j < b - a by omega) (by omega)⟩, ?_⟩
        rw [nI_clamp (by omega), ec3]
        refine ifF (nI_nlt (a := 255) (by omega) (by omega)) ⟨_, rfl, _, gd_to ⟨by rw [hK2]; exact (show 100 ≤ 118 by decide), by rw [hK2]; exact (show 118 < 130 by decide), by rw [hK2]; rfl, by rw [hK2]; exact vp_in_nI (show j < b - a by omega) (by omega)⟩, ?_⟩
        rw [nI_clamp (by omega), by127 _ hv127, by127 _ hv127, nI_1]
        refine ih (j + 1) _ (by omega) (e2.tr (exA.se (by simp))) hK2 (fun m hm => ?_)
        by_cases em : m = j
        · subst em; exact cSE_v
        · rw [cSE_i em]; exact hE2 m (by omega)
    exact loop (b - a) 0 _ (by omega) exA.rf kv2 (fun m hm => absurd hm (Nat.not_lt_zero _))
  -- the letters
  unfold C_Re_nameAt_b33
  intro P hP
  have loop : ∀ q j st, j + q = b - a → exA [c] s st → st.K c = (117, b - a) → RdC H x rd st l ws → (∀ m, m < j → st.E c m = nI (vc l (a + m))) → P (nI j) st (kc - 1) (ks - (b - a)) := by
    intro q
    induction q with
    | zero =>
      intro j st hj ex hK hr hE
      apply hP
      unfold C_Re_nameAt_s33
      refine ⟨_, rfl, _, gd_to (by rw [hK]; exact ⟨show 100 ≤ 117 by decide, show 117 < 160 by decide⟩), ?_⟩
      rw [hK]
      exact ifF (nI_nlt (by omega) (by omega)) (mk st ex hK (fun m hm => hE m (by omega)))
    | succ q ih =>
      intro j st hj ex hK hr hE
      obtain ⟨⟨cap, hb⟩, ⟨o1, o2⟩, ⟨p1, p2⟩, -⟩ := id hr
      have hvl := vc_lt l (a + j)
      apply hP
      unfold C_Re_nameAt_s33
      refine ⟨_, rfl, _, gd_to (by rw [hK]; exact ⟨show 100 ≤ 117 by decide, show 117 < 160 by decide⟩), ?_⟩
      rw [hK]
      refine ifT (nI_lt (show j < b - a by omega) (by omega)) ⟨_, gd_to o1, _, p1, _, gd_to o2, w_ba hr hi h24 ⟨_, p2, hb.1, ?_⟩⟩
      rw [hA, nI_add]
      refine w_at hb (by omega) ⟨_, gd_to ⟨by rw [hK]; exact (show 100 ≤ 117 by decide), by rw [hK]; exact (show 117 < 130 by decide), by rw [hK]; rfl, by rw [hK]; exact vp_in_nI (show j < b - a by omega) (by omega)⟩, ?_⟩
      rw [nI_clamp (by omega), ch16 _ hvl, nI_1]
      refine ih (j + 1) _ (by omega) (ex.tr (exA.se (by simp))) hK (RdC.se hr (by rw [hK]; exact (show (117 : Nat) ≠ 101 ∧ 117 ≠ 107 ∧ 117 ≠ 108 by decide))) (fun m hm => ?_)
      by_cases em : m = j
      · subst em; exact cSE_v
      · rw [cSE_i em]; exact hE m (by omega)
  exact loop (b - a) 0 _ (by omega) (exA.nw (by simp)) cNw_ks h1 (fun m hm => absurd hm (Nat.not_lt_zero _))
end Nm
