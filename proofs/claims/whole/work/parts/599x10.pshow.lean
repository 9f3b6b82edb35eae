/-! show, both sides. -/
/-- how long the array of a row of bytes is -/
theorem BL.cap {s : cS} {b w cap : Nat} {l : List Int32} (h : BL s b w l cap) : capOf s b = cap := by
  obtain ⟨-, -, d, h1, h2, -⟩ := h
  unfold capOf
  rw [h1]
  show (s.K d).2 = cap
  rw [h2]
section Cap
variable {sa : Nat → Nat} {b w F L k0 m0 kc ks : Nat} {s0 s : cS} {l : List Int32}
/-- another row of bytes stays -/
theorem AP.keep (h : AP sa b w F L s0 k0 m0 l s kc ks) {o w2 c2 : Nat} {l2 : List Int32} (ho : BL s0 o w2 l2 c2) (hne : o ≠ b) (hd : ∀ d, s0.P 0 o = some d → s0.P 0 b ≠ some d) : BL s o w2 l2 c2 := by
  obtain ⟨a1, a2, d, a3, a4, a5, a6, a7, a8, a9⟩ := ho
  obtain ⟨o1, o2, o3, o4, o5⟩ := h.ob a1 hne
  have hx := h.x d (by rw [a4]; show w2 ≠ 0; omega)
  have hdb : d ≠ b := fun z => by
    obtain ⟨cap, d', -, -, -, -, -, -, -, -, -, ⟨h0, -⟩, -⟩ := h
    have := h0.2.1
    rw [← z, a4] at this
    have := a2.1
    omega
  obtain ⟨b1, b2, b3, b4, b5⟩ := hx.2 (fun z => z.elim hdb (hd d a3))
  exact ⟨o1, a2, d, by rw [o5]; exact a3, by rw [hx.1]; exact a4, by rw [o3]; exact a5, a6, a7, a8, fun i hi => by rw [b4]; exact a9 i hi⟩
end Cap
section Ps
variable {G H : Nat → Nat → Nat} {sa : Nat → Nat} {x kc ks : Nat} {s s' : cS} {t t' : moS}
theorem RGl.v2 {Rv Rq : List Nat} {Gp : List (Nat × Nat)} (h : RGl G H sa x s) (hK : s'.K = s.K) (hP : s'.P = s.P) (f : fr Rv Gp Rq s s') (d1 : dj [3, 129, 29] Rv) (d2 : djp [(0, 3), (200, 29)] Gp) (d3 : dj [144, 142] Rq) (hfit : ∀ a i, (s.K a).1 = 103 → i < 16 → fits .byte (.int (s'.E a i)) = true) : RGl G H sa x s' := by
  obtain ⟨a1, a2, a3, a4, ⟨n, a5⟩, a6, a7, a8, a9, a10, a11, a12, a13, a14, a15, a16, a17⟩ := h
  refine ⟨by rw [hK]; exact a1, ?_, ?_, fun a ha => ?_, ⟨n, a5.fr f (a2.p a1 237 29).2 (by decide) (d1.n 29) (d2.n (200, 29)) (d3.n 144)⟩, ?_, ?_, ?_, ?_, ?_, ?_, ?_, ?_, ?_, ?_, ?_, ?_⟩
  · unfold TY okO at a2 ⊢; rw [hK, hP]; exact a2
  · unfold TK at a3 ⊢; rw [hK]; exact a3
  · rw [hK] at ha
    obtain ⟨l, hl⟩ := a4 a ha
    exact ⟨l, hl.fr f (a2.p ha 40 3).2 (d1.n 3) (d1.n 129) (d2.n (0, 3))⟩
  · rw [hK, hP]; exact a6
  · rw [hK, hP]; exact a7
  · rw [hK, hP]; exact a8
  · unfold okO at a9 ⊢; rw [hK, hP]; exact a9
  · unfold okO at a10 ⊢; rw [hK, hP]; exact a10
  · unfold okO at a11 ⊢; rw [hK, hP]; exact a11
  · unfold okO at a12 ⊢; rw [hK, hP]; exact a12
  · intro a h1 k hk
    have h1 : okO s 1 a := by unfold okO at h1 ⊢; rw [← hK]; exact h1
    rw [hK, f.q (tyc a2 h1) (d3.n 142)]
    exact a13 a h1 k hk
  · intro a c k k' w' h1 h2 hk hk' e1 e2
    have h1 : okO s 1 a := by unfold okO at h1 ⊢; rw [← hK]; exact h1
    have h2 : okO s 1 c := by unfold okO at h2 ⊢; rw [← hK]; exact h2
    rw [f.q (tyc a2 h1) (d3.n 142)] at e1
    rw [f.q (tyc a2 h2) (d3.n 142)] at e2
    exact a14 a c k k' w' h1 h2 hk hk' e1 e2
  · intro a i h1 hi
    rw [hK] at h1
    exact hfit a i h1 hi
  · rw [hK, hP]; exact a16
  · unfold okO at a17 ⊢; rw [hK, hP]; exact a17
theorem RGl.v {Rv Rq : List Nat} {Gp : List (Nat × Nat)} (h : RGl G H sa x s) (hK : s'.K = s.K) (hP : s'.P = s.P) (f : fr Rv Gp Rq s s') (d1 : dj [3, 129, 29, 103] Rv) (d2 : djp [(0, 3), (200, 29)] Gp) (d3 : dj [144, 142] Rq) : RGl G H sa x s' :=
  h.v2 hK hP f d1.s d2 d3 fun a i h1 hi => by
    rw [(f.v h1 (d1.n 103)).2.2]
    exact h.2.2.2.2.2.2.2.2.2.2.2.2.2.2.1 a i h1 hi
theorem RQ.nR (hq : RQ G H sa x s t) (hM : MV t) : s.I 229 x = nI (cR t) := hq.2.2.1.2.2.2.1.trans hM.1.2.2.2.2.2.2.2.n.1
theorem RQ.nL (hq : RQ G H sa x s t) (hM : MV t) : s.I 227 x = nI (cL t) := hq.2.2.1.2.2.1.trans hM.1.2.2.2.2.2.1.n.1
/-- a number that is one of n -/
theorem ixOf (y : Int32) (n : Nat) (hn : n < 2 ^ 31) : (∃ r, r < n ∧ y = nI r) ∨ (y < 0 ∨ (¬ y < 0 ∧ ¬ y < nI n)) := by
  by_cases c : y < 0
  · exact Or.inr (Or.inl c)
  · obtain ⟨j, hj, rfl⟩ := nI_of c
    by_cases c2 : j < n
    · exact Or.inl ⟨j, c2, rfl⟩
    · exact Or.inr (Or.inr ⟨c, nI_nlt (by omega) hj⟩)
theorem w_routerAt {y : Int32} {Q : Option Nat → cS → Nat → Nat → Prop} (hq : RQ G H sa x s t) (hM : MV t) (k0 : (∀ r, r < cR t → y ≠ nI r) → Q none s kc ks) (k1 : ∀ r, r < cR t → y = nI r → Q (some (G 1 r)) s kc ks) : C_Rf_routerAt sa x y s kc ks Q := by
  have h6 := hM.nR
  have ha := hq.ty.r hq.1.1 228 131 6
  have hno : (y < 0 ∨ (¬ y < 0 ∧ ¬ y < nI (cR t))) → ∀ r, r < cR t → y ≠ nI r := by
    intro h r hr e
    rcases h with h | ⟨-, h⟩
    · rw [e] at h; exact nI_pos (by omega) h
    · rw [e] at h; exact h (nI_lt hr (by omega))
  unfold C_Rf_routerAt
  rcases ixOf y (cR t) (by omega) with ⟨r, hr, e⟩ | h
  · subst e
    refine ifF (nI_pos (by omega)) ⟨_, gd_to hq.ox, ?_⟩
    rw [show s.I (20 * 11 + 9) x = _ from hq.nR hM]
    refine ifT (nI_lt hr (by omega)) ⟨_, gd_to hq.ox, _, ha.1, _, gd_to ⟨by rw [ha.2]; decide, by rw [ha.2]; decide, by rw [ha.2]; exact vp_in_nI (by omega) (by decide)⟩, ?_⟩
    rw [nI_clamp (by omega), (hq.rt hr).1.2.1]
    exact k1 r hr rfl
  · have hn := hno h
    by_cases c : y < 0
    · exact ifT c (k0 hn)
    · refine ifF c ⟨_, gd_to hq.ox, ?_⟩
      rw [show s.I (20 * 11 + 9) x = _ from hq.nR hM]
      exact ifF ((h.resolve_left c).2) (k0 hn)
theorem w_linkAt {y : Int32} {Q : Option Nat → cS → Nat → Nat → Prop} (hq : RQ G H sa x s t) (hM : MV t) (k0 : (∀ r, r < cL t → y ≠ nI r) → Q none s kc ks) (k1 : ∀ r, r < cL t → y = nI r → Q (some (G 0 r)) s kc ks) : C_Rf_linkAt sa x y s kc ks Q := by
  have h6 := hM.nL
  have ha := hq.ty.r hq.1.1 226 130 10
  have hno : (y < 0 ∨ (¬ y < 0 ∧ ¬ y < nI (cL t))) → ∀ r, r < cL t → y ≠ nI r := by
    intro h r hr e
    rcases h with h | ⟨-, h⟩
    · rw [e] at h; exact nI_pos (by omega) h
    · rw [e] at h; exact h (nI_lt hr (by omega))
  unfold C_Rf_linkAt
  rcases ixOf y (cL t) (by omega) with ⟨r, hr, e⟩ | h
  · subst e
    refine ifF (nI_pos (by omega)) ⟨_, gd_to hq.ox, ?_⟩
    rw [show s.I (20 * 11 + 7) x = _ from hq.nL hM]
    refine ifT (nI_lt hr (by omega)) ⟨_, gd_to hq.ox, _, ha.1, _, gd_to ⟨by rw [ha.2]; decide, by rw [ha.2]; decide, by rw [ha.2]; exact vp_in_nI (by omega) (by decide)⟩, ?_⟩
    rw [nI_clamp (by omega), (hq.link hr).1.2]
    exact k1 r hr rfl
  · have hn := hno h
    by_cases c : y < 0
    · exact ifT c (k0 hn)
    · refine ifF c ⟨_, gd_to hq.ox, ?_⟩
      rw [show s.I (20 * 11 + 7) x = _ from hq.nL hM]
      exact ifF ((h.resolve_left c).2) (k0 hn)
theorem M_isR (hM : MV t) (y : Int32) : (M_isRouter t y = 0 ∧ ∀ r, r < cR t → y ≠ nI r) ∨ (M_isRouter t y = 1 ∧ ∃ r, r < cR t ∧ y = nI r) := by
  have h6 := hM.nR
  have e : t.S 37 = nI (cR t) := hM.1.2.2.2.2.2.2.2.n.1
  unfold M_isRouter M_isRouter_b16
  rcases ixOf y (cR t) (by omega) with ⟨r, hr, e'⟩ | h
  · subst e'
    rw [if_neg (nI_pos (by omega)), if_pos (by rw [e]; exact nI_lt hr (by omega))]
    exact Or.inr ⟨rfl, r, hr, rfl⟩
  · have hn : ∀ r, r < cR t → y ≠ nI r := by
      intro r hr e
      rcases h with h | ⟨-, h⟩
      · rw [e] at h; exact nI_pos (by omega) h
      · rw [e] at h; exact h (nI_lt hr (by omega))
    refine Or.inl ⟨?_, hn⟩
    by_cases c : y < 0
    · rw [if_pos c]
    · rw [if_neg c, if_neg (by rw [e]; exact (h.resolve_left c).2)]
/-- what the model leaves when it has shown -/
theorem dd_shown {t0 t1 : moS} {l : List Int32} (h : DD [7, 8, 16] t0 t1 l) (h5 : 4096 ≤ t0.N 5 ∧ t0.N 5 ≤ 320000) : M_shown t1 = some (nI l.length, moShn t1) ∧ mfr [5, 6, 7, 8, 16] t0 (moShn t1) ∧ (moShn t1).S 6 = nI l.length ∧ (∀ i, i < l.length → (moShn t1).I 5 i = l.getD i 0) ∧ l.length ≤ (moShn t1).N 5 ∧ (4096 ≤ (moShn t1).N 5 ∧ (moShn t1).N 5 ≤ 320000) ∧ (4096 ≤ (moShn t1).N 7 ∧ (moShn t1).N 7 ≤ 320000) ∧ (moShn t1).N 5 = t1.N 7 ∧ (moShn t1).N 7 = t0.N 5 := by
  obtain ⟨-, ⟨a1, a2, a3, a4, a5⟩, a6, a7⟩ := h
  have e5 : t1.N 5 = t0.N 5 := a7.2 5 (Or.inl (by decide))
  refine ⟨by unfold M_shown; rw [a1], ?_, a1, a5, a2, ⟨a3, a4⟩, ?_, rfl, e5⟩
  · exact fM_shown (W := [5, 6, 7, 8, 16]) rfl (a7.wk (by intro k hk; revert hk; revert k; decide)) _ rfl
  · show 4096 ≤ t1.N 5 ∧ t1.N 5 ≤ 320000
    rw [e5]; exact h5
theorem mVa.tx (h : mVa t) (m : mfr [0, 5, 6, 7, 8, 16] t t') {n : Nat} (h6 : t'.S 6 = nI n) (hn : n ≤ 120000) (hN : n ≤ t'.N 5) (h5 : 4096 ≤ t'.N 5 ∧ t'.N 5 ≤ 320000) (h7 : 4096 ≤ t'.N 7 ∧ t'.N 7 ≤ 320000) : mVa t' := by
  obtain ⟨⟨a1, -, -, a4⟩, b1, b2, -, -, b5⟩ := h
  refine ⟨⟨fun k hk => (m.2 k (Or.inr hk)).trans (a1 k hk), h7, h5, ?_⟩, ?_, ?_, ⟨n, h6, Nat.zero_le _, hn⟩, by rw [h6, nI_clamp (by omega)]; exact hN, ?_⟩
  · rw [m.2 102 (Or.inl (by decide)), m.2 103 (Or.inl (by decide)), m.2 104 (Or.inl (by decide))]; exact a4
  · rw [m.S 1 (by decide)]; exact b1
  · rw [m.S 3 (by decide)]; exact b2
  · rw [m.S 17 (by decide), m.S 27 (by decide), m.S 37 (by decide)]; exact b5
/-- the texts' room -/
def BT (s : cS) (x kc ks : Nat) : Prop := 262144 ≤ 16 * kc + capOf s ((s.P 221 x).getD 0) ∧ 524288 ≤ ks + 2 * capOf s ((s.P 221 x).getD 0)
/-- what a text's writing leaves: as it was but for the text, its room paid -/
def XT (s : cS) (x kc ks : Nat) (s' : cS) (kc' ks' : Nat) : Prop := fr [32, 124] [(0, 32)] [] s s' ∧ s'.P 221 x = s.P 221 x ∧ s'.P 222 x = s.P 222 x ∧ capOf s' ((s.P 222 x).getD 0) = capOf s ((s.P 222 x).getD 0) ∧ 16 * kc + capOf s ((s.P 221 x).getD 0) ≤ 16 * kc' + capOf s' ((s.P 221 x).getD 0) ∧ ks + 2 * capOf s ((s.P 221 x).getD 0) ≤ ks' + 2 * capOf s' ((s.P 221 x).getD 0)
/-- a text that both have written -/
theorem tx_end {L : List Int32} {tx pg kc' ks' : Nat} {s1 : cS} (hR : RR G H sa x s t) (hM : MV t) (h221 : s.P 221 x = some tx) (h222 : s.P 222 x = some pg) (hs1 : s1 = cSI s 1 tx 0) (hA : AP sa tx 124 120000 262144 s1 (16 * kc + capOf s tx) (ks + 2 * capOf s tx) L s' kc' ks') (m : mfr [0, 5, 6, 7, 8, 16] t t') (h6 : t'.S 6 = nI L.length) (h5 : ∀ i, i < L.length → t'.I 5 i = L.getD i 0) (hL : L.length ≤ 120000) : RR G H sa x s' t' ∧ XT s x kc ks s' kc' ks' := by
  obtain ⟨hq, ⟨cap0, c0, hta⟩, tx', pg', c1, c2, b1, b2, b3, b4, b5, b6, b7, b8, lp, b9⟩ := hR.q
  rw [h221] at b1
  cases b1
  rw [h222] at b2
  cases b2
  have hT := hq.ty
  have hx := hq.1.1
  have f1 : fr [32, 124] [(0, 32)] [] s s1 := by rw [hs1]; exact fr.si (by rw [b3]; decide)
  have k1 : (s1.K tx).1 = 32 := by rw [hs1]; exact b3
  have f2 := hA.fr k1
  have f : fr [32, 124] [(0, 32)] [] s s' := f1.tr f2
  have g1 : RGl G H sa x s1 := hq.1.v (by rw [hs1]; rfl) (by rw [hs1]; rfl) f1 rfl rfl rfl
  have g2 : RGl G H sa x s' := g1.ap hA k1 (by decide) (by decide)
  obtain ⟨cap, ⟨hbl, hcL⟩, e1, e2, ht, hxx, hd⟩ := hA.bl
  have hxne : ¬ (0 = 0 ∧ x = tx) := fun z => by rw [z.2] at hx; rw [hx] at b3; exact absurd b3 (by decide)
  have p221 : s'.P 221 x = some tx := by rw [f.p hx (by decide)]; exact h221
  have p222 : s'.P 222 x = some pg := by rw [f.p hx (by decide)]; exact h222
  have bpg1 : BL s1 pg 124 lp c2 := by
    obtain ⟨a1, a2, d, a3, a4, a5, a6⟩ := b9
    refine ⟨by rw [hs1]; exact a1, a2, d, by rw [hs1]; exact a3, by rw [hs1]; exact a4, ?_, by rw [hs1]; exact a6⟩
    rw [hs1, cSI_a (fun z => b5 z.symm)]; exact a5
  have bpg : BL s' pg 124 lp c2 := by
    refine hA.keep bpg1 (fun z => b5 z.symm) (fun d z1 z2 => ?_)
    have z1 : s.P 0 pg = some d := by rw [hs1] at z1; exact z1
    have z2 : s.P 0 tx = some d := by rw [hs1] at z2; exact z2
    exact b5 (hT.2.2 tx pg d (okr b3 0) (okr b4 0) z2 z1)
  have el : tl (t'.I 5) (t'.S 6).toNatClampNeg = L := by
    rw [h6, nI_clamp (by omega)]
    exact (tl_of rfl (fun i hi => (h5 i hi).symm)).symm
  refine ⟨RQ.r (hq.fr hM g2 f m rfl rfl rfl rfl) ⟨⟨cap0, c0, ?_⟩, tx, pg, cap, c2, p221, p222, f.r b3, f.r b4, b5, ?_, b7, ?_, lp, bpg⟩, f, by rw [p221, h221], by rw [p222, h222], ?_, ?_, ?_⟩
  · rw [m.I 2 (by decide), m.S 3 (by decide)]
    exact hta.fr f (hT.p hx 220 1).2 (by decide) (by decide) (by decide)
  · exact hcL
  · rw [el]; exact hbl
  · rw [h222]; show capOf s' pg = capOf s pg; rw [bpg.cap, b9.cap]
  · rw [h221]; show 16 * kc + capOf s tx ≤ 16 * kc' + capOf s' tx; rw [hbl.cap]; exact e1
  · rw [h221]; show ks + 2 * capOf s tx ≤ ks' + 2 * capOf s' tx; rw [hbl.cap]; exact e2
end Ps
