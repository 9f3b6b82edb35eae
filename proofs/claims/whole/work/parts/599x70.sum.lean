/-! Lines: summary. -/
section Su
variable {G H : Nat → Nat → Nat} {sa : Nat → Nat} {rd x kc ks : Nat} {s s' : cS} {t t' : moS} {l : List Int32} {ws : List (Nat × Nat)}
theorem rpo_gen {r p : Nat} (h : RPo G H s t r p) (hT : TY cNo H s) (hr : (s.K (G 1 r)).1 = 26) (h4' : (t.I 82 (4 * r + p)).toNatClampNeg ≤ 4) (f : fr [8] [] [136, 137] s s') (m : mfr [72, 73, 74, 90, 91, 92, 93, 94, 95, 96, 97, 98, 99, 100] t t') (h98 : s'.I 98 (G 2 (4 * r + p)) = s.I 98 (G 2 (4 * r + p))) (sc : s'.I 83 (G 2 (4 * r + p)) = t'.I 72 (4 * r + p) ∧ spl (s'.I 84 (G 2 (4 * r + p))) (t'.J 73 (4 * r + p)) ∧ s'.I 85 (G 2 (4 * r + p)) = t'.I 74 (4 * r + p) ∧ s'.I 88 (G 2 (4 * r + p)) = t'.I 90 (4 * r + p) ∧ s'.I 92 (G 2 (4 * r + p)) = t'.I 95 (4 * r + p) ∧ s'.I 93 (G 2 (4 * r + p)) = t'.I 99 (4 * r + p) ∧ s'.I 94 (G 2 (4 * r + p)) = t'.I 100 (4 * r + p) ∧ s'.I 95 (G 2 (4 * r + p)) = t'.I 89 (4 * r + p)) (hd : ∀ k, k < (t'.I 90 (4 * r + p)).toNatClampNeg → ∃ a, s'.Q (H 87 (G 2 (4 * r + p))) k = some a ∧ (s'.K a).1 = 15 ∧ PF s' a (fam (t'.I 91 (4 * (4 * r + p) + k))) (t'.J 92 (4 * (4 * r + p) + k)) (t'.J 93 (4 * (4 * r + p) + k)) (t'.I 94 (4 * (4 * r + p) + k))) (he : ∀ k, k < (t'.I 95 (4 * r + p)).toNatClampNeg → ∃ a n, s'.Q (H 91 (G 2 (4 * r + p))) k = some a ∧ (s'.K a).1 = 16 ∧ PF s' a (fam (t'.I 96 (4 * (4 * r + p) + k))) (t'.J 97 (4 * (4 * r + p) + k)) (t'.J 98 (4 * (4 * r + p) + k)) n) : RPo G H s' t' r p := by
  obtain ⟨⟨a1, a2, a3⟩, b1, b2, c, d, e, g, k⟩ := h
  have g' := g.fr hT a1 h4' f m rfl rfl rfl rfl
  have k' : RSo G s' t' (4 * r + p) := by
    obtain ⟨z, w1, w2, cap, y1, y2, y3, y4, y5, y6, y7, y8⟩ := k
    have em : msL t' (4 * r + p) = msL t (4 * r + p) := by
      unfold msL
      rw [m.S 101 (by decide), m.I 102 (by decide)]
    unfold RSo
    rw [em, m.J 103 (by decide), m.J 104 (by decide), f.p a1 (by decide), f.p a1 (by decide), h98]
    refine ⟨z, w1, w2, cap, y1, y2, f.k y3, f.k y4, y5, y6, y7, fun i hi => ?_⟩
    rw [(f.v (a := w1) (u := 115) (by rw [y3]) (by decide)).2.2, (f.v (a := w2) (u := 120) (by rw [y4]) (by decide)).2.2]
    exact y8 i hi
  refine ⟨⟨f.r a1, ?_, ?_⟩, b1.fr a1 f m rfl (by decide) rfl, b2.fr a1 f m rfl (by decide) rfl, sc, hd, he, g', k'⟩
  · rw [f.q (a := H 184 (G 1 r)) (u := 139) (by rw [(hT.r hr 184 139 4).2]) (by decide)]; exact a2
  · rw [m.I 71 (by decide)]; exact a3
theorem cSpf_o {a b g : Nat} {a1 a4 : Int32} {a2 a3 : Int64} (h : b ≠ a) : (cSpf s a a1 a2 a3 a4).I g b = s.I g b := by
  unfold cSpf
  rw [cSI_o h]
  show (cSI s 100 a a1).I g b = _
  exact cSI_o h
theorem w_addSum {Q : cS → Nat → Nat → Prop} {pt y k : Nat} {f n : Int32} {a b : Int64} (hpt : (s.K pt).1 = 8) (h87 : s.P 87 pt = some (H 87 pt) ∧ s.K (H 87 pt) = (136, 4)) (h88 : s.I 88 pt = nI k) (hk : k < 4) (hy : okO s 5 y) (hp : PF s y f a b n) (hkc : 1 ≤ kc) (hks : 4 ≤ ks) (kq : ∀ z sP, cFr sa s z → sP.K z = (15, 0) → exq z s sP → PF sP z f a b n → Q (cSI (cSQ sP (H 87 pt) k (some z)) 88 pt (nI (k + 1))) (kc - 1) (ks - 4)) : C_Po_addSummary sa pt (some y) s kc ks Q := by
  have o4 := okr hpt 4
  unfold C_Po_addSummary
  refine ⟨_, gd_to o4, _, gd_to o4, _, h87.1, _, gd_to (by rw [h87.2]; decide), ?_⟩
  rw [show s.I (20 * 4 + 8) pt = nI k from h88, h87.2]
  refine ifT (nI_lt hk (by decide)) ⟨_, gd_to o4, _, gd_to o4, w_newP 15 hkc hks (by decide) fun z s1 hz hK e ho => ?_⟩
  rw [show s.I (20 * 4 + 8) pt = nI k from h88]
  have npt : pt ≠ z := fun h => by rw [h, hz.1] at hpt; exact absurd hpt (by decide)
  have nar : H 87 pt ≠ z := fun h => by
    have := h87.2
    rw [h] at this
    have z0 := hz.1
    rw [this] at z0
    exact absurd z0 (by decide)
  have ny : y ≠ z := fun h => by
    have := hy.n0
    rw [h] at this
    exact this hz.1
  obtain ⟨e1, e2, e3, e4, e5, e6⟩ := e pt npt
  obtain ⟨g1, g2, g3, g4, g5, g6⟩ := e (H 87 pt) nar
  obtain ⟨y1, y2, y3, y4, y5, y6⟩ := e y ny
  have o4' : okO s1 4 pt := by unfold okO at o4 ⊢; rw [e1]; exact o4
  have oy' : okO s1 5 y := by unfold okO at hy ⊢; rw [y1]; exact hy
  have h88' : s1.I (20 * 4 + 8) pt = nI k := (e2 88).trans h88
  have h87' : s1.P (20 * 4 + 7) pt = some (H 87 pt) := (e4 87).trans h87.1
  have oq : okQ s1 (H 87 pt) (nI k) := ⟨by rw [g1, h87.2]; decide, by rw [g1, h87.2]; decide, by rw [g1, h87.2]; exact vp_in_nI hk (by decide)⟩
  refine ⟨_, h87.1, _, gd_to ⟨oq, by rw [g1, h87.2]; decide, fun b' hb' => by cases hb'; rw [g1, h87.2]; exact ho⟩, ?_⟩
  rw [nI_clamp (by omega)]
  refine ⟨_, gd_to o4', _, gd_to o4', _, h87', _, gd_to (by rw [show (cSQ s1 (H 87 pt) k (some z)).I (20 * 4 + 8) pt = nI k from h88']; exact oq), ?_⟩
  rw [show (cSQ s1 (H 87 pt) k (some z)).I (20 * 4 + 8) pt = nI k from h88', nI_clamp (by omega), show (cSQ s1 (H 87 pt) k (some z)).Q (H 87 pt) k = some z by rw [cSQ_s]; exact if_pos rfl]
  refine ⟨_, rfl, ho, w_copy ho oy' ⟨_, gd_to o4', ?_⟩⟩
  have i88 : (cSpf (cSQ s1 (H 87 pt) k (some z)) z ((cSQ s1 (H 87 pt) k (some z)).I 100 y) ((cSQ s1 (H 87 pt) k (some z)).J 101 y) ((cSQ s1 (H 87 pt) k (some z)).J 102 y) ((cSQ s1 (H 87 pt) k (some z)).I 103 y)).I (20 * 4 + 8) pt = nI k := (cSpf_o npt).trans h88'
  rw [i88]
  dsimp only
  rw [nI_1]
  refine ⟨_, gd_to o4', ?_⟩
  have kq := kq z (cSpf s1 z f a b n) hz hK (e.tr (exq.si.tr (exq.sj.tr (exq.sj.tr exq.si)))) cSpf_v
  have q1 : (cSQ s1 (H 87 pt) k (some z)).I 100 y = f := (y2 100).trans hp.1
  have q2 : (cSQ s1 (H 87 pt) k (some z)).J 101 y = a := (y3 101).trans hp.2.1
  have q3 : (cSQ s1 (H 87 pt) k (some z)).J 102 y = b := (y3 102).trans hp.2.2.1
  have q4 : (cSQ s1 (H 87 pt) k (some z)).I 103 y = n := (y2 103).trans hp.2.2.2
  rw [q1, q2, q3, q4]
  exact kq
theorem mv_sum (hM : MV t) {r p k : Nat} {f n : Int32} {a b : Int64} (hr : r < cR t) (hp : p < cI t r) (hk : t.I 90 (4 * r + p) = nI k) (hk4 : k < 4) (hl : lnOk f n) : MV (moSI (moSJ (moSJ (moSI (moSI t 90 (4 * r + p) (nI (k + 1))) 91 (4 * (4 * r + p) + k) f) 92 (4 * (4 * r + p) + k) a) 93 (4 * (4 * r + p) + k) b) 94 (4 * (4 * r + p) + k) n) ∧ mfr [90, 91, 92, 93, 94] t (moSI (moSJ (moSJ (moSI (moSI t 90 (4 * r + p) (nI (k + 1))) 91 (4 * (4 * r + p) + k) f) 92 (4 * (4 * r + p) + k) a) 93 (4 * (4 * r + p) + k) b) 94 (4 * (4 * r + p) + k) n) := by
  have m : mfr [90, 91, 92, 93, 94] t (moSI (moSJ (moSJ (moSI (moSI t 90 (4 * r + p) (nI (k + 1))) 91 (4 * (4 * r + p) + k) f) 92 (4 * (4 * r + p) + k) a) 93 (4 * (4 * r + p) + k) b) 94 (4 * (4 * r + p) + k) n) := ((((mfr.si (by decide)).tr (mfr.si (by decide))).tr (mfr.sj (by decide))).tr (mfr.sj (by decide))).tr (mfr.si (by decide))
  generalize ht' : moSI (moSJ (moSJ (moSI (moSI t 90 (4 * r + p) (nI (k + 1))) 91 (4 * (4 * r + p) + k) f) 92 (4 * (4 * r + p) + k) a) 93 (4 * (4 * r + p) + k) b) 94 (4 * (4 * r + p) + k) n = t' at m
  have e90 : ∀ i, t'.I 90 i = if i = 4 * r + p then nI (k + 1) else t.I 90 i := fun i => by
    rw [← ht', moSI_n (by decide)]
    show (moSI (moSI t 90 (4 * r + p) (nI (k + 1))) 91 (4 * (4 * r + p) + k) f).I 90 i = _
    rw [moSI_n (by decide), moSI_s]; rfl
  have e91 : ∀ i, t'.I 91 i = if i = 4 * (4 * r + p) + k then f else t.I 91 i := fun i => by
    rw [← ht', moSI_n (by decide)]
    show (moSI (moSI t 90 (4 * r + p) (nI (k + 1))) 91 (4 * (4 * r + p) + k) f).I 91 i = _
    rw [moSI_s, moSI_n (by decide)]; rfl
  have e92 : ∀ i, t'.J 92 i = if i = 4 * (4 * r + p) + k then a else t.J 92 i := fun i => by
    rw [← ht']
    show (moSJ (moSJ (moSI (moSI t 90 (4 * r + p) (nI (k + 1))) 91 (4 * (4 * r + p) + k) f) 92 (4 * (4 * r + p) + k) a) 93 (4 * (4 * r + p) + k) b).J 92 i = _
    rw [moSJ_n (by decide), moSJ_s]; rfl
  have e93 : ∀ i, t'.J 93 i = if i = 4 * (4 * r + p) + k then b else t.J 93 i := fun i => by
    rw [← ht']
    show (moSJ (moSJ (moSI (moSI t 90 (4 * r + p) (nI (k + 1))) 91 (4 * (4 * r + p) + k) f) 92 (4 * (4 * r + p) + k) a) 93 (4 * (4 * r + p) + k) b).J 93 i = _
    rw [moSJ_s, moSJ_n (by decide)]; rfl
  have e94 : ∀ i, t'.I 94 i = if i = 4 * (4 * r + p) + k then n else t.I 94 i := fun i => by
    rw [← ht', moSI_s]
    show (if i = 4 * (4 * r + p) + k then n else (moSI (moSI t 90 (4 * r + p) (nI (k + 1))) 91 (4 * (4 * r + p) + k) f).I 94 i) = _
    rw [moSI_n (by decide), moSI_n (by decide)]
  refine ⟨hM.po (m.wk (by decide)) (fun r' p' hr' hp' => ?_) (fun r' p' h6 hp' h4 => ?_), m⟩
  · have := (hM.r hr').i hp'
    have h90 := this.2.2.2.2.2.2.2.2.2.2.2.2.2.1.n.2.2
    unfold mVi cL at this ⊢
    simp only [m.I 71 (by decide), m.S 17 (by decide), m.I 72 (by decide), m.J 73 (by decide), m.I 74 (by decide), m.I 75 (by decide), m.I 78 (by decide), m.I 79 (by decide), m.I 80 (by decide), m.I 82 (by decide), m.I 83 (by decide), m.I 84 (by decide), m.I 85 (by decide), m.I 87 (by decide), m.I 88 (by decide), m.I 95 (by decide), m.I 96 (by decide), m.I 99 (by decide), m.I 100 (by decide)]
    obtain ⟨b1, b2, b3, b4, b5, b6, b7, b8, b9, b10, b11, b12, b13, b14, b15, b16⟩ := this
    refine ⟨b1, b2, b3, b4, b5, b6, b7, b8, b9, b10, b11, b12, b13, ?_, fun j hj => ?_, b16⟩
    · rw [e90]
      split
      · exact ⟨k + 1, rfl, Nat.zero_le _, by omega⟩
      · exact b14
    · rw [e90] at hj
      rw [e91, e94]
      by_cases c : 4 * r' + p' = 4 * r + p
      · rw [if_pos c, nI_clamp (by omega)] at hj
        by_cases cj : j = k
        · rw [if_pos (by omega), if_pos (by omega)]; exact hl
        · rw [if_neg (by omega), if_neg (by omega)]
          exact b15 j (by rw [c, hk, nI_clamp (by omega)]; omega)
      · rw [if_neg c] at hj
        rw [if_neg (by omega), if_neg (by omega)]
        exact b15 j hj
  · have := hM.2.2.2.2.2.2.2.2.1 r' p' h6 hp' h4
    unfold mZi at this ⊢
    have hne : ¬ 4 * r' + p' = 4 * r + p := by
      have h4' := hM.nIf hr
      intro e
      have : r' = r := by omega
      subst this
      omega
    simp only [m.I 74 (by decide), m.I 75 (by decide), m.I 79 (by decide), m.I 82 (by decide), m.I 89 (by decide), m.I 95 (by decide), m.I 99 (by decide), m.I 100 (by decide), e90, if_neg hne]
    exact this
/-- a summary more, on both sides -/
theorem sum_rr (h : RR G H sa x s t) (hM : MV t) {r p k z : Nat} {f n : Int32} {a b : Int64} (hr : r < cR t) (hp : p < cI t r) (hk : t.I 90 (4 * r + p) = nI k) (hk4 : k < 4) (hz : (s.K z).1 = 15) (hP : PF s z (fam f) a b n) (hl : lnOk f n) : RR G H sa x (cSI (cSQ s (H 87 (G 2 (4 * r + p))) k (some z)) 88 (G 2 (4 * r + p)) (nI (k + 1))) (moSI (moSJ (moSJ (moSI (moSI t 90 (4 * r + p) (nI (k + 1))) 91 (4 * (4 * r + p) + k) f) 92 (4 * (4 * r + p) + k) a) 93 (4 * (4 * r + p) + k) b) 94 (4 * (4 * r + p) + k) n) ∧ MV (moSI (moSJ (moSJ (moSI (moSI t 90 (4 * r + p) (nI (k + 1))) 91 (4 * (4 * r + p) + k) f) 92 (4 * (4 * r + p) + k) a) 93 (4 * (4 * r + p) + k) b) 94 (4 * (4 * r + p) + k) n) ∧ fr [8] [] [136] s (cSI (cSQ s (H 87 (G 2 (4 * r + p))) k (some z)) 88 (G 2 (4 * r + p)) (nI (k + 1))) ∧ mfr [90, 91, 92, 93, 94] t (moSI (moSJ (moSJ (moSI (moSI t 90 (4 * r + p) (nI (k + 1))) 91 (4 * (4 * r + p) + k) f) 92 (4 * (4 * r + p) + k) a) 93 (4 * (4 * r + p) + k) b) 94 (4 * (4 * r + p) + k) n) := by
  have hq := h.q.1
  have hpt := (hq.po hr hp).1.1
  have h87 := hq.ty.r hpt 87 136 4
  generalize hs' : cSI (cSQ s (H 87 (G 2 (4 * r + p))) k (some z)) 88 (G 2 (4 * r + p)) (nI (k + 1)) = s'
  have f' : fr [8] [] [136] s s' := by
    rw [← hs']
    exact (fr.sq (by rw [h87.2]; decide)).tr (fr.si (by show (s.K _).1 ∈ _; rw [hpt]; decide))
  have m : mfr [90, 91, 92, 93, 94] t (moSI (moSJ (moSJ (moSI (moSI t 90 (4 * r + p) (nI (k + 1))) 91 (4 * (4 * r + p) + k) f) 92 (4 * (4 * r + p) + k) a) 93 (4 * (4 * r + p) + k) b) 94 (4 * (4 * r + p) + k) n) := ((((mfr.si (by decide)).tr (mfr.si (by decide))).tr (mfr.sj (by decide))).tr (mfr.sj (by decide))).tr (mfr.si (by decide))
  generalize ht' : moSI (moSJ (moSJ (moSI (moSI t 90 (4 * r + p) (nI (k + 1))) 91 (4 * (4 * r + p) + k) f) 92 (4 * (4 * r + p) + k) a) 93 (4 * (4 * r + p) + k) b) 94 (4 * (4 * r + p) + k) n = t' at m
  have e90 : ∀ i, t'.I 90 i = if i = 4 * r + p then nI (k + 1) else t.I 90 i := fun i => by
    rw [← ht', moSI_n (by decide)]
    show (moSI (moSI t 90 (4 * r + p) (nI (k + 1))) 91 (4 * (4 * r + p) + k) f).I 90 i = _
    rw [moSI_n (by decide), moSI_s]; rfl
  have e91 : ∀ i, t'.I 91 i = if i = 4 * (4 * r + p) + k then f else t.I 91 i := fun i => by
    rw [← ht', moSI_n (by decide)]
    show (moSI (moSI t 90 (4 * r + p) (nI (k + 1))) 91 (4 * (4 * r + p) + k) f).I 91 i = _
    rw [moSI_s, moSI_n (by decide)]; rfl
  have e92 : ∀ i, t'.J 92 i = if i = 4 * (4 * r + p) + k then a else t.J 92 i := fun i => by
    rw [← ht']
    show (moSJ (moSJ (moSI (moSI t 90 (4 * r + p) (nI (k + 1))) 91 (4 * (4 * r + p) + k) f) 92 (4 * (4 * r + p) + k) a) 93 (4 * (4 * r + p) + k) b).J 92 i = _
    rw [moSJ_n (by decide), moSJ_s]; rfl
  have e93 : ∀ i, t'.J 93 i = if i = 4 * (4 * r + p) + k then b else t.J 93 i := fun i => by
    rw [← ht']
    show (moSJ (moSJ (moSI (moSI t 90 (4 * r + p) (nI (k + 1))) 91 (4 * (4 * r + p) + k) f) 92 (4 * (4 * r + p) + k) a) 93 (4 * (4 * r + p) + k) b).J 93 i = _
    rw [moSJ_s, moSJ_n (by decide)]; rfl
  have e94 : ∀ i, t'.I 94 i = if i = 4 * (4 * r + p) + k then n else t.I 94 i := fun i => by
    rw [← ht', moSI_s]
    show (if i = 4 * (4 * r + p) + k then n else (moSI (moSI t 90 (4 * r + p) (nI (k + 1))) 91 (4 * (4 * r + p) + k) f).I 94 i) = _
    rw [moSI_n (by decide), moSI_n (by decide)]
  have hK : s'.K = s.K := by rw [← hs']; rfl
  have hPP : s'.P = s.P := by rw [← hs']; rfl
  have pf : ∀ {c : Nat} {w1 w4 : Int32} {w2 w3 : Int64}, (s.K c).1 ≠ 8 → PF s c w1 w2 w3 w4 → PF s' c w1 w2 w3 w4 := fun {c w1 w4 w2 w3} hc hp' => by
    have hne : c ≠ G 2 (4 * r + p) := fun e => hc (by rw [e]; exact hpt)
    rw [← hs']
    unfold PF
    rw [cSI_o hne, cSI_o hne]
    exact hp'
  refine ⟨rr_po h hM (hq.1.v hK hPP f' rfl rfl rfl) f'.wk (m.wk (by decide)) fun r' p' hr' hp' => ?_, by rw [← ht']; exact (mv_sum hM hr hp hk hk4 hl).1, f', m⟩
  · have hPo := hq.po hr' hp'
    have hk' := hPo.1.1
    have h87' := hq.ty.r hk' 87 136 4
    have hv := (hM.r hr').i hp'
    have hin : G 2 (4 * r' + p') = G 2 (4 * r + p) ↔ 4 * r' + p' = 4 * r + p := ⟨fun e => hq.2.1.2.2.1 r' r p' p hr' hr hp' hp e, fun e => by rw [e]⟩
    have hin87 : H 87 (G 2 (4 * r' + p')) = H 87 (G 2 (4 * r + p)) ↔ 4 * r' + p' = 4 * r + p := ⟨fun e => hin.mp (hq.ty.i hk' hpt 87 (by decide) e), fun e => by rw [e]⟩
    have o1 : ∀ g, g ≠ 88 → s'.I g (G 2 (4 * r' + p')) = s.I g (G 2 (4 * r' + p')) := fun g hg => by rw [← hs', cSI_g hg]; rfl
    have o88 : s'.I 88 (G 2 (4 * r' + p')) = if 4 * r' + p' = 4 * r + p then nI (k + 1) else s.I 88 (G 2 (4 * r' + p')) := by
      rw [← hs']
      by_cases c : 4 * r' + p' = 4 * r + p
      · rw [if_pos c, hin.mpr c, cSI_s]
      · rw [if_neg c, cSI_a (fun z => c (hin.mp z))]; rfl
    have oQ : ∀ j, s'.Q (H 87 (G 2 (4 * r' + p'))) j = if 4 * r' + p' = 4 * r + p ∧ j = k then some z else s.Q (H 87 (G 2 (4 * r' + p'))) j := fun j => by
      rw [← hs']
      show (cSQ s (H 87 (G 2 (4 * r + p))) k (some z)).Q (H 87 (G 2 (4 * r' + p'))) j = _
      by_cases c : 4 * r' + p' = 4 * r + p
      · rw [hin87.mpr c, cSQ_s]
        show (if j = k then some z else _) = _
        by_cases c2 : j = k
        · rw [if_pos c2, if_pos ⟨c, c2⟩]
        · rw [if_neg c2, if_neg (fun z => c2 z.2)]
      · rw [if_neg (fun z => c z.1), cSQ_a (fun z => c (hin87.mp z))]
    obtain ⟨-, -, -, ⟨c1, c2, c3, c4, c5, c6, c7, c8⟩, d, e, -⟩ := id hPo
    refine rpo_gen hPo hq.ty (hq.rt hr').1.1 hv.2.2.2.2.2.2.2.2.2.2.1.n.2.2 f'.wk (m.wk (by decide)) (o1 98 (by decide)) ⟨?_, ?_, ?_, ?_, ?_, ?_, ?_, ?_⟩ (fun j hj => ?_) (fun j hj => ?_)
    · rw [o1 83 (by decide), m.I 72 (by decide)]; exact c1
    · rw [o1 84 (by decide), m.J 73 (by decide)]; exact c2
    · rw [o1 85 (by decide), m.I 74 (by decide)]; exact c3
    · rw [o88, e90, c4]
    · rw [o1 92 (by decide), m.I 95 (by decide)]; exact c5
    · rw [o1 93 (by decide), m.I 99 (by decide)]; exact c6
    · rw [o1 94 (by decide), m.I 100 (by decide)]; exact c7
    · rw [o1 95 (by decide), m.I 89 (by decide)]; exact c8
    · rw [e90] at hj
      rw [oQ, e91, e92, e93, e94]
      by_cases c : 4 * r' + p' = 4 * r + p
      · rw [if_pos c, nI_clamp (by omega)] at hj
        by_cases cj : j = k
        · rw [if_pos ⟨c, cj⟩, if_pos (by omega), if_pos (by omega), if_pos (by omega), if_pos (by omega)]
          exact ⟨z, rfl, by rw [hK]; exact hz, pf (by rw [hz]; decide) hP⟩
        · rw [if_neg (fun z => cj z.2), if_neg (by omega), if_neg (by omega), if_neg (by omega), if_neg (by omega)]
          obtain ⟨a', q1, q2, q3⟩ := d j (by rw [c, hk, nI_clamp (by omega)]; omega)
          exact ⟨a', q1, by rw [hK]; exact q2, pf (by rw [q2]; decide) q3⟩
      · rw [if_neg c] at hj
        have := hv.2.2.2.2.2.2.2.2.2.2.2.2.2.1.n.2.2
        rw [if_neg (fun z => c z.1), if_neg (by omega), if_neg (by omega), if_neg (by omega), if_neg (by omega)]
        obtain ⟨a', q1, q2, q3⟩ := d j hj
        exact ⟨a', q1, by rw [hK]; exact q2, pf (by rw [q2]; decide) q3⟩
    · rw [m.I 95 (by decide)] at hj
      rw [m.I 96 (by decide), m.J 97 (by decide), m.J 98 (by decide), f'.q (a := H 91 (G 2 (4 * r' + p'))) (u := 137) (by rw [(hq.ty.r hk' 91 137 4).2]) (by decide)]
      obtain ⟨a', n', q1, q2, q3⟩ := e j hj
      exact ⟨a', n', q1, by rw [hK]; exact q2, pf (by rw [q2]; decide) q3⟩
end Su
