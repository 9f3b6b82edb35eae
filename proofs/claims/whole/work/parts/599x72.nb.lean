/-! Lines: neighbor. -/
section Nb
variable {G H : Nat → Nat → Nat} {sa : Nat → Nat} {rd x kc ks : Nat} {s s' : cS} {t t' : moS} {l : List Int32} {ws : List (Nat × Nat)}
theorem w_addNb {Q : cS → Nat → Nat → Prop} {pt y k : Nat} {f n : Int32} {a b : Int64} (hpt : (s.K pt).1 = 8) (h91 : s.P 91 pt = some (H 91 pt) ∧ s.K (H 91 pt) = (137, 4)) (h92 : s.I 92 pt = nI k) (hk : k < 4) (hy : okO s 5 y) (hp : PF s y f a b n) (hkc : 1 ≤ kc) (hks : 4 ≤ ks) (kq : ∀ z sP, cFr sa s z → sP.K z = (16, 0) → exq z s sP → PF sP z f a b n → Q (cSI (cSQ sP (H 91 pt) k (some z)) 92 pt (nI (k + 1))) (kc - 1) (ks - 4)) : C_Po_addNeighbor sa pt (some y) s kc ks Q := by
  have o4 := okr hpt 4
  unfold C_Po_addNeighbor
  refine ⟨_, gd_to o4, _, gd_to o4, _, h91.1, _, gd_to (by rw [h91.2]; decide), ?_⟩
  rw [show s.I (20 * 4 + 12) pt = nI k from h92, h91.2]
  refine ifT (nI_lt hk (by decide)) ⟨_, gd_to o4, _, gd_to o4, w_newP 16 hkc hks (by decide) fun z s1 hz hK e ho => ?_⟩
  rw [show s.I (20 * 4 + 12) pt = nI k from h92]
  have npt : pt ≠ z := fun h => by rw [h, hz.1] at hpt; exact absurd hpt (by decide)
  have nar : H 91 pt ≠ z := fun h => by
    have := h91.2
    rw [h] at this
    have z0 := hz.1
    rw [this] at z0
    exact absurd z0 (by decide)
  have ny : y ≠ z := fun h => by
    have := hy.n0
    rw [h] at this
    exact this hz.1
  obtain ⟨e1, e2, e3, e4, e5, e6⟩ := e pt npt
  obtain ⟨g1, g2, g3, g4, g5, g6⟩ := e (H 91 pt) nar
  obtain ⟨y1, y2, y3, y4, y5, y6⟩ := e y ny
  have o4' : okO s1 4 pt := by unfold okO at o4 ⊢; rw [e1]; exact o4
  have oy' : okO s1 5 y := by unfold okO at hy ⊢; rw [y1]; exact hy
  have h92' : s1.I (20 * 4 + 12) pt = nI k := (e2 92).trans h92
  have h91' : s1.P (20 * 4 + 11) pt = some (H 91 pt) := (e4 91).trans h91.1
  have oq : okQ s1 (H 91 pt) (nI k) := ⟨by rw [g1, h91.2]; decide, by rw [g1, h91.2]; decide, by rw [g1, h91.2]; exact vp_in_nI hk (by decide)⟩
  refine ⟨_, h91.1, _, gd_to ⟨oq, by rw [g1, h91.2]; decide, fun b' hb' => by cases hb'; rw [g1, h91.2]; exact ho⟩, ?_⟩
  rw [nI_clamp (by omega)]
  refine ⟨_, gd_to o4', _, gd_to o4', _, h91', _, gd_to (by rw [show (cSQ s1 (H 91 pt) k (some z)).I (20 * 4 + 12) pt = nI k from h92']; exact oq), ?_⟩
  rw [show (cSQ s1 (H 91 pt) k (some z)).I (20 * 4 + 12) pt = nI k from h92', nI_clamp (by omega), show (cSQ s1 (H 91 pt) k (some z)).Q (H 91 pt) k = some z by rw [cSQ_s]; exact if_pos rfl]
  refine ⟨_, rfl, ho, w_copy ho oy' ⟨_, gd_to o4', ?_⟩⟩
  have i92 : (cSpf (cSQ s1 (H 91 pt) k (some z)) z ((cSQ s1 (H 91 pt) k (some z)).I 100 y) ((cSQ s1 (H 91 pt) k (some z)).J 101 y) ((cSQ s1 (H 91 pt) k (some z)).J 102 y) ((cSQ s1 (H 91 pt) k (some z)).I 103 y)).I (20 * 4 + 12) pt = nI k := (cSpf_o npt).trans h92'
  rw [i92]
  dsimp only
  rw [nI_1]
  refine ⟨_, gd_to o4', ?_⟩
  have kq := kq z (cSpf s1 z f a b n) hz hK (e.tr (exq.si.tr (exq.sj.tr (exq.sj.tr exq.si)))) cSpf_v
  have q1 : (cSQ s1 (H 91 pt) k (some z)).I 100 y = f := (y2 100).trans hp.1
  have q2 : (cSQ s1 (H 91 pt) k (some z)).J 101 y = a := (y3 101).trans hp.2.1
  have q3 : (cSQ s1 (H 91 pt) k (some z)).J 102 y = b := (y3 102).trans hp.2.2.1
  have q4 : (cSQ s1 (H 91 pt) k (some z)).I 103 y = n := (y2 103).trans hp.2.2.2
  rw [q1, q2, q3, q4]
  exact kq
theorem mv_nb (hM : MV t) {r p k : Nat} {f : Int32} {a b : Int64} (hr : r < cR t) (hp : p < cI t r) (hk : t.I 95 (4 * r + p) = nI k) (hk4 : k < 4) (hl : bit f) : MV (moSJ (moSJ (moSI (moSI t 95 (4 * r + p) (nI (k + 1))) 96 (4 * (4 * r + p) + k) f) 97 (4 * (4 * r + p) + k) a) 98 (4 * (4 * r + p) + k) b) ∧ mfr [95, 96, 97, 98] t (moSJ (moSJ (moSI (moSI t 95 (4 * r + p) (nI (k + 1))) 96 (4 * (4 * r + p) + k) f) 97 (4 * (4 * r + p) + k) a) 98 (4 * (4 * r + p) + k) b) := by
  have m : mfr [95, 96, 97, 98] t (moSJ (moSJ (moSI (moSI t 95 (4 * r + p) (nI (k + 1))) 96 (4 * (4 * r + p) + k) f) 97 (4 * (4 * r + p) + k) a) 98 (4 * (4 * r + p) + k) b) := (((mfr.si (by decide)).tr (mfr.si (by decide))).tr (mfr.sj (by decide))).tr (mfr.sj (by decide))
  generalize ht' : moSJ (moSJ (moSI (moSI t 95 (4 * r + p) (nI (k + 1))) 96 (4 * (4 * r + p) + k) f) 97 (4 * (4 * r + p) + k) a) 98 (4 * (4 * r + p) + k) b = t' at m
  have e95 : ∀ i, t'.I 95 i = if i = 4 * r + p then nI (k + 1) else t.I 95 i := fun i => by
    rw [← ht']
    show (moSI (moSI t 95 (4 * r + p) (nI (k + 1))) 96 (4 * (4 * r + p) + k) f).I 95 i = _
    rw [moSI_n (by decide), moSI_s]; rfl
  have e96 : ∀ i, t'.I 96 i = if i = 4 * (4 * r + p) + k then f else t.I 96 i := fun i => by
    rw [← ht']
    show (moSI (moSI t 95 (4 * r + p) (nI (k + 1))) 96 (4 * (4 * r + p) + k) f).I 96 i = _
    rw [moSI_s, moSI_n (by decide)]; rfl
  have e97 : ∀ i, t'.J 97 i = if i = 4 * (4 * r + p) + k then a else t.J 97 i := fun i => by
    rw [← ht', moSJ_n (by decide), moSJ_s]; rfl
  have e98 : ∀ i, t'.J 98 i = if i = 4 * (4 * r + p) + k then b else t.J 98 i := fun i => by
    rw [← ht', moSJ_s, moSJ_n (by decide)]; rfl
  refine ⟨hM.po (m.wk (by decide)) (fun r' p' hr' hp' => ?_) (fun r' p' h6 hp' h4 => ?_), m⟩
  · have := (hM.r hr').i hp'
    have h95 := this.2.2.2.2.2.2.2.2.2.2.2.2.2.2.2.1.n.2.2
    unfold mVi cL at this ⊢
    simp only [m.I 71 (by decide), m.S 17 (by decide), m.I 72 (by decide), m.J 73 (by decide), m.I 74 (by decide), m.I 75 (by decide), m.I 78 (by decide), m.I 79 (by decide), m.I 80 (by decide), m.I 82 (by decide), m.I 83 (by decide), m.I 84 (by decide), m.I 85 (by decide), m.I 87 (by decide), m.I 88 (by decide), m.I 90 (by decide), m.I 91 (by decide), m.I 94 (by decide), m.I 99 (by decide), m.I 100 (by decide)]
    obtain ⟨b1, b2, b3, b4, b5, b6, b7, b8, b9, b10, b11, b12, b13, b14, b15, b16, b17, b18⟩ := this
    refine ⟨b1, b2, b3, b4, b5, b6, b7, b8, b9, b10, b11, b12, b13, b14, b15, ?_, fun j hj => ?_, b18⟩
    · rw [e95]
      split
      · exact ⟨k + 1, rfl, Nat.zero_le _, by omega⟩
      · exact b16
    · rw [e95] at hj
      rw [e96]
      by_cases c : 4 * r' + p' = 4 * r + p
      · rw [if_pos c, nI_clamp (by omega)] at hj
        by_cases cj : j = k
        · rw [if_pos (by omega)]; exact hl
        · rw [if_neg (by omega)]
          exact b17 j (by rw [c, hk, nI_clamp (by omega)]; omega)
      · rw [if_neg c] at hj
        rw [if_neg (by omega)]
        exact b17 j hj
  · have := hM.2.2.2.2.2.2.2.2.1 r' p' h6 hp' h4
    unfold mZi at this ⊢
    have hne : ¬ 4 * r' + p' = 4 * r + p := by
      have h4' := hM.nIf hr
      intro e
      have : r' = r := by omega
      subst this
      omega
    simp only [m.I 74 (by decide), m.I 75 (by decide), m.I 79 (by decide), m.I 82 (by decide), m.I 89 (by decide), m.I 90 (by decide), m.I 99 (by decide), m.I 100 (by decide), e95, if_neg hne]
    exact this
/-- a neighbor more, on both sides -/
theorem nb_rr (h : RR G H sa x s t) (hM : MV t) {r p k z : Nat} {f n : Int32} {a b : Int64} (hr : r < cR t) (hp : p < cI t r) (hk : t.I 95 (4 * r + p) = nI k) (hk4 : k < 4) (hz : (s.K z).1 = 16) (hP : PF s z (fam f) a b n) (hl : bit f) : RR G H sa x (cSI (cSQ s (H 91 (G 2 (4 * r + p))) k (some z)) 92 (G 2 (4 * r + p)) (nI (k + 1))) (moSJ (moSJ (moSI (moSI t 95 (4 * r + p) (nI (k + 1))) 96 (4 * (4 * r + p) + k) f) 97 (4 * (4 * r + p) + k) a) 98 (4 * (4 * r + p) + k) b) ∧ fr [8] [] [137] s (cSI (cSQ s (H 91 (G 2 (4 * r + p))) k (some z)) 92 (G 2 (4 * r + p)) (nI (k + 1))) := by
  have hq := h.q.1
  have hpt := (hq.po hr hp).1.1
  have h91 := hq.ty.r hpt 91 137 4
  generalize hs' : cSI (cSQ s (H 91 (G 2 (4 * r + p))) k (some z)) 92 (G 2 (4 * r + p)) (nI (k + 1)) = s'
  have f' : fr [8] [] [137] s s' := by
    rw [← hs']
    exact (fr.sq (by rw [h91.2]; decide)).tr (fr.si (by show (s.K _).1 ∈ _; rw [hpt]; decide))
  have m : mfr [95, 96, 97, 98] t (moSJ (moSJ (moSI (moSI t 95 (4 * r + p) (nI (k + 1))) 96 (4 * (4 * r + p) + k) f) 97 (4 * (4 * r + p) + k) a) 98 (4 * (4 * r + p) + k) b) := (((mfr.si (by decide)).tr (mfr.si (by decide))).tr (mfr.sj (by decide))).tr (mfr.sj (by decide))
  generalize ht' : moSJ (moSJ (moSI (moSI t 95 (4 * r + p) (nI (k + 1))) 96 (4 * (4 * r + p) + k) f) 97 (4 * (4 * r + p) + k) a) 98 (4 * (4 * r + p) + k) b = t' at m
  have e95 : ∀ i, t'.I 95 i = if i = 4 * r + p then nI (k + 1) else t.I 95 i := fun i => by
    rw [← ht']
    show (moSI (moSI t 95 (4 * r + p) (nI (k + 1))) 96 (4 * (4 * r + p) + k) f).I 95 i = _
    rw [moSI_n (by decide), moSI_s]; rfl
  have e96 : ∀ i, t'.I 96 i = if i = 4 * (4 * r + p) + k then f else t.I 96 i := fun i => by
    rw [← ht']
    show (moSI (moSI t 95 (4 * r + p) (nI (k + 1))) 96 (4 * (4 * r + p) + k) f).I 96 i = _
    rw [moSI_s, moSI_n (by decide)]; rfl
  have e97 : ∀ i, t'.J 97 i = if i = 4 * (4 * r + p) + k then a else t.J 97 i := fun i => by
    rw [← ht', moSJ_n (by decide), moSJ_s]; rfl
  have e98 : ∀ i, t'.J 98 i = if i = 4 * (4 * r + p) + k then b else t.J 98 i := fun i => by
    rw [← ht', moSJ_s, moSJ_n (by decide)]; rfl
  have hK : s'.K = s.K := by rw [← hs']; rfl
  have hPP : s'.P = s.P := by rw [← hs']; rfl
  have pf : ∀ {c : Nat} {w1 w4 : Int32} {w2 w3 : Int64}, (s.K c).1 ≠ 8 → PF s c w1 w2 w3 w4 → PF s' c w1 w2 w3 w4 := fun {c w1 w4 w2 w3} hc hp' => by
    have hne : c ≠ G 2 (4 * r + p) := fun e => hc (by rw [e]; exact hpt)
    rw [← hs']
    unfold PF
    rw [cSI_o hne, cSI_o hne]
    exact hp'
  refine ⟨rr_po h hM (hq.1.v hK hPP f' rfl rfl rfl) f'.wk (m.wk (by decide)) fun r' p' hr' hp' => ?_, f'⟩
  have hPo := hq.po hr' hp'
  have hk' := hPo.1.1
  have h91' := hq.ty.r hk' 91 137 4
  have hv := (hM.r hr').i hp'
  have hin : G 2 (4 * r' + p') = G 2 (4 * r + p) ↔ 4 * r' + p' = 4 * r + p := ⟨fun e => hq.2.1.2.2.1 r' r p' p hr' hr hp' hp e, fun e => by rw [e]⟩
  have hin91 : H 91 (G 2 (4 * r' + p')) = H 91 (G 2 (4 * r + p)) ↔ 4 * r' + p' = 4 * r + p := ⟨fun e => hin.mp (hq.ty.i hk' hpt 91 (by decide) e), fun e => by rw [e]⟩
  have o1 : ∀ g, g ≠ 92 → s'.I g (G 2 (4 * r' + p')) = s.I g (G 2 (4 * r' + p')) := fun g hg => by rw [← hs', cSI_g hg]; rfl
  have o92 : s'.I 92 (G 2 (4 * r' + p')) = if 4 * r' + p' = 4 * r + p then nI (k + 1) else s.I 92 (G 2 (4 * r' + p')) := by
    rw [← hs']
    by_cases c : 4 * r' + p' = 4 * r + p
    · rw [if_pos c, hin.mpr c, cSI_s]
    · rw [if_neg c, cSI_a (fun z => c (hin.mp z))]; rfl
  have oQ : ∀ j, s'.Q (H 91 (G 2 (4 * r' + p'))) j = if 4 * r' + p' = 4 * r + p ∧ j = k then some z else s.Q (H 91 (G 2 (4 * r' + p'))) j := fun j => by
    rw [← hs']
    show (cSQ s (H 91 (G 2 (4 * r + p))) k (some z)).Q (H 91 (G 2 (4 * r' + p'))) j = _
    by_cases c : 4 * r' + p' = 4 * r + p
    · rw [hin91.mpr c, cSQ_s]
      show (if j = k then some z else _) = _
      by_cases c2 : j = k
      · rw [if_pos c2, if_pos ⟨c, c2⟩]
      · rw [if_neg c2, if_neg (fun z => c2 z.2)]
    · rw [if_neg (fun z => c z.1), cSQ_a (fun z => c (hin91.mp z))]
  obtain ⟨-, -, -, ⟨c1, c2, c3, c4, c5, c6, c7, c8⟩, d, e, -⟩ := id hPo
  refine rpo_gen hPo hq.ty (hq.rt hr').1.1 hv.2.2.2.2.2.2.2.2.2.2.1.n.2.2 f'.wk (m.wk (by decide)) (o1 98 (by decide)) ⟨?_, ?_, ?_, ?_, ?_, ?_, ?_, ?_⟩ (fun j hj => ?_) (fun j hj => ?_)
  · rw [o1 83 (by decide), m.I 72 (by decide)]; exact c1
  · rw [o1 84 (by decide), m.J 73 (by decide)]; exact c2
  · rw [o1 85 (by decide), m.I 74 (by decide)]; exact c3
  · rw [o1 88 (by decide), m.I 90 (by decide)]; exact c4
  · rw [o92, e95, c5]
  · rw [o1 93 (by decide), m.I 99 (by decide)]; exact c6
  · rw [o1 94 (by decide), m.I 100 (by decide)]; exact c7
  · rw [o1 95 (by decide), m.I 89 (by decide)]; exact c8
  · rw [m.I 90 (by decide)] at hj
    rw [m.I 91 (by decide), m.J 92 (by decide), m.J 93 (by decide), m.I 94 (by decide), f'.q (a := H 87 (G 2 (4 * r' + p'))) (u := 136) (by rw [(hq.ty.r hk' 87 136 4).2]) (by decide)]
    obtain ⟨a', q1, q2, q3⟩ := d j hj
    exact ⟨a', q1, by rw [hK]; exact q2, pf (by rw [q2]; decide) q3⟩
  · rw [e95] at hj
    rw [oQ, e96, e97, e98]
    by_cases c : 4 * r' + p' = 4 * r + p
    · rw [if_pos c, nI_clamp (by omega)] at hj
      by_cases cj : j = k
      · rw [if_pos ⟨c, cj⟩, if_pos (by omega), if_pos (by omega), if_pos (by omega)]
        exact ⟨z, n, rfl, by rw [hK]; exact hz, pf (by rw [hz]; decide) hP⟩
      · rw [if_neg (fun z => cj z.2), if_neg (by omega), if_neg (by omega), if_neg (by omega)]
        obtain ⟨a', n', q1, q2, q3⟩ := e j (by rw [c, hk, nI_clamp (by omega)]; omega)
        exact ⟨a', n', q1, by rw [hK]; exact q2, pf (by rw [q2]; decide) q3⟩
    · rw [if_neg c] at hj
      have := hv.2.2.2.2.2.2.2.2.2.2.2.2.2.2.2.1.n.2.2
      rw [if_neg (fun z => c z.1), if_neg (by omega), if_neg (by omega), if_neg (by omega)]
      obtain ⟨a', n', q1, q2, q3⟩ := e j hj
      exact ⟨a', n', q1, by rw [hK]; exact q2, pf (by rw [q2]; decide) q3⟩
end Nb
