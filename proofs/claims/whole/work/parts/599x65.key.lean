/-! Lines: key, nokey. -/
section Ky
variable {G H : Nat → Nat → Nat} {sa : Nat → Nat} {rd x ch kc ks : Nat} {s s' : cS} {t t' : moS} {l : List Int32} {ws : List (Nat × Nat)}
theorem rgl_ch (h : RGl G H sa x s) (hc : okO s 1 ch) (f : fch H ch s s') (hfit : ∀ i, i < 16 → fits .byte (.int (s'.E (H 21 ch) i)) = true) : RGl G H sa x s' := by
  refine h.v2 f.1 f.2.1 (f.fr h hc) rfl rfl rfl fun a i ha hi => ?_
  by_cases e : a = H 21 ch
  · rw [e]; exact hfit i hi
  · rw [f.2.2.2.2.2 a (fun z => ?_)]
    · exact h.2.2.2.2.2.2.2.2.2.2.2.2.2.2.1 a i ha hi
    · rcases chA_r h hc z with ⟨_, e'⟩ | ⟨h1, _⟩ | ⟨h1, _⟩ | ⟨h1, _⟩ | ⟨h1, _⟩ | ⟨h1, _⟩
      · exact e e'
      all_goals (rw [ha] at h1; exact absurd h1 (by decide))
theorem rpo_ch {r p : Nat} (h : RPo G H s t r p) (hT : TY cNo H s) (hr : (s.K (G 1 r)).1 = 26) (f : fr [4, 5, 103, 109, 110, 111, 112, 126] [] [] s s') (m : mfr [79, 80, 81, 82, 83, 84, 85, 86, 87, 88] t t') (hC : RCh G H s' t' (4 * r + p)) : RPo G H s' t' r p := by
  obtain ⟨⟨a1, a2, a3⟩, b1, b2, c, d, e, g, k⟩ := h
  obtain ⟨v1, v2, v3⟩ := f.v a1 (by decide)
  refine ⟨⟨f.r a1, ?_, ?_⟩, b1.fr a1 f m rfl (by decide) rfl, b2.fr a1 f m rfl (by decide) rfl, ?_, ?_, ?_, hC, k.fr a1 f m rfl rfl rfl⟩
  · rw [f.q (a := H 184 (G 1 r)) (u := 139) (by rw [(hT.r hr 184 139 4).2]) (by decide)]; exact a2
  · rw [m.I 71 (by decide)]; exact a3
  · rw [v1, v1, v1, v1, v1, v1, v1, v1, m.I 72 (by decide), m.J 73 (by decide), m.I 74 (by decide), m.I 90 (by decide), m.I 95 (by decide), m.I 99 (by decide), m.I 100 (by decide), m.I 89 (by decide)]; exact c
  · rw [m.I 90 (by decide), m.I 91 (by decide), m.J 92 (by decide), m.J 93 (by decide), m.I 94 (by decide), f.q (a := H 87 (G 2 (4 * r + p))) (u := 136) (by rw [(hT.r a1 87 136 4).2]) (by decide)]
    intro j hj
    obtain ⟨q, q1, q2, q3⟩ := d j hj
    exact ⟨q, q1, f.r q2, q3.fr f q2 (by decide)⟩
  · rw [m.I 95 (by decide), m.I 96 (by decide), m.J 97 (by decide), m.J 98 (by decide), f.q (a := H 91 (G 2 (4 * r + p))) (u := 137) (by rw [(hT.r a1 91 137 4).2]) (by decide)]
    intro j hj
    obtain ⟨q, n, q1, q2, q3⟩ := e j hj
    exact ⟨q, n, q1, f.r q2, q3.fr f q2 (by decide)⟩
/-- the chain of an interface -/
theorem rq_ch (hq : RQ G H sa x s t) {r p : Nat} (hr : r < cR t) (hp : p < cI t r) : s.P 86 (G 2 (4 * r + p)) = some (H 86 (G 2 (4 * r + p))) ∧ (s.K (H 86 (G 2 (4 * r + p)))).1 = 4 ∧ okO s 1 (H 86 (G 2 (4 * r + p))) := by
  have h := hq.ty.p (hq.po hr hp).1.1 86 4
  exact ⟨h.1, h.2, okr h.2 1⟩
/-- the model alone: the keys of one interface are others -/
theorem mc_rng {V : chV} {q : Nat} (hV : VV V) (hm : MC t q V) : rng (t.I 79 q) 0 2 ∧ (t.I 79 q = 1 → rng (t.I 80 q) 1 16) ∧ rng (t.I 82 q) 0 4 ∧ (t.I 79 q = 2 ↔ 1 ≤ (t.I 82 q).toNatClampNeg) ∧ ∀ k, k < (t.I 82 q).toNatClampNeg → rng (t.I 83 (4 * q + k)) 0 255 ∧ bit (t.I 84 (4 * q + k)) ∧ rng (t.I 85 (4 * q + k)) 1 16 ∧ rng (t.I 87 (4 * q + k)) 0 99999 ∧ rng (t.I 88 (4 * q + k)) 0 99999 ∧ ∀ k', k' < (t.I 82 q).toNatClampNeg → k' ≠ k → t.I 83 (4 * q + k') ≠ t.I 83 (4 * q + k) := by
  obtain ⟨v1, v2, v3, v4, v5, v6⟩ := hV
  obtain ⟨m1, m2, m3, m4⟩ := hm
  have e82 : (t.I 82 q).toNatClampNeg = V.2.2.length := by rw [m2, nI_clamp (by omega)]
  have k1 : ∀ n, n < 3 → (t.I 79 q = nI n ↔ V.1 = n) := fun n hn => by rw [m1]; exact nI_eq (by omega) (by omega)
  refine ⟨⟨V.1, m1, Nat.zero_le _, v1⟩, fun h1 => ?_, ⟨_, m2, Nat.zero_le _, v2⟩, ?_, fun k hk => ?_⟩
  · have e1 := (k1 1 (by decide)).mp h1
    have hs := v4 e1
    exact ⟨_, (m4 e1).1, hs.1, hs.2.1⟩
  · rw [e82, ← v3]; exact k1 2 (by decide)
  · rw [e82] at hk ⊢
    obtain ⟨v, hv⟩ := gk_some hk
    obtain ⟨y1, y2, y3, y4, y5, y6⟩ := m3 k v hv
    obtain ⟨w1, w2, w3, w4, w5⟩ := v5 k v hv
    rw [y1, y2, y3, y5, y6]
    refine ⟨w1, w2, ⟨_, rfl, w3.1, w3.2.1⟩, w4, w5, fun k' hk' hne => ?_⟩
    obtain ⟨v', hv'⟩ := gk_some hk'
    rw [(m3 k' v' hv').1]
    exact v6 k k' v v' hv hv' hne
/-- a chain is another, on both sides -/
theorem ch_rr (h : RR G H sa x s t) (hM : MV t) (hc : okO s 1 ch) (f : fch H ch s s') (hfit : ∀ i, i < 16 → fits .byte (.int (s'.E (H 21 ch) i)) = true) (m : mfr [79, 80, 81, 82, 83, 84, 85, 86, 87, 88] t t') (hC : ∀ r p, r < cR t → p < cI t r → ∃ V, VV V ∧ CC H s' (H 86 (G 2 (4 * r + p))) V ∧ MC t' (4 * r + p) V) (z : ∀ r p, r < 6 → cI t r ≤ p → p < 4 → t'.I 79 (4 * r + p) = 0 ∧ t'.I 82 (4 * r + p) = 0) : RR G H sa x s' t' ∧ MV t' := by
  have hq := h.q.1
  have ff := f.fr hq.1 hc
  have all : ∀ r p, r < cR t → p < cI t r → RCh G H s' t' (4 * r + p) := fun r p hr hp => by
    obtain ⟨V, v1, v2, v3⟩ := hC r p hr hp
    have g := (hq.po hr hp).2.2.2.2.2.2.1
    exact (ch_to (G := G) (H := H) (s := s') (t := t') (q := 4 * r + p) v1 v2 v3 (fun k hk => by rw [f.1, f.2.2.2.1]; exact g.2.2.2.1 k hk) (by rw [f.1, f.2.1]; exact g.2.2.2.2.2)).1
  refine ⟨rr_po h hM (rgl_ch hq.1 hc f hfit) ff.wk (m.wk (by decide)) fun r p hr hp => rpo_ch (hq.po hr hp) hq.ty (hq.rt hr).1.1 ff m (all r p hr hp), hM.po (m.wk (by decide)) (fun r p hr hp => ?_) (fun r p h6 hp h4 => ?_)⟩
  · obtain ⟨V, v1, v2, v3⟩ := hC r p hr hp
    obtain ⟨g1, g2, g3, g4, g5⟩ := mc_rng v1 v3
    have := (hM.r hr).i hp
    unfold mVi cL at this ⊢
    simp only [m.I 71 (by decide), m.S 17 (by decide), m.I 72 (by decide), m.J 73 (by decide), m.I 74 (by decide), m.I 75 (by decide), m.I 78 (by decide), m.I 90 (by decide), m.I 91 (by decide), m.I 94 (by decide), m.I 95 (by decide), m.I 96 (by decide), m.I 99 (by decide), m.I 100 (by decide)]
    obtain ⟨b1, b2, b3, b4, b5, b6, b7, b8, b9, b10, b11, b12, b13, b14⟩ := this
    exact ⟨b1, b2, b3, b4, b5, b6, b7, b8, g1, g2, g3, g4, g5, b14⟩
  · have := hM.2.2.2.2.2.2.2.2.1 r p h6 hp h4
    unfold mZi at this ⊢
    simp only [m.I 74 (by decide), m.I 75 (by decide), m.I 89 (by decide), m.I 90 (by decide), m.I 95 (by decide), m.I 99 (by decide), m.I 100 (by decide)]
    obtain ⟨w1, w2, w3, w4, w5⟩ := this
    exact ⟨w1, w2, (z r p h6 hp h4).1, (z r p h6 hp h4).2, w5⟩
/-- the chain of one interface is another, on both sides -/
theorem ch_one (h : RR G H sa x s t) (hM : MV t) {r p : Nat} (hr : r < cR t) (hp : p < cI t r) {V : chV} (f : fch H (H 86 (G 2 (4 * r + p))) s s') (hfit : ∀ i, i < 16 → fits .byte (.int (s'.E (H 21 (H 86 (G 2 (4 * r + p)))) i)) = true) (m : fq (4 * r + p) t t') (hV : VV V) (hC : CC H s' (H 86 (G 2 (4 * r + p))) V) (hm : MC t' (4 * r + p) V) : RR G H sa x s' t' ∧ MV t' := by
  have hq := h.q.1
  have hc := (rq_ch hq hr hp).2.2
  have h4 := hM.nIf hr
  refine ch_rr h hM hc f hfit m.1 (fun r' p' hr' hp' => ?_) (fun r' p' h6 hp' h4' => ?_)
  · by_cases e : 4 * r' + p' = 4 * r + p
    · rw [e]; exact ⟨V, hV, hC, hm⟩
    · obtain ⟨v1, v2, v3⟩ := ch_of (hq.po hr' hp').2.2.2.2.2.2.1 ((hM.r hr').i hp')
      have hc' := rq_ch hq hr' hp'
      refine ⟨_, v1, v2.fch f hq.1 hc hc'.2.2 (fun z => e ?_) v1.2.1, v3.fq v1 m e⟩
      exact hq.2.1.2.2.1 r' r p' p hr' hr hp' hp (hq.ty.i (hq.po hr' hp').1.1 (hq.po hr hp).1.1 86 (by decide) z)
  · have hne : 4 * r' + p' ≠ 4 * r + p := by
      intro e
      have : r' = r := by omega
      subst this
      omega
    obtain ⟨x1, x2, x3⟩ := m.2.1 _ hne
    obtain ⟨w1, w2, w3, w4, w5⟩ := hM.2.2.2.2.2.2.2.2.1 r' p' h6 hp' h4'
    rw [x1, x3]; exact ⟨w3, w4⟩
theorem mv_ch (hM : MV t) {r p : Nat} (hr : r < cR t) (hp : p < cI t r) {V : chV} (f : fq (4 * r + p) t t') (hV : VV V) (hm : MC t' (4 * r + p) V) : MV t' := by
  have h4 := hM.nIf hr
  obtain ⟨m, a2, a3, a4, a5⟩ := f
  refine hM.po (m.wk (by decide)) (fun r' p' hr' hp' => ?_) (fun r' p' h6 hp' h4' => ?_)
  · have := (hM.r hr').i hp'
    have h4' := hM.nIf hr'
    unfold mVi cL at this ⊢
    simp only [m.I 71 (by decide), m.S 17 (by decide), m.I 72 (by decide), m.J 73 (by decide), m.I 74 (by decide), m.I 75 (by decide), m.I 78 (by decide), m.I 90 (by decide), m.I 91 (by decide), m.I 94 (by decide), m.I 95 (by decide), m.I 96 (by decide), m.I 99 (by decide), m.I 100 (by decide)]
    obtain ⟨b1, b2, b3, b4, b5, b6, b7, b8, b9, b10, b11, b12, b13, b14⟩ := this
    by_cases e : 4 * r' + p' = 4 * r + p
    · rw [e] at b1 b2 b3 b4 b5 b6 b7 b8 b14 ⊢
      obtain ⟨g1, g2, g3, g4, g5⟩ := mc_rng hV hm
      exact ⟨b1, b2, b3, b4, b5, b6, b7, b8, g1, g2, g3, g4, g5, b14⟩
    · obtain ⟨x1, x2, x3⟩ := a2 _ e
      rw [x1, x2, x3]
      refine ⟨b1, b2, b3, b4, b5, b6, b7, b8, b9, b10, b11, b12, fun k hk => ?_, b14⟩
      have hk4 := b11.n.2.2
      have y : ∀ j, j < (t.I 82 (4 * r' + p')).toNatClampNeg → _ := fun j hj => a3 (4 * (4 * r' + p') + j) (by omega)
      obtain ⟨y1, y2, y3, y4, y5⟩ := y k hk
      rw [y1, y2, y3, y4, y5]
      obtain ⟨c1, c2, c3, c4, c5, c6⟩ := b13 k hk
      refine ⟨c1, c2, c3, c4, c5, fun k' hk' hne => ?_⟩
      rw [(y k' hk').1]
      exact c6 k' hk' hne
  · have hne : 4 * r' + p' ≠ 4 * r + p := by
      intro e
      have : r' = r := by omega
      subst this
      omega
    obtain ⟨x1, x2, x3⟩ := a2 _ hne
    have := hM.2.2.2.2.2.2.2.2.1 r' p' h6 hp' h4'
    unfold mZi at this ⊢
    simp only [m.I 74 (by decide), m.I 75 (by decide), m.I 89 (by decide), m.I 90 (by decide), m.I 95 (by decide), m.I 99 (by decide), m.I 100 (by decide), x1, x3]
    exact this
theorem P_nokey (h : LX G H sa x rd s t l ws) : LO G H sa x s t kc ks (M_lineNokey t) (C_Re_nokeyLine sa rd s kc ks) := by
  have hn := h.nw
  have h6 := h.mv.nR
  by_cases n3 : ws.length = 3
  rotate_left
  · have n3' : ¬ nI ws.length = (3 : Int32) := fun z => n3 ((h.tot (n := 3) (by decide)).mp z)
    refine LO.no h 2 ?_ fun Q kq => ?_
    · unfold M_lineNokey
      rw [h.ww, if_neg n3']
    · unfold C_Re_nokeyLine
      refine ⟨_, gd_to h.or, ?_⟩
      rw [w_tot h]
      exact ifF n3' (kq s fo.rf)
  have n3' : nI ws.length = (3 : Int32) := by rw [n3]; rfl
  have em : M_lineNokey t = if oI (pN t (wM l ws 1) (wM l ws 2)) = -1 then some (3, t) else Option.bind (wrI t 79 (oI (pN t (wM l ws 1) (wM l ws 2))) 0) fun s2 => Option.bind (wrI s2 82 (oI (pN t (wM l ws 1) (wM l ws 2))) 0) fun s3 => some (0, s3) := by
    unfold M_lineNokey
    rw [h.ww, if_pos n3', m_iw h (by omega)]
    rfl
  cases ep : pN t (wM l ws 1) (wM l ws 2) with
  | none =>
    rw [ep] at em
    refine LO.no h 3 (em.trans (if_pos rfl)) fun Q kq => ?_
    unfold C_Re_nokeyLine
    refine ⟨_, gd_to h.or, ?_⟩
    rw [w_tot h]
    refine ifT n3' ⟨h.or, w_portNamed h (by omega) ?_⟩
    rw [ep]
    exact ifT rfl (kq s fo.rf)
  | some q =>
    obtain ⟨r, p, hr, hp, rfl⟩ := pN_s ep
    have h4 := h.mv.nIf hr
    have hch := rq_ch h.q hr hp
    rw [ep, if_neg (oI_n1 _ (by omega)), show oI (some (4 * r + p)) = nI (4 * r + p) from rfl, wrI_n (n := 24) (h.mv.n.n 79 24) (by omega) (by decide)] at em
    simp only [Option.bind_some] at em
    rw [wrI_n (t := moSI t 79 (4 * r + p) 0) (n := 24) (h.mv.n.n 82 24) (by omega) (by decide)] at em
    simp only [Option.bind_some] at em
    have f : fch H (H 86 (G 2 (4 * r + p))) s (cSI (cSI s 20 (H 86 (G 2 (4 * r + p))) 0) 22 (H 86 (G 2 (4 * r + p))) 0) := fch.si.tr fch.si
    have mq : fq (4 * r + p) t (moSI (moSI t 79 (4 * r + p) 0) 82 (4 * r + p) 0) := (fq.si (Or.inl ⟨Or.inl rfl, rfl⟩)).tr (fq.si (Or.inl ⟨Or.inr (Or.inr rfl), rfl⟩))
    have hk := chK h.q.1 hch.2.2
    obtain ⟨g1, g2⟩ := ch_one (V := (0, [], [])) h.1 h.mv hr hp f (fun i hi => h.q.1.2.2.2.2.2.2.2.2.2.2.2.2.2.2.1 _ i (by rw [hk.1.2]) hi) mq ⟨by decide, by decide, ⟨fun z => absurd z (by decide), fun z => absurd z (by decide)⟩, fun z => absurd z (by decide), fun k v hv => (by cases hv), fun k k' v v' hv => (by cases hv)⟩ ⟨(cSI_g (by decide)).trans cSI_s, cSI_s, fun k v hv => (by cases hv), fun z => absurd z (by decide)⟩ ⟨by rw [moSI_n (by decide), moSI_s]; exact if_pos rfl, by rw [moSI_s]; exact if_pos rfl, fun k v hv => (by cases hv), fun z => absurd z (by decide)⟩
    refine ⟨0, _, em, g2, mq.1.wk (by decide), fun Q kq => ?_⟩
    unfold C_Re_nokeyLine
    refine ⟨_, gd_to h.or, ?_⟩
    rw [w_tot h]
    refine ifT n3' ⟨h.or, w_portNamed h (by omega) ?_⟩
    rw [ep]
    refine ifF (by simp) ⟨_, rfl, _, gd_to (okr (h.q.po hr hp).1.1 4), _, hch.1, hch.2.2, ?_⟩
    unfold C_Ch_clear
    exact ⟨_, gd_to ⟨hch.2.2, Or.inl rfl⟩, _, gd_to hch.2.2, kq _ _ _ g1 ⟨(f.fr h.q.1 hch.2.2).wk, by omega, by omega⟩⟩
end Ky
