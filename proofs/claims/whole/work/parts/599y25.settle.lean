/-! One prefix is settled, on both sides. -/
section S4
variable {G H : Nat → Nat → Nat} {sa : Nat → Nat} {x r p kc ks : Nat} {s : cS} {t td : moS} {f n dk dm di dt : Int32} {h l : Int64} {a2 a3 : Option Nat}
/-- what is due comes, or is -/
theorem c_due {Q : cS → Nat → Nat → Prop} (hR : RR G H sa x s t) (hM : MV t) (hr : r < cR t) (hf : lnOk f n) (hp : PF s p (fam f) h l n) (h5 : okO s 5 p) (hrole : (s.K p).1 = 18 ∨ (s.K p).1 = 19 ∨ (s.K p).1 = 36) (h8 : (∀ j, j < cN t r → kyR t (2700 * r + j) ≠ kyV f h l n) → cN t r < 880) (hD : M_isDue t (nI r) f h l n = some (1, td)) (m : mfr Wdu t td) (e1 : td.S 153 = dk) (e2 : td.S 154 = dm) (e3 : td.S 155 = di) (e4 : td.S 156 = dt) (hdo : dueOk t r dk dm di dt) (hd : dueC s a2 a3 dk dm dt (ifp G di)) (hkc : potC G r ≤ kc) (hks : potS s G H r ≤ ks) (kk : SetK G H sa x s t r (SA t r f h l n) kc ks Q) : C_Rr_settle_b30 sa (G 1 r) (some p) a2 a3 s kc ks Q := by
  have hq := hR.q.1
  have k26 := (hq.rt hr).1.1
  have h186 := hq.ty.p k26 186 27
  obtain ⟨w, cap, ht, hK⟩ := tbo_t hq hM hr
  have ky : ∀ j, j < cN t r → cPk s (H 160 (G 4 (2700 * r + j))) = kyR t (2700 * r + j) := fun j hj => ((hq.tb hr).2.1 j hj).1.key
  have hpk := hp.key
  have go : ∀ a4, C_Rr_settle_b56 sa (G 1 r) (some p) a2 a3 a4 s kc ks Q → (if a2 = none then (if a3 = none then (okO s 9 (G 1 r) ∧ C_Rr_lapse sa (G 1 r) a4 s kc ks (fun sr4 cr4 dr4 => (Q sr4 cr4 dr4))) else ((C_Rr_settle_b56 sa (G 1 r) (some p) a2 a3 a4 s kc ks Q))) else ((C_Rr_settle_b56 sa (G 1 r) (some p) a2 a3 a4 s kc ks Q))) := fun a4 z => by
    rcases hd with ⟨q, y, -⟩ | ⟨y0, b, y, -⟩
    · exact ifF (by rw [y]; simp) z
    · exact ifT y0 (ifF (by rw [y]; simp) z)
  unfold C_Rr_settle_b30
  refine ⟨_, gd_to (okr k26 9), _, h186.1, okr h186.2 10, w_find ht (hp.ok hf h5) (fun z => go none ?_) fun j hj z => go _ ?_⟩
  · have hnf : ∀ j, j < cN t r → kyR t (2700 * r + j) ≠ kyV f h l n := fun j hj y => z j hj (by rw [hpk, ← y]; exact ky j hj)
    have hF : M_find t (nI r) f h l n = some (-1) := by
      rcases m_find (h := h) (l := l) hM hr hf with ⟨-, y⟩ | ⟨j, y1, y2, -⟩
      · exact y
      · exact absurd y2 (hnf j y1)
    unfold C_Rr_settle_b56
    exact ifT rfl ⟨_, gd_to (okr k26 9), _, h186.1, okr h186.2 10, c_come hR hM hr hf hp h5 hrole hnf (h8 hnf) hF hD m e1 e2 e3 e4 hdo hd hkc hks kk⟩
  · have z : cPk s (H 160 (G 4 (2700 * r + j))) = cPk s p := z
    rw [ky j hj, hpk] at z
    have hF : M_find t (nI r) f h l n = some (nI (2700 * r + j)) := by
      rcases m_find (h := h) (l := l) hM hr hf with ⟨y, -⟩ | ⟨j', y1, y2, y3⟩
      · exact absurd z (y j hj)
      · have : j' = j := by
          rcases Nat.lt_trichotomy j' j with q | q | q
          · have := hM.ks hr q hj; omega
          · exact q
          · have := hM.ks hr q y1; omega
        rw [← this]; exact y3
    unfold C_Rr_settle_b56
    exact ifF (by simp) (c_own hR hM hr hj hF hD m e1 e2 e3 e4 hdo hd kk)
/-- nothing is due -/
theorem c_none {Q : cS → Nat → Nat → Prop} (hR : RR G H sa x s t) (hM : MV t) (hr : r < cR t) (hf : lnOk f n) (hp : PF s p (fam f) h l n) (h5 : okO s 5 p) (hD : M_isDue t (nI r) f h l n = some (0, td)) (m : mfr Wdu t td) (kk : SetK G H sa x s t r (SA t r f h l n) kc ks Q) : C_Rr_settle_b30 sa (G 1 r) (some p) none none s kc ks Q := by
  have hq := hR.q.1
  have k26 := (hq.rt hr).1.1
  have h186 := hq.ty.p k26 186 27
  obtain ⟨w, cap, ht, hK⟩ := tbo_t hq hM hr
  have ky : ∀ j, j < cN t r → cPk s (H 160 (G 4 (2700 * r + j))) = kyR t (2700 * r + j) := fun j hj => ((hq.tb hr).2.1 j hj).1.key
  have hpk := hp.key
  obtain ⟨hRd, hMd⟩ := rr_sc hR hM m
  unfold C_Rr_settle_b30
  refine ⟨_, gd_to (okr k26 9), _, h186.1, okr h186.2 10, w_find ht (hp.ok hf h5) (fun z => ifT rfl (ifT rfl ⟨okr k26 9, ?_⟩)) fun j hj z => ifT rfl (ifT rfl ⟨okr k26 9, ?_⟩)⟩
  · have hF : M_find t (nI r) f h l n = some (-1) := by
      rcases m_find (h := h) (l := l) hM hr hf with ⟨-, y⟩ | ⟨j, y1, y2, -⟩
      · exact y
      · exact absurd (by rw [hpk, ← y2]; exact ky j y1) (z j y1)
    unfold C_Rr_lapse
    exact ifT rfl (kk.n (sa_no hF hD) hRd hMd (rwT.m m))
  · have z : cPk s (H 160 (G 4 (2700 * r + j))) = cPk s p := z
    rw [ky j hj, hpk] at z
    have hF : M_find t (nI r) f h l n = some (nI (2700 * r + j)) := by
      rcases m_find (h := h) (l := l) hM hr hf with ⟨y, -⟩ | ⟨j', y1, y2, y3⟩
      · exact absurd z (y j hj)
      · have : j' = j := by
          rcases Nat.lt_trichotomy j' j with q | q | q
          · have := hM.ks hr q hj; omega
          · exact q
          · have := hM.ks hr q y1; omega
        rw [← this]; exact y3
    exact c_lap hR hM hr hj hF hD m kk
/-- one prefix is settled -/
theorem c_settle {Q : cS → Nat → Nat → Prop} (hR : RR G H sa x s t) (hM : MV t) (hr : r < cR t) (hrun : t.I 39 r ≠ 0) (hf : lnOk f n) (hpx : isPx h l n) (hp : PF s p (fam f) h l n) (h5 : okO s 5 p) (hrole : (s.K p).1 = 18 ∨ (s.K p).1 = 19 ∨ (s.K p).1 = 36) (h8 : (∀ j, j < cN t r → kyR t (2700 * r + j) ≠ kyV f h l n) → cN t r < 880) (hkc : potC G r ≤ kc) (hks : potS s G H r ≤ ks) (kk : SetK G H sa x s t r (SA t r f h l n) kc ks Q) : C_Rr_settle sa (G 1 r) (some p) s kc ks Q := by
  have hq := hR.q.1
  have h6 := hM.nR
  have h4 := hM.nIf hr
  have k26 := (hq.rt hr).1.1
  have hdue := m_isDue (h := h) (l := l) hM hr hf
  unfold C_Rr_settle
  refine ⟨_, gd_to (okr k26 9), ?_⟩
  rw [show s.I (20 * 9 + 3) (G 1 r) = t.I 39 r from (hq.rt hr).2.2.1.2.1]
  refine ifF hrun ⟨okr k26 9, w_portOf hq hM hr hf hpx hp h5 (fun no => ifT rfl ?_) fun q hq' hu hmin => ifF (by simp) ?_⟩
  · have h187 := hq.ty.p k26 187 28
    obtain ⟨w, cap, ht, hK⟩ := tbo_s hq hM hr
    obtain ⟨s1, s2⟩ := st_both hq hM hr
    have hpk := hp.key
    refine ⟨_, gd_to (okr k26 9), _, h187.1, okr h187.2 10, w_find ht (hp.ok hf h5) (fun z => ?_) fun j hj z => ?_⟩
    · rcases hdue with ⟨dk, dm, di, dt, td, hd, -⟩ | ⟨-, td, hD, m⟩
      · exfalso
        rcases hd with ⟨q, h1, h2, -⟩ | ⟨-, k, h1, h2, -⟩
        · exact no q h1 h2
        · obtain ⟨j, j1, j2⟩ := s2 k h1
          refine z j j1 ?_
          show cPk s (H 160 (G 6 (32 * r + j))) = _
          rw [s1 j j1, j2, hpk]
          exact h2
      · exact c_none hR hM hr hf hp h5 hD m kk
    · have z : cPk s (H 160 (G 6 (32 * r + j))) = cPk s p := z
      rw [s1 j hj, hpk] at z
      obtain ⟨-, b1, b2⟩ := hq.st hr
      obtain ⟨c1, c2, c3, c4⟩ := b1 j hj
      have kb : (s.K (G 6 (32 * r + j))).1 = 24 := by
        obtain ⟨-, y2, -, w0, cap0, -, -, -, -, -, d6, -⟩ := (hq.st hr).1
        exact (d6 j (by have : cSt t r ≤ G 14 r := y2; omega)).2
      rcases hdue with ⟨dk, dm, di, dt, td, hd, hD, m, e1, e2, e3, e4⟩ | ⟨hno, -⟩
      · have hdo := hd.ok hM hr
        refine c_due hR hM hr hf hp h5 hrole h8 hD m e1 e2 e3 e4 hdo ?_ hkc hks kk
        rcases hd with ⟨q, h1, h2, -⟩ | ⟨-, k, h1, h2, h3, rfl, rfl, rfl, rfl⟩
        · exact absurd h2 (no q h1)
        · have ek : k = G 7 (32 * r + j) := by
            obtain ⟨j', j1, j2⟩ := s2 k h1
            have : j' = j := by
              have y1 := s1 j' j1
              have y2 := s1 j hj
              rw [j2, h2, ← z, ← y2] at y1
              rcases Nat.lt_trichotomy j' j with q | q | q
              · have := b2 j' j q hj; omega
              · exact q
              · have := b2 j j' q j1; omega
            rw [← this, j2]
          rw [ek]
          exact Or.inr ⟨rfl, _, rfl, kb, rfl, c3, c4, rfl⟩
      · exact absurd z (hno.2 _ c1)
  · have hpo := hq.po hr hq'
    rcases hdue with ⟨dk, dm, di, dt, td, hd, hD, m, e1, e2, e3, e4⟩ | ⟨hno, -⟩
    · have hdo := hd.ok hM hr
      refine c_due hR hM hr hf hp h5 hrole h8 hD m e1 e2 e3 e4 hdo ?_ hkc hks kk
      rcases hd with ⟨q', h1, h2, h3, rfl, rfl, rfl, rfl⟩ | ⟨h1, -⟩
      · have eq : q' = q := by
          rcases Nat.lt_trichotomy q' q with y | y | y
          · exact absurd h2 (hmin q' y)
          · exact y
          · exact absurd hu (h3 q y)
        rw [eq]
        refine Or.inl ⟨G 2 (4 * r + q), rfl, hpo.1.1, rfl, hpo.2.2.2.1.1, rfl, ?_⟩
        unfold ifp
        rw [if_neg (nI_ne (by omega)), nI_clamp (by omega)]
      · exact absurd hu (h1 q hq')
    · exact absurd hu (hno.1 q hq')
end S4
