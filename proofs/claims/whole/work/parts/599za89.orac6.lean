/-! Least sums: what a router has of its own, what its neighbors say; the class. -/
section Os
variable {G H : Nat → Nat → Nat} {sa : Nat → Nat} {x kc ks r p f : Nat} {s : cS} {t : moS} {n : Int32} {h l : Int64}
theorem w_ownSum {Q : Int32 → cS → Nat → Nat → Prop} (hq : RQ G H sa x s t) (hM : MV t) (hr : r < cR t) (hf : lnOk (nI f) n) (hpx : isPx h l n) (hp : PF s p (fam (nI f)) h l n) (h5 : okO s 5 p) (k : Q (nI (min 16 (oSu t f h l n r))) s kc ks) : C_Rr_ownSum sa (G 1 r) (some p) s kc ks Q := by
  have h6 := hM.nR
  have h4 := hM.nIf hr
  have k26 := (hq.rt hr).1.1
  have o9 := okr k26 9
  unfold C_Rr_ownSum
  refine ⟨_, gd_to o9, ?_⟩
  rw [show s.I (20 * 9 + 3) (G 1 r) = t.I 39 r from (hq.rt hr).2.2.1.2.1]
  have no16 : (∀ dk dm di dt, t.I 39 r ≠ 0 → ¬ isDu t r (nI f) h l n dk dm di dt) → Q 16 s kc ks := fun no => by
    rw [oSu_n fun dk dm di dt _ z => no dk dm di dt z] at k
    exact k
  by_cases c : t.I 39 r = 0
  · exact ifT c (no16 fun _ _ _ _ z => absurd c z)
  have yes : ∀ dk dm di dt, isDu t r (nI f) h l n dk dm di dt → Q dm s kc ks := fun dk dm di dt d => by
    obtain ⟨v, ev, h1, h2⟩ := (d.ok hM hr).2.1
    rw [oSu_y hr c d, ev, nI_clamp (by omega), Nat.min_eq_right (by omega)] at k
    rw [ev]
    exact k
  refine ifF c ⟨o9, w_portOf hq hM hr hf hpx hp h5 (fun no => ifT rfl ?_) fun q hq' hu hmin => ifF (by simp) ?_⟩
  · have h187 := hq.ty.p k26 187 28
    obtain ⟨w, cap, ht, hK⟩ := tbo_s hq hM hr
    obtain ⟨s1, s2⟩ := st_both hq hM hr
    have hpk := hp.key
    refine ⟨_, gd_to o9, _, h187.1, okr h187.2 10, w_find ht (hp.ok hf h5) (fun z => ifT rfl ?_) fun j hj z => ifF (by simp) ?_⟩
    · refine no16 fun dk dm di dt _ hd => ?_
      rcases hd with ⟨q, h1, h2, -⟩ | ⟨-, k, h1, h2, -⟩
      · exact no q h1 h2
      · obtain ⟨j, j1, j2⟩ := s2 k h1
        refine z j j1 ?_
        show cPk s (H 160 (G 6 (32 * r + j))) = _
        rw [s1 j j1, j2, hpk]
        exact h2
    · have z : cPk s (H 160 (G 6 (32 * r + j))) = cPk s p := z
      rw [s1 j hj, hpk] at z
      obtain ⟨-, b1, b2⟩ := hq.st hr
      obtain ⟨c1, c2, c3, c4⟩ := b1 j hj
      have kb : (s.K (G 6 (32 * r + j))).1 = 24 := by
        obtain ⟨-, y2, -, w0, cap0, -, -, -, -, -, d6, -⟩ := (hq.st hr).1
        exact (d6 j (by have : cSt t r ≤ G 14 r := y2; omega)).2
      refine ⟨_, rfl, _, gd_to (okr kb 8), ?_⟩
      rw [show s.I (20 * 8 + 4) (G 6 (32 * r + j)) = t.I 51 (32 * r + G 7 (32 * r + j)) from c3]
      refine yes 1 _ (-1) (t.I 52 (32 * r + G 7 (32 * r + j))) (Or.inr ⟨no, G 7 (32 * r + j), c1, z, fun k' hk' z' => ?_, rfl, rfl, rfl, rfl⟩)
      obtain ⟨j', j1, j2⟩ := s2 k' (Nat.lt_trans hk' c1)
      have y1 := s1 j' j1
      have y2 := s1 j hj
      have : j' = j := by
        rw [j2, z', ← z, ← y2] at y1
        rcases Nat.lt_trichotomy j' j with q | q | q
        · have := b2 j' j q hj; omega
        · exact q
        · have := b2 j j' q j1; omega
      rw [this] at j2
      omega
  · have hpo := hq.po hr hq'
    refine ⟨_, rfl, _, gd_to (okr hpo.1.1 4), ?_⟩
    rw [show s.I (20 * 4 + 3) (G 2 (4 * r + q)) = t.I 72 (4 * r + q) from hpo.2.2.2.1.1]
    exact yes 0 _ (nI (4 * r + q)) 0 (Or.inl ⟨q, hq', hu, hmin, rfl, rfl, rfl, rfl⟩)
end Os
