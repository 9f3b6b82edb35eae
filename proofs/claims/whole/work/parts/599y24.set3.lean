/-! One prefix is settled: a route comes. -/
section S3
variable {G H : Nat → Nat → Nat} {sa : Nat → Nat} {x r p kc ks : Nat} {s : cS} {t td : moS} {f n dk dm di dt : Int32} {h l : Int64} {a2 a3 : Option Nat}
theorem ins_i {K A : Nat} {k : Nat → Nat} {i i' : Nat} (h0 : ∀ j, j < A → k j ≠ K) (h1 : ∀ j, j < i → k j < K) (h2 : ∀ j, i ≤ j → j < A → K ≤ k j) (hi : i ≤ A) (h1' : ∀ j, j < i' → k j ≤ K) (h2' : ∀ j, i' ≤ j → j < A → K < k j) (hi' : i' ≤ A) : i = i' := by
  rcases Nat.lt_trichotomy i i' with z | z | z
  · have a1 := h2 i (Nat.le_refl _) (by omega)
    have a2 := h1' i z
    have a3 := h0 i (by omega)
    omega
  · exact z
  · have a1 := h1 i' z
    have a2 := h2' i' (Nat.le_refl _) (by omega)
    omega
theorem c_come {Q : cS → Nat → Nat → Prop} (hR : RR G H sa x s t) (hM : MV t) (hr : r < cR t) (hf : lnOk f n) (hp : PF s p (fam f) h l n) (h5 : okO s 5 p) (hrole : (s.K p).1 = 18 ∨ (s.K p).1 = 19 ∨ (s.K p).1 = 36) (hnf : ∀ j, j < cN t r → kyR t (2700 * r + j) ≠ kyV f h l n) (h8 : cN t r < 880) (hF : M_find t (nI r) f h l n = some (-1)) (hD : M_isDue t (nI r) f h l n = some (1, td)) (m : mfr Wdu t td) (e1 : td.S 153 = dk) (e2 : td.S 154 = dm) (e3 : td.S 155 = di) (e4 : td.S 156 = dt) (hdo : dueOk t r dk dm di dt) (hd : dueC s a2 a3 dk dm dt (ifp G di)) (hkc : potC G r ≤ kc) (hks : potS s G H r ≤ ks) (kk : SetK G H sa x s t r (SA t r f h l n) kc ks Q) : C_Ta_add sa (H 186 (G 1 r)) (some p) 0 16 s kc ks (fun r3 sr3 cr3 dr3 => C_Rr_settle_b74 sa (G 1 r) a2 a3 r3 sr3 cr3 dr3 Q) := by
  have hq := hR.q.1
  have hT := hq.ty
  have h6 := hM.nR
  have k26 := (hq.rt hr).1.1
  obtain ⟨w, cap, ht, hK⟩ := tbo_t hq hM hr
  have hTa := (hq.tb hr).1
  have hp27 : hTa.2.2.1 = hTa.2.2.1 := rfl
  have hw27 := hTa.2.2.1
  rw [potS_c ht.2.1 hK] at hks
  obtain ⟨n1, n2, n3, n4⟩ := mdu m
  obtain ⟨-, hMd⟩ := rr_sc hR hM m
  have hr' : r < cR td := by rw [n1]; exact hr
  obtain ⟨i', t2, hI, hins, hi', l1, l2⟩ := m_insert (h := h) (l := l) hMd hr' hf (by rw [n3]; exact h8)
  have hpk := hp.key
  have ky : ∀ j, j < cN t r → cPk s (H 160 (G 4 (2700 * r + j))) = kyR t (2700 * r + j) := fun j hj => ((hq.tb hr).2.1 j hj).1.key
  have rb : (s.K p).1 ≠ 9 ∧ (s.K p).1 ≠ 10 ∧ (s.K p).1 ≠ 27 ∧ (s.K p).1 ≠ 0 := by omega
  unfold potC at hkc
  refine w_add (u1 := 9) (u2 := 10) (u3 := 11) (mx := 2700) (hw := G 13 r) (g := fun j => G 4 (2700 * r + j)) hR hM (Or.inl ⟨rfl, rfl, rfl, rfl⟩) (by decide) (by decide) hTa (by decide) (by omega) ht (hp.ok hf h5) ⟨rb.1, rb.2.1⟩ hkc hks ?_
  intro H' a i w' cap' hw' s1 kc' ks' hR1 hA1 f1 hP1 hi i1 i2 hT1 hw1 hK1 hnc ka hnw hb1 hb2
  have ei : i = i' := by
    refine ins_i (K := kyV f h l n) (A := cN t r) (k := fun j => kyR t (2700 * r + j)) hnf (fun j hj => ?_) (fun j h1 h2 => ?_) hi (fun j hj => by rw [← n4]; exact l1 j hj) (fun j h1 h2 => by rw [← n4]; exact l2 j h1 (by rw [n3]; exact h2)) (by rw [← n3]; exact hi')
    · have := i1 j hj
      rw [ky j (by omega), hpk] at this
      exact this
    · have := i2 j h1 h2
      rw [ky j h2, hpk] at this
      exact this
  subst ei
  obtain ⟨hR1d, -⟩ := rr_sc hR1 hM m
  have hq1 := hR1d.q.1
  have hT' := hq1.ty
  have k26' : (s1.K (G 1 r)).1 = 26 := (hq1.rt hr').1.1
  have eH : ∀ g, H' g (G 1 r) = H g (G 1 r) := fun g => hA1.u k26 g
  rw [← eH] at hT1 hw1 ⊢
  -- the prefix, where something is new
  have fp := (f1 p rb.2.2.2)
  have hp1 : PF s1 p (fam f) h l n := by
    obtain ⟨a1, a2, a3, a4⟩ := hp
    have := fp.2.1 (by simp)
    exact ⟨by rw [this.1]; exact a1, by rw [this.2.1]; exact a2, by rw [this.2.1]; exact a3, by rw [this.1]; exact a4⟩
  have hpr : p ≠ H' 186 (G 1 r) := fun z => by
    have k := (hT'.p k26' 186 27).2
    rw [← z, fp.1] at k
    exact rb.2.2.1 k
  have hdo' := hdo.m m
  have hnew : cN td r < G 13 r ∧ hw' = G 13 r ∧ a = G 4 (2700 * r + cN td r) ∨ cN td r = G 13 r ∧ hw' = G 13 r + 1 ∧ ∀ r' j, r' < cR td → j < G 13 r' → G 4 (2700 * r' + j) ≠ a := by
    rw [n3, n1]
    rcases hnw with z | ⟨z1, z2, z3⟩
    · exact Or.inl z
    · refine Or.inr ⟨z1, z2, fun r' j hr'' hj z => ?_⟩
      obtain ⟨-, -, -, w0, cap0, -, -, -, -, -, d6, -⟩ := (hq.tb hr'').1
      have := (d6 j hj).2
      have this : (s.K (G 4 (2700 * r' + j))).1 = 23 := this
      rw [z, z3] at this
      exact absurd this (by decide)
  have hlt : ∀ j, j < i → kyR td (2700 * r + j) < kyV f h l n := fun j hj => by
    have := l1 j hj
    have h2 := hnf j (by omega)
    rw [n4] at this ⊢
    omega
  have hRi := rr_ins (hw' := hw') (dk := dk) (dm := dm) (di := di) (dt := dt) hR1d hMd hr' rfl (by rw [n3]; exact h8) hins hi' hw1 hK1 (by rw [n3]; exact hnc) ka hnew hp1 hpr hdo'
  have hMi := mv_ins (dk := dk) (dm := dm) (di := di) (dt := dt) hMd hr' rfl (by rw [n3]; exact h8) hins hi' hf hlt l2 hdo'
  have im := ins_mod (dk := dk) (dm := dm) (di := di) (dt := dt) hins rfl (by rw [n3]; exact h8) hi'
  have e105 := im.2.1
  have ct : rwT r t (setM t2 (2700 * r + i) dk dm di dt) := (rwT.m m).tr im.1
  have hrb : r < cR (setM t2 (2700 * r + i) dk dm di dt) := by
    unfold cR
    rw [ct.1.S 37 (by decide)]
    exact hr
  have hjb : i < cN (setM t2 (2700 * r + i) dk dm di dt) r := by
    unfold cN
    rw [e105, nI_clamp (by rw [n3]; omega), n3]
    omega
  have eG1 : insG G r i (cN td r) a hw' 1 = G 1 := insG_o (by decide) (by decide)
  have eG4 : insG G r i (cN td r) a hw' 4 (2700 * r + i) = a := by
    rw [insG_4 (by omega), if_neg (by omega), if_pos rfl]
  have hRm := rr_mk (a := a) (k := 2700 * r + i) hRi hMi hrb hjb eG4.symm rfl
  rw [eG1] at hRm
  have hSA := sa_come (i := i) hM hr hF hD m e1 e2 e3 e4 (by omega) hI hins.1
  rw [n3] at hRm hRi eG1
  -- the class's last steps
  have hs2 : rwC G H' r a w' s1 (bgS (cSI (cQs s1 w' (inF (s1.Q w') i (cN t r) a)) 201 (H' 186 (G 1 r)) (nI (cN t r + 1))) a p (H' 160 a) (H' 161 a) (H' 162 a) 0 16) := (rwC.q.tr (rwC.i (Or.inl rfl))).tr rwC.bg
  have b164 : (bgS (cSI (cQs s1 w' (inF (s1.Q w') i (cN t r) a)) 201 (H' 186 (G 1 r)) (nI (cN t r + 1))) a p (H' 160 a) (H' 161 a) (H' 162 a) 0 16).I 164 a = 16 := by
    rw [bgI, if_neg (by omega), if_pos ⟨rfl, rfl⟩]
  have h160 := hT'.p ka 160 9
  have h161 := hT'.p ka 161 10
  have h162 := hT'.p ka 162 11
  have ktb := (hT'.p k26' 186 27).2
  have h196 := hT'.r k26' 196 104 11
  have h180 := hT'.p k26' 180 30
  have e180 : s1.P 180 (G 1 r) = some x := by rw [h180.1, (hq1.rt hr').1.2.2]
  have kw' : (s1.K w').1 = 135 := by rw [hK1]
  have cF : rwC G H' r a w' s1 (mkS (inC s1 H' (H' 186 (G 1 r)) w' i (cN t r) a p dk dm dt (ifp G di)) (G 1 r) (H' 196 (G 1 r)) x a) := (hs2.tr rwC.bo).tr rwC.mk
  have hd2 : dueC (bgS (cSI (cQs s1 w' (inF (s1.Q w') i (cN t r) a)) 201 (H' 186 (G 1 r)) (nI (cN t r + 1))) a p (H' 160 a) (H' 161 a) (H' 162 a) 0 16) a2 a3 dk dm dt (ifp G di) := by
    have vv : ∀ q u, (s.K q).1 = u → u ≠ 0 → u ≠ 27 → u ≠ 23 → u ≠ 9 → u ≠ 10 → u ≠ 11 → u ≠ 26 → u ≠ 18 → (bgS (cSI (cQs s1 w' (inF (s1.Q w') i (cN t r) a)) 201 (H' 186 (G 1 r)) (nI (cN t r + 1))) a p (H' 160 a) (H' 161 a) (H' 162 a) 0 16).K q = s.K q ∧ ∀ g, (bgS (cSI (cQs s1 w' (inF (s1.Q w') i (cN t r) a)) 201 (H' 186 (G 1 r)) (nI (cN t r + 1))) a p (H' 160 a) (H' 161 a) (H' 162 a) 0 16).I g q = s.I g q := fun q u hu h0 u27 u23 u9 u10 u11 u26 u18 => by
      have fq := f1 q (by rw [hu]; exact h0)
      have kq : (s1.K q).1 = u := by rw [fq.1]; exact hu
      refine ⟨by rw [hs2.1]; exact fq.1, fun g => ?_⟩
      rw [hs2.2.2.2.2.2.1 q (ne_ro kq ktb u27) (ne_ro kq ka u23) (ne_ro kq h160.2 u9) (ne_ro kq h161.2 u10) (ne_ro kq h162.2 u11) (ne_ro kq k26' u26) (by rw [kq]; exact u18) g]
      exact (fq.2.1 (by simp)).1 g
    exact hd.fr (fun q hq' => vv q 8 hq' (by decide) (by decide) (by decide) (by decide) (by decide) (by decide) (by decide) (by decide)) fun q hq' => vv q 24 hq' (by decide) (by decide) (by decide) (by decide) (by decide) (by decide) (by decide) (by decide)
  clear hRi
  unfold inC at hRm cF
  generalize hsb : bgS (cSI (cQs s1 w' (inF (s1.Q w') i (cN t r) a)) 201 (H' 186 (G 1 r)) (nI (cN t r + 1))) a p (H' 160 a) (H' 161 a) (H' 162 a) 0 16 = sb at hs2 b164 hd2 hRm cF ⊢
  have okb : ∀ c b, okO s1 c b → okO sb c b := fun c b hb => by unfold okO at hb ⊢; rw [hs2.1]; exact hb
  have pb : ∀ g b, g ≠ 166 → sb.P g b = s1.P g b := fun g b hg => hs2.2.1 g b hg
  refine w_b74 (x := x) (cnt := H' 196 (G 1 r)) (p1 := H' 160 a) (p2 := H' 161 a) hd2 (okb 9 _ (okr k26' 9)) (okb 8 _ (okr ka 8)) (okb 11 _ hq1.ox) (by rw [pb 196 _ (by decide)]; exact h196.1) (by rw [hs2.1]; exact h196.2) (by rw [pb 180 _ (by decide)]; exact e180) (by rw [pb 160 _ (by decide)]; exact h160.1) (by rw [pb 161 _ (by decide)]; exact h161.1) (okb 5 _ (okr h160.2 5)) (okb 5 _ (okr h161.2 5)) (fun z => ?_) fun _ => ?_
  · exfalso
    obtain ⟨q, q1, q2, q3⟩ := hdo.2.1
    have := z.1
    rw [b164, q1] at this
    have := (nI_eq (a := 16) (b := q) (by omega) (by omega)).mp this
    omega
  · refine kk (insG G r i (cN t r) a hw') H' _ _ kc' ks' hSA hRm.1 hRm.2 (fun b h4 h13 => insG_o h4 h13) (fun r' hne => by rw [insG_13]; exact if_neg hne) hA1 (((fr_tb1 f1 hP1 (hR.q.1.ty.p (hR.q.1.rt hr).1.1 186 27).2).wk (Rv' := Rtb) (Gp' := Ptb) (Rq' := Qtb)).tr (cF.fr hT' k26' ka kw').wk) (ct.tr (rwT.mk (by omega))) (fun b g hne hb hg => ?_) ?_ ?_
    · rw [cF.2.1 g b hg]
      exact hP1 b g hne hb
    · unfold potC
      rw [insG_13]
      show kc + 5 * (2700 - (if r = r then hw' else G 13 r)) ≤ _
      rw [if_pos rfl]
      exact hb1
    · rw [potS_c ht.2.1 hK, potS_c (w := w') (cap := cap') (u := 135) (by rw [eG1, cF.2.1 200 _ (by decide)]; exact hw1) (by rw [cF.1]; exact hK1), insG_13]
      show ks + (24 * (2700 - (if r = r then hw' else G 13 r)) + _) ≤ _
      rw [if_pos rfl]
      exact hb2
end S3
