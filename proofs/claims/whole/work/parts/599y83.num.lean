/-! An interface's next number; a chain's entries in the draft. -/
section Nm
variable {G H : Nat → Nat → Nat} {sa : Nat → Nat} {x kc ks c b d : Nat} {s s0 s' : cS} {t t' : moS} {l : List Int32} {V : chV} {Q : cS → Nat → Nat → Prop}
theorem rpo_sn {r p : Nat} (h : RPo G H s t r p) (hT : TY cNo H s) (hr : (s.K (G 1 r)).1 = 26) (h4' : (t.I 82 (4 * r + p)).toNatClampNeg ≤ 4) (f : fr [8] [] [] s s') (m : mfr [89] t t') (h98 : s'.I 98 (G 2 (4 * r + p)) = s.I 98 (G 2 (4 * r + p))) (sc : s'.I 83 (G 2 (4 * r + p)) = t'.I 72 (4 * r + p) ∧ spl (s'.I 84 (G 2 (4 * r + p))) (t'.J 73 (4 * r + p)) ∧ s'.I 85 (G 2 (4 * r + p)) = t'.I 74 (4 * r + p) ∧ s'.I 88 (G 2 (4 * r + p)) = t'.I 90 (4 * r + p) ∧ s'.I 92 (G 2 (4 * r + p)) = t'.I 95 (4 * r + p) ∧ s'.I 93 (G 2 (4 * r + p)) = t'.I 99 (4 * r + p) ∧ s'.I 94 (G 2 (4 * r + p)) = t'.I 100 (4 * r + p) ∧ s'.I 95 (G 2 (4 * r + p)) = t'.I 89 (4 * r + p)) : RPo G H s' t' r p := by
  obtain ⟨⟨a1, a2, a3⟩, b1, b2, c, d, e, g, k⟩ := h
  have g' := g.fr hT a1 h4' f m rfl rfl rfl rfl
  have k' : RSo G s' t' (4 * r + p) := by
    obtain ⟨z, w1, w2, cap, y1, y2, y3, y4, y5, y6, y7, y8⟩ := k
    have em : msL t' (4 * r + p) = msL t (4 * r + p) := by
      unfold msL
      rw [m.S 101 (by decide), m.I 102 (by decide)]
    unfold RSo
    rw [em, m.J 103 (by decide), m.J 104 (by decide), f.p a1 (by decide), f.p a1 (by decide), h98]
    refine ⟨z, w1, w2, cap, y1, y2, f.k y3, f.k y4, y5, y6, y7, fun i hi => ?_⟩
    rw [(f.v (a := w1) (u := 115) (by rw [y3]) (by decide)).2.2, (f.v (a := w2) (u := 120) (by rw [y4]) (by decide)).2.2]
    exact y8 i hi
  refine ⟨⟨f.r a1, ?_, ?_⟩, b1.fr a1 f m rfl (by decide) rfl, b2.fr a1 f m rfl (by decide) rfl, sc, ?_, ?_, g', k'⟩
  · rw [f.q (a := H 184 (G 1 r)) (u := 139) (by rw [(hT.r hr 184 139 4).2]) (by decide)]; exact a2
  · rw [m.I 71 (by decide)]; exact a3
  · rw [m.I 90 (by decide), m.I 91 (by decide), m.J 92 (by decide), m.J 93 (by decide), m.I 94 (by decide), f.q (a := H 87 (G 2 (4 * r + p))) (u := 136) (by rw [(hT.r a1 87 136 4).2]) (by decide)]
    intro j hj
    obtain ⟨q, q1, q2, q3⟩ := d j hj
    exact ⟨q, q1, f.r q2, q3.fr f q2 (by decide)⟩
  · rw [m.I 95 (by decide), m.I 96 (by decide), m.J 97 (by decide), m.J 98 (by decide), f.q (a := H 91 (G 2 (4 * r + p))) (u := 137) (by rw [(hT.r a1 91 137 4).2]) (by decide)]
    intro j hj
    obtain ⟨q, n, q1, q2, q3⟩ := e j hj
    exact ⟨q, n, q1, f.r q2, q3.fr f q2 (by decide)⟩
theorem rr_num (h : RR G H sa x s t) (hM : MV t) {r p : Nat} {v : Int32} (hr : r < cR t) (hp : p < cI t r) : RR G H sa x (cSI s 95 (G 2 (4 * r + p)) v) (moSI t 89 (4 * r + p) v) ∧ MV (moSI t 89 (4 * r + p) v) ∧ fr [8] [] [] s (cSI s 95 (G 2 (4 * r + p)) v) := by
  have hq := h.q.1
  have hk := (hq.po hr hp).1.1
  have f : fr [8] [] [] s (cSI s 95 (G 2 (4 * r + p)) v) := fr.si (by rw [hk]; decide)
  have m : mfr [89] t (moSI t 89 (4 * r + p) v) := mfr.si (by decide)
  have e89 : ∀ i, (moSI t 89 (4 * r + p) v).I 89 i = if i = 4 * r + p then v else t.I 89 i := fun i => by rw [moSI_s]; rfl
  refine ⟨rr_po h hM (hq.1.v rfl rfl f rfl rfl rfl) f.wk (m.wk (by decide)) fun r' p' hr' hp' => ?_, hM.po (m.wk (by decide)) (fun r' p' hr' hp' => ?_) (fun r' p' h6 hp' h4 => ?_), f⟩
  · have hP := hq.po hr' hp'
    have hin : G 2 (4 * r' + p') = G 2 (4 * r + p) ↔ 4 * r' + p' = 4 * r + p := ⟨fun e => hq.2.1.2.2.1 r' r p' p hr' hr hp' hp e, fun e => by rw [e]⟩
    have o1 : ∀ g, g ≠ 95 → (cSI s 95 (G 2 (4 * r + p)) v).I g (G 2 (4 * r' + p')) = s.I g (G 2 (4 * r' + p')) := fun g h1 => by rw [cSI_g h1]
    have o95 : (cSI s 95 (G 2 (4 * r + p)) v).I 95 (G 2 (4 * r' + p')) = if 4 * r' + p' = 4 * r + p then v else s.I 95 (G 2 (4 * r' + p')) := by
      by_cases c : 4 * r' + p' = 4 * r + p
      · rw [if_pos c, hin.mpr c, cSI_s]
      · rw [if_neg c, cSI_a (fun z => c (hin.mp z))]
    obtain ⟨-, -, -, ⟨c1, c2, c3, c4, c5, c6, c7, c8⟩, -⟩ := id hP
    refine rpo_sn hP hq.ty (hq.rt hr').1.1 ((hM.r hr').i hp').2.2.2.2.2.2.2.2.2.2.1.n.2.2 f m (o1 98 (by decide)) ⟨?_, ?_, ?_, ?_, ?_, ?_, ?_, ?_⟩
    · rw [o1 83 (by decide), m.I 72 (by decide)]; exact c1
    · rw [o1 84 (by decide), m.J 73 (by decide)]; exact c2
    · rw [o1 85 (by decide), m.I 74 (by decide)]; exact c3
    · rw [o1 88 (by decide), m.I 90 (by decide)]; exact c4
    · rw [o1 92 (by decide), m.I 95 (by decide)]; exact c5
    · rw [o1 93 (by decide), m.I 99 (by decide)]; exact c6
    · rw [o1 94 (by decide), m.I 100 (by decide)]; exact c7
    · rw [o95, e89, c8]
  · exact (hM.r hr').i hp'
  · have := hM.2.2.2.2.2.2.2.2.1 r' p' h6 hp' h4
    unfold mZi at this ⊢
    have ne : 4 * r' + p' ≠ 4 * r + p := fun z => by
      have hc := (hM.r hr).2.2.2.2.2.2.2.2.2.1.n.2.2
      have e : r' = r := by
        have : (cI t r) ≤ 4 := hc
        omega
      subst e
      omega
    rw [e89, if_neg ne]
    exact this
/-- a password's entry -/
theorem c_pwE {y : List Int32} (h : FW b d s0 l s) (hc : okO s0 1 c) (h21 : s0.P 21 c = some (H 21 c) ∧ s0.K (H 21 c) = (103, 16)) (hy : ∀ i, i < 16 → s0.E (H 21 c) i = y.getD i 0) (hs : secOk y) (hl : l.length ≤ 500) (k : ∀ s', FW b d s0 (l ++ pwL y) s' → Q s' kc ks) : C_Ch_addPasswordEntry sa c (some b) s kc ks Q := by
  unfold C_Ch_addPasswordEntry
  refine ⟨b, rfl, h.o, fw_number 2 rfl h (by decide) (by omega) fun s1 h1 => ⟨h1.o, fw_number 2 rfl h1 (by decide) (by rw [List.length_append]; show l.length + 2 + 2 ≤ 600; omega) fun s2 h2 => ?_⟩⟩
  rw [List.append_assoc, show bnL 65535 2 ++ bnL 2 2 = [255, 255, 0, 2] by decide] at h2
  have ne : H 21 c ≠ d := fun z => by
    have := h.2.2.2.1.2.2
    rw [← z, h21.2] at this
    exact absurd this (by decide)
  unfold C_Ch_addPasswordEntry_b18
  intro P hP
  have loop : ∀ m j s3, j + m = 16 → FW b d s0 (l ++ [255, 255, 0, 2] ++ tl (fun i => y.getD i 0) j) s3 → P (nI j) s3 kc ks := by
    intro m
    induction m with
    | zero =>
      intro j s3 hj h3
      have hj : j = 16 := by omega
      subst hj
      apply hP
      unfold C_Ch_addPasswordEntry_s18
      refine ifF (by decide) (k s3 ?_)
      unfold pwL
      rw [← List.append_assoc]; exact h3
    | succ m ih =>
      intro j s3 hj h3
      apply hP
      unfold C_Ch_addPasswordEntry_s18
      have kk : s3.K (H 21 c) = (103, 16) := by rw [h3.1.1]; exact h21.2
      refine ifT (nI_lt (b := 16) (by omega) (by decide)) ⟨_, gd_to (h3.ok hc), H 21 c, by show s3.P 21 c = _; rw [h3.1.2.1]; exact h21.1, _, gd_to ⟨by rw [kk]; decide, by rw [kk]; decide, by rw [kk]; decide, by rw [kk]; exact vp_in_nI (show j < 16 by omega) (by decide)⟩, b, rfl, h3.o, ?_⟩
      rw [nI_clamp (show j < 2 ^ 31 by omega), h3.2.2.1 _ ne, hy j (by omega)]
      refine fw_add h3 (by rw [List.length_append, List.length_append, tl_len]; show l.length + 4 + j + 1 ≤ 600; omega) fun s4 h4 => ?_
      rw [nI_1]
      refine ih (j + 1) s4 (by omega) ?_
      obtain ⟨e, he, ee⟩ := y_j hs j
      rw [ee, m255 (by omega), ← ee, List.append_assoc] at h4
      have et : tl (fun i => y.getD i 0) (j + 1) = tl (fun i => y.getD i 0) j ++ [y.getD j 0] := by
        unfold tl
        rw [List.range_succ, List.map_append]; rfl
      rw [et]
      exact h4
  exact loop 16 0 s2 rfl (by rw [show tl (fun i => y.getD i 0) 0 = [] from rfl, List.append_nil]; exact h2)
theorem sh24 (p : Int32) : (p >>> ((16 : Int32) &&& 31)) >>> ((8 : Int32) &&& 31) = p >>> (nI (8 * 3) &&& 31) := by
  apply Int32.toBitVec_inj.mp
  rw [Int32.toBitVec_shiftRight, Int32.toBitVec_shiftRight, Int32.toBitVec_shiftRight]
  show (p.toBitVec.sshiftRight _).sshiftRight _ = p.toBitVec.sshiftRight _
  rw [← BitVec.sshiftRight_add]
  rfl
/-- a number's four bytes -/
theorem bn4 (p : Int32) : bnL p.toInt64 4 = [((p >>> ((16 : Int32) &&& 31)) >>> ((8 : Int32) &&& 31)) &&& 255, (p >>> ((16 : Int32) &&& 31)) &&& 255, (p >>> ((8 : Int32) &&& 31)) &&& 255, p &&& 255] := by
  rw [sh24]
  show [(ush_L p.toInt64 (nI (8 * 3))).toInt32 &&& 255, (ush_L p.toInt64 (nI (8 * 2))).toInt32 &&& 255, (ush_L p.toInt64 (nI (8 * 1))).toInt32 &&& 255, (ush_L p.toInt64 (nI (8 * 0))).toInt32 &&& 255] = _
  rw [lay_b p 3 (by decide), lay_b p 2 (by decide), lay_b p 1 (by decide), lay_b p 0 (by decide)]
  have e0 : p >>> (nI (8 * 0) &&& 31) = p := by
    apply Int32.toBitVec_inj.mp
    rw [Int32.toBitVec_shiftRight]
    exact BitVec.sshiftRight_zero ..
  rw [e0]
  rfl
/-- a key's entry -/
theorem c_keE {v : kV} {kx : Nat} {nn : Int32} (h : FW b d s0 l s) (hc : okO s0 1 c) (h23 : s0.P 23 c = some (H 23 c) ∧ s0.K (H 23 c) = (109, 4)) (h24 : s0.P 24 c = some (H 24 c) ∧ s0.K (H 24 c) = (110, 4)) (hk : kx < 4) (e23 : s0.E (H 23 c) kx = v.1) (e24 : s0.E (H 24 c) kx = szK v.2.1) (hv : rng v.1 0 255) (hl : l.length ≤ 500) (k : ∀ s', FW b d s0 (l ++ keL 0 v nn) s' → Q s' kc ks) : C_Ch_addKeyEntry sa c (some b) (nI kx) nn s kc ks Q := by
  have ne3 : H 23 c ≠ d := fun z => by
    have := h.2.2.2.1.2.2
    rw [← z, h23.2] at this
    exact absurd this (by decide)
  have ne4 : H 24 c ≠ d := fun z => by
    have := h.2.2.2.1.2.2
    rw [← z, h24.2] at this
    exact absurd this (by decide)
  have ok : ∀ {s' : cS} {a u : Nat}, s'.K = s0.K → s0.K a = (u, 4) → 100 ≤ u ∧ u < 130 ∧ cAT u = .int → okA s' .int a (nI kx) := fun {s' a u} hK h4 hu => ⟨by rw [hK, h4]; exact hu.1, by rw [hK, h4]; exact hu.2.1, by rw [hK, h4]; exact hu.2.2, by rw [hK, h4]; exact show vp_in (nI kx) 4 from vp_in_nI hk (by decide)⟩
  have cl : (nI kx).toNatClampNeg = kx := nI_clamp (by omega)
  unfold C_Ch_addKeyEntry
  refine ⟨b, rfl, h.o, fw_number 2 rfl h (by decide) (by omega) fun s1 h1 => ⟨h1.o, fw_number 2 rfl h1 (by decide) (by rw [List.length_append]; show l.length + 2 + 2 ≤ 600; omega) fun s2 h2 => ⟨h2.o, fw_number 2 rfl h2 (by decide) (by rw [List.length_append, List.length_append]; show l.length + 2 + 2 + 2 ≤ 600; omega) fun s3 h3 => ?_⟩⟩⟩
  rw [List.append_assoc, List.append_assoc, show bnL 65535 2 ++ (bnL 3 2 ++ bnL 0 2) = [255, 255, 0, 3, 0, 0] by decide] at h3
  refine ⟨_, gd_to (h3.ok hc), H 23 c, by show s3.P 23 c = _; rw [h3.1.2.1]; exact h23.1, _, gd_to (ok h3.1.1 h23.2 (by decide)), h3.o, ?_⟩
  rw [cl, h3.2.2.1 _ ne3, e23]
  refine fw_add h3 (by rw [List.length_append]; show l.length + 6 + 1 ≤ 600; omega) fun s4 h4 => ?_
  refine ⟨_, gd_to (h4.ok hc), H 24 c, by show s4.P 24 c = _; rw [h4.1.2.1]; exact h24.1, _, gd_to (ok h4.1.1 h24.2 (by decide)), h4.o, ?_⟩
  rw [cl, h4.2.2.1 _ ne4, e24]
  refine fw_add h4 (by rw [List.length_append, List.length_append]; show l.length + 6 + 1 + 1 ≤ 600; omega) fun s5 h5 => ⟨h5.o, fw_number 4 rfl h5 (by decide) (by rw [List.length_append, List.length_append, List.length_append]; show l.length + 6 + 1 + 1 + 4 ≤ 600; omega) fun s6 h6 => ⟨h6.o, fw_zeros 8 rfl h6 (by decide) (by rw [List.length_append, List.length_append, List.length_append, List.length_append, bn4]; show l.length + 6 + 1 + 1 + 4 + 8 ≤ 600; omega) fun s7 h7 => k s7 ?_⟩⟩
  obtain ⟨j, e, -, hj⟩ := hv
  have e1 : v.1 &&& 255 = v.1 := by rw [e]; exact m255 (by omega)
  have e2 : szK v.2.1 &&& 255 = szK v.2.1 := by unfold szK; split <;> decide
  rw [e1, e2, bn4] at h7
  have el : l ++ keL 0 v nn = l ++ [255, 255, 0, 3, 0, 0] ++ [v.1] ++ [szK v.2.1] ++ [((nn >>> ((16 : Int32) &&& 31)) >>> ((8 : Int32) &&& 31)) &&& 255, (nn >>> ((16 : Int32) &&& 31)) &&& 255, (nn >>> ((8 : Int32) &&& 31)) &&& 255, nn &&& 255] ++ List.replicate 8 0 := by
    rw [List.append_assoc, List.append_assoc, List.append_assoc, List.append_assoc]; rfl
  rw [el]
  exact h7
end Nm
