/-! A draft gets its end. -/
abbrev Rsl : List Nat := [3, 4, 5, 6, 8, 12, 13, 113, 119, 127, 129]
section Sl
variable {G H : Nat → Nat → Nat} {sa : Nat → Nat} {x kc ks c D b d kx W S V : Nat} {s s' s0 : cS} {t : moS} {cmd nn : Int32} {v : kV} {E l y : List Int32} {Q : cS → Nat → Nat → Prop} {sha : Int32}
theorem KY.fw (hk : KY c kx sha y s0) (h : FW b d s0 l s) : KY c kx sha y s := by
  obtain ⟨h0, T4, T7, w, ⟨a1, a2, a3⟩, b1, b2, b3, b4, b5⟩ := hk
  obtain ⟨⟨k1, k2, k3, k4⟩, -, e, ⟨-, -, kd⟩, -⟩ := h
  have n4 : T4 ≠ d := fun z => by rw [z, kd] at a2; exact absurd a2 (by decide)
  have nw : w ≠ d := fun z => by rw [z, kd] at b4; exact absurd b4 (by decide)
  refine ⟨h0, T4, T7, w, ⟨by rw [k2]; exact a1, by rw [k1]; exact a2, ?_⟩, by rw [k2]; exact b1, by rw [k1]; exact b2, by rw [k3]; exact b3, by rw [k1]; exact b4, fun i hi => ?_⟩
  · rw [e T4 n4]; exact a3
  · rw [e w nw]; exact b5 i hi
theorem sz_n (sha : Int32) : szK sha = nI (szN sha) ∧ szN sha ≤ 20 ∧ 16 ≤ szN sha := by
  unfold szK szN
  split
  · exact ⟨rfl, by decide, by decide⟩
  · exact ⟨rfl, by decide, by decide⟩
theorem tl_s {f : Nat → Int32} {j : Nat} : tl f (j + 1) = tl f j ++ [f j] := by
  unfold tl
  rw [List.range_succ, List.map_append]; rfl
/-- the sum's bytes come behind -/
theorem c_sealE (h : FW b d s0 l s) (hd : DWo c W S V s0) (hk : KY c kx sha y s0) {L : List Int32} (hS : cst s0 S = sumS sha L (fun i => y.getD i 0)) (hl : l.length ≤ 560) (k : ∀ s', FW b d s0 (l ++ (tl (sumP sha L (fun i => y.getD i 0)) (szN sha) ++ (if sha = 0 then [] else List.replicate 16 0))) s' → Q s' kc ks) : C_Ch_seal_b43 sa c (some b) (nI kx) 0 s kc ks Q := by
  obtain ⟨sz1, sz2, sz3⟩ := sz_n sha
  have hbit := hk.1.2.2
  have ns : S ≠ d := fun z => by
    have := hd.2.2.2.2.2.1
    rw [z, h.2.2.2.1.2.2] at this
    exact absurd this (by decide)
  unfold C_Ch_seal_b43
  intro P hP
  have loop : ∀ m j s2, j + m = szN sha → FW b d s0 (l ++ tl (sumP sha L (fun i => y.getD i 0)) j) s2 → P (nI j) s2 kc ks := by
    intro m
    induction m with
    | zero =>
      intro j s2 hj h2
      have hj : j = szN sha := by omega
      subst hj
      have k2 := hk.fw h2
      obtain ⟨⟨hk4, -⟩, T4, T7, w, ⟨a1, a2, a3⟩, -⟩ := k2
      have o2 := h2.ok hd.1
      have okT : okA s2 .int T4 (nI kx) := ⟨by rw [a2]; decide, by rw [a2]; decide, by rw [a2]; decide, by rw [a2]; exact vp_in_nI hk4 (by decide)⟩
      have a3 : s2.E T4 kx = szK sha := a3
      apply hP
      unfold C_Ch_seal_s43
      refine ⟨_, gd_to o2, T4, a1, _, gd_to okT, ?_⟩
      rw [nI_clamp (show kx < 2 ^ 31 by omega), a3, sz1]
      refine ifF (nI_nlt (Nat.le_refl _) (by omega)) ⟨_, gd_to o2, T4, a1, _, gd_to okT, ?_⟩
      rw [nI_clamp (show kx < 2 ^ 31 by omega), a3]
      by_cases z : sha = 0
      · refine ifF (by rw [show szK sha = 16 from if_pos z]; decide) (k s2 ?_)
        rw [if_pos z, List.append_nil]; exact h2
      · refine ifT (show szK sha = 20 from if_neg z) ⟨b, rfl, h2.o, fw_zeros 16 rfl h2 (by decide) (by rw [List.length_append, tl_len]; omega) fun s3 h3 => k s3 ?_⟩
        rw [if_neg z, ← List.append_assoc]; exact h3
    | succ m ih =>
      intro j s2 hj h2
      have k2 := hk.fw h2
      obtain ⟨⟨hk4, -⟩, T4, T7, w, ⟨a1, a2, a3⟩, -⟩ := id k2
      have o2 := h2.ok hd.1
      have d2 : DWo c W S V s2 := by
        obtain ⟨q1, q2, q3, q4, q5, q6, q7⟩ := hd
        refine ⟨o2, ?_, ?_, ?_, ?_, ?_, ?_⟩
        · rw [h2.1.2.1]; exact q2
        · rw [h2.1.2.1]; exact q3
        · rw [h2.1.2.1]; exact q4
        · rw [h2.1.1]; exact q5
        · rw [h2.1.1]; exact q6
        · rw [h2.1.1]; exact q7
      have okT : okA s2 .int T4 (nI kx) := ⟨by rw [a2]; decide, by rw [a2]; decide, by rw [a2]; decide, by rw [a2]; exact vp_in_nI hk4 (by decide)⟩
      have a3 : s2.E T4 kx = szK sha := a3
      apply hP
      unfold C_Ch_seal_s43
      refine ⟨_, gd_to o2, T4, a1, _, gd_to okT, ?_⟩
      rw [nI_clamp (show kx < 2 ^ 31 by omega), a3, sz1]
      refine ifT (nI_lt (by omega) (by omega)) ⟨o2, c_sby (DW.rf d2) k2 (by omega) ?_⟩
      have ec : cst s2 S = sumS sha L (fun i => y.getD i 0) := by
        rw [← hS]; unfold cst; rw [h2.2.2.1 S ns]
      rw [ec]
      refine ⟨b, rfl, h2.o, fw_add h2 (by rw [List.length_append, tl_len]; omega) fun s3 h3 => ?_⟩
      rw [nI_1]
      refine ih (j + 1) s3 (by omega) ?_
      rw [sbB_b, ← sumS_p hbit, List.append_assoc] at h3
      rw [tl_s]
      exact h3
  exact loop (szN sha) 0 s (by omega) (by rw [show tl (sumP sha L fun i => y.getD i 0) 0 = [] from rfl, List.append_nil]; exact h)
theorem c_seal (hR : RR G H sa x s t) (hM : MV t) (hc : okO s 1 c) (hD : G 11 999 = D) (hbD : b = H 40 D) (hk : KY c kx v.2.1 v.2.2.1 s) (hb : BL s b 129 ((hdL cmd 2 ++ keL 0 v nn) ++ E) 600) (hE : E.length ≤ 520) (hkc : wkC s c ≤ kc ∧ 792 * wkC s c ≤ ks) (k : ∀ s' kc' ks', RR G H sa x s' t → fr Rsl [(28, 4), (28, 5), (47, 6)] [] s s' → (∀ a, okO s 1 a → a ≠ c → s'.P 28 a = s.P 28 a) → s'.P 28 c ≠ none → kc = kc' + wkC s c ∧ ks = ks' + 792 * wkC s c → BL s' b 129 (krL cmd v nn E ++ seL v (krL cmd v nn E)) 600 → s'.I 44 D = s.I 44 D → (∀ A, (s.K A).1 = 6 → A ≠ D → hdF H A s s') → Q s' kc' ks') : C_Ch_seal sa c (some b) (nI kx) s kc ks Q := by
  have hq := hR.q.1
  have hT := hq.ty
  have k6 : (s.K D).1 = 6 := by rw [← hD]; exact hq.2.2.2.2.2.2.2.2.2.1.2
  have kb : (s.K b).1 = 3 := by rw [hbD]; exact (hT.p k6 40 3).2
  obtain ⟨d, h0⟩ := hb.fw
  have hpd : s.P 0 b = some d := h0.2.2.2.1.2.1
  have kd : s.K d = (129, 600) := h0.2.2.2.1.2.2
  have hn : ((hdL cmd 2 ++ keL 0 v nn) ++ E).length = 24 + E.length := by rw [List.length_append]; rfl
  have hn : ((hdL cmd 2 ++ keL 0 v nn) ++ E).length = 24 + E.length := hn
  generalize hnn : 24 + E.length = n at hn
  unfold C_Ch_seal
  refine ⟨b, rfl, _, gd_to h0.o, h0.o, ?_⟩
  rw [show s.I (20 * 0 + 1) b = nI n by show s.I 1 b = _; rw [h0.2.2.2.2.1, hn]]
  refine fw_set (j := 8) h0 (by omega) fun s1 h1 => ⟨_, gd_to h1.o, h1.o, ?_⟩
  rw [show s1.I (20 * 0 + 1) b = nI n by show s1.I 1 b = _; rw [h1.2.2.2.2.1, List.length_set, hn]]
  refine fw_set (j := 9) h1 (by rw [List.length_set]; omega) fun s2 h2 => ⟨h2.o, ?_⟩
  have e2 : ((((hdL cmd 2 ++ keL 0 v nn) ++ E).set 8 ((nI n >>> ((8 : Int32) &&& 31)) &&& 255)).set 9 (nI n &&& 255)) = (hdL cmd 2 ++ keL n v nn) ++ E := rfl
  rw [e2] at h2
  refine fw_number 4 rfl h2 (by decide) (by rw [List.length_append]; show 24 + E.length + 4 ≤ 600; omega) fun s3 h3 => ⟨_, gd_to h3.o, h3.ok hc, ?_⟩
  rw [List.append_assoc, show bnL 4294901761 4 = [255, 255, 0, 1] by decide] at h3
  have h3 : FW b d s (krL cmd v nn E) s3 := by unfold krL; rw [hnn]; exact h3
  rw [show s3.I (20 * 0 + 1) b = nI (krL cmd v nn E).length from h3.2.2.2.2.1]
  have df3 : DF H D d s s3 := FW.df (by rw [← hbD]; exact h3)
  have hR3 : RR G H sa x s3 t := rr_dr hR hM hD (by rw [← hbD]; exact hpd) (by rw [kd]) df3 ⟨_, by rw [← hbD]; exact h3.bl⟩
  have lk : (krL cmd v nn E).length = 28 + E.length := krL_l
  have ew : wkC s3 c = wkC s c := by unfold wkC; rw [h3.1.2.1]
  have f3 : fr Rsl [(28, 4), (28, 5), (47, 6)] [] s s3 := (df3.fr hT k6 (by rw [kd])).wk
  refine c_sum (u := 3) hR3 hM (h3.ok hc) (hk.fw h3) h3.bl ⟨by rw [h3.1.1]; exact kb, by decide⟩ (by decide) (by decide) (Nat.le_refl _) (by omega) (by rw [ew]; exact hkc) fun s4 kc' ks' hR4 f4 p4 n4 c4 hW => ?_
  obtain ⟨W, S, V, s0, d4, ky0, e4⟩ := hW
  rw [List.take_length] at e4
  have b4 : BL s4 b 129 (krL cmd v nn E) 600 := h3.bl.fr f4 (u := 3) (by rw [h3.1.1]; exact kb) (by decide) (by decide) (by decide)
  obtain ⟨d', h4⟩ := b4.fw
  have kd' : s4.K d' = (129, 600) := h4.2.2.2.1.2.2
  have hpd' : s4.P 0 b = some d' := h4.2.2.2.1.2.1
  refine c_sealE h4 d4.o (ky0.dw d4) e4 (by omega) fun s5 h5 => ?_
  have df5 : DF H D d' s4 s5 := FW.df (by rw [← hbD]; exact h5)
  have hT4 := hR4.q.1.ty
  have k64 : (s4.K D).1 = 6 := by rw [← hD]; exact hR4.q.1.2.2.2.2.2.2.2.2.2.1.2
  have hR5 : RR G H sa x s5 t := rr_dr hR4 hM hD (by rw [← hbD]; exact hpd') (by rw [kd']) df5 ⟨_, by rw [← hbD]; exact h5.bl⟩
  rw [ew] at c4
  refine k s5 kc' ks' hR5 ((f3.tr f4.wk).tr (df5.fr hT4 k64 (by rw [kd'])).wk) (fun a ha ne => ?_) (by rw [h5.1.2.1]; exact n4) c4 h5.bl ?_ (fun A kA nA => ((hdF.df df3 hT k6 (by rw [← hbD]; exact hpd) kA nA).tr (hdF.fr f4 hR3.q.1.ty (f3.r kA) rfl (fun _ => by simp) (by simp))).tr (hdF.df df5 hT4 k64 (by rw [← hbD]; exact hpd') (f4.r (f3.r kA)) nA))
  · rw [h5.1.2.1, p4 a (h3.ok ha) ne, h3.1.2.1]
  · rw [h5.2.1 44 D (fun z => absurd z.1 (by decide)), (f4.v (a := D) (u := 6) (by rw [h3.1.1]; exact k6) (by decide)).1 44, h3.2.1 44 D (fun z => absurd z.1 (by decide))]
end Sl
