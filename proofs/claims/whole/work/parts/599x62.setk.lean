/-! Chains of the class: a key, a password, a copy. -/
theorem fit127 : ∀ j, j < 127 → fits .byte (.int (nI j)) = true := by decide +kernel
theorem kIx_c {num : Int32} {L : List kV} {j : Nat} (h1 : ∀ k v, k < j → L[k]? = some v → v.1 ≠ num) (h2 : j = L.length ∨ ∃ v, L[j]? = some v ∧ v.1 = num) : kIx num L = j := by
  have hle := kIx_le num L
  have hj : j ≤ L.length := by
    rcases h2 with e | ⟨v, e, _⟩
    · omega
    · have := (List.getElem?_eq_some_iff.mp e).1; omega
  by_cases c : kIx num L < j
  · obtain ⟨v, hv⟩ := gk_some (L := L) (k := kIx num L) (by omega)
    exact absurd (kIx_a num L v hv) (h1 _ v c hv)
  by_cases c2 : j < kIx num L
  · rcases h2 with e | ⟨v, e, e2⟩
    · omega
    · exact absurd e2 (kIx_e num L j v e c2)
  omega
section Sk
variable {G H : Nat → Nat → Nat} {sa : Nat → Nat} {x ch kc ks : Nat} {s : cS} {V : chV}
theorem cp16 {a b u v : Nat} {f : cS → Prop} (ha : s.K a = (u, 16)) (hb : s.K b = (v, 16)) (hu : 100 ≤ u ∧ u < 130 ∧ cAT u = .byte) (hv : 100 ≤ v ∧ v < 130 ∧ cAT v = .byte) (hf : ∀ i, i < 16 → fits .byte (.int (s.E a i)) = true) (k : ∀ s', fe b s s' → (∀ i, i < 16 → s'.E b i = s.E a i) → f s') : ob (cpE s a 0 b 0 16) f := by
  refine ⟨_, gd_to ⟨by rw [ha]; exact ⟨hu.1, hu.2.1⟩, by rw [hb]; exact ⟨hv.1, hv.2.1⟩, by rw [ha, hb]; exact hv.2.2.trans hu.2.2.symm, by decide, by decide, by decide, by rw [ha]; exact Nat.le_refl 16, by rw [hb]; exact Nat.le_refl 16, fun i hi => ?_⟩, k _ ⟨rfl, rfl, rfl, rfl, rfl, fun c hc => if_neg hc⟩ fun i hi => ?_⟩
  · rw [ha, hu.2.2]
    show fits .byte (.int (s.E a (0 + i))) = true
    rw [Nat.zero_add]; exact hf i hi
  · show (if b = b then va_cpy (s.E a) (s.E b) 0 0 16 else s.E b) i = _
    rw [if_pos rfl]
    show (if 0 ≤ i ∧ i < 0 + 16 then s.E a (0 + (i - 0)) else _) = _
    rw [if_pos (by omega), show 0 + (i - 0) = i by omega]
theorem fe_ch {b : Nat} {s s' : cS} (f : fe b s s') (hb : chA H s ch b) : fch H ch s s' := ⟨f.1, f.2.1, f.2.2.1, f.2.2.2.1, fun _ _ _ => by rw [f.2.2.2.2.1], fun a ha => f.2.2.2.2.2 a (fun e => ha (by rw [e]; exact hb))⟩
theorem secOk.fit {y : List Int32} (h : secOk y) (i : Nat) (hi : i < 16) : fits .byte (.int (y.getD i 0)) = true := by
  by_cases c : i < y.length
  · obtain ⟨j, e, h1, h2⟩ := h.2.2 i c
    rw [e]; exact fit127 j (by omega)
  · rw [List.getD_eq_getElem?_getD, List.getElem?_eq_none (by omega)]
    exact fit127 0 (by decide)
theorem w_setKey {Q : Int32 → cS → Nat → Nat → Prop} (hg : RGl G H sa x s) (hc : okO s 1 ch) (hV : VV V) (hC : CC H s ch V) {a : Nat} {y : List Int32} {num sha sz fr' to : Int32} (ha : s.K a = (127, 16)) (hy : ∀ i, i < 16 → s.E a i = y.getD i 0) (hys : secOk y) (hsz : sz = if sha = 0 then 16 else 20) (k0 : ¬ kIx num V.2.2 < 4 → Q 0 s kc ks) (k1 : kIx num V.2.2 < 4 → ∀ s', fch H ch s s' → CC H s' ch (vKey V (num, sha, y, fr', to)) → s'.E (H 21 ch) = s.E (H 21 ch) → Q 1 s' kc ks) : C_Ch_setKey sa ch num sz (some a) fr' to s kc ks Q := by
  obtain ⟨q1, q2, q3, q4, q5, q6, q7⟩ := chK hg hc
  have h4 := hV.2.1
  have hle := kIx_le num V.2.2
  have okI : ∀ {st : cS} {b u k : Nat}, st.K = s.K → s.K b = (u, 4) → 100 ≤ u ∧ u < 130 ∧ cAT u = .int → k < 4 → okA st .int b (nI k) := by
    intro st b u k hK hb hu hk
    unfold okA
    rw [hK, hb]
    exact ⟨hu.1, hu.2.1, hu.2.2, show vp_in (nI k) 4 from vp_in_nI hk (by decide)⟩
  have b29 : C_Ch_setKey_b29 sa ch num sz (some a) fr' to (nI (kIx num V.2.2)) s kc ks Q := by
    unfold C_Ch_setKey_b29
    by_cases c4 : kIx num V.2.2 < 4
    rotate_left
    · exact ifF (nI_nlt (b := 4) (by omega) (by omega)) (k0 c4)
    have k1 := k1 c4
    generalize hix : kIx num V.2.2 = k at c4 hle k1
    have e20 : (cSI s 20 ch 0).I (20 * 1 + 2) ch = nI V.2.2.length := (cSI_g (by decide)).trans hC.2.1
    refine ifT (nI_lt (b := 4) c4 (by decide)) ⟨_, gd_to ⟨hc, Or.inl rfl⟩, _, gd_to hc, ?_⟩
    rw [e20, nI_1]
    have emx : mxI (nI V.2.2.length) (nI (k + 1)) = nI (if k < V.2.2.length then V.2.2.length else V.2.2.length + 1) := by
      unfold mxI
      by_cases c : k < V.2.2.length
      · rw [if_pos c, if_neg (nI_nlt (by omega) (by omega))]
      · rw [if_neg c, if_pos (nI_lt (by omega) (by omega)), show k = V.2.2.length by omega]
    dsimp only
    rw [emx]
    generalize hn : (if k < V.2.2.length then V.2.2.length else V.2.2.length + 1) = n
    obtain ⟨w, hw1, hw2⟩ := q7 k c4
    refine ⟨_, gd_to hc, _, gd_to hc, _, q2.1, _, gd_to (okI rfl q2.2 (by decide) c4), _, gd_to hc, _, q3.1, _, gd_to (okI rfl q3.2 (by decide) c4), _, gd_to hc, _, q4.1, _, gd_to (okI rfl q4.2 (by decide) c4), _, gd_to hc, _, q5.1, _, gd_to (okI rfl q5.2 (by decide) c4), _, gd_to hc, _, q6.1, _, gd_to (show okQ s (H 27 ch) (nI k) from ⟨by rw [q6.2]; decide, by rw [q6.2]; decide, by rw [q6.2]; exact vp_in_nI c4 (by decide)⟩), _, rfl, ?_⟩
    rw [nI_clamp (by omega)]
    refine ⟨w, hw1, ?_⟩
    have ne : ∀ {b c u v m n : Nat}, s.K b = (u, m) → s.K c = (v, n) → u ≠ v → b ≠ c := fun h1 h2 hne e => by
      rw [e, h2] at h1
      exact hne (congrArg Prod.fst h1).symm
    generalize hst : cSE (cSE (cSE (cSE (cSI (cSI s (20 * 1 + 0) ch 0) (20 * 1 + 2) ch (nI n)) (H 23 ch) k num) (H 24 ch) k sz) (H 25 ch) k fr') (H 26 ch) k to = st
    have fst : fch H ch s st := by
      rw [← hst]
      have g2 : fch H ch s (cSI (cSI s (20 * 1 + 0) ch 0) (20 * 1 + 2) ch (nI n)) := fch.si.tr fch.si
      have g3 := g2.tr (fch.se (i := k) (v := num) (a := H 23 ch) (Or.inr (Or.inl rfl)))
      have g4 := g3.tr (fch.se (i := k) (v := sz) (a := H 24 ch) (Or.inr (Or.inr (Or.inl rfl))))
      have g5 := g4.tr (fch.se (i := k) (v := fr') (a := H 25 ch) (Or.inr (Or.inr (Or.inr (Or.inl rfl)))))
      exact g5.tr (fch.se (i := k) (v := to) (a := H 26 ch) (Or.inr (Or.inr (Or.inr (Or.inr (Or.inl rfl))))))
    have eE : ∀ b, b ≠ H 23 ch → b ≠ H 24 ch → b ≠ H 25 ch → b ≠ H 26 ch → st.E b = s.E b := fun b h1 h2 h3 h4 => by
      rw [← hst, cSE_a h4, cSE_a h3, cSE_a h2, cSE_a h1]; rfl
    have ea : st.E a = s.E a := eE a (ne ha q2.2 (by decide)) (ne ha q3.2 (by decide)) (ne ha q4.2 (by decide)) (ne ha q5.2 (by decide))
    refine cp16 (u := 127) (v := 126) (by rw [fst.1]; exact ha) (by rw [fst.1]; exact hw2) (by decide) (by decide) (fun i hi => by rw [ea, hy i hi]; exact hys.fit i hi) fun s' f' he' => ?_
    have hchw : chA H st ch w := Or.inr (Or.inr (Or.inr (Or.inr (Or.inr ⟨k, c4, by rw [fst.2.2.2.1]; exact hw1⟩))))
    have ff := fst.tr (fe_ch f' hchw)
    have e' : ∀ b, b ≠ w → s'.E b = st.E b := f'.2.2.2.2.2
    have i' : ∀ g b, s'.I g b = st.I g b := fun g b => by rw [f'.2.2.2.2.1]
    have nw : ∀ {b u m : Nat}, s.K b = (u, m) → u ≠ 126 → b ≠ w := fun h1 h2 => ne h1 hw2 h2
    have r23 : ∀ i, s'.E (H 23 ch) i = if i = k then num else s.E (H 23 ch) i := fun i => by
      rw [e' _ (nw q2.2 (by decide)), ← hst, cSE_a (ne q2.2 q5.2 (by decide)), cSE_a (ne q2.2 q4.2 (by decide)), cSE_a (ne q2.2 q3.2 (by decide))]
      by_cases c : i = k
      · rw [if_pos c, c, cSE_v]
      · rw [if_neg c, cSE_i c]; rfl
    have r24 : ∀ i, s'.E (H 24 ch) i = if i = k then sz else s.E (H 24 ch) i := fun i => by
      rw [e' _ (nw q3.2 (by decide)), ← hst, cSE_a (ne q3.2 q5.2 (by decide)), cSE_a (ne q3.2 q4.2 (by decide))]
      by_cases c : i = k
      · rw [if_pos c, c, cSE_v]
      · rw [if_neg c, cSE_i c, cSE_a (ne q3.2 q2.2 (by decide))]; rfl
    have r25 : ∀ i, s'.E (H 25 ch) i = if i = k then fr' else s.E (H 25 ch) i := fun i => by
      rw [e' _ (nw q4.2 (by decide)), ← hst, cSE_a (ne q4.2 q5.2 (by decide))]
      by_cases c : i = k
      · rw [if_pos c, c, cSE_v]
      · rw [if_neg c, cSE_i c, cSE_a (ne q4.2 q3.2 (by decide)), cSE_a (ne q4.2 q2.2 (by decide))]; rfl
    have r26 : ∀ i, s'.E (H 26 ch) i = if i = k then to else s.E (H 26 ch) i := fun i => by
      rw [e' _ (nw q5.2 (by decide)), ← hst]
      by_cases c : i = k
      · rw [if_pos c, c, cSE_v]
      · rw [if_neg c, cSE_i c, cSE_a (ne q5.2 q4.2 (by decide)), cSE_a (ne q5.2 q3.2 (by decide)), cSE_a (ne q5.2 q2.2 (by decide))]; rfl
    refine k1 s' ff ⟨?_, ?_, fun j u hu => ?_, fun z => absurd (show (2 : Nat) = 1 from z) (by decide)⟩ ?_
    · rw [i', ← hst]
      show (cSI (cSI s 20 ch 0) 22 ch (nI n)).I 20 ch = _
      rw [cSI_g (by decide), cSI_s]; rfl
    · rw [i', ← hst]
      show (cSI (cSI s 20 ch 0) 22 ch (nI n)).I 22 ch = nI (kPut V.2.2 (num, sha, y, fr', to)).length
      rw [cSI_s, kPut_len, ← hn, ← hix]
    · have hu := kPut_g _ _ _ _ hu
      have hix' : kIx (num, sha, y, fr', to).1 V.2.2 = k := hix
      rw [hix'] at hu
      rw [r23, r24, r25, r26]
      rcases hu with ⟨rfl, rfl⟩ | ⟨hj, hu⟩
      · rw [if_pos rfl, if_pos rfl, if_pos rfl, if_pos rfl]
        refine ⟨rfl, hsz, rfl, rfl, fun w' hw' i hi => ?_⟩
        rw [ff.2.2.2.1, hw1] at hw'
        have hw' := Option.some.inj hw'
        subst hw'
        rw [he' i hi, ea]; exact hy i hi
      · rw [if_neg hj, if_neg hj, if_neg hj, if_neg hj]
        obtain ⟨d1, d2, d3, d4, d5⟩ := hC.2.2.1 j u hu
        refine ⟨d1, d2, d3, d4, fun w' hw' i hi => ?_⟩
        rw [ff.2.2.2.1] at hw'
        have hj4 : j < 4 := by have := (List.getElem?_eq_some_iff.mp hu).1; omega
        obtain ⟨w2, g1, g2⟩ := q7 j hj4
        have ew : w2 = w' := Option.some.inj (g1.symm.trans hw')
        subst ew
        have hne : w2 ≠ w := fun e => by
          rw [e] at g1
          exact hj (hg.2.2.2.2.2.2.2.2.2.2.2.2.2.1 ch ch j k w hc hc hj4 c4 g1 hw1).2
        rw [e' _ hne, eE _ (ne g2 q2.2 (by decide)) (ne g2 q3.2 (by decide)) (ne g2 q4.2 (by decide)) (ne g2 q5.2 (by decide))]
        exact d5 _ hw' i hi
    · rw [e' _ (nw q1.2 (by decide)), eE _ (ne q1.2 q2.2 (by decide)) (ne q1.2 q3.2 (by decide)) (ne q1.2 q4.2 (by decide)) (ne q1.2 q5.2 (by decide))]
  unfold C_Ch_setKey C_Ch_setKey_b3
  intro P hP
  have loop : ∀ q j, j + q = V.2.2.length → (∀ k v, k < j → V.2.2[k]? = some v → v.1 ≠ num) → P (nI j) s kc ks := by
    intro q
    induction q with
    | zero =>
      intro j hj hb
      apply hP
      unfold C_Ch_setKey_s3
      refine ⟨_, gd_to hc, ?_⟩
      rw [show s.I (20 * 1 + 2) ch = nI V.2.2.length from hC.2.1]
      refine ifF (nI_nlt (by omega) (by omega)) ?_
      rw [kIx_c hb (Or.inl (by omega))] at b29
      exact b29
    | succ q ih =>
      intro j hj hb
      obtain ⟨v, hv⟩ := gk_some (L := V.2.2) (k := j) (by omega)
      apply hP
      unfold C_Ch_setKey_s3
      refine ⟨_, gd_to hc, ?_⟩
      rw [show s.I (20 * 1 + 2) ch = nI V.2.2.length from hC.2.1]
      refine ifT (nI_lt (by omega) (by omega)) ⟨_, gd_to hc, _, q2.1, _, gd_to (okI rfl q2.2 (by decide) (by omega)), ?_⟩
      rw [nI_clamp (by omega), (hC.2.2.1 j v hv).1]
      by_cases e : v.1 = num
      · refine ifT e ?_
        rw [kIx_c hb (Or.inr ⟨v, hv, e⟩)] at b29
        exact b29
      · refine ifF e ?_
        rw [nI_1]
        refine ih (j + 1) (by omega) (fun k u hk hu => ?_)
        by_cases ek : k = j
        · subst ek
          rw [hv] at hu
          cases hu
          exact e
        · exact hb k u (by omega) hu
  exact loop V.2.2.length 0 (by omega) (fun k v hk => absurd hk (Nat.not_lt_zero _))
theorem w_setPw {Q : cS → Nat → Nat → Prop} (hg : RGl G H sa x s) (hc : okO s 1 ch) {a : Nat} {y : List Int32} (ha : s.K a = (127, 16)) (hy : ∀ i, i < 16 → s.E a i = y.getD i 0) (hys : secOk y) (k : ∀ s', fch H ch s s' → CC H s' ch (1, y, []) → Q s' kc ks) : C_Ch_setPassword sa ch (some a) s kc ks Q := by
  obtain ⟨q1, q2, q3, q4, q5, q6, q7⟩ := chK hg hc
  unfold C_Ch_setPassword C_Ch_clear
  refine ⟨hc, _, gd_to ⟨hc, Or.inl rfl⟩, _, gd_to hc, _, gd_to ⟨hc, Or.inr rfl⟩, _, gd_to hc, _, rfl, _, q1.1, ?_⟩
  generalize hst : cSI (cSI (cSI s (20 * 1 + 0) ch 0) (20 * 1 + 2) ch 0) (20 * 1 + 0) ch 1 = st
  have fst : fch H ch s st := by
    rw [← hst]
    exact (fch.si.tr fch.si).tr fch.si
  have ea : st.E = s.E := by rw [← hst]; rfl
  refine cp16 (u := 127) (v := 103) (by rw [fst.1]; exact ha) (by rw [fst.1]; exact q1.2) (by decide) (by decide) (fun i hi => by rw [ea, hy i hi]; exact hys.fit i hi) fun s' f' he' => k s' (fst.tr (fe_ch f' (Or.inl rfl))) ⟨?_, ?_, fun j u hu => (by cases hu), fun _ i hi => ?_⟩
  · rw [f'.2.2.2.2.1, ← hst]
    exact cSI_s
  · rw [f'.2.2.2.2.1, ← hst]
    show (cSI (cSI (cSI s 20 ch 0) 22 ch 0) 20 ch 1).I 22 ch = _
    rw [cSI_g (by decide), cSI_s]; rfl
  · rw [he' i hi, ea]; exact hy i hi
end Sk
