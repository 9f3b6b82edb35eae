/-! A key in the model. -/
section Mx
variable {t : moS} {l : List Int32} {ws : List (Nat × Nat)} {q : Nat} {V : chV}
theorem m_key {w : Nat} {num sha fr' to : Int32} (hW : WX t l ws) (hN : mN t) (hq : q < 24) (hw : w < ws.length) (h16 : sOK l ws w) (hV : VV V) (hC : MC t q V) (hsha : bit sha) (h4 : kIx num V.2.2 < 4) : ∃ t', M_takeKey t (nI q) num sha (nI w) fr' to = some t' ∧ fq q t t' ∧ MC t' q (vKey V (num, sha, wS l ws w, fr', to)) := by
  have hb := hW.2.2.2.1 w hw
  have hn := hW.2.2.2.2
  have hl := hW.2.1.1
  have h16' := h16.1
  have hL := hV.2.1
  have hle := kIx_le num V.2.2
  obtain ⟨c1, c2, c3, c4⟩ := id hC
  -- behind the kind
  have b17 : ∀ t1, fq q t t1 → t1.I 82 q = nI V.2.2.length → (∀ k v, V.2.2[k]? = some v → t1.I 83 (4 * q + k) = v.1 ∧ t1.I 84 (4 * q + k) = v.2.1 ∧ t1.I 85 (4 * q + k) = nI v.2.2.1.length ∧ (∀ i, i < v.2.2.1.length → t1.I 86 (16 * (4 * q + k) + i) = v.2.2.1.getD i 0) ∧ t1.I 87 (4 * q + k) = v.2.2.2.1 ∧ t1.I 88 (4 * q + k) = v.2.2.2.2) → ∃ t', M_takeKey_b17 t1 (nI q) num sha (nI w) fr' to = some t' ∧ fq q t t' ∧ MC t' q (vKey V (num, sha, wS l ws w, fr', to)) := by
    intro t1 f1 h82 h83
    have N1 : ∀ k n, k ∉ mG ∧ moN0 k = n → t1.N k = n := fun k n e => by rw [f1.1.2 k (Or.inr e.1)]; exact hN.n k n e
    have W1 := hW.mf f1.1 rfl
    unfold M_takeKey_b17
    rw [wrI_n (N1 79 24 (by decide +kernel)) hq (by decide)]
    simp only [Option.bind_some]
    have ekp : M_keyPlace (moSI t1 79 q 2) (nI q) num = some (nI (kIx num V.2.2)) := by
      refine m_keyPlace ⟨fun k hk => ?_, ?_, ?_, ?_⟩ hq hL ?_ (fun k v hv => ?_)
      · show t1.N k = _
        rw [f1.1.2 k (Or.inr hk)]; exact hN.1 k hk
      · show 4096 ≤ t1.N 7 ∧ t1.N 7 ≤ 320000
        rw [f1.1.2 7 (Or.inl (by decide))]; exact hN.2.1
      · show 4096 ≤ t1.N 5 ∧ t1.N 5 ≤ 320000
        rw [f1.1.2 5 (Or.inl (by decide))]; exact hN.2.2.1
      · show 64 ≤ t1.N 102 ∧ t1.N 102 ≤ 8192 ∧ t1.N 103 = t1.N 102 ∧ t1.N 104 = t1.N 102
        rw [f1.1.2 102 (Or.inl (by decide)), f1.1.2 103 (Or.inl (by decide)), f1.1.2 104 (Or.inl (by decide))]; exact hN.2.2.2
      · rw [moSI_n (by decide)]; exact h82
      · rw [moSI_n (by decide)]; exact (h83 k v hv).1
    rw [ekp]
    simp only [Option.bind_some]
    rw [rdI_n (t := moSI t1 79 q 2) (N1 82 24 (by decide +kernel)) hq (by decide), show (moSI t1 79 q 2).I 82 q = nI V.2.2.length by rw [moSI_n (by decide)]; exact h82]
    simp only [Option.bind_some]
    generalize hix : kIx num V.2.2 = k at h4 hle
    -- the number of keys
    have b53 : ∀ t2, fq q t t2 → t2.I 79 q = 2 → t2.I 82 q = nI (if k < V.2.2.length then V.2.2.length else V.2.2.length + 1) → (∀ k v, V.2.2[k]? = some v → t2.I 83 (4 * q + k) = v.1 ∧ t2.I 84 (4 * q + k) = v.2.1 ∧ t2.I 85 (4 * q + k) = nI v.2.2.1.length ∧ (∀ i, i < v.2.2.1.length → t2.I 86 (16 * (4 * q + k) + i) = v.2.2.1.getD i 0) ∧ t2.I 87 (4 * q + k) = v.2.2.2.1 ∧ t2.I 88 (4 * q + k) = v.2.2.2.2) → ∃ t', M_takeKey_b53 t2 (nI q) num sha (nI w) fr' to (nI k) = some t' ∧ fq q t t' ∧ MC t' q (vKey V (num, sha, wS l ws w, fr', to)) := by
      intro t2 f2 h79 h82 h83
      have N2 : ∀ k n, k ∉ mG ∧ moN0 k = n → t2.N k = n := fun k n e => by rw [f2.1.2 k (Or.inr e.1)]; exact hN.n k n e
      have W2 := hW.mf f2.1 rfl
      unfold M_takeKey_b53
      rw [show (4 : Int32) = nI 4 from rfl, pk_mul, nI_add, wrI_n (N2 83 96 (by decide +kernel)) (show 4 * q + k < 96 by omega) (by decide)]
      simp only [Option.bind_some]
      rw [wrZ_n (t := moSI t2 83 (4 * q + k) num) (N2 84 96 (by decide +kernel)) (show 4 * q + k < 96 by omega) (by decide)]
      simp only [Option.bind_some]
      rw [show vp_nar .boolean sha = sha by rcases hsha with e | e <;> rw [e] <;> rfl]
      have W3 := W2.mf (show mfr [83, 84] t2 (moSI (moSI t2 83 (4 * q + k) num) 84 (4 * q + k) sha) from (mfr.si (by decide)).tr (mfr.si (by decide))) rfl
      rw [rdI_n W3.2.2.1.2 (by omega) (by decide), (W3.1.2 w hw).2]
      simp only [Option.bind_some]
      rw [wrI_n (t := moSI (moSI t2 83 (4 * q + k) num) 84 (4 * q + k) sha) (N2 85 96 (by decide +kernel)) (show 4 * q + k < 96 by omega) (by decide)]
      simp only [Option.bind_some]
      generalize hts : moSI (moSI (moSI t2 83 (4 * q + k) num) 84 (4 * q + k) sha) 85 (4 * q + k) (nI ((ws.getD w (0, 0)).2 - (ws.getD w (0, 0)).1)) = ts
      have m3 : mfr [83, 84, 85] t2 ts := by rw [← hts]; exact ((mfr.si (by decide)).tr (mfr.si (by decide))).tr (mfr.si (by decide))
      have f3 : fq q t ts := by
        rw [← hts]
        exact ((f2.tr (fq.si (Or.inr (Or.inl ⟨Or.inl rfl, by omega, by omega⟩)))).tr (fq.si (Or.inr (Or.inl ⟨Or.inr (Or.inl rfl), by omega, by omega⟩)))).tr (fq.si (Or.inr (Or.inl ⟨Or.inr (Or.inr (Or.inl rfl)), by omega, by omega⟩)))
      have W4 := W2.mf m3 rfl
      have Ns : ∀ k n, k ∉ mG ∧ moN0 k = n → ts.N k = n := fun k n e => by rw [m3.2 k (Or.inr e.1)]; exact N2 k n e
      generalize hu : (fun i => nI (vc l ((ws.getD w (0, 0)).1 + i))) = u
      have loop : ∀ n j, j + n = (ws.getD w (0, 0)).2 - (ws.getD w (0, 0)).1 → lp (fun y : Int32 × moS => M_takeKey_s94 y.2 (nI w) fr' to (nI (4 * q + k)) y.1) (nI j, lyT ts 86 (16 * (4 * q + k)) u j) = some (moSI (moSI (lyT ts 86 (16 * (4 * q + k)) u (j + n)) 87 (4 * q + k) fr') 88 (4 * q + k) to) := by
        intro n
        induction n with
        | zero =>
          intro j hj
          have mm := lyT_m (t := ts) (n := 86) (B := 16 * (4 * q + k)) (u := u) j
          have W5 := W4.mf mm rfl
          have N5 : ∀ k' n, k' ∉ mG ∧ moN0 k' = n → (lyT ts 86 (16 * (4 * q + k)) u j).N k' = n := fun k' n e => by rw [mm.2 k' (Or.inr e.1)]; exact Ns k' n e
          refine lp_x ?_
          show M_takeKey_s94 (lyT ts 86 (16 * (4 * q + k)) u j) (nI w) fr' to (nI (4 * q + k)) (nI j) = _
          unfold M_takeKey_s94
          rw [rdI_n W5.2.2.1.2 (by omega) (by decide), (W5.1.2 w hw).2]
          simp only [Option.bind_some]
          rw [if_neg (nI_nlt (by omega) (by omega)), wrI_n (N5 87 96 (by decide +kernel)) (show 4 * q + k < 96 by omega) (by decide)]
          simp only [Option.bind_some]
          rw [wrI_n (t := moSI (lyT ts 86 (16 * (4 * q + k)) u j) 87 (4 * q + k) fr') (N5 88 96 (by decide +kernel)) (show 4 * q + k < 96 by omega) (by decide)]
          rfl
        | succ n ih =>
          intro j hj
          have mm := lyT_m (t := ts) (n := 86) (B := 16 * (4 * q + k)) (u := u) j
          have W5 := W4.mf mm rfl
          rw [lp_l (y := (nI (j + 1), lyT ts 86 (16 * (4 * q + k)) u (j + 1))), ih (j + 1) (by omega), show j + 1 + n = j + (n + 1) by omega]
          show M_takeKey_s94 (lyT ts 86 (16 * (4 * q + k)) u j) (nI w) fr' to (nI (4 * q + k)) (nI j) = _
          unfold M_takeKey_s94
          have N86 : (lyT ts 86 (16 * (4 * q + k)) u j).N 86 = 1536 := by rw [mm.2 86 (Or.inr (by decide))]; exact Ns 86 1536 (by decide +kernel)
          rw [rdI_n W5.2.2.1.2 (by omega) (by decide), (W5.1.2 w hw).2]
          simp only [Option.bind_some]
          rw [if_pos (nI_lt (by omega) (by omega)), rdI_n W5.2.2.1.1 (by omega) (by decide), (W5.1.2 w hw).1]
          simp only [Option.bind_some]
          rw [nI_add, W5.2.1.2.2 _ (by omega), show (16 : Int32) = nI 16 from rfl, pk_mul, nI_add]
          simp only [Option.bind_some]
          rw [wrI_n N86 (by omega) (by decide), nI_1, ← hu]
          rfl
      have hlp := loop ((ws.getD w (0, 0)).2 - (ws.getD w (0, 0)).1) 0 (by omega)
      rw [Nat.zero_add] at hlp
      generalize hN' : (ws.getD w (0, 0)).2 - (ws.getD w (0, 0)).1 = N at hlp h16' hts
      have m4 := lyT_m (t := ts) (n := 86) (B := 16 * (4 * q + k)) (u := u) N
      have f4 : fq q t (lyT ts 86 (16 * (4 * q + k)) u N) := f3.tr (lyT_q (Or.inr ⟨rfl, by omega⟩) _ (fun e => absurd e (by decide)) (fun _ => by omega))
      have f5 : fq q t (moSI (moSI (lyT ts 86 (16 * (4 * q + k)) u N) 87 (4 * q + k) fr') 88 (4 * q + k) to) := (f4.tr (fq.si (Or.inr (Or.inl ⟨Or.inr (Or.inr (Or.inr (Or.inl rfl))), by omega, by omega⟩)))).tr (fq.si (Or.inr (Or.inl ⟨Or.inr (Or.inr (Or.inr (Or.inr rfl))), by omega, by omega⟩)))
      refine ⟨_, hlp, f5, ?_⟩
      generalize htf : moSI (moSI (lyT ts 86 (16 * (4 * q + k)) u N) 87 (4 * q + k) fr') 88 (4 * q + k) to = tf
      have g : ∀ n i, n ≠ 87 → n ≠ 88 → n ≠ 86 → tf.I n i = ts.I n i := fun n i h1 h2 h3 => by
        rw [← htf, moSI_n h2, moSI_n h1, m4.I n (fun z => h3 (List.mem_singleton.mp z))]
      have g86 : ∀ i, tf.I 86 i = if 16 * (4 * q + k) ≤ i ∧ i < 16 * (4 * q + k) + N then u (i - 16 * (4 * q + k)) else ts.I 86 i := fun i => by
        rw [← htf, moSI_n (by decide), moSI_n (by decide), lyT_e]
      have g87 : ∀ i, tf.I 87 i = if i = 4 * q + k then fr' else t2.I 87 i := fun i => by
        rw [← htf, moSI_n (by decide), moSI_s]
        show (if i = 4 * q + k then fr' else (lyT ts 86 (16 * (4 * q + k)) u N).I 87 i) = _
        rw [m4.I 87 (by decide), m3.I 87 (by decide)]
      have g88 : ∀ i, tf.I 88 i = if i = 4 * q + k then to else t2.I 88 i := fun i => by
        rw [← htf, moSI_s]
        show (if i = 4 * q + k then to else (moSI (lyT ts 86 (16 * (4 * q + k)) u N) 87 (4 * q + k) fr').I 88 i) = _
        rw [moSI_n (by decide), m4.I 88 (by decide), m3.I 88 (by decide)]
      have s83 : ∀ i, ts.I 83 i = if i = 4 * q + k then num else t2.I 83 i := fun i => by rw [← hts, moSI_n (by decide), moSI_n (by decide), moSI_s]; rfl
      have s84 : ∀ i, ts.I 84 i = if i = 4 * q + k then sha else t2.I 84 i := fun i => by rw [← hts, moSI_n (by decide), moSI_s, moSI_n (by decide)]; rfl
      have s85 : ∀ i, ts.I 85 i = if i = 4 * q + k then nI N else t2.I 85 i := fun i => by rw [← hts, moSI_s, moSI_n (by decide), moSI_n (by decide)]; rfl
      refine ⟨?_, ?_, fun j v hv => ?_, fun z => absurd (show (2 : Nat) = 1 from z) (by decide)⟩
      · rw [g 79 q (by decide) (by decide) (by decide), m3.I 79 (by decide)]; exact h79
      · show tf.I 82 q = nI (kPut V.2.2 (num, sha, wS l ws w, fr', to)).length
        rw [g 82 q (by decide) (by decide) (by decide), m3.I 82 (by decide), h82, kPut_len]
        show _ = nI (if kIx num V.2.2 < _ then _ else _)
        rw [hix]
      · have hv := kPut_g _ _ _ _ hv
        have hix' : kIx (num, sha, wS l ws w, fr', to).1 V.2.2 = k := hix
        rw [hix'] at hv
        rw [g 83 _ (by decide) (by decide) (by decide), g 84 _ (by decide) (by decide) (by decide), g 85 _ (by decide) (by decide) (by decide), g87, g88, s83, s84, s85]
        have elen : (wS l ws w).length = N := by unfold wS; rw [wU_len, hN']
        rcases hv with ⟨rfl, rfl⟩ | ⟨hj, hv⟩
        · rw [if_pos rfl, if_pos rfl, if_pos rfl, if_pos rfl, if_pos rfl]
          refine ⟨rfl, rfl, by rw [elen], fun i hi => ?_, rfl, rfl⟩
          have hi : i < (wS l ws w).length := hi
          show tf.I 86 _ = (wS l ws w).getD i 0
          rw [elen] at hi
          rw [g86, if_pos (by omega), Nat.add_sub_cancel_left, ← hu]
          unfold wS
          rw [wU_get (by omega)]
        · obtain ⟨z1, z2, z3, z4, z5, z6⟩ := h83 j v hv
          have hj4 := (List.getElem?_eq_some_iff.mp hv).1
          have hs := (hV.2.2.2.2.1 j v hv).2.2.1.2.1
          rw [if_neg (by omega), if_neg (by omega), if_neg (by omega), if_neg (by omega), if_neg (by omega)]
          refine ⟨z1, z2, z3, fun i hi => ?_, z5, z6⟩
          rw [g86, if_neg (by omega), m3.I 86 (by decide)]
          exact z4 i hi
    have f2 : fq q t (moSI t1 79 q 2) := f1.tr (fq.si (Or.inl ⟨Or.inl rfl, rfl⟩))
    by_cases e : k = V.2.2.length
    · rw [if_pos (by rw [e]), nI_1, wrI_n (t := moSI t1 79 q 2) (N1 82 24 (by decide +kernel)) hq (by decide)]
      simp only [Option.bind_some]
      refine b53 _ (f2.tr (fq.si (Or.inl ⟨Or.inr (Or.inr rfl), rfl⟩))) ?_ ?_ (fun k v hv => ?_)
      · rw [moSI_n (by decide), moSI_s]; exact if_pos rfl
      · rw [moSI_s, if_neg (by omega)]; exact if_pos rfl
      · simp only [moSI_n (show (83 : Nat) ≠ 82 by decide), moSI_n (show (84 : Nat) ≠ 82 by decide), moSI_n (show (85 : Nat) ≠ 82 by decide), moSI_n (show (86 : Nat) ≠ 82 by decide), moSI_n (show (87 : Nat) ≠ 82 by decide), moSI_n (show (88 : Nat) ≠ 82 by decide), moSI_n (show (83 : Nat) ≠ 79 by decide), moSI_n (show (84 : Nat) ≠ 79 by decide), moSI_n (show (85 : Nat) ≠ 79 by decide), moSI_n (show (86 : Nat) ≠ 79 by decide), moSI_n (show (87 : Nat) ≠ 79 by decide), moSI_n (show (88 : Nat) ≠ 79 by decide)]
        exact h83 k v hv
    · rw [if_neg (fun z => e ((nI_eq (by omega) (by omega)).mp z))]
      refine b53 _ f2 ?_ ?_ (fun k v hv => ?_)
      · rw [moSI_s]; exact if_pos rfl
      · rw [moSI_n (by decide), if_pos (by omega)]; exact h82
      · simp only [moSI_n (show (83 : Nat) ≠ 79 by decide), moSI_n (show (84 : Nat) ≠ 79 by decide), moSI_n (show (85 : Nat) ≠ 79 by decide), moSI_n (show (86 : Nat) ≠ 79 by decide), moSI_n (show (87 : Nat) ≠ 79 by decide), moSI_n (show (88 : Nat) ≠ 79 by decide)]
        exact h83 k v hv
  unfold M_takeKey
  rw [rdI_n (n := 24) (hN.n 79 24) hq (by decide), c1]
  simp only [Option.bind_some]
  by_cases k2 : V.1 = 2
  · rw [if_pos (by rw [k2]; rfl)]
    exact b17 t fq.rf c2 c3
  · rw [if_neg (show ¬ nI _ = (2 : Int32) from fun z => k2 ((nI_eq (b := 2) (by have := hV.1; omega) (by decide)).mp z)), wrI_n (n := 24) (hN.n 82 24) hq (by decide)]
    simp only [Option.bind_some]
    have hz : V.2.2 = [] := by
      have : ¬ 1 ≤ V.2.2.length := fun z => k2 (hV.2.2.1.mpr z)
      exact List.eq_nil_of_length_eq_zero (by omega)
    refine b17 _ (fq.si (Or.inl ⟨Or.inr (Or.inr rfl), rfl⟩)) ?_ (fun k v hv => by rw [hz] at hv; cases hv)
    rw [moSI_s, hz]; exact if_pos rfl
end Mx
