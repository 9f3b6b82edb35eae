/-! The sources' rows grow. -/
def mReI (s : moS) (k n : Nat) (f : Nat → Int32) : moS := (s.1, s.2.1, fun j => if j = k then f else s.I j, s.2.2.2.1, fun j => if j = k then n else s.N j)
def mReJ (s : moS) (k n : Nat) (g : Nat → Int64) : moS := (s.1, s.2.1, s.2.2.1, fun j => if j = k then g else s.J j, fun j => if j = k then n else s.N j)
theorem mReI_n {s : moS} {k n j : Nat} {f : Nat → Int32} (h : j ≠ k) : moA (mReI s k n f) j = moA s j := by
  have e1 : (mReI s k n f).I j = s.I j := if_neg h
  have e2 : (mReI s k n f).N j = s.N j := if_neg h
  unfold moA
  rw [e1, e2]
  rfl
theorem mReJ_n {s : moS} {k n j : Nat} {f : Nat → Int64} (h : j ≠ k) : moA (mReJ s k n f) j = moA s j := by
  have e1 : (mReJ s k n f).J j = s.J j := if_neg h
  have e2 : (mReJ s k n f).N j = s.N j := if_neg h
  unfold moA
  rw [e1, e2]
  rfl
theorem mReI_s {s : moS} {k n : Nat} {f : Nat → Int32} (h : moKd k = 2) : moA (mReI s k n f) k = .inl (.int, n, .inl f) := by
  have e1 : (mReI s k n f).I k = f := if_pos rfl
  have e2 : (mReI s k n f).N k = n := if_pos rfl
  rw [moA_i h, e1, e2]
theorem mReJ_s {s : moS} {k n : Nat} {f : Nat → Int64} (h : moKd k = 4) : moA (mReJ s k n f) k = .inl (.long, n, .inr (.inl f)) := by
  have e1 : (mReJ s k n f).J k = f := if_pos rfl
  have e2 : (mReJ s k n f).N k = n := if_pos rfl
  rw [moA_l h, e1, e2]
theorem pm_up3 {R : pmM} {a b c : Nat} {x y z x' : pmE} (h1 : a ≠ b) (h2 : a ≠ c) : pm_up (pm_up (pm_up (pm_up R a x) b y) c z) a x' = pm_up (pm_up (pm_up R a x') b y) c z := by
  funext d
  by_cases hd : d = a
  · subst hd
    rw [pm_up_self, pm_up_ne _ _ h2, pm_up_ne _ _ h1, pm_up_self]
  · rw [pm_up_ne _ _ hd]
    by_cases hc : d = c
    · subst hc
      rw [pm_up_self, pm_up_self]
    · rw [pm_up_ne _ _ hc, pm_up_ne _ _ hc]
      by_cases hb : d = b
      · subst hb
        rw [pm_up_self, pm_up_self]
      · rw [pm_up_ne _ _ hb, pm_up_ne _ _ hb, pm_up_ne _ _ hd, pm_up_ne _ _ hd]
theorem pm_up2 {R : pmM} {b c : Nat} {y z y' : pmE} (h1 : b ≠ c) : pm_up (pm_up (pm_up R b y) c z) b y' = pm_up (pm_up R b y') c z := by
  funext d
  by_cases hd : d = b
  · subst hd
    rw [pm_up_self, pm_up_ne _ _ h1, pm_up_self]
  · rw [pm_up_ne _ _ hd]
    by_cases hc : d = c
    · subst hc
      rw [pm_up_self, pm_up_self]
    · rw [pm_up_ne _ _ hc, pm_up_ne _ _ hc, pm_up_ne _ _ hd, pm_up_ne _ _ hd]
def mgS (t : moS) : moS := mReJ (mReJ (mReI t 102 (2 * t.N 102) (fun i => if i < t.N 102 then t.I 102 i else 0)) 103 (2 * t.N 102) (fun i => if i < t.N 102 then t.J 103 i else 0)) 104 (2 * t.N 102) (fun i => if i < t.N 102 then t.J 104 i else 0)
/-- the sources' rows, twice as long -/
def M_growSources (t : moS) : Option moS := if t.S 101 < 0 ∨ (t.S 101).toNatClampNeg ≠ t.N 102 ∨ 4096 < t.N 102 then none else some (mgS t)
set_option maxRecDepth 100000 in
set_option maxHeartbeats 4000000 in
theorem k_growSources (base : Nat) (sa : Nat → Nat) {C : Nat × Nat} {R : pmM} {m : Nat} {q : Nat → Nat} {t tz : moS} {kc ks : Nat} {Rt : pmR} (hw : mW C R base m q t kc ks) (h : M_growSources t = some tz) (k : ∀ (q' : Nat → Nat) (kc' ks' : Nat), mW C R base m q' tz kc' ks' → Rt none (moM R m q' tz) kc' ks') : kP_Mo_growSources base sa [.ref m] (moM R m q t) kc ks Rt := by
  obtain ⟨hq, hD, w1, w2, ⟨w3, w4⟩, ⟨w5, w6⟩, ⟨w7, w8, w9, w10⟩, w11, w12⟩ := hw
  unfold M_growSources at h
  split at h
  · cases h
  rename_i hc
  injection h with h
  have h0 : ¬ t.S 101 < 0 := fun z => hc (Or.inl z)
  obtain ⟨n, hn, en⟩ := nI_of h0
  have en : t.S 101 = nI n := en
  have ecl : (t.S 101).toNatClampNeg = n := by rw [en, nI_clamp hn]
  rw [ecl] at hc
  have h1 : n = t.N 102 := Classical.byContradiction fun z => hc (Or.inr (Or.inl z))
  have h2 : n ≤ 4096 := by
    have := Nat.le_of_not_lt fun z => hc (Or.inr (Or.inr z))
    omega
  refine ⟨Nat.le_of_ble_eq_true rfl, fun G hG => ?_⟩
  have e2 : (Int32.ofInt 2 : Int32) = nI 2 := rfl
  refine pgs hG rfl rfl ?_
  refine pgs hG rfl rfl ?_
  refine mo_gi hG (k := 101) rfl rfl rfl rfl ?_
  rw [en]
  refine pgs hG rfl rfl ?_
  rw [e2, pk_mul]
  refine pg_nar hG (n := 2 * n) rfl rfl (by omega) (by omega) (by omega) (fun a ha hba => ?_)
  obtain ⟨am, aq, aR⟩ := moM_fr hq ha
  rw [moM_R am aq]
  refine pgc hG rfl rfl (Nat.le_of_ble_eq_true rfl) ?_
  refine pgs hG rfl rfl ?_
  refine pgs hG rfl rfl ?_
  refine mo_gi hG (k := 101) rfl rfl rfl rfl ?_
  rw [en]
  refine pgs hG rfl rfl ?_
  rw [e2, pk_mul]
  refine pg_nar hG (n := 2 * n) rfl rfl (by omega) (by omega) (by omega) (fun b hb hbb => ?_)
  obtain ⟨bm, bq, bR0⟩ := moM_fr hq hb
  have hab : a ≠ b := fun z => by rw [← z, pm_up_self] at bR0; cases bR0
  have bR : R b = none := by rw [pm_up_ne _ _ (Ne.symm hab)] at bR0; exact bR0
  rw [moM_R bm bq]
  refine pgc hG rfl rfl (Nat.le_of_ble_eq_true rfl) ?_
  refine pgs hG rfl rfl ?_
  refine pgs hG rfl rfl ?_
  refine mo_gi hG (k := 101) rfl rfl rfl rfl ?_
  rw [en]
  refine pgs hG rfl rfl ?_
  rw [e2, pk_mul]
  refine pg_nar hG (n := 2 * n) rfl rfl (by omega) (by omega) (by omega) (fun c hc0 hbc => ?_)
  obtain ⟨cm, cq, cR0⟩ := moM_fr hq hc0
  have hbc' : b ≠ c := fun z => by rw [← z, pm_up_self] at cR0; cases cR0
  rw [pm_up_ne _ _ (Ne.symm hbc')] at cR0
  have hac : a ≠ c := fun z => by rw [← z, pm_up_self] at cR0; cases cR0
  have cR : R c = none := by rw [pm_up_ne _ _ (Ne.symm hac)] at cR0; exact cR0
  rw [moM_R cm cq]
  refine pgc hG rfl rfl (Nat.le_of_ble_eq_true rfl) ?_
  refine pgs hG rfl rfl ?_
  refine pgc hG rfl rfl (Nat.le_of_ble_eq_true rfl) ?_
  have loop : ∀ (r i : Nat) (f : Nat → Int32) (g o : Nat → Int64), i + r = n → (∀ j, j < i → f j = t.I 102 j) → (∀ j, i ≤ j → f j = 0) → (∀ j, j < i → g j = t.J 103 j) → (∀ j, i ≤ j → g j = 0) → (∀ j, j < i → o j = t.J 104 j) → (∀ j, i ≤ j → o j = 0) → G 30 [(4, .int (nI i)), (3, .ref c), (2, .ref b), (1, .ref a), (0, .ref m)] [] (moM (pm_up (pm_up (pm_up R a (.inl (.int, 2 * n, .inl f))) b (.inl (.long, 2 * n, .inr (.inl g)))) c (.inl (.long, 2 * n, .inr (.inl o)))) m q t) (kc - 1 - 1 - 1) (ks - 2 * n - 2 * n - 2 * n) := by
    intro r
    induction r with
    | zero =>
      intro i f g o hi hf hf0 hg hg0 ho ho0
      have ef : f = fun i => if i < n then t.I 102 i else 0 := by
        funext j
        by_cases hj : j < n
        · rw [if_pos hj, hf j (by omega)]
        · rw [if_neg hj, hf0 j (by omega)]
      have eg : g = fun i => if i < n then t.J 103 i else 0 := by
        funext j
        by_cases hj : j < n
        · rw [if_pos hj, hg j (by omega)]
        · rw [if_neg hj, hg0 j (by omega)]
      have eo : o = fun i => if i < n then t.J 104 i else 0 := by
        funext j
        by_cases hj : j < n
        · rw [if_pos hj, ho j (by omega)]
        · rw [if_neg hj, ho0 j (by omega)]
      refine pgs hG rfl rfl ?_
      refine pgs hG rfl rfl ?_
      refine mo_gi hG (k := 101) rfl rfl rfl rfl ?_
      rw [en]
      refine pi_ge hG (t := 78) rfl rfl (fun _ => ?_) (fun c => absurd (nI_le (by omega) (by omega)) c)
      have m2 : 102 ∈ moAr := mo_mem rfl rfl
      have m3 : 103 ∈ moAr := mo_mem rfl rfl
      have m4 : 104 ∈ moAr := mo_mem rfl rfl
      -- the first
      refine pgs hG rfl rfl ?_
      refine pgs hG rfl rfl ?_
      refine pg_pm hG (k := 102) (v := .ref a) rfl rfl moM_m hq.1 rfl rfl rfl ?_
      have hA : (pm_up (pm_up (pm_up R a (.inl (.int, 2 * n, .inl f))) b (.inl (.long, 2 * n, .inr (.inl g)))) c (.inl (.long, 2 * n, .inr (.inl o)))) a = some (.inl (.int, 2 * n, .inl f)) := by rw [pm_up_ne _ _ hac, pm_up_ne _ _ hab, pm_up_self]
      have hB : (pm_up (pm_up (pm_up R a (.inl (.int, 2 * n, .inl f))) b (.inl (.long, 2 * n, .inr (.inl g)))) c (.inl (.long, 2 * n, .inr (.inl o)))) b = some (.inl (.long, 2 * n, .inr (.inl g))) := by rw [pm_up_ne _ _ hbc', pm_up_self]
      have hC : (pm_up (pm_up (pm_up R a (.inl (.int, 2 * n, .inl f))) b (.inl (.long, 2 * n, .inr (.inl g)))) c (.inl (.long, 2 * n, .inr (.inl o)))) c = some (.inl (.long, 2 * n, .inr (.inl o))) := pm_up_self _ _ _
      have hL : pm_le R (pm_up (pm_up (pm_up R a (.inl (.int, 2 * n, .inl f))) b (.inl (.long, 2 * n, .inr (.inl g)))) c (.inl (.long, 2 * n, .inr (.inl o)))) := pm_le_up (pm_le_up (pm_le_up (fun _ _ h => h) aR) bR) cR
      obtain ⟨R3, eR3⟩ : ∃ R3, R3 = pm_up (pm_up (pm_up R a (.inl (.int, 2 * n, .inl f))) b (.inl (.long, 2 * n, .inr (.inl g)))) c (.inl (.long, 2 * n, .inr (.inl o))) := ⟨_, rfl⟩
      rw [← eR3] at hA hB hC hL ⊢
      clear eR3
      obtain ⟨hQ1, hp1⟩ := moM_re (R := R3) (s := t) (s' := mReI t 102 (2 * n) f) (e := .inl (.int, 2 * n, .inl f)) hq m2 hba am aq (mReI_s rfl) (fun j hj => mReI_n hj) (fun j => rfl)
      rw [pm_up_id hA] at hp1
      rw [hp1]
      have hB : (pm_up R3 (q 102) (moA t 102)) b = some (.inl (.long, 2 * n, .inr (.inl g))) := by rw [pm_up_ne _ _ (Ne.symm (bq 102 m2)), hB]
      have hC : (pm_up R3 (q 102) (moA t 102)) c = some (.inl (.long, 2 * n, .inr (.inl o))) := by rw [pm_up_ne _ _ (Ne.symm (cq 102 m2)), hC]
      have hL := pm_le_up (e := moA t 102) hL (hD.2 102 m2)
      obtain ⟨R4, eR4⟩ : ∃ R4, R4 = pm_up R3 (q 102) (moA t 102) := ⟨_, rfl⟩
      rw [← eR4] at hB hC hL ⊢
      clear eR4 hp1
      -- the second
      refine pgs hG rfl rfl ?_
      refine pgs hG rfl rfl ?_
      refine pg_pm hG (k := 103) (v := .ref b) rfl rfl moM_m hQ1.1 rfl rfl rfl ?_
      have bq1 : ∀ j ∈ moAr, moQu q 102 a j ≠ b := fun j hj => by
        unfold moQu
        split
        · exact hab
        · exact bq j hj
      obtain ⟨hQ2, hp2⟩ := moM_re (R := R4) (s := mReI t 102 (2 * n) f) (s' := mReJ (mReI t 102 (2 * n) f) 103 (2 * n) g) (e := .inl (.long, 2 * n, .inr (.inl g))) hQ1 m3 hbb bm bq1 (mReJ_s rfl) (fun j hj => mReJ_n hj) (fun j => rfl)
      rw [pm_up_id hB] at hp2
      rw [hp2]
      have e103 : moQu q 102 a 103 = q 103 := if_neg (by decide)
      rw [e103]
      have hC : (pm_up R4 (q 103) (moA (mReI t 102 (2 * n) f) 103)) c = some (.inl (.long, 2 * n, .inr (.inl o))) := by rw [pm_up_ne _ _ (Ne.symm (cq 103 m3)), hC]
      have hL := pm_le_up (e := moA (mReI t 102 (2 * n) f) 103) hL (hD.2 103 m3)
      obtain ⟨R5, eR5⟩ : ∃ R5, R5 = pm_up R4 (q 103) (moA (mReI t 102 (2 * n) f) 103) := ⟨_, rfl⟩
      rw [← eR5] at hC hL ⊢
      clear eR5 hp2
      -- the third
      refine pgs hG rfl rfl ?_
      refine pgs hG rfl rfl ?_
      refine pg_pm hG (k := 104) (v := .ref c) rfl rfl moM_m hQ2.1 rfl rfl rfl ?_
      have cq2 : ∀ j ∈ moAr, moQu (moQu q 102 a) 103 b j ≠ c := fun j hj => by
        unfold moQu
        split
        · exact hbc'
        · split
          · exact hac
          · exact cq j hj
      obtain ⟨hQ3, hp3⟩ := moM_re (R := R5) (s := mReJ (mReI t 102 (2 * n) f) 103 (2 * n) g) (s' := mReJ (mReJ (mReI t 102 (2 * n) f) 103 (2 * n) g) 104 (2 * n) o) (e := .inl (.long, 2 * n, .inr (.inl o))) hQ2 m4 hbc cm cq2 (mReJ_s rfl) (fun j hj => mReJ_n hj) (fun j => rfl)
      rw [pm_up_id hC] at hp3
      rw [hp3]
      have e104 : moQu (moQu q 102 a) 103 b 104 = q 104 := rfl
      rw [e104]
      have hL := pm_le_up (e := moA (mReJ (mReI t 102 (2 * n) f) 103 (2 * n) g) 104) hL (hD.2 104 m4)
      refine pg_wm hG (moM_le hL) ?_
      have ez : mReJ (mReJ (mReI t 102 (2 * n) f) 103 (2 * n) g) 104 (2 * n) o = tz := by
        rw [← h]
        unfold mgS
        rw [← h1, ef, eg, eo]
      rw [ez]
      refine pg_rv hG rfl rfl (k _ _ _ ?_)
      have eN : ∀ j, tz.N j = if j = 104 then 2 * n else if j = 103 then 2 * n else if j = 102 then 2 * n else t.N j := fun j => by rw [← ez]; rfl
      have n7 : tz.N 7 = t.N 7 := eN 7
      have n5 : tz.N 5 = t.N 5 := eN 5
      have n2 : tz.N 102 = 2 * n := eN 102
      have n3 : tz.N 103 = 2 * n := eN 103
      have n4 : tz.N 104 = 2 * n := eN 104
      refine ⟨hQ3, ⟨hD.1, fun j hj => ?_⟩, ?_, ?_, ⟨by omega, by omega⟩, ⟨by omega, by omega⟩, ⟨by omega, by omega, by omega, by omega⟩, w11, w12⟩
      · unfold moQu
        split
        · exact cR
        · split
          · exact bR
          · split
            · exact aR
            · exact hD.2 j hj
      · omega
      · omega
    | succ r ih =>
      intro i f g o hi hf hf0 hg hg0 ho ho0
      refine pgs hG rfl rfl ?_
      refine pgs hG rfl rfl ?_
      refine mo_gi hG (k := 101) rfl rfl rfl rfl ?_
      rw [en]
      refine pi_ge hG (t := 78) rfl rfl (fun c => absurd c (nI_ge (by omega) (by omega))) (fun _ => ?_)
      refine pgs hG rfl rfl ?_
      refine pgs hG rfl rfl ?_
      refine pgs hG rfl rfl ?_
      refine mo_gr hG (k := 102) rfl rfl rfl rfl ?_
      refine pgs hG rfl rfl ?_
      refine mo_ia hG hq (k := 102) rfl rfl rfl (vp_in_nI (by omega) (by omega)) ?_
      rw [nI_clamp (by omega)]
      refine pg_is hG (n := 2 * n) (f := f) rfl (by rw [moM_o am aq, pm_up_ne _ _ hac, pm_up_ne _ _ hab, pm_up_self]) hba (vp_in_nI (by omega) (by omega)) ?_
      rw [nI_clamp (by omega), moM_R am aq, pm_up3 hab hac]
      refine pgs hG rfl rfl ?_
      refine pgs hG rfl rfl ?_
      refine pgs hG rfl rfl ?_
      refine mo_gr hG (k := 103) rfl rfl rfl rfl ?_
      refine pgs hG rfl rfl ?_
      refine mo_la hG hq (k := 103) rfl rfl rfl (vp_in_nI (by omega) (by omega)) ?_
      rw [nI_clamp (by omega)]
      refine pg_ls hG (n := 2 * n) (f := g) rfl (by rw [moM_o bm bq, pm_up_ne _ _ hbc', pm_up_self]) hbb (vp_in_nI (by omega) (by omega)) ?_
      rw [nI_clamp (by omega), moM_R bm bq, pm_up2 hbc']
      refine pgs hG rfl rfl ?_
      refine pgs hG rfl rfl ?_
      refine pgs hG rfl rfl ?_
      refine mo_gr hG (k := 104) rfl rfl rfl rfl ?_
      refine pgs hG rfl rfl ?_
      refine mo_la hG hq (k := 104) rfl rfl rfl (vp_in_nI (by omega) (by omega)) ?_
      rw [nI_clamp (by omega)]
      refine pg_ls hG (n := 2 * n) (f := o) rfl (by rw [moM_o cm cq, pm_up_self]) hbc (vp_in_nI (by omega) (by omega)) ?_
      rw [nI_clamp (by omega), moM_R cm cq, pm_uu]
      refine pgc hG rfl rfl (Nat.le_of_ble_eq_true rfl) ?_
      refine pg_go hG (t := 30) rfl rfl ?_
      have h := ih (i + 1) (upd f i (t.I 102 i)) (vp_updL g i (t.J 103 i)) (vp_updL o i (t.J 104 i)) (by omega) (fun j hj => by
        unfold upd
        by_cases hji : j = i
        · rw [if_pos hji, hji]
        · rw [if_neg hji]
          exact hf j (by omega)) (fun j hj => by
        unfold upd
        rw [if_neg (by omega)]
        exact hf0 j (by omega)) (fun j hj => by
        unfold vp_updL
        by_cases hji : j = i
        · rw [if_pos hji, hji]
        · rw [if_neg hji]
          exact hg j (by omega)) (fun j hj => by
        unfold vp_updL
        rw [if_neg (by omega)]
        exact hg0 j (by omega)) (fun j hj => by
        unfold vp_updL
        by_cases hji : j = i
        · rw [if_pos hji, hji]
        · rw [if_neg hji]
          exact ho j (by omega)) (fun j hj => by
        unfold vp_updL
        rw [if_neg (by omega)]
        exact ho0 j (by omega))
      rw [nI_succ] at h
      exact h
  exact loop n 0 (fun _ => 0) (fun _ => 0) (fun _ => 0) (by omega) (fun j hj => by omega) (fun j _ => rfl) (fun j hj => by omega) (fun j _ => rfl) (fun j hj => by omega) (fun j _ => rfl)
