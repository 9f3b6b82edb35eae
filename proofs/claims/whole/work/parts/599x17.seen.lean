/-! seen, on both sides. -/
section Se
variable {G H : Nat → Nat → Nat} {sa : Nat → Nat} {x kc ks : Nat} {s s' : cS} {t t' : moS} {W : List Nat}
/-- a text that both write: the end of it -/
theorem tx_both {M : Option (Int32 × moS)} {C : (Int32 → cS → Nat → Nat → Prop) → Prop} {L : List Int32} {tx pg : Nat} {t0 t1 : moS} (hR : RR G H sa x s t0) (hM : MV t0) (m0 : mfr [0, 5, 6, 7, 8, 16] t t0) (h221 : s.P 221 x = some tx) (h222 : s.P 222 x = some pg) (hd : DD [7, 8, 16] t0 t1 L) (hL : L.length ≤ 120000) (e : M = bn2 (M_shown t1) fun y s1 => some (y, s1)) (k : ∀ Q : Int32 → cS → Nat → Nat → Prop, (∀ s' kc' ks', AP sa tx 124 120000 262144 (cSI s 1 tx 0) (16 * kc + capOf s tx) (ks + 2 * capOf s tx) L s' kc' ks' → ob (gP s' 11 1 x) (fun v => ob v fun b => ob (gI s' 0 1 b) fun v => Q v s' kc' ks')) → C Q) : SO G H sa x t [0, 5, 6, 7, 8, 16] M C (XT s x kc ks) := by
  obtain ⟨e2, m2, h6, h5, d5, n5, n7, -⟩ := dd_shown hd hM.1.1.2.2.1
  have m3 : mfr [0, 5, 6, 7, 8, 16] t0 (moShn t1) := m2.wk (by intro k hk; revert hk; revert k; decide)
  refine ⟨nI L.length, moShn t1, by rw [e, e2]; rfl, hM.fr m3 rfl (hM.1.tx m3 h6 hL d5 n5 n7), m0.tr m3, fun Q q => k Q fun s' kc' ks' hA => ?_⟩
  obtain ⟨hR', hX⟩ := tx_end hR hM h221 h222 rfl hA m3 h6 h5 hL
  have p' : s'.P 221 x = some tx := by rw [hX.2.1]; exact h221
  refine ⟨_, gd_to hR'.q.1.ox, _, p', _, gd_to hA.o, ?_⟩
  rw [show s'.I (20 * 0 + 1) tx = nI L.length from hA.elim fun _ h => h.elim fun _ h => h.1.2.2.2.2.1]
  exact q s' kc' ks' hR' hX
theorem dd_seen {t0 : moS} {j n : Nat} (hM : MV t0) (hj : j < cL t0) (e25 : t0.I 25 j = nI n) (hn : n ≤ 600) : ∃ t1, M_seen_b26 (moSS t0 8 0) (nI j) 0 = (bn2 (M_shown t1) fun y s1 => some (y, s1)) ∧ DD [7, 8, 16] t0 t1 (tl (fun i => t0.I 26 (700 * j + i)) n) := by
  have h10 := hM.nL
  unfold M_seen_b26
  have key : ∀ m i (t : moS), i + m = n → DD [7, 8, 16] t0 t (tl (fun i => t0.I 26 (700 * j + i)) i) → ∃ t1, lp (fun y : Int32 × moS => M_seen_s26 y.2 (nI j) y.1) (nI i, t) = (bn2 (M_shown t1) fun y s1 => some (y, s1)) ∧ DD [7, 8, 16] t0 t1 (tl (fun i => t0.I 26 (700 * j + i)) n) := by
    intro m
    induction m with
    | zero =>
      intro i t hi h
      have hi : i = n := by omega
      subst hi
      refine ⟨t, lp_x ?_, h⟩
      show M_seen_s26 t (nI j) (nI i) = _
      unfold M_seen_s26
      rw [h.rI hM.n 25 10 (by omega), e25]
      show (if nI i < nI i then _ else _) = _
      rw [if_neg (nI_nlt (Nat.le_refl _) (by omega))]
    | succ m ih =>
      intro i t hi h
      obtain ⟨t', e', h'⟩ := dd_say (t0.I 26 (700 * j + i)) h (by rw [tl_len]; omega)
      have st : M_seen_s26 t (nI j) (nI i) = some (.inl (nI i + 1, t')) := by
        unfold M_seen_s26
        rw [h.rI hM.n 25 10 (by omega), e25]
        show (if nI i < nI n then _ else _) = _
        rw [if_pos (nI_lt (by omega) (by omega)), show (700 : Int32) * nI j + nI i = nI (700 * j + i) by rw [show (700 : Int32) = nI 700 from rfl, pk_mul, nI_add], h.rI hM.n 26 7000 (by omega)]
        show Option.bind (M_say t (t0.I 26 (700 * j + i))) _ = _
        rw [e']
        rfl
      rw [lp_l (show (fun y : Int32 × moS => M_seen_s26 y.2 (nI j) y.1) (nI i, t) = _ from st), nI_1]
      refine ih (i + 1) t' (by omega) ?_
      rw [show tl (fun i => t0.I 26 (700 * j + i)) (i + 1) = tl (fun i => t0.I 26 (700 * j + i)) i ++ [t0.I 26 (700 * j + i)] by unfold tl; rw [List.range_succ, List.map_append]; rfl]
      exact h'
  exact key n 0 _ (by omega) (DD.new hM.n)
theorem P_seen (hR : RR G H sa x s t) (hM : MV t) (hB : BT s x kc ks) (y : Int32) : SO G H sa x t [0, 5, 6, 7, 8, 16] (M_seen t y) (C_Rf_seen sa x y s kc ks) (XT s x kc ks) := by
  obtain ⟨tx, pg, h221, h222⟩ := hR.txs
  have hq := hR.q.1
  have h10 := hM.nL
  have m0 : mfr [0] t (moSS t 0 0) := mfr.ss (by decide)
  have hM0 := hM.m0 m0
  have hR0 : RR G H sa x s (moSS t 0 0) := hR.mf hM m0 rfl rfl
  have m0' : mfr [0, 5, 6, 7, 8, 16] t (moSS t 0 0) := mfr.ss (by decide)
  have e17 : t.S 17 = nI (cL t) := hM.1.2.2.2.2.2.1.n.1
  have no : M_seen t y = some (-1, moSS t 0 0) → (∀ Q : Int32 → cS → Nat → Nat → Prop, Q (-1) s kc ks → C_Rf_seen sa x y s kc ks Q) → SO G H sa x t [0, 5, 6, 7, 8, 16] (M_seen t y) (C_Rf_seen sa x y s kc ks) (XT s x kc ks) :=
    fun e k => ⟨-1, _, e, hM0, m0', fun Q h => k Q (h s kc ks hR0 XT.rf)⟩
  by_cases c0 : y < 0
  · exact no (if_pos c0) fun Q k => ⟨hq.ox, w_ln hq hM (fun r hr e => nI_pos (show r < 2 ^ 31 by omega) (by rw [← e]; exact c0)) (ifT rfl k)⟩
  by_cases c1 : y < t.S 17
  · obtain ⟨j, hj, rfl⟩ := nI_of c0
    have hj : j < cL t := Nat.lt_of_not_le fun h => by rw [e17] at c1; exact nI_nlt h hj c1
    obtain ⟨n, e25, -, hn⟩ := (hM.2.1 j hj).2.2.2.2.2.2.1
    obtain ⟨t1, e1, d1⟩ := dd_seen hM0 hj (n := n) e25 hn
    obtain ⟨o1, q1, p1, A1⟩ := tx_new hR0 hM0 hB h221
    refine tx_both hR0 hM0 m0' h221 h222 d1 (by rw [tl_len]; omega) ((if_neg c0).trans ((if_pos c1).trans e1)) fun Q k => ⟨hq.ox, w_la hq hM hj (ifF (by simp) ⟨_, gd_to hq.ox, _, h221, o1, _, gd_to o1, ?_⟩)⟩
    obtain ⟨⟨z1, -⟩, -, -, cap, -, hb⟩ := q1.link hj
    have hll := q1.ty.p z1 67 2
    have oll := okr hll.2 0
    have e25' : ((moSS t 0 0).I 25 j).toNatClampNeg = n := by show (t.I 25 j).toNatClampNeg = n; rw [e25, nI_clamp (by omega)]
    rw [e25'] at hb
    have k32 : (s.K tx).1 = 32 := by
      obtain ⟨-, -, tx', pg', c1, c2, b1, b2, b3, -⟩ := hR.q
      rw [h221] at b1
      cases b1
      exact b3
    have hne : H 67 (G 0 j) ≠ tx := fun z => by
      have z2 : (s.K (H 67 (G 0 j))).1 = 2 := hll.2
      rw [z, k32] at z2; exact absurd z2 (by decide)
    have hsz : (cSI s 1 tx 0).I (20 * 0 + 1) (H 67 (G 0 j)) = nI n := by
      obtain ⟨-, -, d, -, -, z, -⟩ := hb
      rw [tl_len] at z; exact z
    refine ⟨_, gd_to q1.ox, _, rfl, _, gd_to (okr z1 3), _, gd_to (okr z1 3), _, hll.1, _, gd_to oll, tx, p1, A1.o, ?_⟩
    rw [show (cSI s 1 tx 0).P (20 * 3 + 7) (G 0 j) = some (H 67 (G 0 j)) from hll.1, hsz]
    refine ap_part (i := 0) (j := n) A1 hb hne (fun d z1 z2 => hne (q1.ty.2.2 _ _ d oll o1 z1 z2)) (Nat.zero_le _) (by rw [tl_len]; exact Nat.le_refl _) (by show 0 + (n - 0) ≤ _; omega) (by decide) fun s' kc' ks' hA => k s' kc' ks' ?_
    rw [show ([] : List Int32) ++ ((tl (fun j_1 => (moSS t 0 0).I 26 (700 * j + j_1)) n).drop 0).take (n - 0) = tl (fun i => (moSS t 0 0).I 26 (700 * j + i)) n by
      rw [List.nil_append, List.drop_zero, Nat.sub_zero, List.take_of_length_le (by rw [tl_len]; exact Nat.le_refl _)]] at hA
    exact hA
  · refine no ((if_neg c0).trans (if_neg c1)) fun Q k => ⟨hq.ox, w_ln hq hM (fun r hr e => c1 ?_) (ifT rfl k)⟩
    rw [e, e17]; exact nI_lt hr (by omega)
end Se
