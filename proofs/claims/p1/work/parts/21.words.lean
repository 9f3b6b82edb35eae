/-! Words of numbers, secrets, parts of other rows. -/
set_option maxRecDepth 100000 in
/-- wordNumber; the empty text is a constant -/
theorem v_By_wordNumber (base : Nat) (sa : Nat → Nat) {b d cap B n v : Nat} {l : List Int32} {M : pmM} {Rt : pmR} {kc ks : Nat} (hv : vBy base M b l d cap) (hs : vSt M (sa 3) v []) (n1 : sa 3 ≠ b) (n2 : sa 3 ≠ d) (n3 : v ≠ b) (n4 : v ≠ d) (hB : l.length + 11 ≤ B) (hb : bud B kc ks cap) (hn : n < 2 ^ 31)
    (k : ∀ (M' : pmM) (d' cap' kc' ks' : Nat), vBy base M' b (l ++ (sep l ++ dec n)) d' cap' → grw M b d cap kc ks M' d' cap' kc' ks' → Rt none M' kc' ks') : kP_By_wordNumber base sa [.ref b, .int (nI n)] M kc ks Rt := by
  have hsl : (sep l).length ≤ 1 := by unfold sep; split <;> (try split) <;> decide
  refine ⟨Nat.le_of_ble_eq_true rfl, fun G hG => ?_⟩
  refine pgs hG rfl rfl ?_
  refine pg_lds hG rfl rfl ?_
  refine pg_cal hG 0 rfl rfl (Nat.le_of_ble_eq_true rfl) (by decide) (Nat.le_of_ble_eq_true rfl) ?_
  refine pm_rcv_of (As' := [.ref (sa 3)]) hv.ob (v_By_word base sa (B := B) hv hs (fun x hx => absurd hx List.not_mem_nil) n1 n2 n3 n4 (by simp only [List.length_nil]; omega) hb ?_)
  intro M1 d1 cap1 kc1 ks1 hv1 hg1
  rw [List.append_nil] at hv1
  refine pgs hG rfl rfl ?_
  refine pgs hG rfl rfl ?_
  refine pg_cal hG 0 rfl rfl (Nat.le_of_ble_eq_true rfl) (by decide) (Nat.le_of_ble_eq_true rfl) ?_
  refine pm_rcv_of (As' := [.int (nI n)]) hv1.ob (v_By_addDecimal base sa (B := B) hv1 (by rw [List.length_append]; omega) (bud_tr hb hg1) hn ?_)
  intro M2 d2 cap2 kc2 ks2 hv2 hg2
  refine pg_rv hG rfl rfl (k M2 d2 cap2 kc2 ks2 ?_ (grw_tr hg1 hg2))
  rw [List.append_assoc] at hv2
  exact hv2
/-- the bytes of a secret, up to the first 0 -/
def secB (f : Nat → Int32) : Nat → Nat → List Int32
  | _, 0 => []
  | i, m + 1 => if f i = 0 then [] else f i :: secB f (i + 1) m
theorem secB_len (f : Nat → Int32) : ∀ m i, (secB f i m).length ≤ m := by
  intro m
  induction m with
  | zero => intro i; exact Nat.le_refl _
  | succ m ih =>
    intro i
    unfold secB
    split
    · exact Nat.zero_le _
    · have := ih (i + 1)
      simp only [List.length_cons]
      omega
set_option maxRecDepth 100000 in
/-- addSecret -/
theorem v_By_addSecret (base : Nat) (sa : Nat → Nat) {b d cap B s n : Nat} {f : Nat → Int32} {l : List Int32} {M : pmM} {Rt : pmR} {kc ks : Nat} (hv : vBy base M b l d cap) (hs : M s = some (.inl (.byte, n, .inl f))) (hsd : s ≠ d) (h8 : ∀ i, i < n → (f i).toInt8.toInt32 = f i) (hB : l.length + n ≤ B) (hb : bud B kc ks cap)
    (k : ∀ (M' : pmM) (d' cap' kc' ks' : Nat), vBy base M' b (l ++ secB f 0 n) d' cap' → grw M b d cap kc ks M' d' cap' kc' ks' → Rt none M' kc' ks') : kP_By_addSecret base sa [.ref b, .ref s] M kc ks Rt := by
  have hB2 := hb.2.2
  have hsb : s ≠ b := by
    rintro rfl
    have h := hv.ob
    rw [hs] at h
    exact absurd (Option.some.inj h) (by simp)
  refine ⟨Nat.le_of_ble_eq_true rfl, fun G hG => ?_⟩
  refine pgs hG rfl rfl ?_
  refine pgc hG rfl rfl (Nat.le_of_ble_eq_true rfl) ?_
  have loop : ∀ (m i : Nat) (p : List Int32) (M1 : pmM) (d1 cap1 kc1 ks1 : Nat), i + m = n → p.length ≤ i → p ++ secB f i m = secB f 0 n → vBy base M1 b (l ++ p) d1 cap1 → grw M b d cap kc ks M1 d1 cap1 kc1 ks1 → G 2 [(2, .int (nI i)), (0, .ref b), (1, .ref s)] [] M1 kc1 ks1 := by
    intro m
    induction m with
    | zero =>
      intro i p M1 d1 cap1 kc1 ks1 hi hpi hp hv1 hg1
      have hs1 := grw_old hg1 hsb hsd hs
      refine pgs hG rfl rfl ?_
      refine pgs hG rfl rfl ?_
      refine pg_al hG rfl hs1 ?_
      refine pi_ge hG (t := 27) rfl rfl (fun _ => ?_) (fun c => absurd (nI_le (by omega) (by omega)) c)
      refine pg_rv hG rfl rfl (k M1 d1 cap1 kc1 ks1 ?_ hg1)
      rw [← hp]
      show vBy base M1 b (l ++ (p ++ [])) d1 cap1
      rw [List.append_nil]
      exact hv1
    | succ m ih =>
      intro i p M1 d1 cap1 kc1 ks1 hi hpi hp hv1 hg1
      have hs1 := grw_old hg1 hsb hsd hs
      have hsec : secB f i (m + 1) = if f i = 0 then [] else f i :: secB f (i + 1) m := rfl
      refine pgs hG rfl rfl ?_
      refine pgs hG rfl rfl ?_
      refine pg_al hG rfl hs1 ?_
      refine pi_ge hG (t := 27) rfl rfl (fun c => absurd c (nI_ge (by omega) (by omega))) (fun _ => ?_)
      refine pgs hG rfl rfl ?_
      refine pgs hG rfl rfl ?_
      refine pg_ba hG rfl hs1 (vp_in_nI (by omega) (by omega)) ?_
      rw [nI_clamp (by omega)]
      refine pz_eq hG (t := 27) rfl rfl (fun c => ?_) (fun c => ?_)
      · refine pg_rv hG rfl rfl (k M1 d1 cap1 kc1 ks1 ?_ hg1)
        rw [← hp, hsec, if_pos c, List.append_nil]
        exact hv1
      · refine pgs hG rfl rfl ?_
        refine pgs hG rfl rfl ?_
        refine pgs hG rfl rfl ?_
        refine pg_ba hG rfl hs1 (vp_in_nI (by omega) (by omega)) ?_
        rw [nI_clamp (by omega)]
        refine pg_cal hG 0 rfl rfl (Nat.le_of_ble_eq_true rfl) (by decide) (Nat.le_of_ble_eq_true rfl) ?_
        refine pm_rcv_of (As' := [.int (f i)]) hv1.ob (v_By_add base sa (B := B) hv1 (by rw [List.length_append]; omega) (bud_tr hb hg1) ?_)
        intro M2 d2 cap2 kc2 ks2 hv2 hg2
        refine pgc hG rfl rfl (Nat.le_of_ble_eq_true rfl) ?_
        refine pg_go hG (t := 2) rfl rfl ?_
        rw [hsec, if_neg c] at hp
        have h := ih (i + 1) (p ++ [f i]) M2 d2 cap2 kc2 ks2 (by omega) (by simp only [List.length_append, List.length_cons, List.length_nil]; omega) (by rw [List.append_assoc]; exact hp) (by
          rw [h8 i (by omega), List.append_assoc] at hv2
          exact hv2) (grw_tr hg1 hg2)
        rw [← nI_1 i] at h
        exact h
  exact loop n 0 [] M d cap kc ks (by omega) (Nat.le_refl _) rfl (by simpa using hv) grw_rf
