/-! Addresses of sixteen bytes. -/
/-- part i of an address -/
def prt (hi lo : Int64) (i : Nat) : Nat := (ush (if nI i < 4 then hi else lo) (48 - 16 * (nI i &&& 3))).toInt32.toBitVec.toNat % 65536
theorem prt_e (hi lo : Int64) (i : Nat) : ppart hi lo (nI i) = nI (prt hi lo i) := by
  unfold ppart
  rw [pk_and _ 16 (by decide)]
  rfl
theorem prt_lt (hi lo : Int64) (i : Nat) : prt hi lo i < 65536 := Nat.mod_lt _ (by decide)
/-- how many parts 0 stand from place 8 - k on -/
def zrT (p : Nat → Nat) : Nat → Nat
  | 0 => 0
  | k + 1 => if p (7 - k) = 0 then zrT p k + 1 else 0
theorem zrT_le (p : Nat → Nat) : ∀ k, zrT p k ≤ k
  | 0 => Nat.le_refl _
  | k + 1 => by
    show (if p (7 - k) = 0 then zrT p k + 1 else 0) ≤ k + 1
    have := zrT_le p k
    split <;> omega
/-- the longest row of two or more among the first i places: where it begins, how long it is -/
def gpS (p : Nat → Nat) : Nat → Nat × Nat
  | 0 => (8, 1)
  | i + 1 => if (gpS p i).2 < zrT p (8 - i) then (i, zrT p (8 - i)) else gpS p i
theorem gpS_le (p : Nat → Nat) : ∀ i, i ≤ 8 → (gpS p i).1 ≤ 8 ∧ (gpS p i).2 ≤ 8
  | 0, _ => ⟨Nat.le_refl _, by show 1 ≤ 8; decide⟩
  | i + 1, h => by
    have h1 := gpS_le p i (by omega)
    have h2 := zrT_le p (8 - i)
    show (if (gpS p i).2 < zrT p (8 - i) then (i, zrT p (8 - i)) else gpS p i).1 ≤ 8 ∧ (if (gpS p i).2 < zrT p (8 - i) then (i, zrT p (8 - i)) else gpS p i).2 ≤ 8
    split
    · exact ⟨by show i ≤ 8; omega, by show zrT p (8 - i) ≤ 8; omega⟩
    · exact h1
/-- place i as text, when a row of s parts 0 from g on is left out -/
def sixP (p : Nat → Nat) (g s i : Nat) : List Int32 := if i = g then [58, 58] else if i < g ∨ g + s ≤ i then (if 0 < i ∧ i ≠ g + s then [58] else []) ++ hex (p i) else []
def sixT (p : Nat → Nat) (g s : Nat) : Nat → List Int32
  | 0 => []
  | k + 1 => sixP p g s (7 - k) ++ sixT p g s k
def six (p : Nat → Nat) : List Int32 := sixT p (gpS p 8).1 (gpS p 8).2 8
theorem sixP_len (p : Nat → Nat) (g s i : Nat) : (sixP p g s i).length ≤ 5 := by
  have := hex_len (p i)
  unfold sixP
  split
  · decide
  · split
    · rw [List.length_append]
      split
      · show 1 + _ ≤ 5
        omega
      · show 0 + _ ≤ 5
        omega
    · decide
theorem sixT_len (p : Nat → Nat) (g s : Nat) : ∀ k, (sixT p g s k).length ≤ 5 * k
  | 0 => Nat.le_refl _
  | k + 1 => by
    show (sixP p g s (7 - k) ++ sixT p g s k).length ≤ _
    rw [List.length_append]
    have := sixP_len p g s (7 - k)
    have := sixT_len p g s k
    omega
theorem six_len (p : Nat → Nat) : (six p).length ≤ 40 := sixT_len p _ _ 8
set_option maxRecDepth 100000 in
set_option maxHeartbeats 4000000 in
/-- addSix: eight parts, the longest row of 0s as :: -/
theorem v_By_addSix (base : Nat) (sa : Nat → Nat) {b d cap B x v : Nat} {a1 a4 : Int32} {a2 a3 : Int64} {l : List Int32} {M : pmM} {Rt : pmR} {kc ks : Nat} (hv : vBy base M b l d cap) (hx : M x = some (pfx a1 a2 a3 a4)) (hxd : x ≠ d) (hxb : x ≠ b) (hs : vSt M (sa 39) v [58, 58]) (n1 : sa 39 ≠ b) (n2 : sa 39 ≠ d) (n3 : v ≠ b) (n4 : v ≠ d) (hB : l.length + 40 ≤ B) (hb : bud B kc ks cap)
    (k : ∀ (M' : pmM) (d' cap' kc' ks' : Nat), vBy base M' b (l ++ six (prt a2 a3)) d' cap' → grw M b d cap kc ks M' d' cap' kc' ks' → Rt none M' kc' ks') : kP_By_addSix base sa [.ref b, .ref x] M kc ks Rt := by
  have e8 : (Int8.ofInt 8).toInt32 = nI 8 := by decide
  refine ⟨Nat.le_of_ble_eq_true rfl, fun G hG => ?_⟩
  have loopB : ∀ (r i : Nat) (p : List Int32) (M1 : pmM) (d1 cap1 kc1 ks1 : Nat), i + r = 8 → p.length + 5 * r ≤ 40 → p ++ sixT (prt a2 a3) (gpS (prt a2 a3) 8).1 (gpS (prt a2 a3) 8).2 r = six (prt a2 a3) → vBy base M1 b (l ++ p) d1 cap1 → grw M b d cap kc ks M1 d1 cap1 kc1 ks1 → G 67 [(4, .int (nI i)), (3, .int (nI (gpS (prt a2 a3) 8).2)), (2, .int (nI (gpS (prt a2 a3) 8).1)), (0, .ref b), (1, .ref x)] [] M1 kc1 ks1 := by
    obtain ⟨hg8, hs8⟩ := gpS_le (prt a2 a3) 8 (Nat.le_refl _)
    generalize hgg : (gpS (prt a2 a3) 8).1 = g at hg8 ⊢
    generalize hss : (gpS (prt a2 a3) 8).2 = s at hs8 ⊢
    intro r
    induction r with
    | zero =>
      intro i p M1 d1 cap1 kc1 ks1 hi hpl hp hv1 hg1
      refine pgs hG rfl rfl ?_
      refine pgs hG rfl rfl ?_
      rw [e8]
      refine pi_ge hG (t := 138) rfl rfl (fun _ => ?_) (fun c => absurd (nI_le (by omega) (by omega)) c)
      refine pg_rv hG rfl rfl (k M1 d1 cap1 kc1 ks1 ?_ hg1)
      have hp : p ++ [] = six (prt a2 a3) := hp
      rw [List.append_nil] at hp
      rw [← hp]
      exact hv1
    | succ r ih =>
      intro i p M1 d1 cap1 kc1 ks1 hi hpl hp hv1 hg1
      have hx1 := grw_old hg1 hxb hxd hx
      have hi7 : 7 - r = i := by omega
      have hp : p ++ (sixP (prt a2 a3) g s (7 - r) ++ sixT (prt a2 a3) g s r) = six (prt a2 a3) := hp
      rw [hi7, ← List.append_assoc] at hp
      have hl5 := sixP_len (prt a2 a3) g s i
      have h132 : ∀ (M2 : pmM) (d2 cap2 kc2 ks2 : Nat), vBy base M2 b (l ++ (p ++ sixP (prt a2 a3) g s i)) d2 cap2 → grw M b d cap kc ks M2 d2 cap2 kc2 ks2 → G 132 [(4, .int (nI i)), (3, .int (nI s)), (2, .int (nI g)), (0, .ref b), (1, .ref x)] [] M2 kc2 ks2 := by
        intro M2 d2 cap2 kc2 ks2 hv2 hg2
        refine pgc hG rfl rfl (Nat.le_of_ble_eq_true rfl) ?_
        refine pg_go hG (t := 67) rfl rfl ?_
        have h := ih (i + 1) (p ++ sixP (prt a2 a3) g s i) M2 d2 cap2 kc2 ks2 (by omega) (by rw [List.length_append]; omega) hp hv2 hg2
        rw [nI_succ] at h
        exact h
      refine pgs hG rfl rfl ?_
      refine pgs hG rfl rfl ?_
      rw [e8]
      refine pi_ge hG (t := 138) rfl rfl (fun c => absurd c (nI_ge (by omega) (by omega))) (fun _ => ?_)
      refine pgs hG rfl rfl ?_
      refine pgs hG rfl rfl ?_
      refine pi_ne hG (t := 89) rfl rfl (fun c => ?_) (fun c => ?_)
      · have hne : i ≠ g := fun q => c (by rw [q])
        have h103 : (i < g ∨ g + s ≤ i) → G 103 [(4, .int (nI i)), (3, .int (nI s)), (2, .int (nI g)), (0, .ref b), (1, .ref x)] [] M1 kc1 ks1 := by
          intro hor
          have h122 : ∀ (w : List Int32) (M2 : pmM) (d2 cap2 kc2 ks2 : Nat), (if 0 < i ∧ i ≠ g + s then [58] else []) = w → vBy base M2 b (l ++ (p ++ w)) d2 cap2 → grw M b d cap kc ks M2 d2 cap2 kc2 ks2 → G 122 [(4, .int (nI i)), (3, .int (nI s)), (2, .int (nI g)), (0, .ref b), (1, .ref x)] [] M2 kc2 ks2 := by
            intro w M2 d2 cap2 kc2 ks2 hw hv2 hg2
            have hx2 := grw_old hg2 hxb hxd hx
            have hwl : w.length ≤ 1 := by
              rw [← hw]
              split <;> decide
            refine pgs hG rfl rfl ?_
            refine pgs hG rfl rfl ?_
            refine pgs hG rfl rfl ?_
            refine pg_cal hG 0 rfl rfl (Nat.le_of_ble_eq_true rfl) (by decide) (Nat.le_of_ble_eq_true rfl) ?_
            refine pm_rcv_of (As' := [.int (nI i)]) hx2 (s_Pr_part base sa hx2 ?_)
            rw [prt_e]
            refine pg_cal hG 0 rfl rfl (Nat.le_of_ble_eq_true rfl) (by decide) (Nat.le_of_ble_eq_true rfl) ?_
            refine pm_rcv_of (As' := [.int (nI (prt a2 a3 i))]) hv2.ob (v_By_addHex base sa (B := B) hv2 (by simp only [List.length_append]; omega) (bud_tr hb hg2) (prt_lt _ _ _) ?_)
            intro M3 d3 cap3 kc3 ks3 hv3 hg3'
            refine h132 M3 d3 cap3 kc3 ks3 ?_ (grw_tr hg2 hg3')
            have e : sixP (prt a2 a3) g s i = w ++ hex (prt a2 a3 i) := by
              unfold sixP
              rw [if_neg hne, if_pos hor, hw]
            rw [e]
            rw [List.append_assoc, List.append_assoc] at hv3
            exact hv3
          refine pgs hG rfl rfl ?_
          refine pz_le hG (t := 122) rfl rfl (fun c0 => ?_) (fun c0 => ?_)
          · have h0 : i = 0 := by
              rcases Nat.eq_zero_or_pos i with h | h
              · exact h
              · exact absurd c0 (nI_nle h (by omega))
            refine h122 [] M1 d1 cap1 kc1 ks1 (if_neg (by omega)) (by rw [List.append_nil]; exact hv1) hg1
          · have h0 : 0 < i := by
              rcases Nat.eq_zero_or_pos i with h | h
              · subst h
                exact absurd (by decide) c0
              · exact h
            refine pgs hG rfl rfl ?_
            refine pgs hG rfl rfl ?_
            refine pgs hG rfl rfl ?_
            refine pgs hG rfl rfl ?_
            rw [nI_add]
            refine pi_eq hG (t := 122) rfl rfl (fun c1 => ?_) (fun c1 => ?_)
            · have h1 : i = g + s := (nI_eq (by omega) (by omega)).mp c1
              refine h122 [] M1 d1 cap1 kc1 ks1 (if_neg (by omega)) (by rw [List.append_nil]; exact hv1) hg1
            · have h1 : i ≠ g + s := fun q => c1 (by rw [q])
              refine pgs hG rfl rfl ?_
              refine pgs hG rfl rfl ?_
              refine pg_cal hG 0 rfl rfl (Nat.le_of_ble_eq_true rfl) (by decide) (Nat.le_of_ble_eq_true rfl) ?_
              refine pm_rcv_of (As' := [.int 58]) hv1.ob (v_By_add base sa (B := B) (v := 58) hv1 (by rw [List.length_append]; omega) (bud_tr hb hg1) ?_)
              intro M2 d2 cap2 kc2 ks2 hv2 hg2'
              refine h122 [58] M2 d2 cap2 kc2 ks2 (if_pos ⟨h0, h1⟩) ?_ (grw_tr hg1 hg2')
              rw [show (58 : Int32).toInt8.toInt32 = 58 from by decide, List.append_assoc] at hv2
              exact hv2
        refine pgs hG rfl rfl ?_
        refine pgs hG rfl rfl ?_
        refine pi_lt hG (t := 103) rfl rfl (fun c1 => ?_) (fun c1 => ?_)
        · exact h103 (Or.inl ((nI_ltI (by omega) (by omega)).mp c1))
        · have hgi : ¬ i < g := fun q => c1 ((nI_ltI (by omega) (by omega)).mpr q)
          refine pgs hG rfl rfl ?_
          refine pgs hG rfl rfl ?_
          refine pgs hG rfl rfl ?_
          refine pgs hG rfl rfl ?_
          rw [nI_add]
          refine pi_lt hG (t := 132) rfl rfl (fun c2 => ?_) (fun c2 => ?_)
          · have h2 : i < g + s := (nI_ltI (by omega) (by omega)).mp c2
            refine h132 M1 d1 cap1 kc1 ks1 ?_ hg1
            have e : sixP (prt a2 a3) g s i = [] := by
              unfold sixP
              rw [if_neg hne, if_neg (by omega)]
            rw [e, List.append_nil]
            exact hv1
          · exact h103 (Or.inr (Nat.not_lt.mp fun q => c2 ((nI_ltI (by omega) (by omega)).mpr q)))
      · have heq : i = g := (nI_eq (by omega) (by omega)).mp c
        have hs1 : vSt M1 (sa 39) v [58, 58] := hs.grw hg1 n1 n2 n3 n4
        have hn : ∀ y, y ≠ d → M y ≠ none → y ≠ d1 := fun y h1 h2 q => hg1.2.2.1.elim (fun z => h1 (q.trans z)) (fun z => h2 (q ▸ z))
        obtain ⟨w1, w2, w3, w4, w5, -⟩ := id hs
        refine pgs hG rfl rfl ?_
        refine pg_lds hG rfl rfl ?_
        refine pg_cal hG 0 rfl rfl (Nat.le_of_ble_eq_true rfl) (by decide) (Nat.le_of_ble_eq_true rfl) ?_
        refine pm_rcv_of (As' := [.ref (sa 39)]) hv1.ob (v_By_addText base sa (B := B) hv1 hs1 (by decide) n1 ?_ n3 ?_ (by rw [List.length_append]; show _ + 2 ≤ _; omega) (bud_tr hb hg1) ?_)
        · exact hn _ n2 (by rw [w4]; simp)
        · exact hn _ n4 (by rw [w5]; simp)
        intro M2 d2 cap2 kc2 ks2 hv2 hg2'
        refine pg_go hG (t := 132) rfl rfl ?_
        refine h132 M2 d2 cap2 kc2 ks2 ?_ (grw_tr hg1 hg2')
        have e : sixP (prt a2 a3) g s i = [58, 58] := by
          unfold sixP
          rw [if_pos heq]
        rw [e]
        rw [List.append_assoc] at hv2
        exact hv2
  have loopA : ∀ (r i : Nat), i + r = 8 → G 8 [(4, .int (nI i)), (3, .int (nI (gpS (prt a2 a3) i).2)), (2, .int (nI (gpS (prt a2 a3) i).1)), (0, .ref b), (1, .ref x)] [] M kc ks := by
    intro r
    induction r with
    | zero =>
      intro i hi
      have hi8 : i = 8 := by omega
      subst hi8
      refine pgs hG rfl rfl ?_
      refine pgs hG rfl rfl ?_
      rw [e8]
      refine pi_ge hG (t := 64) rfl rfl (fun _ => ?_) (fun c => absurd (nI_le (by omega) (by omega)) c)
      refine pgs hG rfl rfl ?_
      refine pgc hG rfl rfl (Nat.le_of_ble_eq_true rfl) ?_
      exact loopB 8 0 [] M d cap kc ks rfl (by decide) (List.nil_append _) (by rw [List.append_nil]; exact hv) grw_rf
    | succ r ih =>
      intro i hi
      obtain ⟨hg8, hs8⟩ := gpS_le (prt a2 a3) i (by omega)
      have hsucc : gpS (prt a2 a3) (i + 1) = if (gpS (prt a2 a3) i).2 < zrT (prt a2 a3) (8 - i) then (i, zrT (prt a2 a3) (8 - i)) else gpS (prt a2 a3) i := rfl
      have hnext := ih (i + 1) (by omega)
      rw [hsucc, nI_succ] at hnext
      generalize hgg : (gpS (prt a2 a3) i).1 = g at hg8 ⊢
      generalize hss : (gpS (prt a2 a3) i).2 = s at hs8 hnext ⊢
      have hz8 := zrT_le (prt a2 a3) (8 - i)
      have h46 : G 46 [(5, .int (nI (zrT (prt a2 a3) (8 - i)))), (4, .int (nI i)), (3, .int (nI s)), (2, .int (nI g)), (0, .ref b), (1, .ref x)] [] M kc ks := by
        refine pgs hG rfl rfl ?_
        refine pgs hG rfl rfl ?_
        refine pi_le hG (t := 58) rfl rfl (fun c => ?_) (fun c => ?_)
        · have hle : ¬ s < zrT (prt a2 a3) (8 - i) := fun q => nI_ge q (by omega) c
          rw [if_neg hle, hgg, hss] at hnext
          refine pgc hG rfl rfl (Nat.le_of_ble_eq_true rfl) ?_
          refine pg_go hG (t := 8) rfl rfl ?_
          exact pg_wl hG [0, 2, 3, 4, 5] rfl hnext
        · have hlt : s < zrT (prt a2 a3) (8 - i) := Nat.not_le.mp fun q => c (nI_le q (by omega))
          rw [if_pos hlt] at hnext
          refine pgs hG rfl rfl ?_
          refine pgc hG rfl rfl (Nat.le_of_ble_eq_true rfl) ?_
          refine pgs hG rfl rfl ?_
          refine pgc hG rfl rfl (Nat.le_of_ble_eq_true rfl) ?_
          refine pgc hG rfl rfl (Nat.le_of_ble_eq_true rfl) ?_
          refine pg_go hG (t := 8) rfl rfl ?_
          exact pg_wl hG [0, 1, 2, 4, 5] rfl hnext
      have inner : ∀ (q z : Nat), i + z + q = 8 → zrT (prt a2 a3) (8 - i) = z + zrT (prt a2 a3) q → G 18 [(5, .int (nI z)), (4, .int (nI i)), (3, .int (nI s)), (2, .int (nI g)), (0, .ref b), (1, .ref x)] [] M kc ks := by
        intro q
        induction q with
        | zero =>
          intro z hz hzr
          refine pgs hG rfl rfl ?_
          refine pgs hG rfl rfl ?_
          refine pgs hG rfl rfl ?_
          refine pgs hG rfl rfl ?_
          rw [e8, nI_add]
          refine pi_ge hG (t := 46) rfl rfl (fun _ => ?_) (fun c => absurd (nI_le (by omega) (by omega)) c)
          rw [hzr] at h46
          exact h46
        | succ q ihq =>
          intro z hz hzr
          refine pgs hG rfl rfl ?_
          refine pgs hG rfl rfl ?_
          refine pgs hG rfl rfl ?_
          refine pgs hG rfl rfl ?_
          rw [e8, nI_add]
          refine pi_ge hG (t := 46) rfl rfl (fun c => absurd c (nI_ge (by omega) (by omega))) (fun _ => ?_)
          refine pgs hG rfl rfl ?_
          refine pgs hG rfl rfl ?_
          refine pgs hG rfl rfl ?_
          refine pgs hG rfl rfl ?_
          rw [nI_add]
          refine pg_cal hG 0 rfl rfl (Nat.le_of_ble_eq_true rfl) (by decide) (Nat.le_of_ble_eq_true rfl) ?_
          refine pm_rcv_of (As' := [.int (nI (i + z))]) hx (s_Pr_part base sa hx ?_)
          rw [prt_e]
          have h7 : 7 - q = i + z := by omega
          have hzq : zrT (prt a2 a3) (q + 1) = if prt a2 a3 (7 - q) = 0 then zrT (prt a2 a3) q + 1 else 0 := rfl
          rw [h7] at hzq
          rw [hzq] at hzr
          have hpl := prt_lt a2 a3 (i + z)
          refine pz_ne hG (t := 46) rfl rfl (fun c => ?_) (fun c => ?_)
          · have hne : ¬ prt a2 a3 (i + z) = 0 := fun q => c (by rw [q]; rfl)
            rw [if_neg hne] at hzr
            rw [hzr] at h46
            exact h46
          · have h0 : prt a2 a3 (i + z) = 0 := by
              rcases Nat.eq_zero_or_pos (prt a2 a3 (i + z)) with h | h
              · exact h
              · exact absurd c (nI_ne0 h (by omega))
            rw [if_pos h0] at hzr
            refine pgc hG rfl rfl (Nat.le_of_ble_eq_true rfl) ?_
            refine pg_go hG (t := 18) rfl rfl ?_
            have h := ihq (z + 1) (by omega) (by omega)
            rw [nI_succ] at h
            exact h
      refine pgs hG rfl rfl ?_
      refine pgs hG rfl rfl ?_
      rw [e8]
      refine pi_ge hG (t := 64) rfl rfl (fun c => absurd c (nI_ge (by omega) (by omega))) (fun _ => ?_)
      refine pgs hG rfl rfl ?_
      refine pgc hG rfl rfl (Nat.le_of_ble_eq_true rfl) ?_
      exact inner (8 - i) 0 (by omega) (by omega)
  refine pgs hG rfl rfl ?_
  refine pgc hG rfl rfl (Nat.le_of_ble_eq_true rfl) ?_
  refine pgs hG rfl rfl ?_
  refine pgc hG rfl rfl (Nat.le_of_ble_eq_true rfl) ?_
  refine pgs hG rfl rfl ?_
  refine pgc hG rfl rfl (Nat.le_of_ble_eq_true rfl) ?_
  exact loopA 8 0 rfl
