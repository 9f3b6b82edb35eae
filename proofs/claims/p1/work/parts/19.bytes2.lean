/-! Bytes: numbers and zeros read. -/
/-- w bytes from s on, the first the highest; where there is none, 0 -/
def v_num (l : List Int32) (s : Nat) : Nat → Int64
  | 0 => 0
  | w + 1 => (v_num l s w <<< 8) ||| (if s + w < l.length then l.getD (s + w) 0 &&& 255 else 0).toInt64
set_option maxRecDepth 100000 in
theorem v_By_numberAt (base : Nat) (sa : Nat → Nat) {b d cap s w : Nat} {l : List Int32} {M : pmM} {Rt : pmR} {kc ks : Nat} (hv : vBy base M b l d cap) (hs : s + w < 2 ^ 31) (k : Rt (some (.long (v_num l s w))) M kc ks) : kP_By_numberAt base sa [.ref b, .int (nI s), .int (nI w)] M kc ks Rt := by
  have hob := hv.ob
  have hsm := hv.small
  obtain ⟨f, hr, hf, h8, q1, q2, q3⟩ := hv
  obtain ⟨r1, r2, r3, r4, r5⟩ := hr
  refine ⟨Nat.le_of_ble_eq_true rfl, fun G hG => ?_⟩
  refine pgs hG rfl rfl ?_
  refine pgc hG rfl rfl (Nat.le_of_ble_eq_true rfl) ?_
  refine pgs hG rfl rfl ?_
  refine pgc hG rfl rfl (Nat.le_of_ble_eq_true rfl) ?_
  have loop : ∀ m i : Nat, i + m = w → G 5 [(5, .int (nI (s + i))), (3, .long (v_num l s i)), (0, .ref b), (1, .int (nI s)), (2, .int (nI w))] [] M kc ks := by
    intro m
    induction m with
    | zero =>
      intro i hi
      refine pgs hG rfl rfl ?_
      refine pgs hG rfl rfl ?_
      refine pgs hG rfl rfl ?_
      refine pgs hG rfl rfl ?_
      rw [nI_add]
      have e : i = w := by omega
      subst e
      refine pi_ge hG (t := 55) rfl rfl (fun _ => ?_) (fun c => absurd (nI_le (Nat.le_refl _) hs) c)
      refine pgs hG rfl rfl ?_
      exact pg_rl hG rfl rfl k
    | succ m ih =>
      intro i hi
      refine pgs hG rfl rfl ?_
      refine pgs hG rfl rfl ?_
      refine pgs hG rfl rfl ?_
      refine pgs hG rfl rfl ?_
      rw [nI_add]
      refine pi_ge hG (t := 55) rfl rfl (fun c => absurd c (nI_ge (by omega) hs)) (fun _ => ?_)
      refine pgs hG rfl rfl ?_
      refine pgs hG rfl rfl ?_
      refine pgs hG rfl rfl ?_
      have tail : ∀ z : Int32, z = (if s + i < l.length then l.getD (s + i) 0 &&& 255 else 0) → G 46 [(5, .int (nI (s + i))), (3, .long (v_num l s i)), (0, .ref b), (1, .int (nI s)), (2, .int (nI w))] [.int z, .long (v_num l s i <<< 8)] M kc ks := by
        intro z hz
        refine pgs hG rfl rfl ?_
        refine pgs hG rfl rfl ?_
        refine pgc hG rfl rfl (Nat.le_of_ble_eq_true rfl) ?_
        refine pgc hG rfl rfl (Nat.le_of_ble_eq_true rfl) ?_
        refine pg_go hG (t := 5) rfl rfl ?_
        have h := ih (i + 1) (by omega)
        rw [show v_num l s (i + 1) = (v_num l s i <<< 8) ||| z.toInt64 from by rw [hz]; rfl] at h
        rw [show nI (s + (i + 1)) = nI (s + i) + Int32.ofInt 1 from (nI_1 (s + i)).symm] at h
        exact h
      have e8 : v_num l s i <<< ((Int8.ofInt 8).toInt32.toInt64 &&& 63) = v_num l s i <<< 8 := by
        rw [show (Int8.ofInt 8).toInt32.toInt64 &&& 63 = 8 from by decide]
      rw [e8]
      refine pgs hG rfl rfl ?_
      refine pz_lt hG (t := 45) rfl rfl (fun c => absurd c (nI_pos (by omega))) (fun _ => ?_)
      refine pgs hG rfl rfl ?_
      refine pgs hG rfl rfl ?_
      refine pg_gf hG rfl rfl hob rfl ?_
      refine pi_ge hG (t := 45) rfl rfl (fun c => ?_) (fun c => ?_)
      · refine pgs hG rfl rfl ?_
        refine tail 0 ?_
        rw [if_neg (Nat.not_lt.mpr ((nI_leI (by omega) (by omega)).mp c))]
      · have hlt : s + i < l.length := by
          rcases Nat.lt_or_ge (s + i) l.length with h | h
          · exact h
          · exact absurd ((nI_leI (by omega) (by omega)).mpr h) c
        refine pgs hG rfl rfl ?_
        refine pg_gf hG rfl rfl hob rfl ?_
        refine pgs hG rfl rfl ?_
        refine pg_ba hG rfl r2 (vp_in_nI (by omega) (by omega)) ?_
        rw [nI_clamp (by omega), hf _ hlt]
        refine pgs hG rfl rfl ?_
        refine pgs hG rfl rfl ?_
        refine pg_go hG (t := 46) rfl rfl ?_
        refine tail _ ?_
        rw [if_pos hlt]
        rfl
  exact loop w 0 (by omega)
/-- are the bytes from s up to e all there and 0 -/
def v_zer (l : List Int32) (s : Nat) : Nat → Bool
  | 0 => true
  | w + 1 => decide (v_at l s = 0) && v_zer l (s + 1) w
set_option maxRecDepth 100000 in
theorem v_By_zerosAt (base : Nat) (sa : Nat → Nat) {b d cap s w : Nat} {l : List Int32} {M : pmM} {Rt : pmR} {kc ks : Nat} (hv : vBy base M b l d cap) (hs : s + w < 2 ^ 31) (k : Rt (some (.int (if v_zer l s w then 1 else 0))) M kc ks) : kP_By_zerosAt base sa [.ref b, .int (nI s), .int (nI (s + w))] M kc ks Rt := by
  have hob := hv.ob
  refine ⟨Nat.le_of_ble_eq_true rfl, fun G hG => ?_⟩
  refine pgs hG rfl rfl ?_
  refine pgc hG rfl rfl (Nat.le_of_ble_eq_true rfl) ?_
  have loop : ∀ m i : Nat, i + m = w → v_zer l (s + i) m = v_zer l s w → G 2 [(3, .int (nI (s + i))), (0, .ref b), (1, .int (nI s)), (2, .int (nI (s + w)))] [] M kc ks := by
    intro m
    induction m with
    | zero =>
      intro i hi hz
      refine pgs hG rfl rfl ?_
      refine pgs hG rfl rfl ?_
      refine pi_ge hG (t := 23) rfl rfl (fun _ => ?_) (fun c => absurd (nI_le (show s + w ≤ s + i by omega) (by omega)) c)
      refine pgs hG rfl rfl ?_
      rw [← hz] at k
      exact pg_ri hG rfl rfl rfl k
    | succ m ih =>
      intro i hi hz
      refine pgs hG rfl rfl ?_
      refine pgs hG rfl rfl ?_
      refine pi_ge hG (t := 23) rfl rfl (fun c => absurd c (nI_ge (by omega) hs)) (fun _ => ?_)
      refine pgs hG rfl rfl ?_
      refine pgs hG rfl rfl ?_
      refine pg_cal hG 0 rfl rfl (Nat.le_of_ble_eq_true rfl) (by decide) (Nat.le_of_ble_eq_true rfl) ?_
      refine pm_rcv_of (As' := [.int (nI (s + i))]) hob (v_By_at base sa hv (by omega) ?_)
      refine pz_eq hG (t := 17) rfl rfl (fun c => ?_) (fun c => ?_)
      · refine pgc hG rfl rfl (Nat.le_of_ble_eq_true rfl) ?_
        refine pg_go hG (t := 2) rfl rfl ?_
        have h := ih (i + 1) (by omega) (by rw [← hz]; show _ = (decide (v_at l (s + i) = 0) && _); rw [decide_eq_true c]; rfl)
        rw [show nI (s + (i + 1)) = nI (s + i) + Int32.ofInt 1 from (nI_1 (s + i)).symm] at h
        exact h
      · refine pgs hG rfl rfl ?_
        have e : v_zer l s w = false := by
          rw [← hz]
          show (decide (v_at l (s + i) = 0) && _) = false
          rw [decide_eq_false c]
          rfl
        rw [e] at k
        exact pg_ri hG rfl rfl rfl k
  exact loop w 0 (by omega) rfl
