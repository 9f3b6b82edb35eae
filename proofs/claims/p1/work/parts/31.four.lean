/-! Addresses of four numbers, read. -/
theorem plain_ge {u : Nat → Nat} {f t v : Nat} (h : plain u f t = some v) : f + 1 ≤ t := by
  unfold plain at h
  split at h
  · rename_i c
    exact c.1
  · cases h
set_option maxRecDepth 100000 in
set_option maxHeartbeats 4000000 in
theorem v_Pr_parseFour (base : Nat) (sa : Nat → Nat) {b d cap f t x : Nat} {a1 a4 : Int32} {a2 a3 : Int64} {l : List Int32} {M : pmM} {Rt : pmR} {kc ks : Nat} (hv : vBy base M b l d cap) (hx : M x = some (pfx a1 a2 a3 a4)) (hbx : base ≤ x) (ht : t ≤ l.length) (hf : f ≤ t + 1)
    (k0 : four (vc l) t 4 f 0 = none → Rt (some (.int 0)) M kc ks) (k1 : ∀ v, four (vc l) t 4 f 0 = some v → Rt (some (.int 1)) (pm_up M x (pfx 4 (v <<< ((32 : Int32).toInt64 &&& 63)) 0 32)) kc ks) : kP_Pr_parseFour base sa [.ref x, .ref b, .int (nI f), .int (nI t)] M kc ks Rt := by
  have hsm := hv.small
  have e46 : (Int8.ofInt 46).toInt32 = nI 46 := by decide
  have e8 : (Int8.ofInt 8).toInt32 = 8 := by decide
  have e32 : (Int8.ofInt 32).toInt32 = 32 := by decide
  have e255 : (Int16.ofInt 255).toInt32 = nI 255 := by decide
  refine ⟨Nat.le_of_ble_eq_true rfl, fun G hG => ?_⟩
  have h89 : four (vc l) t 4 f 0 = none → ∀ L, G 89 L [] M kc ks := by
    intro hp L
    refine pgs hG rfl rfl ?_
    exact pg_ri hG rfl rfl rfl (k0 hp)
  have loop : ∀ (r i at_ : Nat) (a : Int64), i + r = 4 → at_ ≤ t + 1 → four (vc l) t r at_ a = four (vc l) t 4 f 0 → G 9 [(7, .int (nI i)), (6, .int (nI at_)), (4, .long a), (0, .ref x), (1, .ref b), (3, .int (nI t))] [] M kc ks := by
    intro r
    induction r with
    | zero =>
      intro i at_ a hi hat hp
      have hi4 : i = 4 := by omega
      subst hi4
      have hp : some a = four (vc l) t 4 f 0 := hp
      refine pgs hG rfl rfl ?_
      refine pgs hG rfl rfl ?_
      refine pi_ge hG (t := 114) rfl rfl (fun _ => ?_) (fun c => absurd (by decide) c)
      refine pgs hG rfl rfl ?_
      refine pgs hG rfl rfl ?_
      refine pgs hG rfl rfl ?_
      refine pg_cal hG 0 rfl rfl (Nat.le_of_ble_eq_true rfl) (by decide) (Nat.le_of_ble_eq_true rfl) ?_
      refine pm_rcv_of (As' := [.int 4, .int (Int8.ofInt 32).toInt32]) hx (s_Pr_setZero base sa hx hbx ?_)
      rw [e32]
      refine pgs hG rfl rfl ?_
      refine pgs hG rfl rfl ?_
      refine pgs hG rfl rfl ?_
      refine pgs hG rfl rfl ?_
      rw [e32]
      refine pg_pw hG rfl rfl hbx (Nat.le_of_ble_eq_true rfl) rfl rfl ?_
      refine pgs hG rfl rfl ?_
      exact pg_ri hG rfl rfl rfl (k1 a hp.symm)
    | succ r ih =>
      intro i at_ a hi hat hp
      have hE := fnd_le (vc l) 46 (t - at_) at_
      generalize hEe : fnd (vc l) 46 (t - at_) at_ = E at hE
      have hp : (match plain (vc l) at_ (fnd (vc l) 46 (t - at_) at_) with
        | some n => if n ≤ 255 ∧ (r = 0 ↔ fnd (vc l) 46 (t - at_) at_ = t) then four (vc l) t r (fnd (vc l) 46 (t - at_) at_ + 1) (sh8 a n) else none
        | none => none) = four (vc l) t 4 f 0 := hp
      rw [hEe] at hp
      have h42 : G 42 [(8, .int (nI E)), (7, .int (nI i)), (6, .int (nI at_)), (4, .long a), (0, .ref x), (1, .ref b), (3, .int (nI t))] [] M kc ks := by
        refine pgs hG rfl rfl ?_
        refine pgs hG rfl rfl ?_
        refine pgs hG rfl rfl ?_
        refine pg_cal hG 2 rfl rfl (Nat.le_of_ble_eq_true rfl) (by decide) (Nat.le_of_ble_eq_true rfl) ?_
        refine v_Pr_plainNumber base sa hv (by omega) (by omega) (by omega) ?_
        refine pgc hG rfl rfl (Nat.le_of_ble_eq_true rfl) ?_
        refine pgs hG rfl rfl ?_
        cases hn : plain (vc l) at_ E with
        | none =>
          rw [hn] at hp
          refine pz_lt hG (t := 89) rfl rfl (fun _ => h89 hp.symm _) (fun c => absurd (by decide) c)
        | some n =>
          rw [hn] at hp
          have hp : (if n ≤ 255 ∧ (r = 0 ↔ E = t) then four (vc l) t r (E + 1) (sh8 a n) else none) = four (vc l) t 4 f 0 := hp
          have hn1 := plain_lt hn
          have hn2 := plain_ge hn
          refine pz_lt hG (t := 89) rfl rfl (fun c => absurd c (nI_pos (by omega))) (fun _ => ?_)
          refine pgs hG rfl rfl ?_
          refine pgs hG rfl rfl ?_
          show G 62 _ [.int (Int16.ofInt 255).toInt32, .int (nI n)] M kc ks
          rw [e255]
          refine pi_gt hG (t := 89) rfl rfl (fun c => ?_) (fun c => ?_)
          · have h255 : ¬ n ≤ 255 := fun h => nI_nlt h (by omega) c
            rw [if_neg (fun h => h255 h.1)] at hp
            exact h89 hp.symm _
          · have h255 : n ≤ 255 := Nat.not_lt.mp fun h => c (nI_lt h (by omega))
            have h91 : (r = 0 ↔ E = t) → G 91 [(9, .int (nI n)), (8, .int (nI E)), (7, .int (nI i)), (6, .int (nI at_)), (4, .long a), (0, .ref x), (1, .ref b), (3, .int (nI t))] [] M kc ks := by
              intro hc
              rw [if_pos ⟨h255, hc⟩] at hp
              refine pgs hG rfl rfl ?_
              refine pgs hG rfl rfl ?_
              refine pgs hG rfl rfl ?_
              refine pgs hG rfl rfl ?_
              refine pgs hG rfl rfl ?_
              refine pgs hG rfl rfl ?_
              refine pgc hG rfl rfl (Nat.le_of_ble_eq_true rfl) ?_
              refine pgs hG rfl rfl ?_
              refine pgs hG rfl rfl ?_
              refine pgs hG rfl rfl ?_
              refine pgc hG rfl rfl (Nat.le_of_ble_eq_true rfl) ?_
              refine pgc hG rfl rfl (Nat.le_of_ble_eq_true rfl) ?_
              refine pg_go hG (t := 9) rfl rfl ?_
              have h := ih (i + 1) (E + 1) (sh8 a n) (by omega) (by omega) hp
              rw [nI_succ, nI_succ] at h
              unfold sh8 at h
              rw [← e8] at h
              exact pg_wl hG [0, 1, 2, 5, 6, 7] rfl h
            have h77 : (r ≠ 0 → E ≠ t) → G 77 [(9, .int (nI n)), (8, .int (nI E)), (7, .int (nI i)), (6, .int (nI at_)), (4, .long a), (0, .ref x), (1, .ref b), (3, .int (nI t))] [] M kc ks := by
              intro hc
              refine pgs hG rfl rfl ?_
              refine pgs hG rfl rfl ?_
              refine pi_ne hG (t := 91) rfl rfl (fun c3 => ?_) (fun c3 => ?_)
              · have hi3 : i ≠ 3 := fun h => c3 (by rw [h]; rfl)
                exact h91 ⟨fun h => by omega, fun h => absurd h (hc (by omega))⟩
              · have hi3 : i = 3 := (nI_eq (b := 3) (by omega) (by omega)).mp c3
                refine pgs hG rfl rfl ?_
                refine pgs hG rfl rfl ?_
                refine pi_ge hG (t := 91) rfl rfl (fun c4 => ?_) (fun c4 => ?_)
                · have hEt : t ≤ E := Nat.not_lt.mp fun h => nI_ge h (by omega) c4
                  have hEt2 : E = t := by omega
                  exact h91 ⟨fun _ => hEt2, fun _ => by omega⟩
                · have hEt : E ≠ t := fun h => c4 (by rw [h]; exact nI_le (Nat.le_refl _) (by omega))
                  rw [if_neg (fun h => hEt (h.2.mp (by omega)))] at hp
                  exact h89 hp.symm _
            refine pgs hG rfl rfl ?_
            refine pgs hG rfl rfl ?_
            refine pi_ge hG (t := 77) rfl rfl (fun c2 => ?_) (fun c2 => ?_)
            · have hi3 : 3 ≤ i := Nat.not_lt.mp fun h => nI_ge (b := 3) h (by omega) c2
              exact h77 (fun h => by omega)
            · have hi3 : i < 3 := Nat.not_le.mp fun h => c2 (nI_le (a := 3) h (by omega))
              refine pgs hG rfl rfl ?_
              refine pgs hG rfl rfl ?_
              refine pi_eq hG (t := 89) rfl rfl (fun c4 => ?_) (fun c4 => ?_)
              · have hEt : E = t := (nI_eq (by omega) (by omega)).mp c4
                rw [if_neg (fun h => by have := h.2.mpr hEt; omega)] at hp
                exact h89 hp.symm _
              · exact h77 (fun _ h => c4 (by rw [h]))
      have inner : ∀ (q e : Nat), (e + q = t ∨ (q = 0 ∧ t ≤ e)) → fnd (vc l) 46 q e = E → e ≤ t + 1 → G 19 [(8, .int (nI e)), (7, .int (nI i)), (6, .int (nI at_)), (4, .long a), (0, .ref x), (1, .ref b), (3, .int (nI t))] [] M kc ks := by
        intro q
        induction q with
        | zero =>
          intro e he hfe hle
          have hfe : e = E := hfe
          refine pgs hG rfl rfl ?_
          refine pgs hG rfl rfl ?_
          refine pi_ge hG (t := 42) rfl rfl (fun _ => ?_) (fun c => absurd (nI_le (by omega) (by omega)) c)
          rw [hfe]
          exact h42
        | succ q ihq =>
          intro e he hfe hle
          have hfe : (if vc l e = 46 then e else fnd (vc l) 46 q (e + 1)) = E := hfe
          have hvl := vc_lt l e
          refine pgs hG rfl rfl ?_
          refine pgs hG rfl rfl ?_
          refine pi_ge hG (t := 42) rfl rfl (fun c => absurd c (nI_ge (by omega) (by omega))) (fun _ => ?_)
          refine pgs hG rfl rfl ?_
          refine pgs hG rfl rfl ?_
          refine pg_cal hG 0 rfl rfl (Nat.le_of_ble_eq_true rfl) (by decide) (Nat.le_of_ble_eq_true rfl) ?_
          refine pm_rcv_of (As' := [.int (nI e)]) hv.ob (v_By_at base sa hv (by omega) ?_)
          rw [v_at_vc (by omega)]
          refine pgs hG rfl rfl ?_
          rw [e46]
          refine pi_eq hG (t := 42) rfl rfl (fun c => ?_) (fun c => ?_)
          · have h46 : vc l e = 46 := (nI_eq (by omega) (by omega)).mp c
            rw [if_pos h46] at hfe
            rw [hfe]
            exact h42
          · rw [if_neg (fun h => c (by rw [h]))] at hfe
            refine pgc hG rfl rfl (Nat.le_of_ble_eq_true rfl) ?_
            refine pg_go hG (t := 19) rfl rfl ?_
            have h := ihq (e + 1) (by omega) hfe (by omega)
            rw [nI_succ] at h
            exact h
      refine pgs hG rfl rfl ?_
      refine pgs hG rfl rfl ?_
      refine pi_ge hG (t := 114) rfl rfl (fun c => absurd c (nI_ge (b := 4) (by omega) (by omega))) (fun _ => ?_)
      refine pgs hG rfl rfl ?_
      refine pgc hG rfl rfl (Nat.le_of_ble_eq_true rfl) ?_
      exact inner (t - at_) at_ (by omega) hEe hat
  refine pgs hG rfl rfl ?_
  refine pgc hG rfl rfl (Nat.le_of_ble_eq_true rfl) ?_
  refine pgs hG rfl rfl ?_
  refine pgc hG rfl rfl (Nat.le_of_ble_eq_true rfl) ?_
  refine pgs hG rfl rfl ?_
  refine pgc hG rfl rfl (Nat.le_of_ble_eq_true rfl) ?_
  exact pg_wl hG [0, 1, 2, 3, 4, 6] rfl (loop 4 0 f 0 rfl hf rfl)
