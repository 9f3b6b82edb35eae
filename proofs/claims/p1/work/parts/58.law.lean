/-! The law's loop, over any invariant that the calls keep. -/
theorem pm_ins_mono {cl : List vw_C} {base : Nat} {X : pmX} {R1 R2 : pmR} {K : pmK} {ins : Instr} {pc : Nat} {L : pmL} {st : List Value} {M : pmM} {kc ks : Nat} (hR : ∀ v M kc ks, R1 v M kc ks → R2 v M kc ks) (h : pm_ins cl base X R1 K ins pc L st M kc ks) : pm_ins cl base X R2 K ins pc L st M kc ks := by
  cases ins with
  | ireturn =>
    obtain ⟨x, ty, h1, h2, h3, h4⟩ := h
    exact ⟨x, ty, h1, h2, h3, hR _ _ _ _ h4⟩
  | lreturn =>
    obtain ⟨x, h1, h2, h3⟩ := h
    exact ⟨x, h1, h2, hR _ _ _ _ h3⟩
  | areturn =>
    obtain ⟨q, ty, h1, h2, h3, h4⟩ := h
    exact ⟨q, ty, h1, h2, h3, hR _ _ _ _ h4⟩
  | return_ =>
    obtain ⟨h1, h2, h3⟩ := h
    exact ⟨h1, h2, hR _ _ _ _ h3⟩
  | _ => exact h
theorem pm_mt_mono {cl : List vw_C} {base : Nat} {X : pmX} {R1 R2 : pmR} {As : List Value} {M : pmM} {kc ks : Nat} (h : pm_mt cl base X As M kc ks R1) (hR : ∀ v M kc ks, R1 v M kc ks → R2 v M kc ks) : pm_mt cl base X As M kc ks R2 :=
  ⟨h.1, fun G hG => h.2 G ⟨fun pc L st M kc ks ins hc hi => hG.1 pc L st M kc ks ins hc (pm_ins_mono hR hi), hG.2⟩⟩
theorem pm_rcv_mono {ci : Nat} {cl : List vw_C} {base : Nat} {X : pmX} {R1 R2 : pmR} {As : List Value} {M : pmM} {kc ks : Nat} (h : pm_rcv ci (pm_mt cl base X) As M kc ks R1) (hR : ∀ v M kc ks, R1 v M kc ks → R2 v M kc ks) : pm_rcv ci (pm_mt cl base X) As M kc ks R2 := by
  obtain ⟨b, As', fs, h1, h2, h3⟩ := h
  exact ⟨b, As', fs, h1, h2, pm_mt_mono h3 hR⟩
theorem kT_La_mono {base : Nat} {sa : Nat → Nat} {R1 R2 : pmR} {As : List Value} {M : pmM} {kc ks : Nat} (h : kT_La_textAt base sa As M kc ks R1) (hR : ∀ v M kc ks, R1 v M kc ks → R2 v M kc ks) : kT_La_textAt base sa As M kc ks R2 := by
  rcases h with h | ⟨x, o, tx, i, n, fs, gs, h1, h2, h3, h4, h5, h6, h7, h8, h9⟩
  · exact Or.inl (pm_mt_mono h hR)
  · exact Or.inr ⟨x, o, tx, i, n, fs, gs, h1, h2, h3, h4, h5, h6, h7, h8, hR _ _ _ _ h9⟩
section TsRows
variable {cl : List vw_C} {base : Nat} {X : pmX} {Rt : pmR} {G : pmK} {pc : Nat} {L : pmL} {st : List Value} {M : pmM} {kc ks : Nat}
theorem pg_ts (hG : pm_cl cl base X Rt G) {d lo hi : Int} {offs : Array Int} {x : Int32} {off : Int} {t : Nat} (hc : X.code pc = some (.tableswitch d lo hi offs)) (h1 : ¬ x.toInt < lo) (h2 : ¬ hi < x.toInt) (ho : offs[(x.toInt - lo).toNat]? = some off) (hj : ((pc : Int) + off = (t : Int))) (h : G t L st M kc ks) : G pc L (.int x :: st) M kc ks := by
  have e : pm_tgt pc off = t := by unfold pm_tgt; rw [hj]; rfl
  refine hG.1 _ _ _ _ _ _ _ hc ⟨fun q => ?_, fun _ _ => ?_⟩
  · rcases q with q | q
    · exact absurd q h1
    · exact absurd q h2
  · rw [ho]
    refine ⟨?_, ?_⟩
    · unfold pm_jok; rw [hj]; omega
    · rw [e]; exact h
theorem pg_td (hG : pm_cl cl base X Rt G) {d lo hi : Int} {offs : Array Int} {x : Int32} {t : Nat} (hc : X.code pc = some (.tableswitch d lo hi offs)) (h1 : x.toInt < lo ∨ hi < x.toInt) (hj : ((pc : Int) + d = (t : Int))) (h : G t L st M kc ks) : G pc L (.int x :: st) M kc ks := by
  have e : pm_tgt pc d = t := by unfold pm_tgt; rw [hj]; rfl
  refine hG.1 _ _ _ _ _ _ _ hc ⟨fun q => ⟨?_, ?_⟩, fun z1 z2 => ?_⟩
  · unfold pm_jok; rw [hj]; omega
  · rw [e]; exact h
  · rcases h1 with q | q
    · exact absurd q z1
    · exact absurd q z2
end TsRows
/-- a call of the class and the model's: the same answer; the invariant of one call less -/
def lw2 (Inv : Nat → pmM → Nat → Nat → Prop) (b L : Nat) (xs : Nat → Int32) (T1 T2 : pmT) (A1 A2 : List Value) : Prop := ∀ (n : Nat) (M : pmM) (kc ks : Nat), Inv (n + 1) M kc ks → T1 A1 M kc ks fun v M1 kc1 ks1 => M1 b = some (.inl (.int, L, .inl xs)) ∧ ∃ r : Int32, v = some (.int r) ∧ T2 A2 M1 kc1 ks1 fun v2 M2 kc2 ks2 => v2 = some (.int r) ∧ Inv n M2 kc2 ks2
def lwT (base : Nat) (sa : Nat → Nat) (Inv : Nat → pmM → Nat → Nat → Prop) (b L : Nat) (xs : Nat → Int32) (x m o : Nat) (i : Int32) : Prop := ∀ (n : Nat) (M : pmM) (kc ks : Nat), Inv (n + 1) M kc ks → kT_La_textAt base sa [.ref x, .int i, .ref o] M kc ks fun v M1 kc1 ks1 => M1 b = some (.inl (.int, L, .inl xs)) ∧ ∃ k : Int32, v = some (.int k) ∧ pm_rcv 12 (kP_Mo_textAt base sa) [.ref m, .int i] M1 kc1 ks1 fun v2 M2 kc2 ks2 => ∃ r : Int32, v2 = some (.int r) ∧ pm_rcv 12 (kP_Mo_thrown base sa) [.ref m] M2 kc2 ks2 fun v3 M3 kc3 ks3 => v3 = some (.int k) ∧ Inv n M3 kc3 ks3 ∧ (k = 0 → ∃ f : Nat → Int64, M3 o = some (.inl (.long, 1, .inr (.inl f))) ∧ f 0 = r.toInt64)
theorem lw_in {j L k : Nat} (h : 6 * j + 6 ≤ L) (hL : L ≤ 3072) (hk : k < 6) : vp_in (nI (6 * j) + nI k) L := by
  rw [nI_add]
  exact vp_in_nI (by omega) (by omega)
theorem lw_sub {L : Nat} (hL : L ≤ 3072) : (nI L - (Int8.ofInt 6).toInt32).toInt = (L : Int) - 6 := by
  rw [show (Int8.ofInt 6).toInt32 = nI 6 from rfl, pk_sub_toInt (by omega) (by omega)]
  rfl
theorem lcmp_self (x : Int64) : lg_cmp x x = 0 := by
  unfold lg_cmp
  simp
set_option maxRecDepth 100000 in
set_option maxHeartbeats 8000000 in
theorem law_loop (base : Nat) (sa : Nat → Nat) {x m o b L : Nat} {xs : Nat → Int32} {Inv : Nat → pmM → Nat → Nat → Prop} {Rt : pmR} (hL : L ≤ 3072) (hS : ∀ n M kc ks, Inv n M kc ks → M b = some (.inl (.int, L, .inl xs))) (hdrop : ∀ n M kc ks, Inv (n + 1) M kc ks → Inv n M kc ks)
    (ob0 : ∀ y0 y1 y2 y3 y4 : Int32, lw2 Inv b L xs (pm_rcv 11 (kP_Rf_feed base sa)) (pm_rcv 12 (kP_Mo_feed base sa)) [.ref x, .int y0, .int y1, .int y2, .int y3, .int y4] [.ref m, .int y0, .int y1, .int y2, .int y3, .int y4])
    (ob1 : ∀ y0 : Int32, lw2 Inv b L xs (pm_rcv 11 (kP_Rf_end base sa)) (pm_rcv 12 (kP_Mo_end base sa)) [.ref x, .int y0] [.ref m, .int y0])
    (ob2 : lw2 Inv b L xs (pm_rcv 11 (kP_Rf_read base sa)) (pm_rcv 12 (kP_Mo_read base sa)) [.ref x] [.ref m])
    (ob3 : lw2 Inv b L xs (pm_rcv 11 (kP_Rf_fault base sa)) (pm_rcv 12 (kP_Mo_fault base sa)) [.ref x] [.ref m])
    (ob4 : ∀ y0 : Int32, lw2 Inv b L xs (pm_rcv 11 (kP_Rf_ticks base sa)) (pm_rcv 12 (kP_Mo_ticks base sa)) [.ref x, .int y0] [.ref m, .int y0])
    (ob5 : ∀ y0 y1 : Int32, (y1 = 0 ∨ y1 = 1) → lw2 Inv b L xs (pm_rcv 11 (kP_Rf_link base sa)) (pm_rcv 12 (kP_Mo_link base sa)) [.ref x, .int y0, .int y1] [.ref m, .int y0, .int y1])
    (ob6 : ∀ y0 y1 : Int32, lw2 Inv b L xs (pm_rcv 11 (kP_Rf_lose base sa)) (pm_rcv 12 (kP_Mo_lose base sa)) [.ref x, .int y0, .int y1] [.ref m, .int y0, .int y1])
    (ob7 : ∀ y0 y1 : Int32, (y1 = 0 ∨ y1 = 1) → lw2 Inv b L xs (pm_rcv 11 (kP_Rf_run base sa)) (pm_rcv 12 (kP_Mo_run base sa)) [.ref x, .int y0, .int y1] [.ref m, .int y0, .int y1])
    (ob8 : ∀ y0 y1 y2 y3 : Int32, lw2 Inv b L xs (pm_rcv 11 (kP_Rf_put base sa)) (pm_rcv 12 (kP_Mo_put base sa)) [.ref x, .int y0, .int y1, .int y2, .int y3] [.ref m, .int y0, .int y1, .int y2, .int y3])
    (ob9 : ∀ y0 y1 : Int32, lw2 Inv b L xs (pm_rcv 11 (kP_Rf_show base sa)) (pm_rcv 12 (kP_Mo_show base sa)) [.ref x, .int y0, .int y1] [.ref m, .int y0, .int y1])
    (ob10 : lw2 Inv b L xs (pm_rcv 11 (kP_Rf_config base sa)) (pm_rcv 12 (kP_Mo_config base sa)) [.ref x] [.ref m])
    (ob11 : ∀ y0 : Int32, lw2 Inv b L xs (pm_rcv 11 (kP_Rf_oracle base sa)) (pm_rcv 12 (kP_Mo_oracle base sa)) [.ref x, .int y0] [.ref m, .int y0])
    (ob12 : ∀ y0 : Int32, lw2 Inv b L xs (pm_rcv 11 (kP_Rf_way base sa)) (pm_rcv 12 (kP_Mo_way base sa)) [.ref x, .int y0] [.ref m, .int y0])
    (ob13 : ∀ y0 : Int32, lw2 Inv b L xs (pm_rcv 11 (kP_Rf_seen base sa)) (pm_rcv 12 (kP_Mo_seen base sa)) [.ref x, .int y0] [.ref m, .int y0])
    (ob14 : ∀ i : Int32, lwT base sa Inv b L xs x m o i)
    (ob15 : ∀ y0 y1 : Int32, lw2 Inv b L xs (pm_rcv 11 (kP_Rf_count base sa)) (pm_rcv 12 (kP_Mo_count base sa)) [.ref x, .int y0, .int y1] [.ref m, .int y0, .int y1])
    (ob16 : ∀ y0 : Int32, lw2 Inv b L xs (pm_rcv 11 (kP_Rf_routes base sa)) (pm_rcv 12 (kP_Mo_routes base sa)) [.ref x, .int y0] [.ref m, .int y0])
    (ob17 : lw2 Inv b L xs (pm_rcv 11 (kP_Rf_flying base sa)) (pm_rcv 12 (kP_Mo_flying base sa)) [.ref x] [.ref m])
    (ob18 : lw2 Inv b L xs (pm_rcv 11 (kP_Rf_now base sa)) (pm_rcv 12 (kP_Mo_now base sa)) [.ref x] [.ref m])
    (hRt : ∀ n M kc ks, Inv n M kc ks → Rt (some (.int 1)) M kc ks) {G : pmK} (hG : pm_cl kcl base (kX_La_law base sa) Rt G) : ∀ (n j : Nat) (M : pmM) (kc ks : Nat), Inv n M kc ks → L < 6 * j + 6 * n + 6 → 6 * j < L + 6 → G 23 [(4, .int (nI (6 * j))), (3, .ref o), (2, .ref m), (1, .ref x), (0, .ref b)] [] M kc ks := by
  intro n
  induction n with
  | zero =>
    intro j M kc ks hI h1 h2
    have hb := hS _ _ _ _ hI
    refine pgs hG rfl rfl ?_
    refine pgs hG rfl rfl ?_
    refine pg_al hG rfl hb ?_
    refine pgs hG rfl rfl ?_
    refine pgs hG rfl rfl ?_
    refine pi_gt hG (t := 760) rfl rfl (fun c => ?_) (fun c => ?_)
    · refine pgs hG rfl rfl ?_
      exact pg_ri hG rfl rfl rfl (hRt _ _ _ _ hI)
    · exfalso
      rw [Int32.lt_iff_toInt_lt, lw_sub hL, nI_toInt (by omega)] at c
      omega
  | succ n ih =>
    intro j M kc ks hI h1 h2
    have hb := hS _ _ _ _ hI
    have hnext : ∀ (M : pmM) (kc ks : Nat), Inv n M kc ks → 6 * j + 6 ≤ L → G 754 [(4, .int (nI (6 * j))), (3, .ref o), (2, .ref m), (1, .ref x), (0, .ref b)] [] M kc ks := by
      intro M kc ks hI h3
      have e : nI (6 * j) + Int32.ofInt 6 = nI (6 * (j + 1)) := by
        rw [show Int32.ofInt 6 = nI 6 from rfl, nI_add]
        exact congrArg nI (by omega)
      have h4 := ih (j + 1) M kc ks hI (by omega) (by omega)
      rw [← e] at h4
      refine pgc hG rfl rfl (Nat.le_of_ble_eq_true rfl) ?_
      exact pg_go hG (t := 23) rfl rfl h4
    · refine pgs hG rfl rfl ?_
      refine pgs hG rfl rfl ?_
      refine pg_al hG rfl hb ?_
      refine pgs hG rfl rfl ?_
      refine pgs hG rfl rfl ?_
      refine pi_gt hG (t := 760) rfl rfl (fun c => ?_) (fun c => ?_)
      · refine pgs hG rfl rfl ?_
        exact pg_ri hG rfl rfl rfl (hRt _ _ _ _ hI)
      · rw [Int32.lt_iff_toInt_lt, lw_sub hL, nI_toInt (by omega)] at c
        have h3 : 6 * j + 6 ≤ L := by omega
        have i0 : vp_in (nI (6 * j)) L := vp_in_nI (by omega) (by omega)
        have i1 : vp_in (nI (6 * j) + Int32.ofInt 1) L := lw_in (k := 1) h3 hL (by omega)
        have i2 : vp_in (nI (6 * j) + Int32.ofInt 2) L := lw_in (k := 2) h3 hL (by omega)
        have i3 : vp_in (nI (6 * j) + Int32.ofInt 3) L := lw_in (k := 3) h3 hL (by omega)
        have i4 : vp_in (nI (6 * j) + Int32.ofInt 4) L := lw_in (k := 4) h3 hL (by omega)
        have i5 : vp_in (nI (6 * j) + Int32.ofInt 5) L := lw_in (k := 5) h3 hL (by omega)
        refine pgs hG rfl rfl ?_
        refine pgs hG rfl rfl ?_
        refine pg_ia hG rfl hb i0 ?_
        refine pgs hG rfl rfl ?_
        refine pgs hG rfl rfl ?_
        generalize hv : xs (nI (6 * j)).toNatClampNeg &&& (Int8.ofInt 31).toInt32 = v
        have hc : v.toInt = 0 ∨ v.toInt = 1 ∨ v.toInt = 2 ∨ v.toInt = 3 ∨ v.toInt = 4 ∨ v.toInt = 5 ∨ v.toInt = 6 ∨ v.toInt = 7 ∨ v.toInt = 8 ∨ v.toInt = 9 ∨ v.toInt = 10 ∨ v.toInt = 11 ∨ v.toInt = 12 ∨ v.toInt = 13 ∨ v.toInt = 14 ∨ v.toInt = 15 ∨ v.toInt = 16 ∨ v.toInt = 17 ∨ v.toInt = 18 ∨ (v.toInt < 0 ∨ 18 < v.toInt) := by omega
        rcases hc with hc | hc | hc | hc | hc | hc | hc | hc | hc | hc | hc | hc | hc | hc | hc | hc | hc | hc | hc | hc
        · refine pg_ts hG (off := 92) (t := 132) rfl (by rw [hc]; decide) (by rw [hc]; decide) (by rw [hc]; rfl) rfl ?_
          repeat (first | refine pgs hG rfl rfl ?_ | refine pgc hG rfl rfl (Nat.le_of_ble_eq_true rfl) ?_)
          refine pg_ia hG rfl hb i1 ?_
          repeat (first | refine pgs hG rfl rfl ?_ | refine pgc hG rfl rfl (Nat.le_of_ble_eq_true rfl) ?_)
          refine pg_ia hG rfl hb i2 ?_
          repeat (first | refine pgs hG rfl rfl ?_ | refine pgc hG rfl rfl (Nat.le_of_ble_eq_true rfl) ?_)
          refine pg_ia hG rfl hb i3 ?_
          repeat (first | refine pgs hG rfl rfl ?_ | refine pgc hG rfl rfl (Nat.le_of_ble_eq_true rfl) ?_)
          refine pg_ia hG rfl hb i4 ?_
          repeat (first | refine pgs hG rfl rfl ?_ | refine pgc hG rfl rfl (Nat.le_of_ble_eq_true rfl) ?_)
          refine pg_ia hG rfl hb i5 ?_
          repeat (first | refine pgs hG rfl rfl ?_ | refine pgc hG rfl rfl (Nat.le_of_ble_eq_true rfl) ?_)
          refine pg_cal hG 0 rfl rfl (Nat.le_of_ble_eq_true rfl) (by decide) (Nat.le_of_ble_eq_true rfl) ?_
          refine pm_rcv_mono (ob0 _ _ _ _ _ n M kc ks hI) ?_
          rintro v1 M1 kc1 ks1 ⟨hb1, r, rfl, hr⟩
          repeat (first | refine pgs hG rfl rfl ?_ | refine pgc hG rfl rfl (Nat.le_of_ble_eq_true rfl) ?_)
          refine pg_ia hG rfl hb1 i1 ?_
          repeat (first | refine pgs hG rfl rfl ?_ | refine pgc hG rfl rfl (Nat.le_of_ble_eq_true rfl) ?_)
          refine pg_ia hG rfl hb1 i2 ?_
          repeat (first | refine pgs hG rfl rfl ?_ | refine pgc hG rfl rfl (Nat.le_of_ble_eq_true rfl) ?_)
          refine pg_ia hG rfl hb1 i3 ?_
          repeat (first | refine pgs hG rfl rfl ?_ | refine pgc hG rfl rfl (Nat.le_of_ble_eq_true rfl) ?_)
          refine pg_ia hG rfl hb1 i4 ?_
          repeat (first | refine pgs hG rfl rfl ?_ | refine pgc hG rfl rfl (Nat.le_of_ble_eq_true rfl) ?_)
          refine pg_ia hG rfl hb1 i5 ?_
          repeat (first | refine pgs hG rfl rfl ?_ | refine pgc hG rfl rfl (Nat.le_of_ble_eq_true rfl) ?_)
          refine pg_cal hG 0 rfl rfl (Nat.le_of_ble_eq_true rfl) (by decide) (Nat.le_of_ble_eq_true rfl) ?_
          refine pm_rcv_mono hr ?_
          rintro v2 M2 kc2 ks2 ⟨rfl, hI2⟩
          refine pi_eq hG (t := 754) rfl rfl (fun _ => ?_) (fun c => absurd rfl c)
          exact hnext _ _ _ hI2 h3
        · refine pg_ts hG (off := 165) (t := 205) rfl (by rw [hc]; decide) (by rw [hc]; decide) (by rw [hc]; rfl) rfl ?_
          repeat (first | refine pgs hG rfl rfl ?_ | refine pgc hG rfl rfl (Nat.le_of_ble_eq_true rfl) ?_)
          refine pg_ia hG rfl hb i1 ?_
          repeat (first | refine pgs hG rfl rfl ?_ | refine pgc hG rfl rfl (Nat.le_of_ble_eq_true rfl) ?_)
          refine pg_cal hG 0 rfl rfl (Nat.le_of_ble_eq_true rfl) (by decide) (Nat.le_of_ble_eq_true rfl) ?_
          refine pm_rcv_mono (ob1 _ n M kc ks hI) ?_
          rintro v1 M1 kc1 ks1 ⟨hb1, r, rfl, hr⟩
          repeat (first | refine pgs hG rfl rfl ?_ | refine pgc hG rfl rfl (Nat.le_of_ble_eq_true rfl) ?_)
          refine pg_ia hG rfl hb1 i1 ?_
          repeat (first | refine pgs hG rfl rfl ?_ | refine pgc hG rfl rfl (Nat.le_of_ble_eq_true rfl) ?_)
          refine pg_cal hG 0 rfl rfl (Nat.le_of_ble_eq_true rfl) (by decide) (Nat.le_of_ble_eq_true rfl) ?_
          refine pm_rcv_mono hr ?_
          rintro v2 M2 kc2 ks2 ⟨rfl, hI2⟩
          refine pi_eq hG (t := 754) rfl rfl (fun _ => ?_) (fun c => absurd rfl c)
          exact hnext _ _ _ hI2 h3
        · refine pg_ts hG (off := 190) (t := 230) rfl (by rw [hc]; decide) (by rw [hc]; decide) (by rw [hc]; rfl) rfl ?_
          repeat (first | refine pgs hG rfl rfl ?_ | refine pgc hG rfl rfl (Nat.le_of_ble_eq_true rfl) ?_)
          refine pg_cal hG 0 rfl rfl (Nat.le_of_ble_eq_true rfl) (by decide) (Nat.le_of_ble_eq_true rfl) ?_
          refine pm_rcv_mono (ob2 n M kc ks hI) ?_
          rintro v1 M1 kc1 ks1 ⟨hb1, r, rfl, hr⟩
          repeat (first | refine pgs hG rfl rfl ?_ | refine pgc hG rfl rfl (Nat.le_of_ble_eq_true rfl) ?_)
          refine pg_cal hG 0 rfl rfl (Nat.le_of_ble_eq_true rfl) (by decide) (Nat.le_of_ble_eq_true rfl) ?_
          refine pm_rcv_mono hr ?_
          rintro v2 M2 kc2 ks2 ⟨rfl, hI2⟩
          refine pi_eq hG (t := 754) rfl rfl (fun _ => ?_) (fun c => absurd rfl c)
          exact hnext _ _ _ hI2 h3
        · refine pg_ts hG (off := 203) (t := 243) rfl (by rw [hc]; decide) (by rw [hc]; decide) (by rw [hc]; rfl) rfl ?_
          repeat (first | refine pgs hG rfl rfl ?_ | refine pgc hG rfl rfl (Nat.le_of_ble_eq_true rfl) ?_)
          refine pg_cal hG 0 rfl rfl (Nat.le_of_ble_eq_true rfl) (by decide) (Nat.le_of_ble_eq_true rfl) ?_
          refine pm_rcv_mono (ob3 n M kc ks hI) ?_
          rintro v1 M1 kc1 ks1 ⟨hb1, r, rfl, hr⟩
          repeat (first | refine pgs hG rfl rfl ?_ | refine pgc hG rfl rfl (Nat.le_of_ble_eq_true rfl) ?_)
          refine pg_cal hG 0 rfl rfl (Nat.le_of_ble_eq_true rfl) (by decide) (Nat.le_of_ble_eq_true rfl) ?_
          refine pm_rcv_mono hr ?_
          rintro v2 M2 kc2 ks2 ⟨rfl, hI2⟩
          refine pi_eq hG (t := 754) rfl rfl (fun _ => ?_) (fun c => absurd rfl c)
          exact hnext _ _ _ hI2 h3
        · refine pg_ts hG (off := 216) (t := 256) rfl (by rw [hc]; decide) (by rw [hc]; decide) (by rw [hc]; rfl) rfl ?_
          repeat (first | refine pgs hG rfl rfl ?_ | refine pgc hG rfl rfl (Nat.le_of_ble_eq_true rfl) ?_)
          refine pg_ia hG rfl hb i1 ?_
          repeat (first | refine pgs hG rfl rfl ?_ | refine pgc hG rfl rfl (Nat.le_of_ble_eq_true rfl) ?_)
          refine pg_cal hG 0 rfl rfl (Nat.le_of_ble_eq_true rfl) (by decide) (Nat.le_of_ble_eq_true rfl) ?_
          refine pm_rcv_mono (ob4 _ n M kc ks hI) ?_
          rintro v1 M1 kc1 ks1 ⟨hb1, r, rfl, hr⟩
          repeat (first | refine pgs hG rfl rfl ?_ | refine pgc hG rfl rfl (Nat.le_of_ble_eq_true rfl) ?_)
          refine pg_ia hG rfl hb1 i1 ?_
          repeat (first | refine pgs hG rfl rfl ?_ | refine pgc hG rfl rfl (Nat.le_of_ble_eq_true rfl) ?_)
          refine pg_cal hG 0 rfl rfl (Nat.le_of_ble_eq_true rfl) (by decide) (Nat.le_of_ble_eq_true rfl) ?_
          refine pm_rcv_mono hr ?_
          rintro v2 M2 kc2 ks2 ⟨rfl, hI2⟩
          refine pi_eq hG (t := 754) rfl rfl (fun _ => ?_) (fun c => absurd rfl c)
          exact hnext _ _ _ hI2 h3
        · refine pg_ts hG (off := 241) (t := 281) rfl (by rw [hc]; decide) (by rw [hc]; decide) (by rw [hc]; rfl) rfl ?_
          repeat (first | refine pgs hG rfl rfl ?_ | refine pgc hG rfl rfl (Nat.le_of_ble_eq_true rfl) ?_)
          refine pg_ia hG rfl hb i1 ?_
          repeat (first | refine pgs hG rfl rfl ?_ | refine pgc hG rfl rfl (Nat.le_of_ble_eq_true rfl) ?_)
          refine pg_ia hG rfl hb i2 ?_
          refine pz_eq hG (t := 301) rfl rfl (fun cz => ?_) (fun cz => ?_)
          · repeat (first | refine pgs hG rfl rfl ?_ | refine pgc hG rfl rfl (Nat.le_of_ble_eq_true rfl) ?_)
            refine pg_cal hG 0 rfl rfl (Nat.le_of_ble_eq_true rfl) (by decide) (Nat.le_of_ble_eq_true rfl) ?_
            refine pm_rcv_mono (ob5 _ 0 (by decide) n M kc ks hI) ?_
            rintro v1 M1 kc1 ks1 ⟨hb1, r, rfl, hr⟩
            repeat (first | refine pgs hG rfl rfl ?_ | refine pgc hG rfl rfl (Nat.le_of_ble_eq_true rfl) ?_)
            refine pg_ia hG rfl hb1 i1 ?_
            repeat (first | refine pgs hG rfl rfl ?_ | refine pgc hG rfl rfl (Nat.le_of_ble_eq_true rfl) ?_)
            refine pg_ia hG rfl hb1 i2 ?_
            refine pz_eq hG (t := 325) rfl rfl (fun _ => ?_) (fun c => absurd cz c)
            repeat (first | refine pgs hG rfl rfl ?_ | refine pgc hG rfl rfl (Nat.le_of_ble_eq_true rfl) ?_)
            refine pg_cal hG 0 rfl rfl (Nat.le_of_ble_eq_true rfl) (by decide) (Nat.le_of_ble_eq_true rfl) ?_
            refine pm_rcv_mono hr ?_
            rintro v2 M2 kc2 ks2 ⟨rfl, hI2⟩
            refine pi_eq hG (t := 754) rfl rfl (fun _ => ?_) (fun c => absurd rfl c)
            exact hnext _ _ _ hI2 h3
          · repeat (first | refine pgs hG rfl rfl ?_ | refine pgc hG rfl rfl (Nat.le_of_ble_eq_true rfl) ?_)
            refine pg_go hG (t := 302) rfl rfl ?_
            refine pg_cal hG 0 rfl rfl (Nat.le_of_ble_eq_true rfl) (by decide) (Nat.le_of_ble_eq_true rfl) ?_
            refine pm_rcv_mono (ob5 _ 1 (by decide) n M kc ks hI) ?_
            rintro v1 M1 kc1 ks1 ⟨hb1, r, rfl, hr⟩
            repeat (first | refine pgs hG rfl rfl ?_ | refine pgc hG rfl rfl (Nat.le_of_ble_eq_true rfl) ?_)
            refine pg_ia hG rfl hb1 i1 ?_
            repeat (first | refine pgs hG rfl rfl ?_ | refine pgc hG rfl rfl (Nat.le_of_ble_eq_true rfl) ?_)
            refine pg_ia hG rfl hb1 i2 ?_
            refine pz_eq hG (t := 325) rfl rfl (fun c => absurd c cz) (fun _ => ?_)
            repeat (first | refine pgs hG rfl rfl ?_ | refine pgc hG rfl rfl (Nat.le_of_ble_eq_true rfl) ?_)
            refine pg_go hG (t := 326) rfl rfl ?_
            refine pg_cal hG 0 rfl rfl (Nat.le_of_ble_eq_true rfl) (by decide) (Nat.le_of_ble_eq_true rfl) ?_
            refine pm_rcv_mono hr ?_
            rintro v2 M2 kc2 ks2 ⟨rfl, hI2⟩
            refine pi_eq hG (t := 754) rfl rfl (fun _ => ?_) (fun c => absurd rfl c)
            exact hnext _ _ _ hI2 h3
        · refine pg_ts hG (off := 294) (t := 334) rfl (by rw [hc]; decide) (by rw [hc]; decide) (by rw [hc]; rfl) rfl ?_
          repeat (first | refine pgs hG rfl rfl ?_ | refine pgc hG rfl rfl (Nat.le_of_ble_eq_true rfl) ?_)
          refine pg_ia hG rfl hb i1 ?_
          repeat (first | refine pgs hG rfl rfl ?_ | refine pgc hG rfl rfl (Nat.le_of_ble_eq_true rfl) ?_)
          refine pg_ia hG rfl hb i2 ?_
          repeat (first | refine pgs hG rfl rfl ?_ | refine pgc hG rfl rfl (Nat.le_of_ble_eq_true rfl) ?_)
          refine pg_cal hG 0 rfl rfl (Nat.le_of_ble_eq_true rfl) (by decide) (Nat.le_of_ble_eq_true rfl) ?_
          refine pm_rcv_mono (ob6 _ _ n M kc ks hI) ?_
          rintro v1 M1 kc1 ks1 ⟨hb1, r, rfl, hr⟩
          repeat (first | refine pgs hG rfl rfl ?_ | refine pgc hG rfl rfl (Nat.le_of_ble_eq_true rfl) ?_)
          refine pg_ia hG rfl hb1 i1 ?_
          repeat (first | refine pgs hG rfl rfl ?_ | refine pgc hG rfl rfl (Nat.le_of_ble_eq_true rfl) ?_)
          refine pg_ia hG rfl hb1 i2 ?_
          repeat (first | refine pgs hG rfl rfl ?_ | refine pgc hG rfl rfl (Nat.le_of_ble_eq_true rfl) ?_)
          refine pg_cal hG 0 rfl rfl (Nat.le_of_ble_eq_true rfl) (by decide) (Nat.le_of_ble_eq_true rfl) ?_
          refine pm_rcv_mono hr ?_
          rintro v2 M2 kc2 ks2 ⟨rfl, hI2⟩
          refine pi_eq hG (t := 754) rfl rfl (fun _ => ?_) (fun c => absurd rfl c)
          exact hnext _ _ _ hI2 h3
        · refine pg_ts hG (off := 331) (t := 371) rfl (by rw [hc]; decide) (by rw [hc]; decide) (by rw [hc]; rfl) rfl ?_
          repeat (first | refine pgs hG rfl rfl ?_ | refine pgc hG rfl rfl (Nat.le_of_ble_eq_true rfl) ?_)
          refine pg_ia hG rfl hb i1 ?_
          repeat (first | refine pgs hG rfl rfl ?_ | refine pgc hG rfl rfl (Nat.le_of_ble_eq_true rfl) ?_)
          refine pg_ia hG rfl hb i2 ?_
          refine pz_eq hG (t := 391) rfl rfl (fun cz => ?_) (fun cz => ?_)
          · repeat (first | refine pgs hG rfl rfl ?_ | refine pgc hG rfl rfl (Nat.le_of_ble_eq_true rfl) ?_)
            refine pg_cal hG 0 rfl rfl (Nat.le_of_ble_eq_true rfl) (by decide) (Nat.le_of_ble_eq_true rfl) ?_
            refine pm_rcv_mono (ob7 _ 0 (by decide) n M kc ks hI) ?_
            rintro v1 M1 kc1 ks1 ⟨hb1, r, rfl, hr⟩
            repeat (first | refine pgs hG rfl rfl ?_ | refine pgc hG rfl rfl (Nat.le_of_ble_eq_true rfl) ?_)
            refine pg_ia hG rfl hb1 i1 ?_
            repeat (first | refine pgs hG rfl rfl ?_ | refine pgc hG rfl rfl (Nat.le_of_ble_eq_true rfl) ?_)
            refine pg_ia hG rfl hb1 i2 ?_
            refine pz_eq hG (t := 415) rfl rfl (fun _ => ?_) (fun c => absurd cz c)
            repeat (first | refine pgs hG rfl rfl ?_ | refine pgc hG rfl rfl (Nat.le_of_ble_eq_true rfl) ?_)
            refine pg_cal hG 0 rfl rfl (Nat.le_of_ble_eq_true rfl) (by decide) (Nat.le_of_ble_eq_true rfl) ?_
            refine pm_rcv_mono hr ?_
            rintro v2 M2 kc2 ks2 ⟨rfl, hI2⟩
            refine pi_eq hG (t := 754) rfl rfl (fun _ => ?_) (fun c => absurd rfl c)
            exact hnext _ _ _ hI2 h3
          · repeat (first | refine pgs hG rfl rfl ?_ | refine pgc hG rfl rfl (Nat.le_of_ble_eq_true rfl) ?_)
            refine pg_go hG (t := 392) rfl rfl ?_
            refine pg_cal hG 0 rfl rfl (Nat.le_of_ble_eq_true rfl) (by decide) (Nat.le_of_ble_eq_true rfl) ?_
            refine pm_rcv_mono (ob7 _ 1 (by decide) n M kc ks hI) ?_
            rintro v1 M1 kc1 ks1 ⟨hb1, r, rfl, hr⟩
            repeat (first | refine pgs hG rfl rfl ?_ | refine pgc hG rfl rfl (Nat.le_of_ble_eq_true rfl) ?_)
            refine pg_ia hG rfl hb1 i1 ?_
            repeat (first | refine pgs hG rfl rfl ?_ | refine pgc hG rfl rfl (Nat.le_of_ble_eq_true rfl) ?_)
            refine pg_ia hG rfl hb1 i2 ?_
            refine pz_eq hG (t := 415) rfl rfl (fun c => absurd c cz) (fun _ => ?_)
            repeat (first | refine pgs hG rfl rfl ?_ | refine pgc hG rfl rfl (Nat.le_of_ble_eq_true rfl) ?_)
            refine pg_go hG (t := 416) rfl rfl ?_
            refine pg_cal hG 0 rfl rfl (Nat.le_of_ble_eq_true rfl) (by decide) (Nat.le_of_ble_eq_true rfl) ?_
            refine pm_rcv_mono hr ?_
            rintro v2 M2 kc2 ks2 ⟨rfl, hI2⟩
            refine pi_eq hG (t := 754) rfl rfl (fun _ => ?_) (fun c => absurd rfl c)
            exact hnext _ _ _ hI2 h3
        · refine pg_ts hG (off := 384) (t := 424) rfl (by rw [hc]; decide) (by rw [hc]; decide) (by rw [hc]; rfl) rfl ?_
          repeat (first | refine pgs hG rfl rfl ?_ | refine pgc hG rfl rfl (Nat.le_of_ble_eq_true rfl) ?_)
          refine pg_ia hG rfl hb i1 ?_
          repeat (first | refine pgs hG rfl rfl ?_ | refine pgc hG rfl rfl (Nat.le_of_ble_eq_true rfl) ?_)
          refine pg_ia hG rfl hb i2 ?_
          repeat (first | refine pgs hG rfl rfl ?_ | refine pgc hG rfl rfl (Nat.le_of_ble_eq_true rfl) ?_)
          refine pg_ia hG rfl hb i3 ?_
          repeat (first | refine pgs hG rfl rfl ?_ | refine pgc hG rfl rfl (Nat.le_of_ble_eq_true rfl) ?_)
          refine pg_ia hG rfl hb i4 ?_
          repeat (first | refine pgs hG rfl rfl ?_ | refine pgc hG rfl rfl (Nat.le_of_ble_eq_true rfl) ?_)
          refine pg_cal hG 0 rfl rfl (Nat.le_of_ble_eq_true rfl) (by decide) (Nat.le_of_ble_eq_true rfl) ?_
          refine pm_rcv_mono (ob8 _ _ _ _ n M kc ks hI) ?_
          rintro v1 M1 kc1 ks1 ⟨hb1, r, rfl, hr⟩
          repeat (first | refine pgs hG rfl rfl ?_ | refine pgc hG rfl rfl (Nat.le_of_ble_eq_true rfl) ?_)
          refine pg_ia hG rfl hb1 i1 ?_
          repeat (first | refine pgs hG rfl rfl ?_ | refine pgc hG rfl rfl (Nat.le_of_ble_eq_true rfl) ?_)
          refine pg_ia hG rfl hb1 i2 ?_
          repeat (first | refine pgs hG rfl rfl ?_ | refine pgc hG rfl rfl (Nat.le_of_ble_eq_true rfl) ?_)
          refine pg_ia hG rfl hb1 i3 ?_
          repeat (first | refine pgs hG rfl rfl ?_ | refine pgc hG rfl rfl (Nat.le_of_ble_eq_true rfl) ?_)
          refine pg_ia hG rfl hb1 i4 ?_
          repeat (first | refine pgs hG rfl rfl ?_ | refine pgc hG rfl rfl (Nat.le_of_ble_eq_true rfl) ?_)
          refine pg_cal hG 0 rfl rfl (Nat.le_of_ble_eq_true rfl) (by decide) (Nat.le_of_ble_eq_true rfl) ?_
          refine pm_rcv_mono hr ?_
          rintro v2 M2 kc2 ks2 ⟨rfl, hI2⟩
          refine pi_eq hG (t := 754) rfl rfl (fun _ => ?_) (fun c => absurd rfl c)
          exact hnext _ _ _ hI2 h3
        · refine pg_ts hG (off := 445) (t := 485) rfl (by rw [hc]; decide) (by rw [hc]; decide) (by rw [hc]; rfl) rfl ?_
          repeat (first | refine pgs hG rfl rfl ?_ | refine pgc hG rfl rfl (Nat.le_of_ble_eq_true rfl) ?_)
          refine pg_ia hG rfl hb i1 ?_
          repeat (first | refine pgs hG rfl rfl ?_ | refine pgc hG rfl rfl (Nat.le_of_ble_eq_true rfl) ?_)
          refine pg_ia hG rfl hb i2 ?_
          repeat (first | refine pgs hG rfl rfl ?_ | refine pgc hG rfl rfl (Nat.le_of_ble_eq_true rfl) ?_)
          refine pg_cal hG 0 rfl rfl (Nat.le_of_ble_eq_true rfl) (by decide) (Nat.le_of_ble_eq_true rfl) ?_
          refine pm_rcv_mono (ob9 _ _ n M kc ks hI) ?_
          rintro v1 M1 kc1 ks1 ⟨hb1, r, rfl, hr⟩
          repeat (first | refine pgs hG rfl rfl ?_ | refine pgc hG rfl rfl (Nat.le_of_ble_eq_true rfl) ?_)
          refine pg_ia hG rfl hb1 i1 ?_
          repeat (first | refine pgs hG rfl rfl ?_ | refine pgc hG rfl rfl (Nat.le_of_ble_eq_true rfl) ?_)
          refine pg_ia hG rfl hb1 i2 ?_
          repeat (first | refine pgs hG rfl rfl ?_ | refine pgc hG rfl rfl (Nat.le_of_ble_eq_true rfl) ?_)
          refine pg_cal hG 0 rfl rfl (Nat.le_of_ble_eq_true rfl) (by decide) (Nat.le_of_ble_eq_true rfl) ?_
          refine pm_rcv_mono hr ?_
          rintro v2 M2 kc2 ks2 ⟨rfl, hI2⟩
          refine pi_eq hG (t := 754) rfl rfl (fun _ => ?_) (fun c => absurd rfl c)
          exact hnext _ _ _ hI2 h3
        · refine pg_ts hG (off := 482) (t := 522) rfl (by rw [hc]; decide) (by rw [hc]; decide) (by rw [hc]; rfl) rfl ?_
          repeat (first | refine pgs hG rfl rfl ?_ | refine pgc hG rfl rfl (Nat.le_of_ble_eq_true rfl) ?_)
          refine pg_cal hG 0 rfl rfl (Nat.le_of_ble_eq_true rfl) (by decide) (Nat.le_of_ble_eq_true rfl) ?_
          refine pm_rcv_mono (ob10 n M kc ks hI) ?_
          rintro v1 M1 kc1 ks1 ⟨hb1, r, rfl, hr⟩
          repeat (first | refine pgs hG rfl rfl ?_ | refine pgc hG rfl rfl (Nat.le_of_ble_eq_true rfl) ?_)
          refine pg_cal hG 0 rfl rfl (Nat.le_of_ble_eq_true rfl) (by decide) (Nat.le_of_ble_eq_true rfl) ?_
          refine pm_rcv_mono hr ?_
          rintro v2 M2 kc2 ks2 ⟨rfl, hI2⟩
          refine pi_eq hG (t := 754) rfl rfl (fun _ => ?_) (fun c => absurd rfl c)
          exact hnext _ _ _ hI2 h3
        · refine pg_ts hG (off := 495) (t := 535) rfl (by rw [hc]; decide) (by rw [hc]; decide) (by rw [hc]; rfl) rfl ?_
          repeat (first | refine pgs hG rfl rfl ?_ | refine pgc hG rfl rfl (Nat.le_of_ble_eq_true rfl) ?_)
          refine pg_ia hG rfl hb i1 ?_
          repeat (first | refine pgs hG rfl rfl ?_ | refine pgc hG rfl rfl (Nat.le_of_ble_eq_true rfl) ?_)
          refine pg_cal hG 0 rfl rfl (Nat.le_of_ble_eq_true rfl) (by decide) (Nat.le_of_ble_eq_true rfl) ?_
          refine pm_rcv_mono (ob11 _ n M kc ks hI) ?_
          rintro v1 M1 kc1 ks1 ⟨hb1, r, rfl, hr⟩
          repeat (first | refine pgs hG rfl rfl ?_ | refine pgc hG rfl rfl (Nat.le_of_ble_eq_true rfl) ?_)
          refine pg_ia hG rfl hb1 i1 ?_
          repeat (first | refine pgs hG rfl rfl ?_ | refine pgc hG rfl rfl (Nat.le_of_ble_eq_true rfl) ?_)
          refine pg_cal hG 0 rfl rfl (Nat.le_of_ble_eq_true rfl) (by decide) (Nat.le_of_ble_eq_true rfl) ?_
          refine pm_rcv_mono hr ?_
          rintro v2 M2 kc2 ks2 ⟨rfl, hI2⟩
          refine pi_eq hG (t := 754) rfl rfl (fun _ => ?_) (fun c => absurd rfl c)
          exact hnext _ _ _ hI2 h3
        · refine pg_ts hG (off := 520) (t := 560) rfl (by rw [hc]; decide) (by rw [hc]; decide) (by rw [hc]; rfl) rfl ?_
          repeat (first | refine pgs hG rfl rfl ?_ | refine pgc hG rfl rfl (Nat.le_of_ble_eq_true rfl) ?_)
          refine pg_ia hG rfl hb i1 ?_
          repeat (first | refine pgs hG rfl rfl ?_ | refine pgc hG rfl rfl (Nat.le_of_ble_eq_true rfl) ?_)
          refine pg_cal hG 0 rfl rfl (Nat.le_of_ble_eq_true rfl) (by decide) (Nat.le_of_ble_eq_true rfl) ?_
          refine pm_rcv_mono (ob12 _ n M kc ks hI) ?_
          rintro v1 M1 kc1 ks1 ⟨hb1, r, rfl, hr⟩
          repeat (first | refine pgs hG rfl rfl ?_ | refine pgc hG rfl rfl (Nat.le_of_ble_eq_true rfl) ?_)
          refine pg_ia hG rfl hb1 i1 ?_
          repeat (first | refine pgs hG rfl rfl ?_ | refine pgc hG rfl rfl (Nat.le_of_ble_eq_true rfl) ?_)
          refine pg_cal hG 0 rfl rfl (Nat.le_of_ble_eq_true rfl) (by decide) (Nat.le_of_ble_eq_true rfl) ?_
          refine pm_rcv_mono hr ?_
          rintro v2 M2 kc2 ks2 ⟨rfl, hI2⟩
          refine pi_eq hG (t := 754) rfl rfl (fun _ => ?_) (fun c => absurd rfl c)
          exact hnext _ _ _ hI2 h3
        · refine pg_ts hG (off := 545) (t := 585) rfl (by rw [hc]; decide) (by rw [hc]; decide) (by rw [hc]; rfl) rfl ?_
          repeat (first | refine pgs hG rfl rfl ?_ | refine pgc hG rfl rfl (Nat.le_of_ble_eq_true rfl) ?_)
          refine pg_ia hG rfl hb i1 ?_
          repeat (first | refine pgs hG rfl rfl ?_ | refine pgc hG rfl rfl (Nat.le_of_ble_eq_true rfl) ?_)
          refine pg_cal hG 0 rfl rfl (Nat.le_of_ble_eq_true rfl) (by decide) (Nat.le_of_ble_eq_true rfl) ?_
          refine pm_rcv_mono (ob13 _ n M kc ks hI) ?_
          rintro v1 M1 kc1 ks1 ⟨hb1, r, rfl, hr⟩
          repeat (first | refine pgs hG rfl rfl ?_ | refine pgc hG rfl rfl (Nat.le_of_ble_eq_true rfl) ?_)
          refine pg_ia hG rfl hb1 i1 ?_
          repeat (first | refine pgs hG rfl rfl ?_ | refine pgc hG rfl rfl (Nat.le_of_ble_eq_true rfl) ?_)
          refine pg_cal hG 0 rfl rfl (Nat.le_of_ble_eq_true rfl) (by decide) (Nat.le_of_ble_eq_true rfl) ?_
          refine pm_rcv_mono hr ?_
          rintro v2 M2 kc2 ks2 ⟨rfl, hI2⟩
          refine pi_eq hG (t := 754) rfl rfl (fun _ => ?_) (fun c => absurd rfl c)
          exact hnext _ _ _ hI2 h3
        · refine pg_ts hG (off := 570) (t := 610) rfl (by rw [hc]; decide) (by rw [hc]; decide) (by rw [hc]; rfl) rfl ?_
          repeat (first | refine pgs hG rfl rfl ?_ | refine pgc hG rfl rfl (Nat.le_of_ble_eq_true rfl) ?_)
          refine pg_ia hG rfl hb i1 ?_
          repeat (first | refine pgs hG rfl rfl ?_ | refine pgc hG rfl rfl (Nat.le_of_ble_eq_true rfl) ?_)
          refine pg_cal hG 2 rfl rfl (Nat.le_of_ble_eq_true rfl) (by decide) (Nat.le_of_ble_eq_true rfl) ?_
          refine kT_La_mono (ob14 _ n M kc ks hI) ?_
          rintro v1 M1 kc1 ks1 ⟨hb1, k, rfl, hk⟩
          repeat (first | refine pgs hG rfl rfl ?_ | refine pgc hG rfl rfl (Nat.le_of_ble_eq_true rfl) ?_)
          refine pg_ia hG rfl hb1 i1 ?_
          repeat (first | refine pgs hG rfl rfl ?_ | refine pgc hG rfl rfl (Nat.le_of_ble_eq_true rfl) ?_)
          refine pg_cal hG 0 rfl rfl (Nat.le_of_ble_eq_true rfl) (by decide) (Nat.le_of_ble_eq_true rfl) ?_
          refine pm_rcv_mono hk ?_
          rintro v2 M2 kc2 ks2 ⟨r, rfl, hr⟩
          repeat (first | refine pgs hG rfl rfl ?_ | refine pgc hG rfl rfl (Nat.le_of_ble_eq_true rfl) ?_)
          refine pg_cal hG 0 rfl rfl (Nat.le_of_ble_eq_true rfl) (by decide) (Nat.le_of_ble_eq_true rfl) ?_
          refine pm_rcv_mono hr ?_
          rintro v3 M3 kc3 ks3 ⟨rfl, hI3, h0⟩
          repeat (first | refine pgs hG rfl rfl ?_ | refine pgc hG rfl rfl (Nat.le_of_ble_eq_true rfl) ?_)
          refine pi_eq hG (t := 646) rfl rfl (fun _ => ?_) (fun c => absurd rfl c)
          repeat (first | refine pgs hG rfl rfl ?_ | refine pgc hG rfl rfl (Nat.le_of_ble_eq_true rfl) ?_)
          refine pz_ne hG (t := 663) rfl rfl (fun _ => ?_) (fun ck => ?_)
          · refine pg_go hG (t := 754) rfl rfl ?_
            exact pg_wl hG [2, 3, 4, 5, 6] rfl (hnext _ _ _ hI3 h3)
          · obtain ⟨f, hf, hf0⟩ := h0 ck
            repeat (first | refine pgs hG rfl rfl ?_ | refine pgc hG rfl rfl (Nat.le_of_ble_eq_true rfl) ?_)
            refine pg_la hG rfl hf (show vp_in (nI 0) 1 from vp_in_nI (by decide) (by decide)) ?_
            repeat (first | refine pgs hG rfl rfl ?_ | refine pgc hG rfl rfl (Nat.le_of_ble_eq_true rfl) ?_)
            refine pz_eq hG (t := 663) rfl rfl (fun _ => ?_) (fun cz => absurd ?_ cz)
            · refine pg_go hG (t := 754) rfl rfl ?_
              exact pg_wl hG [2, 3, 4, 5, 6] rfl (hnext _ _ _ hI3 h3)
            · show lg_cmp (f 0) r.toInt64 = 0
              rw [hf0]
              exact lcmp_self _
        · refine pg_ts hG (off := 626) (t := 666) rfl (by rw [hc]; decide) (by rw [hc]; decide) (by rw [hc]; rfl) rfl ?_
          repeat (first | refine pgs hG rfl rfl ?_ | refine pgc hG rfl rfl (Nat.le_of_ble_eq_true rfl) ?_)
          refine pg_ia hG rfl hb i1 ?_
          repeat (first | refine pgs hG rfl rfl ?_ | refine pgc hG rfl rfl (Nat.le_of_ble_eq_true rfl) ?_)
          refine pg_ia hG rfl hb i2 ?_
          repeat (first | refine pgs hG rfl rfl ?_ | refine pgc hG rfl rfl (Nat.le_of_ble_eq_true rfl) ?_)
          refine pg_cal hG 0 rfl rfl (Nat.le_of_ble_eq_true rfl) (by decide) (Nat.le_of_ble_eq_true rfl) ?_
          refine pm_rcv_mono (ob15 _ _ n M kc ks hI) ?_
          rintro v1 M1 kc1 ks1 ⟨hb1, r, rfl, hr⟩
          repeat (first | refine pgs hG rfl rfl ?_ | refine pgc hG rfl rfl (Nat.le_of_ble_eq_true rfl) ?_)
          refine pg_ia hG rfl hb1 i1 ?_
          repeat (first | refine pgs hG rfl rfl ?_ | refine pgc hG rfl rfl (Nat.le_of_ble_eq_true rfl) ?_)
          refine pg_ia hG rfl hb1 i2 ?_
          repeat (first | refine pgs hG rfl rfl ?_ | refine pgc hG rfl rfl (Nat.le_of_ble_eq_true rfl) ?_)
          refine pg_cal hG 0 rfl rfl (Nat.le_of_ble_eq_true rfl) (by decide) (Nat.le_of_ble_eq_true rfl) ?_
          refine pm_rcv_mono hr ?_
          rintro v2 M2 kc2 ks2 ⟨rfl, hI2⟩
          refine pi_eq hG (t := 754) rfl rfl (fun _ => ?_) (fun c => absurd rfl c)
          exact hnext _ _ _ hI2 h3
        · refine pg_ts hG (off := 663) (t := 703) rfl (by rw [hc]; decide) (by rw [hc]; decide) (by rw [hc]; rfl) rfl ?_
          repeat (first | refine pgs hG rfl rfl ?_ | refine pgc hG rfl rfl (Nat.le_of_ble_eq_true rfl) ?_)
          refine pg_ia hG rfl hb i1 ?_
          repeat (first | refine pgs hG rfl rfl ?_ | refine pgc hG rfl rfl (Nat.le_of_ble_eq_true rfl) ?_)
          refine pg_cal hG 0 rfl rfl (Nat.le_of_ble_eq_true rfl) (by decide) (Nat.le_of_ble_eq_true rfl) ?_
          refine pm_rcv_mono (ob16 _ n M kc ks hI) ?_
          rintro v1 M1 kc1 ks1 ⟨hb1, r, rfl, hr⟩
          repeat (first | refine pgs hG rfl rfl ?_ | refine pgc hG rfl rfl (Nat.le_of_ble_eq_true rfl) ?_)
          refine pg_ia hG rfl hb1 i1 ?_
          repeat (first | refine pgs hG rfl rfl ?_ | refine pgc hG rfl rfl (Nat.le_of_ble_eq_true rfl) ?_)
          refine pg_cal hG 0 rfl rfl (Nat.le_of_ble_eq_true rfl) (by decide) (Nat.le_of_ble_eq_true rfl) ?_
          refine pm_rcv_mono hr ?_
          rintro v2 M2 kc2 ks2 ⟨rfl, hI2⟩
          refine pi_eq hG (t := 754) rfl rfl (fun _ => ?_) (fun c => absurd rfl c)
          exact hnext _ _ _ hI2 h3
        · refine pg_ts hG (off := 688) (t := 728) rfl (by rw [hc]; decide) (by rw [hc]; decide) (by rw [hc]; rfl) rfl ?_
          repeat (first | refine pgs hG rfl rfl ?_ | refine pgc hG rfl rfl (Nat.le_of_ble_eq_true rfl) ?_)
          refine pg_cal hG 0 rfl rfl (Nat.le_of_ble_eq_true rfl) (by decide) (Nat.le_of_ble_eq_true rfl) ?_
          refine pm_rcv_mono (ob17 n M kc ks hI) ?_
          rintro v1 M1 kc1 ks1 ⟨hb1, r, rfl, hr⟩
          repeat (first | refine pgs hG rfl rfl ?_ | refine pgc hG rfl rfl (Nat.le_of_ble_eq_true rfl) ?_)
          refine pg_cal hG 0 rfl rfl (Nat.le_of_ble_eq_true rfl) (by decide) (Nat.le_of_ble_eq_true rfl) ?_
          refine pm_rcv_mono hr ?_
          rintro v2 M2 kc2 ks2 ⟨rfl, hI2⟩
          refine pi_eq hG (t := 754) rfl rfl (fun _ => ?_) (fun c => absurd rfl c)
          exact hnext _ _ _ hI2 h3
        · refine pg_ts hG (off := 701) (t := 741) rfl (by rw [hc]; decide) (by rw [hc]; decide) (by rw [hc]; rfl) rfl ?_
          repeat (first | refine pgs hG rfl rfl ?_ | refine pgc hG rfl rfl (Nat.le_of_ble_eq_true rfl) ?_)
          refine pg_cal hG 0 rfl rfl (Nat.le_of_ble_eq_true rfl) (by decide) (Nat.le_of_ble_eq_true rfl) ?_
          refine pm_rcv_mono (ob18 n M kc ks hI) ?_
          rintro v1 M1 kc1 ks1 ⟨hb1, r, rfl, hr⟩
          repeat (first | refine pgs hG rfl rfl ?_ | refine pgc hG rfl rfl (Nat.le_of_ble_eq_true rfl) ?_)
          refine pg_cal hG 0 rfl rfl (Nat.le_of_ble_eq_true rfl) (by decide) (Nat.le_of_ble_eq_true rfl) ?_
          refine pm_rcv_mono hr ?_
          rintro v2 M2 kc2 ks2 ⟨rfl, hI2⟩
          refine pi_eq hG (t := 754) rfl rfl (fun _ => ?_) (fun c => absurd rfl c)
          exact hnext _ _ _ hI2 h3
        · refine pg_td hG (t := 754) rfl hc rfl ?_
          exact hnext _ _ _ (hdrop _ _ _ _ hI) h3
