/-! Objects by number of fields. -/
def obL (n : Nat) (F : Nat → Value) : List Value := (List.range n).map F
theorem obL_len (n : Nat) (F : Nat → Value) : (obL n F).length = n := by simp [obL]
theorem obL_get {n : Nat} (F : Nat → Value) {k : Nat} (h : k < n) : (obL n F)[k]? = some (F k) := by
  unfold obL
  rw [List.getElem?_map, List.getElem?_range h]
  rfl
theorem obL_set {n : Nat} (F : Nat → Value) {k : Nat} (h : k < n) (v : Value) : (obL n F).set k v = obL n (upF F k v) := by
  apply List.ext_getElem?
  intro i
  by_cases hi : i < n
  · rw [obL_get _ hi]
    by_cases e : i = k
    · subst e
      rw [List.getElem?_set_self (by rw [obL_len]; exact hi), upF_s]
    · rw [List.getElem?_set_ne (Ne.symm e), obL_get F hi, upF_n F v e]
  · rw [List.getElem?_eq_none (by rw [List.length_set, obL_len]; omega), List.getElem?_eq_none (by rw [obL_len]; omega)]
section ObRows
variable {cl : List vw_C} {base : Nat} {X : pmX} {Rt : pmR} {G : pmK} {pc : Nat} {L : pmL} {st : List Value} {M : pmM} {kc ks : Nat}
theorem pg_gn (hG : pm_cl cl base X Rt G) {i k a n ci : Nat} {ty : FieldType} {w : Bool} {F : Nat → Value} {v : Value} (hc : X.code pc = some (.getfield i)) (hf : X.fld i = some (ci, k, ty, w)) (hM : M a = some (.inr (ci, obL n F))) (hk : Nat.ble (k + 1) n = true) (hv : F k = v) (h : G (pc + 3) L (v :: st) M kc ks) : G pc L (.ref a :: st) M kc ks := pg_gf hG hc hf hM ((obL_get F (Nat.le_of_ble_eq_true hk)).trans (by rw [hv])) h
theorem pg_pn (hG : pm_cl cl base X Rt G) {i k a n ci : Nat} {ty : FieldType} {F : Nat → Value} {v : Value} (hc : X.code pc = some (.putfield i)) (hf : X.fld i = some (ci, k, ty, true)) (hM : M a = some (.inr (ci, obL n F))) (hb : base ≤ a) (hk : Nat.ble (k + 1) n = true) (hn : narrow ty v = v) (hfit : fits ty v = true) (h : G (pc + 3) L st (pm_up M a (.inr (ci, obL n (upF F k v)))) kc ks) : G pc L (v :: .ref a :: st) M kc ks := by
  refine pg_pf hG hc hf hM hb (by rw [obL_len]; exact Nat.le_of_ble_eq_true hk) hn hfit ?_
  rw [obL_set F (Nat.le_of_ble_eq_true hk)]
  exact h
end ObRows
/-! The class's object (kind 11, 20 fields): what reads it only. -/
set_option maxRecDepth 100000 in
theorem s_Rf_now (base : Nat) (sa : Nat → Nat) {x : Nat} {F : Nat → Value} {z : Int32} {M : pmM} {Rt : pmR} {kc ks : Nat} (hx : M x = some (.inr (11, obL 20 F))) (h : F 5 = .int z) (k : Rt (some (.int z)) M kc ks) : kP_Rf_now base sa [.ref x] M kc ks Rt := by
  refine ⟨Nat.le_of_ble_eq_true rfl, fun G hG => ?_⟩
  refine pgs hG rfl rfl ?_
  refine pg_gn hG rfl rfl hx rfl h ?_
  exact pg_ri hG rfl rfl rfl k
set_option maxRecDepth 100000 in
theorem s_Rf_fault (base : Nat) (sa : Nat → Nat) {x : Nat} {F : Nat → Value} {z : Int32} {M : pmM} {Rt : pmR} {kc ks : Nat} (hx : M x = some (.inr (11, obL 20 F))) (h : F 4 = .int z) (k : Rt (some (.int z)) M kc ks) : kP_Rf_fault base sa [.ref x] M kc ks Rt := by
  refine ⟨Nat.le_of_ble_eq_true rfl, fun G hG => ?_⟩
  refine pgs hG rfl rfl ?_
  refine pg_gn hG rfl rfl hx rfl h ?_
  exact pg_ri hG rfl rfl rfl k
set_option maxRecDepth 100000 in
theorem s_Rf_flying (base : Nat) (sa : Nat → Nat) {x : Nat} {F : Nat → Value} {z : Int32} {M : pmM} {Rt : pmR} {kc ks : Nat} (hx : M x = some (.inr (11, obL 20 F))) (h : F 13 = .int z) (k : Rt (some (.int z)) M kc ks) : kP_Rf_flying base sa [.ref x] M kc ks Rt := by
  refine ⟨Nat.le_of_ble_eq_true rfl, fun G hG => ?_⟩
  refine pgs hG rfl rfl ?_
  refine pg_gn hG rfl rfl hx rfl h ?_
  exact pg_ri hG rfl rfl rfl k
set_option maxRecDepth 100000 in
/-- end: of the tape the first bytes alone -/
theorem v_Rf_end (base : Nat) (sa : Nat → Nat) {x b d cap : Nat} {F : Nat → Value} {l : List Int32} {y : Int32} {M : pmM} {Rt : pmR} {kc ks : Nat} (hx : M x = some (.inr (11, obL 20 F))) (h0 : F 0 = .ref b) (hv : vBy base M b l d cap)
    (k0 : (y < 0 ∨ nI l.length < y) → Rt (some (.int 0)) M kc ks) (k1 : ∀ j : Nat, y = nI j → j ≤ l.length → ∀ M' : pmM, vBy base M' b (l.take j) d cap → (∀ a, a ≠ b → M' a = M a) → Rt (some (.int 1)) M' kc ks) : kP_Rf_end base sa [.ref x, .int y] M kc ks Rt := by
  have hob := hv.ob
  obtain ⟨f, hr, hf, h8, q1, q2, q3⟩ := hv
  obtain ⟨r1, r2, r3, r4, r5⟩ := hr
  refine ⟨Nat.le_of_ble_eq_true rfl, fun G hG => ?_⟩
  refine pgs hG rfl rfl ?_
  refine pz_lt hG (t := 15) rfl rfl (fun c1 => ?_) (fun c1 => ?_)
  · refine pgs hG rfl rfl ?_
    exact pg_ri hG rfl rfl rfl (k0 (Or.inl c1))
  · refine pgs hG rfl rfl ?_
    refine pgs hG rfl rfl ?_
    refine pg_gn hG rfl rfl hx rfl h0 ?_
    refine pg_gf hG rfl rfl hob rfl ?_
    refine pi_le hG (t := 17) rfl rfl (fun c2 => ?_) (fun c2 => ?_)
    · obtain ⟨j, hj, rfl⟩ := nI_of c1
      have hjl : j ≤ l.length := by
        rcases Nat.lt_or_ge l.length j with h | h
        · exact absurd c2 (nI_ge h hj)
        · exact h
      refine pgs hG rfl rfl ?_
      refine pg_gn hG rfl rfl hx rfl h0 ?_
      refine pgs hG rfl rfl ?_
      refine pg_pf hG rfl rfl hob q1 (Nat.le_of_ble_eq_true rfl) rfl rfl ?_
      refine pgs hG rfl rfl ?_
      refine pg_ri hG rfl rfl rfl (k1 j rfl hjl _ ⟨f, ⟨?_, (pm_up_ne _ _ q3.symm).trans r2, ?_, r4, r5⟩, ?_, ?_, q1, q2, q3⟩ (fun a ha => pm_up_ne _ _ ha))
      · rw [List.length_take, Nat.min_eq_left hjl]
        exact pm_up_self _ _ _
      · rw [List.length_take, Nat.min_eq_left hjl]
        omega
      · intro i hi
        rw [List.length_take, Nat.min_eq_left hjl] at hi
        rw [hf i (by omega), List.getD_eq_getElem?_getD, List.getD_eq_getElem?_getD, List.getElem?_take_of_lt hi]
      · intro z hz
        exact h8 z (List.mem_of_mem_take hz)
    · refine pgs hG rfl rfl ?_
      exact pg_ri hG rfl rfl rfl (k0 (Or.inr (Int32.not_le.mp c2)))
theorem vBy.small {base : Nat} {M : pmM} {b d cap : Nat} {l : List Int32} (h : vBy base M b l d cap) : l.length ≤ 1000000 := by
  obtain ⟨f, hr, -⟩ := h
  obtain ⟨-, -, r3, -, r5⟩ := hr
  omega
theorem grw_old {M M' : pmM} {b d cap kc ks d' cap' kc' ks' x : Nat} {e : pmE} (g : grw M b d cap kc ks M' d' cap' kc' ks') (h1 : x ≠ b) (h2 : x ≠ d) (hx : M x = some e) : M' x = some e := by
  rw [g.1 x h1 h2 (by rw [hx]; simp), hx]
set_option maxRecDepth 100000 in
/-- feed: twenty bytes more on the tape, if it has room -/
theorem v_Rf_feed (base : Nat) (sa : Nat → Nat) {x b d cap : Nat} {F : Nat → Value} {l : List Int32} {a1 a2 a3 a4 a5 : Int32} {M : pmM} {Rt : pmR} {kc ks : Nat} (hx : M x = some (.inr (11, obL 20 F))) (h0 : F 0 = .ref b) (hv : vBy base M b l d cap) (hxb : x ≠ b) (hxd : x ≠ d) (hb : bud 4096 kc ks cap)
    (k0 : 4096 < l.length + 20 → Rt (some (.int 0)) M kc ks)
    (k1 : l.length + 20 ≤ 4096 → ∀ (M' : pmM) (d' cap' kc' ks' : Nat), vBy base M' b (((((l ++ beB a1.toInt64 4) ++ beB a2.toInt64 4) ++ beB a3.toInt64 4) ++ beB a4.toInt64 4) ++ beB a5.toInt64 4) d' cap' → grw M b d cap kc ks M' d' cap' kc' ks' → Rt (some (.int 1)) M' kc' ks') : kP_Rf_feed base sa [.ref x, .int a1, .int a2, .int a3, .int a4, .int a5] M kc ks Rt := by
  have hs := hv.small
  refine ⟨Nat.le_of_ble_eq_true rfl, fun G hG => ?_⟩
  refine pgs hG rfl rfl ?_
  refine pg_gn hG rfl rfl hx rfl h0 ?_
  refine pg_gf hG rfl rfl hv.ob rfl ?_
  refine pgs hG rfl rfl ?_
  refine pgs hG rfl rfl ?_
  refine pgs hG rfl rfl ?_
  have e1 : nI l.length + (Int8.ofInt 20).toInt32 = nI (l.length + 20) := by rw [show (Int8.ofInt 20).toInt32 = nI 20 from by decide, nI_add]
  have e2 : (Int16.ofInt 4096).toInt32 = nI 4096 := by decide
  rw [e1, e2]
  refine pi_le hG (t := 18) rfl rfl (fun c1 => ?_) (fun c1 => ?_)
  · have hle : l.length + 20 ≤ 4096 := by
      rcases Nat.lt_or_ge 4096 (l.length + 20) with h | h
      · exact absurd c1 (nI_ge h (by omega))
      · exact h
    refine pgs hG rfl rfl ?_
    refine pg_gn hG rfl rfl hx rfl h0 ?_
    refine pgs hG rfl rfl ?_
    refine pgs hG rfl rfl ?_
    refine pgs hG rfl rfl ?_
    refine pg_cal hG 0 rfl rfl (Nat.le_of_ble_eq_true rfl) (by decide) (Nat.le_of_ble_eq_true rfl) ?_
    refine pm_rcv_of (As' := [.long a1.toInt64, .int 4]) hv.ob (v_By_addNumber base sa (n := 4) (B := 4096) hv (by decide) (by omega) hb ?_)
    intro M1 d1 cap1 kc1 ks1 hv1 hg1
    refine pgs hG rfl rfl ?_
    refine pg_gn hG rfl rfl (grw_old hg1 hxb hxd hx) rfl h0 ?_
    refine pgs hG rfl rfl ?_
    refine pgs hG rfl rfl ?_
    refine pgs hG rfl rfl ?_
    refine pg_cal hG 0 rfl rfl (Nat.le_of_ble_eq_true rfl) (by decide) (Nat.le_of_ble_eq_true rfl) ?_
    refine pm_rcv_of (As' := [.long a2.toInt64, .int 4]) hv1.ob (v_By_addNumber base sa (n := 4) (B := 4096) hv1 (by decide) (by simp only [List.length_append, beB_len]; omega) (bud_tr hb hg1) ?_)
    intro M2 d2 cap2 kc2 ks2 hv2 hg2'
    have hg2 := grw_tr hg1 hg2'
    refine pgs hG rfl rfl ?_
    refine pg_gn hG rfl rfl (grw_old hg2 hxb hxd hx) rfl h0 ?_
    refine pgs hG rfl rfl ?_
    refine pgs hG rfl rfl ?_
    refine pgs hG rfl rfl ?_
    refine pg_cal hG 0 rfl rfl (Nat.le_of_ble_eq_true rfl) (by decide) (Nat.le_of_ble_eq_true rfl) ?_
    refine pm_rcv_of (As' := [.long a3.toInt64, .int 4]) hv2.ob (v_By_addNumber base sa (n := 4) (B := 4096) hv2 (by decide) (by simp only [List.length_append, beB_len]; omega) (bud_tr hb hg2) ?_)
    intro M3 d3 cap3 kc3 ks3 hv3 hg3'
    have hg3 := grw_tr hg2 hg3'
    refine pgs hG rfl rfl ?_
    refine pg_gn hG rfl rfl (grw_old hg3 hxb hxd hx) rfl h0 ?_
    refine pgs hG rfl rfl ?_
    refine pgs hG rfl rfl ?_
    refine pgs hG rfl rfl ?_
    refine pg_cal hG 0 rfl rfl (Nat.le_of_ble_eq_true rfl) (by decide) (Nat.le_of_ble_eq_true rfl) ?_
    refine pm_rcv_of (As' := [.long a4.toInt64, .int 4]) hv3.ob (v_By_addNumber base sa (n := 4) (B := 4096) hv3 (by decide) (by simp only [List.length_append, beB_len]; omega) (bud_tr hb hg3) ?_)
    intro M4 d4 cap4 kc4 ks4 hv4 hg4'
    have hg4 := grw_tr hg3 hg4'
    refine pgs hG rfl rfl ?_
    refine pg_gn hG rfl rfl (grw_old hg4 hxb hxd hx) rfl h0 ?_
    refine pgs hG rfl rfl ?_
    refine pgs hG rfl rfl ?_
    refine pgs hG rfl rfl ?_
    refine pg_cal hG 0 rfl rfl (Nat.le_of_ble_eq_true rfl) (by decide) (Nat.le_of_ble_eq_true rfl) ?_
    refine pm_rcv_of (As' := [.long a5.toInt64, .int 4]) hv4.ob (v_By_addNumber base sa (n := 4) (B := 4096) hv4 (by decide) (by simp only [List.length_append, beB_len]; omega) (bud_tr hb hg4) ?_)
    intro M5 d5 cap5 kc5 ks5 hv5 hg5'
    refine pgs hG rfl rfl ?_
    exact pg_ri hG rfl rfl rfl (k1 hle M5 d5 cap5 kc5 ks5 hv5 (grw_tr hg4 hg5'))
  · refine pgs hG rfl rfl ?_
    refine pg_ri hG rfl rfl rfl (k0 ?_)
    rcases Nat.lt_or_ge 4096 (l.length + 20) with h | h
    · exact h
    · exact absurd (nI_le h (by omega)) c1
