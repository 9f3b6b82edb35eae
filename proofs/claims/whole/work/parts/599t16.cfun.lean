/-! Methods as weakest preconditions, by program: Rf_writeStatics .. Rf_writeShare -/
def C_Rf_writeStatics_s2 (sa : Nat → Nat) (p0 : Nat) (p1 : Option Nat) (a2 : Int32) (s : cS) (kc ks : Nat) (Q : (cS → Nat → Nat → Prop)) (P2 : (Int32 → cS → Nat → Nat → Prop)) : Prop := ob p1 (fun b1 => (ob (gP s 9 7 b1) (fun v2 => (ob v2 (fun b3 => (ob (gI s 10 1 b3) (fun v4 => (if a2 < v4 then (ob (gP s 9 7 b1) (fun v5 => (ob v5 (fun b6 => (ob (gP s 10 0 b6) (fun v7 => (ob v7 (fun b8 => (ob (rQ s b8 a2) (fun v9 => (ob (gP s 11 2 p0) (fun v10 => (ob v10 (fun b11 => (okO s 0 b11 ∧ C_By_word sa b11 (some (sa 17)) s kc ks (fun sr12 cr12 dr12 => (ob (gP sr12 11 2 p0) (fun v13 => (ob (gP sr12 9 1 b1) (fun v14 => (ob v13 (fun b15 => (okO sr12 0 b15 ∧ C_By_word sa b15 v14 sr12 cr12 dr12 (fun sr16 cr16 dr16 => (ob (gP sr16 11 2 p0) (fun v17 => (ob v17 (fun b18 => (okO sr16 0 b18 ∧ C_By_word sa b18 (some (sa 3)) sr16 cr16 dr16 (fun sr19 cr19 dr19 => (ob (gP sr19 11 2 p0) (fun v20 => (ob v9 (fun b21 => (ob (gP sr19 8 0 b21) (fun v22 => (ob v20 (fun b23 => (okO sr19 0 b23 ∧ C_By_addPrefix sa b23 v22 sr19 cr19 dr19 (fun sr24 cr24 dr24 => (ob (gP sr24 11 2 p0) (fun v25 => (ob (gI sr24 8 4 b21) (fun v26 => (ob v25 (fun b27 => (okO sr24 0 b27 ∧ C_By_wordNumber sa b27 v26 sr24 cr24 dr24 (fun sr28 cr28 dr28 => (ob (gP sr28 11 2 p0) (fun v29 => (ob v29 (fun b30 => (okO sr28 0 b30 ∧ C_By_word sa b30 (some (sa 18)) sr28 cr28 dr28 (fun sr31 cr31 dr31 => (ob (gP sr31 11 2 p0) (fun v32 => (ob (gI sr31 8 5 b21) (fun v33 => (ob v32 (fun b34 => (okO sr31 0 b34 ∧ C_By_wordNumber sa b34 v33 sr31 cr31 dr31 (fun sr35 cr35 dr35 => (ob (gP sr35 11 2 p0) (fun v36 => (ob v36 (fun b37 => (okO sr35 0 b37 ∧ C_By_endLine sa b37 sr35 cr35 dr35 (fun sr38 cr38 dr38 => ((P2 (a2 + (1 : Int32)) sr38 cr38 dr38)))))))))))))))))))))))))))))))))))))))))))))))))))))))))))))))))))))) else ((Q s kc ks))))))))))
def C_Rf_writeStatics_b2 (sa : Nat → Nat) (p0 : Nat) (p1 : Option Nat) (a2 : Int32) (s : cS) (kc ks : Nat) (Q : (cS → Nat → Nat → Prop)) : Prop := ∀ P2 : (Int32 → cS → Nat → Nat → Prop), (∀ (a2 : Int32) (s : cS) (kc ks : Nat), C_Rf_writeStatics_s2 sa p0 p1 a2 s kc ks Q P2 → P2 a2 s kc ks) → P2 a2 s kc ks
def C_Rf_writeStatics (sa : Nat → Nat) (p0 : Nat) (p1 : Option Nat) (s : cS) (kc ks : Nat) (Q : (cS → Nat → Nat → Prop)) : Prop := (C_Rf_writeStatics_b2 sa p0 p1 (0 : Int32) s kc ks Q)
set_option maxRecDepth 100000 in
set_option maxHeartbeats 4000000 in
theorem kc_Rf_writeStatics (base : Nat) (sa : Nat → Nat) {R : pmM} {s : cS} {kc ks : Nat} {Rt : pmR} {p0 : Nat} {p1 : Option Nat} {Q : (cS → Nat → Nat → Prop)} (hw : cW sa R base s) (h : C_Rf_writeStatics sa p0 p1 s kc ks Q) (k : ∀ s' kc' ks', cW sa R base s' → Q s' kc' ks' → Rt none (cM R s') kc' ks') : kP_Rf_writeStatics base sa [.ref p0, va_rf p1] (cM R s) kc ks Rt := by
  refine ⟨by cases p1 <;> exact Nat.le_of_ble_eq_true rfl, fun G hG => ?_⟩
  have eL : lv_args 0 [.ref p0, va_rf p1] = [(0, va_rf (some p0)), (1, va_rf p1)] := by cases p1 <;> rfl
  rw [eL]
  have b2 : ∀ (a2 : Int32) (s : cS) (kc ks : Nat), KK sa R base G 2 [(0, va_rf (some p0)), (1, va_rf p1), (2, .int a2)] [] s kc ks (C_Rf_writeStatics_b2 sa p0 p1 a2 s kc ks Q) := by
    have H : ∀ (P2 : (Int32 → cS → Nat → Nat → Prop)) (hP2 : ∀ (a2 : Int32) (s : cS) (kc ks : Nat), P2 a2 s kc ks → cW sa R base s → G 2 [(0, va_rf (some p0)), (1, va_rf p1), (2, .int a2)] [] (cM R s) kc ks) (a2 : Int32) (s : cS) (kc ks : Nat), KK sa R base G 2 [(0, va_rf (some p0)), (1, va_rf p1), (2, .int a2)] [] s kc ks (C_Rf_writeStatics_s2 sa p0 p1 a2 s kc ks Q P2) := by
      intro P2 hP2
      intro a2 s kc ks
      refine kks hG rfl rfl ?_
      refine kk_aln hG (x := p1) rfl rfl ?_
      refine kk_ob (fun b1 eb1 => ?_)
      subst eb1
      refine kk_gp hG (c := 9) (k := 7) (a := b1) rfl rfl rfl rfl (fun v2 => ?_)
      refine kk_ob (fun b3 eb3 => ?_)
      subst eb3
      refine kk_gi hG (c := 10) (k := 1) (a := b3) rfl rfl rfl rfl (fun v4 => ?_)
      refine kk_ige hG (t := 110) rfl rfl ?_ ?_
      · exact kk_rv hG rfl rfl k
      refine kk_aln hG (x := (some b1)) rfl rfl ?_
      refine kk_gp hG (c := 9) (k := 7) (a := b1) rfl rfl rfl rfl (fun v5 => ?_)
      refine kk_ob (fun b6 eb6 => ?_)
      subst eb6
      refine kk_gp hG (c := 10) (k := 0) (a := b6) rfl rfl rfl rfl (fun v7 => ?_)
      refine kks hG rfl rfl ?_
      refine kk_ob (fun b8 eb8 => ?_)
      subst eb8
      refine kk_aa hG (a := b8) rfl (fun v9 => ?_)
      refine kk_asn hG (x := v9) (L' := [(3, va_rf v9), (0, va_rf (some p0)), (1, va_rf (some b1)), (2, .int a2)]) rfl (Nat.le_of_ble_eq_true rfl) rfl ?_
      refine kk_aln hG (x := (some p0)) rfl rfl ?_
      refine kk_gp hG (c := 11) (k := 2) (a := p0) rfl rfl rfl rfl (fun v10 => ?_)
      refine kk_lws hG (a := sa 17) rfl rfl ?_
      refine kk_ob (fun b11 eb11 => ?_)
      subst eb11
      refine kk_cv hG 0 rfl rfl (Nat.le_of_ble_eq_true rfl) (by decide) rfl (st' := []) rfl (cats_le (Nat.le_of_ble_eq_true rfl)) (fun _ hw h k => kk_rcv h.1 (kc_By_word base sa hw h.2 k)) (fun sr12 cr12 dr12 => ?_)
      refine kk_aln hG (x := (some p0)) rfl rfl ?_
      refine kk_gp hG (c := 11) (k := 2) (a := p0) rfl rfl rfl rfl (fun v13 => ?_)
      refine kk_aln hG (x := (some b1)) rfl rfl ?_
      refine kk_gp hG (c := 9) (k := 1) (a := b1) rfl rfl rfl rfl (fun v14 => ?_)
      refine kk_ob (fun b15 eb15 => ?_)
      subst eb15
      refine kk_cv hG 0 rfl rfl (Nat.le_of_ble_eq_true rfl) (by decide) rfl (st' := []) rfl (cats_le (Nat.le_of_ble_eq_true rfl)) (fun _ hw h k => kk_rcv h.1 (kc_By_word base sa hw h.2 k)) (fun sr16 cr16 dr16 => ?_)
      refine kk_aln hG (x := (some p0)) rfl rfl ?_
      refine kk_gp hG (c := 11) (k := 2) (a := p0) rfl rfl rfl rfl (fun v17 => ?_)
      refine kk_lws hG (a := sa 3) rfl rfl ?_
      refine kk_ob (fun b18 eb18 => ?_)
      subst eb18
      refine kk_cv hG 0 rfl rfl (Nat.le_of_ble_eq_true rfl) (by decide) rfl (st' := []) rfl (cats_le (Nat.le_of_ble_eq_true rfl)) (fun _ hw h k => kk_rcv h.1 (kc_By_word base sa hw h.2 k)) (fun sr19 cr19 dr19 => ?_)
      refine kk_aln hG (x := (some p0)) rfl rfl ?_
      refine kk_gp hG (c := 11) (k := 2) (a := p0) rfl rfl rfl rfl (fun v20 => ?_)
      refine kk_aln hG (x := v9) rfl rfl ?_
      refine kk_ob (fun b21 eb21 => ?_)
      subst eb21
      refine kk_gp hG (c := 8) (k := 0) (a := b21) rfl rfl rfl rfl (fun v22 => ?_)
      refine kk_ob (fun b23 eb23 => ?_)
      subst eb23
      refine kk_cv hG 0 rfl rfl (Nat.le_of_ble_eq_true rfl) (by decide) rfl (st' := []) rfl (cats_le (Nat.le_of_ble_eq_true rfl)) (fun _ hw h k => kk_rcv h.1 (kc_By_addPrefix base sa hw h.2 k)) (fun sr24 cr24 dr24 => ?_)
      refine kk_aln hG (x := (some p0)) rfl rfl ?_
      refine kk_gp hG (c := 11) (k := 2) (a := p0) rfl rfl rfl rfl (fun v25 => ?_)
      refine kk_aln hG (x := (some b21)) rfl rfl ?_
      refine kk_gi hG (c := 8) (k := 4) (a := b21) rfl rfl rfl rfl (fun v26 => ?_)
      refine kk_ob (fun b27 eb27 => ?_)
      subst eb27
      refine kk_cv hG 0 rfl rfl (Nat.le_of_ble_eq_true rfl) (by decide) rfl (st' := []) rfl (cats_le (Nat.le_of_ble_eq_true rfl)) (fun _ hw h k => kk_rcv h.1 (kc_By_wordNumber base sa hw h.2 k)) (fun sr28 cr28 dr28 => ?_)
      refine kk_aln hG (x := (some p0)) rfl rfl ?_
      refine kk_gp hG (c := 11) (k := 2) (a := p0) rfl rfl rfl rfl (fun v29 => ?_)
      refine kk_lws hG (a := sa 18) rfl rfl ?_
      refine kk_ob (fun b30 eb30 => ?_)
      subst eb30
      refine kk_cv hG 0 rfl rfl (Nat.le_of_ble_eq_true rfl) (by decide) rfl (st' := []) rfl (cats_le (Nat.le_of_ble_eq_true rfl)) (fun _ hw h k => kk_rcv h.1 (kc_By_word base sa hw h.2 k)) (fun sr31 cr31 dr31 => ?_)
      refine kk_aln hG (x := (some p0)) rfl rfl ?_
      refine kk_gp hG (c := 11) (k := 2) (a := p0) rfl rfl rfl rfl (fun v32 => ?_)
      refine kk_aln hG (x := (some b21)) rfl rfl ?_
      refine kk_gi hG (c := 8) (k := 5) (a := b21) rfl rfl rfl rfl (fun v33 => ?_)
      refine kk_ob (fun b34 eb34 => ?_)
      subst eb34
      refine kk_cv hG 0 rfl rfl (Nat.le_of_ble_eq_true rfl) (by decide) rfl (st' := []) rfl (cats_le (Nat.le_of_ble_eq_true rfl)) (fun _ hw h k => kk_rcv h.1 (kc_By_wordNumber base sa hw h.2 k)) (fun sr35 cr35 dr35 => ?_)
      refine kk_aln hG (x := (some p0)) rfl rfl ?_
      refine kk_gp hG (c := 11) (k := 2) (a := p0) rfl rfl rfl rfl (fun v36 => ?_)
      refine kk_ob (fun b37 eb37 => ?_)
      subst eb37
      refine kk_cv hG 0 rfl rfl (Nat.le_of_ble_eq_true rfl) (by decide) rfl (st' := []) rfl (cats_le (Nat.le_of_ble_eq_true rfl)) (fun _ hw h k => kk_rcv h.1 (kc_By_endLine base sa hw h.2 k)) (fun sr38 cr38 dr38 => ?_)
      refine kk_inc hG (L' := [(2, .int (a2 + (1 : Int32))), (3, va_rf (some b21)), (0, va_rf (some p0)), (1, va_rf (some b1))]) rfl (Nat.le_of_ble_eq_true rfl) rfl cc_i1 rfl ?_
      refine kk_go hG (t := 2) rfl rfl ?_
      exact kk_wl hG [2, 3, 0] rfl (fun hw h => hP2 _ _ _ _ h hw)
    exact fun a2 s kc ks hw h => h (fun a2 s kc ks => cW sa R base s → G 2 [(0, va_rf (some p0)), (1, va_rf p1), (2, .int a2)] [] (cM R s) kc ks) (fun a2 s kc ks hs hw => H _ (fun _ _ _ _ hp hw => hp hw) a2 s kc ks hw hs) hw
  refine (show KK sa R base G 0 [(0, va_rf (some p0)), (1, va_rf p1)] [] s kc ks (C_Rf_writeStatics sa p0 p1 s kc ks Q) from ?_) hw h
  refine kk_ic hG rfl cc_i0 ?_
  refine kk_st hG (L' := [(2, .int (0 : Int32)), (0, va_rf (some p0)), (1, va_rf p1)]) rfl rfl (Nat.le_of_ble_eq_true rfl) (by cases p1 <;> rfl) ?_
  exact kk_wl hG [1, 2, 0] rfl (b2 _ _ _ _)
def C_Rf_sideWord (sa : Nat → Nat) (p0 : Int32) (s : cS) (kc ks : Nat) (Q : (Option Nat → cS → Nat → Nat → Prop)) : Prop := if p0 = 0 then (Q (some (sa 21)) s kc ks) else (Q (some (sa 22)) s kc ks)
set_option maxRecDepth 100000 in
set_option maxHeartbeats 4000000 in
theorem kc_Rf_sideWord (base : Nat) (sa : Nat → Nat) {R : pmM} {s : cS} {kc ks : Nat} {Rt : pmR} {p0 : Int32} {Q : (Option Nat → cS → Nat → Nat → Prop)} (hw : cW sa R base s) (h : C_Rf_sideWord sa p0 s kc ks Q) (k : ∀ r s' kc' ks', cW sa R base s' → Q r s' kc' ks' → Rt (some (va_rf r)) (cM R s') kc' ks') : kP_Rf_sideWord base sa [.int p0] (cM R s) kc ks Rt := by
  refine ⟨Nat.le_of_ble_eq_true rfl, fun G hG => ?_⟩
  refine (show KK sa R base G 0 [(0, .int p0)] [] s kc ks (C_Rf_sideWord sa p0 s kc ks Q) from ?_) hw h
  refine kks hG rfl rfl ?_
  refine kk_zne hG (t := 10) rfl rfl ?_ ?_
  · refine kk_lws hG (a := sa 22) rfl rfl ?_
    exact kk_ra hG (x := (some (sa 22))) rfl rfl rfl k
  refine kk_lws hG (a := sa 21) rfl rfl ?_
  refine kk_go hG (t := 13) rfl rfl ?_
  exact kk_ra hG (x := (some (sa 21))) rfl rfl rfl k
def C_Rf_writeFilters_b98 (sa : Nat → Nat) (p0 : Nat) (p1 : Option Nat) (p2 : Int32) (a3 : Option Nat) (a4 : Int32) (u0 : Option Nat) (u1 : Option Nat) (s : cS) (kc ks : Nat) (Q : (cS → Nat → Nat → Prop)) (P10 : (Int32 → cS → Nat → Nat → Prop)) : Prop := ob u0 (fun b1 => (okO s 0 b1 ∧ C_By_word sa b1 u1 s kc ks (fun sr2 cr2 dr2 => (ob (gP sr2 11 2 p0) (fun v3 => (ob v3 (fun b4 => (okO sr2 0 b4 ∧ C_By_endLine sa b4 sr2 cr2 dr2 (fun sr5 cr5 dr5 => ((P10 (a4 + (1 : Int32)) sr5 cr5 dr5)))))))))))
def C_Rf_writeFilters_s10 (sa : Nat → Nat) (p0 : Nat) (p1 : Option Nat) (p2 : Int32) (a3 : Option Nat) (a4 : Int32) (s : cS) (kc ks : Nat) (Q : (cS → Nat → Nat → Prop)) (P10 : (Int32 → cS → Nat → Nat → Prop)) : Prop := ob a3 (fun b1 => (ob (gI s 6 5 b1) (fun v2 => (if a4 < v2 then (ob (gP s 11 2 p0) (fun v3 => (ob v3 (fun b4 => (okO s 0 b4 ∧ C_By_word sa b4 (some (sa 20)) s kc ks (fun sr5 cr5 dr5 => (ob (gP sr5 11 2 p0) (fun v6 => (ob p1 (fun b7 => (ob (gP sr5 9 1 b7) (fun v8 => (ob v6 (fun b9 => (okO sr5 0 b9 ∧ C_By_word sa b9 v8 sr5 cr5 dr5 (fun sr10 cr10 dr10 => (ob (gP sr10 11 2 p0) (fun v11 => (C_Rf_sideWord sa p2 sr10 cr10 dr10 (fun r12 sr12 cr12 dr12 => (ob v11 (fun b13 => (okO sr12 0 b13 ∧ C_By_word sa b13 r12 sr12 cr12 dr12 (fun sr14 cr14 dr14 => (ob (gP sr14 11 2 p0) (fun v15 => (ob v15 (fun b16 => (okO sr14 0 b16 ∧ C_By_word sa b16 (some (sa 3)) sr14 cr14 dr14 (fun sr17 cr17 dr17 => (ob (gP sr17 11 2 p0) (fun v18 => (ob (gP sr17 6 1 b1) (fun v19 => (ob v19 (fun b20 => (ob (rQ sr17 b20 a4) (fun v21 => (ob v18 (fun b22 => (okO sr17 0 b22 ∧ C_By_addPrefix sa b22 v21 sr17 cr17 dr17 (fun sr23 cr23 dr23 => (ob (gP sr23 11 2 p0) (fun v24 => (ob (gP sr23 6 2 b1) (fun v25 => (ob v25 (fun b26 => (ob (rE sr23 .boolean b26 a4) (fun v27 => (if v27 = 0 then ((C_Rf_writeFilters_b98 sa p0 (some b7) p2 (some b1) a4 v24 (some (sa 24)) sr23 cr23 dr23 Q P10)) else ((C_Rf_writeFilters_b98 sa p0 (some b7) p2 (some b1) a4 v24 (some (sa 23)) sr23 cr23 dr23 Q P10))))))))))))))))))))))))))))))))))))))))))))))))))))) else ((Q s kc ks))))))
def C_Rf_writeFilters_b10 (sa : Nat → Nat) (p0 : Nat) (p1 : Option Nat) (p2 : Int32) (a3 : Option Nat) (a4 : Int32) (s : cS) (kc ks : Nat) (Q : (cS → Nat → Nat → Prop)) : Prop := ∀ P10 : (Int32 → cS → Nat → Nat → Prop), (∀ (a4 : Int32) (s : cS) (kc ks : Nat), C_Rf_writeFilters_s10 sa p0 p1 p2 a3 a4 s kc ks Q P10 → P10 a4 s kc ks) → P10 a4 s kc ks
def C_Rf_writeFilters (sa : Nat → Nat) (p0 : Nat) (p1 : Option Nat) (p2 : Int32) (s : cS) (kc ks : Nat) (Q : (cS → Nat → Nat → Prop)) : Prop := ob p1 (fun b1 => (ob (gP s 9 8 b1) (fun v2 => (ob v2 (fun b3 => (ob (rQ s b3 p2) (fun v4 => ((C_Rf_writeFilters_b10 sa p0 (some b1) p2 v4 (0 : Int32) s kc ks Q)))))))))
set_option maxRecDepth 100000 in
set_option maxHeartbeats 4000000 in
theorem kc_Rf_writeFilters (base : Nat) (sa : Nat → Nat) {R : pmM} {s : cS} {kc ks : Nat} {Rt : pmR} {p0 : Nat} {p1 : Option Nat} {p2 : Int32} {Q : (cS → Nat → Nat → Prop)} (hw : cW sa R base s) (h : C_Rf_writeFilters sa p0 p1 p2 s kc ks Q) (k : ∀ s' kc' ks', cW sa R base s' → Q s' kc' ks' → Rt none (cM R s') kc' ks') : kP_Rf_writeFilters base sa [.ref p0, va_rf p1, .int p2] (cM R s) kc ks Rt := by
  refine ⟨by cases p1 <;> exact Nat.le_of_ble_eq_true rfl, fun G hG => ?_⟩
  have eL : lv_args 0 [.ref p0, va_rf p1, .int p2] = [(0, va_rf (some p0)), (1, va_rf p1), (2, .int p2)] := by cases p1 <;> rfl
  rw [eL]
  have b10 : ∀ (a3 : Option Nat) (a4 : Int32) (s : cS) (kc ks : Nat), KK sa R base G 10 [(0, va_rf (some p0)), (1, va_rf p1), (2, .int p2), (3, va_rf a3), (4, .int a4)] [] s kc ks (C_Rf_writeFilters_b10 sa p0 p1 p2 a3 a4 s kc ks Q) := by
    intro a3
    have H : ∀ (P10 : (Int32 → cS → Nat → Nat → Prop)) (hP10 : ∀ (a4 : Int32) (s : cS) (kc ks : Nat), P10 a4 s kc ks → cW sa R base s → G 10 [(0, va_rf (some p0)), (1, va_rf p1), (2, .int p2), (3, va_rf a3), (4, .int a4)] [] (cM R s) kc ks) (a4 : Int32) (s : cS) (kc ks : Nat), KK sa R base G 10 [(0, va_rf (some p0)), (1, va_rf p1), (2, .int p2), (3, va_rf a3), (4, .int a4)] [] s kc ks (C_Rf_writeFilters_s10 sa p0 p1 p2 a3 a4 s kc ks Q P10) := by
      intro P10 hP10
      have b98 : ∀ (a4 : Int32) (u0 : Option Nat) (u1 : Option Nat) (s : cS) (kc ks : Nat), KK sa R base G 98 [(0, va_rf (some p0)), (1, va_rf p1), (2, .int p2), (3, va_rf a3), (4, .int a4)] [va_rf u1, va_rf u0] s kc ks (C_Rf_writeFilters_b98 sa p0 p1 p2 a3 a4 u0 u1 s kc ks Q P10) := by
        intro a4 u0 u1 s kc ks
        refine kk_ob (fun b1 eb1 => ?_)
        subst eb1
        refine kk_cv hG 0 rfl rfl (Nat.le_of_ble_eq_true rfl) (by decide) rfl (st' := []) rfl (cats_le (Nat.le_of_ble_eq_true rfl)) (fun _ hw h k => kk_rcv h.1 (kc_By_word base sa hw h.2 k)) (fun sr2 cr2 dr2 => ?_)
        refine kk_aln hG (x := (some p0)) rfl rfl ?_
        refine kk_gp hG (c := 11) (k := 2) (a := p0) rfl rfl rfl rfl (fun v3 => ?_)
        refine kk_ob (fun b4 eb4 => ?_)
        subst eb4
        refine kk_cv hG 0 rfl rfl (Nat.le_of_ble_eq_true rfl) (by decide) rfl (st' := []) rfl (cats_le (Nat.le_of_ble_eq_true rfl)) (fun _ hw h k => kk_rcv h.1 (kc_By_endLine base sa hw h.2 k)) (fun sr5 cr5 dr5 => ?_)
        refine kk_inc hG (L' := [(4, .int (a4 + (1 : Int32))), (0, va_rf (some p0)), (1, va_rf p1), (2, .int p2), (3, va_rf a3)]) rfl (Nat.le_of_ble_eq_true rfl) rfl cc_i1 (by cases a3 <;> rfl) ?_
        refine kk_go hG (t := 10) rfl rfl ?_
        exact kk_wl hG [1, 2, 3, 4, 0] rfl (fun hw h => hP10 _ _ _ _ h hw)
      intro a4 s kc ks
      refine kks hG rfl rfl ?_
      refine kk_aln hG (x := a3) rfl rfl ?_
      refine kk_ob (fun b1 eb1 => ?_)
      subst eb1
      refine kk_gi hG (c := 6) (k := 5) (a := b1) rfl rfl rfl rfl (fun v2 => ?_)
      refine kk_ige hG (t := 114) rfl rfl ?_ ?_
      · exact kk_rv hG rfl rfl k
      refine kk_aln hG (x := (some p0)) rfl rfl ?_
      refine kk_gp hG (c := 11) (k := 2) (a := p0) rfl rfl rfl rfl (fun v3 => ?_)
      refine kk_lws hG (a := sa 20) rfl rfl ?_
      refine kk_ob (fun b4 eb4 => ?_)
      subst eb4
      refine kk_cv hG 0 rfl rfl (Nat.le_of_ble_eq_true rfl) (by decide) rfl (st' := []) rfl (cats_le (Nat.le_of_ble_eq_true rfl)) (fun _ hw h k => kk_rcv h.1 (kc_By_word base sa hw h.2 k)) (fun sr5 cr5 dr5 => ?_)
      refine kk_aln hG (x := (some p0)) rfl rfl ?_
      refine kk_gp hG (c := 11) (k := 2) (a := p0) rfl rfl rfl rfl (fun v6 => ?_)
      refine kk_aln hG (x := p1) rfl rfl ?_
      refine kk_ob (fun b7 eb7 => ?_)
      subst eb7
      refine kk_gp hG (c := 9) (k := 1) (a := b7) rfl rfl rfl rfl (fun v8 => ?_)
      refine kk_ob (fun b9 eb9 => ?_)
      subst eb9
      refine kk_cv hG 0 rfl rfl (Nat.le_of_ble_eq_true rfl) (by decide) rfl (st' := []) rfl (cats_le (Nat.le_of_ble_eq_true rfl)) (fun _ hw h k => kk_rcv h.1 (kc_By_word base sa hw h.2 k)) (fun sr10 cr10 dr10 => ?_)
      refine kk_aln hG (x := (some p0)) rfl rfl ?_
      refine kk_gp hG (c := 11) (k := 2) (a := p0) rfl rfl rfl rfl (fun v11 => ?_)
      refine kks hG rfl rfl ?_
      refine kk_cx (w := va_rf) hG 2 rfl rfl (Nat.le_of_ble_eq_true rfl) (by decide) rfl (st' := [va_rf v11]) rfl (cats_le (Nat.le_of_ble_eq_true rfl)) (fun _ hw h k => kc_Rf_sideWord base sa hw h k) (fun r12 sr12 cr12 dr12 => ?_)
      refine kk_ob (fun b13 eb13 => ?_)
      subst eb13
      refine kk_cv hG 0 rfl rfl (Nat.le_of_ble_eq_true rfl) (by decide) rfl (st' := []) rfl (cats_le (Nat.le_of_ble_eq_true rfl)) (fun _ hw h k => kk_rcv h.1 (kc_By_word base sa hw h.2 k)) (fun sr14 cr14 dr14 => ?_)
      refine kk_aln hG (x := (some p0)) rfl rfl ?_
      refine kk_gp hG (c := 11) (k := 2) (a := p0) rfl rfl rfl rfl (fun v15 => ?_)
      refine kk_lws hG (a := sa 3) rfl rfl ?_
      refine kk_ob (fun b16 eb16 => ?_)
      subst eb16
      refine kk_cv hG 0 rfl rfl (Nat.le_of_ble_eq_true rfl) (by decide) rfl (st' := []) rfl (cats_le (Nat.le_of_ble_eq_true rfl)) (fun _ hw h k => kk_rcv h.1 (kc_By_word base sa hw h.2 k)) (fun sr17 cr17 dr17 => ?_)
      refine kk_aln hG (x := (some p0)) rfl rfl ?_
      refine kk_gp hG (c := 11) (k := 2) (a := p0) rfl rfl rfl rfl (fun v18 => ?_)
      refine kk_aln hG (x := (some b1)) rfl rfl ?_
      refine kk_gp hG (c := 6) (k := 1) (a := b1) rfl rfl rfl rfl (fun v19 => ?_)
      refine kks hG rfl rfl ?_
      refine kk_ob (fun b20 eb20 => ?_)
      subst eb20
      refine kk_aa hG (a := b20) rfl (fun v21 => ?_)
      refine kk_ob (fun b22 eb22 => ?_)
      subst eb22
      refine kk_cv hG 0 rfl rfl (Nat.le_of_ble_eq_true rfl) (by decide) rfl (st' := []) rfl (cats_le (Nat.le_of_ble_eq_true rfl)) (fun _ hw h k => kk_rcv h.1 (kc_By_addPrefix base sa hw h.2 k)) (fun sr23 cr23 dr23 => ?_)
      refine kk_aln hG (x := (some p0)) rfl rfl ?_
      refine kk_gp hG (c := 11) (k := 2) (a := p0) rfl rfl rfl rfl (fun v24 => ?_)
      refine kk_aln hG (x := (some b1)) rfl rfl ?_
      refine kk_gp hG (c := 6) (k := 2) (a := b1) rfl rfl rfl rfl (fun v25 => ?_)
      refine kks hG rfl rfl ?_
      refine kk_ob (fun b26 eb26 => ?_)
      subst eb26
      refine kk_za hG (a := b26) rfl (fun v27 => ?_)
      refine kk_zeq hG (t := 95) rfl rfl ?_ ?_
      · refine kk_lws hG (a := sa 24) rfl rfl ?_
        exact kk_wl hG [0, 1, 2, 3, 4] rfl (b98 _ _ _ _ _ _)
      refine kk_lws hG (a := sa 23) rfl rfl ?_
      refine kk_go hG (t := 98) rfl rfl ?_
      exact kk_wl hG [0, 1, 2, 3, 4] rfl (b98 _ _ _ _ _ _)
    exact fun a4 s kc ks hw h => h (fun a4 s kc ks => cW sa R base s → G 10 [(0, va_rf (some p0)), (1, va_rf p1), (2, .int p2), (3, va_rf a3), (4, .int a4)] [] (cM R s) kc ks) (fun a4 s kc ks hs hw => H _ (fun _ _ _ _ hp hw => hp hw) a4 s kc ks hw hs) hw
  refine (show KK sa R base G 0 [(0, va_rf (some p0)), (1, va_rf p1), (2, .int p2)] [] s kc ks (C_Rf_writeFilters sa p0 p1 p2 s kc ks Q) from ?_) hw h
  refine kk_aln hG (x := p1) rfl rfl ?_
  refine kk_ob (fun b1 eb1 => ?_)
  subst eb1
  refine kk_gp hG (c := 9) (k := 8) (a := b1) rfl rfl rfl rfl (fun v2 => ?_)
  refine kks hG rfl rfl ?_
  refine kk_ob (fun b3 eb3 => ?_)
  subst eb3
  refine kk_aa hG (a := b3) rfl (fun v4 => ?_)
  refine kk_asn hG (x := v4) (L' := [(3, va_rf v4), (0, va_rf (some p0)), (1, va_rf (some b1)), (2, .int p2)]) rfl (Nat.le_of_ble_eq_true rfl) rfl ?_
  refine kk_ic hG rfl cc_i0 ?_
  refine kk_st hG (L' := [(4, .int (0 : Int32)), (3, va_rf v4), (0, va_rf (some p0)), (1, va_rf (some b1)), (2, .int p2)]) rfl rfl (Nat.le_of_ble_eq_true rfl) (by cases v4 <;> rfl) ?_
  exact kk_wl hG [2, 3, 4, 1, 0] rfl (b10 _ _ _ _ _)
def C_Rf_writePolicies_b119 (sa : Nat → Nat) (p0 : Nat) (p1 : Option Nat) (p2 : Option Nat) (p3 : Option Nat) (p4 : Int32) (a5 : Int32) (s : cS) (kc ks : Nat) (Q : (cS → Nat → Nat → Prop)) (P3 : (Int32 → cS → Nat → Nat → Prop)) : Prop := ob (gP s 11 2 p0) (fun v1 => (ob v1 (fun b2 => (okO s 0 b2 ∧ C_By_endLine sa b2 s kc ks (fun sr3 cr3 dr3 => ((P3 (a5 + (1 : Int32)) sr3 cr3 dr3)))))))
def C_Rf_writePolicies_b79 (sa : Nat → Nat) (p0 : Nat) (p1 : Option Nat) (p2 : Option Nat) (p3 : Option Nat) (p4 : Int32) (a5 : Int32) (a6 : Option Nat) (u0 : Option Nat) (u1 : Option Nat) (s : cS) (kc ks : Nat) (Q : (cS → Nat → Nat → Prop)) (P3 : (Int32 → cS → Nat → Nat → Prop)) : Prop := ob u0 (fun b1 => (okO s 0 b1 ∧ C_By_word sa b1 u1 s kc ks (fun sr2 cr2 dr2 => (ob (gP sr2 11 2 p0) (fun v3 => (ob (gP sr2 11 10 p0) (fun v4 => (ob a6 (fun b5 => (ob (rE sr2 .int b5 (2 : Int32)) (fun v6 => (ob v4 (fun b7 => (ob (rQ sr2 b7 v6) (fun v8 => (ob v8 (fun b9 => (ob (gP sr2 6 0 b9) (fun v10 => (ob v3 (fun b11 => (okO sr2 0 b11 ∧ C_By_word sa b11 v10 sr2 cr2 dr2 (fun sr12 cr12 dr12 => (ob (rE sr12 .int b5 (3 : Int32)) (fun v13 => (if 0 < v13 then (ob (gP sr12 11 2 p0) (fun v14 => (ob (rE sr12 .int b5 (3 : Int32)) (fun v15 => (ob v14 (fun b16 => (okO sr12 0 b16 ∧ C_By_wordNumber sa b16 v15 sr12 cr12 dr12 (fun sr17 cr17 dr17 => ((C_Rf_writePolicies_b119 sa p0 p1 p2 p3 p4 a5 sr17 cr17 dr17 Q P3)))))))))) else ((C_Rf_writePolicies_b119 sa p0 p1 p2 p3 p4 a5 sr12 cr12 dr12 Q P3))))))))))))))))))))))))))))
def C_Rf_writePolicies_s3 (sa : Nat → Nat) (p0 : Nat) (p1 : Option Nat) (p2 : Option Nat) (p3 : Option Nat) (p4 : Int32) (a5 : Int32) (s : cS) (kc ks : Nat) (Q : (cS → Nat → Nat → Prop)) (P3 : (Int32 → cS → Nat → Nat → Prop)) : Prop := if a5 < p4 then (ob p3 (fun b1 => (ob (rQ s b1 a5) (fun v2 => (ob v2 (fun b3 => (ob (rE s .int b3 (1 : Int32)) (fun v4 => (okO s 11 p0 ∧ C_Rf_linkAt sa p0 v4 s kc ks (fun r5 sr5 cr5 dr5 => (ob (gP sr5 11 2 p0) (fun v6 => (ob v6 (fun b7 => (okO sr5 0 b7 ∧ C_By_word sa b7 p2 sr5 cr5 dr5 (fun sr8 cr8 dr8 => (ob (gP sr8 11 2 p0) (fun v9 => (ob p1 (fun b10 => (ob (gP sr8 9 1 b10) (fun v11 => (ob v9 (fun b12 => (okO sr8 0 b12 ∧ C_By_word sa b12 v11 sr8 cr8 dr8 (fun sr13 cr13 dr13 => (ob (gP sr13 11 2 p0) (fun v14 => (ob (rE sr13 .int b3 (0 : Int32)) (fun v15 => (C_Rf_sideWord sa v15 sr13 cr13 dr13 (fun r16 sr16 cr16 dr16 => (ob v14 (fun b17 => (okO sr16 0 b17 ∧ C_By_word sa b17 r16 sr16 cr16 dr16 (fun sr18 cr18 dr18 => (ob (gP sr18 11 2 p0) (fun v19 => (if r5 = none then ((C_Rf_writePolicies_b79 sa p0 (some b10) p2 (some b1) p4 a5 (some b3) v19 (some (sa 29)) sr18 cr18 dr18 Q P3)) else (ob r5 (fun b20 => (ob (gP sr18 3 0 b20) (fun v21 => ((C_Rf_writePolicies_b79 sa p0 (some b10) p2 (some b1) p4 a5 (some b3) v19 v21 sr18 cr18 dr18 Q P3))))))))))))))))))))))))))))))))))))))))))))) else ((Q s kc ks))
def C_Rf_writePolicies_b3 (sa : Nat → Nat) (p0 : Nat) (p1 : Option Nat) (p2 : Option Nat) (p3 : Option Nat) (p4 : Int32) (a5 : Int32) (s : cS) (kc ks : Nat) (Q : (cS → Nat → Nat → Prop)) : Prop := ∀ P3 : (Int32 → cS → Nat → Nat → Prop), (∀ (a5 : Int32) (s : cS) (kc ks : Nat), C_Rf_writePolicies_s3 sa p0 p1 p2 p3 p4 a5 s kc ks Q P3 → P3 a5 s kc ks) → P3 a5 s kc ks
def C_Rf_writePolicies (sa : Nat → Nat) (p0 : Nat) (p1 : Option Nat) (p2 : Option Nat) (p3 : Option Nat) (p4 : Int32) (s : cS) (kc ks : Nat) (Q : (cS → Nat → Nat → Prop)) : Prop := (C_Rf_writePolicies_b3 sa p0 p1 p2 p3 p4 (0 : Int32) s kc ks Q)
set_option maxRecDepth 100000 in
set_option maxHeartbeats 4000000 in
theorem kc_Rf_writePolicies (base : Nat) (sa : Nat → Nat) {R : pmM} {s : cS} {kc ks : Nat} {Rt : pmR} {p0 : Nat} {p1 : Option Nat} {p2 : Option Nat} {p3 : Option Nat} {p4 : Int32} {Q : (cS → Nat → Nat → Prop)} (hw : cW sa R base s) (h : C_Rf_writePolicies sa p0 p1 p2 p3 p4 s kc ks Q) (k : ∀ s' kc' ks', cW sa R base s' → Q s' kc' ks' → Rt none (cM R s') kc' ks') : kP_Rf_writePolicies base sa [.ref p0, va_rf p1, va_rf p2, va_rf p3, .int p4] (cM R s) kc ks Rt := by
  refine ⟨by cases p1 <;> cases p2 <;> cases p3 <;> exact Nat.le_of_ble_eq_true rfl, fun G hG => ?_⟩
  have eL : lv_args 0 [.ref p0, va_rf p1, va_rf p2, va_rf p3, .int p4] = [(0, va_rf (some p0)), (1, va_rf p1), (2, va_rf p2), (3, va_rf p3), (4, .int p4)] := by cases p1 <;> cases p2 <;> cases p3 <;> rfl
  rw [eL]
  have b3 : ∀ (a5 : Int32) (s : cS) (kc ks : Nat), KK sa R base G 3 [(0, va_rf (some p0)), (1, va_rf p1), (2, va_rf p2), (3, va_rf p3), (4, .int p4), (5, .int a5)] [] s kc ks (C_Rf_writePolicies_b3 sa p0 p1 p2 p3 p4 a5 s kc ks Q) := by
    have H : ∀ (P3 : (Int32 → cS → Nat → Nat → Prop)) (hP3 : ∀ (a5 : Int32) (s : cS) (kc ks : Nat), P3 a5 s kc ks → cW sa R base s → G 3 [(0, va_rf (some p0)), (1, va_rf p1), (2, va_rf p2), (3, va_rf p3), (4, .int p4), (5, .int a5)] [] (cM R s) kc ks) (a5 : Int32) (s : cS) (kc ks : Nat), KK sa R base G 3 [(0, va_rf (some p0)), (1, va_rf p1), (2, va_rf p2), (3, va_rf p3), (4, .int p4), (5, .int a5)] [] s kc ks (C_Rf_writePolicies_s3 sa p0 p1 p2 p3 p4 a5 s kc ks Q P3) := by
      intro P3 hP3
      have b119 : ∀ (a5 : Int32) (s : cS) (kc ks : Nat), KK sa R base G 119 [(0, va_rf (some p0)), (1, va_rf p1), (2, va_rf p2), (3, va_rf p3), (4, .int p4), (5, .int a5)] [] s kc ks (C_Rf_writePolicies_b119 sa p0 p1 p2 p3 p4 a5 s kc ks Q P3) := by
        intro a5 s kc ks
        refine kk_aln hG (x := (some p0)) rfl rfl ?_
        refine kk_gp hG (c := 11) (k := 2) (a := p0) rfl rfl rfl rfl (fun v1 => ?_)
        refine kk_ob (fun b2 eb2 => ?_)
        subst eb2
        refine kk_cv hG 0 rfl rfl (Nat.le_of_ble_eq_true rfl) (by decide) rfl (st' := []) rfl (cats_le (Nat.le_of_ble_eq_true rfl)) (fun _ hw h k => kk_rcv h.1 (kc_By_endLine base sa hw h.2 k)) (fun sr3 cr3 dr3 => ?_)
        refine kk_inc hG (L' := [(5, .int (a5 + (1 : Int32))), (0, va_rf (some p0)), (1, va_rf p1), (2, va_rf p2), (3, va_rf p3), (4, .int p4)]) rfl (Nat.le_of_ble_eq_true rfl) rfl cc_i1 rfl ?_
        refine kk_go hG (t := 3) rfl rfl ?_
        exact kk_wl hG [1, 2, 3, 4, 5, 0] rfl (fun hw h => hP3 _ _ _ _ h hw)
      have b79 : ∀ (a5 : Int32) (a6 : Option Nat) (u0 : Option Nat) (u1 : Option Nat) (s : cS) (kc ks : Nat), KK sa R base G 79 [(0, va_rf (some p0)), (1, va_rf p1), (2, va_rf p2), (3, va_rf p3), (4, .int p4), (5, .int a5), (6, va_rf a6)] [va_rf u1, va_rf u0] s kc ks (C_Rf_writePolicies_b79 sa p0 p1 p2 p3 p4 a5 a6 u0 u1 s kc ks Q P3) := by
        intro a5 a6 u0 u1 s kc ks
        refine kk_ob (fun b1 eb1 => ?_)
        subst eb1
        refine kk_cv hG 0 rfl rfl (Nat.le_of_ble_eq_true rfl) (by decide) rfl (st' := []) rfl (cats_le (Nat.le_of_ble_eq_true rfl)) (fun _ hw h k => kk_rcv h.1 (kc_By_word base sa hw h.2 k)) (fun sr2 cr2 dr2 => ?_)
        refine kk_aln hG (x := (some p0)) rfl rfl ?_
        refine kk_gp hG (c := 11) (k := 2) (a := p0) rfl rfl rfl rfl (fun v3 => ?_)
        refine kk_aln hG (x := (some p0)) rfl rfl ?_
        refine kk_gp hG (c := 11) (k := 10) (a := p0) rfl rfl rfl rfl (fun v4 => ?_)
        refine kk_al hG (x := a6) rfl rfl ?_
        refine kk_ic hG rfl cc_i2 ?_
        refine kk_ob (fun b5 eb5 => ?_)
        subst eb5
        refine kk_ia hG (a := b5) rfl (fun v6 => ?_)
        refine kk_ob (fun b7 eb7 => ?_)
        subst eb7
        refine kk_aa hG (a := b7) rfl (fun v8 => ?_)
        refine kk_ob (fun b9 eb9 => ?_)
        subst eb9
        refine kk_gp hG (c := 6) (k := 0) (a := b9) rfl rfl rfl rfl (fun v10 => ?_)
        refine kk_ob (fun b11 eb11 => ?_)
        subst eb11
        refine kk_cv hG 0 rfl rfl (Nat.le_of_ble_eq_true rfl) (by decide) rfl (st' := []) rfl (cats_le (Nat.le_of_ble_eq_true rfl)) (fun _ hw h k => kk_rcv h.1 (kc_By_word base sa hw h.2 k)) (fun sr12 cr12 dr12 => ?_)
        refine kk_al hG (x := (some b5)) rfl rfl ?_
        refine kk_ic hG rfl cc_i3 ?_
        refine kk_ia hG (a := b5) rfl (fun v13 => ?_)
        refine kk_zle hG (t := 119) rfl rfl ?_ ?_
        · exact kk_wl hG [0, 1, 2, 3, 4, 5] rfl (b119 _ _ _ _)
        refine kk_aln hG (x := (some p0)) rfl rfl ?_
        refine kk_gp hG (c := 11) (k := 2) (a := p0) rfl rfl rfl rfl (fun v14 => ?_)
        refine kk_al hG (x := (some b5)) rfl rfl ?_
        refine kk_ic hG rfl cc_i3 ?_
        refine kk_ia hG (a := b5) rfl (fun v15 => ?_)
        refine kk_ob (fun b16 eb16 => ?_)
        subst eb16
        refine kk_cv hG 0 rfl rfl (Nat.le_of_ble_eq_true rfl) (by decide) rfl (st' := []) rfl (cats_le (Nat.le_of_ble_eq_true rfl)) (fun _ hw h k => kk_rcv h.1 (kc_By_wordNumber base sa hw h.2 k)) (fun sr17 cr17 dr17 => ?_)
        exact kk_wl hG [0, 1, 2, 3, 4, 5] rfl (b119 _ _ _ _)
      intro a5 s kc ks
      refine kks hG rfl rfl ?_
      refine kks hG rfl rfl ?_
      refine kk_ige hG (t := 132) rfl rfl ?_ ?_
      · exact kk_rv hG rfl rfl k
      refine kk_aln hG (x := p3) rfl rfl ?_
      refine kks hG rfl rfl ?_
      refine kk_ob (fun b1 eb1 => ?_)
      subst eb1
      refine kk_aa hG (a := b1) rfl (fun v2 => ?_)
      refine kk_as hG (x := v2) (L' := [(6, va_rf v2), (0, va_rf (some p0)), (1, va_rf p1), (2, va_rf p2), (3, va_rf (some b1)), (4, .int p4), (5, .int a5)]) rfl (Nat.le_of_ble_eq_true rfl) rfl ?_
      refine kk_aln hG (x := (some p0)) rfl rfl ?_
      refine kk_al hG (x := v2) rfl rfl ?_
      refine kk_ic hG rfl cc_i1 ?_
      refine kk_ob (fun b3 eb3 => ?_)
      subst eb3
      refine kk_ia hG (a := b3) rfl (fun v4 => ?_)
      refine kk_cx (w := va_rf) hG 0 rfl rfl (Nat.le_of_ble_eq_true rfl) (by decide) rfl (st' := []) rfl (cats_le (Nat.le_of_ble_eq_true rfl)) (fun _ hw h k => kk_rcv h.1 (kc_Rf_linkAt base sa hw h.2 k)) (fun r5 sr5 cr5 dr5 => ?_)
      refine kk_as hG (x := r5) (L' := [(7, va_rf r5), (6, va_rf (some b3)), (0, va_rf (some p0)), (1, va_rf p1), (2, va_rf p2), (3, va_rf (some b1)), (4, .int p4), (5, .int a5)]) rfl (Nat.le_of_ble_eq_true rfl) rfl ?_
      refine kk_aln hG (x := (some p0)) rfl rfl ?_
      refine kk_gp hG (c := 11) (k := 2) (a := p0) rfl rfl rfl rfl (fun v6 => ?_)
      refine kk_aln hG (x := p2) rfl rfl ?_
      refine kk_ob (fun b7 eb7 => ?_)
      subst eb7
      refine kk_cv hG 0 rfl rfl (Nat.le_of_ble_eq_true rfl) (by decide) rfl (st' := []) rfl (cats_le (Nat.le_of_ble_eq_true rfl)) (fun _ hw h k => kk_rcv h.1 (kc_By_word base sa hw h.2 k)) (fun sr8 cr8 dr8 => ?_)
      refine kk_aln hG (x := (some p0)) rfl rfl ?_
      refine kk_gp hG (c := 11) (k := 2) (a := p0) rfl rfl rfl rfl (fun v9 => ?_)
      refine kk_aln hG (x := p1) rfl rfl ?_
      refine kk_ob (fun b10 eb10 => ?_)
      subst eb10
      refine kk_gp hG (c := 9) (k := 1) (a := b10) rfl rfl rfl rfl (fun v11 => ?_)
      refine kk_ob (fun b12 eb12 => ?_)
      subst eb12
      refine kk_cv hG 0 rfl rfl (Nat.le_of_ble_eq_true rfl) (by decide) rfl (st' := []) rfl (cats_le (Nat.le_of_ble_eq_true rfl)) (fun _ hw h k => kk_rcv h.1 (kc_By_word base sa hw h.2 k)) (fun sr13 cr13 dr13 => ?_)
      refine kk_aln hG (x := (some p0)) rfl rfl ?_
      refine kk_gp hG (c := 11) (k := 2) (a := p0) rfl rfl rfl rfl (fun v14 => ?_)
      refine kk_al hG (x := (some b3)) rfl rfl ?_
      refine kk_ic hG rfl cc_i0 ?_
      refine kk_ia hG (a := b3) rfl (fun v15 => ?_)
      refine kk_cx (w := va_rf) hG 2 rfl rfl (Nat.le_of_ble_eq_true rfl) (by decide) rfl (st' := [va_rf v14]) rfl (cats_le (Nat.le_of_ble_eq_true rfl)) (fun _ hw h k => kc_Rf_sideWord base sa hw h k) (fun r16 sr16 cr16 dr16 => ?_)
      refine kk_ob (fun b17 eb17 => ?_)
      subst eb17
      refine kk_cv hG 0 rfl rfl (Nat.le_of_ble_eq_true rfl) (by decide) rfl (st' := []) rfl (cats_le (Nat.le_of_ble_eq_true rfl)) (fun _ hw h k => kk_rcv h.1 (kc_By_word base sa hw h.2 k)) (fun sr18 cr18 dr18 => ?_)
      refine kk_aln hG (x := (some p0)) rfl rfl ?_
      refine kk_gp hG (c := 11) (k := 2) (a := p0) rfl rfl rfl rfl (fun v19 => ?_)
      refine kk_al hG (x := r5) rfl rfl ?_
      refine kk_nnl hG (x := r5) (t := 74) rfl rfl ?_ ?_
      · refine kk_al hG (x := r5) rfl rfl ?_
        refine kk_ob (fun b20 eb20 => ?_)
        subst eb20
        refine kk_gp hG (c := 3) (k := 0) (a := b20) rfl rfl rfl rfl (fun v21 => ?_)
        exact kk_wl hG [2, 3, 4, 5, 6, 7, 1] rfl (b79 _ _ _ _ _ _ _)
      refine kk_lws hG (a := sa 29) rfl rfl ?_
      refine kk_go hG (t := 79) rfl rfl ?_
      exact kk_wl hG [2, 3, 4, 5, 6, 7, 1] rfl (b79 _ _ _ _ _ _ _)
    exact fun a5 s kc ks hw h => h (fun a5 s kc ks => cW sa R base s → G 3 [(0, va_rf (some p0)), (1, va_rf p1), (2, va_rf p2), (3, va_rf p3), (4, .int p4), (5, .int a5)] [] (cM R s) kc ks) (fun a5 s kc ks hs hw => H _ (fun _ _ _ _ hp hw => hp hw) a5 s kc ks hw hs) hw
  refine (show KK sa R base G 0 [(0, va_rf (some p0)), (1, va_rf p1), (2, va_rf p2), (3, va_rf p3), (4, .int p4)] [] s kc ks (C_Rf_writePolicies sa p0 p1 p2 p3 p4 s kc ks Q) from ?_) hw h
  refine kk_ic hG rfl cc_i0 ?_
  refine kk_st hG (L' := [(5, .int (0 : Int32)), (0, va_rf (some p0)), (1, va_rf p1), (2, va_rf p2), (3, va_rf p3), (4, .int p4)]) rfl rfl (Nat.le_of_ble_eq_true rfl) rfl ?_
  exact kk_wl hG [1, 2, 3, 4, 5, 0] rfl (b3 _ _ _ _)
def C_Rf_writeExtras_b154 (sa : Nat → Nat) (p0 : Nat) (s : cS) (kc ks : Nat) (Q : (cS → Nat → Nat → Prop)) : Prop := ob (gP s 11 2 p0) (fun v1 => (ob v1 (fun b2 => (okO s 0 b2 ∧ C_By_endLine sa b2 s kc ks (fun sr3 cr3 dr3 => (Q sr3 cr3 dr3))))))
def C_Rf_writeExtras_s57 (sa : Nat → Nat) (p0 : Nat) (p1 : Option Nat) (p2 : Option Nat) (a3 : Int32) (s : cS) (kc ks : Nat) (Q : (cS → Nat → Nat → Prop)) (P57 : (Int32 → cS → Nat → Nat → Prop)) : Prop := ob p2 (fun b1 => (ob (gI s 4 12 b1) (fun v2 => (if a3 < v2 then (okO s 11 p0 ∧ C_Rf_beginPortLine sa p0 (some (sa 32)) p1 (some b1) s kc ks (fun sr13 cr13 dr13 => (ob (gP sr13 11 2 p0) (fun v14 => (ob v14 (fun b15 => (okO sr13 0 b15 ∧ C_By_word sa b15 (some (sa 3)) sr13 cr13 dr13 (fun sr16 cr16 dr16 => (ob (gP sr16 11 2 p0) (fun v17 => (ob (gP sr16 4 11 b1) (fun v18 => (ob v18 (fun b19 => (ob (rQ sr16 b19 a3) (fun v20 => (ob v17 (fun b21 => (okO sr16 0 b21 ∧ C_By_addAddress sa b21 v20 sr16 cr16 dr16 (fun sr22 cr22 dr22 => (ob (gP sr22 11 2 p0) (fun v23 => (ob v23 (fun b24 => (okO sr22 0 b24 ∧ C_By_endLine sa b24 sr22 cr22 dr22 (fun sr25 cr25 dr25 => ((P57 (a3 + (1 : Int32)) sr25 cr25 dr25)))))))))))))))))))))))))))) else ((ob (gI s 4 13 b1) (fun v3 => (if 0 < v3 then (okO s 11 p0 ∧ C_Rf_beginPortLine sa p0 (some (sa 36)) p1 (some b1) s kc ks (fun sr4 cr4 dr4 => (ob (gP sr4 11 2 p0) (fun v5 => (ob (gI sr4 4 13 b1) (fun v6 => (ob v5 (fun b7 => (okO sr4 0 b7 ∧ C_By_wordNumber sa b7 v6 sr4 cr4 dr4 (fun sr8 cr8 dr8 => (ob (gI sr8 4 14 b1) (fun v9 => (if v9 = 0 then ((C_Rf_writeExtras_b154 sa p0 sr8 cr8 dr8 Q)) else (ob (gP sr8 11 2 p0) (fun v10 => (ob v10 (fun b11 => (okO sr8 0 b11 ∧ C_By_word sa b11 (some (sa 37)) sr8 cr8 dr8 (fun sr12 cr12 dr12 => ((C_Rf_writeExtras_b154 sa p0 sr12 cr12 dr12 Q))))))))))))))))))))) else (Q s kc ks)))))))))
def C_Rf_writeExtras_b57 (sa : Nat → Nat) (p0 : Nat) (p1 : Option Nat) (p2 : Option Nat) (a3 : Int32) (s : cS) (kc ks : Nat) (Q : (cS → Nat → Nat → Prop)) : Prop := ∀ P57 : (Int32 → cS → Nat → Nat → Prop), (∀ (a3 : Int32) (s : cS) (kc ks : Nat), C_Rf_writeExtras_s57 sa p0 p1 p2 a3 s kc ks Q P57 → P57 a3 s kc ks) → P57 a3 s kc ks
def C_Rf_writeExtras_s2 (sa : Nat → Nat) (p0 : Nat) (p1 : Option Nat) (p2 : Option Nat) (a3 : Int32) (s : cS) (kc ks : Nat) (Q : (cS → Nat → Nat → Prop)) (P2 : (Int32 → cS → Nat → Nat → Prop)) : Prop := ob p2 (fun b1 => (ob (gI s 4 8 b1) (fun v2 => (if a3 < v2 then (okO s 11 p0 ∧ C_Rf_beginPortLine sa p0 (some (sa 31)) p1 (some b1) s kc ks (fun sr3 cr3 dr3 => (ob (gP sr3 11 2 p0) (fun v4 => (ob v4 (fun b5 => (okO sr3 0 b5 ∧ C_By_word sa b5 (some (sa 3)) sr3 cr3 dr3 (fun sr6 cr6 dr6 => (ob (gP sr6 11 2 p0) (fun v7 => (ob (gP sr6 4 7 b1) (fun v8 => (ob v8 (fun b9 => (ob (rQ sr6 b9 a3) (fun v10 => (ob v7 (fun b11 => (okO sr6 0 b11 ∧ C_By_addPrefix sa b11 v10 sr6 cr6 dr6 (fun sr12 cr12 dr12 => (ob (gP sr12 11 2 p0) (fun v13 => (ob v13 (fun b14 => (okO sr12 0 b14 ∧ C_By_endLine sa b14 sr12 cr12 dr12 (fun sr15 cr15 dr15 => ((P2 (a3 + (1 : Int32)) sr15 cr15 dr15)))))))))))))))))))))))))))) else (((C_Rf_writeExtras_b57 sa p0 p1 (some b1) (0 : Int32) s kc ks Q)))))))
def C_Rf_writeExtras_b2 (sa : Nat → Nat) (p0 : Nat) (p1 : Option Nat) (p2 : Option Nat) (a3 : Int32) (s : cS) (kc ks : Nat) (Q : (cS → Nat → Nat → Prop)) : Prop := ∀ P2 : (Int32 → cS → Nat → Nat → Prop), (∀ (a3 : Int32) (s : cS) (kc ks : Nat), C_Rf_writeExtras_s2 sa p0 p1 p2 a3 s kc ks Q P2 → P2 a3 s kc ks) → P2 a3 s kc ks
def C_Rf_writeExtras (sa : Nat → Nat) (p0 : Nat) (p1 : Option Nat) (p2 : Option Nat) (s : cS) (kc ks : Nat) (Q : (cS → Nat → Nat → Prop)) : Prop := (C_Rf_writeExtras_b2 sa p0 p1 p2 (0 : Int32) s kc ks Q)
set_option maxRecDepth 100000 in
set_option maxHeartbeats 4000000 in
theorem kc_Rf_writeExtras (base : Nat) (sa : Nat → Nat) {R : pmM} {s : cS} {kc ks : Nat} {Rt : pmR} {p0 : Nat} {p1 : Option Nat} {p2 : Option Nat} {Q : (cS → Nat → Nat → Prop)} (hw : cW sa R base s) (h : C_Rf_writeExtras sa p0 p1 p2 s kc ks Q) (k : ∀ s' kc' ks', cW sa R base s' → Q s' kc' ks' → Rt none (cM R s') kc' ks') : kP_Rf_writeExtras base sa [.ref p0, va_rf p1, va_rf p2] (cM R s) kc ks Rt := by
  refine ⟨by cases p1 <;> cases p2 <;> exact Nat.le_of_ble_eq_true rfl, fun G hG => ?_⟩
  have eL : lv_args 0 [.ref p0, va_rf p1, va_rf p2] = [(0, va_rf (some p0)), (1, va_rf p1), (2, va_rf p2)] := by cases p1 <;> cases p2 <;> rfl
  rw [eL]
  have b154 : ∀ (s : cS) (kc ks : Nat), KK sa R base G 154 [(0, va_rf (some p0))] [] s kc ks (C_Rf_writeExtras_b154 sa p0 s kc ks Q) := by
    intro s kc ks
    refine kk_aln hG (x := (some p0)) rfl rfl ?_
    refine kk_gp hG (c := 11) (k := 2) (a := p0) rfl rfl rfl rfl (fun v1 => ?_)
    refine kk_ob (fun b2 eb2 => ?_)
    subst eb2
    refine kk_cv hG 0 rfl rfl (Nat.le_of_ble_eq_true rfl) (by decide) rfl (st' := []) rfl (cats_le (Nat.le_of_ble_eq_true rfl)) (fun _ hw h k => kk_rcv h.1 (kc_By_endLine base sa hw h.2 k)) (fun sr3 cr3 dr3 => ?_)
    exact kk_rv hG rfl rfl k
  have b57 : ∀ (a3 : Int32) (s : cS) (kc ks : Nat), KK sa R base G 57 [(0, va_rf (some p0)), (1, va_rf p1), (2, va_rf p2), (3, .int a3)] [] s kc ks (C_Rf_writeExtras_b57 sa p0 p1 p2 a3 s kc ks Q) := by
    have H : ∀ (P57 : (Int32 → cS → Nat → Nat → Prop)) (hP57 : ∀ (a3 : Int32) (s : cS) (kc ks : Nat), P57 a3 s kc ks → cW sa R base s → G 57 [(0, va_rf (some p0)), (1, va_rf p1), (2, va_rf p2), (3, .int a3)] [] (cM R s) kc ks) (a3 : Int32) (s : cS) (kc ks : Nat), KK sa R base G 57 [(0, va_rf (some p0)), (1, va_rf p1), (2, va_rf p2), (3, .int a3)] [] s kc ks (C_Rf_writeExtras_s57 sa p0 p1 p2 a3 s kc ks Q P57) := by
      intro P57 hP57
      intro a3 s kc ks
      refine kks hG rfl rfl ?_
      refine kk_aln hG (x := p2) rfl rfl ?_
      refine kk_ob (fun b1 eb1 => ?_)
      subst eb1
      refine kk_gi hG (c := 4) (k := 12) (a := b1) rfl rfl rfl rfl (fun v2 => ?_)
      refine kk_ige hG (t := 110) rfl rfl ?_ ?_
      · refine kk_aln hG (x := (some b1)) rfl rfl ?_
        refine kk_gi hG (c := 4) (k := 13) (a := b1) rfl rfl rfl rfl (fun v3 => ?_)
        refine kk_zle hG (t := 161) rfl rfl ?_ ?_
        · exact kk_rv hG rfl rfl k
        refine kk_aln hG (x := (some p0)) rfl rfl ?_
        refine kk_lws hG (a := sa 36) rfl rfl ?_
        refine kk_aln hG (x := p1) rfl rfl ?_
        refine kk_aln hG (x := (some b1)) rfl rfl ?_
        refine kk_cv hG 0 rfl rfl (Nat.le_of_ble_eq_true rfl) (by decide) rfl (st' := []) rfl (cats_le (Nat.le_of_ble_eq_true rfl)) (fun _ hw h k => kk_rcv h.1 (kc_Rf_beginPortLine base sa hw h.2 k)) (fun sr4 cr4 dr4 => ?_)
        refine kk_aln hG (x := (some p0)) rfl rfl ?_
        refine kk_gp hG (c := 11) (k := 2) (a := p0) rfl rfl rfl rfl (fun v5 => ?_)
        refine kk_aln hG (x := (some b1)) rfl rfl ?_
        refine kk_gi hG (c := 4) (k := 13) (a := b1) rfl rfl rfl rfl (fun v6 => ?_)
        refine kk_ob (fun b7 eb7 => ?_)
        subst eb7
        refine kk_cv hG 0 rfl rfl (Nat.le_of_ble_eq_true rfl) (by decide) rfl (st' := []) rfl (cats_le (Nat.le_of_ble_eq_true rfl)) (fun _ hw h k => kk_rcv h.1 (kc_By_wordNumber base sa hw h.2 k)) (fun sr8 cr8 dr8 => ?_)
        refine kk_aln hG (x := (some b1)) rfl rfl ?_
        refine kk_gi hG (c := 4) (k := 14) (a := b1) rfl rfl rfl rfl (fun v9 => ?_)
        refine kk_zeq hG (t := 154) rfl rfl ?_ ?_
        · exact kk_wl hG [0] rfl (b154 _ _ _)
        refine kk_aln hG (x := (some p0)) rfl rfl ?_
        refine kk_gp hG (c := 11) (k := 2) (a := p0) rfl rfl rfl rfl (fun v10 => ?_)
        refine kk_lws hG (a := sa 37) rfl rfl ?_
        refine kk_ob (fun b11 eb11 => ?_)
        subst eb11
        refine kk_cv hG 0 rfl rfl (Nat.le_of_ble_eq_true rfl) (by decide) rfl (st' := []) rfl (cats_le (Nat.le_of_ble_eq_true rfl)) (fun _ hw h k => kk_rcv h.1 (kc_By_word base sa hw h.2 k)) (fun sr12 cr12 dr12 => ?_)
        exact kk_wl hG [0] rfl (b154 _ _ _)
      refine kk_aln hG (x := (some p0)) rfl rfl ?_
      refine kk_lws hG (a := sa 32) rfl rfl ?_
      refine kk_aln hG (x := p1) rfl rfl ?_
      refine kk_aln hG (x := (some b1)) rfl rfl ?_
      refine kk_cv hG 0 rfl rfl (Nat.le_of_ble_eq_true rfl) (by decide) rfl (st' := []) rfl (cats_le (Nat.le_of_ble_eq_true rfl)) (fun _ hw h k => kk_rcv h.1 (kc_Rf_beginPortLine base sa hw h.2 k)) (fun sr13 cr13 dr13 => ?_)
      refine kk_aln hG (x := (some p0)) rfl rfl ?_
      refine kk_gp hG (c := 11) (k := 2) (a := p0) rfl rfl rfl rfl (fun v14 => ?_)
      refine kk_lws hG (a := sa 3) rfl rfl ?_
      refine kk_ob (fun b15 eb15 => ?_)
      subst eb15
      refine kk_cv hG 0 rfl rfl (Nat.le_of_ble_eq_true rfl) (by decide) rfl (st' := []) rfl (cats_le (Nat.le_of_ble_eq_true rfl)) (fun _ hw h k => kk_rcv h.1 (kc_By_word base sa hw h.2 k)) (fun sr16 cr16 dr16 => ?_)
      refine kk_aln hG (x := (some p0)) rfl rfl ?_
      refine kk_gp hG (c := 11) (k := 2) (a := p0) rfl rfl rfl rfl (fun v17 => ?_)
      refine kk_aln hG (x := (some b1)) rfl rfl ?_
      refine kk_gp hG (c := 4) (k := 11) (a := b1) rfl rfl rfl rfl (fun v18 => ?_)
      refine kks hG rfl rfl ?_
      refine kk_ob (fun b19 eb19 => ?_)
      subst eb19
      refine kk_aa hG (a := b19) rfl (fun v20 => ?_)
      refine kk_ob (fun b21 eb21 => ?_)
      subst eb21
      refine kk_cv hG 0 rfl rfl (Nat.le_of_ble_eq_true rfl) (by decide) rfl (st' := []) rfl (cats_le (Nat.le_of_ble_eq_true rfl)) (fun _ hw h k => kk_rcv h.1 (kc_By_addAddress base sa hw h.2 k)) (fun sr22 cr22 dr22 => ?_)
      refine kk_aln hG (x := (some p0)) rfl rfl ?_
      refine kk_gp hG (c := 11) (k := 2) (a := p0) rfl rfl rfl rfl (fun v23 => ?_)
      refine kk_ob (fun b24 eb24 => ?_)
      subst eb24
      refine kk_cv hG 0 rfl rfl (Nat.le_of_ble_eq_true rfl) (by decide) rfl (st' := []) rfl (cats_le (Nat.le_of_ble_eq_true rfl)) (fun _ hw h k => kk_rcv h.1 (kc_By_endLine base sa hw h.2 k)) (fun sr25 cr25 dr25 => ?_)
      refine kk_inc hG (L' := [(3, .int (a3 + (1 : Int32))), (0, va_rf (some p0)), (1, va_rf p1), (2, va_rf (some b1))]) rfl (Nat.le_of_ble_eq_true rfl) rfl cc_i1 rfl ?_
      refine kk_go hG (t := 57) rfl rfl ?_
      exact kk_wl hG [1, 2, 3, 0] rfl (fun hw h => hP57 _ _ _ _ h hw)
    exact fun a3 s kc ks hw h => h (fun a3 s kc ks => cW sa R base s → G 57 [(0, va_rf (some p0)), (1, va_rf p1), (2, va_rf p2), (3, .int a3)] [] (cM R s) kc ks) (fun a3 s kc ks hs hw => H _ (fun _ _ _ _ hp hw => hp hw) a3 s kc ks hw hs) hw
  have b2 : ∀ (a3 : Int32) (s : cS) (kc ks : Nat), KK sa R base G 2 [(0, va_rf (some p0)), (1, va_rf p1), (2, va_rf p2), (3, .int a3)] [] s kc ks (C_Rf_writeExtras_b2 sa p0 p1 p2 a3 s kc ks Q) := by
    have H : ∀ (P2 : (Int32 → cS → Nat → Nat → Prop)) (hP2 : ∀ (a3 : Int32) (s : cS) (kc ks : Nat), P2 a3 s kc ks → cW sa R base s → G 2 [(0, va_rf (some p0)), (1, va_rf p1), (2, va_rf p2), (3, .int a3)] [] (cM R s) kc ks) (a3 : Int32) (s : cS) (kc ks : Nat), KK sa R base G 2 [(0, va_rf (some p0)), (1, va_rf p1), (2, va_rf p2), (3, .int a3)] [] s kc ks (C_Rf_writeExtras_s2 sa p0 p1 p2 a3 s kc ks Q P2) := by
      intro P2 hP2
      intro a3 s kc ks
      refine kks hG rfl rfl ?_
      refine kk_aln hG (x := p2) rfl rfl ?_
      refine kk_ob (fun b1 eb1 => ?_)
      subst eb1
      refine kk_gi hG (c := 4) (k := 8) (a := b1) rfl rfl rfl rfl (fun v2 => ?_)
      refine kk_ige hG (t := 55) rfl rfl ?_ ?_
      · refine kk_ic hG rfl cc_i0 ?_
        refine kk_st hG (L' := [(3, .int (0 : Int32)), (0, va_rf (some p0)), (1, va_rf p1), (2, va_rf (some b1))]) rfl rfl (Nat.le_of_ble_eq_true rfl) rfl ?_
        exact kk_wl hG [1, 2, 3, 0] rfl (b57 _ _ _ _)
      refine kk_aln hG (x := (some p0)) rfl rfl ?_
      refine kk_lws hG (a := sa 31) rfl rfl ?_
      refine kk_aln hG (x := p1) rfl rfl ?_
      refine kk_aln hG (x := (some b1)) rfl rfl ?_
      refine kk_cv hG 0 rfl rfl (Nat.le_of_ble_eq_true rfl) (by decide) rfl (st' := []) rfl (cats_le (Nat.le_of_ble_eq_true rfl)) (fun _ hw h k => kk_rcv h.1 (kc_Rf_beginPortLine base sa hw h.2 k)) (fun sr3 cr3 dr3 => ?_)
      refine kk_aln hG (x := (some p0)) rfl rfl ?_
      refine kk_gp hG (c := 11) (k := 2) (a := p0) rfl rfl rfl rfl (fun v4 => ?_)
      refine kk_lws hG (a := sa 3) rfl rfl ?_
      refine kk_ob (fun b5 eb5 => ?_)
      subst eb5
      refine kk_cv hG 0 rfl rfl (Nat.le_of_ble_eq_true rfl) (by decide) rfl (st' := []) rfl (cats_le (Nat.le_of_ble_eq_true rfl)) (fun _ hw h k => kk_rcv h.1 (kc_By_word base sa hw h.2 k)) (fun sr6 cr6 dr6 => ?_)
      refine kk_aln hG (x := (some p0)) rfl rfl ?_
      refine kk_gp hG (c := 11) (k := 2) (a := p0) rfl rfl rfl rfl (fun v7 => ?_)
      refine kk_aln hG (x := (some b1)) rfl rfl ?_
      refine kk_gp hG (c := 4) (k := 7) (a := b1) rfl rfl rfl rfl (fun v8 => ?_)
      refine kks hG rfl rfl ?_
      refine kk_ob (fun b9 eb9 => ?_)
      subst eb9
      refine kk_aa hG (a := b9) rfl (fun v10 => ?_)
      refine kk_ob (fun b11 eb11 => ?_)
      subst eb11
      refine kk_cv hG 0 rfl rfl (Nat.le_of_ble_eq_true rfl) (by decide) rfl (st' := []) rfl (cats_le (Nat.le_of_ble_eq_true rfl)) (fun _ hw h k => kk_rcv h.1 (kc_By_addPrefix base sa hw h.2 k)) (fun sr12 cr12 dr12 => ?_)
      refine kk_aln hG (x := (some p0)) rfl rfl ?_
      refine kk_gp hG (c := 11) (k := 2) (a := p0) rfl rfl rfl rfl (fun v13 => ?_)
      refine kk_ob (fun b14 eb14 => ?_)
      subst eb14
      refine kk_cv hG 0 rfl rfl (Nat.le_of_ble_eq_true rfl) (by decide) rfl (st' := []) rfl (cats_le (Nat.le_of_ble_eq_true rfl)) (fun _ hw h k => kk_rcv h.1 (kc_By_endLine base sa hw h.2 k)) (fun sr15 cr15 dr15 => ?_)
      refine kk_inc hG (L' := [(3, .int (a3 + (1 : Int32))), (0, va_rf (some p0)), (1, va_rf p1), (2, va_rf (some b1))]) rfl (Nat.le_of_ble_eq_true rfl) rfl cc_i1 rfl ?_
      refine kk_go hG (t := 2) rfl rfl ?_
      exact kk_wl hG [1, 2, 3, 0] rfl (fun hw h => hP2 _ _ _ _ h hw)
    exact fun a3 s kc ks hw h => h (fun a3 s kc ks => cW sa R base s → G 2 [(0, va_rf (some p0)), (1, va_rf p1), (2, va_rf p2), (3, .int a3)] [] (cM R s) kc ks) (fun a3 s kc ks hs hw => H _ (fun _ _ _ _ hp hw => hp hw) a3 s kc ks hw hs) hw
  refine (show KK sa R base G 0 [(0, va_rf (some p0)), (1, va_rf p1), (2, va_rf p2)] [] s kc ks (C_Rf_writeExtras sa p0 p1 p2 s kc ks Q) from ?_) hw h
  refine kk_ic hG rfl cc_i0 ?_
  refine kk_st hG (L' := [(3, .int (0 : Int32)), (0, va_rf (some p0)), (1, va_rf p1), (2, va_rf p2)]) rfl rfl (Nat.le_of_ble_eq_true rfl) (by cases p2 <;> rfl) ?_
  exact kk_wl hG [1, 2, 3, 0] rfl (b2 _ _ _ _)
def C_Rf_writeShare_b135 (sa : Nat → Nat) (p0 : Nat) (s : cS) (kc ks : Nat) (Q : (cS → Nat → Nat → Prop)) : Prop := ob (gP s 11 2 p0) (fun v1 => (ob v1 (fun b2 => (okO s 0 b2 ∧ C_By_endLine sa b2 s kc ks (fun sr3 cr3 dr3 => (Q sr3 cr3 dr3))))))
def C_Rf_writeShare_b110 (sa : Nat → Nat) (p0 : Nat) (a4 : Int32) (s : cS) (kc ks : Nat) (Q : (cS → Nat → Nat → Prop)) : Prop := if a4 = ((-1) : Int32) then ((C_Rf_writeShare_b135 sa p0 s kc ks Q)) else (ob (gP s 11 2 p0) (fun v1 => (ob v1 (fun b2 => (okO s 0 b2 ∧ C_By_word sa b2 (some (sa 18)) s kc ks (fun sr3 cr3 dr3 => (ob (gP sr3 11 2 p0) (fun v4 => (ob v4 (fun b5 => (okO sr3 0 b5 ∧ C_By_wordNumber sa b5 a4 sr3 cr3 dr3 (fun sr6 cr6 dr6 => ((C_Rf_writeShare_b135 sa p0 sr6 cr6 dr6 Q))))))))))))))
def C_Rf_writeShare_b64 (sa : Nat → Nat) (p0 : Nat) (a3 : Int32) (a4 : Int32) (u0 : Option Nat) (u1 : Option Nat) (s : cS) (kc ks : Nat) (Q : (cS → Nat → Nat → Prop)) : Prop := ob u0 (fun b1 => (okO s 0 b1 ∧ C_By_word sa b1 u1 s kc ks (fun sr2 cr2 dr2 => (if a3 = 0 then (ob (gP sr2 11 2 p0) (fun v9 => (ob v9 (fun b10 => (okO sr2 0 b10 ∧ C_By_word sa b10 (some (sa 35)) sr2 cr2 dr2 (fun sr11 cr11 dr11 => ((C_Rf_writeShare_b110 sa p0 a4 sr11 cr11 dr11 Q)))))))) else (if a3 = ((-1) : Int32) then (ob (gP sr2 11 2 p0) (fun v6 => (ob v6 (fun b7 => (okO sr2 0 b7 ∧ C_By_word sa b7 (some (sa 12)) sr2 cr2 dr2 (fun sr8 cr8 dr8 => ((C_Rf_writeShare_b110 sa p0 a4 sr8 cr8 dr8 Q)))))))) else (ob (gP sr2 11 2 p0) (fun v3 => (ob v3 (fun b4 => (okO sr2 0 b4 ∧ C_By_wordNumber sa b4 a3 sr2 cr2 dr2 (fun sr5 cr5 dr5 => ((C_Rf_writeShare_b110 sa p0 a4 sr5 cr5 dr5 Q)))))))))))))
def C_Rf_writeShare_b26 (sa : Nat → Nat) (p0 : Nat) (p1 : Option Nat) (p2 : Int32) (a3 : Int32) (a4 : Int32) (s : cS) (kc ks : Nat) (Q : (cS → Nat → Nat → Prop)) : Prop := ob (gP s 11 2 p0) (fun v1 => (ob v1 (fun b2 => (okO s 0 b2 ∧ C_By_word sa b2 (some (sa 33)) s kc ks (fun sr3 cr3 dr3 => (ob (gP sr3 11 2 p0) (fun v4 => (ob p1 (fun b5 => (ob (gP sr3 9 1 b5) (fun v6 => (ob v4 (fun b7 => (okO sr3 0 b7 ∧ C_By_word sa b7 v6 sr3 cr3 dr3 (fun sr8 cr8 dr8 => (ob (gP sr8 11 2 p0) (fun v9 => (if p2 = 0 then ((C_Rf_writeShare_b64 sa p0 a3 a4 v9 (some (sa 34)) sr8 cr8 dr8 Q)) else ((C_Rf_writeShare_b64 sa p0 a3 a4 v9 (some (sa 17)) sr8 cr8 dr8 Q))))))))))))))))))))
def C_Rf_writeShare (sa : Nat → Nat) (p0 : Nat) (p1 : Option Nat) (p2 : Int32) (s : cS) (kc ks : Nat) (Q : (cS → Nat → Nat → Prop)) : Prop := ob p1 (fun b1 => (ob (gP s 9 13 b1) (fun v2 => (ob v2 (fun b3 => (ob (rE s .int b3 p2) (fun v4 => (ob (gP s 9 14 b1) (fun v5 => (ob v5 (fun b6 => (ob (rE s .int b6 p2) (fun v7 => (if v4 = 0 then (if v7 = ((-1) : Int32) then (Q s kc ks) else ((C_Rf_writeShare_b26 sa p0 (some b1) p2 v4 v7 s kc ks Q))) else ((C_Rf_writeShare_b26 sa p0 (some b1) p2 v4 v7 s kc ks Q))))))))))))))))
set_option maxRecDepth 100000 in
set_option maxHeartbeats 4000000 in
theorem kc_Rf_writeShare (base : Nat) (sa : Nat → Nat) {R : pmM} {s : cS} {kc ks : Nat} {Rt : pmR} {p0 : Nat} {p1 : Option Nat} {p2 : Int32} {Q : (cS → Nat → Nat → Prop)} (hw : cW sa R base s) (h : C_Rf_writeShare sa p0 p1 p2 s kc ks Q) (k : ∀ s' kc' ks', cW sa R base s' → Q s' kc' ks' → Rt none (cM R s') kc' ks') : kP_Rf_writeShare base sa [.ref p0, va_rf p1, .int p2] (cM R s) kc ks Rt := by
  refine ⟨by cases p1 <;> exact Nat.le_of_ble_eq_true rfl, fun G hG => ?_⟩
  have eL : lv_args 0 [.ref p0, va_rf p1, .int p2] = [(0, va_rf (some p0)), (1, va_rf p1), (2, .int p2)] := by cases p1 <;> rfl
  rw [eL]
  have b135 : ∀ (s : cS) (kc ks : Nat), KK sa R base G 135 [(0, va_rf (some p0))] [] s kc ks (C_Rf_writeShare_b135 sa p0 s kc ks Q) := by
    intro s kc ks
    refine kk_aln hG (x := (some p0)) rfl rfl ?_
    refine kk_gp hG (c := 11) (k := 2) (a := p0) rfl rfl rfl rfl (fun v1 => ?_)
    refine kk_ob (fun b2 eb2 => ?_)
    subst eb2
    refine kk_cv hG 0 rfl rfl (Nat.le_of_ble_eq_true rfl) (by decide) rfl (st' := []) rfl (cats_le (Nat.le_of_ble_eq_true rfl)) (fun _ hw h k => kk_rcv h.1 (kc_By_endLine base sa hw h.2 k)) (fun sr3 cr3 dr3 => ?_)
    exact kk_rv hG rfl rfl k
  have b110 : ∀ (a4 : Int32) (s : cS) (kc ks : Nat), KK sa R base G 110 [(0, va_rf (some p0)), (4, .int a4)] [] s kc ks (C_Rf_writeShare_b110 sa p0 a4 s kc ks Q) := by
    intro a4 s kc ks
    refine kks hG rfl rfl ?_
    refine kk_ic hG rfl cc_im1 ?_
    refine kk_ieq hG (t := 135) rfl rfl ?_ ?_
    · exact kk_wl hG [0] rfl (b135 _ _ _)
    refine kk_aln hG (x := (some p0)) rfl rfl ?_
    refine kk_gp hG (c := 11) (k := 2) (a := p0) rfl rfl rfl rfl (fun v1 => ?_)
    refine kk_lws hG (a := sa 18) rfl rfl ?_
    refine kk_ob (fun b2 eb2 => ?_)
    subst eb2
    refine kk_cv hG 0 rfl rfl (Nat.le_of_ble_eq_true rfl) (by decide) rfl (st' := []) rfl (cats_le (Nat.le_of_ble_eq_true rfl)) (fun _ hw h k => kk_rcv h.1 (kc_By_word base sa hw h.2 k)) (fun sr3 cr3 dr3 => ?_)
    refine kk_aln hG (x := (some p0)) rfl rfl ?_
    refine kk_gp hG (c := 11) (k := 2) (a := p0) rfl rfl rfl rfl (fun v4 => ?_)
    refine kks hG rfl rfl ?_
    refine kk_ob (fun b5 eb5 => ?_)
    subst eb5
    refine kk_cv hG 0 rfl rfl (Nat.le_of_ble_eq_true rfl) (by decide) rfl (st' := []) rfl (cats_le (Nat.le_of_ble_eq_true rfl)) (fun _ hw h k => kk_rcv h.1 (kc_By_wordNumber base sa hw h.2 k)) (fun sr6 cr6 dr6 => ?_)
    exact kk_wl hG [0] rfl (b135 _ _ _)
  have b64 : ∀ (a3 : Int32) (a4 : Int32) (u0 : Option Nat) (u1 : Option Nat) (s : cS) (kc ks : Nat), KK sa R base G 64 [(0, va_rf (some p0)), (3, .int a3), (4, .int a4)] [va_rf u1, va_rf u0] s kc ks (C_Rf_writeShare_b64 sa p0 a3 a4 u0 u1 s kc ks Q) := by
    intro a3 a4 u0 u1 s kc ks
    refine kk_ob (fun b1 eb1 => ?_)
    subst eb1
    refine kk_cv hG 0 rfl rfl (Nat.le_of_ble_eq_true rfl) (by decide) rfl (st' := []) rfl (cats_le (Nat.le_of_ble_eq_true rfl)) (fun _ hw h k => kk_rcv h.1 (kc_By_word base sa hw h.2 k)) (fun sr2 cr2 dr2 => ?_)
    refine kks hG rfl rfl ?_
    refine kk_zne hG (t := 84) rfl rfl ?_ ?_
    · refine kks hG rfl rfl ?_
      refine kk_ic hG rfl cc_im1 ?_
      refine kk_ine hG (t := 102) rfl rfl ?_ ?_
      · refine kk_aln hG (x := (some p0)) rfl rfl ?_
        refine kk_gp hG (c := 11) (k := 2) (a := p0) rfl rfl rfl rfl (fun v3 => ?_)
        refine kks hG rfl rfl ?_
        refine kk_ob (fun b4 eb4 => ?_)
        subst eb4
        refine kk_cv hG 0 rfl rfl (Nat.le_of_ble_eq_true rfl) (by decide) rfl (st' := []) rfl (cats_le (Nat.le_of_ble_eq_true rfl)) (fun _ hw h k => kk_rcv h.1 (kc_By_wordNumber base sa hw h.2 k)) (fun sr5 cr5 dr5 => ?_)
        exact kk_wl hG [0, 2] rfl (b110 _ _ _ _)
      refine kk_aln hG (x := (some p0)) rfl rfl ?_
      refine kk_gp hG (c := 11) (k := 2) (a := p0) rfl rfl rfl rfl (fun v6 => ?_)
      refine kk_lws hG (a := sa 12) rfl rfl ?_
      refine kk_ob (fun b7 eb7 => ?_)
      subst eb7
      refine kk_cv hG 0 rfl rfl (Nat.le_of_ble_eq_true rfl) (by decide) rfl (st' := []) rfl (cats_le (Nat.le_of_ble_eq_true rfl)) (fun _ hw h k => kk_rcv h.1 (kc_By_word base sa hw h.2 k)) (fun sr8 cr8 dr8 => ?_)
      refine kk_go hG (t := 110) rfl rfl ?_
      exact kk_wl hG [0, 2] rfl (b110 _ _ _ _)
    refine kk_aln hG (x := (some p0)) rfl rfl ?_
    refine kk_gp hG (c := 11) (k := 2) (a := p0) rfl rfl rfl rfl (fun v9 => ?_)
    refine kk_lws hG (a := sa 35) rfl rfl ?_
    refine kk_ob (fun b10 eb10 => ?_)
    subst eb10
    refine kk_cv hG 0 rfl rfl (Nat.le_of_ble_eq_true rfl) (by decide) rfl (st' := []) rfl (cats_le (Nat.le_of_ble_eq_true rfl)) (fun _ hw h k => kk_rcv h.1 (kc_By_word base sa hw h.2 k)) (fun sr11 cr11 dr11 => ?_)
    refine kk_go hG (t := 110) rfl rfl ?_
    exact kk_wl hG [0, 2] rfl (b110 _ _ _ _)
  have b26 : ∀ (a3 : Int32) (a4 : Int32) (s : cS) (kc ks : Nat), KK sa R base G 26 [(0, va_rf (some p0)), (1, va_rf p1), (2, .int p2), (3, .int a3), (4, .int a4)] [] s kc ks (C_Rf_writeShare_b26 sa p0 p1 p2 a3 a4 s kc ks Q) := by
    intro a3 a4 s kc ks
    refine kk_aln hG (x := (some p0)) rfl rfl ?_
    refine kk_gp hG (c := 11) (k := 2) (a := p0) rfl rfl rfl rfl (fun v1 => ?_)
    refine kk_lws hG (a := sa 33) rfl rfl ?_
    refine kk_ob (fun b2 eb2 => ?_)
    subst eb2
    refine kk_cv hG 0 rfl rfl (Nat.le_of_ble_eq_true rfl) (by decide) rfl (st' := []) rfl (cats_le (Nat.le_of_ble_eq_true rfl)) (fun _ hw h k => kk_rcv h.1 (kc_By_word base sa hw h.2 k)) (fun sr3 cr3 dr3 => ?_)
    refine kk_aln hG (x := (some p0)) rfl rfl ?_
    refine kk_gp hG (c := 11) (k := 2) (a := p0) rfl rfl rfl rfl (fun v4 => ?_)
    refine kk_aln hG (x := p1) rfl rfl ?_
    refine kk_ob (fun b5 eb5 => ?_)
    subst eb5
    refine kk_gp hG (c := 9) (k := 1) (a := b5) rfl rfl rfl rfl (fun v6 => ?_)
    refine kk_ob (fun b7 eb7 => ?_)
    subst eb7
    refine kk_cv hG 0 rfl rfl (Nat.le_of_ble_eq_true rfl) (by decide) rfl (st' := []) rfl (cats_le (Nat.le_of_ble_eq_true rfl)) (fun _ hw h k => kk_rcv h.1 (kc_By_word base sa hw h.2 k)) (fun sr8 cr8 dr8 => ?_)
    refine kk_aln hG (x := (some p0)) rfl rfl ?_
    refine kk_gp hG (c := 11) (k := 2) (a := p0) rfl rfl rfl rfl (fun v9 => ?_)
    refine kks hG rfl rfl ?_
    refine kk_zne hG (t := 61) rfl rfl ?_ ?_
    · refine kk_lws hG (a := sa 17) rfl rfl ?_
      exact kk_wl hG [0, 3, 4] rfl (b64 _ _ _ _ _ _ _)
    refine kk_lws hG (a := sa 34) rfl rfl ?_
    refine kk_go hG (t := 64) rfl rfl ?_
    exact kk_wl hG [0, 3, 4] rfl (b64 _ _ _ _ _ _ _)
  refine (show KK sa R base G 0 [(0, va_rf (some p0)), (1, va_rf p1), (2, .int p2)] [] s kc ks (C_Rf_writeShare sa p0 p1 p2 s kc ks Q) from ?_) hw h
  refine kk_aln hG (x := p1) rfl rfl ?_
  refine kk_ob (fun b1 eb1 => ?_)
  subst eb1
  refine kk_gp hG (c := 9) (k := 13) (a := b1) rfl rfl rfl rfl (fun v2 => ?_)
  refine kks hG rfl rfl ?_
  refine kk_ob (fun b3 eb3 => ?_)
  subst eb3
  refine kk_ia hG (a := b3) rfl (fun v4 => ?_)
  refine kk_st hG (L' := [(3, .int v4), (0, va_rf (some p0)), (1, va_rf (some b1)), (2, .int p2)]) rfl rfl (Nat.le_of_ble_eq_true rfl) rfl ?_
  refine kk_aln hG (x := (some b1)) rfl rfl ?_
  refine kk_gp hG (c := 9) (k := 14) (a := b1) rfl rfl rfl rfl (fun v5 => ?_)
  refine kks hG rfl rfl ?_
  refine kk_ob (fun b6 eb6 => ?_)
  subst eb6
  refine kk_ia hG (a := b6) rfl (fun v7 => ?_)
  refine kk_st hG (L' := [(4, .int v7), (3, .int v4), (0, va_rf (some p0)), (1, va_rf (some b1)), (2, .int p2)]) rfl rfl (Nat.le_of_ble_eq_true rfl) rfl ?_
  refine kks hG rfl rfl ?_
  refine kk_zne hG (t := 26) rfl rfl ?_ ?_
  · exact kk_wl hG [2, 3, 4, 1, 0] rfl (b26 _ _ _ _ _)
  refine kks hG rfl rfl ?_
  refine kk_ic hG rfl cc_im1 ?_
  refine kk_ine hG (t := 26) rfl rfl ?_ ?_
  · exact kk_wl hG [2, 3, 4, 1, 0] rfl (b26 _ _ _ _ _)
  exact kk_rv hG rfl rfl k
