/-! Methods as weakest preconditions, by program: By_addDecimal .. Rf_show -/
def C_By_addDecimal_s31 (sa : Nat → Nat) (p0 : Nat) (p1 : Int32) (a2 : Int32) (a3 : Int32) (s : cS) (kc ks : Nat) (Q : (cS → Nat → Nat → Prop)) (P31 : (Int32 → Int32 → cS → Nat → Nat → Prop)) : Prop := if a3 < (10 : Int32) then (if 0 < a2 then (¬ a2 = 0 ∧ (okO s 0 p0 ∧ C_By_add sa p0 ((48 : Int32) + (rem_I (p1 / a2) (10 : Int32))) s kc ks (fun sr1 cr1 dr1 => ((P31 (a2 / (10 : Int32)) (a3 + (1 : Int32)) sr1 cr1 dr1))))) else ((Q s kc ks))) else ((Q s kc ks))
def C_By_addDecimal_b31 (sa : Nat → Nat) (p0 : Nat) (p1 : Int32) (a2 : Int32) (a3 : Int32) (s : cS) (kc ks : Nat) (Q : (cS → Nat → Nat → Prop)) : Prop := ∀ P31 : (Int32 → Int32 → cS → Nat → Nat → Prop), (∀ (a2 : Int32) (a3 : Int32) (s : cS) (kc ks : Nat), C_By_addDecimal_s31 sa p0 p1 a2 a3 s kc ks Q P31 → P31 a2 a3 s kc ks) → P31 a2 a3 s kc ks
def C_By_addDecimal_b29 (sa : Nat → Nat) (p0 : Nat) (p1 : Int32) (a2 : Int32) (s : cS) (kc ks : Nat) (Q : (cS → Nat → Nat → Prop)) : Prop := (C_By_addDecimal_b31 sa p0 p1 a2 (0 : Int32) s kc ks Q)
def C_By_addDecimal_s4 (sa : Nat → Nat) (p0 : Nat) (p1 : Int32) (a2 : Int32) (a3 : Int32) (s : cS) (kc ks : Nat) (Q : (cS → Nat → Nat → Prop)) (P4 : (Int32 → Int32 → cS → Nat → Nat → Prop)) : Prop := if a3 < (9 : Int32) then (¬ a2 = 0 ∧ (if (p1 / a2) < (10 : Int32) then ((C_By_addDecimal_b29 sa p0 p1 a2 s kc ks Q)) else ((P4 (a2 * (10 : Int32)) (a3 + (1 : Int32)) s kc ks)))) else ((C_By_addDecimal_b29 sa p0 p1 a2 s kc ks Q))
def C_By_addDecimal_b4 (sa : Nat → Nat) (p0 : Nat) (p1 : Int32) (a2 : Int32) (a3 : Int32) (s : cS) (kc ks : Nat) (Q : (cS → Nat → Nat → Prop)) : Prop := ∀ P4 : (Int32 → Int32 → cS → Nat → Nat → Prop), (∀ (a2 : Int32) (a3 : Int32) (s : cS) (kc ks : Nat), C_By_addDecimal_s4 sa p0 p1 a2 a3 s kc ks Q P4 → P4 a2 a3 s kc ks) → P4 a2 a3 s kc ks
def C_By_addDecimal (sa : Nat → Nat) (p0 : Nat) (p1 : Int32) (s : cS) (kc ks : Nat) (Q : (cS → Nat → Nat → Prop)) : Prop := (C_By_addDecimal_b4 sa p0 p1 (1 : Int32) (0 : Int32) s kc ks Q)
set_option maxRecDepth 100000 in
set_option maxHeartbeats 4000000 in
theorem kc_By_addDecimal (base : Nat) (sa : Nat → Nat) {R : pmM} {s : cS} {kc ks : Nat} {Rt : pmR} {p0 : Nat} {p1 : Int32} {Q : (cS → Nat → Nat → Prop)} (hw : cW sa R base s) (h : C_By_addDecimal sa p0 p1 s kc ks Q) (k : ∀ s' kc' ks', cW sa R base s' → Q s' kc' ks' → Rt none (cM R s') kc' ks') : kP_By_addDecimal base sa [.ref p0, .int p1] (cM R s) kc ks Rt := by
  refine ⟨Nat.le_of_ble_eq_true rfl, fun G hG => ?_⟩
  have b31 : ∀ (a2 : Int32) (a3 : Int32) (s : cS) (kc ks : Nat), KK sa R base G 31 [(0, va_rf (some p0)), (1, .int p1), (2, .int a2), (3, .int a3)] [] s kc ks (C_By_addDecimal_b31 sa p0 p1 a2 a3 s kc ks Q) := by
    have H : ∀ (P31 : (Int32 → Int32 → cS → Nat → Nat → Prop)) (hP31 : ∀ (a2 : Int32) (a3 : Int32) (s : cS) (kc ks : Nat), P31 a2 a3 s kc ks → cW sa R base s → G 31 [(0, va_rf (some p0)), (1, .int p1), (2, .int a2), (3, .int a3)] [] (cM R s) kc ks) (a2 : Int32) (a3 : Int32) (s : cS) (kc ks : Nat), KK sa R base G 31 [(0, va_rf (some p0)), (1, .int p1), (2, .int a2), (3, .int a3)] [] s kc ks (C_By_addDecimal_s31 sa p0 p1 a2 a3 s kc ks Q P31) := by
      intro P31 hP31
      intro a2 a3 s kc ks
      refine kks hG rfl rfl ?_
      refine kk_bi hG rfl cc_b10 ?_
      refine kk_ige hG (t := 65) rfl rfl ?_ ?_
      · exact kk_rv hG rfl rfl k
      refine kks hG rfl rfl ?_
      refine kk_zle hG (t := 65) rfl rfl ?_ ?_
      · exact kk_rv hG rfl rfl k
      refine kk_aln hG (x := (some p0)) rfl rfl ?_
      refine kk_bi hG rfl cc_b48 ?_
      refine kks hG rfl rfl ?_
      refine kks hG rfl rfl ?_
      refine kk_nz hG rfl rfl ?_
      refine kk_bi hG rfl cc_b10 ?_
      refine kkc hG rfl rfl (by decide) ?_
      refine kks hG rfl rfl ?_
      refine kk_cv hG 0 rfl rfl (Nat.le_of_ble_eq_true rfl) (by decide) rfl (st' := []) rfl (cats_le (Nat.le_of_ble_eq_true rfl)) (fun _ hw h k => kk_rcv h.1 (kc_By_add base sa hw h.2 k)) (fun sr1 cr1 dr1 => ?_)
      refine kks hG rfl rfl ?_
      refine kk_bi hG rfl cc_b10 ?_
      refine kkc hG rfl rfl (by decide) ?_
      refine kk_st hG (L' := [(2, .int (a2 / (10 : Int32))), (0, va_rf (some p0)), (1, .int p1), (3, .int a3)]) rfl rfl (Nat.le_of_ble_eq_true rfl) rfl ?_
      refine kk_inc hG (L' := [(3, .int (a3 + (1 : Int32))), (2, .int (a2 / (10 : Int32))), (0, va_rf (some p0)), (1, .int p1)]) rfl (Nat.le_of_ble_eq_true rfl) rfl cc_i1 rfl ?_
      refine kk_go hG (t := 31) rfl rfl ?_
      exact kk_wl hG [2, 3, 1, 0] rfl (fun hw h => hP31 _ _ _ _ _ h hw)
    exact fun a2 a3 s kc ks hw h => h (fun a2 a3 s kc ks => cW sa R base s → G 31 [(0, va_rf (some p0)), (1, .int p1), (2, .int a2), (3, .int a3)] [] (cM R s) kc ks) (fun a2 a3 s kc ks hs hw => H _ (fun _ _ _ _ _ hp hw => hp hw) a2 a3 s kc ks hw hs) hw
  have b29 : ∀ (a2 : Int32) (s : cS) (kc ks : Nat), KK sa R base G 29 [(0, va_rf (some p0)), (1, .int p1), (2, .int a2)] [] s kc ks (C_By_addDecimal_b29 sa p0 p1 a2 s kc ks Q) := by
    intro a2 s kc ks
    refine kk_ic hG rfl cc_i0 ?_
    refine kk_st hG (L' := [(3, .int (0 : Int32)), (0, va_rf (some p0)), (1, .int p1), (2, .int a2)]) rfl rfl (Nat.le_of_ble_eq_true rfl) rfl ?_
    exact kk_wl hG [1, 2, 3, 0] rfl (b31 _ _ _ _ _)
  have b4 : ∀ (a2 : Int32) (a3 : Int32) (s : cS) (kc ks : Nat), KK sa R base G 4 [(0, va_rf (some p0)), (1, .int p1), (2, .int a2), (3, .int a3)] [] s kc ks (C_By_addDecimal_b4 sa p0 p1 a2 a3 s kc ks Q) := by
    have H : ∀ (P4 : (Int32 → Int32 → cS → Nat → Nat → Prop)) (hP4 : ∀ (a2 : Int32) (a3 : Int32) (s : cS) (kc ks : Nat), P4 a2 a3 s kc ks → cW sa R base s → G 4 [(0, va_rf (some p0)), (1, .int p1), (2, .int a2), (3, .int a3)] [] (cM R s) kc ks) (a2 : Int32) (a3 : Int32) (s : cS) (kc ks : Nat), KK sa R base G 4 [(0, va_rf (some p0)), (1, .int p1), (2, .int a2), (3, .int a3)] [] s kc ks (C_By_addDecimal_s4 sa p0 p1 a2 a3 s kc ks Q P4) := by
      intro P4 hP4
      intro a2 a3 s kc ks
      refine kks hG rfl rfl ?_
      refine kk_bi hG rfl cc_b9 ?_
      refine kk_ige hG (t := 29) rfl rfl ?_ ?_
      · exact kk_wl hG [0, 1, 2] rfl (b29 _ _ _ _)
      refine kks hG rfl rfl ?_
      refine kks hG rfl rfl ?_
      refine kk_nz hG rfl rfl ?_
      refine kk_bi hG rfl cc_b10 ?_
      refine kk_ilt hG (t := 29) rfl rfl ?_ ?_
      · exact kk_wl hG [0, 1, 2] rfl (b29 _ _ _ _)
      refine kks hG rfl rfl ?_
      refine kk_bi hG rfl cc_b10 ?_
      refine kks hG rfl rfl ?_
      refine kk_st hG (L' := [(2, .int (a2 * (10 : Int32))), (0, va_rf (some p0)), (1, .int p1), (3, .int a3)]) rfl rfl (Nat.le_of_ble_eq_true rfl) rfl ?_
      refine kk_inc hG (L' := [(3, .int (a3 + (1 : Int32))), (2, .int (a2 * (10 : Int32))), (0, va_rf (some p0)), (1, .int p1)]) rfl (Nat.le_of_ble_eq_true rfl) rfl cc_i1 rfl ?_
      refine kk_go hG (t := 4) rfl rfl ?_
      exact kk_wl hG [2, 3, 1, 0] rfl (fun hw h => hP4 _ _ _ _ _ h hw)
    exact fun a2 a3 s kc ks hw h => h (fun a2 a3 s kc ks => cW sa R base s → G 4 [(0, va_rf (some p0)), (1, .int p1), (2, .int a2), (3, .int a3)] [] (cM R s) kc ks) (fun a2 a3 s kc ks hs hw => H _ (fun _ _ _ _ _ hp hw => hp hw) a2 a3 s kc ks hw hs) hw
  refine (show KK sa R base G 0 [(0, va_rf (some p0)), (1, .int p1)] [] s kc ks (C_By_addDecimal sa p0 p1 s kc ks Q) from ?_) hw h
  refine kk_ic hG rfl cc_i1 ?_
  refine kk_st hG (L' := [(2, .int (1 : Int32)), (0, va_rf (some p0)), (1, .int p1)]) rfl rfl (Nat.le_of_ble_eq_true rfl) rfl ?_
  refine kk_ic hG rfl cc_i0 ?_
  refine kk_st hG (L' := [(3, .int (0 : Int32)), (2, .int (1 : Int32)), (0, va_rf (some p0)), (1, .int p1)]) rfl rfl (Nat.le_of_ble_eq_true rfl) rfl ?_
  exact kk_wl hG [2, 3, 1, 0] rfl (b4 _ _ _ _ _)
def C_By_addAddress_b51 (sa : Nat → Nat) (p0 : Nat) (p1 : Option Nat) (a2 : Int32) (s : cS) (kc ks : Nat) (Q : (cS → Nat → Nat → Prop)) (P18 : (Int32 → cS → Nat → Nat → Prop)) : Prop := (P18 (a2 + ((-8) : Int32)) s kc ks)
def C_By_addAddress_s18 (sa : Nat → Nat) (p0 : Nat) (p1 : Option Nat) (a2 : Int32) (s : cS) (kc ks : Nat) (Q : (cS → Nat → Nat → Prop)) (P18 : (Int32 → cS → Nat → Nat → Prop)) : Prop := if a2 < (32 : Int32) then ((Q s kc ks)) else (ob p1 (fun b1 => (ob (gJ s 5 1 b1) (fun v2 => (okO s 0 p0 ∧ C_By_addDecimal sa p0 (Int64.toInt32 ((ush_L v2 a2) &&& (255 : Int64))) s kc ks (fun sr3 cr3 dr3 => (if (32 : Int32) < a2 then (okO sr3 0 p0 ∧ C_By_add sa p0 (46 : Int32) sr3 cr3 dr3 (fun sr4 cr4 dr4 => ((C_By_addAddress_b51 sa p0 (some b1) a2 sr4 cr4 dr4 Q P18)))) else ((C_By_addAddress_b51 sa p0 (some b1) a2 sr3 cr3 dr3 Q P18)))))))))
def C_By_addAddress_b18 (sa : Nat → Nat) (p0 : Nat) (p1 : Option Nat) (a2 : Int32) (s : cS) (kc ks : Nat) (Q : (cS → Nat → Nat → Prop)) : Prop := ∀ P18 : (Int32 → cS → Nat → Nat → Prop), (∀ (a2 : Int32) (s : cS) (kc ks : Nat), C_By_addAddress_s18 sa p0 p1 a2 s kc ks Q P18 → P18 a2 s kc ks) → P18 a2 s kc ks
def C_By_addAddress (sa : Nat → Nat) (p0 : Nat) (p1 : Option Nat) (s : cS) (kc ks : Nat) (Q : (cS → Nat → Nat → Prop)) : Prop := ob p1 (fun b1 => (ob (gI s 5 0 b1) (fun v2 => (if v2 = (6 : Int32) then (okO s 0 p0 ∧ C_By_addSix sa p0 (some b1) s kc ks (fun sr3 cr3 dr3 => (Q sr3 cr3 dr3))) else ((C_By_addAddress_b18 sa p0 (some b1) (56 : Int32) s kc ks Q))))))
set_option maxRecDepth 100000 in
set_option maxHeartbeats 4000000 in
theorem kc_By_addAddress (base : Nat) (sa : Nat → Nat) {R : pmM} {s : cS} {kc ks : Nat} {Rt : pmR} {p0 : Nat} {p1 : Option Nat} {Q : (cS → Nat → Nat → Prop)} (hw : cW sa R base s) (h : C_By_addAddress sa p0 p1 s kc ks Q) (k : ∀ s' kc' ks', cW sa R base s' → Q s' kc' ks' → Rt none (cM R s') kc' ks') : kP_By_addAddress base sa [.ref p0, va_rf p1] (cM R s) kc ks Rt := by
  refine ⟨by cases p1 <;> exact Nat.le_of_ble_eq_true rfl, fun G hG => ?_⟩
  have eL : lv_args 0 [.ref p0, va_rf p1] = [(0, va_rf (some p0)), (1, va_rf p1)] := by cases p1 <;> rfl
  rw [eL]
  have b18 : ∀ (a2 : Int32) (s : cS) (kc ks : Nat), KK sa R base G 18 [(0, va_rf (some p0)), (1, va_rf p1), (2, .int a2)] [] s kc ks (C_By_addAddress_b18 sa p0 p1 a2 s kc ks Q) := by
    have H : ∀ (P18 : (Int32 → cS → Nat → Nat → Prop)) (hP18 : ∀ (a2 : Int32) (s : cS) (kc ks : Nat), P18 a2 s kc ks → cW sa R base s → G 18 [(0, va_rf (some p0)), (1, va_rf p1), (2, .int a2)] [] (cM R s) kc ks) (a2 : Int32) (s : cS) (kc ks : Nat), KK sa R base G 18 [(0, va_rf (some p0)), (1, va_rf p1), (2, .int a2)] [] s kc ks (C_By_addAddress_s18 sa p0 p1 a2 s kc ks Q P18) := by
      intro P18 hP18
      have b51 : ∀ (a2 : Int32) (s : cS) (kc ks : Nat), KK sa R base G 51 [(0, va_rf (some p0)), (1, va_rf p1), (2, .int a2)] [] s kc ks (C_By_addAddress_b51 sa p0 p1 a2 s kc ks Q P18) := by
        intro a2 s kc ks
        refine kk_inc hG (L' := [(2, .int (a2 + ((-8) : Int32))), (0, va_rf (some p0)), (1, va_rf p1)]) rfl (Nat.le_of_ble_eq_true rfl) rfl cc_im8 (by cases p1 <;> rfl) ?_
        refine kk_go hG (t := 18) rfl rfl ?_
        exact kk_wl hG [1, 2, 0] rfl (fun hw h => hP18 _ _ _ _ h hw)
      intro a2 s kc ks
      refine kks hG rfl rfl ?_
      refine kk_bi hG rfl cc_b32 ?_
      refine kk_ilt hG (t := 57) rfl rfl ?_ ?_
      · exact kk_rv hG rfl rfl k
      refine kk_aln hG (x := (some p0)) rfl rfl ?_
      refine kk_aln hG (x := p1) rfl rfl ?_
      refine kk_ob (fun b1 eb1 => ?_)
      subst eb1
      refine kk_gj hG (c := 5) (k := 1) (a := b1) rfl rfl rfl rfl (fun v2 => ?_)
      refine kks hG rfl rfl ?_
      refine kks hG rfl rfl ?_
      refine kk_l2 hG (v := (255 : Int64)) rfl rfl ?_
      refine kks hG rfl rfl ?_
      refine kks hG rfl rfl ?_
      refine kk_cv hG 0 rfl rfl (Nat.le_of_ble_eq_true rfl) (by decide) rfl (st' := []) rfl (cats_le (Nat.le_of_ble_eq_true rfl)) (fun _ hw h k => kk_rcv h.1 (kc_By_addDecimal base sa hw h.2 k)) (fun sr3 cr3 dr3 => ?_)
      refine kks hG rfl rfl ?_
      refine kk_bi hG rfl cc_b32 ?_
      refine kk_ile hG (t := 51) rfl rfl ?_ ?_
      · exact kk_wl hG [0, 1, 2] rfl (b51 _ _ _ _)
      refine kk_aln hG (x := (some p0)) rfl rfl ?_
      refine kk_bi hG rfl cc_b46 ?_
      refine kk_cv hG 0 rfl rfl (Nat.le_of_ble_eq_true rfl) (by decide) rfl (st' := []) rfl (cats_le (Nat.le_of_ble_eq_true rfl)) (fun _ hw h k => kk_rcv h.1 (kc_By_add base sa hw h.2 k)) (fun sr4 cr4 dr4 => ?_)
      exact kk_wl hG [0, 1, 2] rfl (b51 _ _ _ _)
    exact fun a2 s kc ks hw h => h (fun a2 s kc ks => cW sa R base s → G 18 [(0, va_rf (some p0)), (1, va_rf p1), (2, .int a2)] [] (cM R s) kc ks) (fun a2 s kc ks hs hw => H _ (fun _ _ _ _ hp hw => hp hw) a2 s kc ks hw hs) hw
  refine (show KK sa R base G 0 [(0, va_rf (some p0)), (1, va_rf p1)] [] s kc ks (C_By_addAddress sa p0 p1 s kc ks Q) from ?_) hw h
  refine kk_aln hG (x := p1) rfl rfl ?_
  refine kk_ob (fun b1 eb1 => ?_)
  subst eb1
  refine kk_gi hG (c := 5) (k := 0) (a := b1) rfl rfl rfl rfl (fun v2 => ?_)
  refine kk_bi hG rfl cc_b6 ?_
  refine kk_ine hG (t := 15) rfl rfl ?_ ?_
  · refine kk_bi hG rfl cc_b56 ?_
    refine kk_st hG (L' := [(2, .int (56 : Int32)), (0, va_rf (some p0)), (1, va_rf (some b1))]) rfl rfl (Nat.le_of_ble_eq_true rfl) rfl ?_
    exact kk_wl hG [1, 2, 0] rfl (b18 _ _ _ _)
  refine kk_aln hG (x := (some p0)) rfl rfl ?_
  refine kk_aln hG (x := (some b1)) rfl rfl ?_
  refine kk_cv hG 0 rfl rfl (Nat.le_of_ble_eq_true rfl) (by decide) rfl (st' := []) rfl (cats_le (Nat.le_of_ble_eq_true rfl)) (fun _ hw h k => kk_rcv h.1 (kc_By_addSix base sa hw h.2 k)) (fun sr3 cr3 dr3 => ?_)
  exact kk_rv hG rfl rfl k
def C_By_addPrefix (sa : Nat → Nat) (p0 : Nat) (p1 : Option Nat) (s : cS) (kc ks : Nat) (Q : (cS → Nat → Nat → Prop)) : Prop := okO s 0 p0 ∧ C_By_addAddress sa p0 p1 s kc ks (fun sr1 cr1 dr1 => (okO sr1 0 p0 ∧ C_By_add sa p0 (47 : Int32) sr1 cr1 dr1 (fun sr2 cr2 dr2 => (ob p1 (fun b3 => (ob (gI sr2 5 3 b3) (fun v4 => (okO sr2 0 p0 ∧ C_By_addDecimal sa p0 v4 sr2 cr2 dr2 (fun sr5 cr5 dr5 => (Q sr5 cr5 dr5))))))))))
set_option maxRecDepth 100000 in
set_option maxHeartbeats 4000000 in
theorem kc_By_addPrefix (base : Nat) (sa : Nat → Nat) {R : pmM} {s : cS} {kc ks : Nat} {Rt : pmR} {p0 : Nat} {p1 : Option Nat} {Q : (cS → Nat → Nat → Prop)} (hw : cW sa R base s) (h : C_By_addPrefix sa p0 p1 s kc ks Q) (k : ∀ s' kc' ks', cW sa R base s' → Q s' kc' ks' → Rt none (cM R s') kc' ks') : kP_By_addPrefix base sa [.ref p0, va_rf p1] (cM R s) kc ks Rt := by
  refine ⟨by cases p1 <;> exact Nat.le_of_ble_eq_true rfl, fun G hG => ?_⟩
  have eL : lv_args 0 [.ref p0, va_rf p1] = [(0, va_rf (some p0)), (1, va_rf p1)] := by cases p1 <;> rfl
  rw [eL]
  refine (show KK sa R base G 0 [(0, va_rf (some p0)), (1, va_rf p1)] [] s kc ks (C_By_addPrefix sa p0 p1 s kc ks Q) from ?_) hw h
  refine kk_aln hG (x := (some p0)) rfl rfl ?_
  refine kk_aln hG (x := p1) rfl rfl ?_
  refine kk_cv hG 0 rfl rfl (Nat.le_of_ble_eq_true rfl) (by decide) rfl (st' := []) rfl (cats_le (Nat.le_of_ble_eq_true rfl)) (fun _ hw h k => kk_rcv h.1 (kc_By_addAddress base sa hw h.2 k)) (fun sr1 cr1 dr1 => ?_)
  refine kk_aln hG (x := (some p0)) rfl rfl ?_
  refine kk_bi hG rfl cc_b47 ?_
  refine kk_cv hG 0 rfl rfl (Nat.le_of_ble_eq_true rfl) (by decide) rfl (st' := []) rfl (cats_le (Nat.le_of_ble_eq_true rfl)) (fun _ hw h k => kk_rcv h.1 (kc_By_add base sa hw h.2 k)) (fun sr2 cr2 dr2 => ?_)
  refine kk_aln hG (x := (some p0)) rfl rfl ?_
  refine kk_aln hG (x := p1) rfl rfl ?_
  refine kk_ob (fun b3 eb3 => ?_)
  subst eb3
  refine kk_gi hG (c := 5) (k := 3) (a := b3) rfl rfl rfl rfl (fun v4 => ?_)
  refine kk_cv hG 0 rfl rfl (Nat.le_of_ble_eq_true rfl) (by decide) rfl (st' := []) rfl (cats_le (Nat.le_of_ble_eq_true rfl)) (fun _ hw h k => kk_rcv h.1 (kc_By_addDecimal base sa hw h.2 k)) (fun sr5 cr5 dr5 => ?_)
  exact kk_rv hG rfl rfl k
def C_By_wordNumber (sa : Nat → Nat) (p0 : Nat) (p1 : Int32) (s : cS) (kc ks : Nat) (Q : (cS → Nat → Nat → Prop)) : Prop := okO s 0 p0 ∧ C_By_word sa p0 (some (sa 3)) s kc ks (fun sr1 cr1 dr1 => (okO sr1 0 p0 ∧ C_By_addDecimal sa p0 p1 sr1 cr1 dr1 (fun sr2 cr2 dr2 => (Q sr2 cr2 dr2))))
set_option maxRecDepth 100000 in
set_option maxHeartbeats 4000000 in
theorem kc_By_wordNumber (base : Nat) (sa : Nat → Nat) {R : pmM} {s : cS} {kc ks : Nat} {Rt : pmR} {p0 : Nat} {p1 : Int32} {Q : (cS → Nat → Nat → Prop)} (hw : cW sa R base s) (h : C_By_wordNumber sa p0 p1 s kc ks Q) (k : ∀ s' kc' ks', cW sa R base s' → Q s' kc' ks' → Rt none (cM R s') kc' ks') : kP_By_wordNumber base sa [.ref p0, .int p1] (cM R s) kc ks Rt := by
  refine ⟨Nat.le_of_ble_eq_true rfl, fun G hG => ?_⟩
  refine (show KK sa R base G 0 [(0, va_rf (some p0)), (1, .int p1)] [] s kc ks (C_By_wordNumber sa p0 p1 s kc ks Q) from ?_) hw h
  refine kk_aln hG (x := (some p0)) rfl rfl ?_
  refine kk_lds hG (a := sa 3) rfl rfl ?_
  refine kk_cv hG 0 rfl rfl (Nat.le_of_ble_eq_true rfl) (by decide) rfl (st' := []) rfl (cats_le (Nat.le_of_ble_eq_true rfl)) (fun _ hw h k => kk_rcv h.1 (kc_By_word base sa hw h.2 k)) (fun sr1 cr1 dr1 => ?_)
  refine kk_aln hG (x := (some p0)) rfl rfl ?_
  refine kks hG rfl rfl ?_
  refine kk_cv hG 0 rfl rfl (Nat.le_of_ble_eq_true rfl) (by decide) rfl (st' := []) rfl (cats_le (Nat.le_of_ble_eq_true rfl)) (fun _ hw h k => kk_rcv h.1 (kc_By_addDecimal base sa hw h.2 k)) (fun sr2 cr2 dr2 => ?_)
  exact kk_rv hG rfl rfl k
def C_Rf_writeRoute_b102 (sa : Nat → Nat) (p0 : Nat) (p1 : Option Nat) (s : cS) (kc ks : Nat) (Q : (cS → Nat → Nat → Prop)) : Prop := ob (gP s 11 1 p0) (fun v1 => (ob p1 (fun b2 => (ob (gP s 8 6 b2) (fun v3 => (if v3 = none then (ob v1 (fun b11 => (okO s 0 b11 ∧ C_By_word sa b11 (some (sa 42)) s kc ks (fun sr12 cr12 dr12 => (Q sr12 cr12 dr12))))) else (ob (gP s 8 6 b2) (fun v4 => (ob v4 (fun b5 => (ob (gP s 4 0 b5) (fun v6 => (ob v6 (fun b7 => (ob (gP s 3 0 b7) (fun v8 => (ob v1 (fun b9 => (okO s 0 b9 ∧ C_By_word sa b9 v8 s kc ks (fun sr10 cr10 dr10 => (Q sr10 cr10 dr10)))))))))))))))))))))
def C_Rf_writeRoute (sa : Nat → Nat) (p0 : Nat) (p1 : Option Nat) (s : cS) (kc ks : Nat) (Q : (cS → Nat → Nat → Prop)) : Prop := ob (gP s 11 1 p0) (fun v1 => (ob v1 (fun b2 => (okO s 0 b2 ∧ C_By_word sa b2 (some (sa 3)) s kc ks (fun sr3 cr3 dr3 => (ob (gP sr3 11 1 p0) (fun v4 => (ob p1 (fun b5 => (ob (gP sr3 8 0 b5) (fun v6 => (ob v4 (fun b7 => (okO sr3 0 b7 ∧ C_By_addPrefix sa b7 v6 sr3 cr3 dr3 (fun sr8 cr8 dr8 => (ob (gP sr8 11 1 p0) (fun v9 => (ob (gI sr8 8 4 b5) (fun v10 => (ob v9 (fun b11 => (okO sr8 0 b11 ∧ C_By_wordNumber sa b11 v10 sr8 cr8 dr8 (fun sr12 cr12 dr12 => (ob (gI sr12 8 3 b5) (fun v13 => (if v13 = (1 : Int32) then (ob (gP sr12 11 1 p0) (fun v28 => (ob v28 (fun b29 => (okO sr12 0 b29 ∧ C_By_word sa b29 (some (sa 17)) sr12 cr12 dr12 (fun sr30 cr30 dr30 => (Q sr30 cr30 dr30))))))) else (ob (gI sr12 8 3 b5) (fun v14 => (if v14 = 0 then (ob (gP sr12 11 1 p0) (fun v25 => (ob v25 (fun b26 => (okO sr12 0 b26 ∧ C_By_word sa b26 (some (sa 40)) sr12 cr12 dr12 (fun sr27 cr27 dr27 => ((C_Rf_writeRoute_b102 sa p0 (some b5) sr27 cr27 dr27 Q)))))))) else (ob (gP sr12 11 1 p0) (fun v15 => (ob v15 (fun b16 => (okO sr12 0 b16 ∧ C_By_word sa b16 (some (sa 41)) sr12 cr12 dr12 (fun sr17 cr17 dr17 => (ob (gP sr17 11 1 p0) (fun v18 => (ob v18 (fun b19 => (okO sr17 0 b19 ∧ C_By_word sa b19 (some (sa 3)) sr17 cr17 dr17 (fun sr20 cr20 dr20 => (ob (gP sr20 11 1 p0) (fun v21 => (ob (gP sr20 8 1 b5) (fun v22 => (ob v21 (fun b23 => (okO sr20 0 b23 ∧ C_By_addAddress sa b23 v22 sr20 cr20 dr20 (fun sr24 cr24 dr24 => ((C_Rf_writeRoute_b102 sa p0 (some b5) sr24 cr24 dr24 Q)))))))))))))))))))))))))))))))))))))))))))))))))))
set_option maxRecDepth 100000 in
set_option maxHeartbeats 4000000 in
theorem kc_Rf_writeRoute (base : Nat) (sa : Nat → Nat) {R : pmM} {s : cS} {kc ks : Nat} {Rt : pmR} {p0 : Nat} {p1 : Option Nat} {Q : (cS → Nat → Nat → Prop)} (hw : cW sa R base s) (h : C_Rf_writeRoute sa p0 p1 s kc ks Q) (k : ∀ s' kc' ks', cW sa R base s' → Q s' kc' ks' → Rt none (cM R s') kc' ks') : kP_Rf_writeRoute base sa [.ref p0, va_rf p1] (cM R s) kc ks Rt := by
  refine ⟨by cases p1 <;> exact Nat.le_of_ble_eq_true rfl, fun G hG => ?_⟩
  have eL : lv_args 0 [.ref p0, va_rf p1] = [(0, va_rf (some p0)), (1, va_rf p1)] := by cases p1 <;> rfl
  rw [eL]
  have b102 : ∀ (s : cS) (kc ks : Nat), KK sa R base G 102 [(0, va_rf (some p0)), (1, va_rf p1)] [] s kc ks (C_Rf_writeRoute_b102 sa p0 p1 s kc ks Q) := by
    intro s kc ks
    refine kk_aln hG (x := (some p0)) rfl rfl ?_
    refine kk_gp hG (c := 11) (k := 1) (a := p0) rfl rfl rfl rfl (fun v1 => ?_)
    refine kk_aln hG (x := p1) rfl rfl ?_
    refine kk_ob (fun b2 eb2 => ?_)
    subst eb2
    refine kk_gp hG (c := 8) (k := 6) (a := b2) rfl rfl rfl rfl (fun v3 => ?_)
    refine kk_nnl hG (x := v3) (t := 119) rfl rfl ?_ ?_
    · refine kk_aln hG (x := (some b2)) rfl rfl ?_
      refine kk_gp hG (c := 8) (k := 6) (a := b2) rfl rfl rfl rfl (fun v4 => ?_)
      refine kk_ob (fun b5 eb5 => ?_)
      subst eb5
      refine kk_gp hG (c := 4) (k := 0) (a := b5) rfl rfl rfl rfl (fun v6 => ?_)
      refine kk_ob (fun b7 eb7 => ?_)
      subst eb7
      refine kk_gp hG (c := 3) (k := 0) (a := b7) rfl rfl rfl rfl (fun v8 => ?_)
      refine kk_ob (fun b9 eb9 => ?_)
      subst eb9
      refine kk_cv hG 0 rfl rfl (Nat.le_of_ble_eq_true rfl) (by decide) rfl (st' := []) rfl (cats_le (Nat.le_of_ble_eq_true rfl)) (fun _ hw h k => kk_rcv h.1 (kc_By_word base sa hw h.2 k)) (fun sr10 cr10 dr10 => ?_)
      exact kk_rv hG rfl rfl k
    refine kk_lws hG (a := sa 42) rfl rfl ?_
    refine kk_go hG (t := 129) rfl rfl ?_
    refine kk_ob (fun b11 eb11 => ?_)
    subst eb11
    refine kk_cv hG 0 rfl rfl (Nat.le_of_ble_eq_true rfl) (by decide) rfl (st' := []) rfl (cats_le (Nat.le_of_ble_eq_true rfl)) (fun _ hw h k => kk_rcv h.1 (kc_By_word base sa hw h.2 k)) (fun sr12 cr12 dr12 => ?_)
    exact kk_rv hG rfl rfl k
  refine (show KK sa R base G 0 [(0, va_rf (some p0)), (1, va_rf p1)] [] s kc ks (C_Rf_writeRoute sa p0 p1 s kc ks Q) from ?_) hw h
  refine kk_aln hG (x := (some p0)) rfl rfl ?_
  refine kk_gp hG (c := 11) (k := 1) (a := p0) rfl rfl rfl rfl (fun v1 => ?_)
  refine kk_lws hG (a := sa 3) rfl rfl ?_
  refine kk_ob (fun b2 eb2 => ?_)
  subst eb2
  refine kk_cv hG 0 rfl rfl (Nat.le_of_ble_eq_true rfl) (by decide) rfl (st' := []) rfl (cats_le (Nat.le_of_ble_eq_true rfl)) (fun _ hw h k => kk_rcv h.1 (kc_By_word base sa hw h.2 k)) (fun sr3 cr3 dr3 => ?_)
  refine kk_aln hG (x := (some p0)) rfl rfl ?_
  refine kk_gp hG (c := 11) (k := 1) (a := p0) rfl rfl rfl rfl (fun v4 => ?_)
  refine kk_aln hG (x := p1) rfl rfl ?_
  refine kk_ob (fun b5 eb5 => ?_)
  subst eb5
  refine kk_gp hG (c := 8) (k := 0) (a := b5) rfl rfl rfl rfl (fun v6 => ?_)
  refine kk_ob (fun b7 eb7 => ?_)
  subst eb7
  refine kk_cv hG 0 rfl rfl (Nat.le_of_ble_eq_true rfl) (by decide) rfl (st' := []) rfl (cats_le (Nat.le_of_ble_eq_true rfl)) (fun _ hw h k => kk_rcv h.1 (kc_By_addPrefix base sa hw h.2 k)) (fun sr8 cr8 dr8 => ?_)
  refine kk_aln hG (x := (some p0)) rfl rfl ?_
  refine kk_gp hG (c := 11) (k := 1) (a := p0) rfl rfl rfl rfl (fun v9 => ?_)
  refine kk_aln hG (x := (some b5)) rfl rfl ?_
  refine kk_gi hG (c := 8) (k := 4) (a := b5) rfl rfl rfl rfl (fun v10 => ?_)
  refine kk_ob (fun b11 eb11 => ?_)
  subst eb11
  refine kk_cv hG 0 rfl rfl (Nat.le_of_ble_eq_true rfl) (by decide) rfl (st' := []) rfl (cats_le (Nat.le_of_ble_eq_true rfl)) (fun _ hw h k => kk_rcv h.1 (kc_By_wordNumber base sa hw h.2 k)) (fun sr12 cr12 dr12 => ?_)
  refine kk_aln hG (x := (some b5)) rfl rfl ?_
  refine kk_gi hG (c := 8) (k := 3) (a := b5) rfl rfl rfl rfl (fun v13 => ?_)
  refine kk_ic hG rfl cc_i1 ?_
  refine kk_ine hG (t := 51) rfl rfl ?_ ?_
  · refine kk_aln hG (x := (some b5)) rfl rfl ?_
    refine kk_gi hG (c := 8) (k := 3) (a := b5) rfl rfl rfl rfl (fun v14 => ?_)
    refine kk_zne hG (t := 71) rfl rfl ?_ ?_
    · refine kk_aln hG (x := (some p0)) rfl rfl ?_
      refine kk_gp hG (c := 11) (k := 1) (a := p0) rfl rfl rfl rfl (fun v15 => ?_)
      refine kk_lws hG (a := sa 41) rfl rfl ?_
      refine kk_ob (fun b16 eb16 => ?_)
      subst eb16
      refine kk_cv hG 0 rfl rfl (Nat.le_of_ble_eq_true rfl) (by decide) rfl (st' := []) rfl (cats_le (Nat.le_of_ble_eq_true rfl)) (fun _ hw h k => kk_rcv h.1 (kc_By_word base sa hw h.2 k)) (fun sr17 cr17 dr17 => ?_)
      refine kk_aln hG (x := (some p0)) rfl rfl ?_
      refine kk_gp hG (c := 11) (k := 1) (a := p0) rfl rfl rfl rfl (fun v18 => ?_)
      refine kk_lws hG (a := sa 3) rfl rfl ?_
      refine kk_ob (fun b19 eb19 => ?_)
      subst eb19
      refine kk_cv hG 0 rfl rfl (Nat.le_of_ble_eq_true rfl) (by decide) rfl (st' := []) rfl (cats_le (Nat.le_of_ble_eq_true rfl)) (fun _ hw h k => kk_rcv h.1 (kc_By_word base sa hw h.2 k)) (fun sr20 cr20 dr20 => ?_)
      refine kk_aln hG (x := (some p0)) rfl rfl ?_
      refine kk_gp hG (c := 11) (k := 1) (a := p0) rfl rfl rfl rfl (fun v21 => ?_)
      refine kk_aln hG (x := (some b5)) rfl rfl ?_
      refine kk_gp hG (c := 8) (k := 1) (a := b5) rfl rfl rfl rfl (fun v22 => ?_)
      refine kk_ob (fun b23 eb23 => ?_)
      subst eb23
      refine kk_cv hG 0 rfl rfl (Nat.le_of_ble_eq_true rfl) (by decide) rfl (st' := []) rfl (cats_le (Nat.le_of_ble_eq_true rfl)) (fun _ hw h k => kk_rcv h.1 (kc_By_addAddress base sa hw h.2 k)) (fun sr24 cr24 dr24 => ?_)
      exact kk_wl hG [0, 1] rfl (b102 _ _ _)
    refine kk_aln hG (x := (some p0)) rfl rfl ?_
    refine kk_gp hG (c := 11) (k := 1) (a := p0) rfl rfl rfl rfl (fun v25 => ?_)
    refine kk_lws hG (a := sa 40) rfl rfl ?_
    refine kk_ob (fun b26 eb26 => ?_)
    subst eb26
    refine kk_cv hG 0 rfl rfl (Nat.le_of_ble_eq_true rfl) (by decide) rfl (st' := []) rfl (cats_le (Nat.le_of_ble_eq_true rfl)) (fun _ hw h k => kk_rcv h.1 (kc_By_word base sa hw h.2 k)) (fun sr27 cr27 dr27 => ?_)
    refine kk_go hG (t := 102) rfl rfl ?_
    exact kk_wl hG [0, 1] rfl (b102 _ _ _)
  refine kk_aln hG (x := (some p0)) rfl rfl ?_
  refine kk_gp hG (c := 11) (k := 1) (a := p0) rfl rfl rfl rfl (fun v28 => ?_)
  refine kk_lws hG (a := sa 17) rfl rfl ?_
  refine kk_ob (fun b29 eb29 => ?_)
  subst eb29
  refine kk_cv hG 0 rfl rfl (Nat.le_of_ble_eq_true rfl) (by decide) rfl (st' := []) rfl (cats_le (Nat.le_of_ble_eq_true rfl)) (fun _ hw h k => kk_rcv h.1 (kc_By_word base sa hw h.2 k)) (fun sr30 cr30 dr30 => ?_)
  exact kk_rv hG rfl rfl k
def C_By_endLine (sa : Nat → Nat) (p0 : Nat) (s : cS) (kc ks : Nat) (Q : (cS → Nat → Nat → Prop)) : Prop := okO s 0 p0 ∧ C_By_add sa p0 (10 : Int32) s kc ks (fun sr1 cr1 dr1 => (Q sr1 cr1 dr1))
set_option maxRecDepth 100000 in
set_option maxHeartbeats 4000000 in
theorem kc_By_endLine (base : Nat) (sa : Nat → Nat) {R : pmM} {s : cS} {kc ks : Nat} {Rt : pmR} {p0 : Nat} {Q : (cS → Nat → Nat → Prop)} (hw : cW sa R base s) (h : C_By_endLine sa p0 s kc ks Q) (k : ∀ s' kc' ks', cW sa R base s' → Q s' kc' ks' → Rt none (cM R s') kc' ks') : kP_By_endLine base sa [.ref p0] (cM R s) kc ks Rt := by
  refine ⟨Nat.le_of_ble_eq_true rfl, fun G hG => ?_⟩
  refine (show KK sa R base G 0 [(0, va_rf (some p0))] [] s kc ks (C_By_endLine sa p0 s kc ks Q) from ?_) hw h
  refine kk_aln hG (x := (some p0)) rfl rfl ?_
  refine kk_bi hG rfl cc_b10 ?_
  refine kk_cv hG 0 rfl rfl (Nat.le_of_ble_eq_true rfl) (by decide) rfl (st' := []) rfl (cats_le (Nat.le_of_ble_eq_true rfl)) (fun _ hw h k => kk_rcv h.1 (kc_By_add base sa hw h.2 k)) (fun sr1 cr1 dr1 => ?_)
  exact kk_rv hG rfl rfl k
def C_Rf_writeRoutes_s2 (sa : Nat → Nat) (p0 : Nat) (p1 : Option Nat) (a2 : Int32) (s : cS) (kc ks : Nat) (Q : (cS → Nat → Nat → Prop)) (P2 : (Int32 → cS → Nat → Nat → Prop)) : Prop := ob p1 (fun b1 => (ob (gP s 9 6 b1) (fun v2 => (ob v2 (fun b3 => (ob (gI s 10 1 b3) (fun v4 => (if a2 < v4 then (ob (gP s 9 6 b1) (fun v5 => (ob v5 (fun b6 => (ob (gP s 10 0 b6) (fun v7 => (ob v7 (fun b8 => (ob (rQ s b8 a2) (fun v9 => (okO s 11 p0 ∧ C_Rf_writeRoute sa p0 v9 s kc ks (fun sr10 cr10 dr10 => (ob (gP sr10 11 1 p0) (fun v11 => (ob v11 (fun b12 => (okO sr10 0 b12 ∧ C_By_endLine sa b12 sr10 cr10 dr10 (fun sr13 cr13 dr13 => ((P2 (a2 + (1 : Int32)) sr13 cr13 dr13)))))))))))))))))))) else ((Q s kc ks))))))))))
def C_Rf_writeRoutes_b2 (sa : Nat → Nat) (p0 : Nat) (p1 : Option Nat) (a2 : Int32) (s : cS) (kc ks : Nat) (Q : (cS → Nat → Nat → Prop)) : Prop := ∀ P2 : (Int32 → cS → Nat → Nat → Prop), (∀ (a2 : Int32) (s : cS) (kc ks : Nat), C_Rf_writeRoutes_s2 sa p0 p1 a2 s kc ks Q P2 → P2 a2 s kc ks) → P2 a2 s kc ks
def C_Rf_writeRoutes (sa : Nat → Nat) (p0 : Nat) (p1 : Option Nat) (s : cS) (kc ks : Nat) (Q : (cS → Nat → Nat → Prop)) : Prop := (C_Rf_writeRoutes_b2 sa p0 p1 (0 : Int32) s kc ks Q)
set_option maxRecDepth 100000 in
set_option maxHeartbeats 4000000 in
theorem kc_Rf_writeRoutes (base : Nat) (sa : Nat → Nat) {R : pmM} {s : cS} {kc ks : Nat} {Rt : pmR} {p0 : Nat} {p1 : Option Nat} {Q : (cS → Nat → Nat → Prop)} (hw : cW sa R base s) (h : C_Rf_writeRoutes sa p0 p1 s kc ks Q) (k : ∀ s' kc' ks', cW sa R base s' → Q s' kc' ks' → Rt none (cM R s') kc' ks') : kP_Rf_writeRoutes base sa [.ref p0, va_rf p1] (cM R s) kc ks Rt := by
  refine ⟨by cases p1 <;> exact Nat.le_of_ble_eq_true rfl, fun G hG => ?_⟩
  have eL : lv_args 0 [.ref p0, va_rf p1] = [(0, va_rf (some p0)), (1, va_rf p1)] := by cases p1 <;> rfl
  rw [eL]
  have b2 : ∀ (a2 : Int32) (s : cS) (kc ks : Nat), KK sa R base G 2 [(0, va_rf (some p0)), (1, va_rf p1), (2, .int a2)] [] s kc ks (C_Rf_writeRoutes_b2 sa p0 p1 a2 s kc ks Q) := by
    have H : ∀ (P2 : (Int32 → cS → Nat → Nat → Prop)) (hP2 : ∀ (a2 : Int32) (s : cS) (kc ks : Nat), P2 a2 s kc ks → cW sa R base s → G 2 [(0, va_rf (some p0)), (1, va_rf p1), (2, .int a2)] [] (cM R s) kc ks) (a2 : Int32) (s : cS) (kc ks : Nat), KK sa R base G 2 [(0, va_rf (some p0)), (1, va_rf p1), (2, .int a2)] [] s kc ks (C_Rf_writeRoutes_s2 sa p0 p1 a2 s kc ks Q P2) := by
      intro P2 hP2
      intro a2 s kc ks
      refine kks hG rfl rfl ?_
      refine kk_aln hG (x := p1) rfl rfl ?_
      refine kk_ob (fun b1 eb1 => ?_)
      subst eb1
      refine kk_gp hG (c := 9) (k := 6) (a := b1) rfl rfl rfl rfl (fun v2 => ?_)
      refine kk_ob (fun b3 eb3 => ?_)
      subst eb3
      refine kk_gi hG (c := 10) (k := 1) (a := b3) rfl rfl rfl rfl (fun v4 => ?_)
      refine kk_ige hG (t := 39) rfl rfl ?_ ?_
      · exact kk_rv hG rfl rfl k
      refine kk_aln hG (x := (some p0)) rfl rfl ?_
      refine kk_aln hG (x := (some b1)) rfl rfl ?_
      refine kk_gp hG (c := 9) (k := 6) (a := b1) rfl rfl rfl rfl (fun v5 => ?_)
      refine kk_ob (fun b6 eb6 => ?_)
      subst eb6
      refine kk_gp hG (c := 10) (k := 0) (a := b6) rfl rfl rfl rfl (fun v7 => ?_)
      refine kks hG rfl rfl ?_
      refine kk_ob (fun b8 eb8 => ?_)
      subst eb8
      refine kk_aa hG (a := b8) rfl (fun v9 => ?_)
      refine kk_cv hG 0 rfl rfl (Nat.le_of_ble_eq_true rfl) (by decide) rfl (st' := []) rfl (cats_le (Nat.le_of_ble_eq_true rfl)) (fun _ hw h k => kk_rcv h.1 (kc_Rf_writeRoute base sa hw h.2 k)) (fun sr10 cr10 dr10 => ?_)
      refine kk_aln hG (x := (some p0)) rfl rfl ?_
      refine kk_gp hG (c := 11) (k := 1) (a := p0) rfl rfl rfl rfl (fun v11 => ?_)
      refine kk_ob (fun b12 eb12 => ?_)
      subst eb12
      refine kk_cv hG 0 rfl rfl (Nat.le_of_ble_eq_true rfl) (by decide) rfl (st' := []) rfl (cats_le (Nat.le_of_ble_eq_true rfl)) (fun _ hw h k => kk_rcv h.1 (kc_By_endLine base sa hw h.2 k)) (fun sr13 cr13 dr13 => ?_)
      refine kk_inc hG (L' := [(2, .int (a2 + (1 : Int32))), (0, va_rf (some p0)), (1, va_rf (some b1))]) rfl (Nat.le_of_ble_eq_true rfl) rfl cc_i1 rfl ?_
      refine kk_go hG (t := 2) rfl rfl ?_
      exact kk_wl hG [1, 2, 0] rfl (fun hw h => hP2 _ _ _ _ h hw)
    exact fun a2 s kc ks hw h => h (fun a2 s kc ks => cW sa R base s → G 2 [(0, va_rf (some p0)), (1, va_rf p1), (2, .int a2)] [] (cM R s) kc ks) (fun a2 s kc ks hs hw => H _ (fun _ _ _ _ hp hw => hp hw) a2 s kc ks hw hs) hw
  refine (show KK sa R base G 0 [(0, va_rf (some p0)), (1, va_rf p1)] [] s kc ks (C_Rf_writeRoutes sa p0 p1 s kc ks Q) from ?_) hw h
  refine kk_ic hG rfl cc_i0 ?_
  refine kk_st hG (L' := [(2, .int (0 : Int32)), (0, va_rf (some p0)), (1, va_rf p1)]) rfl rfl (Nat.le_of_ble_eq_true rfl) (by cases p1 <;> rfl) ?_
  exact kk_wl hG [1, 2, 0] rfl (b2 _ _ _ _)
def C_Rf_splitWord (sa : Nat → Nat) (p0 : Int32) (s : cS) (kc ks : Nat) (Q : (Option Nat → cS → Nat → Nat → Prop)) : Prop := if p0 = 0 then (Q (some (sa 12)) s kc ks) else (if p0 = (1 : Int32) then (Q (some (sa 13)) s kc ks) else (Q (some (sa 14)) s kc ks))
set_option maxRecDepth 100000 in
set_option maxHeartbeats 4000000 in
theorem kc_Rf_splitWord (base : Nat) (sa : Nat → Nat) {R : pmM} {s : cS} {kc ks : Nat} {Rt : pmR} {p0 : Int32} {Q : (Option Nat → cS → Nat → Nat → Prop)} (hw : cW sa R base s) (h : C_Rf_splitWord sa p0 s kc ks Q) (k : ∀ r s' kc' ks', cW sa R base s' → Q r s' kc' ks' → Rt (some (va_rf r)) (cM R s') kc' ks') : kP_Rf_splitWord base sa [.int p0] (cM R s) kc ks Rt := by
  refine ⟨Nat.le_of_ble_eq_true rfl, fun G hG => ?_⟩
  refine (show KK sa R base G 0 [(0, .int p0)] [] s kc ks (C_Rf_splitWord sa p0 s kc ks Q) from ?_) hw h
  refine kks hG rfl rfl ?_
  refine kk_zne hG (t := 8) rfl rfl ?_ ?_
  · refine kks hG rfl rfl ?_
    refine kk_ic hG rfl cc_i1 ?_
    refine kk_ine hG (t := 19) rfl rfl ?_ ?_
    · refine kk_lws hG (a := sa 14) rfl rfl ?_
      exact kk_ra hG (x := (some (sa 14))) rfl rfl rfl k
    refine kk_lws hG (a := sa 13) rfl rfl ?_
    refine kk_go hG (t := 22) rfl rfl ?_
    exact kk_ra hG (x := (some (sa 13))) rfl rfl rfl k
  refine kk_lws hG (a := sa 12) rfl rfl ?_
  exact kk_ra hG (x := (some (sa 12))) rfl rfl rfl k
def C_Ch_kindWord (sa : Nat → Nat) (p0 : Nat) (s : cS) (kc ks : Nat) (Q : (Option Nat → cS → Nat → Nat → Prop)) : Prop := ob (gI s 1 0 p0) (fun v1 => (if v1 = 0 then (ob (gI s 1 2 p0) (fun v2 => (if 0 < v2 then (Q (some (sa 45)) s kc ks) else (Q (some (sa 46)) s kc ks)))) else (Q (some (sa 8)) s kc ks)))
set_option maxRecDepth 100000 in
set_option maxHeartbeats 4000000 in
theorem kc_Ch_kindWord (base : Nat) (sa : Nat → Nat) {R : pmM} {s : cS} {kc ks : Nat} {Rt : pmR} {p0 : Nat} {Q : (Option Nat → cS → Nat → Nat → Prop)} (hw : cW sa R base s) (h : C_Ch_kindWord sa p0 s kc ks Q) (k : ∀ r s' kc' ks', cW sa R base s' → Q r s' kc' ks' → Rt (some (va_rf r)) (cM R s') kc' ks') : kP_Ch_kindWord base sa [.ref p0] (cM R s) kc ks Rt := by
  refine ⟨Nat.le_of_ble_eq_true rfl, fun G hG => ?_⟩
  refine (show KK sa R base G 0 [(0, va_rf (some p0))] [] s kc ks (C_Ch_kindWord sa p0 s kc ks Q) from ?_) hw h
  refine kk_aln hG (x := (some p0)) rfl rfl ?_
  refine kk_gi hG (c := 1) (k := 0) (a := p0) rfl rfl rfl rfl (fun v1 => ?_)
  refine kk_zeq hG (t := 10) rfl rfl ?_ ?_
  · refine kk_aln hG (x := (some p0)) rfl rfl ?_
    refine kk_gi hG (c := 1) (k := 2) (a := p0) rfl rfl rfl rfl (fun v2 => ?_)
    refine kk_zle hG (t := 22) rfl rfl ?_ ?_
    · refine kk_lds hG (a := sa 46) rfl rfl ?_
      exact kk_ra hG (x := (some (sa 46))) rfl rfl rfl k
    refine kk_lds hG (a := sa 45) rfl rfl ?_
    refine kk_go hG (t := 24) rfl rfl ?_
    exact kk_ra hG (x := (some (sa 45))) rfl rfl rfl k
  refine kk_lds hG (a := sa 8) rfl rfl ?_
  exact kk_ra hG (x := (some (sa 8))) rfl rfl rfl k
def C_Rf_writePorts_b165 (sa : Nat → Nat) (p0 : Nat) (p1 : Option Nat) (a2 : Int32) (a3 : Option Nat) (a4 : Int32) (s : cS) (kc ks : Nat) (Q : (cS → Nat → Nat → Prop)) (P2 : (Int32 → cS → Nat → Nat → Prop)) (P126 : (Int32 → cS → Nat → Nat → Prop)) : Prop := (P126 (a4 + (2 : Int32)) s kc ks)
def C_Rf_writePorts_s126 (sa : Nat → Nat) (p0 : Nat) (p1 : Option Nat) (a2 : Int32) (a3 : Option Nat) (a4 : Int32) (s : cS) (kc ks : Nat) (Q : (cS → Nat → Nat → Prop)) (P2 : (Int32 → cS → Nat → Nat → Prop)) (P126 : (Int32 → cS → Nat → Nat → Prop)) : Prop := if (6 : Int32) < a4 then ((ob (gP s 11 1 p0) (fun v1 => (ob v1 (fun b2 => (okO s 0 b2 ∧ C_By_endLine sa b2 s kc ks (fun sr3 cr3 dr3 => ((P2 (a2 + (1 : Int32)) sr3 cr3 dr3))))))))) else (ob a3 (fun b4 => (okO s 4 b4 ∧ C_Po_addressOf sa b4 a4 s kc ks (fun r5 sr5 cr5 dr5 => (if r5 = none then ((C_Rf_writePorts_b165 sa p0 p1 a2 (some b4) a4 sr5 cr5 dr5 Q P2 P126)) else (ob (gP sr5 11 1 p0) (fun v6 => (ob v6 (fun b7 => (okO sr5 0 b7 ∧ C_By_word sa b7 (some (sa 3)) sr5 cr5 dr5 (fun sr8 cr8 dr8 => (ob (gP sr8 11 1 p0) (fun v9 => (ob v9 (fun b10 => (okO sr8 0 b10 ∧ C_By_addPrefix sa b10 r5 sr8 cr8 dr8 (fun sr11 cr11 dr11 => ((C_Rf_writePorts_b165 sa p0 p1 a2 (some b4) a4 sr11 cr11 dr11 Q P2 P126)))))))))))))))))))
def C_Rf_writePorts_b126 (sa : Nat → Nat) (p0 : Nat) (p1 : Option Nat) (a2 : Int32) (a3 : Option Nat) (a4 : Int32) (s : cS) (kc ks : Nat) (Q : (cS → Nat → Nat → Prop)) (P2 : (Int32 → cS → Nat → Nat → Prop)) : Prop := ∀ P126 : (Int32 → cS → Nat → Nat → Prop), (∀ (a4 : Int32) (s : cS) (kc ks : Nat), C_Rf_writePorts_s126 sa p0 p1 a2 a3 a4 s kc ks Q P2 P126 → P126 a4 s kc ks) → P126 a4 s kc ks
def C_Rf_writePorts_b123 (sa : Nat → Nat) (p0 : Nat) (p1 : Option Nat) (a2 : Int32) (a3 : Option Nat) (s : cS) (kc ks : Nat) (Q : (cS → Nat → Nat → Prop)) (P2 : (Int32 → cS → Nat → Nat → Prop)) : Prop := (C_Rf_writePorts_b126 sa p0 p1 a2 a3 (4 : Int32) s kc ks Q P2)
def C_Rf_writePorts_b54 (sa : Nat → Nat) (p0 : Nat) (p1 : Option Nat) (a2 : Int32) (a3 : Option Nat) (u0 : Option Nat) (u1 : Option Nat) (s : cS) (kc ks : Nat) (Q : (cS → Nat → Nat → Prop)) (P2 : (Int32 → cS → Nat → Nat → Prop)) : Prop := ob u0 (fun b1 => (okO s 0 b1 ∧ C_By_word sa b1 u1 s kc ks (fun sr2 cr2 dr2 => (ob (gP sr2 11 1 p0) (fun v3 => (ob v3 (fun b4 => (okO sr2 0 b4 ∧ C_By_word sa b4 (some (sa 6)) sr2 cr2 dr2 (fun sr5 cr5 dr5 => (ob (gP sr5 11 1 p0) (fun v6 => (ob a3 (fun b7 => (ob (gI sr5 4 3 b7) (fun v8 => (ob v6 (fun b9 => (okO sr5 0 b9 ∧ C_By_wordNumber sa b9 v8 sr5 cr5 dr5 (fun sr10 cr10 dr10 => (ob (gP sr10 11 1 p0) (fun v11 => (ob (gI sr10 4 4 b7) (fun v12 => (C_Rf_splitWord sa v12 sr10 cr10 dr10 (fun r13 sr13 cr13 dr13 => (ob v11 (fun b14 => (okO sr13 0 b14 ∧ C_By_word sa b14 r13 sr13 cr13 dr13 (fun sr15 cr15 dr15 => (ob (gP sr15 11 1 p0) (fun v16 => (ob (gP sr15 4 6 b7) (fun v17 => (ob v17 (fun b18 => (okO sr15 1 b18 ∧ C_Ch_kindWord sa b18 sr15 cr15 dr15 (fun r19 sr19 cr19 dr19 => (ob v16 (fun b20 => (okO sr19 0 b20 ∧ C_By_word sa b20 r19 sr19 cr19 dr19 (fun sr21 cr21 dr21 => (ob (gI sr21 4 5 b7) (fun v22 => (if v22 = 0 then ((C_Rf_writePorts_b123 sa p0 p1 a2 (some b7) sr21 cr21 dr21 Q P2)) else (ob (gP sr21 11 1 p0) (fun v23 => (ob v23 (fun b24 => (okO sr21 0 b24 ∧ C_By_word sa b24 (some (sa 11)) sr21 cr21 dr21 (fun sr25 cr25 dr25 => ((C_Rf_writePorts_b123 sa p0 p1 a2 (some b7) sr25 cr25 dr25 Q P2))))))))))))))))))))))))))))))))))))))))))))))))))))
def C_Rf_writePorts_s2 (sa : Nat → Nat) (p0 : Nat) (p1 : Option Nat) (a2 : Int32) (s : cS) (kc ks : Nat) (Q : (cS → Nat → Nat → Prop)) (P2 : (Int32 → cS → Nat → Nat → Prop)) : Prop := ob p1 (fun b1 => (ob (gI s 9 5 b1) (fun v2 => (if a2 < v2 then (ob (gP s 9 4 b1) (fun v3 => (ob v3 (fun b4 => (ob (rQ s b4 a2) (fun v5 => (ob (gP s 11 1 p0) (fun v6 => (ob v5 (fun b7 => (ob (gP s 4 0 b7) (fun v8 => (ob v8 (fun b9 => (ob (gP s 3 0 b9) (fun v10 => (ob v6 (fun b11 => (okO s 0 b11 ∧ C_By_word sa b11 v10 s kc ks (fun sr12 cr12 dr12 => (ob (gP sr12 11 1 p0) (fun v13 => (ob (gP sr12 4 0 b7) (fun v14 => (ob v14 (fun b15 => (ob (gI sr12 3 4 b15) (fun v16 => (if v16 = 0 then ((C_Rf_writePorts_b54 sa p0 (some b1) a2 (some b7) v13 (some (sa 44)) sr12 cr12 dr12 Q P2)) else ((C_Rf_writePorts_b54 sa p0 (some b1) a2 (some b7) v13 (some (sa 43)) sr12 cr12 dr12 Q P2))))))))))))))))))))))))))))))) else ((Q s kc ks))))))
def C_Rf_writePorts_b2 (sa : Nat → Nat) (p0 : Nat) (p1 : Option Nat) (a2 : Int32) (s : cS) (kc ks : Nat) (Q : (cS → Nat → Nat → Prop)) : Prop := ∀ P2 : (Int32 → cS → Nat → Nat → Prop), (∀ (a2 : Int32) (s : cS) (kc ks : Nat), C_Rf_writePorts_s2 sa p0 p1 a2 s kc ks Q P2 → P2 a2 s kc ks) → P2 a2 s kc ks
def C_Rf_writePorts (sa : Nat → Nat) (p0 : Nat) (p1 : Option Nat) (s : cS) (kc ks : Nat) (Q : (cS → Nat → Nat → Prop)) : Prop := (C_Rf_writePorts_b2 sa p0 p1 (0 : Int32) s kc ks Q)
set_option maxRecDepth 100000 in
set_option maxHeartbeats 4000000 in
theorem kc_Rf_writePorts (base : Nat) (sa : Nat → Nat) {R : pmM} {s : cS} {kc ks : Nat} {Rt : pmR} {p0 : Nat} {p1 : Option Nat} {Q : (cS → Nat → Nat → Prop)} (hw : cW sa R base s) (h : C_Rf_writePorts sa p0 p1 s kc ks Q) (k : ∀ s' kc' ks', cW sa R base s' → Q s' kc' ks' → Rt none (cM R s') kc' ks') : kP_Rf_writePorts base sa [.ref p0, va_rf p1] (cM R s) kc ks Rt := by
  refine ⟨by cases p1 <;> exact Nat.le_of_ble_eq_true rfl, fun G hG => ?_⟩
  have eL : lv_args 0 [.ref p0, va_rf p1] = [(0, va_rf (some p0)), (1, va_rf p1)] := by cases p1 <;> rfl
  rw [eL]
  have b2 : ∀ (a2 : Int32) (s : cS) (kc ks : Nat), KK sa R base G 2 [(0, va_rf (some p0)), (1, va_rf p1), (2, .int a2)] [] s kc ks (C_Rf_writePorts_b2 sa p0 p1 a2 s kc ks Q) := by
    have H : ∀ (P2 : (Int32 → cS → Nat → Nat → Prop)) (hP2 : ∀ (a2 : Int32) (s : cS) (kc ks : Nat), P2 a2 s kc ks → cW sa R base s → G 2 [(0, va_rf (some p0)), (1, va_rf p1), (2, .int a2)] [] (cM R s) kc ks) (a2 : Int32) (s : cS) (kc ks : Nat), KK sa R base G 2 [(0, va_rf (some p0)), (1, va_rf p1), (2, .int a2)] [] s kc ks (C_Rf_writePorts_s2 sa p0 p1 a2 s kc ks Q P2) := by
      intro P2 hP2
      have b126 : ∀ (a2 : Int32) (a3 : Option Nat) (a4 : Int32) (s : cS) (kc ks : Nat), KK sa R base G 126 [(0, va_rf (some p0)), (1, va_rf p1), (2, .int a2), (3, va_rf a3), (4, .int a4)] [] s kc ks (C_Rf_writePorts_b126 sa p0 p1 a2 a3 a4 s kc ks Q P2) := by
        intro a2 a3
        have H : ∀ (P126 : (Int32 → cS → Nat → Nat → Prop)) (hP126 : ∀ (a4 : Int32) (s : cS) (kc ks : Nat), P126 a4 s kc ks → cW sa R base s → G 126 [(0, va_rf (some p0)), (1, va_rf p1), (2, .int a2), (3, va_rf a3), (4, .int a4)] [] (cM R s) kc ks) (a4 : Int32) (s : cS) (kc ks : Nat), KK sa R base G 126 [(0, va_rf (some p0)), (1, va_rf p1), (2, .int a2), (3, va_rf a3), (4, .int a4)] [] s kc ks (C_Rf_writePorts_s126 sa p0 p1 a2 a3 a4 s kc ks Q P2 P126) := by
          intro P126 hP126
          have b165 : ∀ (a4 : Int32) (s : cS) (kc ks : Nat), KK sa R base G 165 [(0, va_rf (some p0)), (1, va_rf p1), (2, .int a2), (3, va_rf a3), (4, .int a4)] [] s kc ks (C_Rf_writePorts_b165 sa p0 p1 a2 a3 a4 s kc ks Q P2 P126) := by
            intro a4 s kc ks
            refine kk_inc hG (L' := [(4, .int (a4 + (2 : Int32))), (0, va_rf (some p0)), (1, va_rf p1), (2, .int a2), (3, va_rf a3)]) rfl (Nat.le_of_ble_eq_true rfl) rfl cc_i2 (by cases a3 <;> rfl) ?_
            refine kk_go hG (t := 126) rfl rfl ?_
            exact kk_wl hG [1, 2, 3, 4, 0] rfl (fun hw h => hP126 _ _ _ _ h hw)
          intro a4 s kc ks
          refine kks hG rfl rfl ?_
          refine kk_bi hG rfl cc_b6 ?_
          refine kk_igt hG (t := 171) rfl rfl ?_ ?_
          · refine kk_aln hG (x := (some p0)) rfl rfl ?_
            refine kk_gp hG (c := 11) (k := 1) (a := p0) rfl rfl rfl rfl (fun v1 => ?_)
            refine kk_ob (fun b2 eb2 => ?_)
            subst eb2
            refine kk_cv hG 0 rfl rfl (Nat.le_of_ble_eq_true rfl) (by decide) rfl (st' := []) rfl (cats_le (Nat.le_of_ble_eq_true rfl)) (fun _ hw h k => kk_rcv h.1 (kc_By_endLine base sa hw h.2 k)) (fun sr3 cr3 dr3 => ?_)
            refine kk_inc hG (L' := [(2, .int (a2 + (1 : Int32))), (0, va_rf (some p0)), (1, va_rf p1), (3, va_rf a3), (4, .int a4)]) rfl (Nat.le_of_ble_eq_true rfl) rfl cc_i1 (by cases p1 <;> rfl) ?_
            refine kk_go hG (t := 2) rfl rfl ?_
            exact kk_wl hG [1, 2, 0] rfl (fun hw h => hP2 _ _ _ _ h hw)
          refine kk_aln hG (x := a3) rfl rfl ?_
          refine kks hG rfl rfl ?_
          refine kk_ob (fun b4 eb4 => ?_)
          subst eb4
          refine kk_cx (w := va_rf) hG 0 rfl rfl (Nat.le_of_ble_eq_true rfl) (by decide) rfl (st' := []) rfl (cats_le (Nat.le_of_ble_eq_true rfl)) (fun _ hw h k => kk_rcv h.1 (kc_Po_addressOf base sa hw h.2 k)) (fun r5 sr5 cr5 dr5 => ?_)
          refine kk_as hG (x := r5) (L' := [(5, va_rf r5), (0, va_rf (some p0)), (1, va_rf p1), (2, .int a2), (3, va_rf (some b4)), (4, .int a4)]) rfl (Nat.le_of_ble_eq_true rfl) rfl ?_
          refine kk_al hG (x := r5) rfl rfl ?_
          refine kk_nul hG (x := r5) (t := 165) rfl rfl ?_ ?_
          · exact kk_wl hG [1, 2, 3, 4, 5] rfl (b165 _ _ _ _)
          refine kk_aln hG (x := (some p0)) rfl rfl ?_
          refine kk_gp hG (c := 11) (k := 1) (a := p0) rfl rfl rfl rfl (fun v6 => ?_)
          refine kk_lws hG (a := sa 3) rfl rfl ?_
          refine kk_ob (fun b7 eb7 => ?_)
          subst eb7
          refine kk_cv hG 0 rfl rfl (Nat.le_of_ble_eq_true rfl) (by decide) rfl (st' := []) rfl (cats_le (Nat.le_of_ble_eq_true rfl)) (fun _ hw h k => kk_rcv h.1 (kc_By_word base sa hw h.2 k)) (fun sr8 cr8 dr8 => ?_)
          refine kk_aln hG (x := (some p0)) rfl rfl ?_
          refine kk_gp hG (c := 11) (k := 1) (a := p0) rfl rfl rfl rfl (fun v9 => ?_)
          refine kk_al hG (x := r5) rfl rfl ?_
          refine kk_ob (fun b10 eb10 => ?_)
          subst eb10
          refine kk_cv hG 0 rfl rfl (Nat.le_of_ble_eq_true rfl) (by decide) rfl (st' := []) rfl (cats_le (Nat.le_of_ble_eq_true rfl)) (fun _ hw h k => kk_rcv h.1 (kc_By_addPrefix base sa hw h.2 k)) (fun sr11 cr11 dr11 => ?_)
          exact kk_wl hG [1, 2, 3, 4, 5] rfl (b165 _ _ _ _)
        exact fun a4 s kc ks hw h => h (fun a4 s kc ks => cW sa R base s → G 126 [(0, va_rf (some p0)), (1, va_rf p1), (2, .int a2), (3, va_rf a3), (4, .int a4)] [] (cM R s) kc ks) (fun a4 s kc ks hs hw => H _ (fun _ _ _ _ hp hw => hp hw) a4 s kc ks hw hs) hw
      have b123 : ∀ (a2 : Int32) (a3 : Option Nat) (s : cS) (kc ks : Nat), KK sa R base G 123 [(0, va_rf (some p0)), (1, va_rf p1), (2, .int a2), (3, va_rf a3)] [] s kc ks (C_Rf_writePorts_b123 sa p0 p1 a2 a3 s kc ks Q P2) := by
        intro a2 a3 s kc ks
        refine kk_ic hG rfl cc_i4 ?_
        refine kk_st hG (L' := [(4, .int (4 : Int32)), (0, va_rf (some p0)), (1, va_rf p1), (2, .int a2), (3, va_rf a3)]) rfl rfl (Nat.le_of_ble_eq_true rfl) (by cases a3 <;> rfl) ?_
        exact kk_wl hG [1, 2, 3, 4, 0] rfl (b126 _ _ _ _ _ _)
      have b54 : ∀ (a2 : Int32) (a3 : Option Nat) (u0 : Option Nat) (u1 : Option Nat) (s : cS) (kc ks : Nat), KK sa R base G 54 [(0, va_rf (some p0)), (1, va_rf p1), (2, .int a2), (3, va_rf a3)] [va_rf u1, va_rf u0] s kc ks (C_Rf_writePorts_b54 sa p0 p1 a2 a3 u0 u1 s kc ks Q P2) := by
        intro a2 a3 u0 u1 s kc ks
        refine kk_ob (fun b1 eb1 => ?_)
        subst eb1
        refine kk_cv hG 0 rfl rfl (Nat.le_of_ble_eq_true rfl) (by decide) rfl (st' := []) rfl (cats_le (Nat.le_of_ble_eq_true rfl)) (fun _ hw h k => kk_rcv h.1 (kc_By_word base sa hw h.2 k)) (fun sr2 cr2 dr2 => ?_)
        refine kk_aln hG (x := (some p0)) rfl rfl ?_
        refine kk_gp hG (c := 11) (k := 1) (a := p0) rfl rfl rfl rfl (fun v3 => ?_)
        refine kk_lws hG (a := sa 6) rfl rfl ?_
        refine kk_ob (fun b4 eb4 => ?_)
        subst eb4
        refine kk_cv hG 0 rfl rfl (Nat.le_of_ble_eq_true rfl) (by decide) rfl (st' := []) rfl (cats_le (Nat.le_of_ble_eq_true rfl)) (fun _ hw h k => kk_rcv h.1 (kc_By_word base sa hw h.2 k)) (fun sr5 cr5 dr5 => ?_)
        refine kk_aln hG (x := (some p0)) rfl rfl ?_
        refine kk_gp hG (c := 11) (k := 1) (a := p0) rfl rfl rfl rfl (fun v6 => ?_)
        refine kk_aln hG (x := a3) rfl rfl ?_
        refine kk_ob (fun b7 eb7 => ?_)
        subst eb7
        refine kk_gi hG (c := 4) (k := 3) (a := b7) rfl rfl rfl rfl (fun v8 => ?_)
        refine kk_ob (fun b9 eb9 => ?_)
        subst eb9
        refine kk_cv hG 0 rfl rfl (Nat.le_of_ble_eq_true rfl) (by decide) rfl (st' := []) rfl (cats_le (Nat.le_of_ble_eq_true rfl)) (fun _ hw h k => kk_rcv h.1 (kc_By_wordNumber base sa hw h.2 k)) (fun sr10 cr10 dr10 => ?_)
        refine kk_aln hG (x := (some p0)) rfl rfl ?_
        refine kk_gp hG (c := 11) (k := 1) (a := p0) rfl rfl rfl rfl (fun v11 => ?_)
        refine kk_aln hG (x := (some b7)) rfl rfl ?_
        refine kk_gi hG (c := 4) (k := 4) (a := b7) rfl rfl rfl rfl (fun v12 => ?_)
        refine kk_cx (w := va_rf) hG 2 rfl rfl (Nat.le_of_ble_eq_true rfl) (by decide) rfl (st' := [va_rf v11]) rfl (cats_le (Nat.le_of_ble_eq_true rfl)) (fun _ hw h k => kc_Rf_splitWord base sa hw h k) (fun r13 sr13 cr13 dr13 => ?_)
        refine kk_ob (fun b14 eb14 => ?_)
        subst eb14
        refine kk_cv hG 0 rfl rfl (Nat.le_of_ble_eq_true rfl) (by decide) rfl (st' := []) rfl (cats_le (Nat.le_of_ble_eq_true rfl)) (fun _ hw h k => kk_rcv h.1 (kc_By_word base sa hw h.2 k)) (fun sr15 cr15 dr15 => ?_)
        refine kk_aln hG (x := (some p0)) rfl rfl ?_
        refine kk_gp hG (c := 11) (k := 1) (a := p0) rfl rfl rfl rfl (fun v16 => ?_)
        refine kk_aln hG (x := (some b7)) rfl rfl ?_
        refine kk_gp hG (c := 4) (k := 6) (a := b7) rfl rfl rfl rfl (fun v17 => ?_)
        refine kk_ob (fun b18 eb18 => ?_)
        subst eb18
        refine kk_cx (w := va_rf) hG 0 rfl rfl (Nat.le_of_ble_eq_true rfl) (by decide) rfl (st' := [va_rf v16]) rfl (cats_le (Nat.le_of_ble_eq_true rfl)) (fun _ hw h k => kk_rcv h.1 (kc_Ch_kindWord base sa hw h.2 k)) (fun r19 sr19 cr19 dr19 => ?_)
        refine kk_ob (fun b20 eb20 => ?_)
        subst eb20
        refine kk_cv hG 0 rfl rfl (Nat.le_of_ble_eq_true rfl) (by decide) rfl (st' := []) rfl (cats_le (Nat.le_of_ble_eq_true rfl)) (fun _ hw h k => kk_rcv h.1 (kc_By_word base sa hw h.2 k)) (fun sr21 cr21 dr21 => ?_)
        refine kk_aln hG (x := (some b7)) rfl rfl ?_
        refine kk_gi hG (c := 4) (k := 5) (a := b7) rfl rfl rfl rfl (fun v22 => ?_)
        refine kk_zeq hG (t := 123) rfl rfl ?_ ?_
        · exact kk_wl hG [0, 1, 2, 3] rfl (b123 _ _ _ _ _)
        refine kk_aln hG (x := (some p0)) rfl rfl ?_
        refine kk_gp hG (c := 11) (k := 1) (a := p0) rfl rfl rfl rfl (fun v23 => ?_)
        refine kk_lws hG (a := sa 11) rfl rfl ?_
        refine kk_ob (fun b24 eb24 => ?_)
        subst eb24
        refine kk_cv hG 0 rfl rfl (Nat.le_of_ble_eq_true rfl) (by decide) rfl (st' := []) rfl (cats_le (Nat.le_of_ble_eq_true rfl)) (fun _ hw h k => kk_rcv h.1 (kc_By_word base sa hw h.2 k)) (fun sr25 cr25 dr25 => ?_)
        exact kk_wl hG [0, 1, 2, 3] rfl (b123 _ _ _ _ _)
      intro a2 s kc ks
      refine kks hG rfl rfl ?_
      refine kk_aln hG (x := p1) rfl rfl ?_
      refine kk_ob (fun b1 eb1 => ?_)
      subst eb1
      refine kk_gi hG (c := 9) (k := 5) (a := b1) rfl rfl rfl rfl (fun v2 => ?_)
      refine kk_ige hG (t := 184) rfl rfl ?_ ?_
      · exact kk_rv hG rfl rfl k
      refine kk_aln hG (x := (some b1)) rfl rfl ?_
      refine kk_gp hG (c := 9) (k := 4) (a := b1) rfl rfl rfl rfl (fun v3 => ?_)
      refine kks hG rfl rfl ?_
      refine kk_ob (fun b4 eb4 => ?_)
      subst eb4
      refine kk_aa hG (a := b4) rfl (fun v5 => ?_)
      refine kk_asn hG (x := v5) (L' := [(3, va_rf v5), (0, va_rf (some p0)), (1, va_rf (some b1)), (2, .int a2)]) rfl (Nat.le_of_ble_eq_true rfl) rfl ?_
      refine kk_aln hG (x := (some p0)) rfl rfl ?_
      refine kk_gp hG (c := 11) (k := 1) (a := p0) rfl rfl rfl rfl (fun v6 => ?_)
      refine kk_aln hG (x := v5) rfl rfl ?_
      refine kk_ob (fun b7 eb7 => ?_)
      subst eb7
      refine kk_gp hG (c := 4) (k := 0) (a := b7) rfl rfl rfl rfl (fun v8 => ?_)
      refine kk_ob (fun b9 eb9 => ?_)
      subst eb9
      refine kk_gp hG (c := 3) (k := 0) (a := b9) rfl rfl rfl rfl (fun v10 => ?_)
      refine kk_ob (fun b11 eb11 => ?_)
      subst eb11
      refine kk_cv hG 0 rfl rfl (Nat.le_of_ble_eq_true rfl) (by decide) rfl (st' := []) rfl (cats_le (Nat.le_of_ble_eq_true rfl)) (fun _ hw h k => kk_rcv h.1 (kc_By_word base sa hw h.2 k)) (fun sr12 cr12 dr12 => ?_)
      refine kk_aln hG (x := (some p0)) rfl rfl ?_
      refine kk_gp hG (c := 11) (k := 1) (a := p0) rfl rfl rfl rfl (fun v13 => ?_)
      refine kk_aln hG (x := (some b7)) rfl rfl ?_
      refine kk_gp hG (c := 4) (k := 0) (a := b7) rfl rfl rfl rfl (fun v14 => ?_)
      refine kk_ob (fun b15 eb15 => ?_)
      subst eb15
      refine kk_gi hG (c := 3) (k := 4) (a := b15) rfl rfl rfl rfl (fun v16 => ?_)
      refine kk_zeq hG (t := 51) rfl rfl ?_ ?_
      · refine kk_lws hG (a := sa 44) rfl rfl ?_
        exact kk_wl hG [1, 2, 3, 0] rfl (b54 _ _ _ _ _ _ _)
      refine kk_lws hG (a := sa 43) rfl rfl ?_
      refine kk_go hG (t := 54) rfl rfl ?_
      exact kk_wl hG [1, 2, 3, 0] rfl (b54 _ _ _ _ _ _ _)
    exact fun a2 s kc ks hw h => h (fun a2 s kc ks => cW sa R base s → G 2 [(0, va_rf (some p0)), (1, va_rf p1), (2, .int a2)] [] (cM R s) kc ks) (fun a2 s kc ks hs hw => H _ (fun _ _ _ _ hp hw => hp hw) a2 s kc ks hw hs) hw
  refine (show KK sa R base G 0 [(0, va_rf (some p0)), (1, va_rf p1)] [] s kc ks (C_Rf_writePorts sa p0 p1 s kc ks Q) from ?_) hw h
  refine kk_ic hG rfl cc_i0 ?_
  refine kk_st hG (L' := [(2, .int (0 : Int32)), (0, va_rf (some p0)), (1, va_rf p1)]) rfl rfl (Nat.le_of_ble_eq_true rfl) (by cases p1 <;> rfl) ?_
  exact kk_wl hG [1, 2, 0] rfl (b2 _ _ _ _)
def C_Rf_writeCounts_s2 (sa : Nat → Nat) (p0 : Nat) (p1 : Option Nat) (a2 : Int32) (s : cS) (kc ks : Nat) (Q : (cS → Nat → Nat → Prop)) (P2 : (Int32 → cS → Nat → Nat → Prop)) : Prop := if a2 < (11 : Int32) then (ob (gP s 11 1 p0) (fun v1 => (ob v1 (fun b2 => (okO s 0 b2 ∧ C_By_wordNumber sa b2 a2 s kc ks (fun sr3 cr3 dr3 => (ob (gP sr3 11 1 p0) (fun v4 => (ob p1 (fun b5 => (ob (gP sr3 9 16 b5) (fun v6 => (ob v6 (fun b7 => (ob (rE sr3 .int b7 a2) (fun v8 => (ob v4 (fun b9 => (okO sr3 0 b9 ∧ C_By_wordNumber sa b9 v8 sr3 cr3 dr3 (fun sr10 cr10 dr10 => (ob (gP sr10 11 1 p0) (fun v11 => (ob v11 (fun b12 => (okO sr10 0 b12 ∧ C_By_endLine sa b12 sr10 cr10 dr10 (fun sr13 cr13 dr13 => ((P2 (a2 + (1 : Int32)) sr13 cr13 dr13)))))))))))))))))))))))))))) else ((Q s kc ks))
def C_Rf_writeCounts_b2 (sa : Nat → Nat) (p0 : Nat) (p1 : Option Nat) (a2 : Int32) (s : cS) (kc ks : Nat) (Q : (cS → Nat → Nat → Prop)) : Prop := ∀ P2 : (Int32 → cS → Nat → Nat → Prop), (∀ (a2 : Int32) (s : cS) (kc ks : Nat), C_Rf_writeCounts_s2 sa p0 p1 a2 s kc ks Q P2 → P2 a2 s kc ks) → P2 a2 s kc ks
def C_Rf_writeCounts (sa : Nat → Nat) (p0 : Nat) (p1 : Option Nat) (s : cS) (kc ks : Nat) (Q : (cS → Nat → Nat → Prop)) : Prop := (C_Rf_writeCounts_b2 sa p0 p1 (0 : Int32) s kc ks Q)
set_option maxRecDepth 100000 in
set_option maxHeartbeats 4000000 in
theorem kc_Rf_writeCounts (base : Nat) (sa : Nat → Nat) {R : pmM} {s : cS} {kc ks : Nat} {Rt : pmR} {p0 : Nat} {p1 : Option Nat} {Q : (cS → Nat → Nat → Prop)} (hw : cW sa R base s) (h : C_Rf_writeCounts sa p0 p1 s kc ks Q) (k : ∀ s' kc' ks', cW sa R base s' → Q s' kc' ks' → Rt none (cM R s') kc' ks') : kP_Rf_writeCounts base sa [.ref p0, va_rf p1] (cM R s) kc ks Rt := by
  refine ⟨by cases p1 <;> exact Nat.le_of_ble_eq_true rfl, fun G hG => ?_⟩
  have eL : lv_args 0 [.ref p0, va_rf p1] = [(0, va_rf (some p0)), (1, va_rf p1)] := by cases p1 <;> rfl
  rw [eL]
  have b2 : ∀ (a2 : Int32) (s : cS) (kc ks : Nat), KK sa R base G 2 [(0, va_rf (some p0)), (1, va_rf p1), (2, .int a2)] [] s kc ks (C_Rf_writeCounts_b2 sa p0 p1 a2 s kc ks Q) := by
    have H : ∀ (P2 : (Int32 → cS → Nat → Nat → Prop)) (hP2 : ∀ (a2 : Int32) (s : cS) (kc ks : Nat), P2 a2 s kc ks → cW sa R base s → G 2 [(0, va_rf (some p0)), (1, va_rf p1), (2, .int a2)] [] (cM R s) kc ks) (a2 : Int32) (s : cS) (kc ks : Nat), KK sa R base G 2 [(0, va_rf (some p0)), (1, va_rf p1), (2, .int a2)] [] s kc ks (C_Rf_writeCounts_s2 sa p0 p1 a2 s kc ks Q P2) := by
      intro P2 hP2
      intro a2 s kc ks
      refine kks hG rfl rfl ?_
      refine kk_bi hG rfl cc_b11 ?_
      refine kk_ige hG (t := 42) rfl rfl ?_ ?_
      · exact kk_rv hG rfl rfl k
      refine kk_aln hG (x := (some p0)) rfl rfl ?_
      refine kk_gp hG (c := 11) (k := 1) (a := p0) rfl rfl rfl rfl (fun v1 => ?_)
      refine kks hG rfl rfl ?_
      refine kk_ob (fun b2 eb2 => ?_)
      subst eb2
      refine kk_cv hG 0 rfl rfl (Nat.le_of_ble_eq_true rfl) (by decide) rfl (st' := []) rfl (cats_le (Nat.le_of_ble_eq_true rfl)) (fun _ hw h k => kk_rcv h.1 (kc_By_wordNumber base sa hw h.2 k)) (fun sr3 cr3 dr3 => ?_)
      refine kk_aln hG (x := (some p0)) rfl rfl ?_
      refine kk_gp hG (c := 11) (k := 1) (a := p0) rfl rfl rfl rfl (fun v4 => ?_)
      refine kk_aln hG (x := p1) rfl rfl ?_
      refine kk_ob (fun b5 eb5 => ?_)
      subst eb5
      refine kk_gp hG (c := 9) (k := 16) (a := b5) rfl rfl rfl rfl (fun v6 => ?_)
      refine kks hG rfl rfl ?_
      refine kk_ob (fun b7 eb7 => ?_)
      subst eb7
      refine kk_ia hG (a := b7) rfl (fun v8 => ?_)
      refine kk_ob (fun b9 eb9 => ?_)
      subst eb9
      refine kk_cv hG 0 rfl rfl (Nat.le_of_ble_eq_true rfl) (by decide) rfl (st' := []) rfl (cats_le (Nat.le_of_ble_eq_true rfl)) (fun _ hw h k => kk_rcv h.1 (kc_By_wordNumber base sa hw h.2 k)) (fun sr10 cr10 dr10 => ?_)
      refine kk_aln hG (x := (some p0)) rfl rfl ?_
      refine kk_gp hG (c := 11) (k := 1) (a := p0) rfl rfl rfl rfl (fun v11 => ?_)
      refine kk_ob (fun b12 eb12 => ?_)
      subst eb12
      refine kk_cv hG 0 rfl rfl (Nat.le_of_ble_eq_true rfl) (by decide) rfl (st' := []) rfl (cats_le (Nat.le_of_ble_eq_true rfl)) (fun _ hw h k => kk_rcv h.1 (kc_By_endLine base sa hw h.2 k)) (fun sr13 cr13 dr13 => ?_)
      refine kk_inc hG (L' := [(2, .int (a2 + (1 : Int32))), (0, va_rf (some p0)), (1, va_rf (some b5))]) rfl (Nat.le_of_ble_eq_true rfl) rfl cc_i1 rfl ?_
      refine kk_go hG (t := 2) rfl rfl ?_
      exact kk_wl hG [1, 2, 0] rfl (fun hw h => hP2 _ _ _ _ h hw)
    exact fun a2 s kc ks hw h => h (fun a2 s kc ks => cW sa R base s → G 2 [(0, va_rf (some p0)), (1, va_rf p1), (2, .int a2)] [] (cM R s) kc ks) (fun a2 s kc ks hs hw => H _ (fun _ _ _ _ hp hw => hp hw) a2 s kc ks hw hs) hw
  refine (show KK sa R base G 0 [(0, va_rf (some p0)), (1, va_rf p1)] [] s kc ks (C_Rf_writeCounts sa p0 p1 s kc ks Q) from ?_) hw h
  refine kk_ic hG rfl cc_i0 ?_
  refine kk_st hG (L' := [(2, .int (0 : Int32)), (0, va_rf (some p0)), (1, va_rf p1)]) rfl rfl (Nat.le_of_ble_eq_true rfl) (by cases p1 <;> rfl) ?_
  exact kk_wl hG [1, 2, 0] rfl (b2 _ _ _ _)
def C_Rf_writeTimes_b98 (sa : Nat → Nat) (p0 : Nat) (p1 : Option Nat) (a2 : Int32) (s : cS) (kc ks : Nat) (Q : (cS → Nat → Nat → Prop)) (P2 : (Int32 → cS → Nat → Nat → Prop)) : Prop := ob (gP s 11 1 p0) (fun v1 => (ob v1 (fun b2 => (okO s 0 b2 ∧ C_By_endLine sa b2 s kc ks (fun sr3 cr3 dr3 => ((P2 (a2 + (1 : Int32)) sr3 cr3 dr3)))))))
def C_Rf_writeTimes_b81 (sa : Nat → Nat) (p0 : Nat) (p1 : Option Nat) (a2 : Int32) (a3 : Option Nat) (s : cS) (kc ks : Nat) (Q : (cS → Nat → Nat → Prop)) (P2 : (Int32 → cS → Nat → Nat → Prop)) : Prop := ob a3 (fun b1 => (ob (gI s 8 7 b1) (fun v2 => (if v2 = 0 then ((C_Rf_writeTimes_b98 sa p0 p1 a2 s kc ks Q P2)) else (ob (gP s 11 1 p0) (fun v3 => (ob v3 (fun b4 => (okO s 0 b4 ∧ C_By_word sa b4 (some (sa 47)) s kc ks (fun sr5 cr5 dr5 => ((C_Rf_writeTimes_b98 sa p0 p1 a2 sr5 cr5 dr5 Q P2))))))))))))
def C_Rf_writeTimes_s2 (sa : Nat → Nat) (p0 : Nat) (p1 : Option Nat) (a2 : Int32) (s : cS) (kc ks : Nat) (Q : (cS → Nat → Nat → Prop)) (P2 : (Int32 → cS → Nat → Nat → Prop)) : Prop := ob p1 (fun b1 => (ob (gP s 9 6 b1) (fun v2 => (ob v2 (fun b3 => (ob (gI s 10 1 b3) (fun v4 => (if a2 < v4 then (ob (gP s 9 6 b1) (fun v5 => (ob v5 (fun b6 => (ob (gP s 10 0 b6) (fun v7 => (ob v7 (fun b8 => (ob (rQ s b8 a2) (fun v9 => (ob (gP s 11 1 p0) (fun v10 => (ob v10 (fun b11 => (okO s 0 b11 ∧ C_By_word sa b11 (some (sa 3)) s kc ks (fun sr12 cr12 dr12 => (ob (gP sr12 11 1 p0) (fun v13 => (ob v9 (fun b14 => (ob (gP sr12 8 0 b14) (fun v15 => (ob v13 (fun b16 => (okO sr12 0 b16 ∧ C_By_addPrefix sa b16 v15 sr12 cr12 dr12 (fun sr17 cr17 dr17 => (ob (gI sr17 8 3 b14) (fun v18 => (if v18 = (2 : Int32) then (ob (gP sr17 11 1 p0) (fun v22 => (ob (gI sr17 8 10 b14) (fun v23 => (ob (gI sr17 11 5 p0) (fun v24 => (ob v22 (fun b25 => (okO sr17 0 b25 ∧ C_By_wordNumber sa b25 (v23 - v24) sr17 cr17 dr17 (fun sr26 cr26 dr26 => ((C_Rf_writeTimes_b81 sa p0 (some b1) a2 (some b14) sr26 cr26 dr26 Q P2)))))))))))) else (ob (gP sr17 11 1 p0) (fun v19 => (ob v19 (fun b20 => (okO sr17 0 b20 ∧ C_By_word sa b20 (some (sa 42)) sr17 cr17 dr17 (fun sr21 cr21 dr21 => ((C_Rf_writeTimes_b81 sa p0 (some b1) a2 (some b14) sr21 cr21 dr21 Q P2))))))))))))))))))))))))))))))))))))) else ((Q s kc ks))))))))))
def C_Rf_writeTimes_b2 (sa : Nat → Nat) (p0 : Nat) (p1 : Option Nat) (a2 : Int32) (s : cS) (kc ks : Nat) (Q : (cS → Nat → Nat → Prop)) : Prop := ∀ P2 : (Int32 → cS → Nat → Nat → Prop), (∀ (a2 : Int32) (s : cS) (kc ks : Nat), C_Rf_writeTimes_s2 sa p0 p1 a2 s kc ks Q P2 → P2 a2 s kc ks) → P2 a2 s kc ks
def C_Rf_writeTimes (sa : Nat → Nat) (p0 : Nat) (p1 : Option Nat) (s : cS) (kc ks : Nat) (Q : (cS → Nat → Nat → Prop)) : Prop := (C_Rf_writeTimes_b2 sa p0 p1 (0 : Int32) s kc ks Q)
set_option maxRecDepth 100000 in
set_option maxHeartbeats 4000000 in
theorem kc_Rf_writeTimes (base : Nat) (sa : Nat → Nat) {R : pmM} {s : cS} {kc ks : Nat} {Rt : pmR} {p0 : Nat} {p1 : Option Nat} {Q : (cS → Nat → Nat → Prop)} (hw : cW sa R base s) (h : C_Rf_writeTimes sa p0 p1 s kc ks Q) (k : ∀ s' kc' ks', cW sa R base s' → Q s' kc' ks' → Rt none (cM R s') kc' ks') : kP_Rf_writeTimes base sa [.ref p0, va_rf p1] (cM R s) kc ks Rt := by
  refine ⟨by cases p1 <;> exact Nat.le_of_ble_eq_true rfl, fun G hG => ?_⟩
  have eL : lv_args 0 [.ref p0, va_rf p1] = [(0, va_rf (some p0)), (1, va_rf p1)] := by cases p1 <;> rfl
  rw [eL]
  have b2 : ∀ (a2 : Int32) (s : cS) (kc ks : Nat), KK sa R base G 2 [(0, va_rf (some p0)), (1, va_rf p1), (2, .int a2)] [] s kc ks (C_Rf_writeTimes_b2 sa p0 p1 a2 s kc ks Q) := by
    have H : ∀ (P2 : (Int32 → cS → Nat → Nat → Prop)) (hP2 : ∀ (a2 : Int32) (s : cS) (kc ks : Nat), P2 a2 s kc ks → cW sa R base s → G 2 [(0, va_rf (some p0)), (1, va_rf p1), (2, .int a2)] [] (cM R s) kc ks) (a2 : Int32) (s : cS) (kc ks : Nat), KK sa R base G 2 [(0, va_rf (some p0)), (1, va_rf p1), (2, .int a2)] [] s kc ks (C_Rf_writeTimes_s2 sa p0 p1 a2 s kc ks Q P2) := by
      intro P2 hP2
      have b98 : ∀ (a2 : Int32) (s : cS) (kc ks : Nat), KK sa R base G 98 [(0, va_rf (some p0)), (1, va_rf p1), (2, .int a2)] [] s kc ks (C_Rf_writeTimes_b98 sa p0 p1 a2 s kc ks Q P2) := by
        intro a2 s kc ks
        refine kk_aln hG (x := (some p0)) rfl rfl ?_
        refine kk_gp hG (c := 11) (k := 1) (a := p0) rfl rfl rfl rfl (fun v1 => ?_)
        refine kk_ob (fun b2 eb2 => ?_)
        subst eb2
        refine kk_cv hG 0 rfl rfl (Nat.le_of_ble_eq_true rfl) (by decide) rfl (st' := []) rfl (cats_le (Nat.le_of_ble_eq_true rfl)) (fun _ hw h k => kk_rcv h.1 (kc_By_endLine base sa hw h.2 k)) (fun sr3 cr3 dr3 => ?_)
        refine kk_inc hG (L' := [(2, .int (a2 + (1 : Int32))), (0, va_rf (some p0)), (1, va_rf p1)]) rfl (Nat.le_of_ble_eq_true rfl) rfl cc_i1 (by cases p1 <;> rfl) ?_
        refine kk_go hG (t := 2) rfl rfl ?_
        exact kk_wl hG [1, 2, 0] rfl (fun hw h => hP2 _ _ _ _ h hw)
      have b81 : ∀ (a2 : Int32) (a3 : Option Nat) (s : cS) (kc ks : Nat), KK sa R base G 81 [(0, va_rf (some p0)), (1, va_rf p1), (2, .int a2), (3, va_rf a3)] [] s kc ks (C_Rf_writeTimes_b81 sa p0 p1 a2 a3 s kc ks Q P2) := by
        intro a2 a3 s kc ks
        refine kk_aln hG (x := a3) rfl rfl ?_
        refine kk_ob (fun b1 eb1 => ?_)
        subst eb1
        refine kk_gi hG (c := 8) (k := 7) (a := b1) rfl rfl rfl rfl (fun v2 => ?_)
        refine kk_zeq hG (t := 98) rfl rfl ?_ ?_
        · exact kk_wl hG [0, 1, 2] rfl (b98 _ _ _ _)
        refine kk_aln hG (x := (some p0)) rfl rfl ?_
        refine kk_gp hG (c := 11) (k := 1) (a := p0) rfl rfl rfl rfl (fun v3 => ?_)
        refine kk_lws hG (a := sa 47) rfl rfl ?_
        refine kk_ob (fun b4 eb4 => ?_)
        subst eb4
        refine kk_cv hG 0 rfl rfl (Nat.le_of_ble_eq_true rfl) (by decide) rfl (st' := []) rfl (cats_le (Nat.le_of_ble_eq_true rfl)) (fun _ hw h k => kk_rcv h.1 (kc_By_word base sa hw h.2 k)) (fun sr5 cr5 dr5 => ?_)
        exact kk_wl hG [0, 1, 2] rfl (b98 _ _ _ _)
      intro a2 s kc ks
      refine kks hG rfl rfl ?_
      refine kk_aln hG (x := p1) rfl rfl ?_
      refine kk_ob (fun b1 eb1 => ?_)
      subst eb1
      refine kk_gp hG (c := 9) (k := 6) (a := b1) rfl rfl rfl rfl (fun v2 => ?_)
      refine kk_ob (fun b3 eb3 => ?_)
      subst eb3
      refine kk_gi hG (c := 10) (k := 1) (a := b3) rfl rfl rfl rfl (fun v4 => ?_)
      refine kk_ige hG (t := 111) rfl rfl ?_ ?_
      · exact kk_rv hG rfl rfl k
      refine kk_aln hG (x := (some b1)) rfl rfl ?_
      refine kk_gp hG (c := 9) (k := 6) (a := b1) rfl rfl rfl rfl (fun v5 => ?_)
      refine kk_ob (fun b6 eb6 => ?_)
      subst eb6
      refine kk_gp hG (c := 10) (k := 0) (a := b6) rfl rfl rfl rfl (fun v7 => ?_)
      refine kks hG rfl rfl ?_
      refine kk_ob (fun b8 eb8 => ?_)
      subst eb8
      refine kk_aa hG (a := b8) rfl (fun v9 => ?_)
      refine kk_asn hG (x := v9) (L' := [(3, va_rf v9), (0, va_rf (some p0)), (1, va_rf (some b1)), (2, .int a2)]) rfl (Nat.le_of_ble_eq_true rfl) rfl ?_
      refine kk_aln hG (x := (some p0)) rfl rfl ?_
      refine kk_gp hG (c := 11) (k := 1) (a := p0) rfl rfl rfl rfl (fun v10 => ?_)
      refine kk_lws hG (a := sa 3) rfl rfl ?_
      refine kk_ob (fun b11 eb11 => ?_)
      subst eb11
      refine kk_cv hG 0 rfl rfl (Nat.le_of_ble_eq_true rfl) (by decide) rfl (st' := []) rfl (cats_le (Nat.le_of_ble_eq_true rfl)) (fun _ hw h k => kk_rcv h.1 (kc_By_word base sa hw h.2 k)) (fun sr12 cr12 dr12 => ?_)
      refine kk_aln hG (x := (some p0)) rfl rfl ?_
      refine kk_gp hG (c := 11) (k := 1) (a := p0) rfl rfl rfl rfl (fun v13 => ?_)
      refine kk_aln hG (x := v9) rfl rfl ?_
      refine kk_ob (fun b14 eb14 => ?_)
      subst eb14
      refine kk_gp hG (c := 8) (k := 0) (a := b14) rfl rfl rfl rfl (fun v15 => ?_)
      refine kk_ob (fun b16 eb16 => ?_)
      subst eb16
      refine kk_cv hG 0 rfl rfl (Nat.le_of_ble_eq_true rfl) (by decide) rfl (st' := []) rfl (cats_le (Nat.le_of_ble_eq_true rfl)) (fun _ hw h k => kk_rcv h.1 (kc_By_addPrefix base sa hw h.2 k)) (fun sr17 cr17 dr17 => ?_)
      refine kk_aln hG (x := (some b14)) rfl rfl ?_
      refine kk_gi hG (c := 8) (k := 3) (a := b14) rfl rfl rfl rfl (fun v18 => ?_)
      refine kk_ic hG rfl cc_i2 ?_
      refine kk_ine hG (t := 71) rfl rfl ?_ ?_
      · refine kk_aln hG (x := (some p0)) rfl rfl ?_
        refine kk_gp hG (c := 11) (k := 1) (a := p0) rfl rfl rfl rfl (fun v19 => ?_)
        refine kk_lws hG (a := sa 42) rfl rfl ?_
        refine kk_ob (fun b20 eb20 => ?_)
        subst eb20
        refine kk_cv hG 0 rfl rfl (Nat.le_of_ble_eq_true rfl) (by decide) rfl (st' := []) rfl (cats_le (Nat.le_of_ble_eq_true rfl)) (fun _ hw h k => kk_rcv h.1 (kc_By_word base sa hw h.2 k)) (fun sr21 cr21 dr21 => ?_)
        exact kk_wl hG [1, 2, 3, 0] rfl (b81 _ _ _ _ _)
      refine kk_aln hG (x := (some p0)) rfl rfl ?_
      refine kk_gp hG (c := 11) (k := 1) (a := p0) rfl rfl rfl rfl (fun v22 => ?_)
      refine kk_aln hG (x := (some b14)) rfl rfl ?_
      refine kk_gi hG (c := 8) (k := 10) (a := b14) rfl rfl rfl rfl (fun v23 => ?_)
      refine kk_aln hG (x := (some p0)) rfl rfl ?_
      refine kk_gi hG (c := 11) (k := 5) (a := p0) rfl rfl rfl rfl (fun v24 => ?_)
      refine kks hG rfl rfl ?_
      refine kk_ob (fun b25 eb25 => ?_)
      subst eb25
      refine kk_cv hG 0 rfl rfl (Nat.le_of_ble_eq_true rfl) (by decide) rfl (st' := []) rfl (cats_le (Nat.le_of_ble_eq_true rfl)) (fun _ hw h k => kk_rcv h.1 (kc_By_wordNumber base sa hw h.2 k)) (fun sr26 cr26 dr26 => ?_)
      refine kk_go hG (t := 81) rfl rfl ?_
      exact kk_wl hG [1, 2, 3, 0] rfl (b81 _ _ _ _ _)
    exact fun a2 s kc ks hw h => h (fun a2 s kc ks => cW sa R base s → G 2 [(0, va_rf (some p0)), (1, va_rf p1), (2, .int a2)] [] (cM R s) kc ks) (fun a2 s kc ks hs hw => H _ (fun _ _ _ _ hp hw => hp hw) a2 s kc ks hw hs) hw
  refine (show KK sa R base G 0 [(0, va_rf (some p0)), (1, va_rf p1)] [] s kc ks (C_Rf_writeTimes sa p0 p1 s kc ks Q) from ?_) hw h
  refine kk_ic hG rfl cc_i0 ?_
  refine kk_st hG (L' := [(2, .int (0 : Int32)), (0, va_rf (some p0)), (1, va_rf p1)]) rfl rfl (Nat.le_of_ble_eq_true rfl) (by cases p1 <;> rfl) ?_
  exact kk_wl hG [1, 2, 0] rfl (b2 _ _ _ _)
def C_Rf_show_b71 (sa : Nat → Nat) (p0 : Nat) (s : cS) (kc ks : Nat) (Q : (Int32 → cS → Nat → Nat → Prop)) : Prop := ob (gP s 11 1 p0) (fun v1 => (ob v1 (fun b2 => (ob (gI s 0 1 b2) (fun v3 => (Q v3 s kc ks))))))
def C_Rf_show (sa : Nat → Nat) (p0 : Nat) (p1 : Int32) (p2 : Int32) (s : cS) (kc ks : Nat) (Q : (Int32 → cS → Nat → Nat → Prop)) : Prop := okO s 11 p0 ∧ C_Rf_routerAt sa p0 p1 s kc ks (fun r1 sr1 cr1 dr1 => (if r1 = none then (Q ((-1) : Int32) sr1 cr1 dr1) else (if p2 < 0 then (Q ((-1) : Int32) sr1 cr1 dr1) else (if (3 : Int32) < p2 then (Q ((-1) : Int32) sr1 cr1 dr1) else (ob (gP sr1 11 1 p0) (fun v2 => (ob v2 (fun b3 => (okO sr1 0 b3 ∧ C_By_clear sa b3 sr1 cr1 dr1 (fun sr4 cr4 dr4 => (if p2 = 0 then (okO sr4 11 p0 ∧ C_Rf_writeRoutes sa p0 r1 sr4 cr4 dr4 (fun sr8 cr8 dr8 => ((C_Rf_show_b71 sa p0 sr8 cr8 dr8 Q)))) else (if p2 = (1 : Int32) then (okO sr4 11 p0 ∧ C_Rf_writePorts sa p0 r1 sr4 cr4 dr4 (fun sr7 cr7 dr7 => ((C_Rf_show_b71 sa p0 sr7 cr7 dr7 Q)))) else (if p2 = (2 : Int32) then (okO sr4 11 p0 ∧ C_Rf_writeCounts sa p0 r1 sr4 cr4 dr4 (fun sr6 cr6 dr6 => ((C_Rf_show_b71 sa p0 sr6 cr6 dr6 Q)))) else (okO sr4 11 p0 ∧ C_Rf_writeTimes sa p0 r1 sr4 cr4 dr4 (fun sr5 cr5 dr5 => ((C_Rf_show_b71 sa p0 sr5 cr5 dr5 Q)))))))))))))))))
set_option maxRecDepth 100000 in
set_option maxHeartbeats 4000000 in
theorem kc_Rf_show (base : Nat) (sa : Nat → Nat) {R : pmM} {s : cS} {kc ks : Nat} {Rt : pmR} {p0 : Nat} {p1 : Int32} {p2 : Int32} {Q : (Int32 → cS → Nat → Nat → Prop)} (hw : cW sa R base s) (h : C_Rf_show sa p0 p1 p2 s kc ks Q) (k : ∀ r s' kc' ks', cW sa R base s' → Q r s' kc' ks' → Rt (some (.int r)) (cM R s') kc' ks') : kP_Rf_show base sa [.ref p0, .int p1, .int p2] (cM R s) kc ks Rt := by
  refine ⟨Nat.le_of_ble_eq_true rfl, fun G hG => ?_⟩
  have b71 : ∀ (s : cS) (kc ks : Nat), KK sa R base G 71 [(0, va_rf (some p0))] [] s kc ks (C_Rf_show_b71 sa p0 s kc ks Q) := by
    intro s kc ks
    refine kk_aln hG (x := (some p0)) rfl rfl ?_
    refine kk_gp hG (c := 11) (k := 1) (a := p0) rfl rfl rfl rfl (fun v1 => ?_)
    refine kk_ob (fun b2 eb2 => ?_)
    subst eb2
    refine kk_gi hG (c := 0) (k := 1) (a := b2) rfl rfl rfl rfl (fun v3 => ?_)
    exact kk_ri hG rfl rfl rfl k
  refine (show KK sa R base G 0 [(0, va_rf (some p0)), (1, .int p1), (2, .int p2)] [] s kc ks (C_Rf_show sa p0 p1 p2 s kc ks Q) from ?_) hw h
  refine kk_aln hG (x := (some p0)) rfl rfl ?_
  refine kks hG rfl rfl ?_
  refine kk_cx (w := va_rf) hG 0 rfl rfl (Nat.le_of_ble_eq_true rfl) (by decide) rfl (st' := []) rfl (cats_le (Nat.le_of_ble_eq_true rfl)) (fun _ hw h k => kk_rcv h.1 (kc_Rf_routerAt base sa hw h.2 k)) (fun r1 sr1 cr1 dr1 => ?_)
  refine kk_asn hG (x := r1) (L' := [(3, va_rf r1), (0, va_rf (some p0)), (1, .int p1), (2, .int p2)]) rfl (Nat.le_of_ble_eq_true rfl) rfl ?_
  refine kk_aln hG (x := r1) rfl rfl ?_
  refine kk_nul hG (x := r1) (t := 19) rfl rfl ?_ ?_
  · refine kk_ic hG rfl cc_im1 ?_
    exact kk_ri hG rfl rfl rfl k
  refine kks hG rfl rfl ?_
  refine kk_zlt hG (t := 19) rfl rfl ?_ ?_
  · refine kk_ic hG rfl cc_im1 ?_
    exact kk_ri hG rfl rfl rfl k
  refine kks hG rfl rfl ?_
  refine kk_ic hG rfl cc_i3 ?_
  refine kk_ile hG (t := 21) rfl rfl ?_ ?_
  · refine kk_aln hG (x := (some p0)) rfl rfl ?_
    refine kk_gp hG (c := 11) (k := 1) (a := p0) rfl rfl rfl rfl (fun v2 => ?_)
    refine kk_ob (fun b3 eb3 => ?_)
    subst eb3
    refine kk_cv hG 0 rfl rfl (Nat.le_of_ble_eq_true rfl) (by decide) rfl (st' := []) rfl (cats_le (Nat.le_of_ble_eq_true rfl)) (fun _ hw h k => kk_rcv h.1 (kc_By_clear base sa hw h.2 k)) (fun sr4 cr4 dr4 => ?_)
    refine kks hG rfl rfl ?_
    refine kk_zne hG (t := 40) rfl rfl ?_ ?_
    · refine kks hG rfl rfl ?_
      refine kk_ic hG rfl cc_i1 ?_
      refine kk_ine hG (t := 53) rfl rfl ?_ ?_
      · refine kks hG rfl rfl ?_
        refine kk_ic hG rfl cc_i2 ?_
        refine kk_ine hG (t := 66) rfl rfl ?_ ?_
        · refine kk_aln hG (x := (some p0)) rfl rfl ?_
          refine kk_aln hG (x := r1) rfl rfl ?_
          refine kk_cv hG 0 rfl rfl (Nat.le_of_ble_eq_true rfl) (by decide) rfl (st' := []) rfl (cats_le (Nat.le_of_ble_eq_true rfl)) (fun _ hw h k => kk_rcv h.1 (kc_Rf_writeTimes base sa hw h.2 k)) (fun sr5 cr5 dr5 => ?_)
          exact kk_wl hG [1] rfl (b71 _ _ _)
        refine kk_aln hG (x := (some p0)) rfl rfl ?_
        refine kk_aln hG (x := r1) rfl rfl ?_
        refine kk_cv hG 0 rfl rfl (Nat.le_of_ble_eq_true rfl) (by decide) rfl (st' := []) rfl (cats_le (Nat.le_of_ble_eq_true rfl)) (fun _ hw h k => kk_rcv h.1 (kc_Rf_writeCounts base sa hw h.2 k)) (fun sr6 cr6 dr6 => ?_)
        refine kk_go hG (t := 71) rfl rfl ?_
        exact kk_wl hG [1] rfl (b71 _ _ _)
      refine kk_aln hG (x := (some p0)) rfl rfl ?_
      refine kk_aln hG (x := r1) rfl rfl ?_
      refine kk_cv hG 0 rfl rfl (Nat.le_of_ble_eq_true rfl) (by decide) rfl (st' := []) rfl (cats_le (Nat.le_of_ble_eq_true rfl)) (fun _ hw h k => kk_rcv h.1 (kc_Rf_writePorts base sa hw h.2 k)) (fun sr7 cr7 dr7 => ?_)
      refine kk_go hG (t := 71) rfl rfl ?_
      exact kk_wl hG [1] rfl (b71 _ _ _)
    refine kk_aln hG (x := (some p0)) rfl rfl ?_
    refine kk_aln hG (x := r1) rfl rfl ?_
    refine kk_cv hG 0 rfl rfl (Nat.le_of_ble_eq_true rfl) (by decide) rfl (st' := []) rfl (cats_le (Nat.le_of_ble_eq_true rfl)) (fun _ hw h k => kk_rcv h.1 (kc_Rf_writeRoutes base sa hw h.2 k)) (fun sr8 cr8 dr8 => ?_)
    refine kk_go hG (t := 71) rfl rfl ?_
    exact kk_wl hG [1] rfl (b71 _ _ _)
  refine kk_ic hG rfl cc_im1 ?_
  exact kk_ri hG rfl rfl rfl k
