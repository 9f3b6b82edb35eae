/-! Methods as weakest preconditions, by program: Pr_parseSix .. Rr_ownSum -/
def C_Pr_parseSix_b212 (sa : Nat → Nat) (p0 : Nat) (p1 : Option Nat) (p3 : Int32) (a4 : Int32) (a5 : Int32) (a6 : Int32) (a7 : Int32) (s : cS) (kc ks : Nat) (Q : (Int32 → cS → Nat → Nat → Prop)) (P59 : (Int32 → Int32 → Int32 → Int32 → cS → Nat → Nat → Prop)) : Prop := (P59 a4 a5 a6 (a7 + (1 : Int32)) s kc ks)
def C_Pr_parseSix_b180 (sa : Nat → Nat) (p0 : Nat) (p1 : Option Nat) (p3 : Int32) (a4 : Int32) (a5 : Int32) (a6 : Int32) (a7 : Int32) (s : cS) (kc ks : Nat) (Q : (Int32 → cS → Nat → Nat → Prop)) (P59 : (Int32 → Int32 → Int32 → Int32 → cS → Nat → Nat → Prop)) : Prop := if a4 < p3 then (ob p1 (fun b1 => (okO s 0 b1 ∧ C_By_at sa b1 a4 s kc ks (fun r2 sr2 cr2 dr2 => (if r2 = (58 : Int32) then (if a6 = ((-1) : Int32) then ((C_Pr_parseSix_b212 sa p0 (some b1) p3 (a4 + (1 : Int32)) a5 a5 a7 sr2 cr2 dr2 Q P59)) else ((Q (0 : Int32) sr2 cr2 dr2))) else ((C_Pr_parseSix_b212 sa p0 (some b1) p3 a4 a5 a6 a7 sr2 cr2 dr2 Q P59))))))) else ((C_Pr_parseSix_b212 sa p0 p1 p3 a4 a5 a6 a7 s kc ks Q P59))
def C_Pr_parseSix_b99 (sa : Nat → Nat) (p0 : Nat) (p1 : Option Nat) (p3 : Int32) (a4 : Int32) (a5 : Int32) (a6 : Int32) (a7 : Int32) (a8 : Int32) (s : cS) (kc ks : Nat) (Q : (Int32 → cS → Nat → Nat → Prop)) (P59 : (Int32 → Int32 → Int32 → Int32 → cS → Nat → Nat → Prop)) : Prop := C_Pr_hexNumber sa p1 a4 a8 s kc ks (fun r1 sr1 cr1 dr1 => (if r1 < 0 then ((Q (0 : Int32) sr1 cr1 dr1)) else (if a5 = (8 : Int32) then ((Q (0 : Int32) sr1 cr1 dr1)) else (ob (gJ sr1 5 1 p0) (fun v2 => (ob (gJ sr1 5 2 p0) (fun v3 => (ob (pJ sr1 5 1 p0 ((v2 <<< ((Int32.toInt64 (16 : Int32)) &&& 63)) ||| (ush_L v3 (48 : Int32)))) (fun s4 => (ob (gJ s4 5 2 p0) (fun v5 => (ob (pJ s4 5 2 p0 ((v5 <<< ((Int32.toInt64 (16 : Int32)) &&& 63)) ||| (Int32.toInt64 r1))) (fun s6 => (if a8 < p3 then (if (a8 + (1 : Int32)) = p3 then ((Q (0 : Int32) s6 cr1 dr1)) else ((C_Pr_parseSix_b180 sa p0 p1 p3 (a8 + (1 : Int32)) (a5 + (1 : Int32)) a6 a7 s6 cr1 dr1 Q P59))) else ((C_Pr_parseSix_b180 sa p0 p1 p3 (a8 + (1 : Int32)) (a5 + (1 : Int32)) a6 a7 s6 cr1 dr1 Q P59))))))))))))))))
def C_Pr_parseSix_s76 (sa : Nat → Nat) (p0 : Nat) (p1 : Option Nat) (p3 : Int32) (a4 : Int32) (a5 : Int32) (a6 : Int32) (a7 : Int32) (a8 : Int32) (s : cS) (kc ks : Nat) (Q : (Int32 → cS → Nat → Nat → Prop)) (P59 : (Int32 → Int32 → Int32 → Int32 → cS → Nat → Nat → Prop)) (P76 : (Int32 → cS → Nat → Nat → Prop)) : Prop := if a8 < p3 then (ob p1 (fun b1 => (okO s 0 b1 ∧ C_By_at sa b1 a8 s kc ks (fun r2 sr2 cr2 dr2 => (if r2 = (58 : Int32) then ((C_Pr_parseSix_b99 sa p0 (some b1) p3 a4 a5 a6 a7 a8 sr2 cr2 dr2 Q P59)) else ((P76 (a8 + (1 : Int32)) sr2 cr2 dr2))))))) else ((C_Pr_parseSix_b99 sa p0 p1 p3 a4 a5 a6 a7 a8 s kc ks Q P59))
def C_Pr_parseSix_b76 (sa : Nat → Nat) (p0 : Nat) (p1 : Option Nat) (p3 : Int32) (a4 : Int32) (a5 : Int32) (a6 : Int32) (a7 : Int32) (a8 : Int32) (s : cS) (kc ks : Nat) (Q : (Int32 → cS → Nat → Nat → Prop)) (P59 : (Int32 → Int32 → Int32 → Int32 → cS → Nat → Nat → Prop)) : Prop := ∀ P76 : (Int32 → cS → Nat → Nat → Prop), (∀ (a8 : Int32) (s : cS) (kc ks : Nat), C_Pr_parseSix_s76 sa p0 p1 p3 a4 a5 a6 a7 a8 s kc ks Q P59 P76 → P76 a8 s kc ks) → P76 a8 s kc ks
def C_Pr_parseSix_b218 (sa : Nat → Nat) (p0 : Nat) (a5 : Int32) (a6 : Int32) (s : cS) (kc ks : Nat) (Q : (Int32 → cS → Nat → Nat → Prop)) : Prop := if a6 = ((-1) : Int32) then (if a5 = (8 : Int32) then (Q (1 : Int32) s kc ks) else (Q (0 : Int32) s kc ks)) else (if a5 < (8 : Int32) then (okO s 5 p0 ∧ C_Pr_openGap sa p0 (a5 - a6) ((8 : Int32) - a5) s kc ks (fun r1 sr1 cr1 dr1 => (if r1 = 0 then (Q (0 : Int32) sr1 cr1 dr1) else (Q (1 : Int32) sr1 cr1 dr1)))) else (Q (0 : Int32) s kc ks))
def C_Pr_parseSix_s59 (sa : Nat → Nat) (p0 : Nat) (p1 : Option Nat) (p3 : Int32) (a4 : Int32) (a5 : Int32) (a6 : Int32) (a7 : Int32) (s : cS) (kc ks : Nat) (Q : (Int32 → cS → Nat → Nat → Prop)) (P59 : (Int32 → Int32 → Int32 → Int32 → cS → Nat → Nat → Prop)) : Prop := if a7 < (9 : Int32) then (if a4 < p3 then ((C_Pr_parseSix_b76 sa p0 p1 p3 a4 a5 a6 a7 a4 s kc ks Q P59)) else ((C_Pr_parseSix_b218 sa p0 a5 a6 s kc ks Q))) else ((C_Pr_parseSix_b218 sa p0 a5 a6 s kc ks Q))
def C_Pr_parseSix_b59 (sa : Nat → Nat) (p0 : Nat) (p1 : Option Nat) (p3 : Int32) (a4 : Int32) (a5 : Int32) (a6 : Int32) (a7 : Int32) (s : cS) (kc ks : Nat) (Q : (Int32 → cS → Nat → Nat → Prop)) : Prop := ∀ P59 : (Int32 → Int32 → Int32 → Int32 → cS → Nat → Nat → Prop), (∀ (a4 : Int32) (a5 : Int32) (a6 : Int32) (a7 : Int32) (s : cS) (kc ks : Nat), C_Pr_parseSix_s59 sa p0 p1 p3 a4 a5 a6 a7 s kc ks Q P59 → P59 a4 a5 a6 a7 s kc ks) → P59 a4 a5 a6 a7 s kc ks
def C_Pr_parseSix_b56 (sa : Nat → Nat) (p0 : Nat) (p1 : Option Nat) (p3 : Int32) (a4 : Int32) (a5 : Int32) (a6 : Int32) (s : cS) (kc ks : Nat) (Q : (Int32 → cS → Nat → Nat → Prop)) : Prop := (C_Pr_parseSix_b59 sa p0 p1 p3 a4 a5 a6 (0 : Int32) s kc ks Q)
def C_Pr_parseSix (sa : Nat → Nat) (p0 : Nat) (p1 : Option Nat) (p2 : Int32) (p3 : Int32) (s : cS) (kc ks : Nat) (Q : (Int32 → cS → Nat → Nat → Prop)) : Prop := okO s 5 p0 ∧ C_Pr_setZero sa p0 (6 : Int32) (128 : Int32) s kc ks (fun sr1 cr1 dr1 => (ob p1 (fun b2 => (okO sr1 0 b2 ∧ C_By_at sa b2 p2 sr1 cr1 dr1 (fun r3 sr3 cr3 dr3 => (if r3 = (58 : Int32) then (if (p2 + (1 : Int32)) < p3 then (okO sr3 0 b2 ∧ C_By_at sa b2 (p2 + (1 : Int32)) sr3 cr3 dr3 (fun r4 sr4 cr4 dr4 => (if r4 = (58 : Int32) then ((C_Pr_parseSix_b56 sa p0 (some b2) p3 (p2 + (2 : Int32)) (0 : Int32) (0 : Int32) sr4 cr4 dr4 Q)) else ((C_Pr_parseSix_b56 sa p0 (some b2) p3 p2 (0 : Int32) ((-1) : Int32) sr4 cr4 dr4 Q))))) else ((C_Pr_parseSix_b56 sa p0 (some b2) p3 p2 (0 : Int32) ((-1) : Int32) sr3 cr3 dr3 Q))) else ((C_Pr_parseSix_b56 sa p0 (some b2) p3 p2 (0 : Int32) ((-1) : Int32) sr3 cr3 dr3 Q))))))))
set_option maxRecDepth 100000 in
set_option maxHeartbeats 4000000 in
theorem kc_Pr_parseSix (base : Nat) (sa : Nat → Nat) {R : pmM} {s : cS} {kc ks : Nat} {Rt : pmR} {p0 : Nat} {p1 : Option Nat} {p2 : Int32} {p3 : Int32} {Q : (Int32 → cS → Nat → Nat → Prop)} (hw : cW sa R base s) (h : C_Pr_parseSix sa p0 p1 p2 p3 s kc ks Q) (k : ∀ r s' kc' ks', cW sa R base s' → Q r s' kc' ks' → Rt (some (.int r)) (cM R s') kc' ks') : kP_Pr_parseSix base sa [.ref p0, va_rf p1, .int p2, .int p3] (cM R s) kc ks Rt := by
  refine ⟨by cases p1 <;> exact Nat.le_of_ble_eq_true rfl, fun G hG => ?_⟩
  have eL : lv_args 0 [.ref p0, va_rf p1, .int p2, .int p3] = [(0, va_rf (some p0)), (1, va_rf p1), (2, .int p2), (3, .int p3)] := by cases p1 <;> rfl
  rw [eL]
  have b218 : ∀ (a5 : Int32) (a6 : Int32) (s : cS) (kc ks : Nat), KK sa R base G 218 [(0, va_rf (some p0)), (5, .int a5), (6, .int a6)] [] s kc ks (C_Pr_parseSix_b218 sa p0 a5 a6 s kc ks Q) := by
    intro a5 a6 s kc ks
    refine kks hG rfl rfl ?_
    refine kk_ic hG rfl cc_im1 ?_
    refine kk_ine hG (t := 239) rfl rfl ?_ ?_
    · refine kks hG rfl rfl ?_
      refine kk_bi hG rfl cc_b8 ?_
      refine kk_ige hG (t := 267) rfl rfl ?_ ?_
      · refine kk_ic hG rfl cc_i0 ?_
        exact kk_ri hG rfl rfl rfl k
      refine kk_aln hG (x := (some p0)) rfl rfl ?_
      refine kks hG rfl rfl ?_
      refine kks hG rfl rfl ?_
      refine kks hG rfl rfl ?_
      refine kk_bi hG rfl cc_b8 ?_
      refine kks hG rfl rfl ?_
      refine kks hG rfl rfl ?_
      refine kk_cx (w := .int) hG 0 rfl rfl (Nat.le_of_ble_eq_true rfl) (by decide) rfl (st' := []) rfl (cats_le (Nat.le_of_ble_eq_true rfl)) (fun _ hw h k => kk_rcv h.1 (kc_Pr_openGap base sa hw h.2 k)) (fun r1 sr1 cr1 dr1 => ?_)
      refine kk_zeq hG (t := 267) rfl rfl ?_ ?_
      · refine kk_ic hG rfl cc_i0 ?_
        exact kk_ri hG rfl rfl rfl k
      refine kk_ic hG rfl cc_i1 ?_
      refine kk_go hG (t := 268) rfl rfl ?_
      exact kk_ri hG rfl rfl rfl k
    refine kks hG rfl rfl ?_
    refine kk_bi hG rfl cc_b8 ?_
    refine kk_ine hG (t := 235) rfl rfl ?_ ?_
    · refine kk_ic hG rfl cc_i0 ?_
      refine kk_go hG (t := 268) rfl rfl ?_
      exact kk_ri hG rfl rfl rfl k
    refine kk_ic hG rfl cc_i1 ?_
    refine kk_go hG (t := 268) rfl rfl ?_
    exact kk_ri hG rfl rfl rfl k
  have b59 : ∀ (a4 : Int32) (a5 : Int32) (a6 : Int32) (a7 : Int32) (s : cS) (kc ks : Nat), KK sa R base G 59 [(0, va_rf (some p0)), (1, va_rf p1), (3, .int p3), (4, .int a4), (5, .int a5), (6, .int a6), (7, .int a7)] [] s kc ks (C_Pr_parseSix_b59 sa p0 p1 p3 a4 a5 a6 a7 s kc ks Q) := by
    have H : ∀ (P59 : (Int32 → Int32 → Int32 → Int32 → cS → Nat → Nat → Prop)) (hP59 : ∀ (a4 : Int32) (a5 : Int32) (a6 : Int32) (a7 : Int32) (s : cS) (kc ks : Nat), P59 a4 a5 a6 a7 s kc ks → cW sa R base s → G 59 [(0, va_rf (some p0)), (1, va_rf p1), (3, .int p3), (4, .int a4), (5, .int a5), (6, .int a6), (7, .int a7)] [] (cM R s) kc ks) (a4 : Int32) (a5 : Int32) (a6 : Int32) (a7 : Int32) (s : cS) (kc ks : Nat), KK sa R base G 59 [(0, va_rf (some p0)), (1, va_rf p1), (3, .int p3), (4, .int a4), (5, .int a5), (6, .int a6), (7, .int a7)] [] s kc ks (C_Pr_parseSix_s59 sa p0 p1 p3 a4 a5 a6 a7 s kc ks Q P59) := by
      intro P59 hP59
      have b212 : ∀ (a4 : Int32) (a5 : Int32) (a6 : Int32) (a7 : Int32) (s : cS) (kc ks : Nat), KK sa R base G 212 [(0, va_rf (some p0)), (1, va_rf p1), (3, .int p3), (4, .int a4), (5, .int a5), (6, .int a6), (7, .int a7)] [] s kc ks (C_Pr_parseSix_b212 sa p0 p1 p3 a4 a5 a6 a7 s kc ks Q P59) := by
        intro a4 a5 a6 a7 s kc ks
        refine kk_inc hG (L' := [(7, .int (a7 + (1 : Int32))), (0, va_rf (some p0)), (1, va_rf p1), (3, .int p3), (4, .int a4), (5, .int a5), (6, .int a6)]) rfl (Nat.le_of_ble_eq_true rfl) rfl cc_i1 rfl ?_
        refine kk_go hG (t := 59) rfl rfl ?_
        exact kk_wl hG [1, 2, 3, 4, 5, 6, 0] rfl (fun hw h => hP59 _ _ _ _ _ _ _ h hw)
      have b180 : ∀ (a4 : Int32) (a5 : Int32) (a6 : Int32) (a7 : Int32) (s : cS) (kc ks : Nat), KK sa R base G 180 [(0, va_rf (some p0)), (1, va_rf p1), (3, .int p3), (4, .int a4), (5, .int a5), (6, .int a6), (7, .int a7)] [] s kc ks (C_Pr_parseSix_b180 sa p0 p1 p3 a4 a5 a6 a7 s kc ks Q P59) := by
        intro a4 a5 a6 a7 s kc ks
        refine kks hG rfl rfl ?_
        refine kks hG rfl rfl ?_
        refine kk_ige hG (t := 212) rfl rfl ?_ ?_
        · exact kk_wl hG [0, 1, 2, 3, 4, 5, 6] rfl (b212 _ _ _ _ _ _ _)
        refine kk_aln hG (x := p1) rfl rfl ?_
        refine kks hG rfl rfl ?_
        refine kk_ob (fun b1 eb1 => ?_)
        subst eb1
        refine kk_cx (w := .int) hG 0 rfl rfl (Nat.le_of_ble_eq_true rfl) (by decide) rfl (st' := []) rfl (cats_le (Nat.le_of_ble_eq_true rfl)) (fun _ hw h k => kk_rcv h.1 (kc_By_at base sa hw h.2 k)) (fun r2 sr2 cr2 dr2 => ?_)
        refine kk_bi hG rfl cc_b58 ?_
        refine kk_ine hG (t := 212) rfl rfl ?_ ?_
        · exact kk_wl hG [0, 1, 2, 3, 4, 5, 6] rfl (b212 _ _ _ _ _ _ _)
        refine kks hG rfl rfl ?_
        refine kk_ic hG rfl cc_im1 ?_
        refine kk_ieq hG (t := 205) rfl rfl ?_ ?_
        · refine kks hG rfl rfl ?_
          refine kk_st hG (L' := [(6, .int a5), (0, va_rf (some p0)), (1, va_rf (some b1)), (3, .int p3), (4, .int a4), (5, .int a5), (7, .int a7)]) rfl rfl (Nat.le_of_ble_eq_true rfl) rfl ?_
          refine kk_inc hG (L' := [(4, .int (a4 + (1 : Int32))), (6, .int a5), (0, va_rf (some p0)), (1, va_rf (some b1)), (3, .int p3), (5, .int a5), (7, .int a7)]) rfl (Nat.le_of_ble_eq_true rfl) rfl cc_i1 rfl ?_
          exact kk_wl hG [2, 3, 4, 0, 5, 1, 6] rfl (b212 _ _ _ _ _ _ _)
        refine kk_ic hG rfl cc_i0 ?_
        exact kk_ri hG rfl rfl rfl k
      have b99 : ∀ (a4 : Int32) (a5 : Int32) (a6 : Int32) (a7 : Int32) (a8 : Int32) (s : cS) (kc ks : Nat), KK sa R base G 99 [(0, va_rf (some p0)), (1, va_rf p1), (3, .int p3), (4, .int a4), (5, .int a5), (6, .int a6), (7, .int a7), (8, .int a8)] [] s kc ks (C_Pr_parseSix_b99 sa p0 p1 p3 a4 a5 a6 a7 a8 s kc ks Q P59) := by
        intro a4 a5 a6 a7 a8 s kc ks
        refine kk_aln hG (x := p1) rfl rfl ?_
        refine kks hG rfl rfl ?_
        refine kks hG rfl rfl ?_
        refine kk_cx (w := .int) hG 2 rfl rfl (Nat.le_of_ble_eq_true rfl) (by decide) rfl (st' := []) rfl (cats_le (Nat.le_of_ble_eq_true rfl)) (fun _ hw h k => kc_Pr_hexNumber base sa hw h k) (fun r1 sr1 cr1 dr1 => ?_)
        refine kk_st hG (L' := [(9, .int r1), (0, va_rf (some p0)), (1, va_rf p1), (3, .int p3), (4, .int a4), (5, .int a5), (6, .int a6), (7, .int a7), (8, .int a8)]) rfl rfl (Nat.le_of_ble_eq_true rfl) rfl ?_
        refine kks hG rfl rfl ?_
        refine kk_zlt hG (t := 121) rfl rfl ?_ ?_
        · refine kk_ic hG rfl cc_i0 ?_
          exact kk_ri hG rfl rfl rfl k
        refine kks hG rfl rfl ?_
        refine kk_bi hG rfl cc_b8 ?_
        refine kk_ine hG (t := 123) rfl rfl ?_ ?_
        · refine kk_aln hG (x := (some p0)) rfl rfl ?_
          refine kk_aln hG (x := (some p0)) rfl rfl ?_
          refine kk_gj hG (c := 5) (k := 1) (a := p0) rfl rfl rfl rfl (fun v2 => ?_)
          refine kk_bi hG rfl cc_b16 ?_
          refine kks hG rfl rfl ?_
          refine kk_aln hG (x := (some p0)) rfl rfl ?_
          refine kk_gj hG (c := 5) (k := 2) (a := p0) rfl rfl rfl rfl (fun v3 => ?_)
          refine kk_bi hG rfl cc_b48 ?_
          refine kks hG rfl rfl ?_
          refine kks hG rfl rfl ?_
          refine kk_pj hG (c := 5) (k := 1) (a := p0) rfl rfl rfl rfl (fun s4 => ?_)
          refine kk_aln hG (x := (some p0)) rfl rfl ?_
          refine kk_aln hG (x := (some p0)) rfl rfl ?_
          refine kk_gj hG (c := 5) (k := 2) (a := p0) rfl rfl rfl rfl (fun v5 => ?_)
          refine kk_bi hG rfl cc_b16 ?_
          refine kks hG rfl rfl ?_
          refine kks hG rfl rfl ?_
          refine kks hG rfl rfl ?_
          refine kks hG rfl rfl ?_
          refine kk_pj hG (c := 5) (k := 2) (a := p0) rfl rfl rfl rfl (fun s6 => ?_)
          refine kk_inc hG (L' := [(5, .int (a5 + (1 : Int32))), (9, .int r1), (0, va_rf (some p0)), (1, va_rf p1), (3, .int p3), (4, .int a4), (6, .int a6), (7, .int a7), (8, .int a8)]) rfl (Nat.le_of_ble_eq_true rfl) rfl cc_i1 rfl ?_
          refine kks hG rfl rfl ?_
          refine kk_ic hG rfl cc_i1 ?_
          refine kks hG rfl rfl ?_
          refine kk_st hG (L' := [(4, .int (a8 + (1 : Int32))), (5, .int (a5 + (1 : Int32))), (9, .int r1), (0, va_rf (some p0)), (1, va_rf p1), (3, .int p3), (6, .int a6), (7, .int a7), (8, .int a8)]) rfl rfl (Nat.le_of_ble_eq_true rfl) rfl ?_
          refine kks hG rfl rfl ?_
          refine kks hG rfl rfl ?_
          refine kk_ige hG (t := 180) rfl rfl ?_ ?_
          · exact kk_wl hG [3, 4, 5, 0, 1, 6, 7] rfl (b180 _ _ _ _ _ _ _)
          refine kks hG rfl rfl ?_
          refine kks hG rfl rfl ?_
          refine kk_ine hG (t := 180) rfl rfl ?_ ?_
          · exact kk_wl hG [3, 4, 5, 0, 1, 6, 7] rfl (b180 _ _ _ _ _ _ _)
          refine kk_ic hG rfl cc_i0 ?_
          exact kk_ri hG rfl rfl rfl k
        refine kk_ic hG rfl cc_i0 ?_
        exact kk_ri hG rfl rfl rfl k
      have b76 : ∀ (a4 : Int32) (a5 : Int32) (a6 : Int32) (a7 : Int32) (a8 : Int32) (s : cS) (kc ks : Nat), KK sa R base G 76 [(0, va_rf (some p0)), (1, va_rf p1), (3, .int p3), (4, .int a4), (5, .int a5), (6, .int a6), (7, .int a7), (8, .int a8)] [] s kc ks (C_Pr_parseSix_b76 sa p0 p1 p3 a4 a5 a6 a7 a8 s kc ks Q P59) := by
        intro a4 a5 a6 a7
        have H : ∀ (P76 : (Int32 → cS → Nat → Nat → Prop)) (hP76 : ∀ (a8 : Int32) (s : cS) (kc ks : Nat), P76 a8 s kc ks → cW sa R base s → G 76 [(0, va_rf (some p0)), (1, va_rf p1), (3, .int p3), (4, .int a4), (5, .int a5), (6, .int a6), (7, .int a7), (8, .int a8)] [] (cM R s) kc ks) (a8 : Int32) (s : cS) (kc ks : Nat), KK sa R base G 76 [(0, va_rf (some p0)), (1, va_rf p1), (3, .int p3), (4, .int a4), (5, .int a5), (6, .int a6), (7, .int a7), (8, .int a8)] [] s kc ks (C_Pr_parseSix_s76 sa p0 p1 p3 a4 a5 a6 a7 a8 s kc ks Q P59 P76) := by
          intro P76 hP76
          intro a8 s kc ks
          refine kks hG rfl rfl ?_
          refine kks hG rfl rfl ?_
          refine kk_ige hG (t := 99) rfl rfl ?_ ?_
          · exact kk_wl hG [0, 1, 2, 3, 4, 5, 6, 7] rfl (b99 _ _ _ _ _ _ _ _)
          refine kk_aln hG (x := p1) rfl rfl ?_
          refine kks hG rfl rfl ?_
          refine kk_ob (fun b1 eb1 => ?_)
          subst eb1
          refine kk_cx (w := .int) hG 0 rfl rfl (Nat.le_of_ble_eq_true rfl) (by decide) rfl (st' := []) rfl (cats_le (Nat.le_of_ble_eq_true rfl)) (fun _ hw h k => kk_rcv h.1 (kc_By_at base sa hw h.2 k)) (fun r2 sr2 cr2 dr2 => ?_)
          refine kk_bi hG rfl cc_b58 ?_
          refine kk_ieq hG (t := 99) rfl rfl ?_ ?_
          · exact kk_wl hG [0, 1, 2, 3, 4, 5, 6, 7] rfl (b99 _ _ _ _ _ _ _ _)
          refine kk_inc hG (L' := [(8, .int (a8 + (1 : Int32))), (0, va_rf (some p0)), (1, va_rf (some b1)), (3, .int p3), (4, .int a4), (5, .int a5), (6, .int a6), (7, .int a7)]) rfl (Nat.le_of_ble_eq_true rfl) rfl cc_i1 rfl ?_
          refine kk_go hG (t := 76) rfl rfl ?_
          exact kk_wl hG [1, 2, 3, 4, 5, 6, 7, 0] rfl (fun hw h => hP76 _ _ _ _ h hw)
        exact fun a8 s kc ks hw h => h (fun a8 s kc ks => cW sa R base s → G 76 [(0, va_rf (some p0)), (1, va_rf p1), (3, .int p3), (4, .int a4), (5, .int a5), (6, .int a6), (7, .int a7), (8, .int a8)] [] (cM R s) kc ks) (fun a8 s kc ks hs hw => H _ (fun _ _ _ _ hp hw => hp hw) a8 s kc ks hw hs) hw
      intro a4 a5 a6 a7 s kc ks
      refine kks hG rfl rfl ?_
      refine kk_bi hG rfl cc_b9 ?_
      refine kk_ige hG (t := 218) rfl rfl ?_ ?_
      · exact kk_wl hG [0, 4, 5] rfl (b218 _ _ _ _ _)
      refine kks hG rfl rfl ?_
      refine kks hG rfl rfl ?_
      refine kk_ige hG (t := 218) rfl rfl ?_ ?_
      · exact kk_wl hG [0, 4, 5] rfl (b218 _ _ _ _ _)
      refine kks hG rfl rfl ?_
      refine kk_st hG (L' := [(8, .int a4), (0, va_rf (some p0)), (1, va_rf p1), (3, .int p3), (4, .int a4), (5, .int a5), (6, .int a6), (7, .int a7)]) rfl rfl (Nat.le_of_ble_eq_true rfl) rfl ?_
      exact kk_wl hG [1, 2, 3, 4, 5, 6, 7, 0] rfl (b76 _ _ _ _ _ _ _ _)
    exact fun a4 a5 a6 a7 s kc ks hw h => h (fun a4 a5 a6 a7 s kc ks => cW sa R base s → G 59 [(0, va_rf (some p0)), (1, va_rf p1), (3, .int p3), (4, .int a4), (5, .int a5), (6, .int a6), (7, .int a7)] [] (cM R s) kc ks) (fun a4 a5 a6 a7 s kc ks hs hw => H _ (fun _ _ _ _ _ _ _ hp hw => hp hw) a4 a5 a6 a7 s kc ks hw hs) hw
  have b56 : ∀ (a4 : Int32) (a5 : Int32) (a6 : Int32) (s : cS) (kc ks : Nat), KK sa R base G 56 [(0, va_rf (some p0)), (1, va_rf p1), (3, .int p3), (4, .int a4), (5, .int a5), (6, .int a6)] [] s kc ks (C_Pr_parseSix_b56 sa p0 p1 p3 a4 a5 a6 s kc ks Q) := by
    intro a4 a5 a6 s kc ks
    refine kk_ic hG rfl cc_i0 ?_
    refine kk_st hG (L' := [(7, .int (0 : Int32)), (0, va_rf (some p0)), (1, va_rf p1), (3, .int p3), (4, .int a4), (5, .int a5), (6, .int a6)]) rfl rfl (Nat.le_of_ble_eq_true rfl) rfl ?_
    exact kk_wl hG [1, 2, 3, 4, 5, 6, 0] rfl (b59 _ _ _ _ _ _ _)
  refine (show KK sa R base G 0 [(0, va_rf (some p0)), (1, va_rf p1), (2, .int p2), (3, .int p3)] [] s kc ks (C_Pr_parseSix sa p0 p1 p2 p3 s kc ks Q) from ?_) hw h
  refine kks hG rfl rfl ?_
  refine kk_st hG (L' := [(4, .int p2), (0, va_rf (some p0)), (1, va_rf p1), (2, .int p2), (3, .int p3)]) rfl rfl (Nat.le_of_ble_eq_true rfl) rfl ?_
  refine kk_ic hG rfl cc_i0 ?_
  refine kk_st hG (L' := [(5, .int (0 : Int32)), (4, .int p2), (0, va_rf (some p0)), (1, va_rf p1), (2, .int p2), (3, .int p3)]) rfl rfl (Nat.le_of_ble_eq_true rfl) rfl ?_
  refine kk_ic hG rfl cc_im1 ?_
  refine kk_st hG (L' := [(6, .int ((-1) : Int32)), (5, .int (0 : Int32)), (4, .int p2), (0, va_rf (some p0)), (1, va_rf p1), (2, .int p2), (3, .int p3)]) rfl rfl (Nat.le_of_ble_eq_true rfl) rfl ?_
  refine kk_aln hG (x := (some p0)) rfl rfl ?_
  refine kk_bi hG rfl cc_b6 ?_
  refine kk_si hG rfl cc_s128 ?_
  refine kk_cv hG 0 rfl rfl (Nat.le_of_ble_eq_true rfl) (by decide) rfl (st' := []) rfl (cats_le (Nat.le_of_ble_eq_true rfl)) (fun _ hw h k => kk_rcv h.1 (kc_Pr_setZero base sa hw h.2 k)) (fun sr1 cr1 dr1 => ?_)
  refine kk_aln hG (x := p1) rfl rfl ?_
  refine kks hG rfl rfl ?_
  refine kk_ob (fun b2 eb2 => ?_)
  subst eb2
  refine kk_cx (w := .int) hG 0 rfl rfl (Nat.le_of_ble_eq_true rfl) (by decide) rfl (st' := []) rfl (cats_le (Nat.le_of_ble_eq_true rfl)) (fun _ hw h k => kk_rcv h.1 (kc_By_at base sa hw h.2 k)) (fun r3 sr3 cr3 dr3 => ?_)
  refine kk_bi hG rfl cc_b58 ?_
  refine kk_ine hG (t := 56) rfl rfl ?_ ?_
  · exact kk_wl hG [3, 4, 6, 2, 1, 0] rfl (b56 _ _ _ _ _ _)
  refine kks hG rfl rfl ?_
  refine kk_ic hG rfl cc_i1 ?_
  refine kks hG rfl rfl ?_
  refine kks hG rfl rfl ?_
  refine kk_ige hG (t := 56) rfl rfl ?_ ?_
  · exact kk_wl hG [3, 4, 6, 2, 1, 0] rfl (b56 _ _ _ _ _ _)
  refine kk_aln hG (x := (some b2)) rfl rfl ?_
  refine kks hG rfl rfl ?_
  refine kk_ic hG rfl cc_i1 ?_
  refine kks hG rfl rfl ?_
  refine kk_cx (w := .int) hG 0 rfl rfl (Nat.le_of_ble_eq_true rfl) (by decide) rfl (st' := []) rfl (cats_le (Nat.le_of_ble_eq_true rfl)) (fun _ hw h k => kk_rcv h.1 (kc_By_at base sa hw h.2 k)) (fun r4 sr4 cr4 dr4 => ?_)
  refine kk_bi hG rfl cc_b58 ?_
  refine kk_ine hG (t := 56) rfl rfl ?_ ?_
  · exact kk_wl hG [3, 4, 6, 2, 1, 0] rfl (b56 _ _ _ _ _ _)
  refine kk_ic hG rfl cc_i0 ?_
  refine kk_st hG (L' := [(6, .int (0 : Int32)), (5, .int (0 : Int32)), (4, .int p2), (0, va_rf (some p0)), (1, va_rf (some b2)), (2, .int p2), (3, .int p3)]) rfl rfl (Nat.le_of_ble_eq_true rfl) rfl ?_
  refine kk_inc hG (L' := [(4, .int (p2 + (2 : Int32))), (6, .int (0 : Int32)), (5, .int (0 : Int32)), (0, va_rf (some p0)), (1, va_rf (some b2)), (2, .int p2), (3, .int p3)]) rfl (Nat.le_of_ble_eq_true rfl) rfl cc_i2 rfl ?_
  exact kk_wl hG [3, 4, 6, 0, 2, 1] rfl (b56 _ _ _ _ _ _)
def C_Pr_plainNumber_s37 (sa : Nat → Nat) (p0 : Option Nat) (p2 : Int32) (a4 : Int32) (a5 : Int32) (s : cS) (kc ks : Nat) (Q : (Int32 → cS → Nat → Nat → Prop)) (P37 : (Int32 → Int32 → cS → Nat → Nat → Prop)) : Prop := if a5 < p2 then (ob p0 (fun b1 => (okO s 0 b1 ∧ C_By_at sa b1 a5 s kc ks (fun r2 sr2 cr2 dr2 => (if (r2 - (48 : Int32)) < 0 then ((Q ((-1) : Int32) sr2 cr2 dr2)) else (if (9 : Int32) < (r2 - (48 : Int32)) then ((Q ((-1) : Int32) sr2 cr2 dr2)) else ((P37 ((a4 * (10 : Int32)) + (r2 - (48 : Int32))) (a5 + (1 : Int32)) sr2 cr2 dr2)))))))) else ((Q a4 s kc ks))
def C_Pr_plainNumber_b37 (sa : Nat → Nat) (p0 : Option Nat) (p2 : Int32) (a4 : Int32) (a5 : Int32) (s : cS) (kc ks : Nat) (Q : (Int32 → cS → Nat → Nat → Prop)) : Prop := ∀ P37 : (Int32 → Int32 → cS → Nat → Nat → Prop), (∀ (a4 : Int32) (a5 : Int32) (s : cS) (kc ks : Nat), C_Pr_plainNumber_s37 sa p0 p2 a4 a5 s kc ks Q P37 → P37 a4 a5 s kc ks) → P37 a4 a5 s kc ks
def C_Pr_plainNumber_b31 (sa : Nat → Nat) (p0 : Option Nat) (p1 : Int32) (p2 : Int32) (s : cS) (kc ks : Nat) (Q : (Int32 → cS → Nat → Nat → Prop)) : Prop := (C_Pr_plainNumber_b37 sa p0 p2 (0 : Int32) p1 s kc ks Q)
def C_Pr_plainNumber (sa : Nat → Nat) (p0 : Option Nat) (p1 : Int32) (p2 : Int32) (s : cS) (kc ks : Nat) (Q : (Int32 → cS → Nat → Nat → Prop)) : Prop := if (p2 - p1) < (1 : Int32) then (Q ((-1) : Int32) s kc ks) else (if (3 : Int32) < (p2 - p1) then (Q ((-1) : Int32) s kc ks) else (if (1 : Int32) < (p2 - p1) then (ob p0 (fun b1 => (okO s 0 b1 ∧ C_By_at sa b1 p1 s kc ks (fun r2 sr2 cr2 dr2 => (if r2 = (48 : Int32) then (Q ((-1) : Int32) sr2 cr2 dr2) else ((C_Pr_plainNumber_b31 sa (some b1) p1 p2 sr2 cr2 dr2 Q))))))) else ((C_Pr_plainNumber_b31 sa p0 p1 p2 s kc ks Q))))
set_option maxRecDepth 100000 in
set_option maxHeartbeats 4000000 in
theorem kc_Pr_plainNumber (base : Nat) (sa : Nat → Nat) {R : pmM} {s : cS} {kc ks : Nat} {Rt : pmR} {p0 : Option Nat} {p1 : Int32} {p2 : Int32} {Q : (Int32 → cS → Nat → Nat → Prop)} (hw : cW sa R base s) (h : C_Pr_plainNumber sa p0 p1 p2 s kc ks Q) (k : ∀ r s' kc' ks', cW sa R base s' → Q r s' kc' ks' → Rt (some (.int r)) (cM R s') kc' ks') : kP_Pr_plainNumber base sa [va_rf p0, .int p1, .int p2] (cM R s) kc ks Rt := by
  refine ⟨by cases p0 <;> exact Nat.le_of_ble_eq_true rfl, fun G hG => ?_⟩
  have eL : lv_args 0 [va_rf p0, .int p1, .int p2] = [(0, va_rf p0), (1, .int p1), (2, .int p2)] := by cases p0 <;> rfl
  rw [eL]
  have b37 : ∀ (a4 : Int32) (a5 : Int32) (s : cS) (kc ks : Nat), KK sa R base G 37 [(0, va_rf p0), (2, .int p2), (4, .int a4), (5, .int a5)] [] s kc ks (C_Pr_plainNumber_b37 sa p0 p2 a4 a5 s kc ks Q) := by
    have H : ∀ (P37 : (Int32 → Int32 → cS → Nat → Nat → Prop)) (hP37 : ∀ (a4 : Int32) (a5 : Int32) (s : cS) (kc ks : Nat), P37 a4 a5 s kc ks → cW sa R base s → G 37 [(0, va_rf p0), (2, .int p2), (4, .int a4), (5, .int a5)] [] (cM R s) kc ks) (a4 : Int32) (a5 : Int32) (s : cS) (kc ks : Nat), KK sa R base G 37 [(0, va_rf p0), (2, .int p2), (4, .int a4), (5, .int a5)] [] s kc ks (C_Pr_plainNumber_s37 sa p0 p2 a4 a5 s kc ks Q P37) := by
      intro P37 hP37
      intro a4 a5 s kc ks
      refine kks hG rfl rfl ?_
      refine kks hG rfl rfl ?_
      refine kk_ige hG (t := 84) rfl rfl ?_ ?_
      · refine kks hG rfl rfl ?_
        exact kk_ri hG rfl rfl rfl k
      refine kk_aln hG (x := p0) rfl rfl ?_
      refine kks hG rfl rfl ?_
      refine kk_ob (fun b1 eb1 => ?_)
      subst eb1
      refine kk_cx (w := .int) hG 0 rfl rfl (Nat.le_of_ble_eq_true rfl) (by decide) rfl (st' := []) rfl (cats_le (Nat.le_of_ble_eq_true rfl)) (fun _ hw h k => kk_rcv h.1 (kc_By_at base sa hw h.2 k)) (fun r2 sr2 cr2 dr2 => ?_)
      refine kk_bi hG rfl cc_b48 ?_
      refine kks hG rfl rfl ?_
      refine kk_st hG (L' := [(6, .int (r2 - (48 : Int32))), (0, va_rf (some b1)), (2, .int p2), (4, .int a4), (5, .int a5)]) rfl rfl (Nat.le_of_ble_eq_true rfl) rfl ?_
      refine kks hG rfl rfl ?_
      refine kk_zlt hG (t := 66) rfl rfl ?_ ?_
      · refine kk_ic hG rfl cc_im1 ?_
        exact kk_ri hG rfl rfl rfl k
      refine kks hG rfl rfl ?_
      refine kk_bi hG rfl cc_b9 ?_
      refine kk_ile hG (t := 68) rfl rfl ?_ ?_
      · refine kks hG rfl rfl ?_
        refine kk_bi hG rfl cc_b10 ?_
        refine kks hG rfl rfl ?_
        refine kks hG rfl rfl ?_
        refine kks hG rfl rfl ?_
        refine kk_st hG (L' := [(4, .int ((a4 * (10 : Int32)) + (r2 - (48 : Int32)))), (6, .int (r2 - (48 : Int32))), (0, va_rf (some b1)), (2, .int p2), (5, .int a5)]) rfl rfl (Nat.le_of_ble_eq_true rfl) rfl ?_
        refine kk_inc hG (L' := [(5, .int (a5 + (1 : Int32))), (4, .int ((a4 * (10 : Int32)) + (r2 - (48 : Int32)))), (6, .int (r2 - (48 : Int32))), (0, va_rf (some b1)), (2, .int p2)]) rfl (Nat.le_of_ble_eq_true rfl) rfl cc_i1 rfl ?_
        refine kk_go hG (t := 37) rfl rfl ?_
        exact kk_wl hG [3, 4, 1, 0] rfl (fun hw h => hP37 _ _ _ _ _ h hw)
      refine kk_ic hG rfl cc_im1 ?_
      exact kk_ri hG rfl rfl rfl k
    exact fun a4 a5 s kc ks hw h => h (fun a4 a5 s kc ks => cW sa R base s → G 37 [(0, va_rf p0), (2, .int p2), (4, .int a4), (5, .int a5)] [] (cM R s) kc ks) (fun a4 a5 s kc ks hs hw => H _ (fun _ _ _ _ _ hp hw => hp hw) a4 a5 s kc ks hw hs) hw
  have b31 : ∀ (s : cS) (kc ks : Nat), KK sa R base G 31 [(0, va_rf p0), (1, .int p1), (2, .int p2)] [] s kc ks (C_Pr_plainNumber_b31 sa p0 p1 p2 s kc ks Q) := by
    intro s kc ks
    refine kk_ic hG rfl cc_i0 ?_
    refine kk_st hG (L' := [(4, .int (0 : Int32)), (0, va_rf p0), (1, .int p1), (2, .int p2)]) rfl rfl (Nat.le_of_ble_eq_true rfl) rfl ?_
    refine kks hG rfl rfl ?_
    refine kk_st hG (L' := [(5, .int p1), (4, .int (0 : Int32)), (0, va_rf p0), (1, .int p1), (2, .int p2)]) rfl rfl (Nat.le_of_ble_eq_true rfl) rfl ?_
    exact kk_wl hG [2, 4, 1, 0] rfl (b37 _ _ _ _ _)
  refine (show KK sa R base G 0 [(0, va_rf p0), (1, .int p1), (2, .int p2)] [] s kc ks (C_Pr_plainNumber sa p0 p1 p2 s kc ks Q) from ?_) hw h
  refine kks hG rfl rfl ?_
  refine kks hG rfl rfl ?_
  refine kks hG rfl rfl ?_
  refine kk_st hG (L' := [(3, .int (p2 - p1)), (0, va_rf p0), (1, .int p1), (2, .int p2)]) rfl rfl (Nat.le_of_ble_eq_true rfl) rfl ?_
  refine kks hG rfl rfl ?_
  refine kk_ic hG rfl cc_i1 ?_
  refine kk_ilt hG (t := 29) rfl rfl ?_ ?_
  · refine kk_ic hG rfl cc_im1 ?_
    exact kk_ri hG rfl rfl rfl k
  refine kks hG rfl rfl ?_
  refine kk_ic hG rfl cc_i3 ?_
  refine kk_igt hG (t := 29) rfl rfl ?_ ?_
  · refine kk_ic hG rfl cc_im1 ?_
    exact kk_ri hG rfl rfl rfl k
  refine kks hG rfl rfl ?_
  refine kk_ic hG rfl cc_i1 ?_
  refine kk_ile hG (t := 31) rfl rfl ?_ ?_
  · exact kk_wl hG [1, 2, 3] rfl (b31 _ _ _)
  refine kk_aln hG (x := p0) rfl rfl ?_
  refine kks hG rfl rfl ?_
  refine kk_ob (fun b1 eb1 => ?_)
  subst eb1
  refine kk_cx (w := .int) hG 0 rfl rfl (Nat.le_of_ble_eq_true rfl) (by decide) rfl (st' := []) rfl (cats_le (Nat.le_of_ble_eq_true rfl)) (fun _ hw h k => kk_rcv h.1 (kc_By_at base sa hw h.2 k)) (fun r2 sr2 cr2 dr2 => ?_)
  refine kk_bi hG rfl cc_b48 ?_
  refine kk_ine hG (t := 31) rfl rfl ?_ ?_
  · exact kk_wl hG [1, 2, 3] rfl (b31 _ _ _)
  refine kk_ic hG rfl cc_im1 ?_
  exact kk_ri hG rfl rfl rfl k
def C_Pr_parseFour_b91 (sa : Nat → Nat) (p0 : Nat) (p1 : Option Nat) (p3 : Int32) (a4 : Int64) (a7 : Int32) (a8 : Int32) (a9 : Int32) (s : cS) (kc ks : Nat) (Q : (Int32 → cS → Nat → Nat → Prop)) (P9 : (Int64 → Int32 → Int32 → cS → Nat → Nat → Prop)) : Prop := (P9 ((a4 <<< ((Int32.toInt64 (8 : Int32)) &&& 63)) ||| (Int32.toInt64 a9)) (a8 + (1 : Int32)) (a7 + (1 : Int32)) s kc ks)
def C_Pr_parseFour_b77 (sa : Nat → Nat) (p0 : Nat) (p1 : Option Nat) (p3 : Int32) (a4 : Int64) (a7 : Int32) (a8 : Int32) (a9 : Int32) (s : cS) (kc ks : Nat) (Q : (Int32 → cS → Nat → Nat → Prop)) (P9 : (Int64 → Int32 → Int32 → cS → Nat → Nat → Prop)) : Prop := if a7 = (3 : Int32) then (if a8 < p3 then ((Q (0 : Int32) s kc ks)) else ((C_Pr_parseFour_b91 sa p0 p1 p3 a4 a7 a8 a9 s kc ks Q P9))) else ((C_Pr_parseFour_b91 sa p0 p1 p3 a4 a7 a8 a9 s kc ks Q P9))
def C_Pr_parseFour_b42 (sa : Nat → Nat) (p0 : Nat) (p1 : Option Nat) (p3 : Int32) (a4 : Int64) (a6 : Int32) (a7 : Int32) (a8 : Int32) (s : cS) (kc ks : Nat) (Q : (Int32 → cS → Nat → Nat → Prop)) (P9 : (Int64 → Int32 → Int32 → cS → Nat → Nat → Prop)) : Prop := C_Pr_plainNumber sa p1 a6 a8 s kc ks (fun r1 sr1 cr1 dr1 => (if r1 < 0 then ((Q (0 : Int32) sr1 cr1 dr1)) else (if (255 : Int32) < r1 then ((Q (0 : Int32) sr1 cr1 dr1)) else (if a7 < (3 : Int32) then (if a8 = p3 then ((Q (0 : Int32) sr1 cr1 dr1)) else ((C_Pr_parseFour_b77 sa p0 p1 p3 a4 a7 a8 r1 sr1 cr1 dr1 Q P9))) else ((C_Pr_parseFour_b77 sa p0 p1 p3 a4 a7 a8 r1 sr1 cr1 dr1 Q P9))))))
def C_Pr_parseFour_s19 (sa : Nat → Nat) (p0 : Nat) (p1 : Option Nat) (p3 : Int32) (a4 : Int64) (a6 : Int32) (a7 : Int32) (a8 : Int32) (s : cS) (kc ks : Nat) (Q : (Int32 → cS → Nat → Nat → Prop)) (P9 : (Int64 → Int32 → Int32 → cS → Nat → Nat → Prop)) (P19 : (Int32 → cS → Nat → Nat → Prop)) : Prop := if a8 < p3 then (ob p1 (fun b1 => (okO s 0 b1 ∧ C_By_at sa b1 a8 s kc ks (fun r2 sr2 cr2 dr2 => (if r2 = (46 : Int32) then ((C_Pr_parseFour_b42 sa p0 (some b1) p3 a4 a6 a7 a8 sr2 cr2 dr2 Q P9)) else ((P19 (a8 + (1 : Int32)) sr2 cr2 dr2))))))) else ((C_Pr_parseFour_b42 sa p0 p1 p3 a4 a6 a7 a8 s kc ks Q P9))
def C_Pr_parseFour_b19 (sa : Nat → Nat) (p0 : Nat) (p1 : Option Nat) (p3 : Int32) (a4 : Int64) (a6 : Int32) (a7 : Int32) (a8 : Int32) (s : cS) (kc ks : Nat) (Q : (Int32 → cS → Nat → Nat → Prop)) (P9 : (Int64 → Int32 → Int32 → cS → Nat → Nat → Prop)) : Prop := ∀ P19 : (Int32 → cS → Nat → Nat → Prop), (∀ (a8 : Int32) (s : cS) (kc ks : Nat), C_Pr_parseFour_s19 sa p0 p1 p3 a4 a6 a7 a8 s kc ks Q P9 P19 → P19 a8 s kc ks) → P19 a8 s kc ks
def C_Pr_parseFour_s9 (sa : Nat → Nat) (p0 : Nat) (p1 : Option Nat) (p3 : Int32) (a4 : Int64) (a6 : Int32) (a7 : Int32) (s : cS) (kc ks : Nat) (Q : (Int32 → cS → Nat → Nat → Prop)) (P9 : (Int64 → Int32 → Int32 → cS → Nat → Nat → Prop)) : Prop := if a7 < (4 : Int32) then ((C_Pr_parseFour_b19 sa p0 p1 p3 a4 a6 a7 a6 s kc ks Q P9)) else ((okO s 5 p0 ∧ C_Pr_setZero sa p0 (4 : Int32) (32 : Int32) s kc ks (fun sr1 cr1 dr1 => (ob (pJ sr1 5 1 p0 (a4 <<< ((Int32.toInt64 (32 : Int32)) &&& 63))) (fun s2 => (Q (1 : Int32) s2 cr1 dr1))))))
def C_Pr_parseFour_b9 (sa : Nat → Nat) (p0 : Nat) (p1 : Option Nat) (p3 : Int32) (a4 : Int64) (a6 : Int32) (a7 : Int32) (s : cS) (kc ks : Nat) (Q : (Int32 → cS → Nat → Nat → Prop)) : Prop := ∀ P9 : (Int64 → Int32 → Int32 → cS → Nat → Nat → Prop), (∀ (a4 : Int64) (a6 : Int32) (a7 : Int32) (s : cS) (kc ks : Nat), C_Pr_parseFour_s9 sa p0 p1 p3 a4 a6 a7 s kc ks Q P9 → P9 a4 a6 a7 s kc ks) → P9 a4 a6 a7 s kc ks
def C_Pr_parseFour (sa : Nat → Nat) (p0 : Nat) (p1 : Option Nat) (p2 : Int32) (p3 : Int32) (s : cS) (kc ks : Nat) (Q : (Int32 → cS → Nat → Nat → Prop)) : Prop := (C_Pr_parseFour_b9 sa p0 p1 p3 (0 : Int64) p2 (0 : Int32) s kc ks Q)
set_option maxRecDepth 100000 in
set_option maxHeartbeats 4000000 in
theorem kc_Pr_parseFour (base : Nat) (sa : Nat → Nat) {R : pmM} {s : cS} {kc ks : Nat} {Rt : pmR} {p0 : Nat} {p1 : Option Nat} {p2 : Int32} {p3 : Int32} {Q : (Int32 → cS → Nat → Nat → Prop)} (hw : cW sa R base s) (h : C_Pr_parseFour sa p0 p1 p2 p3 s kc ks Q) (k : ∀ r s' kc' ks', cW sa R base s' → Q r s' kc' ks' → Rt (some (.int r)) (cM R s') kc' ks') : kP_Pr_parseFour base sa [.ref p0, va_rf p1, .int p2, .int p3] (cM R s) kc ks Rt := by
  refine ⟨by cases p1 <;> exact Nat.le_of_ble_eq_true rfl, fun G hG => ?_⟩
  have eL : lv_args 0 [.ref p0, va_rf p1, .int p2, .int p3] = [(0, va_rf (some p0)), (1, va_rf p1), (2, .int p2), (3, .int p3)] := by cases p1 <;> rfl
  rw [eL]
  have b9 : ∀ (a4 : Int64) (a6 : Int32) (a7 : Int32) (s : cS) (kc ks : Nat), KK sa R base G 9 [(0, va_rf (some p0)), (1, va_rf p1), (3, .int p3), (4, .long a4), (6, .int a6), (7, .int a7)] [] s kc ks (C_Pr_parseFour_b9 sa p0 p1 p3 a4 a6 a7 s kc ks Q) := by
    have H : ∀ (P9 : (Int64 → Int32 → Int32 → cS → Nat → Nat → Prop)) (hP9 : ∀ (a4 : Int64) (a6 : Int32) (a7 : Int32) (s : cS) (kc ks : Nat), P9 a4 a6 a7 s kc ks → cW sa R base s → G 9 [(0, va_rf (some p0)), (1, va_rf p1), (3, .int p3), (4, .long a4), (6, .int a6), (7, .int a7)] [] (cM R s) kc ks) (a4 : Int64) (a6 : Int32) (a7 : Int32) (s : cS) (kc ks : Nat), KK sa R base G 9 [(0, va_rf (some p0)), (1, va_rf p1), (3, .int p3), (4, .long a4), (6, .int a6), (7, .int a7)] [] s kc ks (C_Pr_parseFour_s9 sa p0 p1 p3 a4 a6 a7 s kc ks Q P9) := by
      intro P9 hP9
      have b91 : ∀ (a4 : Int64) (a7 : Int32) (a8 : Int32) (a9 : Int32) (s : cS) (kc ks : Nat), KK sa R base G 91 [(0, va_rf (some p0)), (1, va_rf p1), (3, .int p3), (4, .long a4), (7, .int a7), (8, .int a8), (9, .int a9)] [] s kc ks (C_Pr_parseFour_b91 sa p0 p1 p3 a4 a7 a8 a9 s kc ks Q P9) := by
        intro a4 a7 a8 a9 s kc ks
        refine kks hG rfl rfl ?_
        refine kk_bi hG rfl cc_b8 ?_
        refine kks hG rfl rfl ?_
        refine kks hG rfl rfl ?_
        refine kks hG rfl rfl ?_
        refine kks hG rfl rfl ?_
        refine kk_st hG (L' := [(4, .long ((a4 <<< ((Int32.toInt64 (8 : Int32)) &&& 63)) ||| (Int32.toInt64 a9))), (0, va_rf (some p0)), (1, va_rf p1), (3, .int p3), (7, .int a7), (8, .int a8), (9, .int a9)]) rfl rfl (Nat.le_of_ble_eq_true rfl) rfl ?_
        refine kks hG rfl rfl ?_
        refine kk_ic hG rfl cc_i1 ?_
        refine kks hG rfl rfl ?_
        refine kk_st hG (L' := [(6, .int (a8 + (1 : Int32))), (4, .long ((a4 <<< ((Int32.toInt64 (8 : Int32)) &&& 63)) ||| (Int32.toInt64 a9))), (0, va_rf (some p0)), (1, va_rf p1), (3, .int p3), (7, .int a7), (8, .int a8), (9, .int a9)]) rfl rfl (Nat.le_of_ble_eq_true rfl) rfl ?_
        refine kk_inc hG (L' := [(7, .int (a7 + (1 : Int32))), (6, .int (a8 + (1 : Int32))), (4, .long ((a4 <<< ((Int32.toInt64 (8 : Int32)) &&& 63)) ||| (Int32.toInt64 a9))), (0, va_rf (some p0)), (1, va_rf p1), (3, .int p3), (8, .int a8), (9, .int a9)]) rfl (Nat.le_of_ble_eq_true rfl) rfl cc_i1 rfl ?_
        refine kk_at (pc' := 111) rfl ?_
        refine kk_go hG (t := 9) rfl rfl ?_
        exact kk_wl hG [3, 4, 5, 2, 1, 0] rfl (fun hw h => hP9 _ _ _ _ _ _ h hw)
      have b77 : ∀ (a4 : Int64) (a7 : Int32) (a8 : Int32) (a9 : Int32) (s : cS) (kc ks : Nat), KK sa R base G 77 [(0, va_rf (some p0)), (1, va_rf p1), (3, .int p3), (4, .long a4), (7, .int a7), (8, .int a8), (9, .int a9)] [] s kc ks (C_Pr_parseFour_b77 sa p0 p1 p3 a4 a7 a8 a9 s kc ks Q P9) := by
        intro a4 a7 a8 a9 s kc ks
        refine kks hG rfl rfl ?_
        refine kk_ic hG rfl cc_i3 ?_
        refine kk_ine hG (t := 91) rfl rfl ?_ ?_
        · exact kk_wl hG [0, 1, 2, 3, 4, 5, 6] rfl (b91 _ _ _ _ _ _ _)
        refine kks hG rfl rfl ?_
        refine kks hG rfl rfl ?_
        refine kk_ige hG (t := 91) rfl rfl ?_ ?_
        · exact kk_wl hG [0, 1, 2, 3, 4, 5, 6] rfl (b91 _ _ _ _ _ _ _)
        refine kk_ic hG rfl cc_i0 ?_
        exact kk_ri hG rfl rfl rfl k
      have b42 : ∀ (a4 : Int64) (a6 : Int32) (a7 : Int32) (a8 : Int32) (s : cS) (kc ks : Nat), KK sa R base G 42 [(0, va_rf (some p0)), (1, va_rf p1), (3, .int p3), (4, .long a4), (6, .int a6), (7, .int a7), (8, .int a8)] [] s kc ks (C_Pr_parseFour_b42 sa p0 p1 p3 a4 a6 a7 a8 s kc ks Q P9) := by
        intro a4 a6 a7 a8 s kc ks
        refine kk_aln hG (x := p1) rfl rfl ?_
        refine kks hG rfl rfl ?_
        refine kks hG rfl rfl ?_
        refine kk_cx (w := .int) hG 2 rfl rfl (Nat.le_of_ble_eq_true rfl) (by decide) rfl (st' := []) rfl (cats_le (Nat.le_of_ble_eq_true rfl)) (fun _ hw h k => kc_Pr_plainNumber base sa hw h k) (fun r1 sr1 cr1 dr1 => ?_)
        refine kk_st hG (L' := [(9, .int r1), (0, va_rf (some p0)), (1, va_rf p1), (3, .int p3), (4, .long a4), (6, .int a6), (7, .int a7), (8, .int a8)]) rfl rfl (Nat.le_of_ble_eq_true rfl) rfl ?_
        refine kks hG rfl rfl ?_
        refine kk_zlt hG (t := 89) rfl rfl ?_ ?_
        · refine kk_ic hG rfl cc_i0 ?_
          exact kk_ri hG rfl rfl rfl k
        refine kks hG rfl rfl ?_
        refine kk_si hG rfl cc_s255 ?_
        refine kk_igt hG (t := 89) rfl rfl ?_ ?_
        · refine kk_ic hG rfl cc_i0 ?_
          exact kk_ri hG rfl rfl rfl k
        refine kks hG rfl rfl ?_
        refine kk_ic hG rfl cc_i3 ?_
        refine kk_ige hG (t := 77) rfl rfl ?_ ?_
        · exact kk_wl hG [1, 2, 3, 4, 6, 7, 0] rfl (b77 _ _ _ _ _ _ _)
        refine kks hG rfl rfl ?_
        refine kks hG rfl rfl ?_
        refine kk_ieq hG (t := 89) rfl rfl ?_ ?_
        · refine kk_ic hG rfl cc_i0 ?_
          exact kk_ri hG rfl rfl rfl k
        exact kk_wl hG [1, 2, 3, 4, 6, 7, 0] rfl (b77 _ _ _ _ _ _ _)
      have b19 : ∀ (a4 : Int64) (a6 : Int32) (a7 : Int32) (a8 : Int32) (s : cS) (kc ks : Nat), KK sa R base G 19 [(0, va_rf (some p0)), (1, va_rf p1), (3, .int p3), (4, .long a4), (6, .int a6), (7, .int a7), (8, .int a8)] [] s kc ks (C_Pr_parseFour_b19 sa p0 p1 p3 a4 a6 a7 a8 s kc ks Q P9) := by
        intro a4 a6 a7
        have H : ∀ (P19 : (Int32 → cS → Nat → Nat → Prop)) (hP19 : ∀ (a8 : Int32) (s : cS) (kc ks : Nat), P19 a8 s kc ks → cW sa R base s → G 19 [(0, va_rf (some p0)), (1, va_rf p1), (3, .int p3), (4, .long a4), (6, .int a6), (7, .int a7), (8, .int a8)] [] (cM R s) kc ks) (a8 : Int32) (s : cS) (kc ks : Nat), KK sa R base G 19 [(0, va_rf (some p0)), (1, va_rf p1), (3, .int p3), (4, .long a4), (6, .int a6), (7, .int a7), (8, .int a8)] [] s kc ks (C_Pr_parseFour_s19 sa p0 p1 p3 a4 a6 a7 a8 s kc ks Q P9 P19) := by
          intro P19 hP19
          intro a8 s kc ks
          refine kks hG rfl rfl ?_
          refine kks hG rfl rfl ?_
          refine kk_ige hG (t := 42) rfl rfl ?_ ?_
          · exact kk_wl hG [0, 1, 2, 3, 4, 5, 6] rfl (b42 _ _ _ _ _ _ _)
          refine kk_aln hG (x := p1) rfl rfl ?_
          refine kks hG rfl rfl ?_
          refine kk_ob (fun b1 eb1 => ?_)
          subst eb1
          refine kk_cx (w := .int) hG 0 rfl rfl (Nat.le_of_ble_eq_true rfl) (by decide) rfl (st' := []) rfl (cats_le (Nat.le_of_ble_eq_true rfl)) (fun _ hw h k => kk_rcv h.1 (kc_By_at base sa hw h.2 k)) (fun r2 sr2 cr2 dr2 => ?_)
          refine kk_bi hG rfl cc_b46 ?_
          refine kk_ieq hG (t := 42) rfl rfl ?_ ?_
          · exact kk_wl hG [0, 1, 2, 3, 4, 5, 6] rfl (b42 _ _ _ _ _ _ _)
          refine kk_inc hG (L' := [(8, .int (a8 + (1 : Int32))), (0, va_rf (some p0)), (1, va_rf (some b1)), (3, .int p3), (4, .long a4), (6, .int a6), (7, .int a7)]) rfl (Nat.le_of_ble_eq_true rfl) rfl cc_i1 rfl ?_
          refine kk_go hG (t := 19) rfl rfl ?_
          exact kk_wl hG [1, 2, 3, 4, 5, 6, 0] rfl (fun hw h => hP19 _ _ _ _ h hw)
        exact fun a8 s kc ks hw h => h (fun a8 s kc ks => cW sa R base s → G 19 [(0, va_rf (some p0)), (1, va_rf p1), (3, .int p3), (4, .long a4), (6, .int a6), (7, .int a7), (8, .int a8)] [] (cM R s) kc ks) (fun a8 s kc ks hs hw => H _ (fun _ _ _ _ hp hw => hp hw) a8 s kc ks hw hs) hw
      intro a4 a6 a7 s kc ks
      refine kks hG rfl rfl ?_
      refine kk_ic hG rfl cc_i4 ?_
      refine kk_ige hG (t := 114) rfl rfl ?_ ?_
      · refine kk_aln hG (x := (some p0)) rfl rfl ?_
        refine kk_ic hG rfl cc_i4 ?_
        refine kk_bi hG rfl cc_b32 ?_
        refine kk_cv hG 0 rfl rfl (Nat.le_of_ble_eq_true rfl) (by decide) rfl (st' := []) rfl (cats_le (Nat.le_of_ble_eq_true rfl)) (fun _ hw h k => kk_rcv h.1 (kc_Pr_setZero base sa hw h.2 k)) (fun sr1 cr1 dr1 => ?_)
        refine kk_aln hG (x := (some p0)) rfl rfl ?_
        refine kks hG rfl rfl ?_
        refine kk_bi hG rfl cc_b32 ?_
        refine kks hG rfl rfl ?_
        refine kk_pj hG (c := 5) (k := 1) (a := p0) rfl rfl rfl rfl (fun s2 => ?_)
        refine kk_ic hG rfl cc_i1 ?_
        exact kk_ri hG rfl rfl rfl k
      refine kks hG rfl rfl ?_
      refine kk_st hG (L' := [(8, .int a6), (0, va_rf (some p0)), (1, va_rf p1), (3, .int p3), (4, .long a4), (6, .int a6), (7, .int a7)]) rfl rfl (Nat.le_of_ble_eq_true rfl) rfl ?_
      exact kk_wl hG [1, 2, 3, 4, 5, 6, 0] rfl (b19 _ _ _ _ _ _ _)
    exact fun a4 a6 a7 s kc ks hw h => h (fun a4 a6 a7 s kc ks => cW sa R base s → G 9 [(0, va_rf (some p0)), (1, va_rf p1), (3, .int p3), (4, .long a4), (6, .int a6), (7, .int a7)] [] (cM R s) kc ks) (fun a4 a6 a7 s kc ks hs hw => H _ (fun _ _ _ _ _ _ hp hw => hp hw) a4 a6 a7 s kc ks hw hs) hw
  refine (show KK sa R base G 0 [(0, va_rf (some p0)), (1, va_rf p1), (2, .int p2), (3, .int p3)] [] s kc ks (C_Pr_parseFour sa p0 p1 p2 p3 s kc ks Q) from ?_) hw h
  refine kk_lc hG (c := 0) (v := 0) rfl rfl ?_
  refine kk_st hG (L' := [(4, .long (0 : Int64)), (0, va_rf (some p0)), (1, va_rf p1), (2, .int p2), (3, .int p3)]) rfl rfl (Nat.le_of_ble_eq_true rfl) rfl ?_
  refine kks hG rfl rfl ?_
  refine kk_st hG (L' := [(6, .int p2), (4, .long (0 : Int64)), (0, va_rf (some p0)), (1, va_rf p1), (2, .int p2), (3, .int p3)]) rfl rfl (Nat.le_of_ble_eq_true rfl) rfl ?_
  refine kk_ic hG rfl cc_i0 ?_
  refine kk_st hG (L' := [(7, .int (0 : Int32)), (6, .int p2), (4, .long (0 : Int64)), (0, va_rf (some p0)), (1, va_rf p1), (2, .int p2), (3, .int p3)]) rfl rfl (Nat.le_of_ble_eq_true rfl) rfl ?_
  exact kk_wl hG [3, 4, 6, 2, 1, 0] rfl (b9 _ _ _ _ _ _)
def C_Pr_parseAddress_s3 (sa : Nat → Nat) (p0 : Nat) (p1 : Option Nat) (p2 : Int32) (p3 : Int32) (a4 : Int32) (s : cS) (kc ks : Nat) (Q : (Int32 → cS → Nat → Nat → Prop)) (P3 : (Int32 → cS → Nat → Nat → Prop)) : Prop := if a4 < p3 then (ob p1 (fun b2 => (okO s 0 b2 ∧ C_By_at sa b2 a4 s kc ks (fun r3 sr3 cr3 dr3 => (if r3 = (58 : Int32) then ((okO sr3 5 p0 ∧ C_Pr_parseSix sa p0 (some b2) p2 p3 sr3 cr3 dr3 (fun r4 sr4 cr4 dr4 => ((r4 = 0 ∨ r4 = 1) ∧ Q r4 sr4 cr4 dr4)))) else ((P3 (a4 + (1 : Int32)) sr3 cr3 dr3))))))) else ((okO s 5 p0 ∧ C_Pr_parseFour sa p0 p1 p2 p3 s kc ks (fun r1 sr1 cr1 dr1 => ((r1 = 0 ∨ r1 = 1) ∧ Q r1 sr1 cr1 dr1))))
def C_Pr_parseAddress_b3 (sa : Nat → Nat) (p0 : Nat) (p1 : Option Nat) (p2 : Int32) (p3 : Int32) (a4 : Int32) (s : cS) (kc ks : Nat) (Q : (Int32 → cS → Nat → Nat → Prop)) : Prop := ∀ P3 : (Int32 → cS → Nat → Nat → Prop), (∀ (a4 : Int32) (s : cS) (kc ks : Nat), C_Pr_parseAddress_s3 sa p0 p1 p2 p3 a4 s kc ks Q P3 → P3 a4 s kc ks) → P3 a4 s kc ks
def C_Pr_parseAddress (sa : Nat → Nat) (p0 : Nat) (p1 : Option Nat) (p2 : Int32) (p3 : Int32) (s : cS) (kc ks : Nat) (Q : (Int32 → cS → Nat → Nat → Prop)) : Prop := (C_Pr_parseAddress_b3 sa p0 p1 p2 p3 p2 s kc ks Q)
set_option maxRecDepth 100000 in
set_option maxHeartbeats 4000000 in
theorem kc_Pr_parseAddress (base : Nat) (sa : Nat → Nat) {R : pmM} {s : cS} {kc ks : Nat} {Rt : pmR} {p0 : Nat} {p1 : Option Nat} {p2 : Int32} {p3 : Int32} {Q : (Int32 → cS → Nat → Nat → Prop)} (hw : cW sa R base s) (h : C_Pr_parseAddress sa p0 p1 p2 p3 s kc ks Q) (k : ∀ r s' kc' ks', cW sa R base s' → Q r s' kc' ks' → Rt (some (.int r)) (cM R s') kc' ks') : kP_Pr_parseAddress base sa [.ref p0, va_rf p1, .int p2, .int p3] (cM R s) kc ks Rt := by
  refine ⟨by cases p1 <;> exact Nat.le_of_ble_eq_true rfl, fun G hG => ?_⟩
  have eL : lv_args 0 [.ref p0, va_rf p1, .int p2, .int p3] = [(0, va_rf (some p0)), (1, va_rf p1), (2, .int p2), (3, .int p3)] := by cases p1 <;> rfl
  rw [eL]
  have b3 : ∀ (a4 : Int32) (s : cS) (kc ks : Nat), KK sa R base G 3 [(0, va_rf (some p0)), (1, va_rf p1), (2, .int p2), (3, .int p3), (4, .int a4)] [] s kc ks (C_Pr_parseAddress_b3 sa p0 p1 p2 p3 a4 s kc ks Q) := by
    have H : ∀ (P3 : (Int32 → cS → Nat → Nat → Prop)) (hP3 : ∀ (a4 : Int32) (s : cS) (kc ks : Nat), P3 a4 s kc ks → cW sa R base s → G 3 [(0, va_rf (some p0)), (1, va_rf p1), (2, .int p2), (3, .int p3), (4, .int a4)] [] (cM R s) kc ks) (a4 : Int32) (s : cS) (kc ks : Nat), KK sa R base G 3 [(0, va_rf (some p0)), (1, va_rf p1), (2, .int p2), (3, .int p3), (4, .int a4)] [] s kc ks (C_Pr_parseAddress_s3 sa p0 p1 p2 p3 a4 s kc ks Q P3) := by
      intro P3 hP3
      intro a4 s kc ks
      refine kks hG rfl rfl ?_
      refine kks hG rfl rfl ?_
      refine kk_ige hG (t := 34) rfl rfl ?_ ?_
      · refine kk_aln hG (x := (some p0)) rfl rfl ?_
        refine kk_aln hG (x := p1) rfl rfl ?_
        refine kks hG rfl rfl ?_
        refine kks hG rfl rfl ?_
        refine kk_cx (w := .int) hG 0 rfl rfl (Nat.le_of_ble_eq_true rfl) (by decide) rfl (st' := []) rfl (cats_le (Nat.le_of_ble_eq_true rfl)) (fun _ hw h k => kk_rcv h.1 (kc_Pr_parseFour base sa hw h.2 k)) (fun r1 sr1 cr1 dr1 => ?_)
        exact kk_rz hG rfl rfl k
      refine kk_aln hG (x := p1) rfl rfl ?_
      refine kks hG rfl rfl ?_
      refine kk_ob (fun b2 eb2 => ?_)
      subst eb2
      refine kk_cx (w := .int) hG 0 rfl rfl (Nat.le_of_ble_eq_true rfl) (by decide) rfl (st' := []) rfl (cats_le (Nat.le_of_ble_eq_true rfl)) (fun _ hw h k => kk_rcv h.1 (kc_By_at base sa hw h.2 k)) (fun r3 sr3 cr3 dr3 => ?_)
      refine kk_bi hG rfl cc_b58 ?_
      refine kk_ine hG (t := 28) rfl rfl ?_ ?_
      · refine kk_inc hG (L' := [(4, .int (a4 + (1 : Int32))), (0, va_rf (some p0)), (1, va_rf (some b2)), (2, .int p2), (3, .int p3)]) rfl (Nat.le_of_ble_eq_true rfl) rfl cc_i1 rfl ?_
        refine kk_go hG (t := 3) rfl rfl ?_
        exact kk_wl hG [1, 2, 3, 4, 0] rfl (fun hw h => hP3 _ _ _ _ h hw)
      refine kk_aln hG (x := (some p0)) rfl rfl ?_
      refine kk_aln hG (x := (some b2)) rfl rfl ?_
      refine kks hG rfl rfl ?_
      refine kks hG rfl rfl ?_
      refine kk_cx (w := .int) hG 0 rfl rfl (Nat.le_of_ble_eq_true rfl) (by decide) rfl (st' := []) rfl (cats_le (Nat.le_of_ble_eq_true rfl)) (fun _ hw h k => kk_rcv h.1 (kc_Pr_parseSix base sa hw h.2 k)) (fun r4 sr4 cr4 dr4 => ?_)
      exact kk_rz hG rfl rfl k
    exact fun a4 s kc ks hw h => h (fun a4 s kc ks => cW sa R base s → G 3 [(0, va_rf (some p0)), (1, va_rf p1), (2, .int p2), (3, .int p3), (4, .int a4)] [] (cM R s) kc ks) (fun a4 s kc ks hs hw => H _ (fun _ _ _ _ hp hw => hp hw) a4 s kc ks hw hs) hw
  refine (show KK sa R base G 0 [(0, va_rf (some p0)), (1, va_rf p1), (2, .int p2), (3, .int p3)] [] s kc ks (C_Pr_parseAddress sa p0 p1 p2 p3 s kc ks Q) from ?_) hw h
  refine kks hG rfl rfl ?_
  refine kk_st hG (L' := [(4, .int p2), (0, va_rf (some p0)), (1, va_rf p1), (2, .int p2), (3, .int p3)]) rfl rfl (Nat.le_of_ble_eq_true rfl) rfl ?_
  exact kk_wl hG [1, 2, 3, 4, 0] rfl (b3 _ _ _ _)
def C_Rr_findLongestOwn_b76 (sa : Nat → Nat) (p0 : Nat) (p1 : Option Nat) (p2 : Option Nat) (a3 : Int32) (s : cS) (kc ks : Nat) (Q : (cS → Nat → Nat → Prop)) (P2 : (Int32 → cS → Nat → Nat → Prop)) : Prop := (P2 (a3 + (1 : Int32)) s kc ks)
def C_Rr_findLongestOwn_b136 (sa : Nat → Nat) (p0 : Nat) (p1 : Option Nat) (p2 : Option Nat) (a3 : Int32) (s : cS) (kc ks : Nat) (Q : (cS → Nat → Nat → Prop)) (P84 : (Int32 → cS → Nat → Nat → Prop)) : Prop := (P84 (a3 + (1 : Int32)) s kc ks)
def C_Rr_findLongestOwn_s84 (sa : Nat → Nat) (p0 : Nat) (p1 : Option Nat) (p2 : Option Nat) (a3 : Int32) (s : cS) (kc ks : Nat) (Q : (cS → Nat → Nat → Prop)) (P84 : (Int32 → cS → Nat → Nat → Prop)) : Prop := ob (gP s 9 7 p0) (fun v1 => (ob v1 (fun b2 => (ob (gI s 10 1 b2) (fun v3 => (if a3 < v3 then (ob (gP s 9 7 p0) (fun v4 => (ob v4 (fun b5 => (ob (gP s 10 0 b5) (fun v6 => (ob v6 (fun b7 => (ob (rQ s b7 a3) (fun v8 => (ob v8 (fun b9 => (ob (gP s 8 0 b9) (fun v10 => (ob v10 (fun b11 => (ob (gI s 5 3 b11) (fun v12 => (ob p2 (fun b13 => (ob (gI s 5 3 b13) (fun v14 => (if v14 < v12 then (okO s 5 b11 ∧ C_Pr_covers sa b11 p1 s kc ks (fun r15 sr15 cr15 dr15 => (if r15 = 0 then ((C_Rr_findLongestOwn_b136 sa p0 p1 (some b13) a3 sr15 cr15 dr15 Q P84)) else (okO sr15 5 b13 ∧ C_Pr_copy sa b13 (some b11) sr15 cr15 dr15 (fun sr16 cr16 dr16 => ((C_Rr_findLongestOwn_b136 sa p0 p1 (some b13) a3 sr16 cr16 dr16 Q P84))))))) else ((C_Rr_findLongestOwn_b136 sa p0 p1 (some b13) a3 s kc ks Q P84))))))))))))))))))))))))) else ((Q s kc ks))))))))
def C_Rr_findLongestOwn_b84 (sa : Nat → Nat) (p0 : Nat) (p1 : Option Nat) (p2 : Option Nat) (a3 : Int32) (s : cS) (kc ks : Nat) (Q : (cS → Nat → Nat → Prop)) : Prop := ∀ P84 : (Int32 → cS → Nat → Nat → Prop), (∀ (a3 : Int32) (s : cS) (kc ks : Nat), C_Rr_findLongestOwn_s84 sa p0 p1 p2 a3 s kc ks Q P84 → P84 a3 s kc ks) → P84 a3 s kc ks
def C_Rr_findLongestOwn_s2 (sa : Nat → Nat) (p0 : Nat) (p1 : Option Nat) (p2 : Option Nat) (a3 : Int32) (s : cS) (kc ks : Nat) (Q : (cS → Nat → Nat → Prop)) (P2 : (Int32 → cS → Nat → Nat → Prop)) : Prop := ob (gI s 9 5 p0) (fun v1 => (if a3 < v1 then (ob (gP s 9 4 p0) (fun v2 => (ob v2 (fun b3 => (ob (rQ s b3 a3) (fun v4 => (ob p1 (fun b5 => (ob (gI s 5 0 b5) (fun v6 => (ob v4 (fun b7 => (okO s 4 b7 ∧ C_Po_addressOf sa b7 v6 s kc ks (fun r8 sr8 cr8 dr8 => (if r8 = none then ((C_Rr_findLongestOwn_b76 sa p0 (some b5) p2 a3 sr8 cr8 dr8 Q P2)) else (ob (gP sr8 9 4 p0) (fun v9 => (ob v9 (fun b10 => (ob (rQ sr8 b10 a3) (fun v11 => (ob v11 (fun b12 => (ob (gP sr8 4 0 b12) (fun v13 => (ob v13 (fun b14 => (ob (gI sr8 3 4 b14) (fun v15 => (if v15 = 0 then ((C_Rr_findLongestOwn_b76 sa p0 (some b5) p2 a3 sr8 cr8 dr8 Q P2)) else (ob r8 (fun b16 => (ob (gI sr8 5 3 b16) (fun v17 => (ob p2 (fun b18 => (ob (gI sr8 5 3 b18) (fun v19 => (if v19 < v17 then (okO sr8 5 b16 ∧ C_Pr_covers sa b16 (some b5) sr8 cr8 dr8 (fun r20 sr20 cr20 dr20 => (if r20 = 0 then ((C_Rr_findLongestOwn_b76 sa p0 (some b5) (some b18) a3 sr20 cr20 dr20 Q P2)) else (okO sr20 5 b18 ∧ C_Pr_copy sa b18 (some b16) sr20 cr20 dr20 (fun sr21 cr21 dr21 => (okO sr21 5 b18 ∧ C_Pr_dropBitsBehind sa b18 sr21 cr21 dr21 (fun sr22 cr22 dr22 => ((C_Rr_findLongestOwn_b76 sa p0 (some b5) (some b18) a3 sr22 cr22 dr22 Q P2))))))))) else ((C_Rr_findLongestOwn_b76 sa p0 (some b5) (some b18) a3 sr8 cr8 dr8 Q P2))))))))))))))))))))))))))))))))))))))))) else (((C_Rr_findLongestOwn_b84 sa p0 p1 p2 (0 : Int32) s kc ks Q)))))
def C_Rr_findLongestOwn_b2 (sa : Nat → Nat) (p0 : Nat) (p1 : Option Nat) (p2 : Option Nat) (a3 : Int32) (s : cS) (kc ks : Nat) (Q : (cS → Nat → Nat → Prop)) : Prop := ∀ P2 : (Int32 → cS → Nat → Nat → Prop), (∀ (a3 : Int32) (s : cS) (kc ks : Nat), C_Rr_findLongestOwn_s2 sa p0 p1 p2 a3 s kc ks Q P2 → P2 a3 s kc ks) → P2 a3 s kc ks
def C_Rr_findLongestOwn (sa : Nat → Nat) (p0 : Nat) (p1 : Option Nat) (p2 : Option Nat) (s : cS) (kc ks : Nat) (Q : (cS → Nat → Nat → Prop)) : Prop := (C_Rr_findLongestOwn_b2 sa p0 p1 p2 (0 : Int32) s kc ks Q)
set_option maxRecDepth 100000 in
set_option maxHeartbeats 4000000 in
theorem kc_Rr_findLongestOwn (base : Nat) (sa : Nat → Nat) {R : pmM} {s : cS} {kc ks : Nat} {Rt : pmR} {p0 : Nat} {p1 : Option Nat} {p2 : Option Nat} {Q : (cS → Nat → Nat → Prop)} (hw : cW sa R base s) (h : C_Rr_findLongestOwn sa p0 p1 p2 s kc ks Q) (k : ∀ s' kc' ks', cW sa R base s' → Q s' kc' ks' → Rt none (cM R s') kc' ks') : kP_Rr_findLongestOwn base sa [.ref p0, va_rf p1, va_rf p2] (cM R s) kc ks Rt := by
  refine ⟨by cases p1 <;> cases p2 <;> exact Nat.le_of_ble_eq_true rfl, fun G hG => ?_⟩
  have eL : lv_args 0 [.ref p0, va_rf p1, va_rf p2] = [(0, va_rf (some p0)), (1, va_rf p1), (2, va_rf p2)] := by cases p1 <;> cases p2 <;> rfl
  rw [eL]
  have b84 : ∀ (a3 : Int32) (s : cS) (kc ks : Nat), KK sa R base G 84 [(0, va_rf (some p0)), (1, va_rf p1), (2, va_rf p2), (3, .int a3)] [] s kc ks (C_Rr_findLongestOwn_b84 sa p0 p1 p2 a3 s kc ks Q) := by
    have H : ∀ (P84 : (Int32 → cS → Nat → Nat → Prop)) (hP84 : ∀ (a3 : Int32) (s : cS) (kc ks : Nat), P84 a3 s kc ks → cW sa R base s → G 84 [(0, va_rf (some p0)), (1, va_rf p1), (2, va_rf p2), (3, .int a3)] [] (cM R s) kc ks) (a3 : Int32) (s : cS) (kc ks : Nat), KK sa R base G 84 [(0, va_rf (some p0)), (1, va_rf p1), (2, va_rf p2), (3, .int a3)] [] s kc ks (C_Rr_findLongestOwn_s84 sa p0 p1 p2 a3 s kc ks Q P84) := by
      intro P84 hP84
      have b136 : ∀ (a3 : Int32) (s : cS) (kc ks : Nat), KK sa R base G 136 [(0, va_rf (some p0)), (1, va_rf p1), (2, va_rf p2), (3, .int a3)] [] s kc ks (C_Rr_findLongestOwn_b136 sa p0 p1 p2 a3 s kc ks Q P84) := by
        intro a3 s kc ks
        refine kk_inc hG (L' := [(3, .int (a3 + (1 : Int32))), (0, va_rf (some p0)), (1, va_rf p1), (2, va_rf p2)]) rfl (Nat.le_of_ble_eq_true rfl) rfl cc_i1 (by cases p2 <;> rfl) ?_
        refine kk_go hG (t := 84) rfl rfl ?_
        exact kk_wl hG [1, 2, 3, 0] rfl (fun hw h => hP84 _ _ _ _ h hw)
      intro a3 s kc ks
      refine kks hG rfl rfl ?_
      refine kk_aln hG (x := (some p0)) rfl rfl ?_
      refine kk_gp hG (c := 9) (k := 7) (a := p0) rfl rfl rfl rfl (fun v1 => ?_)
      refine kk_ob (fun b2 eb2 => ?_)
      subst eb2
      refine kk_gi hG (c := 10) (k := 1) (a := b2) rfl rfl rfl rfl (fun v3 => ?_)
      refine kk_ige hG (t := 142) rfl rfl ?_ ?_
      · exact kk_rv hG rfl rfl k
      refine kk_aln hG (x := (some p0)) rfl rfl ?_
      refine kk_gp hG (c := 9) (k := 7) (a := p0) rfl rfl rfl rfl (fun v4 => ?_)
      refine kk_ob (fun b5 eb5 => ?_)
      subst eb5
      refine kk_gp hG (c := 10) (k := 0) (a := b5) rfl rfl rfl rfl (fun v6 => ?_)
      refine kks hG rfl rfl ?_
      refine kk_ob (fun b7 eb7 => ?_)
      subst eb7
      refine kk_aa hG (a := b7) rfl (fun v8 => ?_)
      refine kk_ob (fun b9 eb9 => ?_)
      subst eb9
      refine kk_gp hG (c := 8) (k := 0) (a := b9) rfl rfl rfl rfl (fun v10 => ?_)
      refine kk_as hG (x := v10) (L' := [(4, va_rf v10), (0, va_rf (some p0)), (1, va_rf p1), (2, va_rf p2), (3, .int a3)]) rfl (Nat.le_of_ble_eq_true rfl) rfl ?_
      refine kk_al hG (x := v10) rfl rfl ?_
      refine kk_ob (fun b11 eb11 => ?_)
      subst eb11
      refine kk_gi hG (c := 5) (k := 3) (a := b11) rfl rfl rfl rfl (fun v12 => ?_)
      refine kk_aln hG (x := p2) rfl rfl ?_
      refine kk_ob (fun b13 eb13 => ?_)
      subst eb13
      refine kk_gi hG (c := 5) (k := 3) (a := b13) rfl rfl rfl rfl (fun v14 => ?_)
      refine kk_ile hG (t := 136) rfl rfl ?_ ?_
      · exact kk_wl hG [1, 2, 3, 4] rfl (b136 _ _ _ _)
      refine kk_al hG (x := (some b11)) rfl rfl ?_
      refine kk_aln hG (x := p1) rfl rfl ?_
      refine kk_cx (w := .int) hG 0 rfl rfl (Nat.le_of_ble_eq_true rfl) (by decide) rfl (st' := []) rfl (cats_le (Nat.le_of_ble_eq_true rfl)) (fun _ hw h k => kk_rcv h.1 (kc_Pr_covers base sa hw h.2 k)) (fun r15 sr15 cr15 dr15 => ?_)
      refine kk_zeq hG (t := 136) rfl rfl ?_ ?_
      · exact kk_wl hG [1, 2, 3, 4] rfl (b136 _ _ _ _)
      refine kk_aln hG (x := (some b13)) rfl rfl ?_
      refine kk_al hG (x := (some b11)) rfl rfl ?_
      refine kk_cv hG 0 rfl rfl (Nat.le_of_ble_eq_true rfl) (by decide) rfl (st' := []) rfl (cats_le (Nat.le_of_ble_eq_true rfl)) (fun _ hw h k => kk_rcv h.1 (kc_Pr_copy base sa hw h.2 k)) (fun sr16 cr16 dr16 => ?_)
      exact kk_wl hG [1, 2, 3, 4] rfl (b136 _ _ _ _)
    exact fun a3 s kc ks hw h => h (fun a3 s kc ks => cW sa R base s → G 84 [(0, va_rf (some p0)), (1, va_rf p1), (2, va_rf p2), (3, .int a3)] [] (cM R s) kc ks) (fun a3 s kc ks hs hw => H _ (fun _ _ _ _ hp hw => hp hw) a3 s kc ks hw hs) hw
  have b2 : ∀ (a3 : Int32) (s : cS) (kc ks : Nat), KK sa R base G 2 [(0, va_rf (some p0)), (1, va_rf p1), (2, va_rf p2), (3, .int a3)] [] s kc ks (C_Rr_findLongestOwn_b2 sa p0 p1 p2 a3 s kc ks Q) := by
    have H : ∀ (P2 : (Int32 → cS → Nat → Nat → Prop)) (hP2 : ∀ (a3 : Int32) (s : cS) (kc ks : Nat), P2 a3 s kc ks → cW sa R base s → G 2 [(0, va_rf (some p0)), (1, va_rf p1), (2, va_rf p2), (3, .int a3)] [] (cM R s) kc ks) (a3 : Int32) (s : cS) (kc ks : Nat), KK sa R base G 2 [(0, va_rf (some p0)), (1, va_rf p1), (2, va_rf p2), (3, .int a3)] [] s kc ks (C_Rr_findLongestOwn_s2 sa p0 p1 p2 a3 s kc ks Q P2) := by
      intro P2 hP2
      have b76 : ∀ (a3 : Int32) (s : cS) (kc ks : Nat), KK sa R base G 76 [(0, va_rf (some p0)), (1, va_rf p1), (2, va_rf p2), (3, .int a3)] [] s kc ks (C_Rr_findLongestOwn_b76 sa p0 p1 p2 a3 s kc ks Q P2) := by
        intro a3 s kc ks
        refine kk_inc hG (L' := [(3, .int (a3 + (1 : Int32))), (0, va_rf (some p0)), (1, va_rf p1), (2, va_rf p2)]) rfl (Nat.le_of_ble_eq_true rfl) rfl cc_i1 (by cases p2 <;> rfl) ?_
        refine kk_go hG (t := 2) rfl rfl ?_
        exact kk_wl hG [1, 2, 3, 0] rfl (fun hw h => hP2 _ _ _ _ h hw)
      intro a3 s kc ks
      refine kks hG rfl rfl ?_
      refine kk_aln hG (x := (some p0)) rfl rfl ?_
      refine kk_gi hG (c := 9) (k := 5) (a := p0) rfl rfl rfl rfl (fun v1 => ?_)
      refine kk_ige hG (t := 82) rfl rfl ?_ ?_
      · refine kk_ic hG rfl cc_i0 ?_
        refine kk_st hG (L' := [(3, .int (0 : Int32)), (0, va_rf (some p0)), (1, va_rf p1), (2, va_rf p2)]) rfl rfl (Nat.le_of_ble_eq_true rfl) (by cases p2 <;> rfl) ?_
        exact kk_wl hG [1, 2, 3, 0] rfl (b84 _ _ _ _)
      refine kk_aln hG (x := (some p0)) rfl rfl ?_
      refine kk_gp hG (c := 9) (k := 4) (a := p0) rfl rfl rfl rfl (fun v2 => ?_)
      refine kks hG rfl rfl ?_
      refine kk_ob (fun b3 eb3 => ?_)
      subst eb3
      refine kk_aa hG (a := b3) rfl (fun v4 => ?_)
      refine kk_aln hG (x := p1) rfl rfl ?_
      refine kk_ob (fun b5 eb5 => ?_)
      subst eb5
      refine kk_gi hG (c := 5) (k := 0) (a := b5) rfl rfl rfl rfl (fun v6 => ?_)
      refine kk_ob (fun b7 eb7 => ?_)
      subst eb7
      refine kk_cx (w := va_rf) hG 0 rfl rfl (Nat.le_of_ble_eq_true rfl) (by decide) rfl (st' := []) rfl (cats_le (Nat.le_of_ble_eq_true rfl)) (fun _ hw h k => kk_rcv h.1 (kc_Po_addressOf base sa hw h.2 k)) (fun r8 sr8 cr8 dr8 => ?_)
      refine kk_as hG (x := r8) (L' := [(4, va_rf r8), (0, va_rf (some p0)), (1, va_rf (some b5)), (2, va_rf p2), (3, .int a3)]) rfl (Nat.le_of_ble_eq_true rfl) rfl ?_
      refine kk_al hG (x := r8) rfl rfl ?_
      refine kk_nul hG (x := r8) (t := 76) rfl rfl ?_ ?_
      · exact kk_wl hG [1, 2, 3, 4] rfl (b76 _ _ _ _)
      refine kk_aln hG (x := (some p0)) rfl rfl ?_
      refine kk_gp hG (c := 9) (k := 4) (a := p0) rfl rfl rfl rfl (fun v9 => ?_)
      refine kks hG rfl rfl ?_
      refine kk_ob (fun b10 eb10 => ?_)
      subst eb10
      refine kk_aa hG (a := b10) rfl (fun v11 => ?_)
      refine kk_ob (fun b12 eb12 => ?_)
      subst eb12
      refine kk_gp hG (c := 4) (k := 0) (a := b12) rfl rfl rfl rfl (fun v13 => ?_)
      refine kk_ob (fun b14 eb14 => ?_)
      subst eb14
      refine kk_gi hG (c := 3) (k := 4) (a := b14) rfl rfl rfl rfl (fun v15 => ?_)
      refine kk_zeq hG (t := 76) rfl rfl ?_ ?_
      · exact kk_wl hG [1, 2, 3, 4] rfl (b76 _ _ _ _)
      refine kk_al hG (x := r8) rfl rfl ?_
      refine kk_ob (fun b16 eb16 => ?_)
      subst eb16
      refine kk_gi hG (c := 5) (k := 3) (a := b16) rfl rfl rfl rfl (fun v17 => ?_)
      refine kk_aln hG (x := p2) rfl rfl ?_
      refine kk_ob (fun b18 eb18 => ?_)
      subst eb18
      refine kk_gi hG (c := 5) (k := 3) (a := b18) rfl rfl rfl rfl (fun v19 => ?_)
      refine kk_ile hG (t := 76) rfl rfl ?_ ?_
      · exact kk_wl hG [1, 2, 3, 4] rfl (b76 _ _ _ _)
      refine kk_al hG (x := (some b16)) rfl rfl ?_
      refine kk_aln hG (x := (some b5)) rfl rfl ?_
      refine kk_cx (w := .int) hG 0 rfl rfl (Nat.le_of_ble_eq_true rfl) (by decide) rfl (st' := []) rfl (cats_le (Nat.le_of_ble_eq_true rfl)) (fun _ hw h k => kk_rcv h.1 (kc_Pr_covers base sa hw h.2 k)) (fun r20 sr20 cr20 dr20 => ?_)
      refine kk_zeq hG (t := 76) rfl rfl ?_ ?_
      · exact kk_wl hG [1, 2, 3, 4] rfl (b76 _ _ _ _)
      refine kk_aln hG (x := (some b18)) rfl rfl ?_
      refine kk_al hG (x := (some b16)) rfl rfl ?_
      refine kk_cv hG 0 rfl rfl (Nat.le_of_ble_eq_true rfl) (by decide) rfl (st' := []) rfl (cats_le (Nat.le_of_ble_eq_true rfl)) (fun _ hw h k => kk_rcv h.1 (kc_Pr_copy base sa hw h.2 k)) (fun sr21 cr21 dr21 => ?_)
      refine kk_aln hG (x := (some b18)) rfl rfl ?_
      refine kk_cv hG 0 rfl rfl (Nat.le_of_ble_eq_true rfl) (by decide) rfl (st' := []) rfl (cats_le (Nat.le_of_ble_eq_true rfl)) (fun _ hw h k => kk_rcv h.1 (kc_Pr_dropBitsBehind base sa hw h.2 k)) (fun sr22 cr22 dr22 => ?_)
      exact kk_wl hG [1, 2, 3, 4] rfl (b76 _ _ _ _)
    exact fun a3 s kc ks hw h => h (fun a3 s kc ks => cW sa R base s → G 2 [(0, va_rf (some p0)), (1, va_rf p1), (2, va_rf p2), (3, .int a3)] [] (cM R s) kc ks) (fun a3 s kc ks hs hw => H _ (fun _ _ _ _ hp hw => hp hw) a3 s kc ks hw hs) hw
  refine (show KK sa R base G 0 [(0, va_rf (some p0)), (1, va_rf p1), (2, va_rf p2)] [] s kc ks (C_Rr_findLongestOwn sa p0 p1 p2 s kc ks Q) from ?_) hw h
  refine kk_ic hG rfl cc_i0 ?_
  refine kk_st hG (L' := [(3, .int (0 : Int32)), (0, va_rf (some p0)), (1, va_rf p1), (2, va_rf p2)]) rfl rfl (Nat.le_of_ble_eq_true rfl) (by cases p2 <;> rfl) ?_
  exact kk_wl hG [1, 2, 3, 0] rfl (b2 _ _ _ _)
def C_Rr_ownSum (sa : Nat → Nat) (p0 : Nat) (p1 : Option Nat) (s : cS) (kc ks : Nat) (Q : (Int32 → cS → Nat → Nat → Prop)) : Prop := ob (gI s 9 3 p0) (fun v1 => (if v1 = 0 then (Q (16 : Int32) s kc ks) else (okO s 9 p0 ∧ C_Rr_portOf sa p0 p1 s kc ks (fun r2 sr2 cr2 dr2 => (if r2 = none then (ob (gP sr2 9 7 p0) (fun v3 => (ob v3 (fun b4 => (okO sr2 10 b4 ∧ C_Ta_find sa b4 p1 sr2 cr2 dr2 (fun r5 sr5 cr5 dr5 => (if r5 = none then (Q (16 : Int32) sr5 cr5 dr5) else (ob r5 (fun b6 => (ob (gI sr5 8 4 b6) (fun v7 => (Q v7 sr5 cr5 dr5)))))))))))) else (ob r2 (fun b8 => (ob (gI sr2 4 3 b8) (fun v9 => (Q v9 sr2 cr2 dr2))))))))))
set_option maxRecDepth 100000 in
set_option maxHeartbeats 4000000 in
theorem kc_Rr_ownSum (base : Nat) (sa : Nat → Nat) {R : pmM} {s : cS} {kc ks : Nat} {Rt : pmR} {p0 : Nat} {p1 : Option Nat} {Q : (Int32 → cS → Nat → Nat → Prop)} (hw : cW sa R base s) (h : C_Rr_ownSum sa p0 p1 s kc ks Q) (k : ∀ r s' kc' ks', cW sa R base s' → Q r s' kc' ks' → Rt (some (.int r)) (cM R s') kc' ks') : kP_Rr_ownSum base sa [.ref p0, va_rf p1] (cM R s) kc ks Rt := by
  refine ⟨by cases p1 <;> exact Nat.le_of_ble_eq_true rfl, fun G hG => ?_⟩
  have eL : lv_args 0 [.ref p0, va_rf p1] = [(0, va_rf (some p0)), (1, va_rf p1)] := by cases p1 <;> rfl
  rw [eL]
  refine (show KK sa R base G 0 [(0, va_rf (some p0)), (1, va_rf p1)] [] s kc ks (C_Rr_ownSum sa p0 p1 s kc ks Q) from ?_) hw h
  refine kk_aln hG (x := (some p0)) rfl rfl ?_
  refine kk_gi hG (c := 9) (k := 3) (a := p0) rfl rfl rfl rfl (fun v1 => ?_)
  refine kk_zne hG (t := 10) rfl rfl ?_ ?_
  · refine kk_aln hG (x := (some p0)) rfl rfl ?_
    refine kk_aln hG (x := p1) rfl rfl ?_
    refine kk_cx (w := va_rf) hG 0 rfl rfl (Nat.le_of_ble_eq_true rfl) (by decide) rfl (st' := []) rfl (cats_le (Nat.le_of_ble_eq_true rfl)) (fun _ hw h k => kk_rcv h.1 (kc_Rr_portOf base sa hw h.2 k)) (fun r2 sr2 cr2 dr2 => ?_)
    refine kk_asn hG (x := r2) (L' := [(2, va_rf r2), (0, va_rf (some p0)), (1, va_rf p1)]) rfl (Nat.le_of_ble_eq_true rfl) (by cases p1 <;> rfl) ?_
    refine kk_aln hG (x := r2) rfl rfl ?_
    refine kk_nul hG (x := r2) (t := 25) rfl rfl ?_ ?_
    · refine kk_aln hG (x := (some p0)) rfl rfl ?_
      refine kk_gp hG (c := 9) (k := 7) (a := p0) rfl rfl rfl rfl (fun v3 => ?_)
      refine kk_aln hG (x := p1) rfl rfl ?_
      refine kk_ob (fun b4 eb4 => ?_)
      subst eb4
      refine kk_cx (w := va_rf) hG 0 rfl rfl (Nat.le_of_ble_eq_true rfl) (by decide) rfl (st' := []) rfl (cats_le (Nat.le_of_ble_eq_true rfl)) (fun _ hw h k => kk_rcv h.1 (kc_Ta_find base sa hw h.2 k)) (fun r5 sr5 cr5 dr5 => ?_)
      refine kk_asn hG (x := r5) (L' := [(3, va_rf r5), (2, va_rf r2), (0, va_rf (some p0)), (1, va_rf p1)]) rfl (Nat.le_of_ble_eq_true rfl) (by cases r2 <;> rfl) ?_
      refine kk_aln hG (x := r5) rfl rfl ?_
      refine kk_nnl hG (x := r5) (t := 43) rfl rfl ?_ ?_
      · refine kk_aln hG (x := r5) rfl rfl ?_
        refine kk_ob (fun b6 eb6 => ?_)
        subst eb6
        refine kk_gi hG (c := 8) (k := 4) (a := b6) rfl rfl rfl rfl (fun v7 => ?_)
        exact kk_ri hG rfl rfl rfl k
      refine kk_bi hG rfl cc_b16 ?_
      refine kk_go hG (t := 47) rfl rfl ?_
      exact kk_ri hG rfl rfl rfl k
    refine kk_aln hG (x := r2) rfl rfl ?_
    refine kk_ob (fun b8 eb8 => ?_)
    subst eb8
    refine kk_gi hG (c := 4) (k := 3) (a := b8) rfl rfl rfl rfl (fun v9 => ?_)
    exact kk_ri hG rfl rfl rfl k
  refine kk_bi hG rfl cc_b16 ?_
  exact kk_ri hG rfl rfl rfl k
