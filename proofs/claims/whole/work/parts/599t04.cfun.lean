/-! Methods as weakest preconditions, by program: Pr_plainNumber .. Ch_copy -/
def C_Pr_plainNumber_s37 (sa : Nat → Nat) (p0 : Option Nat) (p2 : Int32) (a4 : Int32) (a5 : Int32) (s : cS) (kc ks : Nat) (Q : (Int32 → cS → Nat → Nat → Prop)) (P37 : (Int32 → Int32 → cS → Nat → Nat → Prop)) : Prop := if a5 < p2 then (ob p0 (fun b1 => (okO s 0 b1 ∧ C_By_at sa b1 a5 s kc ks (fun r2 sr2 cr2 dr2 => (if (r2 - (48 : Int32)) < 0 then ((Q ((-1) : Int32) sr2 cr2 dr2)) else (if (9 : Int32) < (r2 - (48 : Int32)) then ((Q ((-1) : Int32) sr2 cr2 dr2)) else ((P37 ((a4 * (10 : Int32)) + (r2 - (48 : Int32))) (a5 + (1 : Int32)) sr2 cr2 dr2)))))))) else ((Q a4 s kc ks))
def C_Pr_plainNumber_b37 (sa : Nat → Nat) (p0 : Option Nat) (p2 : Int32) (a4 : Int32) (a5 : Int32) (s : cS) (kc ks : Nat) (Q : (Int32 → cS → Nat → Nat → Prop)) : Prop := ∀ P37 : (Int32 → Int32 → cS → Nat → Nat → Prop), (∀ (a4 : Int32) (a5 : Int32) (s : cS) (kc ks : Nat), C_Pr_plainNumber_s37 sa p0 p2 a4 a5 s kc ks Q P37 → P37 a4 a5 s kc ks) → P37 a4 a5 s kc ks
def C_Pr_plainNumber_b31 (sa : Nat → Nat) (p0 : Option Nat) (p1 : Int32) (p2 : Int32) (s : cS) (kc ks : Nat) (Q : (Int32 → cS → Nat → Nat → Prop)) : Prop := (C_Pr_plainNumber_b37 sa p0 p2 (0 : Int32) p1 s kc ks Q)
def C_Pr_plainNumber (sa : Nat → Nat) (p0 : Option Nat) (p1 : Int32) (p2 : Int32) (s : cS) (kc ks : Nat) (Q : (Int32 → cS → Nat → Nat → Prop)) : Prop := if (p2 - p1) < (1 : Int32) then (Q ((-1) : Int32) s kc ks) else (if (3 : Int32) < (p2 - p1) then (Q ((-1) : Int32) s kc ks) else (if (1 : Int32) < (p2 - p1) then (ob p0 (fun b1 => (okO s 0 b1 ∧ C_By_at sa b1 p1 s kc ks (fun r2 sr2 cr2 dr2 => (if r2 = (48 : Int32) then (Q ((-1) : Int32) sr2 cr2 dr2) else ((C_Pr_plainNumber_b31 sa (some b1) p1 p2 sr2 cr2 dr2 Q))))))) else ((C_Pr_plainNumber_b31 sa p0 p1 p2 s kc ks Q))))
set_option maxRecDepth 100000 in
set_option maxHeartbeats 4000000 in
theorem kc_Pr_plainNumber (base : Nat) (sa : Nat → Nat) {R : pmM} {s : cS} {kc ks : Nat} {Rt : pmR} {p0 : Option Nat} {p1 : Int32} {p2 : Int32} {Q : (Int32 → cS → Nat → Nat → Prop)} (hw : cW sa R base s) (h : C_Pr_plainNumber sa p0 p1 p2 s kc ks Q) (k : ∀ r s' kc' ks', cW sa R base s' → Q r s' kc' ks' → Rt (some (.int r)) (cM R s') kc' ks') : kP_Pr_plainNumber base sa [va_rf p0, .int p1, .int p2] (cM R s) kc ks Rt := by
  refine ⟨by cases p0 <;> exact Nat.le_of_ble_eq_true rfl, fun G hG => ?_⟩
  have eL : lv_args 0 [va_rf p0, .int p1, .int p2] = [(0, va_rf p0), (1, .int p1), (2, .int p2)] := by cases p0 <;> rfl
  rw [eL]
  have b37 : ∀ (a4 : Int32) (a5 : Int32) (s : cS) (kc ks : Nat), KK sa R base G 37 [(0, va_rf p0), (2, .int p2), (4, .int a4), (5, .int a5)] [] s kc ks (C_Pr_plainNumber_b37 sa p0 p2 a4 a5 s kc ks Q) := by
    have H : ∀ (P37 : (Int32 → Int32 → cS → Nat → Nat → Prop)) (hP37 : ∀ (a4 : Int32) (a5 : Int32) (s : cS) (kc ks : Nat), P37 a4 a5 s kc ks → cW sa R base s → G 37 [(0, va_rf p0), (2, .int p2), (4, .int a4), (5, .int a5)] [] (cM R s) kc ks) (a4 : Int32) (a5 : Int32) (s : cS) (kc ks : Nat), KK sa R base G 37 [(0, va_rf p0), (2, .int p2), (4, .int a4), (5, .int a5)] [] s kc ks (C_Pr_plainNumber_s37 sa p0 p2 a4 a5 s kc ks Q P37) := by
      intro P37 hP37
      intro a4 a5 s kc ks
      refine kks hG rfl rfl ?_
      refine kks hG rfl rfl ?_
      refine kk_ige hG (t := 84) rfl rfl ?_ ?_
      · refine kks hG rfl rfl ?_
        exact kk_ri hG rfl rfl rfl k
      refine kk_aln hG (x := p0) rfl rfl ?_
      refine kks hG rfl rfl ?_
      refine kk_ob (fun b1 eb1 => ?_)
      subst eb1
      refine kk_cx (w := .int) hG 0 rfl rfl (Nat.le_of_ble_eq_true rfl) (by decide) rfl (st' := []) rfl (cats_le (Nat.le_of_ble_eq_true rfl)) (fun _ hw h k => kk_rcv h.1 (kc_By_at base sa hw h.2 k)) (fun r2 sr2 cr2 dr2 => ?_)
      refine kk_bi hG rfl cc_b48 ?_
      refine kks hG rfl rfl ?_
      refine kk_st hG (L' := [(6, .int (r2 - (48 : Int32))), (0, va_rf (some b1)), (2, .int p2), (4, .int a4), (5, .int a5)]) rfl rfl (Nat.le_of_ble_eq_true rfl) rfl ?_
      refine kks hG rfl rfl ?_
      refine kk_zlt hG (t := 66) rfl rfl ?_ ?_
      · refine kk_ic hG rfl cc_im1 ?_
        exact kk_ri hG rfl rfl rfl k
      refine kks hG rfl rfl ?_
      refine kk_bi hG rfl cc_b9 ?_
      refine kk_ile hG (t := 68) rfl rfl ?_ ?_
      · refine kks hG rfl rfl ?_
        refine kk_bi hG rfl cc_b10 ?_
        refine kks hG rfl rfl ?_
        refine kks hG rfl rfl ?_
        refine kks hG rfl rfl ?_
        refine kk_st hG (L' := [(4, .int ((a4 * (10 : Int32)) + (r2 - (48 : Int32)))), (6, .int (r2 - (48 : Int32))), (0, va_rf (some b1)), (2, .int p2), (5, .int a5)]) rfl rfl (Nat.le_of_ble_eq_true rfl) rfl ?_
        refine kk_inc hG (L' := [(5, .int (a5 + (1 : Int32))), (4, .int ((a4 * (10 : Int32)) + (r2 - (48 : Int32)))), (6, .int (r2 - (48 : Int32))), (0, va_rf (some b1)), (2, .int p2)]) rfl (Nat.le_of_ble_eq_true rfl) rfl cc_i1 rfl ?_
        refine kk_go hG (t := 37) rfl rfl ?_
        exact kk_wl hG [3, 4, 1, 0] rfl (fun hw h => hP37 _ _ _ _ _ h hw)
      refine kk_ic hG rfl cc_im1 ?_
      exact kk_ri hG rfl rfl rfl k
    exact fun a4 a5 s kc ks hw h => h (fun a4 a5 s kc ks => cW sa R base s → G 37 [(0, va_rf p0), (2, .int p2), (4, .int a4), (5, .int a5)] [] (cM R s) kc ks) (fun a4 a5 s kc ks hs hw => H _ (fun _ _ _ _ _ hp hw => hp hw) a4 a5 s kc ks hw hs) hw
  have b31 : ∀ (s : cS) (kc ks : Nat), KK sa R base G 31 [(0, va_rf p0), (1, .int p1), (2, .int p2)] [] s kc ks (C_Pr_plainNumber_b31 sa p0 p1 p2 s kc ks Q) := by
    intro s kc ks
    refine kk_ic hG rfl cc_i0 ?_
    refine kk_st hG (L' := [(4, .int (0 : Int32)), (0, va_rf p0), (1, .int p1), (2, .int p2)]) rfl rfl (Nat.le_of_ble_eq_true rfl) rfl ?_
    refine kks hG rfl rfl ?_
    refine kk_st hG (L' := [(5, .int p1), (4, .int (0 : Int32)), (0, va_rf p0), (1, .int p1), (2, .int p2)]) rfl rfl (Nat.le_of_ble_eq_true rfl) rfl ?_
    exact kk_wl hG [2, 4, 1, 0] rfl (b37 _ _ _ _ _)
  refine (show KK sa R base G 0 [(0, va_rf p0), (1, .int p1), (2, .int p2)] [] s kc ks (C_Pr_plainNumber sa p0 p1 p2 s kc ks Q) from ?_) hw h
  refine kks hG rfl rfl ?_
  refine kks hG rfl rfl ?_
  refine kks hG rfl rfl ?_
  refine kk_st hG (L' := [(3, .int (p2 - p1)), (0, va_rf p0), (1, .int p1), (2, .int p2)]) rfl rfl (Nat.le_of_ble_eq_true rfl) rfl ?_
  refine kks hG rfl rfl ?_
  refine kk_ic hG rfl cc_i1 ?_
  refine kk_ilt hG (t := 29) rfl rfl ?_ ?_
  · refine kk_ic hG rfl cc_im1 ?_
    exact kk_ri hG rfl rfl rfl k
  refine kks hG rfl rfl ?_
  refine kk_ic hG rfl cc_i3 ?_
  refine kk_igt hG (t := 29) rfl rfl ?_ ?_
  · refine kk_ic hG rfl cc_im1 ?_
    exact kk_ri hG rfl rfl rfl k
  refine kks hG rfl rfl ?_
  refine kk_ic hG rfl cc_i1 ?_
  refine kk_ile hG (t := 31) rfl rfl ?_ ?_
  · exact kk_wl hG [1, 2, 3] rfl (b31 _ _ _)
  refine kk_aln hG (x := p0) rfl rfl ?_
  refine kks hG rfl rfl ?_
  refine kk_ob (fun b1 eb1 => ?_)
  subst eb1
  refine kk_cx (w := .int) hG 0 rfl rfl (Nat.le_of_ble_eq_true rfl) (by decide) rfl (st' := []) rfl (cats_le (Nat.le_of_ble_eq_true rfl)) (fun _ hw h k => kk_rcv h.1 (kc_By_at base sa hw h.2 k)) (fun r2 sr2 cr2 dr2 => ?_)
  refine kk_bi hG rfl cc_b48 ?_
  refine kk_ine hG (t := 31) rfl rfl ?_ ?_
  · exact kk_wl hG [1, 2, 3] rfl (b31 _ _ _)
  refine kk_ic hG rfl cc_im1 ?_
  exact kk_ri hG rfl rfl rfl k
def C_Pr_parseFour_b91 (sa : Nat → Nat) (p0 : Nat) (p1 : Option Nat) (p3 : Int32) (a4 : Int64) (a7 : Int32) (a8 : Int32) (a9 : Int32) (s : cS) (kc ks : Nat) (Q : (Int32 → cS → Nat → Nat → Prop)) (P9 : (Int64 → Int32 → Int32 → cS → Nat → Nat → Prop)) : Prop := (P9 ((a4 <<< ((Int32.toInt64 (8 : Int32)) &&& 63)) ||| (Int32.toInt64 a9)) (a8 + (1 : Int32)) (a7 + (1 : Int32)) s kc ks)
def C_Pr_parseFour_b77 (sa : Nat → Nat) (p0 : Nat) (p1 : Option Nat) (p3 : Int32) (a4 : Int64) (a7 : Int32) (a8 : Int32) (a9 : Int32) (s : cS) (kc ks : Nat) (Q : (Int32 → cS → Nat → Nat → Prop)) (P9 : (Int64 → Int32 → Int32 → cS → Nat → Nat → Prop)) : Prop := if a7 = (3 : Int32) then (if a8 < p3 then ((Q (0 : Int32) s kc ks)) else ((C_Pr_parseFour_b91 sa p0 p1 p3 a4 a7 a8 a9 s kc ks Q P9))) else ((C_Pr_parseFour_b91 sa p0 p1 p3 a4 a7 a8 a9 s kc ks Q P9))
def C_Pr_parseFour_b42 (sa : Nat → Nat) (p0 : Nat) (p1 : Option Nat) (p3 : Int32) (a4 : Int64) (a6 : Int32) (a7 : Int32) (a8 : Int32) (s : cS) (kc ks : Nat) (Q : (Int32 → cS → Nat → Nat → Prop)) (P9 : (Int64 → Int32 → Int32 → cS → Nat → Nat → Prop)) : Prop := C_Pr_plainNumber sa p1 a6 a8 s kc ks (fun r1 sr1 cr1 dr1 => (if r1 < 0 then ((Q (0 : Int32) sr1 cr1 dr1)) else (if (255 : Int32) < r1 then ((Q (0 : Int32) sr1 cr1 dr1)) else (if a7 < (3 : Int32) then (if a8 = p3 then ((Q (0 : Int32) sr1 cr1 dr1)) else ((C_Pr_parseFour_b77 sa p0 p1 p3 a4 a7 a8 r1 sr1 cr1 dr1 Q P9))) else ((C_Pr_parseFour_b77 sa p0 p1 p3 a4 a7 a8 r1 sr1 cr1 dr1 Q P9))))))
def C_Pr_parseFour_s19 (sa : Nat → Nat) (p0 : Nat) (p1 : Option Nat) (p3 : Int32) (a4 : Int64) (a6 : Int32) (a7 : Int32) (a8 : Int32) (s : cS) (kc ks : Nat) (Q : (Int32 → cS → Nat → Nat → Prop)) (P9 : (Int64 → Int32 → Int32 → cS → Nat → Nat → Prop)) (P19 : (Int32 → cS → Nat → Nat → Prop)) : Prop := if a8 < p3 then (ob p1 (fun b1 => (okO s 0 b1 ∧ C_By_at sa b1 a8 s kc ks (fun r2 sr2 cr2 dr2 => (if r2 = (46 : Int32) then ((C_Pr_parseFour_b42 sa p0 (some b1) p3 a4 a6 a7 a8 sr2 cr2 dr2 Q P9)) else ((P19 (a8 + (1 : Int32)) sr2 cr2 dr2))))))) else ((C_Pr_parseFour_b42 sa p0 p1 p3 a4 a6 a7 a8 s kc ks Q P9))
def C_Pr_parseFour_b19 (sa : Nat → Nat) (p0 : Nat) (p1 : Option Nat) (p3 : Int32) (a4 : Int64) (a6 : Int32) (a7 : Int32) (a8 : Int32) (s : cS) (kc ks : Nat) (Q : (Int32 → cS → Nat → Nat → Prop)) (P9 : (Int64 → Int32 → Int32 → cS → Nat → Nat → Prop)) : Prop := ∀ P19 : (Int32 → cS → Nat → Nat → Prop), (∀ (a8 : Int32) (s : cS) (kc ks : Nat), C_Pr_parseFour_s19 sa p0 p1 p3 a4 a6 a7 a8 s kc ks Q P9 P19 → P19 a8 s kc ks) → P19 a8 s kc ks
def C_Pr_parseFour_s9 (sa : Nat → Nat) (p0 : Nat) (p1 : Option Nat) (p3 : Int32) (a4 : Int64) (a6 : Int32) (a7 : Int32) (s : cS) (kc ks : Nat) (Q : (Int32 → cS → Nat → Nat → Prop)) (P9 : (Int64 → Int32 → Int32 → cS → Nat → Nat → Prop)) : Prop := if a7 < (4 : Int32) then ((C_Pr_parseFour_b19 sa p0 p1 p3 a4 a6 a7 a6 s kc ks Q P9)) else ((okO s 5 p0 ∧ C_Pr_setZero sa p0 (4 : Int32) (32 : Int32) s kc ks (fun sr1 cr1 dr1 => (ob (pJ sr1 5 1 p0 (a4 <<< ((Int32.toInt64 (32 : Int32)) &&& 63))) (fun s2 => (Q (1 : Int32) s2 cr1 dr1))))))
def C_Pr_parseFour_b9 (sa : Nat → Nat) (p0 : Nat) (p1 : Option Nat) (p3 : Int32) (a4 : Int64) (a6 : Int32) (a7 : Int32) (s : cS) (kc ks : Nat) (Q : (Int32 → cS → Nat → Nat → Prop)) : Prop := ∀ P9 : (Int64 → Int32 → Int32 → cS → Nat → Nat → Prop), (∀ (a4 : Int64) (a6 : Int32) (a7 : Int32) (s : cS) (kc ks : Nat), C_Pr_parseFour_s9 sa p0 p1 p3 a4 a6 a7 s kc ks Q P9 → P9 a4 a6 a7 s kc ks) → P9 a4 a6 a7 s kc ks
def C_Pr_parseFour (sa : Nat → Nat) (p0 : Nat) (p1 : Option Nat) (p2 : Int32) (p3 : Int32) (s : cS) (kc ks : Nat) (Q : (Int32 → cS → Nat → Nat → Prop)) : Prop := (C_Pr_parseFour_b9 sa p0 p1 p3 (0 : Int64) p2 (0 : Int32) s kc ks Q)
set_option maxRecDepth 100000 in
set_option maxHeartbeats 4000000 in
theorem kc_Pr_parseFour (base : Nat) (sa : Nat → Nat) {R : pmM} {s : cS} {kc ks : Nat} {Rt : pmR} {p0 : Nat} {p1 : Option Nat} {p2 : Int32} {p3 : Int32} {Q : (Int32 → cS → Nat → Nat → Prop)} (hw : cW sa R base s) (h : C_Pr_parseFour sa p0 p1 p2 p3 s kc ks Q) (k : ∀ r s' kc' ks', cW sa R base s' → Q r s' kc' ks' → Rt (some (.int r)) (cM R s') kc' ks') : kP_Pr_parseFour base sa [.ref p0, va_rf p1, .int p2, .int p3] (cM R s) kc ks Rt := by
  refine ⟨by cases p1 <;> exact Nat.le_of_ble_eq_true rfl, fun G hG => ?_⟩
  have eL : lv_args 0 [.ref p0, va_rf p1, .int p2, .int p3] = [(0, va_rf (some p0)), (1, va_rf p1), (2, .int p2), (3, .int p3)] := by cases p1 <;> rfl
  rw [eL]
  have b9 : ∀ (a4 : Int64) (a6 : Int32) (a7 : Int32) (s : cS) (kc ks : Nat), KK sa R base G 9 [(0, va_rf (some p0)), (1, va_rf p1), (3, .int p3), (4, .long a4), (6, .int a6), (7, .int a7)] [] s kc ks (C_Pr_parseFour_b9 sa p0 p1 p3 a4 a6 a7 s kc ks Q) := by
    have H : ∀ (P9 : (Int64 → Int32 → Int32 → cS → Nat → Nat → Prop)) (hP9 : ∀ (a4 : Int64) (a6 : Int32) (a7 : Int32) (s : cS) (kc ks : Nat), P9 a4 a6 a7 s kc ks → cW sa R base s → G 9 [(0, va_rf (some p0)), (1, va_rf p1), (3, .int p3), (4, .long a4), (6, .int a6), (7, .int a7)] [] (cM R s) kc ks) (a4 : Int64) (a6 : Int32) (a7 : Int32) (s : cS) (kc ks : Nat), KK sa R base G 9 [(0, va_rf (some p0)), (1, va_rf p1), (3, .int p3), (4, .long a4), (6, .int a6), (7, .int a7)] [] s kc ks (C_Pr_parseFour_s9 sa p0 p1 p3 a4 a6 a7 s kc ks Q P9) := by
      intro P9 hP9
      have b91 : ∀ (a4 : Int64) (a7 : Int32) (a8 : Int32) (a9 : Int32) (s : cS) (kc ks : Nat), KK sa R base G 91 [(0, va_rf (some p0)), (1, va_rf p1), (3, .int p3), (4, .long a4), (7, .int a7), (8, .int a8), (9, .int a9)] [] s kc ks (C_Pr_parseFour_b91 sa p0 p1 p3 a4 a7 a8 a9 s kc ks Q P9) := by
        intro a4 a7 a8 a9 s kc ks
        refine kks hG rfl rfl ?_
        refine kk_bi hG rfl cc_b8 ?_
        refine kks hG rfl rfl ?_
        refine kks hG rfl rfl ?_
        refine kks hG rfl rfl ?_
        refine kks hG rfl rfl ?_
        refine kk_st hG (L' := [(4, .long ((a4 <<< ((Int32.toInt64 (8 : Int32)) &&& 63)) ||| (Int32.toInt64 a9))), (0, va_rf (some p0)), (1, va_rf p1), (3, .int p3), (7, .int a7), (8, .int a8), (9, .int a9)]) rfl rfl (Nat.le_of_ble_eq_true rfl) rfl ?_
        refine kks hG rfl rfl ?_
        refine kk_ic hG rfl cc_i1 ?_
        refine kks hG rfl rfl ?_
        refine kk_st hG (L' := [(6, .int (a8 + (1 : Int32))), (4, .long ((a4 <<< ((Int32.toInt64 (8 : Int32)) &&& 63)) ||| (Int32.toInt64 a9))), (0, va_rf (some p0)), (1, va_rf p1), (3, .int p3), (7, .int a7), (8, .int a8), (9, .int a9)]) rfl rfl (Nat.le_of_ble_eq_true rfl) rfl ?_
        refine kk_inc hG (L' := [(7, .int (a7 + (1 : Int32))), (6, .int (a8 + (1 : Int32))), (4, .long ((a4 <<< ((Int32.toInt64 (8 : Int32)) &&& 63)) ||| (Int32.toInt64 a9))), (0, va_rf (some p0)), (1, va_rf p1), (3, .int p3), (8, .int a8), (9, .int a9)]) rfl (Nat.le_of_ble_eq_true rfl) rfl cc_i1 rfl ?_
        refine kk_at (pc' := 111) rfl ?_
        refine kk_go hG (t := 9) rfl rfl ?_
        exact kk_wl hG [3, 4, 5, 2, 1, 0] rfl (fun hw h => hP9 _ _ _ _ _ _ h hw)
      have b77 : ∀ (a4 : Int64) (a7 : Int32) (a8 : Int32) (a9 : Int32) (s : cS) (kc ks : Nat), KK sa R base G 77 [(0, va_rf (some p0)), (1, va_rf p1), (3, .int p3), (4, .long a4), (7, .int a7), (8, .int a8), (9, .int a9)] [] s kc ks (C_Pr_parseFour_b77 sa p0 p1 p3 a4 a7 a8 a9 s kc ks Q P9) := by
        intro a4 a7 a8 a9 s kc ks
        refine kks hG rfl rfl ?_
        refine kk_ic hG rfl cc_i3 ?_
        refine kk_ine hG (t := 91) rfl rfl ?_ ?_
        · exact kk_wl hG [0, 1, 2, 3, 4, 5, 6] rfl (b91 _ _ _ _ _ _ _)
        refine kks hG rfl rfl ?_
        refine kks hG rfl rfl ?_
        refine kk_ige hG (t := 91) rfl rfl ?_ ?_
        · exact kk_wl hG [0, 1, 2, 3, 4, 5, 6] rfl (b91 _ _ _ _ _ _ _)
        refine kk_ic hG rfl cc_i0 ?_
        exact kk_ri hG rfl rfl rfl k
      have b42 : ∀ (a4 : Int64) (a6 : Int32) (a7 : Int32) (a8 : Int32) (s : cS) (kc ks : Nat), KK sa R base G 42 [(0, va_rf (some p0)), (1, va_rf p1), (3, .int p3), (4, .long a4), (6, .int a6), (7, .int a7), (8, .int a8)] [] s kc ks (C_Pr_parseFour_b42 sa p0 p1 p3 a4 a6 a7 a8 s kc ks Q P9) := by
        intro a4 a6 a7 a8 s kc ks
        refine kk_aln hG (x := p1) rfl rfl ?_
        refine kks hG rfl rfl ?_
        refine kks hG rfl rfl ?_
        refine kk_cx (w := .int) hG 2 rfl rfl (Nat.le_of_ble_eq_true rfl) (by decide) rfl (st' := []) rfl (cats_le (Nat.le_of_ble_eq_true rfl)) (fun _ hw h k => kc_Pr_plainNumber base sa hw h k) (fun r1 sr1 cr1 dr1 => ?_)
        refine kk_st hG (L' := [(9, .int r1), (0, va_rf (some p0)), (1, va_rf p1), (3, .int p3), (4, .long a4), (6, .int a6), (7, .int a7), (8, .int a8)]) rfl rfl (Nat.le_of_ble_eq_true rfl) rfl ?_
        refine kks hG rfl rfl ?_
        refine kk_zlt hG (t := 89) rfl rfl ?_ ?_
        · refine kk_ic hG rfl cc_i0 ?_
          exact kk_ri hG rfl rfl rfl k
        refine kks hG rfl rfl ?_
        refine kk_si hG rfl cc_s255 ?_
        refine kk_igt hG (t := 89) rfl rfl ?_ ?_
        · refine kk_ic hG rfl cc_i0 ?_
          exact kk_ri hG rfl rfl rfl k
        refine kks hG rfl rfl ?_
        refine kk_ic hG rfl cc_i3 ?_
        refine kk_ige hG (t := 77) rfl rfl ?_ ?_
        · exact kk_wl hG [1, 2, 3, 4, 6, 7, 0] rfl (b77 _ _ _ _ _ _ _)
        refine kks hG rfl rfl ?_
        refine kks hG rfl rfl ?_
        refine kk_ieq hG (t := 89) rfl rfl ?_ ?_
        · refine kk_ic hG rfl cc_i0 ?_
          exact kk_ri hG rfl rfl rfl k
        exact kk_wl hG [1, 2, 3, 4, 6, 7, 0] rfl (b77 _ _ _ _ _ _ _)
      have b19 : ∀ (a4 : Int64) (a6 : Int32) (a7 : Int32) (a8 : Int32) (s : cS) (kc ks : Nat), KK sa R base G 19 [(0, va_rf (some p0)), (1, va_rf p1), (3, .int p3), (4, .long a4), (6, .int a6), (7, .int a7), (8, .int a8)] [] s kc ks (C_Pr_parseFour_b19 sa p0 p1 p3 a4 a6 a7 a8 s kc ks Q P9) := by
        intro a4 a6 a7
        have H : ∀ (P19 : (Int32 → cS → Nat → Nat → Prop)) (hP19 : ∀ (a8 : Int32) (s : cS) (kc ks : Nat), P19 a8 s kc ks → cW sa R base s → G 19 [(0, va_rf (some p0)), (1, va_rf p1), (3, .int p3), (4, .long a4), (6, .int a6), (7, .int a7), (8, .int a8)] [] (cM R s) kc ks) (a8 : Int32) (s : cS) (kc ks : Nat), KK sa R base G 19 [(0, va_rf (some p0)), (1, va_rf p1), (3, .int p3), (4, .long a4), (6, .int a6), (7, .int a7), (8, .int a8)] [] s kc ks (C_Pr_parseFour_s19 sa p0 p1 p3 a4 a6 a7 a8 s kc ks Q P9 P19) := by
          intro P19 hP19
          intro a8 s kc ks
          refine kks hG rfl rfl ?_
          refine kks hG rfl rfl ?_
          refine kk_ige hG (t := 42) rfl rfl ?_ ?_
          · exact kk_wl hG [0, 1, 2, 3, 4, 5, 6] rfl (b42 _ _ _ _ _ _ _)
          refine kk_aln hG (x := p1) rfl rfl ?_
          refine kks hG rfl rfl ?_
          refine kk_ob (fun b1 eb1 => ?_)
          subst eb1
          refine kk_cx (w := .int) hG 0 rfl rfl (Nat.le_of_ble_eq_true rfl) (by decide) rfl (st' := []) rfl (cats_le (Nat.le_of_ble_eq_true rfl)) (fun _ hw h k => kk_rcv h.1 (kc_By_at base sa hw h.2 k)) (fun r2 sr2 cr2 dr2 => ?_)
          refine kk_bi hG rfl cc_b46 ?_
          refine kk_ieq hG (t := 42) rfl rfl ?_ ?_
          · exact kk_wl hG [0, 1, 2, 3, 4, 5, 6] rfl (b42 _ _ _ _ _ _ _)
          refine kk_inc hG (L' := [(8, .int (a8 + (1 : Int32))), (0, va_rf (some p0)), (1, va_rf (some b1)), (3, .int p3), (4, .long a4), (6, .int a6), (7, .int a7)]) rfl (Nat.le_of_ble_eq_true rfl) rfl cc_i1 rfl ?_
          refine kk_go hG (t := 19) rfl rfl ?_
          exact kk_wl hG [1, 2, 3, 4, 5, 6, 0] rfl (fun hw h => hP19 _ _ _ _ h hw)
        exact fun a8 s kc ks hw h => h (fun a8 s kc ks => cW sa R base s → G 19 [(0, va_rf (some p0)), (1, va_rf p1), (3, .int p3), (4, .long a4), (6, .int a6), (7, .int a7), (8, .int a8)] [] (cM R s) kc ks) (fun a8 s kc ks hs hw => H _ (fun _ _ _ _ hp hw => hp hw) a8 s kc ks hw hs) hw
      intro a4 a6 a7 s kc ks
      refine kks hG rfl rfl ?_
      refine kk_ic hG rfl cc_i4 ?_
      refine kk_ige hG (t := 114) rfl rfl ?_ ?_
      · refine kk_aln hG (x := (some p0)) rfl rfl ?_
        refine kk_ic hG rfl cc_i4 ?_
        refine kk_bi hG rfl cc_b32 ?_
        refine kk_cv hG 0 rfl rfl (Nat.le_of_ble_eq_true rfl) (by decide) rfl (st' := []) rfl (cats_le (Nat.le_of_ble_eq_true rfl)) (fun _ hw h k => kk_rcv h.1 (kc_Pr_setZero base sa hw h.2 k)) (fun sr1 cr1 dr1 => ?_)
        refine kk_aln hG (x := (some p0)) rfl rfl ?_
        refine kks hG rfl rfl ?_
        refine kk_bi hG rfl cc_b32 ?_
        refine kks hG rfl rfl ?_
        refine kk_pj hG (c := 5) (k := 1) (a := p0) rfl rfl rfl rfl (fun s2 => ?_)
        refine kk_ic hG rfl cc_i1 ?_
        exact kk_ri hG rfl rfl rfl k
      refine kks hG rfl rfl ?_
      refine kk_st hG (L' := [(8, .int a6), (0, va_rf (some p0)), (1, va_rf p1), (3, .int p3), (4, .long a4), (6, .int a6), (7, .int a7)]) rfl rfl (Nat.le_of_ble_eq_true rfl) rfl ?_
      exact kk_wl hG [1, 2, 3, 4, 5, 6, 0] rfl (b19 _ _ _ _ _ _ _)
    exact fun a4 a6 a7 s kc ks hw h => h (fun a4 a6 a7 s kc ks => cW sa R base s → G 9 [(0, va_rf (some p0)), (1, va_rf p1), (3, .int p3), (4, .long a4), (6, .int a6), (7, .int a7)] [] (cM R s) kc ks) (fun a4 a6 a7 s kc ks hs hw => H _ (fun _ _ _ _ _ _ hp hw => hp hw) a4 a6 a7 s kc ks hw hs) hw
  refine (show KK sa R base G 0 [(0, va_rf (some p0)), (1, va_rf p1), (2, .int p2), (3, .int p3)] [] s kc ks (C_Pr_parseFour sa p0 p1 p2 p3 s kc ks Q) from ?_) hw h
  refine kk_lc hG (c := 0) (v := 0) rfl rfl ?_
  refine kk_st hG (L' := [(4, .long (0 : Int64)), (0, va_rf (some p0)), (1, va_rf p1), (2, .int p2), (3, .int p3)]) rfl rfl (Nat.le_of_ble_eq_true rfl) rfl ?_
  refine kks hG rfl rfl ?_
  refine kk_st hG (L' := [(6, .int p2), (4, .long (0 : Int64)), (0, va_rf (some p0)), (1, va_rf p1), (2, .int p2), (3, .int p3)]) rfl rfl (Nat.le_of_ble_eq_true rfl) rfl ?_
  refine kk_ic hG rfl cc_i0 ?_
  refine kk_st hG (L' := [(7, .int (0 : Int32)), (6, .int p2), (4, .long (0 : Int64)), (0, va_rf (some p0)), (1, va_rf p1), (2, .int p2), (3, .int p3)]) rfl rfl (Nat.le_of_ble_eq_true rfl) rfl ?_
  exact kk_wl hG [3, 4, 6, 2, 1, 0] rfl (b9 _ _ _ _ _ _)
def C_Pr_parseAddress_s3 (sa : Nat → Nat) (p0 : Nat) (p1 : Option Nat) (p2 : Int32) (p3 : Int32) (a4 : Int32) (s : cS) (kc ks : Nat) (Q : (Int32 → cS → Nat → Nat → Prop)) (P3 : (Int32 → cS → Nat → Nat → Prop)) : Prop := if a4 < p3 then (ob p1 (fun b2 => (okO s 0 b2 ∧ C_By_at sa b2 a4 s kc ks (fun r3 sr3 cr3 dr3 => (if r3 = (58 : Int32) then ((okO sr3 5 p0 ∧ C_Pr_parseSix sa p0 (some b2) p2 p3 sr3 cr3 dr3 (fun r4 sr4 cr4 dr4 => ((r4 = 0 ∨ r4 = 1) ∧ Q r4 sr4 cr4 dr4)))) else ((P3 (a4 + (1 : Int32)) sr3 cr3 dr3))))))) else ((okO s 5 p0 ∧ C_Pr_parseFour sa p0 p1 p2 p3 s kc ks (fun r1 sr1 cr1 dr1 => ((r1 = 0 ∨ r1 = 1) ∧ Q r1 sr1 cr1 dr1))))
def C_Pr_parseAddress_b3 (sa : Nat → Nat) (p0 : Nat) (p1 : Option Nat) (p2 : Int32) (p3 : Int32) (a4 : Int32) (s : cS) (kc ks : Nat) (Q : (Int32 → cS → Nat → Nat → Prop)) : Prop := ∀ P3 : (Int32 → cS → Nat → Nat → Prop), (∀ (a4 : Int32) (s : cS) (kc ks : Nat), C_Pr_parseAddress_s3 sa p0 p1 p2 p3 a4 s kc ks Q P3 → P3 a4 s kc ks) → P3 a4 s kc ks
def C_Pr_parseAddress (sa : Nat → Nat) (p0 : Nat) (p1 : Option Nat) (p2 : Int32) (p3 : Int32) (s : cS) (kc ks : Nat) (Q : (Int32 → cS → Nat → Nat → Prop)) : Prop := (C_Pr_parseAddress_b3 sa p0 p1 p2 p3 p2 s kc ks Q)
set_option maxRecDepth 100000 in
set_option maxHeartbeats 4000000 in
theorem kc_Pr_parseAddress (base : Nat) (sa : Nat → Nat) {R : pmM} {s : cS} {kc ks : Nat} {Rt : pmR} {p0 : Nat} {p1 : Option Nat} {p2 : Int32} {p3 : Int32} {Q : (Int32 → cS → Nat → Nat → Prop)} (hw : cW sa R base s) (h : C_Pr_parseAddress sa p0 p1 p2 p3 s kc ks Q) (k : ∀ r s' kc' ks', cW sa R base s' → Q r s' kc' ks' → Rt (some (.int r)) (cM R s') kc' ks') : kP_Pr_parseAddress base sa [.ref p0, va_rf p1, .int p2, .int p3] (cM R s) kc ks Rt := by
  refine ⟨by cases p1 <;> exact Nat.le_of_ble_eq_true rfl, fun G hG => ?_⟩
  have eL : lv_args 0 [.ref p0, va_rf p1, .int p2, .int p3] = [(0, va_rf (some p0)), (1, va_rf p1), (2, .int p2), (3, .int p3)] := by cases p1 <;> rfl
  rw [eL]
  have b3 : ∀ (a4 : Int32) (s : cS) (kc ks : Nat), KK sa R base G 3 [(0, va_rf (some p0)), (1, va_rf p1), (2, .int p2), (3, .int p3), (4, .int a4)] [] s kc ks (C_Pr_parseAddress_b3 sa p0 p1 p2 p3 a4 s kc ks Q) := by
    have H : ∀ (P3 : (Int32 → cS → Nat → Nat → Prop)) (hP3 : ∀ (a4 : Int32) (s : cS) (kc ks : Nat), P3 a4 s kc ks → cW sa R base s → G 3 [(0, va_rf (some p0)), (1, va_rf p1), (2, .int p2), (3, .int p3), (4, .int a4)] [] (cM R s) kc ks) (a4 : Int32) (s : cS) (kc ks : Nat), KK sa R base G 3 [(0, va_rf (some p0)), (1, va_rf p1), (2, .int p2), (3, .int p3), (4, .int a4)] [] s kc ks (C_Pr_parseAddress_s3 sa p0 p1 p2 p3 a4 s kc ks Q P3) := by
      intro P3 hP3
      intro a4 s kc ks
      refine kks hG rfl rfl ?_
      refine kks hG rfl rfl ?_
      refine kk_ige hG (t := 34) rfl rfl ?_ ?_
      · refine kk_aln hG (x := (some p0)) rfl rfl ?_
        refine kk_aln hG (x := p1) rfl rfl ?_
        refine kks hG rfl rfl ?_
        refine kks hG rfl rfl ?_
        refine kk_cx (w := .int) hG 0 rfl rfl (Nat.le_of_ble_eq_true rfl) (by decide) rfl (st' := []) rfl (cats_le (Nat.le_of_ble_eq_true rfl)) (fun _ hw h k => kk_rcv h.1 (kc_Pr_parseFour base sa hw h.2 k)) (fun r1 sr1 cr1 dr1 => ?_)
        exact kk_rz hG rfl rfl k
      refine kk_aln hG (x := p1) rfl rfl ?_
      refine kks hG rfl rfl ?_
      refine kk_ob (fun b2 eb2 => ?_)
      subst eb2
      refine kk_cx (w := .int) hG 0 rfl rfl (Nat.le_of_ble_eq_true rfl) (by decide) rfl (st' := []) rfl (cats_le (Nat.le_of_ble_eq_true rfl)) (fun _ hw h k => kk_rcv h.1 (kc_By_at base sa hw h.2 k)) (fun r3 sr3 cr3 dr3 => ?_)
      refine kk_bi hG rfl cc_b58 ?_
      refine kk_ine hG (t := 28) rfl rfl ?_ ?_
      · refine kk_inc hG (L' := [(4, .int (a4 + (1 : Int32))), (0, va_rf (some p0)), (1, va_rf (some b2)), (2, .int p2), (3, .int p3)]) rfl (Nat.le_of_ble_eq_true rfl) rfl cc_i1 rfl ?_
        refine kk_go hG (t := 3) rfl rfl ?_
        exact kk_wl hG [1, 2, 3, 4, 0] rfl (fun hw h => hP3 _ _ _ _ h hw)
      refine kk_aln hG (x := (some p0)) rfl rfl ?_
      refine kk_aln hG (x := (some b2)) rfl rfl ?_
      refine kks hG rfl rfl ?_
      refine kks hG rfl rfl ?_
      refine kk_cx (w := .int) hG 0 rfl rfl (Nat.le_of_ble_eq_true rfl) (by decide) rfl (st' := []) rfl (cats_le (Nat.le_of_ble_eq_true rfl)) (fun _ hw h k => kk_rcv h.1 (kc_Pr_parseSix base sa hw h.2 k)) (fun r4 sr4 cr4 dr4 => ?_)
      exact kk_rz hG rfl rfl k
    exact fun a4 s kc ks hw h => h (fun a4 s kc ks => cW sa R base s → G 3 [(0, va_rf (some p0)), (1, va_rf p1), (2, .int p2), (3, .int p3), (4, .int a4)] [] (cM R s) kc ks) (fun a4 s kc ks hs hw => H _ (fun _ _ _ _ hp hw => hp hw) a4 s kc ks hw hs) hw
  refine (show KK sa R base G 0 [(0, va_rf (some p0)), (1, va_rf p1), (2, .int p2), (3, .int p3)] [] s kc ks (C_Pr_parseAddress sa p0 p1 p2 p3 s kc ks Q) from ?_) hw h
  refine kks hG rfl rfl ?_
  refine kk_st hG (L' := [(4, .int p2), (0, va_rf (some p0)), (1, va_rf p1), (2, .int p2), (3, .int p3)]) rfl rfl (Nat.le_of_ble_eq_true rfl) rfl ?_
  exact kk_wl hG [1, 2, 3, 4, 0] rfl (b3 _ _ _ _)
def C_Pr_bitsOf (sa : Nat → Nat) (p0 : Int32) (s : cS) (kc ks : Nat) (Q : (Int32 → cS → Nat → Nat → Prop)) : Prop := if p0 = (4 : Int32) then (Q (32 : Int32) s kc ks) else (Q (128 : Int32) s kc ks)
set_option maxRecDepth 100000 in
set_option maxHeartbeats 4000000 in
theorem kc_Pr_bitsOf (base : Nat) (sa : Nat → Nat) {R : pmM} {s : cS} {kc ks : Nat} {Rt : pmR} {p0 : Int32} {Q : (Int32 → cS → Nat → Nat → Prop)} (hw : cW sa R base s) (h : C_Pr_bitsOf sa p0 s kc ks Q) (k : ∀ r s' kc' ks', cW sa R base s' → Q r s' kc' ks' → Rt (some (.int r)) (cM R s') kc' ks') : kP_Pr_bitsOf base sa [.int p0] (cM R s) kc ks Rt := by
  refine ⟨Nat.le_of_ble_eq_true rfl, fun G hG => ?_⟩
  refine (show KK sa R base G 0 [(0, .int p0)] [] s kc ks (C_Pr_bitsOf sa p0 s kc ks Q) from ?_) hw h
  refine kks hG rfl rfl ?_
  refine kk_ic hG rfl cc_i4 ?_
  refine kk_ine hG (t := 10) rfl rfl ?_ ?_
  · refine kk_si hG rfl cc_s128 ?_
    exact kk_ri hG rfl rfl rfl k
  refine kk_bi hG rfl cc_b32 ?_
  refine kk_go hG (t := 13) rfl rfl ?_
  exact kk_ri hG rfl rfl rfl k
def C_Pr_parseLength (sa : Nat → Nat) (p0 : Nat) (p1 : Option Nat) (p2 : Int32) (p3 : Int32) (s : cS) (kc ks : Nat) (Q : (Int32 → cS → Nat → Nat → Prop)) : Prop := C_Pr_plainNumber sa p1 p2 p3 s kc ks (fun r1 sr1 cr1 dr1 => (if r1 < 0 then (Q (0 : Int32) sr1 cr1 dr1) else (ob (gI sr1 5 0 p0) (fun v2 => (C_Pr_bitsOf sa v2 sr1 cr1 dr1 (fun r3 sr3 cr3 dr3 => (if r3 < r1 then (Q (0 : Int32) sr3 cr3 dr3) else (ob (pI sr3 5 3 p0 r1) (fun s4 => (Q (1 : Int32) s4 cr3 dr3))))))))))
set_option maxRecDepth 100000 in
set_option maxHeartbeats 4000000 in
theorem kc_Pr_parseLength (base : Nat) (sa : Nat → Nat) {R : pmM} {s : cS} {kc ks : Nat} {Rt : pmR} {p0 : Nat} {p1 : Option Nat} {p2 : Int32} {p3 : Int32} {Q : (Int32 → cS → Nat → Nat → Prop)} (hw : cW sa R base s) (h : C_Pr_parseLength sa p0 p1 p2 p3 s kc ks Q) (k : ∀ r s' kc' ks', cW sa R base s' → Q r s' kc' ks' → Rt (some (.int r)) (cM R s') kc' ks') : kP_Pr_parseLength base sa [.ref p0, va_rf p1, .int p2, .int p3] (cM R s) kc ks Rt := by
  refine ⟨by cases p1 <;> exact Nat.le_of_ble_eq_true rfl, fun G hG => ?_⟩
  have eL : lv_args 0 [.ref p0, va_rf p1, .int p2, .int p3] = [(0, va_rf (some p0)), (1, va_rf p1), (2, .int p2), (3, .int p3)] := by cases p1 <;> rfl
  rw [eL]
  refine (show KK sa R base G 0 [(0, va_rf (some p0)), (1, va_rf p1), (2, .int p2), (3, .int p3)] [] s kc ks (C_Pr_parseLength sa p0 p1 p2 p3 s kc ks Q) from ?_) hw h
  refine kk_aln hG (x := p1) rfl rfl ?_
  refine kks hG rfl rfl ?_
  refine kks hG rfl rfl ?_
  refine kk_cx (w := .int) hG 2 rfl rfl (Nat.le_of_ble_eq_true rfl) (by decide) rfl (st' := []) rfl (cats_le (Nat.le_of_ble_eq_true rfl)) (fun _ hw h k => kc_Pr_plainNumber base sa hw h k) (fun r1 sr1 cr1 dr1 => ?_)
  refine kk_st hG (L' := [(4, .int r1), (0, va_rf (some p0)), (1, va_rf p1), (2, .int p2), (3, .int p3)]) rfl rfl (Nat.le_of_ble_eq_true rfl) rfl ?_
  refine kks hG rfl rfl ?_
  refine kk_zlt hG (t := 25) rfl rfl ?_ ?_
  · refine kk_ic hG rfl cc_i0 ?_
    exact kk_ri hG rfl rfl rfl k
  refine kks hG rfl rfl ?_
  refine kk_aln hG (x := (some p0)) rfl rfl ?_
  refine kk_gi hG (c := 5) (k := 0) (a := p0) rfl rfl rfl rfl (fun v2 => ?_)
  refine kk_cx (w := .int) hG 2 rfl rfl (Nat.le_of_ble_eq_true rfl) (by decide) rfl (st' := [.int r1]) rfl (cats_le (Nat.le_of_ble_eq_true rfl)) (fun _ hw h k => kc_Pr_bitsOf base sa hw h k) (fun r3 sr3 cr3 dr3 => ?_)
  refine kk_ile hG (t := 27) rfl rfl ?_ ?_
  · refine kk_aln hG (x := (some p0)) rfl rfl ?_
    refine kks hG rfl rfl ?_
    refine kk_pi hG (c := 5) (k := 3) (a := p0) rfl rfl rfl rfl (fun s4 => ?_)
    refine kk_ic hG rfl cc_i1 ?_
    exact kk_ri hG rfl rfl rfl k
  refine kk_ic hG rfl cc_i0 ?_
  exact kk_ri hG rfl rfl rfl k
def C_Pr_hasBitsBehind (sa : Nat → Nat) (p0 : Nat) (s : cS) (kc ks : Nat) (Q : (Int32 → cS → Nat → Nat → Prop)) : Prop := ob (gJ s 5 1 p0) (fun v1 => (ob (gI s 5 3 p0) (fun v2 => (C_Pr_maskHigh sa v2 s kc ks (fun r3 sr3 cr3 dr3 => (if (v1 &&& (r3 ^^^ ((-1) : Int64))) = (0 : Int64) then (ob (gJ sr3 5 2 p0) (fun v4 => (ob (gI sr3 5 3 p0) (fun v5 => (C_Pr_maskLow sa v5 sr3 cr3 dr3 (fun r6 sr6 cr6 dr6 => (if (v4 &&& (r6 ^^^ ((-1) : Int64))) = (0 : Int64) then (Q (0 : Int32) sr6 cr6 dr6) else (Q (1 : Int32) sr6 cr6 dr6)))))))) else (Q (1 : Int32) sr3 cr3 dr3)))))))
set_option maxRecDepth 100000 in
set_option maxHeartbeats 4000000 in
theorem kc_Pr_hasBitsBehind (base : Nat) (sa : Nat → Nat) {R : pmM} {s : cS} {kc ks : Nat} {Rt : pmR} {p0 : Nat} {Q : (Int32 → cS → Nat → Nat → Prop)} (hw : cW sa R base s) (h : C_Pr_hasBitsBehind sa p0 s kc ks Q) (k : ∀ r s' kc' ks', cW sa R base s' → Q r s' kc' ks' → Rt (some (.int r)) (cM R s') kc' ks') : kP_Pr_hasBitsBehind base sa [.ref p0] (cM R s) kc ks Rt := by
  refine ⟨Nat.le_of_ble_eq_true rfl, fun G hG => ?_⟩
  refine (show KK sa R base G 0 [(0, va_rf (some p0))] [] s kc ks (C_Pr_hasBitsBehind sa p0 s kc ks Q) from ?_) hw h
  refine kk_aln hG (x := (some p0)) rfl rfl ?_
  refine kk_gj hG (c := 5) (k := 1) (a := p0) rfl rfl rfl rfl (fun v1 => ?_)
  refine kk_aln hG (x := (some p0)) rfl rfl ?_
  refine kk_gi hG (c := 5) (k := 3) (a := p0) rfl rfl rfl rfl (fun v2 => ?_)
  refine kk_cx (w := .long) hG 2 rfl rfl (Nat.le_of_ble_eq_true rfl) (by decide) rfl (st' := [.long v1]) rfl (cats_le (Nat.le_of_ble_eq_true rfl)) (fun _ hw h k => kc_Pr_maskHigh base sa hw h k) (fun r3 sr3 cr3 dr3 => ?_)
  refine kk_l2 hG (v := ((-1) : Int64)) rfl rfl ?_
  refine kks hG rfl rfl ?_
  refine kks hG rfl rfl ?_
  refine kk_lc hG (c := 0) (v := 0) rfl rfl ?_
  refine kks hG rfl rfl ?_
  refine kk_lne hG (t := 42) rfl rfl ?_ ?_
  · refine kk_ic hG rfl cc_i1 ?_
    refine kk_go hG (t := 47) rfl rfl ?_
    exact kk_ri hG rfl rfl rfl k
  refine kk_aln hG (x := (some p0)) rfl rfl ?_
  refine kk_gj hG (c := 5) (k := 2) (a := p0) rfl rfl rfl rfl (fun v4 => ?_)
  refine kk_aln hG (x := (some p0)) rfl rfl ?_
  refine kk_gi hG (c := 5) (k := 3) (a := p0) rfl rfl rfl rfl (fun v5 => ?_)
  refine kk_cx (w := .long) hG 2 rfl rfl (Nat.le_of_ble_eq_true rfl) (by decide) rfl (st' := [.long v4]) rfl (cats_le (Nat.le_of_ble_eq_true rfl)) (fun _ hw h k => kc_Pr_maskLow base sa hw h k) (fun r6 sr6 cr6 dr6 => ?_)
  refine kk_l2 hG (v := ((-1) : Int64)) rfl rfl ?_
  refine kks hG rfl rfl ?_
  refine kks hG rfl rfl ?_
  refine kk_lc hG (c := 0) (v := 0) rfl rfl ?_
  refine kks hG rfl rfl ?_
  refine kk_leq hG (t := 46) rfl rfl ?_ ?_
  · refine kk_ic hG rfl cc_i0 ?_
    exact kk_ri hG rfl rfl rfl k
  refine kk_ic hG rfl cc_i1 ?_
  refine kk_go hG (t := 47) rfl rfl ?_
  exact kk_ri hG rfl rfl rfl k
def C_Re_takePrefix_b49 (sa : Nat → Nat) (p0 : Nat) (p1 : Int32) (p2 : Int32) (a3 : Int32) (s : cS) (kc ks : Nat) (Q : (Int32 → cS → Nat → Nat → Prop)) : Prop := ob (gP s 7 6 p0) (fun v1 => (ob (gP s 7 0 p0) (fun v2 => (ob v2 (fun b3 => (ob (gP s 11 0 b3) (fun v4 => (ob (gP s 7 1 p0) (fun v5 => (ob v5 (fun b6 => (ob (rE s .int b6 p1) (fun v7 => (ob v1 (fun b8 => (okO s 5 b8 ∧ C_Pr_parseAddress sa b8 v4 v7 a3 s kc ks (fun r9 sr9 cr9 dr9 => (if r9 = 0 then (Q (0 : Int32) sr9 cr9 dr9) else (ob (gP sr9 7 6 p0) (fun v10 => (ob (gP sr9 7 0 p0) (fun v11 => (ob v11 (fun b12 => (ob (gP sr9 11 0 b12) (fun v13 => (ob (gP sr9 7 2 p0) (fun v14 => (ob v14 (fun b15 => (ob (rE sr9 .int b15 p1) (fun v16 => (ob v10 (fun b17 => (okO sr9 5 b17 ∧ C_Pr_parseLength sa b17 v13 (a3 + (1 : Int32)) v16 sr9 cr9 dr9 (fun r18 sr18 cr18 dr18 => (if r18 = 0 then (Q (0 : Int32) sr18 cr18 dr18) else (if p2 = 0 then (ob (gP sr18 7 6 p0) (fun v19 => (ob v19 (fun b20 => (okO sr18 5 b20 ∧ C_Pr_hasBitsBehind sa b20 sr18 cr18 dr18 (fun r21 sr21 cr21 dr21 => (if r21 = 0 then (Q (1 : Int32) sr21 cr21 dr21) else (Q (0 : Int32) sr21 cr21 dr21)))))))) else (Q (1 : Int32) sr18 cr18 dr18)))))))))))))))))))))))))))))))))))))))
def C_Re_takePrefix_s17 (sa : Nat → Nat) (p0 : Nat) (p1 : Int32) (p2 : Int32) (a3 : Int32) (s : cS) (kc ks : Nat) (Q : (Int32 → cS → Nat → Nat → Prop)) (P17 : (Int32 → cS → Nat → Nat → Prop)) : Prop := ob (gP s 7 2 p0) (fun v1 => (ob v1 (fun b2 => (ob (rE s .int b2 p1) (fun v3 => (if a3 < v3 then (ob (gP s 7 0 p0) (fun v4 => (ob v4 (fun b5 => (ob (gP s 11 0 b5) (fun v6 => (ob v6 (fun b7 => (okO s 0 b7 ∧ C_By_at sa b7 a3 s kc ks (fun r8 sr8 cr8 dr8 => (if r8 = (47 : Int32) then ((C_Re_takePrefix_b49 sa p0 p1 p2 a3 sr8 cr8 dr8 Q)) else ((P17 (a3 + (1 : Int32)) sr8 cr8 dr8))))))))))))) else ((C_Re_takePrefix_b49 sa p0 p1 p2 a3 s kc ks Q))))))))
def C_Re_takePrefix_b17 (sa : Nat → Nat) (p0 : Nat) (p1 : Int32) (p2 : Int32) (a3 : Int32) (s : cS) (kc ks : Nat) (Q : (Int32 → cS → Nat → Nat → Prop)) : Prop := ∀ P17 : (Int32 → cS → Nat → Nat → Prop), (∀ (a3 : Int32) (s : cS) (kc ks : Nat), C_Re_takePrefix_s17 sa p0 p1 p2 a3 s kc ks Q P17 → P17 a3 s kc ks) → P17 a3 s kc ks
def C_Re_takePrefix (sa : Nat → Nat) (p0 : Nat) (p1 : Int32) (p2 : Int32) (s : cS) (kc ks : Nat) (Q : (Int32 → cS → Nat → Nat → Prop)) : Prop := okO s 7 p0 ∧ C_Re_isWord sa p0 p1 s kc ks (fun r1 sr1 cr1 dr1 => (if r1 = 0 then (Q (0 : Int32) sr1 cr1 dr1) else (ob (gP sr1 7 1 p0) (fun v2 => (ob v2 (fun b3 => (ob (rE sr1 .int b3 p1) (fun v4 => ((C_Re_takePrefix_b17 sa p0 p1 p2 v4 sr1 cr1 dr1 Q))))))))))
set_option maxRecDepth 100000 in
set_option maxHeartbeats 4000000 in
theorem kc_Re_takePrefix (base : Nat) (sa : Nat → Nat) {R : pmM} {s : cS} {kc ks : Nat} {Rt : pmR} {p0 : Nat} {p1 : Int32} {p2 : Int32} {Q : (Int32 → cS → Nat → Nat → Prop)} (hw : cW sa R base s) (h : C_Re_takePrefix sa p0 p1 p2 s kc ks Q) (k : ∀ r s' kc' ks', cW sa R base s' → Q r s' kc' ks' → Rt (some (.int r)) (cM R s') kc' ks') : kP_Re_takePrefix base sa [.ref p0, .int p1, .int p2] (cM R s) kc ks Rt := by
  refine ⟨Nat.le_of_ble_eq_true rfl, fun G hG => ?_⟩
  have b49 : ∀ (a3 : Int32) (s : cS) (kc ks : Nat), KK sa R base G 49 [(0, va_rf (some p0)), (1, .int p1), (2, .int p2), (3, .int a3)] [] s kc ks (C_Re_takePrefix_b49 sa p0 p1 p2 a3 s kc ks Q) := by
    intro a3 s kc ks
    refine kk_aln hG (x := (some p0)) rfl rfl ?_
    refine kk_gp hG (c := 7) (k := 6) (a := p0) rfl rfl rfl rfl (fun v1 => ?_)
    refine kk_aln hG (x := (some p0)) rfl rfl ?_
    refine kk_gp hG (c := 7) (k := 0) (a := p0) rfl rfl rfl rfl (fun v2 => ?_)
    refine kk_ob (fun b3 eb3 => ?_)
    subst eb3
    refine kk_gp hG (c := 11) (k := 0) (a := b3) rfl rfl rfl rfl (fun v4 => ?_)
    refine kk_aln hG (x := (some p0)) rfl rfl ?_
    refine kk_gp hG (c := 7) (k := 1) (a := p0) rfl rfl rfl rfl (fun v5 => ?_)
    refine kks hG rfl rfl ?_
    refine kk_ob (fun b6 eb6 => ?_)
    subst eb6
    refine kk_ia hG (a := b6) rfl (fun v7 => ?_)
    refine kks hG rfl rfl ?_
    refine kk_ob (fun b8 eb8 => ?_)
    subst eb8
    refine kk_cx (w := .int) hG 0 rfl rfl (Nat.le_of_ble_eq_true rfl) (by decide) rfl (st' := []) rfl (cats_le (Nat.le_of_ble_eq_true rfl)) (fun _ hw h k => kk_rcv h.1 (kc_Pr_parseAddress base sa hw h.2 k)) (fun r9 sr9 cr9 dr9 => ?_)
    refine kk_zeq hG (t := 117) rfl rfl ?_ ?_
    · refine kk_ic hG rfl cc_i0 ?_
      exact kk_ri hG rfl rfl rfl k
    refine kk_aln hG (x := (some p0)) rfl rfl ?_
    refine kk_gp hG (c := 7) (k := 6) (a := p0) rfl rfl rfl rfl (fun v10 => ?_)
    refine kk_aln hG (x := (some p0)) rfl rfl ?_
    refine kk_gp hG (c := 7) (k := 0) (a := p0) rfl rfl rfl rfl (fun v11 => ?_)
    refine kk_ob (fun b12 eb12 => ?_)
    subst eb12
    refine kk_gp hG (c := 11) (k := 0) (a := b12) rfl rfl rfl rfl (fun v13 => ?_)
    refine kks hG rfl rfl ?_
    refine kk_ic hG rfl cc_i1 ?_
    refine kks hG rfl rfl ?_
    refine kk_aln hG (x := (some p0)) rfl rfl ?_
    refine kk_gp hG (c := 7) (k := 2) (a := p0) rfl rfl rfl rfl (fun v14 => ?_)
    refine kks hG rfl rfl ?_
    refine kk_ob (fun b15 eb15 => ?_)
    subst eb15
    refine kk_ia hG (a := b15) rfl (fun v16 => ?_)
    refine kk_ob (fun b17 eb17 => ?_)
    subst eb17
    refine kk_cx (w := .int) hG 0 rfl rfl (Nat.le_of_ble_eq_true rfl) (by decide) rfl (st' := []) rfl (cats_le (Nat.le_of_ble_eq_true rfl)) (fun _ hw h k => kk_rcv h.1 (kc_Pr_parseLength base sa hw h.2 k)) (fun r18 sr18 cr18 dr18 => ?_)
    refine kk_zeq hG (t := 117) rfl rfl ?_ ?_
    · refine kk_ic hG rfl cc_i0 ?_
      exact kk_ri hG rfl rfl rfl k
    refine kks hG rfl rfl ?_
    refine kk_zne hG (t := 113) rfl rfl ?_ ?_
    · refine kk_ic hG rfl cc_i1 ?_
      refine kk_go hG (t := 118) rfl rfl ?_
      exact kk_ri hG rfl rfl rfl k
    refine kk_aln hG (x := (some p0)) rfl rfl ?_
    refine kk_gp hG (c := 7) (k := 6) (a := p0) rfl rfl rfl rfl (fun v19 => ?_)
    refine kk_ob (fun b20 eb20 => ?_)
    subst eb20
    refine kk_cx (w := .int) hG 0 rfl rfl (Nat.le_of_ble_eq_true rfl) (by decide) rfl (st' := []) rfl (cats_le (Nat.le_of_ble_eq_true rfl)) (fun _ hw h k => kk_rcv h.1 (kc_Pr_hasBitsBehind base sa hw h.2 k)) (fun r21 sr21 cr21 dr21 => ?_)
    refine kk_zne hG (t := 117) rfl rfl ?_ ?_
    · refine kk_ic hG rfl cc_i0 ?_
      exact kk_ri hG rfl rfl rfl k
    refine kk_ic hG rfl cc_i1 ?_
    refine kk_go hG (t := 118) rfl rfl ?_
    exact kk_ri hG rfl rfl rfl k
  have b17 : ∀ (a3 : Int32) (s : cS) (kc ks : Nat), KK sa R base G 17 [(0, va_rf (some p0)), (1, .int p1), (2, .int p2), (3, .int a3)] [] s kc ks (C_Re_takePrefix_b17 sa p0 p1 p2 a3 s kc ks Q) := by
    have H : ∀ (P17 : (Int32 → cS → Nat → Nat → Prop)) (hP17 : ∀ (a3 : Int32) (s : cS) (kc ks : Nat), P17 a3 s kc ks → cW sa R base s → G 17 [(0, va_rf (some p0)), (1, .int p1), (2, .int p2), (3, .int a3)] [] (cM R s) kc ks) (a3 : Int32) (s : cS) (kc ks : Nat), KK sa R base G 17 [(0, va_rf (some p0)), (1, .int p1), (2, .int p2), (3, .int a3)] [] s kc ks (C_Re_takePrefix_s17 sa p0 p1 p2 a3 s kc ks Q P17) := by
      intro P17 hP17
      intro a3 s kc ks
      refine kks hG rfl rfl ?_
      refine kk_aln hG (x := (some p0)) rfl rfl ?_
      refine kk_gp hG (c := 7) (k := 2) (a := p0) rfl rfl rfl rfl (fun v1 => ?_)
      refine kks hG rfl rfl ?_
      refine kk_ob (fun b2 eb2 => ?_)
      subst eb2
      refine kk_ia hG (a := b2) rfl (fun v3 => ?_)
      refine kk_ige hG (t := 49) rfl rfl ?_ ?_
      · exact kk_wl hG [0, 1, 2, 3] rfl (b49 _ _ _ _)
      refine kk_aln hG (x := (some p0)) rfl rfl ?_
      refine kk_gp hG (c := 7) (k := 0) (a := p0) rfl rfl rfl rfl (fun v4 => ?_)
      refine kk_ob (fun b5 eb5 => ?_)
      subst eb5
      refine kk_gp hG (c := 11) (k := 0) (a := b5) rfl rfl rfl rfl (fun v6 => ?_)
      refine kks hG rfl rfl ?_
      refine kk_ob (fun b7 eb7 => ?_)
      subst eb7
      refine kk_cx (w := .int) hG 0 rfl rfl (Nat.le_of_ble_eq_true rfl) (by decide) rfl (st' := []) rfl (cats_le (Nat.le_of_ble_eq_true rfl)) (fun _ hw h k => kk_rcv h.1 (kc_By_at base sa hw h.2 k)) (fun r8 sr8 cr8 dr8 => ?_)
      refine kk_bi hG rfl cc_b47 ?_
      refine kk_ieq hG (t := 49) rfl rfl ?_ ?_
      · exact kk_wl hG [0, 1, 2, 3] rfl (b49 _ _ _ _)
      refine kk_inc hG (L' := [(3, .int (a3 + (1 : Int32))), (0, va_rf (some p0)), (1, .int p1), (2, .int p2)]) rfl (Nat.le_of_ble_eq_true rfl) rfl cc_i1 rfl ?_
      refine kk_go hG (t := 17) rfl rfl ?_
      exact kk_wl hG [1, 2, 3, 0] rfl (fun hw h => hP17 _ _ _ _ h hw)
    exact fun a3 s kc ks hw h => h (fun a3 s kc ks => cW sa R base s → G 17 [(0, va_rf (some p0)), (1, .int p1), (2, .int p2), (3, .int a3)] [] (cM R s) kc ks) (fun a3 s kc ks hs hw => H _ (fun _ _ _ _ hp hw => hp hw) a3 s kc ks hw hs) hw
  refine (show KK sa R base G 0 [(0, va_rf (some p0)), (1, .int p1), (2, .int p2)] [] s kc ks (C_Re_takePrefix sa p0 p1 p2 s kc ks Q) from ?_) hw h
  refine kk_aln hG (x := (some p0)) rfl rfl ?_
  refine kks hG rfl rfl ?_
  refine kk_cx (w := .int) hG 0 rfl rfl (Nat.le_of_ble_eq_true rfl) (by decide) rfl (st' := []) rfl (cats_le (Nat.le_of_ble_eq_true rfl)) (fun _ hw h k => kk_rcv h.1 (kc_Re_isWord base sa hw h.2 k)) (fun r1 sr1 cr1 dr1 => ?_)
  refine kk_zne hG (t := 10) rfl rfl ?_ ?_
  · refine kk_aln hG (x := (some p0)) rfl rfl ?_
    refine kk_gp hG (c := 7) (k := 1) (a := p0) rfl rfl rfl rfl (fun v2 => ?_)
    refine kks hG rfl rfl ?_
    refine kk_ob (fun b3 eb3 => ?_)
    subst eb3
    refine kk_ia hG (a := b3) rfl (fun v4 => ?_)
    refine kk_st hG (L' := [(3, .int v4), (0, va_rf (some p0)), (1, .int p1), (2, .int p2)]) rfl rfl (Nat.le_of_ble_eq_true rfl) rfl ?_
    exact kk_wl hG [1, 2, 3, 0] rfl (b17 _ _ _ _)
  refine kk_ic hG rfl cc_i0 ?_
  exact kk_ri hG rfl rfl rfl k
def C_Rr_portOn_s2 (sa : Nat → Nat) (p0 : Nat) (p1 : Option Nat) (a2 : Int32) (s : cS) (kc ks : Nat) (Q : (Option Nat → cS → Nat → Nat → Prop)) (P2 : (Int32 → cS → Nat → Nat → Prop)) : Prop := ob (gI s 9 5 p0) (fun v1 => (if a2 < v1 then (ob (gP s 9 4 p0) (fun v2 => (ob v2 (fun b3 => (ob (rQ s b3 a2) (fun v4 => (ob v4 (fun b5 => (ob (gP s 4 0 b5) (fun v6 => (if v6 = p1 then ((ob (gP s 9 4 p0) (fun v7 => (ob v7 (fun b8 => (ob (rQ s b8 a2) (fun v9 => (Q v9 s kc ks)))))))) else ((P2 (a2 + (1 : Int32)) s kc ks))))))))))))) else ((Q none s kc ks))))
def C_Rr_portOn_b2 (sa : Nat → Nat) (p0 : Nat) (p1 : Option Nat) (a2 : Int32) (s : cS) (kc ks : Nat) (Q : (Option Nat → cS → Nat → Nat → Prop)) : Prop := ∀ P2 : (Int32 → cS → Nat → Nat → Prop), (∀ (a2 : Int32) (s : cS) (kc ks : Nat), C_Rr_portOn_s2 sa p0 p1 a2 s kc ks Q P2 → P2 a2 s kc ks) → P2 a2 s kc ks
def C_Rr_portOn (sa : Nat → Nat) (p0 : Nat) (p1 : Option Nat) (s : cS) (kc ks : Nat) (Q : (Option Nat → cS → Nat → Nat → Prop)) : Prop := (C_Rr_portOn_b2 sa p0 p1 (0 : Int32) s kc ks Q)
set_option maxRecDepth 100000 in
set_option maxHeartbeats 4000000 in
theorem kc_Rr_portOn (base : Nat) (sa : Nat → Nat) {R : pmM} {s : cS} {kc ks : Nat} {Rt : pmR} {p0 : Nat} {p1 : Option Nat} {Q : (Option Nat → cS → Nat → Nat → Prop)} (hw : cW sa R base s) (h : C_Rr_portOn sa p0 p1 s kc ks Q) (k : ∀ r s' kc' ks', cW sa R base s' → Q r s' kc' ks' → Rt (some (va_rf r)) (cM R s') kc' ks') : kP_Rr_portOn base sa [.ref p0, va_rf p1] (cM R s) kc ks Rt := by
  refine ⟨by cases p1 <;> exact Nat.le_of_ble_eq_true rfl, fun G hG => ?_⟩
  have eL : lv_args 0 [.ref p0, va_rf p1] = [(0, va_rf (some p0)), (1, va_rf p1)] := by cases p1 <;> rfl
  rw [eL]
  have b2 : ∀ (a2 : Int32) (s : cS) (kc ks : Nat), KK sa R base G 2 [(0, va_rf (some p0)), (1, va_rf p1), (2, .int a2)] [] s kc ks (C_Rr_portOn_b2 sa p0 p1 a2 s kc ks Q) := by
    have H : ∀ (P2 : (Int32 → cS → Nat → Nat → Prop)) (hP2 : ∀ (a2 : Int32) (s : cS) (kc ks : Nat), P2 a2 s kc ks → cW sa R base s → G 2 [(0, va_rf (some p0)), (1, va_rf p1), (2, .int a2)] [] (cM R s) kc ks) (a2 : Int32) (s : cS) (kc ks : Nat), KK sa R base G 2 [(0, va_rf (some p0)), (1, va_rf p1), (2, .int a2)] [] s kc ks (C_Rr_portOn_s2 sa p0 p1 a2 s kc ks Q P2) := by
      intro P2 hP2
      intro a2 s kc ks
      refine kks hG rfl rfl ?_
      refine kk_aln hG (x := (some p0)) rfl rfl ?_
      refine kk_gi hG (c := 9) (k := 5) (a := p0) rfl rfl rfl rfl (fun v1 => ?_)
      refine kk_ige hG (t := 36) rfl rfl ?_ ?_
      · refine kks hG rfl rfl ?_
        exact kk_ra hG (x := none) rfl rfl rfl k
      refine kk_aln hG (x := (some p0)) rfl rfl ?_
      refine kk_gp hG (c := 9) (k := 4) (a := p0) rfl rfl rfl rfl (fun v2 => ?_)
      refine kks hG rfl rfl ?_
      refine kk_ob (fun b3 eb3 => ?_)
      subst eb3
      refine kk_aa hG (a := b3) rfl (fun v4 => ?_)
      refine kk_ob (fun b5 eb5 => ?_)
      subst eb5
      refine kk_gp hG (c := 4) (k := 0) (a := b5) rfl rfl rfl rfl (fun v6 => ?_)
      refine kk_aln hG (x := p1) rfl rfl ?_
      refine kk_ane hG (x := v6) (y := p1) (t := 30) rfl rfl ?_ ?_
      · refine kk_inc hG (L' := [(2, .int (a2 + (1 : Int32))), (0, va_rf (some p0)), (1, va_rf p1)]) rfl (Nat.le_of_ble_eq_true rfl) rfl cc_i1 (by cases p1 <;> rfl) ?_
        refine kk_go hG (t := 2) rfl rfl ?_
        exact kk_wl hG [1, 2, 0] rfl (fun hw h => hP2 _ _ _ _ h hw)
      refine kk_aln hG (x := (some p0)) rfl rfl ?_
      refine kk_gp hG (c := 9) (k := 4) (a := p0) rfl rfl rfl rfl (fun v7 => ?_)
      refine kks hG rfl rfl ?_
      refine kk_ob (fun b8 eb8 => ?_)
      subst eb8
      refine kk_aa hG (a := b8) rfl (fun v9 => ?_)
      exact kk_ra hG (x := v9) rfl rfl rfl k
    exact fun a2 s kc ks hw h => h (fun a2 s kc ks => cW sa R base s → G 2 [(0, va_rf (some p0)), (1, va_rf p1), (2, .int a2)] [] (cM R s) kc ks) (fun a2 s kc ks hs hw => H _ (fun _ _ _ _ hp hw => hp hw) a2 s kc ks hw hs) hw
  refine (show KK sa R base G 0 [(0, va_rf (some p0)), (1, va_rf p1)] [] s kc ks (C_Rr_portOn sa p0 p1 s kc ks Q) from ?_) hw h
  refine kk_ic hG rfl cc_i0 ?_
  refine kk_st hG (L' := [(2, .int (0 : Int32)), (0, va_rf (some p0)), (1, va_rf p1)]) rfl rfl (Nat.le_of_ble_eq_true rfl) (by cases p1 <;> rfl) ?_
  exact kk_wl hG [1, 2, 0] rfl (b2 _ _ _ _)
def C_Po_addressOf (sa : Nat → Nat) (p0 : Nat) (p1 : Int32) (s : cS) (kc ks : Nat) (Q : (Option Nat → cS → Nat → Nat → Prop)) : Prop := if p1 = (4 : Int32) then (ob (gP s 4 1 p0) (fun v2 => (Q v2 s kc ks))) else (ob (gP s 4 2 p0) (fun v1 => (Q v1 s kc ks)))
set_option maxRecDepth 100000 in
set_option maxHeartbeats 4000000 in
theorem kc_Po_addressOf (base : Nat) (sa : Nat → Nat) {R : pmM} {s : cS} {kc ks : Nat} {Rt : pmR} {p0 : Nat} {p1 : Int32} {Q : (Option Nat → cS → Nat → Nat → Prop)} (hw : cW sa R base s) (h : C_Po_addressOf sa p0 p1 s kc ks Q) (k : ∀ r s' kc' ks', cW sa R base s' → Q r s' kc' ks' → Rt (some (va_rf r)) (cM R s') kc' ks') : kP_Po_addressOf base sa [.ref p0, .int p1] (cM R s) kc ks Rt := by
  refine ⟨Nat.le_of_ble_eq_true rfl, fun G hG => ?_⟩
  refine (show KK sa R base G 0 [(0, va_rf (some p0)), (1, .int p1)] [] s kc ks (C_Po_addressOf sa p0 p1 s kc ks Q) from ?_) hw h
  refine kks hG rfl rfl ?_
  refine kk_ic hG rfl cc_i4 ?_
  refine kk_ine hG (t := 12) rfl rfl ?_ ?_
  · refine kk_aln hG (x := (some p0)) rfl rfl ?_
    refine kk_gp hG (c := 4) (k := 2) (a := p0) rfl rfl rfl rfl (fun v1 => ?_)
    exact kk_ra hG (x := v1) rfl rfl rfl k
  refine kk_aln hG (x := (some p0)) rfl rfl ?_
  refine kk_gp hG (c := 4) (k := 1) (a := p0) rfl rfl rfl rfl (fun v2 => ?_)
  refine kk_go hG (t := 16) rfl rfl ?_
  exact kk_ra hG (x := v2) rfl rfl rfl k
def C_Ch_clear (sa : Nat → Nat) (p0 : Nat) (s : cS) (kc ks : Nat) (Q : (cS → Nat → Nat → Prop)) : Prop := ob (pZ s 1 0 p0 (0 : Int32)) (fun s1 => (ob (pI s1 1 2 p0 (0 : Int32)) (fun s2 => (Q s2 kc ks))))
set_option maxRecDepth 100000 in
set_option maxHeartbeats 4000000 in
theorem kc_Ch_clear (base : Nat) (sa : Nat → Nat) {R : pmM} {s : cS} {kc ks : Nat} {Rt : pmR} {p0 : Nat} {Q : (cS → Nat → Nat → Prop)} (hw : cW sa R base s) (h : C_Ch_clear sa p0 s kc ks Q) (k : ∀ s' kc' ks', cW sa R base s' → Q s' kc' ks' → Rt none (cM R s') kc' ks') : kP_Ch_clear base sa [.ref p0] (cM R s) kc ks Rt := by
  refine ⟨Nat.le_of_ble_eq_true rfl, fun G hG => ?_⟩
  refine (show KK sa R base G 0 [(0, va_rf (some p0))] [] s kc ks (C_Ch_clear sa p0 s kc ks Q) from ?_) hw h
  refine kk_aln hG (x := (some p0)) rfl rfl ?_
  refine kk_ic hG rfl cc_i0 ?_
  refine kk_pz hG (c := 1) (k := 0) (a := p0) rfl rfl rfl rfl (fun s1 => ?_)
  refine kk_aln hG (x := (some p0)) rfl rfl ?_
  refine kk_ic hG rfl cc_i0 ?_
  refine kk_pi hG (c := 1) (k := 2) (a := p0) rfl rfl rfl rfl (fun s2 => ?_)
  exact kk_rv hG rfl rfl k
def C_Ch_copy_s33 (sa : Nat → Nat) (p0 : Nat) (p1 : Option Nat) (a2 : Int32) (s : cS) (kc ks : Nat) (Q : (cS → Nat → Nat → Prop)) (P33 : (Int32 → cS → Nat → Nat → Prop)) : Prop := ob (gI s 1 2 p0) (fun v1 => (if a2 < v1 then (ob (gP s 1 3 p0) (fun v2 => (ob p1 (fun b3 => (ob (gP s 1 3 b3) (fun v4 => (ob v4 (fun b5 => (ob (rE s .int b5 a2) (fun v6 => (ob v2 (fun b7 => (ob (wEi s b7 a2 v6) (fun s8 => (ob (gP s8 1 4 p0) (fun v9 => (ob (gP s8 1 4 b3) (fun v10 => (ob v10 (fun b11 => (ob (rE s8 .int b11 a2) (fun v12 => (ob v9 (fun b13 => (ob (wEi s8 b13 a2 v12) (fun s14 => (ob (gP s14 1 5 p0) (fun v15 => (ob (gP s14 1 5 b3) (fun v16 => (ob v16 (fun b17 => (ob (rE s14 .int b17 a2) (fun v18 => (ob v15 (fun b19 => (ob (wEi s14 b19 a2 v18) (fun s20 => (ob (gP s20 1 6 p0) (fun v21 => (ob (gP s20 1 6 b3) (fun v22 => (ob v22 (fun b23 => (ob (rE s20 .int b23 a2) (fun v24 => (ob v21 (fun b25 => (ob (wEi s20 b25 a2 v24) (fun s26 => (ob (gP s26 1 7 b3) (fun v27 => (ob v27 (fun b28 => (ob (rQ s26 b28 a2) (fun v29 => (ob (gP s26 1 7 p0) (fun v30 => (ob v30 (fun b31 => (ob (rQ s26 b31 a2) (fun v32 => (ob v29 (fun b33 => (ob v32 (fun b34 => (ob (cpE s26 b33 (0 : Int32) b34 (0 : Int32) (16 : Int32)) (fun s35 => ((P33 (a2 + (1 : Int32)) s35 kc ks)))))))))))))))))))))))))))))))))))))))))))))))))))))))))))))))))))))) else ((Q s kc ks))))
def C_Ch_copy_b33 (sa : Nat → Nat) (p0 : Nat) (p1 : Option Nat) (a2 : Int32) (s : cS) (kc ks : Nat) (Q : (cS → Nat → Nat → Prop)) : Prop := ∀ P33 : (Int32 → cS → Nat → Nat → Prop), (∀ (a2 : Int32) (s : cS) (kc ks : Nat), C_Ch_copy_s33 sa p0 p1 a2 s kc ks Q P33 → P33 a2 s kc ks) → P33 a2 s kc ks
def C_Ch_copy (sa : Nat → Nat) (p0 : Nat) (p1 : Option Nat) (s : cS) (kc ks : Nat) (Q : (cS → Nat → Nat → Prop)) : Prop := ob p1 (fun b1 => (ob (gI s 1 0 b1) (fun v2 => (ob (pZ s 1 0 p0 v2) (fun s3 => (ob (gP s3 1 1 b1) (fun v4 => (ob (gP s3 1 1 p0) (fun v5 => (ob v4 (fun b6 => (ob v5 (fun b7 => (ob (cpE s3 b6 (0 : Int32) b7 (0 : Int32) (16 : Int32)) (fun s8 => (ob (gI s8 1 2 b1) (fun v9 => (ob (pI s8 1 2 p0 v9) (fun s10 => ((C_Ch_copy_b33 sa p0 (some b1) (0 : Int32) s10 kc ks Q)))))))))))))))))))))
set_option maxRecDepth 100000 in
set_option maxHeartbeats 4000000 in
theorem kc_Ch_copy (base : Nat) (sa : Nat → Nat) {R : pmM} {s : cS} {kc ks : Nat} {Rt : pmR} {p0 : Nat} {p1 : Option Nat} {Q : (cS → Nat → Nat → Prop)} (hw : cW sa R base s) (h : C_Ch_copy sa p0 p1 s kc ks Q) (k : ∀ s' kc' ks', cW sa R base s' → Q s' kc' ks' → Rt none (cM R s') kc' ks') : kP_Ch_copy base sa [.ref p0, va_rf p1] (cM R s) kc ks Rt := by
  refine ⟨by cases p1 <;> exact Nat.le_of_ble_eq_true rfl, fun G hG => ?_⟩
  have eL : lv_args 0 [.ref p0, va_rf p1] = [(0, va_rf (some p0)), (1, va_rf p1)] := by cases p1 <;> rfl
  rw [eL]
  have b33 : ∀ (a2 : Int32) (s : cS) (kc ks : Nat), KK sa R base G 33 [(0, va_rf (some p0)), (1, va_rf p1), (2, .int a2)] [] s kc ks (C_Ch_copy_b33 sa p0 p1 a2 s kc ks Q) := by
    have H : ∀ (P33 : (Int32 → cS → Nat → Nat → Prop)) (hP33 : ∀ (a2 : Int32) (s : cS) (kc ks : Nat), P33 a2 s kc ks → cW sa R base s → G 33 [(0, va_rf (some p0)), (1, va_rf p1), (2, .int a2)] [] (cM R s) kc ks) (a2 : Int32) (s : cS) (kc ks : Nat), KK sa R base G 33 [(0, va_rf (some p0)), (1, va_rf p1), (2, .int a2)] [] s kc ks (C_Ch_copy_s33 sa p0 p1 a2 s kc ks Q P33) := by
      intro P33 hP33
      intro a2 s kc ks
      refine kks hG rfl rfl ?_
      refine kk_aln hG (x := (some p0)) rfl rfl ?_
      refine kk_gi hG (c := 1) (k := 2) (a := p0) rfl rfl rfl rfl (fun v1 => ?_)
      refine kk_ige hG (t := 114) rfl rfl ?_ ?_
      · exact kk_rv hG rfl rfl k
      refine kk_aln hG (x := (some p0)) rfl rfl ?_
      refine kk_gp hG (c := 1) (k := 3) (a := p0) rfl rfl rfl rfl (fun v2 => ?_)
      refine kks hG rfl rfl ?_
      refine kk_aln hG (x := p1) rfl rfl ?_
      refine kk_ob (fun b3 eb3 => ?_)
      subst eb3
      refine kk_gp hG (c := 1) (k := 3) (a := b3) rfl rfl rfl rfl (fun v4 => ?_)
      refine kks hG rfl rfl ?_
      refine kk_ob (fun b5 eb5 => ?_)
      subst eb5
      refine kk_ia hG (a := b5) rfl (fun v6 => ?_)
      refine kk_ob (fun b7 eb7 => ?_)
      subst eb7
      refine kk_is hG (a := b7) rfl (fun s8 => ?_)
      refine kk_aln hG (x := (some p0)) rfl rfl ?_
      refine kk_gp hG (c := 1) (k := 4) (a := p0) rfl rfl rfl rfl (fun v9 => ?_)
      refine kks hG rfl rfl ?_
      refine kk_aln hG (x := (some b3)) rfl rfl ?_
      refine kk_gp hG (c := 1) (k := 4) (a := b3) rfl rfl rfl rfl (fun v10 => ?_)
      refine kks hG rfl rfl ?_
      refine kk_ob (fun b11 eb11 => ?_)
      subst eb11
      refine kk_ia hG (a := b11) rfl (fun v12 => ?_)
      refine kk_ob (fun b13 eb13 => ?_)
      subst eb13
      refine kk_is hG (a := b13) rfl (fun s14 => ?_)
      refine kk_aln hG (x := (some p0)) rfl rfl ?_
      refine kk_gp hG (c := 1) (k := 5) (a := p0) rfl rfl rfl rfl (fun v15 => ?_)
      refine kks hG rfl rfl ?_
      refine kk_aln hG (x := (some b3)) rfl rfl ?_
      refine kk_gp hG (c := 1) (k := 5) (a := b3) rfl rfl rfl rfl (fun v16 => ?_)
      refine kks hG rfl rfl ?_
      refine kk_ob (fun b17 eb17 => ?_)
      subst eb17
      refine kk_ia hG (a := b17) rfl (fun v18 => ?_)
      refine kk_ob (fun b19 eb19 => ?_)
      subst eb19
      refine kk_is hG (a := b19) rfl (fun s20 => ?_)
      refine kk_aln hG (x := (some p0)) rfl rfl ?_
      refine kk_gp hG (c := 1) (k := 6) (a := p0) rfl rfl rfl rfl (fun v21 => ?_)
      refine kks hG rfl rfl ?_
      refine kk_aln hG (x := (some b3)) rfl rfl ?_
      refine kk_gp hG (c := 1) (k := 6) (a := b3) rfl rfl rfl rfl (fun v22 => ?_)
      refine kks hG rfl rfl ?_
      refine kk_ob (fun b23 eb23 => ?_)
      subst eb23
      refine kk_ia hG (a := b23) rfl (fun v24 => ?_)
      refine kk_ob (fun b25 eb25 => ?_)
      subst eb25
      refine kk_is hG (a := b25) rfl (fun s26 => ?_)
      refine kk_aln hG (x := (some b3)) rfl rfl ?_
      refine kk_gp hG (c := 1) (k := 7) (a := b3) rfl rfl rfl rfl (fun v27 => ?_)
      refine kks hG rfl rfl ?_
      refine kk_ob (fun b28 eb28 => ?_)
      subst eb28
      refine kk_aa hG (a := b28) rfl (fun v29 => ?_)
      refine kk_ic hG rfl cc_i0 ?_
      refine kk_aln hG (x := (some p0)) rfl rfl ?_
      refine kk_gp hG (c := 1) (k := 7) (a := p0) rfl rfl rfl rfl (fun v30 => ?_)
      refine kks hG rfl rfl ?_
      refine kk_ob (fun b31 eb31 => ?_)
      subst eb31
      refine kk_aa hG (a := b31) rfl (fun v32 => ?_)
      refine kk_ic hG rfl cc_i0 ?_
      refine kk_bi hG rfl cc_b16 ?_
      refine kk_ob (fun b33 eb33 => ?_)
      subst eb33
      refine kk_ob (fun b34 eb34 => ?_)
      subst eb34
      refine kk_acp hG (a := b33) (b := b34) rfl rfl (Nat.le_of_ble_eq_true rfl) (fun s35 => ?_)
      refine kk_inc hG (L' := [(2, .int (a2 + (1 : Int32))), (0, va_rf (some p0)), (1, va_rf (some b3))]) rfl (Nat.le_of_ble_eq_true rfl) rfl cc_i1 rfl ?_
      refine kk_go hG (t := 33) rfl rfl ?_
      exact kk_wl hG [1, 2, 0] rfl (fun hw h => hP33 _ _ _ _ h hw)
    exact fun a2 s kc ks hw h => h (fun a2 s kc ks => cW sa R base s → G 33 [(0, va_rf (some p0)), (1, va_rf p1), (2, .int a2)] [] (cM R s) kc ks) (fun a2 s kc ks hs hw => H _ (fun _ _ _ _ hp hw => hp hw) a2 s kc ks hw hs) hw
  refine (show KK sa R base G 0 [(0, va_rf (some p0)), (1, va_rf p1)] [] s kc ks (C_Ch_copy sa p0 p1 s kc ks Q) from ?_) hw h
  refine kk_aln hG (x := (some p0)) rfl rfl ?_
  refine kk_aln hG (x := p1) rfl rfl ?_
  refine kk_ob (fun b1 eb1 => ?_)
  subst eb1
  refine kk_gi hG (c := 1) (k := 0) (a := b1) rfl rfl rfl rfl (fun v2 => ?_)
  refine kk_pz hG (c := 1) (k := 0) (a := p0) rfl rfl rfl rfl (fun s3 => ?_)
  refine kk_aln hG (x := (some b1)) rfl rfl ?_
  refine kk_gp hG (c := 1) (k := 1) (a := b1) rfl rfl rfl rfl (fun v4 => ?_)
  refine kk_ic hG rfl cc_i0 ?_
  refine kk_aln hG (x := (some p0)) rfl rfl ?_
  refine kk_gp hG (c := 1) (k := 1) (a := p0) rfl rfl rfl rfl (fun v5 => ?_)
  refine kk_ic hG rfl cc_i0 ?_
  refine kk_bi hG rfl cc_b16 ?_
  refine kk_ob (fun b6 eb6 => ?_)
  subst eb6
  refine kk_ob (fun b7 eb7 => ?_)
  subst eb7
  refine kk_acp hG (a := b6) (b := b7) rfl rfl (Nat.le_of_ble_eq_true rfl) (fun s8 => ?_)
  refine kk_aln hG (x := (some p0)) rfl rfl ?_
  refine kk_aln hG (x := (some b1)) rfl rfl ?_
  refine kk_gi hG (c := 1) (k := 2) (a := b1) rfl rfl rfl rfl (fun v9 => ?_)
  refine kk_pi hG (c := 1) (k := 2) (a := p0) rfl rfl rfl rfl (fun s10 => ?_)
  refine kk_ic hG rfl cc_i0 ?_
  refine kk_st hG (L' := [(2, .int (0 : Int32)), (0, va_rf (some p0)), (1, va_rf (some b1))]) rfl rfl (Nat.le_of_ble_eq_true rfl) rfl ?_
  exact kk_wl hG [1, 2, 0] rfl (b33 _ _ _ _)
