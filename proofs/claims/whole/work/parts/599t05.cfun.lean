/-! Methods as weakest preconditions, by program: Rr_toldTag .. Rr_gatherSummaries -/
def C_Rr_toldTag_b20 (sa : Nat → Nat) (p1 : Option Nat) (s : cS) (kc ks : Nat) (Q : (Int32 → cS → Nat → Nat → Prop)) : Prop := ob p1 (fun b1 => (ob (gI s 8 5 b1) (fun v2 => (Q v2 s kc ks))))
def C_Rr_toldTag (sa : Nat → Nat) (p0 : Nat) (p1 : Option Nat) (s : cS) (kc ks : Nat) (Q : (Int32 → cS → Nat → Nat → Prop)) : Prop := ob p1 (fun b1 => (ob (gI s 8 3 b1) (fun v2 => (if v2 = (2 : Int32) then ((C_Rr_toldTag_b20 sa (some b1) s kc ks Q)) else (ob (gP s 9 13 p0) (fun v3 => (ob (gI s 8 3 b1) (fun v4 => (ob v3 (fun b5 => (ob (rE s .int b5 v4) (fun v6 => (if v6 = 0 then ((C_Rr_toldTag_b20 sa (some b1) s kc ks Q)) else (ob (gP s 9 14 p0) (fun v7 => (ob (gI s 8 3 b1) (fun v8 => (ob v7 (fun b9 => (ob (rE s .int b9 v8) (fun v10 => (Q (mxI (0 : Int32) v10) s kc ks))))))))))))))))))))))
set_option maxRecDepth 100000 in
set_option maxHeartbeats 4000000 in
theorem kc_Rr_toldTag (base : Nat) (sa : Nat → Nat) {R : pmM} {s : cS} {kc ks : Nat} {Rt : pmR} {p0 : Nat} {p1 : Option Nat} {Q : (Int32 → cS → Nat → Nat → Prop)} (hw : cW sa R base s) (h : C_Rr_toldTag sa p0 p1 s kc ks Q) (k : ∀ r s' kc' ks', cW sa R base s' → Q r s' kc' ks' → Rt (some (.int r)) (cM R s') kc' ks') : kP_Rr_toldTag base sa [.ref p0, va_rf p1] (cM R s) kc ks Rt := by
  refine ⟨by cases p1 <;> exact Nat.le_of_ble_eq_true rfl, fun G hG => ?_⟩
  have eL : lv_args 0 [.ref p0, va_rf p1] = [(0, va_rf (some p0)), (1, va_rf p1)] := by cases p1 <;> rfl
  rw [eL]
  have b20 : ∀ (s : cS) (kc ks : Nat), KK sa R base G 20 [(1, va_rf p1)] [] s kc ks (C_Rr_toldTag_b20 sa p1 s kc ks Q) := by
    intro s kc ks
    refine kk_aln hG (x := p1) rfl rfl ?_
    refine kk_ob (fun b1 eb1 => ?_)
    subst eb1
    refine kk_gi hG (c := 8) (k := 5) (a := b1) rfl rfl rfl rfl (fun v2 => ?_)
    exact kk_ri hG rfl rfl rfl k
  refine (show KK sa R base G 0 [(0, va_rf (some p0)), (1, va_rf p1)] [] s kc ks (C_Rr_toldTag sa p0 p1 s kc ks Q) from ?_) hw h
  refine kk_aln hG (x := p1) rfl rfl ?_
  refine kk_ob (fun b1 eb1 => ?_)
  subst eb1
  refine kk_gi hG (c := 8) (k := 3) (a := b1) rfl rfl rfl rfl (fun v2 => ?_)
  refine kk_ic hG rfl cc_i2 ?_
  refine kk_ieq hG (t := 20) rfl rfl ?_ ?_
  · exact kk_wl hG [1] rfl (b20 _ _ _)
  refine kk_aln hG (x := (some p0)) rfl rfl ?_
  refine kk_gp hG (c := 9) (k := 13) (a := p0) rfl rfl rfl rfl (fun v3 => ?_)
  refine kk_aln hG (x := (some b1)) rfl rfl ?_
  refine kk_gi hG (c := 8) (k := 3) (a := b1) rfl rfl rfl rfl (fun v4 => ?_)
  refine kk_ob (fun b5 eb5 => ?_)
  subst eb5
  refine kk_ia hG (a := b5) rfl (fun v6 => ?_)
  refine kk_zne hG (t := 25) rfl rfl ?_ ?_
  · refine kk_ic hG rfl cc_i0 ?_
    refine kk_aln hG (x := (some p0)) rfl rfl ?_
    refine kk_gp hG (c := 9) (k := 14) (a := p0) rfl rfl rfl rfl (fun v7 => ?_)
    refine kk_aln hG (x := (some b1)) rfl rfl ?_
    refine kk_gi hG (c := 8) (k := 3) (a := b1) rfl rfl rfl rfl (fun v8 => ?_)
    refine kk_ob (fun b9 eb9 => ?_)
    subst eb9
    refine kk_ia hG (a := b9) rfl (fun v10 => ?_)
    refine kk_mx hG rfl rfl (Nat.le_of_ble_eq_true rfl) ?_
    exact kk_ri hG rfl rfl rfl k
  exact kk_wl hG [1] rfl (b20 _ _ _)
def C_Po_summaryOf_s2 (sa : Nat → Nat) (p0 : Nat) (p1 : Option Nat) (a2 : Int32) (s : cS) (kc ks : Nat) (Q : (Int32 → cS → Nat → Nat → Prop)) (P2 : (Int32 → cS → Nat → Nat → Prop)) : Prop := ob (gI s 4 8 p0) (fun v1 => (if a2 < v1 then (ob (gP s 4 7 p0) (fun v2 => (ob v2 (fun b3 => (ob (rQ s b3 a2) (fun v4 => (ob v4 (fun b5 => (okO s 5 b5 ∧ C_Pr_covers sa b5 p1 s kc ks (fun r6 sr6 cr6 dr6 => (if r6 = 0 then ((P2 (a2 + (1 : Int32)) sr6 cr6 dr6)) else ((Q a2 sr6 cr6 dr6))))))))))))) else ((Q ((-1) : Int32) s kc ks))))
def C_Po_summaryOf_b2 (sa : Nat → Nat) (p0 : Nat) (p1 : Option Nat) (a2 : Int32) (s : cS) (kc ks : Nat) (Q : (Int32 → cS → Nat → Nat → Prop)) : Prop := ∀ P2 : (Int32 → cS → Nat → Nat → Prop), (∀ (a2 : Int32) (s : cS) (kc ks : Nat), C_Po_summaryOf_s2 sa p0 p1 a2 s kc ks Q P2 → P2 a2 s kc ks) → P2 a2 s kc ks
def C_Po_summaryOf (sa : Nat → Nat) (p0 : Nat) (p1 : Option Nat) (s : cS) (kc ks : Nat) (Q : (Int32 → cS → Nat → Nat → Prop)) : Prop := (C_Po_summaryOf_b2 sa p0 p1 (0 : Int32) s kc ks Q)
set_option maxRecDepth 100000 in
set_option maxHeartbeats 4000000 in
theorem kc_Po_summaryOf (base : Nat) (sa : Nat → Nat) {R : pmM} {s : cS} {kc ks : Nat} {Rt : pmR} {p0 : Nat} {p1 : Option Nat} {Q : (Int32 → cS → Nat → Nat → Prop)} (hw : cW sa R base s) (h : C_Po_summaryOf sa p0 p1 s kc ks Q) (k : ∀ r s' kc' ks', cW sa R base s' → Q r s' kc' ks' → Rt (some (.int r)) (cM R s') kc' ks') : kP_Po_summaryOf base sa [.ref p0, va_rf p1] (cM R s) kc ks Rt := by
  refine ⟨by cases p1 <;> exact Nat.le_of_ble_eq_true rfl, fun G hG => ?_⟩
  have eL : lv_args 0 [.ref p0, va_rf p1] = [(0, va_rf (some p0)), (1, va_rf p1)] := by cases p1 <;> rfl
  rw [eL]
  have b2 : ∀ (a2 : Int32) (s : cS) (kc ks : Nat), KK sa R base G 2 [(0, va_rf (some p0)), (1, va_rf p1), (2, .int a2)] [] s kc ks (C_Po_summaryOf_b2 sa p0 p1 a2 s kc ks Q) := by
    have H : ∀ (P2 : (Int32 → cS → Nat → Nat → Prop)) (hP2 : ∀ (a2 : Int32) (s : cS) (kc ks : Nat), P2 a2 s kc ks → cW sa R base s → G 2 [(0, va_rf (some p0)), (1, va_rf p1), (2, .int a2)] [] (cM R s) kc ks) (a2 : Int32) (s : cS) (kc ks : Nat), KK sa R base G 2 [(0, va_rf (some p0)), (1, va_rf p1), (2, .int a2)] [] s kc ks (C_Po_summaryOf_s2 sa p0 p1 a2 s kc ks Q P2) := by
      intro P2 hP2
      intro a2 s kc ks
      refine kks hG rfl rfl ?_
      refine kk_aln hG (x := (some p0)) rfl rfl ?_
      refine kk_gi hG (c := 4) (k := 8) (a := p0) rfl rfl rfl rfl (fun v1 => ?_)
      refine kk_ige hG (t := 31) rfl rfl ?_ ?_
      · refine kk_ic hG rfl cc_im1 ?_
        exact kk_ri hG rfl rfl rfl k
      refine kk_aln hG (x := (some p0)) rfl rfl ?_
      refine kk_gp hG (c := 4) (k := 7) (a := p0) rfl rfl rfl rfl (fun v2 => ?_)
      refine kks hG rfl rfl ?_
      refine kk_ob (fun b3 eb3 => ?_)
      subst eb3
      refine kk_aa hG (a := b3) rfl (fun v4 => ?_)
      refine kk_aln hG (x := p1) rfl rfl ?_
      refine kk_ob (fun b5 eb5 => ?_)
      subst eb5
      refine kk_cx (w := .int) hG 0 rfl rfl (Nat.le_of_ble_eq_true rfl) (by decide) rfl (st' := []) rfl (cats_le (Nat.le_of_ble_eq_true rfl)) (fun _ hw h k => kk_rcv h.1 (kc_Pr_covers base sa hw h.2 k)) (fun r6 sr6 cr6 dr6 => ?_)
      refine kk_zeq hG (t := 25) rfl rfl ?_ ?_
      · refine kk_inc hG (L' := [(2, .int (a2 + (1 : Int32))), (0, va_rf (some p0)), (1, va_rf p1)]) rfl (Nat.le_of_ble_eq_true rfl) rfl cc_i1 (by cases p1 <;> rfl) ?_
        refine kk_go hG (t := 2) rfl rfl ?_
        exact kk_wl hG [1, 2, 0] rfl (fun hw h => hP2 _ _ _ _ h hw)
      refine kks hG rfl rfl ?_
      exact kk_ri hG rfl rfl rfl k
    exact fun a2 s kc ks hw h => h (fun a2 s kc ks => cW sa R base s → G 2 [(0, va_rf (some p0)), (1, va_rf p1), (2, .int a2)] [] (cM R s) kc ks) (fun a2 s kc ks hs hw => H _ (fun _ _ _ _ hp hw => hp hw) a2 s kc ks hw hs) hw
  refine (show KK sa R base G 0 [(0, va_rf (some p0)), (1, va_rf p1)] [] s kc ks (C_Po_summaryOf sa p0 p1 s kc ks Q) from ?_) hw h
  refine kk_ic hG rfl cc_i0 ?_
  refine kk_st hG (L' := [(2, .int (0 : Int32)), (0, va_rf (some p0)), (1, va_rf p1)]) rfl rfl (Nat.le_of_ble_eq_true rfl) (by cases p1 <;> rfl) ?_
  exact kk_wl hG [1, 2, 0] rfl (b2 _ _ _ _)
def C_Pr_order (sa : Nat → Nat) (p0 : Nat) (p1 : Option Nat) (s : cS) (kc ks : Nat) (Q : (Int32 → cS → Nat → Nat → Prop)) : Prop := ob (gI s 5 0 p0) (fun v1 => (ob p1 (fun b2 => (ob (gI s 5 0 b2) (fun v3 => (if v1 = v3 then (ob (gJ s 5 1 p0) (fun v4 => (ob (gJ s 5 1 b2) (fun v5 => (if v4 = v5 then (ob (gJ s 5 2 p0) (fun v6 => (ob (gJ s 5 2 b2) (fun v7 => (if v6 = v7 then (ob (gI s 5 3 p0) (fun v8 => (ob (gI s 5 3 b2) (fun v9 => (Q (v8 - v9) s kc ks))))) else (ob (gJ s 5 2 p0) (fun v10 => (ob (gJ s 5 2 b2) (fun v11 => (if (v10 + ((-9223372036854775808) : Int64)) < (v11 + ((-9223372036854775808) : Int64)) then (Q ((-1) : Int32) s kc ks) else (Q (1 : Int32) s kc ks))))))))))) else (ob (gJ s 5 1 p0) (fun v12 => (ob (gJ s 5 1 b2) (fun v13 => (if (v12 + ((-9223372036854775808) : Int64)) < (v13 + ((-9223372036854775808) : Int64)) then (Q ((-1) : Int32) s kc ks) else (Q (1 : Int32) s kc ks))))))))))) else (ob (gI s 5 0 p0) (fun v14 => (ob (gI s 5 0 b2) (fun v15 => (Q (v14 - v15) s kc ks)))))))))))
set_option maxRecDepth 100000 in
set_option maxHeartbeats 4000000 in
theorem kc_Pr_order (base : Nat) (sa : Nat → Nat) {R : pmM} {s : cS} {kc ks : Nat} {Rt : pmR} {p0 : Nat} {p1 : Option Nat} {Q : (Int32 → cS → Nat → Nat → Prop)} (hw : cW sa R base s) (h : C_Pr_order sa p0 p1 s kc ks Q) (k : ∀ r s' kc' ks', cW sa R base s' → Q r s' kc' ks' → Rt (some (.int r)) (cM R s') kc' ks') : kP_Pr_order base sa [.ref p0, va_rf p1] (cM R s) kc ks Rt := by
  refine ⟨by cases p1 <;> exact Nat.le_of_ble_eq_true rfl, fun G hG => ?_⟩
  have eL : lv_args 0 [.ref p0, va_rf p1] = [(0, va_rf (some p0)), (1, va_rf p1)] := by cases p1 <;> rfl
  rw [eL]
  refine (show KK sa R base G 0 [(0, va_rf (some p0)), (1, va_rf p1)] [] s kc ks (C_Pr_order sa p0 p1 s kc ks Q) from ?_) hw h
  refine kk_aln hG (x := (some p0)) rfl rfl ?_
  refine kk_gi hG (c := 5) (k := 0) (a := p0) rfl rfl rfl rfl (fun v1 => ?_)
  refine kk_aln hG (x := p1) rfl rfl ?_
  refine kk_ob (fun b2 eb2 => ?_)
  subst eb2
  refine kk_gi hG (c := 5) (k := 0) (a := b2) rfl rfl rfl rfl (fun v3 => ?_)
  refine kk_ieq hG (t := 21) rfl rfl ?_ ?_
  · refine kk_aln hG (x := (some p0)) rfl rfl ?_
    refine kk_gj hG (c := 5) (k := 1) (a := p0) rfl rfl rfl rfl (fun v4 => ?_)
    refine kk_aln hG (x := (some b2)) rfl rfl ?_
    refine kk_gj hG (c := 5) (k := 1) (a := b2) rfl rfl rfl rfl (fun v5 => ?_)
    refine kks hG rfl rfl ?_
    refine kk_leq hG (t := 59) rfl rfl ?_ ?_
    · refine kk_aln hG (x := (some p0)) rfl rfl ?_
      refine kk_gj hG (c := 5) (k := 2) (a := p0) rfl rfl rfl rfl (fun v6 => ?_)
      refine kk_aln hG (x := (some b2)) rfl rfl ?_
      refine kk_gj hG (c := 5) (k := 2) (a := b2) rfl rfl rfl rfl (fun v7 => ?_)
      refine kks hG rfl rfl ?_
      refine kk_leq hG (t := 97) rfl rfl ?_ ?_
      · refine kk_aln hG (x := (some p0)) rfl rfl ?_
        refine kk_gi hG (c := 5) (k := 3) (a := p0) rfl rfl rfl rfl (fun v8 => ?_)
        refine kk_aln hG (x := (some b2)) rfl rfl ?_
        refine kk_gi hG (c := 5) (k := 3) (a := b2) rfl rfl rfl rfl (fun v9 => ?_)
        refine kks hG rfl rfl ?_
        exact kk_ri hG rfl rfl rfl k
      refine kk_aln hG (x := (some p0)) rfl rfl ?_
      refine kk_gj hG (c := 5) (k := 2) (a := p0) rfl rfl rfl rfl (fun v10 => ?_)
      refine kk_l2 hG (v := ((-9223372036854775808) : Int64)) rfl rfl ?_
      refine kks hG rfl rfl ?_
      refine kk_aln hG (x := (some b2)) rfl rfl ?_
      refine kk_gj hG (c := 5) (k := 2) (a := b2) rfl rfl rfl rfl (fun v11 => ?_)
      refine kk_l2 hG (v := ((-9223372036854775808) : Int64)) rfl rfl ?_
      refine kks hG rfl rfl ?_
      refine kks hG rfl rfl ?_
      refine kk_lge hG (t := 95) rfl rfl ?_ ?_
      · refine kk_ic hG rfl cc_i1 ?_
        exact kk_ri hG rfl rfl rfl k
      refine kk_ic hG rfl cc_im1 ?_
      refine kk_go hG (t := 96) rfl rfl ?_
      exact kk_ri hG rfl rfl rfl k
    refine kk_aln hG (x := (some p0)) rfl rfl ?_
    refine kk_gj hG (c := 5) (k := 1) (a := p0) rfl rfl rfl rfl (fun v12 => ?_)
    refine kk_l2 hG (v := ((-9223372036854775808) : Int64)) rfl rfl ?_
    refine kks hG rfl rfl ?_
    refine kk_aln hG (x := (some b2)) rfl rfl ?_
    refine kk_gj hG (c := 5) (k := 1) (a := b2) rfl rfl rfl rfl (fun v13 => ?_)
    refine kk_l2 hG (v := ((-9223372036854775808) : Int64)) rfl rfl ?_
    refine kks hG rfl rfl ?_
    refine kks hG rfl rfl ?_
    refine kk_lge hG (t := 57) rfl rfl ?_ ?_
    · refine kk_ic hG rfl cc_i1 ?_
      exact kk_ri hG rfl rfl rfl k
    refine kk_ic hG rfl cc_im1 ?_
    refine kk_go hG (t := 58) rfl rfl ?_
    exact kk_ri hG rfl rfl rfl k
  refine kk_aln hG (x := (some p0)) rfl rfl ?_
  refine kk_gi hG (c := 5) (k := 0) (a := p0) rfl rfl rfl rfl (fun v14 => ?_)
  refine kk_aln hG (x := (some b2)) rfl rfl ?_
  refine kk_gi hG (c := 5) (k := 0) (a := b2) rfl rfl rfl rfl (fun v15 => ?_)
  refine kks hG rfl rfl ?_
  exact kk_ri hG rfl rfl rfl k
def C_Ta_placeOf_b59 (sa : Nat → Nat) (p0 : Nat) (p1 : Option Nat) (a2 : Int32) (a3 : Int32) (a4 : Int32) (s : cS) (kc ks : Nat) (Q : (Int32 → cS → Nat → Nat → Prop)) (P10 : (Int32 → Int32 → Int32 → cS → Nat → Nat → Prop)) : Prop := (P10 a2 a3 (a4 + (1 : Int32)) s kc ks)
def C_Ta_placeOf_s10 (sa : Nat → Nat) (p0 : Nat) (p1 : Option Nat) (a2 : Int32) (a3 : Int32) (a4 : Int32) (s : cS) (kc ks : Nat) (Q : (Int32 → cS → Nat → Nat → Prop)) (P10 : (Int32 → Int32 → Int32 → cS → Nat → Nat → Prop)) : Prop := if a4 < (32 : Int32) then (if a2 < a3 then (ob (gP s 10 0 p0) (fun v1 => (ob v1 (fun b2 => (ob (rQ s b2 (a2 + ((a3 - a2) / (2 : Int32)))) (fun v3 => (ob v3 (fun b4 => (ob (gP s 8 0 b4) (fun v5 => (ob v5 (fun b6 => (okO s 5 b6 ∧ C_Pr_order sa b6 p1 s kc ks (fun r7 sr7 cr7 dr7 => (if r7 < 0 then ((C_Ta_placeOf_b59 sa p0 p1 ((a2 + ((a3 - a2) / (2 : Int32))) + (1 : Int32)) a3 a4 sr7 cr7 dr7 Q P10)) else ((C_Ta_placeOf_b59 sa p0 p1 a2 (a2 + ((a3 - a2) / (2 : Int32))) a4 sr7 cr7 dr7 Q P10))))))))))))))))) else ((Q a2 s kc ks))) else ((Q a2 s kc ks))
def C_Ta_placeOf_b10 (sa : Nat → Nat) (p0 : Nat) (p1 : Option Nat) (a2 : Int32) (a3 : Int32) (a4 : Int32) (s : cS) (kc ks : Nat) (Q : (Int32 → cS → Nat → Nat → Prop)) : Prop := ∀ P10 : (Int32 → Int32 → Int32 → cS → Nat → Nat → Prop), (∀ (a2 : Int32) (a3 : Int32) (a4 : Int32) (s : cS) (kc ks : Nat), C_Ta_placeOf_s10 sa p0 p1 a2 a3 a4 s kc ks Q P10 → P10 a2 a3 a4 s kc ks) → P10 a2 a3 a4 s kc ks
def C_Ta_placeOf (sa : Nat → Nat) (p0 : Nat) (p1 : Option Nat) (s : cS) (kc ks : Nat) (Q : (Int32 → cS → Nat → Nat → Prop)) : Prop := ob (gI s 10 1 p0) (fun v1 => ((C_Ta_placeOf_b10 sa p0 p1 (0 : Int32) v1 (0 : Int32) s kc ks Q)))
set_option maxRecDepth 100000 in
set_option maxHeartbeats 4000000 in
theorem kc_Ta_placeOf (base : Nat) (sa : Nat → Nat) {R : pmM} {s : cS} {kc ks : Nat} {Rt : pmR} {p0 : Nat} {p1 : Option Nat} {Q : (Int32 → cS → Nat → Nat → Prop)} (hw : cW sa R base s) (h : C_Ta_placeOf sa p0 p1 s kc ks Q) (k : ∀ r s' kc' ks', cW sa R base s' → Q r s' kc' ks' → Rt (some (.int r)) (cM R s') kc' ks') : kP_Ta_placeOf base sa [.ref p0, va_rf p1] (cM R s) kc ks Rt := by
  refine ⟨by cases p1 <;> exact Nat.le_of_ble_eq_true rfl, fun G hG => ?_⟩
  have eL : lv_args 0 [.ref p0, va_rf p1] = [(0, va_rf (some p0)), (1, va_rf p1)] := by cases p1 <;> rfl
  rw [eL]
  have b10 : ∀ (a2 : Int32) (a3 : Int32) (a4 : Int32) (s : cS) (kc ks : Nat), KK sa R base G 10 [(0, va_rf (some p0)), (1, va_rf p1), (2, .int a2), (3, .int a3), (4, .int a4)] [] s kc ks (C_Ta_placeOf_b10 sa p0 p1 a2 a3 a4 s kc ks Q) := by
    have H : ∀ (P10 : (Int32 → Int32 → Int32 → cS → Nat → Nat → Prop)) (hP10 : ∀ (a2 : Int32) (a3 : Int32) (a4 : Int32) (s : cS) (kc ks : Nat), P10 a2 a3 a4 s kc ks → cW sa R base s → G 10 [(0, va_rf (some p0)), (1, va_rf p1), (2, .int a2), (3, .int a3), (4, .int a4)] [] (cM R s) kc ks) (a2 : Int32) (a3 : Int32) (a4 : Int32) (s : cS) (kc ks : Nat), KK sa R base G 10 [(0, va_rf (some p0)), (1, va_rf p1), (2, .int a2), (3, .int a3), (4, .int a4)] [] s kc ks (C_Ta_placeOf_s10 sa p0 p1 a2 a3 a4 s kc ks Q P10) := by
      intro P10 hP10
      have b59 : ∀ (a2 : Int32) (a3 : Int32) (a4 : Int32) (s : cS) (kc ks : Nat), KK sa R base G 59 [(0, va_rf (some p0)), (1, va_rf p1), (2, .int a2), (3, .int a3), (4, .int a4)] [] s kc ks (C_Ta_placeOf_b59 sa p0 p1 a2 a3 a4 s kc ks Q P10) := by
        intro a2 a3 a4 s kc ks
        refine kk_inc hG (L' := [(4, .int (a4 + (1 : Int32))), (0, va_rf (some p0)), (1, va_rf p1), (2, .int a2), (3, .int a3)]) rfl (Nat.le_of_ble_eq_true rfl) rfl cc_i1 rfl ?_
        refine kk_go hG (t := 10) rfl rfl ?_
        exact kk_wl hG [1, 2, 3, 4, 0] rfl (fun hw h => hP10 _ _ _ _ _ _ h hw)
      intro a2 a3 a4 s kc ks
      refine kks hG rfl rfl ?_
      refine kk_bi hG rfl cc_b32 ?_
      refine kk_ige hG (t := 65) rfl rfl ?_ ?_
      · refine kks hG rfl rfl ?_
        exact kk_ri hG rfl rfl rfl k
      refine kks hG rfl rfl ?_
      refine kks hG rfl rfl ?_
      refine kk_ige hG (t := 65) rfl rfl ?_ ?_
      · refine kks hG rfl rfl ?_
        exact kk_ri hG rfl rfl rfl k
      refine kks hG rfl rfl ?_
      refine kks hG rfl rfl ?_
      refine kks hG rfl rfl ?_
      refine kks hG rfl rfl ?_
      refine kk_ic hG rfl cc_i2 ?_
      refine kkc hG rfl rfl (by decide) ?_
      refine kks hG rfl rfl ?_
      refine kk_st hG (L' := [(5, .int (a2 + ((a3 - a2) / (2 : Int32)))), (0, va_rf (some p0)), (1, va_rf p1), (2, .int a2), (3, .int a3), (4, .int a4)]) rfl rfl (Nat.le_of_ble_eq_true rfl) rfl ?_
      refine kk_aln hG (x := (some p0)) rfl rfl ?_
      refine kk_gp hG (c := 10) (k := 0) (a := p0) rfl rfl rfl rfl (fun v1 => ?_)
      refine kks hG rfl rfl ?_
      refine kk_ob (fun b2 eb2 => ?_)
      subst eb2
      refine kk_aa hG (a := b2) rfl (fun v3 => ?_)
      refine kk_ob (fun b4 eb4 => ?_)
      subst eb4
      refine kk_gp hG (c := 8) (k := 0) (a := b4) rfl rfl rfl rfl (fun v5 => ?_)
      refine kk_aln hG (x := p1) rfl rfl ?_
      refine kk_ob (fun b6 eb6 => ?_)
      subst eb6
      refine kk_cx (w := .int) hG 0 rfl rfl (Nat.le_of_ble_eq_true rfl) (by decide) rfl (st' := []) rfl (cats_le (Nat.le_of_ble_eq_true rfl)) (fun _ hw h k => kk_rcv h.1 (kc_Pr_order base sa hw h.2 k)) (fun r7 sr7 cr7 dr7 => ?_)
      refine kk_zge hG (t := 56) rfl rfl ?_ ?_
      · refine kks hG rfl rfl ?_
        refine kk_st hG (L' := [(3, .int (a2 + ((a3 - a2) / (2 : Int32)))), (5, .int (a2 + ((a3 - a2) / (2 : Int32)))), (0, va_rf (some p0)), (1, va_rf p1), (2, .int a2), (4, .int a4)]) rfl rfl (Nat.le_of_ble_eq_true rfl) rfl ?_
        exact kk_wl hG [2, 3, 4, 0, 5] rfl (b59 _ _ _ _ _ _)
      refine kks hG rfl rfl ?_
      refine kk_ic hG rfl cc_i1 ?_
      refine kks hG rfl rfl ?_
      refine kk_st hG (L' := [(2, .int ((a2 + ((a3 - a2) / (2 : Int32))) + (1 : Int32))), (5, .int (a2 + ((a3 - a2) / (2 : Int32)))), (0, va_rf (some p0)), (1, va_rf p1), (3, .int a3), (4, .int a4)]) rfl rfl (Nat.le_of_ble_eq_true rfl) (by cases p1 <;> rfl) ?_
      refine kk_go hG (t := 59) rfl rfl ?_
      exact kk_wl hG [2, 3, 0, 4, 5] rfl (b59 _ _ _ _ _ _)
    exact fun a2 a3 a4 s kc ks hw h => h (fun a2 a3 a4 s kc ks => cW sa R base s → G 10 [(0, va_rf (some p0)), (1, va_rf p1), (2, .int a2), (3, .int a3), (4, .int a4)] [] (cM R s) kc ks) (fun a2 a3 a4 s kc ks hs hw => H _ (fun _ _ _ _ _ _ hp hw => hp hw) a2 a3 a4 s kc ks hw hs) hw
  refine (show KK sa R base G 0 [(0, va_rf (some p0)), (1, va_rf p1)] [] s kc ks (C_Ta_placeOf sa p0 p1 s kc ks Q) from ?_) hw h
  refine kk_ic hG rfl cc_i0 ?_
  refine kk_st hG (L' := [(2, .int (0 : Int32)), (0, va_rf (some p0)), (1, va_rf p1)]) rfl rfl (Nat.le_of_ble_eq_true rfl) (by cases p1 <;> rfl) ?_
  refine kk_aln hG (x := (some p0)) rfl rfl ?_
  refine kk_gi hG (c := 10) (k := 1) (a := p0) rfl rfl rfl rfl (fun v1 => ?_)
  refine kk_st hG (L' := [(3, .int v1), (2, .int (0 : Int32)), (0, va_rf (some p0)), (1, va_rf p1)]) rfl rfl (Nat.le_of_ble_eq_true rfl) rfl ?_
  refine kk_ic hG rfl cc_i0 ?_
  refine kk_st hG (L' := [(4, .int (0 : Int32)), (3, .int v1), (2, .int (0 : Int32)), (0, va_rf (some p0)), (1, va_rf p1)]) rfl rfl (Nat.le_of_ble_eq_true rfl) rfl ?_
  exact kk_wl hG [3, 4, 2, 1, 0] rfl (b10 _ _ _ _ _ _)
def C_Pr_init (sa : Nat → Nat) (p0 : Nat) (s : cS) (kc ks : Nat) (Q : (cS → Nat → Nat → Prop)) : Prop := ob (pI s 5 0 p0 (4 : Int32)) (fun s1 => (ob (pJ s1 5 1 p0 (0 : Int64)) (fun s2 => (ob (pJ s2 5 2 p0 (0 : Int64)) (fun s3 => (ob (pI s3 5 3 p0 (0 : Int32)) (fun s4 => (Q s4 kc ks))))))))
set_option maxRecDepth 100000 in
set_option maxHeartbeats 4000000 in
theorem kc_Pr_init (base : Nat) (sa : Nat → Nat) {R : pmM} {s : cS} {kc ks : Nat} {Rt : pmR} {p0 : Nat} {Q : (cS → Nat → Nat → Prop)} (hw : cW sa R base s) (h : C_Pr_init sa p0 s kc ks Q) (k : ∀ s' kc' ks', cW sa R base s' → Q s' kc' ks' → Rt none (cM R s') kc' ks') : kP_Pr_init base sa [.ref p0] (cM R s) kc ks Rt := by
  refine ⟨Nat.le_of_ble_eq_true rfl, fun G hG => ?_⟩
  refine (show KK sa R base G 0 [(0, va_rf (some p0))] [] s kc ks (C_Pr_init sa p0 s kc ks Q) from ?_) hw h
  refine kk_aln hG (x := (some p0)) rfl rfl ?_
  refine kk_oi hG (a := p0) rfl rfl (Nat.le_of_ble_eq_true rfl) ?_
  refine kk_aln hG (x := (some p0)) rfl rfl ?_
  refine kk_ic hG rfl cc_i4 ?_
  refine kk_pi hG (c := 5) (k := 0) (a := p0) rfl rfl rfl rfl (fun s1 => ?_)
  refine kk_aln hG (x := (some p0)) rfl rfl ?_
  refine kk_lc hG (c := 0) (v := 0) rfl rfl ?_
  refine kk_pj hG (c := 5) (k := 1) (a := p0) rfl rfl rfl rfl (fun s2 => ?_)
  refine kk_aln hG (x := (some p0)) rfl rfl ?_
  refine kk_lc hG (c := 0) (v := 0) rfl rfl ?_
  refine kk_pj hG (c := 5) (k := 2) (a := p0) rfl rfl rfl rfl (fun s3 => ?_)
  refine kk_aln hG (x := (some p0)) rfl rfl ?_
  refine kk_ic hG rfl cc_i0 ?_
  refine kk_pi hG (c := 5) (k := 3) (a := p0) rfl rfl rfl rfl (fun s4 => ?_)
  exact kk_rv hG rfl rfl k
def C_Ro_init (sa : Nat → Nat) (p0 : Nat) (s : cS) (kc ks : Nat) (Q : (cS → Nat → Nat → Prop)) : Prop := nwO s kc ks 5 4 (fun q1 sq1 cq1 dq1 => (okO sq1 5 q1 ∧ C_Pr_init sa q1 sq1 cq1 dq1 (fun sr2 cr2 dr2 => (ob (pP sr2 8 0 p0 (some q1)) (fun s3 => (nwO s3 cr2 dr2 5 4 (fun q4 sq4 cq4 dq4 => (okO sq4 5 q4 ∧ C_Pr_init sa q4 sq4 cq4 dq4 (fun sr5 cr5 dr5 => (ob (pP sr5 8 1 p0 (some q4)) (fun s6 => (nwO s6 cr5 dr5 5 4 (fun q7 sq7 cq7 dq7 => (okO sq7 5 q7 ∧ C_Pr_init sa q7 sq7 cq7 dq7 (fun sr8 cr8 dr8 => (ob (pP sr8 8 2 p0 (some q7)) (fun s9 => (ob (pI s9 8 3 p0 (2 : Int32)) (fun s10 => (ob (pI s10 8 4 p0 (16 : Int32)) (fun s11 => (ob (pI s11 8 5 p0 (0 : Int32)) (fun s12 => (ob (pP s12 8 6 p0 none) (fun s13 => (ob (pZ s13 8 7 p0 (0 : Int32)) (fun s14 => (ob (pI s14 8 8 p0 (0 : Int32)) (fun s15 => (ob (pI s15 8 9 p0 (0 : Int32)) (fun s16 => (ob (pI s16 8 10 p0 (0 : Int32)) (fun s17 => (Q s17 cr8 dr8))))))))))))))))))))))))))))))))))
set_option maxRecDepth 100000 in
set_option maxHeartbeats 4000000 in
theorem kc_Ro_init (base : Nat) (sa : Nat → Nat) {R : pmM} {s : cS} {kc ks : Nat} {Rt : pmR} {p0 : Nat} {Q : (cS → Nat → Nat → Prop)} (hw : cW sa R base s) (h : C_Ro_init sa p0 s kc ks Q) (k : ∀ s' kc' ks', cW sa R base s' → Q s' kc' ks' → Rt none (cM R s') kc' ks') : kP_Ro_init base sa [.ref p0] (cM R s) kc ks Rt := by
  refine ⟨Nat.le_of_ble_eq_true rfl, fun G hG => ?_⟩
  refine (show KK sa R base G 0 [(0, va_rf (some p0))] [] s kc ks (C_Ro_init sa p0 s kc ks Q) from ?_) hw h
  refine kk_aln hG (x := (some p0)) rfl rfl ?_
  refine kk_oi hG (a := p0) rfl rfl (Nat.le_of_ble_eq_true rfl) ?_
  refine kk_aln hG (x := (some p0)) rfl rfl ?_
  refine kk_new hG (c := 5) (n := 4) rfl rfl rfl rfl (fun q1 sq1 cq1 dq1 => ?_)
  refine kk_dup hG (x := (some q1)) rfl ?_
  refine kk_cv hG 1 rfl rfl (Nat.le_of_ble_eq_true rfl) (by decide) rfl (st' := [va_rf (some q1), va_rf (some p0)]) rfl (cats_le (Nat.le_of_ble_eq_true rfl)) (fun _ hw h k => kk_rcv h.1 (kc_Pr_init base sa hw h.2 k)) (fun sr2 cr2 dr2 => ?_)
  refine kk_pp hG (c := 8) (k := 0) (a := p0) (v := (some q1)) rfl rfl rfl rfl rfl (fun s3 => ?_)
  refine kk_aln hG (x := (some p0)) rfl rfl ?_
  refine kk_new hG (c := 5) (n := 4) rfl rfl rfl rfl (fun q4 sq4 cq4 dq4 => ?_)
  refine kk_dup hG (x := (some q4)) rfl ?_
  refine kk_cv hG 1 rfl rfl (Nat.le_of_ble_eq_true rfl) (by decide) rfl (st' := [va_rf (some q4), va_rf (some p0)]) rfl (cats_le (Nat.le_of_ble_eq_true rfl)) (fun _ hw h k => kk_rcv h.1 (kc_Pr_init base sa hw h.2 k)) (fun sr5 cr5 dr5 => ?_)
  refine kk_pp hG (c := 8) (k := 1) (a := p0) (v := (some q4)) rfl rfl rfl rfl rfl (fun s6 => ?_)
  refine kk_aln hG (x := (some p0)) rfl rfl ?_
  refine kk_new hG (c := 5) (n := 4) rfl rfl rfl rfl (fun q7 sq7 cq7 dq7 => ?_)
  refine kk_dup hG (x := (some q7)) rfl ?_
  refine kk_cv hG 1 rfl rfl (Nat.le_of_ble_eq_true rfl) (by decide) rfl (st' := [va_rf (some q7), va_rf (some p0)]) rfl (cats_le (Nat.le_of_ble_eq_true rfl)) (fun _ hw h k => kk_rcv h.1 (kc_Pr_init base sa hw h.2 k)) (fun sr8 cr8 dr8 => ?_)
  refine kk_pp hG (c := 8) (k := 2) (a := p0) (v := (some q7)) rfl rfl rfl rfl rfl (fun s9 => ?_)
  refine kk_aln hG (x := (some p0)) rfl rfl ?_
  refine kk_ic hG rfl cc_i2 ?_
  refine kk_pi hG (c := 8) (k := 3) (a := p0) rfl rfl rfl rfl (fun s10 => ?_)
  refine kk_aln hG (x := (some p0)) rfl rfl ?_
  refine kk_bi hG rfl cc_b16 ?_
  refine kk_pi hG (c := 8) (k := 4) (a := p0) rfl rfl rfl rfl (fun s11 => ?_)
  refine kk_aln hG (x := (some p0)) rfl rfl ?_
  refine kk_ic hG rfl cc_i0 ?_
  refine kk_pi hG (c := 8) (k := 5) (a := p0) rfl rfl rfl rfl (fun s12 => ?_)
  refine kk_aln hG (x := (some p0)) rfl rfl ?_
  refine kks hG rfl rfl ?_
  refine kk_pp hG (c := 8) (k := 6) (a := p0) (v := none) rfl rfl rfl rfl rfl (fun s13 => ?_)
  refine kk_aln hG (x := (some p0)) rfl rfl ?_
  refine kk_ic hG rfl cc_i0 ?_
  refine kk_pz hG (c := 8) (k := 7) (a := p0) rfl rfl rfl rfl (fun s14 => ?_)
  refine kk_aln hG (x := (some p0)) rfl rfl ?_
  refine kk_ic hG rfl cc_i0 ?_
  refine kk_pi hG (c := 8) (k := 8) (a := p0) rfl rfl rfl rfl (fun s15 => ?_)
  refine kk_aln hG (x := (some p0)) rfl rfl ?_
  refine kk_ic hG rfl cc_i0 ?_
  refine kk_pi hG (c := 8) (k := 9) (a := p0) rfl rfl rfl rfl (fun s16 => ?_)
  refine kk_aln hG (x := (some p0)) rfl rfl ?_
  refine kk_ic hG rfl cc_i0 ?_
  refine kk_pi hG (c := 8) (k := 10) (a := p0) rfl rfl rfl rfl (fun s17 => ?_)
  exact kk_rv hG rfl rfl k
def C_Pr_bitsOf (sa : Nat → Nat) (p0 : Int32) (s : cS) (kc ks : Nat) (Q : (Int32 → cS → Nat → Nat → Prop)) : Prop := if p0 = (4 : Int32) then (Q (32 : Int32) s kc ks) else (Q (128 : Int32) s kc ks)
set_option maxRecDepth 100000 in
set_option maxHeartbeats 4000000 in
theorem kc_Pr_bitsOf (base : Nat) (sa : Nat → Nat) {R : pmM} {s : cS} {kc ks : Nat} {Rt : pmR} {p0 : Int32} {Q : (Int32 → cS → Nat → Nat → Prop)} (hw : cW sa R base s) (h : C_Pr_bitsOf sa p0 s kc ks Q) (k : ∀ r s' kc' ks', cW sa R base s' → Q r s' kc' ks' → Rt (some (.int r)) (cM R s') kc' ks') : kP_Pr_bitsOf base sa [.int p0] (cM R s) kc ks Rt := by
  refine ⟨Nat.le_of_ble_eq_true rfl, fun G hG => ?_⟩
  refine (show KK sa R base G 0 [(0, .int p0)] [] s kc ks (C_Pr_bitsOf sa p0 s kc ks Q) from ?_) hw h
  refine kks hG rfl rfl ?_
  refine kk_ic hG rfl cc_i4 ?_
  refine kk_ine hG (t := 10) rfl rfl ?_ ?_
  · refine kk_si hG rfl cc_s128 ?_
    exact kk_ri hG rfl rfl rfl k
  refine kk_bi hG rfl cc_b32 ?_
  refine kk_go hG (t := 13) rfl rfl ?_
  exact kk_ri hG rfl rfl rfl k
def C_Pr_copy (sa : Nat → Nat) (p0 : Nat) (p1 : Option Nat) (s : cS) (kc ks : Nat) (Q : (cS → Nat → Nat → Prop)) : Prop := ob p1 (fun b1 => (ob (gI s 5 0 b1) (fun v2 => (ob (pI s 5 0 p0 v2) (fun s3 => (ob (gJ s3 5 1 b1) (fun v4 => (ob (pJ s3 5 1 p0 v4) (fun s5 => (ob (gJ s5 5 2 b1) (fun v6 => (ob (pJ s5 5 2 p0 v6) (fun s7 => (ob (gI s7 5 3 b1) (fun v8 => (ob (pI s7 5 3 p0 v8) (fun s9 => (Q s9 kc ks))))))))))))))))))
set_option maxRecDepth 100000 in
set_option maxHeartbeats 4000000 in
theorem kc_Pr_copy (base : Nat) (sa : Nat → Nat) {R : pmM} {s : cS} {kc ks : Nat} {Rt : pmR} {p0 : Nat} {p1 : Option Nat} {Q : (cS → Nat → Nat → Prop)} (hw : cW sa R base s) (h : C_Pr_copy sa p0 p1 s kc ks Q) (k : ∀ s' kc' ks', cW sa R base s' → Q s' kc' ks' → Rt none (cM R s') kc' ks') : kP_Pr_copy base sa [.ref p0, va_rf p1] (cM R s) kc ks Rt := by
  refine ⟨by cases p1 <;> exact Nat.le_of_ble_eq_true rfl, fun G hG => ?_⟩
  have eL : lv_args 0 [.ref p0, va_rf p1] = [(0, va_rf (some p0)), (1, va_rf p1)] := by cases p1 <;> rfl
  rw [eL]
  refine (show KK sa R base G 0 [(0, va_rf (some p0)), (1, va_rf p1)] [] s kc ks (C_Pr_copy sa p0 p1 s kc ks Q) from ?_) hw h
  refine kk_aln hG (x := (some p0)) rfl rfl ?_
  refine kk_aln hG (x := p1) rfl rfl ?_
  refine kk_ob (fun b1 eb1 => ?_)
  subst eb1
  refine kk_gi hG (c := 5) (k := 0) (a := b1) rfl rfl rfl rfl (fun v2 => ?_)
  refine kk_pi hG (c := 5) (k := 0) (a := p0) rfl rfl rfl rfl (fun s3 => ?_)
  refine kk_aln hG (x := (some p0)) rfl rfl ?_
  refine kk_aln hG (x := (some b1)) rfl rfl ?_
  refine kk_gj hG (c := 5) (k := 1) (a := b1) rfl rfl rfl rfl (fun v4 => ?_)
  refine kk_pj hG (c := 5) (k := 1) (a := p0) rfl rfl rfl rfl (fun s5 => ?_)
  refine kk_aln hG (x := (some p0)) rfl rfl ?_
  refine kk_aln hG (x := (some b1)) rfl rfl ?_
  refine kk_gj hG (c := 5) (k := 2) (a := b1) rfl rfl rfl rfl (fun v6 => ?_)
  refine kk_pj hG (c := 5) (k := 2) (a := p0) rfl rfl rfl rfl (fun s7 => ?_)
  refine kk_aln hG (x := (some p0)) rfl rfl ?_
  refine kk_aln hG (x := (some b1)) rfl rfl ?_
  refine kk_gi hG (c := 5) (k := 3) (a := b1) rfl rfl rfl rfl (fun v8 => ?_)
  refine kk_pi hG (c := 5) (k := 3) (a := p0) rfl rfl rfl rfl (fun s9 => ?_)
  exact kk_rv hG rfl rfl k
def C_Pr_setZero (sa : Nat → Nat) (p0 : Nat) (p1 : Int32) (p2 : Int32) (s : cS) (kc ks : Nat) (Q : (cS → Nat → Nat → Prop)) : Prop := ob (pI s 5 0 p0 p1) (fun s1 => (ob (pJ s1 5 1 p0 (0 : Int64)) (fun s2 => (ob (pJ s2 5 2 p0 (0 : Int64)) (fun s3 => (ob (pI s3 5 3 p0 p2) (fun s4 => (Q s4 kc ks))))))))
set_option maxRecDepth 100000 in
set_option maxHeartbeats 4000000 in
theorem kc_Pr_setZero (base : Nat) (sa : Nat → Nat) {R : pmM} {s : cS} {kc ks : Nat} {Rt : pmR} {p0 : Nat} {p1 : Int32} {p2 : Int32} {Q : (cS → Nat → Nat → Prop)} (hw : cW sa R base s) (h : C_Pr_setZero sa p0 p1 p2 s kc ks Q) (k : ∀ s' kc' ks', cW sa R base s' → Q s' kc' ks' → Rt none (cM R s') kc' ks') : kP_Pr_setZero base sa [.ref p0, .int p1, .int p2] (cM R s) kc ks Rt := by
  refine ⟨Nat.le_of_ble_eq_true rfl, fun G hG => ?_⟩
  refine (show KK sa R base G 0 [(0, va_rf (some p0)), (1, .int p1), (2, .int p2)] [] s kc ks (C_Pr_setZero sa p0 p1 p2 s kc ks Q) from ?_) hw h
  refine kk_aln hG (x := (some p0)) rfl rfl ?_
  refine kks hG rfl rfl ?_
  refine kk_pi hG (c := 5) (k := 0) (a := p0) rfl rfl rfl rfl (fun s1 => ?_)
  refine kk_aln hG (x := (some p0)) rfl rfl ?_
  refine kk_lc hG (c := 0) (v := 0) rfl rfl ?_
  refine kk_pj hG (c := 5) (k := 1) (a := p0) rfl rfl rfl rfl (fun s2 => ?_)
  refine kk_aln hG (x := (some p0)) rfl rfl ?_
  refine kk_lc hG (c := 0) (v := 0) rfl rfl ?_
  refine kk_pj hG (c := 5) (k := 2) (a := p0) rfl rfl rfl rfl (fun s3 => ?_)
  refine kk_aln hG (x := (some p0)) rfl rfl ?_
  refine kks hG rfl rfl ?_
  refine kk_pi hG (c := 5) (k := 3) (a := p0) rfl rfl rfl rfl (fun s4 => ?_)
  exact kk_rv hG rfl rfl k
def C_Ro_begin (sa : Nat → Nat) (p0 : Nat) (p1 : Option Nat) (p2 : Int32) (p3 : Int32) (s : cS) (kc ks : Nat) (Q : (cS → Nat → Nat → Prop)) : Prop := ob p1 (fun b1 => (ob (gI s 5 0 b1) (fun v2 => (C_Pr_bitsOf sa v2 s kc ks (fun r3 sr3 cr3 dr3 => (ob (gP sr3 8 0 p0) (fun v4 => (ob v4 (fun b5 => (okO sr3 5 b5 ∧ C_Pr_copy sa b5 (some b1) sr3 cr3 dr3 (fun sr6 cr6 dr6 => (ob (gP sr6 8 1 p0) (fun v7 => (ob (gI sr6 5 0 b1) (fun v8 => (ob v7 (fun b9 => (okO sr6 5 b9 ∧ C_Pr_setZero sa b9 v8 r3 sr6 cr6 dr6 (fun sr10 cr10 dr10 => (ob (gP sr10 8 2 p0) (fun v11 => (ob (gI sr10 5 0 b1) (fun v12 => (ob v11 (fun b13 => (okO sr10 5 b13 ∧ C_Pr_setZero sa b13 v12 r3 sr10 cr10 dr10 (fun sr14 cr14 dr14 => (ob (pI sr14 8 3 p0 (2 : Int32)) (fun s15 => (ob (pP s15 8 6 p0 none) (fun s16 => (ob (pI s16 8 5 p0 p2) (fun s17 => (ob (pI s17 8 4 p0 p3) (fun s18 => (ob (pZ s18 8 7 p0 (0 : Int32)) (fun s19 => (Q s19 cr14 dr14))))))))))))))))))))))))))))))))))))))
set_option maxRecDepth 100000 in
set_option maxHeartbeats 4000000 in
theorem kc_Ro_begin (base : Nat) (sa : Nat → Nat) {R : pmM} {s : cS} {kc ks : Nat} {Rt : pmR} {p0 : Nat} {p1 : Option Nat} {p2 : Int32} {p3 : Int32} {Q : (cS → Nat → Nat → Prop)} (hw : cW sa R base s) (h : C_Ro_begin sa p0 p1 p2 p3 s kc ks Q) (k : ∀ s' kc' ks', cW sa R base s' → Q s' kc' ks' → Rt none (cM R s') kc' ks') : kP_Ro_begin base sa [.ref p0, va_rf p1, .int p2, .int p3] (cM R s) kc ks Rt := by
  refine ⟨by cases p1 <;> exact Nat.le_of_ble_eq_true rfl, fun G hG => ?_⟩
  have eL : lv_args 0 [.ref p0, va_rf p1, .int p2, .int p3] = [(0, va_rf (some p0)), (1, va_rf p1), (2, .int p2), (3, .int p3)] := by cases p1 <;> rfl
  rw [eL]
  refine (show KK sa R base G 0 [(0, va_rf (some p0)), (1, va_rf p1), (2, .int p2), (3, .int p3)] [] s kc ks (C_Ro_begin sa p0 p1 p2 p3 s kc ks Q) from ?_) hw h
  refine kk_aln hG (x := p1) rfl rfl ?_
  refine kk_ob (fun b1 eb1 => ?_)
  subst eb1
  refine kk_gi hG (c := 5) (k := 0) (a := b1) rfl rfl rfl rfl (fun v2 => ?_)
  refine kk_cx (w := .int) hG 2 rfl rfl (Nat.le_of_ble_eq_true rfl) (by decide) rfl (st' := []) rfl (cats_le (Nat.le_of_ble_eq_true rfl)) (fun _ hw h k => kc_Pr_bitsOf base sa hw h k) (fun r3 sr3 cr3 dr3 => ?_)
  refine kk_st hG (L' := [(4, .int r3), (0, va_rf (some p0)), (1, va_rf (some b1)), (2, .int p2), (3, .int p3)]) rfl rfl (Nat.le_of_ble_eq_true rfl) rfl ?_
  refine kk_aln hG (x := (some p0)) rfl rfl ?_
  refine kk_gp hG (c := 8) (k := 0) (a := p0) rfl rfl rfl rfl (fun v4 => ?_)
  refine kk_aln hG (x := (some b1)) rfl rfl ?_
  refine kk_ob (fun b5 eb5 => ?_)
  subst eb5
  refine kk_cv hG 0 rfl rfl (Nat.le_of_ble_eq_true rfl) (by decide) rfl (st' := []) rfl (cats_le (Nat.le_of_ble_eq_true rfl)) (fun _ hw h k => kk_rcv h.1 (kc_Pr_copy base sa hw h.2 k)) (fun sr6 cr6 dr6 => ?_)
  refine kk_aln hG (x := (some p0)) rfl rfl ?_
  refine kk_gp hG (c := 8) (k := 1) (a := p0) rfl rfl rfl rfl (fun v7 => ?_)
  refine kk_aln hG (x := (some b1)) rfl rfl ?_
  refine kk_gi hG (c := 5) (k := 0) (a := b1) rfl rfl rfl rfl (fun v8 => ?_)
  refine kks hG rfl rfl ?_
  refine kk_ob (fun b9 eb9 => ?_)
  subst eb9
  refine kk_cv hG 0 rfl rfl (Nat.le_of_ble_eq_true rfl) (by decide) rfl (st' := []) rfl (cats_le (Nat.le_of_ble_eq_true rfl)) (fun _ hw h k => kk_rcv h.1 (kc_Pr_setZero base sa hw h.2 k)) (fun sr10 cr10 dr10 => ?_)
  refine kk_aln hG (x := (some p0)) rfl rfl ?_
  refine kk_gp hG (c := 8) (k := 2) (a := p0) rfl rfl rfl rfl (fun v11 => ?_)
  refine kk_aln hG (x := (some b1)) rfl rfl ?_
  refine kk_gi hG (c := 5) (k := 0) (a := b1) rfl rfl rfl rfl (fun v12 => ?_)
  refine kks hG rfl rfl ?_
  refine kk_ob (fun b13 eb13 => ?_)
  subst eb13
  refine kk_cv hG 0 rfl rfl (Nat.le_of_ble_eq_true rfl) (by decide) rfl (st' := []) rfl (cats_le (Nat.le_of_ble_eq_true rfl)) (fun _ hw h k => kk_rcv h.1 (kc_Pr_setZero base sa hw h.2 k)) (fun sr14 cr14 dr14 => ?_)
  refine kk_aln hG (x := (some p0)) rfl rfl ?_
  refine kk_ic hG rfl cc_i2 ?_
  refine kk_pi hG (c := 8) (k := 3) (a := p0) rfl rfl rfl rfl (fun s15 => ?_)
  refine kk_aln hG (x := (some p0)) rfl rfl ?_
  refine kks hG rfl rfl ?_
  refine kk_pp hG (c := 8) (k := 6) (a := p0) (v := none) rfl rfl rfl rfl rfl (fun s16 => ?_)
  refine kk_aln hG (x := (some p0)) rfl rfl ?_
  refine kks hG rfl rfl ?_
  refine kk_pi hG (c := 8) (k := 5) (a := p0) rfl rfl rfl rfl (fun s17 => ?_)
  refine kk_aln hG (x := (some p0)) rfl rfl ?_
  refine kks hG rfl rfl ?_
  refine kk_pi hG (c := 8) (k := 4) (a := p0) rfl rfl rfl rfl (fun s18 => ?_)
  refine kk_aln hG (x := (some p0)) rfl rfl ?_
  refine kk_ic hG rfl cc_i0 ?_
  refine kk_pz hG (c := 8) (k := 7) (a := p0) rfl rfl rfl rfl (fun s19 => ?_)
  exact kk_rv hG rfl rfl k
def C_Ta_add_s98 (sa : Nat → Nat) (p0 : Nat) (p1 : Option Nat) (p2 : Int32) (p3 : Int32) (a4 : Int32) (a5 : Option Nat) (a6 : Int32) (s : cS) (kc ks : Nat) (Q : (Option Nat → cS → Nat → Nat → Prop)) (P98 : (Int32 → cS → Nat → Nat → Prop)) : Prop := if a4 < a6 then (ob (gP s 10 0 p0) (fun v8 => (ob (gP s 10 0 p0) (fun v9 => (ob v9 (fun b10 => (ob (rQ s b10 (a6 - (1 : Int32))) (fun v11 => (ob v8 (fun b12 => (ob (wQ s b12 a6 v11) (fun s13 => ((P98 (a6 + ((-1) : Int32)) s13 kc ks)))))))))))))) else ((ob (gP s 10 0 p0) (fun v1 => (ob v1 (fun b2 => (ob (wQ s b2 a4 a5) (fun s3 => (ob (gI s3 10 1 p0) (fun v4 => (ob (pI s3 10 1 p0 (v4 + (1 : Int32))) (fun s5 => (ob a5 (fun b6 => (okO s5 8 b6 ∧ C_Ro_begin sa b6 p1 p2 p3 s5 kc ks (fun sr7 cr7 dr7 => (Q (some b6) sr7 cr7 dr7))))))))))))))))
def C_Ta_add_b98 (sa : Nat → Nat) (p0 : Nat) (p1 : Option Nat) (p2 : Int32) (p3 : Int32) (a4 : Int32) (a5 : Option Nat) (a6 : Int32) (s : cS) (kc ks : Nat) (Q : (Option Nat → cS → Nat → Nat → Prop)) : Prop := ∀ P98 : (Int32 → cS → Nat → Nat → Prop), (∀ (a6 : Int32) (s : cS) (kc ks : Nat), C_Ta_add_s98 sa p0 p1 p2 p3 a4 a5 a6 s kc ks Q P98 → P98 a6 s kc ks) → P98 a6 s kc ks
def C_Ta_add_b92 (sa : Nat → Nat) (p0 : Nat) (p1 : Option Nat) (p2 : Int32) (p3 : Int32) (a4 : Int32) (a5 : Option Nat) (s : cS) (kc ks : Nat) (Q : (Option Nat → cS → Nat → Nat → Prop)) : Prop := ob (gI s 10 1 p0) (fun v1 => ((C_Ta_add_b98 sa p0 p1 p2 p3 a4 a5 v1 s kc ks Q)))
def C_Ta_add_b67 (sa : Nat → Nat) (p0 : Nat) (p1 : Option Nat) (p2 : Int32) (p3 : Int32) (a4 : Int32) (s : cS) (kc ks : Nat) (Q : (Option Nat → cS → Nat → Nat → Prop)) : Prop := ob (gP s 10 0 p0) (fun v1 => (ob (gI s 10 1 p0) (fun v2 => (ob v1 (fun b3 => (ob (rQ s b3 v2) (fun v4 => (if v4 = none then (nwO s kc ks 8 11 (fun q5 sq5 cq5 dq5 => (okO sq5 8 q5 ∧ C_Ro_init sa q5 sq5 cq5 dq5 (fun sr6 cr6 dr6 => ((C_Ta_add_b92 sa p0 p1 p2 p3 a4 (some q5) sr6 cr6 dr6 Q)))))) else ((C_Ta_add_b92 sa p0 p1 p2 p3 a4 v4 s kc ks Q))))))))))
def C_Ta_add_s34 (sa : Nat → Nat) (p0 : Nat) (p1 : Option Nat) (p2 : Int32) (p3 : Int32) (a4 : Int32) (a5 : Option Nat) (a6 : Int32) (s : cS) (kc ks : Nat) (Q : (Option Nat → cS → Nat → Nat → Prop)) (P34 : (Int32 → cS → Nat → Nat → Prop)) : Prop := ob (gI s 10 1 p0) (fun v1 => (if a6 < v1 then (ob (gP s 10 0 p0) (fun v3 => (ob v3 (fun b4 => (ob (rQ s b4 a6) (fun v5 => (ob a5 (fun b6 => (ob (wQ s b6 a6 v5) (fun s7 => ((P34 (a6 + (1 : Int32)) s7 kc ks)))))))))))) else ((ob (pP s 10 0 p0 a5) (fun s2 => ((C_Ta_add_b67 sa p0 p1 p2 p3 a4 s2 kc ks Q)))))))
def C_Ta_add_b34 (sa : Nat → Nat) (p0 : Nat) (p1 : Option Nat) (p2 : Int32) (p3 : Int32) (a4 : Int32) (a5 : Option Nat) (a6 : Int32) (s : cS) (kc ks : Nat) (Q : (Option Nat → cS → Nat → Nat → Prop)) : Prop := ∀ P34 : (Int32 → cS → Nat → Nat → Prop), (∀ (a6 : Int32) (s : cS) (kc ks : Nat), C_Ta_add_s34 sa p0 p1 p2 p3 a4 a5 a6 s kc ks Q P34 → P34 a6 s kc ks) → P34 a6 s kc ks
def C_Ta_add (sa : Nat → Nat) (p0 : Nat) (p1 : Option Nat) (p2 : Int32) (p3 : Int32) (s : cS) (kc ks : Nat) (Q : (Option Nat → cS → Nat → Nat → Prop)) : Prop := okO s 10 p0 ∧ C_Ta_placeOf sa p0 p1 s kc ks (fun r1 sr1 cr1 dr1 => (ob (gI sr1 10 1 p0) (fun v2 => (ob (gP sr1 10 0 p0) (fun v3 => (ob v3 (fun b4 => (ob (aL sr1 b4) (fun v5 => (if v2 < v5 then ((C_Ta_add_b67 sa p0 p1 p2 p3 r1 sr1 cr1 dr1 Q)) else (ob (gP sr1 10 0 p0) (fun v6 => (ob v6 (fun b7 => (ob (aL sr1 b7) (fun v8 => (nwQ sr1 cr1 dr1 "RoutingField$Route" (v8 * (2 : Int32)) (fun q9 sq9 cq9 dq9 => ((C_Ta_add_b34 sa p0 p1 p2 p3 r1 (some q9) (0 : Int32) sq9 cq9 dq9 Q))))))))))))))))))))
set_option maxRecDepth 100000 in
set_option maxHeartbeats 4000000 in
theorem kc_Ta_add (base : Nat) (sa : Nat → Nat) {R : pmM} {s : cS} {kc ks : Nat} {Rt : pmR} {p0 : Nat} {p1 : Option Nat} {p2 : Int32} {p3 : Int32} {Q : (Option Nat → cS → Nat → Nat → Prop)} (hw : cW sa R base s) (h : C_Ta_add sa p0 p1 p2 p3 s kc ks Q) (k : ∀ r s' kc' ks', cW sa R base s' → Q r s' kc' ks' → Rt (some (va_rf r)) (cM R s') kc' ks') : kP_Ta_add base sa [.ref p0, va_rf p1, .int p2, .int p3] (cM R s) kc ks Rt := by
  refine ⟨by cases p1 <;> exact Nat.le_of_ble_eq_true rfl, fun G hG => ?_⟩
  have eL : lv_args 0 [.ref p0, va_rf p1, .int p2, .int p3] = [(0, va_rf (some p0)), (1, va_rf p1), (2, .int p2), (3, .int p3)] := by cases p1 <;> rfl
  rw [eL]
  have b98 : ∀ (a4 : Int32) (a5 : Option Nat) (a6 : Int32) (s : cS) (kc ks : Nat), KK sa R base G 98 [(0, va_rf (some p0)), (1, va_rf p1), (2, .int p2), (3, .int p3), (4, .int a4), (5, va_rf a5), (6, .int a6)] [] s kc ks (C_Ta_add_b98 sa p0 p1 p2 p3 a4 a5 a6 s kc ks Q) := by
    intro a4 a5
    have H : ∀ (P98 : (Int32 → cS → Nat → Nat → Prop)) (hP98 : ∀ (a6 : Int32) (s : cS) (kc ks : Nat), P98 a6 s kc ks → cW sa R base s → G 98 [(0, va_rf (some p0)), (1, va_rf p1), (2, .int p2), (3, .int p3), (4, .int a4), (5, va_rf a5), (6, .int a6)] [] (cM R s) kc ks) (a6 : Int32) (s : cS) (kc ks : Nat), KK sa R base G 98 [(0, va_rf (some p0)), (1, va_rf p1), (2, .int p2), (3, .int p3), (4, .int a4), (5, va_rf a5), (6, .int a6)] [] s kc ks (C_Ta_add_s98 sa p0 p1 p2 p3 a4 a5 a6 s kc ks Q P98) := by
      intro P98 hP98
      intro a6 s kc ks
      refine kks hG rfl rfl ?_
      refine kks hG rfl rfl ?_
      refine kk_ile hG (t := 127) rfl rfl ?_ ?_
      · refine kk_aln hG (x := (some p0)) rfl rfl ?_
        refine kk_gp hG (c := 10) (k := 0) (a := p0) rfl rfl rfl rfl (fun v1 => ?_)
        refine kks hG rfl rfl ?_
        refine kk_al hG (x := a5) rfl rfl ?_
        refine kk_ob (fun b2 eb2 => ?_)
        subst eb2
        refine kk_aas hG (a := b2) (x := a5) rfl (fun s3 => ?_)
        refine kk_aln hG (x := (some p0)) rfl rfl ?_
        refine kk_dup hG (x := (some p0)) rfl ?_
        refine kk_gi hG (c := 10) (k := 1) (a := p0) rfl rfl rfl rfl (fun v4 => ?_)
        refine kk_ic hG rfl cc_i1 ?_
        refine kks hG rfl rfl ?_
        refine kk_pi hG (c := 10) (k := 1) (a := p0) rfl rfl rfl rfl (fun s5 => ?_)
        refine kk_al hG (x := a5) rfl rfl ?_
        refine kk_aln hG (x := p1) rfl rfl ?_
        refine kks hG rfl rfl ?_
        refine kks hG rfl rfl ?_
        refine kk_ob (fun b6 eb6 => ?_)
        subst eb6
        refine kk_cv hG 0 rfl rfl (Nat.le_of_ble_eq_true rfl) (by decide) rfl (st' := []) rfl (cats_le (Nat.le_of_ble_eq_true rfl)) (fun _ hw h k => kk_rcv h.1 (kc_Ro_begin base sa hw h.2 k)) (fun sr7 cr7 dr7 => ?_)
        refine kk_al hG (x := (some b6)) rfl rfl ?_
        exact kk_ra hG (x := (some b6)) rfl rfl rfl k
      refine kk_aln hG (x := (some p0)) rfl rfl ?_
      refine kk_gp hG (c := 10) (k := 0) (a := p0) rfl rfl rfl rfl (fun v8 => ?_)
      refine kks hG rfl rfl ?_
      refine kk_aln hG (x := (some p0)) rfl rfl ?_
      refine kk_gp hG (c := 10) (k := 0) (a := p0) rfl rfl rfl rfl (fun v9 => ?_)
      refine kks hG rfl rfl ?_
      refine kk_ic hG rfl cc_i1 ?_
      refine kks hG rfl rfl ?_
      refine kk_ob (fun b10 eb10 => ?_)
      subst eb10
      refine kk_aa hG (a := b10) rfl (fun v11 => ?_)
      refine kk_ob (fun b12 eb12 => ?_)
      subst eb12
      refine kk_aas hG (a := b12) (x := v11) rfl (fun s13 => ?_)
      refine kk_inc hG (L' := [(6, .int (a6 + ((-1) : Int32))), (0, va_rf (some p0)), (1, va_rf p1), (2, .int p2), (3, .int p3), (4, .int a4), (5, va_rf a5)]) rfl (Nat.le_of_ble_eq_true rfl) rfl cc_im1 (by cases a5 <;> rfl) ?_
      refine kk_go hG (t := 98) rfl rfl ?_
      exact kk_wl hG [1, 2, 3, 4, 5, 6, 0] rfl (fun hw h => hP98 _ _ _ _ h hw)
    exact fun a6 s kc ks hw h => h (fun a6 s kc ks => cW sa R base s → G 98 [(0, va_rf (some p0)), (1, va_rf p1), (2, .int p2), (3, .int p3), (4, .int a4), (5, va_rf a5), (6, .int a6)] [] (cM R s) kc ks) (fun a6 s kc ks hs hw => H _ (fun _ _ _ _ hp hw => hp hw) a6 s kc ks hw hs) hw
  have b92 : ∀ (a4 : Int32) (a5 : Option Nat) (s : cS) (kc ks : Nat), KK sa R base G 92 [(0, va_rf (some p0)), (1, va_rf p1), (2, .int p2), (3, .int p3), (4, .int a4), (5, va_rf a5)] [] s kc ks (C_Ta_add_b92 sa p0 p1 p2 p3 a4 a5 s kc ks Q) := by
    intro a4 a5 s kc ks
    refine kk_aln hG (x := (some p0)) rfl rfl ?_
    refine kk_gi hG (c := 10) (k := 1) (a := p0) rfl rfl rfl rfl (fun v1 => ?_)
    refine kk_st hG (L' := [(6, .int v1), (0, va_rf (some p0)), (1, va_rf p1), (2, .int p2), (3, .int p3), (4, .int a4), (5, va_rf a5)]) rfl rfl (Nat.le_of_ble_eq_true rfl) (by cases a5 <;> rfl) ?_
    exact kk_wl hG [1, 2, 3, 4, 5, 6, 0] rfl (b98 _ _ _ _ _ _)
  have b67 : ∀ (a4 : Int32) (s : cS) (kc ks : Nat), KK sa R base G 67 [(0, va_rf (some p0)), (1, va_rf p1), (2, .int p2), (3, .int p3), (4, .int a4)] [] s kc ks (C_Ta_add_b67 sa p0 p1 p2 p3 a4 s kc ks Q) := by
    intro a4 s kc ks
    refine kk_aln hG (x := (some p0)) rfl rfl ?_
    refine kk_gp hG (c := 10) (k := 0) (a := p0) rfl rfl rfl rfl (fun v1 => ?_)
    refine kk_aln hG (x := (some p0)) rfl rfl ?_
    refine kk_gi hG (c := 10) (k := 1) (a := p0) rfl rfl rfl rfl (fun v2 => ?_)
    refine kk_ob (fun b3 eb3 => ?_)
    subst eb3
    refine kk_aa hG (a := b3) rfl (fun v4 => ?_)
    refine kk_as hG (x := v4) (L' := [(5, va_rf v4), (0, va_rf (some p0)), (1, va_rf p1), (2, .int p2), (3, .int p3), (4, .int a4)]) rfl (Nat.le_of_ble_eq_true rfl) rfl ?_
    refine kk_al hG (x := v4) rfl rfl ?_
    refine kk_nnl hG (x := v4) (t := 92) rfl rfl ?_ ?_
    · exact kk_wl hG [1, 2, 3, 4, 5, 0] rfl (b92 _ _ _ _ _)
    refine kk_new hG (c := 8) (n := 11) rfl rfl rfl rfl (fun q5 sq5 cq5 dq5 => ?_)
    refine kk_dup hG (x := (some q5)) rfl ?_
    refine kk_cv hG 1 rfl rfl (Nat.le_of_ble_eq_true rfl) (by decide) rfl (st' := [va_rf (some q5)]) rfl (cats_le (Nat.le_of_ble_eq_true rfl)) (fun _ hw h k => kk_rcv h.1 (kc_Ro_init base sa hw h.2 k)) (fun sr6 cr6 dr6 => ?_)
    refine kk_as hG (x := (some q5)) (L' := [(5, va_rf (some q5)), (0, va_rf (some p0)), (1, va_rf p1), (2, .int p2), (3, .int p3), (4, .int a4)]) rfl (Nat.le_of_ble_eq_true rfl) rfl ?_
    exact kk_wl hG [1, 2, 3, 4, 5, 0] rfl (b92 _ _ _ _ _)
  have b34 : ∀ (a4 : Int32) (a5 : Option Nat) (a6 : Int32) (s : cS) (kc ks : Nat), KK sa R base G 34 [(0, va_rf (some p0)), (1, va_rf p1), (2, .int p2), (3, .int p3), (4, .int a4), (5, va_rf a5), (6, .int a6)] [] s kc ks (C_Ta_add_b34 sa p0 p1 p2 p3 a4 a5 a6 s kc ks Q) := by
    intro a4 a5
    have H : ∀ (P34 : (Int32 → cS → Nat → Nat → Prop)) (hP34 : ∀ (a6 : Int32) (s : cS) (kc ks : Nat), P34 a6 s kc ks → cW sa R base s → G 34 [(0, va_rf (some p0)), (1, va_rf p1), (2, .int p2), (3, .int p3), (4, .int a4), (5, va_rf a5), (6, .int a6)] [] (cM R s) kc ks) (a6 : Int32) (s : cS) (kc ks : Nat), KK sa R base G 34 [(0, va_rf (some p0)), (1, va_rf p1), (2, .int p2), (3, .int p3), (4, .int a4), (5, va_rf a5), (6, .int a6)] [] s kc ks (C_Ta_add_s34 sa p0 p1 p2 p3 a4 a5 a6 s kc ks Q P34) := by
      intro P34 hP34
      intro a6 s kc ks
      refine kks hG rfl rfl ?_
      refine kk_aln hG (x := (some p0)) rfl rfl ?_
      refine kk_gi hG (c := 10) (k := 1) (a := p0) rfl rfl rfl rfl (fun v1 => ?_)
      refine kk_ige hG (t := 61) rfl rfl ?_ ?_
      · refine kk_aln hG (x := (some p0)) rfl rfl ?_
        refine kk_al hG (x := a5) rfl rfl ?_
        refine kk_pp hG (c := 10) (k := 0) (a := p0) (v := a5) rfl rfl rfl rfl rfl (fun s2 => ?_)
        exact kk_wl hG [0, 1, 2, 3, 4] rfl (b67 _ _ _ _)
      refine kk_al hG (x := a5) rfl rfl ?_
      refine kks hG rfl rfl ?_
      refine kk_aln hG (x := (some p0)) rfl rfl ?_
      refine kk_gp hG (c := 10) (k := 0) (a := p0) rfl rfl rfl rfl (fun v3 => ?_)
      refine kks hG rfl rfl ?_
      refine kk_ob (fun b4 eb4 => ?_)
      subst eb4
      refine kk_aa hG (a := b4) rfl (fun v5 => ?_)
      refine kk_ob (fun b6 eb6 => ?_)
      subst eb6
      refine kk_aas hG (a := b6) (x := v5) rfl (fun s7 => ?_)
      refine kk_inc hG (L' := [(6, .int (a6 + (1 : Int32))), (0, va_rf (some p0)), (1, va_rf p1), (2, .int p2), (3, .int p3), (4, .int a4), (5, va_rf (some b6))]) rfl (Nat.le_of_ble_eq_true rfl) rfl cc_i1 rfl ?_
      refine kk_go hG (t := 34) rfl rfl ?_
      exact kk_wl hG [1, 2, 3, 4, 5, 6, 0] rfl (fun hw h => hP34 _ _ _ _ h hw)
    exact fun a6 s kc ks hw h => h (fun a6 s kc ks => cW sa R base s → G 34 [(0, va_rf (some p0)), (1, va_rf p1), (2, .int p2), (3, .int p3), (4, .int a4), (5, va_rf a5), (6, .int a6)] [] (cM R s) kc ks) (fun a6 s kc ks hs hw => H _ (fun _ _ _ _ hp hw => hp hw) a6 s kc ks hw hs) hw
  refine (show KK sa R base G 0 [(0, va_rf (some p0)), (1, va_rf p1), (2, .int p2), (3, .int p3)] [] s kc ks (C_Ta_add sa p0 p1 p2 p3 s kc ks Q) from ?_) hw h
  refine kk_aln hG (x := (some p0)) rfl rfl ?_
  refine kk_aln hG (x := p1) rfl rfl ?_
  refine kk_cx (w := .int) hG 0 rfl rfl (Nat.le_of_ble_eq_true rfl) (by decide) rfl (st' := []) rfl (cats_le (Nat.le_of_ble_eq_true rfl)) (fun _ hw h k => kk_rcv h.1 (kc_Ta_placeOf base sa hw h.2 k)) (fun r1 sr1 cr1 dr1 => ?_)
  refine kk_st hG (L' := [(4, .int r1), (0, va_rf (some p0)), (1, va_rf p1), (2, .int p2), (3, .int p3)]) rfl rfl (Nat.le_of_ble_eq_true rfl) rfl ?_
  refine kk_aln hG (x := (some p0)) rfl rfl ?_
  refine kk_gi hG (c := 10) (k := 1) (a := p0) rfl rfl rfl rfl (fun v2 => ?_)
  refine kk_aln hG (x := (some p0)) rfl rfl ?_
  refine kk_gp hG (c := 10) (k := 0) (a := p0) rfl rfl rfl rfl (fun v3 => ?_)
  refine kk_ob (fun b4 eb4 => ?_)
  subst eb4
  refine kk_len hG (a := b4) rfl (fun v5 => ?_)
  refine kk_ilt hG (t := 67) rfl rfl ?_ ?_
  · exact kk_wl hG [1, 2, 3, 4, 0] rfl (b67 _ _ _ _)
  refine kk_aln hG (x := (some p0)) rfl rfl ?_
  refine kk_gp hG (c := 10) (k := 0) (a := p0) rfl rfl rfl rfl (fun v6 => ?_)
  refine kk_ob (fun b7 eb7 => ?_)
  subst eb7
  refine kk_len hG (a := b7) rfl (fun v8 => ?_)
  refine kk_ic hG rfl cc_i2 ?_
  refine kks hG rfl rfl ?_
  refine kk_naq hG (C := "RoutingField$Route") rfl rfl (fun q9 sq9 cq9 dq9 => ?_)
  refine kk_as hG (x := (some q9)) (L' := [(5, va_rf (some q9)), (4, .int r1), (0, va_rf (some p0)), (1, va_rf p1), (2, .int p2), (3, .int p3)]) rfl (Nat.le_of_ble_eq_true rfl) rfl ?_
  refine kk_ic hG rfl cc_i0 ?_
  refine kk_st hG (L' := [(6, .int (0 : Int32)), (5, va_rf (some q9)), (4, .int r1), (0, va_rf (some p0)), (1, va_rf p1), (2, .int p2), (3, .int p3)]) rfl rfl (Nat.le_of_ble_eq_true rfl) rfl ?_
  exact kk_wl hG [3, 4, 5, 6, 2, 1, 0] rfl (b34 _ _ _ _ _ _)
def C_Rr_gatherSummaries_b59 (sa : Nat → Nat) (p0 : Nat) (p1 : Option Nat) (a2 : Int32) (s : cS) (kc ks : Nat) (Q : (cS → Nat → Nat → Prop)) (P2 : (Int32 → cS → Nat → Nat → Prop)) : Prop := (P2 (a2 + (1 : Int32)) s kc ks)
def C_Rr_gatherSummaries_b40 (sa : Nat → Nat) (p0 : Nat) (p1 : Option Nat) (a2 : Int32) (a3 : Option Nat) (s : cS) (kc ks : Nat) (Q : (cS → Nat → Nat → Prop)) (P2 : (Int32 → cS → Nat → Nat → Prop)) : Prop := ob (gP s 9 0 p0) (fun v1 => (ob v1 (fun b2 => (ob (gP s 11 17 b2) (fun v3 => (ob p1 (fun b4 => (ob (gP s 4 9 b4) (fun v5 => (ob v5 (fun b6 => (ob (rE s .int b6 a2) (fun v7 => (ob v3 (fun b8 => (okO s 10 b8 ∧ C_Ta_add sa b8 a3 (0 : Int32) v7 s kc ks (fun r9 sr9 cr9 dr9 => ((C_Rr_gatherSummaries_b59 sa p0 (some b4) a2 sr9 cr9 dr9 Q P2)))))))))))))))))))
def C_Rr_gatherSummaries_s2 (sa : Nat → Nat) (p0 : Nat) (p1 : Option Nat) (a2 : Int32) (s : cS) (kc ks : Nat) (Q : (cS → Nat → Nat → Prop)) (P2 : (Int32 → cS → Nat → Nat → Prop)) : Prop := ob p1 (fun b1 => (ob (gI s 4 8 b1) (fun v2 => (if a2 < v2 then (ob (gP s 4 7 b1) (fun v3 => (ob v3 (fun b4 => (ob (rQ s b4 a2) (fun v5 => (ob (gP s 4 10 b1) (fun v6 => (ob v6 (fun b7 => (ob (rE s .boolean b7 a2) (fun v8 => (if v8 = 0 then ((C_Rr_gatherSummaries_b59 sa p0 (some b1) a2 s kc ks Q P2)) else (ob (gI s 4 13 b1) (fun v9 => (if 0 < v9 then (ob v5 (fun b10 => (ob (gI s 5 3 b10) (fun v11 => (if v11 = 0 then ((C_Rr_gatherSummaries_b59 sa p0 (some b1) a2 s kc ks Q P2)) else ((C_Rr_gatherSummaries_b40 sa p0 (some b1) a2 (some b10) s kc ks Q P2))))))) else ((C_Rr_gatherSummaries_b40 sa p0 (some b1) a2 v5 s kc ks Q P2)))))))))))))))))) else ((Q s kc ks))))))
def C_Rr_gatherSummaries_b2 (sa : Nat → Nat) (p0 : Nat) (p1 : Option Nat) (a2 : Int32) (s : cS) (kc ks : Nat) (Q : (cS → Nat → Nat → Prop)) : Prop := ∀ P2 : (Int32 → cS → Nat → Nat → Prop), (∀ (a2 : Int32) (s : cS) (kc ks : Nat), C_Rr_gatherSummaries_s2 sa p0 p1 a2 s kc ks Q P2 → P2 a2 s kc ks) → P2 a2 s kc ks
def C_Rr_gatherSummaries (sa : Nat → Nat) (p0 : Nat) (p1 : Option Nat) (s : cS) (kc ks : Nat) (Q : (cS → Nat → Nat → Prop)) : Prop := (C_Rr_gatherSummaries_b2 sa p0 p1 (0 : Int32) s kc ks Q)
set_option maxRecDepth 100000 in
set_option maxHeartbeats 4000000 in
theorem kc_Rr_gatherSummaries (base : Nat) (sa : Nat → Nat) {R : pmM} {s : cS} {kc ks : Nat} {Rt : pmR} {p0 : Nat} {p1 : Option Nat} {Q : (cS → Nat → Nat → Prop)} (hw : cW sa R base s) (h : C_Rr_gatherSummaries sa p0 p1 s kc ks Q) (k : ∀ s' kc' ks', cW sa R base s' → Q s' kc' ks' → Rt none (cM R s') kc' ks') : kP_Rr_gatherSummaries base sa [.ref p0, va_rf p1] (cM R s) kc ks Rt := by
  refine ⟨by cases p1 <;> exact Nat.le_of_ble_eq_true rfl, fun G hG => ?_⟩
  have eL : lv_args 0 [.ref p0, va_rf p1] = [(0, va_rf (some p0)), (1, va_rf p1)] := by cases p1 <;> rfl
  rw [eL]
  have b2 : ∀ (a2 : Int32) (s : cS) (kc ks : Nat), KK sa R base G 2 [(0, va_rf (some p0)), (1, va_rf p1), (2, .int a2)] [] s kc ks (C_Rr_gatherSummaries_b2 sa p0 p1 a2 s kc ks Q) := by
    have H : ∀ (P2 : (Int32 → cS → Nat → Nat → Prop)) (hP2 : ∀ (a2 : Int32) (s : cS) (kc ks : Nat), P2 a2 s kc ks → cW sa R base s → G 2 [(0, va_rf (some p0)), (1, va_rf p1), (2, .int a2)] [] (cM R s) kc ks) (a2 : Int32) (s : cS) (kc ks : Nat), KK sa R base G 2 [(0, va_rf (some p0)), (1, va_rf p1), (2, .int a2)] [] s kc ks (C_Rr_gatherSummaries_s2 sa p0 p1 a2 s kc ks Q P2) := by
      intro P2 hP2
      have b59 : ∀ (a2 : Int32) (s : cS) (kc ks : Nat), KK sa R base G 59 [(0, va_rf (some p0)), (1, va_rf p1), (2, .int a2)] [] s kc ks (C_Rr_gatherSummaries_b59 sa p0 p1 a2 s kc ks Q P2) := by
        intro a2 s kc ks
        refine kk_inc hG (L' := [(2, .int (a2 + (1 : Int32))), (0, va_rf (some p0)), (1, va_rf p1)]) rfl (Nat.le_of_ble_eq_true rfl) rfl cc_i1 (by cases p1 <;> rfl) ?_
        refine kk_go hG (t := 2) rfl rfl ?_
        exact kk_wl hG [1, 2, 0] rfl (fun hw h => hP2 _ _ _ _ h hw)
      have b40 : ∀ (a2 : Int32) (a3 : Option Nat) (s : cS) (kc ks : Nat), KK sa R base G 40 [(0, va_rf (some p0)), (1, va_rf p1), (2, .int a2), (3, va_rf a3)] [] s kc ks (C_Rr_gatherSummaries_b40 sa p0 p1 a2 a3 s kc ks Q P2) := by
        intro a2 a3 s kc ks
        refine kk_aln hG (x := (some p0)) rfl rfl ?_
        refine kk_gp hG (c := 9) (k := 0) (a := p0) rfl rfl rfl rfl (fun v1 => ?_)
        refine kk_ob (fun b2 eb2 => ?_)
        subst eb2
        refine kk_gp hG (c := 11) (k := 17) (a := b2) rfl rfl rfl rfl (fun v3 => ?_)
        refine kk_aln hG (x := a3) rfl rfl ?_
        refine kk_ic hG rfl cc_i0 ?_
        refine kk_aln hG (x := p1) rfl rfl ?_
        refine kk_ob (fun b4 eb4 => ?_)
        subst eb4
        refine kk_gp hG (c := 4) (k := 9) (a := b4) rfl rfl rfl rfl (fun v5 => ?_)
        refine kks hG rfl rfl ?_
        refine kk_ob (fun b6 eb6 => ?_)
        subst eb6
        refine kk_ia hG (a := b6) rfl (fun v7 => ?_)
        refine kk_ob (fun b8 eb8 => ?_)
        subst eb8
        refine kk_cx (w := va_rf) hG 0 rfl rfl (Nat.le_of_ble_eq_true rfl) (by decide) rfl (st' := []) rfl (cats_le (Nat.le_of_ble_eq_true rfl)) (fun _ hw h k => kk_rcv h.1 (kc_Ta_add base sa hw h.2 k)) (fun r9 sr9 cr9 dr9 => ?_)
        refine kk_pop hG (x := r9) rfl ?_
        exact kk_wl hG [0, 1, 2] rfl (b59 _ _ _ _)
      intro a2 s kc ks
      refine kks hG rfl rfl ?_
      refine kk_aln hG (x := p1) rfl rfl ?_
      refine kk_ob (fun b1 eb1 => ?_)
      subst eb1
      refine kk_gi hG (c := 4) (k := 8) (a := b1) rfl rfl rfl rfl (fun v2 => ?_)
      refine kk_ige hG (t := 65) rfl rfl ?_ ?_
      · exact kk_rv hG rfl rfl k
      refine kk_aln hG (x := (some b1)) rfl rfl ?_
      refine kk_gp hG (c := 4) (k := 7) (a := b1) rfl rfl rfl rfl (fun v3 => ?_)
      refine kks hG rfl rfl ?_
      refine kk_ob (fun b4 eb4 => ?_)
      subst eb4
      refine kk_aa hG (a := b4) rfl (fun v5 => ?_)
      refine kk_asn hG (x := v5) (L' := [(3, va_rf v5), (0, va_rf (some p0)), (1, va_rf (some b1)), (2, .int a2)]) rfl (Nat.le_of_ble_eq_true rfl) rfl ?_
      refine kk_aln hG (x := (some b1)) rfl rfl ?_
      refine kk_gp hG (c := 4) (k := 10) (a := b1) rfl rfl rfl rfl (fun v6 => ?_)
      refine kks hG rfl rfl ?_
      refine kk_ob (fun b7 eb7 => ?_)
      subst eb7
      refine kk_za hG (a := b7) rfl (fun v8 => ?_)
      refine kk_zeq hG (t := 59) rfl rfl ?_ ?_
      · exact kk_wl hG [1, 2, 3] rfl (b59 _ _ _ _)
      refine kk_aln hG (x := (some b1)) rfl rfl ?_
      refine kk_gi hG (c := 4) (k := 13) (a := b1) rfl rfl rfl rfl (fun v9 => ?_)
      refine kk_zle hG (t := 40) rfl rfl ?_ ?_
      · exact kk_wl hG [1, 2, 3, 0] rfl (b40 _ _ _ _ _)
      refine kk_aln hG (x := v5) rfl rfl ?_
      refine kk_ob (fun b10 eb10 => ?_)
      subst eb10
      refine kk_gi hG (c := 5) (k := 3) (a := b10) rfl rfl rfl rfl (fun v11 => ?_)
      refine kk_zeq hG (t := 59) rfl rfl ?_ ?_
      · exact kk_wl hG [1, 2, 3] rfl (b59 _ _ _ _)
      exact kk_wl hG [1, 2, 3, 0] rfl (b40 _ _ _ _ _)
    exact fun a2 s kc ks hw h => h (fun a2 s kc ks => cW sa R base s → G 2 [(0, va_rf (some p0)), (1, va_rf p1), (2, .int a2)] [] (cM R s) kc ks) (fun a2 s kc ks hs hw => H _ (fun _ _ _ _ hp hw => hp hw) a2 s kc ks hw hs) hw
  refine (show KK sa R base G 0 [(0, va_rf (some p0)), (1, va_rf p1)] [] s kc ks (C_Rr_gatherSummaries sa p0 p1 s kc ks Q) from ?_) hw h
  refine kk_ic hG rfl cc_i0 ?_
  refine kk_st hG (L' := [(2, .int (0 : Int32)), (0, va_rf (some p0)), (1, va_rf p1)]) rfl rfl (Nat.le_of_ble_eq_true rfl) (by cases p1 <;> rfl) ?_
  exact kk_wl hG [1, 2, 0] rfl (b2 _ _ _ _)
