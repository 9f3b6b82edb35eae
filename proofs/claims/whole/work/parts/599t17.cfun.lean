/-! Methods as weakest preconditions, by program: Rr_refuses .. Rr_gather -/
def C_Rr_refuses_b70 (sa : Nat → Nat) (p0 : Nat) (p1 : Int32) (p2 : Option Nat) (p3 : Option Nat) (a4 : Int32) (s : cS) (kc ks : Nat) (Q : (Int32 → cS → Nat → Nat → Prop)) (P19 : (Int32 → cS → Nat → Nat → Prop)) : Prop := (P19 (a4 + (1 : Int32)) s kc ks)
def C_Rr_refuses_s19 (sa : Nat → Nat) (p0 : Nat) (p1 : Int32) (p2 : Option Nat) (p3 : Option Nat) (a4 : Int32) (s : cS) (kc ks : Nat) (Q : (Int32 → cS → Nat → Nat → Prop)) (P19 : (Int32 → cS → Nat → Nat → Prop)) : Prop := ob (gI s 9 10 p0) (fun v1 => (if a4 < v1 then (ob (gP s 9 9 p0) (fun v2 => (ob v2 (fun b3 => (ob (rQ s b3 a4) (fun v4 => (okO s 9 p0 ∧ C_Rr_concerns sa p0 v4 p1 p2 s kc ks (fun r5 sr5 cr5 dr5 => (if r5 = 0 then ((C_Rr_refuses_b70 sa p0 p1 p2 p3 a4 sr5 cr5 dr5 Q P19)) else (ob (gP sr5 9 0 p0) (fun v6 => (ob v6 (fun b7 => (ob (gP sr5 11 10 b7) (fun v8 => (ob v4 (fun b9 => (ob (rE sr5 .int b9 (2 : Int32)) (fun v10 => (ob v8 (fun b11 => (ob (rQ sr5 b11 v10) (fun v12 => (ob v12 (fun b13 => (okO sr5 6 b13 ∧ C_Pl_lets sa b13 p3 (0 : Int32) sr5 cr5 dr5 (fun r14 sr14 cr14 dr14 => (if r14 = 0 then ((Q (1 : Int32) sr14 cr14 dr14)) else ((C_Rr_refuses_b70 sa p0 p1 p2 p3 a4 sr14 cr14 dr14 Q P19)))))))))))))))))))))))))))))) else ((Q (0 : Int32) s kc ks))))
def C_Rr_refuses_b19 (sa : Nat → Nat) (p0 : Nat) (p1 : Int32) (p2 : Option Nat) (p3 : Option Nat) (a4 : Int32) (s : cS) (kc ks : Nat) (Q : (Int32 → cS → Nat → Nat → Prop)) : Prop := ∀ P19 : (Int32 → cS → Nat → Nat → Prop), (∀ (a4 : Int32) (s : cS) (kc ks : Nat), C_Rr_refuses_s19 sa p0 p1 p2 p3 a4 s kc ks Q P19 → P19 a4 s kc ks) → P19 a4 s kc ks
def C_Rr_refuses (sa : Nat → Nat) (p0 : Nat) (p1 : Int32) (p2 : Option Nat) (p3 : Option Nat) (s : cS) (kc ks : Nat) (Q : (Int32 → cS → Nat → Nat → Prop)) : Prop := ob (gP s 9 8 p0) (fun v1 => (ob v1 (fun b2 => (ob (rQ s b2 p1) (fun v3 => (ob v3 (fun b4 => (okO s 6 b4 ∧ C_Pl_lets sa b4 p3 (1 : Int32) s kc ks (fun r5 sr5 cr5 dr5 => (if r5 = 0 then (Q (1 : Int32) sr5 cr5 dr5) else ((C_Rr_refuses_b19 sa p0 p1 p2 p3 (0 : Int32) sr5 cr5 dr5 Q))))))))))))
set_option maxRecDepth 100000 in
set_option maxHeartbeats 4000000 in
theorem kc_Rr_refuses (base : Nat) (sa : Nat → Nat) {R : pmM} {s : cS} {kc ks : Nat} {Rt : pmR} {p0 : Nat} {p1 : Int32} {p2 : Option Nat} {p3 : Option Nat} {Q : (Int32 → cS → Nat → Nat → Prop)} (hw : cW sa R base s) (h : C_Rr_refuses sa p0 p1 p2 p3 s kc ks Q) (k : ∀ r s' kc' ks', cW sa R base s' → Q r s' kc' ks' → Rt (some (.int r)) (cM R s') kc' ks') : kP_Rr_refuses base sa [.ref p0, .int p1, va_rf p2, va_rf p3] (cM R s) kc ks Rt := by
  refine ⟨by cases p2 <;> cases p3 <;> exact Nat.le_of_ble_eq_true rfl, fun G hG => ?_⟩
  have eL : lv_args 0 [.ref p0, .int p1, va_rf p2, va_rf p3] = [(0, va_rf (some p0)), (1, .int p1), (2, va_rf p2), (3, va_rf p3)] := by cases p2 <;> cases p3 <;> rfl
  rw [eL]
  have b19 : ∀ (a4 : Int32) (s : cS) (kc ks : Nat), KK sa R base G 19 [(0, va_rf (some p0)), (1, .int p1), (2, va_rf p2), (3, va_rf p3), (4, .int a4)] [] s kc ks (C_Rr_refuses_b19 sa p0 p1 p2 p3 a4 s kc ks Q) := by
    have H : ∀ (P19 : (Int32 → cS → Nat → Nat → Prop)) (hP19 : ∀ (a4 : Int32) (s : cS) (kc ks : Nat), P19 a4 s kc ks → cW sa R base s → G 19 [(0, va_rf (some p0)), (1, .int p1), (2, va_rf p2), (3, va_rf p3), (4, .int a4)] [] (cM R s) kc ks) (a4 : Int32) (s : cS) (kc ks : Nat), KK sa R base G 19 [(0, va_rf (some p0)), (1, .int p1), (2, va_rf p2), (3, va_rf p3), (4, .int a4)] [] s kc ks (C_Rr_refuses_s19 sa p0 p1 p2 p3 a4 s kc ks Q P19) := by
      intro P19 hP19
      have b70 : ∀ (a4 : Int32) (s : cS) (kc ks : Nat), KK sa R base G 70 [(0, va_rf (some p0)), (1, .int p1), (2, va_rf p2), (3, va_rf p3), (4, .int a4)] [] s kc ks (C_Rr_refuses_b70 sa p0 p1 p2 p3 a4 s kc ks Q P19) := by
        intro a4 s kc ks
        refine kk_inc hG (L' := [(4, .int (a4 + (1 : Int32))), (0, va_rf (some p0)), (1, .int p1), (2, va_rf p2), (3, va_rf p3)]) rfl (Nat.le_of_ble_eq_true rfl) rfl cc_i1 (by cases p3 <;> rfl) ?_
        refine kk_go hG (t := 19) rfl rfl ?_
        exact kk_wl hG [1, 2, 3, 4, 0] rfl (fun hw h => hP19 _ _ _ _ h hw)
      intro a4 s kc ks
      refine kks hG rfl rfl ?_
      refine kk_aln hG (x := (some p0)) rfl rfl ?_
      refine kk_gi hG (c := 9) (k := 10) (a := p0) rfl rfl rfl rfl (fun v1 => ?_)
      refine kk_ige hG (t := 76) rfl rfl ?_ ?_
      · refine kk_ic hG rfl cc_i0 ?_
        exact kk_ri hG rfl rfl rfl k
      refine kk_aln hG (x := (some p0)) rfl rfl ?_
      refine kk_gp hG (c := 9) (k := 9) (a := p0) rfl rfl rfl rfl (fun v2 => ?_)
      refine kks hG rfl rfl ?_
      refine kk_ob (fun b3 eb3 => ?_)
      subst eb3
      refine kk_aa hG (a := b3) rfl (fun v4 => ?_)
      refine kk_as hG (x := v4) (L' := [(5, va_rf v4), (0, va_rf (some p0)), (1, .int p1), (2, va_rf p2), (3, va_rf p3), (4, .int a4)]) rfl (Nat.le_of_ble_eq_true rfl) rfl ?_
      refine kk_aln hG (x := (some p0)) rfl rfl ?_
      refine kk_al hG (x := v4) rfl rfl ?_
      refine kks hG rfl rfl ?_
      refine kk_aln hG (x := p2) rfl rfl ?_
      refine kk_cx (w := .int) hG 0 rfl rfl (Nat.le_of_ble_eq_true rfl) (by decide) rfl (st' := []) rfl (cats_le (Nat.le_of_ble_eq_true rfl)) (fun _ hw h k => kk_rcv h.1 (kc_Rr_concerns base sa hw h.2 k)) (fun r5 sr5 cr5 dr5 => ?_)
      refine kk_zeq hG (t := 70) rfl rfl ?_ ?_
      · exact kk_wl hG [1, 2, 3, 4, 5] rfl (b70 _ _ _ _)
      refine kk_aln hG (x := (some p0)) rfl rfl ?_
      refine kk_gp hG (c := 9) (k := 0) (a := p0) rfl rfl rfl rfl (fun v6 => ?_)
      refine kk_ob (fun b7 eb7 => ?_)
      subst eb7
      refine kk_gp hG (c := 11) (k := 10) (a := b7) rfl rfl rfl rfl (fun v8 => ?_)
      refine kk_al hG (x := v4) rfl rfl ?_
      refine kk_ic hG rfl cc_i2 ?_
      refine kk_ob (fun b9 eb9 => ?_)
      subst eb9
      refine kk_ia hG (a := b9) rfl (fun v10 => ?_)
      refine kk_ob (fun b11 eb11 => ?_)
      subst eb11
      refine kk_aa hG (a := b11) rfl (fun v12 => ?_)
      refine kk_aln hG (x := p3) rfl rfl ?_
      refine kk_ic hG rfl cc_i0 ?_
      refine kk_ob (fun b13 eb13 => ?_)
      subst eb13
      refine kk_cx (w := .int) hG 0 rfl rfl (Nat.le_of_ble_eq_true rfl) (by decide) rfl (st' := []) rfl (cats_le (Nat.le_of_ble_eq_true rfl)) (fun _ hw h k => kk_rcv h.1 (kc_Pl_lets base sa hw h.2 k)) (fun r14 sr14 cr14 dr14 => ?_)
      refine kk_zne hG (t := 70) rfl rfl ?_ ?_
      · exact kk_wl hG [1, 2, 3, 4, 5] rfl (b70 _ _ _ _)
      refine kk_ic hG rfl cc_i1 ?_
      exact kk_ri hG rfl rfl rfl k
    exact fun a4 s kc ks hw h => h (fun a4 s kc ks => cW sa R base s → G 19 [(0, va_rf (some p0)), (1, .int p1), (2, va_rf p2), (3, va_rf p3), (4, .int a4)] [] (cM R s) kc ks) (fun a4 s kc ks hs hw => H _ (fun _ _ _ _ hp hw => hp hw) a4 s kc ks hw hs) hw
  refine (show KK sa R base G 0 [(0, va_rf (some p0)), (1, .int p1), (2, va_rf p2), (3, va_rf p3)] [] s kc ks (C_Rr_refuses sa p0 p1 p2 p3 s kc ks Q) from ?_) hw h
  refine kk_aln hG (x := (some p0)) rfl rfl ?_
  refine kk_gp hG (c := 9) (k := 8) (a := p0) rfl rfl rfl rfl (fun v1 => ?_)
  refine kks hG rfl rfl ?_
  refine kk_ob (fun b2 eb2 => ?_)
  subst eb2
  refine kk_aa hG (a := b2) rfl (fun v3 => ?_)
  refine kk_aln hG (x := p3) rfl rfl ?_
  refine kk_ic hG rfl cc_i1 ?_
  refine kk_ob (fun b4 eb4 => ?_)
  subst eb4
  refine kk_cx (w := .int) hG 0 rfl rfl (Nat.le_of_ble_eq_true rfl) (by decide) rfl (st' := []) rfl (cats_le (Nat.le_of_ble_eq_true rfl)) (fun _ hw h k => kk_rcv h.1 (kc_Pl_lets base sa hw h.2 k)) (fun r5 sr5 cr5 dr5 => ?_)
  refine kk_zne hG (t := 16) rfl rfl ?_ ?_
  · refine kk_ic hG rfl cc_i0 ?_
    refine kk_st hG (L' := [(4, .int (0 : Int32)), (0, va_rf (some p0)), (1, .int p1), (2, va_rf p2), (3, va_rf p3)]) rfl rfl (Nat.le_of_ble_eq_true rfl) (by cases p3 <;> rfl) ?_
    exact kk_wl hG [1, 2, 3, 4, 0] rfl (b19 _ _ _ _)
  refine kk_ic hG rfl cc_i1 ?_
  exact kk_ri hG rfl rfl rfl k
def C_Rr_raised_b65 (sa : Nat → Nat) (p0 : Nat) (p1 : Int32) (p2 : Int32) (p3 : Option Nat) (p4 : Option Nat) (a5 : Int32) (s : cS) (kc ks : Nat) (Q : (Int32 → cS → Nat → Nat → Prop)) (P3 : (Int32 → cS → Nat → Nat → Prop)) : Prop := (P3 (a5 + (1 : Int32)) s kc ks)
def C_Rr_raised_s3 (sa : Nat → Nat) (p0 : Nat) (p1 : Int32) (p2 : Int32) (p3 : Option Nat) (p4 : Option Nat) (a5 : Int32) (s : cS) (kc ks : Nat) (Q : (Int32 → cS → Nat → Nat → Prop)) (P3 : (Int32 → cS → Nat → Nat → Prop)) : Prop := ob (gI s 9 12 p0) (fun v1 => (if a5 < v1 then (ob (gP s 9 11 p0) (fun v2 => (ob v2 (fun b3 => (ob (rQ s b3 a5) (fun v4 => (okO s 9 p0 ∧ C_Rr_concerns sa p0 v4 p2 p3 s kc ks (fun r5 sr5 cr5 dr5 => (if r5 = 0 then ((C_Rr_raised_b65 sa p0 p1 p2 p3 p4 a5 sr5 cr5 dr5 Q P3)) else (ob (gP sr5 9 0 p0) (fun v6 => (ob v6 (fun b7 => (ob (gP sr5 11 10 b7) (fun v8 => (ob v4 (fun b9 => (ob (rE sr5 .int b9 (2 : Int32)) (fun v10 => (ob v8 (fun b11 => (ob (rQ sr5 b11 v10) (fun v12 => (ob v12 (fun b13 => (okO sr5 6 b13 ∧ C_Pl_lets sa b13 p4 (0 : Int32) sr5 cr5 dr5 (fun r14 sr14 cr14 dr14 => (if r14 = 0 then ((C_Rr_raised_b65 sa p0 p1 p2 p3 p4 a5 sr14 cr14 dr14 Q P3)) else ((ob (rE sr14 .int b9 (3 : Int32)) (fun v15 => (Q (mnI (16 : Int32) (p1 + v15)) sr14 cr14 dr14)))))))))))))))))))))))))))))))) else ((Q (mnI (16 : Int32) p1) s kc ks))))
def C_Rr_raised_b3 (sa : Nat → Nat) (p0 : Nat) (p1 : Int32) (p2 : Int32) (p3 : Option Nat) (p4 : Option Nat) (a5 : Int32) (s : cS) (kc ks : Nat) (Q : (Int32 → cS → Nat → Nat → Prop)) : Prop := ∀ P3 : (Int32 → cS → Nat → Nat → Prop), (∀ (a5 : Int32) (s : cS) (kc ks : Nat), C_Rr_raised_s3 sa p0 p1 p2 p3 p4 a5 s kc ks Q P3 → P3 a5 s kc ks) → P3 a5 s kc ks
def C_Rr_raised (sa : Nat → Nat) (p0 : Nat) (p1 : Int32) (p2 : Int32) (p3 : Option Nat) (p4 : Option Nat) (s : cS) (kc ks : Nat) (Q : (Int32 → cS → Nat → Nat → Prop)) : Prop := (C_Rr_raised_b3 sa p0 p1 p2 p3 p4 (0 : Int32) s kc ks Q)
set_option maxRecDepth 100000 in
set_option maxHeartbeats 4000000 in
theorem kc_Rr_raised (base : Nat) (sa : Nat → Nat) {R : pmM} {s : cS} {kc ks : Nat} {Rt : pmR} {p0 : Nat} {p1 : Int32} {p2 : Int32} {p3 : Option Nat} {p4 : Option Nat} {Q : (Int32 → cS → Nat → Nat → Prop)} (hw : cW sa R base s) (h : C_Rr_raised sa p0 p1 p2 p3 p4 s kc ks Q) (k : ∀ r s' kc' ks', cW sa R base s' → Q r s' kc' ks' → Rt (some (.int r)) (cM R s') kc' ks') : kP_Rr_raised base sa [.ref p0, .int p1, .int p2, va_rf p3, va_rf p4] (cM R s) kc ks Rt := by
  refine ⟨by cases p3 <;> cases p4 <;> exact Nat.le_of_ble_eq_true rfl, fun G hG => ?_⟩
  have eL : lv_args 0 [.ref p0, .int p1, .int p2, va_rf p3, va_rf p4] = [(0, va_rf (some p0)), (1, .int p1), (2, .int p2), (3, va_rf p3), (4, va_rf p4)] := by cases p3 <;> cases p4 <;> rfl
  rw [eL]
  have b3 : ∀ (a5 : Int32) (s : cS) (kc ks : Nat), KK sa R base G 3 [(0, va_rf (some p0)), (1, .int p1), (2, .int p2), (3, va_rf p3), (4, va_rf p4), (5, .int a5)] [] s kc ks (C_Rr_raised_b3 sa p0 p1 p2 p3 p4 a5 s kc ks Q) := by
    have H : ∀ (P3 : (Int32 → cS → Nat → Nat → Prop)) (hP3 : ∀ (a5 : Int32) (s : cS) (kc ks : Nat), P3 a5 s kc ks → cW sa R base s → G 3 [(0, va_rf (some p0)), (1, .int p1), (2, .int p2), (3, va_rf p3), (4, va_rf p4), (5, .int a5)] [] (cM R s) kc ks) (a5 : Int32) (s : cS) (kc ks : Nat), KK sa R base G 3 [(0, va_rf (some p0)), (1, .int p1), (2, .int p2), (3, va_rf p3), (4, va_rf p4), (5, .int a5)] [] s kc ks (C_Rr_raised_s3 sa p0 p1 p2 p3 p4 a5 s kc ks Q P3) := by
      intro P3 hP3
      have b65 : ∀ (a5 : Int32) (s : cS) (kc ks : Nat), KK sa R base G 65 [(0, va_rf (some p0)), (1, .int p1), (2, .int p2), (3, va_rf p3), (4, va_rf p4), (5, .int a5)] [] s kc ks (C_Rr_raised_b65 sa p0 p1 p2 p3 p4 a5 s kc ks Q P3) := by
        intro a5 s kc ks
        refine kk_inc hG (L' := [(5, .int (a5 + (1 : Int32))), (0, va_rf (some p0)), (1, .int p1), (2, .int p2), (3, va_rf p3), (4, va_rf p4)]) rfl (Nat.le_of_ble_eq_true rfl) rfl cc_i1 (by cases p4 <;> rfl) ?_
        refine kk_go hG (t := 3) rfl rfl ?_
        exact kk_wl hG [1, 2, 3, 4, 5, 0] rfl (fun hw h => hP3 _ _ _ _ h hw)
      intro a5 s kc ks
      refine kks hG rfl rfl ?_
      refine kk_aln hG (x := (some p0)) rfl rfl ?_
      refine kk_gi hG (c := 9) (k := 12) (a := p0) rfl rfl rfl rfl (fun v1 => ?_)
      refine kk_ige hG (t := 71) rfl rfl ?_ ?_
      · refine kk_bi hG rfl cc_b16 ?_
        refine kks hG rfl rfl ?_
        refine kk_mn hG rfl rfl (Nat.le_of_ble_eq_true rfl) ?_
        exact kk_ri hG rfl rfl rfl k
      refine kk_aln hG (x := (some p0)) rfl rfl ?_
      refine kk_gp hG (c := 9) (k := 11) (a := p0) rfl rfl rfl rfl (fun v2 => ?_)
      refine kks hG rfl rfl ?_
      refine kk_ob (fun b3 eb3 => ?_)
      subst eb3
      refine kk_aa hG (a := b3) rfl (fun v4 => ?_)
      refine kk_as hG (x := v4) (L' := [(6, va_rf v4), (0, va_rf (some p0)), (1, .int p1), (2, .int p2), (3, va_rf p3), (4, va_rf p4), (5, .int a5)]) rfl (Nat.le_of_ble_eq_true rfl) rfl ?_
      refine kk_aln hG (x := (some p0)) rfl rfl ?_
      refine kk_al hG (x := v4) rfl rfl ?_
      refine kks hG rfl rfl ?_
      refine kk_aln hG (x := p3) rfl rfl ?_
      refine kk_cx (w := .int) hG 0 rfl rfl (Nat.le_of_ble_eq_true rfl) (by decide) rfl (st' := []) rfl (cats_le (Nat.le_of_ble_eq_true rfl)) (fun _ hw h k => kk_rcv h.1 (kc_Rr_concerns base sa hw h.2 k)) (fun r5 sr5 cr5 dr5 => ?_)
      refine kk_zeq hG (t := 65) rfl rfl ?_ ?_
      · exact kk_wl hG [1, 2, 3, 4, 5, 6] rfl (b65 _ _ _ _)
      refine kk_aln hG (x := (some p0)) rfl rfl ?_
      refine kk_gp hG (c := 9) (k := 0) (a := p0) rfl rfl rfl rfl (fun v6 => ?_)
      refine kk_ob (fun b7 eb7 => ?_)
      subst eb7
      refine kk_gp hG (c := 11) (k := 10) (a := b7) rfl rfl rfl rfl (fun v8 => ?_)
      refine kk_al hG (x := v4) rfl rfl ?_
      refine kk_ic hG rfl cc_i2 ?_
      refine kk_ob (fun b9 eb9 => ?_)
      subst eb9
      refine kk_ia hG (a := b9) rfl (fun v10 => ?_)
      refine kk_ob (fun b11 eb11 => ?_)
      subst eb11
      refine kk_aa hG (a := b11) rfl (fun v12 => ?_)
      refine kk_al hG (x := p4) rfl rfl ?_
      refine kk_ic hG rfl cc_i0 ?_
      refine kk_ob (fun b13 eb13 => ?_)
      subst eb13
      refine kk_cx (w := .int) hG 0 rfl rfl (Nat.le_of_ble_eq_true rfl) (by decide) rfl (st' := []) rfl (cats_le (Nat.le_of_ble_eq_true rfl)) (fun _ hw h k => kk_rcv h.1 (kc_Pl_lets base sa hw h.2 k)) (fun r14 sr14 cr14 dr14 => ?_)
      refine kk_zeq hG (t := 65) rfl rfl ?_ ?_
      · exact kk_wl hG [1, 2, 3, 4, 5, 6] rfl (b65 _ _ _ _)
      refine kk_bi hG rfl cc_b16 ?_
      refine kks hG rfl rfl ?_
      refine kk_al hG (x := (some b9)) rfl rfl ?_
      refine kk_ic hG rfl cc_i3 ?_
      refine kk_ia hG (a := b9) rfl (fun v15 => ?_)
      refine kks hG rfl rfl ?_
      refine kk_mn hG rfl rfl (Nat.le_of_ble_eq_true rfl) ?_
      exact kk_ri hG rfl rfl rfl k
    exact fun a5 s kc ks hw h => h (fun a5 s kc ks => cW sa R base s → G 3 [(0, va_rf (some p0)), (1, .int p1), (2, .int p2), (3, va_rf p3), (4, va_rf p4), (5, .int a5)] [] (cM R s) kc ks) (fun a5 s kc ks hs hw => H _ (fun _ _ _ _ hp hw => hp hw) a5 s kc ks hw hs) hw
  refine (show KK sa R base G 0 [(0, va_rf (some p0)), (1, .int p1), (2, .int p2), (3, va_rf p3), (4, va_rf p4)] [] s kc ks (C_Rr_raised sa p0 p1 p2 p3 p4 s kc ks Q) from ?_) hw h
  refine kk_ic hG rfl cc_i0 ?_
  refine kk_st hG (L' := [(5, .int (0 : Int32)), (0, va_rf (some p0)), (1, .int p1), (2, .int p2), (3, va_rf p3), (4, va_rf p4)]) rfl rfl (Nat.le_of_ble_eq_true rfl) (by cases p4 <;> rfl) ?_
  exact kk_wl hG [1, 2, 3, 4, 5, 0] rfl (b3 _ _ _ _)
def C_Rr_toldMetric_b95 (sa : Nat → Nat) (p0 : Nat) (p1 : Option Nat) (p2 : Option Nat) (a3 : Int32) (s : cS) (kc ks : Nat) (Q : (Int32 → cS → Nat → Nat → Prop)) : Prop := ob p2 (fun b1 => (ob (gP s 4 0 b1) (fun v2 => (ob p1 (fun b3 => (ob (gP s 8 0 b3) (fun v4 => (okO s 9 p0 ∧ C_Rr_raised sa p0 a3 (1 : Int32) v2 v4 s kc ks (fun r5 sr5 cr5 dr5 => (Q r5 sr5 cr5 dr5))))))))))
def C_Rr_toldMetric_b35 (sa : Nat → Nat) (p0 : Nat) (p1 : Option Nat) (p2 : Option Nat) (a3 : Int32) (s : cS) (kc ks : Nat) (Q : (Int32 → cS → Nat → Nat → Prop)) : Prop := if a3 = ((-1) : Int32) then (Q ((-1) : Int32) s kc ks) else (ob p2 (fun b1 => (ob (gP s 4 0 b1) (fun v2 => (ob p1 (fun b3 => (ob (gP s 8 0 b3) (fun v4 => (okO s 9 p0 ∧ C_Rr_refuses sa p0 (1 : Int32) v2 v4 s kc ks (fun r5 sr5 cr5 dr5 => (if r5 = 0 then (ob (gP sr5 8 6 b3) (fun v6 => (if v6 = (some b1) then (ob (gI sr5 8 3 b3) (fun v7 => (if v7 = (2 : Int32) then (ob (gI sr5 4 4 b1) (fun v8 => (if v8 = (1 : Int32) then (Q ((-1) : Int32) sr5 cr5 dr5) else (ob (gI sr5 4 4 b1) (fun v9 => (if v9 = (2 : Int32) then ((C_Rr_toldMetric_b95 sa p0 (some b3) (some b1) (16 : Int32) sr5 cr5 dr5 Q)) else ((C_Rr_toldMetric_b95 sa p0 (some b3) (some b1) a3 sr5 cr5 dr5 Q)))))))) else (Q ((-1) : Int32) sr5 cr5 dr5)))) else ((C_Rr_toldMetric_b95 sa p0 (some b3) (some b1) a3 sr5 cr5 dr5 Q))))) else (Q ((-1) : Int32) sr5 cr5 dr5))))))))))))
def C_Rr_toldMetric (sa : Nat → Nat) (p0 : Nat) (p1 : Option Nat) (p2 : Option Nat) (s : cS) (kc ks : Nat) (Q : (Int32 → cS → Nat → Nat → Prop)) : Prop := ob p1 (fun b1 => (ob (gI s 8 4 b1) (fun v2 => (ob (gI s 8 3 b1) (fun v3 => (if v3 = (2 : Int32) then ((C_Rr_toldMetric_b35 sa p0 (some b1) p2 v2 s kc ks Q)) else (ob (gP s 9 13 p0) (fun v4 => (ob (gI s 8 3 b1) (fun v5 => (ob v4 (fun b6 => (ob (rE s .int b6 v5) (fun v7 => (if v7 = 0 then ((C_Rr_toldMetric_b35 sa p0 (some b1) p2 v2 s kc ks Q)) else (ob (gP s 9 13 p0) (fun v8 => (ob (gI s 8 3 b1) (fun v9 => (ob v8 (fun b10 => (ob (rE s .int b10 v9) (fun v11 => ((C_Rr_toldMetric_b35 sa p0 (some b1) p2 v11 s kc ks Q)))))))))))))))))))))))))
set_option maxRecDepth 100000 in
set_option maxHeartbeats 4000000 in
theorem kc_Rr_toldMetric (base : Nat) (sa : Nat → Nat) {R : pmM} {s : cS} {kc ks : Nat} {Rt : pmR} {p0 : Nat} {p1 : Option Nat} {p2 : Option Nat} {Q : (Int32 → cS → Nat → Nat → Prop)} (hw : cW sa R base s) (h : C_Rr_toldMetric sa p0 p1 p2 s kc ks Q) (k : ∀ r s' kc' ks', cW sa R base s' → Q r s' kc' ks' → Rt (some (.int r)) (cM R s') kc' ks') : kP_Rr_toldMetric base sa [.ref p0, va_rf p1, va_rf p2] (cM R s) kc ks Rt := by
  refine ⟨by cases p1 <;> cases p2 <;> exact Nat.le_of_ble_eq_true rfl, fun G hG => ?_⟩
  have eL : lv_args 0 [.ref p0, va_rf p1, va_rf p2] = [(0, va_rf (some p0)), (1, va_rf p1), (2, va_rf p2)] := by cases p1 <;> cases p2 <;> rfl
  rw [eL]
  have b95 : ∀ (a3 : Int32) (s : cS) (kc ks : Nat), KK sa R base G 95 [(0, va_rf (some p0)), (1, va_rf p1), (2, va_rf p2), (3, .int a3)] [] s kc ks (C_Rr_toldMetric_b95 sa p0 p1 p2 a3 s kc ks Q) := by
    intro a3 s kc ks
    refine kk_aln hG (x := (some p0)) rfl rfl ?_
    refine kks hG rfl rfl ?_
    refine kk_ic hG rfl cc_i1 ?_
    refine kk_aln hG (x := p2) rfl rfl ?_
    refine kk_ob (fun b1 eb1 => ?_)
    subst eb1
    refine kk_gp hG (c := 4) (k := 0) (a := b1) rfl rfl rfl rfl (fun v2 => ?_)
    refine kk_aln hG (x := p1) rfl rfl ?_
    refine kk_ob (fun b3 eb3 => ?_)
    subst eb3
    refine kk_gp hG (c := 8) (k := 0) (a := b3) rfl rfl rfl rfl (fun v4 => ?_)
    refine kk_cx (w := .int) hG 0 rfl rfl (Nat.le_of_ble_eq_true rfl) (by decide) rfl (st' := []) rfl (cats_le (Nat.le_of_ble_eq_true rfl)) (fun _ hw h k => kk_rcv h.1 (kc_Rr_raised base sa hw h.2 k)) (fun r5 sr5 cr5 dr5 => ?_)
    exact kk_ri hG rfl rfl rfl k
  have b35 : ∀ (a3 : Int32) (s : cS) (kc ks : Nat), KK sa R base G 35 [(0, va_rf (some p0)), (1, va_rf p1), (2, va_rf p2), (3, .int a3)] [] s kc ks (C_Rr_toldMetric_b35 sa p0 p1 p2 a3 s kc ks Q) := by
    intro a3 s kc ks
    refine kks hG rfl rfl ?_
    refine kk_ic hG rfl cc_im1 ?_
    refine kk_ieq hG (t := 56) rfl rfl ?_ ?_
    · refine kk_ic hG rfl cc_im1 ?_
      exact kk_ri hG rfl rfl rfl k
    refine kk_aln hG (x := (some p0)) rfl rfl ?_
    refine kk_ic hG rfl cc_i1 ?_
    refine kk_aln hG (x := p2) rfl rfl ?_
    refine kk_ob (fun b1 eb1 => ?_)
    subst eb1
    refine kk_gp hG (c := 4) (k := 0) (a := b1) rfl rfl rfl rfl (fun v2 => ?_)
    refine kk_aln hG (x := p1) rfl rfl ?_
    refine kk_ob (fun b3 eb3 => ?_)
    subst eb3
    refine kk_gp hG (c := 8) (k := 0) (a := b3) rfl rfl rfl rfl (fun v4 => ?_)
    refine kk_cx (w := .int) hG 0 rfl rfl (Nat.le_of_ble_eq_true rfl) (by decide) rfl (st' := []) rfl (cats_le (Nat.le_of_ble_eq_true rfl)) (fun _ hw h k => kk_rcv h.1 (kc_Rr_refuses base sa hw h.2 k)) (fun r5 sr5 cr5 dr5 => ?_)
    refine kk_zeq hG (t := 58) rfl rfl ?_ ?_
    · refine kk_aln hG (x := (some b3)) rfl rfl ?_
      refine kk_gp hG (c := 8) (k := 6) (a := b3) rfl rfl rfl rfl (fun v6 => ?_)
      refine kk_aln hG (x := (some b1)) rfl rfl ?_
      refine kk_ane hG (x := v6) (y := (some b1)) (t := 95) rfl rfl ?_ ?_
      · exact kk_wl hG [0, 1, 2, 3] rfl (b95 _ _ _ _)
      refine kk_aln hG (x := (some b3)) rfl rfl ?_
      refine kk_gi hG (c := 8) (k := 3) (a := b3) rfl rfl rfl rfl (fun v7 => ?_)
      refine kk_ic hG rfl cc_i2 ?_
      refine kk_ine hG (t := 82) rfl rfl ?_ ?_
      · refine kk_ic hG rfl cc_im1 ?_
        exact kk_ri hG rfl rfl rfl k
      refine kk_aln hG (x := (some b1)) rfl rfl ?_
      refine kk_gi hG (c := 4) (k := 4) (a := b1) rfl rfl rfl rfl (fun v8 => ?_)
      refine kk_ic hG rfl cc_i1 ?_
      refine kk_ine hG (t := 84) rfl rfl ?_ ?_
      · refine kk_aln hG (x := (some b1)) rfl rfl ?_
        refine kk_gi hG (c := 4) (k := 4) (a := b1) rfl rfl rfl rfl (fun v9 => ?_)
        refine kk_ic hG rfl cc_i2 ?_
        refine kk_ine hG (t := 95) rfl rfl ?_ ?_
        · exact kk_wl hG [0, 1, 2, 3] rfl (b95 _ _ _ _)
        refine kk_bi hG rfl cc_b16 ?_
        refine kk_st hG (L' := [(3, .int (16 : Int32)), (0, va_rf (some p0)), (1, va_rf (some b3)), (2, va_rf (some b1))]) rfl rfl (Nat.le_of_ble_eq_true rfl) rfl ?_
        exact kk_wl hG [1, 2, 3, 0] rfl (b95 _ _ _ _)
      refine kk_ic hG rfl cc_im1 ?_
      exact kk_ri hG rfl rfl rfl k
    refine kk_ic hG rfl cc_im1 ?_
    exact kk_ri hG rfl rfl rfl k
  refine (show KK sa R base G 0 [(0, va_rf (some p0)), (1, va_rf p1), (2, va_rf p2)] [] s kc ks (C_Rr_toldMetric sa p0 p1 p2 s kc ks Q) from ?_) hw h
  refine kk_aln hG (x := p1) rfl rfl ?_
  refine kk_ob (fun b1 eb1 => ?_)
  subst eb1
  refine kk_gi hG (c := 8) (k := 4) (a := b1) rfl rfl rfl rfl (fun v2 => ?_)
  refine kk_st hG (L' := [(3, .int v2), (0, va_rf (some p0)), (1, va_rf (some b1)), (2, va_rf p2)]) rfl rfl (Nat.le_of_ble_eq_true rfl) (by cases p2 <;> rfl) ?_
  refine kk_aln hG (x := (some b1)) rfl rfl ?_
  refine kk_gi hG (c := 8) (k := 3) (a := b1) rfl rfl rfl rfl (fun v3 => ?_)
  refine kk_ic hG rfl cc_i2 ?_
  refine kk_ieq hG (t := 35) rfl rfl ?_ ?_
  · exact kk_wl hG [1, 2, 3, 0] rfl (b35 _ _ _ _)
  refine kk_aln hG (x := (some p0)) rfl rfl ?_
  refine kk_gp hG (c := 9) (k := 13) (a := p0) rfl rfl rfl rfl (fun v4 => ?_)
  refine kk_aln hG (x := (some b1)) rfl rfl ?_
  refine kk_gi hG (c := 8) (k := 3) (a := b1) rfl rfl rfl rfl (fun v5 => ?_)
  refine kk_ob (fun b6 eb6 => ?_)
  subst eb6
  refine kk_ia hG (a := b6) rfl (fun v7 => ?_)
  refine kk_zeq hG (t := 35) rfl rfl ?_ ?_
  · exact kk_wl hG [1, 2, 3, 0] rfl (b35 _ _ _ _)
  refine kk_aln hG (x := (some p0)) rfl rfl ?_
  refine kk_gp hG (c := 9) (k := 13) (a := p0) rfl rfl rfl rfl (fun v8 => ?_)
  refine kk_aln hG (x := (some b1)) rfl rfl ?_
  refine kk_gi hG (c := 8) (k := 3) (a := b1) rfl rfl rfl rfl (fun v9 => ?_)
  refine kk_ob (fun b10 eb10 => ?_)
  subst eb10
  refine kk_ia hG (a := b10) rfl (fun v11 => ?_)
  refine kk_st hG (L' := [(3, .int v11), (0, va_rf (some p0)), (1, va_rf (some b1)), (2, va_rf p2)]) rfl rfl (Nat.le_of_ble_eq_true rfl) (by cases p2 <;> rfl) ?_
  exact kk_wl hG [1, 2, 3, 0] rfl (b35 _ _ _ _)
def C_Rr_toldTag_b20 (sa : Nat → Nat) (p1 : Option Nat) (s : cS) (kc ks : Nat) (Q : (Int32 → cS → Nat → Nat → Prop)) : Prop := ob p1 (fun b1 => (ob (gI s 8 5 b1) (fun v2 => (Q v2 s kc ks))))
def C_Rr_toldTag (sa : Nat → Nat) (p0 : Nat) (p1 : Option Nat) (s : cS) (kc ks : Nat) (Q : (Int32 → cS → Nat → Nat → Prop)) : Prop := ob p1 (fun b1 => (ob (gI s 8 3 b1) (fun v2 => (if v2 = (2 : Int32) then ((C_Rr_toldTag_b20 sa (some b1) s kc ks Q)) else (ob (gP s 9 13 p0) (fun v3 => (ob (gI s 8 3 b1) (fun v4 => (ob v3 (fun b5 => (ob (rE s .int b5 v4) (fun v6 => (if v6 = 0 then ((C_Rr_toldTag_b20 sa (some b1) s kc ks Q)) else (ob (gP s 9 14 p0) (fun v7 => (ob (gI s 8 3 b1) (fun v8 => (ob v7 (fun b9 => (ob (rE s .int b9 v8) (fun v10 => (Q (mxI (0 : Int32) v10) s kc ks))))))))))))))))))))))
set_option maxRecDepth 100000 in
set_option maxHeartbeats 4000000 in
theorem kc_Rr_toldTag (base : Nat) (sa : Nat → Nat) {R : pmM} {s : cS} {kc ks : Nat} {Rt : pmR} {p0 : Nat} {p1 : Option Nat} {Q : (Int32 → cS → Nat → Nat → Prop)} (hw : cW sa R base s) (h : C_Rr_toldTag sa p0 p1 s kc ks Q) (k : ∀ r s' kc' ks', cW sa R base s' → Q r s' kc' ks' → Rt (some (.int r)) (cM R s') kc' ks') : kP_Rr_toldTag base sa [.ref p0, va_rf p1] (cM R s) kc ks Rt := by
  refine ⟨by cases p1 <;> exact Nat.le_of_ble_eq_true rfl, fun G hG => ?_⟩
  have eL : lv_args 0 [.ref p0, va_rf p1] = [(0, va_rf (some p0)), (1, va_rf p1)] := by cases p1 <;> rfl
  rw [eL]
  have b20 : ∀ (s : cS) (kc ks : Nat), KK sa R base G 20 [(1, va_rf p1)] [] s kc ks (C_Rr_toldTag_b20 sa p1 s kc ks Q) := by
    intro s kc ks
    refine kk_aln hG (x := p1) rfl rfl ?_
    refine kk_ob (fun b1 eb1 => ?_)
    subst eb1
    refine kk_gi hG (c := 8) (k := 5) (a := b1) rfl rfl rfl rfl (fun v2 => ?_)
    exact kk_ri hG rfl rfl rfl k
  refine (show KK sa R base G 0 [(0, va_rf (some p0)), (1, va_rf p1)] [] s kc ks (C_Rr_toldTag sa p0 p1 s kc ks Q) from ?_) hw h
  refine kk_aln hG (x := p1) rfl rfl ?_
  refine kk_ob (fun b1 eb1 => ?_)
  subst eb1
  refine kk_gi hG (c := 8) (k := 3) (a := b1) rfl rfl rfl rfl (fun v2 => ?_)
  refine kk_ic hG rfl cc_i2 ?_
  refine kk_ieq hG (t := 20) rfl rfl ?_ ?_
  · exact kk_wl hG [1] rfl (b20 _ _ _)
  refine kk_aln hG (x := (some p0)) rfl rfl ?_
  refine kk_gp hG (c := 9) (k := 13) (a := p0) rfl rfl rfl rfl (fun v3 => ?_)
  refine kk_aln hG (x := (some b1)) rfl rfl ?_
  refine kk_gi hG (c := 8) (k := 3) (a := b1) rfl rfl rfl rfl (fun v4 => ?_)
  refine kk_ob (fun b5 eb5 => ?_)
  subst eb5
  refine kk_ia hG (a := b5) rfl (fun v6 => ?_)
  refine kk_zne hG (t := 25) rfl rfl ?_ ?_
  · refine kk_ic hG rfl cc_i0 ?_
    refine kk_aln hG (x := (some p0)) rfl rfl ?_
    refine kk_gp hG (c := 9) (k := 14) (a := p0) rfl rfl rfl rfl (fun v7 => ?_)
    refine kk_aln hG (x := (some b1)) rfl rfl ?_
    refine kk_gi hG (c := 8) (k := 3) (a := b1) rfl rfl rfl rfl (fun v8 => ?_)
    refine kk_ob (fun b9 eb9 => ?_)
    subst eb9
    refine kk_ia hG (a := b9) rfl (fun v10 => ?_)
    refine kk_mx hG rfl rfl (Nat.le_of_ble_eq_true rfl) ?_
    exact kk_ri hG rfl rfl rfl k
  exact kk_wl hG [1] rfl (b20 _ _ _)
def C_Po_summaryOf_s2 (sa : Nat → Nat) (p0 : Nat) (p1 : Option Nat) (a2 : Int32) (s : cS) (kc ks : Nat) (Q : (Int32 → cS → Nat → Nat → Prop)) (P2 : (Int32 → cS → Nat → Nat → Prop)) : Prop := ob (gI s 4 8 p0) (fun v1 => (if a2 < v1 then (ob (gP s 4 7 p0) (fun v2 => (ob v2 (fun b3 => (ob (rQ s b3 a2) (fun v4 => (ob v4 (fun b5 => (okO s 5 b5 ∧ C_Pr_covers sa b5 p1 s kc ks (fun r6 sr6 cr6 dr6 => (if r6 = 0 then ((P2 (a2 + (1 : Int32)) sr6 cr6 dr6)) else ((Q a2 sr6 cr6 dr6))))))))))))) else ((Q ((-1) : Int32) s kc ks))))
def C_Po_summaryOf_b2 (sa : Nat → Nat) (p0 : Nat) (p1 : Option Nat) (a2 : Int32) (s : cS) (kc ks : Nat) (Q : (Int32 → cS → Nat → Nat → Prop)) : Prop := ∀ P2 : (Int32 → cS → Nat → Nat → Prop), (∀ (a2 : Int32) (s : cS) (kc ks : Nat), C_Po_summaryOf_s2 sa p0 p1 a2 s kc ks Q P2 → P2 a2 s kc ks) → P2 a2 s kc ks
def C_Po_summaryOf (sa : Nat → Nat) (p0 : Nat) (p1 : Option Nat) (s : cS) (kc ks : Nat) (Q : (Int32 → cS → Nat → Nat → Prop)) : Prop := (C_Po_summaryOf_b2 sa p0 p1 (0 : Int32) s kc ks Q)
set_option maxRecDepth 100000 in
set_option maxHeartbeats 4000000 in
theorem kc_Po_summaryOf (base : Nat) (sa : Nat → Nat) {R : pmM} {s : cS} {kc ks : Nat} {Rt : pmR} {p0 : Nat} {p1 : Option Nat} {Q : (Int32 → cS → Nat → Nat → Prop)} (hw : cW sa R base s) (h : C_Po_summaryOf sa p0 p1 s kc ks Q) (k : ∀ r s' kc' ks', cW sa R base s' → Q r s' kc' ks' → Rt (some (.int r)) (cM R s') kc' ks') : kP_Po_summaryOf base sa [.ref p0, va_rf p1] (cM R s) kc ks Rt := by
  refine ⟨by cases p1 <;> exact Nat.le_of_ble_eq_true rfl, fun G hG => ?_⟩
  have eL : lv_args 0 [.ref p0, va_rf p1] = [(0, va_rf (some p0)), (1, va_rf p1)] := by cases p1 <;> rfl
  rw [eL]
  have b2 : ∀ (a2 : Int32) (s : cS) (kc ks : Nat), KK sa R base G 2 [(0, va_rf (some p0)), (1, va_rf p1), (2, .int a2)] [] s kc ks (C_Po_summaryOf_b2 sa p0 p1 a2 s kc ks Q) := by
    have H : ∀ (P2 : (Int32 → cS → Nat → Nat → Prop)) (hP2 : ∀ (a2 : Int32) (s : cS) (kc ks : Nat), P2 a2 s kc ks → cW sa R base s → G 2 [(0, va_rf (some p0)), (1, va_rf p1), (2, .int a2)] [] (cM R s) kc ks) (a2 : Int32) (s : cS) (kc ks : Nat), KK sa R base G 2 [(0, va_rf (some p0)), (1, va_rf p1), (2, .int a2)] [] s kc ks (C_Po_summaryOf_s2 sa p0 p1 a2 s kc ks Q P2) := by
      intro P2 hP2
      intro a2 s kc ks
      refine kks hG rfl rfl ?_
      refine kk_aln hG (x := (some p0)) rfl rfl ?_
      refine kk_gi hG (c := 4) (k := 8) (a := p0) rfl rfl rfl rfl (fun v1 => ?_)
      refine kk_ige hG (t := 31) rfl rfl ?_ ?_
      · refine kk_ic hG rfl cc_im1 ?_
        exact kk_ri hG rfl rfl rfl k
      refine kk_aln hG (x := (some p0)) rfl rfl ?_
      refine kk_gp hG (c := 4) (k := 7) (a := p0) rfl rfl rfl rfl (fun v2 => ?_)
      refine kks hG rfl rfl ?_
      refine kk_ob (fun b3 eb3 => ?_)
      subst eb3
      refine kk_aa hG (a := b3) rfl (fun v4 => ?_)
      refine kk_aln hG (x := p1) rfl rfl ?_
      refine kk_ob (fun b5 eb5 => ?_)
      subst eb5
      refine kk_cx (w := .int) hG 0 rfl rfl (Nat.le_of_ble_eq_true rfl) (by decide) rfl (st' := []) rfl (cats_le (Nat.le_of_ble_eq_true rfl)) (fun _ hw h k => kk_rcv h.1 (kc_Pr_covers base sa hw h.2 k)) (fun r6 sr6 cr6 dr6 => ?_)
      refine kk_zeq hG (t := 25) rfl rfl ?_ ?_
      · refine kk_inc hG (L' := [(2, .int (a2 + (1 : Int32))), (0, va_rf (some p0)), (1, va_rf p1)]) rfl (Nat.le_of_ble_eq_true rfl) rfl cc_i1 (by cases p1 <;> rfl) ?_
        refine kk_go hG (t := 2) rfl rfl ?_
        exact kk_wl hG [1, 2, 0] rfl (fun hw h => hP2 _ _ _ _ h hw)
      refine kks hG rfl rfl ?_
      exact kk_ri hG rfl rfl rfl k
    exact fun a2 s kc ks hw h => h (fun a2 s kc ks => cW sa R base s → G 2 [(0, va_rf (some p0)), (1, va_rf p1), (2, .int a2)] [] (cM R s) kc ks) (fun a2 s kc ks hs hw => H _ (fun _ _ _ _ hp hw => hp hw) a2 s kc ks hw hs) hw
  refine (show KK sa R base G 0 [(0, va_rf (some p0)), (1, va_rf p1)] [] s kc ks (C_Po_summaryOf sa p0 p1 s kc ks Q) from ?_) hw h
  refine kk_ic hG rfl cc_i0 ?_
  refine kk_st hG (L' := [(2, .int (0 : Int32)), (0, va_rf (some p0)), (1, va_rf p1)]) rfl rfl (Nat.le_of_ble_eq_true rfl) (by cases p1 <;> rfl) ?_
  exact kk_wl hG [1, 2, 0] rfl (b2 _ _ _ _)
def C_Rr_gatherSummaries_b59 (sa : Nat → Nat) (p0 : Nat) (p1 : Option Nat) (a2 : Int32) (s : cS) (kc ks : Nat) (Q : (cS → Nat → Nat → Prop)) (P2 : (Int32 → cS → Nat → Nat → Prop)) : Prop := (P2 (a2 + (1 : Int32)) s kc ks)
def C_Rr_gatherSummaries_b40 (sa : Nat → Nat) (p0 : Nat) (p1 : Option Nat) (a2 : Int32) (a3 : Option Nat) (s : cS) (kc ks : Nat) (Q : (cS → Nat → Nat → Prop)) (P2 : (Int32 → cS → Nat → Nat → Prop)) : Prop := ob (gP s 9 0 p0) (fun v1 => (ob v1 (fun b2 => (ob (gP s 11 17 b2) (fun v3 => (ob p1 (fun b4 => (ob (gP s 4 9 b4) (fun v5 => (ob v5 (fun b6 => (ob (rE s .int b6 a2) (fun v7 => (ob v3 (fun b8 => (okO s 10 b8 ∧ C_Ta_add sa b8 a3 (0 : Int32) v7 s kc ks (fun r9 sr9 cr9 dr9 => ((C_Rr_gatherSummaries_b59 sa p0 (some b4) a2 sr9 cr9 dr9 Q P2)))))))))))))))))))
def C_Rr_gatherSummaries_s2 (sa : Nat → Nat) (p0 : Nat) (p1 : Option Nat) (a2 : Int32) (s : cS) (kc ks : Nat) (Q : (cS → Nat → Nat → Prop)) (P2 : (Int32 → cS → Nat → Nat → Prop)) : Prop := ob p1 (fun b1 => (ob (gI s 4 8 b1) (fun v2 => (if a2 < v2 then (ob (gP s 4 7 b1) (fun v3 => (ob v3 (fun b4 => (ob (rQ s b4 a2) (fun v5 => (ob (gP s 4 10 b1) (fun v6 => (ob v6 (fun b7 => (ob (rE s .boolean b7 a2) (fun v8 => (if v8 = 0 then ((C_Rr_gatherSummaries_b59 sa p0 (some b1) a2 s kc ks Q P2)) else (ob (gI s 4 13 b1) (fun v9 => (if 0 < v9 then (ob v5 (fun b10 => (ob (gI s 5 3 b10) (fun v11 => (if v11 = 0 then ((C_Rr_gatherSummaries_b59 sa p0 (some b1) a2 s kc ks Q P2)) else ((C_Rr_gatherSummaries_b40 sa p0 (some b1) a2 (some b10) s kc ks Q P2))))))) else ((C_Rr_gatherSummaries_b40 sa p0 (some b1) a2 v5 s kc ks Q P2)))))))))))))))))) else ((Q s kc ks))))))
def C_Rr_gatherSummaries_b2 (sa : Nat → Nat) (p0 : Nat) (p1 : Option Nat) (a2 : Int32) (s : cS) (kc ks : Nat) (Q : (cS → Nat → Nat → Prop)) : Prop := ∀ P2 : (Int32 → cS → Nat → Nat → Prop), (∀ (a2 : Int32) (s : cS) (kc ks : Nat), C_Rr_gatherSummaries_s2 sa p0 p1 a2 s kc ks Q P2 → P2 a2 s kc ks) → P2 a2 s kc ks
def C_Rr_gatherSummaries (sa : Nat → Nat) (p0 : Nat) (p1 : Option Nat) (s : cS) (kc ks : Nat) (Q : (cS → Nat → Nat → Prop)) : Prop := (C_Rr_gatherSummaries_b2 sa p0 p1 (0 : Int32) s kc ks Q)
set_option maxRecDepth 100000 in
set_option maxHeartbeats 4000000 in
theorem kc_Rr_gatherSummaries (base : Nat) (sa : Nat → Nat) {R : pmM} {s : cS} {kc ks : Nat} {Rt : pmR} {p0 : Nat} {p1 : Option Nat} {Q : (cS → Nat → Nat → Prop)} (hw : cW sa R base s) (h : C_Rr_gatherSummaries sa p0 p1 s kc ks Q) (k : ∀ s' kc' ks', cW sa R base s' → Q s' kc' ks' → Rt none (cM R s') kc' ks') : kP_Rr_gatherSummaries base sa [.ref p0, va_rf p1] (cM R s) kc ks Rt := by
  refine ⟨by cases p1 <;> exact Nat.le_of_ble_eq_true rfl, fun G hG => ?_⟩
  have eL : lv_args 0 [.ref p0, va_rf p1] = [(0, va_rf (some p0)), (1, va_rf p1)] := by cases p1 <;> rfl
  rw [eL]
  have b2 : ∀ (a2 : Int32) (s : cS) (kc ks : Nat), KK sa R base G 2 [(0, va_rf (some p0)), (1, va_rf p1), (2, .int a2)] [] s kc ks (C_Rr_gatherSummaries_b2 sa p0 p1 a2 s kc ks Q) := by
    have H : ∀ (P2 : (Int32 → cS → Nat → Nat → Prop)) (hP2 : ∀ (a2 : Int32) (s : cS) (kc ks : Nat), P2 a2 s kc ks → cW sa R base s → G 2 [(0, va_rf (some p0)), (1, va_rf p1), (2, .int a2)] [] (cM R s) kc ks) (a2 : Int32) (s : cS) (kc ks : Nat), KK sa R base G 2 [(0, va_rf (some p0)), (1, va_rf p1), (2, .int a2)] [] s kc ks (C_Rr_gatherSummaries_s2 sa p0 p1 a2 s kc ks Q P2) := by
      intro P2 hP2
      have b59 : ∀ (a2 : Int32) (s : cS) (kc ks : Nat), KK sa R base G 59 [(0, va_rf (some p0)), (1, va_rf p1), (2, .int a2)] [] s kc ks (C_Rr_gatherSummaries_b59 sa p0 p1 a2 s kc ks Q P2) := by
        intro a2 s kc ks
        refine kk_inc hG (L' := [(2, .int (a2 + (1 : Int32))), (0, va_rf (some p0)), (1, va_rf p1)]) rfl (Nat.le_of_ble_eq_true rfl) rfl cc_i1 (by cases p1 <;> rfl) ?_
        refine kk_go hG (t := 2) rfl rfl ?_
        exact kk_wl hG [1, 2, 0] rfl (fun hw h => hP2 _ _ _ _ h hw)
      have b40 : ∀ (a2 : Int32) (a3 : Option Nat) (s : cS) (kc ks : Nat), KK sa R base G 40 [(0, va_rf (some p0)), (1, va_rf p1), (2, .int a2), (3, va_rf a3)] [] s kc ks (C_Rr_gatherSummaries_b40 sa p0 p1 a2 a3 s kc ks Q P2) := by
        intro a2 a3 s kc ks
        refine kk_aln hG (x := (some p0)) rfl rfl ?_
        refine kk_gp hG (c := 9) (k := 0) (a := p0) rfl rfl rfl rfl (fun v1 => ?_)
        refine kk_ob (fun b2 eb2 => ?_)
        subst eb2
        refine kk_gp hG (c := 11) (k := 17) (a := b2) rfl rfl rfl rfl (fun v3 => ?_)
        refine kk_aln hG (x := a3) rfl rfl ?_
        refine kk_ic hG rfl cc_i0 ?_
        refine kk_aln hG (x := p1) rfl rfl ?_
        refine kk_ob (fun b4 eb4 => ?_)
        subst eb4
        refine kk_gp hG (c := 4) (k := 9) (a := b4) rfl rfl rfl rfl (fun v5 => ?_)
        refine kks hG rfl rfl ?_
        refine kk_ob (fun b6 eb6 => ?_)
        subst eb6
        refine kk_ia hG (a := b6) rfl (fun v7 => ?_)
        refine kk_ob (fun b8 eb8 => ?_)
        subst eb8
        refine kk_cx (w := va_rf) hG 0 rfl rfl (Nat.le_of_ble_eq_true rfl) (by decide) rfl (st' := []) rfl (cats_le (Nat.le_of_ble_eq_true rfl)) (fun _ hw h k => kk_rcv h.1 (kc_Ta_add base sa hw h.2 k)) (fun r9 sr9 cr9 dr9 => ?_)
        refine kk_pop hG (x := r9) rfl ?_
        exact kk_wl hG [0, 1, 2] rfl (b59 _ _ _ _)
      intro a2 s kc ks
      refine kks hG rfl rfl ?_
      refine kk_aln hG (x := p1) rfl rfl ?_
      refine kk_ob (fun b1 eb1 => ?_)
      subst eb1
      refine kk_gi hG (c := 4) (k := 8) (a := b1) rfl rfl rfl rfl (fun v2 => ?_)
      refine kk_ige hG (t := 65) rfl rfl ?_ ?_
      · exact kk_rv hG rfl rfl k
      refine kk_aln hG (x := (some b1)) rfl rfl ?_
      refine kk_gp hG (c := 4) (k := 7) (a := b1) rfl rfl rfl rfl (fun v3 => ?_)
      refine kks hG rfl rfl ?_
      refine kk_ob (fun b4 eb4 => ?_)
      subst eb4
      refine kk_aa hG (a := b4) rfl (fun v5 => ?_)
      refine kk_asn hG (x := v5) (L' := [(3, va_rf v5), (0, va_rf (some p0)), (1, va_rf (some b1)), (2, .int a2)]) rfl (Nat.le_of_ble_eq_true rfl) rfl ?_
      refine kk_aln hG (x := (some b1)) rfl rfl ?_
      refine kk_gp hG (c := 4) (k := 10) (a := b1) rfl rfl rfl rfl (fun v6 => ?_)
      refine kks hG rfl rfl ?_
      refine kk_ob (fun b7 eb7 => ?_)
      subst eb7
      refine kk_za hG (a := b7) rfl (fun v8 => ?_)
      refine kk_zeq hG (t := 59) rfl rfl ?_ ?_
      · exact kk_wl hG [1, 2, 3] rfl (b59 _ _ _ _)
      refine kk_aln hG (x := (some b1)) rfl rfl ?_
      refine kk_gi hG (c := 4) (k := 13) (a := b1) rfl rfl rfl rfl (fun v9 => ?_)
      refine kk_zle hG (t := 40) rfl rfl ?_ ?_
      · exact kk_wl hG [1, 2, 3, 0] rfl (b40 _ _ _ _ _)
      refine kk_aln hG (x := v5) rfl rfl ?_
      refine kk_ob (fun b10 eb10 => ?_)
      subst eb10
      refine kk_gi hG (c := 5) (k := 3) (a := b10) rfl rfl rfl rfl (fun v11 => ?_)
      refine kk_zeq hG (t := 59) rfl rfl ?_ ?_
      · exact kk_wl hG [1, 2, 3] rfl (b59 _ _ _ _)
      exact kk_wl hG [1, 2, 3, 0] rfl (b40 _ _ _ _ _)
    exact fun a2 s kc ks hw h => h (fun a2 s kc ks => cW sa R base s → G 2 [(0, va_rf (some p0)), (1, va_rf p1), (2, .int a2)] [] (cM R s) kc ks) (fun a2 s kc ks hs hw => H _ (fun _ _ _ _ hp hw => hp hw) a2 s kc ks hw hs) hw
  refine (show KK sa R base G 0 [(0, va_rf (some p0)), (1, va_rf p1)] [] s kc ks (C_Rr_gatherSummaries sa p0 p1 s kc ks Q) from ?_) hw h
  refine kk_ic hG rfl cc_i0 ?_
  refine kk_st hG (L' := [(2, .int (0 : Int32)), (0, va_rf (some p0)), (1, va_rf p1)]) rfl rfl (Nat.le_of_ble_eq_true rfl) (by cases p1 <;> rfl) ?_
  exact kk_wl hG [1, 2, 0] rfl (b2 _ _ _ _)
def C_Rr_gather_b280 (sa : Nat → Nat) (p0 : Nat) (p1 : Option Nat) (p2 : Int32) (p3 : Int32) (a4 : Option Nat) (a5 : Int32) (a6 : Int32) (a7 : Int32) (a8 : Int32) (s : cS) (kc ks : Nat) (Q : (cS → Nat → Nat → Prop)) (P71 : (Int32 → cS → Nat → Nat → Prop)) : Prop := (P71 (a8 + (1 : Int32)) s kc ks)
def C_Rr_gather_b265 (sa : Nat → Nat) (p0 : Nat) (p1 : Option Nat) (p2 : Int32) (p3 : Int32) (a4 : Option Nat) (a5 : Int32) (a6 : Int32) (a7 : Int32) (a8 : Int32) (a9 : Option Nat) (a10 : Int32) (a11 : Int32) (s : cS) (kc ks : Nat) (Q : (cS → Nat → Nat → Prop)) (P71 : (Int32 → cS → Nat → Nat → Prop)) : Prop := ob a9 (fun b1 => (ob (gP s 8 0 b1) (fun v2 => (ob a4 (fun b3 => (okO s 10 b3 ∧ C_Ta_add sa b3 v2 a11 a10 s kc ks (fun r4 sr4 cr4 dr4 => ((C_Rr_gather_b280 sa p0 p1 p2 p3 (some b3) a5 a6 a7 a8 sr4 cr4 dr4 Q P71)))))))))
def C_Rr_gather_b193 (sa : Nat → Nat) (p0 : Nat) (p1 : Option Nat) (p2 : Int32) (p3 : Int32) (a4 : Option Nat) (a5 : Int32) (a6 : Int32) (a7 : Int32) (a8 : Int32) (a9 : Option Nat) (a10 : Int32) (a11 : Int32) (a12 : Int32) (u0 : Int32) (s : cS) (kc ks : Nat) (Q : (cS → Nat → Nat → Prop)) (P71 : (Int32 → cS → Nat → Nat → Prop)) : Prop := if a10 = ((-1) : Int32) then ((C_Rr_gather_b280 sa p0 p1 p2 p3 a4 a5 a6 a7 a8 s kc ks Q P71)) else (if a12 = ((-1) : Int32) then (if u0 = 0 then ((C_Rr_gather_b280 sa p0 p1 p2 p3 a4 a5 a6 a7 a8 s kc ks Q P71)) else (if a6 = 0 then ((C_Rr_gather_b265 sa p0 p1 p2 p3 a4 a5 a6 a7 a8 a9 a10 a11 s kc ks Q P71)) else (ob a9 (fun b1 => (ob (gP s 8 0 b1) (fun v2 => (ob v2 (fun b3 => (ob (gI s 5 3 b3) (fun v4 => (if v4 = 0 then ((C_Rr_gather_b280 sa p0 p1 p2 p3 a4 a5 a6 a7 a8 s kc ks Q P71)) else ((C_Rr_gather_b265 sa p0 p1 p2 p3 a4 a5 a6 a7 a8 (some b1) a10 a11 s kc ks Q P71))))))))))))) else (ob p1 (fun b5 => (ob (gP s 4 9 b5) (fun v6 => (ob (gP s 4 9 b5) (fun v7 => (ob v7 (fun b8 => (ob (rE s .int b8 a12) (fun v9 => (ob v6 (fun b10 => (ob (wEi s b10 a12 (mnI v9 a10)) (fun s11 => (ob (gP s11 4 10 b5) (fun v12 => (ob v12 (fun b13 => (ob (rE s11 .boolean b13 a12) (fun v14 => (ob (wEz s11 b13 a12 (v14 ||| u0)) (fun s15 => ((C_Rr_gather_b280 sa p0 (some b5) p2 p3 a4 a5 a6 a7 a8 s15 kc ks Q P71)))))))))))))))))))))))))
def C_Rr_gather_b173 (sa : Nat → Nat) (p0 : Nat) (p1 : Option Nat) (p2 : Int32) (p3 : Int32) (a4 : Option Nat) (a5 : Int32) (a6 : Int32) (a7 : Int32) (a8 : Int32) (a9 : Option Nat) (a10 : Int32) (a11 : Int32) (u0 : Int32) (s : cS) (kc ks : Nat) (Q : (cS → Nat → Nat → Prop)) (P71 : (Int32 → cS → Nat → Nat → Prop)) : Prop := if p3 = (1 : Int32) then (ob a9 (fun b1 => (ob (gI s 8 7 b1) (fun v2 => (if v2 = 0 then ((C_Rr_gather_b193 sa p0 p1 p2 p3 a4 a5 a6 a7 a8 (some b1) a10 a11 u0 (0 : Int32) s kc ks Q P71)) else ((C_Rr_gather_b193 sa p0 p1 p2 p3 a4 a5 a6 a7 a8 (some b1) a10 a11 u0 (1 : Int32) s kc ks Q P71))))))) else ((C_Rr_gather_b193 sa p0 p1 p2 p3 a4 a5 a6 a7 a8 a9 a10 a11 u0 (1 : Int32) s kc ks Q P71))
def C_Rr_gather_b153 (sa : Nat → Nat) (p0 : Nat) (p1 : Option Nat) (p2 : Int32) (p3 : Int32) (a4 : Option Nat) (a5 : Int32) (a6 : Int32) (a7 : Int32) (a8 : Int32) (a9 : Option Nat) (a10 : Int32) (u0 : Int32) (s : cS) (kc ks : Nat) (Q : (cS → Nat → Nat → Prop)) (P71 : (Int32 → cS → Nat → Nat → Prop)) : Prop := if a5 = 0 then (ob a9 (fun b1 => (ob (gP s 8 0 b1) (fun v2 => (ob p1 (fun b3 => (okO s 4 b3 ∧ C_Po_summaryOf sa b3 v2 s kc ks (fun r4 sr4 cr4 dr4 => ((C_Rr_gather_b173 sa p0 (some b3) p2 p3 a4 a5 a6 a7 a8 (some b1) a10 u0 r4 sr4 cr4 dr4 Q P71)))))))))) else ((C_Rr_gather_b173 sa p0 p1 p2 p3 a4 a5 a6 a7 a8 a9 a10 u0 ((-1) : Int32) s kc ks Q P71))
def C_Rr_gather_b132 (sa : Nat → Nat) (p0 : Nat) (p1 : Option Nat) (p2 : Int32) (p3 : Int32) (a4 : Option Nat) (a5 : Int32) (a6 : Int32) (a7 : Int32) (a8 : Int32) (a9 : Option Nat) (u0 : Int32) (s : cS) (kc ks : Nat) (Q : (cS → Nat → Nat → Prop)) (P71 : (Int32 → cS → Nat → Nat → Prop)) : Prop := if a5 = 0 then (okO s 9 p0 ∧ C_Rr_toldTag sa p0 a9 s kc ks (fun r1 sr1 cr1 dr1 => ((C_Rr_gather_b153 sa p0 p1 p2 p3 a4 a5 a6 a7 a8 a9 u0 r1 sr1 cr1 dr1 Q P71)))) else (ob a9 (fun b2 => (ob (gI s 8 5 b2) (fun v3 => ((C_Rr_gather_b153 sa p0 p1 p2 p3 a4 a5 a6 a7 a8 (some b2) u0 v3 s kc ks Q P71))))))
def C_Rr_gather_b286 (sa : Nat → Nat) (p0 : Nat) (p1 : Option Nat) (p2 : Int32) (p3 : Int32) (a4 : Option Nat) (a6 : Int32) (s : cS) (kc ks : Nat) (Q : (cS → Nat → Nat → Prop)) : Prop := okO s 9 p0 ∧ C_Rr_gatherSummaries sa p0 p1 s kc ks (fun sr1 cr1 dr1 => (if a6 = 0 then (Q sr1 cr1 dr1) else (if p3 = 0 then (ob (gP sr1 9 0 p0) (fun v2 => (ob v2 (fun b3 => (ob (gP sr1 11 18 b3) (fun v4 => (ob v4 (fun b5 => (okO sr1 5 b5 ∧ C_Pr_setZero sa b5 p2 (0 : Int32) sr1 cr1 dr1 (fun sr6 cr6 dr6 => (ob (gP sr6 9 0 p0) (fun v7 => (ob v7 (fun b8 => (ob (gP sr6 11 18 b8) (fun v9 => (ob p1 (fun b10 => (ob (gI sr6 4 13 b10) (fun v11 => (ob a4 (fun b12 => (okO sr6 10 b12 ∧ C_Ta_add sa b12 v9 (0 : Int32) v11 sr6 cr6 dr6 (fun r13 sr13 cr13 dr13 => (Q sr13 cr13 dr13))))))))))))))))))))))))) else (Q sr1 cr1 dr1))))
def C_Rr_gather_s71 (sa : Nat → Nat) (p0 : Nat) (p1 : Option Nat) (p2 : Int32) (p3 : Int32) (a4 : Option Nat) (a5 : Int32) (a6 : Int32) (a7 : Int32) (a8 : Int32) (s : cS) (kc ks : Nat) (Q : (cS → Nat → Nat → Prop)) (P71 : (Int32 → cS → Nat → Nat → Prop)) : Prop := ob (gP s 9 6 p0) (fun v1 => (ob v1 (fun b2 => (ob (gI s 10 1 b2) (fun v3 => (if a8 < v3 then (if a7 = 0 then (ob (gP s 9 6 p0) (fun v4 => (ob v4 (fun b5 => (ob (gP s 10 0 b5) (fun v6 => (ob v6 (fun b7 => (ob (rQ s b7 a8) (fun v8 => (ob v8 (fun b9 => (ob (gP s 8 0 b9) (fun v10 => (ob v10 (fun b11 => (ob (gI s 5 0 b11) (fun v12 => (if v12 = p2 then (if a5 = 0 then (okO s 9 p0 ∧ C_Rr_toldMetric sa p0 (some b9) p1 s kc ks (fun r13 sr13 cr13 dr13 => ((C_Rr_gather_b132 sa p0 p1 p2 p3 a4 a5 a6 a7 a8 (some b9) r13 sr13 cr13 dr13 Q P71)))) else ((C_Rr_gather_b132 sa p0 p1 p2 p3 a4 a5 a6 a7 a8 (some b9) (16 : Int32) s kc ks Q P71))) else ((C_Rr_gather_b280 sa p0 p1 p2 p3 a4 a5 a6 a7 a8 s kc ks Q P71))))))))))))))))))))) else ((C_Rr_gather_b286 sa p0 p1 p2 p3 a4 a6 s kc ks Q))) else ((C_Rr_gather_b286 sa p0 p1 p2 p3 a4 a6 s kc ks Q))))))))
def C_Rr_gather_b71 (sa : Nat → Nat) (p0 : Nat) (p1 : Option Nat) (p2 : Int32) (p3 : Int32) (a4 : Option Nat) (a5 : Int32) (a6 : Int32) (a7 : Int32) (a8 : Int32) (s : cS) (kc ks : Nat) (Q : (cS → Nat → Nat → Prop)) : Prop := ∀ P71 : (Int32 → cS → Nat → Nat → Prop), (∀ (a8 : Int32) (s : cS) (kc ks : Nat), C_Rr_gather_s71 sa p0 p1 p2 p3 a4 a5 a6 a7 a8 s kc ks Q P71 → P71 a8 s kc ks) → P71 a8 s kc ks
def C_Rr_gather_b57 (sa : Nat → Nat) (p0 : Nat) (p1 : Option Nat) (p2 : Int32) (p3 : Int32) (a4 : Option Nat) (a5 : Int32) (a6 : Int32) (u0 : Int32) (s : cS) (kc ks : Nat) (Q : (cS → Nat → Nat → Prop)) : Prop := ob a4 (fun b1 => (okO s 10 b1 ∧ C_Ta_clear sa b1 s kc ks (fun sr2 cr2 dr2 => (ob p1 (fun b3 => (okO sr2 4 b3 ∧ C_Po_forgetSummaries sa b3 sr2 cr2 dr2 (fun sr4 cr4 dr4 => ((C_Rr_gather_b71 sa p0 (some b3) p2 p3 (some b1) a5 a6 u0 (0 : Int32) sr4 cr4 dr4 Q)))))))))
def C_Rr_gather_b38 (sa : Nat → Nat) (p0 : Nat) (p1 : Option Nat) (p2 : Int32) (p3 : Int32) (a4 : Option Nat) (a5 : Int32) (u0 : Int32) (s : cS) (kc ks : Nat) (Q : (cS → Nat → Nat → Prop)) : Prop := if u0 = 0 then ((C_Rr_gather_b57 sa p0 p1 p2 p3 a4 a5 u0 (0 : Int32) s kc ks Q)) else (ob p1 (fun b1 => (ob (gI s 4 14 b1) (fun v2 => (if v2 = 0 then ((C_Rr_gather_b57 sa p0 (some b1) p2 p3 a4 a5 u0 (0 : Int32) s kc ks Q)) else ((C_Rr_gather_b57 sa p0 (some b1) p2 p3 a4 a5 u0 (1 : Int32) s kc ks Q)))))))
def C_Rr_gather_b19 (sa : Nat → Nat) (p0 : Nat) (p1 : Option Nat) (p2 : Int32) (p3 : Int32) (a4 : Option Nat) (u0 : Int32) (s : cS) (kc ks : Nat) (Q : (cS → Nat → Nat → Prop)) : Prop := if u0 = 0 then (ob p1 (fun b1 => (ob (gI s 4 13 b1) (fun v2 => (if 0 < v2 then ((C_Rr_gather_b38 sa p0 (some b1) p2 p3 a4 u0 (1 : Int32) s kc ks Q)) else ((C_Rr_gather_b38 sa p0 (some b1) p2 p3 a4 u0 (0 : Int32) s kc ks Q))))))) else ((C_Rr_gather_b38 sa p0 p1 p2 p3 a4 u0 (0 : Int32) s kc ks Q))
def C_Rr_gather (sa : Nat → Nat) (p0 : Nat) (p1 : Option Nat) (p2 : Int32) (p3 : Int32) (s : cS) (kc ks : Nat) (Q : (cS → Nat → Nat → Prop)) : Prop := ob (gP s 9 0 p0) (fun v1 => (ob v1 (fun b2 => (ob (gP s 11 17 b2) (fun v3 => (if p3 = (2 : Int32) then ((C_Rr_gather_b19 sa p0 p1 p2 p3 v3 (1 : Int32) s kc ks Q)) else ((C_Rr_gather_b19 sa p0 p1 p2 p3 v3 (0 : Int32) s kc ks Q))))))))
set_option maxRecDepth 100000 in
set_option maxHeartbeats 4000000 in
theorem kc_Rr_gather (base : Nat) (sa : Nat → Nat) {R : pmM} {s : cS} {kc ks : Nat} {Rt : pmR} {p0 : Nat} {p1 : Option Nat} {p2 : Int32} {p3 : Int32} {Q : (cS → Nat → Nat → Prop)} (hw : cW sa R base s) (h : C_Rr_gather sa p0 p1 p2 p3 s kc ks Q) (k : ∀ s' kc' ks', cW sa R base s' → Q s' kc' ks' → Rt none (cM R s') kc' ks') : kP_Rr_gather base sa [.ref p0, va_rf p1, .int p2, .int p3] (cM R s) kc ks Rt := by
  refine ⟨by cases p1 <;> exact Nat.le_of_ble_eq_true rfl, fun G hG => ?_⟩
  have eL : lv_args 0 [.ref p0, va_rf p1, .int p2, .int p3] = [(0, va_rf (some p0)), (1, va_rf p1), (2, .int p2), (3, .int p3)] := by cases p1 <;> rfl
  rw [eL]
  have b286 : ∀ (a4 : Option Nat) (a6 : Int32) (s : cS) (kc ks : Nat), KK sa R base G 286 [(0, va_rf (some p0)), (1, va_rf p1), (2, .int p2), (3, .int p3), (4, va_rf a4), (6, .int a6)] [] s kc ks (C_Rr_gather_b286 sa p0 p1 p2 p3 a4 a6 s kc ks Q) := by
    intro a4 a6 s kc ks
    refine kk_aln hG (x := (some p0)) rfl rfl ?_
    refine kk_aln hG (x := p1) rfl rfl ?_
    refine kk_cv hG 0 rfl rfl (Nat.le_of_ble_eq_true rfl) (by decide) rfl (st' := []) rfl (cats_le (Nat.le_of_ble_eq_true rfl)) (fun _ hw h k => kk_rcv h.1 (kc_Rr_gatherSummaries base sa hw h.2 k)) (fun sr1 cr1 dr1 => ?_)
    refine kks hG rfl rfl ?_
    refine kk_zeq hG (t := 330) rfl rfl ?_ ?_
    · exact kk_rv hG rfl rfl k
    refine kks hG rfl rfl ?_
    refine kk_zne hG (t := 330) rfl rfl ?_ ?_
    · exact kk_rv hG rfl rfl k
    refine kk_aln hG (x := (some p0)) rfl rfl ?_
    refine kk_gp hG (c := 9) (k := 0) (a := p0) rfl rfl rfl rfl (fun v2 => ?_)
    refine kk_ob (fun b3 eb3 => ?_)
    subst eb3
    refine kk_gp hG (c := 11) (k := 18) (a := b3) rfl rfl rfl rfl (fun v4 => ?_)
    refine kks hG rfl rfl ?_
    refine kk_ic hG rfl cc_i0 ?_
    refine kk_ob (fun b5 eb5 => ?_)
    subst eb5
    refine kk_cv hG 0 rfl rfl (Nat.le_of_ble_eq_true rfl) (by decide) rfl (st' := []) rfl (cats_le (Nat.le_of_ble_eq_true rfl)) (fun _ hw h k => kk_rcv h.1 (kc_Pr_setZero base sa hw h.2 k)) (fun sr6 cr6 dr6 => ?_)
    refine kk_al hG (x := a4) rfl rfl ?_
    refine kk_aln hG (x := (some p0)) rfl rfl ?_
    refine kk_gp hG (c := 9) (k := 0) (a := p0) rfl rfl rfl rfl (fun v7 => ?_)
    refine kk_ob (fun b8 eb8 => ?_)
    subst eb8
    refine kk_gp hG (c := 11) (k := 18) (a := b8) rfl rfl rfl rfl (fun v9 => ?_)
    refine kk_ic hG rfl cc_i0 ?_
    refine kk_aln hG (x := p1) rfl rfl ?_
    refine kk_ob (fun b10 eb10 => ?_)
    subst eb10
    refine kk_gi hG (c := 4) (k := 13) (a := b10) rfl rfl rfl rfl (fun v11 => ?_)
    refine kk_ob (fun b12 eb12 => ?_)
    subst eb12
    refine kk_cx (w := va_rf) hG 0 rfl rfl (Nat.le_of_ble_eq_true rfl) (by decide) rfl (st' := []) rfl (cats_le (Nat.le_of_ble_eq_true rfl)) (fun _ hw h k => kk_rcv h.1 (kc_Ta_add base sa hw h.2 k)) (fun r13 sr13 cr13 dr13 => ?_)
    refine kk_pop hG (x := r13) rfl ?_
    exact kk_rv hG rfl rfl k
  have b71 : ∀ (a4 : Option Nat) (a5 : Int32) (a6 : Int32) (a7 : Int32) (a8 : Int32) (s : cS) (kc ks : Nat), KK sa R base G 71 [(0, va_rf (some p0)), (1, va_rf p1), (2, .int p2), (3, .int p3), (4, va_rf a4), (5, .int a5), (6, .int a6), (7, .int a7), (8, .int a8)] [] s kc ks (C_Rr_gather_b71 sa p0 p1 p2 p3 a4 a5 a6 a7 a8 s kc ks Q) := by
    intro a4 a5 a6 a7
    have H : ∀ (P71 : (Int32 → cS → Nat → Nat → Prop)) (hP71 : ∀ (a8 : Int32) (s : cS) (kc ks : Nat), P71 a8 s kc ks → cW sa R base s → G 71 [(0, va_rf (some p0)), (1, va_rf p1), (2, .int p2), (3, .int p3), (4, va_rf a4), (5, .int a5), (6, .int a6), (7, .int a7), (8, .int a8)] [] (cM R s) kc ks) (a8 : Int32) (s : cS) (kc ks : Nat), KK sa R base G 71 [(0, va_rf (some p0)), (1, va_rf p1), (2, .int p2), (3, .int p3), (4, va_rf a4), (5, .int a5), (6, .int a6), (7, .int a7), (8, .int a8)] [] s kc ks (C_Rr_gather_s71 sa p0 p1 p2 p3 a4 a5 a6 a7 a8 s kc ks Q P71) := by
      intro P71 hP71
      have b280 : ∀ (a8 : Int32) (s : cS) (kc ks : Nat), KK sa R base G 280 [(0, va_rf (some p0)), (1, va_rf p1), (2, .int p2), (3, .int p3), (4, va_rf a4), (5, .int a5), (6, .int a6), (7, .int a7), (8, .int a8)] [] s kc ks (C_Rr_gather_b280 sa p0 p1 p2 p3 a4 a5 a6 a7 a8 s kc ks Q P71) := by
        intro a8 s kc ks
        refine kk_inc hG (L' := [(8, .int (a8 + (1 : Int32))), (0, va_rf (some p0)), (1, va_rf p1), (2, .int p2), (3, .int p3), (4, va_rf a4), (5, .int a5), (6, .int a6), (7, .int a7)]) rfl (Nat.le_of_ble_eq_true rfl) rfl cc_i1 rfl ?_
        refine kk_go hG (t := 71) rfl rfl ?_
        exact kk_wl hG [1, 2, 3, 4, 5, 6, 7, 8, 0] rfl (fun hw h => hP71 _ _ _ _ h hw)
      have b265 : ∀ (a8 : Int32) (a9 : Option Nat) (a10 : Int32) (a11 : Int32) (s : cS) (kc ks : Nat), KK sa R base G 265 [(0, va_rf (some p0)), (1, va_rf p1), (2, .int p2), (3, .int p3), (4, va_rf a4), (5, .int a5), (6, .int a6), (7, .int a7), (8, .int a8), (9, va_rf a9), (10, .int a10), (11, .int a11)] [] s kc ks (C_Rr_gather_b265 sa p0 p1 p2 p3 a4 a5 a6 a7 a8 a9 a10 a11 s kc ks Q P71) := by
        intro a8 a9 a10 a11 s kc ks
        refine kk_al hG (x := a4) rfl rfl ?_
        refine kk_al hG (x := a9) rfl rfl ?_
        refine kk_ob (fun b1 eb1 => ?_)
        subst eb1
        refine kk_gp hG (c := 8) (k := 0) (a := b1) rfl rfl rfl rfl (fun v2 => ?_)
        refine kks hG rfl rfl ?_
        refine kks hG rfl rfl ?_
        refine kk_ob (fun b3 eb3 => ?_)
        subst eb3
        refine kk_cx (w := va_rf) hG 0 rfl rfl (Nat.le_of_ble_eq_true rfl) (by decide) rfl (st' := []) rfl (cats_le (Nat.le_of_ble_eq_true rfl)) (fun _ hw h k => kk_rcv h.1 (kc_Ta_add base sa hw h.2 k)) (fun r4 sr4 cr4 dr4 => ?_)
        refine kk_pop hG (x := r4) rfl ?_
        exact kk_wl hG [0, 1, 2, 3, 4, 5, 6, 7, 8] rfl (b280 _ _ _ _)
      have b193 : ∀ (a8 : Int32) (a9 : Option Nat) (a10 : Int32) (a11 : Int32) (a12 : Int32) (u0 : Int32) (s : cS) (kc ks : Nat), KK sa R base G 193 [(0, va_rf (some p0)), (1, va_rf p1), (2, .int p2), (3, .int p3), (4, va_rf a4), (5, .int a5), (6, .int a6), (7, .int a7), (8, .int a8), (9, va_rf a9), (10, .int a10), (11, .int a11), (12, .int a12)] [.int u0] s kc ks (C_Rr_gather_b193 sa p0 p1 p2 p3 a4 a5 a6 a7 a8 a9 a10 a11 a12 u0 s kc ks Q P71) := by
        intro a8 a9 a10 a11 a12 u0 s kc ks
        refine kk_st hG (L' := [(13, .int u0), (0, va_rf (some p0)), (1, va_rf p1), (2, .int p2), (3, .int p3), (4, va_rf a4), (5, .int a5), (6, .int a6), (7, .int a7), (8, .int a8), (9, va_rf a9), (10, .int a10), (11, .int a11), (12, .int a12)]) rfl rfl (Nat.le_of_ble_eq_true rfl) rfl ?_
        refine kks hG rfl rfl ?_
        refine kk_ic hG rfl cc_im1 ?_
        refine kk_ine hG (t := 204) rfl rfl ?_ ?_
        · refine kks hG rfl rfl ?_
          refine kk_ic hG rfl cc_im1 ?_
          refine kk_ieq hG (t := 244) rfl rfl ?_ ?_
          · refine kks hG rfl rfl ?_
            refine kk_zeq hG (t := 280) rfl rfl ?_ ?_
            · exact kk_wl hG [1, 2, 3, 4, 5, 6, 7, 8, 9] rfl (b280 _ _ _ _)
            refine kks hG rfl rfl ?_
            refine kk_zeq hG (t := 265) rfl rfl ?_ ?_
            · exact kk_wl hG [1, 2, 3, 4, 5, 6, 7, 8, 9, 10, 11, 12] rfl (b265 _ _ _ _ _ _ _)
            refine kk_al hG (x := a9) rfl rfl ?_
            refine kk_ob (fun b1 eb1 => ?_)
            subst eb1
            refine kk_gp hG (c := 8) (k := 0) (a := b1) rfl rfl rfl rfl (fun v2 => ?_)
            refine kk_ob (fun b3 eb3 => ?_)
            subst eb3
            refine kk_gi hG (c := 5) (k := 3) (a := b3) rfl rfl rfl rfl (fun v4 => ?_)
            refine kk_zeq hG (t := 280) rfl rfl ?_ ?_
            · exact kk_wl hG [1, 2, 3, 4, 5, 6, 7, 8, 9] rfl (b280 _ _ _ _)
            exact kk_wl hG [1, 2, 3, 4, 5, 6, 7, 8, 9, 10, 11, 12] rfl (b265 _ _ _ _ _ _ _)
          refine kk_aln hG (x := p1) rfl rfl ?_
          refine kk_ob (fun b5 eb5 => ?_)
          subst eb5
          refine kk_gp hG (c := 4) (k := 9) (a := b5) rfl rfl rfl rfl (fun v6 => ?_)
          refine kks hG rfl rfl ?_
          refine kk_aln hG (x := (some b5)) rfl rfl ?_
          refine kk_gp hG (c := 4) (k := 9) (a := b5) rfl rfl rfl rfl (fun v7 => ?_)
          refine kks hG rfl rfl ?_
          refine kk_ob (fun b8 eb8 => ?_)
          subst eb8
          refine kk_ia hG (a := b8) rfl (fun v9 => ?_)
          refine kks hG rfl rfl ?_
          refine kk_mn hG rfl rfl (Nat.le_of_ble_eq_true rfl) ?_
          refine kk_ob (fun b10 eb10 => ?_)
          subst eb10
          refine kk_is hG (a := b10) rfl (fun s11 => ?_)
          refine kk_aln hG (x := (some b5)) rfl rfl ?_
          refine kk_gp hG (c := 4) (k := 10) (a := b5) rfl rfl rfl rfl (fun v12 => ?_)
          refine kks hG rfl rfl ?_
          refine kk_dup2 hG (x := v12) rfl ?_
          refine kk_ob (fun b13 eb13 => ?_)
          subst eb13
          refine kk_za hG (a := b13) rfl (fun v14 => ?_)
          refine kks hG rfl rfl ?_
          refine kks hG rfl rfl ?_
          refine kk_zs hG (a := b13) rfl (fun s15 => ?_)
          refine kk_go hG (t := 280) rfl rfl ?_
          exact kk_wl hG [1, 2, 3, 4, 5, 6, 7, 8, 9] rfl (b280 _ _ _ _)
        refine kk_go hG (t := 280) rfl rfl ?_
        exact kk_wl hG [1, 2, 3, 4, 5, 6, 7, 8, 9] rfl (b280 _ _ _ _)
      have b173 : ∀ (a8 : Int32) (a9 : Option Nat) (a10 : Int32) (a11 : Int32) (u0 : Int32) (s : cS) (kc ks : Nat), KK sa R base G 173 [(0, va_rf (some p0)), (1, va_rf p1), (2, .int p2), (3, .int p3), (4, va_rf a4), (5, .int a5), (6, .int a6), (7, .int a7), (8, .int a8), (9, va_rf a9), (10, .int a10), (11, .int a11)] [.int u0] s kc ks (C_Rr_gather_b173 sa p0 p1 p2 p3 a4 a5 a6 a7 a8 a9 a10 a11 u0 s kc ks Q P71) := by
        intro a8 a9 a10 a11 u0 s kc ks
        refine kk_st hG (L' := [(12, .int u0), (0, va_rf (some p0)), (1, va_rf p1), (2, .int p2), (3, .int p3), (4, va_rf a4), (5, .int a5), (6, .int a6), (7, .int a7), (8, .int a8), (9, va_rf a9), (10, .int a10), (11, .int a11)]) rfl rfl (Nat.le_of_ble_eq_true rfl) rfl ?_
        refine kks hG rfl rfl ?_
        refine kk_ic hG rfl cc_i1 ?_
        refine kk_ine hG (t := 188) rfl rfl ?_ ?_
        · refine kk_ic hG rfl cc_i1 ?_
          refine kk_go hG (t := 193) rfl rfl ?_
          exact kk_wl hG [1, 2, 3, 4, 5, 6, 7, 8, 9, 10, 11, 12, 0] rfl (b193 _ _ _ _ _ _ _ _ _)
        refine kk_al hG (x := a9) rfl rfl ?_
        refine kk_ob (fun b1 eb1 => ?_)
        subst eb1
        refine kk_gi hG (c := 8) (k := 7) (a := b1) rfl rfl rfl rfl (fun v2 => ?_)
        refine kk_zeq hG (t := 192) rfl rfl ?_ ?_
        · refine kk_ic hG rfl cc_i0 ?_
          exact kk_wl hG [1, 2, 3, 4, 5, 6, 7, 8, 9, 10, 11, 12, 0] rfl (b193 _ _ _ _ _ _ _ _ _)
        refine kk_ic hG rfl cc_i1 ?_
        refine kk_go hG (t := 193) rfl rfl ?_
        exact kk_wl hG [1, 2, 3, 4, 5, 6, 7, 8, 9, 10, 11, 12, 0] rfl (b193 _ _ _ _ _ _ _ _ _)
      have b153 : ∀ (a8 : Int32) (a9 : Option Nat) (a10 : Int32) (u0 : Int32) (s : cS) (kc ks : Nat), KK sa R base G 153 [(0, va_rf (some p0)), (1, va_rf p1), (2, .int p2), (3, .int p3), (4, va_rf a4), (5, .int a5), (6, .int a6), (7, .int a7), (8, .int a8), (9, va_rf a9), (10, .int a10)] [.int u0] s kc ks (C_Rr_gather_b153 sa p0 p1 p2 p3 a4 a5 a6 a7 a8 a9 a10 u0 s kc ks Q P71) := by
        intro a8 a9 a10 u0 s kc ks
        refine kk_st hG (L' := [(11, .int u0), (0, va_rf (some p0)), (1, va_rf p1), (2, .int p2), (3, .int p3), (4, va_rf a4), (5, .int a5), (6, .int a6), (7, .int a7), (8, .int a8), (9, va_rf a9), (10, .int a10)]) rfl rfl (Nat.le_of_ble_eq_true rfl) rfl ?_
        refine kks hG rfl rfl ?_
        refine kk_zeq hG (t := 164) rfl rfl ?_ ?_
        · refine kk_aln hG (x := p1) rfl rfl ?_
          refine kk_al hG (x := a9) rfl rfl ?_
          refine kk_ob (fun b1 eb1 => ?_)
          subst eb1
          refine kk_gp hG (c := 8) (k := 0) (a := b1) rfl rfl rfl rfl (fun v2 => ?_)
          refine kk_ob (fun b3 eb3 => ?_)
          subst eb3
          refine kk_cx (w := .int) hG 0 rfl rfl (Nat.le_of_ble_eq_true rfl) (by decide) rfl (st' := []) rfl (cats_le (Nat.le_of_ble_eq_true rfl)) (fun _ hw h k => kk_rcv h.1 (kc_Po_summaryOf base sa hw h.2 k)) (fun r4 sr4 cr4 dr4 => ?_)
          exact kk_wl hG [1, 2, 3, 4, 5, 6, 7, 8, 9, 10, 11, 0] rfl (b173 _ _ _ _ _ _ _ _)
        refine kk_ic hG rfl cc_im1 ?_
        refine kk_go hG (t := 173) rfl rfl ?_
        exact kk_wl hG [1, 2, 3, 4, 5, 6, 7, 8, 9, 10, 11, 0] rfl (b173 _ _ _ _ _ _ _ _)
      have b132 : ∀ (a8 : Int32) (a9 : Option Nat) (u0 : Int32) (s : cS) (kc ks : Nat), KK sa R base G 132 [(0, va_rf (some p0)), (1, va_rf p1), (2, .int p2), (3, .int p3), (4, va_rf a4), (5, .int a5), (6, .int a6), (7, .int a7), (8, .int a8), (9, va_rf a9)] [.int u0] s kc ks (C_Rr_gather_b132 sa p0 p1 p2 p3 a4 a5 a6 a7 a8 a9 u0 s kc ks Q P71) := by
        intro a8 a9 u0 s kc ks
        refine kk_st hG (L' := [(10, .int u0), (0, va_rf (some p0)), (1, va_rf p1), (2, .int p2), (3, .int p3), (4, va_rf a4), (5, .int a5), (6, .int a6), (7, .int a7), (8, .int a8), (9, va_rf a9)]) rfl rfl (Nat.le_of_ble_eq_true rfl) (by cases a9 <;> rfl) ?_
        refine kks hG rfl rfl ?_
        refine kk_zeq hG (t := 147) rfl rfl ?_ ?_
        · refine kk_aln hG (x := (some p0)) rfl rfl ?_
          refine kk_al hG (x := a9) rfl rfl ?_
          refine kk_cx (w := .int) hG 0 rfl rfl (Nat.le_of_ble_eq_true rfl) (by decide) rfl (st' := []) rfl (cats_le (Nat.le_of_ble_eq_true rfl)) (fun _ hw h k => kk_rcv h.1 (kc_Rr_toldTag base sa hw h.2 k)) (fun r1 sr1 cr1 dr1 => ?_)
          exact kk_wl hG [1, 2, 3, 4, 5, 6, 7, 8, 9, 10, 0] rfl (b153 _ _ _ _ _ _ _)
        refine kk_al hG (x := a9) rfl rfl ?_
        refine kk_ob (fun b2 eb2 => ?_)
        subst eb2
        refine kk_gi hG (c := 8) (k := 5) (a := b2) rfl rfl rfl rfl (fun v3 => ?_)
        refine kk_go hG (t := 153) rfl rfl ?_
        exact kk_wl hG [1, 2, 3, 4, 5, 6, 7, 8, 9, 10, 0] rfl (b153 _ _ _ _ _ _ _)
      intro a8 s kc ks
      refine kks hG rfl rfl ?_
      refine kk_aln hG (x := (some p0)) rfl rfl ?_
      refine kk_gp hG (c := 9) (k := 6) (a := p0) rfl rfl rfl rfl (fun v1 => ?_)
      refine kk_ob (fun b2 eb2 => ?_)
      subst eb2
      refine kk_gi hG (c := 10) (k := 1) (a := b2) rfl rfl rfl rfl (fun v3 => ?_)
      refine kk_ige hG (t := 286) rfl rfl ?_ ?_
      · exact kk_wl hG [0, 1, 2, 3, 4, 6] rfl (b286 _ _ _ _ _)
      refine kks hG rfl rfl ?_
      refine kk_zne hG (t := 286) rfl rfl ?_ ?_
      · exact kk_wl hG [0, 1, 2, 3, 4, 6] rfl (b286 _ _ _ _ _)
      refine kk_aln hG (x := (some p0)) rfl rfl ?_
      refine kk_gp hG (c := 9) (k := 6) (a := p0) rfl rfl rfl rfl (fun v4 => ?_)
      refine kk_ob (fun b5 eb5 => ?_)
      subst eb5
      refine kk_gp hG (c := 10) (k := 0) (a := b5) rfl rfl rfl rfl (fun v6 => ?_)
      refine kks hG rfl rfl ?_
      refine kk_ob (fun b7 eb7 => ?_)
      subst eb7
      refine kk_aa hG (a := b7) rfl (fun v8 => ?_)
      refine kk_as hG (x := v8) (L' := [(9, va_rf v8), (0, va_rf (some p0)), (1, va_rf p1), (2, .int p2), (3, .int p3), (4, va_rf a4), (5, .int a5), (6, .int a6), (7, .int a7), (8, .int a8)]) rfl (Nat.le_of_ble_eq_true rfl) rfl ?_
      refine kk_al hG (x := v8) rfl rfl ?_
      refine kk_ob (fun b9 eb9 => ?_)
      subst eb9
      refine kk_gp hG (c := 8) (k := 0) (a := b9) rfl rfl rfl rfl (fun v10 => ?_)
      refine kk_ob (fun b11 eb11 => ?_)
      subst eb11
      refine kk_gi hG (c := 5) (k := 0) (a := b11) rfl rfl rfl rfl (fun v12 => ?_)
      refine kks hG rfl rfl ?_
      refine kk_ieq hG (t := 115) rfl rfl ?_ ?_
      · refine kks hG rfl rfl ?_
        refine kk_zeq hG (t := 125) rfl rfl ?_ ?_
        · refine kk_aln hG (x := (some p0)) rfl rfl ?_
          refine kk_al hG (x := (some b9)) rfl rfl ?_
          refine kk_aln hG (x := p1) rfl rfl ?_
          refine kk_cx (w := .int) hG 0 rfl rfl (Nat.le_of_ble_eq_true rfl) (by decide) rfl (st' := []) rfl (cats_le (Nat.le_of_ble_eq_true rfl)) (fun _ hw h k => kk_rcv h.1 (kc_Rr_toldMetric base sa hw h.2 k)) (fun r13 sr13 cr13 dr13 => ?_)
          exact kk_wl hG [1, 2, 3, 4, 5, 6, 7, 8, 9, 0] rfl (b132 _ _ _ _ _ _)
        refine kk_bi hG rfl cc_b16 ?_
        refine kk_go hG (t := 132) rfl rfl ?_
        exact kk_wl hG [1, 2, 3, 4, 5, 6, 7, 8, 9, 0] rfl (b132 _ _ _ _ _ _)
      refine kk_go hG (t := 280) rfl rfl ?_
      exact kk_wl hG [1, 2, 3, 4, 5, 6, 7, 8, 9] rfl (b280 _ _ _ _)
    exact fun a8 s kc ks hw h => h (fun a8 s kc ks => cW sa R base s → G 71 [(0, va_rf (some p0)), (1, va_rf p1), (2, .int p2), (3, .int p3), (4, va_rf a4), (5, .int a5), (6, .int a6), (7, .int a7), (8, .int a8)] [] (cM R s) kc ks) (fun a8 s kc ks hs hw => H _ (fun _ _ _ _ hp hw => hp hw) a8 s kc ks hw hs) hw
  have b57 : ∀ (a4 : Option Nat) (a5 : Int32) (a6 : Int32) (u0 : Int32) (s : cS) (kc ks : Nat), KK sa R base G 57 [(0, va_rf (some p0)), (1, va_rf p1), (2, .int p2), (3, .int p3), (4, va_rf a4), (5, .int a5), (6, .int a6)] [.int u0] s kc ks (C_Rr_gather_b57 sa p0 p1 p2 p3 a4 a5 a6 u0 s kc ks Q) := by
    intro a4 a5 a6 u0 s kc ks
    refine kk_st hG (L' := [(7, .int u0), (0, va_rf (some p0)), (1, va_rf p1), (2, .int p2), (3, .int p3), (4, va_rf a4), (5, .int a5), (6, .int a6)]) rfl rfl (Nat.le_of_ble_eq_true rfl) rfl ?_
    refine kk_al hG (x := a4) rfl rfl ?_
    refine kk_ob (fun b1 eb1 => ?_)
    subst eb1
    refine kk_cv hG 0 rfl rfl (Nat.le_of_ble_eq_true rfl) (by decide) rfl (st' := []) rfl (cats_le (Nat.le_of_ble_eq_true rfl)) (fun _ hw h k => kk_rcv h.1 (kc_Ta_clear base sa hw h.2 k)) (fun sr2 cr2 dr2 => ?_)
    refine kk_aln hG (x := p1) rfl rfl ?_
    refine kk_ob (fun b3 eb3 => ?_)
    subst eb3
    refine kk_cv hG 0 rfl rfl (Nat.le_of_ble_eq_true rfl) (by decide) rfl (st' := []) rfl (cats_le (Nat.le_of_ble_eq_true rfl)) (fun _ hw h k => kk_rcv h.1 (kc_Po_forgetSummaries base sa hw h.2 k)) (fun sr4 cr4 dr4 => ?_)
    refine kk_ic hG rfl cc_i0 ?_
    refine kk_st hG (L' := [(8, .int (0 : Int32)), (7, .int u0), (0, va_rf (some p0)), (1, va_rf (some b3)), (2, .int p2), (3, .int p3), (4, va_rf (some b1)), (5, .int a5), (6, .int a6)]) rfl rfl (Nat.le_of_ble_eq_true rfl) rfl ?_
    exact kk_wl hG [2, 3, 4, 5, 6, 7, 8, 1, 0] rfl (b71 _ _ _ _ _ _ _ _)
  have b38 : ∀ (a4 : Option Nat) (a5 : Int32) (u0 : Int32) (s : cS) (kc ks : Nat), KK sa R base G 38 [(0, va_rf (some p0)), (1, va_rf p1), (2, .int p2), (3, .int p3), (4, va_rf a4), (5, .int a5)] [.int u0] s kc ks (C_Rr_gather_b38 sa p0 p1 p2 p3 a4 a5 u0 s kc ks Q) := by
    intro a4 a5 u0 s kc ks
    refine kk_st hG (L' := [(6, .int u0), (0, va_rf (some p0)), (1, va_rf p1), (2, .int p2), (3, .int p3), (4, va_rf a4), (5, .int a5)]) rfl rfl (Nat.le_of_ble_eq_true rfl) rfl ?_
    refine kks hG rfl rfl ?_
    refine kk_zeq hG (t := 56) rfl rfl ?_ ?_
    · refine kk_ic hG rfl cc_i0 ?_
      exact kk_wl hG [1, 2, 3, 4, 5, 6, 0] rfl (b57 _ _ _ _ _ _ _)
    refine kk_aln hG (x := p1) rfl rfl ?_
    refine kk_ob (fun b1 eb1 => ?_)
    subst eb1
    refine kk_gi hG (c := 4) (k := 14) (a := b1) rfl rfl rfl rfl (fun v2 => ?_)
    refine kk_zeq hG (t := 56) rfl rfl ?_ ?_
    · refine kk_ic hG rfl cc_i0 ?_
      exact kk_wl hG [1, 2, 3, 4, 5, 6, 0] rfl (b57 _ _ _ _ _ _ _)
    refine kk_ic hG rfl cc_i1 ?_
    refine kk_go hG (t := 57) rfl rfl ?_
    exact kk_wl hG [1, 2, 3, 4, 5, 6, 0] rfl (b57 _ _ _ _ _ _ _)
  have b19 : ∀ (a4 : Option Nat) (u0 : Int32) (s : cS) (kc ks : Nat), KK sa R base G 19 [(0, va_rf (some p0)), (1, va_rf p1), (2, .int p2), (3, .int p3), (4, va_rf a4)] [.int u0] s kc ks (C_Rr_gather_b19 sa p0 p1 p2 p3 a4 u0 s kc ks Q) := by
    intro a4 u0 s kc ks
    refine kk_st hG (L' := [(5, .int u0), (0, va_rf (some p0)), (1, va_rf p1), (2, .int p2), (3, .int p3), (4, va_rf a4)]) rfl rfl (Nat.le_of_ble_eq_true rfl) (by cases a4 <;> rfl) ?_
    refine kks hG rfl rfl ?_
    refine kk_zne hG (t := 37) rfl rfl ?_ ?_
    · refine kk_ic hG rfl cc_i0 ?_
      exact kk_wl hG [1, 2, 3, 4, 5, 0] rfl (b38 _ _ _ _ _ _)
    refine kk_aln hG (x := p1) rfl rfl ?_
    refine kk_ob (fun b1 eb1 => ?_)
    subst eb1
    refine kk_gi hG (c := 4) (k := 13) (a := b1) rfl rfl rfl rfl (fun v2 => ?_)
    refine kk_zle hG (t := 37) rfl rfl ?_ ?_
    · refine kk_ic hG rfl cc_i0 ?_
      exact kk_wl hG [1, 2, 3, 4, 5, 0] rfl (b38 _ _ _ _ _ _)
    refine kk_ic hG rfl cc_i1 ?_
    refine kk_go hG (t := 38) rfl rfl ?_
    exact kk_wl hG [1, 2, 3, 4, 5, 0] rfl (b38 _ _ _ _ _ _)
  refine (show KK sa R base G 0 [(0, va_rf (some p0)), (1, va_rf p1), (2, .int p2), (3, .int p3)] [] s kc ks (C_Rr_gather sa p0 p1 p2 p3 s kc ks Q) from ?_) hw h
  refine kk_aln hG (x := (some p0)) rfl rfl ?_
  refine kk_gp hG (c := 9) (k := 0) (a := p0) rfl rfl rfl rfl (fun v1 => ?_)
  refine kk_ob (fun b2 eb2 => ?_)
  subst eb2
  refine kk_gp hG (c := 11) (k := 17) (a := b2) rfl rfl rfl rfl (fun v3 => ?_)
  refine kk_as hG (x := v3) (L' := [(4, va_rf v3), (0, va_rf (some p0)), (1, va_rf p1), (2, .int p2), (3, .int p3)]) rfl (Nat.le_of_ble_eq_true rfl) rfl ?_
  refine kks hG rfl rfl ?_
  refine kk_ic hG rfl cc_i2 ?_
  refine kk_ine hG (t := 18) rfl rfl ?_ ?_
  · refine kk_ic hG rfl cc_i0 ?_
    exact kk_wl hG [1, 2, 3, 4, 0] rfl (b19 _ _ _ _ _)
  refine kk_ic hG rfl cc_i1 ?_
  refine kk_go hG (t := 19) rfl rfl ?_
  exact kk_wl hG [1, 2, 3, 4, 0] rfl (b19 _ _ _ _ _)
