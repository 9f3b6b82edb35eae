/-! Methods as weakest preconditions, by program: Pl_add .. Re_takeSecret -/
def C_Pl_add (sa : Nat → Nat) (p0 : Nat) (p1 : Option Nat) (p2 : Int32) (p3 : Int32) (p4 : Int32) (s : cS) (kc ks : Nat) (Q : (cS → Nat → Nat → Prop)) : Prop := okO s 6 p0 ∧ C_Pl_isFull sa p0 s kc ks (fun r1 sr1 cr1 dr1 => (if r1 = 0 then (ob (gP sr1 6 1 p0) (fun v2 => (ob (gI sr1 6 5 p0) (fun v3 => (nwO sr1 cr1 dr1 5 4 (fun q4 sq4 cq4 dq4 => (okO sq4 5 q4 ∧ C_Pr_init sa q4 sq4 cq4 dq4 (fun sr5 cr5 dr5 => (ob v2 (fun b6 => (ob (wQ sr5 b6 v3 (some q4)) (fun s7 => (ob (gP s7 6 1 p0) (fun v8 => (ob (gI s7 6 5 p0) (fun v9 => (ob v8 (fun b10 => (ob (rQ s7 b10 v9) (fun v11 => (ob v11 (fun b12 => (okO s7 5 b12 ∧ C_Pr_copy sa b12 p1 s7 cr5 dr5 (fun sr13 cr13 dr13 => (ob (gP sr13 6 2 p0) (fun v14 => (ob (gI sr13 6 5 p0) (fun v15 => (ob v14 (fun b16 => (ob (wEz sr13 b16 v15 p2) (fun s17 => (ob (gP s17 6 3 p0) (fun v18 => (ob (gI s17 6 5 p0) (fun v19 => (ob v18 (fun b20 => (ob (wEi s17 b20 v19 p3) (fun s21 => (ob (gP s21 6 4 p0) (fun v22 => (ob (gI s21 6 5 p0) (fun v23 => (ob v22 (fun b24 => (ob (wEi s21 b24 v23 p4) (fun s25 => (ob (gI s25 6 5 p0) (fun v26 => (ob (pI s25 6 5 p0 (v26 + (1 : Int32))) (fun s27 => (Q s27 cr13 dr13))))))))))))))))))))))))))))))))))))))))))))))))))))) else (Q sr1 cr1 dr1)))
set_option maxRecDepth 100000 in
set_option maxHeartbeats 4000000 in
theorem kc_Pl_add (base : Nat) (sa : Nat → Nat) {R : pmM} {s : cS} {kc ks : Nat} {Rt : pmR} {p0 : Nat} {p1 : Option Nat} {p2 : Int32} {p3 : Int32} {p4 : Int32} {Q : (cS → Nat → Nat → Prop)} (hw : cW sa R base s) (h : C_Pl_add sa p0 p1 p2 p3 p4 s kc ks Q) (k : ∀ s' kc' ks', cW sa R base s' → Q s' kc' ks' → Rt none (cM R s') kc' ks') : kP_Pl_add base sa [.ref p0, va_rf p1, .int p2, .int p3, .int p4] (cM R s) kc ks Rt := by
  refine ⟨by cases p1 <;> exact Nat.le_of_ble_eq_true rfl, fun G hG => ?_⟩
  have eL : lv_args 0 [.ref p0, va_rf p1, .int p2, .int p3, .int p4] = [(0, va_rf (some p0)), (1, va_rf p1), (2, .int p2), (3, .int p3), (4, .int p4)] := by cases p1 <;> rfl
  rw [eL]
  refine (show KK sa R base G 0 [(0, va_rf (some p0)), (1, va_rf p1), (2, .int p2), (3, .int p3), (4, .int p4)] [] s kc ks (C_Pl_add sa p0 p1 p2 p3 p4 s kc ks Q) from ?_) hw h
  refine kk_aln hG (x := (some p0)) rfl rfl ?_
  refine kk_cx (w := .int) hG 0 rfl rfl (Nat.le_of_ble_eq_true rfl) (by decide) rfl (st' := []) rfl (cats_le (Nat.le_of_ble_eq_true rfl)) (fun _ hw h k => kk_rcv h.1 (kc_Pl_isFull base sa hw h.2 k)) (fun r1 sr1 cr1 dr1 => ?_)
  refine kk_zeq hG (t := 8) rfl rfl ?_ ?_
  · refine kk_aln hG (x := (some p0)) rfl rfl ?_
    refine kk_gp hG (c := 6) (k := 1) (a := p0) rfl rfl rfl rfl (fun v2 => ?_)
    refine kk_aln hG (x := (some p0)) rfl rfl ?_
    refine kk_gi hG (c := 6) (k := 5) (a := p0) rfl rfl rfl rfl (fun v3 => ?_)
    refine kk_new hG (c := 5) (n := 4) rfl rfl rfl rfl (fun q4 sq4 cq4 dq4 => ?_)
    refine kk_dup hG (x := (some q4)) rfl ?_
    refine kk_cv hG 1 rfl rfl (Nat.le_of_ble_eq_true rfl) (by decide) rfl (st' := [va_rf (some q4), .int v3, va_rf v2]) rfl (cats_le (Nat.le_of_ble_eq_true rfl)) (fun _ hw h k => kk_rcv h.1 (kc_Pr_init base sa hw h.2 k)) (fun sr5 cr5 dr5 => ?_)
    refine kk_ob (fun b6 eb6 => ?_)
    subst eb6
    refine kk_aas hG (a := b6) (x := (some q4)) rfl (fun s7 => ?_)
    refine kk_aln hG (x := (some p0)) rfl rfl ?_
    refine kk_gp hG (c := 6) (k := 1) (a := p0) rfl rfl rfl rfl (fun v8 => ?_)
    refine kk_aln hG (x := (some p0)) rfl rfl ?_
    refine kk_gi hG (c := 6) (k := 5) (a := p0) rfl rfl rfl rfl (fun v9 => ?_)
    refine kk_ob (fun b10 eb10 => ?_)
    subst eb10
    refine kk_aa hG (a := b10) rfl (fun v11 => ?_)
    refine kk_aln hG (x := p1) rfl rfl ?_
    refine kk_ob (fun b12 eb12 => ?_)
    subst eb12
    refine kk_cv hG 0 rfl rfl (Nat.le_of_ble_eq_true rfl) (by decide) rfl (st' := []) rfl (cats_le (Nat.le_of_ble_eq_true rfl)) (fun _ hw h k => kk_rcv h.1 (kc_Pr_copy base sa hw h.2 k)) (fun sr13 cr13 dr13 => ?_)
    refine kk_aln hG (x := (some p0)) rfl rfl ?_
    refine kk_gp hG (c := 6) (k := 2) (a := p0) rfl rfl rfl rfl (fun v14 => ?_)
    refine kk_aln hG (x := (some p0)) rfl rfl ?_
    refine kk_gi hG (c := 6) (k := 5) (a := p0) rfl rfl rfl rfl (fun v15 => ?_)
    refine kks hG rfl rfl ?_
    refine kk_ob (fun b16 eb16 => ?_)
    subst eb16
    refine kk_zs hG (a := b16) rfl (fun s17 => ?_)
    refine kk_aln hG (x := (some p0)) rfl rfl ?_
    refine kk_gp hG (c := 6) (k := 3) (a := p0) rfl rfl rfl rfl (fun v18 => ?_)
    refine kk_aln hG (x := (some p0)) rfl rfl ?_
    refine kk_gi hG (c := 6) (k := 5) (a := p0) rfl rfl rfl rfl (fun v19 => ?_)
    refine kks hG rfl rfl ?_
    refine kk_ob (fun b20 eb20 => ?_)
    subst eb20
    refine kk_is hG (a := b20) rfl (fun s21 => ?_)
    refine kk_aln hG (x := (some p0)) rfl rfl ?_
    refine kk_gp hG (c := 6) (k := 4) (a := p0) rfl rfl rfl rfl (fun v22 => ?_)
    refine kk_aln hG (x := (some p0)) rfl rfl ?_
    refine kk_gi hG (c := 6) (k := 5) (a := p0) rfl rfl rfl rfl (fun v23 => ?_)
    refine kks hG rfl rfl ?_
    refine kk_ob (fun b24 eb24 => ?_)
    subst eb24
    refine kk_is hG (a := b24) rfl (fun s25 => ?_)
    refine kk_aln hG (x := (some p0)) rfl rfl ?_
    refine kk_dup hG (x := (some p0)) rfl ?_
    refine kk_gi hG (c := 6) (k := 5) (a := p0) rfl rfl rfl rfl (fun v26 => ?_)
    refine kk_ic hG rfl cc_i1 ?_
    refine kks hG rfl rfl ?_
    refine kk_pi hG (c := 6) (k := 5) (a := p0) rfl rfl rfl rfl (fun s27 => ?_)
    exact kk_rv hG rfl rfl k
  exact kk_rv hG rfl rfl k
def C_Re_init (sa : Nat → Nat) (p0 : Nat) (p1 : Option Nat) (s : cS) (kc ks : Nat) (Q : (cS → Nat → Nat → Prop)) : Prop := nwA s kc ks .int (24 : Int32) (fun q1 sq1 cq1 dq1 => (ob (pP sq1 7 1 p0 (some q1)) (fun s2 => (nwA s2 cq1 dq1 .int (24 : Int32) (fun q3 sq3 cq3 dq3 => (ob (pP sq3 7 2 p0 (some q3)) (fun s4 => (ob (pI s4 7 3 p0 (0 : Int32)) (fun s5 => (ob (pI s5 7 4 p0 (0 : Int32)) (fun s6 => (ob (pI s6 7 5 p0 (0 : Int32)) (fun s7 => (nwO s7 cq3 dq3 5 4 (fun q8 sq8 cq8 dq8 => (okO sq8 5 q8 ∧ C_Pr_init sa q8 sq8 cq8 dq8 (fun sr9 cr9 dr9 => (ob (pP sr9 7 6 p0 (some q8)) (fun s10 => (nwA s10 cr9 dr9 .byte (16 : Int32) (fun q11 sq11 cq11 dq11 => (ob (pP sq11 7 7 p0 (some q11)) (fun s12 => (ob (pI s12 7 8 p0 ((-1) : Int32)) (fun s13 => (ob (pI s13 7 9 p0 ((-1) : Int32)) (fun s14 => (ob (pZ s14 7 10 p0 (0 : Int32)) (fun s15 => (nwO s15 cq11 dq11 1 12 (fun q16 sq16 cq16 dq16 => (okO sq16 1 q16 ∧ C_Ch_init sa q16 sq16 cq16 dq16 (fun sr17 cr17 dr17 => (ob (pP sr17 7 11 p0 (some q16)) (fun s18 => (ob (pP s18 7 0 p0 p1) (fun s19 => (Q s19 cr17 dr17))))))))))))))))))))))))))))))))))))))
set_option maxRecDepth 100000 in
set_option maxHeartbeats 4000000 in
theorem kc_Re_init (base : Nat) (sa : Nat → Nat) {R : pmM} {s : cS} {kc ks : Nat} {Rt : pmR} {p0 : Nat} {p1 : Option Nat} {Q : (cS → Nat → Nat → Prop)} (hw : cW sa R base s) (h : C_Re_init sa p0 p1 s kc ks Q) (k : ∀ s' kc' ks', cW sa R base s' → Q s' kc' ks' → Rt none (cM R s') kc' ks') : kP_Re_init base sa [.ref p0, va_rf p1] (cM R s) kc ks Rt := by
  refine ⟨by cases p1 <;> exact Nat.le_of_ble_eq_true rfl, fun G hG => ?_⟩
  have eL : lv_args 0 [.ref p0, va_rf p1] = [(0, va_rf (some p0)), (1, va_rf p1)] := by cases p1 <;> rfl
  rw [eL]
  refine (show KK sa R base G 0 [(0, va_rf (some p0)), (1, va_rf p1)] [] s kc ks (C_Re_init sa p0 p1 s kc ks Q) from ?_) hw h
  refine kk_aln hG (x := (some p0)) rfl rfl ?_
  refine kk_oi hG (a := p0) rfl rfl (Nat.le_of_ble_eq_true rfl) ?_
  refine kk_aln hG (x := (some p0)) rfl rfl ?_
  refine kk_bi hG rfl cc_b24 ?_
  refine kk_nar hG (ty := .int) rfl rfl rfl rfl (fun q1 sq1 cq1 dq1 => ?_)
  refine kk_pp hG (c := 7) (k := 1) (a := p0) (v := (some q1)) rfl rfl rfl rfl rfl (fun s2 => ?_)
  refine kk_aln hG (x := (some p0)) rfl rfl ?_
  refine kk_bi hG rfl cc_b24 ?_
  refine kk_nar hG (ty := .int) rfl rfl rfl rfl (fun q3 sq3 cq3 dq3 => ?_)
  refine kk_pp hG (c := 7) (k := 2) (a := p0) (v := (some q3)) rfl rfl rfl rfl rfl (fun s4 => ?_)
  refine kk_aln hG (x := (some p0)) rfl rfl ?_
  refine kk_ic hG rfl cc_i0 ?_
  refine kk_pi hG (c := 7) (k := 3) (a := p0) rfl rfl rfl rfl (fun s5 => ?_)
  refine kk_aln hG (x := (some p0)) rfl rfl ?_
  refine kk_ic hG rfl cc_i0 ?_
  refine kk_pi hG (c := 7) (k := 4) (a := p0) rfl rfl rfl rfl (fun s6 => ?_)
  refine kk_aln hG (x := (some p0)) rfl rfl ?_
  refine kk_ic hG rfl cc_i0 ?_
  refine kk_pi hG (c := 7) (k := 5) (a := p0) rfl rfl rfl rfl (fun s7 => ?_)
  refine kk_aln hG (x := (some p0)) rfl rfl ?_
  refine kk_new hG (c := 5) (n := 4) rfl rfl rfl rfl (fun q8 sq8 cq8 dq8 => ?_)
  refine kk_dup hG (x := (some q8)) rfl ?_
  refine kk_cv hG 1 rfl rfl (Nat.le_of_ble_eq_true rfl) (by decide) rfl (st' := [va_rf (some q8), va_rf (some p0)]) rfl (cats_le (Nat.le_of_ble_eq_true rfl)) (fun _ hw h k => kk_rcv h.1 (kc_Pr_init base sa hw h.2 k)) (fun sr9 cr9 dr9 => ?_)
  refine kk_pp hG (c := 7) (k := 6) (a := p0) (v := (some q8)) rfl rfl rfl rfl rfl (fun s10 => ?_)
  refine kk_aln hG (x := (some p0)) rfl rfl ?_
  refine kk_bi hG rfl cc_b16 ?_
  refine kk_nar hG (ty := .byte) rfl rfl rfl rfl (fun q11 sq11 cq11 dq11 => ?_)
  refine kk_pp hG (c := 7) (k := 7) (a := p0) (v := (some q11)) rfl rfl rfl rfl rfl (fun s12 => ?_)
  refine kk_aln hG (x := (some p0)) rfl rfl ?_
  refine kk_ic hG rfl cc_im1 ?_
  refine kk_pi hG (c := 7) (k := 8) (a := p0) rfl rfl rfl rfl (fun s13 => ?_)
  refine kk_aln hG (x := (some p0)) rfl rfl ?_
  refine kk_ic hG rfl cc_im1 ?_
  refine kk_pi hG (c := 7) (k := 9) (a := p0) rfl rfl rfl rfl (fun s14 => ?_)
  refine kk_aln hG (x := (some p0)) rfl rfl ?_
  refine kk_ic hG rfl cc_i0 ?_
  refine kk_pz hG (c := 7) (k := 10) (a := p0) rfl rfl rfl rfl (fun s15 => ?_)
  refine kk_aln hG (x := (some p0)) rfl rfl ?_
  refine kk_new hG (c := 1) (n := 12) rfl rfl rfl rfl (fun q16 sq16 cq16 dq16 => ?_)
  refine kk_dup hG (x := (some q16)) rfl ?_
  refine kk_cv hG 1 rfl rfl (Nat.le_of_ble_eq_true rfl) (by decide) rfl (st' := [va_rf (some q16), va_rf (some p0)]) rfl (cats_le (Nat.le_of_ble_eq_true rfl)) (fun _ hw h k => kk_rcv h.1 (kc_Ch_init base sa hw h.2 k)) (fun sr17 cr17 dr17 => ?_)
  refine kk_pp hG (c := 7) (k := 11) (a := p0) (v := (some q16)) rfl rfl rfl rfl rfl (fun s18 => ?_)
  refine kk_aln hG (x := (some p0)) rfl rfl ?_
  refine kk_aln hG (x := p1) rfl rfl ?_
  refine kk_pp hG (c := 7) (k := 0) (a := p0) (v := p1) rfl rfl rfl rfl rfl (fun s19 => ?_)
  exact kk_rv hG rfl rfl k
def C_Re_parse_b131 (sa : Nat → Nat) (p0 : Nat) (p2 : Int32) (a3 : Int32) (a4 : Int32) (s : cS) (kc ks : Nat) (Q : (cS → Nat → Nat → Prop)) (P10 : (Int32 → Int32 → cS → Nat → Nat → Prop)) : Prop := (P10 a3 (a4 + (1 : Int32)) s kc ks)
def C_Re_parse_b102 (sa : Nat → Nat) (p0 : Nat) (p2 : Int32) (a4 : Int32) (u0 : Int32) (s : cS) (kc ks : Nat) (Q : (cS → Nat → Nat → Prop)) (P10 : (Int32 → Int32 → cS → Nat → Nat → Prop)) : Prop := if u0 = 0 then ((C_Re_parse_b131 sa p0 p2 u0 a4 s kc ks Q P10)) else (ob (gI s 7 3 p0) (fun v1 => (if (24 : Int32) < v1 then ((C_Re_parse_b131 sa p0 p2 u0 a4 s kc ks Q P10)) else (ob (gP s 7 2 p0) (fun v2 => (ob (gI s 7 3 p0) (fun v3 => (ob v2 (fun b4 => (ob (wEi s b4 (v3 - (1 : Int32)) (a4 + (1 : Int32))) (fun s5 => ((C_Re_parse_b131 sa p0 p2 u0 a4 s5 kc ks Q P10)))))))))))))
def C_Re_parse_b92 (sa : Nat → Nat) (p0 : Nat) (p2 : Int32) (a4 : Int32) (a6 : Int32) (s : cS) (kc ks : Nat) (Q : (cS → Nat → Nat → Prop)) (P10 : (Int32 → Int32 → cS → Nat → Nat → Prop)) : Prop := if a6 = 0 then ((C_Re_parse_b102 sa p0 p2 a4 (1 : Int32) s kc ks Q P10)) else ((C_Re_parse_b102 sa p0 p2 a4 (0 : Int32) s kc ks Q P10))
def C_Re_parse_b49 (sa : Nat → Nat) (p0 : Nat) (p2 : Int32) (a3 : Int32) (a4 : Int32) (u0 : Int32) (s : cS) (kc ks : Nat) (Q : (cS → Nat → Nat → Prop)) (P10 : (Int32 → Int32 → cS → Nat → Nat → Prop)) : Prop := if u0 = 0 then (if a3 = 0 then (ob (gI s 7 3 p0) (fun v1 => (ob (pI s 7 3 p0 (v1 + (1 : Int32))) (fun s2 => (ob (gI s2 7 3 p0) (fun v3 => (if (24 : Int32) < v3 then ((C_Re_parse_b92 sa p0 p2 a4 u0 s2 kc ks Q P10)) else (ob (gP s2 7 1 p0) (fun v4 => (ob (gI s2 7 3 p0) (fun v5 => (ob v4 (fun b6 => (ob (wEi s2 b6 (v5 - (1 : Int32)) a4) (fun s7 => ((C_Re_parse_b92 sa p0 p2 a4 u0 s7 kc ks Q P10))))))))))))))))) else ((C_Re_parse_b92 sa p0 p2 a4 u0 s kc ks Q P10))) else ((C_Re_parse_b92 sa p0 p2 a4 u0 s kc ks Q P10))
def C_Re_parse_s10 (sa : Nat → Nat) (p0 : Nat) (p2 : Int32) (a3 : Int32) (a4 : Int32) (s : cS) (kc ks : Nat) (Q : (cS → Nat → Nat → Prop)) (P10 : (Int32 → Int32 → cS → Nat → Nat → Prop)) : Prop := if a4 < p2 then (ob (gP s 7 0 p0) (fun v1 => (ob v1 (fun b2 => (ob (gP s 11 0 b2) (fun v3 => (ob v3 (fun b4 => (okO s 0 b4 ∧ C_By_at sa b4 a4 s kc ks (fun r5 sr5 cr5 dr5 => (if r5 = (32 : Int32) then ((C_Re_parse_b49 sa p0 p2 a3 a4 (1 : Int32) sr5 cr5 dr5 Q P10)) else (if r5 = (9 : Int32) then ((C_Re_parse_b49 sa p0 p2 a3 a4 (1 : Int32) sr5 cr5 dr5 Q P10)) else ((C_Re_parse_b49 sa p0 p2 a3 a4 (0 : Int32) sr5 cr5 dr5 Q P10)))))))))))))) else ((Q s kc ks))
def C_Re_parse_b10 (sa : Nat → Nat) (p0 : Nat) (p2 : Int32) (a3 : Int32) (a4 : Int32) (s : cS) (kc ks : Nat) (Q : (cS → Nat → Nat → Prop)) : Prop := ∀ P10 : (Int32 → Int32 → cS → Nat → Nat → Prop), (∀ (a3 : Int32) (a4 : Int32) (s : cS) (kc ks : Nat), C_Re_parse_s10 sa p0 p2 a3 a4 s kc ks Q P10 → P10 a3 a4 s kc ks) → P10 a3 a4 s kc ks
def C_Re_parse (sa : Nat → Nat) (p0 : Nat) (p1 : Int32) (p2 : Int32) (s : cS) (kc ks : Nat) (Q : (cS → Nat → Nat → Prop)) : Prop := ob (pI s 7 3 p0 (0 : Int32)) (fun s1 => ((C_Re_parse_b10 sa p0 p2 (0 : Int32) p1 s1 kc ks Q)))
set_option maxRecDepth 100000 in
set_option maxHeartbeats 4000000 in
theorem kc_Re_parse (base : Nat) (sa : Nat → Nat) {R : pmM} {s : cS} {kc ks : Nat} {Rt : pmR} {p0 : Nat} {p1 : Int32} {p2 : Int32} {Q : (cS → Nat → Nat → Prop)} (hw : cW sa R base s) (h : C_Re_parse sa p0 p1 p2 s kc ks Q) (k : ∀ s' kc' ks', cW sa R base s' → Q s' kc' ks' → Rt none (cM R s') kc' ks') : kP_Re_parse base sa [.ref p0, .int p1, .int p2] (cM R s) kc ks Rt := by
  refine ⟨Nat.le_of_ble_eq_true rfl, fun G hG => ?_⟩
  have b10 : ∀ (a3 : Int32) (a4 : Int32) (s : cS) (kc ks : Nat), KK sa R base G 10 [(0, va_rf (some p0)), (2, .int p2), (3, .int a3), (4, .int a4)] [] s kc ks (C_Re_parse_b10 sa p0 p2 a3 a4 s kc ks Q) := by
    have H : ∀ (P10 : (Int32 → Int32 → cS → Nat → Nat → Prop)) (hP10 : ∀ (a3 : Int32) (a4 : Int32) (s : cS) (kc ks : Nat), P10 a3 a4 s kc ks → cW sa R base s → G 10 [(0, va_rf (some p0)), (2, .int p2), (3, .int a3), (4, .int a4)] [] (cM R s) kc ks) (a3 : Int32) (a4 : Int32) (s : cS) (kc ks : Nat), KK sa R base G 10 [(0, va_rf (some p0)), (2, .int p2), (3, .int a3), (4, .int a4)] [] s kc ks (C_Re_parse_s10 sa p0 p2 a3 a4 s kc ks Q P10) := by
      intro P10 hP10
      have b131 : ∀ (a3 : Int32) (a4 : Int32) (s : cS) (kc ks : Nat), KK sa R base G 131 [(0, va_rf (some p0)), (2, .int p2), (3, .int a3), (4, .int a4)] [] s kc ks (C_Re_parse_b131 sa p0 p2 a3 a4 s kc ks Q P10) := by
        intro a3 a4 s kc ks
        refine kk_inc hG (L' := [(4, .int (a4 + (1 : Int32))), (0, va_rf (some p0)), (2, .int p2), (3, .int a3)]) rfl (Nat.le_of_ble_eq_true rfl) rfl cc_i1 rfl ?_
        refine kk_go hG (t := 10) rfl rfl ?_
        exact kk_wl hG [1, 2, 3, 0] rfl (fun hw h => hP10 _ _ _ _ _ h hw)
      have b102 : ∀ (a4 : Int32) (u0 : Int32) (s : cS) (kc ks : Nat), KK sa R base G 102 [(0, va_rf (some p0)), (2, .int p2), (4, .int a4)] [.int u0] s kc ks (C_Re_parse_b102 sa p0 p2 a4 u0 s kc ks Q P10) := by
        intro a4 u0 s kc ks
        refine kk_st hG (L' := [(3, .int u0), (0, va_rf (some p0)), (2, .int p2), (4, .int a4)]) rfl rfl (Nat.le_of_ble_eq_true rfl) rfl ?_
        refine kks hG rfl rfl ?_
        refine kk_zeq hG (t := 131) rfl rfl ?_ ?_
        · exact kk_wl hG [1, 2, 0, 3] rfl (b131 _ _ _ _ _)
        refine kk_aln hG (x := (some p0)) rfl rfl ?_
        refine kk_gi hG (c := 7) (k := 3) (a := p0) rfl rfl rfl rfl (fun v1 => ?_)
        refine kk_bi hG rfl cc_b24 ?_
        refine kk_igt hG (t := 131) rfl rfl ?_ ?_
        · exact kk_wl hG [1, 2, 0, 3] rfl (b131 _ _ _ _ _)
        refine kk_aln hG (x := (some p0)) rfl rfl ?_
        refine kk_gp hG (c := 7) (k := 2) (a := p0) rfl rfl rfl rfl (fun v2 => ?_)
        refine kk_aln hG (x := (some p0)) rfl rfl ?_
        refine kk_gi hG (c := 7) (k := 3) (a := p0) rfl rfl rfl rfl (fun v3 => ?_)
        refine kk_ic hG rfl cc_i1 ?_
        refine kks hG rfl rfl ?_
        refine kks hG rfl rfl ?_
        refine kk_ic hG rfl cc_i1 ?_
        refine kks hG rfl rfl ?_
        refine kk_ob (fun b4 eb4 => ?_)
        subst eb4
        refine kk_is hG (a := b4) rfl (fun s5 => ?_)
        exact kk_wl hG [1, 2, 0, 3] rfl (b131 _ _ _ _ _)
      have b92 : ∀ (a4 : Int32) (a6 : Int32) (s : cS) (kc ks : Nat), KK sa R base G 92 [(0, va_rf (some p0)), (2, .int p2), (4, .int a4), (6, .int a6)] [] s kc ks (C_Re_parse_b92 sa p0 p2 a4 a6 s kc ks Q P10) := by
        intro a4 a6 s kc ks
        refine kks hG rfl rfl ?_
        refine kk_zne hG (t := 101) rfl rfl ?_ ?_
        · refine kk_ic hG rfl cc_i0 ?_
          exact kk_wl hG [0, 1, 2] rfl (b102 _ _ _ _ _)
        refine kk_ic hG rfl cc_i1 ?_
        refine kk_go hG (t := 102) rfl rfl ?_
        exact kk_wl hG [0, 1, 2] rfl (b102 _ _ _ _ _)
      have b49 : ∀ (a3 : Int32) (a4 : Int32) (u0 : Int32) (s : cS) (kc ks : Nat), KK sa R base G 49 [(0, va_rf (some p0)), (2, .int p2), (3, .int a3), (4, .int a4)] [.int u0] s kc ks (C_Re_parse_b49 sa p0 p2 a3 a4 u0 s kc ks Q P10) := by
        intro a3 a4 u0 s kc ks
        refine kk_st hG (L' := [(6, .int u0), (0, va_rf (some p0)), (2, .int p2), (3, .int a3), (4, .int a4)]) rfl rfl (Nat.le_of_ble_eq_true rfl) rfl ?_
        refine kks hG rfl rfl ?_
        refine kk_zne hG (t := 92) rfl rfl ?_ ?_
        · exact kk_wl hG [1, 2, 4, 0] rfl (b92 _ _ _ _ _)
        refine kks hG rfl rfl ?_
        refine kk_zne hG (t := 92) rfl rfl ?_ ?_
        · exact kk_wl hG [1, 2, 4, 0] rfl (b92 _ _ _ _ _)
        refine kk_aln hG (x := (some p0)) rfl rfl ?_
        refine kk_dup hG (x := (some p0)) rfl ?_
        refine kk_gi hG (c := 7) (k := 3) (a := p0) rfl rfl rfl rfl (fun v1 => ?_)
        refine kk_ic hG rfl cc_i1 ?_
        refine kks hG rfl rfl ?_
        refine kk_pi hG (c := 7) (k := 3) (a := p0) rfl rfl rfl rfl (fun s2 => ?_)
        refine kk_aln hG (x := (some p0)) rfl rfl ?_
        refine kk_gi hG (c := 7) (k := 3) (a := p0) rfl rfl rfl rfl (fun v3 => ?_)
        refine kk_bi hG rfl cc_b24 ?_
        refine kk_igt hG (t := 92) rfl rfl ?_ ?_
        · exact kk_wl hG [1, 2, 4, 0] rfl (b92 _ _ _ _ _)
        refine kk_aln hG (x := (some p0)) rfl rfl ?_
        refine kk_gp hG (c := 7) (k := 1) (a := p0) rfl rfl rfl rfl (fun v4 => ?_)
        refine kk_aln hG (x := (some p0)) rfl rfl ?_
        refine kk_gi hG (c := 7) (k := 3) (a := p0) rfl rfl rfl rfl (fun v5 => ?_)
        refine kk_ic hG rfl cc_i1 ?_
        refine kks hG rfl rfl ?_
        refine kks hG rfl rfl ?_
        refine kk_ob (fun b6 eb6 => ?_)
        subst eb6
        refine kk_is hG (a := b6) rfl (fun s7 => ?_)
        exact kk_wl hG [1, 2, 4, 0] rfl (b92 _ _ _ _ _)
      intro a3 a4 s kc ks
      refine kks hG rfl rfl ?_
      refine kks hG rfl rfl ?_
      refine kk_ige hG (t := 137) rfl rfl ?_ ?_
      · exact kk_rv hG rfl rfl k
      refine kk_aln hG (x := (some p0)) rfl rfl ?_
      refine kk_gp hG (c := 7) (k := 0) (a := p0) rfl rfl rfl rfl (fun v1 => ?_)
      refine kk_ob (fun b2 eb2 => ?_)
      subst eb2
      refine kk_gp hG (c := 11) (k := 0) (a := b2) rfl rfl rfl rfl (fun v3 => ?_)
      refine kks hG rfl rfl ?_
      refine kk_ob (fun b4 eb4 => ?_)
      subst eb4
      refine kk_cx (w := .int) hG 0 rfl rfl (Nat.le_of_ble_eq_true rfl) (by decide) rfl (st' := []) rfl (cats_le (Nat.le_of_ble_eq_true rfl)) (fun _ hw h k => kk_rcv h.1 (kc_By_at base sa hw h.2 k)) (fun r5 sr5 cr5 dr5 => ?_)
      refine kk_st hG (L' := [(5, .int r5), (0, va_rf (some p0)), (2, .int p2), (3, .int a3), (4, .int a4)]) rfl rfl (Nat.le_of_ble_eq_true rfl) rfl ?_
      refine kks hG rfl rfl ?_
      refine kk_bi hG rfl cc_b32 ?_
      refine kk_ieq hG (t := 44) rfl rfl ?_ ?_
      · refine kk_ic hG rfl cc_i1 ?_
        refine kk_go hG (t := 49) rfl rfl ?_
        exact kk_wl hG [1, 2, 3, 4] rfl (b49 _ _ _ _ _ _)
      refine kks hG rfl rfl ?_
      refine kk_bi hG rfl cc_b9 ?_
      refine kk_ine hG (t := 48) rfl rfl ?_ ?_
      · refine kk_ic hG rfl cc_i0 ?_
        exact kk_wl hG [1, 2, 3, 4] rfl (b49 _ _ _ _ _ _)
      refine kk_ic hG rfl cc_i1 ?_
      refine kk_go hG (t := 49) rfl rfl ?_
      exact kk_wl hG [1, 2, 3, 4] rfl (b49 _ _ _ _ _ _)
    exact fun a3 a4 s kc ks hw h => h (fun a3 a4 s kc ks => cW sa R base s → G 10 [(0, va_rf (some p0)), (2, .int p2), (3, .int a3), (4, .int a4)] [] (cM R s) kc ks) (fun a3 a4 s kc ks hs hw => H _ (fun _ _ _ _ _ hp hw => hp hw) a3 a4 s kc ks hw hs) hw
  refine (show KK sa R base G 0 [(0, va_rf (some p0)), (1, .int p1), (2, .int p2)] [] s kc ks (C_Re_parse sa p0 p1 p2 s kc ks Q) from ?_) hw h
  refine kk_aln hG (x := (some p0)) rfl rfl ?_
  refine kk_ic hG rfl cc_i0 ?_
  refine kk_pi hG (c := 7) (k := 3) (a := p0) rfl rfl rfl rfl (fun s1 => ?_)
  refine kk_ic hG rfl cc_i0 ?_
  refine kk_st hG (L' := [(3, .int (0 : Int32)), (0, va_rf (some p0)), (1, .int p1), (2, .int p2)]) rfl rfl (Nat.le_of_ble_eq_true rfl) rfl ?_
  refine kks hG rfl rfl ?_
  refine kk_st hG (L' := [(4, .int p1), (3, .int (0 : Int32)), (0, va_rf (some p0)), (1, .int p1), (2, .int p2)]) rfl rfl (Nat.le_of_ble_eq_true rfl) rfl ?_
  exact kk_wl hG [2, 4, 1, 0] rfl (b10 _ _ _ _ _)
def C_Re_isWord (sa : Nat → Nat) (p0 : Nat) (p1 : Int32) (s : cS) (kc ks : Nat) (Q : (Int32 → cS → Nat → Nat → Prop)) : Prop := if p1 < 0 then (Q (0 : Int32) s kc ks) else (ob (gI s 7 3 p0) (fun v1 => (if p1 < v1 then (if p1 < (24 : Int32) then (Q (1 : Int32) s kc ks) else (Q (0 : Int32) s kc ks)) else (Q (0 : Int32) s kc ks))))
set_option maxRecDepth 100000 in
set_option maxHeartbeats 4000000 in
theorem kc_Re_isWord (base : Nat) (sa : Nat → Nat) {R : pmM} {s : cS} {kc ks : Nat} {Rt : pmR} {p0 : Nat} {p1 : Int32} {Q : (Int32 → cS → Nat → Nat → Prop)} (hw : cW sa R base s) (h : C_Re_isWord sa p0 p1 s kc ks Q) (k : ∀ r s' kc' ks', cW sa R base s' → Q r s' kc' ks' → Rt (some (.int r)) (cM R s') kc' ks') : kP_Re_isWord base sa [.ref p0, .int p1] (cM R s) kc ks Rt := by
  refine ⟨Nat.le_of_ble_eq_true rfl, fun G hG => ?_⟩
  refine (show KK sa R base G 0 [(0, va_rf (some p0)), (1, .int p1)] [] s kc ks (C_Re_isWord sa p0 p1 s kc ks Q) from ?_) hw h
  refine kks hG rfl rfl ?_
  refine kk_zlt hG (t := 22) rfl rfl ?_ ?_
  · refine kk_ic hG rfl cc_i0 ?_
    exact kk_ri hG rfl rfl rfl k
  refine kks hG rfl rfl ?_
  refine kk_aln hG (x := (some p0)) rfl rfl ?_
  refine kk_gi hG (c := 7) (k := 3) (a := p0) rfl rfl rfl rfl (fun v1 => ?_)
  refine kk_ige hG (t := 22) rfl rfl ?_ ?_
  · refine kk_ic hG rfl cc_i0 ?_
    exact kk_ri hG rfl rfl rfl k
  refine kks hG rfl rfl ?_
  refine kk_bi hG rfl cc_b24 ?_
  refine kk_ige hG (t := 22) rfl rfl ?_ ?_
  · refine kk_ic hG rfl cc_i0 ?_
    exact kk_ri hG rfl rfl rfl k
  refine kk_ic hG rfl cc_i1 ?_
  refine kk_go hG (t := 23) rfl rfl ?_
  exact kk_ri hG rfl rfl rfl k
def C_Re_is_s32 (sa : Nat → Nat) (p0 : Nat) (p1 : Int32) (p2 : Option Nat) (a3 : Int32) (s : cS) (kc ks : Nat) (Q : (Int32 → cS → Nat → Nat → Prop)) (P32 : (Int32 → cS → Nat → Nat → Prop)) : Prop := ob p2 (fun b1 => (C_St_length sa b1 s kc ks (fun r2 sr2 cr2 dr2 => (if a3 < r2 then (ob (gP sr2 7 0 p0) (fun v3 => (ob v3 (fun b4 => (ob (gP sr2 11 0 b4) (fun v5 => (ob (gP sr2 7 1 p0) (fun v6 => (ob v6 (fun b7 => (ob (rE sr2 .int b7 p1) (fun v8 => (ob v5 (fun b9 => (okO sr2 0 b9 ∧ C_By_at sa b9 (v8 + a3) sr2 cr2 dr2 (fun r10 sr10 cr10 dr10 => (C_St_charAt sa b1 a3 sr10 cr10 dr10 (fun r11 sr11 cr11 dr11 => (if r10 = r11 then ((P32 (a3 + (1 : Int32)) sr11 cr11 dr11)) else ((Q (0 : Int32) sr11 cr11 dr11))))))))))))))))))))) else ((Q (1 : Int32) sr2 cr2 dr2))))))
def C_Re_is_b32 (sa : Nat → Nat) (p0 : Nat) (p1 : Int32) (p2 : Option Nat) (a3 : Int32) (s : cS) (kc ks : Nat) (Q : (Int32 → cS → Nat → Nat → Prop)) : Prop := ∀ P32 : (Int32 → cS → Nat → Nat → Prop), (∀ (a3 : Int32) (s : cS) (kc ks : Nat), C_Re_is_s32 sa p0 p1 p2 a3 s kc ks Q P32 → P32 a3 s kc ks) → P32 a3 s kc ks
def C_Re_is (sa : Nat → Nat) (p0 : Nat) (p1 : Int32) (p2 : Option Nat) (s : cS) (kc ks : Nat) (Q : (Int32 → cS → Nat → Nat → Prop)) : Prop := okO s 7 p0 ∧ C_Re_isWord sa p0 p1 s kc ks (fun r1 sr1 cr1 dr1 => (if r1 = 0 then (Q (0 : Int32) sr1 cr1 dr1) else (ob (gP sr1 7 2 p0) (fun v2 => (ob v2 (fun b3 => (ob (rE sr1 .int b3 p1) (fun v4 => (ob (gP sr1 7 1 p0) (fun v5 => (ob v5 (fun b6 => (ob (rE sr1 .int b6 p1) (fun v7 => (ob p2 (fun b8 => (C_St_length sa b8 sr1 cr1 dr1 (fun r9 sr9 cr9 dr9 => (if (v4 - v7) = r9 then ((C_Re_is_b32 sa p0 p1 (some b8) (0 : Int32) sr9 cr9 dr9 Q)) else (Q (0 : Int32) sr9 cr9 dr9))))))))))))))))))))
set_option maxRecDepth 100000 in
set_option maxHeartbeats 4000000 in
theorem kc_Re_is (base : Nat) (sa : Nat → Nat) {R : pmM} {s : cS} {kc ks : Nat} {Rt : pmR} {p0 : Nat} {p1 : Int32} {p2 : Option Nat} {Q : (Int32 → cS → Nat → Nat → Prop)} (hw : cW sa R base s) (h : C_Re_is sa p0 p1 p2 s kc ks Q) (k : ∀ r s' kc' ks', cW sa R base s' → Q r s' kc' ks' → Rt (some (.int r)) (cM R s') kc' ks') : kP_Re_is base sa [.ref p0, .int p1, va_rf p2] (cM R s) kc ks Rt := by
  refine ⟨by cases p2 <;> exact Nat.le_of_ble_eq_true rfl, fun G hG => ?_⟩
  have eL : lv_args 0 [.ref p0, .int p1, va_rf p2] = [(0, va_rf (some p0)), (1, .int p1), (2, va_rf p2)] := by cases p2 <;> rfl
  rw [eL]
  have b32 : ∀ (a3 : Int32) (s : cS) (kc ks : Nat), KK sa R base G 32 [(0, va_rf (some p0)), (1, .int p1), (2, va_rf p2), (3, .int a3)] [] s kc ks (C_Re_is_b32 sa p0 p1 p2 a3 s kc ks Q) := by
    have H : ∀ (P32 : (Int32 → cS → Nat → Nat → Prop)) (hP32 : ∀ (a3 : Int32) (s : cS) (kc ks : Nat), P32 a3 s kc ks → cW sa R base s → G 32 [(0, va_rf (some p0)), (1, .int p1), (2, va_rf p2), (3, .int a3)] [] (cM R s) kc ks) (a3 : Int32) (s : cS) (kc ks : Nat), KK sa R base G 32 [(0, va_rf (some p0)), (1, .int p1), (2, va_rf p2), (3, .int a3)] [] s kc ks (C_Re_is_s32 sa p0 p1 p2 a3 s kc ks Q P32) := by
      intro P32 hP32
      intro a3 s kc ks
      refine kks hG rfl rfl ?_
      refine kk_aln hG (x := p2) rfl rfl ?_
      refine kk_ob (fun b1 eb1 => ?_)
      subst eb1
      refine kk_cx (w := .int) hG 0 rfl rfl (Nat.le_of_ble_eq_true rfl) (by decide) rfl (st' := [.int a3]) rfl (cats_le (Nat.le_of_ble_eq_true rfl)) (fun _ hw h k => kr_St_length base sa hw h k) (fun r2 sr2 cr2 dr2 => ?_)
      refine kk_ige hG (t := 74) rfl rfl ?_ ?_
      · refine kk_ic hG rfl cc_i1 ?_
        exact kk_ri hG rfl rfl rfl k
      refine kk_aln hG (x := (some p0)) rfl rfl ?_
      refine kk_gp hG (c := 7) (k := 0) (a := p0) rfl rfl rfl rfl (fun v3 => ?_)
      refine kk_ob (fun b4 eb4 => ?_)
      subst eb4
      refine kk_gp hG (c := 11) (k := 0) (a := b4) rfl rfl rfl rfl (fun v5 => ?_)
      refine kk_aln hG (x := (some p0)) rfl rfl ?_
      refine kk_gp hG (c := 7) (k := 1) (a := p0) rfl rfl rfl rfl (fun v6 => ?_)
      refine kks hG rfl rfl ?_
      refine kk_ob (fun b7 eb7 => ?_)
      subst eb7
      refine kk_ia hG (a := b7) rfl (fun v8 => ?_)
      refine kks hG rfl rfl ?_
      refine kks hG rfl rfl ?_
      refine kk_ob (fun b9 eb9 => ?_)
      subst eb9
      refine kk_cx (w := .int) hG 0 rfl rfl (Nat.le_of_ble_eq_true rfl) (by decide) rfl (st' := []) rfl (cats_le (Nat.le_of_ble_eq_true rfl)) (fun _ hw h k => kk_rcv h.1 (kc_By_at base sa hw h.2 k)) (fun r10 sr10 cr10 dr10 => ?_)
      refine kk_aln hG (x := (some b1)) rfl rfl ?_
      refine kks hG rfl rfl ?_
      refine kk_cx (w := .int) hG 0 rfl rfl (Nat.le_of_ble_eq_true rfl) (by decide) rfl (st' := [.int r10]) rfl (cats_le (Nat.le_of_ble_eq_true rfl)) (fun _ hw h k => kr_St_charAt base sa hw h k) (fun r11 sr11 cr11 dr11 => ?_)
      refine kk_ieq hG (t := 68) rfl rfl ?_ ?_
      · refine kk_inc hG (L' := [(3, .int (a3 + (1 : Int32))), (0, va_rf (some p0)), (1, .int p1), (2, va_rf (some b1))]) rfl (Nat.le_of_ble_eq_true rfl) rfl cc_i1 rfl ?_
        refine kk_go hG (t := 32) rfl rfl ?_
        exact kk_wl hG [1, 2, 3, 0] rfl (fun hw h => hP32 _ _ _ _ h hw)
      refine kk_ic hG rfl cc_i0 ?_
      exact kk_ri hG rfl rfl rfl k
    exact fun a3 s kc ks hw h => h (fun a3 s kc ks => cW sa R base s → G 32 [(0, va_rf (some p0)), (1, .int p1), (2, va_rf p2), (3, .int a3)] [] (cM R s) kc ks) (fun a3 s kc ks hs hw => H _ (fun _ _ _ _ hp hw => hp hw) a3 s kc ks hw hs) hw
  refine (show KK sa R base G 0 [(0, va_rf (some p0)), (1, .int p1), (2, va_rf p2)] [] s kc ks (C_Re_is sa p0 p1 p2 s kc ks Q) from ?_) hw h
  refine kk_aln hG (x := (some p0)) rfl rfl ?_
  refine kks hG rfl rfl ?_
  refine kk_cx (w := .int) hG 0 rfl rfl (Nat.le_of_ble_eq_true rfl) (by decide) rfl (st' := []) rfl (cats_le (Nat.le_of_ble_eq_true rfl)) (fun _ hw h k => kk_rcv h.1 (kc_Re_isWord base sa hw h.2 k)) (fun r1 sr1 cr1 dr1 => ?_)
  refine kk_zeq hG (t := 28) rfl rfl ?_ ?_
  · refine kk_ic hG rfl cc_i0 ?_
    exact kk_ri hG rfl rfl rfl k
  refine kk_aln hG (x := (some p0)) rfl rfl ?_
  refine kk_gp hG (c := 7) (k := 2) (a := p0) rfl rfl rfl rfl (fun v2 => ?_)
  refine kks hG rfl rfl ?_
  refine kk_ob (fun b3 eb3 => ?_)
  subst eb3
  refine kk_ia hG (a := b3) rfl (fun v4 => ?_)
  refine kk_aln hG (x := (some p0)) rfl rfl ?_
  refine kk_gp hG (c := 7) (k := 1) (a := p0) rfl rfl rfl rfl (fun v5 => ?_)
  refine kks hG rfl rfl ?_
  refine kk_ob (fun b6 eb6 => ?_)
  subst eb6
  refine kk_ia hG (a := b6) rfl (fun v7 => ?_)
  refine kks hG rfl rfl ?_
  refine kk_aln hG (x := p2) rfl rfl ?_
  refine kk_ob (fun b8 eb8 => ?_)
  subst eb8
  refine kk_cx (w := .int) hG 0 rfl rfl (Nat.le_of_ble_eq_true rfl) (by decide) rfl (st' := [.int (v4 - v7)]) rfl (cats_le (Nat.le_of_ble_eq_true rfl)) (fun _ hw h k => kr_St_length base sa hw h k) (fun r9 sr9 cr9 dr9 => ?_)
  refine kk_ieq hG (t := 30) rfl rfl ?_ ?_
  · refine kk_ic hG rfl cc_i0 ?_
    refine kk_st hG (L' := [(3, .int (0 : Int32)), (0, va_rf (some p0)), (1, .int p1), (2, va_rf (some b8))]) rfl rfl (Nat.le_of_ble_eq_true rfl) rfl ?_
    exact kk_wl hG [1, 2, 3, 0] rfl (b32 _ _ _ _)
  refine kk_ic hG rfl cc_i0 ?_
  exact kk_ri hG rfl rfl rfl k
def C_Re_isName_b83 (sa : Nat → Nat) (p0 : Nat) (p1 : Int32) (a2 : Int32) (s : cS) (kc ks : Nat) (Q : (Int32 → cS → Nat → Nat → Prop)) (P35 : (Int32 → cS → Nat → Nat → Prop)) : Prop := (P35 (a2 + (1 : Int32)) s kc ks)
def C_Re_isName_b69 (sa : Nat → Nat) (p0 : Nat) (p1 : Int32) (a2 : Int32) (a3 : Int32) (s : cS) (kc ks : Nat) (Q : (Int32 → cS → Nat → Nat → Prop)) (P35 : (Int32 → cS → Nat → Nat → Prop)) : Prop := if a3 < (48 : Int32) then ((Q (0 : Int32) s kc ks)) else (if (57 : Int32) < a3 then ((Q (0 : Int32) s kc ks)) else ((C_Re_isName_b83 sa p0 p1 a2 s kc ks Q P35)))
def C_Re_isName_s35 (sa : Nat → Nat) (p0 : Nat) (p1 : Int32) (a2 : Int32) (s : cS) (kc ks : Nat) (Q : (Int32 → cS → Nat → Nat → Prop)) (P35 : (Int32 → cS → Nat → Nat → Prop)) : Prop := ob (gP s 7 2 p0) (fun v1 => (ob v1 (fun b2 => (ob (rE s .int b2 p1) (fun v3 => (if a2 < v3 then (ob (gP s 7 0 p0) (fun v4 => (ob v4 (fun b5 => (ob (gP s 11 0 b5) (fun v6 => (ob v6 (fun b7 => (okO s 0 b7 ∧ C_By_at sa b7 a2 s kc ks (fun r8 sr8 cr8 dr8 => (if r8 < (97 : Int32) then ((C_Re_isName_b69 sa p0 p1 a2 r8 sr8 cr8 dr8 Q P35)) else (if (122 : Int32) < r8 then ((C_Re_isName_b69 sa p0 p1 a2 r8 sr8 cr8 dr8 Q P35)) else ((C_Re_isName_b83 sa p0 p1 a2 sr8 cr8 dr8 Q P35)))))))))))))) else ((Q (1 : Int32) s kc ks))))))))
def C_Re_isName_b35 (sa : Nat → Nat) (p0 : Nat) (p1 : Int32) (a2 : Int32) (s : cS) (kc ks : Nat) (Q : (Int32 → cS → Nat → Nat → Prop)) : Prop := ∀ P35 : (Int32 → cS → Nat → Nat → Prop), (∀ (a2 : Int32) (s : cS) (kc ks : Nat), C_Re_isName_s35 sa p0 p1 a2 s kc ks Q P35 → P35 a2 s kc ks) → P35 a2 s kc ks
def C_Re_isName (sa : Nat → Nat) (p0 : Nat) (p1 : Int32) (s : cS) (kc ks : Nat) (Q : (Int32 → cS → Nat → Nat → Prop)) : Prop := okO s 7 p0 ∧ C_Re_isWord sa p0 p1 s kc ks (fun r1 sr1 cr1 dr1 => (if r1 = 0 then (Q (0 : Int32) sr1 cr1 dr1) else (ob (gP sr1 7 2 p0) (fun v2 => (ob v2 (fun b3 => (ob (rE sr1 .int b3 p1) (fun v4 => (ob (gP sr1 7 1 p0) (fun v5 => (ob v5 (fun b6 => (ob (rE sr1 .int b6 p1) (fun v7 => (if (12 : Int32) < (v4 - v7) then (Q (0 : Int32) sr1 cr1 dr1) else (ob (gP sr1 7 1 p0) (fun v8 => (ob v8 (fun b9 => (ob (rE sr1 .int b9 p1) (fun v10 => ((C_Re_isName_b35 sa p0 p1 v10 sr1 cr1 dr1 Q)))))))))))))))))))))))
set_option maxRecDepth 100000 in
set_option maxHeartbeats 4000000 in
theorem kc_Re_isName (base : Nat) (sa : Nat → Nat) {R : pmM} {s : cS} {kc ks : Nat} {Rt : pmR} {p0 : Nat} {p1 : Int32} {Q : (Int32 → cS → Nat → Nat → Prop)} (hw : cW sa R base s) (h : C_Re_isName sa p0 p1 s kc ks Q) (k : ∀ r s' kc' ks', cW sa R base s' → Q r s' kc' ks' → Rt (some (.int r)) (cM R s') kc' ks') : kP_Re_isName base sa [.ref p0, .int p1] (cM R s) kc ks Rt := by
  refine ⟨Nat.le_of_ble_eq_true rfl, fun G hG => ?_⟩
  have b35 : ∀ (a2 : Int32) (s : cS) (kc ks : Nat), KK sa R base G 35 [(0, va_rf (some p0)), (1, .int p1), (2, .int a2)] [] s kc ks (C_Re_isName_b35 sa p0 p1 a2 s kc ks Q) := by
    have H : ∀ (P35 : (Int32 → cS → Nat → Nat → Prop)) (hP35 : ∀ (a2 : Int32) (s : cS) (kc ks : Nat), P35 a2 s kc ks → cW sa R base s → G 35 [(0, va_rf (some p0)), (1, .int p1), (2, .int a2)] [] (cM R s) kc ks) (a2 : Int32) (s : cS) (kc ks : Nat), KK sa R base G 35 [(0, va_rf (some p0)), (1, .int p1), (2, .int a2)] [] s kc ks (C_Re_isName_s35 sa p0 p1 a2 s kc ks Q P35) := by
      intro P35 hP35
      have b83 : ∀ (a2 : Int32) (s : cS) (kc ks : Nat), KK sa R base G 83 [(0, va_rf (some p0)), (1, .int p1), (2, .int a2)] [] s kc ks (C_Re_isName_b83 sa p0 p1 a2 s kc ks Q P35) := by
        intro a2 s kc ks
        refine kk_inc hG (L' := [(2, .int (a2 + (1 : Int32))), (0, va_rf (some p0)), (1, .int p1)]) rfl (Nat.le_of_ble_eq_true rfl) rfl cc_i1 rfl ?_
        refine kk_go hG (t := 35) rfl rfl ?_
        exact kk_wl hG [1, 2, 0] rfl (fun hw h => hP35 _ _ _ _ h hw)
      have b69 : ∀ (a2 : Int32) (a3 : Int32) (s : cS) (kc ks : Nat), KK sa R base G 69 [(0, va_rf (some p0)), (1, .int p1), (2, .int a2), (3, .int a3)] [] s kc ks (C_Re_isName_b69 sa p0 p1 a2 a3 s kc ks Q P35) := by
        intro a2 a3 s kc ks
        refine kks hG rfl rfl ?_
        refine kk_bi hG rfl cc_b48 ?_
        refine kk_ilt hG (t := 81) rfl rfl ?_ ?_
        · refine kk_ic hG rfl cc_i0 ?_
          exact kk_ri hG rfl rfl rfl k
        refine kks hG rfl rfl ?_
        refine kk_bi hG rfl cc_b57 ?_
        refine kk_ile hG (t := 83) rfl rfl ?_ ?_
        · exact kk_wl hG [0, 1, 2] rfl (b83 _ _ _ _)
        refine kk_ic hG rfl cc_i0 ?_
        exact kk_ri hG rfl rfl rfl k
      intro a2 s kc ks
      refine kks hG rfl rfl ?_
      refine kk_aln hG (x := (some p0)) rfl rfl ?_
      refine kk_gp hG (c := 7) (k := 2) (a := p0) rfl rfl rfl rfl (fun v1 => ?_)
      refine kks hG rfl rfl ?_
      refine kk_ob (fun b2 eb2 => ?_)
      subst eb2
      refine kk_ia hG (a := b2) rfl (fun v3 => ?_)
      refine kk_ige hG (t := 89) rfl rfl ?_ ?_
      · refine kk_ic hG rfl cc_i1 ?_
        exact kk_ri hG rfl rfl rfl k
      refine kk_aln hG (x := (some p0)) rfl rfl ?_
      refine kk_gp hG (c := 7) (k := 0) (a := p0) rfl rfl rfl rfl (fun v4 => ?_)
      refine kk_ob (fun b5 eb5 => ?_)
      subst eb5
      refine kk_gp hG (c := 11) (k := 0) (a := b5) rfl rfl rfl rfl (fun v6 => ?_)
      refine kks hG rfl rfl ?_
      refine kk_ob (fun b7 eb7 => ?_)
      subst eb7
      refine kk_cx (w := .int) hG 0 rfl rfl (Nat.le_of_ble_eq_true rfl) (by decide) rfl (st' := []) rfl (cats_le (Nat.le_of_ble_eq_true rfl)) (fun _ hw h k => kk_rcv h.1 (kc_By_at base sa hw h.2 k)) (fun r8 sr8 cr8 dr8 => ?_)
      refine kk_st hG (L' := [(3, .int r8), (0, va_rf (some p0)), (1, .int p1), (2, .int a2)]) rfl rfl (Nat.le_of_ble_eq_true rfl) rfl ?_
      refine kks hG rfl rfl ?_
      refine kk_bi hG rfl cc_b97 ?_
      refine kk_ilt hG (t := 69) rfl rfl ?_ ?_
      · exact kk_wl hG [1, 2, 3, 0] rfl (b69 _ _ _ _ _)
      refine kks hG rfl rfl ?_
      refine kk_bi hG rfl cc_b122 ?_
      refine kk_ile hG (t := 83) rfl rfl ?_ ?_
      · exact kk_wl hG [1, 2, 3] rfl (b83 _ _ _ _)
      exact kk_wl hG [1, 2, 3, 0] rfl (b69 _ _ _ _ _)
    exact fun a2 s kc ks hw h => h (fun a2 s kc ks => cW sa R base s → G 35 [(0, va_rf (some p0)), (1, .int p1), (2, .int a2)] [] (cM R s) kc ks) (fun a2 s kc ks hs hw => H _ (fun _ _ _ _ hp hw => hp hw) a2 s kc ks hw hs) hw
  refine (show KK sa R base G 0 [(0, va_rf (some p0)), (1, .int p1)] [] s kc ks (C_Re_isName sa p0 p1 s kc ks Q) from ?_) hw h
  refine kk_aln hG (x := (some p0)) rfl rfl ?_
  refine kks hG rfl rfl ?_
  refine kk_cx (w := .int) hG 0 rfl rfl (Nat.le_of_ble_eq_true rfl) (by decide) rfl (st' := []) rfl (cats_le (Nat.le_of_ble_eq_true rfl)) (fun _ hw h k => kk_rcv h.1 (kc_Re_isWord base sa hw h.2 k)) (fun r1 sr1 cr1 dr1 => ?_)
  refine kk_zeq hG (t := 26) rfl rfl ?_ ?_
  · refine kk_ic hG rfl cc_i0 ?_
    exact kk_ri hG rfl rfl rfl k
  refine kk_aln hG (x := (some p0)) rfl rfl ?_
  refine kk_gp hG (c := 7) (k := 2) (a := p0) rfl rfl rfl rfl (fun v2 => ?_)
  refine kks hG rfl rfl ?_
  refine kk_ob (fun b3 eb3 => ?_)
  subst eb3
  refine kk_ia hG (a := b3) rfl (fun v4 => ?_)
  refine kk_aln hG (x := (some p0)) rfl rfl ?_
  refine kk_gp hG (c := 7) (k := 1) (a := p0) rfl rfl rfl rfl (fun v5 => ?_)
  refine kks hG rfl rfl ?_
  refine kk_ob (fun b6 eb6 => ?_)
  subst eb6
  refine kk_ia hG (a := b6) rfl (fun v7 => ?_)
  refine kks hG rfl rfl ?_
  refine kk_bi hG rfl cc_b12 ?_
  refine kk_ile hG (t := 28) rfl rfl ?_ ?_
  · refine kk_aln hG (x := (some p0)) rfl rfl ?_
    refine kk_gp hG (c := 7) (k := 1) (a := p0) rfl rfl rfl rfl (fun v8 => ?_)
    refine kks hG rfl rfl ?_
    refine kk_ob (fun b9 eb9 => ?_)
    subst eb9
    refine kk_ia hG (a := b9) rfl (fun v10 => ?_)
    refine kk_st hG (L' := [(2, .int v10), (0, va_rf (some p0)), (1, .int p1)]) rfl rfl (Nat.le_of_ble_eq_true rfl) rfl ?_
    exact kk_wl hG [1, 2, 0] rfl (b35 _ _ _ _)
  refine kk_ic hG rfl cc_i0 ?_
  exact kk_ri hG rfl rfl rfl k
def C_Re_number_s39 (sa : Nat → Nat) (p0 : Nat) (p1 : Int32) (p2 : Int32) (p3 : Int32) (a4 : Int32) (a5 : Int32) (s : cS) (kc ks : Nat) (Q : (Int32 → cS → Nat → Nat → Prop)) (P39 : (Int32 → Int32 → cS → Nat → Nat → Prop)) : Prop := ob (gP s 7 2 p0) (fun v1 => (ob v1 (fun b2 => (ob (rE s .int b2 p1) (fun v3 => (if a5 < v3 then (ob (gP s 7 0 p0) (fun v4 => (ob v4 (fun b5 => (ob (gP s 11 0 b5) (fun v6 => (ob v6 (fun b7 => (okO s 0 b7 ∧ C_By_at sa b7 a5 s kc ks (fun r8 sr8 cr8 dr8 => (if (r8 - (48 : Int32)) < 0 then ((Q ((-1) : Int32) sr8 cr8 dr8)) else (if (9 : Int32) < (r8 - (48 : Int32)) then ((Q ((-1) : Int32) sr8 cr8 dr8)) else ((P39 ((a4 * (10 : Int32)) + (r8 - (48 : Int32))) (a5 + (1 : Int32)) sr8 cr8 dr8)))))))))))))) else ((if a4 < p2 then (Q ((-1) : Int32) s kc ks) else (if p3 < a4 then (Q ((-1) : Int32) s kc ks) else (Q a4 s kc ks))))))))))
def C_Re_number_b39 (sa : Nat → Nat) (p0 : Nat) (p1 : Int32) (p2 : Int32) (p3 : Int32) (a4 : Int32) (a5 : Int32) (s : cS) (kc ks : Nat) (Q : (Int32 → cS → Nat → Nat → Prop)) : Prop := ∀ P39 : (Int32 → Int32 → cS → Nat → Nat → Prop), (∀ (a4 : Int32) (a5 : Int32) (s : cS) (kc ks : Nat), C_Re_number_s39 sa p0 p1 p2 p3 a4 a5 s kc ks Q P39 → P39 a4 a5 s kc ks) → P39 a4 a5 s kc ks
def C_Re_number (sa : Nat → Nat) (p0 : Nat) (p1 : Int32) (p2 : Int32) (p3 : Int32) (s : cS) (kc ks : Nat) (Q : (Int32 → cS → Nat → Nat → Prop)) : Prop := okO s 7 p0 ∧ C_Re_isWord sa p0 p1 s kc ks (fun r1 sr1 cr1 dr1 => (if r1 = 0 then (Q ((-1) : Int32) sr1 cr1 dr1) else (ob (gP sr1 7 2 p0) (fun v2 => (ob v2 (fun b3 => (ob (rE sr1 .int b3 p1) (fun v4 => (ob (gP sr1 7 1 p0) (fun v5 => (ob v5 (fun b6 => (ob (rE sr1 .int b6 p1) (fun v7 => (if (6 : Int32) < (v4 - v7) then (Q ((-1) : Int32) sr1 cr1 dr1) else (ob (gP sr1 7 1 p0) (fun v8 => (ob v8 (fun b9 => (ob (rE sr1 .int b9 p1) (fun v10 => ((C_Re_number_b39 sa p0 p1 p2 p3 (0 : Int32) v10 sr1 cr1 dr1 Q)))))))))))))))))))))))
set_option maxRecDepth 100000 in
set_option maxHeartbeats 4000000 in
theorem kc_Re_number (base : Nat) (sa : Nat → Nat) {R : pmM} {s : cS} {kc ks : Nat} {Rt : pmR} {p0 : Nat} {p1 : Int32} {p2 : Int32} {p3 : Int32} {Q : (Int32 → cS → Nat → Nat → Prop)} (hw : cW sa R base s) (h : C_Re_number sa p0 p1 p2 p3 s kc ks Q) (k : ∀ r s' kc' ks', cW sa R base s' → Q r s' kc' ks' → Rt (some (.int r)) (cM R s') kc' ks') : kP_Re_number base sa [.ref p0, .int p1, .int p2, .int p3] (cM R s) kc ks Rt := by
  refine ⟨Nat.le_of_ble_eq_true rfl, fun G hG => ?_⟩
  have b39 : ∀ (a4 : Int32) (a5 : Int32) (s : cS) (kc ks : Nat), KK sa R base G 39 [(0, va_rf (some p0)), (1, .int p1), (2, .int p2), (3, .int p3), (4, .int a4), (5, .int a5)] [] s kc ks (C_Re_number_b39 sa p0 p1 p2 p3 a4 a5 s kc ks Q) := by
    have H : ∀ (P39 : (Int32 → Int32 → cS → Nat → Nat → Prop)) (hP39 : ∀ (a4 : Int32) (a5 : Int32) (s : cS) (kc ks : Nat), P39 a4 a5 s kc ks → cW sa R base s → G 39 [(0, va_rf (some p0)), (1, .int p1), (2, .int p2), (3, .int p3), (4, .int a4), (5, .int a5)] [] (cM R s) kc ks) (a4 : Int32) (a5 : Int32) (s : cS) (kc ks : Nat), KK sa R base G 39 [(0, va_rf (some p0)), (1, .int p1), (2, .int p2), (3, .int p3), (4, .int a4), (5, .int a5)] [] s kc ks (C_Re_number_s39 sa p0 p1 p2 p3 a4 a5 s kc ks Q P39) := by
      intro P39 hP39
      intro a4 a5 s kc ks
      refine kks hG rfl rfl ?_
      refine kk_aln hG (x := (some p0)) rfl rfl ?_
      refine kk_gp hG (c := 7) (k := 2) (a := p0) rfl rfl rfl rfl (fun v1 => ?_)
      refine kks hG rfl rfl ?_
      refine kk_ob (fun b2 eb2 => ?_)
      subst eb2
      refine kk_ia hG (a := b2) rfl (fun v3 => ?_)
      refine kk_ige hG (t := 97) rfl rfl ?_ ?_
      · refine kks hG rfl rfl ?_
        refine kks hG rfl rfl ?_
        refine kk_ilt hG (t := 109) rfl rfl ?_ ?_
        · refine kk_ic hG rfl cc_im1 ?_
          refine kk_go hG (t := 115) rfl rfl ?_
          exact kk_ri hG rfl rfl rfl k
        refine kks hG rfl rfl ?_
        refine kks hG rfl rfl ?_
        refine kk_ile hG (t := 113) rfl rfl ?_ ?_
        · refine kks hG rfl rfl ?_
          exact kk_ri hG rfl rfl rfl k
        refine kk_ic hG rfl cc_im1 ?_
        refine kk_go hG (t := 115) rfl rfl ?_
        exact kk_ri hG rfl rfl rfl k
      refine kk_aln hG (x := (some p0)) rfl rfl ?_
      refine kk_gp hG (c := 7) (k := 0) (a := p0) rfl rfl rfl rfl (fun v4 => ?_)
      refine kk_ob (fun b5 eb5 => ?_)
      subst eb5
      refine kk_gp hG (c := 11) (k := 0) (a := b5) rfl rfl rfl rfl (fun v6 => ?_)
      refine kks hG rfl rfl ?_
      refine kk_ob (fun b7 eb7 => ?_)
      subst eb7
      refine kk_cx (w := .int) hG 0 rfl rfl (Nat.le_of_ble_eq_true rfl) (by decide) rfl (st' := []) rfl (cats_le (Nat.le_of_ble_eq_true rfl)) (fun _ hw h k => kk_rcv h.1 (kc_By_at base sa hw h.2 k)) (fun r8 sr8 cr8 dr8 => ?_)
      refine kk_bi hG rfl cc_b48 ?_
      refine kks hG rfl rfl ?_
      refine kk_st hG (L' := [(6, .int (r8 - (48 : Int32))), (0, va_rf (some p0)), (1, .int p1), (2, .int p2), (3, .int p3), (4, .int a4), (5, .int a5)]) rfl rfl (Nat.le_of_ble_eq_true rfl) rfl ?_
      refine kks hG rfl rfl ?_
      refine kk_zlt hG (t := 79) rfl rfl ?_ ?_
      · refine kk_ic hG rfl cc_im1 ?_
        exact kk_ri hG rfl rfl rfl k
      refine kks hG rfl rfl ?_
      refine kk_bi hG rfl cc_b9 ?_
      refine kk_ile hG (t := 81) rfl rfl ?_ ?_
      · refine kks hG rfl rfl ?_
        refine kk_bi hG rfl cc_b10 ?_
        refine kks hG rfl rfl ?_
        refine kks hG rfl rfl ?_
        refine kks hG rfl rfl ?_
        refine kk_st hG (L' := [(4, .int ((a4 * (10 : Int32)) + (r8 - (48 : Int32)))), (6, .int (r8 - (48 : Int32))), (0, va_rf (some p0)), (1, .int p1), (2, .int p2), (3, .int p3), (5, .int a5)]) rfl rfl (Nat.le_of_ble_eq_true rfl) rfl ?_
        refine kk_inc hG (L' := [(5, .int (a5 + (1 : Int32))), (4, .int ((a4 * (10 : Int32)) + (r8 - (48 : Int32)))), (6, .int (r8 - (48 : Int32))), (0, va_rf (some p0)), (1, .int p1), (2, .int p2), (3, .int p3)]) rfl (Nat.le_of_ble_eq_true rfl) rfl cc_i1 rfl ?_
        refine kk_go hG (t := 39) rfl rfl ?_
        exact kk_wl hG [3, 4, 5, 6, 1, 0] rfl (fun hw h => hP39 _ _ _ _ _ h hw)
      refine kk_ic hG rfl cc_im1 ?_
      exact kk_ri hG rfl rfl rfl k
    exact fun a4 a5 s kc ks hw h => h (fun a4 a5 s kc ks => cW sa R base s → G 39 [(0, va_rf (some p0)), (1, .int p1), (2, .int p2), (3, .int p3), (4, .int a4), (5, .int a5)] [] (cM R s) kc ks) (fun a4 a5 s kc ks hs hw => H _ (fun _ _ _ _ _ hp hw => hp hw) a4 a5 s kc ks hw hs) hw
  refine (show KK sa R base G 0 [(0, va_rf (some p0)), (1, .int p1), (2, .int p2), (3, .int p3)] [] s kc ks (C_Re_number sa p0 p1 p2 p3 s kc ks Q) from ?_) hw h
  refine kk_aln hG (x := (some p0)) rfl rfl ?_
  refine kks hG rfl rfl ?_
  refine kk_cx (w := .int) hG 0 rfl rfl (Nat.le_of_ble_eq_true rfl) (by decide) rfl (st' := []) rfl (cats_le (Nat.le_of_ble_eq_true rfl)) (fun _ hw h k => kk_rcv h.1 (kc_Re_isWord base sa hw h.2 k)) (fun r1 sr1 cr1 dr1 => ?_)
  refine kk_zeq hG (t := 26) rfl rfl ?_ ?_
  · refine kk_ic hG rfl cc_im1 ?_
    exact kk_ri hG rfl rfl rfl k
  refine kk_aln hG (x := (some p0)) rfl rfl ?_
  refine kk_gp hG (c := 7) (k := 2) (a := p0) rfl rfl rfl rfl (fun v2 => ?_)
  refine kks hG rfl rfl ?_
  refine kk_ob (fun b3 eb3 => ?_)
  subst eb3
  refine kk_ia hG (a := b3) rfl (fun v4 => ?_)
  refine kk_aln hG (x := (some p0)) rfl rfl ?_
  refine kk_gp hG (c := 7) (k := 1) (a := p0) rfl rfl rfl rfl (fun v5 => ?_)
  refine kks hG rfl rfl ?_
  refine kk_ob (fun b6 eb6 => ?_)
  subst eb6
  refine kk_ia hG (a := b6) rfl (fun v7 => ?_)
  refine kks hG rfl rfl ?_
  refine kk_bi hG rfl cc_b6 ?_
  refine kk_ile hG (t := 28) rfl rfl ?_ ?_
  · refine kk_ic hG rfl cc_i0 ?_
    refine kk_st hG (L' := [(4, .int (0 : Int32)), (0, va_rf (some p0)), (1, .int p1), (2, .int p2), (3, .int p3)]) rfl rfl (Nat.le_of_ble_eq_true rfl) rfl ?_
    refine kk_aln hG (x := (some p0)) rfl rfl ?_
    refine kk_gp hG (c := 7) (k := 1) (a := p0) rfl rfl rfl rfl (fun v8 => ?_)
    refine kks hG rfl rfl ?_
    refine kk_ob (fun b9 eb9 => ?_)
    subst eb9
    refine kk_ia hG (a := b9) rfl (fun v10 => ?_)
    refine kk_st hG (L' := [(5, .int v10), (4, .int (0 : Int32)), (0, va_rf (some p0)), (1, .int p1), (2, .int p2), (3, .int p3)]) rfl rfl (Nat.le_of_ble_eq_true rfl) rfl ?_
    exact kk_wl hG [2, 3, 4, 5, 1, 0] rfl (b39 _ _ _ _ _)
  refine kk_ic hG rfl cc_im1 ?_
  exact kk_ri hG rfl rfl rfl k
def C_Re_takeSecret_b113 (sa : Nat → Nat) (p0 : Nat) (p1 : Int32) (a2 : Int32) (a3 : Int32) (s : cS) (kc ks : Nat) (Q : (Int32 → cS → Nat → Nat → Prop)) (P33 : (Int32 → cS → Nat → Nat → Prop)) : Prop := ob (gP s 7 7 p0) (fun v1 => (ob v1 (fun b2 => (ob (wEb s b2 a2 (Int8.toInt32 (Int32.toInt8 a3))) (fun s3 => ((P33 (a2 + (1 : Int32)) s3 kc ks)))))))
def C_Re_takeSecret_b81 (sa : Nat → Nat) (p0 : Nat) (p1 : Int32) (a2 : Int32) (u0 : Int32) (s : cS) (kc ks : Nat) (Q : (Int32 → cS → Nat → Nat → Prop)) (P33 : (Int32 → cS → Nat → Nat → Prop)) : Prop := ob (gP s 7 1 p0) (fun v1 => (ob v1 (fun b2 => (ob (rE s .int b2 p1) (fun v3 => (ob (gP s 7 2 p0) (fun v4 => (ob v4 (fun b5 => (ob (rE s .int b5 p1) (fun v6 => (if (v3 + a2) < v6 then (if u0 < (33 : Int32) then ((Q (0 : Int32) s kc ks)) else (if (126 : Int32) < u0 then ((Q (0 : Int32) s kc ks)) else ((C_Re_takeSecret_b113 sa p0 p1 a2 u0 s kc ks Q P33)))) else ((C_Re_takeSecret_b113 sa p0 p1 a2 u0 s kc ks Q P33))))))))))))))
def C_Re_takeSecret_s33 (sa : Nat → Nat) (p0 : Nat) (p1 : Int32) (a2 : Int32) (s : cS) (kc ks : Nat) (Q : (Int32 → cS → Nat → Nat → Prop)) (P33 : (Int32 → cS → Nat → Nat → Prop)) : Prop := ob (gP s 7 7 p0) (fun v1 => (ob v1 (fun b2 => (ob (aL s b2) (fun v3 => (if a2 < v3 then (ob (gP s 7 1 p0) (fun v4 => (ob v4 (fun b5 => (ob (rE s .int b5 p1) (fun v6 => (ob (gP s 7 2 p0) (fun v7 => (ob v7 (fun b8 => (ob (rE s .int b8 p1) (fun v9 => (if (v6 + a2) < v9 then (ob (gP s 7 0 p0) (fun v10 => (ob v10 (fun b11 => (ob (gP s 11 0 b11) (fun v12 => (ob (gP s 7 1 p0) (fun v13 => (ob v13 (fun b14 => (ob (rE s .int b14 p1) (fun v15 => (ob v12 (fun b16 => (okO s 0 b16 ∧ C_By_at sa b16 (v15 + a2) s kc ks (fun r17 sr17 cr17 dr17 => ((C_Re_takeSecret_b81 sa p0 p1 a2 r17 sr17 cr17 dr17 Q P33)))))))))))))))))) else ((C_Re_takeSecret_b81 sa p0 p1 a2 (0 : Int32) s kc ks Q P33))))))))))))))) else ((Q (1 : Int32) s kc ks))))))))
def C_Re_takeSecret_b33 (sa : Nat → Nat) (p0 : Nat) (p1 : Int32) (a2 : Int32) (s : cS) (kc ks : Nat) (Q : (Int32 → cS → Nat → Nat → Prop)) : Prop := ∀ P33 : (Int32 → cS → Nat → Nat → Prop), (∀ (a2 : Int32) (s : cS) (kc ks : Nat), C_Re_takeSecret_s33 sa p0 p1 a2 s kc ks Q P33 → P33 a2 s kc ks) → P33 a2 s kc ks
def C_Re_takeSecret (sa : Nat → Nat) (p0 : Nat) (p1 : Int32) (s : cS) (kc ks : Nat) (Q : (Int32 → cS → Nat → Nat → Prop)) : Prop := okO s 7 p0 ∧ C_Re_isWord sa p0 p1 s kc ks (fun r1 sr1 cr1 dr1 => (if r1 = 0 then (Q (0 : Int32) sr1 cr1 dr1) else (ob (gP sr1 7 2 p0) (fun v2 => (ob v2 (fun b3 => (ob (rE sr1 .int b3 p1) (fun v4 => (ob (gP sr1 7 1 p0) (fun v5 => (ob v5 (fun b6 => (ob (rE sr1 .int b6 p1) (fun v7 => (ob (gP sr1 7 7 p0) (fun v8 => (ob v8 (fun b9 => (ob (aL sr1 b9) (fun v10 => (if v10 < (v4 - v7) then (Q (0 : Int32) sr1 cr1 dr1) else ((C_Re_takeSecret_b33 sa p0 p1 (0 : Int32) sr1 cr1 dr1 Q)))))))))))))))))))))))
set_option maxRecDepth 100000 in
set_option maxHeartbeats 4000000 in
theorem kc_Re_takeSecret (base : Nat) (sa : Nat → Nat) {R : pmM} {s : cS} {kc ks : Nat} {Rt : pmR} {p0 : Nat} {p1 : Int32} {Q : (Int32 → cS → Nat → Nat → Prop)} (hw : cW sa R base s) (h : C_Re_takeSecret sa p0 p1 s kc ks Q) (k : ∀ r s' kc' ks', cW sa R base s' → Q r s' kc' ks' → Rt (some (.int r)) (cM R s') kc' ks') : kP_Re_takeSecret base sa [.ref p0, .int p1] (cM R s) kc ks Rt := by
  refine ⟨Nat.le_of_ble_eq_true rfl, fun G hG => ?_⟩
  have b33 : ∀ (a2 : Int32) (s : cS) (kc ks : Nat), KK sa R base G 33 [(0, va_rf (some p0)), (1, .int p1), (2, .int a2)] [] s kc ks (C_Re_takeSecret_b33 sa p0 p1 a2 s kc ks Q) := by
    have H : ∀ (P33 : (Int32 → cS → Nat → Nat → Prop)) (hP33 : ∀ (a2 : Int32) (s : cS) (kc ks : Nat), P33 a2 s kc ks → cW sa R base s → G 33 [(0, va_rf (some p0)), (1, .int p1), (2, .int a2)] [] (cM R s) kc ks) (a2 : Int32) (s : cS) (kc ks : Nat), KK sa R base G 33 [(0, va_rf (some p0)), (1, .int p1), (2, .int a2)] [] s kc ks (C_Re_takeSecret_s33 sa p0 p1 a2 s kc ks Q P33) := by
      intro P33 hP33
      have b113 : ∀ (a2 : Int32) (a3 : Int32) (s : cS) (kc ks : Nat), KK sa R base G 113 [(0, va_rf (some p0)), (1, .int p1), (2, .int a2), (3, .int a3)] [] s kc ks (C_Re_takeSecret_b113 sa p0 p1 a2 a3 s kc ks Q P33) := by
        intro a2 a3 s kc ks
        refine kk_aln hG (x := (some p0)) rfl rfl ?_
        refine kk_gp hG (c := 7) (k := 7) (a := p0) rfl rfl rfl rfl (fun v1 => ?_)
        refine kks hG rfl rfl ?_
        refine kks hG rfl rfl ?_
        refine kks hG rfl rfl ?_
        refine kk_ob (fun b2 eb2 => ?_)
        subst eb2
        refine kk_bs hG (a := b2) rfl (fun s3 => ?_)
        refine kk_inc hG (L' := [(2, .int (a2 + (1 : Int32))), (0, va_rf (some p0)), (1, .int p1), (3, .int a3)]) rfl (Nat.le_of_ble_eq_true rfl) rfl cc_i1 rfl ?_
        refine kk_go hG (t := 33) rfl rfl ?_
        exact kk_wl hG [1, 2, 0] rfl (fun hw h => hP33 _ _ _ _ h hw)
      have b81 : ∀ (a2 : Int32) (u0 : Int32) (s : cS) (kc ks : Nat), KK sa R base G 81 [(0, va_rf (some p0)), (1, .int p1), (2, .int a2)] [.int u0] s kc ks (C_Re_takeSecret_b81 sa p0 p1 a2 u0 s kc ks Q P33) := by
        intro a2 u0 s kc ks
        refine kk_st hG (L' := [(3, .int u0), (0, va_rf (some p0)), (1, .int p1), (2, .int a2)]) rfl rfl (Nat.le_of_ble_eq_true rfl) rfl ?_
        refine kk_aln hG (x := (some p0)) rfl rfl ?_
        refine kk_gp hG (c := 7) (k := 1) (a := p0) rfl rfl rfl rfl (fun v1 => ?_)
        refine kks hG rfl rfl ?_
        refine kk_ob (fun b2 eb2 => ?_)
        subst eb2
        refine kk_ia hG (a := b2) rfl (fun v3 => ?_)
        refine kks hG rfl rfl ?_
        refine kks hG rfl rfl ?_
        refine kk_aln hG (x := (some p0)) rfl rfl ?_
        refine kk_gp hG (c := 7) (k := 2) (a := p0) rfl rfl rfl rfl (fun v4 => ?_)
        refine kks hG rfl rfl ?_
        refine kk_ob (fun b5 eb5 => ?_)
        subst eb5
        refine kk_ia hG (a := b5) rfl (fun v6 => ?_)
        refine kk_ige hG (t := 113) rfl rfl ?_ ?_
        · exact kk_wl hG [1, 2, 3, 0] rfl (b113 _ _ _ _ _)
        refine kks hG rfl rfl ?_
        refine kk_bi hG rfl cc_b33 ?_
        refine kk_ilt hG (t := 111) rfl rfl ?_ ?_
        · refine kk_ic hG rfl cc_i0 ?_
          exact kk_ri hG rfl rfl rfl k
        refine kks hG rfl rfl ?_
        refine kk_bi hG rfl cc_b126 ?_
        refine kk_ile hG (t := 113) rfl rfl ?_ ?_
        · exact kk_wl hG [1, 2, 3, 0] rfl (b113 _ _ _ _ _)
        refine kk_ic hG rfl cc_i0 ?_
        exact kk_ri hG rfl rfl rfl k
      intro a2 s kc ks
      refine kks hG rfl rfl ?_
      refine kk_aln hG (x := (some p0)) rfl rfl ?_
      refine kk_gp hG (c := 7) (k := 7) (a := p0) rfl rfl rfl rfl (fun v1 => ?_)
      refine kk_ob (fun b2 eb2 => ?_)
      subst eb2
      refine kk_len hG (a := b2) rfl (fun v3 => ?_)
      refine kk_ige hG (t := 127) rfl rfl ?_ ?_
      · refine kk_ic hG rfl cc_i1 ?_
        exact kk_ri hG rfl rfl rfl k
      refine kk_aln hG (x := (some p0)) rfl rfl ?_
      refine kk_gp hG (c := 7) (k := 1) (a := p0) rfl rfl rfl rfl (fun v4 => ?_)
      refine kks hG rfl rfl ?_
      refine kk_ob (fun b5 eb5 => ?_)
      subst eb5
      refine kk_ia hG (a := b5) rfl (fun v6 => ?_)
      refine kks hG rfl rfl ?_
      refine kks hG rfl rfl ?_
      refine kk_aln hG (x := (some p0)) rfl rfl ?_
      refine kk_gp hG (c := 7) (k := 2) (a := p0) rfl rfl rfl rfl (fun v7 => ?_)
      refine kks hG rfl rfl ?_
      refine kk_ob (fun b8 eb8 => ?_)
      subst eb8
      refine kk_ia hG (a := b8) rfl (fun v9 => ?_)
      refine kk_ige hG (t := 80) rfl rfl ?_ ?_
      · refine kk_ic hG rfl cc_i0 ?_
        exact kk_wl hG [0, 1, 2] rfl (b81 _ _ _ _ _)
      refine kk_aln hG (x := (some p0)) rfl rfl ?_
      refine kk_gp hG (c := 7) (k := 0) (a := p0) rfl rfl rfl rfl (fun v10 => ?_)
      refine kk_ob (fun b11 eb11 => ?_)
      subst eb11
      refine kk_gp hG (c := 11) (k := 0) (a := b11) rfl rfl rfl rfl (fun v12 => ?_)
      refine kk_aln hG (x := (some p0)) rfl rfl ?_
      refine kk_gp hG (c := 7) (k := 1) (a := p0) rfl rfl rfl rfl (fun v13 => ?_)
      refine kks hG rfl rfl ?_
      refine kk_ob (fun b14 eb14 => ?_)
      subst eb14
      refine kk_ia hG (a := b14) rfl (fun v15 => ?_)
      refine kks hG rfl rfl ?_
      refine kks hG rfl rfl ?_
      refine kk_ob (fun b16 eb16 => ?_)
      subst eb16
      refine kk_cx (w := .int) hG 0 rfl rfl (Nat.le_of_ble_eq_true rfl) (by decide) rfl (st' := []) rfl (cats_le (Nat.le_of_ble_eq_true rfl)) (fun _ hw h k => kk_rcv h.1 (kc_By_at base sa hw h.2 k)) (fun r17 sr17 cr17 dr17 => ?_)
      refine kk_go hG (t := 81) rfl rfl ?_
      exact kk_wl hG [0, 1, 2] rfl (b81 _ _ _ _ _)
    exact fun a2 s kc ks hw h => h (fun a2 s kc ks => cW sa R base s → G 33 [(0, va_rf (some p0)), (1, .int p1), (2, .int a2)] [] (cM R s) kc ks) (fun a2 s kc ks hs hw => H _ (fun _ _ _ _ hp hw => hp hw) a2 s kc ks hw hs) hw
  refine (show KK sa R base G 0 [(0, va_rf (some p0)), (1, .int p1)] [] s kc ks (C_Re_takeSecret sa p0 p1 s kc ks Q) from ?_) hw h
  refine kk_aln hG (x := (some p0)) rfl rfl ?_
  refine kks hG rfl rfl ?_
  refine kk_cx (w := .int) hG 0 rfl rfl (Nat.le_of_ble_eq_true rfl) (by decide) rfl (st' := []) rfl (cats_le (Nat.le_of_ble_eq_true rfl)) (fun _ hw h k => kk_rcv h.1 (kc_Re_isWord base sa hw h.2 k)) (fun r1 sr1 cr1 dr1 => ?_)
  refine kk_zeq hG (t := 29) rfl rfl ?_ ?_
  · refine kk_ic hG rfl cc_i0 ?_
    exact kk_ri hG rfl rfl rfl k
  refine kk_aln hG (x := (some p0)) rfl rfl ?_
  refine kk_gp hG (c := 7) (k := 2) (a := p0) rfl rfl rfl rfl (fun v2 => ?_)
  refine kks hG rfl rfl ?_
  refine kk_ob (fun b3 eb3 => ?_)
  subst eb3
  refine kk_ia hG (a := b3) rfl (fun v4 => ?_)
  refine kk_aln hG (x := (some p0)) rfl rfl ?_
  refine kk_gp hG (c := 7) (k := 1) (a := p0) rfl rfl rfl rfl (fun v5 => ?_)
  refine kks hG rfl rfl ?_
  refine kk_ob (fun b6 eb6 => ?_)
  subst eb6
  refine kk_ia hG (a := b6) rfl (fun v7 => ?_)
  refine kks hG rfl rfl ?_
  refine kk_aln hG (x := (some p0)) rfl rfl ?_
  refine kk_gp hG (c := 7) (k := 7) (a := p0) rfl rfl rfl rfl (fun v8 => ?_)
  refine kk_ob (fun b9 eb9 => ?_)
  subst eb9
  refine kk_len hG (a := b9) rfl (fun v10 => ?_)
  refine kk_ile hG (t := 31) rfl rfl ?_ ?_
  · refine kk_ic hG rfl cc_i0 ?_
    refine kk_st hG (L' := [(2, .int (0 : Int32)), (0, va_rf (some p0)), (1, .int p1)]) rfl rfl (Nat.le_of_ble_eq_true rfl) rfl ?_
    exact kk_wl hG [1, 2, 0] rfl (b33 _ _ _ _)
  refine kk_ic hG rfl cc_i0 ?_
  exact kk_ri hG rfl rfl rfl k
