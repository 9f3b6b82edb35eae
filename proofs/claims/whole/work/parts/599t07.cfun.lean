/-! Methods as weakest preconditions, by program: Ro_init .. Ch_addPasswordEntry -/
def C_Ro_init (sa : Nat → Nat) (p0 : Nat) (s : cS) (kc ks : Nat) (Q : (cS → Nat → Nat → Prop)) : Prop := nwO sa s kc ks 5 4 (fun q1 sq1 cq1 dq1 => (okO sq1 5 q1 ∧ C_Pr_init sa q1 sq1 cq1 dq1 (fun sr2 cr2 dr2 => (ob (pP sr2 8 0 p0 (some q1)) (fun s3 => (nwO sa s3 cr2 dr2 5 4 (fun q4 sq4 cq4 dq4 => (okO sq4 5 q4 ∧ C_Pr_init sa q4 sq4 cq4 dq4 (fun sr5 cr5 dr5 => (ob (pP sr5 8 1 p0 (some q4)) (fun s6 => (nwO sa s6 cr5 dr5 5 4 (fun q7 sq7 cq7 dq7 => (okO sq7 5 q7 ∧ C_Pr_init sa q7 sq7 cq7 dq7 (fun sr8 cr8 dr8 => (ob (pP sr8 8 2 p0 (some q7)) (fun s9 => (ob (pI s9 8 3 p0 (2 : Int32)) (fun s10 => (ob (pI s10 8 4 p0 (16 : Int32)) (fun s11 => (ob (pI s11 8 5 p0 (0 : Int32)) (fun s12 => (ob (pP s12 8 6 p0 none) (fun s13 => (ob (pZ s13 8 7 p0 (0 : Int32)) (fun s14 => (ob (pI s14 8 8 p0 (0 : Int32)) (fun s15 => (ob (pI s15 8 9 p0 (0 : Int32)) (fun s16 => (ob (pI s16 8 10 p0 (0 : Int32)) (fun s17 => (Q s17 cr8 dr8))))))))))))))))))))))))))))))))))
set_option maxRecDepth 100000 in
set_option maxHeartbeats 4000000 in
theorem kc_Ro_init (base : Nat) (sa : Nat → Nat) {R : pmM} {s : cS} {kc ks : Nat} {Rt : pmR} {p0 : Nat} {Q : (cS → Nat → Nat → Prop)} (hw : cW sa R base s) (h : C_Ro_init sa p0 s kc ks Q) (k : ∀ s' kc' ks', cW sa R base s' → Q s' kc' ks' → Rt none (cM R s') kc' ks') : kP_Ro_init base sa [.ref p0] (cM R s) kc ks Rt := by
  refine ⟨Nat.le_of_ble_eq_true rfl, fun G hG => ?_⟩
  refine (show KK sa R base G 0 [(0, va_rf (some p0))] [] s kc ks (C_Ro_init sa p0 s kc ks Q) from ?_) hw h
  refine kk_aln hG (x := (some p0)) rfl rfl ?_
  refine kk_oi hG (a := p0) rfl rfl (Nat.le_of_ble_eq_true rfl) ?_
  refine kk_aln hG (x := (some p0)) rfl rfl ?_
  refine kk_new hG (c := 5) (n := 4) rfl rfl rfl rfl (fun q1 sq1 cq1 dq1 => ?_)
  refine kk_dup hG (x := (some q1)) rfl ?_
  refine kk_cv hG 1 rfl rfl (Nat.le_of_ble_eq_true rfl) (by decide) rfl (st' := [va_rf (some q1), va_rf (some p0)]) rfl (cats_le (Nat.le_of_ble_eq_true rfl)) (fun _ hw h k => kk_rcv h.1 (kc_Pr_init base sa hw h.2 k)) (fun sr2 cr2 dr2 => ?_)
  refine kk_pp hG (c := 8) (k := 0) (a := p0) (v := (some q1)) rfl rfl rfl rfl rfl (fun s3 => ?_)
  refine kk_aln hG (x := (some p0)) rfl rfl ?_
  refine kk_new hG (c := 5) (n := 4) rfl rfl rfl rfl (fun q4 sq4 cq4 dq4 => ?_)
  refine kk_dup hG (x := (some q4)) rfl ?_
  refine kk_cv hG 1 rfl rfl (Nat.le_of_ble_eq_true rfl) (by decide) rfl (st' := [va_rf (some q4), va_rf (some p0)]) rfl (cats_le (Nat.le_of_ble_eq_true rfl)) (fun _ hw h k => kk_rcv h.1 (kc_Pr_init base sa hw h.2 k)) (fun sr5 cr5 dr5 => ?_)
  refine kk_pp hG (c := 8) (k := 1) (a := p0) (v := (some q4)) rfl rfl rfl rfl rfl (fun s6 => ?_)
  refine kk_aln hG (x := (some p0)) rfl rfl ?_
  refine kk_new hG (c := 5) (n := 4) rfl rfl rfl rfl (fun q7 sq7 cq7 dq7 => ?_)
  refine kk_dup hG (x := (some q7)) rfl ?_
  refine kk_cv hG 1 rfl rfl (Nat.le_of_ble_eq_true rfl) (by decide) rfl (st' := [va_rf (some q7), va_rf (some p0)]) rfl (cats_le (Nat.le_of_ble_eq_true rfl)) (fun _ hw h k => kk_rcv h.1 (kc_Pr_init base sa hw h.2 k)) (fun sr8 cr8 dr8 => ?_)
  refine kk_pp hG (c := 8) (k := 2) (a := p0) (v := (some q7)) rfl rfl rfl rfl rfl (fun s9 => ?_)
  refine kk_aln hG (x := (some p0)) rfl rfl ?_
  refine kk_ic hG rfl cc_i2 ?_
  refine kk_pi hG (c := 8) (k := 3) (a := p0) rfl rfl rfl rfl (fun s10 => ?_)
  refine kk_aln hG (x := (some p0)) rfl rfl ?_
  refine kk_bi hG rfl cc_b16 ?_
  refine kk_pi hG (c := 8) (k := 4) (a := p0) rfl rfl rfl rfl (fun s11 => ?_)
  refine kk_aln hG (x := (some p0)) rfl rfl ?_
  refine kk_ic hG rfl cc_i0 ?_
  refine kk_pi hG (c := 8) (k := 5) (a := p0) rfl rfl rfl rfl (fun s12 => ?_)
  refine kk_aln hG (x := (some p0)) rfl rfl ?_
  refine kks hG rfl rfl ?_
  refine kk_pp hG (c := 8) (k := 6) (a := p0) (v := none) rfl rfl rfl rfl rfl (fun s13 => ?_)
  refine kk_aln hG (x := (some p0)) rfl rfl ?_
  refine kk_ic hG rfl cc_i0 ?_
  refine kk_pz hG (c := 8) (k := 7) (a := p0) rfl rfl rfl rfl (fun s14 => ?_)
  refine kk_aln hG (x := (some p0)) rfl rfl ?_
  refine kk_ic hG rfl cc_i0 ?_
  refine kk_pi hG (c := 8) (k := 8) (a := p0) rfl rfl rfl rfl (fun s15 => ?_)
  refine kk_aln hG (x := (some p0)) rfl rfl ?_
  refine kk_ic hG rfl cc_i0 ?_
  refine kk_pi hG (c := 8) (k := 9) (a := p0) rfl rfl rfl rfl (fun s16 => ?_)
  refine kk_aln hG (x := (some p0)) rfl rfl ?_
  refine kk_ic hG rfl cc_i0 ?_
  refine kk_pi hG (c := 8) (k := 10) (a := p0) rfl rfl rfl rfl (fun s17 => ?_)
  exact kk_rv hG rfl rfl k
def C_Ro_begin (sa : Nat → Nat) (p0 : Nat) (p1 : Option Nat) (p2 : Int32) (p3 : Int32) (s : cS) (kc ks : Nat) (Q : (cS → Nat → Nat → Prop)) : Prop := ob p1 (fun b1 => (ob (gI s 5 0 b1) (fun v2 => (C_Pr_bitsOf sa v2 s kc ks (fun r3 sr3 cr3 dr3 => (ob (gP sr3 8 0 p0) (fun v4 => (ob v4 (fun b5 => (okO sr3 5 b5 ∧ C_Pr_copy sa b5 (some b1) sr3 cr3 dr3 (fun sr6 cr6 dr6 => (ob (gP sr6 8 1 p0) (fun v7 => (ob (gI sr6 5 0 b1) (fun v8 => (ob v7 (fun b9 => (okO sr6 5 b9 ∧ C_Pr_setZero sa b9 v8 r3 sr6 cr6 dr6 (fun sr10 cr10 dr10 => (ob (gP sr10 8 2 p0) (fun v11 => (ob (gI sr10 5 0 b1) (fun v12 => (ob v11 (fun b13 => (okO sr10 5 b13 ∧ C_Pr_setZero sa b13 v12 r3 sr10 cr10 dr10 (fun sr14 cr14 dr14 => (ob (pI sr14 8 3 p0 (2 : Int32)) (fun s15 => (ob (pP s15 8 6 p0 none) (fun s16 => (ob (pI s16 8 5 p0 p2) (fun s17 => (ob (pI s17 8 4 p0 p3) (fun s18 => (ob (pZ s18 8 7 p0 (0 : Int32)) (fun s19 => (Q s19 cr14 dr14))))))))))))))))))))))))))))))))))))))
set_option maxRecDepth 100000 in
set_option maxHeartbeats 4000000 in
theorem kc_Ro_begin (base : Nat) (sa : Nat → Nat) {R : pmM} {s : cS} {kc ks : Nat} {Rt : pmR} {p0 : Nat} {p1 : Option Nat} {p2 : Int32} {p3 : Int32} {Q : (cS → Nat → Nat → Prop)} (hw : cW sa R base s) (h : C_Ro_begin sa p0 p1 p2 p3 s kc ks Q) (k : ∀ s' kc' ks', cW sa R base s' → Q s' kc' ks' → Rt none (cM R s') kc' ks') : kP_Ro_begin base sa [.ref p0, va_rf p1, .int p2, .int p3] (cM R s) kc ks Rt := by
  refine ⟨by cases p1 <;> exact Nat.le_of_ble_eq_true rfl, fun G hG => ?_⟩
  have eL : lv_args 0 [.ref p0, va_rf p1, .int p2, .int p3] = [(0, va_rf (some p0)), (1, va_rf p1), (2, .int p2), (3, .int p3)] := by cases p1 <;> rfl
  rw [eL]
  refine (show KK sa R base G 0 [(0, va_rf (some p0)), (1, va_rf p1), (2, .int p2), (3, .int p3)] [] s kc ks (C_Ro_begin sa p0 p1 p2 p3 s kc ks Q) from ?_) hw h
  refine kk_aln hG (x := p1) rfl rfl ?_
  refine kk_ob (fun b1 eb1 => ?_)
  subst eb1
  refine kk_gi hG (c := 5) (k := 0) (a := b1) rfl rfl rfl rfl (fun v2 => ?_)
  refine kk_cx (w := .int) hG 2 rfl rfl (Nat.le_of_ble_eq_true rfl) (by decide) rfl (st' := []) rfl (cats_le (Nat.le_of_ble_eq_true rfl)) (fun _ hw h k => kc_Pr_bitsOf base sa hw h k) (fun r3 sr3 cr3 dr3 => ?_)
  refine kk_st hG (L' := [(4, .int r3), (0, va_rf (some p0)), (1, va_rf (some b1)), (2, .int p2), (3, .int p3)]) rfl rfl (Nat.le_of_ble_eq_true rfl) rfl ?_
  refine kk_aln hG (x := (some p0)) rfl rfl ?_
  refine kk_gp hG (c := 8) (k := 0) (a := p0) rfl rfl rfl rfl (fun v4 => ?_)
  refine kk_aln hG (x := (some b1)) rfl rfl ?_
  refine kk_ob (fun b5 eb5 => ?_)
  subst eb5
  refine kk_cv hG 0 rfl rfl (Nat.le_of_ble_eq_true rfl) (by decide) rfl (st' := []) rfl (cats_le (Nat.le_of_ble_eq_true rfl)) (fun _ hw h k => kk_rcv h.1 (kc_Pr_copy base sa hw h.2 k)) (fun sr6 cr6 dr6 => ?_)
  refine kk_aln hG (x := (some p0)) rfl rfl ?_
  refine kk_gp hG (c := 8) (k := 1) (a := p0) rfl rfl rfl rfl (fun v7 => ?_)
  refine kk_aln hG (x := (some b1)) rfl rfl ?_
  refine kk_gi hG (c := 5) (k := 0) (a := b1) rfl rfl rfl rfl (fun v8 => ?_)
  refine kks hG rfl rfl ?_
  refine kk_ob (fun b9 eb9 => ?_)
  subst eb9
  refine kk_cv hG 0 rfl rfl (Nat.le_of_ble_eq_true rfl) (by decide) rfl (st' := []) rfl (cats_le (Nat.le_of_ble_eq_true rfl)) (fun _ hw h k => kk_rcv h.1 (kc_Pr_setZero base sa hw h.2 k)) (fun sr10 cr10 dr10 => ?_)
  refine kk_aln hG (x := (some p0)) rfl rfl ?_
  refine kk_gp hG (c := 8) (k := 2) (a := p0) rfl rfl rfl rfl (fun v11 => ?_)
  refine kk_aln hG (x := (some b1)) rfl rfl ?_
  refine kk_gi hG (c := 5) (k := 0) (a := b1) rfl rfl rfl rfl (fun v12 => ?_)
  refine kks hG rfl rfl ?_
  refine kk_ob (fun b13 eb13 => ?_)
  subst eb13
  refine kk_cv hG 0 rfl rfl (Nat.le_of_ble_eq_true rfl) (by decide) rfl (st' := []) rfl (cats_le (Nat.le_of_ble_eq_true rfl)) (fun _ hw h k => kk_rcv h.1 (kc_Pr_setZero base sa hw h.2 k)) (fun sr14 cr14 dr14 => ?_)
  refine kk_aln hG (x := (some p0)) rfl rfl ?_
  refine kk_ic hG rfl cc_i2 ?_
  refine kk_pi hG (c := 8) (k := 3) (a := p0) rfl rfl rfl rfl (fun s15 => ?_)
  refine kk_aln hG (x := (some p0)) rfl rfl ?_
  refine kks hG rfl rfl ?_
  refine kk_pp hG (c := 8) (k := 6) (a := p0) (v := none) rfl rfl rfl rfl rfl (fun s16 => ?_)
  refine kk_aln hG (x := (some p0)) rfl rfl ?_
  refine kks hG rfl rfl ?_
  refine kk_pi hG (c := 8) (k := 5) (a := p0) rfl rfl rfl rfl (fun s17 => ?_)
  refine kk_aln hG (x := (some p0)) rfl rfl ?_
  refine kks hG rfl rfl ?_
  refine kk_pi hG (c := 8) (k := 4) (a := p0) rfl rfl rfl rfl (fun s18 => ?_)
  refine kk_aln hG (x := (some p0)) rfl rfl ?_
  refine kk_ic hG rfl cc_i0 ?_
  refine kk_pz hG (c := 8) (k := 7) (a := p0) rfl rfl rfl rfl (fun s19 => ?_)
  exact kk_rv hG rfl rfl k
def C_Ta_add_s98 (sa : Nat → Nat) (p0 : Nat) (p1 : Option Nat) (p2 : Int32) (p3 : Int32) (a4 : Int32) (a5 : Option Nat) (a6 : Int32) (s : cS) (kc ks : Nat) (Q : (Option Nat → cS → Nat → Nat → Prop)) (P98 : (Int32 → cS → Nat → Nat → Prop)) : Prop := if a4 < a6 then (ob (gP s 10 0 p0) (fun v8 => (ob (gP s 10 0 p0) (fun v9 => (ob v9 (fun b10 => (ob (rQ s b10 (a6 - (1 : Int32))) (fun v11 => (ob v8 (fun b12 => (ob (wQ s b12 a6 v11) (fun s13 => ((P98 (a6 + ((-1) : Int32)) s13 kc ks)))))))))))))) else ((ob (gP s 10 0 p0) (fun v1 => (ob v1 (fun b2 => (ob (wQ s b2 a4 a5) (fun s3 => (ob (gI s3 10 1 p0) (fun v4 => (ob (pI s3 10 1 p0 (v4 + (1 : Int32))) (fun s5 => (ob a5 (fun b6 => (okO s5 8 b6 ∧ C_Ro_begin sa b6 p1 p2 p3 s5 kc ks (fun sr7 cr7 dr7 => (Q (some b6) sr7 cr7 dr7))))))))))))))))
def C_Ta_add_b98 (sa : Nat → Nat) (p0 : Nat) (p1 : Option Nat) (p2 : Int32) (p3 : Int32) (a4 : Int32) (a5 : Option Nat) (a6 : Int32) (s : cS) (kc ks : Nat) (Q : (Option Nat → cS → Nat → Nat → Prop)) : Prop := ∀ P98 : (Int32 → cS → Nat → Nat → Prop), (∀ (a6 : Int32) (s : cS) (kc ks : Nat), C_Ta_add_s98 sa p0 p1 p2 p3 a4 a5 a6 s kc ks Q P98 → P98 a6 s kc ks) → P98 a6 s kc ks
def C_Ta_add_b92 (sa : Nat → Nat) (p0 : Nat) (p1 : Option Nat) (p2 : Int32) (p3 : Int32) (a4 : Int32) (a5 : Option Nat) (s : cS) (kc ks : Nat) (Q : (Option Nat → cS → Nat → Nat → Prop)) : Prop := ob (gI s 10 1 p0) (fun v1 => ((C_Ta_add_b98 sa p0 p1 p2 p3 a4 a5 v1 s kc ks Q)))
def C_Ta_add_b67 (sa : Nat → Nat) (p0 : Nat) (p1 : Option Nat) (p2 : Int32) (p3 : Int32) (a4 : Int32) (s : cS) (kc ks : Nat) (Q : (Option Nat → cS → Nat → Nat → Prop)) : Prop := ob (gP s 10 0 p0) (fun v1 => (ob (gI s 10 1 p0) (fun v2 => (ob v1 (fun b3 => (ob (rQ s b3 v2) (fun v4 => (if v4 = none then (nwO sa s kc ks 8 11 (fun q5 sq5 cq5 dq5 => (okO sq5 8 q5 ∧ C_Ro_init sa q5 sq5 cq5 dq5 (fun sr6 cr6 dr6 => ((C_Ta_add_b92 sa p0 p1 p2 p3 a4 (some q5) sr6 cr6 dr6 Q)))))) else ((C_Ta_add_b92 sa p0 p1 p2 p3 a4 v4 s kc ks Q))))))))))
def C_Ta_add_s34 (sa : Nat → Nat) (p0 : Nat) (p1 : Option Nat) (p2 : Int32) (p3 : Int32) (a4 : Int32) (a5 : Option Nat) (a6 : Int32) (s : cS) (kc ks : Nat) (Q : (Option Nat → cS → Nat → Nat → Prop)) (P34 : (Int32 → cS → Nat → Nat → Prop)) : Prop := ob (gI s 10 1 p0) (fun v1 => (if a6 < v1 then (ob (gP s 10 0 p0) (fun v3 => (ob v3 (fun b4 => (ob (rQ s b4 a6) (fun v5 => (ob a5 (fun b6 => (ob (wQ s b6 a6 v5) (fun s7 => ((P34 (a6 + (1 : Int32)) s7 kc ks)))))))))))) else ((ob (pP s 10 0 p0 a5) (fun s2 => ((C_Ta_add_b67 sa p0 p1 p2 p3 a4 s2 kc ks Q)))))))
def C_Ta_add_b34 (sa : Nat → Nat) (p0 : Nat) (p1 : Option Nat) (p2 : Int32) (p3 : Int32) (a4 : Int32) (a5 : Option Nat) (a6 : Int32) (s : cS) (kc ks : Nat) (Q : (Option Nat → cS → Nat → Nat → Prop)) : Prop := ∀ P34 : (Int32 → cS → Nat → Nat → Prop), (∀ (a6 : Int32) (s : cS) (kc ks : Nat), C_Ta_add_s34 sa p0 p1 p2 p3 a4 a5 a6 s kc ks Q P34 → P34 a6 s kc ks) → P34 a6 s kc ks
def C_Ta_add (sa : Nat → Nat) (p0 : Nat) (p1 : Option Nat) (p2 : Int32) (p3 : Int32) (s : cS) (kc ks : Nat) (Q : (Option Nat → cS → Nat → Nat → Prop)) : Prop := okO s 10 p0 ∧ C_Ta_placeOf sa p0 p1 s kc ks (fun r1 sr1 cr1 dr1 => (ob (gI sr1 10 1 p0) (fun v2 => (ob (gP sr1 10 0 p0) (fun v3 => (ob v3 (fun b4 => (ob (aL sr1 b4) (fun v5 => (if v2 < v5 then ((C_Ta_add_b67 sa p0 p1 p2 p3 r1 sr1 cr1 dr1 Q)) else (ob (gP sr1 10 0 p0) (fun v6 => (ob v6 (fun b7 => (ob (aL sr1 b7) (fun v8 => (nwQ sa sr1 cr1 dr1 "RoutingField$Route" (v8 * (2 : Int32)) (fun q9 sq9 cq9 dq9 => ((C_Ta_add_b34 sa p0 p1 p2 p3 r1 (some q9) (0 : Int32) sq9 cq9 dq9 Q))))))))))))))))))))
set_option maxRecDepth 100000 in
set_option maxHeartbeats 4000000 in
theorem kc_Ta_add (base : Nat) (sa : Nat → Nat) {R : pmM} {s : cS} {kc ks : Nat} {Rt : pmR} {p0 : Nat} {p1 : Option Nat} {p2 : Int32} {p3 : Int32} {Q : (Option Nat → cS → Nat → Nat → Prop)} (hw : cW sa R base s) (h : C_Ta_add sa p0 p1 p2 p3 s kc ks Q) (k : ∀ r s' kc' ks', cW sa R base s' → Q r s' kc' ks' → Rt (some (va_rf r)) (cM R s') kc' ks') : kP_Ta_add base sa [.ref p0, va_rf p1, .int p2, .int p3] (cM R s) kc ks Rt := by
  refine ⟨by cases p1 <;> exact Nat.le_of_ble_eq_true rfl, fun G hG => ?_⟩
  have eL : lv_args 0 [.ref p0, va_rf p1, .int p2, .int p3] = [(0, va_rf (some p0)), (1, va_rf p1), (2, .int p2), (3, .int p3)] := by cases p1 <;> rfl
  rw [eL]
  have b98 : ∀ (a4 : Int32) (a5 : Option Nat) (a6 : Int32) (s : cS) (kc ks : Nat), KK sa R base G 98 [(0, va_rf (some p0)), (1, va_rf p1), (2, .int p2), (3, .int p3), (4, .int a4), (5, va_rf a5), (6, .int a6)] [] s kc ks (C_Ta_add_b98 sa p0 p1 p2 p3 a4 a5 a6 s kc ks Q) := by
    intro a4 a5
    have H : ∀ (P98 : (Int32 → cS → Nat → Nat → Prop)) (hP98 : ∀ (a6 : Int32) (s : cS) (kc ks : Nat), P98 a6 s kc ks → cW sa R base s → G 98 [(0, va_rf (some p0)), (1, va_rf p1), (2, .int p2), (3, .int p3), (4, .int a4), (5, va_rf a5), (6, .int a6)] [] (cM R s) kc ks) (a6 : Int32) (s : cS) (kc ks : Nat), KK sa R base G 98 [(0, va_rf (some p0)), (1, va_rf p1), (2, .int p2), (3, .int p3), (4, .int a4), (5, va_rf a5), (6, .int a6)] [] s kc ks (C_Ta_add_s98 sa p0 p1 p2 p3 a4 a5 a6 s kc ks Q P98) := by
      intro P98 hP98
      intro a6 s kc ks
      refine kks hG rfl rfl ?_
      refine kks hG rfl rfl ?_
      refine kk_ile hG (t := 127) rfl rfl ?_ ?_
      · refine kk_aln hG (x := (some p0)) rfl rfl ?_
        refine kk_gp hG (c := 10) (k := 0) (a := p0) rfl rfl rfl rfl (fun v1 => ?_)
        refine kks hG rfl rfl ?_
        refine kk_al hG (x := a5) rfl rfl ?_
        refine kk_ob (fun b2 eb2 => ?_)
        subst eb2
        refine kk_aas hG (a := b2) (x := a5) rfl (fun s3 => ?_)
        refine kk_aln hG (x := (some p0)) rfl rfl ?_
        refine kk_dup hG (x := (some p0)) rfl ?_
        refine kk_gi hG (c := 10) (k := 1) (a := p0) rfl rfl rfl rfl (fun v4 => ?_)
        refine kk_ic hG rfl cc_i1 ?_
        refine kks hG rfl rfl ?_
        refine kk_pi hG (c := 10) (k := 1) (a := p0) rfl rfl rfl rfl (fun s5 => ?_)
        refine kk_al hG (x := a5) rfl rfl ?_
        refine kk_aln hG (x := p1) rfl rfl ?_
        refine kks hG rfl rfl ?_
        refine kks hG rfl rfl ?_
        refine kk_ob (fun b6 eb6 => ?_)
        subst eb6
        refine kk_cv hG 0 rfl rfl (Nat.le_of_ble_eq_true rfl) (by decide) rfl (st' := []) rfl (cats_le (Nat.le_of_ble_eq_true rfl)) (fun _ hw h k => kk_rcv h.1 (kc_Ro_begin base sa hw h.2 k)) (fun sr7 cr7 dr7 => ?_)
        refine kk_al hG (x := (some b6)) rfl rfl ?_
        exact kk_ra hG (x := (some b6)) rfl rfl rfl k
      refine kk_aln hG (x := (some p0)) rfl rfl ?_
      refine kk_gp hG (c := 10) (k := 0) (a := p0) rfl rfl rfl rfl (fun v8 => ?_)
      refine kks hG rfl rfl ?_
      refine kk_aln hG (x := (some p0)) rfl rfl ?_
      refine kk_gp hG (c := 10) (k := 0) (a := p0) rfl rfl rfl rfl (fun v9 => ?_)
      refine kks hG rfl rfl ?_
      refine kk_ic hG rfl cc_i1 ?_
      refine kks hG rfl rfl ?_
      refine kk_ob (fun b10 eb10 => ?_)
      subst eb10
      refine kk_aa hG (a := b10) rfl (fun v11 => ?_)
      refine kk_ob (fun b12 eb12 => ?_)
      subst eb12
      refine kk_aas hG (a := b12) (x := v11) rfl (fun s13 => ?_)
      refine kk_inc hG (L' := [(6, .int (a6 + ((-1) : Int32))), (0, va_rf (some p0)), (1, va_rf p1), (2, .int p2), (3, .int p3), (4, .int a4), (5, va_rf a5)]) rfl (Nat.le_of_ble_eq_true rfl) rfl cc_im1 (by cases a5 <;> rfl) ?_
      refine kk_go hG (t := 98) rfl rfl ?_
      exact kk_wl hG [1, 2, 3, 4, 5, 6, 0] rfl (fun hw h => hP98 _ _ _ _ h hw)
    exact fun a6 s kc ks hw h => h (fun a6 s kc ks => cW sa R base s → G 98 [(0, va_rf (some p0)), (1, va_rf p1), (2, .int p2), (3, .int p3), (4, .int a4), (5, va_rf a5), (6, .int a6)] [] (cM R s) kc ks) (fun a6 s kc ks hs hw => H _ (fun _ _ _ _ hp hw => hp hw) a6 s kc ks hw hs) hw
  have b92 : ∀ (a4 : Int32) (a5 : Option Nat) (s : cS) (kc ks : Nat), KK sa R base G 92 [(0, va_rf (some p0)), (1, va_rf p1), (2, .int p2), (3, .int p3), (4, .int a4), (5, va_rf a5)] [] s kc ks (C_Ta_add_b92 sa p0 p1 p2 p3 a4 a5 s kc ks Q) := by
    intro a4 a5 s kc ks
    refine kk_aln hG (x := (some p0)) rfl rfl ?_
    refine kk_gi hG (c := 10) (k := 1) (a := p0) rfl rfl rfl rfl (fun v1 => ?_)
    refine kk_st hG (L' := [(6, .int v1), (0, va_rf (some p0)), (1, va_rf p1), (2, .int p2), (3, .int p3), (4, .int a4), (5, va_rf a5)]) rfl rfl (Nat.le_of_ble_eq_true rfl) (by cases a5 <;> rfl) ?_
    exact kk_wl hG [1, 2, 3, 4, 5, 6, 0] rfl (b98 _ _ _ _ _ _)
  have b67 : ∀ (a4 : Int32) (s : cS) (kc ks : Nat), KK sa R base G 67 [(0, va_rf (some p0)), (1, va_rf p1), (2, .int p2), (3, .int p3), (4, .int a4)] [] s kc ks (C_Ta_add_b67 sa p0 p1 p2 p3 a4 s kc ks Q) := by
    intro a4 s kc ks
    refine kk_aln hG (x := (some p0)) rfl rfl ?_
    refine kk_gp hG (c := 10) (k := 0) (a := p0) rfl rfl rfl rfl (fun v1 => ?_)
    refine kk_aln hG (x := (some p0)) rfl rfl ?_
    refine kk_gi hG (c := 10) (k := 1) (a := p0) rfl rfl rfl rfl (fun v2 => ?_)
    refine kk_ob (fun b3 eb3 => ?_)
    subst eb3
    refine kk_aa hG (a := b3) rfl (fun v4 => ?_)
    refine kk_as hG (x := v4) (L' := [(5, va_rf v4), (0, va_rf (some p0)), (1, va_rf p1), (2, .int p2), (3, .int p3), (4, .int a4)]) rfl (Nat.le_of_ble_eq_true rfl) rfl ?_
    refine kk_al hG (x := v4) rfl rfl ?_
    refine kk_nnl hG (x := v4) (t := 92) rfl rfl ?_ ?_
    · exact kk_wl hG [1, 2, 3, 4, 5, 0] rfl (b92 _ _ _ _ _)
    refine kk_new hG (c := 8) (n := 11) rfl rfl rfl rfl (fun q5 sq5 cq5 dq5 => ?_)
    refine kk_dup hG (x := (some q5)) rfl ?_
    refine kk_cv hG 1 rfl rfl (Nat.le_of_ble_eq_true rfl) (by decide) rfl (st' := [va_rf (some q5)]) rfl (cats_le (Nat.le_of_ble_eq_true rfl)) (fun _ hw h k => kk_rcv h.1 (kc_Ro_init base sa hw h.2 k)) (fun sr6 cr6 dr6 => ?_)
    refine kk_as hG (x := (some q5)) (L' := [(5, va_rf (some q5)), (0, va_rf (some p0)), (1, va_rf p1), (2, .int p2), (3, .int p3), (4, .int a4)]) rfl (Nat.le_of_ble_eq_true rfl) rfl ?_
    exact kk_wl hG [1, 2, 3, 4, 5, 0] rfl (b92 _ _ _ _ _)
  have b34 : ∀ (a4 : Int32) (a5 : Option Nat) (a6 : Int32) (s : cS) (kc ks : Nat), KK sa R base G 34 [(0, va_rf (some p0)), (1, va_rf p1), (2, .int p2), (3, .int p3), (4, .int a4), (5, va_rf a5), (6, .int a6)] [] s kc ks (C_Ta_add_b34 sa p0 p1 p2 p3 a4 a5 a6 s kc ks Q) := by
    intro a4 a5
    have H : ∀ (P34 : (Int32 → cS → Nat → Nat → Prop)) (hP34 : ∀ (a6 : Int32) (s : cS) (kc ks : Nat), P34 a6 s kc ks → cW sa R base s → G 34 [(0, va_rf (some p0)), (1, va_rf p1), (2, .int p2), (3, .int p3), (4, .int a4), (5, va_rf a5), (6, .int a6)] [] (cM R s) kc ks) (a6 : Int32) (s : cS) (kc ks : Nat), KK sa R base G 34 [(0, va_rf (some p0)), (1, va_rf p1), (2, .int p2), (3, .int p3), (4, .int a4), (5, va_rf a5), (6, .int a6)] [] s kc ks (C_Ta_add_s34 sa p0 p1 p2 p3 a4 a5 a6 s kc ks Q P34) := by
      intro P34 hP34
      intro a6 s kc ks
      refine kks hG rfl rfl ?_
      refine kk_aln hG (x := (some p0)) rfl rfl ?_
      refine kk_gi hG (c := 10) (k := 1) (a := p0) rfl rfl rfl rfl (fun v1 => ?_)
      refine kk_ige hG (t := 61) rfl rfl ?_ ?_
      · refine kk_aln hG (x := (some p0)) rfl rfl ?_
        refine kk_al hG (x := a5) rfl rfl ?_
        refine kk_pp hG (c := 10) (k := 0) (a := p0) (v := a5) rfl rfl rfl rfl rfl (fun s2 => ?_)
        exact kk_wl hG [0, 1, 2, 3, 4] rfl (b67 _ _ _ _)
      refine kk_al hG (x := a5) rfl rfl ?_
      refine kks hG rfl rfl ?_
      refine kk_aln hG (x := (some p0)) rfl rfl ?_
      refine kk_gp hG (c := 10) (k := 0) (a := p0) rfl rfl rfl rfl (fun v3 => ?_)
      refine kks hG rfl rfl ?_
      refine kk_ob (fun b4 eb4 => ?_)
      subst eb4
      refine kk_aa hG (a := b4) rfl (fun v5 => ?_)
      refine kk_ob (fun b6 eb6 => ?_)
      subst eb6
      refine kk_aas hG (a := b6) (x := v5) rfl (fun s7 => ?_)
      refine kk_inc hG (L' := [(6, .int (a6 + (1 : Int32))), (0, va_rf (some p0)), (1, va_rf p1), (2, .int p2), (3, .int p3), (4, .int a4), (5, va_rf (some b6))]) rfl (Nat.le_of_ble_eq_true rfl) rfl cc_i1 rfl ?_
      refine kk_go hG (t := 34) rfl rfl ?_
      exact kk_wl hG [1, 2, 3, 4, 5, 6, 0] rfl (fun hw h => hP34 _ _ _ _ h hw)
    exact fun a6 s kc ks hw h => h (fun a6 s kc ks => cW sa R base s → G 34 [(0, va_rf (some p0)), (1, va_rf p1), (2, .int p2), (3, .int p3), (4, .int a4), (5, va_rf a5), (6, .int a6)] [] (cM R s) kc ks) (fun a6 s kc ks hs hw => H _ (fun _ _ _ _ hp hw => hp hw) a6 s kc ks hw hs) hw
  refine (show KK sa R base G 0 [(0, va_rf (some p0)), (1, va_rf p1), (2, .int p2), (3, .int p3)] [] s kc ks (C_Ta_add sa p0 p1 p2 p3 s kc ks Q) from ?_) hw h
  refine kk_aln hG (x := (some p0)) rfl rfl ?_
  refine kk_aln hG (x := p1) rfl rfl ?_
  refine kk_cx (w := .int) hG 0 rfl rfl (Nat.le_of_ble_eq_true rfl) (by decide) rfl (st' := []) rfl (cats_le (Nat.le_of_ble_eq_true rfl)) (fun _ hw h k => kk_rcv h.1 (kc_Ta_placeOf base sa hw h.2 k)) (fun r1 sr1 cr1 dr1 => ?_)
  refine kk_st hG (L' := [(4, .int r1), (0, va_rf (some p0)), (1, va_rf p1), (2, .int p2), (3, .int p3)]) rfl rfl (Nat.le_of_ble_eq_true rfl) rfl ?_
  refine kk_aln hG (x := (some p0)) rfl rfl ?_
  refine kk_gi hG (c := 10) (k := 1) (a := p0) rfl rfl rfl rfl (fun v2 => ?_)
  refine kk_aln hG (x := (some p0)) rfl rfl ?_
  refine kk_gp hG (c := 10) (k := 0) (a := p0) rfl rfl rfl rfl (fun v3 => ?_)
  refine kk_ob (fun b4 eb4 => ?_)
  subst eb4
  refine kk_len hG (a := b4) rfl (fun v5 => ?_)
  refine kk_ilt hG (t := 67) rfl rfl ?_ ?_
  · exact kk_wl hG [1, 2, 3, 4, 0] rfl (b67 _ _ _ _)
  refine kk_aln hG (x := (some p0)) rfl rfl ?_
  refine kk_gp hG (c := 10) (k := 0) (a := p0) rfl rfl rfl rfl (fun v6 => ?_)
  refine kk_ob (fun b7 eb7 => ?_)
  subst eb7
  refine kk_len hG (a := b7) rfl (fun v8 => ?_)
  refine kk_ic hG rfl cc_i2 ?_
  refine kks hG rfl rfl ?_
  refine kk_naq hG (C := "RoutingField$Route") rfl rfl (fun q9 sq9 cq9 dq9 => ?_)
  refine kk_as hG (x := (some q9)) (L' := [(5, va_rf (some q9)), (4, .int r1), (0, va_rf (some p0)), (1, va_rf p1), (2, .int p2), (3, .int p3)]) rfl (Nat.le_of_ble_eq_true rfl) rfl ?_
  refine kk_ic hG rfl cc_i0 ?_
  refine kk_st hG (L' := [(6, .int (0 : Int32)), (5, va_rf (some q9)), (4, .int r1), (0, va_rf (some p0)), (1, va_rf p1), (2, .int p2), (3, .int p3)]) rfl rfl (Nat.le_of_ble_eq_true rfl) rfl ?_
  exact kk_wl hG [3, 4, 5, 6, 2, 1, 0] rfl (b34 _ _ _ _ _ _)
def C_Pr_isZero (sa : Nat → Nat) (p0 : Nat) (s : cS) (kc ks : Nat) (Q : (Int32 → cS → Nat → Nat → Prop)) : Prop := ob (gJ s 5 1 p0) (fun v1 => (if v1 = (0 : Int64) then (ob (gJ s 5 2 p0) (fun v2 => (if v2 = (0 : Int64) then (Q (1 : Int32) s kc ks) else (Q (0 : Int32) s kc ks)))) else (Q (0 : Int32) s kc ks)))
set_option maxRecDepth 100000 in
set_option maxHeartbeats 4000000 in
theorem kc_Pr_isZero (base : Nat) (sa : Nat → Nat) {R : pmM} {s : cS} {kc ks : Nat} {Rt : pmR} {p0 : Nat} {Q : (Int32 → cS → Nat → Nat → Prop)} (hw : cW sa R base s) (h : C_Pr_isZero sa p0 s kc ks Q) (k : ∀ r s' kc' ks', cW sa R base s' → Q r s' kc' ks' → Rt (some (.int r)) (cM R s') kc' ks') : kP_Pr_isZero base sa [.ref p0] (cM R s) kc ks Rt := by
  refine ⟨Nat.le_of_ble_eq_true rfl, fun G hG => ?_⟩
  refine (show KK sa R base G 0 [(0, va_rf (some p0))] [] s kc ks (C_Pr_isZero sa p0 s kc ks Q) from ?_) hw h
  refine kk_aln hG (x := (some p0)) rfl rfl ?_
  refine kk_gj hG (c := 5) (k := 1) (a := p0) rfl rfl rfl rfl (fun v1 => ?_)
  refine kk_lc hG (c := 0) (v := 0) rfl rfl ?_
  refine kks hG rfl rfl ?_
  refine kk_lne hG (t := 22) rfl rfl ?_ ?_
  · refine kk_ic hG rfl cc_i0 ?_
    exact kk_ri hG rfl rfl rfl k
  refine kk_aln hG (x := (some p0)) rfl rfl ?_
  refine kk_gj hG (c := 5) (k := 2) (a := p0) rfl rfl rfl rfl (fun v2 => ?_)
  refine kk_lc hG (c := 0) (v := 0) rfl rfl ?_
  refine kks hG rfl rfl ?_
  refine kk_lne hG (t := 22) rfl rfl ?_ ?_
  · refine kk_ic hG rfl cc_i0 ?_
    exact kk_ri hG rfl rfl rfl k
  refine kk_ic hG rfl cc_i1 ?_
  refine kk_go hG (t := 23) rfl rfl ?_
  exact kk_ri hG rfl rfl rfl k
def C_Ro_becomeOwn_b45 (sa : Nat → Nat) (p0 : Nat) (p1 : Int32) (p2 : Int32) (p3 : Int32) (p4 : Option Nat) (u0 : Int32) (s : cS) (kc ks : Nat) (Q : (Int32 → cS → Nat → Nat → Prop)) : Prop := ob (pI s 8 3 p0 p1) (fun s1 => (ob (pI s1 8 4 p0 p2) (fun s2 => (ob (pI s2 8 5 p0 p3) (fun s3 => (ob (pP s3 8 6 p0 p4) (fun s4 => (ob (gP s4 8 1 p0) (fun v5 => (ob (gP s4 8 0 p0) (fun v6 => (ob v6 (fun b7 => (ob (gI s4 5 0 b7) (fun v8 => (ob (gP s4 8 0 p0) (fun v9 => (ob v9 (fun b10 => (ob (gI s4 5 0 b10) (fun v11 => (C_Pr_bitsOf sa v11 s4 kc ks (fun r12 sr12 cr12 dr12 => (ob v5 (fun b13 => (okO sr12 5 b13 ∧ C_Pr_setZero sa b13 v8 r12 sr12 cr12 dr12 (fun sr14 cr14 dr14 => ((u0 = 0 ∨ u0 = 1) ∧ Q u0 sr14 cr14 dr14))))))))))))))))))))))))))))
def C_Ro_becomeOwn (sa : Nat → Nat) (p0 : Nat) (p1 : Int32) (p2 : Int32) (p3 : Int32) (p4 : Option Nat) (s : cS) (kc ks : Nat) (Q : (Int32 → cS → Nat → Nat → Prop)) : Prop := ob (gI s 8 4 p0) (fun v1 => (if v1 = p2 then (ob (gP s 8 6 p0) (fun v2 => (if v2 = p4 then (ob (gP s 8 1 p0) (fun v3 => (ob v3 (fun b4 => (okO s 5 b4 ∧ C_Pr_isZero sa b4 s kc ks (fun r5 sr5 cr5 dr5 => (if r5 = 0 then ((C_Ro_becomeOwn_b45 sa p0 p1 p2 p3 p4 (1 : Int32) sr5 cr5 dr5 Q)) else (if p1 = (1 : Int32) then (ob (gI sr5 8 5 p0) (fun v6 => (if v6 = p3 then ((C_Ro_becomeOwn_b45 sa p0 p1 p2 p3 p4 (0 : Int32) sr5 cr5 dr5 Q)) else ((C_Ro_becomeOwn_b45 sa p0 p1 p2 p3 p4 (1 : Int32) sr5 cr5 dr5 Q))))) else ((C_Ro_becomeOwn_b45 sa p0 p1 p2 p3 p4 (0 : Int32) sr5 cr5 dr5 Q)))))))))) else ((C_Ro_becomeOwn_b45 sa p0 p1 p2 p3 p4 (1 : Int32) s kc ks Q))))) else ((C_Ro_becomeOwn_b45 sa p0 p1 p2 p3 p4 (1 : Int32) s kc ks Q))))
set_option maxRecDepth 100000 in
set_option maxHeartbeats 4000000 in
theorem kc_Ro_becomeOwn (base : Nat) (sa : Nat → Nat) {R : pmM} {s : cS} {kc ks : Nat} {Rt : pmR} {p0 : Nat} {p1 : Int32} {p2 : Int32} {p3 : Int32} {p4 : Option Nat} {Q : (Int32 → cS → Nat → Nat → Prop)} (hw : cW sa R base s) (h : C_Ro_becomeOwn sa p0 p1 p2 p3 p4 s kc ks Q) (k : ∀ r s' kc' ks', cW sa R base s' → Q r s' kc' ks' → Rt (some (.int r)) (cM R s') kc' ks') : kP_Ro_becomeOwn base sa [.ref p0, .int p1, .int p2, .int p3, va_rf p4] (cM R s) kc ks Rt := by
  refine ⟨by cases p4 <;> exact Nat.le_of_ble_eq_true rfl, fun G hG => ?_⟩
  have eL : lv_args 0 [.ref p0, .int p1, .int p2, .int p3, va_rf p4] = [(0, va_rf (some p0)), (1, .int p1), (2, .int p2), (3, .int p3), (4, va_rf p4)] := by cases p4 <;> rfl
  rw [eL]
  have b45 : ∀ (u0 : Int32) (s : cS) (kc ks : Nat), KK sa R base G 45 [(0, va_rf (some p0)), (1, .int p1), (2, .int p2), (3, .int p3), (4, va_rf p4)] [.int u0] s kc ks (C_Ro_becomeOwn_b45 sa p0 p1 p2 p3 p4 u0 s kc ks Q) := by
    intro u0 s kc ks
    refine kk_st hG (L' := [(5, .int u0), (0, va_rf (some p0)), (1, .int p1), (2, .int p2), (3, .int p3), (4, va_rf p4)]) rfl rfl (Nat.le_of_ble_eq_true rfl) (by cases p4 <;> rfl) ?_
    refine kk_aln hG (x := (some p0)) rfl rfl ?_
    refine kks hG rfl rfl ?_
    refine kk_pi hG (c := 8) (k := 3) (a := p0) rfl rfl rfl rfl (fun s1 => ?_)
    refine kk_aln hG (x := (some p0)) rfl rfl ?_
    refine kks hG rfl rfl ?_
    refine kk_pi hG (c := 8) (k := 4) (a := p0) rfl rfl rfl rfl (fun s2 => ?_)
    refine kk_aln hG (x := (some p0)) rfl rfl ?_
    refine kks hG rfl rfl ?_
    refine kk_pi hG (c := 8) (k := 5) (a := p0) rfl rfl rfl rfl (fun s3 => ?_)
    refine kk_aln hG (x := (some p0)) rfl rfl ?_
    refine kk_al hG (x := p4) rfl rfl ?_
    refine kk_pp hG (c := 8) (k := 6) (a := p0) (v := p4) rfl rfl rfl rfl rfl (fun s4 => ?_)
    refine kk_aln hG (x := (some p0)) rfl rfl ?_
    refine kk_gp hG (c := 8) (k := 1) (a := p0) rfl rfl rfl rfl (fun v5 => ?_)
    refine kk_aln hG (x := (some p0)) rfl rfl ?_
    refine kk_gp hG (c := 8) (k := 0) (a := p0) rfl rfl rfl rfl (fun v6 => ?_)
    refine kk_ob (fun b7 eb7 => ?_)
    subst eb7
    refine kk_gi hG (c := 5) (k := 0) (a := b7) rfl rfl rfl rfl (fun v8 => ?_)
    refine kk_aln hG (x := (some p0)) rfl rfl ?_
    refine kk_gp hG (c := 8) (k := 0) (a := p0) rfl rfl rfl rfl (fun v9 => ?_)
    refine kk_ob (fun b10 eb10 => ?_)
    subst eb10
    refine kk_gi hG (c := 5) (k := 0) (a := b10) rfl rfl rfl rfl (fun v11 => ?_)
    refine kk_cx (w := .int) hG 2 rfl rfl (Nat.le_of_ble_eq_true rfl) (by decide) rfl (st' := [.int v8, va_rf v5]) rfl (cats_le (Nat.le_of_ble_eq_true rfl)) (fun _ hw h k => kc_Pr_bitsOf base sa hw h k) (fun r12 sr12 cr12 dr12 => ?_)
    refine kk_ob (fun b13 eb13 => ?_)
    subst eb13
    refine kk_cv hG 0 rfl rfl (Nat.le_of_ble_eq_true rfl) (by decide) rfl (st' := []) rfl (cats_le (Nat.le_of_ble_eq_true rfl)) (fun _ hw h k => kk_rcv h.1 (kc_Pr_setZero base sa hw h.2 k)) (fun sr14 cr14 dr14 => ?_)
    refine kks hG rfl rfl ?_
    exact kk_rz hG rfl rfl k
  refine (show KK sa R base G 0 [(0, va_rf (some p0)), (1, .int p1), (2, .int p2), (3, .int p3), (4, va_rf p4)] [] s kc ks (C_Ro_becomeOwn sa p0 p1 p2 p3 p4 s kc ks Q) from ?_) hw h
  refine kk_aln hG (x := (some p0)) rfl rfl ?_
  refine kk_gi hG (c := 8) (k := 4) (a := p0) rfl rfl rfl rfl (fun v1 => ?_)
  refine kks hG rfl rfl ?_
  refine kk_ine hG (t := 40) rfl rfl ?_ ?_
  · refine kk_ic hG rfl cc_i1 ?_
    refine kk_go hG (t := 45) rfl rfl ?_
    exact kk_wl hG [0, 1, 2, 3, 4] rfl (b45 _ _ _ _)
  refine kk_aln hG (x := (some p0)) rfl rfl ?_
  refine kk_gp hG (c := 8) (k := 6) (a := p0) rfl rfl rfl rfl (fun v2 => ?_)
  refine kk_al hG (x := p4) rfl rfl ?_
  refine kk_ane hG (x := v2) (y := p4) (t := 40) rfl rfl ?_ ?_
  · refine kk_ic hG rfl cc_i1 ?_
    refine kk_go hG (t := 45) rfl rfl ?_
    exact kk_wl hG [0, 1, 2, 3, 4] rfl (b45 _ _ _ _)
  refine kk_aln hG (x := (some p0)) rfl rfl ?_
  refine kk_gp hG (c := 8) (k := 1) (a := p0) rfl rfl rfl rfl (fun v3 => ?_)
  refine kk_ob (fun b4 eb4 => ?_)
  subst eb4
  refine kk_cx (w := .int) hG 0 rfl rfl (Nat.le_of_ble_eq_true rfl) (by decide) rfl (st' := []) rfl (cats_le (Nat.le_of_ble_eq_true rfl)) (fun _ hw h k => kk_rcv h.1 (kc_Pr_isZero base sa hw h.2 k)) (fun r5 sr5 cr5 dr5 => ?_)
  refine kk_zeq hG (t := 40) rfl rfl ?_ ?_
  · refine kk_ic hG rfl cc_i1 ?_
    refine kk_go hG (t := 45) rfl rfl ?_
    exact kk_wl hG [0, 1, 2, 3, 4] rfl (b45 _ _ _ _)
  refine kks hG rfl rfl ?_
  refine kk_ic hG rfl cc_i1 ?_
  refine kk_ine hG (t := 44) rfl rfl ?_ ?_
  · refine kk_ic hG rfl cc_i0 ?_
    exact kk_wl hG [0, 1, 2, 3, 4] rfl (b45 _ _ _ _)
  refine kk_aln hG (x := (some p0)) rfl rfl ?_
  refine kk_gi hG (c := 8) (k := 5) (a := p0) rfl rfl rfl rfl (fun v6 => ?_)
  refine kks hG rfl rfl ?_
  refine kk_ieq hG (t := 44) rfl rfl ?_ ?_
  · refine kk_ic hG rfl cc_i0 ?_
    exact kk_wl hG [0, 1, 2, 3, 4] rfl (b45 _ _ _ _)
  refine kk_ic hG rfl cc_i1 ?_
  refine kk_go hG (t := 45) rfl rfl ?_
  exact kk_wl hG [0, 1, 2, 3, 4] rfl (b45 _ _ _ _)
def C_Rr_settle_b119 (sa : Nat → Nat) (p0 : Nat) (a4 : Option Nat) (a5 : Int32) (s : cS) (kc ks : Nat) (Q : (cS → Nat → Nat → Prop)) : Prop := if a5 = 0 then (Q s kc ks) else (okO s 9 p0 ∧ C_Rr_markChanged sa p0 a4 s kc ks (fun sr1 cr1 dr1 => (Q sr1 cr1 dr1)))
def C_Rr_settle_b74 (sa : Nat → Nat) (p0 : Nat) (a2 : Option Nat) (a3 : Option Nat) (a4 : Option Nat) (s : cS) (kc ks : Nat) (Q : (cS → Nat → Nat → Prop)) : Prop := if a2 = none then (if a3 = none then ((C_Rr_settle_b119 sa p0 a4 (0 : Int32) s kc ks Q)) else (ob a3 (fun b1 => (ob (gI s 8 4 b1) (fun v2 => (ob (gI s 8 5 b1) (fun v3 => (ob a4 (fun b4 => (okO s 8 b4 ∧ C_Ro_becomeOwn sa b4 (1 : Int32) v2 v3 none s kc ks (fun r5 sr5 cr5 dr5 => ((C_Rr_settle_b119 sa p0 (some b4) r5 sr5 cr5 dr5 Q))))))))))))) else (ob a2 (fun b6 => (ob (gI s 4 3 b6) (fun v7 => (ob a4 (fun b8 => (okO s 8 b8 ∧ C_Ro_becomeOwn sa b8 (0 : Int32) v7 (0 : Int32) (some b6) s kc ks (fun r9 sr9 cr9 dr9 => ((C_Rr_settle_b119 sa p0 (some b8) r9 sr9 cr9 dr9 Q))))))))))
def C_Rr_settle_b56 (sa : Nat → Nat) (p0 : Nat) (p1 : Option Nat) (a2 : Option Nat) (a3 : Option Nat) (a4 : Option Nat) (s : cS) (kc ks : Nat) (Q : (cS → Nat → Nat → Prop)) : Prop := if a4 = none then (ob (gP s 9 6 p0) (fun v1 => (ob v1 (fun b2 => (okO s 10 b2 ∧ C_Ta_add sa b2 p1 (0 : Int32) (16 : Int32) s kc ks (fun r3 sr3 cr3 dr3 => ((C_Rr_settle_b74 sa p0 a2 a3 r3 sr3 cr3 dr3 Q)))))))) else ((C_Rr_settle_b74 sa p0 a2 a3 a4 s kc ks Q))
def C_Rr_settle_b30 (sa : Nat → Nat) (p0 : Nat) (p1 : Option Nat) (a2 : Option Nat) (u0 : Option Nat) (s : cS) (kc ks : Nat) (Q : (cS → Nat → Nat → Prop)) : Prop := ob (gP s 9 6 p0) (fun v1 => (ob v1 (fun b2 => (okO s 10 b2 ∧ C_Ta_find sa b2 p1 s kc ks (fun r3 sr3 cr3 dr3 => (if a2 = none then (if u0 = none then (okO sr3 9 p0 ∧ C_Rr_lapse sa p0 r3 sr3 cr3 dr3 (fun sr4 cr4 dr4 => (Q sr4 cr4 dr4))) else ((C_Rr_settle_b56 sa p0 p1 a2 u0 r3 sr3 cr3 dr3 Q))) else ((C_Rr_settle_b56 sa p0 p1 a2 u0 r3 sr3 cr3 dr3 Q))))))))
def C_Rr_settle (sa : Nat → Nat) (p0 : Nat) (p1 : Option Nat) (s : cS) (kc ks : Nat) (Q : (cS → Nat → Nat → Prop)) : Prop := ob (gI s 9 3 p0) (fun v1 => (if v1 = 0 then (Q s kc ks) else (okO s 9 p0 ∧ C_Rr_portOf sa p0 p1 s kc ks (fun r2 sr2 cr2 dr2 => (if r2 = none then (ob (gP sr2 9 7 p0) (fun v3 => (ob v3 (fun b4 => (okO sr2 10 b4 ∧ C_Ta_find sa b4 p1 sr2 cr2 dr2 (fun r5 sr5 cr5 dr5 => ((C_Rr_settle_b30 sa p0 p1 r2 r5 sr5 cr5 dr5 Q)))))))) else ((C_Rr_settle_b30 sa p0 p1 r2 none sr2 cr2 dr2 Q)))))))
set_option maxRecDepth 100000 in
set_option maxHeartbeats 4000000 in
theorem kc_Rr_settle (base : Nat) (sa : Nat → Nat) {R : pmM} {s : cS} {kc ks : Nat} {Rt : pmR} {p0 : Nat} {p1 : Option Nat} {Q : (cS → Nat → Nat → Prop)} (hw : cW sa R base s) (h : C_Rr_settle sa p0 p1 s kc ks Q) (k : ∀ s' kc' ks', cW sa R base s' → Q s' kc' ks' → Rt none (cM R s') kc' ks') : kP_Rr_settle base sa [.ref p0, va_rf p1] (cM R s) kc ks Rt := by
  refine ⟨by cases p1 <;> exact Nat.le_of_ble_eq_true rfl, fun G hG => ?_⟩
  have eL : lv_args 0 [.ref p0, va_rf p1] = [(0, va_rf (some p0)), (1, va_rf p1)] := by cases p1 <;> rfl
  rw [eL]
  have b119 : ∀ (a4 : Option Nat) (a5 : Int32) (s : cS) (kc ks : Nat), KK sa R base G 119 [(0, va_rf (some p0)), (4, va_rf a4), (5, .int a5)] [] s kc ks (C_Rr_settle_b119 sa p0 a4 a5 s kc ks Q) := by
    intro a4 a5 s kc ks
    refine kks hG rfl rfl ?_
    refine kk_zeq hG (t := 130) rfl rfl ?_ ?_
    · exact kk_rv hG rfl rfl k
    refine kk_aln hG (x := (some p0)) rfl rfl ?_
    refine kk_al hG (x := a4) rfl rfl ?_
    refine kk_cv hG 0 rfl rfl (Nat.le_of_ble_eq_true rfl) (by decide) rfl (st' := []) rfl (cats_le (Nat.le_of_ble_eq_true rfl)) (fun _ hw h k => kk_rcv h.1 (kc_Rr_markChanged base sa hw h.2 k)) (fun sr1 cr1 dr1 => ?_)
    exact kk_rv hG rfl rfl k
  have b74 : ∀ (a2 : Option Nat) (a3 : Option Nat) (a4 : Option Nat) (s : cS) (kc ks : Nat), KK sa R base G 74 [(0, va_rf (some p0)), (2, va_rf a2), (3, va_rf a3), (4, va_rf a4)] [] s kc ks (C_Rr_settle_b74 sa p0 a2 a3 a4 s kc ks Q) := by
    intro a2 a3 a4 s kc ks
    refine kk_ic hG rfl cc_i0 ?_
    refine kk_st hG (L' := [(5, .int (0 : Int32)), (0, va_rf (some p0)), (2, va_rf a2), (3, va_rf a3), (4, va_rf a4)]) rfl rfl (Nat.le_of_ble_eq_true rfl) (by cases a4 <;> rfl) ?_
    refine kk_aln hG (x := a2) rfl rfl ?_
    refine kk_nul hG (x := a2) (t := 98) rfl rfl ?_ ?_
    · refine kk_aln hG (x := a3) rfl rfl ?_
      refine kk_nul hG (x := a3) (t := 119) rfl rfl ?_ ?_
      · exact kk_wl hG [1, 4, 0] rfl (b119 _ _ _ _ _)
      refine kk_al hG (x := a4) rfl rfl ?_
      refine kk_ic hG rfl cc_i1 ?_
      refine kk_aln hG (x := a3) rfl rfl ?_
      refine kk_ob (fun b1 eb1 => ?_)
      subst eb1
      refine kk_gi hG (c := 8) (k := 4) (a := b1) rfl rfl rfl rfl (fun v2 => ?_)
      refine kk_aln hG (x := (some b1)) rfl rfl ?_
      refine kk_gi hG (c := 8) (k := 5) (a := b1) rfl rfl rfl rfl (fun v3 => ?_)
      refine kks hG rfl rfl ?_
      refine kk_ob (fun b4 eb4 => ?_)
      subst eb4
      refine kk_cx (w := .int) hG 0 rfl rfl (Nat.le_of_ble_eq_true rfl) (by decide) rfl (st' := []) rfl (cats_le (Nat.le_of_ble_eq_true rfl)) (fun _ hw h k => kk_rcv h.1 (kc_Ro_becomeOwn base sa hw h.2 k)) (fun r5 sr5 cr5 dr5 => ?_)
      refine kk_st hG (L' := [(5, .int r5), (0, va_rf (some p0)), (2, va_rf a2), (3, va_rf (some b1)), (4, va_rf (some b4))]) rfl rfl (Nat.le_of_ble_eq_true rfl) rfl ?_
      exact kk_wl hG [1, 4, 0] rfl (b119 _ _ _ _ _)
    refine kk_al hG (x := a4) rfl rfl ?_
    refine kk_ic hG rfl cc_i0 ?_
    refine kk_aln hG (x := a2) rfl rfl ?_
    refine kk_ob (fun b6 eb6 => ?_)
    subst eb6
    refine kk_gi hG (c := 4) (k := 3) (a := b6) rfl rfl rfl rfl (fun v7 => ?_)
    refine kk_ic hG rfl cc_i0 ?_
    refine kk_aln hG (x := (some b6)) rfl rfl ?_
    refine kk_ob (fun b8 eb8 => ?_)
    subst eb8
    refine kk_cx (w := .int) hG 0 rfl rfl (Nat.le_of_ble_eq_true rfl) (by decide) rfl (st' := []) rfl (cats_le (Nat.le_of_ble_eq_true rfl)) (fun _ hw h k => kk_rcv h.1 (kc_Ro_becomeOwn base sa hw h.2 k)) (fun r9 sr9 cr9 dr9 => ?_)
    refine kk_st hG (L' := [(5, .int r9), (0, va_rf (some p0)), (2, va_rf (some b6)), (3, va_rf a3), (4, va_rf (some b8))]) rfl rfl (Nat.le_of_ble_eq_true rfl) rfl ?_
    refine kk_go hG (t := 119) rfl rfl ?_
    exact kk_wl hG [1, 4, 0] rfl (b119 _ _ _ _ _)
  have b56 : ∀ (a2 : Option Nat) (a3 : Option Nat) (a4 : Option Nat) (s : cS) (kc ks : Nat), KK sa R base G 56 [(0, va_rf (some p0)), (1, va_rf p1), (2, va_rf a2), (3, va_rf a3), (4, va_rf a4)] [] s kc ks (C_Rr_settle_b56 sa p0 p1 a2 a3 a4 s kc ks Q) := by
    intro a2 a3 a4 s kc ks
    refine kk_al hG (x := a4) rfl rfl ?_
    refine kk_nnl hG (x := a4) (t := 74) rfl rfl ?_ ?_
    · exact kk_wl hG [0, 2, 3, 4] rfl (b74 _ _ _ _ _ _)
    refine kk_aln hG (x := (some p0)) rfl rfl ?_
    refine kk_gp hG (c := 9) (k := 6) (a := p0) rfl rfl rfl rfl (fun v1 => ?_)
    refine kk_aln hG (x := p1) rfl rfl ?_
    refine kk_ic hG rfl cc_i0 ?_
    refine kk_bi hG rfl cc_b16 ?_
    refine kk_ob (fun b2 eb2 => ?_)
    subst eb2
    refine kk_cx (w := va_rf) hG 0 rfl rfl (Nat.le_of_ble_eq_true rfl) (by decide) rfl (st' := []) rfl (cats_le (Nat.le_of_ble_eq_true rfl)) (fun _ hw h k => kk_rcv h.1 (kc_Ta_add base sa hw h.2 k)) (fun r3 sr3 cr3 dr3 => ?_)
    refine kk_as hG (x := r3) (L' := [(4, va_rf r3), (0, va_rf (some p0)), (1, va_rf p1), (2, va_rf a2), (3, va_rf a3)]) rfl (Nat.le_of_ble_eq_true rfl) (by cases a3 <;> rfl) ?_
    exact kk_wl hG [1, 3, 4, 0] rfl (b74 _ _ _ _ _ _)
  have b30 : ∀ (a2 : Option Nat) (u0 : Option Nat) (s : cS) (kc ks : Nat), KK sa R base G 30 [(0, va_rf (some p0)), (1, va_rf p1), (2, va_rf a2)] [va_rf u0] s kc ks (C_Rr_settle_b30 sa p0 p1 a2 u0 s kc ks Q) := by
    intro a2 u0 s kc ks
    refine kk_asn hG (x := u0) (L' := [(3, va_rf u0), (0, va_rf (some p0)), (1, va_rf p1), (2, va_rf a2)]) rfl (Nat.le_of_ble_eq_true rfl) (by cases a2 <;> rfl) ?_
    refine kk_aln hG (x := (some p0)) rfl rfl ?_
    refine kk_gp hG (c := 9) (k := 6) (a := p0) rfl rfl rfl rfl (fun v1 => ?_)
    refine kk_aln hG (x := p1) rfl rfl ?_
    refine kk_ob (fun b2 eb2 => ?_)
    subst eb2
    refine kk_cx (w := va_rf) hG 0 rfl rfl (Nat.le_of_ble_eq_true rfl) (by decide) rfl (st' := []) rfl (cats_le (Nat.le_of_ble_eq_true rfl)) (fun _ hw h k => kk_rcv h.1 (kc_Ta_find base sa hw h.2 k)) (fun r3 sr3 cr3 dr3 => ?_)
    refine kk_as hG (x := r3) (L' := [(4, va_rf r3), (3, va_rf u0), (0, va_rf (some p0)), (1, va_rf p1), (2, va_rf a2)]) rfl (Nat.le_of_ble_eq_true rfl) (by cases u0 <;> rfl) ?_
    refine kk_aln hG (x := a2) rfl rfl ?_
    refine kk_nnl hG (x := a2) (t := 56) rfl rfl ?_ ?_
    · exact kk_wl hG [2, 3, 4, 1, 0] rfl (b56 _ _ _ _ _ _)
    refine kk_aln hG (x := u0) rfl rfl ?_
    refine kk_nnl hG (x := u0) (t := 56) rfl rfl ?_ ?_
    · exact kk_wl hG [2, 3, 4, 1, 0] rfl (b56 _ _ _ _ _ _)
    refine kk_aln hG (x := (some p0)) rfl rfl ?_
    refine kk_al hG (x := r3) rfl rfl ?_
    refine kk_cv hG 0 rfl rfl (Nat.le_of_ble_eq_true rfl) (by decide) rfl (st' := []) rfl (cats_le (Nat.le_of_ble_eq_true rfl)) (fun _ hw h k => kk_rcv h.1 (kc_Rr_lapse base sa hw h.2 k)) (fun sr4 cr4 dr4 => ?_)
    exact kk_rv hG rfl rfl k
  refine (show KK sa R base G 0 [(0, va_rf (some p0)), (1, va_rf p1)] [] s kc ks (C_Rr_settle sa p0 p1 s kc ks Q) from ?_) hw h
  refine kk_aln hG (x := (some p0)) rfl rfl ?_
  refine kk_gi hG (c := 9) (k := 3) (a := p0) rfl rfl rfl rfl (fun v1 => ?_)
  refine kk_zne hG (t := 8) rfl rfl ?_ ?_
  · refine kk_aln hG (x := (some p0)) rfl rfl ?_
    refine kk_aln hG (x := p1) rfl rfl ?_
    refine kk_cx (w := va_rf) hG 0 rfl rfl (Nat.le_of_ble_eq_true rfl) (by decide) rfl (st' := []) rfl (cats_le (Nat.le_of_ble_eq_true rfl)) (fun _ hw h k => kk_rcv h.1 (kc_Rr_portOf base sa hw h.2 k)) (fun r2 sr2 cr2 dr2 => ?_)
    refine kk_asn hG (x := r2) (L' := [(2, va_rf r2), (0, va_rf (some p0)), (1, va_rf p1)]) rfl (Nat.le_of_ble_eq_true rfl) (by cases p1 <;> rfl) ?_
    refine kk_aln hG (x := r2) rfl rfl ?_
    refine kk_nnl hG (x := r2) (t := 29) rfl rfl ?_ ?_
    · refine kks hG rfl rfl ?_
      exact kk_wl hG [1, 2, 0] rfl (b30 _ _ _ _ _)
    refine kk_aln hG (x := (some p0)) rfl rfl ?_
    refine kk_gp hG (c := 9) (k := 7) (a := p0) rfl rfl rfl rfl (fun v3 => ?_)
    refine kk_aln hG (x := p1) rfl rfl ?_
    refine kk_ob (fun b4 eb4 => ?_)
    subst eb4
    refine kk_cx (w := va_rf) hG 0 rfl rfl (Nat.le_of_ble_eq_true rfl) (by decide) rfl (st' := []) rfl (cats_le (Nat.le_of_ble_eq_true rfl)) (fun _ hw h k => kk_rcv h.1 (kc_Ta_find base sa hw h.2 k)) (fun r5 sr5 cr5 dr5 => ?_)
    refine kk_go hG (t := 30) rfl rfl ?_
    exact kk_wl hG [1, 2, 0] rfl (b30 _ _ _ _ _)
  exact kk_rv hG rfl rfl k
def C_Rr_settlePort_b50 (sa : Nat → Nat) (p0 : Nat) (p1 : Option Nat) (a2 : Int32) (s : cS) (kc ks : Nat) (Q : (cS → Nat → Nat → Prop)) (P2 : (Int32 → cS → Nat → Nat → Prop)) : Prop := (P2 (a2 + (2 : Int32)) s kc ks)
def C_Rr_settlePort_s2 (sa : Nat → Nat) (p0 : Nat) (p1 : Option Nat) (a2 : Int32) (s : cS) (kc ks : Nat) (Q : (cS → Nat → Nat → Prop)) (P2 : (Int32 → cS → Nat → Nat → Prop)) : Prop := if (6 : Int32) < a2 then ((Q s kc ks)) else (ob p1 (fun b1 => (okO s 4 b1 ∧ C_Po_addressOf sa b1 a2 s kc ks (fun r2 sr2 cr2 dr2 => (if r2 = none then ((C_Rr_settlePort_b50 sa p0 (some b1) a2 sr2 cr2 dr2 Q P2)) else (ob (gP sr2 9 0 p0) (fun v3 => (ob v3 (fun b4 => (ob (gP sr2 11 18 b4) (fun v5 => (ob v5 (fun b6 => (okO sr2 5 b6 ∧ C_Pr_copy sa b6 r2 sr2 cr2 dr2 (fun sr7 cr7 dr7 => (ob (gP sr7 9 0 p0) (fun v8 => (ob v8 (fun b9 => (ob (gP sr7 11 18 b9) (fun v10 => (ob v10 (fun b11 => (okO sr7 5 b11 ∧ C_Pr_dropBitsBehind sa b11 sr7 cr7 dr7 (fun sr12 cr12 dr12 => (ob (gP sr12 9 0 p0) (fun v13 => (ob v13 (fun b14 => (ob (gP sr12 11 18 b14) (fun v15 => (okO sr12 9 p0 ∧ C_Rr_settle sa p0 v15 sr12 cr12 dr12 (fun sr16 cr16 dr16 => ((C_Rr_settlePort_b50 sa p0 (some b1) a2 sr16 cr16 dr16 Q P2)))))))))))))))))))))))))))))))))))
def C_Rr_settlePort_b2 (sa : Nat → Nat) (p0 : Nat) (p1 : Option Nat) (a2 : Int32) (s : cS) (kc ks : Nat) (Q : (cS → Nat → Nat → Prop)) : Prop := ∀ P2 : (Int32 → cS → Nat → Nat → Prop), (∀ (a2 : Int32) (s : cS) (kc ks : Nat), C_Rr_settlePort_s2 sa p0 p1 a2 s kc ks Q P2 → P2 a2 s kc ks) → P2 a2 s kc ks
def C_Rr_settlePort (sa : Nat → Nat) (p0 : Nat) (p1 : Option Nat) (s : cS) (kc ks : Nat) (Q : (cS → Nat → Nat → Prop)) : Prop := (C_Rr_settlePort_b2 sa p0 p1 (4 : Int32) s kc ks Q)
set_option maxRecDepth 100000 in
set_option maxHeartbeats 4000000 in
theorem kc_Rr_settlePort (base : Nat) (sa : Nat → Nat) {R : pmM} {s : cS} {kc ks : Nat} {Rt : pmR} {p0 : Nat} {p1 : Option Nat} {Q : (cS → Nat → Nat → Prop)} (hw : cW sa R base s) (h : C_Rr_settlePort sa p0 p1 s kc ks Q) (k : ∀ s' kc' ks', cW sa R base s' → Q s' kc' ks' → Rt none (cM R s') kc' ks') : kP_Rr_settlePort base sa [.ref p0, va_rf p1] (cM R s) kc ks Rt := by
  refine ⟨by cases p1 <;> exact Nat.le_of_ble_eq_true rfl, fun G hG => ?_⟩
  have eL : lv_args 0 [.ref p0, va_rf p1] = [(0, va_rf (some p0)), (1, va_rf p1)] := by cases p1 <;> rfl
  rw [eL]
  have b2 : ∀ (a2 : Int32) (s : cS) (kc ks : Nat), KK sa R base G 2 [(0, va_rf (some p0)), (1, va_rf p1), (2, .int a2)] [] s kc ks (C_Rr_settlePort_b2 sa p0 p1 a2 s kc ks Q) := by
    have H : ∀ (P2 : (Int32 → cS → Nat → Nat → Prop)) (hP2 : ∀ (a2 : Int32) (s : cS) (kc ks : Nat), P2 a2 s kc ks → cW sa R base s → G 2 [(0, va_rf (some p0)), (1, va_rf p1), (2, .int a2)] [] (cM R s) kc ks) (a2 : Int32) (s : cS) (kc ks : Nat), KK sa R base G 2 [(0, va_rf (some p0)), (1, va_rf p1), (2, .int a2)] [] s kc ks (C_Rr_settlePort_s2 sa p0 p1 a2 s kc ks Q P2) := by
      intro P2 hP2
      have b50 : ∀ (a2 : Int32) (s : cS) (kc ks : Nat), KK sa R base G 50 [(0, va_rf (some p0)), (1, va_rf p1), (2, .int a2)] [] s kc ks (C_Rr_settlePort_b50 sa p0 p1 a2 s kc ks Q P2) := by
        intro a2 s kc ks
        refine kk_inc hG (L' := [(2, .int (a2 + (2 : Int32))), (0, va_rf (some p0)), (1, va_rf p1)]) rfl (Nat.le_of_ble_eq_true rfl) rfl cc_i2 (by cases p1 <;> rfl) ?_
        refine kk_go hG (t := 2) rfl rfl ?_
        exact kk_wl hG [1, 2, 0] rfl (fun hw h => hP2 _ _ _ _ h hw)
      intro a2 s kc ks
      refine kks hG rfl rfl ?_
      refine kk_bi hG rfl cc_b6 ?_
      refine kk_igt hG (t := 56) rfl rfl ?_ ?_
      · exact kk_rv hG rfl rfl k
      refine kk_aln hG (x := p1) rfl rfl ?_
      refine kks hG rfl rfl ?_
      refine kk_ob (fun b1 eb1 => ?_)
      subst eb1
      refine kk_cx (w := va_rf) hG 0 rfl rfl (Nat.le_of_ble_eq_true rfl) (by decide) rfl (st' := []) rfl (cats_le (Nat.le_of_ble_eq_true rfl)) (fun _ hw h k => kk_rcv h.1 (kc_Po_addressOf base sa hw h.2 k)) (fun r2 sr2 cr2 dr2 => ?_)
      refine kk_asn hG (x := r2) (L' := [(3, va_rf r2), (0, va_rf (some p0)), (1, va_rf (some b1)), (2, .int a2)]) rfl (Nat.le_of_ble_eq_true rfl) rfl ?_
      refine kk_aln hG (x := r2) rfl rfl ?_
      refine kk_nul hG (x := r2) (t := 50) rfl rfl ?_ ?_
      · exact kk_wl hG [1, 2, 3] rfl (b50 _ _ _ _)
      refine kk_aln hG (x := (some p0)) rfl rfl ?_
      refine kk_gp hG (c := 9) (k := 0) (a := p0) rfl rfl rfl rfl (fun v3 => ?_)
      refine kk_ob (fun b4 eb4 => ?_)
      subst eb4
      refine kk_gp hG (c := 11) (k := 18) (a := b4) rfl rfl rfl rfl (fun v5 => ?_)
      refine kk_aln hG (x := r2) rfl rfl ?_
      refine kk_ob (fun b6 eb6 => ?_)
      subst eb6
      refine kk_cv hG 0 rfl rfl (Nat.le_of_ble_eq_true rfl) (by decide) rfl (st' := []) rfl (cats_le (Nat.le_of_ble_eq_true rfl)) (fun _ hw h k => kk_rcv h.1 (kc_Pr_copy base sa hw h.2 k)) (fun sr7 cr7 dr7 => ?_)
      refine kk_aln hG (x := (some p0)) rfl rfl ?_
      refine kk_gp hG (c := 9) (k := 0) (a := p0) rfl rfl rfl rfl (fun v8 => ?_)
      refine kk_ob (fun b9 eb9 => ?_)
      subst eb9
      refine kk_gp hG (c := 11) (k := 18) (a := b9) rfl rfl rfl rfl (fun v10 => ?_)
      refine kk_ob (fun b11 eb11 => ?_)
      subst eb11
      refine kk_cv hG 0 rfl rfl (Nat.le_of_ble_eq_true rfl) (by decide) rfl (st' := []) rfl (cats_le (Nat.le_of_ble_eq_true rfl)) (fun _ hw h k => kk_rcv h.1 (kc_Pr_dropBitsBehind base sa hw h.2 k)) (fun sr12 cr12 dr12 => ?_)
      refine kk_aln hG (x := (some p0)) rfl rfl ?_
      refine kk_aln hG (x := (some p0)) rfl rfl ?_
      refine kk_gp hG (c := 9) (k := 0) (a := p0) rfl rfl rfl rfl (fun v13 => ?_)
      refine kk_ob (fun b14 eb14 => ?_)
      subst eb14
      refine kk_gp hG (c := 11) (k := 18) (a := b14) rfl rfl rfl rfl (fun v15 => ?_)
      refine kk_cv hG 0 rfl rfl (Nat.le_of_ble_eq_true rfl) (by decide) rfl (st' := []) rfl (cats_le (Nat.le_of_ble_eq_true rfl)) (fun _ hw h k => kk_rcv h.1 (kc_Rr_settle base sa hw h.2 k)) (fun sr16 cr16 dr16 => ?_)
      exact kk_wl hG [1, 2, 3] rfl (b50 _ _ _ _)
    exact fun a2 s kc ks hw h => h (fun a2 s kc ks => cW sa R base s → G 2 [(0, va_rf (some p0)), (1, va_rf p1), (2, .int a2)] [] (cM R s) kc ks) (fun a2 s kc ks hs hw => H _ (fun _ _ _ _ hp hw => hp hw) a2 s kc ks hw hs) hw
  refine (show KK sa R base G 0 [(0, va_rf (some p0)), (1, va_rf p1)] [] s kc ks (C_Rr_settlePort sa p0 p1 s kc ks Q) from ?_) hw h
  refine kk_ic hG rfl cc_i4 ?_
  refine kk_st hG (L' := [(2, .int (4 : Int32)), (0, va_rf (some p0)), (1, va_rf p1)]) rfl rfl (Nat.le_of_ble_eq_true rfl) (by cases p1 <;> rfl) ?_
  exact kk_wl hG [1, 2, 0] rfl (b2 _ _ _ _)
def C_Ch_bearer_b96 (sa : Nat → Nat) (p0 : Nat) (p1 : Int32) (a2 : Int32) (a3 : Int32) (s : cS) (kc ks : Nat) (Q : (Int32 → cS → Nat → Nat → Prop)) (P4 : (Int32 → Int32 → cS → Nat → Nat → Prop)) : Prop := (P4 a2 (a3 + (1 : Int32)) s kc ks)
def C_Ch_bearer_b94 (sa : Nat → Nat) (p0 : Nat) (p1 : Int32) (a3 : Int32) (s : cS) (kc ks : Nat) (Q : (Int32 → cS → Nat → Nat → Prop)) (P4 : (Int32 → Int32 → cS → Nat → Nat → Prop)) : Prop := (C_Ch_bearer_b96 sa p0 p1 a3 a3 s kc ks Q P4)
def C_Ch_bearer_b37 (sa : Nat → Nat) (p0 : Nat) (p1 : Int32) (a2 : Int32) (a3 : Int32) (u0 : Int32) (s : cS) (kc ks : Nat) (Q : (Int32 → cS → Nat → Nat → Prop)) (P4 : (Int32 → Int32 → cS → Nat → Nat → Prop)) : Prop := if u0 = 0 then ((C_Ch_bearer_b96 sa p0 p1 a2 a3 s kc ks Q P4)) else (if a2 = ((-1) : Int32) then ((C_Ch_bearer_b94 sa p0 p1 a3 s kc ks Q P4)) else (ob (gP s 1 5 p0) (fun v1 => (ob v1 (fun b2 => (ob (rE s .int b2 a3) (fun v3 => (ob (gP s 1 5 p0) (fun v4 => (ob v4 (fun b5 => (ob (rE s .int b5 a2) (fun v6 => (if v6 < v3 then ((C_Ch_bearer_b94 sa p0 p1 a3 s kc ks Q P4)) else (ob (gP s 1 5 p0) (fun v7 => (ob v7 (fun b8 => (ob (rE s .int b8 a3) (fun v9 => (ob (gP s 1 5 p0) (fun v10 => (ob v10 (fun b11 => (ob (rE s .int b11 a2) (fun v12 => (if v9 = v12 then (ob (gP s 1 3 p0) (fun v13 => (ob v13 (fun b14 => (ob (rE s .int b14 a3) (fun v15 => (ob (gP s 1 3 p0) (fun v16 => (ob v16 (fun b17 => (ob (rE s .int b17 a2) (fun v18 => (if v18 < v15 then ((C_Ch_bearer_b94 sa p0 p1 a3 s kc ks Q P4)) else ((C_Ch_bearer_b96 sa p0 p1 a2 a3 s kc ks Q P4))))))))))))))) else ((C_Ch_bearer_b96 sa p0 p1 a2 a3 s kc ks Q P4)))))))))))))))))))))))))))))
def C_Ch_bearer_s4 (sa : Nat → Nat) (p0 : Nat) (p1 : Int32) (a2 : Int32) (a3 : Int32) (s : cS) (kc ks : Nat) (Q : (Int32 → cS → Nat → Nat → Prop)) (P4 : (Int32 → Int32 → cS → Nat → Nat → Prop)) : Prop := ob (gI s 1 2 p0) (fun v1 => (if a3 < v1 then (ob (gP s 1 5 p0) (fun v2 => (ob v2 (fun b3 => (ob (rE s .int b3 a3) (fun v4 => (if p1 < v4 then ((C_Ch_bearer_b37 sa p0 p1 a2 a3 (0 : Int32) s kc ks Q P4)) else (ob (gP s 1 6 p0) (fun v5 => (ob v5 (fun b6 => (ob (rE s .int b6 a3) (fun v7 => (if v7 < p1 then ((C_Ch_bearer_b37 sa p0 p1 a2 a3 (0 : Int32) s kc ks Q P4)) else ((C_Ch_bearer_b37 sa p0 p1 a2 a3 (1 : Int32) s kc ks Q P4)))))))))))))))) else ((Q a2 s kc ks))))
def C_Ch_bearer_b4 (sa : Nat → Nat) (p0 : Nat) (p1 : Int32) (a2 : Int32) (a3 : Int32) (s : cS) (kc ks : Nat) (Q : (Int32 → cS → Nat → Nat → Prop)) : Prop := ∀ P4 : (Int32 → Int32 → cS → Nat → Nat → Prop), (∀ (a2 : Int32) (a3 : Int32) (s : cS) (kc ks : Nat), C_Ch_bearer_s4 sa p0 p1 a2 a3 s kc ks Q P4 → P4 a2 a3 s kc ks) → P4 a2 a3 s kc ks
def C_Ch_bearer (sa : Nat → Nat) (p0 : Nat) (p1 : Int32) (s : cS) (kc ks : Nat) (Q : (Int32 → cS → Nat → Nat → Prop)) : Prop := (C_Ch_bearer_b4 sa p0 p1 ((-1) : Int32) (0 : Int32) s kc ks Q)
set_option maxRecDepth 100000 in
set_option maxHeartbeats 4000000 in
theorem kc_Ch_bearer (base : Nat) (sa : Nat → Nat) {R : pmM} {s : cS} {kc ks : Nat} {Rt : pmR} {p0 : Nat} {p1 : Int32} {Q : (Int32 → cS → Nat → Nat → Prop)} (hw : cW sa R base s) (h : C_Ch_bearer sa p0 p1 s kc ks Q) (k : ∀ r s' kc' ks', cW sa R base s' → Q r s' kc' ks' → Rt (some (.int r)) (cM R s') kc' ks') : kP_Ch_bearer base sa [.ref p0, .int p1] (cM R s) kc ks Rt := by
  refine ⟨Nat.le_of_ble_eq_true rfl, fun G hG => ?_⟩
  have b4 : ∀ (a2 : Int32) (a3 : Int32) (s : cS) (kc ks : Nat), KK sa R base G 4 [(0, va_rf (some p0)), (1, .int p1), (2, .int a2), (3, .int a3)] [] s kc ks (C_Ch_bearer_b4 sa p0 p1 a2 a3 s kc ks Q) := by
    have H : ∀ (P4 : (Int32 → Int32 → cS → Nat → Nat → Prop)) (hP4 : ∀ (a2 : Int32) (a3 : Int32) (s : cS) (kc ks : Nat), P4 a2 a3 s kc ks → cW sa R base s → G 4 [(0, va_rf (some p0)), (1, .int p1), (2, .int a2), (3, .int a3)] [] (cM R s) kc ks) (a2 : Int32) (a3 : Int32) (s : cS) (kc ks : Nat), KK sa R base G 4 [(0, va_rf (some p0)), (1, .int p1), (2, .int a2), (3, .int a3)] [] s kc ks (C_Ch_bearer_s4 sa p0 p1 a2 a3 s kc ks Q P4) := by
      intro P4 hP4
      have b96 : ∀ (a2 : Int32) (a3 : Int32) (s : cS) (kc ks : Nat), KK sa R base G 96 [(0, va_rf (some p0)), (1, .int p1), (2, .int a2), (3, .int a3)] [] s kc ks (C_Ch_bearer_b96 sa p0 p1 a2 a3 s kc ks Q P4) := by
        intro a2 a3 s kc ks
        refine kk_inc hG (L' := [(3, .int (a3 + (1 : Int32))), (0, va_rf (some p0)), (1, .int p1), (2, .int a2)]) rfl (Nat.le_of_ble_eq_true rfl) rfl cc_i1 rfl ?_
        refine kk_go hG (t := 4) rfl rfl ?_
        exact kk_wl hG [1, 2, 3, 0] rfl (fun hw h => hP4 _ _ _ _ _ h hw)
      have b94 : ∀ (a3 : Int32) (s : cS) (kc ks : Nat), KK sa R base G 94 [(0, va_rf (some p0)), (1, .int p1), (3, .int a3)] [] s kc ks (C_Ch_bearer_b94 sa p0 p1 a3 s kc ks Q P4) := by
        intro a3 s kc ks
        refine kks hG rfl rfl ?_
        refine kk_st hG (L' := [(2, .int a3), (0, va_rf (some p0)), (1, .int p1), (3, .int a3)]) rfl rfl (Nat.le_of_ble_eq_true rfl) rfl ?_
        exact kk_wl hG [1, 2, 0, 3] rfl (b96 _ _ _ _ _)
      have b37 : ∀ (a2 : Int32) (a3 : Int32) (u0 : Int32) (s : cS) (kc ks : Nat), KK sa R base G 37 [(0, va_rf (some p0)), (1, .int p1), (2, .int a2), (3, .int a3)] [.int u0] s kc ks (C_Ch_bearer_b37 sa p0 p1 a2 a3 u0 s kc ks Q P4) := by
        intro a2 a3 u0 s kc ks
        refine kk_st hG (L' := [(4, .int u0), (0, va_rf (some p0)), (1, .int p1), (2, .int a2), (3, .int a3)]) rfl rfl (Nat.le_of_ble_eq_true rfl) rfl ?_
        refine kks hG rfl rfl ?_
        refine kk_zeq hG (t := 96) rfl rfl ?_ ?_
        · exact kk_wl hG [1, 2, 3, 4] rfl (b96 _ _ _ _ _)
        refine kks hG rfl rfl ?_
        refine kk_ic hG rfl cc_im1 ?_
        refine kk_ieq hG (t := 94) rfl rfl ?_ ?_
        · exact kk_wl hG [1, 2, 4] rfl (b94 _ _ _ _)
        refine kk_aln hG (x := (some p0)) rfl rfl ?_
        refine kk_gp hG (c := 1) (k := 5) (a := p0) rfl rfl rfl rfl (fun v1 => ?_)
        refine kks hG rfl rfl ?_
        refine kk_ob (fun b2 eb2 => ?_)
        subst eb2
        refine kk_ia hG (a := b2) rfl (fun v3 => ?_)
        refine kk_aln hG (x := (some p0)) rfl rfl ?_
        refine kk_gp hG (c := 1) (k := 5) (a := p0) rfl rfl rfl rfl (fun v4 => ?_)
        refine kks hG rfl rfl ?_
        refine kk_ob (fun b5 eb5 => ?_)
        subst eb5
        refine kk_ia hG (a := b5) rfl (fun v6 => ?_)
        refine kk_igt hG (t := 94) rfl rfl ?_ ?_
        · exact kk_wl hG [1, 2, 4] rfl (b94 _ _ _ _)
        refine kk_aln hG (x := (some p0)) rfl rfl ?_
        refine kk_gp hG (c := 1) (k := 5) (a := p0) rfl rfl rfl rfl (fun v7 => ?_)
        refine kks hG rfl rfl ?_
        refine kk_ob (fun b8 eb8 => ?_)
        subst eb8
        refine kk_ia hG (a := b8) rfl (fun v9 => ?_)
        refine kk_aln hG (x := (some p0)) rfl rfl ?_
        refine kk_gp hG (c := 1) (k := 5) (a := p0) rfl rfl rfl rfl (fun v10 => ?_)
        refine kks hG rfl rfl ?_
        refine kk_ob (fun b11 eb11 => ?_)
        subst eb11
        refine kk_ia hG (a := b11) rfl (fun v12 => ?_)
        refine kk_ine hG (t := 96) rfl rfl ?_ ?_
        · exact kk_wl hG [1, 2, 3, 4] rfl (b96 _ _ _ _ _)
        refine kk_aln hG (x := (some p0)) rfl rfl ?_
        refine kk_gp hG (c := 1) (k := 3) (a := p0) rfl rfl rfl rfl (fun v13 => ?_)
        refine kks hG rfl rfl ?_
        refine kk_ob (fun b14 eb14 => ?_)
        subst eb14
        refine kk_ia hG (a := b14) rfl (fun v15 => ?_)
        refine kk_aln hG (x := (some p0)) rfl rfl ?_
        refine kk_gp hG (c := 1) (k := 3) (a := p0) rfl rfl rfl rfl (fun v16 => ?_)
        refine kks hG rfl rfl ?_
        refine kk_ob (fun b17 eb17 => ?_)
        subst eb17
        refine kk_ia hG (a := b17) rfl (fun v18 => ?_)
        refine kk_ile hG (t := 96) rfl rfl ?_ ?_
        · exact kk_wl hG [1, 2, 3, 4] rfl (b96 _ _ _ _ _)
        exact kk_wl hG [1, 2, 4] rfl (b94 _ _ _ _)
      intro a2 a3 s kc ks
      refine kks hG rfl rfl ?_
      refine kk_aln hG (x := (some p0)) rfl rfl ?_
      refine kk_gi hG (c := 1) (k := 2) (a := p0) rfl rfl rfl rfl (fun v1 => ?_)
      refine kk_ige hG (t := 102) rfl rfl ?_ ?_
      · refine kks hG rfl rfl ?_
        exact kk_ri hG rfl rfl rfl k
      refine kk_aln hG (x := (some p0)) rfl rfl ?_
      refine kk_gp hG (c := 1) (k := 5) (a := p0) rfl rfl rfl rfl (fun v2 => ?_)
      refine kks hG rfl rfl ?_
      refine kk_ob (fun b3 eb3 => ?_)
      subst eb3
      refine kk_ia hG (a := b3) rfl (fun v4 => ?_)
      refine kks hG rfl rfl ?_
      refine kk_igt hG (t := 36) rfl rfl ?_ ?_
      · refine kk_ic hG rfl cc_i0 ?_
        exact kk_wl hG [0, 1, 2, 3] rfl (b37 _ _ _ _ _ _)
      refine kks hG rfl rfl ?_
      refine kk_aln hG (x := (some p0)) rfl rfl ?_
      refine kk_gp hG (c := 1) (k := 6) (a := p0) rfl rfl rfl rfl (fun v5 => ?_)
      refine kks hG rfl rfl ?_
      refine kk_ob (fun b6 eb6 => ?_)
      subst eb6
      refine kk_ia hG (a := b6) rfl (fun v7 => ?_)
      refine kk_igt hG (t := 36) rfl rfl ?_ ?_
      · refine kk_ic hG rfl cc_i0 ?_
        exact kk_wl hG [0, 1, 2, 3] rfl (b37 _ _ _ _ _ _)
      refine kk_ic hG rfl cc_i1 ?_
      refine kk_go hG (t := 37) rfl rfl ?_
      exact kk_wl hG [0, 1, 2, 3] rfl (b37 _ _ _ _ _ _)
    exact fun a2 a3 s kc ks hw h => h (fun a2 a3 s kc ks => cW sa R base s → G 4 [(0, va_rf (some p0)), (1, .int p1), (2, .int a2), (3, .int a3)] [] (cM R s) kc ks) (fun a2 a3 s kc ks hs hw => H _ (fun _ _ _ _ _ hp hw => hp hw) a2 a3 s kc ks hw hs) hw
  refine (show KK sa R base G 0 [(0, va_rf (some p0)), (1, .int p1)] [] s kc ks (C_Ch_bearer sa p0 p1 s kc ks Q) from ?_) hw h
  refine kk_ic hG rfl cc_im1 ?_
  refine kk_st hG (L' := [(2, .int ((-1) : Int32)), (0, va_rf (some p0)), (1, .int p1)]) rfl rfl (Nat.le_of_ble_eq_true rfl) rfl ?_
  refine kk_ic hG rfl cc_i0 ?_
  refine kk_st hG (L' := [(3, .int (0 : Int32)), (2, .int ((-1) : Int32)), (0, va_rf (some p0)), (1, .int p1)]) rfl rfl (Nat.le_of_ble_eq_true rfl) rfl ?_
  exact kk_wl hG [2, 3, 1, 0] rfl (b4 _ _ _ _ _)
def C_By_clear (sa : Nat → Nat) (p0 : Nat) (s : cS) (kc ks : Nat) (Q : (cS → Nat → Nat → Prop)) : Prop := ob (pI s 0 1 p0 (0 : Int32)) (fun s1 => (Q s1 kc ks))
set_option maxRecDepth 100000 in
set_option maxHeartbeats 4000000 in
theorem kc_By_clear (base : Nat) (sa : Nat → Nat) {R : pmM} {s : cS} {kc ks : Nat} {Rt : pmR} {p0 : Nat} {Q : (cS → Nat → Nat → Prop)} (hw : cW sa R base s) (h : C_By_clear sa p0 s kc ks Q) (k : ∀ s' kc' ks', cW sa R base s' → Q s' kc' ks' → Rt none (cM R s') kc' ks') : kP_By_clear base sa [.ref p0] (cM R s) kc ks Rt := by
  refine ⟨Nat.le_of_ble_eq_true rfl, fun G hG => ?_⟩
  refine (show KK sa R base G 0 [(0, va_rf (some p0))] [] s kc ks (C_By_clear sa p0 s kc ks Q) from ?_) hw h
  refine kk_aln hG (x := (some p0)) rfl rfl ?_
  refine kk_ic hG rfl cc_i0 ?_
  refine kk_pi hG (c := 0) (k := 1) (a := p0) rfl rfl rfl rfl (fun s1 => ?_)
  exact kk_rv hG rfl rfl k
def C_By_addZeros_s2 (sa : Nat → Nat) (p0 : Nat) (p1 : Int32) (a2 : Int32) (s : cS) (kc ks : Nat) (Q : (cS → Nat → Nat → Prop)) (P2 : (Int32 → cS → Nat → Nat → Prop)) : Prop := if a2 < p1 then (okO s 0 p0 ∧ C_By_add sa p0 (0 : Int32) s kc ks (fun sr1 cr1 dr1 => ((P2 (a2 + (1 : Int32)) sr1 cr1 dr1)))) else ((Q s kc ks))
def C_By_addZeros_b2 (sa : Nat → Nat) (p0 : Nat) (p1 : Int32) (a2 : Int32) (s : cS) (kc ks : Nat) (Q : (cS → Nat → Nat → Prop)) : Prop := ∀ P2 : (Int32 → cS → Nat → Nat → Prop), (∀ (a2 : Int32) (s : cS) (kc ks : Nat), C_By_addZeros_s2 sa p0 p1 a2 s kc ks Q P2 → P2 a2 s kc ks) → P2 a2 s kc ks
def C_By_addZeros (sa : Nat → Nat) (p0 : Nat) (p1 : Int32) (s : cS) (kc ks : Nat) (Q : (cS → Nat → Nat → Prop)) : Prop := (C_By_addZeros_b2 sa p0 p1 (0 : Int32) s kc ks Q)
set_option maxRecDepth 100000 in
set_option maxHeartbeats 4000000 in
theorem kc_By_addZeros (base : Nat) (sa : Nat → Nat) {R : pmM} {s : cS} {kc ks : Nat} {Rt : pmR} {p0 : Nat} {p1 : Int32} {Q : (cS → Nat → Nat → Prop)} (hw : cW sa R base s) (h : C_By_addZeros sa p0 p1 s kc ks Q) (k : ∀ s' kc' ks', cW sa R base s' → Q s' kc' ks' → Rt none (cM R s') kc' ks') : kP_By_addZeros base sa [.ref p0, .int p1] (cM R s) kc ks Rt := by
  refine ⟨Nat.le_of_ble_eq_true rfl, fun G hG => ?_⟩
  have b2 : ∀ (a2 : Int32) (s : cS) (kc ks : Nat), KK sa R base G 2 [(0, va_rf (some p0)), (1, .int p1), (2, .int a2)] [] s kc ks (C_By_addZeros_b2 sa p0 p1 a2 s kc ks Q) := by
    have H : ∀ (P2 : (Int32 → cS → Nat → Nat → Prop)) (hP2 : ∀ (a2 : Int32) (s : cS) (kc ks : Nat), P2 a2 s kc ks → cW sa R base s → G 2 [(0, va_rf (some p0)), (1, .int p1), (2, .int a2)] [] (cM R s) kc ks) (a2 : Int32) (s : cS) (kc ks : Nat), KK sa R base G 2 [(0, va_rf (some p0)), (1, .int p1), (2, .int a2)] [] s kc ks (C_By_addZeros_s2 sa p0 p1 a2 s kc ks Q P2) := by
      intro P2 hP2
      intro a2 s kc ks
      refine kks hG rfl rfl ?_
      refine kks hG rfl rfl ?_
      refine kk_ige hG (t := 18) rfl rfl ?_ ?_
      · exact kk_rv hG rfl rfl k
      refine kk_aln hG (x := (some p0)) rfl rfl ?_
      refine kk_ic hG rfl cc_i0 ?_
      refine kk_cv hG 0 rfl rfl (Nat.le_of_ble_eq_true rfl) (by decide) rfl (st' := []) rfl (cats_le (Nat.le_of_ble_eq_true rfl)) (fun _ hw h k => kk_rcv h.1 (kc_By_add base sa hw h.2 k)) (fun sr1 cr1 dr1 => ?_)
      refine kk_inc hG (L' := [(2, .int (a2 + (1 : Int32))), (0, va_rf (some p0)), (1, .int p1)]) rfl (Nat.le_of_ble_eq_true rfl) rfl cc_i1 rfl ?_
      refine kk_go hG (t := 2) rfl rfl ?_
      exact kk_wl hG [1, 2, 0] rfl (fun hw h => hP2 _ _ _ _ h hw)
    exact fun a2 s kc ks hw h => h (fun a2 s kc ks => cW sa R base s → G 2 [(0, va_rf (some p0)), (1, .int p1), (2, .int a2)] [] (cM R s) kc ks) (fun a2 s kc ks hs hw => H _ (fun _ _ _ _ hp hw => hp hw) a2 s kc ks hw hs) hw
  refine (show KK sa R base G 0 [(0, va_rf (some p0)), (1, .int p1)] [] s kc ks (C_By_addZeros sa p0 p1 s kc ks Q) from ?_) hw h
  refine kk_ic hG rfl cc_i0 ?_
  refine kk_st hG (L' := [(2, .int (0 : Int32)), (0, va_rf (some p0)), (1, .int p1)]) rfl rfl (Nat.le_of_ble_eq_true rfl) rfl ?_
  exact kk_wl hG [1, 2, 0] rfl (b2 _ _ _ _)
def C_Ch_addPasswordEntry_s18 (sa : Nat → Nat) (p0 : Nat) (p1 : Option Nat) (a2 : Int32) (s : cS) (kc ks : Nat) (Q : (cS → Nat → Nat → Prop)) (P18 : (Int32 → cS → Nat → Nat → Prop)) : Prop := if a2 < (16 : Int32) then (ob (gP s 1 1 p0) (fun v1 => (ob v1 (fun b2 => (ob (rE s .byte b2 a2) (fun v3 => (ob p1 (fun b4 => (okO s 0 b4 ∧ C_By_add sa b4 v3 s kc ks (fun sr5 cr5 dr5 => ((P18 (a2 + (1 : Int32)) sr5 cr5 dr5)))))))))))) else ((Q s kc ks))
def C_Ch_addPasswordEntry_b18 (sa : Nat → Nat) (p0 : Nat) (p1 : Option Nat) (a2 : Int32) (s : cS) (kc ks : Nat) (Q : (cS → Nat → Nat → Prop)) : Prop := ∀ P18 : (Int32 → cS → Nat → Nat → Prop), (∀ (a2 : Int32) (s : cS) (kc ks : Nat), C_Ch_addPasswordEntry_s18 sa p0 p1 a2 s kc ks Q P18 → P18 a2 s kc ks) → P18 a2 s kc ks
def C_Ch_addPasswordEntry (sa : Nat → Nat) (p0 : Nat) (p1 : Option Nat) (s : cS) (kc ks : Nat) (Q : (cS → Nat → Nat → Prop)) : Prop := ob p1 (fun b1 => (okO s 0 b1 ∧ C_By_addNumber sa b1 (65535 : Int64) (2 : Int32) s kc ks (fun sr2 cr2 dr2 => (okO sr2 0 b1 ∧ C_By_addNumber sa b1 (2 : Int64) (2 : Int32) sr2 cr2 dr2 (fun sr3 cr3 dr3 => ((C_Ch_addPasswordEntry_b18 sa p0 (some b1) (0 : Int32) sr3 cr3 dr3 Q)))))))
set_option maxRecDepth 100000 in
set_option maxHeartbeats 4000000 in
theorem kc_Ch_addPasswordEntry (base : Nat) (sa : Nat → Nat) {R : pmM} {s : cS} {kc ks : Nat} {Rt : pmR} {p0 : Nat} {p1 : Option Nat} {Q : (cS → Nat → Nat → Prop)} (hw : cW sa R base s) (h : C_Ch_addPasswordEntry sa p0 p1 s kc ks Q) (k : ∀ s' kc' ks', cW sa R base s' → Q s' kc' ks' → Rt none (cM R s') kc' ks') : kP_Ch_addPasswordEntry base sa [.ref p0, va_rf p1] (cM R s) kc ks Rt := by
  refine ⟨by cases p1 <;> exact Nat.le_of_ble_eq_true rfl, fun G hG => ?_⟩
  have eL : lv_args 0 [.ref p0, va_rf p1] = [(0, va_rf (some p0)), (1, va_rf p1)] := by cases p1 <;> rfl
  rw [eL]
  have b18 : ∀ (a2 : Int32) (s : cS) (kc ks : Nat), KK sa R base G 18 [(0, va_rf (some p0)), (1, va_rf p1), (2, .int a2)] [] s kc ks (C_Ch_addPasswordEntry_b18 sa p0 p1 a2 s kc ks Q) := by
    have H : ∀ (P18 : (Int32 → cS → Nat → Nat → Prop)) (hP18 : ∀ (a2 : Int32) (s : cS) (kc ks : Nat), P18 a2 s kc ks → cW sa R base s → G 18 [(0, va_rf (some p0)), (1, va_rf p1), (2, .int a2)] [] (cM R s) kc ks) (a2 : Int32) (s : cS) (kc ks : Nat), KK sa R base G 18 [(0, va_rf (some p0)), (1, va_rf p1), (2, .int a2)] [] s kc ks (C_Ch_addPasswordEntry_s18 sa p0 p1 a2 s kc ks Q P18) := by
      intro P18 hP18
      intro a2 s kc ks
      refine kks hG rfl rfl ?_
      refine kk_bi hG rfl cc_b16 ?_
      refine kk_ige hG (t := 40) rfl rfl ?_ ?_
      · exact kk_rv hG rfl rfl k
      refine kk_aln hG (x := p1) rfl rfl ?_
      refine kk_aln hG (x := (some p0)) rfl rfl ?_
      refine kk_gp hG (c := 1) (k := 1) (a := p0) rfl rfl rfl rfl (fun v1 => ?_)
      refine kks hG rfl rfl ?_
      refine kk_ob (fun b2 eb2 => ?_)
      subst eb2
      refine kk_ba hG (a := b2) rfl (fun v3 => ?_)
      refine kk_ob (fun b4 eb4 => ?_)
      subst eb4
      refine kk_cv hG 0 rfl rfl (Nat.le_of_ble_eq_true rfl) (by decide) rfl (st' := []) rfl (cats_le (Nat.le_of_ble_eq_true rfl)) (fun _ hw h k => kk_rcv h.1 (kc_By_add base sa hw h.2 k)) (fun sr5 cr5 dr5 => ?_)
      refine kk_inc hG (L' := [(2, .int (a2 + (1 : Int32))), (0, va_rf (some p0)), (1, va_rf (some b4))]) rfl (Nat.le_of_ble_eq_true rfl) rfl cc_i1 rfl ?_
      refine kk_go hG (t := 18) rfl rfl ?_
      exact kk_wl hG [1, 2, 0] rfl (fun hw h => hP18 _ _ _ _ h hw)
    exact fun a2 s kc ks hw h => h (fun a2 s kc ks => cW sa R base s → G 18 [(0, va_rf (some p0)), (1, va_rf p1), (2, .int a2)] [] (cM R s) kc ks) (fun a2 s kc ks hs hw => H _ (fun _ _ _ _ hp hw => hp hw) a2 s kc ks hw hs) hw
  refine (show KK sa R base G 0 [(0, va_rf (some p0)), (1, va_rf p1)] [] s kc ks (C_Ch_addPasswordEntry sa p0 p1 s kc ks Q) from ?_) hw h
  refine kk_aln hG (x := p1) rfl rfl ?_
  refine kk_l2 hG (v := (65535 : Int64)) rfl rfl ?_
  refine kk_ic hG rfl cc_i2 ?_
  refine kk_ob (fun b1 eb1 => ?_)
  subst eb1
  refine kk_cv hG 0 rfl rfl (Nat.le_of_ble_eq_true rfl) (by decide) rfl (st' := []) rfl (cats_le (Nat.le_of_ble_eq_true rfl)) (fun _ hw h k => kk_rcv h.1 (kc_By_addNumber base sa hw h.2 k)) (fun sr2 cr2 dr2 => ?_)
  refine kk_aln hG (x := (some b1)) rfl rfl ?_
  refine kk_l2 hG (v := (2 : Int64)) rfl rfl ?_
  refine kk_ic hG rfl cc_i2 ?_
  refine kk_cv hG 0 rfl rfl (Nat.le_of_ble_eq_true rfl) (by decide) rfl (st' := []) rfl (cats_le (Nat.le_of_ble_eq_true rfl)) (fun _ hw h k => kk_rcv h.1 (kc_By_addNumber base sa hw h.2 k)) (fun sr3 cr3 dr3 => ?_)
  refine kk_ic hG rfl cc_i0 ?_
  refine kk_st hG (L' := [(2, .int (0 : Int32)), (0, va_rf (some p0)), (1, va_rf (some b1))]) rfl rfl (Nat.le_of_ble_eq_true rfl) rfl ?_
  exact kk_wl hG [1, 2, 0] rfl (b18 _ _ _ _)
