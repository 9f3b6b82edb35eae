/-! Methods as weakest preconditions, by program: By_add .. Da_portOf -/
def C_By_add_b53 (sa : Nat → Nat) (p0 : Nat) (p1 : Int32) (s : cS) (kc ks : Nat) (Q : (cS → Nat → Nat → Prop)) : Prop := ob (gP s 0 0 p0) (fun v1 => (ob (gI s 0 1 p0) (fun v2 => (ob v1 (fun b3 => (ob (wEb s b3 v2 (Int8.toInt32 (Int32.toInt8 p1))) (fun s4 => (ob (gI s4 0 1 p0) (fun v5 => (ob (pI s4 0 1 p0 (v5 + (1 : Int32))) (fun s6 => (Q s6 kc ks))))))))))))
def C_By_add_s24 (sa : Nat → Nat) (p0 : Nat) (p1 : Int32) (a2 : Option Nat) (a3 : Int32) (s : cS) (kc ks : Nat) (Q : (cS → Nat → Nat → Prop)) (P24 : (Int32 → cS → Nat → Nat → Prop)) : Prop := ob (gP s 0 0 p0) (fun v1 => (ob v1 (fun b2 => (ob (aL s b2) (fun v3 => (if a3 < v3 then (ob (gP s 0 0 p0) (fun v5 => (ob v5 (fun b6 => (ob (rE s .byte b6 a3) (fun v7 => (ob a2 (fun b8 => (ob (wEb s b8 a3 v7) (fun s9 => ((P24 (a3 + (1 : Int32)) s9 kc ks)))))))))))) else ((ob (pP s 0 0 p0 a2) (fun s4 => ((C_By_add_b53 sa p0 p1 s4 kc ks Q)))))))))))
def C_By_add_b24 (sa : Nat → Nat) (p0 : Nat) (p1 : Int32) (a2 : Option Nat) (a3 : Int32) (s : cS) (kc ks : Nat) (Q : (cS → Nat → Nat → Prop)) : Prop := ∀ P24 : (Int32 → cS → Nat → Nat → Prop), (∀ (a3 : Int32) (s : cS) (kc ks : Nat), C_By_add_s24 sa p0 p1 a2 a3 s kc ks Q P24 → P24 a3 s kc ks) → P24 a3 s kc ks
def C_By_add (sa : Nat → Nat) (p0 : Nat) (p1 : Int32) (s : cS) (kc ks : Nat) (Q : (cS → Nat → Nat → Prop)) : Prop := ob (gI s 0 1 p0) (fun v1 => (ob (gP s 0 0 p0) (fun v2 => (ob v2 (fun b3 => (ob (aL s b3) (fun v4 => (if v1 < v4 then ((C_By_add_b53 sa p0 p1 s kc ks Q)) else (ob (gP s 0 0 p0) (fun v5 => (ob v5 (fun b6 => (ob (aL s b6) (fun v7 => (nwA s kc ks .byte (v7 * (2 : Int32)) (fun q8 sq8 cq8 dq8 => ((C_By_add_b24 sa p0 p1 (some q8) (0 : Int32) sq8 cq8 dq8 Q))))))))))))))))))
set_option maxRecDepth 100000 in
set_option maxHeartbeats 4000000 in
theorem kc_By_add (base : Nat) (sa : Nat → Nat) {R : pmM} {s : cS} {kc ks : Nat} {Rt : pmR} {p0 : Nat} {p1 : Int32} {Q : (cS → Nat → Nat → Prop)} (hw : cW sa R base s) (h : C_By_add sa p0 p1 s kc ks Q) (k : ∀ s' kc' ks', cW sa R base s' → Q s' kc' ks' → Rt none (cM R s') kc' ks') : kP_By_add base sa [.ref p0, .int p1] (cM R s) kc ks Rt := by
  refine ⟨Nat.le_of_ble_eq_true rfl, fun G hG => ?_⟩
  have b53 : ∀ (s : cS) (kc ks : Nat), KK sa R base G 53 [(0, va_rf (some p0)), (1, .int p1)] [] s kc ks (C_By_add_b53 sa p0 p1 s kc ks Q) := by
    intro s kc ks
    refine kk_aln hG (x := (some p0)) rfl rfl ?_
    refine kk_gp hG (c := 0) (k := 0) (a := p0) rfl rfl rfl rfl (fun v1 => ?_)
    refine kk_aln hG (x := (some p0)) rfl rfl ?_
    refine kk_gi hG (c := 0) (k := 1) (a := p0) rfl rfl rfl rfl (fun v2 => ?_)
    refine kks hG rfl rfl ?_
    refine kks hG rfl rfl ?_
    refine kk_ob (fun b3 eb3 => ?_)
    subst eb3
    refine kk_bs hG (a := b3) rfl (fun s4 => ?_)
    refine kk_aln hG (x := (some p0)) rfl rfl ?_
    refine kk_dup hG (x := (some p0)) rfl ?_
    refine kk_gi hG (c := 0) (k := 1) (a := p0) rfl rfl rfl rfl (fun v5 => ?_)
    refine kk_ic hG rfl cc_i1 ?_
    refine kks hG rfl rfl ?_
    refine kk_pi hG (c := 0) (k := 1) (a := p0) rfl rfl rfl rfl (fun s6 => ?_)
    exact kk_rv hG rfl rfl k
  have b24 : ∀ (a2 : Option Nat) (a3 : Int32) (s : cS) (kc ks : Nat), KK sa R base G 24 [(0, va_rf (some p0)), (1, .int p1), (2, va_rf a2), (3, .int a3)] [] s kc ks (C_By_add_b24 sa p0 p1 a2 a3 s kc ks Q) := by
    intro a2
    have H : ∀ (P24 : (Int32 → cS → Nat → Nat → Prop)) (hP24 : ∀ (a3 : Int32) (s : cS) (kc ks : Nat), P24 a3 s kc ks → cW sa R base s → G 24 [(0, va_rf (some p0)), (1, .int p1), (2, va_rf a2), (3, .int a3)] [] (cM R s) kc ks) (a3 : Int32) (s : cS) (kc ks : Nat), KK sa R base G 24 [(0, va_rf (some p0)), (1, .int p1), (2, va_rf a2), (3, .int a3)] [] s kc ks (C_By_add_s24 sa p0 p1 a2 a3 s kc ks Q P24) := by
      intro P24 hP24
      intro a3 s kc ks
      refine kks hG rfl rfl ?_
      refine kk_aln hG (x := (some p0)) rfl rfl ?_
      refine kk_gp hG (c := 0) (k := 0) (a := p0) rfl rfl rfl rfl (fun v1 => ?_)
      refine kk_ob (fun b2 eb2 => ?_)
      subst eb2
      refine kk_len hG (a := b2) rfl (fun v3 => ?_)
      refine kk_ige hG (t := 48) rfl rfl ?_ ?_
      · refine kk_aln hG (x := (some p0)) rfl rfl ?_
        refine kk_aln hG (x := a2) rfl rfl ?_
        refine kk_pp hG (c := 0) (k := 0) (a := p0) (v := a2) rfl rfl rfl rfl rfl (fun s4 => ?_)
        exact kk_wl hG [0, 1] rfl (b53 _ _ _)
      refine kk_aln hG (x := a2) rfl rfl ?_
      refine kks hG rfl rfl ?_
      refine kk_aln hG (x := (some p0)) rfl rfl ?_
      refine kk_gp hG (c := 0) (k := 0) (a := p0) rfl rfl rfl rfl (fun v5 => ?_)
      refine kks hG rfl rfl ?_
      refine kk_ob (fun b6 eb6 => ?_)
      subst eb6
      refine kk_ba hG (a := b6) rfl (fun v7 => ?_)
      refine kk_ob (fun b8 eb8 => ?_)
      subst eb8
      refine kk_bs hG (a := b8) rfl (fun s9 => ?_)
      refine kk_inc hG (L' := [(3, .int (a3 + (1 : Int32))), (0, va_rf (some p0)), (1, .int p1), (2, va_rf (some b8))]) rfl (Nat.le_of_ble_eq_true rfl) rfl cc_i1 rfl ?_
      refine kk_go hG (t := 24) rfl rfl ?_
      exact kk_wl hG [1, 2, 3, 0] rfl (fun hw h => hP24 _ _ _ _ h hw)
    exact fun a3 s kc ks hw h => h (fun a3 s kc ks => cW sa R base s → G 24 [(0, va_rf (some p0)), (1, .int p1), (2, va_rf a2), (3, .int a3)] [] (cM R s) kc ks) (fun a3 s kc ks hs hw => H _ (fun _ _ _ _ hp hw => hp hw) a3 s kc ks hw hs) hw
  refine (show KK sa R base G 0 [(0, va_rf (some p0)), (1, .int p1)] [] s kc ks (C_By_add sa p0 p1 s kc ks Q) from ?_) hw h
  refine kk_aln hG (x := (some p0)) rfl rfl ?_
  refine kk_gi hG (c := 0) (k := 1) (a := p0) rfl rfl rfl rfl (fun v1 => ?_)
  refine kk_aln hG (x := (some p0)) rfl rfl ?_
  refine kk_gp hG (c := 0) (k := 0) (a := p0) rfl rfl rfl rfl (fun v2 => ?_)
  refine kk_ob (fun b3 eb3 => ?_)
  subst eb3
  refine kk_len hG (a := b3) rfl (fun v4 => ?_)
  refine kk_ilt hG (t := 53) rfl rfl ?_ ?_
  · exact kk_wl hG [0, 1] rfl (b53 _ _ _)
  refine kk_aln hG (x := (some p0)) rfl rfl ?_
  refine kk_gp hG (c := 0) (k := 0) (a := p0) rfl rfl rfl rfl (fun v5 => ?_)
  refine kk_ob (fun b6 eb6 => ?_)
  subst eb6
  refine kk_len hG (a := b6) rfl (fun v7 => ?_)
  refine kk_ic hG rfl cc_i2 ?_
  refine kks hG rfl rfl ?_
  refine kk_nar hG (ty := .byte) rfl rfl rfl rfl (fun q8 sq8 cq8 dq8 => ?_)
  refine kk_asn hG (x := (some q8)) (L' := [(2, va_rf (some q8)), (0, va_rf (some p0)), (1, .int p1)]) rfl (Nat.le_of_ble_eq_true rfl) rfl ?_
  refine kk_ic hG rfl cc_i0 ?_
  refine kk_st hG (L' := [(3, .int (0 : Int32)), (2, va_rf (some q8)), (0, va_rf (some p0)), (1, .int p1)]) rfl rfl (Nat.le_of_ble_eq_true rfl) rfl ?_
  exact kk_wl hG [2, 3, 1, 0] rfl (b24 _ _ _ _ _)
def C_By_addNumber_s9 (sa : Nat → Nat) (p0 : Nat) (p1 : Int64) (a4 : Int32) (s : cS) (kc ks : Nat) (Q : (cS → Nat → Nat → Prop)) (P9 : (Int32 → cS → Nat → Nat → Prop)) : Prop := if a4 < 0 then ((Q s kc ks)) else (okO s 0 p0 ∧ C_By_add sa p0 (Int64.toInt32 (ush_L p1 a4)) s kc ks (fun sr1 cr1 dr1 => ((P9 (a4 + ((-8) : Int32)) sr1 cr1 dr1))))
def C_By_addNumber_b9 (sa : Nat → Nat) (p0 : Nat) (p1 : Int64) (a4 : Int32) (s : cS) (kc ks : Nat) (Q : (cS → Nat → Nat → Prop)) : Prop := ∀ P9 : (Int32 → cS → Nat → Nat → Prop), (∀ (a4 : Int32) (s : cS) (kc ks : Nat), C_By_addNumber_s9 sa p0 p1 a4 s kc ks Q P9 → P9 a4 s kc ks) → P9 a4 s kc ks
def C_By_addNumber (sa : Nat → Nat) (p0 : Nat) (p1 : Int64) (p3 : Int32) (s : cS) (kc ks : Nat) (Q : (cS → Nat → Nat → Prop)) : Prop := (C_By_addNumber_b9 sa p0 p1 ((p3 * (8 : Int32)) - (8 : Int32)) s kc ks Q)
set_option maxRecDepth 100000 in
set_option maxHeartbeats 4000000 in
theorem kc_By_addNumber (base : Nat) (sa : Nat → Nat) {R : pmM} {s : cS} {kc ks : Nat} {Rt : pmR} {p0 : Nat} {p1 : Int64} {p3 : Int32} {Q : (cS → Nat → Nat → Prop)} (hw : cW sa R base s) (h : C_By_addNumber sa p0 p1 p3 s kc ks Q) (k : ∀ s' kc' ks', cW sa R base s' → Q s' kc' ks' → Rt none (cM R s') kc' ks') : kP_By_addNumber base sa [.ref p0, .long p1, .int p3] (cM R s) kc ks Rt := by
  refine ⟨Nat.le_of_ble_eq_true rfl, fun G hG => ?_⟩
  have b9 : ∀ (a4 : Int32) (s : cS) (kc ks : Nat), KK sa R base G 9 [(0, va_rf (some p0)), (1, .long p1), (4, .int a4)] [] s kc ks (C_By_addNumber_b9 sa p0 p1 a4 s kc ks Q) := by
    have H : ∀ (P9 : (Int32 → cS → Nat → Nat → Prop)) (hP9 : ∀ (a4 : Int32) (s : cS) (kc ks : Nat), P9 a4 s kc ks → cW sa R base s → G 9 [(0, va_rf (some p0)), (1, .long p1), (4, .int a4)] [] (cM R s) kc ks) (a4 : Int32) (s : cS) (kc ks : Nat), KK sa R base G 9 [(0, va_rf (some p0)), (1, .long p1), (4, .int a4)] [] s kc ks (C_By_addNumber_s9 sa p0 p1 a4 s kc ks Q P9) := by
      intro P9 hP9
      intro a4 s kc ks
      refine kks hG rfl rfl ?_
      refine kk_zlt hG (t := 29) rfl rfl ?_ ?_
      · exact kk_rv hG rfl rfl k
      refine kk_aln hG (x := (some p0)) rfl rfl ?_
      refine kks hG rfl rfl ?_
      refine kks hG rfl rfl ?_
      refine kks hG rfl rfl ?_
      refine kks hG rfl rfl ?_
      refine kk_cv hG 0 rfl rfl (Nat.le_of_ble_eq_true rfl) (by decide) rfl (st' := []) rfl (cats_le (Nat.le_of_ble_eq_true rfl)) (fun _ hw h k => kk_rcv h.1 (kc_By_add base sa hw h.2 k)) (fun sr1 cr1 dr1 => ?_)
      refine kk_inc hG (L' := [(4, .int (a4 + ((-8) : Int32))), (0, va_rf (some p0)), (1, .long p1)]) rfl (Nat.le_of_ble_eq_true rfl) rfl cc_im8 rfl ?_
      refine kk_go hG (t := 9) rfl rfl ?_
      exact kk_wl hG [1, 2, 0] rfl (fun hw h => hP9 _ _ _ _ h hw)
    exact fun a4 s kc ks hw h => h (fun a4 s kc ks => cW sa R base s → G 9 [(0, va_rf (some p0)), (1, .long p1), (4, .int a4)] [] (cM R s) kc ks) (fun a4 s kc ks hs hw => H _ (fun _ _ _ _ hp hw => hp hw) a4 s kc ks hw hs) hw
  refine (show KK sa R base G 0 [(0, va_rf (some p0)), (1, .long p1), (3, .int p3)] [] s kc ks (C_By_addNumber sa p0 p1 p3 s kc ks Q) from ?_) hw h
  refine kks hG rfl rfl ?_
  refine kk_bi hG rfl cc_b8 ?_
  refine kks hG rfl rfl ?_
  refine kk_bi hG rfl cc_b8 ?_
  refine kks hG rfl rfl ?_
  refine kk_st hG (L' := [(4, .int ((p3 * (8 : Int32)) - (8 : Int32))), (0, va_rf (some p0)), (1, .long p1), (3, .int p3)]) rfl rfl (Nat.le_of_ble_eq_true rfl) rfl ?_
  exact kk_wl hG [1, 2, 0] rfl (b9 _ _ _ _)
def C_Rf_feed (sa : Nat → Nat) (p0 : Nat) (p1 : Int32) (p2 : Int32) (p3 : Int32) (p4 : Int32) (p5 : Int32) (s : cS) (kc ks : Nat) (Q : (Int32 → cS → Nat → Nat → Prop)) : Prop := ob (gP s 11 0 p0) (fun v1 => (ob v1 (fun b2 => (ob (gI s 0 1 b2) (fun v3 => (if (4096 : Int32) < (v3 + (20 : Int32)) then (Q (0 : Int32) s kc ks) else (ob (gP s 11 0 p0) (fun v4 => (ob v4 (fun b5 => (okO s 0 b5 ∧ C_By_addNumber sa b5 (Int32.toInt64 p1) (4 : Int32) s kc ks (fun sr6 cr6 dr6 => (ob (gP sr6 11 0 p0) (fun v7 => (ob v7 (fun b8 => (okO sr6 0 b8 ∧ C_By_addNumber sa b8 (Int32.toInt64 p2) (4 : Int32) sr6 cr6 dr6 (fun sr9 cr9 dr9 => (ob (gP sr9 11 0 p0) (fun v10 => (ob v10 (fun b11 => (okO sr9 0 b11 ∧ C_By_addNumber sa b11 (Int32.toInt64 p3) (4 : Int32) sr9 cr9 dr9 (fun sr12 cr12 dr12 => (ob (gP sr12 11 0 p0) (fun v13 => (ob v13 (fun b14 => (okO sr12 0 b14 ∧ C_By_addNumber sa b14 (Int32.toInt64 p4) (4 : Int32) sr12 cr12 dr12 (fun sr15 cr15 dr15 => (ob (gP sr15 11 0 p0) (fun v16 => (ob v16 (fun b17 => (okO sr15 0 b17 ∧ C_By_addNumber sa b17 (Int32.toInt64 p5) (4 : Int32) sr15 cr15 dr15 (fun sr18 cr18 dr18 => (Q (1 : Int32) sr18 cr18 dr18)))))))))))))))))))))))))))))))))))))
set_option maxRecDepth 100000 in
set_option maxHeartbeats 4000000 in
theorem kc_Rf_feed (base : Nat) (sa : Nat → Nat) {R : pmM} {s : cS} {kc ks : Nat} {Rt : pmR} {p0 : Nat} {p1 : Int32} {p2 : Int32} {p3 : Int32} {p4 : Int32} {p5 : Int32} {Q : (Int32 → cS → Nat → Nat → Prop)} (hw : cW sa R base s) (h : C_Rf_feed sa p0 p1 p2 p3 p4 p5 s kc ks Q) (k : ∀ r s' kc' ks', cW sa R base s' → Q r s' kc' ks' → Rt (some (.int r)) (cM R s') kc' ks') : kP_Rf_feed base sa [.ref p0, .int p1, .int p2, .int p3, .int p4, .int p5] (cM R s) kc ks Rt := by
  refine ⟨Nat.le_of_ble_eq_true rfl, fun G hG => ?_⟩
  refine (show KK sa R base G 0 [(0, va_rf (some p0)), (1, .int p1), (2, .int p2), (3, .int p3), (4, .int p4), (5, .int p5)] [] s kc ks (C_Rf_feed sa p0 p1 p2 p3 p4 p5 s kc ks Q) from ?_) hw h
  refine kk_aln hG (x := (some p0)) rfl rfl ?_
  refine kk_gp hG (c := 11) (k := 0) (a := p0) rfl rfl rfl rfl (fun v1 => ?_)
  refine kk_ob (fun b2 eb2 => ?_)
  subst eb2
  refine kk_gi hG (c := 0) (k := 1) (a := b2) rfl rfl rfl rfl (fun v3 => ?_)
  refine kk_bi hG rfl cc_b20 ?_
  refine kks hG rfl rfl ?_
  refine kk_si hG rfl cc_s4096 ?_
  refine kk_ile hG (t := 18) rfl rfl ?_ ?_
  · refine kk_aln hG (x := (some p0)) rfl rfl ?_
    refine kk_gp hG (c := 11) (k := 0) (a := p0) rfl rfl rfl rfl (fun v4 => ?_)
    refine kks hG rfl rfl ?_
    refine kks hG rfl rfl ?_
    refine kk_ic hG rfl cc_i4 ?_
    refine kk_ob (fun b5 eb5 => ?_)
    subst eb5
    refine kk_cv hG 0 rfl rfl (Nat.le_of_ble_eq_true rfl) (by decide) rfl (st' := []) rfl (cats_le (Nat.le_of_ble_eq_true rfl)) (fun _ hw h k => kk_rcv h.1 (kc_By_addNumber base sa hw h.2 k)) (fun sr6 cr6 dr6 => ?_)
    refine kk_aln hG (x := (some p0)) rfl rfl ?_
    refine kk_gp hG (c := 11) (k := 0) (a := p0) rfl rfl rfl rfl (fun v7 => ?_)
    refine kks hG rfl rfl ?_
    refine kks hG rfl rfl ?_
    refine kk_ic hG rfl cc_i4 ?_
    refine kk_ob (fun b8 eb8 => ?_)
    subst eb8
    refine kk_cv hG 0 rfl rfl (Nat.le_of_ble_eq_true rfl) (by decide) rfl (st' := []) rfl (cats_le (Nat.le_of_ble_eq_true rfl)) (fun _ hw h k => kk_rcv h.1 (kc_By_addNumber base sa hw h.2 k)) (fun sr9 cr9 dr9 => ?_)
    refine kk_aln hG (x := (some p0)) rfl rfl ?_
    refine kk_gp hG (c := 11) (k := 0) (a := p0) rfl rfl rfl rfl (fun v10 => ?_)
    refine kks hG rfl rfl ?_
    refine kks hG rfl rfl ?_
    refine kk_ic hG rfl cc_i4 ?_
    refine kk_ob (fun b11 eb11 => ?_)
    subst eb11
    refine kk_cv hG 0 rfl rfl (Nat.le_of_ble_eq_true rfl) (by decide) rfl (st' := []) rfl (cats_le (Nat.le_of_ble_eq_true rfl)) (fun _ hw h k => kk_rcv h.1 (kc_By_addNumber base sa hw h.2 k)) (fun sr12 cr12 dr12 => ?_)
    refine kk_aln hG (x := (some p0)) rfl rfl ?_
    refine kk_gp hG (c := 11) (k := 0) (a := p0) rfl rfl rfl rfl (fun v13 => ?_)
    refine kks hG rfl rfl ?_
    refine kks hG rfl rfl ?_
    refine kk_ic hG rfl cc_i4 ?_
    refine kk_ob (fun b14 eb14 => ?_)
    subst eb14
    refine kk_cv hG 0 rfl rfl (Nat.le_of_ble_eq_true rfl) (by decide) rfl (st' := []) rfl (cats_le (Nat.le_of_ble_eq_true rfl)) (fun _ hw h k => kk_rcv h.1 (kc_By_addNumber base sa hw h.2 k)) (fun sr15 cr15 dr15 => ?_)
    refine kk_aln hG (x := (some p0)) rfl rfl ?_
    refine kk_gp hG (c := 11) (k := 0) (a := p0) rfl rfl rfl rfl (fun v16 => ?_)
    refine kks hG rfl rfl ?_
    refine kks hG rfl rfl ?_
    refine kk_ic hG rfl cc_i4 ?_
    refine kk_ob (fun b17 eb17 => ?_)
    subst eb17
    refine kk_cv hG 0 rfl rfl (Nat.le_of_ble_eq_true rfl) (by decide) rfl (st' := []) rfl (cats_le (Nat.le_of_ble_eq_true rfl)) (fun _ hw h k => kk_rcv h.1 (kc_By_addNumber base sa hw h.2 k)) (fun sr18 cr18 dr18 => ?_)
    refine kk_ic hG rfl cc_i1 ?_
    exact kk_ri hG rfl rfl rfl k
  refine kk_ic hG rfl cc_i0 ?_
  exact kk_ri hG rfl rfl rfl k
def C_Rf_end (sa : Nat → Nat) (p0 : Nat) (p1 : Int32) (s : cS) (kc ks : Nat) (Q : (Int32 → cS → Nat → Nat → Prop)) : Prop := if p1 < 0 then (Q (0 : Int32) s kc ks) else (ob (gP s 11 0 p0) (fun v1 => (ob v1 (fun b2 => (ob (gI s 0 1 b2) (fun v3 => (if v3 < p1 then (Q (0 : Int32) s kc ks) else (ob (gP s 11 0 p0) (fun v4 => (ob v4 (fun b5 => (ob (pI s 0 1 b5 p1) (fun s6 => (Q (1 : Int32) s6 kc ks))))))))))))))
set_option maxRecDepth 100000 in
set_option maxHeartbeats 4000000 in
theorem kc_Rf_end (base : Nat) (sa : Nat → Nat) {R : pmM} {s : cS} {kc ks : Nat} {Rt : pmR} {p0 : Nat} {p1 : Int32} {Q : (Int32 → cS → Nat → Nat → Prop)} (hw : cW sa R base s) (h : C_Rf_end sa p0 p1 s kc ks Q) (k : ∀ r s' kc' ks', cW sa R base s' → Q r s' kc' ks' → Rt (some (.int r)) (cM R s') kc' ks') : kP_Rf_end base sa [.ref p0, .int p1] (cM R s) kc ks Rt := by
  refine ⟨Nat.le_of_ble_eq_true rfl, fun G hG => ?_⟩
  refine (show KK sa R base G 0 [(0, va_rf (some p0)), (1, .int p1)] [] s kc ks (C_Rf_end sa p0 p1 s kc ks Q) from ?_) hw h
  refine kks hG rfl rfl ?_
  refine kk_zlt hG (t := 15) rfl rfl ?_ ?_
  · refine kk_ic hG rfl cc_i0 ?_
    exact kk_ri hG rfl rfl rfl k
  refine kks hG rfl rfl ?_
  refine kk_aln hG (x := (some p0)) rfl rfl ?_
  refine kk_gp hG (c := 11) (k := 0) (a := p0) rfl rfl rfl rfl (fun v1 => ?_)
  refine kk_ob (fun b2 eb2 => ?_)
  subst eb2
  refine kk_gi hG (c := 0) (k := 1) (a := b2) rfl rfl rfl rfl (fun v3 => ?_)
  refine kk_ile hG (t := 17) rfl rfl ?_ ?_
  · refine kk_aln hG (x := (some p0)) rfl rfl ?_
    refine kk_gp hG (c := 11) (k := 0) (a := p0) rfl rfl rfl rfl (fun v4 => ?_)
    refine kks hG rfl rfl ?_
    refine kk_ob (fun b5 eb5 => ?_)
    subst eb5
    refine kk_pi hG (c := 0) (k := 1) (a := b5) rfl rfl rfl rfl (fun s6 => ?_)
    refine kk_ic hG rfl cc_i1 ?_
    exact kk_ri hG rfl rfl rfl k
  refine kk_ic hG rfl cc_i0 ?_
  exact kk_ri hG rfl rfl rfl k
def C_Rf_fault (sa : Nat → Nat) (p0 : Nat) (s : cS) (kc ks : Nat) (Q : (Int32 → cS → Nat → Nat → Prop)) : Prop := ob (gI s 11 4 p0) (fun v1 => (Q v1 s kc ks))
set_option maxRecDepth 100000 in
set_option maxHeartbeats 4000000 in
theorem kc_Rf_fault (base : Nat) (sa : Nat → Nat) {R : pmM} {s : cS} {kc ks : Nat} {Rt : pmR} {p0 : Nat} {Q : (Int32 → cS → Nat → Nat → Prop)} (hw : cW sa R base s) (h : C_Rf_fault sa p0 s kc ks Q) (k : ∀ r s' kc' ks', cW sa R base s' → Q r s' kc' ks' → Rt (some (.int r)) (cM R s') kc' ks') : kP_Rf_fault base sa [.ref p0] (cM R s) kc ks Rt := by
  refine ⟨Nat.le_of_ble_eq_true rfl, fun G hG => ?_⟩
  refine (show KK sa R base G 0 [(0, va_rf (some p0))] [] s kc ks (C_Rf_fault sa p0 s kc ks Q) from ?_) hw h
  refine kk_aln hG (x := (some p0)) rfl rfl ?_
  refine kk_gi hG (c := 11) (k := 4) (a := p0) rfl rfl rfl rfl (fun v1 => ?_)
  exact kk_ri hG rfl rfl rfl k
def C_Rf_takeOut_s12 (sa : Nat → Nat) (p0 : Nat) (a2 : Int32) (s : cS) (kc ks : Nat) (Q : (cS → Nat → Nat → Prop)) (P12 : (Int32 → cS → Nat → Nat → Prop)) : Prop := ob (gI s 11 13 p0) (fun v1 => (if a2 < v1 then (ob (gP s 11 12 p0) (fun v2 => (ob (gP s 11 12 p0) (fun v3 => (ob v3 (fun b4 => (ob (rQ s b4 (a2 + (1 : Int32))) (fun v5 => (ob v2 (fun b6 => (ob (wQ s b6 a2 v5) (fun s7 => ((P12 (a2 + (1 : Int32)) s7 kc ks)))))))))))))) else ((Q s kc ks))))
def C_Rf_takeOut_b12 (sa : Nat → Nat) (p0 : Nat) (a2 : Int32) (s : cS) (kc ks : Nat) (Q : (cS → Nat → Nat → Prop)) : Prop := ∀ P12 : (Int32 → cS → Nat → Nat → Prop), (∀ (a2 : Int32) (s : cS) (kc ks : Nat), C_Rf_takeOut_s12 sa p0 a2 s kc ks Q P12 → P12 a2 s kc ks) → P12 a2 s kc ks
def C_Rf_takeOut (sa : Nat → Nat) (p0 : Nat) (p1 : Int32) (s : cS) (kc ks : Nat) (Q : (cS → Nat → Nat → Prop)) : Prop := ob (gI s 11 13 p0) (fun v1 => (ob (pI s 11 13 p0 (v1 - (1 : Int32))) (fun s2 => ((C_Rf_takeOut_b12 sa p0 p1 s2 kc ks Q)))))
set_option maxRecDepth 100000 in
set_option maxHeartbeats 4000000 in
theorem kc_Rf_takeOut (base : Nat) (sa : Nat → Nat) {R : pmM} {s : cS} {kc ks : Nat} {Rt : pmR} {p0 : Nat} {p1 : Int32} {Q : (cS → Nat → Nat → Prop)} (hw : cW sa R base s) (h : C_Rf_takeOut sa p0 p1 s kc ks Q) (k : ∀ s' kc' ks', cW sa R base s' → Q s' kc' ks' → Rt none (cM R s') kc' ks') : kP_Rf_takeOut base sa [.ref p0, .int p1] (cM R s) kc ks Rt := by
  refine ⟨Nat.le_of_ble_eq_true rfl, fun G hG => ?_⟩
  have b12 : ∀ (a2 : Int32) (s : cS) (kc ks : Nat), KK sa R base G 12 [(0, va_rf (some p0)), (2, .int a2)] [] s kc ks (C_Rf_takeOut_b12 sa p0 a2 s kc ks Q) := by
    have H : ∀ (P12 : (Int32 → cS → Nat → Nat → Prop)) (hP12 : ∀ (a2 : Int32) (s : cS) (kc ks : Nat), P12 a2 s kc ks → cW sa R base s → G 12 [(0, va_rf (some p0)), (2, .int a2)] [] (cM R s) kc ks) (a2 : Int32) (s : cS) (kc ks : Nat), KK sa R base G 12 [(0, va_rf (some p0)), (2, .int a2)] [] s kc ks (C_Rf_takeOut_s12 sa p0 a2 s kc ks Q P12) := by
      intro P12 hP12
      intro a2 s kc ks
      refine kks hG rfl rfl ?_
      refine kk_aln hG (x := (some p0)) rfl rfl ?_
      refine kk_gi hG (c := 11) (k := 13) (a := p0) rfl rfl rfl rfl (fun v1 => ?_)
      refine kk_ige hG (t := 40) rfl rfl ?_ ?_
      · exact kk_rv hG rfl rfl k
      refine kk_aln hG (x := (some p0)) rfl rfl ?_
      refine kk_gp hG (c := 11) (k := 12) (a := p0) rfl rfl rfl rfl (fun v2 => ?_)
      refine kks hG rfl rfl ?_
      refine kk_aln hG (x := (some p0)) rfl rfl ?_
      refine kk_gp hG (c := 11) (k := 12) (a := p0) rfl rfl rfl rfl (fun v3 => ?_)
      refine kks hG rfl rfl ?_
      refine kk_ic hG rfl cc_i1 ?_
      refine kks hG rfl rfl ?_
      refine kk_ob (fun b4 eb4 => ?_)
      subst eb4
      refine kk_aa hG (a := b4) rfl (fun v5 => ?_)
      refine kk_ob (fun b6 eb6 => ?_)
      subst eb6
      refine kk_aas hG (a := b6) (x := v5) rfl (fun s7 => ?_)
      refine kk_inc hG (L' := [(2, .int (a2 + (1 : Int32))), (0, va_rf (some p0))]) rfl (Nat.le_of_ble_eq_true rfl) rfl cc_i1 rfl ?_
      refine kk_go hG (t := 12) rfl rfl ?_
      exact kk_wl hG [1, 0] rfl (fun hw h => hP12 _ _ _ _ h hw)
    exact fun a2 s kc ks hw h => h (fun a2 s kc ks => cW sa R base s → G 12 [(0, va_rf (some p0)), (2, .int a2)] [] (cM R s) kc ks) (fun a2 s kc ks hs hw => H _ (fun _ _ _ _ hp hw => hp hw) a2 s kc ks hw hs) hw
  refine (show KK sa R base G 0 [(0, va_rf (some p0)), (1, .int p1)] [] s kc ks (C_Rf_takeOut sa p0 p1 s kc ks Q) from ?_) hw h
  refine kk_aln hG (x := (some p0)) rfl rfl ?_
  refine kk_dup hG (x := (some p0)) rfl ?_
  refine kk_gi hG (c := 11) (k := 13) (a := p0) rfl rfl rfl rfl (fun v1 => ?_)
  refine kk_ic hG rfl cc_i1 ?_
  refine kks hG rfl rfl ?_
  refine kk_pi hG (c := 11) (k := 13) (a := p0) rfl rfl rfl rfl (fun s2 => ?_)
  refine kks hG rfl rfl ?_
  refine kk_st hG (L' := [(2, .int p1), (0, va_rf (some p0)), (1, .int p1)]) rfl rfl (Nat.le_of_ble_eq_true rfl) rfl ?_
  exact kk_wl hG [1, 0] rfl (b12 _ _ _ _)
def C_Rr_portOn_s2 (sa : Nat → Nat) (p0 : Nat) (p1 : Option Nat) (a2 : Int32) (s : cS) (kc ks : Nat) (Q : (Option Nat → cS → Nat → Nat → Prop)) (P2 : (Int32 → cS → Nat → Nat → Prop)) : Prop := ob (gI s 9 5 p0) (fun v1 => (if a2 < v1 then (ob (gP s 9 4 p0) (fun v2 => (ob v2 (fun b3 => (ob (rQ s b3 a2) (fun v4 => (ob v4 (fun b5 => (ob (gP s 4 0 b5) (fun v6 => (if v6 = p1 then ((ob (gP s 9 4 p0) (fun v7 => (ob v7 (fun b8 => (ob (rQ s b8 a2) (fun v9 => (Q v9 s kc ks)))))))) else ((P2 (a2 + (1 : Int32)) s kc ks))))))))))))) else ((Q none s kc ks))))
def C_Rr_portOn_b2 (sa : Nat → Nat) (p0 : Nat) (p1 : Option Nat) (a2 : Int32) (s : cS) (kc ks : Nat) (Q : (Option Nat → cS → Nat → Nat → Prop)) : Prop := ∀ P2 : (Int32 → cS → Nat → Nat → Prop), (∀ (a2 : Int32) (s : cS) (kc ks : Nat), C_Rr_portOn_s2 sa p0 p1 a2 s kc ks Q P2 → P2 a2 s kc ks) → P2 a2 s kc ks
def C_Rr_portOn (sa : Nat → Nat) (p0 : Nat) (p1 : Option Nat) (s : cS) (kc ks : Nat) (Q : (Option Nat → cS → Nat → Nat → Prop)) : Prop := (C_Rr_portOn_b2 sa p0 p1 (0 : Int32) s kc ks Q)
set_option maxRecDepth 100000 in
set_option maxHeartbeats 4000000 in
theorem kc_Rr_portOn (base : Nat) (sa : Nat → Nat) {R : pmM} {s : cS} {kc ks : Nat} {Rt : pmR} {p0 : Nat} {p1 : Option Nat} {Q : (Option Nat → cS → Nat → Nat → Prop)} (hw : cW sa R base s) (h : C_Rr_portOn sa p0 p1 s kc ks Q) (k : ∀ r s' kc' ks', cW sa R base s' → Q r s' kc' ks' → Rt (some (va_rf r)) (cM R s') kc' ks') : kP_Rr_portOn base sa [.ref p0, va_rf p1] (cM R s) kc ks Rt := by
  refine ⟨by cases p1 <;> exact Nat.le_of_ble_eq_true rfl, fun G hG => ?_⟩
  have eL : lv_args 0 [.ref p0, va_rf p1] = [(0, va_rf (some p0)), (1, va_rf p1)] := by cases p1 <;> rfl
  rw [eL]
  have b2 : ∀ (a2 : Int32) (s : cS) (kc ks : Nat), KK sa R base G 2 [(0, va_rf (some p0)), (1, va_rf p1), (2, .int a2)] [] s kc ks (C_Rr_portOn_b2 sa p0 p1 a2 s kc ks Q) := by
    have H : ∀ (P2 : (Int32 → cS → Nat → Nat → Prop)) (hP2 : ∀ (a2 : Int32) (s : cS) (kc ks : Nat), P2 a2 s kc ks → cW sa R base s → G 2 [(0, va_rf (some p0)), (1, va_rf p1), (2, .int a2)] [] (cM R s) kc ks) (a2 : Int32) (s : cS) (kc ks : Nat), KK sa R base G 2 [(0, va_rf (some p0)), (1, va_rf p1), (2, .int a2)] [] s kc ks (C_Rr_portOn_s2 sa p0 p1 a2 s kc ks Q P2) := by
      intro P2 hP2
      intro a2 s kc ks
      refine kks hG rfl rfl ?_
      refine kk_aln hG (x := (some p0)) rfl rfl ?_
      refine kk_gi hG (c := 9) (k := 5) (a := p0) rfl rfl rfl rfl (fun v1 => ?_)
      refine kk_ige hG (t := 36) rfl rfl ?_ ?_
      · refine kks hG rfl rfl ?_
        exact kk_ra hG (x := none) rfl rfl rfl k
      refine kk_aln hG (x := (some p0)) rfl rfl ?_
      refine kk_gp hG (c := 9) (k := 4) (a := p0) rfl rfl rfl rfl (fun v2 => ?_)
      refine kks hG rfl rfl ?_
      refine kk_ob (fun b3 eb3 => ?_)
      subst eb3
      refine kk_aa hG (a := b3) rfl (fun v4 => ?_)
      refine kk_ob (fun b5 eb5 => ?_)
      subst eb5
      refine kk_gp hG (c := 4) (k := 0) (a := b5) rfl rfl rfl rfl (fun v6 => ?_)
      refine kk_aln hG (x := p1) rfl rfl ?_
      refine kk_ane hG (x := v6) (y := p1) (t := 30) rfl rfl ?_ ?_
      · refine kk_inc hG (L' := [(2, .int (a2 + (1 : Int32))), (0, va_rf (some p0)), (1, va_rf p1)]) rfl (Nat.le_of_ble_eq_true rfl) rfl cc_i1 (by cases p1 <;> rfl) ?_
        refine kk_go hG (t := 2) rfl rfl ?_
        exact kk_wl hG [1, 2, 0] rfl (fun hw h => hP2 _ _ _ _ h hw)
      refine kk_aln hG (x := (some p0)) rfl rfl ?_
      refine kk_gp hG (c := 9) (k := 4) (a := p0) rfl rfl rfl rfl (fun v7 => ?_)
      refine kks hG rfl rfl ?_
      refine kk_ob (fun b8 eb8 => ?_)
      subst eb8
      refine kk_aa hG (a := b8) rfl (fun v9 => ?_)
      exact kk_ra hG (x := v9) rfl rfl rfl k
    exact fun a2 s kc ks hw h => h (fun a2 s kc ks => cW sa R base s → G 2 [(0, va_rf (some p0)), (1, va_rf p1), (2, .int a2)] [] (cM R s) kc ks) (fun a2 s kc ks hs hw => H _ (fun _ _ _ _ hp hw => hp hw) a2 s kc ks hw hs) hw
  refine (show KK sa R base G 0 [(0, va_rf (some p0)), (1, va_rf p1)] [] s kc ks (C_Rr_portOn sa p0 p1 s kc ks Q) from ?_) hw h
  refine kk_ic hG rfl cc_i0 ?_
  refine kk_st hG (L' := [(2, .int (0 : Int32)), (0, va_rf (some p0)), (1, va_rf p1)]) rfl rfl (Nat.le_of_ble_eq_true rfl) (by cases p1 <;> rfl) ?_
  exact kk_wl hG [1, 2, 0] rfl (b2 _ _ _ _)
def C_Po_addressOf (sa : Nat → Nat) (p0 : Nat) (p1 : Int32) (s : cS) (kc ks : Nat) (Q : (Option Nat → cS → Nat → Nat → Prop)) : Prop := if p1 = (4 : Int32) then (ob (gP s 4 1 p0) (fun v2 => (Q v2 s kc ks))) else (ob (gP s 4 2 p0) (fun v1 => (Q v1 s kc ks)))
set_option maxRecDepth 100000 in
set_option maxHeartbeats 4000000 in
theorem kc_Po_addressOf (base : Nat) (sa : Nat → Nat) {R : pmM} {s : cS} {kc ks : Nat} {Rt : pmR} {p0 : Nat} {p1 : Int32} {Q : (Option Nat → cS → Nat → Nat → Prop)} (hw : cW sa R base s) (h : C_Po_addressOf sa p0 p1 s kc ks Q) (k : ∀ r s' kc' ks', cW sa R base s' → Q r s' kc' ks' → Rt (some (va_rf r)) (cM R s') kc' ks') : kP_Po_addressOf base sa [.ref p0, .int p1] (cM R s) kc ks Rt := by
  refine ⟨Nat.le_of_ble_eq_true rfl, fun G hG => ?_⟩
  refine (show KK sa R base G 0 [(0, va_rf (some p0)), (1, .int p1)] [] s kc ks (C_Po_addressOf sa p0 p1 s kc ks Q) from ?_) hw h
  refine kks hG rfl rfl ?_
  refine kk_ic hG rfl cc_i4 ?_
  refine kk_ine hG (t := 12) rfl rfl ?_ ?_
  · refine kk_aln hG (x := (some p0)) rfl rfl ?_
    refine kk_gp hG (c := 4) (k := 2) (a := p0) rfl rfl rfl rfl (fun v1 => ?_)
    exact kk_ra hG (x := v1) rfl rfl rfl k
  refine kk_aln hG (x := (some p0)) rfl rfl ?_
  refine kk_gp hG (c := 4) (k := 1) (a := p0) rfl rfl rfl rfl (fun v2 => ?_)
  refine kk_go hG (t := 16) rfl rfl ?_
  exact kk_ra hG (x := v2) rfl rfl rfl k
def C_Pr_sameAddress (sa : Nat → Nat) (p0 : Nat) (p1 : Option Nat) (s : cS) (kc ks : Nat) (Q : (Int32 → cS → Nat → Nat → Prop)) : Prop := ob (gI s 5 0 p0) (fun v1 => (ob p1 (fun b2 => (ob (gI s 5 0 b2) (fun v3 => (if v1 = v3 then (ob (gJ s 5 1 p0) (fun v4 => (ob (gJ s 5 1 b2) (fun v5 => (if v4 = v5 then (ob (gJ s 5 2 p0) (fun v6 => (ob (gJ s 5 2 b2) (fun v7 => (if v6 = v7 then (Q (1 : Int32) s kc ks) else (Q (0 : Int32) s kc ks)))))) else (Q (0 : Int32) s kc ks)))))) else (Q (0 : Int32) s kc ks)))))))
set_option maxRecDepth 100000 in
set_option maxHeartbeats 4000000 in
theorem kc_Pr_sameAddress (base : Nat) (sa : Nat → Nat) {R : pmM} {s : cS} {kc ks : Nat} {Rt : pmR} {p0 : Nat} {p1 : Option Nat} {Q : (Int32 → cS → Nat → Nat → Prop)} (hw : cW sa R base s) (h : C_Pr_sameAddress sa p0 p1 s kc ks Q) (k : ∀ r s' kc' ks', cW sa R base s' → Q r s' kc' ks' → Rt (some (.int r)) (cM R s') kc' ks') : kP_Pr_sameAddress base sa [.ref p0, va_rf p1] (cM R s) kc ks Rt := by
  refine ⟨by cases p1 <;> exact Nat.le_of_ble_eq_true rfl, fun G hG => ?_⟩
  have eL : lv_args 0 [.ref p0, va_rf p1] = [(0, va_rf (some p0)), (1, va_rf p1)] := by cases p1 <;> rfl
  rw [eL]
  refine (show KK sa R base G 0 [(0, va_rf (some p0)), (1, va_rf p1)] [] s kc ks (C_Pr_sameAddress sa p0 p1 s kc ks Q) from ?_) hw h
  refine kk_aln hG (x := (some p0)) rfl rfl ?_
  refine kk_gi hG (c := 5) (k := 0) (a := p0) rfl rfl rfl rfl (fun v1 => ?_)
  refine kk_aln hG (x := p1) rfl rfl ?_
  refine kk_ob (fun b2 eb2 => ?_)
  subst eb2
  refine kk_gi hG (c := 5) (k := 0) (a := b2) rfl rfl rfl rfl (fun v3 => ?_)
  refine kk_ine hG (t := 39) rfl rfl ?_ ?_
  · refine kk_ic hG rfl cc_i0 ?_
    exact kk_ri hG rfl rfl rfl k
  refine kk_aln hG (x := (some p0)) rfl rfl ?_
  refine kk_gj hG (c := 5) (k := 1) (a := p0) rfl rfl rfl rfl (fun v4 => ?_)
  refine kk_aln hG (x := (some b2)) rfl rfl ?_
  refine kk_gj hG (c := 5) (k := 1) (a := b2) rfl rfl rfl rfl (fun v5 => ?_)
  refine kks hG rfl rfl ?_
  refine kk_lne hG (t := 39) rfl rfl ?_ ?_
  · refine kk_ic hG rfl cc_i0 ?_
    exact kk_ri hG rfl rfl rfl k
  refine kk_aln hG (x := (some p0)) rfl rfl ?_
  refine kk_gj hG (c := 5) (k := 2) (a := p0) rfl rfl rfl rfl (fun v6 => ?_)
  refine kk_aln hG (x := (some b2)) rfl rfl ?_
  refine kk_gj hG (c := 5) (k := 2) (a := b2) rfl rfl rfl rfl (fun v7 => ?_)
  refine kks hG rfl rfl ?_
  refine kk_lne hG (t := 39) rfl rfl ?_ ?_
  · refine kk_ic hG rfl cc_i0 ?_
    exact kk_ri hG rfl rfl rfl k
  refine kk_ic hG rfl cc_i1 ?_
  refine kk_go hG (t := 40) rfl rfl ?_
  exact kk_ri hG rfl rfl rfl k
def C_Rr_hearer_b42 (sa : Nat → Nat) (p1 : Option Nat) (a2 : Option Nat) (u0 : Option Nat) (s : cS) (kc ks : Nat) (Q : (Option Nat → cS → Nat → Nat → Prop)) : Prop := if u0 = none then (Q none s kc ks) else (ob p1 (fun b1 => (ob (gI s 2 3 b1) (fun v2 => (if v2 = 0 then (ob (gP s 2 2 b1) (fun v3 => (ob u0 (fun b4 => (okO s 5 b4 ∧ C_Pr_sameAddress sa b4 v3 s kc ks (fun r5 sr5 cr5 dr5 => (if r5 = 0 then (Q none sr5 cr5 dr5) else (Q a2 sr5 cr5 dr5)))))))) else (Q a2 s kc ks))))))
def C_Rr_hearer (sa : Nat → Nat) (p0 : Nat) (p1 : Option Nat) (s : cS) (kc ks : Nat) (Q : (Option Nat → cS → Nat → Nat → Prop)) : Prop := ob (gI s 9 3 p0) (fun v1 => (if v1 = 0 then (Q none s kc ks) else (ob p1 (fun b2 => (ob (gP s 2 7 b2) (fun v3 => (if v3 = (some p0) then (Q none s kc ks) else (ob (gP s 2 8 b2) (fun v4 => (okO s 9 p0 ∧ C_Rr_portOn sa p0 v4 s kc ks (fun r5 sr5 cr5 dr5 => (if r5 = none then ((C_Rr_hearer_b42 sa (some b2) r5 none sr5 cr5 dr5 Q)) else (ob (gI sr5 2 4 b2) (fun v6 => (ob r5 (fun b7 => (okO sr5 4 b7 ∧ C_Po_addressOf sa b7 v6 sr5 cr5 dr5 (fun r8 sr8 cr8 dr8 => ((C_Rr_hearer_b42 sa (some b2) (some b7) r8 sr8 cr8 dr8 Q))))))))))))))))))))
set_option maxRecDepth 100000 in
set_option maxHeartbeats 4000000 in
theorem kc_Rr_hearer (base : Nat) (sa : Nat → Nat) {R : pmM} {s : cS} {kc ks : Nat} {Rt : pmR} {p0 : Nat} {p1 : Option Nat} {Q : (Option Nat → cS → Nat → Nat → Prop)} (hw : cW sa R base s) (h : C_Rr_hearer sa p0 p1 s kc ks Q) (k : ∀ r s' kc' ks', cW sa R base s' → Q r s' kc' ks' → Rt (some (va_rf r)) (cM R s') kc' ks') : kP_Rr_hearer base sa [.ref p0, va_rf p1] (cM R s) kc ks Rt := by
  refine ⟨by cases p1 <;> exact Nat.le_of_ble_eq_true rfl, fun G hG => ?_⟩
  have eL : lv_args 0 [.ref p0, va_rf p1] = [(0, va_rf (some p0)), (1, va_rf p1)] := by cases p1 <;> rfl
  rw [eL]
  have b42 : ∀ (a2 : Option Nat) (u0 : Option Nat) (s : cS) (kc ks : Nat), KK sa R base G 42 [(1, va_rf p1), (2, va_rf a2)] [va_rf u0] s kc ks (C_Rr_hearer_b42 sa p1 a2 u0 s kc ks Q) := by
    intro a2 u0 s kc ks
    refine kk_asn hG (x := u0) (L' := [(3, va_rf u0), (1, va_rf p1), (2, va_rf a2)]) rfl (Nat.le_of_ble_eq_true rfl) (by cases a2 <;> rfl) ?_
    refine kk_aln hG (x := u0) rfl rfl ?_
    refine kk_nul hG (x := u0) (t := 65) rfl rfl ?_ ?_
    · refine kks hG rfl rfl ?_
      exact kk_ra hG (x := none) rfl rfl rfl k
    refine kk_aln hG (x := p1) rfl rfl ?_
    refine kk_ob (fun b1 eb1 => ?_)
    subst eb1
    refine kk_gi hG (c := 2) (k := 3) (a := b1) rfl rfl rfl rfl (fun v2 => ?_)
    refine kk_zne hG (t := 67) rfl rfl ?_ ?_
    · refine kk_aln hG (x := a2) rfl rfl ?_
      exact kk_ra hG (x := a2) rfl rfl rfl k
    refine kk_aln hG (x := u0) rfl rfl ?_
    refine kk_aln hG (x := (some b1)) rfl rfl ?_
    refine kk_gp hG (c := 2) (k := 2) (a := b1) rfl rfl rfl rfl (fun v3 => ?_)
    refine kk_ob (fun b4 eb4 => ?_)
    subst eb4
    refine kk_cx (w := .int) hG 0 rfl rfl (Nat.le_of_ble_eq_true rfl) (by decide) rfl (st' := []) rfl (cats_le (Nat.le_of_ble_eq_true rfl)) (fun _ hw h k => kk_rcv h.1 (kc_Pr_sameAddress base sa hw h.2 k)) (fun r5 sr5 cr5 dr5 => ?_)
    refine kk_zne hG (t := 67) rfl rfl ?_ ?_
    · refine kk_aln hG (x := a2) rfl rfl ?_
      exact kk_ra hG (x := a2) rfl rfl rfl k
    refine kks hG rfl rfl ?_
    exact kk_ra hG (x := none) rfl rfl rfl k
  refine (show KK sa R base G 0 [(0, va_rf (some p0)), (1, va_rf p1)] [] s kc ks (C_Rr_hearer sa p0 p1 s kc ks Q) from ?_) hw h
  refine kk_aln hG (x := (some p0)) rfl rfl ?_
  refine kk_gi hG (c := 9) (k := 3) (a := p0) rfl rfl rfl rfl (fun v1 => ?_)
  refine kk_zeq hG (t := 15) rfl rfl ?_ ?_
  · refine kks hG rfl rfl ?_
    exact kk_ra hG (x := none) rfl rfl rfl k
  refine kk_aln hG (x := p1) rfl rfl ?_
  refine kk_ob (fun b2 eb2 => ?_)
  subst eb2
  refine kk_gp hG (c := 2) (k := 7) (a := b2) rfl rfl rfl rfl (fun v3 => ?_)
  refine kk_aln hG (x := (some p0)) rfl rfl ?_
  refine kk_ane hG (x := v3) (y := (some p0)) (t := 17) rfl rfl ?_ ?_
  · refine kk_aln hG (x := (some p0)) rfl rfl ?_
    refine kk_aln hG (x := (some b2)) rfl rfl ?_
    refine kk_gp hG (c := 2) (k := 8) (a := b2) rfl rfl rfl rfl (fun v4 => ?_)
    refine kk_cx (w := va_rf) hG 0 rfl rfl (Nat.le_of_ble_eq_true rfl) (by decide) rfl (st' := []) rfl (cats_le (Nat.le_of_ble_eq_true rfl)) (fun _ hw h k => kk_rcv h.1 (kc_Rr_portOn base sa hw h.2 k)) (fun r5 sr5 cr5 dr5 => ?_)
    refine kk_asn hG (x := r5) (L' := [(2, va_rf r5), (0, va_rf (some p0)), (1, va_rf (some b2))]) rfl (Nat.le_of_ble_eq_true rfl) rfl ?_
    refine kk_aln hG (x := r5) rfl rfl ?_
    refine kk_nnl hG (x := r5) (t := 34) rfl rfl ?_ ?_
    · refine kk_aln hG (x := r5) rfl rfl ?_
      refine kk_aln hG (x := (some b2)) rfl rfl ?_
      refine kk_gi hG (c := 2) (k := 4) (a := b2) rfl rfl rfl rfl (fun v6 => ?_)
      refine kk_ob (fun b7 eb7 => ?_)
      subst eb7
      refine kk_cx (w := va_rf) hG 0 rfl rfl (Nat.le_of_ble_eq_true rfl) (by decide) rfl (st' := []) rfl (cats_le (Nat.le_of_ble_eq_true rfl)) (fun _ hw h k => kk_rcv h.1 (kc_Po_addressOf base sa hw h.2 k)) (fun r8 sr8 cr8 dr8 => ?_)
      exact kk_wl hG [2, 0] rfl (b42 _ _ _ _ _)
    refine kks hG rfl rfl ?_
    refine kk_go hG (t := 42) rfl rfl ?_
    exact kk_wl hG [2, 0] rfl (b42 _ _ _ _ _)
  refine kks hG rfl rfl ?_
  exact kk_ra hG (x := none) rfl rfl rfl k
def C_Pr_covers (sa : Nat → Nat) (p0 : Nat) (p1 : Option Nat) (s : cS) (kc ks : Nat) (Q : (Int32 → cS → Nat → Nat → Prop)) : Prop := ob (gI s 5 0 p0) (fun v1 => (ob p1 (fun b2 => (ob (gI s 5 0 b2) (fun v3 => (if v1 = v3 then (ob (gI s 5 3 p0) (fun v4 => (ob (gI s 5 3 b2) (fun v5 => (if v5 < v4 then (Q (0 : Int32) s kc ks) else (ob (gJ s 5 1 p0) (fun v6 => (ob (gJ s 5 1 b2) (fun v7 => (ob (gJ s 5 2 p0) (fun v8 => (ob (gJ s 5 2 b2) (fun v9 => (ob (gI s 5 3 p0) (fun v10 => (if (64 : Int32) < v10 then (if (v6 ^^^ v7) = (0 : Int64) then (ob (gI s 5 3 p0) (fun v11 => (if (ush_L (v8 ^^^ v9) ((128 : Int32) - v11)) = (0 : Int64) then (Q (1 : Int32) s kc ks) else (Q (0 : Int32) s kc ks)))) else (Q (0 : Int32) s kc ks)) else (ob (gI s 5 3 p0) (fun v12 => (if 0 < v12 then (ob (gI s 5 3 p0) (fun v13 => (if (ush_L (v6 ^^^ v7) ((64 : Int32) - v13)) = (0 : Int64) then (Q (1 : Int32) s kc ks) else (Q (0 : Int32) s kc ks)))) else (Q (1 : Int32) s kc ks)))))))))))))))))))) else (Q (0 : Int32) s kc ks)))))))
set_option maxRecDepth 100000 in
set_option maxHeartbeats 4000000 in
theorem kc_Pr_covers (base : Nat) (sa : Nat → Nat) {R : pmM} {s : cS} {kc ks : Nat} {Rt : pmR} {p0 : Nat} {p1 : Option Nat} {Q : (Int32 → cS → Nat → Nat → Prop)} (hw : cW sa R base s) (h : C_Pr_covers sa p0 p1 s kc ks Q) (k : ∀ r s' kc' ks', cW sa R base s' → Q r s' kc' ks' → Rt (some (.int r)) (cM R s') kc' ks') : kP_Pr_covers base sa [.ref p0, va_rf p1] (cM R s) kc ks Rt := by
  refine ⟨by cases p1 <;> exact Nat.le_of_ble_eq_true rfl, fun G hG => ?_⟩
  have eL : lv_args 0 [.ref p0, va_rf p1] = [(0, va_rf (some p0)), (1, va_rf p1)] := by cases p1 <;> rfl
  rw [eL]
  refine (show KK sa R base G 0 [(0, va_rf (some p0)), (1, va_rf p1)] [] s kc ks (C_Pr_covers sa p0 p1 s kc ks Q) from ?_) hw h
  refine kk_aln hG (x := (some p0)) rfl rfl ?_
  refine kk_gi hG (c := 5) (k := 0) (a := p0) rfl rfl rfl rfl (fun v1 => ?_)
  refine kk_aln hG (x := p1) rfl rfl ?_
  refine kk_ob (fun b2 eb2 => ?_)
  subst eb2
  refine kk_gi hG (c := 5) (k := 0) (a := b2) rfl rfl rfl rfl (fun v3 => ?_)
  refine kk_ine hG (t := 22) rfl rfl ?_ ?_
  · refine kk_ic hG rfl cc_i0 ?_
    exact kk_ri hG rfl rfl rfl k
  refine kk_aln hG (x := (some p0)) rfl rfl ?_
  refine kk_gi hG (c := 5) (k := 3) (a := p0) rfl rfl rfl rfl (fun v4 => ?_)
  refine kk_aln hG (x := (some b2)) rfl rfl ?_
  refine kk_gi hG (c := 5) (k := 3) (a := b2) rfl rfl rfl rfl (fun v5 => ?_)
  refine kk_ile hG (t := 24) rfl rfl ?_ ?_
  · refine kk_aln hG (x := (some p0)) rfl rfl ?_
    refine kk_gj hG (c := 5) (k := 1) (a := p0) rfl rfl rfl rfl (fun v6 => ?_)
    refine kk_aln hG (x := (some b2)) rfl rfl ?_
    refine kk_gj hG (c := 5) (k := 1) (a := b2) rfl rfl rfl rfl (fun v7 => ?_)
    refine kks hG rfl rfl ?_
    refine kk_st hG (L' := [(2, .long (v6 ^^^ v7)), (0, va_rf (some p0)), (1, va_rf (some b2))]) rfl rfl (Nat.le_of_ble_eq_true rfl) rfl ?_
    refine kk_aln hG (x := (some p0)) rfl rfl ?_
    refine kk_gj hG (c := 5) (k := 2) (a := p0) rfl rfl rfl rfl (fun v8 => ?_)
    refine kk_aln hG (x := (some b2)) rfl rfl ?_
    refine kk_gj hG (c := 5) (k := 2) (a := b2) rfl rfl rfl rfl (fun v9 => ?_)
    refine kks hG rfl rfl ?_
    refine kk_st hG (L' := [(4, .long (v8 ^^^ v9)), (2, .long (v6 ^^^ v7)), (0, va_rf (some p0)), (1, va_rf (some b2))]) rfl rfl (Nat.le_of_ble_eq_true rfl) rfl ?_
    refine kk_aln hG (x := (some p0)) rfl rfl ?_
    refine kk_gi hG (c := 5) (k := 3) (a := p0) rfl rfl rfl rfl (fun v10 => ?_)
    refine kk_bi hG rfl cc_b64 ?_
    refine kk_igt hG (t := 81) rfl rfl ?_ ?_
    · refine kks hG rfl rfl ?_
      refine kk_lc hG (c := 0) (v := 0) rfl rfl ?_
      refine kks hG rfl rfl ?_
      refine kk_lne hG (t := 107) rfl rfl ?_ ?_
      · refine kk_ic hG rfl cc_i0 ?_
        exact kk_ri hG rfl rfl rfl k
      refine kks hG rfl rfl ?_
      refine kk_si hG rfl cc_s128 ?_
      refine kk_aln hG (x := (some p0)) rfl rfl ?_
      refine kk_gi hG (c := 5) (k := 3) (a := p0) rfl rfl rfl rfl (fun v11 => ?_)
      refine kks hG rfl rfl ?_
      refine kks hG rfl rfl ?_
      refine kk_lc hG (c := 0) (v := 0) rfl rfl ?_
      refine kks hG rfl rfl ?_
      refine kk_lne hG (t := 107) rfl rfl ?_ ?_
      · refine kk_ic hG rfl cc_i0 ?_
        exact kk_ri hG rfl rfl rfl k
      refine kk_ic hG rfl cc_i1 ?_
      refine kk_go hG (t := 108) rfl rfl ?_
      exact kk_ri hG rfl rfl rfl k
    refine kk_aln hG (x := (some p0)) rfl rfl ?_
    refine kk_gi hG (c := 5) (k := 3) (a := p0) rfl rfl rfl rfl (fun v12 => ?_)
    refine kk_zle hG (t := 75) rfl rfl ?_ ?_
    · refine kk_ic hG rfl cc_i1 ?_
      refine kk_go hG (t := 80) rfl rfl ?_
      exact kk_ri hG rfl rfl rfl k
    refine kks hG rfl rfl ?_
    refine kk_bi hG rfl cc_b64 ?_
    refine kk_aln hG (x := (some p0)) rfl rfl ?_
    refine kk_gi hG (c := 5) (k := 3) (a := p0) rfl rfl rfl rfl (fun v13 => ?_)
    refine kks hG rfl rfl ?_
    refine kks hG rfl rfl ?_
    refine kk_lc hG (c := 0) (v := 0) rfl rfl ?_
    refine kks hG rfl rfl ?_
    refine kk_lne hG (t := 79) rfl rfl ?_ ?_
    · refine kk_ic hG rfl cc_i0 ?_
      exact kk_ri hG rfl rfl rfl k
    refine kk_ic hG rfl cc_i1 ?_
    refine kk_go hG (t := 80) rfl rfl ?_
    exact kk_ri hG rfl rfl rfl k
  refine kk_ic hG rfl cc_i0 ?_
  exact kk_ri hG rfl rfl rfl k
def C_By_at (sa : Nat → Nat) (p0 : Nat) (p1 : Int32) (s : cS) (kc ks : Nat) (Q : (Int32 → cS → Nat → Nat → Prop)) : Prop := if p1 < 0 then (Q ((-1) : Int32) s kc ks) else (ob (gI s 0 1 p0) (fun v1 => (if p1 < v1 then (ob (gP s 0 0 p0) (fun v2 => (ob v2 (fun b3 => (ob (rE s .byte b3 p1) (fun v4 => (Q (v4 &&& (255 : Int32)) s kc ks))))))) else (Q ((-1) : Int32) s kc ks))))
set_option maxRecDepth 100000 in
set_option maxHeartbeats 4000000 in
theorem kc_By_at (base : Nat) (sa : Nat → Nat) {R : pmM} {s : cS} {kc ks : Nat} {Rt : pmR} {p0 : Nat} {p1 : Int32} {Q : (Int32 → cS → Nat → Nat → Prop)} (hw : cW sa R base s) (h : C_By_at sa p0 p1 s kc ks Q) (k : ∀ r s' kc' ks', cW sa R base s' → Q r s' kc' ks' → Rt (some (.int r)) (cM R s') kc' ks') : kP_By_at base sa [.ref p0, .int p1] (cM R s) kc ks Rt := by
  refine ⟨Nat.le_of_ble_eq_true rfl, fun G hG => ?_⟩
  refine (show KK sa R base G 0 [(0, va_rf (some p0)), (1, .int p1)] [] s kc ks (C_By_at sa p0 p1 s kc ks Q) from ?_) hw h
  refine kks hG rfl rfl ?_
  refine kk_zlt hG (t := 12) rfl rfl ?_ ?_
  · refine kk_ic hG rfl cc_im1 ?_
    refine kk_go hG (t := 26) rfl rfl ?_
    exact kk_ri hG rfl rfl rfl k
  refine kks hG rfl rfl ?_
  refine kk_aln hG (x := (some p0)) rfl rfl ?_
  refine kk_gi hG (c := 0) (k := 1) (a := p0) rfl rfl rfl rfl (fun v1 => ?_)
  refine kk_ilt hG (t := 16) rfl rfl ?_ ?_
  · refine kk_aln hG (x := (some p0)) rfl rfl ?_
    refine kk_gp hG (c := 0) (k := 0) (a := p0) rfl rfl rfl rfl (fun v2 => ?_)
    refine kks hG rfl rfl ?_
    refine kk_ob (fun b3 eb3 => ?_)
    subst eb3
    refine kk_ba hG (a := b3) rfl (fun v4 => ?_)
    refine kk_si hG rfl cc_s255 ?_
    refine kks hG rfl rfl ?_
    exact kk_ri hG rfl rfl rfl k
  refine kk_ic hG rfl cc_im1 ?_
  refine kk_go hG (t := 26) rfl rfl ?_
  exact kk_ri hG rfl rfl rfl k
def C_By_zerosAt_s2 (sa : Nat → Nat) (p0 : Nat) (p2 : Int32) (a3 : Int32) (s : cS) (kc ks : Nat) (Q : (Int32 → cS → Nat → Nat → Prop)) (P2 : (Int32 → cS → Nat → Nat → Prop)) : Prop := if a3 < p2 then (okO s 0 p0 ∧ C_By_at sa p0 a3 s kc ks (fun r1 sr1 cr1 dr1 => (if r1 = 0 then ((P2 (a3 + (1 : Int32)) sr1 cr1 dr1)) else ((Q (0 : Int32) sr1 cr1 dr1))))) else ((Q (1 : Int32) s kc ks))
def C_By_zerosAt_b2 (sa : Nat → Nat) (p0 : Nat) (p2 : Int32) (a3 : Int32) (s : cS) (kc ks : Nat) (Q : (Int32 → cS → Nat → Nat → Prop)) : Prop := ∀ P2 : (Int32 → cS → Nat → Nat → Prop), (∀ (a3 : Int32) (s : cS) (kc ks : Nat), C_By_zerosAt_s2 sa p0 p2 a3 s kc ks Q P2 → P2 a3 s kc ks) → P2 a3 s kc ks
def C_By_zerosAt (sa : Nat → Nat) (p0 : Nat) (p1 : Int32) (p2 : Int32) (s : cS) (kc ks : Nat) (Q : (Int32 → cS → Nat → Nat → Prop)) : Prop := (C_By_zerosAt_b2 sa p0 p2 p1 s kc ks Q)
set_option maxRecDepth 100000 in
set_option maxHeartbeats 4000000 in
theorem kc_By_zerosAt (base : Nat) (sa : Nat → Nat) {R : pmM} {s : cS} {kc ks : Nat} {Rt : pmR} {p0 : Nat} {p1 : Int32} {p2 : Int32} {Q : (Int32 → cS → Nat → Nat → Prop)} (hw : cW sa R base s) (h : C_By_zerosAt sa p0 p1 p2 s kc ks Q) (k : ∀ r s' kc' ks', cW sa R base s' → Q r s' kc' ks' → Rt (some (.int r)) (cM R s') kc' ks') : kP_By_zerosAt base sa [.ref p0, .int p1, .int p2] (cM R s) kc ks Rt := by
  refine ⟨Nat.le_of_ble_eq_true rfl, fun G hG => ?_⟩
  have b2 : ∀ (a3 : Int32) (s : cS) (kc ks : Nat), KK sa R base G 2 [(0, va_rf (some p0)), (2, .int p2), (3, .int a3)] [] s kc ks (C_By_zerosAt_b2 sa p0 p2 a3 s kc ks Q) := by
    have H : ∀ (P2 : (Int32 → cS → Nat → Nat → Prop)) (hP2 : ∀ (a3 : Int32) (s : cS) (kc ks : Nat), P2 a3 s kc ks → cW sa R base s → G 2 [(0, va_rf (some p0)), (2, .int p2), (3, .int a3)] [] (cM R s) kc ks) (a3 : Int32) (s : cS) (kc ks : Nat), KK sa R base G 2 [(0, va_rf (some p0)), (2, .int p2), (3, .int a3)] [] s kc ks (C_By_zerosAt_s2 sa p0 p2 a3 s kc ks Q P2) := by
      intro P2 hP2
      intro a3 s kc ks
      refine kks hG rfl rfl ?_
      refine kks hG rfl rfl ?_
      refine kk_ige hG (t := 23) rfl rfl ?_ ?_
      · refine kk_ic hG rfl cc_i1 ?_
        exact kk_ri hG rfl rfl rfl k
      refine kk_aln hG (x := (some p0)) rfl rfl ?_
      refine kks hG rfl rfl ?_
      refine kk_cx (w := .int) hG 0 rfl rfl (Nat.le_of_ble_eq_true rfl) (by decide) rfl (st' := []) rfl (cats_le (Nat.le_of_ble_eq_true rfl)) (fun _ hw h k => kk_rcv h.1 (kc_By_at base sa hw h.2 k)) (fun r1 sr1 cr1 dr1 => ?_)
      refine kk_zeq hG (t := 17) rfl rfl ?_ ?_
      · refine kk_inc hG (L' := [(3, .int (a3 + (1 : Int32))), (0, va_rf (some p0)), (2, .int p2)]) rfl (Nat.le_of_ble_eq_true rfl) rfl cc_i1 rfl ?_
        refine kk_go hG (t := 2) rfl rfl ?_
        exact kk_wl hG [1, 2, 0] rfl (fun hw h => hP2 _ _ _ _ h hw)
      refine kk_ic hG rfl cc_i0 ?_
      exact kk_ri hG rfl rfl rfl k
    exact fun a3 s kc ks hw h => h (fun a3 s kc ks => cW sa R base s → G 2 [(0, va_rf (some p0)), (2, .int p2), (3, .int a3)] [] (cM R s) kc ks) (fun a3 s kc ks hs hw => H _ (fun _ _ _ _ hp hw => hp hw) a3 s kc ks hw hs) hw
  refine (show KK sa R base G 0 [(0, va_rf (some p0)), (1, .int p1), (2, .int p2)] [] s kc ks (C_By_zerosAt sa p0 p1 p2 s kc ks Q) from ?_) hw h
  refine kks hG rfl rfl ?_
  refine kk_st hG (L' := [(3, .int p1), (0, va_rf (some p0)), (1, .int p1), (2, .int p2)]) rfl rfl (Nat.le_of_ble_eq_true rfl) rfl ?_
  exact kk_wl hG [1, 3, 0] rfl (b2 _ _ _ _)
def C_Da_isWellFormed_b93 (sa : Nat → Nat) (p0 : Nat) (u0 : Int32) (u1 : Int32) (s : cS) (kc ks : Nat) (Q : (Int32 → cS → Nat → Nat → Prop)) : Prop := if u0 = u1 then (ob (gP s 2 0 p0) (fun v1 => (ob v1 (fun b2 => (okO s 0 b2 ∧ C_By_zerosAt sa b2 (2 : Int32) (4 : Int32) s kc ks (fun r3 sr3 cr3 dr3 => (if r3 = 0 then (Q (0 : Int32) sr3 cr3 dr3) else (Q (1 : Int32) sr3 cr3 dr3)))))))) else (Q (0 : Int32) s kc ks)
def C_Da_isWellFormed_b72 (sa : Nat → Nat) (p0 : Nat) (s : cS) (kc ks : Nat) (Q : (Int32 → cS → Nat → Nat → Prop)) : Prop := ob (gP s 2 0 p0) (fun v1 => (ob v1 (fun b2 => (okO s 0 b2 ∧ C_By_at sa b2 (1 : Int32) s kc ks (fun r3 sr3 cr3 dr3 => (ob (gI sr3 2 4 p0) (fun v4 => (if v4 = (4 : Int32) then ((C_Da_isWellFormed_b93 sa p0 r3 (2 : Int32) sr3 cr3 dr3 Q)) else ((C_Da_isWellFormed_b93 sa p0 r3 (1 : Int32) sr3 cr3 dr3 Q))))))))))
def C_Da_isWellFormed_b59 (sa : Nat → Nat) (p0 : Nat) (a2 : Int32) (u0 : Int32) (u1 : Int32) (s : cS) (kc ks : Nat) (Q : (Int32 → cS → Nat → Nat → Prop)) : Prop := if u1 < u0 then (Q (0 : Int32) s kc ks) else (if a2 = (1 : Int32) then ((C_Da_isWellFormed_b72 sa p0 s kc ks Q)) else (if a2 = (2 : Int32) then ((C_Da_isWellFormed_b72 sa p0 s kc ks Q)) else (Q (0 : Int32) s kc ks)))
def C_Da_isWellFormed (sa : Nat → Nat) (p0 : Nat) (s : cS) (kc ks : Nat) (Q : (Int32 → cS → Nat → Nat → Prop)) : Prop := ob (gP s 2 0 p0) (fun v1 => (ob v1 (fun b2 => (ob (gI s 0 1 b2) (fun v3 => (ob (gP s 2 0 p0) (fun v4 => (ob v4 (fun b5 => (okO s 0 b5 ∧ C_By_at sa b5 (0 : Int32) s kc ks (fun r6 sr6 cr6 dr6 => (ob (gP sr6 2 0 p0) (fun v7 => (ob v7 (fun b8 => (ob (gI sr6 0 1 b8) (fun v9 => (if v9 = ((4 : Int32) + (((v3 - (4 : Int32)) / (20 : Int32)) * (20 : Int32))) then (if ((v3 - (4 : Int32)) / (20 : Int32)) < (1 : Int32) then (Q (0 : Int32) sr6 cr6 dr6) else (ob (gI sr6 2 4 p0) (fun v10 => (if v10 = (4 : Int32) then ((C_Da_isWellFormed_b59 sa p0 r6 ((v3 - (4 : Int32)) / (20 : Int32)) (28 : Int32) sr6 cr6 dr6 Q)) else ((C_Da_isWellFormed_b59 sa p0 r6 ((v3 - (4 : Int32)) / (20 : Int32)) (25 : Int32) sr6 cr6 dr6 Q)))))) else (Q (0 : Int32) sr6 cr6 dr6)))))))))))))))))))
set_option maxRecDepth 100000 in
set_option maxHeartbeats 4000000 in
theorem kc_Da_isWellFormed (base : Nat) (sa : Nat → Nat) {R : pmM} {s : cS} {kc ks : Nat} {Rt : pmR} {p0 : Nat} {Q : (Int32 → cS → Nat → Nat → Prop)} (hw : cW sa R base s) (h : C_Da_isWellFormed sa p0 s kc ks Q) (k : ∀ r s' kc' ks', cW sa R base s' → Q r s' kc' ks' → Rt (some (.int r)) (cM R s') kc' ks') : kP_Da_isWellFormed base sa [.ref p0] (cM R s) kc ks Rt := by
  refine ⟨Nat.le_of_ble_eq_true rfl, fun G hG => ?_⟩
  have b93 : ∀ (u0 : Int32) (u1 : Int32) (s : cS) (kc ks : Nat), KK sa R base G 93 [(0, va_rf (some p0))] [.int u1, .int u0] s kc ks (C_Da_isWellFormed_b93 sa p0 u0 u1 s kc ks Q) := by
    intro u0 u1 s kc ks
    refine kk_ine hG (t := 112) rfl rfl ?_ ?_
    · refine kk_ic hG rfl cc_i0 ?_
      exact kk_ri hG rfl rfl rfl k
    refine kk_aln hG (x := (some p0)) rfl rfl ?_
    refine kk_gp hG (c := 2) (k := 0) (a := p0) rfl rfl rfl rfl (fun v1 => ?_)
    refine kk_ic hG rfl cc_i2 ?_
    refine kk_ic hG rfl cc_i4 ?_
    refine kk_ob (fun b2 eb2 => ?_)
    subst eb2
    refine kk_cx (w := .int) hG 0 rfl rfl (Nat.le_of_ble_eq_true rfl) (by decide) rfl (st' := []) rfl (cats_le (Nat.le_of_ble_eq_true rfl)) (fun _ hw h k => kk_rcv h.1 (kc_By_zerosAt base sa hw h.2 k)) (fun r3 sr3 cr3 dr3 => ?_)
    refine kk_zeq hG (t := 112) rfl rfl ?_ ?_
    · refine kk_ic hG rfl cc_i0 ?_
      exact kk_ri hG rfl rfl rfl k
    refine kk_ic hG rfl cc_i1 ?_
    refine kk_go hG (t := 113) rfl rfl ?_
    exact kk_ri hG rfl rfl rfl k
  have b72 : ∀ (s : cS) (kc ks : Nat), KK sa R base G 72 [(0, va_rf (some p0))] [] s kc ks (C_Da_isWellFormed_b72 sa p0 s kc ks Q) := by
    intro s kc ks
    refine kk_aln hG (x := (some p0)) rfl rfl ?_
    refine kk_gp hG (c := 2) (k := 0) (a := p0) rfl rfl rfl rfl (fun v1 => ?_)
    refine kk_ic hG rfl cc_i1 ?_
    refine kk_ob (fun b2 eb2 => ?_)
    subst eb2
    refine kk_cx (w := .int) hG 0 rfl rfl (Nat.le_of_ble_eq_true rfl) (by decide) rfl (st' := []) rfl (cats_le (Nat.le_of_ble_eq_true rfl)) (fun _ hw h k => kk_rcv h.1 (kc_By_at base sa hw h.2 k)) (fun r3 sr3 cr3 dr3 => ?_)
    refine kk_aln hG (x := (some p0)) rfl rfl ?_
    refine kk_gi hG (c := 2) (k := 4) (a := p0) rfl rfl rfl rfl (fun v4 => ?_)
    refine kk_ic hG rfl cc_i4 ?_
    refine kk_ine hG (t := 92) rfl rfl ?_ ?_
    · refine kk_ic hG rfl cc_i1 ?_
      exact kk_wl hG [0] rfl (b93 _ _ _ _ _)
    refine kk_ic hG rfl cc_i2 ?_
    refine kk_go hG (t := 93) rfl rfl ?_
    exact kk_wl hG [0] rfl (b93 _ _ _ _ _)
  have b59 : ∀ (a2 : Int32) (u0 : Int32) (u1 : Int32) (s : cS) (kc ks : Nat), KK sa R base G 59 [(0, va_rf (some p0)), (2, .int a2)] [.int u1, .int u0] s kc ks (C_Da_isWellFormed_b59 sa p0 a2 u0 u1 s kc ks Q) := by
    intro a2 u0 u1 s kc ks
    refine kk_igt hG (t := 112) rfl rfl ?_ ?_
    · refine kk_ic hG rfl cc_i0 ?_
      exact kk_ri hG rfl rfl rfl k
    refine kks hG rfl rfl ?_
    refine kk_ic hG rfl cc_i1 ?_
    refine kk_ieq hG (t := 72) rfl rfl ?_ ?_
    · exact kk_wl hG [0] rfl (b72 _ _ _)
    refine kks hG rfl rfl ?_
    refine kk_ic hG rfl cc_i2 ?_
    refine kk_ine hG (t := 112) rfl rfl ?_ ?_
    · refine kk_ic hG rfl cc_i0 ?_
      exact kk_ri hG rfl rfl rfl k
    exact kk_wl hG [0] rfl (b72 _ _ _)
  refine (show KK sa R base G 0 [(0, va_rf (some p0))] [] s kc ks (C_Da_isWellFormed sa p0 s kc ks Q) from ?_) hw h
  refine kk_aln hG (x := (some p0)) rfl rfl ?_
  refine kk_gp hG (c := 2) (k := 0) (a := p0) rfl rfl rfl rfl (fun v1 => ?_)
  refine kk_ob (fun b2 eb2 => ?_)
  subst eb2
  refine kk_gi hG (c := 0) (k := 1) (a := b2) rfl rfl rfl rfl (fun v3 => ?_)
  refine kk_ic hG rfl cc_i4 ?_
  refine kks hG rfl rfl ?_
  refine kk_bi hG rfl cc_b20 ?_
  refine kkc hG rfl rfl (by decide) ?_
  refine kk_st hG (L' := [(1, .int ((v3 - (4 : Int32)) / (20 : Int32))), (0, va_rf (some p0))]) rfl rfl (Nat.le_of_ble_eq_true rfl) rfl ?_
  refine kk_aln hG (x := (some p0)) rfl rfl ?_
  refine kk_gp hG (c := 2) (k := 0) (a := p0) rfl rfl rfl rfl (fun v4 => ?_)
  refine kk_ic hG rfl cc_i0 ?_
  refine kk_ob (fun b5 eb5 => ?_)
  subst eb5
  refine kk_cx (w := .int) hG 0 rfl rfl (Nat.le_of_ble_eq_true rfl) (by decide) rfl (st' := []) rfl (cats_le (Nat.le_of_ble_eq_true rfl)) (fun _ hw h k => kk_rcv h.1 (kc_By_at base sa hw h.2 k)) (fun r6 sr6 cr6 dr6 => ?_)
  refine kk_st hG (L' := [(2, .int r6), (1, .int ((v3 - (4 : Int32)) / (20 : Int32))), (0, va_rf (some p0))]) rfl rfl (Nat.le_of_ble_eq_true rfl) rfl ?_
  refine kk_aln hG (x := (some p0)) rfl rfl ?_
  refine kk_gp hG (c := 2) (k := 0) (a := p0) rfl rfl rfl rfl (fun v7 => ?_)
  refine kk_ob (fun b8 eb8 => ?_)
  subst eb8
  refine kk_gi hG (c := 0) (k := 1) (a := b8) rfl rfl rfl rfl (fun v9 => ?_)
  refine kk_ic hG rfl cc_i4 ?_
  refine kks hG rfl rfl ?_
  refine kk_bi hG rfl cc_b20 ?_
  refine kks hG rfl rfl ?_
  refine kks hG rfl rfl ?_
  refine kk_ine hG (t := 112) rfl rfl ?_ ?_
  · refine kk_ic hG rfl cc_i0 ?_
    exact kk_ri hG rfl rfl rfl k
  refine kks hG rfl rfl ?_
  refine kk_ic hG rfl cc_i1 ?_
  refine kk_ilt hG (t := 112) rfl rfl ?_ ?_
  · refine kk_ic hG rfl cc_i0 ?_
    exact kk_ri hG rfl rfl rfl k
  refine kks hG rfl rfl ?_
  refine kk_aln hG (x := (some p0)) rfl rfl ?_
  refine kk_gi hG (c := 2) (k := 4) (a := p0) rfl rfl rfl rfl (fun v10 => ?_)
  refine kk_ic hG rfl cc_i4 ?_
  refine kk_ine hG (t := 57) rfl rfl ?_ ?_
  · refine kk_bi hG rfl cc_b25 ?_
    exact kk_wl hG [2, 0] rfl (b59 _ _ _ _ _ _)
  refine kk_bi hG rfl cc_b28 ?_
  refine kk_go hG (t := 59) rfl rfl ?_
  exact kk_wl hG [2, 0] rfl (b59 _ _ _ _ _ _)
def C_Da_portOf (sa : Nat → Nat) (p0 : Int32) (s : cS) (kc ks : Nat) (Q : (Int32 → cS → Nat → Nat → Prop)) : Prop := if p0 = (4 : Int32) then (Q (520 : Int32) s kc ks) else (Q (521 : Int32) s kc ks)
set_option maxRecDepth 100000 in
set_option maxHeartbeats 4000000 in
theorem kc_Da_portOf (base : Nat) (sa : Nat → Nat) {R : pmM} {s : cS} {kc ks : Nat} {Rt : pmR} {p0 : Int32} {Q : (Int32 → cS → Nat → Nat → Prop)} (hw : cW sa R base s) (h : C_Da_portOf sa p0 s kc ks Q) (k : ∀ r s' kc' ks', cW sa R base s' → Q r s' kc' ks' → Rt (some (.int r)) (cM R s') kc' ks') : kP_Da_portOf base sa [.int p0] (cM R s) kc ks Rt := by
  refine ⟨Nat.le_of_ble_eq_true rfl, fun G hG => ?_⟩
  refine (show KK sa R base G 0 [(0, .int p0)] [] s kc ks (C_Da_portOf sa p0 s kc ks Q) from ?_) hw h
  refine kks hG rfl rfl ?_
  refine kk_ic hG rfl cc_i4 ?_
  refine kk_ine hG (t := 11) rfl rfl ?_ ?_
  · refine kk_si hG rfl cc_s521 ?_
    exact kk_ri hG rfl rfl rfl k
  refine kk_si hG rfl cc_s520 ?_
  refine kk_go hG (t := 14) rfl rfl ?_
  exact kk_ri hG rfl rfl rfl k
