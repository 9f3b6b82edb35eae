/-! Methods as weakest preconditions, by program: By_add .. Re_is -/
def C_By_add_b53 (sa : Nat → Nat) (p0 : Nat) (p1 : Int32) (s : cS) (kc ks : Nat) (Q : (cS → Nat → Nat → Prop)) : Prop := ob (gP s 0 0 p0) (fun v1 => (ob (gI s 0 1 p0) (fun v2 => (ob v1 (fun b3 => (ob (wEb s b3 v2 (Int8.toInt32 (Int32.toInt8 p1))) (fun s4 => (ob (gI s4 0 1 p0) (fun v5 => (ob (pI s4 0 1 p0 (v5 + (1 : Int32))) (fun s6 => (Q s6 kc ks))))))))))))
def C_By_add_s24 (sa : Nat → Nat) (p0 : Nat) (p1 : Int32) (a2 : Option Nat) (a3 : Int32) (s : cS) (kc ks : Nat) (Q : (cS → Nat → Nat → Prop)) (P24 : (Int32 → cS → Nat → Nat → Prop)) : Prop := ob (gP s 0 0 p0) (fun v1 => (ob v1 (fun b2 => (ob (aL s b2) (fun v3 => (if a3 < v3 then (ob (gP s 0 0 p0) (fun v5 => (ob v5 (fun b6 => (ob (rE s .byte b6 a3) (fun v7 => (ob a2 (fun b8 => (ob (wEb s b8 a3 v7) (fun s9 => ((P24 (a3 + (1 : Int32)) s9 kc ks)))))))))))) else ((ob (pP s 0 0 p0 a2) (fun s4 => ((C_By_add_b53 sa p0 p1 s4 kc ks Q)))))))))))
def C_By_add_b24 (sa : Nat → Nat) (p0 : Nat) (p1 : Int32) (a2 : Option Nat) (a3 : Int32) (s : cS) (kc ks : Nat) (Q : (cS → Nat → Nat → Prop)) : Prop := ∀ P24 : (Int32 → cS → Nat → Nat → Prop), (∀ (a3 : Int32) (s : cS) (kc ks : Nat), C_By_add_s24 sa p0 p1 a2 a3 s kc ks Q P24 → P24 a3 s kc ks) → P24 a3 s kc ks
def C_By_add (sa : Nat → Nat) (p0 : Nat) (p1 : Int32) (s : cS) (kc ks : Nat) (Q : (cS → Nat → Nat → Prop)) : Prop := ob (gI s 0 1 p0) (fun v1 => (ob (gP s 0 0 p0) (fun v2 => (ob v2 (fun b3 => (ob (aL s b3) (fun v4 => (if v1 < v4 then ((C_By_add_b53 sa p0 p1 s kc ks Q)) else (ob (gP s 0 0 p0) (fun v5 => (ob v5 (fun b6 => (ob (aL s b6) (fun v7 => (nwA sa s kc ks .byte (v7 * (2 : Int32)) (fun q8 sq8 cq8 dq8 => ((C_By_add_b24 sa p0 p1 (some q8) (0 : Int32) sq8 cq8 dq8 Q))))))))))))))))))
set_option maxRecDepth 100000 in
set_option maxHeartbeats 4000000 in
theorem kc_By_add (base : Nat) (sa : Nat → Nat) {R : pmM} {s : cS} {kc ks : Nat} {Rt : pmR} {p0 : Nat} {p1 : Int32} {Q : (cS → Nat → Nat → Prop)} (hw : cW sa R base s) (h : C_By_add sa p0 p1 s kc ks Q) (k : ∀ s' kc' ks', cW sa R base s' → Q s' kc' ks' → Rt none (cM R s') kc' ks') : kP_By_add base sa [.ref p0, .int p1] (cM R s) kc ks Rt := by
  refine ⟨Nat.le_of_ble_eq_true rfl, fun G hG => ?_⟩
  have b53 : ∀ (s : cS) (kc ks : Nat), KK sa R base G 53 [(0, va_rf (some p0)), (1, .int p1)] [] s kc ks (C_By_add_b53 sa p0 p1 s kc ks Q) := by
    intro s kc ks
    refine kk_aln hG (x := (some p0)) rfl rfl ?_
    refine kk_gp hG (c := 0) (k := 0) (a := p0) rfl rfl rfl rfl (fun v1 => ?_)
    refine kk_aln hG (x := (some p0)) rfl rfl ?_
    refine kk_gi hG (c := 0) (k := 1) (a := p0) rfl rfl rfl rfl (fun v2 => ?_)
    refine kks hG rfl rfl ?_
    refine kks hG rfl rfl ?_
    refine kk_ob (fun b3 eb3 => ?_)
    subst eb3
    refine kk_bs hG (a := b3) rfl (fun s4 => ?_)
    refine kk_aln hG (x := (some p0)) rfl rfl ?_
    refine kk_dup hG (x := (some p0)) rfl ?_
    refine kk_gi hG (c := 0) (k := 1) (a := p0) rfl rfl rfl rfl (fun v5 => ?_)
    refine kk_ic hG rfl cc_i1 ?_
    refine kks hG rfl rfl ?_
    refine kk_pi hG (c := 0) (k := 1) (a := p0) rfl rfl rfl rfl (fun s6 => ?_)
    exact kk_rv hG rfl rfl k
  have b24 : ∀ (a2 : Option Nat) (a3 : Int32) (s : cS) (kc ks : Nat), KK sa R base G 24 [(0, va_rf (some p0)), (1, .int p1), (2, va_rf a2), (3, .int a3)] [] s kc ks (C_By_add_b24 sa p0 p1 a2 a3 s kc ks Q) := by
    intro a2
    have H : ∀ (P24 : (Int32 → cS → Nat → Nat → Prop)) (hP24 : ∀ (a3 : Int32) (s : cS) (kc ks : Nat), P24 a3 s kc ks → cW sa R base s → G 24 [(0, va_rf (some p0)), (1, .int p1), (2, va_rf a2), (3, .int a3)] [] (cM R s) kc ks) (a3 : Int32) (s : cS) (kc ks : Nat), KK sa R base G 24 [(0, va_rf (some p0)), (1, .int p1), (2, va_rf a2), (3, .int a3)] [] s kc ks (C_By_add_s24 sa p0 p1 a2 a3 s kc ks Q P24) := by
      intro P24 hP24
      intro a3 s kc ks
      refine kks hG rfl rfl ?_
      refine kk_aln hG (x := (some p0)) rfl rfl ?_
      refine kk_gp hG (c := 0) (k := 0) (a := p0) rfl rfl rfl rfl (fun v1 => ?_)
      refine kk_ob (fun b2 eb2 => ?_)
      subst eb2
      refine kk_len hG (a := b2) rfl (fun v3 => ?_)
      refine kk_ige hG (t := 48) rfl rfl ?_ ?_
      · refine kk_aln hG (x := (some p0)) rfl rfl ?_
        refine kk_aln hG (x := a2) rfl rfl ?_
        refine kk_pp hG (c := 0) (k := 0) (a := p0) (v := a2) rfl rfl rfl rfl rfl (fun s4 => ?_)
        exact kk_wl hG [0, 1] rfl (b53 _ _ _)
      refine kk_aln hG (x := a2) rfl rfl ?_
      refine kks hG rfl rfl ?_
      refine kk_aln hG (x := (some p0)) rfl rfl ?_
      refine kk_gp hG (c := 0) (k := 0) (a := p0) rfl rfl rfl rfl (fun v5 => ?_)
      refine kks hG rfl rfl ?_
      refine kk_ob (fun b6 eb6 => ?_)
      subst eb6
      refine kk_ba hG (a := b6) rfl (fun v7 => ?_)
      refine kk_ob (fun b8 eb8 => ?_)
      subst eb8
      refine kk_bs hG (a := b8) rfl (fun s9 => ?_)
      refine kk_inc hG (L' := [(3, .int (a3 + (1 : Int32))), (0, va_rf (some p0)), (1, .int p1), (2, va_rf (some b8))]) rfl (Nat.le_of_ble_eq_true rfl) rfl cc_i1 rfl ?_
      refine kk_go hG (t := 24) rfl rfl ?_
      exact kk_wl hG [1, 2, 3, 0] rfl (fun hw h => hP24 _ _ _ _ h hw)
    exact fun a3 s kc ks hw h => h (fun a3 s kc ks => cW sa R base s → G 24 [(0, va_rf (some p0)), (1, .int p1), (2, va_rf a2), (3, .int a3)] [] (cM R s) kc ks) (fun a3 s kc ks hs hw => H _ (fun _ _ _ _ hp hw => hp hw) a3 s kc ks hw hs) hw
  refine (show KK sa R base G 0 [(0, va_rf (some p0)), (1, .int p1)] [] s kc ks (C_By_add sa p0 p1 s kc ks Q) from ?_) hw h
  refine kk_aln hG (x := (some p0)) rfl rfl ?_
  refine kk_gi hG (c := 0) (k := 1) (a := p0) rfl rfl rfl rfl (fun v1 => ?_)
  refine kk_aln hG (x := (some p0)) rfl rfl ?_
  refine kk_gp hG (c := 0) (k := 0) (a := p0) rfl rfl rfl rfl (fun v2 => ?_)
  refine kk_ob (fun b3 eb3 => ?_)
  subst eb3
  refine kk_len hG (a := b3) rfl (fun v4 => ?_)
  refine kk_ilt hG (t := 53) rfl rfl ?_ ?_
  · exact kk_wl hG [0, 1] rfl (b53 _ _ _)
  refine kk_aln hG (x := (some p0)) rfl rfl ?_
  refine kk_gp hG (c := 0) (k := 0) (a := p0) rfl rfl rfl rfl (fun v5 => ?_)
  refine kk_ob (fun b6 eb6 => ?_)
  subst eb6
  refine kk_len hG (a := b6) rfl (fun v7 => ?_)
  refine kk_ic hG rfl cc_i2 ?_
  refine kks hG rfl rfl ?_
  refine kk_nar hG (ty := .byte) rfl rfl rfl rfl (fun q8 sq8 cq8 dq8 => ?_)
  refine kk_asn hG (x := (some q8)) (L' := [(2, va_rf (some q8)), (0, va_rf (some p0)), (1, .int p1)]) rfl (Nat.le_of_ble_eq_true rfl) rfl ?_
  refine kk_ic hG rfl cc_i0 ?_
  refine kk_st hG (L' := [(3, .int (0 : Int32)), (2, va_rf (some q8)), (0, va_rf (some p0)), (1, .int p1)]) rfl rfl (Nat.le_of_ble_eq_true rfl) rfl ?_
  exact kk_wl hG [2, 3, 1, 0] rfl (b24 _ _ _ _ _)
def C_By_addNumber_s9 (sa : Nat → Nat) (p0 : Nat) (p1 : Int64) (a4 : Int32) (s : cS) (kc ks : Nat) (Q : (cS → Nat → Nat → Prop)) (P9 : (Int32 → cS → Nat → Nat → Prop)) : Prop := if a4 < 0 then ((Q s kc ks)) else (okO s 0 p0 ∧ C_By_add sa p0 (Int64.toInt32 (ush_L p1 a4)) s kc ks (fun sr1 cr1 dr1 => ((P9 (a4 + ((-8) : Int32)) sr1 cr1 dr1))))
def C_By_addNumber_b9 (sa : Nat → Nat) (p0 : Nat) (p1 : Int64) (a4 : Int32) (s : cS) (kc ks : Nat) (Q : (cS → Nat → Nat → Prop)) : Prop := ∀ P9 : (Int32 → cS → Nat → Nat → Prop), (∀ (a4 : Int32) (s : cS) (kc ks : Nat), C_By_addNumber_s9 sa p0 p1 a4 s kc ks Q P9 → P9 a4 s kc ks) → P9 a4 s kc ks
def C_By_addNumber (sa : Nat → Nat) (p0 : Nat) (p1 : Int64) (p3 : Int32) (s : cS) (kc ks : Nat) (Q : (cS → Nat → Nat → Prop)) : Prop := (C_By_addNumber_b9 sa p0 p1 ((p3 * (8 : Int32)) - (8 : Int32)) s kc ks Q)
set_option maxRecDepth 100000 in
set_option maxHeartbeats 4000000 in
theorem kc_By_addNumber (base : Nat) (sa : Nat → Nat) {R : pmM} {s : cS} {kc ks : Nat} {Rt : pmR} {p0 : Nat} {p1 : Int64} {p3 : Int32} {Q : (cS → Nat → Nat → Prop)} (hw : cW sa R base s) (h : C_By_addNumber sa p0 p1 p3 s kc ks Q) (k : ∀ s' kc' ks', cW sa R base s' → Q s' kc' ks' → Rt none (cM R s') kc' ks') : kP_By_addNumber base sa [.ref p0, .long p1, .int p3] (cM R s) kc ks Rt := by
  refine ⟨Nat.le_of_ble_eq_true rfl, fun G hG => ?_⟩
  have b9 : ∀ (a4 : Int32) (s : cS) (kc ks : Nat), KK sa R base G 9 [(0, va_rf (some p0)), (1, .long p1), (4, .int a4)] [] s kc ks (C_By_addNumber_b9 sa p0 p1 a4 s kc ks Q) := by
    have H : ∀ (P9 : (Int32 → cS → Nat → Nat → Prop)) (hP9 : ∀ (a4 : Int32) (s : cS) (kc ks : Nat), P9 a4 s kc ks → cW sa R base s → G 9 [(0, va_rf (some p0)), (1, .long p1), (4, .int a4)] [] (cM R s) kc ks) (a4 : Int32) (s : cS) (kc ks : Nat), KK sa R base G 9 [(0, va_rf (some p0)), (1, .long p1), (4, .int a4)] [] s kc ks (C_By_addNumber_s9 sa p0 p1 a4 s kc ks Q P9) := by
      intro P9 hP9
      intro a4 s kc ks
      refine kks hG rfl rfl ?_
      refine kk_zlt hG (t := 29) rfl rfl ?_ ?_
      · exact kk_rv hG rfl rfl k
      refine kk_aln hG (x := (some p0)) rfl rfl ?_
      refine kks hG rfl rfl ?_
      refine kks hG rfl rfl ?_
      refine kks hG rfl rfl ?_
      refine kks hG rfl rfl ?_
      refine kk_cv hG 0 rfl rfl (Nat.le_of_ble_eq_true rfl) (by decide) rfl (st' := []) rfl (cats_le (Nat.le_of_ble_eq_true rfl)) (fun _ hw h k => kk_rcv h.1 (kc_By_add base sa hw h.2 k)) (fun sr1 cr1 dr1 => ?_)
      refine kk_inc hG (L' := [(4, .int (a4 + ((-8) : Int32))), (0, va_rf (some p0)), (1, .long p1)]) rfl (Nat.le_of_ble_eq_true rfl) rfl cc_im8 rfl ?_
      refine kk_go hG (t := 9) rfl rfl ?_
      exact kk_wl hG [1, 2, 0] rfl (fun hw h => hP9 _ _ _ _ h hw)
    exact fun a4 s kc ks hw h => h (fun a4 s kc ks => cW sa R base s → G 9 [(0, va_rf (some p0)), (1, .long p1), (4, .int a4)] [] (cM R s) kc ks) (fun a4 s kc ks hs hw => H _ (fun _ _ _ _ hp hw => hp hw) a4 s kc ks hw hs) hw
  refine (show KK sa R base G 0 [(0, va_rf (some p0)), (1, .long p1), (3, .int p3)] [] s kc ks (C_By_addNumber sa p0 p1 p3 s kc ks Q) from ?_) hw h
  refine kks hG rfl rfl ?_
  refine kk_bi hG rfl cc_b8 ?_
  refine kks hG rfl rfl ?_
  refine kk_bi hG rfl cc_b8 ?_
  refine kks hG rfl rfl ?_
  refine kk_st hG (L' := [(4, .int ((p3 * (8 : Int32)) - (8 : Int32))), (0, va_rf (some p0)), (1, .long p1), (3, .int p3)]) rfl rfl (Nat.le_of_ble_eq_true rfl) rfl ?_
  exact kk_wl hG [1, 2, 0] rfl (b9 _ _ _ _)
def C_Rf_feed (sa : Nat → Nat) (p0 : Nat) (p1 : Int32) (p2 : Int32) (p3 : Int32) (p4 : Int32) (p5 : Int32) (s : cS) (kc ks : Nat) (Q : (Int32 → cS → Nat → Nat → Prop)) : Prop := ob (gP s 11 0 p0) (fun v1 => (ob v1 (fun b2 => (ob (gI s 0 1 b2) (fun v3 => (if (4096 : Int32) < (v3 + (20 : Int32)) then (Q (0 : Int32) s kc ks) else (ob (gP s 11 0 p0) (fun v4 => (ob v4 (fun b5 => (okO s 0 b5 ∧ C_By_addNumber sa b5 (Int32.toInt64 p1) (4 : Int32) s kc ks (fun sr6 cr6 dr6 => (ob (gP sr6 11 0 p0) (fun v7 => (ob v7 (fun b8 => (okO sr6 0 b8 ∧ C_By_addNumber sa b8 (Int32.toInt64 p2) (4 : Int32) sr6 cr6 dr6 (fun sr9 cr9 dr9 => (ob (gP sr9 11 0 p0) (fun v10 => (ob v10 (fun b11 => (okO sr9 0 b11 ∧ C_By_addNumber sa b11 (Int32.toInt64 p3) (4 : Int32) sr9 cr9 dr9 (fun sr12 cr12 dr12 => (ob (gP sr12 11 0 p0) (fun v13 => (ob v13 (fun b14 => (okO sr12 0 b14 ∧ C_By_addNumber sa b14 (Int32.toInt64 p4) (4 : Int32) sr12 cr12 dr12 (fun sr15 cr15 dr15 => (ob (gP sr15 11 0 p0) (fun v16 => (ob v16 (fun b17 => (okO sr15 0 b17 ∧ C_By_addNumber sa b17 (Int32.toInt64 p5) (4 : Int32) sr15 cr15 dr15 (fun sr18 cr18 dr18 => (Q (1 : Int32) sr18 cr18 dr18)))))))))))))))))))))))))))))))))))))
set_option maxRecDepth 100000 in
set_option maxHeartbeats 4000000 in
theorem kc_Rf_feed (base : Nat) (sa : Nat → Nat) {R : pmM} {s : cS} {kc ks : Nat} {Rt : pmR} {p0 : Nat} {p1 : Int32} {p2 : Int32} {p3 : Int32} {p4 : Int32} {p5 : Int32} {Q : (Int32 → cS → Nat → Nat → Prop)} (hw : cW sa R base s) (h : C_Rf_feed sa p0 p1 p2 p3 p4 p5 s kc ks Q) (k : ∀ r s' kc' ks', cW sa R base s' → Q r s' kc' ks' → Rt (some (.int r)) (cM R s') kc' ks') : kP_Rf_feed base sa [.ref p0, .int p1, .int p2, .int p3, .int p4, .int p5] (cM R s) kc ks Rt := by
  refine ⟨Nat.le_of_ble_eq_true rfl, fun G hG => ?_⟩
  refine (show KK sa R base G 0 [(0, va_rf (some p0)), (1, .int p1), (2, .int p2), (3, .int p3), (4, .int p4), (5, .int p5)] [] s kc ks (C_Rf_feed sa p0 p1 p2 p3 p4 p5 s kc ks Q) from ?_) hw h
  refine kk_aln hG (x := (some p0)) rfl rfl ?_
  refine kk_gp hG (c := 11) (k := 0) (a := p0) rfl rfl rfl rfl (fun v1 => ?_)
  refine kk_ob (fun b2 eb2 => ?_)
  subst eb2
  refine kk_gi hG (c := 0) (k := 1) (a := b2) rfl rfl rfl rfl (fun v3 => ?_)
  refine kk_bi hG rfl cc_b20 ?_
  refine kks hG rfl rfl ?_
  refine kk_si hG rfl cc_s4096 ?_
  refine kk_ile hG (t := 18) rfl rfl ?_ ?_
  · refine kk_aln hG (x := (some p0)) rfl rfl ?_
    refine kk_gp hG (c := 11) (k := 0) (a := p0) rfl rfl rfl rfl (fun v4 => ?_)
    refine kks hG rfl rfl ?_
    refine kks hG rfl rfl ?_
    refine kk_ic hG rfl cc_i4 ?_
    refine kk_ob (fun b5 eb5 => ?_)
    subst eb5
    refine kk_cv hG 0 rfl rfl (Nat.le_of_ble_eq_true rfl) (by decide) rfl (st' := []) rfl (cats_le (Nat.le_of_ble_eq_true rfl)) (fun _ hw h k => kk_rcv h.1 (kc_By_addNumber base sa hw h.2 k)) (fun sr6 cr6 dr6 => ?_)
    refine kk_aln hG (x := (some p0)) rfl rfl ?_
    refine kk_gp hG (c := 11) (k := 0) (a := p0) rfl rfl rfl rfl (fun v7 => ?_)
    refine kks hG rfl rfl ?_
    refine kks hG rfl rfl ?_
    refine kk_ic hG rfl cc_i4 ?_
    refine kk_ob (fun b8 eb8 => ?_)
    subst eb8
    refine kk_cv hG 0 rfl rfl (Nat.le_of_ble_eq_true rfl) (by decide) rfl (st' := []) rfl (cats_le (Nat.le_of_ble_eq_true rfl)) (fun _ hw h k => kk_rcv h.1 (kc_By_addNumber base sa hw h.2 k)) (fun sr9 cr9 dr9 => ?_)
    refine kk_aln hG (x := (some p0)) rfl rfl ?_
    refine kk_gp hG (c := 11) (k := 0) (a := p0) rfl rfl rfl rfl (fun v10 => ?_)
    refine kks hG rfl rfl ?_
    refine kks hG rfl rfl ?_
    refine kk_ic hG rfl cc_i4 ?_
    refine kk_ob (fun b11 eb11 => ?_)
    subst eb11
    refine kk_cv hG 0 rfl rfl (Nat.le_of_ble_eq_true rfl) (by decide) rfl (st' := []) rfl (cats_le (Nat.le_of_ble_eq_true rfl)) (fun _ hw h k => kk_rcv h.1 (kc_By_addNumber base sa hw h.2 k)) (fun sr12 cr12 dr12 => ?_)
    refine kk_aln hG (x := (some p0)) rfl rfl ?_
    refine kk_gp hG (c := 11) (k := 0) (a := p0) rfl rfl rfl rfl (fun v13 => ?_)
    refine kks hG rfl rfl ?_
    refine kks hG rfl rfl ?_
    refine kk_ic hG rfl cc_i4 ?_
    refine kk_ob (fun b14 eb14 => ?_)
    subst eb14
    refine kk_cv hG 0 rfl rfl (Nat.le_of_ble_eq_true rfl) (by decide) rfl (st' := []) rfl (cats_le (Nat.le_of_ble_eq_true rfl)) (fun _ hw h k => kk_rcv h.1 (kc_By_addNumber base sa hw h.2 k)) (fun sr15 cr15 dr15 => ?_)
    refine kk_aln hG (x := (some p0)) rfl rfl ?_
    refine kk_gp hG (c := 11) (k := 0) (a := p0) rfl rfl rfl rfl (fun v16 => ?_)
    refine kks hG rfl rfl ?_
    refine kks hG rfl rfl ?_
    refine kk_ic hG rfl cc_i4 ?_
    refine kk_ob (fun b17 eb17 => ?_)
    subst eb17
    refine kk_cv hG 0 rfl rfl (Nat.le_of_ble_eq_true rfl) (by decide) rfl (st' := []) rfl (cats_le (Nat.le_of_ble_eq_true rfl)) (fun _ hw h k => kk_rcv h.1 (kc_By_addNumber base sa hw h.2 k)) (fun sr18 cr18 dr18 => ?_)
    refine kk_ic hG rfl cc_i1 ?_
    exact kk_ri hG rfl rfl rfl k
  refine kk_ic hG rfl cc_i0 ?_
  exact kk_ri hG rfl rfl rfl k
def C_Rf_end (sa : Nat → Nat) (p0 : Nat) (p1 : Int32) (s : cS) (kc ks : Nat) (Q : (Int32 → cS → Nat → Nat → Prop)) : Prop := if p1 < 0 then (Q (0 : Int32) s kc ks) else (ob (gP s 11 0 p0) (fun v1 => (ob v1 (fun b2 => (ob (gI s 0 1 b2) (fun v3 => (if v3 < p1 then (Q (0 : Int32) s kc ks) else (ob (gP s 11 0 p0) (fun v4 => (ob v4 (fun b5 => (ob (pI s 0 1 b5 p1) (fun s6 => (Q (1 : Int32) s6 kc ks))))))))))))))
set_option maxRecDepth 100000 in
set_option maxHeartbeats 4000000 in
theorem kc_Rf_end (base : Nat) (sa : Nat → Nat) {R : pmM} {s : cS} {kc ks : Nat} {Rt : pmR} {p0 : Nat} {p1 : Int32} {Q : (Int32 → cS → Nat → Nat → Prop)} (hw : cW sa R base s) (h : C_Rf_end sa p0 p1 s kc ks Q) (k : ∀ r s' kc' ks', cW sa R base s' → Q r s' kc' ks' → Rt (some (.int r)) (cM R s') kc' ks') : kP_Rf_end base sa [.ref p0, .int p1] (cM R s) kc ks Rt := by
  refine ⟨Nat.le_of_ble_eq_true rfl, fun G hG => ?_⟩
  refine (show KK sa R base G 0 [(0, va_rf (some p0)), (1, .int p1)] [] s kc ks (C_Rf_end sa p0 p1 s kc ks Q) from ?_) hw h
  refine kks hG rfl rfl ?_
  refine kk_zlt hG (t := 15) rfl rfl ?_ ?_
  · refine kk_ic hG rfl cc_i0 ?_
    exact kk_ri hG rfl rfl rfl k
  refine kks hG rfl rfl ?_
  refine kk_aln hG (x := (some p0)) rfl rfl ?_
  refine kk_gp hG (c := 11) (k := 0) (a := p0) rfl rfl rfl rfl (fun v1 => ?_)
  refine kk_ob (fun b2 eb2 => ?_)
  subst eb2
  refine kk_gi hG (c := 0) (k := 1) (a := b2) rfl rfl rfl rfl (fun v3 => ?_)
  refine kk_ile hG (t := 17) rfl rfl ?_ ?_
  · refine kk_aln hG (x := (some p0)) rfl rfl ?_
    refine kk_gp hG (c := 11) (k := 0) (a := p0) rfl rfl rfl rfl (fun v4 => ?_)
    refine kks hG rfl rfl ?_
    refine kk_ob (fun b5 eb5 => ?_)
    subst eb5
    refine kk_pi hG (c := 0) (k := 1) (a := b5) rfl rfl rfl rfl (fun s6 => ?_)
    refine kk_ic hG rfl cc_i1 ?_
    exact kk_ri hG rfl rfl rfl k
  refine kk_ic hG rfl cc_i0 ?_
  exact kk_ri hG rfl rfl rfl k
def C_Pr_init (sa : Nat → Nat) (p0 : Nat) (s : cS) (kc ks : Nat) (Q : (cS → Nat → Nat → Prop)) : Prop := ob (pI s 5 0 p0 (4 : Int32)) (fun s1 => (ob (pJ s1 5 1 p0 (0 : Int64)) (fun s2 => (ob (pJ s2 5 2 p0 (0 : Int64)) (fun s3 => (ob (pI s3 5 3 p0 (0 : Int32)) (fun s4 => (Q s4 kc ks))))))))
set_option maxRecDepth 100000 in
set_option maxHeartbeats 4000000 in
theorem kc_Pr_init (base : Nat) (sa : Nat → Nat) {R : pmM} {s : cS} {kc ks : Nat} {Rt : pmR} {p0 : Nat} {Q : (cS → Nat → Nat → Prop)} (hw : cW sa R base s) (h : C_Pr_init sa p0 s kc ks Q) (k : ∀ s' kc' ks', cW sa R base s' → Q s' kc' ks' → Rt none (cM R s') kc' ks') : kP_Pr_init base sa [.ref p0] (cM R s) kc ks Rt := by
  refine ⟨Nat.le_of_ble_eq_true rfl, fun G hG => ?_⟩
  refine (show KK sa R base G 0 [(0, va_rf (some p0))] [] s kc ks (C_Pr_init sa p0 s kc ks Q) from ?_) hw h
  refine kk_aln hG (x := (some p0)) rfl rfl ?_
  refine kk_oi hG (a := p0) rfl rfl (Nat.le_of_ble_eq_true rfl) ?_
  refine kk_aln hG (x := (some p0)) rfl rfl ?_
  refine kk_ic hG rfl cc_i4 ?_
  refine kk_pi hG (c := 5) (k := 0) (a := p0) rfl rfl rfl rfl (fun s1 => ?_)
  refine kk_aln hG (x := (some p0)) rfl rfl ?_
  refine kk_lc hG (c := 0) (v := 0) rfl rfl ?_
  refine kk_pj hG (c := 5) (k := 1) (a := p0) rfl rfl rfl rfl (fun s2 => ?_)
  refine kk_aln hG (x := (some p0)) rfl rfl ?_
  refine kk_lc hG (c := 0) (v := 0) rfl rfl ?_
  refine kk_pj hG (c := 5) (k := 2) (a := p0) rfl rfl rfl rfl (fun s3 => ?_)
  refine kk_aln hG (x := (some p0)) rfl rfl ?_
  refine kk_ic hG rfl cc_i0 ?_
  refine kk_pi hG (c := 5) (k := 3) (a := p0) rfl rfl rfl rfl (fun s4 => ?_)
  exact kk_rv hG rfl rfl k
def C_Ch_init (sa : Nat → Nat) (p0 : Nat) (s : cS) (kc ks : Nat) (Q : (cS → Nat → Nat → Prop)) : Prop := ob (pZ s 1 0 p0 (0 : Int32)) (fun s1 => (nwA sa s1 kc ks .byte (16 : Int32) (fun q2 sq2 cq2 dq2 => (ob (pP sq2 1 1 p0 (some q2)) (fun s3 => (ob (pI s3 1 2 p0 (0 : Int32)) (fun s4 => (nwA sa s4 cq2 dq2 .int (4 : Int32) (fun q5 sq5 cq5 dq5 => (ob (pP sq5 1 3 p0 (some q5)) (fun s6 => (nwA sa s6 cq5 dq5 .int (4 : Int32) (fun q7 sq7 cq7 dq7 => (ob (pP sq7 1 4 p0 (some q7)) (fun s8 => (nwA sa s8 cq7 dq7 .int (4 : Int32) (fun q9 sq9 cq9 dq9 => (ob (pP sq9 1 5 p0 (some q9)) (fun s10 => (nwA sa s10 cq9 dq9 .int (4 : Int32) (fun q11 sq11 cq11 dq11 => (ob (pP sq11 1 6 p0 (some q11)) (fun s12 => (nwM sa s12 cq11 dq11 .byte 4 16 (fun q13 sq13 cq13 dq13 => (ob (pP sq13 1 7 p0 (some q13)) (fun s14 => (ob (pP s14 1 8 p0 none) (fun s15 => (ob (pI s15 1 9 p0 (0 : Int32)) (fun s16 => (nwA sa s16 cq13 dq13 .int (5 : Int32) (fun q17 sq17 cq17 dq17 => (ob (pP sq17 1 10 p0 (some q17)) (fun s18 => (nwA sa s18 cq17 dq17 .int (80 : Int32) (fun q19 sq19 cq19 dq19 => (ob (pP sq19 1 11 p0 (some q19)) (fun s20 => (Q s20 cq19 dq19))))))))))))))))))))))))))))))))))))))))
set_option maxRecDepth 100000 in
set_option maxHeartbeats 4000000 in
theorem kc_Ch_init (base : Nat) (sa : Nat → Nat) {R : pmM} {s : cS} {kc ks : Nat} {Rt : pmR} {p0 : Nat} {Q : (cS → Nat → Nat → Prop)} (hw : cW sa R base s) (h : C_Ch_init sa p0 s kc ks Q) (k : ∀ s' kc' ks', cW sa R base s' → Q s' kc' ks' → Rt none (cM R s') kc' ks') : kP_Ch_init base sa [.ref p0] (cM R s) kc ks Rt := by
  refine ⟨Nat.le_of_ble_eq_true rfl, fun G hG => ?_⟩
  refine (show KK sa R base G 0 [(0, va_rf (some p0))] [] s kc ks (C_Ch_init sa p0 s kc ks Q) from ?_) hw h
  refine kk_aln hG (x := (some p0)) rfl rfl ?_
  refine kk_oi hG (a := p0) rfl rfl (Nat.le_of_ble_eq_true rfl) ?_
  refine kk_aln hG (x := (some p0)) rfl rfl ?_
  refine kk_ic hG rfl cc_i0 ?_
  refine kk_pz hG (c := 1) (k := 0) (a := p0) rfl rfl rfl rfl (fun s1 => ?_)
  refine kk_aln hG (x := (some p0)) rfl rfl ?_
  refine kk_bi hG rfl cc_b16 ?_
  refine kk_nar hG (ty := .byte) rfl rfl rfl rfl (fun q2 sq2 cq2 dq2 => ?_)
  refine kk_pp hG (c := 1) (k := 1) (a := p0) (v := (some q2)) rfl rfl rfl rfl rfl (fun s3 => ?_)
  refine kk_aln hG (x := (some p0)) rfl rfl ?_
  refine kk_ic hG rfl cc_i0 ?_
  refine kk_pi hG (c := 1) (k := 2) (a := p0) rfl rfl rfl rfl (fun s4 => ?_)
  refine kk_aln hG (x := (some p0)) rfl rfl ?_
  refine kk_ic hG rfl cc_i4 ?_
  refine kk_nar hG (ty := .int) rfl rfl rfl rfl (fun q5 sq5 cq5 dq5 => ?_)
  refine kk_pp hG (c := 1) (k := 3) (a := p0) (v := (some q5)) rfl rfl rfl rfl rfl (fun s6 => ?_)
  refine kk_aln hG (x := (some p0)) rfl rfl ?_
  refine kk_ic hG rfl cc_i4 ?_
  refine kk_nar hG (ty := .int) rfl rfl rfl rfl (fun q7 sq7 cq7 dq7 => ?_)
  refine kk_pp hG (c := 1) (k := 4) (a := p0) (v := (some q7)) rfl rfl rfl rfl rfl (fun s8 => ?_)
  refine kk_aln hG (x := (some p0)) rfl rfl ?_
  refine kk_ic hG rfl cc_i4 ?_
  refine kk_nar hG (ty := .int) rfl rfl rfl rfl (fun q9 sq9 cq9 dq9 => ?_)
  refine kk_pp hG (c := 1) (k := 5) (a := p0) (v := (some q9)) rfl rfl rfl rfl rfl (fun s10 => ?_)
  refine kk_aln hG (x := (some p0)) rfl rfl ?_
  refine kk_ic hG rfl cc_i4 ?_
  refine kk_nar hG (ty := .int) rfl rfl rfl rfl (fun q11 sq11 cq11 dq11 => ?_)
  refine kk_pp hG (c := 1) (k := 6) (a := p0) (v := (some q11)) rfl rfl rfl rfl rfl (fun s12 => ?_)
  refine kk_aln hG (x := (some p0)) rfl rfl ?_
  refine kk_ic hG rfl cc_i4 ?_
  refine kk_bi hG rfl cc_b16 ?_
  refine kk_mul hG (n := 4) (k := 16) (ty := .byte) rfl rfl rfl rfl (Nat.le_of_ble_eq_true rfl) (fun q13 sq13 cq13 dq13 => ?_)
  refine kk_pp hG (c := 1) (k := 7) (a := p0) (v := (some q13)) rfl rfl rfl rfl rfl (fun s14 => ?_)
  refine kk_aln hG (x := (some p0)) rfl rfl ?_
  refine kks hG rfl rfl ?_
  refine kk_pp hG (c := 1) (k := 8) (a := p0) (v := none) rfl rfl rfl rfl rfl (fun s15 => ?_)
  refine kk_aln hG (x := (some p0)) rfl rfl ?_
  refine kk_ic hG rfl cc_i0 ?_
  refine kk_pi hG (c := 1) (k := 9) (a := p0) rfl rfl rfl rfl (fun s16 => ?_)
  refine kk_aln hG (x := (some p0)) rfl rfl ?_
  refine kk_ic hG rfl cc_i5 ?_
  refine kk_nar hG (ty := .int) rfl rfl rfl rfl (fun q17 sq17 cq17 dq17 => ?_)
  refine kk_pp hG (c := 1) (k := 10) (a := p0) (v := (some q17)) rfl rfl rfl rfl rfl (fun s18 => ?_)
  refine kk_aln hG (x := (some p0)) rfl rfl ?_
  refine kk_bi hG rfl cc_b80 ?_
  refine kk_nar hG (ty := .int) rfl rfl rfl rfl (fun q19 sq19 cq19 dq19 => ?_)
  refine kk_pp hG (c := 1) (k := 11) (a := p0) (v := (some q19)) rfl rfl rfl rfl rfl (fun s20 => ?_)
  exact kk_rv hG rfl rfl k
def C_Re_init (sa : Nat → Nat) (p0 : Nat) (p1 : Option Nat) (s : cS) (kc ks : Nat) (Q : (cS → Nat → Nat → Prop)) : Prop := nwA sa s kc ks .int (24 : Int32) (fun q1 sq1 cq1 dq1 => (ob (pP sq1 7 1 p0 (some q1)) (fun s2 => (nwA sa s2 cq1 dq1 .int (24 : Int32) (fun q3 sq3 cq3 dq3 => (ob (pP sq3 7 2 p0 (some q3)) (fun s4 => (ob (pI s4 7 3 p0 (0 : Int32)) (fun s5 => (ob (pI s5 7 4 p0 (0 : Int32)) (fun s6 => (ob (pI s6 7 5 p0 (0 : Int32)) (fun s7 => (nwO sa s7 cq3 dq3 5 4 (fun q8 sq8 cq8 dq8 => (okO sq8 5 q8 ∧ C_Pr_init sa q8 sq8 cq8 dq8 (fun sr9 cr9 dr9 => (ob (pP sr9 7 6 p0 (some q8)) (fun s10 => (nwA sa s10 cr9 dr9 .byte (16 : Int32) (fun q11 sq11 cq11 dq11 => (ob (pP sq11 7 7 p0 (some q11)) (fun s12 => (ob (pI s12 7 8 p0 ((-1) : Int32)) (fun s13 => (ob (pI s13 7 9 p0 ((-1) : Int32)) (fun s14 => (ob (pZ s14 7 10 p0 (0 : Int32)) (fun s15 => (nwO sa s15 cq11 dq11 1 12 (fun q16 sq16 cq16 dq16 => (okO sq16 1 q16 ∧ C_Ch_init sa q16 sq16 cq16 dq16 (fun sr17 cr17 dr17 => (ob (pP sr17 7 11 p0 (some q16)) (fun s18 => (ob (pP s18 7 0 p0 p1) (fun s19 => (Q s19 cr17 dr17))))))))))))))))))))))))))))))))))))))
set_option maxRecDepth 100000 in
set_option maxHeartbeats 4000000 in
theorem kc_Re_init (base : Nat) (sa : Nat → Nat) {R : pmM} {s : cS} {kc ks : Nat} {Rt : pmR} {p0 : Nat} {p1 : Option Nat} {Q : (cS → Nat → Nat → Prop)} (hw : cW sa R base s) (h : C_Re_init sa p0 p1 s kc ks Q) (k : ∀ s' kc' ks', cW sa R base s' → Q s' kc' ks' → Rt none (cM R s') kc' ks') : kP_Re_init base sa [.ref p0, va_rf p1] (cM R s) kc ks Rt := by
  refine ⟨by cases p1 <;> exact Nat.le_of_ble_eq_true rfl, fun G hG => ?_⟩
  have eL : lv_args 0 [.ref p0, va_rf p1] = [(0, va_rf (some p0)), (1, va_rf p1)] := by cases p1 <;> rfl
  rw [eL]
  refine (show KK sa R base G 0 [(0, va_rf (some p0)), (1, va_rf p1)] [] s kc ks (C_Re_init sa p0 p1 s kc ks Q) from ?_) hw h
  refine kk_aln hG (x := (some p0)) rfl rfl ?_
  refine kk_oi hG (a := p0) rfl rfl (Nat.le_of_ble_eq_true rfl) ?_
  refine kk_aln hG (x := (some p0)) rfl rfl ?_
  refine kk_bi hG rfl cc_b24 ?_
  refine kk_nar hG (ty := .int) rfl rfl rfl rfl (fun q1 sq1 cq1 dq1 => ?_)
  refine kk_pp hG (c := 7) (k := 1) (a := p0) (v := (some q1)) rfl rfl rfl rfl rfl (fun s2 => ?_)
  refine kk_aln hG (x := (some p0)) rfl rfl ?_
  refine kk_bi hG rfl cc_b24 ?_
  refine kk_nar hG (ty := .int) rfl rfl rfl rfl (fun q3 sq3 cq3 dq3 => ?_)
  refine kk_pp hG (c := 7) (k := 2) (a := p0) (v := (some q3)) rfl rfl rfl rfl rfl (fun s4 => ?_)
  refine kk_aln hG (x := (some p0)) rfl rfl ?_
  refine kk_ic hG rfl cc_i0 ?_
  refine kk_pi hG (c := 7) (k := 3) (a := p0) rfl rfl rfl rfl (fun s5 => ?_)
  refine kk_aln hG (x := (some p0)) rfl rfl ?_
  refine kk_ic hG rfl cc_i0 ?_
  refine kk_pi hG (c := 7) (k := 4) (a := p0) rfl rfl rfl rfl (fun s6 => ?_)
  refine kk_aln hG (x := (some p0)) rfl rfl ?_
  refine kk_ic hG rfl cc_i0 ?_
  refine kk_pi hG (c := 7) (k := 5) (a := p0) rfl rfl rfl rfl (fun s7 => ?_)
  refine kk_aln hG (x := (some p0)) rfl rfl ?_
  refine kk_new hG (c := 5) (n := 4) rfl rfl rfl rfl (fun q8 sq8 cq8 dq8 => ?_)
  refine kk_dup hG (x := (some q8)) rfl ?_
  refine kk_cv hG 1 rfl rfl (Nat.le_of_ble_eq_true rfl) (by decide) rfl (st' := [va_rf (some q8), va_rf (some p0)]) rfl (cats_le (Nat.le_of_ble_eq_true rfl)) (fun _ hw h k => kk_rcv h.1 (kc_Pr_init base sa hw h.2 k)) (fun sr9 cr9 dr9 => ?_)
  refine kk_pp hG (c := 7) (k := 6) (a := p0) (v := (some q8)) rfl rfl rfl rfl rfl (fun s10 => ?_)
  refine kk_aln hG (x := (some p0)) rfl rfl ?_
  refine kk_bi hG rfl cc_b16 ?_
  refine kk_nar hG (ty := .byte) rfl rfl rfl rfl (fun q11 sq11 cq11 dq11 => ?_)
  refine kk_pp hG (c := 7) (k := 7) (a := p0) (v := (some q11)) rfl rfl rfl rfl rfl (fun s12 => ?_)
  refine kk_aln hG (x := (some p0)) rfl rfl ?_
  refine kk_ic hG rfl cc_im1 ?_
  refine kk_pi hG (c := 7) (k := 8) (a := p0) rfl rfl rfl rfl (fun s13 => ?_)
  refine kk_aln hG (x := (some p0)) rfl rfl ?_
  refine kk_ic hG rfl cc_im1 ?_
  refine kk_pi hG (c := 7) (k := 9) (a := p0) rfl rfl rfl rfl (fun s14 => ?_)
  refine kk_aln hG (x := (some p0)) rfl rfl ?_
  refine kk_ic hG rfl cc_i0 ?_
  refine kk_pz hG (c := 7) (k := 10) (a := p0) rfl rfl rfl rfl (fun s15 => ?_)
  refine kk_aln hG (x := (some p0)) rfl rfl ?_
  refine kk_new hG (c := 1) (n := 12) rfl rfl rfl rfl (fun q16 sq16 cq16 dq16 => ?_)
  refine kk_dup hG (x := (some q16)) rfl ?_
  refine kk_cv hG 1 rfl rfl (Nat.le_of_ble_eq_true rfl) (by decide) rfl (st' := [va_rf (some q16), va_rf (some p0)]) rfl (cats_le (Nat.le_of_ble_eq_true rfl)) (fun _ hw h k => kk_rcv h.1 (kc_Ch_init base sa hw h.2 k)) (fun sr17 cr17 dr17 => ?_)
  refine kk_pp hG (c := 7) (k := 11) (a := p0) (v := (some q16)) rfl rfl rfl rfl rfl (fun s18 => ?_)
  refine kk_aln hG (x := (some p0)) rfl rfl ?_
  refine kk_aln hG (x := p1) rfl rfl ?_
  refine kk_pp hG (c := 7) (k := 0) (a := p0) (v := p1) rfl rfl rfl rfl rfl (fun s19 => ?_)
  exact kk_rv hG rfl rfl k
def C_By_at (sa : Nat → Nat) (p0 : Nat) (p1 : Int32) (s : cS) (kc ks : Nat) (Q : (Int32 → cS → Nat → Nat → Prop)) : Prop := if p1 < 0 then (Q ((-1) : Int32) s kc ks) else (ob (gI s 0 1 p0) (fun v1 => (if p1 < v1 then (ob (gP s 0 0 p0) (fun v2 => (ob v2 (fun b3 => (ob (rE s .byte b3 p1) (fun v4 => (Q (v4 &&& (255 : Int32)) s kc ks))))))) else (Q ((-1) : Int32) s kc ks))))
set_option maxRecDepth 100000 in
set_option maxHeartbeats 4000000 in
theorem kc_By_at (base : Nat) (sa : Nat → Nat) {R : pmM} {s : cS} {kc ks : Nat} {Rt : pmR} {p0 : Nat} {p1 : Int32} {Q : (Int32 → cS → Nat → Nat → Prop)} (hw : cW sa R base s) (h : C_By_at sa p0 p1 s kc ks Q) (k : ∀ r s' kc' ks', cW sa R base s' → Q r s' kc' ks' → Rt (some (.int r)) (cM R s') kc' ks') : kP_By_at base sa [.ref p0, .int p1] (cM R s) kc ks Rt := by
  refine ⟨Nat.le_of_ble_eq_true rfl, fun G hG => ?_⟩
  refine (show KK sa R base G 0 [(0, va_rf (some p0)), (1, .int p1)] [] s kc ks (C_By_at sa p0 p1 s kc ks Q) from ?_) hw h
  refine kks hG rfl rfl ?_
  refine kk_zlt hG (t := 12) rfl rfl ?_ ?_
  · refine kk_ic hG rfl cc_im1 ?_
    refine kk_go hG (t := 26) rfl rfl ?_
    exact kk_ri hG rfl rfl rfl k
  refine kks hG rfl rfl ?_
  refine kk_aln hG (x := (some p0)) rfl rfl ?_
  refine kk_gi hG (c := 0) (k := 1) (a := p0) rfl rfl rfl rfl (fun v1 => ?_)
  refine kk_ilt hG (t := 16) rfl rfl ?_ ?_
  · refine kk_aln hG (x := (some p0)) rfl rfl ?_
    refine kk_gp hG (c := 0) (k := 0) (a := p0) rfl rfl rfl rfl (fun v2 => ?_)
    refine kks hG rfl rfl ?_
    refine kk_ob (fun b3 eb3 => ?_)
    subst eb3
    refine kk_ba hG (a := b3) rfl (fun v4 => ?_)
    refine kk_si hG rfl cc_s255 ?_
    refine kks hG rfl rfl ?_
    exact kk_ri hG rfl rfl rfl k
  refine kk_ic hG rfl cc_im1 ?_
  refine kk_go hG (t := 26) rfl rfl ?_
  exact kk_ri hG rfl rfl rfl k
def C_Re_parse_b131 (sa : Nat → Nat) (p0 : Nat) (p2 : Int32) (a3 : Int32) (a4 : Int32) (s : cS) (kc ks : Nat) (Q : (cS → Nat → Nat → Prop)) (P10 : (Int32 → Int32 → cS → Nat → Nat → Prop)) : Prop := (P10 a3 (a4 + (1 : Int32)) s kc ks)
def C_Re_parse_b102 (sa : Nat → Nat) (p0 : Nat) (p2 : Int32) (a4 : Int32) (u0 : Int32) (s : cS) (kc ks : Nat) (Q : (cS → Nat → Nat → Prop)) (P10 : (Int32 → Int32 → cS → Nat → Nat → Prop)) : Prop := if u0 = 0 then ((C_Re_parse_b131 sa p0 p2 u0 a4 s kc ks Q P10)) else (ob (gI s 7 3 p0) (fun v1 => (if (24 : Int32) < v1 then ((C_Re_parse_b131 sa p0 p2 u0 a4 s kc ks Q P10)) else (ob (gP s 7 2 p0) (fun v2 => (ob (gI s 7 3 p0) (fun v3 => (ob v2 (fun b4 => (ob (wEi s b4 (v3 - (1 : Int32)) (a4 + (1 : Int32))) (fun s5 => ((C_Re_parse_b131 sa p0 p2 u0 a4 s5 kc ks Q P10)))))))))))))
def C_Re_parse_b92 (sa : Nat → Nat) (p0 : Nat) (p2 : Int32) (a4 : Int32) (a6 : Int32) (s : cS) (kc ks : Nat) (Q : (cS → Nat → Nat → Prop)) (P10 : (Int32 → Int32 → cS → Nat → Nat → Prop)) : Prop := if a6 = 0 then ((C_Re_parse_b102 sa p0 p2 a4 (1 : Int32) s kc ks Q P10)) else ((C_Re_parse_b102 sa p0 p2 a4 (0 : Int32) s kc ks Q P10))
def C_Re_parse_b49 (sa : Nat → Nat) (p0 : Nat) (p2 : Int32) (a3 : Int32) (a4 : Int32) (u0 : Int32) (s : cS) (kc ks : Nat) (Q : (cS → Nat → Nat → Prop)) (P10 : (Int32 → Int32 → cS → Nat → Nat → Prop)) : Prop := if u0 = 0 then (if a3 = 0 then (ob (gI s 7 3 p0) (fun v1 => (ob (pI s 7 3 p0 (v1 + (1 : Int32))) (fun s2 => (ob (gI s2 7 3 p0) (fun v3 => (if (24 : Int32) < v3 then ((C_Re_parse_b92 sa p0 p2 a4 u0 s2 kc ks Q P10)) else (ob (gP s2 7 1 p0) (fun v4 => (ob (gI s2 7 3 p0) (fun v5 => (ob v4 (fun b6 => (ob (wEi s2 b6 (v5 - (1 : Int32)) a4) (fun s7 => ((C_Re_parse_b92 sa p0 p2 a4 u0 s7 kc ks Q P10))))))))))))))))) else ((C_Re_parse_b92 sa p0 p2 a4 u0 s kc ks Q P10))) else ((C_Re_parse_b92 sa p0 p2 a4 u0 s kc ks Q P10))
def C_Re_parse_s10 (sa : Nat → Nat) (p0 : Nat) (p2 : Int32) (a3 : Int32) (a4 : Int32) (s : cS) (kc ks : Nat) (Q : (cS → Nat → Nat → Prop)) (P10 : (Int32 → Int32 → cS → Nat → Nat → Prop)) : Prop := if a4 < p2 then (ob (gP s 7 0 p0) (fun v1 => (ob v1 (fun b2 => (ob (gP s 11 0 b2) (fun v3 => (ob v3 (fun b4 => (okO s 0 b4 ∧ C_By_at sa b4 a4 s kc ks (fun r5 sr5 cr5 dr5 => (if r5 = (32 : Int32) then ((C_Re_parse_b49 sa p0 p2 a3 a4 (1 : Int32) sr5 cr5 dr5 Q P10)) else (if r5 = (9 : Int32) then ((C_Re_parse_b49 sa p0 p2 a3 a4 (1 : Int32) sr5 cr5 dr5 Q P10)) else ((C_Re_parse_b49 sa p0 p2 a3 a4 (0 : Int32) sr5 cr5 dr5 Q P10)))))))))))))) else ((Q s kc ks))
def C_Re_parse_b10 (sa : Nat → Nat) (p0 : Nat) (p2 : Int32) (a3 : Int32) (a4 : Int32) (s : cS) (kc ks : Nat) (Q : (cS → Nat → Nat → Prop)) : Prop := ∀ P10 : (Int32 → Int32 → cS → Nat → Nat → Prop), (∀ (a3 : Int32) (a4 : Int32) (s : cS) (kc ks : Nat), C_Re_parse_s10 sa p0 p2 a3 a4 s kc ks Q P10 → P10 a3 a4 s kc ks) → P10 a3 a4 s kc ks
def C_Re_parse (sa : Nat → Nat) (p0 : Nat) (p1 : Int32) (p2 : Int32) (s : cS) (kc ks : Nat) (Q : (cS → Nat → Nat → Prop)) : Prop := ob (pI s 7 3 p0 (0 : Int32)) (fun s1 => ((C_Re_parse_b10 sa p0 p2 (0 : Int32) p1 s1 kc ks Q)))
set_option maxRecDepth 100000 in
set_option maxHeartbeats 4000000 in
theorem kc_Re_parse (base : Nat) (sa : Nat → Nat) {R : pmM} {s : cS} {kc ks : Nat} {Rt : pmR} {p0 : Nat} {p1 : Int32} {p2 : Int32} {Q : (cS → Nat → Nat → Prop)} (hw : cW sa R base s) (h : C_Re_parse sa p0 p1 p2 s kc ks Q) (k : ∀ s' kc' ks', cW sa R base s' → Q s' kc' ks' → Rt none (cM R s') kc' ks') : kP_Re_parse base sa [.ref p0, .int p1, .int p2] (cM R s) kc ks Rt := by
  refine ⟨Nat.le_of_ble_eq_true rfl, fun G hG => ?_⟩
  have b10 : ∀ (a3 : Int32) (a4 : Int32) (s : cS) (kc ks : Nat), KK sa R base G 10 [(0, va_rf (some p0)), (2, .int p2), (3, .int a3), (4, .int a4)] [] s kc ks (C_Re_parse_b10 sa p0 p2 a3 a4 s kc ks Q) := by
    have H : ∀ (P10 : (Int32 → Int32 → cS → Nat → Nat → Prop)) (hP10 : ∀ (a3 : Int32) (a4 : Int32) (s : cS) (kc ks : Nat), P10 a3 a4 s kc ks → cW sa R base s → G 10 [(0, va_rf (some p0)), (2, .int p2), (3, .int a3), (4, .int a4)] [] (cM R s) kc ks) (a3 : Int32) (a4 : Int32) (s : cS) (kc ks : Nat), KK sa R base G 10 [(0, va_rf (some p0)), (2, .int p2), (3, .int a3), (4, .int a4)] [] s kc ks (C_Re_parse_s10 sa p0 p2 a3 a4 s kc ks Q P10) := by
      intro P10 hP10
      have b131 : ∀ (a3 : Int32) (a4 : Int32) (s : cS) (kc ks : Nat), KK sa R base G 131 [(0, va_rf (some p0)), (2, .int p2), (3, .int a3), (4, .int a4)] [] s kc ks (C_Re_parse_b131 sa p0 p2 a3 a4 s kc ks Q P10) := by
        intro a3 a4 s kc ks
        refine kk_inc hG (L' := [(4, .int (a4 + (1 : Int32))), (0, va_rf (some p0)), (2, .int p2), (3, .int a3)]) rfl (Nat.le_of_ble_eq_true rfl) rfl cc_i1 rfl ?_
        refine kk_go hG (t := 10) rfl rfl ?_
        exact kk_wl hG [1, 2, 3, 0] rfl (fun hw h => hP10 _ _ _ _ _ h hw)
      have b102 : ∀ (a4 : Int32) (u0 : Int32) (s : cS) (kc ks : Nat), KK sa R base G 102 [(0, va_rf (some p0)), (2, .int p2), (4, .int a4)] [.int u0] s kc ks (C_Re_parse_b102 sa p0 p2 a4 u0 s kc ks Q P10) := by
        intro a4 u0 s kc ks
        refine kk_st hG (L' := [(3, .int u0), (0, va_rf (some p0)), (2, .int p2), (4, .int a4)]) rfl rfl (Nat.le_of_ble_eq_true rfl) rfl ?_
        refine kks hG rfl rfl ?_
        refine kk_zeq hG (t := 131) rfl rfl ?_ ?_
        · exact kk_wl hG [1, 2, 0, 3] rfl (b131 _ _ _ _ _)
        refine kk_aln hG (x := (some p0)) rfl rfl ?_
        refine kk_gi hG (c := 7) (k := 3) (a := p0) rfl rfl rfl rfl (fun v1 => ?_)
        refine kk_bi hG rfl cc_b24 ?_
        refine kk_igt hG (t := 131) rfl rfl ?_ ?_
        · exact kk_wl hG [1, 2, 0, 3] rfl (b131 _ _ _ _ _)
        refine kk_aln hG (x := (some p0)) rfl rfl ?_
        refine kk_gp hG (c := 7) (k := 2) (a := p0) rfl rfl rfl rfl (fun v2 => ?_)
        refine kk_aln hG (x := (some p0)) rfl rfl ?_
        refine kk_gi hG (c := 7) (k := 3) (a := p0) rfl rfl rfl rfl (fun v3 => ?_)
        refine kk_ic hG rfl cc_i1 ?_
        refine kks hG rfl rfl ?_
        refine kks hG rfl rfl ?_
        refine kk_ic hG rfl cc_i1 ?_
        refine kks hG rfl rfl ?_
        refine kk_ob (fun b4 eb4 => ?_)
        subst eb4
        refine kk_is hG (a := b4) rfl (fun s5 => ?_)
        exact kk_wl hG [1, 2, 0, 3] rfl (b131 _ _ _ _ _)
      have b92 : ∀ (a4 : Int32) (a6 : Int32) (s : cS) (kc ks : Nat), KK sa R base G 92 [(0, va_rf (some p0)), (2, .int p2), (4, .int a4), (6, .int a6)] [] s kc ks (C_Re_parse_b92 sa p0 p2 a4 a6 s kc ks Q P10) := by
        intro a4 a6 s kc ks
        refine kks hG rfl rfl ?_
        refine kk_zne hG (t := 101) rfl rfl ?_ ?_
        · refine kk_ic hG rfl cc_i0 ?_
          exact kk_wl hG [0, 1, 2] rfl (b102 _ _ _ _ _)
        refine kk_ic hG rfl cc_i1 ?_
        refine kk_go hG (t := 102) rfl rfl ?_
        exact kk_wl hG [0, 1, 2] rfl (b102 _ _ _ _ _)
      have b49 : ∀ (a3 : Int32) (a4 : Int32) (u0 : Int32) (s : cS) (kc ks : Nat), KK sa R base G 49 [(0, va_rf (some p0)), (2, .int p2), (3, .int a3), (4, .int a4)] [.int u0] s kc ks (C_Re_parse_b49 sa p0 p2 a3 a4 u0 s kc ks Q P10) := by
        intro a3 a4 u0 s kc ks
        refine kk_st hG (L' := [(6, .int u0), (0, va_rf (some p0)), (2, .int p2), (3, .int a3), (4, .int a4)]) rfl rfl (Nat.le_of_ble_eq_true rfl) rfl ?_
        refine kks hG rfl rfl ?_
        refine kk_zne hG (t := 92) rfl rfl ?_ ?_
        · exact kk_wl hG [1, 2, 4, 0] rfl (b92 _ _ _ _ _)
        refine kks hG rfl rfl ?_
        refine kk_zne hG (t := 92) rfl rfl ?_ ?_
        · exact kk_wl hG [1, 2, 4, 0] rfl (b92 _ _ _ _ _)
        refine kk_aln hG (x := (some p0)) rfl rfl ?_
        refine kk_dup hG (x := (some p0)) rfl ?_
        refine kk_gi hG (c := 7) (k := 3) (a := p0) rfl rfl rfl rfl (fun v1 => ?_)
        refine kk_ic hG rfl cc_i1 ?_
        refine kks hG rfl rfl ?_
        refine kk_pi hG (c := 7) (k := 3) (a := p0) rfl rfl rfl rfl (fun s2 => ?_)
        refine kk_aln hG (x := (some p0)) rfl rfl ?_
        refine kk_gi hG (c := 7) (k := 3) (a := p0) rfl rfl rfl rfl (fun v3 => ?_)
        refine kk_bi hG rfl cc_b24 ?_
        refine kk_igt hG (t := 92) rfl rfl ?_ ?_
        · exact kk_wl hG [1, 2, 4, 0] rfl (b92 _ _ _ _ _)
        refine kk_aln hG (x := (some p0)) rfl rfl ?_
        refine kk_gp hG (c := 7) (k := 1) (a := p0) rfl rfl rfl rfl (fun v4 => ?_)
        refine kk_aln hG (x := (some p0)) rfl rfl ?_
        refine kk_gi hG (c := 7) (k := 3) (a := p0) rfl rfl rfl rfl (fun v5 => ?_)
        refine kk_ic hG rfl cc_i1 ?_
        refine kks hG rfl rfl ?_
        refine kks hG rfl rfl ?_
        refine kk_ob (fun b6 eb6 => ?_)
        subst eb6
        refine kk_is hG (a := b6) rfl (fun s7 => ?_)
        exact kk_wl hG [1, 2, 4, 0] rfl (b92 _ _ _ _ _)
      intro a3 a4 s kc ks
      refine kks hG rfl rfl ?_
      refine kks hG rfl rfl ?_
      refine kk_ige hG (t := 137) rfl rfl ?_ ?_
      · exact kk_rv hG rfl rfl k
      refine kk_aln hG (x := (some p0)) rfl rfl ?_
      refine kk_gp hG (c := 7) (k := 0) (a := p0) rfl rfl rfl rfl (fun v1 => ?_)
      refine kk_ob (fun b2 eb2 => ?_)
      subst eb2
      refine kk_gp hG (c := 11) (k := 0) (a := b2) rfl rfl rfl rfl (fun v3 => ?_)
      refine kks hG rfl rfl ?_
      refine kk_ob (fun b4 eb4 => ?_)
      subst eb4
      refine kk_cx (w := .int) hG 0 rfl rfl (Nat.le_of_ble_eq_true rfl) (by decide) rfl (st' := []) rfl (cats_le (Nat.le_of_ble_eq_true rfl)) (fun _ hw h k => kk_rcv h.1 (kc_By_at base sa hw h.2 k)) (fun r5 sr5 cr5 dr5 => ?_)
      refine kk_st hG (L' := [(5, .int r5), (0, va_rf (some p0)), (2, .int p2), (3, .int a3), (4, .int a4)]) rfl rfl (Nat.le_of_ble_eq_true rfl) rfl ?_
      refine kks hG rfl rfl ?_
      refine kk_bi hG rfl cc_b32 ?_
      refine kk_ieq hG (t := 44) rfl rfl ?_ ?_
      · refine kk_ic hG rfl cc_i1 ?_
        refine kk_go hG (t := 49) rfl rfl ?_
        exact kk_wl hG [1, 2, 3, 4] rfl (b49 _ _ _ _ _ _)
      refine kks hG rfl rfl ?_
      refine kk_bi hG rfl cc_b9 ?_
      refine kk_ine hG (t := 48) rfl rfl ?_ ?_
      · refine kk_ic hG rfl cc_i0 ?_
        exact kk_wl hG [1, 2, 3, 4] rfl (b49 _ _ _ _ _ _)
      refine kk_ic hG rfl cc_i1 ?_
      refine kk_go hG (t := 49) rfl rfl ?_
      exact kk_wl hG [1, 2, 3, 4] rfl (b49 _ _ _ _ _ _)
    exact fun a3 a4 s kc ks hw h => h (fun a3 a4 s kc ks => cW sa R base s → G 10 [(0, va_rf (some p0)), (2, .int p2), (3, .int a3), (4, .int a4)] [] (cM R s) kc ks) (fun a3 a4 s kc ks hs hw => H _ (fun _ _ _ _ _ hp hw => hp hw) a3 a4 s kc ks hw hs) hw
  refine (show KK sa R base G 0 [(0, va_rf (some p0)), (1, .int p1), (2, .int p2)] [] s kc ks (C_Re_parse sa p0 p1 p2 s kc ks Q) from ?_) hw h
  refine kk_aln hG (x := (some p0)) rfl rfl ?_
  refine kk_ic hG rfl cc_i0 ?_
  refine kk_pi hG (c := 7) (k := 3) (a := p0) rfl rfl rfl rfl (fun s1 => ?_)
  refine kk_ic hG rfl cc_i0 ?_
  refine kk_st hG (L' := [(3, .int (0 : Int32)), (0, va_rf (some p0)), (1, .int p1), (2, .int p2)]) rfl rfl (Nat.le_of_ble_eq_true rfl) rfl ?_
  refine kks hG rfl rfl ?_
  refine kk_st hG (L' := [(4, .int p1), (3, .int (0 : Int32)), (0, va_rf (some p0)), (1, .int p1), (2, .int p2)]) rfl rfl (Nat.le_of_ble_eq_true rfl) rfl ?_
  exact kk_wl hG [2, 4, 1, 0] rfl (b10 _ _ _ _ _)
def C_Re_isWord (sa : Nat → Nat) (p0 : Nat) (p1 : Int32) (s : cS) (kc ks : Nat) (Q : (Int32 → cS → Nat → Nat → Prop)) : Prop := if p1 < 0 then (Q (0 : Int32) s kc ks) else (ob (gI s 7 3 p0) (fun v1 => (if p1 < v1 then (if p1 < (24 : Int32) then (Q (1 : Int32) s kc ks) else (Q (0 : Int32) s kc ks)) else (Q (0 : Int32) s kc ks))))
set_option maxRecDepth 100000 in
set_option maxHeartbeats 4000000 in
theorem kc_Re_isWord (base : Nat) (sa : Nat → Nat) {R : pmM} {s : cS} {kc ks : Nat} {Rt : pmR} {p0 : Nat} {p1 : Int32} {Q : (Int32 → cS → Nat → Nat → Prop)} (hw : cW sa R base s) (h : C_Re_isWord sa p0 p1 s kc ks Q) (k : ∀ r s' kc' ks', cW sa R base s' → Q r s' kc' ks' → Rt (some (.int r)) (cM R s') kc' ks') : kP_Re_isWord base sa [.ref p0, .int p1] (cM R s) kc ks Rt := by
  refine ⟨Nat.le_of_ble_eq_true rfl, fun G hG => ?_⟩
  refine (show KK sa R base G 0 [(0, va_rf (some p0)), (1, .int p1)] [] s kc ks (C_Re_isWord sa p0 p1 s kc ks Q) from ?_) hw h
  refine kks hG rfl rfl ?_
  refine kk_zlt hG (t := 22) rfl rfl ?_ ?_
  · refine kk_ic hG rfl cc_i0 ?_
    exact kk_ri hG rfl rfl rfl k
  refine kks hG rfl rfl ?_
  refine kk_aln hG (x := (some p0)) rfl rfl ?_
  refine kk_gi hG (c := 7) (k := 3) (a := p0) rfl rfl rfl rfl (fun v1 => ?_)
  refine kk_ige hG (t := 22) rfl rfl ?_ ?_
  · refine kk_ic hG rfl cc_i0 ?_
    exact kk_ri hG rfl rfl rfl k
  refine kks hG rfl rfl ?_
  refine kk_bi hG rfl cc_b24 ?_
  refine kk_ige hG (t := 22) rfl rfl ?_ ?_
  · refine kk_ic hG rfl cc_i0 ?_
    exact kk_ri hG rfl rfl rfl k
  refine kk_ic hG rfl cc_i1 ?_
  refine kk_go hG (t := 23) rfl rfl ?_
  exact kk_ri hG rfl rfl rfl k
def C_Re_is_s32 (sa : Nat → Nat) (p0 : Nat) (p1 : Int32) (p2 : Option Nat) (a3 : Int32) (s : cS) (kc ks : Nat) (Q : (Int32 → cS → Nat → Nat → Prop)) (P32 : (Int32 → cS → Nat → Nat → Prop)) : Prop := ob p2 (fun b1 => (C_St_length sa b1 s kc ks (fun r2 sr2 cr2 dr2 => (if a3 < r2 then (ob (gP sr2 7 0 p0) (fun v3 => (ob v3 (fun b4 => (ob (gP sr2 11 0 b4) (fun v5 => (ob (gP sr2 7 1 p0) (fun v6 => (ob v6 (fun b7 => (ob (rE sr2 .int b7 p1) (fun v8 => (ob v5 (fun b9 => (okO sr2 0 b9 ∧ C_By_at sa b9 (v8 + a3) sr2 cr2 dr2 (fun r10 sr10 cr10 dr10 => (C_St_charAt sa b1 a3 sr10 cr10 dr10 (fun r11 sr11 cr11 dr11 => (if r10 = r11 then ((P32 (a3 + (1 : Int32)) sr11 cr11 dr11)) else ((Q (0 : Int32) sr11 cr11 dr11))))))))))))))))))))) else ((Q (1 : Int32) sr2 cr2 dr2))))))
def C_Re_is_b32 (sa : Nat → Nat) (p0 : Nat) (p1 : Int32) (p2 : Option Nat) (a3 : Int32) (s : cS) (kc ks : Nat) (Q : (Int32 → cS → Nat → Nat → Prop)) : Prop := ∀ P32 : (Int32 → cS → Nat → Nat → Prop), (∀ (a3 : Int32) (s : cS) (kc ks : Nat), C_Re_is_s32 sa p0 p1 p2 a3 s kc ks Q P32 → P32 a3 s kc ks) → P32 a3 s kc ks
def C_Re_is (sa : Nat → Nat) (p0 : Nat) (p1 : Int32) (p2 : Option Nat) (s : cS) (kc ks : Nat) (Q : (Int32 → cS → Nat → Nat → Prop)) : Prop := okO s 7 p0 ∧ C_Re_isWord sa p0 p1 s kc ks (fun r1 sr1 cr1 dr1 => (if r1 = 0 then (Q (0 : Int32) sr1 cr1 dr1) else (ob (gP sr1 7 2 p0) (fun v2 => (ob v2 (fun b3 => (ob (rE sr1 .int b3 p1) (fun v4 => (ob (gP sr1 7 1 p0) (fun v5 => (ob v5 (fun b6 => (ob (rE sr1 .int b6 p1) (fun v7 => (ob p2 (fun b8 => (C_St_length sa b8 sr1 cr1 dr1 (fun r9 sr9 cr9 dr9 => (if (v4 - v7) = r9 then ((C_Re_is_b32 sa p0 p1 (some b8) (0 : Int32) sr9 cr9 dr9 Q)) else (Q (0 : Int32) sr9 cr9 dr9))))))))))))))))))))
set_option maxRecDepth 100000 in
set_option maxHeartbeats 4000000 in
theorem kc_Re_is (base : Nat) (sa : Nat → Nat) {R : pmM} {s : cS} {kc ks : Nat} {Rt : pmR} {p0 : Nat} {p1 : Int32} {p2 : Option Nat} {Q : (Int32 → cS → Nat → Nat → Prop)} (hw : cW sa R base s) (h : C_Re_is sa p0 p1 p2 s kc ks Q) (k : ∀ r s' kc' ks', cW sa R base s' → Q r s' kc' ks' → Rt (some (.int r)) (cM R s') kc' ks') : kP_Re_is base sa [.ref p0, .int p1, va_rf p2] (cM R s) kc ks Rt := by
  refine ⟨by cases p2 <;> exact Nat.le_of_ble_eq_true rfl, fun G hG => ?_⟩
  have eL : lv_args 0 [.ref p0, .int p1, va_rf p2] = [(0, va_rf (some p0)), (1, .int p1), (2, va_rf p2)] := by cases p2 <;> rfl
  rw [eL]
  have b32 : ∀ (a3 : Int32) (s : cS) (kc ks : Nat), KK sa R base G 32 [(0, va_rf (some p0)), (1, .int p1), (2, va_rf p2), (3, .int a3)] [] s kc ks (C_Re_is_b32 sa p0 p1 p2 a3 s kc ks Q) := by
    have H : ∀ (P32 : (Int32 → cS → Nat → Nat → Prop)) (hP32 : ∀ (a3 : Int32) (s : cS) (kc ks : Nat), P32 a3 s kc ks → cW sa R base s → G 32 [(0, va_rf (some p0)), (1, .int p1), (2, va_rf p2), (3, .int a3)] [] (cM R s) kc ks) (a3 : Int32) (s : cS) (kc ks : Nat), KK sa R base G 32 [(0, va_rf (some p0)), (1, .int p1), (2, va_rf p2), (3, .int a3)] [] s kc ks (C_Re_is_s32 sa p0 p1 p2 a3 s kc ks Q P32) := by
      intro P32 hP32
      intro a3 s kc ks
      refine kks hG rfl rfl ?_
      refine kk_aln hG (x := p2) rfl rfl ?_
      refine kk_ob (fun b1 eb1 => ?_)
      subst eb1
      refine kk_cx (w := .int) hG 0 rfl rfl (Nat.le_of_ble_eq_true rfl) (by decide) rfl (st' := [.int a3]) rfl (cats_le (Nat.le_of_ble_eq_true rfl)) (fun _ hw h k => kr_St_length base sa hw h k) (fun r2 sr2 cr2 dr2 => ?_)
      refine kk_ige hG (t := 74) rfl rfl ?_ ?_
      · refine kk_ic hG rfl cc_i1 ?_
        exact kk_ri hG rfl rfl rfl k
      refine kk_aln hG (x := (some p0)) rfl rfl ?_
      refine kk_gp hG (c := 7) (k := 0) (a := p0) rfl rfl rfl rfl (fun v3 => ?_)
      refine kk_ob (fun b4 eb4 => ?_)
      subst eb4
      refine kk_gp hG (c := 11) (k := 0) (a := b4) rfl rfl rfl rfl (fun v5 => ?_)
      refine kk_aln hG (x := (some p0)) rfl rfl ?_
      refine kk_gp hG (c := 7) (k := 1) (a := p0) rfl rfl rfl rfl (fun v6 => ?_)
      refine kks hG rfl rfl ?_
      refine kk_ob (fun b7 eb7 => ?_)
      subst eb7
      refine kk_ia hG (a := b7) rfl (fun v8 => ?_)
      refine kks hG rfl rfl ?_
      refine kks hG rfl rfl ?_
      refine kk_ob (fun b9 eb9 => ?_)
      subst eb9
      refine kk_cx (w := .int) hG 0 rfl rfl (Nat.le_of_ble_eq_true rfl) (by decide) rfl (st' := []) rfl (cats_le (Nat.le_of_ble_eq_true rfl)) (fun _ hw h k => kk_rcv h.1 (kc_By_at base sa hw h.2 k)) (fun r10 sr10 cr10 dr10 => ?_)
      refine kk_aln hG (x := (some b1)) rfl rfl ?_
      refine kks hG rfl rfl ?_
      refine kk_cx (w := .int) hG 0 rfl rfl (Nat.le_of_ble_eq_true rfl) (by decide) rfl (st' := [.int r10]) rfl (cats_le (Nat.le_of_ble_eq_true rfl)) (fun _ hw h k => kr_St_charAt base sa hw h k) (fun r11 sr11 cr11 dr11 => ?_)
      refine kk_ieq hG (t := 68) rfl rfl ?_ ?_
      · refine kk_inc hG (L' := [(3, .int (a3 + (1 : Int32))), (0, va_rf (some p0)), (1, .int p1), (2, va_rf (some b1))]) rfl (Nat.le_of_ble_eq_true rfl) rfl cc_i1 rfl ?_
        refine kk_go hG (t := 32) rfl rfl ?_
        exact kk_wl hG [1, 2, 3, 0] rfl (fun hw h => hP32 _ _ _ _ h hw)
      refine kk_ic hG rfl cc_i0 ?_
      exact kk_ri hG rfl rfl rfl k
    exact fun a3 s kc ks hw h => h (fun a3 s kc ks => cW sa R base s → G 32 [(0, va_rf (some p0)), (1, .int p1), (2, va_rf p2), (3, .int a3)] [] (cM R s) kc ks) (fun a3 s kc ks hs hw => H _ (fun _ _ _ _ hp hw => hp hw) a3 s kc ks hw hs) hw
  refine (show KK sa R base G 0 [(0, va_rf (some p0)), (1, .int p1), (2, va_rf p2)] [] s kc ks (C_Re_is sa p0 p1 p2 s kc ks Q) from ?_) hw h
  refine kk_aln hG (x := (some p0)) rfl rfl ?_
  refine kks hG rfl rfl ?_
  refine kk_cx (w := .int) hG 0 rfl rfl (Nat.le_of_ble_eq_true rfl) (by decide) rfl (st' := []) rfl (cats_le (Nat.le_of_ble_eq_true rfl)) (fun _ hw h k => kk_rcv h.1 (kc_Re_isWord base sa hw h.2 k)) (fun r1 sr1 cr1 dr1 => ?_)
  refine kk_zeq hG (t := 28) rfl rfl ?_ ?_
  · refine kk_ic hG rfl cc_i0 ?_
    exact kk_ri hG rfl rfl rfl k
  refine kk_aln hG (x := (some p0)) rfl rfl ?_
  refine kk_gp hG (c := 7) (k := 2) (a := p0) rfl rfl rfl rfl (fun v2 => ?_)
  refine kks hG rfl rfl ?_
  refine kk_ob (fun b3 eb3 => ?_)
  subst eb3
  refine kk_ia hG (a := b3) rfl (fun v4 => ?_)
  refine kk_aln hG (x := (some p0)) rfl rfl ?_
  refine kk_gp hG (c := 7) (k := 1) (a := p0) rfl rfl rfl rfl (fun v5 => ?_)
  refine kks hG rfl rfl ?_
  refine kk_ob (fun b6 eb6 => ?_)
  subst eb6
  refine kk_ia hG (a := b6) rfl (fun v7 => ?_)
  refine kks hG rfl rfl ?_
  refine kk_aln hG (x := p2) rfl rfl ?_
  refine kk_ob (fun b8 eb8 => ?_)
  subst eb8
  refine kk_cx (w := .int) hG 0 rfl rfl (Nat.le_of_ble_eq_true rfl) (by decide) rfl (st' := [.int (v4 - v7)]) rfl (cats_le (Nat.le_of_ble_eq_true rfl)) (fun _ hw h k => kr_St_length base sa hw h k) (fun r9 sr9 cr9 dr9 => ?_)
  refine kk_ieq hG (t := 30) rfl rfl ?_ ?_
  · refine kk_ic hG rfl cc_i0 ?_
    refine kk_st hG (L' := [(3, .int (0 : Int32)), (0, va_rf (some p0)), (1, .int p1), (2, va_rf (some b8))]) rfl rfl (Nat.le_of_ble_eq_true rfl) rfl ?_
    exact kk_wl hG [1, 2, 3, 0] rfl (b32 _ _ _ _)
  refine kk_ic hG rfl cc_i0 ?_
  exact kk_ri hG rfl rfl rfl k
