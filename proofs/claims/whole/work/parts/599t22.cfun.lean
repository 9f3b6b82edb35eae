/-! Methods as weakest preconditions, by program: Rf_link .. By_addSix -/
def C_Rf_link (sa : Nat → Nat) (p0 : Nat) (p1 : Int32) (p2 : Int32) (s : cS) (kc ks : Nat) (Q : (Int32 → cS → Nat → Nat → Prop)) : Prop := okO s 11 p0 ∧ C_Rf_linkAt sa p0 p1 s kc ks (fun r1 sr1 cr1 dr1 => (if r1 = none then (Q (0 : Int32) sr1 cr1 dr1) else (ob r1 (fun b2 => (ob (gI sr1 3 4 b2) (fun v3 => (if v3 = p2 then (Q (0 : Int32) sr1 cr1 dr1) else (ob (pZ sr1 3 4 b2 p2) (fun s4 => (if p2 = 0 then (okO s4 11 p0 ∧ C_Rf_dropFlights sa p0 (some b2) s4 cr1 dr1 (fun sr5 cr5 dr5 => (okO sr5 11 p0 ∧ C_Rf_lower sa p0 (some b2) sr5 cr5 dr5 (fun sr6 cr6 dr6 => (Q (1 : Int32) sr6 cr6 dr6))))) else (okO s4 11 p0 ∧ C_Rf_raise sa p0 (some b2) s4 cr1 dr1 (fun sr7 cr7 dr7 => (Q (1 : Int32) sr7 cr7 dr7)))))))))))))
set_option maxRecDepth 100000 in
set_option maxHeartbeats 4000000 in
theorem kc_Rf_link (base : Nat) (sa : Nat → Nat) {R : pmM} {s : cS} {kc ks : Nat} {Rt : pmR} {p0 : Nat} {p1 : Int32} {p2 : Int32} {Q : (Int32 → cS → Nat → Nat → Prop)} (hw : cW sa R base s) (h : C_Rf_link sa p0 p1 p2 s kc ks Q) (k : ∀ r s' kc' ks', cW sa R base s' → Q r s' kc' ks' → Rt (some (.int r)) (cM R s') kc' ks') : kP_Rf_link base sa [.ref p0, .int p1, .int p2] (cM R s) kc ks Rt := by
  refine ⟨Nat.le_of_ble_eq_true rfl, fun G hG => ?_⟩
  refine (show KK sa R base G 0 [(0, va_rf (some p0)), (1, .int p1), (2, .int p2)] [] s kc ks (C_Rf_link sa p0 p1 p2 s kc ks Q) from ?_) hw h
  refine kk_aln hG (x := (some p0)) rfl rfl ?_
  refine kks hG rfl rfl ?_
  refine kk_cx (w := va_rf) hG 0 rfl rfl (Nat.le_of_ble_eq_true rfl) (by decide) rfl (st' := []) rfl (cats_le (Nat.le_of_ble_eq_true rfl)) (fun _ hw h k => kk_rcv h.1 (kc_Rf_linkAt base sa hw h.2 k)) (fun r1 sr1 cr1 dr1 => ?_)
  refine kk_asn hG (x := r1) (L' := [(3, va_rf r1), (0, va_rf (some p0)), (1, .int p1), (2, .int p2)]) rfl (Nat.le_of_ble_eq_true rfl) rfl ?_
  refine kk_aln hG (x := r1) rfl rfl ?_
  refine kk_nul hG (x := r1) (t := 18) rfl rfl ?_ ?_
  · refine kk_ic hG rfl cc_i0 ?_
    exact kk_ri hG rfl rfl rfl k
  refine kk_aln hG (x := r1) rfl rfl ?_
  refine kk_ob (fun b2 eb2 => ?_)
  subst eb2
  refine kk_gi hG (c := 3) (k := 4) (a := b2) rfl rfl rfl rfl (fun v3 => ?_)
  refine kks hG rfl rfl ?_
  refine kk_ine hG (t := 20) rfl rfl ?_ ?_
  · refine kk_aln hG (x := (some b2)) rfl rfl ?_
    refine kks hG rfl rfl ?_
    refine kk_pz hG (c := 3) (k := 4) (a := b2) rfl rfl rfl rfl (fun s4 => ?_)
    refine kks hG rfl rfl ?_
    refine kk_zeq hG (t := 37) rfl rfl ?_ ?_
    · refine kk_aln hG (x := (some p0)) rfl rfl ?_
      refine kk_aln hG (x := (some b2)) rfl rfl ?_
      refine kk_cv hG 0 rfl rfl (Nat.le_of_ble_eq_true rfl) (by decide) rfl (st' := []) rfl (cats_le (Nat.le_of_ble_eq_true rfl)) (fun _ hw h k => kk_rcv h.1 (kc_Rf_dropFlights base sa hw h.2 k)) (fun sr5 cr5 dr5 => ?_)
      refine kk_aln hG (x := (some p0)) rfl rfl ?_
      refine kk_aln hG (x := (some b2)) rfl rfl ?_
      refine kk_cv hG 0 rfl rfl (Nat.le_of_ble_eq_true rfl) (by decide) rfl (st' := []) rfl (cats_le (Nat.le_of_ble_eq_true rfl)) (fun _ hw h k => kk_rcv h.1 (kc_Rf_lower base sa hw h.2 k)) (fun sr6 cr6 dr6 => ?_)
      refine kk_ic hG rfl cc_i1 ?_
      exact kk_ri hG rfl rfl rfl k
    refine kk_aln hG (x := (some p0)) rfl rfl ?_
    refine kk_aln hG (x := (some b2)) rfl rfl ?_
    refine kk_cv hG 0 rfl rfl (Nat.le_of_ble_eq_true rfl) (by decide) rfl (st' := []) rfl (cats_le (Nat.le_of_ble_eq_true rfl)) (fun _ hw h k => kk_rcv h.1 (kc_Rf_raise base sa hw h.2 k)) (fun sr7 cr7 dr7 => ?_)
    refine kk_go hG (t := 47) rfl rfl ?_
    refine kk_ic hG rfl cc_i1 ?_
    exact kk_ri hG rfl rfl rfl k
  refine kk_ic hG rfl cc_i0 ?_
  exact kk_ri hG rfl rfl rfl k
def C_Rf_lose (sa : Nat → Nat) (p0 : Nat) (p1 : Int32) (p2 : Int32) (s : cS) (kc ks : Nat) (Q : (Int32 → cS → Nat → Nat → Prop)) : Prop := okO s 11 p0 ∧ C_Rf_linkAt sa p0 p1 s kc ks (fun r1 sr1 cr1 dr1 => (if r1 = none then (Q (0 : Int32) sr1 cr1 dr1) else (if p2 < 0 then (Q (0 : Int32) sr1 cr1 dr1) else (ob r1 (fun b2 => (ob (pI sr1 3 6 b2 p2) (fun s3 => (Q (1 : Int32) s3 cr1 dr1))))))))
set_option maxRecDepth 100000 in
set_option maxHeartbeats 4000000 in
theorem kc_Rf_lose (base : Nat) (sa : Nat → Nat) {R : pmM} {s : cS} {kc ks : Nat} {Rt : pmR} {p0 : Nat} {p1 : Int32} {p2 : Int32} {Q : (Int32 → cS → Nat → Nat → Prop)} (hw : cW sa R base s) (h : C_Rf_lose sa p0 p1 p2 s kc ks Q) (k : ∀ r s' kc' ks', cW sa R base s' → Q r s' kc' ks' → Rt (some (.int r)) (cM R s') kc' ks') : kP_Rf_lose base sa [.ref p0, .int p1, .int p2] (cM R s) kc ks Rt := by
  refine ⟨Nat.le_of_ble_eq_true rfl, fun G hG => ?_⟩
  refine (show KK sa R base G 0 [(0, va_rf (some p0)), (1, .int p1), (2, .int p2)] [] s kc ks (C_Rf_lose sa p0 p1 p2 s kc ks Q) from ?_) hw h
  refine kk_aln hG (x := (some p0)) rfl rfl ?_
  refine kks hG rfl rfl ?_
  refine kk_cx (w := va_rf) hG 0 rfl rfl (Nat.le_of_ble_eq_true rfl) (by decide) rfl (st' := []) rfl (cats_le (Nat.le_of_ble_eq_true rfl)) (fun _ hw h k => kk_rcv h.1 (kc_Rf_linkAt base sa hw h.2 k)) (fun r1 sr1 cr1 dr1 => ?_)
  refine kk_asn hG (x := r1) (L' := [(3, va_rf r1), (0, va_rf (some p0)), (1, .int p1), (2, .int p2)]) rfl (Nat.le_of_ble_eq_true rfl) rfl ?_
  refine kk_aln hG (x := r1) rfl rfl ?_
  refine kk_nul hG (x := r1) (t := 14) rfl rfl ?_ ?_
  · refine kk_ic hG rfl cc_i0 ?_
    exact kk_ri hG rfl rfl rfl k
  refine kks hG rfl rfl ?_
  refine kk_zge hG (t := 16) rfl rfl ?_ ?_
  · refine kk_aln hG (x := r1) rfl rfl ?_
    refine kks hG rfl rfl ?_
    refine kk_ob (fun b2 eb2 => ?_)
    subst eb2
    refine kk_pi hG (c := 3) (k := 6) (a := b2) rfl rfl rfl rfl (fun s3 => ?_)
    refine kk_ic hG rfl cc_i1 ?_
    exact kk_ri hG rfl rfl rfl k
  refine kk_ic hG rfl cc_i0 ?_
  exact kk_ri hG rfl rfl rfl k
def C_Rf_routerAt (sa : Nat → Nat) (p0 : Nat) (p1 : Int32) (s : cS) (kc ks : Nat) (Q : (Option Nat → cS → Nat → Nat → Prop)) : Prop := if p1 < 0 then (Q none s kc ks) else (ob (gI s 11 9 p0) (fun v1 => (if p1 < v1 then (ob (gP s 11 8 p0) (fun v2 => (ob v2 (fun b3 => (ob (rQ s b3 p1) (fun v4 => (Q v4 s kc ks))))))) else (Q none s kc ks))))
set_option maxRecDepth 100000 in
set_option maxHeartbeats 4000000 in
theorem kc_Rf_routerAt (base : Nat) (sa : Nat → Nat) {R : pmM} {s : cS} {kc ks : Nat} {Rt : pmR} {p0 : Nat} {p1 : Int32} {Q : (Option Nat → cS → Nat → Nat → Prop)} (hw : cW sa R base s) (h : C_Rf_routerAt sa p0 p1 s kc ks Q) (k : ∀ r s' kc' ks', cW sa R base s' → Q r s' kc' ks' → Rt (some (va_rf r)) (cM R s') kc' ks') : kP_Rf_routerAt base sa [.ref p0, .int p1] (cM R s) kc ks Rt := by
  refine ⟨Nat.le_of_ble_eq_true rfl, fun G hG => ?_⟩
  refine (show KK sa R base G 0 [(0, va_rf (some p0)), (1, .int p1)] [] s kc ks (C_Rf_routerAt sa p0 p1 s kc ks Q) from ?_) hw h
  refine kks hG rfl rfl ?_
  refine kk_zlt hG (t := 12) rfl rfl ?_ ?_
  · refine kks hG rfl rfl ?_
    refine kk_go hG (t := 22) rfl rfl ?_
    exact kk_ra hG (x := none) rfl rfl rfl k
  refine kks hG rfl rfl ?_
  refine kk_aln hG (x := (some p0)) rfl rfl ?_
  refine kk_gi hG (c := 11) (k := 9) (a := p0) rfl rfl rfl rfl (fun v1 => ?_)
  refine kk_ilt hG (t := 16) rfl rfl ?_ ?_
  · refine kk_aln hG (x := (some p0)) rfl rfl ?_
    refine kk_gp hG (c := 11) (k := 8) (a := p0) rfl rfl rfl rfl (fun v2 => ?_)
    refine kks hG rfl rfl ?_
    refine kk_ob (fun b3 eb3 => ?_)
    subst eb3
    refine kk_aa hG (a := b3) rfl (fun v4 => ?_)
    exact kk_ra hG (x := v4) rfl rfl rfl k
  refine kks hG rfl rfl ?_
  refine kk_go hG (t := 22) rfl rfl ?_
  exact kk_ra hG (x := none) rfl rfl rfl k
def C_Rr_start_s86 (sa : Nat → Nat) (p0 : Nat) (a1 : Int32) (s : cS) (kc ks : Nat) (Q : (cS → Nat → Nat → Prop)) (P86 : (Int32 → cS → Nat → Nat → Prop)) : Prop := ob (gI s 9 5 p0) (fun v1 => (if a1 < v1 then (ob (gP s 9 4 p0) (fun v2 => (ob v2 (fun b3 => (ob (rQ s b3 a1) (fun v4 => (okO s 9 p0 ∧ C_Rr_ask sa p0 v4 (4 : Int32) s kc ks (fun sr5 cr5 dr5 => (ob (gP sr5 9 4 p0) (fun v6 => (ob v6 (fun b7 => (ob (rQ sr5 b7 a1) (fun v8 => (okO sr5 9 p0 ∧ C_Rr_ask sa p0 v8 (6 : Int32) sr5 cr5 dr5 (fun sr9 cr9 dr9 => ((P86 (a1 + (1 : Int32)) sr9 cr9 dr9)))))))))))))))))) else ((Q s kc ks))))
def C_Rr_start_b86 (sa : Nat → Nat) (p0 : Nat) (a1 : Int32) (s : cS) (kc ks : Nat) (Q : (cS → Nat → Nat → Prop)) : Prop := ∀ P86 : (Int32 → cS → Nat → Nat → Prop), (∀ (a1 : Int32) (s : cS) (kc ks : Nat), C_Rr_start_s86 sa p0 a1 s kc ks Q P86 → P86 a1 s kc ks) → P86 a1 s kc ks
def C_Rr_start_s51 (sa : Nat → Nat) (p0 : Nat) (a1 : Int32) (s : cS) (kc ks : Nat) (Q : (cS → Nat → Nat → Prop)) (P51 : (Int32 → cS → Nat → Nat → Prop)) : Prop := ob (gP s 9 7 p0) (fun v1 => (ob v1 (fun b2 => (ob (gI s 10 1 b2) (fun v3 => (if a1 < v3 then (ob (gP s 9 7 p0) (fun v4 => (ob v4 (fun b5 => (ob (gP s 10 0 b5) (fun v6 => (ob v6 (fun b7 => (ob (rQ s b7 a1) (fun v8 => (ob v8 (fun b9 => (ob (gP s 8 0 b9) (fun v10 => (okO s 9 p0 ∧ C_Rr_settle sa p0 v10 s kc ks (fun sr11 cr11 dr11 => ((P51 (a1 + (1 : Int32)) sr11 cr11 dr11)))))))))))))))))) else (((C_Rr_start_b86 sa p0 (0 : Int32) s kc ks Q)))))))))
def C_Rr_start_b51 (sa : Nat → Nat) (p0 : Nat) (a1 : Int32) (s : cS) (kc ks : Nat) (Q : (cS → Nat → Nat → Prop)) : Prop := ∀ P51 : (Int32 → cS → Nat → Nat → Prop), (∀ (a1 : Int32) (s : cS) (kc ks : Nat), C_Rr_start_s51 sa p0 a1 s kc ks Q P51 → P51 a1 s kc ks) → P51 a1 s kc ks
def C_Rr_start_s25 (sa : Nat → Nat) (p0 : Nat) (a1 : Int32) (s : cS) (kc ks : Nat) (Q : (cS → Nat → Nat → Prop)) (P25 : (Int32 → cS → Nat → Nat → Prop)) : Prop := ob (gI s 9 5 p0) (fun v1 => (if a1 < v1 then (ob (gP s 9 4 p0) (fun v2 => (ob v2 (fun b3 => (ob (rQ s b3 a1) (fun v4 => (okO s 9 p0 ∧ C_Rr_settlePort sa p0 v4 s kc ks (fun sr5 cr5 dr5 => ((P25 (a1 + (1 : Int32)) sr5 cr5 dr5)))))))))) else (((C_Rr_start_b51 sa p0 (0 : Int32) s kc ks Q)))))
def C_Rr_start_b25 (sa : Nat → Nat) (p0 : Nat) (a1 : Int32) (s : cS) (kc ks : Nat) (Q : (cS → Nat → Nat → Prop)) : Prop := ∀ P25 : (Int32 → cS → Nat → Nat → Prop), (∀ (a1 : Int32) (s : cS) (kc ks : Nat), C_Rr_start_s25 sa p0 a1 s kc ks Q P25 → P25 a1 s kc ks) → P25 a1 s kc ks
def C_Rr_start (sa : Nat → Nat) (p0 : Nat) (s : cS) (kc ks : Nat) (Q : (cS → Nat → Nat → Prop)) : Prop := ob (pZ s 9 3 p0 (1 : Int32)) (fun s1 => (ob (gP s1 9 0 p0) (fun v2 => (ob v2 (fun b3 => (ob (gI s1 11 5 b3) (fun v4 => (ob (gP s1 9 15 p0) (fun v5 => (ob v5 (fun b6 => (ob (rE s1 .int b6 (0 : Int32)) (fun v7 => (ob (pI s1 9 17 p0 (v4 + v7)) (fun s8 => ((C_Rr_start_b25 sa p0 (0 : Int32) s8 kc ks Q)))))))))))))))))
set_option maxRecDepth 100000 in
set_option maxHeartbeats 4000000 in
theorem kc_Rr_start (base : Nat) (sa : Nat → Nat) {R : pmM} {s : cS} {kc ks : Nat} {Rt : pmR} {p0 : Nat} {Q : (cS → Nat → Nat → Prop)} (hw : cW sa R base s) (h : C_Rr_start sa p0 s kc ks Q) (k : ∀ s' kc' ks', cW sa R base s' → Q s' kc' ks' → Rt none (cM R s') kc' ks') : kP_Rr_start base sa [.ref p0] (cM R s) kc ks Rt := by
  refine ⟨Nat.le_of_ble_eq_true rfl, fun G hG => ?_⟩
  have b86 : ∀ (a1 : Int32) (s : cS) (kc ks : Nat), KK sa R base G 86 [(0, va_rf (some p0)), (1, .int a1)] [] s kc ks (C_Rr_start_b86 sa p0 a1 s kc ks Q) := by
    have H : ∀ (P86 : (Int32 → cS → Nat → Nat → Prop)) (hP86 : ∀ (a1 : Int32) (s : cS) (kc ks : Nat), P86 a1 s kc ks → cW sa R base s → G 86 [(0, va_rf (some p0)), (1, .int a1)] [] (cM R s) kc ks) (a1 : Int32) (s : cS) (kc ks : Nat), KK sa R base G 86 [(0, va_rf (some p0)), (1, .int a1)] [] s kc ks (C_Rr_start_s86 sa p0 a1 s kc ks Q P86) := by
      intro P86 hP86
      intro a1 s kc ks
      refine kks hG rfl rfl ?_
      refine kk_aln hG (x := (some p0)) rfl rfl ?_
      refine kk_gi hG (c := 9) (k := 5) (a := p0) rfl rfl rfl rfl (fun v1 => ?_)
      refine kk_ige hG (t := 123) rfl rfl ?_ ?_
      · exact kk_rv hG rfl rfl k
      refine kk_aln hG (x := (some p0)) rfl rfl ?_
      refine kk_aln hG (x := (some p0)) rfl rfl ?_
      refine kk_gp hG (c := 9) (k := 4) (a := p0) rfl rfl rfl rfl (fun v2 => ?_)
      refine kks hG rfl rfl ?_
      refine kk_ob (fun b3 eb3 => ?_)
      subst eb3
      refine kk_aa hG (a := b3) rfl (fun v4 => ?_)
      refine kk_ic hG rfl cc_i4 ?_
      refine kk_cv hG 0 rfl rfl (Nat.le_of_ble_eq_true rfl) (by decide) rfl (st' := []) rfl (cats_le (Nat.le_of_ble_eq_true rfl)) (fun _ hw h k => kk_rcv h.1 (kc_Rr_ask base sa hw h.2 k)) (fun sr5 cr5 dr5 => ?_)
      refine kk_aln hG (x := (some p0)) rfl rfl ?_
      refine kk_aln hG (x := (some p0)) rfl rfl ?_
      refine kk_gp hG (c := 9) (k := 4) (a := p0) rfl rfl rfl rfl (fun v6 => ?_)
      refine kks hG rfl rfl ?_
      refine kk_ob (fun b7 eb7 => ?_)
      subst eb7
      refine kk_aa hG (a := b7) rfl (fun v8 => ?_)
      refine kk_bi hG rfl cc_b6 ?_
      refine kk_cv hG 0 rfl rfl (Nat.le_of_ble_eq_true rfl) (by decide) rfl (st' := []) rfl (cats_le (Nat.le_of_ble_eq_true rfl)) (fun _ hw h k => kk_rcv h.1 (kc_Rr_ask base sa hw h.2 k)) (fun sr9 cr9 dr9 => ?_)
      refine kk_inc hG (L' := [(1, .int (a1 + (1 : Int32))), (0, va_rf (some p0))]) rfl (Nat.le_of_ble_eq_true rfl) rfl cc_i1 rfl ?_
      refine kk_go hG (t := 86) rfl rfl ?_
      exact kk_wl hG [1, 0] rfl (fun hw h => hP86 _ _ _ _ h hw)
    exact fun a1 s kc ks hw h => h (fun a1 s kc ks => cW sa R base s → G 86 [(0, va_rf (some p0)), (1, .int a1)] [] (cM R s) kc ks) (fun a1 s kc ks hs hw => H _ (fun _ _ _ _ hp hw => hp hw) a1 s kc ks hw hs) hw
  have b51 : ∀ (a1 : Int32) (s : cS) (kc ks : Nat), KK sa R base G 51 [(0, va_rf (some p0)), (1, .int a1)] [] s kc ks (C_Rr_start_b51 sa p0 a1 s kc ks Q) := by
    have H : ∀ (P51 : (Int32 → cS → Nat → Nat → Prop)) (hP51 : ∀ (a1 : Int32) (s : cS) (kc ks : Nat), P51 a1 s kc ks → cW sa R base s → G 51 [(0, va_rf (some p0)), (1, .int a1)] [] (cM R s) kc ks) (a1 : Int32) (s : cS) (kc ks : Nat), KK sa R base G 51 [(0, va_rf (some p0)), (1, .int a1)] [] s kc ks (C_Rr_start_s51 sa p0 a1 s kc ks Q P51) := by
      intro P51 hP51
      intro a1 s kc ks
      refine kks hG rfl rfl ?_
      refine kk_aln hG (x := (some p0)) rfl rfl ?_
      refine kk_gp hG (c := 9) (k := 7) (a := p0) rfl rfl rfl rfl (fun v1 => ?_)
      refine kk_ob (fun b2 eb2 => ?_)
      subst eb2
      refine kk_gi hG (c := 10) (k := 1) (a := b2) rfl rfl rfl rfl (fun v3 => ?_)
      refine kk_ige hG (t := 84) rfl rfl ?_ ?_
      · refine kk_ic hG rfl cc_i0 ?_
        refine kk_st hG (L' := [(1, .int (0 : Int32)), (0, va_rf (some p0))]) rfl rfl (Nat.le_of_ble_eq_true rfl) rfl ?_
        exact kk_wl hG [1, 0] rfl (b86 _ _ _ _)
      refine kk_aln hG (x := (some p0)) rfl rfl ?_
      refine kk_aln hG (x := (some p0)) rfl rfl ?_
      refine kk_gp hG (c := 9) (k := 7) (a := p0) rfl rfl rfl rfl (fun v4 => ?_)
      refine kk_ob (fun b5 eb5 => ?_)
      subst eb5
      refine kk_gp hG (c := 10) (k := 0) (a := b5) rfl rfl rfl rfl (fun v6 => ?_)
      refine kks hG rfl rfl ?_
      refine kk_ob (fun b7 eb7 => ?_)
      subst eb7
      refine kk_aa hG (a := b7) rfl (fun v8 => ?_)
      refine kk_ob (fun b9 eb9 => ?_)
      subst eb9
      refine kk_gp hG (c := 8) (k := 0) (a := b9) rfl rfl rfl rfl (fun v10 => ?_)
      refine kk_cv hG 0 rfl rfl (Nat.le_of_ble_eq_true rfl) (by decide) rfl (st' := []) rfl (cats_le (Nat.le_of_ble_eq_true rfl)) (fun _ hw h k => kk_rcv h.1 (kc_Rr_settle base sa hw h.2 k)) (fun sr11 cr11 dr11 => ?_)
      refine kk_inc hG (L' := [(1, .int (a1 + (1 : Int32))), (0, va_rf (some p0))]) rfl (Nat.le_of_ble_eq_true rfl) rfl cc_i1 rfl ?_
      refine kk_go hG (t := 51) rfl rfl ?_
      exact kk_wl hG [1, 0] rfl (fun hw h => hP51 _ _ _ _ h hw)
    exact fun a1 s kc ks hw h => h (fun a1 s kc ks => cW sa R base s → G 51 [(0, va_rf (some p0)), (1, .int a1)] [] (cM R s) kc ks) (fun a1 s kc ks hs hw => H _ (fun _ _ _ _ hp hw => hp hw) a1 s kc ks hw hs) hw
  have b25 : ∀ (a1 : Int32) (s : cS) (kc ks : Nat), KK sa R base G 25 [(0, va_rf (some p0)), (1, .int a1)] [] s kc ks (C_Rr_start_b25 sa p0 a1 s kc ks Q) := by
    have H : ∀ (P25 : (Int32 → cS → Nat → Nat → Prop)) (hP25 : ∀ (a1 : Int32) (s : cS) (kc ks : Nat), P25 a1 s kc ks → cW sa R base s → G 25 [(0, va_rf (some p0)), (1, .int a1)] [] (cM R s) kc ks) (a1 : Int32) (s : cS) (kc ks : Nat), KK sa R base G 25 [(0, va_rf (some p0)), (1, .int a1)] [] s kc ks (C_Rr_start_s25 sa p0 a1 s kc ks Q P25) := by
      intro P25 hP25
      intro a1 s kc ks
      refine kks hG rfl rfl ?_
      refine kk_aln hG (x := (some p0)) rfl rfl ?_
      refine kk_gi hG (c := 9) (k := 5) (a := p0) rfl rfl rfl rfl (fun v1 => ?_)
      refine kk_ige hG (t := 49) rfl rfl ?_ ?_
      · refine kk_ic hG rfl cc_i0 ?_
        refine kk_st hG (L' := [(1, .int (0 : Int32)), (0, va_rf (some p0))]) rfl rfl (Nat.le_of_ble_eq_true rfl) rfl ?_
        exact kk_wl hG [1, 0] rfl (b51 _ _ _ _)
      refine kk_aln hG (x := (some p0)) rfl rfl ?_
      refine kk_aln hG (x := (some p0)) rfl rfl ?_
      refine kk_gp hG (c := 9) (k := 4) (a := p0) rfl rfl rfl rfl (fun v2 => ?_)
      refine kks hG rfl rfl ?_
      refine kk_ob (fun b3 eb3 => ?_)
      subst eb3
      refine kk_aa hG (a := b3) rfl (fun v4 => ?_)
      refine kk_cv hG 0 rfl rfl (Nat.le_of_ble_eq_true rfl) (by decide) rfl (st' := []) rfl (cats_le (Nat.le_of_ble_eq_true rfl)) (fun _ hw h k => kk_rcv h.1 (kc_Rr_settlePort base sa hw h.2 k)) (fun sr5 cr5 dr5 => ?_)
      refine kk_inc hG (L' := [(1, .int (a1 + (1 : Int32))), (0, va_rf (some p0))]) rfl (Nat.le_of_ble_eq_true rfl) rfl cc_i1 rfl ?_
      refine kk_go hG (t := 25) rfl rfl ?_
      exact kk_wl hG [1, 0] rfl (fun hw h => hP25 _ _ _ _ h hw)
    exact fun a1 s kc ks hw h => h (fun a1 s kc ks => cW sa R base s → G 25 [(0, va_rf (some p0)), (1, .int a1)] [] (cM R s) kc ks) (fun a1 s kc ks hs hw => H _ (fun _ _ _ _ hp hw => hp hw) a1 s kc ks hw hs) hw
  refine (show KK sa R base G 0 [(0, va_rf (some p0))] [] s kc ks (C_Rr_start sa p0 s kc ks Q) from ?_) hw h
  refine kk_aln hG (x := (some p0)) rfl rfl ?_
  refine kk_ic hG rfl cc_i1 ?_
  refine kk_pz hG (c := 9) (k := 3) (a := p0) rfl rfl rfl rfl (fun s1 => ?_)
  refine kk_aln hG (x := (some p0)) rfl rfl ?_
  refine kk_aln hG (x := (some p0)) rfl rfl ?_
  refine kk_gp hG (c := 9) (k := 0) (a := p0) rfl rfl rfl rfl (fun v2 => ?_)
  refine kk_ob (fun b3 eb3 => ?_)
  subst eb3
  refine kk_gi hG (c := 11) (k := 5) (a := b3) rfl rfl rfl rfl (fun v4 => ?_)
  refine kk_aln hG (x := (some p0)) rfl rfl ?_
  refine kk_gp hG (c := 9) (k := 15) (a := p0) rfl rfl rfl rfl (fun v5 => ?_)
  refine kk_ic hG rfl cc_i0 ?_
  refine kk_ob (fun b6 eb6 => ?_)
  subst eb6
  refine kk_ia hG (a := b6) rfl (fun v7 => ?_)
  refine kks hG rfl rfl ?_
  refine kk_pi hG (c := 9) (k := 17) (a := p0) rfl rfl rfl rfl (fun s8 => ?_)
  refine kk_ic hG rfl cc_i0 ?_
  refine kk_st hG (L' := [(1, .int (0 : Int32)), (0, va_rf (some p0))]) rfl rfl (Nat.le_of_ble_eq_true rfl) rfl ?_
  exact kk_wl hG [1, 0] rfl (b25 _ _ _ _)
def C_Rr_stop (sa : Nat → Nat) (p0 : Nat) (s : cS) (kc ks : Nat) (Q : (cS → Nat → Nat → Prop)) : Prop := okO s 9 p0 ∧ C_Rr_tell sa p0 (2 : Int32) s kc ks (fun sr1 cr1 dr1 => (ob (gP sr1 9 6 p0) (fun v2 => (ob v2 (fun b3 => (okO sr1 10 b3 ∧ C_Ta_clear sa b3 sr1 cr1 dr1 (fun sr4 cr4 dr4 => (ob (pI sr4 9 18 p0 ((-1) : Int32)) (fun s5 => (ob (pZ s5 9 3 p0 (0 : Int32)) (fun s6 => (Q s6 cr4 dr4))))))))))))
set_option maxRecDepth 100000 in
set_option maxHeartbeats 4000000 in
theorem kc_Rr_stop (base : Nat) (sa : Nat → Nat) {R : pmM} {s : cS} {kc ks : Nat} {Rt : pmR} {p0 : Nat} {Q : (cS → Nat → Nat → Prop)} (hw : cW sa R base s) (h : C_Rr_stop sa p0 s kc ks Q) (k : ∀ s' kc' ks', cW sa R base s' → Q s' kc' ks' → Rt none (cM R s') kc' ks') : kP_Rr_stop base sa [.ref p0] (cM R s) kc ks Rt := by
  refine ⟨Nat.le_of_ble_eq_true rfl, fun G hG => ?_⟩
  refine (show KK sa R base G 0 [(0, va_rf (some p0))] [] s kc ks (C_Rr_stop sa p0 s kc ks Q) from ?_) hw h
  refine kk_aln hG (x := (some p0)) rfl rfl ?_
  refine kk_ic hG rfl cc_i2 ?_
  refine kk_cv hG 0 rfl rfl (Nat.le_of_ble_eq_true rfl) (by decide) rfl (st' := []) rfl (cats_le (Nat.le_of_ble_eq_true rfl)) (fun _ hw h k => kk_rcv h.1 (kc_Rr_tell base sa hw h.2 k)) (fun sr1 cr1 dr1 => ?_)
  refine kk_aln hG (x := (some p0)) rfl rfl ?_
  refine kk_gp hG (c := 9) (k := 6) (a := p0) rfl rfl rfl rfl (fun v2 => ?_)
  refine kk_ob (fun b3 eb3 => ?_)
  subst eb3
  refine kk_cv hG 0 rfl rfl (Nat.le_of_ble_eq_true rfl) (by decide) rfl (st' := []) rfl (cats_le (Nat.le_of_ble_eq_true rfl)) (fun _ hw h k => kk_rcv h.1 (kc_Ta_clear base sa hw h.2 k)) (fun sr4 cr4 dr4 => ?_)
  refine kk_aln hG (x := (some p0)) rfl rfl ?_
  refine kk_ic hG rfl cc_im1 ?_
  refine kk_pi hG (c := 9) (k := 18) (a := p0) rfl rfl rfl rfl (fun s5 => ?_)
  refine kk_aln hG (x := (some p0)) rfl rfl ?_
  refine kk_ic hG rfl cc_i0 ?_
  refine kk_pz hG (c := 9) (k := 3) (a := p0) rfl rfl rfl rfl (fun s6 => ?_)
  exact kk_rv hG rfl rfl k
def C_Rf_run (sa : Nat → Nat) (p0 : Nat) (p1 : Int32) (p2 : Int32) (s : cS) (kc ks : Nat) (Q : (Int32 → cS → Nat → Nat → Prop)) : Prop := okO s 11 p0 ∧ C_Rf_routerAt sa p0 p1 s kc ks (fun r1 sr1 cr1 dr1 => (if r1 = none then (Q (0 : Int32) sr1 cr1 dr1) else (ob r1 (fun b2 => (ob (gI sr1 9 3 b2) (fun v3 => (if v3 = p2 then (Q (0 : Int32) sr1 cr1 dr1) else (if p2 = 0 then (okO sr1 9 b2 ∧ C_Rr_stop sa b2 sr1 cr1 dr1 (fun sr4 cr4 dr4 => (Q (1 : Int32) sr4 cr4 dr4))) else (okO sr1 9 b2 ∧ C_Rr_start sa b2 sr1 cr1 dr1 (fun sr5 cr5 dr5 => (Q (1 : Int32) sr5 cr5 dr5)))))))))))
set_option maxRecDepth 100000 in
set_option maxHeartbeats 4000000 in
theorem kc_Rf_run (base : Nat) (sa : Nat → Nat) {R : pmM} {s : cS} {kc ks : Nat} {Rt : pmR} {p0 : Nat} {p1 : Int32} {p2 : Int32} {Q : (Int32 → cS → Nat → Nat → Prop)} (hw : cW sa R base s) (h : C_Rf_run sa p0 p1 p2 s kc ks Q) (k : ∀ r s' kc' ks', cW sa R base s' → Q r s' kc' ks' → Rt (some (.int r)) (cM R s') kc' ks') : kP_Rf_run base sa [.ref p0, .int p1, .int p2] (cM R s) kc ks Rt := by
  refine ⟨Nat.le_of_ble_eq_true rfl, fun G hG => ?_⟩
  refine (show KK sa R base G 0 [(0, va_rf (some p0)), (1, .int p1), (2, .int p2)] [] s kc ks (C_Rf_run sa p0 p1 p2 s kc ks Q) from ?_) hw h
  refine kk_aln hG (x := (some p0)) rfl rfl ?_
  refine kks hG rfl rfl ?_
  refine kk_cx (w := va_rf) hG 0 rfl rfl (Nat.le_of_ble_eq_true rfl) (by decide) rfl (st' := []) rfl (cats_le (Nat.le_of_ble_eq_true rfl)) (fun _ hw h k => kk_rcv h.1 (kc_Rf_routerAt base sa hw h.2 k)) (fun r1 sr1 cr1 dr1 => ?_)
  refine kk_asn hG (x := r1) (L' := [(3, va_rf r1), (0, va_rf (some p0)), (1, .int p1), (2, .int p2)]) rfl (Nat.le_of_ble_eq_true rfl) rfl ?_
  refine kk_aln hG (x := r1) rfl rfl ?_
  refine kk_nul hG (x := r1) (t := 18) rfl rfl ?_ ?_
  · refine kk_ic hG rfl cc_i0 ?_
    exact kk_ri hG rfl rfl rfl k
  refine kk_aln hG (x := r1) rfl rfl ?_
  refine kk_ob (fun b2 eb2 => ?_)
  subst eb2
  refine kk_gi hG (c := 9) (k := 3) (a := b2) rfl rfl rfl rfl (fun v3 => ?_)
  refine kks hG rfl rfl ?_
  refine kk_ine hG (t := 20) rfl rfl ?_ ?_
  · refine kks hG rfl rfl ?_
    refine kk_zeq hG (t := 31) rfl rfl ?_ ?_
    · refine kk_aln hG (x := (some b2)) rfl rfl ?_
      refine kk_cv hG 0 rfl rfl (Nat.le_of_ble_eq_true rfl) (by decide) rfl (st' := []) rfl (cats_le (Nat.le_of_ble_eq_true rfl)) (fun _ hw h k => kk_rcv h.1 (kc_Rr_stop base sa hw h.2 k)) (fun sr4 cr4 dr4 => ?_)
      refine kk_ic hG rfl cc_i1 ?_
      exact kk_ri hG rfl rfl rfl k
    refine kk_aln hG (x := (some b2)) rfl rfl ?_
    refine kk_cv hG 0 rfl rfl (Nat.le_of_ble_eq_true rfl) (by decide) rfl (st' := []) rfl (cats_le (Nat.le_of_ble_eq_true rfl)) (fun _ hw h k => kk_rcv h.1 (kc_Rr_start base sa hw h.2 k)) (fun sr5 cr5 dr5 => ?_)
    refine kk_go hG (t := 35) rfl rfl ?_
    refine kk_ic hG rfl cc_i1 ?_
    exact kk_ri hG rfl rfl rfl k
  refine kk_ic hG rfl cc_i0 ?_
  exact kk_ri hG rfl rfl rfl k
def C_Rf_put_b187 (sa : Nat → Nat) (p0 : Nat) (a8 : Int32) (s : cS) (kc ks : Nat) (Q : (Int32 → cS → Nat → Nat → Prop)) : Prop := ob (gP s 11 0 p0) (fun v1 => (ob v1 (fun b2 => (okO s 0 b2 ∧ C_By_clear sa b2 s kc ks (fun sr3 cr3 dr3 => ((a8 = 0 ∨ a8 = 1) ∧ Q a8 sr3 cr3 dr3))))))
def C_Rf_put_b84 (sa : Nat → Nat) (p0 : Nat) (p2 : Int32) (p3 : Int32) (p4 : Int32) (a5 : Option Nat) (a6 : Int32) (u0 : Int32) (s : cS) (kc ks : Nat) (Q : (Int32 → cS → Nat → Nat → Prop)) : Prop := if u0 = 0 then ((C_Rf_put_b187 sa p0 u0 s kc ks Q)) else (ob (gP s 11 16 p0) (fun v1 => (ob v1 (fun b2 => (ob (gP s 2 0 b2) (fun v3 => (ob v3 (fun b4 => (okO s 0 b4 ∧ C_By_clear sa b4 s kc ks (fun sr5 cr5 dr5 => (ob (gP sr5 11 16 p0) (fun v6 => (ob v6 (fun b7 => (ob (gP sr5 2 0 b7) (fun v8 => (ob (gP sr5 11 0 p0) (fun v9 => (ob (gP sr5 11 0 p0) (fun v10 => (ob v10 (fun b11 => (ob (gI sr5 0 1 b11) (fun v12 => (ob v8 (fun b13 => (okO sr5 0 b13 ∧ C_By_addPart sa b13 v9 a6 v12 sr5 cr5 dr5 (fun sr14 cr14 dr14 => (ob (gP sr14 11 16 p0) (fun v15 => (ob v15 (fun b16 => (ob (gP sr14 2 1 b16) (fun v17 => (ob (gP sr14 11 0 p0) (fun v18 => (ob v17 (fun b19 => (okO sr14 5 b19 ∧ C_Pr_takeBytes sa b19 v18 (0 : Int32) p2 sr14 cr14 dr14 (fun sr20 cr20 dr20 => (ob (gP sr20 11 16 p0) (fun v21 => (ob v21 (fun b22 => (ob (pI sr20 2 4 b22 p2) (fun s23 => (ob (gP s23 11 16 p0) (fun v24 => (ob v24 (fun b25 => (ob (pI s23 2 5 b25 p3) (fun s26 => (ob (gP s26 11 16 p0) (fun v27 => (ob v27 (fun b28 => (ob (pI s26 2 6 b28 p4) (fun s29 => (ob (gP s29 11 16 p0) (fun v30 => (ob v30 (fun b31 => (ob (pZ s29 2 3 b31 (1 : Int32)) (fun s32 => (ob (gP s32 11 16 p0) (fun v33 => (ob v33 (fun b34 => (ob (pP s32 2 7 b34 none) (fun s35 => (okO s35 11 p0 ∧ C_Rf_launch sa p0 a5 s35 cr20 dr20 (fun sr36 cr36 dr36 => ((C_Rf_put_b187 sa p0 u0 sr36 cr36 dr36 Q))))))))))))))))))))))))))))))))))))))))))))))))))))))))))))))))))))))))))
def C_Rf_put_b43 (sa : Nat → Nat) (p0 : Nat) (p2 : Int32) (p3 : Int32) (p4 : Int32) (a5 : Option Nat) (a6 : Int32) (a7 : Int32) (s : cS) (kc ks : Nat) (Q : (Int32 → cS → Nat → Nat → Prop)) : Prop := if a5 = none then ((C_Rf_put_b84 sa p0 p2 p3 p4 a5 a6 (0 : Int32) s kc ks Q)) else (ob a5 (fun b1 => (ob (gI s 3 4 b1) (fun v2 => (if v2 = 0 then ((C_Rf_put_b84 sa p0 p2 p3 p4 (some b1) a6 (0 : Int32) s kc ks Q)) else (if a7 < 0 then ((C_Rf_put_b84 sa p0 p2 p3 p4 (some b1) a6 (0 : Int32) s kc ks Q)) else (if (564 : Int32) < a7 then ((C_Rf_put_b84 sa p0 p2 p3 p4 (some b1) a6 (0 : Int32) s kc ks Q)) else (ob (gI s 3 3 b1) (fun v3 => (if v3 < a7 then ((C_Rf_put_b84 sa p0 p2 p3 p4 (some b1) a6 (0 : Int32) s kc ks Q)) else ((C_Rf_put_b84 sa p0 p2 p3 p4 (some b1) a6 (1 : Int32) s kc ks Q))))))))))))
def C_Rf_put_b18 (sa : Nat → Nat) (p0 : Nat) (p2 : Int32) (p3 : Int32) (p4 : Int32) (a5 : Option Nat) (u0 : Int32) (s : cS) (kc ks : Nat) (Q : (Int32 → cS → Nat → Nat → Prop)) : Prop := ob (gP s 11 0 p0) (fun v1 => (ob v1 (fun b2 => (ob (gI s 0 1 b2) (fun v3 => (if p2 = (4 : Int32) then ((C_Rf_put_b43 sa p0 p2 p3 p4 a5 u0 (v3 - u0) s kc ks Q)) else (if p2 = (6 : Int32) then ((C_Rf_put_b43 sa p0 p2 p3 p4 a5 u0 (v3 - u0) s kc ks Q)) else ((C_Rf_put_b84 sa p0 p2 p3 p4 a5 u0 (0 : Int32) s kc ks Q)))))))))
def C_Rf_put (sa : Nat → Nat) (p0 : Nat) (p1 : Int32) (p2 : Int32) (p3 : Int32) (p4 : Int32) (s : cS) (kc ks : Nat) (Q : (Int32 → cS → Nat → Nat → Prop)) : Prop := okO s 11 p0 ∧ C_Rf_linkAt sa p0 p1 s kc ks (fun r1 sr1 cr1 dr1 => (if p2 = (4 : Int32) then ((C_Rf_put_b18 sa p0 p2 p3 p4 r1 (4 : Int32) sr1 cr1 dr1 Q)) else ((C_Rf_put_b18 sa p0 p2 p3 p4 r1 (16 : Int32) sr1 cr1 dr1 Q))))
set_option maxRecDepth 100000 in
set_option maxHeartbeats 4000000 in
theorem kc_Rf_put (base : Nat) (sa : Nat → Nat) {R : pmM} {s : cS} {kc ks : Nat} {Rt : pmR} {p0 : Nat} {p1 : Int32} {p2 : Int32} {p3 : Int32} {p4 : Int32} {Q : (Int32 → cS → Nat → Nat → Prop)} (hw : cW sa R base s) (h : C_Rf_put sa p0 p1 p2 p3 p4 s kc ks Q) (k : ∀ r s' kc' ks', cW sa R base s' → Q r s' kc' ks' → Rt (some (.int r)) (cM R s') kc' ks') : kP_Rf_put base sa [.ref p0, .int p1, .int p2, .int p3, .int p4] (cM R s) kc ks Rt := by
  refine ⟨Nat.le_of_ble_eq_true rfl, fun G hG => ?_⟩
  have b187 : ∀ (a8 : Int32) (s : cS) (kc ks : Nat), KK sa R base G 187 [(0, va_rf (some p0)), (8, .int a8)] [] s kc ks (C_Rf_put_b187 sa p0 a8 s kc ks Q) := by
    intro a8 s kc ks
    refine kk_aln hG (x := (some p0)) rfl rfl ?_
    refine kk_gp hG (c := 11) (k := 0) (a := p0) rfl rfl rfl rfl (fun v1 => ?_)
    refine kk_ob (fun b2 eb2 => ?_)
    subst eb2
    refine kk_cv hG 0 rfl rfl (Nat.le_of_ble_eq_true rfl) (by decide) rfl (st' := []) rfl (cats_le (Nat.le_of_ble_eq_true rfl)) (fun _ hw h k => kk_rcv h.1 (kc_By_clear base sa hw h.2 k)) (fun sr3 cr3 dr3 => ?_)
    refine kks hG rfl rfl ?_
    exact kk_rz hG rfl rfl k
  have b84 : ∀ (a5 : Option Nat) (a6 : Int32) (u0 : Int32) (s : cS) (kc ks : Nat), KK sa R base G 84 [(0, va_rf (some p0)), (2, .int p2), (3, .int p3), (4, .int p4), (5, va_rf a5), (6, .int a6)] [.int u0] s kc ks (C_Rf_put_b84 sa p0 p2 p3 p4 a5 a6 u0 s kc ks Q) := by
    intro a5 a6 u0 s kc ks
    refine kk_st hG (L' := [(8, .int u0), (0, va_rf (some p0)), (2, .int p2), (3, .int p3), (4, .int p4), (5, va_rf a5), (6, .int a6)]) rfl rfl (Nat.le_of_ble_eq_true rfl) rfl ?_
    refine kks hG rfl rfl ?_
    refine kk_zeq hG (t := 187) rfl rfl ?_ ?_
    · exact kk_wl hG [1, 0] rfl (b187 _ _ _ _)
    refine kk_aln hG (x := (some p0)) rfl rfl ?_
    refine kk_gp hG (c := 11) (k := 16) (a := p0) rfl rfl rfl rfl (fun v1 => ?_)
    refine kk_ob (fun b2 eb2 => ?_)
    subst eb2
    refine kk_gp hG (c := 2) (k := 0) (a := b2) rfl rfl rfl rfl (fun v3 => ?_)
    refine kk_ob (fun b4 eb4 => ?_)
    subst eb4
    refine kk_cv hG 0 rfl rfl (Nat.le_of_ble_eq_true rfl) (by decide) rfl (st' := []) rfl (cats_le (Nat.le_of_ble_eq_true rfl)) (fun _ hw h k => kk_rcv h.1 (kc_By_clear base sa hw h.2 k)) (fun sr5 cr5 dr5 => ?_)
    refine kk_aln hG (x := (some p0)) rfl rfl ?_
    refine kk_gp hG (c := 11) (k := 16) (a := p0) rfl rfl rfl rfl (fun v6 => ?_)
    refine kk_ob (fun b7 eb7 => ?_)
    subst eb7
    refine kk_gp hG (c := 2) (k := 0) (a := b7) rfl rfl rfl rfl (fun v8 => ?_)
    refine kk_aln hG (x := (some p0)) rfl rfl ?_
    refine kk_gp hG (c := 11) (k := 0) (a := p0) rfl rfl rfl rfl (fun v9 => ?_)
    refine kks hG rfl rfl ?_
    refine kk_aln hG (x := (some p0)) rfl rfl ?_
    refine kk_gp hG (c := 11) (k := 0) (a := p0) rfl rfl rfl rfl (fun v10 => ?_)
    refine kk_ob (fun b11 eb11 => ?_)
    subst eb11
    refine kk_gi hG (c := 0) (k := 1) (a := b11) rfl rfl rfl rfl (fun v12 => ?_)
    refine kk_ob (fun b13 eb13 => ?_)
    subst eb13
    refine kk_cv hG 0 rfl rfl (Nat.le_of_ble_eq_true rfl) (by decide) rfl (st' := []) rfl (cats_le (Nat.le_of_ble_eq_true rfl)) (fun _ hw h k => kk_rcv h.1 (kc_By_addPart base sa hw h.2 k)) (fun sr14 cr14 dr14 => ?_)
    refine kk_aln hG (x := (some p0)) rfl rfl ?_
    refine kk_gp hG (c := 11) (k := 16) (a := p0) rfl rfl rfl rfl (fun v15 => ?_)
    refine kk_ob (fun b16 eb16 => ?_)
    subst eb16
    refine kk_gp hG (c := 2) (k := 1) (a := b16) rfl rfl rfl rfl (fun v17 => ?_)
    refine kk_aln hG (x := (some p0)) rfl rfl ?_
    refine kk_gp hG (c := 11) (k := 0) (a := p0) rfl rfl rfl rfl (fun v18 => ?_)
    refine kk_ic hG rfl cc_i0 ?_
    refine kks hG rfl rfl ?_
    refine kk_ob (fun b19 eb19 => ?_)
    subst eb19
    refine kk_cv hG 0 rfl rfl (Nat.le_of_ble_eq_true rfl) (by decide) rfl (st' := []) rfl (cats_le (Nat.le_of_ble_eq_true rfl)) (fun _ hw h k => kk_rcv h.1 (kc_Pr_takeBytes base sa hw h.2 k)) (fun sr20 cr20 dr20 => ?_)
    refine kk_aln hG (x := (some p0)) rfl rfl ?_
    refine kk_gp hG (c := 11) (k := 16) (a := p0) rfl rfl rfl rfl (fun v21 => ?_)
    refine kks hG rfl rfl ?_
    refine kk_ob (fun b22 eb22 => ?_)
    subst eb22
    refine kk_pi hG (c := 2) (k := 4) (a := b22) rfl rfl rfl rfl (fun s23 => ?_)
    refine kk_aln hG (x := (some p0)) rfl rfl ?_
    refine kk_gp hG (c := 11) (k := 16) (a := p0) rfl rfl rfl rfl (fun v24 => ?_)
    refine kks hG rfl rfl ?_
    refine kk_ob (fun b25 eb25 => ?_)
    subst eb25
    refine kk_pi hG (c := 2) (k := 5) (a := b25) rfl rfl rfl rfl (fun s26 => ?_)
    refine kk_aln hG (x := (some p0)) rfl rfl ?_
    refine kk_gp hG (c := 11) (k := 16) (a := p0) rfl rfl rfl rfl (fun v27 => ?_)
    refine kks hG rfl rfl ?_
    refine kk_ob (fun b28 eb28 => ?_)
    subst eb28
    refine kk_pi hG (c := 2) (k := 6) (a := b28) rfl rfl rfl rfl (fun s29 => ?_)
    refine kk_aln hG (x := (some p0)) rfl rfl ?_
    refine kk_gp hG (c := 11) (k := 16) (a := p0) rfl rfl rfl rfl (fun v30 => ?_)
    refine kk_ic hG rfl cc_i1 ?_
    refine kk_ob (fun b31 eb31 => ?_)
    subst eb31
    refine kk_pz hG (c := 2) (k := 3) (a := b31) rfl rfl rfl rfl (fun s32 => ?_)
    refine kk_aln hG (x := (some p0)) rfl rfl ?_
    refine kk_gp hG (c := 11) (k := 16) (a := p0) rfl rfl rfl rfl (fun v33 => ?_)
    refine kks hG rfl rfl ?_
    refine kk_ob (fun b34 eb34 => ?_)
    subst eb34
    refine kk_pp hG (c := 2) (k := 7) (a := b34) (v := none) rfl rfl rfl rfl rfl (fun s35 => ?_)
    refine kk_aln hG (x := (some p0)) rfl rfl ?_
    refine kk_al hG (x := a5) rfl rfl ?_
    refine kk_cv hG 0 rfl rfl (Nat.le_of_ble_eq_true rfl) (by decide) rfl (st' := []) rfl (cats_le (Nat.le_of_ble_eq_true rfl)) (fun _ hw h k => kk_rcv h.1 (kc_Rf_launch base sa hw h.2 k)) (fun sr36 cr36 dr36 => ?_)
    exact kk_wl hG [1, 0] rfl (b187 _ _ _ _)
  have b43 : ∀ (a5 : Option Nat) (a6 : Int32) (a7 : Int32) (s : cS) (kc ks : Nat), KK sa R base G 43 [(0, va_rf (some p0)), (2, .int p2), (3, .int p3), (4, .int p4), (5, va_rf a5), (6, .int a6), (7, .int a7)] [] s kc ks (C_Rf_put_b43 sa p0 p2 p3 p4 a5 a6 a7 s kc ks Q) := by
    intro a5 a6 a7 s kc ks
    refine kk_al hG (x := a5) rfl rfl ?_
    refine kk_nul hG (x := a5) (t := 83) rfl rfl ?_ ?_
    · refine kk_ic hG rfl cc_i0 ?_
      exact kk_wl hG [0, 1, 2, 3, 4, 5] rfl (b84 _ _ _ _ _ _)
    refine kk_al hG (x := a5) rfl rfl ?_
    refine kk_ob (fun b1 eb1 => ?_)
    subst eb1
    refine kk_gi hG (c := 3) (k := 4) (a := b1) rfl rfl rfl rfl (fun v2 => ?_)
    refine kk_zeq hG (t := 83) rfl rfl ?_ ?_
    · refine kk_ic hG rfl cc_i0 ?_
      exact kk_wl hG [0, 1, 2, 3, 4, 5] rfl (b84 _ _ _ _ _ _)
    refine kks hG rfl rfl ?_
    refine kk_zlt hG (t := 83) rfl rfl ?_ ?_
    · refine kk_ic hG rfl cc_i0 ?_
      exact kk_wl hG [0, 1, 2, 3, 4, 5] rfl (b84 _ _ _ _ _ _)
    refine kks hG rfl rfl ?_
    refine kk_si hG rfl cc_s564 ?_
    refine kk_igt hG (t := 83) rfl rfl ?_ ?_
    · refine kk_ic hG rfl cc_i0 ?_
      exact kk_wl hG [0, 1, 2, 3, 4, 5] rfl (b84 _ _ _ _ _ _)
    refine kks hG rfl rfl ?_
    refine kk_al hG (x := (some b1)) rfl rfl ?_
    refine kk_gi hG (c := 3) (k := 3) (a := b1) rfl rfl rfl rfl (fun v3 => ?_)
    refine kk_igt hG (t := 83) rfl rfl ?_ ?_
    · refine kk_ic hG rfl cc_i0 ?_
      exact kk_wl hG [0, 1, 2, 3, 4, 5] rfl (b84 _ _ _ _ _ _)
    refine kk_ic hG rfl cc_i1 ?_
    refine kk_go hG (t := 84) rfl rfl ?_
    exact kk_wl hG [0, 1, 2, 3, 4, 5] rfl (b84 _ _ _ _ _ _)
  have b18 : ∀ (a5 : Option Nat) (u0 : Int32) (s : cS) (kc ks : Nat), KK sa R base G 18 [(0, va_rf (some p0)), (2, .int p2), (3, .int p3), (4, .int p4), (5, va_rf a5)] [.int u0] s kc ks (C_Rf_put_b18 sa p0 p2 p3 p4 a5 u0 s kc ks Q) := by
    intro a5 u0 s kc ks
    refine kk_st hG (L' := [(6, .int u0), (0, va_rf (some p0)), (2, .int p2), (3, .int p3), (4, .int p4), (5, va_rf a5)]) rfl rfl (Nat.le_of_ble_eq_true rfl) (by cases a5 <;> rfl) ?_
    refine kk_aln hG (x := (some p0)) rfl rfl ?_
    refine kk_gp hG (c := 11) (k := 0) (a := p0) rfl rfl rfl rfl (fun v1 => ?_)
    refine kk_ob (fun b2 eb2 => ?_)
    subst eb2
    refine kk_gi hG (c := 0) (k := 1) (a := b2) rfl rfl rfl rfl (fun v3 => ?_)
    refine kks hG rfl rfl ?_
    refine kks hG rfl rfl ?_
    refine kk_st hG (L' := [(7, .int (v3 - u0)), (6, .int u0), (0, va_rf (some p0)), (2, .int p2), (3, .int p3), (4, .int p4), (5, va_rf a5)]) rfl rfl (Nat.le_of_ble_eq_true rfl) rfl ?_
    refine kks hG rfl rfl ?_
    refine kk_ic hG rfl cc_i4 ?_
    refine kk_ieq hG (t := 43) rfl rfl ?_ ?_
    · exact kk_wl hG [2, 3, 4, 5, 6, 1, 0] rfl (b43 _ _ _ _ _ _)
    refine kks hG rfl rfl ?_
    refine kk_bi hG rfl cc_b6 ?_
    refine kk_ine hG (t := 83) rfl rfl ?_ ?_
    · refine kk_ic hG rfl cc_i0 ?_
      exact kk_wl hG [2, 3, 4, 5, 6, 1] rfl (b84 _ _ _ _ _ _)
    exact kk_wl hG [2, 3, 4, 5, 6, 1, 0] rfl (b43 _ _ _ _ _ _)
  refine (show KK sa R base G 0 [(0, va_rf (some p0)), (1, .int p1), (2, .int p2), (3, .int p3), (4, .int p4)] [] s kc ks (C_Rf_put sa p0 p1 p2 p3 p4 s kc ks Q) from ?_) hw h
  refine kk_aln hG (x := (some p0)) rfl rfl ?_
  refine kks hG rfl rfl ?_
  refine kk_cx (w := va_rf) hG 0 rfl rfl (Nat.le_of_ble_eq_true rfl) (by decide) rfl (st' := []) rfl (cats_le (Nat.le_of_ble_eq_true rfl)) (fun _ hw h k => kk_rcv h.1 (kc_Rf_linkAt base sa hw h.2 k)) (fun r1 sr1 cr1 dr1 => ?_)
  refine kk_as hG (x := r1) (L' := [(5, va_rf r1), (0, va_rf (some p0)), (1, .int p1), (2, .int p2), (3, .int p3), (4, .int p4)]) rfl (Nat.le_of_ble_eq_true rfl) rfl ?_
  refine kks hG rfl rfl ?_
  refine kk_ic hG rfl cc_i4 ?_
  refine kk_ine hG (t := 16) rfl rfl ?_ ?_
  · refine kk_bi hG rfl cc_b16 ?_
    exact kk_wl hG [1, 3, 4, 5, 0] rfl (b18 _ _ _ _ _)
  refine kk_ic hG rfl cc_i4 ?_
  refine kk_go hG (t := 18) rfl rfl ?_
  exact kk_wl hG [1, 3, 4, 5, 0] rfl (b18 _ _ _ _ _)
def C_By_addText_s2 (sa : Nat → Nat) (p0 : Nat) (p1 : Option Nat) (a2 : Int32) (s : cS) (kc ks : Nat) (Q : (cS → Nat → Nat → Prop)) (P2 : (Int32 → cS → Nat → Nat → Prop)) : Prop := ob p1 (fun b1 => (C_St_length sa b1 s kc ks (fun r2 sr2 cr2 dr2 => (if a2 < r2 then (C_St_charAt sa b1 a2 sr2 cr2 dr2 (fun r3 sr3 cr3 dr3 => (okO sr3 0 p0 ∧ C_By_add sa p0 r3 sr3 cr3 dr3 (fun sr4 cr4 dr4 => ((P2 (a2 + (1 : Int32)) sr4 cr4 dr4)))))) else ((Q sr2 cr2 dr2))))))
def C_By_addText_b2 (sa : Nat → Nat) (p0 : Nat) (p1 : Option Nat) (a2 : Int32) (s : cS) (kc ks : Nat) (Q : (cS → Nat → Nat → Prop)) : Prop := ∀ P2 : (Int32 → cS → Nat → Nat → Prop), (∀ (a2 : Int32) (s : cS) (kc ks : Nat), C_By_addText_s2 sa p0 p1 a2 s kc ks Q P2 → P2 a2 s kc ks) → P2 a2 s kc ks
def C_By_addText (sa : Nat → Nat) (p0 : Nat) (p1 : Option Nat) (s : cS) (kc ks : Nat) (Q : (cS → Nat → Nat → Prop)) : Prop := (C_By_addText_b2 sa p0 p1 (0 : Int32) s kc ks Q)
set_option maxRecDepth 100000 in
set_option maxHeartbeats 4000000 in
theorem kc_By_addText (base : Nat) (sa : Nat → Nat) {R : pmM} {s : cS} {kc ks : Nat} {Rt : pmR} {p0 : Nat} {p1 : Option Nat} {Q : (cS → Nat → Nat → Prop)} (hw : cW sa R base s) (h : C_By_addText sa p0 p1 s kc ks Q) (k : ∀ s' kc' ks', cW sa R base s' → Q s' kc' ks' → Rt none (cM R s') kc' ks') : kP_By_addText base sa [.ref p0, va_rf p1] (cM R s) kc ks Rt := by
  refine ⟨by cases p1 <;> exact Nat.le_of_ble_eq_true rfl, fun G hG => ?_⟩
  have eL : lv_args 0 [.ref p0, va_rf p1] = [(0, va_rf (some p0)), (1, va_rf p1)] := by cases p1 <;> rfl
  rw [eL]
  have b2 : ∀ (a2 : Int32) (s : cS) (kc ks : Nat), KK sa R base G 2 [(0, va_rf (some p0)), (1, va_rf p1), (2, .int a2)] [] s kc ks (C_By_addText_b2 sa p0 p1 a2 s kc ks Q) := by
    have H : ∀ (P2 : (Int32 → cS → Nat → Nat → Prop)) (hP2 : ∀ (a2 : Int32) (s : cS) (kc ks : Nat), P2 a2 s kc ks → cW sa R base s → G 2 [(0, va_rf (some p0)), (1, va_rf p1), (2, .int a2)] [] (cM R s) kc ks) (a2 : Int32) (s : cS) (kc ks : Nat), KK sa R base G 2 [(0, va_rf (some p0)), (1, va_rf p1), (2, .int a2)] [] s kc ks (C_By_addText_s2 sa p0 p1 a2 s kc ks Q P2) := by
      intro P2 hP2
      intro a2 s kc ks
      refine kks hG rfl rfl ?_
      refine kk_aln hG (x := p1) rfl rfl ?_
      refine kk_ob (fun b1 eb1 => ?_)
      subst eb1
      refine kk_cx (w := .int) hG 0 rfl rfl (Nat.le_of_ble_eq_true rfl) (by decide) rfl (st' := [.int a2]) rfl (cats_le (Nat.le_of_ble_eq_true rfl)) (fun _ hw h k => kr_St_length base sa hw h k) (fun r2 sr2 cr2 dr2 => ?_)
      refine kk_ige hG (t := 25) rfl rfl ?_ ?_
      · exact kk_rv hG rfl rfl k
      refine kk_aln hG (x := (some p0)) rfl rfl ?_
      refine kk_aln hG (x := (some b1)) rfl rfl ?_
      refine kks hG rfl rfl ?_
      refine kk_cx (w := .int) hG 0 rfl rfl (Nat.le_of_ble_eq_true rfl) (by decide) rfl (st' := [va_rf (some p0)]) rfl (cats_le (Nat.le_of_ble_eq_true rfl)) (fun _ hw h k => kr_St_charAt base sa hw h k) (fun r3 sr3 cr3 dr3 => ?_)
      refine kk_cv hG 0 rfl rfl (Nat.le_of_ble_eq_true rfl) (by decide) rfl (st' := []) rfl (cats_le (Nat.le_of_ble_eq_true rfl)) (fun _ hw h k => kk_rcv h.1 (kc_By_add base sa hw h.2 k)) (fun sr4 cr4 dr4 => ?_)
      refine kk_inc hG (L' := [(2, .int (a2 + (1 : Int32))), (0, va_rf (some p0)), (1, va_rf (some b1))]) rfl (Nat.le_of_ble_eq_true rfl) rfl cc_i1 rfl ?_
      refine kk_go hG (t := 2) rfl rfl ?_
      exact kk_wl hG [1, 2, 0] rfl (fun hw h => hP2 _ _ _ _ h hw)
    exact fun a2 s kc ks hw h => h (fun a2 s kc ks => cW sa R base s → G 2 [(0, va_rf (some p0)), (1, va_rf p1), (2, .int a2)] [] (cM R s) kc ks) (fun a2 s kc ks hs hw => H _ (fun _ _ _ _ hp hw => hp hw) a2 s kc ks hw hs) hw
  refine (show KK sa R base G 0 [(0, va_rf (some p0)), (1, va_rf p1)] [] s kc ks (C_By_addText sa p0 p1 s kc ks Q) from ?_) hw h
  refine kk_ic hG rfl cc_i0 ?_
  refine kk_st hG (L' := [(2, .int (0 : Int32)), (0, va_rf (some p0)), (1, va_rf p1)]) rfl rfl (Nat.le_of_ble_eq_true rfl) (by cases p1 <;> rfl) ?_
  exact kk_wl hG [1, 2, 0] rfl (b2 _ _ _ _)
def C_By_word_b29 (sa : Nat → Nat) (p0 : Nat) (p1 : Option Nat) (s : cS) (kc ks : Nat) (Q : (cS → Nat → Nat → Prop)) : Prop := okO s 0 p0 ∧ C_By_addText sa p0 p1 s kc ks (fun sr1 cr1 dr1 => (Q sr1 cr1 dr1))
def C_By_word (sa : Nat → Nat) (p0 : Nat) (p1 : Option Nat) (s : cS) (kc ks : Nat) (Q : (cS → Nat → Nat → Prop)) : Prop := ob (gI s 0 1 p0) (fun v1 => (if 0 < v1 then (ob (gP s 0 0 p0) (fun v2 => (ob (gI s 0 1 p0) (fun v3 => (ob v2 (fun b4 => (ob (rE s .byte b4 (v3 - (1 : Int32))) (fun v5 => (if v5 = (10 : Int32) then ((C_By_word_b29 sa p0 p1 s kc ks Q)) else (okO s 0 p0 ∧ C_By_add sa p0 (32 : Int32) s kc ks (fun sr6 cr6 dr6 => ((C_By_word_b29 sa p0 p1 sr6 cr6 dr6 Q))))))))))))) else ((C_By_word_b29 sa p0 p1 s kc ks Q))))
set_option maxRecDepth 100000 in
set_option maxHeartbeats 4000000 in
theorem kc_By_word (base : Nat) (sa : Nat → Nat) {R : pmM} {s : cS} {kc ks : Nat} {Rt : pmR} {p0 : Nat} {p1 : Option Nat} {Q : (cS → Nat → Nat → Prop)} (hw : cW sa R base s) (h : C_By_word sa p0 p1 s kc ks Q) (k : ∀ s' kc' ks', cW sa R base s' → Q s' kc' ks' → Rt none (cM R s') kc' ks') : kP_By_word base sa [.ref p0, va_rf p1] (cM R s) kc ks Rt := by
  refine ⟨by cases p1 <;> exact Nat.le_of_ble_eq_true rfl, fun G hG => ?_⟩
  have eL : lv_args 0 [.ref p0, va_rf p1] = [(0, va_rf (some p0)), (1, va_rf p1)] := by cases p1 <;> rfl
  rw [eL]
  have b29 : ∀ (s : cS) (kc ks : Nat), KK sa R base G 29 [(0, va_rf (some p0)), (1, va_rf p1)] [] s kc ks (C_By_word_b29 sa p0 p1 s kc ks Q) := by
    intro s kc ks
    refine kk_aln hG (x := (some p0)) rfl rfl ?_
    refine kk_aln hG (x := p1) rfl rfl ?_
    refine kk_cv hG 0 rfl rfl (Nat.le_of_ble_eq_true rfl) (by decide) rfl (st' := []) rfl (cats_le (Nat.le_of_ble_eq_true rfl)) (fun _ hw h k => kk_rcv h.1 (kc_By_addText base sa hw h.2 k)) (fun sr1 cr1 dr1 => ?_)
    exact kk_rv hG rfl rfl k
  refine (show KK sa R base G 0 [(0, va_rf (some p0)), (1, va_rf p1)] [] s kc ks (C_By_word sa p0 p1 s kc ks Q) from ?_) hw h
  refine kk_aln hG (x := (some p0)) rfl rfl ?_
  refine kk_gi hG (c := 0) (k := 1) (a := p0) rfl rfl rfl rfl (fun v1 => ?_)
  refine kk_zle hG (t := 29) rfl rfl ?_ ?_
  · exact kk_wl hG [0, 1] rfl (b29 _ _ _)
  refine kk_aln hG (x := (some p0)) rfl rfl ?_
  refine kk_gp hG (c := 0) (k := 0) (a := p0) rfl rfl rfl rfl (fun v2 => ?_)
  refine kk_aln hG (x := (some p0)) rfl rfl ?_
  refine kk_gi hG (c := 0) (k := 1) (a := p0) rfl rfl rfl rfl (fun v3 => ?_)
  refine kk_ic hG rfl cc_i1 ?_
  refine kks hG rfl rfl ?_
  refine kk_ob (fun b4 eb4 => ?_)
  subst eb4
  refine kk_ba hG (a := b4) rfl (fun v5 => ?_)
  refine kk_bi hG rfl cc_b10 ?_
  refine kk_ieq hG (t := 29) rfl rfl ?_ ?_
  · exact kk_wl hG [0, 1] rfl (b29 _ _ _)
  refine kk_aln hG (x := (some p0)) rfl rfl ?_
  refine kk_bi hG rfl cc_b32 ?_
  refine kk_cv hG 0 rfl rfl (Nat.le_of_ble_eq_true rfl) (by decide) rfl (st' := []) rfl (cats_le (Nat.le_of_ble_eq_true rfl)) (fun _ hw h k => kk_rcv h.1 (kc_By_add base sa hw h.2 k)) (fun sr6 cr6 dr6 => ?_)
  exact kk_wl hG [0, 1] rfl (b29 _ _ _)
def C_Pr_part_b16 (sa : Nat → Nat) (p1 : Int32) (u0 : Int64) (s : cS) (kc ks : Nat) (Q : (Int32 → cS → Nat → Nat → Prop)) : Prop := Q ((Int64.toInt32 (ush_L u0 ((48 : Int32) - ((16 : Int32) * (p1 &&& (3 : Int32)))))) &&& (65535 : Int32)) s kc ks
def C_Pr_part (sa : Nat → Nat) (p0 : Nat) (p1 : Int32) (s : cS) (kc ks : Nat) (Q : (Int32 → cS → Nat → Nat → Prop)) : Prop := if p1 < (4 : Int32) then (ob (gJ s 5 1 p0) (fun v2 => ((C_Pr_part_b16 sa p1 v2 s kc ks Q)))) else (ob (gJ s 5 2 p0) (fun v1 => ((C_Pr_part_b16 sa p1 v1 s kc ks Q))))
set_option maxRecDepth 100000 in
set_option maxHeartbeats 4000000 in
theorem kc_Pr_part (base : Nat) (sa : Nat → Nat) {R : pmM} {s : cS} {kc ks : Nat} {Rt : pmR} {p0 : Nat} {p1 : Int32} {Q : (Int32 → cS → Nat → Nat → Prop)} (hw : cW sa R base s) (h : C_Pr_part sa p0 p1 s kc ks Q) (k : ∀ r s' kc' ks', cW sa R base s' → Q r s' kc' ks' → Rt (some (.int r)) (cM R s') kc' ks') : kP_Pr_part base sa [.ref p0, .int p1] (cM R s) kc ks Rt := by
  refine ⟨Nat.le_of_ble_eq_true rfl, fun G hG => ?_⟩
  have b16 : ∀ (u0 : Int64) (s : cS) (kc ks : Nat), KK sa R base G 16 [(1, .int p1)] [.long u0] s kc ks (C_Pr_part_b16 sa p1 u0 s kc ks Q) := by
    intro u0 s kc ks
    refine kk_bi hG rfl cc_b48 ?_
    refine kk_bi hG rfl cc_b16 ?_
    refine kks hG rfl rfl ?_
    refine kk_ic hG rfl cc_i3 ?_
    refine kks hG rfl rfl ?_
    refine kks hG rfl rfl ?_
    refine kks hG rfl rfl ?_
    refine kks hG rfl rfl ?_
    refine kks hG rfl rfl ?_
    refine kk_ld hG (v := (65535 : Int32)) rfl rfl ?_
    refine kks hG rfl rfl ?_
    exact kk_ri hG rfl rfl rfl k
  refine (show KK sa R base G 0 [(0, va_rf (some p0)), (1, .int p1)] [] s kc ks (C_Pr_part sa p0 p1 s kc ks Q) from ?_) hw h
  refine kks hG rfl rfl ?_
  refine kk_ic hG rfl cc_i4 ?_
  refine kk_ige hG (t := 12) rfl rfl ?_ ?_
  · refine kk_aln hG (x := (some p0)) rfl rfl ?_
    refine kk_gj hG (c := 5) (k := 2) (a := p0) rfl rfl rfl rfl (fun v1 => ?_)
    exact kk_wl hG [1] rfl (b16 _ _ _ _)
  refine kk_aln hG (x := (some p0)) rfl rfl ?_
  refine kk_gj hG (c := 5) (k := 1) (a := p0) rfl rfl rfl rfl (fun v2 => ?_)
  refine kk_go hG (t := 16) rfl rfl ?_
  exact kk_wl hG [1] rfl (b16 _ _ _ _)
def C_By_addHex_b51 (sa : Nat → Nat) (p0 : Nat) (p1 : Int32) (a2 : Int32) (u0 : Option Nat) (u1 : Int32) (s : cS) (kc ks : Nat) (Q : (cS → Nat → Nat → Prop)) (P19 : (Int32 → cS → Nat → Nat → Prop)) : Prop := ob u0 (fun b1 => (okO s 0 b1 ∧ C_By_add sa b1 u1 s kc ks (fun sr2 cr2 dr2 => ((P19 (a2 + ((-4) : Int32)) sr2 cr2 dr2)))))
def C_By_addHex_s19 (sa : Nat → Nat) (p0 : Nat) (p1 : Int32) (a2 : Int32) (s : cS) (kc ks : Nat) (Q : (cS → Nat → Nat → Prop)) (P19 : (Int32 → cS → Nat → Nat → Prop)) : Prop := if a2 < 0 then ((Q s kc ks)) else (if ((p1 >>> (a2 &&& 31)) &&& (15 : Int32)) < (10 : Int32) then ((C_By_addHex_b51 sa p0 p1 a2 (some p0) ((48 : Int32) + ((p1 >>> (a2 &&& 31)) &&& (15 : Int32))) s kc ks Q P19)) else ((C_By_addHex_b51 sa p0 p1 a2 (some p0) (((97 : Int32) + ((p1 >>> (a2 &&& 31)) &&& (15 : Int32))) - (10 : Int32)) s kc ks Q P19)))
def C_By_addHex_b19 (sa : Nat → Nat) (p0 : Nat) (p1 : Int32) (a2 : Int32) (s : cS) (kc ks : Nat) (Q : (cS → Nat → Nat → Prop)) : Prop := ∀ P19 : (Int32 → cS → Nat → Nat → Prop), (∀ (a2 : Int32) (s : cS) (kc ks : Nat), C_By_addHex_s19 sa p0 p1 a2 s kc ks Q P19 → P19 a2 s kc ks) → P19 a2 s kc ks
def C_By_addHex_s3 (sa : Nat → Nat) (p0 : Nat) (p1 : Int32) (a2 : Int32) (s : cS) (kc ks : Nat) (Q : (cS → Nat → Nat → Prop)) (P3 : (Int32 → cS → Nat → Nat → Prop)) : Prop := if 0 < a2 then (if (p1 >>> (a2 &&& 31)) = 0 then ((P3 (a2 + ((-4) : Int32)) s kc ks)) else ((C_By_addHex_b19 sa p0 p1 a2 s kc ks Q))) else ((C_By_addHex_b19 sa p0 p1 a2 s kc ks Q))
def C_By_addHex_b3 (sa : Nat → Nat) (p0 : Nat) (p1 : Int32) (a2 : Int32) (s : cS) (kc ks : Nat) (Q : (cS → Nat → Nat → Prop)) : Prop := ∀ P3 : (Int32 → cS → Nat → Nat → Prop), (∀ (a2 : Int32) (s : cS) (kc ks : Nat), C_By_addHex_s3 sa p0 p1 a2 s kc ks Q P3 → P3 a2 s kc ks) → P3 a2 s kc ks
def C_By_addHex (sa : Nat → Nat) (p0 : Nat) (p1 : Int32) (s : cS) (kc ks : Nat) (Q : (cS → Nat → Nat → Prop)) : Prop := (C_By_addHex_b3 sa p0 p1 (12 : Int32) s kc ks Q)
set_option maxRecDepth 100000 in
set_option maxHeartbeats 4000000 in
theorem kc_By_addHex (base : Nat) (sa : Nat → Nat) {R : pmM} {s : cS} {kc ks : Nat} {Rt : pmR} {p0 : Nat} {p1 : Int32} {Q : (cS → Nat → Nat → Prop)} (hw : cW sa R base s) (h : C_By_addHex sa p0 p1 s kc ks Q) (k : ∀ s' kc' ks', cW sa R base s' → Q s' kc' ks' → Rt none (cM R s') kc' ks') : kP_By_addHex base sa [.ref p0, .int p1] (cM R s) kc ks Rt := by
  refine ⟨Nat.le_of_ble_eq_true rfl, fun G hG => ?_⟩
  have b19 : ∀ (a2 : Int32) (s : cS) (kc ks : Nat), KK sa R base G 19 [(0, va_rf (some p0)), (1, .int p1), (2, .int a2)] [] s kc ks (C_By_addHex_b19 sa p0 p1 a2 s kc ks Q) := by
    have H : ∀ (P19 : (Int32 → cS → Nat → Nat → Prop)) (hP19 : ∀ (a2 : Int32) (s : cS) (kc ks : Nat), P19 a2 s kc ks → cW sa R base s → G 19 [(0, va_rf (some p0)), (1, .int p1), (2, .int a2)] [] (cM R s) kc ks) (a2 : Int32) (s : cS) (kc ks : Nat), KK sa R base G 19 [(0, va_rf (some p0)), (1, .int p1), (2, .int a2)] [] s kc ks (C_By_addHex_s19 sa p0 p1 a2 s kc ks Q P19) := by
      intro P19 hP19
      have b51 : ∀ (a2 : Int32) (u0 : Option Nat) (u1 : Int32) (s : cS) (kc ks : Nat), KK sa R base G 51 [(0, va_rf (some p0)), (1, .int p1), (2, .int a2)] [.int u1, va_rf u0] s kc ks (C_By_addHex_b51 sa p0 p1 a2 u0 u1 s kc ks Q P19) := by
        intro a2 u0 u1 s kc ks
        refine kk_ob (fun b1 eb1 => ?_)
        subst eb1
        refine kk_cv hG 0 rfl rfl (Nat.le_of_ble_eq_true rfl) (by decide) rfl (st' := []) rfl (cats_le (Nat.le_of_ble_eq_true rfl)) (fun _ hw h k => kk_rcv h.1 (kc_By_add base sa hw h.2 k)) (fun sr2 cr2 dr2 => ?_)
        refine kk_inc hG (L' := [(2, .int (a2 + ((-4) : Int32))), (0, va_rf (some p0)), (1, .int p1)]) rfl (Nat.le_of_ble_eq_true rfl) rfl cc_im4 rfl ?_
        refine kk_go hG (t := 19) rfl rfl ?_
        exact kk_wl hG [1, 2, 0] rfl (fun hw h => hP19 _ _ _ _ h hw)
      intro a2 s kc ks
      refine kks hG rfl rfl ?_
      refine kk_zlt hG (t := 60) rfl rfl ?_ ?_
      · exact kk_rv hG rfl rfl k
      refine kks hG rfl rfl ?_
      refine kks hG rfl rfl ?_
      refine kks hG rfl rfl ?_
      refine kk_bi hG rfl cc_b15 ?_
      refine kks hG rfl rfl ?_
      refine kk_st hG (L' := [(3, .int ((p1 >>> (a2 &&& 31)) &&& (15 : Int32))), (0, va_rf (some p0)), (1, .int p1), (2, .int a2)]) rfl rfl (Nat.le_of_ble_eq_true rfl) rfl ?_
      refine kk_aln hG (x := (some p0)) rfl rfl ?_
      refine kks hG rfl rfl ?_
      refine kk_bi hG rfl cc_b10 ?_
      refine kk_ige hG (t := 44) rfl rfl ?_ ?_
      · refine kk_bi hG rfl cc_b97 ?_
        refine kks hG rfl rfl ?_
        refine kks hG rfl rfl ?_
        refine kk_bi hG rfl cc_b10 ?_
        refine kks hG rfl rfl ?_
        exact kk_wl hG [1, 2, 3] rfl (b51 _ _ _ _ _ _)
      refine kk_bi hG rfl cc_b48 ?_
      refine kks hG rfl rfl ?_
      refine kks hG rfl rfl ?_
      refine kk_go hG (t := 51) rfl rfl ?_
      exact kk_wl hG [1, 2, 3] rfl (b51 _ _ _ _ _ _)
    exact fun a2 s kc ks hw h => h (fun a2 s kc ks => cW sa R base s → G 19 [(0, va_rf (some p0)), (1, .int p1), (2, .int a2)] [] (cM R s) kc ks) (fun a2 s kc ks hs hw => H _ (fun _ _ _ _ hp hw => hp hw) a2 s kc ks hw hs) hw
  have b3 : ∀ (a2 : Int32) (s : cS) (kc ks : Nat), KK sa R base G 3 [(0, va_rf (some p0)), (1, .int p1), (2, .int a2)] [] s kc ks (C_By_addHex_b3 sa p0 p1 a2 s kc ks Q) := by
    have H : ∀ (P3 : (Int32 → cS → Nat → Nat → Prop)) (hP3 : ∀ (a2 : Int32) (s : cS) (kc ks : Nat), P3 a2 s kc ks → cW sa R base s → G 3 [(0, va_rf (some p0)), (1, .int p1), (2, .int a2)] [] (cM R s) kc ks) (a2 : Int32) (s : cS) (kc ks : Nat), KK sa R base G 3 [(0, va_rf (some p0)), (1, .int p1), (2, .int a2)] [] s kc ks (C_By_addHex_s3 sa p0 p1 a2 s kc ks Q P3) := by
      intro P3 hP3
      intro a2 s kc ks
      refine kks hG rfl rfl ?_
      refine kk_zle hG (t := 19) rfl rfl ?_ ?_
      · exact kk_wl hG [0, 1, 2] rfl (b19 _ _ _ _)
      refine kks hG rfl rfl ?_
      refine kks hG rfl rfl ?_
      refine kks hG rfl rfl ?_
      refine kk_zne hG (t := 19) rfl rfl ?_ ?_
      · exact kk_wl hG [0, 1, 2] rfl (b19 _ _ _ _)
      refine kk_inc hG (L' := [(2, .int (a2 + ((-4) : Int32))), (0, va_rf (some p0)), (1, .int p1)]) rfl (Nat.le_of_ble_eq_true rfl) rfl cc_im4 rfl ?_
      refine kk_go hG (t := 3) rfl rfl ?_
      exact kk_wl hG [1, 2, 0] rfl (fun hw h => hP3 _ _ _ _ h hw)
    exact fun a2 s kc ks hw h => h (fun a2 s kc ks => cW sa R base s → G 3 [(0, va_rf (some p0)), (1, .int p1), (2, .int a2)] [] (cM R s) kc ks) (fun a2 s kc ks hs hw => H _ (fun _ _ _ _ hp hw => hp hw) a2 s kc ks hw hs) hw
  refine (show KK sa R base G 0 [(0, va_rf (some p0)), (1, .int p1)] [] s kc ks (C_By_addHex sa p0 p1 s kc ks Q) from ?_) hw h
  refine kk_bi hG rfl cc_b12 ?_
  refine kk_st hG (L' := [(2, .int (12 : Int32)), (0, va_rf (some p0)), (1, .int p1)]) rfl rfl (Nat.le_of_ble_eq_true rfl) rfl ?_
  exact kk_wl hG [1, 2, 0] rfl (b3 _ _ _ _)
def C_By_addSix_b58 (sa : Nat → Nat) (p0 : Nat) (p1 : Option Nat) (a2 : Int32) (a3 : Int32) (a4 : Int32) (s : cS) (kc ks : Nat) (Q : (cS → Nat → Nat → Prop)) (P8 : (Int32 → Int32 → Int32 → cS → Nat → Nat → Prop)) : Prop := (P8 a2 a3 (a4 + (1 : Int32)) s kc ks)
def C_By_addSix_b46 (sa : Nat → Nat) (p0 : Nat) (p1 : Option Nat) (a2 : Int32) (a3 : Int32) (a4 : Int32) (a5 : Int32) (s : cS) (kc ks : Nat) (Q : (cS → Nat → Nat → Prop)) (P8 : (Int32 → Int32 → Int32 → cS → Nat → Nat → Prop)) : Prop := if a3 < a5 then ((C_By_addSix_b58 sa p0 p1 a4 a5 a4 s kc ks Q P8)) else ((C_By_addSix_b58 sa p0 p1 a2 a3 a4 s kc ks Q P8))
def C_By_addSix_s18 (sa : Nat → Nat) (p0 : Nat) (p1 : Option Nat) (a2 : Int32) (a3 : Int32) (a4 : Int32) (a5 : Int32) (s : cS) (kc ks : Nat) (Q : (cS → Nat → Nat → Prop)) (P8 : (Int32 → Int32 → Int32 → cS → Nat → Nat → Prop)) (P18 : (Int32 → cS → Nat → Nat → Prop)) : Prop := if (a4 + a5) < (8 : Int32) then (ob p1 (fun b1 => (okO s 5 b1 ∧ C_Pr_part sa b1 (a4 + a5) s kc ks (fun r2 sr2 cr2 dr2 => (if r2 = 0 then ((P18 (a5 + (1 : Int32)) sr2 cr2 dr2)) else ((C_By_addSix_b46 sa p0 (some b1) a2 a3 a4 a5 sr2 cr2 dr2 Q P8))))))) else ((C_By_addSix_b46 sa p0 p1 a2 a3 a4 a5 s kc ks Q P8))
def C_By_addSix_b18 (sa : Nat → Nat) (p0 : Nat) (p1 : Option Nat) (a2 : Int32) (a3 : Int32) (a4 : Int32) (a5 : Int32) (s : cS) (kc ks : Nat) (Q : (cS → Nat → Nat → Prop)) (P8 : (Int32 → Int32 → Int32 → cS → Nat → Nat → Prop)) : Prop := ∀ P18 : (Int32 → cS → Nat → Nat → Prop), (∀ (a5 : Int32) (s : cS) (kc ks : Nat), C_By_addSix_s18 sa p0 p1 a2 a3 a4 a5 s kc ks Q P8 P18 → P18 a5 s kc ks) → P18 a5 s kc ks
def C_By_addSix_b132 (sa : Nat → Nat) (p0 : Nat) (p1 : Option Nat) (a2 : Int32) (a3 : Int32) (a4 : Int32) (s : cS) (kc ks : Nat) (Q : (cS → Nat → Nat → Prop)) (P67 : (Int32 → cS → Nat → Nat → Prop)) : Prop := (P67 (a4 + (1 : Int32)) s kc ks)
def C_By_addSix_b122 (sa : Nat → Nat) (p0 : Nat) (p1 : Option Nat) (a2 : Int32) (a3 : Int32) (a4 : Int32) (s : cS) (kc ks : Nat) (Q : (cS → Nat → Nat → Prop)) (P67 : (Int32 → cS → Nat → Nat → Prop)) : Prop := ob p1 (fun b1 => (okO s 5 b1 ∧ C_Pr_part sa b1 a4 s kc ks (fun r2 sr2 cr2 dr2 => (okO sr2 0 p0 ∧ C_By_addHex sa p0 r2 sr2 cr2 dr2 (fun sr3 cr3 dr3 => ((C_By_addSix_b132 sa p0 (some b1) a2 a3 a4 sr3 cr3 dr3 Q P67)))))))
def C_By_addSix_b103 (sa : Nat → Nat) (p0 : Nat) (p1 : Option Nat) (a2 : Int32) (a3 : Int32) (a4 : Int32) (s : cS) (kc ks : Nat) (Q : (cS → Nat → Nat → Prop)) (P67 : (Int32 → cS → Nat → Nat → Prop)) : Prop := if 0 < a4 then (if a4 = (a2 + a3) then ((C_By_addSix_b122 sa p0 p1 a2 a3 a4 s kc ks Q P67)) else (okO s 0 p0 ∧ C_By_add sa p0 (58 : Int32) s kc ks (fun sr1 cr1 dr1 => ((C_By_addSix_b122 sa p0 p1 a2 a3 a4 sr1 cr1 dr1 Q P67))))) else ((C_By_addSix_b122 sa p0 p1 a2 a3 a4 s kc ks Q P67))
def C_By_addSix_s67 (sa : Nat → Nat) (p0 : Nat) (p1 : Option Nat) (a2 : Int32) (a3 : Int32) (a4 : Int32) (s : cS) (kc ks : Nat) (Q : (cS → Nat → Nat → Prop)) (P67 : (Int32 → cS → Nat → Nat → Prop)) : Prop := if a4 < (8 : Int32) then (if a4 = a2 then (okO s 0 p0 ∧ C_By_addText sa p0 (some (sa 39)) s kc ks (fun sr1 cr1 dr1 => ((C_By_addSix_b132 sa p0 p1 a2 a3 a4 sr1 cr1 dr1 Q P67)))) else (if a4 < a2 then ((C_By_addSix_b103 sa p0 p1 a2 a3 a4 s kc ks Q P67)) else (if a4 < (a2 + a3) then ((C_By_addSix_b132 sa p0 p1 a2 a3 a4 s kc ks Q P67)) else ((C_By_addSix_b103 sa p0 p1 a2 a3 a4 s kc ks Q P67))))) else ((Q s kc ks))
def C_By_addSix_b67 (sa : Nat → Nat) (p0 : Nat) (p1 : Option Nat) (a2 : Int32) (a3 : Int32) (a4 : Int32) (s : cS) (kc ks : Nat) (Q : (cS → Nat → Nat → Prop)) : Prop := ∀ P67 : (Int32 → cS → Nat → Nat → Prop), (∀ (a4 : Int32) (s : cS) (kc ks : Nat), C_By_addSix_s67 sa p0 p1 a2 a3 a4 s kc ks Q P67 → P67 a4 s kc ks) → P67 a4 s kc ks
def C_By_addSix_s8 (sa : Nat → Nat) (p0 : Nat) (p1 : Option Nat) (a2 : Int32) (a3 : Int32) (a4 : Int32) (s : cS) (kc ks : Nat) (Q : (cS → Nat → Nat → Prop)) (P8 : (Int32 → Int32 → Int32 → cS → Nat → Nat → Prop)) : Prop := if a4 < (8 : Int32) then ((C_By_addSix_b18 sa p0 p1 a2 a3 a4 (0 : Int32) s kc ks Q P8)) else (((C_By_addSix_b67 sa p0 p1 a2 a3 (0 : Int32) s kc ks Q)))
def C_By_addSix_b8 (sa : Nat → Nat) (p0 : Nat) (p1 : Option Nat) (a2 : Int32) (a3 : Int32) (a4 : Int32) (s : cS) (kc ks : Nat) (Q : (cS → Nat → Nat → Prop)) : Prop := ∀ P8 : (Int32 → Int32 → Int32 → cS → Nat → Nat → Prop), (∀ (a2 : Int32) (a3 : Int32) (a4 : Int32) (s : cS) (kc ks : Nat), C_By_addSix_s8 sa p0 p1 a2 a3 a4 s kc ks Q P8 → P8 a2 a3 a4 s kc ks) → P8 a2 a3 a4 s kc ks
def C_By_addSix (sa : Nat → Nat) (p0 : Nat) (p1 : Option Nat) (s : cS) (kc ks : Nat) (Q : (cS → Nat → Nat → Prop)) : Prop := (C_By_addSix_b8 sa p0 p1 (8 : Int32) (1 : Int32) (0 : Int32) s kc ks Q)
set_option maxRecDepth 100000 in
set_option maxHeartbeats 4000000 in
theorem kc_By_addSix (base : Nat) (sa : Nat → Nat) {R : pmM} {s : cS} {kc ks : Nat} {Rt : pmR} {p0 : Nat} {p1 : Option Nat} {Q : (cS → Nat → Nat → Prop)} (hw : cW sa R base s) (h : C_By_addSix sa p0 p1 s kc ks Q) (k : ∀ s' kc' ks', cW sa R base s' → Q s' kc' ks' → Rt none (cM R s') kc' ks') : kP_By_addSix base sa [.ref p0, va_rf p1] (cM R s) kc ks Rt := by
  refine ⟨by cases p1 <;> exact Nat.le_of_ble_eq_true rfl, fun G hG => ?_⟩
  have eL : lv_args 0 [.ref p0, va_rf p1] = [(0, va_rf (some p0)), (1, va_rf p1)] := by cases p1 <;> rfl
  rw [eL]
  have b67 : ∀ (a2 : Int32) (a3 : Int32) (a4 : Int32) (s : cS) (kc ks : Nat), KK sa R base G 67 [(0, va_rf (some p0)), (1, va_rf p1), (2, .int a2), (3, .int a3), (4, .int a4)] [] s kc ks (C_By_addSix_b67 sa p0 p1 a2 a3 a4 s kc ks Q) := by
    intro a2 a3
    have H : ∀ (P67 : (Int32 → cS → Nat → Nat → Prop)) (hP67 : ∀ (a4 : Int32) (s : cS) (kc ks : Nat), P67 a4 s kc ks → cW sa R base s → G 67 [(0, va_rf (some p0)), (1, va_rf p1), (2, .int a2), (3, .int a3), (4, .int a4)] [] (cM R s) kc ks) (a4 : Int32) (s : cS) (kc ks : Nat), KK sa R base G 67 [(0, va_rf (some p0)), (1, va_rf p1), (2, .int a2), (3, .int a3), (4, .int a4)] [] s kc ks (C_By_addSix_s67 sa p0 p1 a2 a3 a4 s kc ks Q P67) := by
      intro P67 hP67
      have b132 : ∀ (a4 : Int32) (s : cS) (kc ks : Nat), KK sa R base G 132 [(0, va_rf (some p0)), (1, va_rf p1), (2, .int a2), (3, .int a3), (4, .int a4)] [] s kc ks (C_By_addSix_b132 sa p0 p1 a2 a3 a4 s kc ks Q P67) := by
        intro a4 s kc ks
        refine kk_inc hG (L' := [(4, .int (a4 + (1 : Int32))), (0, va_rf (some p0)), (1, va_rf p1), (2, .int a2), (3, .int a3)]) rfl (Nat.le_of_ble_eq_true rfl) rfl cc_i1 rfl ?_
        refine kk_go hG (t := 67) rfl rfl ?_
        exact kk_wl hG [1, 2, 3, 4, 0] rfl (fun hw h => hP67 _ _ _ _ h hw)
      have b122 : ∀ (a4 : Int32) (s : cS) (kc ks : Nat), KK sa R base G 122 [(0, va_rf (some p0)), (1, va_rf p1), (2, .int a2), (3, .int a3), (4, .int a4)] [] s kc ks (C_By_addSix_b122 sa p0 p1 a2 a3 a4 s kc ks Q P67) := by
        intro a4 s kc ks
        refine kk_aln hG (x := (some p0)) rfl rfl ?_
        refine kk_aln hG (x := p1) rfl rfl ?_
        refine kks hG rfl rfl ?_
        refine kk_ob (fun b1 eb1 => ?_)
        subst eb1
        refine kk_cx (w := .int) hG 0 rfl rfl (Nat.le_of_ble_eq_true rfl) (by decide) rfl (st' := [va_rf (some p0)]) rfl (cats_le (Nat.le_of_ble_eq_true rfl)) (fun _ hw h k => kk_rcv h.1 (kc_Pr_part base sa hw h.2 k)) (fun r2 sr2 cr2 dr2 => ?_)
        refine kk_cv hG 0 rfl rfl (Nat.le_of_ble_eq_true rfl) (by decide) rfl (st' := []) rfl (cats_le (Nat.le_of_ble_eq_true rfl)) (fun _ hw h k => kk_rcv h.1 (kc_By_addHex base sa hw h.2 k)) (fun sr3 cr3 dr3 => ?_)
        exact kk_wl hG [0, 1, 2, 3, 4] rfl (b132 _ _ _ _)
      have b103 : ∀ (a4 : Int32) (s : cS) (kc ks : Nat), KK sa R base G 103 [(0, va_rf (some p0)), (1, va_rf p1), (2, .int a2), (3, .int a3), (4, .int a4)] [] s kc ks (C_By_addSix_b103 sa p0 p1 a2 a3 a4 s kc ks Q P67) := by
        intro a4 s kc ks
        refine kks hG rfl rfl ?_
        refine kk_zle hG (t := 122) rfl rfl ?_ ?_
        · exact kk_wl hG [0, 1, 2, 3, 4] rfl (b122 _ _ _ _)
        refine kks hG rfl rfl ?_
        refine kks hG rfl rfl ?_
        refine kks hG rfl rfl ?_
        refine kks hG rfl rfl ?_
        refine kk_ieq hG (t := 122) rfl rfl ?_ ?_
        · exact kk_wl hG [0, 1, 2, 3, 4] rfl (b122 _ _ _ _)
        refine kk_aln hG (x := (some p0)) rfl rfl ?_
        refine kk_bi hG rfl cc_b58 ?_
        refine kk_cv hG 0 rfl rfl (Nat.le_of_ble_eq_true rfl) (by decide) rfl (st' := []) rfl (cats_le (Nat.le_of_ble_eq_true rfl)) (fun _ hw h k => kk_rcv h.1 (kc_By_add base sa hw h.2 k)) (fun sr1 cr1 dr1 => ?_)
        exact kk_wl hG [0, 1, 2, 3, 4] rfl (b122 _ _ _ _)
      intro a4 s kc ks
      refine kks hG rfl rfl ?_
      refine kk_bi hG rfl cc_b8 ?_
      refine kk_ige hG (t := 138) rfl rfl ?_ ?_
      · exact kk_rv hG rfl rfl k
      refine kks hG rfl rfl ?_
      refine kks hG rfl rfl ?_
      refine kk_ine hG (t := 89) rfl rfl ?_ ?_
      · refine kks hG rfl rfl ?_
        refine kks hG rfl rfl ?_
        refine kk_ilt hG (t := 103) rfl rfl ?_ ?_
        · exact kk_wl hG [0, 1, 2, 3, 4] rfl (b103 _ _ _ _)
        refine kks hG rfl rfl ?_
        refine kks hG rfl rfl ?_
        refine kks hG rfl rfl ?_
        refine kks hG rfl rfl ?_
        refine kk_ilt hG (t := 132) rfl rfl ?_ ?_
        · exact kk_wl hG [0, 1, 2, 3, 4] rfl (b132 _ _ _ _)
        exact kk_wl hG [0, 1, 2, 3, 4] rfl (b103 _ _ _ _)
      refine kk_aln hG (x := (some p0)) rfl rfl ?_
      refine kk_lds hG (a := sa 39) rfl rfl ?_
      refine kk_cv hG 0 rfl rfl (Nat.le_of_ble_eq_true rfl) (by decide) rfl (st' := []) rfl (cats_le (Nat.le_of_ble_eq_true rfl)) (fun _ hw h k => kk_rcv h.1 (kc_By_addText base sa hw h.2 k)) (fun sr1 cr1 dr1 => ?_)
      refine kk_go hG (t := 132) rfl rfl ?_
      exact kk_wl hG [0, 1, 2, 3, 4] rfl (b132 _ _ _ _)
    exact fun a4 s kc ks hw h => h (fun a4 s kc ks => cW sa R base s → G 67 [(0, va_rf (some p0)), (1, va_rf p1), (2, .int a2), (3, .int a3), (4, .int a4)] [] (cM R s) kc ks) (fun a4 s kc ks hs hw => H _ (fun _ _ _ _ hp hw => hp hw) a4 s kc ks hw hs) hw
  have b8 : ∀ (a2 : Int32) (a3 : Int32) (a4 : Int32) (s : cS) (kc ks : Nat), KK sa R base G 8 [(0, va_rf (some p0)), (1, va_rf p1), (2, .int a2), (3, .int a3), (4, .int a4)] [] s kc ks (C_By_addSix_b8 sa p0 p1 a2 a3 a4 s kc ks Q) := by
    have H : ∀ (P8 : (Int32 → Int32 → Int32 → cS → Nat → Nat → Prop)) (hP8 : ∀ (a2 : Int32) (a3 : Int32) (a4 : Int32) (s : cS) (kc ks : Nat), P8 a2 a3 a4 s kc ks → cW sa R base s → G 8 [(0, va_rf (some p0)), (1, va_rf p1), (2, .int a2), (3, .int a3), (4, .int a4)] [] (cM R s) kc ks) (a2 : Int32) (a3 : Int32) (a4 : Int32) (s : cS) (kc ks : Nat), KK sa R base G 8 [(0, va_rf (some p0)), (1, va_rf p1), (2, .int a2), (3, .int a3), (4, .int a4)] [] s kc ks (C_By_addSix_s8 sa p0 p1 a2 a3 a4 s kc ks Q P8) := by
      intro P8 hP8
      have b58 : ∀ (a2 : Int32) (a3 : Int32) (a4 : Int32) (s : cS) (kc ks : Nat), KK sa R base G 58 [(0, va_rf (some p0)), (1, va_rf p1), (2, .int a2), (3, .int a3), (4, .int a4)] [] s kc ks (C_By_addSix_b58 sa p0 p1 a2 a3 a4 s kc ks Q P8) := by
        intro a2 a3 a4 s kc ks
        refine kk_inc hG (L' := [(4, .int (a4 + (1 : Int32))), (0, va_rf (some p0)), (1, va_rf p1), (2, .int a2), (3, .int a3)]) rfl (Nat.le_of_ble_eq_true rfl) rfl cc_i1 rfl ?_
        refine kk_go hG (t := 8) rfl rfl ?_
        exact kk_wl hG [1, 2, 3, 4, 0] rfl (fun hw h => hP8 _ _ _ _ _ _ h hw)
      have b46 : ∀ (a2 : Int32) (a3 : Int32) (a4 : Int32) (a5 : Int32) (s : cS) (kc ks : Nat), KK sa R base G 46 [(0, va_rf (some p0)), (1, va_rf p1), (2, .int a2), (3, .int a3), (4, .int a4), (5, .int a5)] [] s kc ks (C_By_addSix_b46 sa p0 p1 a2 a3 a4 a5 s kc ks Q P8) := by
        intro a2 a3 a4 a5 s kc ks
        refine kks hG rfl rfl ?_
        refine kks hG rfl rfl ?_
        refine kk_ile hG (t := 58) rfl rfl ?_ ?_
        · exact kk_wl hG [0, 1, 2, 3, 4] rfl (b58 _ _ _ _ _ _)
        refine kks hG rfl rfl ?_
        refine kk_st hG (L' := [(2, .int a4), (0, va_rf (some p0)), (1, va_rf p1), (3, .int a3), (4, .int a4), (5, .int a5)]) rfl rfl (Nat.le_of_ble_eq_true rfl) (by cases p1 <;> rfl) ?_
        refine kks hG rfl rfl ?_
        refine kk_st hG (L' := [(3, .int a5), (2, .int a4), (0, va_rf (some p0)), (1, va_rf p1), (4, .int a4), (5, .int a5)]) rfl rfl (Nat.le_of_ble_eq_true rfl) rfl ?_
        exact kk_wl hG [2, 3, 1, 0, 4] rfl (b58 _ _ _ _ _ _)
      have b18 : ∀ (a2 : Int32) (a3 : Int32) (a4 : Int32) (a5 : Int32) (s : cS) (kc ks : Nat), KK sa R base G 18 [(0, va_rf (some p0)), (1, va_rf p1), (2, .int a2), (3, .int a3), (4, .int a4), (5, .int a5)] [] s kc ks (C_By_addSix_b18 sa p0 p1 a2 a3 a4 a5 s kc ks Q P8) := by
        intro a2 a3 a4
        have H : ∀ (P18 : (Int32 → cS → Nat → Nat → Prop)) (hP18 : ∀ (a5 : Int32) (s : cS) (kc ks : Nat), P18 a5 s kc ks → cW sa R base s → G 18 [(0, va_rf (some p0)), (1, va_rf p1), (2, .int a2), (3, .int a3), (4, .int a4), (5, .int a5)] [] (cM R s) kc ks) (a5 : Int32) (s : cS) (kc ks : Nat), KK sa R base G 18 [(0, va_rf (some p0)), (1, va_rf p1), (2, .int a2), (3, .int a3), (4, .int a4), (5, .int a5)] [] s kc ks (C_By_addSix_s18 sa p0 p1 a2 a3 a4 a5 s kc ks Q P8 P18) := by
          intro P18 hP18
          intro a5 s kc ks
          refine kks hG rfl rfl ?_
          refine kks hG rfl rfl ?_
          refine kks hG rfl rfl ?_
          refine kk_bi hG rfl cc_b8 ?_
          refine kk_ige hG (t := 46) rfl rfl ?_ ?_
          · exact kk_wl hG [0, 1, 2, 3, 4, 5] rfl (b46 _ _ _ _ _ _ _)
          refine kk_aln hG (x := p1) rfl rfl ?_
          refine kks hG rfl rfl ?_
          refine kks hG rfl rfl ?_
          refine kks hG rfl rfl ?_
          refine kk_ob (fun b1 eb1 => ?_)
          subst eb1
          refine kk_cx (w := .int) hG 0 rfl rfl (Nat.le_of_ble_eq_true rfl) (by decide) rfl (st' := []) rfl (cats_le (Nat.le_of_ble_eq_true rfl)) (fun _ hw h k => kk_rcv h.1 (kc_Pr_part base sa hw h.2 k)) (fun r2 sr2 cr2 dr2 => ?_)
          refine kk_zne hG (t := 46) rfl rfl ?_ ?_
          · exact kk_wl hG [0, 1, 2, 3, 4, 5] rfl (b46 _ _ _ _ _ _ _)
          refine kk_inc hG (L' := [(5, .int (a5 + (1 : Int32))), (0, va_rf (some p0)), (1, va_rf (some b1)), (2, .int a2), (3, .int a3), (4, .int a4)]) rfl (Nat.le_of_ble_eq_true rfl) rfl cc_i1 rfl ?_
          refine kk_go hG (t := 18) rfl rfl ?_
          exact kk_wl hG [1, 2, 3, 4, 5, 0] rfl (fun hw h => hP18 _ _ _ _ h hw)
        exact fun a5 s kc ks hw h => h (fun a5 s kc ks => cW sa R base s → G 18 [(0, va_rf (some p0)), (1, va_rf p1), (2, .int a2), (3, .int a3), (4, .int a4), (5, .int a5)] [] (cM R s) kc ks) (fun a5 s kc ks hs hw => H _ (fun _ _ _ _ hp hw => hp hw) a5 s kc ks hw hs) hw
      intro a2 a3 a4 s kc ks
      refine kks hG rfl rfl ?_
      refine kk_bi hG rfl cc_b8 ?_
      refine kk_ige hG (t := 64) rfl rfl ?_ ?_
      · refine kk_ic hG rfl cc_i0 ?_
        refine kk_st hG (L' := [(4, .int (0 : Int32)), (0, va_rf (some p0)), (1, va_rf p1), (2, .int a2), (3, .int a3)]) rfl rfl (Nat.le_of_ble_eq_true rfl) rfl ?_
        exact kk_wl hG [1, 2, 3, 4, 0] rfl (b67 _ _ _ _ _ _)
      refine kk_ic hG rfl cc_i0 ?_
      refine kk_st hG (L' := [(5, .int (0 : Int32)), (0, va_rf (some p0)), (1, va_rf p1), (2, .int a2), (3, .int a3), (4, .int a4)]) rfl rfl (Nat.le_of_ble_eq_true rfl) rfl ?_
      exact kk_wl hG [1, 2, 3, 4, 5, 0] rfl (b18 _ _ _ _ _ _ _)
    exact fun a2 a3 a4 s kc ks hw h => h (fun a2 a3 a4 s kc ks => cW sa R base s → G 8 [(0, va_rf (some p0)), (1, va_rf p1), (2, .int a2), (3, .int a3), (4, .int a4)] [] (cM R s) kc ks) (fun a2 a3 a4 s kc ks hs hw => H _ (fun _ _ _ _ _ _ hp hw => hp hw) a2 a3 a4 s kc ks hw hs) hw
  refine (show KK sa R base G 0 [(0, va_rf (some p0)), (1, va_rf p1)] [] s kc ks (C_By_addSix sa p0 p1 s kc ks Q) from ?_) hw h
  refine kk_bi hG rfl cc_b8 ?_
  refine kk_st hG (L' := [(2, .int (8 : Int32)), (0, va_rf (some p0)), (1, va_rf p1)]) rfl rfl (Nat.le_of_ble_eq_true rfl) (by cases p1 <;> rfl) ?_
  refine kk_ic hG rfl cc_i1 ?_
  refine kk_st hG (L' := [(3, .int (1 : Int32)), (2, .int (8 : Int32)), (0, va_rf (some p0)), (1, va_rf p1)]) rfl rfl (Nat.le_of_ble_eq_true rfl) rfl ?_
  refine kk_ic hG rfl cc_i0 ?_
  refine kk_st hG (L' := [(4, .int (0 : Int32)), (3, .int (1 : Int32)), (2, .int (8 : Int32)), (0, va_rf (some p0)), (1, va_rf p1)]) rfl rfl (Nat.le_of_ble_eq_true rfl) rfl ?_
  exact kk_wl hG [3, 4, 2, 1, 0] rfl (b8 _ _ _ _ _ _)
