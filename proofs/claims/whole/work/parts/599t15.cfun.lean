/-! Methods as weakest preconditions, by program: Rf_takeOut .. Po_widened -/
def C_Rf_takeOut_s12 (sa : Nat → Nat) (p0 : Nat) (a2 : Int32) (s : cS) (kc ks : Nat) (Q : (cS → Nat → Nat → Prop)) (P12 : (Int32 → cS → Nat → Nat → Prop)) : Prop := ob (gI s 11 13 p0) (fun v1 => (if a2 < v1 then (ob (gP s 11 12 p0) (fun v2 => (ob (gP s 11 12 p0) (fun v3 => (ob v3 (fun b4 => (ob (rQ s b4 (a2 + (1 : Int32))) (fun v5 => (ob v2 (fun b6 => (ob (wQ s b6 a2 v5) (fun s7 => ((P12 (a2 + (1 : Int32)) s7 kc ks)))))))))))))) else ((Q s kc ks))))
def C_Rf_takeOut_b12 (sa : Nat → Nat) (p0 : Nat) (a2 : Int32) (s : cS) (kc ks : Nat) (Q : (cS → Nat → Nat → Prop)) : Prop := ∀ P12 : (Int32 → cS → Nat → Nat → Prop), (∀ (a2 : Int32) (s : cS) (kc ks : Nat), C_Rf_takeOut_s12 sa p0 a2 s kc ks Q P12 → P12 a2 s kc ks) → P12 a2 s kc ks
def C_Rf_takeOut (sa : Nat → Nat) (p0 : Nat) (p1 : Int32) (s : cS) (kc ks : Nat) (Q : (cS → Nat → Nat → Prop)) : Prop := ob (gI s 11 13 p0) (fun v1 => (ob (pI s 11 13 p0 (v1 - (1 : Int32))) (fun s2 => ((C_Rf_takeOut_b12 sa p0 p1 s2 kc ks Q)))))
set_option maxRecDepth 100000 in
set_option maxHeartbeats 4000000 in
theorem kc_Rf_takeOut (base : Nat) (sa : Nat → Nat) {R : pmM} {s : cS} {kc ks : Nat} {Rt : pmR} {p0 : Nat} {p1 : Int32} {Q : (cS → Nat → Nat → Prop)} (hw : cW sa R base s) (h : C_Rf_takeOut sa p0 p1 s kc ks Q) (k : ∀ s' kc' ks', cW sa R base s' → Q s' kc' ks' → Rt none (cM R s') kc' ks') : kP_Rf_takeOut base sa [.ref p0, .int p1] (cM R s) kc ks Rt := by
  refine ⟨Nat.le_of_ble_eq_true rfl, fun G hG => ?_⟩
  have b12 : ∀ (a2 : Int32) (s : cS) (kc ks : Nat), KK sa R base G 12 [(0, va_rf (some p0)), (2, .int a2)] [] s kc ks (C_Rf_takeOut_b12 sa p0 a2 s kc ks Q) := by
    have H : ∀ (P12 : (Int32 → cS → Nat → Nat → Prop)) (hP12 : ∀ (a2 : Int32) (s : cS) (kc ks : Nat), P12 a2 s kc ks → cW sa R base s → G 12 [(0, va_rf (some p0)), (2, .int a2)] [] (cM R s) kc ks) (a2 : Int32) (s : cS) (kc ks : Nat), KK sa R base G 12 [(0, va_rf (some p0)), (2, .int a2)] [] s kc ks (C_Rf_takeOut_s12 sa p0 a2 s kc ks Q P12) := by
      intro P12 hP12
      intro a2 s kc ks
      refine kks hG rfl rfl ?_
      refine kk_aln hG (x := (some p0)) rfl rfl ?_
      refine kk_gi hG (c := 11) (k := 13) (a := p0) rfl rfl rfl rfl (fun v1 => ?_)
      refine kk_ige hG (t := 40) rfl rfl ?_ ?_
      · exact kk_rv hG rfl rfl k
      refine kk_aln hG (x := (some p0)) rfl rfl ?_
      refine kk_gp hG (c := 11) (k := 12) (a := p0) rfl rfl rfl rfl (fun v2 => ?_)
      refine kks hG rfl rfl ?_
      refine kk_aln hG (x := (some p0)) rfl rfl ?_
      refine kk_gp hG (c := 11) (k := 12) (a := p0) rfl rfl rfl rfl (fun v3 => ?_)
      refine kks hG rfl rfl ?_
      refine kk_ic hG rfl cc_i1 ?_
      refine kks hG rfl rfl ?_
      refine kk_ob (fun b4 eb4 => ?_)
      subst eb4
      refine kk_aa hG (a := b4) rfl (fun v5 => ?_)
      refine kk_ob (fun b6 eb6 => ?_)
      subst eb6
      refine kk_aas hG (a := b6) (x := v5) rfl (fun s7 => ?_)
      refine kk_inc hG (L' := [(2, .int (a2 + (1 : Int32))), (0, va_rf (some p0))]) rfl (Nat.le_of_ble_eq_true rfl) rfl cc_i1 rfl ?_
      refine kk_go hG (t := 12) rfl rfl ?_
      exact kk_wl hG [1, 0] rfl (fun hw h => hP12 _ _ _ _ h hw)
    exact fun a2 s kc ks hw h => h (fun a2 s kc ks => cW sa R base s → G 12 [(0, va_rf (some p0)), (2, .int a2)] [] (cM R s) kc ks) (fun a2 s kc ks hs hw => H _ (fun _ _ _ _ hp hw => hp hw) a2 s kc ks hw hs) hw
  refine (show KK sa R base G 0 [(0, va_rf (some p0)), (1, .int p1)] [] s kc ks (C_Rf_takeOut sa p0 p1 s kc ks Q) from ?_) hw h
  refine kk_aln hG (x := (some p0)) rfl rfl ?_
  refine kk_dup hG (x := (some p0)) rfl ?_
  refine kk_gi hG (c := 11) (k := 13) (a := p0) rfl rfl rfl rfl (fun v1 => ?_)
  refine kk_ic hG rfl cc_i1 ?_
  refine kks hG rfl rfl ?_
  refine kk_pi hG (c := 11) (k := 13) (a := p0) rfl rfl rfl rfl (fun s2 => ?_)
  refine kks hG rfl rfl ?_
  refine kk_st hG (L' := [(2, .int p1), (0, va_rf (some p0)), (1, .int p1)]) rfl rfl (Nat.le_of_ble_eq_true rfl) rfl ?_
  exact kk_wl hG [1, 0] rfl (b12 _ _ _ _)
def C_Pr_sameAddress (sa : Nat → Nat) (p0 : Nat) (p1 : Option Nat) (s : cS) (kc ks : Nat) (Q : (Int32 → cS → Nat → Nat → Prop)) : Prop := ob (gI s 5 0 p0) (fun v1 => (ob p1 (fun b2 => (ob (gI s 5 0 b2) (fun v3 => (if v1 = v3 then (ob (gJ s 5 1 p0) (fun v4 => (ob (gJ s 5 1 b2) (fun v5 => (if v4 = v5 then (ob (gJ s 5 2 p0) (fun v6 => (ob (gJ s 5 2 b2) (fun v7 => (if v6 = v7 then (Q (1 : Int32) s kc ks) else (Q (0 : Int32) s kc ks)))))) else (Q (0 : Int32) s kc ks)))))) else (Q (0 : Int32) s kc ks)))))))
set_option maxRecDepth 100000 in
set_option maxHeartbeats 4000000 in
theorem kc_Pr_sameAddress (base : Nat) (sa : Nat → Nat) {R : pmM} {s : cS} {kc ks : Nat} {Rt : pmR} {p0 : Nat} {p1 : Option Nat} {Q : (Int32 → cS → Nat → Nat → Prop)} (hw : cW sa R base s) (h : C_Pr_sameAddress sa p0 p1 s kc ks Q) (k : ∀ r s' kc' ks', cW sa R base s' → Q r s' kc' ks' → Rt (some (.int r)) (cM R s') kc' ks') : kP_Pr_sameAddress base sa [.ref p0, va_rf p1] (cM R s) kc ks Rt := by
  refine ⟨by cases p1 <;> exact Nat.le_of_ble_eq_true rfl, fun G hG => ?_⟩
  have eL : lv_args 0 [.ref p0, va_rf p1] = [(0, va_rf (some p0)), (1, va_rf p1)] := by cases p1 <;> rfl
  rw [eL]
  refine (show KK sa R base G 0 [(0, va_rf (some p0)), (1, va_rf p1)] [] s kc ks (C_Pr_sameAddress sa p0 p1 s kc ks Q) from ?_) hw h
  refine kk_aln hG (x := (some p0)) rfl rfl ?_
  refine kk_gi hG (c := 5) (k := 0) (a := p0) rfl rfl rfl rfl (fun v1 => ?_)
  refine kk_aln hG (x := p1) rfl rfl ?_
  refine kk_ob (fun b2 eb2 => ?_)
  subst eb2
  refine kk_gi hG (c := 5) (k := 0) (a := b2) rfl rfl rfl rfl (fun v3 => ?_)
  refine kk_ine hG (t := 39) rfl rfl ?_ ?_
  · refine kk_ic hG rfl cc_i0 ?_
    exact kk_ri hG rfl rfl rfl k
  refine kk_aln hG (x := (some p0)) rfl rfl ?_
  refine kk_gj hG (c := 5) (k := 1) (a := p0) rfl rfl rfl rfl (fun v4 => ?_)
  refine kk_aln hG (x := (some b2)) rfl rfl ?_
  refine kk_gj hG (c := 5) (k := 1) (a := b2) rfl rfl rfl rfl (fun v5 => ?_)
  refine kks hG rfl rfl ?_
  refine kk_lne hG (t := 39) rfl rfl ?_ ?_
  · refine kk_ic hG rfl cc_i0 ?_
    exact kk_ri hG rfl rfl rfl k
  refine kk_aln hG (x := (some p0)) rfl rfl ?_
  refine kk_gj hG (c := 5) (k := 2) (a := p0) rfl rfl rfl rfl (fun v6 => ?_)
  refine kk_aln hG (x := (some b2)) rfl rfl ?_
  refine kk_gj hG (c := 5) (k := 2) (a := b2) rfl rfl rfl rfl (fun v7 => ?_)
  refine kks hG rfl rfl ?_
  refine kk_lne hG (t := 39) rfl rfl ?_ ?_
  · refine kk_ic hG rfl cc_i0 ?_
    exact kk_ri hG rfl rfl rfl k
  refine kk_ic hG rfl cc_i1 ?_
  refine kk_go hG (t := 40) rfl rfl ?_
  exact kk_ri hG rfl rfl rfl k
def C_Rr_hearer_b42 (sa : Nat → Nat) (p1 : Option Nat) (a2 : Option Nat) (u0 : Option Nat) (s : cS) (kc ks : Nat) (Q : (Option Nat → cS → Nat → Nat → Prop)) : Prop := if u0 = none then (Q none s kc ks) else (ob p1 (fun b1 => (ob (gI s 2 3 b1) (fun v2 => (if v2 = 0 then (ob (gP s 2 2 b1) (fun v3 => (ob u0 (fun b4 => (okO s 5 b4 ∧ C_Pr_sameAddress sa b4 v3 s kc ks (fun r5 sr5 cr5 dr5 => (if r5 = 0 then (Q none sr5 cr5 dr5) else (Q a2 sr5 cr5 dr5)))))))) else (Q a2 s kc ks))))))
def C_Rr_hearer (sa : Nat → Nat) (p0 : Nat) (p1 : Option Nat) (s : cS) (kc ks : Nat) (Q : (Option Nat → cS → Nat → Nat → Prop)) : Prop := ob (gI s 9 3 p0) (fun v1 => (if v1 = 0 then (Q none s kc ks) else (ob p1 (fun b2 => (ob (gP s 2 7 b2) (fun v3 => (if v3 = (some p0) then (Q none s kc ks) else (ob (gP s 2 8 b2) (fun v4 => (okO s 9 p0 ∧ C_Rr_portOn sa p0 v4 s kc ks (fun r5 sr5 cr5 dr5 => (if r5 = none then ((C_Rr_hearer_b42 sa (some b2) r5 none sr5 cr5 dr5 Q)) else (ob (gI sr5 2 4 b2) (fun v6 => (ob r5 (fun b7 => (okO sr5 4 b7 ∧ C_Po_addressOf sa b7 v6 sr5 cr5 dr5 (fun r8 sr8 cr8 dr8 => ((C_Rr_hearer_b42 sa (some b2) (some b7) r8 sr8 cr8 dr8 Q))))))))))))))))))))
set_option maxRecDepth 100000 in
set_option maxHeartbeats 4000000 in
theorem kc_Rr_hearer (base : Nat) (sa : Nat → Nat) {R : pmM} {s : cS} {kc ks : Nat} {Rt : pmR} {p0 : Nat} {p1 : Option Nat} {Q : (Option Nat → cS → Nat → Nat → Prop)} (hw : cW sa R base s) (h : C_Rr_hearer sa p0 p1 s kc ks Q) (k : ∀ r s' kc' ks', cW sa R base s' → Q r s' kc' ks' → Rt (some (va_rf r)) (cM R s') kc' ks') : kP_Rr_hearer base sa [.ref p0, va_rf p1] (cM R s) kc ks Rt := by
  refine ⟨by cases p1 <;> exact Nat.le_of_ble_eq_true rfl, fun G hG => ?_⟩
  have eL : lv_args 0 [.ref p0, va_rf p1] = [(0, va_rf (some p0)), (1, va_rf p1)] := by cases p1 <;> rfl
  rw [eL]
  have b42 : ∀ (a2 : Option Nat) (u0 : Option Nat) (s : cS) (kc ks : Nat), KK sa R base G 42 [(1, va_rf p1), (2, va_rf a2)] [va_rf u0] s kc ks (C_Rr_hearer_b42 sa p1 a2 u0 s kc ks Q) := by
    intro a2 u0 s kc ks
    refine kk_asn hG (x := u0) (L' := [(3, va_rf u0), (1, va_rf p1), (2, va_rf a2)]) rfl (Nat.le_of_ble_eq_true rfl) (by cases a2 <;> rfl) ?_
    refine kk_aln hG (x := u0) rfl rfl ?_
    refine kk_nul hG (x := u0) (t := 65) rfl rfl ?_ ?_
    · refine kks hG rfl rfl ?_
      exact kk_ra hG (x := none) rfl rfl rfl k
    refine kk_aln hG (x := p1) rfl rfl ?_
    refine kk_ob (fun b1 eb1 => ?_)
    subst eb1
    refine kk_gi hG (c := 2) (k := 3) (a := b1) rfl rfl rfl rfl (fun v2 => ?_)
    refine kk_zne hG (t := 67) rfl rfl ?_ ?_
    · refine kk_aln hG (x := a2) rfl rfl ?_
      exact kk_ra hG (x := a2) rfl rfl rfl k
    refine kk_aln hG (x := u0) rfl rfl ?_
    refine kk_aln hG (x := (some b1)) rfl rfl ?_
    refine kk_gp hG (c := 2) (k := 2) (a := b1) rfl rfl rfl rfl (fun v3 => ?_)
    refine kk_ob (fun b4 eb4 => ?_)
    subst eb4
    refine kk_cx (w := .int) hG 0 rfl rfl (Nat.le_of_ble_eq_true rfl) (by decide) rfl (st' := []) rfl (cats_le (Nat.le_of_ble_eq_true rfl)) (fun _ hw h k => kk_rcv h.1 (kc_Pr_sameAddress base sa hw h.2 k)) (fun r5 sr5 cr5 dr5 => ?_)
    refine kk_zne hG (t := 67) rfl rfl ?_ ?_
    · refine kk_aln hG (x := a2) rfl rfl ?_
      exact kk_ra hG (x := a2) rfl rfl rfl k
    refine kks hG rfl rfl ?_
    exact kk_ra hG (x := none) rfl rfl rfl k
  refine (show KK sa R base G 0 [(0, va_rf (some p0)), (1, va_rf p1)] [] s kc ks (C_Rr_hearer sa p0 p1 s kc ks Q) from ?_) hw h
  refine kk_aln hG (x := (some p0)) rfl rfl ?_
  refine kk_gi hG (c := 9) (k := 3) (a := p0) rfl rfl rfl rfl (fun v1 => ?_)
  refine kk_zeq hG (t := 15) rfl rfl ?_ ?_
  · refine kks hG rfl rfl ?_
    exact kk_ra hG (x := none) rfl rfl rfl k
  refine kk_aln hG (x := p1) rfl rfl ?_
  refine kk_ob (fun b2 eb2 => ?_)
  subst eb2
  refine kk_gp hG (c := 2) (k := 7) (a := b2) rfl rfl rfl rfl (fun v3 => ?_)
  refine kk_aln hG (x := (some p0)) rfl rfl ?_
  refine kk_ane hG (x := v3) (y := (some p0)) (t := 17) rfl rfl ?_ ?_
  · refine kk_aln hG (x := (some p0)) rfl rfl ?_
    refine kk_aln hG (x := (some b2)) rfl rfl ?_
    refine kk_gp hG (c := 2) (k := 8) (a := b2) rfl rfl rfl rfl (fun v4 => ?_)
    refine kk_cx (w := va_rf) hG 0 rfl rfl (Nat.le_of_ble_eq_true rfl) (by decide) rfl (st' := []) rfl (cats_le (Nat.le_of_ble_eq_true rfl)) (fun _ hw h k => kk_rcv h.1 (kc_Rr_portOn base sa hw h.2 k)) (fun r5 sr5 cr5 dr5 => ?_)
    refine kk_asn hG (x := r5) (L' := [(2, va_rf r5), (0, va_rf (some p0)), (1, va_rf (some b2))]) rfl (Nat.le_of_ble_eq_true rfl) rfl ?_
    refine kk_aln hG (x := r5) rfl rfl ?_
    refine kk_nnl hG (x := r5) (t := 34) rfl rfl ?_ ?_
    · refine kk_aln hG (x := r5) rfl rfl ?_
      refine kk_aln hG (x := (some b2)) rfl rfl ?_
      refine kk_gi hG (c := 2) (k := 4) (a := b2) rfl rfl rfl rfl (fun v6 => ?_)
      refine kk_ob (fun b7 eb7 => ?_)
      subst eb7
      refine kk_cx (w := va_rf) hG 0 rfl rfl (Nat.le_of_ble_eq_true rfl) (by decide) rfl (st' := []) rfl (cats_le (Nat.le_of_ble_eq_true rfl)) (fun _ hw h k => kk_rcv h.1 (kc_Po_addressOf base sa hw h.2 k)) (fun r8 sr8 cr8 dr8 => ?_)
      exact kk_wl hG [2, 0] rfl (b42 _ _ _ _ _)
    refine kks hG rfl rfl ?_
    refine kk_go hG (t := 42) rfl rfl ?_
    exact kk_wl hG [2, 0] rfl (b42 _ _ _ _ _)
  refine kks hG rfl rfl ?_
  exact kk_ra hG (x := none) rfl rfl rfl k
def C_By_zerosAt_s2 (sa : Nat → Nat) (p0 : Nat) (p2 : Int32) (a3 : Int32) (s : cS) (kc ks : Nat) (Q : (Int32 → cS → Nat → Nat → Prop)) (P2 : (Int32 → cS → Nat → Nat → Prop)) : Prop := if a3 < p2 then (okO s 0 p0 ∧ C_By_at sa p0 a3 s kc ks (fun r1 sr1 cr1 dr1 => (if r1 = 0 then ((P2 (a3 + (1 : Int32)) sr1 cr1 dr1)) else ((Q (0 : Int32) sr1 cr1 dr1))))) else ((Q (1 : Int32) s kc ks))
def C_By_zerosAt_b2 (sa : Nat → Nat) (p0 : Nat) (p2 : Int32) (a3 : Int32) (s : cS) (kc ks : Nat) (Q : (Int32 → cS → Nat → Nat → Prop)) : Prop := ∀ P2 : (Int32 → cS → Nat → Nat → Prop), (∀ (a3 : Int32) (s : cS) (kc ks : Nat), C_By_zerosAt_s2 sa p0 p2 a3 s kc ks Q P2 → P2 a3 s kc ks) → P2 a3 s kc ks
def C_By_zerosAt (sa : Nat → Nat) (p0 : Nat) (p1 : Int32) (p2 : Int32) (s : cS) (kc ks : Nat) (Q : (Int32 → cS → Nat → Nat → Prop)) : Prop := (C_By_zerosAt_b2 sa p0 p2 p1 s kc ks Q)
set_option maxRecDepth 100000 in
set_option maxHeartbeats 4000000 in
theorem kc_By_zerosAt (base : Nat) (sa : Nat → Nat) {R : pmM} {s : cS} {kc ks : Nat} {Rt : pmR} {p0 : Nat} {p1 : Int32} {p2 : Int32} {Q : (Int32 → cS → Nat → Nat → Prop)} (hw : cW sa R base s) (h : C_By_zerosAt sa p0 p1 p2 s kc ks Q) (k : ∀ r s' kc' ks', cW sa R base s' → Q r s' kc' ks' → Rt (some (.int r)) (cM R s') kc' ks') : kP_By_zerosAt base sa [.ref p0, .int p1, .int p2] (cM R s) kc ks Rt := by
  refine ⟨Nat.le_of_ble_eq_true rfl, fun G hG => ?_⟩
  have b2 : ∀ (a3 : Int32) (s : cS) (kc ks : Nat), KK sa R base G 2 [(0, va_rf (some p0)), (2, .int p2), (3, .int a3)] [] s kc ks (C_By_zerosAt_b2 sa p0 p2 a3 s kc ks Q) := by
    have H : ∀ (P2 : (Int32 → cS → Nat → Nat → Prop)) (hP2 : ∀ (a3 : Int32) (s : cS) (kc ks : Nat), P2 a3 s kc ks → cW sa R base s → G 2 [(0, va_rf (some p0)), (2, .int p2), (3, .int a3)] [] (cM R s) kc ks) (a3 : Int32) (s : cS) (kc ks : Nat), KK sa R base G 2 [(0, va_rf (some p0)), (2, .int p2), (3, .int a3)] [] s kc ks (C_By_zerosAt_s2 sa p0 p2 a3 s kc ks Q P2) := by
      intro P2 hP2
      intro a3 s kc ks
      refine kks hG rfl rfl ?_
      refine kks hG rfl rfl ?_
      refine kk_ige hG (t := 23) rfl rfl ?_ ?_
      · refine kk_ic hG rfl cc_i1 ?_
        exact kk_ri hG rfl rfl rfl k
      refine kk_aln hG (x := (some p0)) rfl rfl ?_
      refine kks hG rfl rfl ?_
      refine kk_cx (w := .int) hG 0 rfl rfl (Nat.le_of_ble_eq_true rfl) (by decide) rfl (st' := []) rfl (cats_le (Nat.le_of_ble_eq_true rfl)) (fun _ hw h k => kk_rcv h.1 (kc_By_at base sa hw h.2 k)) (fun r1 sr1 cr1 dr1 => ?_)
      refine kk_zeq hG (t := 17) rfl rfl ?_ ?_
      · refine kk_inc hG (L' := [(3, .int (a3 + (1 : Int32))), (0, va_rf (some p0)), (2, .int p2)]) rfl (Nat.le_of_ble_eq_true rfl) rfl cc_i1 rfl ?_
        refine kk_go hG (t := 2) rfl rfl ?_
        exact kk_wl hG [1, 2, 0] rfl (fun hw h => hP2 _ _ _ _ h hw)
      refine kk_ic hG rfl cc_i0 ?_
      exact kk_ri hG rfl rfl rfl k
    exact fun a3 s kc ks hw h => h (fun a3 s kc ks => cW sa R base s → G 2 [(0, va_rf (some p0)), (2, .int p2), (3, .int a3)] [] (cM R s) kc ks) (fun a3 s kc ks hs hw => H _ (fun _ _ _ _ hp hw => hp hw) a3 s kc ks hw hs) hw
  refine (show KK sa R base G 0 [(0, va_rf (some p0)), (1, .int p1), (2, .int p2)] [] s kc ks (C_By_zerosAt sa p0 p1 p2 s kc ks Q) from ?_) hw h
  refine kks hG rfl rfl ?_
  refine kk_st hG (L' := [(3, .int p1), (0, va_rf (some p0)), (1, .int p1), (2, .int p2)]) rfl rfl (Nat.le_of_ble_eq_true rfl) rfl ?_
  exact kk_wl hG [1, 3, 0] rfl (b2 _ _ _ _)
def C_Da_isWellFormed_b93 (sa : Nat → Nat) (p0 : Nat) (u0 : Int32) (u1 : Int32) (s : cS) (kc ks : Nat) (Q : (Int32 → cS → Nat → Nat → Prop)) : Prop := if u0 = u1 then (ob (gP s 2 0 p0) (fun v1 => (ob v1 (fun b2 => (okO s 0 b2 ∧ C_By_zerosAt sa b2 (2 : Int32) (4 : Int32) s kc ks (fun r3 sr3 cr3 dr3 => (if r3 = 0 then (Q (0 : Int32) sr3 cr3 dr3) else (Q (1 : Int32) sr3 cr3 dr3)))))))) else (Q (0 : Int32) s kc ks)
def C_Da_isWellFormed_b72 (sa : Nat → Nat) (p0 : Nat) (s : cS) (kc ks : Nat) (Q : (Int32 → cS → Nat → Nat → Prop)) : Prop := ob (gP s 2 0 p0) (fun v1 => (ob v1 (fun b2 => (okO s 0 b2 ∧ C_By_at sa b2 (1 : Int32) s kc ks (fun r3 sr3 cr3 dr3 => (ob (gI sr3 2 4 p0) (fun v4 => (if v4 = (4 : Int32) then ((C_Da_isWellFormed_b93 sa p0 r3 (2 : Int32) sr3 cr3 dr3 Q)) else ((C_Da_isWellFormed_b93 sa p0 r3 (1 : Int32) sr3 cr3 dr3 Q))))))))))
def C_Da_isWellFormed_b59 (sa : Nat → Nat) (p0 : Nat) (a2 : Int32) (u0 : Int32) (u1 : Int32) (s : cS) (kc ks : Nat) (Q : (Int32 → cS → Nat → Nat → Prop)) : Prop := if u1 < u0 then (Q (0 : Int32) s kc ks) else (if a2 = (1 : Int32) then ((C_Da_isWellFormed_b72 sa p0 s kc ks Q)) else (if a2 = (2 : Int32) then ((C_Da_isWellFormed_b72 sa p0 s kc ks Q)) else (Q (0 : Int32) s kc ks)))
def C_Da_isWellFormed (sa : Nat → Nat) (p0 : Nat) (s : cS) (kc ks : Nat) (Q : (Int32 → cS → Nat → Nat → Prop)) : Prop := ob (gP s 2 0 p0) (fun v1 => (ob v1 (fun b2 => (ob (gI s 0 1 b2) (fun v3 => (ob (gP s 2 0 p0) (fun v4 => (ob v4 (fun b5 => (okO s 0 b5 ∧ C_By_at sa b5 (0 : Int32) s kc ks (fun r6 sr6 cr6 dr6 => (ob (gP sr6 2 0 p0) (fun v7 => (ob v7 (fun b8 => (ob (gI sr6 0 1 b8) (fun v9 => (if v9 = ((4 : Int32) + (((v3 - (4 : Int32)) / (20 : Int32)) * (20 : Int32))) then (if ((v3 - (4 : Int32)) / (20 : Int32)) < (1 : Int32) then (Q (0 : Int32) sr6 cr6 dr6) else (ob (gI sr6 2 4 p0) (fun v10 => (if v10 = (4 : Int32) then ((C_Da_isWellFormed_b59 sa p0 r6 ((v3 - (4 : Int32)) / (20 : Int32)) (28 : Int32) sr6 cr6 dr6 Q)) else ((C_Da_isWellFormed_b59 sa p0 r6 ((v3 - (4 : Int32)) / (20 : Int32)) (25 : Int32) sr6 cr6 dr6 Q)))))) else (Q (0 : Int32) sr6 cr6 dr6)))))))))))))))))))
set_option maxRecDepth 100000 in
set_option maxHeartbeats 4000000 in
theorem kc_Da_isWellFormed (base : Nat) (sa : Nat → Nat) {R : pmM} {s : cS} {kc ks : Nat} {Rt : pmR} {p0 : Nat} {Q : (Int32 → cS → Nat → Nat → Prop)} (hw : cW sa R base s) (h : C_Da_isWellFormed sa p0 s kc ks Q) (k : ∀ r s' kc' ks', cW sa R base s' → Q r s' kc' ks' → Rt (some (.int r)) (cM R s') kc' ks') : kP_Da_isWellFormed base sa [.ref p0] (cM R s) kc ks Rt := by
  refine ⟨Nat.le_of_ble_eq_true rfl, fun G hG => ?_⟩
  have b93 : ∀ (u0 : Int32) (u1 : Int32) (s : cS) (kc ks : Nat), KK sa R base G 93 [(0, va_rf (some p0))] [.int u1, .int u0] s kc ks (C_Da_isWellFormed_b93 sa p0 u0 u1 s kc ks Q) := by
    intro u0 u1 s kc ks
    refine kk_ine hG (t := 112) rfl rfl ?_ ?_
    · refine kk_ic hG rfl cc_i0 ?_
      exact kk_ri hG rfl rfl rfl k
    refine kk_aln hG (x := (some p0)) rfl rfl ?_
    refine kk_gp hG (c := 2) (k := 0) (a := p0) rfl rfl rfl rfl (fun v1 => ?_)
    refine kk_ic hG rfl cc_i2 ?_
    refine kk_ic hG rfl cc_i4 ?_
    refine kk_ob (fun b2 eb2 => ?_)
    subst eb2
    refine kk_cx (w := .int) hG 0 rfl rfl (Nat.le_of_ble_eq_true rfl) (by decide) rfl (st' := []) rfl (cats_le (Nat.le_of_ble_eq_true rfl)) (fun _ hw h k => kk_rcv h.1 (kc_By_zerosAt base sa hw h.2 k)) (fun r3 sr3 cr3 dr3 => ?_)
    refine kk_zeq hG (t := 112) rfl rfl ?_ ?_
    · refine kk_ic hG rfl cc_i0 ?_
      exact kk_ri hG rfl rfl rfl k
    refine kk_ic hG rfl cc_i1 ?_
    refine kk_go hG (t := 113) rfl rfl ?_
    exact kk_ri hG rfl rfl rfl k
  have b72 : ∀ (s : cS) (kc ks : Nat), KK sa R base G 72 [(0, va_rf (some p0))] [] s kc ks (C_Da_isWellFormed_b72 sa p0 s kc ks Q) := by
    intro s kc ks
    refine kk_aln hG (x := (some p0)) rfl rfl ?_
    refine kk_gp hG (c := 2) (k := 0) (a := p0) rfl rfl rfl rfl (fun v1 => ?_)
    refine kk_ic hG rfl cc_i1 ?_
    refine kk_ob (fun b2 eb2 => ?_)
    subst eb2
    refine kk_cx (w := .int) hG 0 rfl rfl (Nat.le_of_ble_eq_true rfl) (by decide) rfl (st' := []) rfl (cats_le (Nat.le_of_ble_eq_true rfl)) (fun _ hw h k => kk_rcv h.1 (kc_By_at base sa hw h.2 k)) (fun r3 sr3 cr3 dr3 => ?_)
    refine kk_aln hG (x := (some p0)) rfl rfl ?_
    refine kk_gi hG (c := 2) (k := 4) (a := p0) rfl rfl rfl rfl (fun v4 => ?_)
    refine kk_ic hG rfl cc_i4 ?_
    refine kk_ine hG (t := 92) rfl rfl ?_ ?_
    · refine kk_ic hG rfl cc_i1 ?_
      exact kk_wl hG [0] rfl (b93 _ _ _ _ _)
    refine kk_ic hG rfl cc_i2 ?_
    refine kk_go hG (t := 93) rfl rfl ?_
    exact kk_wl hG [0] rfl (b93 _ _ _ _ _)
  have b59 : ∀ (a2 : Int32) (u0 : Int32) (u1 : Int32) (s : cS) (kc ks : Nat), KK sa R base G 59 [(0, va_rf (some p0)), (2, .int a2)] [.int u1, .int u0] s kc ks (C_Da_isWellFormed_b59 sa p0 a2 u0 u1 s kc ks Q) := by
    intro a2 u0 u1 s kc ks
    refine kk_igt hG (t := 112) rfl rfl ?_ ?_
    · refine kk_ic hG rfl cc_i0 ?_
      exact kk_ri hG rfl rfl rfl k
    refine kks hG rfl rfl ?_
    refine kk_ic hG rfl cc_i1 ?_
    refine kk_ieq hG (t := 72) rfl rfl ?_ ?_
    · exact kk_wl hG [0] rfl (b72 _ _ _)
    refine kks hG rfl rfl ?_
    refine kk_ic hG rfl cc_i2 ?_
    refine kk_ine hG (t := 112) rfl rfl ?_ ?_
    · refine kk_ic hG rfl cc_i0 ?_
      exact kk_ri hG rfl rfl rfl k
    exact kk_wl hG [0] rfl (b72 _ _ _)
  refine (show KK sa R base G 0 [(0, va_rf (some p0))] [] s kc ks (C_Da_isWellFormed sa p0 s kc ks Q) from ?_) hw h
  refine kk_aln hG (x := (some p0)) rfl rfl ?_
  refine kk_gp hG (c := 2) (k := 0) (a := p0) rfl rfl rfl rfl (fun v1 => ?_)
  refine kk_ob (fun b2 eb2 => ?_)
  subst eb2
  refine kk_gi hG (c := 0) (k := 1) (a := b2) rfl rfl rfl rfl (fun v3 => ?_)
  refine kk_ic hG rfl cc_i4 ?_
  refine kks hG rfl rfl ?_
  refine kk_bi hG rfl cc_b20 ?_
  refine kkc hG rfl rfl (by decide) ?_
  refine kk_st hG (L' := [(1, .int ((v3 - (4 : Int32)) / (20 : Int32))), (0, va_rf (some p0))]) rfl rfl (Nat.le_of_ble_eq_true rfl) rfl ?_
  refine kk_aln hG (x := (some p0)) rfl rfl ?_
  refine kk_gp hG (c := 2) (k := 0) (a := p0) rfl rfl rfl rfl (fun v4 => ?_)
  refine kk_ic hG rfl cc_i0 ?_
  refine kk_ob (fun b5 eb5 => ?_)
  subst eb5
  refine kk_cx (w := .int) hG 0 rfl rfl (Nat.le_of_ble_eq_true rfl) (by decide) rfl (st' := []) rfl (cats_le (Nat.le_of_ble_eq_true rfl)) (fun _ hw h k => kk_rcv h.1 (kc_By_at base sa hw h.2 k)) (fun r6 sr6 cr6 dr6 => ?_)
  refine kk_st hG (L' := [(2, .int r6), (1, .int ((v3 - (4 : Int32)) / (20 : Int32))), (0, va_rf (some p0))]) rfl rfl (Nat.le_of_ble_eq_true rfl) rfl ?_
  refine kk_aln hG (x := (some p0)) rfl rfl ?_
  refine kk_gp hG (c := 2) (k := 0) (a := p0) rfl rfl rfl rfl (fun v7 => ?_)
  refine kk_ob (fun b8 eb8 => ?_)
  subst eb8
  refine kk_gi hG (c := 0) (k := 1) (a := b8) rfl rfl rfl rfl (fun v9 => ?_)
  refine kk_ic hG rfl cc_i4 ?_
  refine kks hG rfl rfl ?_
  refine kk_bi hG rfl cc_b20 ?_
  refine kks hG rfl rfl ?_
  refine kks hG rfl rfl ?_
  refine kk_ine hG (t := 112) rfl rfl ?_ ?_
  · refine kk_ic hG rfl cc_i0 ?_
    exact kk_ri hG rfl rfl rfl k
  refine kks hG rfl rfl ?_
  refine kk_ic hG rfl cc_i1 ?_
  refine kk_ilt hG (t := 112) rfl rfl ?_ ?_
  · refine kk_ic hG rfl cc_i0 ?_
    exact kk_ri hG rfl rfl rfl k
  refine kks hG rfl rfl ?_
  refine kk_aln hG (x := (some p0)) rfl rfl ?_
  refine kk_gi hG (c := 2) (k := 4) (a := p0) rfl rfl rfl rfl (fun v10 => ?_)
  refine kk_ic hG rfl cc_i4 ?_
  refine kk_ine hG (t := 57) rfl rfl ?_ ?_
  · refine kk_bi hG rfl cc_b25 ?_
    exact kk_wl hG [2, 0] rfl (b59 _ _ _ _ _ _)
  refine kk_bi hG rfl cc_b28 ?_
  refine kk_go hG (t := 59) rfl rfl ?_
  exact kk_wl hG [2, 0] rfl (b59 _ _ _ _ _ _)
def C_Ch_goodKey_b42 (sa : Nat → Nat) (p0 : Nat) (p1 : Int32) (p2 : Int32) (a3 : Int32) (s : cS) (kc ks : Nat) (Q : (Int32 → cS → Nat → Nat → Prop)) (P2 : (Int32 → cS → Nat → Nat → Prop)) : Prop := (P2 (a3 + (1 : Int32)) s kc ks)
def C_Ch_goodKey_s2 (sa : Nat → Nat) (p0 : Nat) (p1 : Int32) (p2 : Int32) (a3 : Int32) (s : cS) (kc ks : Nat) (Q : (Int32 → cS → Nat → Nat → Prop)) (P2 : (Int32 → cS → Nat → Nat → Prop)) : Prop := ob (gI s 1 2 p0) (fun v1 => (if a3 < v1 then (ob (gP s 1 3 p0) (fun v2 => (ob v2 (fun b3 => (ob (rE s .int b3 a3) (fun v4 => (if v4 = p1 then (ob (gP s 1 5 p0) (fun v5 => (ob v5 (fun b6 => (ob (rE s .int b6 a3) (fun v7 => (if p2 < v7 then ((C_Ch_goodKey_b42 sa p0 p1 p2 a3 s kc ks Q P2)) else (ob (gP s 1 6 p0) (fun v8 => (ob v8 (fun b9 => (ob (rE s .int b9 a3) (fun v10 => (if v10 < p2 then ((C_Ch_goodKey_b42 sa p0 p1 p2 a3 s kc ks Q P2)) else ((Q a3 s kc ks)))))))))))))))) else ((C_Ch_goodKey_b42 sa p0 p1 p2 a3 s kc ks Q P2))))))))) else ((Q ((-1) : Int32) s kc ks))))
def C_Ch_goodKey_b2 (sa : Nat → Nat) (p0 : Nat) (p1 : Int32) (p2 : Int32) (a3 : Int32) (s : cS) (kc ks : Nat) (Q : (Int32 → cS → Nat → Nat → Prop)) : Prop := ∀ P2 : (Int32 → cS → Nat → Nat → Prop), (∀ (a3 : Int32) (s : cS) (kc ks : Nat), C_Ch_goodKey_s2 sa p0 p1 p2 a3 s kc ks Q P2 → P2 a3 s kc ks) → P2 a3 s kc ks
def C_Ch_goodKey (sa : Nat → Nat) (p0 : Nat) (p1 : Int32) (p2 : Int32) (s : cS) (kc ks : Nat) (Q : (Int32 → cS → Nat → Nat → Prop)) : Prop := (C_Ch_goodKey_b2 sa p0 p1 p2 (0 : Int32) s kc ks Q)
set_option maxRecDepth 100000 in
set_option maxHeartbeats 4000000 in
theorem kc_Ch_goodKey (base : Nat) (sa : Nat → Nat) {R : pmM} {s : cS} {kc ks : Nat} {Rt : pmR} {p0 : Nat} {p1 : Int32} {p2 : Int32} {Q : (Int32 → cS → Nat → Nat → Prop)} (hw : cW sa R base s) (h : C_Ch_goodKey sa p0 p1 p2 s kc ks Q) (k : ∀ r s' kc' ks', cW sa R base s' → Q r s' kc' ks' → Rt (some (.int r)) (cM R s') kc' ks') : kP_Ch_goodKey base sa [.ref p0, .int p1, .int p2] (cM R s) kc ks Rt := by
  refine ⟨Nat.le_of_ble_eq_true rfl, fun G hG => ?_⟩
  have b2 : ∀ (a3 : Int32) (s : cS) (kc ks : Nat), KK sa R base G 2 [(0, va_rf (some p0)), (1, .int p1), (2, .int p2), (3, .int a3)] [] s kc ks (C_Ch_goodKey_b2 sa p0 p1 p2 a3 s kc ks Q) := by
    have H : ∀ (P2 : (Int32 → cS → Nat → Nat → Prop)) (hP2 : ∀ (a3 : Int32) (s : cS) (kc ks : Nat), P2 a3 s kc ks → cW sa R base s → G 2 [(0, va_rf (some p0)), (1, .int p1), (2, .int p2), (3, .int a3)] [] (cM R s) kc ks) (a3 : Int32) (s : cS) (kc ks : Nat), KK sa R base G 2 [(0, va_rf (some p0)), (1, .int p1), (2, .int p2), (3, .int a3)] [] s kc ks (C_Ch_goodKey_s2 sa p0 p1 p2 a3 s kc ks Q P2) := by
      intro P2 hP2
      have b42 : ∀ (a3 : Int32) (s : cS) (kc ks : Nat), KK sa R base G 42 [(0, va_rf (some p0)), (1, .int p1), (2, .int p2), (3, .int a3)] [] s kc ks (C_Ch_goodKey_b42 sa p0 p1 p2 a3 s kc ks Q P2) := by
        intro a3 s kc ks
        refine kk_inc hG (L' := [(3, .int (a3 + (1 : Int32))), (0, va_rf (some p0)), (1, .int p1), (2, .int p2)]) rfl (Nat.le_of_ble_eq_true rfl) rfl cc_i1 rfl ?_
        refine kk_go hG (t := 2) rfl rfl ?_
        exact kk_wl hG [1, 2, 3, 0] rfl (fun hw h => hP2 _ _ _ _ h hw)
      intro a3 s kc ks
      refine kks hG rfl rfl ?_
      refine kk_aln hG (x := (some p0)) rfl rfl ?_
      refine kk_gi hG (c := 1) (k := 2) (a := p0) rfl rfl rfl rfl (fun v1 => ?_)
      refine kk_ige hG (t := 48) rfl rfl ?_ ?_
      · refine kk_ic hG rfl cc_im1 ?_
        exact kk_ri hG rfl rfl rfl k
      refine kk_aln hG (x := (some p0)) rfl rfl ?_
      refine kk_gp hG (c := 1) (k := 3) (a := p0) rfl rfl rfl rfl (fun v2 => ?_)
      refine kks hG rfl rfl ?_
      refine kk_ob (fun b3 eb3 => ?_)
      subst eb3
      refine kk_ia hG (a := b3) rfl (fun v4 => ?_)
      refine kks hG rfl rfl ?_
      refine kk_ine hG (t := 42) rfl rfl ?_ ?_
      · exact kk_wl hG [0, 1, 2, 3] rfl (b42 _ _ _ _)
      refine kk_aln hG (x := (some p0)) rfl rfl ?_
      refine kk_gp hG (c := 1) (k := 5) (a := p0) rfl rfl rfl rfl (fun v5 => ?_)
      refine kks hG rfl rfl ?_
      refine kk_ob (fun b6 eb6 => ?_)
      subst eb6
      refine kk_ia hG (a := b6) rfl (fun v7 => ?_)
      refine kks hG rfl rfl ?_
      refine kk_igt hG (t := 42) rfl rfl ?_ ?_
      · exact kk_wl hG [0, 1, 2, 3] rfl (b42 _ _ _ _)
      refine kks hG rfl rfl ?_
      refine kk_aln hG (x := (some p0)) rfl rfl ?_
      refine kk_gp hG (c := 1) (k := 6) (a := p0) rfl rfl rfl rfl (fun v8 => ?_)
      refine kks hG rfl rfl ?_
      refine kk_ob (fun b9 eb9 => ?_)
      subst eb9
      refine kk_ia hG (a := b9) rfl (fun v10 => ?_)
      refine kk_igt hG (t := 42) rfl rfl ?_ ?_
      · exact kk_wl hG [0, 1, 2, 3] rfl (b42 _ _ _ _)
      refine kks hG rfl rfl ?_
      exact kk_ri hG rfl rfl rfl k
    exact fun a3 s kc ks hw h => h (fun a3 s kc ks => cW sa R base s → G 2 [(0, va_rf (some p0)), (1, .int p1), (2, .int p2), (3, .int a3)] [] (cM R s) kc ks) (fun a3 s kc ks hs hw => H _ (fun _ _ _ _ hp hw => hp hw) a3 s kc ks hw hs) hw
  refine (show KK sa R base G 0 [(0, va_rf (some p0)), (1, .int p1), (2, .int p2)] [] s kc ks (C_Ch_goodKey sa p0 p1 p2 s kc ks Q) from ?_) hw h
  refine kk_ic hG rfl cc_i0 ?_
  refine kk_st hG (L' := [(3, .int (0 : Int32)), (0, va_rf (some p0)), (1, .int p1), (2, .int p2)]) rfl rfl (Nat.le_of_ble_eq_true rfl) rfl ?_
  exact kk_wl hG [1, 2, 3, 0] rfl (b2 _ _ _ _)
def C_By_numberAt_b46 (sa : Nat → Nat) (p0 : Nat) (p1 : Int32) (p2 : Int32) (a5 : Int32) (u0 : Int64) (u1 : Int32) (s : cS) (kc ks : Nat) (Q : (Int64 → cS → Nat → Nat → Prop)) (P5 : (Int64 → Int32 → cS → Nat → Nat → Prop)) : Prop := (P5 (u0 ||| (Int32.toInt64 u1)) (a5 + (1 : Int32)) s kc ks)
def C_By_numberAt_s5 (sa : Nat → Nat) (p0 : Nat) (p1 : Int32) (p2 : Int32) (a3 : Int64) (a5 : Int32) (s : cS) (kc ks : Nat) (Q : (Int64 → cS → Nat → Nat → Prop)) (P5 : (Int64 → Int32 → cS → Nat → Nat → Prop)) : Prop := if a5 < (p1 + p2) then (if a5 < 0 then ((C_By_numberAt_b46 sa p0 p1 p2 a5 (a3 <<< ((Int32.toInt64 (8 : Int32)) &&& 63)) (0 : Int32) s kc ks Q P5)) else (ob (gI s 0 1 p0) (fun v1 => (if a5 < v1 then (ob (gP s 0 0 p0) (fun v2 => (ob v2 (fun b3 => (ob (rE s .byte b3 a5) (fun v4 => ((C_By_numberAt_b46 sa p0 p1 p2 a5 (a3 <<< ((Int32.toInt64 (8 : Int32)) &&& 63)) (v4 &&& (255 : Int32)) s kc ks Q P5)))))))) else ((C_By_numberAt_b46 sa p0 p1 p2 a5 (a3 <<< ((Int32.toInt64 (8 : Int32)) &&& 63)) (0 : Int32) s kc ks Q P5)))))) else ((Q a3 s kc ks))
def C_By_numberAt_b5 (sa : Nat → Nat) (p0 : Nat) (p1 : Int32) (p2 : Int32) (a3 : Int64) (a5 : Int32) (s : cS) (kc ks : Nat) (Q : (Int64 → cS → Nat → Nat → Prop)) : Prop := ∀ P5 : (Int64 → Int32 → cS → Nat → Nat → Prop), (∀ (a3 : Int64) (a5 : Int32) (s : cS) (kc ks : Nat), C_By_numberAt_s5 sa p0 p1 p2 a3 a5 s kc ks Q P5 → P5 a3 a5 s kc ks) → P5 a3 a5 s kc ks
def C_By_numberAt (sa : Nat → Nat) (p0 : Nat) (p1 : Int32) (p2 : Int32) (s : cS) (kc ks : Nat) (Q : (Int64 → cS → Nat → Nat → Prop)) : Prop := (C_By_numberAt_b5 sa p0 p1 p2 (0 : Int64) p1 s kc ks Q)
set_option maxRecDepth 100000 in
set_option maxHeartbeats 4000000 in
theorem kc_By_numberAt (base : Nat) (sa : Nat → Nat) {R : pmM} {s : cS} {kc ks : Nat} {Rt : pmR} {p0 : Nat} {p1 : Int32} {p2 : Int32} {Q : (Int64 → cS → Nat → Nat → Prop)} (hw : cW sa R base s) (h : C_By_numberAt sa p0 p1 p2 s kc ks Q) (k : ∀ r s' kc' ks', cW sa R base s' → Q r s' kc' ks' → Rt (some (.long r)) (cM R s') kc' ks') : kP_By_numberAt base sa [.ref p0, .int p1, .int p2] (cM R s) kc ks Rt := by
  refine ⟨Nat.le_of_ble_eq_true rfl, fun G hG => ?_⟩
  have b5 : ∀ (a3 : Int64) (a5 : Int32) (s : cS) (kc ks : Nat), KK sa R base G 5 [(0, va_rf (some p0)), (1, .int p1), (2, .int p2), (3, .long a3), (5, .int a5)] [] s kc ks (C_By_numberAt_b5 sa p0 p1 p2 a3 a5 s kc ks Q) := by
    have H : ∀ (P5 : (Int64 → Int32 → cS → Nat → Nat → Prop)) (hP5 : ∀ (a3 : Int64) (a5 : Int32) (s : cS) (kc ks : Nat), P5 a3 a5 s kc ks → cW sa R base s → G 5 [(0, va_rf (some p0)), (1, .int p1), (2, .int p2), (3, .long a3), (5, .int a5)] [] (cM R s) kc ks) (a3 : Int64) (a5 : Int32) (s : cS) (kc ks : Nat), KK sa R base G 5 [(0, va_rf (some p0)), (1, .int p1), (2, .int p2), (3, .long a3), (5, .int a5)] [] s kc ks (C_By_numberAt_s5 sa p0 p1 p2 a3 a5 s kc ks Q P5) := by
      intro P5 hP5
      have b46 : ∀ (a5 : Int32) (u0 : Int64) (u1 : Int32) (s : cS) (kc ks : Nat), KK sa R base G 46 [(0, va_rf (some p0)), (1, .int p1), (2, .int p2), (5, .int a5)] [.int u1, .long u0] s kc ks (C_By_numberAt_b46 sa p0 p1 p2 a5 u0 u1 s kc ks Q P5) := by
        intro a5 u0 u1 s kc ks
        refine kks hG rfl rfl ?_
        refine kks hG rfl rfl ?_
        refine kk_st hG (L' := [(3, .long (u0 ||| (Int32.toInt64 u1))), (0, va_rf (some p0)), (1, .int p1), (2, .int p2), (5, .int a5)]) rfl rfl (Nat.le_of_ble_eq_true rfl) rfl ?_
        refine kk_inc hG (L' := [(5, .int (a5 + (1 : Int32))), (3, .long (u0 ||| (Int32.toInt64 u1))), (0, va_rf (some p0)), (1, .int p1), (2, .int p2)]) rfl (Nat.le_of_ble_eq_true rfl) rfl cc_i1 rfl ?_
        refine kk_go hG (t := 5) rfl rfl ?_
        exact kk_wl hG [2, 3, 4, 1, 0] rfl (fun hw h => hP5 _ _ _ _ _ h hw)
      intro a3 a5 s kc ks
      refine kks hG rfl rfl ?_
      refine kks hG rfl rfl ?_
      refine kks hG rfl rfl ?_
      refine kks hG rfl rfl ?_
      refine kk_ige hG (t := 55) rfl rfl ?_ ?_
      · refine kks hG rfl rfl ?_
        exact kk_rl hG rfl rfl k
      refine kks hG rfl rfl ?_
      refine kk_bi hG rfl cc_b8 ?_
      refine kks hG rfl rfl ?_
      refine kks hG rfl rfl ?_
      refine kk_zlt hG (t := 45) rfl rfl ?_ ?_
      · refine kk_ic hG rfl cc_i0 ?_
        exact kk_wl hG [0, 1, 2, 4] rfl (b46 _ _ _ _ _ _)
      refine kks hG rfl rfl ?_
      refine kk_aln hG (x := (some p0)) rfl rfl ?_
      refine kk_gi hG (c := 0) (k := 1) (a := p0) rfl rfl rfl rfl (fun v1 => ?_)
      refine kk_ige hG (t := 45) rfl rfl ?_ ?_
      · refine kk_ic hG rfl cc_i0 ?_
        exact kk_wl hG [0, 1, 2, 4] rfl (b46 _ _ _ _ _ _)
      refine kk_aln hG (x := (some p0)) rfl rfl ?_
      refine kk_gp hG (c := 0) (k := 0) (a := p0) rfl rfl rfl rfl (fun v2 => ?_)
      refine kks hG rfl rfl ?_
      refine kk_ob (fun b3 eb3 => ?_)
      subst eb3
      refine kk_ba hG (a := b3) rfl (fun v4 => ?_)
      refine kk_si hG rfl cc_s255 ?_
      refine kks hG rfl rfl ?_
      refine kk_go hG (t := 46) rfl rfl ?_
      exact kk_wl hG [0, 1, 2, 4] rfl (b46 _ _ _ _ _ _)
    exact fun a3 a5 s kc ks hw h => h (fun a3 a5 s kc ks => cW sa R base s → G 5 [(0, va_rf (some p0)), (1, .int p1), (2, .int p2), (3, .long a3), (5, .int a5)] [] (cM R s) kc ks) (fun a3 a5 s kc ks hs hw => H _ (fun _ _ _ _ _ hp hw => hp hw) a3 a5 s kc ks hw hs) hw
  refine (show KK sa R base G 0 [(0, va_rf (some p0)), (1, .int p1), (2, .int p2)] [] s kc ks (C_By_numberAt sa p0 p1 p2 s kc ks Q) from ?_) hw h
  refine kk_lc hG (c := 0) (v := 0) rfl rfl ?_
  refine kk_st hG (L' := [(3, .long (0 : Int64)), (0, va_rf (some p0)), (1, .int p1), (2, .int p2)]) rfl rfl (Nat.le_of_ble_eq_true rfl) rfl ?_
  refine kks hG rfl rfl ?_
  refine kk_st hG (L' := [(5, .int p1), (3, .long (0 : Int64)), (0, va_rf (some p0)), (1, .int p1), (2, .int p2)]) rfl rfl (Nat.le_of_ble_eq_true rfl) rfl ?_
  exact kk_wl hG [2, 3, 4, 1, 0] rfl (b5 _ _ _ _ _)
def C_Ch_endSize (sa : Nat → Nat) (p0 : Nat) (p1 : Int32) (s : cS) (kc ks : Nat) (Q : (Int32 → cS → Nat → Nat → Prop)) : Prop := ob (gP s 1 4 p0) (fun v1 => (ob v1 (fun b2 => (ob (rE s .int b2 p1) (fun v3 => (if v3 = (16 : Int32) then (Q (20 : Int32) s kc ks) else (Q (40 : Int32) s kc ks)))))))
set_option maxRecDepth 100000 in
set_option maxHeartbeats 4000000 in
theorem kc_Ch_endSize (base : Nat) (sa : Nat → Nat) {R : pmM} {s : cS} {kc ks : Nat} {Rt : pmR} {p0 : Nat} {p1 : Int32} {Q : (Int32 → cS → Nat → Nat → Prop)} (hw : cW sa R base s) (h : C_Ch_endSize sa p0 p1 s kc ks Q) (k : ∀ r s' kc' ks', cW sa R base s' → Q r s' kc' ks' → Rt (some (.int r)) (cM R s') kc' ks') : kP_Ch_endSize base sa [.ref p0, .int p1] (cM R s) kc ks Rt := by
  refine ⟨Nat.le_of_ble_eq_true rfl, fun G hG => ?_⟩
  refine (show KK sa R base G 0 [(0, va_rf (some p0)), (1, .int p1)] [] s kc ks (C_Ch_endSize sa p0 p1 s kc ks Q) from ?_) hw h
  refine kk_aln hG (x := (some p0)) rfl rfl ?_
  refine kk_gp hG (c := 1) (k := 4) (a := p0) rfl rfl rfl rfl (fun v1 => ?_)
  refine kks hG rfl rfl ?_
  refine kk_ob (fun b2 eb2 => ?_)
  subst eb2
  refine kk_ia hG (a := b2) rfl (fun v3 => ?_)
  refine kk_bi hG rfl cc_b16 ?_
  refine kk_ine hG (t := 16) rfl rfl ?_ ?_
  · refine kk_bi hG rfl cc_b40 ?_
    exact kk_ri hG rfl rfl rfl k
  refine kk_bi hG rfl cc_b20 ?_
  refine kk_go hG (t := 18) rfl rfl ?_
  exact kk_ri hG rfl rfl rfl k
def C_Ch_keyOf_s142 (sa : Nat → Nat) (p0 : Nat) (p1 : Option Nat) (a3 : Int32) (a4 : Int32) (a5 : Int32) (s : cS) (kc ks : Nat) (Q : (Int32 → cS → Nat → Nat → Prop)) (P142 : (Int32 → cS → Nat → Nat → Prop)) : Prop := ob (gP s 1 4 p0) (fun v1 => (ob v1 (fun b2 => (ob (rE s .int b2 a3) (fun v3 => (if a5 < v3 then (ob p1 (fun b4 => (okO s 0 b4 ∧ C_By_at sa b4 ((a4 + (4 : Int32)) + a5) s kc ks (fun r5 sr5 cr5 dr5 => (okO sr5 1 p0 ∧ C_Ch_sumByte sa p0 a5 a3 sr5 cr5 dr5 (fun r6 sr6 cr6 dr6 => (if r5 = r6 then ((P142 (a5 + (1 : Int32)) sr6 cr6 dr6)) else ((Q ((-1) : Int32) sr6 cr6 dr6))))))))) else ((Q a3 s kc ks))))))))
def C_Ch_keyOf_b142 (sa : Nat → Nat) (p0 : Nat) (p1 : Option Nat) (a3 : Int32) (a4 : Int32) (a5 : Int32) (s : cS) (kc ks : Nat) (Q : (Int32 → cS → Nat → Nat → Prop)) : Prop := ∀ P142 : (Int32 → cS → Nat → Nat → Prop), (∀ (a5 : Int32) (s : cS) (kc ks : Nat), C_Ch_keyOf_s142 sa p0 p1 a3 a4 a5 s kc ks Q P142 → P142 a5 s kc ks) → P142 a5 s kc ks
def C_Ch_keyOf (sa : Nat → Nat) (p0 : Nat) (p1 : Option Nat) (p2 : Int32) (s : cS) (kc ks : Nat) (Q : (Int32 → cS → Nat → Nat → Prop)) : Prop := ob p1 (fun b1 => (okO s 0 b1 ∧ C_By_at sa b1 (10 : Int32) s kc ks (fun r2 sr2 cr2 dr2 => (okO sr2 1 p0 ∧ C_Ch_goodKey sa p0 r2 p2 sr2 cr2 dr2 (fun r3 sr3 cr3 dr3 => (if r3 = ((-1) : Int32) then (Q ((-1) : Int32) sr3 cr3 dr3) else (okO sr3 0 b1 ∧ C_By_numberAt sa b1 (4 : Int32) (4 : Int32) sr3 cr3 dr3 (fun r4 sr4 cr4 dr4 => (if r4 = (4294901763 : Int64) then (okO sr4 0 b1 ∧ C_By_at sa b1 (11 : Int32) sr4 cr4 dr4 (fun r5 sr5 cr5 dr5 => (ob (gP sr5 1 4 p0) (fun v6 => (ob v6 (fun b7 => (ob (rE sr5 .int b7 r3) (fun v8 => (if r5 = v8 then (ob (gI sr5 0 1 b1) (fun v9 => (okO sr5 1 p0 ∧ C_Ch_endSize sa p0 r3 sr5 cr5 dr5 (fun r10 sr10 cr10 dr10 => (if (v9 - r10) < (24 : Int32) then (Q ((-1) : Int32) sr10 cr10 dr10) else (okO sr10 0 b1 ∧ C_By_numberAt sa b1 (8 : Int32) (2 : Int32) sr10 cr10 dr10 (fun r11 sr11 cr11 dr11 => (if r11 = (Int32.toInt64 (v9 - r10)) then (okO sr11 0 b1 ∧ C_By_zerosAt sa b1 (16 : Int32) (24 : Int32) sr11 cr11 dr11 (fun r12 sr12 cr12 dr12 => (if r12 = 0 then (Q ((-1) : Int32) sr12 cr12 dr12) else (okO sr12 0 b1 ∧ C_By_numberAt sa b1 (v9 - r10) (4 : Int32) sr12 cr12 dr12 (fun r13 sr13 cr13 dr13 => (if r13 = (4294901761 : Int64) then (ob (gP sr13 1 4 p0) (fun v14 => (ob v14 (fun b15 => (ob (rE sr13 .int b15 r3) (fun v16 => (ob (gI sr13 0 1 b1) (fun v17 => (okO sr13 0 b1 ∧ C_By_zerosAt sa b1 (((v9 - r10) + (4 : Int32)) + v16) v17 sr13 cr13 dr13 (fun r18 sr18 cr18 dr18 => (if r18 = 0 then (Q ((-1) : Int32) sr18 cr18 dr18) else (okO sr18 1 p0 ∧ C_Ch_sum sa p0 (some b1) ((v9 - r10) + (4 : Int32)) r3 sr18 cr18 dr18 (fun sr19 cr19 dr19 => ((C_Ch_keyOf_b142 sa p0 (some b1) r3 (v9 - r10) (0 : Int32) sr19 cr19 dr19 Q))))))))))))))) else (Q ((-1) : Int32) sr13 cr13 dr13))))))) else (Q ((-1) : Int32) sr11 cr11 dr11))))))))) else (Q ((-1) : Int32) sr5 cr5 dr5)))))))))) else (Q ((-1) : Int32) sr4 cr4 dr4))))))))))
set_option maxRecDepth 100000 in
set_option maxHeartbeats 4000000 in
theorem kc_Ch_keyOf (base : Nat) (sa : Nat → Nat) {R : pmM} {s : cS} {kc ks : Nat} {Rt : pmR} {p0 : Nat} {p1 : Option Nat} {p2 : Int32} {Q : (Int32 → cS → Nat → Nat → Prop)} (hw : cW sa R base s) (h : C_Ch_keyOf sa p0 p1 p2 s kc ks Q) (k : ∀ r s' kc' ks', cW sa R base s' → Q r s' kc' ks' → Rt (some (.int r)) (cM R s') kc' ks') : kP_Ch_keyOf base sa [.ref p0, va_rf p1, .int p2] (cM R s) kc ks Rt := by
  refine ⟨by cases p1 <;> exact Nat.le_of_ble_eq_true rfl, fun G hG => ?_⟩
  have eL : lv_args 0 [.ref p0, va_rf p1, .int p2] = [(0, va_rf (some p0)), (1, va_rf p1), (2, .int p2)] := by cases p1 <;> rfl
  rw [eL]
  have b142 : ∀ (a3 : Int32) (a4 : Int32) (a5 : Int32) (s : cS) (kc ks : Nat), KK sa R base G 142 [(0, va_rf (some p0)), (1, va_rf p1), (3, .int a3), (4, .int a4), (5, .int a5)] [] s kc ks (C_Ch_keyOf_b142 sa p0 p1 a3 a4 a5 s kc ks Q) := by
    intro a3 a4
    have H : ∀ (P142 : (Int32 → cS → Nat → Nat → Prop)) (hP142 : ∀ (a5 : Int32) (s : cS) (kc ks : Nat), P142 a5 s kc ks → cW sa R base s → G 142 [(0, va_rf (some p0)), (1, va_rf p1), (3, .int a3), (4, .int a4), (5, .int a5)] [] (cM R s) kc ks) (a5 : Int32) (s : cS) (kc ks : Nat), KK sa R base G 142 [(0, va_rf (some p0)), (1, va_rf p1), (3, .int a3), (4, .int a4), (5, .int a5)] [] s kc ks (C_Ch_keyOf_s142 sa p0 p1 a3 a4 a5 s kc ks Q P142) := by
      intro P142 hP142
      intro a5 s kc ks
      refine kks hG rfl rfl ?_
      refine kk_aln hG (x := (some p0)) rfl rfl ?_
      refine kk_gp hG (c := 1) (k := 4) (a := p0) rfl rfl rfl rfl (fun v1 => ?_)
      refine kks hG rfl rfl ?_
      refine kk_ob (fun b2 eb2 => ?_)
      subst eb2
      refine kk_ia hG (a := b2) rfl (fun v3 => ?_)
      refine kk_ige hG (t := 182) rfl rfl ?_ ?_
      · refine kks hG rfl rfl ?_
        exact kk_ri hG rfl rfl rfl k
      refine kk_aln hG (x := p1) rfl rfl ?_
      refine kks hG rfl rfl ?_
      refine kk_ic hG rfl cc_i4 ?_
      refine kks hG rfl rfl ?_
      refine kks hG rfl rfl ?_
      refine kks hG rfl rfl ?_
      refine kk_ob (fun b4 eb4 => ?_)
      subst eb4
      refine kk_cx (w := .int) hG 0 rfl rfl (Nat.le_of_ble_eq_true rfl) (by decide) rfl (st' := []) rfl (cats_le (Nat.le_of_ble_eq_true rfl)) (fun _ hw h k => kk_rcv h.1 (kc_By_at base sa hw h.2 k)) (fun r5 sr5 cr5 dr5 => ?_)
      refine kk_aln hG (x := (some p0)) rfl rfl ?_
      refine kks hG rfl rfl ?_
      refine kks hG rfl rfl ?_
      refine kk_cx (w := .int) hG 0 rfl rfl (Nat.le_of_ble_eq_true rfl) (by decide) rfl (st' := [.int r5]) rfl (cats_le (Nat.le_of_ble_eq_true rfl)) (fun _ hw h k => kk_rcv h.1 (kc_Ch_sumByte base sa hw h.2 k)) (fun r6 sr6 cr6 dr6 => ?_)
      refine kk_ieq hG (t := 176) rfl rfl ?_ ?_
      · refine kk_inc hG (L' := [(5, .int (a5 + (1 : Int32))), (0, va_rf (some p0)), (1, va_rf (some b4)), (3, .int a3), (4, .int a4)]) rfl (Nat.le_of_ble_eq_true rfl) rfl cc_i1 rfl ?_
        refine kk_go hG (t := 142) rfl rfl ?_
        exact kk_wl hG [1, 2, 3, 4, 0] rfl (fun hw h => hP142 _ _ _ _ h hw)
      refine kk_ic hG rfl cc_im1 ?_
      exact kk_ri hG rfl rfl rfl k
    exact fun a5 s kc ks hw h => h (fun a5 s kc ks => cW sa R base s → G 142 [(0, va_rf (some p0)), (1, va_rf p1), (3, .int a3), (4, .int a4), (5, .int a5)] [] (cM R s) kc ks) (fun a5 s kc ks hs hw => H _ (fun _ _ _ _ hp hw => hp hw) a5 s kc ks hw hs) hw
  refine (show KK sa R base G 0 [(0, va_rf (some p0)), (1, va_rf p1), (2, .int p2)] [] s kc ks (C_Ch_keyOf sa p0 p1 p2 s kc ks Q) from ?_) hw h
  refine kk_aln hG (x := (some p0)) rfl rfl ?_
  refine kk_aln hG (x := p1) rfl rfl ?_
  refine kk_bi hG rfl cc_b10 ?_
  refine kk_ob (fun b1 eb1 => ?_)
  subst eb1
  refine kk_cx (w := .int) hG 0 rfl rfl (Nat.le_of_ble_eq_true rfl) (by decide) rfl (st' := [va_rf (some p0)]) rfl (cats_le (Nat.le_of_ble_eq_true rfl)) (fun _ hw h k => kk_rcv h.1 (kc_By_at base sa hw h.2 k)) (fun r2 sr2 cr2 dr2 => ?_)
  refine kks hG rfl rfl ?_
  refine kk_cx (w := .int) hG 0 rfl rfl (Nat.le_of_ble_eq_true rfl) (by decide) rfl (st' := []) rfl (cats_le (Nat.le_of_ble_eq_true rfl)) (fun _ hw h k => kk_rcv h.1 (kc_Ch_goodKey base sa hw h.2 k)) (fun r3 sr3 cr3 dr3 => ?_)
  refine kk_st hG (L' := [(3, .int r3), (0, va_rf (some p0)), (1, va_rf (some b1)), (2, .int p2)]) rfl rfl (Nat.le_of_ble_eq_true rfl) rfl ?_
  refine kks hG rfl rfl ?_
  refine kk_ic hG rfl cc_im1 ?_
  refine kk_ieq hG (t := 45) rfl rfl ?_ ?_
  · refine kk_ic hG rfl cc_im1 ?_
    exact kk_ri hG rfl rfl rfl k
  refine kk_aln hG (x := (some b1)) rfl rfl ?_
  refine kk_ic hG rfl cc_i4 ?_
  refine kk_ic hG rfl cc_i4 ?_
  refine kk_cx (w := .long) hG 0 rfl rfl (Nat.le_of_ble_eq_true rfl) (by decide) rfl (st' := []) rfl (cats_le (Nat.le_of_ble_eq_true rfl)) (fun _ hw h k => kk_rcv h.1 (kc_By_numberAt base sa hw h.2 k)) (fun r4 sr4 cr4 dr4 => ?_)
  refine kk_l2 hG (v := (4294901763 : Int64)) rfl rfl ?_
  refine kks hG rfl rfl ?_
  refine kk_lne hG (t := 45) rfl rfl ?_ ?_
  · refine kk_ic hG rfl cc_im1 ?_
    exact kk_ri hG rfl rfl rfl k
  refine kk_aln hG (x := (some b1)) rfl rfl ?_
  refine kk_bi hG rfl cc_b11 ?_
  refine kk_cx (w := .int) hG 0 rfl rfl (Nat.le_of_ble_eq_true rfl) (by decide) rfl (st' := []) rfl (cats_le (Nat.le_of_ble_eq_true rfl)) (fun _ hw h k => kk_rcv h.1 (kc_By_at base sa hw h.2 k)) (fun r5 sr5 cr5 dr5 => ?_)
  refine kk_aln hG (x := (some p0)) rfl rfl ?_
  refine kk_gp hG (c := 1) (k := 4) (a := p0) rfl rfl rfl rfl (fun v6 => ?_)
  refine kks hG rfl rfl ?_
  refine kk_ob (fun b7 eb7 => ?_)
  subst eb7
  refine kk_ia hG (a := b7) rfl (fun v8 => ?_)
  refine kk_ieq hG (t := 47) rfl rfl ?_ ?_
  · refine kk_aln hG (x := (some b1)) rfl rfl ?_
    refine kk_gi hG (c := 0) (k := 1) (a := b1) rfl rfl rfl rfl (fun v9 => ?_)
    refine kk_aln hG (x := (some p0)) rfl rfl ?_
    refine kks hG rfl rfl ?_
    refine kk_cx (w := .int) hG 0 rfl rfl (Nat.le_of_ble_eq_true rfl) (by decide) rfl (st' := [.int v9]) rfl (cats_le (Nat.le_of_ble_eq_true rfl)) (fun _ hw h k => kk_rcv h.1 (kc_Ch_endSize base sa hw h.2 k)) (fun r10 sr10 cr10 dr10 => ?_)
    refine kks hG rfl rfl ?_
    refine kk_st hG (L' := [(4, .int (v9 - r10)), (3, .int r3), (0, va_rf (some p0)), (1, va_rf (some b1)), (2, .int p2)]) rfl rfl (Nat.le_of_ble_eq_true rfl) rfl ?_
    refine kks hG rfl rfl ?_
    refine kk_bi hG rfl cc_b24 ?_
    refine kk_ilt hG (t := 127) rfl rfl ?_ ?_
    · refine kk_ic hG rfl cc_im1 ?_
      exact kk_ri hG rfl rfl rfl k
    refine kk_aln hG (x := (some b1)) rfl rfl ?_
    refine kk_bi hG rfl cc_b8 ?_
    refine kk_ic hG rfl cc_i2 ?_
    refine kk_cx (w := .long) hG 0 rfl rfl (Nat.le_of_ble_eq_true rfl) (by decide) rfl (st' := []) rfl (cats_le (Nat.le_of_ble_eq_true rfl)) (fun _ hw h k => kk_rcv h.1 (kc_By_numberAt base sa hw h.2 k)) (fun r11 sr11 cr11 dr11 => ?_)
    refine kks hG rfl rfl ?_
    refine kks hG rfl rfl ?_
    refine kks hG rfl rfl ?_
    refine kk_lne hG (t := 127) rfl rfl ?_ ?_
    · refine kk_ic hG rfl cc_im1 ?_
      exact kk_ri hG rfl rfl rfl k
    refine kk_aln hG (x := (some b1)) rfl rfl ?_
    refine kk_bi hG rfl cc_b16 ?_
    refine kk_bi hG rfl cc_b24 ?_
    refine kk_cx (w := .int) hG 0 rfl rfl (Nat.le_of_ble_eq_true rfl) (by decide) rfl (st' := []) rfl (cats_le (Nat.le_of_ble_eq_true rfl)) (fun _ hw h k => kk_rcv h.1 (kc_By_zerosAt base sa hw h.2 k)) (fun r12 sr12 cr12 dr12 => ?_)
    refine kk_zeq hG (t := 127) rfl rfl ?_ ?_
    · refine kk_ic hG rfl cc_im1 ?_
      exact kk_ri hG rfl rfl rfl k
    refine kk_aln hG (x := (some b1)) rfl rfl ?_
    refine kks hG rfl rfl ?_
    refine kk_ic hG rfl cc_i4 ?_
    refine kk_cx (w := .long) hG 0 rfl rfl (Nat.le_of_ble_eq_true rfl) (by decide) rfl (st' := []) rfl (cats_le (Nat.le_of_ble_eq_true rfl)) (fun _ hw h k => kk_rcv h.1 (kc_By_numberAt base sa hw h.2 k)) (fun r13 sr13 cr13 dr13 => ?_)
    refine kk_l2 hG (v := (4294901761 : Int64)) rfl rfl ?_
    refine kks hG rfl rfl ?_
    refine kk_lne hG (t := 127) rfl rfl ?_ ?_
    · refine kk_ic hG rfl cc_im1 ?_
      exact kk_ri hG rfl rfl rfl k
    refine kk_aln hG (x := (some b1)) rfl rfl ?_
    refine kks hG rfl rfl ?_
    refine kk_ic hG rfl cc_i4 ?_
    refine kks hG rfl rfl ?_
    refine kk_aln hG (x := (some p0)) rfl rfl ?_
    refine kk_gp hG (c := 1) (k := 4) (a := p0) rfl rfl rfl rfl (fun v14 => ?_)
    refine kks hG rfl rfl ?_
    refine kk_ob (fun b15 eb15 => ?_)
    subst eb15
    refine kk_ia hG (a := b15) rfl (fun v16 => ?_)
    refine kks hG rfl rfl ?_
    refine kk_aln hG (x := (some b1)) rfl rfl ?_
    refine kk_gi hG (c := 0) (k := 1) (a := b1) rfl rfl rfl rfl (fun v17 => ?_)
    refine kk_cx (w := .int) hG 0 rfl rfl (Nat.le_of_ble_eq_true rfl) (by decide) rfl (st' := []) rfl (cats_le (Nat.le_of_ble_eq_true rfl)) (fun _ hw h k => kk_rcv h.1 (kc_By_zerosAt base sa hw h.2 k)) (fun r18 sr18 cr18 dr18 => ?_)
    refine kk_zne hG (t := 129) rfl rfl ?_ ?_
    · refine kk_aln hG (x := (some p0)) rfl rfl ?_
      refine kk_aln hG (x := (some b1)) rfl rfl ?_
      refine kks hG rfl rfl ?_
      refine kk_ic hG rfl cc_i4 ?_
      refine kks hG rfl rfl ?_
      refine kks hG rfl rfl ?_
      refine kk_cv hG 0 rfl rfl (Nat.le_of_ble_eq_true rfl) (by decide) rfl (st' := []) rfl (cats_le (Nat.le_of_ble_eq_true rfl)) (fun _ hw h k => kk_rcv h.1 (kc_Ch_sum base sa hw h.2 k)) (fun sr19 cr19 dr19 => ?_)
      refine kk_ic hG rfl cc_i0 ?_
      refine kk_st hG (L' := [(5, .int (0 : Int32)), (4, .int (v9 - r10)), (3, .int r3), (0, va_rf (some p0)), (1, va_rf (some b1)), (2, .int p2)]) rfl rfl (Nat.le_of_ble_eq_true rfl) rfl ?_
      exact kk_wl hG [3, 4, 2, 1, 0] rfl (b142 _ _ _ _ _ _)
    refine kk_ic hG rfl cc_im1 ?_
    exact kk_ri hG rfl rfl rfl k
  refine kk_ic hG rfl cc_im1 ?_
  exact kk_ri hG rfl rfl rfl k
def C_Po_widened (sa : Nat → Nat) (p0 : Option Nat) (s : cS) (kc ks : Nat) (Q : (Option Nat → cS → Nat → Nat → Prop)) : Prop := ob p0 (fun b1 => (ob (aL s b1) (fun v2 => (nwA sa s kc ks .int (v2 * (2 : Int32)) (fun q3 sq3 cq3 dq3 => (ob (aL sq3 b1) (fun v4 => (ob (cpE sq3 b1 (0 : Int32) q3 (0 : Int32) v4) (fun s5 => (Q (some q3) s5 cq3 dq3))))))))))
set_option maxRecDepth 100000 in
set_option maxHeartbeats 4000000 in
theorem kc_Po_widened (base : Nat) (sa : Nat → Nat) {R : pmM} {s : cS} {kc ks : Nat} {Rt : pmR} {p0 : Option Nat} {Q : (Option Nat → cS → Nat → Nat → Prop)} (hw : cW sa R base s) (h : C_Po_widened sa p0 s kc ks Q) (k : ∀ r s' kc' ks', cW sa R base s' → Q r s' kc' ks' → Rt (some (va_rf r)) (cM R s') kc' ks') : kP_Po_widened base sa [va_rf p0] (cM R s) kc ks Rt := by
  refine ⟨by cases p0 <;> exact Nat.le_of_ble_eq_true rfl, fun G hG => ?_⟩
  have eL : lv_args 0 [va_rf p0] = [(0, va_rf p0)] := by cases p0 <;> rfl
  rw [eL]
  refine (show KK sa R base G 0 [(0, va_rf p0)] [] s kc ks (C_Po_widened sa p0 s kc ks Q) from ?_) hw h
  refine kk_aln hG (x := p0) rfl rfl ?_
  refine kk_ob (fun b1 eb1 => ?_)
  subst eb1
  refine kk_len hG (a := b1) rfl (fun v2 => ?_)
  refine kk_ic hG rfl cc_i2 ?_
  refine kks hG rfl rfl ?_
  refine kk_nar hG (ty := .int) rfl rfl rfl rfl (fun q3 sq3 cq3 dq3 => ?_)
  refine kk_asn hG (x := (some q3)) (L' := [(1, va_rf (some q3)), (0, va_rf (some b1))]) rfl (Nat.le_of_ble_eq_true rfl) rfl ?_
  refine kk_aln hG (x := (some b1)) rfl rfl ?_
  refine kk_ic hG rfl cc_i0 ?_
  refine kk_aln hG (x := (some q3)) rfl rfl ?_
  refine kk_ic hG rfl cc_i0 ?_
  refine kk_aln hG (x := (some b1)) rfl rfl ?_
  refine kk_len hG (a := b1) rfl (fun v4 => ?_)
  refine kk_acp hG (a := b1) (b := q3) rfl rfl (Nat.le_of_ble_eq_true rfl) (fun s5 => ?_)
  refine kk_aln hG (x := (some q3)) rfl rfl ?_
  exact kk_ra hG (x := (some q3)) rfl rfl rfl k
