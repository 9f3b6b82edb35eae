/-! Methods as weakest preconditions, by program: Rf_writePolicies .. Rf_config -/
def C_Rf_writePolicies_b119 (sa : Nat → Nat) (p0 : Nat) (p1 : Option Nat) (p2 : Option Nat) (p3 : Option Nat) (p4 : Int32) (a5 : Int32) (s : cS) (kc ks : Nat) (Q : (cS → Nat → Nat → Prop)) (P3 : (Int32 → cS → Nat → Nat → Prop)) : Prop := ob (gP s 11 2 p0) (fun v1 => (ob v1 (fun b2 => (okO s 0 b2 ∧ C_By_endLine sa b2 s kc ks (fun sr3 cr3 dr3 => ((P3 (a5 + (1 : Int32)) sr3 cr3 dr3)))))))
def C_Rf_writePolicies_b79 (sa : Nat → Nat) (p0 : Nat) (p1 : Option Nat) (p2 : Option Nat) (p3 : Option Nat) (p4 : Int32) (a5 : Int32) (a6 : Option Nat) (u0 : Option Nat) (u1 : Option Nat) (s : cS) (kc ks : Nat) (Q : (cS → Nat → Nat → Prop)) (P3 : (Int32 → cS → Nat → Nat → Prop)) : Prop := ob u0 (fun b1 => (okO s 0 b1 ∧ C_By_word sa b1 u1 s kc ks (fun sr2 cr2 dr2 => (ob (gP sr2 11 2 p0) (fun v3 => (ob (gP sr2 11 10 p0) (fun v4 => (ob a6 (fun b5 => (ob (rE sr2 .int b5 (2 : Int32)) (fun v6 => (ob v4 (fun b7 => (ob (rQ sr2 b7 v6) (fun v8 => (ob v8 (fun b9 => (ob (gP sr2 6 0 b9) (fun v10 => (ob v3 (fun b11 => (okO sr2 0 b11 ∧ C_By_word sa b11 v10 sr2 cr2 dr2 (fun sr12 cr12 dr12 => (ob (rE sr12 .int b5 (3 : Int32)) (fun v13 => (if 0 < v13 then (ob (gP sr12 11 2 p0) (fun v14 => (ob (rE sr12 .int b5 (3 : Int32)) (fun v15 => (ob v14 (fun b16 => (okO sr12 0 b16 ∧ C_By_wordNumber sa b16 v15 sr12 cr12 dr12 (fun sr17 cr17 dr17 => ((C_Rf_writePolicies_b119 sa p0 p1 p2 p3 p4 a5 sr17 cr17 dr17 Q P3)))))))))) else ((C_Rf_writePolicies_b119 sa p0 p1 p2 p3 p4 a5 sr12 cr12 dr12 Q P3))))))))))))))))))))))))))))
def C_Rf_writePolicies_s3 (sa : Nat → Nat) (p0 : Nat) (p1 : Option Nat) (p2 : Option Nat) (p3 : Option Nat) (p4 : Int32) (a5 : Int32) (s : cS) (kc ks : Nat) (Q : (cS → Nat → Nat → Prop)) (P3 : (Int32 → cS → Nat → Nat → Prop)) : Prop := if a5 < p4 then (ob p3 (fun b1 => (ob (rQ s b1 a5) (fun v2 => (ob v2 (fun b3 => (ob (rE s .int b3 (1 : Int32)) (fun v4 => (okO s 11 p0 ∧ C_Rf_linkAt sa p0 v4 s kc ks (fun r5 sr5 cr5 dr5 => (ob (gP sr5 11 2 p0) (fun v6 => (ob v6 (fun b7 => (okO sr5 0 b7 ∧ C_By_word sa b7 p2 sr5 cr5 dr5 (fun sr8 cr8 dr8 => (ob (gP sr8 11 2 p0) (fun v9 => (ob p1 (fun b10 => (ob (gP sr8 9 1 b10) (fun v11 => (ob v9 (fun b12 => (okO sr8 0 b12 ∧ C_By_word sa b12 v11 sr8 cr8 dr8 (fun sr13 cr13 dr13 => (ob (gP sr13 11 2 p0) (fun v14 => (ob (rE sr13 .int b3 (0 : Int32)) (fun v15 => (C_Rf_sideWord sa v15 sr13 cr13 dr13 (fun r16 sr16 cr16 dr16 => (ob v14 (fun b17 => (okO sr16 0 b17 ∧ C_By_word sa b17 r16 sr16 cr16 dr16 (fun sr18 cr18 dr18 => (ob (gP sr18 11 2 p0) (fun v19 => (if r5 = none then ((C_Rf_writePolicies_b79 sa p0 (some b10) p2 (some b1) p4 a5 (some b3) v19 (some (sa 29)) sr18 cr18 dr18 Q P3)) else (ob r5 (fun b20 => (ob (gP sr18 3 0 b20) (fun v21 => ((C_Rf_writePolicies_b79 sa p0 (some b10) p2 (some b1) p4 a5 (some b3) v19 v21 sr18 cr18 dr18 Q P3))))))))))))))))))))))))))))))))))))))))))))) else ((Q s kc ks))
def C_Rf_writePolicies_b3 (sa : Nat → Nat) (p0 : Nat) (p1 : Option Nat) (p2 : Option Nat) (p3 : Option Nat) (p4 : Int32) (a5 : Int32) (s : cS) (kc ks : Nat) (Q : (cS → Nat → Nat → Prop)) : Prop := ∀ P3 : (Int32 → cS → Nat → Nat → Prop), (∀ (a5 : Int32) (s : cS) (kc ks : Nat), C_Rf_writePolicies_s3 sa p0 p1 p2 p3 p4 a5 s kc ks Q P3 → P3 a5 s kc ks) → P3 a5 s kc ks
def C_Rf_writePolicies (sa : Nat → Nat) (p0 : Nat) (p1 : Option Nat) (p2 : Option Nat) (p3 : Option Nat) (p4 : Int32) (s : cS) (kc ks : Nat) (Q : (cS → Nat → Nat → Prop)) : Prop := (C_Rf_writePolicies_b3 sa p0 p1 p2 p3 p4 (0 : Int32) s kc ks Q)
set_option maxRecDepth 100000 in
set_option maxHeartbeats 4000000 in
theorem kc_Rf_writePolicies (base : Nat) (sa : Nat → Nat) {R : pmM} {s : cS} {kc ks : Nat} {Rt : pmR} {p0 : Nat} {p1 : Option Nat} {p2 : Option Nat} {p3 : Option Nat} {p4 : Int32} {Q : (cS → Nat → Nat → Prop)} (hw : cW sa R base s) (h : C_Rf_writePolicies sa p0 p1 p2 p3 p4 s kc ks Q) (k : ∀ s' kc' ks', cW sa R base s' → Q s' kc' ks' → Rt none (cM R s') kc' ks') : kP_Rf_writePolicies base sa [.ref p0, va_rf p1, va_rf p2, va_rf p3, .int p4] (cM R s) kc ks Rt := by
  refine ⟨by cases p1 <;> cases p2 <;> cases p3 <;> exact Nat.le_of_ble_eq_true rfl, fun G hG => ?_⟩
  have eL : lv_args 0 [.ref p0, va_rf p1, va_rf p2, va_rf p3, .int p4] = [(0, va_rf (some p0)), (1, va_rf p1), (2, va_rf p2), (3, va_rf p3), (4, .int p4)] := by cases p1 <;> cases p2 <;> cases p3 <;> rfl
  rw [eL]
  have b3 : ∀ (a5 : Int32) (s : cS) (kc ks : Nat), KK sa R base G 3 [(0, va_rf (some p0)), (1, va_rf p1), (2, va_rf p2), (3, va_rf p3), (4, .int p4), (5, .int a5)] [] s kc ks (C_Rf_writePolicies_b3 sa p0 p1 p2 p3 p4 a5 s kc ks Q) := by
    have H : ∀ (P3 : (Int32 → cS → Nat → Nat → Prop)) (hP3 : ∀ (a5 : Int32) (s : cS) (kc ks : Nat), P3 a5 s kc ks → cW sa R base s → G 3 [(0, va_rf (some p0)), (1, va_rf p1), (2, va_rf p2), (3, va_rf p3), (4, .int p4), (5, .int a5)] [] (cM R s) kc ks) (a5 : Int32) (s : cS) (kc ks : Nat), KK sa R base G 3 [(0, va_rf (some p0)), (1, va_rf p1), (2, va_rf p2), (3, va_rf p3), (4, .int p4), (5, .int a5)] [] s kc ks (C_Rf_writePolicies_s3 sa p0 p1 p2 p3 p4 a5 s kc ks Q P3) := by
      intro P3 hP3
      have b119 : ∀ (a5 : Int32) (s : cS) (kc ks : Nat), KK sa R base G 119 [(0, va_rf (some p0)), (1, va_rf p1), (2, va_rf p2), (3, va_rf p3), (4, .int p4), (5, .int a5)] [] s kc ks (C_Rf_writePolicies_b119 sa p0 p1 p2 p3 p4 a5 s kc ks Q P3) := by
        intro a5 s kc ks
        refine kk_aln hG (x := (some p0)) rfl rfl ?_
        refine kk_gp hG (c := 11) (k := 2) (a := p0) rfl rfl rfl rfl (fun v1 => ?_)
        refine kk_ob (fun b2 eb2 => ?_)
        subst eb2
        refine kk_cv hG 0 rfl rfl (Nat.le_of_ble_eq_true rfl) (by decide) rfl (st' := []) rfl (cats_le (Nat.le_of_ble_eq_true rfl)) (fun _ hw h k => kk_rcv h.1 (kc_By_endLine base sa hw h.2 k)) (fun sr3 cr3 dr3 => ?_)
        refine kk_inc hG (L' := [(5, .int (a5 + (1 : Int32))), (0, va_rf (some p0)), (1, va_rf p1), (2, va_rf p2), (3, va_rf p3), (4, .int p4)]) rfl (Nat.le_of_ble_eq_true rfl) rfl cc_i1 rfl ?_
        refine kk_go hG (t := 3) rfl rfl ?_
        exact kk_wl hG [1, 2, 3, 4, 5, 0] rfl (fun hw h => hP3 _ _ _ _ h hw)
      have b79 : ∀ (a5 : Int32) (a6 : Option Nat) (u0 : Option Nat) (u1 : Option Nat) (s : cS) (kc ks : Nat), KK sa R base G 79 [(0, va_rf (some p0)), (1, va_rf p1), (2, va_rf p2), (3, va_rf p3), (4, .int p4), (5, .int a5), (6, va_rf a6)] [va_rf u1, va_rf u0] s kc ks (C_Rf_writePolicies_b79 sa p0 p1 p2 p3 p4 a5 a6 u0 u1 s kc ks Q P3) := by
        intro a5 a6 u0 u1 s kc ks
        refine kk_ob (fun b1 eb1 => ?_)
        subst eb1
        refine kk_cv hG 0 rfl rfl (Nat.le_of_ble_eq_true rfl) (by decide) rfl (st' := []) rfl (cats_le (Nat.le_of_ble_eq_true rfl)) (fun _ hw h k => kk_rcv h.1 (kc_By_word base sa hw h.2 k)) (fun sr2 cr2 dr2 => ?_)
        refine kk_aln hG (x := (some p0)) rfl rfl ?_
        refine kk_gp hG (c := 11) (k := 2) (a := p0) rfl rfl rfl rfl (fun v3 => ?_)
        refine kk_aln hG (x := (some p0)) rfl rfl ?_
        refine kk_gp hG (c := 11) (k := 10) (a := p0) rfl rfl rfl rfl (fun v4 => ?_)
        refine kk_al hG (x := a6) rfl rfl ?_
        refine kk_ic hG rfl cc_i2 ?_
        refine kk_ob (fun b5 eb5 => ?_)
        subst eb5
        refine kk_ia hG (a := b5) rfl (fun v6 => ?_)
        refine kk_ob (fun b7 eb7 => ?_)
        subst eb7
        refine kk_aa hG (a := b7) rfl (fun v8 => ?_)
        refine kk_ob (fun b9 eb9 => ?_)
        subst eb9
        refine kk_gp hG (c := 6) (k := 0) (a := b9) rfl rfl rfl rfl (fun v10 => ?_)
        refine kk_ob (fun b11 eb11 => ?_)
        subst eb11
        refine kk_cv hG 0 rfl rfl (Nat.le_of_ble_eq_true rfl) (by decide) rfl (st' := []) rfl (cats_le (Nat.le_of_ble_eq_true rfl)) (fun _ hw h k => kk_rcv h.1 (kc_By_word base sa hw h.2 k)) (fun sr12 cr12 dr12 => ?_)
        refine kk_al hG (x := (some b5)) rfl rfl ?_
        refine kk_ic hG rfl cc_i3 ?_
        refine kk_ia hG (a := b5) rfl (fun v13 => ?_)
        refine kk_zle hG (t := 119) rfl rfl ?_ ?_
        · exact kk_wl hG [0, 1, 2, 3, 4, 5] rfl (b119 _ _ _ _)
        refine kk_aln hG (x := (some p0)) rfl rfl ?_
        refine kk_gp hG (c := 11) (k := 2) (a := p0) rfl rfl rfl rfl (fun v14 => ?_)
        refine kk_al hG (x := (some b5)) rfl rfl ?_
        refine kk_ic hG rfl cc_i3 ?_
        refine kk_ia hG (a := b5) rfl (fun v15 => ?_)
        refine kk_ob (fun b16 eb16 => ?_)
        subst eb16
        refine kk_cv hG 0 rfl rfl (Nat.le_of_ble_eq_true rfl) (by decide) rfl (st' := []) rfl (cats_le (Nat.le_of_ble_eq_true rfl)) (fun _ hw h k => kk_rcv h.1 (kc_By_wordNumber base sa hw h.2 k)) (fun sr17 cr17 dr17 => ?_)
        exact kk_wl hG [0, 1, 2, 3, 4, 5] rfl (b119 _ _ _ _)
      intro a5 s kc ks
      refine kks hG rfl rfl ?_
      refine kks hG rfl rfl ?_
      refine kk_ige hG (t := 132) rfl rfl ?_ ?_
      · exact kk_rv hG rfl rfl k
      refine kk_aln hG (x := p3) rfl rfl ?_
      refine kks hG rfl rfl ?_
      refine kk_ob (fun b1 eb1 => ?_)
      subst eb1
      refine kk_aa hG (a := b1) rfl (fun v2 => ?_)
      refine kk_as hG (x := v2) (L' := [(6, va_rf v2), (0, va_rf (some p0)), (1, va_rf p1), (2, va_rf p2), (3, va_rf (some b1)), (4, .int p4), (5, .int a5)]) rfl (Nat.le_of_ble_eq_true rfl) rfl ?_
      refine kk_aln hG (x := (some p0)) rfl rfl ?_
      refine kk_al hG (x := v2) rfl rfl ?_
      refine kk_ic hG rfl cc_i1 ?_
      refine kk_ob (fun b3 eb3 => ?_)
      subst eb3
      refine kk_ia hG (a := b3) rfl (fun v4 => ?_)
      refine kk_cx (w := va_rf) hG 0 rfl rfl (Nat.le_of_ble_eq_true rfl) (by decide) rfl (st' := []) rfl (cats_le (Nat.le_of_ble_eq_true rfl)) (fun _ hw h k => kk_rcv h.1 (kc_Rf_linkAt base sa hw h.2 k)) (fun r5 sr5 cr5 dr5 => ?_)
      refine kk_as hG (x := r5) (L' := [(7, va_rf r5), (6, va_rf (some b3)), (0, va_rf (some p0)), (1, va_rf p1), (2, va_rf p2), (3, va_rf (some b1)), (4, .int p4), (5, .int a5)]) rfl (Nat.le_of_ble_eq_true rfl) rfl ?_
      refine kk_aln hG (x := (some p0)) rfl rfl ?_
      refine kk_gp hG (c := 11) (k := 2) (a := p0) rfl rfl rfl rfl (fun v6 => ?_)
      refine kk_aln hG (x := p2) rfl rfl ?_
      refine kk_ob (fun b7 eb7 => ?_)
      subst eb7
      refine kk_cv hG 0 rfl rfl (Nat.le_of_ble_eq_true rfl) (by decide) rfl (st' := []) rfl (cats_le (Nat.le_of_ble_eq_true rfl)) (fun _ hw h k => kk_rcv h.1 (kc_By_word base sa hw h.2 k)) (fun sr8 cr8 dr8 => ?_)
      refine kk_aln hG (x := (some p0)) rfl rfl ?_
      refine kk_gp hG (c := 11) (k := 2) (a := p0) rfl rfl rfl rfl (fun v9 => ?_)
      refine kk_aln hG (x := p1) rfl rfl ?_
      refine kk_ob (fun b10 eb10 => ?_)
      subst eb10
      refine kk_gp hG (c := 9) (k := 1) (a := b10) rfl rfl rfl rfl (fun v11 => ?_)
      refine kk_ob (fun b12 eb12 => ?_)
      subst eb12
      refine kk_cv hG 0 rfl rfl (Nat.le_of_ble_eq_true rfl) (by decide) rfl (st' := []) rfl (cats_le (Nat.le_of_ble_eq_true rfl)) (fun _ hw h k => kk_rcv h.1 (kc_By_word base sa hw h.2 k)) (fun sr13 cr13 dr13 => ?_)
      refine kk_aln hG (x := (some p0)) rfl rfl ?_
      refine kk_gp hG (c := 11) (k := 2) (a := p0) rfl rfl rfl rfl (fun v14 => ?_)
      refine kk_al hG (x := (some b3)) rfl rfl ?_
      refine kk_ic hG rfl cc_i0 ?_
      refine kk_ia hG (a := b3) rfl (fun v15 => ?_)
      refine kk_cx (w := va_rf) hG 2 rfl rfl (Nat.le_of_ble_eq_true rfl) (by decide) rfl (st' := [va_rf v14]) rfl (cats_le (Nat.le_of_ble_eq_true rfl)) (fun _ hw h k => kc_Rf_sideWord base sa hw h k) (fun r16 sr16 cr16 dr16 => ?_)
      refine kk_ob (fun b17 eb17 => ?_)
      subst eb17
      refine kk_cv hG 0 rfl rfl (Nat.le_of_ble_eq_true rfl) (by decide) rfl (st' := []) rfl (cats_le (Nat.le_of_ble_eq_true rfl)) (fun _ hw h k => kk_rcv h.1 (kc_By_word base sa hw h.2 k)) (fun sr18 cr18 dr18 => ?_)
      refine kk_aln hG (x := (some p0)) rfl rfl ?_
      refine kk_gp hG (c := 11) (k := 2) (a := p0) rfl rfl rfl rfl (fun v19 => ?_)
      refine kk_al hG (x := r5) rfl rfl ?_
      refine kk_nnl hG (x := r5) (t := 74) rfl rfl ?_ ?_
      · refine kk_al hG (x := r5) rfl rfl ?_
        refine kk_ob (fun b20 eb20 => ?_)
        subst eb20
        refine kk_gp hG (c := 3) (k := 0) (a := b20) rfl rfl rfl rfl (fun v21 => ?_)
        exact kk_wl hG [2, 3, 4, 5, 6, 7, 1] rfl (b79 _ _ _ _ _ _ _)
      refine kk_lws hG (a := sa 29) rfl rfl ?_
      refine kk_go hG (t := 79) rfl rfl ?_
      exact kk_wl hG [2, 3, 4, 5, 6, 7, 1] rfl (b79 _ _ _ _ _ _ _)
    exact fun a5 s kc ks hw h => h (fun a5 s kc ks => cW sa R base s → G 3 [(0, va_rf (some p0)), (1, va_rf p1), (2, va_rf p2), (3, va_rf p3), (4, .int p4), (5, .int a5)] [] (cM R s) kc ks) (fun a5 s kc ks hs hw => H _ (fun _ _ _ _ hp hw => hp hw) a5 s kc ks hw hs) hw
  refine (show KK sa R base G 0 [(0, va_rf (some p0)), (1, va_rf p1), (2, va_rf p2), (3, va_rf p3), (4, .int p4)] [] s kc ks (C_Rf_writePolicies sa p0 p1 p2 p3 p4 s kc ks Q) from ?_) hw h
  refine kk_ic hG rfl cc_i0 ?_
  refine kk_st hG (L' := [(5, .int (0 : Int32)), (0, va_rf (some p0)), (1, va_rf p1), (2, va_rf p2), (3, va_rf p3), (4, .int p4)]) rfl rfl (Nat.le_of_ble_eq_true rfl) rfl ?_
  exact kk_wl hG [1, 2, 3, 4, 5, 0] rfl (b3 _ _ _ _)
def C_Rf_writeExtras_b154 (sa : Nat → Nat) (p0 : Nat) (s : cS) (kc ks : Nat) (Q : (cS → Nat → Nat → Prop)) : Prop := ob (gP s 11 2 p0) (fun v1 => (ob v1 (fun b2 => (okO s 0 b2 ∧ C_By_endLine sa b2 s kc ks (fun sr3 cr3 dr3 => (Q sr3 cr3 dr3))))))
def C_Rf_writeExtras_s57 (sa : Nat → Nat) (p0 : Nat) (p1 : Option Nat) (p2 : Option Nat) (a3 : Int32) (s : cS) (kc ks : Nat) (Q : (cS → Nat → Nat → Prop)) (P57 : (Int32 → cS → Nat → Nat → Prop)) : Prop := ob p2 (fun b1 => (ob (gI s 4 12 b1) (fun v2 => (if a3 < v2 then (okO s 11 p0 ∧ C_Rf_beginPortLine sa p0 (some (sa 32)) p1 (some b1) s kc ks (fun sr13 cr13 dr13 => (ob (gP sr13 11 2 p0) (fun v14 => (ob v14 (fun b15 => (okO sr13 0 b15 ∧ C_By_word sa b15 (some (sa 3)) sr13 cr13 dr13 (fun sr16 cr16 dr16 => (ob (gP sr16 11 2 p0) (fun v17 => (ob (gP sr16 4 11 b1) (fun v18 => (ob v18 (fun b19 => (ob (rQ sr16 b19 a3) (fun v20 => (ob v17 (fun b21 => (okO sr16 0 b21 ∧ C_By_addAddress sa b21 v20 sr16 cr16 dr16 (fun sr22 cr22 dr22 => (ob (gP sr22 11 2 p0) (fun v23 => (ob v23 (fun b24 => (okO sr22 0 b24 ∧ C_By_endLine sa b24 sr22 cr22 dr22 (fun sr25 cr25 dr25 => ((P57 (a3 + (1 : Int32)) sr25 cr25 dr25)))))))))))))))))))))))))))) else ((ob (gI s 4 13 b1) (fun v3 => (if 0 < v3 then (okO s 11 p0 ∧ C_Rf_beginPortLine sa p0 (some (sa 36)) p1 (some b1) s kc ks (fun sr4 cr4 dr4 => (ob (gP sr4 11 2 p0) (fun v5 => (ob (gI sr4 4 13 b1) (fun v6 => (ob v5 (fun b7 => (okO sr4 0 b7 ∧ C_By_wordNumber sa b7 v6 sr4 cr4 dr4 (fun sr8 cr8 dr8 => (ob (gI sr8 4 14 b1) (fun v9 => (if v9 = 0 then ((C_Rf_writeExtras_b154 sa p0 sr8 cr8 dr8 Q)) else (ob (gP sr8 11 2 p0) (fun v10 => (ob v10 (fun b11 => (okO sr8 0 b11 ∧ C_By_word sa b11 (some (sa 37)) sr8 cr8 dr8 (fun sr12 cr12 dr12 => ((C_Rf_writeExtras_b154 sa p0 sr12 cr12 dr12 Q))))))))))))))))))))) else (Q s kc ks)))))))))
def C_Rf_writeExtras_b57 (sa : Nat → Nat) (p0 : Nat) (p1 : Option Nat) (p2 : Option Nat) (a3 : Int32) (s : cS) (kc ks : Nat) (Q : (cS → Nat → Nat → Prop)) : Prop := ∀ P57 : (Int32 → cS → Nat → Nat → Prop), (∀ (a3 : Int32) (s : cS) (kc ks : Nat), C_Rf_writeExtras_s57 sa p0 p1 p2 a3 s kc ks Q P57 → P57 a3 s kc ks) → P57 a3 s kc ks
def C_Rf_writeExtras_s2 (sa : Nat → Nat) (p0 : Nat) (p1 : Option Nat) (p2 : Option Nat) (a3 : Int32) (s : cS) (kc ks : Nat) (Q : (cS → Nat → Nat → Prop)) (P2 : (Int32 → cS → Nat → Nat → Prop)) : Prop := ob p2 (fun b1 => (ob (gI s 4 8 b1) (fun v2 => (if a3 < v2 then (okO s 11 p0 ∧ C_Rf_beginPortLine sa p0 (some (sa 31)) p1 (some b1) s kc ks (fun sr3 cr3 dr3 => (ob (gP sr3 11 2 p0) (fun v4 => (ob v4 (fun b5 => (okO sr3 0 b5 ∧ C_By_word sa b5 (some (sa 3)) sr3 cr3 dr3 (fun sr6 cr6 dr6 => (ob (gP sr6 11 2 p0) (fun v7 => (ob (gP sr6 4 7 b1) (fun v8 => (ob v8 (fun b9 => (ob (rQ sr6 b9 a3) (fun v10 => (ob v7 (fun b11 => (okO sr6 0 b11 ∧ C_By_addPrefix sa b11 v10 sr6 cr6 dr6 (fun sr12 cr12 dr12 => (ob (gP sr12 11 2 p0) (fun v13 => (ob v13 (fun b14 => (okO sr12 0 b14 ∧ C_By_endLine sa b14 sr12 cr12 dr12 (fun sr15 cr15 dr15 => ((P2 (a3 + (1 : Int32)) sr15 cr15 dr15)))))))))))))))))))))))))))) else (((C_Rf_writeExtras_b57 sa p0 p1 (some b1) (0 : Int32) s kc ks Q)))))))
def C_Rf_writeExtras_b2 (sa : Nat → Nat) (p0 : Nat) (p1 : Option Nat) (p2 : Option Nat) (a3 : Int32) (s : cS) (kc ks : Nat) (Q : (cS → Nat → Nat → Prop)) : Prop := ∀ P2 : (Int32 → cS → Nat → Nat → Prop), (∀ (a3 : Int32) (s : cS) (kc ks : Nat), C_Rf_writeExtras_s2 sa p0 p1 p2 a3 s kc ks Q P2 → P2 a3 s kc ks) → P2 a3 s kc ks
def C_Rf_writeExtras (sa : Nat → Nat) (p0 : Nat) (p1 : Option Nat) (p2 : Option Nat) (s : cS) (kc ks : Nat) (Q : (cS → Nat → Nat → Prop)) : Prop := (C_Rf_writeExtras_b2 sa p0 p1 p2 (0 : Int32) s kc ks Q)
set_option maxRecDepth 100000 in
set_option maxHeartbeats 4000000 in
theorem kc_Rf_writeExtras (base : Nat) (sa : Nat → Nat) {R : pmM} {s : cS} {kc ks : Nat} {Rt : pmR} {p0 : Nat} {p1 : Option Nat} {p2 : Option Nat} {Q : (cS → Nat → Nat → Prop)} (hw : cW sa R base s) (h : C_Rf_writeExtras sa p0 p1 p2 s kc ks Q) (k : ∀ s' kc' ks', cW sa R base s' → Q s' kc' ks' → Rt none (cM R s') kc' ks') : kP_Rf_writeExtras base sa [.ref p0, va_rf p1, va_rf p2] (cM R s) kc ks Rt := by
  refine ⟨by cases p1 <;> cases p2 <;> exact Nat.le_of_ble_eq_true rfl, fun G hG => ?_⟩
  have eL : lv_args 0 [.ref p0, va_rf p1, va_rf p2] = [(0, va_rf (some p0)), (1, va_rf p1), (2, va_rf p2)] := by cases p1 <;> cases p2 <;> rfl
  rw [eL]
  have b154 : ∀ (s : cS) (kc ks : Nat), KK sa R base G 154 [(0, va_rf (some p0))] [] s kc ks (C_Rf_writeExtras_b154 sa p0 s kc ks Q) := by
    intro s kc ks
    refine kk_aln hG (x := (some p0)) rfl rfl ?_
    refine kk_gp hG (c := 11) (k := 2) (a := p0) rfl rfl rfl rfl (fun v1 => ?_)
    refine kk_ob (fun b2 eb2 => ?_)
    subst eb2
    refine kk_cv hG 0 rfl rfl (Nat.le_of_ble_eq_true rfl) (by decide) rfl (st' := []) rfl (cats_le (Nat.le_of_ble_eq_true rfl)) (fun _ hw h k => kk_rcv h.1 (kc_By_endLine base sa hw h.2 k)) (fun sr3 cr3 dr3 => ?_)
    exact kk_rv hG rfl rfl k
  have b57 : ∀ (a3 : Int32) (s : cS) (kc ks : Nat), KK sa R base G 57 [(0, va_rf (some p0)), (1, va_rf p1), (2, va_rf p2), (3, .int a3)] [] s kc ks (C_Rf_writeExtras_b57 sa p0 p1 p2 a3 s kc ks Q) := by
    have H : ∀ (P57 : (Int32 → cS → Nat → Nat → Prop)) (hP57 : ∀ (a3 : Int32) (s : cS) (kc ks : Nat), P57 a3 s kc ks → cW sa R base s → G 57 [(0, va_rf (some p0)), (1, va_rf p1), (2, va_rf p2), (3, .int a3)] [] (cM R s) kc ks) (a3 : Int32) (s : cS) (kc ks : Nat), KK sa R base G 57 [(0, va_rf (some p0)), (1, va_rf p1), (2, va_rf p2), (3, .int a3)] [] s kc ks (C_Rf_writeExtras_s57 sa p0 p1 p2 a3 s kc ks Q P57) := by
      intro P57 hP57
      intro a3 s kc ks
      refine kks hG rfl rfl ?_
      refine kk_aln hG (x := p2) rfl rfl ?_
      refine kk_ob (fun b1 eb1 => ?_)
      subst eb1
      refine kk_gi hG (c := 4) (k := 12) (a := b1) rfl rfl rfl rfl (fun v2 => ?_)
      refine kk_ige hG (t := 110) rfl rfl ?_ ?_
      · refine kk_aln hG (x := (some b1)) rfl rfl ?_
        refine kk_gi hG (c := 4) (k := 13) (a := b1) rfl rfl rfl rfl (fun v3 => ?_)
        refine kk_zle hG (t := 161) rfl rfl ?_ ?_
        · exact kk_rv hG rfl rfl k
        refine kk_aln hG (x := (some p0)) rfl rfl ?_
        refine kk_lws hG (a := sa 36) rfl rfl ?_
        refine kk_aln hG (x := p1) rfl rfl ?_
        refine kk_aln hG (x := (some b1)) rfl rfl ?_
        refine kk_cv hG 0 rfl rfl (Nat.le_of_ble_eq_true rfl) (by decide) rfl (st' := []) rfl (cats_le (Nat.le_of_ble_eq_true rfl)) (fun _ hw h k => kk_rcv h.1 (kc_Rf_beginPortLine base sa hw h.2 k)) (fun sr4 cr4 dr4 => ?_)
        refine kk_aln hG (x := (some p0)) rfl rfl ?_
        refine kk_gp hG (c := 11) (k := 2) (a := p0) rfl rfl rfl rfl (fun v5 => ?_)
        refine kk_aln hG (x := (some b1)) rfl rfl ?_
        refine kk_gi hG (c := 4) (k := 13) (a := b1) rfl rfl rfl rfl (fun v6 => ?_)
        refine kk_ob (fun b7 eb7 => ?_)
        subst eb7
        refine kk_cv hG 0 rfl rfl (Nat.le_of_ble_eq_true rfl) (by decide) rfl (st' := []) rfl (cats_le (Nat.le_of_ble_eq_true rfl)) (fun _ hw h k => kk_rcv h.1 (kc_By_wordNumber base sa hw h.2 k)) (fun sr8 cr8 dr8 => ?_)
        refine kk_aln hG (x := (some b1)) rfl rfl ?_
        refine kk_gi hG (c := 4) (k := 14) (a := b1) rfl rfl rfl rfl (fun v9 => ?_)
        refine kk_zeq hG (t := 154) rfl rfl ?_ ?_
        · exact kk_wl hG [0] rfl (b154 _ _ _)
        refine kk_aln hG (x := (some p0)) rfl rfl ?_
        refine kk_gp hG (c := 11) (k := 2) (a := p0) rfl rfl rfl rfl (fun v10 => ?_)
        refine kk_lws hG (a := sa 37) rfl rfl ?_
        refine kk_ob (fun b11 eb11 => ?_)
        subst eb11
        refine kk_cv hG 0 rfl rfl (Nat.le_of_ble_eq_true rfl) (by decide) rfl (st' := []) rfl (cats_le (Nat.le_of_ble_eq_true rfl)) (fun _ hw h k => kk_rcv h.1 (kc_By_word base sa hw h.2 k)) (fun sr12 cr12 dr12 => ?_)
        exact kk_wl hG [0] rfl (b154 _ _ _)
      refine kk_aln hG (x := (some p0)) rfl rfl ?_
      refine kk_lws hG (a := sa 32) rfl rfl ?_
      refine kk_aln hG (x := p1) rfl rfl ?_
      refine kk_aln hG (x := (some b1)) rfl rfl ?_
      refine kk_cv hG 0 rfl rfl (Nat.le_of_ble_eq_true rfl) (by decide) rfl (st' := []) rfl (cats_le (Nat.le_of_ble_eq_true rfl)) (fun _ hw h k => kk_rcv h.1 (kc_Rf_beginPortLine base sa hw h.2 k)) (fun sr13 cr13 dr13 => ?_)
      refine kk_aln hG (x := (some p0)) rfl rfl ?_
      refine kk_gp hG (c := 11) (k := 2) (a := p0) rfl rfl rfl rfl (fun v14 => ?_)
      refine kk_lws hG (a := sa 3) rfl rfl ?_
      refine kk_ob (fun b15 eb15 => ?_)
      subst eb15
      refine kk_cv hG 0 rfl rfl (Nat.le_of_ble_eq_true rfl) (by decide) rfl (st' := []) rfl (cats_le (Nat.le_of_ble_eq_true rfl)) (fun _ hw h k => kk_rcv h.1 (kc_By_word base sa hw h.2 k)) (fun sr16 cr16 dr16 => ?_)
      refine kk_aln hG (x := (some p0)) rfl rfl ?_
      refine kk_gp hG (c := 11) (k := 2) (a := p0) rfl rfl rfl rfl (fun v17 => ?_)
      refine kk_aln hG (x := (some b1)) rfl rfl ?_
      refine kk_gp hG (c := 4) (k := 11) (a := b1) rfl rfl rfl rfl (fun v18 => ?_)
      refine kks hG rfl rfl ?_
      refine kk_ob (fun b19 eb19 => ?_)
      subst eb19
      refine kk_aa hG (a := b19) rfl (fun v20 => ?_)
      refine kk_ob (fun b21 eb21 => ?_)
      subst eb21
      refine kk_cv hG 0 rfl rfl (Nat.le_of_ble_eq_true rfl) (by decide) rfl (st' := []) rfl (cats_le (Nat.le_of_ble_eq_true rfl)) (fun _ hw h k => kk_rcv h.1 (kc_By_addAddress base sa hw h.2 k)) (fun sr22 cr22 dr22 => ?_)
      refine kk_aln hG (x := (some p0)) rfl rfl ?_
      refine kk_gp hG (c := 11) (k := 2) (a := p0) rfl rfl rfl rfl (fun v23 => ?_)
      refine kk_ob (fun b24 eb24 => ?_)
      subst eb24
      refine kk_cv hG 0 rfl rfl (Nat.le_of_ble_eq_true rfl) (by decide) rfl (st' := []) rfl (cats_le (Nat.le_of_ble_eq_true rfl)) (fun _ hw h k => kk_rcv h.1 (kc_By_endLine base sa hw h.2 k)) (fun sr25 cr25 dr25 => ?_)
      refine kk_inc hG (L' := [(3, .int (a3 + (1 : Int32))), (0, va_rf (some p0)), (1, va_rf p1), (2, va_rf (some b1))]) rfl (Nat.le_of_ble_eq_true rfl) rfl cc_i1 rfl ?_
      refine kk_go hG (t := 57) rfl rfl ?_
      exact kk_wl hG [1, 2, 3, 0] rfl (fun hw h => hP57 _ _ _ _ h hw)
    exact fun a3 s kc ks hw h => h (fun a3 s kc ks => cW sa R base s → G 57 [(0, va_rf (some p0)), (1, va_rf p1), (2, va_rf p2), (3, .int a3)] [] (cM R s) kc ks) (fun a3 s kc ks hs hw => H _ (fun _ _ _ _ hp hw => hp hw) a3 s kc ks hw hs) hw
  have b2 : ∀ (a3 : Int32) (s : cS) (kc ks : Nat), KK sa R base G 2 [(0, va_rf (some p0)), (1, va_rf p1), (2, va_rf p2), (3, .int a3)] [] s kc ks (C_Rf_writeExtras_b2 sa p0 p1 p2 a3 s kc ks Q) := by
    have H : ∀ (P2 : (Int32 → cS → Nat → Nat → Prop)) (hP2 : ∀ (a3 : Int32) (s : cS) (kc ks : Nat), P2 a3 s kc ks → cW sa R base s → G 2 [(0, va_rf (some p0)), (1, va_rf p1), (2, va_rf p2), (3, .int a3)] [] (cM R s) kc ks) (a3 : Int32) (s : cS) (kc ks : Nat), KK sa R base G 2 [(0, va_rf (some p0)), (1, va_rf p1), (2, va_rf p2), (3, .int a3)] [] s kc ks (C_Rf_writeExtras_s2 sa p0 p1 p2 a3 s kc ks Q P2) := by
      intro P2 hP2
      intro a3 s kc ks
      refine kks hG rfl rfl ?_
      refine kk_aln hG (x := p2) rfl rfl ?_
      refine kk_ob (fun b1 eb1 => ?_)
      subst eb1
      refine kk_gi hG (c := 4) (k := 8) (a := b1) rfl rfl rfl rfl (fun v2 => ?_)
      refine kk_ige hG (t := 55) rfl rfl ?_ ?_
      · refine kk_ic hG rfl cc_i0 ?_
        refine kk_st hG (L' := [(3, .int (0 : Int32)), (0, va_rf (some p0)), (1, va_rf p1), (2, va_rf (some b1))]) rfl rfl (Nat.le_of_ble_eq_true rfl) rfl ?_
        exact kk_wl hG [1, 2, 3, 0] rfl (b57 _ _ _ _)
      refine kk_aln hG (x := (some p0)) rfl rfl ?_
      refine kk_lws hG (a := sa 31) rfl rfl ?_
      refine kk_aln hG (x := p1) rfl rfl ?_
      refine kk_aln hG (x := (some b1)) rfl rfl ?_
      refine kk_cv hG 0 rfl rfl (Nat.le_of_ble_eq_true rfl) (by decide) rfl (st' := []) rfl (cats_le (Nat.le_of_ble_eq_true rfl)) (fun _ hw h k => kk_rcv h.1 (kc_Rf_beginPortLine base sa hw h.2 k)) (fun sr3 cr3 dr3 => ?_)
      refine kk_aln hG (x := (some p0)) rfl rfl ?_
      refine kk_gp hG (c := 11) (k := 2) (a := p0) rfl rfl rfl rfl (fun v4 => ?_)
      refine kk_lws hG (a := sa 3) rfl rfl ?_
      refine kk_ob (fun b5 eb5 => ?_)
      subst eb5
      refine kk_cv hG 0 rfl rfl (Nat.le_of_ble_eq_true rfl) (by decide) rfl (st' := []) rfl (cats_le (Nat.le_of_ble_eq_true rfl)) (fun _ hw h k => kk_rcv h.1 (kc_By_word base sa hw h.2 k)) (fun sr6 cr6 dr6 => ?_)
      refine kk_aln hG (x := (some p0)) rfl rfl ?_
      refine kk_gp hG (c := 11) (k := 2) (a := p0) rfl rfl rfl rfl (fun v7 => ?_)
      refine kk_aln hG (x := (some b1)) rfl rfl ?_
      refine kk_gp hG (c := 4) (k := 7) (a := b1) rfl rfl rfl rfl (fun v8 => ?_)
      refine kks hG rfl rfl ?_
      refine kk_ob (fun b9 eb9 => ?_)
      subst eb9
      refine kk_aa hG (a := b9) rfl (fun v10 => ?_)
      refine kk_ob (fun b11 eb11 => ?_)
      subst eb11
      refine kk_cv hG 0 rfl rfl (Nat.le_of_ble_eq_true rfl) (by decide) rfl (st' := []) rfl (cats_le (Nat.le_of_ble_eq_true rfl)) (fun _ hw h k => kk_rcv h.1 (kc_By_addPrefix base sa hw h.2 k)) (fun sr12 cr12 dr12 => ?_)
      refine kk_aln hG (x := (some p0)) rfl rfl ?_
      refine kk_gp hG (c := 11) (k := 2) (a := p0) rfl rfl rfl rfl (fun v13 => ?_)
      refine kk_ob (fun b14 eb14 => ?_)
      subst eb14
      refine kk_cv hG 0 rfl rfl (Nat.le_of_ble_eq_true rfl) (by decide) rfl (st' := []) rfl (cats_le (Nat.le_of_ble_eq_true rfl)) (fun _ hw h k => kk_rcv h.1 (kc_By_endLine base sa hw h.2 k)) (fun sr15 cr15 dr15 => ?_)
      refine kk_inc hG (L' := [(3, .int (a3 + (1 : Int32))), (0, va_rf (some p0)), (1, va_rf p1), (2, va_rf (some b1))]) rfl (Nat.le_of_ble_eq_true rfl) rfl cc_i1 rfl ?_
      refine kk_go hG (t := 2) rfl rfl ?_
      exact kk_wl hG [1, 2, 3, 0] rfl (fun hw h => hP2 _ _ _ _ h hw)
    exact fun a3 s kc ks hw h => h (fun a3 s kc ks => cW sa R base s → G 2 [(0, va_rf (some p0)), (1, va_rf p1), (2, va_rf p2), (3, .int a3)] [] (cM R s) kc ks) (fun a3 s kc ks hs hw => H _ (fun _ _ _ _ hp hw => hp hw) a3 s kc ks hw hs) hw
  refine (show KK sa R base G 0 [(0, va_rf (some p0)), (1, va_rf p1), (2, va_rf p2)] [] s kc ks (C_Rf_writeExtras sa p0 p1 p2 s kc ks Q) from ?_) hw h
  refine kk_ic hG rfl cc_i0 ?_
  refine kk_st hG (L' := [(3, .int (0 : Int32)), (0, va_rf (some p0)), (1, va_rf p1), (2, va_rf p2)]) rfl rfl (Nat.le_of_ble_eq_true rfl) (by cases p2 <;> rfl) ?_
  exact kk_wl hG [1, 2, 3, 0] rfl (b2 _ _ _ _)
def C_Rf_writeShare_b135 (sa : Nat → Nat) (p0 : Nat) (s : cS) (kc ks : Nat) (Q : (cS → Nat → Nat → Prop)) : Prop := ob (gP s 11 2 p0) (fun v1 => (ob v1 (fun b2 => (okO s 0 b2 ∧ C_By_endLine sa b2 s kc ks (fun sr3 cr3 dr3 => (Q sr3 cr3 dr3))))))
def C_Rf_writeShare_b110 (sa : Nat → Nat) (p0 : Nat) (a4 : Int32) (s : cS) (kc ks : Nat) (Q : (cS → Nat → Nat → Prop)) : Prop := if a4 = ((-1) : Int32) then ((C_Rf_writeShare_b135 sa p0 s kc ks Q)) else (ob (gP s 11 2 p0) (fun v1 => (ob v1 (fun b2 => (okO s 0 b2 ∧ C_By_word sa b2 (some (sa 18)) s kc ks (fun sr3 cr3 dr3 => (ob (gP sr3 11 2 p0) (fun v4 => (ob v4 (fun b5 => (okO sr3 0 b5 ∧ C_By_wordNumber sa b5 a4 sr3 cr3 dr3 (fun sr6 cr6 dr6 => ((C_Rf_writeShare_b135 sa p0 sr6 cr6 dr6 Q))))))))))))))
def C_Rf_writeShare_b64 (sa : Nat → Nat) (p0 : Nat) (a3 : Int32) (a4 : Int32) (u0 : Option Nat) (u1 : Option Nat) (s : cS) (kc ks : Nat) (Q : (cS → Nat → Nat → Prop)) : Prop := ob u0 (fun b1 => (okO s 0 b1 ∧ C_By_word sa b1 u1 s kc ks (fun sr2 cr2 dr2 => (if a3 = 0 then (ob (gP sr2 11 2 p0) (fun v9 => (ob v9 (fun b10 => (okO sr2 0 b10 ∧ C_By_word sa b10 (some (sa 35)) sr2 cr2 dr2 (fun sr11 cr11 dr11 => ((C_Rf_writeShare_b110 sa p0 a4 sr11 cr11 dr11 Q)))))))) else (if a3 = ((-1) : Int32) then (ob (gP sr2 11 2 p0) (fun v6 => (ob v6 (fun b7 => (okO sr2 0 b7 ∧ C_By_word sa b7 (some (sa 12)) sr2 cr2 dr2 (fun sr8 cr8 dr8 => ((C_Rf_writeShare_b110 sa p0 a4 sr8 cr8 dr8 Q)))))))) else (ob (gP sr2 11 2 p0) (fun v3 => (ob v3 (fun b4 => (okO sr2 0 b4 ∧ C_By_wordNumber sa b4 a3 sr2 cr2 dr2 (fun sr5 cr5 dr5 => ((C_Rf_writeShare_b110 sa p0 a4 sr5 cr5 dr5 Q)))))))))))))
def C_Rf_writeShare_b26 (sa : Nat → Nat) (p0 : Nat) (p1 : Option Nat) (p2 : Int32) (a3 : Int32) (a4 : Int32) (s : cS) (kc ks : Nat) (Q : (cS → Nat → Nat → Prop)) : Prop := ob (gP s 11 2 p0) (fun v1 => (ob v1 (fun b2 => (okO s 0 b2 ∧ C_By_word sa b2 (some (sa 33)) s kc ks (fun sr3 cr3 dr3 => (ob (gP sr3 11 2 p0) (fun v4 => (ob p1 (fun b5 => (ob (gP sr3 9 1 b5) (fun v6 => (ob v4 (fun b7 => (okO sr3 0 b7 ∧ C_By_word sa b7 v6 sr3 cr3 dr3 (fun sr8 cr8 dr8 => (ob (gP sr8 11 2 p0) (fun v9 => (if p2 = 0 then ((C_Rf_writeShare_b64 sa p0 a3 a4 v9 (some (sa 34)) sr8 cr8 dr8 Q)) else ((C_Rf_writeShare_b64 sa p0 a3 a4 v9 (some (sa 17)) sr8 cr8 dr8 Q))))))))))))))))))))
def C_Rf_writeShare (sa : Nat → Nat) (p0 : Nat) (p1 : Option Nat) (p2 : Int32) (s : cS) (kc ks : Nat) (Q : (cS → Nat → Nat → Prop)) : Prop := ob p1 (fun b1 => (ob (gP s 9 13 b1) (fun v2 => (ob v2 (fun b3 => (ob (rE s .int b3 p2) (fun v4 => (ob (gP s 9 14 b1) (fun v5 => (ob v5 (fun b6 => (ob (rE s .int b6 p2) (fun v7 => (if v4 = 0 then (if v7 = ((-1) : Int32) then (Q s kc ks) else ((C_Rf_writeShare_b26 sa p0 (some b1) p2 v4 v7 s kc ks Q))) else ((C_Rf_writeShare_b26 sa p0 (some b1) p2 v4 v7 s kc ks Q))))))))))))))))
set_option maxRecDepth 100000 in
set_option maxHeartbeats 4000000 in
theorem kc_Rf_writeShare (base : Nat) (sa : Nat → Nat) {R : pmM} {s : cS} {kc ks : Nat} {Rt : pmR} {p0 : Nat} {p1 : Option Nat} {p2 : Int32} {Q : (cS → Nat → Nat → Prop)} (hw : cW sa R base s) (h : C_Rf_writeShare sa p0 p1 p2 s kc ks Q) (k : ∀ s' kc' ks', cW sa R base s' → Q s' kc' ks' → Rt none (cM R s') kc' ks') : kP_Rf_writeShare base sa [.ref p0, va_rf p1, .int p2] (cM R s) kc ks Rt := by
  refine ⟨by cases p1 <;> exact Nat.le_of_ble_eq_true rfl, fun G hG => ?_⟩
  have eL : lv_args 0 [.ref p0, va_rf p1, .int p2] = [(0, va_rf (some p0)), (1, va_rf p1), (2, .int p2)] := by cases p1 <;> rfl
  rw [eL]
  have b135 : ∀ (s : cS) (kc ks : Nat), KK sa R base G 135 [(0, va_rf (some p0))] [] s kc ks (C_Rf_writeShare_b135 sa p0 s kc ks Q) := by
    intro s kc ks
    refine kk_aln hG (x := (some p0)) rfl rfl ?_
    refine kk_gp hG (c := 11) (k := 2) (a := p0) rfl rfl rfl rfl (fun v1 => ?_)
    refine kk_ob (fun b2 eb2 => ?_)
    subst eb2
    refine kk_cv hG 0 rfl rfl (Nat.le_of_ble_eq_true rfl) (by decide) rfl (st' := []) rfl (cats_le (Nat.le_of_ble_eq_true rfl)) (fun _ hw h k => kk_rcv h.1 (kc_By_endLine base sa hw h.2 k)) (fun sr3 cr3 dr3 => ?_)
    exact kk_rv hG rfl rfl k
  have b110 : ∀ (a4 : Int32) (s : cS) (kc ks : Nat), KK sa R base G 110 [(0, va_rf (some p0)), (4, .int a4)] [] s kc ks (C_Rf_writeShare_b110 sa p0 a4 s kc ks Q) := by
    intro a4 s kc ks
    refine kks hG rfl rfl ?_
    refine kk_ic hG rfl cc_im1 ?_
    refine kk_ieq hG (t := 135) rfl rfl ?_ ?_
    · exact kk_wl hG [0] rfl (b135 _ _ _)
    refine kk_aln hG (x := (some p0)) rfl rfl ?_
    refine kk_gp hG (c := 11) (k := 2) (a := p0) rfl rfl rfl rfl (fun v1 => ?_)
    refine kk_lws hG (a := sa 18) rfl rfl ?_
    refine kk_ob (fun b2 eb2 => ?_)
    subst eb2
    refine kk_cv hG 0 rfl rfl (Nat.le_of_ble_eq_true rfl) (by decide) rfl (st' := []) rfl (cats_le (Nat.le_of_ble_eq_true rfl)) (fun _ hw h k => kk_rcv h.1 (kc_By_word base sa hw h.2 k)) (fun sr3 cr3 dr3 => ?_)
    refine kk_aln hG (x := (some p0)) rfl rfl ?_
    refine kk_gp hG (c := 11) (k := 2) (a := p0) rfl rfl rfl rfl (fun v4 => ?_)
    refine kks hG rfl rfl ?_
    refine kk_ob (fun b5 eb5 => ?_)
    subst eb5
    refine kk_cv hG 0 rfl rfl (Nat.le_of_ble_eq_true rfl) (by decide) rfl (st' := []) rfl (cats_le (Nat.le_of_ble_eq_true rfl)) (fun _ hw h k => kk_rcv h.1 (kc_By_wordNumber base sa hw h.2 k)) (fun sr6 cr6 dr6 => ?_)
    exact kk_wl hG [0] rfl (b135 _ _ _)
  have b64 : ∀ (a3 : Int32) (a4 : Int32) (u0 : Option Nat) (u1 : Option Nat) (s : cS) (kc ks : Nat), KK sa R base G 64 [(0, va_rf (some p0)), (3, .int a3), (4, .int a4)] [va_rf u1, va_rf u0] s kc ks (C_Rf_writeShare_b64 sa p0 a3 a4 u0 u1 s kc ks Q) := by
    intro a3 a4 u0 u1 s kc ks
    refine kk_ob (fun b1 eb1 => ?_)
    subst eb1
    refine kk_cv hG 0 rfl rfl (Nat.le_of_ble_eq_true rfl) (by decide) rfl (st' := []) rfl (cats_le (Nat.le_of_ble_eq_true rfl)) (fun _ hw h k => kk_rcv h.1 (kc_By_word base sa hw h.2 k)) (fun sr2 cr2 dr2 => ?_)
    refine kks hG rfl rfl ?_
    refine kk_zne hG (t := 84) rfl rfl ?_ ?_
    · refine kks hG rfl rfl ?_
      refine kk_ic hG rfl cc_im1 ?_
      refine kk_ine hG (t := 102) rfl rfl ?_ ?_
      · refine kk_aln hG (x := (some p0)) rfl rfl ?_
        refine kk_gp hG (c := 11) (k := 2) (a := p0) rfl rfl rfl rfl (fun v3 => ?_)
        refine kks hG rfl rfl ?_
        refine kk_ob (fun b4 eb4 => ?_)
        subst eb4
        refine kk_cv hG 0 rfl rfl (Nat.le_of_ble_eq_true rfl) (by decide) rfl (st' := []) rfl (cats_le (Nat.le_of_ble_eq_true rfl)) (fun _ hw h k => kk_rcv h.1 (kc_By_wordNumber base sa hw h.2 k)) (fun sr5 cr5 dr5 => ?_)
        exact kk_wl hG [0, 2] rfl (b110 _ _ _ _)
      refine kk_aln hG (x := (some p0)) rfl rfl ?_
      refine kk_gp hG (c := 11) (k := 2) (a := p0) rfl rfl rfl rfl (fun v6 => ?_)
      refine kk_lws hG (a := sa 12) rfl rfl ?_
      refine kk_ob (fun b7 eb7 => ?_)
      subst eb7
      refine kk_cv hG 0 rfl rfl (Nat.le_of_ble_eq_true rfl) (by decide) rfl (st' := []) rfl (cats_le (Nat.le_of_ble_eq_true rfl)) (fun _ hw h k => kk_rcv h.1 (kc_By_word base sa hw h.2 k)) (fun sr8 cr8 dr8 => ?_)
      refine kk_go hG (t := 110) rfl rfl ?_
      exact kk_wl hG [0, 2] rfl (b110 _ _ _ _)
    refine kk_aln hG (x := (some p0)) rfl rfl ?_
    refine kk_gp hG (c := 11) (k := 2) (a := p0) rfl rfl rfl rfl (fun v9 => ?_)
    refine kk_lws hG (a := sa 35) rfl rfl ?_
    refine kk_ob (fun b10 eb10 => ?_)
    subst eb10
    refine kk_cv hG 0 rfl rfl (Nat.le_of_ble_eq_true rfl) (by decide) rfl (st' := []) rfl (cats_le (Nat.le_of_ble_eq_true rfl)) (fun _ hw h k => kk_rcv h.1 (kc_By_word base sa hw h.2 k)) (fun sr11 cr11 dr11 => ?_)
    refine kk_go hG (t := 110) rfl rfl ?_
    exact kk_wl hG [0, 2] rfl (b110 _ _ _ _)
  have b26 : ∀ (a3 : Int32) (a4 : Int32) (s : cS) (kc ks : Nat), KK sa R base G 26 [(0, va_rf (some p0)), (1, va_rf p1), (2, .int p2), (3, .int a3), (4, .int a4)] [] s kc ks (C_Rf_writeShare_b26 sa p0 p1 p2 a3 a4 s kc ks Q) := by
    intro a3 a4 s kc ks
    refine kk_aln hG (x := (some p0)) rfl rfl ?_
    refine kk_gp hG (c := 11) (k := 2) (a := p0) rfl rfl rfl rfl (fun v1 => ?_)
    refine kk_lws hG (a := sa 33) rfl rfl ?_
    refine kk_ob (fun b2 eb2 => ?_)
    subst eb2
    refine kk_cv hG 0 rfl rfl (Nat.le_of_ble_eq_true rfl) (by decide) rfl (st' := []) rfl (cats_le (Nat.le_of_ble_eq_true rfl)) (fun _ hw h k => kk_rcv h.1 (kc_By_word base sa hw h.2 k)) (fun sr3 cr3 dr3 => ?_)
    refine kk_aln hG (x := (some p0)) rfl rfl ?_
    refine kk_gp hG (c := 11) (k := 2) (a := p0) rfl rfl rfl rfl (fun v4 => ?_)
    refine kk_aln hG (x := p1) rfl rfl ?_
    refine kk_ob (fun b5 eb5 => ?_)
    subst eb5
    refine kk_gp hG (c := 9) (k := 1) (a := b5) rfl rfl rfl rfl (fun v6 => ?_)
    refine kk_ob (fun b7 eb7 => ?_)
    subst eb7
    refine kk_cv hG 0 rfl rfl (Nat.le_of_ble_eq_true rfl) (by decide) rfl (st' := []) rfl (cats_le (Nat.le_of_ble_eq_true rfl)) (fun _ hw h k => kk_rcv h.1 (kc_By_word base sa hw h.2 k)) (fun sr8 cr8 dr8 => ?_)
    refine kk_aln hG (x := (some p0)) rfl rfl ?_
    refine kk_gp hG (c := 11) (k := 2) (a := p0) rfl rfl rfl rfl (fun v9 => ?_)
    refine kks hG rfl rfl ?_
    refine kk_zne hG (t := 61) rfl rfl ?_ ?_
    · refine kk_lws hG (a := sa 17) rfl rfl ?_
      exact kk_wl hG [0, 3, 4] rfl (b64 _ _ _ _ _ _ _)
    refine kk_lws hG (a := sa 34) rfl rfl ?_
    refine kk_go hG (t := 64) rfl rfl ?_
    exact kk_wl hG [0, 3, 4] rfl (b64 _ _ _ _ _ _ _)
  refine (show KK sa R base G 0 [(0, va_rf (some p0)), (1, va_rf p1), (2, .int p2)] [] s kc ks (C_Rf_writeShare sa p0 p1 p2 s kc ks Q) from ?_) hw h
  refine kk_aln hG (x := p1) rfl rfl ?_
  refine kk_ob (fun b1 eb1 => ?_)
  subst eb1
  refine kk_gp hG (c := 9) (k := 13) (a := b1) rfl rfl rfl rfl (fun v2 => ?_)
  refine kks hG rfl rfl ?_
  refine kk_ob (fun b3 eb3 => ?_)
  subst eb3
  refine kk_ia hG (a := b3) rfl (fun v4 => ?_)
  refine kk_st hG (L' := [(3, .int v4), (0, va_rf (some p0)), (1, va_rf (some b1)), (2, .int p2)]) rfl rfl (Nat.le_of_ble_eq_true rfl) rfl ?_
  refine kk_aln hG (x := (some b1)) rfl rfl ?_
  refine kk_gp hG (c := 9) (k := 14) (a := b1) rfl rfl rfl rfl (fun v5 => ?_)
  refine kks hG rfl rfl ?_
  refine kk_ob (fun b6 eb6 => ?_)
  subst eb6
  refine kk_ia hG (a := b6) rfl (fun v7 => ?_)
  refine kk_st hG (L' := [(4, .int v7), (3, .int v4), (0, va_rf (some p0)), (1, va_rf (some b1)), (2, .int p2)]) rfl rfl (Nat.le_of_ble_eq_true rfl) rfl ?_
  refine kks hG rfl rfl ?_
  refine kk_zne hG (t := 26) rfl rfl ?_ ?_
  · exact kk_wl hG [2, 3, 4, 1, 0] rfl (b26 _ _ _ _ _)
  refine kks hG rfl rfl ?_
  refine kk_ic hG rfl cc_im1 ?_
  refine kk_ine hG (t := 26) rfl rfl ?_ ?_
  · exact kk_wl hG [2, 3, 4, 1, 0] rfl (b26 _ _ _ _ _)
  exact kk_rv hG rfl rfl k
def C_Rf_writeRouter_s184 (sa : Nat → Nat) (p0 : Nat) (p1 : Option Nat) (a2 : Int32) (s : cS) (kc ks : Nat) (Q : (cS → Nat → Nat → Prop)) (P184 : (Int32 → cS → Nat → Nat → Prop)) : Prop := ob p1 (fun b1 => (ob (gI s 9 5 b1) (fun v2 => (if a2 < v2 then (ob (gP s 9 4 b1) (fun v5 => (ob v5 (fun b6 => (ob (rQ s b6 a2) (fun v7 => (okO s 11 p0 ∧ C_Rf_writeExtras sa p0 (some b1) v7 s kc ks (fun sr8 cr8 dr8 => ((P184 (a2 + (1 : Int32)) sr8 cr8 dr8)))))))))) else ((okO s 11 p0 ∧ C_Rf_writeShare sa p0 (some b1) (0 : Int32) s kc ks (fun sr3 cr3 dr3 => (okO sr3 11 p0 ∧ C_Rf_writeShare sa p0 (some b1) (1 : Int32) sr3 cr3 dr3 (fun sr4 cr4 dr4 => (Q sr4 cr4 dr4))))))))))
def C_Rf_writeRouter_b184 (sa : Nat → Nat) (p0 : Nat) (p1 : Option Nat) (a2 : Int32) (s : cS) (kc ks : Nat) (Q : (cS → Nat → Nat → Prop)) : Prop := ∀ P184 : (Int32 → cS → Nat → Nat → Prop), (∀ (a2 : Int32) (s : cS) (kc ks : Nat), C_Rf_writeRouter_s184 sa p0 p1 a2 s kc ks Q P184 → P184 a2 s kc ks) → P184 a2 s kc ks
def C_Rf_writeRouter_s97 (sa : Nat → Nat) (p0 : Nat) (p1 : Option Nat) (a2 : Int32) (s : cS) (kc ks : Nat) (Q : (cS → Nat → Nat → Prop)) (P97 : (Int32 → cS → Nat → Nat → Prop)) : Prop := ob p1 (fun b1 => (ob (gI s 9 5 b1) (fun v2 => (if a2 < v2 then (ob (gP s 9 4 b1) (fun v12 => (ob v12 (fun b13 => (ob (rQ s b13 a2) (fun v14 => (okO s 11 p0 ∧ C_Rf_writeJoins sa p0 (some b1) v14 s kc ks (fun sr15 cr15 dr15 => (ob (gP sr15 9 4 b1) (fun v16 => (ob v16 (fun b17 => (ob (rQ sr15 b17 a2) (fun v18 => (okO sr15 11 p0 ∧ C_Rf_writeKeys sa p0 (some b1) v18 sr15 cr15 dr15 (fun sr19 cr19 dr19 => ((P97 (a2 + (1 : Int32)) sr19 cr19 dr19)))))))))))))))))) else ((okO s 11 p0 ∧ C_Rf_writeStatics sa p0 (some b1) s kc ks (fun sr3 cr3 dr3 => (okO sr3 11 p0 ∧ C_Rf_writeFilters sa p0 (some b1) (0 : Int32) sr3 cr3 dr3 (fun sr4 cr4 dr4 => (okO sr4 11 p0 ∧ C_Rf_writeFilters sa p0 (some b1) (1 : Int32) sr4 cr4 dr4 (fun sr5 cr5 dr5 => (ob (gP sr5 9 9 b1) (fun v6 => (ob (gI sr5 9 10 b1) (fun v7 => (okO sr5 11 p0 ∧ C_Rf_writePolicies sa p0 (some b1) (some (sa 28)) v6 v7 sr5 cr5 dr5 (fun sr8 cr8 dr8 => (ob (gP sr8 9 11 b1) (fun v9 => (ob (gI sr8 9 12 b1) (fun v10 => (okO sr8 11 p0 ∧ C_Rf_writePolicies sa p0 (some b1) (some (sa 30)) v9 v10 sr8 cr8 dr8 (fun sr11 cr11 dr11 => ((C_Rf_writeRouter_b184 sa p0 (some b1) (0 : Int32) sr11 cr11 dr11 Q)))))))))))))))))))))))))
def C_Rf_writeRouter_b97 (sa : Nat → Nat) (p0 : Nat) (p1 : Option Nat) (a2 : Int32) (s : cS) (kc ks : Nat) (Q : (cS → Nat → Nat → Prop)) : Prop := ∀ P97 : (Int32 → cS → Nat → Nat → Prop), (∀ (a2 : Int32) (s : cS) (kc ks : Nat), C_Rf_writeRouter_s97 sa p0 p1 a2 s kc ks Q P97 → P97 a2 s kc ks) → P97 a2 s kc ks
def C_Rf_writeRouter (sa : Nat → Nat) (p0 : Nat) (p1 : Option Nat) (s : cS) (kc ks : Nat) (Q : (cS → Nat → Nat → Prop)) : Prop := ob (gP s 11 2 p0) (fun v1 => (ob v1 (fun b2 => (okO s 0 b2 ∧ C_By_word sa b2 (some (sa 4)) s kc ks (fun sr3 cr3 dr3 => (ob (gP sr3 11 2 p0) (fun v4 => (ob p1 (fun b5 => (ob (gP sr3 9 1 b5) (fun v6 => (ob v4 (fun b7 => (okO sr3 0 b7 ∧ C_By_word sa b7 v6 sr3 cr3 dr3 (fun sr8 cr8 dr8 => (ob (gP sr8 11 2 p0) (fun v9 => (ob v9 (fun b10 => (okO sr8 0 b10 ∧ C_By_endLine sa b10 sr8 cr8 dr8 (fun sr11 cr11 dr11 => (ob (gP sr11 11 2 p0) (fun v12 => (ob v12 (fun b13 => (okO sr11 0 b13 ∧ C_By_word sa b13 (some (sa 38)) sr11 cr11 dr11 (fun sr14 cr14 dr14 => (ob (gP sr14 11 2 p0) (fun v15 => (ob (gP sr14 9 1 b5) (fun v16 => (ob v15 (fun b17 => (okO sr14 0 b17 ∧ C_By_word sa b17 v16 sr14 cr14 dr14 (fun sr18 cr18 dr18 => (ob (gP sr18 11 2 p0) (fun v19 => (ob (gP sr18 9 15 b5) (fun v20 => (ob v20 (fun b21 => (ob (rE sr18 .int b21 (0 : Int32)) (fun v22 => (ob v19 (fun b23 => (okO sr18 0 b23 ∧ C_By_wordNumber sa b23 v22 sr18 cr18 dr18 (fun sr24 cr24 dr24 => (ob (gP sr24 11 2 p0) (fun v25 => (ob (gP sr24 9 15 b5) (fun v26 => (ob v26 (fun b27 => (ob (rE sr24 .int b27 (1 : Int32)) (fun v28 => (ob v25 (fun b29 => (okO sr24 0 b29 ∧ C_By_wordNumber sa b29 v28 sr24 cr24 dr24 (fun sr30 cr30 dr30 => (ob (gP sr30 11 2 p0) (fun v31 => (ob (gP sr30 9 15 b5) (fun v32 => (ob v32 (fun b33 => (ob (rE sr30 .int b33 (2 : Int32)) (fun v34 => (ob v31 (fun b35 => (okO sr30 0 b35 ∧ C_By_wordNumber sa b35 v34 sr30 cr30 dr30 (fun sr36 cr36 dr36 => (ob (gP sr36 11 2 p0) (fun v37 => (ob v37 (fun b38 => (okO sr36 0 b38 ∧ C_By_endLine sa b38 sr36 cr36 dr36 (fun sr39 cr39 dr39 => ((C_Rf_writeRouter_b97 sa p0 (some b5) (0 : Int32) sr39 cr39 dr39 Q)))))))))))))))))))))))))))))))))))))))))))))))))))))))))))))))))))))))))))))))
set_option maxRecDepth 100000 in
set_option maxHeartbeats 4000000 in
theorem kc_Rf_writeRouter (base : Nat) (sa : Nat → Nat) {R : pmM} {s : cS} {kc ks : Nat} {Rt : pmR} {p0 : Nat} {p1 : Option Nat} {Q : (cS → Nat → Nat → Prop)} (hw : cW sa R base s) (h : C_Rf_writeRouter sa p0 p1 s kc ks Q) (k : ∀ s' kc' ks', cW sa R base s' → Q s' kc' ks' → Rt none (cM R s') kc' ks') : kP_Rf_writeRouter base sa [.ref p0, va_rf p1] (cM R s) kc ks Rt := by
  refine ⟨by cases p1 <;> exact Nat.le_of_ble_eq_true rfl, fun G hG => ?_⟩
  have eL : lv_args 0 [.ref p0, va_rf p1] = [(0, va_rf (some p0)), (1, va_rf p1)] := by cases p1 <;> rfl
  rw [eL]
  have b184 : ∀ (a2 : Int32) (s : cS) (kc ks : Nat), KK sa R base G 184 [(0, va_rf (some p0)), (1, va_rf p1), (2, .int a2)] [] s kc ks (C_Rf_writeRouter_b184 sa p0 p1 a2 s kc ks Q) := by
    have H : ∀ (P184 : (Int32 → cS → Nat → Nat → Prop)) (hP184 : ∀ (a2 : Int32) (s : cS) (kc ks : Nat), P184 a2 s kc ks → cW sa R base s → G 184 [(0, va_rf (some p0)), (1, va_rf p1), (2, .int a2)] [] (cM R s) kc ks) (a2 : Int32) (s : cS) (kc ks : Nat), KK sa R base G 184 [(0, va_rf (some p0)), (1, va_rf p1), (2, .int a2)] [] s kc ks (C_Rf_writeRouter_s184 sa p0 p1 a2 s kc ks Q P184) := by
      intro P184 hP184
      intro a2 s kc ks
      refine kks hG rfl rfl ?_
      refine kk_aln hG (x := p1) rfl rfl ?_
      refine kk_ob (fun b1 eb1 => ?_)
      subst eb1
      refine kk_gi hG (c := 9) (k := 5) (a := b1) rfl rfl rfl rfl (fun v2 => ?_)
      refine kk_ige hG (t := 209) rfl rfl ?_ ?_
      · refine kk_aln hG (x := (some p0)) rfl rfl ?_
        refine kk_aln hG (x := (some b1)) rfl rfl ?_
        refine kk_ic hG rfl cc_i0 ?_
        refine kk_cv hG 0 rfl rfl (Nat.le_of_ble_eq_true rfl) (by decide) rfl (st' := []) rfl (cats_le (Nat.le_of_ble_eq_true rfl)) (fun _ hw h k => kk_rcv h.1 (kc_Rf_writeShare base sa hw h.2 k)) (fun sr3 cr3 dr3 => ?_)
        refine kk_aln hG (x := (some p0)) rfl rfl ?_
        refine kk_aln hG (x := (some b1)) rfl rfl ?_
        refine kk_ic hG rfl cc_i1 ?_
        refine kk_cv hG 0 rfl rfl (Nat.le_of_ble_eq_true rfl) (by decide) rfl (st' := []) rfl (cats_le (Nat.le_of_ble_eq_true rfl)) (fun _ hw h k => kk_rcv h.1 (kc_Rf_writeShare base sa hw h.2 k)) (fun sr4 cr4 dr4 => ?_)
        exact kk_rv hG rfl rfl k
      refine kk_aln hG (x := (some p0)) rfl rfl ?_
      refine kk_aln hG (x := (some b1)) rfl rfl ?_
      refine kk_aln hG (x := (some b1)) rfl rfl ?_
      refine kk_gp hG (c := 9) (k := 4) (a := b1) rfl rfl rfl rfl (fun v5 => ?_)
      refine kks hG rfl rfl ?_
      refine kk_ob (fun b6 eb6 => ?_)
      subst eb6
      refine kk_aa hG (a := b6) rfl (fun v7 => ?_)
      refine kk_cv hG 0 rfl rfl (Nat.le_of_ble_eq_true rfl) (by decide) rfl (st' := []) rfl (cats_le (Nat.le_of_ble_eq_true rfl)) (fun _ hw h k => kk_rcv h.1 (kc_Rf_writeExtras base sa hw h.2 k)) (fun sr8 cr8 dr8 => ?_)
      refine kk_inc hG (L' := [(2, .int (a2 + (1 : Int32))), (0, va_rf (some p0)), (1, va_rf (some b1))]) rfl (Nat.le_of_ble_eq_true rfl) rfl cc_i1 rfl ?_
      refine kk_go hG (t := 184) rfl rfl ?_
      exact kk_wl hG [1, 2, 0] rfl (fun hw h => hP184 _ _ _ _ h hw)
    exact fun a2 s kc ks hw h => h (fun a2 s kc ks => cW sa R base s → G 184 [(0, va_rf (some p0)), (1, va_rf p1), (2, .int a2)] [] (cM R s) kc ks) (fun a2 s kc ks hs hw => H _ (fun _ _ _ _ hp hw => hp hw) a2 s kc ks hw hs) hw
  have b97 : ∀ (a2 : Int32) (s : cS) (kc ks : Nat), KK sa R base G 97 [(0, va_rf (some p0)), (1, va_rf p1), (2, .int a2)] [] s kc ks (C_Rf_writeRouter_b97 sa p0 p1 a2 s kc ks Q) := by
    have H : ∀ (P97 : (Int32 → cS → Nat → Nat → Prop)) (hP97 : ∀ (a2 : Int32) (s : cS) (kc ks : Nat), P97 a2 s kc ks → cW sa R base s → G 97 [(0, va_rf (some p0)), (1, va_rf p1), (2, .int a2)] [] (cM R s) kc ks) (a2 : Int32) (s : cS) (kc ks : Nat), KK sa R base G 97 [(0, va_rf (some p0)), (1, va_rf p1), (2, .int a2)] [] s kc ks (C_Rf_writeRouter_s97 sa p0 p1 a2 s kc ks Q P97) := by
      intro P97 hP97
      intro a2 s kc ks
      refine kks hG rfl rfl ?_
      refine kk_aln hG (x := p1) rfl rfl ?_
      refine kk_ob (fun b1 eb1 => ?_)
      subst eb1
      refine kk_gi hG (c := 9) (k := 5) (a := b1) rfl rfl rfl rfl (fun v2 => ?_)
      refine kk_ige hG (t := 133) rfl rfl ?_ ?_
      · refine kk_aln hG (x := (some p0)) rfl rfl ?_
        refine kk_aln hG (x := (some b1)) rfl rfl ?_
        refine kk_cv hG 0 rfl rfl (Nat.le_of_ble_eq_true rfl) (by decide) rfl (st' := []) rfl (cats_le (Nat.le_of_ble_eq_true rfl)) (fun _ hw h k => kk_rcv h.1 (kc_Rf_writeStatics base sa hw h.2 k)) (fun sr3 cr3 dr3 => ?_)
        refine kk_aln hG (x := (some p0)) rfl rfl ?_
        refine kk_aln hG (x := (some b1)) rfl rfl ?_
        refine kk_ic hG rfl cc_i0 ?_
        refine kk_cv hG 0 rfl rfl (Nat.le_of_ble_eq_true rfl) (by decide) rfl (st' := []) rfl (cats_le (Nat.le_of_ble_eq_true rfl)) (fun _ hw h k => kk_rcv h.1 (kc_Rf_writeFilters base sa hw h.2 k)) (fun sr4 cr4 dr4 => ?_)
        refine kk_aln hG (x := (some p0)) rfl rfl ?_
        refine kk_aln hG (x := (some b1)) rfl rfl ?_
        refine kk_ic hG rfl cc_i1 ?_
        refine kk_cv hG 0 rfl rfl (Nat.le_of_ble_eq_true rfl) (by decide) rfl (st' := []) rfl (cats_le (Nat.le_of_ble_eq_true rfl)) (fun _ hw h k => kk_rcv h.1 (kc_Rf_writeFilters base sa hw h.2 k)) (fun sr5 cr5 dr5 => ?_)
        refine kk_aln hG (x := (some p0)) rfl rfl ?_
        refine kk_aln hG (x := (some b1)) rfl rfl ?_
        refine kk_lws hG (a := sa 28) rfl rfl ?_
        refine kk_aln hG (x := (some b1)) rfl rfl ?_
        refine kk_gp hG (c := 9) (k := 9) (a := b1) rfl rfl rfl rfl (fun v6 => ?_)
        refine kk_aln hG (x := (some b1)) rfl rfl ?_
        refine kk_gi hG (c := 9) (k := 10) (a := b1) rfl rfl rfl rfl (fun v7 => ?_)
        refine kk_cv hG 0 rfl rfl (Nat.le_of_ble_eq_true rfl) (by decide) rfl (st' := []) rfl (cats_le (Nat.le_of_ble_eq_true rfl)) (fun _ hw h k => kk_rcv h.1 (kc_Rf_writePolicies base sa hw h.2 k)) (fun sr8 cr8 dr8 => ?_)
        refine kk_aln hG (x := (some p0)) rfl rfl ?_
        refine kk_aln hG (x := (some b1)) rfl rfl ?_
        refine kk_lws hG (a := sa 30) rfl rfl ?_
        refine kk_aln hG (x := (some b1)) rfl rfl ?_
        refine kk_gp hG (c := 9) (k := 11) (a := b1) rfl rfl rfl rfl (fun v9 => ?_)
        refine kk_aln hG (x := (some b1)) rfl rfl ?_
        refine kk_gi hG (c := 9) (k := 12) (a := b1) rfl rfl rfl rfl (fun v10 => ?_)
        refine kk_cv hG 0 rfl rfl (Nat.le_of_ble_eq_true rfl) (by decide) rfl (st' := []) rfl (cats_le (Nat.le_of_ble_eq_true rfl)) (fun _ hw h k => kk_rcv h.1 (kc_Rf_writePolicies base sa hw h.2 k)) (fun sr11 cr11 dr11 => ?_)
        refine kk_ic hG rfl cc_i0 ?_
        refine kk_st hG (L' := [(2, .int (0 : Int32)), (0, va_rf (some p0)), (1, va_rf (some b1))]) rfl rfl (Nat.le_of_ble_eq_true rfl) rfl ?_
        exact kk_wl hG [1, 2, 0] rfl (b184 _ _ _ _)
      refine kk_aln hG (x := (some p0)) rfl rfl ?_
      refine kk_aln hG (x := (some b1)) rfl rfl ?_
      refine kk_aln hG (x := (some b1)) rfl rfl ?_
      refine kk_gp hG (c := 9) (k := 4) (a := b1) rfl rfl rfl rfl (fun v12 => ?_)
      refine kks hG rfl rfl ?_
      refine kk_ob (fun b13 eb13 => ?_)
      subst eb13
      refine kk_aa hG (a := b13) rfl (fun v14 => ?_)
      refine kk_cv hG 0 rfl rfl (Nat.le_of_ble_eq_true rfl) (by decide) rfl (st' := []) rfl (cats_le (Nat.le_of_ble_eq_true rfl)) (fun _ hw h k => kk_rcv h.1 (kc_Rf_writeJoins base sa hw h.2 k)) (fun sr15 cr15 dr15 => ?_)
      refine kk_aln hG (x := (some p0)) rfl rfl ?_
      refine kk_aln hG (x := (some b1)) rfl rfl ?_
      refine kk_aln hG (x := (some b1)) rfl rfl ?_
      refine kk_gp hG (c := 9) (k := 4) (a := b1) rfl rfl rfl rfl (fun v16 => ?_)
      refine kks hG rfl rfl ?_
      refine kk_ob (fun b17 eb17 => ?_)
      subst eb17
      refine kk_aa hG (a := b17) rfl (fun v18 => ?_)
      refine kk_cv hG 0 rfl rfl (Nat.le_of_ble_eq_true rfl) (by decide) rfl (st' := []) rfl (cats_le (Nat.le_of_ble_eq_true rfl)) (fun _ hw h k => kk_rcv h.1 (kc_Rf_writeKeys base sa hw h.2 k)) (fun sr19 cr19 dr19 => ?_)
      refine kk_inc hG (L' := [(2, .int (a2 + (1 : Int32))), (0, va_rf (some p0)), (1, va_rf (some b1))]) rfl (Nat.le_of_ble_eq_true rfl) rfl cc_i1 rfl ?_
      refine kk_go hG (t := 97) rfl rfl ?_
      exact kk_wl hG [1, 2, 0] rfl (fun hw h => hP97 _ _ _ _ h hw)
    exact fun a2 s kc ks hw h => h (fun a2 s kc ks => cW sa R base s → G 97 [(0, va_rf (some p0)), (1, va_rf p1), (2, .int a2)] [] (cM R s) kc ks) (fun a2 s kc ks hs hw => H _ (fun _ _ _ _ hp hw => hp hw) a2 s kc ks hw hs) hw
  refine (show KK sa R base G 0 [(0, va_rf (some p0)), (1, va_rf p1)] [] s kc ks (C_Rf_writeRouter sa p0 p1 s kc ks Q) from ?_) hw h
  refine kk_aln hG (x := (some p0)) rfl rfl ?_
  refine kk_gp hG (c := 11) (k := 2) (a := p0) rfl rfl rfl rfl (fun v1 => ?_)
  refine kk_lws hG (a := sa 4) rfl rfl ?_
  refine kk_ob (fun b2 eb2 => ?_)
  subst eb2
  refine kk_cv hG 0 rfl rfl (Nat.le_of_ble_eq_true rfl) (by decide) rfl (st' := []) rfl (cats_le (Nat.le_of_ble_eq_true rfl)) (fun _ hw h k => kk_rcv h.1 (kc_By_word base sa hw h.2 k)) (fun sr3 cr3 dr3 => ?_)
  refine kk_aln hG (x := (some p0)) rfl rfl ?_
  refine kk_gp hG (c := 11) (k := 2) (a := p0) rfl rfl rfl rfl (fun v4 => ?_)
  refine kk_aln hG (x := p1) rfl rfl ?_
  refine kk_ob (fun b5 eb5 => ?_)
  subst eb5
  refine kk_gp hG (c := 9) (k := 1) (a := b5) rfl rfl rfl rfl (fun v6 => ?_)
  refine kk_ob (fun b7 eb7 => ?_)
  subst eb7
  refine kk_cv hG 0 rfl rfl (Nat.le_of_ble_eq_true rfl) (by decide) rfl (st' := []) rfl (cats_le (Nat.le_of_ble_eq_true rfl)) (fun _ hw h k => kk_rcv h.1 (kc_By_word base sa hw h.2 k)) (fun sr8 cr8 dr8 => ?_)
  refine kk_aln hG (x := (some p0)) rfl rfl ?_
  refine kk_gp hG (c := 11) (k := 2) (a := p0) rfl rfl rfl rfl (fun v9 => ?_)
  refine kk_ob (fun b10 eb10 => ?_)
  subst eb10
  refine kk_cv hG 0 rfl rfl (Nat.le_of_ble_eq_true rfl) (by decide) rfl (st' := []) rfl (cats_le (Nat.le_of_ble_eq_true rfl)) (fun _ hw h k => kk_rcv h.1 (kc_By_endLine base sa hw h.2 k)) (fun sr11 cr11 dr11 => ?_)
  refine kk_aln hG (x := (some p0)) rfl rfl ?_
  refine kk_gp hG (c := 11) (k := 2) (a := p0) rfl rfl rfl rfl (fun v12 => ?_)
  refine kk_lws hG (a := sa 38) rfl rfl ?_
  refine kk_ob (fun b13 eb13 => ?_)
  subst eb13
  refine kk_cv hG 0 rfl rfl (Nat.le_of_ble_eq_true rfl) (by decide) rfl (st' := []) rfl (cats_le (Nat.le_of_ble_eq_true rfl)) (fun _ hw h k => kk_rcv h.1 (kc_By_word base sa hw h.2 k)) (fun sr14 cr14 dr14 => ?_)
  refine kk_aln hG (x := (some p0)) rfl rfl ?_
  refine kk_gp hG (c := 11) (k := 2) (a := p0) rfl rfl rfl rfl (fun v15 => ?_)
  refine kk_aln hG (x := (some b5)) rfl rfl ?_
  refine kk_gp hG (c := 9) (k := 1) (a := b5) rfl rfl rfl rfl (fun v16 => ?_)
  refine kk_ob (fun b17 eb17 => ?_)
  subst eb17
  refine kk_cv hG 0 rfl rfl (Nat.le_of_ble_eq_true rfl) (by decide) rfl (st' := []) rfl (cats_le (Nat.le_of_ble_eq_true rfl)) (fun _ hw h k => kk_rcv h.1 (kc_By_word base sa hw h.2 k)) (fun sr18 cr18 dr18 => ?_)
  refine kk_aln hG (x := (some p0)) rfl rfl ?_
  refine kk_gp hG (c := 11) (k := 2) (a := p0) rfl rfl rfl rfl (fun v19 => ?_)
  refine kk_aln hG (x := (some b5)) rfl rfl ?_
  refine kk_gp hG (c := 9) (k := 15) (a := b5) rfl rfl rfl rfl (fun v20 => ?_)
  refine kk_ic hG rfl cc_i0 ?_
  refine kk_ob (fun b21 eb21 => ?_)
  subst eb21
  refine kk_ia hG (a := b21) rfl (fun v22 => ?_)
  refine kk_ob (fun b23 eb23 => ?_)
  subst eb23
  refine kk_cv hG 0 rfl rfl (Nat.le_of_ble_eq_true rfl) (by decide) rfl (st' := []) rfl (cats_le (Nat.le_of_ble_eq_true rfl)) (fun _ hw h k => kk_rcv h.1 (kc_By_wordNumber base sa hw h.2 k)) (fun sr24 cr24 dr24 => ?_)
  refine kk_aln hG (x := (some p0)) rfl rfl ?_
  refine kk_gp hG (c := 11) (k := 2) (a := p0) rfl rfl rfl rfl (fun v25 => ?_)
  refine kk_aln hG (x := (some b5)) rfl rfl ?_
  refine kk_gp hG (c := 9) (k := 15) (a := b5) rfl rfl rfl rfl (fun v26 => ?_)
  refine kk_ic hG rfl cc_i1 ?_
  refine kk_ob (fun b27 eb27 => ?_)
  subst eb27
  refine kk_ia hG (a := b27) rfl (fun v28 => ?_)
  refine kk_ob (fun b29 eb29 => ?_)
  subst eb29
  refine kk_cv hG 0 rfl rfl (Nat.le_of_ble_eq_true rfl) (by decide) rfl (st' := []) rfl (cats_le (Nat.le_of_ble_eq_true rfl)) (fun _ hw h k => kk_rcv h.1 (kc_By_wordNumber base sa hw h.2 k)) (fun sr30 cr30 dr30 => ?_)
  refine kk_aln hG (x := (some p0)) rfl rfl ?_
  refine kk_gp hG (c := 11) (k := 2) (a := p0) rfl rfl rfl rfl (fun v31 => ?_)
  refine kk_aln hG (x := (some b5)) rfl rfl ?_
  refine kk_gp hG (c := 9) (k := 15) (a := b5) rfl rfl rfl rfl (fun v32 => ?_)
  refine kk_ic hG rfl cc_i2 ?_
  refine kk_ob (fun b33 eb33 => ?_)
  subst eb33
  refine kk_ia hG (a := b33) rfl (fun v34 => ?_)
  refine kk_ob (fun b35 eb35 => ?_)
  subst eb35
  refine kk_cv hG 0 rfl rfl (Nat.le_of_ble_eq_true rfl) (by decide) rfl (st' := []) rfl (cats_le (Nat.le_of_ble_eq_true rfl)) (fun _ hw h k => kk_rcv h.1 (kc_By_wordNumber base sa hw h.2 k)) (fun sr36 cr36 dr36 => ?_)
  refine kk_aln hG (x := (some p0)) rfl rfl ?_
  refine kk_gp hG (c := 11) (k := 2) (a := p0) rfl rfl rfl rfl (fun v37 => ?_)
  refine kk_ob (fun b38 eb38 => ?_)
  subst eb38
  refine kk_cv hG 0 rfl rfl (Nat.le_of_ble_eq_true rfl) (by decide) rfl (st' := []) rfl (cats_le (Nat.le_of_ble_eq_true rfl)) (fun _ hw h k => kk_rcv h.1 (kc_By_endLine base sa hw h.2 k)) (fun sr39 cr39 dr39 => ?_)
  refine kk_ic hG rfl cc_i0 ?_
  refine kk_st hG (L' := [(2, .int (0 : Int32)), (0, va_rf (some p0)), (1, va_rf (some b5))]) rfl rfl (Nat.le_of_ble_eq_true rfl) rfl ?_
  exact kk_wl hG [1, 2, 0] rfl (b97 _ _ _ _)
def C_Rf_config_s61 (sa : Nat → Nat) (p0 : Nat) (a1 : Int32) (s : cS) (kc ks : Nat) (Q : (Int32 → cS → Nat → Nat → Prop)) (P61 : (Int32 → cS → Nat → Nat → Prop)) : Prop := ob (gI s 11 9 p0) (fun v1 => (if a1 < v1 then (ob (gP s 11 8 p0) (fun v12 => (ob v12 (fun b13 => (ob (rQ s b13 a1) (fun v14 => (okO s 11 p0 ∧ C_Rf_writeRouter sa p0 v14 s kc ks (fun sr15 cr15 dr15 => ((P61 (a1 + (1 : Int32)) sr15 cr15 dr15)))))))))) else ((ob (gP s 11 2 p0) (fun v2 => (ob v2 (fun b3 => (ob (gI s 0 1 b3) (fun v4 => (if (40000 : Int32) < v4 then (Q ((-1) : Int32) s kc ks) else (ob (gP s 11 1 p0) (fun v5 => (ob (gP s 11 2 p0) (fun v6 => (ob (pP s 11 1 p0 v6) (fun s7 => (ob (pP s7 11 2 p0 v5) (fun s8 => (ob (gP s8 11 1 p0) (fun v9 => (ob v9 (fun b10 => (ob (gI s8 0 1 b10) (fun v11 => (Q v11 s8 kc ks)))))))))))))))))))))))))
def C_Rf_config_b61 (sa : Nat → Nat) (p0 : Nat) (a1 : Int32) (s : cS) (kc ks : Nat) (Q : (Int32 → cS → Nat → Nat → Prop)) : Prop := ∀ P61 : (Int32 → cS → Nat → Nat → Prop), (∀ (a1 : Int32) (s : cS) (kc ks : Nat), C_Rf_config_s61 sa p0 a1 s kc ks Q P61 → P61 a1 s kc ks) → P61 a1 s kc ks
def C_Rf_config_s35 (sa : Nat → Nat) (p0 : Nat) (a1 : Int32) (s : cS) (kc ks : Nat) (Q : (Int32 → cS → Nat → Nat → Prop)) (P35 : (Int32 → cS → Nat → Nat → Prop)) : Prop := ob (gI s 11 11 p0) (fun v1 => (if a1 < v1 then (ob (gP s 11 10 p0) (fun v2 => (ob v2 (fun b3 => (ob (rQ s b3 a1) (fun v4 => (okO s 11 p0 ∧ C_Rf_writeList sa p0 v4 s kc ks (fun sr5 cr5 dr5 => ((P35 (a1 + (1 : Int32)) sr5 cr5 dr5)))))))))) else (((C_Rf_config_b61 sa p0 (0 : Int32) s kc ks Q)))))
def C_Rf_config_b35 (sa : Nat → Nat) (p0 : Nat) (a1 : Int32) (s : cS) (kc ks : Nat) (Q : (Int32 → cS → Nat → Nat → Prop)) : Prop := ∀ P35 : (Int32 → cS → Nat → Nat → Prop), (∀ (a1 : Int32) (s : cS) (kc ks : Nat), C_Rf_config_s35 sa p0 a1 s kc ks Q P35 → P35 a1 s kc ks) → P35 a1 s kc ks
def C_Rf_config_s9 (sa : Nat → Nat) (p0 : Nat) (a1 : Int32) (s : cS) (kc ks : Nat) (Q : (Int32 → cS → Nat → Nat → Prop)) (P9 : (Int32 → cS → Nat → Nat → Prop)) : Prop := ob (gI s 11 7 p0) (fun v1 => (if a1 < v1 then (ob (gP s 11 6 p0) (fun v2 => (ob v2 (fun b3 => (ob (rQ s b3 a1) (fun v4 => (okO s 11 p0 ∧ C_Rf_writeLink sa p0 v4 s kc ks (fun sr5 cr5 dr5 => ((P9 (a1 + (1 : Int32)) sr5 cr5 dr5)))))))))) else (((C_Rf_config_b35 sa p0 (0 : Int32) s kc ks Q)))))
def C_Rf_config_b9 (sa : Nat → Nat) (p0 : Nat) (a1 : Int32) (s : cS) (kc ks : Nat) (Q : (Int32 → cS → Nat → Nat → Prop)) : Prop := ∀ P9 : (Int32 → cS → Nat → Nat → Prop), (∀ (a1 : Int32) (s : cS) (kc ks : Nat), C_Rf_config_s9 sa p0 a1 s kc ks Q P9 → P9 a1 s kc ks) → P9 a1 s kc ks
def C_Rf_config (sa : Nat → Nat) (p0 : Nat) (s : cS) (kc ks : Nat) (Q : (Int32 → cS → Nat → Nat → Prop)) : Prop := ob (gP s 11 2 p0) (fun v1 => (ob v1 (fun b2 => (okO s 0 b2 ∧ C_By_clear sa b2 s kc ks (fun sr3 cr3 dr3 => ((C_Rf_config_b9 sa p0 (0 : Int32) sr3 cr3 dr3 Q)))))))
set_option maxRecDepth 100000 in
set_option maxHeartbeats 4000000 in
theorem kc_Rf_config (base : Nat) (sa : Nat → Nat) {R : pmM} {s : cS} {kc ks : Nat} {Rt : pmR} {p0 : Nat} {Q : (Int32 → cS → Nat → Nat → Prop)} (hw : cW sa R base s) (h : C_Rf_config sa p0 s kc ks Q) (k : ∀ r s' kc' ks', cW sa R base s' → Q r s' kc' ks' → Rt (some (.int r)) (cM R s') kc' ks') : kP_Rf_config base sa [.ref p0] (cM R s) kc ks Rt := by
  refine ⟨Nat.le_of_ble_eq_true rfl, fun G hG => ?_⟩
  have b61 : ∀ (a1 : Int32) (s : cS) (kc ks : Nat), KK sa R base G 61 [(0, va_rf (some p0)), (1, .int a1)] [] s kc ks (C_Rf_config_b61 sa p0 a1 s kc ks Q) := by
    have H : ∀ (P61 : (Int32 → cS → Nat → Nat → Prop)) (hP61 : ∀ (a1 : Int32) (s : cS) (kc ks : Nat), P61 a1 s kc ks → cW sa R base s → G 61 [(0, va_rf (some p0)), (1, .int a1)] [] (cM R s) kc ks) (a1 : Int32) (s : cS) (kc ks : Nat), KK sa R base G 61 [(0, va_rf (some p0)), (1, .int a1)] [] s kc ks (C_Rf_config_s61 sa p0 a1 s kc ks Q P61) := by
      intro P61 hP61
      intro a1 s kc ks
      refine kks hG rfl rfl ?_
      refine kk_aln hG (x := (some p0)) rfl rfl ?_
      refine kk_gi hG (c := 11) (k := 9) (a := p0) rfl rfl rfl rfl (fun v1 => ?_)
      refine kk_ige hG (t := 85) rfl rfl ?_ ?_
      · refine kk_aln hG (x := (some p0)) rfl rfl ?_
        refine kk_gp hG (c := 11) (k := 2) (a := p0) rfl rfl rfl rfl (fun v2 => ?_)
        refine kk_ob (fun b3 eb3 => ?_)
        subst eb3
        refine kk_gi hG (c := 0) (k := 1) (a := b3) rfl rfl rfl rfl (fun v4 => ?_)
        refine kk_ld hG (v := (40000 : Int32)) rfl rfl ?_
        refine kk_ile hG (t := 99) rfl rfl ?_ ?_
        · refine kk_aln hG (x := (some p0)) rfl rfl ?_
          refine kk_gp hG (c := 11) (k := 1) (a := p0) rfl rfl rfl rfl (fun v5 => ?_)
          refine kk_asn hG (x := v5) (L' := [(1, va_rf v5), (0, va_rf (some p0))]) rfl (Nat.le_of_ble_eq_true rfl) rfl ?_
          refine kk_aln hG (x := (some p0)) rfl rfl ?_
          refine kk_aln hG (x := (some p0)) rfl rfl ?_
          refine kk_gp hG (c := 11) (k := 2) (a := p0) rfl rfl rfl rfl (fun v6 => ?_)
          refine kk_pp hG (c := 11) (k := 1) (a := p0) (v := v6) rfl rfl rfl rfl rfl (fun s7 => ?_)
          refine kk_aln hG (x := (some p0)) rfl rfl ?_
          refine kk_aln hG (x := v5) rfl rfl ?_
          refine kk_pp hG (c := 11) (k := 2) (a := p0) (v := v5) rfl rfl rfl rfl rfl (fun s8 => ?_)
          refine kk_aln hG (x := (some p0)) rfl rfl ?_
          refine kk_gp hG (c := 11) (k := 1) (a := p0) rfl rfl rfl rfl (fun v9 => ?_)
          refine kk_ob (fun b10 eb10 => ?_)
          subst eb10
          refine kk_gi hG (c := 0) (k := 1) (a := b10) rfl rfl rfl rfl (fun v11 => ?_)
          exact kk_ri hG rfl rfl rfl k
        refine kk_ic hG rfl cc_im1 ?_
        exact kk_ri hG rfl rfl rfl k
      refine kk_aln hG (x := (some p0)) rfl rfl ?_
      refine kk_aln hG (x := (some p0)) rfl rfl ?_
      refine kk_gp hG (c := 11) (k := 8) (a := p0) rfl rfl rfl rfl (fun v12 => ?_)
      refine kks hG rfl rfl ?_
      refine kk_ob (fun b13 eb13 => ?_)
      subst eb13
      refine kk_aa hG (a := b13) rfl (fun v14 => ?_)
      refine kk_cv hG 0 rfl rfl (Nat.le_of_ble_eq_true rfl) (by decide) rfl (st' := []) rfl (cats_le (Nat.le_of_ble_eq_true rfl)) (fun _ hw h k => kk_rcv h.1 (kc_Rf_writeRouter base sa hw h.2 k)) (fun sr15 cr15 dr15 => ?_)
      refine kk_inc hG (L' := [(1, .int (a1 + (1 : Int32))), (0, va_rf (some p0))]) rfl (Nat.le_of_ble_eq_true rfl) rfl cc_i1 rfl ?_
      refine kk_go hG (t := 61) rfl rfl ?_
      exact kk_wl hG [1, 0] rfl (fun hw h => hP61 _ _ _ _ h hw)
    exact fun a1 s kc ks hw h => h (fun a1 s kc ks => cW sa R base s → G 61 [(0, va_rf (some p0)), (1, .int a1)] [] (cM R s) kc ks) (fun a1 s kc ks hs hw => H _ (fun _ _ _ _ hp hw => hp hw) a1 s kc ks hw hs) hw
  have b35 : ∀ (a1 : Int32) (s : cS) (kc ks : Nat), KK sa R base G 35 [(0, va_rf (some p0)), (1, .int a1)] [] s kc ks (C_Rf_config_b35 sa p0 a1 s kc ks Q) := by
    have H : ∀ (P35 : (Int32 → cS → Nat → Nat → Prop)) (hP35 : ∀ (a1 : Int32) (s : cS) (kc ks : Nat), P35 a1 s kc ks → cW sa R base s → G 35 [(0, va_rf (some p0)), (1, .int a1)] [] (cM R s) kc ks) (a1 : Int32) (s : cS) (kc ks : Nat), KK sa R base G 35 [(0, va_rf (some p0)), (1, .int a1)] [] s kc ks (C_Rf_config_s35 sa p0 a1 s kc ks Q P35) := by
      intro P35 hP35
      intro a1 s kc ks
      refine kks hG rfl rfl ?_
      refine kk_aln hG (x := (some p0)) rfl rfl ?_
      refine kk_gi hG (c := 11) (k := 11) (a := p0) rfl rfl rfl rfl (fun v1 => ?_)
      refine kk_ige hG (t := 59) rfl rfl ?_ ?_
      · refine kk_ic hG rfl cc_i0 ?_
        refine kk_st hG (L' := [(1, .int (0 : Int32)), (0, va_rf (some p0))]) rfl rfl (Nat.le_of_ble_eq_true rfl) rfl ?_
        exact kk_wl hG [1, 0] rfl (b61 _ _ _ _)
      refine kk_aln hG (x := (some p0)) rfl rfl ?_
      refine kk_aln hG (x := (some p0)) rfl rfl ?_
      refine kk_gp hG (c := 11) (k := 10) (a := p0) rfl rfl rfl rfl (fun v2 => ?_)
      refine kks hG rfl rfl ?_
      refine kk_ob (fun b3 eb3 => ?_)
      subst eb3
      refine kk_aa hG (a := b3) rfl (fun v4 => ?_)
      refine kk_cv hG 0 rfl rfl (Nat.le_of_ble_eq_true rfl) (by decide) rfl (st' := []) rfl (cats_le (Nat.le_of_ble_eq_true rfl)) (fun _ hw h k => kk_rcv h.1 (kc_Rf_writeList base sa hw h.2 k)) (fun sr5 cr5 dr5 => ?_)
      refine kk_inc hG (L' := [(1, .int (a1 + (1 : Int32))), (0, va_rf (some p0))]) rfl (Nat.le_of_ble_eq_true rfl) rfl cc_i1 rfl ?_
      refine kk_go hG (t := 35) rfl rfl ?_
      exact kk_wl hG [1, 0] rfl (fun hw h => hP35 _ _ _ _ h hw)
    exact fun a1 s kc ks hw h => h (fun a1 s kc ks => cW sa R base s → G 35 [(0, va_rf (some p0)), (1, .int a1)] [] (cM R s) kc ks) (fun a1 s kc ks hs hw => H _ (fun _ _ _ _ hp hw => hp hw) a1 s kc ks hw hs) hw
  have b9 : ∀ (a1 : Int32) (s : cS) (kc ks : Nat), KK sa R base G 9 [(0, va_rf (some p0)), (1, .int a1)] [] s kc ks (C_Rf_config_b9 sa p0 a1 s kc ks Q) := by
    have H : ∀ (P9 : (Int32 → cS → Nat → Nat → Prop)) (hP9 : ∀ (a1 : Int32) (s : cS) (kc ks : Nat), P9 a1 s kc ks → cW sa R base s → G 9 [(0, va_rf (some p0)), (1, .int a1)] [] (cM R s) kc ks) (a1 : Int32) (s : cS) (kc ks : Nat), KK sa R base G 9 [(0, va_rf (some p0)), (1, .int a1)] [] s kc ks (C_Rf_config_s9 sa p0 a1 s kc ks Q P9) := by
      intro P9 hP9
      intro a1 s kc ks
      refine kks hG rfl rfl ?_
      refine kk_aln hG (x := (some p0)) rfl rfl ?_
      refine kk_gi hG (c := 11) (k := 7) (a := p0) rfl rfl rfl rfl (fun v1 => ?_)
      refine kk_ige hG (t := 33) rfl rfl ?_ ?_
      · refine kk_ic hG rfl cc_i0 ?_
        refine kk_st hG (L' := [(1, .int (0 : Int32)), (0, va_rf (some p0))]) rfl rfl (Nat.le_of_ble_eq_true rfl) rfl ?_
        exact kk_wl hG [1, 0] rfl (b35 _ _ _ _)
      refine kk_aln hG (x := (some p0)) rfl rfl ?_
      refine kk_aln hG (x := (some p0)) rfl rfl ?_
      refine kk_gp hG (c := 11) (k := 6) (a := p0) rfl rfl rfl rfl (fun v2 => ?_)
      refine kks hG rfl rfl ?_
      refine kk_ob (fun b3 eb3 => ?_)
      subst eb3
      refine kk_aa hG (a := b3) rfl (fun v4 => ?_)
      refine kk_cv hG 0 rfl rfl (Nat.le_of_ble_eq_true rfl) (by decide) rfl (st' := []) rfl (cats_le (Nat.le_of_ble_eq_true rfl)) (fun _ hw h k => kk_rcv h.1 (kc_Rf_writeLink base sa hw h.2 k)) (fun sr5 cr5 dr5 => ?_)
      refine kk_inc hG (L' := [(1, .int (a1 + (1 : Int32))), (0, va_rf (some p0))]) rfl (Nat.le_of_ble_eq_true rfl) rfl cc_i1 rfl ?_
      refine kk_go hG (t := 9) rfl rfl ?_
      exact kk_wl hG [1, 0] rfl (fun hw h => hP9 _ _ _ _ h hw)
    exact fun a1 s kc ks hw h => h (fun a1 s kc ks => cW sa R base s → G 9 [(0, va_rf (some p0)), (1, .int a1)] [] (cM R s) kc ks) (fun a1 s kc ks hs hw => H _ (fun _ _ _ _ hp hw => hp hw) a1 s kc ks hw hs) hw
  refine (show KK sa R base G 0 [(0, va_rf (some p0))] [] s kc ks (C_Rf_config sa p0 s kc ks Q) from ?_) hw h
  refine kk_aln hG (x := (some p0)) rfl rfl ?_
  refine kk_gp hG (c := 11) (k := 2) (a := p0) rfl rfl rfl rfl (fun v1 => ?_)
  refine kk_ob (fun b2 eb2 => ?_)
  subst eb2
  refine kk_cv hG 0 rfl rfl (Nat.le_of_ble_eq_true rfl) (by decide) rfl (st' := []) rfl (cats_le (Nat.le_of_ble_eq_true rfl)) (fun _ hw h k => kk_rcv h.1 (kc_By_clear base sa hw h.2 k)) (fun sr3 cr3 dr3 => ?_)
  refine kk_ic hG rfl cc_i0 ?_
  refine kk_st hG (L' := [(1, .int (0 : Int32)), (0, va_rf (some p0))]) rfl rfl (Nat.le_of_ble_eq_true rfl) rfl ?_
  exact kk_wl hG [1, 0] rfl (b9 _ _ _ _)
