/-! Methods as weakest preconditions, by program: Re_hasOptions .. Li_init -/
def C_Re_hasOptions_b111 (sa : Nat → Nat) (p0 : Nat) (p2 : Option Nat) (p3 : Option Nat) (a4 : Int32) (s : cS) (kc ks : Nat) (Q : (Int32 → cS → Nat → Nat → Prop)) (P44 : (Int32 → cS → Nat → Nat → Prop)) : Prop := (P44 (a4 + (2 : Int32)) s kc ks)
def C_Re_hasOptions_b81 (sa : Nat → Nat) (p0 : Nat) (p2 : Option Nat) (p3 : Option Nat) (a4 : Int32) (s : cS) (kc ks : Nat) (Q : (Int32 → cS → Nat → Nat → Prop)) (P44 : (Int32 → cS → Nat → Nat → Prop)) : Prop := okO s 7 p0 ∧ C_Re_is sa p0 a4 p3 s kc ks (fun r1 sr1 cr1 dr1 => (if r1 = 0 then ((Q (0 : Int32) sr1 cr1 dr1)) else (ob (gI sr1 7 5 p0) (fun v2 => (if v2 = 0 then (ob (pI sr1 7 5 p0 (a4 + (1 : Int32))) (fun s3 => ((C_Re_hasOptions_b111 sa p0 p2 p3 a4 s3 cr1 dr1 Q P44)))) else ((Q (0 : Int32) sr1 cr1 dr1)))))))
def C_Re_hasOptions_s44 (sa : Nat → Nat) (p0 : Nat) (p2 : Option Nat) (p3 : Option Nat) (a4 : Int32) (s : cS) (kc ks : Nat) (Q : (Int32 → cS → Nat → Nat → Prop)) (P44 : (Int32 → cS → Nat → Nat → Prop)) : Prop := ob (gI s 7 3 p0) (fun v1 => (if a4 < v1 then (okO s 7 p0 ∧ C_Re_is sa p0 a4 p2 s kc ks (fun r2 sr2 cr2 dr2 => (if r2 = 0 then ((C_Re_hasOptions_b81 sa p0 p2 p3 a4 sr2 cr2 dr2 Q P44)) else (ob (gI sr2 7 4 p0) (fun v3 => (if v3 = 0 then (ob (pI sr2 7 4 p0 (a4 + (1 : Int32))) (fun s4 => ((C_Re_hasOptions_b111 sa p0 p2 p3 a4 s4 cr2 dr2 Q P44)))) else ((C_Re_hasOptions_b81 sa p0 p2 p3 a4 sr2 cr2 dr2 Q P44)))))))) else ((Q (1 : Int32) s kc ks))))
def C_Re_hasOptions_b44 (sa : Nat → Nat) (p0 : Nat) (p2 : Option Nat) (p3 : Option Nat) (a4 : Int32) (s : cS) (kc ks : Nat) (Q : (Int32 → cS → Nat → Nat → Prop)) : Prop := ∀ P44 : (Int32 → cS → Nat → Nat → Prop), (∀ (a4 : Int32) (s : cS) (kc ks : Nat), C_Re_hasOptions_s44 sa p0 p2 p3 a4 s kc ks Q P44 → P44 a4 s kc ks) → P44 a4 s kc ks
def C_Re_hasOptions (sa : Nat → Nat) (p0 : Nat) (p1 : Int32) (p2 : Option Nat) (p3 : Option Nat) (s : cS) (kc ks : Nat) (Q : (Int32 → cS → Nat → Nat → Prop)) : Prop := ob (pI s 7 4 p0 (0 : Int32)) (fun s1 => (ob (pI s1 7 5 p0 (0 : Int32)) (fun s2 => (ob (gI s2 7 3 p0) (fun v3 => (if v3 < p1 then (Q (0 : Int32) s2 kc ks) else (ob (gI s2 7 3 p0) (fun v4 => (if (p1 + (4 : Int32)) < v4 then (Q (0 : Int32) s2 kc ks) else (ob (gI s2 7 3 p0) (fun v5 => (if (rem_I (v5 - p1) (2 : Int32)) = 0 then ((C_Re_hasOptions_b44 sa p0 p2 p3 p1 s2 kc ks Q)) else (Q (0 : Int32) s2 kc ks)))))))))))))
set_option maxRecDepth 100000 in
set_option maxHeartbeats 4000000 in
theorem kc_Re_hasOptions (base : Nat) (sa : Nat → Nat) {R : pmM} {s : cS} {kc ks : Nat} {Rt : pmR} {p0 : Nat} {p1 : Int32} {p2 : Option Nat} {p3 : Option Nat} {Q : (Int32 → cS → Nat → Nat → Prop)} (hw : cW sa R base s) (h : C_Re_hasOptions sa p0 p1 p2 p3 s kc ks Q) (k : ∀ r s' kc' ks', cW sa R base s' → Q r s' kc' ks' → Rt (some (.int r)) (cM R s') kc' ks') : kP_Re_hasOptions base sa [.ref p0, .int p1, va_rf p2, va_rf p3] (cM R s) kc ks Rt := by
  refine ⟨by cases p2 <;> cases p3 <;> exact Nat.le_of_ble_eq_true rfl, fun G hG => ?_⟩
  have eL : lv_args 0 [.ref p0, .int p1, va_rf p2, va_rf p3] = [(0, va_rf (some p0)), (1, .int p1), (2, va_rf p2), (3, va_rf p3)] := by cases p2 <;> cases p3 <;> rfl
  rw [eL]
  have b44 : ∀ (a4 : Int32) (s : cS) (kc ks : Nat), KK sa R base G 44 [(0, va_rf (some p0)), (2, va_rf p2), (3, va_rf p3), (4, .int a4)] [] s kc ks (C_Re_hasOptions_b44 sa p0 p2 p3 a4 s kc ks Q) := by
    have H : ∀ (P44 : (Int32 → cS → Nat → Nat → Prop)) (hP44 : ∀ (a4 : Int32) (s : cS) (kc ks : Nat), P44 a4 s kc ks → cW sa R base s → G 44 [(0, va_rf (some p0)), (2, va_rf p2), (3, va_rf p3), (4, .int a4)] [] (cM R s) kc ks) (a4 : Int32) (s : cS) (kc ks : Nat), KK sa R base G 44 [(0, va_rf (some p0)), (2, va_rf p2), (3, va_rf p3), (4, .int a4)] [] s kc ks (C_Re_hasOptions_s44 sa p0 p2 p3 a4 s kc ks Q P44) := by
      intro P44 hP44
      have b111 : ∀ (a4 : Int32) (s : cS) (kc ks : Nat), KK sa R base G 111 [(0, va_rf (some p0)), (2, va_rf p2), (3, va_rf p3), (4, .int a4)] [] s kc ks (C_Re_hasOptions_b111 sa p0 p2 p3 a4 s kc ks Q P44) := by
        intro a4 s kc ks
        refine kk_inc hG (L' := [(4, .int (a4 + (2 : Int32))), (0, va_rf (some p0)), (2, va_rf p2), (3, va_rf p3)]) rfl (Nat.le_of_ble_eq_true rfl) rfl cc_i2 (by cases p3 <;> rfl) ?_
        refine kk_go hG (t := 44) rfl rfl ?_
        exact kk_wl hG [1, 2, 3, 0] rfl (fun hw h => hP44 _ _ _ _ h hw)
      have b81 : ∀ (a4 : Int32) (s : cS) (kc ks : Nat), KK sa R base G 81 [(0, va_rf (some p0)), (2, va_rf p2), (3, va_rf p3), (4, .int a4)] [] s kc ks (C_Re_hasOptions_b81 sa p0 p2 p3 a4 s kc ks Q P44) := by
        intro a4 s kc ks
        refine kk_aln hG (x := (some p0)) rfl rfl ?_
        refine kks hG rfl rfl ?_
        refine kk_aln hG (x := p3) rfl rfl ?_
        refine kk_cx (w := .int) hG 0 rfl rfl (Nat.le_of_ble_eq_true rfl) (by decide) rfl (st' := []) rfl (cats_le (Nat.le_of_ble_eq_true rfl)) (fun _ hw h k => kk_rcv h.1 (kc_Re_is base sa hw h.2 k)) (fun r1 sr1 cr1 dr1 => ?_)
        refine kk_zeq hG (t := 109) rfl rfl ?_ ?_
        · refine kk_ic hG rfl cc_i0 ?_
          exact kk_ri hG rfl rfl rfl k
        refine kk_aln hG (x := (some p0)) rfl rfl ?_
        refine kk_gi hG (c := 7) (k := 5) (a := p0) rfl rfl rfl rfl (fun v2 => ?_)
        refine kk_zne hG (t := 109) rfl rfl ?_ ?_
        · refine kk_ic hG rfl cc_i0 ?_
          exact kk_ri hG rfl rfl rfl k
        refine kk_aln hG (x := (some p0)) rfl rfl ?_
        refine kks hG rfl rfl ?_
        refine kk_ic hG rfl cc_i1 ?_
        refine kks hG rfl rfl ?_
        refine kk_pi hG (c := 7) (k := 5) (a := p0) rfl rfl rfl rfl (fun s3 => ?_)
        refine kk_go hG (t := 111) rfl rfl ?_
        exact kk_wl hG [0, 1, 2, 3] rfl (b111 _ _ _ _)
      intro a4 s kc ks
      refine kks hG rfl rfl ?_
      refine kk_aln hG (x := (some p0)) rfl rfl ?_
      refine kk_gi hG (c := 7) (k := 3) (a := p0) rfl rfl rfl rfl (fun v1 => ?_)
      refine kk_ige hG (t := 117) rfl rfl ?_ ?_
      · refine kk_ic hG rfl cc_i1 ?_
        exact kk_ri hG rfl rfl rfl k
      refine kk_aln hG (x := (some p0)) rfl rfl ?_
      refine kks hG rfl rfl ?_
      refine kk_aln hG (x := p2) rfl rfl ?_
      refine kk_cx (w := .int) hG 0 rfl rfl (Nat.le_of_ble_eq_true rfl) (by decide) rfl (st' := []) rfl (cats_le (Nat.le_of_ble_eq_true rfl)) (fun _ hw h k => kk_rcv h.1 (kc_Re_is base sa hw h.2 k)) (fun r2 sr2 cr2 dr2 => ?_)
      refine kk_zeq hG (t := 81) rfl rfl ?_ ?_
      · exact kk_wl hG [0, 1, 2, 3] rfl (b81 _ _ _ _)
      refine kk_aln hG (x := (some p0)) rfl rfl ?_
      refine kk_gi hG (c := 7) (k := 4) (a := p0) rfl rfl rfl rfl (fun v3 => ?_)
      refine kk_zne hG (t := 81) rfl rfl ?_ ?_
      · exact kk_wl hG [0, 1, 2, 3] rfl (b81 _ _ _ _)
      refine kk_aln hG (x := (some p0)) rfl rfl ?_
      refine kks hG rfl rfl ?_
      refine kk_ic hG rfl cc_i1 ?_
      refine kks hG rfl rfl ?_
      refine kk_pi hG (c := 7) (k := 4) (a := p0) rfl rfl rfl rfl (fun s4 => ?_)
      refine kk_go hG (t := 111) rfl rfl ?_
      exact kk_wl hG [0, 1, 2, 3] rfl (b111 _ _ _ _)
    exact fun a4 s kc ks hw h => h (fun a4 s kc ks => cW sa R base s → G 44 [(0, va_rf (some p0)), (2, va_rf p2), (3, va_rf p3), (4, .int a4)] [] (cM R s) kc ks) (fun a4 s kc ks hs hw => H _ (fun _ _ _ _ hp hw => hp hw) a4 s kc ks hw hs) hw
  refine (show KK sa R base G 0 [(0, va_rf (some p0)), (1, .int p1), (2, va_rf p2), (3, va_rf p3)] [] s kc ks (C_Re_hasOptions sa p0 p1 p2 p3 s kc ks Q) from ?_) hw h
  refine kk_aln hG (x := (some p0)) rfl rfl ?_
  refine kk_ic hG rfl cc_i0 ?_
  refine kk_pi hG (c := 7) (k := 4) (a := p0) rfl rfl rfl rfl (fun s1 => ?_)
  refine kk_aln hG (x := (some p0)) rfl rfl ?_
  refine kk_ic hG rfl cc_i0 ?_
  refine kk_pi hG (c := 7) (k := 5) (a := p0) rfl rfl rfl rfl (fun s2 => ?_)
  refine kk_aln hG (x := (some p0)) rfl rfl ?_
  refine kk_gi hG (c := 7) (k := 3) (a := p0) rfl rfl rfl rfl (fun v3 => ?_)
  refine kks hG rfl rfl ?_
  refine kk_ilt hG (t := 39) rfl rfl ?_ ?_
  · refine kk_ic hG rfl cc_i0 ?_
    exact kk_ri hG rfl rfl rfl k
  refine kk_aln hG (x := (some p0)) rfl rfl ?_
  refine kk_gi hG (c := 7) (k := 3) (a := p0) rfl rfl rfl rfl (fun v4 => ?_)
  refine kks hG rfl rfl ?_
  refine kk_ic hG rfl cc_i4 ?_
  refine kks hG rfl rfl ?_
  refine kk_igt hG (t := 39) rfl rfl ?_ ?_
  · refine kk_ic hG rfl cc_i0 ?_
    exact kk_ri hG rfl rfl rfl k
  refine kk_aln hG (x := (some p0)) rfl rfl ?_
  refine kk_gi hG (c := 7) (k := 3) (a := p0) rfl rfl rfl rfl (fun v5 => ?_)
  refine kks hG rfl rfl ?_
  refine kks hG rfl rfl ?_
  refine kk_ic hG rfl cc_i2 ?_
  refine kkc hG rfl rfl (by decide) ?_
  refine kk_zeq hG (t := 41) rfl rfl ?_ ?_
  · refine kks hG rfl rfl ?_
    refine kk_st hG (L' := [(4, .int p1), (0, va_rf (some p0)), (1, .int p1), (2, va_rf p2), (3, va_rf p3)]) rfl rfl (Nat.le_of_ble_eq_true rfl) (by cases p3 <;> rfl) ?_
    exact kk_wl hG [1, 3, 4, 0] rfl (b44 _ _ _ _)
  refine kk_ic hG rfl cc_i0 ?_
  exact kk_ri hG rfl rfl rfl k
def C_Re_isName_b83 (sa : Nat → Nat) (p0 : Nat) (p1 : Int32) (a2 : Int32) (s : cS) (kc ks : Nat) (Q : (Int32 → cS → Nat → Nat → Prop)) (P35 : (Int32 → cS → Nat → Nat → Prop)) : Prop := (P35 (a2 + (1 : Int32)) s kc ks)
def C_Re_isName_b69 (sa : Nat → Nat) (p0 : Nat) (p1 : Int32) (a2 : Int32) (a3 : Int32) (s : cS) (kc ks : Nat) (Q : (Int32 → cS → Nat → Nat → Prop)) (P35 : (Int32 → cS → Nat → Nat → Prop)) : Prop := if a3 < (48 : Int32) then ((Q (0 : Int32) s kc ks)) else (if (57 : Int32) < a3 then ((Q (0 : Int32) s kc ks)) else ((C_Re_isName_b83 sa p0 p1 a2 s kc ks Q P35)))
def C_Re_isName_s35 (sa : Nat → Nat) (p0 : Nat) (p1 : Int32) (a2 : Int32) (s : cS) (kc ks : Nat) (Q : (Int32 → cS → Nat → Nat → Prop)) (P35 : (Int32 → cS → Nat → Nat → Prop)) : Prop := ob (gP s 7 2 p0) (fun v1 => (ob v1 (fun b2 => (ob (rE s .int b2 p1) (fun v3 => (if a2 < v3 then (ob (gP s 7 0 p0) (fun v4 => (ob v4 (fun b5 => (ob (gP s 11 0 b5) (fun v6 => (ob v6 (fun b7 => (okO s 0 b7 ∧ C_By_at sa b7 a2 s kc ks (fun r8 sr8 cr8 dr8 => (if r8 < (97 : Int32) then ((C_Re_isName_b69 sa p0 p1 a2 r8 sr8 cr8 dr8 Q P35)) else (if (122 : Int32) < r8 then ((C_Re_isName_b69 sa p0 p1 a2 r8 sr8 cr8 dr8 Q P35)) else ((C_Re_isName_b83 sa p0 p1 a2 sr8 cr8 dr8 Q P35)))))))))))))) else ((Q (1 : Int32) s kc ks))))))))
def C_Re_isName_b35 (sa : Nat → Nat) (p0 : Nat) (p1 : Int32) (a2 : Int32) (s : cS) (kc ks : Nat) (Q : (Int32 → cS → Nat → Nat → Prop)) : Prop := ∀ P35 : (Int32 → cS → Nat → Nat → Prop), (∀ (a2 : Int32) (s : cS) (kc ks : Nat), C_Re_isName_s35 sa p0 p1 a2 s kc ks Q P35 → P35 a2 s kc ks) → P35 a2 s kc ks
def C_Re_isName (sa : Nat → Nat) (p0 : Nat) (p1 : Int32) (s : cS) (kc ks : Nat) (Q : (Int32 → cS → Nat → Nat → Prop)) : Prop := okO s 7 p0 ∧ C_Re_isWord sa p0 p1 s kc ks (fun r1 sr1 cr1 dr1 => (if r1 = 0 then (Q (0 : Int32) sr1 cr1 dr1) else (ob (gP sr1 7 2 p0) (fun v2 => (ob v2 (fun b3 => (ob (rE sr1 .int b3 p1) (fun v4 => (ob (gP sr1 7 1 p0) (fun v5 => (ob v5 (fun b6 => (ob (rE sr1 .int b6 p1) (fun v7 => (if (12 : Int32) < (v4 - v7) then (Q (0 : Int32) sr1 cr1 dr1) else (ob (gP sr1 7 1 p0) (fun v8 => (ob v8 (fun b9 => (ob (rE sr1 .int b9 p1) (fun v10 => ((C_Re_isName_b35 sa p0 p1 v10 sr1 cr1 dr1 Q)))))))))))))))))))))))
set_option maxRecDepth 100000 in
set_option maxHeartbeats 4000000 in
theorem kc_Re_isName (base : Nat) (sa : Nat → Nat) {R : pmM} {s : cS} {kc ks : Nat} {Rt : pmR} {p0 : Nat} {p1 : Int32} {Q : (Int32 → cS → Nat → Nat → Prop)} (hw : cW sa R base s) (h : C_Re_isName sa p0 p1 s kc ks Q) (k : ∀ r s' kc' ks', cW sa R base s' → Q r s' kc' ks' → Rt (some (.int r)) (cM R s') kc' ks') : kP_Re_isName base sa [.ref p0, .int p1] (cM R s) kc ks Rt := by
  refine ⟨Nat.le_of_ble_eq_true rfl, fun G hG => ?_⟩
  have b35 : ∀ (a2 : Int32) (s : cS) (kc ks : Nat), KK sa R base G 35 [(0, va_rf (some p0)), (1, .int p1), (2, .int a2)] [] s kc ks (C_Re_isName_b35 sa p0 p1 a2 s kc ks Q) := by
    have H : ∀ (P35 : (Int32 → cS → Nat → Nat → Prop)) (hP35 : ∀ (a2 : Int32) (s : cS) (kc ks : Nat), P35 a2 s kc ks → cW sa R base s → G 35 [(0, va_rf (some p0)), (1, .int p1), (2, .int a2)] [] (cM R s) kc ks) (a2 : Int32) (s : cS) (kc ks : Nat), KK sa R base G 35 [(0, va_rf (some p0)), (1, .int p1), (2, .int a2)] [] s kc ks (C_Re_isName_s35 sa p0 p1 a2 s kc ks Q P35) := by
      intro P35 hP35
      have b83 : ∀ (a2 : Int32) (s : cS) (kc ks : Nat), KK sa R base G 83 [(0, va_rf (some p0)), (1, .int p1), (2, .int a2)] [] s kc ks (C_Re_isName_b83 sa p0 p1 a2 s kc ks Q P35) := by
        intro a2 s kc ks
        refine kk_inc hG (L' := [(2, .int (a2 + (1 : Int32))), (0, va_rf (some p0)), (1, .int p1)]) rfl (Nat.le_of_ble_eq_true rfl) rfl cc_i1 rfl ?_
        refine kk_go hG (t := 35) rfl rfl ?_
        exact kk_wl hG [1, 2, 0] rfl (fun hw h => hP35 _ _ _ _ h hw)
      have b69 : ∀ (a2 : Int32) (a3 : Int32) (s : cS) (kc ks : Nat), KK sa R base G 69 [(0, va_rf (some p0)), (1, .int p1), (2, .int a2), (3, .int a3)] [] s kc ks (C_Re_isName_b69 sa p0 p1 a2 a3 s kc ks Q P35) := by
        intro a2 a3 s kc ks
        refine kks hG rfl rfl ?_
        refine kk_bi hG rfl cc_b48 ?_
        refine kk_ilt hG (t := 81) rfl rfl ?_ ?_
        · refine kk_ic hG rfl cc_i0 ?_
          exact kk_ri hG rfl rfl rfl k
        refine kks hG rfl rfl ?_
        refine kk_bi hG rfl cc_b57 ?_
        refine kk_ile hG (t := 83) rfl rfl ?_ ?_
        · exact kk_wl hG [0, 1, 2] rfl (b83 _ _ _ _)
        refine kk_ic hG rfl cc_i0 ?_
        exact kk_ri hG rfl rfl rfl k
      intro a2 s kc ks
      refine kks hG rfl rfl ?_
      refine kk_aln hG (x := (some p0)) rfl rfl ?_
      refine kk_gp hG (c := 7) (k := 2) (a := p0) rfl rfl rfl rfl (fun v1 => ?_)
      refine kks hG rfl rfl ?_
      refine kk_ob (fun b2 eb2 => ?_)
      subst eb2
      refine kk_ia hG (a := b2) rfl (fun v3 => ?_)
      refine kk_ige hG (t := 89) rfl rfl ?_ ?_
      · refine kk_ic hG rfl cc_i1 ?_
        exact kk_ri hG rfl rfl rfl k
      refine kk_aln hG (x := (some p0)) rfl rfl ?_
      refine kk_gp hG (c := 7) (k := 0) (a := p0) rfl rfl rfl rfl (fun v4 => ?_)
      refine kk_ob (fun b5 eb5 => ?_)
      subst eb5
      refine kk_gp hG (c := 11) (k := 0) (a := b5) rfl rfl rfl rfl (fun v6 => ?_)
      refine kks hG rfl rfl ?_
      refine kk_ob (fun b7 eb7 => ?_)
      subst eb7
      refine kk_cx (w := .int) hG 0 rfl rfl (Nat.le_of_ble_eq_true rfl) (by decide) rfl (st' := []) rfl (cats_le (Nat.le_of_ble_eq_true rfl)) (fun _ hw h k => kk_rcv h.1 (kc_By_at base sa hw h.2 k)) (fun r8 sr8 cr8 dr8 => ?_)
      refine kk_st hG (L' := [(3, .int r8), (0, va_rf (some p0)), (1, .int p1), (2, .int a2)]) rfl rfl (Nat.le_of_ble_eq_true rfl) rfl ?_
      refine kks hG rfl rfl ?_
      refine kk_bi hG rfl cc_b97 ?_
      refine kk_ilt hG (t := 69) rfl rfl ?_ ?_
      · exact kk_wl hG [1, 2, 3, 0] rfl (b69 _ _ _ _ _)
      refine kks hG rfl rfl ?_
      refine kk_bi hG rfl cc_b122 ?_
      refine kk_ile hG (t := 83) rfl rfl ?_ ?_
      · exact kk_wl hG [1, 2, 3] rfl (b83 _ _ _ _)
      exact kk_wl hG [1, 2, 3, 0] rfl (b69 _ _ _ _ _)
    exact fun a2 s kc ks hw h => h (fun a2 s kc ks => cW sa R base s → G 35 [(0, va_rf (some p0)), (1, .int p1), (2, .int a2)] [] (cM R s) kc ks) (fun a2 s kc ks hs hw => H _ (fun _ _ _ _ hp hw => hp hw) a2 s kc ks hw hs) hw
  refine (show KK sa R base G 0 [(0, va_rf (some p0)), (1, .int p1)] [] s kc ks (C_Re_isName sa p0 p1 s kc ks Q) from ?_) hw h
  refine kk_aln hG (x := (some p0)) rfl rfl ?_
  refine kks hG rfl rfl ?_
  refine kk_cx (w := .int) hG 0 rfl rfl (Nat.le_of_ble_eq_true rfl) (by decide) rfl (st' := []) rfl (cats_le (Nat.le_of_ble_eq_true rfl)) (fun _ hw h k => kk_rcv h.1 (kc_Re_isWord base sa hw h.2 k)) (fun r1 sr1 cr1 dr1 => ?_)
  refine kk_zeq hG (t := 26) rfl rfl ?_ ?_
  · refine kk_ic hG rfl cc_i0 ?_
    exact kk_ri hG rfl rfl rfl k
  refine kk_aln hG (x := (some p0)) rfl rfl ?_
  refine kk_gp hG (c := 7) (k := 2) (a := p0) rfl rfl rfl rfl (fun v2 => ?_)
  refine kks hG rfl rfl ?_
  refine kk_ob (fun b3 eb3 => ?_)
  subst eb3
  refine kk_ia hG (a := b3) rfl (fun v4 => ?_)
  refine kk_aln hG (x := (some p0)) rfl rfl ?_
  refine kk_gp hG (c := 7) (k := 1) (a := p0) rfl rfl rfl rfl (fun v5 => ?_)
  refine kks hG rfl rfl ?_
  refine kk_ob (fun b6 eb6 => ?_)
  subst eb6
  refine kk_ia hG (a := b6) rfl (fun v7 => ?_)
  refine kks hG rfl rfl ?_
  refine kk_bi hG rfl cc_b12 ?_
  refine kk_ile hG (t := 28) rfl rfl ?_ ?_
  · refine kk_aln hG (x := (some p0)) rfl rfl ?_
    refine kk_gp hG (c := 7) (k := 1) (a := p0) rfl rfl rfl rfl (fun v8 => ?_)
    refine kks hG rfl rfl ?_
    refine kk_ob (fun b9 eb9 => ?_)
    subst eb9
    refine kk_ia hG (a := b9) rfl (fun v10 => ?_)
    refine kk_st hG (L' := [(2, .int v10), (0, va_rf (some p0)), (1, .int p1)]) rfl rfl (Nat.le_of_ble_eq_true rfl) rfl ?_
    exact kk_wl hG [1, 2, 0] rfl (b35 _ _ _ _)
  refine kk_ic hG rfl cc_i0 ?_
  exact kk_ri hG rfl rfl rfl k
def C_Re_linkNamed_s2 (sa : Nat → Nat) (p0 : Nat) (p1 : Int32) (a2 : Int32) (s : cS) (kc ks : Nat) (Q : (Int32 → cS → Nat → Nat → Prop)) (P2 : (Int32 → cS → Nat → Nat → Prop)) : Prop := ob (gP s 7 0 p0) (fun v1 => (ob v1 (fun b2 => (ob (gI s 11 7 b2) (fun v3 => (if a2 < v3 then (ob (gP s 7 0 p0) (fun v4 => (ob v4 (fun b5 => (ob (gP s 11 6 b5) (fun v6 => (ob v6 (fun b7 => (ob (rQ s b7 a2) (fun v8 => (ob v8 (fun b9 => (ob (gP s 3 0 b9) (fun v10 => (okO s 7 p0 ∧ C_Re_is sa p0 p1 v10 s kc ks (fun r11 sr11 cr11 dr11 => (if r11 = 0 then ((P2 (a2 + (1 : Int32)) sr11 cr11 dr11)) else ((Q a2 sr11 cr11 dr11))))))))))))))))))) else ((Q ((-1) : Int32) s kc ks))))))))
def C_Re_linkNamed_b2 (sa : Nat → Nat) (p0 : Nat) (p1 : Int32) (a2 : Int32) (s : cS) (kc ks : Nat) (Q : (Int32 → cS → Nat → Nat → Prop)) : Prop := ∀ P2 : (Int32 → cS → Nat → Nat → Prop), (∀ (a2 : Int32) (s : cS) (kc ks : Nat), C_Re_linkNamed_s2 sa p0 p1 a2 s kc ks Q P2 → P2 a2 s kc ks) → P2 a2 s kc ks
def C_Re_linkNamed (sa : Nat → Nat) (p0 : Nat) (p1 : Int32) (s : cS) (kc ks : Nat) (Q : (Int32 → cS → Nat → Nat → Prop)) : Prop := (C_Re_linkNamed_b2 sa p0 p1 (0 : Int32) s kc ks Q)
set_option maxRecDepth 100000 in
set_option maxHeartbeats 4000000 in
theorem kc_Re_linkNamed (base : Nat) (sa : Nat → Nat) {R : pmM} {s : cS} {kc ks : Nat} {Rt : pmR} {p0 : Nat} {p1 : Int32} {Q : (Int32 → cS → Nat → Nat → Prop)} (hw : cW sa R base s) (h : C_Re_linkNamed sa p0 p1 s kc ks Q) (k : ∀ r s' kc' ks', cW sa R base s' → Q r s' kc' ks' → Rt (some (.int r)) (cM R s') kc' ks') : kP_Re_linkNamed base sa [.ref p0, .int p1] (cM R s) kc ks Rt := by
  refine ⟨Nat.le_of_ble_eq_true rfl, fun G hG => ?_⟩
  have b2 : ∀ (a2 : Int32) (s : cS) (kc ks : Nat), KK sa R base G 2 [(0, va_rf (some p0)), (1, .int p1), (2, .int a2)] [] s kc ks (C_Re_linkNamed_b2 sa p0 p1 a2 s kc ks Q) := by
    have H : ∀ (P2 : (Int32 → cS → Nat → Nat → Prop)) (hP2 : ∀ (a2 : Int32) (s : cS) (kc ks : Nat), P2 a2 s kc ks → cW sa R base s → G 2 [(0, va_rf (some p0)), (1, .int p1), (2, .int a2)] [] (cM R s) kc ks) (a2 : Int32) (s : cS) (kc ks : Nat), KK sa R base G 2 [(0, va_rf (some p0)), (1, .int p1), (2, .int a2)] [] s kc ks (C_Re_linkNamed_s2 sa p0 p1 a2 s kc ks Q P2) := by
      intro P2 hP2
      intro a2 s kc ks
      refine kks hG rfl rfl ?_
      refine kk_aln hG (x := (some p0)) rfl rfl ?_
      refine kk_gp hG (c := 7) (k := 0) (a := p0) rfl rfl rfl rfl (fun v1 => ?_)
      refine kk_ob (fun b2 eb2 => ?_)
      subst eb2
      refine kk_gi hG (c := 11) (k := 7) (a := b2) rfl rfl rfl rfl (fun v3 => ?_)
      refine kk_ige hG (t := 41) rfl rfl ?_ ?_
      · refine kk_ic hG rfl cc_im1 ?_
        exact kk_ri hG rfl rfl rfl k
      refine kk_aln hG (x := (some p0)) rfl rfl ?_
      refine kks hG rfl rfl ?_
      refine kk_aln hG (x := (some p0)) rfl rfl ?_
      refine kk_gp hG (c := 7) (k := 0) (a := p0) rfl rfl rfl rfl (fun v4 => ?_)
      refine kk_ob (fun b5 eb5 => ?_)
      subst eb5
      refine kk_gp hG (c := 11) (k := 6) (a := b5) rfl rfl rfl rfl (fun v6 => ?_)
      refine kks hG rfl rfl ?_
      refine kk_ob (fun b7 eb7 => ?_)
      subst eb7
      refine kk_aa hG (a := b7) rfl (fun v8 => ?_)
      refine kk_ob (fun b9 eb9 => ?_)
      subst eb9
      refine kk_gp hG (c := 3) (k := 0) (a := b9) rfl rfl rfl rfl (fun v10 => ?_)
      refine kk_cx (w := .int) hG 0 rfl rfl (Nat.le_of_ble_eq_true rfl) (by decide) rfl (st' := []) rfl (cats_le (Nat.le_of_ble_eq_true rfl)) (fun _ hw h k => kk_rcv h.1 (kc_Re_is base sa hw h.2 k)) (fun r11 sr11 cr11 dr11 => ?_)
      refine kk_zeq hG (t := 35) rfl rfl ?_ ?_
      · refine kk_inc hG (L' := [(2, .int (a2 + (1 : Int32))), (0, va_rf (some p0)), (1, .int p1)]) rfl (Nat.le_of_ble_eq_true rfl) rfl cc_i1 rfl ?_
        refine kk_go hG (t := 2) rfl rfl ?_
        exact kk_wl hG [1, 2, 0] rfl (fun hw h => hP2 _ _ _ _ h hw)
      refine kks hG rfl rfl ?_
      exact kk_ri hG rfl rfl rfl k
    exact fun a2 s kc ks hw h => h (fun a2 s kc ks => cW sa R base s → G 2 [(0, va_rf (some p0)), (1, .int p1), (2, .int a2)] [] (cM R s) kc ks) (fun a2 s kc ks hs hw => H _ (fun _ _ _ _ hp hw => hp hw) a2 s kc ks hw hs) hw
  refine (show KK sa R base G 0 [(0, va_rf (some p0)), (1, .int p1)] [] s kc ks (C_Re_linkNamed sa p0 p1 s kc ks Q) from ?_) hw h
  refine kk_ic hG rfl cc_i0 ?_
  refine kk_st hG (L' := [(2, .int (0 : Int32)), (0, va_rf (some p0)), (1, .int p1)]) rfl rfl (Nat.le_of_ble_eq_true rfl) rfl ?_
  exact kk_wl hG [1, 2, 0] rfl (b2 _ _ _ _)
def C_Re_number_s39 (sa : Nat → Nat) (p0 : Nat) (p1 : Int32) (p2 : Int32) (p3 : Int32) (a4 : Int32) (a5 : Int32) (s : cS) (kc ks : Nat) (Q : (Int32 → cS → Nat → Nat → Prop)) (P39 : (Int32 → Int32 → cS → Nat → Nat → Prop)) : Prop := ob (gP s 7 2 p0) (fun v1 => (ob v1 (fun b2 => (ob (rE s .int b2 p1) (fun v3 => (if a5 < v3 then (ob (gP s 7 0 p0) (fun v4 => (ob v4 (fun b5 => (ob (gP s 11 0 b5) (fun v6 => (ob v6 (fun b7 => (okO s 0 b7 ∧ C_By_at sa b7 a5 s kc ks (fun r8 sr8 cr8 dr8 => (if (r8 - (48 : Int32)) < 0 then ((Q ((-1) : Int32) sr8 cr8 dr8)) else (if (9 : Int32) < (r8 - (48 : Int32)) then ((Q ((-1) : Int32) sr8 cr8 dr8)) else ((P39 ((a4 * (10 : Int32)) + (r8 - (48 : Int32))) (a5 + (1 : Int32)) sr8 cr8 dr8)))))))))))))) else ((if a4 < p2 then (Q ((-1) : Int32) s kc ks) else (if p3 < a4 then (Q ((-1) : Int32) s kc ks) else (Q a4 s kc ks))))))))))
def C_Re_number_b39 (sa : Nat → Nat) (p0 : Nat) (p1 : Int32) (p2 : Int32) (p3 : Int32) (a4 : Int32) (a5 : Int32) (s : cS) (kc ks : Nat) (Q : (Int32 → cS → Nat → Nat → Prop)) : Prop := ∀ P39 : (Int32 → Int32 → cS → Nat → Nat → Prop), (∀ (a4 : Int32) (a5 : Int32) (s : cS) (kc ks : Nat), C_Re_number_s39 sa p0 p1 p2 p3 a4 a5 s kc ks Q P39 → P39 a4 a5 s kc ks) → P39 a4 a5 s kc ks
def C_Re_number (sa : Nat → Nat) (p0 : Nat) (p1 : Int32) (p2 : Int32) (p3 : Int32) (s : cS) (kc ks : Nat) (Q : (Int32 → cS → Nat → Nat → Prop)) : Prop := okO s 7 p0 ∧ C_Re_isWord sa p0 p1 s kc ks (fun r1 sr1 cr1 dr1 => (if r1 = 0 then (Q ((-1) : Int32) sr1 cr1 dr1) else (ob (gP sr1 7 2 p0) (fun v2 => (ob v2 (fun b3 => (ob (rE sr1 .int b3 p1) (fun v4 => (ob (gP sr1 7 1 p0) (fun v5 => (ob v5 (fun b6 => (ob (rE sr1 .int b6 p1) (fun v7 => (if (6 : Int32) < (v4 - v7) then (Q ((-1) : Int32) sr1 cr1 dr1) else (ob (gP sr1 7 1 p0) (fun v8 => (ob v8 (fun b9 => (ob (rE sr1 .int b9 p1) (fun v10 => ((C_Re_number_b39 sa p0 p1 p2 p3 (0 : Int32) v10 sr1 cr1 dr1 Q)))))))))))))))))))))))
set_option maxRecDepth 100000 in
set_option maxHeartbeats 4000000 in
theorem kc_Re_number (base : Nat) (sa : Nat → Nat) {R : pmM} {s : cS} {kc ks : Nat} {Rt : pmR} {p0 : Nat} {p1 : Int32} {p2 : Int32} {p3 : Int32} {Q : (Int32 → cS → Nat → Nat → Prop)} (hw : cW sa R base s) (h : C_Re_number sa p0 p1 p2 p3 s kc ks Q) (k : ∀ r s' kc' ks', cW sa R base s' → Q r s' kc' ks' → Rt (some (.int r)) (cM R s') kc' ks') : kP_Re_number base sa [.ref p0, .int p1, .int p2, .int p3] (cM R s) kc ks Rt := by
  refine ⟨Nat.le_of_ble_eq_true rfl, fun G hG => ?_⟩
  have b39 : ∀ (a4 : Int32) (a5 : Int32) (s : cS) (kc ks : Nat), KK sa R base G 39 [(0, va_rf (some p0)), (1, .int p1), (2, .int p2), (3, .int p3), (4, .int a4), (5, .int a5)] [] s kc ks (C_Re_number_b39 sa p0 p1 p2 p3 a4 a5 s kc ks Q) := by
    have H : ∀ (P39 : (Int32 → Int32 → cS → Nat → Nat → Prop)) (hP39 : ∀ (a4 : Int32) (a5 : Int32) (s : cS) (kc ks : Nat), P39 a4 a5 s kc ks → cW sa R base s → G 39 [(0, va_rf (some p0)), (1, .int p1), (2, .int p2), (3, .int p3), (4, .int a4), (5, .int a5)] [] (cM R s) kc ks) (a4 : Int32) (a5 : Int32) (s : cS) (kc ks : Nat), KK sa R base G 39 [(0, va_rf (some p0)), (1, .int p1), (2, .int p2), (3, .int p3), (4, .int a4), (5, .int a5)] [] s kc ks (C_Re_number_s39 sa p0 p1 p2 p3 a4 a5 s kc ks Q P39) := by
      intro P39 hP39
      intro a4 a5 s kc ks
      refine kks hG rfl rfl ?_
      refine kk_aln hG (x := (some p0)) rfl rfl ?_
      refine kk_gp hG (c := 7) (k := 2) (a := p0) rfl rfl rfl rfl (fun v1 => ?_)
      refine kks hG rfl rfl ?_
      refine kk_ob (fun b2 eb2 => ?_)
      subst eb2
      refine kk_ia hG (a := b2) rfl (fun v3 => ?_)
      refine kk_ige hG (t := 97) rfl rfl ?_ ?_
      · refine kks hG rfl rfl ?_
        refine kks hG rfl rfl ?_
        refine kk_ilt hG (t := 109) rfl rfl ?_ ?_
        · refine kk_ic hG rfl cc_im1 ?_
          refine kk_go hG (t := 115) rfl rfl ?_
          exact kk_ri hG rfl rfl rfl k
        refine kks hG rfl rfl ?_
        refine kks hG rfl rfl ?_
        refine kk_ile hG (t := 113) rfl rfl ?_ ?_
        · refine kks hG rfl rfl ?_
          exact kk_ri hG rfl rfl rfl k
        refine kk_ic hG rfl cc_im1 ?_
        refine kk_go hG (t := 115) rfl rfl ?_
        exact kk_ri hG rfl rfl rfl k
      refine kk_aln hG (x := (some p0)) rfl rfl ?_
      refine kk_gp hG (c := 7) (k := 0) (a := p0) rfl rfl rfl rfl (fun v4 => ?_)
      refine kk_ob (fun b5 eb5 => ?_)
      subst eb5
      refine kk_gp hG (c := 11) (k := 0) (a := b5) rfl rfl rfl rfl (fun v6 => ?_)
      refine kks hG rfl rfl ?_
      refine kk_ob (fun b7 eb7 => ?_)
      subst eb7
      refine kk_cx (w := .int) hG 0 rfl rfl (Nat.le_of_ble_eq_true rfl) (by decide) rfl (st' := []) rfl (cats_le (Nat.le_of_ble_eq_true rfl)) (fun _ hw h k => kk_rcv h.1 (kc_By_at base sa hw h.2 k)) (fun r8 sr8 cr8 dr8 => ?_)
      refine kk_bi hG rfl cc_b48 ?_
      refine kks hG rfl rfl ?_
      refine kk_st hG (L' := [(6, .int (r8 - (48 : Int32))), (0, va_rf (some p0)), (1, .int p1), (2, .int p2), (3, .int p3), (4, .int a4), (5, .int a5)]) rfl rfl (Nat.le_of_ble_eq_true rfl) rfl ?_
      refine kks hG rfl rfl ?_
      refine kk_zlt hG (t := 79) rfl rfl ?_ ?_
      · refine kk_ic hG rfl cc_im1 ?_
        exact kk_ri hG rfl rfl rfl k
      refine kks hG rfl rfl ?_
      refine kk_bi hG rfl cc_b9 ?_
      refine kk_ile hG (t := 81) rfl rfl ?_ ?_
      · refine kks hG rfl rfl ?_
        refine kk_bi hG rfl cc_b10 ?_
        refine kks hG rfl rfl ?_
        refine kks hG rfl rfl ?_
        refine kks hG rfl rfl ?_
        refine kk_st hG (L' := [(4, .int ((a4 * (10 : Int32)) + (r8 - (48 : Int32)))), (6, .int (r8 - (48 : Int32))), (0, va_rf (some p0)), (1, .int p1), (2, .int p2), (3, .int p3), (5, .int a5)]) rfl rfl (Nat.le_of_ble_eq_true rfl) rfl ?_
        refine kk_inc hG (L' := [(5, .int (a5 + (1 : Int32))), (4, .int ((a4 * (10 : Int32)) + (r8 - (48 : Int32)))), (6, .int (r8 - (48 : Int32))), (0, va_rf (some p0)), (1, .int p1), (2, .int p2), (3, .int p3)]) rfl (Nat.le_of_ble_eq_true rfl) rfl cc_i1 rfl ?_
        refine kk_go hG (t := 39) rfl rfl ?_
        exact kk_wl hG [3, 4, 5, 6, 1, 0] rfl (fun hw h => hP39 _ _ _ _ _ h hw)
      refine kk_ic hG rfl cc_im1 ?_
      exact kk_ri hG rfl rfl rfl k
    exact fun a4 a5 s kc ks hw h => h (fun a4 a5 s kc ks => cW sa R base s → G 39 [(0, va_rf (some p0)), (1, .int p1), (2, .int p2), (3, .int p3), (4, .int a4), (5, .int a5)] [] (cM R s) kc ks) (fun a4 a5 s kc ks hs hw => H _ (fun _ _ _ _ _ hp hw => hp hw) a4 a5 s kc ks hw hs) hw
  refine (show KK sa R base G 0 [(0, va_rf (some p0)), (1, .int p1), (2, .int p2), (3, .int p3)] [] s kc ks (C_Re_number sa p0 p1 p2 p3 s kc ks Q) from ?_) hw h
  refine kk_aln hG (x := (some p0)) rfl rfl ?_
  refine kks hG rfl rfl ?_
  refine kk_cx (w := .int) hG 0 rfl rfl (Nat.le_of_ble_eq_true rfl) (by decide) rfl (st' := []) rfl (cats_le (Nat.le_of_ble_eq_true rfl)) (fun _ hw h k => kk_rcv h.1 (kc_Re_isWord base sa hw h.2 k)) (fun r1 sr1 cr1 dr1 => ?_)
  refine kk_zeq hG (t := 26) rfl rfl ?_ ?_
  · refine kk_ic hG rfl cc_im1 ?_
    exact kk_ri hG rfl rfl rfl k
  refine kk_aln hG (x := (some p0)) rfl rfl ?_
  refine kk_gp hG (c := 7) (k := 2) (a := p0) rfl rfl rfl rfl (fun v2 => ?_)
  refine kks hG rfl rfl ?_
  refine kk_ob (fun b3 eb3 => ?_)
  subst eb3
  refine kk_ia hG (a := b3) rfl (fun v4 => ?_)
  refine kk_aln hG (x := (some p0)) rfl rfl ?_
  refine kk_gp hG (c := 7) (k := 1) (a := p0) rfl rfl rfl rfl (fun v5 => ?_)
  refine kks hG rfl rfl ?_
  refine kk_ob (fun b6 eb6 => ?_)
  subst eb6
  refine kk_ia hG (a := b6) rfl (fun v7 => ?_)
  refine kks hG rfl rfl ?_
  refine kk_bi hG rfl cc_b6 ?_
  refine kk_ile hG (t := 28) rfl rfl ?_ ?_
  · refine kk_ic hG rfl cc_i0 ?_
    refine kk_st hG (L' := [(4, .int (0 : Int32)), (0, va_rf (some p0)), (1, .int p1), (2, .int p2), (3, .int p3)]) rfl rfl (Nat.le_of_ble_eq_true rfl) rfl ?_
    refine kk_aln hG (x := (some p0)) rfl rfl ?_
    refine kk_gp hG (c := 7) (k := 1) (a := p0) rfl rfl rfl rfl (fun v8 => ?_)
    refine kks hG rfl rfl ?_
    refine kk_ob (fun b9 eb9 => ?_)
    subst eb9
    refine kk_ia hG (a := b9) rfl (fun v10 => ?_)
    refine kk_st hG (L' := [(5, .int v10), (4, .int (0 : Int32)), (0, va_rf (some p0)), (1, .int p1), (2, .int p2), (3, .int p3)]) rfl rfl (Nat.le_of_ble_eq_true rfl) rfl ?_
    exact kk_wl hG [2, 3, 4, 5, 1, 0] rfl (b39 _ _ _ _ _)
  refine kk_ic hG rfl cc_im1 ?_
  exact kk_ri hG rfl rfl rfl k
def C_S2_compress2_s3 (sa : Nat → Nat) (p0 : Option Nat) (p2 : Option Nat) (p4 : Int32) (a1 : Int32) (a3 : Int32) (a5 : Int32) (s : cS) (kc ks : Nat) (Q : (Int32 → cS → Nat → Nat → Prop)) (P3 : (Int32 → Int32 → Int32 → cS → Nat → Nat → Prop)) : Prop := if a5 < p4 then (ob p0 (fun b1 => (ob (rE s .char b1 a1) (fun v2 => (if (255 : Int32) < v2 then ((Q a5 s kc ks)) else (ob p2 (fun b3 => (ob (wEb s b3 a3 (Int8.toInt32 (Int32.toInt8 v2))) (fun s4 => ((P3 (a1 + (1 : Int32)) (a3 + (1 : Int32)) (a5 + (1 : Int32)) s4 kc ks))))))))))) else ((Q p4 s kc ks))
def C_S2_compress2_b3 (sa : Nat → Nat) (p0 : Option Nat) (p2 : Option Nat) (p4 : Int32) (a1 : Int32) (a3 : Int32) (a5 : Int32) (s : cS) (kc ks : Nat) (Q : (Int32 → cS → Nat → Nat → Prop)) : Prop := ∀ P3 : (Int32 → Int32 → Int32 → cS → Nat → Nat → Prop), (∀ (a1 : Int32) (a3 : Int32) (a5 : Int32) (s : cS) (kc ks : Nat), C_S2_compress2_s3 sa p0 p2 p4 a1 a3 a5 s kc ks Q P3 → P3 a1 a3 a5 s kc ks) → P3 a1 a3 a5 s kc ks
def C_S2_compress2 (sa : Nat → Nat) (p0 : Option Nat) (a1 : Int32) (p2 : Option Nat) (a3 : Int32) (p4 : Int32) (s : cS) (kc ks : Nat) (Q : (Int32 → cS → Nat → Nat → Prop)) : Prop := (C_S2_compress2_b3 sa p0 p2 p4 a1 a3 (0 : Int32) s kc ks Q)
set_option maxRecDepth 100000 in
set_option maxHeartbeats 4000000 in
theorem kc_S2_compress2 (base : Nat) (sa : Nat → Nat) {R : pmM} {s : cS} {kc ks : Nat} {Rt : pmR} {p0 : Option Nat} {a1 : Int32} {p2 : Option Nat} {a3 : Int32} {p4 : Int32} {Q : (Int32 → cS → Nat → Nat → Prop)} (hw : cW sa R base s) (h : C_S2_compress2 sa p0 a1 p2 a3 p4 s kc ks Q) (k : ∀ r s' kc' ks', cW sa R base s' → Q r s' kc' ks' → Rt (some (.int r)) (cM R s') kc' ks') : kP_S2_compress2 base sa [va_rf p0, .int a1, va_rf p2, .int a3, .int p4] (cM R s) kc ks Rt := by
  refine ⟨by cases p0 <;> cases p2 <;> exact Nat.le_of_ble_eq_true rfl, fun G hG => ?_⟩
  have eL : lv_args 0 [va_rf p0, .int a1, va_rf p2, .int a3, .int p4] = [(0, va_rf p0), (1, .int a1), (2, va_rf p2), (3, .int a3), (4, .int p4)] := by cases p0 <;> cases p2 <;> rfl
  rw [eL]
  have b3 : ∀ (a1 : Int32) (a3 : Int32) (a5 : Int32) (s : cS) (kc ks : Nat), KK sa R base G 3 [(0, va_rf p0), (1, .int a1), (2, va_rf p2), (3, .int a3), (4, .int p4), (5, .int a5)] [] s kc ks (C_S2_compress2_b3 sa p0 p2 p4 a1 a3 a5 s kc ks Q) := by
    have H : ∀ (P3 : (Int32 → Int32 → Int32 → cS → Nat → Nat → Prop)) (hP3 : ∀ (a1 : Int32) (a3 : Int32) (a5 : Int32) (s : cS) (kc ks : Nat), P3 a1 a3 a5 s kc ks → cW sa R base s → G 3 [(0, va_rf p0), (1, .int a1), (2, va_rf p2), (3, .int a3), (4, .int p4), (5, .int a5)] [] (cM R s) kc ks) (a1 : Int32) (a3 : Int32) (a5 : Int32) (s : cS) (kc ks : Nat), KK sa R base G 3 [(0, va_rf p0), (1, .int a1), (2, va_rf p2), (3, .int a3), (4, .int p4), (5, .int a5)] [] s kc ks (C_S2_compress2_s3 sa p0 p2 p4 a1 a3 a5 s kc ks Q P3) := by
      intro P3 hP3
      intro a1 a3 a5 s kc ks
      refine kks hG rfl rfl ?_
      refine kks hG rfl rfl ?_
      refine kk_ige hG (t := 44) rfl rfl ?_ ?_
      · refine kks hG rfl rfl ?_
        exact kk_ri hG rfl rfl rfl k
      refine kk_aln hG (x := p0) rfl rfl ?_
      refine kks hG rfl rfl ?_
      refine kk_ob (fun b1 eb1 => ?_)
      subst eb1
      refine kk_ca hG (a := b1) rfl (fun v2 => ?_)
      refine kk_st hG (L' := [(6, .int v2), (0, va_rf (some b1)), (1, .int a1), (2, va_rf p2), (3, .int a3), (4, .int p4), (5, .int a5)]) rfl rfl (Nat.le_of_ble_eq_true rfl) rfl ?_
      refine kks hG rfl rfl ?_
      refine kk_si hG rfl cc_s255 ?_
      refine kk_ile hG (t := 26) rfl rfl ?_ ?_
      · refine kk_aln hG (x := p2) rfl rfl ?_
        refine kks hG rfl rfl ?_
        refine kks hG rfl rfl ?_
        refine kks hG rfl rfl ?_
        refine kk_ob (fun b3 eb3 => ?_)
        subst eb3
        refine kk_bs hG (a := b3) rfl (fun s4 => ?_)
        refine kk_inc hG (L' := [(1, .int (a1 + (1 : Int32))), (6, .int v2), (0, va_rf (some b1)), (2, va_rf (some b3)), (3, .int a3), (4, .int p4), (5, .int a5)]) rfl (Nat.le_of_ble_eq_true rfl) rfl cc_i1 rfl ?_
        refine kk_inc hG (L' := [(3, .int (a3 + (1 : Int32))), (1, .int (a1 + (1 : Int32))), (6, .int v2), (0, va_rf (some b1)), (2, va_rf (some b3)), (4, .int p4), (5, .int a5)]) rfl (Nat.le_of_ble_eq_true rfl) rfl cc_i1 rfl ?_
        refine kk_inc hG (L' := [(5, .int (a5 + (1 : Int32))), (3, .int (a3 + (1 : Int32))), (1, .int (a1 + (1 : Int32))), (6, .int v2), (0, va_rf (some b1)), (2, va_rf (some b3)), (4, .int p4)]) rfl (Nat.le_of_ble_eq_true rfl) rfl cc_i1 rfl ?_
        refine kk_go hG (t := 3) rfl rfl ?_
        exact kk_wl hG [4, 2, 5, 1, 6, 0] rfl (fun hw h => hP3 _ _ _ _ _ _ h hw)
      refine kks hG rfl rfl ?_
      exact kk_ri hG rfl rfl rfl k
    exact fun a1 a3 a5 s kc ks hw h => h (fun a1 a3 a5 s kc ks => cW sa R base s → G 3 [(0, va_rf p0), (1, .int a1), (2, va_rf p2), (3, .int a3), (4, .int p4), (5, .int a5)] [] (cM R s) kc ks) (fun a1 a3 a5 s kc ks hs hw => H _ (fun _ _ _ _ _ _ hp hw => hp hw) a1 a3 a5 s kc ks hw hs) hw
  refine (show KK sa R base G 0 [(0, va_rf p0), (1, .int a1), (2, va_rf p2), (3, .int a3), (4, .int p4)] [] s kc ks (C_S2_compress2 sa p0 a1 p2 a3 p4 s kc ks Q) from ?_) hw h
  refine kk_ic hG rfl cc_i0 ?_
  refine kk_st hG (L' := [(5, .int (0 : Int32)), (0, va_rf p0), (1, .int a1), (2, va_rf p2), (3, .int a3), (4, .int p4)]) rfl rfl (Nat.le_of_ble_eq_true rfl) rfl ?_
  exact kk_wl hG [1, 2, 3, 4, 5, 0] rfl (b3 _ _ _ _ _ _)
def C_S2_compress (sa : Nat → Nat) (p0 : Option Nat) (p1 : Int32) (p2 : Int32) (s : cS) (kc ks : Nat) (Q : (Option Nat → cS → Nat → Nat → Prop)) : Prop := nwA sa s kc ks .byte p2 (fun q1 sq1 cq1 dq1 => (C_S2_compress2 sa p0 p1 (some q1) (0 : Int32) p2 sq1 cq1 dq1 (fun r2 sr2 cr2 dr2 => (if r2 = p2 then (Q (some q1) sr2 cr2 dr2) else (C_S2_toBytes sa p0 p1 p2 sr2 cr2 dr2 (fun r3 sr3 cr3 dr3 => (C_S2_getChar sa r3 r2 sr3 cr3 dr3 (fun r4 sr4 cr4 dr4 => (if (255 : Int32) < r4 then (Q r3 sr4 cr4 dr4) else (C_S2_compress3 sa r3 (0 : Int32) (some q1) (0 : Int32) p2 sr4 cr4 dr4 (fun r5 sr5 cr5 dr5 => (if r5 = p2 then (Q (some q1) sr5 cr5 dr5) else (Q r3 sr5 cr5 dr5)))))))))))))
set_option maxRecDepth 100000 in
set_option maxHeartbeats 4000000 in
theorem kc_S2_compress (base : Nat) (sa : Nat → Nat) {R : pmM} {s : cS} {kc ks : Nat} {Rt : pmR} {p0 : Option Nat} {p1 : Int32} {p2 : Int32} {Q : (Option Nat → cS → Nat → Nat → Prop)} (hw : cW sa R base s) (h : C_S2_compress sa p0 p1 p2 s kc ks Q) (k : ∀ r s' kc' ks', cW sa R base s' → Q r s' kc' ks' → Rt (some (va_rf r)) (cM R s') kc' ks') : kP_S2_compress base sa [va_rf p0, .int p1, .int p2] (cM R s) kc ks Rt := by
  refine ⟨by cases p0 <;> exact Nat.le_of_ble_eq_true rfl, fun G hG => ?_⟩
  have eL : lv_args 0 [va_rf p0, .int p1, .int p2] = [(0, va_rf p0), (1, .int p1), (2, .int p2)] := by cases p0 <;> rfl
  rw [eL]
  refine (show KK sa R base G 0 [(0, va_rf p0), (1, .int p1), (2, .int p2)] [] s kc ks (C_S2_compress sa p0 p1 p2 s kc ks Q) from ?_) hw h
  refine kks hG rfl rfl ?_
  refine kk_nar hG (ty := .byte) rfl rfl rfl rfl (fun q1 sq1 cq1 dq1 => ?_)
  refine kk_asn hG (x := (some q1)) (L' := [(3, va_rf (some q1)), (0, va_rf p0), (1, .int p1), (2, .int p2)]) rfl (Nat.le_of_ble_eq_true rfl) rfl ?_
  refine kk_aln hG (x := p0) rfl rfl ?_
  refine kks hG rfl rfl ?_
  refine kk_aln hG (x := (some q1)) rfl rfl ?_
  refine kk_ic hG rfl cc_i0 ?_
  refine kks hG rfl rfl ?_
  refine kk_cx (w := .int) hG 2 rfl rfl (Nat.le_of_ble_eq_true rfl) (by decide) rfl (st' := []) rfl (cats_le (Nat.le_of_ble_eq_true rfl)) (fun _ hw h k => kc_S2_compress2 base sa hw h k) (fun r2 sr2 cr2 dr2 => ?_)
  refine kk_st hG (L' := [(4, .int r2), (3, va_rf (some q1)), (0, va_rf p0), (1, .int p1), (2, .int p2)]) rfl rfl (Nat.le_of_ble_eq_true rfl) rfl ?_
  refine kks hG rfl rfl ?_
  refine kks hG rfl rfl ?_
  refine kk_ieq hG (t := 57) rfl rfl ?_ ?_
  · refine kk_aln hG (x := (some q1)) rfl rfl ?_
    exact kk_ra hG (x := (some q1)) rfl rfl rfl k
  refine kk_aln hG (x := p0) rfl rfl ?_
  refine kks hG rfl rfl ?_
  refine kks hG rfl rfl ?_
  refine kk_cx (w := va_rf) hG 2 rfl rfl (Nat.le_of_ble_eq_true rfl) (by decide) rfl (st' := []) rfl (cats_le (Nat.le_of_ble_eq_true rfl)) (fun _ hw h k => kc_S2_toBytes base sa hw h k) (fun r3 sr3 cr3 dr3 => ?_)
  refine kk_as hG (x := r3) (L' := [(5, va_rf r3), (4, .int r2), (3, va_rf (some q1)), (0, va_rf p0), (1, .int p1), (2, .int p2)]) rfl (Nat.le_of_ble_eq_true rfl) rfl ?_
  refine kk_al hG (x := r3) rfl rfl ?_
  refine kks hG rfl rfl ?_
  refine kk_cx (w := .int) hG 2 rfl rfl (Nat.le_of_ble_eq_true rfl) (by decide) rfl (st' := []) rfl (cats_le (Nat.le_of_ble_eq_true rfl)) (fun _ hw h k => kc_S2_getChar base sa hw h k) (fun r4 sr4 cr4 dr4 => ?_)
  refine kk_si hG rfl cc_s255 ?_
  refine kk_igt hG (t := 54) rfl rfl ?_ ?_
  · refine kk_al hG (x := r3) rfl rfl ?_
    exact kk_ra hG (x := r3) rfl rfl rfl k
  refine kk_al hG (x := r3) rfl rfl ?_
  refine kk_ic hG rfl cc_i0 ?_
  refine kk_aln hG (x := (some q1)) rfl rfl ?_
  refine kk_ic hG rfl cc_i0 ?_
  refine kks hG rfl rfl ?_
  refine kk_cx (w := .int) hG 2 rfl rfl (Nat.le_of_ble_eq_true rfl) (by decide) rfl (st' := []) rfl (cats_le (Nat.le_of_ble_eq_true rfl)) (fun _ hw h k => kc_S2_compress3 base sa hw h k) (fun r5 sr5 cr5 dr5 => ?_)
  refine kks hG rfl rfl ?_
  refine kk_ieq hG (t := 57) rfl rfl ?_ ?_
  · refine kk_aln hG (x := (some q1)) rfl rfl ?_
    exact kk_ra hG (x := (some q1)) rfl rfl rfl k
  refine kk_al hG (x := r3) rfl rfl ?_
  exact kk_ra hG (x := r3) rfl rfl rfl k
def C_S2_coderFromArrayLen (sa : Nat → Nat) (p0 : Option Nat) (p1 : Int32) (s : cS) (kc ks : Nat) (Q : (Int32 → cS → Nat → Nat → Prop)) : Prop := ob p0 (fun b1 => (ob (aL s b1) (fun v2 => (Int8.toInt32 (Int32.toInt8 (Int8.toInt32 (Int32.toInt8 (ush_I (p1 - v2) (31 : Int32))))) = (Int8.toInt32 (Int32.toInt8 (ush_I (p1 - v2) (31 : Int32)))) ∧ Q (Int8.toInt32 (Int32.toInt8 (ush_I (p1 - v2) (31 : Int32)))) s kc ks))))
set_option maxRecDepth 100000 in
set_option maxHeartbeats 4000000 in
theorem kc_S2_coderFromArrayLen (base : Nat) (sa : Nat → Nat) {R : pmM} {s : cS} {kc ks : Nat} {Rt : pmR} {p0 : Option Nat} {p1 : Int32} {Q : (Int32 → cS → Nat → Nat → Prop)} (hw : cW sa R base s) (h : C_S2_coderFromArrayLen sa p0 p1 s kc ks Q) (k : ∀ r s' kc' ks', cW sa R base s' → Q r s' kc' ks' → Rt (some (.int r)) (cM R s') kc' ks') : kP_S2_coderFromArrayLen base sa [va_rf p0, .int p1] (cM R s) kc ks Rt := by
  refine ⟨by cases p0 <;> exact Nat.le_of_ble_eq_true rfl, fun G hG => ?_⟩
  have eL : lv_args 0 [va_rf p0, .int p1] = [(0, va_rf p0), (1, .int p1)] := by cases p0 <;> rfl
  rw [eL]
  refine (show KK sa R base G 0 [(0, va_rf p0), (1, .int p1)] [] s kc ks (C_S2_coderFromArrayLen sa p0 p1 s kc ks Q) from ?_) hw h
  refine kks hG rfl rfl ?_
  refine kk_aln hG (x := p0) rfl rfl ?_
  refine kk_ob (fun b1 eb1 => ?_)
  subst eb1
  refine kk_len hG (a := b1) rfl (fun v2 => ?_)
  refine kks hG rfl rfl ?_
  refine kk_bi hG rfl cc_b31 ?_
  refine kks hG rfl rfl ?_
  refine kks hG rfl rfl ?_
  exact kk_rb hG rfl rfl k
def C_St_init2 (sa : Nat → Nat) (p0 : Nat) (p1 : Option Nat) (p2 : Int32) (p3 : Int32) (p4 : Option Nat) (s : cS) (kc ks : Nat) (Q : (cS → Nat → Nat → Prop)) : Prop := if p3 = 0 then (ob (gP s 13 0 (sa 3)) (fun v8 => (ob (pP s 13 0 p0 v8) (fun s9 => (ob (gI s9 13 1 (sa 3)) (fun v10 => (ob (pZ s9 13 1 p0 v10) (fun s11 => (Q s11 kc ks))))))))) else (if (1 : Int32) = 0 then (ob (pZ s 13 1 p0 (1 : Int32)) (fun s1 => (C_S2_toBytes sa p1 p2 p3 s1 kc ks (fun r2 sr2 cr2 dr2 => (ob (pP sr2 13 0 p0 r2) (fun s3 => (Q s3 cr2 dr2))))))) else (C_S2_compress sa p1 p2 p3 s kc ks (fun r4 sr4 cr4 dr4 => (C_S2_coderFromArrayLen sa r4 p3 sr4 cr4 dr4 (fun r5 sr5 cr5 dr5 => (ob (pZ sr5 13 1 p0 r5) (fun s6 => (ob (pP s6 13 0 p0 r4) (fun s7 => (Q s7 cr5 dr5))))))))))
set_option maxRecDepth 100000 in
set_option maxHeartbeats 4000000 in
theorem kc_St_init2 (base : Nat) (sa : Nat → Nat) {R : pmM} {s : cS} {kc ks : Nat} {Rt : pmR} {p0 : Nat} {p1 : Option Nat} {p2 : Int32} {p3 : Int32} {p4 : Option Nat} {Q : (cS → Nat → Nat → Prop)} (hw : cW sa R base s) (h : C_St_init2 sa p0 p1 p2 p3 p4 s kc ks Q) (k : ∀ s' kc' ks', cW sa R base s' → Q s' kc' ks' → Rt none (cM R s') kc' ks') : kP_St_init2 base sa [.ref p0, va_rf p1, .int p2, .int p3, va_rf p4] (cM R s) kc ks Rt := by
  refine ⟨by cases p1 <;> cases p4 <;> exact Nat.le_of_ble_eq_true rfl, fun G hG => ?_⟩
  have eL : lv_args 0 [.ref p0, va_rf p1, .int p2, .int p3, va_rf p4] = [(0, va_rf (some p0)), (1, va_rf p1), (2, .int p2), (3, .int p3), (4, va_rf p4)] := by cases p1 <;> cases p4 <;> rfl
  rw [eL]
  refine (show KK sa R base G 0 [(0, va_rf (some p0)), (1, va_rf p1), (2, .int p2), (3, .int p3), (4, va_rf p4)] [] s kc ks (C_St_init2 sa p0 p1 p2 p3 p4 s kc ks Q) from ?_) hw h
  refine kk_aln hG (x := (some p0)) rfl rfl ?_
  refine kk_oi hG (a := p0) rfl rfl (Nat.le_of_ble_eq_true rfl) ?_
  refine kks hG rfl rfl ?_
  refine kk_zne hG (t := 27) rfl rfl ?_ ?_
  · refine kks hG rfl rfl ?_
    refine kk_zeq hG (t := 58) rfl rfl ?_ ?_
    · refine kk_aln hG (x := (some p0)) rfl rfl ?_
      refine kk_ic hG rfl cc_i1 ?_
      refine kk_pb hG (c := 13) (k := 1) (a := p0) rfl rfl rfl rfl (fun s1 => ?_)
      refine kk_aln hG (x := (some p0)) rfl rfl ?_
      refine kk_aln hG (x := p1) rfl rfl ?_
      refine kks hG rfl rfl ?_
      refine kks hG rfl rfl ?_
      refine kk_cx (w := va_rf) hG 2 rfl rfl (Nat.le_of_ble_eq_true rfl) (by decide) rfl (st' := [va_rf (some p0)]) rfl (cats_le (Nat.le_of_ble_eq_true rfl)) (fun _ hw h k => kc_S2_toBytes base sa hw h k) (fun r2 sr2 cr2 dr2 => ?_)
      refine kk_pp hG (c := 13) (k := 0) (a := p0) (v := r2) rfl rfl rfl rfl rfl (fun s3 => ?_)
      exact kk_rv hG rfl rfl k
    refine kk_aln hG (x := p1) rfl rfl ?_
    refine kks hG rfl rfl ?_
    refine kks hG rfl rfl ?_
    refine kk_cx (w := va_rf) hG 2 rfl rfl (Nat.le_of_ble_eq_true rfl) (by decide) rfl (st' := []) rfl (cats_le (Nat.le_of_ble_eq_true rfl)) (fun _ hw h k => kc_S2_compress base sa hw h k) (fun r4 sr4 cr4 dr4 => ?_)
    refine kk_as hG (x := r4) (L' := [(5, va_rf r4), (0, va_rf (some p0)), (1, va_rf p1), (2, .int p2), (3, .int p3), (4, va_rf p4)]) rfl (Nat.le_of_ble_eq_true rfl) (by cases p4 <;> rfl) ?_
    refine kk_aln hG (x := (some p0)) rfl rfl ?_
    refine kk_al hG (x := r4) rfl rfl ?_
    refine kks hG rfl rfl ?_
    refine kk_cx (w := .int) hG 2 rfl rfl (Nat.le_of_ble_eq_true rfl) (by decide) rfl (st' := [va_rf (some p0)]) rfl (cats_le (Nat.le_of_ble_eq_true rfl)) (fun _ hw h k => kc_S2_coderFromArrayLen base sa hw h k) (fun r5 sr5 cr5 dr5 => ?_)
    refine kk_pb hG (c := 13) (k := 1) (a := p0) rfl rfl rfl rfl (fun s6 => ?_)
    refine kk_aln hG (x := (some p0)) rfl rfl ?_
    refine kk_al hG (x := r4) rfl rfl ?_
    refine kk_pp hG (c := 13) (k := 0) (a := p0) (v := r4) rfl rfl rfl rfl rfl (fun s7 => ?_)
    exact kk_rv hG rfl rfl k
  refine kk_aln hG (x := (some p0)) rfl rfl ?_
  refine kk_lds hG (a := sa 3) rfl rfl ?_
  refine kk_gp hG (c := 13) (k := 0) (a := (sa 3)) rfl rfl rfl rfl (fun v8 => ?_)
  refine kk_pp hG (c := 13) (k := 0) (a := p0) (v := v8) rfl rfl rfl rfl rfl (fun s9 => ?_)
  refine kk_aln hG (x := (some p0)) rfl rfl ?_
  refine kk_lds hG (a := sa 3) rfl rfl ?_
  refine kk_gi hG (c := 13) (k := 1) (a := (sa 3)) rfl rfl rfl rfl (fun v10 => ?_)
  refine kk_pb hG (c := 13) (k := 1) (a := p0) rfl rfl rfl rfl (fun s11 => ?_)
  exact kk_rv hG rfl rfl k
def C_St_init (sa : Nat → Nat) (p0 : Nat) (p1 : Option Nat) (s : cS) (kc ks : Nat) (Q : (cS → Nat → Nat → Prop)) : Prop := ob p1 (fun b1 => (ob (aL s b1) (fun v2 => (okO s 13 p0 ∧ C_St_init2 sa p0 (some b1) (0 : Int32) v2 none s kc ks (fun sr3 cr3 dr3 => (Q sr3 cr3 dr3))))))
set_option maxRecDepth 100000 in
set_option maxHeartbeats 4000000 in
theorem kc_St_init (base : Nat) (sa : Nat → Nat) {R : pmM} {s : cS} {kc ks : Nat} {Rt : pmR} {p0 : Nat} {p1 : Option Nat} {Q : (cS → Nat → Nat → Prop)} (hw : cW sa R base s) (h : C_St_init sa p0 p1 s kc ks Q) (k : ∀ s' kc' ks', cW sa R base s' → Q s' kc' ks' → Rt none (cM R s') kc' ks') : kP_St_init base sa [.ref p0, va_rf p1] (cM R s) kc ks Rt := by
  refine ⟨by cases p1 <;> exact Nat.le_of_ble_eq_true rfl, fun G hG => ?_⟩
  have eL : lv_args 0 [.ref p0, va_rf p1] = [(0, va_rf (some p0)), (1, va_rf p1)] := by cases p1 <;> rfl
  rw [eL]
  refine (show KK sa R base G 0 [(0, va_rf (some p0)), (1, va_rf p1)] [] s kc ks (C_St_init sa p0 p1 s kc ks Q) from ?_) hw h
  refine kk_aln hG (x := (some p0)) rfl rfl ?_
  refine kk_aln hG (x := p1) rfl rfl ?_
  refine kk_ic hG rfl cc_i0 ?_
  refine kk_aln hG (x := p1) rfl rfl ?_
  refine kk_ob (fun b1 eb1 => ?_)
  subst eb1
  refine kk_len hG (a := b1) rfl (fun v2 => ?_)
  refine kks hG rfl rfl ?_
  refine kk_cv hG 1 rfl rfl (Nat.le_of_ble_eq_true rfl) (by decide) rfl (st' := []) rfl (cats_le (Nat.le_of_ble_eq_true rfl)) (fun _ hw h k => kk_rcv h.1 (kc_St_init2 base sa hw h.2 k)) (fun sr3 cr3 dr3 => ?_)
  exact kk_rv hG rfl rfl k
def C_Re_nameAt_s33 (sa : Nat → Nat) (p0 : Nat) (p1 : Int32) (a2 : Option Nat) (a3 : Int32) (s : cS) (kc ks : Nat) (Q : (Option Nat → cS → Nat → Nat → Prop)) (P33 : (Int32 → cS → Nat → Nat → Prop)) : Prop := ob a2 (fun b1 => (ob (aL s b1) (fun v2 => (if a3 < v2 then (ob (gP s 7 0 p0) (fun v5 => (ob v5 (fun b6 => (ob (gP s 11 0 b6) (fun v7 => (ob (gP s 7 1 p0) (fun v8 => (ob v8 (fun b9 => (ob (rE s .int b9 p1) (fun v10 => (ob v7 (fun b11 => (okO s 0 b11 ∧ C_By_at sa b11 (v10 + a3) s kc ks (fun r12 sr12 cr12 dr12 => (ob (wEc sr12 b1 a3 (UInt32.toInt32 (Int32.toUInt32 r12 % 65536))) (fun s13 => ((P33 (a3 + (1 : Int32)) s13 cr12 dr12)))))))))))))))))))) else ((nwO sa s kc ks 13 4 (fun q3 sq3 cq3 dq3 => (okO sq3 13 q3 ∧ C_St_init sa q3 (some b1) sq3 cq3 dq3 (fun sr4 cr4 dr4 => (Q (some q3) sr4 cr4 dr4))))))))))
def C_Re_nameAt_b33 (sa : Nat → Nat) (p0 : Nat) (p1 : Int32) (a2 : Option Nat) (a3 : Int32) (s : cS) (kc ks : Nat) (Q : (Option Nat → cS → Nat → Nat → Prop)) : Prop := ∀ P33 : (Int32 → cS → Nat → Nat → Prop), (∀ (a3 : Int32) (s : cS) (kc ks : Nat), C_Re_nameAt_s33 sa p0 p1 a2 a3 s kc ks Q P33 → P33 a3 s kc ks) → P33 a3 s kc ks
def C_Re_nameAt (sa : Nat → Nat) (p0 : Nat) (p1 : Int32) (s : cS) (kc ks : Nat) (Q : (Option Nat → cS → Nat → Nat → Prop)) : Prop := okO s 7 p0 ∧ C_Re_isWord sa p0 p1 s kc ks (fun r1 sr1 cr1 dr1 => (if r1 = 0 then (Q (some (sa 3)) sr1 cr1 dr1) else (ob (gP sr1 7 2 p0) (fun v2 => (ob v2 (fun b3 => (ob (rE sr1 .int b3 p1) (fun v4 => (ob (gP sr1 7 1 p0) (fun v5 => (ob v5 (fun b6 => (ob (rE sr1 .int b6 p1) (fun v7 => (nwA sa sr1 cr1 dr1 .char (mxI (0 : Int32) (v4 - v7)) (fun q8 sq8 cq8 dq8 => ((C_Re_nameAt_b33 sa p0 p1 (some q8) (0 : Int32) sq8 cq8 dq8 Q))))))))))))))))))
set_option maxRecDepth 100000 in
set_option maxHeartbeats 4000000 in
theorem kc_Re_nameAt (base : Nat) (sa : Nat → Nat) {R : pmM} {s : cS} {kc ks : Nat} {Rt : pmR} {p0 : Nat} {p1 : Int32} {Q : (Option Nat → cS → Nat → Nat → Prop)} (hw : cW sa R base s) (h : C_Re_nameAt sa p0 p1 s kc ks Q) (k : ∀ r s' kc' ks', cW sa R base s' → Q r s' kc' ks' → Rt (some (va_rf r)) (cM R s') kc' ks') : kP_Re_nameAt base sa [.ref p0, .int p1] (cM R s) kc ks Rt := by
  refine ⟨Nat.le_of_ble_eq_true rfl, fun G hG => ?_⟩
  have b33 : ∀ (a2 : Option Nat) (a3 : Int32) (s : cS) (kc ks : Nat), KK sa R base G 33 [(0, va_rf (some p0)), (1, .int p1), (2, va_rf a2), (3, .int a3)] [] s kc ks (C_Re_nameAt_b33 sa p0 p1 a2 a3 s kc ks Q) := by
    intro a2
    have H : ∀ (P33 : (Int32 → cS → Nat → Nat → Prop)) (hP33 : ∀ (a3 : Int32) (s : cS) (kc ks : Nat), P33 a3 s kc ks → cW sa R base s → G 33 [(0, va_rf (some p0)), (1, .int p1), (2, va_rf a2), (3, .int a3)] [] (cM R s) kc ks) (a3 : Int32) (s : cS) (kc ks : Nat), KK sa R base G 33 [(0, va_rf (some p0)), (1, .int p1), (2, va_rf a2), (3, .int a3)] [] s kc ks (C_Re_nameAt_s33 sa p0 p1 a2 a3 s kc ks Q P33) := by
      intro P33 hP33
      intro a3 s kc ks
      refine kks hG rfl rfl ?_
      refine kk_aln hG (x := a2) rfl rfl ?_
      refine kk_ob (fun b1 eb1 => ?_)
      subst eb1
      refine kk_len hG (a := b1) rfl (fun v2 => ?_)
      refine kk_ige hG (t := 67) rfl rfl ?_ ?_
      · refine kk_new hG (c := 13) (n := 4) rfl rfl rfl rfl (fun q3 sq3 cq3 dq3 => ?_)
        refine kk_dup hG (x := (some q3)) rfl ?_
        refine kk_aln hG (x := (some b1)) rfl rfl ?_
        refine kk_cv hG 1 rfl rfl (Nat.le_of_ble_eq_true rfl) (by decide) rfl (st' := [va_rf (some q3)]) rfl (cats_le (Nat.le_of_ble_eq_true rfl)) (fun _ hw h k => kk_rcv h.1 (kc_St_init base sa hw h.2 k)) (fun sr4 cr4 dr4 => ?_)
        exact kk_ra hG (x := (some q3)) rfl rfl rfl k
      refine kk_aln hG (x := (some b1)) rfl rfl ?_
      refine kks hG rfl rfl ?_
      refine kk_aln hG (x := (some p0)) rfl rfl ?_
      refine kk_gp hG (c := 7) (k := 0) (a := p0) rfl rfl rfl rfl (fun v5 => ?_)
      refine kk_ob (fun b6 eb6 => ?_)
      subst eb6
      refine kk_gp hG (c := 11) (k := 0) (a := b6) rfl rfl rfl rfl (fun v7 => ?_)
      refine kk_aln hG (x := (some p0)) rfl rfl ?_
      refine kk_gp hG (c := 7) (k := 1) (a := p0) rfl rfl rfl rfl (fun v8 => ?_)
      refine kks hG rfl rfl ?_
      refine kk_ob (fun b9 eb9 => ?_)
      subst eb9
      refine kk_ia hG (a := b9) rfl (fun v10 => ?_)
      refine kks hG rfl rfl ?_
      refine kks hG rfl rfl ?_
      refine kk_ob (fun b11 eb11 => ?_)
      subst eb11
      refine kk_cx (w := .int) hG 0 rfl rfl (Nat.le_of_ble_eq_true rfl) (by decide) rfl (st' := [.int a3, va_rf (some b1)]) rfl (cats_le (Nat.le_of_ble_eq_true rfl)) (fun _ hw h k => kk_rcv h.1 (kc_By_at base sa hw h.2 k)) (fun r12 sr12 cr12 dr12 => ?_)
      refine kks hG rfl rfl ?_
      refine kk_cs hG (a := b1) rfl (fun s13 => ?_)
      refine kk_inc hG (L' := [(3, .int (a3 + (1 : Int32))), (0, va_rf (some p0)), (1, .int p1), (2, va_rf (some b1))]) rfl (Nat.le_of_ble_eq_true rfl) rfl cc_i1 rfl ?_
      refine kk_go hG (t := 33) rfl rfl ?_
      exact kk_wl hG [1, 2, 3, 0] rfl (fun hw h => hP33 _ _ _ _ h hw)
    exact fun a3 s kc ks hw h => h (fun a3 s kc ks => cW sa R base s → G 33 [(0, va_rf (some p0)), (1, .int p1), (2, va_rf a2), (3, .int a3)] [] (cM R s) kc ks) (fun a3 s kc ks hs hw => H _ (fun _ _ _ _ hp hw => hp hw) a3 s kc ks hw hs) hw
  refine (show KK sa R base G 0 [(0, va_rf (some p0)), (1, .int p1)] [] s kc ks (C_Re_nameAt sa p0 p1 s kc ks Q) from ?_) hw h
  refine kk_aln hG (x := (some p0)) rfl rfl ?_
  refine kks hG rfl rfl ?_
  refine kk_cx (w := .int) hG 0 rfl rfl (Nat.le_of_ble_eq_true rfl) (by decide) rfl (st' := []) rfl (cats_le (Nat.le_of_ble_eq_true rfl)) (fun _ hw h k => kk_rcv h.1 (kc_Re_isWord base sa hw h.2 k)) (fun r1 sr1 cr1 dr1 => ?_)
  refine kk_zne hG (t := 11) rfl rfl ?_ ?_
  · refine kk_ic hG rfl cc_i0 ?_
    refine kk_aln hG (x := (some p0)) rfl rfl ?_
    refine kk_gp hG (c := 7) (k := 2) (a := p0) rfl rfl rfl rfl (fun v2 => ?_)
    refine kks hG rfl rfl ?_
    refine kk_ob (fun b3 eb3 => ?_)
    subst eb3
    refine kk_ia hG (a := b3) rfl (fun v4 => ?_)
    refine kk_aln hG (x := (some p0)) rfl rfl ?_
    refine kk_gp hG (c := 7) (k := 1) (a := p0) rfl rfl rfl rfl (fun v5 => ?_)
    refine kks hG rfl rfl ?_
    refine kk_ob (fun b6 eb6 => ?_)
    subst eb6
    refine kk_ia hG (a := b6) rfl (fun v7 => ?_)
    refine kks hG rfl rfl ?_
    refine kk_mx hG rfl rfl (Nat.le_of_ble_eq_true rfl) ?_
    refine kk_nar hG (ty := .char) rfl rfl rfl rfl (fun q8 sq8 cq8 dq8 => ?_)
    refine kk_asn hG (x := (some q8)) (L' := [(2, va_rf (some q8)), (0, va_rf (some p0)), (1, .int p1)]) rfl (Nat.le_of_ble_eq_true rfl) rfl ?_
    refine kk_ic hG rfl cc_i0 ?_
    refine kk_st hG (L' := [(3, .int (0 : Int32)), (2, va_rf (some q8)), (0, va_rf (some p0)), (1, .int p1)]) rfl rfl (Nat.le_of_ble_eq_true rfl) rfl ?_
    exact kk_wl hG [2, 3, 1, 0] rfl (b33 _ _ _ _ _)
  refine kk_lds hG (a := sa 3) rfl rfl ?_
  exact kk_ra hG (x := (some (sa 3))) rfl rfl rfl k
def C_By_init_b17 (sa : Nat → Nat) (p0 : Nat) (u0 : Option Nat) (u1 : Int32) (s : cS) (kc ks : Nat) (Q : (cS → Nat → Nat → Prop)) : Prop := nwA sa s kc ks .byte u1 (fun q1 sq1 cq1 dq1 => (ob u0 (fun b2 => (ob (pP sq1 0 0 b2 (some q1)) (fun s3 => (ob (pI s3 0 1 p0 (0 : Int32)) (fun s4 => (Q s4 cq1 dq1))))))))
def C_By_init (sa : Nat → Nat) (p0 : Nat) (p1 : Int32) (s : cS) (kc ks : Nat) (Q : (cS → Nat → Nat → Prop)) : Prop := if p1 < (16 : Int32) then ((C_By_init_b17 sa p0 (some p0) (16 : Int32) s kc ks Q)) else ((C_By_init_b17 sa p0 (some p0) p1 s kc ks Q))
set_option maxRecDepth 100000 in
set_option maxHeartbeats 4000000 in
theorem kc_By_init (base : Nat) (sa : Nat → Nat) {R : pmM} {s : cS} {kc ks : Nat} {Rt : pmR} {p0 : Nat} {p1 : Int32} {Q : (cS → Nat → Nat → Prop)} (hw : cW sa R base s) (h : C_By_init sa p0 p1 s kc ks Q) (k : ∀ s' kc' ks', cW sa R base s' → Q s' kc' ks' → Rt none (cM R s') kc' ks') : kP_By_init base sa [.ref p0, .int p1] (cM R s) kc ks Rt := by
  refine ⟨Nat.le_of_ble_eq_true rfl, fun G hG => ?_⟩
  have b17 : ∀ (u0 : Option Nat) (u1 : Int32) (s : cS) (kc ks : Nat), KK sa R base G 17 [(0, va_rf (some p0))] [.int u1, va_rf u0] s kc ks (C_By_init_b17 sa p0 u0 u1 s kc ks Q) := by
    intro u0 u1 s kc ks
    refine kk_nar hG (ty := .byte) rfl rfl rfl rfl (fun q1 sq1 cq1 dq1 => ?_)
    refine kk_ob (fun b2 eb2 => ?_)
    subst eb2
    refine kk_pp hG (c := 0) (k := 0) (a := b2) (v := (some q1)) rfl rfl rfl rfl rfl (fun s3 => ?_)
    refine kk_aln hG (x := (some p0)) rfl rfl ?_
    refine kk_ic hG rfl cc_i0 ?_
    refine kk_pi hG (c := 0) (k := 1) (a := p0) rfl rfl rfl rfl (fun s4 => ?_)
    exact kk_rv hG rfl rfl k
  refine (show KK sa R base G 0 [(0, va_rf (some p0)), (1, .int p1)] [] s kc ks (C_By_init sa p0 p1 s kc ks Q) from ?_) hw h
  refine kk_aln hG (x := (some p0)) rfl rfl ?_
  refine kk_oi hG (a := p0) rfl rfl (Nat.le_of_ble_eq_true rfl) ?_
  refine kk_aln hG (x := (some p0)) rfl rfl ?_
  refine kks hG rfl rfl ?_
  refine kk_bi hG rfl cc_b16 ?_
  refine kk_ige hG (t := 16) rfl rfl ?_ ?_
  · refine kks hG rfl rfl ?_
    exact kk_wl hG [0] rfl (b17 _ _ _ _ _)
  refine kk_bi hG rfl cc_b16 ?_
  refine kk_go hG (t := 17) rfl rfl ?_
  exact kk_wl hG [0] rfl (b17 _ _ _ _ _)
def C_Li_init (sa : Nat → Nat) (p0 : Nat) (p1 : Option Nat) (p2 : Int32) (p3 : Int32) (p4 : Int32) (s : cS) (kc ks : Nat) (Q : (cS → Nat → Nat → Prop)) : Prop := ob (pZ s 3 4 p0 (1 : Int32)) (fun s1 => (ob (pI s1 3 5 p0 (0 : Int32)) (fun s2 => (ob (pI s2 3 6 p0 (0 : Int32)) (fun s3 => (nwO sa s3 kc ks 0 2 (fun q4 sq4 cq4 dq4 => (okO sq4 0 q4 ∧ C_By_init sa q4 (16 : Int32) sq4 cq4 dq4 (fun sr5 cr5 dr5 => (ob (pP sr5 3 7 p0 (some q4)) (fun s6 => (ob (pP s6 3 0 p0 p1) (fun s7 => (ob (pI s7 3 1 p0 (mxI p2 (1 : Int32))) (fun s8 => (ob (pI s8 3 2 p0 (mxI p3 (0 : Int32))) (fun s9 => (ob (pI s9 3 3 p0 p4) (fun s10 => (Q s10 cr5 dr5))))))))))))))))))))
set_option maxRecDepth 100000 in
set_option maxHeartbeats 4000000 in
theorem kc_Li_init (base : Nat) (sa : Nat → Nat) {R : pmM} {s : cS} {kc ks : Nat} {Rt : pmR} {p0 : Nat} {p1 : Option Nat} {p2 : Int32} {p3 : Int32} {p4 : Int32} {Q : (cS → Nat → Nat → Prop)} (hw : cW sa R base s) (h : C_Li_init sa p0 p1 p2 p3 p4 s kc ks Q) (k : ∀ s' kc' ks', cW sa R base s' → Q s' kc' ks' → Rt none (cM R s') kc' ks') : kP_Li_init base sa [.ref p0, va_rf p1, .int p2, .int p3, .int p4] (cM R s) kc ks Rt := by
  refine ⟨by cases p1 <;> exact Nat.le_of_ble_eq_true rfl, fun G hG => ?_⟩
  have eL : lv_args 0 [.ref p0, va_rf p1, .int p2, .int p3, .int p4] = [(0, va_rf (some p0)), (1, va_rf p1), (2, .int p2), (3, .int p3), (4, .int p4)] := by cases p1 <;> rfl
  rw [eL]
  refine (show KK sa R base G 0 [(0, va_rf (some p0)), (1, va_rf p1), (2, .int p2), (3, .int p3), (4, .int p4)] [] s kc ks (C_Li_init sa p0 p1 p2 p3 p4 s kc ks Q) from ?_) hw h
  refine kk_aln hG (x := (some p0)) rfl rfl ?_
  refine kk_oi hG (a := p0) rfl rfl (Nat.le_of_ble_eq_true rfl) ?_
  refine kk_aln hG (x := (some p0)) rfl rfl ?_
  refine kk_ic hG rfl cc_i1 ?_
  refine kk_pz hG (c := 3) (k := 4) (a := p0) rfl rfl rfl rfl (fun s1 => ?_)
  refine kk_aln hG (x := (some p0)) rfl rfl ?_
  refine kk_ic hG rfl cc_i0 ?_
  refine kk_pi hG (c := 3) (k := 5) (a := p0) rfl rfl rfl rfl (fun s2 => ?_)
  refine kk_aln hG (x := (some p0)) rfl rfl ?_
  refine kk_ic hG rfl cc_i0 ?_
  refine kk_pi hG (c := 3) (k := 6) (a := p0) rfl rfl rfl rfl (fun s3 => ?_)
  refine kk_aln hG (x := (some p0)) rfl rfl ?_
  refine kk_new hG (c := 0) (n := 2) rfl rfl rfl rfl (fun q4 sq4 cq4 dq4 => ?_)
  refine kk_dup hG (x := (some q4)) rfl ?_
  refine kk_bi hG rfl cc_b16 ?_
  refine kk_cv hG 1 rfl rfl (Nat.le_of_ble_eq_true rfl) (by decide) rfl (st' := [va_rf (some q4), va_rf (some p0)]) rfl (cats_le (Nat.le_of_ble_eq_true rfl)) (fun _ hw h k => kk_rcv h.1 (kc_By_init base sa hw h.2 k)) (fun sr5 cr5 dr5 => ?_)
  refine kk_pp hG (c := 3) (k := 7) (a := p0) (v := (some q4)) rfl rfl rfl rfl rfl (fun s6 => ?_)
  refine kk_aln hG (x := (some p0)) rfl rfl ?_
  refine kk_aln hG (x := p1) rfl rfl ?_
  refine kk_pp hG (c := 3) (k := 0) (a := p0) (v := p1) rfl rfl rfl rfl rfl (fun s7 => ?_)
  refine kk_aln hG (x := (some p0)) rfl rfl ?_
  refine kks hG rfl rfl ?_
  refine kk_ic hG rfl cc_i1 ?_
  refine kk_mx hG rfl rfl (Nat.le_of_ble_eq_true rfl) ?_
  refine kk_pi hG (c := 3) (k := 1) (a := p0) rfl rfl rfl rfl (fun s8 => ?_)
  refine kk_aln hG (x := (some p0)) rfl rfl ?_
  refine kks hG rfl rfl ?_
  refine kk_ic hG rfl cc_i0 ?_
  refine kk_mx hG rfl rfl (Nat.le_of_ble_eq_true rfl) ?_
  refine kk_pi hG (c := 3) (k := 2) (a := p0) rfl rfl rfl rfl (fun s9 => ?_)
  refine kk_aln hG (x := (some p0)) rfl rfl ?_
  refine kks hG rfl rfl ?_
  refine kk_pi hG (c := 3) (k := 3) (a := p0) rfl rfl rfl rfl (fun s10 => ?_)
  exact kk_rv hG rfl rfl k
