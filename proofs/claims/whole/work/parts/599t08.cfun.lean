/-! Methods as weakest preconditions, by program: Rf_launch .. Ig_bitCount -/
def C_Rf_launch_b131 (sa : Nat → Nat) (p0 : Nat) (p1 : Option Nat) (a2 : Int32) (s : cS) (kc ks : Nat) (Q : (cS → Nat → Nat → Prop)) : Prop := ob (gP s 11 16 p0) (fun v1 => (ob v1 (fun b2 => (ob (pP s 2 8 b2 p1) (fun s3 => (ob (gP s3 11 16 p0) (fun v4 => (ob (gI s3 11 5 p0) (fun v5 => (ob v4 (fun b6 => (ob (pI s3 2 9 b6 (v5 + a2)) (fun s7 => (ob (gP s7 11 12 p0) (fun v8 => (ob (gI s7 11 13 p0) (fun v9 => (ob (gP s7 11 16 p0) (fun v10 => (ob v8 (fun b11 => (ob (wQ s7 b11 v9 v10) (fun s12 => (ob (gI s12 11 13 p0) (fun v13 => (ob (pI s12 11 13 p0 (v13 + (1 : Int32))) (fun s14 => (ob (gI s14 11 15 p0) (fun v15 => (if 0 < v15 then (ob (gI s14 11 15 p0) (fun v19 => (ob (pI s14 11 15 p0 (v19 - (1 : Int32))) (fun s20 => (ob (gP s20 11 14 p0) (fun v21 => (ob (gI s20 11 15 p0) (fun v22 => (ob v21 (fun b23 => (ob (rQ s20 b23 v22) (fun v24 => (ob (pP s20 11 16 p0 v24) (fun s25 => (Q s25 kc ks))))))))))))))) else (nwO s14 kc ks 2 12 (fun q16 sq16 cq16 dq16 => (okO sq16 2 q16 ∧ C_Da_init sa q16 sq16 cq16 dq16 (fun sr17 cr17 dr17 => (ob (pP sr17 11 16 p0 (some q16)) (fun s18 => (Q s18 cr17 dr17)))))))))))))))))))))))))))))))))))))
def C_Rf_launch_b92 (sa : Nat → Nat) (p0 : Nat) (p1 : Option Nat) (a2 : Int32) (s : cS) (kc ks : Nat) (Q : (cS → Nat → Nat → Prop)) : Prop := ob (gI s 11 13 p0) (fun v1 => (if v1 < (256 : Int32) then (ob (gP s 11 16 p0) (fun v2 => (ob v2 (fun b3 => (ob (gP s 2 7 b3) (fun v4 => (if v4 = none then ((C_Rf_launch_b131 sa p0 p1 a2 s kc ks Q)) else (ob p1 (fun b5 => (ob (gI s 3 6 b5) (fun v6 => (if 0 < v6 then (ob (gI s 3 6 b5) (fun v7 => (ob (pI s 3 6 b5 (v7 - (1 : Int32))) (fun s8 => (Q s8 kc ks))))) else ((C_Rf_launch_b131 sa p0 (some b5) a2 s kc ks Q)))))))))))))) else (Q s kc ks)))
def C_Rf_launch (sa : Nat → Nat) (p0 : Nat) (p1 : Option Nat) (s : cS) (kc ks : Nat) (Q : (cS → Nat → Nat → Prop)) : Prop := ob p1 (fun b1 => (ob (gI s 3 1 b1) (fun v2 => (ob (gI s 3 5 b1) (fun v3 => (ob (gI s 3 2 b1) (fun v4 => (¬ (Int32.toInt64 (v4 + (1 : Int32))) = 0 ∧ (ob (gI s 3 5 b1) (fun v5 => (ob (pI s 3 5 b1 (v5 + (1 : Int32))) (fun s6 => (ob (gP s6 3 7 b1) (fun v7 => (ob v7 (fun b8 => (okO s6 0 b8 ∧ C_By_clear sa b8 s6 kc ks (fun sr9 cr9 dr9 => (ob (gP sr9 3 7 b1) (fun v10 => (ob (gP sr9 11 16 p0) (fun v11 => (ob v11 (fun b12 => (ob (gP sr9 2 0 b12) (fun v13 => (ob (gP sr9 11 16 p0) (fun v14 => (ob v14 (fun b15 => (ob (gP sr9 2 0 b15) (fun v16 => (ob v16 (fun b17 => (ob (gI sr9 0 1 b17) (fun v18 => (ob v10 (fun b19 => (okO sr9 0 b19 ∧ C_By_addPart sa b19 v13 (0 : Int32) v18 sr9 cr9 dr9 (fun sr20 cr20 dr20 => (ob (gP sr20 11 16 p0) (fun v21 => (ob v21 (fun b22 => (ob (gP sr20 2 7 b22) (fun v23 => (if v23 = none then ((C_Rf_launch_b92 sa p0 (some b1) (v2 + (Int64.toInt32 (rem_L ((3 : Int64) * (Int32.toInt64 v3)) (Int32.toInt64 (v4 + (1 : Int32)))))) sr20 cr20 dr20 Q)) else (ob (gP sr20 11 16 p0) (fun v24 => (ob v24 (fun b25 => (ob (gP sr20 2 7 b25) (fun v26 => (ob v26 (fun b27 => (ob (gP sr20 9 16 b27) (fun v28 => (ob v28 (fun b29 => (ob (rE sr20 .int b29 (5 : Int32)) (fun v30 => (ob (wEi sr20 b29 (5 : Int32) (v30 + (1 : Int32))) (fun s31 => ((C_Rf_launch_b92 sa p0 (some b1) (v2 + (Int64.toInt32 (rem_L ((3 : Int64) * (Int32.toInt64 v3)) (Int32.toInt64 (v4 + (1 : Int32)))))) s31 cr20 dr20 Q)))))))))))))))))))))))))))))))))))))))))))))))))))))))))))))))))
set_option maxRecDepth 100000 in
set_option maxHeartbeats 4000000 in
theorem kc_Rf_launch (base : Nat) (sa : Nat → Nat) {R : pmM} {s : cS} {kc ks : Nat} {Rt : pmR} {p0 : Nat} {p1 : Option Nat} {Q : (cS → Nat → Nat → Prop)} (hw : cW sa R base s) (h : C_Rf_launch sa p0 p1 s kc ks Q) (k : ∀ s' kc' ks', cW sa R base s' → Q s' kc' ks' → Rt none (cM R s') kc' ks') : kP_Rf_launch base sa [.ref p0, va_rf p1] (cM R s) kc ks Rt := by
  refine ⟨by cases p1 <;> exact Nat.le_of_ble_eq_true rfl, fun G hG => ?_⟩
  have eL : lv_args 0 [.ref p0, va_rf p1] = [(0, va_rf (some p0)), (1, va_rf p1)] := by cases p1 <;> rfl
  rw [eL]
  have b131 : ∀ (a2 : Int32) (s : cS) (kc ks : Nat), KK sa R base G 131 [(0, va_rf (some p0)), (1, va_rf p1), (2, .int a2)] [] s kc ks (C_Rf_launch_b131 sa p0 p1 a2 s kc ks Q) := by
    intro a2 s kc ks
    refine kk_aln hG (x := (some p0)) rfl rfl ?_
    refine kk_gp hG (c := 11) (k := 16) (a := p0) rfl rfl rfl rfl (fun v1 => ?_)
    refine kk_aln hG (x := p1) rfl rfl ?_
    refine kk_ob (fun b2 eb2 => ?_)
    subst eb2
    refine kk_pp hG (c := 2) (k := 8) (a := b2) (v := p1) rfl rfl rfl rfl rfl (fun s3 => ?_)
    refine kk_aln hG (x := (some p0)) rfl rfl ?_
    refine kk_gp hG (c := 11) (k := 16) (a := p0) rfl rfl rfl rfl (fun v4 => ?_)
    refine kk_aln hG (x := (some p0)) rfl rfl ?_
    refine kk_gi hG (c := 11) (k := 5) (a := p0) rfl rfl rfl rfl (fun v5 => ?_)
    refine kks hG rfl rfl ?_
    refine kks hG rfl rfl ?_
    refine kk_ob (fun b6 eb6 => ?_)
    subst eb6
    refine kk_pi hG (c := 2) (k := 9) (a := b6) rfl rfl rfl rfl (fun s7 => ?_)
    refine kk_aln hG (x := (some p0)) rfl rfl ?_
    refine kk_gp hG (c := 11) (k := 12) (a := p0) rfl rfl rfl rfl (fun v8 => ?_)
    refine kk_aln hG (x := (some p0)) rfl rfl ?_
    refine kk_gi hG (c := 11) (k := 13) (a := p0) rfl rfl rfl rfl (fun v9 => ?_)
    refine kk_aln hG (x := (some p0)) rfl rfl ?_
    refine kk_gp hG (c := 11) (k := 16) (a := p0) rfl rfl rfl rfl (fun v10 => ?_)
    refine kk_ob (fun b11 eb11 => ?_)
    subst eb11
    refine kk_aas hG (a := b11) (x := v10) rfl (fun s12 => ?_)
    refine kk_aln hG (x := (some p0)) rfl rfl ?_
    refine kk_dup hG (x := (some p0)) rfl ?_
    refine kk_gi hG (c := 11) (k := 13) (a := p0) rfl rfl rfl rfl (fun v13 => ?_)
    refine kk_ic hG rfl cc_i1 ?_
    refine kks hG rfl rfl ?_
    refine kk_pi hG (c := 11) (k := 13) (a := p0) rfl rfl rfl rfl (fun s14 => ?_)
    refine kk_aln hG (x := (some p0)) rfl rfl ?_
    refine kk_gi hG (c := 11) (k := 15) (a := p0) rfl rfl rfl rfl (fun v15 => ?_)
    refine kk_zle hG (t := 208) rfl rfl ?_ ?_
    · refine kk_aln hG (x := (some p0)) rfl rfl ?_
      refine kk_new hG (c := 2) (n := 12) rfl rfl rfl rfl (fun q16 sq16 cq16 dq16 => ?_)
      refine kk_dup hG (x := (some q16)) rfl ?_
      refine kk_cv hG 1 rfl rfl (Nat.le_of_ble_eq_true rfl) (by decide) rfl (st' := [va_rf (some q16), va_rf (some p0)]) rfl (cats_le (Nat.le_of_ble_eq_true rfl)) (fun _ hw h k => kk_rcv h.1 (kc_Da_init base sa hw h.2 k)) (fun sr17 cr17 dr17 => ?_)
      refine kk_pp hG (c := 11) (k := 16) (a := p0) (v := (some q16)) rfl rfl rfl rfl rfl (fun s18 => ?_)
      exact kk_rv hG rfl rfl k
    refine kk_aln hG (x := (some p0)) rfl rfl ?_
    refine kk_dup hG (x := (some p0)) rfl ?_
    refine kk_gi hG (c := 11) (k := 15) (a := p0) rfl rfl rfl rfl (fun v19 => ?_)
    refine kk_ic hG rfl cc_i1 ?_
    refine kks hG rfl rfl ?_
    refine kk_pi hG (c := 11) (k := 15) (a := p0) rfl rfl rfl rfl (fun s20 => ?_)
    refine kk_aln hG (x := (some p0)) rfl rfl ?_
    refine kk_aln hG (x := (some p0)) rfl rfl ?_
    refine kk_gp hG (c := 11) (k := 14) (a := p0) rfl rfl rfl rfl (fun v21 => ?_)
    refine kk_aln hG (x := (some p0)) rfl rfl ?_
    refine kk_gi hG (c := 11) (k := 15) (a := p0) rfl rfl rfl rfl (fun v22 => ?_)
    refine kk_ob (fun b23 eb23 => ?_)
    subst eb23
    refine kk_aa hG (a := b23) rfl (fun v24 => ?_)
    refine kk_pp hG (c := 11) (k := 16) (a := p0) (v := v24) rfl rfl rfl rfl rfl (fun s25 => ?_)
    refine kk_go hG (t := 219) rfl rfl ?_
    exact kk_rv hG rfl rfl k
  have b92 : ∀ (a2 : Int32) (s : cS) (kc ks : Nat), KK sa R base G 92 [(0, va_rf (some p0)), (1, va_rf p1), (2, .int a2)] [] s kc ks (C_Rf_launch_b92 sa p0 p1 a2 s kc ks Q) := by
    intro a2 s kc ks
    refine kk_aln hG (x := (some p0)) rfl rfl ?_
    refine kk_gi hG (c := 11) (k := 13) (a := p0) rfl rfl rfl rfl (fun v1 => ?_)
    refine kk_si hG rfl cc_s256 ?_
    refine kk_ilt hG (t := 103) rfl rfl ?_ ?_
    · refine kk_aln hG (x := (some p0)) rfl rfl ?_
      refine kk_gp hG (c := 11) (k := 16) (a := p0) rfl rfl rfl rfl (fun v2 => ?_)
      refine kk_ob (fun b3 eb3 => ?_)
      subst eb3
      refine kk_gp hG (c := 2) (k := 7) (a := b3) rfl rfl rfl rfl (fun v4 => ?_)
      refine kk_nul hG (x := v4) (t := 131) rfl rfl ?_ ?_
      · exact kk_wl hG [0, 1, 2] rfl (b131 _ _ _ _)
      refine kk_aln hG (x := p1) rfl rfl ?_
      refine kk_ob (fun b5 eb5 => ?_)
      subst eb5
      refine kk_gi hG (c := 3) (k := 6) (a := b5) rfl rfl rfl rfl (fun v6 => ?_)
      refine kk_zle hG (t := 131) rfl rfl ?_ ?_
      · exact kk_wl hG [0, 1, 2] rfl (b131 _ _ _ _)
      refine kk_aln hG (x := (some b5)) rfl rfl ?_
      refine kk_dup hG (x := (some b5)) rfl ?_
      refine kk_gi hG (c := 3) (k := 6) (a := b5) rfl rfl rfl rfl (fun v7 => ?_)
      refine kk_ic hG rfl cc_i1 ?_
      refine kks hG rfl rfl ?_
      refine kk_pi hG (c := 3) (k := 6) (a := b5) rfl rfl rfl rfl (fun s8 => ?_)
      exact kk_rv hG rfl rfl k
    exact kk_rv hG rfl rfl k
  refine (show KK sa R base G 0 [(0, va_rf (some p0)), (1, va_rf p1)] [] s kc ks (C_Rf_launch sa p0 p1 s kc ks Q) from ?_) hw h
  refine kk_aln hG (x := p1) rfl rfl ?_
  refine kk_ob (fun b1 eb1 => ?_)
  subst eb1
  refine kk_gi hG (c := 3) (k := 1) (a := b1) rfl rfl rfl rfl (fun v2 => ?_)
  refine kk_l2 hG (v := (3 : Int64)) rfl rfl ?_
  refine kk_aln hG (x := (some b1)) rfl rfl ?_
  refine kk_gi hG (c := 3) (k := 5) (a := b1) rfl rfl rfl rfl (fun v3 => ?_)
  refine kks hG rfl rfl ?_
  refine kks hG rfl rfl ?_
  refine kk_aln hG (x := (some b1)) rfl rfl ?_
  refine kk_gi hG (c := 3) (k := 2) (a := b1) rfl rfl rfl rfl (fun v4 => ?_)
  refine kk_ic hG rfl cc_i1 ?_
  refine kks hG rfl rfl ?_
  refine kks hG rfl rfl ?_
  refine kk_nzL hG rfl rfl ?_
  refine kks hG rfl rfl ?_
  refine kks hG rfl rfl ?_
  refine kk_st hG (L' := [(2, .int (v2 + (Int64.toInt32 (rem_L ((3 : Int64) * (Int32.toInt64 v3)) (Int32.toInt64 (v4 + (1 : Int32))))))), (0, va_rf (some p0)), (1, va_rf (some b1))]) rfl rfl (Nat.le_of_ble_eq_true rfl) rfl ?_
  refine kk_aln hG (x := (some b1)) rfl rfl ?_
  refine kk_dup hG (x := (some b1)) rfl ?_
  refine kk_gi hG (c := 3) (k := 5) (a := b1) rfl rfl rfl rfl (fun v5 => ?_)
  refine kk_ic hG rfl cc_i1 ?_
  refine kks hG rfl rfl ?_
  refine kk_pi hG (c := 3) (k := 5) (a := b1) rfl rfl rfl rfl (fun s6 => ?_)
  refine kk_aln hG (x := (some b1)) rfl rfl ?_
  refine kk_gp hG (c := 3) (k := 7) (a := b1) rfl rfl rfl rfl (fun v7 => ?_)
  refine kk_ob (fun b8 eb8 => ?_)
  subst eb8
  refine kk_cv hG 0 rfl rfl (Nat.le_of_ble_eq_true rfl) (by decide) rfl (st' := []) rfl (cats_le (Nat.le_of_ble_eq_true rfl)) (fun _ hw h k => kk_rcv h.1 (kc_By_clear base sa hw h.2 k)) (fun sr9 cr9 dr9 => ?_)
  refine kk_aln hG (x := (some b1)) rfl rfl ?_
  refine kk_gp hG (c := 3) (k := 7) (a := b1) rfl rfl rfl rfl (fun v10 => ?_)
  refine kk_aln hG (x := (some p0)) rfl rfl ?_
  refine kk_gp hG (c := 11) (k := 16) (a := p0) rfl rfl rfl rfl (fun v11 => ?_)
  refine kk_ob (fun b12 eb12 => ?_)
  subst eb12
  refine kk_gp hG (c := 2) (k := 0) (a := b12) rfl rfl rfl rfl (fun v13 => ?_)
  refine kk_ic hG rfl cc_i0 ?_
  refine kk_aln hG (x := (some p0)) rfl rfl ?_
  refine kk_gp hG (c := 11) (k := 16) (a := p0) rfl rfl rfl rfl (fun v14 => ?_)
  refine kk_ob (fun b15 eb15 => ?_)
  subst eb15
  refine kk_gp hG (c := 2) (k := 0) (a := b15) rfl rfl rfl rfl (fun v16 => ?_)
  refine kk_ob (fun b17 eb17 => ?_)
  subst eb17
  refine kk_gi hG (c := 0) (k := 1) (a := b17) rfl rfl rfl rfl (fun v18 => ?_)
  refine kk_ob (fun b19 eb19 => ?_)
  subst eb19
  refine kk_cv hG 0 rfl rfl (Nat.le_of_ble_eq_true rfl) (by decide) rfl (st' := []) rfl (cats_le (Nat.le_of_ble_eq_true rfl)) (fun _ hw h k => kk_rcv h.1 (kc_By_addPart base sa hw h.2 k)) (fun sr20 cr20 dr20 => ?_)
  refine kk_aln hG (x := (some p0)) rfl rfl ?_
  refine kk_gp hG (c := 11) (k := 16) (a := p0) rfl rfl rfl rfl (fun v21 => ?_)
  refine kk_ob (fun b22 eb22 => ?_)
  subst eb22
  refine kk_gp hG (c := 2) (k := 7) (a := b22) rfl rfl rfl rfl (fun v23 => ?_)
  refine kk_nul hG (x := v23) (t := 92) rfl rfl ?_ ?_
  · exact kk_wl hG [1, 2, 0] rfl (b92 _ _ _ _)
  refine kk_aln hG (x := (some p0)) rfl rfl ?_
  refine kk_gp hG (c := 11) (k := 16) (a := p0) rfl rfl rfl rfl (fun v24 => ?_)
  refine kk_ob (fun b25 eb25 => ?_)
  subst eb25
  refine kk_gp hG (c := 2) (k := 7) (a := b25) rfl rfl rfl rfl (fun v26 => ?_)
  refine kk_ob (fun b27 eb27 => ?_)
  subst eb27
  refine kk_gp hG (c := 9) (k := 16) (a := b27) rfl rfl rfl rfl (fun v28 => ?_)
  refine kk_ic hG rfl cc_i5 ?_
  refine kk_dup2 hG (x := v28) rfl ?_
  refine kk_ob (fun b29 eb29 => ?_)
  subst eb29
  refine kk_ia hG (a := b29) rfl (fun v30 => ?_)
  refine kk_ic hG rfl cc_i1 ?_
  refine kks hG rfl rfl ?_
  refine kk_is hG (a := b29) rfl (fun s31 => ?_)
  exact kk_wl hG [1, 2, 0] rfl (b92 _ _ _ _)
def C_Rr_sendDraft_b72 (sa : Nat → Nat) (p0 : Nat) (p1 : Option Nat) (a3 : Option Nat) (s : cS) (kc ks : Nat) (Q : (cS → Nat → Nat → Prop)) : Prop := ob a3 (fun b1 => (ob (gI s 2 4 b1) (fun v2 => (C_Da_portOf sa v2 s kc ks (fun r3 sr3 cr3 dr3 => (ob (pI sr3 2 5 b1 r3) (fun s4 => (ob (pI s4 2 6 b1 (255 : Int32)) (fun s5 => (ob (pP s5 2 7 b1 (some p0)) (fun s6 => (ob (gP s6 9 0 p0) (fun v7 => (ob p1 (fun b8 => (ob (gP s6 4 0 b8) (fun v9 => (ob v7 (fun b10 => (okO s6 11 b10 ∧ C_Rf_launch sa b10 v9 s6 cr3 dr3 (fun sr11 cr11 dr11 => (Q sr11 cr11 dr11))))))))))))))))))))))
def C_Rr_sendDraft_b57 (sa : Nat → Nat) (p0 : Nat) (p1 : Option Nat) (p2 : Option Nat) (a3 : Option Nat) (u0 : Option Nat) (u1 : Int32) (s : cS) (kc ks : Nat) (Q : (cS → Nat → Nat → Prop)) : Prop := ob u0 (fun b1 => (ob (pZ s 2 3 b1 u1) (fun s2 => (if p2 = none then ((C_Rr_sendDraft_b72 sa p0 p1 a3 s2 kc ks Q)) else (ob a3 (fun b3 => (ob (gP s2 2 2 b3) (fun v4 => (ob v4 (fun b5 => (okO s2 5 b5 ∧ C_Pr_copy sa b5 p2 s2 kc ks (fun sr6 cr6 dr6 => ((C_Rr_sendDraft_b72 sa p0 p1 (some b3) sr6 cr6 dr6 Q))))))))))))))
def C_Rr_sendDraft (sa : Nat → Nat) (p0 : Nat) (p1 : Option Nat) (p2 : Option Nat) (s : cS) (kc ks : Nat) (Q : (cS → Nat → Nat → Prop)) : Prop := ob (gP s 9 0 p0) (fun v1 => (ob v1 (fun b2 => (ob (gP s 11 16 b2) (fun v3 => (ob v3 (fun b4 => (ob (gI s 2 4 b4) (fun v5 => (ob p1 (fun b6 => (okO s 4 b6 ∧ C_Po_addressOf sa b6 v5 s kc ks (fun r7 sr7 cr7 dr7 => (if r7 = none then (Q sr7 cr7 dr7) else (ob (gP sr7 2 1 b4) (fun v8 => (ob v8 (fun b9 => (okO sr7 5 b9 ∧ C_Pr_copy sa b9 r7 sr7 cr7 dr7 (fun sr10 cr10 dr10 => (ob (gP sr10 2 1 b4) (fun v11 => (ob (gI sr10 2 4 b4) (fun v12 => (C_Pr_bitsOf sa v12 sr10 cr10 dr10 (fun r13 sr13 cr13 dr13 => (ob v11 (fun b14 => (ob (pI sr13 5 3 b14 r13) (fun s15 => (if p2 = none then ((C_Rr_sendDraft_b57 sa p0 (some b6) p2 (some b4) (some b4) (1 : Int32) s15 cr13 dr13 Q)) else ((C_Rr_sendDraft_b57 sa p0 (some b6) p2 (some b4) (some b4) (0 : Int32) s15 cr13 dr13 Q)))))))))))))))))))))))))))))))))
set_option maxRecDepth 100000 in
set_option maxHeartbeats 4000000 in
theorem kc_Rr_sendDraft (base : Nat) (sa : Nat → Nat) {R : pmM} {s : cS} {kc ks : Nat} {Rt : pmR} {p0 : Nat} {p1 : Option Nat} {p2 : Option Nat} {Q : (cS → Nat → Nat → Prop)} (hw : cW sa R base s) (h : C_Rr_sendDraft sa p0 p1 p2 s kc ks Q) (k : ∀ s' kc' ks', cW sa R base s' → Q s' kc' ks' → Rt none (cM R s') kc' ks') : kP_Rr_sendDraft base sa [.ref p0, va_rf p1, va_rf p2] (cM R s) kc ks Rt := by
  refine ⟨by cases p1 <;> cases p2 <;> exact Nat.le_of_ble_eq_true rfl, fun G hG => ?_⟩
  have eL : lv_args 0 [.ref p0, va_rf p1, va_rf p2] = [(0, va_rf (some p0)), (1, va_rf p1), (2, va_rf p2)] := by cases p1 <;> cases p2 <;> rfl
  rw [eL]
  have b72 : ∀ (a3 : Option Nat) (s : cS) (kc ks : Nat), KK sa R base G 72 [(0, va_rf (some p0)), (1, va_rf p1), (3, va_rf a3)] [] s kc ks (C_Rr_sendDraft_b72 sa p0 p1 a3 s kc ks Q) := by
    intro a3 s kc ks
    refine kk_aln hG (x := a3) rfl rfl ?_
    refine kk_aln hG (x := a3) rfl rfl ?_
    refine kk_ob (fun b1 eb1 => ?_)
    subst eb1
    refine kk_gi hG (c := 2) (k := 4) (a := b1) rfl rfl rfl rfl (fun v2 => ?_)
    refine kk_cx (w := .int) hG 2 rfl rfl (Nat.le_of_ble_eq_true rfl) (by decide) rfl (st' := [va_rf (some b1)]) rfl (cats_le (Nat.le_of_ble_eq_true rfl)) (fun _ hw h k => kc_Da_portOf base sa hw h k) (fun r3 sr3 cr3 dr3 => ?_)
    refine kk_pi hG (c := 2) (k := 5) (a := b1) rfl rfl rfl rfl (fun s4 => ?_)
    refine kk_aln hG (x := (some b1)) rfl rfl ?_
    refine kk_si hG rfl cc_s255 ?_
    refine kk_pi hG (c := 2) (k := 6) (a := b1) rfl rfl rfl rfl (fun s5 => ?_)
    refine kk_aln hG (x := (some b1)) rfl rfl ?_
    refine kk_aln hG (x := (some p0)) rfl rfl ?_
    refine kk_pp hG (c := 2) (k := 7) (a := b1) (v := (some p0)) rfl rfl rfl rfl rfl (fun s6 => ?_)
    refine kk_aln hG (x := (some p0)) rfl rfl ?_
    refine kk_gp hG (c := 9) (k := 0) (a := p0) rfl rfl rfl rfl (fun v7 => ?_)
    refine kk_aln hG (x := p1) rfl rfl ?_
    refine kk_ob (fun b8 eb8 => ?_)
    subst eb8
    refine kk_gp hG (c := 4) (k := 0) (a := b8) rfl rfl rfl rfl (fun v9 => ?_)
    refine kk_ob (fun b10 eb10 => ?_)
    subst eb10
    refine kk_cv hG 0 rfl rfl (Nat.le_of_ble_eq_true rfl) (by decide) rfl (st' := []) rfl (cats_le (Nat.le_of_ble_eq_true rfl)) (fun _ hw h k => kk_rcv h.1 (kc_Rf_launch base sa hw h.2 k)) (fun sr11 cr11 dr11 => ?_)
    exact kk_rv hG rfl rfl k
  have b57 : ∀ (a3 : Option Nat) (u0 : Option Nat) (u1 : Int32) (s : cS) (kc ks : Nat), KK sa R base G 57 [(0, va_rf (some p0)), (1, va_rf p1), (2, va_rf p2), (3, va_rf a3)] [.int u1, va_rf u0] s kc ks (C_Rr_sendDraft_b57 sa p0 p1 p2 a3 u0 u1 s kc ks Q) := by
    intro a3 u0 u1 s kc ks
    refine kk_ob (fun b1 eb1 => ?_)
    subst eb1
    refine kk_pz hG (c := 2) (k := 3) (a := b1) rfl rfl rfl rfl (fun s2 => ?_)
    refine kk_aln hG (x := p2) rfl rfl ?_
    refine kk_nul hG (x := p2) (t := 72) rfl rfl ?_ ?_
    · exact kk_wl hG [0, 1, 3] rfl (b72 _ _ _ _)
    refine kk_aln hG (x := a3) rfl rfl ?_
    refine kk_ob (fun b3 eb3 => ?_)
    subst eb3
    refine kk_gp hG (c := 2) (k := 2) (a := b3) rfl rfl rfl rfl (fun v4 => ?_)
    refine kk_aln hG (x := p2) rfl rfl ?_
    refine kk_ob (fun b5 eb5 => ?_)
    subst eb5
    refine kk_cv hG 0 rfl rfl (Nat.le_of_ble_eq_true rfl) (by decide) rfl (st' := []) rfl (cats_le (Nat.le_of_ble_eq_true rfl)) (fun _ hw h k => kk_rcv h.1 (kc_Pr_copy base sa hw h.2 k)) (fun sr6 cr6 dr6 => ?_)
    exact kk_wl hG [0, 1, 3] rfl (b72 _ _ _ _)
  refine (show KK sa R base G 0 [(0, va_rf (some p0)), (1, va_rf p1), (2, va_rf p2)] [] s kc ks (C_Rr_sendDraft sa p0 p1 p2 s kc ks Q) from ?_) hw h
  refine kk_aln hG (x := (some p0)) rfl rfl ?_
  refine kk_gp hG (c := 9) (k := 0) (a := p0) rfl rfl rfl rfl (fun v1 => ?_)
  refine kk_ob (fun b2 eb2 => ?_)
  subst eb2
  refine kk_gp hG (c := 11) (k := 16) (a := b2) rfl rfl rfl rfl (fun v3 => ?_)
  refine kk_asn hG (x := v3) (L' := [(3, va_rf v3), (0, va_rf (some p0)), (1, va_rf p1), (2, va_rf p2)]) rfl (Nat.le_of_ble_eq_true rfl) (by cases p2 <;> rfl) ?_
  refine kk_aln hG (x := p1) rfl rfl ?_
  refine kk_aln hG (x := v3) rfl rfl ?_
  refine kk_ob (fun b4 eb4 => ?_)
  subst eb4
  refine kk_gi hG (c := 2) (k := 4) (a := b4) rfl rfl rfl rfl (fun v5 => ?_)
  refine kk_ob (fun b6 eb6 => ?_)
  subst eb6
  refine kk_cx (w := va_rf) hG 0 rfl rfl (Nat.le_of_ble_eq_true rfl) (by decide) rfl (st' := []) rfl (cats_le (Nat.le_of_ble_eq_true rfl)) (fun _ hw h k => kk_rcv h.1 (kc_Po_addressOf base sa hw h.2 k)) (fun r7 sr7 cr7 dr7 => ?_)
  refine kk_as hG (x := r7) (L' := [(4, va_rf r7), (3, va_rf (some b4)), (0, va_rf (some p0)), (1, va_rf (some b6)), (2, va_rf p2)]) rfl (Nat.le_of_ble_eq_true rfl) rfl ?_
  refine kk_al hG (x := r7) rfl rfl ?_
  refine kk_nnl hG (x := r7) (t := 24) rfl rfl ?_ ?_
  · refine kk_aln hG (x := (some b4)) rfl rfl ?_
    refine kk_gp hG (c := 2) (k := 1) (a := b4) rfl rfl rfl rfl (fun v8 => ?_)
    refine kk_al hG (x := r7) rfl rfl ?_
    refine kk_ob (fun b9 eb9 => ?_)
    subst eb9
    refine kk_cv hG 0 rfl rfl (Nat.le_of_ble_eq_true rfl) (by decide) rfl (st' := []) rfl (cats_le (Nat.le_of_ble_eq_true rfl)) (fun _ hw h k => kk_rcv h.1 (kc_Pr_copy base sa hw h.2 k)) (fun sr10 cr10 dr10 => ?_)
    refine kk_aln hG (x := (some b4)) rfl rfl ?_
    refine kk_gp hG (c := 2) (k := 1) (a := b4) rfl rfl rfl rfl (fun v11 => ?_)
    refine kk_aln hG (x := (some b4)) rfl rfl ?_
    refine kk_gi hG (c := 2) (k := 4) (a := b4) rfl rfl rfl rfl (fun v12 => ?_)
    refine kk_cx (w := .int) hG 2 rfl rfl (Nat.le_of_ble_eq_true rfl) (by decide) rfl (st' := [va_rf v11]) rfl (cats_le (Nat.le_of_ble_eq_true rfl)) (fun _ hw h k => kc_Pr_bitsOf base sa hw h k) (fun r13 sr13 cr13 dr13 => ?_)
    refine kk_ob (fun b14 eb14 => ?_)
    subst eb14
    refine kk_pi hG (c := 5) (k := 3) (a := b14) rfl rfl rfl rfl (fun s15 => ?_)
    refine kk_aln hG (x := (some b4)) rfl rfl ?_
    refine kk_aln hG (x := p2) rfl rfl ?_
    refine kk_nnl hG (x := p2) (t := 56) rfl rfl ?_ ?_
    · refine kk_ic hG rfl cc_i0 ?_
      exact kk_wl hG [2, 3, 4, 1] rfl (b57 _ _ _ _ _ _)
    refine kk_ic hG rfl cc_i1 ?_
    refine kk_go hG (t := 57) rfl rfl ?_
    exact kk_wl hG [2, 3, 4, 1] rfl (b57 _ _ _ _ _ _)
  exact kk_rv hG rfl rfl k
def C_Rr_sendTold_b138 (sa : Nat → Nat) (p0 : Nat) (p1 : Option Nat) (p2 : Int32) (p3 : Option Nat) (a4 : Int32) (s : cS) (kc ks : Nat) (Q : (cS → Nat → Nat → Prop)) (P3 : (Int32 → cS → Nat → Nat → Prop)) : Prop := okO s 9 p0 ∧ C_Rr_sendDraft sa p0 p1 p3 s kc ks (fun sr1 cr1 dr1 => ((P3 a4 sr1 cr1 dr1)))
def C_Rr_sendTold_s60 (sa : Nat → Nat) (p0 : Nat) (p1 : Option Nat) (p2 : Int32) (p3 : Option Nat) (a5 : Int32) (a6 : Int32) (a4 : Int32) (s : cS) (kc ks : Nat) (Q : (cS → Nat → Nat → Prop)) (P3 : (Int32 → cS → Nat → Nat → Prop)) (P60 : (Int32 → cS → Nat → Nat → Prop)) : Prop := if a4 < a6 then (ob (gP s 9 0 p0) (fun v10 => (ob v10 (fun b11 => (ob (gP s 11 17 b11) (fun v12 => (ob v12 (fun b13 => (ob (gP s 10 0 b13) (fun v14 => (ob v14 (fun b15 => (ob (rQ s b15 a4) (fun v16 => (ob (gP s 9 0 p0) (fun v17 => (ob v17 (fun b18 => (ob (gP s 11 16 b18) (fun v19 => (ob v16 (fun b20 => (ob (gP s 8 0 b20) (fun v21 => (ob (gI s 8 5 b20) (fun v22 => (ob (gI s 8 4 b20) (fun v23 => (ob v19 (fun b24 => (okO s 2 b24 ∧ C_Da_addEntry sa b24 v21 v22 v23 s kc ks (fun sr25 cr25 dr25 => ((P60 (a4 + (1 : Int32)) sr25 cr25 dr25)))))))))))))))))))))))))))))))))) else ((if a5 = ((-1) : Int32) then ((C_Rr_sendTold_b138 sa p0 p1 p2 p3 a4 s kc ks Q P3)) else (ob p1 (fun b1 => (ob (gP s 4 6 b1) (fun v2 => (ob (gP s 9 0 p0) (fun v3 => (ob v3 (fun b4 => (ob (gP s 11 16 b4) (fun v5 => (ob v5 (fun b6 => (ob (gP s 2 0 b6) (fun v7 => (ob v2 (fun b8 => (okO s 1 b8 ∧ C_Ch_seal sa b8 v7 a5 s kc ks (fun sr9 cr9 dr9 => ((C_Rr_sendTold_b138 sa p0 (some b1) p2 p3 a4 sr9 cr9 dr9 Q P3))))))))))))))))))))))
def C_Rr_sendTold_b60 (sa : Nat → Nat) (p0 : Nat) (p1 : Option Nat) (p2 : Int32) (p3 : Option Nat) (a5 : Int32) (a6 : Int32) (a4 : Int32) (s : cS) (kc ks : Nat) (Q : (cS → Nat → Nat → Prop)) (P3 : (Int32 → cS → Nat → Nat → Prop)) : Prop := ∀ P60 : (Int32 → cS → Nat → Nat → Prop), (∀ (a4 : Int32) (s : cS) (kc ks : Nat), C_Rr_sendTold_s60 sa p0 p1 p2 p3 a5 a6 a4 s kc ks Q P3 P60 → P60 a4 s kc ks) → P60 a4 s kc ks
def C_Rr_sendTold_s3 (sa : Nat → Nat) (p0 : Nat) (p1 : Option Nat) (p2 : Int32) (p3 : Option Nat) (a4 : Int32) (s : cS) (kc ks : Nat) (Q : (cS → Nat → Nat → Prop)) (P3 : (Int32 → cS → Nat → Nat → Prop)) : Prop := ob (gP s 9 0 p0) (fun v1 => (ob v1 (fun b2 => (ob (gP s 11 17 b2) (fun v3 => (ob v3 (fun b4 => (ob (gI s 10 1 b4) (fun v5 => (if a4 < v5 then (okO s 9 p0 ∧ C_Rr_openDraft sa p0 p1 p2 (2 : Int32) s kc ks (fun r6 sr6 cr6 dr6 => (if r6 = ((-2) : Int32) then ((Q sr6 cr6 dr6)) else (ob (gP sr6 9 0 p0) (fun v7 => (ob v7 (fun b8 => (ob (gP sr6 11 17 b8) (fun v9 => (ob v9 (fun b10 => (ob (gI sr6 10 1 b10) (fun v11 => (ob p1 (fun b12 => (okO sr6 4 b12 ∧ C_Po_entryRoom sa b12 p2 r6 sr6 cr6 dr6 (fun r13 sr13 cr13 dr13 => ((C_Rr_sendTold_b60 sa p0 (some b12) p2 p3 r6 (mnI v11 (a4 + r13)) a4 sr13 cr13 dr13 Q P3))))))))))))))))))) else ((Q s kc ks))))))))))))
def C_Rr_sendTold_b3 (sa : Nat → Nat) (p0 : Nat) (p1 : Option Nat) (p2 : Int32) (p3 : Option Nat) (a4 : Int32) (s : cS) (kc ks : Nat) (Q : (cS → Nat → Nat → Prop)) : Prop := ∀ P3 : (Int32 → cS → Nat → Nat → Prop), (∀ (a4 : Int32) (s : cS) (kc ks : Nat), C_Rr_sendTold_s3 sa p0 p1 p2 p3 a4 s kc ks Q P3 → P3 a4 s kc ks) → P3 a4 s kc ks
def C_Rr_sendTold (sa : Nat → Nat) (p0 : Nat) (p1 : Option Nat) (p2 : Int32) (p3 : Option Nat) (s : cS) (kc ks : Nat) (Q : (cS → Nat → Nat → Prop)) : Prop := (C_Rr_sendTold_b3 sa p0 p1 p2 p3 (0 : Int32) s kc ks Q)
set_option maxRecDepth 100000 in
set_option maxHeartbeats 4000000 in
theorem kc_Rr_sendTold (base : Nat) (sa : Nat → Nat) {R : pmM} {s : cS} {kc ks : Nat} {Rt : pmR} {p0 : Nat} {p1 : Option Nat} {p2 : Int32} {p3 : Option Nat} {Q : (cS → Nat → Nat → Prop)} (hw : cW sa R base s) (h : C_Rr_sendTold sa p0 p1 p2 p3 s kc ks Q) (k : ∀ s' kc' ks', cW sa R base s' → Q s' kc' ks' → Rt none (cM R s') kc' ks') : kP_Rr_sendTold base sa [.ref p0, va_rf p1, .int p2, va_rf p3] (cM R s) kc ks Rt := by
  refine ⟨by cases p1 <;> cases p3 <;> exact Nat.le_of_ble_eq_true rfl, fun G hG => ?_⟩
  have eL : lv_args 0 [.ref p0, va_rf p1, .int p2, va_rf p3] = [(0, va_rf (some p0)), (1, va_rf p1), (2, .int p2), (3, va_rf p3)] := by cases p1 <;> cases p3 <;> rfl
  rw [eL]
  have b3 : ∀ (a4 : Int32) (s : cS) (kc ks : Nat), KK sa R base G 3 [(0, va_rf (some p0)), (1, va_rf p1), (2, .int p2), (3, va_rf p3), (4, .int a4)] [] s kc ks (C_Rr_sendTold_b3 sa p0 p1 p2 p3 a4 s kc ks Q) := by
    have H : ∀ (P3 : (Int32 → cS → Nat → Nat → Prop)) (hP3 : ∀ (a4 : Int32) (s : cS) (kc ks : Nat), P3 a4 s kc ks → cW sa R base s → G 3 [(0, va_rf (some p0)), (1, va_rf p1), (2, .int p2), (3, va_rf p3), (4, .int a4)] [] (cM R s) kc ks) (a4 : Int32) (s : cS) (kc ks : Nat), KK sa R base G 3 [(0, va_rf (some p0)), (1, va_rf p1), (2, .int p2), (3, va_rf p3), (4, .int a4)] [] s kc ks (C_Rr_sendTold_s3 sa p0 p1 p2 p3 a4 s kc ks Q P3) := by
      intro P3 hP3
      have b138 : ∀ (a4 : Int32) (s : cS) (kc ks : Nat), KK sa R base G 138 [(0, va_rf (some p0)), (1, va_rf p1), (2, .int p2), (3, va_rf p3), (4, .int a4)] [] s kc ks (C_Rr_sendTold_b138 sa p0 p1 p2 p3 a4 s kc ks Q P3) := by
        intro a4 s kc ks
        refine kk_aln hG (x := (some p0)) rfl rfl ?_
        refine kk_aln hG (x := p1) rfl rfl ?_
        refine kk_aln hG (x := p3) rfl rfl ?_
        refine kk_cv hG 0 rfl rfl (Nat.le_of_ble_eq_true rfl) (by decide) rfl (st' := []) rfl (cats_le (Nat.le_of_ble_eq_true rfl)) (fun _ hw h k => kk_rcv h.1 (kc_Rr_sendDraft base sa hw h.2 k)) (fun sr1 cr1 dr1 => ?_)
        refine kk_go hG (t := 3) rfl rfl ?_
        exact kk_wl hG [0, 1, 2, 3, 4] rfl (fun hw h => hP3 _ _ _ _ h hw)
      have b60 : ∀ (a5 : Int32) (a6 : Int32) (a4 : Int32) (s : cS) (kc ks : Nat), KK sa R base G 60 [(0, va_rf (some p0)), (1, va_rf p1), (2, .int p2), (3, va_rf p3), (4, .int a4), (5, .int a5), (6, .int a6)] [] s kc ks (C_Rr_sendTold_b60 sa p0 p1 p2 p3 a5 a6 a4 s kc ks Q P3) := by
        intro a5 a6
        have H : ∀ (P60 : (Int32 → cS → Nat → Nat → Prop)) (hP60 : ∀ (a4 : Int32) (s : cS) (kc ks : Nat), P60 a4 s kc ks → cW sa R base s → G 60 [(0, va_rf (some p0)), (1, va_rf p1), (2, .int p2), (3, va_rf p3), (4, .int a4), (5, .int a5), (6, .int a6)] [] (cM R s) kc ks) (a4 : Int32) (s : cS) (kc ks : Nat), KK sa R base G 60 [(0, va_rf (some p0)), (1, va_rf p1), (2, .int p2), (3, va_rf p3), (4, .int a4), (5, .int a5), (6, .int a6)] [] s kc ks (C_Rr_sendTold_s60 sa p0 p1 p2 p3 a5 a6 a4 s kc ks Q P3 P60) := by
          intro P60 hP60
          intro a4 s kc ks
          refine kks hG rfl rfl ?_
          refine kks hG rfl rfl ?_
          refine kk_ige hG (t := 113) rfl rfl ?_ ?_
          · refine kks hG rfl rfl ?_
            refine kk_ic hG rfl cc_im1 ?_
            refine kk_ieq hG (t := 138) rfl rfl ?_ ?_
            · exact kk_wl hG [0, 1, 2, 3, 4] rfl (b138 _ _ _ _)
            refine kk_aln hG (x := p1) rfl rfl ?_
            refine kk_ob (fun b1 eb1 => ?_)
            subst eb1
            refine kk_gp hG (c := 4) (k := 6) (a := b1) rfl rfl rfl rfl (fun v2 => ?_)
            refine kk_aln hG (x := (some p0)) rfl rfl ?_
            refine kk_gp hG (c := 9) (k := 0) (a := p0) rfl rfl rfl rfl (fun v3 => ?_)
            refine kk_ob (fun b4 eb4 => ?_)
            subst eb4
            refine kk_gp hG (c := 11) (k := 16) (a := b4) rfl rfl rfl rfl (fun v5 => ?_)
            refine kk_ob (fun b6 eb6 => ?_)
            subst eb6
            refine kk_gp hG (c := 2) (k := 0) (a := b6) rfl rfl rfl rfl (fun v7 => ?_)
            refine kks hG rfl rfl ?_
            refine kk_ob (fun b8 eb8 => ?_)
            subst eb8
            refine kk_cv hG 0 rfl rfl (Nat.le_of_ble_eq_true rfl) (by decide) rfl (st' := []) rfl (cats_le (Nat.le_of_ble_eq_true rfl)) (fun _ hw h k => kk_rcv h.1 (kc_Ch_seal base sa hw h.2 k)) (fun sr9 cr9 dr9 => ?_)
            exact kk_wl hG [0, 1, 2, 3, 4] rfl (b138 _ _ _ _)
          refine kk_aln hG (x := (some p0)) rfl rfl ?_
          refine kk_gp hG (c := 9) (k := 0) (a := p0) rfl rfl rfl rfl (fun v10 => ?_)
          refine kk_ob (fun b11 eb11 => ?_)
          subst eb11
          refine kk_gp hG (c := 11) (k := 17) (a := b11) rfl rfl rfl rfl (fun v12 => ?_)
          refine kk_ob (fun b13 eb13 => ?_)
          subst eb13
          refine kk_gp hG (c := 10) (k := 0) (a := b13) rfl rfl rfl rfl (fun v14 => ?_)
          refine kks hG rfl rfl ?_
          refine kk_ob (fun b15 eb15 => ?_)
          subst eb15
          refine kk_aa hG (a := b15) rfl (fun v16 => ?_)
          refine kk_as hG (x := v16) (L' := [(7, va_rf v16), (0, va_rf (some p0)), (1, va_rf p1), (2, .int p2), (3, va_rf p3), (4, .int a4), (5, .int a5), (6, .int a6)]) rfl (Nat.le_of_ble_eq_true rfl) rfl ?_
          refine kk_aln hG (x := (some p0)) rfl rfl ?_
          refine kk_gp hG (c := 9) (k := 0) (a := p0) rfl rfl rfl rfl (fun v17 => ?_)
          refine kk_ob (fun b18 eb18 => ?_)
          subst eb18
          refine kk_gp hG (c := 11) (k := 16) (a := b18) rfl rfl rfl rfl (fun v19 => ?_)
          refine kk_al hG (x := v16) rfl rfl ?_
          refine kk_ob (fun b20 eb20 => ?_)
          subst eb20
          refine kk_gp hG (c := 8) (k := 0) (a := b20) rfl rfl rfl rfl (fun v21 => ?_)
          refine kk_al hG (x := (some b20)) rfl rfl ?_
          refine kk_gi hG (c := 8) (k := 5) (a := b20) rfl rfl rfl rfl (fun v22 => ?_)
          refine kk_al hG (x := (some b20)) rfl rfl ?_
          refine kk_gi hG (c := 8) (k := 4) (a := b20) rfl rfl rfl rfl (fun v23 => ?_)
          refine kk_ob (fun b24 eb24 => ?_)
          subst eb24
          refine kk_cv hG 0 rfl rfl (Nat.le_of_ble_eq_true rfl) (by decide) rfl (st' := []) rfl (cats_le (Nat.le_of_ble_eq_true rfl)) (fun _ hw h k => kk_rcv h.1 (kc_Da_addEntry base sa hw h.2 k)) (fun sr25 cr25 dr25 => ?_)
          refine kk_inc hG (L' := [(4, .int (a4 + (1 : Int32))), (7, va_rf (some b20)), (0, va_rf (some p0)), (1, va_rf p1), (2, .int p2), (3, va_rf p3), (5, .int a5), (6, .int a6)]) rfl (Nat.le_of_ble_eq_true rfl) rfl cc_i1 (by cases p3 <;> rfl) ?_
          refine kk_go hG (t := 60) rfl rfl ?_
          exact kk_wl hG [2, 3, 4, 5, 0, 6, 7] rfl (fun hw h => hP60 _ _ _ _ h hw)
        exact fun a4 s kc ks hw h => h (fun a4 s kc ks => cW sa R base s → G 60 [(0, va_rf (some p0)), (1, va_rf p1), (2, .int p2), (3, va_rf p3), (4, .int a4), (5, .int a5), (6, .int a6)] [] (cM R s) kc ks) (fun a4 s kc ks hs hw => H _ (fun _ _ _ _ hp hw => hp hw) a4 s kc ks hw hs) hw
      intro a4 s kc ks
      refine kks hG rfl rfl ?_
      refine kk_aln hG (x := (some p0)) rfl rfl ?_
      refine kk_gp hG (c := 9) (k := 0) (a := p0) rfl rfl rfl rfl (fun v1 => ?_)
      refine kk_ob (fun b2 eb2 => ?_)
      subst eb2
      refine kk_gp hG (c := 11) (k := 17) (a := b2) rfl rfl rfl rfl (fun v3 => ?_)
      refine kk_ob (fun b4 eb4 => ?_)
      subst eb4
      refine kk_gi hG (c := 10) (k := 1) (a := b4) rfl rfl rfl rfl (fun v5 => ?_)
      refine kk_ige hG (t := 147) rfl rfl ?_ ?_
      · exact kk_rv hG rfl rfl k
      refine kk_aln hG (x := (some p0)) rfl rfl ?_
      refine kk_aln hG (x := p1) rfl rfl ?_
      refine kks hG rfl rfl ?_
      refine kk_ic hG rfl cc_i2 ?_
      refine kk_cx (w := .int) hG 0 rfl rfl (Nat.le_of_ble_eq_true rfl) (by decide) rfl (st' := []) rfl (cats_le (Nat.le_of_ble_eq_true rfl)) (fun _ hw h k => kk_rcv h.1 (kc_Rr_openDraft base sa hw h.2 k)) (fun r6 sr6 cr6 dr6 => ?_)
      refine kk_st hG (L' := [(5, .int r6), (0, va_rf (some p0)), (1, va_rf p1), (2, .int p2), (3, va_rf p3), (4, .int a4)]) rfl rfl (Nat.le_of_ble_eq_true rfl) rfl ?_
      refine kks hG rfl rfl ?_
      refine kk_bi hG rfl cc_bm2 ?_
      refine kk_ine hG (t := 35) rfl rfl ?_ ?_
      · refine kk_aln hG (x := (some p0)) rfl rfl ?_
        refine kk_gp hG (c := 9) (k := 0) (a := p0) rfl rfl rfl rfl (fun v7 => ?_)
        refine kk_ob (fun b8 eb8 => ?_)
        subst eb8
        refine kk_gp hG (c := 11) (k := 17) (a := b8) rfl rfl rfl rfl (fun v9 => ?_)
        refine kk_ob (fun b10 eb10 => ?_)
        subst eb10
        refine kk_gi hG (c := 10) (k := 1) (a := b10) rfl rfl rfl rfl (fun v11 => ?_)
        refine kks hG rfl rfl ?_
        refine kk_aln hG (x := p1) rfl rfl ?_
        refine kks hG rfl rfl ?_
        refine kks hG rfl rfl ?_
        refine kk_ob (fun b12 eb12 => ?_)
        subst eb12
        refine kk_cx (w := .int) hG 0 rfl rfl (Nat.le_of_ble_eq_true rfl) (by decide) rfl (st' := [.int a4, .int v11]) rfl (cats_le (Nat.le_of_ble_eq_true rfl)) (fun _ hw h k => kk_rcv h.1 (kc_Po_entryRoom base sa hw h.2 k)) (fun r13 sr13 cr13 dr13 => ?_)
        refine kks hG rfl rfl ?_
        refine kk_mn hG rfl rfl (Nat.le_of_ble_eq_true rfl) ?_
        refine kk_st hG (L' := [(6, .int (mnI v11 (a4 + r13))), (5, .int r6), (0, va_rf (some p0)), (1, va_rf (some b12)), (2, .int p2), (3, va_rf p3), (4, .int a4)]) rfl rfl (Nat.le_of_ble_eq_true rfl) rfl ?_
        exact kk_wl hG [2, 3, 4, 5, 6, 1, 0] rfl (b60 _ _ _ _ _ _)
      exact kk_rv hG rfl rfl k
    exact fun a4 s kc ks hw h => h (fun a4 s kc ks => cW sa R base s → G 3 [(0, va_rf (some p0)), (1, va_rf p1), (2, .int p2), (3, va_rf p3), (4, .int a4)] [] (cM R s) kc ks) (fun a4 s kc ks hs hw => H _ (fun _ _ _ _ hp hw => hp hw) a4 s kc ks hw hs) hw
  refine (show KK sa R base G 0 [(0, va_rf (some p0)), (1, va_rf p1), (2, .int p2), (3, va_rf p3)] [] s kc ks (C_Rr_sendTold sa p0 p1 p2 p3 s kc ks Q) from ?_) hw h
  refine kk_ic hG rfl cc_i0 ?_
  refine kk_st hG (L' := [(4, .int (0 : Int32)), (0, va_rf (some p0)), (1, va_rf p1), (2, .int p2), (3, va_rf p3)]) rfl rfl (Nat.le_of_ble_eq_true rfl) (by cases p3 <;> rfl) ?_
  exact kk_wl hG [1, 2, 3, 4, 0] rfl (b3 _ _ _ _)
def C_Pr_takeBytes (sa : Nat → Nat) (p0 : Nat) (p1 : Option Nat) (p2 : Int32) (p3 : Int32) (s : cS) (kc ks : Nat) (Q : (cS → Nat → Nat → Prop)) : Prop := ob (pI s 5 0 p0 p3) (fun s1 => (C_Pr_bitsOf sa p3 s1 kc ks (fun r2 sr2 cr2 dr2 => (ob (pI sr2 5 3 p0 r2) (fun s3 => (if p3 = (4 : Int32) then (ob p1 (fun b9 => (okO s3 0 b9 ∧ C_By_numberAt sa b9 p2 (4 : Int32) s3 cr2 dr2 (fun r10 sr10 cr10 dr10 => (ob (pJ sr10 5 1 p0 (r10 <<< ((Int32.toInt64 (32 : Int32)) &&& 63))) (fun s11 => (ob (pJ s11 5 2 p0 (0 : Int64)) (fun s12 => (Q s12 cr10 dr10))))))))) else (ob p1 (fun b4 => (okO s3 0 b4 ∧ C_By_numberAt sa b4 p2 (8 : Int32) s3 cr2 dr2 (fun r5 sr5 cr5 dr5 => (ob (pJ sr5 5 1 p0 r5) (fun s6 => (okO s6 0 b4 ∧ C_By_numberAt sa b4 (p2 + (8 : Int32)) (8 : Int32) s6 cr5 dr5 (fun r7 sr7 cr7 dr7 => (ob (pJ sr7 5 2 p0 r7) (fun s8 => (Q s8 cr7 dr7)))))))))))))))))
set_option maxRecDepth 100000 in
set_option maxHeartbeats 4000000 in
theorem kc_Pr_takeBytes (base : Nat) (sa : Nat → Nat) {R : pmM} {s : cS} {kc ks : Nat} {Rt : pmR} {p0 : Nat} {p1 : Option Nat} {p2 : Int32} {p3 : Int32} {Q : (cS → Nat → Nat → Prop)} (hw : cW sa R base s) (h : C_Pr_takeBytes sa p0 p1 p2 p3 s kc ks Q) (k : ∀ s' kc' ks', cW sa R base s' → Q s' kc' ks' → Rt none (cM R s') kc' ks') : kP_Pr_takeBytes base sa [.ref p0, va_rf p1, .int p2, .int p3] (cM R s) kc ks Rt := by
  refine ⟨by cases p1 <;> exact Nat.le_of_ble_eq_true rfl, fun G hG => ?_⟩
  have eL : lv_args 0 [.ref p0, va_rf p1, .int p2, .int p3] = [(0, va_rf (some p0)), (1, va_rf p1), (2, .int p2), (3, .int p3)] := by cases p1 <;> rfl
  rw [eL]
  refine (show KK sa R base G 0 [(0, va_rf (some p0)), (1, va_rf p1), (2, .int p2), (3, .int p3)] [] s kc ks (C_Pr_takeBytes sa p0 p1 p2 p3 s kc ks Q) from ?_) hw h
  refine kk_aln hG (x := (some p0)) rfl rfl ?_
  refine kks hG rfl rfl ?_
  refine kk_pi hG (c := 5) (k := 0) (a := p0) rfl rfl rfl rfl (fun s1 => ?_)
  refine kk_aln hG (x := (some p0)) rfl rfl ?_
  refine kks hG rfl rfl ?_
  refine kk_cx (w := .int) hG 2 rfl rfl (Nat.le_of_ble_eq_true rfl) (by decide) rfl (st' := [va_rf (some p0)]) rfl (cats_le (Nat.le_of_ble_eq_true rfl)) (fun _ hw h k => kc_Pr_bitsOf base sa hw h k) (fun r2 sr2 cr2 dr2 => ?_)
  refine kk_pi hG (c := 5) (k := 3) (a := p0) rfl rfl rfl rfl (fun s3 => ?_)
  refine kks hG rfl rfl ?_
  refine kk_ic hG rfl cc_i4 ?_
  refine kk_ine hG (t := 39) rfl rfl ?_ ?_
  · refine kk_aln hG (x := (some p0)) rfl rfl ?_
    refine kk_aln hG (x := p1) rfl rfl ?_
    refine kks hG rfl rfl ?_
    refine kk_bi hG rfl cc_b8 ?_
    refine kk_ob (fun b4 eb4 => ?_)
    subst eb4
    refine kk_cx (w := .long) hG 0 rfl rfl (Nat.le_of_ble_eq_true rfl) (by decide) rfl (st' := [va_rf (some p0)]) rfl (cats_le (Nat.le_of_ble_eq_true rfl)) (fun _ hw h k => kk_rcv h.1 (kc_By_numberAt base sa hw h.2 k)) (fun r5 sr5 cr5 dr5 => ?_)
    refine kk_pj hG (c := 5) (k := 1) (a := p0) rfl rfl rfl rfl (fun s6 => ?_)
    refine kk_aln hG (x := (some p0)) rfl rfl ?_
    refine kk_aln hG (x := (some b4)) rfl rfl ?_
    refine kks hG rfl rfl ?_
    refine kk_bi hG rfl cc_b8 ?_
    refine kks hG rfl rfl ?_
    refine kk_bi hG rfl cc_b8 ?_
    refine kk_cx (w := .long) hG 0 rfl rfl (Nat.le_of_ble_eq_true rfl) (by decide) rfl (st' := [va_rf (some p0)]) rfl (cats_le (Nat.le_of_ble_eq_true rfl)) (fun _ hw h k => kk_rcv h.1 (kc_By_numberAt base sa hw h.2 k)) (fun r7 sr7 cr7 dr7 => ?_)
    refine kk_pj hG (c := 5) (k := 2) (a := p0) rfl rfl rfl rfl (fun s8 => ?_)
    exact kk_rv hG rfl rfl k
  refine kk_aln hG (x := (some p0)) rfl rfl ?_
  refine kk_aln hG (x := p1) rfl rfl ?_
  refine kks hG rfl rfl ?_
  refine kk_ic hG rfl cc_i4 ?_
  refine kk_ob (fun b9 eb9 => ?_)
  subst eb9
  refine kk_cx (w := .long) hG 0 rfl rfl (Nat.le_of_ble_eq_true rfl) (by decide) rfl (st' := [va_rf (some p0)]) rfl (cats_le (Nat.le_of_ble_eq_true rfl)) (fun _ hw h k => kk_rcv h.1 (kc_By_numberAt base sa hw h.2 k)) (fun r10 sr10 cr10 dr10 => ?_)
  refine kk_bi hG rfl cc_b32 ?_
  refine kks hG rfl rfl ?_
  refine kk_pj hG (c := 5) (k := 1) (a := p0) rfl rfl rfl rfl (fun s11 => ?_)
  refine kk_aln hG (x := (some p0)) rfl rfl ?_
  refine kk_lc hG (c := 0) (v := 0) rfl rfl ?_
  refine kk_pj hG (c := 5) (k := 2) (a := p0) rfl rfl rfl rfl (fun s12 => ?_)
  refine kk_go hG (t := 64) rfl rfl ?_
  exact kk_rv hG rfl rfl k
def C_Pr_maskLow (sa : Nat → Nat) (p0 : Int32) (s : cS) (kc ks : Nat) (Q : (Int64 → cS → Nat → Nat → Prop)) : Prop := if (64 : Int32) < p0 then (if p0 < (128 : Int32) then (Q (((-1) : Int64) <<< ((Int32.toInt64 ((128 : Int32) - p0)) &&& 63)) s kc ks) else (Q ((-1) : Int64) s kc ks)) else (Q (0 : Int64) s kc ks)
set_option maxRecDepth 100000 in
set_option maxHeartbeats 4000000 in
theorem kc_Pr_maskLow (base : Nat) (sa : Nat → Nat) {R : pmM} {s : cS} {kc ks : Nat} {Rt : pmR} {p0 : Int32} {Q : (Int64 → cS → Nat → Nat → Prop)} (hw : cW sa R base s) (h : C_Pr_maskLow sa p0 s kc ks Q) (k : ∀ r s' kc' ks', cW sa R base s' → Q r s' kc' ks' → Rt (some (.long r)) (cM R s') kc' ks') : kP_Pr_maskLow base sa [.int p0] (cM R s) kc ks Rt := by
  refine ⟨Nat.le_of_ble_eq_true rfl, fun G hG => ?_⟩
  refine (show KK sa R base G 0 [(0, .int p0)] [] s kc ks (C_Pr_maskLow sa p0 s kc ks Q) from ?_) hw h
  refine kks hG rfl rfl ?_
  refine kk_bi hG rfl cc_b64 ?_
  refine kk_igt hG (t := 8) rfl rfl ?_ ?_
  · refine kks hG rfl rfl ?_
    refine kk_si hG rfl cc_s128 ?_
    refine kk_ilt hG (t := 21) rfl rfl ?_ ?_
    · refine kk_l2 hG (v := ((-1) : Int64)) rfl rfl ?_
      refine kk_si hG rfl cc_s128 ?_
      refine kks hG rfl rfl ?_
      refine kks hG rfl rfl ?_
      refine kks hG rfl rfl ?_
      exact kk_rl hG rfl rfl k
    refine kk_l2 hG (v := ((-1) : Int64)) rfl rfl ?_
    refine kk_go hG (t := 30) rfl rfl ?_
    exact kk_rl hG rfl rfl k
  refine kk_lc hG (c := 0) (v := 0) rfl rfl ?_
  exact kk_rl hG rfl rfl k
def C_Pr_hasBitsBehind (sa : Nat → Nat) (p0 : Nat) (s : cS) (kc ks : Nat) (Q : (Int32 → cS → Nat → Nat → Prop)) : Prop := ob (gJ s 5 1 p0) (fun v1 => (ob (gI s 5 3 p0) (fun v2 => (C_Pr_maskHigh sa v2 s kc ks (fun r3 sr3 cr3 dr3 => (if (v1 &&& (r3 ^^^ ((-1) : Int64))) = (0 : Int64) then (ob (gJ sr3 5 2 p0) (fun v4 => (ob (gI sr3 5 3 p0) (fun v5 => (C_Pr_maskLow sa v5 sr3 cr3 dr3 (fun r6 sr6 cr6 dr6 => (if (v4 &&& (r6 ^^^ ((-1) : Int64))) = (0 : Int64) then (Q (0 : Int32) sr6 cr6 dr6) else (Q (1 : Int32) sr6 cr6 dr6)))))))) else (Q (1 : Int32) sr3 cr3 dr3)))))))
set_option maxRecDepth 100000 in
set_option maxHeartbeats 4000000 in
theorem kc_Pr_hasBitsBehind (base : Nat) (sa : Nat → Nat) {R : pmM} {s : cS} {kc ks : Nat} {Rt : pmR} {p0 : Nat} {Q : (Int32 → cS → Nat → Nat → Prop)} (hw : cW sa R base s) (h : C_Pr_hasBitsBehind sa p0 s kc ks Q) (k : ∀ r s' kc' ks', cW sa R base s' → Q r s' kc' ks' → Rt (some (.int r)) (cM R s') kc' ks') : kP_Pr_hasBitsBehind base sa [.ref p0] (cM R s) kc ks Rt := by
  refine ⟨Nat.le_of_ble_eq_true rfl, fun G hG => ?_⟩
  refine (show KK sa R base G 0 [(0, va_rf (some p0))] [] s kc ks (C_Pr_hasBitsBehind sa p0 s kc ks Q) from ?_) hw h
  refine kk_aln hG (x := (some p0)) rfl rfl ?_
  refine kk_gj hG (c := 5) (k := 1) (a := p0) rfl rfl rfl rfl (fun v1 => ?_)
  refine kk_aln hG (x := (some p0)) rfl rfl ?_
  refine kk_gi hG (c := 5) (k := 3) (a := p0) rfl rfl rfl rfl (fun v2 => ?_)
  refine kk_cx (w := .long) hG 2 rfl rfl (Nat.le_of_ble_eq_true rfl) (by decide) rfl (st' := [.long v1]) rfl (cats_le (Nat.le_of_ble_eq_true rfl)) (fun _ hw h k => kc_Pr_maskHigh base sa hw h k) (fun r3 sr3 cr3 dr3 => ?_)
  refine kk_l2 hG (v := ((-1) : Int64)) rfl rfl ?_
  refine kks hG rfl rfl ?_
  refine kks hG rfl rfl ?_
  refine kk_lc hG (c := 0) (v := 0) rfl rfl ?_
  refine kks hG rfl rfl ?_
  refine kk_lne hG (t := 42) rfl rfl ?_ ?_
  · refine kk_ic hG rfl cc_i1 ?_
    refine kk_go hG (t := 47) rfl rfl ?_
    exact kk_ri hG rfl rfl rfl k
  refine kk_aln hG (x := (some p0)) rfl rfl ?_
  refine kk_gj hG (c := 5) (k := 2) (a := p0) rfl rfl rfl rfl (fun v4 => ?_)
  refine kk_aln hG (x := (some p0)) rfl rfl ?_
  refine kk_gi hG (c := 5) (k := 3) (a := p0) rfl rfl rfl rfl (fun v5 => ?_)
  refine kk_cx (w := .long) hG 2 rfl rfl (Nat.le_of_ble_eq_true rfl) (by decide) rfl (st' := [.long v4]) rfl (cats_le (Nat.le_of_ble_eq_true rfl)) (fun _ hw h k => kc_Pr_maskLow base sa hw h k) (fun r6 sr6 cr6 dr6 => ?_)
  refine kk_l2 hG (v := ((-1) : Int64)) rfl rfl ?_
  refine kks hG rfl rfl ?_
  refine kks hG rfl rfl ?_
  refine kk_lc hG (c := 0) (v := 0) rfl rfl ?_
  refine kks hG rfl rfl ?_
  refine kk_leq hG (t := 46) rfl rfl ?_ ?_
  · refine kk_ic hG rfl cc_i0 ?_
    exact kk_ri hG rfl rfl rfl k
  refine kk_ic hG rfl cc_i1 ?_
  refine kk_go hG (t := 47) rfl rfl ?_
  exact kk_ri hG rfl rfl rfl k
def C_Ig_bitCount (sa : Nat → Nat) (a0 : Int32) (s : cS) (kc ks : Nat) (Q : (Int32 → cS → Nat → Nat → Prop)) : Prop := Q ((((((((a0 - ((ush_I a0 (1 : Int32)) &&& (1431655765 : Int32))) &&& (858993459 : Int32)) + ((ush_I (a0 - ((ush_I a0 (1 : Int32)) &&& (1431655765 : Int32))) (2 : Int32)) &&& (858993459 : Int32))) + (ush_I (((a0 - ((ush_I a0 (1 : Int32)) &&& (1431655765 : Int32))) &&& (858993459 : Int32)) + ((ush_I (a0 - ((ush_I a0 (1 : Int32)) &&& (1431655765 : Int32))) (2 : Int32)) &&& (858993459 : Int32))) (4 : Int32))) &&& (252645135 : Int32)) + (ush_I (((((a0 - ((ush_I a0 (1 : Int32)) &&& (1431655765 : Int32))) &&& (858993459 : Int32)) + ((ush_I (a0 - ((ush_I a0 (1 : Int32)) &&& (1431655765 : Int32))) (2 : Int32)) &&& (858993459 : Int32))) + (ush_I (((a0 - ((ush_I a0 (1 : Int32)) &&& (1431655765 : Int32))) &&& (858993459 : Int32)) + ((ush_I (a0 - ((ush_I a0 (1 : Int32)) &&& (1431655765 : Int32))) (2 : Int32)) &&& (858993459 : Int32))) (4 : Int32))) &&& (252645135 : Int32)) (8 : Int32))) + (ush_I ((((((a0 - ((ush_I a0 (1 : Int32)) &&& (1431655765 : Int32))) &&& (858993459 : Int32)) + ((ush_I (a0 - ((ush_I a0 (1 : Int32)) &&& (1431655765 : Int32))) (2 : Int32)) &&& (858993459 : Int32))) + (ush_I (((a0 - ((ush_I a0 (1 : Int32)) &&& (1431655765 : Int32))) &&& (858993459 : Int32)) + ((ush_I (a0 - ((ush_I a0 (1 : Int32)) &&& (1431655765 : Int32))) (2 : Int32)) &&& (858993459 : Int32))) (4 : Int32))) &&& (252645135 : Int32)) + (ush_I (((((a0 - ((ush_I a0 (1 : Int32)) &&& (1431655765 : Int32))) &&& (858993459 : Int32)) + ((ush_I (a0 - ((ush_I a0 (1 : Int32)) &&& (1431655765 : Int32))) (2 : Int32)) &&& (858993459 : Int32))) + (ush_I (((a0 - ((ush_I a0 (1 : Int32)) &&& (1431655765 : Int32))) &&& (858993459 : Int32)) + ((ush_I (a0 - ((ush_I a0 (1 : Int32)) &&& (1431655765 : Int32))) (2 : Int32)) &&& (858993459 : Int32))) (4 : Int32))) &&& (252645135 : Int32)) (8 : Int32))) (16 : Int32))) &&& (63 : Int32)) s kc ks
set_option maxRecDepth 100000 in
set_option maxHeartbeats 4000000 in
theorem kc_Ig_bitCount (base : Nat) (sa : Nat → Nat) {R : pmM} {s : cS} {kc ks : Nat} {Rt : pmR} {a0 : Int32} {Q : (Int32 → cS → Nat → Nat → Prop)} (hw : cW sa R base s) (h : C_Ig_bitCount sa a0 s kc ks Q) (k : ∀ r s' kc' ks', cW sa R base s' → Q r s' kc' ks' → Rt (some (.int r)) (cM R s') kc' ks') : kP_Ig_bitCount base sa [.int a0] (cM R s) kc ks Rt := by
  refine ⟨Nat.le_of_ble_eq_true rfl, fun G hG => ?_⟩
  refine (show KK sa R base G 0 [(0, .int a0)] [] s kc ks (C_Ig_bitCount sa a0 s kc ks Q) from ?_) hw h
  refine kks hG rfl rfl ?_
  refine kks hG rfl rfl ?_
  refine kk_ic hG rfl cc_i1 ?_
  refine kks hG rfl rfl ?_
  refine kk_lw hG (v := (1431655765 : Int32)) rfl rfl ?_
  refine kks hG rfl rfl ?_
  refine kks hG rfl rfl ?_
  refine kk_st hG (L' := [(0, .int (a0 - ((ush_I a0 (1 : Int32)) &&& (1431655765 : Int32))))]) rfl rfl (Nat.le_of_ble_eq_true rfl) rfl ?_
  refine kks hG rfl rfl ?_
  refine kk_lw hG (v := (858993459 : Int32)) rfl rfl ?_
  refine kks hG rfl rfl ?_
  refine kks hG rfl rfl ?_
  refine kk_at (pc' := 16) rfl ?_
  refine kk_ic hG rfl cc_i2 ?_
  refine kks hG rfl rfl ?_
  refine kk_lw hG (v := (858993459 : Int32)) rfl rfl ?_
  refine kks hG rfl rfl ?_
  refine kks hG rfl rfl ?_
  refine kk_st hG (L' := [(0, .int (((a0 - ((ush_I a0 (1 : Int32)) &&& (1431655765 : Int32))) &&& (858993459 : Int32)) + ((ush_I (a0 - ((ush_I a0 (1 : Int32)) &&& (1431655765 : Int32))) (2 : Int32)) &&& (858993459 : Int32))))]) rfl rfl (Nat.le_of_ble_eq_true rfl) rfl ?_
  refine kks hG rfl rfl ?_
  refine kks hG rfl rfl ?_
  refine kk_ic hG rfl cc_i4 ?_
  refine kks hG rfl rfl ?_
  refine kks hG rfl rfl ?_
  refine kk_lw hG (v := (252645135 : Int32)) rfl rfl ?_
  refine kks hG rfl rfl ?_
  refine kk_at (pc' := 33) rfl ?_
  refine kk_st hG (L' := [(0, .int (((((a0 - ((ush_I a0 (1 : Int32)) &&& (1431655765 : Int32))) &&& (858993459 : Int32)) + ((ush_I (a0 - ((ush_I a0 (1 : Int32)) &&& (1431655765 : Int32))) (2 : Int32)) &&& (858993459 : Int32))) + (ush_I (((a0 - ((ush_I a0 (1 : Int32)) &&& (1431655765 : Int32))) &&& (858993459 : Int32)) + ((ush_I (a0 - ((ush_I a0 (1 : Int32)) &&& (1431655765 : Int32))) (2 : Int32)) &&& (858993459 : Int32))) (4 : Int32))) &&& (252645135 : Int32)))]) rfl rfl (Nat.le_of_ble_eq_true rfl) rfl ?_
  refine kks hG rfl rfl ?_
  refine kks hG rfl rfl ?_
  refine kk_bi hG rfl cc_b8 ?_
  refine kks hG rfl rfl ?_
  refine kks hG rfl rfl ?_
  refine kk_st hG (L' := [(0, .int ((((((a0 - ((ush_I a0 (1 : Int32)) &&& (1431655765 : Int32))) &&& (858993459 : Int32)) + ((ush_I (a0 - ((ush_I a0 (1 : Int32)) &&& (1431655765 : Int32))) (2 : Int32)) &&& (858993459 : Int32))) + (ush_I (((a0 - ((ush_I a0 (1 : Int32)) &&& (1431655765 : Int32))) &&& (858993459 : Int32)) + ((ush_I (a0 - ((ush_I a0 (1 : Int32)) &&& (1431655765 : Int32))) (2 : Int32)) &&& (858993459 : Int32))) (4 : Int32))) &&& (252645135 : Int32)) + (ush_I (((((a0 - ((ush_I a0 (1 : Int32)) &&& (1431655765 : Int32))) &&& (858993459 : Int32)) + ((ush_I (a0 - ((ush_I a0 (1 : Int32)) &&& (1431655765 : Int32))) (2 : Int32)) &&& (858993459 : Int32))) + (ush_I (((a0 - ((ush_I a0 (1 : Int32)) &&& (1431655765 : Int32))) &&& (858993459 : Int32)) + ((ush_I (a0 - ((ush_I a0 (1 : Int32)) &&& (1431655765 : Int32))) (2 : Int32)) &&& (858993459 : Int32))) (4 : Int32))) &&& (252645135 : Int32)) (8 : Int32))))]) rfl rfl (Nat.le_of_ble_eq_true rfl) rfl ?_
  refine kks hG rfl rfl ?_
  refine kks hG rfl rfl ?_
  refine kk_bi hG rfl cc_b16 ?_
  refine kks hG rfl rfl ?_
  refine kks hG rfl rfl ?_
  refine kk_st hG (L' := [(0, .int (((((((a0 - ((ush_I a0 (1 : Int32)) &&& (1431655765 : Int32))) &&& (858993459 : Int32)) + ((ush_I (a0 - ((ush_I a0 (1 : Int32)) &&& (1431655765 : Int32))) (2 : Int32)) &&& (858993459 : Int32))) + (ush_I (((a0 - ((ush_I a0 (1 : Int32)) &&& (1431655765 : Int32))) &&& (858993459 : Int32)) + ((ush_I (a0 - ((ush_I a0 (1 : Int32)) &&& (1431655765 : Int32))) (2 : Int32)) &&& (858993459 : Int32))) (4 : Int32))) &&& (252645135 : Int32)) + (ush_I (((((a0 - ((ush_I a0 (1 : Int32)) &&& (1431655765 : Int32))) &&& (858993459 : Int32)) + ((ush_I (a0 - ((ush_I a0 (1 : Int32)) &&& (1431655765 : Int32))) (2 : Int32)) &&& (858993459 : Int32))) + (ush_I (((a0 - ((ush_I a0 (1 : Int32)) &&& (1431655765 : Int32))) &&& (858993459 : Int32)) + ((ush_I (a0 - ((ush_I a0 (1 : Int32)) &&& (1431655765 : Int32))) (2 : Int32)) &&& (858993459 : Int32))) (4 : Int32))) &&& (252645135 : Int32)) (8 : Int32))) + (ush_I ((((((a0 - ((ush_I a0 (1 : Int32)) &&& (1431655765 : Int32))) &&& (858993459 : Int32)) + ((ush_I (a0 - ((ush_I a0 (1 : Int32)) &&& (1431655765 : Int32))) (2 : Int32)) &&& (858993459 : Int32))) + (ush_I (((a0 - ((ush_I a0 (1 : Int32)) &&& (1431655765 : Int32))) &&& (858993459 : Int32)) + ((ush_I (a0 - ((ush_I a0 (1 : Int32)) &&& (1431655765 : Int32))) (2 : Int32)) &&& (858993459 : Int32))) (4 : Int32))) &&& (252645135 : Int32)) + (ush_I (((((a0 - ((ush_I a0 (1 : Int32)) &&& (1431655765 : Int32))) &&& (858993459 : Int32)) + ((ush_I (a0 - ((ush_I a0 (1 : Int32)) &&& (1431655765 : Int32))) (2 : Int32)) &&& (858993459 : Int32))) + (ush_I (((a0 - ((ush_I a0 (1 : Int32)) &&& (1431655765 : Int32))) &&& (858993459 : Int32)) + ((ush_I (a0 - ((ush_I a0 (1 : Int32)) &&& (1431655765 : Int32))) (2 : Int32)) &&& (858993459 : Int32))) (4 : Int32))) &&& (252645135 : Int32)) (8 : Int32))) (16 : Int32))))]) rfl rfl (Nat.le_of_ble_eq_true rfl) rfl ?_
  refine kk_at (pc' := 48) rfl ?_
  refine kks hG rfl rfl ?_
  refine kk_bi hG rfl cc_b63 ?_
  refine kks hG rfl rfl ?_
  exact kk_ri hG rfl rfl rfl k
