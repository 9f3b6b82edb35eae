/-! Methods as weakest preconditions, by program: Rf_launch .. Re_keyLine -/
def C_Rf_launch_b131 (sa : Nat → Nat) (p0 : Nat) (p1 : Option Nat) (a2 : Int32) (s : cS) (kc ks : Nat) (Q : (cS → Nat → Nat → Prop)) : Prop := ob (gP s 11 16 p0) (fun v1 => (ob v1 (fun b2 => (ob (pP s 2 8 b2 p1) (fun s3 => (ob (gP s3 11 16 p0) (fun v4 => (ob (gI s3 11 5 p0) (fun v5 => (ob v4 (fun b6 => (ob (pI s3 2 9 b6 (v5 + a2)) (fun s7 => (ob (gP s7 11 12 p0) (fun v8 => (ob (gI s7 11 13 p0) (fun v9 => (ob (gP s7 11 16 p0) (fun v10 => (ob v8 (fun b11 => (ob (wQ s7 b11 v9 v10) (fun s12 => (ob (gI s12 11 13 p0) (fun v13 => (ob (pI s12 11 13 p0 (v13 + (1 : Int32))) (fun s14 => (ob (gI s14 11 15 p0) (fun v15 => (if 0 < v15 then (ob (gI s14 11 15 p0) (fun v19 => (ob (pI s14 11 15 p0 (v19 - (1 : Int32))) (fun s20 => (ob (gP s20 11 14 p0) (fun v21 => (ob (gI s20 11 15 p0) (fun v22 => (ob v21 (fun b23 => (ob (rQ s20 b23 v22) (fun v24 => (ob (pP s20 11 16 p0 v24) (fun s25 => (Q s25 kc ks))))))))))))))) else (nwO sa s14 kc ks 2 12 (fun q16 sq16 cq16 dq16 => (okO sq16 2 q16 ∧ C_Da_init sa q16 sq16 cq16 dq16 (fun sr17 cr17 dr17 => (ob (pP sr17 11 16 p0 (some q16)) (fun s18 => (Q s18 cr17 dr17)))))))))))))))))))))))))))))))))))))
def C_Rf_launch_b92 (sa : Nat → Nat) (p0 : Nat) (p1 : Option Nat) (a2 : Int32) (s : cS) (kc ks : Nat) (Q : (cS → Nat → Nat → Prop)) : Prop := ob (gI s 11 13 p0) (fun v1 => (if v1 < (256 : Int32) then (ob (gP s 11 16 p0) (fun v2 => (ob v2 (fun b3 => (ob (gP s 2 7 b3) (fun v4 => (if v4 = none then ((C_Rf_launch_b131 sa p0 p1 a2 s kc ks Q)) else (ob p1 (fun b5 => (ob (gI s 3 6 b5) (fun v6 => (if 0 < v6 then (ob (gI s 3 6 b5) (fun v7 => (ob (pI s 3 6 b5 (v7 - (1 : Int32))) (fun s8 => (Q s8 kc ks))))) else ((C_Rf_launch_b131 sa p0 (some b5) a2 s kc ks Q)))))))))))))) else (Q s kc ks)))
def C_Rf_launch (sa : Nat → Nat) (p0 : Nat) (p1 : Option Nat) (s : cS) (kc ks : Nat) (Q : (cS → Nat → Nat → Prop)) : Prop := ob p1 (fun b1 => (ob (gI s 3 1 b1) (fun v2 => (ob (gI s 3 5 b1) (fun v3 => (ob (gI s 3 2 b1) (fun v4 => (¬ (Int32.toInt64 (v4 + (1 : Int32))) = 0 ∧ (ob (gI s 3 5 b1) (fun v5 => (ob (pI s 3 5 b1 (v5 + (1 : Int32))) (fun s6 => (ob (gP s6 3 7 b1) (fun v7 => (ob v7 (fun b8 => (okO s6 0 b8 ∧ C_By_clear sa b8 s6 kc ks (fun sr9 cr9 dr9 => (ob (gP sr9 3 7 b1) (fun v10 => (ob (gP sr9 11 16 p0) (fun v11 => (ob v11 (fun b12 => (ob (gP sr9 2 0 b12) (fun v13 => (ob (gP sr9 11 16 p0) (fun v14 => (ob v14 (fun b15 => (ob (gP sr9 2 0 b15) (fun v16 => (ob v16 (fun b17 => (ob (gI sr9 0 1 b17) (fun v18 => (ob v10 (fun b19 => (okO sr9 0 b19 ∧ C_By_addPart sa b19 v13 (0 : Int32) v18 sr9 cr9 dr9 (fun sr20 cr20 dr20 => (ob (gP sr20 11 16 p0) (fun v21 => (ob v21 (fun b22 => (ob (gP sr20 2 7 b22) (fun v23 => (if v23 = none then ((C_Rf_launch_b92 sa p0 (some b1) (v2 + (Int64.toInt32 (rem_L ((3 : Int64) * (Int32.toInt64 v3)) (Int32.toInt64 (v4 + (1 : Int32)))))) sr20 cr20 dr20 Q)) else (ob (gP sr20 11 16 p0) (fun v24 => (ob v24 (fun b25 => (ob (gP sr20 2 7 b25) (fun v26 => (ob v26 (fun b27 => (ob (gP sr20 9 16 b27) (fun v28 => (ob v28 (fun b29 => (ob (rE sr20 .int b29 (5 : Int32)) (fun v30 => (ob (wEi sr20 b29 (5 : Int32) (v30 + (1 : Int32))) (fun s31 => ((C_Rf_launch_b92 sa p0 (some b1) (v2 + (Int64.toInt32 (rem_L ((3 : Int64) * (Int32.toInt64 v3)) (Int32.toInt64 (v4 + (1 : Int32)))))) s31 cr20 dr20 Q)))))))))))))))))))))))))))))))))))))))))))))))))))))))))))))))))
set_option maxRecDepth 100000 in
set_option maxHeartbeats 4000000 in
theorem kc_Rf_launch (base : Nat) (sa : Nat → Nat) {R : pmM} {s : cS} {kc ks : Nat} {Rt : pmR} {p0 : Nat} {p1 : Option Nat} {Q : (cS → Nat → Nat → Prop)} (hw : cW sa R base s) (h : C_Rf_launch sa p0 p1 s kc ks Q) (k : ∀ s' kc' ks', cW sa R base s' → Q s' kc' ks' → Rt none (cM R s') kc' ks') : kP_Rf_launch base sa [.ref p0, va_rf p1] (cM R s) kc ks Rt := by
  refine ⟨by cases p1 <;> exact Nat.le_of_ble_eq_true rfl, fun G hG => ?_⟩
  have eL : lv_args 0 [.ref p0, va_rf p1] = [(0, va_rf (some p0)), (1, va_rf p1)] := by cases p1 <;> rfl
  rw [eL]
  have b131 : ∀ (a2 : Int32) (s : cS) (kc ks : Nat), KK sa R base G 131 [(0, va_rf (some p0)), (1, va_rf p1), (2, .int a2)] [] s kc ks (C_Rf_launch_b131 sa p0 p1 a2 s kc ks Q) := by
    intro a2 s kc ks
    refine kk_aln hG (x := (some p0)) rfl rfl ?_
    refine kk_gp hG (c := 11) (k := 16) (a := p0) rfl rfl rfl rfl (fun v1 => ?_)
    refine kk_aln hG (x := p1) rfl rfl ?_
    refine kk_ob (fun b2 eb2 => ?_)
    subst eb2
    refine kk_pp hG (c := 2) (k := 8) (a := b2) (v := p1) rfl rfl rfl rfl rfl (fun s3 => ?_)
    refine kk_aln hG (x := (some p0)) rfl rfl ?_
    refine kk_gp hG (c := 11) (k := 16) (a := p0) rfl rfl rfl rfl (fun v4 => ?_)
    refine kk_aln hG (x := (some p0)) rfl rfl ?_
    refine kk_gi hG (c := 11) (k := 5) (a := p0) rfl rfl rfl rfl (fun v5 => ?_)
    refine kks hG rfl rfl ?_
    refine kks hG rfl rfl ?_
    refine kk_ob (fun b6 eb6 => ?_)
    subst eb6
    refine kk_pi hG (c := 2) (k := 9) (a := b6) rfl rfl rfl rfl (fun s7 => ?_)
    refine kk_aln hG (x := (some p0)) rfl rfl ?_
    refine kk_gp hG (c := 11) (k := 12) (a := p0) rfl rfl rfl rfl (fun v8 => ?_)
    refine kk_aln hG (x := (some p0)) rfl rfl ?_
    refine kk_gi hG (c := 11) (k := 13) (a := p0) rfl rfl rfl rfl (fun v9 => ?_)
    refine kk_aln hG (x := (some p0)) rfl rfl ?_
    refine kk_gp hG (c := 11) (k := 16) (a := p0) rfl rfl rfl rfl (fun v10 => ?_)
    refine kk_ob (fun b11 eb11 => ?_)
    subst eb11
    refine kk_aas hG (a := b11) (x := v10) rfl (fun s12 => ?_)
    refine kk_aln hG (x := (some p0)) rfl rfl ?_
    refine kk_dup hG (x := (some p0)) rfl ?_
    refine kk_gi hG (c := 11) (k := 13) (a := p0) rfl rfl rfl rfl (fun v13 => ?_)
    refine kk_ic hG rfl cc_i1 ?_
    refine kks hG rfl rfl ?_
    refine kk_pi hG (c := 11) (k := 13) (a := p0) rfl rfl rfl rfl (fun s14 => ?_)
    refine kk_aln hG (x := (some p0)) rfl rfl ?_
    refine kk_gi hG (c := 11) (k := 15) (a := p0) rfl rfl rfl rfl (fun v15 => ?_)
    refine kk_zle hG (t := 208) rfl rfl ?_ ?_
    · refine kk_aln hG (x := (some p0)) rfl rfl ?_
      refine kk_new hG (c := 2) (n := 12) rfl rfl rfl rfl (fun q16 sq16 cq16 dq16 => ?_)
      refine kk_dup hG (x := (some q16)) rfl ?_
      refine kk_cv hG 1 rfl rfl (Nat.le_of_ble_eq_true rfl) (by decide) rfl (st' := [va_rf (some q16), va_rf (some p0)]) rfl (cats_le (Nat.le_of_ble_eq_true rfl)) (fun _ hw h k => kk_rcv h.1 (kc_Da_init base sa hw h.2 k)) (fun sr17 cr17 dr17 => ?_)
      refine kk_pp hG (c := 11) (k := 16) (a := p0) (v := (some q16)) rfl rfl rfl rfl rfl (fun s18 => ?_)
      exact kk_rv hG rfl rfl k
    refine kk_aln hG (x := (some p0)) rfl rfl ?_
    refine kk_dup hG (x := (some p0)) rfl ?_
    refine kk_gi hG (c := 11) (k := 15) (a := p0) rfl rfl rfl rfl (fun v19 => ?_)
    refine kk_ic hG rfl cc_i1 ?_
    refine kks hG rfl rfl ?_
    refine kk_pi hG (c := 11) (k := 15) (a := p0) rfl rfl rfl rfl (fun s20 => ?_)
    refine kk_aln hG (x := (some p0)) rfl rfl ?_
    refine kk_aln hG (x := (some p0)) rfl rfl ?_
    refine kk_gp hG (c := 11) (k := 14) (a := p0) rfl rfl rfl rfl (fun v21 => ?_)
    refine kk_aln hG (x := (some p0)) rfl rfl ?_
    refine kk_gi hG (c := 11) (k := 15) (a := p0) rfl rfl rfl rfl (fun v22 => ?_)
    refine kk_ob (fun b23 eb23 => ?_)
    subst eb23
    refine kk_aa hG (a := b23) rfl (fun v24 => ?_)
    refine kk_pp hG (c := 11) (k := 16) (a := p0) (v := v24) rfl rfl rfl rfl rfl (fun s25 => ?_)
    refine kk_go hG (t := 219) rfl rfl ?_
    exact kk_rv hG rfl rfl k
  have b92 : ∀ (a2 : Int32) (s : cS) (kc ks : Nat), KK sa R base G 92 [(0, va_rf (some p0)), (1, va_rf p1), (2, .int a2)] [] s kc ks (C_Rf_launch_b92 sa p0 p1 a2 s kc ks Q) := by
    intro a2 s kc ks
    refine kk_aln hG (x := (some p0)) rfl rfl ?_
    refine kk_gi hG (c := 11) (k := 13) (a := p0) rfl rfl rfl rfl (fun v1 => ?_)
    refine kk_si hG rfl cc_s256 ?_
    refine kk_ilt hG (t := 103) rfl rfl ?_ ?_
    · refine kk_aln hG (x := (some p0)) rfl rfl ?_
      refine kk_gp hG (c := 11) (k := 16) (a := p0) rfl rfl rfl rfl (fun v2 => ?_)
      refine kk_ob (fun b3 eb3 => ?_)
      subst eb3
      refine kk_gp hG (c := 2) (k := 7) (a := b3) rfl rfl rfl rfl (fun v4 => ?_)
      refine kk_nul hG (x := v4) (t := 131) rfl rfl ?_ ?_
      · exact kk_wl hG [0, 1, 2] rfl (b131 _ _ _ _)
      refine kk_aln hG (x := p1) rfl rfl ?_
      refine kk_ob (fun b5 eb5 => ?_)
      subst eb5
      refine kk_gi hG (c := 3) (k := 6) (a := b5) rfl rfl rfl rfl (fun v6 => ?_)
      refine kk_zle hG (t := 131) rfl rfl ?_ ?_
      · exact kk_wl hG [0, 1, 2] rfl (b131 _ _ _ _)
      refine kk_aln hG (x := (some b5)) rfl rfl ?_
      refine kk_dup hG (x := (some b5)) rfl ?_
      refine kk_gi hG (c := 3) (k := 6) (a := b5) rfl rfl rfl rfl (fun v7 => ?_)
      refine kk_ic hG rfl cc_i1 ?_
      refine kks hG rfl rfl ?_
      refine kk_pi hG (c := 3) (k := 6) (a := b5) rfl rfl rfl rfl (fun s8 => ?_)
      exact kk_rv hG rfl rfl k
    exact kk_rv hG rfl rfl k
  refine (show KK sa R base G 0 [(0, va_rf (some p0)), (1, va_rf p1)] [] s kc ks (C_Rf_launch sa p0 p1 s kc ks Q) from ?_) hw h
  refine kk_aln hG (x := p1) rfl rfl ?_
  refine kk_ob (fun b1 eb1 => ?_)
  subst eb1
  refine kk_gi hG (c := 3) (k := 1) (a := b1) rfl rfl rfl rfl (fun v2 => ?_)
  refine kk_l2 hG (v := (3 : Int64)) rfl rfl ?_
  refine kk_aln hG (x := (some b1)) rfl rfl ?_
  refine kk_gi hG (c := 3) (k := 5) (a := b1) rfl rfl rfl rfl (fun v3 => ?_)
  refine kks hG rfl rfl ?_
  refine kks hG rfl rfl ?_
  refine kk_aln hG (x := (some b1)) rfl rfl ?_
  refine kk_gi hG (c := 3) (k := 2) (a := b1) rfl rfl rfl rfl (fun v4 => ?_)
  refine kk_ic hG rfl cc_i1 ?_
  refine kks hG rfl rfl ?_
  refine kks hG rfl rfl ?_
  refine kk_nzL hG rfl rfl ?_
  refine kks hG rfl rfl ?_
  refine kks hG rfl rfl ?_
  refine kk_st hG (L' := [(2, .int (v2 + (Int64.toInt32 (rem_L ((3 : Int64) * (Int32.toInt64 v3)) (Int32.toInt64 (v4 + (1 : Int32))))))), (0, va_rf (some p0)), (1, va_rf (some b1))]) rfl rfl (Nat.le_of_ble_eq_true rfl) rfl ?_
  refine kk_aln hG (x := (some b1)) rfl rfl ?_
  refine kk_dup hG (x := (some b1)) rfl ?_
  refine kk_gi hG (c := 3) (k := 5) (a := b1) rfl rfl rfl rfl (fun v5 => ?_)
  refine kk_ic hG rfl cc_i1 ?_
  refine kks hG rfl rfl ?_
  refine kk_pi hG (c := 3) (k := 5) (a := b1) rfl rfl rfl rfl (fun s6 => ?_)
  refine kk_aln hG (x := (some b1)) rfl rfl ?_
  refine kk_gp hG (c := 3) (k := 7) (a := b1) rfl rfl rfl rfl (fun v7 => ?_)
  refine kk_ob (fun b8 eb8 => ?_)
  subst eb8
  refine kk_cv hG 0 rfl rfl (Nat.le_of_ble_eq_true rfl) (by decide) rfl (st' := []) rfl (cats_le (Nat.le_of_ble_eq_true rfl)) (fun _ hw h k => kk_rcv h.1 (kc_By_clear base sa hw h.2 k)) (fun sr9 cr9 dr9 => ?_)
  refine kk_aln hG (x := (some b1)) rfl rfl ?_
  refine kk_gp hG (c := 3) (k := 7) (a := b1) rfl rfl rfl rfl (fun v10 => ?_)
  refine kk_aln hG (x := (some p0)) rfl rfl ?_
  refine kk_gp hG (c := 11) (k := 16) (a := p0) rfl rfl rfl rfl (fun v11 => ?_)
  refine kk_ob (fun b12 eb12 => ?_)
  subst eb12
  refine kk_gp hG (c := 2) (k := 0) (a := b12) rfl rfl rfl rfl (fun v13 => ?_)
  refine kk_ic hG rfl cc_i0 ?_
  refine kk_aln hG (x := (some p0)) rfl rfl ?_
  refine kk_gp hG (c := 11) (k := 16) (a := p0) rfl rfl rfl rfl (fun v14 => ?_)
  refine kk_ob (fun b15 eb15 => ?_)
  subst eb15
  refine kk_gp hG (c := 2) (k := 0) (a := b15) rfl rfl rfl rfl (fun v16 => ?_)
  refine kk_ob (fun b17 eb17 => ?_)
  subst eb17
  refine kk_gi hG (c := 0) (k := 1) (a := b17) rfl rfl rfl rfl (fun v18 => ?_)
  refine kk_ob (fun b19 eb19 => ?_)
  subst eb19
  refine kk_cv hG 0 rfl rfl (Nat.le_of_ble_eq_true rfl) (by decide) rfl (st' := []) rfl (cats_le (Nat.le_of_ble_eq_true rfl)) (fun _ hw h k => kk_rcv h.1 (kc_By_addPart base sa hw h.2 k)) (fun sr20 cr20 dr20 => ?_)
  refine kk_aln hG (x := (some p0)) rfl rfl ?_
  refine kk_gp hG (c := 11) (k := 16) (a := p0) rfl rfl rfl rfl (fun v21 => ?_)
  refine kk_ob (fun b22 eb22 => ?_)
  subst eb22
  refine kk_gp hG (c := 2) (k := 7) (a := b22) rfl rfl rfl rfl (fun v23 => ?_)
  refine kk_nul hG (x := v23) (t := 92) rfl rfl ?_ ?_
  · exact kk_wl hG [1, 2, 0] rfl (b92 _ _ _ _)
  refine kk_aln hG (x := (some p0)) rfl rfl ?_
  refine kk_gp hG (c := 11) (k := 16) (a := p0) rfl rfl rfl rfl (fun v24 => ?_)
  refine kk_ob (fun b25 eb25 => ?_)
  subst eb25
  refine kk_gp hG (c := 2) (k := 7) (a := b25) rfl rfl rfl rfl (fun v26 => ?_)
  refine kk_ob (fun b27 eb27 => ?_)
  subst eb27
  refine kk_gp hG (c := 9) (k := 16) (a := b27) rfl rfl rfl rfl (fun v28 => ?_)
  refine kk_ic hG rfl cc_i5 ?_
  refine kk_dup2 hG (x := v28) rfl ?_
  refine kk_ob (fun b29 eb29 => ?_)
  subst eb29
  refine kk_ia hG (a := b29) rfl (fun v30 => ?_)
  refine kk_ic hG rfl cc_i1 ?_
  refine kks hG rfl rfl ?_
  refine kk_is hG (a := b29) rfl (fun s31 => ?_)
  exact kk_wl hG [1, 2, 0] rfl (b92 _ _ _ _)
def C_Rr_sendDraft_b72 (sa : Nat → Nat) (p0 : Nat) (p1 : Option Nat) (a3 : Option Nat) (s : cS) (kc ks : Nat) (Q : (cS → Nat → Nat → Prop)) : Prop := ob a3 (fun b1 => (ob (gI s 2 4 b1) (fun v2 => (C_Da_portOf sa v2 s kc ks (fun r3 sr3 cr3 dr3 => (ob (pI sr3 2 5 b1 r3) (fun s4 => (ob (pI s4 2 6 b1 (255 : Int32)) (fun s5 => (ob (pP s5 2 7 b1 (some p0)) (fun s6 => (ob (gP s6 9 0 p0) (fun v7 => (ob p1 (fun b8 => (ob (gP s6 4 0 b8) (fun v9 => (ob v7 (fun b10 => (okO s6 11 b10 ∧ C_Rf_launch sa b10 v9 s6 cr3 dr3 (fun sr11 cr11 dr11 => (Q sr11 cr11 dr11))))))))))))))))))))))
def C_Rr_sendDraft_b57 (sa : Nat → Nat) (p0 : Nat) (p1 : Option Nat) (p2 : Option Nat) (a3 : Option Nat) (u0 : Option Nat) (u1 : Int32) (s : cS) (kc ks : Nat) (Q : (cS → Nat → Nat → Prop)) : Prop := ob u0 (fun b1 => (ob (pZ s 2 3 b1 u1) (fun s2 => (if p2 = none then ((C_Rr_sendDraft_b72 sa p0 p1 a3 s2 kc ks Q)) else (ob a3 (fun b3 => (ob (gP s2 2 2 b3) (fun v4 => (ob v4 (fun b5 => (okO s2 5 b5 ∧ C_Pr_copy sa b5 p2 s2 kc ks (fun sr6 cr6 dr6 => ((C_Rr_sendDraft_b72 sa p0 p1 (some b3) sr6 cr6 dr6 Q))))))))))))))
def C_Rr_sendDraft (sa : Nat → Nat) (p0 : Nat) (p1 : Option Nat) (p2 : Option Nat) (s : cS) (kc ks : Nat) (Q : (cS → Nat → Nat → Prop)) : Prop := ob (gP s 9 0 p0) (fun v1 => (ob v1 (fun b2 => (ob (gP s 11 16 b2) (fun v3 => (ob v3 (fun b4 => (ob (gI s 2 4 b4) (fun v5 => (ob p1 (fun b6 => (okO s 4 b6 ∧ C_Po_addressOf sa b6 v5 s kc ks (fun r7 sr7 cr7 dr7 => (if r7 = none then (Q sr7 cr7 dr7) else (ob (gP sr7 2 1 b4) (fun v8 => (ob v8 (fun b9 => (okO sr7 5 b9 ∧ C_Pr_copy sa b9 r7 sr7 cr7 dr7 (fun sr10 cr10 dr10 => (ob (gP sr10 2 1 b4) (fun v11 => (ob (gI sr10 2 4 b4) (fun v12 => (C_Pr_bitsOf sa v12 sr10 cr10 dr10 (fun r13 sr13 cr13 dr13 => (ob v11 (fun b14 => (ob (pI sr13 5 3 b14 r13) (fun s15 => (if p2 = none then ((C_Rr_sendDraft_b57 sa p0 (some b6) p2 (some b4) (some b4) (1 : Int32) s15 cr13 dr13 Q)) else ((C_Rr_sendDraft_b57 sa p0 (some b6) p2 (some b4) (some b4) (0 : Int32) s15 cr13 dr13 Q)))))))))))))))))))))))))))))))))
set_option maxRecDepth 100000 in
set_option maxHeartbeats 4000000 in
theorem kc_Rr_sendDraft (base : Nat) (sa : Nat → Nat) {R : pmM} {s : cS} {kc ks : Nat} {Rt : pmR} {p0 : Nat} {p1 : Option Nat} {p2 : Option Nat} {Q : (cS → Nat → Nat → Prop)} (hw : cW sa R base s) (h : C_Rr_sendDraft sa p0 p1 p2 s kc ks Q) (k : ∀ s' kc' ks', cW sa R base s' → Q s' kc' ks' → Rt none (cM R s') kc' ks') : kP_Rr_sendDraft base sa [.ref p0, va_rf p1, va_rf p2] (cM R s) kc ks Rt := by
  refine ⟨by cases p1 <;> cases p2 <;> exact Nat.le_of_ble_eq_true rfl, fun G hG => ?_⟩
  have eL : lv_args 0 [.ref p0, va_rf p1, va_rf p2] = [(0, va_rf (some p0)), (1, va_rf p1), (2, va_rf p2)] := by cases p1 <;> cases p2 <;> rfl
  rw [eL]
  have b72 : ∀ (a3 : Option Nat) (s : cS) (kc ks : Nat), KK sa R base G 72 [(0, va_rf (some p0)), (1, va_rf p1), (3, va_rf a3)] [] s kc ks (C_Rr_sendDraft_b72 sa p0 p1 a3 s kc ks Q) := by
    intro a3 s kc ks
    refine kk_aln hG (x := a3) rfl rfl ?_
    refine kk_aln hG (x := a3) rfl rfl ?_
    refine kk_ob (fun b1 eb1 => ?_)
    subst eb1
    refine kk_gi hG (c := 2) (k := 4) (a := b1) rfl rfl rfl rfl (fun v2 => ?_)
    refine kk_cx (w := .int) hG 2 rfl rfl (Nat.le_of_ble_eq_true rfl) (by decide) rfl (st' := [va_rf (some b1)]) rfl (cats_le (Nat.le_of_ble_eq_true rfl)) (fun _ hw h k => kc_Da_portOf base sa hw h k) (fun r3 sr3 cr3 dr3 => ?_)
    refine kk_pi hG (c := 2) (k := 5) (a := b1) rfl rfl rfl rfl (fun s4 => ?_)
    refine kk_aln hG (x := (some b1)) rfl rfl ?_
    refine kk_si hG rfl cc_s255 ?_
    refine kk_pi hG (c := 2) (k := 6) (a := b1) rfl rfl rfl rfl (fun s5 => ?_)
    refine kk_aln hG (x := (some b1)) rfl rfl ?_
    refine kk_aln hG (x := (some p0)) rfl rfl ?_
    refine kk_pp hG (c := 2) (k := 7) (a := b1) (v := (some p0)) rfl rfl rfl rfl rfl (fun s6 => ?_)
    refine kk_aln hG (x := (some p0)) rfl rfl ?_
    refine kk_gp hG (c := 9) (k := 0) (a := p0) rfl rfl rfl rfl (fun v7 => ?_)
    refine kk_aln hG (x := p1) rfl rfl ?_
    refine kk_ob (fun b8 eb8 => ?_)
    subst eb8
    refine kk_gp hG (c := 4) (k := 0) (a := b8) rfl rfl rfl rfl (fun v9 => ?_)
    refine kk_ob (fun b10 eb10 => ?_)
    subst eb10
    refine kk_cv hG 0 rfl rfl (Nat.le_of_ble_eq_true rfl) (by decide) rfl (st' := []) rfl (cats_le (Nat.le_of_ble_eq_true rfl)) (fun _ hw h k => kk_rcv h.1 (kc_Rf_launch base sa hw h.2 k)) (fun sr11 cr11 dr11 => ?_)
    exact kk_rv hG rfl rfl k
  have b57 : ∀ (a3 : Option Nat) (u0 : Option Nat) (u1 : Int32) (s : cS) (kc ks : Nat), KK sa R base G 57 [(0, va_rf (some p0)), (1, va_rf p1), (2, va_rf p2), (3, va_rf a3)] [.int u1, va_rf u0] s kc ks (C_Rr_sendDraft_b57 sa p0 p1 p2 a3 u0 u1 s kc ks Q) := by
    intro a3 u0 u1 s kc ks
    refine kk_ob (fun b1 eb1 => ?_)
    subst eb1
    refine kk_pz hG (c := 2) (k := 3) (a := b1) rfl rfl rfl rfl (fun s2 => ?_)
    refine kk_aln hG (x := p2) rfl rfl ?_
    refine kk_nul hG (x := p2) (t := 72) rfl rfl ?_ ?_
    · exact kk_wl hG [0, 1, 3] rfl (b72 _ _ _ _)
    refine kk_aln hG (x := a3) rfl rfl ?_
    refine kk_ob (fun b3 eb3 => ?_)
    subst eb3
    refine kk_gp hG (c := 2) (k := 2) (a := b3) rfl rfl rfl rfl (fun v4 => ?_)
    refine kk_aln hG (x := p2) rfl rfl ?_
    refine kk_ob (fun b5 eb5 => ?_)
    subst eb5
    refine kk_cv hG 0 rfl rfl (Nat.le_of_ble_eq_true rfl) (by decide) rfl (st' := []) rfl (cats_le (Nat.le_of_ble_eq_true rfl)) (fun _ hw h k => kk_rcv h.1 (kc_Pr_copy base sa hw h.2 k)) (fun sr6 cr6 dr6 => ?_)
    exact kk_wl hG [0, 1, 3] rfl (b72 _ _ _ _)
  refine (show KK sa R base G 0 [(0, va_rf (some p0)), (1, va_rf p1), (2, va_rf p2)] [] s kc ks (C_Rr_sendDraft sa p0 p1 p2 s kc ks Q) from ?_) hw h
  refine kk_aln hG (x := (some p0)) rfl rfl ?_
  refine kk_gp hG (c := 9) (k := 0) (a := p0) rfl rfl rfl rfl (fun v1 => ?_)
  refine kk_ob (fun b2 eb2 => ?_)
  subst eb2
  refine kk_gp hG (c := 11) (k := 16) (a := b2) rfl rfl rfl rfl (fun v3 => ?_)
  refine kk_asn hG (x := v3) (L' := [(3, va_rf v3), (0, va_rf (some p0)), (1, va_rf p1), (2, va_rf p2)]) rfl (Nat.le_of_ble_eq_true rfl) (by cases p2 <;> rfl) ?_
  refine kk_aln hG (x := p1) rfl rfl ?_
  refine kk_aln hG (x := v3) rfl rfl ?_
  refine kk_ob (fun b4 eb4 => ?_)
  subst eb4
  refine kk_gi hG (c := 2) (k := 4) (a := b4) rfl rfl rfl rfl (fun v5 => ?_)
  refine kk_ob (fun b6 eb6 => ?_)
  subst eb6
  refine kk_cx (w := va_rf) hG 0 rfl rfl (Nat.le_of_ble_eq_true rfl) (by decide) rfl (st' := []) rfl (cats_le (Nat.le_of_ble_eq_true rfl)) (fun _ hw h k => kk_rcv h.1 (kc_Po_addressOf base sa hw h.2 k)) (fun r7 sr7 cr7 dr7 => ?_)
  refine kk_as hG (x := r7) (L' := [(4, va_rf r7), (3, va_rf (some b4)), (0, va_rf (some p0)), (1, va_rf (some b6)), (2, va_rf p2)]) rfl (Nat.le_of_ble_eq_true rfl) rfl ?_
  refine kk_al hG (x := r7) rfl rfl ?_
  refine kk_nnl hG (x := r7) (t := 24) rfl rfl ?_ ?_
  · refine kk_aln hG (x := (some b4)) rfl rfl ?_
    refine kk_gp hG (c := 2) (k := 1) (a := b4) rfl rfl rfl rfl (fun v8 => ?_)
    refine kk_al hG (x := r7) rfl rfl ?_
    refine kk_ob (fun b9 eb9 => ?_)
    subst eb9
    refine kk_cv hG 0 rfl rfl (Nat.le_of_ble_eq_true rfl) (by decide) rfl (st' := []) rfl (cats_le (Nat.le_of_ble_eq_true rfl)) (fun _ hw h k => kk_rcv h.1 (kc_Pr_copy base sa hw h.2 k)) (fun sr10 cr10 dr10 => ?_)
    refine kk_aln hG (x := (some b4)) rfl rfl ?_
    refine kk_gp hG (c := 2) (k := 1) (a := b4) rfl rfl rfl rfl (fun v11 => ?_)
    refine kk_aln hG (x := (some b4)) rfl rfl ?_
    refine kk_gi hG (c := 2) (k := 4) (a := b4) rfl rfl rfl rfl (fun v12 => ?_)
    refine kk_cx (w := .int) hG 2 rfl rfl (Nat.le_of_ble_eq_true rfl) (by decide) rfl (st' := [va_rf v11]) rfl (cats_le (Nat.le_of_ble_eq_true rfl)) (fun _ hw h k => kc_Pr_bitsOf base sa hw h k) (fun r13 sr13 cr13 dr13 => ?_)
    refine kk_ob (fun b14 eb14 => ?_)
    subst eb14
    refine kk_pi hG (c := 5) (k := 3) (a := b14) rfl rfl rfl rfl (fun s15 => ?_)
    refine kk_aln hG (x := (some b4)) rfl rfl ?_
    refine kk_aln hG (x := p2) rfl rfl ?_
    refine kk_nnl hG (x := p2) (t := 56) rfl rfl ?_ ?_
    · refine kk_ic hG rfl cc_i0 ?_
      exact kk_wl hG [2, 3, 4, 1] rfl (b57 _ _ _ _ _ _)
    refine kk_ic hG rfl cc_i1 ?_
    refine kk_go hG (t := 57) rfl rfl ?_
    exact kk_wl hG [2, 3, 4, 1] rfl (b57 _ _ _ _ _ _)
  exact kk_rv hG rfl rfl k
def C_Rr_ask_b68 (sa : Nat → Nat) (p0 : Nat) (p1 : Option Nat) (s : cS) (kc ks : Nat) (Q : (cS → Nat → Nat → Prop)) : Prop := okO s 9 p0 ∧ C_Rr_sendDraft sa p0 p1 none s kc ks (fun sr1 cr1 dr1 => (Q sr1 cr1 dr1))
def C_Rr_ask (sa : Nat → Nat) (p0 : Nat) (p1 : Option Nat) (p2 : Int32) (s : cS) (kc ks : Nat) (Q : (cS → Nat → Nat → Prop)) : Prop := okO s 9 p0 ∧ C_Rr_openDraft sa p0 p1 p2 (1 : Int32) s kc ks (fun r1 sr1 cr1 dr1 => (if r1 = ((-2) : Int32) then (Q sr1 cr1 dr1) else (ob (gP sr1 9 0 p0) (fun v2 => (ob v2 (fun b3 => (ob (gP sr1 11 16 b3) (fun v4 => (ob v4 (fun b5 => (ob (gP sr1 2 0 b5) (fun v6 => (ob v6 (fun b7 => (okO sr1 0 b7 ∧ C_By_addZeros sa b7 (19 : Int32) sr1 cr1 dr1 (fun sr8 cr8 dr8 => (ob (gP sr8 9 0 p0) (fun v9 => (ob v9 (fun b10 => (ob (gP sr8 11 16 b10) (fun v11 => (ob v11 (fun b12 => (ob (gP sr8 2 0 b12) (fun v13 => (ob v13 (fun b14 => (okO sr8 0 b14 ∧ C_By_add sa b14 (16 : Int32) sr8 cr8 dr8 (fun sr15 cr15 dr15 => (if r1 = ((-1) : Int32) then ((C_Rr_ask_b68 sa p0 p1 sr15 cr15 dr15 Q)) else (ob p1 (fun b16 => (ob (gP sr15 4 6 b16) (fun v17 => (ob (gP sr15 9 0 p0) (fun v18 => (ob v18 (fun b19 => (ob (gP sr15 11 16 b19) (fun v20 => (ob v20 (fun b21 => (ob (gP sr15 2 0 b21) (fun v22 => (ob v17 (fun b23 => (okO sr15 1 b23 ∧ C_Ch_seal sa b23 v22 r1 sr15 cr15 dr15 (fun sr24 cr24 dr24 => ((C_Rr_ask_b68 sa p0 (some b16) sr24 cr24 dr24 Q)))))))))))))))))))))))))))))))))))))))))))))))))))
set_option maxRecDepth 100000 in
set_option maxHeartbeats 4000000 in
theorem kc_Rr_ask (base : Nat) (sa : Nat → Nat) {R : pmM} {s : cS} {kc ks : Nat} {Rt : pmR} {p0 : Nat} {p1 : Option Nat} {p2 : Int32} {Q : (cS → Nat → Nat → Prop)} (hw : cW sa R base s) (h : C_Rr_ask sa p0 p1 p2 s kc ks Q) (k : ∀ s' kc' ks', cW sa R base s' → Q s' kc' ks' → Rt none (cM R s') kc' ks') : kP_Rr_ask base sa [.ref p0, va_rf p1, .int p2] (cM R s) kc ks Rt := by
  refine ⟨by cases p1 <;> exact Nat.le_of_ble_eq_true rfl, fun G hG => ?_⟩
  have eL : lv_args 0 [.ref p0, va_rf p1, .int p2] = [(0, va_rf (some p0)), (1, va_rf p1), (2, .int p2)] := by cases p1 <;> rfl
  rw [eL]
  have b68 : ∀ (s : cS) (kc ks : Nat), KK sa R base G 68 [(0, va_rf (some p0)), (1, va_rf p1)] [] s kc ks (C_Rr_ask_b68 sa p0 p1 s kc ks Q) := by
    intro s kc ks
    refine kk_aln hG (x := (some p0)) rfl rfl ?_
    refine kk_aln hG (x := p1) rfl rfl ?_
    refine kks hG rfl rfl ?_
    refine kk_cv hG 0 rfl rfl (Nat.le_of_ble_eq_true rfl) (by decide) rfl (st' := []) rfl (cats_le (Nat.le_of_ble_eq_true rfl)) (fun _ hw h k => kk_rcv h.1 (kc_Rr_sendDraft base sa hw h.2 k)) (fun sr1 cr1 dr1 => ?_)
    exact kk_rv hG rfl rfl k
  refine (show KK sa R base G 0 [(0, va_rf (some p0)), (1, va_rf p1), (2, .int p2)] [] s kc ks (C_Rr_ask sa p0 p1 p2 s kc ks Q) from ?_) hw h
  refine kk_aln hG (x := (some p0)) rfl rfl ?_
  refine kk_aln hG (x := p1) rfl rfl ?_
  refine kks hG rfl rfl ?_
  refine kk_ic hG rfl cc_i1 ?_
  refine kk_cx (w := .int) hG 0 rfl rfl (Nat.le_of_ble_eq_true rfl) (by decide) rfl (st' := []) rfl (cats_le (Nat.le_of_ble_eq_true rfl)) (fun _ hw h k => kk_rcv h.1 (kc_Rr_openDraft base sa hw h.2 k)) (fun r1 sr1 cr1 dr1 => ?_)
  refine kk_st hG (L' := [(3, .int r1), (0, va_rf (some p0)), (1, va_rf p1), (2, .int p2)]) rfl rfl (Nat.le_of_ble_eq_true rfl) rfl ?_
  refine kks hG rfl rfl ?_
  refine kk_bi hG rfl cc_bm2 ?_
  refine kk_ine hG (t := 15) rfl rfl ?_ ?_
  · refine kk_aln hG (x := (some p0)) rfl rfl ?_
    refine kk_gp hG (c := 9) (k := 0) (a := p0) rfl rfl rfl rfl (fun v2 => ?_)
    refine kk_ob (fun b3 eb3 => ?_)
    subst eb3
    refine kk_gp hG (c := 11) (k := 16) (a := b3) rfl rfl rfl rfl (fun v4 => ?_)
    refine kk_ob (fun b5 eb5 => ?_)
    subst eb5
    refine kk_gp hG (c := 2) (k := 0) (a := b5) rfl rfl rfl rfl (fun v6 => ?_)
    refine kk_bi hG rfl cc_b19 ?_
    refine kk_ob (fun b7 eb7 => ?_)
    subst eb7
    refine kk_cv hG 0 rfl rfl (Nat.le_of_ble_eq_true rfl) (by decide) rfl (st' := []) rfl (cats_le (Nat.le_of_ble_eq_true rfl)) (fun _ hw h k => kk_rcv h.1 (kc_By_addZeros base sa hw h.2 k)) (fun sr8 cr8 dr8 => ?_)
    refine kk_aln hG (x := (some p0)) rfl rfl ?_
    refine kk_gp hG (c := 9) (k := 0) (a := p0) rfl rfl rfl rfl (fun v9 => ?_)
    refine kk_ob (fun b10 eb10 => ?_)
    subst eb10
    refine kk_gp hG (c := 11) (k := 16) (a := b10) rfl rfl rfl rfl (fun v11 => ?_)
    refine kk_ob (fun b12 eb12 => ?_)
    subst eb12
    refine kk_gp hG (c := 2) (k := 0) (a := b12) rfl rfl rfl rfl (fun v13 => ?_)
    refine kk_bi hG rfl cc_b16 ?_
    refine kk_ob (fun b14 eb14 => ?_)
    subst eb14
    refine kk_cv hG 0 rfl rfl (Nat.le_of_ble_eq_true rfl) (by decide) rfl (st' := []) rfl (cats_le (Nat.le_of_ble_eq_true rfl)) (fun _ hw h k => kk_rcv h.1 (kc_By_add base sa hw h.2 k)) (fun sr15 cr15 dr15 => ?_)
    refine kks hG rfl rfl ?_
    refine kk_ic hG rfl cc_im1 ?_
    refine kk_ieq hG (t := 68) rfl rfl ?_ ?_
    · exact kk_wl hG [1, 2] rfl (b68 _ _ _)
    refine kk_aln hG (x := p1) rfl rfl ?_
    refine kk_ob (fun b16 eb16 => ?_)
    subst eb16
    refine kk_gp hG (c := 4) (k := 6) (a := b16) rfl rfl rfl rfl (fun v17 => ?_)
    refine kk_aln hG (x := (some p0)) rfl rfl ?_
    refine kk_gp hG (c := 9) (k := 0) (a := p0) rfl rfl rfl rfl (fun v18 => ?_)
    refine kk_ob (fun b19 eb19 => ?_)
    subst eb19
    refine kk_gp hG (c := 11) (k := 16) (a := b19) rfl rfl rfl rfl (fun v20 => ?_)
    refine kk_ob (fun b21 eb21 => ?_)
    subst eb21
    refine kk_gp hG (c := 2) (k := 0) (a := b21) rfl rfl rfl rfl (fun v22 => ?_)
    refine kks hG rfl rfl ?_
    refine kk_ob (fun b23 eb23 => ?_)
    subst eb23
    refine kk_cv hG 0 rfl rfl (Nat.le_of_ble_eq_true rfl) (by decide) rfl (st' := []) rfl (cats_le (Nat.le_of_ble_eq_true rfl)) (fun _ hw h k => kk_rcv h.1 (kc_Ch_seal base sa hw h.2 k)) (fun sr24 cr24 dr24 => ?_)
    exact kk_wl hG [1, 2] rfl (b68 _ _ _)
  exact kk_rv hG rfl rfl k
def C_Re_joinLine_b129 (sa : Nat → Nat) (p0 : Nat) (a1 : Option Nat) (a2 : Option Nat) (a3 : Option Nat) (s : cS) (kc ks : Nat) (Q : (Int32 → cS → Nat → Nat → Prop)) : Prop := okO s 7 p0 ∧ C_Re_setJoined sa p0 a3 s kc ks (fun sr1 cr1 dr1 => (ob a1 (fun b2 => (ob (gI sr1 9 3 b2) (fun v3 => (if v3 = 0 then (Q (0 : Int32) sr1 cr1 dr1) else (ob a2 (fun b4 => (ob (gI sr1 3 4 b4) (fun v5 => (if v5 = 0 then (Q (0 : Int32) sr1 cr1 dr1) else (okO sr1 9 b2 ∧ C_Rr_settlePort sa b2 a3 sr1 cr1 dr1 (fun sr6 cr6 dr6 => (ob (gP sr6 7 6 p0) (fun v7 => (ob v7 (fun b8 => (ob (gI sr6 5 0 b8) (fun v9 => (okO sr6 9 b2 ∧ C_Rr_ask sa b2 a3 v9 sr6 cr6 dr6 (fun sr10 cr10 dr10 => (Q (0 : Int32) sr10 cr10 dr10))))))))))))))))))))))
def C_Re_joinLine_b111 (sa : Nat → Nat) (p0 : Nat) (a1 : Option Nat) (a2 : Option Nat) (a3 : Option Nat) (a4 : Int32) (s : cS) (kc ks : Nat) (Q : (Int32 → cS → Nat → Nat → Prop)) : Prop := if a4 = 0 then (if a3 = none then (ob a1 (fun b1 => (okO s 9 b1 ∧ C_Rr_addPort sa b1 a2 s kc ks (fun r2 sr2 cr2 dr2 => ((C_Re_joinLine_b129 sa p0 (some b1) a2 r2 sr2 cr2 dr2 Q)))))) else ((C_Re_joinLine_b129 sa p0 a1 a2 a3 s kc ks Q))) else (Q a4 s kc ks)
def C_Re_joinLine_b83 (sa : Nat → Nat) (p0 : Nat) (a1 : Option Nat) (a2 : Option Nat) (a3 : Option Nat) (s : cS) (kc ks : Nat) (Q : (Int32 → cS → Nat → Nat → Prop)) : Prop := okO s 7 p0 ∧ C_Re_takeJoinOptions sa p0 a3 s kc ks (fun r1 sr1 cr1 dr1 => (if r1 = 0 then (if a3 = none then (ob a1 (fun b2 => (ob (gI sr1 9 5 b2) (fun v3 => (if v3 < (4 : Int32) then ((C_Re_joinLine_b111 sa p0 (some b2) a2 a3 r1 sr1 cr1 dr1 Q)) else ((C_Re_joinLine_b111 sa p0 (some b2) a2 a3 (6 : Int32) sr1 cr1 dr1 Q))))))) else ((C_Re_joinLine_b111 sa p0 a1 a2 a3 r1 sr1 cr1 dr1 Q))) else ((C_Re_joinLine_b111 sa p0 a1 a2 a3 r1 sr1 cr1 dr1 Q))))
def C_Re_joinLine (sa : Nat → Nat) (p0 : Nat) (s : cS) (kc ks : Nat) (Q : (Int32 → cS → Nat → Nat → Prop)) : Prop := ob (gI s 7 3 p0) (fun v1 => (if v1 < (4 : Int32) then (Q (2 : Int32) s kc ks) else (okO s 7 p0 ∧ C_Re_hasJoinOptions sa p0 s kc ks (fun r2 sr2 cr2 dr2 => (if r2 = 0 then (Q (2 : Int32) sr2 cr2 dr2) else (okO sr2 7 p0 ∧ C_Re_routerNamed sa p0 (1 : Int32) sr2 cr2 dr2 (fun r3 sr3 cr3 dr3 => (ob (gP sr3 7 0 p0) (fun v4 => (okO sr3 7 p0 ∧ C_Re_linkNamed sa p0 (2 : Int32) sr3 cr3 dr3 (fun r5 sr5 cr5 dr5 => (ob v4 (fun b6 => (okO sr5 11 b6 ∧ C_Rf_linkAt sa b6 r5 sr5 cr5 dr5 (fun r7 sr7 cr7 dr7 => (if r3 = none then (Q (3 : Int32) sr7 cr7 dr7) else (if r7 = none then (Q (3 : Int32) sr7 cr7 dr7) else (okO sr7 7 p0 ∧ C_Re_takePrefix sa p0 (3 : Int32) (1 : Int32) sr7 cr7 dr7 (fun r8 sr8 cr8 dr8 => (if r8 = 0 then (Q (5 : Int32) sr8 cr8 dr8) else (ob r3 (fun b9 => (okO sr8 9 b9 ∧ C_Rr_portOn sa b9 r7 sr8 cr8 dr8 (fun r10 sr10 cr10 dr10 => (if r10 = none then ((C_Re_joinLine_b83 sa p0 (some b9) r7 r10 sr10 cr10 dr10 Q)) else (ob (gP sr10 7 6 p0) (fun v11 => (ob v11 (fun b12 => (ob (gI sr10 5 0 b12) (fun v13 => (ob r10 (fun b14 => (okO sr10 4 b14 ∧ C_Po_addressOf sa b14 v13 sr10 cr10 dr10 (fun r15 sr15 cr15 dr15 => (if r15 = none then ((C_Re_joinLine_b83 sa p0 (some b9) r7 (some b14) sr15 cr15 dr15 Q)) else (Q (3 : Int32) sr15 cr15 dr15)))))))))))))))))))))))))))))))))))))
set_option maxRecDepth 100000 in
set_option maxHeartbeats 4000000 in
theorem kc_Re_joinLine (base : Nat) (sa : Nat → Nat) {R : pmM} {s : cS} {kc ks : Nat} {Rt : pmR} {p0 : Nat} {Q : (Int32 → cS → Nat → Nat → Prop)} (hw : cW sa R base s) (h : C_Re_joinLine sa p0 s kc ks Q) (k : ∀ r s' kc' ks', cW sa R base s' → Q r s' kc' ks' → Rt (some (.int r)) (cM R s') kc' ks') : kP_Re_joinLine base sa [.ref p0] (cM R s) kc ks Rt := by
  refine ⟨Nat.le_of_ble_eq_true rfl, fun G hG => ?_⟩
  have b129 : ∀ (a1 : Option Nat) (a2 : Option Nat) (a3 : Option Nat) (s : cS) (kc ks : Nat), KK sa R base G 129 [(0, va_rf (some p0)), (1, va_rf a1), (2, va_rf a2), (3, va_rf a3)] [] s kc ks (C_Re_joinLine_b129 sa p0 a1 a2 a3 s kc ks Q) := by
    intro a1 a2 a3 s kc ks
    refine kk_aln hG (x := (some p0)) rfl rfl ?_
    refine kk_aln hG (x := a3) rfl rfl ?_
    refine kk_cv hG 0 rfl rfl (Nat.le_of_ble_eq_true rfl) (by decide) rfl (st' := []) rfl (cats_le (Nat.le_of_ble_eq_true rfl)) (fun _ hw h k => kk_rcv h.1 (kc_Re_setJoined base sa hw h.2 k)) (fun sr1 cr1 dr1 => ?_)
    refine kk_aln hG (x := a1) rfl rfl ?_
    refine kk_ob (fun b2 eb2 => ?_)
    subst eb2
    refine kk_gi hG (c := 9) (k := 3) (a := b2) rfl rfl rfl rfl (fun v3 => ?_)
    refine kk_zeq hG (t := 165) rfl rfl ?_ ?_
    · refine kk_ic hG rfl cc_i0 ?_
      exact kk_ri hG rfl rfl rfl k
    refine kk_aln hG (x := a2) rfl rfl ?_
    refine kk_ob (fun b4 eb4 => ?_)
    subst eb4
    refine kk_gi hG (c := 3) (k := 4) (a := b4) rfl rfl rfl rfl (fun v5 => ?_)
    refine kk_zeq hG (t := 165) rfl rfl ?_ ?_
    · refine kk_ic hG rfl cc_i0 ?_
      exact kk_ri hG rfl rfl rfl k
    refine kk_aln hG (x := (some b2)) rfl rfl ?_
    refine kk_aln hG (x := a3) rfl rfl ?_
    refine kk_cv hG 0 rfl rfl (Nat.le_of_ble_eq_true rfl) (by decide) rfl (st' := []) rfl (cats_le (Nat.le_of_ble_eq_true rfl)) (fun _ hw h k => kk_rcv h.1 (kc_Rr_settlePort base sa hw h.2 k)) (fun sr6 cr6 dr6 => ?_)
    refine kk_aln hG (x := (some b2)) rfl rfl ?_
    refine kk_aln hG (x := a3) rfl rfl ?_
    refine kk_aln hG (x := (some p0)) rfl rfl ?_
    refine kk_gp hG (c := 7) (k := 6) (a := p0) rfl rfl rfl rfl (fun v7 => ?_)
    refine kk_ob (fun b8 eb8 => ?_)
    subst eb8
    refine kk_gi hG (c := 5) (k := 0) (a := b8) rfl rfl rfl rfl (fun v9 => ?_)
    refine kk_cv hG 0 rfl rfl (Nat.le_of_ble_eq_true rfl) (by decide) rfl (st' := []) rfl (cats_le (Nat.le_of_ble_eq_true rfl)) (fun _ hw h k => kk_rcv h.1 (kc_Rr_ask base sa hw h.2 k)) (fun sr10 cr10 dr10 => ?_)
    refine kk_ic hG rfl cc_i0 ?_
    exact kk_ri hG rfl rfl rfl k
  have b111 : ∀ (a1 : Option Nat) (a2 : Option Nat) (a3 : Option Nat) (a4 : Int32) (s : cS) (kc ks : Nat), KK sa R base G 111 [(0, va_rf (some p0)), (1, va_rf a1), (2, va_rf a2), (3, va_rf a3), (4, .int a4)] [] s kc ks (C_Re_joinLine_b111 sa p0 a1 a2 a3 a4 s kc ks Q) := by
    intro a1 a2 a3 a4 s kc ks
    refine kks hG rfl rfl ?_
    refine kk_zeq hG (t := 119) rfl rfl ?_ ?_
    · refine kk_aln hG (x := a3) rfl rfl ?_
      refine kk_nnl hG (x := a3) (t := 129) rfl rfl ?_ ?_
      · exact kk_wl hG [0, 1, 2, 3] rfl (b129 _ _ _ _ _ _)
      refine kk_aln hG (x := a1) rfl rfl ?_
      refine kk_aln hG (x := a2) rfl rfl ?_
      refine kk_ob (fun b1 eb1 => ?_)
      subst eb1
      refine kk_cx (w := va_rf) hG 0 rfl rfl (Nat.le_of_ble_eq_true rfl) (by decide) rfl (st' := []) rfl (cats_le (Nat.le_of_ble_eq_true rfl)) (fun _ hw h k => kk_rcv h.1 (kc_Rr_addPort base sa hw h.2 k)) (fun r2 sr2 cr2 dr2 => ?_)
      refine kk_asn hG (x := r2) (L' := [(3, va_rf r2), (0, va_rf (some p0)), (1, va_rf (some b1)), (2, va_rf a2), (4, .int a4)]) rfl (Nat.le_of_ble_eq_true rfl) (by cases a2 <;> rfl) ?_
      exact kk_wl hG [1, 2, 3, 0] rfl (b129 _ _ _ _ _ _)
    refine kks hG rfl rfl ?_
    exact kk_ri hG rfl rfl rfl k
  have b83 : ∀ (a1 : Option Nat) (a2 : Option Nat) (a3 : Option Nat) (s : cS) (kc ks : Nat), KK sa R base G 83 [(0, va_rf (some p0)), (1, va_rf a1), (2, va_rf a2), (3, va_rf a3)] [] s kc ks (C_Re_joinLine_b83 sa p0 a1 a2 a3 s kc ks Q) := by
    intro a1 a2 a3 s kc ks
    refine kk_aln hG (x := (some p0)) rfl rfl ?_
    refine kk_aln hG (x := a3) rfl rfl ?_
    refine kk_cx (w := .int) hG 0 rfl rfl (Nat.le_of_ble_eq_true rfl) (by decide) rfl (st' := []) rfl (cats_le (Nat.le_of_ble_eq_true rfl)) (fun _ hw h k => kk_rcv h.1 (kc_Re_takeJoinOptions base sa hw h.2 k)) (fun r1 sr1 cr1 dr1 => ?_)
    refine kk_st hG (L' := [(4, .int r1), (0, va_rf (some p0)), (1, va_rf a1), (2, va_rf a2), (3, va_rf a3)]) rfl rfl (Nat.le_of_ble_eq_true rfl) (by cases a3 <;> rfl) ?_
    refine kks hG rfl rfl ?_
    refine kk_zne hG (t := 111) rfl rfl ?_ ?_
    · exact kk_wl hG [1, 2, 3, 4, 0] rfl (b111 _ _ _ _ _ _ _)
    refine kk_aln hG (x := a3) rfl rfl ?_
    refine kk_nnl hG (x := a3) (t := 111) rfl rfl ?_ ?_
    · exact kk_wl hG [1, 2, 3, 4, 0] rfl (b111 _ _ _ _ _ _ _)
    refine kk_aln hG (x := a1) rfl rfl ?_
    refine kk_ob (fun b2 eb2 => ?_)
    subst eb2
    refine kk_gi hG (c := 9) (k := 5) (a := b2) rfl rfl rfl rfl (fun v3 => ?_)
    refine kk_ic hG rfl cc_i4 ?_
    refine kk_ilt hG (t := 111) rfl rfl ?_ ?_
    · exact kk_wl hG [1, 2, 3, 4, 0] rfl (b111 _ _ _ _ _ _ _)
    refine kk_bi hG rfl cc_b6 ?_
    refine kk_st hG (L' := [(4, .int (6 : Int32)), (0, va_rf (some p0)), (1, va_rf (some b2)), (2, va_rf a2), (3, va_rf a3)]) rfl rfl (Nat.le_of_ble_eq_true rfl) (by cases a3 <;> rfl) ?_
    exact kk_wl hG [1, 2, 3, 4, 0] rfl (b111 _ _ _ _ _ _ _)
  refine (show KK sa R base G 0 [(0, va_rf (some p0))] [] s kc ks (C_Re_joinLine sa p0 s kc ks Q) from ?_) hw h
  refine kk_aln hG (x := (some p0)) rfl rfl ?_
  refine kk_gi hG (c := 7) (k := 3) (a := p0) rfl rfl rfl rfl (fun v1 => ?_)
  refine kk_ic hG rfl cc_i4 ?_
  refine kk_ilt hG (t := 15) rfl rfl ?_ ?_
  · refine kk_ic hG rfl cc_i2 ?_
    exact kk_ri hG rfl rfl rfl k
  refine kk_aln hG (x := (some p0)) rfl rfl ?_
  refine kk_cx (w := .int) hG 0 rfl rfl (Nat.le_of_ble_eq_true rfl) (by decide) rfl (st' := []) rfl (cats_le (Nat.le_of_ble_eq_true rfl)) (fun _ hw h k => kk_rcv h.1 (kc_Re_hasJoinOptions base sa hw h.2 k)) (fun r2 sr2 cr2 dr2 => ?_)
  refine kk_zne hG (t := 17) rfl rfl ?_ ?_
  · refine kk_aln hG (x := (some p0)) rfl rfl ?_
    refine kk_ic hG rfl cc_i1 ?_
    refine kk_cx (w := va_rf) hG 0 rfl rfl (Nat.le_of_ble_eq_true rfl) (by decide) rfl (st' := []) rfl (cats_le (Nat.le_of_ble_eq_true rfl)) (fun _ hw h k => kk_rcv h.1 (kc_Re_routerNamed base sa hw h.2 k)) (fun r3 sr3 cr3 dr3 => ?_)
    refine kk_asn hG (x := r3) (L' := [(1, va_rf r3), (0, va_rf (some p0))]) rfl (Nat.le_of_ble_eq_true rfl) rfl ?_
    refine kk_aln hG (x := (some p0)) rfl rfl ?_
    refine kk_gp hG (c := 7) (k := 0) (a := p0) rfl rfl rfl rfl (fun v4 => ?_)
    refine kk_aln hG (x := (some p0)) rfl rfl ?_
    refine kk_ic hG rfl cc_i2 ?_
    refine kk_cx (w := .int) hG 0 rfl rfl (Nat.le_of_ble_eq_true rfl) (by decide) rfl (st' := [va_rf v4]) rfl (cats_le (Nat.le_of_ble_eq_true rfl)) (fun _ hw h k => kk_rcv h.1 (kc_Re_linkNamed base sa hw h.2 k)) (fun r5 sr5 cr5 dr5 => ?_)
    refine kk_ob (fun b6 eb6 => ?_)
    subst eb6
    refine kk_cx (w := va_rf) hG 0 rfl rfl (Nat.le_of_ble_eq_true rfl) (by decide) rfl (st' := []) rfl (cats_le (Nat.le_of_ble_eq_true rfl)) (fun _ hw h k => kk_rcv h.1 (kc_Rf_linkAt base sa hw h.2 k)) (fun r7 sr7 cr7 dr7 => ?_)
    refine kk_asn hG (x := r7) (L' := [(2, va_rf r7), (1, va_rf r3), (0, va_rf (some p0))]) rfl (Nat.le_of_ble_eq_true rfl) (by cases r3 <;> rfl) ?_
    refine kk_aln hG (x := r3) rfl rfl ?_
    refine kk_nul hG (x := r3) (t := 44) rfl rfl ?_ ?_
    · refine kk_ic hG rfl cc_i3 ?_
      exact kk_ri hG rfl rfl rfl k
    refine kk_aln hG (x := r7) rfl rfl ?_
    refine kk_nnl hG (x := r7) (t := 46) rfl rfl ?_ ?_
    · refine kk_aln hG (x := (some p0)) rfl rfl ?_
      refine kk_ic hG rfl cc_i3 ?_
      refine kk_ic hG rfl cc_i1 ?_
      refine kk_cx (w := .int) hG 0 rfl rfl (Nat.le_of_ble_eq_true rfl) (by decide) rfl (st' := []) rfl (cats_le (Nat.le_of_ble_eq_true rfl)) (fun _ hw h k => kk_rcv h.1 (kc_Re_takePrefix base sa hw h.2 k)) (fun r8 sr8 cr8 dr8 => ?_)
      refine kk_zne hG (t := 57) rfl rfl ?_ ?_
      · refine kk_aln hG (x := r3) rfl rfl ?_
        refine kk_aln hG (x := r7) rfl rfl ?_
        refine kk_ob (fun b9 eb9 => ?_)
        subst eb9
        refine kk_cx (w := va_rf) hG 0 rfl rfl (Nat.le_of_ble_eq_true rfl) (by decide) rfl (st' := []) rfl (cats_le (Nat.le_of_ble_eq_true rfl)) (fun _ hw h k => kk_rcv h.1 (kc_Rr_portOn base sa hw h.2 k)) (fun r10 sr10 cr10 dr10 => ?_)
        refine kk_asn hG (x := r10) (L' := [(3, va_rf r10), (2, va_rf r7), (1, va_rf (some b9)), (0, va_rf (some p0))]) rfl (Nat.le_of_ble_eq_true rfl) (by cases r7 <;> rfl) ?_
        refine kk_aln hG (x := r10) rfl rfl ?_
        refine kk_nul hG (x := r10) (t := 83) rfl rfl ?_ ?_
        · exact kk_wl hG [3, 2, 1, 0] rfl (b83 _ _ _ _ _ _)
        refine kk_aln hG (x := r10) rfl rfl ?_
        refine kk_aln hG (x := (some p0)) rfl rfl ?_
        refine kk_gp hG (c := 7) (k := 6) (a := p0) rfl rfl rfl rfl (fun v11 => ?_)
        refine kk_ob (fun b12 eb12 => ?_)
        subst eb12
        refine kk_gi hG (c := 5) (k := 0) (a := b12) rfl rfl rfl rfl (fun v13 => ?_)
        refine kk_ob (fun b14 eb14 => ?_)
        subst eb14
        refine kk_cx (w := va_rf) hG 0 rfl rfl (Nat.le_of_ble_eq_true rfl) (by decide) rfl (st' := []) rfl (cats_le (Nat.le_of_ble_eq_true rfl)) (fun _ hw h k => kk_rcv h.1 (kc_Po_addressOf base sa hw h.2 k)) (fun r15 sr15 cr15 dr15 => ?_)
        refine kk_nul hG (x := r15) (t := 83) rfl rfl ?_ ?_
        · exact kk_wl hG [3, 2, 1, 0] rfl (b83 _ _ _ _ _ _)
        refine kk_ic hG rfl cc_i3 ?_
        exact kk_ri hG rfl rfl rfl k
      refine kk_ic hG rfl cc_i5 ?_
      exact kk_ri hG rfl rfl rfl k
    refine kk_ic hG rfl cc_i3 ?_
    exact kk_ri hG rfl rfl rfl k
  refine kk_ic hG rfl cc_i2 ?_
  exact kk_ri hG rfl rfl rfl k
def C_Re_isEither (sa : Nat → Nat) (p0 : Nat) (p1 : Int32) (p2 : Option Nat) (p3 : Option Nat) (s : cS) (kc ks : Nat) (Q : (Int32 → cS → Nat → Nat → Prop)) : Prop := okO s 7 p0 ∧ C_Re_is sa p0 p1 p2 s kc ks (fun r1 sr1 cr1 dr1 => (if r1 = 0 then (okO sr1 7 p0 ∧ C_Re_is sa p0 p1 p3 sr1 cr1 dr1 (fun r2 sr2 cr2 dr2 => (if r2 = 0 then (Q (0 : Int32) sr2 cr2 dr2) else (Q (1 : Int32) sr2 cr2 dr2)))) else (Q (1 : Int32) sr1 cr1 dr1)))
set_option maxRecDepth 100000 in
set_option maxHeartbeats 4000000 in
theorem kc_Re_isEither (base : Nat) (sa : Nat → Nat) {R : pmM} {s : cS} {kc ks : Nat} {Rt : pmR} {p0 : Nat} {p1 : Int32} {p2 : Option Nat} {p3 : Option Nat} {Q : (Int32 → cS → Nat → Nat → Prop)} (hw : cW sa R base s) (h : C_Re_isEither sa p0 p1 p2 p3 s kc ks Q) (k : ∀ r s' kc' ks', cW sa R base s' → Q r s' kc' ks' → Rt (some (.int r)) (cM R s') kc' ks') : kP_Re_isEither base sa [.ref p0, .int p1, va_rf p2, va_rf p3] (cM R s) kc ks Rt := by
  refine ⟨by cases p2 <;> cases p3 <;> exact Nat.le_of_ble_eq_true rfl, fun G hG => ?_⟩
  have eL : lv_args 0 [.ref p0, .int p1, va_rf p2, va_rf p3] = [(0, va_rf (some p0)), (1, .int p1), (2, va_rf p2), (3, va_rf p3)] := by cases p2 <;> cases p3 <;> rfl
  rw [eL]
  refine (show KK sa R base G 0 [(0, va_rf (some p0)), (1, .int p1), (2, va_rf p2), (3, va_rf p3)] [] s kc ks (C_Re_isEither sa p0 p1 p2 p3 s kc ks Q) from ?_) hw h
  refine kk_aln hG (x := (some p0)) rfl rfl ?_
  refine kks hG rfl rfl ?_
  refine kk_aln hG (x := p2) rfl rfl ?_
  refine kk_cx (w := .int) hG 0 rfl rfl (Nat.le_of_ble_eq_true rfl) (by decide) rfl (st' := []) rfl (cats_le (Nat.le_of_ble_eq_true rfl)) (fun _ hw h k => kk_rcv h.1 (kc_Re_is base sa hw h.2 k)) (fun r1 sr1 cr1 dr1 => ?_)
  refine kk_zne hG (t := 18) rfl rfl ?_ ?_
  · refine kk_ic hG rfl cc_i1 ?_
    refine kk_go hG (t := 23) rfl rfl ?_
    exact kk_ri hG rfl rfl rfl k
  refine kk_aln hG (x := (some p0)) rfl rfl ?_
  refine kks hG rfl rfl ?_
  refine kk_aln hG (x := p3) rfl rfl ?_
  refine kk_cx (w := .int) hG 0 rfl rfl (Nat.le_of_ble_eq_true rfl) (by decide) rfl (st' := []) rfl (cats_le (Nat.le_of_ble_eq_true rfl)) (fun _ hw h k => kk_rcv h.1 (kc_Re_is base sa hw h.2 k)) (fun r2 sr2 cr2 dr2 => ?_)
  refine kk_zeq hG (t := 22) rfl rfl ?_ ?_
  · refine kk_ic hG rfl cc_i0 ?_
    exact kk_ri hG rfl rfl rfl k
  refine kk_ic hG rfl cc_i1 ?_
  refine kk_go hG (t := 23) rfl rfl ?_
  exact kk_ri hG rfl rfl rfl k
def C_Re_portNamed (sa : Nat → Nat) (p0 : Nat) (s : cS) (kc ks : Nat) (Q : (Option Nat → cS → Nat → Nat → Prop)) : Prop := okO s 7 p0 ∧ C_Re_routerNamed sa p0 (1 : Int32) s kc ks (fun r1 sr1 cr1 dr1 => (ob (gP sr1 7 0 p0) (fun v2 => (okO sr1 7 p0 ∧ C_Re_linkNamed sa p0 (2 : Int32) sr1 cr1 dr1 (fun r3 sr3 cr3 dr3 => (ob v2 (fun b4 => (okO sr3 11 b4 ∧ C_Rf_linkAt sa b4 r3 sr3 cr3 dr3 (fun r5 sr5 cr5 dr5 => (if r1 = none then (Q none sr5 cr5 dr5) else (if r5 = none then (Q none sr5 cr5 dr5) else (ob r1 (fun b6 => (okO sr5 9 b6 ∧ C_Rr_portOn sa b6 r5 sr5 cr5 dr5 (fun r7 sr7 cr7 dr7 => (Q r7 sr7 cr7 dr7))))))))))))))))
set_option maxRecDepth 100000 in
set_option maxHeartbeats 4000000 in
theorem kc_Re_portNamed (base : Nat) (sa : Nat → Nat) {R : pmM} {s : cS} {kc ks : Nat} {Rt : pmR} {p0 : Nat} {Q : (Option Nat → cS → Nat → Nat → Prop)} (hw : cW sa R base s) (h : C_Re_portNamed sa p0 s kc ks Q) (k : ∀ r s' kc' ks', cW sa R base s' → Q r s' kc' ks' → Rt (some (va_rf r)) (cM R s') kc' ks') : kP_Re_portNamed base sa [.ref p0] (cM R s) kc ks Rt := by
  refine ⟨Nat.le_of_ble_eq_true rfl, fun G hG => ?_⟩
  refine (show KK sa R base G 0 [(0, va_rf (some p0))] [] s kc ks (C_Re_portNamed sa p0 s kc ks Q) from ?_) hw h
  refine kk_aln hG (x := (some p0)) rfl rfl ?_
  refine kk_ic hG rfl cc_i1 ?_
  refine kk_cx (w := va_rf) hG 0 rfl rfl (Nat.le_of_ble_eq_true rfl) (by decide) rfl (st' := []) rfl (cats_le (Nat.le_of_ble_eq_true rfl)) (fun _ hw h k => kk_rcv h.1 (kc_Re_routerNamed base sa hw h.2 k)) (fun r1 sr1 cr1 dr1 => ?_)
  refine kk_asn hG (x := r1) (L' := [(1, va_rf r1), (0, va_rf (some p0))]) rfl (Nat.le_of_ble_eq_true rfl) rfl ?_
  refine kk_aln hG (x := (some p0)) rfl rfl ?_
  refine kk_gp hG (c := 7) (k := 0) (a := p0) rfl rfl rfl rfl (fun v2 => ?_)
  refine kk_aln hG (x := (some p0)) rfl rfl ?_
  refine kk_ic hG rfl cc_i2 ?_
  refine kk_cx (w := .int) hG 0 rfl rfl (Nat.le_of_ble_eq_true rfl) (by decide) rfl (st' := [va_rf v2]) rfl (cats_le (Nat.le_of_ble_eq_true rfl)) (fun _ hw h k => kk_rcv h.1 (kc_Re_linkNamed base sa hw h.2 k)) (fun r3 sr3 cr3 dr3 => ?_)
  refine kk_ob (fun b4 eb4 => ?_)
  subst eb4
  refine kk_cx (w := va_rf) hG 0 rfl rfl (Nat.le_of_ble_eq_true rfl) (by decide) rfl (st' := []) rfl (cats_le (Nat.le_of_ble_eq_true rfl)) (fun _ hw h k => kk_rcv h.1 (kc_Rf_linkAt base sa hw h.2 k)) (fun r5 sr5 cr5 dr5 => ?_)
  refine kk_asn hG (x := r5) (L' := [(2, va_rf r5), (1, va_rf r1), (0, va_rf (some p0))]) rfl (Nat.le_of_ble_eq_true rfl) (by cases r1 <;> rfl) ?_
  refine kk_aln hG (x := r1) rfl rfl ?_
  refine kk_nul hG (x := r1) (t := 27) rfl rfl ?_ ?_
  · refine kks hG rfl rfl ?_
    refine kk_go hG (t := 36) rfl rfl ?_
    exact kk_ra hG (x := none) rfl rfl rfl k
  refine kk_aln hG (x := r5) rfl rfl ?_
  refine kk_nnl hG (x := r5) (t := 31) rfl rfl ?_ ?_
  · refine kk_aln hG (x := r1) rfl rfl ?_
    refine kk_aln hG (x := r5) rfl rfl ?_
    refine kk_ob (fun b6 eb6 => ?_)
    subst eb6
    refine kk_cx (w := va_rf) hG 0 rfl rfl (Nat.le_of_ble_eq_true rfl) (by decide) rfl (st' := []) rfl (cats_le (Nat.le_of_ble_eq_true rfl)) (fun _ hw h k => kk_rcv h.1 (kc_Rr_portOn base sa hw h.2 k)) (fun r7 sr7 cr7 dr7 => ?_)
    exact kk_ra hG (x := r7) rfl rfl rfl k
  refine kks hG rfl rfl ?_
  refine kk_go hG (t := 36) rfl rfl ?_
  exact kk_ra hG (x := none) rfl rfl rfl k
def C_Re_keyLine_b119 (sa : Nat → Nat) (p0 : Nat) (a1 : Option Nat) (a2 : Int32) (a3 : Int32) (a4 : Int32) (u0 : Int32) (s : cS) (kc ks : Nat) (Q : (Int32 → cS → Nat → Nat → Prop)) : Prop := ob a1 (fun b1 => (ob (gP s 4 6 b1) (fun v2 => (ob (gP s 7 7 p0) (fun v3 => (ob v2 (fun b4 => (okO s 1 b4 ∧ C_Ch_setKey sa b4 a2 u0 v3 a3 a4 s kc ks (fun r5 sr5 cr5 dr5 => (if r5 = 0 then (Q (6 : Int32) sr5 cr5 dr5) else (Q (0 : Int32) sr5 cr5 dr5)))))))))))
def C_Re_keyLine (sa : Nat → Nat) (p0 : Nat) (s : cS) (kc ks : Nat) (Q : (Int32 → cS → Nat → Nat → Prop)) : Prop := ob (gI s 7 3 p0) (fun v1 => (if v1 = (8 : Int32) then (okO s 7 p0 ∧ C_Re_isEither sa p0 (4 : Int32) (some (sa 9)) (some (sa 10)) s kc ks (fun r2 sr2 cr2 dr2 => (if r2 = 0 then (Q (2 : Int32) sr2 cr2 dr2) else (okO sr2 7 p0 ∧ C_Re_portNamed sa p0 sr2 cr2 dr2 (fun r3 sr3 cr3 dr3 => (if r3 = none then (Q (3 : Int32) sr3 cr3 dr3) else (okO sr3 7 p0 ∧ C_Re_number sa p0 (3 : Int32) (0 : Int32) (255 : Int32) sr3 cr3 dr3 (fun r4 sr4 cr4 dr4 => (okO sr4 7 p0 ∧ C_Re_number sa p0 (6 : Int32) (0 : Int32) (99999 : Int32) sr4 cr4 dr4 (fun r5 sr5 cr5 dr5 => (okO sr5 7 p0 ∧ C_Re_number sa p0 (7 : Int32) (0 : Int32) (99999 : Int32) sr5 cr5 dr5 (fun r6 sr6 cr6 dr6 => (if r4 = ((-1) : Int32) then (Q (4 : Int32) sr6 cr6 dr6) else (okO sr6 7 p0 ∧ C_Re_takeSecret sa p0 (5 : Int32) sr6 cr6 dr6 (fun r7 sr7 cr7 dr7 => (if r7 = 0 then (Q (4 : Int32) sr7 cr7 dr7) else (if r5 = ((-1) : Int32) then (Q (4 : Int32) sr7 cr7 dr7) else (if r6 = ((-1) : Int32) then (Q (4 : Int32) sr7 cr7 dr7) else (if r6 < r5 then (Q (4 : Int32) sr7 cr7 dr7) else (okO sr7 7 p0 ∧ C_Re_is sa p0 (4 : Int32) (some (sa 9)) sr7 cr7 dr7 (fun r8 sr8 cr8 dr8 => (if r8 = 0 then ((C_Re_keyLine_b119 sa p0 r3 r4 r5 r6 (20 : Int32) sr8 cr8 dr8 Q)) else ((C_Re_keyLine_b119 sa p0 r3 r4 r5 r6 (16 : Int32) sr8 cr8 dr8 Q)))))))))))))))))))))))) else (Q (2 : Int32) s kc ks)))
set_option maxRecDepth 100000 in
set_option maxHeartbeats 4000000 in
theorem kc_Re_keyLine (base : Nat) (sa : Nat → Nat) {R : pmM} {s : cS} {kc ks : Nat} {Rt : pmR} {p0 : Nat} {Q : (Int32 → cS → Nat → Nat → Prop)} (hw : cW sa R base s) (h : C_Re_keyLine sa p0 s kc ks Q) (k : ∀ r s' kc' ks', cW sa R base s' → Q r s' kc' ks' → Rt (some (.int r)) (cM R s') kc' ks') : kP_Re_keyLine base sa [.ref p0] (cM R s) kc ks Rt := by
  refine ⟨Nat.le_of_ble_eq_true rfl, fun G hG => ?_⟩
  have b119 : ∀ (a1 : Option Nat) (a2 : Int32) (a3 : Int32) (a4 : Int32) (u0 : Int32) (s : cS) (kc ks : Nat), KK sa R base G 119 [(0, va_rf (some p0)), (1, va_rf a1), (2, .int a2), (3, .int a3), (4, .int a4)] [.int u0] s kc ks (C_Re_keyLine_b119 sa p0 a1 a2 a3 a4 u0 s kc ks Q) := by
    intro a1 a2 a3 a4 u0 s kc ks
    refine kk_st hG (L' := [(5, .int u0), (0, va_rf (some p0)), (1, va_rf a1), (2, .int a2), (3, .int a3), (4, .int a4)]) rfl rfl (Nat.le_of_ble_eq_true rfl) rfl ?_
    refine kk_aln hG (x := a1) rfl rfl ?_
    refine kk_ob (fun b1 eb1 => ?_)
    subst eb1
    refine kk_gp hG (c := 4) (k := 6) (a := b1) rfl rfl rfl rfl (fun v2 => ?_)
    refine kks hG rfl rfl ?_
    refine kks hG rfl rfl ?_
    refine kk_aln hG (x := (some p0)) rfl rfl ?_
    refine kk_gp hG (c := 7) (k := 7) (a := p0) rfl rfl rfl rfl (fun v3 => ?_)
    refine kks hG rfl rfl ?_
    refine kks hG rfl rfl ?_
    refine kk_ob (fun b4 eb4 => ?_)
    subst eb4
    refine kk_cx (w := .int) hG 0 rfl rfl (Nat.le_of_ble_eq_true rfl) (by decide) rfl (st' := []) rfl (cats_le (Nat.le_of_ble_eq_true rfl)) (fun _ hw h k => kk_rcv h.1 (kc_Ch_setKey base sa hw h.2 k)) (fun r5 sr5 cr5 dr5 => ?_)
    refine kk_zeq hG (t := 145) rfl rfl ?_ ?_
    · refine kk_bi hG rfl cc_b6 ?_
      exact kk_ri hG rfl rfl rfl k
    refine kk_ic hG rfl cc_i0 ?_
    refine kk_go hG (t := 147) rfl rfl ?_
    exact kk_ri hG rfl rfl rfl k
  refine (show KK sa R base G 0 [(0, va_rf (some p0))] [] s kc ks (C_Re_keyLine sa p0 s kc ks Q) from ?_) hw h
  refine kk_aln hG (x := (some p0)) rfl rfl ?_
  refine kk_gi hG (c := 7) (k := 3) (a := p0) rfl rfl rfl rfl (fun v1 => ?_)
  refine kk_bi hG rfl cc_b8 ?_
  refine kk_ine hG (t := 23) rfl rfl ?_ ?_
  · refine kk_ic hG rfl cc_i2 ?_
    exact kk_ri hG rfl rfl rfl k
  refine kk_aln hG (x := (some p0)) rfl rfl ?_
  refine kk_ic hG rfl cc_i4 ?_
  refine kk_lws hG (a := sa 9) rfl rfl ?_
  refine kk_lws hG (a := sa 10) rfl rfl ?_
  refine kk_cx (w := .int) hG 0 rfl rfl (Nat.le_of_ble_eq_true rfl) (by decide) rfl (st' := []) rfl (cats_le (Nat.le_of_ble_eq_true rfl)) (fun _ hw h k => kk_rcv h.1 (kc_Re_isEither base sa hw h.2 k)) (fun r2 sr2 cr2 dr2 => ?_)
  refine kk_zne hG (t := 25) rfl rfl ?_ ?_
  · refine kk_aln hG (x := (some p0)) rfl rfl ?_
    refine kk_cx (w := va_rf) hG 0 rfl rfl (Nat.le_of_ble_eq_true rfl) (by decide) rfl (st' := []) rfl (cats_le (Nat.le_of_ble_eq_true rfl)) (fun _ hw h k => kk_rcv h.1 (kc_Re_portNamed base sa hw h.2 k)) (fun r3 sr3 cr3 dr3 => ?_)
    refine kk_asn hG (x := r3) (L' := [(1, va_rf r3), (0, va_rf (some p0))]) rfl (Nat.le_of_ble_eq_true rfl) rfl ?_
    refine kk_aln hG (x := r3) rfl rfl ?_
    refine kk_nnl hG (x := r3) (t := 36) rfl rfl ?_ ?_
    · refine kk_aln hG (x := (some p0)) rfl rfl ?_
      refine kk_ic hG rfl cc_i3 ?_
      refine kk_ic hG rfl cc_i0 ?_
      refine kk_si hG rfl cc_s255 ?_
      refine kk_cx (w := .int) hG 0 rfl rfl (Nat.le_of_ble_eq_true rfl) (by decide) rfl (st' := []) rfl (cats_le (Nat.le_of_ble_eq_true rfl)) (fun _ hw h k => kk_rcv h.1 (kc_Re_number base sa hw h.2 k)) (fun r4 sr4 cr4 dr4 => ?_)
      refine kk_st hG (L' := [(2, .int r4), (1, va_rf r3), (0, va_rf (some p0))]) rfl rfl (Nat.le_of_ble_eq_true rfl) (by cases r3 <;> rfl) ?_
      refine kk_aln hG (x := (some p0)) rfl rfl ?_
      refine kk_bi hG rfl cc_b6 ?_
      refine kk_ic hG rfl cc_i0 ?_
      refine kk_lw hG (v := (99999 : Int32)) rfl rfl ?_
      refine kk_cx (w := .int) hG 0 rfl rfl (Nat.le_of_ble_eq_true rfl) (by decide) rfl (st' := []) rfl (cats_le (Nat.le_of_ble_eq_true rfl)) (fun _ hw h k => kk_rcv h.1 (kc_Re_number base sa hw h.2 k)) (fun r5 sr5 cr5 dr5 => ?_)
      refine kk_st hG (L' := [(3, .int r5), (2, .int r4), (1, va_rf r3), (0, va_rf (some p0))]) rfl rfl (Nat.le_of_ble_eq_true rfl) rfl ?_
      refine kk_aln hG (x := (some p0)) rfl rfl ?_
      refine kk_bi hG rfl cc_b7 ?_
      refine kk_ic hG rfl cc_i0 ?_
      refine kk_lw hG (v := (99999 : Int32)) rfl rfl ?_
      refine kk_cx (w := .int) hG 0 rfl rfl (Nat.le_of_ble_eq_true rfl) (by decide) rfl (st' := []) rfl (cats_le (Nat.le_of_ble_eq_true rfl)) (fun _ hw h k => kk_rcv h.1 (kc_Re_number base sa hw h.2 k)) (fun r6 sr6 cr6 dr6 => ?_)
      refine kk_st hG (L' := [(4, .int r6), (3, .int r5), (2, .int r4), (1, va_rf r3), (0, va_rf (some p0))]) rfl rfl (Nat.le_of_ble_eq_true rfl) rfl ?_
      refine kks hG rfl rfl ?_
      refine kk_ic hG rfl cc_im1 ?_
      refine kk_ieq hG (t := 99) rfl rfl ?_ ?_
      · refine kk_ic hG rfl cc_i4 ?_
        exact kk_ri hG rfl rfl rfl k
      refine kk_aln hG (x := (some p0)) rfl rfl ?_
      refine kk_ic hG rfl cc_i5 ?_
      refine kk_cx (w := .int) hG 0 rfl rfl (Nat.le_of_ble_eq_true rfl) (by decide) rfl (st' := []) rfl (cats_le (Nat.le_of_ble_eq_true rfl)) (fun _ hw h k => kk_rcv h.1 (kc_Re_takeSecret base sa hw h.2 k)) (fun r7 sr7 cr7 dr7 => ?_)
      refine kk_zeq hG (t := 99) rfl rfl ?_ ?_
      · refine kk_ic hG rfl cc_i4 ?_
        exact kk_ri hG rfl rfl rfl k
      refine kks hG rfl rfl ?_
      refine kk_ic hG rfl cc_im1 ?_
      refine kk_ieq hG (t := 99) rfl rfl ?_ ?_
      · refine kk_ic hG rfl cc_i4 ?_
        exact kk_ri hG rfl rfl rfl k
      refine kks hG rfl rfl ?_
      refine kk_ic hG rfl cc_im1 ?_
      refine kk_ieq hG (t := 99) rfl rfl ?_ ?_
      · refine kk_ic hG rfl cc_i4 ?_
        exact kk_ri hG rfl rfl rfl k
      refine kks hG rfl rfl ?_
      refine kks hG rfl rfl ?_
      refine kk_ile hG (t := 101) rfl rfl ?_ ?_
      · refine kk_aln hG (x := (some p0)) rfl rfl ?_
        refine kk_ic hG rfl cc_i4 ?_
        refine kk_lws hG (a := sa 9) rfl rfl ?_
        refine kk_cx (w := .int) hG 0 rfl rfl (Nat.le_of_ble_eq_true rfl) (by decide) rfl (st' := []) rfl (cats_le (Nat.le_of_ble_eq_true rfl)) (fun _ hw h k => kk_rcv h.1 (kc_Re_is base sa hw h.2 k)) (fun r8 sr8 cr8 dr8 => ?_)
        refine kk_zeq hG (t := 117) rfl rfl ?_ ?_
        · refine kk_bi hG rfl cc_b20 ?_
          exact kk_wl hG [4, 3, 2, 1, 0] rfl (b119 _ _ _ _ _ _ _ _)
        refine kk_bi hG rfl cc_b16 ?_
        refine kk_go hG (t := 119) rfl rfl ?_
        exact kk_wl hG [4, 3, 2, 1, 0] rfl (b119 _ _ _ _ _ _ _ _)
      refine kk_ic hG rfl cc_i4 ?_
      exact kk_ri hG rfl rfl rfl k
    refine kk_ic hG rfl cc_i3 ?_
    exact kk_ri hG rfl rfl rfl k
  refine kk_ic hG rfl cc_i2 ?_
  exact kk_ri hG rfl rfl rfl k
