/-! Methods as weakest preconditions, by program: Rr_hearAgain .. Rf_bringDue -/
def C_Rr_hearAgain_b215 (sa : Nat → Nat) (p0 : Nat) (p1 : Option Nat) (p2 : Option Nat) (p3 : Int32) (p4 : Option Nat) (p5 : Int32) (a8 : Int32) (s : cS) (kc ks : Nat) (Q : (cS → Nat → Nat → Prop)) : Prop := if a8 = 0 then (Q s kc ks) else (okO s 9 p0 ∧ C_Rr_take sa p0 p1 p2 p3 p4 p5 s kc ks (fun sr1 cr1 dr1 => (Q sr1 cr1 dr1)))
def C_Rr_hearAgain_b137 (sa : Nat → Nat) (p0 : Nat) (p1 : Option Nat) (p2 : Option Nat) (p3 : Int32) (p4 : Option Nat) (p5 : Int32) (u0 : Int32) (u1 : Int32) (s : cS) (kc ks : Nat) (Q : (cS → Nat → Nat → Prop)) : Prop := ob p1 (fun b1 => (ob (gI s 8 4 b1) (fun v2 => (if v2 < (16 : Int32) then (if p5 < (16 : Int32) then (okO s 9 p0 ∧ C_Rr_startTimeout sa p0 (some b1) s kc ks (fun sr3 cr3 dr3 => ((C_Rr_hearAgain_b215 sa p0 (some b1) p2 p3 p4 p5 (u0 ||| u1) sr3 cr3 dr3 Q)))) else ((C_Rr_hearAgain_b215 sa p0 (some b1) p2 p3 p4 p5 (u0 ||| u1) s kc ks Q))) else ((C_Rr_hearAgain_b215 sa p0 (some b1) p2 p3 p4 p5 (u0 ||| u1) s kc ks Q))))))
def C_Rr_hearAgain_b118 (sa : Nat → Nat) (p0 : Nat) (p1 : Option Nat) (p2 : Option Nat) (p3 : Int32) (p4 : Option Nat) (p5 : Int32) (a8 : Int32) (a9 : Int32) (u0 : Int32) (s : cS) (kc ks : Nat) (Q : (cS → Nat → Nat → Prop)) : Prop := if u0 = 0 then ((C_Rr_hearAgain_b137 sa p0 p1 p2 p3 p4 p5 a8 (0 : Int32) s kc ks Q)) else (if a9 = 0 then ((C_Rr_hearAgain_b137 sa p0 p1 p2 p3 p4 p5 a8 (1 : Int32) s kc ks Q)) else ((C_Rr_hearAgain_b137 sa p0 p1 p2 p3 p4 p5 a8 (0 : Int32) s kc ks Q)))
def C_Rr_hearAgain_b85 (sa : Nat → Nat) (p0 : Nat) (p1 : Option Nat) (p2 : Option Nat) (p3 : Int32) (p4 : Option Nat) (p5 : Int32) (a8 : Int32) (u0 : Int32) (s : cS) (kc ks : Nat) (Q : (cS → Nat → Nat → Prop)) : Prop := ob p1 (fun b1 => (ob (gI s 8 4 b1) (fun v2 => (if p5 = v2 then (ob (gP s 8 1 b1) (fun v3 => (ob (gP s 9 0 p0) (fun v4 => (ob v4 (fun b5 => (ob (gP s 11 19 b5) (fun v6 => (ob v3 (fun b7 => (okO s 5 b7 ∧ C_Pr_sameAddress sa b7 v6 s kc ks (fun r8 sr8 cr8 dr8 => (if r8 = 0 then ((C_Rr_hearAgain_b118 sa p0 (some b1) p2 p3 p4 p5 a8 u0 (1 : Int32) sr8 cr8 dr8 Q)) else ((C_Rr_hearAgain_b118 sa p0 (some b1) p2 p3 p4 p5 a8 u0 (0 : Int32) sr8 cr8 dr8 Q))))))))))))))) else ((C_Rr_hearAgain_b118 sa p0 (some b1) p2 p3 p4 p5 a8 u0 (1 : Int32) s kc ks Q))))))
def C_Rr_hearAgain_b213 (sa : Nat → Nat) (p0 : Nat) (p1 : Option Nat) (p2 : Option Nat) (p3 : Int32) (p4 : Option Nat) (p5 : Int32) (u0 : Int32) (s : cS) (kc ks : Nat) (Q : (cS → Nat → Nat → Prop)) : Prop := (C_Rr_hearAgain_b215 sa p0 p1 p2 p3 p4 p5 u0 s kc ks Q)
def C_Rr_hearAgain_b53 (sa : Nat → Nat) (p0 : Nat) (p1 : Option Nat) (p2 : Option Nat) (p3 : Int32) (p4 : Option Nat) (p5 : Int32) (a6 : Int32) (u0 : Int32) (s : cS) (kc ks : Nat) (Q : (cS → Nat → Nat → Prop)) : Prop := if a6 = 0 then (if u0 = 0 then (ob p1 (fun b1 => (ob (gI s 8 4 b1) (fun v2 => (if p5 = v2 then (if p5 < (16 : Int32) then (ob (gP s 9 0 p0) (fun v3 => (ob v3 (fun b4 => (ob (gI s 11 5 b4) (fun v5 => (ob (gI s 8 8 b1) (fun v6 => (ob (gI s 8 9 b1) (fun v7 => (if (v5 - v6) < ((v7 + (1 : Int32)) / (2 : Int32)) then ((C_Rr_hearAgain_b213 sa p0 (some b1) p2 p3 p4 p5 (0 : Int32) s kc ks Q)) else ((C_Rr_hearAgain_b213 sa p0 (some b1) p2 p3 p4 p5 (1 : Int32) s kc ks Q))))))))))))) else ((C_Rr_hearAgain_b215 sa p0 (some b1) p2 p3 p4 p5 u0 s kc ks Q))) else ((C_Rr_hearAgain_b215 sa p0 (some b1) p2 p3 p4 p5 u0 s kc ks Q))))))) else ((C_Rr_hearAgain_b215 sa p0 p1 p2 p3 p4 p5 u0 s kc ks Q))) else (ob p1 (fun b8 => (ob (gI s 8 4 b8) (fun v9 => (if v9 = (16 : Int32) then (if p5 = (16 : Int32) then ((C_Rr_hearAgain_b85 sa p0 (some b8) p2 p3 p4 p5 u0 (1 : Int32) s kc ks Q)) else ((C_Rr_hearAgain_b85 sa p0 (some b8) p2 p3 p4 p5 u0 (0 : Int32) s kc ks Q))) else ((C_Rr_hearAgain_b85 sa p0 (some b8) p2 p3 p4 p5 u0 (0 : Int32) s kc ks Q)))))))
def C_Rr_hearAgain_b37 (sa : Nat → Nat) (p0 : Nat) (p1 : Option Nat) (p2 : Option Nat) (p3 : Int32) (p4 : Option Nat) (p5 : Int32) (u0 : Int32) (s : cS) (kc ks : Nat) (Q : (cS → Nat → Nat → Prop)) : Prop := ob p1 (fun b1 => (ob (gI s 8 4 b1) (fun v2 => (if p5 < v2 then ((C_Rr_hearAgain_b53 sa p0 (some b1) p2 p3 p4 p5 u0 (1 : Int32) s kc ks Q)) else ((C_Rr_hearAgain_b53 sa p0 (some b1) p2 p3 p4 p5 u0 (0 : Int32) s kc ks Q))))))
def C_Rr_hearAgain (sa : Nat → Nat) (p0 : Nat) (p1 : Option Nat) (p2 : Option Nat) (p3 : Int32) (p4 : Option Nat) (p5 : Int32) (s : cS) (kc ks : Nat) (Q : (cS → Nat → Nat → Prop)) : Prop := ob p1 (fun b1 => (ob (gI s 8 3 b1) (fun v2 => (if v2 = (2 : Int32) then (ob (gP s 8 6 b1) (fun v3 => (if v3 = p4 then (ob (gP s 8 2 b1) (fun v4 => (ob p2 (fun b5 => (ob (gP s 2 1 b5) (fun v6 => (ob v4 (fun b7 => (okO s 5 b7 ∧ C_Pr_sameAddress sa b7 v6 s kc ks (fun r8 sr8 cr8 dr8 => (if r8 = 0 then ((C_Rr_hearAgain_b37 sa p0 (some b1) (some b5) p3 p4 p5 (0 : Int32) sr8 cr8 dr8 Q)) else ((C_Rr_hearAgain_b37 sa p0 (some b1) (some b5) p3 p4 p5 (1 : Int32) sr8 cr8 dr8 Q))))))))))))) else ((C_Rr_hearAgain_b37 sa p0 (some b1) p2 p3 p4 p5 (0 : Int32) s kc ks Q))))) else (Q s kc ks)))))
set_option maxRecDepth 100000 in
set_option maxHeartbeats 4000000 in
theorem kc_Rr_hearAgain (base : Nat) (sa : Nat → Nat) {R : pmM} {s : cS} {kc ks : Nat} {Rt : pmR} {p0 : Nat} {p1 : Option Nat} {p2 : Option Nat} {p3 : Int32} {p4 : Option Nat} {p5 : Int32} {Q : (cS → Nat → Nat → Prop)} (hw : cW sa R base s) (h : C_Rr_hearAgain sa p0 p1 p2 p3 p4 p5 s kc ks Q) (k : ∀ s' kc' ks', cW sa R base s' → Q s' kc' ks' → Rt none (cM R s') kc' ks') : kP_Rr_hearAgain base sa [.ref p0, va_rf p1, va_rf p2, .int p3, va_rf p4, .int p5] (cM R s) kc ks Rt := by
  refine ⟨by cases p1 <;> cases p2 <;> cases p4 <;> exact Nat.le_of_ble_eq_true rfl, fun G hG => ?_⟩
  have eL : lv_args 0 [.ref p0, va_rf p1, va_rf p2, .int p3, va_rf p4, .int p5] = [(0, va_rf (some p0)), (1, va_rf p1), (2, va_rf p2), (3, .int p3), (4, va_rf p4), (5, .int p5)] := by cases p1 <;> cases p2 <;> cases p4 <;> rfl
  rw [eL]
  have b215 : ∀ (a8 : Int32) (s : cS) (kc ks : Nat), KK sa R base G 215 [(0, va_rf (some p0)), (1, va_rf p1), (2, va_rf p2), (3, .int p3), (4, va_rf p4), (5, .int p5), (8, .int a8)] [] s kc ks (C_Rr_hearAgain_b215 sa p0 p1 p2 p3 p4 p5 a8 s kc ks Q) := by
    intro a8 s kc ks
    refine kks hG rfl rfl ?_
    refine kk_zeq hG (t := 231) rfl rfl ?_ ?_
    · exact kk_rv hG rfl rfl k
    refine kk_aln hG (x := (some p0)) rfl rfl ?_
    refine kk_aln hG (x := p1) rfl rfl ?_
    refine kk_aln hG (x := p2) rfl rfl ?_
    refine kks hG rfl rfl ?_
    refine kk_al hG (x := p4) rfl rfl ?_
    refine kks hG rfl rfl ?_
    refine kk_cv hG 0 rfl rfl (Nat.le_of_ble_eq_true rfl) (by decide) rfl (st' := []) rfl (cats_le (Nat.le_of_ble_eq_true rfl)) (fun _ hw h k => kk_rcv h.1 (kc_Rr_take base sa hw h.2 k)) (fun sr1 cr1 dr1 => ?_)
    exact kk_rv hG rfl rfl k
  have b137 : ∀ (u0 : Int32) (u1 : Int32) (s : cS) (kc ks : Nat), KK sa R base G 137 [(0, va_rf (some p0)), (1, va_rf p1), (2, va_rf p2), (3, .int p3), (4, va_rf p4), (5, .int p5)] [.int u1, .int u0] s kc ks (C_Rr_hearAgain_b137 sa p0 p1 p2 p3 p4 p5 u0 u1 s kc ks Q) := by
    intro u0 u1 s kc ks
    refine kks hG rfl rfl ?_
    refine kk_st hG (L' := [(8, .int (u0 ||| u1)), (0, va_rf (some p0)), (1, va_rf p1), (2, va_rf p2), (3, .int p3), (4, va_rf p4), (5, .int p5)]) rfl rfl (Nat.le_of_ble_eq_true rfl) rfl ?_
    refine kk_aln hG (x := p1) rfl rfl ?_
    refine kk_ob (fun b1 eb1 => ?_)
    subst eb1
    refine kk_gi hG (c := 8) (k := 4) (a := b1) rfl rfl rfl rfl (fun v2 => ?_)
    refine kk_bi hG rfl cc_b16 ?_
    refine kk_ige hG (t := 161) rfl rfl ?_ ?_
    · refine kk_go hG (t := 215) rfl rfl ?_
      exact kk_wl hG [1, 2, 3, 4, 5, 6, 0] rfl (b215 _ _ _ _)
    refine kks hG rfl rfl ?_
    refine kk_bi hG rfl cc_b16 ?_
    refine kk_ige hG (t := 161) rfl rfl ?_ ?_
    · refine kk_go hG (t := 215) rfl rfl ?_
      exact kk_wl hG [1, 2, 3, 4, 5, 6, 0] rfl (b215 _ _ _ _)
    refine kk_aln hG (x := (some p0)) rfl rfl ?_
    refine kk_aln hG (x := (some b1)) rfl rfl ?_
    refine kk_cv hG 0 rfl rfl (Nat.le_of_ble_eq_true rfl) (by decide) rfl (st' := []) rfl (cats_le (Nat.le_of_ble_eq_true rfl)) (fun _ hw h k => kk_rcv h.1 (kc_Rr_startTimeout base sa hw h.2 k)) (fun sr3 cr3 dr3 => ?_)
    refine kk_go hG (t := 215) rfl rfl ?_
    exact kk_wl hG [1, 2, 3, 4, 5, 6, 0] rfl (b215 _ _ _ _)
  have b118 : ∀ (a8 : Int32) (a9 : Int32) (u0 : Int32) (s : cS) (kc ks : Nat), KK sa R base G 118 [(0, va_rf (some p0)), (1, va_rf p1), (2, va_rf p2), (3, .int p3), (4, va_rf p4), (5, .int p5), (8, .int a8), (9, .int a9)] [.int u0] s kc ks (C_Rr_hearAgain_b118 sa p0 p1 p2 p3 p4 p5 a8 a9 u0 s kc ks Q) := by
    intro a8 a9 u0 s kc ks
    refine kk_st hG (L' := [(10, .int u0), (0, va_rf (some p0)), (1, va_rf p1), (2, va_rf p2), (3, .int p3), (4, va_rf p4), (5, .int p5), (8, .int a8), (9, .int a9)]) rfl rfl (Nat.le_of_ble_eq_true rfl) rfl ?_
    refine kks hG rfl rfl ?_
    refine kks hG rfl rfl ?_
    refine kk_zeq hG (t := 136) rfl rfl ?_ ?_
    · refine kk_ic hG rfl cc_i0 ?_
      exact kk_wl hG [1, 2, 3, 4, 5, 6] rfl (b137 _ _ _ _ _)
    refine kks hG rfl rfl ?_
    refine kk_zne hG (t := 136) rfl rfl ?_ ?_
    · refine kk_ic hG rfl cc_i0 ?_
      exact kk_wl hG [1, 2, 3, 4, 5, 6] rfl (b137 _ _ _ _ _)
    refine kk_ic hG rfl cc_i1 ?_
    refine kk_go hG (t := 137) rfl rfl ?_
    exact kk_wl hG [1, 2, 3, 4, 5, 6] rfl (b137 _ _ _ _ _)
  have b85 : ∀ (a8 : Int32) (u0 : Int32) (s : cS) (kc ks : Nat), KK sa R base G 85 [(0, va_rf (some p0)), (1, va_rf p1), (2, va_rf p2), (3, .int p3), (4, va_rf p4), (5, .int p5), (8, .int a8)] [.int u0] s kc ks (C_Rr_hearAgain_b85 sa p0 p1 p2 p3 p4 p5 a8 u0 s kc ks Q) := by
    intro a8 u0 s kc ks
    refine kk_st hG (L' := [(9, .int u0), (0, va_rf (some p0)), (1, va_rf p1), (2, va_rf p2), (3, .int p3), (4, va_rf p4), (5, .int p5), (8, .int a8)]) rfl rfl (Nat.le_of_ble_eq_true rfl) rfl ?_
    refine kks hG rfl rfl ?_
    refine kk_aln hG (x := p1) rfl rfl ?_
    refine kk_ob (fun b1 eb1 => ?_)
    subst eb1
    refine kk_gi hG (c := 8) (k := 4) (a := b1) rfl rfl rfl rfl (fun v2 => ?_)
    refine kk_ine hG (t := 113) rfl rfl ?_ ?_
    · refine kk_ic hG rfl cc_i1 ?_
      refine kk_go hG (t := 118) rfl rfl ?_
      exact kk_wl hG [1, 2, 3, 4, 5, 6, 7, 0] rfl (b118 _ _ _ _ _ _)
    refine kk_aln hG (x := (some b1)) rfl rfl ?_
    refine kk_gp hG (c := 8) (k := 1) (a := b1) rfl rfl rfl rfl (fun v3 => ?_)
    refine kk_aln hG (x := (some p0)) rfl rfl ?_
    refine kk_gp hG (c := 9) (k := 0) (a := p0) rfl rfl rfl rfl (fun v4 => ?_)
    refine kk_ob (fun b5 eb5 => ?_)
    subst eb5
    refine kk_gp hG (c := 11) (k := 19) (a := b5) rfl rfl rfl rfl (fun v6 => ?_)
    refine kk_ob (fun b7 eb7 => ?_)
    subst eb7
    refine kk_cx (w := .int) hG 0 rfl rfl (Nat.le_of_ble_eq_true rfl) (by decide) rfl (st' := []) rfl (cats_le (Nat.le_of_ble_eq_true rfl)) (fun _ hw h k => kk_rcv h.1 (kc_Pr_sameAddress base sa hw h.2 k)) (fun r8 sr8 cr8 dr8 => ?_)
    refine kk_zne hG (t := 117) rfl rfl ?_ ?_
    · refine kk_ic hG rfl cc_i0 ?_
      exact kk_wl hG [1, 2, 3, 4, 5, 6, 7, 0] rfl (b118 _ _ _ _ _ _)
    refine kk_ic hG rfl cc_i1 ?_
    refine kk_go hG (t := 118) rfl rfl ?_
    exact kk_wl hG [1, 2, 3, 4, 5, 6, 7, 0] rfl (b118 _ _ _ _ _ _)
  have b213 : ∀ (u0 : Int32) (s : cS) (kc ks : Nat), KK sa R base G 213 [(0, va_rf (some p0)), (1, va_rf p1), (2, va_rf p2), (3, .int p3), (4, va_rf p4), (5, .int p5)] [.int u0] s kc ks (C_Rr_hearAgain_b213 sa p0 p1 p2 p3 p4 p5 u0 s kc ks Q) := by
    intro u0 s kc ks
    refine kk_st hG (L' := [(8, .int u0), (0, va_rf (some p0)), (1, va_rf p1), (2, va_rf p2), (3, .int p3), (4, va_rf p4), (5, .int p5)]) rfl rfl (Nat.le_of_ble_eq_true rfl) rfl ?_
    exact kk_wl hG [1, 2, 3, 4, 5, 6, 0] rfl (b215 _ _ _ _)
  have b53 : ∀ (a6 : Int32) (u0 : Int32) (s : cS) (kc ks : Nat), KK sa R base G 53 [(0, va_rf (some p0)), (1, va_rf p1), (2, va_rf p2), (3, .int p3), (4, va_rf p4), (5, .int p5), (6, .int a6)] [.int u0] s kc ks (C_Rr_hearAgain_b53 sa p0 p1 p2 p3 p4 p5 a6 u0 s kc ks Q) := by
    intro a6 u0 s kc ks
    refine kk_st hG (L' := [(7, .int u0), (0, va_rf (some p0)), (1, va_rf p1), (2, va_rf p2), (3, .int p3), (4, va_rf p4), (5, .int p5), (6, .int a6)]) rfl rfl (Nat.le_of_ble_eq_true rfl) rfl ?_
    refine kks hG rfl rfl ?_
    refine kk_st hG (L' := [(8, .int u0), (7, .int u0), (0, va_rf (some p0)), (1, va_rf p1), (2, va_rf p2), (3, .int p3), (4, va_rf p4), (5, .int p5), (6, .int a6)]) rfl rfl (Nat.le_of_ble_eq_true rfl) rfl ?_
    refine kks hG rfl rfl ?_
    refine kk_zeq hG (t := 164) rfl rfl ?_ ?_
    · refine kks hG rfl rfl ?_
      refine kk_zne hG (t := 215) rfl rfl ?_ ?_
      · exact kk_wl hG [2, 3, 4, 5, 6, 7, 0] rfl (b215 _ _ _ _)
      refine kks hG rfl rfl ?_
      refine kk_aln hG (x := p1) rfl rfl ?_
      refine kk_ob (fun b1 eb1 => ?_)
      subst eb1
      refine kk_gi hG (c := 8) (k := 4) (a := b1) rfl rfl rfl rfl (fun v2 => ?_)
      refine kk_ine hG (t := 215) rfl rfl ?_ ?_
      · exact kk_wl hG [2, 3, 4, 5, 6, 7, 0] rfl (b215 _ _ _ _)
      refine kks hG rfl rfl ?_
      refine kk_bi hG rfl cc_b16 ?_
      refine kk_ige hG (t := 215) rfl rfl ?_ ?_
      · exact kk_wl hG [2, 3, 4, 5, 6, 7, 0] rfl (b215 _ _ _ _)
      refine kk_aln hG (x := (some p0)) rfl rfl ?_
      refine kk_gp hG (c := 9) (k := 0) (a := p0) rfl rfl rfl rfl (fun v3 => ?_)
      refine kk_ob (fun b4 eb4 => ?_)
      subst eb4
      refine kk_gi hG (c := 11) (k := 5) (a := b4) rfl rfl rfl rfl (fun v5 => ?_)
      refine kk_aln hG (x := (some b1)) rfl rfl ?_
      refine kk_gi hG (c := 8) (k := 8) (a := b1) rfl rfl rfl rfl (fun v6 => ?_)
      refine kks hG rfl rfl ?_
      refine kk_aln hG (x := (some b1)) rfl rfl ?_
      refine kk_gi hG (c := 8) (k := 9) (a := b1) rfl rfl rfl rfl (fun v7 => ?_)
      refine kk_ic hG rfl cc_i1 ?_
      refine kks hG rfl rfl ?_
      refine kk_ic hG rfl cc_i2 ?_
      refine kkc hG rfl rfl (by decide) ?_
      refine kk_ilt hG (t := 212) rfl rfl ?_ ?_
      · refine kk_ic hG rfl cc_i0 ?_
        exact kk_wl hG [2, 3, 4, 5, 6, 7] rfl (b213 _ _ _ _)
      refine kk_ic hG rfl cc_i1 ?_
      refine kk_go hG (t := 213) rfl rfl ?_
      exact kk_wl hG [2, 3, 4, 5, 6, 7] rfl (b213 _ _ _ _)
    refine kk_aln hG (x := p1) rfl rfl ?_
    refine kk_ob (fun b8 eb8 => ?_)
    subst eb8
    refine kk_gi hG (c := 8) (k := 4) (a := b8) rfl rfl rfl rfl (fun v9 => ?_)
    refine kk_bi hG rfl cc_b16 ?_
    refine kk_ine hG (t := 84) rfl rfl ?_ ?_
    · refine kk_ic hG rfl cc_i0 ?_
      exact kk_wl hG [2, 3, 4, 5, 6, 7, 0] rfl (b85 _ _ _ _ _)
    refine kks hG rfl rfl ?_
    refine kk_bi hG rfl cc_b16 ?_
    refine kk_ine hG (t := 84) rfl rfl ?_ ?_
    · refine kk_ic hG rfl cc_i0 ?_
      exact kk_wl hG [2, 3, 4, 5, 6, 7, 0] rfl (b85 _ _ _ _ _)
    refine kk_ic hG rfl cc_i1 ?_
    refine kk_go hG (t := 85) rfl rfl ?_
    exact kk_wl hG [2, 3, 4, 5, 6, 7, 0] rfl (b85 _ _ _ _ _)
  have b37 : ∀ (u0 : Int32) (s : cS) (kc ks : Nat), KK sa R base G 37 [(0, va_rf (some p0)), (1, va_rf p1), (2, va_rf p2), (3, .int p3), (4, va_rf p4), (5, .int p5)] [.int u0] s kc ks (C_Rr_hearAgain_b37 sa p0 p1 p2 p3 p4 p5 u0 s kc ks Q) := by
    intro u0 s kc ks
    refine kk_st hG (L' := [(6, .int u0), (0, va_rf (some p0)), (1, va_rf p1), (2, va_rf p2), (3, .int p3), (4, va_rf p4), (5, .int p5)]) rfl rfl (Nat.le_of_ble_eq_true rfl) rfl ?_
    refine kks hG rfl rfl ?_
    refine kk_aln hG (x := p1) rfl rfl ?_
    refine kk_ob (fun b1 eb1 => ?_)
    subst eb1
    refine kk_gi hG (c := 8) (k := 4) (a := b1) rfl rfl rfl rfl (fun v2 => ?_)
    refine kk_ige hG (t := 52) rfl rfl ?_ ?_
    · refine kk_ic hG rfl cc_i0 ?_
      exact kk_wl hG [1, 2, 3, 4, 5, 6, 0] rfl (b53 _ _ _ _ _)
    refine kk_ic hG rfl cc_i1 ?_
    refine kk_go hG (t := 53) rfl rfl ?_
    exact kk_wl hG [1, 2, 3, 4, 5, 6, 0] rfl (b53 _ _ _ _ _)
  refine (show KK sa R base G 0 [(0, va_rf (some p0)), (1, va_rf p1), (2, va_rf p2), (3, .int p3), (4, va_rf p4), (5, .int p5)] [] s kc ks (C_Rr_hearAgain sa p0 p1 p2 p3 p4 p5 s kc ks Q) from ?_) hw h
  refine kk_aln hG (x := p1) rfl rfl ?_
  refine kk_ob (fun b1 eb1 => ?_)
  subst eb1
  refine kk_gi hG (c := 8) (k := 3) (a := b1) rfl rfl rfl rfl (fun v2 => ?_)
  refine kk_ic hG rfl cc_i2 ?_
  refine kk_ieq hG (t := 9) rfl rfl ?_ ?_
  · refine kk_aln hG (x := (some b1)) rfl rfl ?_
    refine kk_gp hG (c := 8) (k := 6) (a := b1) rfl rfl rfl rfl (fun v3 => ?_)
    refine kk_al hG (x := p4) rfl rfl ?_
    refine kk_ane hG (x := v3) (y := p4) (t := 36) rfl rfl ?_ ?_
    · refine kk_ic hG rfl cc_i0 ?_
      exact kk_wl hG [0, 1, 2, 3, 4, 5] rfl (b37 _ _ _ _)
    refine kk_aln hG (x := (some b1)) rfl rfl ?_
    refine kk_gp hG (c := 8) (k := 2) (a := b1) rfl rfl rfl rfl (fun v4 => ?_)
    refine kk_aln hG (x := p2) rfl rfl ?_
    refine kk_ob (fun b5 eb5 => ?_)
    subst eb5
    refine kk_gp hG (c := 2) (k := 1) (a := b5) rfl rfl rfl rfl (fun v6 => ?_)
    refine kk_ob (fun b7 eb7 => ?_)
    subst eb7
    refine kk_cx (w := .int) hG 0 rfl rfl (Nat.le_of_ble_eq_true rfl) (by decide) rfl (st' := []) rfl (cats_le (Nat.le_of_ble_eq_true rfl)) (fun _ hw h k => kk_rcv h.1 (kc_Pr_sameAddress base sa hw h.2 k)) (fun r8 sr8 cr8 dr8 => ?_)
    refine kk_zeq hG (t := 36) rfl rfl ?_ ?_
    · refine kk_ic hG rfl cc_i0 ?_
      exact kk_wl hG [0, 1, 2, 3, 4, 5] rfl (b37 _ _ _ _)
    refine kk_ic hG rfl cc_i1 ?_
    refine kk_go hG (t := 37) rfl rfl ?_
    exact kk_wl hG [0, 1, 2, 3, 4, 5] rfl (b37 _ _ _ _)
  exact kk_rv hG rfl rfl k
def C_Ta_totalOf_b31 (sa : Nat → Nat) (p0 : Nat) (p1 : Int32) (a2 : Int32) (a3 : Int32) (s : cS) (kc ks : Nat) (Q : (Int32 → cS → Nat → Nat → Prop)) (P4 : (Int32 → Int32 → cS → Nat → Nat → Prop)) : Prop := (P4 a2 (a3 + (1 : Int32)) s kc ks)
def C_Ta_totalOf_s4 (sa : Nat → Nat) (p0 : Nat) (p1 : Int32) (a2 : Int32) (a3 : Int32) (s : cS) (kc ks : Nat) (Q : (Int32 → cS → Nat → Nat → Prop)) (P4 : (Int32 → Int32 → cS → Nat → Nat → Prop)) : Prop := ob (gI s 10 1 p0) (fun v1 => (if a3 < v1 then (ob (gP s 10 0 p0) (fun v2 => (ob v2 (fun b3 => (ob (rQ s b3 a3) (fun v4 => (ob v4 (fun b5 => (ob (gP s 8 0 b5) (fun v6 => (ob v6 (fun b7 => (ob (gI s 5 0 b7) (fun v8 => (if v8 = p1 then ((C_Ta_totalOf_b31 sa p0 p1 (a2 + (1 : Int32)) a3 s kc ks Q P4)) else ((C_Ta_totalOf_b31 sa p0 p1 a2 a3 s kc ks Q P4))))))))))))))))) else ((Q a2 s kc ks))))
def C_Ta_totalOf_b4 (sa : Nat → Nat) (p0 : Nat) (p1 : Int32) (a2 : Int32) (a3 : Int32) (s : cS) (kc ks : Nat) (Q : (Int32 → cS → Nat → Nat → Prop)) : Prop := ∀ P4 : (Int32 → Int32 → cS → Nat → Nat → Prop), (∀ (a2 : Int32) (a3 : Int32) (s : cS) (kc ks : Nat), C_Ta_totalOf_s4 sa p0 p1 a2 a3 s kc ks Q P4 → P4 a2 a3 s kc ks) → P4 a2 a3 s kc ks
def C_Ta_totalOf (sa : Nat → Nat) (p0 : Nat) (p1 : Int32) (s : cS) (kc ks : Nat) (Q : (Int32 → cS → Nat → Nat → Prop)) : Prop := (C_Ta_totalOf_b4 sa p0 p1 (0 : Int32) (0 : Int32) s kc ks Q)
set_option maxRecDepth 100000 in
set_option maxHeartbeats 4000000 in
theorem kc_Ta_totalOf (base : Nat) (sa : Nat → Nat) {R : pmM} {s : cS} {kc ks : Nat} {Rt : pmR} {p0 : Nat} {p1 : Int32} {Q : (Int32 → cS → Nat → Nat → Prop)} (hw : cW sa R base s) (h : C_Ta_totalOf sa p0 p1 s kc ks Q) (k : ∀ r s' kc' ks', cW sa R base s' → Q r s' kc' ks' → Rt (some (.int r)) (cM R s') kc' ks') : kP_Ta_totalOf base sa [.ref p0, .int p1] (cM R s) kc ks Rt := by
  refine ⟨Nat.le_of_ble_eq_true rfl, fun G hG => ?_⟩
  have b4 : ∀ (a2 : Int32) (a3 : Int32) (s : cS) (kc ks : Nat), KK sa R base G 4 [(0, va_rf (some p0)), (1, .int p1), (2, .int a2), (3, .int a3)] [] s kc ks (C_Ta_totalOf_b4 sa p0 p1 a2 a3 s kc ks Q) := by
    have H : ∀ (P4 : (Int32 → Int32 → cS → Nat → Nat → Prop)) (hP4 : ∀ (a2 : Int32) (a3 : Int32) (s : cS) (kc ks : Nat), P4 a2 a3 s kc ks → cW sa R base s → G 4 [(0, va_rf (some p0)), (1, .int p1), (2, .int a2), (3, .int a3)] [] (cM R s) kc ks) (a2 : Int32) (a3 : Int32) (s : cS) (kc ks : Nat), KK sa R base G 4 [(0, va_rf (some p0)), (1, .int p1), (2, .int a2), (3, .int a3)] [] s kc ks (C_Ta_totalOf_s4 sa p0 p1 a2 a3 s kc ks Q P4) := by
      intro P4 hP4
      have b31 : ∀ (a2 : Int32) (a3 : Int32) (s : cS) (kc ks : Nat), KK sa R base G 31 [(0, va_rf (some p0)), (1, .int p1), (2, .int a2), (3, .int a3)] [] s kc ks (C_Ta_totalOf_b31 sa p0 p1 a2 a3 s kc ks Q P4) := by
        intro a2 a3 s kc ks
        refine kk_inc hG (L' := [(3, .int (a3 + (1 : Int32))), (0, va_rf (some p0)), (1, .int p1), (2, .int a2)]) rfl (Nat.le_of_ble_eq_true rfl) rfl cc_i1 rfl ?_
        refine kk_go hG (t := 4) rfl rfl ?_
        exact kk_wl hG [1, 2, 3, 0] rfl (fun hw h => hP4 _ _ _ _ _ h hw)
      intro a2 a3 s kc ks
      refine kks hG rfl rfl ?_
      refine kk_aln hG (x := (some p0)) rfl rfl ?_
      refine kk_gi hG (c := 10) (k := 1) (a := p0) rfl rfl rfl rfl (fun v1 => ?_)
      refine kk_ige hG (t := 37) rfl rfl ?_ ?_
      · refine kks hG rfl rfl ?_
        exact kk_ri hG rfl rfl rfl k
      refine kk_aln hG (x := (some p0)) rfl rfl ?_
      refine kk_gp hG (c := 10) (k := 0) (a := p0) rfl rfl rfl rfl (fun v2 => ?_)
      refine kks hG rfl rfl ?_
      refine kk_ob (fun b3 eb3 => ?_)
      subst eb3
      refine kk_aa hG (a := b3) rfl (fun v4 => ?_)
      refine kk_ob (fun b5 eb5 => ?_)
      subst eb5
      refine kk_gp hG (c := 8) (k := 0) (a := b5) rfl rfl rfl rfl (fun v6 => ?_)
      refine kk_ob (fun b7 eb7 => ?_)
      subst eb7
      refine kk_gi hG (c := 5) (k := 0) (a := b7) rfl rfl rfl rfl (fun v8 => ?_)
      refine kks hG rfl rfl ?_
      refine kk_ine hG (t := 31) rfl rfl ?_ ?_
      · exact kk_wl hG [0, 1, 2, 3] rfl (b31 _ _ _ _ _)
      refine kk_inc hG (L' := [(2, .int (a2 + (1 : Int32))), (0, va_rf (some p0)), (1, .int p1), (3, .int a3)]) rfl (Nat.le_of_ble_eq_true rfl) rfl cc_i1 rfl ?_
      exact kk_wl hG [1, 2, 0, 3] rfl (b31 _ _ _ _ _)
    exact fun a2 a3 s kc ks hw h => h (fun a2 a3 s kc ks => cW sa R base s → G 4 [(0, va_rf (some p0)), (1, .int p1), (2, .int a2), (3, .int a3)] [] (cM R s) kc ks) (fun a2 a3 s kc ks hs hw => H _ (fun _ _ _ _ _ hp hw => hp hw) a2 a3 s kc ks hw hs) hw
  refine (show KK sa R base G 0 [(0, va_rf (some p0)), (1, .int p1)] [] s kc ks (C_Ta_totalOf sa p0 p1 s kc ks Q) from ?_) hw h
  refine kk_ic hG rfl cc_i0 ?_
  refine kk_st hG (L' := [(2, .int (0 : Int32)), (0, va_rf (some p0)), (1, .int p1)]) rfl rfl (Nat.le_of_ble_eq_true rfl) rfl ?_
  refine kk_ic hG rfl cc_i0 ?_
  refine kk_st hG (L' := [(3, .int (0 : Int32)), (2, .int (0 : Int32)), (0, va_rf (some p0)), (1, .int p1)]) rfl rfl (Nat.le_of_ble_eq_true rfl) rfl ?_
  exact kk_wl hG [2, 3, 1, 0] rfl (b4 _ _ _ _ _)
def C_Rr_hearEntry_b64 (sa : Nat → Nat) (p0 : Nat) (s : cS) (kc ks : Nat) (Q : (cS → Nat → Nat → Prop)) : Prop := ob (gP s 9 16 p0) (fun v1 => (ob v1 (fun b2 => (ob (rE s .int b2 (4 : Int32)) (fun v3 => (ob (wEi s b2 (4 : Int32) (v3 + (1 : Int32))) (fun s4 => (Q s4 kc ks))))))))
def C_Rr_hearEntry (sa : Nat → Nat) (p0 : Nat) (p1 : Option Nat) (p2 : Int32) (p3 : Option Nat) (s : cS) (kc ks : Nat) (Q : (cS → Nat → Nat → Prop)) : Prop := ob (gP s 9 0 p0) (fun v1 => (ob v1 (fun b2 => (ob (gP s 11 18 b2) (fun v3 => (ob p1 (fun b4 => (okO s 2 b4 ∧ C_Da_metricAt sa b4 p2 s kc ks (fun r5 sr5 cr5 dr5 => (okO sr5 2 b4 ∧ C_Da_takePrefix sa b4 p2 v3 sr5 cr5 dr5 (fun r6 sr6 cr6 dr6 => (if r6 = 0 then ((C_Rr_hearEntry_b64 sa p0 sr6 cr6 dr6 Q)) else (if r5 < (1 : Int64) then ((C_Rr_hearEntry_b64 sa p0 sr6 cr6 dr6 Q)) else (if (16 : Int64) < r5 then ((C_Rr_hearEntry_b64 sa p0 sr6 cr6 dr6 Q)) else (ob v3 (fun b7 => (okO sr6 5 b7 ∧ C_Pr_isForbidden sa b7 sr6 cr6 dr6 (fun r8 sr8 cr8 dr8 => (if r8 = 0 then (ob p3 (fun b9 => (ob (gP sr8 4 0 b9) (fun v10 => (okO sr8 9 p0 ∧ C_Rr_refuses sa p0 (0 : Int32) v10 (some b7) sr8 cr8 dr8 (fun r11 sr11 cr11 dr11 => (if r11 = 0 then (ob (gI sr11 4 3 b9) (fun v12 => (ob (gP sr11 4 0 b9) (fun v13 => (okO sr11 9 p0 ∧ C_Rr_raised sa p0 ((Int64.toInt32 r5) + v12) (0 : Int32) v13 (some b7) sr11 cr11 dr11 (fun r14 sr14 cr14 dr14 => (ob (gP sr14 9 6 p0) (fun v15 => (ob v15 (fun b16 => (okO sr14 10 b16 ∧ C_Ta_find sa b16 (some b7) sr14 cr14 dr14 (fun r17 sr17 cr17 dr17 => (if r17 = none then (if r14 < (16 : Int32) then (ob (gP sr17 9 6 p0) (fun v18 => (ob (gI sr17 5 0 b7) (fun v19 => (ob v18 (fun b20 => (okO sr17 10 b20 ∧ C_Ta_totalOf sa b20 v19 sr17 cr17 dr17 (fun r21 sr21 cr21 dr21 => (if r21 < (60 : Int32) then (ob (gP sr21 9 6 p0) (fun v22 => (ob v22 (fun b23 => (okO sr21 10 b23 ∧ C_Ta_add sa b23 (some b7) (0 : Int32) (16 : Int32) sr21 cr21 dr21 (fun r24 sr24 cr24 dr24 => (okO sr24 9 p0 ∧ C_Rr_take sa p0 r24 (some b4) p2 (some b9) r14 sr24 cr24 dr24 (fun sr25 cr25 dr25 => (Q sr25 cr25 dr25))))))))) else (ob (gP sr21 9 16 p0) (fun v26 => (ob v26 (fun b27 => (ob (rE sr21 .int b27 (4 : Int32)) (fun v28 => (ob (wEi sr21 b27 (4 : Int32) (v28 + (1 : Int32))) (fun s29 => (Q s29 cr21 dr21)))))))))))))))))) else (Q sr17 cr17 dr17)) else (okO sr17 9 p0 ∧ C_Rr_hearAgain sa p0 r17 (some b4) p2 (some b9) r14 sr17 cr17 dr17 (fun sr30 cr30 dr30 => (Q sr30 cr30 dr30)))))))))))))))) else ((C_Rr_hearEntry_b64 sa p0 sr11 cr11 dr11 Q))))))))) else ((C_Rr_hearEntry_b64 sa p0 sr8 cr8 dr8 Q)))))))))))))))))))))
set_option maxRecDepth 100000 in
set_option maxHeartbeats 4000000 in
theorem kc_Rr_hearEntry (base : Nat) (sa : Nat → Nat) {R : pmM} {s : cS} {kc ks : Nat} {Rt : pmR} {p0 : Nat} {p1 : Option Nat} {p2 : Int32} {p3 : Option Nat} {Q : (cS → Nat → Nat → Prop)} (hw : cW sa R base s) (h : C_Rr_hearEntry sa p0 p1 p2 p3 s kc ks Q) (k : ∀ s' kc' ks', cW sa R base s' → Q s' kc' ks' → Rt none (cM R s') kc' ks') : kP_Rr_hearEntry base sa [.ref p0, va_rf p1, .int p2, va_rf p3] (cM R s) kc ks Rt := by
  refine ⟨by cases p1 <;> cases p3 <;> exact Nat.le_of_ble_eq_true rfl, fun G hG => ?_⟩
  have eL : lv_args 0 [.ref p0, va_rf p1, .int p2, va_rf p3] = [(0, va_rf (some p0)), (1, va_rf p1), (2, .int p2), (3, va_rf p3)] := by cases p1 <;> cases p3 <;> rfl
  rw [eL]
  have b64 : ∀ (s : cS) (kc ks : Nat), KK sa R base G 64 [(0, va_rf (some p0))] [] s kc ks (C_Rr_hearEntry_b64 sa p0 s kc ks Q) := by
    intro s kc ks
    refine kk_aln hG (x := (some p0)) rfl rfl ?_
    refine kk_gp hG (c := 9) (k := 16) (a := p0) rfl rfl rfl rfl (fun v1 => ?_)
    refine kk_ic hG rfl cc_i4 ?_
    refine kk_dup2 hG (x := v1) rfl ?_
    refine kk_ob (fun b2 eb2 => ?_)
    subst eb2
    refine kk_ia hG (a := b2) rfl (fun v3 => ?_)
    refine kk_ic hG rfl cc_i1 ?_
    refine kks hG rfl rfl ?_
    refine kk_is hG (a := b2) rfl (fun s4 => ?_)
    exact kk_rv hG rfl rfl k
  refine (show KK sa R base G 0 [(0, va_rf (some p0)), (1, va_rf p1), (2, .int p2), (3, va_rf p3)] [] s kc ks (C_Rr_hearEntry sa p0 p1 p2 p3 s kc ks Q) from ?_) hw h
  refine kk_aln hG (x := (some p0)) rfl rfl ?_
  refine kk_gp hG (c := 9) (k := 0) (a := p0) rfl rfl rfl rfl (fun v1 => ?_)
  refine kk_ob (fun b2 eb2 => ?_)
  subst eb2
  refine kk_gp hG (c := 11) (k := 18) (a := b2) rfl rfl rfl rfl (fun v3 => ?_)
  refine kk_as hG (x := v3) (L' := [(4, va_rf v3), (0, va_rf (some p0)), (1, va_rf p1), (2, .int p2), (3, va_rf p3)]) rfl (Nat.le_of_ble_eq_true rfl) (by cases p3 <;> rfl) ?_
  refine kk_aln hG (x := p1) rfl rfl ?_
  refine kks hG rfl rfl ?_
  refine kk_ob (fun b4 eb4 => ?_)
  subst eb4
  refine kk_cx (w := .long) hG 0 rfl rfl (Nat.le_of_ble_eq_true rfl) (by decide) rfl (st' := []) rfl (cats_le (Nat.le_of_ble_eq_true rfl)) (fun _ hw h k => kk_rcv h.1 (kc_Da_metricAt base sa hw h.2 k)) (fun r5 sr5 cr5 dr5 => ?_)
  refine kk_st hG (L' := [(5, .long r5), (4, va_rf v3), (0, va_rf (some p0)), (1, va_rf (some b4)), (2, .int p2), (3, va_rf p3)]) rfl rfl (Nat.le_of_ble_eq_true rfl) (by cases v3 <;> rfl) ?_
  refine kk_aln hG (x := (some b4)) rfl rfl ?_
  refine kks hG rfl rfl ?_
  refine kk_al hG (x := v3) rfl rfl ?_
  refine kk_cx (w := .int) hG 0 rfl rfl (Nat.le_of_ble_eq_true rfl) (by decide) rfl (st' := []) rfl (cats_le (Nat.le_of_ble_eq_true rfl)) (fun _ hw h k => kk_rcv h.1 (kc_Da_takePrefix base sa hw h.2 k)) (fun r6 sr6 cr6 dr6 => ?_)
  refine kk_zeq hG (t := 64) rfl rfl ?_ ?_
  · exact kk_wl hG [2] rfl (b64 _ _ _)
  refine kks hG rfl rfl ?_
  refine kk_lc hG (c := 1) (v := 1) rfl rfl ?_
  refine kks hG rfl rfl ?_
  refine kk_llt hG (t := 64) rfl rfl ?_ ?_
  · exact kk_wl hG [2] rfl (b64 _ _ _)
  refine kks hG rfl rfl ?_
  refine kk_l2 hG (v := (16 : Int64)) rfl rfl ?_
  refine kks hG rfl rfl ?_
  refine kk_lgt hG (t := 64) rfl rfl ?_ ?_
  · exact kk_wl hG [2] rfl (b64 _ _ _)
  refine kk_al hG (x := v3) rfl rfl ?_
  refine kk_ob (fun b7 eb7 => ?_)
  subst eb7
  refine kk_cx (w := .int) hG 0 rfl rfl (Nat.le_of_ble_eq_true rfl) (by decide) rfl (st' := []) rfl (cats_le (Nat.le_of_ble_eq_true rfl)) (fun _ hw h k => kk_rcv h.1 (kc_Pr_isForbidden base sa hw h.2 k)) (fun r8 sr8 cr8 dr8 => ?_)
  refine kk_zne hG (t := 64) rfl rfl ?_ ?_
  · exact kk_wl hG [2] rfl (b64 _ _ _)
  refine kk_aln hG (x := (some p0)) rfl rfl ?_
  refine kk_ic hG rfl cc_i0 ?_
  refine kk_aln hG (x := p3) rfl rfl ?_
  refine kk_ob (fun b9 eb9 => ?_)
  subst eb9
  refine kk_gp hG (c := 4) (k := 0) (a := b9) rfl rfl rfl rfl (fun v10 => ?_)
  refine kk_al hG (x := (some b7)) rfl rfl ?_
  refine kk_cx (w := .int) hG 0 rfl rfl (Nat.le_of_ble_eq_true rfl) (by decide) rfl (st' := []) rfl (cats_le (Nat.le_of_ble_eq_true rfl)) (fun _ hw h k => kk_rcv h.1 (kc_Rr_refuses base sa hw h.2 k)) (fun r11 sr11 cr11 dr11 => ?_)
  refine kk_zeq hG (t := 75) rfl rfl ?_ ?_
  · refine kk_aln hG (x := (some p0)) rfl rfl ?_
    refine kks hG rfl rfl ?_
    refine kks hG rfl rfl ?_
    refine kk_aln hG (x := (some b9)) rfl rfl ?_
    refine kk_gi hG (c := 4) (k := 3) (a := b9) rfl rfl rfl rfl (fun v12 => ?_)
    refine kks hG rfl rfl ?_
    refine kk_ic hG rfl cc_i0 ?_
    refine kk_aln hG (x := (some b9)) rfl rfl ?_
    refine kk_gp hG (c := 4) (k := 0) (a := b9) rfl rfl rfl rfl (fun v13 => ?_)
    refine kk_al hG (x := (some b7)) rfl rfl ?_
    refine kk_cx (w := .int) hG 0 rfl rfl (Nat.le_of_ble_eq_true rfl) (by decide) rfl (st' := []) rfl (cats_le (Nat.le_of_ble_eq_true rfl)) (fun _ hw h k => kk_rcv h.1 (kc_Rr_raised base sa hw h.2 k)) (fun r14 sr14 cr14 dr14 => ?_)
    refine kk_st hG (L' := [(7, .int r14), (5, .long r5), (4, va_rf (some b7)), (0, va_rf (some p0)), (1, va_rf (some b4)), (2, .int p2), (3, va_rf (some b9))]) rfl rfl (Nat.le_of_ble_eq_true rfl) rfl ?_
    refine kk_aln hG (x := (some p0)) rfl rfl ?_
    refine kk_gp hG (c := 9) (k := 6) (a := p0) rfl rfl rfl rfl (fun v15 => ?_)
    refine kk_al hG (x := (some b7)) rfl rfl ?_
    refine kk_ob (fun b16 eb16 => ?_)
    subst eb16
    refine kk_cx (w := va_rf) hG 0 rfl rfl (Nat.le_of_ble_eq_true rfl) (by decide) rfl (st' := []) rfl (cats_le (Nat.le_of_ble_eq_true rfl)) (fun _ hw h k => kk_rcv h.1 (kc_Ta_find base sa hw h.2 k)) (fun r17 sr17 cr17 dr17 => ?_)
    refine kk_as hG (x := r17) (L' := [(8, va_rf r17), (7, .int r14), (5, .long r5), (4, va_rf (some b7)), (0, va_rf (some p0)), (1, va_rf (some b4)), (2, .int p2), (3, va_rf (some b9))]) rfl (Nat.le_of_ble_eq_true rfl) rfl ?_
    refine kk_al hG (x := r17) rfl rfl ?_
    refine kk_nul hG (x := r17) (t := 126) rfl rfl ?_ ?_
    · refine kks hG rfl rfl ?_
      refine kk_bi hG rfl cc_b16 ?_
      refine kk_ige hG (t := 184) rfl rfl ?_ ?_
      · exact kk_rv hG rfl rfl k
      refine kk_aln hG (x := (some p0)) rfl rfl ?_
      refine kk_gp hG (c := 9) (k := 6) (a := p0) rfl rfl rfl rfl (fun v18 => ?_)
      refine kk_al hG (x := (some b7)) rfl rfl ?_
      refine kk_gi hG (c := 5) (k := 0) (a := b7) rfl rfl rfl rfl (fun v19 => ?_)
      refine kk_ob (fun b20 eb20 => ?_)
      subst eb20
      refine kk_cx (w := .int) hG 0 rfl rfl (Nat.le_of_ble_eq_true rfl) (by decide) rfl (st' := []) rfl (cats_le (Nat.le_of_ble_eq_true rfl)) (fun _ hw h k => kk_rcv h.1 (kc_Ta_totalOf base sa hw h.2 k)) (fun r21 sr21 cr21 dr21 => ?_)
      refine kk_bi hG rfl cc_b60 ?_
      refine kk_ilt hG (t := 163) rfl rfl ?_ ?_
      · refine kk_aln hG (x := (some p0)) rfl rfl ?_
        refine kk_aln hG (x := (some p0)) rfl rfl ?_
        refine kk_gp hG (c := 9) (k := 6) (a := p0) rfl rfl rfl rfl (fun v22 => ?_)
        refine kk_al hG (x := (some b7)) rfl rfl ?_
        refine kk_ic hG rfl cc_i0 ?_
        refine kk_bi hG rfl cc_b16 ?_
        refine kk_ob (fun b23 eb23 => ?_)
        subst eb23
        refine kk_cx (w := va_rf) hG 0 rfl rfl (Nat.le_of_ble_eq_true rfl) (by decide) rfl (st' := [va_rf (some p0)]) rfl (cats_le (Nat.le_of_ble_eq_true rfl)) (fun _ hw h k => kk_rcv h.1 (kc_Ta_add base sa hw h.2 k)) (fun r24 sr24 cr24 dr24 => ?_)
        refine kk_aln hG (x := (some b4)) rfl rfl ?_
        refine kks hG rfl rfl ?_
        refine kk_aln hG (x := (some b9)) rfl rfl ?_
        refine kks hG rfl rfl ?_
        refine kk_cv hG 0 rfl rfl (Nat.le_of_ble_eq_true rfl) (by decide) rfl (st' := []) rfl (cats_le (Nat.le_of_ble_eq_true rfl)) (fun _ hw h k => kk_rcv h.1 (kc_Rr_take base sa hw h.2 k)) (fun sr25 cr25 dr25 => ?_)
        exact kk_rv hG rfl rfl k
      refine kk_aln hG (x := (some p0)) rfl rfl ?_
      refine kk_gp hG (c := 9) (k := 16) (a := p0) rfl rfl rfl rfl (fun v26 => ?_)
      refine kk_ic hG rfl cc_i4 ?_
      refine kk_dup2 hG (x := v26) rfl ?_
      refine kk_ob (fun b27 eb27 => ?_)
      subst eb27
      refine kk_ia hG (a := b27) rfl (fun v28 => ?_)
      refine kk_ic hG rfl cc_i1 ?_
      refine kks hG rfl rfl ?_
      refine kk_is hG (a := b27) rfl (fun s29 => ?_)
      refine kk_go hG (t := 184) rfl rfl ?_
      exact kk_rv hG rfl rfl k
    refine kk_aln hG (x := (some p0)) rfl rfl ?_
    refine kk_al hG (x := r17) rfl rfl ?_
    refine kk_aln hG (x := (some b4)) rfl rfl ?_
    refine kks hG rfl rfl ?_
    refine kk_aln hG (x := (some b9)) rfl rfl ?_
    refine kks hG rfl rfl ?_
    refine kk_cv hG 0 rfl rfl (Nat.le_of_ble_eq_true rfl) (by decide) rfl (st' := []) rfl (cats_le (Nat.le_of_ble_eq_true rfl)) (fun _ hw h k => kk_rcv h.1 (kc_Rr_hearAgain base sa hw h.2 k)) (fun sr30 cr30 dr30 => ?_)
    refine kk_go hG (t := 184) rfl rfl ?_
    exact kk_rv hG rfl rfl k
  exact kk_wl hG [2] rfl (b64 _ _ _)
def C_Rr_hearResponse_b80 (sa : Nat → Nat) (p0 : Nat) (p1 : Option Nat) (p2 : Option Nat) (a3 : Int32) (s : cS) (kc ks : Nat) (Q : (cS → Nat → Nat → Prop)) (P19 : (Int32 → cS → Nat → Nat → Prop)) : Prop := (P19 (a3 + (20 : Int32)) s kc ks)
def C_Rr_hearResponse_b73 (sa : Nat → Nat) (p0 : Nat) (p1 : Option Nat) (p2 : Option Nat) (a3 : Int32) (s : cS) (kc ks : Nat) (Q : (cS → Nat → Nat → Prop)) (P19 : (Int32 → cS → Nat → Nat → Prop)) : Prop := okO s 9 p0 ∧ C_Rr_hearEntry sa p0 p1 a3 p2 s kc ks (fun sr1 cr1 dr1 => ((C_Rr_hearResponse_b80 sa p0 p1 p2 a3 sr1 cr1 dr1 Q P19)))
def C_Rr_hearResponse_s19 (sa : Nat → Nat) (p0 : Nat) (p1 : Option Nat) (p2 : Option Nat) (a3 : Int32) (s : cS) (kc ks : Nat) (Q : (cS → Nat → Nat → Prop)) (P19 : (Int32 → cS → Nat → Nat → Prop)) : Prop := ob p1 (fun b1 => (ob (gI s 2 11 b1) (fun v2 => (if v2 < (a3 + (20 : Int32)) then ((Q s kc ks)) else (ob (gI s 2 4 b1) (fun v3 => (if v3 = (4 : Int32) then (okO s 9 p0 ∧ C_Rr_takeHop sa p0 (some b1) (a3 + (12 : Int32)) p2 s kc ks (fun sr6 cr6 dr6 => ((C_Rr_hearResponse_b73 sa p0 (some b1) p2 a3 sr6 cr6 dr6 Q P19)))) else (okO s 2 b1 ∧ C_Da_metricAt sa b1 a3 s kc ks (fun r4 sr4 cr4 dr4 => (if r4 = (255 : Int64) then (okO sr4 9 p0 ∧ C_Rr_takeHop sa p0 (some b1) a3 p2 sr4 cr4 dr4 (fun sr5 cr5 dr5 => ((C_Rr_hearResponse_b80 sa p0 (some b1) p2 a3 sr5 cr5 dr5 Q P19)))) else ((C_Rr_hearResponse_b73 sa p0 (some b1) p2 a3 sr4 cr4 dr4 Q P19))))))))))))
def C_Rr_hearResponse_b19 (sa : Nat → Nat) (p0 : Nat) (p1 : Option Nat) (p2 : Option Nat) (a3 : Int32) (s : cS) (kc ks : Nat) (Q : (cS → Nat → Nat → Prop)) : Prop := ∀ P19 : (Int32 → cS → Nat → Nat → Prop), (∀ (a3 : Int32) (s : cS) (kc ks : Nat), C_Rr_hearResponse_s19 sa p0 p1 p2 a3 s kc ks Q P19 → P19 a3 s kc ks) → P19 a3 s kc ks
def C_Rr_hearResponse (sa : Nat → Nat) (p0 : Nat) (p1 : Option Nat) (p2 : Option Nat) (s : cS) (kc ks : Nat) (Q : (cS → Nat → Nat → Prop)) : Prop := ob (gP s 9 0 p0) (fun v1 => (ob v1 (fun b2 => (ob (gP s 11 19 b2) (fun v3 => (ob p1 (fun b4 => (ob (gP s 2 1 b4) (fun v5 => (ob v3 (fun b6 => (okO s 5 b6 ∧ C_Pr_copy sa b6 v5 s kc ks (fun sr7 cr7 dr7 => (ob (gI sr7 2 10 b4) (fun v8 => ((C_Rr_hearResponse_b19 sa p0 (some b4) p2 v8 sr7 cr7 dr7 Q)))))))))))))))))
set_option maxRecDepth 100000 in
set_option maxHeartbeats 4000000 in
theorem kc_Rr_hearResponse (base : Nat) (sa : Nat → Nat) {R : pmM} {s : cS} {kc ks : Nat} {Rt : pmR} {p0 : Nat} {p1 : Option Nat} {p2 : Option Nat} {Q : (cS → Nat → Nat → Prop)} (hw : cW sa R base s) (h : C_Rr_hearResponse sa p0 p1 p2 s kc ks Q) (k : ∀ s' kc' ks', cW sa R base s' → Q s' kc' ks' → Rt none (cM R s') kc' ks') : kP_Rr_hearResponse base sa [.ref p0, va_rf p1, va_rf p2] (cM R s) kc ks Rt := by
  refine ⟨by cases p1 <;> cases p2 <;> exact Nat.le_of_ble_eq_true rfl, fun G hG => ?_⟩
  have eL : lv_args 0 [.ref p0, va_rf p1, va_rf p2] = [(0, va_rf (some p0)), (1, va_rf p1), (2, va_rf p2)] := by cases p1 <;> cases p2 <;> rfl
  rw [eL]
  have b19 : ∀ (a3 : Int32) (s : cS) (kc ks : Nat), KK sa R base G 19 [(0, va_rf (some p0)), (1, va_rf p1), (2, va_rf p2), (3, .int a3)] [] s kc ks (C_Rr_hearResponse_b19 sa p0 p1 p2 a3 s kc ks Q) := by
    have H : ∀ (P19 : (Int32 → cS → Nat → Nat → Prop)) (hP19 : ∀ (a3 : Int32) (s : cS) (kc ks : Nat), P19 a3 s kc ks → cW sa R base s → G 19 [(0, va_rf (some p0)), (1, va_rf p1), (2, va_rf p2), (3, .int a3)] [] (cM R s) kc ks) (a3 : Int32) (s : cS) (kc ks : Nat), KK sa R base G 19 [(0, va_rf (some p0)), (1, va_rf p1), (2, va_rf p2), (3, .int a3)] [] s kc ks (C_Rr_hearResponse_s19 sa p0 p1 p2 a3 s kc ks Q P19) := by
      intro P19 hP19
      have b80 : ∀ (a3 : Int32) (s : cS) (kc ks : Nat), KK sa R base G 80 [(0, va_rf (some p0)), (1, va_rf p1), (2, va_rf p2), (3, .int a3)] [] s kc ks (C_Rr_hearResponse_b80 sa p0 p1 p2 a3 s kc ks Q P19) := by
        intro a3 s kc ks
        refine kk_inc hG (L' := [(3, .int (a3 + (20 : Int32))), (0, va_rf (some p0)), (1, va_rf p1), (2, va_rf p2)]) rfl (Nat.le_of_ble_eq_true rfl) rfl cc_i20 (by cases p2 <;> rfl) ?_
        refine kk_go hG (t := 19) rfl rfl ?_
        exact kk_wl hG [1, 2, 3, 0] rfl (fun hw h => hP19 _ _ _ _ h hw)
      have b73 : ∀ (a3 : Int32) (s : cS) (kc ks : Nat), KK sa R base G 73 [(0, va_rf (some p0)), (1, va_rf p1), (2, va_rf p2), (3, .int a3)] [] s kc ks (C_Rr_hearResponse_b73 sa p0 p1 p2 a3 s kc ks Q P19) := by
        intro a3 s kc ks
        refine kk_aln hG (x := (some p0)) rfl rfl ?_
        refine kk_aln hG (x := p1) rfl rfl ?_
        refine kks hG rfl rfl ?_
        refine kk_aln hG (x := p2) rfl rfl ?_
        refine kk_cv hG 0 rfl rfl (Nat.le_of_ble_eq_true rfl) (by decide) rfl (st' := []) rfl (cats_le (Nat.le_of_ble_eq_true rfl)) (fun _ hw h k => kk_rcv h.1 (kc_Rr_hearEntry base sa hw h.2 k)) (fun sr1 cr1 dr1 => ?_)
        exact kk_wl hG [0, 1, 2, 3] rfl (b80 _ _ _ _)
      intro a3 s kc ks
      refine kks hG rfl rfl ?_
      refine kk_bi hG rfl cc_b20 ?_
      refine kks hG rfl rfl ?_
      refine kk_aln hG (x := p1) rfl rfl ?_
      refine kk_ob (fun b1 eb1 => ?_)
      subst eb1
      refine kk_gi hG (c := 2) (k := 11) (a := b1) rfl rfl rfl rfl (fun v2 => ?_)
      refine kk_igt hG (t := 86) rfl rfl ?_ ?_
      · exact kk_rv hG rfl rfl k
      refine kk_aln hG (x := (some b1)) rfl rfl ?_
      refine kk_gi hG (c := 2) (k := 4) (a := b1) rfl rfl rfl rfl (fun v3 => ?_)
      refine kk_ic hG rfl cc_i4 ?_
      refine kk_ine hG (t := 51) rfl rfl ?_ ?_
      · refine kk_aln hG (x := (some b1)) rfl rfl ?_
        refine kks hG rfl rfl ?_
        refine kk_cx (w := .long) hG 0 rfl rfl (Nat.le_of_ble_eq_true rfl) (by decide) rfl (st' := []) rfl (cats_le (Nat.le_of_ble_eq_true rfl)) (fun _ hw h k => kk_rcv h.1 (kc_Da_metricAt base sa hw h.2 k)) (fun r4 sr4 cr4 dr4 => ?_)
        refine kk_l2 hG (v := (255 : Int64)) rfl rfl ?_
        refine kks hG rfl rfl ?_
        refine kk_lne hG (t := 73) rfl rfl ?_ ?_
        · exact kk_wl hG [0, 1, 2, 3] rfl (b73 _ _ _ _)
        refine kk_aln hG (x := (some p0)) rfl rfl ?_
        refine kk_aln hG (x := (some b1)) rfl rfl ?_
        refine kks hG rfl rfl ?_
        refine kk_aln hG (x := p2) rfl rfl ?_
        refine kk_cv hG 0 rfl rfl (Nat.le_of_ble_eq_true rfl) (by decide) rfl (st' := []) rfl (cats_le (Nat.le_of_ble_eq_true rfl)) (fun _ hw h k => kk_rcv h.1 (kc_Rr_takeHop base sa hw h.2 k)) (fun sr5 cr5 dr5 => ?_)
        refine kk_go hG (t := 80) rfl rfl ?_
        exact kk_wl hG [0, 1, 2, 3] rfl (b80 _ _ _ _)
      refine kk_aln hG (x := (some p0)) rfl rfl ?_
      refine kk_aln hG (x := (some b1)) rfl rfl ?_
      refine kks hG rfl rfl ?_
      refine kk_bi hG rfl cc_b12 ?_
      refine kks hG rfl rfl ?_
      refine kk_aln hG (x := p2) rfl rfl ?_
      refine kk_cv hG 0 rfl rfl (Nat.le_of_ble_eq_true rfl) (by decide) rfl (st' := []) rfl (cats_le (Nat.le_of_ble_eq_true rfl)) (fun _ hw h k => kk_rcv h.1 (kc_Rr_takeHop base sa hw h.2 k)) (fun sr6 cr6 dr6 => ?_)
      refine kk_go hG (t := 73) rfl rfl ?_
      exact kk_wl hG [0, 1, 2, 3] rfl (b73 _ _ _ _)
    exact fun a3 s kc ks hw h => h (fun a3 s kc ks => cW sa R base s → G 19 [(0, va_rf (some p0)), (1, va_rf p1), (2, va_rf p2), (3, .int a3)] [] (cM R s) kc ks) (fun a3 s kc ks hs hw => H _ (fun _ _ _ _ hp hw => hp hw) a3 s kc ks hw hs) hw
  refine (show KK sa R base G 0 [(0, va_rf (some p0)), (1, va_rf p1), (2, va_rf p2)] [] s kc ks (C_Rr_hearResponse sa p0 p1 p2 s kc ks Q) from ?_) hw h
  refine kk_aln hG (x := (some p0)) rfl rfl ?_
  refine kk_gp hG (c := 9) (k := 0) (a := p0) rfl rfl rfl rfl (fun v1 => ?_)
  refine kk_ob (fun b2 eb2 => ?_)
  subst eb2
  refine kk_gp hG (c := 11) (k := 19) (a := b2) rfl rfl rfl rfl (fun v3 => ?_)
  refine kk_aln hG (x := p1) rfl rfl ?_
  refine kk_ob (fun b4 eb4 => ?_)
  subst eb4
  refine kk_gp hG (c := 2) (k := 1) (a := b4) rfl rfl rfl rfl (fun v5 => ?_)
  refine kk_ob (fun b6 eb6 => ?_)
  subst eb6
  refine kk_cv hG 0 rfl rfl (Nat.le_of_ble_eq_true rfl) (by decide) rfl (st' := []) rfl (cats_le (Nat.le_of_ble_eq_true rfl)) (fun _ hw h k => kk_rcv h.1 (kc_Pr_copy base sa hw h.2 k)) (fun sr7 cr7 dr7 => ?_)
  refine kk_aln hG (x := (some b4)) rfl rfl ?_
  refine kk_gi hG (c := 2) (k := 10) (a := b4) rfl rfl rfl rfl (fun v8 => ?_)
  refine kk_st hG (L' := [(3, .int v8), (0, va_rf (some p0)), (1, va_rf (some b4)), (2, va_rf p2)]) rfl rfl (Nat.le_of_ble_eq_true rfl) (by cases p2 <;> rfl) ?_
  exact kk_wl hG [1, 2, 3, 0] rfl (b19 _ _ _ _)
def C_Rf_giveBack (sa : Nat → Nat) (p0 : Nat) (p1 : Option Nat) (s : cS) (kc ks : Nat) (Q : (cS → Nat → Nat → Prop)) : Prop := ob (gI s 11 15 p0) (fun v1 => (ob (gP s 11 14 p0) (fun v2 => (ob v2 (fun b3 => (ob (aL s b3) (fun v4 => (if v1 < v4 then (ob (gP s 11 14 p0) (fun v5 => (ob (gI s 11 15 p0) (fun v6 => (ob v5 (fun b7 => (ob (wQ s b7 v6 p1) (fun s8 => (ob (gI s8 11 15 p0) (fun v9 => (ob (pI s8 11 15 p0 (v9 + (1 : Int32))) (fun s10 => (Q s10 kc ks))))))))))))) else (Q s kc ks)))))))))
set_option maxRecDepth 100000 in
set_option maxHeartbeats 4000000 in
theorem kc_Rf_giveBack (base : Nat) (sa : Nat → Nat) {R : pmM} {s : cS} {kc ks : Nat} {Rt : pmR} {p0 : Nat} {p1 : Option Nat} {Q : (cS → Nat → Nat → Prop)} (hw : cW sa R base s) (h : C_Rf_giveBack sa p0 p1 s kc ks Q) (k : ∀ s' kc' ks', cW sa R base s' → Q s' kc' ks' → Rt none (cM R s') kc' ks') : kP_Rf_giveBack base sa [.ref p0, va_rf p1] (cM R s) kc ks Rt := by
  refine ⟨by cases p1 <;> exact Nat.le_of_ble_eq_true rfl, fun G hG => ?_⟩
  have eL : lv_args 0 [.ref p0, va_rf p1] = [(0, va_rf (some p0)), (1, va_rf p1)] := by cases p1 <;> rfl
  rw [eL]
  refine (show KK sa R base G 0 [(0, va_rf (some p0)), (1, va_rf p1)] [] s kc ks (C_Rf_giveBack sa p0 p1 s kc ks Q) from ?_) hw h
  refine kk_aln hG (x := (some p0)) rfl rfl ?_
  refine kk_gi hG (c := 11) (k := 15) (a := p0) rfl rfl rfl rfl (fun v1 => ?_)
  refine kk_aln hG (x := (some p0)) rfl rfl ?_
  refine kk_gp hG (c := 11) (k := 14) (a := p0) rfl rfl rfl rfl (fun v2 => ?_)
  refine kk_ob (fun b3 eb3 => ?_)
  subst eb3
  refine kk_len hG (a := b3) rfl (fun v4 => ?_)
  refine kk_ige hG (t := 32) rfl rfl ?_ ?_
  · exact kk_rv hG rfl rfl k
  refine kk_aln hG (x := (some p0)) rfl rfl ?_
  refine kk_gp hG (c := 11) (k := 14) (a := p0) rfl rfl rfl rfl (fun v5 => ?_)
  refine kk_aln hG (x := (some p0)) rfl rfl ?_
  refine kk_gi hG (c := 11) (k := 15) (a := p0) rfl rfl rfl rfl (fun v6 => ?_)
  refine kk_aln hG (x := p1) rfl rfl ?_
  refine kk_ob (fun b7 eb7 => ?_)
  subst eb7
  refine kk_aas hG (a := b7) (x := p1) rfl (fun s8 => ?_)
  refine kk_aln hG (x := (some p0)) rfl rfl ?_
  refine kk_dup hG (x := (some p0)) rfl ?_
  refine kk_gi hG (c := 11) (k := 15) (a := p0) rfl rfl rfl rfl (fun v9 => ?_)
  refine kk_ic hG rfl cc_i1 ?_
  refine kks hG rfl rfl ?_
  refine kk_pi hG (c := 11) (k := 15) (a := p0) rfl rfl rfl rfl (fun s10 => ?_)
  exact kk_rv hG rfl rfl k
def C_Rf_bringDue_b171 (sa : Nat → Nat) (p0 : Nat) (a1 : Int32) (a2 : Int32) (a3 : Int32) (a4 : Option Nat) (a5 : Int32) (s : cS) (kc ks : Nat) (Q : (cS → Nat → Nat → Prop)) (P9 : (Int32 → Int32 → cS → Nat → Nat → Prop)) (P48 : (Int32 → cS → Nat → Nat → Prop)) : Prop := (P48 (a5 + (1 : Int32)) s kc ks)
def C_Rf_bringDue_b183 (sa : Nat → Nat) (p0 : Nat) (a1 : Int32) (a2 : Int32) (a3 : Int32) (s : cS) (kc ks : Nat) (Q : (cS → Nat → Nat → Prop)) (P9 : (Int32 → Int32 → cS → Nat → Nat → Prop)) : Prop := (P9 a2 (a3 + (1 : Int32)) s kc ks)
def C_Rf_bringDue_b177 (sa : Nat → Nat) (p0 : Nat) (a1 : Int32) (a2 : Int32) (a3 : Int32) (a4 : Option Nat) (s : cS) (kc ks : Nat) (Q : (cS → Nat → Nat → Prop)) (P9 : (Int32 → Int32 → cS → Nat → Nat → Prop)) : Prop := okO s 11 p0 ∧ C_Rf_giveBack sa p0 a4 s kc ks (fun sr1 cr1 dr1 => ((C_Rf_bringDue_b183 sa p0 a1 a2 a3 sr1 cr1 dr1 Q P9)))
def C_Rf_bringDue_b160 (sa : Nat → Nat) (p0 : Nat) (a1 : Int32) (a2 : Int32) (a3 : Int32) (a4 : Option Nat) (a5 : Int32) (s : cS) (kc ks : Nat) (Q : (cS → Nat → Nat → Prop)) (P9 : (Int32 → Int32 → cS → Nat → Nat → Prop)) (P48 : (Int32 → cS → Nat → Nat → Prop)) : Prop := ob a4 (fun b1 => (ob (gI s 2 3 b1) (fun v2 => (if v2 = 0 then (((C_Rf_bringDue_b177 sa p0 a1 a2 a3 (some b1) s kc ks Q P9))) else ((C_Rf_bringDue_b171 sa p0 a1 a2 a3 (some b1) a5 s kc ks Q P9 P48))))))
def C_Rf_bringDue_s48 (sa : Nat → Nat) (p0 : Nat) (a1 : Int32) (a2 : Int32) (a3 : Int32) (a4 : Option Nat) (a5 : Int32) (s : cS) (kc ks : Nat) (Q : (cS → Nat → Nat → Prop)) (P9 : (Int32 → Int32 → cS → Nat → Nat → Prop)) (P48 : (Int32 → cS → Nat → Nat → Prop)) : Prop := ob (gI s 11 9 p0) (fun v1 => (if a5 < v1 then (ob (gP s 11 8 p0) (fun v2 => (ob v2 (fun b3 => (ob (rQ s b3 a5) (fun v4 => (ob v4 (fun b5 => (okO s 9 b5 ∧ C_Rr_hearer sa b5 a4 s kc ks (fun r6 sr6 cr6 dr6 => (if r6 = none then ((C_Rf_bringDue_b171 sa p0 a1 a2 a3 a4 a5 sr6 cr6 dr6 Q P9 P48)) else (ob (gP sr6 9 16 b5) (fun v7 => (ob v7 (fun b8 => (ob (rE sr6 .int b8 (0 : Int32)) (fun v9 => (ob (wEi sr6 b8 (0 : Int32) (v9 + (1 : Int32))) (fun s10 => (okO s10 9 b5 ∧ C_Rr_judge sa b5 a4 r6 s10 cr6 dr6 (fun r11 sr11 cr11 dr11 => (if r11 = ((-1) : Int32) then (ob a4 (fun b12 => (ob (gP sr11 2 0 b12) (fun v13 => (ob v13 (fun b14 => (okO sr11 0 b14 ∧ C_By_at sa b14 (0 : Int32) sr11 cr11 dr11 (fun r15 sr15 cr15 dr15 => (if r15 = (1 : Int32) then (okO sr15 9 b5 ∧ C_Rr_answer sa b5 (some b12) r6 sr15 cr15 dr15 (fun sr17 cr17 dr17 => ((C_Rf_bringDue_b160 sa p0 a1 a2 a3 (some b12) a5 sr17 cr17 dr17 Q P9 P48)))) else (okO sr15 9 b5 ∧ C_Rr_hearResponse sa b5 (some b12) r6 sr15 cr15 dr15 (fun sr16 cr16 dr16 => ((C_Rf_bringDue_b160 sa p0 a1 a2 a3 (some b12) a5 sr16 cr16 dr16 Q P9 P48))))))))))))) else (ob (gP sr11 9 16 b5) (fun v18 => (ob v18 (fun b19 => (ob (rE sr11 .int b19 r11) (fun v20 => (ob (wEi sr11 b19 r11 (v20 + (1 : Int32))) (fun s21 => ((C_Rf_bringDue_b160 sa p0 a1 a2 a3 a4 a5 s21 cr11 dr11 Q P9 P48)))))))))))))))))))))))))))))))) else ((C_Rf_bringDue_b177 sa p0 a1 a2 a3 a4 s kc ks Q P9))))
def C_Rf_bringDue_b48 (sa : Nat → Nat) (p0 : Nat) (a1 : Int32) (a2 : Int32) (a3 : Int32) (a4 : Option Nat) (a5 : Int32) (s : cS) (kc ks : Nat) (Q : (cS → Nat → Nat → Prop)) (P9 : (Int32 → Int32 → cS → Nat → Nat → Prop)) : Prop := ∀ P48 : (Int32 → cS → Nat → Nat → Prop), (∀ (a5 : Int32) (s : cS) (kc ks : Nat), C_Rf_bringDue_s48 sa p0 a1 a2 a3 a4 a5 s kc ks Q P9 P48 → P48 a5 s kc ks) → P48 a5 s kc ks
def C_Rf_bringDue_s9 (sa : Nat → Nat) (p0 : Nat) (a1 : Int32) (a2 : Int32) (a3 : Int32) (s : cS) (kc ks : Nat) (Q : (cS → Nat → Nat → Prop)) (P9 : (Int32 → Int32 → cS → Nat → Nat → Prop)) : Prop := if a3 < a1 then (ob (gP s 11 12 p0) (fun v1 => (ob v1 (fun b2 => (ob (rQ s b2 a2) (fun v3 => (ob v3 (fun b4 => (ob (gI s 2 9 b4) (fun v5 => (ob (gI s 11 5 p0) (fun v6 => (if v6 < v5 then ((C_Rf_bringDue_b183 sa p0 a1 (a2 + (1 : Int32)) a3 s kc ks Q P9)) else (okO s 11 p0 ∧ C_Rf_takeOut sa p0 a2 s kc ks (fun sr7 cr7 dr7 => ((C_Rf_bringDue_b48 sa p0 a1 a2 a3 (some b4) (0 : Int32) sr7 cr7 dr7 Q P9))))))))))))))))) else ((Q s kc ks))
def C_Rf_bringDue_b9 (sa : Nat → Nat) (p0 : Nat) (a1 : Int32) (a2 : Int32) (a3 : Int32) (s : cS) (kc ks : Nat) (Q : (cS → Nat → Nat → Prop)) : Prop := ∀ P9 : (Int32 → Int32 → cS → Nat → Nat → Prop), (∀ (a2 : Int32) (a3 : Int32) (s : cS) (kc ks : Nat), C_Rf_bringDue_s9 sa p0 a1 a2 a3 s kc ks Q P9 → P9 a2 a3 s kc ks) → P9 a2 a3 s kc ks
def C_Rf_bringDue (sa : Nat → Nat) (p0 : Nat) (s : cS) (kc ks : Nat) (Q : (cS → Nat → Nat → Prop)) : Prop := ob (gI s 11 13 p0) (fun v1 => ((C_Rf_bringDue_b9 sa p0 v1 (0 : Int32) (0 : Int32) s kc ks Q)))
set_option maxRecDepth 100000 in
set_option maxHeartbeats 4000000 in
theorem kc_Rf_bringDue (base : Nat) (sa : Nat → Nat) {R : pmM} {s : cS} {kc ks : Nat} {Rt : pmR} {p0 : Nat} {Q : (cS → Nat → Nat → Prop)} (hw : cW sa R base s) (h : C_Rf_bringDue sa p0 s kc ks Q) (k : ∀ s' kc' ks', cW sa R base s' → Q s' kc' ks' → Rt none (cM R s') kc' ks') : kP_Rf_bringDue base sa [.ref p0] (cM R s) kc ks Rt := by
  refine ⟨Nat.le_of_ble_eq_true rfl, fun G hG => ?_⟩
  have b9 : ∀ (a1 : Int32) (a2 : Int32) (a3 : Int32) (s : cS) (kc ks : Nat), KK sa R base G 9 [(0, va_rf (some p0)), (1, .int a1), (2, .int a2), (3, .int a3)] [] s kc ks (C_Rf_bringDue_b9 sa p0 a1 a2 a3 s kc ks Q) := by
    intro a1
    have H : ∀ (P9 : (Int32 → Int32 → cS → Nat → Nat → Prop)) (hP9 : ∀ (a2 : Int32) (a3 : Int32) (s : cS) (kc ks : Nat), P9 a2 a3 s kc ks → cW sa R base s → G 9 [(0, va_rf (some p0)), (1, .int a1), (2, .int a2), (3, .int a3)] [] (cM R s) kc ks) (a2 : Int32) (a3 : Int32) (s : cS) (kc ks : Nat), KK sa R base G 9 [(0, va_rf (some p0)), (1, .int a1), (2, .int a2), (3, .int a3)] [] s kc ks (C_Rf_bringDue_s9 sa p0 a1 a2 a3 s kc ks Q P9) := by
      intro P9 hP9
      have b183 : ∀ (a2 : Int32) (a3 : Int32) (s : cS) (kc ks : Nat), KK sa R base G 183 [(0, va_rf (some p0)), (1, .int a1), (2, .int a2), (3, .int a3)] [] s kc ks (C_Rf_bringDue_b183 sa p0 a1 a2 a3 s kc ks Q P9) := by
        intro a2 a3 s kc ks
        refine kk_inc hG (L' := [(3, .int (a3 + (1 : Int32))), (0, va_rf (some p0)), (1, .int a1), (2, .int a2)]) rfl (Nat.le_of_ble_eq_true rfl) rfl cc_i1 rfl ?_
        refine kk_go hG (t := 9) rfl rfl ?_
        exact kk_wl hG [1, 2, 3, 0] rfl (fun hw h => hP9 _ _ _ _ _ h hw)
      have b177 : ∀ (a2 : Int32) (a3 : Int32) (a4 : Option Nat) (s : cS) (kc ks : Nat), KK sa R base G 177 [(0, va_rf (some p0)), (1, .int a1), (2, .int a2), (3, .int a3), (4, va_rf a4)] [] s kc ks (C_Rf_bringDue_b177 sa p0 a1 a2 a3 a4 s kc ks Q P9) := by
        intro a2 a3 a4 s kc ks
        refine kk_aln hG (x := (some p0)) rfl rfl ?_
        refine kk_al hG (x := a4) rfl rfl ?_
        refine kk_cv hG 0 rfl rfl (Nat.le_of_ble_eq_true rfl) (by decide) rfl (st' := []) rfl (cats_le (Nat.le_of_ble_eq_true rfl)) (fun _ hw h k => kk_rcv h.1 (kc_Rf_giveBack base sa hw h.2 k)) (fun sr1 cr1 dr1 => ?_)
        exact kk_wl hG [0, 1, 2, 3] rfl (b183 _ _ _ _ _)
      have b48 : ∀ (a2 : Int32) (a3 : Int32) (a4 : Option Nat) (a5 : Int32) (s : cS) (kc ks : Nat), KK sa R base G 48 [(0, va_rf (some p0)), (1, .int a1), (2, .int a2), (3, .int a3), (4, va_rf a4), (5, .int a5)] [] s kc ks (C_Rf_bringDue_b48 sa p0 a1 a2 a3 a4 a5 s kc ks Q P9) := by
        intro a2 a3 a4
        have H : ∀ (P48 : (Int32 → cS → Nat → Nat → Prop)) (hP48 : ∀ (a5 : Int32) (s : cS) (kc ks : Nat), P48 a5 s kc ks → cW sa R base s → G 48 [(0, va_rf (some p0)), (1, .int a1), (2, .int a2), (3, .int a3), (4, va_rf a4), (5, .int a5)] [] (cM R s) kc ks) (a5 : Int32) (s : cS) (kc ks : Nat), KK sa R base G 48 [(0, va_rf (some p0)), (1, .int a1), (2, .int a2), (3, .int a3), (4, va_rf a4), (5, .int a5)] [] s kc ks (C_Rf_bringDue_s48 sa p0 a1 a2 a3 a4 a5 s kc ks Q P9 P48) := by
          intro P48 hP48
          have b171 : ∀ (a5 : Int32) (s : cS) (kc ks : Nat), KK sa R base G 171 [(0, va_rf (some p0)), (1, .int a1), (2, .int a2), (3, .int a3), (4, va_rf a4), (5, .int a5)] [] s kc ks (C_Rf_bringDue_b171 sa p0 a1 a2 a3 a4 a5 s kc ks Q P9 P48) := by
            intro a5 s kc ks
            refine kk_inc hG (L' := [(5, .int (a5 + (1 : Int32))), (0, va_rf (some p0)), (1, .int a1), (2, .int a2), (3, .int a3), (4, va_rf a4)]) rfl (Nat.le_of_ble_eq_true rfl) rfl cc_i1 (by cases a4 <;> rfl) ?_
            refine kk_go hG (t := 48) rfl rfl ?_
            exact kk_wl hG [1, 2, 3, 4, 5, 0] rfl (fun hw h => hP48 _ _ _ _ h hw)
          have b160 : ∀ (a5 : Int32) (s : cS) (kc ks : Nat), KK sa R base G 160 [(0, va_rf (some p0)), (1, .int a1), (2, .int a2), (3, .int a3), (4, va_rf a4), (5, .int a5)] [] s kc ks (C_Rf_bringDue_b160 sa p0 a1 a2 a3 a4 a5 s kc ks Q P9 P48) := by
            intro a5 s kc ks
            refine kk_al hG (x := a4) rfl rfl ?_
            refine kk_ob (fun b1 eb1 => ?_)
            subst eb1
            refine kk_gi hG (c := 2) (k := 3) (a := b1) rfl rfl rfl rfl (fun v2 => ?_)
            refine kk_zne hG (t := 171) rfl rfl ?_ ?_
            · exact kk_wl hG [0, 1, 2, 3, 4, 5] rfl (b171 _ _ _ _)
            refine kk_go hG (t := 177) rfl rfl ?_
            exact kk_wl hG [0, 1, 2, 3, 4] rfl (b177 _ _ _ _ _ _)
          intro a5 s kc ks
          refine kks hG rfl rfl ?_
          refine kk_aln hG (x := (some p0)) rfl rfl ?_
          refine kk_gi hG (c := 11) (k := 9) (a := p0) rfl rfl rfl rfl (fun v1 => ?_)
          refine kk_ige hG (t := 177) rfl rfl ?_ ?_
          · exact kk_wl hG [0, 1, 2, 3, 4] rfl (b177 _ _ _ _ _ _)
          refine kk_aln hG (x := (some p0)) rfl rfl ?_
          refine kk_gp hG (c := 11) (k := 8) (a := p0) rfl rfl rfl rfl (fun v2 => ?_)
          refine kks hG rfl rfl ?_
          refine kk_ob (fun b3 eb3 => ?_)
          subst eb3
          refine kk_aa hG (a := b3) rfl (fun v4 => ?_)
          refine kk_as hG (x := v4) (L' := [(6, va_rf v4), (0, va_rf (some p0)), (1, .int a1), (2, .int a2), (3, .int a3), (4, va_rf a4), (5, .int a5)]) rfl (Nat.le_of_ble_eq_true rfl) rfl ?_
          refine kk_al hG (x := v4) rfl rfl ?_
          refine kk_al hG (x := a4) rfl rfl ?_
          refine kk_ob (fun b5 eb5 => ?_)
          subst eb5
          refine kk_cx (w := va_rf) hG 0 rfl rfl (Nat.le_of_ble_eq_true rfl) (by decide) rfl (st' := []) rfl (cats_le (Nat.le_of_ble_eq_true rfl)) (fun _ hw h k => kk_rcv h.1 (kc_Rr_hearer base sa hw h.2 k)) (fun r6 sr6 cr6 dr6 => ?_)
          refine kk_as hG (x := r6) (L' := [(7, va_rf r6), (6, va_rf (some b5)), (0, va_rf (some p0)), (1, .int a1), (2, .int a2), (3, .int a3), (4, va_rf a4), (5, .int a5)]) rfl (Nat.le_of_ble_eq_true rfl) rfl ?_
          refine kk_al hG (x := r6) rfl rfl ?_
          refine kk_nnl hG (x := r6) (t := 83) rfl rfl ?_ ?_
          · refine kk_al hG (x := (some b5)) rfl rfl ?_
            refine kk_gp hG (c := 9) (k := 16) (a := b5) rfl rfl rfl rfl (fun v7 => ?_)
            refine kk_ic hG rfl cc_i0 ?_
            refine kk_dup2 hG (x := v7) rfl ?_
            refine kk_ob (fun b8 eb8 => ?_)
            subst eb8
            refine kk_ia hG (a := b8) rfl (fun v9 => ?_)
            refine kk_ic hG rfl cc_i1 ?_
            refine kks hG rfl rfl ?_
            refine kk_is hG (a := b8) rfl (fun s10 => ?_)
            refine kk_al hG (x := (some b5)) rfl rfl ?_
            refine kk_al hG (x := a4) rfl rfl ?_
            refine kk_al hG (x := r6) rfl rfl ?_
            refine kk_cx (w := .int) hG 0 rfl rfl (Nat.le_of_ble_eq_true rfl) (by decide) rfl (st' := []) rfl (cats_le (Nat.le_of_ble_eq_true rfl)) (fun _ hw h k => kk_rcv h.1 (kc_Rr_judge base sa hw h.2 k)) (fun r11 sr11 cr11 dr11 => ?_)
            refine kk_st hG (L' := [(8, .int r11), (7, va_rf r6), (6, va_rf (some b5)), (0, va_rf (some p0)), (1, .int a1), (2, .int a2), (3, .int a3), (4, va_rf a4), (5, .int a5)]) rfl rfl (Nat.le_of_ble_eq_true rfl) (by cases r6 <;> rfl) ?_
            refine kks hG rfl rfl ?_
            refine kk_ic hG rfl cc_im1 ?_
            refine kk_ieq hG (t := 126) rfl rfl ?_ ?_
            · refine kk_al hG (x := a4) rfl rfl ?_
              refine kk_ob (fun b12 eb12 => ?_)
              subst eb12
              refine kk_gp hG (c := 2) (k := 0) (a := b12) rfl rfl rfl rfl (fun v13 => ?_)
              refine kk_ic hG rfl cc_i0 ?_
              refine kk_ob (fun b14 eb14 => ?_)
              subst eb14
              refine kk_cx (w := .int) hG 0 rfl rfl (Nat.le_of_ble_eq_true rfl) (by decide) rfl (st' := []) rfl (cats_le (Nat.le_of_ble_eq_true rfl)) (fun _ hw h k => kk_rcv h.1 (kc_By_at base sa hw h.2 k)) (fun r15 sr15 cr15 dr15 => ?_)
              refine kk_ic hG rfl cc_i1 ?_
              refine kk_ine hG (t := 151) rfl rfl ?_ ?_
              · refine kk_al hG (x := (some b5)) rfl rfl ?_
                refine kk_al hG (x := (some b12)) rfl rfl ?_
                refine kk_al hG (x := r6) rfl rfl ?_
                refine kk_cv hG 0 rfl rfl (Nat.le_of_ble_eq_true rfl) (by decide) rfl (st' := []) rfl (cats_le (Nat.le_of_ble_eq_true rfl)) (fun _ hw h k => kk_rcv h.1 (kc_Rr_hearResponse base sa hw h.2 k)) (fun sr16 cr16 dr16 => ?_)
                exact kk_wl hG [3, 4, 5, 6, 7, 8] rfl (b160 _ _ _ _)
              refine kk_al hG (x := (some b5)) rfl rfl ?_
              refine kk_al hG (x := (some b12)) rfl rfl ?_
              refine kk_al hG (x := r6) rfl rfl ?_
              refine kk_cv hG 0 rfl rfl (Nat.le_of_ble_eq_true rfl) (by decide) rfl (st' := []) rfl (cats_le (Nat.le_of_ble_eq_true rfl)) (fun _ hw h k => kk_rcv h.1 (kc_Rr_answer base sa hw h.2 k)) (fun sr17 cr17 dr17 => ?_)
              refine kk_go hG (t := 160) rfl rfl ?_
              exact kk_wl hG [3, 4, 5, 6, 7, 8] rfl (b160 _ _ _ _)
            refine kk_al hG (x := (some b5)) rfl rfl ?_
            refine kk_gp hG (c := 9) (k := 16) (a := b5) rfl rfl rfl rfl (fun v18 => ?_)
            refine kks hG rfl rfl ?_
            refine kk_dup2 hG (x := v18) rfl ?_
            refine kk_ob (fun b19 eb19 => ?_)
            subst eb19
            refine kk_ia hG (a := b19) rfl (fun v20 => ?_)
            refine kk_ic hG rfl cc_i1 ?_
            refine kks hG rfl rfl ?_
            refine kk_is hG (a := b19) rfl (fun s21 => ?_)
            refine kk_go hG (t := 160) rfl rfl ?_
            exact kk_wl hG [3, 4, 5, 6, 7, 8] rfl (b160 _ _ _ _)
          refine kk_go hG (t := 171) rfl rfl ?_
          exact kk_wl hG [2, 3, 4, 5, 6, 7] rfl (b171 _ _ _ _)
        exact fun a5 s kc ks hw h => h (fun a5 s kc ks => cW sa R base s → G 48 [(0, va_rf (some p0)), (1, .int a1), (2, .int a2), (3, .int a3), (4, va_rf a4), (5, .int a5)] [] (cM R s) kc ks) (fun a5 s kc ks hs hw => H _ (fun _ _ _ _ hp hw => hp hw) a5 s kc ks hw hs) hw
      intro a2 a3 s kc ks
      refine kks hG rfl rfl ?_
      refine kks hG rfl rfl ?_
      refine kk_ige hG (t := 189) rfl rfl ?_ ?_
      · exact kk_rv hG rfl rfl k
      refine kk_aln hG (x := (some p0)) rfl rfl ?_
      refine kk_gp hG (c := 11) (k := 12) (a := p0) rfl rfl rfl rfl (fun v1 => ?_)
      refine kks hG rfl rfl ?_
      refine kk_ob (fun b2 eb2 => ?_)
      subst eb2
      refine kk_aa hG (a := b2) rfl (fun v3 => ?_)
      refine kk_as hG (x := v3) (L' := [(4, va_rf v3), (0, va_rf (some p0)), (1, .int a1), (2, .int a2), (3, .int a3)]) rfl (Nat.le_of_ble_eq_true rfl) rfl ?_
      refine kk_al hG (x := v3) rfl rfl ?_
      refine kk_ob (fun b4 eb4 => ?_)
      subst eb4
      refine kk_gi hG (c := 2) (k := 9) (a := b4) rfl rfl rfl rfl (fun v5 => ?_)
      refine kk_aln hG (x := (some p0)) rfl rfl ?_
      refine kk_gi hG (c := 11) (k := 5) (a := p0) rfl rfl rfl rfl (fun v6 => ?_)
      refine kk_ile hG (t := 40) rfl rfl ?_ ?_
      · refine kk_aln hG (x := (some p0)) rfl rfl ?_
        refine kks hG rfl rfl ?_
        refine kk_cv hG 0 rfl rfl (Nat.le_of_ble_eq_true rfl) (by decide) rfl (st' := []) rfl (cats_le (Nat.le_of_ble_eq_true rfl)) (fun _ hw h k => kk_rcv h.1 (kc_Rf_takeOut base sa hw h.2 k)) (fun sr7 cr7 dr7 => ?_)
        refine kk_ic hG rfl cc_i0 ?_
        refine kk_st hG (L' := [(5, .int (0 : Int32)), (4, va_rf (some b4)), (0, va_rf (some p0)), (1, .int a1), (2, .int a2), (3, .int a3)]) rfl rfl (Nat.le_of_ble_eq_true rfl) rfl ?_
        exact kk_wl hG [2, 3, 4, 5, 1, 0] rfl (b48 _ _ _ _ _ _ _)
      refine kk_inc hG (L' := [(2, .int (a2 + (1 : Int32))), (4, va_rf (some b4)), (0, va_rf (some p0)), (1, .int a1), (3, .int a3)]) rfl (Nat.le_of_ble_eq_true rfl) rfl cc_i1 rfl ?_
      refine kk_go hG (t := 183) rfl rfl ?_
      exact kk_wl hG [2, 3, 0, 4] rfl (b183 _ _ _ _ _)
    exact fun a2 a3 s kc ks hw h => h (fun a2 a3 s kc ks => cW sa R base s → G 9 [(0, va_rf (some p0)), (1, .int a1), (2, .int a2), (3, .int a3)] [] (cM R s) kc ks) (fun a2 a3 s kc ks hs hw => H _ (fun _ _ _ _ _ hp hw => hp hw) a2 a3 s kc ks hw hs) hw
  refine (show KK sa R base G 0 [(0, va_rf (some p0))] [] s kc ks (C_Rf_bringDue sa p0 s kc ks Q) from ?_) hw h
  refine kk_aln hG (x := (some p0)) rfl rfl ?_
  refine kk_gi hG (c := 11) (k := 13) (a := p0) rfl rfl rfl rfl (fun v1 => ?_)
  refine kk_st hG (L' := [(1, .int v1), (0, va_rf (some p0))]) rfl rfl (Nat.le_of_ble_eq_true rfl) rfl ?_
  refine kk_ic hG rfl cc_i0 ?_
  refine kk_st hG (L' := [(2, .int (0 : Int32)), (1, .int v1), (0, va_rf (some p0))]) rfl rfl (Nat.le_of_ble_eq_true rfl) rfl ?_
  refine kk_ic hG rfl cc_i0 ?_
  refine kk_st hG (L' := [(3, .int (0 : Int32)), (2, .int (0 : Int32)), (1, .int v1), (0, va_rf (some p0))]) rfl rfl (Nat.le_of_ble_eq_true rfl) rfl ?_
  exact kk_wl hG [3, 2, 1, 0] rfl (b9 _ _ _ _ _ _)
