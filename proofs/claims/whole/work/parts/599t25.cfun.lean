/-! Methods as weakest preconditions, by program: Re_neighborLine .. Rr_init -/
def C_Re_neighborLine (sa : Nat → Nat) (p0 : Nat) (s : cS) (kc ks : Nat) (Q : (Int32 → cS → Nat → Nat → Prop)) : Prop := ob (gI s 7 3 p0) (fun v1 => (if v1 = (4 : Int32) then (okO s 7 p0 ∧ C_Re_portNamed sa p0 s kc ks (fun r2 sr2 cr2 dr2 => (if r2 = none then (Q (3 : Int32) sr2 cr2 dr2) else (ob (gP sr2 7 6 p0) (fun v3 => (ob (gP sr2 7 0 p0) (fun v4 => (ob v4 (fun b5 => (ob (gP sr2 11 0 b5) (fun v6 => (ob (gP sr2 7 1 p0) (fun v7 => (ob v7 (fun b8 => (ob (rE sr2 .int b8 (3 : Int32)) (fun v9 => (ob (gP sr2 7 2 p0) (fun v10 => (ob v10 (fun b11 => (ob (rE sr2 .int b11 (3 : Int32)) (fun v12 => (ob v3 (fun b13 => (okO sr2 5 b13 ∧ C_Pr_parseAddress sa b13 v6 v9 v12 sr2 cr2 dr2 (fun r14 sr14 cr14 dr14 => (if r14 = 0 then (Q (5 : Int32) sr14 cr14 dr14) else (ob r2 (fun b15 => (ob (gI sr14 4 12 b15) (fun v16 => (if v16 < (4 : Int32) then (ob (gP sr14 7 6 p0) (fun v17 => (okO sr14 4 b15 ∧ C_Po_addNeighbor sa b15 v17 sr14 cr14 dr14 (fun sr18 cr18 dr18 => (Q (0 : Int32) sr18 cr18 dr18))))) else (Q (6 : Int32) sr14 cr14 dr14)))))))))))))))))))))))))))))))))) else (Q (2 : Int32) s kc ks)))
set_option maxRecDepth 100000 in
set_option maxHeartbeats 4000000 in
theorem kc_Re_neighborLine (base : Nat) (sa : Nat → Nat) {R : pmM} {s : cS} {kc ks : Nat} {Rt : pmR} {p0 : Nat} {Q : (Int32 → cS → Nat → Nat → Prop)} (hw : cW sa R base s) (h : C_Re_neighborLine sa p0 s kc ks Q) (k : ∀ r s' kc' ks', cW sa R base s' → Q r s' kc' ks' → Rt (some (.int r)) (cM R s') kc' ks') : kP_Re_neighborLine base sa [.ref p0] (cM R s) kc ks Rt := by
  refine ⟨Nat.le_of_ble_eq_true rfl, fun G hG => ?_⟩
  refine (show KK sa R base G 0 [(0, va_rf (some p0))] [] s kc ks (C_Re_neighborLine sa p0 s kc ks Q) from ?_) hw h
  refine kk_aln hG (x := (some p0)) rfl rfl ?_
  refine kk_gi hG (c := 7) (k := 3) (a := p0) rfl rfl rfl rfl (fun v1 => ?_)
  refine kk_ic hG rfl cc_i4 ?_
  refine kk_ieq hG (t := 10) rfl rfl ?_ ?_
  · refine kk_aln hG (x := (some p0)) rfl rfl ?_
    refine kk_cx (w := va_rf) hG 0 rfl rfl (Nat.le_of_ble_eq_true rfl) (by decide) rfl (st' := []) rfl (cats_le (Nat.le_of_ble_eq_true rfl)) (fun _ hw h k => kk_rcv h.1 (kc_Re_portNamed base sa hw h.2 k)) (fun r2 sr2 cr2 dr2 => ?_)
    refine kk_asn hG (x := r2) (L' := [(1, va_rf r2), (0, va_rf (some p0))]) rfl (Nat.le_of_ble_eq_true rfl) rfl ?_
    refine kk_aln hG (x := r2) rfl rfl ?_
    refine kk_nnl hG (x := r2) (t := 21) rfl rfl ?_ ?_
    · refine kk_aln hG (x := (some p0)) rfl rfl ?_
      refine kk_gp hG (c := 7) (k := 6) (a := p0) rfl rfl rfl rfl (fun v3 => ?_)
      refine kk_aln hG (x := (some p0)) rfl rfl ?_
      refine kk_gp hG (c := 7) (k := 0) (a := p0) rfl rfl rfl rfl (fun v4 => ?_)
      refine kk_ob (fun b5 eb5 => ?_)
      subst eb5
      refine kk_gp hG (c := 11) (k := 0) (a := b5) rfl rfl rfl rfl (fun v6 => ?_)
      refine kk_aln hG (x := (some p0)) rfl rfl ?_
      refine kk_gp hG (c := 7) (k := 1) (a := p0) rfl rfl rfl rfl (fun v7 => ?_)
      refine kk_ic hG rfl cc_i3 ?_
      refine kk_ob (fun b8 eb8 => ?_)
      subst eb8
      refine kk_ia hG (a := b8) rfl (fun v9 => ?_)
      refine kk_aln hG (x := (some p0)) rfl rfl ?_
      refine kk_gp hG (c := 7) (k := 2) (a := p0) rfl rfl rfl rfl (fun v10 => ?_)
      refine kk_ic hG rfl cc_i3 ?_
      refine kk_ob (fun b11 eb11 => ?_)
      subst eb11
      refine kk_ia hG (a := b11) rfl (fun v12 => ?_)
      refine kk_ob (fun b13 eb13 => ?_)
      subst eb13
      refine kk_cx (w := .int) hG 0 rfl rfl (Nat.le_of_ble_eq_true rfl) (by decide) rfl (st' := []) rfl (cats_le (Nat.le_of_ble_eq_true rfl)) (fun _ hw h k => kk_rcv h.1 (kc_Pr_parseAddress base sa hw h.2 k)) (fun r14 sr14 cr14 dr14 => ?_)
      refine kk_zne hG (t := 52) rfl rfl ?_ ?_
      · refine kk_aln hG (x := r2) rfl rfl ?_
        refine kk_ob (fun b15 eb15 => ?_)
        subst eb15
        refine kk_gi hG (c := 4) (k := 12) (a := b15) rfl rfl rfl rfl (fun v16 => ?_)
        refine kk_ic hG rfl cc_i4 ?_
        refine kk_ilt hG (t := 63) rfl rfl ?_ ?_
        · refine kk_aln hG (x := (some b15)) rfl rfl ?_
          refine kk_aln hG (x := (some p0)) rfl rfl ?_
          refine kk_gp hG (c := 7) (k := 6) (a := p0) rfl rfl rfl rfl (fun v17 => ?_)
          refine kk_cv hG 0 rfl rfl (Nat.le_of_ble_eq_true rfl) (by decide) rfl (st' := []) rfl (cats_le (Nat.le_of_ble_eq_true rfl)) (fun _ hw h k => kk_rcv h.1 (kc_Po_addNeighbor base sa hw h.2 k)) (fun sr18 cr18 dr18 => ?_)
          refine kk_ic hG rfl cc_i0 ?_
          exact kk_ri hG rfl rfl rfl k
        refine kk_bi hG rfl cc_b6 ?_
        exact kk_ri hG rfl rfl rfl k
      refine kk_ic hG rfl cc_i5 ?_
      exact kk_ri hG rfl rfl rfl k
    refine kk_ic hG rfl cc_i3 ?_
    exact kk_ri hG rfl rfl rfl k
  refine kk_ic hG rfl cc_i2 ?_
  exact kk_ri hG rfl rfl rfl k
def C_Re_redistributeLine_b147 (sa : Nat → Nat) (a1 : Option Nat) (a2 : Int32) (a3 : Int32) (u0 : Int32) (s : cS) (kc ks : Nat) (Q : (Int32 → cS → Nat → Nat → Prop)) : Prop := ob a1 (fun b1 => (ob (gP s 9 13 b1) (fun v2 => (ob v2 (fun b3 => (ob (wEi s b3 u0 a2) (fun s4 => (ob (gP s4 9 14 b1) (fun v5 => (ob v5 (fun b6 => (ob (wEi s4 b6 u0 a3) (fun s7 => (Q (0 : Int32) s7 kc ks))))))))))))))
def C_Re_redistributeLine_b131 (sa : Nat → Nat) (p0 : Nat) (a1 : Option Nat) (a2 : Int32) (a3 : Int32) (s : cS) (kc ks : Nat) (Q : (Int32 → cS → Nat → Nat → Prop)) : Prop := okO s 7 p0 ∧ C_Re_is sa p0 (2 : Int32) (some (sa 34)) s kc ks (fun r1 sr1 cr1 dr1 => (if r1 = 0 then ((C_Re_redistributeLine_b147 sa a1 a2 a3 (1 : Int32) sr1 cr1 dr1 Q)) else ((C_Re_redistributeLine_b147 sa a1 a2 a3 (0 : Int32) sr1 cr1 dr1 Q))))
def C_Re_redistributeLine_b130 (sa : Nat → Nat) (p0 : Nat) (a1 : Option Nat) (a3 : Int32) (u0 : Int32) (s : cS) (kc ks : Nat) (Q : (Int32 → cS → Nat → Nat → Prop)) : Prop := (C_Re_redistributeLine_b131 sa p0 a1 u0 a3 s kc ks Q)
def C_Re_redistributeLine_b109 (sa : Nat → Nat) (p0 : Nat) (a1 : Option Nat) (a2 : Int32) (a3 : Int32) (s : cS) (kc ks : Nat) (Q : (Int32 → cS → Nat → Nat → Prop)) : Prop := if a2 = ((-1) : Int32) then (okO s 7 p0 ∧ C_Re_is sa p0 (3 : Int32) (some (sa 35)) s kc ks (fun r1 sr1 cr1 dr1 => (if r1 = 0 then ((C_Re_redistributeLine_b130 sa p0 a1 a3 ((-1) : Int32) sr1 cr1 dr1 Q)) else ((C_Re_redistributeLine_b130 sa p0 a1 a3 (0 : Int32) sr1 cr1 dr1 Q))))) else ((C_Re_redistributeLine_b131 sa p0 a1 a2 a3 s kc ks Q))
def C_Re_redistributeLine_b95 (sa : Nat → Nat) (p0 : Nat) (a1 : Option Nat) (a2 : Int32) (a3 : Int32) (s : cS) (kc ks : Nat) (Q : (Int32 → cS → Nat → Nat → Prop)) : Prop := ob (gI s 7 4 p0) (fun v1 => (if 0 < v1 then (if a3 = ((-1) : Int32) then (Q (4 : Int32) s kc ks) else ((C_Re_redistributeLine_b109 sa p0 a1 a2 a3 s kc ks Q))) else ((C_Re_redistributeLine_b109 sa p0 a1 a2 a3 s kc ks Q))))
def C_Re_redistributeLine_b75 (sa : Nat → Nat) (p0 : Nat) (a1 : Option Nat) (a2 : Int32) (u0 : Int32) (s : cS) (kc ks : Nat) (Q : (Int32 → cS → Nat → Nat → Prop)) : Prop := if a2 = ((-1) : Int32) then (okO s 7 p0 ∧ C_Re_isEither sa p0 (3 : Int32) (some (sa 35)) (some (sa 12)) s kc ks (fun r1 sr1 cr1 dr1 => (if r1 = 0 then (Q (4 : Int32) sr1 cr1 dr1) else ((C_Re_redistributeLine_b95 sa p0 a1 a2 u0 sr1 cr1 dr1 Q))))) else ((C_Re_redistributeLine_b95 sa p0 a1 a2 u0 s kc ks Q))
def C_Re_redistributeLine (sa : Nat → Nat) (p0 : Nat) (s : cS) (kc ks : Nat) (Q : (Int32 → cS → Nat → Nat → Prop)) : Prop := ob (gI s 7 3 p0) (fun v1 => (if v1 < (4 : Int32) then (Q (2 : Int32) s kc ks) else (okO s 7 p0 ∧ C_Re_hasTagOption sa p0 (4 : Int32) s kc ks (fun r2 sr2 cr2 dr2 => (if r2 = 0 then (Q (2 : Int32) sr2 cr2 dr2) else (okO sr2 7 p0 ∧ C_Re_isEither sa p0 (2 : Int32) (some (sa 34)) (some (sa 17)) sr2 cr2 dr2 (fun r3 sr3 cr3 dr3 => (if r3 = 0 then (Q (2 : Int32) sr3 cr3 dr3) else (okO sr3 7 p0 ∧ C_Re_routerNamed sa p0 (1 : Int32) sr3 cr3 dr3 (fun r4 sr4 cr4 dr4 => (if r4 = none then (Q (3 : Int32) sr4 cr4 dr4) else (okO sr4 7 p0 ∧ C_Re_number sa p0 (3 : Int32) (1 : Int32) (15 : Int32) sr4 cr4 dr4 (fun r5 sr5 cr5 dr5 => (ob (gI sr5 7 4 p0) (fun v6 => (if v6 = 0 then ((C_Re_redistributeLine_b75 sa p0 r4 r5 ((-1) : Int32) sr5 cr5 dr5 Q)) else (ob (gI sr5 7 4 p0) (fun v7 => (okO sr5 7 p0 ∧ C_Re_number sa p0 v7 (0 : Int32) (65535 : Int32) sr5 cr5 dr5 (fun r8 sr8 cr8 dr8 => ((C_Re_redistributeLine_b75 sa p0 r4 r5 r8 sr8 cr8 dr8 Q))))))))))))))))))))))
set_option maxRecDepth 100000 in
set_option maxHeartbeats 4000000 in
theorem kc_Re_redistributeLine (base : Nat) (sa : Nat → Nat) {R : pmM} {s : cS} {kc ks : Nat} {Rt : pmR} {p0 : Nat} {Q : (Int32 → cS → Nat → Nat → Prop)} (hw : cW sa R base s) (h : C_Re_redistributeLine sa p0 s kc ks Q) (k : ∀ r s' kc' ks', cW sa R base s' → Q r s' kc' ks' → Rt (some (.int r)) (cM R s') kc' ks') : kP_Re_redistributeLine base sa [.ref p0] (cM R s) kc ks Rt := by
  refine ⟨Nat.le_of_ble_eq_true rfl, fun G hG => ?_⟩
  have b147 : ∀ (a1 : Option Nat) (a2 : Int32) (a3 : Int32) (u0 : Int32) (s : cS) (kc ks : Nat), KK sa R base G 147 [(1, va_rf a1), (2, .int a2), (3, .int a3)] [.int u0] s kc ks (C_Re_redistributeLine_b147 sa a1 a2 a3 u0 s kc ks Q) := by
    intro a1 a2 a3 u0 s kc ks
    refine kk_st hG (L' := [(4, .int u0), (1, va_rf a1), (2, .int a2), (3, .int a3)]) rfl rfl (Nat.le_of_ble_eq_true rfl) rfl ?_
    refine kk_aln hG (x := a1) rfl rfl ?_
    refine kk_ob (fun b1 eb1 => ?_)
    subst eb1
    refine kk_gp hG (c := 9) (k := 13) (a := b1) rfl rfl rfl rfl (fun v2 => ?_)
    refine kks hG rfl rfl ?_
    refine kks hG rfl rfl ?_
    refine kk_ob (fun b3 eb3 => ?_)
    subst eb3
    refine kk_is hG (a := b3) rfl (fun s4 => ?_)
    refine kk_aln hG (x := (some b1)) rfl rfl ?_
    refine kk_gp hG (c := 9) (k := 14) (a := b1) rfl rfl rfl rfl (fun v5 => ?_)
    refine kks hG rfl rfl ?_
    refine kks hG rfl rfl ?_
    refine kk_ob (fun b6 eb6 => ?_)
    subst eb6
    refine kk_is hG (a := b6) rfl (fun s7 => ?_)
    refine kk_ic hG rfl cc_i0 ?_
    exact kk_ri hG rfl rfl rfl k
  have b131 : ∀ (a1 : Option Nat) (a2 : Int32) (a3 : Int32) (s : cS) (kc ks : Nat), KK sa R base G 131 [(0, va_rf (some p0)), (1, va_rf a1), (2, .int a2), (3, .int a3)] [] s kc ks (C_Re_redistributeLine_b131 sa p0 a1 a2 a3 s kc ks Q) := by
    intro a1 a2 a3 s kc ks
    refine kk_aln hG (x := (some p0)) rfl rfl ?_
    refine kk_ic hG rfl cc_i2 ?_
    refine kk_lws hG (a := sa 34) rfl rfl ?_
    refine kk_cx (w := .int) hG 0 rfl rfl (Nat.le_of_ble_eq_true rfl) (by decide) rfl (st' := []) rfl (cats_le (Nat.le_of_ble_eq_true rfl)) (fun _ hw h k => kk_rcv h.1 (kc_Re_is base sa hw h.2 k)) (fun r1 sr1 cr1 dr1 => ?_)
    refine kk_zeq hG (t := 146) rfl rfl ?_ ?_
    · refine kk_ic hG rfl cc_i1 ?_
      exact kk_wl hG [1, 2, 3] rfl (b147 _ _ _ _ _ _ _)
    refine kk_ic hG rfl cc_i0 ?_
    refine kk_go hG (t := 147) rfl rfl ?_
    exact kk_wl hG [1, 2, 3] rfl (b147 _ _ _ _ _ _ _)
  have b130 : ∀ (a1 : Option Nat) (a3 : Int32) (u0 : Int32) (s : cS) (kc ks : Nat), KK sa R base G 130 [(0, va_rf (some p0)), (1, va_rf a1), (3, .int a3)] [.int u0] s kc ks (C_Re_redistributeLine_b130 sa p0 a1 a3 u0 s kc ks Q) := by
    intro a1 a3 u0 s kc ks
    refine kk_st hG (L' := [(2, .int u0), (0, va_rf (some p0)), (1, va_rf a1), (3, .int a3)]) rfl rfl (Nat.le_of_ble_eq_true rfl) (by cases a1 <;> rfl) ?_
    exact kk_wl hG [1, 2, 0, 3] rfl (b131 _ _ _ _ _ _)
  have b109 : ∀ (a1 : Option Nat) (a2 : Int32) (a3 : Int32) (s : cS) (kc ks : Nat), KK sa R base G 109 [(0, va_rf (some p0)), (1, va_rf a1), (2, .int a2), (3, .int a3)] [] s kc ks (C_Re_redistributeLine_b109 sa p0 a1 a2 a3 s kc ks Q) := by
    intro a1 a2 a3 s kc ks
    refine kks hG rfl rfl ?_
    refine kk_ic hG rfl cc_im1 ?_
    refine kk_ine hG (t := 131) rfl rfl ?_ ?_
    · exact kk_wl hG [0, 1, 2, 3] rfl (b131 _ _ _ _ _ _)
    refine kk_aln hG (x := (some p0)) rfl rfl ?_
    refine kk_ic hG rfl cc_i3 ?_
    refine kk_lws hG (a := sa 35) rfl rfl ?_
    refine kk_cx (w := .int) hG 0 rfl rfl (Nat.le_of_ble_eq_true rfl) (by decide) rfl (st' := []) rfl (cats_le (Nat.le_of_ble_eq_true rfl)) (fun _ hw h k => kk_rcv h.1 (kc_Re_is base sa hw h.2 k)) (fun r1 sr1 cr1 dr1 => ?_)
    refine kk_zeq hG (t := 129) rfl rfl ?_ ?_
    · refine kk_ic hG rfl cc_im1 ?_
      exact kk_wl hG [0, 1, 3] rfl (b130 _ _ _ _ _ _)
    refine kk_ic hG rfl cc_i0 ?_
    refine kk_go hG (t := 130) rfl rfl ?_
    exact kk_wl hG [0, 1, 3] rfl (b130 _ _ _ _ _ _)
  have b95 : ∀ (a1 : Option Nat) (a2 : Int32) (a3 : Int32) (s : cS) (kc ks : Nat), KK sa R base G 95 [(0, va_rf (some p0)), (1, va_rf a1), (2, .int a2), (3, .int a3)] [] s kc ks (C_Re_redistributeLine_b95 sa p0 a1 a2 a3 s kc ks Q) := by
    intro a1 a2 a3 s kc ks
    refine kk_aln hG (x := (some p0)) rfl rfl ?_
    refine kk_gi hG (c := 7) (k := 4) (a := p0) rfl rfl rfl rfl (fun v1 => ?_)
    refine kk_zle hG (t := 109) rfl rfl ?_ ?_
    · exact kk_wl hG [0, 1, 2, 3] rfl (b109 _ _ _ _ _ _)
    refine kks hG rfl rfl ?_
    refine kk_ic hG rfl cc_im1 ?_
    refine kk_ine hG (t := 109) rfl rfl ?_ ?_
    · exact kk_wl hG [0, 1, 2, 3] rfl (b109 _ _ _ _ _ _)
    refine kk_ic hG rfl cc_i4 ?_
    exact kk_ri hG rfl rfl rfl k
  have b75 : ∀ (a1 : Option Nat) (a2 : Int32) (u0 : Int32) (s : cS) (kc ks : Nat), KK sa R base G 75 [(0, va_rf (some p0)), (1, va_rf a1), (2, .int a2)] [.int u0] s kc ks (C_Re_redistributeLine_b75 sa p0 a1 a2 u0 s kc ks Q) := by
    intro a1 a2 u0 s kc ks
    refine kk_st hG (L' := [(3, .int u0), (0, va_rf (some p0)), (1, va_rf a1), (2, .int a2)]) rfl rfl (Nat.le_of_ble_eq_true rfl) rfl ?_
    refine kks hG rfl rfl ?_
    refine kk_ic hG rfl cc_im1 ?_
    refine kk_ine hG (t := 95) rfl rfl ?_ ?_
    · exact kk_wl hG [1, 2, 3, 0] rfl (b95 _ _ _ _ _ _)
    refine kk_aln hG (x := (some p0)) rfl rfl ?_
    refine kk_ic hG rfl cc_i3 ?_
    refine kk_lws hG (a := sa 35) rfl rfl ?_
    refine kk_lws hG (a := sa 12) rfl rfl ?_
    refine kk_cx (w := .int) hG 0 rfl rfl (Nat.le_of_ble_eq_true rfl) (by decide) rfl (st' := []) rfl (cats_le (Nat.le_of_ble_eq_true rfl)) (fun _ hw h k => kk_rcv h.1 (kc_Re_isEither base sa hw h.2 k)) (fun r1 sr1 cr1 dr1 => ?_)
    refine kk_zeq hG (t := 107) rfl rfl ?_ ?_
    · refine kk_ic hG rfl cc_i4 ?_
      exact kk_ri hG rfl rfl rfl k
    exact kk_wl hG [1, 2, 3, 0] rfl (b95 _ _ _ _ _ _)
  refine (show KK sa R base G 0 [(0, va_rf (some p0))] [] s kc ks (C_Re_redistributeLine sa p0 s kc ks Q) from ?_) hw h
  refine kk_aln hG (x := (some p0)) rfl rfl ?_
  refine kk_gi hG (c := 7) (k := 3) (a := p0) rfl rfl rfl rfl (fun v1 => ?_)
  refine kk_ic hG rfl cc_i4 ?_
  refine kk_ilt hG (t := 29) rfl rfl ?_ ?_
  · refine kk_ic hG rfl cc_i2 ?_
    exact kk_ri hG rfl rfl rfl k
  refine kk_aln hG (x := (some p0)) rfl rfl ?_
  refine kk_ic hG rfl cc_i4 ?_
  refine kk_cx (w := .int) hG 0 rfl rfl (Nat.le_of_ble_eq_true rfl) (by decide) rfl (st' := []) rfl (cats_le (Nat.le_of_ble_eq_true rfl)) (fun _ hw h k => kk_rcv h.1 (kc_Re_hasTagOption base sa hw h.2 k)) (fun r2 sr2 cr2 dr2 => ?_)
  refine kk_zeq hG (t := 29) rfl rfl ?_ ?_
  · refine kk_ic hG rfl cc_i2 ?_
    exact kk_ri hG rfl rfl rfl k
  refine kk_aln hG (x := (some p0)) rfl rfl ?_
  refine kk_ic hG rfl cc_i2 ?_
  refine kk_lws hG (a := sa 34) rfl rfl ?_
  refine kk_lds hG (a := sa 17) rfl rfl ?_
  refine kk_cx (w := .int) hG 0 rfl rfl (Nat.le_of_ble_eq_true rfl) (by decide) rfl (st' := []) rfl (cats_le (Nat.le_of_ble_eq_true rfl)) (fun _ hw h k => kk_rcv h.1 (kc_Re_isEither base sa hw h.2 k)) (fun r3 sr3 cr3 dr3 => ?_)
  refine kk_zne hG (t := 31) rfl rfl ?_ ?_
  · refine kk_aln hG (x := (some p0)) rfl rfl ?_
    refine kk_ic hG rfl cc_i1 ?_
    refine kk_cx (w := va_rf) hG 0 rfl rfl (Nat.le_of_ble_eq_true rfl) (by decide) rfl (st' := []) rfl (cats_le (Nat.le_of_ble_eq_true rfl)) (fun _ hw h k => kk_rcv h.1 (kc_Re_routerNamed base sa hw h.2 k)) (fun r4 sr4 cr4 dr4 => ?_)
    refine kk_asn hG (x := r4) (L' := [(1, va_rf r4), (0, va_rf (some p0))]) rfl (Nat.le_of_ble_eq_true rfl) rfl ?_
    refine kk_aln hG (x := r4) rfl rfl ?_
    refine kk_nnl hG (x := r4) (t := 43) rfl rfl ?_ ?_
    · refine kk_aln hG (x := (some p0)) rfl rfl ?_
      refine kk_ic hG rfl cc_i3 ?_
      refine kk_ic hG rfl cc_i1 ?_
      refine kk_bi hG rfl cc_b15 ?_
      refine kk_cx (w := .int) hG 0 rfl rfl (Nat.le_of_ble_eq_true rfl) (by decide) rfl (st' := []) rfl (cats_le (Nat.le_of_ble_eq_true rfl)) (fun _ hw h k => kk_rcv h.1 (kc_Re_number base sa hw h.2 k)) (fun r5 sr5 cr5 dr5 => ?_)
      refine kk_st hG (L' := [(2, .int r5), (1, va_rf r4), (0, va_rf (some p0))]) rfl rfl (Nat.le_of_ble_eq_true rfl) (by cases r4 <;> rfl) ?_
      refine kk_aln hG (x := (some p0)) rfl rfl ?_
      refine kk_gi hG (c := 7) (k := 4) (a := p0) rfl rfl rfl rfl (fun v6 => ?_)
      refine kk_zne hG (t := 63) rfl rfl ?_ ?_
      · refine kk_aln hG (x := (some p0)) rfl rfl ?_
        refine kk_aln hG (x := (some p0)) rfl rfl ?_
        refine kk_gi hG (c := 7) (k := 4) (a := p0) rfl rfl rfl rfl (fun v7 => ?_)
        refine kk_ic hG rfl cc_i0 ?_
        refine kk_lw hG (v := (65535 : Int32)) rfl rfl ?_
        refine kk_cx (w := .int) hG 0 rfl rfl (Nat.le_of_ble_eq_true rfl) (by decide) rfl (st' := []) rfl (cats_le (Nat.le_of_ble_eq_true rfl)) (fun _ hw h k => kk_rcv h.1 (kc_Re_number base sa hw h.2 k)) (fun r8 sr8 cr8 dr8 => ?_)
        exact kk_wl hG [2, 1, 0] rfl (b75 _ _ _ _ _ _)
      refine kk_ic hG rfl cc_im1 ?_
      refine kk_go hG (t := 75) rfl rfl ?_
      exact kk_wl hG [2, 1, 0] rfl (b75 _ _ _ _ _ _)
    refine kk_ic hG rfl cc_i3 ?_
    exact kk_ri hG rfl rfl rfl k
  refine kk_ic hG rfl cc_i2 ?_
  exact kk_ri hG rfl rfl rfl k
def C_Re_defaultLine_b71 (sa : Nat → Nat) (a2 : Int32) (a3 : Option Nat) (u0 : Int32) (s : cS) (kc ks : Nat) (Q : (Int32 → cS → Nat → Nat → Prop)) : Prop := if u0 = ((-1) : Int32) then (Q (4 : Int32) s kc ks) else (ob a3 (fun b1 => (ob (pI s 4 13 b1 u0) (fun s2 => (ob (pZ s2 4 14 b1 a2) (fun s3 => (Q (0 : Int32) s3 kc ks)))))))
def C_Re_defaultLine_b44 (sa : Nat → Nat) (p0 : Nat) (a1 : Int32) (a2 : Int32) (s : cS) (kc ks : Nat) (Q : (Int32 → cS → Nat → Nat → Prop)) : Prop := okO s 7 p0 ∧ C_Re_portNamed sa p0 s kc ks (fun r1 sr1 cr1 dr1 => (if r1 = none then (Q (3 : Int32) sr1 cr1 dr1) else (if a1 = 0 then (okO sr1 7 p0 ∧ C_Re_number sa p0 (3 : Int32) (1 : Int32) (15 : Int32) sr1 cr1 dr1 (fun r2 sr2 cr2 dr2 => ((C_Re_defaultLine_b71 sa a2 r1 r2 sr2 cr2 dr2 Q)))) else ((C_Re_defaultLine_b71 sa a2 r1 (0 : Int32) sr1 cr1 dr1 Q)))))
def C_Re_defaultLine (sa : Nat → Nat) (p0 : Nat) (s : cS) (kc ks : Nat) (Q : (Int32 → cS → Nat → Nat → Prop)) : Prop := okO s 7 p0 ∧ C_Re_is sa p0 (3 : Int32) (some (sa 12)) s kc ks (fun r1 sr1 cr1 dr1 => (okO sr1 7 p0 ∧ C_Re_is sa p0 (4 : Int32) (some (sa 37)) sr1 cr1 dr1 (fun r2 sr2 cr2 dr2 => (ob (gI sr2 7 3 p0) (fun v3 => (if v3 = (4 : Int32) then ((C_Re_defaultLine_b44 sa p0 r1 r2 sr2 cr2 dr2 Q)) else (ob (gI sr2 7 3 p0) (fun v4 => (if v4 = (5 : Int32) then (if r2 = 0 then (Q (2 : Int32) sr2 cr2 dr2) else (if r1 = 0 then ((C_Re_defaultLine_b44 sa p0 r1 r2 sr2 cr2 dr2 Q)) else (Q (2 : Int32) sr2 cr2 dr2))) else (Q (2 : Int32) sr2 cr2 dr2))))))))))
set_option maxRecDepth 100000 in
set_option maxHeartbeats 4000000 in
theorem kc_Re_defaultLine (base : Nat) (sa : Nat → Nat) {R : pmM} {s : cS} {kc ks : Nat} {Rt : pmR} {p0 : Nat} {Q : (Int32 → cS → Nat → Nat → Prop)} (hw : cW sa R base s) (h : C_Re_defaultLine sa p0 s kc ks Q) (k : ∀ r s' kc' ks', cW sa R base s' → Q r s' kc' ks' → Rt (some (.int r)) (cM R s') kc' ks') : kP_Re_defaultLine base sa [.ref p0] (cM R s) kc ks Rt := by
  refine ⟨Nat.le_of_ble_eq_true rfl, fun G hG => ?_⟩
  have b71 : ∀ (a2 : Int32) (a3 : Option Nat) (u0 : Int32) (s : cS) (kc ks : Nat), KK sa R base G 71 [(2, .int a2), (3, va_rf a3)] [.int u0] s kc ks (C_Re_defaultLine_b71 sa a2 a3 u0 s kc ks Q) := by
    intro a2 a3 u0 s kc ks
    refine kk_st hG (L' := [(4, .int u0), (2, .int a2), (3, va_rf a3)]) rfl rfl (Nat.le_of_ble_eq_true rfl) (by cases a3 <;> rfl) ?_
    refine kks hG rfl rfl ?_
    refine kk_ic hG rfl cc_im1 ?_
    refine kk_ine hG (t := 81) rfl rfl ?_ ?_
    · refine kk_aln hG (x := a3) rfl rfl ?_
      refine kks hG rfl rfl ?_
      refine kk_ob (fun b1 eb1 => ?_)
      subst eb1
      refine kk_pi hG (c := 4) (k := 13) (a := b1) rfl rfl rfl rfl (fun s2 => ?_)
      refine kk_aln hG (x := (some b1)) rfl rfl ?_
      refine kks hG rfl rfl ?_
      refine kk_pz hG (c := 4) (k := 14) (a := b1) rfl rfl rfl rfl (fun s3 => ?_)
      refine kk_ic hG rfl cc_i0 ?_
      exact kk_ri hG rfl rfl rfl k
    refine kk_ic hG rfl cc_i4 ?_
    exact kk_ri hG rfl rfl rfl k
  have b44 : ∀ (a1 : Int32) (a2 : Int32) (s : cS) (kc ks : Nat), KK sa R base G 44 [(0, va_rf (some p0)), (1, .int a1), (2, .int a2)] [] s kc ks (C_Re_defaultLine_b44 sa p0 a1 a2 s kc ks Q) := by
    intro a1 a2 s kc ks
    refine kk_aln hG (x := (some p0)) rfl rfl ?_
    refine kk_cx (w := va_rf) hG 0 rfl rfl (Nat.le_of_ble_eq_true rfl) (by decide) rfl (st' := []) rfl (cats_le (Nat.le_of_ble_eq_true rfl)) (fun _ hw h k => kk_rcv h.1 (kc_Re_portNamed base sa hw h.2 k)) (fun r1 sr1 cr1 dr1 => ?_)
    refine kk_asn hG (x := r1) (L' := [(3, va_rf r1), (0, va_rf (some p0)), (1, .int a1), (2, .int a2)]) rfl (Nat.le_of_ble_eq_true rfl) rfl ?_
    refine kk_aln hG (x := r1) rfl rfl ?_
    refine kk_nnl hG (x := r1) (t := 55) rfl rfl ?_ ?_
    · refine kks hG rfl rfl ?_
      refine kk_zeq hG (t := 63) rfl rfl ?_ ?_
      · refine kk_aln hG (x := (some p0)) rfl rfl ?_
        refine kk_ic hG rfl cc_i3 ?_
        refine kk_ic hG rfl cc_i1 ?_
        refine kk_bi hG rfl cc_b15 ?_
        refine kk_cx (w := .int) hG 0 rfl rfl (Nat.le_of_ble_eq_true rfl) (by decide) rfl (st' := []) rfl (cats_le (Nat.le_of_ble_eq_true rfl)) (fun _ hw h k => kk_rcv h.1 (kc_Re_number base sa hw h.2 k)) (fun r2 sr2 cr2 dr2 => ?_)
        exact kk_wl hG [3, 0] rfl (b71 _ _ _ _ _ _)
      refine kk_ic hG rfl cc_i0 ?_
      refine kk_go hG (t := 71) rfl rfl ?_
      exact kk_wl hG [3, 0] rfl (b71 _ _ _ _ _ _)
    refine kk_ic hG rfl cc_i3 ?_
    exact kk_ri hG rfl rfl rfl k
  refine (show KK sa R base G 0 [(0, va_rf (some p0))] [] s kc ks (C_Re_defaultLine sa p0 s kc ks Q) from ?_) hw h
  refine kk_aln hG (x := (some p0)) rfl rfl ?_
  refine kk_ic hG rfl cc_i3 ?_
  refine kk_lws hG (a := sa 12) rfl rfl ?_
  refine kk_cx (w := .int) hG 0 rfl rfl (Nat.le_of_ble_eq_true rfl) (by decide) rfl (st' := []) rfl (cats_le (Nat.le_of_ble_eq_true rfl)) (fun _ hw h k => kk_rcv h.1 (kc_Re_is base sa hw h.2 k)) (fun r1 sr1 cr1 dr1 => ?_)
  refine kk_st hG (L' := [(1, .int r1), (0, va_rf (some p0))]) rfl rfl (Nat.le_of_ble_eq_true rfl) rfl ?_
  refine kk_aln hG (x := (some p0)) rfl rfl ?_
  refine kk_ic hG rfl cc_i4 ?_
  refine kk_lws hG (a := sa 37) rfl rfl ?_
  refine kk_cx (w := .int) hG 0 rfl rfl (Nat.le_of_ble_eq_true rfl) (by decide) rfl (st' := []) rfl (cats_le (Nat.le_of_ble_eq_true rfl)) (fun _ hw h k => kk_rcv h.1 (kc_Re_is base sa hw h.2 k)) (fun r2 sr2 cr2 dr2 => ?_)
  refine kk_st hG (L' := [(2, .int r2), (1, .int r1), (0, va_rf (some p0))]) rfl rfl (Nat.le_of_ble_eq_true rfl) rfl ?_
  refine kk_aln hG (x := (some p0)) rfl rfl ?_
  refine kk_gi hG (c := 7) (k := 3) (a := p0) rfl rfl rfl rfl (fun v3 => ?_)
  refine kk_ic hG rfl cc_i4 ?_
  refine kk_ieq hG (t := 44) rfl rfl ?_ ?_
  · exact kk_wl hG [2, 1, 0] rfl (b44 _ _ _ _ _)
  refine kk_aln hG (x := (some p0)) rfl rfl ?_
  refine kk_gi hG (c := 7) (k := 3) (a := p0) rfl rfl rfl rfl (fun v4 => ?_)
  refine kk_ic hG rfl cc_i5 ?_
  refine kk_ine hG (t := 42) rfl rfl ?_ ?_
  · refine kk_ic hG rfl cc_i2 ?_
    exact kk_ri hG rfl rfl rfl k
  refine kks hG rfl rfl ?_
  refine kk_zeq hG (t := 42) rfl rfl ?_ ?_
  · refine kk_ic hG rfl cc_i2 ?_
    exact kk_ri hG rfl rfl rfl k
  refine kks hG rfl rfl ?_
  refine kk_zeq hG (t := 44) rfl rfl ?_ ?_
  · exact kk_wl hG [2, 1, 0] rfl (b44 _ _ _ _ _)
  refine kk_ic hG rfl cc_i2 ?_
  exact kk_ri hG rfl rfl rfl k
def C_Re_timersLine_s54 (sa : Nat → Nat) (p0 : Nat) (a1 : Option Nat) (a2 : Int32) (s : cS) (kc ks : Nat) (Q : (Int32 → cS → Nat → Nat → Prop)) (P54 : (Int32 → cS → Nat → Nat → Prop)) : Prop := if a2 < (3 : Int32) then (ob a1 (fun b1 => (ob (gP s 9 15 b1) (fun v2 => (okO s 7 p0 ∧ C_Re_number sa p0 ((2 : Int32) + a2) (1 : Int32) (1000 : Int32) s kc ks (fun r3 sr3 cr3 dr3 => (ob v2 (fun b4 => (ob (wEi sr3 b4 a2 r3) (fun s5 => ((P54 (a2 + (1 : Int32)) s5 cr3 dr3)))))))))))) else ((Q (0 : Int32) s kc ks))
def C_Re_timersLine_b54 (sa : Nat → Nat) (p0 : Nat) (a1 : Option Nat) (a2 : Int32) (s : cS) (kc ks : Nat) (Q : (Int32 → cS → Nat → Nat → Prop)) : Prop := ∀ P54 : (Int32 → cS → Nat → Nat → Prop), (∀ (a2 : Int32) (s : cS) (kc ks : Nat), C_Re_timersLine_s54 sa p0 a1 a2 s kc ks Q P54 → P54 a2 s kc ks) → P54 a2 s kc ks
def C_Re_timersLine_s24 (sa : Nat → Nat) (p0 : Nat) (a1 : Option Nat) (a2 : Int32) (s : cS) (kc ks : Nat) (Q : (Int32 → cS → Nat → Nat → Prop)) (P24 : (Int32 → cS → Nat → Nat → Prop)) : Prop := if a2 < (3 : Int32) then (okO s 7 p0 ∧ C_Re_number sa p0 ((2 : Int32) + a2) (1 : Int32) (1000 : Int32) s kc ks (fun r1 sr1 cr1 dr1 => (if r1 = ((-1) : Int32) then ((Q (4 : Int32) sr1 cr1 dr1)) else ((P24 (a2 + (1 : Int32)) sr1 cr1 dr1))))) else (((C_Re_timersLine_b54 sa p0 a1 (0 : Int32) s kc ks Q)))
def C_Re_timersLine_b24 (sa : Nat → Nat) (p0 : Nat) (a1 : Option Nat) (a2 : Int32) (s : cS) (kc ks : Nat) (Q : (Int32 → cS → Nat → Nat → Prop)) : Prop := ∀ P24 : (Int32 → cS → Nat → Nat → Prop), (∀ (a2 : Int32) (s : cS) (kc ks : Nat), C_Re_timersLine_s24 sa p0 a1 a2 s kc ks Q P24 → P24 a2 s kc ks) → P24 a2 s kc ks
def C_Re_timersLine (sa : Nat → Nat) (p0 : Nat) (s : cS) (kc ks : Nat) (Q : (Int32 → cS → Nat → Nat → Prop)) : Prop := ob (gI s 7 3 p0) (fun v1 => (if v1 = (5 : Int32) then (okO s 7 p0 ∧ C_Re_routerNamed sa p0 (1 : Int32) s kc ks (fun r2 sr2 cr2 dr2 => (if r2 = none then (Q (3 : Int32) sr2 cr2 dr2) else ((C_Re_timersLine_b24 sa p0 r2 (0 : Int32) sr2 cr2 dr2 Q))))) else (Q (2 : Int32) s kc ks)))
set_option maxRecDepth 100000 in
set_option maxHeartbeats 4000000 in
theorem kc_Re_timersLine (base : Nat) (sa : Nat → Nat) {R : pmM} {s : cS} {kc ks : Nat} {Rt : pmR} {p0 : Nat} {Q : (Int32 → cS → Nat → Nat → Prop)} (hw : cW sa R base s) (h : C_Re_timersLine sa p0 s kc ks Q) (k : ∀ r s' kc' ks', cW sa R base s' → Q r s' kc' ks' → Rt (some (.int r)) (cM R s') kc' ks') : kP_Re_timersLine base sa [.ref p0] (cM R s) kc ks Rt := by
  refine ⟨Nat.le_of_ble_eq_true rfl, fun G hG => ?_⟩
  have b54 : ∀ (a1 : Option Nat) (a2 : Int32) (s : cS) (kc ks : Nat), KK sa R base G 54 [(0, va_rf (some p0)), (1, va_rf a1), (2, .int a2)] [] s kc ks (C_Re_timersLine_b54 sa p0 a1 a2 s kc ks Q) := by
    intro a1
    have H : ∀ (P54 : (Int32 → cS → Nat → Nat → Prop)) (hP54 : ∀ (a2 : Int32) (s : cS) (kc ks : Nat), P54 a2 s kc ks → cW sa R base s → G 54 [(0, va_rf (some p0)), (1, va_rf a1), (2, .int a2)] [] (cM R s) kc ks) (a2 : Int32) (s : cS) (kc ks : Nat), KK sa R base G 54 [(0, va_rf (some p0)), (1, va_rf a1), (2, .int a2)] [] s kc ks (C_Re_timersLine_s54 sa p0 a1 a2 s kc ks Q P54) := by
      intro P54 hP54
      intro a2 s kc ks
      refine kks hG rfl rfl ?_
      refine kk_ic hG rfl cc_i3 ?_
      refine kk_ige hG (t := 82) rfl rfl ?_ ?_
      · refine kk_ic hG rfl cc_i0 ?_
        exact kk_ri hG rfl rfl rfl k
      refine kk_aln hG (x := a1) rfl rfl ?_
      refine kk_ob (fun b1 eb1 => ?_)
      subst eb1
      refine kk_gp hG (c := 9) (k := 15) (a := b1) rfl rfl rfl rfl (fun v2 => ?_)
      refine kks hG rfl rfl ?_
      refine kk_aln hG (x := (some p0)) rfl rfl ?_
      refine kk_ic hG rfl cc_i2 ?_
      refine kks hG rfl rfl ?_
      refine kks hG rfl rfl ?_
      refine kk_ic hG rfl cc_i1 ?_
      refine kk_si hG rfl cc_s1000 ?_
      refine kk_cx (w := .int) hG 0 rfl rfl (Nat.le_of_ble_eq_true rfl) (by decide) rfl (st' := [.int a2, va_rf v2]) rfl (cats_le (Nat.le_of_ble_eq_true rfl)) (fun _ hw h k => kk_rcv h.1 (kc_Re_number base sa hw h.2 k)) (fun r3 sr3 cr3 dr3 => ?_)
      refine kk_ob (fun b4 eb4 => ?_)
      subst eb4
      refine kk_is hG (a := b4) rfl (fun s5 => ?_)
      refine kk_inc hG (L' := [(2, .int (a2 + (1 : Int32))), (0, va_rf (some p0)), (1, va_rf (some b1))]) rfl (Nat.le_of_ble_eq_true rfl) rfl cc_i1 rfl ?_
      refine kk_go hG (t := 54) rfl rfl ?_
      exact kk_wl hG [1, 2, 0] rfl (fun hw h => hP54 _ _ _ _ h hw)
    exact fun a2 s kc ks hw h => h (fun a2 s kc ks => cW sa R base s → G 54 [(0, va_rf (some p0)), (1, va_rf a1), (2, .int a2)] [] (cM R s) kc ks) (fun a2 s kc ks hs hw => H _ (fun _ _ _ _ hp hw => hp hw) a2 s kc ks hw hs) hw
  have b24 : ∀ (a1 : Option Nat) (a2 : Int32) (s : cS) (kc ks : Nat), KK sa R base G 24 [(0, va_rf (some p0)), (1, va_rf a1), (2, .int a2)] [] s kc ks (C_Re_timersLine_b24 sa p0 a1 a2 s kc ks Q) := by
    intro a1
    have H : ∀ (P24 : (Int32 → cS → Nat → Nat → Prop)) (hP24 : ∀ (a2 : Int32) (s : cS) (kc ks : Nat), P24 a2 s kc ks → cW sa R base s → G 24 [(0, va_rf (some p0)), (1, va_rf a1), (2, .int a2)] [] (cM R s) kc ks) (a2 : Int32) (s : cS) (kc ks : Nat), KK sa R base G 24 [(0, va_rf (some p0)), (1, va_rf a1), (2, .int a2)] [] s kc ks (C_Re_timersLine_s24 sa p0 a1 a2 s kc ks Q P24) := by
      intro P24 hP24
      intro a2 s kc ks
      refine kks hG rfl rfl ?_
      refine kk_ic hG rfl cc_i3 ?_
      refine kk_ige hG (t := 52) rfl rfl ?_ ?_
      · refine kk_ic hG rfl cc_i0 ?_
        refine kk_st hG (L' := [(2, .int (0 : Int32)), (0, va_rf (some p0)), (1, va_rf a1)]) rfl rfl (Nat.le_of_ble_eq_true rfl) (by cases a1 <;> rfl) ?_
        exact kk_wl hG [1, 2, 0] rfl (b54 _ _ _ _ _)
      refine kk_aln hG (x := (some p0)) rfl rfl ?_
      refine kk_ic hG rfl cc_i2 ?_
      refine kks hG rfl rfl ?_
      refine kks hG rfl rfl ?_
      refine kk_ic hG rfl cc_i1 ?_
      refine kk_si hG rfl cc_s1000 ?_
      refine kk_cx (w := .int) hG 0 rfl rfl (Nat.le_of_ble_eq_true rfl) (by decide) rfl (st' := []) rfl (cats_le (Nat.le_of_ble_eq_true rfl)) (fun _ hw h k => kk_rcv h.1 (kc_Re_number base sa hw h.2 k)) (fun r1 sr1 cr1 dr1 => ?_)
      refine kk_ic hG rfl cc_im1 ?_
      refine kk_ine hG (t := 46) rfl rfl ?_ ?_
      · refine kk_inc hG (L' := [(2, .int (a2 + (1 : Int32))), (0, va_rf (some p0)), (1, va_rf a1)]) rfl (Nat.le_of_ble_eq_true rfl) rfl cc_i1 (by cases a1 <;> rfl) ?_
        refine kk_go hG (t := 24) rfl rfl ?_
        exact kk_wl hG [1, 2, 0] rfl (fun hw h => hP24 _ _ _ _ h hw)
      refine kk_ic hG rfl cc_i4 ?_
      exact kk_ri hG rfl rfl rfl k
    exact fun a2 s kc ks hw h => h (fun a2 s kc ks => cW sa R base s → G 24 [(0, va_rf (some p0)), (1, va_rf a1), (2, .int a2)] [] (cM R s) kc ks) (fun a2 s kc ks hs hw => H _ (fun _ _ _ _ hp hw => hp hw) a2 s kc ks hw hs) hw
  refine (show KK sa R base G 0 [(0, va_rf (some p0))] [] s kc ks (C_Re_timersLine sa p0 s kc ks Q) from ?_) hw h
  refine kk_aln hG (x := (some p0)) rfl rfl ?_
  refine kk_gi hG (c := 7) (k := 3) (a := p0) rfl rfl rfl rfl (fun v1 => ?_)
  refine kk_ic hG rfl cc_i5 ?_
  refine kk_ieq hG (t := 10) rfl rfl ?_ ?_
  · refine kk_aln hG (x := (some p0)) rfl rfl ?_
    refine kk_ic hG rfl cc_i1 ?_
    refine kk_cx (w := va_rf) hG 0 rfl rfl (Nat.le_of_ble_eq_true rfl) (by decide) rfl (st' := []) rfl (cats_le (Nat.le_of_ble_eq_true rfl)) (fun _ hw h k => kk_rcv h.1 (kc_Re_routerNamed base sa hw h.2 k)) (fun r2 sr2 cr2 dr2 => ?_)
    refine kk_asn hG (x := r2) (L' := [(1, va_rf r2), (0, va_rf (some p0))]) rfl (Nat.le_of_ble_eq_true rfl) rfl ?_
    refine kk_aln hG (x := r2) rfl rfl ?_
    refine kk_nnl hG (x := r2) (t := 22) rfl rfl ?_ ?_
    · refine kk_ic hG rfl cc_i0 ?_
      refine kk_st hG (L' := [(2, .int (0 : Int32)), (1, va_rf r2), (0, va_rf (some p0))]) rfl rfl (Nat.le_of_ble_eq_true rfl) (by cases r2 <;> rfl) ?_
      exact kk_wl hG [2, 1, 0] rfl (b24 _ _ _ _ _)
    refine kk_ic hG rfl cc_i3 ?_
    exact kk_ri hG rfl rfl rfl k
  refine kk_ic hG rfl cc_i2 ?_
  exact kk_ri hG rfl rfl rfl k
def C_Ta_init (sa : Nat → Nat) (p0 : Nat) (s : cS) (kc ks : Nat) (Q : (cS → Nat → Nat → Prop)) : Prop := nwQ s kc ks "RoutingField$Route" (16 : Int32) (fun q1 sq1 cq1 dq1 => (ob (pP sq1 10 0 p0 (some q1)) (fun s2 => (ob (pI s2 10 1 p0 (0 : Int32)) (fun s3 => (Q s3 cq1 dq1))))))
set_option maxRecDepth 100000 in
set_option maxHeartbeats 4000000 in
theorem kc_Ta_init (base : Nat) (sa : Nat → Nat) {R : pmM} {s : cS} {kc ks : Nat} {Rt : pmR} {p0 : Nat} {Q : (cS → Nat → Nat → Prop)} (hw : cW sa R base s) (h : C_Ta_init sa p0 s kc ks Q) (k : ∀ s' kc' ks', cW sa R base s' → Q s' kc' ks' → Rt none (cM R s') kc' ks') : kP_Ta_init base sa [.ref p0] (cM R s) kc ks Rt := by
  refine ⟨Nat.le_of_ble_eq_true rfl, fun G hG => ?_⟩
  refine (show KK sa R base G 0 [(0, va_rf (some p0))] [] s kc ks (C_Ta_init sa p0 s kc ks Q) from ?_) hw h
  refine kk_aln hG (x := (some p0)) rfl rfl ?_
  refine kk_oi hG (a := p0) rfl rfl (Nat.le_of_ble_eq_true rfl) ?_
  refine kk_aln hG (x := (some p0)) rfl rfl ?_
  refine kk_bi hG rfl cc_b16 ?_
  refine kk_naq hG (C := "RoutingField$Route") rfl rfl (fun q1 sq1 cq1 dq1 => ?_)
  refine kk_pp hG (c := 10) (k := 0) (a := p0) (v := (some q1)) rfl rfl rfl rfl rfl (fun s2 => ?_)
  refine kk_aln hG (x := (some p0)) rfl rfl ?_
  refine kk_ic hG rfl cc_i0 ?_
  refine kk_pi hG (c := 10) (k := 1) (a := p0) rfl rfl rfl rfl (fun s3 => ?_)
  exact kk_rv hG rfl rfl k
def C_Rr_init (sa : Nat → Nat) (p0 : Nat) (p1 : Option Nat) (p2 : Option Nat) (p3 : Int32) (s : cS) (kc ks : Nat) (Q : (cS → Nat → Nat → Prop)) : Prop := ob (pZ s 9 3 p0 (1 : Int32)) (fun s1 => (nwQ s1 kc ks "RoutingField$Port" (4 : Int32) (fun q2 sq2 cq2 dq2 => (ob (pP sq2 9 4 p0 (some q2)) (fun s3 => (ob (pI s3 9 5 p0 (0 : Int32)) (fun s4 => (nwO s4 cq2 dq2 10 2 (fun q5 sq5 cq5 dq5 => (okO sq5 10 q5 ∧ C_Ta_init sa q5 sq5 cq5 dq5 (fun sr6 cr6 dr6 => (ob (pP sr6 9 6 p0 (some q5)) (fun s7 => (nwO s7 cr6 dr6 10 2 (fun q8 sq8 cq8 dq8 => (okO sq8 10 q8 ∧ C_Ta_init sa q8 sq8 cq8 dq8 (fun sr9 cr9 dr9 => (ob (pP sr9 9 7 p0 (some q8)) (fun s10 => (nwQ s10 cr9 dr9 "RoutingField$PrefixList" (2 : Int32) (fun q11 sq11 cq11 dq11 => (ob (pP sq11 9 8 p0 (some q11)) (fun s12 => (nwM s12 cq11 dq11 .int 8 4 (fun q13 sq13 cq13 dq13 => (ob (pP sq13 9 9 p0 (some q13)) (fun s14 => (ob (pI s14 9 10 p0 (0 : Int32)) (fun s15 => (nwM s15 cq13 dq13 .int 8 4 (fun q16 sq16 cq16 dq16 => (ob (pP sq16 9 11 p0 (some q16)) (fun s17 => (ob (pI s17 9 12 p0 (0 : Int32)) (fun s18 => (nwA s18 cq16 dq16 .int (2 : Int32) (fun q19 sq19 cq19 dq19 => (ob (wEi sq19 q19 (0 : Int32) (0 : Int32)) (fun s20 => (ob (wEi s20 q19 (1 : Int32) (0 : Int32)) (fun s21 => (ob (pP s21 9 13 p0 (some q19)) (fun s22 => (nwA s22 cq19 dq19 .int (2 : Int32) (fun q23 sq23 cq23 dq23 => (ob (wEi sq23 q23 (0 : Int32) ((-1) : Int32)) (fun s24 => (ob (wEi s24 q23 (1 : Int32) ((-1) : Int32)) (fun s25 => (ob (pP s25 9 14 p0 (some q23)) (fun s26 => (nwA s26 cq23 dq23 .int (3 : Int32) (fun q27 sq27 cq27 dq27 => (ob (wEi sq27 q27 (0 : Int32) (30 : Int32)) (fun s28 => (ob (wEi s28 q27 (1 : Int32) (180 : Int32)) (fun s29 => (ob (wEi s29 q27 (2 : Int32) (120 : Int32)) (fun s30 => (ob (pP s30 9 15 p0 (some q27)) (fun s31 => (nwA s31 cq27 dq27 .int (11 : Int32) (fun q32 sq32 cq32 dq32 => (ob (pP sq32 9 16 p0 (some q32)) (fun s33 => (ob (pI s33 9 18 p0 ((-1) : Int32)) (fun s34 => (ob (pI s34 9 19 p0 (0 : Int32)) (fun s35 => (ob (pP s35 9 0 p0 p1) (fun s36 => (ob (pP s36 9 1 p0 p2) (fun s37 => (ob (pI s37 9 2 p0 p3) (fun s38 => (ob (gP s38 9 8 p0) (fun v39 => (nwO s38 cq32 dq32 6 6 (fun q40 sq40 cq40 dq40 => (okO sq40 6 q40 ∧ C_Pl_init sa q40 (some (sa 3)) (32 : Int32) sq40 cq40 dq40 (fun sr41 cr41 dr41 => (ob v39 (fun b42 => (ob (wQ sr41 b42 (0 : Int32) (some q40)) (fun s43 => (ob (gP s43 9 8 p0) (fun v44 => (nwO s43 cr41 dr41 6 6 (fun q45 sq45 cq45 dq45 => (okO sq45 6 q45 ∧ C_Pl_init sa q45 (some (sa 3)) (32 : Int32) sq45 cq45 dq45 (fun sr46 cr46 dr46 => (ob v44 (fun b47 => (ob (wQ sr46 b47 (1 : Int32) (some q45)) (fun s48 => (ob p1 (fun b49 => (ob (gI s48 11 5 b49) (fun v50 => (ob (gP s48 9 15 p0) (fun v51 => (ob v51 (fun b52 => (ob (rE s48 .int b52 (0 : Int32)) (fun v53 => (ob (pI s48 9 17 p0 (v50 + v53)) (fun s54 => (Q s54 cr46 dr46))))))))))))))))))))))))))))))))))))))))))))))))))))))))))))))))))))))))))))))))))))))))))))))))))))))))))))
set_option maxRecDepth 100000 in
set_option maxHeartbeats 4000000 in
theorem kc_Rr_init (base : Nat) (sa : Nat → Nat) {R : pmM} {s : cS} {kc ks : Nat} {Rt : pmR} {p0 : Nat} {p1 : Option Nat} {p2 : Option Nat} {p3 : Int32} {Q : (cS → Nat → Nat → Prop)} (hw : cW sa R base s) (h : C_Rr_init sa p0 p1 p2 p3 s kc ks Q) (k : ∀ s' kc' ks', cW sa R base s' → Q s' kc' ks' → Rt none (cM R s') kc' ks') : kP_Rr_init base sa [.ref p0, va_rf p1, va_rf p2, .int p3] (cM R s) kc ks Rt := by
  refine ⟨by cases p1 <;> cases p2 <;> exact Nat.le_of_ble_eq_true rfl, fun G hG => ?_⟩
  have eL : lv_args 0 [.ref p0, va_rf p1, va_rf p2, .int p3] = [(0, va_rf (some p0)), (1, va_rf p1), (2, va_rf p2), (3, .int p3)] := by cases p1 <;> cases p2 <;> rfl
  rw [eL]
  refine (show KK sa R base G 0 [(0, va_rf (some p0)), (1, va_rf p1), (2, va_rf p2), (3, .int p3)] [] s kc ks (C_Rr_init sa p0 p1 p2 p3 s kc ks Q) from ?_) hw h
  refine kk_aln hG (x := (some p0)) rfl rfl ?_
  refine kk_oi hG (a := p0) rfl rfl (Nat.le_of_ble_eq_true rfl) ?_
  refine kk_aln hG (x := (some p0)) rfl rfl ?_
  refine kk_ic hG rfl cc_i1 ?_
  refine kk_pz hG (c := 9) (k := 3) (a := p0) rfl rfl rfl rfl (fun s1 => ?_)
  refine kk_aln hG (x := (some p0)) rfl rfl ?_
  refine kk_ic hG rfl cc_i4 ?_
  refine kk_naq hG (C := "RoutingField$Port") rfl rfl (fun q2 sq2 cq2 dq2 => ?_)
  refine kk_pp hG (c := 9) (k := 4) (a := p0) (v := (some q2)) rfl rfl rfl rfl rfl (fun s3 => ?_)
  refine kk_aln hG (x := (some p0)) rfl rfl ?_
  refine kk_ic hG rfl cc_i0 ?_
  refine kk_pi hG (c := 9) (k := 5) (a := p0) rfl rfl rfl rfl (fun s4 => ?_)
  refine kk_aln hG (x := (some p0)) rfl rfl ?_
  refine kk_new hG (c := 10) (n := 2) rfl rfl rfl rfl (fun q5 sq5 cq5 dq5 => ?_)
  refine kk_dup hG (x := (some q5)) rfl ?_
  refine kk_cv hG 1 rfl rfl (Nat.le_of_ble_eq_true rfl) (by decide) rfl (st' := [va_rf (some q5), va_rf (some p0)]) rfl (cats_le (Nat.le_of_ble_eq_true rfl)) (fun _ hw h k => kk_rcv h.1 (kc_Ta_init base sa hw h.2 k)) (fun sr6 cr6 dr6 => ?_)
  refine kk_pp hG (c := 9) (k := 6) (a := p0) (v := (some q5)) rfl rfl rfl rfl rfl (fun s7 => ?_)
  refine kk_aln hG (x := (some p0)) rfl rfl ?_
  refine kk_new hG (c := 10) (n := 2) rfl rfl rfl rfl (fun q8 sq8 cq8 dq8 => ?_)
  refine kk_dup hG (x := (some q8)) rfl ?_
  refine kk_cv hG 1 rfl rfl (Nat.le_of_ble_eq_true rfl) (by decide) rfl (st' := [va_rf (some q8), va_rf (some p0)]) rfl (cats_le (Nat.le_of_ble_eq_true rfl)) (fun _ hw h k => kk_rcv h.1 (kc_Ta_init base sa hw h.2 k)) (fun sr9 cr9 dr9 => ?_)
  refine kk_pp hG (c := 9) (k := 7) (a := p0) (v := (some q8)) rfl rfl rfl rfl rfl (fun s10 => ?_)
  refine kk_aln hG (x := (some p0)) rfl rfl ?_
  refine kk_ic hG rfl cc_i2 ?_
  refine kk_naq hG (C := "RoutingField$PrefixList") rfl rfl (fun q11 sq11 cq11 dq11 => ?_)
  refine kk_pp hG (c := 9) (k := 8) (a := p0) (v := (some q11)) rfl rfl rfl rfl rfl (fun s12 => ?_)
  refine kk_aln hG (x := (some p0)) rfl rfl ?_
  refine kk_bi hG rfl cc_b8 ?_
  refine kk_ic hG rfl cc_i4 ?_
  refine kk_mul hG (n := 8) (k := 4) (ty := .int) rfl rfl rfl rfl (Nat.le_of_ble_eq_true rfl) (fun q13 sq13 cq13 dq13 => ?_)
  refine kk_pp hG (c := 9) (k := 9) (a := p0) (v := (some q13)) rfl rfl rfl rfl rfl (fun s14 => ?_)
  refine kk_aln hG (x := (some p0)) rfl rfl ?_
  refine kk_ic hG rfl cc_i0 ?_
  refine kk_pi hG (c := 9) (k := 10) (a := p0) rfl rfl rfl rfl (fun s15 => ?_)
  refine kk_aln hG (x := (some p0)) rfl rfl ?_
  refine kk_bi hG rfl cc_b8 ?_
  refine kk_ic hG rfl cc_i4 ?_
  refine kk_mul hG (n := 8) (k := 4) (ty := .int) rfl rfl rfl rfl (Nat.le_of_ble_eq_true rfl) (fun q16 sq16 cq16 dq16 => ?_)
  refine kk_pp hG (c := 9) (k := 11) (a := p0) (v := (some q16)) rfl rfl rfl rfl rfl (fun s17 => ?_)
  refine kk_aln hG (x := (some p0)) rfl rfl ?_
  refine kk_ic hG rfl cc_i0 ?_
  refine kk_pi hG (c := 9) (k := 12) (a := p0) rfl rfl rfl rfl (fun s18 => ?_)
  refine kk_aln hG (x := (some p0)) rfl rfl ?_
  refine kk_ic hG rfl cc_i2 ?_
  refine kk_nar hG (ty := .int) rfl rfl rfl rfl (fun q19 sq19 cq19 dq19 => ?_)
  refine kk_dup hG (x := (some q19)) rfl ?_
  refine kk_ic hG rfl cc_i0 ?_
  refine kk_ic hG rfl cc_i0 ?_
  refine kk_is hG (a := q19) rfl (fun s20 => ?_)
  refine kk_dup hG (x := (some q19)) rfl ?_
  refine kk_ic hG rfl cc_i1 ?_
  refine kk_ic hG rfl cc_i0 ?_
  refine kk_is hG (a := q19) rfl (fun s21 => ?_)
  refine kk_pp hG (c := 9) (k := 13) (a := p0) (v := (some q19)) rfl rfl rfl rfl rfl (fun s22 => ?_)
  refine kk_aln hG (x := (some p0)) rfl rfl ?_
  refine kk_ic hG rfl cc_i2 ?_
  refine kk_nar hG (ty := .int) rfl rfl rfl rfl (fun q23 sq23 cq23 dq23 => ?_)
  refine kk_dup hG (x := (some q23)) rfl ?_
  refine kk_ic hG rfl cc_i0 ?_
  refine kk_ic hG rfl cc_im1 ?_
  refine kk_is hG (a := q23) rfl (fun s24 => ?_)
  refine kk_dup hG (x := (some q23)) rfl ?_
  refine kk_ic hG rfl cc_i1 ?_
  refine kk_ic hG rfl cc_im1 ?_
  refine kk_is hG (a := q23) rfl (fun s25 => ?_)
  refine kk_pp hG (c := 9) (k := 14) (a := p0) (v := (some q23)) rfl rfl rfl rfl rfl (fun s26 => ?_)
  refine kk_aln hG (x := (some p0)) rfl rfl ?_
  refine kk_ic hG rfl cc_i3 ?_
  refine kk_nar hG (ty := .int) rfl rfl rfl rfl (fun q27 sq27 cq27 dq27 => ?_)
  refine kk_dup hG (x := (some q27)) rfl ?_
  refine kk_ic hG rfl cc_i0 ?_
  refine kk_bi hG rfl cc_b30 ?_
  refine kk_is hG (a := q27) rfl (fun s28 => ?_)
  refine kk_dup hG (x := (some q27)) rfl ?_
  refine kk_ic hG rfl cc_i1 ?_
  refine kk_si hG rfl cc_s180 ?_
  refine kk_is hG (a := q27) rfl (fun s29 => ?_)
  refine kk_dup hG (x := (some q27)) rfl ?_
  refine kk_ic hG rfl cc_i2 ?_
  refine kk_bi hG rfl cc_b120 ?_
  refine kk_is hG (a := q27) rfl (fun s30 => ?_)
  refine kk_pp hG (c := 9) (k := 15) (a := p0) (v := (some q27)) rfl rfl rfl rfl rfl (fun s31 => ?_)
  refine kk_aln hG (x := (some p0)) rfl rfl ?_
  refine kk_bi hG rfl cc_b11 ?_
  refine kk_nar hG (ty := .int) rfl rfl rfl rfl (fun q32 sq32 cq32 dq32 => ?_)
  refine kk_pp hG (c := 9) (k := 16) (a := p0) (v := (some q32)) rfl rfl rfl rfl rfl (fun s33 => ?_)
  refine kk_aln hG (x := (some p0)) rfl rfl ?_
  refine kk_ic hG rfl cc_im1 ?_
  refine kk_pi hG (c := 9) (k := 18) (a := p0) rfl rfl rfl rfl (fun s34 => ?_)
  refine kk_aln hG (x := (some p0)) rfl rfl ?_
  refine kk_ic hG rfl cc_i0 ?_
  refine kk_pi hG (c := 9) (k := 19) (a := p0) rfl rfl rfl rfl (fun s35 => ?_)
  refine kk_aln hG (x := (some p0)) rfl rfl ?_
  refine kk_aln hG (x := p1) rfl rfl ?_
  refine kk_pp hG (c := 9) (k := 0) (a := p0) (v := p1) rfl rfl rfl rfl rfl (fun s36 => ?_)
  refine kk_aln hG (x := (some p0)) rfl rfl ?_
  refine kk_aln hG (x := p2) rfl rfl ?_
  refine kk_pp hG (c := 9) (k := 1) (a := p0) (v := p2) rfl rfl rfl rfl rfl (fun s37 => ?_)
  refine kk_aln hG (x := (some p0)) rfl rfl ?_
  refine kks hG rfl rfl ?_
  refine kk_pi hG (c := 9) (k := 2) (a := p0) rfl rfl rfl rfl (fun s38 => ?_)
  refine kk_aln hG (x := (some p0)) rfl rfl ?_
  refine kk_gp hG (c := 9) (k := 8) (a := p0) rfl rfl rfl rfl (fun v39 => ?_)
  refine kk_ic hG rfl cc_i0 ?_
  refine kk_new hG (c := 6) (n := 6) rfl rfl rfl rfl (fun q40 sq40 cq40 dq40 => ?_)
  refine kk_dup hG (x := (some q40)) rfl ?_
  refine kk_lds hG (a := sa 3) rfl rfl ?_
  refine kk_bi hG rfl cc_b32 ?_
  refine kk_cv hG 1 rfl rfl (Nat.le_of_ble_eq_true rfl) (by decide) rfl (st' := [va_rf (some q40), .int (0 : Int32), va_rf v39]) rfl (cats_le (Nat.le_of_ble_eq_true rfl)) (fun _ hw h k => kk_rcv h.1 (kc_Pl_init base sa hw h.2 k)) (fun sr41 cr41 dr41 => ?_)
  refine kk_ob (fun b42 eb42 => ?_)
  subst eb42
  refine kk_aas hG (a := b42) (x := (some q40)) rfl (fun s43 => ?_)
  refine kk_aln hG (x := (some p0)) rfl rfl ?_
  refine kk_gp hG (c := 9) (k := 8) (a := p0) rfl rfl rfl rfl (fun v44 => ?_)
  refine kk_ic hG rfl cc_i1 ?_
  refine kk_new hG (c := 6) (n := 6) rfl rfl rfl rfl (fun q45 sq45 cq45 dq45 => ?_)
  refine kk_dup hG (x := (some q45)) rfl ?_
  refine kk_lds hG (a := sa 3) rfl rfl ?_
  refine kk_bi hG rfl cc_b32 ?_
  refine kk_cv hG 1 rfl rfl (Nat.le_of_ble_eq_true rfl) (by decide) rfl (st' := [va_rf (some q45), .int (1 : Int32), va_rf v44]) rfl (cats_le (Nat.le_of_ble_eq_true rfl)) (fun _ hw h k => kk_rcv h.1 (kc_Pl_init base sa hw h.2 k)) (fun sr46 cr46 dr46 => ?_)
  refine kk_ob (fun b47 eb47 => ?_)
  subst eb47
  refine kk_aas hG (a := b47) (x := (some q45)) rfl (fun s48 => ?_)
  refine kk_aln hG (x := (some p0)) rfl rfl ?_
  refine kk_aln hG (x := p1) rfl rfl ?_
  refine kk_ob (fun b49 eb49 => ?_)
  subst eb49
  refine kk_gi hG (c := 11) (k := 5) (a := b49) rfl rfl rfl rfl (fun v50 => ?_)
  refine kk_aln hG (x := (some p0)) rfl rfl ?_
  refine kk_gp hG (c := 9) (k := 15) (a := p0) rfl rfl rfl rfl (fun v51 => ?_)
  refine kk_ic hG rfl cc_i0 ?_
  refine kk_ob (fun b52 eb52 => ?_)
  subst eb52
  refine kk_ia hG (a := b52) rfl (fun v53 => ?_)
  refine kks hG rfl rfl ?_
  refine kk_pi hG (c := 9) (k := 17) (a := p0) rfl rfl rfl rfl (fun s54 => ?_)
  exact kk_rv hG rfl rfl k
