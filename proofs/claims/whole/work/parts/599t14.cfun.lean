/-! Methods as weakest preconditions, by program: Re_redistributeLine .. Rf_fault -/
def C_Re_redistributeLine_b147 (sa : Nat → Nat) (a1 : Option Nat) (a2 : Int32) (a3 : Int32) (u0 : Int32) (s : cS) (kc ks : Nat) (Q : (Int32 → cS → Nat → Nat → Prop)) : Prop := ob a1 (fun b1 => (ob (gP s 9 13 b1) (fun v2 => (ob v2 (fun b3 => (ob (wEi s b3 u0 a2) (fun s4 => (ob (gP s4 9 14 b1) (fun v5 => (ob v5 (fun b6 => (ob (wEi s4 b6 u0 a3) (fun s7 => (Q (0 : Int32) s7 kc ks))))))))))))))
def C_Re_redistributeLine_b131 (sa : Nat → Nat) (p0 : Nat) (a1 : Option Nat) (a2 : Int32) (a3 : Int32) (s : cS) (kc ks : Nat) (Q : (Int32 → cS → Nat → Nat → Prop)) : Prop := okO s 7 p0 ∧ C_Re_is sa p0 (2 : Int32) (some (sa 34)) s kc ks (fun r1 sr1 cr1 dr1 => (if r1 = 0 then ((C_Re_redistributeLine_b147 sa a1 a2 a3 (1 : Int32) sr1 cr1 dr1 Q)) else ((C_Re_redistributeLine_b147 sa a1 a2 a3 (0 : Int32) sr1 cr1 dr1 Q))))
def C_Re_redistributeLine_b130 (sa : Nat → Nat) (p0 : Nat) (a1 : Option Nat) (a3 : Int32) (u0 : Int32) (s : cS) (kc ks : Nat) (Q : (Int32 → cS → Nat → Nat → Prop)) : Prop := (C_Re_redistributeLine_b131 sa p0 a1 u0 a3 s kc ks Q)
def C_Re_redistributeLine_b109 (sa : Nat → Nat) (p0 : Nat) (a1 : Option Nat) (a2 : Int32) (a3 : Int32) (s : cS) (kc ks : Nat) (Q : (Int32 → cS → Nat → Nat → Prop)) : Prop := if a2 = ((-1) : Int32) then (okO s 7 p0 ∧ C_Re_is sa p0 (3 : Int32) (some (sa 35)) s kc ks (fun r1 sr1 cr1 dr1 => (if r1 = 0 then ((C_Re_redistributeLine_b130 sa p0 a1 a3 ((-1) : Int32) sr1 cr1 dr1 Q)) else ((C_Re_redistributeLine_b130 sa p0 a1 a3 (0 : Int32) sr1 cr1 dr1 Q))))) else ((C_Re_redistributeLine_b131 sa p0 a1 a2 a3 s kc ks Q))
def C_Re_redistributeLine_b95 (sa : Nat → Nat) (p0 : Nat) (a1 : Option Nat) (a2 : Int32) (a3 : Int32) (s : cS) (kc ks : Nat) (Q : (Int32 → cS → Nat → Nat → Prop)) : Prop := ob (gI s 7 4 p0) (fun v1 => (if 0 < v1 then (if a3 = ((-1) : Int32) then (Q (4 : Int32) s kc ks) else ((C_Re_redistributeLine_b109 sa p0 a1 a2 a3 s kc ks Q))) else ((C_Re_redistributeLine_b109 sa p0 a1 a2 a3 s kc ks Q))))
def C_Re_redistributeLine_b75 (sa : Nat → Nat) (p0 : Nat) (a1 : Option Nat) (a2 : Int32) (u0 : Int32) (s : cS) (kc ks : Nat) (Q : (Int32 → cS → Nat → Nat → Prop)) : Prop := if a2 = ((-1) : Int32) then (okO s 7 p0 ∧ C_Re_isEither sa p0 (3 : Int32) (some (sa 35)) (some (sa 12)) s kc ks (fun r1 sr1 cr1 dr1 => (if r1 = 0 then (Q (4 : Int32) sr1 cr1 dr1) else ((C_Re_redistributeLine_b95 sa p0 a1 a2 u0 sr1 cr1 dr1 Q))))) else ((C_Re_redistributeLine_b95 sa p0 a1 a2 u0 s kc ks Q))
def C_Re_redistributeLine (sa : Nat → Nat) (p0 : Nat) (s : cS) (kc ks : Nat) (Q : (Int32 → cS → Nat → Nat → Prop)) : Prop := ob (gI s 7 3 p0) (fun v1 => (if v1 < (4 : Int32) then (Q (2 : Int32) s kc ks) else (okO s 7 p0 ∧ C_Re_hasTagOption sa p0 (4 : Int32) s kc ks (fun r2 sr2 cr2 dr2 => (if r2 = 0 then (Q (2 : Int32) sr2 cr2 dr2) else (okO sr2 7 p0 ∧ C_Re_isEither sa p0 (2 : Int32) (some (sa 34)) (some (sa 17)) sr2 cr2 dr2 (fun r3 sr3 cr3 dr3 => (if r3 = 0 then (Q (2 : Int32) sr3 cr3 dr3) else (okO sr3 7 p0 ∧ C_Re_routerNamed sa p0 (1 : Int32) sr3 cr3 dr3 (fun r4 sr4 cr4 dr4 => (if r4 = none then (Q (3 : Int32) sr4 cr4 dr4) else (okO sr4 7 p0 ∧ C_Re_number sa p0 (3 : Int32) (1 : Int32) (15 : Int32) sr4 cr4 dr4 (fun r5 sr5 cr5 dr5 => (ob (gI sr5 7 4 p0) (fun v6 => (if v6 = 0 then ((C_Re_redistributeLine_b75 sa p0 r4 r5 ((-1) : Int32) sr5 cr5 dr5 Q)) else (ob (gI sr5 7 4 p0) (fun v7 => (okO sr5 7 p0 ∧ C_Re_number sa p0 v7 (0 : Int32) (65535 : Int32) sr5 cr5 dr5 (fun r8 sr8 cr8 dr8 => ((C_Re_redistributeLine_b75 sa p0 r4 r5 r8 sr8 cr8 dr8 Q))))))))))))))))))))))
set_option maxRecDepth 100000 in
set_option maxHeartbeats 4000000 in
theorem kc_Re_redistributeLine (base : Nat) (sa : Nat → Nat) {R : pmM} {s : cS} {kc ks : Nat} {Rt : pmR} {p0 : Nat} {Q : (Int32 → cS → Nat → Nat → Prop)} (hw : cW sa R base s) (h : C_Re_redistributeLine sa p0 s kc ks Q) (k : ∀ r s' kc' ks', cW sa R base s' → Q r s' kc' ks' → Rt (some (.int r)) (cM R s') kc' ks') : kP_Re_redistributeLine base sa [.ref p0] (cM R s) kc ks Rt := by
  refine ⟨Nat.le_of_ble_eq_true rfl, fun G hG => ?_⟩
  have b147 : ∀ (a1 : Option Nat) (a2 : Int32) (a3 : Int32) (u0 : Int32) (s : cS) (kc ks : Nat), KK sa R base G 147 [(1, va_rf a1), (2, .int a2), (3, .int a3)] [.int u0] s kc ks (C_Re_redistributeLine_b147 sa a1 a2 a3 u0 s kc ks Q) := by
    intro a1 a2 a3 u0 s kc ks
    refine kk_st hG (L' := [(4, .int u0), (1, va_rf a1), (2, .int a2), (3, .int a3)]) rfl rfl (Nat.le_of_ble_eq_true rfl) rfl ?_
    refine kk_aln hG (x := a1) rfl rfl ?_
    refine kk_ob (fun b1 eb1 => ?_)
    subst eb1
    refine kk_gp hG (c := 9) (k := 13) (a := b1) rfl rfl rfl rfl (fun v2 => ?_)
    refine kks hG rfl rfl ?_
    refine kks hG rfl rfl ?_
    refine kk_ob (fun b3 eb3 => ?_)
    subst eb3
    refine kk_is hG (a := b3) rfl (fun s4 => ?_)
    refine kk_aln hG (x := (some b1)) rfl rfl ?_
    refine kk_gp hG (c := 9) (k := 14) (a := b1) rfl rfl rfl rfl (fun v5 => ?_)
    refine kks hG rfl rfl ?_
    refine kks hG rfl rfl ?_
    refine kk_ob (fun b6 eb6 => ?_)
    subst eb6
    refine kk_is hG (a := b6) rfl (fun s7 => ?_)
    refine kk_ic hG rfl cc_i0 ?_
    exact kk_ri hG rfl rfl rfl k
  have b131 : ∀ (a1 : Option Nat) (a2 : Int32) (a3 : Int32) (s : cS) (kc ks : Nat), KK sa R base G 131 [(0, va_rf (some p0)), (1, va_rf a1), (2, .int a2), (3, .int a3)] [] s kc ks (C_Re_redistributeLine_b131 sa p0 a1 a2 a3 s kc ks Q) := by
    intro a1 a2 a3 s kc ks
    refine kk_aln hG (x := (some p0)) rfl rfl ?_
    refine kk_ic hG rfl cc_i2 ?_
    refine kk_lws hG (a := sa 34) rfl rfl ?_
    refine kk_cx (w := .int) hG 0 rfl rfl (Nat.le_of_ble_eq_true rfl) (by decide) rfl (st' := []) rfl (cats_le (Nat.le_of_ble_eq_true rfl)) (fun _ hw h k => kk_rcv h.1 (kc_Re_is base sa hw h.2 k)) (fun r1 sr1 cr1 dr1 => ?_)
    refine kk_zeq hG (t := 146) rfl rfl ?_ ?_
    · refine kk_ic hG rfl cc_i1 ?_
      exact kk_wl hG [1, 2, 3] rfl (b147 _ _ _ _ _ _ _)
    refine kk_ic hG rfl cc_i0 ?_
    refine kk_go hG (t := 147) rfl rfl ?_
    exact kk_wl hG [1, 2, 3] rfl (b147 _ _ _ _ _ _ _)
  have b130 : ∀ (a1 : Option Nat) (a3 : Int32) (u0 : Int32) (s : cS) (kc ks : Nat), KK sa R base G 130 [(0, va_rf (some p0)), (1, va_rf a1), (3, .int a3)] [.int u0] s kc ks (C_Re_redistributeLine_b130 sa p0 a1 a3 u0 s kc ks Q) := by
    intro a1 a3 u0 s kc ks
    refine kk_st hG (L' := [(2, .int u0), (0, va_rf (some p0)), (1, va_rf a1), (3, .int a3)]) rfl rfl (Nat.le_of_ble_eq_true rfl) (by cases a1 <;> rfl) ?_
    exact kk_wl hG [1, 2, 0, 3] rfl (b131 _ _ _ _ _ _)
  have b109 : ∀ (a1 : Option Nat) (a2 : Int32) (a3 : Int32) (s : cS) (kc ks : Nat), KK sa R base G 109 [(0, va_rf (some p0)), (1, va_rf a1), (2, .int a2), (3, .int a3)] [] s kc ks (C_Re_redistributeLine_b109 sa p0 a1 a2 a3 s kc ks Q) := by
    intro a1 a2 a3 s kc ks
    refine kks hG rfl rfl ?_
    refine kk_ic hG rfl cc_im1 ?_
    refine kk_ine hG (t := 131) rfl rfl ?_ ?_
    · exact kk_wl hG [0, 1, 2, 3] rfl (b131 _ _ _ _ _ _)
    refine kk_aln hG (x := (some p0)) rfl rfl ?_
    refine kk_ic hG rfl cc_i3 ?_
    refine kk_lws hG (a := sa 35) rfl rfl ?_
    refine kk_cx (w := .int) hG 0 rfl rfl (Nat.le_of_ble_eq_true rfl) (by decide) rfl (st' := []) rfl (cats_le (Nat.le_of_ble_eq_true rfl)) (fun _ hw h k => kk_rcv h.1 (kc_Re_is base sa hw h.2 k)) (fun r1 sr1 cr1 dr1 => ?_)
    refine kk_zeq hG (t := 129) rfl rfl ?_ ?_
    · refine kk_ic hG rfl cc_im1 ?_
      exact kk_wl hG [0, 1, 3] rfl (b130 _ _ _ _ _ _)
    refine kk_ic hG rfl cc_i0 ?_
    refine kk_go hG (t := 130) rfl rfl ?_
    exact kk_wl hG [0, 1, 3] rfl (b130 _ _ _ _ _ _)
  have b95 : ∀ (a1 : Option Nat) (a2 : Int32) (a3 : Int32) (s : cS) (kc ks : Nat), KK sa R base G 95 [(0, va_rf (some p0)), (1, va_rf a1), (2, .int a2), (3, .int a3)] [] s kc ks (C_Re_redistributeLine_b95 sa p0 a1 a2 a3 s kc ks Q) := by
    intro a1 a2 a3 s kc ks
    refine kk_aln hG (x := (some p0)) rfl rfl ?_
    refine kk_gi hG (c := 7) (k := 4) (a := p0) rfl rfl rfl rfl (fun v1 => ?_)
    refine kk_zle hG (t := 109) rfl rfl ?_ ?_
    · exact kk_wl hG [0, 1, 2, 3] rfl (b109 _ _ _ _ _ _)
    refine kks hG rfl rfl ?_
    refine kk_ic hG rfl cc_im1 ?_
    refine kk_ine hG (t := 109) rfl rfl ?_ ?_
    · exact kk_wl hG [0, 1, 2, 3] rfl (b109 _ _ _ _ _ _)
    refine kk_ic hG rfl cc_i4 ?_
    exact kk_ri hG rfl rfl rfl k
  have b75 : ∀ (a1 : Option Nat) (a2 : Int32) (u0 : Int32) (s : cS) (kc ks : Nat), KK sa R base G 75 [(0, va_rf (some p0)), (1, va_rf a1), (2, .int a2)] [.int u0] s kc ks (C_Re_redistributeLine_b75 sa p0 a1 a2 u0 s kc ks Q) := by
    intro a1 a2 u0 s kc ks
    refine kk_st hG (L' := [(3, .int u0), (0, va_rf (some p0)), (1, va_rf a1), (2, .int a2)]) rfl rfl (Nat.le_of_ble_eq_true rfl) rfl ?_
    refine kks hG rfl rfl ?_
    refine kk_ic hG rfl cc_im1 ?_
    refine kk_ine hG (t := 95) rfl rfl ?_ ?_
    · exact kk_wl hG [1, 2, 3, 0] rfl (b95 _ _ _ _ _ _)
    refine kk_aln hG (x := (some p0)) rfl rfl ?_
    refine kk_ic hG rfl cc_i3 ?_
    refine kk_lws hG (a := sa 35) rfl rfl ?_
    refine kk_lws hG (a := sa 12) rfl rfl ?_
    refine kk_cx (w := .int) hG 0 rfl rfl (Nat.le_of_ble_eq_true rfl) (by decide) rfl (st' := []) rfl (cats_le (Nat.le_of_ble_eq_true rfl)) (fun _ hw h k => kk_rcv h.1 (kc_Re_isEither base sa hw h.2 k)) (fun r1 sr1 cr1 dr1 => ?_)
    refine kk_zeq hG (t := 107) rfl rfl ?_ ?_
    · refine kk_ic hG rfl cc_i4 ?_
      exact kk_ri hG rfl rfl rfl k
    exact kk_wl hG [1, 2, 3, 0] rfl (b95 _ _ _ _ _ _)
  refine (show KK sa R base G 0 [(0, va_rf (some p0))] [] s kc ks (C_Re_redistributeLine sa p0 s kc ks Q) from ?_) hw h
  refine kk_aln hG (x := (some p0)) rfl rfl ?_
  refine kk_gi hG (c := 7) (k := 3) (a := p0) rfl rfl rfl rfl (fun v1 => ?_)
  refine kk_ic hG rfl cc_i4 ?_
  refine kk_ilt hG (t := 29) rfl rfl ?_ ?_
  · refine kk_ic hG rfl cc_i2 ?_
    exact kk_ri hG rfl rfl rfl k
  refine kk_aln hG (x := (some p0)) rfl rfl ?_
  refine kk_ic hG rfl cc_i4 ?_
  refine kk_cx (w := .int) hG 0 rfl rfl (Nat.le_of_ble_eq_true rfl) (by decide) rfl (st' := []) rfl (cats_le (Nat.le_of_ble_eq_true rfl)) (fun _ hw h k => kk_rcv h.1 (kc_Re_hasTagOption base sa hw h.2 k)) (fun r2 sr2 cr2 dr2 => ?_)
  refine kk_zeq hG (t := 29) rfl rfl ?_ ?_
  · refine kk_ic hG rfl cc_i2 ?_
    exact kk_ri hG rfl rfl rfl k
  refine kk_aln hG (x := (some p0)) rfl rfl ?_
  refine kk_ic hG rfl cc_i2 ?_
  refine kk_lws hG (a := sa 34) rfl rfl ?_
  refine kk_lds hG (a := sa 17) rfl rfl ?_
  refine kk_cx (w := .int) hG 0 rfl rfl (Nat.le_of_ble_eq_true rfl) (by decide) rfl (st' := []) rfl (cats_le (Nat.le_of_ble_eq_true rfl)) (fun _ hw h k => kk_rcv h.1 (kc_Re_isEither base sa hw h.2 k)) (fun r3 sr3 cr3 dr3 => ?_)
  refine kk_zne hG (t := 31) rfl rfl ?_ ?_
  · refine kk_aln hG (x := (some p0)) rfl rfl ?_
    refine kk_ic hG rfl cc_i1 ?_
    refine kk_cx (w := va_rf) hG 0 rfl rfl (Nat.le_of_ble_eq_true rfl) (by decide) rfl (st' := []) rfl (cats_le (Nat.le_of_ble_eq_true rfl)) (fun _ hw h k => kk_rcv h.1 (kc_Re_routerNamed base sa hw h.2 k)) (fun r4 sr4 cr4 dr4 => ?_)
    refine kk_asn hG (x := r4) (L' := [(1, va_rf r4), (0, va_rf (some p0))]) rfl (Nat.le_of_ble_eq_true rfl) rfl ?_
    refine kk_aln hG (x := r4) rfl rfl ?_
    refine kk_nnl hG (x := r4) (t := 43) rfl rfl ?_ ?_
    · refine kk_aln hG (x := (some p0)) rfl rfl ?_
      refine kk_ic hG rfl cc_i3 ?_
      refine kk_ic hG rfl cc_i1 ?_
      refine kk_bi hG rfl cc_b15 ?_
      refine kk_cx (w := .int) hG 0 rfl rfl (Nat.le_of_ble_eq_true rfl) (by decide) rfl (st' := []) rfl (cats_le (Nat.le_of_ble_eq_true rfl)) (fun _ hw h k => kk_rcv h.1 (kc_Re_number base sa hw h.2 k)) (fun r5 sr5 cr5 dr5 => ?_)
      refine kk_st hG (L' := [(2, .int r5), (1, va_rf r4), (0, va_rf (some p0))]) rfl rfl (Nat.le_of_ble_eq_true rfl) (by cases r4 <;> rfl) ?_
      refine kk_aln hG (x := (some p0)) rfl rfl ?_
      refine kk_gi hG (c := 7) (k := 4) (a := p0) rfl rfl rfl rfl (fun v6 => ?_)
      refine kk_zne hG (t := 63) rfl rfl ?_ ?_
      · refine kk_aln hG (x := (some p0)) rfl rfl ?_
        refine kk_aln hG (x := (some p0)) rfl rfl ?_
        refine kk_gi hG (c := 7) (k := 4) (a := p0) rfl rfl rfl rfl (fun v7 => ?_)
        refine kk_ic hG rfl cc_i0 ?_
        refine kk_lw hG (v := (65535 : Int32)) rfl rfl ?_
        refine kk_cx (w := .int) hG 0 rfl rfl (Nat.le_of_ble_eq_true rfl) (by decide) rfl (st' := []) rfl (cats_le (Nat.le_of_ble_eq_true rfl)) (fun _ hw h k => kk_rcv h.1 (kc_Re_number base sa hw h.2 k)) (fun r8 sr8 cr8 dr8 => ?_)
        exact kk_wl hG [2, 1, 0] rfl (b75 _ _ _ _ _ _)
      refine kk_ic hG rfl cc_im1 ?_
      refine kk_go hG (t := 75) rfl rfl ?_
      exact kk_wl hG [2, 1, 0] rfl (b75 _ _ _ _ _ _)
    refine kk_ic hG rfl cc_i3 ?_
    exact kk_ri hG rfl rfl rfl k
  refine kk_ic hG rfl cc_i2 ?_
  exact kk_ri hG rfl rfl rfl k
def C_Re_defaultLine_b71 (sa : Nat → Nat) (a2 : Int32) (a3 : Option Nat) (u0 : Int32) (s : cS) (kc ks : Nat) (Q : (Int32 → cS → Nat → Nat → Prop)) : Prop := if u0 = ((-1) : Int32) then (Q (4 : Int32) s kc ks) else (ob a3 (fun b1 => (ob (pI s 4 13 b1 u0) (fun s2 => (ob (pZ s2 4 14 b1 a2) (fun s3 => (Q (0 : Int32) s3 kc ks)))))))
def C_Re_defaultLine_b44 (sa : Nat → Nat) (p0 : Nat) (a1 : Int32) (a2 : Int32) (s : cS) (kc ks : Nat) (Q : (Int32 → cS → Nat → Nat → Prop)) : Prop := okO s 7 p0 ∧ C_Re_portNamed sa p0 s kc ks (fun r1 sr1 cr1 dr1 => (if r1 = none then (Q (3 : Int32) sr1 cr1 dr1) else (if a1 = 0 then (okO sr1 7 p0 ∧ C_Re_number sa p0 (3 : Int32) (1 : Int32) (15 : Int32) sr1 cr1 dr1 (fun r2 sr2 cr2 dr2 => ((C_Re_defaultLine_b71 sa a2 r1 r2 sr2 cr2 dr2 Q)))) else ((C_Re_defaultLine_b71 sa a2 r1 (0 : Int32) sr1 cr1 dr1 Q)))))
def C_Re_defaultLine (sa : Nat → Nat) (p0 : Nat) (s : cS) (kc ks : Nat) (Q : (Int32 → cS → Nat → Nat → Prop)) : Prop := okO s 7 p0 ∧ C_Re_is sa p0 (3 : Int32) (some (sa 12)) s kc ks (fun r1 sr1 cr1 dr1 => (okO sr1 7 p0 ∧ C_Re_is sa p0 (4 : Int32) (some (sa 37)) sr1 cr1 dr1 (fun r2 sr2 cr2 dr2 => (ob (gI sr2 7 3 p0) (fun v3 => (if v3 = (4 : Int32) then ((C_Re_defaultLine_b44 sa p0 r1 r2 sr2 cr2 dr2 Q)) else (ob (gI sr2 7 3 p0) (fun v4 => (if v4 = (5 : Int32) then (if r2 = 0 then (Q (2 : Int32) sr2 cr2 dr2) else (if r1 = 0 then ((C_Re_defaultLine_b44 sa p0 r1 r2 sr2 cr2 dr2 Q)) else (Q (2 : Int32) sr2 cr2 dr2))) else (Q (2 : Int32) sr2 cr2 dr2))))))))))
set_option maxRecDepth 100000 in
set_option maxHeartbeats 4000000 in
theorem kc_Re_defaultLine (base : Nat) (sa : Nat → Nat) {R : pmM} {s : cS} {kc ks : Nat} {Rt : pmR} {p0 : Nat} {Q : (Int32 → cS → Nat → Nat → Prop)} (hw : cW sa R base s) (h : C_Re_defaultLine sa p0 s kc ks Q) (k : ∀ r s' kc' ks', cW sa R base s' → Q r s' kc' ks' → Rt (some (.int r)) (cM R s') kc' ks') : kP_Re_defaultLine base sa [.ref p0] (cM R s) kc ks Rt := by
  refine ⟨Nat.le_of_ble_eq_true rfl, fun G hG => ?_⟩
  have b71 : ∀ (a2 : Int32) (a3 : Option Nat) (u0 : Int32) (s : cS) (kc ks : Nat), KK sa R base G 71 [(2, .int a2), (3, va_rf a3)] [.int u0] s kc ks (C_Re_defaultLine_b71 sa a2 a3 u0 s kc ks Q) := by
    intro a2 a3 u0 s kc ks
    refine kk_st hG (L' := [(4, .int u0), (2, .int a2), (3, va_rf a3)]) rfl rfl (Nat.le_of_ble_eq_true rfl) (by cases a3 <;> rfl) ?_
    refine kks hG rfl rfl ?_
    refine kk_ic hG rfl cc_im1 ?_
    refine kk_ine hG (t := 81) rfl rfl ?_ ?_
    · refine kk_aln hG (x := a3) rfl rfl ?_
      refine kks hG rfl rfl ?_
      refine kk_ob (fun b1 eb1 => ?_)
      subst eb1
      refine kk_pi hG (c := 4) (k := 13) (a := b1) rfl rfl rfl rfl (fun s2 => ?_)
      refine kk_aln hG (x := (some b1)) rfl rfl ?_
      refine kks hG rfl rfl ?_
      refine kk_pz hG (c := 4) (k := 14) (a := b1) rfl rfl rfl rfl (fun s3 => ?_)
      refine kk_ic hG rfl cc_i0 ?_
      exact kk_ri hG rfl rfl rfl k
    refine kk_ic hG rfl cc_i4 ?_
    exact kk_ri hG rfl rfl rfl k
  have b44 : ∀ (a1 : Int32) (a2 : Int32) (s : cS) (kc ks : Nat), KK sa R base G 44 [(0, va_rf (some p0)), (1, .int a1), (2, .int a2)] [] s kc ks (C_Re_defaultLine_b44 sa p0 a1 a2 s kc ks Q) := by
    intro a1 a2 s kc ks
    refine kk_aln hG (x := (some p0)) rfl rfl ?_
    refine kk_cx (w := va_rf) hG 0 rfl rfl (Nat.le_of_ble_eq_true rfl) (by decide) rfl (st' := []) rfl (cats_le (Nat.le_of_ble_eq_true rfl)) (fun _ hw h k => kk_rcv h.1 (kc_Re_portNamed base sa hw h.2 k)) (fun r1 sr1 cr1 dr1 => ?_)
    refine kk_asn hG (x := r1) (L' := [(3, va_rf r1), (0, va_rf (some p0)), (1, .int a1), (2, .int a2)]) rfl (Nat.le_of_ble_eq_true rfl) rfl ?_
    refine kk_aln hG (x := r1) rfl rfl ?_
    refine kk_nnl hG (x := r1) (t := 55) rfl rfl ?_ ?_
    · refine kks hG rfl rfl ?_
      refine kk_zeq hG (t := 63) rfl rfl ?_ ?_
      · refine kk_aln hG (x := (some p0)) rfl rfl ?_
        refine kk_ic hG rfl cc_i3 ?_
        refine kk_ic hG rfl cc_i1 ?_
        refine kk_bi hG rfl cc_b15 ?_
        refine kk_cx (w := .int) hG 0 rfl rfl (Nat.le_of_ble_eq_true rfl) (by decide) rfl (st' := []) rfl (cats_le (Nat.le_of_ble_eq_true rfl)) (fun _ hw h k => kk_rcv h.1 (kc_Re_number base sa hw h.2 k)) (fun r2 sr2 cr2 dr2 => ?_)
        exact kk_wl hG [3, 0] rfl (b71 _ _ _ _ _ _)
      refine kk_ic hG rfl cc_i0 ?_
      refine kk_go hG (t := 71) rfl rfl ?_
      exact kk_wl hG [3, 0] rfl (b71 _ _ _ _ _ _)
    refine kk_ic hG rfl cc_i3 ?_
    exact kk_ri hG rfl rfl rfl k
  refine (show KK sa R base G 0 [(0, va_rf (some p0))] [] s kc ks (C_Re_defaultLine sa p0 s kc ks Q) from ?_) hw h
  refine kk_aln hG (x := (some p0)) rfl rfl ?_
  refine kk_ic hG rfl cc_i3 ?_
  refine kk_lws hG (a := sa 12) rfl rfl ?_
  refine kk_cx (w := .int) hG 0 rfl rfl (Nat.le_of_ble_eq_true rfl) (by decide) rfl (st' := []) rfl (cats_le (Nat.le_of_ble_eq_true rfl)) (fun _ hw h k => kk_rcv h.1 (kc_Re_is base sa hw h.2 k)) (fun r1 sr1 cr1 dr1 => ?_)
  refine kk_st hG (L' := [(1, .int r1), (0, va_rf (some p0))]) rfl rfl (Nat.le_of_ble_eq_true rfl) rfl ?_
  refine kk_aln hG (x := (some p0)) rfl rfl ?_
  refine kk_ic hG rfl cc_i4 ?_
  refine kk_lws hG (a := sa 37) rfl rfl ?_
  refine kk_cx (w := .int) hG 0 rfl rfl (Nat.le_of_ble_eq_true rfl) (by decide) rfl (st' := []) rfl (cats_le (Nat.le_of_ble_eq_true rfl)) (fun _ hw h k => kk_rcv h.1 (kc_Re_is base sa hw h.2 k)) (fun r2 sr2 cr2 dr2 => ?_)
  refine kk_st hG (L' := [(2, .int r2), (1, .int r1), (0, va_rf (some p0))]) rfl rfl (Nat.le_of_ble_eq_true rfl) rfl ?_
  refine kk_aln hG (x := (some p0)) rfl rfl ?_
  refine kk_gi hG (c := 7) (k := 3) (a := p0) rfl rfl rfl rfl (fun v3 => ?_)
  refine kk_ic hG rfl cc_i4 ?_
  refine kk_ieq hG (t := 44) rfl rfl ?_ ?_
  · exact kk_wl hG [2, 1, 0] rfl (b44 _ _ _ _ _)
  refine kk_aln hG (x := (some p0)) rfl rfl ?_
  refine kk_gi hG (c := 7) (k := 3) (a := p0) rfl rfl rfl rfl (fun v4 => ?_)
  refine kk_ic hG rfl cc_i5 ?_
  refine kk_ine hG (t := 42) rfl rfl ?_ ?_
  · refine kk_ic hG rfl cc_i2 ?_
    exact kk_ri hG rfl rfl rfl k
  refine kks hG rfl rfl ?_
  refine kk_zeq hG (t := 42) rfl rfl ?_ ?_
  · refine kk_ic hG rfl cc_i2 ?_
    exact kk_ri hG rfl rfl rfl k
  refine kks hG rfl rfl ?_
  refine kk_zeq hG (t := 44) rfl rfl ?_ ?_
  · exact kk_wl hG [2, 1, 0] rfl (b44 _ _ _ _ _)
  refine kk_ic hG rfl cc_i2 ?_
  exact kk_ri hG rfl rfl rfl k
def C_Re_timersLine_s54 (sa : Nat → Nat) (p0 : Nat) (a1 : Option Nat) (a2 : Int32) (s : cS) (kc ks : Nat) (Q : (Int32 → cS → Nat → Nat → Prop)) (P54 : (Int32 → cS → Nat → Nat → Prop)) : Prop := if a2 < (3 : Int32) then (ob a1 (fun b1 => (ob (gP s 9 15 b1) (fun v2 => (okO s 7 p0 ∧ C_Re_number sa p0 ((2 : Int32) + a2) (1 : Int32) (1000 : Int32) s kc ks (fun r3 sr3 cr3 dr3 => (ob v2 (fun b4 => (ob (wEi sr3 b4 a2 r3) (fun s5 => ((P54 (a2 + (1 : Int32)) s5 cr3 dr3)))))))))))) else ((Q (0 : Int32) s kc ks))
def C_Re_timersLine_b54 (sa : Nat → Nat) (p0 : Nat) (a1 : Option Nat) (a2 : Int32) (s : cS) (kc ks : Nat) (Q : (Int32 → cS → Nat → Nat → Prop)) : Prop := ∀ P54 : (Int32 → cS → Nat → Nat → Prop), (∀ (a2 : Int32) (s : cS) (kc ks : Nat), C_Re_timersLine_s54 sa p0 a1 a2 s kc ks Q P54 → P54 a2 s kc ks) → P54 a2 s kc ks
def C_Re_timersLine_s24 (sa : Nat → Nat) (p0 : Nat) (a1 : Option Nat) (a2 : Int32) (s : cS) (kc ks : Nat) (Q : (Int32 → cS → Nat → Nat → Prop)) (P24 : (Int32 → cS → Nat → Nat → Prop)) : Prop := if a2 < (3 : Int32) then (okO s 7 p0 ∧ C_Re_number sa p0 ((2 : Int32) + a2) (1 : Int32) (1000 : Int32) s kc ks (fun r1 sr1 cr1 dr1 => (if r1 = ((-1) : Int32) then ((Q (4 : Int32) sr1 cr1 dr1)) else ((P24 (a2 + (1 : Int32)) sr1 cr1 dr1))))) else (((C_Re_timersLine_b54 sa p0 a1 (0 : Int32) s kc ks Q)))
def C_Re_timersLine_b24 (sa : Nat → Nat) (p0 : Nat) (a1 : Option Nat) (a2 : Int32) (s : cS) (kc ks : Nat) (Q : (Int32 → cS → Nat → Nat → Prop)) : Prop := ∀ P24 : (Int32 → cS → Nat → Nat → Prop), (∀ (a2 : Int32) (s : cS) (kc ks : Nat), C_Re_timersLine_s24 sa p0 a1 a2 s kc ks Q P24 → P24 a2 s kc ks) → P24 a2 s kc ks
def C_Re_timersLine (sa : Nat → Nat) (p0 : Nat) (s : cS) (kc ks : Nat) (Q : (Int32 → cS → Nat → Nat → Prop)) : Prop := ob (gI s 7 3 p0) (fun v1 => (if v1 = (5 : Int32) then (okO s 7 p0 ∧ C_Re_routerNamed sa p0 (1 : Int32) s kc ks (fun r2 sr2 cr2 dr2 => (if r2 = none then (Q (3 : Int32) sr2 cr2 dr2) else ((C_Re_timersLine_b24 sa p0 r2 (0 : Int32) sr2 cr2 dr2 Q))))) else (Q (2 : Int32) s kc ks)))
set_option maxRecDepth 100000 in
set_option maxHeartbeats 4000000 in
theorem kc_Re_timersLine (base : Nat) (sa : Nat → Nat) {R : pmM} {s : cS} {kc ks : Nat} {Rt : pmR} {p0 : Nat} {Q : (Int32 → cS → Nat → Nat → Prop)} (hw : cW sa R base s) (h : C_Re_timersLine sa p0 s kc ks Q) (k : ∀ r s' kc' ks', cW sa R base s' → Q r s' kc' ks' → Rt (some (.int r)) (cM R s') kc' ks') : kP_Re_timersLine base sa [.ref p0] (cM R s) kc ks Rt := by
  refine ⟨Nat.le_of_ble_eq_true rfl, fun G hG => ?_⟩
  have b54 : ∀ (a1 : Option Nat) (a2 : Int32) (s : cS) (kc ks : Nat), KK sa R base G 54 [(0, va_rf (some p0)), (1, va_rf a1), (2, .int a2)] [] s kc ks (C_Re_timersLine_b54 sa p0 a1 a2 s kc ks Q) := by
    intro a1
    have H : ∀ (P54 : (Int32 → cS → Nat → Nat → Prop)) (hP54 : ∀ (a2 : Int32) (s : cS) (kc ks : Nat), P54 a2 s kc ks → cW sa R base s → G 54 [(0, va_rf (some p0)), (1, va_rf a1), (2, .int a2)] [] (cM R s) kc ks) (a2 : Int32) (s : cS) (kc ks : Nat), KK sa R base G 54 [(0, va_rf (some p0)), (1, va_rf a1), (2, .int a2)] [] s kc ks (C_Re_timersLine_s54 sa p0 a1 a2 s kc ks Q P54) := by
      intro P54 hP54
      intro a2 s kc ks
      refine kks hG rfl rfl ?_
      refine kk_ic hG rfl cc_i3 ?_
      refine kk_ige hG (t := 82) rfl rfl ?_ ?_
      · refine kk_ic hG rfl cc_i0 ?_
        exact kk_ri hG rfl rfl rfl k
      refine kk_aln hG (x := a1) rfl rfl ?_
      refine kk_ob (fun b1 eb1 => ?_)
      subst eb1
      refine kk_gp hG (c := 9) (k := 15) (a := b1) rfl rfl rfl rfl (fun v2 => ?_)
      refine kks hG rfl rfl ?_
      refine kk_aln hG (x := (some p0)) rfl rfl ?_
      refine kk_ic hG rfl cc_i2 ?_
      refine kks hG rfl rfl ?_
      refine kks hG rfl rfl ?_
      refine kk_ic hG rfl cc_i1 ?_
      refine kk_si hG rfl cc_s1000 ?_
      refine kk_cx (w := .int) hG 0 rfl rfl (Nat.le_of_ble_eq_true rfl) (by decide) rfl (st' := [.int a2, va_rf v2]) rfl (cats_le (Nat.le_of_ble_eq_true rfl)) (fun _ hw h k => kk_rcv h.1 (kc_Re_number base sa hw h.2 k)) (fun r3 sr3 cr3 dr3 => ?_)
      refine kk_ob (fun b4 eb4 => ?_)
      subst eb4
      refine kk_is hG (a := b4) rfl (fun s5 => ?_)
      refine kk_inc hG (L' := [(2, .int (a2 + (1 : Int32))), (0, va_rf (some p0)), (1, va_rf (some b1))]) rfl (Nat.le_of_ble_eq_true rfl) rfl cc_i1 rfl ?_
      refine kk_go hG (t := 54) rfl rfl ?_
      exact kk_wl hG [1, 2, 0] rfl (fun hw h => hP54 _ _ _ _ h hw)
    exact fun a2 s kc ks hw h => h (fun a2 s kc ks => cW sa R base s → G 54 [(0, va_rf (some p0)), (1, va_rf a1), (2, .int a2)] [] (cM R s) kc ks) (fun a2 s kc ks hs hw => H _ (fun _ _ _ _ hp hw => hp hw) a2 s kc ks hw hs) hw
  have b24 : ∀ (a1 : Option Nat) (a2 : Int32) (s : cS) (kc ks : Nat), KK sa R base G 24 [(0, va_rf (some p0)), (1, va_rf a1), (2, .int a2)] [] s kc ks (C_Re_timersLine_b24 sa p0 a1 a2 s kc ks Q) := by
    intro a1
    have H : ∀ (P24 : (Int32 → cS → Nat → Nat → Prop)) (hP24 : ∀ (a2 : Int32) (s : cS) (kc ks : Nat), P24 a2 s kc ks → cW sa R base s → G 24 [(0, va_rf (some p0)), (1, va_rf a1), (2, .int a2)] [] (cM R s) kc ks) (a2 : Int32) (s : cS) (kc ks : Nat), KK sa R base G 24 [(0, va_rf (some p0)), (1, va_rf a1), (2, .int a2)] [] s kc ks (C_Re_timersLine_s24 sa p0 a1 a2 s kc ks Q P24) := by
      intro P24 hP24
      intro a2 s kc ks
      refine kks hG rfl rfl ?_
      refine kk_ic hG rfl cc_i3 ?_
      refine kk_ige hG (t := 52) rfl rfl ?_ ?_
      · refine kk_ic hG rfl cc_i0 ?_
        refine kk_st hG (L' := [(2, .int (0 : Int32)), (0, va_rf (some p0)), (1, va_rf a1)]) rfl rfl (Nat.le_of_ble_eq_true rfl) (by cases a1 <;> rfl) ?_
        exact kk_wl hG [1, 2, 0] rfl (b54 _ _ _ _ _)
      refine kk_aln hG (x := (some p0)) rfl rfl ?_
      refine kk_ic hG rfl cc_i2 ?_
      refine kks hG rfl rfl ?_
      refine kks hG rfl rfl ?_
      refine kk_ic hG rfl cc_i1 ?_
      refine kk_si hG rfl cc_s1000 ?_
      refine kk_cx (w := .int) hG 0 rfl rfl (Nat.le_of_ble_eq_true rfl) (by decide) rfl (st' := []) rfl (cats_le (Nat.le_of_ble_eq_true rfl)) (fun _ hw h k => kk_rcv h.1 (kc_Re_number base sa hw h.2 k)) (fun r1 sr1 cr1 dr1 => ?_)
      refine kk_ic hG rfl cc_im1 ?_
      refine kk_ine hG (t := 46) rfl rfl ?_ ?_
      · refine kk_inc hG (L' := [(2, .int (a2 + (1 : Int32))), (0, va_rf (some p0)), (1, va_rf a1)]) rfl (Nat.le_of_ble_eq_true rfl) rfl cc_i1 (by cases a1 <;> rfl) ?_
        refine kk_go hG (t := 24) rfl rfl ?_
        exact kk_wl hG [1, 2, 0] rfl (fun hw h => hP24 _ _ _ _ h hw)
      refine kk_ic hG rfl cc_i4 ?_
      exact kk_ri hG rfl rfl rfl k
    exact fun a2 s kc ks hw h => h (fun a2 s kc ks => cW sa R base s → G 24 [(0, va_rf (some p0)), (1, va_rf a1), (2, .int a2)] [] (cM R s) kc ks) (fun a2 s kc ks hs hw => H _ (fun _ _ _ _ hp hw => hp hw) a2 s kc ks hw hs) hw
  refine (show KK sa R base G 0 [(0, va_rf (some p0))] [] s kc ks (C_Re_timersLine sa p0 s kc ks Q) from ?_) hw h
  refine kk_aln hG (x := (some p0)) rfl rfl ?_
  refine kk_gi hG (c := 7) (k := 3) (a := p0) rfl rfl rfl rfl (fun v1 => ?_)
  refine kk_ic hG rfl cc_i5 ?_
  refine kk_ieq hG (t := 10) rfl rfl ?_ ?_
  · refine kk_aln hG (x := (some p0)) rfl rfl ?_
    refine kk_ic hG rfl cc_i1 ?_
    refine kk_cx (w := va_rf) hG 0 rfl rfl (Nat.le_of_ble_eq_true rfl) (by decide) rfl (st' := []) rfl (cats_le (Nat.le_of_ble_eq_true rfl)) (fun _ hw h k => kk_rcv h.1 (kc_Re_routerNamed base sa hw h.2 k)) (fun r2 sr2 cr2 dr2 => ?_)
    refine kk_asn hG (x := r2) (L' := [(1, va_rf r2), (0, va_rf (some p0))]) rfl (Nat.le_of_ble_eq_true rfl) rfl ?_
    refine kk_aln hG (x := r2) rfl rfl ?_
    refine kk_nnl hG (x := r2) (t := 22) rfl rfl ?_ ?_
    · refine kk_ic hG rfl cc_i0 ?_
      refine kk_st hG (L' := [(2, .int (0 : Int32)), (1, va_rf r2), (0, va_rf (some p0))]) rfl rfl (Nat.le_of_ble_eq_true rfl) (by cases r2 <;> rfl) ?_
      exact kk_wl hG [2, 1, 0] rfl (b24 _ _ _ _ _)
    refine kk_ic hG rfl cc_i3 ?_
    exact kk_ri hG rfl rfl rfl k
  refine kk_ic hG rfl cc_i2 ?_
  exact kk_ri hG rfl rfl rfl k
def C_Re_doLine (sa : Nat → Nat) (p0 : Nat) (p1 : Int32) (p2 : Int32) (s : cS) (kc ks : Nat) (Q : (Int32 → cS → Nat → Nat → Prop)) : Prop := okO s 7 p0 ∧ C_Re_parse sa p0 p1 p2 s kc ks (fun sr1 cr1 dr1 => (ob (gI sr1 7 3 p0) (fun v2 => (if v2 = 0 then (Q (0 : Int32) sr1 cr1 dr1) else (ob (gP sr1 7 0 p0) (fun v3 => (ob v3 (fun b4 => (ob (gP sr1 11 0 b4) (fun v5 => (ob (gP sr1 7 1 p0) (fun v6 => (ob v6 (fun b7 => (ob (rE sr1 .int b7 (0 : Int32)) (fun v8 => (ob v5 (fun b9 => (okO sr1 0 b9 ∧ C_By_at sa b9 v8 sr1 cr1 dr1 (fun r10 sr10 cr10 dr10 => (if r10 = (35 : Int32) then (Q (0 : Int32) sr10 cr10 dr10) else (okO sr10 7 p0 ∧ C_Re_is sa p0 (0 : Int32) (some (sa 0)) sr10 cr10 dr10 (fun r11 sr11 cr11 dr11 => (if r11 = 0 then (okO sr11 7 p0 ∧ C_Re_is sa p0 (0 : Int32) (some (sa 4)) sr11 cr11 dr11 (fun r12 sr12 cr12 dr12 => (if r12 = 0 then (okO sr12 7 p0 ∧ C_Re_is sa p0 (0 : Int32) (some (sa 5)) sr12 cr12 dr12 (fun r13 sr13 cr13 dr13 => (if r13 = 0 then (okO sr13 7 p0 ∧ C_Re_is sa p0 (0 : Int32) (some (sa 15)) sr13 cr13 dr13 (fun r14 sr14 cr14 dr14 => (if r14 = 0 then (okO sr14 7 p0 ∧ C_Re_is sa p0 (0 : Int32) (some (sa 16)) sr14 cr14 dr14 (fun r15 sr15 cr15 dr15 => (if r15 = 0 then (okO sr15 7 p0 ∧ C_Re_is sa p0 (0 : Int32) (some (sa 17)) sr15 cr15 dr15 (fun r16 sr16 cr16 dr16 => (if r16 = 0 then (okO sr16 7 p0 ∧ C_Re_is sa p0 (0 : Int32) (some (sa 19)) sr16 cr16 dr16 (fun r17 sr17 cr17 dr17 => (if r17 = 0 then (okO sr17 7 p0 ∧ C_Re_is sa p0 (0 : Int32) (some (sa 20)) sr17 cr17 dr17 (fun r18 sr18 cr18 dr18 => (if r18 = 0 then (okO sr18 7 p0 ∧ C_Re_is sa p0 (0 : Int32) (some (sa 25)) sr18 cr18 dr18 (fun r19 sr19 cr19 dr19 => (if r19 = 0 then (okO sr19 7 p0 ∧ C_Re_is sa p0 (0 : Int32) (some (sa 28)) sr19 cr19 dr19 (fun r20 sr20 cr20 dr20 => (if r20 = 0 then (okO sr20 7 p0 ∧ C_Re_is sa p0 (0 : Int32) (some (sa 30)) sr20 cr20 dr20 (fun r21 sr21 cr21 dr21 => (if r21 = 0 then (okO sr21 7 p0 ∧ C_Re_is sa p0 (0 : Int32) (some (sa 31)) sr21 cr21 dr21 (fun r22 sr22 cr22 dr22 => (if r22 = 0 then (okO sr22 7 p0 ∧ C_Re_is sa p0 (0 : Int32) (some (sa 32)) sr22 cr22 dr22 (fun r23 sr23 cr23 dr23 => (if r23 = 0 then (okO sr23 7 p0 ∧ C_Re_is sa p0 (0 : Int32) (some (sa 33)) sr23 cr23 dr23 (fun r24 sr24 cr24 dr24 => (if r24 = 0 then (okO sr24 7 p0 ∧ C_Re_is sa p0 (0 : Int32) (some (sa 36)) sr24 cr24 dr24 (fun r25 sr25 cr25 dr25 => (if r25 = 0 then (okO sr25 7 p0 ∧ C_Re_is sa p0 (0 : Int32) (some (sa 38)) sr25 cr25 dr25 (fun r26 sr26 cr26 dr26 => (if r26 = 0 then (Q (1 : Int32) sr26 cr26 dr26) else (okO sr26 7 p0 ∧ C_Re_timersLine sa p0 sr26 cr26 dr26 (fun r27 sr27 cr27 dr27 => (Q r27 sr27 cr27 dr27)))))) else (okO sr25 7 p0 ∧ C_Re_defaultLine sa p0 sr25 cr25 dr25 (fun r28 sr28 cr28 dr28 => (Q r28 sr28 cr28 dr28)))))) else (okO sr24 7 p0 ∧ C_Re_redistributeLine sa p0 sr24 cr24 dr24 (fun r29 sr29 cr29 dr29 => (Q r29 sr29 cr29 dr29)))))) else (okO sr23 7 p0 ∧ C_Re_neighborLine sa p0 sr23 cr23 dr23 (fun r30 sr30 cr30 dr30 => (Q r30 sr30 cr30 dr30)))))) else (okO sr22 7 p0 ∧ C_Re_summaryLine sa p0 sr22 cr22 dr22 (fun r31 sr31 cr31 dr31 => (Q r31 sr31 cr31 dr31)))))) else (okO sr21 7 p0 ∧ C_Re_offsetLine sa p0 sr21 cr21 dr21 (fun r32 sr32 cr32 dr32 => (Q r32 sr32 cr32 dr32)))))) else (okO sr20 7 p0 ∧ C_Re_distributeLine sa p0 sr20 cr20 dr20 (fun r33 sr33 cr33 dr33 => (Q r33 sr33 cr33 dr33)))))) else (okO sr19 7 p0 ∧ C_Re_listLine sa p0 sr19 cr19 dr19 (fun r34 sr34 cr34 dr34 => (Q r34 sr34 cr34 dr34)))))) else (okO sr18 7 p0 ∧ C_Re_filterLine sa p0 sr18 cr18 dr18 (fun r35 sr35 cr35 dr35 => (Q r35 sr35 cr35 dr35)))))) else (okO sr17 7 p0 ∧ C_Re_nostaticLine sa p0 sr17 cr17 dr17 (fun r36 sr36 cr36 dr36 => (Q r36 sr36 cr36 dr36)))))) else (okO sr16 7 p0 ∧ C_Re_staticLine sa p0 sr16 cr16 dr16 (fun r37 sr37 cr37 dr37 => (Q r37 sr37 cr37 dr37)))))) else (okO sr15 7 p0 ∧ C_Re_nokeyLine sa p0 sr15 cr15 dr15 (fun r38 sr38 cr38 dr38 => (Q r38 sr38 cr38 dr38)))))) else (okO sr14 7 p0 ∧ C_Re_keyLine sa p0 sr14 cr14 dr14 (fun r39 sr39 cr39 dr39 => (Q r39 sr39 cr39 dr39)))))) else (okO sr13 7 p0 ∧ C_Re_joinLine sa p0 sr13 cr13 dr13 (fun r40 sr40 cr40 dr40 => (Q r40 sr40 cr40 dr40)))))) else (okO sr12 7 p0 ∧ C_Re_routerLine sa p0 sr12 cr12 dr12 (fun r41 sr41 cr41 dr41 => (Q r41 sr41 cr41 dr41)))))) else (okO sr11 7 p0 ∧ C_Re_linkLine sa p0 sr11 cr11 dr11 (fun r42 sr42 cr42 dr42 => (Q r42 sr42 cr42 dr42)))))))))))))))))))))))))))
set_option maxRecDepth 100000 in
set_option maxHeartbeats 4000000 in
theorem kc_Re_doLine (base : Nat) (sa : Nat → Nat) {R : pmM} {s : cS} {kc ks : Nat} {Rt : pmR} {p0 : Nat} {p1 : Int32} {p2 : Int32} {Q : (Int32 → cS → Nat → Nat → Prop)} (hw : cW sa R base s) (h : C_Re_doLine sa p0 p1 p2 s kc ks Q) (k : ∀ r s' kc' ks', cW sa R base s' → Q r s' kc' ks' → Rt (some (.int r)) (cM R s') kc' ks') : kP_Re_doLine base sa [.ref p0, .int p1, .int p2] (cM R s) kc ks Rt := by
  refine ⟨Nat.le_of_ble_eq_true rfl, fun G hG => ?_⟩
  refine (show KK sa R base G 0 [(0, va_rf (some p0)), (1, .int p1), (2, .int p2)] [] s kc ks (C_Re_doLine sa p0 p1 p2 s kc ks Q) from ?_) hw h
  refine kk_aln hG (x := (some p0)) rfl rfl ?_
  refine kks hG rfl rfl ?_
  refine kks hG rfl rfl ?_
  refine kk_cv hG 0 rfl rfl (Nat.le_of_ble_eq_true rfl) (by decide) rfl (st' := []) rfl (cats_le (Nat.le_of_ble_eq_true rfl)) (fun _ hw h k => kk_rcv h.1 (kc_Re_parse base sa hw h.2 k)) (fun sr1 cr1 dr1 => ?_)
  refine kk_aln hG (x := (some p0)) rfl rfl ?_
  refine kk_gi hG (c := 7) (k := 3) (a := p0) rfl rfl rfl rfl (fun v2 => ?_)
  refine kk_zeq hG (t := 34) rfl rfl ?_ ?_
  · refine kk_ic hG rfl cc_i0 ?_
    exact kk_ri hG rfl rfl rfl k
  refine kk_aln hG (x := (some p0)) rfl rfl ?_
  refine kk_gp hG (c := 7) (k := 0) (a := p0) rfl rfl rfl rfl (fun v3 => ?_)
  refine kk_ob (fun b4 eb4 => ?_)
  subst eb4
  refine kk_gp hG (c := 11) (k := 0) (a := b4) rfl rfl rfl rfl (fun v5 => ?_)
  refine kk_aln hG (x := (some p0)) rfl rfl ?_
  refine kk_gp hG (c := 7) (k := 1) (a := p0) rfl rfl rfl rfl (fun v6 => ?_)
  refine kk_ic hG rfl cc_i0 ?_
  refine kk_ob (fun b7 eb7 => ?_)
  subst eb7
  refine kk_ia hG (a := b7) rfl (fun v8 => ?_)
  refine kk_ob (fun b9 eb9 => ?_)
  subst eb9
  refine kk_cx (w := .int) hG 0 rfl rfl (Nat.le_of_ble_eq_true rfl) (by decide) rfl (st' := []) rfl (cats_le (Nat.le_of_ble_eq_true rfl)) (fun _ hw h k => kk_rcv h.1 (kc_By_at base sa hw h.2 k)) (fun r10 sr10 cr10 dr10 => ?_)
  refine kk_bi hG rfl cc_b35 ?_
  refine kk_ine hG (t := 36) rfl rfl ?_ ?_
  · refine kk_aln hG (x := (some p0)) rfl rfl ?_
    refine kk_ic hG rfl cc_i0 ?_
    refine kk_lds hG (a := sa 0) rfl rfl ?_
    refine kk_cx (w := .int) hG 0 rfl rfl (Nat.le_of_ble_eq_true rfl) (by decide) rfl (st' := []) rfl (cats_le (Nat.le_of_ble_eq_true rfl)) (fun _ hw h k => kk_rcv h.1 (kc_Re_is base sa hw h.2 k)) (fun r11 sr11 cr11 dr11 => ?_)
    refine kk_zeq hG (t := 51) rfl rfl ?_ ?_
    · refine kk_aln hG (x := (some p0)) rfl rfl ?_
      refine kk_ic hG rfl cc_i0 ?_
      refine kk_lds hG (a := sa 4) rfl rfl ?_
      refine kk_cx (w := .int) hG 0 rfl rfl (Nat.le_of_ble_eq_true rfl) (by decide) rfl (st' := []) rfl (cats_le (Nat.le_of_ble_eq_true rfl)) (fun _ hw h k => kk_rcv h.1 (kc_Re_is base sa hw h.2 k)) (fun r12 sr12 cr12 dr12 => ?_)
      refine kk_zeq hG (t := 66) rfl rfl ?_ ?_
      · refine kk_aln hG (x := (some p0)) rfl rfl ?_
        refine kk_ic hG rfl cc_i0 ?_
        refine kk_lds hG (a := sa 5) rfl rfl ?_
        refine kk_cx (w := .int) hG 0 rfl rfl (Nat.le_of_ble_eq_true rfl) (by decide) rfl (st' := []) rfl (cats_le (Nat.le_of_ble_eq_true rfl)) (fun _ hw h k => kk_rcv h.1 (kc_Re_is base sa hw h.2 k)) (fun r13 sr13 cr13 dr13 => ?_)
        refine kk_zeq hG (t := 81) rfl rfl ?_ ?_
        · refine kk_aln hG (x := (some p0)) rfl rfl ?_
          refine kk_ic hG rfl cc_i0 ?_
          refine kk_lds hG (a := sa 15) rfl rfl ?_
          refine kk_cx (w := .int) hG 0 rfl rfl (Nat.le_of_ble_eq_true rfl) (by decide) rfl (st' := []) rfl (cats_le (Nat.le_of_ble_eq_true rfl)) (fun _ hw h k => kk_rcv h.1 (kc_Re_is base sa hw h.2 k)) (fun r14 sr14 cr14 dr14 => ?_)
          refine kk_zeq hG (t := 96) rfl rfl ?_ ?_
          · refine kk_aln hG (x := (some p0)) rfl rfl ?_
            refine kk_ic hG rfl cc_i0 ?_
            refine kk_lds hG (a := sa 16) rfl rfl ?_
            refine kk_cx (w := .int) hG 0 rfl rfl (Nat.le_of_ble_eq_true rfl) (by decide) rfl (st' := []) rfl (cats_le (Nat.le_of_ble_eq_true rfl)) (fun _ hw h k => kk_rcv h.1 (kc_Re_is base sa hw h.2 k)) (fun r15 sr15 cr15 dr15 => ?_)
            refine kk_zeq hG (t := 111) rfl rfl ?_ ?_
            · refine kk_aln hG (x := (some p0)) rfl rfl ?_
              refine kk_ic hG rfl cc_i0 ?_
              refine kk_lds hG (a := sa 17) rfl rfl ?_
              refine kk_cx (w := .int) hG 0 rfl rfl (Nat.le_of_ble_eq_true rfl) (by decide) rfl (st' := []) rfl (cats_le (Nat.le_of_ble_eq_true rfl)) (fun _ hw h k => kk_rcv h.1 (kc_Re_is base sa hw h.2 k)) (fun r16 sr16 cr16 dr16 => ?_)
              refine kk_zeq hG (t := 126) rfl rfl ?_ ?_
              · refine kk_aln hG (x := (some p0)) rfl rfl ?_
                refine kk_ic hG rfl cc_i0 ?_
                refine kk_lds hG (a := sa 19) rfl rfl ?_
                refine kk_cx (w := .int) hG 0 rfl rfl (Nat.le_of_ble_eq_true rfl) (by decide) rfl (st' := []) rfl (cats_le (Nat.le_of_ble_eq_true rfl)) (fun _ hw h k => kk_rcv h.1 (kc_Re_is base sa hw h.2 k)) (fun r17 sr17 cr17 dr17 => ?_)
                refine kk_zeq hG (t := 141) rfl rfl ?_ ?_
                · refine kk_aln hG (x := (some p0)) rfl rfl ?_
                  refine kk_ic hG rfl cc_i0 ?_
                  refine kk_lds hG (a := sa 20) rfl rfl ?_
                  refine kk_cx (w := .int) hG 0 rfl rfl (Nat.le_of_ble_eq_true rfl) (by decide) rfl (st' := []) rfl (cats_le (Nat.le_of_ble_eq_true rfl)) (fun _ hw h k => kk_rcv h.1 (kc_Re_is base sa hw h.2 k)) (fun r18 sr18 cr18 dr18 => ?_)
                  refine kk_zeq hG (t := 156) rfl rfl ?_ ?_
                  · refine kk_aln hG (x := (some p0)) rfl rfl ?_
                    refine kk_ic hG rfl cc_i0 ?_
                    refine kk_lds hG (a := sa 25) rfl rfl ?_
                    refine kk_cx (w := .int) hG 0 rfl rfl (Nat.le_of_ble_eq_true rfl) (by decide) rfl (st' := []) rfl (cats_le (Nat.le_of_ble_eq_true rfl)) (fun _ hw h k => kk_rcv h.1 (kc_Re_is base sa hw h.2 k)) (fun r19 sr19 cr19 dr19 => ?_)
                    refine kk_zeq hG (t := 171) rfl rfl ?_ ?_
                    · refine kk_aln hG (x := (some p0)) rfl rfl ?_
                      refine kk_ic hG rfl cc_i0 ?_
                      refine kk_lds hG (a := sa 28) rfl rfl ?_
                      refine kk_cx (w := .int) hG 0 rfl rfl (Nat.le_of_ble_eq_true rfl) (by decide) rfl (st' := []) rfl (cats_le (Nat.le_of_ble_eq_true rfl)) (fun _ hw h k => kk_rcv h.1 (kc_Re_is base sa hw h.2 k)) (fun r20 sr20 cr20 dr20 => ?_)
                      refine kk_zeq hG (t := 186) rfl rfl ?_ ?_
                      · refine kk_aln hG (x := (some p0)) rfl rfl ?_
                        refine kk_ic hG rfl cc_i0 ?_
                        refine kk_lds hG (a := sa 30) rfl rfl ?_
                        refine kk_cx (w := .int) hG 0 rfl rfl (Nat.le_of_ble_eq_true rfl) (by decide) rfl (st' := []) rfl (cats_le (Nat.le_of_ble_eq_true rfl)) (fun _ hw h k => kk_rcv h.1 (kc_Re_is base sa hw h.2 k)) (fun r21 sr21 cr21 dr21 => ?_)
                        refine kk_zeq hG (t := 201) rfl rfl ?_ ?_
                        · refine kk_aln hG (x := (some p0)) rfl rfl ?_
                          refine kk_ic hG rfl cc_i0 ?_
                          refine kk_lds hG (a := sa 31) rfl rfl ?_
                          refine kk_cx (w := .int) hG 0 rfl rfl (Nat.le_of_ble_eq_true rfl) (by decide) rfl (st' := []) rfl (cats_le (Nat.le_of_ble_eq_true rfl)) (fun _ hw h k => kk_rcv h.1 (kc_Re_is base sa hw h.2 k)) (fun r22 sr22 cr22 dr22 => ?_)
                          refine kk_zeq hG (t := 216) rfl rfl ?_ ?_
                          · refine kk_aln hG (x := (some p0)) rfl rfl ?_
                            refine kk_ic hG rfl cc_i0 ?_
                            refine kk_lds hG (a := sa 32) rfl rfl ?_
                            refine kk_cx (w := .int) hG 0 rfl rfl (Nat.le_of_ble_eq_true rfl) (by decide) rfl (st' := []) rfl (cats_le (Nat.le_of_ble_eq_true rfl)) (fun _ hw h k => kk_rcv h.1 (kc_Re_is base sa hw h.2 k)) (fun r23 sr23 cr23 dr23 => ?_)
                            refine kk_zeq hG (t := 231) rfl rfl ?_ ?_
                            · refine kk_aln hG (x := (some p0)) rfl rfl ?_
                              refine kk_ic hG rfl cc_i0 ?_
                              refine kk_lds hG (a := sa 33) rfl rfl ?_
                              refine kk_cx (w := .int) hG 0 rfl rfl (Nat.le_of_ble_eq_true rfl) (by decide) rfl (st' := []) rfl (cats_le (Nat.le_of_ble_eq_true rfl)) (fun _ hw h k => kk_rcv h.1 (kc_Re_is base sa hw h.2 k)) (fun r24 sr24 cr24 dr24 => ?_)
                              refine kk_zeq hG (t := 246) rfl rfl ?_ ?_
                              · refine kk_aln hG (x := (some p0)) rfl rfl ?_
                                refine kk_ic hG rfl cc_i0 ?_
                                refine kk_lds hG (a := sa 36) rfl rfl ?_
                                refine kk_cx (w := .int) hG 0 rfl rfl (Nat.le_of_ble_eq_true rfl) (by decide) rfl (st' := []) rfl (cats_le (Nat.le_of_ble_eq_true rfl)) (fun _ hw h k => kk_rcv h.1 (kc_Re_is base sa hw h.2 k)) (fun r25 sr25 cr25 dr25 => ?_)
                                refine kk_zeq hG (t := 261) rfl rfl ?_ ?_
                                · refine kk_aln hG (x := (some p0)) rfl rfl ?_
                                  refine kk_ic hG rfl cc_i0 ?_
                                  refine kk_lds hG (a := sa 38) rfl rfl ?_
                                  refine kk_cx (w := .int) hG 0 rfl rfl (Nat.le_of_ble_eq_true rfl) (by decide) rfl (st' := []) rfl (cats_le (Nat.le_of_ble_eq_true rfl)) (fun _ hw h k => kk_rcv h.1 (kc_Re_is base sa hw h.2 k)) (fun r26 sr26 cr26 dr26 => ?_)
                                  refine kk_zeq hG (t := 278) rfl rfl ?_ ?_
                                  · refine kk_ic hG rfl cc_i1 ?_
                                    exact kk_ri hG rfl rfl rfl k
                                  refine kk_aln hG (x := (some p0)) rfl rfl ?_
                                  refine kk_cx (w := .int) hG 0 rfl rfl (Nat.le_of_ble_eq_true rfl) (by decide) rfl (st' := []) rfl (cats_le (Nat.le_of_ble_eq_true rfl)) (fun _ hw h k => kk_rcv h.1 (kc_Re_timersLine base sa hw h.2 k)) (fun r27 sr27 cr27 dr27 => ?_)
                                  refine kk_go hG (t := 279) rfl rfl ?_
                                  exact kk_ri hG rfl rfl rfl k
                                refine kk_aln hG (x := (some p0)) rfl rfl ?_
                                refine kk_cx (w := .int) hG 0 rfl rfl (Nat.le_of_ble_eq_true rfl) (by decide) rfl (st' := []) rfl (cats_le (Nat.le_of_ble_eq_true rfl)) (fun _ hw h k => kk_rcv h.1 (kc_Re_defaultLine base sa hw h.2 k)) (fun r28 sr28 cr28 dr28 => ?_)
                                exact kk_ri hG rfl rfl rfl k
                              refine kk_aln hG (x := (some p0)) rfl rfl ?_
                              refine kk_cx (w := .int) hG 0 rfl rfl (Nat.le_of_ble_eq_true rfl) (by decide) rfl (st' := []) rfl (cats_le (Nat.le_of_ble_eq_true rfl)) (fun _ hw h k => kk_rcv h.1 (kc_Re_redistributeLine base sa hw h.2 k)) (fun r29 sr29 cr29 dr29 => ?_)
                              exact kk_ri hG rfl rfl rfl k
                            refine kk_aln hG (x := (some p0)) rfl rfl ?_
                            refine kk_cx (w := .int) hG 0 rfl rfl (Nat.le_of_ble_eq_true rfl) (by decide) rfl (st' := []) rfl (cats_le (Nat.le_of_ble_eq_true rfl)) (fun _ hw h k => kk_rcv h.1 (kc_Re_neighborLine base sa hw h.2 k)) (fun r30 sr30 cr30 dr30 => ?_)
                            exact kk_ri hG rfl rfl rfl k
                          refine kk_aln hG (x := (some p0)) rfl rfl ?_
                          refine kk_cx (w := .int) hG 0 rfl rfl (Nat.le_of_ble_eq_true rfl) (by decide) rfl (st' := []) rfl (cats_le (Nat.le_of_ble_eq_true rfl)) (fun _ hw h k => kk_rcv h.1 (kc_Re_summaryLine base sa hw h.2 k)) (fun r31 sr31 cr31 dr31 => ?_)
                          exact kk_ri hG rfl rfl rfl k
                        refine kk_aln hG (x := (some p0)) rfl rfl ?_
                        refine kk_cx (w := .int) hG 0 rfl rfl (Nat.le_of_ble_eq_true rfl) (by decide) rfl (st' := []) rfl (cats_le (Nat.le_of_ble_eq_true rfl)) (fun _ hw h k => kk_rcv h.1 (kc_Re_offsetLine base sa hw h.2 k)) (fun r32 sr32 cr32 dr32 => ?_)
                        exact kk_ri hG rfl rfl rfl k
                      refine kk_aln hG (x := (some p0)) rfl rfl ?_
                      refine kk_cx (w := .int) hG 0 rfl rfl (Nat.le_of_ble_eq_true rfl) (by decide) rfl (st' := []) rfl (cats_le (Nat.le_of_ble_eq_true rfl)) (fun _ hw h k => kk_rcv h.1 (kc_Re_distributeLine base sa hw h.2 k)) (fun r33 sr33 cr33 dr33 => ?_)
                      exact kk_ri hG rfl rfl rfl k
                    refine kk_aln hG (x := (some p0)) rfl rfl ?_
                    refine kk_cx (w := .int) hG 0 rfl rfl (Nat.le_of_ble_eq_true rfl) (by decide) rfl (st' := []) rfl (cats_le (Nat.le_of_ble_eq_true rfl)) (fun _ hw h k => kk_rcv h.1 (kc_Re_listLine base sa hw h.2 k)) (fun r34 sr34 cr34 dr34 => ?_)
                    exact kk_ri hG rfl rfl rfl k
                  refine kk_aln hG (x := (some p0)) rfl rfl ?_
                  refine kk_cx (w := .int) hG 0 rfl rfl (Nat.le_of_ble_eq_true rfl) (by decide) rfl (st' := []) rfl (cats_le (Nat.le_of_ble_eq_true rfl)) (fun _ hw h k => kk_rcv h.1 (kc_Re_filterLine base sa hw h.2 k)) (fun r35 sr35 cr35 dr35 => ?_)
                  exact kk_ri hG rfl rfl rfl k
                refine kk_aln hG (x := (some p0)) rfl rfl ?_
                refine kk_cx (w := .int) hG 0 rfl rfl (Nat.le_of_ble_eq_true rfl) (by decide) rfl (st' := []) rfl (cats_le (Nat.le_of_ble_eq_true rfl)) (fun _ hw h k => kk_rcv h.1 (kc_Re_nostaticLine base sa hw h.2 k)) (fun r36 sr36 cr36 dr36 => ?_)
                exact kk_ri hG rfl rfl rfl k
              refine kk_aln hG (x := (some p0)) rfl rfl ?_
              refine kk_cx (w := .int) hG 0 rfl rfl (Nat.le_of_ble_eq_true rfl) (by decide) rfl (st' := []) rfl (cats_le (Nat.le_of_ble_eq_true rfl)) (fun _ hw h k => kk_rcv h.1 (kc_Re_staticLine base sa hw h.2 k)) (fun r37 sr37 cr37 dr37 => ?_)
              exact kk_ri hG rfl rfl rfl k
            refine kk_aln hG (x := (some p0)) rfl rfl ?_
            refine kk_cx (w := .int) hG 0 rfl rfl (Nat.le_of_ble_eq_true rfl) (by decide) rfl (st' := []) rfl (cats_le (Nat.le_of_ble_eq_true rfl)) (fun _ hw h k => kk_rcv h.1 (kc_Re_nokeyLine base sa hw h.2 k)) (fun r38 sr38 cr38 dr38 => ?_)
            exact kk_ri hG rfl rfl rfl k
          refine kk_aln hG (x := (some p0)) rfl rfl ?_
          refine kk_cx (w := .int) hG 0 rfl rfl (Nat.le_of_ble_eq_true rfl) (by decide) rfl (st' := []) rfl (cats_le (Nat.le_of_ble_eq_true rfl)) (fun _ hw h k => kk_rcv h.1 (kc_Re_keyLine base sa hw h.2 k)) (fun r39 sr39 cr39 dr39 => ?_)
          exact kk_ri hG rfl rfl rfl k
        refine kk_aln hG (x := (some p0)) rfl rfl ?_
        refine kk_cx (w := .int) hG 0 rfl rfl (Nat.le_of_ble_eq_true rfl) (by decide) rfl (st' := []) rfl (cats_le (Nat.le_of_ble_eq_true rfl)) (fun _ hw h k => kk_rcv h.1 (kc_Re_joinLine base sa hw h.2 k)) (fun r40 sr40 cr40 dr40 => ?_)
        exact kk_ri hG rfl rfl rfl k
      refine kk_aln hG (x := (some p0)) rfl rfl ?_
      refine kk_cx (w := .int) hG 0 rfl rfl (Nat.le_of_ble_eq_true rfl) (by decide) rfl (st' := []) rfl (cats_le (Nat.le_of_ble_eq_true rfl)) (fun _ hw h k => kk_rcv h.1 (kc_Re_routerLine base sa hw h.2 k)) (fun r41 sr41 cr41 dr41 => ?_)
      exact kk_ri hG rfl rfl rfl k
    refine kk_aln hG (x := (some p0)) rfl rfl ?_
    refine kk_cx (w := .int) hG 0 rfl rfl (Nat.le_of_ble_eq_true rfl) (by decide) rfl (st' := []) rfl (cats_le (Nat.le_of_ble_eq_true rfl)) (fun _ hw h k => kk_rcv h.1 (kc_Re_linkLine base sa hw h.2 k)) (fun r42 sr42 cr42 dr42 => ?_)
    exact kk_ri hG rfl rfl rfl k
  refine kk_ic hG rfl cc_i0 ?_
  exact kk_ri hG rfl rfl rfl k
def C_Rf_read_b78 (sa : Nat → Nat) (p0 : Nat) (a1 : Int32) (a2 : Int32) (a3 : Int32) (s : cS) (kc ks : Nat) (Q : (Int32 → cS → Nat → Nat → Prop)) (P28 : (Int32 → Int32 → cS → Nat → Nat → Prop)) : Prop := ob (gP s 11 3 p0) (fun v1 => (ob v1 (fun b2 => (okO s 7 b2 ∧ C_Re_doLine sa b2 a2 a3 s kc ks (fun r3 sr3 cr3 dr3 => (ob (pI sr3 11 4 p0 r3) (fun s4 => ((P28 (a1 + (1 : Int32)) (a3 + (1 : Int32)) s4 cr3 dr3)))))))))
def C_Rf_read_s48 (sa : Nat → Nat) (p0 : Nat) (a1 : Int32) (a2 : Int32) (a3 : Int32) (s : cS) (kc ks : Nat) (Q : (Int32 → cS → Nat → Nat → Prop)) (P28 : (Int32 → Int32 → cS → Nat → Nat → Prop)) (P48 : (Int32 → cS → Nat → Nat → Prop)) : Prop := ob (gP s 11 0 p0) (fun v1 => (ob v1 (fun b2 => (ob (gI s 0 1 b2) (fun v3 => (if a3 < v3 then (ob (gP s 11 0 p0) (fun v4 => (ob v4 (fun b5 => (okO s 0 b5 ∧ C_By_at sa b5 a3 s kc ks (fun r6 sr6 cr6 dr6 => (if r6 = (10 : Int32) then ((C_Rf_read_b78 sa p0 a1 a2 a3 sr6 cr6 dr6 Q P28)) else ((P48 (a3 + (1 : Int32)) sr6 cr6 dr6))))))))) else ((C_Rf_read_b78 sa p0 a1 a2 a3 s kc ks Q P28))))))))
def C_Rf_read_b48 (sa : Nat → Nat) (p0 : Nat) (a1 : Int32) (a2 : Int32) (a3 : Int32) (s : cS) (kc ks : Nat) (Q : (Int32 → cS → Nat → Nat → Prop)) (P28 : (Int32 → Int32 → cS → Nat → Nat → Prop)) : Prop := ∀ P48 : (Int32 → cS → Nat → Nat → Prop), (∀ (a3 : Int32) (s : cS) (kc ks : Nat), C_Rf_read_s48 sa p0 a1 a2 a3 s kc ks Q P28 P48 → P48 a3 s kc ks) → P48 a3 s kc ks
def C_Rf_read_b101 (sa : Nat → Nat) (p0 : Nat) (a1 : Int32) (s : cS) (kc ks : Nat) (Q : (Int32 → cS → Nat → Nat → Prop)) : Prop := ob (gP s 11 0 p0) (fun v1 => (ob v1 (fun b2 => (okO s 0 b2 ∧ C_By_clear sa b2 s kc ks (fun sr3 cr3 dr3 => (ob (gI sr3 11 4 p0) (fun v4 => (if v4 = 0 then (Q a1 sr3 cr3 dr3) else (Q (((-1) : Int32) - a1) sr3 cr3 dr3)))))))))
def C_Rf_read_s28 (sa : Nat → Nat) (p0 : Nat) (a1 : Int32) (a2 : Int32) (s : cS) (kc ks : Nat) (Q : (Int32 → cS → Nat → Nat → Prop)) (P28 : (Int32 → Int32 → cS → Nat → Nat → Prop)) : Prop := ob (gP s 11 0 p0) (fun v1 => (ob v1 (fun b2 => (ob (gI s 0 1 b2) (fun v3 => (if a2 < v3 then (ob (gI s 11 4 p0) (fun v4 => (if v4 = 0 then ((C_Rf_read_b48 sa p0 a1 a2 a2 s kc ks Q P28)) else ((C_Rf_read_b101 sa p0 a1 s kc ks Q))))) else ((C_Rf_read_b101 sa p0 a1 s kc ks Q))))))))
def C_Rf_read_b28 (sa : Nat → Nat) (p0 : Nat) (a1 : Int32) (a2 : Int32) (s : cS) (kc ks : Nat) (Q : (Int32 → cS → Nat → Nat → Prop)) : Prop := ∀ P28 : (Int32 → Int32 → cS → Nat → Nat → Prop), (∀ (a1 : Int32) (a2 : Int32) (s : cS) (kc ks : Nat), C_Rf_read_s28 sa p0 a1 a2 s kc ks Q P28 → P28 a1 a2 s kc ks) → P28 a1 a2 s kc ks
def C_Rf_read (sa : Nat → Nat) (p0 : Nat) (s : cS) (kc ks : Nat) (Q : (Int32 → cS → Nat → Nat → Prop)) : Prop := ob (pI s 11 4 p0 (0 : Int32)) (fun s1 => (ob (gP s1 11 3 p0) (fun v2 => (if v2 = none then (nwO sa s1 kc ks 7 12 (fun q3 sq3 cq3 dq3 => (okO sq3 7 q3 ∧ C_Re_init sa q3 (some p0) sq3 cq3 dq3 (fun sr4 cr4 dr4 => (ob (pP sr4 11 3 p0 (some q3)) (fun s5 => ((C_Rf_read_b28 sa p0 (0 : Int32) (0 : Int32) s5 cr4 dr4 Q)))))))) else ((C_Rf_read_b28 sa p0 (0 : Int32) (0 : Int32) s1 kc ks Q))))))
set_option maxRecDepth 100000 in
set_option maxHeartbeats 4000000 in
theorem kc_Rf_read (base : Nat) (sa : Nat → Nat) {R : pmM} {s : cS} {kc ks : Nat} {Rt : pmR} {p0 : Nat} {Q : (Int32 → cS → Nat → Nat → Prop)} (hw : cW sa R base s) (h : C_Rf_read sa p0 s kc ks Q) (k : ∀ r s' kc' ks', cW sa R base s' → Q r s' kc' ks' → Rt (some (.int r)) (cM R s') kc' ks') : kP_Rf_read base sa [.ref p0] (cM R s) kc ks Rt := by
  refine ⟨Nat.le_of_ble_eq_true rfl, fun G hG => ?_⟩
  have b101 : ∀ (a1 : Int32) (s : cS) (kc ks : Nat), KK sa R base G 101 [(0, va_rf (some p0)), (1, .int a1)] [] s kc ks (C_Rf_read_b101 sa p0 a1 s kc ks Q) := by
    intro a1 s kc ks
    refine kk_aln hG (x := (some p0)) rfl rfl ?_
    refine kk_gp hG (c := 11) (k := 0) (a := p0) rfl rfl rfl rfl (fun v1 => ?_)
    refine kk_ob (fun b2 eb2 => ?_)
    subst eb2
    refine kk_cv hG 0 rfl rfl (Nat.le_of_ble_eq_true rfl) (by decide) rfl (st' := []) rfl (cats_le (Nat.le_of_ble_eq_true rfl)) (fun _ hw h k => kk_rcv h.1 (kc_By_clear base sa hw h.2 k)) (fun sr3 cr3 dr3 => ?_)
    refine kk_aln hG (x := (some p0)) rfl rfl ?_
    refine kk_gi hG (c := 11) (k := 4) (a := p0) rfl rfl rfl rfl (fun v4 => ?_)
    refine kk_zne hG (t := 119) rfl rfl ?_ ?_
    · refine kk_ic hG rfl cc_im1 ?_
      refine kks hG rfl rfl ?_
      refine kks hG rfl rfl ?_
      exact kk_ri hG rfl rfl rfl k
    refine kks hG rfl rfl ?_
    refine kk_go hG (t := 122) rfl rfl ?_
    exact kk_ri hG rfl rfl rfl k
  have b28 : ∀ (a1 : Int32) (a2 : Int32) (s : cS) (kc ks : Nat), KK sa R base G 28 [(0, va_rf (some p0)), (1, .int a1), (2, .int a2)] [] s kc ks (C_Rf_read_b28 sa p0 a1 a2 s kc ks Q) := by
    have H : ∀ (P28 : (Int32 → Int32 → cS → Nat → Nat → Prop)) (hP28 : ∀ (a1 : Int32) (a2 : Int32) (s : cS) (kc ks : Nat), P28 a1 a2 s kc ks → cW sa R base s → G 28 [(0, va_rf (some p0)), (1, .int a1), (2, .int a2)] [] (cM R s) kc ks) (a1 : Int32) (a2 : Int32) (s : cS) (kc ks : Nat), KK sa R base G 28 [(0, va_rf (some p0)), (1, .int a1), (2, .int a2)] [] s kc ks (C_Rf_read_s28 sa p0 a1 a2 s kc ks Q P28) := by
      intro P28 hP28
      have b78 : ∀ (a1 : Int32) (a2 : Int32) (a3 : Int32) (s : cS) (kc ks : Nat), KK sa R base G 78 [(0, va_rf (some p0)), (1, .int a1), (2, .int a2), (3, .int a3)] [] s kc ks (C_Rf_read_b78 sa p0 a1 a2 a3 s kc ks Q P28) := by
        intro a1 a2 a3 s kc ks
        refine kk_aln hG (x := (some p0)) rfl rfl ?_
        refine kk_aln hG (x := (some p0)) rfl rfl ?_
        refine kk_gp hG (c := 11) (k := 3) (a := p0) rfl rfl rfl rfl (fun v1 => ?_)
        refine kks hG rfl rfl ?_
        refine kks hG rfl rfl ?_
        refine kk_ob (fun b2 eb2 => ?_)
        subst eb2
        refine kk_cx (w := .int) hG 0 rfl rfl (Nat.le_of_ble_eq_true rfl) (by decide) rfl (st' := [va_rf (some p0)]) rfl (cats_le (Nat.le_of_ble_eq_true rfl)) (fun _ hw h k => kk_rcv h.1 (kc_Re_doLine base sa hw h.2 k)) (fun r3 sr3 cr3 dr3 => ?_)
        refine kk_pi hG (c := 11) (k := 4) (a := p0) rfl rfl rfl rfl (fun s4 => ?_)
        refine kks hG rfl rfl ?_
        refine kk_ic hG rfl cc_i1 ?_
        refine kks hG rfl rfl ?_
        refine kk_st hG (L' := [(2, .int (a3 + (1 : Int32))), (0, va_rf (some p0)), (1, .int a1), (3, .int a3)]) rfl rfl (Nat.le_of_ble_eq_true rfl) rfl ?_
        refine kk_inc hG (L' := [(1, .int (a1 + (1 : Int32))), (2, .int (a3 + (1 : Int32))), (0, va_rf (some p0)), (3, .int a3)]) rfl (Nat.le_of_ble_eq_true rfl) rfl cc_i1 rfl ?_
        refine kk_go hG (t := 28) rfl rfl ?_
        exact kk_wl hG [2, 0, 1] rfl (fun hw h => hP28 _ _ _ _ _ h hw)
      have b48 : ∀ (a1 : Int32) (a2 : Int32) (a3 : Int32) (s : cS) (kc ks : Nat), KK sa R base G 48 [(0, va_rf (some p0)), (1, .int a1), (2, .int a2), (3, .int a3)] [] s kc ks (C_Rf_read_b48 sa p0 a1 a2 a3 s kc ks Q P28) := by
        intro a1 a2
        have H : ∀ (P48 : (Int32 → cS → Nat → Nat → Prop)) (hP48 : ∀ (a3 : Int32) (s : cS) (kc ks : Nat), P48 a3 s kc ks → cW sa R base s → G 48 [(0, va_rf (some p0)), (1, .int a1), (2, .int a2), (3, .int a3)] [] (cM R s) kc ks) (a3 : Int32) (s : cS) (kc ks : Nat), KK sa R base G 48 [(0, va_rf (some p0)), (1, .int a1), (2, .int a2), (3, .int a3)] [] s kc ks (C_Rf_read_s48 sa p0 a1 a2 a3 s kc ks Q P28 P48) := by
          intro P48 hP48
          intro a3 s kc ks
          refine kks hG rfl rfl ?_
          refine kk_aln hG (x := (some p0)) rfl rfl ?_
          refine kk_gp hG (c := 11) (k := 0) (a := p0) rfl rfl rfl rfl (fun v1 => ?_)
          refine kk_ob (fun b2 eb2 => ?_)
          subst eb2
          refine kk_gi hG (c := 0) (k := 1) (a := b2) rfl rfl rfl rfl (fun v3 => ?_)
          refine kk_ige hG (t := 78) rfl rfl ?_ ?_
          · exact kk_wl hG [0, 1, 2, 3] rfl (b78 _ _ _ _ _ _)
          refine kk_aln hG (x := (some p0)) rfl rfl ?_
          refine kk_gp hG (c := 11) (k := 0) (a := p0) rfl rfl rfl rfl (fun v4 => ?_)
          refine kks hG rfl rfl ?_
          refine kk_ob (fun b5 eb5 => ?_)
          subst eb5
          refine kk_cx (w := .int) hG 0 rfl rfl (Nat.le_of_ble_eq_true rfl) (by decide) rfl (st' := []) rfl (cats_le (Nat.le_of_ble_eq_true rfl)) (fun _ hw h k => kk_rcv h.1 (kc_By_at base sa hw h.2 k)) (fun r6 sr6 cr6 dr6 => ?_)
          refine kk_bi hG rfl cc_b10 ?_
          refine kk_ieq hG (t := 78) rfl rfl ?_ ?_
          · exact kk_wl hG [0, 1, 2, 3] rfl (b78 _ _ _ _ _ _)
          refine kk_inc hG (L' := [(3, .int (a3 + (1 : Int32))), (0, va_rf (some p0)), (1, .int a1), (2, .int a2)]) rfl (Nat.le_of_ble_eq_true rfl) rfl cc_i1 rfl ?_
          refine kk_go hG (t := 48) rfl rfl ?_
          exact kk_wl hG [1, 2, 3, 0] rfl (fun hw h => hP48 _ _ _ _ h hw)
        exact fun a3 s kc ks hw h => h (fun a3 s kc ks => cW sa R base s → G 48 [(0, va_rf (some p0)), (1, .int a1), (2, .int a2), (3, .int a3)] [] (cM R s) kc ks) (fun a3 s kc ks hs hw => H _ (fun _ _ _ _ hp hw => hp hw) a3 s kc ks hw hs) hw
      intro a1 a2 s kc ks
      refine kks hG rfl rfl ?_
      refine kk_aln hG (x := (some p0)) rfl rfl ?_
      refine kk_gp hG (c := 11) (k := 0) (a := p0) rfl rfl rfl rfl (fun v1 => ?_)
      refine kk_ob (fun b2 eb2 => ?_)
      subst eb2
      refine kk_gi hG (c := 0) (k := 1) (a := b2) rfl rfl rfl rfl (fun v3 => ?_)
      refine kk_ige hG (t := 101) rfl rfl ?_ ?_
      · exact kk_wl hG [0, 1] rfl (b101 _ _ _ _)
      refine kk_aln hG (x := (some p0)) rfl rfl ?_
      refine kk_gi hG (c := 11) (k := 4) (a := p0) rfl rfl rfl rfl (fun v4 => ?_)
      refine kk_zne hG (t := 101) rfl rfl ?_ ?_
      · exact kk_wl hG [0, 1] rfl (b101 _ _ _ _)
      refine kks hG rfl rfl ?_
      refine kk_st hG (L' := [(3, .int a2), (0, va_rf (some p0)), (1, .int a1), (2, .int a2)]) rfl rfl (Nat.le_of_ble_eq_true rfl) rfl ?_
      exact kk_wl hG [1, 2, 3, 0] rfl (b48 _ _ _ _ _ _)
    exact fun a1 a2 s kc ks hw h => h (fun a1 a2 s kc ks => cW sa R base s → G 28 [(0, va_rf (some p0)), (1, .int a1), (2, .int a2)] [] (cM R s) kc ks) (fun a1 a2 s kc ks hs hw => H _ (fun _ _ _ _ _ hp hw => hp hw) a1 a2 s kc ks hw hs) hw
  refine (show KK sa R base G 0 [(0, va_rf (some p0))] [] s kc ks (C_Rf_read sa p0 s kc ks Q) from ?_) hw h
  refine kk_ic hG rfl cc_i0 ?_
  refine kk_st hG (L' := [(1, .int (0 : Int32)), (0, va_rf (some p0))]) rfl rfl (Nat.le_of_ble_eq_true rfl) rfl ?_
  refine kk_ic hG rfl cc_i0 ?_
  refine kk_st hG (L' := [(2, .int (0 : Int32)), (1, .int (0 : Int32)), (0, va_rf (some p0))]) rfl rfl (Nat.le_of_ble_eq_true rfl) rfl ?_
  refine kk_aln hG (x := (some p0)) rfl rfl ?_
  refine kk_ic hG rfl cc_i0 ?_
  refine kk_pi hG (c := 11) (k := 4) (a := p0) rfl rfl rfl rfl (fun s1 => ?_)
  refine kk_aln hG (x := (some p0)) rfl rfl ?_
  refine kk_gp hG (c := 11) (k := 3) (a := p0) rfl rfl rfl rfl (fun v2 => ?_)
  refine kk_nnl hG (x := v2) (t := 28) rfl rfl ?_ ?_
  · exact kk_wl hG [2, 1, 0] rfl (b28 _ _ _ _ _)
  refine kk_aln hG (x := (some p0)) rfl rfl ?_
  refine kk_new hG (c := 7) (n := 12) rfl rfl rfl rfl (fun q3 sq3 cq3 dq3 => ?_)
  refine kk_dup hG (x := (some q3)) rfl ?_
  refine kk_aln hG (x := (some p0)) rfl rfl ?_
  refine kk_cv hG 1 rfl rfl (Nat.le_of_ble_eq_true rfl) (by decide) rfl (st' := [va_rf (some q3), va_rf (some p0)]) rfl (cats_le (Nat.le_of_ble_eq_true rfl)) (fun _ hw h k => kk_rcv h.1 (kc_Re_init base sa hw h.2 k)) (fun sr4 cr4 dr4 => ?_)
  refine kk_pp hG (c := 11) (k := 3) (a := p0) (v := (some q3)) rfl rfl rfl rfl rfl (fun s5 => ?_)
  exact kk_wl hG [2, 1, 0] rfl (b28 _ _ _ _ _)
def C_Rf_fault (sa : Nat → Nat) (p0 : Nat) (s : cS) (kc ks : Nat) (Q : (Int32 → cS → Nat → Nat → Prop)) : Prop := ob (gI s 11 4 p0) (fun v1 => (Q v1 s kc ks))
set_option maxRecDepth 100000 in
set_option maxHeartbeats 4000000 in
theorem kc_Rf_fault (base : Nat) (sa : Nat → Nat) {R : pmM} {s : cS} {kc ks : Nat} {Rt : pmR} {p0 : Nat} {Q : (Int32 → cS → Nat → Nat → Prop)} (hw : cW sa R base s) (h : C_Rf_fault sa p0 s kc ks Q) (k : ∀ r s' kc' ks', cW sa R base s' → Q r s' kc' ks' → Rt (some (.int r)) (cM R s') kc' ks') : kP_Rf_fault base sa [.ref p0] (cM R s) kc ks Rt := by
  refine ⟨Nat.le_of_ble_eq_true rfl, fun G hG => ?_⟩
  refine (show KK sa R base G 0 [(0, va_rf (some p0))] [] s kc ks (C_Rf_fault sa p0 s kc ks Q) from ?_) hw h
  refine kk_aln hG (x := (some p0)) rfl rfl ?_
  refine kk_gi hG (c := 11) (k := 4) (a := p0) rfl rfl rfl rfl (fun v1 => ?_)
  exact kk_ri hG rfl rfl rfl k
