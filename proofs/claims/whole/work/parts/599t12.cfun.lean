/-! Methods as weakest preconditions, by program: Re_nokeyLine .. Re_listNamed -/
def C_Re_nokeyLine (sa : Nat → Nat) (p0 : Nat) (s : cS) (kc ks : Nat) (Q : (Int32 → cS → Nat → Nat → Prop)) : Prop := ob (gI s 7 3 p0) (fun v1 => (if v1 = (3 : Int32) then (okO s 7 p0 ∧ C_Re_portNamed sa p0 s kc ks (fun r2 sr2 cr2 dr2 => (if r2 = none then (Q (3 : Int32) sr2 cr2 dr2) else (ob r2 (fun b3 => (ob (gP sr2 4 6 b3) (fun v4 => (ob v4 (fun b5 => (okO sr2 1 b5 ∧ C_Ch_clear sa b5 sr2 cr2 dr2 (fun sr6 cr6 dr6 => (Q (0 : Int32) sr6 cr6 dr6)))))))))))) else (Q (2 : Int32) s kc ks)))
set_option maxRecDepth 100000 in
set_option maxHeartbeats 4000000 in
theorem kc_Re_nokeyLine (base : Nat) (sa : Nat → Nat) {R : pmM} {s : cS} {kc ks : Nat} {Rt : pmR} {p0 : Nat} {Q : (Int32 → cS → Nat → Nat → Prop)} (hw : cW sa R base s) (h : C_Re_nokeyLine sa p0 s kc ks Q) (k : ∀ r s' kc' ks', cW sa R base s' → Q r s' kc' ks' → Rt (some (.int r)) (cM R s') kc' ks') : kP_Re_nokeyLine base sa [.ref p0] (cM R s) kc ks Rt := by
  refine ⟨Nat.le_of_ble_eq_true rfl, fun G hG => ?_⟩
  refine (show KK sa R base G 0 [(0, va_rf (some p0))] [] s kc ks (C_Re_nokeyLine sa p0 s kc ks Q) from ?_) hw h
  refine kk_aln hG (x := (some p0)) rfl rfl ?_
  refine kk_gi hG (c := 7) (k := 3) (a := p0) rfl rfl rfl rfl (fun v1 => ?_)
  refine kk_ic hG rfl cc_i3 ?_
  refine kk_ieq hG (t := 10) rfl rfl ?_ ?_
  · refine kk_aln hG (x := (some p0)) rfl rfl ?_
    refine kk_cx (w := va_rf) hG 0 rfl rfl (Nat.le_of_ble_eq_true rfl) (by decide) rfl (st' := []) rfl (cats_le (Nat.le_of_ble_eq_true rfl)) (fun _ hw h k => kk_rcv h.1 (kc_Re_portNamed base sa hw h.2 k)) (fun r2 sr2 cr2 dr2 => ?_)
    refine kk_asn hG (x := r2) (L' := [(1, va_rf r2), (0, va_rf (some p0))]) rfl (Nat.le_of_ble_eq_true rfl) rfl ?_
    refine kk_aln hG (x := r2) rfl rfl ?_
    refine kk_nnl hG (x := r2) (t := 21) rfl rfl ?_ ?_
    · refine kk_aln hG (x := r2) rfl rfl ?_
      refine kk_ob (fun b3 eb3 => ?_)
      subst eb3
      refine kk_gp hG (c := 4) (k := 6) (a := b3) rfl rfl rfl rfl (fun v4 => ?_)
      refine kk_ob (fun b5 eb5 => ?_)
      subst eb5
      refine kk_cv hG 0 rfl rfl (Nat.le_of_ble_eq_true rfl) (by decide) rfl (st' := []) rfl (cats_le (Nat.le_of_ble_eq_true rfl)) (fun _ hw h k => kk_rcv h.1 (kc_Ch_clear base sa hw h.2 k)) (fun sr6 cr6 dr6 => ?_)
      refine kk_ic hG rfl cc_i0 ?_
      exact kk_ri hG rfl rfl rfl k
    refine kk_ic hG rfl cc_i3 ?_
    exact kk_ri hG rfl rfl rfl k
  refine kk_ic hG rfl cc_i2 ?_
  exact kk_ri hG rfl rfl rfl k
def C_Re_hasTagOption_b32 (sa : Nat → Nat) (p0 : Nat) (p1 : Int32) (s : cS) (kc ks : Nat) (Q : (Int32 → cS → Nat → Nat → Prop)) : Prop := ob (gI s 7 3 p0) (fun v1 => (if v1 = p1 then (Q (1 : Int32) s kc ks) else (ob (gI s 7 4 p0) (fun v2 => (if 0 < v2 then (Q (1 : Int32) s kc ks) else (Q (0 : Int32) s kc ks))))))
def C_Re_hasTagOption (sa : Nat → Nat) (p0 : Nat) (p1 : Int32) (s : cS) (kc ks : Nat) (Q : (Int32 → cS → Nat → Nat → Prop)) : Prop := ob (pI s 7 4 p0 (0 : Int32)) (fun s1 => (ob (gI s1 7 3 p0) (fun v2 => (if v2 = (p1 + (2 : Int32)) then (okO s1 7 p0 ∧ C_Re_is sa p0 p1 (some (sa 18)) s1 kc ks (fun r3 sr3 cr3 dr3 => (if r3 = 0 then ((C_Re_hasTagOption_b32 sa p0 p1 sr3 cr3 dr3 Q)) else (ob (pI sr3 7 4 p0 (p1 + (1 : Int32))) (fun s4 => ((C_Re_hasTagOption_b32 sa p0 p1 s4 cr3 dr3 Q))))))) else ((C_Re_hasTagOption_b32 sa p0 p1 s1 kc ks Q))))))
set_option maxRecDepth 100000 in
set_option maxHeartbeats 4000000 in
theorem kc_Re_hasTagOption (base : Nat) (sa : Nat → Nat) {R : pmM} {s : cS} {kc ks : Nat} {Rt : pmR} {p0 : Nat} {p1 : Int32} {Q : (Int32 → cS → Nat → Nat → Prop)} (hw : cW sa R base s) (h : C_Re_hasTagOption sa p0 p1 s kc ks Q) (k : ∀ r s' kc' ks', cW sa R base s' → Q r s' kc' ks' → Rt (some (.int r)) (cM R s') kc' ks') : kP_Re_hasTagOption base sa [.ref p0, .int p1] (cM R s) kc ks Rt := by
  refine ⟨Nat.le_of_ble_eq_true rfl, fun G hG => ?_⟩
  have b32 : ∀ (s : cS) (kc ks : Nat), KK sa R base G 32 [(0, va_rf (some p0)), (1, .int p1)] [] s kc ks (C_Re_hasTagOption_b32 sa p0 p1 s kc ks Q) := by
    intro s kc ks
    refine kk_aln hG (x := (some p0)) rfl rfl ?_
    refine kk_gi hG (c := 7) (k := 3) (a := p0) rfl rfl rfl rfl (fun v1 => ?_)
    refine kks hG rfl rfl ?_
    refine kk_ieq hG (t := 47) rfl rfl ?_ ?_
    · refine kk_ic hG rfl cc_i1 ?_
      refine kk_go hG (t := 52) rfl rfl ?_
      exact kk_ri hG rfl rfl rfl k
    refine kk_aln hG (x := (some p0)) rfl rfl ?_
    refine kk_gi hG (c := 7) (k := 4) (a := p0) rfl rfl rfl rfl (fun v2 => ?_)
    refine kk_zle hG (t := 51) rfl rfl ?_ ?_
    · refine kk_ic hG rfl cc_i0 ?_
      exact kk_ri hG rfl rfl rfl k
    refine kk_ic hG rfl cc_i1 ?_
    refine kk_go hG (t := 52) rfl rfl ?_
    exact kk_ri hG rfl rfl rfl k
  refine (show KK sa R base G 0 [(0, va_rf (some p0)), (1, .int p1)] [] s kc ks (C_Re_hasTagOption sa p0 p1 s kc ks Q) from ?_) hw h
  refine kk_aln hG (x := (some p0)) rfl rfl ?_
  refine kk_ic hG rfl cc_i0 ?_
  refine kk_pi hG (c := 7) (k := 4) (a := p0) rfl rfl rfl rfl (fun s1 => ?_)
  refine kk_aln hG (x := (some p0)) rfl rfl ?_
  refine kk_gi hG (c := 7) (k := 3) (a := p0) rfl rfl rfl rfl (fun v2 => ?_)
  refine kks hG rfl rfl ?_
  refine kk_ic hG rfl cc_i2 ?_
  refine kks hG rfl rfl ?_
  refine kk_ine hG (t := 32) rfl rfl ?_ ?_
  · exact kk_wl hG [0, 1] rfl (b32 _ _ _)
  refine kk_aln hG (x := (some p0)) rfl rfl ?_
  refine kks hG rfl rfl ?_
  refine kk_lds hG (a := sa 18) rfl rfl ?_
  refine kk_cx (w := .int) hG 0 rfl rfl (Nat.le_of_ble_eq_true rfl) (by decide) rfl (st' := []) rfl (cats_le (Nat.le_of_ble_eq_true rfl)) (fun _ hw h k => kk_rcv h.1 (kc_Re_is base sa hw h.2 k)) (fun r3 sr3 cr3 dr3 => ?_)
  refine kk_zeq hG (t := 32) rfl rfl ?_ ?_
  · exact kk_wl hG [0, 1] rfl (b32 _ _ _)
  refine kk_aln hG (x := (some p0)) rfl rfl ?_
  refine kks hG rfl rfl ?_
  refine kk_ic hG rfl cc_i1 ?_
  refine kks hG rfl rfl ?_
  refine kk_pi hG (c := 7) (k := 4) (a := p0) rfl rfl rfl rfl (fun s4 => ?_)
  exact kk_wl hG [0, 1] rfl (b32 _ _ _)
def C_Re_staticLine_b134 (sa : Nat → Nat) (p0 : Nat) (a1 : Option Nat) (a2 : Int32) (a3 : Int32) (a4 : Option Nat) (s : cS) (kc ks : Nat) (Q : (Int32 → cS → Nat → Nat → Prop)) : Prop := ob a4 (fun b1 => (ob (pI s 8 4 b1 a2) (fun s2 => (ob (pI s2 8 5 b1 a3) (fun s3 => (ob (gP s3 7 6 p0) (fun v4 => (ob a1 (fun b5 => (okO s3 9 b5 ∧ C_Rr_settle sa b5 v4 s3 kc ks (fun sr6 cr6 dr6 => (Q (0 : Int32) sr6 cr6 dr6))))))))))))
def C_Re_staticLine_b73 (sa : Nat → Nat) (p0 : Nat) (a1 : Option Nat) (a2 : Int32) (u0 : Int32) (s : cS) (kc ks : Nat) (Q : (Int32 → cS → Nat → Nat → Prop)) : Prop := if a2 = ((-1) : Int32) then (Q (4 : Int32) s kc ks) else (if u0 = ((-1) : Int32) then (Q (4 : Int32) s kc ks) else (ob a1 (fun b1 => (ob (gP s 9 7 b1) (fun v2 => (ob (gP s 7 6 p0) (fun v3 => (ob v2 (fun b4 => (okO s 10 b4 ∧ C_Ta_find sa b4 v3 s kc ks (fun r5 sr5 cr5 dr5 => (if r5 = none then (ob (gP sr5 9 7 b1) (fun v6 => (ob v6 (fun b7 => (ob (gI sr5 10 1 b7) (fun v8 => (if v8 < (32 : Int32) then (ob (gP sr5 9 7 b1) (fun v9 => (ob (gP sr5 7 6 p0) (fun v10 => (ob v9 (fun b11 => (okO sr5 10 b11 ∧ C_Ta_add sa b11 v10 u0 a2 sr5 cr5 dr5 (fun r12 sr12 cr12 dr12 => ((C_Re_staticLine_b134 sa p0 (some b1) a2 u0 r12 sr12 cr12 dr12 Q)))))))))) else (Q (6 : Int32) sr5 cr5 dr5)))))))) else ((C_Re_staticLine_b134 sa p0 (some b1) a2 u0 r5 sr5 cr5 dr5 Q))))))))))))))
def C_Re_staticLine (sa : Nat → Nat) (p0 : Nat) (s : cS) (kc ks : Nat) (Q : (Int32 → cS → Nat → Nat → Prop)) : Prop := ob (gI s 7 3 p0) (fun v1 => (if v1 < (4 : Int32) then (Q (2 : Int32) s kc ks) else (okO s 7 p0 ∧ C_Re_hasTagOption sa p0 (4 : Int32) s kc ks (fun r2 sr2 cr2 dr2 => (if r2 = 0 then (Q (2 : Int32) sr2 cr2 dr2) else (okO sr2 7 p0 ∧ C_Re_routerNamed sa p0 (1 : Int32) sr2 cr2 dr2 (fun r3 sr3 cr3 dr3 => (if r3 = none then (Q (3 : Int32) sr3 cr3 dr3) else (okO sr3 7 p0 ∧ C_Re_takePrefix sa p0 (2 : Int32) (0 : Int32) sr3 cr3 dr3 (fun r4 sr4 cr4 dr4 => (if r4 = 0 then (Q (5 : Int32) sr4 cr4 dr4) else (okO sr4 7 p0 ∧ C_Re_number sa p0 (3 : Int32) (1 : Int32) (15 : Int32) sr4 cr4 dr4 (fun r5 sr5 cr5 dr5 => (ob (gI sr5 7 4 p0) (fun v6 => (if v6 = 0 then ((C_Re_staticLine_b73 sa p0 r3 r5 (0 : Int32) sr5 cr5 dr5 Q)) else (ob (gI sr5 7 4 p0) (fun v7 => (okO sr5 7 p0 ∧ C_Re_number sa p0 v7 (0 : Int32) (65535 : Int32) sr5 cr5 dr5 (fun r8 sr8 cr8 dr8 => ((C_Re_staticLine_b73 sa p0 r3 r5 r8 sr8 cr8 dr8 Q))))))))))))))))))))))
set_option maxRecDepth 100000 in
set_option maxHeartbeats 4000000 in
theorem kc_Re_staticLine (base : Nat) (sa : Nat → Nat) {R : pmM} {s : cS} {kc ks : Nat} {Rt : pmR} {p0 : Nat} {Q : (Int32 → cS → Nat → Nat → Prop)} (hw : cW sa R base s) (h : C_Re_staticLine sa p0 s kc ks Q) (k : ∀ r s' kc' ks', cW sa R base s' → Q r s' kc' ks' → Rt (some (.int r)) (cM R s') kc' ks') : kP_Re_staticLine base sa [.ref p0] (cM R s) kc ks Rt := by
  refine ⟨Nat.le_of_ble_eq_true rfl, fun G hG => ?_⟩
  have b134 : ∀ (a1 : Option Nat) (a2 : Int32) (a3 : Int32) (a4 : Option Nat) (s : cS) (kc ks : Nat), KK sa R base G 134 [(0, va_rf (some p0)), (1, va_rf a1), (2, .int a2), (3, .int a3), (4, va_rf a4)] [] s kc ks (C_Re_staticLine_b134 sa p0 a1 a2 a3 a4 s kc ks Q) := by
    intro a1 a2 a3 a4 s kc ks
    refine kk_al hG (x := a4) rfl rfl ?_
    refine kks hG rfl rfl ?_
    refine kk_ob (fun b1 eb1 => ?_)
    subst eb1
    refine kk_pi hG (c := 8) (k := 4) (a := b1) rfl rfl rfl rfl (fun s2 => ?_)
    refine kk_al hG (x := (some b1)) rfl rfl ?_
    refine kks hG rfl rfl ?_
    refine kk_pi hG (c := 8) (k := 5) (a := b1) rfl rfl rfl rfl (fun s3 => ?_)
    refine kk_aln hG (x := a1) rfl rfl ?_
    refine kk_aln hG (x := (some p0)) rfl rfl ?_
    refine kk_gp hG (c := 7) (k := 6) (a := p0) rfl rfl rfl rfl (fun v4 => ?_)
    refine kk_ob (fun b5 eb5 => ?_)
    subst eb5
    refine kk_cv hG 0 rfl rfl (Nat.le_of_ble_eq_true rfl) (by decide) rfl (st' := []) rfl (cats_le (Nat.le_of_ble_eq_true rfl)) (fun _ hw h k => kk_rcv h.1 (kc_Rr_settle base sa hw h.2 k)) (fun sr6 cr6 dr6 => ?_)
    refine kk_ic hG rfl cc_i0 ?_
    exact kk_ri hG rfl rfl rfl k
  have b73 : ∀ (a1 : Option Nat) (a2 : Int32) (u0 : Int32) (s : cS) (kc ks : Nat), KK sa R base G 73 [(0, va_rf (some p0)), (1, va_rf a1), (2, .int a2)] [.int u0] s kc ks (C_Re_staticLine_b73 sa p0 a1 a2 u0 s kc ks Q) := by
    intro a1 a2 u0 s kc ks
    refine kk_st hG (L' := [(3, .int u0), (0, va_rf (some p0)), (1, va_rf a1), (2, .int a2)]) rfl rfl (Nat.le_of_ble_eq_true rfl) rfl ?_
    refine kks hG rfl rfl ?_
    refine kk_ic hG rfl cc_im1 ?_
    refine kk_ieq hG (t := 84) rfl rfl ?_ ?_
    · refine kk_ic hG rfl cc_i4 ?_
      exact kk_ri hG rfl rfl rfl k
    refine kks hG rfl rfl ?_
    refine kk_ic hG rfl cc_im1 ?_
    refine kk_ine hG (t := 86) rfl rfl ?_ ?_
    · refine kk_aln hG (x := a1) rfl rfl ?_
      refine kk_ob (fun b1 eb1 => ?_)
      subst eb1
      refine kk_gp hG (c := 9) (k := 7) (a := b1) rfl rfl rfl rfl (fun v2 => ?_)
      refine kk_aln hG (x := (some p0)) rfl rfl ?_
      refine kk_gp hG (c := 7) (k := 6) (a := p0) rfl rfl rfl rfl (fun v3 => ?_)
      refine kk_ob (fun b4 eb4 => ?_)
      subst eb4
      refine kk_cx (w := va_rf) hG 0 rfl rfl (Nat.le_of_ble_eq_true rfl) (by decide) rfl (st' := []) rfl (cats_le (Nat.le_of_ble_eq_true rfl)) (fun _ hw h k => kk_rcv h.1 (kc_Ta_find base sa hw h.2 k)) (fun r5 sr5 cr5 dr5 => ?_)
      refine kk_as hG (x := r5) (L' := [(4, va_rf r5), (3, .int u0), (0, va_rf (some p0)), (1, va_rf (some b1)), (2, .int a2)]) rfl (Nat.le_of_ble_eq_true rfl) rfl ?_
      refine kk_al hG (x := r5) rfl rfl ?_
      refine kk_nnl hG (x := r5) (t := 134) rfl rfl ?_ ?_
      · exact kk_wl hG [2, 3, 4, 1, 0] rfl (b134 _ _ _ _ _ _ _)
      refine kk_aln hG (x := (some b1)) rfl rfl ?_
      refine kk_gp hG (c := 9) (k := 7) (a := b1) rfl rfl rfl rfl (fun v6 => ?_)
      refine kk_ob (fun b7 eb7 => ?_)
      subst eb7
      refine kk_gi hG (c := 10) (k := 1) (a := b7) rfl rfl rfl rfl (fun v8 => ?_)
      refine kk_bi hG rfl cc_b32 ?_
      refine kk_ilt hG (t := 119) rfl rfl ?_ ?_
      · refine kk_aln hG (x := (some b1)) rfl rfl ?_
        refine kk_gp hG (c := 9) (k := 7) (a := b1) rfl rfl rfl rfl (fun v9 => ?_)
        refine kk_aln hG (x := (some p0)) rfl rfl ?_
        refine kk_gp hG (c := 7) (k := 6) (a := p0) rfl rfl rfl rfl (fun v10 => ?_)
        refine kks hG rfl rfl ?_
        refine kks hG rfl rfl ?_
        refine kk_ob (fun b11 eb11 => ?_)
        subst eb11
        refine kk_cx (w := va_rf) hG 0 rfl rfl (Nat.le_of_ble_eq_true rfl) (by decide) rfl (st' := []) rfl (cats_le (Nat.le_of_ble_eq_true rfl)) (fun _ hw h k => kk_rcv h.1 (kc_Ta_add base sa hw h.2 k)) (fun r12 sr12 cr12 dr12 => ?_)
        refine kk_as hG (x := r12) (L' := [(4, va_rf r12), (3, .int u0), (0, va_rf (some p0)), (1, va_rf (some b1)), (2, .int a2)]) rfl (Nat.le_of_ble_eq_true rfl) rfl ?_
        exact kk_wl hG [2, 3, 4, 1, 0] rfl (b134 _ _ _ _ _ _ _)
      refine kk_bi hG rfl cc_b6 ?_
      exact kk_ri hG rfl rfl rfl k
    refine kk_ic hG rfl cc_i4 ?_
    exact kk_ri hG rfl rfl rfl k
  refine (show KK sa R base G 0 [(0, va_rf (some p0))] [] s kc ks (C_Re_staticLine sa p0 s kc ks Q) from ?_) hw h
  refine kk_aln hG (x := (some p0)) rfl rfl ?_
  refine kk_gi hG (c := 7) (k := 3) (a := p0) rfl rfl rfl rfl (fun v1 => ?_)
  refine kk_ic hG rfl cc_i4 ?_
  refine kk_ilt hG (t := 16) rfl rfl ?_ ?_
  · refine kk_ic hG rfl cc_i2 ?_
    exact kk_ri hG rfl rfl rfl k
  refine kk_aln hG (x := (some p0)) rfl rfl ?_
  refine kk_ic hG rfl cc_i4 ?_
  refine kk_cx (w := .int) hG 0 rfl rfl (Nat.le_of_ble_eq_true rfl) (by decide) rfl (st' := []) rfl (cats_le (Nat.le_of_ble_eq_true rfl)) (fun _ hw h k => kk_rcv h.1 (kc_Re_hasTagOption base sa hw h.2 k)) (fun r2 sr2 cr2 dr2 => ?_)
  refine kk_zne hG (t := 18) rfl rfl ?_ ?_
  · refine kk_aln hG (x := (some p0)) rfl rfl ?_
    refine kk_ic hG rfl cc_i1 ?_
    refine kk_cx (w := va_rf) hG 0 rfl rfl (Nat.le_of_ble_eq_true rfl) (by decide) rfl (st' := []) rfl (cats_le (Nat.le_of_ble_eq_true rfl)) (fun _ hw h k => kk_rcv h.1 (kc_Re_routerNamed base sa hw h.2 k)) (fun r3 sr3 cr3 dr3 => ?_)
    refine kk_asn hG (x := r3) (L' := [(1, va_rf r3), (0, va_rf (some p0))]) rfl (Nat.le_of_ble_eq_true rfl) rfl ?_
    refine kk_aln hG (x := r3) rfl rfl ?_
    refine kk_nnl hG (x := r3) (t := 30) rfl rfl ?_ ?_
    · refine kk_aln hG (x := (some p0)) rfl rfl ?_
      refine kk_ic hG rfl cc_i2 ?_
      refine kk_ic hG rfl cc_i0 ?_
      refine kk_cx (w := .int) hG 0 rfl rfl (Nat.le_of_ble_eq_true rfl) (by decide) rfl (st' := []) rfl (cats_le (Nat.le_of_ble_eq_true rfl)) (fun _ hw h k => kk_rcv h.1 (kc_Re_takePrefix base sa hw h.2 k)) (fun r4 sr4 cr4 dr4 => ?_)
      refine kk_zne hG (t := 41) rfl rfl ?_ ?_
      · refine kk_aln hG (x := (some p0)) rfl rfl ?_
        refine kk_ic hG rfl cc_i3 ?_
        refine kk_ic hG rfl cc_i1 ?_
        refine kk_bi hG rfl cc_b15 ?_
        refine kk_cx (w := .int) hG 0 rfl rfl (Nat.le_of_ble_eq_true rfl) (by decide) rfl (st' := []) rfl (cats_le (Nat.le_of_ble_eq_true rfl)) (fun _ hw h k => kk_rcv h.1 (kc_Re_number base sa hw h.2 k)) (fun r5 sr5 cr5 dr5 => ?_)
        refine kk_st hG (L' := [(2, .int r5), (1, va_rf r3), (0, va_rf (some p0))]) rfl rfl (Nat.le_of_ble_eq_true rfl) (by cases r3 <;> rfl) ?_
        refine kk_aln hG (x := (some p0)) rfl rfl ?_
        refine kk_gi hG (c := 7) (k := 4) (a := p0) rfl rfl rfl rfl (fun v6 => ?_)
        refine kk_zne hG (t := 61) rfl rfl ?_ ?_
        · refine kk_aln hG (x := (some p0)) rfl rfl ?_
          refine kk_aln hG (x := (some p0)) rfl rfl ?_
          refine kk_gi hG (c := 7) (k := 4) (a := p0) rfl rfl rfl rfl (fun v7 => ?_)
          refine kk_ic hG rfl cc_i0 ?_
          refine kk_lw hG (v := (65535 : Int32)) rfl rfl ?_
          refine kk_cx (w := .int) hG 0 rfl rfl (Nat.le_of_ble_eq_true rfl) (by decide) rfl (st' := []) rfl (cats_le (Nat.le_of_ble_eq_true rfl)) (fun _ hw h k => kk_rcv h.1 (kc_Re_number base sa hw h.2 k)) (fun r8 sr8 cr8 dr8 => ?_)
          exact kk_wl hG [2, 1, 0] rfl (b73 _ _ _ _ _ _)
        refine kk_ic hG rfl cc_i0 ?_
        refine kk_go hG (t := 73) rfl rfl ?_
        exact kk_wl hG [2, 1, 0] rfl (b73 _ _ _ _ _ _)
      refine kk_ic hG rfl cc_i5 ?_
      exact kk_ri hG rfl rfl rfl k
    refine kk_ic hG rfl cc_i3 ?_
    exact kk_ri hG rfl rfl rfl k
  refine kk_ic hG rfl cc_i2 ?_
  exact kk_ri hG rfl rfl rfl k
def C_Ta_remove_s32 (sa : Nat → Nat) (p0 : Nat) (a2 : Option Nat) (a3 : Int32) (s : cS) (kc ks : Nat) (Q : (cS → Nat → Nat → Prop)) (P32 : (Int32 → cS → Nat → Nat → Prop)) : Prop := ob (gI s 10 1 p0) (fun v1 => (if a3 < v1 then (ob (gP s 10 0 p0) (fun v6 => (ob (gP s 10 0 p0) (fun v7 => (ob v7 (fun b8 => (ob (rQ s b8 (a3 + (1 : Int32))) (fun v9 => (ob v6 (fun b10 => (ob (wQ s b10 a3 v9) (fun s11 => ((P32 (a3 + (1 : Int32)) s11 kc ks)))))))))))))) else ((ob (gP s 10 0 p0) (fun v2 => (ob (gI s 10 1 p0) (fun v3 => (ob v2 (fun b4 => (ob (wQ s b4 v3 a2) (fun s5 => (Q s5 kc ks))))))))))))
def C_Ta_remove_b32 (sa : Nat → Nat) (p0 : Nat) (a2 : Option Nat) (a3 : Int32) (s : cS) (kc ks : Nat) (Q : (cS → Nat → Nat → Prop)) : Prop := ∀ P32 : (Int32 → cS → Nat → Nat → Prop), (∀ (a3 : Int32) (s : cS) (kc ks : Nat), C_Ta_remove_s32 sa p0 a2 a3 s kc ks Q P32 → P32 a3 s kc ks) → P32 a3 s kc ks
def C_Ta_remove (sa : Nat → Nat) (p0 : Nat) (p1 : Int32) (s : cS) (kc ks : Nat) (Q : (cS → Nat → Nat → Prop)) : Prop := if p1 < 0 then (Q s kc ks) else (ob (gI s 10 1 p0) (fun v1 => (if p1 < v1 then (ob (gP s 10 0 p0) (fun v2 => (ob v2 (fun b3 => (ob (rQ s b3 p1) (fun v4 => (ob (gI s 10 1 p0) (fun v5 => (ob (pI s 10 1 p0 (v5 - (1 : Int32))) (fun s6 => ((C_Ta_remove_b32 sa p0 v4 p1 s6 kc ks Q)))))))))))) else (Q s kc ks))))
set_option maxRecDepth 100000 in
set_option maxHeartbeats 4000000 in
theorem kc_Ta_remove (base : Nat) (sa : Nat → Nat) {R : pmM} {s : cS} {kc ks : Nat} {Rt : pmR} {p0 : Nat} {p1 : Int32} {Q : (cS → Nat → Nat → Prop)} (hw : cW sa R base s) (h : C_Ta_remove sa p0 p1 s kc ks Q) (k : ∀ s' kc' ks', cW sa R base s' → Q s' kc' ks' → Rt none (cM R s') kc' ks') : kP_Ta_remove base sa [.ref p0, .int p1] (cM R s) kc ks Rt := by
  refine ⟨Nat.le_of_ble_eq_true rfl, fun G hG => ?_⟩
  have b32 : ∀ (a2 : Option Nat) (a3 : Int32) (s : cS) (kc ks : Nat), KK sa R base G 32 [(0, va_rf (some p0)), (2, va_rf a2), (3, .int a3)] [] s kc ks (C_Ta_remove_b32 sa p0 a2 a3 s kc ks Q) := by
    intro a2
    have H : ∀ (P32 : (Int32 → cS → Nat → Nat → Prop)) (hP32 : ∀ (a3 : Int32) (s : cS) (kc ks : Nat), P32 a3 s kc ks → cW sa R base s → G 32 [(0, va_rf (some p0)), (2, va_rf a2), (3, .int a3)] [] (cM R s) kc ks) (a3 : Int32) (s : cS) (kc ks : Nat), KK sa R base G 32 [(0, va_rf (some p0)), (2, va_rf a2), (3, .int a3)] [] s kc ks (C_Ta_remove_s32 sa p0 a2 a3 s kc ks Q P32) := by
      intro P32 hP32
      intro a3 s kc ks
      refine kks hG rfl rfl ?_
      refine kk_aln hG (x := (some p0)) rfl rfl ?_
      refine kk_gi hG (c := 10) (k := 1) (a := p0) rfl rfl rfl rfl (fun v1 => ?_)
      refine kk_ige hG (t := 60) rfl rfl ?_ ?_
      · refine kk_aln hG (x := (some p0)) rfl rfl ?_
        refine kk_gp hG (c := 10) (k := 0) (a := p0) rfl rfl rfl rfl (fun v2 => ?_)
        refine kk_aln hG (x := (some p0)) rfl rfl ?_
        refine kk_gi hG (c := 10) (k := 1) (a := p0) rfl rfl rfl rfl (fun v3 => ?_)
        refine kk_aln hG (x := a2) rfl rfl ?_
        refine kk_ob (fun b4 eb4 => ?_)
        subst eb4
        refine kk_aas hG (a := b4) (x := a2) rfl (fun s5 => ?_)
        exact kk_rv hG rfl rfl k
      refine kk_aln hG (x := (some p0)) rfl rfl ?_
      refine kk_gp hG (c := 10) (k := 0) (a := p0) rfl rfl rfl rfl (fun v6 => ?_)
      refine kks hG rfl rfl ?_
      refine kk_aln hG (x := (some p0)) rfl rfl ?_
      refine kk_gp hG (c := 10) (k := 0) (a := p0) rfl rfl rfl rfl (fun v7 => ?_)
      refine kks hG rfl rfl ?_
      refine kk_ic hG rfl cc_i1 ?_
      refine kks hG rfl rfl ?_
      refine kk_ob (fun b8 eb8 => ?_)
      subst eb8
      refine kk_aa hG (a := b8) rfl (fun v9 => ?_)
      refine kk_ob (fun b10 eb10 => ?_)
      subst eb10
      refine kk_aas hG (a := b10) (x := v9) rfl (fun s11 => ?_)
      refine kk_inc hG (L' := [(3, .int (a3 + (1 : Int32))), (0, va_rf (some p0)), (2, va_rf a2)]) rfl (Nat.le_of_ble_eq_true rfl) rfl cc_i1 (by cases a2 <;> rfl) ?_
      refine kk_go hG (t := 32) rfl rfl ?_
      exact kk_wl hG [1, 2, 0] rfl (fun hw h => hP32 _ _ _ _ h hw)
    exact fun a3 s kc ks hw h => h (fun a3 s kc ks => cW sa R base s → G 32 [(0, va_rf (some p0)), (2, va_rf a2), (3, .int a3)] [] (cM R s) kc ks) (fun a3 s kc ks hs hw => H _ (fun _ _ _ _ hp hw => hp hw) a3 s kc ks hw hs) hw
  refine (show KK sa R base G 0 [(0, va_rf (some p0)), (1, .int p1)] [] s kc ks (C_Ta_remove sa p0 p1 s kc ks Q) from ?_) hw h
  refine kks hG rfl rfl ?_
  refine kk_zlt hG (t := 12) rfl rfl ?_ ?_
  · exact kk_rv hG rfl rfl k
  refine kks hG rfl rfl ?_
  refine kk_aln hG (x := (some p0)) rfl rfl ?_
  refine kk_gi hG (c := 10) (k := 1) (a := p0) rfl rfl rfl rfl (fun v1 => ?_)
  refine kk_ilt hG (t := 13) rfl rfl ?_ ?_
  · refine kk_aln hG (x := (some p0)) rfl rfl ?_
    refine kk_gp hG (c := 10) (k := 0) (a := p0) rfl rfl rfl rfl (fun v2 => ?_)
    refine kks hG rfl rfl ?_
    refine kk_ob (fun b3 eb3 => ?_)
    subst eb3
    refine kk_aa hG (a := b3) rfl (fun v4 => ?_)
    refine kk_asn hG (x := v4) (L' := [(2, va_rf v4), (0, va_rf (some p0)), (1, .int p1)]) rfl (Nat.le_of_ble_eq_true rfl) rfl ?_
    refine kk_aln hG (x := (some p0)) rfl rfl ?_
    refine kk_dup hG (x := (some p0)) rfl ?_
    refine kk_gi hG (c := 10) (k := 1) (a := p0) rfl rfl rfl rfl (fun v5 => ?_)
    refine kk_ic hG rfl cc_i1 ?_
    refine kks hG rfl rfl ?_
    refine kk_pi hG (c := 10) (k := 1) (a := p0) rfl rfl rfl rfl (fun s6 => ?_)
    refine kks hG rfl rfl ?_
    refine kk_st hG (L' := [(3, .int p1), (2, va_rf v4), (0, va_rf (some p0)), (1, .int p1)]) rfl rfl (Nat.le_of_ble_eq_true rfl) (by cases v4 <;> rfl) ?_
    exact kk_wl hG [2, 1, 0] rfl (b32 _ _ _ _ _)
  exact kk_rv hG rfl rfl k
def C_Ta_removeOf (sa : Nat → Nat) (p0 : Nat) (p1 : Option Nat) (s : cS) (kc ks : Nat) (Q : (cS → Nat → Nat → Prop)) : Prop := okO s 10 p0 ∧ C_Ta_placeOf sa p0 p1 s kc ks (fun r1 sr1 cr1 dr1 => (okO sr1 10 p0 ∧ C_Ta_remove sa p0 r1 sr1 cr1 dr1 (fun sr2 cr2 dr2 => (Q sr2 cr2 dr2))))
set_option maxRecDepth 100000 in
set_option maxHeartbeats 4000000 in
theorem kc_Ta_removeOf (base : Nat) (sa : Nat → Nat) {R : pmM} {s : cS} {kc ks : Nat} {Rt : pmR} {p0 : Nat} {p1 : Option Nat} {Q : (cS → Nat → Nat → Prop)} (hw : cW sa R base s) (h : C_Ta_removeOf sa p0 p1 s kc ks Q) (k : ∀ s' kc' ks', cW sa R base s' → Q s' kc' ks' → Rt none (cM R s') kc' ks') : kP_Ta_removeOf base sa [.ref p0, va_rf p1] (cM R s) kc ks Rt := by
  refine ⟨by cases p1 <;> exact Nat.le_of_ble_eq_true rfl, fun G hG => ?_⟩
  have eL : lv_args 0 [.ref p0, va_rf p1] = [(0, va_rf (some p0)), (1, va_rf p1)] := by cases p1 <;> rfl
  rw [eL]
  refine (show KK sa R base G 0 [(0, va_rf (some p0)), (1, va_rf p1)] [] s kc ks (C_Ta_removeOf sa p0 p1 s kc ks Q) from ?_) hw h
  refine kk_aln hG (x := (some p0)) rfl rfl ?_
  refine kk_aln hG (x := (some p0)) rfl rfl ?_
  refine kk_aln hG (x := p1) rfl rfl ?_
  refine kk_cx (w := .int) hG 0 rfl rfl (Nat.le_of_ble_eq_true rfl) (by decide) rfl (st' := [va_rf (some p0)]) rfl (cats_le (Nat.le_of_ble_eq_true rfl)) (fun _ hw h k => kk_rcv h.1 (kc_Ta_placeOf base sa hw h.2 k)) (fun r1 sr1 cr1 dr1 => ?_)
  refine kk_cv hG 0 rfl rfl (Nat.le_of_ble_eq_true rfl) (by decide) rfl (st' := []) rfl (cats_le (Nat.le_of_ble_eq_true rfl)) (fun _ hw h k => kk_rcv h.1 (kc_Ta_remove base sa hw h.2 k)) (fun sr2 cr2 dr2 => ?_)
  exact kk_rv hG rfl rfl k
def C_Re_nostaticLine (sa : Nat → Nat) (p0 : Nat) (s : cS) (kc ks : Nat) (Q : (Int32 → cS → Nat → Nat → Prop)) : Prop := ob (gI s 7 3 p0) (fun v1 => (if v1 = (3 : Int32) then (okO s 7 p0 ∧ C_Re_routerNamed sa p0 (1 : Int32) s kc ks (fun r2 sr2 cr2 dr2 => (if r2 = none then (Q (3 : Int32) sr2 cr2 dr2) else (okO sr2 7 p0 ∧ C_Re_takePrefix sa p0 (2 : Int32) (0 : Int32) sr2 cr2 dr2 (fun r3 sr3 cr3 dr3 => (if r3 = 0 then (Q (5 : Int32) sr3 cr3 dr3) else (ob r2 (fun b4 => (ob (gP sr3 9 7 b4) (fun v5 => (ob (gP sr3 7 6 p0) (fun v6 => (ob v5 (fun b7 => (okO sr3 10 b7 ∧ C_Ta_find sa b7 v6 sr3 cr3 dr3 (fun r8 sr8 cr8 dr8 => (if r8 = none then (Q (3 : Int32) sr8 cr8 dr8) else (ob (gP sr8 9 7 b4) (fun v9 => (ob (gP sr8 7 6 p0) (fun v10 => (ob v9 (fun b11 => (okO sr8 10 b11 ∧ C_Ta_removeOf sa b11 v10 sr8 cr8 dr8 (fun sr12 cr12 dr12 => (ob (gP sr12 7 6 p0) (fun v13 => (okO sr12 9 b4 ∧ C_Rr_settle sa b4 v13 sr12 cr12 dr12 (fun sr14 cr14 dr14 => (Q (0 : Int32) sr14 cr14 dr14)))))))))))))))))))))))))))))) else (Q (2 : Int32) s kc ks)))
set_option maxRecDepth 100000 in
set_option maxHeartbeats 4000000 in
theorem kc_Re_nostaticLine (base : Nat) (sa : Nat → Nat) {R : pmM} {s : cS} {kc ks : Nat} {Rt : pmR} {p0 : Nat} {Q : (Int32 → cS → Nat → Nat → Prop)} (hw : cW sa R base s) (h : C_Re_nostaticLine sa p0 s kc ks Q) (k : ∀ r s' kc' ks', cW sa R base s' → Q r s' kc' ks' → Rt (some (.int r)) (cM R s') kc' ks') : kP_Re_nostaticLine base sa [.ref p0] (cM R s) kc ks Rt := by
  refine ⟨Nat.le_of_ble_eq_true rfl, fun G hG => ?_⟩
  refine (show KK sa R base G 0 [(0, va_rf (some p0))] [] s kc ks (C_Re_nostaticLine sa p0 s kc ks Q) from ?_) hw h
  refine kk_aln hG (x := (some p0)) rfl rfl ?_
  refine kk_gi hG (c := 7) (k := 3) (a := p0) rfl rfl rfl rfl (fun v1 => ?_)
  refine kk_ic hG rfl cc_i3 ?_
  refine kk_ieq hG (t := 10) rfl rfl ?_ ?_
  · refine kk_aln hG (x := (some p0)) rfl rfl ?_
    refine kk_ic hG rfl cc_i1 ?_
    refine kk_cx (w := va_rf) hG 0 rfl rfl (Nat.le_of_ble_eq_true rfl) (by decide) rfl (st' := []) rfl (cats_le (Nat.le_of_ble_eq_true rfl)) (fun _ hw h k => kk_rcv h.1 (kc_Re_routerNamed base sa hw h.2 k)) (fun r2 sr2 cr2 dr2 => ?_)
    refine kk_asn hG (x := r2) (L' := [(1, va_rf r2), (0, va_rf (some p0))]) rfl (Nat.le_of_ble_eq_true rfl) rfl ?_
    refine kk_aln hG (x := r2) rfl rfl ?_
    refine kk_nnl hG (x := r2) (t := 22) rfl rfl ?_ ?_
    · refine kk_aln hG (x := (some p0)) rfl rfl ?_
      refine kk_ic hG rfl cc_i2 ?_
      refine kk_ic hG rfl cc_i0 ?_
      refine kk_cx (w := .int) hG 0 rfl rfl (Nat.le_of_ble_eq_true rfl) (by decide) rfl (st' := []) rfl (cats_le (Nat.le_of_ble_eq_true rfl)) (fun _ hw h k => kk_rcv h.1 (kc_Re_takePrefix base sa hw h.2 k)) (fun r3 sr3 cr3 dr3 => ?_)
      refine kk_zne hG (t := 33) rfl rfl ?_ ?_
      · refine kk_aln hG (x := r2) rfl rfl ?_
        refine kk_ob (fun b4 eb4 => ?_)
        subst eb4
        refine kk_gp hG (c := 9) (k := 7) (a := b4) rfl rfl rfl rfl (fun v5 => ?_)
        refine kk_aln hG (x := (some p0)) rfl rfl ?_
        refine kk_gp hG (c := 7) (k := 6) (a := p0) rfl rfl rfl rfl (fun v6 => ?_)
        refine kk_ob (fun b7 eb7 => ?_)
        subst eb7
        refine kk_cx (w := va_rf) hG 0 rfl rfl (Nat.le_of_ble_eq_true rfl) (by decide) rfl (st' := []) rfl (cats_le (Nat.le_of_ble_eq_true rfl)) (fun _ hw h k => kk_rcv h.1 (kc_Ta_find base sa hw h.2 k)) (fun r8 sr8 cr8 dr8 => ?_)
        refine kk_nnl hG (x := r8) (t := 49) rfl rfl ?_ ?_
        · refine kk_aln hG (x := (some b4)) rfl rfl ?_
          refine kk_gp hG (c := 9) (k := 7) (a := b4) rfl rfl rfl rfl (fun v9 => ?_)
          refine kk_aln hG (x := (some p0)) rfl rfl ?_
          refine kk_gp hG (c := 7) (k := 6) (a := p0) rfl rfl rfl rfl (fun v10 => ?_)
          refine kk_ob (fun b11 eb11 => ?_)
          subst eb11
          refine kk_cv hG 0 rfl rfl (Nat.le_of_ble_eq_true rfl) (by decide) rfl (st' := []) rfl (cats_le (Nat.le_of_ble_eq_true rfl)) (fun _ hw h k => kk_rcv h.1 (kc_Ta_removeOf base sa hw h.2 k)) (fun sr12 cr12 dr12 => ?_)
          refine kk_aln hG (x := (some b4)) rfl rfl ?_
          refine kk_aln hG (x := (some p0)) rfl rfl ?_
          refine kk_gp hG (c := 7) (k := 6) (a := p0) rfl rfl rfl rfl (fun v13 => ?_)
          refine kk_cv hG 0 rfl rfl (Nat.le_of_ble_eq_true rfl) (by decide) rfl (st' := []) rfl (cats_le (Nat.le_of_ble_eq_true rfl)) (fun _ hw h k => kk_rcv h.1 (kc_Rr_settle base sa hw h.2 k)) (fun sr14 cr14 dr14 => ?_)
          refine kk_ic hG rfl cc_i0 ?_
          exact kk_ri hG rfl rfl rfl k
        refine kk_ic hG rfl cc_i3 ?_
        exact kk_ri hG rfl rfl rfl k
      refine kk_ic hG rfl cc_i5 ?_
      exact kk_ri hG rfl rfl rfl k
    refine kk_ic hG rfl cc_i3 ?_
    exact kk_ri hG rfl rfl rfl k
  refine kk_ic hG rfl cc_i2 ?_
  exact kk_ri hG rfl rfl rfl k
def C_Pl_isFull (sa : Nat → Nat) (p0 : Nat) (s : cS) (kc ks : Nat) (Q : (Int32 → cS → Nat → Nat → Prop)) : Prop := ob (gI s 6 5 p0) (fun v1 => (ob (gP s 6 1 p0) (fun v2 => (ob v2 (fun b3 => (ob (aL s b3) (fun v4 => (if v1 < v4 then (Q (0 : Int32) s kc ks) else (Q (1 : Int32) s kc ks)))))))))
set_option maxRecDepth 100000 in
set_option maxHeartbeats 4000000 in
theorem kc_Pl_isFull (base : Nat) (sa : Nat → Nat) {R : pmM} {s : cS} {kc ks : Nat} {Rt : pmR} {p0 : Nat} {Q : (Int32 → cS → Nat → Nat → Prop)} (hw : cW sa R base s) (h : C_Pl_isFull sa p0 s kc ks Q) (k : ∀ r s' kc' ks', cW sa R base s' → Q r s' kc' ks' → Rt (some (.int r)) (cM R s') kc' ks') : kP_Pl_isFull base sa [.ref p0] (cM R s) kc ks Rt := by
  refine ⟨Nat.le_of_ble_eq_true rfl, fun G hG => ?_⟩
  refine (show KK sa R base G 0 [(0, va_rf (some p0))] [] s kc ks (C_Pl_isFull sa p0 s kc ks Q) from ?_) hw h
  refine kk_aln hG (x := (some p0)) rfl rfl ?_
  refine kk_gi hG (c := 6) (k := 5) (a := p0) rfl rfl rfl rfl (fun v1 => ?_)
  refine kk_aln hG (x := (some p0)) rfl rfl ?_
  refine kk_gp hG (c := 6) (k := 1) (a := p0) rfl rfl rfl rfl (fun v2 => ?_)
  refine kk_ob (fun b3 eb3 => ?_)
  subst eb3
  refine kk_len hG (a := b3) rfl (fun v4 => ?_)
  refine kk_ilt hG (t := 16) rfl rfl ?_ ?_
  · refine kk_ic hG rfl cc_i0 ?_
    exact kk_ri hG rfl rfl rfl k
  refine kk_ic hG rfl cc_i1 ?_
  refine kk_go hG (t := 17) rfl rfl ?_
  exact kk_ri hG rfl rfl rfl k
def C_Pl_add (sa : Nat → Nat) (p0 : Nat) (p1 : Option Nat) (p2 : Int32) (p3 : Int32) (p4 : Int32) (s : cS) (kc ks : Nat) (Q : (cS → Nat → Nat → Prop)) : Prop := okO s 6 p0 ∧ C_Pl_isFull sa p0 s kc ks (fun r1 sr1 cr1 dr1 => (if r1 = 0 then (ob (gP sr1 6 1 p0) (fun v2 => (ob (gI sr1 6 5 p0) (fun v3 => (nwO sa sr1 cr1 dr1 5 4 (fun q4 sq4 cq4 dq4 => (okO sq4 5 q4 ∧ C_Pr_init sa q4 sq4 cq4 dq4 (fun sr5 cr5 dr5 => (ob v2 (fun b6 => (ob (wQ sr5 b6 v3 (some q4)) (fun s7 => (ob (gP s7 6 1 p0) (fun v8 => (ob (gI s7 6 5 p0) (fun v9 => (ob v8 (fun b10 => (ob (rQ s7 b10 v9) (fun v11 => (ob v11 (fun b12 => (okO s7 5 b12 ∧ C_Pr_copy sa b12 p1 s7 cr5 dr5 (fun sr13 cr13 dr13 => (ob (gP sr13 6 2 p0) (fun v14 => (ob (gI sr13 6 5 p0) (fun v15 => (ob v14 (fun b16 => (ob (wEz sr13 b16 v15 p2) (fun s17 => (ob (gP s17 6 3 p0) (fun v18 => (ob (gI s17 6 5 p0) (fun v19 => (ob v18 (fun b20 => (ob (wEi s17 b20 v19 p3) (fun s21 => (ob (gP s21 6 4 p0) (fun v22 => (ob (gI s21 6 5 p0) (fun v23 => (ob v22 (fun b24 => (ob (wEi s21 b24 v23 p4) (fun s25 => (ob (gI s25 6 5 p0) (fun v26 => (ob (pI s25 6 5 p0 (v26 + (1 : Int32))) (fun s27 => (Q s27 cr13 dr13))))))))))))))))))))))))))))))))))))))))))))))))))))) else (Q sr1 cr1 dr1)))
set_option maxRecDepth 100000 in
set_option maxHeartbeats 4000000 in
theorem kc_Pl_add (base : Nat) (sa : Nat → Nat) {R : pmM} {s : cS} {kc ks : Nat} {Rt : pmR} {p0 : Nat} {p1 : Option Nat} {p2 : Int32} {p3 : Int32} {p4 : Int32} {Q : (cS → Nat → Nat → Prop)} (hw : cW sa R base s) (h : C_Pl_add sa p0 p1 p2 p3 p4 s kc ks Q) (k : ∀ s' kc' ks', cW sa R base s' → Q s' kc' ks' → Rt none (cM R s') kc' ks') : kP_Pl_add base sa [.ref p0, va_rf p1, .int p2, .int p3, .int p4] (cM R s) kc ks Rt := by
  refine ⟨by cases p1 <;> exact Nat.le_of_ble_eq_true rfl, fun G hG => ?_⟩
  have eL : lv_args 0 [.ref p0, va_rf p1, .int p2, .int p3, .int p4] = [(0, va_rf (some p0)), (1, va_rf p1), (2, .int p2), (3, .int p3), (4, .int p4)] := by cases p1 <;> rfl
  rw [eL]
  refine (show KK sa R base G 0 [(0, va_rf (some p0)), (1, va_rf p1), (2, .int p2), (3, .int p3), (4, .int p4)] [] s kc ks (C_Pl_add sa p0 p1 p2 p3 p4 s kc ks Q) from ?_) hw h
  refine kk_aln hG (x := (some p0)) rfl rfl ?_
  refine kk_cx (w := .int) hG 0 rfl rfl (Nat.le_of_ble_eq_true rfl) (by decide) rfl (st' := []) rfl (cats_le (Nat.le_of_ble_eq_true rfl)) (fun _ hw h k => kk_rcv h.1 (kc_Pl_isFull base sa hw h.2 k)) (fun r1 sr1 cr1 dr1 => ?_)
  refine kk_zeq hG (t := 8) rfl rfl ?_ ?_
  · refine kk_aln hG (x := (some p0)) rfl rfl ?_
    refine kk_gp hG (c := 6) (k := 1) (a := p0) rfl rfl rfl rfl (fun v2 => ?_)
    refine kk_aln hG (x := (some p0)) rfl rfl ?_
    refine kk_gi hG (c := 6) (k := 5) (a := p0) rfl rfl rfl rfl (fun v3 => ?_)
    refine kk_new hG (c := 5) (n := 4) rfl rfl rfl rfl (fun q4 sq4 cq4 dq4 => ?_)
    refine kk_dup hG (x := (some q4)) rfl ?_
    refine kk_cv hG 1 rfl rfl (Nat.le_of_ble_eq_true rfl) (by decide) rfl (st' := [va_rf (some q4), .int v3, va_rf v2]) rfl (cats_le (Nat.le_of_ble_eq_true rfl)) (fun _ hw h k => kk_rcv h.1 (kc_Pr_init base sa hw h.2 k)) (fun sr5 cr5 dr5 => ?_)
    refine kk_ob (fun b6 eb6 => ?_)
    subst eb6
    refine kk_aas hG (a := b6) (x := (some q4)) rfl (fun s7 => ?_)
    refine kk_aln hG (x := (some p0)) rfl rfl ?_
    refine kk_gp hG (c := 6) (k := 1) (a := p0) rfl rfl rfl rfl (fun v8 => ?_)
    refine kk_aln hG (x := (some p0)) rfl rfl ?_
    refine kk_gi hG (c := 6) (k := 5) (a := p0) rfl rfl rfl rfl (fun v9 => ?_)
    refine kk_ob (fun b10 eb10 => ?_)
    subst eb10
    refine kk_aa hG (a := b10) rfl (fun v11 => ?_)
    refine kk_aln hG (x := p1) rfl rfl ?_
    refine kk_ob (fun b12 eb12 => ?_)
    subst eb12
    refine kk_cv hG 0 rfl rfl (Nat.le_of_ble_eq_true rfl) (by decide) rfl (st' := []) rfl (cats_le (Nat.le_of_ble_eq_true rfl)) (fun _ hw h k => kk_rcv h.1 (kc_Pr_copy base sa hw h.2 k)) (fun sr13 cr13 dr13 => ?_)
    refine kk_aln hG (x := (some p0)) rfl rfl ?_
    refine kk_gp hG (c := 6) (k := 2) (a := p0) rfl rfl rfl rfl (fun v14 => ?_)
    refine kk_aln hG (x := (some p0)) rfl rfl ?_
    refine kk_gi hG (c := 6) (k := 5) (a := p0) rfl rfl rfl rfl (fun v15 => ?_)
    refine kks hG rfl rfl ?_
    refine kk_ob (fun b16 eb16 => ?_)
    subst eb16
    refine kk_zs hG (a := b16) rfl (fun s17 => ?_)
    refine kk_aln hG (x := (some p0)) rfl rfl ?_
    refine kk_gp hG (c := 6) (k := 3) (a := p0) rfl rfl rfl rfl (fun v18 => ?_)
    refine kk_aln hG (x := (some p0)) rfl rfl ?_
    refine kk_gi hG (c := 6) (k := 5) (a := p0) rfl rfl rfl rfl (fun v19 => ?_)
    refine kks hG rfl rfl ?_
    refine kk_ob (fun b20 eb20 => ?_)
    subst eb20
    refine kk_is hG (a := b20) rfl (fun s21 => ?_)
    refine kk_aln hG (x := (some p0)) rfl rfl ?_
    refine kk_gp hG (c := 6) (k := 4) (a := p0) rfl rfl rfl rfl (fun v22 => ?_)
    refine kk_aln hG (x := (some p0)) rfl rfl ?_
    refine kk_gi hG (c := 6) (k := 5) (a := p0) rfl rfl rfl rfl (fun v23 => ?_)
    refine kks hG rfl rfl ?_
    refine kk_ob (fun b24 eb24 => ?_)
    subst eb24
    refine kk_is hG (a := b24) rfl (fun s25 => ?_)
    refine kk_aln hG (x := (some p0)) rfl rfl ?_
    refine kk_dup hG (x := (some p0)) rfl ?_
    refine kk_gi hG (c := 6) (k := 5) (a := p0) rfl rfl rfl rfl (fun v26 => ?_)
    refine kk_ic hG rfl cc_i1 ?_
    refine kks hG rfl rfl ?_
    refine kk_pi hG (c := 6) (k := 5) (a := p0) rfl rfl rfl rfl (fun s27 => ?_)
    exact kk_rv hG rfl rfl k
  exact kk_rv hG rfl rfl k
def C_Re_filterLine_b81 (sa : Nat → Nat) (p0 : Nat) (u0 : Option Nat) (u1 : Int32) (s : cS) (kc ks : Nat) (Q : (Int32 → cS → Nat → Nat → Prop)) : Prop := ob u0 (fun b1 => (ob (rQ s b1 u1) (fun v2 => (ob v2 (fun b3 => (okO s 6 b3 ∧ C_Pl_isFull sa b3 s kc ks (fun r4 sr4 cr4 dr4 => (if r4 = 0 then (ob (gP sr4 7 6 p0) (fun v5 => (okO sr4 7 p0 ∧ C_Re_is sa p0 (4 : Int32) (some (sa 23)) sr4 cr4 dr4 (fun r6 sr6 cr6 dr6 => (ob (gP sr6 7 6 p0) (fun v7 => (ob v7 (fun b8 => (ob (gI sr6 5 3 b8) (fun v9 => (okO sr6 6 b3 ∧ C_Pl_add sa b3 v5 r6 v9 ((-1) : Int32) sr6 cr6 dr6 (fun sr10 cr10 dr10 => (Q (0 : Int32) sr10 cr10 dr10))))))))))))) else (Q (6 : Int32) sr4 cr4 dr4)))))))))
def C_Re_filterLine (sa : Nat → Nat) (p0 : Nat) (s : cS) (kc ks : Nat) (Q : (Int32 → cS → Nat → Nat → Prop)) : Prop := ob (gI s 7 3 p0) (fun v1 => (if v1 = (5 : Int32) then (okO s 7 p0 ∧ C_Re_isEither sa p0 (2 : Int32) (some (sa 21)) (some (sa 22)) s kc ks (fun r2 sr2 cr2 dr2 => (if r2 = 0 then (Q (2 : Int32) sr2 cr2 dr2) else (okO sr2 7 p0 ∧ C_Re_isEither sa p0 (4 : Int32) (some (sa 23)) (some (sa 24)) sr2 cr2 dr2 (fun r3 sr3 cr3 dr3 => (if r3 = 0 then (Q (2 : Int32) sr3 cr3 dr3) else (okO sr3 7 p0 ∧ C_Re_routerNamed sa p0 (1 : Int32) sr3 cr3 dr3 (fun r4 sr4 cr4 dr4 => (if r4 = none then (Q (3 : Int32) sr4 cr4 dr4) else (okO sr4 7 p0 ∧ C_Re_takePrefix sa p0 (3 : Int32) (0 : Int32) sr4 cr4 dr4 (fun r5 sr5 cr5 dr5 => (if r5 = 0 then (Q (5 : Int32) sr5 cr5 dr5) else (ob r4 (fun b6 => (ob (gP sr5 9 8 b6) (fun v7 => (okO sr5 7 p0 ∧ C_Re_is sa p0 (2 : Int32) (some (sa 21)) sr5 cr5 dr5 (fun r8 sr8 cr8 dr8 => (if r8 = 0 then ((C_Re_filterLine_b81 sa p0 v7 (1 : Int32) sr8 cr8 dr8 Q)) else ((C_Re_filterLine_b81 sa p0 v7 (0 : Int32) sr8 cr8 dr8 Q))))))))))))))))))))) else (Q (2 : Int32) s kc ks)))
set_option maxRecDepth 100000 in
set_option maxHeartbeats 4000000 in
theorem kc_Re_filterLine (base : Nat) (sa : Nat → Nat) {R : pmM} {s : cS} {kc ks : Nat} {Rt : pmR} {p0 : Nat} {Q : (Int32 → cS → Nat → Nat → Prop)} (hw : cW sa R base s) (h : C_Re_filterLine sa p0 s kc ks Q) (k : ∀ r s' kc' ks', cW sa R base s' → Q r s' kc' ks' → Rt (some (.int r)) (cM R s') kc' ks') : kP_Re_filterLine base sa [.ref p0] (cM R s) kc ks Rt := by
  refine ⟨Nat.le_of_ble_eq_true rfl, fun G hG => ?_⟩
  have b81 : ∀ (u0 : Option Nat) (u1 : Int32) (s : cS) (kc ks : Nat), KK sa R base G 81 [(0, va_rf (some p0))] [.int u1, va_rf u0] s kc ks (C_Re_filterLine_b81 sa p0 u0 u1 s kc ks Q) := by
    intro u0 u1 s kc ks
    refine kk_ob (fun b1 eb1 => ?_)
    subst eb1
    refine kk_aa hG (a := b1) rfl (fun v2 => ?_)
    refine kk_asn hG (x := v2) (L' := [(2, va_rf v2), (0, va_rf (some p0))]) rfl (Nat.le_of_ble_eq_true rfl) rfl ?_
    refine kk_aln hG (x := v2) rfl rfl ?_
    refine kk_ob (fun b3 eb3 => ?_)
    subst eb3
    refine kk_cx (w := .int) hG 0 rfl rfl (Nat.le_of_ble_eq_true rfl) (by decide) rfl (st' := []) rfl (cats_le (Nat.le_of_ble_eq_true rfl)) (fun _ hw h k => kk_rcv h.1 (kc_Pl_isFull base sa hw h.2 k)) (fun r4 sr4 cr4 dr4 => ?_)
    refine kk_zeq hG (t := 93) rfl rfl ?_ ?_
    · refine kk_aln hG (x := (some b3)) rfl rfl ?_
      refine kk_aln hG (x := (some p0)) rfl rfl ?_
      refine kk_gp hG (c := 7) (k := 6) (a := p0) rfl rfl rfl rfl (fun v5 => ?_)
      refine kk_aln hG (x := (some p0)) rfl rfl ?_
      refine kk_ic hG rfl cc_i4 ?_
      refine kk_lws hG (a := sa 23) rfl rfl ?_
      refine kk_cx (w := .int) hG 0 rfl rfl (Nat.le_of_ble_eq_true rfl) (by decide) rfl (st' := [va_rf v5, va_rf (some b3)]) rfl (cats_le (Nat.le_of_ble_eq_true rfl)) (fun _ hw h k => kk_rcv h.1 (kc_Re_is base sa hw h.2 k)) (fun r6 sr6 cr6 dr6 => ?_)
      refine kk_aln hG (x := (some p0)) rfl rfl ?_
      refine kk_gp hG (c := 7) (k := 6) (a := p0) rfl rfl rfl rfl (fun v7 => ?_)
      refine kk_ob (fun b8 eb8 => ?_)
      subst eb8
      refine kk_gi hG (c := 5) (k := 3) (a := b8) rfl rfl rfl rfl (fun v9 => ?_)
      refine kk_ic hG rfl cc_im1 ?_
      refine kk_cv hG 0 rfl rfl (Nat.le_of_ble_eq_true rfl) (by decide) rfl (st' := []) rfl (cats_le (Nat.le_of_ble_eq_true rfl)) (fun _ hw h k => kk_rcv h.1 (kc_Pl_add base sa hw h.2 k)) (fun sr10 cr10 dr10 => ?_)
      refine kk_ic hG rfl cc_i0 ?_
      exact kk_ri hG rfl rfl rfl k
    refine kk_bi hG rfl cc_b6 ?_
    exact kk_ri hG rfl rfl rfl k
  refine (show KK sa R base G 0 [(0, va_rf (some p0))] [] s kc ks (C_Re_filterLine sa p0 s kc ks Q) from ?_) hw h
  refine kk_aln hG (x := (some p0)) rfl rfl ?_
  refine kk_gi hG (c := 7) (k := 3) (a := p0) rfl rfl rfl rfl (fun v1 => ?_)
  refine kk_ic hG rfl cc_i5 ?_
  refine kk_ine hG (t := 36) rfl rfl ?_ ?_
  · refine kk_ic hG rfl cc_i2 ?_
    exact kk_ri hG rfl rfl rfl k
  refine kk_aln hG (x := (some p0)) rfl rfl ?_
  refine kk_ic hG rfl cc_i2 ?_
  refine kk_lws hG (a := sa 21) rfl rfl ?_
  refine kk_lws hG (a := sa 22) rfl rfl ?_
  refine kk_cx (w := .int) hG 0 rfl rfl (Nat.le_of_ble_eq_true rfl) (by decide) rfl (st' := []) rfl (cats_le (Nat.le_of_ble_eq_true rfl)) (fun _ hw h k => kk_rcv h.1 (kc_Re_isEither base sa hw h.2 k)) (fun r2 sr2 cr2 dr2 => ?_)
  refine kk_zeq hG (t := 36) rfl rfl ?_ ?_
  · refine kk_ic hG rfl cc_i2 ?_
    exact kk_ri hG rfl rfl rfl k
  refine kk_aln hG (x := (some p0)) rfl rfl ?_
  refine kk_ic hG rfl cc_i4 ?_
  refine kk_lws hG (a := sa 23) rfl rfl ?_
  refine kk_lws hG (a := sa 24) rfl rfl ?_
  refine kk_cx (w := .int) hG 0 rfl rfl (Nat.le_of_ble_eq_true rfl) (by decide) rfl (st' := []) rfl (cats_le (Nat.le_of_ble_eq_true rfl)) (fun _ hw h k => kk_rcv h.1 (kc_Re_isEither base sa hw h.2 k)) (fun r3 sr3 cr3 dr3 => ?_)
  refine kk_zne hG (t := 38) rfl rfl ?_ ?_
  · refine kk_aln hG (x := (some p0)) rfl rfl ?_
    refine kk_ic hG rfl cc_i1 ?_
    refine kk_cx (w := va_rf) hG 0 rfl rfl (Nat.le_of_ble_eq_true rfl) (by decide) rfl (st' := []) rfl (cats_le (Nat.le_of_ble_eq_true rfl)) (fun _ hw h k => kk_rcv h.1 (kc_Re_routerNamed base sa hw h.2 k)) (fun r4 sr4 cr4 dr4 => ?_)
    refine kk_asn hG (x := r4) (L' := [(1, va_rf r4), (0, va_rf (some p0))]) rfl (Nat.le_of_ble_eq_true rfl) rfl ?_
    refine kk_aln hG (x := r4) rfl rfl ?_
    refine kk_nnl hG (x := r4) (t := 50) rfl rfl ?_ ?_
    · refine kk_aln hG (x := (some p0)) rfl rfl ?_
      refine kk_ic hG rfl cc_i3 ?_
      refine kk_ic hG rfl cc_i0 ?_
      refine kk_cx (w := .int) hG 0 rfl rfl (Nat.le_of_ble_eq_true rfl) (by decide) rfl (st' := []) rfl (cats_le (Nat.le_of_ble_eq_true rfl)) (fun _ hw h k => kk_rcv h.1 (kc_Re_takePrefix base sa hw h.2 k)) (fun r5 sr5 cr5 dr5 => ?_)
      refine kk_zne hG (t := 61) rfl rfl ?_ ?_
      · refine kk_aln hG (x := r4) rfl rfl ?_
        refine kk_ob (fun b6 eb6 => ?_)
        subst eb6
        refine kk_gp hG (c := 9) (k := 8) (a := b6) rfl rfl rfl rfl (fun v7 => ?_)
        refine kk_aln hG (x := (some p0)) rfl rfl ?_
        refine kk_ic hG rfl cc_i2 ?_
        refine kk_lws hG (a := sa 21) rfl rfl ?_
        refine kk_cx (w := .int) hG 0 rfl rfl (Nat.le_of_ble_eq_true rfl) (by decide) rfl (st' := [va_rf v7]) rfl (cats_le (Nat.le_of_ble_eq_true rfl)) (fun _ hw h k => kk_rcv h.1 (kc_Re_is base sa hw h.2 k)) (fun r8 sr8 cr8 dr8 => ?_)
        refine kk_zeq hG (t := 80) rfl rfl ?_ ?_
        · refine kk_ic hG rfl cc_i1 ?_
          exact kk_wl hG [1] rfl (b81 _ _ _ _ _)
        refine kk_ic hG rfl cc_i0 ?_
        refine kk_go hG (t := 81) rfl rfl ?_
        exact kk_wl hG [1] rfl (b81 _ _ _ _ _)
      refine kk_ic hG rfl cc_i5 ?_
      exact kk_ri hG rfl rfl rfl k
    refine kk_ic hG rfl cc_i3 ?_
    exact kk_ri hG rfl rfl rfl k
  refine kk_ic hG rfl cc_i2 ?_
  exact kk_ri hG rfl rfl rfl k
def C_Re_listNamed_s2 (sa : Nat → Nat) (p0 : Nat) (p1 : Int32) (a2 : Int32) (s : cS) (kc ks : Nat) (Q : (Int32 → cS → Nat → Nat → Prop)) (P2 : (Int32 → cS → Nat → Nat → Prop)) : Prop := ob (gP s 7 0 p0) (fun v1 => (ob v1 (fun b2 => (ob (gI s 11 11 b2) (fun v3 => (if a2 < v3 then (ob (gP s 7 0 p0) (fun v4 => (ob v4 (fun b5 => (ob (gP s 11 10 b5) (fun v6 => (ob v6 (fun b7 => (ob (rQ s b7 a2) (fun v8 => (ob v8 (fun b9 => (ob (gP s 6 0 b9) (fun v10 => (okO s 7 p0 ∧ C_Re_is sa p0 p1 v10 s kc ks (fun r11 sr11 cr11 dr11 => (if r11 = 0 then ((P2 (a2 + (1 : Int32)) sr11 cr11 dr11)) else ((Q a2 sr11 cr11 dr11))))))))))))))))))) else ((Q ((-1) : Int32) s kc ks))))))))
def C_Re_listNamed_b2 (sa : Nat → Nat) (p0 : Nat) (p1 : Int32) (a2 : Int32) (s : cS) (kc ks : Nat) (Q : (Int32 → cS → Nat → Nat → Prop)) : Prop := ∀ P2 : (Int32 → cS → Nat → Nat → Prop), (∀ (a2 : Int32) (s : cS) (kc ks : Nat), C_Re_listNamed_s2 sa p0 p1 a2 s kc ks Q P2 → P2 a2 s kc ks) → P2 a2 s kc ks
def C_Re_listNamed (sa : Nat → Nat) (p0 : Nat) (p1 : Int32) (s : cS) (kc ks : Nat) (Q : (Int32 → cS → Nat → Nat → Prop)) : Prop := (C_Re_listNamed_b2 sa p0 p1 (0 : Int32) s kc ks Q)
set_option maxRecDepth 100000 in
set_option maxHeartbeats 4000000 in
theorem kc_Re_listNamed (base : Nat) (sa : Nat → Nat) {R : pmM} {s : cS} {kc ks : Nat} {Rt : pmR} {p0 : Nat} {p1 : Int32} {Q : (Int32 → cS → Nat → Nat → Prop)} (hw : cW sa R base s) (h : C_Re_listNamed sa p0 p1 s kc ks Q) (k : ∀ r s' kc' ks', cW sa R base s' → Q r s' kc' ks' → Rt (some (.int r)) (cM R s') kc' ks') : kP_Re_listNamed base sa [.ref p0, .int p1] (cM R s) kc ks Rt := by
  refine ⟨Nat.le_of_ble_eq_true rfl, fun G hG => ?_⟩
  have b2 : ∀ (a2 : Int32) (s : cS) (kc ks : Nat), KK sa R base G 2 [(0, va_rf (some p0)), (1, .int p1), (2, .int a2)] [] s kc ks (C_Re_listNamed_b2 sa p0 p1 a2 s kc ks Q) := by
    have H : ∀ (P2 : (Int32 → cS → Nat → Nat → Prop)) (hP2 : ∀ (a2 : Int32) (s : cS) (kc ks : Nat), P2 a2 s kc ks → cW sa R base s → G 2 [(0, va_rf (some p0)), (1, .int p1), (2, .int a2)] [] (cM R s) kc ks) (a2 : Int32) (s : cS) (kc ks : Nat), KK sa R base G 2 [(0, va_rf (some p0)), (1, .int p1), (2, .int a2)] [] s kc ks (C_Re_listNamed_s2 sa p0 p1 a2 s kc ks Q P2) := by
      intro P2 hP2
      intro a2 s kc ks
      refine kks hG rfl rfl ?_
      refine kk_aln hG (x := (some p0)) rfl rfl ?_
      refine kk_gp hG (c := 7) (k := 0) (a := p0) rfl rfl rfl rfl (fun v1 => ?_)
      refine kk_ob (fun b2 eb2 => ?_)
      subst eb2
      refine kk_gi hG (c := 11) (k := 11) (a := b2) rfl rfl rfl rfl (fun v3 => ?_)
      refine kk_ige hG (t := 41) rfl rfl ?_ ?_
      · refine kk_ic hG rfl cc_im1 ?_
        exact kk_ri hG rfl rfl rfl k
      refine kk_aln hG (x := (some p0)) rfl rfl ?_
      refine kks hG rfl rfl ?_
      refine kk_aln hG (x := (some p0)) rfl rfl ?_
      refine kk_gp hG (c := 7) (k := 0) (a := p0) rfl rfl rfl rfl (fun v4 => ?_)
      refine kk_ob (fun b5 eb5 => ?_)
      subst eb5
      refine kk_gp hG (c := 11) (k := 10) (a := b5) rfl rfl rfl rfl (fun v6 => ?_)
      refine kks hG rfl rfl ?_
      refine kk_ob (fun b7 eb7 => ?_)
      subst eb7
      refine kk_aa hG (a := b7) rfl (fun v8 => ?_)
      refine kk_ob (fun b9 eb9 => ?_)
      subst eb9
      refine kk_gp hG (c := 6) (k := 0) (a := b9) rfl rfl rfl rfl (fun v10 => ?_)
      refine kk_cx (w := .int) hG 0 rfl rfl (Nat.le_of_ble_eq_true rfl) (by decide) rfl (st' := []) rfl (cats_le (Nat.le_of_ble_eq_true rfl)) (fun _ hw h k => kk_rcv h.1 (kc_Re_is base sa hw h.2 k)) (fun r11 sr11 cr11 dr11 => ?_)
      refine kk_zeq hG (t := 35) rfl rfl ?_ ?_
      · refine kk_inc hG (L' := [(2, .int (a2 + (1 : Int32))), (0, va_rf (some p0)), (1, .int p1)]) rfl (Nat.le_of_ble_eq_true rfl) rfl cc_i1 rfl ?_
        refine kk_go hG (t := 2) rfl rfl ?_
        exact kk_wl hG [1, 2, 0] rfl (fun hw h => hP2 _ _ _ _ h hw)
      refine kks hG rfl rfl ?_
      exact kk_ri hG rfl rfl rfl k
    exact fun a2 s kc ks hw h => h (fun a2 s kc ks => cW sa R base s → G 2 [(0, va_rf (some p0)), (1, .int p1), (2, .int a2)] [] (cM R s) kc ks) (fun a2 s kc ks hs hw => H _ (fun _ _ _ _ hp hw => hp hw) a2 s kc ks hw hs) hw
  refine (show KK sa R base G 0 [(0, va_rf (some p0)), (1, .int p1)] [] s kc ks (C_Re_listNamed sa p0 p1 s kc ks Q) from ?_) hw h
  refine kk_ic hG rfl cc_i0 ?_
  refine kk_st hG (L' := [(2, .int (0 : Int32)), (0, va_rf (some p0)), (1, .int p1)]) rfl rfl (Nat.le_of_ble_eq_true rfl) rfl ?_
  exact kk_wl hG [1, 2, 0] rfl (b2 _ _ _ _)
