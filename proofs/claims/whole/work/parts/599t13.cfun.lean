/-! Methods as weakest preconditions, by program: Re_listLine .. Re_neighborLine -/
def C_Re_listLine_b240 (sa : Nat → Nat) (p0 : Nat) (a2 : Int32) (a3 : Int32) (a4 : Int32) (s : cS) (kc ks : Nat) (Q : (Int32 → cS → Nat → Nat → Prop)) : Prop := ob (gP s 7 0 p0) (fun v1 => (ob v1 (fun b2 => (ob (gP s 11 10 b2) (fun v3 => (ob v3 (fun b4 => (ob (rQ s b4 a4) (fun v5 => (ob (gP s 7 6 p0) (fun v6 => (okO s 7 p0 ∧ C_Re_is sa p0 (2 : Int32) (some (sa 23)) s kc ks (fun r7 sr7 cr7 dr7 => (ob v5 (fun b8 => (okO sr7 6 b8 ∧ C_Pl_add sa b8 v6 r7 a2 a3 sr7 cr7 dr7 (fun sr9 cr9 dr9 => (Q (0 : Int32) sr9 cr9 dr9))))))))))))))))))
def C_Re_listLine_b188 (sa : Nat → Nat) (p0 : Nat) (a2 : Int32) (a3 : Int32) (a4 : Int32) (s : cS) (kc ks : Nat) (Q : (Int32 → cS → Nat → Nat → Prop)) : Prop := if a4 = ((-1) : Int32) then (ob (gP s 7 0 p0) (fun v1 => (ob v1 (fun b2 => (ob (gI s 11 11 b2) (fun v3 => (ob (gP s 7 0 p0) (fun v4 => (ob v4 (fun b5 => (ob (gP s 11 10 b5) (fun v6 => (nwO sa s kc ks 6 6 (fun q7 sq7 cq7 dq7 => (okO sq7 7 p0 ∧ C_Re_nameAt sa p0 (1 : Int32) sq7 cq7 dq7 (fun r8 sr8 cr8 dr8 => (okO sr8 6 q7 ∧ C_Pl_init sa q7 r8 (16 : Int32) sr8 cr8 dr8 (fun sr9 cr9 dr9 => (ob v6 (fun b10 => (ob (wQ sr9 b10 v3 (some q7)) (fun s11 => (ob (gP s11 7 0 p0) (fun v12 => (ob v12 (fun b13 => (ob (gI s11 11 11 b13) (fun v14 => (ob (pI s11 11 11 b13 (v14 + (1 : Int32))) (fun s15 => ((C_Re_listLine_b240 sa p0 a2 a3 v3 s15 cr9 dr9 Q)))))))))))))))))))))))))))))))) else ((C_Re_listLine_b240 sa p0 a2 a3 a4 s kc ks Q))
def C_Re_listLine_b141 (sa : Nat → Nat) (p0 : Nat) (a2 : Int32) (a3 : Int32) (s : cS) (kc ks : Nat) (Q : (Int32 → cS → Nat → Nat → Prop)) : Prop := okO s 7 p0 ∧ C_Re_listNamed sa p0 (1 : Int32) s kc ks (fun r1 sr1 cr1 dr1 => (if r1 = ((-1) : Int32) then (ob (gP sr1 7 0 p0) (fun v9 => (ob v9 (fun b10 => (ob (gI sr1 11 11 b10) (fun v11 => (if v11 < (8 : Int32) then ((C_Re_listLine_b188 sa p0 a2 a3 r1 sr1 cr1 dr1 Q)) else (Q (6 : Int32) sr1 cr1 dr1)))))))) else (ob (gP sr1 7 0 p0) (fun v2 => (ob v2 (fun b3 => (ob (gP sr1 11 10 b3) (fun v4 => (ob v4 (fun b5 => (ob (rQ sr1 b5 r1) (fun v6 => (ob v6 (fun b7 => (okO sr1 6 b7 ∧ C_Pl_isFull sa b7 sr1 cr1 dr1 (fun r8 sr8 cr8 dr8 => (if r8 = 0 then ((C_Re_listLine_b188 sa p0 a2 a3 r1 sr8 cr8 dr8 Q)) else (Q (6 : Int32) sr8 cr8 dr8))))))))))))))))))
def C_Re_listLine_b120 (sa : Nat → Nat) (p0 : Nat) (a2 : Int32) (a3 : Int32) (s : cS) (kc ks : Nat) (Q : (Int32 → cS → Nat → Nat → Prop)) : Prop := ob (gI s 7 4 p0) (fun v1 => (if 0 < v1 then (ob (gI s 7 5 p0) (fun v2 => (if 0 < v2 then (if a3 < a2 then (Q (4 : Int32) s kc ks) else ((C_Re_listLine_b141 sa p0 a2 a3 s kc ks Q))) else ((C_Re_listLine_b141 sa p0 a2 a3 s kc ks Q))))) else ((C_Re_listLine_b141 sa p0 a2 a3 s kc ks Q))))
def C_Re_listLine_b108 (sa : Nat → Nat) (p0 : Nat) (a2 : Int32) (a3 : Int32) (s : cS) (kc ks : Nat) (Q : (Int32 → cS → Nat → Nat → Prop)) : Prop := ob (gI s 7 5 p0) (fun v1 => (if 0 < v1 then (if a3 = ((-1) : Int32) then (Q (4 : Int32) s kc ks) else ((C_Re_listLine_b120 sa p0 a2 a3 s kc ks Q))) else ((C_Re_listLine_b120 sa p0 a2 a3 s kc ks Q))))
def C_Re_listLine (sa : Nat → Nat) (p0 : Nat) (s : cS) (kc ks : Nat) (Q : (Int32 → cS → Nat → Nat → Prop)) : Prop := okO s 7 p0 ∧ C_Re_hasOptions sa p0 (4 : Int32) (some (sa 26)) (some (sa 27)) s kc ks (fun r1 sr1 cr1 dr1 => (if r1 = 0 then (Q (2 : Int32) sr1 cr1 dr1) else (okO sr1 7 p0 ∧ C_Re_isEither sa p0 (2 : Int32) (some (sa 23)) (some (sa 24)) sr1 cr1 dr1 (fun r2 sr2 cr2 dr2 => (if r2 = 0 then (Q (2 : Int32) sr2 cr2 dr2) else (okO sr2 7 p0 ∧ C_Re_isName sa p0 (1 : Int32) sr2 cr2 dr2 (fun r3 sr3 cr3 dr3 => (if r3 = 0 then (Q (3 : Int32) sr3 cr3 dr3) else (okO sr3 7 p0 ∧ C_Re_takePrefix sa p0 (3 : Int32) (0 : Int32) sr3 cr3 dr3 (fun r4 sr4 cr4 dr4 => (if r4 = 0 then (Q (5 : Int32) sr4 cr4 dr4) else (ob (gP sr4 7 6 p0) (fun v5 => (ob v5 (fun b6 => (ob (gI sr4 5 0 b6) (fun v7 => (C_Pr_bitsOf sa v7 sr4 cr4 dr4 (fun r8 sr8 cr8 dr8 => (ob (gI sr8 7 4 p0) (fun v9 => (ob (gP sr8 7 6 p0) (fun v10 => (ob v10 (fun b11 => (ob (gI sr8 5 3 b11) (fun v12 => (okO sr8 7 p0 ∧ C_Re_number sa p0 v9 v12 r8 sr8 cr8 dr8 (fun r13 sr13 cr13 dr13 => (ob (gI sr13 7 5 p0) (fun v14 => (ob (gP sr13 7 6 p0) (fun v15 => (ob v15 (fun b16 => (ob (gI sr13 5 3 b16) (fun v17 => (okO sr13 7 p0 ∧ C_Re_number sa p0 v14 v17 r8 sr13 cr13 dr13 (fun r18 sr18 cr18 dr18 => (ob (gI sr18 7 4 p0) (fun v19 => (if 0 < v19 then (if r13 = ((-1) : Int32) then (Q (4 : Int32) sr18 cr18 dr18) else ((C_Re_listLine_b108 sa p0 r13 r18 sr18 cr18 dr18 Q))) else ((C_Re_listLine_b108 sa p0 r13 r18 sr18 cr18 dr18 Q))))))))))))))))))))))))))))))))))))))))))))
set_option maxRecDepth 100000 in
set_option maxHeartbeats 4000000 in
theorem kc_Re_listLine (base : Nat) (sa : Nat → Nat) {R : pmM} {s : cS} {kc ks : Nat} {Rt : pmR} {p0 : Nat} {Q : (Int32 → cS → Nat → Nat → Prop)} (hw : cW sa R base s) (h : C_Re_listLine sa p0 s kc ks Q) (k : ∀ r s' kc' ks', cW sa R base s' → Q r s' kc' ks' → Rt (some (.int r)) (cM R s') kc' ks') : kP_Re_listLine base sa [.ref p0] (cM R s) kc ks Rt := by
  refine ⟨Nat.le_of_ble_eq_true rfl, fun G hG => ?_⟩
  have b240 : ∀ (a2 : Int32) (a3 : Int32) (a4 : Int32) (s : cS) (kc ks : Nat), KK sa R base G 240 [(0, va_rf (some p0)), (2, .int a2), (3, .int a3), (4, .int a4)] [] s kc ks (C_Re_listLine_b240 sa p0 a2 a3 a4 s kc ks Q) := by
    intro a2 a3 a4 s kc ks
    refine kk_aln hG (x := (some p0)) rfl rfl ?_
    refine kk_gp hG (c := 7) (k := 0) (a := p0) rfl rfl rfl rfl (fun v1 => ?_)
    refine kk_ob (fun b2 eb2 => ?_)
    subst eb2
    refine kk_gp hG (c := 11) (k := 10) (a := b2) rfl rfl rfl rfl (fun v3 => ?_)
    refine kks hG rfl rfl ?_
    refine kk_ob (fun b4 eb4 => ?_)
    subst eb4
    refine kk_aa hG (a := b4) rfl (fun v5 => ?_)
    refine kk_aln hG (x := (some p0)) rfl rfl ?_
    refine kk_gp hG (c := 7) (k := 6) (a := p0) rfl rfl rfl rfl (fun v6 => ?_)
    refine kk_aln hG (x := (some p0)) rfl rfl ?_
    refine kk_ic hG rfl cc_i2 ?_
    refine kk_lws hG (a := sa 23) rfl rfl ?_
    refine kk_cx (w := .int) hG 0 rfl rfl (Nat.le_of_ble_eq_true rfl) (by decide) rfl (st' := [va_rf v6, va_rf v5]) rfl (cats_le (Nat.le_of_ble_eq_true rfl)) (fun _ hw h k => kk_rcv h.1 (kc_Re_is base sa hw h.2 k)) (fun r7 sr7 cr7 dr7 => ?_)
    refine kks hG rfl rfl ?_
    refine kks hG rfl rfl ?_
    refine kk_ob (fun b8 eb8 => ?_)
    subst eb8
    refine kk_cv hG 0 rfl rfl (Nat.le_of_ble_eq_true rfl) (by decide) rfl (st' := []) rfl (cats_le (Nat.le_of_ble_eq_true rfl)) (fun _ hw h k => kk_rcv h.1 (kc_Pl_add base sa hw h.2 k)) (fun sr9 cr9 dr9 => ?_)
    refine kk_ic hG rfl cc_i0 ?_
    exact kk_ri hG rfl rfl rfl k
  have b188 : ∀ (a2 : Int32) (a3 : Int32) (a4 : Int32) (s : cS) (kc ks : Nat), KK sa R base G 188 [(0, va_rf (some p0)), (2, .int a2), (3, .int a3), (4, .int a4)] [] s kc ks (C_Re_listLine_b188 sa p0 a2 a3 a4 s kc ks Q) := by
    intro a2 a3 a4 s kc ks
    refine kks hG rfl rfl ?_
    refine kk_ic hG rfl cc_im1 ?_
    refine kk_ine hG (t := 240) rfl rfl ?_ ?_
    · exact kk_wl hG [0, 1, 2, 3] rfl (b240 _ _ _ _ _ _)
    refine kk_aln hG (x := (some p0)) rfl rfl ?_
    refine kk_gp hG (c := 7) (k := 0) (a := p0) rfl rfl rfl rfl (fun v1 => ?_)
    refine kk_ob (fun b2 eb2 => ?_)
    subst eb2
    refine kk_gi hG (c := 11) (k := 11) (a := b2) rfl rfl rfl rfl (fun v3 => ?_)
    refine kk_st hG (L' := [(4, .int v3), (0, va_rf (some p0)), (2, .int a2), (3, .int a3)]) rfl rfl (Nat.le_of_ble_eq_true rfl) rfl ?_
    refine kk_aln hG (x := (some p0)) rfl rfl ?_
    refine kk_gp hG (c := 7) (k := 0) (a := p0) rfl rfl rfl rfl (fun v4 => ?_)
    refine kk_ob (fun b5 eb5 => ?_)
    subst eb5
    refine kk_gp hG (c := 11) (k := 10) (a := b5) rfl rfl rfl rfl (fun v6 => ?_)
    refine kks hG rfl rfl ?_
    refine kk_new hG (c := 6) (n := 6) rfl rfl rfl rfl (fun q7 sq7 cq7 dq7 => ?_)
    refine kk_dup hG (x := (some q7)) rfl ?_
    refine kk_aln hG (x := (some p0)) rfl rfl ?_
    refine kk_ic hG rfl cc_i1 ?_
    refine kk_cx (w := va_rf) hG 0 rfl rfl (Nat.le_of_ble_eq_true rfl) (by decide) rfl (st' := [va_rf (some q7), va_rf (some q7), .int v3, va_rf v6]) rfl (cats_le (Nat.le_of_ble_eq_true rfl)) (fun _ hw h k => kk_rcv h.1 (kc_Re_nameAt base sa hw h.2 k)) (fun r8 sr8 cr8 dr8 => ?_)
    refine kk_bi hG rfl cc_b16 ?_
    refine kk_cv hG 1 rfl rfl (Nat.le_of_ble_eq_true rfl) (by decide) rfl (st' := [va_rf (some q7), .int v3, va_rf v6]) rfl (cats_le (Nat.le_of_ble_eq_true rfl)) (fun _ hw h k => kk_rcv h.1 (kc_Pl_init base sa hw h.2 k)) (fun sr9 cr9 dr9 => ?_)
    refine kk_ob (fun b10 eb10 => ?_)
    subst eb10
    refine kk_aas hG (a := b10) (x := (some q7)) rfl (fun s11 => ?_)
    refine kk_aln hG (x := (some p0)) rfl rfl ?_
    refine kk_gp hG (c := 7) (k := 0) (a := p0) rfl rfl rfl rfl (fun v12 => ?_)
    refine kk_dup hG (x := v12) rfl ?_
    refine kk_ob (fun b13 eb13 => ?_)
    subst eb13
    refine kk_gi hG (c := 11) (k := 11) (a := b13) rfl rfl rfl rfl (fun v14 => ?_)
    refine kk_ic hG rfl cc_i1 ?_
    refine kks hG rfl rfl ?_
    refine kk_pi hG (c := 11) (k := 11) (a := b13) rfl rfl rfl rfl (fun s15 => ?_)
    exact kk_wl hG [1, 2, 3, 0] rfl (b240 _ _ _ _ _ _)
  have b141 : ∀ (a2 : Int32) (a3 : Int32) (s : cS) (kc ks : Nat), KK sa R base G 141 [(0, va_rf (some p0)), (2, .int a2), (3, .int a3)] [] s kc ks (C_Re_listLine_b141 sa p0 a2 a3 s kc ks Q) := by
    intro a2 a3 s kc ks
    refine kk_aln hG (x := (some p0)) rfl rfl ?_
    refine kk_ic hG rfl cc_i1 ?_
    refine kk_cx (w := .int) hG 0 rfl rfl (Nat.le_of_ble_eq_true rfl) (by decide) rfl (st' := []) rfl (cats_le (Nat.le_of_ble_eq_true rfl)) (fun _ hw h k => kk_rcv h.1 (kc_Re_listNamed base sa hw h.2 k)) (fun r1 sr1 cr1 dr1 => ?_)
    refine kk_st hG (L' := [(4, .int r1), (0, va_rf (some p0)), (2, .int a2), (3, .int a3)]) rfl rfl (Nat.le_of_ble_eq_true rfl) rfl ?_
    refine kks hG rfl rfl ?_
    refine kk_ic hG rfl cc_im1 ?_
    refine kk_ine hG (t := 169) rfl rfl ?_ ?_
    · refine kk_aln hG (x := (some p0)) rfl rfl ?_
      refine kk_gp hG (c := 7) (k := 0) (a := p0) rfl rfl rfl rfl (fun v2 => ?_)
      refine kk_ob (fun b3 eb3 => ?_)
      subst eb3
      refine kk_gp hG (c := 11) (k := 10) (a := b3) rfl rfl rfl rfl (fun v4 => ?_)
      refine kks hG rfl rfl ?_
      refine kk_ob (fun b5 eb5 => ?_)
      subst eb5
      refine kk_aa hG (a := b5) rfl (fun v6 => ?_)
      refine kk_ob (fun b7 eb7 => ?_)
      subst eb7
      refine kk_cx (w := .int) hG 0 rfl rfl (Nat.le_of_ble_eq_true rfl) (by decide) rfl (st' := []) rfl (cats_le (Nat.le_of_ble_eq_true rfl)) (fun _ hw h k => kk_rcv h.1 (kc_Pl_isFull base sa hw h.2 k)) (fun r8 sr8 cr8 dr8 => ?_)
      refine kk_zeq hG (t := 188) rfl rfl ?_ ?_
      · exact kk_wl hG [1, 2, 3, 0] rfl (b188 _ _ _ _ _ _)
      refine kk_bi hG rfl cc_b6 ?_
      exact kk_ri hG rfl rfl rfl k
    refine kk_aln hG (x := (some p0)) rfl rfl ?_
    refine kk_gp hG (c := 7) (k := 0) (a := p0) rfl rfl rfl rfl (fun v9 => ?_)
    refine kk_ob (fun b10 eb10 => ?_)
    subst eb10
    refine kk_gi hG (c := 11) (k := 11) (a := b10) rfl rfl rfl rfl (fun v11 => ?_)
    refine kk_bi hG rfl cc_b8 ?_
    refine kk_ilt hG (t := 188) rfl rfl ?_ ?_
    · exact kk_wl hG [1, 2, 3, 0] rfl (b188 _ _ _ _ _ _)
    refine kk_go hG (t := 185) rfl rfl ?_
    refine kk_bi hG rfl cc_b6 ?_
    exact kk_ri hG rfl rfl rfl k
  have b120 : ∀ (a2 : Int32) (a3 : Int32) (s : cS) (kc ks : Nat), KK sa R base G 120 [(0, va_rf (some p0)), (2, .int a2), (3, .int a3)] [] s kc ks (C_Re_listLine_b120 sa p0 a2 a3 s kc ks Q) := by
    intro a2 a3 s kc ks
    refine kk_aln hG (x := (some p0)) rfl rfl ?_
    refine kk_gi hG (c := 7) (k := 4) (a := p0) rfl rfl rfl rfl (fun v1 => ?_)
    refine kk_zle hG (t := 141) rfl rfl ?_ ?_
    · exact kk_wl hG [0, 1, 2] rfl (b141 _ _ _ _ _)
    refine kk_aln hG (x := (some p0)) rfl rfl ?_
    refine kk_gi hG (c := 7) (k := 5) (a := p0) rfl rfl rfl rfl (fun v2 => ?_)
    refine kk_zle hG (t := 141) rfl rfl ?_ ?_
    · exact kk_wl hG [0, 1, 2] rfl (b141 _ _ _ _ _)
    refine kks hG rfl rfl ?_
    refine kks hG rfl rfl ?_
    refine kk_ile hG (t := 141) rfl rfl ?_ ?_
    · exact kk_wl hG [0, 1, 2] rfl (b141 _ _ _ _ _)
    refine kk_ic hG rfl cc_i4 ?_
    exact kk_ri hG rfl rfl rfl k
  have b108 : ∀ (a2 : Int32) (a3 : Int32) (s : cS) (kc ks : Nat), KK sa R base G 108 [(0, va_rf (some p0)), (2, .int a2), (3, .int a3)] [] s kc ks (C_Re_listLine_b108 sa p0 a2 a3 s kc ks Q) := by
    intro a2 a3 s kc ks
    refine kk_aln hG (x := (some p0)) rfl rfl ?_
    refine kk_gi hG (c := 7) (k := 5) (a := p0) rfl rfl rfl rfl (fun v1 => ?_)
    refine kk_zle hG (t := 120) rfl rfl ?_ ?_
    · exact kk_wl hG [0, 1, 2] rfl (b120 _ _ _ _ _)
    refine kks hG rfl rfl ?_
    refine kk_ic hG rfl cc_im1 ?_
    refine kk_ieq hG (t := 139) rfl rfl ?_ ?_
    · refine kk_ic hG rfl cc_i4 ?_
      exact kk_ri hG rfl rfl rfl k
    exact kk_wl hG [0, 1, 2] rfl (b120 _ _ _ _ _)
  refine (show KK sa R base G 0 [(0, va_rf (some p0))] [] s kc ks (C_Re_listLine sa p0 s kc ks Q) from ?_) hw h
  refine kk_aln hG (x := (some p0)) rfl rfl ?_
  refine kk_ic hG rfl cc_i4 ?_
  refine kk_lws hG (a := sa 26) rfl rfl ?_
  refine kk_lws hG (a := sa 27) rfl rfl ?_
  refine kk_cx (w := .int) hG 0 rfl rfl (Nat.le_of_ble_eq_true rfl) (by decide) rfl (st' := []) rfl (cats_le (Nat.le_of_ble_eq_true rfl)) (fun _ hw h k => kk_rcv h.1 (kc_Re_hasOptions base sa hw h.2 k)) (fun r1 sr1 cr1 dr1 => ?_)
  refine kk_zeq hG (t := 28) rfl rfl ?_ ?_
  · refine kk_ic hG rfl cc_i2 ?_
    exact kk_ri hG rfl rfl rfl k
  refine kk_aln hG (x := (some p0)) rfl rfl ?_
  refine kk_ic hG rfl cc_i2 ?_
  refine kk_lws hG (a := sa 23) rfl rfl ?_
  refine kk_lws hG (a := sa 24) rfl rfl ?_
  refine kk_cx (w := .int) hG 0 rfl rfl (Nat.le_of_ble_eq_true rfl) (by decide) rfl (st' := []) rfl (cats_le (Nat.le_of_ble_eq_true rfl)) (fun _ hw h k => kk_rcv h.1 (kc_Re_isEither base sa hw h.2 k)) (fun r2 sr2 cr2 dr2 => ?_)
  refine kk_zne hG (t := 30) rfl rfl ?_ ?_
  · refine kk_aln hG (x := (some p0)) rfl rfl ?_
    refine kk_ic hG rfl cc_i1 ?_
    refine kk_cx (w := .int) hG 0 rfl rfl (Nat.le_of_ble_eq_true rfl) (by decide) rfl (st' := []) rfl (cats_le (Nat.le_of_ble_eq_true rfl)) (fun _ hw h k => kk_rcv h.1 (kc_Re_isName base sa hw h.2 k)) (fun r3 sr3 cr3 dr3 => ?_)
    refine kk_zne hG (t := 40) rfl rfl ?_ ?_
    · refine kk_aln hG (x := (some p0)) rfl rfl ?_
      refine kk_ic hG rfl cc_i3 ?_
      refine kk_ic hG rfl cc_i0 ?_
      refine kk_cx (w := .int) hG 0 rfl rfl (Nat.le_of_ble_eq_true rfl) (by decide) rfl (st' := []) rfl (cats_le (Nat.le_of_ble_eq_true rfl)) (fun _ hw h k => kk_rcv h.1 (kc_Re_takePrefix base sa hw h.2 k)) (fun r4 sr4 cr4 dr4 => ?_)
      refine kk_zne hG (t := 51) rfl rfl ?_ ?_
      · refine kk_aln hG (x := (some p0)) rfl rfl ?_
        refine kk_gp hG (c := 7) (k := 6) (a := p0) rfl rfl rfl rfl (fun v5 => ?_)
        refine kk_ob (fun b6 eb6 => ?_)
        subst eb6
        refine kk_gi hG (c := 5) (k := 0) (a := b6) rfl rfl rfl rfl (fun v7 => ?_)
        refine kk_cx (w := .int) hG 2 rfl rfl (Nat.le_of_ble_eq_true rfl) (by decide) rfl (st' := []) rfl (cats_le (Nat.le_of_ble_eq_true rfl)) (fun _ hw h k => kc_Pr_bitsOf base sa hw h k) (fun r8 sr8 cr8 dr8 => ?_)
        refine kk_st hG (L' := [(1, .int r8), (0, va_rf (some p0))]) rfl rfl (Nat.le_of_ble_eq_true rfl) rfl ?_
        refine kk_aln hG (x := (some p0)) rfl rfl ?_
        refine kk_aln hG (x := (some p0)) rfl rfl ?_
        refine kk_gi hG (c := 7) (k := 4) (a := p0) rfl rfl rfl rfl (fun v9 => ?_)
        refine kk_aln hG (x := (some p0)) rfl rfl ?_
        refine kk_gp hG (c := 7) (k := 6) (a := p0) rfl rfl rfl rfl (fun v10 => ?_)
        refine kk_ob (fun b11 eb11 => ?_)
        subst eb11
        refine kk_gi hG (c := 5) (k := 3) (a := b11) rfl rfl rfl rfl (fun v12 => ?_)
        refine kks hG rfl rfl ?_
        refine kk_cx (w := .int) hG 0 rfl rfl (Nat.le_of_ble_eq_true rfl) (by decide) rfl (st' := []) rfl (cats_le (Nat.le_of_ble_eq_true rfl)) (fun _ hw h k => kk_rcv h.1 (kc_Re_number base sa hw h.2 k)) (fun r13 sr13 cr13 dr13 => ?_)
        refine kk_st hG (L' := [(2, .int r13), (1, .int r8), (0, va_rf (some p0))]) rfl rfl (Nat.le_of_ble_eq_true rfl) rfl ?_
        refine kk_aln hG (x := (some p0)) rfl rfl ?_
        refine kk_aln hG (x := (some p0)) rfl rfl ?_
        refine kk_gi hG (c := 7) (k := 5) (a := p0) rfl rfl rfl rfl (fun v14 => ?_)
        refine kk_aln hG (x := (some p0)) rfl rfl ?_
        refine kk_gp hG (c := 7) (k := 6) (a := p0) rfl rfl rfl rfl (fun v15 => ?_)
        refine kk_ob (fun b16 eb16 => ?_)
        subst eb16
        refine kk_gi hG (c := 5) (k := 3) (a := b16) rfl rfl rfl rfl (fun v17 => ?_)
        refine kks hG rfl rfl ?_
        refine kk_cx (w := .int) hG 0 rfl rfl (Nat.le_of_ble_eq_true rfl) (by decide) rfl (st' := []) rfl (cats_le (Nat.le_of_ble_eq_true rfl)) (fun _ hw h k => kk_rcv h.1 (kc_Re_number base sa hw h.2 k)) (fun r18 sr18 cr18 dr18 => ?_)
        refine kk_st hG (L' := [(3, .int r18), (2, .int r13), (1, .int r8), (0, va_rf (some p0))]) rfl rfl (Nat.le_of_ble_eq_true rfl) rfl ?_
        refine kk_aln hG (x := (some p0)) rfl rfl ?_
        refine kk_gi hG (c := 7) (k := 4) (a := p0) rfl rfl rfl rfl (fun v19 => ?_)
        refine kk_zle hG (t := 108) rfl rfl ?_ ?_
        · exact kk_wl hG [3, 1, 0] rfl (b108 _ _ _ _ _)
        refine kks hG rfl rfl ?_
        refine kk_ic hG rfl cc_im1 ?_
        refine kk_ieq hG (t := 139) rfl rfl ?_ ?_
        · refine kk_ic hG rfl cc_i4 ?_
          exact kk_ri hG rfl rfl rfl k
        exact kk_wl hG [3, 1, 0] rfl (b108 _ _ _ _ _)
      refine kk_ic hG rfl cc_i5 ?_
      exact kk_ri hG rfl rfl rfl k
    refine kk_ic hG rfl cc_i3 ?_
    exact kk_ri hG rfl rfl rfl k
  refine kk_ic hG rfl cc_i2 ?_
  exact kk_ri hG rfl rfl rfl k
def C_Re_namesPolicy_b28 (sa : Nat → Nat) (p0 : Nat) (s : cS) (kc ks : Nat) (Q : (Int32 → cS → Nat → Nat → Prop)) : Prop := okO s 7 p0 ∧ C_Re_listNamed sa p0 (4 : Int32) s kc ks (fun r1 sr1 cr1 dr1 => (if r1 = ((-1) : Int32) then (Q (0 : Int32) sr1 cr1 dr1) else (Q (1 : Int32) sr1 cr1 dr1)))
def C_Re_namesPolicy (sa : Nat → Nat) (p0 : Nat) (s : cS) (kc ks : Nat) (Q : (Int32 → cS → Nat → Nat → Prop)) : Prop := okO s 7 p0 ∧ C_Re_routerNamed sa p0 (1 : Int32) s kc ks (fun r1 sr1 cr1 dr1 => (if r1 = none then (Q (0 : Int32) sr1 cr1 dr1) else (okO sr1 7 p0 ∧ C_Re_is sa p0 (3 : Int32) (some (sa 29)) sr1 cr1 dr1 (fun r2 sr2 cr2 dr2 => (if r2 = 0 then (okO sr2 7 p0 ∧ C_Re_linkNamed sa p0 (3 : Int32) sr2 cr2 dr2 (fun r3 sr3 cr3 dr3 => (if r3 = ((-1) : Int32) then (Q (0 : Int32) sr3 cr3 dr3) else ((C_Re_namesPolicy_b28 sa p0 sr3 cr3 dr3 Q))))) else ((C_Re_namesPolicy_b28 sa p0 sr2 cr2 dr2 Q)))))))
set_option maxRecDepth 100000 in
set_option maxHeartbeats 4000000 in
theorem kc_Re_namesPolicy (base : Nat) (sa : Nat → Nat) {R : pmM} {s : cS} {kc ks : Nat} {Rt : pmR} {p0 : Nat} {Q : (Int32 → cS → Nat → Nat → Prop)} (hw : cW sa R base s) (h : C_Re_namesPolicy sa p0 s kc ks Q) (k : ∀ r s' kc' ks', cW sa R base s' → Q r s' kc' ks' → Rt (some (.int r)) (cM R s') kc' ks') : kP_Re_namesPolicy base sa [.ref p0] (cM R s) kc ks Rt := by
  refine ⟨Nat.le_of_ble_eq_true rfl, fun G hG => ?_⟩
  have b28 : ∀ (s : cS) (kc ks : Nat), KK sa R base G 28 [(0, va_rf (some p0))] [] s kc ks (C_Re_namesPolicy_b28 sa p0 s kc ks Q) := by
    intro s kc ks
    refine kk_aln hG (x := (some p0)) rfl rfl ?_
    refine kk_ic hG rfl cc_i4 ?_
    refine kk_cx (w := .int) hG 0 rfl rfl (Nat.le_of_ble_eq_true rfl) (by decide) rfl (st' := []) rfl (cats_le (Nat.le_of_ble_eq_true rfl)) (fun _ hw h k => kk_rcv h.1 (kc_Re_listNamed base sa hw h.2 k)) (fun r1 sr1 cr1 dr1 => ?_)
    refine kk_ic hG rfl cc_im1 ?_
    refine kk_ieq hG (t := 41) rfl rfl ?_ ?_
    · refine kk_ic hG rfl cc_i0 ?_
      exact kk_ri hG rfl rfl rfl k
    refine kk_ic hG rfl cc_i1 ?_
    refine kk_go hG (t := 42) rfl rfl ?_
    exact kk_ri hG rfl rfl rfl k
  refine (show KK sa R base G 0 [(0, va_rf (some p0))] [] s kc ks (C_Re_namesPolicy sa p0 s kc ks Q) from ?_) hw h
  refine kk_aln hG (x := (some p0)) rfl rfl ?_
  refine kk_ic hG rfl cc_i1 ?_
  refine kk_cx (w := va_rf) hG 0 rfl rfl (Nat.le_of_ble_eq_true rfl) (by decide) rfl (st' := []) rfl (cats_le (Nat.le_of_ble_eq_true rfl)) (fun _ hw h k => kk_rcv h.1 (kc_Re_routerNamed base sa hw h.2 k)) (fun r1 sr1 cr1 dr1 => ?_)
  refine kk_nul hG (x := r1) (t := 41) rfl rfl ?_ ?_
  · refine kk_ic hG rfl cc_i0 ?_
    exact kk_ri hG rfl rfl rfl k
  refine kk_aln hG (x := (some p0)) rfl rfl ?_
  refine kk_ic hG rfl cc_i3 ?_
  refine kk_lws hG (a := sa 29) rfl rfl ?_
  refine kk_cx (w := .int) hG 0 rfl rfl (Nat.le_of_ble_eq_true rfl) (by decide) rfl (st' := []) rfl (cats_le (Nat.le_of_ble_eq_true rfl)) (fun _ hw h k => kk_rcv h.1 (kc_Re_is base sa hw h.2 k)) (fun r2 sr2 cr2 dr2 => ?_)
  refine kk_zne hG (t := 28) rfl rfl ?_ ?_
  · exact kk_wl hG [0] rfl (b28 _ _ _)
  refine kk_aln hG (x := (some p0)) rfl rfl ?_
  refine kk_ic hG rfl cc_i3 ?_
  refine kk_cx (w := .int) hG 0 rfl rfl (Nat.le_of_ble_eq_true rfl) (by decide) rfl (st' := []) rfl (cats_le (Nat.le_of_ble_eq_true rfl)) (fun _ hw h k => kk_rcv h.1 (kc_Re_linkNamed base sa hw h.2 k)) (fun r3 sr3 cr3 dr3 => ?_)
  refine kk_ic hG rfl cc_im1 ?_
  refine kk_ieq hG (t := 41) rfl rfl ?_ ?_
  · refine kk_ic hG rfl cc_i0 ?_
    exact kk_ri hG rfl rfl rfl k
  exact kk_wl hG [0] rfl (b28 _ _ _)
def C_Re_setPolicy_b18 (sa : Nat → Nat) (p0 : Nat) (p1 : Option Nat) (p2 : Int32) (u0 : Option Nat) (u1 : Int32) (u2 : Int32) (s : cS) (kc ks : Nat) (Q : (cS → Nat → Nat → Prop)) : Prop := ob u0 (fun b1 => (ob (wEi s b1 u1 u2) (fun s2 => (okO s2 7 p0 ∧ C_Re_linkNamed sa p0 (3 : Int32) s2 kc ks (fun r3 sr3 cr3 dr3 => (ob p1 (fun b4 => (ob (wEi sr3 b4 (1 : Int32) r3) (fun s5 => (okO s5 7 p0 ∧ C_Re_listNamed sa p0 (4 : Int32) s5 cr3 dr3 (fun r6 sr6 cr6 dr6 => (ob (wEi sr6 b4 (2 : Int32) r6) (fun s7 => (ob (wEi s7 b4 (3 : Int32) p2) (fun s8 => (Q s8 cr6 dr6))))))))))))))))
def C_Re_setPolicy (sa : Nat → Nat) (p0 : Nat) (p1 : Option Nat) (p2 : Int32) (s : cS) (kc ks : Nat) (Q : (cS → Nat → Nat → Prop)) : Prop := okO s 7 p0 ∧ C_Re_is sa p0 (2 : Int32) (some (sa 21)) s kc ks (fun r1 sr1 cr1 dr1 => (if r1 = 0 then ((C_Re_setPolicy_b18 sa p0 p1 p2 p1 (0 : Int32) (1 : Int32) sr1 cr1 dr1 Q)) else ((C_Re_setPolicy_b18 sa p0 p1 p2 p1 (0 : Int32) (0 : Int32) sr1 cr1 dr1 Q))))
set_option maxRecDepth 100000 in
set_option maxHeartbeats 4000000 in
theorem kc_Re_setPolicy (base : Nat) (sa : Nat → Nat) {R : pmM} {s : cS} {kc ks : Nat} {Rt : pmR} {p0 : Nat} {p1 : Option Nat} {p2 : Int32} {Q : (cS → Nat → Nat → Prop)} (hw : cW sa R base s) (h : C_Re_setPolicy sa p0 p1 p2 s kc ks Q) (k : ∀ s' kc' ks', cW sa R base s' → Q s' kc' ks' → Rt none (cM R s') kc' ks') : kP_Re_setPolicy base sa [.ref p0, va_rf p1, .int p2] (cM R s) kc ks Rt := by
  refine ⟨by cases p1 <;> exact Nat.le_of_ble_eq_true rfl, fun G hG => ?_⟩
  have eL : lv_args 0 [.ref p0, va_rf p1, .int p2] = [(0, va_rf (some p0)), (1, va_rf p1), (2, .int p2)] := by cases p1 <;> rfl
  rw [eL]
  have b18 : ∀ (u0 : Option Nat) (u1 : Int32) (u2 : Int32) (s : cS) (kc ks : Nat), KK sa R base G 18 [(0, va_rf (some p0)), (1, va_rf p1), (2, .int p2)] [.int u2, .int u1, va_rf u0] s kc ks (C_Re_setPolicy_b18 sa p0 p1 p2 u0 u1 u2 s kc ks Q) := by
    intro u0 u1 u2 s kc ks
    refine kk_ob (fun b1 eb1 => ?_)
    subst eb1
    refine kk_is hG (a := b1) rfl (fun s2 => ?_)
    refine kk_aln hG (x := p1) rfl rfl ?_
    refine kk_ic hG rfl cc_i1 ?_
    refine kk_aln hG (x := (some p0)) rfl rfl ?_
    refine kk_ic hG rfl cc_i3 ?_
    refine kk_cx (w := .int) hG 0 rfl rfl (Nat.le_of_ble_eq_true rfl) (by decide) rfl (st' := [.int (1 : Int32), va_rf p1]) rfl (cats_le (Nat.le_of_ble_eq_true rfl)) (fun _ hw h k => kk_rcv h.1 (kc_Re_linkNamed base sa hw h.2 k)) (fun r3 sr3 cr3 dr3 => ?_)
    refine kk_ob (fun b4 eb4 => ?_)
    subst eb4
    refine kk_is hG (a := b4) rfl (fun s5 => ?_)
    refine kk_aln hG (x := (some b4)) rfl rfl ?_
    refine kk_ic hG rfl cc_i2 ?_
    refine kk_aln hG (x := (some p0)) rfl rfl ?_
    refine kk_ic hG rfl cc_i4 ?_
    refine kk_cx (w := .int) hG 0 rfl rfl (Nat.le_of_ble_eq_true rfl) (by decide) rfl (st' := [.int (2 : Int32), va_rf (some b4)]) rfl (cats_le (Nat.le_of_ble_eq_true rfl)) (fun _ hw h k => kk_rcv h.1 (kc_Re_listNamed base sa hw h.2 k)) (fun r6 sr6 cr6 dr6 => ?_)
    refine kk_is hG (a := b4) rfl (fun s7 => ?_)
    refine kk_aln hG (x := (some b4)) rfl rfl ?_
    refine kk_ic hG rfl cc_i3 ?_
    refine kks hG rfl rfl ?_
    refine kk_is hG (a := b4) rfl (fun s8 => ?_)
    exact kk_rv hG rfl rfl k
  refine (show KK sa R base G 0 [(0, va_rf (some p0)), (1, va_rf p1), (2, .int p2)] [] s kc ks (C_Re_setPolicy sa p0 p1 p2 s kc ks Q) from ?_) hw h
  refine kk_aln hG (x := p1) rfl rfl ?_
  refine kk_ic hG rfl cc_i0 ?_
  refine kk_aln hG (x := (some p0)) rfl rfl ?_
  refine kk_ic hG rfl cc_i2 ?_
  refine kk_lws hG (a := sa 21) rfl rfl ?_
  refine kk_cx (w := .int) hG 0 rfl rfl (Nat.le_of_ble_eq_true rfl) (by decide) rfl (st' := [.int (0 : Int32), va_rf p1]) rfl (cats_le (Nat.le_of_ble_eq_true rfl)) (fun _ hw h k => kk_rcv h.1 (kc_Re_is base sa hw h.2 k)) (fun r1 sr1 cr1 dr1 => ?_)
  refine kk_zeq hG (t := 17) rfl rfl ?_ ?_
  · refine kk_ic hG rfl cc_i1 ?_
    exact kk_wl hG [0, 1, 2] rfl (b18 _ _ _ _ _ _)
  refine kk_ic hG rfl cc_i0 ?_
  refine kk_go hG (t := 18) rfl rfl ?_
  exact kk_wl hG [0, 1, 2] rfl (b18 _ _ _ _ _ _)
def C_Re_distributeLine (sa : Nat → Nat) (p0 : Nat) (s : cS) (kc ks : Nat) (Q : (Int32 → cS → Nat → Nat → Prop)) : Prop := ob (gI s 7 3 p0) (fun v1 => (if v1 = (5 : Int32) then (okO s 7 p0 ∧ C_Re_isEither sa p0 (2 : Int32) (some (sa 21)) (some (sa 22)) s kc ks (fun r2 sr2 cr2 dr2 => (if r2 = 0 then (Q (2 : Int32) sr2 cr2 dr2) else (okO sr2 7 p0 ∧ C_Re_routerNamed sa p0 (1 : Int32) sr2 cr2 dr2 (fun r3 sr3 cr3 dr3 => (if r3 = none then (Q (3 : Int32) sr3 cr3 dr3) else (okO sr3 7 p0 ∧ C_Re_namesPolicy sa p0 sr3 cr3 dr3 (fun r4 sr4 cr4 dr4 => (if r4 = 0 then (Q (3 : Int32) sr4 cr4 dr4) else (ob r3 (fun b5 => (ob (gI sr4 9 10 b5) (fun v6 => (if v6 < (8 : Int32) then (ob (gP sr4 9 9 b5) (fun v7 => (ob (gI sr4 9 10 b5) (fun v8 => (ob v7 (fun b9 => (ob (rQ sr4 b9 v8) (fun v10 => (okO sr4 7 p0 ∧ C_Re_setPolicy sa p0 v10 (0 : Int32) sr4 cr4 dr4 (fun sr11 cr11 dr11 => (ob (gI sr11 9 10 b5) (fun v12 => (ob (pI sr11 9 10 b5 (v12 + (1 : Int32))) (fun s13 => (Q (0 : Int32) s13 cr11 dr11))))))))))))))) else (Q (6 : Int32) sr4 cr4 dr4))))))))))))))) else (Q (2 : Int32) s kc ks)))
set_option maxRecDepth 100000 in
set_option maxHeartbeats 4000000 in
theorem kc_Re_distributeLine (base : Nat) (sa : Nat → Nat) {R : pmM} {s : cS} {kc ks : Nat} {Rt : pmR} {p0 : Nat} {Q : (Int32 → cS → Nat → Nat → Prop)} (hw : cW sa R base s) (h : C_Re_distributeLine sa p0 s kc ks Q) (k : ∀ r s' kc' ks', cW sa R base s' → Q r s' kc' ks' → Rt (some (.int r)) (cM R s') kc' ks') : kP_Re_distributeLine base sa [.ref p0] (cM R s) kc ks Rt := by
  refine ⟨Nat.le_of_ble_eq_true rfl, fun G hG => ?_⟩
  refine (show KK sa R base G 0 [(0, va_rf (some p0))] [] s kc ks (C_Re_distributeLine sa p0 s kc ks Q) from ?_) hw h
  refine kk_aln hG (x := (some p0)) rfl rfl ?_
  refine kk_gi hG (c := 7) (k := 3) (a := p0) rfl rfl rfl rfl (fun v1 => ?_)
  refine kk_ic hG rfl cc_i5 ?_
  refine kk_ine hG (t := 22) rfl rfl ?_ ?_
  · refine kk_ic hG rfl cc_i2 ?_
    exact kk_ri hG rfl rfl rfl k
  refine kk_aln hG (x := (some p0)) rfl rfl ?_
  refine kk_ic hG rfl cc_i2 ?_
  refine kk_lws hG (a := sa 21) rfl rfl ?_
  refine kk_lws hG (a := sa 22) rfl rfl ?_
  refine kk_cx (w := .int) hG 0 rfl rfl (Nat.le_of_ble_eq_true rfl) (by decide) rfl (st' := []) rfl (cats_le (Nat.le_of_ble_eq_true rfl)) (fun _ hw h k => kk_rcv h.1 (kc_Re_isEither base sa hw h.2 k)) (fun r2 sr2 cr2 dr2 => ?_)
  refine kk_zne hG (t := 24) rfl rfl ?_ ?_
  · refine kk_aln hG (x := (some p0)) rfl rfl ?_
    refine kk_ic hG rfl cc_i1 ?_
    refine kk_cx (w := va_rf) hG 0 rfl rfl (Nat.le_of_ble_eq_true rfl) (by decide) rfl (st' := []) rfl (cats_le (Nat.le_of_ble_eq_true rfl)) (fun _ hw h k => kk_rcv h.1 (kc_Re_routerNamed base sa hw h.2 k)) (fun r3 sr3 cr3 dr3 => ?_)
    refine kk_asn hG (x := r3) (L' := [(1, va_rf r3), (0, va_rf (some p0))]) rfl (Nat.le_of_ble_eq_true rfl) rfl ?_
    refine kk_aln hG (x := r3) rfl rfl ?_
    refine kk_nul hG (x := r3) (t := 41) rfl rfl ?_ ?_
    · refine kk_ic hG rfl cc_i3 ?_
      exact kk_ri hG rfl rfl rfl k
    refine kk_aln hG (x := (some p0)) rfl rfl ?_
    refine kk_cx (w := .int) hG 0 rfl rfl (Nat.le_of_ble_eq_true rfl) (by decide) rfl (st' := []) rfl (cats_le (Nat.le_of_ble_eq_true rfl)) (fun _ hw h k => kk_rcv h.1 (kc_Re_namesPolicy base sa hw h.2 k)) (fun r4 sr4 cr4 dr4 => ?_)
    refine kk_zne hG (t := 43) rfl rfl ?_ ?_
    · refine kk_aln hG (x := r3) rfl rfl ?_
      refine kk_ob (fun b5 eb5 => ?_)
      subst eb5
      refine kk_gi hG (c := 9) (k := 10) (a := b5) rfl rfl rfl rfl (fun v6 => ?_)
      refine kk_bi hG rfl cc_b8 ?_
      refine kk_ilt hG (t := 55) rfl rfl ?_ ?_
      · refine kk_aln hG (x := (some p0)) rfl rfl ?_
        refine kk_aln hG (x := (some b5)) rfl rfl ?_
        refine kk_gp hG (c := 9) (k := 9) (a := b5) rfl rfl rfl rfl (fun v7 => ?_)
        refine kk_aln hG (x := (some b5)) rfl rfl ?_
        refine kk_gi hG (c := 9) (k := 10) (a := b5) rfl rfl rfl rfl (fun v8 => ?_)
        refine kk_ob (fun b9 eb9 => ?_)
        subst eb9
        refine kk_aa hG (a := b9) rfl (fun v10 => ?_)
        refine kk_ic hG rfl cc_i0 ?_
        refine kk_cv hG 0 rfl rfl (Nat.le_of_ble_eq_true rfl) (by decide) rfl (st' := []) rfl (cats_le (Nat.le_of_ble_eq_true rfl)) (fun _ hw h k => kk_rcv h.1 (kc_Re_setPolicy base sa hw h.2 k)) (fun sr11 cr11 dr11 => ?_)
        refine kk_aln hG (x := (some b5)) rfl rfl ?_
        refine kk_dup hG (x := (some b5)) rfl ?_
        refine kk_gi hG (c := 9) (k := 10) (a := b5) rfl rfl rfl rfl (fun v12 => ?_)
        refine kk_ic hG rfl cc_i1 ?_
        refine kks hG rfl rfl ?_
        refine kk_pi hG (c := 9) (k := 10) (a := b5) rfl rfl rfl rfl (fun s13 => ?_)
        refine kk_ic hG rfl cc_i0 ?_
        exact kk_ri hG rfl rfl rfl k
      refine kk_bi hG rfl cc_b6 ?_
      exact kk_ri hG rfl rfl rfl k
    refine kk_ic hG rfl cc_i3 ?_
    exact kk_ri hG rfl rfl rfl k
  refine kk_ic hG rfl cc_i2 ?_
  exact kk_ri hG rfl rfl rfl k
def C_Re_offsetLine (sa : Nat → Nat) (p0 : Nat) (s : cS) (kc ks : Nat) (Q : (Int32 → cS → Nat → Nat → Prop)) : Prop := ob (gI s 7 3 p0) (fun v1 => (if v1 = (6 : Int32) then (okO s 7 p0 ∧ C_Re_isEither sa p0 (2 : Int32) (some (sa 21)) (some (sa 22)) s kc ks (fun r2 sr2 cr2 dr2 => (if r2 = 0 then (Q (2 : Int32) sr2 cr2 dr2) else (okO sr2 7 p0 ∧ C_Re_routerNamed sa p0 (1 : Int32) sr2 cr2 dr2 (fun r3 sr3 cr3 dr3 => (if r3 = none then (Q (3 : Int32) sr3 cr3 dr3) else (okO sr3 7 p0 ∧ C_Re_namesPolicy sa p0 sr3 cr3 dr3 (fun r4 sr4 cr4 dr4 => (if r4 = 0 then (Q (3 : Int32) sr4 cr4 dr4) else (okO sr4 7 p0 ∧ C_Re_number sa p0 (5 : Int32) (1 : Int32) (15 : Int32) sr4 cr4 dr4 (fun r5 sr5 cr5 dr5 => (if r5 = ((-1) : Int32) then (Q (4 : Int32) sr5 cr5 dr5) else (ob r3 (fun b6 => (ob (gI sr5 9 12 b6) (fun v7 => (if v7 < (8 : Int32) then (ob (gP sr5 9 11 b6) (fun v8 => (ob (gI sr5 9 12 b6) (fun v9 => (ob v8 (fun b10 => (ob (rQ sr5 b10 v9) (fun v11 => (okO sr5 7 p0 ∧ C_Re_setPolicy sa p0 v11 r5 sr5 cr5 dr5 (fun sr12 cr12 dr12 => (ob (gI sr12 9 12 b6) (fun v13 => (ob (pI sr12 9 12 b6 (v13 + (1 : Int32))) (fun s14 => (Q (0 : Int32) s14 cr12 dr12))))))))))))))) else (Q (6 : Int32) sr5 cr5 dr5)))))))))))))))))) else (Q (2 : Int32) s kc ks)))
set_option maxRecDepth 100000 in
set_option maxHeartbeats 4000000 in
theorem kc_Re_offsetLine (base : Nat) (sa : Nat → Nat) {R : pmM} {s : cS} {kc ks : Nat} {Rt : pmR} {p0 : Nat} {Q : (Int32 → cS → Nat → Nat → Prop)} (hw : cW sa R base s) (h : C_Re_offsetLine sa p0 s kc ks Q) (k : ∀ r s' kc' ks', cW sa R base s' → Q r s' kc' ks' → Rt (some (.int r)) (cM R s') kc' ks') : kP_Re_offsetLine base sa [.ref p0] (cM R s) kc ks Rt := by
  refine ⟨Nat.le_of_ble_eq_true rfl, fun G hG => ?_⟩
  refine (show KK sa R base G 0 [(0, va_rf (some p0))] [] s kc ks (C_Re_offsetLine sa p0 s kc ks Q) from ?_) hw h
  refine kk_aln hG (x := (some p0)) rfl rfl ?_
  refine kk_gi hG (c := 7) (k := 3) (a := p0) rfl rfl rfl rfl (fun v1 => ?_)
  refine kk_bi hG rfl cc_b6 ?_
  refine kk_ine hG (t := 23) rfl rfl ?_ ?_
  · refine kk_ic hG rfl cc_i2 ?_
    exact kk_ri hG rfl rfl rfl k
  refine kk_aln hG (x := (some p0)) rfl rfl ?_
  refine kk_ic hG rfl cc_i2 ?_
  refine kk_lws hG (a := sa 21) rfl rfl ?_
  refine kk_lws hG (a := sa 22) rfl rfl ?_
  refine kk_cx (w := .int) hG 0 rfl rfl (Nat.le_of_ble_eq_true rfl) (by decide) rfl (st' := []) rfl (cats_le (Nat.le_of_ble_eq_true rfl)) (fun _ hw h k => kk_rcv h.1 (kc_Re_isEither base sa hw h.2 k)) (fun r2 sr2 cr2 dr2 => ?_)
  refine kk_zne hG (t := 25) rfl rfl ?_ ?_
  · refine kk_aln hG (x := (some p0)) rfl rfl ?_
    refine kk_ic hG rfl cc_i1 ?_
    refine kk_cx (w := va_rf) hG 0 rfl rfl (Nat.le_of_ble_eq_true rfl) (by decide) rfl (st' := []) rfl (cats_le (Nat.le_of_ble_eq_true rfl)) (fun _ hw h k => kk_rcv h.1 (kc_Re_routerNamed base sa hw h.2 k)) (fun r3 sr3 cr3 dr3 => ?_)
    refine kk_asn hG (x := r3) (L' := [(1, va_rf r3), (0, va_rf (some p0))]) rfl (Nat.le_of_ble_eq_true rfl) rfl ?_
    refine kk_aln hG (x := r3) rfl rfl ?_
    refine kk_nul hG (x := r3) (t := 42) rfl rfl ?_ ?_
    · refine kk_ic hG rfl cc_i3 ?_
      exact kk_ri hG rfl rfl rfl k
    refine kk_aln hG (x := (some p0)) rfl rfl ?_
    refine kk_cx (w := .int) hG 0 rfl rfl (Nat.le_of_ble_eq_true rfl) (by decide) rfl (st' := []) rfl (cats_le (Nat.le_of_ble_eq_true rfl)) (fun _ hw h k => kk_rcv h.1 (kc_Re_namesPolicy base sa hw h.2 k)) (fun r4 sr4 cr4 dr4 => ?_)
    refine kk_zne hG (t := 44) rfl rfl ?_ ?_
    · refine kk_aln hG (x := (some p0)) rfl rfl ?_
      refine kk_ic hG rfl cc_i5 ?_
      refine kk_ic hG rfl cc_i1 ?_
      refine kk_bi hG rfl cc_b15 ?_
      refine kk_cx (w := .int) hG 0 rfl rfl (Nat.le_of_ble_eq_true rfl) (by decide) rfl (st' := []) rfl (cats_le (Nat.le_of_ble_eq_true rfl)) (fun _ hw h k => kk_rcv h.1 (kc_Re_number base sa hw h.2 k)) (fun r5 sr5 cr5 dr5 => ?_)
      refine kk_st hG (L' := [(2, .int r5), (1, va_rf r3), (0, va_rf (some p0))]) rfl rfl (Nat.le_of_ble_eq_true rfl) (by cases r3 <;> rfl) ?_
      refine kks hG rfl rfl ?_
      refine kk_ic hG rfl cc_im1 ?_
      refine kk_ine hG (t := 60) rfl rfl ?_ ?_
      · refine kk_aln hG (x := r3) rfl rfl ?_
        refine kk_ob (fun b6 eb6 => ?_)
        subst eb6
        refine kk_gi hG (c := 9) (k := 12) (a := b6) rfl rfl rfl rfl (fun v7 => ?_)
        refine kk_bi hG rfl cc_b8 ?_
        refine kk_ilt hG (t := 72) rfl rfl ?_ ?_
        · refine kk_aln hG (x := (some p0)) rfl rfl ?_
          refine kk_aln hG (x := (some b6)) rfl rfl ?_
          refine kk_gp hG (c := 9) (k := 11) (a := b6) rfl rfl rfl rfl (fun v8 => ?_)
          refine kk_aln hG (x := (some b6)) rfl rfl ?_
          refine kk_gi hG (c := 9) (k := 12) (a := b6) rfl rfl rfl rfl (fun v9 => ?_)
          refine kk_ob (fun b10 eb10 => ?_)
          subst eb10
          refine kk_aa hG (a := b10) rfl (fun v11 => ?_)
          refine kks hG rfl rfl ?_
          refine kk_cv hG 0 rfl rfl (Nat.le_of_ble_eq_true rfl) (by decide) rfl (st' := []) rfl (cats_le (Nat.le_of_ble_eq_true rfl)) (fun _ hw h k => kk_rcv h.1 (kc_Re_setPolicy base sa hw h.2 k)) (fun sr12 cr12 dr12 => ?_)
          refine kk_aln hG (x := (some b6)) rfl rfl ?_
          refine kk_dup hG (x := (some b6)) rfl ?_
          refine kk_gi hG (c := 9) (k := 12) (a := b6) rfl rfl rfl rfl (fun v13 => ?_)
          refine kk_ic hG rfl cc_i1 ?_
          refine kks hG rfl rfl ?_
          refine kk_pi hG (c := 9) (k := 12) (a := b6) rfl rfl rfl rfl (fun s14 => ?_)
          refine kk_ic hG rfl cc_i0 ?_
          exact kk_ri hG rfl rfl rfl k
        refine kk_bi hG rfl cc_b6 ?_
        exact kk_ri hG rfl rfl rfl k
      refine kk_ic hG rfl cc_i4 ?_
      exact kk_ri hG rfl rfl rfl k
    refine kk_ic hG rfl cc_i3 ?_
    exact kk_ri hG rfl rfl rfl k
  refine kk_ic hG rfl cc_i2 ?_
  exact kk_ri hG rfl rfl rfl k
def C_Po_addSummary (sa : Nat → Nat) (p0 : Nat) (p1 : Option Nat) (s : cS) (kc ks : Nat) (Q : (cS → Nat → Nat → Prop)) : Prop := ob (gI s 4 8 p0) (fun v1 => (ob (gP s 4 7 p0) (fun v2 => (ob v2 (fun b3 => (ob (aL s b3) (fun v4 => (if v1 < v4 then (ob (gP s 4 7 p0) (fun v5 => (ob (gI s 4 8 p0) (fun v6 => (nwO sa s kc ks 5 4 (fun q7 sq7 cq7 dq7 => (okO sq7 5 q7 ∧ C_Pr_init sa q7 sq7 cq7 dq7 (fun sr8 cr8 dr8 => (ob v5 (fun b9 => (ob (wQ sr8 b9 v6 (some q7)) (fun s10 => (ob (gP s10 4 7 p0) (fun v11 => (ob (gI s10 4 8 p0) (fun v12 => (ob v11 (fun b13 => (ob (rQ s10 b13 v12) (fun v14 => (ob v14 (fun b15 => (okO s10 5 b15 ∧ C_Pr_copy sa b15 p1 s10 cr8 dr8 (fun sr16 cr16 dr16 => (ob (gI sr16 4 8 p0) (fun v17 => (ob (pI sr16 4 8 p0 (v17 + (1 : Int32))) (fun s18 => (Q s18 cr16 dr16))))))))))))))))))))))))))))) else (Q s kc ks)))))))))
set_option maxRecDepth 100000 in
set_option maxHeartbeats 4000000 in
theorem kc_Po_addSummary (base : Nat) (sa : Nat → Nat) {R : pmM} {s : cS} {kc ks : Nat} {Rt : pmR} {p0 : Nat} {p1 : Option Nat} {Q : (cS → Nat → Nat → Prop)} (hw : cW sa R base s) (h : C_Po_addSummary sa p0 p1 s kc ks Q) (k : ∀ s' kc' ks', cW sa R base s' → Q s' kc' ks' → Rt none (cM R s') kc' ks') : kP_Po_addSummary base sa [.ref p0, va_rf p1] (cM R s) kc ks Rt := by
  refine ⟨by cases p1 <;> exact Nat.le_of_ble_eq_true rfl, fun G hG => ?_⟩
  have eL : lv_args 0 [.ref p0, va_rf p1] = [(0, va_rf (some p0)), (1, va_rf p1)] := by cases p1 <;> rfl
  rw [eL]
  refine (show KK sa R base G 0 [(0, va_rf (some p0)), (1, va_rf p1)] [] s kc ks (C_Po_addSummary sa p0 p1 s kc ks Q) from ?_) hw h
  refine kk_aln hG (x := (some p0)) rfl rfl ?_
  refine kk_gi hG (c := 4) (k := 8) (a := p0) rfl rfl rfl rfl (fun v1 => ?_)
  refine kk_aln hG (x := (some p0)) rfl rfl ?_
  refine kk_gp hG (c := 4) (k := 7) (a := p0) rfl rfl rfl rfl (fun v2 => ?_)
  refine kk_ob (fun b3 eb3 => ?_)
  subst eb3
  refine kk_len hG (a := b3) rfl (fun v4 => ?_)
  refine kk_ige hG (t := 51) rfl rfl ?_ ?_
  · exact kk_rv hG rfl rfl k
  refine kk_aln hG (x := (some p0)) rfl rfl ?_
  refine kk_gp hG (c := 4) (k := 7) (a := p0) rfl rfl rfl rfl (fun v5 => ?_)
  refine kk_aln hG (x := (some p0)) rfl rfl ?_
  refine kk_gi hG (c := 4) (k := 8) (a := p0) rfl rfl rfl rfl (fun v6 => ?_)
  refine kk_new hG (c := 5) (n := 4) rfl rfl rfl rfl (fun q7 sq7 cq7 dq7 => ?_)
  refine kk_dup hG (x := (some q7)) rfl ?_
  refine kk_cv hG 1 rfl rfl (Nat.le_of_ble_eq_true rfl) (by decide) rfl (st' := [va_rf (some q7), .int v6, va_rf v5]) rfl (cats_le (Nat.le_of_ble_eq_true rfl)) (fun _ hw h k => kk_rcv h.1 (kc_Pr_init base sa hw h.2 k)) (fun sr8 cr8 dr8 => ?_)
  refine kk_ob (fun b9 eb9 => ?_)
  subst eb9
  refine kk_aas hG (a := b9) (x := (some q7)) rfl (fun s10 => ?_)
  refine kk_aln hG (x := (some p0)) rfl rfl ?_
  refine kk_gp hG (c := 4) (k := 7) (a := p0) rfl rfl rfl rfl (fun v11 => ?_)
  refine kk_aln hG (x := (some p0)) rfl rfl ?_
  refine kk_gi hG (c := 4) (k := 8) (a := p0) rfl rfl rfl rfl (fun v12 => ?_)
  refine kk_ob (fun b13 eb13 => ?_)
  subst eb13
  refine kk_aa hG (a := b13) rfl (fun v14 => ?_)
  refine kk_aln hG (x := p1) rfl rfl ?_
  refine kk_ob (fun b15 eb15 => ?_)
  subst eb15
  refine kk_cv hG 0 rfl rfl (Nat.le_of_ble_eq_true rfl) (by decide) rfl (st' := []) rfl (cats_le (Nat.le_of_ble_eq_true rfl)) (fun _ hw h k => kk_rcv h.1 (kc_Pr_copy base sa hw h.2 k)) (fun sr16 cr16 dr16 => ?_)
  refine kk_aln hG (x := (some p0)) rfl rfl ?_
  refine kk_dup hG (x := (some p0)) rfl ?_
  refine kk_gi hG (c := 4) (k := 8) (a := p0) rfl rfl rfl rfl (fun v17 => ?_)
  refine kk_ic hG rfl cc_i1 ?_
  refine kks hG rfl rfl ?_
  refine kk_pi hG (c := 4) (k := 8) (a := p0) rfl rfl rfl rfl (fun s18 => ?_)
  exact kk_rv hG rfl rfl k
def C_Re_summaryLine (sa : Nat → Nat) (p0 : Nat) (s : cS) (kc ks : Nat) (Q : (Int32 → cS → Nat → Nat → Prop)) : Prop := ob (gI s 7 3 p0) (fun v1 => (if v1 = (4 : Int32) then (okO s 7 p0 ∧ C_Re_portNamed sa p0 s kc ks (fun r2 sr2 cr2 dr2 => (if r2 = none then (Q (3 : Int32) sr2 cr2 dr2) else (okO sr2 7 p0 ∧ C_Re_takePrefix sa p0 (3 : Int32) (0 : Int32) sr2 cr2 dr2 (fun r3 sr3 cr3 dr3 => (if r3 = 0 then (Q (5 : Int32) sr3 cr3 dr3) else (ob r2 (fun b4 => (ob (gI sr3 4 8 b4) (fun v5 => (if v5 < (4 : Int32) then (ob (gP sr3 7 6 p0) (fun v6 => (okO sr3 4 b4 ∧ C_Po_addSummary sa b4 v6 sr3 cr3 dr3 (fun sr7 cr7 dr7 => (Q (0 : Int32) sr7 cr7 dr7))))) else (Q (6 : Int32) sr3 cr3 dr3)))))))))))) else (Q (2 : Int32) s kc ks)))
set_option maxRecDepth 100000 in
set_option maxHeartbeats 4000000 in
theorem kc_Re_summaryLine (base : Nat) (sa : Nat → Nat) {R : pmM} {s : cS} {kc ks : Nat} {Rt : pmR} {p0 : Nat} {Q : (Int32 → cS → Nat → Nat → Prop)} (hw : cW sa R base s) (h : C_Re_summaryLine sa p0 s kc ks Q) (k : ∀ r s' kc' ks', cW sa R base s' → Q r s' kc' ks' → Rt (some (.int r)) (cM R s') kc' ks') : kP_Re_summaryLine base sa [.ref p0] (cM R s) kc ks Rt := by
  refine ⟨Nat.le_of_ble_eq_true rfl, fun G hG => ?_⟩
  refine (show KK sa R base G 0 [(0, va_rf (some p0))] [] s kc ks (C_Re_summaryLine sa p0 s kc ks Q) from ?_) hw h
  refine kk_aln hG (x := (some p0)) rfl rfl ?_
  refine kk_gi hG (c := 7) (k := 3) (a := p0) rfl rfl rfl rfl (fun v1 => ?_)
  refine kk_ic hG rfl cc_i4 ?_
  refine kk_ieq hG (t := 10) rfl rfl ?_ ?_
  · refine kk_aln hG (x := (some p0)) rfl rfl ?_
    refine kk_cx (w := va_rf) hG 0 rfl rfl (Nat.le_of_ble_eq_true rfl) (by decide) rfl (st' := []) rfl (cats_le (Nat.le_of_ble_eq_true rfl)) (fun _ hw h k => kk_rcv h.1 (kc_Re_portNamed base sa hw h.2 k)) (fun r2 sr2 cr2 dr2 => ?_)
    refine kk_asn hG (x := r2) (L' := [(1, va_rf r2), (0, va_rf (some p0))]) rfl (Nat.le_of_ble_eq_true rfl) rfl ?_
    refine kk_aln hG (x := r2) rfl rfl ?_
    refine kk_nnl hG (x := r2) (t := 21) rfl rfl ?_ ?_
    · refine kk_aln hG (x := (some p0)) rfl rfl ?_
      refine kk_ic hG rfl cc_i3 ?_
      refine kk_ic hG rfl cc_i0 ?_
      refine kk_cx (w := .int) hG 0 rfl rfl (Nat.le_of_ble_eq_true rfl) (by decide) rfl (st' := []) rfl (cats_le (Nat.le_of_ble_eq_true rfl)) (fun _ hw h k => kk_rcv h.1 (kc_Re_takePrefix base sa hw h.2 k)) (fun r3 sr3 cr3 dr3 => ?_)
      refine kk_zne hG (t := 32) rfl rfl ?_ ?_
      · refine kk_aln hG (x := r2) rfl rfl ?_
        refine kk_ob (fun b4 eb4 => ?_)
        subst eb4
        refine kk_gi hG (c := 4) (k := 8) (a := b4) rfl rfl rfl rfl (fun v5 => ?_)
        refine kk_ic hG rfl cc_i4 ?_
        refine kk_ilt hG (t := 43) rfl rfl ?_ ?_
        · refine kk_aln hG (x := (some b4)) rfl rfl ?_
          refine kk_aln hG (x := (some p0)) rfl rfl ?_
          refine kk_gp hG (c := 7) (k := 6) (a := p0) rfl rfl rfl rfl (fun v6 => ?_)
          refine kk_cv hG 0 rfl rfl (Nat.le_of_ble_eq_true rfl) (by decide) rfl (st' := []) rfl (cats_le (Nat.le_of_ble_eq_true rfl)) (fun _ hw h k => kk_rcv h.1 (kc_Po_addSummary base sa hw h.2 k)) (fun sr7 cr7 dr7 => ?_)
          refine kk_ic hG rfl cc_i0 ?_
          exact kk_ri hG rfl rfl rfl k
        refine kk_bi hG rfl cc_b6 ?_
        exact kk_ri hG rfl rfl rfl k
      refine kk_ic hG rfl cc_i5 ?_
      exact kk_ri hG rfl rfl rfl k
    refine kk_ic hG rfl cc_i3 ?_
    exact kk_ri hG rfl rfl rfl k
  refine kk_ic hG rfl cc_i2 ?_
  exact kk_ri hG rfl rfl rfl k
def C_Po_addNeighbor (sa : Nat → Nat) (p0 : Nat) (p1 : Option Nat) (s : cS) (kc ks : Nat) (Q : (cS → Nat → Nat → Prop)) : Prop := ob (gI s 4 12 p0) (fun v1 => (ob (gP s 4 11 p0) (fun v2 => (ob v2 (fun b3 => (ob (aL s b3) (fun v4 => (if v1 < v4 then (ob (gP s 4 11 p0) (fun v5 => (ob (gI s 4 12 p0) (fun v6 => (nwO sa s kc ks 5 4 (fun q7 sq7 cq7 dq7 => (okO sq7 5 q7 ∧ C_Pr_init sa q7 sq7 cq7 dq7 (fun sr8 cr8 dr8 => (ob v5 (fun b9 => (ob (wQ sr8 b9 v6 (some q7)) (fun s10 => (ob (gP s10 4 11 p0) (fun v11 => (ob (gI s10 4 12 p0) (fun v12 => (ob v11 (fun b13 => (ob (rQ s10 b13 v12) (fun v14 => (ob v14 (fun b15 => (okO s10 5 b15 ∧ C_Pr_copy sa b15 p1 s10 cr8 dr8 (fun sr16 cr16 dr16 => (ob (gI sr16 4 12 p0) (fun v17 => (ob (pI sr16 4 12 p0 (v17 + (1 : Int32))) (fun s18 => (Q s18 cr16 dr16))))))))))))))))))))))))))))) else (Q s kc ks)))))))))
set_option maxRecDepth 100000 in
set_option maxHeartbeats 4000000 in
theorem kc_Po_addNeighbor (base : Nat) (sa : Nat → Nat) {R : pmM} {s : cS} {kc ks : Nat} {Rt : pmR} {p0 : Nat} {p1 : Option Nat} {Q : (cS → Nat → Nat → Prop)} (hw : cW sa R base s) (h : C_Po_addNeighbor sa p0 p1 s kc ks Q) (k : ∀ s' kc' ks', cW sa R base s' → Q s' kc' ks' → Rt none (cM R s') kc' ks') : kP_Po_addNeighbor base sa [.ref p0, va_rf p1] (cM R s) kc ks Rt := by
  refine ⟨by cases p1 <;> exact Nat.le_of_ble_eq_true rfl, fun G hG => ?_⟩
  have eL : lv_args 0 [.ref p0, va_rf p1] = [(0, va_rf (some p0)), (1, va_rf p1)] := by cases p1 <;> rfl
  rw [eL]
  refine (show KK sa R base G 0 [(0, va_rf (some p0)), (1, va_rf p1)] [] s kc ks (C_Po_addNeighbor sa p0 p1 s kc ks Q) from ?_) hw h
  refine kk_aln hG (x := (some p0)) rfl rfl ?_
  refine kk_gi hG (c := 4) (k := 12) (a := p0) rfl rfl rfl rfl (fun v1 => ?_)
  refine kk_aln hG (x := (some p0)) rfl rfl ?_
  refine kk_gp hG (c := 4) (k := 11) (a := p0) rfl rfl rfl rfl (fun v2 => ?_)
  refine kk_ob (fun b3 eb3 => ?_)
  subst eb3
  refine kk_len hG (a := b3) rfl (fun v4 => ?_)
  refine kk_ige hG (t := 51) rfl rfl ?_ ?_
  · exact kk_rv hG rfl rfl k
  refine kk_aln hG (x := (some p0)) rfl rfl ?_
  refine kk_gp hG (c := 4) (k := 11) (a := p0) rfl rfl rfl rfl (fun v5 => ?_)
  refine kk_aln hG (x := (some p0)) rfl rfl ?_
  refine kk_gi hG (c := 4) (k := 12) (a := p0) rfl rfl rfl rfl (fun v6 => ?_)
  refine kk_new hG (c := 5) (n := 4) rfl rfl rfl rfl (fun q7 sq7 cq7 dq7 => ?_)
  refine kk_dup hG (x := (some q7)) rfl ?_
  refine kk_cv hG 1 rfl rfl (Nat.le_of_ble_eq_true rfl) (by decide) rfl (st' := [va_rf (some q7), .int v6, va_rf v5]) rfl (cats_le (Nat.le_of_ble_eq_true rfl)) (fun _ hw h k => kk_rcv h.1 (kc_Pr_init base sa hw h.2 k)) (fun sr8 cr8 dr8 => ?_)
  refine kk_ob (fun b9 eb9 => ?_)
  subst eb9
  refine kk_aas hG (a := b9) (x := (some q7)) rfl (fun s10 => ?_)
  refine kk_aln hG (x := (some p0)) rfl rfl ?_
  refine kk_gp hG (c := 4) (k := 11) (a := p0) rfl rfl rfl rfl (fun v11 => ?_)
  refine kk_aln hG (x := (some p0)) rfl rfl ?_
  refine kk_gi hG (c := 4) (k := 12) (a := p0) rfl rfl rfl rfl (fun v12 => ?_)
  refine kk_ob (fun b13 eb13 => ?_)
  subst eb13
  refine kk_aa hG (a := b13) rfl (fun v14 => ?_)
  refine kk_aln hG (x := p1) rfl rfl ?_
  refine kk_ob (fun b15 eb15 => ?_)
  subst eb15
  refine kk_cv hG 0 rfl rfl (Nat.le_of_ble_eq_true rfl) (by decide) rfl (st' := []) rfl (cats_le (Nat.le_of_ble_eq_true rfl)) (fun _ hw h k => kk_rcv h.1 (kc_Pr_copy base sa hw h.2 k)) (fun sr16 cr16 dr16 => ?_)
  refine kk_aln hG (x := (some p0)) rfl rfl ?_
  refine kk_dup hG (x := (some p0)) rfl ?_
  refine kk_gi hG (c := 4) (k := 12) (a := p0) rfl rfl rfl rfl (fun v17 => ?_)
  refine kk_ic hG rfl cc_i1 ?_
  refine kks hG rfl rfl ?_
  refine kk_pi hG (c := 4) (k := 12) (a := p0) rfl rfl rfl rfl (fun s18 => ?_)
  exact kk_rv hG rfl rfl k
def C_Re_neighborLine (sa : Nat → Nat) (p0 : Nat) (s : cS) (kc ks : Nat) (Q : (Int32 → cS → Nat → Nat → Prop)) : Prop := ob (gI s 7 3 p0) (fun v1 => (if v1 = (4 : Int32) then (okO s 7 p0 ∧ C_Re_portNamed sa p0 s kc ks (fun r2 sr2 cr2 dr2 => (if r2 = none then (Q (3 : Int32) sr2 cr2 dr2) else (ob (gP sr2 7 6 p0) (fun v3 => (ob (gP sr2 7 0 p0) (fun v4 => (ob v4 (fun b5 => (ob (gP sr2 11 0 b5) (fun v6 => (ob (gP sr2 7 1 p0) (fun v7 => (ob v7 (fun b8 => (ob (rE sr2 .int b8 (3 : Int32)) (fun v9 => (ob (gP sr2 7 2 p0) (fun v10 => (ob v10 (fun b11 => (ob (rE sr2 .int b11 (3 : Int32)) (fun v12 => (ob v3 (fun b13 => (okO sr2 5 b13 ∧ C_Pr_parseAddress sa b13 v6 v9 v12 sr2 cr2 dr2 (fun r14 sr14 cr14 dr14 => (if r14 = 0 then (Q (5 : Int32) sr14 cr14 dr14) else (ob r2 (fun b15 => (ob (gI sr14 4 12 b15) (fun v16 => (if v16 < (4 : Int32) then (ob (gP sr14 7 6 p0) (fun v17 => (okO sr14 4 b15 ∧ C_Po_addNeighbor sa b15 v17 sr14 cr14 dr14 (fun sr18 cr18 dr18 => (Q (0 : Int32) sr18 cr18 dr18))))) else (Q (6 : Int32) sr14 cr14 dr14)))))))))))))))))))))))))))))))))) else (Q (2 : Int32) s kc ks)))
set_option maxRecDepth 100000 in
set_option maxHeartbeats 4000000 in
theorem kc_Re_neighborLine (base : Nat) (sa : Nat → Nat) {R : pmM} {s : cS} {kc ks : Nat} {Rt : pmR} {p0 : Nat} {Q : (Int32 → cS → Nat → Nat → Prop)} (hw : cW sa R base s) (h : C_Re_neighborLine sa p0 s kc ks Q) (k : ∀ r s' kc' ks', cW sa R base s' → Q r s' kc' ks' → Rt (some (.int r)) (cM R s') kc' ks') : kP_Re_neighborLine base sa [.ref p0] (cM R s) kc ks Rt := by
  refine ⟨Nat.le_of_ble_eq_true rfl, fun G hG => ?_⟩
  refine (show KK sa R base G 0 [(0, va_rf (some p0))] [] s kc ks (C_Re_neighborLine sa p0 s kc ks Q) from ?_) hw h
  refine kk_aln hG (x := (some p0)) rfl rfl ?_
  refine kk_gi hG (c := 7) (k := 3) (a := p0) rfl rfl rfl rfl (fun v1 => ?_)
  refine kk_ic hG rfl cc_i4 ?_
  refine kk_ieq hG (t := 10) rfl rfl ?_ ?_
  · refine kk_aln hG (x := (some p0)) rfl rfl ?_
    refine kk_cx (w := va_rf) hG 0 rfl rfl (Nat.le_of_ble_eq_true rfl) (by decide) rfl (st' := []) rfl (cats_le (Nat.le_of_ble_eq_true rfl)) (fun _ hw h k => kk_rcv h.1 (kc_Re_portNamed base sa hw h.2 k)) (fun r2 sr2 cr2 dr2 => ?_)
    refine kk_asn hG (x := r2) (L' := [(1, va_rf r2), (0, va_rf (some p0))]) rfl (Nat.le_of_ble_eq_true rfl) rfl ?_
    refine kk_aln hG (x := r2) rfl rfl ?_
    refine kk_nnl hG (x := r2) (t := 21) rfl rfl ?_ ?_
    · refine kk_aln hG (x := (some p0)) rfl rfl ?_
      refine kk_gp hG (c := 7) (k := 6) (a := p0) rfl rfl rfl rfl (fun v3 => ?_)
      refine kk_aln hG (x := (some p0)) rfl rfl ?_
      refine kk_gp hG (c := 7) (k := 0) (a := p0) rfl rfl rfl rfl (fun v4 => ?_)
      refine kk_ob (fun b5 eb5 => ?_)
      subst eb5
      refine kk_gp hG (c := 11) (k := 0) (a := b5) rfl rfl rfl rfl (fun v6 => ?_)
      refine kk_aln hG (x := (some p0)) rfl rfl ?_
      refine kk_gp hG (c := 7) (k := 1) (a := p0) rfl rfl rfl rfl (fun v7 => ?_)
      refine kk_ic hG rfl cc_i3 ?_
      refine kk_ob (fun b8 eb8 => ?_)
      subst eb8
      refine kk_ia hG (a := b8) rfl (fun v9 => ?_)
      refine kk_aln hG (x := (some p0)) rfl rfl ?_
      refine kk_gp hG (c := 7) (k := 2) (a := p0) rfl rfl rfl rfl (fun v10 => ?_)
      refine kk_ic hG rfl cc_i3 ?_
      refine kk_ob (fun b11 eb11 => ?_)
      subst eb11
      refine kk_ia hG (a := b11) rfl (fun v12 => ?_)
      refine kk_ob (fun b13 eb13 => ?_)
      subst eb13
      refine kk_cx (w := .int) hG 0 rfl rfl (Nat.le_of_ble_eq_true rfl) (by decide) rfl (st' := []) rfl (cats_le (Nat.le_of_ble_eq_true rfl)) (fun _ hw h k => kk_rcv h.1 (kc_Pr_parseAddress base sa hw h.2 k)) (fun r14 sr14 cr14 dr14 => ?_)
      refine kk_zne hG (t := 52) rfl rfl ?_ ?_
      · refine kk_aln hG (x := r2) rfl rfl ?_
        refine kk_ob (fun b15 eb15 => ?_)
        subst eb15
        refine kk_gi hG (c := 4) (k := 12) (a := b15) rfl rfl rfl rfl (fun v16 => ?_)
        refine kk_ic hG rfl cc_i4 ?_
        refine kk_ilt hG (t := 63) rfl rfl ?_ ?_
        · refine kk_aln hG (x := (some b15)) rfl rfl ?_
          refine kk_aln hG (x := (some p0)) rfl rfl ?_
          refine kk_gp hG (c := 7) (k := 6) (a := p0) rfl rfl rfl rfl (fun v17 => ?_)
          refine kk_cv hG 0 rfl rfl (Nat.le_of_ble_eq_true rfl) (by decide) rfl (st' := []) rfl (cats_le (Nat.le_of_ble_eq_true rfl)) (fun _ hw h k => kk_rcv h.1 (kc_Po_addNeighbor base sa hw h.2 k)) (fun sr18 cr18 dr18 => ?_)
          refine kk_ic hG rfl cc_i0 ?_
          exact kk_ri hG rfl rfl rfl k
        refine kk_bi hG rfl cc_b6 ?_
        exact kk_ri hG rfl rfl rfl k
      refine kk_ic hG rfl cc_i5 ?_
      exact kk_ri hG rfl rfl rfl k
    refine kk_ic hG rfl cc_i3 ?_
    exact kk_ri hG rfl rfl rfl k
  refine kk_ic hG rfl cc_i2 ?_
  exact kk_ri hG rfl rfl rfl k
