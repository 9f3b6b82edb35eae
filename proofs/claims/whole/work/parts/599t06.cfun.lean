/-! Methods as weakest preconditions, by program: Po_setAddress .. Rr_lapse -/
def C_Po_setAddress (sa : Nat → Nat) (p0 : Nat) (p1 : Option Nat) (s : cS) (kc ks : Nat) (Q : (cS → Nat → Nat → Prop)) : Prop := nwO sa s kc ks 5 4 (fun q1 sq1 cq1 dq1 => (okO sq1 5 q1 ∧ C_Pr_init sa q1 sq1 cq1 dq1 (fun sr2 cr2 dr2 => (okO sr2 5 q1 ∧ C_Pr_copy sa q1 p1 sr2 cr2 dr2 (fun sr3 cr3 dr3 => (ob (gI sr3 5 0 q1) (fun v4 => (if v4 = (4 : Int32) then (ob (pP sr3 4 1 p0 (some q1)) (fun s6 => (Q s6 cr3 dr3))) else (ob (pP sr3 4 2 p0 (some q1)) (fun s5 => (Q s5 cr3 dr3)))))))))))
set_option maxRecDepth 100000 in
set_option maxHeartbeats 4000000 in
theorem kc_Po_setAddress (base : Nat) (sa : Nat → Nat) {R : pmM} {s : cS} {kc ks : Nat} {Rt : pmR} {p0 : Nat} {p1 : Option Nat} {Q : (cS → Nat → Nat → Prop)} (hw : cW sa R base s) (h : C_Po_setAddress sa p0 p1 s kc ks Q) (k : ∀ s' kc' ks', cW sa R base s' → Q s' kc' ks' → Rt none (cM R s') kc' ks') : kP_Po_setAddress base sa [.ref p0, va_rf p1] (cM R s) kc ks Rt := by
  refine ⟨by cases p1 <;> exact Nat.le_of_ble_eq_true rfl, fun G hG => ?_⟩
  have eL : lv_args 0 [.ref p0, va_rf p1] = [(0, va_rf (some p0)), (1, va_rf p1)] := by cases p1 <;> rfl
  rw [eL]
  refine (show KK sa R base G 0 [(0, va_rf (some p0)), (1, va_rf p1)] [] s kc ks (C_Po_setAddress sa p0 p1 s kc ks Q) from ?_) hw h
  refine kk_new hG (c := 5) (n := 4) rfl rfl rfl rfl (fun q1 sq1 cq1 dq1 => ?_)
  refine kk_dup hG (x := (some q1)) rfl ?_
  refine kk_cv hG 1 rfl rfl (Nat.le_of_ble_eq_true rfl) (by decide) rfl (st' := [va_rf (some q1)]) rfl (cats_le (Nat.le_of_ble_eq_true rfl)) (fun _ hw h k => kk_rcv h.1 (kc_Pr_init base sa hw h.2 k)) (fun sr2 cr2 dr2 => ?_)
  refine kk_asn hG (x := (some q1)) (L' := [(2, va_rf (some q1)), (0, va_rf (some p0)), (1, va_rf p1)]) rfl (Nat.le_of_ble_eq_true rfl) (by cases p1 <;> rfl) ?_
  refine kk_aln hG (x := (some q1)) rfl rfl ?_
  refine kk_aln hG (x := p1) rfl rfl ?_
  refine kk_cv hG 0 rfl rfl (Nat.le_of_ble_eq_true rfl) (by decide) rfl (st' := []) rfl (cats_le (Nat.le_of_ble_eq_true rfl)) (fun _ hw h k => kk_rcv h.1 (kc_Pr_copy base sa hw h.2 k)) (fun sr3 cr3 dr3 => ?_)
  refine kk_aln hG (x := (some q1)) rfl rfl ?_
  refine kk_gi hG (c := 5) (k := 0) (a := q1) rfl rfl rfl rfl (fun v4 => ?_)
  refine kk_ic hG rfl cc_i4 ?_
  refine kk_ine hG (t := 29) rfl rfl ?_ ?_
  · refine kk_aln hG (x := (some p0)) rfl rfl ?_
    refine kk_aln hG (x := (some q1)) rfl rfl ?_
    refine kk_pp hG (c := 4) (k := 2) (a := p0) (v := (some q1)) rfl rfl rfl rfl rfl (fun s5 => ?_)
    exact kk_rv hG rfl rfl k
  refine kk_aln hG (x := (some p0)) rfl rfl ?_
  refine kk_aln hG (x := (some q1)) rfl rfl ?_
  refine kk_pp hG (c := 4) (k := 1) (a := p0) (v := (some q1)) rfl rfl rfl rfl rfl (fun s6 => ?_)
  refine kk_go hG (t := 34) rfl rfl ?_
  exact kk_rv hG rfl rfl k
def C_Re_setJoined_b48 (sa : Nat → Nat) (p0 : Nat) (p1 : Option Nat) (s : cS) (kc ks : Nat) (Q : (cS → Nat → Nat → Prop)) : Prop := ob (gI s 7 9 p0) (fun v1 => (if v1 = ((-1) : Int32) then (Q s kc ks) else (ob (gI s 7 9 p0) (fun v2 => (ob p1 (fun b3 => (ob (pI s 4 4 b3 v2) (fun s4 => (Q s4 kc ks)))))))))
def C_Re_setJoined (sa : Nat → Nat) (p0 : Nat) (p1 : Option Nat) (s : cS) (kc ks : Nat) (Q : (cS → Nat → Nat → Prop)) : Prop := ob (gP s 7 6 p0) (fun v1 => (ob p1 (fun b2 => (okO s 4 b2 ∧ C_Po_setAddress sa b2 v1 s kc ks (fun sr3 cr3 dr3 => (ob (gP sr3 4 6 b2) (fun v4 => (ob (gP sr3 7 11 p0) (fun v5 => (ob v4 (fun b6 => (okO sr3 1 b6 ∧ C_Ch_copy sa b6 v5 sr3 cr3 dr3 (fun sr7 cr7 dr7 => (ob (gI sr7 4 5 b2) (fun v8 => (ob (gI sr7 7 10 p0) (fun v9 => (ob (pZ sr7 4 5 b2 (v8 ||| v9)) (fun s10 => (ob (gI s10 7 8 p0) (fun v11 => (if v11 = ((-1) : Int32) then ((C_Re_setJoined_b48 sa p0 (some b2) s10 cr7 dr7 Q)) else (ob (gI s10 7 8 p0) (fun v12 => (ob (pI s10 4 3 b2 v12) (fun s13 => ((C_Re_setJoined_b48 sa p0 (some b2) s13 cr7 dr7 Q))))))))))))))))))))))))))))
set_option maxRecDepth 100000 in
set_option maxHeartbeats 4000000 in
theorem kc_Re_setJoined (base : Nat) (sa : Nat → Nat) {R : pmM} {s : cS} {kc ks : Nat} {Rt : pmR} {p0 : Nat} {p1 : Option Nat} {Q : (cS → Nat → Nat → Prop)} (hw : cW sa R base s) (h : C_Re_setJoined sa p0 p1 s kc ks Q) (k : ∀ s' kc' ks', cW sa R base s' → Q s' kc' ks' → Rt none (cM R s') kc' ks') : kP_Re_setJoined base sa [.ref p0, va_rf p1] (cM R s) kc ks Rt := by
  refine ⟨by cases p1 <;> exact Nat.le_of_ble_eq_true rfl, fun G hG => ?_⟩
  have eL : lv_args 0 [.ref p0, va_rf p1] = [(0, va_rf (some p0)), (1, va_rf p1)] := by cases p1 <;> rfl
  rw [eL]
  have b48 : ∀ (s : cS) (kc ks : Nat), KK sa R base G 48 [(0, va_rf (some p0)), (1, va_rf p1)] [] s kc ks (C_Re_setJoined_b48 sa p0 p1 s kc ks Q) := by
    intro s kc ks
    refine kk_aln hG (x := (some p0)) rfl rfl ?_
    refine kk_gi hG (c := 7) (k := 9) (a := p0) rfl rfl rfl rfl (fun v1 => ?_)
    refine kk_ic hG rfl cc_im1 ?_
    refine kk_ieq hG (t := 64) rfl rfl ?_ ?_
    · exact kk_rv hG rfl rfl k
    refine kk_aln hG (x := p1) rfl rfl ?_
    refine kk_aln hG (x := (some p0)) rfl rfl ?_
    refine kk_gi hG (c := 7) (k := 9) (a := p0) rfl rfl rfl rfl (fun v2 => ?_)
    refine kk_ob (fun b3 eb3 => ?_)
    subst eb3
    refine kk_pi hG (c := 4) (k := 4) (a := b3) rfl rfl rfl rfl (fun s4 => ?_)
    exact kk_rv hG rfl rfl k
  refine (show KK sa R base G 0 [(0, va_rf (some p0)), (1, va_rf p1)] [] s kc ks (C_Re_setJoined sa p0 p1 s kc ks Q) from ?_) hw h
  refine kk_aln hG (x := p1) rfl rfl ?_
  refine kk_aln hG (x := (some p0)) rfl rfl ?_
  refine kk_gp hG (c := 7) (k := 6) (a := p0) rfl rfl rfl rfl (fun v1 => ?_)
  refine kk_ob (fun b2 eb2 => ?_)
  subst eb2
  refine kk_cv hG 0 rfl rfl (Nat.le_of_ble_eq_true rfl) (by decide) rfl (st' := []) rfl (cats_le (Nat.le_of_ble_eq_true rfl)) (fun _ hw h k => kk_rcv h.1 (kc_Po_setAddress base sa hw h.2 k)) (fun sr3 cr3 dr3 => ?_)
  refine kk_aln hG (x := (some b2)) rfl rfl ?_
  refine kk_gp hG (c := 4) (k := 6) (a := b2) rfl rfl rfl rfl (fun v4 => ?_)
  refine kk_aln hG (x := (some p0)) rfl rfl ?_
  refine kk_gp hG (c := 7) (k := 11) (a := p0) rfl rfl rfl rfl (fun v5 => ?_)
  refine kk_ob (fun b6 eb6 => ?_)
  subst eb6
  refine kk_cv hG 0 rfl rfl (Nat.le_of_ble_eq_true rfl) (by decide) rfl (st' := []) rfl (cats_le (Nat.le_of_ble_eq_true rfl)) (fun _ hw h k => kk_rcv h.1 (kc_Ch_copy base sa hw h.2 k)) (fun sr7 cr7 dr7 => ?_)
  refine kk_aln hG (x := (some b2)) rfl rfl ?_
  refine kk_dup hG (x := (some b2)) rfl ?_
  refine kk_gi hG (c := 4) (k := 5) (a := b2) rfl rfl rfl rfl (fun v8 => ?_)
  refine kk_aln hG (x := (some p0)) rfl rfl ?_
  refine kk_gi hG (c := 7) (k := 10) (a := p0) rfl rfl rfl rfl (fun v9 => ?_)
  refine kks hG rfl rfl ?_
  refine kk_pz hG (c := 4) (k := 5) (a := b2) rfl rfl rfl rfl (fun s10 => ?_)
  refine kk_aln hG (x := (some p0)) rfl rfl ?_
  refine kk_gi hG (c := 7) (k := 8) (a := p0) rfl rfl rfl rfl (fun v11 => ?_)
  refine kk_ic hG rfl cc_im1 ?_
  refine kk_ieq hG (t := 48) rfl rfl ?_ ?_
  · exact kk_wl hG [0, 1] rfl (b48 _ _ _)
  refine kk_aln hG (x := (some b2)) rfl rfl ?_
  refine kk_aln hG (x := (some p0)) rfl rfl ?_
  refine kk_gi hG (c := 7) (k := 8) (a := p0) rfl rfl rfl rfl (fun v12 => ?_)
  refine kk_pi hG (c := 4) (k := 3) (a := b2) rfl rfl rfl rfl (fun s13 => ?_)
  exact kk_wl hG [0, 1] rfl (b48 _ _ _)
def C_Pr_dropBitsBehind (sa : Nat → Nat) (p0 : Nat) (s : cS) (kc ks : Nat) (Q : (cS → Nat → Nat → Prop)) : Prop := ob (gJ s 5 1 p0) (fun v1 => (ob (gI s 5 3 p0) (fun v2 => (C_Pr_maskHigh sa v2 s kc ks (fun r3 sr3 cr3 dr3 => (ob (pJ sr3 5 1 p0 (v1 &&& r3)) (fun s4 => (ob (gJ s4 5 2 p0) (fun v5 => (ob (gI s4 5 3 p0) (fun v6 => (C_Pr_maskLow sa v6 s4 cr3 dr3 (fun r7 sr7 cr7 dr7 => (ob (pJ sr7 5 2 p0 (v5 &&& r7)) (fun s8 => (Q s8 cr7 dr7))))))))))))))))
set_option maxRecDepth 100000 in
set_option maxHeartbeats 4000000 in
theorem kc_Pr_dropBitsBehind (base : Nat) (sa : Nat → Nat) {R : pmM} {s : cS} {kc ks : Nat} {Rt : pmR} {p0 : Nat} {Q : (cS → Nat → Nat → Prop)} (hw : cW sa R base s) (h : C_Pr_dropBitsBehind sa p0 s kc ks Q) (k : ∀ s' kc' ks', cW sa R base s' → Q s' kc' ks' → Rt none (cM R s') kc' ks') : kP_Pr_dropBitsBehind base sa [.ref p0] (cM R s) kc ks Rt := by
  refine ⟨Nat.le_of_ble_eq_true rfl, fun G hG => ?_⟩
  refine (show KK sa R base G 0 [(0, va_rf (some p0))] [] s kc ks (C_Pr_dropBitsBehind sa p0 s kc ks Q) from ?_) hw h
  refine kk_aln hG (x := (some p0)) rfl rfl ?_
  refine kk_dup hG (x := (some p0)) rfl ?_
  refine kk_gj hG (c := 5) (k := 1) (a := p0) rfl rfl rfl rfl (fun v1 => ?_)
  refine kk_aln hG (x := (some p0)) rfl rfl ?_
  refine kk_gi hG (c := 5) (k := 3) (a := p0) rfl rfl rfl rfl (fun v2 => ?_)
  refine kk_cx (w := .long) hG 2 rfl rfl (Nat.le_of_ble_eq_true rfl) (by decide) rfl (st' := [.long v1, va_rf (some p0)]) rfl (cats_le (Nat.le_of_ble_eq_true rfl)) (fun _ hw h k => kc_Pr_maskHigh base sa hw h k) (fun r3 sr3 cr3 dr3 => ?_)
  refine kks hG rfl rfl ?_
  refine kk_pj hG (c := 5) (k := 1) (a := p0) rfl rfl rfl rfl (fun s4 => ?_)
  refine kk_aln hG (x := (some p0)) rfl rfl ?_
  refine kk_dup hG (x := (some p0)) rfl ?_
  refine kk_gj hG (c := 5) (k := 2) (a := p0) rfl rfl rfl rfl (fun v5 => ?_)
  refine kk_aln hG (x := (some p0)) rfl rfl ?_
  refine kk_gi hG (c := 5) (k := 3) (a := p0) rfl rfl rfl rfl (fun v6 => ?_)
  refine kk_cx (w := .long) hG 2 rfl rfl (Nat.le_of_ble_eq_true rfl) (by decide) rfl (st' := [.long v5, va_rf (some p0)]) rfl (cats_le (Nat.le_of_ble_eq_true rfl)) (fun _ hw h k => kc_Pr_maskLow base sa hw h k) (fun r7 sr7 cr7 dr7 => ?_)
  refine kks hG rfl rfl ?_
  refine kk_pj hG (c := 5) (k := 2) (a := p0) rfl rfl rfl rfl (fun s8 => ?_)
  exact kk_rv hG rfl rfl k
def C_Pr_covers (sa : Nat → Nat) (p0 : Nat) (p1 : Option Nat) (s : cS) (kc ks : Nat) (Q : (Int32 → cS → Nat → Nat → Prop)) : Prop := ob (gI s 5 0 p0) (fun v1 => (ob p1 (fun b2 => (ob (gI s 5 0 b2) (fun v3 => (if v1 = v3 then (ob (gI s 5 3 p0) (fun v4 => (ob (gI s 5 3 b2) (fun v5 => (if v5 < v4 then (Q (0 : Int32) s kc ks) else (ob (gJ s 5 1 p0) (fun v6 => (ob (gJ s 5 1 b2) (fun v7 => (ob (gJ s 5 2 p0) (fun v8 => (ob (gJ s 5 2 b2) (fun v9 => (ob (gI s 5 3 p0) (fun v10 => (if (64 : Int32) < v10 then (if (v6 ^^^ v7) = (0 : Int64) then (ob (gI s 5 3 p0) (fun v11 => (if (ush_L (v8 ^^^ v9) ((128 : Int32) - v11)) = (0 : Int64) then (Q (1 : Int32) s kc ks) else (Q (0 : Int32) s kc ks)))) else (Q (0 : Int32) s kc ks)) else (ob (gI s 5 3 p0) (fun v12 => (if 0 < v12 then (ob (gI s 5 3 p0) (fun v13 => (if (ush_L (v6 ^^^ v7) ((64 : Int32) - v13)) = (0 : Int64) then (Q (1 : Int32) s kc ks) else (Q (0 : Int32) s kc ks)))) else (Q (1 : Int32) s kc ks)))))))))))))))))))) else (Q (0 : Int32) s kc ks)))))))
set_option maxRecDepth 100000 in
set_option maxHeartbeats 4000000 in
theorem kc_Pr_covers (base : Nat) (sa : Nat → Nat) {R : pmM} {s : cS} {kc ks : Nat} {Rt : pmR} {p0 : Nat} {p1 : Option Nat} {Q : (Int32 → cS → Nat → Nat → Prop)} (hw : cW sa R base s) (h : C_Pr_covers sa p0 p1 s kc ks Q) (k : ∀ r s' kc' ks', cW sa R base s' → Q r s' kc' ks' → Rt (some (.int r)) (cM R s') kc' ks') : kP_Pr_covers base sa [.ref p0, va_rf p1] (cM R s) kc ks Rt := by
  refine ⟨by cases p1 <;> exact Nat.le_of_ble_eq_true rfl, fun G hG => ?_⟩
  have eL : lv_args 0 [.ref p0, va_rf p1] = [(0, va_rf (some p0)), (1, va_rf p1)] := by cases p1 <;> rfl
  rw [eL]
  refine (show KK sa R base G 0 [(0, va_rf (some p0)), (1, va_rf p1)] [] s kc ks (C_Pr_covers sa p0 p1 s kc ks Q) from ?_) hw h
  refine kk_aln hG (x := (some p0)) rfl rfl ?_
  refine kk_gi hG (c := 5) (k := 0) (a := p0) rfl rfl rfl rfl (fun v1 => ?_)
  refine kk_aln hG (x := p1) rfl rfl ?_
  refine kk_ob (fun b2 eb2 => ?_)
  subst eb2
  refine kk_gi hG (c := 5) (k := 0) (a := b2) rfl rfl rfl rfl (fun v3 => ?_)
  refine kk_ine hG (t := 22) rfl rfl ?_ ?_
  · refine kk_ic hG rfl cc_i0 ?_
    exact kk_ri hG rfl rfl rfl k
  refine kk_aln hG (x := (some p0)) rfl rfl ?_
  refine kk_gi hG (c := 5) (k := 3) (a := p0) rfl rfl rfl rfl (fun v4 => ?_)
  refine kk_aln hG (x := (some b2)) rfl rfl ?_
  refine kk_gi hG (c := 5) (k := 3) (a := b2) rfl rfl rfl rfl (fun v5 => ?_)
  refine kk_ile hG (t := 24) rfl rfl ?_ ?_
  · refine kk_aln hG (x := (some p0)) rfl rfl ?_
    refine kk_gj hG (c := 5) (k := 1) (a := p0) rfl rfl rfl rfl (fun v6 => ?_)
    refine kk_aln hG (x := (some b2)) rfl rfl ?_
    refine kk_gj hG (c := 5) (k := 1) (a := b2) rfl rfl rfl rfl (fun v7 => ?_)
    refine kks hG rfl rfl ?_
    refine kk_st hG (L' := [(2, .long (v6 ^^^ v7)), (0, va_rf (some p0)), (1, va_rf (some b2))]) rfl rfl (Nat.le_of_ble_eq_true rfl) rfl ?_
    refine kk_aln hG (x := (some p0)) rfl rfl ?_
    refine kk_gj hG (c := 5) (k := 2) (a := p0) rfl rfl rfl rfl (fun v8 => ?_)
    refine kk_aln hG (x := (some b2)) rfl rfl ?_
    refine kk_gj hG (c := 5) (k := 2) (a := b2) rfl rfl rfl rfl (fun v9 => ?_)
    refine kks hG rfl rfl ?_
    refine kk_st hG (L' := [(4, .long (v8 ^^^ v9)), (2, .long (v6 ^^^ v7)), (0, va_rf (some p0)), (1, va_rf (some b2))]) rfl rfl (Nat.le_of_ble_eq_true rfl) rfl ?_
    refine kk_aln hG (x := (some p0)) rfl rfl ?_
    refine kk_gi hG (c := 5) (k := 3) (a := p0) rfl rfl rfl rfl (fun v10 => ?_)
    refine kk_bi hG rfl cc_b64 ?_
    refine kk_igt hG (t := 81) rfl rfl ?_ ?_
    · refine kks hG rfl rfl ?_
      refine kk_lc hG (c := 0) (v := 0) rfl rfl ?_
      refine kks hG rfl rfl ?_
      refine kk_lne hG (t := 107) rfl rfl ?_ ?_
      · refine kk_ic hG rfl cc_i0 ?_
        exact kk_ri hG rfl rfl rfl k
      refine kks hG rfl rfl ?_
      refine kk_si hG rfl cc_s128 ?_
      refine kk_aln hG (x := (some p0)) rfl rfl ?_
      refine kk_gi hG (c := 5) (k := 3) (a := p0) rfl rfl rfl rfl (fun v11 => ?_)
      refine kks hG rfl rfl ?_
      refine kks hG rfl rfl ?_
      refine kk_lc hG (c := 0) (v := 0) rfl rfl ?_
      refine kks hG rfl rfl ?_
      refine kk_lne hG (t := 107) rfl rfl ?_ ?_
      · refine kk_ic hG rfl cc_i0 ?_
        exact kk_ri hG rfl rfl rfl k
      refine kk_ic hG rfl cc_i1 ?_
      refine kk_go hG (t := 108) rfl rfl ?_
      exact kk_ri hG rfl rfl rfl k
    refine kk_aln hG (x := (some p0)) rfl rfl ?_
    refine kk_gi hG (c := 5) (k := 3) (a := p0) rfl rfl rfl rfl (fun v12 => ?_)
    refine kk_zle hG (t := 75) rfl rfl ?_ ?_
    · refine kk_ic hG rfl cc_i1 ?_
      refine kk_go hG (t := 80) rfl rfl ?_
      exact kk_ri hG rfl rfl rfl k
    refine kks hG rfl rfl ?_
    refine kk_bi hG rfl cc_b64 ?_
    refine kk_aln hG (x := (some p0)) rfl rfl ?_
    refine kk_gi hG (c := 5) (k := 3) (a := p0) rfl rfl rfl rfl (fun v13 => ?_)
    refine kks hG rfl rfl ?_
    refine kks hG rfl rfl ?_
    refine kk_lc hG (c := 0) (v := 0) rfl rfl ?_
    refine kks hG rfl rfl ?_
    refine kk_lne hG (t := 79) rfl rfl ?_ ?_
    · refine kk_ic hG rfl cc_i0 ?_
      exact kk_ri hG rfl rfl rfl k
    refine kk_ic hG rfl cc_i1 ?_
    refine kk_go hG (t := 80) rfl rfl ?_
    exact kk_ri hG rfl rfl rfl k
  refine kk_ic hG rfl cc_i0 ?_
  exact kk_ri hG rfl rfl rfl k
def C_Pr_sameNetwork (sa : Nat → Nat) (p0 : Nat) (p1 : Option Nat) (s : cS) (kc ks : Nat) (Q : (Int32 → cS → Nat → Nat → Prop)) : Prop := ob (gI s 5 3 p0) (fun v1 => (ob p1 (fun b2 => (ob (gI s 5 3 b2) (fun v3 => (if v1 = v3 then (okO s 5 p0 ∧ C_Pr_covers sa p0 (some b2) s kc ks (fun r4 sr4 cr4 dr4 => (if r4 = 0 then (Q (0 : Int32) sr4 cr4 dr4) else (Q (1 : Int32) sr4 cr4 dr4)))) else (Q (0 : Int32) s kc ks)))))))
set_option maxRecDepth 100000 in
set_option maxHeartbeats 4000000 in
theorem kc_Pr_sameNetwork (base : Nat) (sa : Nat → Nat) {R : pmM} {s : cS} {kc ks : Nat} {Rt : pmR} {p0 : Nat} {p1 : Option Nat} {Q : (Int32 → cS → Nat → Nat → Prop)} (hw : cW sa R base s) (h : C_Pr_sameNetwork sa p0 p1 s kc ks Q) (k : ∀ r s' kc' ks', cW sa R base s' → Q r s' kc' ks' → Rt (some (.int r)) (cM R s') kc' ks') : kP_Pr_sameNetwork base sa [.ref p0, va_rf p1] (cM R s) kc ks Rt := by
  refine ⟨by cases p1 <;> exact Nat.le_of_ble_eq_true rfl, fun G hG => ?_⟩
  have eL : lv_args 0 [.ref p0, va_rf p1] = [(0, va_rf (some p0)), (1, va_rf p1)] := by cases p1 <;> rfl
  rw [eL]
  refine (show KK sa R base G 0 [(0, va_rf (some p0)), (1, va_rf p1)] [] s kc ks (C_Pr_sameNetwork sa p0 p1 s kc ks Q) from ?_) hw h
  refine kk_aln hG (x := (some p0)) rfl rfl ?_
  refine kk_gi hG (c := 5) (k := 3) (a := p0) rfl rfl rfl rfl (fun v1 => ?_)
  refine kk_aln hG (x := p1) rfl rfl ?_
  refine kk_ob (fun b2 eb2 => ?_)
  subst eb2
  refine kk_gi hG (c := 5) (k := 3) (a := b2) rfl rfl rfl rfl (fun v3 => ?_)
  refine kk_ine hG (t := 23) rfl rfl ?_ ?_
  · refine kk_ic hG rfl cc_i0 ?_
    exact kk_ri hG rfl rfl rfl k
  refine kk_aln hG (x := (some p0)) rfl rfl ?_
  refine kk_aln hG (x := (some b2)) rfl rfl ?_
  refine kk_cx (w := .int) hG 0 rfl rfl (Nat.le_of_ble_eq_true rfl) (by decide) rfl (st' := []) rfl (cats_le (Nat.le_of_ble_eq_true rfl)) (fun _ hw h k => kk_rcv h.1 (kc_Pr_covers base sa hw h.2 k)) (fun r4 sr4 cr4 dr4 => ?_)
  refine kk_zeq hG (t := 23) rfl rfl ?_ ?_
  · refine kk_ic hG rfl cc_i0 ?_
    exact kk_ri hG rfl rfl rfl k
  refine kk_ic hG rfl cc_i1 ?_
  refine kk_go hG (t := 24) rfl rfl ?_
  exact kk_ri hG rfl rfl rfl k
def C_Rr_portOf_b58 (sa : Nat → Nat) (p0 : Nat) (p1 : Option Nat) (a2 : Int32) (s : cS) (kc ks : Nat) (Q : (Option Nat → cS → Nat → Nat → Prop)) (P2 : (Int32 → cS → Nat → Nat → Prop)) : Prop := (P2 (a2 + (1 : Int32)) s kc ks)
def C_Rr_portOf_s2 (sa : Nat → Nat) (p0 : Nat) (p1 : Option Nat) (a2 : Int32) (s : cS) (kc ks : Nat) (Q : (Option Nat → cS → Nat → Nat → Prop)) (P2 : (Int32 → cS → Nat → Nat → Prop)) : Prop := ob (gI s 9 5 p0) (fun v1 => (if a2 < v1 then (ob (gP s 9 4 p0) (fun v2 => (ob v2 (fun b3 => (ob (rQ s b3 a2) (fun v4 => (ob p1 (fun b5 => (ob (gI s 5 0 b5) (fun v6 => (ob v4 (fun b7 => (okO s 4 b7 ∧ C_Po_addressOf sa b7 v6 s kc ks (fun r8 sr8 cr8 dr8 => (if r8 = none then ((C_Rr_portOf_b58 sa p0 (some b5) a2 sr8 cr8 dr8 Q P2)) else (ob (gP sr8 9 4 p0) (fun v9 => (ob v9 (fun b10 => (ob (rQ sr8 b10 a2) (fun v11 => (ob v11 (fun b12 => (ob (gP sr8 4 0 b12) (fun v13 => (ob v13 (fun b14 => (ob (gI sr8 3 4 b14) (fun v15 => (if v15 = 0 then ((C_Rr_portOf_b58 sa p0 (some b5) a2 sr8 cr8 dr8 Q P2)) else (ob r8 (fun b16 => (okO sr8 5 b16 ∧ C_Pr_sameNetwork sa b16 (some b5) sr8 cr8 dr8 (fun r17 sr17 cr17 dr17 => (if r17 = 0 then ((C_Rr_portOf_b58 sa p0 (some b5) a2 sr17 cr17 dr17 Q P2)) else ((ob (gP sr17 9 4 p0) (fun v18 => (ob v18 (fun b19 => (ob (rQ sr17 b19 a2) (fun v20 => (Q v20 sr17 cr17 dr17))))))))))))))))))))))))))))))))))))))))))) else ((Q none s kc ks))))
def C_Rr_portOf_b2 (sa : Nat → Nat) (p0 : Nat) (p1 : Option Nat) (a2 : Int32) (s : cS) (kc ks : Nat) (Q : (Option Nat → cS → Nat → Nat → Prop)) : Prop := ∀ P2 : (Int32 → cS → Nat → Nat → Prop), (∀ (a2 : Int32) (s : cS) (kc ks : Nat), C_Rr_portOf_s2 sa p0 p1 a2 s kc ks Q P2 → P2 a2 s kc ks) → P2 a2 s kc ks
def C_Rr_portOf (sa : Nat → Nat) (p0 : Nat) (p1 : Option Nat) (s : cS) (kc ks : Nat) (Q : (Option Nat → cS → Nat → Nat → Prop)) : Prop := (C_Rr_portOf_b2 sa p0 p1 (0 : Int32) s kc ks Q)
set_option maxRecDepth 100000 in
set_option maxHeartbeats 4000000 in
theorem kc_Rr_portOf (base : Nat) (sa : Nat → Nat) {R : pmM} {s : cS} {kc ks : Nat} {Rt : pmR} {p0 : Nat} {p1 : Option Nat} {Q : (Option Nat → cS → Nat → Nat → Prop)} (hw : cW sa R base s) (h : C_Rr_portOf sa p0 p1 s kc ks Q) (k : ∀ r s' kc' ks', cW sa R base s' → Q r s' kc' ks' → Rt (some (va_rf r)) (cM R s') kc' ks') : kP_Rr_portOf base sa [.ref p0, va_rf p1] (cM R s) kc ks Rt := by
  refine ⟨by cases p1 <;> exact Nat.le_of_ble_eq_true rfl, fun G hG => ?_⟩
  have eL : lv_args 0 [.ref p0, va_rf p1] = [(0, va_rf (some p0)), (1, va_rf p1)] := by cases p1 <;> rfl
  rw [eL]
  have b2 : ∀ (a2 : Int32) (s : cS) (kc ks : Nat), KK sa R base G 2 [(0, va_rf (some p0)), (1, va_rf p1), (2, .int a2)] [] s kc ks (C_Rr_portOf_b2 sa p0 p1 a2 s kc ks Q) := by
    have H : ∀ (P2 : (Int32 → cS → Nat → Nat → Prop)) (hP2 : ∀ (a2 : Int32) (s : cS) (kc ks : Nat), P2 a2 s kc ks → cW sa R base s → G 2 [(0, va_rf (some p0)), (1, va_rf p1), (2, .int a2)] [] (cM R s) kc ks) (a2 : Int32) (s : cS) (kc ks : Nat), KK sa R base G 2 [(0, va_rf (some p0)), (1, va_rf p1), (2, .int a2)] [] s kc ks (C_Rr_portOf_s2 sa p0 p1 a2 s kc ks Q P2) := by
      intro P2 hP2
      have b58 : ∀ (a2 : Int32) (s : cS) (kc ks : Nat), KK sa R base G 58 [(0, va_rf (some p0)), (1, va_rf p1), (2, .int a2)] [] s kc ks (C_Rr_portOf_b58 sa p0 p1 a2 s kc ks Q P2) := by
        intro a2 s kc ks
        refine kk_inc hG (L' := [(2, .int (a2 + (1 : Int32))), (0, va_rf (some p0)), (1, va_rf p1)]) rfl (Nat.le_of_ble_eq_true rfl) rfl cc_i1 (by cases p1 <;> rfl) ?_
        refine kk_go hG (t := 2) rfl rfl ?_
        exact kk_wl hG [1, 2, 0] rfl (fun hw h => hP2 _ _ _ _ h hw)
      intro a2 s kc ks
      refine kks hG rfl rfl ?_
      refine kk_aln hG (x := (some p0)) rfl rfl ?_
      refine kk_gi hG (c := 9) (k := 5) (a := p0) rfl rfl rfl rfl (fun v1 => ?_)
      refine kk_ige hG (t := 64) rfl rfl ?_ ?_
      · refine kks hG rfl rfl ?_
        exact kk_ra hG (x := none) rfl rfl rfl k
      refine kk_aln hG (x := (some p0)) rfl rfl ?_
      refine kk_gp hG (c := 9) (k := 4) (a := p0) rfl rfl rfl rfl (fun v2 => ?_)
      refine kks hG rfl rfl ?_
      refine kk_ob (fun b3 eb3 => ?_)
      subst eb3
      refine kk_aa hG (a := b3) rfl (fun v4 => ?_)
      refine kk_aln hG (x := p1) rfl rfl ?_
      refine kk_ob (fun b5 eb5 => ?_)
      subst eb5
      refine kk_gi hG (c := 5) (k := 0) (a := b5) rfl rfl rfl rfl (fun v6 => ?_)
      refine kk_ob (fun b7 eb7 => ?_)
      subst eb7
      refine kk_cx (w := va_rf) hG 0 rfl rfl (Nat.le_of_ble_eq_true rfl) (by decide) rfl (st' := []) rfl (cats_le (Nat.le_of_ble_eq_true rfl)) (fun _ hw h k => kk_rcv h.1 (kc_Po_addressOf base sa hw h.2 k)) (fun r8 sr8 cr8 dr8 => ?_)
      refine kk_asn hG (x := r8) (L' := [(3, va_rf r8), (0, va_rf (some p0)), (1, va_rf (some b5)), (2, .int a2)]) rfl (Nat.le_of_ble_eq_true rfl) rfl ?_
      refine kk_aln hG (x := r8) rfl rfl ?_
      refine kk_nul hG (x := r8) (t := 58) rfl rfl ?_ ?_
      · exact kk_wl hG [1, 2, 3] rfl (b58 _ _ _ _)
      refine kk_aln hG (x := (some p0)) rfl rfl ?_
      refine kk_gp hG (c := 9) (k := 4) (a := p0) rfl rfl rfl rfl (fun v9 => ?_)
      refine kks hG rfl rfl ?_
      refine kk_ob (fun b10 eb10 => ?_)
      subst eb10
      refine kk_aa hG (a := b10) rfl (fun v11 => ?_)
      refine kk_ob (fun b12 eb12 => ?_)
      subst eb12
      refine kk_gp hG (c := 4) (k := 0) (a := b12) rfl rfl rfl rfl (fun v13 => ?_)
      refine kk_ob (fun b14 eb14 => ?_)
      subst eb14
      refine kk_gi hG (c := 3) (k := 4) (a := b14) rfl rfl rfl rfl (fun v15 => ?_)
      refine kk_zeq hG (t := 58) rfl rfl ?_ ?_
      · exact kk_wl hG [1, 2, 3] rfl (b58 _ _ _ _)
      refine kk_aln hG (x := r8) rfl rfl ?_
      refine kk_aln hG (x := (some b5)) rfl rfl ?_
      refine kk_ob (fun b16 eb16 => ?_)
      subst eb16
      refine kk_cx (w := .int) hG 0 rfl rfl (Nat.le_of_ble_eq_true rfl) (by decide) rfl (st' := []) rfl (cats_le (Nat.le_of_ble_eq_true rfl)) (fun _ hw h k => kk_rcv h.1 (kc_Pr_sameNetwork base sa hw h.2 k)) (fun r17 sr17 cr17 dr17 => ?_)
      refine kk_zeq hG (t := 58) rfl rfl ?_ ?_
      · exact kk_wl hG [1, 2, 3] rfl (b58 _ _ _ _)
      refine kk_aln hG (x := (some p0)) rfl rfl ?_
      refine kk_gp hG (c := 9) (k := 4) (a := p0) rfl rfl rfl rfl (fun v18 => ?_)
      refine kks hG rfl rfl ?_
      refine kk_ob (fun b19 eb19 => ?_)
      subst eb19
      refine kk_aa hG (a := b19) rfl (fun v20 => ?_)
      exact kk_ra hG (x := v20) rfl rfl rfl k
    exact fun a2 s kc ks hw h => h (fun a2 s kc ks => cW sa R base s → G 2 [(0, va_rf (some p0)), (1, va_rf p1), (2, .int a2)] [] (cM R s) kc ks) (fun a2 s kc ks hs hw => H _ (fun _ _ _ _ hp hw => hp hw) a2 s kc ks hw hs) hw
  refine (show KK sa R base G 0 [(0, va_rf (some p0)), (1, va_rf p1)] [] s kc ks (C_Rr_portOf sa p0 p1 s kc ks Q) from ?_) hw h
  refine kk_ic hG rfl cc_i0 ?_
  refine kk_st hG (L' := [(2, .int (0 : Int32)), (0, va_rf (some p0)), (1, va_rf p1)]) rfl rfl (Nat.le_of_ble_eq_true rfl) (by cases p1 <;> rfl) ?_
  exact kk_wl hG [1, 2, 0] rfl (b2 _ _ _ _)
def C_Pr_order (sa : Nat → Nat) (p0 : Nat) (p1 : Option Nat) (s : cS) (kc ks : Nat) (Q : (Int32 → cS → Nat → Nat → Prop)) : Prop := ob (gI s 5 0 p0) (fun v1 => (ob p1 (fun b2 => (ob (gI s 5 0 b2) (fun v3 => (if v1 = v3 then (ob (gJ s 5 1 p0) (fun v4 => (ob (gJ s 5 1 b2) (fun v5 => (if v4 = v5 then (ob (gJ s 5 2 p0) (fun v6 => (ob (gJ s 5 2 b2) (fun v7 => (if v6 = v7 then (ob (gI s 5 3 p0) (fun v8 => (ob (gI s 5 3 b2) (fun v9 => (Q (v8 - v9) s kc ks))))) else (ob (gJ s 5 2 p0) (fun v10 => (ob (gJ s 5 2 b2) (fun v11 => (if (v10 + ((-9223372036854775808) : Int64)) < (v11 + ((-9223372036854775808) : Int64)) then (Q ((-1) : Int32) s kc ks) else (Q (1 : Int32) s kc ks))))))))))) else (ob (gJ s 5 1 p0) (fun v12 => (ob (gJ s 5 1 b2) (fun v13 => (if (v12 + ((-9223372036854775808) : Int64)) < (v13 + ((-9223372036854775808) : Int64)) then (Q ((-1) : Int32) s kc ks) else (Q (1 : Int32) s kc ks))))))))))) else (ob (gI s 5 0 p0) (fun v14 => (ob (gI s 5 0 b2) (fun v15 => (Q (v14 - v15) s kc ks)))))))))))
set_option maxRecDepth 100000 in
set_option maxHeartbeats 4000000 in
theorem kc_Pr_order (base : Nat) (sa : Nat → Nat) {R : pmM} {s : cS} {kc ks : Nat} {Rt : pmR} {p0 : Nat} {p1 : Option Nat} {Q : (Int32 → cS → Nat → Nat → Prop)} (hw : cW sa R base s) (h : C_Pr_order sa p0 p1 s kc ks Q) (k : ∀ r s' kc' ks', cW sa R base s' → Q r s' kc' ks' → Rt (some (.int r)) (cM R s') kc' ks') : kP_Pr_order base sa [.ref p0, va_rf p1] (cM R s) kc ks Rt := by
  refine ⟨by cases p1 <;> exact Nat.le_of_ble_eq_true rfl, fun G hG => ?_⟩
  have eL : lv_args 0 [.ref p0, va_rf p1] = [(0, va_rf (some p0)), (1, va_rf p1)] := by cases p1 <;> rfl
  rw [eL]
  refine (show KK sa R base G 0 [(0, va_rf (some p0)), (1, va_rf p1)] [] s kc ks (C_Pr_order sa p0 p1 s kc ks Q) from ?_) hw h
  refine kk_aln hG (x := (some p0)) rfl rfl ?_
  refine kk_gi hG (c := 5) (k := 0) (a := p0) rfl rfl rfl rfl (fun v1 => ?_)
  refine kk_aln hG (x := p1) rfl rfl ?_
  refine kk_ob (fun b2 eb2 => ?_)
  subst eb2
  refine kk_gi hG (c := 5) (k := 0) (a := b2) rfl rfl rfl rfl (fun v3 => ?_)
  refine kk_ieq hG (t := 21) rfl rfl ?_ ?_
  · refine kk_aln hG (x := (some p0)) rfl rfl ?_
    refine kk_gj hG (c := 5) (k := 1) (a := p0) rfl rfl rfl rfl (fun v4 => ?_)
    refine kk_aln hG (x := (some b2)) rfl rfl ?_
    refine kk_gj hG (c := 5) (k := 1) (a := b2) rfl rfl rfl rfl (fun v5 => ?_)
    refine kks hG rfl rfl ?_
    refine kk_leq hG (t := 59) rfl rfl ?_ ?_
    · refine kk_aln hG (x := (some p0)) rfl rfl ?_
      refine kk_gj hG (c := 5) (k := 2) (a := p0) rfl rfl rfl rfl (fun v6 => ?_)
      refine kk_aln hG (x := (some b2)) rfl rfl ?_
      refine kk_gj hG (c := 5) (k := 2) (a := b2) rfl rfl rfl rfl (fun v7 => ?_)
      refine kks hG rfl rfl ?_
      refine kk_leq hG (t := 97) rfl rfl ?_ ?_
      · refine kk_aln hG (x := (some p0)) rfl rfl ?_
        refine kk_gi hG (c := 5) (k := 3) (a := p0) rfl rfl rfl rfl (fun v8 => ?_)
        refine kk_aln hG (x := (some b2)) rfl rfl ?_
        refine kk_gi hG (c := 5) (k := 3) (a := b2) rfl rfl rfl rfl (fun v9 => ?_)
        refine kks hG rfl rfl ?_
        exact kk_ri hG rfl rfl rfl k
      refine kk_aln hG (x := (some p0)) rfl rfl ?_
      refine kk_gj hG (c := 5) (k := 2) (a := p0) rfl rfl rfl rfl (fun v10 => ?_)
      refine kk_l2 hG (v := ((-9223372036854775808) : Int64)) rfl rfl ?_
      refine kks hG rfl rfl ?_
      refine kk_aln hG (x := (some b2)) rfl rfl ?_
      refine kk_gj hG (c := 5) (k := 2) (a := b2) rfl rfl rfl rfl (fun v11 => ?_)
      refine kk_l2 hG (v := ((-9223372036854775808) : Int64)) rfl rfl ?_
      refine kks hG rfl rfl ?_
      refine kks hG rfl rfl ?_
      refine kk_lge hG (t := 95) rfl rfl ?_ ?_
      · refine kk_ic hG rfl cc_i1 ?_
        exact kk_ri hG rfl rfl rfl k
      refine kk_ic hG rfl cc_im1 ?_
      refine kk_go hG (t := 96) rfl rfl ?_
      exact kk_ri hG rfl rfl rfl k
    refine kk_aln hG (x := (some p0)) rfl rfl ?_
    refine kk_gj hG (c := 5) (k := 1) (a := p0) rfl rfl rfl rfl (fun v12 => ?_)
    refine kk_l2 hG (v := ((-9223372036854775808) : Int64)) rfl rfl ?_
    refine kks hG rfl rfl ?_
    refine kk_aln hG (x := (some b2)) rfl rfl ?_
    refine kk_gj hG (c := 5) (k := 1) (a := b2) rfl rfl rfl rfl (fun v13 => ?_)
    refine kk_l2 hG (v := ((-9223372036854775808) : Int64)) rfl rfl ?_
    refine kks hG rfl rfl ?_
    refine kks hG rfl rfl ?_
    refine kk_lge hG (t := 57) rfl rfl ?_ ?_
    · refine kk_ic hG rfl cc_i1 ?_
      exact kk_ri hG rfl rfl rfl k
    refine kk_ic hG rfl cc_im1 ?_
    refine kk_go hG (t := 58) rfl rfl ?_
    exact kk_ri hG rfl rfl rfl k
  refine kk_aln hG (x := (some p0)) rfl rfl ?_
  refine kk_gi hG (c := 5) (k := 0) (a := p0) rfl rfl rfl rfl (fun v14 => ?_)
  refine kk_aln hG (x := (some b2)) rfl rfl ?_
  refine kk_gi hG (c := 5) (k := 0) (a := b2) rfl rfl rfl rfl (fun v15 => ?_)
  refine kks hG rfl rfl ?_
  exact kk_ri hG rfl rfl rfl k
def C_Ta_placeOf_b59 (sa : Nat → Nat) (p0 : Nat) (p1 : Option Nat) (a2 : Int32) (a3 : Int32) (a4 : Int32) (s : cS) (kc ks : Nat) (Q : (Int32 → cS → Nat → Nat → Prop)) (P10 : (Int32 → Int32 → Int32 → cS → Nat → Nat → Prop)) : Prop := (P10 a2 a3 (a4 + (1 : Int32)) s kc ks)
def C_Ta_placeOf_s10 (sa : Nat → Nat) (p0 : Nat) (p1 : Option Nat) (a2 : Int32) (a3 : Int32) (a4 : Int32) (s : cS) (kc ks : Nat) (Q : (Int32 → cS → Nat → Nat → Prop)) (P10 : (Int32 → Int32 → Int32 → cS → Nat → Nat → Prop)) : Prop := if a4 < (32 : Int32) then (if a2 < a3 then (ob (gP s 10 0 p0) (fun v1 => (ob v1 (fun b2 => (ob (rQ s b2 (a2 + ((a3 - a2) / (2 : Int32)))) (fun v3 => (ob v3 (fun b4 => (ob (gP s 8 0 b4) (fun v5 => (ob v5 (fun b6 => (okO s 5 b6 ∧ C_Pr_order sa b6 p1 s kc ks (fun r7 sr7 cr7 dr7 => (if r7 < 0 then ((C_Ta_placeOf_b59 sa p0 p1 ((a2 + ((a3 - a2) / (2 : Int32))) + (1 : Int32)) a3 a4 sr7 cr7 dr7 Q P10)) else ((C_Ta_placeOf_b59 sa p0 p1 a2 (a2 + ((a3 - a2) / (2 : Int32))) a4 sr7 cr7 dr7 Q P10))))))))))))))))) else ((Q a2 s kc ks))) else ((Q a2 s kc ks))
def C_Ta_placeOf_b10 (sa : Nat → Nat) (p0 : Nat) (p1 : Option Nat) (a2 : Int32) (a3 : Int32) (a4 : Int32) (s : cS) (kc ks : Nat) (Q : (Int32 → cS → Nat → Nat → Prop)) : Prop := ∀ P10 : (Int32 → Int32 → Int32 → cS → Nat → Nat → Prop), (∀ (a2 : Int32) (a3 : Int32) (a4 : Int32) (s : cS) (kc ks : Nat), C_Ta_placeOf_s10 sa p0 p1 a2 a3 a4 s kc ks Q P10 → P10 a2 a3 a4 s kc ks) → P10 a2 a3 a4 s kc ks
def C_Ta_placeOf (sa : Nat → Nat) (p0 : Nat) (p1 : Option Nat) (s : cS) (kc ks : Nat) (Q : (Int32 → cS → Nat → Nat → Prop)) : Prop := ob (gI s 10 1 p0) (fun v1 => ((C_Ta_placeOf_b10 sa p0 p1 (0 : Int32) v1 (0 : Int32) s kc ks Q)))
set_option maxRecDepth 100000 in
set_option maxHeartbeats 4000000 in
theorem kc_Ta_placeOf (base : Nat) (sa : Nat → Nat) {R : pmM} {s : cS} {kc ks : Nat} {Rt : pmR} {p0 : Nat} {p1 : Option Nat} {Q : (Int32 → cS → Nat → Nat → Prop)} (hw : cW sa R base s) (h : C_Ta_placeOf sa p0 p1 s kc ks Q) (k : ∀ r s' kc' ks', cW sa R base s' → Q r s' kc' ks' → Rt (some (.int r)) (cM R s') kc' ks') : kP_Ta_placeOf base sa [.ref p0, va_rf p1] (cM R s) kc ks Rt := by
  refine ⟨by cases p1 <;> exact Nat.le_of_ble_eq_true rfl, fun G hG => ?_⟩
  have eL : lv_args 0 [.ref p0, va_rf p1] = [(0, va_rf (some p0)), (1, va_rf p1)] := by cases p1 <;> rfl
  rw [eL]
  have b10 : ∀ (a2 : Int32) (a3 : Int32) (a4 : Int32) (s : cS) (kc ks : Nat), KK sa R base G 10 [(0, va_rf (some p0)), (1, va_rf p1), (2, .int a2), (3, .int a3), (4, .int a4)] [] s kc ks (C_Ta_placeOf_b10 sa p0 p1 a2 a3 a4 s kc ks Q) := by
    have H : ∀ (P10 : (Int32 → Int32 → Int32 → cS → Nat → Nat → Prop)) (hP10 : ∀ (a2 : Int32) (a3 : Int32) (a4 : Int32) (s : cS) (kc ks : Nat), P10 a2 a3 a4 s kc ks → cW sa R base s → G 10 [(0, va_rf (some p0)), (1, va_rf p1), (2, .int a2), (3, .int a3), (4, .int a4)] [] (cM R s) kc ks) (a2 : Int32) (a3 : Int32) (a4 : Int32) (s : cS) (kc ks : Nat), KK sa R base G 10 [(0, va_rf (some p0)), (1, va_rf p1), (2, .int a2), (3, .int a3), (4, .int a4)] [] s kc ks (C_Ta_placeOf_s10 sa p0 p1 a2 a3 a4 s kc ks Q P10) := by
      intro P10 hP10
      have b59 : ∀ (a2 : Int32) (a3 : Int32) (a4 : Int32) (s : cS) (kc ks : Nat), KK sa R base G 59 [(0, va_rf (some p0)), (1, va_rf p1), (2, .int a2), (3, .int a3), (4, .int a4)] [] s kc ks (C_Ta_placeOf_b59 sa p0 p1 a2 a3 a4 s kc ks Q P10) := by
        intro a2 a3 a4 s kc ks
        refine kk_inc hG (L' := [(4, .int (a4 + (1 : Int32))), (0, va_rf (some p0)), (1, va_rf p1), (2, .int a2), (3, .int a3)]) rfl (Nat.le_of_ble_eq_true rfl) rfl cc_i1 rfl ?_
        refine kk_go hG (t := 10) rfl rfl ?_
        exact kk_wl hG [1, 2, 3, 4, 0] rfl (fun hw h => hP10 _ _ _ _ _ _ h hw)
      intro a2 a3 a4 s kc ks
      refine kks hG rfl rfl ?_
      refine kk_bi hG rfl cc_b32 ?_
      refine kk_ige hG (t := 65) rfl rfl ?_ ?_
      · refine kks hG rfl rfl ?_
        exact kk_ri hG rfl rfl rfl k
      refine kks hG rfl rfl ?_
      refine kks hG rfl rfl ?_
      refine kk_ige hG (t := 65) rfl rfl ?_ ?_
      · refine kks hG rfl rfl ?_
        exact kk_ri hG rfl rfl rfl k
      refine kks hG rfl rfl ?_
      refine kks hG rfl rfl ?_
      refine kks hG rfl rfl ?_
      refine kks hG rfl rfl ?_
      refine kk_ic hG rfl cc_i2 ?_
      refine kkc hG rfl rfl (by decide) ?_
      refine kks hG rfl rfl ?_
      refine kk_st hG (L' := [(5, .int (a2 + ((a3 - a2) / (2 : Int32)))), (0, va_rf (some p0)), (1, va_rf p1), (2, .int a2), (3, .int a3), (4, .int a4)]) rfl rfl (Nat.le_of_ble_eq_true rfl) rfl ?_
      refine kk_aln hG (x := (some p0)) rfl rfl ?_
      refine kk_gp hG (c := 10) (k := 0) (a := p0) rfl rfl rfl rfl (fun v1 => ?_)
      refine kks hG rfl rfl ?_
      refine kk_ob (fun b2 eb2 => ?_)
      subst eb2
      refine kk_aa hG (a := b2) rfl (fun v3 => ?_)
      refine kk_ob (fun b4 eb4 => ?_)
      subst eb4
      refine kk_gp hG (c := 8) (k := 0) (a := b4) rfl rfl rfl rfl (fun v5 => ?_)
      refine kk_aln hG (x := p1) rfl rfl ?_
      refine kk_ob (fun b6 eb6 => ?_)
      subst eb6
      refine kk_cx (w := .int) hG 0 rfl rfl (Nat.le_of_ble_eq_true rfl) (by decide) rfl (st' := []) rfl (cats_le (Nat.le_of_ble_eq_true rfl)) (fun _ hw h k => kk_rcv h.1 (kc_Pr_order base sa hw h.2 k)) (fun r7 sr7 cr7 dr7 => ?_)
      refine kk_zge hG (t := 56) rfl rfl ?_ ?_
      · refine kks hG rfl rfl ?_
        refine kk_st hG (L' := [(3, .int (a2 + ((a3 - a2) / (2 : Int32)))), (5, .int (a2 + ((a3 - a2) / (2 : Int32)))), (0, va_rf (some p0)), (1, va_rf p1), (2, .int a2), (4, .int a4)]) rfl rfl (Nat.le_of_ble_eq_true rfl) rfl ?_
        exact kk_wl hG [2, 3, 4, 0, 5] rfl (b59 _ _ _ _ _ _)
      refine kks hG rfl rfl ?_
      refine kk_ic hG rfl cc_i1 ?_
      refine kks hG rfl rfl ?_
      refine kk_st hG (L' := [(2, .int ((a2 + ((a3 - a2) / (2 : Int32))) + (1 : Int32))), (5, .int (a2 + ((a3 - a2) / (2 : Int32)))), (0, va_rf (some p0)), (1, va_rf p1), (3, .int a3), (4, .int a4)]) rfl rfl (Nat.le_of_ble_eq_true rfl) (by cases p1 <;> rfl) ?_
      refine kk_go hG (t := 59) rfl rfl ?_
      exact kk_wl hG [2, 3, 0, 4, 5] rfl (b59 _ _ _ _ _ _)
    exact fun a2 a3 a4 s kc ks hw h => h (fun a2 a3 a4 s kc ks => cW sa R base s → G 10 [(0, va_rf (some p0)), (1, va_rf p1), (2, .int a2), (3, .int a3), (4, .int a4)] [] (cM R s) kc ks) (fun a2 a3 a4 s kc ks hs hw => H _ (fun _ _ _ _ _ _ hp hw => hp hw) a2 a3 a4 s kc ks hw hs) hw
  refine (show KK sa R base G 0 [(0, va_rf (some p0)), (1, va_rf p1)] [] s kc ks (C_Ta_placeOf sa p0 p1 s kc ks Q) from ?_) hw h
  refine kk_ic hG rfl cc_i0 ?_
  refine kk_st hG (L' := [(2, .int (0 : Int32)), (0, va_rf (some p0)), (1, va_rf p1)]) rfl rfl (Nat.le_of_ble_eq_true rfl) (by cases p1 <;> rfl) ?_
  refine kk_aln hG (x := (some p0)) rfl rfl ?_
  refine kk_gi hG (c := 10) (k := 1) (a := p0) rfl rfl rfl rfl (fun v1 => ?_)
  refine kk_st hG (L' := [(3, .int v1), (2, .int (0 : Int32)), (0, va_rf (some p0)), (1, va_rf p1)]) rfl rfl (Nat.le_of_ble_eq_true rfl) rfl ?_
  refine kk_ic hG rfl cc_i0 ?_
  refine kk_st hG (L' := [(4, .int (0 : Int32)), (3, .int v1), (2, .int (0 : Int32)), (0, va_rf (some p0)), (1, va_rf p1)]) rfl rfl (Nat.le_of_ble_eq_true rfl) rfl ?_
  exact kk_wl hG [3, 4, 2, 1, 0] rfl (b10 _ _ _ _ _ _)
def C_Ta_find (sa : Nat → Nat) (p0 : Nat) (p1 : Option Nat) (s : cS) (kc ks : Nat) (Q : (Option Nat → cS → Nat → Nat → Prop)) : Prop := okO s 10 p0 ∧ C_Ta_placeOf sa p0 p1 s kc ks (fun r1 sr1 cr1 dr1 => (ob (gI sr1 10 1 p0) (fun v2 => (if r1 < v2 then (ob (gP sr1 10 0 p0) (fun v3 => (ob v3 (fun b4 => (ob (rQ sr1 b4 r1) (fun v5 => (ob v5 (fun b6 => (ob (gP sr1 8 0 b6) (fun v7 => (ob v7 (fun b8 => (okO sr1 5 b8 ∧ C_Pr_order sa b8 p1 sr1 cr1 dr1 (fun r9 sr9 cr9 dr9 => (if r9 = 0 then (ob (gP sr9 10 0 p0) (fun v10 => (ob v10 (fun b11 => (ob (rQ sr9 b11 r1) (fun v12 => (Q v12 sr9 cr9 dr9))))))) else (Q none sr9 cr9 dr9)))))))))))))))) else (Q none sr1 cr1 dr1)))))
set_option maxRecDepth 100000 in
set_option maxHeartbeats 4000000 in
theorem kc_Ta_find (base : Nat) (sa : Nat → Nat) {R : pmM} {s : cS} {kc ks : Nat} {Rt : pmR} {p0 : Nat} {p1 : Option Nat} {Q : (Option Nat → cS → Nat → Nat → Prop)} (hw : cW sa R base s) (h : C_Ta_find sa p0 p1 s kc ks Q) (k : ∀ r s' kc' ks', cW sa R base s' → Q r s' kc' ks' → Rt (some (va_rf r)) (cM R s') kc' ks') : kP_Ta_find base sa [.ref p0, va_rf p1] (cM R s) kc ks Rt := by
  refine ⟨by cases p1 <;> exact Nat.le_of_ble_eq_true rfl, fun G hG => ?_⟩
  have eL : lv_args 0 [.ref p0, va_rf p1] = [(0, va_rf (some p0)), (1, va_rf p1)] := by cases p1 <;> rfl
  rw [eL]
  refine (show KK sa R base G 0 [(0, va_rf (some p0)), (1, va_rf p1)] [] s kc ks (C_Ta_find sa p0 p1 s kc ks Q) from ?_) hw h
  refine kk_aln hG (x := (some p0)) rfl rfl ?_
  refine kk_aln hG (x := p1) rfl rfl ?_
  refine kk_cx (w := .int) hG 0 rfl rfl (Nat.le_of_ble_eq_true rfl) (by decide) rfl (st' := []) rfl (cats_le (Nat.le_of_ble_eq_true rfl)) (fun _ hw h k => kk_rcv h.1 (kc_Ta_placeOf base sa hw h.2 k)) (fun r1 sr1 cr1 dr1 => ?_)
  refine kk_st hG (L' := [(2, .int r1), (0, va_rf (some p0)), (1, va_rf p1)]) rfl rfl (Nat.le_of_ble_eq_true rfl) (by cases p1 <;> rfl) ?_
  refine kks hG rfl rfl ?_
  refine kk_aln hG (x := (some p0)) rfl rfl ?_
  refine kk_gi hG (c := 10) (k := 1) (a := p0) rfl rfl rfl rfl (fun v2 => ?_)
  refine kk_ige hG (t := 39) rfl rfl ?_ ?_
  · refine kks hG rfl rfl ?_
    exact kk_ra hG (x := none) rfl rfl rfl k
  refine kk_aln hG (x := (some p0)) rfl rfl ?_
  refine kk_gp hG (c := 10) (k := 0) (a := p0) rfl rfl rfl rfl (fun v3 => ?_)
  refine kks hG rfl rfl ?_
  refine kk_ob (fun b4 eb4 => ?_)
  subst eb4
  refine kk_aa hG (a := b4) rfl (fun v5 => ?_)
  refine kk_ob (fun b6 eb6 => ?_)
  subst eb6
  refine kk_gp hG (c := 8) (k := 0) (a := b6) rfl rfl rfl rfl (fun v7 => ?_)
  refine kk_aln hG (x := p1) rfl rfl ?_
  refine kk_ob (fun b8 eb8 => ?_)
  subst eb8
  refine kk_cx (w := .int) hG 0 rfl rfl (Nat.le_of_ble_eq_true rfl) (by decide) rfl (st' := []) rfl (cats_le (Nat.le_of_ble_eq_true rfl)) (fun _ hw h k => kk_rcv h.1 (kc_Pr_order base sa hw h.2 k)) (fun r9 sr9 cr9 dr9 => ?_)
  refine kk_zne hG (t := 39) rfl rfl ?_ ?_
  · refine kks hG rfl rfl ?_
    exact kk_ra hG (x := none) rfl rfl rfl k
  refine kk_aln hG (x := (some p0)) rfl rfl ?_
  refine kk_gp hG (c := 10) (k := 0) (a := p0) rfl rfl rfl rfl (fun v10 => ?_)
  refine kks hG rfl rfl ?_
  refine kk_ob (fun b11 eb11 => ?_)
  subst eb11
  refine kk_aa hG (a := b11) rfl (fun v12 => ?_)
  refine kk_go hG (t := 40) rfl rfl ?_
  exact kk_ra hG (x := v12) rfl rfl rfl k
def C_Rr_startDeadline (sa : Nat → Nat) (p0 : Nat) (p1 : Option Nat) (p2 : Int32) (s : cS) (kc ks : Nat) (Q : (cS → Nat → Nat → Prop)) : Prop := ob (gP s 9 0 p0) (fun v1 => (ob v1 (fun b2 => (ob (gI s 11 5 b2) (fun v3 => (ob p1 (fun b4 => (ob (pI s 8 10 b4 (v3 + p2)) (fun s5 => (ob (gI s5 8 10 b4) (fun v6 => (ob (gI s5 9 19 p0) (fun v7 => (if v6 < v7 then (ob (gI s5 8 10 b4) (fun v8 => (ob (pI s5 9 19 p0 v8) (fun s9 => (Q s9 kc ks))))) else (Q s5 kc ks)))))))))))))))
set_option maxRecDepth 100000 in
set_option maxHeartbeats 4000000 in
theorem kc_Rr_startDeadline (base : Nat) (sa : Nat → Nat) {R : pmM} {s : cS} {kc ks : Nat} {Rt : pmR} {p0 : Nat} {p1 : Option Nat} {p2 : Int32} {Q : (cS → Nat → Nat → Prop)} (hw : cW sa R base s) (h : C_Rr_startDeadline sa p0 p1 p2 s kc ks Q) (k : ∀ s' kc' ks', cW sa R base s' → Q s' kc' ks' → Rt none (cM R s') kc' ks') : kP_Rr_startDeadline base sa [.ref p0, va_rf p1, .int p2] (cM R s) kc ks Rt := by
  refine ⟨by cases p1 <;> exact Nat.le_of_ble_eq_true rfl, fun G hG => ?_⟩
  have eL : lv_args 0 [.ref p0, va_rf p1, .int p2] = [(0, va_rf (some p0)), (1, va_rf p1), (2, .int p2)] := by cases p1 <;> rfl
  rw [eL]
  refine (show KK sa R base G 0 [(0, va_rf (some p0)), (1, va_rf p1), (2, .int p2)] [] s kc ks (C_Rr_startDeadline sa p0 p1 p2 s kc ks Q) from ?_) hw h
  refine kk_aln hG (x := p1) rfl rfl ?_
  refine kk_aln hG (x := (some p0)) rfl rfl ?_
  refine kk_gp hG (c := 9) (k := 0) (a := p0) rfl rfl rfl rfl (fun v1 => ?_)
  refine kk_ob (fun b2 eb2 => ?_)
  subst eb2
  refine kk_gi hG (c := 11) (k := 5) (a := b2) rfl rfl rfl rfl (fun v3 => ?_)
  refine kks hG rfl rfl ?_
  refine kks hG rfl rfl ?_
  refine kk_ob (fun b4 eb4 => ?_)
  subst eb4
  refine kk_pi hG (c := 8) (k := 10) (a := b4) rfl rfl rfl rfl (fun s5 => ?_)
  refine kk_aln hG (x := (some b4)) rfl rfl ?_
  refine kk_gi hG (c := 8) (k := 10) (a := b4) rfl rfl rfl rfl (fun v6 => ?_)
  refine kk_aln hG (x := (some p0)) rfl rfl ?_
  refine kk_gi hG (c := 9) (k := 19) (a := p0) rfl rfl rfl rfl (fun v7 => ?_)
  refine kk_ige hG (t := 32) rfl rfl ?_ ?_
  · exact kk_rv hG rfl rfl k
  refine kk_aln hG (x := (some p0)) rfl rfl ?_
  refine kk_aln hG (x := (some b4)) rfl rfl ?_
  refine kk_gi hG (c := 8) (k := 10) (a := b4) rfl rfl rfl rfl (fun v8 => ?_)
  refine kk_pi hG (c := 9) (k := 19) (a := p0) rfl rfl rfl rfl (fun s9 => ?_)
  exact kk_rv hG rfl rfl k
def C_Rr_markChanged (sa : Nat → Nat) (p0 : Nat) (p1 : Option Nat) (s : cS) (kc ks : Nat) (Q : (cS → Nat → Nat → Prop)) : Prop := ob p1 (fun b1 => (ob (pZ s 8 7 b1 (1 : Int32)) (fun s2 => (ob (gP s2 9 16 p0) (fun v3 => (ob v3 (fun b4 => (ob (rE s2 .int b4 (7 : Int32)) (fun v5 => (ob (wEi s2 b4 (7 : Int32) (v5 + (1 : Int32))) (fun s6 => (ob (gI s6 9 18 p0) (fun v7 => (if v7 = ((-1) : Int32) then (ob (gP s6 9 0 p0) (fun v8 => (ob v8 (fun b9 => (ob (gI s6 11 5 b9) (fun v10 => (ob (gI s6 9 2 p0) (fun v11 => (ob (gP s6 9 16 p0) (fun v12 => (ob v12 (fun b13 => (ob (rE s6 .int b13 (6 : Int32)) (fun v14 => (ob (pI s6 9 18 p0 ((v10 + (1 : Int32)) + (rem_I (v11 + v14) (5 : Int32)))) (fun s15 => (Q s15 kc ks))))))))))))))))) else (Q s6 kc ks)))))))))))))))
set_option maxRecDepth 100000 in
set_option maxHeartbeats 4000000 in
theorem kc_Rr_markChanged (base : Nat) (sa : Nat → Nat) {R : pmM} {s : cS} {kc ks : Nat} {Rt : pmR} {p0 : Nat} {p1 : Option Nat} {Q : (cS → Nat → Nat → Prop)} (hw : cW sa R base s) (h : C_Rr_markChanged sa p0 p1 s kc ks Q) (k : ∀ s' kc' ks', cW sa R base s' → Q s' kc' ks' → Rt none (cM R s') kc' ks') : kP_Rr_markChanged base sa [.ref p0, va_rf p1] (cM R s) kc ks Rt := by
  refine ⟨by cases p1 <;> exact Nat.le_of_ble_eq_true rfl, fun G hG => ?_⟩
  have eL : lv_args 0 [.ref p0, va_rf p1] = [(0, va_rf (some p0)), (1, va_rf p1)] := by cases p1 <;> rfl
  rw [eL]
  refine (show KK sa R base G 0 [(0, va_rf (some p0)), (1, va_rf p1)] [] s kc ks (C_Rr_markChanged sa p0 p1 s kc ks Q) from ?_) hw h
  refine kk_aln hG (x := p1) rfl rfl ?_
  refine kk_ic hG rfl cc_i1 ?_
  refine kk_ob (fun b1 eb1 => ?_)
  subst eb1
  refine kk_pz hG (c := 8) (k := 7) (a := b1) rfl rfl rfl rfl (fun s2 => ?_)
  refine kk_aln hG (x := (some p0)) rfl rfl ?_
  refine kk_gp hG (c := 9) (k := 16) (a := p0) rfl rfl rfl rfl (fun v3 => ?_)
  refine kk_bi hG rfl cc_b7 ?_
  refine kk_dup2 hG (x := v3) rfl ?_
  refine kk_ob (fun b4 eb4 => ?_)
  subst eb4
  refine kk_ia hG (a := b4) rfl (fun v5 => ?_)
  refine kk_ic hG rfl cc_i1 ?_
  refine kks hG rfl rfl ?_
  refine kk_is hG (a := b4) rfl (fun s6 => ?_)
  refine kk_aln hG (x := (some p0)) rfl rfl ?_
  refine kk_gi hG (c := 9) (k := 18) (a := p0) rfl rfl rfl rfl (fun v7 => ?_)
  refine kk_ic hG rfl cc_im1 ?_
  refine kk_ine hG (t := 52) rfl rfl ?_ ?_
  · exact kk_rv hG rfl rfl k
  refine kk_aln hG (x := (some p0)) rfl rfl ?_
  refine kk_aln hG (x := (some p0)) rfl rfl ?_
  refine kk_gp hG (c := 9) (k := 0) (a := p0) rfl rfl rfl rfl (fun v8 => ?_)
  refine kk_ob (fun b9 eb9 => ?_)
  subst eb9
  refine kk_gi hG (c := 11) (k := 5) (a := b9) rfl rfl rfl rfl (fun v10 => ?_)
  refine kk_ic hG rfl cc_i1 ?_
  refine kks hG rfl rfl ?_
  refine kk_aln hG (x := (some p0)) rfl rfl ?_
  refine kk_gi hG (c := 9) (k := 2) (a := p0) rfl rfl rfl rfl (fun v11 => ?_)
  refine kk_aln hG (x := (some p0)) rfl rfl ?_
  refine kk_gp hG (c := 9) (k := 16) (a := p0) rfl rfl rfl rfl (fun v12 => ?_)
  refine kk_bi hG rfl cc_b6 ?_
  refine kk_ob (fun b13 eb13 => ?_)
  subst eb13
  refine kk_ia hG (a := b13) rfl (fun v14 => ?_)
  refine kks hG rfl rfl ?_
  refine kk_ic hG rfl cc_i5 ?_
  refine kkc hG rfl rfl (by decide) ?_
  refine kks hG rfl rfl ?_
  refine kk_pi hG (c := 9) (k := 18) (a := p0) rfl rfl rfl rfl (fun s15 => ?_)
  exact kk_rv hG rfl rfl k
def C_Rr_die (sa : Nat → Nat) (p0 : Nat) (p1 : Option Nat) (s : cS) (kc ks : Nat) (Q : (cS → Nat → Nat → Prop)) : Prop := ob p1 (fun b1 => (ob (gI s 8 4 b1) (fun v2 => (if v2 < (16 : Int32) then (ob (pI s 8 4 b1 (16 : Int32)) (fun s3 => (ob (gP s3 9 15 p0) (fun v4 => (ob v4 (fun b5 => (ob (rE s3 .int b5 (2 : Int32)) (fun v6 => (okO s3 9 p0 ∧ C_Rr_startDeadline sa p0 (some b1) v6 s3 kc ks (fun sr7 cr7 dr7 => (okO sr7 9 p0 ∧ C_Rr_markChanged sa p0 (some b1) sr7 cr7 dr7 (fun sr8 cr8 dr8 => (Q sr8 cr8 dr8))))))))))))) else (Q s kc ks)))))
set_option maxRecDepth 100000 in
set_option maxHeartbeats 4000000 in
theorem kc_Rr_die (base : Nat) (sa : Nat → Nat) {R : pmM} {s : cS} {kc ks : Nat} {Rt : pmR} {p0 : Nat} {p1 : Option Nat} {Q : (cS → Nat → Nat → Prop)} (hw : cW sa R base s) (h : C_Rr_die sa p0 p1 s kc ks Q) (k : ∀ s' kc' ks', cW sa R base s' → Q s' kc' ks' → Rt none (cM R s') kc' ks') : kP_Rr_die base sa [.ref p0, va_rf p1] (cM R s) kc ks Rt := by
  refine ⟨by cases p1 <;> exact Nat.le_of_ble_eq_true rfl, fun G hG => ?_⟩
  have eL : lv_args 0 [.ref p0, va_rf p1] = [(0, va_rf (some p0)), (1, va_rf p1)] := by cases p1 <;> rfl
  rw [eL]
  refine (show KK sa R base G 0 [(0, va_rf (some p0)), (1, va_rf p1)] [] s kc ks (C_Rr_die sa p0 p1 s kc ks Q) from ?_) hw h
  refine kk_aln hG (x := p1) rfl rfl ?_
  refine kk_ob (fun b1 eb1 => ?_)
  subst eb1
  refine kk_gi hG (c := 8) (k := 4) (a := b1) rfl rfl rfl rfl (fun v2 => ?_)
  refine kk_bi hG rfl cc_b16 ?_
  refine kk_ige hG (t := 31) rfl rfl ?_ ?_
  · exact kk_rv hG rfl rfl k
  refine kk_aln hG (x := (some b1)) rfl rfl ?_
  refine kk_bi hG rfl cc_b16 ?_
  refine kk_pi hG (c := 8) (k := 4) (a := b1) rfl rfl rfl rfl (fun s3 => ?_)
  refine kk_aln hG (x := (some p0)) rfl rfl ?_
  refine kk_aln hG (x := (some b1)) rfl rfl ?_
  refine kk_aln hG (x := (some p0)) rfl rfl ?_
  refine kk_gp hG (c := 9) (k := 15) (a := p0) rfl rfl rfl rfl (fun v4 => ?_)
  refine kk_ic hG rfl cc_i2 ?_
  refine kk_ob (fun b5 eb5 => ?_)
  subst eb5
  refine kk_ia hG (a := b5) rfl (fun v6 => ?_)
  refine kk_cv hG 0 rfl rfl (Nat.le_of_ble_eq_true rfl) (by decide) rfl (st' := []) rfl (cats_le (Nat.le_of_ble_eq_true rfl)) (fun _ hw h k => kk_rcv h.1 (kc_Rr_startDeadline base sa hw h.2 k)) (fun sr7 cr7 dr7 => ?_)
  refine kk_aln hG (x := (some p0)) rfl rfl ?_
  refine kk_aln hG (x := (some b1)) rfl rfl ?_
  refine kk_cv hG 0 rfl rfl (Nat.le_of_ble_eq_true rfl) (by decide) rfl (st' := []) rfl (cats_le (Nat.le_of_ble_eq_true rfl)) (fun _ hw h k => kk_rcv h.1 (kc_Rr_markChanged base sa hw h.2 k)) (fun sr8 cr8 dr8 => ?_)
  exact kk_rv hG rfl rfl k
def C_Rr_lapse (sa : Nat → Nat) (p0 : Nat) (p1 : Option Nat) (s : cS) (kc ks : Nat) (Q : (cS → Nat → Nat → Prop)) : Prop := if p1 = none then (Q s kc ks) else (ob p1 (fun b1 => (ob (gI s 8 3 b1) (fun v2 => (if v2 = (2 : Int32) then (Q s kc ks) else (ob (pI s 8 3 b1 (2 : Int32)) (fun s3 => (ob (pI s3 8 5 b1 (0 : Int32)) (fun s4 => (ob (pP s4 8 6 b1 none) (fun s5 => (okO s5 9 p0 ∧ C_Rr_die sa p0 (some b1) s5 kc ks (fun sr6 cr6 dr6 => (Q sr6 cr6 dr6))))))))))))))
set_option maxRecDepth 100000 in
set_option maxHeartbeats 4000000 in
theorem kc_Rr_lapse (base : Nat) (sa : Nat → Nat) {R : pmM} {s : cS} {kc ks : Nat} {Rt : pmR} {p0 : Nat} {p1 : Option Nat} {Q : (cS → Nat → Nat → Prop)} (hw : cW sa R base s) (h : C_Rr_lapse sa p0 p1 s kc ks Q) (k : ∀ s' kc' ks', cW sa R base s' → Q s' kc' ks' → Rt none (cM R s') kc' ks') : kP_Rr_lapse base sa [.ref p0, va_rf p1] (cM R s) kc ks Rt := by
  refine ⟨by cases p1 <;> exact Nat.le_of_ble_eq_true rfl, fun G hG => ?_⟩
  have eL : lv_args 0 [.ref p0, va_rf p1] = [(0, va_rf (some p0)), (1, va_rf p1)] := by cases p1 <;> rfl
  rw [eL]
  refine (show KK sa R base G 0 [(0, va_rf (some p0)), (1, va_rf p1)] [] s kc ks (C_Rr_lapse sa p0 p1 s kc ks Q) from ?_) hw h
  refine kk_aln hG (x := p1) rfl rfl ?_
  refine kk_nul hG (x := p1) (t := 32) rfl rfl ?_ ?_
  · exact kk_rv hG rfl rfl k
  refine kk_aln hG (x := p1) rfl rfl ?_
  refine kk_ob (fun b1 eb1 => ?_)
  subst eb1
  refine kk_gi hG (c := 8) (k := 3) (a := b1) rfl rfl rfl rfl (fun v2 => ?_)
  refine kk_ic hG rfl cc_i2 ?_
  refine kk_ieq hG (t := 32) rfl rfl ?_ ?_
  · exact kk_rv hG rfl rfl k
  refine kk_aln hG (x := (some b1)) rfl rfl ?_
  refine kk_ic hG rfl cc_i2 ?_
  refine kk_pi hG (c := 8) (k := 3) (a := b1) rfl rfl rfl rfl (fun s3 => ?_)
  refine kk_aln hG (x := (some b1)) rfl rfl ?_
  refine kk_ic hG rfl cc_i0 ?_
  refine kk_pi hG (c := 8) (k := 5) (a := b1) rfl rfl rfl rfl (fun s4 => ?_)
  refine kk_aln hG (x := (some b1)) rfl rfl ?_
  refine kks hG rfl rfl ?_
  refine kk_pp hG (c := 8) (k := 6) (a := b1) (v := none) rfl rfl rfl rfl rfl (fun s5 => ?_)
  refine kk_aln hG (x := (some p0)) rfl rfl ?_
  refine kk_aln hG (x := (some b1)) rfl rfl ?_
  refine kk_cv hG 0 rfl rfl (Nat.le_of_ble_eq_true rfl) (by decide) rfl (st' := []) rfl (cats_le (Nat.le_of_ble_eq_true rfl)) (fun _ hw h k => kk_rcv h.1 (kc_Rr_die base sa hw h.2 k)) (fun sr6 cr6 dr6 => ?_)
  exact kk_rv hG rfl rfl k
