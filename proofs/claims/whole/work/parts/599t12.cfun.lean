/-! Methods as weakest preconditions, by program: Pr_dropBitsBehind .. Rr_loseLearned -/
def C_Pr_dropBitsBehind (sa : Nat → Nat) (p0 : Nat) (s : cS) (kc ks : Nat) (Q : (cS → Nat → Nat → Prop)) : Prop := ob (gJ s 5 1 p0) (fun v1 => (ob (gI s 5 3 p0) (fun v2 => (C_Pr_maskHigh sa v2 s kc ks (fun r3 sr3 cr3 dr3 => (ob (pJ sr3 5 1 p0 (v1 &&& r3)) (fun s4 => (ob (gJ s4 5 2 p0) (fun v5 => (ob (gI s4 5 3 p0) (fun v6 => (C_Pr_maskLow sa v6 s4 cr3 dr3 (fun r7 sr7 cr7 dr7 => (ob (pJ sr7 5 2 p0 (v5 &&& r7)) (fun s8 => (Q s8 cr7 dr7))))))))))))))))
set_option maxRecDepth 100000 in
set_option maxHeartbeats 4000000 in
theorem kc_Pr_dropBitsBehind (base : Nat) (sa : Nat → Nat) {R : pmM} {s : cS} {kc ks : Nat} {Rt : pmR} {p0 : Nat} {Q : (cS → Nat → Nat → Prop)} (hw : cW sa R base s) (h : C_Pr_dropBitsBehind sa p0 s kc ks Q) (k : ∀ s' kc' ks', cW sa R base s' → Q s' kc' ks' → Rt none (cM R s') kc' ks') : kP_Pr_dropBitsBehind base sa [.ref p0] (cM R s) kc ks Rt := by
  refine ⟨Nat.le_of_ble_eq_true rfl, fun G hG => ?_⟩
  refine (show KK sa R base G 0 [(0, va_rf (some p0))] [] s kc ks (C_Pr_dropBitsBehind sa p0 s kc ks Q) from ?_) hw h
  refine kk_aln hG (x := (some p0)) rfl rfl ?_
  refine kk_dup hG (x := (some p0)) rfl ?_
  refine kk_gj hG (c := 5) (k := 1) (a := p0) rfl rfl rfl rfl (fun v1 => ?_)
  refine kk_aln hG (x := (some p0)) rfl rfl ?_
  refine kk_gi hG (c := 5) (k := 3) (a := p0) rfl rfl rfl rfl (fun v2 => ?_)
  refine kk_cx (w := .long) hG 2 rfl rfl (Nat.le_of_ble_eq_true rfl) (by decide) rfl (st' := [.long v1, va_rf (some p0)]) rfl (cats_le (Nat.le_of_ble_eq_true rfl)) (fun _ hw h k => kc_Pr_maskHigh base sa hw h k) (fun r3 sr3 cr3 dr3 => ?_)
  refine kks hG rfl rfl ?_
  refine kk_pj hG (c := 5) (k := 1) (a := p0) rfl rfl rfl rfl (fun s4 => ?_)
  refine kk_aln hG (x := (some p0)) rfl rfl ?_
  refine kk_dup hG (x := (some p0)) rfl ?_
  refine kk_gj hG (c := 5) (k := 2) (a := p0) rfl rfl rfl rfl (fun v5 => ?_)
  refine kk_aln hG (x := (some p0)) rfl rfl ?_
  refine kk_gi hG (c := 5) (k := 3) (a := p0) rfl rfl rfl rfl (fun v6 => ?_)
  refine kk_cx (w := .long) hG 2 rfl rfl (Nat.le_of_ble_eq_true rfl) (by decide) rfl (st' := [.long v5, va_rf (some p0)]) rfl (cats_le (Nat.le_of_ble_eq_true rfl)) (fun _ hw h k => kc_Pr_maskLow base sa hw h k) (fun r7 sr7 cr7 dr7 => ?_)
  refine kks hG rfl rfl ?_
  refine kk_pj hG (c := 5) (k := 2) (a := p0) rfl rfl rfl rfl (fun s8 => ?_)
  exact kk_rv hG rfl rfl k
def C_Pr_sameNetwork (sa : Nat → Nat) (p0 : Nat) (p1 : Option Nat) (s : cS) (kc ks : Nat) (Q : (Int32 → cS → Nat → Nat → Prop)) : Prop := ob (gI s 5 3 p0) (fun v1 => (ob p1 (fun b2 => (ob (gI s 5 3 b2) (fun v3 => (if v1 = v3 then (okO s 5 p0 ∧ C_Pr_covers sa p0 (some b2) s kc ks (fun r4 sr4 cr4 dr4 => (if r4 = 0 then (Q (0 : Int32) sr4 cr4 dr4) else (Q (1 : Int32) sr4 cr4 dr4)))) else (Q (0 : Int32) s kc ks)))))))
set_option maxRecDepth 100000 in
set_option maxHeartbeats 4000000 in
theorem kc_Pr_sameNetwork (base : Nat) (sa : Nat → Nat) {R : pmM} {s : cS} {kc ks : Nat} {Rt : pmR} {p0 : Nat} {p1 : Option Nat} {Q : (Int32 → cS → Nat → Nat → Prop)} (hw : cW sa R base s) (h : C_Pr_sameNetwork sa p0 p1 s kc ks Q) (k : ∀ r s' kc' ks', cW sa R base s' → Q r s' kc' ks' → Rt (some (.int r)) (cM R s') kc' ks') : kP_Pr_sameNetwork base sa [.ref p0, va_rf p1] (cM R s) kc ks Rt := by
  refine ⟨by cases p1 <;> exact Nat.le_of_ble_eq_true rfl, fun G hG => ?_⟩
  have eL : lv_args 0 [.ref p0, va_rf p1] = [(0, va_rf (some p0)), (1, va_rf p1)] := by cases p1 <;> rfl
  rw [eL]
  refine (show KK sa R base G 0 [(0, va_rf (some p0)), (1, va_rf p1)] [] s kc ks (C_Pr_sameNetwork sa p0 p1 s kc ks Q) from ?_) hw h
  refine kk_aln hG (x := (some p0)) rfl rfl ?_
  refine kk_gi hG (c := 5) (k := 3) (a := p0) rfl rfl rfl rfl (fun v1 => ?_)
  refine kk_aln hG (x := p1) rfl rfl ?_
  refine kk_ob (fun b2 eb2 => ?_)
  subst eb2
  refine kk_gi hG (c := 5) (k := 3) (a := b2) rfl rfl rfl rfl (fun v3 => ?_)
  refine kk_ine hG (t := 23) rfl rfl ?_ ?_
  · refine kk_ic hG rfl cc_i0 ?_
    exact kk_ri hG rfl rfl rfl k
  refine kk_aln hG (x := (some p0)) rfl rfl ?_
  refine kk_aln hG (x := (some b2)) rfl rfl ?_
  refine kk_cx (w := .int) hG 0 rfl rfl (Nat.le_of_ble_eq_true rfl) (by decide) rfl (st' := []) rfl (cats_le (Nat.le_of_ble_eq_true rfl)) (fun _ hw h k => kk_rcv h.1 (kc_Pr_covers base sa hw h.2 k)) (fun r4 sr4 cr4 dr4 => ?_)
  refine kk_zeq hG (t := 23) rfl rfl ?_ ?_
  · refine kk_ic hG rfl cc_i0 ?_
    exact kk_ri hG rfl rfl rfl k
  refine kk_ic hG rfl cc_i1 ?_
  refine kk_go hG (t := 24) rfl rfl ?_
  exact kk_ri hG rfl rfl rfl k
def C_Rr_portOf_b58 (sa : Nat → Nat) (p0 : Nat) (p1 : Option Nat) (a2 : Int32) (s : cS) (kc ks : Nat) (Q : (Option Nat → cS → Nat → Nat → Prop)) (P2 : (Int32 → cS → Nat → Nat → Prop)) : Prop := (P2 (a2 + (1 : Int32)) s kc ks)
def C_Rr_portOf_s2 (sa : Nat → Nat) (p0 : Nat) (p1 : Option Nat) (a2 : Int32) (s : cS) (kc ks : Nat) (Q : (Option Nat → cS → Nat → Nat → Prop)) (P2 : (Int32 → cS → Nat → Nat → Prop)) : Prop := ob (gI s 9 5 p0) (fun v1 => (if a2 < v1 then (ob (gP s 9 4 p0) (fun v2 => (ob v2 (fun b3 => (ob (rQ s b3 a2) (fun v4 => (ob p1 (fun b5 => (ob (gI s 5 0 b5) (fun v6 => (ob v4 (fun b7 => (okO s 4 b7 ∧ C_Po_addressOf sa b7 v6 s kc ks (fun r8 sr8 cr8 dr8 => (if r8 = none then ((C_Rr_portOf_b58 sa p0 (some b5) a2 sr8 cr8 dr8 Q P2)) else (ob (gP sr8 9 4 p0) (fun v9 => (ob v9 (fun b10 => (ob (rQ sr8 b10 a2) (fun v11 => (ob v11 (fun b12 => (ob (gP sr8 4 0 b12) (fun v13 => (ob v13 (fun b14 => (ob (gI sr8 3 4 b14) (fun v15 => (if v15 = 0 then ((C_Rr_portOf_b58 sa p0 (some b5) a2 sr8 cr8 dr8 Q P2)) else (ob r8 (fun b16 => (okO sr8 5 b16 ∧ C_Pr_sameNetwork sa b16 (some b5) sr8 cr8 dr8 (fun r17 sr17 cr17 dr17 => (if r17 = 0 then ((C_Rr_portOf_b58 sa p0 (some b5) a2 sr17 cr17 dr17 Q P2)) else ((ob (gP sr17 9 4 p0) (fun v18 => (ob v18 (fun b19 => (ob (rQ sr17 b19 a2) (fun v20 => (Q v20 sr17 cr17 dr17))))))))))))))))))))))))))))))))))))))))))) else ((Q none s kc ks))))
def C_Rr_portOf_b2 (sa : Nat → Nat) (p0 : Nat) (p1 : Option Nat) (a2 : Int32) (s : cS) (kc ks : Nat) (Q : (Option Nat → cS → Nat → Nat → Prop)) : Prop := ∀ P2 : (Int32 → cS → Nat → Nat → Prop), (∀ (a2 : Int32) (s : cS) (kc ks : Nat), C_Rr_portOf_s2 sa p0 p1 a2 s kc ks Q P2 → P2 a2 s kc ks) → P2 a2 s kc ks
def C_Rr_portOf (sa : Nat → Nat) (p0 : Nat) (p1 : Option Nat) (s : cS) (kc ks : Nat) (Q : (Option Nat → cS → Nat → Nat → Prop)) : Prop := (C_Rr_portOf_b2 sa p0 p1 (0 : Int32) s kc ks Q)
set_option maxRecDepth 100000 in
set_option maxHeartbeats 4000000 in
theorem kc_Rr_portOf (base : Nat) (sa : Nat → Nat) {R : pmM} {s : cS} {kc ks : Nat} {Rt : pmR} {p0 : Nat} {p1 : Option Nat} {Q : (Option Nat → cS → Nat → Nat → Prop)} (hw : cW sa R base s) (h : C_Rr_portOf sa p0 p1 s kc ks Q) (k : ∀ r s' kc' ks', cW sa R base s' → Q r s' kc' ks' → Rt (some (va_rf r)) (cM R s') kc' ks') : kP_Rr_portOf base sa [.ref p0, va_rf p1] (cM R s) kc ks Rt := by
  refine ⟨by cases p1 <;> exact Nat.le_of_ble_eq_true rfl, fun G hG => ?_⟩
  have eL : lv_args 0 [.ref p0, va_rf p1] = [(0, va_rf (some p0)), (1, va_rf p1)] := by cases p1 <;> rfl
  rw [eL]
  have b2 : ∀ (a2 : Int32) (s : cS) (kc ks : Nat), KK sa R base G 2 [(0, va_rf (some p0)), (1, va_rf p1), (2, .int a2)] [] s kc ks (C_Rr_portOf_b2 sa p0 p1 a2 s kc ks Q) := by
    have H : ∀ (P2 : (Int32 → cS → Nat → Nat → Prop)) (hP2 : ∀ (a2 : Int32) (s : cS) (kc ks : Nat), P2 a2 s kc ks → cW sa R base s → G 2 [(0, va_rf (some p0)), (1, va_rf p1), (2, .int a2)] [] (cM R s) kc ks) (a2 : Int32) (s : cS) (kc ks : Nat), KK sa R base G 2 [(0, va_rf (some p0)), (1, va_rf p1), (2, .int a2)] [] s kc ks (C_Rr_portOf_s2 sa p0 p1 a2 s kc ks Q P2) := by
      intro P2 hP2
      have b58 : ∀ (a2 : Int32) (s : cS) (kc ks : Nat), KK sa R base G 58 [(0, va_rf (some p0)), (1, va_rf p1), (2, .int a2)] [] s kc ks (C_Rr_portOf_b58 sa p0 p1 a2 s kc ks Q P2) := by
        intro a2 s kc ks
        refine kk_inc hG (L' := [(2, .int (a2 + (1 : Int32))), (0, va_rf (some p0)), (1, va_rf p1)]) rfl (Nat.le_of_ble_eq_true rfl) rfl cc_i1 (by cases p1 <;> rfl) ?_
        refine kk_go hG (t := 2) rfl rfl ?_
        exact kk_wl hG [1, 2, 0] rfl (fun hw h => hP2 _ _ _ _ h hw)
      intro a2 s kc ks
      refine kks hG rfl rfl ?_
      refine kk_aln hG (x := (some p0)) rfl rfl ?_
      refine kk_gi hG (c := 9) (k := 5) (a := p0) rfl rfl rfl rfl (fun v1 => ?_)
      refine kk_ige hG (t := 64) rfl rfl ?_ ?_
      · refine kks hG rfl rfl ?_
        exact kk_ra hG (x := none) rfl rfl rfl k
      refine kk_aln hG (x := (some p0)) rfl rfl ?_
      refine kk_gp hG (c := 9) (k := 4) (a := p0) rfl rfl rfl rfl (fun v2 => ?_)
      refine kks hG rfl rfl ?_
      refine kk_ob (fun b3 eb3 => ?_)
      subst eb3
      refine kk_aa hG (a := b3) rfl (fun v4 => ?_)
      refine kk_aln hG (x := p1) rfl rfl ?_
      refine kk_ob (fun b5 eb5 => ?_)
      subst eb5
      refine kk_gi hG (c := 5) (k := 0) (a := b5) rfl rfl rfl rfl (fun v6 => ?_)
      refine kk_ob (fun b7 eb7 => ?_)
      subst eb7
      refine kk_cx (w := va_rf) hG 0 rfl rfl (Nat.le_of_ble_eq_true rfl) (by decide) rfl (st' := []) rfl (cats_le (Nat.le_of_ble_eq_true rfl)) (fun _ hw h k => kk_rcv h.1 (kc_Po_addressOf base sa hw h.2 k)) (fun r8 sr8 cr8 dr8 => ?_)
      refine kk_asn hG (x := r8) (L' := [(3, va_rf r8), (0, va_rf (some p0)), (1, va_rf (some b5)), (2, .int a2)]) rfl (Nat.le_of_ble_eq_true rfl) rfl ?_
      refine kk_aln hG (x := r8) rfl rfl ?_
      refine kk_nul hG (x := r8) (t := 58) rfl rfl ?_ ?_
      · exact kk_wl hG [1, 2, 3] rfl (b58 _ _ _ _)
      refine kk_aln hG (x := (some p0)) rfl rfl ?_
      refine kk_gp hG (c := 9) (k := 4) (a := p0) rfl rfl rfl rfl (fun v9 => ?_)
      refine kks hG rfl rfl ?_
      refine kk_ob (fun b10 eb10 => ?_)
      subst eb10
      refine kk_aa hG (a := b10) rfl (fun v11 => ?_)
      refine kk_ob (fun b12 eb12 => ?_)
      subst eb12
      refine kk_gp hG (c := 4) (k := 0) (a := b12) rfl rfl rfl rfl (fun v13 => ?_)
      refine kk_ob (fun b14 eb14 => ?_)
      subst eb14
      refine kk_gi hG (c := 3) (k := 4) (a := b14) rfl rfl rfl rfl (fun v15 => ?_)
      refine kk_zeq hG (t := 58) rfl rfl ?_ ?_
      · exact kk_wl hG [1, 2, 3] rfl (b58 _ _ _ _)
      refine kk_aln hG (x := r8) rfl rfl ?_
      refine kk_aln hG (x := (some b5)) rfl rfl ?_
      refine kk_ob (fun b16 eb16 => ?_)
      subst eb16
      refine kk_cx (w := .int) hG 0 rfl rfl (Nat.le_of_ble_eq_true rfl) (by decide) rfl (st' := []) rfl (cats_le (Nat.le_of_ble_eq_true rfl)) (fun _ hw h k => kk_rcv h.1 (kc_Pr_sameNetwork base sa hw h.2 k)) (fun r17 sr17 cr17 dr17 => ?_)
      refine kk_zeq hG (t := 58) rfl rfl ?_ ?_
      · exact kk_wl hG [1, 2, 3] rfl (b58 _ _ _ _)
      refine kk_aln hG (x := (some p0)) rfl rfl ?_
      refine kk_gp hG (c := 9) (k := 4) (a := p0) rfl rfl rfl rfl (fun v18 => ?_)
      refine kks hG rfl rfl ?_
      refine kk_ob (fun b19 eb19 => ?_)
      subst eb19
      refine kk_aa hG (a := b19) rfl (fun v20 => ?_)
      exact kk_ra hG (x := v20) rfl rfl rfl k
    exact fun a2 s kc ks hw h => h (fun a2 s kc ks => cW sa R base s → G 2 [(0, va_rf (some p0)), (1, va_rf p1), (2, .int a2)] [] (cM R s) kc ks) (fun a2 s kc ks hs hw => H _ (fun _ _ _ _ hp hw => hp hw) a2 s kc ks hw hs) hw
  refine (show KK sa R base G 0 [(0, va_rf (some p0)), (1, va_rf p1)] [] s kc ks (C_Rr_portOf sa p0 p1 s kc ks Q) from ?_) hw h
  refine kk_ic hG rfl cc_i0 ?_
  refine kk_st hG (L' := [(2, .int (0 : Int32)), (0, va_rf (some p0)), (1, va_rf p1)]) rfl rfl (Nat.le_of_ble_eq_true rfl) (by cases p1 <;> rfl) ?_
  exact kk_wl hG [1, 2, 0] rfl (b2 _ _ _ _)
def C_Rr_lapse (sa : Nat → Nat) (p0 : Nat) (p1 : Option Nat) (s : cS) (kc ks : Nat) (Q : (cS → Nat → Nat → Prop)) : Prop := if p1 = none then (Q s kc ks) else (ob p1 (fun b1 => (ob (gI s 8 3 b1) (fun v2 => (if v2 = (2 : Int32) then (Q s kc ks) else (ob (pI s 8 3 b1 (2 : Int32)) (fun s3 => (ob (pI s3 8 5 b1 (0 : Int32)) (fun s4 => (ob (pP s4 8 6 b1 none) (fun s5 => (okO s5 9 p0 ∧ C_Rr_die sa p0 (some b1) s5 kc ks (fun sr6 cr6 dr6 => (Q sr6 cr6 dr6))))))))))))))
set_option maxRecDepth 100000 in
set_option maxHeartbeats 4000000 in
theorem kc_Rr_lapse (base : Nat) (sa : Nat → Nat) {R : pmM} {s : cS} {kc ks : Nat} {Rt : pmR} {p0 : Nat} {p1 : Option Nat} {Q : (cS → Nat → Nat → Prop)} (hw : cW sa R base s) (h : C_Rr_lapse sa p0 p1 s kc ks Q) (k : ∀ s' kc' ks', cW sa R base s' → Q s' kc' ks' → Rt none (cM R s') kc' ks') : kP_Rr_lapse base sa [.ref p0, va_rf p1] (cM R s) kc ks Rt := by
  refine ⟨by cases p1 <;> exact Nat.le_of_ble_eq_true rfl, fun G hG => ?_⟩
  have eL : lv_args 0 [.ref p0, va_rf p1] = [(0, va_rf (some p0)), (1, va_rf p1)] := by cases p1 <;> rfl
  rw [eL]
  refine (show KK sa R base G 0 [(0, va_rf (some p0)), (1, va_rf p1)] [] s kc ks (C_Rr_lapse sa p0 p1 s kc ks Q) from ?_) hw h
  refine kk_aln hG (x := p1) rfl rfl ?_
  refine kk_nul hG (x := p1) (t := 32) rfl rfl ?_ ?_
  · exact kk_rv hG rfl rfl k
  refine kk_aln hG (x := p1) rfl rfl ?_
  refine kk_ob (fun b1 eb1 => ?_)
  subst eb1
  refine kk_gi hG (c := 8) (k := 3) (a := b1) rfl rfl rfl rfl (fun v2 => ?_)
  refine kk_ic hG rfl cc_i2 ?_
  refine kk_ieq hG (t := 32) rfl rfl ?_ ?_
  · exact kk_rv hG rfl rfl k
  refine kk_aln hG (x := (some b1)) rfl rfl ?_
  refine kk_ic hG rfl cc_i2 ?_
  refine kk_pi hG (c := 8) (k := 3) (a := b1) rfl rfl rfl rfl (fun s3 => ?_)
  refine kk_aln hG (x := (some b1)) rfl rfl ?_
  refine kk_ic hG rfl cc_i0 ?_
  refine kk_pi hG (c := 8) (k := 5) (a := b1) rfl rfl rfl rfl (fun s4 => ?_)
  refine kk_aln hG (x := (some b1)) rfl rfl ?_
  refine kks hG rfl rfl ?_
  refine kk_pp hG (c := 8) (k := 6) (a := b1) (v := none) rfl rfl rfl rfl rfl (fun s5 => ?_)
  refine kk_aln hG (x := (some p0)) rfl rfl ?_
  refine kk_aln hG (x := (some b1)) rfl rfl ?_
  refine kk_cv hG 0 rfl rfl (Nat.le_of_ble_eq_true rfl) (by decide) rfl (st' := []) rfl (cats_le (Nat.le_of_ble_eq_true rfl)) (fun _ hw h k => kk_rcv h.1 (kc_Rr_die base sa hw h.2 k)) (fun sr6 cr6 dr6 => ?_)
  exact kk_rv hG rfl rfl k
def C_Ro_becomeOwn_b45 (sa : Nat → Nat) (p0 : Nat) (p1 : Int32) (p2 : Int32) (p3 : Int32) (p4 : Option Nat) (u0 : Int32) (s : cS) (kc ks : Nat) (Q : (Int32 → cS → Nat → Nat → Prop)) : Prop := ob (pI s 8 3 p0 p1) (fun s1 => (ob (pI s1 8 4 p0 p2) (fun s2 => (ob (pI s2 8 5 p0 p3) (fun s3 => (ob (pP s3 8 6 p0 p4) (fun s4 => (ob (gP s4 8 1 p0) (fun v5 => (ob (gP s4 8 0 p0) (fun v6 => (ob v6 (fun b7 => (ob (gI s4 5 0 b7) (fun v8 => (ob (gP s4 8 0 p0) (fun v9 => (ob v9 (fun b10 => (ob (gI s4 5 0 b10) (fun v11 => (C_Pr_bitsOf sa v11 s4 kc ks (fun r12 sr12 cr12 dr12 => (ob v5 (fun b13 => (okO sr12 5 b13 ∧ C_Pr_setZero sa b13 v8 r12 sr12 cr12 dr12 (fun sr14 cr14 dr14 => ((u0 = 0 ∨ u0 = 1) ∧ Q u0 sr14 cr14 dr14))))))))))))))))))))))))))))
def C_Ro_becomeOwn (sa : Nat → Nat) (p0 : Nat) (p1 : Int32) (p2 : Int32) (p3 : Int32) (p4 : Option Nat) (s : cS) (kc ks : Nat) (Q : (Int32 → cS → Nat → Nat → Prop)) : Prop := ob (gI s 8 4 p0) (fun v1 => (if v1 = p2 then (ob (gP s 8 6 p0) (fun v2 => (if v2 = p4 then (ob (gP s 8 1 p0) (fun v3 => (ob v3 (fun b4 => (okO s 5 b4 ∧ C_Pr_isZero sa b4 s kc ks (fun r5 sr5 cr5 dr5 => (if r5 = 0 then ((C_Ro_becomeOwn_b45 sa p0 p1 p2 p3 p4 (1 : Int32) sr5 cr5 dr5 Q)) else (if p1 = (1 : Int32) then (ob (gI sr5 8 5 p0) (fun v6 => (if v6 = p3 then ((C_Ro_becomeOwn_b45 sa p0 p1 p2 p3 p4 (0 : Int32) sr5 cr5 dr5 Q)) else ((C_Ro_becomeOwn_b45 sa p0 p1 p2 p3 p4 (1 : Int32) sr5 cr5 dr5 Q))))) else ((C_Ro_becomeOwn_b45 sa p0 p1 p2 p3 p4 (0 : Int32) sr5 cr5 dr5 Q)))))))))) else ((C_Ro_becomeOwn_b45 sa p0 p1 p2 p3 p4 (1 : Int32) s kc ks Q))))) else ((C_Ro_becomeOwn_b45 sa p0 p1 p2 p3 p4 (1 : Int32) s kc ks Q))))
set_option maxRecDepth 100000 in
set_option maxHeartbeats 4000000 in
theorem kc_Ro_becomeOwn (base : Nat) (sa : Nat → Nat) {R : pmM} {s : cS} {kc ks : Nat} {Rt : pmR} {p0 : Nat} {p1 : Int32} {p2 : Int32} {p3 : Int32} {p4 : Option Nat} {Q : (Int32 → cS → Nat → Nat → Prop)} (hw : cW sa R base s) (h : C_Ro_becomeOwn sa p0 p1 p2 p3 p4 s kc ks Q) (k : ∀ r s' kc' ks', cW sa R base s' → Q r s' kc' ks' → Rt (some (.int r)) (cM R s') kc' ks') : kP_Ro_becomeOwn base sa [.ref p0, .int p1, .int p2, .int p3, va_rf p4] (cM R s) kc ks Rt := by
  refine ⟨by cases p4 <;> exact Nat.le_of_ble_eq_true rfl, fun G hG => ?_⟩
  have eL : lv_args 0 [.ref p0, .int p1, .int p2, .int p3, va_rf p4] = [(0, va_rf (some p0)), (1, .int p1), (2, .int p2), (3, .int p3), (4, va_rf p4)] := by cases p4 <;> rfl
  rw [eL]
  have b45 : ∀ (u0 : Int32) (s : cS) (kc ks : Nat), KK sa R base G 45 [(0, va_rf (some p0)), (1, .int p1), (2, .int p2), (3, .int p3), (4, va_rf p4)] [.int u0] s kc ks (C_Ro_becomeOwn_b45 sa p0 p1 p2 p3 p4 u0 s kc ks Q) := by
    intro u0 s kc ks
    refine kk_st hG (L' := [(5, .int u0), (0, va_rf (some p0)), (1, .int p1), (2, .int p2), (3, .int p3), (4, va_rf p4)]) rfl rfl (Nat.le_of_ble_eq_true rfl) (by cases p4 <;> rfl) ?_
    refine kk_aln hG (x := (some p0)) rfl rfl ?_
    refine kks hG rfl rfl ?_
    refine kk_pi hG (c := 8) (k := 3) (a := p0) rfl rfl rfl rfl (fun s1 => ?_)
    refine kk_aln hG (x := (some p0)) rfl rfl ?_
    refine kks hG rfl rfl ?_
    refine kk_pi hG (c := 8) (k := 4) (a := p0) rfl rfl rfl rfl (fun s2 => ?_)
    refine kk_aln hG (x := (some p0)) rfl rfl ?_
    refine kks hG rfl rfl ?_
    refine kk_pi hG (c := 8) (k := 5) (a := p0) rfl rfl rfl rfl (fun s3 => ?_)
    refine kk_aln hG (x := (some p0)) rfl rfl ?_
    refine kk_al hG (x := p4) rfl rfl ?_
    refine kk_pp hG (c := 8) (k := 6) (a := p0) (v := p4) rfl rfl rfl rfl rfl (fun s4 => ?_)
    refine kk_aln hG (x := (some p0)) rfl rfl ?_
    refine kk_gp hG (c := 8) (k := 1) (a := p0) rfl rfl rfl rfl (fun v5 => ?_)
    refine kk_aln hG (x := (some p0)) rfl rfl ?_
    refine kk_gp hG (c := 8) (k := 0) (a := p0) rfl rfl rfl rfl (fun v6 => ?_)
    refine kk_ob (fun b7 eb7 => ?_)
    subst eb7
    refine kk_gi hG (c := 5) (k := 0) (a := b7) rfl rfl rfl rfl (fun v8 => ?_)
    refine kk_aln hG (x := (some p0)) rfl rfl ?_
    refine kk_gp hG (c := 8) (k := 0) (a := p0) rfl rfl rfl rfl (fun v9 => ?_)
    refine kk_ob (fun b10 eb10 => ?_)
    subst eb10
    refine kk_gi hG (c := 5) (k := 0) (a := b10) rfl rfl rfl rfl (fun v11 => ?_)
    refine kk_cx (w := .int) hG 2 rfl rfl (Nat.le_of_ble_eq_true rfl) (by decide) rfl (st' := [.int v8, va_rf v5]) rfl (cats_le (Nat.le_of_ble_eq_true rfl)) (fun _ hw h k => kc_Pr_bitsOf base sa hw h k) (fun r12 sr12 cr12 dr12 => ?_)
    refine kk_ob (fun b13 eb13 => ?_)
    subst eb13
    refine kk_cv hG 0 rfl rfl (Nat.le_of_ble_eq_true rfl) (by decide) rfl (st' := []) rfl (cats_le (Nat.le_of_ble_eq_true rfl)) (fun _ hw h k => kk_rcv h.1 (kc_Pr_setZero base sa hw h.2 k)) (fun sr14 cr14 dr14 => ?_)
    refine kks hG rfl rfl ?_
    exact kk_rz hG rfl rfl k
  refine (show KK sa R base G 0 [(0, va_rf (some p0)), (1, .int p1), (2, .int p2), (3, .int p3), (4, va_rf p4)] [] s kc ks (C_Ro_becomeOwn sa p0 p1 p2 p3 p4 s kc ks Q) from ?_) hw h
  refine kk_aln hG (x := (some p0)) rfl rfl ?_
  refine kk_gi hG (c := 8) (k := 4) (a := p0) rfl rfl rfl rfl (fun v1 => ?_)
  refine kks hG rfl rfl ?_
  refine kk_ine hG (t := 40) rfl rfl ?_ ?_
  · refine kk_ic hG rfl cc_i1 ?_
    refine kk_go hG (t := 45) rfl rfl ?_
    exact kk_wl hG [0, 1, 2, 3, 4] rfl (b45 _ _ _ _)
  refine kk_aln hG (x := (some p0)) rfl rfl ?_
  refine kk_gp hG (c := 8) (k := 6) (a := p0) rfl rfl rfl rfl (fun v2 => ?_)
  refine kk_al hG (x := p4) rfl rfl ?_
  refine kk_ane hG (x := v2) (y := p4) (t := 40) rfl rfl ?_ ?_
  · refine kk_ic hG rfl cc_i1 ?_
    refine kk_go hG (t := 45) rfl rfl ?_
    exact kk_wl hG [0, 1, 2, 3, 4] rfl (b45 _ _ _ _)
  refine kk_aln hG (x := (some p0)) rfl rfl ?_
  refine kk_gp hG (c := 8) (k := 1) (a := p0) rfl rfl rfl rfl (fun v3 => ?_)
  refine kk_ob (fun b4 eb4 => ?_)
  subst eb4
  refine kk_cx (w := .int) hG 0 rfl rfl (Nat.le_of_ble_eq_true rfl) (by decide) rfl (st' := []) rfl (cats_le (Nat.le_of_ble_eq_true rfl)) (fun _ hw h k => kk_rcv h.1 (kc_Pr_isZero base sa hw h.2 k)) (fun r5 sr5 cr5 dr5 => ?_)
  refine kk_zeq hG (t := 40) rfl rfl ?_ ?_
  · refine kk_ic hG rfl cc_i1 ?_
    refine kk_go hG (t := 45) rfl rfl ?_
    exact kk_wl hG [0, 1, 2, 3, 4] rfl (b45 _ _ _ _)
  refine kks hG rfl rfl ?_
  refine kk_ic hG rfl cc_i1 ?_
  refine kk_ine hG (t := 44) rfl rfl ?_ ?_
  · refine kk_ic hG rfl cc_i0 ?_
    exact kk_wl hG [0, 1, 2, 3, 4] rfl (b45 _ _ _ _)
  refine kk_aln hG (x := (some p0)) rfl rfl ?_
  refine kk_gi hG (c := 8) (k := 5) (a := p0) rfl rfl rfl rfl (fun v6 => ?_)
  refine kks hG rfl rfl ?_
  refine kk_ieq hG (t := 44) rfl rfl ?_ ?_
  · refine kk_ic hG rfl cc_i0 ?_
    exact kk_wl hG [0, 1, 2, 3, 4] rfl (b45 _ _ _ _)
  refine kk_ic hG rfl cc_i1 ?_
  refine kk_go hG (t := 45) rfl rfl ?_
  exact kk_wl hG [0, 1, 2, 3, 4] rfl (b45 _ _ _ _)
def C_Rr_settle_b119 (sa : Nat → Nat) (p0 : Nat) (a4 : Option Nat) (a5 : Int32) (s : cS) (kc ks : Nat) (Q : (cS → Nat → Nat → Prop)) : Prop := if a5 = 0 then (Q s kc ks) else (okO s 9 p0 ∧ C_Rr_markChanged sa p0 a4 s kc ks (fun sr1 cr1 dr1 => (Q sr1 cr1 dr1)))
def C_Rr_settle_b74 (sa : Nat → Nat) (p0 : Nat) (a2 : Option Nat) (a3 : Option Nat) (a4 : Option Nat) (s : cS) (kc ks : Nat) (Q : (cS → Nat → Nat → Prop)) : Prop := if a2 = none then (if a3 = none then ((C_Rr_settle_b119 sa p0 a4 (0 : Int32) s kc ks Q)) else (ob a3 (fun b1 => (ob (gI s 8 4 b1) (fun v2 => (ob (gI s 8 5 b1) (fun v3 => (ob a4 (fun b4 => (okO s 8 b4 ∧ C_Ro_becomeOwn sa b4 (1 : Int32) v2 v3 none s kc ks (fun r5 sr5 cr5 dr5 => ((C_Rr_settle_b119 sa p0 (some b4) r5 sr5 cr5 dr5 Q))))))))))))) else (ob a2 (fun b6 => (ob (gI s 4 3 b6) (fun v7 => (ob a4 (fun b8 => (okO s 8 b8 ∧ C_Ro_becomeOwn sa b8 (0 : Int32) v7 (0 : Int32) (some b6) s kc ks (fun r9 sr9 cr9 dr9 => ((C_Rr_settle_b119 sa p0 (some b8) r9 sr9 cr9 dr9 Q))))))))))
def C_Rr_settle_b56 (sa : Nat → Nat) (p0 : Nat) (p1 : Option Nat) (a2 : Option Nat) (a3 : Option Nat) (a4 : Option Nat) (s : cS) (kc ks : Nat) (Q : (cS → Nat → Nat → Prop)) : Prop := if a4 = none then (ob (gP s 9 6 p0) (fun v1 => (ob v1 (fun b2 => (okO s 10 b2 ∧ C_Ta_add sa b2 p1 (0 : Int32) (16 : Int32) s kc ks (fun r3 sr3 cr3 dr3 => ((C_Rr_settle_b74 sa p0 a2 a3 r3 sr3 cr3 dr3 Q)))))))) else ((C_Rr_settle_b74 sa p0 a2 a3 a4 s kc ks Q))
def C_Rr_settle_b30 (sa : Nat → Nat) (p0 : Nat) (p1 : Option Nat) (a2 : Option Nat) (u0 : Option Nat) (s : cS) (kc ks : Nat) (Q : (cS → Nat → Nat → Prop)) : Prop := ob (gP s 9 6 p0) (fun v1 => (ob v1 (fun b2 => (okO s 10 b2 ∧ C_Ta_find sa b2 p1 s kc ks (fun r3 sr3 cr3 dr3 => (if a2 = none then (if u0 = none then (okO sr3 9 p0 ∧ C_Rr_lapse sa p0 r3 sr3 cr3 dr3 (fun sr4 cr4 dr4 => (Q sr4 cr4 dr4))) else ((C_Rr_settle_b56 sa p0 p1 a2 u0 r3 sr3 cr3 dr3 Q))) else ((C_Rr_settle_b56 sa p0 p1 a2 u0 r3 sr3 cr3 dr3 Q))))))))
def C_Rr_settle (sa : Nat → Nat) (p0 : Nat) (p1 : Option Nat) (s : cS) (kc ks : Nat) (Q : (cS → Nat → Nat → Prop)) : Prop := ob (gI s 9 3 p0) (fun v1 => (if v1 = 0 then (Q s kc ks) else (okO s 9 p0 ∧ C_Rr_portOf sa p0 p1 s kc ks (fun r2 sr2 cr2 dr2 => (if r2 = none then (ob (gP sr2 9 7 p0) (fun v3 => (ob v3 (fun b4 => (okO sr2 10 b4 ∧ C_Ta_find sa b4 p1 sr2 cr2 dr2 (fun r5 sr5 cr5 dr5 => ((C_Rr_settle_b30 sa p0 p1 r2 r5 sr5 cr5 dr5 Q)))))))) else ((C_Rr_settle_b30 sa p0 p1 r2 none sr2 cr2 dr2 Q)))))))
set_option maxRecDepth 100000 in
set_option maxHeartbeats 4000000 in
theorem kc_Rr_settle (base : Nat) (sa : Nat → Nat) {R : pmM} {s : cS} {kc ks : Nat} {Rt : pmR} {p0 : Nat} {p1 : Option Nat} {Q : (cS → Nat → Nat → Prop)} (hw : cW sa R base s) (h : C_Rr_settle sa p0 p1 s kc ks Q) (k : ∀ s' kc' ks', cW sa R base s' → Q s' kc' ks' → Rt none (cM R s') kc' ks') : kP_Rr_settle base sa [.ref p0, va_rf p1] (cM R s) kc ks Rt := by
  refine ⟨by cases p1 <;> exact Nat.le_of_ble_eq_true rfl, fun G hG => ?_⟩
  have eL : lv_args 0 [.ref p0, va_rf p1] = [(0, va_rf (some p0)), (1, va_rf p1)] := by cases p1 <;> rfl
  rw [eL]
  have b119 : ∀ (a4 : Option Nat) (a5 : Int32) (s : cS) (kc ks : Nat), KK sa R base G 119 [(0, va_rf (some p0)), (4, va_rf a4), (5, .int a5)] [] s kc ks (C_Rr_settle_b119 sa p0 a4 a5 s kc ks Q) := by
    intro a4 a5 s kc ks
    refine kks hG rfl rfl ?_
    refine kk_zeq hG (t := 130) rfl rfl ?_ ?_
    · exact kk_rv hG rfl rfl k
    refine kk_aln hG (x := (some p0)) rfl rfl ?_
    refine kk_al hG (x := a4) rfl rfl ?_
    refine kk_cv hG 0 rfl rfl (Nat.le_of_ble_eq_true rfl) (by decide) rfl (st' := []) rfl (cats_le (Nat.le_of_ble_eq_true rfl)) (fun _ hw h k => kk_rcv h.1 (kc_Rr_markChanged base sa hw h.2 k)) (fun sr1 cr1 dr1 => ?_)
    exact kk_rv hG rfl rfl k
  have b74 : ∀ (a2 : Option Nat) (a3 : Option Nat) (a4 : Option Nat) (s : cS) (kc ks : Nat), KK sa R base G 74 [(0, va_rf (some p0)), (2, va_rf a2), (3, va_rf a3), (4, va_rf a4)] [] s kc ks (C_Rr_settle_b74 sa p0 a2 a3 a4 s kc ks Q) := by
    intro a2 a3 a4 s kc ks
    refine kk_ic hG rfl cc_i0 ?_
    refine kk_st hG (L' := [(5, .int (0 : Int32)), (0, va_rf (some p0)), (2, va_rf a2), (3, va_rf a3), (4, va_rf a4)]) rfl rfl (Nat.le_of_ble_eq_true rfl) (by cases a4 <;> rfl) ?_
    refine kk_aln hG (x := a2) rfl rfl ?_
    refine kk_nul hG (x := a2) (t := 98) rfl rfl ?_ ?_
    · refine kk_aln hG (x := a3) rfl rfl ?_
      refine kk_nul hG (x := a3) (t := 119) rfl rfl ?_ ?_
      · exact kk_wl hG [1, 4, 0] rfl (b119 _ _ _ _ _)
      refine kk_al hG (x := a4) rfl rfl ?_
      refine kk_ic hG rfl cc_i1 ?_
      refine kk_aln hG (x := a3) rfl rfl ?_
      refine kk_ob (fun b1 eb1 => ?_)
      subst eb1
      refine kk_gi hG (c := 8) (k := 4) (a := b1) rfl rfl rfl rfl (fun v2 => ?_)
      refine kk_aln hG (x := (some b1)) rfl rfl ?_
      refine kk_gi hG (c := 8) (k := 5) (a := b1) rfl rfl rfl rfl (fun v3 => ?_)
      refine kks hG rfl rfl ?_
      refine kk_ob (fun b4 eb4 => ?_)
      subst eb4
      refine kk_cx (w := .int) hG 0 rfl rfl (Nat.le_of_ble_eq_true rfl) (by decide) rfl (st' := []) rfl (cats_le (Nat.le_of_ble_eq_true rfl)) (fun _ hw h k => kk_rcv h.1 (kc_Ro_becomeOwn base sa hw h.2 k)) (fun r5 sr5 cr5 dr5 => ?_)
      refine kk_st hG (L' := [(5, .int r5), (0, va_rf (some p0)), (2, va_rf a2), (3, va_rf (some b1)), (4, va_rf (some b4))]) rfl rfl (Nat.le_of_ble_eq_true rfl) rfl ?_
      exact kk_wl hG [1, 4, 0] rfl (b119 _ _ _ _ _)
    refine kk_al hG (x := a4) rfl rfl ?_
    refine kk_ic hG rfl cc_i0 ?_
    refine kk_aln hG (x := a2) rfl rfl ?_
    refine kk_ob (fun b6 eb6 => ?_)
    subst eb6
    refine kk_gi hG (c := 4) (k := 3) (a := b6) rfl rfl rfl rfl (fun v7 => ?_)
    refine kk_ic hG rfl cc_i0 ?_
    refine kk_aln hG (x := (some b6)) rfl rfl ?_
    refine kk_ob (fun b8 eb8 => ?_)
    subst eb8
    refine kk_cx (w := .int) hG 0 rfl rfl (Nat.le_of_ble_eq_true rfl) (by decide) rfl (st' := []) rfl (cats_le (Nat.le_of_ble_eq_true rfl)) (fun _ hw h k => kk_rcv h.1 (kc_Ro_becomeOwn base sa hw h.2 k)) (fun r9 sr9 cr9 dr9 => ?_)
    refine kk_st hG (L' := [(5, .int r9), (0, va_rf (some p0)), (2, va_rf (some b6)), (3, va_rf a3), (4, va_rf (some b8))]) rfl rfl (Nat.le_of_ble_eq_true rfl) rfl ?_
    refine kk_go hG (t := 119) rfl rfl ?_
    exact kk_wl hG [1, 4, 0] rfl (b119 _ _ _ _ _)
  have b56 : ∀ (a2 : Option Nat) (a3 : Option Nat) (a4 : Option Nat) (s : cS) (kc ks : Nat), KK sa R base G 56 [(0, va_rf (some p0)), (1, va_rf p1), (2, va_rf a2), (3, va_rf a3), (4, va_rf a4)] [] s kc ks (C_Rr_settle_b56 sa p0 p1 a2 a3 a4 s kc ks Q) := by
    intro a2 a3 a4 s kc ks
    refine kk_al hG (x := a4) rfl rfl ?_
    refine kk_nnl hG (x := a4) (t := 74) rfl rfl ?_ ?_
    · exact kk_wl hG [0, 2, 3, 4] rfl (b74 _ _ _ _ _ _)
    refine kk_aln hG (x := (some p0)) rfl rfl ?_
    refine kk_gp hG (c := 9) (k := 6) (a := p0) rfl rfl rfl rfl (fun v1 => ?_)
    refine kk_aln hG (x := p1) rfl rfl ?_
    refine kk_ic hG rfl cc_i0 ?_
    refine kk_bi hG rfl cc_b16 ?_
    refine kk_ob (fun b2 eb2 => ?_)
    subst eb2
    refine kk_cx (w := va_rf) hG 0 rfl rfl (Nat.le_of_ble_eq_true rfl) (by decide) rfl (st' := []) rfl (cats_le (Nat.le_of_ble_eq_true rfl)) (fun _ hw h k => kk_rcv h.1 (kc_Ta_add base sa hw h.2 k)) (fun r3 sr3 cr3 dr3 => ?_)
    refine kk_as hG (x := r3) (L' := [(4, va_rf r3), (0, va_rf (some p0)), (1, va_rf p1), (2, va_rf a2), (3, va_rf a3)]) rfl (Nat.le_of_ble_eq_true rfl) (by cases a3 <;> rfl) ?_
    exact kk_wl hG [1, 3, 4, 0] rfl (b74 _ _ _ _ _ _)
  have b30 : ∀ (a2 : Option Nat) (u0 : Option Nat) (s : cS) (kc ks : Nat), KK sa R base G 30 [(0, va_rf (some p0)), (1, va_rf p1), (2, va_rf a2)] [va_rf u0] s kc ks (C_Rr_settle_b30 sa p0 p1 a2 u0 s kc ks Q) := by
    intro a2 u0 s kc ks
    refine kk_asn hG (x := u0) (L' := [(3, va_rf u0), (0, va_rf (some p0)), (1, va_rf p1), (2, va_rf a2)]) rfl (Nat.le_of_ble_eq_true rfl) (by cases a2 <;> rfl) ?_
    refine kk_aln hG (x := (some p0)) rfl rfl ?_
    refine kk_gp hG (c := 9) (k := 6) (a := p0) rfl rfl rfl rfl (fun v1 => ?_)
    refine kk_aln hG (x := p1) rfl rfl ?_
    refine kk_ob (fun b2 eb2 => ?_)
    subst eb2
    refine kk_cx (w := va_rf) hG 0 rfl rfl (Nat.le_of_ble_eq_true rfl) (by decide) rfl (st' := []) rfl (cats_le (Nat.le_of_ble_eq_true rfl)) (fun _ hw h k => kk_rcv h.1 (kc_Ta_find base sa hw h.2 k)) (fun r3 sr3 cr3 dr3 => ?_)
    refine kk_as hG (x := r3) (L' := [(4, va_rf r3), (3, va_rf u0), (0, va_rf (some p0)), (1, va_rf p1), (2, va_rf a2)]) rfl (Nat.le_of_ble_eq_true rfl) (by cases u0 <;> rfl) ?_
    refine kk_aln hG (x := a2) rfl rfl ?_
    refine kk_nnl hG (x := a2) (t := 56) rfl rfl ?_ ?_
    · exact kk_wl hG [2, 3, 4, 1, 0] rfl (b56 _ _ _ _ _ _)
    refine kk_aln hG (x := u0) rfl rfl ?_
    refine kk_nnl hG (x := u0) (t := 56) rfl rfl ?_ ?_
    · exact kk_wl hG [2, 3, 4, 1, 0] rfl (b56 _ _ _ _ _ _)
    refine kk_aln hG (x := (some p0)) rfl rfl ?_
    refine kk_al hG (x := r3) rfl rfl ?_
    refine kk_cv hG 0 rfl rfl (Nat.le_of_ble_eq_true rfl) (by decide) rfl (st' := []) rfl (cats_le (Nat.le_of_ble_eq_true rfl)) (fun _ hw h k => kk_rcv h.1 (kc_Rr_lapse base sa hw h.2 k)) (fun sr4 cr4 dr4 => ?_)
    exact kk_rv hG rfl rfl k
  refine (show KK sa R base G 0 [(0, va_rf (some p0)), (1, va_rf p1)] [] s kc ks (C_Rr_settle sa p0 p1 s kc ks Q) from ?_) hw h
  refine kk_aln hG (x := (some p0)) rfl rfl ?_
  refine kk_gi hG (c := 9) (k := 3) (a := p0) rfl rfl rfl rfl (fun v1 => ?_)
  refine kk_zne hG (t := 8) rfl rfl ?_ ?_
  · refine kk_aln hG (x := (some p0)) rfl rfl ?_
    refine kk_aln hG (x := p1) rfl rfl ?_
    refine kk_cx (w := va_rf) hG 0 rfl rfl (Nat.le_of_ble_eq_true rfl) (by decide) rfl (st' := []) rfl (cats_le (Nat.le_of_ble_eq_true rfl)) (fun _ hw h k => kk_rcv h.1 (kc_Rr_portOf base sa hw h.2 k)) (fun r2 sr2 cr2 dr2 => ?_)
    refine kk_asn hG (x := r2) (L' := [(2, va_rf r2), (0, va_rf (some p0)), (1, va_rf p1)]) rfl (Nat.le_of_ble_eq_true rfl) (by cases p1 <;> rfl) ?_
    refine kk_aln hG (x := r2) rfl rfl ?_
    refine kk_nnl hG (x := r2) (t := 29) rfl rfl ?_ ?_
    · refine kks hG rfl rfl ?_
      exact kk_wl hG [1, 2, 0] rfl (b30 _ _ _ _ _)
    refine kk_aln hG (x := (some p0)) rfl rfl ?_
    refine kk_gp hG (c := 9) (k := 7) (a := p0) rfl rfl rfl rfl (fun v3 => ?_)
    refine kk_aln hG (x := p1) rfl rfl ?_
    refine kk_ob (fun b4 eb4 => ?_)
    subst eb4
    refine kk_cx (w := va_rf) hG 0 rfl rfl (Nat.le_of_ble_eq_true rfl) (by decide) rfl (st' := []) rfl (cats_le (Nat.le_of_ble_eq_true rfl)) (fun _ hw h k => kk_rcv h.1 (kc_Ta_find base sa hw h.2 k)) (fun r5 sr5 cr5 dr5 => ?_)
    refine kk_go hG (t := 30) rfl rfl ?_
    exact kk_wl hG [1, 2, 0] rfl (b30 _ _ _ _ _)
  exact kk_rv hG rfl rfl k
def C_Rr_settlePort_b50 (sa : Nat → Nat) (p0 : Nat) (p1 : Option Nat) (a2 : Int32) (s : cS) (kc ks : Nat) (Q : (cS → Nat → Nat → Prop)) (P2 : (Int32 → cS → Nat → Nat → Prop)) : Prop := (P2 (a2 + (2 : Int32)) s kc ks)
def C_Rr_settlePort_s2 (sa : Nat → Nat) (p0 : Nat) (p1 : Option Nat) (a2 : Int32) (s : cS) (kc ks : Nat) (Q : (cS → Nat → Nat → Prop)) (P2 : (Int32 → cS → Nat → Nat → Prop)) : Prop := if (6 : Int32) < a2 then ((Q s kc ks)) else (ob p1 (fun b1 => (okO s 4 b1 ∧ C_Po_addressOf sa b1 a2 s kc ks (fun r2 sr2 cr2 dr2 => (if r2 = none then ((C_Rr_settlePort_b50 sa p0 (some b1) a2 sr2 cr2 dr2 Q P2)) else (ob (gP sr2 9 0 p0) (fun v3 => (ob v3 (fun b4 => (ob (gP sr2 11 18 b4) (fun v5 => (ob v5 (fun b6 => (okO sr2 5 b6 ∧ C_Pr_copy sa b6 r2 sr2 cr2 dr2 (fun sr7 cr7 dr7 => (ob (gP sr7 9 0 p0) (fun v8 => (ob v8 (fun b9 => (ob (gP sr7 11 18 b9) (fun v10 => (ob v10 (fun b11 => (okO sr7 5 b11 ∧ C_Pr_dropBitsBehind sa b11 sr7 cr7 dr7 (fun sr12 cr12 dr12 => (ob (gP sr12 9 0 p0) (fun v13 => (ob v13 (fun b14 => (ob (gP sr12 11 18 b14) (fun v15 => (okO sr12 9 p0 ∧ C_Rr_settle sa p0 v15 sr12 cr12 dr12 (fun sr16 cr16 dr16 => ((C_Rr_settlePort_b50 sa p0 (some b1) a2 sr16 cr16 dr16 Q P2)))))))))))))))))))))))))))))))))))
def C_Rr_settlePort_b2 (sa : Nat → Nat) (p0 : Nat) (p1 : Option Nat) (a2 : Int32) (s : cS) (kc ks : Nat) (Q : (cS → Nat → Nat → Prop)) : Prop := ∀ P2 : (Int32 → cS → Nat → Nat → Prop), (∀ (a2 : Int32) (s : cS) (kc ks : Nat), C_Rr_settlePort_s2 sa p0 p1 a2 s kc ks Q P2 → P2 a2 s kc ks) → P2 a2 s kc ks
def C_Rr_settlePort (sa : Nat → Nat) (p0 : Nat) (p1 : Option Nat) (s : cS) (kc ks : Nat) (Q : (cS → Nat → Nat → Prop)) : Prop := (C_Rr_settlePort_b2 sa p0 p1 (4 : Int32) s kc ks Q)
set_option maxRecDepth 100000 in
set_option maxHeartbeats 4000000 in
theorem kc_Rr_settlePort (base : Nat) (sa : Nat → Nat) {R : pmM} {s : cS} {kc ks : Nat} {Rt : pmR} {p0 : Nat} {p1 : Option Nat} {Q : (cS → Nat → Nat → Prop)} (hw : cW sa R base s) (h : C_Rr_settlePort sa p0 p1 s kc ks Q) (k : ∀ s' kc' ks', cW sa R base s' → Q s' kc' ks' → Rt none (cM R s') kc' ks') : kP_Rr_settlePort base sa [.ref p0, va_rf p1] (cM R s) kc ks Rt := by
  refine ⟨by cases p1 <;> exact Nat.le_of_ble_eq_true rfl, fun G hG => ?_⟩
  have eL : lv_args 0 [.ref p0, va_rf p1] = [(0, va_rf (some p0)), (1, va_rf p1)] := by cases p1 <;> rfl
  rw [eL]
  have b2 : ∀ (a2 : Int32) (s : cS) (kc ks : Nat), KK sa R base G 2 [(0, va_rf (some p0)), (1, va_rf p1), (2, .int a2)] [] s kc ks (C_Rr_settlePort_b2 sa p0 p1 a2 s kc ks Q) := by
    have H : ∀ (P2 : (Int32 → cS → Nat → Nat → Prop)) (hP2 : ∀ (a2 : Int32) (s : cS) (kc ks : Nat), P2 a2 s kc ks → cW sa R base s → G 2 [(0, va_rf (some p0)), (1, va_rf p1), (2, .int a2)] [] (cM R s) kc ks) (a2 : Int32) (s : cS) (kc ks : Nat), KK sa R base G 2 [(0, va_rf (some p0)), (1, va_rf p1), (2, .int a2)] [] s kc ks (C_Rr_settlePort_s2 sa p0 p1 a2 s kc ks Q P2) := by
      intro P2 hP2
      have b50 : ∀ (a2 : Int32) (s : cS) (kc ks : Nat), KK sa R base G 50 [(0, va_rf (some p0)), (1, va_rf p1), (2, .int a2)] [] s kc ks (C_Rr_settlePort_b50 sa p0 p1 a2 s kc ks Q P2) := by
        intro a2 s kc ks
        refine kk_inc hG (L' := [(2, .int (a2 + (2 : Int32))), (0, va_rf (some p0)), (1, va_rf p1)]) rfl (Nat.le_of_ble_eq_true rfl) rfl cc_i2 (by cases p1 <;> rfl) ?_
        refine kk_go hG (t := 2) rfl rfl ?_
        exact kk_wl hG [1, 2, 0] rfl (fun hw h => hP2 _ _ _ _ h hw)
      intro a2 s kc ks
      refine kks hG rfl rfl ?_
      refine kk_bi hG rfl cc_b6 ?_
      refine kk_igt hG (t := 56) rfl rfl ?_ ?_
      · exact kk_rv hG rfl rfl k
      refine kk_aln hG (x := p1) rfl rfl ?_
      refine kks hG rfl rfl ?_
      refine kk_ob (fun b1 eb1 => ?_)
      subst eb1
      refine kk_cx (w := va_rf) hG 0 rfl rfl (Nat.le_of_ble_eq_true rfl) (by decide) rfl (st' := []) rfl (cats_le (Nat.le_of_ble_eq_true rfl)) (fun _ hw h k => kk_rcv h.1 (kc_Po_addressOf base sa hw h.2 k)) (fun r2 sr2 cr2 dr2 => ?_)
      refine kk_asn hG (x := r2) (L' := [(3, va_rf r2), (0, va_rf (some p0)), (1, va_rf (some b1)), (2, .int a2)]) rfl (Nat.le_of_ble_eq_true rfl) rfl ?_
      refine kk_aln hG (x := r2) rfl rfl ?_
      refine kk_nul hG (x := r2) (t := 50) rfl rfl ?_ ?_
      · exact kk_wl hG [1, 2, 3] rfl (b50 _ _ _ _)
      refine kk_aln hG (x := (some p0)) rfl rfl ?_
      refine kk_gp hG (c := 9) (k := 0) (a := p0) rfl rfl rfl rfl (fun v3 => ?_)
      refine kk_ob (fun b4 eb4 => ?_)
      subst eb4
      refine kk_gp hG (c := 11) (k := 18) (a := b4) rfl rfl rfl rfl (fun v5 => ?_)
      refine kk_aln hG (x := r2) rfl rfl ?_
      refine kk_ob (fun b6 eb6 => ?_)
      subst eb6
      refine kk_cv hG 0 rfl rfl (Nat.le_of_ble_eq_true rfl) (by decide) rfl (st' := []) rfl (cats_le (Nat.le_of_ble_eq_true rfl)) (fun _ hw h k => kk_rcv h.1 (kc_Pr_copy base sa hw h.2 k)) (fun sr7 cr7 dr7 => ?_)
      refine kk_aln hG (x := (some p0)) rfl rfl ?_
      refine kk_gp hG (c := 9) (k := 0) (a := p0) rfl rfl rfl rfl (fun v8 => ?_)
      refine kk_ob (fun b9 eb9 => ?_)
      subst eb9
      refine kk_gp hG (c := 11) (k := 18) (a := b9) rfl rfl rfl rfl (fun v10 => ?_)
      refine kk_ob (fun b11 eb11 => ?_)
      subst eb11
      refine kk_cv hG 0 rfl rfl (Nat.le_of_ble_eq_true rfl) (by decide) rfl (st' := []) rfl (cats_le (Nat.le_of_ble_eq_true rfl)) (fun _ hw h k => kk_rcv h.1 (kc_Pr_dropBitsBehind base sa hw h.2 k)) (fun sr12 cr12 dr12 => ?_)
      refine kk_aln hG (x := (some p0)) rfl rfl ?_
      refine kk_aln hG (x := (some p0)) rfl rfl ?_
      refine kk_gp hG (c := 9) (k := 0) (a := p0) rfl rfl rfl rfl (fun v13 => ?_)
      refine kk_ob (fun b14 eb14 => ?_)
      subst eb14
      refine kk_gp hG (c := 11) (k := 18) (a := b14) rfl rfl rfl rfl (fun v15 => ?_)
      refine kk_cv hG 0 rfl rfl (Nat.le_of_ble_eq_true rfl) (by decide) rfl (st' := []) rfl (cats_le (Nat.le_of_ble_eq_true rfl)) (fun _ hw h k => kk_rcv h.1 (kc_Rr_settle base sa hw h.2 k)) (fun sr16 cr16 dr16 => ?_)
      exact kk_wl hG [1, 2, 3] rfl (b50 _ _ _ _)
    exact fun a2 s kc ks hw h => h (fun a2 s kc ks => cW sa R base s → G 2 [(0, va_rf (some p0)), (1, va_rf p1), (2, .int a2)] [] (cM R s) kc ks) (fun a2 s kc ks hs hw => H _ (fun _ _ _ _ hp hw => hp hw) a2 s kc ks hw hs) hw
  refine (show KK sa R base G 0 [(0, va_rf (some p0)), (1, va_rf p1)] [] s kc ks (C_Rr_settlePort sa p0 p1 s kc ks Q) from ?_) hw h
  refine kk_ic hG rfl cc_i4 ?_
  refine kk_st hG (L' := [(2, .int (4 : Int32)), (0, va_rf (some p0)), (1, va_rf p1)]) rfl rfl (Nat.le_of_ble_eq_true rfl) (by cases p1 <;> rfl) ?_
  exact kk_wl hG [1, 2, 0] rfl (b2 _ _ _ _)
def C_Rr_ask_b68 (sa : Nat → Nat) (p0 : Nat) (p1 : Option Nat) (s : cS) (kc ks : Nat) (Q : (cS → Nat → Nat → Prop)) : Prop := okO s 9 p0 ∧ C_Rr_sendDraft sa p0 p1 none s kc ks (fun sr1 cr1 dr1 => (Q sr1 cr1 dr1))
def C_Rr_ask (sa : Nat → Nat) (p0 : Nat) (p1 : Option Nat) (p2 : Int32) (s : cS) (kc ks : Nat) (Q : (cS → Nat → Nat → Prop)) : Prop := okO s 9 p0 ∧ C_Rr_openDraft sa p0 p1 p2 (1 : Int32) s kc ks (fun r1 sr1 cr1 dr1 => (if r1 = ((-2) : Int32) then (Q sr1 cr1 dr1) else (ob (gP sr1 9 0 p0) (fun v2 => (ob v2 (fun b3 => (ob (gP sr1 11 16 b3) (fun v4 => (ob v4 (fun b5 => (ob (gP sr1 2 0 b5) (fun v6 => (ob v6 (fun b7 => (okO sr1 0 b7 ∧ C_By_addZeros sa b7 (19 : Int32) sr1 cr1 dr1 (fun sr8 cr8 dr8 => (ob (gP sr8 9 0 p0) (fun v9 => (ob v9 (fun b10 => (ob (gP sr8 11 16 b10) (fun v11 => (ob v11 (fun b12 => (ob (gP sr8 2 0 b12) (fun v13 => (ob v13 (fun b14 => (okO sr8 0 b14 ∧ C_By_add sa b14 (16 : Int32) sr8 cr8 dr8 (fun sr15 cr15 dr15 => (if r1 = ((-1) : Int32) then ((C_Rr_ask_b68 sa p0 p1 sr15 cr15 dr15 Q)) else (ob p1 (fun b16 => (ob (gP sr15 4 6 b16) (fun v17 => (ob (gP sr15 9 0 p0) (fun v18 => (ob v18 (fun b19 => (ob (gP sr15 11 16 b19) (fun v20 => (ob v20 (fun b21 => (ob (gP sr15 2 0 b21) (fun v22 => (ob v17 (fun b23 => (okO sr15 1 b23 ∧ C_Ch_seal sa b23 v22 r1 sr15 cr15 dr15 (fun sr24 cr24 dr24 => ((C_Rr_ask_b68 sa p0 (some b16) sr24 cr24 dr24 Q)))))))))))))))))))))))))))))))))))))))))))))))))))
set_option maxRecDepth 100000 in
set_option maxHeartbeats 4000000 in
theorem kc_Rr_ask (base : Nat) (sa : Nat → Nat) {R : pmM} {s : cS} {kc ks : Nat} {Rt : pmR} {p0 : Nat} {p1 : Option Nat} {p2 : Int32} {Q : (cS → Nat → Nat → Prop)} (hw : cW sa R base s) (h : C_Rr_ask sa p0 p1 p2 s kc ks Q) (k : ∀ s' kc' ks', cW sa R base s' → Q s' kc' ks' → Rt none (cM R s') kc' ks') : kP_Rr_ask base sa [.ref p0, va_rf p1, .int p2] (cM R s) kc ks Rt := by
  refine ⟨by cases p1 <;> exact Nat.le_of_ble_eq_true rfl, fun G hG => ?_⟩
  have eL : lv_args 0 [.ref p0, va_rf p1, .int p2] = [(0, va_rf (some p0)), (1, va_rf p1), (2, .int p2)] := by cases p1 <;> rfl
  rw [eL]
  have b68 : ∀ (s : cS) (kc ks : Nat), KK sa R base G 68 [(0, va_rf (some p0)), (1, va_rf p1)] [] s kc ks (C_Rr_ask_b68 sa p0 p1 s kc ks Q) := by
    intro s kc ks
    refine kk_aln hG (x := (some p0)) rfl rfl ?_
    refine kk_aln hG (x := p1) rfl rfl ?_
    refine kks hG rfl rfl ?_
    refine kk_cv hG 0 rfl rfl (Nat.le_of_ble_eq_true rfl) (by decide) rfl (st' := []) rfl (cats_le (Nat.le_of_ble_eq_true rfl)) (fun _ hw h k => kk_rcv h.1 (kc_Rr_sendDraft base sa hw h.2 k)) (fun sr1 cr1 dr1 => ?_)
    exact kk_rv hG rfl rfl k
  refine (show KK sa R base G 0 [(0, va_rf (some p0)), (1, va_rf p1), (2, .int p2)] [] s kc ks (C_Rr_ask sa p0 p1 p2 s kc ks Q) from ?_) hw h
  refine kk_aln hG (x := (some p0)) rfl rfl ?_
  refine kk_aln hG (x := p1) rfl rfl ?_
  refine kks hG rfl rfl ?_
  refine kk_ic hG rfl cc_i1 ?_
  refine kk_cx (w := .int) hG 0 rfl rfl (Nat.le_of_ble_eq_true rfl) (by decide) rfl (st' := []) rfl (cats_le (Nat.le_of_ble_eq_true rfl)) (fun _ hw h k => kk_rcv h.1 (kc_Rr_openDraft base sa hw h.2 k)) (fun r1 sr1 cr1 dr1 => ?_)
  refine kk_st hG (L' := [(3, .int r1), (0, va_rf (some p0)), (1, va_rf p1), (2, .int p2)]) rfl rfl (Nat.le_of_ble_eq_true rfl) rfl ?_
  refine kks hG rfl rfl ?_
  refine kk_bi hG rfl cc_bm2 ?_
  refine kk_ine hG (t := 15) rfl rfl ?_ ?_
  · refine kk_aln hG (x := (some p0)) rfl rfl ?_
    refine kk_gp hG (c := 9) (k := 0) (a := p0) rfl rfl rfl rfl (fun v2 => ?_)
    refine kk_ob (fun b3 eb3 => ?_)
    subst eb3
    refine kk_gp hG (c := 11) (k := 16) (a := b3) rfl rfl rfl rfl (fun v4 => ?_)
    refine kk_ob (fun b5 eb5 => ?_)
    subst eb5
    refine kk_gp hG (c := 2) (k := 0) (a := b5) rfl rfl rfl rfl (fun v6 => ?_)
    refine kk_bi hG rfl cc_b19 ?_
    refine kk_ob (fun b7 eb7 => ?_)
    subst eb7
    refine kk_cv hG 0 rfl rfl (Nat.le_of_ble_eq_true rfl) (by decide) rfl (st' := []) rfl (cats_le (Nat.le_of_ble_eq_true rfl)) (fun _ hw h k => kk_rcv h.1 (kc_By_addZeros base sa hw h.2 k)) (fun sr8 cr8 dr8 => ?_)
    refine kk_aln hG (x := (some p0)) rfl rfl ?_
    refine kk_gp hG (c := 9) (k := 0) (a := p0) rfl rfl rfl rfl (fun v9 => ?_)
    refine kk_ob (fun b10 eb10 => ?_)
    subst eb10
    refine kk_gp hG (c := 11) (k := 16) (a := b10) rfl rfl rfl rfl (fun v11 => ?_)
    refine kk_ob (fun b12 eb12 => ?_)
    subst eb12
    refine kk_gp hG (c := 2) (k := 0) (a := b12) rfl rfl rfl rfl (fun v13 => ?_)
    refine kk_bi hG rfl cc_b16 ?_
    refine kk_ob (fun b14 eb14 => ?_)
    subst eb14
    refine kk_cv hG 0 rfl rfl (Nat.le_of_ble_eq_true rfl) (by decide) rfl (st' := []) rfl (cats_le (Nat.le_of_ble_eq_true rfl)) (fun _ hw h k => kk_rcv h.1 (kc_By_add base sa hw h.2 k)) (fun sr15 cr15 dr15 => ?_)
    refine kks hG rfl rfl ?_
    refine kk_ic hG rfl cc_im1 ?_
    refine kk_ieq hG (t := 68) rfl rfl ?_ ?_
    · exact kk_wl hG [1, 2] rfl (b68 _ _ _)
    refine kk_aln hG (x := p1) rfl rfl ?_
    refine kk_ob (fun b16 eb16 => ?_)
    subst eb16
    refine kk_gp hG (c := 4) (k := 6) (a := b16) rfl rfl rfl rfl (fun v17 => ?_)
    refine kk_aln hG (x := (some p0)) rfl rfl ?_
    refine kk_gp hG (c := 9) (k := 0) (a := p0) rfl rfl rfl rfl (fun v18 => ?_)
    refine kk_ob (fun b19 eb19 => ?_)
    subst eb19
    refine kk_gp hG (c := 11) (k := 16) (a := b19) rfl rfl rfl rfl (fun v20 => ?_)
    refine kk_ob (fun b21 eb21 => ?_)
    subst eb21
    refine kk_gp hG (c := 2) (k := 0) (a := b21) rfl rfl rfl rfl (fun v22 => ?_)
    refine kks hG rfl rfl ?_
    refine kk_ob (fun b23 eb23 => ?_)
    subst eb23
    refine kk_cv hG 0 rfl rfl (Nat.le_of_ble_eq_true rfl) (by decide) rfl (st' := []) rfl (cats_le (Nat.le_of_ble_eq_true rfl)) (fun _ hw h k => kk_rcv h.1 (kc_Ch_seal base sa hw h.2 k)) (fun sr24 cr24 dr24 => ?_)
    exact kk_wl hG [1, 2] rfl (b68 _ _ _)
  exact kk_rv hG rfl rfl k
def C_Rf_raise_b35 (sa : Nat → Nat) (p0 : Nat) (p1 : Option Nat) (a2 : Int32) (s : cS) (kc ks : Nat) (Q : (cS → Nat → Nat → Prop)) (P2 : (Int32 → cS → Nat → Nat → Prop)) : Prop := (P2 (a2 + (1 : Int32)) s kc ks)
def C_Rf_raise_b101 (sa : Nat → Nat) (p0 : Nat) (p1 : Option Nat) (a2 : Int32) (s : cS) (kc ks : Nat) (Q : (cS → Nat → Nat → Prop)) (P43 : (Int32 → cS → Nat → Nat → Prop)) : Prop := (P43 (a2 + (1 : Int32)) s kc ks)
def C_Rf_raise_s43 (sa : Nat → Nat) (p0 : Nat) (p1 : Option Nat) (a2 : Int32) (s : cS) (kc ks : Nat) (Q : (cS → Nat → Nat → Prop)) (P43 : (Int32 → cS → Nat → Nat → Prop)) : Prop := ob (gI s 11 9 p0) (fun v1 => (if a2 < v1 then (ob (gP s 11 8 p0) (fun v2 => (ob v2 (fun b3 => (ob (rQ s b3 a2) (fun v4 => (ob v4 (fun b5 => (okO s 9 b5 ∧ C_Rr_portOn sa b5 p1 s kc ks (fun r6 sr6 cr6 dr6 => (if r6 = none then ((C_Rf_raise_b101 sa p0 p1 a2 sr6 cr6 dr6 Q P43)) else (ob (gP sr6 11 8 p0) (fun v7 => (ob v7 (fun b8 => (ob (rQ sr6 b8 a2) (fun v9 => (ob v9 (fun b10 => (ob (gI sr6 9 3 b10) (fun v11 => (if v11 = 0 then ((C_Rf_raise_b101 sa p0 p1 a2 sr6 cr6 dr6 Q P43)) else (ob (gP sr6 11 8 p0) (fun v12 => (ob v12 (fun b13 => (ob (rQ sr6 b13 a2) (fun v14 => (ob v14 (fun b15 => (okO sr6 9 b15 ∧ C_Rr_ask sa b15 r6 (4 : Int32) sr6 cr6 dr6 (fun sr16 cr16 dr16 => (ob (gP sr16 11 8 p0) (fun v17 => (ob v17 (fun b18 => (ob (rQ sr16 b18 a2) (fun v19 => (ob v19 (fun b20 => (okO sr16 9 b20 ∧ C_Rr_ask sa b20 r6 (6 : Int32) sr16 cr16 dr16 (fun sr21 cr21 dr21 => ((C_Rf_raise_b101 sa p0 p1 a2 sr21 cr21 dr21 Q P43)))))))))))))))))))))))))))))))))))))))))))) else ((Q s kc ks))))
def C_Rf_raise_b43 (sa : Nat → Nat) (p0 : Nat) (p1 : Option Nat) (a2 : Int32) (s : cS) (kc ks : Nat) (Q : (cS → Nat → Nat → Prop)) : Prop := ∀ P43 : (Int32 → cS → Nat → Nat → Prop), (∀ (a2 : Int32) (s : cS) (kc ks : Nat), C_Rf_raise_s43 sa p0 p1 a2 s kc ks Q P43 → P43 a2 s kc ks) → P43 a2 s kc ks
def C_Rf_raise_s2 (sa : Nat → Nat) (p0 : Nat) (p1 : Option Nat) (a2 : Int32) (s : cS) (kc ks : Nat) (Q : (cS → Nat → Nat → Prop)) (P2 : (Int32 → cS → Nat → Nat → Prop)) : Prop := ob (gI s 11 9 p0) (fun v1 => (if a2 < v1 then (ob (gP s 11 8 p0) (fun v2 => (ob v2 (fun b3 => (ob (rQ s b3 a2) (fun v4 => (ob v4 (fun b5 => (okO s 9 b5 ∧ C_Rr_portOn sa b5 p1 s kc ks (fun r6 sr6 cr6 dr6 => (if r6 = none then ((C_Rf_raise_b35 sa p0 p1 a2 sr6 cr6 dr6 Q P2)) else (ob (gP sr6 11 8 p0) (fun v7 => (ob v7 (fun b8 => (ob (rQ sr6 b8 a2) (fun v9 => (ob v9 (fun b10 => (okO sr6 9 b10 ∧ C_Rr_settlePort sa b10 r6 sr6 cr6 dr6 (fun sr11 cr11 dr11 => ((C_Rf_raise_b35 sa p0 p1 a2 sr11 cr11 dr11 Q P2))))))))))))))))))))))) else (((C_Rf_raise_b43 sa p0 p1 (0 : Int32) s kc ks Q)))))
def C_Rf_raise_b2 (sa : Nat → Nat) (p0 : Nat) (p1 : Option Nat) (a2 : Int32) (s : cS) (kc ks : Nat) (Q : (cS → Nat → Nat → Prop)) : Prop := ∀ P2 : (Int32 → cS → Nat → Nat → Prop), (∀ (a2 : Int32) (s : cS) (kc ks : Nat), C_Rf_raise_s2 sa p0 p1 a2 s kc ks Q P2 → P2 a2 s kc ks) → P2 a2 s kc ks
def C_Rf_raise (sa : Nat → Nat) (p0 : Nat) (p1 : Option Nat) (s : cS) (kc ks : Nat) (Q : (cS → Nat → Nat → Prop)) : Prop := (C_Rf_raise_b2 sa p0 p1 (0 : Int32) s kc ks Q)
set_option maxRecDepth 100000 in
set_option maxHeartbeats 4000000 in
theorem kc_Rf_raise (base : Nat) (sa : Nat → Nat) {R : pmM} {s : cS} {kc ks : Nat} {Rt : pmR} {p0 : Nat} {p1 : Option Nat} {Q : (cS → Nat → Nat → Prop)} (hw : cW sa R base s) (h : C_Rf_raise sa p0 p1 s kc ks Q) (k : ∀ s' kc' ks', cW sa R base s' → Q s' kc' ks' → Rt none (cM R s') kc' ks') : kP_Rf_raise base sa [.ref p0, va_rf p1] (cM R s) kc ks Rt := by
  refine ⟨by cases p1 <;> exact Nat.le_of_ble_eq_true rfl, fun G hG => ?_⟩
  have eL : lv_args 0 [.ref p0, va_rf p1] = [(0, va_rf (some p0)), (1, va_rf p1)] := by cases p1 <;> rfl
  rw [eL]
  have b43 : ∀ (a2 : Int32) (s : cS) (kc ks : Nat), KK sa R base G 43 [(0, va_rf (some p0)), (1, va_rf p1), (2, .int a2)] [] s kc ks (C_Rf_raise_b43 sa p0 p1 a2 s kc ks Q) := by
    have H : ∀ (P43 : (Int32 → cS → Nat → Nat → Prop)) (hP43 : ∀ (a2 : Int32) (s : cS) (kc ks : Nat), P43 a2 s kc ks → cW sa R base s → G 43 [(0, va_rf (some p0)), (1, va_rf p1), (2, .int a2)] [] (cM R s) kc ks) (a2 : Int32) (s : cS) (kc ks : Nat), KK sa R base G 43 [(0, va_rf (some p0)), (1, va_rf p1), (2, .int a2)] [] s kc ks (C_Rf_raise_s43 sa p0 p1 a2 s kc ks Q P43) := by
      intro P43 hP43
      have b101 : ∀ (a2 : Int32) (s : cS) (kc ks : Nat), KK sa R base G 101 [(0, va_rf (some p0)), (1, va_rf p1), (2, .int a2)] [] s kc ks (C_Rf_raise_b101 sa p0 p1 a2 s kc ks Q P43) := by
        intro a2 s kc ks
        refine kk_inc hG (L' := [(2, .int (a2 + (1 : Int32))), (0, va_rf (some p0)), (1, va_rf p1)]) rfl (Nat.le_of_ble_eq_true rfl) rfl cc_i1 (by cases p1 <;> rfl) ?_
        refine kk_go hG (t := 43) rfl rfl ?_
        exact kk_wl hG [1, 2, 0] rfl (fun hw h => hP43 _ _ _ _ h hw)
      intro a2 s kc ks
      refine kks hG rfl rfl ?_
      refine kk_aln hG (x := (some p0)) rfl rfl ?_
      refine kk_gi hG (c := 11) (k := 9) (a := p0) rfl rfl rfl rfl (fun v1 => ?_)
      refine kk_ige hG (t := 107) rfl rfl ?_ ?_
      · exact kk_rv hG rfl rfl k
      refine kk_aln hG (x := (some p0)) rfl rfl ?_
      refine kk_gp hG (c := 11) (k := 8) (a := p0) rfl rfl rfl rfl (fun v2 => ?_)
      refine kks hG rfl rfl ?_
      refine kk_ob (fun b3 eb3 => ?_)
      subst eb3
      refine kk_aa hG (a := b3) rfl (fun v4 => ?_)
      refine kk_aln hG (x := p1) rfl rfl ?_
      refine kk_ob (fun b5 eb5 => ?_)
      subst eb5
      refine kk_cx (w := va_rf) hG 0 rfl rfl (Nat.le_of_ble_eq_true rfl) (by decide) rfl (st' := []) rfl (cats_le (Nat.le_of_ble_eq_true rfl)) (fun _ hw h k => kk_rcv h.1 (kc_Rr_portOn base sa hw h.2 k)) (fun r6 sr6 cr6 dr6 => ?_)
      refine kk_asn hG (x := r6) (L' := [(3, va_rf r6), (0, va_rf (some p0)), (1, va_rf p1), (2, .int a2)]) rfl (Nat.le_of_ble_eq_true rfl) rfl ?_
      refine kk_aln hG (x := r6) rfl rfl ?_
      refine kk_nul hG (x := r6) (t := 101) rfl rfl ?_ ?_
      · exact kk_wl hG [1, 2, 3] rfl (b101 _ _ _ _)
      refine kk_aln hG (x := (some p0)) rfl rfl ?_
      refine kk_gp hG (c := 11) (k := 8) (a := p0) rfl rfl rfl rfl (fun v7 => ?_)
      refine kks hG rfl rfl ?_
      refine kk_ob (fun b8 eb8 => ?_)
      subst eb8
      refine kk_aa hG (a := b8) rfl (fun v9 => ?_)
      refine kk_ob (fun b10 eb10 => ?_)
      subst eb10
      refine kk_gi hG (c := 9) (k := 3) (a := b10) rfl rfl rfl rfl (fun v11 => ?_)
      refine kk_zeq hG (t := 101) rfl rfl ?_ ?_
      · exact kk_wl hG [1, 2, 3] rfl (b101 _ _ _ _)
      refine kk_aln hG (x := (some p0)) rfl rfl ?_
      refine kk_gp hG (c := 11) (k := 8) (a := p0) rfl rfl rfl rfl (fun v12 => ?_)
      refine kks hG rfl rfl ?_
      refine kk_ob (fun b13 eb13 => ?_)
      subst eb13
      refine kk_aa hG (a := b13) rfl (fun v14 => ?_)
      refine kk_aln hG (x := r6) rfl rfl ?_
      refine kk_ic hG rfl cc_i4 ?_
      refine kk_ob (fun b15 eb15 => ?_)
      subst eb15
      refine kk_cv hG 0 rfl rfl (Nat.le_of_ble_eq_true rfl) (by decide) rfl (st' := []) rfl (cats_le (Nat.le_of_ble_eq_true rfl)) (fun _ hw h k => kk_rcv h.1 (kc_Rr_ask base sa hw h.2 k)) (fun sr16 cr16 dr16 => ?_)
      refine kk_aln hG (x := (some p0)) rfl rfl ?_
      refine kk_gp hG (c := 11) (k := 8) (a := p0) rfl rfl rfl rfl (fun v17 => ?_)
      refine kks hG rfl rfl ?_
      refine kk_ob (fun b18 eb18 => ?_)
      subst eb18
      refine kk_aa hG (a := b18) rfl (fun v19 => ?_)
      refine kk_aln hG (x := r6) rfl rfl ?_
      refine kk_bi hG rfl cc_b6 ?_
      refine kk_ob (fun b20 eb20 => ?_)
      subst eb20
      refine kk_cv hG 0 rfl rfl (Nat.le_of_ble_eq_true rfl) (by decide) rfl (st' := []) rfl (cats_le (Nat.le_of_ble_eq_true rfl)) (fun _ hw h k => kk_rcv h.1 (kc_Rr_ask base sa hw h.2 k)) (fun sr21 cr21 dr21 => ?_)
      exact kk_wl hG [1, 2, 3] rfl (b101 _ _ _ _)
    exact fun a2 s kc ks hw h => h (fun a2 s kc ks => cW sa R base s → G 43 [(0, va_rf (some p0)), (1, va_rf p1), (2, .int a2)] [] (cM R s) kc ks) (fun a2 s kc ks hs hw => H _ (fun _ _ _ _ hp hw => hp hw) a2 s kc ks hw hs) hw
  have b2 : ∀ (a2 : Int32) (s : cS) (kc ks : Nat), KK sa R base G 2 [(0, va_rf (some p0)), (1, va_rf p1), (2, .int a2)] [] s kc ks (C_Rf_raise_b2 sa p0 p1 a2 s kc ks Q) := by
    have H : ∀ (P2 : (Int32 → cS → Nat → Nat → Prop)) (hP2 : ∀ (a2 : Int32) (s : cS) (kc ks : Nat), P2 a2 s kc ks → cW sa R base s → G 2 [(0, va_rf (some p0)), (1, va_rf p1), (2, .int a2)] [] (cM R s) kc ks) (a2 : Int32) (s : cS) (kc ks : Nat), KK sa R base G 2 [(0, va_rf (some p0)), (1, va_rf p1), (2, .int a2)] [] s kc ks (C_Rf_raise_s2 sa p0 p1 a2 s kc ks Q P2) := by
      intro P2 hP2
      have b35 : ∀ (a2 : Int32) (s : cS) (kc ks : Nat), KK sa R base G 35 [(0, va_rf (some p0)), (1, va_rf p1), (2, .int a2)] [] s kc ks (C_Rf_raise_b35 sa p0 p1 a2 s kc ks Q P2) := by
        intro a2 s kc ks
        refine kk_inc hG (L' := [(2, .int (a2 + (1 : Int32))), (0, va_rf (some p0)), (1, va_rf p1)]) rfl (Nat.le_of_ble_eq_true rfl) rfl cc_i1 (by cases p1 <;> rfl) ?_
        refine kk_go hG (t := 2) rfl rfl ?_
        exact kk_wl hG [1, 2, 0] rfl (fun hw h => hP2 _ _ _ _ h hw)
      intro a2 s kc ks
      refine kks hG rfl rfl ?_
      refine kk_aln hG (x := (some p0)) rfl rfl ?_
      refine kk_gi hG (c := 11) (k := 9) (a := p0) rfl rfl rfl rfl (fun v1 => ?_)
      refine kk_ige hG (t := 41) rfl rfl ?_ ?_
      · refine kk_ic hG rfl cc_i0 ?_
        refine kk_st hG (L' := [(2, .int (0 : Int32)), (0, va_rf (some p0)), (1, va_rf p1)]) rfl rfl (Nat.le_of_ble_eq_true rfl) (by cases p1 <;> rfl) ?_
        exact kk_wl hG [1, 2, 0] rfl (b43 _ _ _ _)
      refine kk_aln hG (x := (some p0)) rfl rfl ?_
      refine kk_gp hG (c := 11) (k := 8) (a := p0) rfl rfl rfl rfl (fun v2 => ?_)
      refine kks hG rfl rfl ?_
      refine kk_ob (fun b3 eb3 => ?_)
      subst eb3
      refine kk_aa hG (a := b3) rfl (fun v4 => ?_)
      refine kk_aln hG (x := p1) rfl rfl ?_
      refine kk_ob (fun b5 eb5 => ?_)
      subst eb5
      refine kk_cx (w := va_rf) hG 0 rfl rfl (Nat.le_of_ble_eq_true rfl) (by decide) rfl (st' := []) rfl (cats_le (Nat.le_of_ble_eq_true rfl)) (fun _ hw h k => kk_rcv h.1 (kc_Rr_portOn base sa hw h.2 k)) (fun r6 sr6 cr6 dr6 => ?_)
      refine kk_asn hG (x := r6) (L' := [(3, va_rf r6), (0, va_rf (some p0)), (1, va_rf p1), (2, .int a2)]) rfl (Nat.le_of_ble_eq_true rfl) rfl ?_
      refine kk_aln hG (x := r6) rfl rfl ?_
      refine kk_nul hG (x := r6) (t := 35) rfl rfl ?_ ?_
      · exact kk_wl hG [1, 2, 3] rfl (b35 _ _ _ _)
      refine kk_aln hG (x := (some p0)) rfl rfl ?_
      refine kk_gp hG (c := 11) (k := 8) (a := p0) rfl rfl rfl rfl (fun v7 => ?_)
      refine kks hG rfl rfl ?_
      refine kk_ob (fun b8 eb8 => ?_)
      subst eb8
      refine kk_aa hG (a := b8) rfl (fun v9 => ?_)
      refine kk_aln hG (x := r6) rfl rfl ?_
      refine kk_ob (fun b10 eb10 => ?_)
      subst eb10
      refine kk_cv hG 0 rfl rfl (Nat.le_of_ble_eq_true rfl) (by decide) rfl (st' := []) rfl (cats_le (Nat.le_of_ble_eq_true rfl)) (fun _ hw h k => kk_rcv h.1 (kc_Rr_settlePort base sa hw h.2 k)) (fun sr11 cr11 dr11 => ?_)
      exact kk_wl hG [1, 2, 3] rfl (b35 _ _ _ _)
    exact fun a2 s kc ks hw h => h (fun a2 s kc ks => cW sa R base s → G 2 [(0, va_rf (some p0)), (1, va_rf p1), (2, .int a2)] [] (cM R s) kc ks) (fun a2 s kc ks hs hw => H _ (fun _ _ _ _ hp hw => hp hw) a2 s kc ks hw hs) hw
  refine (show KK sa R base G 0 [(0, va_rf (some p0)), (1, va_rf p1)] [] s kc ks (C_Rf_raise sa p0 p1 s kc ks Q) from ?_) hw h
  refine kk_ic hG rfl cc_i0 ?_
  refine kk_st hG (L' := [(2, .int (0 : Int32)), (0, va_rf (some p0)), (1, va_rf p1)]) rfl rfl (Nat.le_of_ble_eq_true rfl) (by cases p1 <;> rfl) ?_
  exact kk_wl hG [1, 2, 0] rfl (b2 _ _ _ _)
def C_Rf_dropFlights_b53 (sa : Nat → Nat) (p0 : Nat) (p1 : Option Nat) (a2 : Int32) (a3 : Int32) (s : cS) (kc ks : Nat) (Q : (cS → Nat → Nat → Prop)) (P4 : (Int32 → Int32 → cS → Nat → Nat → Prop)) : Prop := (P4 a2 (a3 + (1 : Int32)) s kc ks)
def C_Rf_dropFlights_s4 (sa : Nat → Nat) (p0 : Nat) (p1 : Option Nat) (a2 : Int32) (a3 : Int32) (s : cS) (kc ks : Nat) (Q : (cS → Nat → Nat → Prop)) (P4 : (Int32 → Int32 → cS → Nat → Nat → Prop)) : Prop := ob (gI s 11 13 p0) (fun v1 => (if a3 < v1 then (ob (gP s 11 12 p0) (fun v3 => (ob v3 (fun b4 => (ob (rQ s b4 a3) (fun v5 => (ob v5 (fun b6 => (ob (gP s 2 8 b6) (fun v7 => (if v7 = p1 then (ob (gP s 11 12 p0) (fun v14 => (ob v14 (fun b15 => (ob (rQ s b15 a3) (fun v16 => (okO s 11 p0 ∧ C_Rf_giveBack sa p0 v16 s kc ks (fun sr17 cr17 dr17 => ((C_Rf_dropFlights_b53 sa p0 p1 a2 a3 sr17 cr17 dr17 Q P4)))))))))) else (ob (gP s 11 12 p0) (fun v8 => (ob (gP s 11 12 p0) (fun v9 => (ob v9 (fun b10 => (ob (rQ s b10 a3) (fun v11 => (ob v8 (fun b12 => (ob (wQ s b12 a2 v11) (fun s13 => ((C_Rf_dropFlights_b53 sa p0 p1 (a2 + (1 : Int32)) a3 s13 kc ks Q P4))))))))))))))))))))))))) else ((ob (pI s 11 13 p0 a2) (fun s2 => (Q s2 kc ks))))))
def C_Rf_dropFlights_b4 (sa : Nat → Nat) (p0 : Nat) (p1 : Option Nat) (a2 : Int32) (a3 : Int32) (s : cS) (kc ks : Nat) (Q : (cS → Nat → Nat → Prop)) : Prop := ∀ P4 : (Int32 → Int32 → cS → Nat → Nat → Prop), (∀ (a2 : Int32) (a3 : Int32) (s : cS) (kc ks : Nat), C_Rf_dropFlights_s4 sa p0 p1 a2 a3 s kc ks Q P4 → P4 a2 a3 s kc ks) → P4 a2 a3 s kc ks
def C_Rf_dropFlights (sa : Nat → Nat) (p0 : Nat) (p1 : Option Nat) (s : cS) (kc ks : Nat) (Q : (cS → Nat → Nat → Prop)) : Prop := (C_Rf_dropFlights_b4 sa p0 p1 (0 : Int32) (0 : Int32) s kc ks Q)
set_option maxRecDepth 100000 in
set_option maxHeartbeats 4000000 in
theorem kc_Rf_dropFlights (base : Nat) (sa : Nat → Nat) {R : pmM} {s : cS} {kc ks : Nat} {Rt : pmR} {p0 : Nat} {p1 : Option Nat} {Q : (cS → Nat → Nat → Prop)} (hw : cW sa R base s) (h : C_Rf_dropFlights sa p0 p1 s kc ks Q) (k : ∀ s' kc' ks', cW sa R base s' → Q s' kc' ks' → Rt none (cM R s') kc' ks') : kP_Rf_dropFlights base sa [.ref p0, va_rf p1] (cM R s) kc ks Rt := by
  refine ⟨by cases p1 <;> exact Nat.le_of_ble_eq_true rfl, fun G hG => ?_⟩
  have eL : lv_args 0 [.ref p0, va_rf p1] = [(0, va_rf (some p0)), (1, va_rf p1)] := by cases p1 <;> rfl
  rw [eL]
  have b4 : ∀ (a2 : Int32) (a3 : Int32) (s : cS) (kc ks : Nat), KK sa R base G 4 [(0, va_rf (some p0)), (1, va_rf p1), (2, .int a2), (3, .int a3)] [] s kc ks (C_Rf_dropFlights_b4 sa p0 p1 a2 a3 s kc ks Q) := by
    have H : ∀ (P4 : (Int32 → Int32 → cS → Nat → Nat → Prop)) (hP4 : ∀ (a2 : Int32) (a3 : Int32) (s : cS) (kc ks : Nat), P4 a2 a3 s kc ks → cW sa R base s → G 4 [(0, va_rf (some p0)), (1, va_rf p1), (2, .int a2), (3, .int a3)] [] (cM R s) kc ks) (a2 : Int32) (a3 : Int32) (s : cS) (kc ks : Nat), KK sa R base G 4 [(0, va_rf (some p0)), (1, va_rf p1), (2, .int a2), (3, .int a3)] [] s kc ks (C_Rf_dropFlights_s4 sa p0 p1 a2 a3 s kc ks Q P4) := by
      intro P4 hP4
      have b53 : ∀ (a2 : Int32) (a3 : Int32) (s : cS) (kc ks : Nat), KK sa R base G 53 [(0, va_rf (some p0)), (1, va_rf p1), (2, .int a2), (3, .int a3)] [] s kc ks (C_Rf_dropFlights_b53 sa p0 p1 a2 a3 s kc ks Q P4) := by
        intro a2 a3 s kc ks
        refine kk_inc hG (L' := [(3, .int (a3 + (1 : Int32))), (0, va_rf (some p0)), (1, va_rf p1), (2, .int a2)]) rfl (Nat.le_of_ble_eq_true rfl) rfl cc_i1 rfl ?_
        refine kk_go hG (t := 4) rfl rfl ?_
        exact kk_wl hG [1, 2, 3, 0] rfl (fun hw h => hP4 _ _ _ _ _ h hw)
      intro a2 a3 s kc ks
      refine kks hG rfl rfl ?_
      refine kk_aln hG (x := (some p0)) rfl rfl ?_
      refine kk_gi hG (c := 11) (k := 13) (a := p0) rfl rfl rfl rfl (fun v1 => ?_)
      refine kk_ige hG (t := 59) rfl rfl ?_ ?_
      · refine kk_aln hG (x := (some p0)) rfl rfl ?_
        refine kks hG rfl rfl ?_
        refine kk_pi hG (c := 11) (k := 13) (a := p0) rfl rfl rfl rfl (fun s2 => ?_)
        exact kk_rv hG rfl rfl k
      refine kk_aln hG (x := (some p0)) rfl rfl ?_
      refine kk_gp hG (c := 11) (k := 12) (a := p0) rfl rfl rfl rfl (fun v3 => ?_)
      refine kks hG rfl rfl ?_
      refine kk_ob (fun b4 eb4 => ?_)
      subst eb4
      refine kk_aa hG (a := b4) rfl (fun v5 => ?_)
      refine kk_ob (fun b6 eb6 => ?_)
      subst eb6
      refine kk_gp hG (c := 2) (k := 8) (a := b6) rfl rfl rfl rfl (fun v7 => ?_)
      refine kk_aln hG (x := p1) rfl rfl ?_
      refine kk_ane hG (x := v7) (y := p1) (t := 38) rfl rfl ?_ ?_
      · refine kk_aln hG (x := (some p0)) rfl rfl ?_
        refine kk_gp hG (c := 11) (k := 12) (a := p0) rfl rfl rfl rfl (fun v8 => ?_)
        refine kks hG rfl rfl ?_
        refine kk_aln hG (x := (some p0)) rfl rfl ?_
        refine kk_gp hG (c := 11) (k := 12) (a := p0) rfl rfl rfl rfl (fun v9 => ?_)
        refine kks hG rfl rfl ?_
        refine kk_ob (fun b10 eb10 => ?_)
        subst eb10
        refine kk_aa hG (a := b10) rfl (fun v11 => ?_)
        refine kk_ob (fun b12 eb12 => ?_)
        subst eb12
        refine kk_aas hG (a := b12) (x := v11) rfl (fun s13 => ?_)
        refine kk_inc hG (L' := [(2, .int (a2 + (1 : Int32))), (0, va_rf (some p0)), (1, va_rf p1), (3, .int a3)]) rfl (Nat.le_of_ble_eq_true rfl) rfl cc_i1 (by cases p1 <;> rfl) ?_
        exact kk_wl hG [1, 2, 0, 3] rfl (b53 _ _ _ _ _)
      refine kk_aln hG (x := (some p0)) rfl rfl ?_
      refine kk_aln hG (x := (some p0)) rfl rfl ?_
      refine kk_gp hG (c := 11) (k := 12) (a := p0) rfl rfl rfl rfl (fun v14 => ?_)
      refine kks hG rfl rfl ?_
      refine kk_ob (fun b15 eb15 => ?_)
      subst eb15
      refine kk_aa hG (a := b15) rfl (fun v16 => ?_)
      refine kk_cv hG 0 rfl rfl (Nat.le_of_ble_eq_true rfl) (by decide) rfl (st' := []) rfl (cats_le (Nat.le_of_ble_eq_true rfl)) (fun _ hw h k => kk_rcv h.1 (kc_Rf_giveBack base sa hw h.2 k)) (fun sr17 cr17 dr17 => ?_)
      refine kk_go hG (t := 53) rfl rfl ?_
      exact kk_wl hG [0, 1, 2, 3] rfl (b53 _ _ _ _ _)
    exact fun a2 a3 s kc ks hw h => h (fun a2 a3 s kc ks => cW sa R base s → G 4 [(0, va_rf (some p0)), (1, va_rf p1), (2, .int a2), (3, .int a3)] [] (cM R s) kc ks) (fun a2 a3 s kc ks hs hw => H _ (fun _ _ _ _ _ hp hw => hp hw) a2 a3 s kc ks hw hs) hw
  refine (show KK sa R base G 0 [(0, va_rf (some p0)), (1, va_rf p1)] [] s kc ks (C_Rf_dropFlights sa p0 p1 s kc ks Q) from ?_) hw h
  refine kk_ic hG rfl cc_i0 ?_
  refine kk_st hG (L' := [(2, .int (0 : Int32)), (0, va_rf (some p0)), (1, va_rf p1)]) rfl rfl (Nat.le_of_ble_eq_true rfl) (by cases p1 <;> rfl) ?_
  refine kk_ic hG rfl cc_i0 ?_
  refine kk_st hG (L' := [(3, .int (0 : Int32)), (2, .int (0 : Int32)), (0, va_rf (some p0)), (1, va_rf p1)]) rfl rfl (Nat.le_of_ble_eq_true rfl) rfl ?_
  exact kk_wl hG [2, 3, 1, 0] rfl (b4 _ _ _ _ _)
def C_Rr_loseLearned_b44 (sa : Nat → Nat) (p0 : Nat) (p1 : Option Nat) (a2 : Int32) (s : cS) (kc ks : Nat) (Q : (cS → Nat → Nat → Prop)) (P2 : (Int32 → cS → Nat → Nat → Prop)) : Prop := (P2 (a2 + (1 : Int32)) s kc ks)
def C_Rr_loseLearned_s2 (sa : Nat → Nat) (p0 : Nat) (p1 : Option Nat) (a2 : Int32) (s : cS) (kc ks : Nat) (Q : (cS → Nat → Nat → Prop)) (P2 : (Int32 → cS → Nat → Nat → Prop)) : Prop := ob (gP s 9 6 p0) (fun v1 => (ob v1 (fun b2 => (ob (gI s 10 1 b2) (fun v3 => (if a2 < v3 then (ob (gP s 9 6 p0) (fun v4 => (ob v4 (fun b5 => (ob (gP s 10 0 b5) (fun v6 => (ob v6 (fun b7 => (ob (rQ s b7 a2) (fun v8 => (ob v8 (fun b9 => (ob (gI s 8 3 b9) (fun v10 => (if v10 = (2 : Int32) then (ob (gP s 8 6 b9) (fun v11 => (if v11 = p1 then (okO s 9 p0 ∧ C_Rr_die sa p0 (some b9) s kc ks (fun sr12 cr12 dr12 => ((C_Rr_loseLearned_b44 sa p0 p1 a2 sr12 cr12 dr12 Q P2)))) else ((C_Rr_loseLearned_b44 sa p0 p1 a2 s kc ks Q P2))))) else ((C_Rr_loseLearned_b44 sa p0 p1 a2 s kc ks Q P2))))))))))))))))) else ((Q s kc ks))))))))
def C_Rr_loseLearned_b2 (sa : Nat → Nat) (p0 : Nat) (p1 : Option Nat) (a2 : Int32) (s : cS) (kc ks : Nat) (Q : (cS → Nat → Nat → Prop)) : Prop := ∀ P2 : (Int32 → cS → Nat → Nat → Prop), (∀ (a2 : Int32) (s : cS) (kc ks : Nat), C_Rr_loseLearned_s2 sa p0 p1 a2 s kc ks Q P2 → P2 a2 s kc ks) → P2 a2 s kc ks
def C_Rr_loseLearned (sa : Nat → Nat) (p0 : Nat) (p1 : Option Nat) (s : cS) (kc ks : Nat) (Q : (cS → Nat → Nat → Prop)) : Prop := (C_Rr_loseLearned_b2 sa p0 p1 (0 : Int32) s kc ks Q)
set_option maxRecDepth 100000 in
set_option maxHeartbeats 4000000 in
theorem kc_Rr_loseLearned (base : Nat) (sa : Nat → Nat) {R : pmM} {s : cS} {kc ks : Nat} {Rt : pmR} {p0 : Nat} {p1 : Option Nat} {Q : (cS → Nat → Nat → Prop)} (hw : cW sa R base s) (h : C_Rr_loseLearned sa p0 p1 s kc ks Q) (k : ∀ s' kc' ks', cW sa R base s' → Q s' kc' ks' → Rt none (cM R s') kc' ks') : kP_Rr_loseLearned base sa [.ref p0, va_rf p1] (cM R s) kc ks Rt := by
  refine ⟨by cases p1 <;> exact Nat.le_of_ble_eq_true rfl, fun G hG => ?_⟩
  have eL : lv_args 0 [.ref p0, va_rf p1] = [(0, va_rf (some p0)), (1, va_rf p1)] := by cases p1 <;> rfl
  rw [eL]
  have b2 : ∀ (a2 : Int32) (s : cS) (kc ks : Nat), KK sa R base G 2 [(0, va_rf (some p0)), (1, va_rf p1), (2, .int a2)] [] s kc ks (C_Rr_loseLearned_b2 sa p0 p1 a2 s kc ks Q) := by
    have H : ∀ (P2 : (Int32 → cS → Nat → Nat → Prop)) (hP2 : ∀ (a2 : Int32) (s : cS) (kc ks : Nat), P2 a2 s kc ks → cW sa R base s → G 2 [(0, va_rf (some p0)), (1, va_rf p1), (2, .int a2)] [] (cM R s) kc ks) (a2 : Int32) (s : cS) (kc ks : Nat), KK sa R base G 2 [(0, va_rf (some p0)), (1, va_rf p1), (2, .int a2)] [] s kc ks (C_Rr_loseLearned_s2 sa p0 p1 a2 s kc ks Q P2) := by
      intro P2 hP2
      have b44 : ∀ (a2 : Int32) (s : cS) (kc ks : Nat), KK sa R base G 44 [(0, va_rf (some p0)), (1, va_rf p1), (2, .int a2)] [] s kc ks (C_Rr_loseLearned_b44 sa p0 p1 a2 s kc ks Q P2) := by
        intro a2 s kc ks
        refine kk_inc hG (L' := [(2, .int (a2 + (1 : Int32))), (0, va_rf (some p0)), (1, va_rf p1)]) rfl (Nat.le_of_ble_eq_true rfl) rfl cc_i1 (by cases p1 <;> rfl) ?_
        refine kk_go hG (t := 2) rfl rfl ?_
        exact kk_wl hG [1, 2, 0] rfl (fun hw h => hP2 _ _ _ _ h hw)
      intro a2 s kc ks
      refine kks hG rfl rfl ?_
      refine kk_aln hG (x := (some p0)) rfl rfl ?_
      refine kk_gp hG (c := 9) (k := 6) (a := p0) rfl rfl rfl rfl (fun v1 => ?_)
      refine kk_ob (fun b2 eb2 => ?_)
      subst eb2
      refine kk_gi hG (c := 10) (k := 1) (a := b2) rfl rfl rfl rfl (fun v3 => ?_)
      refine kk_ige hG (t := 50) rfl rfl ?_ ?_
      · exact kk_rv hG rfl rfl k
      refine kk_aln hG (x := (some p0)) rfl rfl ?_
      refine kk_gp hG (c := 9) (k := 6) (a := p0) rfl rfl rfl rfl (fun v4 => ?_)
      refine kk_ob (fun b5 eb5 => ?_)
      subst eb5
      refine kk_gp hG (c := 10) (k := 0) (a := b5) rfl rfl rfl rfl (fun v6 => ?_)
      refine kks hG rfl rfl ?_
      refine kk_ob (fun b7 eb7 => ?_)
      subst eb7
      refine kk_aa hG (a := b7) rfl (fun v8 => ?_)
      refine kk_asn hG (x := v8) (L' := [(3, va_rf v8), (0, va_rf (some p0)), (1, va_rf p1), (2, .int a2)]) rfl (Nat.le_of_ble_eq_true rfl) rfl ?_
      refine kk_aln hG (x := v8) rfl rfl ?_
      refine kk_ob (fun b9 eb9 => ?_)
      subst eb9
      refine kk_gi hG (c := 8) (k := 3) (a := b9) rfl rfl rfl rfl (fun v10 => ?_)
      refine kk_ic hG rfl cc_i2 ?_
      refine kk_ine hG (t := 44) rfl rfl ?_ ?_
      · exact kk_wl hG [1, 2, 3] rfl (b44 _ _ _ _)
      refine kk_aln hG (x := (some b9)) rfl rfl ?_
      refine kk_gp hG (c := 8) (k := 6) (a := b9) rfl rfl rfl rfl (fun v11 => ?_)
      refine kk_aln hG (x := p1) rfl rfl ?_
      refine kk_ane hG (x := v11) (y := p1) (t := 44) rfl rfl ?_ ?_
      · exact kk_wl hG [1, 2, 3] rfl (b44 _ _ _ _)
      refine kk_aln hG (x := (some p0)) rfl rfl ?_
      refine kk_aln hG (x := (some b9)) rfl rfl ?_
      refine kk_cv hG 0 rfl rfl (Nat.le_of_ble_eq_true rfl) (by decide) rfl (st' := []) rfl (cats_le (Nat.le_of_ble_eq_true rfl)) (fun _ hw h k => kk_rcv h.1 (kc_Rr_die base sa hw h.2 k)) (fun sr12 cr12 dr12 => ?_)
      exact kk_wl hG [1, 2, 3] rfl (b44 _ _ _ _)
    exact fun a2 s kc ks hw h => h (fun a2 s kc ks => cW sa R base s → G 2 [(0, va_rf (some p0)), (1, va_rf p1), (2, .int a2)] [] (cM R s) kc ks) (fun a2 s kc ks hs hw => H _ (fun _ _ _ _ hp hw => hp hw) a2 s kc ks hw hs) hw
  refine (show KK sa R base G 0 [(0, va_rf (some p0)), (1, va_rf p1)] [] s kc ks (C_Rr_loseLearned sa p0 p1 s kc ks Q) from ?_) hw h
  refine kk_ic hG rfl cc_i0 ?_
  refine kk_st hG (L' := [(2, .int (0 : Int32)), (0, va_rf (some p0)), (1, va_rf p1)]) rfl rfl (Nat.le_of_ble_eq_true rfl) (by cases p1 <;> rfl) ?_
  exact kk_wl hG [1, 2, 0] rfl (b2 _ _ _ _)
