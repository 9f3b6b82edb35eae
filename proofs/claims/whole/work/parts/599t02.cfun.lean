/-! Methods as weakest preconditions, by program: Re_linkLine .. Re_optionSize -/
def C_Re_linkLine_b89 (sa : Nat → Nat) (p0 : Nat) (a1 : Int32) (a2 : Int32) (u0 : Int32) (s : cS) (kc ks : Nat) (Q : (Int32 → cS → Nat → Nat → Prop)) : Prop := if a1 = ((-1) : Int32) then (Q (4 : Int32) s kc ks) else (if a2 = ((-1) : Int32) then (Q (4 : Int32) s kc ks) else (if u0 = ((-1) : Int32) then (Q (4 : Int32) s kc ks) else (ob (gP s 7 0 p0) (fun v1 => (ob v1 (fun b2 => (ob (gI s 11 7 b2) (fun v3 => (if v3 < (10 : Int32) then (ob (gP s 7 0 p0) (fun v4 => (ob v4 (fun b5 => (ob (gP s 11 6 b5) (fun v6 => (ob (gP s 7 0 p0) (fun v7 => (ob v7 (fun b8 => (ob (gI s 11 7 b8) (fun v9 => (nwO sa s kc ks 3 8 (fun q10 sq10 cq10 dq10 => (okO sq10 7 p0 ∧ C_Re_nameAt sa p0 (1 : Int32) sq10 cq10 dq10 (fun r11 sr11 cr11 dr11 => (okO sr11 3 q10 ∧ C_Li_init sa q10 r11 a1 a2 u0 sr11 cr11 dr11 (fun sr12 cr12 dr12 => (ob v6 (fun b13 => (ob (wQ sr12 b13 v9 (some q10)) (fun s14 => (ob (gP s14 7 0 p0) (fun v15 => (ob v15 (fun b16 => (ob (gI s14 11 7 b16) (fun v17 => (ob (pI s14 11 7 b16 (v17 + (1 : Int32))) (fun s18 => (Q (0 : Int32) s18 cr12 dr12))))))))))))))))))))))))))))))) else (Q (6 : Int32) s kc ks))))))))))
def C_Re_linkLine_b62 (sa : Nat → Nat) (p0 : Nat) (a1 : Int32) (u0 : Int32) (s : cS) (kc ks : Nat) (Q : (Int32 → cS → Nat → Nat → Prop)) : Prop := ob (gI s 7 5 p0) (fun v1 => (if v1 = 0 then ((C_Re_linkLine_b89 sa p0 a1 u0 (576 : Int32) s kc ks Q)) else (ob (gI s 7 5 p0) (fun v2 => (okO s 7 p0 ∧ C_Re_number sa p0 v2 (84 : Int32) (576 : Int32) s kc ks (fun r3 sr3 cr3 dr3 => ((C_Re_linkLine_b89 sa p0 a1 u0 r3 sr3 cr3 dr3 Q))))))))
def C_Re_linkLine (sa : Nat → Nat) (p0 : Nat) (s : cS) (kc ks : Nat) (Q : (Int32 → cS → Nat → Nat → Prop)) : Prop := okO s 7 p0 ∧ C_Re_hasOptions sa p0 (3 : Int32) (some (sa 1)) (some (sa 2)) s kc ks (fun r1 sr1 cr1 dr1 => (if r1 = 0 then (Q (2 : Int32) sr1 cr1 dr1) else (okO sr1 7 p0 ∧ C_Re_isName sa p0 (1 : Int32) sr1 cr1 dr1 (fun r2 sr2 cr2 dr2 => (if r2 = 0 then (Q (3 : Int32) sr2 cr2 dr2) else (okO sr2 7 p0 ∧ C_Re_linkNamed sa p0 (1 : Int32) sr2 cr2 dr2 (fun r3 sr3 cr3 dr3 => (if r3 = ((-1) : Int32) then (okO sr3 7 p0 ∧ C_Re_number sa p0 (2 : Int32) (1 : Int32) (5 : Int32) sr3 cr3 dr3 (fun r4 sr4 cr4 dr4 => (ob (gI sr4 7 4 p0) (fun v5 => (if v5 = 0 then ((C_Re_linkLine_b62 sa p0 r4 (0 : Int32) sr4 cr4 dr4 Q)) else (ob (gI sr4 7 4 p0) (fun v6 => (okO sr4 7 p0 ∧ C_Re_number sa p0 v6 (0 : Int32) (4 : Int32) sr4 cr4 dr4 (fun r7 sr7 cr7 dr7 => ((C_Re_linkLine_b62 sa p0 r4 r7 sr7 cr7 dr7 Q))))))))))) else (Q (3 : Int32) sr3 cr3 dr3)))))))))
set_option maxRecDepth 100000 in
set_option maxHeartbeats 4000000 in
theorem kc_Re_linkLine (base : Nat) (sa : Nat → Nat) {R : pmM} {s : cS} {kc ks : Nat} {Rt : pmR} {p0 : Nat} {Q : (Int32 → cS → Nat → Nat → Prop)} (hw : cW sa R base s) (h : C_Re_linkLine sa p0 s kc ks Q) (k : ∀ r s' kc' ks', cW sa R base s' → Q r s' kc' ks' → Rt (some (.int r)) (cM R s') kc' ks') : kP_Re_linkLine base sa [.ref p0] (cM R s) kc ks Rt := by
  refine ⟨Nat.le_of_ble_eq_true rfl, fun G hG => ?_⟩
  have b89 : ∀ (a1 : Int32) (a2 : Int32) (u0 : Int32) (s : cS) (kc ks : Nat), KK sa R base G 89 [(0, va_rf (some p0)), (1, .int a1), (2, .int a2)] [.int u0] s kc ks (C_Re_linkLine_b89 sa p0 a1 a2 u0 s kc ks Q) := by
    intro a1 a2 u0 s kc ks
    refine kk_st hG (L' := [(3, .int u0), (0, va_rf (some p0)), (1, .int a1), (2, .int a2)]) rfl rfl (Nat.le_of_ble_eq_true rfl) rfl ?_
    refine kks hG rfl rfl ?_
    refine kk_ic hG rfl cc_im1 ?_
    refine kk_ieq hG (t := 105) rfl rfl ?_ ?_
    · refine kk_ic hG rfl cc_i4 ?_
      exact kk_ri hG rfl rfl rfl k
    refine kks hG rfl rfl ?_
    refine kk_ic hG rfl cc_im1 ?_
    refine kk_ieq hG (t := 105) rfl rfl ?_ ?_
    · refine kk_ic hG rfl cc_i4 ?_
      exact kk_ri hG rfl rfl rfl k
    refine kks hG rfl rfl ?_
    refine kk_ic hG rfl cc_im1 ?_
    refine kk_ine hG (t := 107) rfl rfl ?_ ?_
    · refine kk_aln hG (x := (some p0)) rfl rfl ?_
      refine kk_gp hG (c := 7) (k := 0) (a := p0) rfl rfl rfl rfl (fun v1 => ?_)
      refine kk_ob (fun b2 eb2 => ?_)
      subst eb2
      refine kk_gi hG (c := 11) (k := 7) (a := b2) rfl rfl rfl rfl (fun v3 => ?_)
      refine kk_bi hG rfl cc_b10 ?_
      refine kk_ilt hG (t := 122) rfl rfl ?_ ?_
      · refine kk_aln hG (x := (some p0)) rfl rfl ?_
        refine kk_gp hG (c := 7) (k := 0) (a := p0) rfl rfl rfl rfl (fun v4 => ?_)
        refine kk_ob (fun b5 eb5 => ?_)
        subst eb5
        refine kk_gp hG (c := 11) (k := 6) (a := b5) rfl rfl rfl rfl (fun v6 => ?_)
        refine kk_aln hG (x := (some p0)) rfl rfl ?_
        refine kk_gp hG (c := 7) (k := 0) (a := p0) rfl rfl rfl rfl (fun v7 => ?_)
        refine kk_ob (fun b8 eb8 => ?_)
        subst eb8
        refine kk_gi hG (c := 11) (k := 7) (a := b8) rfl rfl rfl rfl (fun v9 => ?_)
        refine kk_new hG (c := 3) (n := 8) rfl rfl rfl rfl (fun q10 sq10 cq10 dq10 => ?_)
        refine kk_dup hG (x := (some q10)) rfl ?_
        refine kk_aln hG (x := (some p0)) rfl rfl ?_
        refine kk_ic hG rfl cc_i1 ?_
        refine kk_cx (w := va_rf) hG 0 rfl rfl (Nat.le_of_ble_eq_true rfl) (by decide) rfl (st' := [va_rf (some q10), va_rf (some q10), .int v9, va_rf v6]) rfl (cats_le (Nat.le_of_ble_eq_true rfl)) (fun _ hw h k => kk_rcv h.1 (kc_Re_nameAt base sa hw h.2 k)) (fun r11 sr11 cr11 dr11 => ?_)
        refine kks hG rfl rfl ?_
        refine kks hG rfl rfl ?_
        refine kks hG rfl rfl ?_
        refine kk_cv hG 1 rfl rfl (Nat.le_of_ble_eq_true rfl) (by decide) rfl (st' := [va_rf (some q10), .int v9, va_rf v6]) rfl (cats_le (Nat.le_of_ble_eq_true rfl)) (fun _ hw h k => kk_rcv h.1 (kc_Li_init base sa hw h.2 k)) (fun sr12 cr12 dr12 => ?_)
        refine kk_ob (fun b13 eb13 => ?_)
        subst eb13
        refine kk_aas hG (a := b13) (x := (some q10)) rfl (fun s14 => ?_)
        refine kk_aln hG (x := (some p0)) rfl rfl ?_
        refine kk_gp hG (c := 7) (k := 0) (a := p0) rfl rfl rfl rfl (fun v15 => ?_)
        refine kk_dup hG (x := v15) rfl ?_
        refine kk_ob (fun b16 eb16 => ?_)
        subst eb16
        refine kk_gi hG (c := 11) (k := 7) (a := b16) rfl rfl rfl rfl (fun v17 => ?_)
        refine kk_ic hG rfl cc_i1 ?_
        refine kks hG rfl rfl ?_
        refine kk_pi hG (c := 11) (k := 7) (a := b16) rfl rfl rfl rfl (fun s18 => ?_)
        refine kk_ic hG rfl cc_i0 ?_
        exact kk_ri hG rfl rfl rfl k
      refine kk_bi hG rfl cc_b6 ?_
      exact kk_ri hG rfl rfl rfl k
    refine kk_ic hG rfl cc_i4 ?_
    exact kk_ri hG rfl rfl rfl k
  have b62 : ∀ (a1 : Int32) (u0 : Int32) (s : cS) (kc ks : Nat), KK sa R base G 62 [(0, va_rf (some p0)), (1, .int a1)] [.int u0] s kc ks (C_Re_linkLine_b62 sa p0 a1 u0 s kc ks Q) := by
    intro a1 u0 s kc ks
    refine kk_st hG (L' := [(2, .int u0), (0, va_rf (some p0)), (1, .int a1)]) rfl rfl (Nat.le_of_ble_eq_true rfl) rfl ?_
    refine kk_aln hG (x := (some p0)) rfl rfl ?_
    refine kk_gi hG (c := 7) (k := 5) (a := p0) rfl rfl rfl rfl (fun v1 => ?_)
    refine kk_zne hG (t := 76) rfl rfl ?_ ?_
    · refine kk_aln hG (x := (some p0)) rfl rfl ?_
      refine kk_aln hG (x := (some p0)) rfl rfl ?_
      refine kk_gi hG (c := 7) (k := 5) (a := p0) rfl rfl rfl rfl (fun v2 => ?_)
      refine kk_bi hG rfl cc_b84 ?_
      refine kk_si hG rfl cc_s576 ?_
      refine kk_cx (w := .int) hG 0 rfl rfl (Nat.le_of_ble_eq_true rfl) (by decide) rfl (st' := []) rfl (cats_le (Nat.le_of_ble_eq_true rfl)) (fun _ hw h k => kk_rcv h.1 (kc_Re_number base sa hw h.2 k)) (fun r3 sr3 cr3 dr3 => ?_)
      exact kk_wl hG [1, 2, 0] rfl (b89 _ _ _ _ _ _)
    refine kk_si hG rfl cc_s576 ?_
    refine kk_go hG (t := 89) rfl rfl ?_
    exact kk_wl hG [1, 2, 0] rfl (b89 _ _ _ _ _ _)
  refine (show KK sa R base G 0 [(0, va_rf (some p0))] [] s kc ks (C_Re_linkLine sa p0 s kc ks Q) from ?_) hw h
  refine kk_aln hG (x := (some p0)) rfl rfl ?_
  refine kk_ic hG rfl cc_i3 ?_
  refine kk_lds hG (a := sa 1) rfl rfl ?_
  refine kk_lds hG (a := sa 2) rfl rfl ?_
  refine kk_cx (w := .int) hG 0 rfl rfl (Nat.le_of_ble_eq_true rfl) (by decide) rfl (st' := []) rfl (cats_le (Nat.le_of_ble_eq_true rfl)) (fun _ hw h k => kk_rcv h.1 (kc_Re_hasOptions base sa hw h.2 k)) (fun r1 sr1 cr1 dr1 => ?_)
  refine kk_zne hG (t := 14) rfl rfl ?_ ?_
  · refine kk_aln hG (x := (some p0)) rfl rfl ?_
    refine kk_ic hG rfl cc_i1 ?_
    refine kk_cx (w := .int) hG 0 rfl rfl (Nat.le_of_ble_eq_true rfl) (by decide) rfl (st' := []) rfl (cats_le (Nat.le_of_ble_eq_true rfl)) (fun _ hw h k => kk_rcv h.1 (kc_Re_isName base sa hw h.2 k)) (fun r2 sr2 cr2 dr2 => ?_)
    refine kk_zeq hG (t := 31) rfl rfl ?_ ?_
    · refine kk_ic hG rfl cc_i3 ?_
      exact kk_ri hG rfl rfl rfl k
    refine kk_aln hG (x := (some p0)) rfl rfl ?_
    refine kk_ic hG rfl cc_i1 ?_
    refine kk_cx (w := .int) hG 0 rfl rfl (Nat.le_of_ble_eq_true rfl) (by decide) rfl (st' := []) rfl (cats_le (Nat.le_of_ble_eq_true rfl)) (fun _ hw h k => kk_rcv h.1 (kc_Re_linkNamed base sa hw h.2 k)) (fun r3 sr3 cr3 dr3 => ?_)
    refine kk_ic hG rfl cc_im1 ?_
    refine kk_ieq hG (t := 33) rfl rfl ?_ ?_
    · refine kk_aln hG (x := (some p0)) rfl rfl ?_
      refine kk_ic hG rfl cc_i2 ?_
      refine kk_ic hG rfl cc_i1 ?_
      refine kk_ic hG rfl cc_i5 ?_
      refine kk_cx (w := .int) hG 0 rfl rfl (Nat.le_of_ble_eq_true rfl) (by decide) rfl (st' := []) rfl (cats_le (Nat.le_of_ble_eq_true rfl)) (fun _ hw h k => kk_rcv h.1 (kc_Re_number base sa hw h.2 k)) (fun r4 sr4 cr4 dr4 => ?_)
      refine kk_st hG (L' := [(1, .int r4), (0, va_rf (some p0))]) rfl rfl (Nat.le_of_ble_eq_true rfl) rfl ?_
      refine kk_aln hG (x := (some p0)) rfl rfl ?_
      refine kk_gi hG (c := 7) (k := 4) (a := p0) rfl rfl rfl rfl (fun v5 => ?_)
      refine kk_zne hG (t := 52) rfl rfl ?_ ?_
      · refine kk_aln hG (x := (some p0)) rfl rfl ?_
        refine kk_aln hG (x := (some p0)) rfl rfl ?_
        refine kk_gi hG (c := 7) (k := 4) (a := p0) rfl rfl rfl rfl (fun v6 => ?_)
        refine kk_ic hG rfl cc_i0 ?_
        refine kk_ic hG rfl cc_i4 ?_
        refine kk_cx (w := .int) hG 0 rfl rfl (Nat.le_of_ble_eq_true rfl) (by decide) rfl (st' := []) rfl (cats_le (Nat.le_of_ble_eq_true rfl)) (fun _ hw h k => kk_rcv h.1 (kc_Re_number base sa hw h.2 k)) (fun r7 sr7 cr7 dr7 => ?_)
        exact kk_wl hG [1, 0] rfl (b62 _ _ _ _ _)
      refine kk_ic hG rfl cc_i0 ?_
      refine kk_go hG (t := 62) rfl rfl ?_
      exact kk_wl hG [1, 0] rfl (b62 _ _ _ _ _)
    refine kk_ic hG rfl cc_i3 ?_
    exact kk_ri hG rfl rfl rfl k
  refine kk_ic hG rfl cc_i2 ?_
  exact kk_ri hG rfl rfl rfl k
def C_Re_routerNamed_s2 (sa : Nat → Nat) (p0 : Nat) (p1 : Int32) (a2 : Int32) (s : cS) (kc ks : Nat) (Q : (Option Nat → cS → Nat → Nat → Prop)) (P2 : (Int32 → cS → Nat → Nat → Prop)) : Prop := ob (gP s 7 0 p0) (fun v1 => (ob v1 (fun b2 => (ob (gI s 11 9 b2) (fun v3 => (if a2 < v3 then (ob (gP s 7 0 p0) (fun v4 => (ob v4 (fun b5 => (ob (gP s 11 8 b5) (fun v6 => (ob v6 (fun b7 => (ob (rQ s b7 a2) (fun v8 => (ob v8 (fun b9 => (ob (gP s 9 1 b9) (fun v10 => (okO s 7 p0 ∧ C_Re_is sa p0 p1 v10 s kc ks (fun r11 sr11 cr11 dr11 => (if r11 = 0 then ((P2 (a2 + (1 : Int32)) sr11 cr11 dr11)) else ((ob (gP sr11 7 0 p0) (fun v12 => (ob v12 (fun b13 => (ob (gP sr11 11 8 b13) (fun v14 => (ob v14 (fun b15 => (ob (rQ sr11 b15 a2) (fun v16 => (Q v16 sr11 cr11 dr11))))))))))))))))))))))))))))) else ((Q none s kc ks))))))))
def C_Re_routerNamed_b2 (sa : Nat → Nat) (p0 : Nat) (p1 : Int32) (a2 : Int32) (s : cS) (kc ks : Nat) (Q : (Option Nat → cS → Nat → Nat → Prop)) : Prop := ∀ P2 : (Int32 → cS → Nat → Nat → Prop), (∀ (a2 : Int32) (s : cS) (kc ks : Nat), C_Re_routerNamed_s2 sa p0 p1 a2 s kc ks Q P2 → P2 a2 s kc ks) → P2 a2 s kc ks
def C_Re_routerNamed (sa : Nat → Nat) (p0 : Nat) (p1 : Int32) (s : cS) (kc ks : Nat) (Q : (Option Nat → cS → Nat → Nat → Prop)) : Prop := (C_Re_routerNamed_b2 sa p0 p1 (0 : Int32) s kc ks Q)
set_option maxRecDepth 100000 in
set_option maxHeartbeats 4000000 in
theorem kc_Re_routerNamed (base : Nat) (sa : Nat → Nat) {R : pmM} {s : cS} {kc ks : Nat} {Rt : pmR} {p0 : Nat} {p1 : Int32} {Q : (Option Nat → cS → Nat → Nat → Prop)} (hw : cW sa R base s) (h : C_Re_routerNamed sa p0 p1 s kc ks Q) (k : ∀ r s' kc' ks', cW sa R base s' → Q r s' kc' ks' → Rt (some (va_rf r)) (cM R s') kc' ks') : kP_Re_routerNamed base sa [.ref p0, .int p1] (cM R s) kc ks Rt := by
  refine ⟨Nat.le_of_ble_eq_true rfl, fun G hG => ?_⟩
  have b2 : ∀ (a2 : Int32) (s : cS) (kc ks : Nat), KK sa R base G 2 [(0, va_rf (some p0)), (1, .int p1), (2, .int a2)] [] s kc ks (C_Re_routerNamed_b2 sa p0 p1 a2 s kc ks Q) := by
    have H : ∀ (P2 : (Int32 → cS → Nat → Nat → Prop)) (hP2 : ∀ (a2 : Int32) (s : cS) (kc ks : Nat), P2 a2 s kc ks → cW sa R base s → G 2 [(0, va_rf (some p0)), (1, .int p1), (2, .int a2)] [] (cM R s) kc ks) (a2 : Int32) (s : cS) (kc ks : Nat), KK sa R base G 2 [(0, va_rf (some p0)), (1, .int p1), (2, .int a2)] [] s kc ks (C_Re_routerNamed_s2 sa p0 p1 a2 s kc ks Q P2) := by
      intro P2 hP2
      intro a2 s kc ks
      refine kks hG rfl rfl ?_
      refine kk_aln hG (x := (some p0)) rfl rfl ?_
      refine kk_gp hG (c := 7) (k := 0) (a := p0) rfl rfl rfl rfl (fun v1 => ?_)
      refine kk_ob (fun b2 eb2 => ?_)
      subst eb2
      refine kk_gi hG (c := 11) (k := 9) (a := b2) rfl rfl rfl rfl (fun v3 => ?_)
      refine kk_ige hG (t := 49) rfl rfl ?_ ?_
      · refine kks hG rfl rfl ?_
        exact kk_ra hG (x := none) rfl rfl rfl k
      refine kk_aln hG (x := (some p0)) rfl rfl ?_
      refine kks hG rfl rfl ?_
      refine kk_aln hG (x := (some p0)) rfl rfl ?_
      refine kk_gp hG (c := 7) (k := 0) (a := p0) rfl rfl rfl rfl (fun v4 => ?_)
      refine kk_ob (fun b5 eb5 => ?_)
      subst eb5
      refine kk_gp hG (c := 11) (k := 8) (a := b5) rfl rfl rfl rfl (fun v6 => ?_)
      refine kks hG rfl rfl ?_
      refine kk_ob (fun b7 eb7 => ?_)
      subst eb7
      refine kk_aa hG (a := b7) rfl (fun v8 => ?_)
      refine kk_ob (fun b9 eb9 => ?_)
      subst eb9
      refine kk_gp hG (c := 9) (k := 1) (a := b9) rfl rfl rfl rfl (fun v10 => ?_)
      refine kk_cx (w := .int) hG 0 rfl rfl (Nat.le_of_ble_eq_true rfl) (by decide) rfl (st' := []) rfl (cats_le (Nat.le_of_ble_eq_true rfl)) (fun _ hw h k => kk_rcv h.1 (kc_Re_is base sa hw h.2 k)) (fun r11 sr11 cr11 dr11 => ?_)
      refine kk_zeq hG (t := 43) rfl rfl ?_ ?_
      · refine kk_inc hG (L' := [(2, .int (a2 + (1 : Int32))), (0, va_rf (some p0)), (1, .int p1)]) rfl (Nat.le_of_ble_eq_true rfl) rfl cc_i1 rfl ?_
        refine kk_go hG (t := 2) rfl rfl ?_
        exact kk_wl hG [1, 2, 0] rfl (fun hw h => hP2 _ _ _ _ h hw)
      refine kk_aln hG (x := (some p0)) rfl rfl ?_
      refine kk_gp hG (c := 7) (k := 0) (a := p0) rfl rfl rfl rfl (fun v12 => ?_)
      refine kk_ob (fun b13 eb13 => ?_)
      subst eb13
      refine kk_gp hG (c := 11) (k := 8) (a := b13) rfl rfl rfl rfl (fun v14 => ?_)
      refine kks hG rfl rfl ?_
      refine kk_ob (fun b15 eb15 => ?_)
      subst eb15
      refine kk_aa hG (a := b15) rfl (fun v16 => ?_)
      exact kk_ra hG (x := v16) rfl rfl rfl k
    exact fun a2 s kc ks hw h => h (fun a2 s kc ks => cW sa R base s → G 2 [(0, va_rf (some p0)), (1, .int p1), (2, .int a2)] [] (cM R s) kc ks) (fun a2 s kc ks hs hw => H _ (fun _ _ _ _ hp hw => hp hw) a2 s kc ks hw hs) hw
  refine (show KK sa R base G 0 [(0, va_rf (some p0)), (1, .int p1)] [] s kc ks (C_Re_routerNamed sa p0 p1 s kc ks Q) from ?_) hw h
  refine kk_ic hG rfl cc_i0 ?_
  refine kk_st hG (L' := [(2, .int (0 : Int32)), (0, va_rf (some p0)), (1, .int p1)]) rfl rfl (Nat.le_of_ble_eq_true rfl) rfl ?_
  exact kk_wl hG [1, 2, 0] rfl (b2 _ _ _ _)
def C_Ta_init (sa : Nat → Nat) (p0 : Nat) (s : cS) (kc ks : Nat) (Q : (cS → Nat → Nat → Prop)) : Prop := nwQ sa s kc ks "RoutingField$Route" (16 : Int32) (fun q1 sq1 cq1 dq1 => (ob (pP sq1 10 0 p0 (some q1)) (fun s2 => (ob (pI s2 10 1 p0 (0 : Int32)) (fun s3 => (Q s3 cq1 dq1))))))
set_option maxRecDepth 100000 in
set_option maxHeartbeats 4000000 in
theorem kc_Ta_init (base : Nat) (sa : Nat → Nat) {R : pmM} {s : cS} {kc ks : Nat} {Rt : pmR} {p0 : Nat} {Q : (cS → Nat → Nat → Prop)} (hw : cW sa R base s) (h : C_Ta_init sa p0 s kc ks Q) (k : ∀ s' kc' ks', cW sa R base s' → Q s' kc' ks' → Rt none (cM R s') kc' ks') : kP_Ta_init base sa [.ref p0] (cM R s) kc ks Rt := by
  refine ⟨Nat.le_of_ble_eq_true rfl, fun G hG => ?_⟩
  refine (show KK sa R base G 0 [(0, va_rf (some p0))] [] s kc ks (C_Ta_init sa p0 s kc ks Q) from ?_) hw h
  refine kk_aln hG (x := (some p0)) rfl rfl ?_
  refine kk_oi hG (a := p0) rfl rfl (Nat.le_of_ble_eq_true rfl) ?_
  refine kk_aln hG (x := (some p0)) rfl rfl ?_
  refine kk_bi hG rfl cc_b16 ?_
  refine kk_naq hG (C := "RoutingField$Route") rfl rfl (fun q1 sq1 cq1 dq1 => ?_)
  refine kk_pp hG (c := 10) (k := 0) (a := p0) (v := (some q1)) rfl rfl rfl rfl rfl (fun s2 => ?_)
  refine kk_aln hG (x := (some p0)) rfl rfl ?_
  refine kk_ic hG rfl cc_i0 ?_
  refine kk_pi hG (c := 10) (k := 1) (a := p0) rfl rfl rfl rfl (fun s3 => ?_)
  exact kk_rv hG rfl rfl k
def C_Pl_init (sa : Nat → Nat) (p0 : Nat) (p1 : Option Nat) (p2 : Int32) (s : cS) (kc ks : Nat) (Q : (cS → Nat → Nat → Prop)) : Prop := ob (pI s 6 5 p0 (0 : Int32)) (fun s1 => (ob (pP s1 6 0 p0 p1) (fun s2 => (nwQ sa s2 kc ks "RoutingField$Prefix" (mxI p2 (1 : Int32)) (fun q3 sq3 cq3 dq3 => (ob (pP sq3 6 1 p0 (some q3)) (fun s4 => (nwA sa s4 cq3 dq3 .boolean (mxI p2 (1 : Int32)) (fun q5 sq5 cq5 dq5 => (ob (pP sq5 6 2 p0 (some q5)) (fun s6 => (nwA sa s6 cq5 dq5 .int (mxI p2 (1 : Int32)) (fun q7 sq7 cq7 dq7 => (ob (pP sq7 6 3 p0 (some q7)) (fun s8 => (nwA sa s8 cq7 dq7 .int (mxI p2 (1 : Int32)) (fun q9 sq9 cq9 dq9 => (ob (pP sq9 6 4 p0 (some q9)) (fun s10 => (Q s10 cq9 dq9))))))))))))))))))))
set_option maxRecDepth 100000 in
set_option maxHeartbeats 4000000 in
theorem kc_Pl_init (base : Nat) (sa : Nat → Nat) {R : pmM} {s : cS} {kc ks : Nat} {Rt : pmR} {p0 : Nat} {p1 : Option Nat} {p2 : Int32} {Q : (cS → Nat → Nat → Prop)} (hw : cW sa R base s) (h : C_Pl_init sa p0 p1 p2 s kc ks Q) (k : ∀ s' kc' ks', cW sa R base s' → Q s' kc' ks' → Rt none (cM R s') kc' ks') : kP_Pl_init base sa [.ref p0, va_rf p1, .int p2] (cM R s) kc ks Rt := by
  refine ⟨by cases p1 <;> exact Nat.le_of_ble_eq_true rfl, fun G hG => ?_⟩
  have eL : lv_args 0 [.ref p0, va_rf p1, .int p2] = [(0, va_rf (some p0)), (1, va_rf p1), (2, .int p2)] := by cases p1 <;> rfl
  rw [eL]
  refine (show KK sa R base G 0 [(0, va_rf (some p0)), (1, va_rf p1), (2, .int p2)] [] s kc ks (C_Pl_init sa p0 p1 p2 s kc ks Q) from ?_) hw h
  refine kk_aln hG (x := (some p0)) rfl rfl ?_
  refine kk_oi hG (a := p0) rfl rfl (Nat.le_of_ble_eq_true rfl) ?_
  refine kk_aln hG (x := (some p0)) rfl rfl ?_
  refine kk_ic hG rfl cc_i0 ?_
  refine kk_pi hG (c := 6) (k := 5) (a := p0) rfl rfl rfl rfl (fun s1 => ?_)
  refine kks hG rfl rfl ?_
  refine kk_ic hG rfl cc_i1 ?_
  refine kk_mx hG rfl rfl (Nat.le_of_ble_eq_true rfl) ?_
  refine kk_st hG (L' := [(3, .int (mxI p2 (1 : Int32))), (0, va_rf (some p0)), (1, va_rf p1), (2, .int p2)]) rfl rfl (Nat.le_of_ble_eq_true rfl) rfl ?_
  refine kk_aln hG (x := (some p0)) rfl rfl ?_
  refine kk_aln hG (x := p1) rfl rfl ?_
  refine kk_pp hG (c := 6) (k := 0) (a := p0) (v := p1) rfl rfl rfl rfl rfl (fun s2 => ?_)
  refine kk_aln hG (x := (some p0)) rfl rfl ?_
  refine kks hG rfl rfl ?_
  refine kk_naq hG (C := "RoutingField$Prefix") rfl rfl (fun q3 sq3 cq3 dq3 => ?_)
  refine kk_pp hG (c := 6) (k := 1) (a := p0) (v := (some q3)) rfl rfl rfl rfl rfl (fun s4 => ?_)
  refine kk_aln hG (x := (some p0)) rfl rfl ?_
  refine kks hG rfl rfl ?_
  refine kk_nar hG (ty := .boolean) rfl rfl rfl rfl (fun q5 sq5 cq5 dq5 => ?_)
  refine kk_pp hG (c := 6) (k := 2) (a := p0) (v := (some q5)) rfl rfl rfl rfl rfl (fun s6 => ?_)
  refine kk_aln hG (x := (some p0)) rfl rfl ?_
  refine kks hG rfl rfl ?_
  refine kk_nar hG (ty := .int) rfl rfl rfl rfl (fun q7 sq7 cq7 dq7 => ?_)
  refine kk_pp hG (c := 6) (k := 3) (a := p0) (v := (some q7)) rfl rfl rfl rfl rfl (fun s8 => ?_)
  refine kk_aln hG (x := (some p0)) rfl rfl ?_
  refine kks hG rfl rfl ?_
  refine kk_nar hG (ty := .int) rfl rfl rfl rfl (fun q9 sq9 cq9 dq9 => ?_)
  refine kk_pp hG (c := 6) (k := 4) (a := p0) (v := (some q9)) rfl rfl rfl rfl rfl (fun s10 => ?_)
  exact kk_rv hG rfl rfl k
def C_Rr_init (sa : Nat → Nat) (p0 : Nat) (p1 : Option Nat) (p2 : Option Nat) (p3 : Int32) (s : cS) (kc ks : Nat) (Q : (cS → Nat → Nat → Prop)) : Prop := ob (pZ s 9 3 p0 (1 : Int32)) (fun s1 => (nwQ sa s1 kc ks "RoutingField$Port" (4 : Int32) (fun q2 sq2 cq2 dq2 => (ob (pP sq2 9 4 p0 (some q2)) (fun s3 => (ob (pI s3 9 5 p0 (0 : Int32)) (fun s4 => (nwO sa s4 cq2 dq2 10 2 (fun q5 sq5 cq5 dq5 => (okO sq5 10 q5 ∧ C_Ta_init sa q5 sq5 cq5 dq5 (fun sr6 cr6 dr6 => (ob (pP sr6 9 6 p0 (some q5)) (fun s7 => (nwO sa s7 cr6 dr6 10 2 (fun q8 sq8 cq8 dq8 => (okO sq8 10 q8 ∧ C_Ta_init sa q8 sq8 cq8 dq8 (fun sr9 cr9 dr9 => (ob (pP sr9 9 7 p0 (some q8)) (fun s10 => (nwQ sa s10 cr9 dr9 "RoutingField$PrefixList" (2 : Int32) (fun q11 sq11 cq11 dq11 => (ob (pP sq11 9 8 p0 (some q11)) (fun s12 => (nwM sa s12 cq11 dq11 .int 8 4 (fun q13 sq13 cq13 dq13 => (ob (pP sq13 9 9 p0 (some q13)) (fun s14 => (ob (pI s14 9 10 p0 (0 : Int32)) (fun s15 => (nwM sa s15 cq13 dq13 .int 8 4 (fun q16 sq16 cq16 dq16 => (ob (pP sq16 9 11 p0 (some q16)) (fun s17 => (ob (pI s17 9 12 p0 (0 : Int32)) (fun s18 => (nwA sa s18 cq16 dq16 .int (2 : Int32) (fun q19 sq19 cq19 dq19 => (ob (wEi sq19 q19 (0 : Int32) (0 : Int32)) (fun s20 => (ob (wEi s20 q19 (1 : Int32) (0 : Int32)) (fun s21 => (ob (pP s21 9 13 p0 (some q19)) (fun s22 => (nwA sa s22 cq19 dq19 .int (2 : Int32) (fun q23 sq23 cq23 dq23 => (ob (wEi sq23 q23 (0 : Int32) ((-1) : Int32)) (fun s24 => (ob (wEi s24 q23 (1 : Int32) ((-1) : Int32)) (fun s25 => (ob (pP s25 9 14 p0 (some q23)) (fun s26 => (nwA sa s26 cq23 dq23 .int (3 : Int32) (fun q27 sq27 cq27 dq27 => (ob (wEi sq27 q27 (0 : Int32) (30 : Int32)) (fun s28 => (ob (wEi s28 q27 (1 : Int32) (180 : Int32)) (fun s29 => (ob (wEi s29 q27 (2 : Int32) (120 : Int32)) (fun s30 => (ob (pP s30 9 15 p0 (some q27)) (fun s31 => (nwA sa s31 cq27 dq27 .int (11 : Int32) (fun q32 sq32 cq32 dq32 => (ob (pP sq32 9 16 p0 (some q32)) (fun s33 => (ob (pI s33 9 18 p0 ((-1) : Int32)) (fun s34 => (ob (pI s34 9 19 p0 (0 : Int32)) (fun s35 => (ob (pP s35 9 0 p0 p1) (fun s36 => (ob (pP s36 9 1 p0 p2) (fun s37 => (ob (pI s37 9 2 p0 p3) (fun s38 => (ob (gP s38 9 8 p0) (fun v39 => (nwO sa s38 cq32 dq32 6 6 (fun q40 sq40 cq40 dq40 => (okO sq40 6 q40 ∧ C_Pl_init sa q40 (some (sa 3)) (32 : Int32) sq40 cq40 dq40 (fun sr41 cr41 dr41 => (ob v39 (fun b42 => (ob (wQ sr41 b42 (0 : Int32) (some q40)) (fun s43 => (ob (gP s43 9 8 p0) (fun v44 => (nwO sa s43 cr41 dr41 6 6 (fun q45 sq45 cq45 dq45 => (okO sq45 6 q45 ∧ C_Pl_init sa q45 (some (sa 3)) (32 : Int32) sq45 cq45 dq45 (fun sr46 cr46 dr46 => (ob v44 (fun b47 => (ob (wQ sr46 b47 (1 : Int32) (some q45)) (fun s48 => (ob p1 (fun b49 => (ob (gI s48 11 5 b49) (fun v50 => (ob (gP s48 9 15 p0) (fun v51 => (ob v51 (fun b52 => (ob (rE s48 .int b52 (0 : Int32)) (fun v53 => (ob (pI s48 9 17 p0 (v50 + v53)) (fun s54 => (Q s54 cr46 dr46))))))))))))))))))))))))))))))))))))))))))))))))))))))))))))))))))))))))))))))))))))))))))))))))))))))))))))
set_option maxRecDepth 100000 in
set_option maxHeartbeats 4000000 in
theorem kc_Rr_init (base : Nat) (sa : Nat → Nat) {R : pmM} {s : cS} {kc ks : Nat} {Rt : pmR} {p0 : Nat} {p1 : Option Nat} {p2 : Option Nat} {p3 : Int32} {Q : (cS → Nat → Nat → Prop)} (hw : cW sa R base s) (h : C_Rr_init sa p0 p1 p2 p3 s kc ks Q) (k : ∀ s' kc' ks', cW sa R base s' → Q s' kc' ks' → Rt none (cM R s') kc' ks') : kP_Rr_init base sa [.ref p0, va_rf p1, va_rf p2, .int p3] (cM R s) kc ks Rt := by
  refine ⟨by cases p1 <;> cases p2 <;> exact Nat.le_of_ble_eq_true rfl, fun G hG => ?_⟩
  have eL : lv_args 0 [.ref p0, va_rf p1, va_rf p2, .int p3] = [(0, va_rf (some p0)), (1, va_rf p1), (2, va_rf p2), (3, .int p3)] := by cases p1 <;> cases p2 <;> rfl
  rw [eL]
  refine (show KK sa R base G 0 [(0, va_rf (some p0)), (1, va_rf p1), (2, va_rf p2), (3, .int p3)] [] s kc ks (C_Rr_init sa p0 p1 p2 p3 s kc ks Q) from ?_) hw h
  refine kk_aln hG (x := (some p0)) rfl rfl ?_
  refine kk_oi hG (a := p0) rfl rfl (Nat.le_of_ble_eq_true rfl) ?_
  refine kk_aln hG (x := (some p0)) rfl rfl ?_
  refine kk_ic hG rfl cc_i1 ?_
  refine kk_pz hG (c := 9) (k := 3) (a := p0) rfl rfl rfl rfl (fun s1 => ?_)
  refine kk_aln hG (x := (some p0)) rfl rfl ?_
  refine kk_ic hG rfl cc_i4 ?_
  refine kk_naq hG (C := "RoutingField$Port") rfl rfl (fun q2 sq2 cq2 dq2 => ?_)
  refine kk_pp hG (c := 9) (k := 4) (a := p0) (v := (some q2)) rfl rfl rfl rfl rfl (fun s3 => ?_)
  refine kk_aln hG (x := (some p0)) rfl rfl ?_
  refine kk_ic hG rfl cc_i0 ?_
  refine kk_pi hG (c := 9) (k := 5) (a := p0) rfl rfl rfl rfl (fun s4 => ?_)
  refine kk_aln hG (x := (some p0)) rfl rfl ?_
  refine kk_new hG (c := 10) (n := 2) rfl rfl rfl rfl (fun q5 sq5 cq5 dq5 => ?_)
  refine kk_dup hG (x := (some q5)) rfl ?_
  refine kk_cv hG 1 rfl rfl (Nat.le_of_ble_eq_true rfl) (by decide) rfl (st' := [va_rf (some q5), va_rf (some p0)]) rfl (cats_le (Nat.le_of_ble_eq_true rfl)) (fun _ hw h k => kk_rcv h.1 (kc_Ta_init base sa hw h.2 k)) (fun sr6 cr6 dr6 => ?_)
  refine kk_pp hG (c := 9) (k := 6) (a := p0) (v := (some q5)) rfl rfl rfl rfl rfl (fun s7 => ?_)
  refine kk_aln hG (x := (some p0)) rfl rfl ?_
  refine kk_new hG (c := 10) (n := 2) rfl rfl rfl rfl (fun q8 sq8 cq8 dq8 => ?_)
  refine kk_dup hG (x := (some q8)) rfl ?_
  refine kk_cv hG 1 rfl rfl (Nat.le_of_ble_eq_true rfl) (by decide) rfl (st' := [va_rf (some q8), va_rf (some p0)]) rfl (cats_le (Nat.le_of_ble_eq_true rfl)) (fun _ hw h k => kk_rcv h.1 (kc_Ta_init base sa hw h.2 k)) (fun sr9 cr9 dr9 => ?_)
  refine kk_pp hG (c := 9) (k := 7) (a := p0) (v := (some q8)) rfl rfl rfl rfl rfl (fun s10 => ?_)
  refine kk_aln hG (x := (some p0)) rfl rfl ?_
  refine kk_ic hG rfl cc_i2 ?_
  refine kk_naq hG (C := "RoutingField$PrefixList") rfl rfl (fun q11 sq11 cq11 dq11 => ?_)
  refine kk_pp hG (c := 9) (k := 8) (a := p0) (v := (some q11)) rfl rfl rfl rfl rfl (fun s12 => ?_)
  refine kk_aln hG (x := (some p0)) rfl rfl ?_
  refine kk_bi hG rfl cc_b8 ?_
  refine kk_ic hG rfl cc_i4 ?_
  refine kk_mul hG (n := 8) (k := 4) (ty := .int) rfl rfl rfl rfl (Nat.le_of_ble_eq_true rfl) (fun q13 sq13 cq13 dq13 => ?_)
  refine kk_pp hG (c := 9) (k := 9) (a := p0) (v := (some q13)) rfl rfl rfl rfl rfl (fun s14 => ?_)
  refine kk_aln hG (x := (some p0)) rfl rfl ?_
  refine kk_ic hG rfl cc_i0 ?_
  refine kk_pi hG (c := 9) (k := 10) (a := p0) rfl rfl rfl rfl (fun s15 => ?_)
  refine kk_aln hG (x := (some p0)) rfl rfl ?_
  refine kk_bi hG rfl cc_b8 ?_
  refine kk_ic hG rfl cc_i4 ?_
  refine kk_mul hG (n := 8) (k := 4) (ty := .int) rfl rfl rfl rfl (Nat.le_of_ble_eq_true rfl) (fun q16 sq16 cq16 dq16 => ?_)
  refine kk_pp hG (c := 9) (k := 11) (a := p0) (v := (some q16)) rfl rfl rfl rfl rfl (fun s17 => ?_)
  refine kk_aln hG (x := (some p0)) rfl rfl ?_
  refine kk_ic hG rfl cc_i0 ?_
  refine kk_pi hG (c := 9) (k := 12) (a := p0) rfl rfl rfl rfl (fun s18 => ?_)
  refine kk_aln hG (x := (some p0)) rfl rfl ?_
  refine kk_ic hG rfl cc_i2 ?_
  refine kk_nar hG (ty := .int) rfl rfl rfl rfl (fun q19 sq19 cq19 dq19 => ?_)
  refine kk_dup hG (x := (some q19)) rfl ?_
  refine kk_ic hG rfl cc_i0 ?_
  refine kk_ic hG rfl cc_i0 ?_
  refine kk_is hG (a := q19) rfl (fun s20 => ?_)
  refine kk_dup hG (x := (some q19)) rfl ?_
  refine kk_ic hG rfl cc_i1 ?_
  refine kk_ic hG rfl cc_i0 ?_
  refine kk_is hG (a := q19) rfl (fun s21 => ?_)
  refine kk_pp hG (c := 9) (k := 13) (a := p0) (v := (some q19)) rfl rfl rfl rfl rfl (fun s22 => ?_)
  refine kk_aln hG (x := (some p0)) rfl rfl ?_
  refine kk_ic hG rfl cc_i2 ?_
  refine kk_nar hG (ty := .int) rfl rfl rfl rfl (fun q23 sq23 cq23 dq23 => ?_)
  refine kk_dup hG (x := (some q23)) rfl ?_
  refine kk_ic hG rfl cc_i0 ?_
  refine kk_ic hG rfl cc_im1 ?_
  refine kk_is hG (a := q23) rfl (fun s24 => ?_)
  refine kk_dup hG (x := (some q23)) rfl ?_
  refine kk_ic hG rfl cc_i1 ?_
  refine kk_ic hG rfl cc_im1 ?_
  refine kk_is hG (a := q23) rfl (fun s25 => ?_)
  refine kk_pp hG (c := 9) (k := 14) (a := p0) (v := (some q23)) rfl rfl rfl rfl rfl (fun s26 => ?_)
  refine kk_aln hG (x := (some p0)) rfl rfl ?_
  refine kk_ic hG rfl cc_i3 ?_
  refine kk_nar hG (ty := .int) rfl rfl rfl rfl (fun q27 sq27 cq27 dq27 => ?_)
  refine kk_dup hG (x := (some q27)) rfl ?_
  refine kk_ic hG rfl cc_i0 ?_
  refine kk_bi hG rfl cc_b30 ?_
  refine kk_is hG (a := q27) rfl (fun s28 => ?_)
  refine kk_dup hG (x := (some q27)) rfl ?_
  refine kk_ic hG rfl cc_i1 ?_
  refine kk_si hG rfl cc_s180 ?_
  refine kk_is hG (a := q27) rfl (fun s29 => ?_)
  refine kk_dup hG (x := (some q27)) rfl ?_
  refine kk_ic hG rfl cc_i2 ?_
  refine kk_bi hG rfl cc_b120 ?_
  refine kk_is hG (a := q27) rfl (fun s30 => ?_)
  refine kk_pp hG (c := 9) (k := 15) (a := p0) (v := (some q27)) rfl rfl rfl rfl rfl (fun s31 => ?_)
  refine kk_aln hG (x := (some p0)) rfl rfl ?_
  refine kk_bi hG rfl cc_b11 ?_
  refine kk_nar hG (ty := .int) rfl rfl rfl rfl (fun q32 sq32 cq32 dq32 => ?_)
  refine kk_pp hG (c := 9) (k := 16) (a := p0) (v := (some q32)) rfl rfl rfl rfl rfl (fun s33 => ?_)
  refine kk_aln hG (x := (some p0)) rfl rfl ?_
  refine kk_ic hG rfl cc_im1 ?_
  refine kk_pi hG (c := 9) (k := 18) (a := p0) rfl rfl rfl rfl (fun s34 => ?_)
  refine kk_aln hG (x := (some p0)) rfl rfl ?_
  refine kk_ic hG rfl cc_i0 ?_
  refine kk_pi hG (c := 9) (k := 19) (a := p0) rfl rfl rfl rfl (fun s35 => ?_)
  refine kk_aln hG (x := (some p0)) rfl rfl ?_
  refine kk_aln hG (x := p1) rfl rfl ?_
  refine kk_pp hG (c := 9) (k := 0) (a := p0) (v := p1) rfl rfl rfl rfl rfl (fun s36 => ?_)
  refine kk_aln hG (x := (some p0)) rfl rfl ?_
  refine kk_aln hG (x := p2) rfl rfl ?_
  refine kk_pp hG (c := 9) (k := 1) (a := p0) (v := p2) rfl rfl rfl rfl rfl (fun s37 => ?_)
  refine kk_aln hG (x := (some p0)) rfl rfl ?_
  refine kks hG rfl rfl ?_
  refine kk_pi hG (c := 9) (k := 2) (a := p0) rfl rfl rfl rfl (fun s38 => ?_)
  refine kk_aln hG (x := (some p0)) rfl rfl ?_
  refine kk_gp hG (c := 9) (k := 8) (a := p0) rfl rfl rfl rfl (fun v39 => ?_)
  refine kk_ic hG rfl cc_i0 ?_
  refine kk_new hG (c := 6) (n := 6) rfl rfl rfl rfl (fun q40 sq40 cq40 dq40 => ?_)
  refine kk_dup hG (x := (some q40)) rfl ?_
  refine kk_lds hG (a := sa 3) rfl rfl ?_
  refine kk_bi hG rfl cc_b32 ?_
  refine kk_cv hG 1 rfl rfl (Nat.le_of_ble_eq_true rfl) (by decide) rfl (st' := [va_rf (some q40), .int (0 : Int32), va_rf v39]) rfl (cats_le (Nat.le_of_ble_eq_true rfl)) (fun _ hw h k => kk_rcv h.1 (kc_Pl_init base sa hw h.2 k)) (fun sr41 cr41 dr41 => ?_)
  refine kk_ob (fun b42 eb42 => ?_)
  subst eb42
  refine kk_aas hG (a := b42) (x := (some q40)) rfl (fun s43 => ?_)
  refine kk_aln hG (x := (some p0)) rfl rfl ?_
  refine kk_gp hG (c := 9) (k := 8) (a := p0) rfl rfl rfl rfl (fun v44 => ?_)
  refine kk_ic hG rfl cc_i1 ?_
  refine kk_new hG (c := 6) (n := 6) rfl rfl rfl rfl (fun q45 sq45 cq45 dq45 => ?_)
  refine kk_dup hG (x := (some q45)) rfl ?_
  refine kk_lds hG (a := sa 3) rfl rfl ?_
  refine kk_bi hG rfl cc_b32 ?_
  refine kk_cv hG 1 rfl rfl (Nat.le_of_ble_eq_true rfl) (by decide) rfl (st' := [va_rf (some q45), .int (1 : Int32), va_rf v44]) rfl (cats_le (Nat.le_of_ble_eq_true rfl)) (fun _ hw h k => kk_rcv h.1 (kc_Pl_init base sa hw h.2 k)) (fun sr46 cr46 dr46 => ?_)
  refine kk_ob (fun b47 eb47 => ?_)
  subst eb47
  refine kk_aas hG (a := b47) (x := (some q45)) rfl (fun s48 => ?_)
  refine kk_aln hG (x := (some p0)) rfl rfl ?_
  refine kk_aln hG (x := p1) rfl rfl ?_
  refine kk_ob (fun b49 eb49 => ?_)
  subst eb49
  refine kk_gi hG (c := 11) (k := 5) (a := b49) rfl rfl rfl rfl (fun v50 => ?_)
  refine kk_aln hG (x := (some p0)) rfl rfl ?_
  refine kk_gp hG (c := 9) (k := 15) (a := p0) rfl rfl rfl rfl (fun v51 => ?_)
  refine kk_ic hG rfl cc_i0 ?_
  refine kk_ob (fun b52 eb52 => ?_)
  subst eb52
  refine kk_ia hG (a := b52) rfl (fun v53 => ?_)
  refine kks hG rfl rfl ?_
  refine kk_pi hG (c := 9) (k := 17) (a := p0) rfl rfl rfl rfl (fun s54 => ?_)
  exact kk_rv hG rfl rfl k
def C_Re_routerLine (sa : Nat → Nat) (p0 : Nat) (s : cS) (kc ks : Nat) (Q : (Int32 → cS → Nat → Nat → Prop)) : Prop := ob (gI s 7 3 p0) (fun v1 => (if v1 = (2 : Int32) then (okO s 7 p0 ∧ C_Re_isName sa p0 (1 : Int32) s kc ks (fun r2 sr2 cr2 dr2 => (if r2 = 0 then (Q (3 : Int32) sr2 cr2 dr2) else (okO sr2 7 p0 ∧ C_Re_routerNamed sa p0 (1 : Int32) sr2 cr2 dr2 (fun r3 sr3 cr3 dr3 => (if r3 = none then (ob (gP sr3 7 0 p0) (fun v4 => (ob v4 (fun b5 => (ob (gI sr3 11 9 b5) (fun v6 => (if v6 < (6 : Int32) then (ob (gP sr3 7 0 p0) (fun v7 => (ob v7 (fun b8 => (ob (gP sr3 11 8 b8) (fun v9 => (ob (gP sr3 7 0 p0) (fun v10 => (ob v10 (fun b11 => (ob (gI sr3 11 9 b11) (fun v12 => (nwO sa sr3 cr3 dr3 9 20 (fun q13 sq13 cq13 dq13 => (ob (gP sq13 7 0 p0) (fun v14 => (okO sq13 7 p0 ∧ C_Re_nameAt sa p0 (1 : Int32) sq13 cq13 dq13 (fun r15 sr15 cr15 dr15 => (ob (gP sr15 7 0 p0) (fun v16 => (ob v16 (fun b17 => (ob (gI sr15 11 9 b17) (fun v18 => (okO sr15 9 q13 ∧ C_Rr_init sa q13 v14 r15 v18 sr15 cr15 dr15 (fun sr19 cr19 dr19 => (ob v9 (fun b20 => (ob (wQ sr19 b20 v12 (some q13)) (fun s21 => (ob (gP s21 7 0 p0) (fun v22 => (ob v22 (fun b23 => (ob (gI s21 11 9 b23) (fun v24 => (ob (pI s21 11 9 b23 (v24 + (1 : Int32))) (fun s25 => (Q (0 : Int32) s25 cr19 dr19))))))))))))))))))))))))))))))))))))))) else (Q (6 : Int32) sr3 cr3 dr3)))))))) else (Q (3 : Int32) sr3 cr3 dr3))))))) else (Q (2 : Int32) s kc ks)))
set_option maxRecDepth 100000 in
set_option maxHeartbeats 4000000 in
theorem kc_Re_routerLine (base : Nat) (sa : Nat → Nat) {R : pmM} {s : cS} {kc ks : Nat} {Rt : pmR} {p0 : Nat} {Q : (Int32 → cS → Nat → Nat → Prop)} (hw : cW sa R base s) (h : C_Re_routerLine sa p0 s kc ks Q) (k : ∀ r s' kc' ks', cW sa R base s' → Q r s' kc' ks' → Rt (some (.int r)) (cM R s') kc' ks') : kP_Re_routerLine base sa [.ref p0] (cM R s) kc ks Rt := by
  refine ⟨Nat.le_of_ble_eq_true rfl, fun G hG => ?_⟩
  refine (show KK sa R base G 0 [(0, va_rf (some p0))] [] s kc ks (C_Re_routerLine sa p0 s kc ks Q) from ?_) hw h
  refine kk_aln hG (x := (some p0)) rfl rfl ?_
  refine kk_gi hG (c := 7) (k := 3) (a := p0) rfl rfl rfl rfl (fun v1 => ?_)
  refine kk_ic hG rfl cc_i2 ?_
  refine kk_ieq hG (t := 10) rfl rfl ?_ ?_
  · refine kk_aln hG (x := (some p0)) rfl rfl ?_
    refine kk_ic hG rfl cc_i1 ?_
    refine kk_cx (w := .int) hG 0 rfl rfl (Nat.le_of_ble_eq_true rfl) (by decide) rfl (st' := []) rfl (cats_le (Nat.le_of_ble_eq_true rfl)) (fun _ hw h k => kk_rcv h.1 (kc_Re_isName base sa hw h.2 k)) (fun r2 sr2 cr2 dr2 => ?_)
    refine kk_zeq hG (t := 26) rfl rfl ?_ ?_
    · refine kk_ic hG rfl cc_i3 ?_
      exact kk_ri hG rfl rfl rfl k
    refine kk_aln hG (x := (some p0)) rfl rfl ?_
    refine kk_ic hG rfl cc_i1 ?_
    refine kk_cx (w := va_rf) hG 0 rfl rfl (Nat.le_of_ble_eq_true rfl) (by decide) rfl (st' := []) rfl (cats_le (Nat.le_of_ble_eq_true rfl)) (fun _ hw h k => kk_rcv h.1 (kc_Re_routerNamed base sa hw h.2 k)) (fun r3 sr3 cr3 dr3 => ?_)
    refine kk_nul hG (x := r3) (t := 28) rfl rfl ?_ ?_
    · refine kk_aln hG (x := (some p0)) rfl rfl ?_
      refine kk_gp hG (c := 7) (k := 0) (a := p0) rfl rfl rfl rfl (fun v4 => ?_)
      refine kk_ob (fun b5 eb5 => ?_)
      subst eb5
      refine kk_gi hG (c := 11) (k := 9) (a := b5) rfl rfl rfl rfl (fun v6 => ?_)
      refine kk_bi hG rfl cc_b6 ?_
      refine kk_ilt hG (t := 43) rfl rfl ?_ ?_
      · refine kk_aln hG (x := (some p0)) rfl rfl ?_
        refine kk_gp hG (c := 7) (k := 0) (a := p0) rfl rfl rfl rfl (fun v7 => ?_)
        refine kk_ob (fun b8 eb8 => ?_)
        subst eb8
        refine kk_gp hG (c := 11) (k := 8) (a := b8) rfl rfl rfl rfl (fun v9 => ?_)
        refine kk_aln hG (x := (some p0)) rfl rfl ?_
        refine kk_gp hG (c := 7) (k := 0) (a := p0) rfl rfl rfl rfl (fun v10 => ?_)
        refine kk_ob (fun b11 eb11 => ?_)
        subst eb11
        refine kk_gi hG (c := 11) (k := 9) (a := b11) rfl rfl rfl rfl (fun v12 => ?_)
        refine kk_new hG (c := 9) (n := 20) rfl rfl rfl rfl (fun q13 sq13 cq13 dq13 => ?_)
        refine kk_dup hG (x := (some q13)) rfl ?_
        refine kk_aln hG (x := (some p0)) rfl rfl ?_
        refine kk_gp hG (c := 7) (k := 0) (a := p0) rfl rfl rfl rfl (fun v14 => ?_)
        refine kk_aln hG (x := (some p0)) rfl rfl ?_
        refine kk_ic hG rfl cc_i1 ?_
        refine kk_cx (w := va_rf) hG 0 rfl rfl (Nat.le_of_ble_eq_true rfl) (by decide) rfl (st' := [va_rf v14, va_rf (some q13), va_rf (some q13), .int v12, va_rf v9]) rfl (Nat.le_trans (catc1 (cat_rf _) (catc1 (cat_rf _) (catc1 (cat_rf _) (catc1 rfl (catc1 (cat_rf _) cats0))))) (by decide)) (fun _ hw h k => kk_rcv h.1 (kc_Re_nameAt base sa hw h.2 k)) (fun r15 sr15 cr15 dr15 => ?_)
        refine kk_aln hG (x := (some p0)) rfl rfl ?_
        refine kk_gp hG (c := 7) (k := 0) (a := p0) rfl rfl rfl rfl (fun v16 => ?_)
        refine kk_ob (fun b17 eb17 => ?_)
        subst eb17
        refine kk_gi hG (c := 11) (k := 9) (a := b17) rfl rfl rfl rfl (fun v18 => ?_)
        refine kk_cv hG 1 rfl rfl (Nat.le_of_ble_eq_true rfl) (by decide) rfl (st' := [va_rf (some q13), .int v12, va_rf v9]) rfl (cats_le (Nat.le_of_ble_eq_true rfl)) (fun _ hw h k => kk_rcv h.1 (kc_Rr_init base sa hw h.2 k)) (fun sr19 cr19 dr19 => ?_)
        refine kk_ob (fun b20 eb20 => ?_)
        subst eb20
        refine kk_aas hG (a := b20) (x := (some q13)) rfl (fun s21 => ?_)
        refine kk_aln hG (x := (some p0)) rfl rfl ?_
        refine kk_gp hG (c := 7) (k := 0) (a := p0) rfl rfl rfl rfl (fun v22 => ?_)
        refine kk_dup hG (x := v22) rfl ?_
        refine kk_ob (fun b23 eb23 => ?_)
        subst eb23
        refine kk_gi hG (c := 11) (k := 9) (a := b23) rfl rfl rfl rfl (fun v24 => ?_)
        refine kk_ic hG rfl cc_i1 ?_
        refine kks hG rfl rfl ?_
        refine kk_pi hG (c := 11) (k := 9) (a := b23) rfl rfl rfl rfl (fun s25 => ?_)
        refine kk_ic hG rfl cc_i0 ?_
        exact kk_ri hG rfl rfl rfl k
      refine kk_bi hG rfl cc_b6 ?_
      exact kk_ri hG rfl rfl rfl k
    refine kk_ic hG rfl cc_i3 ?_
    exact kk_ri hG rfl rfl rfl k
  refine kk_ic hG rfl cc_i2 ?_
  exact kk_ri hG rfl rfl rfl k
def C_Re_joinOption (sa : Nat → Nat) (p0 : Nat) (p1 : Int32) (s : cS) (kc ks : Nat) (Q : (Int32 → cS → Nat → Nat → Prop)) : Prop := okO s 7 p0 ∧ C_Re_is sa p0 p1 (some (sa 6)) s kc ks (fun r1 sr1 cr1 dr1 => (if r1 = 0 then (okO sr1 7 p0 ∧ C_Re_is sa p0 p1 (some (sa 7)) sr1 cr1 dr1 (fun r2 sr2 cr2 dr2 => (if r2 = 0 then (okO sr2 7 p0 ∧ C_Re_is sa p0 p1 (some (sa 8)) sr2 cr2 dr2 (fun r3 sr3 cr3 dr3 => (if r3 = 0 then (okO sr3 7 p0 ∧ C_Re_is sa p0 p1 (some (sa 9)) sr3 cr3 dr3 (fun r4 sr4 cr4 dr4 => (if r4 = 0 then (okO sr4 7 p0 ∧ C_Re_is sa p0 p1 (some (sa 10)) sr4 cr4 dr4 (fun r5 sr5 cr5 dr5 => (if r5 = 0 then (okO sr5 7 p0 ∧ C_Re_is sa p0 p1 (some (sa 11)) sr5 cr5 dr5 (fun r6 sr6 cr6 dr6 => (if r6 = 0 then (Q ((-1) : Int32) sr6 cr6 dr6) else (Q (6 : Int32) sr6 cr6 dr6)))) else (Q (5 : Int32) sr5 cr5 dr5)))) else (Q (4 : Int32) sr4 cr4 dr4)))) else (Q (3 : Int32) sr3 cr3 dr3)))) else (Q (2 : Int32) sr2 cr2 dr2)))) else (Q (1 : Int32) sr1 cr1 dr1)))
set_option maxRecDepth 100000 in
set_option maxHeartbeats 4000000 in
theorem kc_Re_joinOption (base : Nat) (sa : Nat → Nat) {R : pmM} {s : cS} {kc ks : Nat} {Rt : pmR} {p0 : Nat} {p1 : Int32} {Q : (Int32 → cS → Nat → Nat → Prop)} (hw : cW sa R base s) (h : C_Re_joinOption sa p0 p1 s kc ks Q) (k : ∀ r s' kc' ks', cW sa R base s' → Q r s' kc' ks' → Rt (some (.int r)) (cM R s') kc' ks') : kP_Re_joinOption base sa [.ref p0, .int p1] (cM R s) kc ks Rt := by
  refine ⟨Nat.le_of_ble_eq_true rfl, fun G hG => ?_⟩
  refine (show KK sa R base G 0 [(0, va_rf (some p0)), (1, .int p1)] [] s kc ks (C_Re_joinOption sa p0 p1 s kc ks Q) from ?_) hw h
  refine kk_aln hG (x := (some p0)) rfl rfl ?_
  refine kks hG rfl rfl ?_
  refine kk_lws hG (a := sa 6) rfl rfl ?_
  refine kk_cx (w := .int) hG 0 rfl rfl (Nat.le_of_ble_eq_true rfl) (by decide) rfl (st' := []) rfl (cats_le (Nat.le_of_ble_eq_true rfl)) (fun _ hw h k => kk_rcv h.1 (kc_Re_is base sa hw h.2 k)) (fun r1 sr1 cr1 dr1 => ?_)
  refine kk_zeq hG (t := 13) rfl rfl ?_ ?_
  · refine kk_aln hG (x := (some p0)) rfl rfl ?_
    refine kks hG rfl rfl ?_
    refine kk_lws hG (a := sa 7) rfl rfl ?_
    refine kk_cx (w := .int) hG 0 rfl rfl (Nat.le_of_ble_eq_true rfl) (by decide) rfl (st' := []) rfl (cats_le (Nat.le_of_ble_eq_true rfl)) (fun _ hw h k => kk_rcv h.1 (kc_Re_is base sa hw h.2 k)) (fun r2 sr2 cr2 dr2 => ?_)
    refine kk_zeq hG (t := 26) rfl rfl ?_ ?_
    · refine kk_aln hG (x := (some p0)) rfl rfl ?_
      refine kks hG rfl rfl ?_
      refine kk_lws hG (a := sa 8) rfl rfl ?_
      refine kk_cx (w := .int) hG 0 rfl rfl (Nat.le_of_ble_eq_true rfl) (by decide) rfl (st' := []) rfl (cats_le (Nat.le_of_ble_eq_true rfl)) (fun _ hw h k => kk_rcv h.1 (kc_Re_is base sa hw h.2 k)) (fun r3 sr3 cr3 dr3 => ?_)
      refine kk_zeq hG (t := 39) rfl rfl ?_ ?_
      · refine kk_aln hG (x := (some p0)) rfl rfl ?_
        refine kks hG rfl rfl ?_
        refine kk_lws hG (a := sa 9) rfl rfl ?_
        refine kk_cx (w := .int) hG 0 rfl rfl (Nat.le_of_ble_eq_true rfl) (by decide) rfl (st' := []) rfl (cats_le (Nat.le_of_ble_eq_true rfl)) (fun _ hw h k => kk_rcv h.1 (kc_Re_is base sa hw h.2 k)) (fun r4 sr4 cr4 dr4 => ?_)
        refine kk_zeq hG (t := 52) rfl rfl ?_ ?_
        · refine kk_aln hG (x := (some p0)) rfl rfl ?_
          refine kks hG rfl rfl ?_
          refine kk_lws hG (a := sa 10) rfl rfl ?_
          refine kk_cx (w := .int) hG 0 rfl rfl (Nat.le_of_ble_eq_true rfl) (by decide) rfl (st' := []) rfl (cats_le (Nat.le_of_ble_eq_true rfl)) (fun _ hw h k => kk_rcv h.1 (kc_Re_is base sa hw h.2 k)) (fun r5 sr5 cr5 dr5 => ?_)
          refine kk_zeq hG (t := 65) rfl rfl ?_ ?_
          · refine kk_aln hG (x := (some p0)) rfl rfl ?_
            refine kks hG rfl rfl ?_
            refine kk_lws hG (a := sa 11) rfl rfl ?_
            refine kk_cx (w := .int) hG 0 rfl rfl (Nat.le_of_ble_eq_true rfl) (by decide) rfl (st' := []) rfl (cats_le (Nat.le_of_ble_eq_true rfl)) (fun _ hw h k => kk_rcv h.1 (kc_Re_is base sa hw h.2 k)) (fun r6 sr6 cr6 dr6 => ?_)
            refine kk_zeq hG (t := 81) rfl rfl ?_ ?_
            · refine kk_ic hG rfl cc_im1 ?_
              exact kk_ri hG rfl rfl rfl k
            refine kk_bi hG rfl cc_b6 ?_
            refine kk_go hG (t := 82) rfl rfl ?_
            exact kk_ri hG rfl rfl rfl k
          refine kk_ic hG rfl cc_i5 ?_
          exact kk_ri hG rfl rfl rfl k
        refine kk_ic hG rfl cc_i4 ?_
        exact kk_ri hG rfl rfl rfl k
      refine kk_ic hG rfl cc_i3 ?_
      exact kk_ri hG rfl rfl rfl k
    refine kk_ic hG rfl cc_i2 ?_
    exact kk_ri hG rfl rfl rfl k
  refine kk_ic hG rfl cc_i1 ?_
  exact kk_ri hG rfl rfl rfl k
def C_Re_splitAt (sa : Nat → Nat) (p0 : Nat) (p1 : Int32) (s : cS) (kc ks : Nat) (Q : (Int32 → cS → Nat → Nat → Prop)) : Prop := okO s 7 p0 ∧ C_Re_is sa p0 p1 (some (sa 12)) s kc ks (fun r1 sr1 cr1 dr1 => (if r1 = 0 then (okO sr1 7 p0 ∧ C_Re_is sa p0 p1 (some (sa 13)) sr1 cr1 dr1 (fun r2 sr2 cr2 dr2 => (if r2 = 0 then (okO sr2 7 p0 ∧ C_Re_is sa p0 p1 (some (sa 14)) sr2 cr2 dr2 (fun r3 sr3 cr3 dr3 => (if r3 = 0 then (Q ((-1) : Int32) sr3 cr3 dr3) else (Q (2 : Int32) sr3 cr3 dr3)))) else (Q (1 : Int32) sr2 cr2 dr2)))) else (Q (0 : Int32) sr1 cr1 dr1)))
set_option maxRecDepth 100000 in
set_option maxHeartbeats 4000000 in
theorem kc_Re_splitAt (base : Nat) (sa : Nat → Nat) {R : pmM} {s : cS} {kc ks : Nat} {Rt : pmR} {p0 : Nat} {p1 : Int32} {Q : (Int32 → cS → Nat → Nat → Prop)} (hw : cW sa R base s) (h : C_Re_splitAt sa p0 p1 s kc ks Q) (k : ∀ r s' kc' ks', cW sa R base s' → Q r s' kc' ks' → Rt (some (.int r)) (cM R s') kc' ks') : kP_Re_splitAt base sa [.ref p0, .int p1] (cM R s) kc ks Rt := by
  refine ⟨Nat.le_of_ble_eq_true rfl, fun G hG => ?_⟩
  refine (show KK sa R base G 0 [(0, va_rf (some p0)), (1, .int p1)] [] s kc ks (C_Re_splitAt sa p0 p1 s kc ks Q) from ?_) hw h
  refine kk_aln hG (x := (some p0)) rfl rfl ?_
  refine kks hG rfl rfl ?_
  refine kk_lws hG (a := sa 12) rfl rfl ?_
  refine kk_cx (w := .int) hG 0 rfl rfl (Nat.le_of_ble_eq_true rfl) (by decide) rfl (st' := []) rfl (cats_le (Nat.le_of_ble_eq_true rfl)) (fun _ hw h k => kk_rcv h.1 (kc_Re_is base sa hw h.2 k)) (fun r1 sr1 cr1 dr1 => ?_)
  refine kk_zeq hG (t := 13) rfl rfl ?_ ?_
  · refine kk_aln hG (x := (some p0)) rfl rfl ?_
    refine kks hG rfl rfl ?_
    refine kk_lws hG (a := sa 13) rfl rfl ?_
    refine kk_cx (w := .int) hG 0 rfl rfl (Nat.le_of_ble_eq_true rfl) (by decide) rfl (st' := []) rfl (cats_le (Nat.le_of_ble_eq_true rfl)) (fun _ hw h k => kk_rcv h.1 (kc_Re_is base sa hw h.2 k)) (fun r2 sr2 cr2 dr2 => ?_)
    refine kk_zeq hG (t := 26) rfl rfl ?_ ?_
    · refine kk_aln hG (x := (some p0)) rfl rfl ?_
      refine kks hG rfl rfl ?_
      refine kk_lws hG (a := sa 14) rfl rfl ?_
      refine kk_cx (w := .int) hG 0 rfl rfl (Nat.le_of_ble_eq_true rfl) (by decide) rfl (st' := []) rfl (cats_le (Nat.le_of_ble_eq_true rfl)) (fun _ hw h k => kk_rcv h.1 (kc_Re_is base sa hw h.2 k)) (fun r3 sr3 cr3 dr3 => ?_)
      refine kk_zeq hG (t := 41) rfl rfl ?_ ?_
      · refine kk_ic hG rfl cc_im1 ?_
        exact kk_ri hG rfl rfl rfl k
      refine kk_ic hG rfl cc_i2 ?_
      refine kk_go hG (t := 42) rfl rfl ?_
      exact kk_ri hG rfl rfl rfl k
    refine kk_ic hG rfl cc_i1 ?_
    exact kk_ri hG rfl rfl rfl k
  refine kk_ic hG rfl cc_i0 ?_
  exact kk_ri hG rfl rfl rfl k
def C_Re_optionSize (sa : Nat → Nat) (p0 : Int32) (s : cS) (kc ks : Nat) (Q : (Int32 → cS → Nat → Nat → Prop)) : Prop := if p0 = (6 : Int32) then (Q (1 : Int32) s kc ks) else (if p0 = (4 : Int32) then (Q (3 : Int32) s kc ks) else (if p0 = (5 : Int32) then (Q (3 : Int32) s kc ks) else (Q (2 : Int32) s kc ks)))
set_option maxRecDepth 100000 in
set_option maxHeartbeats 4000000 in
theorem kc_Re_optionSize (base : Nat) (sa : Nat → Nat) {R : pmM} {s : cS} {kc ks : Nat} {Rt : pmR} {p0 : Int32} {Q : (Int32 → cS → Nat → Nat → Prop)} (hw : cW sa R base s) (h : C_Re_optionSize sa p0 s kc ks Q) (k : ∀ r s' kc' ks', cW sa R base s' → Q r s' kc' ks' → Rt (some (.int r)) (cM R s') kc' ks') : kP_Re_optionSize base sa [.int p0] (cM R s) kc ks Rt := by
  refine ⟨Nat.le_of_ble_eq_true rfl, fun G hG => ?_⟩
  refine (show KK sa R base G 0 [(0, .int p0)] [] s kc ks (C_Re_optionSize sa p0 s kc ks Q) from ?_) hw h
  refine kks hG rfl rfl ?_
  refine kk_bi hG rfl cc_b6 ?_
  refine kk_ine hG (t := 8) rfl rfl ?_ ?_
  · refine kks hG rfl rfl ?_
    refine kk_ic hG rfl cc_i4 ?_
    refine kk_ieq hG (t := 18) rfl rfl ?_ ?_
    · refine kk_ic hG rfl cc_i3 ?_
      refine kk_go hG (t := 23) rfl rfl ?_
      exact kk_ri hG rfl rfl rfl k
    refine kks hG rfl rfl ?_
    refine kk_ic hG rfl cc_i5 ?_
    refine kk_ine hG (t := 22) rfl rfl ?_ ?_
    · refine kk_ic hG rfl cc_i2 ?_
      exact kk_ri hG rfl rfl rfl k
    refine kk_ic hG rfl cc_i3 ?_
    refine kk_go hG (t := 23) rfl rfl ?_
    exact kk_ri hG rfl rfl rfl k
  refine kk_ic hG rfl cc_i1 ?_
  exact kk_ri hG rfl rfl rfl k
