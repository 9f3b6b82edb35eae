/-! Methods as weakest preconditions, by program: Re_takeKeyOption .. Re_nokeyLine -/
def C_Re_takeKeyOption_b71 (sa : Nat → Nat) (p0 : Nat) (a3 : Int32) (u0 : Int32) (s : cS) (kc ks : Nat) (Q : (Int32 → cS → Nat → Nat → Prop)) : Prop := ob (gP s 7 11 p0) (fun v1 => (ob (gP s 7 7 p0) (fun v2 => (ob v1 (fun b3 => (okO s 1 b3 ∧ C_Ch_setKey sa b3 a3 u0 v2 (0 : Int32) (99999 : Int32) s kc ks (fun r4 sr4 cr4 dr4 => (if r4 = 0 then (Q (6 : Int32) sr4 cr4 dr4) else (Q (0 : Int32) sr4 cr4 dr4)))))))))
def C_Re_takeKeyOption (sa : Nat → Nat) (p0 : Nat) (p1 : Int32) (p2 : Int32) (s : cS) (kc ks : Nat) (Q : (Int32 → cS → Nat → Nat → Prop)) : Prop := if p1 = (3 : Int32) then (okO s 7 p0 ∧ C_Re_takeSecret sa p0 (p2 + (1 : Int32)) s kc ks (fun r3 sr3 cr3 dr3 => (if r3 = 0 then (Q (4 : Int32) sr3 cr3 dr3) else (ob (gP sr3 7 11 p0) (fun v4 => (ob (gP sr3 7 7 p0) (fun v5 => (ob v4 (fun b6 => (okO sr3 1 b6 ∧ C_Ch_setPassword sa b6 v5 sr3 cr3 dr3 (fun sr7 cr7 dr7 => (Q (0 : Int32) sr7 cr7 dr7)))))))))))) else (okO s 7 p0 ∧ C_Re_number sa p0 (p2 + (1 : Int32)) (0 : Int32) (255 : Int32) s kc ks (fun r1 sr1 cr1 dr1 => (if r1 = ((-1) : Int32) then (Q (4 : Int32) sr1 cr1 dr1) else (okO sr1 7 p0 ∧ C_Re_takeSecret sa p0 (p2 + (2 : Int32)) sr1 cr1 dr1 (fun r2 sr2 cr2 dr2 => (if r2 = 0 then (Q (4 : Int32) sr2 cr2 dr2) else (if p1 = (4 : Int32) then ((C_Re_takeKeyOption_b71 sa p0 r1 (16 : Int32) sr2 cr2 dr2 Q)) else ((C_Re_takeKeyOption_b71 sa p0 r1 (20 : Int32) sr2 cr2 dr2 Q)))))))))
set_option maxRecDepth 100000 in
set_option maxHeartbeats 4000000 in
theorem kc_Re_takeKeyOption (base : Nat) (sa : Nat → Nat) {R : pmM} {s : cS} {kc ks : Nat} {Rt : pmR} {p0 : Nat} {p1 : Int32} {p2 : Int32} {Q : (Int32 → cS → Nat → Nat → Prop)} (hw : cW sa R base s) (h : C_Re_takeKeyOption sa p0 p1 p2 s kc ks Q) (k : ∀ r s' kc' ks', cW sa R base s' → Q r s' kc' ks' → Rt (some (.int r)) (cM R s') kc' ks') : kP_Re_takeKeyOption base sa [.ref p0, .int p1, .int p2] (cM R s) kc ks Rt := by
  refine ⟨Nat.le_of_ble_eq_true rfl, fun G hG => ?_⟩
  have b71 : ∀ (a3 : Int32) (u0 : Int32) (s : cS) (kc ks : Nat), KK sa R base G 71 [(0, va_rf (some p0)), (3, .int a3)] [.int u0] s kc ks (C_Re_takeKeyOption_b71 sa p0 a3 u0 s kc ks Q) := by
    intro a3 u0 s kc ks
    refine kk_st hG (L' := [(4, .int u0), (0, va_rf (some p0)), (3, .int a3)]) rfl rfl (Nat.le_of_ble_eq_true rfl) rfl ?_
    refine kk_aln hG (x := (some p0)) rfl rfl ?_
    refine kk_gp hG (c := 7) (k := 11) (a := p0) rfl rfl rfl rfl (fun v1 => ?_)
    refine kks hG rfl rfl ?_
    refine kks hG rfl rfl ?_
    refine kk_aln hG (x := (some p0)) rfl rfl ?_
    refine kk_gp hG (c := 7) (k := 7) (a := p0) rfl rfl rfl rfl (fun v2 => ?_)
    refine kk_ic hG rfl cc_i0 ?_
    refine kk_lw hG (v := (99999 : Int32)) rfl rfl ?_
    refine kk_ob (fun b3 eb3 => ?_)
    subst eb3
    refine kk_cx (w := .int) hG 0 rfl rfl (Nat.le_of_ble_eq_true rfl) (by decide) rfl (st' := []) rfl (cats_le (Nat.le_of_ble_eq_true rfl)) (fun _ hw h k => kk_rcv h.1 (kc_Ch_setKey base sa hw h.2 k)) (fun r4 sr4 cr4 dr4 => ?_)
    refine kk_zeq hG (t := 98) rfl rfl ?_ ?_
    · refine kk_bi hG rfl cc_b6 ?_
      exact kk_ri hG rfl rfl rfl k
    refine kk_ic hG rfl cc_i0 ?_
    refine kk_go hG (t := 100) rfl rfl ?_
    exact kk_ri hG rfl rfl rfl k
  refine (show KK sa R base G 0 [(0, va_rf (some p0)), (1, .int p1), (2, .int p2)] [] s kc ks (C_Re_takeKeyOption sa p0 p1 p2 s kc ks Q) from ?_) hw h
  refine kks hG rfl rfl ?_
  refine kk_ic hG rfl cc_i3 ?_
  refine kk_ine hG (t := 30) rfl rfl ?_ ?_
  · refine kk_aln hG (x := (some p0)) rfl rfl ?_
    refine kks hG rfl rfl ?_
    refine kk_ic hG rfl cc_i1 ?_
    refine kks hG rfl rfl ?_
    refine kk_ic hG rfl cc_i0 ?_
    refine kk_si hG rfl cc_s255 ?_
    refine kk_cx (w := .int) hG 0 rfl rfl (Nat.le_of_ble_eq_true rfl) (by decide) rfl (st' := []) rfl (cats_le (Nat.le_of_ble_eq_true rfl)) (fun _ hw h k => kk_rcv h.1 (kc_Re_number base sa hw h.2 k)) (fun r1 sr1 cr1 dr1 => ?_)
    refine kk_st hG (L' := [(3, .int r1), (0, va_rf (some p0)), (1, .int p1), (2, .int p2)]) rfl rfl (Nat.le_of_ble_eq_true rfl) rfl ?_
    refine kks hG rfl rfl ?_
    refine kk_ic hG rfl cc_im1 ?_
    refine kk_ieq hG (t := 57) rfl rfl ?_ ?_
    · refine kk_ic hG rfl cc_i4 ?_
      exact kk_ri hG rfl rfl rfl k
    refine kk_aln hG (x := (some p0)) rfl rfl ?_
    refine kks hG rfl rfl ?_
    refine kk_ic hG rfl cc_i2 ?_
    refine kks hG rfl rfl ?_
    refine kk_cx (w := .int) hG 0 rfl rfl (Nat.le_of_ble_eq_true rfl) (by decide) rfl (st' := []) rfl (cats_le (Nat.le_of_ble_eq_true rfl)) (fun _ hw h k => kk_rcv h.1 (kc_Re_takeSecret base sa hw h.2 k)) (fun r2 sr2 cr2 dr2 => ?_)
    refine kk_zne hG (t := 59) rfl rfl ?_ ?_
    · refine kks hG rfl rfl ?_
      refine kk_ic hG rfl cc_i4 ?_
      refine kk_ine hG (t := 69) rfl rfl ?_ ?_
      · refine kk_bi hG rfl cc_b20 ?_
        exact kk_wl hG [1, 0] rfl (b71 _ _ _ _ _)
      refine kk_bi hG rfl cc_b16 ?_
      refine kk_go hG (t := 71) rfl rfl ?_
      exact kk_wl hG [1, 0] rfl (b71 _ _ _ _ _)
    refine kk_ic hG rfl cc_i4 ?_
    exact kk_ri hG rfl rfl rfl k
  refine kk_aln hG (x := (some p0)) rfl rfl ?_
  refine kks hG rfl rfl ?_
  refine kk_ic hG rfl cc_i1 ?_
  refine kks hG rfl rfl ?_
  refine kk_cx (w := .int) hG 0 rfl rfl (Nat.le_of_ble_eq_true rfl) (by decide) rfl (st' := []) rfl (cats_le (Nat.le_of_ble_eq_true rfl)) (fun _ hw h k => kk_rcv h.1 (kc_Re_takeSecret base sa hw h.2 k)) (fun r3 sr3 cr3 dr3 => ?_)
  refine kk_zne hG (t := 17) rfl rfl ?_ ?_
  · refine kk_aln hG (x := (some p0)) rfl rfl ?_
    refine kk_gp hG (c := 7) (k := 11) (a := p0) rfl rfl rfl rfl (fun v4 => ?_)
    refine kk_aln hG (x := (some p0)) rfl rfl ?_
    refine kk_gp hG (c := 7) (k := 7) (a := p0) rfl rfl rfl rfl (fun v5 => ?_)
    refine kk_ob (fun b6 eb6 => ?_)
    subst eb6
    refine kk_cv hG 0 rfl rfl (Nat.le_of_ble_eq_true rfl) (by decide) rfl (st' := []) rfl (cats_le (Nat.le_of_ble_eq_true rfl)) (fun _ hw h k => kk_rcv h.1 (kc_Ch_setPassword base sa hw h.2 k)) (fun sr7 cr7 dr7 => ?_)
    refine kk_ic hG rfl cc_i0 ?_
    exact kk_ri hG rfl rfl rfl k
  refine kk_ic hG rfl cc_i4 ?_
  exact kk_ri hG rfl rfl rfl k
def C_Re_takeJoinOptions_b154 (sa : Nat → Nat) (p0 : Nat) (a2 : Int32) (a3 : Int32) (a4 : Int32) (s : cS) (kc ks : Nat) (Q : (Int32 → cS → Nat → Nat → Prop)) (P41 : (Int32 → Int32 → cS → Nat → Nat → Prop)) : Prop := C_Re_optionSize sa a4 s kc ks (fun r1 sr1 cr1 dr1 => ((P41 a2 (a3 + r1) sr1 cr1 dr1)))
def C_Re_takeJoinOptions_b89 (sa : Nat → Nat) (p0 : Nat) (a3 : Int32) (a4 : Int32) (u0 : Int32) (s : cS) (kc ks : Nat) (Q : (Int32 → cS → Nat → Nat → Prop)) (P41 : (Int32 → Int32 → cS → Nat → Nat → Prop)) : Prop := (C_Re_takeJoinOptions_b154 sa p0 u0 a3 a4 s kc ks Q P41)
def C_Re_takeJoinOptions_b153 (sa : Nat → Nat) (p0 : Nat) (a3 : Int32) (a4 : Int32) (u0 : Int32) (s : cS) (kc ks : Nat) (Q : (Int32 → cS → Nat → Nat → Prop)) (P41 : (Int32 → Int32 → cS → Nat → Nat → Prop)) : Prop := (C_Re_takeJoinOptions_b154 sa p0 u0 a3 a4 s kc ks Q P41)
def C_Re_takeJoinOptions_s41 (sa : Nat → Nat) (p0 : Nat) (a2 : Int32) (a3 : Int32) (s : cS) (kc ks : Nat) (Q : (Int32 → cS → Nat → Nat → Prop)) (P41 : (Int32 → Int32 → cS → Nat → Nat → Prop)) : Prop := ob (gI s 7 3 p0) (fun v1 => (if a3 < v1 then (okO s 7 p0 ∧ C_Re_joinOption sa p0 a3 s kc ks (fun r2 sr2 cr2 dr2 => (if r2 = (1 : Int32) then (okO sr2 7 p0 ∧ C_Re_number sa p0 (a3 + (1 : Int32)) (1 : Int32) (15 : Int32) sr2 cr2 dr2 (fun r7 sr7 cr7 dr7 => (ob (pI sr7 7 8 p0 r7) (fun s8 => (ob (gI s8 7 8 p0) (fun v9 => (if v9 = ((-1) : Int32) then ((C_Re_takeJoinOptions_b89 sa p0 a3 r2 (4 : Int32) s8 cr7 dr7 Q P41)) else ((C_Re_takeJoinOptions_b89 sa p0 a3 r2 a2 s8 cr7 dr7 Q P41))))))))) else (if r2 = (2 : Int32) then (okO sr2 7 p0 ∧ C_Re_splitAt sa p0 (a3 + (1 : Int32)) sr2 cr2 dr2 (fun r5 sr5 cr5 dr5 => (ob (pI sr5 7 9 p0 r5) (fun s6 => ((C_Re_takeJoinOptions_b154 sa p0 a2 a3 r2 s6 cr5 dr5 Q P41)))))) else (if r2 = (6 : Int32) then (ob (pZ sr2 7 10 p0 (1 : Int32)) (fun s4 => ((C_Re_takeJoinOptions_b154 sa p0 a2 a3 r2 s4 cr2 dr2 Q P41)))) else (okO sr2 7 p0 ∧ C_Re_takeKeyOption sa p0 r2 a3 sr2 cr2 dr2 (fun r3 sr3 cr3 dr3 => (if r3 = (4 : Int32) then ((C_Re_takeJoinOptions_b153 sa p0 a3 r2 r3 sr3 cr3 dr3 Q P41)) else (if a2 = 0 then ((C_Re_takeJoinOptions_b153 sa p0 a3 r2 r3 sr3 cr3 dr3 Q P41)) else ((C_Re_takeJoinOptions_b153 sa p0 a3 r2 a2 sr3 cr3 dr3 Q P41))))))))))) else ((Q a2 s kc ks))))
def C_Re_takeJoinOptions_b41 (sa : Nat → Nat) (p0 : Nat) (a2 : Int32) (a3 : Int32) (s : cS) (kc ks : Nat) (Q : (Int32 → cS → Nat → Nat → Prop)) : Prop := ∀ P41 : (Int32 → Int32 → cS → Nat → Nat → Prop), (∀ (a2 : Int32) (a3 : Int32) (s : cS) (kc ks : Nat), C_Re_takeJoinOptions_s41 sa p0 a2 a3 s kc ks Q P41 → P41 a2 a3 s kc ks) → P41 a2 a3 s kc ks
def C_Re_takeJoinOptions_b37 (sa : Nat → Nat) (p0 : Nat) (s : cS) (kc ks : Nat) (Q : (Int32 → cS → Nat → Nat → Prop)) : Prop := (C_Re_takeJoinOptions_b41 sa p0 (0 : Int32) (4 : Int32) s kc ks Q)
def C_Re_takeJoinOptions (sa : Nat → Nat) (p0 : Nat) (p1 : Option Nat) (s : cS) (kc ks : Nat) (Q : (Int32 → cS → Nat → Nat → Prop)) : Prop := ob (pI s 7 8 p0 ((-1) : Int32)) (fun s1 => (ob (pI s1 7 9 p0 ((-1) : Int32)) (fun s2 => (ob (pZ s2 7 10 p0 (0 : Int32)) (fun s3 => (ob (gP s3 7 11 p0) (fun v4 => (ob v4 (fun b5 => (okO s3 1 b5 ∧ C_Ch_clear sa b5 s3 kc ks (fun sr6 cr6 dr6 => (if p1 = none then ((C_Re_takeJoinOptions_b37 sa p0 sr6 cr6 dr6 Q)) else (ob (gP sr6 7 11 p0) (fun v7 => (ob p1 (fun b8 => (ob (gP sr6 4 6 b8) (fun v9 => (ob v7 (fun b10 => (okO sr6 1 b10 ∧ C_Ch_copy sa b10 v9 sr6 cr6 dr6 (fun sr11 cr11 dr11 => ((C_Re_takeJoinOptions_b37 sa p0 sr11 cr11 dr11 Q))))))))))))))))))))))))
set_option maxRecDepth 100000 in
set_option maxHeartbeats 4000000 in
theorem kc_Re_takeJoinOptions (base : Nat) (sa : Nat → Nat) {R : pmM} {s : cS} {kc ks : Nat} {Rt : pmR} {p0 : Nat} {p1 : Option Nat} {Q : (Int32 → cS → Nat → Nat → Prop)} (hw : cW sa R base s) (h : C_Re_takeJoinOptions sa p0 p1 s kc ks Q) (k : ∀ r s' kc' ks', cW sa R base s' → Q r s' kc' ks' → Rt (some (.int r)) (cM R s') kc' ks') : kP_Re_takeJoinOptions base sa [.ref p0, va_rf p1] (cM R s) kc ks Rt := by
  refine ⟨by cases p1 <;> exact Nat.le_of_ble_eq_true rfl, fun G hG => ?_⟩
  have eL : lv_args 0 [.ref p0, va_rf p1] = [(0, va_rf (some p0)), (1, va_rf p1)] := by cases p1 <;> rfl
  rw [eL]
  have b41 : ∀ (a2 : Int32) (a3 : Int32) (s : cS) (kc ks : Nat), KK sa R base G 41 [(0, va_rf (some p0)), (2, .int a2), (3, .int a3)] [] s kc ks (C_Re_takeJoinOptions_b41 sa p0 a2 a3 s kc ks Q) := by
    have H : ∀ (P41 : (Int32 → Int32 → cS → Nat → Nat → Prop)) (hP41 : ∀ (a2 : Int32) (a3 : Int32) (s : cS) (kc ks : Nat), P41 a2 a3 s kc ks → cW sa R base s → G 41 [(0, va_rf (some p0)), (2, .int a2), (3, .int a3)] [] (cM R s) kc ks) (a2 : Int32) (a3 : Int32) (s : cS) (kc ks : Nat), KK sa R base G 41 [(0, va_rf (some p0)), (2, .int a2), (3, .int a3)] [] s kc ks (C_Re_takeJoinOptions_s41 sa p0 a2 a3 s kc ks Q P41) := by
      intro P41 hP41
      have b154 : ∀ (a2 : Int32) (a3 : Int32) (a4 : Int32) (s : cS) (kc ks : Nat), KK sa R base G 154 [(0, va_rf (some p0)), (2, .int a2), (3, .int a3), (4, .int a4)] [] s kc ks (C_Re_takeJoinOptions_b154 sa p0 a2 a3 a4 s kc ks Q P41) := by
        intro a2 a3 a4 s kc ks
        refine kks hG rfl rfl ?_
        refine kks hG rfl rfl ?_
        refine kk_cx (w := .int) hG 2 rfl rfl (Nat.le_of_ble_eq_true rfl) (by decide) rfl (st' := [.int a3]) rfl (cats_le (Nat.le_of_ble_eq_true rfl)) (fun _ hw h k => kc_Re_optionSize base sa hw h k) (fun r1 sr1 cr1 dr1 => ?_)
        refine kks hG rfl rfl ?_
        refine kk_st hG (L' := [(3, .int (a3 + r1)), (0, va_rf (some p0)), (2, .int a2), (4, .int a4)]) rfl rfl (Nat.le_of_ble_eq_true rfl) rfl ?_
        refine kk_go hG (t := 41) rfl rfl ?_
        exact kk_wl hG [1, 2, 0] rfl (fun hw h => hP41 _ _ _ _ _ h hw)
      have b89 : ∀ (a3 : Int32) (a4 : Int32) (u0 : Int32) (s : cS) (kc ks : Nat), KK sa R base G 89 [(0, va_rf (some p0)), (3, .int a3), (4, .int a4)] [.int u0] s kc ks (C_Re_takeJoinOptions_b89 sa p0 a3 a4 u0 s kc ks Q P41) := by
        intro a3 a4 u0 s kc ks
        refine kk_st hG (L' := [(2, .int u0), (0, va_rf (some p0)), (3, .int a3), (4, .int a4)]) rfl rfl (Nat.le_of_ble_eq_true rfl) rfl ?_
        refine kk_go hG (t := 154) rfl rfl ?_
        exact kk_wl hG [1, 0, 2, 3] rfl (b154 _ _ _ _ _ _)
      have b153 : ∀ (a3 : Int32) (a4 : Int32) (u0 : Int32) (s : cS) (kc ks : Nat), KK sa R base G 153 [(0, va_rf (some p0)), (3, .int a3), (4, .int a4)] [.int u0] s kc ks (C_Re_takeJoinOptions_b153 sa p0 a3 a4 u0 s kc ks Q P41) := by
        intro a3 a4 u0 s kc ks
        refine kk_st hG (L' := [(2, .int u0), (0, va_rf (some p0)), (3, .int a3), (4, .int a4)]) rfl rfl (Nat.le_of_ble_eq_true rfl) rfl ?_
        exact kk_wl hG [1, 0, 2, 3] rfl (b154 _ _ _ _ _ _)
      intro a2 a3 s kc ks
      refine kks hG rfl rfl ?_
      refine kk_aln hG (x := (some p0)) rfl rfl ?_
      refine kk_gi hG (c := 7) (k := 3) (a := p0) rfl rfl rfl rfl (fun v1 => ?_)
      refine kk_ige hG (t := 165) rfl rfl ?_ ?_
      · refine kks hG rfl rfl ?_
        exact kk_ri hG rfl rfl rfl k
      refine kk_aln hG (x := (some p0)) rfl rfl ?_
      refine kks hG rfl rfl ?_
      refine kk_cx (w := .int) hG 0 rfl rfl (Nat.le_of_ble_eq_true rfl) (by decide) rfl (st' := []) rfl (cats_le (Nat.le_of_ble_eq_true rfl)) (fun _ hw h k => kk_rcv h.1 (kc_Re_joinOption base sa hw h.2 k)) (fun r2 sr2 cr2 dr2 => ?_)
      refine kk_st hG (L' := [(4, .int r2), (0, va_rf (some p0)), (2, .int a2), (3, .int a3)]) rfl rfl (Nat.le_of_ble_eq_true rfl) rfl ?_
      refine kks hG rfl rfl ?_
      refine kk_ic hG rfl cc_i1 ?_
      refine kk_ine hG (t := 93) rfl rfl ?_ ?_
      · refine kks hG rfl rfl ?_
        refine kk_ic hG rfl cc_i2 ?_
        refine kk_ine hG (t := 113) rfl rfl ?_ ?_
        · refine kks hG rfl rfl ?_
          refine kk_bi hG rfl cc_b6 ?_
          refine kk_ine hG (t := 128) rfl rfl ?_ ?_
          · refine kk_aln hG (x := (some p0)) rfl rfl ?_
            refine kks hG rfl rfl ?_
            refine kks hG rfl rfl ?_
            refine kk_cx (w := .int) hG 0 rfl rfl (Nat.le_of_ble_eq_true rfl) (by decide) rfl (st' := []) rfl (cats_le (Nat.le_of_ble_eq_true rfl)) (fun _ hw h k => kk_rcv h.1 (kc_Re_takeKeyOption base sa hw h.2 k)) (fun r3 sr3 cr3 dr3 => ?_)
            refine kk_st hG (L' := [(5, .int r3), (4, .int r2), (0, va_rf (some p0)), (2, .int a2), (3, .int a3)]) rfl rfl (Nat.le_of_ble_eq_true rfl) rfl ?_
            refine kks hG rfl rfl ?_
            refine kk_ic hG rfl cc_i4 ?_
            refine kk_ieq hG (t := 147) rfl rfl ?_ ?_
            · refine kks hG rfl rfl ?_
              refine kk_go hG (t := 153) rfl rfl ?_
              exact kk_wl hG [2, 4, 1] rfl (b153 _ _ _ _ _ _)
            refine kks hG rfl rfl ?_
            refine kk_zne hG (t := 152) rfl rfl ?_ ?_
            · refine kks hG rfl rfl ?_
              exact kk_wl hG [2, 4, 1] rfl (b153 _ _ _ _ _ _)
            refine kks hG rfl rfl ?_
            refine kk_go hG (t := 153) rfl rfl ?_
            exact kk_wl hG [2, 4, 1] rfl (b153 _ _ _ _ _ _)
          refine kk_aln hG (x := (some p0)) rfl rfl ?_
          refine kk_ic hG rfl cc_i1 ?_
          refine kk_pz hG (c := 7) (k := 10) (a := p0) rfl rfl rfl rfl (fun s4 => ?_)
          refine kk_go hG (t := 154) rfl rfl ?_
          exact kk_wl hG [1, 2, 3, 0] rfl (b154 _ _ _ _ _ _)
        refine kk_aln hG (x := (some p0)) rfl rfl ?_
        refine kk_aln hG (x := (some p0)) rfl rfl ?_
        refine kks hG rfl rfl ?_
        refine kk_ic hG rfl cc_i1 ?_
        refine kks hG rfl rfl ?_
        refine kk_cx (w := .int) hG 0 rfl rfl (Nat.le_of_ble_eq_true rfl) (by decide) rfl (st' := [va_rf (some p0)]) rfl (cats_le (Nat.le_of_ble_eq_true rfl)) (fun _ hw h k => kk_rcv h.1 (kc_Re_splitAt base sa hw h.2 k)) (fun r5 sr5 cr5 dr5 => ?_)
        refine kk_pi hG (c := 7) (k := 9) (a := p0) rfl rfl rfl rfl (fun s6 => ?_)
        refine kk_go hG (t := 154) rfl rfl ?_
        exact kk_wl hG [1, 2, 3, 0] rfl (b154 _ _ _ _ _ _)
      refine kk_aln hG (x := (some p0)) rfl rfl ?_
      refine kk_aln hG (x := (some p0)) rfl rfl ?_
      refine kks hG rfl rfl ?_
      refine kk_ic hG rfl cc_i1 ?_
      refine kks hG rfl rfl ?_
      refine kk_ic hG rfl cc_i1 ?_
      refine kk_bi hG rfl cc_b15 ?_
      refine kk_cx (w := .int) hG 0 rfl rfl (Nat.le_of_ble_eq_true rfl) (by decide) rfl (st' := [va_rf (some p0)]) rfl (cats_le (Nat.le_of_ble_eq_true rfl)) (fun _ hw h k => kk_rcv h.1 (kc_Re_number base sa hw h.2 k)) (fun r7 sr7 cr7 dr7 => ?_)
      refine kk_pi hG (c := 7) (k := 8) (a := p0) rfl rfl rfl rfl (fun s8 => ?_)
      refine kk_aln hG (x := (some p0)) rfl rfl ?_
      refine kk_gi hG (c := 7) (k := 8) (a := p0) rfl rfl rfl rfl (fun v9 => ?_)
      refine kk_ic hG rfl cc_im1 ?_
      refine kk_ine hG (t := 88) rfl rfl ?_ ?_
      · refine kks hG rfl rfl ?_
        exact kk_wl hG [1, 3, 0] rfl (b89 _ _ _ _ _ _)
      refine kk_ic hG rfl cc_i4 ?_
      refine kk_go hG (t := 89) rfl rfl ?_
      exact kk_wl hG [1, 3, 0] rfl (b89 _ _ _ _ _ _)
    exact fun a2 a3 s kc ks hw h => h (fun a2 a3 s kc ks => cW sa R base s → G 41 [(0, va_rf (some p0)), (2, .int a2), (3, .int a3)] [] (cM R s) kc ks) (fun a2 a3 s kc ks hs hw => H _ (fun _ _ _ _ _ hp hw => hp hw) a2 a3 s kc ks hw hs) hw
  have b37 : ∀ (s : cS) (kc ks : Nat), KK sa R base G 37 [(0, va_rf (some p0))] [] s kc ks (C_Re_takeJoinOptions_b37 sa p0 s kc ks Q) := by
    intro s kc ks
    refine kk_ic hG rfl cc_i0 ?_
    refine kk_st hG (L' := [(2, .int (0 : Int32)), (0, va_rf (some p0))]) rfl rfl (Nat.le_of_ble_eq_true rfl) rfl ?_
    refine kk_ic hG rfl cc_i4 ?_
    refine kk_st hG (L' := [(3, .int (4 : Int32)), (2, .int (0 : Int32)), (0, va_rf (some p0))]) rfl rfl (Nat.le_of_ble_eq_true rfl) rfl ?_
    exact kk_wl hG [2, 1, 0] rfl (b41 _ _ _ _ _)
  refine (show KK sa R base G 0 [(0, va_rf (some p0)), (1, va_rf p1)] [] s kc ks (C_Re_takeJoinOptions sa p0 p1 s kc ks Q) from ?_) hw h
  refine kk_aln hG (x := (some p0)) rfl rfl ?_
  refine kk_ic hG rfl cc_im1 ?_
  refine kk_pi hG (c := 7) (k := 8) (a := p0) rfl rfl rfl rfl (fun s1 => ?_)
  refine kk_aln hG (x := (some p0)) rfl rfl ?_
  refine kk_ic hG rfl cc_im1 ?_
  refine kk_pi hG (c := 7) (k := 9) (a := p0) rfl rfl rfl rfl (fun s2 => ?_)
  refine kk_aln hG (x := (some p0)) rfl rfl ?_
  refine kk_ic hG rfl cc_i0 ?_
  refine kk_pz hG (c := 7) (k := 10) (a := p0) rfl rfl rfl rfl (fun s3 => ?_)
  refine kk_aln hG (x := (some p0)) rfl rfl ?_
  refine kk_gp hG (c := 7) (k := 11) (a := p0) rfl rfl rfl rfl (fun v4 => ?_)
  refine kk_ob (fun b5 eb5 => ?_)
  subst eb5
  refine kk_cv hG 0 rfl rfl (Nat.le_of_ble_eq_true rfl) (by decide) rfl (st' := []) rfl (cats_le (Nat.le_of_ble_eq_true rfl)) (fun _ hw h k => kk_rcv h.1 (kc_Ch_clear base sa hw h.2 k)) (fun sr6 cr6 dr6 => ?_)
  refine kk_aln hG (x := p1) rfl rfl ?_
  refine kk_nul hG (x := p1) (t := 37) rfl rfl ?_ ?_
  · exact kk_wl hG [0] rfl (b37 _ _ _)
  refine kk_aln hG (x := (some p0)) rfl rfl ?_
  refine kk_gp hG (c := 7) (k := 11) (a := p0) rfl rfl rfl rfl (fun v7 => ?_)
  refine kk_aln hG (x := p1) rfl rfl ?_
  refine kk_ob (fun b8 eb8 => ?_)
  subst eb8
  refine kk_gp hG (c := 4) (k := 6) (a := b8) rfl rfl rfl rfl (fun v9 => ?_)
  refine kk_ob (fun b10 eb10 => ?_)
  subst eb10
  refine kk_cv hG 0 rfl rfl (Nat.le_of_ble_eq_true rfl) (by decide) rfl (st' := []) rfl (cats_le (Nat.le_of_ble_eq_true rfl)) (fun _ hw h k => kk_rcv h.1 (kc_Ch_copy base sa hw h.2 k)) (fun sr11 cr11 dr11 => ?_)
  exact kk_wl hG [0] rfl (b37 _ _ _)
def C_Rr_addPort (sa : Nat → Nat) (p0 : Nat) (p1 : Option Nat) (s : cS) (kc ks : Nat) (Q : (Option Nat → cS → Nat → Nat → Prop)) : Prop := nwO s kc ks 4 19 (fun q1 sq1 cq1 dq1 => (okO sq1 4 q1 ∧ C_Po_init sa q1 p1 sq1 cq1 dq1 (fun sr2 cr2 dr2 => (ob (gI sr2 9 5 p0) (fun v3 => (ob (gP sr2 9 4 p0) (fun v4 => (ob v4 (fun b5 => (ob (aL sr2 b5) (fun v6 => (if v3 < v6 then (ob (gP sr2 9 4 p0) (fun v7 => (ob (gI sr2 9 5 p0) (fun v8 => (ob v7 (fun b9 => (ob (wQ sr2 b9 v8 (some q1)) (fun s10 => (ob (gI s10 9 5 p0) (fun v11 => (ob (pI s10 9 5 p0 (v11 + (1 : Int32))) (fun s12 => (Q (some q1) s12 cr2 dr2))))))))))))) else (Q (some q1) sr2 cr2 dr2)))))))))))))
set_option maxRecDepth 100000 in
set_option maxHeartbeats 4000000 in
theorem kc_Rr_addPort (base : Nat) (sa : Nat → Nat) {R : pmM} {s : cS} {kc ks : Nat} {Rt : pmR} {p0 : Nat} {p1 : Option Nat} {Q : (Option Nat → cS → Nat → Nat → Prop)} (hw : cW sa R base s) (h : C_Rr_addPort sa p0 p1 s kc ks Q) (k : ∀ r s' kc' ks', cW sa R base s' → Q r s' kc' ks' → Rt (some (va_rf r)) (cM R s') kc' ks') : kP_Rr_addPort base sa [.ref p0, va_rf p1] (cM R s) kc ks Rt := by
  refine ⟨by cases p1 <;> exact Nat.le_of_ble_eq_true rfl, fun G hG => ?_⟩
  have eL : lv_args 0 [.ref p0, va_rf p1] = [(0, va_rf (some p0)), (1, va_rf p1)] := by cases p1 <;> rfl
  rw [eL]
  refine (show KK sa R base G 0 [(0, va_rf (some p0)), (1, va_rf p1)] [] s kc ks (C_Rr_addPort sa p0 p1 s kc ks Q) from ?_) hw h
  refine kk_new hG (c := 4) (n := 19) rfl rfl rfl rfl (fun q1 sq1 cq1 dq1 => ?_)
  refine kk_dup hG (x := (some q1)) rfl ?_
  refine kk_aln hG (x := p1) rfl rfl ?_
  refine kk_cv hG 1 rfl rfl (Nat.le_of_ble_eq_true rfl) (by decide) rfl (st' := [va_rf (some q1)]) rfl (cats_le (Nat.le_of_ble_eq_true rfl)) (fun _ hw h k => kk_rcv h.1 (kc_Po_init base sa hw h.2 k)) (fun sr2 cr2 dr2 => ?_)
  refine kk_asn hG (x := (some q1)) (L' := [(2, va_rf (some q1)), (0, va_rf (some p0)), (1, va_rf p1)]) rfl (Nat.le_of_ble_eq_true rfl) (by cases p1 <;> rfl) ?_
  refine kk_aln hG (x := (some p0)) rfl rfl ?_
  refine kk_gi hG (c := 9) (k := 5) (a := p0) rfl rfl rfl rfl (fun v3 => ?_)
  refine kk_aln hG (x := (some p0)) rfl rfl ?_
  refine kk_gp hG (c := 9) (k := 4) (a := p0) rfl rfl rfl rfl (fun v4 => ?_)
  refine kk_ob (fun b5 eb5 => ?_)
  subst eb5
  refine kk_len hG (a := b5) rfl (fun v6 => ?_)
  refine kk_ige hG (t := 41) rfl rfl ?_ ?_
  · refine kk_aln hG (x := (some q1)) rfl rfl ?_
    exact kk_ra hG (x := (some q1)) rfl rfl rfl k
  refine kk_aln hG (x := (some p0)) rfl rfl ?_
  refine kk_gp hG (c := 9) (k := 4) (a := p0) rfl rfl rfl rfl (fun v7 => ?_)
  refine kk_aln hG (x := (some p0)) rfl rfl ?_
  refine kk_gi hG (c := 9) (k := 5) (a := p0) rfl rfl rfl rfl (fun v8 => ?_)
  refine kk_aln hG (x := (some q1)) rfl rfl ?_
  refine kk_ob (fun b9 eb9 => ?_)
  subst eb9
  refine kk_aas hG (a := b9) (x := (some q1)) rfl (fun s10 => ?_)
  refine kk_aln hG (x := (some p0)) rfl rfl ?_
  refine kk_dup hG (x := (some p0)) rfl ?_
  refine kk_gi hG (c := 9) (k := 5) (a := p0) rfl rfl rfl rfl (fun v11 => ?_)
  refine kk_ic hG rfl cc_i1 ?_
  refine kks hG rfl rfl ?_
  refine kk_pi hG (c := 9) (k := 5) (a := p0) rfl rfl rfl rfl (fun s12 => ?_)
  refine kk_aln hG (x := (some q1)) rfl rfl ?_
  exact kk_ra hG (x := (some q1)) rfl rfl rfl k
def C_Re_setJoined_b48 (sa : Nat → Nat) (p0 : Nat) (p1 : Option Nat) (s : cS) (kc ks : Nat) (Q : (cS → Nat → Nat → Prop)) : Prop := ob (gI s 7 9 p0) (fun v1 => (if v1 = ((-1) : Int32) then (Q s kc ks) else (ob (gI s 7 9 p0) (fun v2 => (ob p1 (fun b3 => (ob (pI s 4 4 b3 v2) (fun s4 => (Q s4 kc ks)))))))))
def C_Re_setJoined (sa : Nat → Nat) (p0 : Nat) (p1 : Option Nat) (s : cS) (kc ks : Nat) (Q : (cS → Nat → Nat → Prop)) : Prop := ob (gP s 7 6 p0) (fun v1 => (ob p1 (fun b2 => (okO s 4 b2 ∧ C_Po_setAddress sa b2 v1 s kc ks (fun sr3 cr3 dr3 => (ob (gP sr3 4 6 b2) (fun v4 => (ob (gP sr3 7 11 p0) (fun v5 => (ob v4 (fun b6 => (okO sr3 1 b6 ∧ C_Ch_copy sa b6 v5 sr3 cr3 dr3 (fun sr7 cr7 dr7 => (ob (gI sr7 4 5 b2) (fun v8 => (ob (gI sr7 7 10 p0) (fun v9 => (ob (pZ sr7 4 5 b2 (v8 ||| v9)) (fun s10 => (ob (gI s10 7 8 p0) (fun v11 => (if v11 = ((-1) : Int32) then ((C_Re_setJoined_b48 sa p0 (some b2) s10 cr7 dr7 Q)) else (ob (gI s10 7 8 p0) (fun v12 => (ob (pI s10 4 3 b2 v12) (fun s13 => ((C_Re_setJoined_b48 sa p0 (some b2) s13 cr7 dr7 Q))))))))))))))))))))))))))))
set_option maxRecDepth 100000 in
set_option maxHeartbeats 4000000 in
theorem kc_Re_setJoined (base : Nat) (sa : Nat → Nat) {R : pmM} {s : cS} {kc ks : Nat} {Rt : pmR} {p0 : Nat} {p1 : Option Nat} {Q : (cS → Nat → Nat → Prop)} (hw : cW sa R base s) (h : C_Re_setJoined sa p0 p1 s kc ks Q) (k : ∀ s' kc' ks', cW sa R base s' → Q s' kc' ks' → Rt none (cM R s') kc' ks') : kP_Re_setJoined base sa [.ref p0, va_rf p1] (cM R s) kc ks Rt := by
  refine ⟨by cases p1 <;> exact Nat.le_of_ble_eq_true rfl, fun G hG => ?_⟩
  have eL : lv_args 0 [.ref p0, va_rf p1] = [(0, va_rf (some p0)), (1, va_rf p1)] := by cases p1 <;> rfl
  rw [eL]
  have b48 : ∀ (s : cS) (kc ks : Nat), KK sa R base G 48 [(0, va_rf (some p0)), (1, va_rf p1)] [] s kc ks (C_Re_setJoined_b48 sa p0 p1 s kc ks Q) := by
    intro s kc ks
    refine kk_aln hG (x := (some p0)) rfl rfl ?_
    refine kk_gi hG (c := 7) (k := 9) (a := p0) rfl rfl rfl rfl (fun v1 => ?_)
    refine kk_ic hG rfl cc_im1 ?_
    refine kk_ieq hG (t := 64) rfl rfl ?_ ?_
    · exact kk_rv hG rfl rfl k
    refine kk_aln hG (x := p1) rfl rfl ?_
    refine kk_aln hG (x := (some p0)) rfl rfl ?_
    refine kk_gi hG (c := 7) (k := 9) (a := p0) rfl rfl rfl rfl (fun v2 => ?_)
    refine kk_ob (fun b3 eb3 => ?_)
    subst eb3
    refine kk_pi hG (c := 4) (k := 4) (a := b3) rfl rfl rfl rfl (fun s4 => ?_)
    exact kk_rv hG rfl rfl k
  refine (show KK sa R base G 0 [(0, va_rf (some p0)), (1, va_rf p1)] [] s kc ks (C_Re_setJoined sa p0 p1 s kc ks Q) from ?_) hw h
  refine kk_aln hG (x := p1) rfl rfl ?_
  refine kk_aln hG (x := (some p0)) rfl rfl ?_
  refine kk_gp hG (c := 7) (k := 6) (a := p0) rfl rfl rfl rfl (fun v1 => ?_)
  refine kk_ob (fun b2 eb2 => ?_)
  subst eb2
  refine kk_cv hG 0 rfl rfl (Nat.le_of_ble_eq_true rfl) (by decide) rfl (st' := []) rfl (cats_le (Nat.le_of_ble_eq_true rfl)) (fun _ hw h k => kk_rcv h.1 (kc_Po_setAddress base sa hw h.2 k)) (fun sr3 cr3 dr3 => ?_)
  refine kk_aln hG (x := (some b2)) rfl rfl ?_
  refine kk_gp hG (c := 4) (k := 6) (a := b2) rfl rfl rfl rfl (fun v4 => ?_)
  refine kk_aln hG (x := (some p0)) rfl rfl ?_
  refine kk_gp hG (c := 7) (k := 11) (a := p0) rfl rfl rfl rfl (fun v5 => ?_)
  refine kk_ob (fun b6 eb6 => ?_)
  subst eb6
  refine kk_cv hG 0 rfl rfl (Nat.le_of_ble_eq_true rfl) (by decide) rfl (st' := []) rfl (cats_le (Nat.le_of_ble_eq_true rfl)) (fun _ hw h k => kk_rcv h.1 (kc_Ch_copy base sa hw h.2 k)) (fun sr7 cr7 dr7 => ?_)
  refine kk_aln hG (x := (some b2)) rfl rfl ?_
  refine kk_dup hG (x := (some b2)) rfl ?_
  refine kk_gi hG (c := 4) (k := 5) (a := b2) rfl rfl rfl rfl (fun v8 => ?_)
  refine kk_aln hG (x := (some p0)) rfl rfl ?_
  refine kk_gi hG (c := 7) (k := 10) (a := p0) rfl rfl rfl rfl (fun v9 => ?_)
  refine kks hG rfl rfl ?_
  refine kk_pz hG (c := 4) (k := 5) (a := b2) rfl rfl rfl rfl (fun s10 => ?_)
  refine kk_aln hG (x := (some p0)) rfl rfl ?_
  refine kk_gi hG (c := 7) (k := 8) (a := p0) rfl rfl rfl rfl (fun v11 => ?_)
  refine kk_ic hG rfl cc_im1 ?_
  refine kk_ieq hG (t := 48) rfl rfl ?_ ?_
  · exact kk_wl hG [0, 1] rfl (b48 _ _ _)
  refine kk_aln hG (x := (some b2)) rfl rfl ?_
  refine kk_aln hG (x := (some p0)) rfl rfl ?_
  refine kk_gi hG (c := 7) (k := 8) (a := p0) rfl rfl rfl rfl (fun v12 => ?_)
  refine kk_pi hG (c := 4) (k := 3) (a := b2) rfl rfl rfl rfl (fun s13 => ?_)
  exact kk_wl hG [0, 1] rfl (b48 _ _ _)
def C_Re_joinLine_b129 (sa : Nat → Nat) (p0 : Nat) (a1 : Option Nat) (a2 : Option Nat) (a3 : Option Nat) (s : cS) (kc ks : Nat) (Q : (Int32 → cS → Nat → Nat → Prop)) : Prop := okO s 7 p0 ∧ C_Re_setJoined sa p0 a3 s kc ks (fun sr1 cr1 dr1 => (ob a1 (fun b2 => (ob (gI sr1 9 3 b2) (fun v3 => (if v3 = 0 then (Q (0 : Int32) sr1 cr1 dr1) else (ob a2 (fun b4 => (ob (gI sr1 3 4 b4) (fun v5 => (if v5 = 0 then (Q (0 : Int32) sr1 cr1 dr1) else (okO sr1 9 b2 ∧ C_Rr_settlePort sa b2 a3 sr1 cr1 dr1 (fun sr6 cr6 dr6 => (ob (gP sr6 7 6 p0) (fun v7 => (ob v7 (fun b8 => (ob (gI sr6 5 0 b8) (fun v9 => (okO sr6 9 b2 ∧ C_Rr_ask sa b2 a3 v9 sr6 cr6 dr6 (fun sr10 cr10 dr10 => (Q (0 : Int32) sr10 cr10 dr10))))))))))))))))))))))
def C_Re_joinLine_b111 (sa : Nat → Nat) (p0 : Nat) (a1 : Option Nat) (a2 : Option Nat) (a3 : Option Nat) (a4 : Int32) (s : cS) (kc ks : Nat) (Q : (Int32 → cS → Nat → Nat → Prop)) : Prop := if a4 = 0 then (if a3 = none then (ob a1 (fun b1 => (okO s 9 b1 ∧ C_Rr_addPort sa b1 a2 s kc ks (fun r2 sr2 cr2 dr2 => ((C_Re_joinLine_b129 sa p0 (some b1) a2 r2 sr2 cr2 dr2 Q)))))) else ((C_Re_joinLine_b129 sa p0 a1 a2 a3 s kc ks Q))) else (Q a4 s kc ks)
def C_Re_joinLine_b83 (sa : Nat → Nat) (p0 : Nat) (a1 : Option Nat) (a2 : Option Nat) (a3 : Option Nat) (s : cS) (kc ks : Nat) (Q : (Int32 → cS → Nat → Nat → Prop)) : Prop := okO s 7 p0 ∧ C_Re_takeJoinOptions sa p0 a3 s kc ks (fun r1 sr1 cr1 dr1 => (if r1 = 0 then (if a3 = none then (ob a1 (fun b2 => (ob (gI sr1 9 5 b2) (fun v3 => (if v3 < (4 : Int32) then ((C_Re_joinLine_b111 sa p0 (some b2) a2 a3 r1 sr1 cr1 dr1 Q)) else ((C_Re_joinLine_b111 sa p0 (some b2) a2 a3 (6 : Int32) sr1 cr1 dr1 Q))))))) else ((C_Re_joinLine_b111 sa p0 a1 a2 a3 r1 sr1 cr1 dr1 Q))) else ((C_Re_joinLine_b111 sa p0 a1 a2 a3 r1 sr1 cr1 dr1 Q))))
def C_Re_joinLine (sa : Nat → Nat) (p0 : Nat) (s : cS) (kc ks : Nat) (Q : (Int32 → cS → Nat → Nat → Prop)) : Prop := ob (gI s 7 3 p0) (fun v1 => (if v1 < (4 : Int32) then (Q (2 : Int32) s kc ks) else (okO s 7 p0 ∧ C_Re_hasJoinOptions sa p0 s kc ks (fun r2 sr2 cr2 dr2 => (if r2 = 0 then (Q (2 : Int32) sr2 cr2 dr2) else (okO sr2 7 p0 ∧ C_Re_routerNamed sa p0 (1 : Int32) sr2 cr2 dr2 (fun r3 sr3 cr3 dr3 => (ob (gP sr3 7 0 p0) (fun v4 => (okO sr3 7 p0 ∧ C_Re_linkNamed sa p0 (2 : Int32) sr3 cr3 dr3 (fun r5 sr5 cr5 dr5 => (ob v4 (fun b6 => (okO sr5 11 b6 ∧ C_Rf_linkAt sa b6 r5 sr5 cr5 dr5 (fun r7 sr7 cr7 dr7 => (if r3 = none then (Q (3 : Int32) sr7 cr7 dr7) else (if r7 = none then (Q (3 : Int32) sr7 cr7 dr7) else (okO sr7 7 p0 ∧ C_Re_takePrefix sa p0 (3 : Int32) (1 : Int32) sr7 cr7 dr7 (fun r8 sr8 cr8 dr8 => (if r8 = 0 then (Q (5 : Int32) sr8 cr8 dr8) else (ob r3 (fun b9 => (okO sr8 9 b9 ∧ C_Rr_portOn sa b9 r7 sr8 cr8 dr8 (fun r10 sr10 cr10 dr10 => (if r10 = none then ((C_Re_joinLine_b83 sa p0 (some b9) r7 r10 sr10 cr10 dr10 Q)) else (ob (gP sr10 7 6 p0) (fun v11 => (ob v11 (fun b12 => (ob (gI sr10 5 0 b12) (fun v13 => (ob r10 (fun b14 => (okO sr10 4 b14 ∧ C_Po_addressOf sa b14 v13 sr10 cr10 dr10 (fun r15 sr15 cr15 dr15 => (if r15 = none then ((C_Re_joinLine_b83 sa p0 (some b9) r7 (some b14) sr15 cr15 dr15 Q)) else (Q (3 : Int32) sr15 cr15 dr15)))))))))))))))))))))))))))))))))))))
set_option maxRecDepth 100000 in
set_option maxHeartbeats 4000000 in
theorem kc_Re_joinLine (base : Nat) (sa : Nat → Nat) {R : pmM} {s : cS} {kc ks : Nat} {Rt : pmR} {p0 : Nat} {Q : (Int32 → cS → Nat → Nat → Prop)} (hw : cW sa R base s) (h : C_Re_joinLine sa p0 s kc ks Q) (k : ∀ r s' kc' ks', cW sa R base s' → Q r s' kc' ks' → Rt (some (.int r)) (cM R s') kc' ks') : kP_Re_joinLine base sa [.ref p0] (cM R s) kc ks Rt := by
  refine ⟨Nat.le_of_ble_eq_true rfl, fun G hG => ?_⟩
  have b129 : ∀ (a1 : Option Nat) (a2 : Option Nat) (a3 : Option Nat) (s : cS) (kc ks : Nat), KK sa R base G 129 [(0, va_rf (some p0)), (1, va_rf a1), (2, va_rf a2), (3, va_rf a3)] [] s kc ks (C_Re_joinLine_b129 sa p0 a1 a2 a3 s kc ks Q) := by
    intro a1 a2 a3 s kc ks
    refine kk_aln hG (x := (some p0)) rfl rfl ?_
    refine kk_aln hG (x := a3) rfl rfl ?_
    refine kk_cv hG 0 rfl rfl (Nat.le_of_ble_eq_true rfl) (by decide) rfl (st' := []) rfl (cats_le (Nat.le_of_ble_eq_true rfl)) (fun _ hw h k => kk_rcv h.1 (kc_Re_setJoined base sa hw h.2 k)) (fun sr1 cr1 dr1 => ?_)
    refine kk_aln hG (x := a1) rfl rfl ?_
    refine kk_ob (fun b2 eb2 => ?_)
    subst eb2
    refine kk_gi hG (c := 9) (k := 3) (a := b2) rfl rfl rfl rfl (fun v3 => ?_)
    refine kk_zeq hG (t := 165) rfl rfl ?_ ?_
    · refine kk_ic hG rfl cc_i0 ?_
      exact kk_ri hG rfl rfl rfl k
    refine kk_aln hG (x := a2) rfl rfl ?_
    refine kk_ob (fun b4 eb4 => ?_)
    subst eb4
    refine kk_gi hG (c := 3) (k := 4) (a := b4) rfl rfl rfl rfl (fun v5 => ?_)
    refine kk_zeq hG (t := 165) rfl rfl ?_ ?_
    · refine kk_ic hG rfl cc_i0 ?_
      exact kk_ri hG rfl rfl rfl k
    refine kk_aln hG (x := (some b2)) rfl rfl ?_
    refine kk_aln hG (x := a3) rfl rfl ?_
    refine kk_cv hG 0 rfl rfl (Nat.le_of_ble_eq_true rfl) (by decide) rfl (st' := []) rfl (cats_le (Nat.le_of_ble_eq_true rfl)) (fun _ hw h k => kk_rcv h.1 (kc_Rr_settlePort base sa hw h.2 k)) (fun sr6 cr6 dr6 => ?_)
    refine kk_aln hG (x := (some b2)) rfl rfl ?_
    refine kk_aln hG (x := a3) rfl rfl ?_
    refine kk_aln hG (x := (some p0)) rfl rfl ?_
    refine kk_gp hG (c := 7) (k := 6) (a := p0) rfl rfl rfl rfl (fun v7 => ?_)
    refine kk_ob (fun b8 eb8 => ?_)
    subst eb8
    refine kk_gi hG (c := 5) (k := 0) (a := b8) rfl rfl rfl rfl (fun v9 => ?_)
    refine kk_cv hG 0 rfl rfl (Nat.le_of_ble_eq_true rfl) (by decide) rfl (st' := []) rfl (cats_le (Nat.le_of_ble_eq_true rfl)) (fun _ hw h k => kk_rcv h.1 (kc_Rr_ask base sa hw h.2 k)) (fun sr10 cr10 dr10 => ?_)
    refine kk_ic hG rfl cc_i0 ?_
    exact kk_ri hG rfl rfl rfl k
  have b111 : ∀ (a1 : Option Nat) (a2 : Option Nat) (a3 : Option Nat) (a4 : Int32) (s : cS) (kc ks : Nat), KK sa R base G 111 [(0, va_rf (some p0)), (1, va_rf a1), (2, va_rf a2), (3, va_rf a3), (4, .int a4)] [] s kc ks (C_Re_joinLine_b111 sa p0 a1 a2 a3 a4 s kc ks Q) := by
    intro a1 a2 a3 a4 s kc ks
    refine kks hG rfl rfl ?_
    refine kk_zeq hG (t := 119) rfl rfl ?_ ?_
    · refine kk_aln hG (x := a3) rfl rfl ?_
      refine kk_nnl hG (x := a3) (t := 129) rfl rfl ?_ ?_
      · exact kk_wl hG [0, 1, 2, 3] rfl (b129 _ _ _ _ _ _)
      refine kk_aln hG (x := a1) rfl rfl ?_
      refine kk_aln hG (x := a2) rfl rfl ?_
      refine kk_ob (fun b1 eb1 => ?_)
      subst eb1
      refine kk_cx (w := va_rf) hG 0 rfl rfl (Nat.le_of_ble_eq_true rfl) (by decide) rfl (st' := []) rfl (cats_le (Nat.le_of_ble_eq_true rfl)) (fun _ hw h k => kk_rcv h.1 (kc_Rr_addPort base sa hw h.2 k)) (fun r2 sr2 cr2 dr2 => ?_)
      refine kk_asn hG (x := r2) (L' := [(3, va_rf r2), (0, va_rf (some p0)), (1, va_rf (some b1)), (2, va_rf a2), (4, .int a4)]) rfl (Nat.le_of_ble_eq_true rfl) (by cases a2 <;> rfl) ?_
      exact kk_wl hG [1, 2, 3, 0] rfl (b129 _ _ _ _ _ _)
    refine kks hG rfl rfl ?_
    exact kk_ri hG rfl rfl rfl k
  have b83 : ∀ (a1 : Option Nat) (a2 : Option Nat) (a3 : Option Nat) (s : cS) (kc ks : Nat), KK sa R base G 83 [(0, va_rf (some p0)), (1, va_rf a1), (2, va_rf a2), (3, va_rf a3)] [] s kc ks (C_Re_joinLine_b83 sa p0 a1 a2 a3 s kc ks Q) := by
    intro a1 a2 a3 s kc ks
    refine kk_aln hG (x := (some p0)) rfl rfl ?_
    refine kk_aln hG (x := a3) rfl rfl ?_
    refine kk_cx (w := .int) hG 0 rfl rfl (Nat.le_of_ble_eq_true rfl) (by decide) rfl (st' := []) rfl (cats_le (Nat.le_of_ble_eq_true rfl)) (fun _ hw h k => kk_rcv h.1 (kc_Re_takeJoinOptions base sa hw h.2 k)) (fun r1 sr1 cr1 dr1 => ?_)
    refine kk_st hG (L' := [(4, .int r1), (0, va_rf (some p0)), (1, va_rf a1), (2, va_rf a2), (3, va_rf a3)]) rfl rfl (Nat.le_of_ble_eq_true rfl) (by cases a3 <;> rfl) ?_
    refine kks hG rfl rfl ?_
    refine kk_zne hG (t := 111) rfl rfl ?_ ?_
    · exact kk_wl hG [1, 2, 3, 4, 0] rfl (b111 _ _ _ _ _ _ _)
    refine kk_aln hG (x := a3) rfl rfl ?_
    refine kk_nnl hG (x := a3) (t := 111) rfl rfl ?_ ?_
    · exact kk_wl hG [1, 2, 3, 4, 0] rfl (b111 _ _ _ _ _ _ _)
    refine kk_aln hG (x := a1) rfl rfl ?_
    refine kk_ob (fun b2 eb2 => ?_)
    subst eb2
    refine kk_gi hG (c := 9) (k := 5) (a := b2) rfl rfl rfl rfl (fun v3 => ?_)
    refine kk_ic hG rfl cc_i4 ?_
    refine kk_ilt hG (t := 111) rfl rfl ?_ ?_
    · exact kk_wl hG [1, 2, 3, 4, 0] rfl (b111 _ _ _ _ _ _ _)
    refine kk_bi hG rfl cc_b6 ?_
    refine kk_st hG (L' := [(4, .int (6 : Int32)), (0, va_rf (some p0)), (1, va_rf (some b2)), (2, va_rf a2), (3, va_rf a3)]) rfl rfl (Nat.le_of_ble_eq_true rfl) (by cases a3 <;> rfl) ?_
    exact kk_wl hG [1, 2, 3, 4, 0] rfl (b111 _ _ _ _ _ _ _)
  refine (show KK sa R base G 0 [(0, va_rf (some p0))] [] s kc ks (C_Re_joinLine sa p0 s kc ks Q) from ?_) hw h
  refine kk_aln hG (x := (some p0)) rfl rfl ?_
  refine kk_gi hG (c := 7) (k := 3) (a := p0) rfl rfl rfl rfl (fun v1 => ?_)
  refine kk_ic hG rfl cc_i4 ?_
  refine kk_ilt hG (t := 15) rfl rfl ?_ ?_
  · refine kk_ic hG rfl cc_i2 ?_
    exact kk_ri hG rfl rfl rfl k
  refine kk_aln hG (x := (some p0)) rfl rfl ?_
  refine kk_cx (w := .int) hG 0 rfl rfl (Nat.le_of_ble_eq_true rfl) (by decide) rfl (st' := []) rfl (cats_le (Nat.le_of_ble_eq_true rfl)) (fun _ hw h k => kk_rcv h.1 (kc_Re_hasJoinOptions base sa hw h.2 k)) (fun r2 sr2 cr2 dr2 => ?_)
  refine kk_zne hG (t := 17) rfl rfl ?_ ?_
  · refine kk_aln hG (x := (some p0)) rfl rfl ?_
    refine kk_ic hG rfl cc_i1 ?_
    refine kk_cx (w := va_rf) hG 0 rfl rfl (Nat.le_of_ble_eq_true rfl) (by decide) rfl (st' := []) rfl (cats_le (Nat.le_of_ble_eq_true rfl)) (fun _ hw h k => kk_rcv h.1 (kc_Re_routerNamed base sa hw h.2 k)) (fun r3 sr3 cr3 dr3 => ?_)
    refine kk_asn hG (x := r3) (L' := [(1, va_rf r3), (0, va_rf (some p0))]) rfl (Nat.le_of_ble_eq_true rfl) rfl ?_
    refine kk_aln hG (x := (some p0)) rfl rfl ?_
    refine kk_gp hG (c := 7) (k := 0) (a := p0) rfl rfl rfl rfl (fun v4 => ?_)
    refine kk_aln hG (x := (some p0)) rfl rfl ?_
    refine kk_ic hG rfl cc_i2 ?_
    refine kk_cx (w := .int) hG 0 rfl rfl (Nat.le_of_ble_eq_true rfl) (by decide) rfl (st' := [va_rf v4]) rfl (cats_le (Nat.le_of_ble_eq_true rfl)) (fun _ hw h k => kk_rcv h.1 (kc_Re_linkNamed base sa hw h.2 k)) (fun r5 sr5 cr5 dr5 => ?_)
    refine kk_ob (fun b6 eb6 => ?_)
    subst eb6
    refine kk_cx (w := va_rf) hG 0 rfl rfl (Nat.le_of_ble_eq_true rfl) (by decide) rfl (st' := []) rfl (cats_le (Nat.le_of_ble_eq_true rfl)) (fun _ hw h k => kk_rcv h.1 (kc_Rf_linkAt base sa hw h.2 k)) (fun r7 sr7 cr7 dr7 => ?_)
    refine kk_asn hG (x := r7) (L' := [(2, va_rf r7), (1, va_rf r3), (0, va_rf (some p0))]) rfl (Nat.le_of_ble_eq_true rfl) (by cases r3 <;> rfl) ?_
    refine kk_aln hG (x := r3) rfl rfl ?_
    refine kk_nul hG (x := r3) (t := 44) rfl rfl ?_ ?_
    · refine kk_ic hG rfl cc_i3 ?_
      exact kk_ri hG rfl rfl rfl k
    refine kk_aln hG (x := r7) rfl rfl ?_
    refine kk_nnl hG (x := r7) (t := 46) rfl rfl ?_ ?_
    · refine kk_aln hG (x := (some p0)) rfl rfl ?_
      refine kk_ic hG rfl cc_i3 ?_
      refine kk_ic hG rfl cc_i1 ?_
      refine kk_cx (w := .int) hG 0 rfl rfl (Nat.le_of_ble_eq_true rfl) (by decide) rfl (st' := []) rfl (cats_le (Nat.le_of_ble_eq_true rfl)) (fun _ hw h k => kk_rcv h.1 (kc_Re_takePrefix base sa hw h.2 k)) (fun r8 sr8 cr8 dr8 => ?_)
      refine kk_zne hG (t := 57) rfl rfl ?_ ?_
      · refine kk_aln hG (x := r3) rfl rfl ?_
        refine kk_aln hG (x := r7) rfl rfl ?_
        refine kk_ob (fun b9 eb9 => ?_)
        subst eb9
        refine kk_cx (w := va_rf) hG 0 rfl rfl (Nat.le_of_ble_eq_true rfl) (by decide) rfl (st' := []) rfl (cats_le (Nat.le_of_ble_eq_true rfl)) (fun _ hw h k => kk_rcv h.1 (kc_Rr_portOn base sa hw h.2 k)) (fun r10 sr10 cr10 dr10 => ?_)
        refine kk_asn hG (x := r10) (L' := [(3, va_rf r10), (2, va_rf r7), (1, va_rf (some b9)), (0, va_rf (some p0))]) rfl (Nat.le_of_ble_eq_true rfl) (by cases r7 <;> rfl) ?_
        refine kk_aln hG (x := r10) rfl rfl ?_
        refine kk_nul hG (x := r10) (t := 83) rfl rfl ?_ ?_
        · exact kk_wl hG [3, 2, 1, 0] rfl (b83 _ _ _ _ _ _)
        refine kk_aln hG (x := r10) rfl rfl ?_
        refine kk_aln hG (x := (some p0)) rfl rfl ?_
        refine kk_gp hG (c := 7) (k := 6) (a := p0) rfl rfl rfl rfl (fun v11 => ?_)
        refine kk_ob (fun b12 eb12 => ?_)
        subst eb12
        refine kk_gi hG (c := 5) (k := 0) (a := b12) rfl rfl rfl rfl (fun v13 => ?_)
        refine kk_ob (fun b14 eb14 => ?_)
        subst eb14
        refine kk_cx (w := va_rf) hG 0 rfl rfl (Nat.le_of_ble_eq_true rfl) (by decide) rfl (st' := []) rfl (cats_le (Nat.le_of_ble_eq_true rfl)) (fun _ hw h k => kk_rcv h.1 (kc_Po_addressOf base sa hw h.2 k)) (fun r15 sr15 cr15 dr15 => ?_)
        refine kk_nul hG (x := r15) (t := 83) rfl rfl ?_ ?_
        · exact kk_wl hG [3, 2, 1, 0] rfl (b83 _ _ _ _ _ _)
        refine kk_ic hG rfl cc_i3 ?_
        exact kk_ri hG rfl rfl rfl k
      refine kk_ic hG rfl cc_i5 ?_
      exact kk_ri hG rfl rfl rfl k
    refine kk_ic hG rfl cc_i3 ?_
    exact kk_ri hG rfl rfl rfl k
  refine kk_ic hG rfl cc_i2 ?_
  exact kk_ri hG rfl rfl rfl k
def C_Re_keyLine_b119 (sa : Nat → Nat) (p0 : Nat) (a1 : Option Nat) (a2 : Int32) (a3 : Int32) (a4 : Int32) (u0 : Int32) (s : cS) (kc ks : Nat) (Q : (Int32 → cS → Nat → Nat → Prop)) : Prop := ob a1 (fun b1 => (ob (gP s 4 6 b1) (fun v2 => (ob (gP s 7 7 p0) (fun v3 => (ob v2 (fun b4 => (okO s 1 b4 ∧ C_Ch_setKey sa b4 a2 u0 v3 a3 a4 s kc ks (fun r5 sr5 cr5 dr5 => (if r5 = 0 then (Q (6 : Int32) sr5 cr5 dr5) else (Q (0 : Int32) sr5 cr5 dr5)))))))))))
def C_Re_keyLine (sa : Nat → Nat) (p0 : Nat) (s : cS) (kc ks : Nat) (Q : (Int32 → cS → Nat → Nat → Prop)) : Prop := ob (gI s 7 3 p0) (fun v1 => (if v1 = (8 : Int32) then (okO s 7 p0 ∧ C_Re_isEither sa p0 (4 : Int32) (some (sa 9)) (some (sa 10)) s kc ks (fun r2 sr2 cr2 dr2 => (if r2 = 0 then (Q (2 : Int32) sr2 cr2 dr2) else (okO sr2 7 p0 ∧ C_Re_portNamed sa p0 sr2 cr2 dr2 (fun r3 sr3 cr3 dr3 => (if r3 = none then (Q (3 : Int32) sr3 cr3 dr3) else (okO sr3 7 p0 ∧ C_Re_number sa p0 (3 : Int32) (0 : Int32) (255 : Int32) sr3 cr3 dr3 (fun r4 sr4 cr4 dr4 => (okO sr4 7 p0 ∧ C_Re_number sa p0 (6 : Int32) (0 : Int32) (99999 : Int32) sr4 cr4 dr4 (fun r5 sr5 cr5 dr5 => (okO sr5 7 p0 ∧ C_Re_number sa p0 (7 : Int32) (0 : Int32) (99999 : Int32) sr5 cr5 dr5 (fun r6 sr6 cr6 dr6 => (if r4 = ((-1) : Int32) then (Q (4 : Int32) sr6 cr6 dr6) else (okO sr6 7 p0 ∧ C_Re_takeSecret sa p0 (5 : Int32) sr6 cr6 dr6 (fun r7 sr7 cr7 dr7 => (if r7 = 0 then (Q (4 : Int32) sr7 cr7 dr7) else (if r5 = ((-1) : Int32) then (Q (4 : Int32) sr7 cr7 dr7) else (if r6 = ((-1) : Int32) then (Q (4 : Int32) sr7 cr7 dr7) else (if r6 < r5 then (Q (4 : Int32) sr7 cr7 dr7) else (okO sr7 7 p0 ∧ C_Re_is sa p0 (4 : Int32) (some (sa 9)) sr7 cr7 dr7 (fun r8 sr8 cr8 dr8 => (if r8 = 0 then ((C_Re_keyLine_b119 sa p0 r3 r4 r5 r6 (20 : Int32) sr8 cr8 dr8 Q)) else ((C_Re_keyLine_b119 sa p0 r3 r4 r5 r6 (16 : Int32) sr8 cr8 dr8 Q)))))))))))))))))))))))) else (Q (2 : Int32) s kc ks)))
set_option maxRecDepth 100000 in
set_option maxHeartbeats 4000000 in
theorem kc_Re_keyLine (base : Nat) (sa : Nat → Nat) {R : pmM} {s : cS} {kc ks : Nat} {Rt : pmR} {p0 : Nat} {Q : (Int32 → cS → Nat → Nat → Prop)} (hw : cW sa R base s) (h : C_Re_keyLine sa p0 s kc ks Q) (k : ∀ r s' kc' ks', cW sa R base s' → Q r s' kc' ks' → Rt (some (.int r)) (cM R s') kc' ks') : kP_Re_keyLine base sa [.ref p0] (cM R s) kc ks Rt := by
  refine ⟨Nat.le_of_ble_eq_true rfl, fun G hG => ?_⟩
  have b119 : ∀ (a1 : Option Nat) (a2 : Int32) (a3 : Int32) (a4 : Int32) (u0 : Int32) (s : cS) (kc ks : Nat), KK sa R base G 119 [(0, va_rf (some p0)), (1, va_rf a1), (2, .int a2), (3, .int a3), (4, .int a4)] [.int u0] s kc ks (C_Re_keyLine_b119 sa p0 a1 a2 a3 a4 u0 s kc ks Q) := by
    intro a1 a2 a3 a4 u0 s kc ks
    refine kk_st hG (L' := [(5, .int u0), (0, va_rf (some p0)), (1, va_rf a1), (2, .int a2), (3, .int a3), (4, .int a4)]) rfl rfl (Nat.le_of_ble_eq_true rfl) rfl ?_
    refine kk_aln hG (x := a1) rfl rfl ?_
    refine kk_ob (fun b1 eb1 => ?_)
    subst eb1
    refine kk_gp hG (c := 4) (k := 6) (a := b1) rfl rfl rfl rfl (fun v2 => ?_)
    refine kks hG rfl rfl ?_
    refine kks hG rfl rfl ?_
    refine kk_aln hG (x := (some p0)) rfl rfl ?_
    refine kk_gp hG (c := 7) (k := 7) (a := p0) rfl rfl rfl rfl (fun v3 => ?_)
    refine kks hG rfl rfl ?_
    refine kks hG rfl rfl ?_
    refine kk_ob (fun b4 eb4 => ?_)
    subst eb4
    refine kk_cx (w := .int) hG 0 rfl rfl (Nat.le_of_ble_eq_true rfl) (by decide) rfl (st' := []) rfl (cats_le (Nat.le_of_ble_eq_true rfl)) (fun _ hw h k => kk_rcv h.1 (kc_Ch_setKey base sa hw h.2 k)) (fun r5 sr5 cr5 dr5 => ?_)
    refine kk_zeq hG (t := 145) rfl rfl ?_ ?_
    · refine kk_bi hG rfl cc_b6 ?_
      exact kk_ri hG rfl rfl rfl k
    refine kk_ic hG rfl cc_i0 ?_
    refine kk_go hG (t := 147) rfl rfl ?_
    exact kk_ri hG rfl rfl rfl k
  refine (show KK sa R base G 0 [(0, va_rf (some p0))] [] s kc ks (C_Re_keyLine sa p0 s kc ks Q) from ?_) hw h
  refine kk_aln hG (x := (some p0)) rfl rfl ?_
  refine kk_gi hG (c := 7) (k := 3) (a := p0) rfl rfl rfl rfl (fun v1 => ?_)
  refine kk_bi hG rfl cc_b8 ?_
  refine kk_ine hG (t := 23) rfl rfl ?_ ?_
  · refine kk_ic hG rfl cc_i2 ?_
    exact kk_ri hG rfl rfl rfl k
  refine kk_aln hG (x := (some p0)) rfl rfl ?_
  refine kk_ic hG rfl cc_i4 ?_
  refine kk_lws hG (a := sa 9) rfl rfl ?_
  refine kk_lws hG (a := sa 10) rfl rfl ?_
  refine kk_cx (w := .int) hG 0 rfl rfl (Nat.le_of_ble_eq_true rfl) (by decide) rfl (st' := []) rfl (cats_le (Nat.le_of_ble_eq_true rfl)) (fun _ hw h k => kk_rcv h.1 (kc_Re_isEither base sa hw h.2 k)) (fun r2 sr2 cr2 dr2 => ?_)
  refine kk_zne hG (t := 25) rfl rfl ?_ ?_
  · refine kk_aln hG (x := (some p0)) rfl rfl ?_
    refine kk_cx (w := va_rf) hG 0 rfl rfl (Nat.le_of_ble_eq_true rfl) (by decide) rfl (st' := []) rfl (cats_le (Nat.le_of_ble_eq_true rfl)) (fun _ hw h k => kk_rcv h.1 (kc_Re_portNamed base sa hw h.2 k)) (fun r3 sr3 cr3 dr3 => ?_)
    refine kk_asn hG (x := r3) (L' := [(1, va_rf r3), (0, va_rf (some p0))]) rfl (Nat.le_of_ble_eq_true rfl) rfl ?_
    refine kk_aln hG (x := r3) rfl rfl ?_
    refine kk_nnl hG (x := r3) (t := 36) rfl rfl ?_ ?_
    · refine kk_aln hG (x := (some p0)) rfl rfl ?_
      refine kk_ic hG rfl cc_i3 ?_
      refine kk_ic hG rfl cc_i0 ?_
      refine kk_si hG rfl cc_s255 ?_
      refine kk_cx (w := .int) hG 0 rfl rfl (Nat.le_of_ble_eq_true rfl) (by decide) rfl (st' := []) rfl (cats_le (Nat.le_of_ble_eq_true rfl)) (fun _ hw h k => kk_rcv h.1 (kc_Re_number base sa hw h.2 k)) (fun r4 sr4 cr4 dr4 => ?_)
      refine kk_st hG (L' := [(2, .int r4), (1, va_rf r3), (0, va_rf (some p0))]) rfl rfl (Nat.le_of_ble_eq_true rfl) (by cases r3 <;> rfl) ?_
      refine kk_aln hG (x := (some p0)) rfl rfl ?_
      refine kk_bi hG rfl cc_b6 ?_
      refine kk_ic hG rfl cc_i0 ?_
      refine kk_lw hG (v := (99999 : Int32)) rfl rfl ?_
      refine kk_cx (w := .int) hG 0 rfl rfl (Nat.le_of_ble_eq_true rfl) (by decide) rfl (st' := []) rfl (cats_le (Nat.le_of_ble_eq_true rfl)) (fun _ hw h k => kk_rcv h.1 (kc_Re_number base sa hw h.2 k)) (fun r5 sr5 cr5 dr5 => ?_)
      refine kk_st hG (L' := [(3, .int r5), (2, .int r4), (1, va_rf r3), (0, va_rf (some p0))]) rfl rfl (Nat.le_of_ble_eq_true rfl) rfl ?_
      refine kk_aln hG (x := (some p0)) rfl rfl ?_
      refine kk_bi hG rfl cc_b7 ?_
      refine kk_ic hG rfl cc_i0 ?_
      refine kk_lw hG (v := (99999 : Int32)) rfl rfl ?_
      refine kk_cx (w := .int) hG 0 rfl rfl (Nat.le_of_ble_eq_true rfl) (by decide) rfl (st' := []) rfl (cats_le (Nat.le_of_ble_eq_true rfl)) (fun _ hw h k => kk_rcv h.1 (kc_Re_number base sa hw h.2 k)) (fun r6 sr6 cr6 dr6 => ?_)
      refine kk_st hG (L' := [(4, .int r6), (3, .int r5), (2, .int r4), (1, va_rf r3), (0, va_rf (some p0))]) rfl rfl (Nat.le_of_ble_eq_true rfl) rfl ?_
      refine kks hG rfl rfl ?_
      refine kk_ic hG rfl cc_im1 ?_
      refine kk_ieq hG (t := 99) rfl rfl ?_ ?_
      · refine kk_ic hG rfl cc_i4 ?_
        exact kk_ri hG rfl rfl rfl k
      refine kk_aln hG (x := (some p0)) rfl rfl ?_
      refine kk_ic hG rfl cc_i5 ?_
      refine kk_cx (w := .int) hG 0 rfl rfl (Nat.le_of_ble_eq_true rfl) (by decide) rfl (st' := []) rfl (cats_le (Nat.le_of_ble_eq_true rfl)) (fun _ hw h k => kk_rcv h.1 (kc_Re_takeSecret base sa hw h.2 k)) (fun r7 sr7 cr7 dr7 => ?_)
      refine kk_zeq hG (t := 99) rfl rfl ?_ ?_
      · refine kk_ic hG rfl cc_i4 ?_
        exact kk_ri hG rfl rfl rfl k
      refine kks hG rfl rfl ?_
      refine kk_ic hG rfl cc_im1 ?_
      refine kk_ieq hG (t := 99) rfl rfl ?_ ?_
      · refine kk_ic hG rfl cc_i4 ?_
        exact kk_ri hG rfl rfl rfl k
      refine kks hG rfl rfl ?_
      refine kk_ic hG rfl cc_im1 ?_
      refine kk_ieq hG (t := 99) rfl rfl ?_ ?_
      · refine kk_ic hG rfl cc_i4 ?_
        exact kk_ri hG rfl rfl rfl k
      refine kks hG rfl rfl ?_
      refine kks hG rfl rfl ?_
      refine kk_ile hG (t := 101) rfl rfl ?_ ?_
      · refine kk_aln hG (x := (some p0)) rfl rfl ?_
        refine kk_ic hG rfl cc_i4 ?_
        refine kk_lws hG (a := sa 9) rfl rfl ?_
        refine kk_cx (w := .int) hG 0 rfl rfl (Nat.le_of_ble_eq_true rfl) (by decide) rfl (st' := []) rfl (cats_le (Nat.le_of_ble_eq_true rfl)) (fun _ hw h k => kk_rcv h.1 (kc_Re_is base sa hw h.2 k)) (fun r8 sr8 cr8 dr8 => ?_)
        refine kk_zeq hG (t := 117) rfl rfl ?_ ?_
        · refine kk_bi hG rfl cc_b20 ?_
          exact kk_wl hG [4, 3, 2, 1, 0] rfl (b119 _ _ _ _ _ _ _ _)
        refine kk_bi hG rfl cc_b16 ?_
        refine kk_go hG (t := 119) rfl rfl ?_
        exact kk_wl hG [4, 3, 2, 1, 0] rfl (b119 _ _ _ _ _ _ _ _)
      refine kk_ic hG rfl cc_i4 ?_
      exact kk_ri hG rfl rfl rfl k
    refine kk_ic hG rfl cc_i3 ?_
    exact kk_ri hG rfl rfl rfl k
  refine kk_ic hG rfl cc_i2 ?_
  exact kk_ri hG rfl rfl rfl k
def C_Re_nokeyLine (sa : Nat → Nat) (p0 : Nat) (s : cS) (kc ks : Nat) (Q : (Int32 → cS → Nat → Nat → Prop)) : Prop := ob (gI s 7 3 p0) (fun v1 => (if v1 = (3 : Int32) then (okO s 7 p0 ∧ C_Re_portNamed sa p0 s kc ks (fun r2 sr2 cr2 dr2 => (if r2 = none then (Q (3 : Int32) sr2 cr2 dr2) else (ob r2 (fun b3 => (ob (gP sr2 4 6 b3) (fun v4 => (ob v4 (fun b5 => (okO sr2 1 b5 ∧ C_Ch_clear sa b5 sr2 cr2 dr2 (fun sr6 cr6 dr6 => (Q (0 : Int32) sr6 cr6 dr6)))))))))))) else (Q (2 : Int32) s kc ks)))
set_option maxRecDepth 100000 in
set_option maxHeartbeats 4000000 in
theorem kc_Re_nokeyLine (base : Nat) (sa : Nat → Nat) {R : pmM} {s : cS} {kc ks : Nat} {Rt : pmR} {p0 : Nat} {Q : (Int32 → cS → Nat → Nat → Prop)} (hw : cW sa R base s) (h : C_Re_nokeyLine sa p0 s kc ks Q) (k : ∀ r s' kc' ks', cW sa R base s' → Q r s' kc' ks' → Rt (some (.int r)) (cM R s') kc' ks') : kP_Re_nokeyLine base sa [.ref p0] (cM R s) kc ks Rt := by
  refine ⟨Nat.le_of_ble_eq_true rfl, fun G hG => ?_⟩
  refine (show KK sa R base G 0 [(0, va_rf (some p0))] [] s kc ks (C_Re_nokeyLine sa p0 s kc ks Q) from ?_) hw h
  refine kk_aln hG (x := (some p0)) rfl rfl ?_
  refine kk_gi hG (c := 7) (k := 3) (a := p0) rfl rfl rfl rfl (fun v1 => ?_)
  refine kk_ic hG rfl cc_i3 ?_
  refine kk_ieq hG (t := 10) rfl rfl ?_ ?_
  · refine kk_aln hG (x := (some p0)) rfl rfl ?_
    refine kk_cx (w := va_rf) hG 0 rfl rfl (Nat.le_of_ble_eq_true rfl) (by decide) rfl (st' := []) rfl (cats_le (Nat.le_of_ble_eq_true rfl)) (fun _ hw h k => kk_rcv h.1 (kc_Re_portNamed base sa hw h.2 k)) (fun r2 sr2 cr2 dr2 => ?_)
    refine kk_asn hG (x := r2) (L' := [(1, va_rf r2), (0, va_rf (some p0))]) rfl (Nat.le_of_ble_eq_true rfl) rfl ?_
    refine kk_aln hG (x := r2) rfl rfl ?_
    refine kk_nnl hG (x := r2) (t := 21) rfl rfl ?_ ?_
    · refine kk_aln hG (x := r2) rfl rfl ?_
      refine kk_ob (fun b3 eb3 => ?_)
      subst eb3
      refine kk_gp hG (c := 4) (k := 6) (a := b3) rfl rfl rfl rfl (fun v4 => ?_)
      refine kk_ob (fun b5 eb5 => ?_)
      subst eb5
      refine kk_cv hG 0 rfl rfl (Nat.le_of_ble_eq_true rfl) (by decide) rfl (st' := []) rfl (cats_le (Nat.le_of_ble_eq_true rfl)) (fun _ hw h k => kk_rcv h.1 (kc_Ch_clear base sa hw h.2 k)) (fun sr6 cr6 dr6 => ?_)
      refine kk_ic hG rfl cc_i0 ?_
      exact kk_ri hG rfl rfl rfl k
    refine kk_ic hG rfl cc_i3 ?_
    exact kk_ri hG rfl rfl rfl k
  refine kk_ic hG rfl cc_i2 ?_
  exact kk_ri hG rfl rfl rfl k
