/-! Methods as weakest preconditions, by program: Po_isFresh .. Rr_concerns -/
def C_Po_isFresh_b103 (sa : Nat → Nat) (p0 : Nat) (p2 : Int32) (a3 : Int32) (a4 : Int32) (s : cS) (kc ks : Nat) (Q : (Int32 → cS → Nat → Nat → Prop)) : Prop := ob (gP s 4 16 p0) (fun v1 => (ob v1 (fun b2 => (ob (wEi s b2 a4 a3) (fun s3 => (ob (gP s3 4 17 p0) (fun v4 => (ob v4 (fun b5 => (ob (wEi s3 b5 a4 p2) (fun s6 => (ob (gI s6 4 18 p0) (fun v7 => (ob (pI s6 4 18 p0 (mxI v7 (a4 + (1 : Int32)))) (fun s8 => (Q (1 : Int32) s8 kc ks))))))))))))))))
def C_Po_isFresh_b71 (sa : Nat → Nat) (p0 : Nat) (p2 : Int32) (a3 : Int32) (a4 : Int32) (s : cS) (kc ks : Nat) (Q : (Int32 → cS → Nat → Nat → Prop)) : Prop := ob (gP s 4 16 p0) (fun v1 => (ob v1 (fun b2 => (ob (aL s b2) (fun v3 => (if a4 < v3 then ((C_Po_isFresh_b103 sa p0 p2 a3 a4 s kc ks Q)) else (ob (gP s 4 16 p0) (fun v4 => (C_Po_widened sa v4 s kc ks (fun r5 sr5 cr5 dr5 => (ob (pP sr5 4 16 p0 r5) (fun s6 => (ob (gP s6 4 17 p0) (fun v7 => (C_Po_widened sa v7 s6 cr5 dr5 (fun r8 sr8 cr8 dr8 => (ob (pP sr8 4 17 p0 r8) (fun s9 => ((C_Po_isFresh_b103 sa p0 p2 a3 a4 s9 cr8 dr8 Q))))))))))))))))))))
def C_Po_isFresh_b38 (sa : Nat → Nat) (p0 : Nat) (p2 : Int32) (a3 : Int32) (a4 : Int32) (s : cS) (kc ks : Nat) (Q : (Int32 → cS → Nat → Nat → Prop)) : Prop := ob (gI s 4 18 p0) (fun v1 => (if a4 < v1 then (ob (gP s 4 17 p0) (fun v2 => (ob v2 (fun b3 => (ob (rE s .int b3 a4) (fun v4 => (if ((Int32.toInt64 p2) &&& (4294967295 : Int64)) < ((Int32.toInt64 v4) &&& (4294967295 : Int64)) then (Q (0 : Int32) s kc ks) else ((C_Po_isFresh_b71 sa p0 p2 a3 a4 s kc ks Q))))))))) else ((C_Po_isFresh_b71 sa p0 p2 a3 a4 s kc ks Q))))
def C_Po_isFresh_s12 (sa : Nat → Nat) (p0 : Nat) (p2 : Int32) (a3 : Int32) (a4 : Int32) (s : cS) (kc ks : Nat) (Q : (Int32 → cS → Nat → Nat → Prop)) (P12 : (Int32 → cS → Nat → Nat → Prop)) : Prop := ob (gI s 4 18 p0) (fun v1 => (if a4 < v1 then (ob (gP s 4 16 p0) (fun v2 => (ob v2 (fun b3 => (ob (rE s .int b3 a4) (fun v4 => (if v4 = a3 then ((C_Po_isFresh_b38 sa p0 p2 a3 a4 s kc ks Q)) else ((P12 (a4 + (1 : Int32)) s kc ks))))))))) else ((C_Po_isFresh_b38 sa p0 p2 a3 a4 s kc ks Q))))
def C_Po_isFresh_b12 (sa : Nat → Nat) (p0 : Nat) (p2 : Int32) (a3 : Int32) (a4 : Int32) (s : cS) (kc ks : Nat) (Q : (Int32 → cS → Nat → Nat → Prop)) : Prop := ∀ P12 : (Int32 → cS → Nat → Nat → Prop), (∀ (a4 : Int32) (s : cS) (kc ks : Nat), C_Po_isFresh_s12 sa p0 p2 a3 a4 s kc ks Q P12 → P12 a4 s kc ks) → P12 a4 s kc ks
def C_Po_isFresh (sa : Nat → Nat) (p0 : Nat) (p1 : Option Nat) (p2 : Int32) (s : cS) (kc ks : Nat) (Q : (Int32 → cS → Nat → Nat → Prop)) : Prop := ob p1 (fun b1 => (ob (gJ s 5 1 b1) (fun v2 => ((C_Po_isFresh_b12 sa p0 p2 (Int64.toInt32 (ush_L v2 (32 : Int32))) (0 : Int32) s kc ks Q)))))
set_option maxRecDepth 100000 in
set_option maxHeartbeats 4000000 in
theorem kc_Po_isFresh (base : Nat) (sa : Nat → Nat) {R : pmM} {s : cS} {kc ks : Nat} {Rt : pmR} {p0 : Nat} {p1 : Option Nat} {p2 : Int32} {Q : (Int32 → cS → Nat → Nat → Prop)} (hw : cW sa R base s) (h : C_Po_isFresh sa p0 p1 p2 s kc ks Q) (k : ∀ r s' kc' ks', cW sa R base s' → Q r s' kc' ks' → Rt (some (.int r)) (cM R s') kc' ks') : kP_Po_isFresh base sa [.ref p0, va_rf p1, .int p2] (cM R s) kc ks Rt := by
  refine ⟨by cases p1 <;> exact Nat.le_of_ble_eq_true rfl, fun G hG => ?_⟩
  have eL : lv_args 0 [.ref p0, va_rf p1, .int p2] = [(0, va_rf (some p0)), (1, va_rf p1), (2, .int p2)] := by cases p1 <;> rfl
  rw [eL]
  have b103 : ∀ (a3 : Int32) (a4 : Int32) (s : cS) (kc ks : Nat), KK sa R base G 103 [(0, va_rf (some p0)), (2, .int p2), (3, .int a3), (4, .int a4)] [] s kc ks (C_Po_isFresh_b103 sa p0 p2 a3 a4 s kc ks Q) := by
    intro a3 a4 s kc ks
    refine kk_aln hG (x := (some p0)) rfl rfl ?_
    refine kk_gp hG (c := 4) (k := 16) (a := p0) rfl rfl rfl rfl (fun v1 => ?_)
    refine kks hG rfl rfl ?_
    refine kks hG rfl rfl ?_
    refine kk_ob (fun b2 eb2 => ?_)
    subst eb2
    refine kk_is hG (a := b2) rfl (fun s3 => ?_)
    refine kk_aln hG (x := (some p0)) rfl rfl ?_
    refine kk_gp hG (c := 4) (k := 17) (a := p0) rfl rfl rfl rfl (fun v4 => ?_)
    refine kks hG rfl rfl ?_
    refine kks hG rfl rfl ?_
    refine kk_ob (fun b5 eb5 => ?_)
    subst eb5
    refine kk_is hG (a := b5) rfl (fun s6 => ?_)
    refine kk_aln hG (x := (some p0)) rfl rfl ?_
    refine kk_aln hG (x := (some p0)) rfl rfl ?_
    refine kk_gi hG (c := 4) (k := 18) (a := p0) rfl rfl rfl rfl (fun v7 => ?_)
    refine kks hG rfl rfl ?_
    refine kk_ic hG rfl cc_i1 ?_
    refine kks hG rfl rfl ?_
    refine kk_mx hG rfl rfl (Nat.le_of_ble_eq_true rfl) ?_
    refine kk_pi hG (c := 4) (k := 18) (a := p0) rfl rfl rfl rfl (fun s8 => ?_)
    refine kk_ic hG rfl cc_i1 ?_
    exact kk_ri hG rfl rfl rfl k
  have b71 : ∀ (a3 : Int32) (a4 : Int32) (s : cS) (kc ks : Nat), KK sa R base G 71 [(0, va_rf (some p0)), (2, .int p2), (3, .int a3), (4, .int a4)] [] s kc ks (C_Po_isFresh_b71 sa p0 p2 a3 a4 s kc ks Q) := by
    intro a3 a4 s kc ks
    refine kks hG rfl rfl ?_
    refine kk_aln hG (x := (some p0)) rfl rfl ?_
    refine kk_gp hG (c := 4) (k := 16) (a := p0) rfl rfl rfl rfl (fun v1 => ?_)
    refine kk_ob (fun b2 eb2 => ?_)
    subst eb2
    refine kk_len hG (a := b2) rfl (fun v3 => ?_)
    refine kk_ilt hG (t := 103) rfl rfl ?_ ?_
    · exact kk_wl hG [0, 1, 2, 3] rfl (b103 _ _ _ _ _)
    refine kk_aln hG (x := (some p0)) rfl rfl ?_
    refine kk_aln hG (x := (some p0)) rfl rfl ?_
    refine kk_gp hG (c := 4) (k := 16) (a := p0) rfl rfl rfl rfl (fun v4 => ?_)
    refine kk_cx (w := va_rf) hG 2 rfl rfl (Nat.le_of_ble_eq_true rfl) (by decide) rfl (st' := [va_rf (some p0)]) rfl (cats_le (Nat.le_of_ble_eq_true rfl)) (fun _ hw h k => kc_Po_widened base sa hw h k) (fun r5 sr5 cr5 dr5 => ?_)
    refine kk_pp hG (c := 4) (k := 16) (a := p0) (v := r5) rfl rfl rfl rfl rfl (fun s6 => ?_)
    refine kk_aln hG (x := (some p0)) rfl rfl ?_
    refine kk_aln hG (x := (some p0)) rfl rfl ?_
    refine kk_gp hG (c := 4) (k := 17) (a := p0) rfl rfl rfl rfl (fun v7 => ?_)
    refine kk_cx (w := va_rf) hG 2 rfl rfl (Nat.le_of_ble_eq_true rfl) (by decide) rfl (st' := [va_rf (some p0)]) rfl (cats_le (Nat.le_of_ble_eq_true rfl)) (fun _ hw h k => kc_Po_widened base sa hw h k) (fun r8 sr8 cr8 dr8 => ?_)
    refine kk_pp hG (c := 4) (k := 17) (a := p0) (v := r8) rfl rfl rfl rfl rfl (fun s9 => ?_)
    exact kk_wl hG [0, 1, 2, 3] rfl (b103 _ _ _ _ _)
  have b38 : ∀ (a3 : Int32) (a4 : Int32) (s : cS) (kc ks : Nat), KK sa R base G 38 [(0, va_rf (some p0)), (2, .int p2), (3, .int a3), (4, .int a4)] [] s kc ks (C_Po_isFresh_b38 sa p0 p2 a3 a4 s kc ks Q) := by
    intro a3 a4 s kc ks
    refine kks hG rfl rfl ?_
    refine kk_aln hG (x := (some p0)) rfl rfl ?_
    refine kk_gi hG (c := 4) (k := 18) (a := p0) rfl rfl rfl rfl (fun v1 => ?_)
    refine kk_ige hG (t := 71) rfl rfl ?_ ?_
    · exact kk_wl hG [0, 1, 2, 3] rfl (b71 _ _ _ _ _)
    refine kks hG rfl rfl ?_
    refine kks hG rfl rfl ?_
    refine kk_l2 hG (v := (4294967295 : Int64)) rfl rfl ?_
    refine kks hG rfl rfl ?_
    refine kk_aln hG (x := (some p0)) rfl rfl ?_
    refine kk_gp hG (c := 4) (k := 17) (a := p0) rfl rfl rfl rfl (fun v2 => ?_)
    refine kks hG rfl rfl ?_
    refine kk_ob (fun b3 eb3 => ?_)
    subst eb3
    refine kk_ia hG (a := b3) rfl (fun v4 => ?_)
    refine kks hG rfl rfl ?_
    refine kk_l2 hG (v := (4294967295 : Int64)) rfl rfl ?_
    refine kks hG rfl rfl ?_
    refine kks hG rfl rfl ?_
    refine kk_lge hG (t := 71) rfl rfl ?_ ?_
    · exact kk_wl hG [0, 1, 2, 3] rfl (b71 _ _ _ _ _)
    refine kk_ic hG rfl cc_i0 ?_
    exact kk_ri hG rfl rfl rfl k
  have b12 : ∀ (a3 : Int32) (a4 : Int32) (s : cS) (kc ks : Nat), KK sa R base G 12 [(0, va_rf (some p0)), (2, .int p2), (3, .int a3), (4, .int a4)] [] s kc ks (C_Po_isFresh_b12 sa p0 p2 a3 a4 s kc ks Q) := by
    intro a3
    have H : ∀ (P12 : (Int32 → cS → Nat → Nat → Prop)) (hP12 : ∀ (a4 : Int32) (s : cS) (kc ks : Nat), P12 a4 s kc ks → cW sa R base s → G 12 [(0, va_rf (some p0)), (2, .int p2), (3, .int a3), (4, .int a4)] [] (cM R s) kc ks) (a4 : Int32) (s : cS) (kc ks : Nat), KK sa R base G 12 [(0, va_rf (some p0)), (2, .int p2), (3, .int a3), (4, .int a4)] [] s kc ks (C_Po_isFresh_s12 sa p0 p2 a3 a4 s kc ks Q P12) := by
      intro P12 hP12
      intro a4 s kc ks
      refine kks hG rfl rfl ?_
      refine kk_aln hG (x := (some p0)) rfl rfl ?_
      refine kk_gi hG (c := 4) (k := 18) (a := p0) rfl rfl rfl rfl (fun v1 => ?_)
      refine kk_ige hG (t := 38) rfl rfl ?_ ?_
      · exact kk_wl hG [0, 1, 2, 3] rfl (b38 _ _ _ _ _)
      refine kk_aln hG (x := (some p0)) rfl rfl ?_
      refine kk_gp hG (c := 4) (k := 16) (a := p0) rfl rfl rfl rfl (fun v2 => ?_)
      refine kks hG rfl rfl ?_
      refine kk_ob (fun b3 eb3 => ?_)
      subst eb3
      refine kk_ia hG (a := b3) rfl (fun v4 => ?_)
      refine kks hG rfl rfl ?_
      refine kk_ieq hG (t := 38) rfl rfl ?_ ?_
      · exact kk_wl hG [0, 1, 2, 3] rfl (b38 _ _ _ _ _)
      refine kk_inc hG (L' := [(4, .int (a4 + (1 : Int32))), (0, va_rf (some p0)), (2, .int p2), (3, .int a3)]) rfl (Nat.le_of_ble_eq_true rfl) rfl cc_i1 rfl ?_
      refine kk_go hG (t := 12) rfl rfl ?_
      exact kk_wl hG [1, 2, 3, 0] rfl (fun hw h => hP12 _ _ _ _ h hw)
    exact fun a4 s kc ks hw h => h (fun a4 s kc ks => cW sa R base s → G 12 [(0, va_rf (some p0)), (2, .int p2), (3, .int a3), (4, .int a4)] [] (cM R s) kc ks) (fun a4 s kc ks hs hw => H _ (fun _ _ _ _ hp hw => hp hw) a4 s kc ks hw hs) hw
  refine (show KK sa R base G 0 [(0, va_rf (some p0)), (1, va_rf p1), (2, .int p2)] [] s kc ks (C_Po_isFresh sa p0 p1 p2 s kc ks Q) from ?_) hw h
  refine kk_aln hG (x := p1) rfl rfl ?_
  refine kk_ob (fun b1 eb1 => ?_)
  subst eb1
  refine kk_gj hG (c := 5) (k := 1) (a := b1) rfl rfl rfl rfl (fun v2 => ?_)
  refine kk_bi hG rfl cc_b32 ?_
  refine kks hG rfl rfl ?_
  refine kks hG rfl rfl ?_
  refine kk_st hG (L' := [(3, .int (Int64.toInt32 (ush_L v2 (32 : Int32)))), (0, va_rf (some p0)), (1, va_rf (some b1)), (2, .int p2)]) rfl rfl (Nat.le_of_ble_eq_true rfl) rfl ?_
  refine kk_ic hG rfl cc_i0 ?_
  refine kk_st hG (L' := [(4, .int (0 : Int32)), (3, .int (Int64.toInt32 (ush_L v2 (32 : Int32)))), (0, va_rf (some p0)), (1, va_rf (some b1)), (2, .int p2)]) rfl rfl (Nat.le_of_ble_eq_true rfl) rfl ?_
  exact kk_wl hG [2, 4, 1, 0] rfl (b12 _ _ _ _ _)
def C_Ch_isPasswordEntry_s2 (sa : Nat → Nat) (p0 : Nat) (p1 : Option Nat) (a2 : Int32) (s : cS) (kc ks : Nat) (Q : (Int32 → cS → Nat → Nat → Prop)) (P2 : (Int32 → cS → Nat → Nat → Prop)) : Prop := if a2 < (16 : Int32) then (ob p1 (fun b3 => (okO s 0 b3 ∧ C_By_at sa b3 ((8 : Int32) + a2) s kc ks (fun r4 sr4 cr4 dr4 => (ob (gP sr4 1 1 p0) (fun v5 => (ob v5 (fun b6 => (ob (rE sr4 .byte b6 a2) (fun v7 => (if r4 = v7 then ((P2 (a2 + (1 : Int32)) sr4 cr4 dr4)) else ((Q (0 : Int32) sr4 cr4 dr4))))))))))))) else ((ob p1 (fun b1 => (okO s 0 b1 ∧ C_By_numberAt sa b1 (4 : Int32) (4 : Int32) s kc ks (fun r2 sr2 cr2 dr2 => (if r2 = (4294901762 : Int64) then (Q (1 : Int32) sr2 cr2 dr2) else (Q (0 : Int32) sr2 cr2 dr2)))))))
def C_Ch_isPasswordEntry_b2 (sa : Nat → Nat) (p0 : Nat) (p1 : Option Nat) (a2 : Int32) (s : cS) (kc ks : Nat) (Q : (Int32 → cS → Nat → Nat → Prop)) : Prop := ∀ P2 : (Int32 → cS → Nat → Nat → Prop), (∀ (a2 : Int32) (s : cS) (kc ks : Nat), C_Ch_isPasswordEntry_s2 sa p0 p1 a2 s kc ks Q P2 → P2 a2 s kc ks) → P2 a2 s kc ks
def C_Ch_isPasswordEntry (sa : Nat → Nat) (p0 : Nat) (p1 : Option Nat) (s : cS) (kc ks : Nat) (Q : (Int32 → cS → Nat → Nat → Prop)) : Prop := (C_Ch_isPasswordEntry_b2 sa p0 p1 (0 : Int32) s kc ks Q)
set_option maxRecDepth 100000 in
set_option maxHeartbeats 4000000 in
theorem kc_Ch_isPasswordEntry (base : Nat) (sa : Nat → Nat) {R : pmM} {s : cS} {kc ks : Nat} {Rt : pmR} {p0 : Nat} {p1 : Option Nat} {Q : (Int32 → cS → Nat → Nat → Prop)} (hw : cW sa R base s) (h : C_Ch_isPasswordEntry sa p0 p1 s kc ks Q) (k : ∀ r s' kc' ks', cW sa R base s' → Q r s' kc' ks' → Rt (some (.int r)) (cM R s') kc' ks') : kP_Ch_isPasswordEntry base sa [.ref p0, va_rf p1] (cM R s) kc ks Rt := by
  refine ⟨by cases p1 <;> exact Nat.le_of_ble_eq_true rfl, fun G hG => ?_⟩
  have eL : lv_args 0 [.ref p0, va_rf p1] = [(0, va_rf (some p0)), (1, va_rf p1)] := by cases p1 <;> rfl
  rw [eL]
  have b2 : ∀ (a2 : Int32) (s : cS) (kc ks : Nat), KK sa R base G 2 [(0, va_rf (some p0)), (1, va_rf p1), (2, .int a2)] [] s kc ks (C_Ch_isPasswordEntry_b2 sa p0 p1 a2 s kc ks Q) := by
    have H : ∀ (P2 : (Int32 → cS → Nat → Nat → Prop)) (hP2 : ∀ (a2 : Int32) (s : cS) (kc ks : Nat), P2 a2 s kc ks → cW sa R base s → G 2 [(0, va_rf (some p0)), (1, va_rf p1), (2, .int a2)] [] (cM R s) kc ks) (a2 : Int32) (s : cS) (kc ks : Nat), KK sa R base G 2 [(0, va_rf (some p0)), (1, va_rf p1), (2, .int a2)] [] s kc ks (C_Ch_isPasswordEntry_s2 sa p0 p1 a2 s kc ks Q P2) := by
      intro P2 hP2
      intro a2 s kc ks
      refine kks hG rfl rfl ?_
      refine kk_bi hG rfl cc_b16 ?_
      refine kk_ige hG (t := 33) rfl rfl ?_ ?_
      · refine kk_aln hG (x := p1) rfl rfl ?_
        refine kk_ic hG rfl cc_i4 ?_
        refine kk_ic hG rfl cc_i4 ?_
        refine kk_ob (fun b1 eb1 => ?_)
        subst eb1
        refine kk_cx (w := .long) hG 0 rfl rfl (Nat.le_of_ble_eq_true rfl) (by decide) rfl (st' := []) rfl (cats_le (Nat.le_of_ble_eq_true rfl)) (fun _ hw h k => kk_rcv h.1 (kc_By_numberAt base sa hw h.2 k)) (fun r2 sr2 cr2 dr2 => ?_)
        refine kk_l2 hG (v := (4294901762 : Int64)) rfl rfl ?_
        refine kks hG rfl rfl ?_
        refine kk_lne hG (t := 50) rfl rfl ?_ ?_
        · refine kk_ic hG rfl cc_i0 ?_
          exact kk_ri hG rfl rfl rfl k
        refine kk_ic hG rfl cc_i1 ?_
        refine kk_go hG (t := 51) rfl rfl ?_
        exact kk_ri hG rfl rfl rfl k
      refine kk_aln hG (x := p1) rfl rfl ?_
      refine kk_bi hG rfl cc_b8 ?_
      refine kks hG rfl rfl ?_
      refine kks hG rfl rfl ?_
      refine kk_ob (fun b3 eb3 => ?_)
      subst eb3
      refine kk_cx (w := .int) hG 0 rfl rfl (Nat.le_of_ble_eq_true rfl) (by decide) rfl (st' := []) rfl (cats_le (Nat.le_of_ble_eq_true rfl)) (fun _ hw h k => kk_rcv h.1 (kc_By_at base sa hw h.2 k)) (fun r4 sr4 cr4 dr4 => ?_)
      refine kk_aln hG (x := (some p0)) rfl rfl ?_
      refine kk_gp hG (c := 1) (k := 1) (a := p0) rfl rfl rfl rfl (fun v5 => ?_)
      refine kks hG rfl rfl ?_
      refine kk_ob (fun b6 eb6 => ?_)
      subst eb6
      refine kk_ba hG (a := b6) rfl (fun v7 => ?_)
      refine kk_ieq hG (t := 27) rfl rfl ?_ ?_
      · refine kk_inc hG (L' := [(2, .int (a2 + (1 : Int32))), (0, va_rf (some p0)), (1, va_rf (some b3))]) rfl (Nat.le_of_ble_eq_true rfl) rfl cc_i1 rfl ?_
        refine kk_go hG (t := 2) rfl rfl ?_
        exact kk_wl hG [1, 2, 0] rfl (fun hw h => hP2 _ _ _ _ h hw)
      refine kk_ic hG rfl cc_i0 ?_
      exact kk_ri hG rfl rfl rfl k
    exact fun a2 s kc ks hw h => h (fun a2 s kc ks => cW sa R base s → G 2 [(0, va_rf (some p0)), (1, va_rf p1), (2, .int a2)] [] (cM R s) kc ks) (fun a2 s kc ks hs hw => H _ (fun _ _ _ _ hp hw => hp hw) a2 s kc ks hw hs) hw
  refine (show KK sa R base G 0 [(0, va_rf (some p0)), (1, va_rf p1)] [] s kc ks (C_Ch_isPasswordEntry sa p0 p1 s kc ks Q) from ?_) hw h
  refine kk_ic hG rfl cc_i0 ?_
  refine kk_st hG (L' := [(2, .int (0 : Int32)), (0, va_rf (some p0)), (1, va_rf p1)]) rfl rfl (Nat.le_of_ble_eq_true rfl) (by cases p1 <;> rfl) ?_
  exact kk_wl hG [1, 2, 0] rfl (b2 _ _ _ _)
def C_Po_opens (sa : Nat → Nat) (p0 : Nat) (p1 : Option Nat) (p2 : Int32) (s : cS) (kc ks : Nat) (Q : (Int32 → cS → Nat → Nat → Prop)) : Prop := ob p1 (fun b1 => (ob (gP s 2 0 b1) (fun v2 => (ob (gP s 4 6 p0) (fun v3 => (ob v3 (fun b4 => (ob (gI s 1 2 b4) (fun v5 => (if 0 < v5 then (ob (gP s 4 6 p0) (fun v15 => (ob v15 (fun b16 => (okO s 1 b16 ∧ C_Ch_keyOf sa b16 v2 p2 s kc ks (fun r17 sr17 cr17 dr17 => (if r17 = ((-1) : Int32) then (Q (0 : Int32) sr17 cr17 dr17) else (ob (gP sr17 2 1 b1) (fun v18 => (ob v2 (fun b19 => (okO sr17 0 b19 ∧ C_By_numberAt sa b19 (12 : Int32) (4 : Int32) sr17 cr17 dr17 (fun r20 sr20 cr20 dr20 => (okO sr20 4 p0 ∧ C_Po_isFresh sa p0 v18 (Int64.toInt32 r20) sr20 cr20 dr20 (fun r21 sr21 cr21 dr21 => (if r21 = 0 then (Q (0 : Int32) sr21 cr21 dr21) else (ob (pI sr21 2 10 b1 (24 : Int32)) (fun s22 => (ob (gI s22 0 1 b19) (fun v23 => (ob (gP s22 4 6 p0) (fun v24 => (ob v24 (fun b25 => (okO s22 1 b25 ∧ C_Ch_endSize sa b25 r17 s22 cr21 dr21 (fun r26 sr26 cr26 dr26 => (ob (pI sr26 2 11 b1 (v23 - r26)) (fun s27 => (Q (1 : Int32) s27 cr26 dr26))))))))))))))))))))))))))))) else (ob (gP s 4 6 p0) (fun v6 => (ob v6 (fun b7 => (ob (gI s 1 0 b7) (fun v8 => (if v8 = 0 then (ob v2 (fun b9 => (okO s 0 b9 ∧ C_By_numberAt sa b9 (4 : Int32) (2 : Int32) s kc ks (fun r10 sr10 cr10 dr10 => (if r10 = (65535 : Int64) then (Q (0 : Int32) sr10 cr10 dr10) else (Q (1 : Int32) sr10 cr10 dr10)))))) else (ob (pI s 2 10 b1 (24 : Int32)) (fun s11 => (ob (gP s11 4 6 p0) (fun v12 => (ob v12 (fun b13 => (okO s11 1 b13 ∧ C_Ch_isPasswordEntry sa b13 v2 s11 kc ks (fun r14 sr14 cr14 dr14 => ((r14 = 0 ∨ r14 = 1) ∧ Q r14 sr14 cr14 dr14))))))))))))))))))))))))))
set_option maxRecDepth 100000 in
set_option maxHeartbeats 4000000 in
theorem kc_Po_opens (base : Nat) (sa : Nat → Nat) {R : pmM} {s : cS} {kc ks : Nat} {Rt : pmR} {p0 : Nat} {p1 : Option Nat} {p2 : Int32} {Q : (Int32 → cS → Nat → Nat → Prop)} (hw : cW sa R base s) (h : C_Po_opens sa p0 p1 p2 s kc ks Q) (k : ∀ r s' kc' ks', cW sa R base s' → Q r s' kc' ks' → Rt (some (.int r)) (cM R s') kc' ks') : kP_Po_opens base sa [.ref p0, va_rf p1, .int p2] (cM R s) kc ks Rt := by
  refine ⟨by cases p1 <;> exact Nat.le_of_ble_eq_true rfl, fun G hG => ?_⟩
  have eL : lv_args 0 [.ref p0, va_rf p1, .int p2] = [(0, va_rf (some p0)), (1, va_rf p1), (2, .int p2)] := by cases p1 <;> rfl
  rw [eL]
  refine (show KK sa R base G 0 [(0, va_rf (some p0)), (1, va_rf p1), (2, .int p2)] [] s kc ks (C_Po_opens sa p0 p1 p2 s kc ks Q) from ?_) hw h
  refine kk_aln hG (x := p1) rfl rfl ?_
  refine kk_ob (fun b1 eb1 => ?_)
  subst eb1
  refine kk_gp hG (c := 2) (k := 0) (a := b1) rfl rfl rfl rfl (fun v2 => ?_)
  refine kk_asn hG (x := v2) (L' := [(3, va_rf v2), (0, va_rf (some p0)), (1, va_rf (some b1)), (2, .int p2)]) rfl (Nat.le_of_ble_eq_true rfl) rfl ?_
  refine kk_aln hG (x := (some p0)) rfl rfl ?_
  refine kk_gp hG (c := 4) (k := 6) (a := p0) rfl rfl rfl rfl (fun v3 => ?_)
  refine kk_ob (fun b4 eb4 => ?_)
  subst eb4
  refine kk_gi hG (c := 1) (k := 2) (a := b4) rfl rfl rfl rfl (fun v5 => ?_)
  refine kk_zle hG (t := 79) rfl rfl ?_ ?_
  · refine kk_aln hG (x := (some p0)) rfl rfl ?_
    refine kk_gp hG (c := 4) (k := 6) (a := p0) rfl rfl rfl rfl (fun v6 => ?_)
    refine kk_ob (fun b7 eb7 => ?_)
    subst eb7
    refine kk_gi hG (c := 1) (k := 0) (a := b7) rfl rfl rfl rfl (fun v8 => ?_)
    refine kk_zeq hG (t := 104) rfl rfl ?_ ?_
    · refine kk_aln hG (x := v2) rfl rfl ?_
      refine kk_ic hG rfl cc_i4 ?_
      refine kk_ic hG rfl cc_i2 ?_
      refine kk_ob (fun b9 eb9 => ?_)
      subst eb9
      refine kk_cx (w := .long) hG 0 rfl rfl (Nat.le_of_ble_eq_true rfl) (by decide) rfl (st' := []) rfl (cats_le (Nat.le_of_ble_eq_true rfl)) (fun _ hw h k => kk_rcv h.1 (kc_By_numberAt base sa hw h.2 k)) (fun r10 sr10 cr10 dr10 => ?_)
      refine kk_l2 hG (v := (65535 : Int64)) rfl rfl ?_
      refine kks hG rfl rfl ?_
      refine kk_leq hG (t := 121) rfl rfl ?_ ?_
      · refine kk_ic hG rfl cc_i0 ?_
        exact kk_ri hG rfl rfl rfl k
      refine kk_ic hG rfl cc_i1 ?_
      refine kk_go hG (t := 122) rfl rfl ?_
      exact kk_ri hG rfl rfl rfl k
    refine kk_aln hG (x := (some b1)) rfl rfl ?_
    refine kk_bi hG rfl cc_b24 ?_
    refine kk_pi hG (c := 2) (k := 10) (a := b1) rfl rfl rfl rfl (fun s11 => ?_)
    refine kk_aln hG (x := (some p0)) rfl rfl ?_
    refine kk_gp hG (c := 4) (k := 6) (a := p0) rfl rfl rfl rfl (fun v12 => ?_)
    refine kk_aln hG (x := v2) rfl rfl ?_
    refine kk_ob (fun b13 eb13 => ?_)
    subst eb13
    refine kk_cx (w := .int) hG 0 rfl rfl (Nat.le_of_ble_eq_true rfl) (by decide) rfl (st' := []) rfl (cats_le (Nat.le_of_ble_eq_true rfl)) (fun _ hw h k => kk_rcv h.1 (kc_Ch_isPasswordEntry base sa hw h.2 k)) (fun r14 sr14 cr14 dr14 => ?_)
    exact kk_rz hG rfl rfl k
  refine kk_aln hG (x := (some p0)) rfl rfl ?_
  refine kk_gp hG (c := 4) (k := 6) (a := p0) rfl rfl rfl rfl (fun v15 => ?_)
  refine kk_aln hG (x := v2) rfl rfl ?_
  refine kks hG rfl rfl ?_
  refine kk_ob (fun b16 eb16 => ?_)
  subst eb16
  refine kk_cx (w := .int) hG 0 rfl rfl (Nat.le_of_ble_eq_true rfl) (by decide) rfl (st' := []) rfl (cats_le (Nat.le_of_ble_eq_true rfl)) (fun _ hw h k => kk_rcv h.1 (kc_Ch_keyOf base sa hw h.2 k)) (fun r17 sr17 cr17 dr17 => ?_)
  refine kk_st hG (L' := [(4, .int r17), (3, va_rf v2), (0, va_rf (some p0)), (1, va_rf (some b1)), (2, .int p2)]) rfl rfl (Nat.le_of_ble_eq_true rfl) (by cases v2 <;> rfl) ?_
  refine kks hG rfl rfl ?_
  refine kk_ic hG rfl cc_im1 ?_
  refine kk_ieq hG (t := 51) rfl rfl ?_ ?_
  · refine kk_ic hG rfl cc_i0 ?_
    exact kk_ri hG rfl rfl rfl k
  refine kk_aln hG (x := (some p0)) rfl rfl ?_
  refine kk_aln hG (x := (some b1)) rfl rfl ?_
  refine kk_gp hG (c := 2) (k := 1) (a := b1) rfl rfl rfl rfl (fun v18 => ?_)
  refine kk_aln hG (x := v2) rfl rfl ?_
  refine kk_bi hG rfl cc_b12 ?_
  refine kk_ic hG rfl cc_i4 ?_
  refine kk_ob (fun b19 eb19 => ?_)
  subst eb19
  refine kk_cx (w := .long) hG 0 rfl rfl (Nat.le_of_ble_eq_true rfl) (by decide) rfl (st' := [va_rf v18, va_rf (some p0)]) rfl (cats_le (Nat.le_of_ble_eq_true rfl)) (fun _ hw h k => kk_rcv h.1 (kc_By_numberAt base sa hw h.2 k)) (fun r20 sr20 cr20 dr20 => ?_)
  refine kks hG rfl rfl ?_
  refine kk_cx (w := .int) hG 0 rfl rfl (Nat.le_of_ble_eq_true rfl) (by decide) rfl (st' := []) rfl (cats_le (Nat.le_of_ble_eq_true rfl)) (fun _ hw h k => kk_rcv h.1 (kc_Po_isFresh base sa hw h.2 k)) (fun r21 sr21 cr21 dr21 => ?_)
  refine kk_zne hG (t := 53) rfl rfl ?_ ?_
  · refine kk_aln hG (x := (some b1)) rfl rfl ?_
    refine kk_bi hG rfl cc_b24 ?_
    refine kk_pi hG (c := 2) (k := 10) (a := b1) rfl rfl rfl rfl (fun s22 => ?_)
    refine kk_aln hG (x := (some b1)) rfl rfl ?_
    refine kk_aln hG (x := (some b19)) rfl rfl ?_
    refine kk_gi hG (c := 0) (k := 1) (a := b19) rfl rfl rfl rfl (fun v23 => ?_)
    refine kk_aln hG (x := (some p0)) rfl rfl ?_
    refine kk_gp hG (c := 4) (k := 6) (a := p0) rfl rfl rfl rfl (fun v24 => ?_)
    refine kks hG rfl rfl ?_
    refine kk_ob (fun b25 eb25 => ?_)
    subst eb25
    refine kk_cx (w := .int) hG 0 rfl rfl (Nat.le_of_ble_eq_true rfl) (by decide) rfl (st' := [.int v23, va_rf (some b1)]) rfl (cats_le (Nat.le_of_ble_eq_true rfl)) (fun _ hw h k => kk_rcv h.1 (kc_Ch_endSize base sa hw h.2 k)) (fun r26 sr26 cr26 dr26 => ?_)
    refine kks hG rfl rfl ?_
    refine kk_pi hG (c := 2) (k := 11) (a := b1) rfl rfl rfl rfl (fun s27 => ?_)
    refine kk_ic hG rfl cc_i1 ?_
    exact kk_ri hG rfl rfl rfl k
  refine kk_ic hG rfl cc_i0 ?_
  exact kk_ri hG rfl rfl rfl k
def C_Rr_judge_b114 (sa : Nat → Nat) (p0 : Nat) (p1 : Option Nat) (p2 : Option Nat) (s : cS) (kc ks : Nat) (Q : (Int32 → cS → Nat → Nat → Prop)) : Prop := ob p1 (fun b1 => (ob (pI s 2 10 b1 (4 : Int32)) (fun s2 => (ob (gP s2 2 0 b1) (fun v3 => (ob v3 (fun b4 => (ob (gI s2 0 1 b4) (fun v5 => (ob (pI s2 2 11 b1 v5) (fun s6 => (ob (gI s6 2 4 b1) (fun v7 => (if v7 = (4 : Int32) then (ob (gP s6 9 0 p0) (fun v8 => (ob v8 (fun b9 => (ob (gI s6 11 5 b9) (fun v10 => (ob p2 (fun b11 => (okO s6 4 b11 ∧ C_Po_opens sa b11 (some b1) v10 s6 kc ks (fun r12 sr12 cr12 dr12 => (if r12 = 0 then (Q (3 : Int32) sr12 cr12 dr12) else (Q ((-1) : Int32) sr12 cr12 dr12)))))))))))) else (Q ((-1) : Int32) s6 kc ks)))))))))))))))
def C_Rr_judge_b87 (sa : Nat → Nat) (p0 : Nat) (p1 : Option Nat) (p2 : Option Nat) (a4 : Int32) (s : cS) (kc ks : Nat) (Q : (Int32 → cS → Nat → Nat → Prop)) : Prop := if a4 = 0 then ((C_Rr_judge_b114 sa p0 p1 p2 s kc ks Q)) else (ob p1 (fun b1 => (ob (gI s 2 4 b1) (fun v2 => (if v2 = (6 : Int32) then (ob (gI s 2 6 b1) (fun v3 => (if v3 = (255 : Int32) then ((C_Rr_judge_b114 sa p0 (some b1) p2 s kc ks Q)) else (Q (10 : Int32) s kc ks)))) else ((C_Rr_judge_b114 sa p0 (some b1) p2 s kc ks Q)))))))
def C_Rr_judge_b63 (sa : Nat → Nat) (p0 : Nat) (p1 : Option Nat) (p2 : Option Nat) (u0 : Int32) (s : cS) (kc ks : Nat) (Q : (Int32 → cS → Nat → Nat → Prop)) : Prop := if u0 = 0 then ((C_Rr_judge_b87 sa p0 p1 p2 u0 s kc ks Q)) else (ob p1 (fun b1 => (ob (gI s 2 5 b1) (fun v2 => (ob (gI s 2 4 b1) (fun v3 => (C_Da_portOf sa v3 s kc ks (fun r4 sr4 cr4 dr4 => (if v2 = r4 then ((C_Rr_judge_b87 sa p0 (some b1) p2 u0 sr4 cr4 dr4 Q)) else (Q (9 : Int32) sr4 cr4 dr4))))))))))
def C_Rr_judge (sa : Nat → Nat) (p0 : Nat) (p1 : Option Nat) (p2 : Option Nat) (s : cS) (kc ks : Nat) (Q : (Int32 → cS → Nat → Nat → Prop)) : Prop := ob p1 (fun b1 => (ob (gI s 2 4 b1) (fun v2 => (ob p2 (fun b3 => (okO s 4 b3 ∧ C_Po_addressOf sa b3 v2 s kc ks (fun r4 sr4 cr4 dr4 => (if r4 = none then (Q (1 : Int32) sr4 cr4 dr4) else (ob (gP sr4 2 1 b1) (fun v5 => (ob r4 (fun b6 => (okO sr4 5 b6 ∧ C_Pr_covers sa b6 v5 sr4 cr4 dr4 (fun r7 sr7 cr7 dr7 => (if r7 = 0 then (Q (1 : Int32) sr7 cr7 dr7) else (ob (gP sr7 2 1 b1) (fun v8 => (okO sr7 5 b6 ∧ C_Pr_sameAddress sa b6 v8 sr7 cr7 dr7 (fun r9 sr9 cr9 dr9 => (if r9 = 0 then (okO sr9 2 b1 ∧ C_Da_isWellFormed sa b1 sr9 cr9 dr9 (fun r10 sr10 cr10 dr10 => (if r10 = 0 then (Q (2 : Int32) sr10 cr10 dr10) else (ob (gP sr10 2 0 b1) (fun v11 => (ob v11 (fun b12 => (okO sr10 0 b12 ∧ C_By_at sa b12 (0 : Int32) sr10 cr10 dr10 (fun r13 sr13 cr13 dr13 => (if r13 = (2 : Int32) then ((C_Rr_judge_b63 sa p0 (some b1) (some b3) (1 : Int32) sr13 cr13 dr13 Q)) else ((C_Rr_judge_b63 sa p0 (some b1) (some b3) (0 : Int32) sr13 cr13 dr13 Q)))))))))))) else (Q (1 : Int32) sr9 cr9 dr9)))))))))))))))))))))
set_option maxRecDepth 100000 in
set_option maxHeartbeats 4000000 in
theorem kc_Rr_judge (base : Nat) (sa : Nat → Nat) {R : pmM} {s : cS} {kc ks : Nat} {Rt : pmR} {p0 : Nat} {p1 : Option Nat} {p2 : Option Nat} {Q : (Int32 → cS → Nat → Nat → Prop)} (hw : cW sa R base s) (h : C_Rr_judge sa p0 p1 p2 s kc ks Q) (k : ∀ r s' kc' ks', cW sa R base s' → Q r s' kc' ks' → Rt (some (.int r)) (cM R s') kc' ks') : kP_Rr_judge base sa [.ref p0, va_rf p1, va_rf p2] (cM R s) kc ks Rt := by
  refine ⟨by cases p1 <;> cases p2 <;> exact Nat.le_of_ble_eq_true rfl, fun G hG => ?_⟩
  have eL : lv_args 0 [.ref p0, va_rf p1, va_rf p2] = [(0, va_rf (some p0)), (1, va_rf p1), (2, va_rf p2)] := by cases p1 <;> cases p2 <;> rfl
  rw [eL]
  have b114 : ∀ (s : cS) (kc ks : Nat), KK sa R base G 114 [(0, va_rf (some p0)), (1, va_rf p1), (2, va_rf p2)] [] s kc ks (C_Rr_judge_b114 sa p0 p1 p2 s kc ks Q) := by
    intro s kc ks
    refine kk_aln hG (x := p1) rfl rfl ?_
    refine kk_ic hG rfl cc_i4 ?_
    refine kk_ob (fun b1 eb1 => ?_)
    subst eb1
    refine kk_pi hG (c := 2) (k := 10) (a := b1) rfl rfl rfl rfl (fun s2 => ?_)
    refine kk_aln hG (x := (some b1)) rfl rfl ?_
    refine kk_aln hG (x := (some b1)) rfl rfl ?_
    refine kk_gp hG (c := 2) (k := 0) (a := b1) rfl rfl rfl rfl (fun v3 => ?_)
    refine kk_ob (fun b4 eb4 => ?_)
    subst eb4
    refine kk_gi hG (c := 0) (k := 1) (a := b4) rfl rfl rfl rfl (fun v5 => ?_)
    refine kk_pi hG (c := 2) (k := 11) (a := b1) rfl rfl rfl rfl (fun s6 => ?_)
    refine kk_aln hG (x := (some b1)) rfl rfl ?_
    refine kk_gi hG (c := 2) (k := 4) (a := b1) rfl rfl rfl rfl (fun v7 => ?_)
    refine kk_ic hG rfl cc_i4 ?_
    refine kk_ine hG (t := 155) rfl rfl ?_ ?_
    · refine kk_ic hG rfl cc_im1 ?_
      exact kk_ri hG rfl rfl rfl k
    refine kk_aln hG (x := p2) rfl rfl ?_
    refine kk_aln hG (x := (some b1)) rfl rfl ?_
    refine kk_aln hG (x := (some p0)) rfl rfl ?_
    refine kk_gp hG (c := 9) (k := 0) (a := p0) rfl rfl rfl rfl (fun v8 => ?_)
    refine kk_ob (fun b9 eb9 => ?_)
    subst eb9
    refine kk_gi hG (c := 11) (k := 5) (a := b9) rfl rfl rfl rfl (fun v10 => ?_)
    refine kk_ob (fun b11 eb11 => ?_)
    subst eb11
    refine kk_cx (w := .int) hG 0 rfl rfl (Nat.le_of_ble_eq_true rfl) (by decide) rfl (st' := []) rfl (cats_le (Nat.le_of_ble_eq_true rfl)) (fun _ hw h k => kk_rcv h.1 (kc_Po_opens base sa hw h.2 k)) (fun r12 sr12 cr12 dr12 => ?_)
    refine kk_zne hG (t := 155) rfl rfl ?_ ?_
    · refine kk_ic hG rfl cc_im1 ?_
      exact kk_ri hG rfl rfl rfl k
    refine kk_ic hG rfl cc_i3 ?_
    exact kk_ri hG rfl rfl rfl k
  have b87 : ∀ (a4 : Int32) (s : cS) (kc ks : Nat), KK sa R base G 87 [(0, va_rf (some p0)), (1, va_rf p1), (2, va_rf p2), (4, .int a4)] [] s kc ks (C_Rr_judge_b87 sa p0 p1 p2 a4 s kc ks Q) := by
    intro a4 s kc ks
    refine kks hG rfl rfl ?_
    refine kk_zeq hG (t := 114) rfl rfl ?_ ?_
    · exact kk_wl hG [0, 1, 2] rfl (b114 _ _ _)
    refine kk_aln hG (x := p1) rfl rfl ?_
    refine kk_ob (fun b1 eb1 => ?_)
    subst eb1
    refine kk_gi hG (c := 2) (k := 4) (a := b1) rfl rfl rfl rfl (fun v2 => ?_)
    refine kk_bi hG rfl cc_b6 ?_
    refine kk_ine hG (t := 114) rfl rfl ?_ ?_
    · exact kk_wl hG [0, 1, 2] rfl (b114 _ _ _)
    refine kk_aln hG (x := (some b1)) rfl rfl ?_
    refine kk_gi hG (c := 2) (k := 6) (a := b1) rfl rfl rfl rfl (fun v3 => ?_)
    refine kk_si hG rfl cc_s255 ?_
    refine kk_ieq hG (t := 114) rfl rfl ?_ ?_
    · exact kk_wl hG [0, 1, 2] rfl (b114 _ _ _)
    refine kk_bi hG rfl cc_b10 ?_
    exact kk_ri hG rfl rfl rfl k
  have b63 : ∀ (u0 : Int32) (s : cS) (kc ks : Nat), KK sa R base G 63 [(0, va_rf (some p0)), (1, va_rf p1), (2, va_rf p2)] [.int u0] s kc ks (C_Rr_judge_b63 sa p0 p1 p2 u0 s kc ks Q) := by
    intro u0 s kc ks
    refine kk_st hG (L' := [(4, .int u0), (0, va_rf (some p0)), (1, va_rf p1), (2, va_rf p2)]) rfl rfl (Nat.le_of_ble_eq_true rfl) rfl ?_
    refine kks hG rfl rfl ?_
    refine kk_zeq hG (t := 87) rfl rfl ?_ ?_
    · exact kk_wl hG [1, 2, 3, 0] rfl (b87 _ _ _ _)
    refine kk_aln hG (x := p1) rfl rfl ?_
    refine kk_ob (fun b1 eb1 => ?_)
    subst eb1
    refine kk_gi hG (c := 2) (k := 5) (a := b1) rfl rfl rfl rfl (fun v2 => ?_)
    refine kk_aln hG (x := (some b1)) rfl rfl ?_
    refine kk_gi hG (c := 2) (k := 4) (a := b1) rfl rfl rfl rfl (fun v3 => ?_)
    refine kk_cx (w := .int) hG 2 rfl rfl (Nat.le_of_ble_eq_true rfl) (by decide) rfl (st' := [.int v2]) rfl (cats_le (Nat.le_of_ble_eq_true rfl)) (fun _ hw h k => kc_Da_portOf base sa hw h k) (fun r4 sr4 cr4 dr4 => ?_)
    refine kk_ieq hG (t := 87) rfl rfl ?_ ?_
    · exact kk_wl hG [1, 2, 3, 0] rfl (b87 _ _ _ _)
    refine kk_bi hG rfl cc_b9 ?_
    exact kk_ri hG rfl rfl rfl k
  refine (show KK sa R base G 0 [(0, va_rf (some p0)), (1, va_rf p1), (2, va_rf p2)] [] s kc ks (C_Rr_judge sa p0 p1 p2 s kc ks Q) from ?_) hw h
  refine kk_aln hG (x := p2) rfl rfl ?_
  refine kk_aln hG (x := p1) rfl rfl ?_
  refine kk_ob (fun b1 eb1 => ?_)
  subst eb1
  refine kk_gi hG (c := 2) (k := 4) (a := b1) rfl rfl rfl rfl (fun v2 => ?_)
  refine kk_ob (fun b3 eb3 => ?_)
  subst eb3
  refine kk_cx (w := va_rf) hG 0 rfl rfl (Nat.le_of_ble_eq_true rfl) (by decide) rfl (st' := []) rfl (cats_le (Nat.le_of_ble_eq_true rfl)) (fun _ hw h k => kk_rcv h.1 (kc_Po_addressOf base sa hw h.2 k)) (fun r4 sr4 cr4 dr4 => ?_)
  refine kk_asn hG (x := r4) (L' := [(3, va_rf r4), (0, va_rf (some p0)), (1, va_rf (some b1)), (2, va_rf (some b3))]) rfl (Nat.le_of_ble_eq_true rfl) rfl ?_
  refine kk_aln hG (x := r4) rfl rfl ?_
  refine kk_nul hG (x := r4) (t := 35) rfl rfl ?_ ?_
  · refine kk_ic hG rfl cc_i1 ?_
    exact kk_ri hG rfl rfl rfl k
  refine kk_aln hG (x := r4) rfl rfl ?_
  refine kk_aln hG (x := (some b1)) rfl rfl ?_
  refine kk_gp hG (c := 2) (k := 1) (a := b1) rfl rfl rfl rfl (fun v5 => ?_)
  refine kk_ob (fun b6 eb6 => ?_)
  subst eb6
  refine kk_cx (w := .int) hG 0 rfl rfl (Nat.le_of_ble_eq_true rfl) (by decide) rfl (st' := []) rfl (cats_le (Nat.le_of_ble_eq_true rfl)) (fun _ hw h k => kk_rcv h.1 (kc_Pr_covers base sa hw h.2 k)) (fun r7 sr7 cr7 dr7 => ?_)
  refine kk_zeq hG (t := 35) rfl rfl ?_ ?_
  · refine kk_ic hG rfl cc_i1 ?_
    exact kk_ri hG rfl rfl rfl k
  refine kk_aln hG (x := (some b6)) rfl rfl ?_
  refine kk_aln hG (x := (some b1)) rfl rfl ?_
  refine kk_gp hG (c := 2) (k := 1) (a := b1) rfl rfl rfl rfl (fun v8 => ?_)
  refine kk_cx (w := .int) hG 0 rfl rfl (Nat.le_of_ble_eq_true rfl) (by decide) rfl (st' := []) rfl (cats_le (Nat.le_of_ble_eq_true rfl)) (fun _ hw h k => kk_rcv h.1 (kc_Pr_sameAddress base sa hw h.2 k)) (fun r9 sr9 cr9 dr9 => ?_)
  refine kk_zeq hG (t := 37) rfl rfl ?_ ?_
  · refine kk_aln hG (x := (some b1)) rfl rfl ?_
    refine kk_cx (w := .int) hG 0 rfl rfl (Nat.le_of_ble_eq_true rfl) (by decide) rfl (st' := []) rfl (cats_le (Nat.le_of_ble_eq_true rfl)) (fun _ hw h k => kk_rcv h.1 (kc_Da_isWellFormed base sa hw h.2 k)) (fun r10 sr10 cr10 dr10 => ?_)
    refine kk_zne hG (t := 46) rfl rfl ?_ ?_
    · refine kk_aln hG (x := (some b1)) rfl rfl ?_
      refine kk_gp hG (c := 2) (k := 0) (a := b1) rfl rfl rfl rfl (fun v11 => ?_)
      refine kk_ic hG rfl cc_i0 ?_
      refine kk_ob (fun b12 eb12 => ?_)
      subst eb12
      refine kk_cx (w := .int) hG 0 rfl rfl (Nat.le_of_ble_eq_true rfl) (by decide) rfl (st' := []) rfl (cats_le (Nat.le_of_ble_eq_true rfl)) (fun _ hw h k => kk_rcv h.1 (kc_By_at base sa hw h.2 k)) (fun r13 sr13 cr13 dr13 => ?_)
      refine kk_ic hG rfl cc_i2 ?_
      refine kk_ine hG (t := 62) rfl rfl ?_ ?_
      · refine kk_ic hG rfl cc_i0 ?_
        exact kk_wl hG [1, 2, 3] rfl (b63 _ _ _ _)
      refine kk_ic hG rfl cc_i1 ?_
      refine kk_go hG (t := 63) rfl rfl ?_
      exact kk_wl hG [1, 2, 3] rfl (b63 _ _ _ _)
    refine kk_ic hG rfl cc_i2 ?_
    exact kk_ri hG rfl rfl rfl k
  refine kk_ic hG rfl cc_i1 ?_
  exact kk_ri hG rfl rfl rfl k
def C_Da_metricAt (sa : Nat → Nat) (p0 : Nat) (p1 : Int32) (s : cS) (kc ks : Nat) (Q : (Int64 → cS → Nat → Nat → Prop)) : Prop := ob (gI s 2 4 p0) (fun v1 => (if v1 = (4 : Int32) then (ob (gP s 2 0 p0) (fun v5 => (ob v5 (fun b6 => (okO s 0 b6 ∧ C_By_numberAt sa b6 (p1 + (16 : Int32)) (4 : Int32) s kc ks (fun r7 sr7 cr7 dr7 => (Q r7 sr7 cr7 dr7))))))) else (ob (gP s 2 0 p0) (fun v2 => (ob v2 (fun b3 => (okO s 0 b3 ∧ C_By_at sa b3 (p1 + (19 : Int32)) s kc ks (fun r4 sr4 cr4 dr4 => (Q (Int32.toInt64 r4) sr4 cr4 dr4)))))))))
set_option maxRecDepth 100000 in
set_option maxHeartbeats 4000000 in
theorem kc_Da_metricAt (base : Nat) (sa : Nat → Nat) {R : pmM} {s : cS} {kc ks : Nat} {Rt : pmR} {p0 : Nat} {p1 : Int32} {Q : (Int64 → cS → Nat → Nat → Prop)} (hw : cW sa R base s) (h : C_Da_metricAt sa p0 p1 s kc ks Q) (k : ∀ r s' kc' ks', cW sa R base s' → Q r s' kc' ks' → Rt (some (.long r)) (cM R s') kc' ks') : kP_Da_metricAt base sa [.ref p0, .int p1] (cM R s) kc ks Rt := by
  refine ⟨Nat.le_of_ble_eq_true rfl, fun G hG => ?_⟩
  refine (show KK sa R base G 0 [(0, va_rf (some p0)), (1, .int p1)] [] s kc ks (C_Da_metricAt sa p0 p1 s kc ks Q) from ?_) hw h
  refine kk_aln hG (x := (some p0)) rfl rfl ?_
  refine kk_gi hG (c := 2) (k := 4) (a := p0) rfl rfl rfl rfl (fun v1 => ?_)
  refine kk_ic hG rfl cc_i4 ?_
  refine kk_ine hG (t := 23) rfl rfl ?_ ?_
  · refine kk_aln hG (x := (some p0)) rfl rfl ?_
    refine kk_gp hG (c := 2) (k := 0) (a := p0) rfl rfl rfl rfl (fun v2 => ?_)
    refine kks hG rfl rfl ?_
    refine kk_bi hG rfl cc_b19 ?_
    refine kks hG rfl rfl ?_
    refine kk_ob (fun b3 eb3 => ?_)
    subst eb3
    refine kk_cx (w := .int) hG 0 rfl rfl (Nat.le_of_ble_eq_true rfl) (by decide) rfl (st' := []) rfl (cats_le (Nat.le_of_ble_eq_true rfl)) (fun _ hw h k => kk_rcv h.1 (kc_By_at base sa hw h.2 k)) (fun r4 sr4 cr4 dr4 => ?_)
    refine kks hG rfl rfl ?_
    exact kk_rl hG rfl rfl k
  refine kk_aln hG (x := (some p0)) rfl rfl ?_
  refine kk_gp hG (c := 2) (k := 0) (a := p0) rfl rfl rfl rfl (fun v5 => ?_)
  refine kks hG rfl rfl ?_
  refine kk_bi hG rfl cc_b16 ?_
  refine kks hG rfl rfl ?_
  refine kk_ic hG rfl cc_i4 ?_
  refine kk_ob (fun b6 eb6 => ?_)
  subst eb6
  refine kk_cx (w := .long) hG 0 rfl rfl (Nat.le_of_ble_eq_true rfl) (by decide) rfl (st' := []) rfl (cats_le (Nat.le_of_ble_eq_true rfl)) (fun _ hw h k => kk_rcv h.1 (kc_By_numberAt base sa hw h.2 k)) (fun r7 sr7 cr7 dr7 => ?_)
  refine kk_go hG (t := 35) rfl rfl ?_
  exact kk_rl hG rfl rfl k
def C_Da_asksForAll (sa : Nat → Nat) (p0 : Nat) (s : cS) (kc ks : Nat) (Q : (Int32 → cS → Nat → Nat → Prop)) : Prop := ob (gI s 2 11 p0) (fun v1 => (ob (gI s 2 10 p0) (fun v2 => (if (v1 - v2) = (20 : Int32) then (ob (gI s 2 10 p0) (fun v3 => (okO s 2 p0 ∧ C_Da_metricAt sa p0 v3 s kc ks (fun r4 sr4 cr4 dr4 => (if r4 = (16 : Int64) then (ob (gI sr4 2 4 p0) (fun v5 => (if v5 = (4 : Int32) then (ob (gP sr4 2 0 p0) (fun v11 => (ob (gI sr4 2 10 p0) (fun v12 => (ob (gI sr4 2 10 p0) (fun v13 => (ob v11 (fun b14 => (okO sr4 0 b14 ∧ C_By_zerosAt sa b14 v12 (v13 + (2 : Int32)) sr4 cr4 dr4 (fun r15 sr15 cr15 dr15 => ((r15 = 0 ∨ r15 = 1) ∧ Q r15 sr15 cr15 dr15))))))))))) else (ob (gP sr4 2 0 p0) (fun v6 => (ob (gI sr4 2 10 p0) (fun v7 => (ob (gI sr4 2 10 p0) (fun v8 => (ob v6 (fun b9 => (okO sr4 0 b9 ∧ C_By_zerosAt sa b9 v7 (v8 + (19 : Int32)) sr4 cr4 dr4 (fun r10 sr10 cr10 dr10 => ((r10 = 0 ∨ r10 = 1) ∧ Q r10 sr10 cr10 dr10)))))))))))))) else (Q (0 : Int32) sr4 cr4 dr4)))))) else (Q (0 : Int32) s kc ks)))))
set_option maxRecDepth 100000 in
set_option maxHeartbeats 4000000 in
theorem kc_Da_asksForAll (base : Nat) (sa : Nat → Nat) {R : pmM} {s : cS} {kc ks : Nat} {Rt : pmR} {p0 : Nat} {Q : (Int32 → cS → Nat → Nat → Prop)} (hw : cW sa R base s) (h : C_Da_asksForAll sa p0 s kc ks Q) (k : ∀ r s' kc' ks', cW sa R base s' → Q r s' kc' ks' → Rt (some (.int r)) (cM R s') kc' ks') : kP_Da_asksForAll base sa [.ref p0] (cM R s) kc ks Rt := by
  refine ⟨Nat.le_of_ble_eq_true rfl, fun G hG => ?_⟩
  refine (show KK sa R base G 0 [(0, va_rf (some p0))] [] s kc ks (C_Da_asksForAll sa p0 s kc ks Q) from ?_) hw h
  refine kk_aln hG (x := (some p0)) rfl rfl ?_
  refine kk_gi hG (c := 2) (k := 11) (a := p0) rfl rfl rfl rfl (fun v1 => ?_)
  refine kk_aln hG (x := (some p0)) rfl rfl ?_
  refine kk_gi hG (c := 2) (k := 10) (a := p0) rfl rfl rfl rfl (fun v2 => ?_)
  refine kks hG rfl rfl ?_
  refine kk_bi hG rfl cc_b20 ?_
  refine kk_ine hG (t := 29) rfl rfl ?_ ?_
  · refine kk_ic hG rfl cc_i0 ?_
    exact kk_ri hG rfl rfl rfl k
  refine kk_aln hG (x := (some p0)) rfl rfl ?_
  refine kk_aln hG (x := (some p0)) rfl rfl ?_
  refine kk_gi hG (c := 2) (k := 10) (a := p0) rfl rfl rfl rfl (fun v3 => ?_)
  refine kk_cx (w := .long) hG 0 rfl rfl (Nat.le_of_ble_eq_true rfl) (by decide) rfl (st' := []) rfl (cats_le (Nat.le_of_ble_eq_true rfl)) (fun _ hw h k => kk_rcv h.1 (kc_Da_metricAt base sa hw h.2 k)) (fun r4 sr4 cr4 dr4 => ?_)
  refine kk_l2 hG (v := (16 : Int64)) rfl rfl ?_
  refine kks hG rfl rfl ?_
  refine kk_leq hG (t := 31) rfl rfl ?_ ?_
  · refine kk_aln hG (x := (some p0)) rfl rfl ?_
    refine kk_gi hG (c := 2) (k := 4) (a := p0) rfl rfl rfl rfl (fun v5 => ?_)
    refine kk_ic hG rfl cc_i4 ?_
    refine kk_ine hG (t := 59) rfl rfl ?_ ?_
    · refine kk_aln hG (x := (some p0)) rfl rfl ?_
      refine kk_gp hG (c := 2) (k := 0) (a := p0) rfl rfl rfl rfl (fun v6 => ?_)
      refine kk_aln hG (x := (some p0)) rfl rfl ?_
      refine kk_gi hG (c := 2) (k := 10) (a := p0) rfl rfl rfl rfl (fun v7 => ?_)
      refine kk_aln hG (x := (some p0)) rfl rfl ?_
      refine kk_gi hG (c := 2) (k := 10) (a := p0) rfl rfl rfl rfl (fun v8 => ?_)
      refine kk_bi hG rfl cc_b19 ?_
      refine kks hG rfl rfl ?_
      refine kk_ob (fun b9 eb9 => ?_)
      subst eb9
      refine kk_cx (w := .int) hG 0 rfl rfl (Nat.le_of_ble_eq_true rfl) (by decide) rfl (st' := []) rfl (cats_le (Nat.le_of_ble_eq_true rfl)) (fun _ hw h k => kk_rcv h.1 (kc_By_zerosAt base sa hw h.2 k)) (fun r10 sr10 cr10 dr10 => ?_)
      exact kk_rz hG rfl rfl k
    refine kk_aln hG (x := (some p0)) rfl rfl ?_
    refine kk_gp hG (c := 2) (k := 0) (a := p0) rfl rfl rfl rfl (fun v11 => ?_)
    refine kk_aln hG (x := (some p0)) rfl rfl ?_
    refine kk_gi hG (c := 2) (k := 10) (a := p0) rfl rfl rfl rfl (fun v12 => ?_)
    refine kk_aln hG (x := (some p0)) rfl rfl ?_
    refine kk_gi hG (c := 2) (k := 10) (a := p0) rfl rfl rfl rfl (fun v13 => ?_)
    refine kk_ic hG rfl cc_i2 ?_
    refine kks hG rfl rfl ?_
    refine kk_ob (fun b14 eb14 => ?_)
    subst eb14
    refine kk_cx (w := .int) hG 0 rfl rfl (Nat.le_of_ble_eq_true rfl) (by decide) rfl (st' := []) rfl (cats_le (Nat.le_of_ble_eq_true rfl)) (fun _ hw h k => kk_rcv h.1 (kc_By_zerosAt base sa hw h.2 k)) (fun r15 sr15 cr15 dr15 => ?_)
    refine kk_go hG (t := 77) rfl rfl ?_
    exact kk_rz hG rfl rfl k
  refine kk_ic hG rfl cc_i0 ?_
  exact kk_ri hG rfl rfl rfl k
def C_Ta_clear (sa : Nat → Nat) (p0 : Nat) (s : cS) (kc ks : Nat) (Q : (cS → Nat → Nat → Prop)) : Prop := ob (pI s 10 1 p0 (0 : Int32)) (fun s1 => (Q s1 kc ks))
set_option maxRecDepth 100000 in
set_option maxHeartbeats 4000000 in
theorem kc_Ta_clear (base : Nat) (sa : Nat → Nat) {R : pmM} {s : cS} {kc ks : Nat} {Rt : pmR} {p0 : Nat} {Q : (cS → Nat → Nat → Prop)} (hw : cW sa R base s) (h : C_Ta_clear sa p0 s kc ks Q) (k : ∀ s' kc' ks', cW sa R base s' → Q s' kc' ks' → Rt none (cM R s') kc' ks') : kP_Ta_clear base sa [.ref p0] (cM R s) kc ks Rt := by
  refine ⟨Nat.le_of_ble_eq_true rfl, fun G hG => ?_⟩
  refine (show KK sa R base G 0 [(0, va_rf (some p0))] [] s kc ks (C_Ta_clear sa p0 s kc ks Q) from ?_) hw h
  refine kk_aln hG (x := (some p0)) rfl rfl ?_
  refine kk_ic hG rfl cc_i0 ?_
  refine kk_pi hG (c := 10) (k := 1) (a := p0) rfl rfl rfl rfl (fun s1 => ?_)
  exact kk_rv hG rfl rfl k
def C_Po_forgetSummaries_s2 (sa : Nat → Nat) (p0 : Nat) (a1 : Int32) (s : cS) (kc ks : Nat) (Q : (cS → Nat → Nat → Prop)) (P2 : (Int32 → cS → Nat → Nat → Prop)) : Prop := ob (gI s 4 8 p0) (fun v1 => (if a1 < v1 then (ob (gP s 4 9 p0) (fun v2 => (ob v2 (fun b3 => (ob (wEi s b3 a1 (16 : Int32)) (fun s4 => (ob (gP s4 4 10 p0) (fun v5 => (ob v5 (fun b6 => (ob (wEz s4 b6 a1 (0 : Int32)) (fun s7 => ((P2 (a1 + (1 : Int32)) s7 kc ks)))))))))))))) else ((Q s kc ks))))
def C_Po_forgetSummaries_b2 (sa : Nat → Nat) (p0 : Nat) (a1 : Int32) (s : cS) (kc ks : Nat) (Q : (cS → Nat → Nat → Prop)) : Prop := ∀ P2 : (Int32 → cS → Nat → Nat → Prop), (∀ (a1 : Int32) (s : cS) (kc ks : Nat), C_Po_forgetSummaries_s2 sa p0 a1 s kc ks Q P2 → P2 a1 s kc ks) → P2 a1 s kc ks
def C_Po_forgetSummaries (sa : Nat → Nat) (p0 : Nat) (s : cS) (kc ks : Nat) (Q : (cS → Nat → Nat → Prop)) : Prop := (C_Po_forgetSummaries_b2 sa p0 (0 : Int32) s kc ks Q)
set_option maxRecDepth 100000 in
set_option maxHeartbeats 4000000 in
theorem kc_Po_forgetSummaries (base : Nat) (sa : Nat → Nat) {R : pmM} {s : cS} {kc ks : Nat} {Rt : pmR} {p0 : Nat} {Q : (cS → Nat → Nat → Prop)} (hw : cW sa R base s) (h : C_Po_forgetSummaries sa p0 s kc ks Q) (k : ∀ s' kc' ks', cW sa R base s' → Q s' kc' ks' → Rt none (cM R s') kc' ks') : kP_Po_forgetSummaries base sa [.ref p0] (cM R s) kc ks Rt := by
  refine ⟨Nat.le_of_ble_eq_true rfl, fun G hG => ?_⟩
  have b2 : ∀ (a1 : Int32) (s : cS) (kc ks : Nat), KK sa R base G 2 [(0, va_rf (some p0)), (1, .int a1)] [] s kc ks (C_Po_forgetSummaries_b2 sa p0 a1 s kc ks Q) := by
    have H : ∀ (P2 : (Int32 → cS → Nat → Nat → Prop)) (hP2 : ∀ (a1 : Int32) (s : cS) (kc ks : Nat), P2 a1 s kc ks → cW sa R base s → G 2 [(0, va_rf (some p0)), (1, .int a1)] [] (cM R s) kc ks) (a1 : Int32) (s : cS) (kc ks : Nat), KK sa R base G 2 [(0, va_rf (some p0)), (1, .int a1)] [] s kc ks (C_Po_forgetSummaries_s2 sa p0 a1 s kc ks Q P2) := by
      intro P2 hP2
      intro a1 s kc ks
      refine kks hG rfl rfl ?_
      refine kk_aln hG (x := (some p0)) rfl rfl ?_
      refine kk_gi hG (c := 4) (k := 8) (a := p0) rfl rfl rfl rfl (fun v1 => ?_)
      refine kk_ige hG (t := 31) rfl rfl ?_ ?_
      · exact kk_rv hG rfl rfl k
      refine kk_aln hG (x := (some p0)) rfl rfl ?_
      refine kk_gp hG (c := 4) (k := 9) (a := p0) rfl rfl rfl rfl (fun v2 => ?_)
      refine kks hG rfl rfl ?_
      refine kk_bi hG rfl cc_b16 ?_
      refine kk_ob (fun b3 eb3 => ?_)
      subst eb3
      refine kk_is hG (a := b3) rfl (fun s4 => ?_)
      refine kk_aln hG (x := (some p0)) rfl rfl ?_
      refine kk_gp hG (c := 4) (k := 10) (a := p0) rfl rfl rfl rfl (fun v5 => ?_)
      refine kks hG rfl rfl ?_
      refine kk_ic hG rfl cc_i0 ?_
      refine kk_ob (fun b6 eb6 => ?_)
      subst eb6
      refine kk_zs hG (a := b6) rfl (fun s7 => ?_)
      refine kk_inc hG (L' := [(1, .int (a1 + (1 : Int32))), (0, va_rf (some p0))]) rfl (Nat.le_of_ble_eq_true rfl) rfl cc_i1 rfl ?_
      refine kk_go hG (t := 2) rfl rfl ?_
      exact kk_wl hG [1, 0] rfl (fun hw h => hP2 _ _ _ _ h hw)
    exact fun a1 s kc ks hw h => h (fun a1 s kc ks => cW sa R base s → G 2 [(0, va_rf (some p0)), (1, .int a1)] [] (cM R s) kc ks) (fun a1 s kc ks hs hw => H _ (fun _ _ _ _ hp hw => hp hw) a1 s kc ks hw hs) hw
  refine (show KK sa R base G 0 [(0, va_rf (some p0))] [] s kc ks (C_Po_forgetSummaries sa p0 s kc ks Q) from ?_) hw h
  refine kk_ic hG rfl cc_i0 ?_
  refine kk_st hG (L' := [(1, .int (0 : Int32)), (0, va_rf (some p0))]) rfl rfl (Nat.le_of_ble_eq_true rfl) rfl ?_
  exact kk_wl hG [1, 0] rfl (b2 _ _ _ _)
def C_Pl_lets_b115 (sa : Nat → Nat) (p0 : Nat) (p1 : Option Nat) (p2 : Int32) (a3 : Int32) (s : cS) (kc ks : Nat) (Q : (Int32 → cS → Nat → Nat → Prop)) (P2 : (Int32 → cS → Nat → Nat → Prop)) : Prop := (P2 (a3 + (1 : Int32)) s kc ks)
def C_Pl_lets_b81 (sa : Nat → Nat) (p0 : Nat) (p1 : Option Nat) (p2 : Int32) (a3 : Int32) (a4 : Option Nat) (a5 : Int32) (a6 : Int32) (s : cS) (kc ks : Nat) (Q : (Int32 → cS → Nat → Nat → Prop)) (P2 : (Int32 → cS → Nat → Nat → Prop)) : Prop := ob p1 (fun b1 => (ob (gI s 5 3 b1) (fun v2 => (if v2 < a5 then ((C_Pl_lets_b115 sa p0 (some b1) p2 a3 s kc ks Q P2)) else (ob (gI s 5 3 b1) (fun v3 => (if a6 < v3 then ((C_Pl_lets_b115 sa p0 (some b1) p2 a3 s kc ks Q P2)) else (ob a4 (fun b4 => (okO s 5 b4 ∧ C_Pr_covers sa b4 (some b1) s kc ks (fun r5 sr5 cr5 dr5 => (if r5 = 0 then ((C_Pl_lets_b115 sa p0 (some b1) p2 a3 sr5 cr5 dr5 Q P2)) else ((ob (gP sr5 6 2 p0) (fun v6 => (ob v6 (fun b7 => (ob (rE sr5 .boolean b7 a3) (fun v8 => ((v8 = 0 ∨ v8 = 1) ∧ Q v8 sr5 cr5 dr5))))))))))))))))))))
def C_Pl_lets_b79 (sa : Nat → Nat) (p0 : Nat) (p1 : Option Nat) (p2 : Int32) (a3 : Int32) (a4 : Option Nat) (a5 : Int32) (u0 : Int32) (s : cS) (kc ks : Nat) (Q : (Int32 → cS → Nat → Nat → Prop)) (P2 : (Int32 → cS → Nat → Nat → Prop)) : Prop := (C_Pl_lets_b81 sa p0 p1 p2 a3 a4 a5 u0 s kc ks Q P2)
def C_Pl_lets_b42 (sa : Nat → Nat) (p0 : Nat) (p1 : Option Nat) (p2 : Int32) (a3 : Int32) (a4 : Option Nat) (u0 : Int32) (s : cS) (kc ks : Nat) (Q : (Int32 → cS → Nat → Nat → Prop)) (P2 : (Int32 → cS → Nat → Nat → Prop)) : Prop := ob (gP s 6 4 p0) (fun v1 => (ob v1 (fun b2 => (ob (rE s .int b2 a3) (fun v3 => (if v3 = ((-1) : Int32) then (ob (gP s 6 3 p0) (fun v4 => (ob v4 (fun b5 => (ob (rE s .int b5 a3) (fun v6 => (if v6 = ((-1) : Int32) then (ob a4 (fun b7 => (ob (gI s 5 3 b7) (fun v8 => ((C_Pl_lets_b79 sa p0 p1 p2 a3 (some b7) u0 v8 s kc ks Q P2)))))) else ((C_Pl_lets_b79 sa p0 p1 p2 a3 a4 u0 (128 : Int32) s kc ks Q P2))))))))) else ((C_Pl_lets_b81 sa p0 p1 p2 a3 a4 u0 v3 s kc ks Q P2))))))))
def C_Pl_lets_s2 (sa : Nat → Nat) (p0 : Nat) (p1 : Option Nat) (p2 : Int32) (a3 : Int32) (s : cS) (kc ks : Nat) (Q : (Int32 → cS → Nat → Nat → Prop)) (P2 : (Int32 → cS → Nat → Nat → Prop)) : Prop := ob (gI s 6 5 p0) (fun v1 => (if a3 < v1 then (ob (gP s 6 1 p0) (fun v2 => (ob v2 (fun b3 => (ob (rQ s b3 a3) (fun v4 => (ob (gP s 6 3 p0) (fun v5 => (ob v5 (fun b6 => (ob (rE s .int b6 a3) (fun v7 => (if v7 = ((-1) : Int32) then (ob v4 (fun b11 => (ob (gI s 5 3 b11) (fun v12 => ((C_Pl_lets_b42 sa p0 p1 p2 a3 (some b11) v12 s kc ks Q P2)))))) else (ob (gP s 6 3 p0) (fun v8 => (ob v8 (fun b9 => (ob (rE s .int b9 a3) (fun v10 => ((C_Pl_lets_b42 sa p0 p1 p2 a3 v4 v10 s kc ks Q P2))))))))))))))))))))) else (((p2 = 0 ∨ p2 = 1) ∧ Q p2 s kc ks))))
def C_Pl_lets_b2 (sa : Nat → Nat) (p0 : Nat) (p1 : Option Nat) (p2 : Int32) (a3 : Int32) (s : cS) (kc ks : Nat) (Q : (Int32 → cS → Nat → Nat → Prop)) : Prop := ∀ P2 : (Int32 → cS → Nat → Nat → Prop), (∀ (a3 : Int32) (s : cS) (kc ks : Nat), C_Pl_lets_s2 sa p0 p1 p2 a3 s kc ks Q P2 → P2 a3 s kc ks) → P2 a3 s kc ks
def C_Pl_lets (sa : Nat → Nat) (p0 : Nat) (p1 : Option Nat) (p2 : Int32) (s : cS) (kc ks : Nat) (Q : (Int32 → cS → Nat → Nat → Prop)) : Prop := (C_Pl_lets_b2 sa p0 p1 p2 (0 : Int32) s kc ks Q)
set_option maxRecDepth 100000 in
set_option maxHeartbeats 4000000 in
theorem kc_Pl_lets (base : Nat) (sa : Nat → Nat) {R : pmM} {s : cS} {kc ks : Nat} {Rt : pmR} {p0 : Nat} {p1 : Option Nat} {p2 : Int32} {Q : (Int32 → cS → Nat → Nat → Prop)} (hw : cW sa R base s) (h : C_Pl_lets sa p0 p1 p2 s kc ks Q) (k : ∀ r s' kc' ks', cW sa R base s' → Q r s' kc' ks' → Rt (some (.int r)) (cM R s') kc' ks') : kP_Pl_lets base sa [.ref p0, va_rf p1, .int p2] (cM R s) kc ks Rt := by
  refine ⟨by cases p1 <;> exact Nat.le_of_ble_eq_true rfl, fun G hG => ?_⟩
  have eL : lv_args 0 [.ref p0, va_rf p1, .int p2] = [(0, va_rf (some p0)), (1, va_rf p1), (2, .int p2)] := by cases p1 <;> rfl
  rw [eL]
  have b2 : ∀ (a3 : Int32) (s : cS) (kc ks : Nat), KK sa R base G 2 [(0, va_rf (some p0)), (1, va_rf p1), (2, .int p2), (3, .int a3)] [] s kc ks (C_Pl_lets_b2 sa p0 p1 p2 a3 s kc ks Q) := by
    have H : ∀ (P2 : (Int32 → cS → Nat → Nat → Prop)) (hP2 : ∀ (a3 : Int32) (s : cS) (kc ks : Nat), P2 a3 s kc ks → cW sa R base s → G 2 [(0, va_rf (some p0)), (1, va_rf p1), (2, .int p2), (3, .int a3)] [] (cM R s) kc ks) (a3 : Int32) (s : cS) (kc ks : Nat), KK sa R base G 2 [(0, va_rf (some p0)), (1, va_rf p1), (2, .int p2), (3, .int a3)] [] s kc ks (C_Pl_lets_s2 sa p0 p1 p2 a3 s kc ks Q P2) := by
      intro P2 hP2
      have b115 : ∀ (a3 : Int32) (s : cS) (kc ks : Nat), KK sa R base G 115 [(0, va_rf (some p0)), (1, va_rf p1), (2, .int p2), (3, .int a3)] [] s kc ks (C_Pl_lets_b115 sa p0 p1 p2 a3 s kc ks Q P2) := by
        intro a3 s kc ks
        refine kk_inc hG (L' := [(3, .int (a3 + (1 : Int32))), (0, va_rf (some p0)), (1, va_rf p1), (2, .int p2)]) rfl (Nat.le_of_ble_eq_true rfl) rfl cc_i1 rfl ?_
        refine kk_go hG (t := 2) rfl rfl ?_
        exact kk_wl hG [1, 2, 3, 0] rfl (fun hw h => hP2 _ _ _ _ h hw)
      have b81 : ∀ (a3 : Int32) (a4 : Option Nat) (a5 : Int32) (a6 : Int32) (s : cS) (kc ks : Nat), KK sa R base G 81 [(0, va_rf (some p0)), (1, va_rf p1), (2, .int p2), (3, .int a3), (4, va_rf a4), (5, .int a5), (6, .int a6)] [] s kc ks (C_Pl_lets_b81 sa p0 p1 p2 a3 a4 a5 a6 s kc ks Q P2) := by
        intro a3 a4 a5 a6 s kc ks
        refine kk_aln hG (x := p1) rfl rfl ?_
        refine kk_ob (fun b1 eb1 => ?_)
        subst eb1
        refine kk_gi hG (c := 5) (k := 3) (a := b1) rfl rfl rfl rfl (fun v2 => ?_)
        refine kks hG rfl rfl ?_
        refine kk_ilt hG (t := 115) rfl rfl ?_ ?_
        · exact kk_wl hG [0, 1, 2, 3] rfl (b115 _ _ _ _)
        refine kk_aln hG (x := (some b1)) rfl rfl ?_
        refine kk_gi hG (c := 5) (k := 3) (a := b1) rfl rfl rfl rfl (fun v3 => ?_)
        refine kks hG rfl rfl ?_
        refine kk_igt hG (t := 115) rfl rfl ?_ ?_
        · exact kk_wl hG [0, 1, 2, 3] rfl (b115 _ _ _ _)
        refine kk_al hG (x := a4) rfl rfl ?_
        refine kk_aln hG (x := (some b1)) rfl rfl ?_
        refine kk_ob (fun b4 eb4 => ?_)
        subst eb4
        refine kk_cx (w := .int) hG 0 rfl rfl (Nat.le_of_ble_eq_true rfl) (by decide) rfl (st' := []) rfl (cats_le (Nat.le_of_ble_eq_true rfl)) (fun _ hw h k => kk_rcv h.1 (kc_Pr_covers base sa hw h.2 k)) (fun r5 sr5 cr5 dr5 => ?_)
        refine kk_zeq hG (t := 115) rfl rfl ?_ ?_
        · exact kk_wl hG [0, 1, 2, 3] rfl (b115 _ _ _ _)
        refine kk_aln hG (x := (some p0)) rfl rfl ?_
        refine kk_gp hG (c := 6) (k := 2) (a := p0) rfl rfl rfl rfl (fun v6 => ?_)
        refine kks hG rfl rfl ?_
        refine kk_ob (fun b7 eb7 => ?_)
        subst eb7
        refine kk_za hG (a := b7) rfl (fun v8 => ?_)
        exact kk_rz hG rfl rfl k
      have b79 : ∀ (a3 : Int32) (a4 : Option Nat) (a5 : Int32) (u0 : Int32) (s : cS) (kc ks : Nat), KK sa R base G 79 [(0, va_rf (some p0)), (1, va_rf p1), (2, .int p2), (3, .int a3), (4, va_rf a4), (5, .int a5)] [.int u0] s kc ks (C_Pl_lets_b79 sa p0 p1 p2 a3 a4 a5 u0 s kc ks Q P2) := by
        intro a3 a4 a5 u0 s kc ks
        refine kk_st hG (L' := [(6, .int u0), (0, va_rf (some p0)), (1, va_rf p1), (2, .int p2), (3, .int a3), (4, va_rf a4), (5, .int a5)]) rfl rfl (Nat.le_of_ble_eq_true rfl) rfl ?_
        exact kk_wl hG [1, 2, 3, 4, 5, 6, 0] rfl (b81 _ _ _ _ _ _ _)
      have b42 : ∀ (a3 : Int32) (a4 : Option Nat) (u0 : Int32) (s : cS) (kc ks : Nat), KK sa R base G 42 [(0, va_rf (some p0)), (1, va_rf p1), (2, .int p2), (3, .int a3), (4, va_rf a4)] [.int u0] s kc ks (C_Pl_lets_b42 sa p0 p1 p2 a3 a4 u0 s kc ks Q P2) := by
        intro a3 a4 u0 s kc ks
        refine kk_st hG (L' := [(5, .int u0), (0, va_rf (some p0)), (1, va_rf p1), (2, .int p2), (3, .int a3), (4, va_rf a4)]) rfl rfl (Nat.le_of_ble_eq_true rfl) (by cases a4 <;> rfl) ?_
        refine kk_aln hG (x := (some p0)) rfl rfl ?_
        refine kk_gp hG (c := 6) (k := 4) (a := p0) rfl rfl rfl rfl (fun v1 => ?_)
        refine kks hG rfl rfl ?_
        refine kk_ob (fun b2 eb2 => ?_)
        subst eb2
        refine kk_ia hG (a := b2) rfl (fun v3 => ?_)
        refine kk_st hG (L' := [(6, .int v3), (5, .int u0), (0, va_rf (some p0)), (1, va_rf p1), (2, .int p2), (3, .int a3), (4, va_rf a4)]) rfl rfl (Nat.le_of_ble_eq_true rfl) rfl ?_
        refine kks hG rfl rfl ?_
        refine kk_ic hG rfl cc_im1 ?_
        refine kk_ine hG (t := 81) rfl rfl ?_ ?_
        · exact kk_wl hG [2, 3, 4, 5, 6, 1, 0] rfl (b81 _ _ _ _ _ _ _)
        refine kk_aln hG (x := (some p0)) rfl rfl ?_
        refine kk_gp hG (c := 6) (k := 3) (a := p0) rfl rfl rfl rfl (fun v4 => ?_)
        refine kks hG rfl rfl ?_
        refine kk_ob (fun b5 eb5 => ?_)
        subst eb5
        refine kk_ia hG (a := b5) rfl (fun v6 => ?_)
        refine kk_ic hG rfl cc_im1 ?_
        refine kk_ine hG (t := 76) rfl rfl ?_ ?_
        · refine kk_si hG rfl cc_s128 ?_
          exact kk_wl hG [2, 3, 4, 5, 6, 1] rfl (b79 _ _ _ _ _ _ _)
        refine kk_al hG (x := a4) rfl rfl ?_
        refine kk_ob (fun b7 eb7 => ?_)
        subst eb7
        refine kk_gi hG (c := 5) (k := 3) (a := b7) rfl rfl rfl rfl (fun v8 => ?_)
        refine kk_go hG (t := 79) rfl rfl ?_
        exact kk_wl hG [2, 3, 4, 5, 6, 1] rfl (b79 _ _ _ _ _ _ _)
      intro a3 s kc ks
      refine kks hG rfl rfl ?_
      refine kk_aln hG (x := (some p0)) rfl rfl ?_
      refine kk_gi hG (c := 6) (k := 5) (a := p0) rfl rfl rfl rfl (fun v1 => ?_)
      refine kk_ige hG (t := 121) rfl rfl ?_ ?_
      · refine kks hG rfl rfl ?_
        exact kk_rz hG rfl rfl k
      refine kk_aln hG (x := (some p0)) rfl rfl ?_
      refine kk_gp hG (c := 6) (k := 1) (a := p0) rfl rfl rfl rfl (fun v2 => ?_)
      refine kks hG rfl rfl ?_
      refine kk_ob (fun b3 eb3 => ?_)
      subst eb3
      refine kk_aa hG (a := b3) rfl (fun v4 => ?_)
      refine kk_as hG (x := v4) (L' := [(4, va_rf v4), (0, va_rf (some p0)), (1, va_rf p1), (2, .int p2), (3, .int a3)]) rfl (Nat.le_of_ble_eq_true rfl) rfl ?_
      refine kk_aln hG (x := (some p0)) rfl rfl ?_
      refine kk_gp hG (c := 6) (k := 3) (a := p0) rfl rfl rfl rfl (fun v5 => ?_)
      refine kks hG rfl rfl ?_
      refine kk_ob (fun b6 eb6 => ?_)
      subst eb6
      refine kk_ia hG (a := b6) rfl (fun v7 => ?_)
      refine kk_ic hG rfl cc_im1 ?_
      refine kk_ine hG (t := 36) rfl rfl ?_ ?_
      · refine kk_aln hG (x := (some p0)) rfl rfl ?_
        refine kk_gp hG (c := 6) (k := 3) (a := p0) rfl rfl rfl rfl (fun v8 => ?_)
        refine kks hG rfl rfl ?_
        refine kk_ob (fun b9 eb9 => ?_)
        subst eb9
        refine kk_ia hG (a := b9) rfl (fun v10 => ?_)
        exact kk_wl hG [1, 2, 3, 4, 0] rfl (b42 _ _ _ _ _ _)
      refine kk_al hG (x := v4) rfl rfl ?_
      refine kk_ob (fun b11 eb11 => ?_)
      subst eb11
      refine kk_gi hG (c := 5) (k := 3) (a := b11) rfl rfl rfl rfl (fun v12 => ?_)
      refine kk_go hG (t := 42) rfl rfl ?_
      exact kk_wl hG [1, 2, 3, 4, 0] rfl (b42 _ _ _ _ _ _)
    exact fun a3 s kc ks hw h => h (fun a3 s kc ks => cW sa R base s → G 2 [(0, va_rf (some p0)), (1, va_rf p1), (2, .int p2), (3, .int a3)] [] (cM R s) kc ks) (fun a3 s kc ks hs hw => H _ (fun _ _ _ _ hp hw => hp hw) a3 s kc ks hw hs) hw
  refine (show KK sa R base G 0 [(0, va_rf (some p0)), (1, va_rf p1), (2, .int p2)] [] s kc ks (C_Pl_lets sa p0 p1 p2 s kc ks Q) from ?_) hw h
  refine kk_ic hG rfl cc_i0 ?_
  refine kk_st hG (L' := [(3, .int (0 : Int32)), (0, va_rf (some p0)), (1, va_rf p1), (2, .int p2)]) rfl rfl (Nat.le_of_ble_eq_true rfl) rfl ?_
  exact kk_wl hG [1, 2, 3, 0] rfl (b2 _ _ _ _)
def C_Rr_concerns (sa : Nat → Nat) (p0 : Nat) (p1 : Option Nat) (p2 : Int32) (p3 : Option Nat) (s : cS) (kc ks : Nat) (Q : (Int32 → cS → Nat → Nat → Prop)) : Prop := ob p1 (fun b1 => (ob (rE s .int b1 (0 : Int32)) (fun v2 => (if v2 = p2 then (ob (rE s .int b1 (1 : Int32)) (fun v3 => (if v3 = ((-1) : Int32) then (Q (1 : Int32) s kc ks) else (ob (gP s 9 0 p0) (fun v4 => (ob (rE s .int b1 (1 : Int32)) (fun v5 => (ob v4 (fun b6 => (okO s 11 b6 ∧ C_Rf_linkAt sa b6 v5 s kc ks (fun r7 sr7 cr7 dr7 => (if r7 = p3 then (Q (1 : Int32) sr7 cr7 dr7) else (Q (0 : Int32) sr7 cr7 dr7))))))))))))) else (Q (0 : Int32) s kc ks)))))
set_option maxRecDepth 100000 in
set_option maxHeartbeats 4000000 in
theorem kc_Rr_concerns (base : Nat) (sa : Nat → Nat) {R : pmM} {s : cS} {kc ks : Nat} {Rt : pmR} {p0 : Nat} {p1 : Option Nat} {p2 : Int32} {p3 : Option Nat} {Q : (Int32 → cS → Nat → Nat → Prop)} (hw : cW sa R base s) (h : C_Rr_concerns sa p0 p1 p2 p3 s kc ks Q) (k : ∀ r s' kc' ks', cW sa R base s' → Q r s' kc' ks' → Rt (some (.int r)) (cM R s') kc' ks') : kP_Rr_concerns base sa [.ref p0, va_rf p1, .int p2, va_rf p3] (cM R s) kc ks Rt := by
  refine ⟨by cases p1 <;> cases p3 <;> exact Nat.le_of_ble_eq_true rfl, fun G hG => ?_⟩
  have eL : lv_args 0 [.ref p0, va_rf p1, .int p2, va_rf p3] = [(0, va_rf (some p0)), (1, va_rf p1), (2, .int p2), (3, va_rf p3)] := by cases p1 <;> cases p3 <;> rfl
  rw [eL]
  refine (show KK sa R base G 0 [(0, va_rf (some p0)), (1, va_rf p1), (2, .int p2), (3, va_rf p3)] [] s kc ks (C_Rr_concerns sa p0 p1 p2 p3 s kc ks Q) from ?_) hw h
  refine kk_aln hG (x := p1) rfl rfl ?_
  refine kk_ic hG rfl cc_i0 ?_
  refine kk_ob (fun b1 eb1 => ?_)
  subst eb1
  refine kk_ia hG (a := b1) rfl (fun v2 => ?_)
  refine kks hG rfl rfl ?_
  refine kk_ine hG (t := 32) rfl rfl ?_ ?_
  · refine kk_ic hG rfl cc_i0 ?_
    exact kk_ri hG rfl rfl rfl k
  refine kk_aln hG (x := (some b1)) rfl rfl ?_
  refine kk_ic hG rfl cc_i1 ?_
  refine kk_ia hG (a := b1) rfl (fun v3 => ?_)
  refine kk_ic hG rfl cc_im1 ?_
  refine kk_ieq hG (t := 28) rfl rfl ?_ ?_
  · refine kk_ic hG rfl cc_i1 ?_
    refine kk_go hG (t := 33) rfl rfl ?_
    exact kk_ri hG rfl rfl rfl k
  refine kk_aln hG (x := (some p0)) rfl rfl ?_
  refine kk_gp hG (c := 9) (k := 0) (a := p0) rfl rfl rfl rfl (fun v4 => ?_)
  refine kk_aln hG (x := (some b1)) rfl rfl ?_
  refine kk_ic hG rfl cc_i1 ?_
  refine kk_ia hG (a := b1) rfl (fun v5 => ?_)
  refine kk_ob (fun b6 eb6 => ?_)
  subst eb6
  refine kk_cx (w := va_rf) hG 0 rfl rfl (Nat.le_of_ble_eq_true rfl) (by decide) rfl (st' := []) rfl (cats_le (Nat.le_of_ble_eq_true rfl)) (fun _ hw h k => kk_rcv h.1 (kc_Rf_linkAt base sa hw h.2 k)) (fun r7 sr7 cr7 dr7 => ?_)
  refine kk_aln hG (x := p3) rfl rfl ?_
  refine kk_ane hG (x := r7) (y := p3) (t := 32) rfl rfl ?_ ?_
  · refine kk_ic hG rfl cc_i0 ?_
    exact kk_ri hG rfl rfl rfl k
  refine kk_ic hG rfl cc_i1 ?_
  refine kk_go hG (t := 33) rfl rfl ?_
  exact kk_ri hG rfl rfl rfl k
