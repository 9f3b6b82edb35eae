/-! Methods as weakest preconditions, by program: Ch_sum .. Po_opens -/
def C_Ch_sum_s117 (sa : Nat → Nat) (p0 : Nat) (p3 : Int32) (a4 : Int32) (s : cS) (kc ks : Nat) (Q : (cS → Nat → Nat → Prop)) (P117 : (Int32 → cS → Nat → Nat → Prop)) : Prop := if a4 < (20 : Int32) then (ob (gP s 1 8 p0) (fun v3 => (ob (gI s 1 9 p0) (fun v4 => (okO s 1 p0 ∧ C_Ch_sumByte sa p0 a4 p3 s kc ks (fun r5 sr5 cr5 dr5 => (ob v3 (fun b6 => (ob (wEb sr5 b6 v4 (Int8.toInt32 (Int32.toInt8 r5))) (fun s7 => (ob (gI s7 1 9 p0) (fun v8 => (ob (pI s7 1 9 p0 (v8 + (1 : Int32))) (fun s9 => ((P117 (a4 + (1 : Int32)) s9 cr5 dr5)))))))))))))))) else ((okO s 1 p0 ∧ C_Ch_fillBlock sa p0 (1 : Int32) s kc ks (fun sr1 cr1 dr1 => (okO sr1 1 p0 ∧ C_Ch_sha sa p0 sr1 cr1 dr1 (fun sr2 cr2 dr2 => (Q sr2 cr2 dr2))))))
def C_Ch_sum_b117 (sa : Nat → Nat) (p0 : Nat) (p3 : Int32) (a4 : Int32) (s : cS) (kc ks : Nat) (Q : (cS → Nat → Nat → Prop)) : Prop := ∀ P117 : (Int32 → cS → Nat → Nat → Prop), (∀ (a4 : Int32) (s : cS) (kc ks : Nat), C_Ch_sum_s117 sa p0 p3 a4 s kc ks Q P117 → P117 a4 s kc ks) → P117 a4 s kc ks
def C_Ch_sum_b16 (sa : Nat → Nat) (p0 : Nat) (p1 : Option Nat) (p2 : Int32) (p3 : Int32) (s : cS) (kc ks : Nat) (Q : (cS → Nat → Nat → Prop)) : Prop := ob (pI s 1 9 p0 (0 : Int32)) (fun s1 => (ob (gP s1 1 4 p0) (fun v2 => (ob v2 (fun b3 => (ob (rE s1 .int b3 p3) (fun v4 => (if v4 = (16 : Int32) then (ob p1 (fun b14 => (ob (gP s1 0 0 b14) (fun v15 => (ob (gI s1 0 1 b14) (fun v16 => (okO s1 1 p0 ∧ C_Ch_addWork sa p0 v15 (mnI p2 v16) s1 kc ks (fun sr17 cr17 dr17 => (okO sr17 1 p0 ∧ C_Ch_addSecret sa p0 p3 (0 : Int32) (16 : Int32) sr17 cr17 dr17 (fun sr18 cr18 dr18 => (okO sr18 1 p0 ∧ C_Ch_fillBlock sa p0 (0 : Int32) sr18 cr18 dr18 (fun sr19 cr19 dr19 => (okO sr19 1 p0 ∧ C_Ch_md5 sa p0 sr19 cr19 dr19 (fun sr20 cr20 dr20 => (Q sr20 cr20 dr20))))))))))))))) else (okO s1 1 p0 ∧ C_Ch_addSecret sa p0 p3 (54 : Int32) (64 : Int32) s1 kc ks (fun sr5 cr5 dr5 => (ob p1 (fun b6 => (ob (gP sr5 0 0 b6) (fun v7 => (ob (gI sr5 0 1 b6) (fun v8 => (okO sr5 1 p0 ∧ C_Ch_addWork sa p0 v7 (mnI p2 v8) sr5 cr5 dr5 (fun sr9 cr9 dr9 => (okO sr9 1 p0 ∧ C_Ch_fillBlock sa p0 (1 : Int32) sr9 cr9 dr9 (fun sr10 cr10 dr10 => (okO sr10 1 p0 ∧ C_Ch_sha sa p0 sr10 cr10 dr10 (fun sr11 cr11 dr11 => (ob (pI sr11 1 9 p0 (0 : Int32)) (fun s12 => (okO s12 1 p0 ∧ C_Ch_addSecret sa p0 p3 (92 : Int32) (64 : Int32) s12 cr11 dr11 (fun sr13 cr13 dr13 => ((C_Ch_sum_b117 sa p0 p3 (0 : Int32) sr13 cr13 dr13 Q))))))))))))))))))))))))))))
def C_Ch_sum (sa : Nat → Nat) (p0 : Nat) (p1 : Option Nat) (p2 : Int32) (p3 : Int32) (s : cS) (kc ks : Nat) (Q : (cS → Nat → Nat → Prop)) : Prop := ob (gP s 1 8 p0) (fun v1 => (if v1 = none then (nwA s kc ks .byte (792 : Int32) (fun q2 sq2 cq2 dq2 => (ob (pP sq2 1 8 p0 (some q2)) (fun s3 => ((C_Ch_sum_b16 sa p0 p1 p2 p3 s3 cq2 dq2 Q)))))) else ((C_Ch_sum_b16 sa p0 p1 p2 p3 s kc ks Q))))
set_option maxRecDepth 100000 in
set_option maxHeartbeats 4000000 in
theorem kc_Ch_sum (base : Nat) (sa : Nat → Nat) {R : pmM} {s : cS} {kc ks : Nat} {Rt : pmR} {p0 : Nat} {p1 : Option Nat} {p2 : Int32} {p3 : Int32} {Q : (cS → Nat → Nat → Prop)} (hw : cW sa R base s) (h : C_Ch_sum sa p0 p1 p2 p3 s kc ks Q) (k : ∀ s' kc' ks', cW sa R base s' → Q s' kc' ks' → Rt none (cM R s') kc' ks') : kP_Ch_sum base sa [.ref p0, va_rf p1, .int p2, .int p3] (cM R s) kc ks Rt := by
  refine ⟨by cases p1 <;> exact Nat.le_of_ble_eq_true rfl, fun G hG => ?_⟩
  have eL : lv_args 0 [.ref p0, va_rf p1, .int p2, .int p3] = [(0, va_rf (some p0)), (1, va_rf p1), (2, .int p2), (3, .int p3)] := by cases p1 <;> rfl
  rw [eL]
  have b117 : ∀ (a4 : Int32) (s : cS) (kc ks : Nat), KK sa R base G 117 [(0, va_rf (some p0)), (3, .int p3), (4, .int a4)] [] s kc ks (C_Ch_sum_b117 sa p0 p3 a4 s kc ks Q) := by
    have H : ∀ (P117 : (Int32 → cS → Nat → Nat → Prop)) (hP117 : ∀ (a4 : Int32) (s : cS) (kc ks : Nat), P117 a4 s kc ks → cW sa R base s → G 117 [(0, va_rf (some p0)), (3, .int p3), (4, .int a4)] [] (cM R s) kc ks) (a4 : Int32) (s : cS) (kc ks : Nat), KK sa R base G 117 [(0, va_rf (some p0)), (3, .int p3), (4, .int a4)] [] s kc ks (C_Ch_sum_s117 sa p0 p3 a4 s kc ks Q P117) := by
      intro P117 hP117
      intro a4 s kc ks
      refine kks hG rfl rfl ?_
      refine kk_bi hG rfl cc_b20 ?_
      refine kk_ige hG (t := 157) rfl rfl ?_ ?_
      · refine kk_aln hG (x := (some p0)) rfl rfl ?_
        refine kk_ic hG rfl cc_i1 ?_
        refine kk_cv hG 0 rfl rfl (Nat.le_of_ble_eq_true rfl) (by decide) rfl (st' := []) rfl (cats_le (Nat.le_of_ble_eq_true rfl)) (fun _ hw h k => kk_rcv h.1 (kc_Ch_fillBlock base sa hw h.2 k)) (fun sr1 cr1 dr1 => ?_)
        refine kk_aln hG (x := (some p0)) rfl rfl ?_
        refine kk_cv hG 0 rfl rfl (Nat.le_of_ble_eq_true rfl) (by decide) rfl (st' := []) rfl (cats_le (Nat.le_of_ble_eq_true rfl)) (fun _ hw h k => kk_rcv h.1 (kc_Ch_sha base sa hw h.2 k)) (fun sr2 cr2 dr2 => ?_)
        exact kk_rv hG rfl rfl k
      refine kk_aln hG (x := (some p0)) rfl rfl ?_
      refine kk_gp hG (c := 1) (k := 8) (a := p0) rfl rfl rfl rfl (fun v3 => ?_)
      refine kk_aln hG (x := (some p0)) rfl rfl ?_
      refine kk_gi hG (c := 1) (k := 9) (a := p0) rfl rfl rfl rfl (fun v4 => ?_)
      refine kk_aln hG (x := (some p0)) rfl rfl ?_
      refine kks hG rfl rfl ?_
      refine kks hG rfl rfl ?_
      refine kk_cx (w := .int) hG 0 rfl rfl (Nat.le_of_ble_eq_true rfl) (by decide) rfl (st' := [.int v4, va_rf v3]) rfl (cats_le (Nat.le_of_ble_eq_true rfl)) (fun _ hw h k => kk_rcv h.1 (kc_Ch_sumByte base sa hw h.2 k)) (fun r5 sr5 cr5 dr5 => ?_)
      refine kks hG rfl rfl ?_
      refine kk_ob (fun b6 eb6 => ?_)
      subst eb6
      refine kk_bs hG (a := b6) rfl (fun s7 => ?_)
      refine kk_aln hG (x := (some p0)) rfl rfl ?_
      refine kk_dup hG (x := (some p0)) rfl ?_
      refine kk_gi hG (c := 1) (k := 9) (a := p0) rfl rfl rfl rfl (fun v8 => ?_)
      refine kk_ic hG rfl cc_i1 ?_
      refine kks hG rfl rfl ?_
      refine kk_pi hG (c := 1) (k := 9) (a := p0) rfl rfl rfl rfl (fun s9 => ?_)
      refine kk_inc hG (L' := [(4, .int (a4 + (1 : Int32))), (0, va_rf (some p0)), (3, .int p3)]) rfl (Nat.le_of_ble_eq_true rfl) rfl cc_i1 rfl ?_
      refine kk_go hG (t := 117) rfl rfl ?_
      exact kk_wl hG [1, 2, 0] rfl (fun hw h => hP117 _ _ _ _ h hw)
    exact fun a4 s kc ks hw h => h (fun a4 s kc ks => cW sa R base s → G 117 [(0, va_rf (some p0)), (3, .int p3), (4, .int a4)] [] (cM R s) kc ks) (fun a4 s kc ks hs hw => H _ (fun _ _ _ _ hp hw => hp hw) a4 s kc ks hw hs) hw
  have b16 : ∀ (s : cS) (kc ks : Nat), KK sa R base G 16 [(0, va_rf (some p0)), (1, va_rf p1), (2, .int p2), (3, .int p3)] [] s kc ks (C_Ch_sum_b16 sa p0 p1 p2 p3 s kc ks Q) := by
    intro s kc ks
    refine kk_aln hG (x := (some p0)) rfl rfl ?_
    refine kk_ic hG rfl cc_i0 ?_
    refine kk_pi hG (c := 1) (k := 9) (a := p0) rfl rfl rfl rfl (fun s1 => ?_)
    refine kk_aln hG (x := (some p0)) rfl rfl ?_
    refine kk_gp hG (c := 1) (k := 4) (a := p0) rfl rfl rfl rfl (fun v2 => ?_)
    refine kks hG rfl rfl ?_
    refine kk_ob (fun b3 eb3 => ?_)
    subst eb3
    refine kk_ia hG (a := b3) rfl (fun v4 => ?_)
    refine kk_bi hG rfl cc_b16 ?_
    refine kk_ine hG (t := 66) rfl rfl ?_ ?_
    · refine kk_aln hG (x := (some p0)) rfl rfl ?_
      refine kks hG rfl rfl ?_
      refine kk_bi hG rfl cc_b54 ?_
      refine kk_bi hG rfl cc_b64 ?_
      refine kk_cv hG 0 rfl rfl (Nat.le_of_ble_eq_true rfl) (by decide) rfl (st' := []) rfl (cats_le (Nat.le_of_ble_eq_true rfl)) (fun _ hw h k => kk_rcv h.1 (kc_Ch_addSecret base sa hw h.2 k)) (fun sr5 cr5 dr5 => ?_)
      refine kk_aln hG (x := (some p0)) rfl rfl ?_
      refine kk_aln hG (x := p1) rfl rfl ?_
      refine kk_ob (fun b6 eb6 => ?_)
      subst eb6
      refine kk_gp hG (c := 0) (k := 0) (a := b6) rfl rfl rfl rfl (fun v7 => ?_)
      refine kks hG rfl rfl ?_
      refine kk_aln hG (x := (some b6)) rfl rfl ?_
      refine kk_gi hG (c := 0) (k := 1) (a := b6) rfl rfl rfl rfl (fun v8 => ?_)
      refine kk_mn hG rfl rfl (Nat.le_of_ble_eq_true rfl) ?_
      refine kk_cv hG 0 rfl rfl (Nat.le_of_ble_eq_true rfl) (by decide) rfl (st' := []) rfl (cats_le (Nat.le_of_ble_eq_true rfl)) (fun _ hw h k => kk_rcv h.1 (kc_Ch_addWork base sa hw h.2 k)) (fun sr9 cr9 dr9 => ?_)
      refine kk_aln hG (x := (some p0)) rfl rfl ?_
      refine kk_ic hG rfl cc_i1 ?_
      refine kk_cv hG 0 rfl rfl (Nat.le_of_ble_eq_true rfl) (by decide) rfl (st' := []) rfl (cats_le (Nat.le_of_ble_eq_true rfl)) (fun _ hw h k => kk_rcv h.1 (kc_Ch_fillBlock base sa hw h.2 k)) (fun sr10 cr10 dr10 => ?_)
      refine kk_aln hG (x := (some p0)) rfl rfl ?_
      refine kk_cv hG 0 rfl rfl (Nat.le_of_ble_eq_true rfl) (by decide) rfl (st' := []) rfl (cats_le (Nat.le_of_ble_eq_true rfl)) (fun _ hw h k => kk_rcv h.1 (kc_Ch_sha base sa hw h.2 k)) (fun sr11 cr11 dr11 => ?_)
      refine kk_aln hG (x := (some p0)) rfl rfl ?_
      refine kk_ic hG rfl cc_i0 ?_
      refine kk_pi hG (c := 1) (k := 9) (a := p0) rfl rfl rfl rfl (fun s12 => ?_)
      refine kk_aln hG (x := (some p0)) rfl rfl ?_
      refine kks hG rfl rfl ?_
      refine kk_bi hG rfl cc_b92 ?_
      refine kk_bi hG rfl cc_b64 ?_
      refine kk_cv hG 0 rfl rfl (Nat.le_of_ble_eq_true rfl) (by decide) rfl (st' := []) rfl (cats_le (Nat.le_of_ble_eq_true rfl)) (fun _ hw h k => kk_rcv h.1 (kc_Ch_addSecret base sa hw h.2 k)) (fun sr13 cr13 dr13 => ?_)
      refine kk_ic hG rfl cc_i0 ?_
      refine kk_st hG (L' := [(4, .int (0 : Int32)), (0, va_rf (some p0)), (1, va_rf (some b6)), (2, .int p2), (3, .int p3)]) rfl rfl (Nat.le_of_ble_eq_true rfl) rfl ?_
      exact kk_wl hG [1, 4, 0] rfl (b117 _ _ _ _)
    refine kk_aln hG (x := (some p0)) rfl rfl ?_
    refine kk_aln hG (x := p1) rfl rfl ?_
    refine kk_ob (fun b14 eb14 => ?_)
    subst eb14
    refine kk_gp hG (c := 0) (k := 0) (a := b14) rfl rfl rfl rfl (fun v15 => ?_)
    refine kks hG rfl rfl ?_
    refine kk_aln hG (x := (some b14)) rfl rfl ?_
    refine kk_gi hG (c := 0) (k := 1) (a := b14) rfl rfl rfl rfl (fun v16 => ?_)
    refine kk_mn hG rfl rfl (Nat.le_of_ble_eq_true rfl) ?_
    refine kk_cv hG 0 rfl rfl (Nat.le_of_ble_eq_true rfl) (by decide) rfl (st' := []) rfl (cats_le (Nat.le_of_ble_eq_true rfl)) (fun _ hw h k => kk_rcv h.1 (kc_Ch_addWork base sa hw h.2 k)) (fun sr17 cr17 dr17 => ?_)
    refine kk_aln hG (x := (some p0)) rfl rfl ?_
    refine kks hG rfl rfl ?_
    refine kk_ic hG rfl cc_i0 ?_
    refine kk_bi hG rfl cc_b16 ?_
    refine kk_cv hG 0 rfl rfl (Nat.le_of_ble_eq_true rfl) (by decide) rfl (st' := []) rfl (cats_le (Nat.le_of_ble_eq_true rfl)) (fun _ hw h k => kk_rcv h.1 (kc_Ch_addSecret base sa hw h.2 k)) (fun sr18 cr18 dr18 => ?_)
    refine kk_aln hG (x := (some p0)) rfl rfl ?_
    refine kk_ic hG rfl cc_i0 ?_
    refine kk_cv hG 0 rfl rfl (Nat.le_of_ble_eq_true rfl) (by decide) rfl (st' := []) rfl (cats_le (Nat.le_of_ble_eq_true rfl)) (fun _ hw h k => kk_rcv h.1 (kc_Ch_fillBlock base sa hw h.2 k)) (fun sr19 cr19 dr19 => ?_)
    refine kk_aln hG (x := (some p0)) rfl rfl ?_
    refine kk_cv hG 0 rfl rfl (Nat.le_of_ble_eq_true rfl) (by decide) rfl (st' := []) rfl (cats_le (Nat.le_of_ble_eq_true rfl)) (fun _ hw h k => kk_rcv h.1 (kc_Ch_md5 base sa hw h.2 k)) (fun sr20 cr20 dr20 => ?_)
    exact kk_rv hG rfl rfl k
  refine (show KK sa R base G 0 [(0, va_rf (some p0)), (1, va_rf p1), (2, .int p2), (3, .int p3)] [] s kc ks (C_Ch_sum sa p0 p1 p2 p3 s kc ks Q) from ?_) hw h
  refine kk_aln hG (x := (some p0)) rfl rfl ?_
  refine kk_gp hG (c := 1) (k := 8) (a := p0) rfl rfl rfl rfl (fun v1 => ?_)
  refine kk_nnl hG (x := v1) (t := 16) rfl rfl ?_ ?_
  · exact kk_wl hG [0, 1, 2, 3] rfl (b16 _ _ _)
  refine kk_aln hG (x := (some p0)) rfl rfl ?_
  refine kk_si hG rfl cc_s792 ?_
  refine kk_nar hG (ty := .byte) rfl rfl rfl rfl (fun q2 sq2 cq2 dq2 => ?_)
  refine kk_pp hG (c := 1) (k := 8) (a := p0) (v := (some q2)) rfl rfl rfl rfl rfl (fun s3 => ?_)
  exact kk_wl hG [0, 1, 2, 3] rfl (b16 _ _ _)
def C_Ch_keyOf_s142 (sa : Nat → Nat) (p0 : Nat) (p1 : Option Nat) (a3 : Int32) (a4 : Int32) (a5 : Int32) (s : cS) (kc ks : Nat) (Q : (Int32 → cS → Nat → Nat → Prop)) (P142 : (Int32 → cS → Nat → Nat → Prop)) : Prop := ob (gP s 1 4 p0) (fun v1 => (ob v1 (fun b2 => (ob (rE s .int b2 a3) (fun v3 => (if a5 < v3 then (ob p1 (fun b4 => (okO s 0 b4 ∧ C_By_at sa b4 ((a4 + (4 : Int32)) + a5) s kc ks (fun r5 sr5 cr5 dr5 => (okO sr5 1 p0 ∧ C_Ch_sumByte sa p0 a5 a3 sr5 cr5 dr5 (fun r6 sr6 cr6 dr6 => (if r5 = r6 then ((P142 (a5 + (1 : Int32)) sr6 cr6 dr6)) else ((Q ((-1) : Int32) sr6 cr6 dr6))))))))) else ((Q a3 s kc ks))))))))
def C_Ch_keyOf_b142 (sa : Nat → Nat) (p0 : Nat) (p1 : Option Nat) (a3 : Int32) (a4 : Int32) (a5 : Int32) (s : cS) (kc ks : Nat) (Q : (Int32 → cS → Nat → Nat → Prop)) : Prop := ∀ P142 : (Int32 → cS → Nat → Nat → Prop), (∀ (a5 : Int32) (s : cS) (kc ks : Nat), C_Ch_keyOf_s142 sa p0 p1 a3 a4 a5 s kc ks Q P142 → P142 a5 s kc ks) → P142 a5 s kc ks
def C_Ch_keyOf (sa : Nat → Nat) (p0 : Nat) (p1 : Option Nat) (p2 : Int32) (s : cS) (kc ks : Nat) (Q : (Int32 → cS → Nat → Nat → Prop)) : Prop := ob p1 (fun b1 => (okO s 0 b1 ∧ C_By_at sa b1 (10 : Int32) s kc ks (fun r2 sr2 cr2 dr2 => (okO sr2 1 p0 ∧ C_Ch_goodKey sa p0 r2 p2 sr2 cr2 dr2 (fun r3 sr3 cr3 dr3 => (if r3 = ((-1) : Int32) then (Q ((-1) : Int32) sr3 cr3 dr3) else (okO sr3 0 b1 ∧ C_By_numberAt sa b1 (4 : Int32) (4 : Int32) sr3 cr3 dr3 (fun r4 sr4 cr4 dr4 => (if r4 = (4294901763 : Int64) then (okO sr4 0 b1 ∧ C_By_at sa b1 (11 : Int32) sr4 cr4 dr4 (fun r5 sr5 cr5 dr5 => (ob (gP sr5 1 4 p0) (fun v6 => (ob v6 (fun b7 => (ob (rE sr5 .int b7 r3) (fun v8 => (if r5 = v8 then (ob (gI sr5 0 1 b1) (fun v9 => (okO sr5 1 p0 ∧ C_Ch_endSize sa p0 r3 sr5 cr5 dr5 (fun r10 sr10 cr10 dr10 => (if (v9 - r10) < (24 : Int32) then (Q ((-1) : Int32) sr10 cr10 dr10) else (okO sr10 0 b1 ∧ C_By_numberAt sa b1 (8 : Int32) (2 : Int32) sr10 cr10 dr10 (fun r11 sr11 cr11 dr11 => (if r11 = (Int32.toInt64 (v9 - r10)) then (okO sr11 0 b1 ∧ C_By_zerosAt sa b1 (16 : Int32) (24 : Int32) sr11 cr11 dr11 (fun r12 sr12 cr12 dr12 => (if r12 = 0 then (Q ((-1) : Int32) sr12 cr12 dr12) else (okO sr12 0 b1 ∧ C_By_numberAt sa b1 (v9 - r10) (4 : Int32) sr12 cr12 dr12 (fun r13 sr13 cr13 dr13 => (if r13 = (4294901761 : Int64) then (ob (gP sr13 1 4 p0) (fun v14 => (ob v14 (fun b15 => (ob (rE sr13 .int b15 r3) (fun v16 => (ob (gI sr13 0 1 b1) (fun v17 => (okO sr13 0 b1 ∧ C_By_zerosAt sa b1 (((v9 - r10) + (4 : Int32)) + v16) v17 sr13 cr13 dr13 (fun r18 sr18 cr18 dr18 => (if r18 = 0 then (Q ((-1) : Int32) sr18 cr18 dr18) else (okO sr18 1 p0 ∧ C_Ch_sum sa p0 (some b1) ((v9 - r10) + (4 : Int32)) r3 sr18 cr18 dr18 (fun sr19 cr19 dr19 => ((C_Ch_keyOf_b142 sa p0 (some b1) r3 (v9 - r10) (0 : Int32) sr19 cr19 dr19 Q))))))))))))))) else (Q ((-1) : Int32) sr13 cr13 dr13))))))) else (Q ((-1) : Int32) sr11 cr11 dr11))))))))) else (Q ((-1) : Int32) sr5 cr5 dr5)))))))))) else (Q ((-1) : Int32) sr4 cr4 dr4))))))))))
set_option maxRecDepth 100000 in
set_option maxHeartbeats 4000000 in
theorem kc_Ch_keyOf (base : Nat) (sa : Nat → Nat) {R : pmM} {s : cS} {kc ks : Nat} {Rt : pmR} {p0 : Nat} {p1 : Option Nat} {p2 : Int32} {Q : (Int32 → cS → Nat → Nat → Prop)} (hw : cW sa R base s) (h : C_Ch_keyOf sa p0 p1 p2 s kc ks Q) (k : ∀ r s' kc' ks', cW sa R base s' → Q r s' kc' ks' → Rt (some (.int r)) (cM R s') kc' ks') : kP_Ch_keyOf base sa [.ref p0, va_rf p1, .int p2] (cM R s) kc ks Rt := by
  refine ⟨by cases p1 <;> exact Nat.le_of_ble_eq_true rfl, fun G hG => ?_⟩
  have eL : lv_args 0 [.ref p0, va_rf p1, .int p2] = [(0, va_rf (some p0)), (1, va_rf p1), (2, .int p2)] := by cases p1 <;> rfl
  rw [eL]
  have b142 : ∀ (a3 : Int32) (a4 : Int32) (a5 : Int32) (s : cS) (kc ks : Nat), KK sa R base G 142 [(0, va_rf (some p0)), (1, va_rf p1), (3, .int a3), (4, .int a4), (5, .int a5)] [] s kc ks (C_Ch_keyOf_b142 sa p0 p1 a3 a4 a5 s kc ks Q) := by
    intro a3 a4
    have H : ∀ (P142 : (Int32 → cS → Nat → Nat → Prop)) (hP142 : ∀ (a5 : Int32) (s : cS) (kc ks : Nat), P142 a5 s kc ks → cW sa R base s → G 142 [(0, va_rf (some p0)), (1, va_rf p1), (3, .int a3), (4, .int a4), (5, .int a5)] [] (cM R s) kc ks) (a5 : Int32) (s : cS) (kc ks : Nat), KK sa R base G 142 [(0, va_rf (some p0)), (1, va_rf p1), (3, .int a3), (4, .int a4), (5, .int a5)] [] s kc ks (C_Ch_keyOf_s142 sa p0 p1 a3 a4 a5 s kc ks Q P142) := by
      intro P142 hP142
      intro a5 s kc ks
      refine kks hG rfl rfl ?_
      refine kk_aln hG (x := (some p0)) rfl rfl ?_
      refine kk_gp hG (c := 1) (k := 4) (a := p0) rfl rfl rfl rfl (fun v1 => ?_)
      refine kks hG rfl rfl ?_
      refine kk_ob (fun b2 eb2 => ?_)
      subst eb2
      refine kk_ia hG (a := b2) rfl (fun v3 => ?_)
      refine kk_ige hG (t := 182) rfl rfl ?_ ?_
      · refine kks hG rfl rfl ?_
        exact kk_ri hG rfl rfl rfl k
      refine kk_aln hG (x := p1) rfl rfl ?_
      refine kks hG rfl rfl ?_
      refine kk_ic hG rfl cc_i4 ?_
      refine kks hG rfl rfl ?_
      refine kks hG rfl rfl ?_
      refine kks hG rfl rfl ?_
      refine kk_ob (fun b4 eb4 => ?_)
      subst eb4
      refine kk_cx (w := .int) hG 0 rfl rfl (Nat.le_of_ble_eq_true rfl) (by decide) rfl (st' := []) rfl (cats_le (Nat.le_of_ble_eq_true rfl)) (fun _ hw h k => kk_rcv h.1 (kc_By_at base sa hw h.2 k)) (fun r5 sr5 cr5 dr5 => ?_)
      refine kk_aln hG (x := (some p0)) rfl rfl ?_
      refine kks hG rfl rfl ?_
      refine kks hG rfl rfl ?_
      refine kk_cx (w := .int) hG 0 rfl rfl (Nat.le_of_ble_eq_true rfl) (by decide) rfl (st' := [.int r5]) rfl (cats_le (Nat.le_of_ble_eq_true rfl)) (fun _ hw h k => kk_rcv h.1 (kc_Ch_sumByte base sa hw h.2 k)) (fun r6 sr6 cr6 dr6 => ?_)
      refine kk_ieq hG (t := 176) rfl rfl ?_ ?_
      · refine kk_inc hG (L' := [(5, .int (a5 + (1 : Int32))), (0, va_rf (some p0)), (1, va_rf (some b4)), (3, .int a3), (4, .int a4)]) rfl (Nat.le_of_ble_eq_true rfl) rfl cc_i1 rfl ?_
        refine kk_go hG (t := 142) rfl rfl ?_
        exact kk_wl hG [1, 2, 3, 4, 0] rfl (fun hw h => hP142 _ _ _ _ h hw)
      refine kk_ic hG rfl cc_im1 ?_
      exact kk_ri hG rfl rfl rfl k
    exact fun a5 s kc ks hw h => h (fun a5 s kc ks => cW sa R base s → G 142 [(0, va_rf (some p0)), (1, va_rf p1), (3, .int a3), (4, .int a4), (5, .int a5)] [] (cM R s) kc ks) (fun a5 s kc ks hs hw => H _ (fun _ _ _ _ hp hw => hp hw) a5 s kc ks hw hs) hw
  refine (show KK sa R base G 0 [(0, va_rf (some p0)), (1, va_rf p1), (2, .int p2)] [] s kc ks (C_Ch_keyOf sa p0 p1 p2 s kc ks Q) from ?_) hw h
  refine kk_aln hG (x := (some p0)) rfl rfl ?_
  refine kk_aln hG (x := p1) rfl rfl ?_
  refine kk_bi hG rfl cc_b10 ?_
  refine kk_ob (fun b1 eb1 => ?_)
  subst eb1
  refine kk_cx (w := .int) hG 0 rfl rfl (Nat.le_of_ble_eq_true rfl) (by decide) rfl (st' := [va_rf (some p0)]) rfl (cats_le (Nat.le_of_ble_eq_true rfl)) (fun _ hw h k => kk_rcv h.1 (kc_By_at base sa hw h.2 k)) (fun r2 sr2 cr2 dr2 => ?_)
  refine kks hG rfl rfl ?_
  refine kk_cx (w := .int) hG 0 rfl rfl (Nat.le_of_ble_eq_true rfl) (by decide) rfl (st' := []) rfl (cats_le (Nat.le_of_ble_eq_true rfl)) (fun _ hw h k => kk_rcv h.1 (kc_Ch_goodKey base sa hw h.2 k)) (fun r3 sr3 cr3 dr3 => ?_)
  refine kk_st hG (L' := [(3, .int r3), (0, va_rf (some p0)), (1, va_rf (some b1)), (2, .int p2)]) rfl rfl (Nat.le_of_ble_eq_true rfl) rfl ?_
  refine kks hG rfl rfl ?_
  refine kk_ic hG rfl cc_im1 ?_
  refine kk_ieq hG (t := 45) rfl rfl ?_ ?_
  · refine kk_ic hG rfl cc_im1 ?_
    exact kk_ri hG rfl rfl rfl k
  refine kk_aln hG (x := (some b1)) rfl rfl ?_
  refine kk_ic hG rfl cc_i4 ?_
  refine kk_ic hG rfl cc_i4 ?_
  refine kk_cx (w := .long) hG 0 rfl rfl (Nat.le_of_ble_eq_true rfl) (by decide) rfl (st' := []) rfl (cats_le (Nat.le_of_ble_eq_true rfl)) (fun _ hw h k => kk_rcv h.1 (kc_By_numberAt base sa hw h.2 k)) (fun r4 sr4 cr4 dr4 => ?_)
  refine kk_l2 hG (v := (4294901763 : Int64)) rfl rfl ?_
  refine kks hG rfl rfl ?_
  refine kk_lne hG (t := 45) rfl rfl ?_ ?_
  · refine kk_ic hG rfl cc_im1 ?_
    exact kk_ri hG rfl rfl rfl k
  refine kk_aln hG (x := (some b1)) rfl rfl ?_
  refine kk_bi hG rfl cc_b11 ?_
  refine kk_cx (w := .int) hG 0 rfl rfl (Nat.le_of_ble_eq_true rfl) (by decide) rfl (st' := []) rfl (cats_le (Nat.le_of_ble_eq_true rfl)) (fun _ hw h k => kk_rcv h.1 (kc_By_at base sa hw h.2 k)) (fun r5 sr5 cr5 dr5 => ?_)
  refine kk_aln hG (x := (some p0)) rfl rfl ?_
  refine kk_gp hG (c := 1) (k := 4) (a := p0) rfl rfl rfl rfl (fun v6 => ?_)
  refine kks hG rfl rfl ?_
  refine kk_ob (fun b7 eb7 => ?_)
  subst eb7
  refine kk_ia hG (a := b7) rfl (fun v8 => ?_)
  refine kk_ieq hG (t := 47) rfl rfl ?_ ?_
  · refine kk_aln hG (x := (some b1)) rfl rfl ?_
    refine kk_gi hG (c := 0) (k := 1) (a := b1) rfl rfl rfl rfl (fun v9 => ?_)
    refine kk_aln hG (x := (some p0)) rfl rfl ?_
    refine kks hG rfl rfl ?_
    refine kk_cx (w := .int) hG 0 rfl rfl (Nat.le_of_ble_eq_true rfl) (by decide) rfl (st' := [.int v9]) rfl (cats_le (Nat.le_of_ble_eq_true rfl)) (fun _ hw h k => kk_rcv h.1 (kc_Ch_endSize base sa hw h.2 k)) (fun r10 sr10 cr10 dr10 => ?_)
    refine kks hG rfl rfl ?_
    refine kk_st hG (L' := [(4, .int (v9 - r10)), (3, .int r3), (0, va_rf (some p0)), (1, va_rf (some b1)), (2, .int p2)]) rfl rfl (Nat.le_of_ble_eq_true rfl) rfl ?_
    refine kks hG rfl rfl ?_
    refine kk_bi hG rfl cc_b24 ?_
    refine kk_ilt hG (t := 127) rfl rfl ?_ ?_
    · refine kk_ic hG rfl cc_im1 ?_
      exact kk_ri hG rfl rfl rfl k
    refine kk_aln hG (x := (some b1)) rfl rfl ?_
    refine kk_bi hG rfl cc_b8 ?_
    refine kk_ic hG rfl cc_i2 ?_
    refine kk_cx (w := .long) hG 0 rfl rfl (Nat.le_of_ble_eq_true rfl) (by decide) rfl (st' := []) rfl (cats_le (Nat.le_of_ble_eq_true rfl)) (fun _ hw h k => kk_rcv h.1 (kc_By_numberAt base sa hw h.2 k)) (fun r11 sr11 cr11 dr11 => ?_)
    refine kks hG rfl rfl ?_
    refine kks hG rfl rfl ?_
    refine kks hG rfl rfl ?_
    refine kk_lne hG (t := 127) rfl rfl ?_ ?_
    · refine kk_ic hG rfl cc_im1 ?_
      exact kk_ri hG rfl rfl rfl k
    refine kk_aln hG (x := (some b1)) rfl rfl ?_
    refine kk_bi hG rfl cc_b16 ?_
    refine kk_bi hG rfl cc_b24 ?_
    refine kk_cx (w := .int) hG 0 rfl rfl (Nat.le_of_ble_eq_true rfl) (by decide) rfl (st' := []) rfl (cats_le (Nat.le_of_ble_eq_true rfl)) (fun _ hw h k => kk_rcv h.1 (kc_By_zerosAt base sa hw h.2 k)) (fun r12 sr12 cr12 dr12 => ?_)
    refine kk_zeq hG (t := 127) rfl rfl ?_ ?_
    · refine kk_ic hG rfl cc_im1 ?_
      exact kk_ri hG rfl rfl rfl k
    refine kk_aln hG (x := (some b1)) rfl rfl ?_
    refine kks hG rfl rfl ?_
    refine kk_ic hG rfl cc_i4 ?_
    refine kk_cx (w := .long) hG 0 rfl rfl (Nat.le_of_ble_eq_true rfl) (by decide) rfl (st' := []) rfl (cats_le (Nat.le_of_ble_eq_true rfl)) (fun _ hw h k => kk_rcv h.1 (kc_By_numberAt base sa hw h.2 k)) (fun r13 sr13 cr13 dr13 => ?_)
    refine kk_l2 hG (v := (4294901761 : Int64)) rfl rfl ?_
    refine kks hG rfl rfl ?_
    refine kk_lne hG (t := 127) rfl rfl ?_ ?_
    · refine kk_ic hG rfl cc_im1 ?_
      exact kk_ri hG rfl rfl rfl k
    refine kk_aln hG (x := (some b1)) rfl rfl ?_
    refine kks hG rfl rfl ?_
    refine kk_ic hG rfl cc_i4 ?_
    refine kks hG rfl rfl ?_
    refine kk_aln hG (x := (some p0)) rfl rfl ?_
    refine kk_gp hG (c := 1) (k := 4) (a := p0) rfl rfl rfl rfl (fun v14 => ?_)
    refine kks hG rfl rfl ?_
    refine kk_ob (fun b15 eb15 => ?_)
    subst eb15
    refine kk_ia hG (a := b15) rfl (fun v16 => ?_)
    refine kks hG rfl rfl ?_
    refine kk_aln hG (x := (some b1)) rfl rfl ?_
    refine kk_gi hG (c := 0) (k := 1) (a := b1) rfl rfl rfl rfl (fun v17 => ?_)
    refine kk_cx (w := .int) hG 0 rfl rfl (Nat.le_of_ble_eq_true rfl) (by decide) rfl (st' := []) rfl (cats_le (Nat.le_of_ble_eq_true rfl)) (fun _ hw h k => kk_rcv h.1 (kc_By_zerosAt base sa hw h.2 k)) (fun r18 sr18 cr18 dr18 => ?_)
    refine kk_zne hG (t := 129) rfl rfl ?_ ?_
    · refine kk_aln hG (x := (some p0)) rfl rfl ?_
      refine kk_aln hG (x := (some b1)) rfl rfl ?_
      refine kks hG rfl rfl ?_
      refine kk_ic hG rfl cc_i4 ?_
      refine kks hG rfl rfl ?_
      refine kks hG rfl rfl ?_
      refine kk_cv hG 0 rfl rfl (Nat.le_of_ble_eq_true rfl) (by decide) rfl (st' := []) rfl (cats_le (Nat.le_of_ble_eq_true rfl)) (fun _ hw h k => kk_rcv h.1 (kc_Ch_sum base sa hw h.2 k)) (fun sr19 cr19 dr19 => ?_)
      refine kk_ic hG rfl cc_i0 ?_
      refine kk_st hG (L' := [(5, .int (0 : Int32)), (4, .int (v9 - r10)), (3, .int r3), (0, va_rf (some p0)), (1, va_rf (some b1)), (2, .int p2)]) rfl rfl (Nat.le_of_ble_eq_true rfl) rfl ?_
      exact kk_wl hG [3, 4, 2, 1, 0] rfl (b142 _ _ _ _ _ _)
    refine kk_ic hG rfl cc_im1 ?_
    exact kk_ri hG rfl rfl rfl k
  refine kk_ic hG rfl cc_im1 ?_
  exact kk_ri hG rfl rfl rfl k
def C_Po_widened (sa : Nat → Nat) (p0 : Option Nat) (s : cS) (kc ks : Nat) (Q : (Option Nat → cS → Nat → Nat → Prop)) : Prop := ob p0 (fun b1 => (ob (aL s b1) (fun v2 => (nwA s kc ks .int (v2 * (2 : Int32)) (fun q3 sq3 cq3 dq3 => (ob (aL sq3 b1) (fun v4 => (ob (cpE sq3 b1 (0 : Int32) q3 (0 : Int32) v4) (fun s5 => (Q (some q3) s5 cq3 dq3))))))))))
set_option maxRecDepth 100000 in
set_option maxHeartbeats 4000000 in
theorem kc_Po_widened (base : Nat) (sa : Nat → Nat) {R : pmM} {s : cS} {kc ks : Nat} {Rt : pmR} {p0 : Option Nat} {Q : (Option Nat → cS → Nat → Nat → Prop)} (hw : cW sa R base s) (h : C_Po_widened sa p0 s kc ks Q) (k : ∀ r s' kc' ks', cW sa R base s' → Q r s' kc' ks' → Rt (some (va_rf r)) (cM R s') kc' ks') : kP_Po_widened base sa [va_rf p0] (cM R s) kc ks Rt := by
  refine ⟨by cases p0 <;> exact Nat.le_of_ble_eq_true rfl, fun G hG => ?_⟩
  have eL : lv_args 0 [va_rf p0] = [(0, va_rf p0)] := by cases p0 <;> rfl
  rw [eL]
  refine (show KK sa R base G 0 [(0, va_rf p0)] [] s kc ks (C_Po_widened sa p0 s kc ks Q) from ?_) hw h
  refine kk_aln hG (x := p0) rfl rfl ?_
  refine kk_ob (fun b1 eb1 => ?_)
  subst eb1
  refine kk_len hG (a := b1) rfl (fun v2 => ?_)
  refine kk_ic hG rfl cc_i2 ?_
  refine kks hG rfl rfl ?_
  refine kk_nar hG (ty := .int) rfl rfl rfl rfl (fun q3 sq3 cq3 dq3 => ?_)
  refine kk_asn hG (x := (some q3)) (L' := [(1, va_rf (some q3)), (0, va_rf (some b1))]) rfl (Nat.le_of_ble_eq_true rfl) rfl ?_
  refine kk_aln hG (x := (some b1)) rfl rfl ?_
  refine kk_ic hG rfl cc_i0 ?_
  refine kk_aln hG (x := (some q3)) rfl rfl ?_
  refine kk_ic hG rfl cc_i0 ?_
  refine kk_aln hG (x := (some b1)) rfl rfl ?_
  refine kk_len hG (a := b1) rfl (fun v4 => ?_)
  refine kk_acp hG (a := b1) (b := q3) rfl rfl (Nat.le_of_ble_eq_true rfl) (fun s5 => ?_)
  refine kk_aln hG (x := (some q3)) rfl rfl ?_
  exact kk_ra hG (x := (some q3)) rfl rfl rfl k
def C_Po_isFresh_b103 (sa : Nat → Nat) (p0 : Nat) (p2 : Int32) (a3 : Int32) (a4 : Int32) (s : cS) (kc ks : Nat) (Q : (Int32 → cS → Nat → Nat → Prop)) : Prop := ob (gP s 4 16 p0) (fun v1 => (ob v1 (fun b2 => (ob (wEi s b2 a4 a3) (fun s3 => (ob (gP s3 4 17 p0) (fun v4 => (ob v4 (fun b5 => (ob (wEi s3 b5 a4 p2) (fun s6 => (ob (gI s6 4 18 p0) (fun v7 => (ob (pI s6 4 18 p0 (mxI v7 (a4 + (1 : Int32)))) (fun s8 => (Q (1 : Int32) s8 kc ks))))))))))))))))
def C_Po_isFresh_b71 (sa : Nat → Nat) (p0 : Nat) (p2 : Int32) (a3 : Int32) (a4 : Int32) (s : cS) (kc ks : Nat) (Q : (Int32 → cS → Nat → Nat → Prop)) : Prop := ob (gP s 4 16 p0) (fun v1 => (ob v1 (fun b2 => (ob (aL s b2) (fun v3 => (if a4 < v3 then ((C_Po_isFresh_b103 sa p0 p2 a3 a4 s kc ks Q)) else (ob (gP s 4 16 p0) (fun v4 => (C_Po_widened sa v4 s kc ks (fun r5 sr5 cr5 dr5 => (ob (pP sr5 4 16 p0 r5) (fun s6 => (ob (gP s6 4 17 p0) (fun v7 => (C_Po_widened sa v7 s6 cr5 dr5 (fun r8 sr8 cr8 dr8 => (ob (pP sr8 4 17 p0 r8) (fun s9 => ((C_Po_isFresh_b103 sa p0 p2 a3 a4 s9 cr8 dr8 Q))))))))))))))))))))
def C_Po_isFresh_b38 (sa : Nat → Nat) (p0 : Nat) (p2 : Int32) (a3 : Int32) (a4 : Int32) (s : cS) (kc ks : Nat) (Q : (Int32 → cS → Nat → Nat → Prop)) : Prop := ob (gI s 4 18 p0) (fun v1 => (if a4 < v1 then (ob (gP s 4 17 p0) (fun v2 => (ob v2 (fun b3 => (ob (rE s .int b3 a4) (fun v4 => (if ((Int32.toInt64 p2) &&& (4294967295 : Int64)) < ((Int32.toInt64 v4) &&& (4294967295 : Int64)) then (Q (0 : Int32) s kc ks) else ((C_Po_isFresh_b71 sa p0 p2 a3 a4 s kc ks Q))))))))) else ((C_Po_isFresh_b71 sa p0 p2 a3 a4 s kc ks Q))))
def C_Po_isFresh_s12 (sa : Nat → Nat) (p0 : Nat) (p2 : Int32) (a3 : Int32) (a4 : Int32) (s : cS) (kc ks : Nat) (Q : (Int32 → cS → Nat → Nat → Prop)) (P12 : (Int32 → cS → Nat → Nat → Prop)) : Prop := ob (gI s 4 18 p0) (fun v1 => (if a4 < v1 then (ob (gP s 4 16 p0) (fun v2 => (ob v2 (fun b3 => (ob (rE s .int b3 a4) (fun v4 => (if v4 = a3 then ((C_Po_isFresh_b38 sa p0 p2 a3 a4 s kc ks Q)) else ((P12 (a4 + (1 : Int32)) s kc ks))))))))) else ((C_Po_isFresh_b38 sa p0 p2 a3 a4 s kc ks Q))))
def C_Po_isFresh_b12 (sa : Nat → Nat) (p0 : Nat) (p2 : Int32) (a3 : Int32) (a4 : Int32) (s : cS) (kc ks : Nat) (Q : (Int32 → cS → Nat → Nat → Prop)) : Prop := ∀ P12 : (Int32 → cS → Nat → Nat → Prop), (∀ (a4 : Int32) (s : cS) (kc ks : Nat), C_Po_isFresh_s12 sa p0 p2 a3 a4 s kc ks Q P12 → P12 a4 s kc ks) → P12 a4 s kc ks
def C_Po_isFresh (sa : Nat → Nat) (p0 : Nat) (p1 : Option Nat) (p2 : Int32) (s : cS) (kc ks : Nat) (Q : (Int32 → cS → Nat → Nat → Prop)) : Prop := ob p1 (fun b1 => (ob (gJ s 5 1 b1) (fun v2 => ((C_Po_isFresh_b12 sa p0 p2 (Int64.toInt32 (ush_L v2 (32 : Int32))) (0 : Int32) s kc ks Q)))))
set_option maxRecDepth 100000 in
set_option maxHeartbeats 4000000 in
theorem kc_Po_isFresh (base : Nat) (sa : Nat → Nat) {R : pmM} {s : cS} {kc ks : Nat} {Rt : pmR} {p0 : Nat} {p1 : Option Nat} {p2 : Int32} {Q : (Int32 → cS → Nat → Nat → Prop)} (hw : cW sa R base s) (h : C_Po_isFresh sa p0 p1 p2 s kc ks Q) (k : ∀ r s' kc' ks', cW sa R base s' → Q r s' kc' ks' → Rt (some (.int r)) (cM R s') kc' ks') : kP_Po_isFresh base sa [.ref p0, va_rf p1, .int p2] (cM R s) kc ks Rt := by
  refine ⟨by cases p1 <;> exact Nat.le_of_ble_eq_true rfl, fun G hG => ?_⟩
  have eL : lv_args 0 [.ref p0, va_rf p1, .int p2] = [(0, va_rf (some p0)), (1, va_rf p1), (2, .int p2)] := by cases p1 <;> rfl
  rw [eL]
  have b103 : ∀ (a3 : Int32) (a4 : Int32) (s : cS) (kc ks : Nat), KK sa R base G 103 [(0, va_rf (some p0)), (2, .int p2), (3, .int a3), (4, .int a4)] [] s kc ks (C_Po_isFresh_b103 sa p0 p2 a3 a4 s kc ks Q) := by
    intro a3 a4 s kc ks
    refine kk_aln hG (x := (some p0)) rfl rfl ?_
    refine kk_gp hG (c := 4) (k := 16) (a := p0) rfl rfl rfl rfl (fun v1 => ?_)
    refine kks hG rfl rfl ?_
    refine kks hG rfl rfl ?_
    refine kk_ob (fun b2 eb2 => ?_)
    subst eb2
    refine kk_is hG (a := b2) rfl (fun s3 => ?_)
    refine kk_aln hG (x := (some p0)) rfl rfl ?_
    refine kk_gp hG (c := 4) (k := 17) (a := p0) rfl rfl rfl rfl (fun v4 => ?_)
    refine kks hG rfl rfl ?_
    refine kks hG rfl rfl ?_
    refine kk_ob (fun b5 eb5 => ?_)
    subst eb5
    refine kk_is hG (a := b5) rfl (fun s6 => ?_)
    refine kk_aln hG (x := (some p0)) rfl rfl ?_
    refine kk_aln hG (x := (some p0)) rfl rfl ?_
    refine kk_gi hG (c := 4) (k := 18) (a := p0) rfl rfl rfl rfl (fun v7 => ?_)
    refine kks hG rfl rfl ?_
    refine kk_ic hG rfl cc_i1 ?_
    refine kks hG rfl rfl ?_
    refine kk_mx hG rfl rfl (Nat.le_of_ble_eq_true rfl) ?_
    refine kk_pi hG (c := 4) (k := 18) (a := p0) rfl rfl rfl rfl (fun s8 => ?_)
    refine kk_ic hG rfl cc_i1 ?_
    exact kk_ri hG rfl rfl rfl k
  have b71 : ∀ (a3 : Int32) (a4 : Int32) (s : cS) (kc ks : Nat), KK sa R base G 71 [(0, va_rf (some p0)), (2, .int p2), (3, .int a3), (4, .int a4)] [] s kc ks (C_Po_isFresh_b71 sa p0 p2 a3 a4 s kc ks Q) := by
    intro a3 a4 s kc ks
    refine kks hG rfl rfl ?_
    refine kk_aln hG (x := (some p0)) rfl rfl ?_
    refine kk_gp hG (c := 4) (k := 16) (a := p0) rfl rfl rfl rfl (fun v1 => ?_)
    refine kk_ob (fun b2 eb2 => ?_)
    subst eb2
    refine kk_len hG (a := b2) rfl (fun v3 => ?_)
    refine kk_ilt hG (t := 103) rfl rfl ?_ ?_
    · exact kk_wl hG [0, 1, 2, 3] rfl (b103 _ _ _ _ _)
    refine kk_aln hG (x := (some p0)) rfl rfl ?_
    refine kk_aln hG (x := (some p0)) rfl rfl ?_
    refine kk_gp hG (c := 4) (k := 16) (a := p0) rfl rfl rfl rfl (fun v4 => ?_)
    refine kk_cx (w := va_rf) hG 2 rfl rfl (Nat.le_of_ble_eq_true rfl) (by decide) rfl (st' := [va_rf (some p0)]) rfl (cats_le (Nat.le_of_ble_eq_true rfl)) (fun _ hw h k => kc_Po_widened base sa hw h k) (fun r5 sr5 cr5 dr5 => ?_)
    refine kk_pp hG (c := 4) (k := 16) (a := p0) (v := r5) rfl rfl rfl rfl rfl (fun s6 => ?_)
    refine kk_aln hG (x := (some p0)) rfl rfl ?_
    refine kk_aln hG (x := (some p0)) rfl rfl ?_
    refine kk_gp hG (c := 4) (k := 17) (a := p0) rfl rfl rfl rfl (fun v7 => ?_)
    refine kk_cx (w := va_rf) hG 2 rfl rfl (Nat.le_of_ble_eq_true rfl) (by decide) rfl (st' := [va_rf (some p0)]) rfl (cats_le (Nat.le_of_ble_eq_true rfl)) (fun _ hw h k => kc_Po_widened base sa hw h k) (fun r8 sr8 cr8 dr8 => ?_)
    refine kk_pp hG (c := 4) (k := 17) (a := p0) (v := r8) rfl rfl rfl rfl rfl (fun s9 => ?_)
    exact kk_wl hG [0, 1, 2, 3] rfl (b103 _ _ _ _ _)
  have b38 : ∀ (a3 : Int32) (a4 : Int32) (s : cS) (kc ks : Nat), KK sa R base G 38 [(0, va_rf (some p0)), (2, .int p2), (3, .int a3), (4, .int a4)] [] s kc ks (C_Po_isFresh_b38 sa p0 p2 a3 a4 s kc ks Q) := by
    intro a3 a4 s kc ks
    refine kks hG rfl rfl ?_
    refine kk_aln hG (x := (some p0)) rfl rfl ?_
    refine kk_gi hG (c := 4) (k := 18) (a := p0) rfl rfl rfl rfl (fun v1 => ?_)
    refine kk_ige hG (t := 71) rfl rfl ?_ ?_
    · exact kk_wl hG [0, 1, 2, 3] rfl (b71 _ _ _ _ _)
    refine kks hG rfl rfl ?_
    refine kks hG rfl rfl ?_
    refine kk_l2 hG (v := (4294967295 : Int64)) rfl rfl ?_
    refine kks hG rfl rfl ?_
    refine kk_aln hG (x := (some p0)) rfl rfl ?_
    refine kk_gp hG (c := 4) (k := 17) (a := p0) rfl rfl rfl rfl (fun v2 => ?_)
    refine kks hG rfl rfl ?_
    refine kk_ob (fun b3 eb3 => ?_)
    subst eb3
    refine kk_ia hG (a := b3) rfl (fun v4 => ?_)
    refine kks hG rfl rfl ?_
    refine kk_l2 hG (v := (4294967295 : Int64)) rfl rfl ?_
    refine kks hG rfl rfl ?_
    refine kks hG rfl rfl ?_
    refine kk_lge hG (t := 71) rfl rfl ?_ ?_
    · exact kk_wl hG [0, 1, 2, 3] rfl (b71 _ _ _ _ _)
    refine kk_ic hG rfl cc_i0 ?_
    exact kk_ri hG rfl rfl rfl k
  have b12 : ∀ (a3 : Int32) (a4 : Int32) (s : cS) (kc ks : Nat), KK sa R base G 12 [(0, va_rf (some p0)), (2, .int p2), (3, .int a3), (4, .int a4)] [] s kc ks (C_Po_isFresh_b12 sa p0 p2 a3 a4 s kc ks Q) := by
    intro a3
    have H : ∀ (P12 : (Int32 → cS → Nat → Nat → Prop)) (hP12 : ∀ (a4 : Int32) (s : cS) (kc ks : Nat), P12 a4 s kc ks → cW sa R base s → G 12 [(0, va_rf (some p0)), (2, .int p2), (3, .int a3), (4, .int a4)] [] (cM R s) kc ks) (a4 : Int32) (s : cS) (kc ks : Nat), KK sa R base G 12 [(0, va_rf (some p0)), (2, .int p2), (3, .int a3), (4, .int a4)] [] s kc ks (C_Po_isFresh_s12 sa p0 p2 a3 a4 s kc ks Q P12) := by
      intro P12 hP12
      intro a4 s kc ks
      refine kks hG rfl rfl ?_
      refine kk_aln hG (x := (some p0)) rfl rfl ?_
      refine kk_gi hG (c := 4) (k := 18) (a := p0) rfl rfl rfl rfl (fun v1 => ?_)
      refine kk_ige hG (t := 38) rfl rfl ?_ ?_
      · exact kk_wl hG [0, 1, 2, 3] rfl (b38 _ _ _ _ _)
      refine kk_aln hG (x := (some p0)) rfl rfl ?_
      refine kk_gp hG (c := 4) (k := 16) (a := p0) rfl rfl rfl rfl (fun v2 => ?_)
      refine kks hG rfl rfl ?_
      refine kk_ob (fun b3 eb3 => ?_)
      subst eb3
      refine kk_ia hG (a := b3) rfl (fun v4 => ?_)
      refine kks hG rfl rfl ?_
      refine kk_ieq hG (t := 38) rfl rfl ?_ ?_
      · exact kk_wl hG [0, 1, 2, 3] rfl (b38 _ _ _ _ _)
      refine kk_inc hG (L' := [(4, .int (a4 + (1 : Int32))), (0, va_rf (some p0)), (2, .int p2), (3, .int a3)]) rfl (Nat.le_of_ble_eq_true rfl) rfl cc_i1 rfl ?_
      refine kk_go hG (t := 12) rfl rfl ?_
      exact kk_wl hG [1, 2, 3, 0] rfl (fun hw h => hP12 _ _ _ _ h hw)
    exact fun a4 s kc ks hw h => h (fun a4 s kc ks => cW sa R base s → G 12 [(0, va_rf (some p0)), (2, .int p2), (3, .int a3), (4, .int a4)] [] (cM R s) kc ks) (fun a4 s kc ks hs hw => H _ (fun _ _ _ _ hp hw => hp hw) a4 s kc ks hw hs) hw
  refine (show KK sa R base G 0 [(0, va_rf (some p0)), (1, va_rf p1), (2, .int p2)] [] s kc ks (C_Po_isFresh sa p0 p1 p2 s kc ks Q) from ?_) hw h
  refine kk_aln hG (x := p1) rfl rfl ?_
  refine kk_ob (fun b1 eb1 => ?_)
  subst eb1
  refine kk_gj hG (c := 5) (k := 1) (a := b1) rfl rfl rfl rfl (fun v2 => ?_)
  refine kk_bi hG rfl cc_b32 ?_
  refine kks hG rfl rfl ?_
  refine kks hG rfl rfl ?_
  refine kk_st hG (L' := [(3, .int (Int64.toInt32 (ush_L v2 (32 : Int32)))), (0, va_rf (some p0)), (1, va_rf (some b1)), (2, .int p2)]) rfl rfl (Nat.le_of_ble_eq_true rfl) rfl ?_
  refine kk_ic hG rfl cc_i0 ?_
  refine kk_st hG (L' := [(4, .int (0 : Int32)), (3, .int (Int64.toInt32 (ush_L v2 (32 : Int32)))), (0, va_rf (some p0)), (1, va_rf (some b1)), (2, .int p2)]) rfl rfl (Nat.le_of_ble_eq_true rfl) rfl ?_
  exact kk_wl hG [2, 4, 1, 0] rfl (b12 _ _ _ _ _)
def C_Ch_isPasswordEntry_s2 (sa : Nat → Nat) (p0 : Nat) (p1 : Option Nat) (a2 : Int32) (s : cS) (kc ks : Nat) (Q : (Int32 → cS → Nat → Nat → Prop)) (P2 : (Int32 → cS → Nat → Nat → Prop)) : Prop := if a2 < (16 : Int32) then (ob p1 (fun b3 => (okO s 0 b3 ∧ C_By_at sa b3 ((8 : Int32) + a2) s kc ks (fun r4 sr4 cr4 dr4 => (ob (gP sr4 1 1 p0) (fun v5 => (ob v5 (fun b6 => (ob (rE sr4 .byte b6 a2) (fun v7 => (if r4 = v7 then ((P2 (a2 + (1 : Int32)) sr4 cr4 dr4)) else ((Q (0 : Int32) sr4 cr4 dr4))))))))))))) else ((ob p1 (fun b1 => (okO s 0 b1 ∧ C_By_numberAt sa b1 (4 : Int32) (4 : Int32) s kc ks (fun r2 sr2 cr2 dr2 => (if r2 = (4294901762 : Int64) then (Q (1 : Int32) sr2 cr2 dr2) else (Q (0 : Int32) sr2 cr2 dr2)))))))
def C_Ch_isPasswordEntry_b2 (sa : Nat → Nat) (p0 : Nat) (p1 : Option Nat) (a2 : Int32) (s : cS) (kc ks : Nat) (Q : (Int32 → cS → Nat → Nat → Prop)) : Prop := ∀ P2 : (Int32 → cS → Nat → Nat → Prop), (∀ (a2 : Int32) (s : cS) (kc ks : Nat), C_Ch_isPasswordEntry_s2 sa p0 p1 a2 s kc ks Q P2 → P2 a2 s kc ks) → P2 a2 s kc ks
def C_Ch_isPasswordEntry (sa : Nat → Nat) (p0 : Nat) (p1 : Option Nat) (s : cS) (kc ks : Nat) (Q : (Int32 → cS → Nat → Nat → Prop)) : Prop := (C_Ch_isPasswordEntry_b2 sa p0 p1 (0 : Int32) s kc ks Q)
set_option maxRecDepth 100000 in
set_option maxHeartbeats 4000000 in
theorem kc_Ch_isPasswordEntry (base : Nat) (sa : Nat → Nat) {R : pmM} {s : cS} {kc ks : Nat} {Rt : pmR} {p0 : Nat} {p1 : Option Nat} {Q : (Int32 → cS → Nat → Nat → Prop)} (hw : cW sa R base s) (h : C_Ch_isPasswordEntry sa p0 p1 s kc ks Q) (k : ∀ r s' kc' ks', cW sa R base s' → Q r s' kc' ks' → Rt (some (.int r)) (cM R s') kc' ks') : kP_Ch_isPasswordEntry base sa [.ref p0, va_rf p1] (cM R s) kc ks Rt := by
  refine ⟨by cases p1 <;> exact Nat.le_of_ble_eq_true rfl, fun G hG => ?_⟩
  have eL : lv_args 0 [.ref p0, va_rf p1] = [(0, va_rf (some p0)), (1, va_rf p1)] := by cases p1 <;> rfl
  rw [eL]
  have b2 : ∀ (a2 : Int32) (s : cS) (kc ks : Nat), KK sa R base G 2 [(0, va_rf (some p0)), (1, va_rf p1), (2, .int a2)] [] s kc ks (C_Ch_isPasswordEntry_b2 sa p0 p1 a2 s kc ks Q) := by
    have H : ∀ (P2 : (Int32 → cS → Nat → Nat → Prop)) (hP2 : ∀ (a2 : Int32) (s : cS) (kc ks : Nat), P2 a2 s kc ks → cW sa R base s → G 2 [(0, va_rf (some p0)), (1, va_rf p1), (2, .int a2)] [] (cM R s) kc ks) (a2 : Int32) (s : cS) (kc ks : Nat), KK sa R base G 2 [(0, va_rf (some p0)), (1, va_rf p1), (2, .int a2)] [] s kc ks (C_Ch_isPasswordEntry_s2 sa p0 p1 a2 s kc ks Q P2) := by
      intro P2 hP2
      intro a2 s kc ks
      refine kks hG rfl rfl ?_
      refine kk_bi hG rfl cc_b16 ?_
      refine kk_ige hG (t := 33) rfl rfl ?_ ?_
      · refine kk_aln hG (x := p1) rfl rfl ?_
        refine kk_ic hG rfl cc_i4 ?_
        refine kk_ic hG rfl cc_i4 ?_
        refine kk_ob (fun b1 eb1 => ?_)
        subst eb1
        refine kk_cx (w := .long) hG 0 rfl rfl (Nat.le_of_ble_eq_true rfl) (by decide) rfl (st' := []) rfl (cats_le (Nat.le_of_ble_eq_true rfl)) (fun _ hw h k => kk_rcv h.1 (kc_By_numberAt base sa hw h.2 k)) (fun r2 sr2 cr2 dr2 => ?_)
        refine kk_l2 hG (v := (4294901762 : Int64)) rfl rfl ?_
        refine kks hG rfl rfl ?_
        refine kk_lne hG (t := 50) rfl rfl ?_ ?_
        · refine kk_ic hG rfl cc_i0 ?_
          exact kk_ri hG rfl rfl rfl k
        refine kk_ic hG rfl cc_i1 ?_
        refine kk_go hG (t := 51) rfl rfl ?_
        exact kk_ri hG rfl rfl rfl k
      refine kk_aln hG (x := p1) rfl rfl ?_
      refine kk_bi hG rfl cc_b8 ?_
      refine kks hG rfl rfl ?_
      refine kks hG rfl rfl ?_
      refine kk_ob (fun b3 eb3 => ?_)
      subst eb3
      refine kk_cx (w := .int) hG 0 rfl rfl (Nat.le_of_ble_eq_true rfl) (by decide) rfl (st' := []) rfl (cats_le (Nat.le_of_ble_eq_true rfl)) (fun _ hw h k => kk_rcv h.1 (kc_By_at base sa hw h.2 k)) (fun r4 sr4 cr4 dr4 => ?_)
      refine kk_aln hG (x := (some p0)) rfl rfl ?_
      refine kk_gp hG (c := 1) (k := 1) (a := p0) rfl rfl rfl rfl (fun v5 => ?_)
      refine kks hG rfl rfl ?_
      refine kk_ob (fun b6 eb6 => ?_)
      subst eb6
      refine kk_ba hG (a := b6) rfl (fun v7 => ?_)
      refine kk_ieq hG (t := 27) rfl rfl ?_ ?_
      · refine kk_inc hG (L' := [(2, .int (a2 + (1 : Int32))), (0, va_rf (some p0)), (1, va_rf (some b3))]) rfl (Nat.le_of_ble_eq_true rfl) rfl cc_i1 rfl ?_
        refine kk_go hG (t := 2) rfl rfl ?_
        exact kk_wl hG [1, 2, 0] rfl (fun hw h => hP2 _ _ _ _ h hw)
      refine kk_ic hG rfl cc_i0 ?_
      exact kk_ri hG rfl rfl rfl k
    exact fun a2 s kc ks hw h => h (fun a2 s kc ks => cW sa R base s → G 2 [(0, va_rf (some p0)), (1, va_rf p1), (2, .int a2)] [] (cM R s) kc ks) (fun a2 s kc ks hs hw => H _ (fun _ _ _ _ hp hw => hp hw) a2 s kc ks hw hs) hw
  refine (show KK sa R base G 0 [(0, va_rf (some p0)), (1, va_rf p1)] [] s kc ks (C_Ch_isPasswordEntry sa p0 p1 s kc ks Q) from ?_) hw h
  refine kk_ic hG rfl cc_i0 ?_
  refine kk_st hG (L' := [(2, .int (0 : Int32)), (0, va_rf (some p0)), (1, va_rf p1)]) rfl rfl (Nat.le_of_ble_eq_true rfl) (by cases p1 <;> rfl) ?_
  exact kk_wl hG [1, 2, 0] rfl (b2 _ _ _ _)
def C_Po_opens (sa : Nat → Nat) (p0 : Nat) (p1 : Option Nat) (p2 : Int32) (s : cS) (kc ks : Nat) (Q : (Int32 → cS → Nat → Nat → Prop)) : Prop := ob p1 (fun b1 => (ob (gP s 2 0 b1) (fun v2 => (ob (gP s 4 6 p0) (fun v3 => (ob v3 (fun b4 => (ob (gI s 1 2 b4) (fun v5 => (if 0 < v5 then (ob (gP s 4 6 p0) (fun v15 => (ob v15 (fun b16 => (okO s 1 b16 ∧ C_Ch_keyOf sa b16 v2 p2 s kc ks (fun r17 sr17 cr17 dr17 => (if r17 = ((-1) : Int32) then (Q (0 : Int32) sr17 cr17 dr17) else (ob (gP sr17 2 1 b1) (fun v18 => (ob v2 (fun b19 => (okO sr17 0 b19 ∧ C_By_numberAt sa b19 (12 : Int32) (4 : Int32) sr17 cr17 dr17 (fun r20 sr20 cr20 dr20 => (okO sr20 4 p0 ∧ C_Po_isFresh sa p0 v18 (Int64.toInt32 r20) sr20 cr20 dr20 (fun r21 sr21 cr21 dr21 => (if r21 = 0 then (Q (0 : Int32) sr21 cr21 dr21) else (ob (pI sr21 2 10 b1 (24 : Int32)) (fun s22 => (ob (gI s22 0 1 b19) (fun v23 => (ob (gP s22 4 6 p0) (fun v24 => (ob v24 (fun b25 => (okO s22 1 b25 ∧ C_Ch_endSize sa b25 r17 s22 cr21 dr21 (fun r26 sr26 cr26 dr26 => (ob (pI sr26 2 11 b1 (v23 - r26)) (fun s27 => (Q (1 : Int32) s27 cr26 dr26))))))))))))))))))))))))))))) else (ob (gP s 4 6 p0) (fun v6 => (ob v6 (fun b7 => (ob (gI s 1 0 b7) (fun v8 => (if v8 = 0 then (ob v2 (fun b9 => (okO s 0 b9 ∧ C_By_numberAt sa b9 (4 : Int32) (2 : Int32) s kc ks (fun r10 sr10 cr10 dr10 => (if r10 = (65535 : Int64) then (Q (0 : Int32) sr10 cr10 dr10) else (Q (1 : Int32) sr10 cr10 dr10)))))) else (ob (pI s 2 10 b1 (24 : Int32)) (fun s11 => (ob (gP s11 4 6 p0) (fun v12 => (ob v12 (fun b13 => (okO s11 1 b13 ∧ C_Ch_isPasswordEntry sa b13 v2 s11 kc ks (fun r14 sr14 cr14 dr14 => ((r14 = 0 ∨ r14 = 1) ∧ Q r14 sr14 cr14 dr14))))))))))))))))))))))))))
set_option maxRecDepth 100000 in
set_option maxHeartbeats 4000000 in
theorem kc_Po_opens (base : Nat) (sa : Nat → Nat) {R : pmM} {s : cS} {kc ks : Nat} {Rt : pmR} {p0 : Nat} {p1 : Option Nat} {p2 : Int32} {Q : (Int32 → cS → Nat → Nat → Prop)} (hw : cW sa R base s) (h : C_Po_opens sa p0 p1 p2 s kc ks Q) (k : ∀ r s' kc' ks', cW sa R base s' → Q r s' kc' ks' → Rt (some (.int r)) (cM R s') kc' ks') : kP_Po_opens base sa [.ref p0, va_rf p1, .int p2] (cM R s) kc ks Rt := by
  refine ⟨by cases p1 <;> exact Nat.le_of_ble_eq_true rfl, fun G hG => ?_⟩
  have eL : lv_args 0 [.ref p0, va_rf p1, .int p2] = [(0, va_rf (some p0)), (1, va_rf p1), (2, .int p2)] := by cases p1 <;> rfl
  rw [eL]
  refine (show KK sa R base G 0 [(0, va_rf (some p0)), (1, va_rf p1), (2, .int p2)] [] s kc ks (C_Po_opens sa p0 p1 p2 s kc ks Q) from ?_) hw h
  refine kk_aln hG (x := p1) rfl rfl ?_
  refine kk_ob (fun b1 eb1 => ?_)
  subst eb1
  refine kk_gp hG (c := 2) (k := 0) (a := b1) rfl rfl rfl rfl (fun v2 => ?_)
  refine kk_asn hG (x := v2) (L' := [(3, va_rf v2), (0, va_rf (some p0)), (1, va_rf (some b1)), (2, .int p2)]) rfl (Nat.le_of_ble_eq_true rfl) rfl ?_
  refine kk_aln hG (x := (some p0)) rfl rfl ?_
  refine kk_gp hG (c := 4) (k := 6) (a := p0) rfl rfl rfl rfl (fun v3 => ?_)
  refine kk_ob (fun b4 eb4 => ?_)
  subst eb4
  refine kk_gi hG (c := 1) (k := 2) (a := b4) rfl rfl rfl rfl (fun v5 => ?_)
  refine kk_zle hG (t := 79) rfl rfl ?_ ?_
  · refine kk_aln hG (x := (some p0)) rfl rfl ?_
    refine kk_gp hG (c := 4) (k := 6) (a := p0) rfl rfl rfl rfl (fun v6 => ?_)
    refine kk_ob (fun b7 eb7 => ?_)
    subst eb7
    refine kk_gi hG (c := 1) (k := 0) (a := b7) rfl rfl rfl rfl (fun v8 => ?_)
    refine kk_zeq hG (t := 104) rfl rfl ?_ ?_
    · refine kk_aln hG (x := v2) rfl rfl ?_
      refine kk_ic hG rfl cc_i4 ?_
      refine kk_ic hG rfl cc_i2 ?_
      refine kk_ob (fun b9 eb9 => ?_)
      subst eb9
      refine kk_cx (w := .long) hG 0 rfl rfl (Nat.le_of_ble_eq_true rfl) (by decide) rfl (st' := []) rfl (cats_le (Nat.le_of_ble_eq_true rfl)) (fun _ hw h k => kk_rcv h.1 (kc_By_numberAt base sa hw h.2 k)) (fun r10 sr10 cr10 dr10 => ?_)
      refine kk_l2 hG (v := (65535 : Int64)) rfl rfl ?_
      refine kks hG rfl rfl ?_
      refine kk_leq hG (t := 121) rfl rfl ?_ ?_
      · refine kk_ic hG rfl cc_i0 ?_
        exact kk_ri hG rfl rfl rfl k
      refine kk_ic hG rfl cc_i1 ?_
      refine kk_go hG (t := 122) rfl rfl ?_
      exact kk_ri hG rfl rfl rfl k
    refine kk_aln hG (x := (some b1)) rfl rfl ?_
    refine kk_bi hG rfl cc_b24 ?_
    refine kk_pi hG (c := 2) (k := 10) (a := b1) rfl rfl rfl rfl (fun s11 => ?_)
    refine kk_aln hG (x := (some p0)) rfl rfl ?_
    refine kk_gp hG (c := 4) (k := 6) (a := p0) rfl rfl rfl rfl (fun v12 => ?_)
    refine kk_aln hG (x := v2) rfl rfl ?_
    refine kk_ob (fun b13 eb13 => ?_)
    subst eb13
    refine kk_cx (w := .int) hG 0 rfl rfl (Nat.le_of_ble_eq_true rfl) (by decide) rfl (st' := []) rfl (cats_le (Nat.le_of_ble_eq_true rfl)) (fun _ hw h k => kk_rcv h.1 (kc_Ch_isPasswordEntry base sa hw h.2 k)) (fun r14 sr14 cr14 dr14 => ?_)
    exact kk_rz hG rfl rfl k
  refine kk_aln hG (x := (some p0)) rfl rfl ?_
  refine kk_gp hG (c := 4) (k := 6) (a := p0) rfl rfl rfl rfl (fun v15 => ?_)
  refine kk_aln hG (x := v2) rfl rfl ?_
  refine kks hG rfl rfl ?_
  refine kk_ob (fun b16 eb16 => ?_)
  subst eb16
  refine kk_cx (w := .int) hG 0 rfl rfl (Nat.le_of_ble_eq_true rfl) (by decide) rfl (st' := []) rfl (cats_le (Nat.le_of_ble_eq_true rfl)) (fun _ hw h k => kk_rcv h.1 (kc_Ch_keyOf base sa hw h.2 k)) (fun r17 sr17 cr17 dr17 => ?_)
  refine kk_st hG (L' := [(4, .int r17), (3, va_rf v2), (0, va_rf (some p0)), (1, va_rf (some b1)), (2, .int p2)]) rfl rfl (Nat.le_of_ble_eq_true rfl) (by cases v2 <;> rfl) ?_
  refine kks hG rfl rfl ?_
  refine kk_ic hG rfl cc_im1 ?_
  refine kk_ieq hG (t := 51) rfl rfl ?_ ?_
  · refine kk_ic hG rfl cc_i0 ?_
    exact kk_ri hG rfl rfl rfl k
  refine kk_aln hG (x := (some p0)) rfl rfl ?_
  refine kk_aln hG (x := (some b1)) rfl rfl ?_
  refine kk_gp hG (c := 2) (k := 1) (a := b1) rfl rfl rfl rfl (fun v18 => ?_)
  refine kk_aln hG (x := v2) rfl rfl ?_
  refine kk_bi hG rfl cc_b12 ?_
  refine kk_ic hG rfl cc_i4 ?_
  refine kk_ob (fun b19 eb19 => ?_)
  subst eb19
  refine kk_cx (w := .long) hG 0 rfl rfl (Nat.le_of_ble_eq_true rfl) (by decide) rfl (st' := [va_rf v18, va_rf (some p0)]) rfl (cats_le (Nat.le_of_ble_eq_true rfl)) (fun _ hw h k => kk_rcv h.1 (kc_By_numberAt base sa hw h.2 k)) (fun r20 sr20 cr20 dr20 => ?_)
  refine kks hG rfl rfl ?_
  refine kk_cx (w := .int) hG 0 rfl rfl (Nat.le_of_ble_eq_true rfl) (by decide) rfl (st' := []) rfl (cats_le (Nat.le_of_ble_eq_true rfl)) (fun _ hw h k => kk_rcv h.1 (kc_Po_isFresh base sa hw h.2 k)) (fun r21 sr21 cr21 dr21 => ?_)
  refine kk_zne hG (t := 53) rfl rfl ?_ ?_
  · refine kk_aln hG (x := (some b1)) rfl rfl ?_
    refine kk_bi hG rfl cc_b24 ?_
    refine kk_pi hG (c := 2) (k := 10) (a := b1) rfl rfl rfl rfl (fun s22 => ?_)
    refine kk_aln hG (x := (some b1)) rfl rfl ?_
    refine kk_aln hG (x := (some b19)) rfl rfl ?_
    refine kk_gi hG (c := 0) (k := 1) (a := b19) rfl rfl rfl rfl (fun v23 => ?_)
    refine kk_aln hG (x := (some p0)) rfl rfl ?_
    refine kk_gp hG (c := 4) (k := 6) (a := p0) rfl rfl rfl rfl (fun v24 => ?_)
    refine kks hG rfl rfl ?_
    refine kk_ob (fun b25 eb25 => ?_)
    subst eb25
    refine kk_cx (w := .int) hG 0 rfl rfl (Nat.le_of_ble_eq_true rfl) (by decide) rfl (st' := [.int v23, va_rf (some b1)]) rfl (cats_le (Nat.le_of_ble_eq_true rfl)) (fun _ hw h k => kk_rcv h.1 (kc_Ch_endSize base sa hw h.2 k)) (fun r26 sr26 cr26 dr26 => ?_)
    refine kks hG rfl rfl ?_
    refine kk_pi hG (c := 2) (k := 11) (a := b1) rfl rfl rfl rfl (fun s27 => ?_)
    refine kk_ic hG rfl cc_i1 ?_
    exact kk_ri hG rfl rfl rfl k
  refine kk_ic hG rfl cc_i0 ?_
  exact kk_ri hG rfl rfl rfl k
