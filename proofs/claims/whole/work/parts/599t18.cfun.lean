/-! Methods as weakest preconditions, by program: Po_entryRoom .. Da_takePrefix -/
def C_Po_entryRoom_b77 (sa : Nat → Nat) (a3 : Int32) (a4 : Int32) (s : cS) (kc ks : Nat) (Q : (Int32 → cS → Nat → Nat → Prop)) : Prop := Q (mxI (1 : Int32) (mnI a3 (a4 / (20 : Int32)))) s kc ks
def C_Po_entryRoom_b38 (sa : Nat → Nat) (p0 : Nat) (p1 : Int32) (p2 : Int32) (a3 : Int32) (a4 : Int32) (s : cS) (kc ks : Nat) (Q : (Int32 → cS → Nat → Nat → Prop)) : Prop := if p1 = (4 : Int32) then (if p2 < 0 then ((C_Po_entryRoom_b77 sa a3 a4 s kc ks Q)) else (ob (gP s 4 6 p0) (fun v1 => (ob v1 (fun b2 => (okO s 1 b2 ∧ C_Ch_endSize sa b2 p2 s kc ks (fun r3 sr3 cr3 dr3 => (ob (gP sr3 4 6 p0) (fun v4 => (ob v4 (fun b5 => (okO sr3 1 b5 ∧ C_Ch_endSize sa b5 p2 sr3 cr3 dr3 (fun r6 sr6 cr6 dr6 => ((C_Po_entryRoom_b77 sa (a3 - (r3 / (20 : Int32))) (a4 - ((20 : Int32) + r6)) sr6 cr6 dr6 Q))))))))))))))) else ((C_Po_entryRoom_b77 sa a3 a4 s kc ks Q))
def C_Po_entryRoom (sa : Nat → Nat) (p0 : Nat) (p1 : Int32) (p2 : Int32) (s : cS) (kc ks : Nat) (Q : (Int32 → cS → Nat → Nat → Prop)) : Prop := ob (gP s 4 0 p0) (fun v1 => (ob v1 (fun b2 => (ob (gI s 3 3 b2) (fun v3 => (if p1 = (4 : Int32) then (ob (gP s 4 6 p0) (fun v4 => (ob v4 (fun b5 => (ob (gI s 1 0 b5) (fun v6 => (if v6 = 0 then ((C_Po_entryRoom_b38 sa p0 p1 p2 (25 : Int32) (v3 - (4 : Int32)) s kc ks Q)) else ((C_Po_entryRoom_b77 sa ((25 : Int32) + ((-1) : Int32)) ((v3 - (4 : Int32)) + ((-20) : Int32)) s kc ks Q))))))))) else ((C_Po_entryRoom_b38 sa p0 p1 p2 (25 : Int32) (v3 - (4 : Int32)) s kc ks Q))))))))
set_option maxRecDepth 100000 in
set_option maxHeartbeats 4000000 in
theorem kc_Po_entryRoom (base : Nat) (sa : Nat → Nat) {R : pmM} {s : cS} {kc ks : Nat} {Rt : pmR} {p0 : Nat} {p1 : Int32} {p2 : Int32} {Q : (Int32 → cS → Nat → Nat → Prop)} (hw : cW sa R base s) (h : C_Po_entryRoom sa p0 p1 p2 s kc ks Q) (k : ∀ r s' kc' ks', cW sa R base s' → Q r s' kc' ks' → Rt (some (.int r)) (cM R s') kc' ks') : kP_Po_entryRoom base sa [.ref p0, .int p1, .int p2] (cM R s) kc ks Rt := by
  refine ⟨Nat.le_of_ble_eq_true rfl, fun G hG => ?_⟩
  have b77 : ∀ (a3 : Int32) (a4 : Int32) (s : cS) (kc ks : Nat), KK sa R base G 77 [(3, .int a3), (4, .int a4)] [] s kc ks (C_Po_entryRoom_b77 sa a3 a4 s kc ks Q) := by
    intro a3 a4 s kc ks
    refine kk_ic hG rfl cc_i1 ?_
    refine kks hG rfl rfl ?_
    refine kks hG rfl rfl ?_
    refine kk_bi hG rfl cc_b20 ?_
    refine kkc hG rfl rfl (by decide) ?_
    refine kk_mn hG rfl rfl (Nat.le_of_ble_eq_true rfl) ?_
    refine kk_mx hG rfl rfl (Nat.le_of_ble_eq_true rfl) ?_
    exact kk_ri hG rfl rfl rfl k
  have b38 : ∀ (a3 : Int32) (a4 : Int32) (s : cS) (kc ks : Nat), KK sa R base G 38 [(0, va_rf (some p0)), (1, .int p1), (2, .int p2), (3, .int a3), (4, .int a4)] [] s kc ks (C_Po_entryRoom_b38 sa p0 p1 p2 a3 a4 s kc ks Q) := by
    intro a3 a4 s kc ks
    refine kks hG rfl rfl ?_
    refine kk_ic hG rfl cc_i4 ?_
    refine kk_ine hG (t := 77) rfl rfl ?_ ?_
    · exact kk_wl hG [3, 4] rfl (b77 _ _ _ _ _)
    refine kks hG rfl rfl ?_
    refine kk_zlt hG (t := 77) rfl rfl ?_ ?_
    · exact kk_wl hG [3, 4] rfl (b77 _ _ _ _ _)
    refine kks hG rfl rfl ?_
    refine kk_aln hG (x := (some p0)) rfl rfl ?_
    refine kk_gp hG (c := 4) (k := 6) (a := p0) rfl rfl rfl rfl (fun v1 => ?_)
    refine kks hG rfl rfl ?_
    refine kk_ob (fun b2 eb2 => ?_)
    subst eb2
    refine kk_cx (w := .int) hG 0 rfl rfl (Nat.le_of_ble_eq_true rfl) (by decide) rfl (st' := [.int a3]) rfl (cats_le (Nat.le_of_ble_eq_true rfl)) (fun _ hw h k => kk_rcv h.1 (kc_Ch_endSize base sa hw h.2 k)) (fun r3 sr3 cr3 dr3 => ?_)
    refine kk_bi hG rfl cc_b20 ?_
    refine kkc hG rfl rfl (by decide) ?_
    refine kks hG rfl rfl ?_
    refine kk_st hG (L' := [(3, .int (a3 - (r3 / (20 : Int32)))), (0, va_rf (some p0)), (1, .int p1), (2, .int p2), (4, .int a4)]) rfl rfl (Nat.le_of_ble_eq_true rfl) rfl ?_
    refine kks hG rfl rfl ?_
    refine kk_bi hG rfl cc_b20 ?_
    refine kk_aln hG (x := (some p0)) rfl rfl ?_
    refine kk_gp hG (c := 4) (k := 6) (a := p0) rfl rfl rfl rfl (fun v4 => ?_)
    refine kks hG rfl rfl ?_
    refine kk_ob (fun b5 eb5 => ?_)
    subst eb5
    refine kk_cx (w := .int) hG 0 rfl rfl (Nat.le_of_ble_eq_true rfl) (by decide) rfl (st' := [.int (20 : Int32), .int a4]) rfl (cats_le (Nat.le_of_ble_eq_true rfl)) (fun _ hw h k => kk_rcv h.1 (kc_Ch_endSize base sa hw h.2 k)) (fun r6 sr6 cr6 dr6 => ?_)
    refine kks hG rfl rfl ?_
    refine kks hG rfl rfl ?_
    refine kk_st hG (L' := [(4, .int (a4 - ((20 : Int32) + r6))), (3, .int (a3 - (r3 / (20 : Int32)))), (0, va_rf (some p0)), (1, .int p1), (2, .int p2)]) rfl rfl (Nat.le_of_ble_eq_true rfl) rfl ?_
    exact kk_wl hG [1, 0] rfl (b77 _ _ _ _ _)
  refine (show KK sa R base G 0 [(0, va_rf (some p0)), (1, .int p1), (2, .int p2)] [] s kc ks (C_Po_entryRoom sa p0 p1 p2 s kc ks Q) from ?_) hw h
  refine kk_bi hG rfl cc_b25 ?_
  refine kk_st hG (L' := [(3, .int (25 : Int32)), (0, va_rf (some p0)), (1, .int p1), (2, .int p2)]) rfl rfl (Nat.le_of_ble_eq_true rfl) rfl ?_
  refine kk_aln hG (x := (some p0)) rfl rfl ?_
  refine kk_gp hG (c := 4) (k := 0) (a := p0) rfl rfl rfl rfl (fun v1 => ?_)
  refine kk_ob (fun b2 eb2 => ?_)
  subst eb2
  refine kk_gi hG (c := 3) (k := 3) (a := b2) rfl rfl rfl rfl (fun v3 => ?_)
  refine kk_ic hG rfl cc_i4 ?_
  refine kks hG rfl rfl ?_
  refine kk_st hG (L' := [(4, .int (v3 - (4 : Int32))), (3, .int (25 : Int32)), (0, va_rf (some p0)), (1, .int p1), (2, .int p2)]) rfl rfl (Nat.le_of_ble_eq_true rfl) rfl ?_
  refine kks hG rfl rfl ?_
  refine kk_ic hG rfl cc_i4 ?_
  refine kk_ine hG (t := 38) rfl rfl ?_ ?_
  · exact kk_wl hG [2, 3, 4, 1, 0] rfl (b38 _ _ _ _ _)
  refine kk_aln hG (x := (some p0)) rfl rfl ?_
  refine kk_gp hG (c := 4) (k := 6) (a := p0) rfl rfl rfl rfl (fun v4 => ?_)
  refine kk_ob (fun b5 eb5 => ?_)
  subst eb5
  refine kk_gi hG (c := 1) (k := 0) (a := b5) rfl rfl rfl rfl (fun v6 => ?_)
  refine kk_zeq hG (t := 38) rfl rfl ?_ ?_
  · exact kk_wl hG [2, 3, 4, 1, 0] rfl (b38 _ _ _ _ _)
  refine kk_inc hG (L' := [(3, .int ((25 : Int32) + ((-1) : Int32))), (4, .int (v3 - (4 : Int32))), (0, va_rf (some p0)), (1, .int p1), (2, .int p2)]) rfl (Nat.le_of_ble_eq_true rfl) rfl cc_im1 rfl ?_
  refine kk_inc hG (L' := [(4, .int ((v3 - (4 : Int32)) + ((-20) : Int32))), (3, .int ((25 : Int32) + ((-1) : Int32))), (0, va_rf (some p0)), (1, .int p1), (2, .int p2)]) rfl (Nat.le_of_ble_eq_true rfl) rfl cc_im20 rfl ?_
  refine kk_go hG (t := 77) rfl rfl ?_
  exact kk_wl hG [1, 0] rfl (b77 _ _ _ _ _)
def C_Da_addEntry (sa : Nat → Nat) (p0 : Nat) (p1 : Option Nat) (p2 : Int32) (p3 : Int32) (s : cS) (kc ks : Nat) (Q : (cS → Nat → Nat → Prop)) : Prop := ob (gI s 2 4 p0) (fun v1 => (if v1 = (4 : Int32) then (ob (gP s 2 0 p0) (fun v21 => (ob v21 (fun b22 => (okO s 0 b22 ∧ C_By_addNumber sa b22 (2 : Int64) (2 : Int32) s kc ks (fun sr23 cr23 dr23 => (ob (gP sr23 2 0 p0) (fun v24 => (ob v24 (fun b25 => (okO sr23 0 b25 ∧ C_By_addNumber sa b25 (Int32.toInt64 p2) (2 : Int32) sr23 cr23 dr23 (fun sr26 cr26 dr26 => (ob (gP sr26 2 0 p0) (fun v27 => (ob p1 (fun b28 => (ob (gJ sr26 5 1 b28) (fun v29 => (ob v27 (fun b30 => (okO sr26 0 b30 ∧ C_By_addNumber sa b30 (ush_L v29 (32 : Int32)) (4 : Int32) sr26 cr26 dr26 (fun sr31 cr31 dr31 => (ob (gP sr31 2 0 p0) (fun v32 => (ob (gI sr31 5 3 b28) (fun v33 => (C_Pr_maskHigh sa v33 sr31 cr31 dr31 (fun r34 sr34 cr34 dr34 => (ob v32 (fun b35 => (okO sr34 0 b35 ∧ C_By_addNumber sa b35 (ush_L r34 (32 : Int32)) (4 : Int32) sr34 cr34 dr34 (fun sr36 cr36 dr36 => (ob (gP sr36 2 0 p0) (fun v37 => (ob v37 (fun b38 => (okO sr36 0 b38 ∧ C_By_addNumber sa b38 (Int32.toInt64 p3) (8 : Int32) sr36 cr36 dr36 (fun sr39 cr39 dr39 => (Q sr39 cr39 dr39))))))))))))))))))))))))))))))))))))))) else (ob (gP s 2 0 p0) (fun v2 => (ob p1 (fun b3 => (ob (gJ s 5 1 b3) (fun v4 => (ob v2 (fun b5 => (okO s 0 b5 ∧ C_By_addNumber sa b5 v4 (8 : Int32) s kc ks (fun sr6 cr6 dr6 => (ob (gP sr6 2 0 p0) (fun v7 => (ob (gJ sr6 5 2 b3) (fun v8 => (ob v7 (fun b9 => (okO sr6 0 b9 ∧ C_By_addNumber sa b9 v8 (8 : Int32) sr6 cr6 dr6 (fun sr10 cr10 dr10 => (ob (gP sr10 2 0 p0) (fun v11 => (ob v11 (fun b12 => (okO sr10 0 b12 ∧ C_By_addNumber sa b12 (Int32.toInt64 p2) (2 : Int32) sr10 cr10 dr10 (fun sr13 cr13 dr13 => (ob (gP sr13 2 0 p0) (fun v14 => (ob (gI sr13 5 3 b3) (fun v15 => (ob v14 (fun b16 => (okO sr13 0 b16 ∧ C_By_add sa b16 v15 sr13 cr13 dr13 (fun sr17 cr17 dr17 => (ob (gP sr17 2 0 p0) (fun v18 => (ob v18 (fun b19 => (okO sr17 0 b19 ∧ C_By_add sa b19 p3 sr17 cr17 dr17 (fun sr20 cr20 dr20 => (Q sr20 cr20 dr20)))))))))))))))))))))))))))))))))))))))))
set_option maxRecDepth 100000 in
set_option maxHeartbeats 4000000 in
theorem kc_Da_addEntry (base : Nat) (sa : Nat → Nat) {R : pmM} {s : cS} {kc ks : Nat} {Rt : pmR} {p0 : Nat} {p1 : Option Nat} {p2 : Int32} {p3 : Int32} {Q : (cS → Nat → Nat → Prop)} (hw : cW sa R base s) (h : C_Da_addEntry sa p0 p1 p2 p3 s kc ks Q) (k : ∀ s' kc' ks', cW sa R base s' → Q s' kc' ks' → Rt none (cM R s') kc' ks') : kP_Da_addEntry base sa [.ref p0, va_rf p1, .int p2, .int p3] (cM R s) kc ks Rt := by
  refine ⟨by cases p1 <;> exact Nat.le_of_ble_eq_true rfl, fun G hG => ?_⟩
  have eL : lv_args 0 [.ref p0, va_rf p1, .int p2, .int p3] = [(0, va_rf (some p0)), (1, va_rf p1), (2, .int p2), (3, .int p3)] := by cases p1 <;> rfl
  rw [eL]
  refine (show KK sa R base G 0 [(0, va_rf (some p0)), (1, va_rf p1), (2, .int p2), (3, .int p3)] [] s kc ks (C_Da_addEntry sa p0 p1 p2 p3 s kc ks Q) from ?_) hw h
  refine kk_aln hG (x := (some p0)) rfl rfl ?_
  refine kk_gi hG (c := 2) (k := 4) (a := p0) rfl rfl rfl rfl (fun v1 => ?_)
  refine kk_ic hG rfl cc_i4 ?_
  refine kk_ine hG (t := 76) rfl rfl ?_ ?_
  · refine kk_aln hG (x := (some p0)) rfl rfl ?_
    refine kk_gp hG (c := 2) (k := 0) (a := p0) rfl rfl rfl rfl (fun v2 => ?_)
    refine kk_aln hG (x := p1) rfl rfl ?_
    refine kk_ob (fun b3 eb3 => ?_)
    subst eb3
    refine kk_gj hG (c := 5) (k := 1) (a := b3) rfl rfl rfl rfl (fun v4 => ?_)
    refine kk_bi hG rfl cc_b8 ?_
    refine kk_ob (fun b5 eb5 => ?_)
    subst eb5
    refine kk_cv hG 0 rfl rfl (Nat.le_of_ble_eq_true rfl) (by decide) rfl (st' := []) rfl (cats_le (Nat.le_of_ble_eq_true rfl)) (fun _ hw h k => kk_rcv h.1 (kc_By_addNumber base sa hw h.2 k)) (fun sr6 cr6 dr6 => ?_)
    refine kk_aln hG (x := (some p0)) rfl rfl ?_
    refine kk_gp hG (c := 2) (k := 0) (a := p0) rfl rfl rfl rfl (fun v7 => ?_)
    refine kk_aln hG (x := (some b3)) rfl rfl ?_
    refine kk_gj hG (c := 5) (k := 2) (a := b3) rfl rfl rfl rfl (fun v8 => ?_)
    refine kk_bi hG rfl cc_b8 ?_
    refine kk_ob (fun b9 eb9 => ?_)
    subst eb9
    refine kk_cv hG 0 rfl rfl (Nat.le_of_ble_eq_true rfl) (by decide) rfl (st' := []) rfl (cats_le (Nat.le_of_ble_eq_true rfl)) (fun _ hw h k => kk_rcv h.1 (kc_By_addNumber base sa hw h.2 k)) (fun sr10 cr10 dr10 => ?_)
    refine kk_aln hG (x := (some p0)) rfl rfl ?_
    refine kk_gp hG (c := 2) (k := 0) (a := p0) rfl rfl rfl rfl (fun v11 => ?_)
    refine kks hG rfl rfl ?_
    refine kks hG rfl rfl ?_
    refine kk_ic hG rfl cc_i2 ?_
    refine kk_ob (fun b12 eb12 => ?_)
    subst eb12
    refine kk_cv hG 0 rfl rfl (Nat.le_of_ble_eq_true rfl) (by decide) rfl (st' := []) rfl (cats_le (Nat.le_of_ble_eq_true rfl)) (fun _ hw h k => kk_rcv h.1 (kc_By_addNumber base sa hw h.2 k)) (fun sr13 cr13 dr13 => ?_)
    refine kk_aln hG (x := (some p0)) rfl rfl ?_
    refine kk_gp hG (c := 2) (k := 0) (a := p0) rfl rfl rfl rfl (fun v14 => ?_)
    refine kk_aln hG (x := (some b3)) rfl rfl ?_
    refine kk_gi hG (c := 5) (k := 3) (a := b3) rfl rfl rfl rfl (fun v15 => ?_)
    refine kk_ob (fun b16 eb16 => ?_)
    subst eb16
    refine kk_cv hG 0 rfl rfl (Nat.le_of_ble_eq_true rfl) (by decide) rfl (st' := []) rfl (cats_le (Nat.le_of_ble_eq_true rfl)) (fun _ hw h k => kk_rcv h.1 (kc_By_add base sa hw h.2 k)) (fun sr17 cr17 dr17 => ?_)
    refine kk_aln hG (x := (some p0)) rfl rfl ?_
    refine kk_gp hG (c := 2) (k := 0) (a := p0) rfl rfl rfl rfl (fun v18 => ?_)
    refine kks hG rfl rfl ?_
    refine kk_ob (fun b19 eb19 => ?_)
    subst eb19
    refine kk_cv hG 0 rfl rfl (Nat.le_of_ble_eq_true rfl) (by decide) rfl (st' := []) rfl (cats_le (Nat.le_of_ble_eq_true rfl)) (fun _ hw h k => kk_rcv h.1 (kc_By_add base sa hw h.2 k)) (fun sr20 cr20 dr20 => ?_)
    exact kk_rv hG rfl rfl k
  refine kk_aln hG (x := (some p0)) rfl rfl ?_
  refine kk_gp hG (c := 2) (k := 0) (a := p0) rfl rfl rfl rfl (fun v21 => ?_)
  refine kk_l2 hG (v := (2 : Int64)) rfl rfl ?_
  refine kk_ic hG rfl cc_i2 ?_
  refine kk_ob (fun b22 eb22 => ?_)
  subst eb22
  refine kk_cv hG 0 rfl rfl (Nat.le_of_ble_eq_true rfl) (by decide) rfl (st' := []) rfl (cats_le (Nat.le_of_ble_eq_true rfl)) (fun _ hw h k => kk_rcv h.1 (kc_By_addNumber base sa hw h.2 k)) (fun sr23 cr23 dr23 => ?_)
  refine kk_aln hG (x := (some p0)) rfl rfl ?_
  refine kk_gp hG (c := 2) (k := 0) (a := p0) rfl rfl rfl rfl (fun v24 => ?_)
  refine kks hG rfl rfl ?_
  refine kks hG rfl rfl ?_
  refine kk_ic hG rfl cc_i2 ?_
  refine kk_ob (fun b25 eb25 => ?_)
  subst eb25
  refine kk_cv hG 0 rfl rfl (Nat.le_of_ble_eq_true rfl) (by decide) rfl (st' := []) rfl (cats_le (Nat.le_of_ble_eq_true rfl)) (fun _ hw h k => kk_rcv h.1 (kc_By_addNumber base sa hw h.2 k)) (fun sr26 cr26 dr26 => ?_)
  refine kk_aln hG (x := (some p0)) rfl rfl ?_
  refine kk_gp hG (c := 2) (k := 0) (a := p0) rfl rfl rfl rfl (fun v27 => ?_)
  refine kk_aln hG (x := p1) rfl rfl ?_
  refine kk_ob (fun b28 eb28 => ?_)
  subst eb28
  refine kk_gj hG (c := 5) (k := 1) (a := b28) rfl rfl rfl rfl (fun v29 => ?_)
  refine kk_bi hG rfl cc_b32 ?_
  refine kks hG rfl rfl ?_
  refine kk_ic hG rfl cc_i4 ?_
  refine kk_ob (fun b30 eb30 => ?_)
  subst eb30
  refine kk_cv hG 0 rfl rfl (Nat.le_of_ble_eq_true rfl) (by decide) rfl (st' := []) rfl (cats_le (Nat.le_of_ble_eq_true rfl)) (fun _ hw h k => kk_rcv h.1 (kc_By_addNumber base sa hw h.2 k)) (fun sr31 cr31 dr31 => ?_)
  refine kk_aln hG (x := (some p0)) rfl rfl ?_
  refine kk_gp hG (c := 2) (k := 0) (a := p0) rfl rfl rfl rfl (fun v32 => ?_)
  refine kk_aln hG (x := (some b28)) rfl rfl ?_
  refine kk_gi hG (c := 5) (k := 3) (a := b28) rfl rfl rfl rfl (fun v33 => ?_)
  refine kk_cx (w := .long) hG 2 rfl rfl (Nat.le_of_ble_eq_true rfl) (by decide) rfl (st' := [va_rf v32]) rfl (cats_le (Nat.le_of_ble_eq_true rfl)) (fun _ hw h k => kc_Pr_maskHigh base sa hw h k) (fun r34 sr34 cr34 dr34 => ?_)
  refine kk_bi hG rfl cc_b32 ?_
  refine kks hG rfl rfl ?_
  refine kk_ic hG rfl cc_i4 ?_
  refine kk_ob (fun b35 eb35 => ?_)
  subst eb35
  refine kk_cv hG 0 rfl rfl (Nat.le_of_ble_eq_true rfl) (by decide) rfl (st' := []) rfl (cats_le (Nat.le_of_ble_eq_true rfl)) (fun _ hw h k => kk_rcv h.1 (kc_By_addNumber base sa hw h.2 k)) (fun sr36 cr36 dr36 => ?_)
  refine kk_aln hG (x := (some p0)) rfl rfl ?_
  refine kk_gp hG (c := 2) (k := 0) (a := p0) rfl rfl rfl rfl (fun v37 => ?_)
  refine kks hG rfl rfl ?_
  refine kks hG rfl rfl ?_
  refine kk_bi hG rfl cc_b8 ?_
  refine kk_ob (fun b38 eb38 => ?_)
  subst eb38
  refine kk_cv hG 0 rfl rfl (Nat.le_of_ble_eq_true rfl) (by decide) rfl (st' := []) rfl (cats_le (Nat.le_of_ble_eq_true rfl)) (fun _ hw h k => kk_rcv h.1 (kc_By_addNumber base sa hw h.2 k)) (fun sr39 cr39 dr39 => ?_)
  refine kk_go hG (t := 131) rfl rfl ?_
  exact kk_rv hG rfl rfl k
def C_Rr_sendTold_b138 (sa : Nat → Nat) (p0 : Nat) (p1 : Option Nat) (p2 : Int32) (p3 : Option Nat) (a4 : Int32) (s : cS) (kc ks : Nat) (Q : (cS → Nat → Nat → Prop)) (P3 : (Int32 → cS → Nat → Nat → Prop)) : Prop := okO s 9 p0 ∧ C_Rr_sendDraft sa p0 p1 p3 s kc ks (fun sr1 cr1 dr1 => ((P3 a4 sr1 cr1 dr1)))
def C_Rr_sendTold_s60 (sa : Nat → Nat) (p0 : Nat) (p1 : Option Nat) (p2 : Int32) (p3 : Option Nat) (a5 : Int32) (a6 : Int32) (a4 : Int32) (s : cS) (kc ks : Nat) (Q : (cS → Nat → Nat → Prop)) (P3 : (Int32 → cS → Nat → Nat → Prop)) (P60 : (Int32 → cS → Nat → Nat → Prop)) : Prop := if a4 < a6 then (ob (gP s 9 0 p0) (fun v10 => (ob v10 (fun b11 => (ob (gP s 11 17 b11) (fun v12 => (ob v12 (fun b13 => (ob (gP s 10 0 b13) (fun v14 => (ob v14 (fun b15 => (ob (rQ s b15 a4) (fun v16 => (ob (gP s 9 0 p0) (fun v17 => (ob v17 (fun b18 => (ob (gP s 11 16 b18) (fun v19 => (ob v16 (fun b20 => (ob (gP s 8 0 b20) (fun v21 => (ob (gI s 8 5 b20) (fun v22 => (ob (gI s 8 4 b20) (fun v23 => (ob v19 (fun b24 => (okO s 2 b24 ∧ C_Da_addEntry sa b24 v21 v22 v23 s kc ks (fun sr25 cr25 dr25 => ((P60 (a4 + (1 : Int32)) sr25 cr25 dr25)))))))))))))))))))))))))))))))))) else ((if a5 = ((-1) : Int32) then ((C_Rr_sendTold_b138 sa p0 p1 p2 p3 a4 s kc ks Q P3)) else (ob p1 (fun b1 => (ob (gP s 4 6 b1) (fun v2 => (ob (gP s 9 0 p0) (fun v3 => (ob v3 (fun b4 => (ob (gP s 11 16 b4) (fun v5 => (ob v5 (fun b6 => (ob (gP s 2 0 b6) (fun v7 => (ob v2 (fun b8 => (okO s 1 b8 ∧ C_Ch_seal sa b8 v7 a5 s kc ks (fun sr9 cr9 dr9 => ((C_Rr_sendTold_b138 sa p0 (some b1) p2 p3 a4 sr9 cr9 dr9 Q P3))))))))))))))))))))))
def C_Rr_sendTold_b60 (sa : Nat → Nat) (p0 : Nat) (p1 : Option Nat) (p2 : Int32) (p3 : Option Nat) (a5 : Int32) (a6 : Int32) (a4 : Int32) (s : cS) (kc ks : Nat) (Q : (cS → Nat → Nat → Prop)) (P3 : (Int32 → cS → Nat → Nat → Prop)) : Prop := ∀ P60 : (Int32 → cS → Nat → Nat → Prop), (∀ (a4 : Int32) (s : cS) (kc ks : Nat), C_Rr_sendTold_s60 sa p0 p1 p2 p3 a5 a6 a4 s kc ks Q P3 P60 → P60 a4 s kc ks) → P60 a4 s kc ks
def C_Rr_sendTold_s3 (sa : Nat → Nat) (p0 : Nat) (p1 : Option Nat) (p2 : Int32) (p3 : Option Nat) (a4 : Int32) (s : cS) (kc ks : Nat) (Q : (cS → Nat → Nat → Prop)) (P3 : (Int32 → cS → Nat → Nat → Prop)) : Prop := ob (gP s 9 0 p0) (fun v1 => (ob v1 (fun b2 => (ob (gP s 11 17 b2) (fun v3 => (ob v3 (fun b4 => (ob (gI s 10 1 b4) (fun v5 => (if a4 < v5 then (okO s 9 p0 ∧ C_Rr_openDraft sa p0 p1 p2 (2 : Int32) s kc ks (fun r6 sr6 cr6 dr6 => (if r6 = ((-2) : Int32) then ((Q sr6 cr6 dr6)) else (ob (gP sr6 9 0 p0) (fun v7 => (ob v7 (fun b8 => (ob (gP sr6 11 17 b8) (fun v9 => (ob v9 (fun b10 => (ob (gI sr6 10 1 b10) (fun v11 => (ob p1 (fun b12 => (okO sr6 4 b12 ∧ C_Po_entryRoom sa b12 p2 r6 sr6 cr6 dr6 (fun r13 sr13 cr13 dr13 => ((C_Rr_sendTold_b60 sa p0 (some b12) p2 p3 r6 (mnI v11 (a4 + r13)) a4 sr13 cr13 dr13 Q P3))))))))))))))))))) else ((Q s kc ks))))))))))))
def C_Rr_sendTold_b3 (sa : Nat → Nat) (p0 : Nat) (p1 : Option Nat) (p2 : Int32) (p3 : Option Nat) (a4 : Int32) (s : cS) (kc ks : Nat) (Q : (cS → Nat → Nat → Prop)) : Prop := ∀ P3 : (Int32 → cS → Nat → Nat → Prop), (∀ (a4 : Int32) (s : cS) (kc ks : Nat), C_Rr_sendTold_s3 sa p0 p1 p2 p3 a4 s kc ks Q P3 → P3 a4 s kc ks) → P3 a4 s kc ks
def C_Rr_sendTold (sa : Nat → Nat) (p0 : Nat) (p1 : Option Nat) (p2 : Int32) (p3 : Option Nat) (s : cS) (kc ks : Nat) (Q : (cS → Nat → Nat → Prop)) : Prop := (C_Rr_sendTold_b3 sa p0 p1 p2 p3 (0 : Int32) s kc ks Q)
set_option maxRecDepth 100000 in
set_option maxHeartbeats 4000000 in
theorem kc_Rr_sendTold (base : Nat) (sa : Nat → Nat) {R : pmM} {s : cS} {kc ks : Nat} {Rt : pmR} {p0 : Nat} {p1 : Option Nat} {p2 : Int32} {p3 : Option Nat} {Q : (cS → Nat → Nat → Prop)} (hw : cW sa R base s) (h : C_Rr_sendTold sa p0 p1 p2 p3 s kc ks Q) (k : ∀ s' kc' ks', cW sa R base s' → Q s' kc' ks' → Rt none (cM R s') kc' ks') : kP_Rr_sendTold base sa [.ref p0, va_rf p1, .int p2, va_rf p3] (cM R s) kc ks Rt := by
  refine ⟨by cases p1 <;> cases p3 <;> exact Nat.le_of_ble_eq_true rfl, fun G hG => ?_⟩
  have eL : lv_args 0 [.ref p0, va_rf p1, .int p2, va_rf p3] = [(0, va_rf (some p0)), (1, va_rf p1), (2, .int p2), (3, va_rf p3)] := by cases p1 <;> cases p3 <;> rfl
  rw [eL]
  have b3 : ∀ (a4 : Int32) (s : cS) (kc ks : Nat), KK sa R base G 3 [(0, va_rf (some p0)), (1, va_rf p1), (2, .int p2), (3, va_rf p3), (4, .int a4)] [] s kc ks (C_Rr_sendTold_b3 sa p0 p1 p2 p3 a4 s kc ks Q) := by
    have H : ∀ (P3 : (Int32 → cS → Nat → Nat → Prop)) (hP3 : ∀ (a4 : Int32) (s : cS) (kc ks : Nat), P3 a4 s kc ks → cW sa R base s → G 3 [(0, va_rf (some p0)), (1, va_rf p1), (2, .int p2), (3, va_rf p3), (4, .int a4)] [] (cM R s) kc ks) (a4 : Int32) (s : cS) (kc ks : Nat), KK sa R base G 3 [(0, va_rf (some p0)), (1, va_rf p1), (2, .int p2), (3, va_rf p3), (4, .int a4)] [] s kc ks (C_Rr_sendTold_s3 sa p0 p1 p2 p3 a4 s kc ks Q P3) := by
      intro P3 hP3
      have b138 : ∀ (a4 : Int32) (s : cS) (kc ks : Nat), KK sa R base G 138 [(0, va_rf (some p0)), (1, va_rf p1), (2, .int p2), (3, va_rf p3), (4, .int a4)] [] s kc ks (C_Rr_sendTold_b138 sa p0 p1 p2 p3 a4 s kc ks Q P3) := by
        intro a4 s kc ks
        refine kk_aln hG (x := (some p0)) rfl rfl ?_
        refine kk_aln hG (x := p1) rfl rfl ?_
        refine kk_aln hG (x := p3) rfl rfl ?_
        refine kk_cv hG 0 rfl rfl (Nat.le_of_ble_eq_true rfl) (by decide) rfl (st' := []) rfl (cats_le (Nat.le_of_ble_eq_true rfl)) (fun _ hw h k => kk_rcv h.1 (kc_Rr_sendDraft base sa hw h.2 k)) (fun sr1 cr1 dr1 => ?_)
        refine kk_go hG (t := 3) rfl rfl ?_
        exact kk_wl hG [0, 1, 2, 3, 4] rfl (fun hw h => hP3 _ _ _ _ h hw)
      have b60 : ∀ (a5 : Int32) (a6 : Int32) (a4 : Int32) (s : cS) (kc ks : Nat), KK sa R base G 60 [(0, va_rf (some p0)), (1, va_rf p1), (2, .int p2), (3, va_rf p3), (4, .int a4), (5, .int a5), (6, .int a6)] [] s kc ks (C_Rr_sendTold_b60 sa p0 p1 p2 p3 a5 a6 a4 s kc ks Q P3) := by
        intro a5 a6
        have H : ∀ (P60 : (Int32 → cS → Nat → Nat → Prop)) (hP60 : ∀ (a4 : Int32) (s : cS) (kc ks : Nat), P60 a4 s kc ks → cW sa R base s → G 60 [(0, va_rf (some p0)), (1, va_rf p1), (2, .int p2), (3, va_rf p3), (4, .int a4), (5, .int a5), (6, .int a6)] [] (cM R s) kc ks) (a4 : Int32) (s : cS) (kc ks : Nat), KK sa R base G 60 [(0, va_rf (some p0)), (1, va_rf p1), (2, .int p2), (3, va_rf p3), (4, .int a4), (5, .int a5), (6, .int a6)] [] s kc ks (C_Rr_sendTold_s60 sa p0 p1 p2 p3 a5 a6 a4 s kc ks Q P3 P60) := by
          intro P60 hP60
          intro a4 s kc ks
          refine kks hG rfl rfl ?_
          refine kks hG rfl rfl ?_
          refine kk_ige hG (t := 113) rfl rfl ?_ ?_
          · refine kks hG rfl rfl ?_
            refine kk_ic hG rfl cc_im1 ?_
            refine kk_ieq hG (t := 138) rfl rfl ?_ ?_
            · exact kk_wl hG [0, 1, 2, 3, 4] rfl (b138 _ _ _ _)
            refine kk_aln hG (x := p1) rfl rfl ?_
            refine kk_ob (fun b1 eb1 => ?_)
            subst eb1
            refine kk_gp hG (c := 4) (k := 6) (a := b1) rfl rfl rfl rfl (fun v2 => ?_)
            refine kk_aln hG (x := (some p0)) rfl rfl ?_
            refine kk_gp hG (c := 9) (k := 0) (a := p0) rfl rfl rfl rfl (fun v3 => ?_)
            refine kk_ob (fun b4 eb4 => ?_)
            subst eb4
            refine kk_gp hG (c := 11) (k := 16) (a := b4) rfl rfl rfl rfl (fun v5 => ?_)
            refine kk_ob (fun b6 eb6 => ?_)
            subst eb6
            refine kk_gp hG (c := 2) (k := 0) (a := b6) rfl rfl rfl rfl (fun v7 => ?_)
            refine kks hG rfl rfl ?_
            refine kk_ob (fun b8 eb8 => ?_)
            subst eb8
            refine kk_cv hG 0 rfl rfl (Nat.le_of_ble_eq_true rfl) (by decide) rfl (st' := []) rfl (cats_le (Nat.le_of_ble_eq_true rfl)) (fun _ hw h k => kk_rcv h.1 (kc_Ch_seal base sa hw h.2 k)) (fun sr9 cr9 dr9 => ?_)
            exact kk_wl hG [0, 1, 2, 3, 4] rfl (b138 _ _ _ _)
          refine kk_aln hG (x := (some p0)) rfl rfl ?_
          refine kk_gp hG (c := 9) (k := 0) (a := p0) rfl rfl rfl rfl (fun v10 => ?_)
          refine kk_ob (fun b11 eb11 => ?_)
          subst eb11
          refine kk_gp hG (c := 11) (k := 17) (a := b11) rfl rfl rfl rfl (fun v12 => ?_)
          refine kk_ob (fun b13 eb13 => ?_)
          subst eb13
          refine kk_gp hG (c := 10) (k := 0) (a := b13) rfl rfl rfl rfl (fun v14 => ?_)
          refine kks hG rfl rfl ?_
          refine kk_ob (fun b15 eb15 => ?_)
          subst eb15
          refine kk_aa hG (a := b15) rfl (fun v16 => ?_)
          refine kk_as hG (x := v16) (L' := [(7, va_rf v16), (0, va_rf (some p0)), (1, va_rf p1), (2, .int p2), (3, va_rf p3), (4, .int a4), (5, .int a5), (6, .int a6)]) rfl (Nat.le_of_ble_eq_true rfl) rfl ?_
          refine kk_aln hG (x := (some p0)) rfl rfl ?_
          refine kk_gp hG (c := 9) (k := 0) (a := p0) rfl rfl rfl rfl (fun v17 => ?_)
          refine kk_ob (fun b18 eb18 => ?_)
          subst eb18
          refine kk_gp hG (c := 11) (k := 16) (a := b18) rfl rfl rfl rfl (fun v19 => ?_)
          refine kk_al hG (x := v16) rfl rfl ?_
          refine kk_ob (fun b20 eb20 => ?_)
          subst eb20
          refine kk_gp hG (c := 8) (k := 0) (a := b20) rfl rfl rfl rfl (fun v21 => ?_)
          refine kk_al hG (x := (some b20)) rfl rfl ?_
          refine kk_gi hG (c := 8) (k := 5) (a := b20) rfl rfl rfl rfl (fun v22 => ?_)
          refine kk_al hG (x := (some b20)) rfl rfl ?_
          refine kk_gi hG (c := 8) (k := 4) (a := b20) rfl rfl rfl rfl (fun v23 => ?_)
          refine kk_ob (fun b24 eb24 => ?_)
          subst eb24
          refine kk_cv hG 0 rfl rfl (Nat.le_of_ble_eq_true rfl) (by decide) rfl (st' := []) rfl (cats_le (Nat.le_of_ble_eq_true rfl)) (fun _ hw h k => kk_rcv h.1 (kc_Da_addEntry base sa hw h.2 k)) (fun sr25 cr25 dr25 => ?_)
          refine kk_inc hG (L' := [(4, .int (a4 + (1 : Int32))), (7, va_rf (some b20)), (0, va_rf (some p0)), (1, va_rf p1), (2, .int p2), (3, va_rf p3), (5, .int a5), (6, .int a6)]) rfl (Nat.le_of_ble_eq_true rfl) rfl cc_i1 (by cases p3 <;> rfl) ?_
          refine kk_go hG (t := 60) rfl rfl ?_
          exact kk_wl hG [2, 3, 4, 5, 0, 6, 7] rfl (fun hw h => hP60 _ _ _ _ h hw)
        exact fun a4 s kc ks hw h => h (fun a4 s kc ks => cW sa R base s → G 60 [(0, va_rf (some p0)), (1, va_rf p1), (2, .int p2), (3, va_rf p3), (4, .int a4), (5, .int a5), (6, .int a6)] [] (cM R s) kc ks) (fun a4 s kc ks hs hw => H _ (fun _ _ _ _ hp hw => hp hw) a4 s kc ks hw hs) hw
      intro a4 s kc ks
      refine kks hG rfl rfl ?_
      refine kk_aln hG (x := (some p0)) rfl rfl ?_
      refine kk_gp hG (c := 9) (k := 0) (a := p0) rfl rfl rfl rfl (fun v1 => ?_)
      refine kk_ob (fun b2 eb2 => ?_)
      subst eb2
      refine kk_gp hG (c := 11) (k := 17) (a := b2) rfl rfl rfl rfl (fun v3 => ?_)
      refine kk_ob (fun b4 eb4 => ?_)
      subst eb4
      refine kk_gi hG (c := 10) (k := 1) (a := b4) rfl rfl rfl rfl (fun v5 => ?_)
      refine kk_ige hG (t := 147) rfl rfl ?_ ?_
      · exact kk_rv hG rfl rfl k
      refine kk_aln hG (x := (some p0)) rfl rfl ?_
      refine kk_aln hG (x := p1) rfl rfl ?_
      refine kks hG rfl rfl ?_
      refine kk_ic hG rfl cc_i2 ?_
      refine kk_cx (w := .int) hG 0 rfl rfl (Nat.le_of_ble_eq_true rfl) (by decide) rfl (st' := []) rfl (cats_le (Nat.le_of_ble_eq_true rfl)) (fun _ hw h k => kk_rcv h.1 (kc_Rr_openDraft base sa hw h.2 k)) (fun r6 sr6 cr6 dr6 => ?_)
      refine kk_st hG (L' := [(5, .int r6), (0, va_rf (some p0)), (1, va_rf p1), (2, .int p2), (3, va_rf p3), (4, .int a4)]) rfl rfl (Nat.le_of_ble_eq_true rfl) rfl ?_
      refine kks hG rfl rfl ?_
      refine kk_bi hG rfl cc_bm2 ?_
      refine kk_ine hG (t := 35) rfl rfl ?_ ?_
      · refine kk_aln hG (x := (some p0)) rfl rfl ?_
        refine kk_gp hG (c := 9) (k := 0) (a := p0) rfl rfl rfl rfl (fun v7 => ?_)
        refine kk_ob (fun b8 eb8 => ?_)
        subst eb8
        refine kk_gp hG (c := 11) (k := 17) (a := b8) rfl rfl rfl rfl (fun v9 => ?_)
        refine kk_ob (fun b10 eb10 => ?_)
        subst eb10
        refine kk_gi hG (c := 10) (k := 1) (a := b10) rfl rfl rfl rfl (fun v11 => ?_)
        refine kks hG rfl rfl ?_
        refine kk_aln hG (x := p1) rfl rfl ?_
        refine kks hG rfl rfl ?_
        refine kks hG rfl rfl ?_
        refine kk_ob (fun b12 eb12 => ?_)
        subst eb12
        refine kk_cx (w := .int) hG 0 rfl rfl (Nat.le_of_ble_eq_true rfl) (by decide) rfl (st' := [.int a4, .int v11]) rfl (cats_le (Nat.le_of_ble_eq_true rfl)) (fun _ hw h k => kk_rcv h.1 (kc_Po_entryRoom base sa hw h.2 k)) (fun r13 sr13 cr13 dr13 => ?_)
        refine kks hG rfl rfl ?_
        refine kk_mn hG rfl rfl (Nat.le_of_ble_eq_true rfl) ?_
        refine kk_st hG (L' := [(6, .int (mnI v11 (a4 + r13))), (5, .int r6), (0, va_rf (some p0)), (1, va_rf (some b12)), (2, .int p2), (3, va_rf p3), (4, .int a4)]) rfl rfl (Nat.le_of_ble_eq_true rfl) rfl ?_
        exact kk_wl hG [2, 3, 4, 5, 6, 1, 0] rfl (b60 _ _ _ _ _ _)
      exact kk_rv hG rfl rfl k
    exact fun a4 s kc ks hw h => h (fun a4 s kc ks => cW sa R base s → G 3 [(0, va_rf (some p0)), (1, va_rf p1), (2, .int p2), (3, va_rf p3), (4, .int a4)] [] (cM R s) kc ks) (fun a4 s kc ks hs hw => H _ (fun _ _ _ _ hp hw => hp hw) a4 s kc ks hw hs) hw
  refine (show KK sa R base G 0 [(0, va_rf (some p0)), (1, va_rf p1), (2, .int p2), (3, va_rf p3)] [] s kc ks (C_Rr_sendTold sa p0 p1 p2 p3 s kc ks Q) from ?_) hw h
  refine kk_ic hG rfl cc_i0 ?_
  refine kk_st hG (L' := [(4, .int (0 : Int32)), (0, va_rf (some p0)), (1, va_rf p1), (2, .int p2), (3, va_rf p3)]) rfl rfl (Nat.le_of_ble_eq_true rfl) (by cases p3 <;> rfl) ?_
  exact kk_wl hG [1, 2, 3, 4, 0] rfl (b3 _ _ _ _)
def C_Pr_takeBytes (sa : Nat → Nat) (p0 : Nat) (p1 : Option Nat) (p2 : Int32) (p3 : Int32) (s : cS) (kc ks : Nat) (Q : (cS → Nat → Nat → Prop)) : Prop := ob (pI s 5 0 p0 p3) (fun s1 => (C_Pr_bitsOf sa p3 s1 kc ks (fun r2 sr2 cr2 dr2 => (ob (pI sr2 5 3 p0 r2) (fun s3 => (if p3 = (4 : Int32) then (ob p1 (fun b9 => (okO s3 0 b9 ∧ C_By_numberAt sa b9 p2 (4 : Int32) s3 cr2 dr2 (fun r10 sr10 cr10 dr10 => (ob (pJ sr10 5 1 p0 (r10 <<< ((Int32.toInt64 (32 : Int32)) &&& 63))) (fun s11 => (ob (pJ s11 5 2 p0 (0 : Int64)) (fun s12 => (Q s12 cr10 dr10))))))))) else (ob p1 (fun b4 => (okO s3 0 b4 ∧ C_By_numberAt sa b4 p2 (8 : Int32) s3 cr2 dr2 (fun r5 sr5 cr5 dr5 => (ob (pJ sr5 5 1 p0 r5) (fun s6 => (okO s6 0 b4 ∧ C_By_numberAt sa b4 (p2 + (8 : Int32)) (8 : Int32) s6 cr5 dr5 (fun r7 sr7 cr7 dr7 => (ob (pJ sr7 5 2 p0 r7) (fun s8 => (Q s8 cr7 dr7)))))))))))))))))
set_option maxRecDepth 100000 in
set_option maxHeartbeats 4000000 in
theorem kc_Pr_takeBytes (base : Nat) (sa : Nat → Nat) {R : pmM} {s : cS} {kc ks : Nat} {Rt : pmR} {p0 : Nat} {p1 : Option Nat} {p2 : Int32} {p3 : Int32} {Q : (cS → Nat → Nat → Prop)} (hw : cW sa R base s) (h : C_Pr_takeBytes sa p0 p1 p2 p3 s kc ks Q) (k : ∀ s' kc' ks', cW sa R base s' → Q s' kc' ks' → Rt none (cM R s') kc' ks') : kP_Pr_takeBytes base sa [.ref p0, va_rf p1, .int p2, .int p3] (cM R s) kc ks Rt := by
  refine ⟨by cases p1 <;> exact Nat.le_of_ble_eq_true rfl, fun G hG => ?_⟩
  have eL : lv_args 0 [.ref p0, va_rf p1, .int p2, .int p3] = [(0, va_rf (some p0)), (1, va_rf p1), (2, .int p2), (3, .int p3)] := by cases p1 <;> rfl
  rw [eL]
  refine (show KK sa R base G 0 [(0, va_rf (some p0)), (1, va_rf p1), (2, .int p2), (3, .int p3)] [] s kc ks (C_Pr_takeBytes sa p0 p1 p2 p3 s kc ks Q) from ?_) hw h
  refine kk_aln hG (x := (some p0)) rfl rfl ?_
  refine kks hG rfl rfl ?_
  refine kk_pi hG (c := 5) (k := 0) (a := p0) rfl rfl rfl rfl (fun s1 => ?_)
  refine kk_aln hG (x := (some p0)) rfl rfl ?_
  refine kks hG rfl rfl ?_
  refine kk_cx (w := .int) hG 2 rfl rfl (Nat.le_of_ble_eq_true rfl) (by decide) rfl (st' := [va_rf (some p0)]) rfl (cats_le (Nat.le_of_ble_eq_true rfl)) (fun _ hw h k => kc_Pr_bitsOf base sa hw h k) (fun r2 sr2 cr2 dr2 => ?_)
  refine kk_pi hG (c := 5) (k := 3) (a := p0) rfl rfl rfl rfl (fun s3 => ?_)
  refine kks hG rfl rfl ?_
  refine kk_ic hG rfl cc_i4 ?_
  refine kk_ine hG (t := 39) rfl rfl ?_ ?_
  · refine kk_aln hG (x := (some p0)) rfl rfl ?_
    refine kk_aln hG (x := p1) rfl rfl ?_
    refine kks hG rfl rfl ?_
    refine kk_bi hG rfl cc_b8 ?_
    refine kk_ob (fun b4 eb4 => ?_)
    subst eb4
    refine kk_cx (w := .long) hG 0 rfl rfl (Nat.le_of_ble_eq_true rfl) (by decide) rfl (st' := [va_rf (some p0)]) rfl (cats_le (Nat.le_of_ble_eq_true rfl)) (fun _ hw h k => kk_rcv h.1 (kc_By_numberAt base sa hw h.2 k)) (fun r5 sr5 cr5 dr5 => ?_)
    refine kk_pj hG (c := 5) (k := 1) (a := p0) rfl rfl rfl rfl (fun s6 => ?_)
    refine kk_aln hG (x := (some p0)) rfl rfl ?_
    refine kk_aln hG (x := (some b4)) rfl rfl ?_
    refine kks hG rfl rfl ?_
    refine kk_bi hG rfl cc_b8 ?_
    refine kks hG rfl rfl ?_
    refine kk_bi hG rfl cc_b8 ?_
    refine kk_cx (w := .long) hG 0 rfl rfl (Nat.le_of_ble_eq_true rfl) (by decide) rfl (st' := [va_rf (some p0)]) rfl (cats_le (Nat.le_of_ble_eq_true rfl)) (fun _ hw h k => kk_rcv h.1 (kc_By_numberAt base sa hw h.2 k)) (fun r7 sr7 cr7 dr7 => ?_)
    refine kk_pj hG (c := 5) (k := 2) (a := p0) rfl rfl rfl rfl (fun s8 => ?_)
    exact kk_rv hG rfl rfl k
  refine kk_aln hG (x := (some p0)) rfl rfl ?_
  refine kk_aln hG (x := p1) rfl rfl ?_
  refine kks hG rfl rfl ?_
  refine kk_ic hG rfl cc_i4 ?_
  refine kk_ob (fun b9 eb9 => ?_)
  subst eb9
  refine kk_cx (w := .long) hG 0 rfl rfl (Nat.le_of_ble_eq_true rfl) (by decide) rfl (st' := [va_rf (some p0)]) rfl (cats_le (Nat.le_of_ble_eq_true rfl)) (fun _ hw h k => kk_rcv h.1 (kc_By_numberAt base sa hw h.2 k)) (fun r10 sr10 cr10 dr10 => ?_)
  refine kk_bi hG rfl cc_b32 ?_
  refine kks hG rfl rfl ?_
  refine kk_pj hG (c := 5) (k := 1) (a := p0) rfl rfl rfl rfl (fun s11 => ?_)
  refine kk_aln hG (x := (some p0)) rfl rfl ?_
  refine kk_lc hG (c := 0) (v := 0) rfl rfl ?_
  refine kk_pj hG (c := 5) (k := 2) (a := p0) rfl rfl rfl rfl (fun s12 => ?_)
  refine kk_go hG (t := 64) rfl rfl ?_
  exact kk_rv hG rfl rfl k
def C_Ig_bitCount (sa : Nat → Nat) (a0 : Int32) (s : cS) (kc ks : Nat) (Q : (Int32 → cS → Nat → Nat → Prop)) : Prop := Q ((((((((a0 - ((ush_I a0 (1 : Int32)) &&& (1431655765 : Int32))) &&& (858993459 : Int32)) + ((ush_I (a0 - ((ush_I a0 (1 : Int32)) &&& (1431655765 : Int32))) (2 : Int32)) &&& (858993459 : Int32))) + (ush_I (((a0 - ((ush_I a0 (1 : Int32)) &&& (1431655765 : Int32))) &&& (858993459 : Int32)) + ((ush_I (a0 - ((ush_I a0 (1 : Int32)) &&& (1431655765 : Int32))) (2 : Int32)) &&& (858993459 : Int32))) (4 : Int32))) &&& (252645135 : Int32)) + (ush_I (((((a0 - ((ush_I a0 (1 : Int32)) &&& (1431655765 : Int32))) &&& (858993459 : Int32)) + ((ush_I (a0 - ((ush_I a0 (1 : Int32)) &&& (1431655765 : Int32))) (2 : Int32)) &&& (858993459 : Int32))) + (ush_I (((a0 - ((ush_I a0 (1 : Int32)) &&& (1431655765 : Int32))) &&& (858993459 : Int32)) + ((ush_I (a0 - ((ush_I a0 (1 : Int32)) &&& (1431655765 : Int32))) (2 : Int32)) &&& (858993459 : Int32))) (4 : Int32))) &&& (252645135 : Int32)) (8 : Int32))) + (ush_I ((((((a0 - ((ush_I a0 (1 : Int32)) &&& (1431655765 : Int32))) &&& (858993459 : Int32)) + ((ush_I (a0 - ((ush_I a0 (1 : Int32)) &&& (1431655765 : Int32))) (2 : Int32)) &&& (858993459 : Int32))) + (ush_I (((a0 - ((ush_I a0 (1 : Int32)) &&& (1431655765 : Int32))) &&& (858993459 : Int32)) + ((ush_I (a0 - ((ush_I a0 (1 : Int32)) &&& (1431655765 : Int32))) (2 : Int32)) &&& (858993459 : Int32))) (4 : Int32))) &&& (252645135 : Int32)) + (ush_I (((((a0 - ((ush_I a0 (1 : Int32)) &&& (1431655765 : Int32))) &&& (858993459 : Int32)) + ((ush_I (a0 - ((ush_I a0 (1 : Int32)) &&& (1431655765 : Int32))) (2 : Int32)) &&& (858993459 : Int32))) + (ush_I (((a0 - ((ush_I a0 (1 : Int32)) &&& (1431655765 : Int32))) &&& (858993459 : Int32)) + ((ush_I (a0 - ((ush_I a0 (1 : Int32)) &&& (1431655765 : Int32))) (2 : Int32)) &&& (858993459 : Int32))) (4 : Int32))) &&& (252645135 : Int32)) (8 : Int32))) (16 : Int32))) &&& (63 : Int32)) s kc ks
set_option maxRecDepth 100000 in
set_option maxHeartbeats 4000000 in
theorem kc_Ig_bitCount (base : Nat) (sa : Nat → Nat) {R : pmM} {s : cS} {kc ks : Nat} {Rt : pmR} {a0 : Int32} {Q : (Int32 → cS → Nat → Nat → Prop)} (hw : cW sa R base s) (h : C_Ig_bitCount sa a0 s kc ks Q) (k : ∀ r s' kc' ks', cW sa R base s' → Q r s' kc' ks' → Rt (some (.int r)) (cM R s') kc' ks') : kP_Ig_bitCount base sa [.int a0] (cM R s) kc ks Rt := by
  refine ⟨Nat.le_of_ble_eq_true rfl, fun G hG => ?_⟩
  refine (show KK sa R base G 0 [(0, .int a0)] [] s kc ks (C_Ig_bitCount sa a0 s kc ks Q) from ?_) hw h
  refine kks hG rfl rfl ?_
  refine kks hG rfl rfl ?_
  refine kk_ic hG rfl cc_i1 ?_
  refine kks hG rfl rfl ?_
  refine kk_lw hG (v := (1431655765 : Int32)) rfl rfl ?_
  refine kks hG rfl rfl ?_
  refine kks hG rfl rfl ?_
  refine kk_st hG (L' := [(0, .int (a0 - ((ush_I a0 (1 : Int32)) &&& (1431655765 : Int32))))]) rfl rfl (Nat.le_of_ble_eq_true rfl) rfl ?_
  refine kks hG rfl rfl ?_
  refine kk_lw hG (v := (858993459 : Int32)) rfl rfl ?_
  refine kks hG rfl rfl ?_
  refine kks hG rfl rfl ?_
  refine kk_at (pc' := 16) rfl ?_
  refine kk_ic hG rfl cc_i2 ?_
  refine kks hG rfl rfl ?_
  refine kk_lw hG (v := (858993459 : Int32)) rfl rfl ?_
  refine kks hG rfl rfl ?_
  refine kks hG rfl rfl ?_
  refine kk_st hG (L' := [(0, .int (((a0 - ((ush_I a0 (1 : Int32)) &&& (1431655765 : Int32))) &&& (858993459 : Int32)) + ((ush_I (a0 - ((ush_I a0 (1 : Int32)) &&& (1431655765 : Int32))) (2 : Int32)) &&& (858993459 : Int32))))]) rfl rfl (Nat.le_of_ble_eq_true rfl) rfl ?_
  refine kks hG rfl rfl ?_
  refine kks hG rfl rfl ?_
  refine kk_ic hG rfl cc_i4 ?_
  refine kks hG rfl rfl ?_
  refine kks hG rfl rfl ?_
  refine kk_lw hG (v := (252645135 : Int32)) rfl rfl ?_
  refine kks hG rfl rfl ?_
  refine kk_at (pc' := 33) rfl ?_
  refine kk_st hG (L' := [(0, .int (((((a0 - ((ush_I a0 (1 : Int32)) &&& (1431655765 : Int32))) &&& (858993459 : Int32)) + ((ush_I (a0 - ((ush_I a0 (1 : Int32)) &&& (1431655765 : Int32))) (2 : Int32)) &&& (858993459 : Int32))) + (ush_I (((a0 - ((ush_I a0 (1 : Int32)) &&& (1431655765 : Int32))) &&& (858993459 : Int32)) + ((ush_I (a0 - ((ush_I a0 (1 : Int32)) &&& (1431655765 : Int32))) (2 : Int32)) &&& (858993459 : Int32))) (4 : Int32))) &&& (252645135 : Int32)))]) rfl rfl (Nat.le_of_ble_eq_true rfl) rfl ?_
  refine kks hG rfl rfl ?_
  refine kks hG rfl rfl ?_
  refine kk_bi hG rfl cc_b8 ?_
  refine kks hG rfl rfl ?_
  refine kks hG rfl rfl ?_
  refine kk_st hG (L' := [(0, .int ((((((a0 - ((ush_I a0 (1 : Int32)) &&& (1431655765 : Int32))) &&& (858993459 : Int32)) + ((ush_I (a0 - ((ush_I a0 (1 : Int32)) &&& (1431655765 : Int32))) (2 : Int32)) &&& (858993459 : Int32))) + (ush_I (((a0 - ((ush_I a0 (1 : Int32)) &&& (1431655765 : Int32))) &&& (858993459 : Int32)) + ((ush_I (a0 - ((ush_I a0 (1 : Int32)) &&& (1431655765 : Int32))) (2 : Int32)) &&& (858993459 : Int32))) (4 : Int32))) &&& (252645135 : Int32)) + (ush_I (((((a0 - ((ush_I a0 (1 : Int32)) &&& (1431655765 : Int32))) &&& (858993459 : Int32)) + ((ush_I (a0 - ((ush_I a0 (1 : Int32)) &&& (1431655765 : Int32))) (2 : Int32)) &&& (858993459 : Int32))) + (ush_I (((a0 - ((ush_I a0 (1 : Int32)) &&& (1431655765 : Int32))) &&& (858993459 : Int32)) + ((ush_I (a0 - ((ush_I a0 (1 : Int32)) &&& (1431655765 : Int32))) (2 : Int32)) &&& (858993459 : Int32))) (4 : Int32))) &&& (252645135 : Int32)) (8 : Int32))))]) rfl rfl (Nat.le_of_ble_eq_true rfl) rfl ?_
  refine kks hG rfl rfl ?_
  refine kks hG rfl rfl ?_
  refine kk_bi hG rfl cc_b16 ?_
  refine kks hG rfl rfl ?_
  refine kks hG rfl rfl ?_
  refine kk_st hG (L' := [(0, .int (((((((a0 - ((ush_I a0 (1 : Int32)) &&& (1431655765 : Int32))) &&& (858993459 : Int32)) + ((ush_I (a0 - ((ush_I a0 (1 : Int32)) &&& (1431655765 : Int32))) (2 : Int32)) &&& (858993459 : Int32))) + (ush_I (((a0 - ((ush_I a0 (1 : Int32)) &&& (1431655765 : Int32))) &&& (858993459 : Int32)) + ((ush_I (a0 - ((ush_I a0 (1 : Int32)) &&& (1431655765 : Int32))) (2 : Int32)) &&& (858993459 : Int32))) (4 : Int32))) &&& (252645135 : Int32)) + (ush_I (((((a0 - ((ush_I a0 (1 : Int32)) &&& (1431655765 : Int32))) &&& (858993459 : Int32)) + ((ush_I (a0 - ((ush_I a0 (1 : Int32)) &&& (1431655765 : Int32))) (2 : Int32)) &&& (858993459 : Int32))) + (ush_I (((a0 - ((ush_I a0 (1 : Int32)) &&& (1431655765 : Int32))) &&& (858993459 : Int32)) + ((ush_I (a0 - ((ush_I a0 (1 : Int32)) &&& (1431655765 : Int32))) (2 : Int32)) &&& (858993459 : Int32))) (4 : Int32))) &&& (252645135 : Int32)) (8 : Int32))) + (ush_I ((((((a0 - ((ush_I a0 (1 : Int32)) &&& (1431655765 : Int32))) &&& (858993459 : Int32)) + ((ush_I (a0 - ((ush_I a0 (1 : Int32)) &&& (1431655765 : Int32))) (2 : Int32)) &&& (858993459 : Int32))) + (ush_I (((a0 - ((ush_I a0 (1 : Int32)) &&& (1431655765 : Int32))) &&& (858993459 : Int32)) + ((ush_I (a0 - ((ush_I a0 (1 : Int32)) &&& (1431655765 : Int32))) (2 : Int32)) &&& (858993459 : Int32))) (4 : Int32))) &&& (252645135 : Int32)) + (ush_I (((((a0 - ((ush_I a0 (1 : Int32)) &&& (1431655765 : Int32))) &&& (858993459 : Int32)) + ((ush_I (a0 - ((ush_I a0 (1 : Int32)) &&& (1431655765 : Int32))) (2 : Int32)) &&& (858993459 : Int32))) + (ush_I (((a0 - ((ush_I a0 (1 : Int32)) &&& (1431655765 : Int32))) &&& (858993459 : Int32)) + ((ush_I (a0 - ((ush_I a0 (1 : Int32)) &&& (1431655765 : Int32))) (2 : Int32)) &&& (858993459 : Int32))) (4 : Int32))) &&& (252645135 : Int32)) (8 : Int32))) (16 : Int32))))]) rfl rfl (Nat.le_of_ble_eq_true rfl) rfl ?_
  refine kk_at (pc' := 48) rfl ?_
  refine kks hG rfl rfl ?_
  refine kk_bi hG rfl cc_b63 ?_
  refine kks hG rfl rfl ?_
  exact kk_ri hG rfl rfl rfl k
def C_Da_takePrefix (sa : Nat → Nat) (p0 : Nat) (p1 : Int32) (p2 : Option Nat) (s : cS) (kc ks : Nat) (Q : (Int32 → cS → Nat → Nat → Prop)) : Prop := ob (gI s 2 4 p0) (fun v1 => (if v1 = (6 : Int32) then (ob (gP s 2 0 p0) (fun v15 => (ob p2 (fun b16 => (okO s 5 b16 ∧ C_Pr_takeBytes sa b16 v15 p1 (6 : Int32) s kc ks (fun sr17 cr17 dr17 => (ob (gP sr17 2 0 p0) (fun v18 => (ob v18 (fun b19 => (okO sr17 0 b19 ∧ C_By_at sa b19 (p1 + (18 : Int32)) sr17 cr17 dr17 (fun r20 sr20 cr20 dr20 => (ob (pI sr20 5 3 b16 r20) (fun s21 => (if (128 : Int32) < r20 then (Q (0 : Int32) s21 cr20 dr20) else (okO s21 5 b16 ∧ C_Pr_hasBitsBehind sa b16 s21 cr20 dr20 (fun r22 sr22 cr22 dr22 => (if r22 = 0 then (Q (1 : Int32) sr22 cr22 dr22) else (Q (0 : Int32) sr22 cr22 dr22))))))))))))))))))) else (ob (gP s 2 0 p0) (fun v2 => (ob p2 (fun b3 => (okO s 5 b3 ∧ C_Pr_takeBytes sa b3 v2 (p1 + (4 : Int32)) (4 : Int32) s kc ks (fun sr4 cr4 dr4 => (ob (gP sr4 2 0 p0) (fun v5 => (ob v5 (fun b6 => (okO sr4 0 b6 ∧ C_By_numberAt sa b6 (p1 + (8 : Int32)) (4 : Int32) sr4 cr4 dr4 (fun r7 sr7 cr7 dr7 => (C_Ig_bitCount sa (Int64.toInt32 r7) sr7 cr7 dr7 (fun r8 sr8 cr8 dr8 => (ob (pI sr8 5 3 b3 r8) (fun s9 => (ob (gP s9 2 0 p0) (fun v10 => (ob v10 (fun b11 => (okO s9 0 b11 ∧ C_By_numberAt sa b11 p1 (2 : Int32) s9 cr8 dr8 (fun r12 sr12 cr12 dr12 => (if r12 = (2 : Int64) then (C_Pr_maskHigh sa r8 sr12 cr12 dr12 (fun r13 sr13 cr13 dr13 => (if (Int64.toInt32 r7) = (Int64.toInt32 (ush_L r13 (32 : Int32))) then (okO sr13 5 b3 ∧ C_Pr_hasBitsBehind sa b3 sr13 cr13 dr13 (fun r14 sr14 cr14 dr14 => (if r14 = 0 then (Q (1 : Int32) sr14 cr14 dr14) else (Q (0 : Int32) sr14 cr14 dr14)))) else (Q (0 : Int32) sr13 cr13 dr13)))) else (Q (0 : Int32) sr12 cr12 dr12))))))))))))))))))))))))))
set_option maxRecDepth 100000 in
set_option maxHeartbeats 4000000 in
theorem kc_Da_takePrefix (base : Nat) (sa : Nat → Nat) {R : pmM} {s : cS} {kc ks : Nat} {Rt : pmR} {p0 : Nat} {p1 : Int32} {p2 : Option Nat} {Q : (Int32 → cS → Nat → Nat → Prop)} (hw : cW sa R base s) (h : C_Da_takePrefix sa p0 p1 p2 s kc ks Q) (k : ∀ r s' kc' ks', cW sa R base s' → Q r s' kc' ks' → Rt (some (.int r)) (cM R s') kc' ks') : kP_Da_takePrefix base sa [.ref p0, .int p1, va_rf p2] (cM R s) kc ks Rt := by
  refine ⟨by cases p2 <;> exact Nat.le_of_ble_eq_true rfl, fun G hG => ?_⟩
  have eL : lv_args 0 [.ref p0, .int p1, va_rf p2] = [(0, va_rf (some p0)), (1, .int p1), (2, va_rf p2)] := by cases p2 <;> rfl
  rw [eL]
  refine (show KK sa R base G 0 [(0, va_rf (some p0)), (1, .int p1), (2, va_rf p2)] [] s kc ks (C_Da_takePrefix sa p0 p1 p2 s kc ks Q) from ?_) hw h
  refine kk_aln hG (x := (some p0)) rfl rfl ?_
  refine kk_gi hG (c := 2) (k := 4) (a := p0) rfl rfl rfl rfl (fun v1 => ?_)
  refine kk_bi hG rfl cc_b6 ?_
  refine kk_ine hG (t := 57) rfl rfl ?_ ?_
  · refine kk_aln hG (x := p2) rfl rfl ?_
    refine kk_aln hG (x := (some p0)) rfl rfl ?_
    refine kk_gp hG (c := 2) (k := 0) (a := p0) rfl rfl rfl rfl (fun v2 => ?_)
    refine kks hG rfl rfl ?_
    refine kk_ic hG rfl cc_i4 ?_
    refine kks hG rfl rfl ?_
    refine kk_ic hG rfl cc_i4 ?_
    refine kk_ob (fun b3 eb3 => ?_)
    subst eb3
    refine kk_cv hG 0 rfl rfl (Nat.le_of_ble_eq_true rfl) (by decide) rfl (st' := []) rfl (cats_le (Nat.le_of_ble_eq_true rfl)) (fun _ hw h k => kk_rcv h.1 (kc_Pr_takeBytes base sa hw h.2 k)) (fun sr4 cr4 dr4 => ?_)
    refine kk_aln hG (x := (some p0)) rfl rfl ?_
    refine kk_gp hG (c := 2) (k := 0) (a := p0) rfl rfl rfl rfl (fun v5 => ?_)
    refine kks hG rfl rfl ?_
    refine kk_bi hG rfl cc_b8 ?_
    refine kks hG rfl rfl ?_
    refine kk_ic hG rfl cc_i4 ?_
    refine kk_ob (fun b6 eb6 => ?_)
    subst eb6
    refine kk_cx (w := .long) hG 0 rfl rfl (Nat.le_of_ble_eq_true rfl) (by decide) rfl (st' := []) rfl (cats_le (Nat.le_of_ble_eq_true rfl)) (fun _ hw h k => kk_rcv h.1 (kc_By_numberAt base sa hw h.2 k)) (fun r7 sr7 cr7 dr7 => ?_)
    refine kks hG rfl rfl ?_
    refine kk_st hG (L' := [(3, .int (Int64.toInt32 r7)), (0, va_rf (some p0)), (1, .int p1), (2, va_rf (some b3))]) rfl rfl (Nat.le_of_ble_eq_true rfl) rfl ?_
    refine kks hG rfl rfl ?_
    refine kk_cx (w := .int) hG 2 rfl rfl (Nat.le_of_ble_eq_true rfl) (by decide) rfl (st' := []) rfl (cats_le (Nat.le_of_ble_eq_true rfl)) (fun _ hw h k => kc_Ig_bitCount base sa hw h k) (fun r8 sr8 cr8 dr8 => ?_)
    refine kk_st hG (L' := [(4, .int r8), (3, .int (Int64.toInt32 r7)), (0, va_rf (some p0)), (1, .int p1), (2, va_rf (some b3))]) rfl rfl (Nat.le_of_ble_eq_true rfl) rfl ?_
    refine kk_aln hG (x := (some b3)) rfl rfl ?_
    refine kks hG rfl rfl ?_
    refine kk_pi hG (c := 5) (k := 3) (a := b3) rfl rfl rfl rfl (fun s9 => ?_)
    refine kk_aln hG (x := (some p0)) rfl rfl ?_
    refine kk_gp hG (c := 2) (k := 0) (a := p0) rfl rfl rfl rfl (fun v10 => ?_)
    refine kks hG rfl rfl ?_
    refine kk_ic hG rfl cc_i2 ?_
    refine kk_ob (fun b11 eb11 => ?_)
    subst eb11
    refine kk_cx (w := .long) hG 0 rfl rfl (Nat.le_of_ble_eq_true rfl) (by decide) rfl (st' := []) rfl (cats_le (Nat.le_of_ble_eq_true rfl)) (fun _ hw h k => kk_rcv h.1 (kc_By_numberAt base sa hw h.2 k)) (fun r12 sr12 cr12 dr12 => ?_)
    refine kk_l2 hG (v := (2 : Int64)) rfl rfl ?_
    refine kks hG rfl rfl ?_
    refine kk_lne hG (t := 135) rfl rfl ?_ ?_
    · refine kk_ic hG rfl cc_i0 ?_
      exact kk_ri hG rfl rfl rfl k
    refine kks hG rfl rfl ?_
    refine kks hG rfl rfl ?_
    refine kk_cx (w := .long) hG 2 rfl rfl (Nat.le_of_ble_eq_true rfl) (by decide) rfl (st' := [.int (Int64.toInt32 r7)]) rfl (cats_le (Nat.le_of_ble_eq_true rfl)) (fun _ hw h k => kc_Pr_maskHigh base sa hw h k) (fun r13 sr13 cr13 dr13 => ?_)
    refine kk_bi hG rfl cc_b32 ?_
    refine kks hG rfl rfl ?_
    refine kks hG rfl rfl ?_
    refine kk_ine hG (t := 135) rfl rfl ?_ ?_
    · refine kk_ic hG rfl cc_i0 ?_
      exact kk_ri hG rfl rfl rfl k
    refine kk_aln hG (x := (some b3)) rfl rfl ?_
    refine kk_cx (w := .int) hG 0 rfl rfl (Nat.le_of_ble_eq_true rfl) (by decide) rfl (st' := []) rfl (cats_le (Nat.le_of_ble_eq_true rfl)) (fun _ hw h k => kk_rcv h.1 (kc_Pr_hasBitsBehind base sa hw h.2 k)) (fun r14 sr14 cr14 dr14 => ?_)
    refine kk_zne hG (t := 135) rfl rfl ?_ ?_
    · refine kk_ic hG rfl cc_i0 ?_
      exact kk_ri hG rfl rfl rfl k
    refine kk_ic hG rfl cc_i1 ?_
    refine kk_go hG (t := 136) rfl rfl ?_
    exact kk_ri hG rfl rfl rfl k
  refine kk_aln hG (x := p2) rfl rfl ?_
  refine kk_aln hG (x := (some p0)) rfl rfl ?_
  refine kk_gp hG (c := 2) (k := 0) (a := p0) rfl rfl rfl rfl (fun v15 => ?_)
  refine kks hG rfl rfl ?_
  refine kk_bi hG rfl cc_b6 ?_
  refine kk_ob (fun b16 eb16 => ?_)
  subst eb16
  refine kk_cv hG 0 rfl rfl (Nat.le_of_ble_eq_true rfl) (by decide) rfl (st' := []) rfl (cats_le (Nat.le_of_ble_eq_true rfl)) (fun _ hw h k => kk_rcv h.1 (kc_Pr_takeBytes base sa hw h.2 k)) (fun sr17 cr17 dr17 => ?_)
  refine kk_aln hG (x := (some p0)) rfl rfl ?_
  refine kk_gp hG (c := 2) (k := 0) (a := p0) rfl rfl rfl rfl (fun v18 => ?_)
  refine kks hG rfl rfl ?_
  refine kk_bi hG rfl cc_b18 ?_
  refine kks hG rfl rfl ?_
  refine kk_ob (fun b19 eb19 => ?_)
  subst eb19
  refine kk_cx (w := .int) hG 0 rfl rfl (Nat.le_of_ble_eq_true rfl) (by decide) rfl (st' := []) rfl (cats_le (Nat.le_of_ble_eq_true rfl)) (fun _ hw h k => kk_rcv h.1 (kc_By_at base sa hw h.2 k)) (fun r20 sr20 cr20 dr20 => ?_)
  refine kk_st hG (L' := [(3, .int r20), (0, va_rf (some p0)), (1, .int p1), (2, va_rf (some b16))]) rfl rfl (Nat.le_of_ble_eq_true rfl) rfl ?_
  refine kk_aln hG (x := (some b16)) rfl rfl ?_
  refine kks hG rfl rfl ?_
  refine kk_pi hG (c := 5) (k := 3) (a := b16) rfl rfl rfl rfl (fun s21 => ?_)
  refine kks hG rfl rfl ?_
  refine kk_si hG rfl cc_s128 ?_
  refine kk_igt hG (t := 55) rfl rfl ?_ ?_
  · refine kk_ic hG rfl cc_i0 ?_
    exact kk_ri hG rfl rfl rfl k
  refine kk_aln hG (x := (some b16)) rfl rfl ?_
  refine kk_cx (w := .int) hG 0 rfl rfl (Nat.le_of_ble_eq_true rfl) (by decide) rfl (st' := []) rfl (cats_le (Nat.le_of_ble_eq_true rfl)) (fun _ hw h k => kk_rcv h.1 (kc_Pr_hasBitsBehind base sa hw h.2 k)) (fun r22 sr22 cr22 dr22 => ?_)
  refine kk_zne hG (t := 55) rfl rfl ?_ ?_
  · refine kk_ic hG rfl cc_i0 ?_
    exact kk_ri hG rfl rfl rfl k
  refine kk_ic hG rfl cc_i1 ?_
  refine kk_go hG (t := 56) rfl rfl ?_
  exact kk_ri hG rfl rfl rfl k
