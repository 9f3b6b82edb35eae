/-! Methods as weakest preconditions, by program: Po_entryRoom .. Da_init -/
def C_Po_entryRoom_b77 (sa : Nat → Nat) (a3 : Int32) (a4 : Int32) (s : cS) (kc ks : Nat) (Q : (Int32 → cS → Nat → Nat → Prop)) : Prop := Q (mxI (1 : Int32) (mnI a3 (a4 / (20 : Int32)))) s kc ks
def C_Po_entryRoom_b38 (sa : Nat → Nat) (p0 : Nat) (p1 : Int32) (p2 : Int32) (a3 : Int32) (a4 : Int32) (s : cS) (kc ks : Nat) (Q : (Int32 → cS → Nat → Nat → Prop)) : Prop := if p1 = (4 : Int32) then (if p2 < 0 then ((C_Po_entryRoom_b77 sa a3 a4 s kc ks Q)) else (ob (gP s 4 6 p0) (fun v1 => (ob v1 (fun b2 => (okO s 1 b2 ∧ C_Ch_endSize sa b2 p2 s kc ks (fun r3 sr3 cr3 dr3 => (ob (gP sr3 4 6 p0) (fun v4 => (ob v4 (fun b5 => (okO sr3 1 b5 ∧ C_Ch_endSize sa b5 p2 sr3 cr3 dr3 (fun r6 sr6 cr6 dr6 => ((C_Po_entryRoom_b77 sa (a3 - (r3 / (20 : Int32))) (a4 - ((20 : Int32) + r6)) sr6 cr6 dr6 Q))))))))))))))) else ((C_Po_entryRoom_b77 sa a3 a4 s kc ks Q))
def C_Po_entryRoom (sa : Nat → Nat) (p0 : Nat) (p1 : Int32) (p2 : Int32) (s : cS) (kc ks : Nat) (Q : (Int32 → cS → Nat → Nat → Prop)) : Prop := ob (gP s 4 0 p0) (fun v1 => (ob v1 (fun b2 => (ob (gI s 3 3 b2) (fun v3 => (if p1 = (4 : Int32) then (ob (gP s 4 6 p0) (fun v4 => (ob v4 (fun b5 => (ob (gI s 1 0 b5) (fun v6 => (if v6 = 0 then ((C_Po_entryRoom_b38 sa p0 p1 p2 (25 : Int32) (v3 - (4 : Int32)) s kc ks Q)) else ((C_Po_entryRoom_b77 sa ((25 : Int32) + ((-1) : Int32)) ((v3 - (4 : Int32)) + ((-20) : Int32)) s kc ks Q))))))))) else ((C_Po_entryRoom_b38 sa p0 p1 p2 (25 : Int32) (v3 - (4 : Int32)) s kc ks Q))))))))
set_option maxRecDepth 100000 in
set_option maxHeartbeats 4000000 in
theorem kc_Po_entryRoom (base : Nat) (sa : Nat → Nat) {R : pmM} {s : cS} {kc ks : Nat} {Rt : pmR} {p0 : Nat} {p1 : Int32} {p2 : Int32} {Q : (Int32 → cS → Nat → Nat → Prop)} (hw : cW sa R base s) (h : C_Po_entryRoom sa p0 p1 p2 s kc ks Q) (k : ∀ r s' kc' ks', cW sa R base s' → Q r s' kc' ks' → Rt (some (.int r)) (cM R s') kc' ks') : kP_Po_entryRoom base sa [.ref p0, .int p1, .int p2] (cM R s) kc ks Rt := by
  refine ⟨Nat.le_of_ble_eq_true rfl, fun G hG => ?_⟩
  have b77 : ∀ (a3 : Int32) (a4 : Int32) (s : cS) (kc ks : Nat), KK sa R base G 77 [(3, .int a3), (4, .int a4)] [] s kc ks (C_Po_entryRoom_b77 sa a3 a4 s kc ks Q) := by
    intro a3 a4 s kc ks
    refine kk_ic hG rfl cc_i1 ?_
    refine kks hG rfl rfl ?_
    refine kks hG rfl rfl ?_
    refine kk_bi hG rfl cc_b20 ?_
    refine kkc hG rfl rfl (by decide) ?_
    refine kk_mn hG rfl rfl (Nat.le_of_ble_eq_true rfl) ?_
    refine kk_mx hG rfl rfl (Nat.le_of_ble_eq_true rfl) ?_
    exact kk_ri hG rfl rfl rfl k
  have b38 : ∀ (a3 : Int32) (a4 : Int32) (s : cS) (kc ks : Nat), KK sa R base G 38 [(0, va_rf (some p0)), (1, .int p1), (2, .int p2), (3, .int a3), (4, .int a4)] [] s kc ks (C_Po_entryRoom_b38 sa p0 p1 p2 a3 a4 s kc ks Q) := by
    intro a3 a4 s kc ks
    refine kks hG rfl rfl ?_
    refine kk_ic hG rfl cc_i4 ?_
    refine kk_ine hG (t := 77) rfl rfl ?_ ?_
    · exact kk_wl hG [3, 4] rfl (b77 _ _ _ _ _)
    refine kks hG rfl rfl ?_
    refine kk_zlt hG (t := 77) rfl rfl ?_ ?_
    · exact kk_wl hG [3, 4] rfl (b77 _ _ _ _ _)
    refine kks hG rfl rfl ?_
    refine kk_aln hG (x := (some p0)) rfl rfl ?_
    refine kk_gp hG (c := 4) (k := 6) (a := p0) rfl rfl rfl rfl (fun v1 => ?_)
    refine kks hG rfl rfl ?_
    refine kk_ob (fun b2 eb2 => ?_)
    subst eb2
    refine kk_cx (w := .int) hG 0 rfl rfl (Nat.le_of_ble_eq_true rfl) (by decide) rfl (st' := [.int a3]) rfl (cats_le (Nat.le_of_ble_eq_true rfl)) (fun _ hw h k => kk_rcv h.1 (kc_Ch_endSize base sa hw h.2 k)) (fun r3 sr3 cr3 dr3 => ?_)
    refine kk_bi hG rfl cc_b20 ?_
    refine kkc hG rfl rfl (by decide) ?_
    refine kks hG rfl rfl ?_
    refine kk_st hG (L' := [(3, .int (a3 - (r3 / (20 : Int32)))), (0, va_rf (some p0)), (1, .int p1), (2, .int p2), (4, .int a4)]) rfl rfl (Nat.le_of_ble_eq_true rfl) rfl ?_
    refine kks hG rfl rfl ?_
    refine kk_bi hG rfl cc_b20 ?_
    refine kk_aln hG (x := (some p0)) rfl rfl ?_
    refine kk_gp hG (c := 4) (k := 6) (a := p0) rfl rfl rfl rfl (fun v4 => ?_)
    refine kks hG rfl rfl ?_
    refine kk_ob (fun b5 eb5 => ?_)
    subst eb5
    refine kk_cx (w := .int) hG 0 rfl rfl (Nat.le_of_ble_eq_true rfl) (by decide) rfl (st' := [.int (20 : Int32), .int a4]) rfl (cats_le (Nat.le_of_ble_eq_true rfl)) (fun _ hw h k => kk_rcv h.1 (kc_Ch_endSize base sa hw h.2 k)) (fun r6 sr6 cr6 dr6 => ?_)
    refine kks hG rfl rfl ?_
    refine kks hG rfl rfl ?_
    refine kk_st hG (L' := [(4, .int (a4 - ((20 : Int32) + r6))), (3, .int (a3 - (r3 / (20 : Int32)))), (0, va_rf (some p0)), (1, .int p1), (2, .int p2)]) rfl rfl (Nat.le_of_ble_eq_true rfl) rfl ?_
    exact kk_wl hG [1, 0] rfl (b77 _ _ _ _ _)
  refine (show KK sa R base G 0 [(0, va_rf (some p0)), (1, .int p1), (2, .int p2)] [] s kc ks (C_Po_entryRoom sa p0 p1 p2 s kc ks Q) from ?_) hw h
  refine kk_bi hG rfl cc_b25 ?_
  refine kk_st hG (L' := [(3, .int (25 : Int32)), (0, va_rf (some p0)), (1, .int p1), (2, .int p2)]) rfl rfl (Nat.le_of_ble_eq_true rfl) rfl ?_
  refine kk_aln hG (x := (some p0)) rfl rfl ?_
  refine kk_gp hG (c := 4) (k := 0) (a := p0) rfl rfl rfl rfl (fun v1 => ?_)
  refine kk_ob (fun b2 eb2 => ?_)
  subst eb2
  refine kk_gi hG (c := 3) (k := 3) (a := b2) rfl rfl rfl rfl (fun v3 => ?_)
  refine kk_ic hG rfl cc_i4 ?_
  refine kks hG rfl rfl ?_
  refine kk_st hG (L' := [(4, .int (v3 - (4 : Int32))), (3, .int (25 : Int32)), (0, va_rf (some p0)), (1, .int p1), (2, .int p2)]) rfl rfl (Nat.le_of_ble_eq_true rfl) rfl ?_
  refine kks hG rfl rfl ?_
  refine kk_ic hG rfl cc_i4 ?_
  refine kk_ine hG (t := 38) rfl rfl ?_ ?_
  · exact kk_wl hG [2, 3, 4, 1, 0] rfl (b38 _ _ _ _ _)
  refine kk_aln hG (x := (some p0)) rfl rfl ?_
  refine kk_gp hG (c := 4) (k := 6) (a := p0) rfl rfl rfl rfl (fun v4 => ?_)
  refine kk_ob (fun b5 eb5 => ?_)
  subst eb5
  refine kk_gi hG (c := 1) (k := 0) (a := b5) rfl rfl rfl rfl (fun v6 => ?_)
  refine kk_zeq hG (t := 38) rfl rfl ?_ ?_
  · exact kk_wl hG [2, 3, 4, 1, 0] rfl (b38 _ _ _ _ _)
  refine kk_inc hG (L' := [(3, .int ((25 : Int32) + ((-1) : Int32))), (4, .int (v3 - (4 : Int32))), (0, va_rf (some p0)), (1, .int p1), (2, .int p2)]) rfl (Nat.le_of_ble_eq_true rfl) rfl cc_im1 rfl ?_
  refine kk_inc hG (L' := [(4, .int ((v3 - (4 : Int32)) + ((-20) : Int32))), (3, .int ((25 : Int32) + ((-1) : Int32))), (0, va_rf (some p0)), (1, .int p1), (2, .int p2)]) rfl (Nat.le_of_ble_eq_true rfl) rfl cc_im20 rfl ?_
  refine kk_go hG (t := 77) rfl rfl ?_
  exact kk_wl hG [1, 0] rfl (b77 _ _ _ _ _)
def C_Pr_maskHigh (sa : Nat → Nat) (p0 : Int32) (s : cS) (kc ks : Nat) (Q : (Int64 → cS → Nat → Nat → Prop)) : Prop := if 0 < p0 then (if p0 < (64 : Int32) then (Q (((-1) : Int64) <<< ((Int32.toInt64 ((64 : Int32) - p0)) &&& 63)) s kc ks) else (Q ((-1) : Int64) s kc ks)) else (Q (0 : Int64) s kc ks)
set_option maxRecDepth 100000 in
set_option maxHeartbeats 4000000 in
theorem kc_Pr_maskHigh (base : Nat) (sa : Nat → Nat) {R : pmM} {s : cS} {kc ks : Nat} {Rt : pmR} {p0 : Int32} {Q : (Int64 → cS → Nat → Nat → Prop)} (hw : cW sa R base s) (h : C_Pr_maskHigh sa p0 s kc ks Q) (k : ∀ r s' kc' ks', cW sa R base s' → Q r s' kc' ks' → Rt (some (.long r)) (cM R s') kc' ks') : kP_Pr_maskHigh base sa [.int p0] (cM R s) kc ks Rt := by
  refine ⟨Nat.le_of_ble_eq_true rfl, fun G hG => ?_⟩
  refine (show KK sa R base G 0 [(0, .int p0)] [] s kc ks (C_Pr_maskHigh sa p0 s kc ks Q) from ?_) hw h
  refine kks hG rfl rfl ?_
  refine kk_zgt hG (t := 6) rfl rfl ?_ ?_
  · refine kks hG rfl rfl ?_
    refine kk_bi hG rfl cc_b64 ?_
    refine kk_ilt hG (t := 18) rfl rfl ?_ ?_
    · refine kk_l2 hG (v := ((-1) : Int64)) rfl rfl ?_
      refine kk_bi hG rfl cc_b64 ?_
      refine kks hG rfl rfl ?_
      refine kks hG rfl rfl ?_
      refine kks hG rfl rfl ?_
      exact kk_rl hG rfl rfl k
    refine kk_l2 hG (v := ((-1) : Int64)) rfl rfl ?_
    refine kk_go hG (t := 26) rfl rfl ?_
    exact kk_rl hG rfl rfl k
  refine kk_lc hG (c := 0) (v := 0) rfl rfl ?_
  exact kk_rl hG rfl rfl k
def C_Da_addEntry (sa : Nat → Nat) (p0 : Nat) (p1 : Option Nat) (p2 : Int32) (p3 : Int32) (s : cS) (kc ks : Nat) (Q : (cS → Nat → Nat → Prop)) : Prop := ob (gI s 2 4 p0) (fun v1 => (if v1 = (4 : Int32) then (ob (gP s 2 0 p0) (fun v21 => (ob v21 (fun b22 => (okO s 0 b22 ∧ C_By_addNumber sa b22 (2 : Int64) (2 : Int32) s kc ks (fun sr23 cr23 dr23 => (ob (gP sr23 2 0 p0) (fun v24 => (ob v24 (fun b25 => (okO sr23 0 b25 ∧ C_By_addNumber sa b25 (Int32.toInt64 p2) (2 : Int32) sr23 cr23 dr23 (fun sr26 cr26 dr26 => (ob (gP sr26 2 0 p0) (fun v27 => (ob p1 (fun b28 => (ob (gJ sr26 5 1 b28) (fun v29 => (ob v27 (fun b30 => (okO sr26 0 b30 ∧ C_By_addNumber sa b30 (ush_L v29 (32 : Int32)) (4 : Int32) sr26 cr26 dr26 (fun sr31 cr31 dr31 => (ob (gP sr31 2 0 p0) (fun v32 => (ob (gI sr31 5 3 b28) (fun v33 => (C_Pr_maskHigh sa v33 sr31 cr31 dr31 (fun r34 sr34 cr34 dr34 => (ob v32 (fun b35 => (okO sr34 0 b35 ∧ C_By_addNumber sa b35 (ush_L r34 (32 : Int32)) (4 : Int32) sr34 cr34 dr34 (fun sr36 cr36 dr36 => (ob (gP sr36 2 0 p0) (fun v37 => (ob v37 (fun b38 => (okO sr36 0 b38 ∧ C_By_addNumber sa b38 (Int32.toInt64 p3) (8 : Int32) sr36 cr36 dr36 (fun sr39 cr39 dr39 => (Q sr39 cr39 dr39))))))))))))))))))))))))))))))))))))))) else (ob (gP s 2 0 p0) (fun v2 => (ob p1 (fun b3 => (ob (gJ s 5 1 b3) (fun v4 => (ob v2 (fun b5 => (okO s 0 b5 ∧ C_By_addNumber sa b5 v4 (8 : Int32) s kc ks (fun sr6 cr6 dr6 => (ob (gP sr6 2 0 p0) (fun v7 => (ob (gJ sr6 5 2 b3) (fun v8 => (ob v7 (fun b9 => (okO sr6 0 b9 ∧ C_By_addNumber sa b9 v8 (8 : Int32) sr6 cr6 dr6 (fun sr10 cr10 dr10 => (ob (gP sr10 2 0 p0) (fun v11 => (ob v11 (fun b12 => (okO sr10 0 b12 ∧ C_By_addNumber sa b12 (Int32.toInt64 p2) (2 : Int32) sr10 cr10 dr10 (fun sr13 cr13 dr13 => (ob (gP sr13 2 0 p0) (fun v14 => (ob (gI sr13 5 3 b3) (fun v15 => (ob v14 (fun b16 => (okO sr13 0 b16 ∧ C_By_add sa b16 v15 sr13 cr13 dr13 (fun sr17 cr17 dr17 => (ob (gP sr17 2 0 p0) (fun v18 => (ob v18 (fun b19 => (okO sr17 0 b19 ∧ C_By_add sa b19 p3 sr17 cr17 dr17 (fun sr20 cr20 dr20 => (Q sr20 cr20 dr20)))))))))))))))))))))))))))))))))))))))))
set_option maxRecDepth 100000 in
set_option maxHeartbeats 4000000 in
theorem kc_Da_addEntry (base : Nat) (sa : Nat → Nat) {R : pmM} {s : cS} {kc ks : Nat} {Rt : pmR} {p0 : Nat} {p1 : Option Nat} {p2 : Int32} {p3 : Int32} {Q : (cS → Nat → Nat → Prop)} (hw : cW sa R base s) (h : C_Da_addEntry sa p0 p1 p2 p3 s kc ks Q) (k : ∀ s' kc' ks', cW sa R base s' → Q s' kc' ks' → Rt none (cM R s') kc' ks') : kP_Da_addEntry base sa [.ref p0, va_rf p1, .int p2, .int p3] (cM R s) kc ks Rt := by
  refine ⟨by cases p1 <;> exact Nat.le_of_ble_eq_true rfl, fun G hG => ?_⟩
  have eL : lv_args 0 [.ref p0, va_rf p1, .int p2, .int p3] = [(0, va_rf (some p0)), (1, va_rf p1), (2, .int p2), (3, .int p3)] := by cases p1 <;> rfl
  rw [eL]
  refine (show KK sa R base G 0 [(0, va_rf (some p0)), (1, va_rf p1), (2, .int p2), (3, .int p3)] [] s kc ks (C_Da_addEntry sa p0 p1 p2 p3 s kc ks Q) from ?_) hw h
  refine kk_aln hG (x := (some p0)) rfl rfl ?_
  refine kk_gi hG (c := 2) (k := 4) (a := p0) rfl rfl rfl rfl (fun v1 => ?_)
  refine kk_ic hG rfl cc_i4 ?_
  refine kk_ine hG (t := 76) rfl rfl ?_ ?_
  · refine kk_aln hG (x := (some p0)) rfl rfl ?_
    refine kk_gp hG (c := 2) (k := 0) (a := p0) rfl rfl rfl rfl (fun v2 => ?_)
    refine kk_aln hG (x := p1) rfl rfl ?_
    refine kk_ob (fun b3 eb3 => ?_)
    subst eb3
    refine kk_gj hG (c := 5) (k := 1) (a := b3) rfl rfl rfl rfl (fun v4 => ?_)
    refine kk_bi hG rfl cc_b8 ?_
    refine kk_ob (fun b5 eb5 => ?_)
    subst eb5
    refine kk_cv hG 0 rfl rfl (Nat.le_of_ble_eq_true rfl) (by decide) rfl (st' := []) rfl (cats_le (Nat.le_of_ble_eq_true rfl)) (fun _ hw h k => kk_rcv h.1 (kc_By_addNumber base sa hw h.2 k)) (fun sr6 cr6 dr6 => ?_)
    refine kk_aln hG (x := (some p0)) rfl rfl ?_
    refine kk_gp hG (c := 2) (k := 0) (a := p0) rfl rfl rfl rfl (fun v7 => ?_)
    refine kk_aln hG (x := (some b3)) rfl rfl ?_
    refine kk_gj hG (c := 5) (k := 2) (a := b3) rfl rfl rfl rfl (fun v8 => ?_)
    refine kk_bi hG rfl cc_b8 ?_
    refine kk_ob (fun b9 eb9 => ?_)
    subst eb9
    refine kk_cv hG 0 rfl rfl (Nat.le_of_ble_eq_true rfl) (by decide) rfl (st' := []) rfl (cats_le (Nat.le_of_ble_eq_true rfl)) (fun _ hw h k => kk_rcv h.1 (kc_By_addNumber base sa hw h.2 k)) (fun sr10 cr10 dr10 => ?_)
    refine kk_aln hG (x := (some p0)) rfl rfl ?_
    refine kk_gp hG (c := 2) (k := 0) (a := p0) rfl rfl rfl rfl (fun v11 => ?_)
    refine kks hG rfl rfl ?_
    refine kks hG rfl rfl ?_
    refine kk_ic hG rfl cc_i2 ?_
    refine kk_ob (fun b12 eb12 => ?_)
    subst eb12
    refine kk_cv hG 0 rfl rfl (Nat.le_of_ble_eq_true rfl) (by decide) rfl (st' := []) rfl (cats_le (Nat.le_of_ble_eq_true rfl)) (fun _ hw h k => kk_rcv h.1 (kc_By_addNumber base sa hw h.2 k)) (fun sr13 cr13 dr13 => ?_)
    refine kk_aln hG (x := (some p0)) rfl rfl ?_
    refine kk_gp hG (c := 2) (k := 0) (a := p0) rfl rfl rfl rfl (fun v14 => ?_)
    refine kk_aln hG (x := (some b3)) rfl rfl ?_
    refine kk_gi hG (c := 5) (k := 3) (a := b3) rfl rfl rfl rfl (fun v15 => ?_)
    refine kk_ob (fun b16 eb16 => ?_)
    subst eb16
    refine kk_cv hG 0 rfl rfl (Nat.le_of_ble_eq_true rfl) (by decide) rfl (st' := []) rfl (cats_le (Nat.le_of_ble_eq_true rfl)) (fun _ hw h k => kk_rcv h.1 (kc_By_add base sa hw h.2 k)) (fun sr17 cr17 dr17 => ?_)
    refine kk_aln hG (x := (some p0)) rfl rfl ?_
    refine kk_gp hG (c := 2) (k := 0) (a := p0) rfl rfl rfl rfl (fun v18 => ?_)
    refine kks hG rfl rfl ?_
    refine kk_ob (fun b19 eb19 => ?_)
    subst eb19
    refine kk_cv hG 0 rfl rfl (Nat.le_of_ble_eq_true rfl) (by decide) rfl (st' := []) rfl (cats_le (Nat.le_of_ble_eq_true rfl)) (fun _ hw h k => kk_rcv h.1 (kc_By_add base sa hw h.2 k)) (fun sr20 cr20 dr20 => ?_)
    exact kk_rv hG rfl rfl k
  refine kk_aln hG (x := (some p0)) rfl rfl ?_
  refine kk_gp hG (c := 2) (k := 0) (a := p0) rfl rfl rfl rfl (fun v21 => ?_)
  refine kk_l2 hG (v := (2 : Int64)) rfl rfl ?_
  refine kk_ic hG rfl cc_i2 ?_
  refine kk_ob (fun b22 eb22 => ?_)
  subst eb22
  refine kk_cv hG 0 rfl rfl (Nat.le_of_ble_eq_true rfl) (by decide) rfl (st' := []) rfl (cats_le (Nat.le_of_ble_eq_true rfl)) (fun _ hw h k => kk_rcv h.1 (kc_By_addNumber base sa hw h.2 k)) (fun sr23 cr23 dr23 => ?_)
  refine kk_aln hG (x := (some p0)) rfl rfl ?_
  refine kk_gp hG (c := 2) (k := 0) (a := p0) rfl rfl rfl rfl (fun v24 => ?_)
  refine kks hG rfl rfl ?_
  refine kks hG rfl rfl ?_
  refine kk_ic hG rfl cc_i2 ?_
  refine kk_ob (fun b25 eb25 => ?_)
  subst eb25
  refine kk_cv hG 0 rfl rfl (Nat.le_of_ble_eq_true rfl) (by decide) rfl (st' := []) rfl (cats_le (Nat.le_of_ble_eq_true rfl)) (fun _ hw h k => kk_rcv h.1 (kc_By_addNumber base sa hw h.2 k)) (fun sr26 cr26 dr26 => ?_)
  refine kk_aln hG (x := (some p0)) rfl rfl ?_
  refine kk_gp hG (c := 2) (k := 0) (a := p0) rfl rfl rfl rfl (fun v27 => ?_)
  refine kk_aln hG (x := p1) rfl rfl ?_
  refine kk_ob (fun b28 eb28 => ?_)
  subst eb28
  refine kk_gj hG (c := 5) (k := 1) (a := b28) rfl rfl rfl rfl (fun v29 => ?_)
  refine kk_bi hG rfl cc_b32 ?_
  refine kks hG rfl rfl ?_
  refine kk_ic hG rfl cc_i4 ?_
  refine kk_ob (fun b30 eb30 => ?_)
  subst eb30
  refine kk_cv hG 0 rfl rfl (Nat.le_of_ble_eq_true rfl) (by decide) rfl (st' := []) rfl (cats_le (Nat.le_of_ble_eq_true rfl)) (fun _ hw h k => kk_rcv h.1 (kc_By_addNumber base sa hw h.2 k)) (fun sr31 cr31 dr31 => ?_)
  refine kk_aln hG (x := (some p0)) rfl rfl ?_
  refine kk_gp hG (c := 2) (k := 0) (a := p0) rfl rfl rfl rfl (fun v32 => ?_)
  refine kk_aln hG (x := (some b28)) rfl rfl ?_
  refine kk_gi hG (c := 5) (k := 3) (a := b28) rfl rfl rfl rfl (fun v33 => ?_)
  refine kk_cx (w := .long) hG 2 rfl rfl (Nat.le_of_ble_eq_true rfl) (by decide) rfl (st' := [va_rf v32]) rfl (cats_le (Nat.le_of_ble_eq_true rfl)) (fun _ hw h k => kc_Pr_maskHigh base sa hw h k) (fun r34 sr34 cr34 dr34 => ?_)
  refine kk_bi hG rfl cc_b32 ?_
  refine kks hG rfl rfl ?_
  refine kk_ic hG rfl cc_i4 ?_
  refine kk_ob (fun b35 eb35 => ?_)
  subst eb35
  refine kk_cv hG 0 rfl rfl (Nat.le_of_ble_eq_true rfl) (by decide) rfl (st' := []) rfl (cats_le (Nat.le_of_ble_eq_true rfl)) (fun _ hw h k => kk_rcv h.1 (kc_By_addNumber base sa hw h.2 k)) (fun sr36 cr36 dr36 => ?_)
  refine kk_aln hG (x := (some p0)) rfl rfl ?_
  refine kk_gp hG (c := 2) (k := 0) (a := p0) rfl rfl rfl rfl (fun v37 => ?_)
  refine kks hG rfl rfl ?_
  refine kks hG rfl rfl ?_
  refine kk_bi hG rfl cc_b8 ?_
  refine kk_ob (fun b38 eb38 => ?_)
  subst eb38
  refine kk_cv hG 0 rfl rfl (Nat.le_of_ble_eq_true rfl) (by decide) rfl (st' := []) rfl (cats_le (Nat.le_of_ble_eq_true rfl)) (fun _ hw h k => kk_rcv h.1 (kc_By_addNumber base sa hw h.2 k)) (fun sr39 cr39 dr39 => ?_)
  refine kk_go hG (t := 131) rfl rfl ?_
  exact kk_rv hG rfl rfl k
def C_By_setAt (sa : Nat → Nat) (p0 : Nat) (p1 : Int32) (p2 : Int32) (s : cS) (kc ks : Nat) (Q : (cS → Nat → Nat → Prop)) : Prop := if p1 < 0 then (Q s kc ks) else (ob (gI s 0 1 p0) (fun v1 => (if p1 < v1 then (ob (gP s 0 0 p0) (fun v2 => (ob v2 (fun b3 => (ob (wEb s b3 p1 (Int8.toInt32 (Int32.toInt8 p2))) (fun s4 => (Q s4 kc ks))))))) else (Q s kc ks))))
set_option maxRecDepth 100000 in
set_option maxHeartbeats 4000000 in
theorem kc_By_setAt (base : Nat) (sa : Nat → Nat) {R : pmM} {s : cS} {kc ks : Nat} {Rt : pmR} {p0 : Nat} {p1 : Int32} {p2 : Int32} {Q : (cS → Nat → Nat → Prop)} (hw : cW sa R base s) (h : C_By_setAt sa p0 p1 p2 s kc ks Q) (k : ∀ s' kc' ks', cW sa R base s' → Q s' kc' ks' → Rt none (cM R s') kc' ks') : kP_By_setAt base sa [.ref p0, .int p1, .int p2] (cM R s) kc ks Rt := by
  refine ⟨Nat.le_of_ble_eq_true rfl, fun G hG => ?_⟩
  refine (show KK sa R base G 0 [(0, va_rf (some p0)), (1, .int p1), (2, .int p2)] [] s kc ks (C_By_setAt sa p0 p1 p2 s kc ks Q) from ?_) hw h
  refine kks hG rfl rfl ?_
  refine kk_zlt hG (t := 20) rfl rfl ?_ ?_
  · exact kk_rv hG rfl rfl k
  refine kks hG rfl rfl ?_
  refine kk_aln hG (x := (some p0)) rfl rfl ?_
  refine kk_gi hG (c := 0) (k := 1) (a := p0) rfl rfl rfl rfl (fun v1 => ?_)
  refine kk_ige hG (t := 20) rfl rfl ?_ ?_
  · exact kk_rv hG rfl rfl k
  refine kk_aln hG (x := (some p0)) rfl rfl ?_
  refine kk_gp hG (c := 0) (k := 0) (a := p0) rfl rfl rfl rfl (fun v2 => ?_)
  refine kks hG rfl rfl ?_
  refine kks hG rfl rfl ?_
  refine kks hG rfl rfl ?_
  refine kk_ob (fun b3 eb3 => ?_)
  subst eb3
  refine kk_bs hG (a := b3) rfl (fun s4 => ?_)
  exact kk_rv hG rfl rfl k
def C_Ch_seal_s43 (sa : Nat → Nat) (p0 : Nat) (p1 : Option Nat) (p2 : Int32) (a3 : Int32) (s : cS) (kc ks : Nat) (Q : (cS → Nat → Nat → Prop)) (P43 : (Int32 → cS → Nat → Nat → Prop)) : Prop := ob (gP s 1 4 p0) (fun v1 => (ob v1 (fun b2 => (ob (rE s .int b2 p2) (fun v3 => (if a3 < v3 then (okO s 1 p0 ∧ C_Ch_sumByte sa p0 a3 p2 s kc ks (fun r9 sr9 cr9 dr9 => (ob p1 (fun b10 => (okO sr9 0 b10 ∧ C_By_add sa b10 r9 sr9 cr9 dr9 (fun sr11 cr11 dr11 => ((P43 (a3 + (1 : Int32)) sr11 cr11 dr11)))))))) else ((ob (gP s 1 4 p0) (fun v4 => (ob v4 (fun b5 => (ob (rE s .int b5 p2) (fun v6 => (if v6 = (20 : Int32) then (ob p1 (fun b7 => (okO s 0 b7 ∧ C_By_addZeros sa b7 (16 : Int32) s kc ks (fun sr8 cr8 dr8 => (Q sr8 cr8 dr8))))) else (Q s kc ks)))))))))))))))
def C_Ch_seal_b43 (sa : Nat → Nat) (p0 : Nat) (p1 : Option Nat) (p2 : Int32) (a3 : Int32) (s : cS) (kc ks : Nat) (Q : (cS → Nat → Nat → Prop)) : Prop := ∀ P43 : (Int32 → cS → Nat → Nat → Prop), (∀ (a3 : Int32) (s : cS) (kc ks : Nat), C_Ch_seal_s43 sa p0 p1 p2 a3 s kc ks Q P43 → P43 a3 s kc ks) → P43 a3 s kc ks
def C_Ch_seal (sa : Nat → Nat) (p0 : Nat) (p1 : Option Nat) (p2 : Int32) (s : cS) (kc ks : Nat) (Q : (cS → Nat → Nat → Prop)) : Prop := ob p1 (fun b1 => (ob (gI s 0 1 b1) (fun v2 => (okO s 0 b1 ∧ C_By_setAt sa b1 (8 : Int32) (v2 >>> ((8 : Int32) &&& 31)) s kc ks (fun sr3 cr3 dr3 => (ob (gI sr3 0 1 b1) (fun v4 => (okO sr3 0 b1 ∧ C_By_setAt sa b1 (9 : Int32) v4 sr3 cr3 dr3 (fun sr5 cr5 dr5 => (okO sr5 0 b1 ∧ C_By_addNumber sa b1 (4294901761 : Int64) (4 : Int32) sr5 cr5 dr5 (fun sr6 cr6 dr6 => (ob (gI sr6 0 1 b1) (fun v7 => (okO sr6 1 p0 ∧ C_Ch_sum sa p0 (some b1) v7 p2 sr6 cr6 dr6 (fun sr8 cr8 dr8 => ((C_Ch_seal_b43 sa p0 (some b1) p2 (0 : Int32) sr8 cr8 dr8 Q)))))))))))))))))
set_option maxRecDepth 100000 in
set_option maxHeartbeats 4000000 in
theorem kc_Ch_seal (base : Nat) (sa : Nat → Nat) {R : pmM} {s : cS} {kc ks : Nat} {Rt : pmR} {p0 : Nat} {p1 : Option Nat} {p2 : Int32} {Q : (cS → Nat → Nat → Prop)} (hw : cW sa R base s) (h : C_Ch_seal sa p0 p1 p2 s kc ks Q) (k : ∀ s' kc' ks', cW sa R base s' → Q s' kc' ks' → Rt none (cM R s') kc' ks') : kP_Ch_seal base sa [.ref p0, va_rf p1, .int p2] (cM R s) kc ks Rt := by
  refine ⟨by cases p1 <;> exact Nat.le_of_ble_eq_true rfl, fun G hG => ?_⟩
  have eL : lv_args 0 [.ref p0, va_rf p1, .int p2] = [(0, va_rf (some p0)), (1, va_rf p1), (2, .int p2)] := by cases p1 <;> rfl
  rw [eL]
  have b43 : ∀ (a3 : Int32) (s : cS) (kc ks : Nat), KK sa R base G 43 [(0, va_rf (some p0)), (1, va_rf p1), (2, .int p2), (3, .int a3)] [] s kc ks (C_Ch_seal_b43 sa p0 p1 p2 a3 s kc ks Q) := by
    have H : ∀ (P43 : (Int32 → cS → Nat → Nat → Prop)) (hP43 : ∀ (a3 : Int32) (s : cS) (kc ks : Nat), P43 a3 s kc ks → cW sa R base s → G 43 [(0, va_rf (some p0)), (1, va_rf p1), (2, .int p2), (3, .int a3)] [] (cM R s) kc ks) (a3 : Int32) (s : cS) (kc ks : Nat), KK sa R base G 43 [(0, va_rf (some p0)), (1, va_rf p1), (2, .int p2), (3, .int a3)] [] s kc ks (C_Ch_seal_s43 sa p0 p1 p2 a3 s kc ks Q P43) := by
      intro P43 hP43
      intro a3 s kc ks
      refine kks hG rfl rfl ?_
      refine kk_aln hG (x := (some p0)) rfl rfl ?_
      refine kk_gp hG (c := 1) (k := 4) (a := p0) rfl rfl rfl rfl (fun v1 => ?_)
      refine kks hG rfl rfl ?_
      refine kk_ob (fun b2 eb2 => ?_)
      subst eb2
      refine kk_ia hG (a := b2) rfl (fun v3 => ?_)
      refine kk_ige hG (t := 69) rfl rfl ?_ ?_
      · refine kk_aln hG (x := (some p0)) rfl rfl ?_
        refine kk_gp hG (c := 1) (k := 4) (a := p0) rfl rfl rfl rfl (fun v4 => ?_)
        refine kks hG rfl rfl ?_
        refine kk_ob (fun b5 eb5 => ?_)
        subst eb5
        refine kk_ia hG (a := b5) rfl (fun v6 => ?_)
        refine kk_bi hG rfl cc_b20 ?_
        refine kk_ine hG (t := 86) rfl rfl ?_ ?_
        · exact kk_rv hG rfl rfl k
        refine kk_aln hG (x := p1) rfl rfl ?_
        refine kk_bi hG rfl cc_b16 ?_
        refine kk_ob (fun b7 eb7 => ?_)
        subst eb7
        refine kk_cv hG 0 rfl rfl (Nat.le_of_ble_eq_true rfl) (by decide) rfl (st' := []) rfl (cats_le (Nat.le_of_ble_eq_true rfl)) (fun _ hw h k => kk_rcv h.1 (kc_By_addZeros base sa hw h.2 k)) (fun sr8 cr8 dr8 => ?_)
        exact kk_rv hG rfl rfl k
      refine kk_aln hG (x := p1) rfl rfl ?_
      refine kk_aln hG (x := (some p0)) rfl rfl ?_
      refine kks hG rfl rfl ?_
      refine kks hG rfl rfl ?_
      refine kk_cx (w := .int) hG 0 rfl rfl (Nat.le_of_ble_eq_true rfl) (by decide) rfl (st' := [va_rf p1]) rfl (cats_le (Nat.le_of_ble_eq_true rfl)) (fun _ hw h k => kk_rcv h.1 (kc_Ch_sumByte base sa hw h.2 k)) (fun r9 sr9 cr9 dr9 => ?_)
      refine kk_ob (fun b10 eb10 => ?_)
      subst eb10
      refine kk_cv hG 0 rfl rfl (Nat.le_of_ble_eq_true rfl) (by decide) rfl (st' := []) rfl (cats_le (Nat.le_of_ble_eq_true rfl)) (fun _ hw h k => kk_rcv h.1 (kc_By_add base sa hw h.2 k)) (fun sr11 cr11 dr11 => ?_)
      refine kk_inc hG (L' := [(3, .int (a3 + (1 : Int32))), (0, va_rf (some p0)), (1, va_rf (some b10)), (2, .int p2)]) rfl (Nat.le_of_ble_eq_true rfl) rfl cc_i1 rfl ?_
      refine kk_go hG (t := 43) rfl rfl ?_
      exact kk_wl hG [1, 2, 3, 0] rfl (fun hw h => hP43 _ _ _ _ h hw)
    exact fun a3 s kc ks hw h => h (fun a3 s kc ks => cW sa R base s → G 43 [(0, va_rf (some p0)), (1, va_rf p1), (2, .int p2), (3, .int a3)] [] (cM R s) kc ks) (fun a3 s kc ks hs hw => H _ (fun _ _ _ _ hp hw => hp hw) a3 s kc ks hw hs) hw
  refine (show KK sa R base G 0 [(0, va_rf (some p0)), (1, va_rf p1), (2, .int p2)] [] s kc ks (C_Ch_seal sa p0 p1 p2 s kc ks Q) from ?_) hw h
  refine kk_aln hG (x := p1) rfl rfl ?_
  refine kk_bi hG rfl cc_b8 ?_
  refine kk_aln hG (x := p1) rfl rfl ?_
  refine kk_ob (fun b1 eb1 => ?_)
  subst eb1
  refine kk_gi hG (c := 0) (k := 1) (a := b1) rfl rfl rfl rfl (fun v2 => ?_)
  refine kk_bi hG rfl cc_b8 ?_
  refine kks hG rfl rfl ?_
  refine kk_cv hG 0 rfl rfl (Nat.le_of_ble_eq_true rfl) (by decide) rfl (st' := []) rfl (cats_le (Nat.le_of_ble_eq_true rfl)) (fun _ hw h k => kk_rcv h.1 (kc_By_setAt base sa hw h.2 k)) (fun sr3 cr3 dr3 => ?_)
  refine kk_aln hG (x := (some b1)) rfl rfl ?_
  refine kk_bi hG rfl cc_b9 ?_
  refine kk_aln hG (x := (some b1)) rfl rfl ?_
  refine kk_gi hG (c := 0) (k := 1) (a := b1) rfl rfl rfl rfl (fun v4 => ?_)
  refine kk_cv hG 0 rfl rfl (Nat.le_of_ble_eq_true rfl) (by decide) rfl (st' := []) rfl (cats_le (Nat.le_of_ble_eq_true rfl)) (fun _ hw h k => kk_rcv h.1 (kc_By_setAt base sa hw h.2 k)) (fun sr5 cr5 dr5 => ?_)
  refine kk_aln hG (x := (some b1)) rfl rfl ?_
  refine kk_l2 hG (v := (4294901761 : Int64)) rfl rfl ?_
  refine kk_ic hG rfl cc_i4 ?_
  refine kk_cv hG 0 rfl rfl (Nat.le_of_ble_eq_true rfl) (by decide) rfl (st' := []) rfl (cats_le (Nat.le_of_ble_eq_true rfl)) (fun _ hw h k => kk_rcv h.1 (kc_By_addNumber base sa hw h.2 k)) (fun sr6 cr6 dr6 => ?_)
  refine kk_aln hG (x := (some p0)) rfl rfl ?_
  refine kk_aln hG (x := (some b1)) rfl rfl ?_
  refine kk_aln hG (x := (some b1)) rfl rfl ?_
  refine kk_gi hG (c := 0) (k := 1) (a := b1) rfl rfl rfl rfl (fun v7 => ?_)
  refine kks hG rfl rfl ?_
  refine kk_cv hG 0 rfl rfl (Nat.le_of_ble_eq_true rfl) (by decide) rfl (st' := []) rfl (cats_le (Nat.le_of_ble_eq_true rfl)) (fun _ hw h k => kk_rcv h.1 (kc_Ch_sum base sa hw h.2 k)) (fun sr8 cr8 dr8 => ?_)
  refine kk_ic hG rfl cc_i0 ?_
  refine kk_st hG (L' := [(3, .int (0 : Int32)), (0, va_rf (some p0)), (1, va_rf (some b1)), (2, .int p2)]) rfl rfl (Nat.le_of_ble_eq_true rfl) rfl ?_
  exact kk_wl hG [1, 2, 3, 0] rfl (b43 _ _ _ _)
def C_By_addPart_b80 (sa : Nat → Nat) (p0 : Nat) (p1 : Option Nat) (p2 : Int32) (a4 : Int32) (s : cS) (kc ks : Nat) (Q : (cS → Nat → Nat → Prop)) : Prop := ob p1 (fun b1 => (ob (gP s 0 0 b1) (fun v2 => (ob (gP s 0 0 p0) (fun v3 => (ob (gI s 0 1 p0) (fun v4 => (ob v2 (fun b5 => (ob v3 (fun b6 => (ob (cpE s b5 p2 b6 v4 a4) (fun s7 => (ob (gI s7 0 1 p0) (fun v8 => (ob (pI s7 0 1 p0 (v8 + a4)) (fun s9 => (Q s9 kc ks))))))))))))))))))
def C_By_addPart (sa : Nat → Nat) (p0 : Nat) (p1 : Option Nat) (p2 : Int32) (p3 : Int32) (s : cS) (kc ks : Nat) (Q : (cS → Nat → Nat → Prop)) : Prop := if p2 < 0 then (Q s kc ks) else (if 0 < (p3 - p2) then (ob p1 (fun b1 => (ob (gI s 0 1 b1) (fun v2 => (if v2 < p3 then (Q s kc ks) else (ob (gI s 0 1 p0) (fun v3 => (ob (gP s 0 0 p0) (fun v4 => (ob v4 (fun b5 => (ob (aL s b5) (fun v6 => (if v6 < (v3 + (p3 - p2)) then (ob (gP s 0 0 p0) (fun v7 => (ob v7 (fun b8 => (ob (aL s b8) (fun v9 => (ob (gI s 0 1 p0) (fun v10 => (nwA s kc ks .byte (mxI (v9 * (2 : Int32)) (v10 + (p3 - p2))) (fun q11 sq11 cq11 dq11 => (ob (gP sq11 0 0 p0) (fun v12 => (ob (gI sq11 0 1 p0) (fun v13 => (ob v12 (fun b14 => (ob (cpE sq11 b14 (0 : Int32) q11 (0 : Int32) v13) (fun s15 => (ob (pP s15 0 0 p0 (some q11)) (fun s16 => ((C_By_addPart_b80 sa p0 (some b1) p2 (p3 - p2) s16 cq11 dq11 Q)))))))))))))))))))))) else ((C_By_addPart_b80 sa p0 (some b1) p2 (p3 - p2) s kc ks Q)))))))))))))))) else (Q s kc ks))
set_option maxRecDepth 100000 in
set_option maxHeartbeats 4000000 in
theorem kc_By_addPart (base : Nat) (sa : Nat → Nat) {R : pmM} {s : cS} {kc ks : Nat} {Rt : pmR} {p0 : Nat} {p1 : Option Nat} {p2 : Int32} {p3 : Int32} {Q : (cS → Nat → Nat → Prop)} (hw : cW sa R base s) (h : C_By_addPart sa p0 p1 p2 p3 s kc ks Q) (k : ∀ s' kc' ks', cW sa R base s' → Q s' kc' ks' → Rt none (cM R s') kc' ks') : kP_By_addPart base sa [.ref p0, va_rf p1, .int p2, .int p3] (cM R s) kc ks Rt := by
  refine ⟨by cases p1 <;> exact Nat.le_of_ble_eq_true rfl, fun G hG => ?_⟩
  have eL : lv_args 0 [.ref p0, va_rf p1, .int p2, .int p3] = [(0, va_rf (some p0)), (1, va_rf p1), (2, .int p2), (3, .int p3)] := by cases p1 <;> rfl
  rw [eL]
  have b80 : ∀ (a4 : Int32) (s : cS) (kc ks : Nat), KK sa R base G 80 [(0, va_rf (some p0)), (1, va_rf p1), (2, .int p2), (4, .int a4)] [] s kc ks (C_By_addPart_b80 sa p0 p1 p2 a4 s kc ks Q) := by
    intro a4 s kc ks
    refine kk_aln hG (x := p1) rfl rfl ?_
    refine kk_ob (fun b1 eb1 => ?_)
    subst eb1
    refine kk_gp hG (c := 0) (k := 0) (a := b1) rfl rfl rfl rfl (fun v2 => ?_)
    refine kks hG rfl rfl ?_
    refine kk_aln hG (x := (some p0)) rfl rfl ?_
    refine kk_gp hG (c := 0) (k := 0) (a := p0) rfl rfl rfl rfl (fun v3 => ?_)
    refine kk_aln hG (x := (some p0)) rfl rfl ?_
    refine kk_gi hG (c := 0) (k := 1) (a := p0) rfl rfl rfl rfl (fun v4 => ?_)
    refine kks hG rfl rfl ?_
    refine kk_ob (fun b5 eb5 => ?_)
    subst eb5
    refine kk_ob (fun b6 eb6 => ?_)
    subst eb6
    refine kk_acp hG (a := b5) (b := b6) rfl rfl (Nat.le_of_ble_eq_true rfl) (fun s7 => ?_)
    refine kk_aln hG (x := (some p0)) rfl rfl ?_
    refine kk_dup hG (x := (some p0)) rfl ?_
    refine kk_gi hG (c := 0) (k := 1) (a := p0) rfl rfl rfl rfl (fun v8 => ?_)
    refine kks hG rfl rfl ?_
    refine kks hG rfl rfl ?_
    refine kk_pi hG (c := 0) (k := 1) (a := p0) rfl rfl rfl rfl (fun s9 => ?_)
    exact kk_rv hG rfl rfl k
  refine (show KK sa R base G 0 [(0, va_rf (some p0)), (1, va_rf p1), (2, .int p2), (3, .int p3)] [] s kc ks (C_By_addPart sa p0 p1 p2 p3 s kc ks Q) from ?_) hw h
  refine kks hG rfl rfl ?_
  refine kks hG rfl rfl ?_
  refine kks hG rfl rfl ?_
  refine kk_st hG (L' := [(4, .int (p3 - p2)), (0, va_rf (some p0)), (1, va_rf p1), (2, .int p2), (3, .int p3)]) rfl rfl (Nat.le_of_ble_eq_true rfl) rfl ?_
  refine kks hG rfl rfl ?_
  refine kk_zlt hG (t := 22) rfl rfl ?_ ?_
  · exact kk_rv hG rfl rfl k
  refine kks hG rfl rfl ?_
  refine kk_zle hG (t := 22) rfl rfl ?_ ?_
  · exact kk_rv hG rfl rfl k
  refine kks hG rfl rfl ?_
  refine kk_aln hG (x := p1) rfl rfl ?_
  refine kk_ob (fun b1 eb1 => ?_)
  subst eb1
  refine kk_gi hG (c := 0) (k := 1) (a := b1) rfl rfl rfl rfl (fun v2 => ?_)
  refine kk_ile hG (t := 23) rfl rfl ?_ ?_
  · refine kk_aln hG (x := (some p0)) rfl rfl ?_
    refine kk_gi hG (c := 0) (k := 1) (a := p0) rfl rfl rfl rfl (fun v3 => ?_)
    refine kks hG rfl rfl ?_
    refine kks hG rfl rfl ?_
    refine kk_aln hG (x := (some p0)) rfl rfl ?_
    refine kk_gp hG (c := 0) (k := 0) (a := p0) rfl rfl rfl rfl (fun v4 => ?_)
    refine kk_ob (fun b5 eb5 => ?_)
    subst eb5
    refine kk_len hG (a := b5) rfl (fun v6 => ?_)
    refine kk_ile hG (t := 80) rfl rfl ?_ ?_
    · exact kk_wl hG [1, 2, 3, 0] rfl (b80 _ _ _ _)
    refine kk_aln hG (x := (some p0)) rfl rfl ?_
    refine kk_gp hG (c := 0) (k := 0) (a := p0) rfl rfl rfl rfl (fun v7 => ?_)
    refine kk_ob (fun b8 eb8 => ?_)
    subst eb8
    refine kk_len hG (a := b8) rfl (fun v9 => ?_)
    refine kk_ic hG rfl cc_i2 ?_
    refine kks hG rfl rfl ?_
    refine kk_aln hG (x := (some p0)) rfl rfl ?_
    refine kk_gi hG (c := 0) (k := 1) (a := p0) rfl rfl rfl rfl (fun v10 => ?_)
    refine kks hG rfl rfl ?_
    refine kks hG rfl rfl ?_
    refine kk_mx hG rfl rfl (Nat.le_of_ble_eq_true rfl) ?_
    refine kk_nar hG (ty := .byte) rfl rfl rfl rfl (fun q11 sq11 cq11 dq11 => ?_)
    refine kk_as hG (x := (some q11)) (L' := [(5, va_rf (some q11)), (4, .int (p3 - p2)), (0, va_rf (some p0)), (1, va_rf (some b1)), (2, .int p2), (3, .int p3)]) rfl (Nat.le_of_ble_eq_true rfl) rfl ?_
    refine kk_aln hG (x := (some p0)) rfl rfl ?_
    refine kk_gp hG (c := 0) (k := 0) (a := p0) rfl rfl rfl rfl (fun v12 => ?_)
    refine kk_ic hG rfl cc_i0 ?_
    refine kk_al hG (x := (some q11)) rfl rfl ?_
    refine kk_ic hG rfl cc_i0 ?_
    refine kk_aln hG (x := (some p0)) rfl rfl ?_
    refine kk_gi hG (c := 0) (k := 1) (a := p0) rfl rfl rfl rfl (fun v13 => ?_)
    refine kk_ob (fun b14 eb14 => ?_)
    subst eb14
    refine kk_acp hG (a := b14) (b := q11) rfl rfl (Nat.le_of_ble_eq_true rfl) (fun s15 => ?_)
    refine kk_aln hG (x := (some p0)) rfl rfl ?_
    refine kk_al hG (x := (some q11)) rfl rfl ?_
    refine kk_pp hG (c := 0) (k := 0) (a := p0) (v := (some q11)) rfl rfl rfl rfl rfl (fun s16 => ?_)
    exact kk_wl hG [2, 3, 4, 1] rfl (b80 _ _ _ _)
  exact kk_rv hG rfl rfl k
def C_By_init_b17 (sa : Nat → Nat) (p0 : Nat) (u0 : Option Nat) (u1 : Int32) (s : cS) (kc ks : Nat) (Q : (cS → Nat → Nat → Prop)) : Prop := nwA s kc ks .byte u1 (fun q1 sq1 cq1 dq1 => (ob u0 (fun b2 => (ob (pP sq1 0 0 b2 (some q1)) (fun s3 => (ob (pI s3 0 1 p0 (0 : Int32)) (fun s4 => (Q s4 cq1 dq1))))))))
def C_By_init (sa : Nat → Nat) (p0 : Nat) (p1 : Int32) (s : cS) (kc ks : Nat) (Q : (cS → Nat → Nat → Prop)) : Prop := if p1 < (16 : Int32) then ((C_By_init_b17 sa p0 (some p0) (16 : Int32) s kc ks Q)) else ((C_By_init_b17 sa p0 (some p0) p1 s kc ks Q))
set_option maxRecDepth 100000 in
set_option maxHeartbeats 4000000 in
theorem kc_By_init (base : Nat) (sa : Nat → Nat) {R : pmM} {s : cS} {kc ks : Nat} {Rt : pmR} {p0 : Nat} {p1 : Int32} {Q : (cS → Nat → Nat → Prop)} (hw : cW sa R base s) (h : C_By_init sa p0 p1 s kc ks Q) (k : ∀ s' kc' ks', cW sa R base s' → Q s' kc' ks' → Rt none (cM R s') kc' ks') : kP_By_init base sa [.ref p0, .int p1] (cM R s) kc ks Rt := by
  refine ⟨Nat.le_of_ble_eq_true rfl, fun G hG => ?_⟩
  have b17 : ∀ (u0 : Option Nat) (u1 : Int32) (s : cS) (kc ks : Nat), KK sa R base G 17 [(0, va_rf (some p0))] [.int u1, va_rf u0] s kc ks (C_By_init_b17 sa p0 u0 u1 s kc ks Q) := by
    intro u0 u1 s kc ks
    refine kk_nar hG (ty := .byte) rfl rfl rfl rfl (fun q1 sq1 cq1 dq1 => ?_)
    refine kk_ob (fun b2 eb2 => ?_)
    subst eb2
    refine kk_pp hG (c := 0) (k := 0) (a := b2) (v := (some q1)) rfl rfl rfl rfl rfl (fun s3 => ?_)
    refine kk_aln hG (x := (some p0)) rfl rfl ?_
    refine kk_ic hG rfl cc_i0 ?_
    refine kk_pi hG (c := 0) (k := 1) (a := p0) rfl rfl rfl rfl (fun s4 => ?_)
    exact kk_rv hG rfl rfl k
  refine (show KK sa R base G 0 [(0, va_rf (some p0)), (1, .int p1)] [] s kc ks (C_By_init sa p0 p1 s kc ks Q) from ?_) hw h
  refine kk_aln hG (x := (some p0)) rfl rfl ?_
  refine kk_oi hG (a := p0) rfl rfl (Nat.le_of_ble_eq_true rfl) ?_
  refine kk_aln hG (x := (some p0)) rfl rfl ?_
  refine kks hG rfl rfl ?_
  refine kk_bi hG rfl cc_b16 ?_
  refine kk_ige hG (t := 16) rfl rfl ?_ ?_
  · refine kks hG rfl rfl ?_
    exact kk_wl hG [0] rfl (b17 _ _ _ _ _)
  refine kk_bi hG rfl cc_b16 ?_
  refine kk_go hG (t := 17) rfl rfl ?_
  exact kk_wl hG [0] rfl (b17 _ _ _ _ _)
def C_Da_init (sa : Nat → Nat) (p0 : Nat) (s : cS) (kc ks : Nat) (Q : (cS → Nat → Nat → Prop)) : Prop := nwO s kc ks 0 2 (fun q1 sq1 cq1 dq1 => (okO sq1 0 q1 ∧ C_By_init sa q1 (600 : Int32) sq1 cq1 dq1 (fun sr2 cr2 dr2 => (ob (pP sr2 2 0 p0 (some q1)) (fun s3 => (nwO s3 cr2 dr2 5 4 (fun q4 sq4 cq4 dq4 => (okO sq4 5 q4 ∧ C_Pr_init sa q4 sq4 cq4 dq4 (fun sr5 cr5 dr5 => (ob (pP sr5 2 1 p0 (some q4)) (fun s6 => (nwO s6 cr5 dr5 5 4 (fun q7 sq7 cq7 dq7 => (okO sq7 5 q7 ∧ C_Pr_init sa q7 sq7 cq7 dq7 (fun sr8 cr8 dr8 => (ob (pP sr8 2 2 p0 (some q7)) (fun s9 => (ob (pZ s9 2 3 p0 (1 : Int32)) (fun s10 => (ob (pI s10 2 4 p0 (4 : Int32)) (fun s11 => (ob (pI s11 2 5 p0 (0 : Int32)) (fun s12 => (ob (pI s12 2 6 p0 (0 : Int32)) (fun s13 => (ob (pP s13 2 7 p0 none) (fun s14 => (ob (pP s14 2 8 p0 none) (fun s15 => (ob (pI s15 2 9 p0 (0 : Int32)) (fun s16 => (ob (pI s16 2 10 p0 (4 : Int32)) (fun s17 => (ob (pI s17 2 11 p0 (4 : Int32)) (fun s18 => (Q s18 cr8 dr8))))))))))))))))))))))))))))))))))))
set_option maxRecDepth 100000 in
set_option maxHeartbeats 4000000 in
theorem kc_Da_init (base : Nat) (sa : Nat → Nat) {R : pmM} {s : cS} {kc ks : Nat} {Rt : pmR} {p0 : Nat} {Q : (cS → Nat → Nat → Prop)} (hw : cW sa R base s) (h : C_Da_init sa p0 s kc ks Q) (k : ∀ s' kc' ks', cW sa R base s' → Q s' kc' ks' → Rt none (cM R s') kc' ks') : kP_Da_init base sa [.ref p0] (cM R s) kc ks Rt := by
  refine ⟨Nat.le_of_ble_eq_true rfl, fun G hG => ?_⟩
  refine (show KK sa R base G 0 [(0, va_rf (some p0))] [] s kc ks (C_Da_init sa p0 s kc ks Q) from ?_) hw h
  refine kk_aln hG (x := (some p0)) rfl rfl ?_
  refine kk_oi hG (a := p0) rfl rfl (Nat.le_of_ble_eq_true rfl) ?_
  refine kk_aln hG (x := (some p0)) rfl rfl ?_
  refine kk_new hG (c := 0) (n := 2) rfl rfl rfl rfl (fun q1 sq1 cq1 dq1 => ?_)
  refine kk_dup hG (x := (some q1)) rfl ?_
  refine kk_si hG rfl cc_s600 ?_
  refine kk_cv hG 1 rfl rfl (Nat.le_of_ble_eq_true rfl) (by decide) rfl (st' := [va_rf (some q1), va_rf (some p0)]) rfl (cats_le (Nat.le_of_ble_eq_true rfl)) (fun _ hw h k => kk_rcv h.1 (kc_By_init base sa hw h.2 k)) (fun sr2 cr2 dr2 => ?_)
  refine kk_pp hG (c := 2) (k := 0) (a := p0) (v := (some q1)) rfl rfl rfl rfl rfl (fun s3 => ?_)
  refine kk_aln hG (x := (some p0)) rfl rfl ?_
  refine kk_new hG (c := 5) (n := 4) rfl rfl rfl rfl (fun q4 sq4 cq4 dq4 => ?_)
  refine kk_dup hG (x := (some q4)) rfl ?_
  refine kk_cv hG 1 rfl rfl (Nat.le_of_ble_eq_true rfl) (by decide) rfl (st' := [va_rf (some q4), va_rf (some p0)]) rfl (cats_le (Nat.le_of_ble_eq_true rfl)) (fun _ hw h k => kk_rcv h.1 (kc_Pr_init base sa hw h.2 k)) (fun sr5 cr5 dr5 => ?_)
  refine kk_pp hG (c := 2) (k := 1) (a := p0) (v := (some q4)) rfl rfl rfl rfl rfl (fun s6 => ?_)
  refine kk_aln hG (x := (some p0)) rfl rfl ?_
  refine kk_new hG (c := 5) (n := 4) rfl rfl rfl rfl (fun q7 sq7 cq7 dq7 => ?_)
  refine kk_dup hG (x := (some q7)) rfl ?_
  refine kk_cv hG 1 rfl rfl (Nat.le_of_ble_eq_true rfl) (by decide) rfl (st' := [va_rf (some q7), va_rf (some p0)]) rfl (cats_le (Nat.le_of_ble_eq_true rfl)) (fun _ hw h k => kk_rcv h.1 (kc_Pr_init base sa hw h.2 k)) (fun sr8 cr8 dr8 => ?_)
  refine kk_pp hG (c := 2) (k := 2) (a := p0) (v := (some q7)) rfl rfl rfl rfl rfl (fun s9 => ?_)
  refine kk_aln hG (x := (some p0)) rfl rfl ?_
  refine kk_ic hG rfl cc_i1 ?_
  refine kk_pz hG (c := 2) (k := 3) (a := p0) rfl rfl rfl rfl (fun s10 => ?_)
  refine kk_aln hG (x := (some p0)) rfl rfl ?_
  refine kk_ic hG rfl cc_i4 ?_
  refine kk_pi hG (c := 2) (k := 4) (a := p0) rfl rfl rfl rfl (fun s11 => ?_)
  refine kk_aln hG (x := (some p0)) rfl rfl ?_
  refine kk_ic hG rfl cc_i0 ?_
  refine kk_pi hG (c := 2) (k := 5) (a := p0) rfl rfl rfl rfl (fun s12 => ?_)
  refine kk_aln hG (x := (some p0)) rfl rfl ?_
  refine kk_ic hG rfl cc_i0 ?_
  refine kk_pi hG (c := 2) (k := 6) (a := p0) rfl rfl rfl rfl (fun s13 => ?_)
  refine kk_aln hG (x := (some p0)) rfl rfl ?_
  refine kks hG rfl rfl ?_
  refine kk_pp hG (c := 2) (k := 7) (a := p0) (v := none) rfl rfl rfl rfl rfl (fun s14 => ?_)
  refine kk_aln hG (x := (some p0)) rfl rfl ?_
  refine kks hG rfl rfl ?_
  refine kk_pp hG (c := 2) (k := 8) (a := p0) (v := none) rfl rfl rfl rfl rfl (fun s15 => ?_)
  refine kk_aln hG (x := (some p0)) rfl rfl ?_
  refine kk_ic hG rfl cc_i0 ?_
  refine kk_pi hG (c := 2) (k := 9) (a := p0) rfl rfl rfl rfl (fun s16 => ?_)
  refine kk_aln hG (x := (some p0)) rfl rfl ?_
  refine kk_ic hG rfl cc_i4 ?_
  refine kk_pi hG (c := 2) (k := 10) (a := p0) rfl rfl rfl rfl (fun s17 => ?_)
  refine kk_aln hG (x := (some p0)) rfl rfl ?_
  refine kk_ic hG rfl cc_i4 ?_
  refine kk_pi hG (c := 2) (k := 11) (a := p0) rfl rfl rfl rfl (fun s18 => ?_)
  exact kk_rv hG rfl rfl k
