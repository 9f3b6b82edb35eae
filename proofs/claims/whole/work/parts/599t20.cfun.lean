/-! Methods as weakest preconditions, by program: Ch_copy .. Pl_isFull -/
def C_Ch_copy_s33 (sa : Nat → Nat) (p0 : Nat) (p1 : Option Nat) (a2 : Int32) (s : cS) (kc ks : Nat) (Q : (cS → Nat → Nat → Prop)) (P33 : (Int32 → cS → Nat → Nat → Prop)) : Prop := ob (gI s 1 2 p0) (fun v1 => (if a2 < v1 then (ob (gP s 1 3 p0) (fun v2 => (ob p1 (fun b3 => (ob (gP s 1 3 b3) (fun v4 => (ob v4 (fun b5 => (ob (rE s .int b5 a2) (fun v6 => (ob v2 (fun b7 => (ob (wEi s b7 a2 v6) (fun s8 => (ob (gP s8 1 4 p0) (fun v9 => (ob (gP s8 1 4 b3) (fun v10 => (ob v10 (fun b11 => (ob (rE s8 .int b11 a2) (fun v12 => (ob v9 (fun b13 => (ob (wEi s8 b13 a2 v12) (fun s14 => (ob (gP s14 1 5 p0) (fun v15 => (ob (gP s14 1 5 b3) (fun v16 => (ob v16 (fun b17 => (ob (rE s14 .int b17 a2) (fun v18 => (ob v15 (fun b19 => (ob (wEi s14 b19 a2 v18) (fun s20 => (ob (gP s20 1 6 p0) (fun v21 => (ob (gP s20 1 6 b3) (fun v22 => (ob v22 (fun b23 => (ob (rE s20 .int b23 a2) (fun v24 => (ob v21 (fun b25 => (ob (wEi s20 b25 a2 v24) (fun s26 => (ob (gP s26 1 7 b3) (fun v27 => (ob v27 (fun b28 => (ob (rQ s26 b28 a2) (fun v29 => (ob (gP s26 1 7 p0) (fun v30 => (ob v30 (fun b31 => (ob (rQ s26 b31 a2) (fun v32 => (ob v29 (fun b33 => (ob v32 (fun b34 => (ob (cpE s26 b33 (0 : Int32) b34 (0 : Int32) (16 : Int32)) (fun s35 => ((P33 (a2 + (1 : Int32)) s35 kc ks)))))))))))))))))))))))))))))))))))))))))))))))))))))))))))))))))))))) else ((Q s kc ks))))
def C_Ch_copy_b33 (sa : Nat → Nat) (p0 : Nat) (p1 : Option Nat) (a2 : Int32) (s : cS) (kc ks : Nat) (Q : (cS → Nat → Nat → Prop)) : Prop := ∀ P33 : (Int32 → cS → Nat → Nat → Prop), (∀ (a2 : Int32) (s : cS) (kc ks : Nat), C_Ch_copy_s33 sa p0 p1 a2 s kc ks Q P33 → P33 a2 s kc ks) → P33 a2 s kc ks
def C_Ch_copy (sa : Nat → Nat) (p0 : Nat) (p1 : Option Nat) (s : cS) (kc ks : Nat) (Q : (cS → Nat → Nat → Prop)) : Prop := ob p1 (fun b1 => (ob (gI s 1 0 b1) (fun v2 => (ob (pZ s 1 0 p0 v2) (fun s3 => (ob (gP s3 1 1 b1) (fun v4 => (ob (gP s3 1 1 p0) (fun v5 => (ob v4 (fun b6 => (ob v5 (fun b7 => (ob (cpE s3 b6 (0 : Int32) b7 (0 : Int32) (16 : Int32)) (fun s8 => (ob (gI s8 1 2 b1) (fun v9 => (ob (pI s8 1 2 p0 v9) (fun s10 => ((C_Ch_copy_b33 sa p0 (some b1) (0 : Int32) s10 kc ks Q)))))))))))))))))))))
set_option maxRecDepth 100000 in
set_option maxHeartbeats 4000000 in
theorem kc_Ch_copy (base : Nat) (sa : Nat → Nat) {R : pmM} {s : cS} {kc ks : Nat} {Rt : pmR} {p0 : Nat} {p1 : Option Nat} {Q : (cS → Nat → Nat → Prop)} (hw : cW sa R base s) (h : C_Ch_copy sa p0 p1 s kc ks Q) (k : ∀ s' kc' ks', cW sa R base s' → Q s' kc' ks' → Rt none (cM R s') kc' ks') : kP_Ch_copy base sa [.ref p0, va_rf p1] (cM R s) kc ks Rt := by
  refine ⟨by cases p1 <;> exact Nat.le_of_ble_eq_true rfl, fun G hG => ?_⟩
  have eL : lv_args 0 [.ref p0, va_rf p1] = [(0, va_rf (some p0)), (1, va_rf p1)] := by cases p1 <;> rfl
  rw [eL]
  have b33 : ∀ (a2 : Int32) (s : cS) (kc ks : Nat), KK sa R base G 33 [(0, va_rf (some p0)), (1, va_rf p1), (2, .int a2)] [] s kc ks (C_Ch_copy_b33 sa p0 p1 a2 s kc ks Q) := by
    have H : ∀ (P33 : (Int32 → cS → Nat → Nat → Prop)) (hP33 : ∀ (a2 : Int32) (s : cS) (kc ks : Nat), P33 a2 s kc ks → cW sa R base s → G 33 [(0, va_rf (some p0)), (1, va_rf p1), (2, .int a2)] [] (cM R s) kc ks) (a2 : Int32) (s : cS) (kc ks : Nat), KK sa R base G 33 [(0, va_rf (some p0)), (1, va_rf p1), (2, .int a2)] [] s kc ks (C_Ch_copy_s33 sa p0 p1 a2 s kc ks Q P33) := by
      intro P33 hP33
      intro a2 s kc ks
      refine kks hG rfl rfl ?_
      refine kk_aln hG (x := (some p0)) rfl rfl ?_
      refine kk_gi hG (c := 1) (k := 2) (a := p0) rfl rfl rfl rfl (fun v1 => ?_)
      refine kk_ige hG (t := 114) rfl rfl ?_ ?_
      · exact kk_rv hG rfl rfl k
      refine kk_aln hG (x := (some p0)) rfl rfl ?_
      refine kk_gp hG (c := 1) (k := 3) (a := p0) rfl rfl rfl rfl (fun v2 => ?_)
      refine kks hG rfl rfl ?_
      refine kk_aln hG (x := p1) rfl rfl ?_
      refine kk_ob (fun b3 eb3 => ?_)
      subst eb3
      refine kk_gp hG (c := 1) (k := 3) (a := b3) rfl rfl rfl rfl (fun v4 => ?_)
      refine kks hG rfl rfl ?_
      refine kk_ob (fun b5 eb5 => ?_)
      subst eb5
      refine kk_ia hG (a := b5) rfl (fun v6 => ?_)
      refine kk_ob (fun b7 eb7 => ?_)
      subst eb7
      refine kk_is hG (a := b7) rfl (fun s8 => ?_)
      refine kk_aln hG (x := (some p0)) rfl rfl ?_
      refine kk_gp hG (c := 1) (k := 4) (a := p0) rfl rfl rfl rfl (fun v9 => ?_)
      refine kks hG rfl rfl ?_
      refine kk_aln hG (x := (some b3)) rfl rfl ?_
      refine kk_gp hG (c := 1) (k := 4) (a := b3) rfl rfl rfl rfl (fun v10 => ?_)
      refine kks hG rfl rfl ?_
      refine kk_ob (fun b11 eb11 => ?_)
      subst eb11
      refine kk_ia hG (a := b11) rfl (fun v12 => ?_)
      refine kk_ob (fun b13 eb13 => ?_)
      subst eb13
      refine kk_is hG (a := b13) rfl (fun s14 => ?_)
      refine kk_aln hG (x := (some p0)) rfl rfl ?_
      refine kk_gp hG (c := 1) (k := 5) (a := p0) rfl rfl rfl rfl (fun v15 => ?_)
      refine kks hG rfl rfl ?_
      refine kk_aln hG (x := (some b3)) rfl rfl ?_
      refine kk_gp hG (c := 1) (k := 5) (a := b3) rfl rfl rfl rfl (fun v16 => ?_)
      refine kks hG rfl rfl ?_
      refine kk_ob (fun b17 eb17 => ?_)
      subst eb17
      refine kk_ia hG (a := b17) rfl (fun v18 => ?_)
      refine kk_ob (fun b19 eb19 => ?_)
      subst eb19
      refine kk_is hG (a := b19) rfl (fun s20 => ?_)
      refine kk_aln hG (x := (some p0)) rfl rfl ?_
      refine kk_gp hG (c := 1) (k := 6) (a := p0) rfl rfl rfl rfl (fun v21 => ?_)
      refine kks hG rfl rfl ?_
      refine kk_aln hG (x := (some b3)) rfl rfl ?_
      refine kk_gp hG (c := 1) (k := 6) (a := b3) rfl rfl rfl rfl (fun v22 => ?_)
      refine kks hG rfl rfl ?_
      refine kk_ob (fun b23 eb23 => ?_)
      subst eb23
      refine kk_ia hG (a := b23) rfl (fun v24 => ?_)
      refine kk_ob (fun b25 eb25 => ?_)
      subst eb25
      refine kk_is hG (a := b25) rfl (fun s26 => ?_)
      refine kk_aln hG (x := (some b3)) rfl rfl ?_
      refine kk_gp hG (c := 1) (k := 7) (a := b3) rfl rfl rfl rfl (fun v27 => ?_)
      refine kks hG rfl rfl ?_
      refine kk_ob (fun b28 eb28 => ?_)
      subst eb28
      refine kk_aa hG (a := b28) rfl (fun v29 => ?_)
      refine kk_ic hG rfl cc_i0 ?_
      refine kk_aln hG (x := (some p0)) rfl rfl ?_
      refine kk_gp hG (c := 1) (k := 7) (a := p0) rfl rfl rfl rfl (fun v30 => ?_)
      refine kks hG rfl rfl ?_
      refine kk_ob (fun b31 eb31 => ?_)
      subst eb31
      refine kk_aa hG (a := b31) rfl (fun v32 => ?_)
      refine kk_ic hG rfl cc_i0 ?_
      refine kk_bi hG rfl cc_b16 ?_
      refine kk_ob (fun b33 eb33 => ?_)
      subst eb33
      refine kk_ob (fun b34 eb34 => ?_)
      subst eb34
      refine kk_acp hG (a := b33) (b := b34) rfl rfl (Nat.le_of_ble_eq_true rfl) (fun s35 => ?_)
      refine kk_inc hG (L' := [(2, .int (a2 + (1 : Int32))), (0, va_rf (some p0)), (1, va_rf (some b3))]) rfl (Nat.le_of_ble_eq_true rfl) rfl cc_i1 rfl ?_
      refine kk_go hG (t := 33) rfl rfl ?_
      exact kk_wl hG [1, 2, 0] rfl (fun hw h => hP33 _ _ _ _ h hw)
    exact fun a2 s kc ks hw h => h (fun a2 s kc ks => cW sa R base s → G 33 [(0, va_rf (some p0)), (1, va_rf p1), (2, .int a2)] [] (cM R s) kc ks) (fun a2 s kc ks hs hw => H _ (fun _ _ _ _ hp hw => hp hw) a2 s kc ks hw hs) hw
  refine (show KK sa R base G 0 [(0, va_rf (some p0)), (1, va_rf p1)] [] s kc ks (C_Ch_copy sa p0 p1 s kc ks Q) from ?_) hw h
  refine kk_aln hG (x := (some p0)) rfl rfl ?_
  refine kk_aln hG (x := p1) rfl rfl ?_
  refine kk_ob (fun b1 eb1 => ?_)
  subst eb1
  refine kk_gi hG (c := 1) (k := 0) (a := b1) rfl rfl rfl rfl (fun v2 => ?_)
  refine kk_pz hG (c := 1) (k := 0) (a := p0) rfl rfl rfl rfl (fun s3 => ?_)
  refine kk_aln hG (x := (some b1)) rfl rfl ?_
  refine kk_gp hG (c := 1) (k := 1) (a := b1) rfl rfl rfl rfl (fun v4 => ?_)
  refine kk_ic hG rfl cc_i0 ?_
  refine kk_aln hG (x := (some p0)) rfl rfl ?_
  refine kk_gp hG (c := 1) (k := 1) (a := p0) rfl rfl rfl rfl (fun v5 => ?_)
  refine kk_ic hG rfl cc_i0 ?_
  refine kk_bi hG rfl cc_b16 ?_
  refine kk_ob (fun b6 eb6 => ?_)
  subst eb6
  refine kk_ob (fun b7 eb7 => ?_)
  subst eb7
  refine kk_acp hG (a := b6) (b := b7) rfl rfl (Nat.le_of_ble_eq_true rfl) (fun s8 => ?_)
  refine kk_aln hG (x := (some p0)) rfl rfl ?_
  refine kk_aln hG (x := (some b1)) rfl rfl ?_
  refine kk_gi hG (c := 1) (k := 2) (a := b1) rfl rfl rfl rfl (fun v9 => ?_)
  refine kk_pi hG (c := 1) (k := 2) (a := p0) rfl rfl rfl rfl (fun s10 => ?_)
  refine kk_ic hG rfl cc_i0 ?_
  refine kk_st hG (L' := [(2, .int (0 : Int32)), (0, va_rf (some p0)), (1, va_rf (some b1))]) rfl rfl (Nat.le_of_ble_eq_true rfl) rfl ?_
  exact kk_wl hG [1, 2, 0] rfl (b33 _ _ _ _)
def C_Ch_setPassword (sa : Nat → Nat) (p0 : Nat) (p1 : Option Nat) (s : cS) (kc ks : Nat) (Q : (cS → Nat → Nat → Prop)) : Prop := okO s 1 p0 ∧ C_Ch_clear sa p0 s kc ks (fun sr1 cr1 dr1 => (ob (pZ sr1 1 0 p0 (1 : Int32)) (fun s2 => (ob (gP s2 1 1 p0) (fun v3 => (ob p1 (fun b4 => (ob v3 (fun b5 => (ob (cpE s2 b4 (0 : Int32) b5 (0 : Int32) (16 : Int32)) (fun s6 => (Q s6 cr1 dr1))))))))))))
set_option maxRecDepth 100000 in
set_option maxHeartbeats 4000000 in
theorem kc_Ch_setPassword (base : Nat) (sa : Nat → Nat) {R : pmM} {s : cS} {kc ks : Nat} {Rt : pmR} {p0 : Nat} {p1 : Option Nat} {Q : (cS → Nat → Nat → Prop)} (hw : cW sa R base s) (h : C_Ch_setPassword sa p0 p1 s kc ks Q) (k : ∀ s' kc' ks', cW sa R base s' → Q s' kc' ks' → Rt none (cM R s') kc' ks') : kP_Ch_setPassword base sa [.ref p0, va_rf p1] (cM R s) kc ks Rt := by
  refine ⟨by cases p1 <;> exact Nat.le_of_ble_eq_true rfl, fun G hG => ?_⟩
  have eL : lv_args 0 [.ref p0, va_rf p1] = [(0, va_rf (some p0)), (1, va_rf p1)] := by cases p1 <;> rfl
  rw [eL]
  refine (show KK sa R base G 0 [(0, va_rf (some p0)), (1, va_rf p1)] [] s kc ks (C_Ch_setPassword sa p0 p1 s kc ks Q) from ?_) hw h
  refine kk_aln hG (x := (some p0)) rfl rfl ?_
  refine kk_cv hG 0 rfl rfl (Nat.le_of_ble_eq_true rfl) (by decide) rfl (st' := []) rfl (cats_le (Nat.le_of_ble_eq_true rfl)) (fun _ hw h k => kk_rcv h.1 (kc_Ch_clear base sa hw h.2 k)) (fun sr1 cr1 dr1 => ?_)
  refine kk_aln hG (x := (some p0)) rfl rfl ?_
  refine kk_ic hG rfl cc_i1 ?_
  refine kk_pz hG (c := 1) (k := 0) (a := p0) rfl rfl rfl rfl (fun s2 => ?_)
  refine kk_aln hG (x := p1) rfl rfl ?_
  refine kk_ic hG rfl cc_i0 ?_
  refine kk_aln hG (x := (some p0)) rfl rfl ?_
  refine kk_gp hG (c := 1) (k := 1) (a := p0) rfl rfl rfl rfl (fun v3 => ?_)
  refine kk_ic hG rfl cc_i0 ?_
  refine kk_bi hG rfl cc_b16 ?_
  refine kk_ob (fun b4 eb4 => ?_)
  subst eb4
  refine kk_ob (fun b5 eb5 => ?_)
  subst eb5
  refine kk_acp hG (a := b4) (b := b5) rfl rfl (Nat.le_of_ble_eq_true rfl) (fun s6 => ?_)
  exact kk_rv hG rfl rfl k
def C_Ch_setKey_b29 (sa : Nat → Nat) (p0 : Nat) (p1 : Int32) (p2 : Int32) (p3 : Option Nat) (p4 : Int32) (p5 : Int32) (a6 : Int32) (s : cS) (kc ks : Nat) (Q : (Int32 → cS → Nat → Nat → Prop)) : Prop := if a6 < (4 : Int32) then (ob (pZ s 1 0 p0 (0 : Int32)) (fun s1 => (ob (gI s1 1 2 p0) (fun v2 => (ob (pI s1 1 2 p0 (mxI v2 (a6 + (1 : Int32)))) (fun s3 => (ob (gP s3 1 3 p0) (fun v4 => (ob v4 (fun b5 => (ob (wEi s3 b5 a6 p1) (fun s6 => (ob (gP s6 1 4 p0) (fun v7 => (ob v7 (fun b8 => (ob (wEi s6 b8 a6 p2) (fun s9 => (ob (gP s9 1 5 p0) (fun v10 => (ob v10 (fun b11 => (ob (wEi s9 b11 a6 p4) (fun s12 => (ob (gP s12 1 6 p0) (fun v13 => (ob v13 (fun b14 => (ob (wEi s12 b14 a6 p5) (fun s15 => (ob (gP s15 1 7 p0) (fun v16 => (ob v16 (fun b17 => (ob (rQ s15 b17 a6) (fun v18 => (ob p3 (fun b19 => (ob v18 (fun b20 => (ob (cpE s15 b19 (0 : Int32) b20 (0 : Int32) (16 : Int32)) (fun s21 => (Q (1 : Int32) s21 kc ks))))))))))))))))))))))))))))))))))))))))))) else (Q (0 : Int32) s kc ks)
def C_Ch_setKey_s3 (sa : Nat → Nat) (p0 : Nat) (p1 : Int32) (p2 : Int32) (p3 : Option Nat) (p4 : Int32) (p5 : Int32) (a6 : Int32) (s : cS) (kc ks : Nat) (Q : (Int32 → cS → Nat → Nat → Prop)) (P3 : (Int32 → cS → Nat → Nat → Prop)) : Prop := ob (gI s 1 2 p0) (fun v1 => (if a6 < v1 then (ob (gP s 1 3 p0) (fun v2 => (ob v2 (fun b3 => (ob (rE s .int b3 a6) (fun v4 => (if v4 = p1 then ((C_Ch_setKey_b29 sa p0 p1 p2 p3 p4 p5 a6 s kc ks Q)) else ((P3 (a6 + (1 : Int32)) s kc ks))))))))) else ((C_Ch_setKey_b29 sa p0 p1 p2 p3 p4 p5 a6 s kc ks Q))))
def C_Ch_setKey_b3 (sa : Nat → Nat) (p0 : Nat) (p1 : Int32) (p2 : Int32) (p3 : Option Nat) (p4 : Int32) (p5 : Int32) (a6 : Int32) (s : cS) (kc ks : Nat) (Q : (Int32 → cS → Nat → Nat → Prop)) : Prop := ∀ P3 : (Int32 → cS → Nat → Nat → Prop), (∀ (a6 : Int32) (s : cS) (kc ks : Nat), C_Ch_setKey_s3 sa p0 p1 p2 p3 p4 p5 a6 s kc ks Q P3 → P3 a6 s kc ks) → P3 a6 s kc ks
def C_Ch_setKey (sa : Nat → Nat) (p0 : Nat) (p1 : Int32) (p2 : Int32) (p3 : Option Nat) (p4 : Int32) (p5 : Int32) (s : cS) (kc ks : Nat) (Q : (Int32 → cS → Nat → Nat → Prop)) : Prop := (C_Ch_setKey_b3 sa p0 p1 p2 p3 p4 p5 (0 : Int32) s kc ks Q)
set_option maxRecDepth 100000 in
set_option maxHeartbeats 4000000 in
theorem kc_Ch_setKey (base : Nat) (sa : Nat → Nat) {R : pmM} {s : cS} {kc ks : Nat} {Rt : pmR} {p0 : Nat} {p1 : Int32} {p2 : Int32} {p3 : Option Nat} {p4 : Int32} {p5 : Int32} {Q : (Int32 → cS → Nat → Nat → Prop)} (hw : cW sa R base s) (h : C_Ch_setKey sa p0 p1 p2 p3 p4 p5 s kc ks Q) (k : ∀ r s' kc' ks', cW sa R base s' → Q r s' kc' ks' → Rt (some (.int r)) (cM R s') kc' ks') : kP_Ch_setKey base sa [.ref p0, .int p1, .int p2, va_rf p3, .int p4, .int p5] (cM R s) kc ks Rt := by
  refine ⟨by cases p3 <;> exact Nat.le_of_ble_eq_true rfl, fun G hG => ?_⟩
  have eL : lv_args 0 [.ref p0, .int p1, .int p2, va_rf p3, .int p4, .int p5] = [(0, va_rf (some p0)), (1, .int p1), (2, .int p2), (3, va_rf p3), (4, .int p4), (5, .int p5)] := by cases p3 <;> rfl
  rw [eL]
  have b29 : ∀ (a6 : Int32) (s : cS) (kc ks : Nat), KK sa R base G 29 [(0, va_rf (some p0)), (1, .int p1), (2, .int p2), (3, va_rf p3), (4, .int p4), (5, .int p5), (6, .int a6)] [] s kc ks (C_Ch_setKey_b29 sa p0 p1 p2 p3 p4 p5 a6 s kc ks Q) := by
    intro a6 s kc ks
    refine kks hG rfl rfl ?_
    refine kk_ic hG rfl cc_i4 ?_
    refine kk_ilt hG (t := 37) rfl rfl ?_ ?_
    · refine kk_aln hG (x := (some p0)) rfl rfl ?_
      refine kk_ic hG rfl cc_i0 ?_
      refine kk_pz hG (c := 1) (k := 0) (a := p0) rfl rfl rfl rfl (fun s1 => ?_)
      refine kk_aln hG (x := (some p0)) rfl rfl ?_
      refine kk_aln hG (x := (some p0)) rfl rfl ?_
      refine kk_gi hG (c := 1) (k := 2) (a := p0) rfl rfl rfl rfl (fun v2 => ?_)
      refine kks hG rfl rfl ?_
      refine kk_ic hG rfl cc_i1 ?_
      refine kks hG rfl rfl ?_
      refine kk_mx hG rfl rfl (Nat.le_of_ble_eq_true rfl) ?_
      refine kk_pi hG (c := 1) (k := 2) (a := p0) rfl rfl rfl rfl (fun s3 => ?_)
      refine kk_aln hG (x := (some p0)) rfl rfl ?_
      refine kk_gp hG (c := 1) (k := 3) (a := p0) rfl rfl rfl rfl (fun v4 => ?_)
      refine kks hG rfl rfl ?_
      refine kks hG rfl rfl ?_
      refine kk_ob (fun b5 eb5 => ?_)
      subst eb5
      refine kk_is hG (a := b5) rfl (fun s6 => ?_)
      refine kk_aln hG (x := (some p0)) rfl rfl ?_
      refine kk_gp hG (c := 1) (k := 4) (a := p0) rfl rfl rfl rfl (fun v7 => ?_)
      refine kks hG rfl rfl ?_
      refine kks hG rfl rfl ?_
      refine kk_ob (fun b8 eb8 => ?_)
      subst eb8
      refine kk_is hG (a := b8) rfl (fun s9 => ?_)
      refine kk_aln hG (x := (some p0)) rfl rfl ?_
      refine kk_gp hG (c := 1) (k := 5) (a := p0) rfl rfl rfl rfl (fun v10 => ?_)
      refine kks hG rfl rfl ?_
      refine kks hG rfl rfl ?_
      refine kk_ob (fun b11 eb11 => ?_)
      subst eb11
      refine kk_is hG (a := b11) rfl (fun s12 => ?_)
      refine kk_aln hG (x := (some p0)) rfl rfl ?_
      refine kk_gp hG (c := 1) (k := 6) (a := p0) rfl rfl rfl rfl (fun v13 => ?_)
      refine kks hG rfl rfl ?_
      refine kks hG rfl rfl ?_
      refine kk_ob (fun b14 eb14 => ?_)
      subst eb14
      refine kk_is hG (a := b14) rfl (fun s15 => ?_)
      refine kk_aln hG (x := p3) rfl rfl ?_
      refine kk_ic hG rfl cc_i0 ?_
      refine kk_aln hG (x := (some p0)) rfl rfl ?_
      refine kk_gp hG (c := 1) (k := 7) (a := p0) rfl rfl rfl rfl (fun v16 => ?_)
      refine kks hG rfl rfl ?_
      refine kk_ob (fun b17 eb17 => ?_)
      subst eb17
      refine kk_aa hG (a := b17) rfl (fun v18 => ?_)
      refine kk_ic hG rfl cc_i0 ?_
      refine kk_bi hG rfl cc_b16 ?_
      refine kk_ob (fun b19 eb19 => ?_)
      subst eb19
      refine kk_ob (fun b20 eb20 => ?_)
      subst eb20
      refine kk_acp hG (a := b19) (b := b20) rfl rfl (Nat.le_of_ble_eq_true rfl) (fun s21 => ?_)
      refine kk_ic hG rfl cc_i1 ?_
      exact kk_ri hG rfl rfl rfl k
    refine kk_ic hG rfl cc_i0 ?_
    exact kk_ri hG rfl rfl rfl k
  have b3 : ∀ (a6 : Int32) (s : cS) (kc ks : Nat), KK sa R base G 3 [(0, va_rf (some p0)), (1, .int p1), (2, .int p2), (3, va_rf p3), (4, .int p4), (5, .int p5), (6, .int a6)] [] s kc ks (C_Ch_setKey_b3 sa p0 p1 p2 p3 p4 p5 a6 s kc ks Q) := by
    have H : ∀ (P3 : (Int32 → cS → Nat → Nat → Prop)) (hP3 : ∀ (a6 : Int32) (s : cS) (kc ks : Nat), P3 a6 s kc ks → cW sa R base s → G 3 [(0, va_rf (some p0)), (1, .int p1), (2, .int p2), (3, va_rf p3), (4, .int p4), (5, .int p5), (6, .int a6)] [] (cM R s) kc ks) (a6 : Int32) (s : cS) (kc ks : Nat), KK sa R base G 3 [(0, va_rf (some p0)), (1, .int p1), (2, .int p2), (3, va_rf p3), (4, .int p4), (5, .int p5), (6, .int a6)] [] s kc ks (C_Ch_setKey_s3 sa p0 p1 p2 p3 p4 p5 a6 s kc ks Q P3) := by
      intro P3 hP3
      intro a6 s kc ks
      refine kks hG rfl rfl ?_
      refine kk_aln hG (x := (some p0)) rfl rfl ?_
      refine kk_gi hG (c := 1) (k := 2) (a := p0) rfl rfl rfl rfl (fun v1 => ?_)
      refine kk_ige hG (t := 29) rfl rfl ?_ ?_
      · exact kk_wl hG [0, 1, 2, 3, 4, 5, 6] rfl (b29 _ _ _ _)
      refine kk_aln hG (x := (some p0)) rfl rfl ?_
      refine kk_gp hG (c := 1) (k := 3) (a := p0) rfl rfl rfl rfl (fun v2 => ?_)
      refine kks hG rfl rfl ?_
      refine kk_ob (fun b3 eb3 => ?_)
      subst eb3
      refine kk_ia hG (a := b3) rfl (fun v4 => ?_)
      refine kks hG rfl rfl ?_
      refine kk_ieq hG (t := 29) rfl rfl ?_ ?_
      · exact kk_wl hG [0, 1, 2, 3, 4, 5, 6] rfl (b29 _ _ _ _)
      refine kk_inc hG (L' := [(6, .int (a6 + (1 : Int32))), (0, va_rf (some p0)), (1, .int p1), (2, .int p2), (3, va_rf p3), (4, .int p4), (5, .int p5)]) rfl (Nat.le_of_ble_eq_true rfl) rfl cc_i1 rfl ?_
      refine kk_go hG (t := 3) rfl rfl ?_
      exact kk_wl hG [1, 2, 3, 4, 5, 6, 0] rfl (fun hw h => hP3 _ _ _ _ h hw)
    exact fun a6 s kc ks hw h => h (fun a6 s kc ks => cW sa R base s → G 3 [(0, va_rf (some p0)), (1, .int p1), (2, .int p2), (3, va_rf p3), (4, .int p4), (5, .int p5), (6, .int a6)] [] (cM R s) kc ks) (fun a6 s kc ks hs hw => H _ (fun _ _ _ _ hp hw => hp hw) a6 s kc ks hw hs) hw
  refine (show KK sa R base G 0 [(0, va_rf (some p0)), (1, .int p1), (2, .int p2), (3, va_rf p3), (4, .int p4), (5, .int p5)] [] s kc ks (C_Ch_setKey sa p0 p1 p2 p3 p4 p5 s kc ks Q) from ?_) hw h
  refine kk_ic hG rfl cc_i0 ?_
  refine kk_st hG (L' := [(6, .int (0 : Int32)), (0, va_rf (some p0)), (1, .int p1), (2, .int p2), (3, va_rf p3), (4, .int p4), (5, .int p5)]) rfl rfl (Nat.le_of_ble_eq_true rfl) rfl ?_
  exact kk_wl hG [1, 2, 3, 4, 5, 6, 0] rfl (b3 _ _ _ _)
def C_Li_init (sa : Nat → Nat) (p0 : Nat) (p1 : Option Nat) (p2 : Int32) (p3 : Int32) (p4 : Int32) (s : cS) (kc ks : Nat) (Q : (cS → Nat → Nat → Prop)) : Prop := ob (pZ s 3 4 p0 (1 : Int32)) (fun s1 => (ob (pI s1 3 5 p0 (0 : Int32)) (fun s2 => (ob (pI s2 3 6 p0 (0 : Int32)) (fun s3 => (nwO s3 kc ks 0 2 (fun q4 sq4 cq4 dq4 => (okO sq4 0 q4 ∧ C_By_init sa q4 (16 : Int32) sq4 cq4 dq4 (fun sr5 cr5 dr5 => (ob (pP sr5 3 7 p0 (some q4)) (fun s6 => (ob (pP s6 3 0 p0 p1) (fun s7 => (ob (pI s7 3 1 p0 (mxI p2 (1 : Int32))) (fun s8 => (ob (pI s8 3 2 p0 (mxI p3 (0 : Int32))) (fun s9 => (ob (pI s9 3 3 p0 p4) (fun s10 => (Q s10 cr5 dr5))))))))))))))))))))
set_option maxRecDepth 100000 in
set_option maxHeartbeats 4000000 in
theorem kc_Li_init (base : Nat) (sa : Nat → Nat) {R : pmM} {s : cS} {kc ks : Nat} {Rt : pmR} {p0 : Nat} {p1 : Option Nat} {p2 : Int32} {p3 : Int32} {p4 : Int32} {Q : (cS → Nat → Nat → Prop)} (hw : cW sa R base s) (h : C_Li_init sa p0 p1 p2 p3 p4 s kc ks Q) (k : ∀ s' kc' ks', cW sa R base s' → Q s' kc' ks' → Rt none (cM R s') kc' ks') : kP_Li_init base sa [.ref p0, va_rf p1, .int p2, .int p3, .int p4] (cM R s) kc ks Rt := by
  refine ⟨by cases p1 <;> exact Nat.le_of_ble_eq_true rfl, fun G hG => ?_⟩
  have eL : lv_args 0 [.ref p0, va_rf p1, .int p2, .int p3, .int p4] = [(0, va_rf (some p0)), (1, va_rf p1), (2, .int p2), (3, .int p3), (4, .int p4)] := by cases p1 <;> rfl
  rw [eL]
  refine (show KK sa R base G 0 [(0, va_rf (some p0)), (1, va_rf p1), (2, .int p2), (3, .int p3), (4, .int p4)] [] s kc ks (C_Li_init sa p0 p1 p2 p3 p4 s kc ks Q) from ?_) hw h
  refine kk_aln hG (x := (some p0)) rfl rfl ?_
  refine kk_oi hG (a := p0) rfl rfl (Nat.le_of_ble_eq_true rfl) ?_
  refine kk_aln hG (x := (some p0)) rfl rfl ?_
  refine kk_ic hG rfl cc_i1 ?_
  refine kk_pz hG (c := 3) (k := 4) (a := p0) rfl rfl rfl rfl (fun s1 => ?_)
  refine kk_aln hG (x := (some p0)) rfl rfl ?_
  refine kk_ic hG rfl cc_i0 ?_
  refine kk_pi hG (c := 3) (k := 5) (a := p0) rfl rfl rfl rfl (fun s2 => ?_)
  refine kk_aln hG (x := (some p0)) rfl rfl ?_
  refine kk_ic hG rfl cc_i0 ?_
  refine kk_pi hG (c := 3) (k := 6) (a := p0) rfl rfl rfl rfl (fun s3 => ?_)
  refine kk_aln hG (x := (some p0)) rfl rfl ?_
  refine kk_new hG (c := 0) (n := 2) rfl rfl rfl rfl (fun q4 sq4 cq4 dq4 => ?_)
  refine kk_dup hG (x := (some q4)) rfl ?_
  refine kk_bi hG rfl cc_b16 ?_
  refine kk_cv hG 1 rfl rfl (Nat.le_of_ble_eq_true rfl) (by decide) rfl (st' := [va_rf (some q4), va_rf (some p0)]) rfl (cats_le (Nat.le_of_ble_eq_true rfl)) (fun _ hw h k => kk_rcv h.1 (kc_By_init base sa hw h.2 k)) (fun sr5 cr5 dr5 => ?_)
  refine kk_pp hG (c := 3) (k := 7) (a := p0) (v := (some q4)) rfl rfl rfl rfl rfl (fun s6 => ?_)
  refine kk_aln hG (x := (some p0)) rfl rfl ?_
  refine kk_aln hG (x := p1) rfl rfl ?_
  refine kk_pp hG (c := 3) (k := 0) (a := p0) (v := p1) rfl rfl rfl rfl rfl (fun s7 => ?_)
  refine kk_aln hG (x := (some p0)) rfl rfl ?_
  refine kks hG rfl rfl ?_
  refine kk_ic hG rfl cc_i1 ?_
  refine kk_mx hG rfl rfl (Nat.le_of_ble_eq_true rfl) ?_
  refine kk_pi hG (c := 3) (k := 1) (a := p0) rfl rfl rfl rfl (fun s8 => ?_)
  refine kk_aln hG (x := (some p0)) rfl rfl ?_
  refine kks hG rfl rfl ?_
  refine kk_ic hG rfl cc_i0 ?_
  refine kk_mx hG rfl rfl (Nat.le_of_ble_eq_true rfl) ?_
  refine kk_pi hG (c := 3) (k := 2) (a := p0) rfl rfl rfl rfl (fun s9 => ?_)
  refine kk_aln hG (x := (some p0)) rfl rfl ?_
  refine kks hG rfl rfl ?_
  refine kk_pi hG (c := 3) (k := 3) (a := p0) rfl rfl rfl rfl (fun s10 => ?_)
  exact kk_rv hG rfl rfl k
def C_Po_init (sa : Nat → Nat) (p0 : Nat) (p1 : Option Nat) (s : cS) (kc ks : Nat) (Q : (cS → Nat → Nat → Prop)) : Prop := ob (pP s 4 1 p0 none) (fun s1 => (ob (pP s1 4 2 p0 none) (fun s2 => (ob (pI s2 4 3 p0 (1 : Int32)) (fun s3 => (ob (pI s3 4 4 p0 (2 : Int32)) (fun s4 => (ob (pZ s4 4 5 p0 (0 : Int32)) (fun s5 => (nwO s5 kc ks 1 12 (fun q6 sq6 cq6 dq6 => (okO sq6 1 q6 ∧ C_Ch_init sa q6 sq6 cq6 dq6 (fun sr7 cr7 dr7 => (ob (pP sr7 4 6 p0 (some q6)) (fun s8 => (nwQ s8 cr7 dr7 "RoutingField$Prefix" (4 : Int32) (fun q9 sq9 cq9 dq9 => (ob (pP sq9 4 7 p0 (some q9)) (fun s10 => (ob (pI s10 4 8 p0 (0 : Int32)) (fun s11 => (nwA s11 cq9 dq9 .int (4 : Int32) (fun q12 sq12 cq12 dq12 => (ob (pP sq12 4 9 p0 (some q12)) (fun s13 => (nwA s13 cq12 dq12 .boolean (4 : Int32) (fun q14 sq14 cq14 dq14 => (ob (pP sq14 4 10 p0 (some q14)) (fun s15 => (nwQ s15 cq14 dq14 "RoutingField$Prefix" (4 : Int32) (fun q16 sq16 cq16 dq16 => (ob (pP sq16 4 11 p0 (some q16)) (fun s17 => (ob (pI s17 4 12 p0 (0 : Int32)) (fun s18 => (ob (pI s18 4 13 p0 (0 : Int32)) (fun s19 => (ob (pZ s19 4 14 p0 (0 : Int32)) (fun s20 => (ob (pI s20 4 15 p0 (0 : Int32)) (fun s21 => (nwA s21 cq16 dq16 .int (4 : Int32) (fun q22 sq22 cq22 dq22 => (ob (pP sq22 4 16 p0 (some q22)) (fun s23 => (nwA s23 cq22 dq22 .int (4 : Int32) (fun q24 sq24 cq24 dq24 => (ob (pP sq24 4 17 p0 (some q24)) (fun s25 => (ob (pI s25 4 18 p0 (0 : Int32)) (fun s26 => (ob (pP s26 4 0 p0 p1) (fun s27 => (Q s27 cq24 dq24))))))))))))))))))))))))))))))))))))))))))))))))))))))
set_option maxRecDepth 100000 in
set_option maxHeartbeats 4000000 in
theorem kc_Po_init (base : Nat) (sa : Nat → Nat) {R : pmM} {s : cS} {kc ks : Nat} {Rt : pmR} {p0 : Nat} {p1 : Option Nat} {Q : (cS → Nat → Nat → Prop)} (hw : cW sa R base s) (h : C_Po_init sa p0 p1 s kc ks Q) (k : ∀ s' kc' ks', cW sa R base s' → Q s' kc' ks' → Rt none (cM R s') kc' ks') : kP_Po_init base sa [.ref p0, va_rf p1] (cM R s) kc ks Rt := by
  refine ⟨by cases p1 <;> exact Nat.le_of_ble_eq_true rfl, fun G hG => ?_⟩
  have eL : lv_args 0 [.ref p0, va_rf p1] = [(0, va_rf (some p0)), (1, va_rf p1)] := by cases p1 <;> rfl
  rw [eL]
  refine (show KK sa R base G 0 [(0, va_rf (some p0)), (1, va_rf p1)] [] s kc ks (C_Po_init sa p0 p1 s kc ks Q) from ?_) hw h
  refine kk_aln hG (x := (some p0)) rfl rfl ?_
  refine kk_oi hG (a := p0) rfl rfl (Nat.le_of_ble_eq_true rfl) ?_
  refine kk_aln hG (x := (some p0)) rfl rfl ?_
  refine kks hG rfl rfl ?_
  refine kk_pp hG (c := 4) (k := 1) (a := p0) (v := none) rfl rfl rfl rfl rfl (fun s1 => ?_)
  refine kk_aln hG (x := (some p0)) rfl rfl ?_
  refine kks hG rfl rfl ?_
  refine kk_pp hG (c := 4) (k := 2) (a := p0) (v := none) rfl rfl rfl rfl rfl (fun s2 => ?_)
  refine kk_aln hG (x := (some p0)) rfl rfl ?_
  refine kk_ic hG rfl cc_i1 ?_
  refine kk_pi hG (c := 4) (k := 3) (a := p0) rfl rfl rfl rfl (fun s3 => ?_)
  refine kk_aln hG (x := (some p0)) rfl rfl ?_
  refine kk_ic hG rfl cc_i2 ?_
  refine kk_pi hG (c := 4) (k := 4) (a := p0) rfl rfl rfl rfl (fun s4 => ?_)
  refine kk_aln hG (x := (some p0)) rfl rfl ?_
  refine kk_ic hG rfl cc_i0 ?_
  refine kk_pz hG (c := 4) (k := 5) (a := p0) rfl rfl rfl rfl (fun s5 => ?_)
  refine kk_aln hG (x := (some p0)) rfl rfl ?_
  refine kk_new hG (c := 1) (n := 12) rfl rfl rfl rfl (fun q6 sq6 cq6 dq6 => ?_)
  refine kk_dup hG (x := (some q6)) rfl ?_
  refine kk_cv hG 1 rfl rfl (Nat.le_of_ble_eq_true rfl) (by decide) rfl (st' := [va_rf (some q6), va_rf (some p0)]) rfl (cats_le (Nat.le_of_ble_eq_true rfl)) (fun _ hw h k => kk_rcv h.1 (kc_Ch_init base sa hw h.2 k)) (fun sr7 cr7 dr7 => ?_)
  refine kk_pp hG (c := 4) (k := 6) (a := p0) (v := (some q6)) rfl rfl rfl rfl rfl (fun s8 => ?_)
  refine kk_aln hG (x := (some p0)) rfl rfl ?_
  refine kk_ic hG rfl cc_i4 ?_
  refine kk_naq hG (C := "RoutingField$Prefix") rfl rfl (fun q9 sq9 cq9 dq9 => ?_)
  refine kk_pp hG (c := 4) (k := 7) (a := p0) (v := (some q9)) rfl rfl rfl rfl rfl (fun s10 => ?_)
  refine kk_aln hG (x := (some p0)) rfl rfl ?_
  refine kk_ic hG rfl cc_i0 ?_
  refine kk_pi hG (c := 4) (k := 8) (a := p0) rfl rfl rfl rfl (fun s11 => ?_)
  refine kk_aln hG (x := (some p0)) rfl rfl ?_
  refine kk_ic hG rfl cc_i4 ?_
  refine kk_nar hG (ty := .int) rfl rfl rfl rfl (fun q12 sq12 cq12 dq12 => ?_)
  refine kk_pp hG (c := 4) (k := 9) (a := p0) (v := (some q12)) rfl rfl rfl rfl rfl (fun s13 => ?_)
  refine kk_aln hG (x := (some p0)) rfl rfl ?_
  refine kk_ic hG rfl cc_i4 ?_
  refine kk_nar hG (ty := .boolean) rfl rfl rfl rfl (fun q14 sq14 cq14 dq14 => ?_)
  refine kk_pp hG (c := 4) (k := 10) (a := p0) (v := (some q14)) rfl rfl rfl rfl rfl (fun s15 => ?_)
  refine kk_aln hG (x := (some p0)) rfl rfl ?_
  refine kk_ic hG rfl cc_i4 ?_
  refine kk_naq hG (C := "RoutingField$Prefix") rfl rfl (fun q16 sq16 cq16 dq16 => ?_)
  refine kk_pp hG (c := 4) (k := 11) (a := p0) (v := (some q16)) rfl rfl rfl rfl rfl (fun s17 => ?_)
  refine kk_aln hG (x := (some p0)) rfl rfl ?_
  refine kk_ic hG rfl cc_i0 ?_
  refine kk_pi hG (c := 4) (k := 12) (a := p0) rfl rfl rfl rfl (fun s18 => ?_)
  refine kk_aln hG (x := (some p0)) rfl rfl ?_
  refine kk_ic hG rfl cc_i0 ?_
  refine kk_pi hG (c := 4) (k := 13) (a := p0) rfl rfl rfl rfl (fun s19 => ?_)
  refine kk_aln hG (x := (some p0)) rfl rfl ?_
  refine kk_ic hG rfl cc_i0 ?_
  refine kk_pz hG (c := 4) (k := 14) (a := p0) rfl rfl rfl rfl (fun s20 => ?_)
  refine kk_aln hG (x := (some p0)) rfl rfl ?_
  refine kk_ic hG rfl cc_i0 ?_
  refine kk_pi hG (c := 4) (k := 15) (a := p0) rfl rfl rfl rfl (fun s21 => ?_)
  refine kk_aln hG (x := (some p0)) rfl rfl ?_
  refine kk_ic hG rfl cc_i4 ?_
  refine kk_nar hG (ty := .int) rfl rfl rfl rfl (fun q22 sq22 cq22 dq22 => ?_)
  refine kk_pp hG (c := 4) (k := 16) (a := p0) (v := (some q22)) rfl rfl rfl rfl rfl (fun s23 => ?_)
  refine kk_aln hG (x := (some p0)) rfl rfl ?_
  refine kk_ic hG rfl cc_i4 ?_
  refine kk_nar hG (ty := .int) rfl rfl rfl rfl (fun q24 sq24 cq24 dq24 => ?_)
  refine kk_pp hG (c := 4) (k := 17) (a := p0) (v := (some q24)) rfl rfl rfl rfl rfl (fun s25 => ?_)
  refine kk_aln hG (x := (some p0)) rfl rfl ?_
  refine kk_ic hG rfl cc_i0 ?_
  refine kk_pi hG (c := 4) (k := 18) (a := p0) rfl rfl rfl rfl (fun s26 => ?_)
  refine kk_aln hG (x := (some p0)) rfl rfl ?_
  refine kk_aln hG (x := p1) rfl rfl ?_
  refine kk_pp hG (c := 4) (k := 0) (a := p0) (v := p1) rfl rfl rfl rfl rfl (fun s27 => ?_)
  exact kk_rv hG rfl rfl k
def C_Po_setAddress (sa : Nat → Nat) (p0 : Nat) (p1 : Option Nat) (s : cS) (kc ks : Nat) (Q : (cS → Nat → Nat → Prop)) : Prop := nwO s kc ks 5 4 (fun q1 sq1 cq1 dq1 => (okO sq1 5 q1 ∧ C_Pr_init sa q1 sq1 cq1 dq1 (fun sr2 cr2 dr2 => (okO sr2 5 q1 ∧ C_Pr_copy sa q1 p1 sr2 cr2 dr2 (fun sr3 cr3 dr3 => (ob (gI sr3 5 0 q1) (fun v4 => (if v4 = (4 : Int32) then (ob (pP sr3 4 1 p0 (some q1)) (fun s6 => (Q s6 cr3 dr3))) else (ob (pP sr3 4 2 p0 (some q1)) (fun s5 => (Q s5 cr3 dr3)))))))))))
set_option maxRecDepth 100000 in
set_option maxHeartbeats 4000000 in
theorem kc_Po_setAddress (base : Nat) (sa : Nat → Nat) {R : pmM} {s : cS} {kc ks : Nat} {Rt : pmR} {p0 : Nat} {p1 : Option Nat} {Q : (cS → Nat → Nat → Prop)} (hw : cW sa R base s) (h : C_Po_setAddress sa p0 p1 s kc ks Q) (k : ∀ s' kc' ks', cW sa R base s' → Q s' kc' ks' → Rt none (cM R s') kc' ks') : kP_Po_setAddress base sa [.ref p0, va_rf p1] (cM R s) kc ks Rt := by
  refine ⟨by cases p1 <;> exact Nat.le_of_ble_eq_true rfl, fun G hG => ?_⟩
  have eL : lv_args 0 [.ref p0, va_rf p1] = [(0, va_rf (some p0)), (1, va_rf p1)] := by cases p1 <;> rfl
  rw [eL]
  refine (show KK sa R base G 0 [(0, va_rf (some p0)), (1, va_rf p1)] [] s kc ks (C_Po_setAddress sa p0 p1 s kc ks Q) from ?_) hw h
  refine kk_new hG (c := 5) (n := 4) rfl rfl rfl rfl (fun q1 sq1 cq1 dq1 => ?_)
  refine kk_dup hG (x := (some q1)) rfl ?_
  refine kk_cv hG 1 rfl rfl (Nat.le_of_ble_eq_true rfl) (by decide) rfl (st' := [va_rf (some q1)]) rfl (cats_le (Nat.le_of_ble_eq_true rfl)) (fun _ hw h k => kk_rcv h.1 (kc_Pr_init base sa hw h.2 k)) (fun sr2 cr2 dr2 => ?_)
  refine kk_asn hG (x := (some q1)) (L' := [(2, va_rf (some q1)), (0, va_rf (some p0)), (1, va_rf p1)]) rfl (Nat.le_of_ble_eq_true rfl) (by cases p1 <;> rfl) ?_
  refine kk_aln hG (x := (some q1)) rfl rfl ?_
  refine kk_aln hG (x := p1) rfl rfl ?_
  refine kk_cv hG 0 rfl rfl (Nat.le_of_ble_eq_true rfl) (by decide) rfl (st' := []) rfl (cats_le (Nat.le_of_ble_eq_true rfl)) (fun _ hw h k => kk_rcv h.1 (kc_Pr_copy base sa hw h.2 k)) (fun sr3 cr3 dr3 => ?_)
  refine kk_aln hG (x := (some q1)) rfl rfl ?_
  refine kk_gi hG (c := 5) (k := 0) (a := q1) rfl rfl rfl rfl (fun v4 => ?_)
  refine kk_ic hG rfl cc_i4 ?_
  refine kk_ine hG (t := 29) rfl rfl ?_ ?_
  · refine kk_aln hG (x := (some p0)) rfl rfl ?_
    refine kk_aln hG (x := (some q1)) rfl rfl ?_
    refine kk_pp hG (c := 4) (k := 2) (a := p0) (v := (some q1)) rfl rfl rfl rfl rfl (fun s5 => ?_)
    exact kk_rv hG rfl rfl k
  refine kk_aln hG (x := (some p0)) rfl rfl ?_
  refine kk_aln hG (x := (some q1)) rfl rfl ?_
  refine kk_pp hG (c := 4) (k := 1) (a := p0) (v := (some q1)) rfl rfl rfl rfl rfl (fun s6 => ?_)
  refine kk_go hG (t := 34) rfl rfl ?_
  exact kk_rv hG rfl rfl k
def C_Po_addSummary (sa : Nat → Nat) (p0 : Nat) (p1 : Option Nat) (s : cS) (kc ks : Nat) (Q : (cS → Nat → Nat → Prop)) : Prop := ob (gI s 4 8 p0) (fun v1 => (ob (gP s 4 7 p0) (fun v2 => (ob v2 (fun b3 => (ob (aL s b3) (fun v4 => (if v1 < v4 then (ob (gP s 4 7 p0) (fun v5 => (ob (gI s 4 8 p0) (fun v6 => (nwO s kc ks 5 4 (fun q7 sq7 cq7 dq7 => (okO sq7 5 q7 ∧ C_Pr_init sa q7 sq7 cq7 dq7 (fun sr8 cr8 dr8 => (ob v5 (fun b9 => (ob (wQ sr8 b9 v6 (some q7)) (fun s10 => (ob (gP s10 4 7 p0) (fun v11 => (ob (gI s10 4 8 p0) (fun v12 => (ob v11 (fun b13 => (ob (rQ s10 b13 v12) (fun v14 => (ob v14 (fun b15 => (okO s10 5 b15 ∧ C_Pr_copy sa b15 p1 s10 cr8 dr8 (fun sr16 cr16 dr16 => (ob (gI sr16 4 8 p0) (fun v17 => (ob (pI sr16 4 8 p0 (v17 + (1 : Int32))) (fun s18 => (Q s18 cr16 dr16))))))))))))))))))))))))))))) else (Q s kc ks)))))))))
set_option maxRecDepth 100000 in
set_option maxHeartbeats 4000000 in
theorem kc_Po_addSummary (base : Nat) (sa : Nat → Nat) {R : pmM} {s : cS} {kc ks : Nat} {Rt : pmR} {p0 : Nat} {p1 : Option Nat} {Q : (cS → Nat → Nat → Prop)} (hw : cW sa R base s) (h : C_Po_addSummary sa p0 p1 s kc ks Q) (k : ∀ s' kc' ks', cW sa R base s' → Q s' kc' ks' → Rt none (cM R s') kc' ks') : kP_Po_addSummary base sa [.ref p0, va_rf p1] (cM R s) kc ks Rt := by
  refine ⟨by cases p1 <;> exact Nat.le_of_ble_eq_true rfl, fun G hG => ?_⟩
  have eL : lv_args 0 [.ref p0, va_rf p1] = [(0, va_rf (some p0)), (1, va_rf p1)] := by cases p1 <;> rfl
  rw [eL]
  refine (show KK sa R base G 0 [(0, va_rf (some p0)), (1, va_rf p1)] [] s kc ks (C_Po_addSummary sa p0 p1 s kc ks Q) from ?_) hw h
  refine kk_aln hG (x := (some p0)) rfl rfl ?_
  refine kk_gi hG (c := 4) (k := 8) (a := p0) rfl rfl rfl rfl (fun v1 => ?_)
  refine kk_aln hG (x := (some p0)) rfl rfl ?_
  refine kk_gp hG (c := 4) (k := 7) (a := p0) rfl rfl rfl rfl (fun v2 => ?_)
  refine kk_ob (fun b3 eb3 => ?_)
  subst eb3
  refine kk_len hG (a := b3) rfl (fun v4 => ?_)
  refine kk_ige hG (t := 51) rfl rfl ?_ ?_
  · exact kk_rv hG rfl rfl k
  refine kk_aln hG (x := (some p0)) rfl rfl ?_
  refine kk_gp hG (c := 4) (k := 7) (a := p0) rfl rfl rfl rfl (fun v5 => ?_)
  refine kk_aln hG (x := (some p0)) rfl rfl ?_
  refine kk_gi hG (c := 4) (k := 8) (a := p0) rfl rfl rfl rfl (fun v6 => ?_)
  refine kk_new hG (c := 5) (n := 4) rfl rfl rfl rfl (fun q7 sq7 cq7 dq7 => ?_)
  refine kk_dup hG (x := (some q7)) rfl ?_
  refine kk_cv hG 1 rfl rfl (Nat.le_of_ble_eq_true rfl) (by decide) rfl (st' := [va_rf (some q7), .int v6, va_rf v5]) rfl (cats_le (Nat.le_of_ble_eq_true rfl)) (fun _ hw h k => kk_rcv h.1 (kc_Pr_init base sa hw h.2 k)) (fun sr8 cr8 dr8 => ?_)
  refine kk_ob (fun b9 eb9 => ?_)
  subst eb9
  refine kk_aas hG (a := b9) (x := (some q7)) rfl (fun s10 => ?_)
  refine kk_aln hG (x := (some p0)) rfl rfl ?_
  refine kk_gp hG (c := 4) (k := 7) (a := p0) rfl rfl rfl rfl (fun v11 => ?_)
  refine kk_aln hG (x := (some p0)) rfl rfl ?_
  refine kk_gi hG (c := 4) (k := 8) (a := p0) rfl rfl rfl rfl (fun v12 => ?_)
  refine kk_ob (fun b13 eb13 => ?_)
  subst eb13
  refine kk_aa hG (a := b13) rfl (fun v14 => ?_)
  refine kk_aln hG (x := p1) rfl rfl ?_
  refine kk_ob (fun b15 eb15 => ?_)
  subst eb15
  refine kk_cv hG 0 rfl rfl (Nat.le_of_ble_eq_true rfl) (by decide) rfl (st' := []) rfl (cats_le (Nat.le_of_ble_eq_true rfl)) (fun _ hw h k => kk_rcv h.1 (kc_Pr_copy base sa hw h.2 k)) (fun sr16 cr16 dr16 => ?_)
  refine kk_aln hG (x := (some p0)) rfl rfl ?_
  refine kk_dup hG (x := (some p0)) rfl ?_
  refine kk_gi hG (c := 4) (k := 8) (a := p0) rfl rfl rfl rfl (fun v17 => ?_)
  refine kk_ic hG rfl cc_i1 ?_
  refine kks hG rfl rfl ?_
  refine kk_pi hG (c := 4) (k := 8) (a := p0) rfl rfl rfl rfl (fun s18 => ?_)
  exact kk_rv hG rfl rfl k
def C_Po_addNeighbor (sa : Nat → Nat) (p0 : Nat) (p1 : Option Nat) (s : cS) (kc ks : Nat) (Q : (cS → Nat → Nat → Prop)) : Prop := ob (gI s 4 12 p0) (fun v1 => (ob (gP s 4 11 p0) (fun v2 => (ob v2 (fun b3 => (ob (aL s b3) (fun v4 => (if v1 < v4 then (ob (gP s 4 11 p0) (fun v5 => (ob (gI s 4 12 p0) (fun v6 => (nwO s kc ks 5 4 (fun q7 sq7 cq7 dq7 => (okO sq7 5 q7 ∧ C_Pr_init sa q7 sq7 cq7 dq7 (fun sr8 cr8 dr8 => (ob v5 (fun b9 => (ob (wQ sr8 b9 v6 (some q7)) (fun s10 => (ob (gP s10 4 11 p0) (fun v11 => (ob (gI s10 4 12 p0) (fun v12 => (ob v11 (fun b13 => (ob (rQ s10 b13 v12) (fun v14 => (ob v14 (fun b15 => (okO s10 5 b15 ∧ C_Pr_copy sa b15 p1 s10 cr8 dr8 (fun sr16 cr16 dr16 => (ob (gI sr16 4 12 p0) (fun v17 => (ob (pI sr16 4 12 p0 (v17 + (1 : Int32))) (fun s18 => (Q s18 cr16 dr16))))))))))))))))))))))))))))) else (Q s kc ks)))))))))
set_option maxRecDepth 100000 in
set_option maxHeartbeats 4000000 in
theorem kc_Po_addNeighbor (base : Nat) (sa : Nat → Nat) {R : pmM} {s : cS} {kc ks : Nat} {Rt : pmR} {p0 : Nat} {p1 : Option Nat} {Q : (cS → Nat → Nat → Prop)} (hw : cW sa R base s) (h : C_Po_addNeighbor sa p0 p1 s kc ks Q) (k : ∀ s' kc' ks', cW sa R base s' → Q s' kc' ks' → Rt none (cM R s') kc' ks') : kP_Po_addNeighbor base sa [.ref p0, va_rf p1] (cM R s) kc ks Rt := by
  refine ⟨by cases p1 <;> exact Nat.le_of_ble_eq_true rfl, fun G hG => ?_⟩
  have eL : lv_args 0 [.ref p0, va_rf p1] = [(0, va_rf (some p0)), (1, va_rf p1)] := by cases p1 <;> rfl
  rw [eL]
  refine (show KK sa R base G 0 [(0, va_rf (some p0)), (1, va_rf p1)] [] s kc ks (C_Po_addNeighbor sa p0 p1 s kc ks Q) from ?_) hw h
  refine kk_aln hG (x := (some p0)) rfl rfl ?_
  refine kk_gi hG (c := 4) (k := 12) (a := p0) rfl rfl rfl rfl (fun v1 => ?_)
  refine kk_aln hG (x := (some p0)) rfl rfl ?_
  refine kk_gp hG (c := 4) (k := 11) (a := p0) rfl rfl rfl rfl (fun v2 => ?_)
  refine kk_ob (fun b3 eb3 => ?_)
  subst eb3
  refine kk_len hG (a := b3) rfl (fun v4 => ?_)
  refine kk_ige hG (t := 51) rfl rfl ?_ ?_
  · exact kk_rv hG rfl rfl k
  refine kk_aln hG (x := (some p0)) rfl rfl ?_
  refine kk_gp hG (c := 4) (k := 11) (a := p0) rfl rfl rfl rfl (fun v5 => ?_)
  refine kk_aln hG (x := (some p0)) rfl rfl ?_
  refine kk_gi hG (c := 4) (k := 12) (a := p0) rfl rfl rfl rfl (fun v6 => ?_)
  refine kk_new hG (c := 5) (n := 4) rfl rfl rfl rfl (fun q7 sq7 cq7 dq7 => ?_)
  refine kk_dup hG (x := (some q7)) rfl ?_
  refine kk_cv hG 1 rfl rfl (Nat.le_of_ble_eq_true rfl) (by decide) rfl (st' := [va_rf (some q7), .int v6, va_rf v5]) rfl (cats_le (Nat.le_of_ble_eq_true rfl)) (fun _ hw h k => kk_rcv h.1 (kc_Pr_init base sa hw h.2 k)) (fun sr8 cr8 dr8 => ?_)
  refine kk_ob (fun b9 eb9 => ?_)
  subst eb9
  refine kk_aas hG (a := b9) (x := (some q7)) rfl (fun s10 => ?_)
  refine kk_aln hG (x := (some p0)) rfl rfl ?_
  refine kk_gp hG (c := 4) (k := 11) (a := p0) rfl rfl rfl rfl (fun v11 => ?_)
  refine kk_aln hG (x := (some p0)) rfl rfl ?_
  refine kk_gi hG (c := 4) (k := 12) (a := p0) rfl rfl rfl rfl (fun v12 => ?_)
  refine kk_ob (fun b13 eb13 => ?_)
  subst eb13
  refine kk_aa hG (a := b13) rfl (fun v14 => ?_)
  refine kk_aln hG (x := p1) rfl rfl ?_
  refine kk_ob (fun b15 eb15 => ?_)
  subst eb15
  refine kk_cv hG 0 rfl rfl (Nat.le_of_ble_eq_true rfl) (by decide) rfl (st' := []) rfl (cats_le (Nat.le_of_ble_eq_true rfl)) (fun _ hw h k => kk_rcv h.1 (kc_Pr_copy base sa hw h.2 k)) (fun sr16 cr16 dr16 => ?_)
  refine kk_aln hG (x := (some p0)) rfl rfl ?_
  refine kk_dup hG (x := (some p0)) rfl ?_
  refine kk_gi hG (c := 4) (k := 12) (a := p0) rfl rfl rfl rfl (fun v17 => ?_)
  refine kk_ic hG rfl cc_i1 ?_
  refine kks hG rfl rfl ?_
  refine kk_pi hG (c := 4) (k := 12) (a := p0) rfl rfl rfl rfl (fun s18 => ?_)
  exact kk_rv hG rfl rfl k
def C_Pr_parseLength (sa : Nat → Nat) (p0 : Nat) (p1 : Option Nat) (p2 : Int32) (p3 : Int32) (s : cS) (kc ks : Nat) (Q : (Int32 → cS → Nat → Nat → Prop)) : Prop := C_Pr_plainNumber sa p1 p2 p3 s kc ks (fun r1 sr1 cr1 dr1 => (if r1 < 0 then (Q (0 : Int32) sr1 cr1 dr1) else (ob (gI sr1 5 0 p0) (fun v2 => (C_Pr_bitsOf sa v2 sr1 cr1 dr1 (fun r3 sr3 cr3 dr3 => (if r3 < r1 then (Q (0 : Int32) sr3 cr3 dr3) else (ob (pI sr3 5 3 p0 r1) (fun s4 => (Q (1 : Int32) s4 cr3 dr3))))))))))
set_option maxRecDepth 100000 in
set_option maxHeartbeats 4000000 in
theorem kc_Pr_parseLength (base : Nat) (sa : Nat → Nat) {R : pmM} {s : cS} {kc ks : Nat} {Rt : pmR} {p0 : Nat} {p1 : Option Nat} {p2 : Int32} {p3 : Int32} {Q : (Int32 → cS → Nat → Nat → Prop)} (hw : cW sa R base s) (h : C_Pr_parseLength sa p0 p1 p2 p3 s kc ks Q) (k : ∀ r s' kc' ks', cW sa R base s' → Q r s' kc' ks' → Rt (some (.int r)) (cM R s') kc' ks') : kP_Pr_parseLength base sa [.ref p0, va_rf p1, .int p2, .int p3] (cM R s) kc ks Rt := by
  refine ⟨by cases p1 <;> exact Nat.le_of_ble_eq_true rfl, fun G hG => ?_⟩
  have eL : lv_args 0 [.ref p0, va_rf p1, .int p2, .int p3] = [(0, va_rf (some p0)), (1, va_rf p1), (2, .int p2), (3, .int p3)] := by cases p1 <;> rfl
  rw [eL]
  refine (show KK sa R base G 0 [(0, va_rf (some p0)), (1, va_rf p1), (2, .int p2), (3, .int p3)] [] s kc ks (C_Pr_parseLength sa p0 p1 p2 p3 s kc ks Q) from ?_) hw h
  refine kk_aln hG (x := p1) rfl rfl ?_
  refine kks hG rfl rfl ?_
  refine kks hG rfl rfl ?_
  refine kk_cx (w := .int) hG 2 rfl rfl (Nat.le_of_ble_eq_true rfl) (by decide) rfl (st' := []) rfl (cats_le (Nat.le_of_ble_eq_true rfl)) (fun _ hw h k => kc_Pr_plainNumber base sa hw h k) (fun r1 sr1 cr1 dr1 => ?_)
  refine kk_st hG (L' := [(4, .int r1), (0, va_rf (some p0)), (1, va_rf p1), (2, .int p2), (3, .int p3)]) rfl rfl (Nat.le_of_ble_eq_true rfl) rfl ?_
  refine kks hG rfl rfl ?_
  refine kk_zlt hG (t := 25) rfl rfl ?_ ?_
  · refine kk_ic hG rfl cc_i0 ?_
    exact kk_ri hG rfl rfl rfl k
  refine kks hG rfl rfl ?_
  refine kk_aln hG (x := (some p0)) rfl rfl ?_
  refine kk_gi hG (c := 5) (k := 0) (a := p0) rfl rfl rfl rfl (fun v2 => ?_)
  refine kk_cx (w := .int) hG 2 rfl rfl (Nat.le_of_ble_eq_true rfl) (by decide) rfl (st' := [.int r1]) rfl (cats_le (Nat.le_of_ble_eq_true rfl)) (fun _ hw h k => kc_Pr_bitsOf base sa hw h k) (fun r3 sr3 cr3 dr3 => ?_)
  refine kk_ile hG (t := 27) rfl rfl ?_ ?_
  · refine kk_aln hG (x := (some p0)) rfl rfl ?_
    refine kks hG rfl rfl ?_
    refine kk_pi hG (c := 5) (k := 3) (a := p0) rfl rfl rfl rfl (fun s4 => ?_)
    refine kk_ic hG rfl cc_i1 ?_
    exact kk_ri hG rfl rfl rfl k
  refine kk_ic hG rfl cc_i0 ?_
  exact kk_ri hG rfl rfl rfl k
def C_Pl_init (sa : Nat → Nat) (p0 : Nat) (p1 : Option Nat) (p2 : Int32) (s : cS) (kc ks : Nat) (Q : (cS → Nat → Nat → Prop)) : Prop := ob (pI s 6 5 p0 (0 : Int32)) (fun s1 => (ob (pP s1 6 0 p0 p1) (fun s2 => (nwQ s2 kc ks "RoutingField$Prefix" (mxI p2 (1 : Int32)) (fun q3 sq3 cq3 dq3 => (ob (pP sq3 6 1 p0 (some q3)) (fun s4 => (nwA s4 cq3 dq3 .boolean (mxI p2 (1 : Int32)) (fun q5 sq5 cq5 dq5 => (ob (pP sq5 6 2 p0 (some q5)) (fun s6 => (nwA s6 cq5 dq5 .int (mxI p2 (1 : Int32)) (fun q7 sq7 cq7 dq7 => (ob (pP sq7 6 3 p0 (some q7)) (fun s8 => (nwA s8 cq7 dq7 .int (mxI p2 (1 : Int32)) (fun q9 sq9 cq9 dq9 => (ob (pP sq9 6 4 p0 (some q9)) (fun s10 => (Q s10 cq9 dq9))))))))))))))))))))
set_option maxRecDepth 100000 in
set_option maxHeartbeats 4000000 in
theorem kc_Pl_init (base : Nat) (sa : Nat → Nat) {R : pmM} {s : cS} {kc ks : Nat} {Rt : pmR} {p0 : Nat} {p1 : Option Nat} {p2 : Int32} {Q : (cS → Nat → Nat → Prop)} (hw : cW sa R base s) (h : C_Pl_init sa p0 p1 p2 s kc ks Q) (k : ∀ s' kc' ks', cW sa R base s' → Q s' kc' ks' → Rt none (cM R s') kc' ks') : kP_Pl_init base sa [.ref p0, va_rf p1, .int p2] (cM R s) kc ks Rt := by
  refine ⟨by cases p1 <;> exact Nat.le_of_ble_eq_true rfl, fun G hG => ?_⟩
  have eL : lv_args 0 [.ref p0, va_rf p1, .int p2] = [(0, va_rf (some p0)), (1, va_rf p1), (2, .int p2)] := by cases p1 <;> rfl
  rw [eL]
  refine (show KK sa R base G 0 [(0, va_rf (some p0)), (1, va_rf p1), (2, .int p2)] [] s kc ks (C_Pl_init sa p0 p1 p2 s kc ks Q) from ?_) hw h
  refine kk_aln hG (x := (some p0)) rfl rfl ?_
  refine kk_oi hG (a := p0) rfl rfl (Nat.le_of_ble_eq_true rfl) ?_
  refine kk_aln hG (x := (some p0)) rfl rfl ?_
  refine kk_ic hG rfl cc_i0 ?_
  refine kk_pi hG (c := 6) (k := 5) (a := p0) rfl rfl rfl rfl (fun s1 => ?_)
  refine kks hG rfl rfl ?_
  refine kk_ic hG rfl cc_i1 ?_
  refine kk_mx hG rfl rfl (Nat.le_of_ble_eq_true rfl) ?_
  refine kk_st hG (L' := [(3, .int (mxI p2 (1 : Int32))), (0, va_rf (some p0)), (1, va_rf p1), (2, .int p2)]) rfl rfl (Nat.le_of_ble_eq_true rfl) rfl ?_
  refine kk_aln hG (x := (some p0)) rfl rfl ?_
  refine kk_aln hG (x := p1) rfl rfl ?_
  refine kk_pp hG (c := 6) (k := 0) (a := p0) (v := p1) rfl rfl rfl rfl rfl (fun s2 => ?_)
  refine kk_aln hG (x := (some p0)) rfl rfl ?_
  refine kks hG rfl rfl ?_
  refine kk_naq hG (C := "RoutingField$Prefix") rfl rfl (fun q3 sq3 cq3 dq3 => ?_)
  refine kk_pp hG (c := 6) (k := 1) (a := p0) (v := (some q3)) rfl rfl rfl rfl rfl (fun s4 => ?_)
  refine kk_aln hG (x := (some p0)) rfl rfl ?_
  refine kks hG rfl rfl ?_
  refine kk_nar hG (ty := .boolean) rfl rfl rfl rfl (fun q5 sq5 cq5 dq5 => ?_)
  refine kk_pp hG (c := 6) (k := 2) (a := p0) (v := (some q5)) rfl rfl rfl rfl rfl (fun s6 => ?_)
  refine kk_aln hG (x := (some p0)) rfl rfl ?_
  refine kks hG rfl rfl ?_
  refine kk_nar hG (ty := .int) rfl rfl rfl rfl (fun q7 sq7 cq7 dq7 => ?_)
  refine kk_pp hG (c := 6) (k := 3) (a := p0) (v := (some q7)) rfl rfl rfl rfl rfl (fun s8 => ?_)
  refine kk_aln hG (x := (some p0)) rfl rfl ?_
  refine kks hG rfl rfl ?_
  refine kk_nar hG (ty := .int) rfl rfl rfl rfl (fun q9 sq9 cq9 dq9 => ?_)
  refine kk_pp hG (c := 6) (k := 4) (a := p0) (v := (some q9)) rfl rfl rfl rfl rfl (fun s10 => ?_)
  exact kk_rv hG rfl rfl k
def C_Pl_isFull (sa : Nat → Nat) (p0 : Nat) (s : cS) (kc ks : Nat) (Q : (Int32 → cS → Nat → Nat → Prop)) : Prop := ob (gI s 6 5 p0) (fun v1 => (ob (gP s 6 1 p0) (fun v2 => (ob v2 (fun b3 => (ob (aL s b3) (fun v4 => (if v1 < v4 then (Q (0 : Int32) s kc ks) else (Q (1 : Int32) s kc ks)))))))))
set_option maxRecDepth 100000 in
set_option maxHeartbeats 4000000 in
theorem kc_Pl_isFull (base : Nat) (sa : Nat → Nat) {R : pmM} {s : cS} {kc ks : Nat} {Rt : pmR} {p0 : Nat} {Q : (Int32 → cS → Nat → Nat → Prop)} (hw : cW sa R base s) (h : C_Pl_isFull sa p0 s kc ks Q) (k : ∀ r s' kc' ks', cW sa R base s' → Q r s' kc' ks' → Rt (some (.int r)) (cM R s') kc' ks') : kP_Pl_isFull base sa [.ref p0] (cM R s) kc ks Rt := by
  refine ⟨Nat.le_of_ble_eq_true rfl, fun G hG => ?_⟩
  refine (show KK sa R base G 0 [(0, va_rf (some p0))] [] s kc ks (C_Pl_isFull sa p0 s kc ks Q) from ?_) hw h
  refine kk_aln hG (x := (some p0)) rfl rfl ?_
  refine kk_gi hG (c := 6) (k := 5) (a := p0) rfl rfl rfl rfl (fun v1 => ?_)
  refine kk_aln hG (x := (some p0)) rfl rfl ?_
  refine kk_gp hG (c := 6) (k := 1) (a := p0) rfl rfl rfl rfl (fun v2 => ?_)
  refine kk_ob (fun b3 eb3 => ?_)
  subst eb3
  refine kk_len hG (a := b3) rfl (fun v4 => ?_)
  refine kk_ilt hG (t := 16) rfl rfl ?_ ?_
  · refine kk_ic hG rfl cc_i0 ?_
    exact kk_ri hG rfl rfl rfl k
  refine kk_ic hG rfl cc_i1 ?_
  refine kk_go hG (t := 17) rfl rfl ?_
  exact kk_ri hG rfl rfl rfl k
