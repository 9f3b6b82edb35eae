/-! Methods as weakest preconditions, by program: Rf_writeLink .. Rf_writeFilters -/
def C_Rf_writeLink (sa : Nat → Nat) (p0 : Nat) (p1 : Option Nat) (s : cS) (kc ks : Nat) (Q : (cS → Nat → Nat → Prop)) : Prop := ob (gP s 11 2 p0) (fun v1 => (ob v1 (fun b2 => (okO s 0 b2 ∧ C_By_word sa b2 (some (sa 0)) s kc ks (fun sr3 cr3 dr3 => (ob (gP sr3 11 2 p0) (fun v4 => (ob p1 (fun b5 => (ob (gP sr3 3 0 b5) (fun v6 => (ob v4 (fun b7 => (okO sr3 0 b7 ∧ C_By_word sa b7 v6 sr3 cr3 dr3 (fun sr8 cr8 dr8 => (ob (gP sr8 11 2 p0) (fun v9 => (ob (gI sr8 3 1 b5) (fun v10 => (ob v9 (fun b11 => (okO sr8 0 b11 ∧ C_By_wordNumber sa b11 v10 sr8 cr8 dr8 (fun sr12 cr12 dr12 => (ob (gP sr12 11 2 p0) (fun v13 => (ob v13 (fun b14 => (okO sr12 0 b14 ∧ C_By_word sa b14 (some (sa 1)) sr12 cr12 dr12 (fun sr15 cr15 dr15 => (ob (gP sr15 11 2 p0) (fun v16 => (ob (gI sr15 3 2 b5) (fun v17 => (ob v16 (fun b18 => (okO sr15 0 b18 ∧ C_By_wordNumber sa b18 v17 sr15 cr15 dr15 (fun sr19 cr19 dr19 => (ob (gP sr19 11 2 p0) (fun v20 => (ob v20 (fun b21 => (okO sr19 0 b21 ∧ C_By_word sa b21 (some (sa 2)) sr19 cr19 dr19 (fun sr22 cr22 dr22 => (ob (gP sr22 11 2 p0) (fun v23 => (ob (gI sr22 3 3 b5) (fun v24 => (ob v23 (fun b25 => (okO sr22 0 b25 ∧ C_By_wordNumber sa b25 v24 sr22 cr22 dr22 (fun sr26 cr26 dr26 => (ob (gP sr26 11 2 p0) (fun v27 => (ob v27 (fun b28 => (okO sr26 0 b28 ∧ C_By_endLine sa b28 sr26 cr26 dr26 (fun sr29 cr29 dr29 => (Q sr29 cr29 dr29))))))))))))))))))))))))))))))))))))))))))))))))))))))))))
set_option maxRecDepth 100000 in
set_option maxHeartbeats 4000000 in
theorem kc_Rf_writeLink (base : Nat) (sa : Nat → Nat) {R : pmM} {s : cS} {kc ks : Nat} {Rt : pmR} {p0 : Nat} {p1 : Option Nat} {Q : (cS → Nat → Nat → Prop)} (hw : cW sa R base s) (h : C_Rf_writeLink sa p0 p1 s kc ks Q) (k : ∀ s' kc' ks', cW sa R base s' → Q s' kc' ks' → Rt none (cM R s') kc' ks') : kP_Rf_writeLink base sa [.ref p0, va_rf p1] (cM R s) kc ks Rt := by
  refine ⟨by cases p1 <;> exact Nat.le_of_ble_eq_true rfl, fun G hG => ?_⟩
  have eL : lv_args 0 [.ref p0, va_rf p1] = [(0, va_rf (some p0)), (1, va_rf p1)] := by cases p1 <;> rfl
  rw [eL]
  refine (show KK sa R base G 0 [(0, va_rf (some p0)), (1, va_rf p1)] [] s kc ks (C_Rf_writeLink sa p0 p1 s kc ks Q) from ?_) hw h
  refine kk_aln hG (x := (some p0)) rfl rfl ?_
  refine kk_gp hG (c := 11) (k := 2) (a := p0) rfl rfl rfl rfl (fun v1 => ?_)
  refine kk_lws hG (a := sa 0) rfl rfl ?_
  refine kk_ob (fun b2 eb2 => ?_)
  subst eb2
  refine kk_cv hG 0 rfl rfl (Nat.le_of_ble_eq_true rfl) (by decide) rfl (st' := []) rfl (cats_le (Nat.le_of_ble_eq_true rfl)) (fun _ hw h k => kk_rcv h.1 (kc_By_word base sa hw h.2 k)) (fun sr3 cr3 dr3 => ?_)
  refine kk_aln hG (x := (some p0)) rfl rfl ?_
  refine kk_gp hG (c := 11) (k := 2) (a := p0) rfl rfl rfl rfl (fun v4 => ?_)
  refine kk_aln hG (x := p1) rfl rfl ?_
  refine kk_ob (fun b5 eb5 => ?_)
  subst eb5
  refine kk_gp hG (c := 3) (k := 0) (a := b5) rfl rfl rfl rfl (fun v6 => ?_)
  refine kk_ob (fun b7 eb7 => ?_)
  subst eb7
  refine kk_cv hG 0 rfl rfl (Nat.le_of_ble_eq_true rfl) (by decide) rfl (st' := []) rfl (cats_le (Nat.le_of_ble_eq_true rfl)) (fun _ hw h k => kk_rcv h.1 (kc_By_word base sa hw h.2 k)) (fun sr8 cr8 dr8 => ?_)
  refine kk_aln hG (x := (some p0)) rfl rfl ?_
  refine kk_gp hG (c := 11) (k := 2) (a := p0) rfl rfl rfl rfl (fun v9 => ?_)
  refine kk_aln hG (x := (some b5)) rfl rfl ?_
  refine kk_gi hG (c := 3) (k := 1) (a := b5) rfl rfl rfl rfl (fun v10 => ?_)
  refine kk_ob (fun b11 eb11 => ?_)
  subst eb11
  refine kk_cv hG 0 rfl rfl (Nat.le_of_ble_eq_true rfl) (by decide) rfl (st' := []) rfl (cats_le (Nat.le_of_ble_eq_true rfl)) (fun _ hw h k => kk_rcv h.1 (kc_By_wordNumber base sa hw h.2 k)) (fun sr12 cr12 dr12 => ?_)
  refine kk_aln hG (x := (some p0)) rfl rfl ?_
  refine kk_gp hG (c := 11) (k := 2) (a := p0) rfl rfl rfl rfl (fun v13 => ?_)
  refine kk_lws hG (a := sa 1) rfl rfl ?_
  refine kk_ob (fun b14 eb14 => ?_)
  subst eb14
  refine kk_cv hG 0 rfl rfl (Nat.le_of_ble_eq_true rfl) (by decide) rfl (st' := []) rfl (cats_le (Nat.le_of_ble_eq_true rfl)) (fun _ hw h k => kk_rcv h.1 (kc_By_word base sa hw h.2 k)) (fun sr15 cr15 dr15 => ?_)
  refine kk_aln hG (x := (some p0)) rfl rfl ?_
  refine kk_gp hG (c := 11) (k := 2) (a := p0) rfl rfl rfl rfl (fun v16 => ?_)
  refine kk_aln hG (x := (some b5)) rfl rfl ?_
  refine kk_gi hG (c := 3) (k := 2) (a := b5) rfl rfl rfl rfl (fun v17 => ?_)
  refine kk_ob (fun b18 eb18 => ?_)
  subst eb18
  refine kk_cv hG 0 rfl rfl (Nat.le_of_ble_eq_true rfl) (by decide) rfl (st' := []) rfl (cats_le (Nat.le_of_ble_eq_true rfl)) (fun _ hw h k => kk_rcv h.1 (kc_By_wordNumber base sa hw h.2 k)) (fun sr19 cr19 dr19 => ?_)
  refine kk_aln hG (x := (some p0)) rfl rfl ?_
  refine kk_gp hG (c := 11) (k := 2) (a := p0) rfl rfl rfl rfl (fun v20 => ?_)
  refine kk_lws hG (a := sa 2) rfl rfl ?_
  refine kk_ob (fun b21 eb21 => ?_)
  subst eb21
  refine kk_cv hG 0 rfl rfl (Nat.le_of_ble_eq_true rfl) (by decide) rfl (st' := []) rfl (cats_le (Nat.le_of_ble_eq_true rfl)) (fun _ hw h k => kk_rcv h.1 (kc_By_word base sa hw h.2 k)) (fun sr22 cr22 dr22 => ?_)
  refine kk_aln hG (x := (some p0)) rfl rfl ?_
  refine kk_gp hG (c := 11) (k := 2) (a := p0) rfl rfl rfl rfl (fun v23 => ?_)
  refine kk_aln hG (x := (some b5)) rfl rfl ?_
  refine kk_gi hG (c := 3) (k := 3) (a := b5) rfl rfl rfl rfl (fun v24 => ?_)
  refine kk_ob (fun b25 eb25 => ?_)
  subst eb25
  refine kk_cv hG 0 rfl rfl (Nat.le_of_ble_eq_true rfl) (by decide) rfl (st' := []) rfl (cats_le (Nat.le_of_ble_eq_true rfl)) (fun _ hw h k => kk_rcv h.1 (kc_By_wordNumber base sa hw h.2 k)) (fun sr26 cr26 dr26 => ?_)
  refine kk_aln hG (x := (some p0)) rfl rfl ?_
  refine kk_gp hG (c := 11) (k := 2) (a := p0) rfl rfl rfl rfl (fun v27 => ?_)
  refine kk_ob (fun b28 eb28 => ?_)
  subst eb28
  refine kk_cv hG 0 rfl rfl (Nat.le_of_ble_eq_true rfl) (by decide) rfl (st' := []) rfl (cats_le (Nat.le_of_ble_eq_true rfl)) (fun _ hw h k => kk_rcv h.1 (kc_By_endLine base sa hw h.2 k)) (fun sr29 cr29 dr29 => ?_)
  exact kk_rv hG rfl rfl k
def C_Rf_writeList_b145 (sa : Nat → Nat) (p0 : Nat) (p1 : Option Nat) (a2 : Int32) (s : cS) (kc ks : Nat) (Q : (cS → Nat → Nat → Prop)) (P2 : (Int32 → cS → Nat → Nat → Prop)) : Prop := ob (gP s 11 2 p0) (fun v1 => (ob v1 (fun b2 => (okO s 0 b2 ∧ C_By_endLine sa b2 s kc ks (fun sr3 cr3 dr3 => ((P2 (a2 + (1 : Int32)) sr3 cr3 dr3)))))))
def C_Rf_writeList_b112 (sa : Nat → Nat) (p0 : Nat) (p1 : Option Nat) (a2 : Int32) (s : cS) (kc ks : Nat) (Q : (cS → Nat → Nat → Prop)) (P2 : (Int32 → cS → Nat → Nat → Prop)) : Prop := ob p1 (fun b1 => (ob (gP s 6 4 b1) (fun v2 => (ob v2 (fun b3 => (ob (rE s .int b3 a2) (fun v4 => (if v4 = ((-1) : Int32) then ((C_Rf_writeList_b145 sa p0 (some b1) a2 s kc ks Q P2)) else (ob (gP s 11 2 p0) (fun v5 => (ob v5 (fun b6 => (okO s 0 b6 ∧ C_By_word sa b6 (some (sa 27)) s kc ks (fun sr7 cr7 dr7 => (ob (gP sr7 11 2 p0) (fun v8 => (ob (gP sr7 6 4 b1) (fun v9 => (ob v9 (fun b10 => (ob (rE sr7 .int b10 a2) (fun v11 => (ob v8 (fun b12 => (okO sr7 0 b12 ∧ C_By_wordNumber sa b12 v11 sr7 cr7 dr7 (fun sr13 cr13 dr13 => ((C_Rf_writeList_b145 sa p0 (some b1) a2 sr13 cr13 dr13 Q P2))))))))))))))))))))))))))))
def C_Rf_writeList_b53 (sa : Nat → Nat) (p0 : Nat) (p1 : Option Nat) (a2 : Int32) (u0 : Option Nat) (u1 : Option Nat) (s : cS) (kc ks : Nat) (Q : (cS → Nat → Nat → Prop)) (P2 : (Int32 → cS → Nat → Nat → Prop)) : Prop := ob u0 (fun b1 => (okO s 0 b1 ∧ C_By_word sa b1 u1 s kc ks (fun sr2 cr2 dr2 => (ob (gP sr2 11 2 p0) (fun v3 => (ob v3 (fun b4 => (okO sr2 0 b4 ∧ C_By_word sa b4 (some (sa 3)) sr2 cr2 dr2 (fun sr5 cr5 dr5 => (ob (gP sr5 11 2 p0) (fun v6 => (ob p1 (fun b7 => (ob (gP sr5 6 1 b7) (fun v8 => (ob v8 (fun b9 => (ob (rQ sr5 b9 a2) (fun v10 => (ob v6 (fun b11 => (okO sr5 0 b11 ∧ C_By_addPrefix sa b11 v10 sr5 cr5 dr5 (fun sr12 cr12 dr12 => (ob (gP sr12 6 3 b7) (fun v13 => (ob v13 (fun b14 => (ob (rE sr12 .int b14 a2) (fun v15 => (if v15 = ((-1) : Int32) then ((C_Rf_writeList_b112 sa p0 (some b7) a2 sr12 cr12 dr12 Q P2)) else (ob (gP sr12 11 2 p0) (fun v16 => (ob v16 (fun b17 => (okO sr12 0 b17 ∧ C_By_word sa b17 (some (sa 26)) sr12 cr12 dr12 (fun sr18 cr18 dr18 => (ob (gP sr18 11 2 p0) (fun v19 => (ob (gP sr18 6 3 b7) (fun v20 => (ob v20 (fun b21 => (ob (rE sr18 .int b21 a2) (fun v22 => (ob v19 (fun b23 => (okO sr18 0 b23 ∧ C_By_wordNumber sa b23 v22 sr18 cr18 dr18 (fun sr24 cr24 dr24 => ((C_Rf_writeList_b112 sa p0 (some b7) a2 sr24 cr24 dr24 Q P2))))))))))))))))))))))))))))))))))))))))))))))))))
def C_Rf_writeList_s2 (sa : Nat → Nat) (p0 : Nat) (p1 : Option Nat) (a2 : Int32) (s : cS) (kc ks : Nat) (Q : (cS → Nat → Nat → Prop)) (P2 : (Int32 → cS → Nat → Nat → Prop)) : Prop := ob p1 (fun b1 => (ob (gI s 6 5 b1) (fun v2 => (if a2 < v2 then (ob (gP s 11 2 p0) (fun v3 => (ob v3 (fun b4 => (okO s 0 b4 ∧ C_By_word sa b4 (some (sa 25)) s kc ks (fun sr5 cr5 dr5 => (ob (gP sr5 11 2 p0) (fun v6 => (ob (gP sr5 6 0 b1) (fun v7 => (ob v6 (fun b8 => (okO sr5 0 b8 ∧ C_By_word sa b8 v7 sr5 cr5 dr5 (fun sr9 cr9 dr9 => (ob (gP sr9 11 2 p0) (fun v10 => (ob (gP sr9 6 2 b1) (fun v11 => (ob v11 (fun b12 => (ob (rE sr9 .boolean b12 a2) (fun v13 => (if v13 = 0 then ((C_Rf_writeList_b53 sa p0 (some b1) a2 v10 (some (sa 24)) sr9 cr9 dr9 Q P2)) else ((C_Rf_writeList_b53 sa p0 (some b1) a2 v10 (some (sa 23)) sr9 cr9 dr9 Q P2))))))))))))))))))))))))) else ((Q s kc ks))))))
def C_Rf_writeList_b2 (sa : Nat → Nat) (p0 : Nat) (p1 : Option Nat) (a2 : Int32) (s : cS) (kc ks : Nat) (Q : (cS → Nat → Nat → Prop)) : Prop := ∀ P2 : (Int32 → cS → Nat → Nat → Prop), (∀ (a2 : Int32) (s : cS) (kc ks : Nat), C_Rf_writeList_s2 sa p0 p1 a2 s kc ks Q P2 → P2 a2 s kc ks) → P2 a2 s kc ks
def C_Rf_writeList (sa : Nat → Nat) (p0 : Nat) (p1 : Option Nat) (s : cS) (kc ks : Nat) (Q : (cS → Nat → Nat → Prop)) : Prop := (C_Rf_writeList_b2 sa p0 p1 (0 : Int32) s kc ks Q)
set_option maxRecDepth 100000 in
set_option maxHeartbeats 4000000 in
theorem kc_Rf_writeList (base : Nat) (sa : Nat → Nat) {R : pmM} {s : cS} {kc ks : Nat} {Rt : pmR} {p0 : Nat} {p1 : Option Nat} {Q : (cS → Nat → Nat → Prop)} (hw : cW sa R base s) (h : C_Rf_writeList sa p0 p1 s kc ks Q) (k : ∀ s' kc' ks', cW sa R base s' → Q s' kc' ks' → Rt none (cM R s') kc' ks') : kP_Rf_writeList base sa [.ref p0, va_rf p1] (cM R s) kc ks Rt := by
  refine ⟨by cases p1 <;> exact Nat.le_of_ble_eq_true rfl, fun G hG => ?_⟩
  have eL : lv_args 0 [.ref p0, va_rf p1] = [(0, va_rf (some p0)), (1, va_rf p1)] := by cases p1 <;> rfl
  rw [eL]
  have b2 : ∀ (a2 : Int32) (s : cS) (kc ks : Nat), KK sa R base G 2 [(0, va_rf (some p0)), (1, va_rf p1), (2, .int a2)] [] s kc ks (C_Rf_writeList_b2 sa p0 p1 a2 s kc ks Q) := by
    have H : ∀ (P2 : (Int32 → cS → Nat → Nat → Prop)) (hP2 : ∀ (a2 : Int32) (s : cS) (kc ks : Nat), P2 a2 s kc ks → cW sa R base s → G 2 [(0, va_rf (some p0)), (1, va_rf p1), (2, .int a2)] [] (cM R s) kc ks) (a2 : Int32) (s : cS) (kc ks : Nat), KK sa R base G 2 [(0, va_rf (some p0)), (1, va_rf p1), (2, .int a2)] [] s kc ks (C_Rf_writeList_s2 sa p0 p1 a2 s kc ks Q P2) := by
      intro P2 hP2
      have b145 : ∀ (a2 : Int32) (s : cS) (kc ks : Nat), KK sa R base G 145 [(0, va_rf (some p0)), (1, va_rf p1), (2, .int a2)] [] s kc ks (C_Rf_writeList_b145 sa p0 p1 a2 s kc ks Q P2) := by
        intro a2 s kc ks
        refine kk_aln hG (x := (some p0)) rfl rfl ?_
        refine kk_gp hG (c := 11) (k := 2) (a := p0) rfl rfl rfl rfl (fun v1 => ?_)
        refine kk_ob (fun b2 eb2 => ?_)
        subst eb2
        refine kk_cv hG 0 rfl rfl (Nat.le_of_ble_eq_true rfl) (by decide) rfl (st' := []) rfl (cats_le (Nat.le_of_ble_eq_true rfl)) (fun _ hw h k => kk_rcv h.1 (kc_By_endLine base sa hw h.2 k)) (fun sr3 cr3 dr3 => ?_)
        refine kk_inc hG (L' := [(2, .int (a2 + (1 : Int32))), (0, va_rf (some p0)), (1, va_rf p1)]) rfl (Nat.le_of_ble_eq_true rfl) rfl cc_i1 (by cases p1 <;> rfl) ?_
        refine kk_go hG (t := 2) rfl rfl ?_
        exact kk_wl hG [1, 2, 0] rfl (fun hw h => hP2 _ _ _ _ h hw)
      have b112 : ∀ (a2 : Int32) (s : cS) (kc ks : Nat), KK sa R base G 112 [(0, va_rf (some p0)), (1, va_rf p1), (2, .int a2)] [] s kc ks (C_Rf_writeList_b112 sa p0 p1 a2 s kc ks Q P2) := by
        intro a2 s kc ks
        refine kk_aln hG (x := p1) rfl rfl ?_
        refine kk_ob (fun b1 eb1 => ?_)
        subst eb1
        refine kk_gp hG (c := 6) (k := 4) (a := b1) rfl rfl rfl rfl (fun v2 => ?_)
        refine kks hG rfl rfl ?_
        refine kk_ob (fun b3 eb3 => ?_)
        subst eb3
        refine kk_ia hG (a := b3) rfl (fun v4 => ?_)
        refine kk_ic hG rfl cc_im1 ?_
        refine kk_ieq hG (t := 145) rfl rfl ?_ ?_
        · exact kk_wl hG [0, 1, 2] rfl (b145 _ _ _ _)
        refine kk_aln hG (x := (some p0)) rfl rfl ?_
        refine kk_gp hG (c := 11) (k := 2) (a := p0) rfl rfl rfl rfl (fun v5 => ?_)
        refine kk_lws hG (a := sa 27) rfl rfl ?_
        refine kk_ob (fun b6 eb6 => ?_)
        subst eb6
        refine kk_cv hG 0 rfl rfl (Nat.le_of_ble_eq_true rfl) (by decide) rfl (st' := []) rfl (cats_le (Nat.le_of_ble_eq_true rfl)) (fun _ hw h k => kk_rcv h.1 (kc_By_word base sa hw h.2 k)) (fun sr7 cr7 dr7 => ?_)
        refine kk_aln hG (x := (some p0)) rfl rfl ?_
        refine kk_gp hG (c := 11) (k := 2) (a := p0) rfl rfl rfl rfl (fun v8 => ?_)
        refine kk_aln hG (x := (some b1)) rfl rfl ?_
        refine kk_gp hG (c := 6) (k := 4) (a := b1) rfl rfl rfl rfl (fun v9 => ?_)
        refine kks hG rfl rfl ?_
        refine kk_ob (fun b10 eb10 => ?_)
        subst eb10
        refine kk_ia hG (a := b10) rfl (fun v11 => ?_)
        refine kk_ob (fun b12 eb12 => ?_)
        subst eb12
        refine kk_cv hG 0 rfl rfl (Nat.le_of_ble_eq_true rfl) (by decide) rfl (st' := []) rfl (cats_le (Nat.le_of_ble_eq_true rfl)) (fun _ hw h k => kk_rcv h.1 (kc_By_wordNumber base sa hw h.2 k)) (fun sr13 cr13 dr13 => ?_)
        exact kk_wl hG [0, 1, 2] rfl (b145 _ _ _ _)
      have b53 : ∀ (a2 : Int32) (u0 : Option Nat) (u1 : Option Nat) (s : cS) (kc ks : Nat), KK sa R base G 53 [(0, va_rf (some p0)), (1, va_rf p1), (2, .int a2)] [va_rf u1, va_rf u0] s kc ks (C_Rf_writeList_b53 sa p0 p1 a2 u0 u1 s kc ks Q P2) := by
        intro a2 u0 u1 s kc ks
        refine kk_ob (fun b1 eb1 => ?_)
        subst eb1
        refine kk_cv hG 0 rfl rfl (Nat.le_of_ble_eq_true rfl) (by decide) rfl (st' := []) rfl (cats_le (Nat.le_of_ble_eq_true rfl)) (fun _ hw h k => kk_rcv h.1 (kc_By_word base sa hw h.2 k)) (fun sr2 cr2 dr2 => ?_)
        refine kk_aln hG (x := (some p0)) rfl rfl ?_
        refine kk_gp hG (c := 11) (k := 2) (a := p0) rfl rfl rfl rfl (fun v3 => ?_)
        refine kk_lws hG (a := sa 3) rfl rfl ?_
        refine kk_ob (fun b4 eb4 => ?_)
        subst eb4
        refine kk_cv hG 0 rfl rfl (Nat.le_of_ble_eq_true rfl) (by decide) rfl (st' := []) rfl (cats_le (Nat.le_of_ble_eq_true rfl)) (fun _ hw h k => kk_rcv h.1 (kc_By_word base sa hw h.2 k)) (fun sr5 cr5 dr5 => ?_)
        refine kk_aln hG (x := (some p0)) rfl rfl ?_
        refine kk_gp hG (c := 11) (k := 2) (a := p0) rfl rfl rfl rfl (fun v6 => ?_)
        refine kk_aln hG (x := p1) rfl rfl ?_
        refine kk_ob (fun b7 eb7 => ?_)
        subst eb7
        refine kk_gp hG (c := 6) (k := 1) (a := b7) rfl rfl rfl rfl (fun v8 => ?_)
        refine kks hG rfl rfl ?_
        refine kk_ob (fun b9 eb9 => ?_)
        subst eb9
        refine kk_aa hG (a := b9) rfl (fun v10 => ?_)
        refine kk_ob (fun b11 eb11 => ?_)
        subst eb11
        refine kk_cv hG 0 rfl rfl (Nat.le_of_ble_eq_true rfl) (by decide) rfl (st' := []) rfl (cats_le (Nat.le_of_ble_eq_true rfl)) (fun _ hw h k => kk_rcv h.1 (kc_By_addPrefix base sa hw h.2 k)) (fun sr12 cr12 dr12 => ?_)
        refine kk_aln hG (x := (some b7)) rfl rfl ?_
        refine kk_gp hG (c := 6) (k := 3) (a := b7) rfl rfl rfl rfl (fun v13 => ?_)
        refine kks hG rfl rfl ?_
        refine kk_ob (fun b14 eb14 => ?_)
        subst eb14
        refine kk_ia hG (a := b14) rfl (fun v15 => ?_)
        refine kk_ic hG rfl cc_im1 ?_
        refine kk_ieq hG (t := 112) rfl rfl ?_ ?_
        · exact kk_wl hG [0, 1, 2] rfl (b112 _ _ _ _)
        refine kk_aln hG (x := (some p0)) rfl rfl ?_
        refine kk_gp hG (c := 11) (k := 2) (a := p0) rfl rfl rfl rfl (fun v16 => ?_)
        refine kk_lws hG (a := sa 26) rfl rfl ?_
        refine kk_ob (fun b17 eb17 => ?_)
        subst eb17
        refine kk_cv hG 0 rfl rfl (Nat.le_of_ble_eq_true rfl) (by decide) rfl (st' := []) rfl (cats_le (Nat.le_of_ble_eq_true rfl)) (fun _ hw h k => kk_rcv h.1 (kc_By_word base sa hw h.2 k)) (fun sr18 cr18 dr18 => ?_)
        refine kk_aln hG (x := (some p0)) rfl rfl ?_
        refine kk_gp hG (c := 11) (k := 2) (a := p0) rfl rfl rfl rfl (fun v19 => ?_)
        refine kk_aln hG (x := (some b7)) rfl rfl ?_
        refine kk_gp hG (c := 6) (k := 3) (a := b7) rfl rfl rfl rfl (fun v20 => ?_)
        refine kks hG rfl rfl ?_
        refine kk_ob (fun b21 eb21 => ?_)
        subst eb21
        refine kk_ia hG (a := b21) rfl (fun v22 => ?_)
        refine kk_ob (fun b23 eb23 => ?_)
        subst eb23
        refine kk_cv hG 0 rfl rfl (Nat.le_of_ble_eq_true rfl) (by decide) rfl (st' := []) rfl (cats_le (Nat.le_of_ble_eq_true rfl)) (fun _ hw h k => kk_rcv h.1 (kc_By_wordNumber base sa hw h.2 k)) (fun sr24 cr24 dr24 => ?_)
        exact kk_wl hG [0, 1, 2] rfl (b112 _ _ _ _)
      intro a2 s kc ks
      refine kks hG rfl rfl ?_
      refine kk_aln hG (x := p1) rfl rfl ?_
      refine kk_ob (fun b1 eb1 => ?_)
      subst eb1
      refine kk_gi hG (c := 6) (k := 5) (a := b1) rfl rfl rfl rfl (fun v2 => ?_)
      refine kk_ige hG (t := 158) rfl rfl ?_ ?_
      · exact kk_rv hG rfl rfl k
      refine kk_aln hG (x := (some p0)) rfl rfl ?_
      refine kk_gp hG (c := 11) (k := 2) (a := p0) rfl rfl rfl rfl (fun v3 => ?_)
      refine kk_lws hG (a := sa 25) rfl rfl ?_
      refine kk_ob (fun b4 eb4 => ?_)
      subst eb4
      refine kk_cv hG 0 rfl rfl (Nat.le_of_ble_eq_true rfl) (by decide) rfl (st' := []) rfl (cats_le (Nat.le_of_ble_eq_true rfl)) (fun _ hw h k => kk_rcv h.1 (kc_By_word base sa hw h.2 k)) (fun sr5 cr5 dr5 => ?_)
      refine kk_aln hG (x := (some p0)) rfl rfl ?_
      refine kk_gp hG (c := 11) (k := 2) (a := p0) rfl rfl rfl rfl (fun v6 => ?_)
      refine kk_aln hG (x := (some b1)) rfl rfl ?_
      refine kk_gp hG (c := 6) (k := 0) (a := b1) rfl rfl rfl rfl (fun v7 => ?_)
      refine kk_ob (fun b8 eb8 => ?_)
      subst eb8
      refine kk_cv hG 0 rfl rfl (Nat.le_of_ble_eq_true rfl) (by decide) rfl (st' := []) rfl (cats_le (Nat.le_of_ble_eq_true rfl)) (fun _ hw h k => kk_rcv h.1 (kc_By_word base sa hw h.2 k)) (fun sr9 cr9 dr9 => ?_)
      refine kk_aln hG (x := (some p0)) rfl rfl ?_
      refine kk_gp hG (c := 11) (k := 2) (a := p0) rfl rfl rfl rfl (fun v10 => ?_)
      refine kk_aln hG (x := (some b1)) rfl rfl ?_
      refine kk_gp hG (c := 6) (k := 2) (a := b1) rfl rfl rfl rfl (fun v11 => ?_)
      refine kks hG rfl rfl ?_
      refine kk_ob (fun b12 eb12 => ?_)
      subst eb12
      refine kk_za hG (a := b12) rfl (fun v13 => ?_)
      refine kk_zeq hG (t := 50) rfl rfl ?_ ?_
      · refine kk_lws hG (a := sa 24) rfl rfl ?_
        exact kk_wl hG [0, 1, 2] rfl (b53 _ _ _ _ _ _)
      refine kk_lws hG (a := sa 23) rfl rfl ?_
      refine kk_go hG (t := 53) rfl rfl ?_
      exact kk_wl hG [0, 1, 2] rfl (b53 _ _ _ _ _ _)
    exact fun a2 s kc ks hw h => h (fun a2 s kc ks => cW sa R base s → G 2 [(0, va_rf (some p0)), (1, va_rf p1), (2, .int a2)] [] (cM R s) kc ks) (fun a2 s kc ks hs hw => H _ (fun _ _ _ _ hp hw => hp hw) a2 s kc ks hw hs) hw
  refine (show KK sa R base G 0 [(0, va_rf (some p0)), (1, va_rf p1)] [] s kc ks (C_Rf_writeList sa p0 p1 s kc ks Q) from ?_) hw h
  refine kk_ic hG rfl cc_i0 ?_
  refine kk_st hG (L' := [(2, .int (0 : Int32)), (0, va_rf (some p0)), (1, va_rf p1)]) rfl rfl (Nat.le_of_ble_eq_true rfl) (by cases p1 <;> rfl) ?_
  exact kk_wl hG [1, 2, 0] rfl (b2 _ _ _ _)
def C_Rf_beginPortLine (sa : Nat → Nat) (p0 : Nat) (p1 : Option Nat) (p2 : Option Nat) (p3 : Option Nat) (s : cS) (kc ks : Nat) (Q : (cS → Nat → Nat → Prop)) : Prop := ob (gP s 11 2 p0) (fun v1 => (ob v1 (fun b2 => (okO s 0 b2 ∧ C_By_word sa b2 p1 s kc ks (fun sr3 cr3 dr3 => (ob (gP sr3 11 2 p0) (fun v4 => (ob p2 (fun b5 => (ob (gP sr3 9 1 b5) (fun v6 => (ob v4 (fun b7 => (okO sr3 0 b7 ∧ C_By_word sa b7 v6 sr3 cr3 dr3 (fun sr8 cr8 dr8 => (ob (gP sr8 11 2 p0) (fun v9 => (ob p3 (fun b10 => (ob (gP sr8 4 0 b10) (fun v11 => (ob v11 (fun b12 => (ob (gP sr8 3 0 b12) (fun v13 => (ob v9 (fun b14 => (okO sr8 0 b14 ∧ C_By_word sa b14 v13 sr8 cr8 dr8 (fun sr15 cr15 dr15 => (Q sr15 cr15 dr15))))))))))))))))))))))))))))))
set_option maxRecDepth 100000 in
set_option maxHeartbeats 4000000 in
theorem kc_Rf_beginPortLine (base : Nat) (sa : Nat → Nat) {R : pmM} {s : cS} {kc ks : Nat} {Rt : pmR} {p0 : Nat} {p1 : Option Nat} {p2 : Option Nat} {p3 : Option Nat} {Q : (cS → Nat → Nat → Prop)} (hw : cW sa R base s) (h : C_Rf_beginPortLine sa p0 p1 p2 p3 s kc ks Q) (k : ∀ s' kc' ks', cW sa R base s' → Q s' kc' ks' → Rt none (cM R s') kc' ks') : kP_Rf_beginPortLine base sa [.ref p0, va_rf p1, va_rf p2, va_rf p3] (cM R s) kc ks Rt := by
  refine ⟨by cases p1 <;> cases p2 <;> cases p3 <;> exact Nat.le_of_ble_eq_true rfl, fun G hG => ?_⟩
  have eL : lv_args 0 [.ref p0, va_rf p1, va_rf p2, va_rf p3] = [(0, va_rf (some p0)), (1, va_rf p1), (2, va_rf p2), (3, va_rf p3)] := by cases p1 <;> cases p2 <;> cases p3 <;> rfl
  rw [eL]
  refine (show KK sa R base G 0 [(0, va_rf (some p0)), (1, va_rf p1), (2, va_rf p2), (3, va_rf p3)] [] s kc ks (C_Rf_beginPortLine sa p0 p1 p2 p3 s kc ks Q) from ?_) hw h
  refine kk_aln hG (x := (some p0)) rfl rfl ?_
  refine kk_gp hG (c := 11) (k := 2) (a := p0) rfl rfl rfl rfl (fun v1 => ?_)
  refine kk_aln hG (x := p1) rfl rfl ?_
  refine kk_ob (fun b2 eb2 => ?_)
  subst eb2
  refine kk_cv hG 0 rfl rfl (Nat.le_of_ble_eq_true rfl) (by decide) rfl (st' := []) rfl (cats_le (Nat.le_of_ble_eq_true rfl)) (fun _ hw h k => kk_rcv h.1 (kc_By_word base sa hw h.2 k)) (fun sr3 cr3 dr3 => ?_)
  refine kk_aln hG (x := (some p0)) rfl rfl ?_
  refine kk_gp hG (c := 11) (k := 2) (a := p0) rfl rfl rfl rfl (fun v4 => ?_)
  refine kk_aln hG (x := p2) rfl rfl ?_
  refine kk_ob (fun b5 eb5 => ?_)
  subst eb5
  refine kk_gp hG (c := 9) (k := 1) (a := b5) rfl rfl rfl rfl (fun v6 => ?_)
  refine kk_ob (fun b7 eb7 => ?_)
  subst eb7
  refine kk_cv hG 0 rfl rfl (Nat.le_of_ble_eq_true rfl) (by decide) rfl (st' := []) rfl (cats_le (Nat.le_of_ble_eq_true rfl)) (fun _ hw h k => kk_rcv h.1 (kc_By_word base sa hw h.2 k)) (fun sr8 cr8 dr8 => ?_)
  refine kk_aln hG (x := (some p0)) rfl rfl ?_
  refine kk_gp hG (c := 11) (k := 2) (a := p0) rfl rfl rfl rfl (fun v9 => ?_)
  refine kk_aln hG (x := p3) rfl rfl ?_
  refine kk_ob (fun b10 eb10 => ?_)
  subst eb10
  refine kk_gp hG (c := 4) (k := 0) (a := b10) rfl rfl rfl rfl (fun v11 => ?_)
  refine kk_ob (fun b12 eb12 => ?_)
  subst eb12
  refine kk_gp hG (c := 3) (k := 0) (a := b12) rfl rfl rfl rfl (fun v13 => ?_)
  refine kk_ob (fun b14 eb14 => ?_)
  subst eb14
  refine kk_cv hG 0 rfl rfl (Nat.le_of_ble_eq_true rfl) (by decide) rfl (st' := []) rfl (cats_le (Nat.le_of_ble_eq_true rfl)) (fun _ hw h k => kk_rcv h.1 (kc_By_word base sa hw h.2 k)) (fun sr15 cr15 dr15 => ?_)
  exact kk_rv hG rfl rfl k
def C_By_addSecret_s2 (sa : Nat → Nat) (p0 : Nat) (p1 : Option Nat) (a2 : Int32) (s : cS) (kc ks : Nat) (Q : (cS → Nat → Nat → Prop)) (P2 : (Int32 → cS → Nat → Nat → Prop)) : Prop := ob p1 (fun b1 => (ob (aL s b1) (fun v2 => (if a2 < v2 then (ob (rE s .byte b1 a2) (fun v3 => (if v3 = 0 then ((Q s kc ks)) else (ob (rE s .byte b1 a2) (fun v4 => (okO s 0 p0 ∧ C_By_add sa p0 v4 s kc ks (fun sr5 cr5 dr5 => ((P2 (a2 + (1 : Int32)) sr5 cr5 dr5))))))))) else ((Q s kc ks))))))
def C_By_addSecret_b2 (sa : Nat → Nat) (p0 : Nat) (p1 : Option Nat) (a2 : Int32) (s : cS) (kc ks : Nat) (Q : (cS → Nat → Nat → Prop)) : Prop := ∀ P2 : (Int32 → cS → Nat → Nat → Prop), (∀ (a2 : Int32) (s : cS) (kc ks : Nat), C_By_addSecret_s2 sa p0 p1 a2 s kc ks Q P2 → P2 a2 s kc ks) → P2 a2 s kc ks
def C_By_addSecret (sa : Nat → Nat) (p0 : Nat) (p1 : Option Nat) (s : cS) (kc ks : Nat) (Q : (cS → Nat → Nat → Prop)) : Prop := (C_By_addSecret_b2 sa p0 p1 (0 : Int32) s kc ks Q)
set_option maxRecDepth 100000 in
set_option maxHeartbeats 4000000 in
theorem kc_By_addSecret (base : Nat) (sa : Nat → Nat) {R : pmM} {s : cS} {kc ks : Nat} {Rt : pmR} {p0 : Nat} {p1 : Option Nat} {Q : (cS → Nat → Nat → Prop)} (hw : cW sa R base s) (h : C_By_addSecret sa p0 p1 s kc ks Q) (k : ∀ s' kc' ks', cW sa R base s' → Q s' kc' ks' → Rt none (cM R s') kc' ks') : kP_By_addSecret base sa [.ref p0, va_rf p1] (cM R s) kc ks Rt := by
  refine ⟨by cases p1 <;> exact Nat.le_of_ble_eq_true rfl, fun G hG => ?_⟩
  have eL : lv_args 0 [.ref p0, va_rf p1] = [(0, va_rf (some p0)), (1, va_rf p1)] := by cases p1 <;> rfl
  rw [eL]
  have b2 : ∀ (a2 : Int32) (s : cS) (kc ks : Nat), KK sa R base G 2 [(0, va_rf (some p0)), (1, va_rf p1), (2, .int a2)] [] s kc ks (C_By_addSecret_b2 sa p0 p1 a2 s kc ks Q) := by
    have H : ∀ (P2 : (Int32 → cS → Nat → Nat → Prop)) (hP2 : ∀ (a2 : Int32) (s : cS) (kc ks : Nat), P2 a2 s kc ks → cW sa R base s → G 2 [(0, va_rf (some p0)), (1, va_rf p1), (2, .int a2)] [] (cM R s) kc ks) (a2 : Int32) (s : cS) (kc ks : Nat), KK sa R base G 2 [(0, va_rf (some p0)), (1, va_rf p1), (2, .int a2)] [] s kc ks (C_By_addSecret_s2 sa p0 p1 a2 s kc ks Q P2) := by
      intro P2 hP2
      intro a2 s kc ks
      refine kks hG rfl rfl ?_
      refine kk_aln hG (x := p1) rfl rfl ?_
      refine kk_ob (fun b1 eb1 => ?_)
      subst eb1
      refine kk_len hG (a := b1) rfl (fun v2 => ?_)
      refine kk_ige hG (t := 27) rfl rfl ?_ ?_
      · exact kk_rv hG rfl rfl k
      refine kk_aln hG (x := (some b1)) rfl rfl ?_
      refine kks hG rfl rfl ?_
      refine kk_ba hG (a := b1) rfl (fun v3 => ?_)
      refine kk_zeq hG (t := 27) rfl rfl ?_ ?_
      · exact kk_rv hG rfl rfl k
      refine kk_aln hG (x := (some p0)) rfl rfl ?_
      refine kk_aln hG (x := (some b1)) rfl rfl ?_
      refine kks hG rfl rfl ?_
      refine kk_ba hG (a := b1) rfl (fun v4 => ?_)
      refine kk_cv hG 0 rfl rfl (Nat.le_of_ble_eq_true rfl) (by decide) rfl (st' := []) rfl (cats_le (Nat.le_of_ble_eq_true rfl)) (fun _ hw h k => kk_rcv h.1 (kc_By_add base sa hw h.2 k)) (fun sr5 cr5 dr5 => ?_)
      refine kk_inc hG (L' := [(2, .int (a2 + (1 : Int32))), (0, va_rf (some p0)), (1, va_rf (some b1))]) rfl (Nat.le_of_ble_eq_true rfl) rfl cc_i1 rfl ?_
      refine kk_go hG (t := 2) rfl rfl ?_
      exact kk_wl hG [1, 2, 0] rfl (fun hw h => hP2 _ _ _ _ h hw)
    exact fun a2 s kc ks hw h => h (fun a2 s kc ks => cW sa R base s → G 2 [(0, va_rf (some p0)), (1, va_rf p1), (2, .int a2)] [] (cM R s) kc ks) (fun a2 s kc ks hs hw => H _ (fun _ _ _ _ hp hw => hp hw) a2 s kc ks hw hs) hw
  refine (show KK sa R base G 0 [(0, va_rf (some p0)), (1, va_rf p1)] [] s kc ks (C_By_addSecret sa p0 p1 s kc ks Q) from ?_) hw h
  refine kk_ic hG rfl cc_i0 ?_
  refine kk_st hG (L' := [(2, .int (0 : Int32)), (0, va_rf (some p0)), (1, va_rf p1)]) rfl rfl (Nat.le_of_ble_eq_true rfl) (by cases p1 <;> rfl) ?_
  exact kk_wl hG [1, 2, 0] rfl (b2 _ _ _ _)
def C_Rf_writeJoins_b175 (sa : Nat → Nat) (p0 : Nat) (p1 : Option Nat) (p2 : Option Nat) (a3 : Int32) (a4 : Int32) (s : cS) (kc ks : Nat) (Q : (cS → Nat → Nat → Prop)) (P5 : (Int32 → Int32 → cS → Nat → Nat → Prop)) : Prop := (P5 a3 (a4 + (2 : Int32)) s kc ks)
def C_Rf_writeJoins_b166 (sa : Nat → Nat) (p0 : Nat) (p1 : Option Nat) (p2 : Option Nat) (a4 : Int32) (s : cS) (kc ks : Nat) (Q : (cS → Nat → Nat → Prop)) (P5 : (Int32 → Int32 → cS → Nat → Nat → Prop)) : Prop := ob (gP s 11 2 p0) (fun v1 => (ob v1 (fun b2 => (okO s 0 b2 ∧ C_By_endLine sa b2 s kc ks (fun sr3 cr3 dr3 => ((C_Rf_writeJoins_b175 sa p0 p1 p2 (0 : Int32) a4 sr3 cr3 dr3 Q P5)))))))
def C_Rf_writeJoins_b149 (sa : Nat → Nat) (p0 : Nat) (p1 : Option Nat) (p2 : Option Nat) (a4 : Int32) (s : cS) (kc ks : Nat) (Q : (cS → Nat → Nat → Prop)) (P5 : (Int32 → Int32 → cS → Nat → Nat → Prop)) : Prop := ob p2 (fun b1 => (ob (gI s 4 5 b1) (fun v2 => (if v2 = 0 then ((C_Rf_writeJoins_b166 sa p0 p1 (some b1) a4 s kc ks Q P5)) else (ob (gP s 11 2 p0) (fun v3 => (ob v3 (fun b4 => (okO s 0 b4 ∧ C_By_word sa b4 (some (sa 11)) s kc ks (fun sr5 cr5 dr5 => ((C_Rf_writeJoins_b166 sa p0 p1 (some b1) a4 sr5 cr5 dr5 Q P5))))))))))))
def C_Rf_writeJoins_s5 (sa : Nat → Nat) (p0 : Nat) (p1 : Option Nat) (p2 : Option Nat) (a3 : Int32) (a4 : Int32) (s : cS) (kc ks : Nat) (Q : (cS → Nat → Nat → Prop)) (P5 : (Int32 → Int32 → cS → Nat → Nat → Prop)) : Prop := if (6 : Int32) < a4 then ((Q s kc ks)) else (ob p2 (fun b1 => (okO s 4 b1 ∧ C_Po_addressOf sa b1 a4 s kc ks (fun r2 sr2 cr2 dr2 => (if r2 = none then ((C_Rf_writeJoins_b175 sa p0 p1 (some b1) a3 a4 sr2 cr2 dr2 Q P5)) else (okO sr2 11 p0 ∧ C_Rf_beginPortLine sa p0 (some (sa 5)) p1 (some b1) sr2 cr2 dr2 (fun sr3 cr3 dr3 => (ob (gP sr3 11 2 p0) (fun v4 => (ob v4 (fun b5 => (okO sr3 0 b5 ∧ C_By_word sa b5 (some (sa 3)) sr3 cr3 dr3 (fun sr6 cr6 dr6 => (ob (gP sr6 11 2 p0) (fun v7 => (ob v7 (fun b8 => (okO sr6 0 b8 ∧ C_By_addPrefix sa b8 r2 sr6 cr6 dr6 (fun sr9 cr9 dr9 => (if a3 = 0 then ((C_Rf_writeJoins_b166 sa p0 p1 (some b1) a4 sr9 cr9 dr9 Q P5)) else (ob (gP sr9 11 2 p0) (fun v10 => (ob v10 (fun b11 => (okO sr9 0 b11 ∧ C_By_word sa b11 (some (sa 6)) sr9 cr9 dr9 (fun sr12 cr12 dr12 => (ob (gP sr12 11 2 p0) (fun v13 => (ob (gI sr12 4 3 b1) (fun v14 => (ob v13 (fun b15 => (okO sr12 0 b15 ∧ C_By_wordNumber sa b15 v14 sr12 cr12 dr12 (fun sr16 cr16 dr16 => (ob (gP sr16 11 2 p0) (fun v17 => (ob v17 (fun b18 => (okO sr16 0 b18 ∧ C_By_word sa b18 (some (sa 7)) sr16 cr16 dr16 (fun sr19 cr19 dr19 => (ob (gP sr19 11 2 p0) (fun v20 => (ob (gI sr19 4 4 b1) (fun v21 => (C_Rf_splitWord sa v21 sr19 cr19 dr19 (fun r22 sr22 cr22 dr22 => (ob v20 (fun b23 => (okO sr22 0 b23 ∧ C_By_word sa b23 r22 sr22 cr22 dr22 (fun sr24 cr24 dr24 => (ob (gP sr24 4 6 b1) (fun v25 => (ob v25 (fun b26 => (ob (gI sr24 1 0 b26) (fun v27 => (if v27 = 0 then ((C_Rf_writeJoins_b149 sa p0 p1 (some b1) a4 sr24 cr24 dr24 Q P5)) else (ob (gP sr24 11 2 p0) (fun v28 => (ob v28 (fun b29 => (okO sr24 0 b29 ∧ C_By_word sa b29 (some (sa 8)) sr24 cr24 dr24 (fun sr30 cr30 dr30 => (ob (gP sr30 11 2 p0) (fun v31 => (ob v31 (fun b32 => (okO sr30 0 b32 ∧ C_By_word sa b32 (some (sa 3)) sr30 cr30 dr30 (fun sr33 cr33 dr33 => (ob (gP sr33 11 2 p0) (fun v34 => (ob (gP sr33 4 6 b1) (fun v35 => (ob v35 (fun b36 => (ob (gP sr33 1 1 b36) (fun v37 => (ob v34 (fun b38 => (okO sr33 0 b38 ∧ C_By_addSecret sa b38 v37 sr33 cr33 dr33 (fun sr39 cr39 dr39 => ((C_Rf_writeJoins_b149 sa p0 p1 (some b1) a4 sr39 cr39 dr39 Q P5)))))))))))))))))))))))))))))))))))))))))))))))))))))))))))))))))))))))))))))))))))
def C_Rf_writeJoins_b5 (sa : Nat → Nat) (p0 : Nat) (p1 : Option Nat) (p2 : Option Nat) (a3 : Int32) (a4 : Int32) (s : cS) (kc ks : Nat) (Q : (cS → Nat → Nat → Prop)) : Prop := ∀ P5 : (Int32 → Int32 → cS → Nat → Nat → Prop), (∀ (a3 : Int32) (a4 : Int32) (s : cS) (kc ks : Nat), C_Rf_writeJoins_s5 sa p0 p1 p2 a3 a4 s kc ks Q P5 → P5 a3 a4 s kc ks) → P5 a3 a4 s kc ks
def C_Rf_writeJoins (sa : Nat → Nat) (p0 : Nat) (p1 : Option Nat) (p2 : Option Nat) (s : cS) (kc ks : Nat) (Q : (cS → Nat → Nat → Prop)) : Prop := (C_Rf_writeJoins_b5 sa p0 p1 p2 (1 : Int32) (4 : Int32) s kc ks Q)
set_option maxRecDepth 100000 in
set_option maxHeartbeats 4000000 in
theorem kc_Rf_writeJoins (base : Nat) (sa : Nat → Nat) {R : pmM} {s : cS} {kc ks : Nat} {Rt : pmR} {p0 : Nat} {p1 : Option Nat} {p2 : Option Nat} {Q : (cS → Nat → Nat → Prop)} (hw : cW sa R base s) (h : C_Rf_writeJoins sa p0 p1 p2 s kc ks Q) (k : ∀ s' kc' ks', cW sa R base s' → Q s' kc' ks' → Rt none (cM R s') kc' ks') : kP_Rf_writeJoins base sa [.ref p0, va_rf p1, va_rf p2] (cM R s) kc ks Rt := by
  refine ⟨by cases p1 <;> cases p2 <;> exact Nat.le_of_ble_eq_true rfl, fun G hG => ?_⟩
  have eL : lv_args 0 [.ref p0, va_rf p1, va_rf p2] = [(0, va_rf (some p0)), (1, va_rf p1), (2, va_rf p2)] := by cases p1 <;> cases p2 <;> rfl
  rw [eL]
  have b5 : ∀ (a3 : Int32) (a4 : Int32) (s : cS) (kc ks : Nat), KK sa R base G 5 [(0, va_rf (some p0)), (1, va_rf p1), (2, va_rf p2), (3, .int a3), (4, .int a4)] [] s kc ks (C_Rf_writeJoins_b5 sa p0 p1 p2 a3 a4 s kc ks Q) := by
    have H : ∀ (P5 : (Int32 → Int32 → cS → Nat → Nat → Prop)) (hP5 : ∀ (a3 : Int32) (a4 : Int32) (s : cS) (kc ks : Nat), P5 a3 a4 s kc ks → cW sa R base s → G 5 [(0, va_rf (some p0)), (1, va_rf p1), (2, va_rf p2), (3, .int a3), (4, .int a4)] [] (cM R s) kc ks) (a3 : Int32) (a4 : Int32) (s : cS) (kc ks : Nat), KK sa R base G 5 [(0, va_rf (some p0)), (1, va_rf p1), (2, va_rf p2), (3, .int a3), (4, .int a4)] [] s kc ks (C_Rf_writeJoins_s5 sa p0 p1 p2 a3 a4 s kc ks Q P5) := by
      intro P5 hP5
      have b175 : ∀ (a3 : Int32) (a4 : Int32) (s : cS) (kc ks : Nat), KK sa R base G 175 [(0, va_rf (some p0)), (1, va_rf p1), (2, va_rf p2), (3, .int a3), (4, .int a4)] [] s kc ks (C_Rf_writeJoins_b175 sa p0 p1 p2 a3 a4 s kc ks Q P5) := by
        intro a3 a4 s kc ks
        refine kk_inc hG (L' := [(4, .int (a4 + (2 : Int32))), (0, va_rf (some p0)), (1, va_rf p1), (2, va_rf p2), (3, .int a3)]) rfl (Nat.le_of_ble_eq_true rfl) rfl cc_i2 rfl ?_
        refine kk_go hG (t := 5) rfl rfl ?_
        exact kk_wl hG [1, 2, 3, 4, 0] rfl (fun hw h => hP5 _ _ _ _ _ h hw)
      have b166 : ∀ (a4 : Int32) (s : cS) (kc ks : Nat), KK sa R base G 166 [(0, va_rf (some p0)), (1, va_rf p1), (2, va_rf p2), (4, .int a4)] [] s kc ks (C_Rf_writeJoins_b166 sa p0 p1 p2 a4 s kc ks Q P5) := by
        intro a4 s kc ks
        refine kk_aln hG (x := (some p0)) rfl rfl ?_
        refine kk_gp hG (c := 11) (k := 2) (a := p0) rfl rfl rfl rfl (fun v1 => ?_)
        refine kk_ob (fun b2 eb2 => ?_)
        subst eb2
        refine kk_cv hG 0 rfl rfl (Nat.le_of_ble_eq_true rfl) (by decide) rfl (st' := []) rfl (cats_le (Nat.le_of_ble_eq_true rfl)) (fun _ hw h k => kk_rcv h.1 (kc_By_endLine base sa hw h.2 k)) (fun sr3 cr3 dr3 => ?_)
        refine kk_ic hG rfl cc_i0 ?_
        refine kk_st hG (L' := [(3, .int (0 : Int32)), (0, va_rf (some p0)), (1, va_rf p1), (2, va_rf p2), (4, .int a4)]) rfl rfl (Nat.le_of_ble_eq_true rfl) (by cases p2 <;> rfl) ?_
        exact kk_wl hG [1, 2, 3, 0, 4] rfl (b175 _ _ _ _ _)
      have b149 : ∀ (a4 : Int32) (s : cS) (kc ks : Nat), KK sa R base G 149 [(0, va_rf (some p0)), (1, va_rf p1), (2, va_rf p2), (4, .int a4)] [] s kc ks (C_Rf_writeJoins_b149 sa p0 p1 p2 a4 s kc ks Q P5) := by
        intro a4 s kc ks
        refine kk_aln hG (x := p2) rfl rfl ?_
        refine kk_ob (fun b1 eb1 => ?_)
        subst eb1
        refine kk_gi hG (c := 4) (k := 5) (a := b1) rfl rfl rfl rfl (fun v2 => ?_)
        refine kk_zeq hG (t := 166) rfl rfl ?_ ?_
        · exact kk_wl hG [0, 1, 2, 3] rfl (b166 _ _ _ _)
        refine kk_aln hG (x := (some p0)) rfl rfl ?_
        refine kk_gp hG (c := 11) (k := 2) (a := p0) rfl rfl rfl rfl (fun v3 => ?_)
        refine kk_lws hG (a := sa 11) rfl rfl ?_
        refine kk_ob (fun b4 eb4 => ?_)
        subst eb4
        refine kk_cv hG 0 rfl rfl (Nat.le_of_ble_eq_true rfl) (by decide) rfl (st' := []) rfl (cats_le (Nat.le_of_ble_eq_true rfl)) (fun _ hw h k => kk_rcv h.1 (kc_By_word base sa hw h.2 k)) (fun sr5 cr5 dr5 => ?_)
        exact kk_wl hG [0, 1, 2, 3] rfl (b166 _ _ _ _)
      intro a3 a4 s kc ks
      refine kks hG rfl rfl ?_
      refine kk_bi hG rfl cc_b6 ?_
      refine kk_igt hG (t := 181) rfl rfl ?_ ?_
      · exact kk_rv hG rfl rfl k
      refine kk_aln hG (x := p2) rfl rfl ?_
      refine kks hG rfl rfl ?_
      refine kk_ob (fun b1 eb1 => ?_)
      subst eb1
      refine kk_cx (w := va_rf) hG 0 rfl rfl (Nat.le_of_ble_eq_true rfl) (by decide) rfl (st' := []) rfl (cats_le (Nat.le_of_ble_eq_true rfl)) (fun _ hw h k => kk_rcv h.1 (kc_Po_addressOf base sa hw h.2 k)) (fun r2 sr2 cr2 dr2 => ?_)
      refine kk_as hG (x := r2) (L' := [(5, va_rf r2), (0, va_rf (some p0)), (1, va_rf p1), (2, va_rf (some b1)), (3, .int a3), (4, .int a4)]) rfl (Nat.le_of_ble_eq_true rfl) rfl ?_
      refine kk_al hG (x := r2) rfl rfl ?_
      refine kk_nnl hG (x := r2) (t := 28) rfl rfl ?_ ?_
      · refine kk_aln hG (x := (some p0)) rfl rfl ?_
        refine kk_lws hG (a := sa 5) rfl rfl ?_
        refine kk_aln hG (x := p1) rfl rfl ?_
        refine kk_aln hG (x := (some b1)) rfl rfl ?_
        refine kk_cv hG 0 rfl rfl (Nat.le_of_ble_eq_true rfl) (by decide) rfl (st' := []) rfl (cats_le (Nat.le_of_ble_eq_true rfl)) (fun _ hw h k => kk_rcv h.1 (kc_Rf_beginPortLine base sa hw h.2 k)) (fun sr3 cr3 dr3 => ?_)
        refine kk_aln hG (x := (some p0)) rfl rfl ?_
        refine kk_gp hG (c := 11) (k := 2) (a := p0) rfl rfl rfl rfl (fun v4 => ?_)
        refine kk_lws hG (a := sa 3) rfl rfl ?_
        refine kk_ob (fun b5 eb5 => ?_)
        subst eb5
        refine kk_cv hG 0 rfl rfl (Nat.le_of_ble_eq_true rfl) (by decide) rfl (st' := []) rfl (cats_le (Nat.le_of_ble_eq_true rfl)) (fun _ hw h k => kk_rcv h.1 (kc_By_word base sa hw h.2 k)) (fun sr6 cr6 dr6 => ?_)
        refine kk_aln hG (x := (some p0)) rfl rfl ?_
        refine kk_gp hG (c := 11) (k := 2) (a := p0) rfl rfl rfl rfl (fun v7 => ?_)
        refine kk_al hG (x := r2) rfl rfl ?_
        refine kk_ob (fun b8 eb8 => ?_)
        subst eb8
        refine kk_cv hG 0 rfl rfl (Nat.le_of_ble_eq_true rfl) (by decide) rfl (st' := []) rfl (cats_le (Nat.le_of_ble_eq_true rfl)) (fun _ hw h k => kk_rcv h.1 (kc_By_addPrefix base sa hw h.2 k)) (fun sr9 cr9 dr9 => ?_)
        refine kks hG rfl rfl ?_
        refine kk_zeq hG (t := 166) rfl rfl ?_ ?_
        · exact kk_wl hG [1, 2, 3, 5] rfl (b166 _ _ _ _)
        refine kk_aln hG (x := (some p0)) rfl rfl ?_
        refine kk_gp hG (c := 11) (k := 2) (a := p0) rfl rfl rfl rfl (fun v10 => ?_)
        refine kk_lws hG (a := sa 6) rfl rfl ?_
        refine kk_ob (fun b11 eb11 => ?_)
        subst eb11
        refine kk_cv hG 0 rfl rfl (Nat.le_of_ble_eq_true rfl) (by decide) rfl (st' := []) rfl (cats_le (Nat.le_of_ble_eq_true rfl)) (fun _ hw h k => kk_rcv h.1 (kc_By_word base sa hw h.2 k)) (fun sr12 cr12 dr12 => ?_)
        refine kk_aln hG (x := (some p0)) rfl rfl ?_
        refine kk_gp hG (c := 11) (k := 2) (a := p0) rfl rfl rfl rfl (fun v13 => ?_)
        refine kk_aln hG (x := (some b1)) rfl rfl ?_
        refine kk_gi hG (c := 4) (k := 3) (a := b1) rfl rfl rfl rfl (fun v14 => ?_)
        refine kk_ob (fun b15 eb15 => ?_)
        subst eb15
        refine kk_cv hG 0 rfl rfl (Nat.le_of_ble_eq_true rfl) (by decide) rfl (st' := []) rfl (cats_le (Nat.le_of_ble_eq_true rfl)) (fun _ hw h k => kk_rcv h.1 (kc_By_wordNumber base sa hw h.2 k)) (fun sr16 cr16 dr16 => ?_)
        refine kk_aln hG (x := (some p0)) rfl rfl ?_
        refine kk_gp hG (c := 11) (k := 2) (a := p0) rfl rfl rfl rfl (fun v17 => ?_)
        refine kk_lws hG (a := sa 7) rfl rfl ?_
        refine kk_ob (fun b18 eb18 => ?_)
        subst eb18
        refine kk_cv hG 0 rfl rfl (Nat.le_of_ble_eq_true rfl) (by decide) rfl (st' := []) rfl (cats_le (Nat.le_of_ble_eq_true rfl)) (fun _ hw h k => kk_rcv h.1 (kc_By_word base sa hw h.2 k)) (fun sr19 cr19 dr19 => ?_)
        refine kk_aln hG (x := (some p0)) rfl rfl ?_
        refine kk_gp hG (c := 11) (k := 2) (a := p0) rfl rfl rfl rfl (fun v20 => ?_)
        refine kk_aln hG (x := (some b1)) rfl rfl ?_
        refine kk_gi hG (c := 4) (k := 4) (a := b1) rfl rfl rfl rfl (fun v21 => ?_)
        refine kk_cx (w := va_rf) hG 2 rfl rfl (Nat.le_of_ble_eq_true rfl) (by decide) rfl (st' := [va_rf v20]) rfl (cats_le (Nat.le_of_ble_eq_true rfl)) (fun _ hw h k => kc_Rf_splitWord base sa hw h k) (fun r22 sr22 cr22 dr22 => ?_)
        refine kk_ob (fun b23 eb23 => ?_)
        subst eb23
        refine kk_cv hG 0 rfl rfl (Nat.le_of_ble_eq_true rfl) (by decide) rfl (st' := []) rfl (cats_le (Nat.le_of_ble_eq_true rfl)) (fun _ hw h k => kk_rcv h.1 (kc_By_word base sa hw h.2 k)) (fun sr24 cr24 dr24 => ?_)
        refine kk_aln hG (x := (some b1)) rfl rfl ?_
        refine kk_gp hG (c := 4) (k := 6) (a := b1) rfl rfl rfl rfl (fun v25 => ?_)
        refine kk_ob (fun b26 eb26 => ?_)
        subst eb26
        refine kk_gi hG (c := 1) (k := 0) (a := b26) rfl rfl rfl rfl (fun v27 => ?_)
        refine kk_zeq hG (t := 149) rfl rfl ?_ ?_
        · exact kk_wl hG [1, 2, 3, 5] rfl (b149 _ _ _ _)
        refine kk_aln hG (x := (some p0)) rfl rfl ?_
        refine kk_gp hG (c := 11) (k := 2) (a := p0) rfl rfl rfl rfl (fun v28 => ?_)
        refine kk_lws hG (a := sa 8) rfl rfl ?_
        refine kk_ob (fun b29 eb29 => ?_)
        subst eb29
        refine kk_cv hG 0 rfl rfl (Nat.le_of_ble_eq_true rfl) (by decide) rfl (st' := []) rfl (cats_le (Nat.le_of_ble_eq_true rfl)) (fun _ hw h k => kk_rcv h.1 (kc_By_word base sa hw h.2 k)) (fun sr30 cr30 dr30 => ?_)
        refine kk_aln hG (x := (some p0)) rfl rfl ?_
        refine kk_gp hG (c := 11) (k := 2) (a := p0) rfl rfl rfl rfl (fun v31 => ?_)
        refine kk_lws hG (a := sa 3) rfl rfl ?_
        refine kk_ob (fun b32 eb32 => ?_)
        subst eb32
        refine kk_cv hG 0 rfl rfl (Nat.le_of_ble_eq_true rfl) (by decide) rfl (st' := []) rfl (cats_le (Nat.le_of_ble_eq_true rfl)) (fun _ hw h k => kk_rcv h.1 (kc_By_word base sa hw h.2 k)) (fun sr33 cr33 dr33 => ?_)
        refine kk_aln hG (x := (some p0)) rfl rfl ?_
        refine kk_gp hG (c := 11) (k := 2) (a := p0) rfl rfl rfl rfl (fun v34 => ?_)
        refine kk_aln hG (x := (some b1)) rfl rfl ?_
        refine kk_gp hG (c := 4) (k := 6) (a := b1) rfl rfl rfl rfl (fun v35 => ?_)
        refine kk_ob (fun b36 eb36 => ?_)
        subst eb36
        refine kk_gp hG (c := 1) (k := 1) (a := b36) rfl rfl rfl rfl (fun v37 => ?_)
        refine kk_ob (fun b38 eb38 => ?_)
        subst eb38
        refine kk_cv hG 0 rfl rfl (Nat.le_of_ble_eq_true rfl) (by decide) rfl (st' := []) rfl (cats_le (Nat.le_of_ble_eq_true rfl)) (fun _ hw h k => kk_rcv h.1 (kc_By_addSecret base sa hw h.2 k)) (fun sr39 cr39 dr39 => ?_)
        exact kk_wl hG [1, 2, 3, 5] rfl (b149 _ _ _ _)
      refine kk_go hG (t := 175) rfl rfl ?_
      exact kk_wl hG [1, 2, 3, 4, 5] rfl (b175 _ _ _ _ _)
    exact fun a3 a4 s kc ks hw h => h (fun a3 a4 s kc ks => cW sa R base s → G 5 [(0, va_rf (some p0)), (1, va_rf p1), (2, va_rf p2), (3, .int a3), (4, .int a4)] [] (cM R s) kc ks) (fun a3 a4 s kc ks hs hw => H _ (fun _ _ _ _ _ hp hw => hp hw) a3 a4 s kc ks hw hs) hw
  refine (show KK sa R base G 0 [(0, va_rf (some p0)), (1, va_rf p1), (2, va_rf p2)] [] s kc ks (C_Rf_writeJoins sa p0 p1 p2 s kc ks Q) from ?_) hw h
  refine kk_ic hG rfl cc_i1 ?_
  refine kk_st hG (L' := [(3, .int (1 : Int32)), (0, va_rf (some p0)), (1, va_rf p1), (2, va_rf p2)]) rfl rfl (Nat.le_of_ble_eq_true rfl) (by cases p2 <;> rfl) ?_
  refine kk_ic hG rfl cc_i4 ?_
  refine kk_st hG (L' := [(4, .int (4 : Int32)), (3, .int (1 : Int32)), (0, va_rf (some p0)), (1, va_rf p1), (2, va_rf p2)]) rfl rfl (Nat.le_of_ble_eq_true rfl) rfl ?_
  exact kk_wl hG [2, 3, 4, 1, 0] rfl (b5 _ _ _ _ _)
def C_Rf_writeKeys_b65 (sa : Nat → Nat) (p0 : Nat) (p1 : Option Nat) (p2 : Option Nat) (a3 : Option Nat) (a4 : Int32) (u0 : Option Nat) (u1 : Option Nat) (s : cS) (kc ks : Nat) (Q : (cS → Nat → Nat → Prop)) (P8 : (Int32 → cS → Nat → Nat → Prop)) : Prop := ob u0 (fun b1 => (okO s 0 b1 ∧ C_By_word sa b1 u1 s kc ks (fun sr2 cr2 dr2 => (ob (gP sr2 11 2 p0) (fun v3 => (ob v3 (fun b4 => (okO sr2 0 b4 ∧ C_By_word sa b4 (some (sa 3)) sr2 cr2 dr2 (fun sr5 cr5 dr5 => (ob (gP sr5 11 2 p0) (fun v6 => (ob a3 (fun b7 => (ob (gP sr5 1 7 b7) (fun v8 => (ob v8 (fun b9 => (ob (rQ sr5 b9 a4) (fun v10 => (ob v6 (fun b11 => (okO sr5 0 b11 ∧ C_By_addSecret sa b11 v10 sr5 cr5 dr5 (fun sr12 cr12 dr12 => (ob (gP sr12 11 2 p0) (fun v13 => (ob (gP sr12 1 5 b7) (fun v14 => (ob v14 (fun b15 => (ob (rE sr12 .int b15 a4) (fun v16 => (ob v13 (fun b17 => (okO sr12 0 b17 ∧ C_By_wordNumber sa b17 v16 sr12 cr12 dr12 (fun sr18 cr18 dr18 => (ob (gP sr18 11 2 p0) (fun v19 => (ob (gP sr18 1 6 b7) (fun v20 => (ob v20 (fun b21 => (ob (rE sr18 .int b21 a4) (fun v22 => (ob v19 (fun b23 => (okO sr18 0 b23 ∧ C_By_wordNumber sa b23 v22 sr18 cr18 dr18 (fun sr24 cr24 dr24 => (ob (gP sr24 11 2 p0) (fun v25 => (ob v25 (fun b26 => (okO sr24 0 b26 ∧ C_By_endLine sa b26 sr24 cr24 dr24 (fun sr27 cr27 dr27 => ((P8 (a4 + (1 : Int32)) sr27 cr27 dr27)))))))))))))))))))))))))))))))))))))))))))))))))))))))
def C_Rf_writeKeys_s8 (sa : Nat → Nat) (p0 : Nat) (p1 : Option Nat) (p2 : Option Nat) (a3 : Option Nat) (a4 : Int32) (s : cS) (kc ks : Nat) (Q : (cS → Nat → Nat → Prop)) (P8 : (Int32 → cS → Nat → Nat → Prop)) : Prop := ob a3 (fun b1 => (ob (gI s 1 2 b1) (fun v2 => (if a4 < v2 then (okO s 11 p0 ∧ C_Rf_beginPortLine sa p0 (some (sa 15)) p1 p2 s kc ks (fun sr3 cr3 dr3 => (ob (gP sr3 11 2 p0) (fun v4 => (ob (gP sr3 1 3 b1) (fun v5 => (ob v5 (fun b6 => (ob (rE sr3 .int b6 a4) (fun v7 => (ob v4 (fun b8 => (okO sr3 0 b8 ∧ C_By_wordNumber sa b8 v7 sr3 cr3 dr3 (fun sr9 cr9 dr9 => (ob (gP sr9 11 2 p0) (fun v10 => (ob (gP sr9 1 4 b1) (fun v11 => (ob v11 (fun b12 => (ob (rE sr9 .int b12 a4) (fun v13 => (if v13 = (16 : Int32) then ((C_Rf_writeKeys_b65 sa p0 p1 p2 (some b1) a4 v10 (some (sa 9)) sr9 cr9 dr9 Q P8)) else ((C_Rf_writeKeys_b65 sa p0 p1 p2 (some b1) a4 v10 (some (sa 10)) sr9 cr9 dr9 Q P8))))))))))))))))))))))))) else ((Q s kc ks))))))
def C_Rf_writeKeys_b8 (sa : Nat → Nat) (p0 : Nat) (p1 : Option Nat) (p2 : Option Nat) (a3 : Option Nat) (a4 : Int32) (s : cS) (kc ks : Nat) (Q : (cS → Nat → Nat → Prop)) : Prop := ∀ P8 : (Int32 → cS → Nat → Nat → Prop), (∀ (a4 : Int32) (s : cS) (kc ks : Nat), C_Rf_writeKeys_s8 sa p0 p1 p2 a3 a4 s kc ks Q P8 → P8 a4 s kc ks) → P8 a4 s kc ks
def C_Rf_writeKeys (sa : Nat → Nat) (p0 : Nat) (p1 : Option Nat) (p2 : Option Nat) (s : cS) (kc ks : Nat) (Q : (cS → Nat → Nat → Prop)) : Prop := ob p2 (fun b1 => (ob (gP s 4 6 b1) (fun v2 => ((C_Rf_writeKeys_b8 sa p0 p1 (some b1) v2 (0 : Int32) s kc ks Q)))))
set_option maxRecDepth 100000 in
set_option maxHeartbeats 4000000 in
theorem kc_Rf_writeKeys (base : Nat) (sa : Nat → Nat) {R : pmM} {s : cS} {kc ks : Nat} {Rt : pmR} {p0 : Nat} {p1 : Option Nat} {p2 : Option Nat} {Q : (cS → Nat → Nat → Prop)} (hw : cW sa R base s) (h : C_Rf_writeKeys sa p0 p1 p2 s kc ks Q) (k : ∀ s' kc' ks', cW sa R base s' → Q s' kc' ks' → Rt none (cM R s') kc' ks') : kP_Rf_writeKeys base sa [.ref p0, va_rf p1, va_rf p2] (cM R s) kc ks Rt := by
  refine ⟨by cases p1 <;> cases p2 <;> exact Nat.le_of_ble_eq_true rfl, fun G hG => ?_⟩
  have eL : lv_args 0 [.ref p0, va_rf p1, va_rf p2] = [(0, va_rf (some p0)), (1, va_rf p1), (2, va_rf p2)] := by cases p1 <;> cases p2 <;> rfl
  rw [eL]
  have b8 : ∀ (a3 : Option Nat) (a4 : Int32) (s : cS) (kc ks : Nat), KK sa R base G 8 [(0, va_rf (some p0)), (1, va_rf p1), (2, va_rf p2), (3, va_rf a3), (4, .int a4)] [] s kc ks (C_Rf_writeKeys_b8 sa p0 p1 p2 a3 a4 s kc ks Q) := by
    intro a3
    have H : ∀ (P8 : (Int32 → cS → Nat → Nat → Prop)) (hP8 : ∀ (a4 : Int32) (s : cS) (kc ks : Nat), P8 a4 s kc ks → cW sa R base s → G 8 [(0, va_rf (some p0)), (1, va_rf p1), (2, va_rf p2), (3, va_rf a3), (4, .int a4)] [] (cM R s) kc ks) (a4 : Int32) (s : cS) (kc ks : Nat), KK sa R base G 8 [(0, va_rf (some p0)), (1, va_rf p1), (2, va_rf p2), (3, va_rf a3), (4, .int a4)] [] s kc ks (C_Rf_writeKeys_s8 sa p0 p1 p2 a3 a4 s kc ks Q P8) := by
      intro P8 hP8
      have b65 : ∀ (a4 : Int32) (u0 : Option Nat) (u1 : Option Nat) (s : cS) (kc ks : Nat), KK sa R base G 65 [(0, va_rf (some p0)), (1, va_rf p1), (2, va_rf p2), (3, va_rf a3), (4, .int a4)] [va_rf u1, va_rf u0] s kc ks (C_Rf_writeKeys_b65 sa p0 p1 p2 a3 a4 u0 u1 s kc ks Q P8) := by
        intro a4 u0 u1 s kc ks
        refine kk_ob (fun b1 eb1 => ?_)
        subst eb1
        refine kk_cv hG 0 rfl rfl (Nat.le_of_ble_eq_true rfl) (by decide) rfl (st' := []) rfl (cats_le (Nat.le_of_ble_eq_true rfl)) (fun _ hw h k => kk_rcv h.1 (kc_By_word base sa hw h.2 k)) (fun sr2 cr2 dr2 => ?_)
        refine kk_aln hG (x := (some p0)) rfl rfl ?_
        refine kk_gp hG (c := 11) (k := 2) (a := p0) rfl rfl rfl rfl (fun v3 => ?_)
        refine kk_lws hG (a := sa 3) rfl rfl ?_
        refine kk_ob (fun b4 eb4 => ?_)
        subst eb4
        refine kk_cv hG 0 rfl rfl (Nat.le_of_ble_eq_true rfl) (by decide) rfl (st' := []) rfl (cats_le (Nat.le_of_ble_eq_true rfl)) (fun _ hw h k => kk_rcv h.1 (kc_By_word base sa hw h.2 k)) (fun sr5 cr5 dr5 => ?_)
        refine kk_aln hG (x := (some p0)) rfl rfl ?_
        refine kk_gp hG (c := 11) (k := 2) (a := p0) rfl rfl rfl rfl (fun v6 => ?_)
        refine kk_aln hG (x := a3) rfl rfl ?_
        refine kk_ob (fun b7 eb7 => ?_)
        subst eb7
        refine kk_gp hG (c := 1) (k := 7) (a := b7) rfl rfl rfl rfl (fun v8 => ?_)
        refine kks hG rfl rfl ?_
        refine kk_ob (fun b9 eb9 => ?_)
        subst eb9
        refine kk_aa hG (a := b9) rfl (fun v10 => ?_)
        refine kk_ob (fun b11 eb11 => ?_)
        subst eb11
        refine kk_cv hG 0 rfl rfl (Nat.le_of_ble_eq_true rfl) (by decide) rfl (st' := []) rfl (cats_le (Nat.le_of_ble_eq_true rfl)) (fun _ hw h k => kk_rcv h.1 (kc_By_addSecret base sa hw h.2 k)) (fun sr12 cr12 dr12 => ?_)
        refine kk_aln hG (x := (some p0)) rfl rfl ?_
        refine kk_gp hG (c := 11) (k := 2) (a := p0) rfl rfl rfl rfl (fun v13 => ?_)
        refine kk_aln hG (x := (some b7)) rfl rfl ?_
        refine kk_gp hG (c := 1) (k := 5) (a := b7) rfl rfl rfl rfl (fun v14 => ?_)
        refine kks hG rfl rfl ?_
        refine kk_ob (fun b15 eb15 => ?_)
        subst eb15
        refine kk_ia hG (a := b15) rfl (fun v16 => ?_)
        refine kk_ob (fun b17 eb17 => ?_)
        subst eb17
        refine kk_cv hG 0 rfl rfl (Nat.le_of_ble_eq_true rfl) (by decide) rfl (st' := []) rfl (cats_le (Nat.le_of_ble_eq_true rfl)) (fun _ hw h k => kk_rcv h.1 (kc_By_wordNumber base sa hw h.2 k)) (fun sr18 cr18 dr18 => ?_)
        refine kk_aln hG (x := (some p0)) rfl rfl ?_
        refine kk_gp hG (c := 11) (k := 2) (a := p0) rfl rfl rfl rfl (fun v19 => ?_)
        refine kk_aln hG (x := (some b7)) rfl rfl ?_
        refine kk_gp hG (c := 1) (k := 6) (a := b7) rfl rfl rfl rfl (fun v20 => ?_)
        refine kks hG rfl rfl ?_
        refine kk_ob (fun b21 eb21 => ?_)
        subst eb21
        refine kk_ia hG (a := b21) rfl (fun v22 => ?_)
        refine kk_ob (fun b23 eb23 => ?_)
        subst eb23
        refine kk_cv hG 0 rfl rfl (Nat.le_of_ble_eq_true rfl) (by decide) rfl (st' := []) rfl (cats_le (Nat.le_of_ble_eq_true rfl)) (fun _ hw h k => kk_rcv h.1 (kc_By_wordNumber base sa hw h.2 k)) (fun sr24 cr24 dr24 => ?_)
        refine kk_aln hG (x := (some p0)) rfl rfl ?_
        refine kk_gp hG (c := 11) (k := 2) (a := p0) rfl rfl rfl rfl (fun v25 => ?_)
        refine kk_ob (fun b26 eb26 => ?_)
        subst eb26
        refine kk_cv hG 0 rfl rfl (Nat.le_of_ble_eq_true rfl) (by decide) rfl (st' := []) rfl (cats_le (Nat.le_of_ble_eq_true rfl)) (fun _ hw h k => kk_rcv h.1 (kc_By_endLine base sa hw h.2 k)) (fun sr27 cr27 dr27 => ?_)
        refine kk_inc hG (L' := [(4, .int (a4 + (1 : Int32))), (0, va_rf (some p0)), (1, va_rf p1), (2, va_rf p2), (3, va_rf (some b7))]) rfl (Nat.le_of_ble_eq_true rfl) rfl cc_i1 rfl ?_
        refine kk_go hG (t := 8) rfl rfl ?_
        exact kk_wl hG [1, 2, 3, 4, 0] rfl (fun hw h => hP8 _ _ _ _ h hw)
      intro a4 s kc ks
      refine kks hG rfl rfl ?_
      refine kk_aln hG (x := a3) rfl rfl ?_
      refine kk_ob (fun b1 eb1 => ?_)
      subst eb1
      refine kk_gi hG (c := 1) (k := 2) (a := b1) rfl rfl rfl rfl (fun v2 => ?_)
      refine kk_ige hG (t := 133) rfl rfl ?_ ?_
      · exact kk_rv hG rfl rfl k
      refine kk_aln hG (x := (some p0)) rfl rfl ?_
      refine kk_lws hG (a := sa 15) rfl rfl ?_
      refine kk_aln hG (x := p1) rfl rfl ?_
      refine kk_aln hG (x := p2) rfl rfl ?_
      refine kk_cv hG 0 rfl rfl (Nat.le_of_ble_eq_true rfl) (by decide) rfl (st' := []) rfl (cats_le (Nat.le_of_ble_eq_true rfl)) (fun _ hw h k => kk_rcv h.1 (kc_Rf_beginPortLine base sa hw h.2 k)) (fun sr3 cr3 dr3 => ?_)
      refine kk_aln hG (x := (some p0)) rfl rfl ?_
      refine kk_gp hG (c := 11) (k := 2) (a := p0) rfl rfl rfl rfl (fun v4 => ?_)
      refine kk_aln hG (x := (some b1)) rfl rfl ?_
      refine kk_gp hG (c := 1) (k := 3) (a := b1) rfl rfl rfl rfl (fun v5 => ?_)
      refine kks hG rfl rfl ?_
      refine kk_ob (fun b6 eb6 => ?_)
      subst eb6
      refine kk_ia hG (a := b6) rfl (fun v7 => ?_)
      refine kk_ob (fun b8 eb8 => ?_)
      subst eb8
      refine kk_cv hG 0 rfl rfl (Nat.le_of_ble_eq_true rfl) (by decide) rfl (st' := []) rfl (cats_le (Nat.le_of_ble_eq_true rfl)) (fun _ hw h k => kk_rcv h.1 (kc_By_wordNumber base sa hw h.2 k)) (fun sr9 cr9 dr9 => ?_)
      refine kk_aln hG (x := (some p0)) rfl rfl ?_
      refine kk_gp hG (c := 11) (k := 2) (a := p0) rfl rfl rfl rfl (fun v10 => ?_)
      refine kk_aln hG (x := (some b1)) rfl rfl ?_
      refine kk_gp hG (c := 1) (k := 4) (a := b1) rfl rfl rfl rfl (fun v11 => ?_)
      refine kks hG rfl rfl ?_
      refine kk_ob (fun b12 eb12 => ?_)
      subst eb12
      refine kk_ia hG (a := b12) rfl (fun v13 => ?_)
      refine kk_bi hG rfl cc_b16 ?_
      refine kk_ine hG (t := 62) rfl rfl ?_ ?_
      · refine kk_lws hG (a := sa 10) rfl rfl ?_
        exact kk_wl hG [0, 1, 2, 3, 4] rfl (b65 _ _ _ _ _ _)
      refine kk_lws hG (a := sa 9) rfl rfl ?_
      refine kk_go hG (t := 65) rfl rfl ?_
      exact kk_wl hG [0, 1, 2, 3, 4] rfl (b65 _ _ _ _ _ _)
    exact fun a4 s kc ks hw h => h (fun a4 s kc ks => cW sa R base s → G 8 [(0, va_rf (some p0)), (1, va_rf p1), (2, va_rf p2), (3, va_rf a3), (4, .int a4)] [] (cM R s) kc ks) (fun a4 s kc ks hs hw => H _ (fun _ _ _ _ hp hw => hp hw) a4 s kc ks hw hs) hw
  refine (show KK sa R base G 0 [(0, va_rf (some p0)), (1, va_rf p1), (2, va_rf p2)] [] s kc ks (C_Rf_writeKeys sa p0 p1 p2 s kc ks Q) from ?_) hw h
  refine kk_aln hG (x := p2) rfl rfl ?_
  refine kk_ob (fun b1 eb1 => ?_)
  subst eb1
  refine kk_gp hG (c := 4) (k := 6) (a := b1) rfl rfl rfl rfl (fun v2 => ?_)
  refine kk_asn hG (x := v2) (L' := [(3, va_rf v2), (0, va_rf (some p0)), (1, va_rf p1), (2, va_rf (some b1))]) rfl (Nat.le_of_ble_eq_true rfl) rfl ?_
  refine kk_ic hG rfl cc_i0 ?_
  refine kk_st hG (L' := [(4, .int (0 : Int32)), (3, va_rf v2), (0, va_rf (some p0)), (1, va_rf p1), (2, va_rf (some b1))]) rfl rfl (Nat.le_of_ble_eq_true rfl) (by cases v2 <;> rfl) ?_
  exact kk_wl hG [2, 3, 4, 1, 0] rfl (b8 _ _ _ _ _)
def C_Rf_writeStatics_s2 (sa : Nat → Nat) (p0 : Nat) (p1 : Option Nat) (a2 : Int32) (s : cS) (kc ks : Nat) (Q : (cS → Nat → Nat → Prop)) (P2 : (Int32 → cS → Nat → Nat → Prop)) : Prop := ob p1 (fun b1 => (ob (gP s 9 7 b1) (fun v2 => (ob v2 (fun b3 => (ob (gI s 10 1 b3) (fun v4 => (if a2 < v4 then (ob (gP s 9 7 b1) (fun v5 => (ob v5 (fun b6 => (ob (gP s 10 0 b6) (fun v7 => (ob v7 (fun b8 => (ob (rQ s b8 a2) (fun v9 => (ob (gP s 11 2 p0) (fun v10 => (ob v10 (fun b11 => (okO s 0 b11 ∧ C_By_word sa b11 (some (sa 17)) s kc ks (fun sr12 cr12 dr12 => (ob (gP sr12 11 2 p0) (fun v13 => (ob (gP sr12 9 1 b1) (fun v14 => (ob v13 (fun b15 => (okO sr12 0 b15 ∧ C_By_word sa b15 v14 sr12 cr12 dr12 (fun sr16 cr16 dr16 => (ob (gP sr16 11 2 p0) (fun v17 => (ob v17 (fun b18 => (okO sr16 0 b18 ∧ C_By_word sa b18 (some (sa 3)) sr16 cr16 dr16 (fun sr19 cr19 dr19 => (ob (gP sr19 11 2 p0) (fun v20 => (ob v9 (fun b21 => (ob (gP sr19 8 0 b21) (fun v22 => (ob v20 (fun b23 => (okO sr19 0 b23 ∧ C_By_addPrefix sa b23 v22 sr19 cr19 dr19 (fun sr24 cr24 dr24 => (ob (gP sr24 11 2 p0) (fun v25 => (ob (gI sr24 8 4 b21) (fun v26 => (ob v25 (fun b27 => (okO sr24 0 b27 ∧ C_By_wordNumber sa b27 v26 sr24 cr24 dr24 (fun sr28 cr28 dr28 => (ob (gP sr28 11 2 p0) (fun v29 => (ob v29 (fun b30 => (okO sr28 0 b30 ∧ C_By_word sa b30 (some (sa 18)) sr28 cr28 dr28 (fun sr31 cr31 dr31 => (ob (gP sr31 11 2 p0) (fun v32 => (ob (gI sr31 8 5 b21) (fun v33 => (ob v32 (fun b34 => (okO sr31 0 b34 ∧ C_By_wordNumber sa b34 v33 sr31 cr31 dr31 (fun sr35 cr35 dr35 => (ob (gP sr35 11 2 p0) (fun v36 => (ob v36 (fun b37 => (okO sr35 0 b37 ∧ C_By_endLine sa b37 sr35 cr35 dr35 (fun sr38 cr38 dr38 => ((P2 (a2 + (1 : Int32)) sr38 cr38 dr38)))))))))))))))))))))))))))))))))))))))))))))))))))))))))))))))))))))) else ((Q s kc ks))))))))))
def C_Rf_writeStatics_b2 (sa : Nat → Nat) (p0 : Nat) (p1 : Option Nat) (a2 : Int32) (s : cS) (kc ks : Nat) (Q : (cS → Nat → Nat → Prop)) : Prop := ∀ P2 : (Int32 → cS → Nat → Nat → Prop), (∀ (a2 : Int32) (s : cS) (kc ks : Nat), C_Rf_writeStatics_s2 sa p0 p1 a2 s kc ks Q P2 → P2 a2 s kc ks) → P2 a2 s kc ks
def C_Rf_writeStatics (sa : Nat → Nat) (p0 : Nat) (p1 : Option Nat) (s : cS) (kc ks : Nat) (Q : (cS → Nat → Nat → Prop)) : Prop := (C_Rf_writeStatics_b2 sa p0 p1 (0 : Int32) s kc ks Q)
set_option maxRecDepth 100000 in
set_option maxHeartbeats 4000000 in
theorem kc_Rf_writeStatics (base : Nat) (sa : Nat → Nat) {R : pmM} {s : cS} {kc ks : Nat} {Rt : pmR} {p0 : Nat} {p1 : Option Nat} {Q : (cS → Nat → Nat → Prop)} (hw : cW sa R base s) (h : C_Rf_writeStatics sa p0 p1 s kc ks Q) (k : ∀ s' kc' ks', cW sa R base s' → Q s' kc' ks' → Rt none (cM R s') kc' ks') : kP_Rf_writeStatics base sa [.ref p0, va_rf p1] (cM R s) kc ks Rt := by
  refine ⟨by cases p1 <;> exact Nat.le_of_ble_eq_true rfl, fun G hG => ?_⟩
  have eL : lv_args 0 [.ref p0, va_rf p1] = [(0, va_rf (some p0)), (1, va_rf p1)] := by cases p1 <;> rfl
  rw [eL]
  have b2 : ∀ (a2 : Int32) (s : cS) (kc ks : Nat), KK sa R base G 2 [(0, va_rf (some p0)), (1, va_rf p1), (2, .int a2)] [] s kc ks (C_Rf_writeStatics_b2 sa p0 p1 a2 s kc ks Q) := by
    have H : ∀ (P2 : (Int32 → cS → Nat → Nat → Prop)) (hP2 : ∀ (a2 : Int32) (s : cS) (kc ks : Nat), P2 a2 s kc ks → cW sa R base s → G 2 [(0, va_rf (some p0)), (1, va_rf p1), (2, .int a2)] [] (cM R s) kc ks) (a2 : Int32) (s : cS) (kc ks : Nat), KK sa R base G 2 [(0, va_rf (some p0)), (1, va_rf p1), (2, .int a2)] [] s kc ks (C_Rf_writeStatics_s2 sa p0 p1 a2 s kc ks Q P2) := by
      intro P2 hP2
      intro a2 s kc ks
      refine kks hG rfl rfl ?_
      refine kk_aln hG (x := p1) rfl rfl ?_
      refine kk_ob (fun b1 eb1 => ?_)
      subst eb1
      refine kk_gp hG (c := 9) (k := 7) (a := b1) rfl rfl rfl rfl (fun v2 => ?_)
      refine kk_ob (fun b3 eb3 => ?_)
      subst eb3
      refine kk_gi hG (c := 10) (k := 1) (a := b3) rfl rfl rfl rfl (fun v4 => ?_)
      refine kk_ige hG (t := 110) rfl rfl ?_ ?_
      · exact kk_rv hG rfl rfl k
      refine kk_aln hG (x := (some b1)) rfl rfl ?_
      refine kk_gp hG (c := 9) (k := 7) (a := b1) rfl rfl rfl rfl (fun v5 => ?_)
      refine kk_ob (fun b6 eb6 => ?_)
      subst eb6
      refine kk_gp hG (c := 10) (k := 0) (a := b6) rfl rfl rfl rfl (fun v7 => ?_)
      refine kks hG rfl rfl ?_
      refine kk_ob (fun b8 eb8 => ?_)
      subst eb8
      refine kk_aa hG (a := b8) rfl (fun v9 => ?_)
      refine kk_asn hG (x := v9) (L' := [(3, va_rf v9), (0, va_rf (some p0)), (1, va_rf (some b1)), (2, .int a2)]) rfl (Nat.le_of_ble_eq_true rfl) rfl ?_
      refine kk_aln hG (x := (some p0)) rfl rfl ?_
      refine kk_gp hG (c := 11) (k := 2) (a := p0) rfl rfl rfl rfl (fun v10 => ?_)
      refine kk_lws hG (a := sa 17) rfl rfl ?_
      refine kk_ob (fun b11 eb11 => ?_)
      subst eb11
      refine kk_cv hG 0 rfl rfl (Nat.le_of_ble_eq_true rfl) (by decide) rfl (st' := []) rfl (cats_le (Nat.le_of_ble_eq_true rfl)) (fun _ hw h k => kk_rcv h.1 (kc_By_word base sa hw h.2 k)) (fun sr12 cr12 dr12 => ?_)
      refine kk_aln hG (x := (some p0)) rfl rfl ?_
      refine kk_gp hG (c := 11) (k := 2) (a := p0) rfl rfl rfl rfl (fun v13 => ?_)
      refine kk_aln hG (x := (some b1)) rfl rfl ?_
      refine kk_gp hG (c := 9) (k := 1) (a := b1) rfl rfl rfl rfl (fun v14 => ?_)
      refine kk_ob (fun b15 eb15 => ?_)
      subst eb15
      refine kk_cv hG 0 rfl rfl (Nat.le_of_ble_eq_true rfl) (by decide) rfl (st' := []) rfl (cats_le (Nat.le_of_ble_eq_true rfl)) (fun _ hw h k => kk_rcv h.1 (kc_By_word base sa hw h.2 k)) (fun sr16 cr16 dr16 => ?_)
      refine kk_aln hG (x := (some p0)) rfl rfl ?_
      refine kk_gp hG (c := 11) (k := 2) (a := p0) rfl rfl rfl rfl (fun v17 => ?_)
      refine kk_lws hG (a := sa 3) rfl rfl ?_
      refine kk_ob (fun b18 eb18 => ?_)
      subst eb18
      refine kk_cv hG 0 rfl rfl (Nat.le_of_ble_eq_true rfl) (by decide) rfl (st' := []) rfl (cats_le (Nat.le_of_ble_eq_true rfl)) (fun _ hw h k => kk_rcv h.1 (kc_By_word base sa hw h.2 k)) (fun sr19 cr19 dr19 => ?_)
      refine kk_aln hG (x := (some p0)) rfl rfl ?_
      refine kk_gp hG (c := 11) (k := 2) (a := p0) rfl rfl rfl rfl (fun v20 => ?_)
      refine kk_aln hG (x := v9) rfl rfl ?_
      refine kk_ob (fun b21 eb21 => ?_)
      subst eb21
      refine kk_gp hG (c := 8) (k := 0) (a := b21) rfl rfl rfl rfl (fun v22 => ?_)
      refine kk_ob (fun b23 eb23 => ?_)
      subst eb23
      refine kk_cv hG 0 rfl rfl (Nat.le_of_ble_eq_true rfl) (by decide) rfl (st' := []) rfl (cats_le (Nat.le_of_ble_eq_true rfl)) (fun _ hw h k => kk_rcv h.1 (kc_By_addPrefix base sa hw h.2 k)) (fun sr24 cr24 dr24 => ?_)
      refine kk_aln hG (x := (some p0)) rfl rfl ?_
      refine kk_gp hG (c := 11) (k := 2) (a := p0) rfl rfl rfl rfl (fun v25 => ?_)
      refine kk_aln hG (x := (some b21)) rfl rfl ?_
      refine kk_gi hG (c := 8) (k := 4) (a := b21) rfl rfl rfl rfl (fun v26 => ?_)
      refine kk_ob (fun b27 eb27 => ?_)
      subst eb27
      refine kk_cv hG 0 rfl rfl (Nat.le_of_ble_eq_true rfl) (by decide) rfl (st' := []) rfl (cats_le (Nat.le_of_ble_eq_true rfl)) (fun _ hw h k => kk_rcv h.1 (kc_By_wordNumber base sa hw h.2 k)) (fun sr28 cr28 dr28 => ?_)
      refine kk_aln hG (x := (some p0)) rfl rfl ?_
      refine kk_gp hG (c := 11) (k := 2) (a := p0) rfl rfl rfl rfl (fun v29 => ?_)
      refine kk_lws hG (a := sa 18) rfl rfl ?_
      refine kk_ob (fun b30 eb30 => ?_)
      subst eb30
      refine kk_cv hG 0 rfl rfl (Nat.le_of_ble_eq_true rfl) (by decide) rfl (st' := []) rfl (cats_le (Nat.le_of_ble_eq_true rfl)) (fun _ hw h k => kk_rcv h.1 (kc_By_word base sa hw h.2 k)) (fun sr31 cr31 dr31 => ?_)
      refine kk_aln hG (x := (some p0)) rfl rfl ?_
      refine kk_gp hG (c := 11) (k := 2) (a := p0) rfl rfl rfl rfl (fun v32 => ?_)
      refine kk_aln hG (x := (some b21)) rfl rfl ?_
      refine kk_gi hG (c := 8) (k := 5) (a := b21) rfl rfl rfl rfl (fun v33 => ?_)
      refine kk_ob (fun b34 eb34 => ?_)
      subst eb34
      refine kk_cv hG 0 rfl rfl (Nat.le_of_ble_eq_true rfl) (by decide) rfl (st' := []) rfl (cats_le (Nat.le_of_ble_eq_true rfl)) (fun _ hw h k => kk_rcv h.1 (kc_By_wordNumber base sa hw h.2 k)) (fun sr35 cr35 dr35 => ?_)
      refine kk_aln hG (x := (some p0)) rfl rfl ?_
      refine kk_gp hG (c := 11) (k := 2) (a := p0) rfl rfl rfl rfl (fun v36 => ?_)
      refine kk_ob (fun b37 eb37 => ?_)
      subst eb37
      refine kk_cv hG 0 rfl rfl (Nat.le_of_ble_eq_true rfl) (by decide) rfl (st' := []) rfl (cats_le (Nat.le_of_ble_eq_true rfl)) (fun _ hw h k => kk_rcv h.1 (kc_By_endLine base sa hw h.2 k)) (fun sr38 cr38 dr38 => ?_)
      refine kk_inc hG (L' := [(2, .int (a2 + (1 : Int32))), (3, va_rf (some b21)), (0, va_rf (some p0)), (1, va_rf (some b1))]) rfl (Nat.le_of_ble_eq_true rfl) rfl cc_i1 rfl ?_
      refine kk_go hG (t := 2) rfl rfl ?_
      exact kk_wl hG [2, 3, 0] rfl (fun hw h => hP2 _ _ _ _ h hw)
    exact fun a2 s kc ks hw h => h (fun a2 s kc ks => cW sa R base s → G 2 [(0, va_rf (some p0)), (1, va_rf p1), (2, .int a2)] [] (cM R s) kc ks) (fun a2 s kc ks hs hw => H _ (fun _ _ _ _ hp hw => hp hw) a2 s kc ks hw hs) hw
  refine (show KK sa R base G 0 [(0, va_rf (some p0)), (1, va_rf p1)] [] s kc ks (C_Rf_writeStatics sa p0 p1 s kc ks Q) from ?_) hw h
  refine kk_ic hG rfl cc_i0 ?_
  refine kk_st hG (L' := [(2, .int (0 : Int32)), (0, va_rf (some p0)), (1, va_rf p1)]) rfl rfl (Nat.le_of_ble_eq_true rfl) (by cases p1 <;> rfl) ?_
  exact kk_wl hG [1, 2, 0] rfl (b2 _ _ _ _)
def C_Rf_sideWord (sa : Nat → Nat) (p0 : Int32) (s : cS) (kc ks : Nat) (Q : (Option Nat → cS → Nat → Nat → Prop)) : Prop := if p0 = 0 then (Q (some (sa 21)) s kc ks) else (Q (some (sa 22)) s kc ks)
set_option maxRecDepth 100000 in
set_option maxHeartbeats 4000000 in
theorem kc_Rf_sideWord (base : Nat) (sa : Nat → Nat) {R : pmM} {s : cS} {kc ks : Nat} {Rt : pmR} {p0 : Int32} {Q : (Option Nat → cS → Nat → Nat → Prop)} (hw : cW sa R base s) (h : C_Rf_sideWord sa p0 s kc ks Q) (k : ∀ r s' kc' ks', cW sa R base s' → Q r s' kc' ks' → Rt (some (va_rf r)) (cM R s') kc' ks') : kP_Rf_sideWord base sa [.int p0] (cM R s) kc ks Rt := by
  refine ⟨Nat.le_of_ble_eq_true rfl, fun G hG => ?_⟩
  refine (show KK sa R base G 0 [(0, .int p0)] [] s kc ks (C_Rf_sideWord sa p0 s kc ks Q) from ?_) hw h
  refine kks hG rfl rfl ?_
  refine kk_zne hG (t := 10) rfl rfl ?_ ?_
  · refine kk_lws hG (a := sa 22) rfl rfl ?_
    exact kk_ra hG (x := (some (sa 22))) rfl rfl rfl k
  refine kk_lws hG (a := sa 21) rfl rfl ?_
  refine kk_go hG (t := 13) rfl rfl ?_
  exact kk_ra hG (x := (some (sa 21))) rfl rfl rfl k
def C_Rf_writeFilters_b98 (sa : Nat → Nat) (p0 : Nat) (p1 : Option Nat) (p2 : Int32) (a3 : Option Nat) (a4 : Int32) (u0 : Option Nat) (u1 : Option Nat) (s : cS) (kc ks : Nat) (Q : (cS → Nat → Nat → Prop)) (P10 : (Int32 → cS → Nat → Nat → Prop)) : Prop := ob u0 (fun b1 => (okO s 0 b1 ∧ C_By_word sa b1 u1 s kc ks (fun sr2 cr2 dr2 => (ob (gP sr2 11 2 p0) (fun v3 => (ob v3 (fun b4 => (okO sr2 0 b4 ∧ C_By_endLine sa b4 sr2 cr2 dr2 (fun sr5 cr5 dr5 => ((P10 (a4 + (1 : Int32)) sr5 cr5 dr5)))))))))))
def C_Rf_writeFilters_s10 (sa : Nat → Nat) (p0 : Nat) (p1 : Option Nat) (p2 : Int32) (a3 : Option Nat) (a4 : Int32) (s : cS) (kc ks : Nat) (Q : (cS → Nat → Nat → Prop)) (P10 : (Int32 → cS → Nat → Nat → Prop)) : Prop := ob a3 (fun b1 => (ob (gI s 6 5 b1) (fun v2 => (if a4 < v2 then (ob (gP s 11 2 p0) (fun v3 => (ob v3 (fun b4 => (okO s 0 b4 ∧ C_By_word sa b4 (some (sa 20)) s kc ks (fun sr5 cr5 dr5 => (ob (gP sr5 11 2 p0) (fun v6 => (ob p1 (fun b7 => (ob (gP sr5 9 1 b7) (fun v8 => (ob v6 (fun b9 => (okO sr5 0 b9 ∧ C_By_word sa b9 v8 sr5 cr5 dr5 (fun sr10 cr10 dr10 => (ob (gP sr10 11 2 p0) (fun v11 => (C_Rf_sideWord sa p2 sr10 cr10 dr10 (fun r12 sr12 cr12 dr12 => (ob v11 (fun b13 => (okO sr12 0 b13 ∧ C_By_word sa b13 r12 sr12 cr12 dr12 (fun sr14 cr14 dr14 => (ob (gP sr14 11 2 p0) (fun v15 => (ob v15 (fun b16 => (okO sr14 0 b16 ∧ C_By_word sa b16 (some (sa 3)) sr14 cr14 dr14 (fun sr17 cr17 dr17 => (ob (gP sr17 11 2 p0) (fun v18 => (ob (gP sr17 6 1 b1) (fun v19 => (ob v19 (fun b20 => (ob (rQ sr17 b20 a4) (fun v21 => (ob v18 (fun b22 => (okO sr17 0 b22 ∧ C_By_addPrefix sa b22 v21 sr17 cr17 dr17 (fun sr23 cr23 dr23 => (ob (gP sr23 11 2 p0) (fun v24 => (ob (gP sr23 6 2 b1) (fun v25 => (ob v25 (fun b26 => (ob (rE sr23 .boolean b26 a4) (fun v27 => (if v27 = 0 then ((C_Rf_writeFilters_b98 sa p0 (some b7) p2 (some b1) a4 v24 (some (sa 24)) sr23 cr23 dr23 Q P10)) else ((C_Rf_writeFilters_b98 sa p0 (some b7) p2 (some b1) a4 v24 (some (sa 23)) sr23 cr23 dr23 Q P10))))))))))))))))))))))))))))))))))))))))))))))))))))) else ((Q s kc ks))))))
def C_Rf_writeFilters_b10 (sa : Nat → Nat) (p0 : Nat) (p1 : Option Nat) (p2 : Int32) (a3 : Option Nat) (a4 : Int32) (s : cS) (kc ks : Nat) (Q : (cS → Nat → Nat → Prop)) : Prop := ∀ P10 : (Int32 → cS → Nat → Nat → Prop), (∀ (a4 : Int32) (s : cS) (kc ks : Nat), C_Rf_writeFilters_s10 sa p0 p1 p2 a3 a4 s kc ks Q P10 → P10 a4 s kc ks) → P10 a4 s kc ks
def C_Rf_writeFilters (sa : Nat → Nat) (p0 : Nat) (p1 : Option Nat) (p2 : Int32) (s : cS) (kc ks : Nat) (Q : (cS → Nat → Nat → Prop)) : Prop := ob p1 (fun b1 => (ob (gP s 9 8 b1) (fun v2 => (ob v2 (fun b3 => (ob (rQ s b3 p2) (fun v4 => ((C_Rf_writeFilters_b10 sa p0 (some b1) p2 v4 (0 : Int32) s kc ks Q)))))))))
set_option maxRecDepth 100000 in
set_option maxHeartbeats 4000000 in
theorem kc_Rf_writeFilters (base : Nat) (sa : Nat → Nat) {R : pmM} {s : cS} {kc ks : Nat} {Rt : pmR} {p0 : Nat} {p1 : Option Nat} {p2 : Int32} {Q : (cS → Nat → Nat → Prop)} (hw : cW sa R base s) (h : C_Rf_writeFilters sa p0 p1 p2 s kc ks Q) (k : ∀ s' kc' ks', cW sa R base s' → Q s' kc' ks' → Rt none (cM R s') kc' ks') : kP_Rf_writeFilters base sa [.ref p0, va_rf p1, .int p2] (cM R s) kc ks Rt := by
  refine ⟨by cases p1 <;> exact Nat.le_of_ble_eq_true rfl, fun G hG => ?_⟩
  have eL : lv_args 0 [.ref p0, va_rf p1, .int p2] = [(0, va_rf (some p0)), (1, va_rf p1), (2, .int p2)] := by cases p1 <;> rfl
  rw [eL]
  have b10 : ∀ (a3 : Option Nat) (a4 : Int32) (s : cS) (kc ks : Nat), KK sa R base G 10 [(0, va_rf (some p0)), (1, va_rf p1), (2, .int p2), (3, va_rf a3), (4, .int a4)] [] s kc ks (C_Rf_writeFilters_b10 sa p0 p1 p2 a3 a4 s kc ks Q) := by
    intro a3
    have H : ∀ (P10 : (Int32 → cS → Nat → Nat → Prop)) (hP10 : ∀ (a4 : Int32) (s : cS) (kc ks : Nat), P10 a4 s kc ks → cW sa R base s → G 10 [(0, va_rf (some p0)), (1, va_rf p1), (2, .int p2), (3, va_rf a3), (4, .int a4)] [] (cM R s) kc ks) (a4 : Int32) (s : cS) (kc ks : Nat), KK sa R base G 10 [(0, va_rf (some p0)), (1, va_rf p1), (2, .int p2), (3, va_rf a3), (4, .int a4)] [] s kc ks (C_Rf_writeFilters_s10 sa p0 p1 p2 a3 a4 s kc ks Q P10) := by
      intro P10 hP10
      have b98 : ∀ (a4 : Int32) (u0 : Option Nat) (u1 : Option Nat) (s : cS) (kc ks : Nat), KK sa R base G 98 [(0, va_rf (some p0)), (1, va_rf p1), (2, .int p2), (3, va_rf a3), (4, .int a4)] [va_rf u1, va_rf u0] s kc ks (C_Rf_writeFilters_b98 sa p0 p1 p2 a3 a4 u0 u1 s kc ks Q P10) := by
        intro a4 u0 u1 s kc ks
        refine kk_ob (fun b1 eb1 => ?_)
        subst eb1
        refine kk_cv hG 0 rfl rfl (Nat.le_of_ble_eq_true rfl) (by decide) rfl (st' := []) rfl (cats_le (Nat.le_of_ble_eq_true rfl)) (fun _ hw h k => kk_rcv h.1 (kc_By_word base sa hw h.2 k)) (fun sr2 cr2 dr2 => ?_)
        refine kk_aln hG (x := (some p0)) rfl rfl ?_
        refine kk_gp hG (c := 11) (k := 2) (a := p0) rfl rfl rfl rfl (fun v3 => ?_)
        refine kk_ob (fun b4 eb4 => ?_)
        subst eb4
        refine kk_cv hG 0 rfl rfl (Nat.le_of_ble_eq_true rfl) (by decide) rfl (st' := []) rfl (cats_le (Nat.le_of_ble_eq_true rfl)) (fun _ hw h k => kk_rcv h.1 (kc_By_endLine base sa hw h.2 k)) (fun sr5 cr5 dr5 => ?_)
        refine kk_inc hG (L' := [(4, .int (a4 + (1 : Int32))), (0, va_rf (some p0)), (1, va_rf p1), (2, .int p2), (3, va_rf a3)]) rfl (Nat.le_of_ble_eq_true rfl) rfl cc_i1 (by cases a3 <;> rfl) ?_
        refine kk_go hG (t := 10) rfl rfl ?_
        exact kk_wl hG [1, 2, 3, 4, 0] rfl (fun hw h => hP10 _ _ _ _ h hw)
      intro a4 s kc ks
      refine kks hG rfl rfl ?_
      refine kk_aln hG (x := a3) rfl rfl ?_
      refine kk_ob (fun b1 eb1 => ?_)
      subst eb1
      refine kk_gi hG (c := 6) (k := 5) (a := b1) rfl rfl rfl rfl (fun v2 => ?_)
      refine kk_ige hG (t := 114) rfl rfl ?_ ?_
      · exact kk_rv hG rfl rfl k
      refine kk_aln hG (x := (some p0)) rfl rfl ?_
      refine kk_gp hG (c := 11) (k := 2) (a := p0) rfl rfl rfl rfl (fun v3 => ?_)
      refine kk_lws hG (a := sa 20) rfl rfl ?_
      refine kk_ob (fun b4 eb4 => ?_)
      subst eb4
      refine kk_cv hG 0 rfl rfl (Nat.le_of_ble_eq_true rfl) (by decide) rfl (st' := []) rfl (cats_le (Nat.le_of_ble_eq_true rfl)) (fun _ hw h k => kk_rcv h.1 (kc_By_word base sa hw h.2 k)) (fun sr5 cr5 dr5 => ?_)
      refine kk_aln hG (x := (some p0)) rfl rfl ?_
      refine kk_gp hG (c := 11) (k := 2) (a := p0) rfl rfl rfl rfl (fun v6 => ?_)
      refine kk_aln hG (x := p1) rfl rfl ?_
      refine kk_ob (fun b7 eb7 => ?_)
      subst eb7
      refine kk_gp hG (c := 9) (k := 1) (a := b7) rfl rfl rfl rfl (fun v8 => ?_)
      refine kk_ob (fun b9 eb9 => ?_)
      subst eb9
      refine kk_cv hG 0 rfl rfl (Nat.le_of_ble_eq_true rfl) (by decide) rfl (st' := []) rfl (cats_le (Nat.le_of_ble_eq_true rfl)) (fun _ hw h k => kk_rcv h.1 (kc_By_word base sa hw h.2 k)) (fun sr10 cr10 dr10 => ?_)
      refine kk_aln hG (x := (some p0)) rfl rfl ?_
      refine kk_gp hG (c := 11) (k := 2) (a := p0) rfl rfl rfl rfl (fun v11 => ?_)
      refine kks hG rfl rfl ?_
      refine kk_cx (w := va_rf) hG 2 rfl rfl (Nat.le_of_ble_eq_true rfl) (by decide) rfl (st' := [va_rf v11]) rfl (cats_le (Nat.le_of_ble_eq_true rfl)) (fun _ hw h k => kc_Rf_sideWord base sa hw h k) (fun r12 sr12 cr12 dr12 => ?_)
      refine kk_ob (fun b13 eb13 => ?_)
      subst eb13
      refine kk_cv hG 0 rfl rfl (Nat.le_of_ble_eq_true rfl) (by decide) rfl (st' := []) rfl (cats_le (Nat.le_of_ble_eq_true rfl)) (fun _ hw h k => kk_rcv h.1 (kc_By_word base sa hw h.2 k)) (fun sr14 cr14 dr14 => ?_)
      refine kk_aln hG (x := (some p0)) rfl rfl ?_
      refine kk_gp hG (c := 11) (k := 2) (a := p0) rfl rfl rfl rfl (fun v15 => ?_)
      refine kk_lws hG (a := sa 3) rfl rfl ?_
      refine kk_ob (fun b16 eb16 => ?_)
      subst eb16
      refine kk_cv hG 0 rfl rfl (Nat.le_of_ble_eq_true rfl) (by decide) rfl (st' := []) rfl (cats_le (Nat.le_of_ble_eq_true rfl)) (fun _ hw h k => kk_rcv h.1 (kc_By_word base sa hw h.2 k)) (fun sr17 cr17 dr17 => ?_)
      refine kk_aln hG (x := (some p0)) rfl rfl ?_
      refine kk_gp hG (c := 11) (k := 2) (a := p0) rfl rfl rfl rfl (fun v18 => ?_)
      refine kk_aln hG (x := (some b1)) rfl rfl ?_
      refine kk_gp hG (c := 6) (k := 1) (a := b1) rfl rfl rfl rfl (fun v19 => ?_)
      refine kks hG rfl rfl ?_
      refine kk_ob (fun b20 eb20 => ?_)
      subst eb20
      refine kk_aa hG (a := b20) rfl (fun v21 => ?_)
      refine kk_ob (fun b22 eb22 => ?_)
      subst eb22
      refine kk_cv hG 0 rfl rfl (Nat.le_of_ble_eq_true rfl) (by decide) rfl (st' := []) rfl (cats_le (Nat.le_of_ble_eq_true rfl)) (fun _ hw h k => kk_rcv h.1 (kc_By_addPrefix base sa hw h.2 k)) (fun sr23 cr23 dr23 => ?_)
      refine kk_aln hG (x := (some p0)) rfl rfl ?_
      refine kk_gp hG (c := 11) (k := 2) (a := p0) rfl rfl rfl rfl (fun v24 => ?_)
      refine kk_aln hG (x := (some b1)) rfl rfl ?_
      refine kk_gp hG (c := 6) (k := 2) (a := b1) rfl rfl rfl rfl (fun v25 => ?_)
      refine kks hG rfl rfl ?_
      refine kk_ob (fun b26 eb26 => ?_)
      subst eb26
      refine kk_za hG (a := b26) rfl (fun v27 => ?_)
      refine kk_zeq hG (t := 95) rfl rfl ?_ ?_
      · refine kk_lws hG (a := sa 24) rfl rfl ?_
        exact kk_wl hG [0, 1, 2, 3, 4] rfl (b98 _ _ _ _ _ _)
      refine kk_lws hG (a := sa 23) rfl rfl ?_
      refine kk_go hG (t := 98) rfl rfl ?_
      exact kk_wl hG [0, 1, 2, 3, 4] rfl (b98 _ _ _ _ _ _)
    exact fun a4 s kc ks hw h => h (fun a4 s kc ks => cW sa R base s → G 10 [(0, va_rf (some p0)), (1, va_rf p1), (2, .int p2), (3, va_rf a3), (4, .int a4)] [] (cM R s) kc ks) (fun a4 s kc ks hs hw => H _ (fun _ _ _ _ hp hw => hp hw) a4 s kc ks hw hs) hw
  refine (show KK sa R base G 0 [(0, va_rf (some p0)), (1, va_rf p1), (2, .int p2)] [] s kc ks (C_Rf_writeFilters sa p0 p1 p2 s kc ks Q) from ?_) hw h
  refine kk_aln hG (x := p1) rfl rfl ?_
  refine kk_ob (fun b1 eb1 => ?_)
  subst eb1
  refine kk_gp hG (c := 9) (k := 8) (a := b1) rfl rfl rfl rfl (fun v2 => ?_)
  refine kks hG rfl rfl ?_
  refine kk_ob (fun b3 eb3 => ?_)
  subst eb3
  refine kk_aa hG (a := b3) rfl (fun v4 => ?_)
  refine kk_asn hG (x := v4) (L' := [(3, va_rf v4), (0, va_rf (some p0)), (1, va_rf (some b1)), (2, .int p2)]) rfl (Nat.le_of_ble_eq_true rfl) rfl ?_
  refine kk_ic hG rfl cc_i0 ?_
  refine kk_st hG (L' := [(4, .int (0 : Int32)), (3, va_rf v4), (0, va_rf (some p0)), (1, va_rf (some b1)), (2, .int p2)]) rfl rfl (Nat.le_of_ble_eq_true rfl) (by cases v4 <;> rfl) ?_
  exact kk_wl hG [2, 3, 4, 1, 0] rfl (b10 _ _ _ _ _)
