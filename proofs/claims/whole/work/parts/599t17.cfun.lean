/-! Methods as weakest preconditions, by program: Rf_writeRouter .. Pr_openGap -/
def C_Rf_writeRouter_s184 (sa : Nat → Nat) (p0 : Nat) (p1 : Option Nat) (a2 : Int32) (s : cS) (kc ks : Nat) (Q : (cS → Nat → Nat → Prop)) (P184 : (Int32 → cS → Nat → Nat → Prop)) : Prop := ob p1 (fun b1 => (ob (gI s 9 5 b1) (fun v2 => (if a2 < v2 then (ob (gP s 9 4 b1) (fun v5 => (ob v5 (fun b6 => (ob (rQ s b6 a2) (fun v7 => (okO s 11 p0 ∧ C_Rf_writeExtras sa p0 (some b1) v7 s kc ks (fun sr8 cr8 dr8 => ((P184 (a2 + (1 : Int32)) sr8 cr8 dr8)))))))))) else ((okO s 11 p0 ∧ C_Rf_writeShare sa p0 (some b1) (0 : Int32) s kc ks (fun sr3 cr3 dr3 => (okO sr3 11 p0 ∧ C_Rf_writeShare sa p0 (some b1) (1 : Int32) sr3 cr3 dr3 (fun sr4 cr4 dr4 => (Q sr4 cr4 dr4))))))))))
def C_Rf_writeRouter_b184 (sa : Nat → Nat) (p0 : Nat) (p1 : Option Nat) (a2 : Int32) (s : cS) (kc ks : Nat) (Q : (cS → Nat → Nat → Prop)) : Prop := ∀ P184 : (Int32 → cS → Nat → Nat → Prop), (∀ (a2 : Int32) (s : cS) (kc ks : Nat), C_Rf_writeRouter_s184 sa p0 p1 a2 s kc ks Q P184 → P184 a2 s kc ks) → P184 a2 s kc ks
def C_Rf_writeRouter_s97 (sa : Nat → Nat) (p0 : Nat) (p1 : Option Nat) (a2 : Int32) (s : cS) (kc ks : Nat) (Q : (cS → Nat → Nat → Prop)) (P97 : (Int32 → cS → Nat → Nat → Prop)) : Prop := ob p1 (fun b1 => (ob (gI s 9 5 b1) (fun v2 => (if a2 < v2 then (ob (gP s 9 4 b1) (fun v12 => (ob v12 (fun b13 => (ob (rQ s b13 a2) (fun v14 => (okO s 11 p0 ∧ C_Rf_writeJoins sa p0 (some b1) v14 s kc ks (fun sr15 cr15 dr15 => (ob (gP sr15 9 4 b1) (fun v16 => (ob v16 (fun b17 => (ob (rQ sr15 b17 a2) (fun v18 => (okO sr15 11 p0 ∧ C_Rf_writeKeys sa p0 (some b1) v18 sr15 cr15 dr15 (fun sr19 cr19 dr19 => ((P97 (a2 + (1 : Int32)) sr19 cr19 dr19)))))))))))))))))) else ((okO s 11 p0 ∧ C_Rf_writeStatics sa p0 (some b1) s kc ks (fun sr3 cr3 dr3 => (okO sr3 11 p0 ∧ C_Rf_writeFilters sa p0 (some b1) (0 : Int32) sr3 cr3 dr3 (fun sr4 cr4 dr4 => (okO sr4 11 p0 ∧ C_Rf_writeFilters sa p0 (some b1) (1 : Int32) sr4 cr4 dr4 (fun sr5 cr5 dr5 => (ob (gP sr5 9 9 b1) (fun v6 => (ob (gI sr5 9 10 b1) (fun v7 => (okO sr5 11 p0 ∧ C_Rf_writePolicies sa p0 (some b1) (some (sa 28)) v6 v7 sr5 cr5 dr5 (fun sr8 cr8 dr8 => (ob (gP sr8 9 11 b1) (fun v9 => (ob (gI sr8 9 12 b1) (fun v10 => (okO sr8 11 p0 ∧ C_Rf_writePolicies sa p0 (some b1) (some (sa 30)) v9 v10 sr8 cr8 dr8 (fun sr11 cr11 dr11 => ((C_Rf_writeRouter_b184 sa p0 (some b1) (0 : Int32) sr11 cr11 dr11 Q)))))))))))))))))))))))))
def C_Rf_writeRouter_b97 (sa : Nat → Nat) (p0 : Nat) (p1 : Option Nat) (a2 : Int32) (s : cS) (kc ks : Nat) (Q : (cS → Nat → Nat → Prop)) : Prop := ∀ P97 : (Int32 → cS → Nat → Nat → Prop), (∀ (a2 : Int32) (s : cS) (kc ks : Nat), C_Rf_writeRouter_s97 sa p0 p1 a2 s kc ks Q P97 → P97 a2 s kc ks) → P97 a2 s kc ks
def C_Rf_writeRouter (sa : Nat → Nat) (p0 : Nat) (p1 : Option Nat) (s : cS) (kc ks : Nat) (Q : (cS → Nat → Nat → Prop)) : Prop := ob (gP s 11 2 p0) (fun v1 => (ob v1 (fun b2 => (okO s 0 b2 ∧ C_By_word sa b2 (some (sa 4)) s kc ks (fun sr3 cr3 dr3 => (ob (gP sr3 11 2 p0) (fun v4 => (ob p1 (fun b5 => (ob (gP sr3 9 1 b5) (fun v6 => (ob v4 (fun b7 => (okO sr3 0 b7 ∧ C_By_word sa b7 v6 sr3 cr3 dr3 (fun sr8 cr8 dr8 => (ob (gP sr8 11 2 p0) (fun v9 => (ob v9 (fun b10 => (okO sr8 0 b10 ∧ C_By_endLine sa b10 sr8 cr8 dr8 (fun sr11 cr11 dr11 => (ob (gP sr11 11 2 p0) (fun v12 => (ob v12 (fun b13 => (okO sr11 0 b13 ∧ C_By_word sa b13 (some (sa 38)) sr11 cr11 dr11 (fun sr14 cr14 dr14 => (ob (gP sr14 11 2 p0) (fun v15 => (ob (gP sr14 9 1 b5) (fun v16 => (ob v15 (fun b17 => (okO sr14 0 b17 ∧ C_By_word sa b17 v16 sr14 cr14 dr14 (fun sr18 cr18 dr18 => (ob (gP sr18 11 2 p0) (fun v19 => (ob (gP sr18 9 15 b5) (fun v20 => (ob v20 (fun b21 => (ob (rE sr18 .int b21 (0 : Int32)) (fun v22 => (ob v19 (fun b23 => (okO sr18 0 b23 ∧ C_By_wordNumber sa b23 v22 sr18 cr18 dr18 (fun sr24 cr24 dr24 => (ob (gP sr24 11 2 p0) (fun v25 => (ob (gP sr24 9 15 b5) (fun v26 => (ob v26 (fun b27 => (ob (rE sr24 .int b27 (1 : Int32)) (fun v28 => (ob v25 (fun b29 => (okO sr24 0 b29 ∧ C_By_wordNumber sa b29 v28 sr24 cr24 dr24 (fun sr30 cr30 dr30 => (ob (gP sr30 11 2 p0) (fun v31 => (ob (gP sr30 9 15 b5) (fun v32 => (ob v32 (fun b33 => (ob (rE sr30 .int b33 (2 : Int32)) (fun v34 => (ob v31 (fun b35 => (okO sr30 0 b35 ∧ C_By_wordNumber sa b35 v34 sr30 cr30 dr30 (fun sr36 cr36 dr36 => (ob (gP sr36 11 2 p0) (fun v37 => (ob v37 (fun b38 => (okO sr36 0 b38 ∧ C_By_endLine sa b38 sr36 cr36 dr36 (fun sr39 cr39 dr39 => ((C_Rf_writeRouter_b97 sa p0 (some b5) (0 : Int32) sr39 cr39 dr39 Q)))))))))))))))))))))))))))))))))))))))))))))))))))))))))))))))))))))))))))))))
set_option maxRecDepth 100000 in
set_option maxHeartbeats 4000000 in
theorem kc_Rf_writeRouter (base : Nat) (sa : Nat → Nat) {R : pmM} {s : cS} {kc ks : Nat} {Rt : pmR} {p0 : Nat} {p1 : Option Nat} {Q : (cS → Nat → Nat → Prop)} (hw : cW sa R base s) (h : C_Rf_writeRouter sa p0 p1 s kc ks Q) (k : ∀ s' kc' ks', cW sa R base s' → Q s' kc' ks' → Rt none (cM R s') kc' ks') : kP_Rf_writeRouter base sa [.ref p0, va_rf p1] (cM R s) kc ks Rt := by
  refine ⟨by cases p1 <;> exact Nat.le_of_ble_eq_true rfl, fun G hG => ?_⟩
  have eL : lv_args 0 [.ref p0, va_rf p1] = [(0, va_rf (some p0)), (1, va_rf p1)] := by cases p1 <;> rfl
  rw [eL]
  have b184 : ∀ (a2 : Int32) (s : cS) (kc ks : Nat), KK sa R base G 184 [(0, va_rf (some p0)), (1, va_rf p1), (2, .int a2)] [] s kc ks (C_Rf_writeRouter_b184 sa p0 p1 a2 s kc ks Q) := by
    have H : ∀ (P184 : (Int32 → cS → Nat → Nat → Prop)) (hP184 : ∀ (a2 : Int32) (s : cS) (kc ks : Nat), P184 a2 s kc ks → cW sa R base s → G 184 [(0, va_rf (some p0)), (1, va_rf p1), (2, .int a2)] [] (cM R s) kc ks) (a2 : Int32) (s : cS) (kc ks : Nat), KK sa R base G 184 [(0, va_rf (some p0)), (1, va_rf p1), (2, .int a2)] [] s kc ks (C_Rf_writeRouter_s184 sa p0 p1 a2 s kc ks Q P184) := by
      intro P184 hP184
      intro a2 s kc ks
      refine kks hG rfl rfl ?_
      refine kk_aln hG (x := p1) rfl rfl ?_
      refine kk_ob (fun b1 eb1 => ?_)
      subst eb1
      refine kk_gi hG (c := 9) (k := 5) (a := b1) rfl rfl rfl rfl (fun v2 => ?_)
      refine kk_ige hG (t := 209) rfl rfl ?_ ?_
      · refine kk_aln hG (x := (some p0)) rfl rfl ?_
        refine kk_aln hG (x := (some b1)) rfl rfl ?_
        refine kk_ic hG rfl cc_i0 ?_
        refine kk_cv hG 0 rfl rfl (Nat.le_of_ble_eq_true rfl) (by decide) rfl (st' := []) rfl (cats_le (Nat.le_of_ble_eq_true rfl)) (fun _ hw h k => kk_rcv h.1 (kc_Rf_writeShare base sa hw h.2 k)) (fun sr3 cr3 dr3 => ?_)
        refine kk_aln hG (x := (some p0)) rfl rfl ?_
        refine kk_aln hG (x := (some b1)) rfl rfl ?_
        refine kk_ic hG rfl cc_i1 ?_
        refine kk_cv hG 0 rfl rfl (Nat.le_of_ble_eq_true rfl) (by decide) rfl (st' := []) rfl (cats_le (Nat.le_of_ble_eq_true rfl)) (fun _ hw h k => kk_rcv h.1 (kc_Rf_writeShare base sa hw h.2 k)) (fun sr4 cr4 dr4 => ?_)
        exact kk_rv hG rfl rfl k
      refine kk_aln hG (x := (some p0)) rfl rfl ?_
      refine kk_aln hG (x := (some b1)) rfl rfl ?_
      refine kk_aln hG (x := (some b1)) rfl rfl ?_
      refine kk_gp hG (c := 9) (k := 4) (a := b1) rfl rfl rfl rfl (fun v5 => ?_)
      refine kks hG rfl rfl ?_
      refine kk_ob (fun b6 eb6 => ?_)
      subst eb6
      refine kk_aa hG (a := b6) rfl (fun v7 => ?_)
      refine kk_cv hG 0 rfl rfl (Nat.le_of_ble_eq_true rfl) (by decide) rfl (st' := []) rfl (cats_le (Nat.le_of_ble_eq_true rfl)) (fun _ hw h k => kk_rcv h.1 (kc_Rf_writeExtras base sa hw h.2 k)) (fun sr8 cr8 dr8 => ?_)
      refine kk_inc hG (L' := [(2, .int (a2 + (1 : Int32))), (0, va_rf (some p0)), (1, va_rf (some b1))]) rfl (Nat.le_of_ble_eq_true rfl) rfl cc_i1 rfl ?_
      refine kk_go hG (t := 184) rfl rfl ?_
      exact kk_wl hG [1, 2, 0] rfl (fun hw h => hP184 _ _ _ _ h hw)
    exact fun a2 s kc ks hw h => h (fun a2 s kc ks => cW sa R base s → G 184 [(0, va_rf (some p0)), (1, va_rf p1), (2, .int a2)] [] (cM R s) kc ks) (fun a2 s kc ks hs hw => H _ (fun _ _ _ _ hp hw => hp hw) a2 s kc ks hw hs) hw
  have b97 : ∀ (a2 : Int32) (s : cS) (kc ks : Nat), KK sa R base G 97 [(0, va_rf (some p0)), (1, va_rf p1), (2, .int a2)] [] s kc ks (C_Rf_writeRouter_b97 sa p0 p1 a2 s kc ks Q) := by
    have H : ∀ (P97 : (Int32 → cS → Nat → Nat → Prop)) (hP97 : ∀ (a2 : Int32) (s : cS) (kc ks : Nat), P97 a2 s kc ks → cW sa R base s → G 97 [(0, va_rf (some p0)), (1, va_rf p1), (2, .int a2)] [] (cM R s) kc ks) (a2 : Int32) (s : cS) (kc ks : Nat), KK sa R base G 97 [(0, va_rf (some p0)), (1, va_rf p1), (2, .int a2)] [] s kc ks (C_Rf_writeRouter_s97 sa p0 p1 a2 s kc ks Q P97) := by
      intro P97 hP97
      intro a2 s kc ks
      refine kks hG rfl rfl ?_
      refine kk_aln hG (x := p1) rfl rfl ?_
      refine kk_ob (fun b1 eb1 => ?_)
      subst eb1
      refine kk_gi hG (c := 9) (k := 5) (a := b1) rfl rfl rfl rfl (fun v2 => ?_)
      refine kk_ige hG (t := 133) rfl rfl ?_ ?_
      · refine kk_aln hG (x := (some p0)) rfl rfl ?_
        refine kk_aln hG (x := (some b1)) rfl rfl ?_
        refine kk_cv hG 0 rfl rfl (Nat.le_of_ble_eq_true rfl) (by decide) rfl (st' := []) rfl (cats_le (Nat.le_of_ble_eq_true rfl)) (fun _ hw h k => kk_rcv h.1 (kc_Rf_writeStatics base sa hw h.2 k)) (fun sr3 cr3 dr3 => ?_)
        refine kk_aln hG (x := (some p0)) rfl rfl ?_
        refine kk_aln hG (x := (some b1)) rfl rfl ?_
        refine kk_ic hG rfl cc_i0 ?_
        refine kk_cv hG 0 rfl rfl (Nat.le_of_ble_eq_true rfl) (by decide) rfl (st' := []) rfl (cats_le (Nat.le_of_ble_eq_true rfl)) (fun _ hw h k => kk_rcv h.1 (kc_Rf_writeFilters base sa hw h.2 k)) (fun sr4 cr4 dr4 => ?_)
        refine kk_aln hG (x := (some p0)) rfl rfl ?_
        refine kk_aln hG (x := (some b1)) rfl rfl ?_
        refine kk_ic hG rfl cc_i1 ?_
        refine kk_cv hG 0 rfl rfl (Nat.le_of_ble_eq_true rfl) (by decide) rfl (st' := []) rfl (cats_le (Nat.le_of_ble_eq_true rfl)) (fun _ hw h k => kk_rcv h.1 (kc_Rf_writeFilters base sa hw h.2 k)) (fun sr5 cr5 dr5 => ?_)
        refine kk_aln hG (x := (some p0)) rfl rfl ?_
        refine kk_aln hG (x := (some b1)) rfl rfl ?_
        refine kk_lws hG (a := sa 28) rfl rfl ?_
        refine kk_aln hG (x := (some b1)) rfl rfl ?_
        refine kk_gp hG (c := 9) (k := 9) (a := b1) rfl rfl rfl rfl (fun v6 => ?_)
        refine kk_aln hG (x := (some b1)) rfl rfl ?_
        refine kk_gi hG (c := 9) (k := 10) (a := b1) rfl rfl rfl rfl (fun v7 => ?_)
        refine kk_cv hG 0 rfl rfl (Nat.le_of_ble_eq_true rfl) (by decide) rfl (st' := []) rfl (cats_le (Nat.le_of_ble_eq_true rfl)) (fun _ hw h k => kk_rcv h.1 (kc_Rf_writePolicies base sa hw h.2 k)) (fun sr8 cr8 dr8 => ?_)
        refine kk_aln hG (x := (some p0)) rfl rfl ?_
        refine kk_aln hG (x := (some b1)) rfl rfl ?_
        refine kk_lws hG (a := sa 30) rfl rfl ?_
        refine kk_aln hG (x := (some b1)) rfl rfl ?_
        refine kk_gp hG (c := 9) (k := 11) (a := b1) rfl rfl rfl rfl (fun v9 => ?_)
        refine kk_aln hG (x := (some b1)) rfl rfl ?_
        refine kk_gi hG (c := 9) (k := 12) (a := b1) rfl rfl rfl rfl (fun v10 => ?_)
        refine kk_cv hG 0 rfl rfl (Nat.le_of_ble_eq_true rfl) (by decide) rfl (st' := []) rfl (cats_le (Nat.le_of_ble_eq_true rfl)) (fun _ hw h k => kk_rcv h.1 (kc_Rf_writePolicies base sa hw h.2 k)) (fun sr11 cr11 dr11 => ?_)
        refine kk_ic hG rfl cc_i0 ?_
        refine kk_st hG (L' := [(2, .int (0 : Int32)), (0, va_rf (some p0)), (1, va_rf (some b1))]) rfl rfl (Nat.le_of_ble_eq_true rfl) rfl ?_
        exact kk_wl hG [1, 2, 0] rfl (b184 _ _ _ _)
      refine kk_aln hG (x := (some p0)) rfl rfl ?_
      refine kk_aln hG (x := (some b1)) rfl rfl ?_
      refine kk_aln hG (x := (some b1)) rfl rfl ?_
      refine kk_gp hG (c := 9) (k := 4) (a := b1) rfl rfl rfl rfl (fun v12 => ?_)
      refine kks hG rfl rfl ?_
      refine kk_ob (fun b13 eb13 => ?_)
      subst eb13
      refine kk_aa hG (a := b13) rfl (fun v14 => ?_)
      refine kk_cv hG 0 rfl rfl (Nat.le_of_ble_eq_true rfl) (by decide) rfl (st' := []) rfl (cats_le (Nat.le_of_ble_eq_true rfl)) (fun _ hw h k => kk_rcv h.1 (kc_Rf_writeJoins base sa hw h.2 k)) (fun sr15 cr15 dr15 => ?_)
      refine kk_aln hG (x := (some p0)) rfl rfl ?_
      refine kk_aln hG (x := (some b1)) rfl rfl ?_
      refine kk_aln hG (x := (some b1)) rfl rfl ?_
      refine kk_gp hG (c := 9) (k := 4) (a := b1) rfl rfl rfl rfl (fun v16 => ?_)
      refine kks hG rfl rfl ?_
      refine kk_ob (fun b17 eb17 => ?_)
      subst eb17
      refine kk_aa hG (a := b17) rfl (fun v18 => ?_)
      refine kk_cv hG 0 rfl rfl (Nat.le_of_ble_eq_true rfl) (by decide) rfl (st' := []) rfl (cats_le (Nat.le_of_ble_eq_true rfl)) (fun _ hw h k => kk_rcv h.1 (kc_Rf_writeKeys base sa hw h.2 k)) (fun sr19 cr19 dr19 => ?_)
      refine kk_inc hG (L' := [(2, .int (a2 + (1 : Int32))), (0, va_rf (some p0)), (1, va_rf (some b1))]) rfl (Nat.le_of_ble_eq_true rfl) rfl cc_i1 rfl ?_
      refine kk_go hG (t := 97) rfl rfl ?_
      exact kk_wl hG [1, 2, 0] rfl (fun hw h => hP97 _ _ _ _ h hw)
    exact fun a2 s kc ks hw h => h (fun a2 s kc ks => cW sa R base s → G 97 [(0, va_rf (some p0)), (1, va_rf p1), (2, .int a2)] [] (cM R s) kc ks) (fun a2 s kc ks hs hw => H _ (fun _ _ _ _ hp hw => hp hw) a2 s kc ks hw hs) hw
  refine (show KK sa R base G 0 [(0, va_rf (some p0)), (1, va_rf p1)] [] s kc ks (C_Rf_writeRouter sa p0 p1 s kc ks Q) from ?_) hw h
  refine kk_aln hG (x := (some p0)) rfl rfl ?_
  refine kk_gp hG (c := 11) (k := 2) (a := p0) rfl rfl rfl rfl (fun v1 => ?_)
  refine kk_lws hG (a := sa 4) rfl rfl ?_
  refine kk_ob (fun b2 eb2 => ?_)
  subst eb2
  refine kk_cv hG 0 rfl rfl (Nat.le_of_ble_eq_true rfl) (by decide) rfl (st' := []) rfl (cats_le (Nat.le_of_ble_eq_true rfl)) (fun _ hw h k => kk_rcv h.1 (kc_By_word base sa hw h.2 k)) (fun sr3 cr3 dr3 => ?_)
  refine kk_aln hG (x := (some p0)) rfl rfl ?_
  refine kk_gp hG (c := 11) (k := 2) (a := p0) rfl rfl rfl rfl (fun v4 => ?_)
  refine kk_aln hG (x := p1) rfl rfl ?_
  refine kk_ob (fun b5 eb5 => ?_)
  subst eb5
  refine kk_gp hG (c := 9) (k := 1) (a := b5) rfl rfl rfl rfl (fun v6 => ?_)
  refine kk_ob (fun b7 eb7 => ?_)
  subst eb7
  refine kk_cv hG 0 rfl rfl (Nat.le_of_ble_eq_true rfl) (by decide) rfl (st' := []) rfl (cats_le (Nat.le_of_ble_eq_true rfl)) (fun _ hw h k => kk_rcv h.1 (kc_By_word base sa hw h.2 k)) (fun sr8 cr8 dr8 => ?_)
  refine kk_aln hG (x := (some p0)) rfl rfl ?_
  refine kk_gp hG (c := 11) (k := 2) (a := p0) rfl rfl rfl rfl (fun v9 => ?_)
  refine kk_ob (fun b10 eb10 => ?_)
  subst eb10
  refine kk_cv hG 0 rfl rfl (Nat.le_of_ble_eq_true rfl) (by decide) rfl (st' := []) rfl (cats_le (Nat.le_of_ble_eq_true rfl)) (fun _ hw h k => kk_rcv h.1 (kc_By_endLine base sa hw h.2 k)) (fun sr11 cr11 dr11 => ?_)
  refine kk_aln hG (x := (some p0)) rfl rfl ?_
  refine kk_gp hG (c := 11) (k := 2) (a := p0) rfl rfl rfl rfl (fun v12 => ?_)
  refine kk_lws hG (a := sa 38) rfl rfl ?_
  refine kk_ob (fun b13 eb13 => ?_)
  subst eb13
  refine kk_cv hG 0 rfl rfl (Nat.le_of_ble_eq_true rfl) (by decide) rfl (st' := []) rfl (cats_le (Nat.le_of_ble_eq_true rfl)) (fun _ hw h k => kk_rcv h.1 (kc_By_word base sa hw h.2 k)) (fun sr14 cr14 dr14 => ?_)
  refine kk_aln hG (x := (some p0)) rfl rfl ?_
  refine kk_gp hG (c := 11) (k := 2) (a := p0) rfl rfl rfl rfl (fun v15 => ?_)
  refine kk_aln hG (x := (some b5)) rfl rfl ?_
  refine kk_gp hG (c := 9) (k := 1) (a := b5) rfl rfl rfl rfl (fun v16 => ?_)
  refine kk_ob (fun b17 eb17 => ?_)
  subst eb17
  refine kk_cv hG 0 rfl rfl (Nat.le_of_ble_eq_true rfl) (by decide) rfl (st' := []) rfl (cats_le (Nat.le_of_ble_eq_true rfl)) (fun _ hw h k => kk_rcv h.1 (kc_By_word base sa hw h.2 k)) (fun sr18 cr18 dr18 => ?_)
  refine kk_aln hG (x := (some p0)) rfl rfl ?_
  refine kk_gp hG (c := 11) (k := 2) (a := p0) rfl rfl rfl rfl (fun v19 => ?_)
  refine kk_aln hG (x := (some b5)) rfl rfl ?_
  refine kk_gp hG (c := 9) (k := 15) (a := b5) rfl rfl rfl rfl (fun v20 => ?_)
  refine kk_ic hG rfl cc_i0 ?_
  refine kk_ob (fun b21 eb21 => ?_)
  subst eb21
  refine kk_ia hG (a := b21) rfl (fun v22 => ?_)
  refine kk_ob (fun b23 eb23 => ?_)
  subst eb23
  refine kk_cv hG 0 rfl rfl (Nat.le_of_ble_eq_true rfl) (by decide) rfl (st' := []) rfl (cats_le (Nat.le_of_ble_eq_true rfl)) (fun _ hw h k => kk_rcv h.1 (kc_By_wordNumber base sa hw h.2 k)) (fun sr24 cr24 dr24 => ?_)
  refine kk_aln hG (x := (some p0)) rfl rfl ?_
  refine kk_gp hG (c := 11) (k := 2) (a := p0) rfl rfl rfl rfl (fun v25 => ?_)
  refine kk_aln hG (x := (some b5)) rfl rfl ?_
  refine kk_gp hG (c := 9) (k := 15) (a := b5) rfl rfl rfl rfl (fun v26 => ?_)
  refine kk_ic hG rfl cc_i1 ?_
  refine kk_ob (fun b27 eb27 => ?_)
  subst eb27
  refine kk_ia hG (a := b27) rfl (fun v28 => ?_)
  refine kk_ob (fun b29 eb29 => ?_)
  subst eb29
  refine kk_cv hG 0 rfl rfl (Nat.le_of_ble_eq_true rfl) (by decide) rfl (st' := []) rfl (cats_le (Nat.le_of_ble_eq_true rfl)) (fun _ hw h k => kk_rcv h.1 (kc_By_wordNumber base sa hw h.2 k)) (fun sr30 cr30 dr30 => ?_)
  refine kk_aln hG (x := (some p0)) rfl rfl ?_
  refine kk_gp hG (c := 11) (k := 2) (a := p0) rfl rfl rfl rfl (fun v31 => ?_)
  refine kk_aln hG (x := (some b5)) rfl rfl ?_
  refine kk_gp hG (c := 9) (k := 15) (a := b5) rfl rfl rfl rfl (fun v32 => ?_)
  refine kk_ic hG rfl cc_i2 ?_
  refine kk_ob (fun b33 eb33 => ?_)
  subst eb33
  refine kk_ia hG (a := b33) rfl (fun v34 => ?_)
  refine kk_ob (fun b35 eb35 => ?_)
  subst eb35
  refine kk_cv hG 0 rfl rfl (Nat.le_of_ble_eq_true rfl) (by decide) rfl (st' := []) rfl (cats_le (Nat.le_of_ble_eq_true rfl)) (fun _ hw h k => kk_rcv h.1 (kc_By_wordNumber base sa hw h.2 k)) (fun sr36 cr36 dr36 => ?_)
  refine kk_aln hG (x := (some p0)) rfl rfl ?_
  refine kk_gp hG (c := 11) (k := 2) (a := p0) rfl rfl rfl rfl (fun v37 => ?_)
  refine kk_ob (fun b38 eb38 => ?_)
  subst eb38
  refine kk_cv hG 0 rfl rfl (Nat.le_of_ble_eq_true rfl) (by decide) rfl (st' := []) rfl (cats_le (Nat.le_of_ble_eq_true rfl)) (fun _ hw h k => kk_rcv h.1 (kc_By_endLine base sa hw h.2 k)) (fun sr39 cr39 dr39 => ?_)
  refine kk_ic hG rfl cc_i0 ?_
  refine kk_st hG (L' := [(2, .int (0 : Int32)), (0, va_rf (some p0)), (1, va_rf (some b5))]) rfl rfl (Nat.le_of_ble_eq_true rfl) rfl ?_
  exact kk_wl hG [1, 2, 0] rfl (b97 _ _ _ _)
def C_Rf_config_s61 (sa : Nat → Nat) (p0 : Nat) (a1 : Int32) (s : cS) (kc ks : Nat) (Q : (Int32 → cS → Nat → Nat → Prop)) (P61 : (Int32 → cS → Nat → Nat → Prop)) : Prop := ob (gI s 11 9 p0) (fun v1 => (if a1 < v1 then (ob (gP s 11 8 p0) (fun v12 => (ob v12 (fun b13 => (ob (rQ s b13 a1) (fun v14 => (okO s 11 p0 ∧ C_Rf_writeRouter sa p0 v14 s kc ks (fun sr15 cr15 dr15 => ((P61 (a1 + (1 : Int32)) sr15 cr15 dr15)))))))))) else ((ob (gP s 11 2 p0) (fun v2 => (ob v2 (fun b3 => (ob (gI s 0 1 b3) (fun v4 => (if (40000 : Int32) < v4 then (Q ((-1) : Int32) s kc ks) else (ob (gP s 11 1 p0) (fun v5 => (ob (gP s 11 2 p0) (fun v6 => (ob (pP s 11 1 p0 v6) (fun s7 => (ob (pP s7 11 2 p0 v5) (fun s8 => (ob (gP s8 11 1 p0) (fun v9 => (ob v9 (fun b10 => (ob (gI s8 0 1 b10) (fun v11 => (Q v11 s8 kc ks)))))))))))))))))))))))))
def C_Rf_config_b61 (sa : Nat → Nat) (p0 : Nat) (a1 : Int32) (s : cS) (kc ks : Nat) (Q : (Int32 → cS → Nat → Nat → Prop)) : Prop := ∀ P61 : (Int32 → cS → Nat → Nat → Prop), (∀ (a1 : Int32) (s : cS) (kc ks : Nat), C_Rf_config_s61 sa p0 a1 s kc ks Q P61 → P61 a1 s kc ks) → P61 a1 s kc ks
def C_Rf_config_s35 (sa : Nat → Nat) (p0 : Nat) (a1 : Int32) (s : cS) (kc ks : Nat) (Q : (Int32 → cS → Nat → Nat → Prop)) (P35 : (Int32 → cS → Nat → Nat → Prop)) : Prop := ob (gI s 11 11 p0) (fun v1 => (if a1 < v1 then (ob (gP s 11 10 p0) (fun v2 => (ob v2 (fun b3 => (ob (rQ s b3 a1) (fun v4 => (okO s 11 p0 ∧ C_Rf_writeList sa p0 v4 s kc ks (fun sr5 cr5 dr5 => ((P35 (a1 + (1 : Int32)) sr5 cr5 dr5)))))))))) else (((C_Rf_config_b61 sa p0 (0 : Int32) s kc ks Q)))))
def C_Rf_config_b35 (sa : Nat → Nat) (p0 : Nat) (a1 : Int32) (s : cS) (kc ks : Nat) (Q : (Int32 → cS → Nat → Nat → Prop)) : Prop := ∀ P35 : (Int32 → cS → Nat → Nat → Prop), (∀ (a1 : Int32) (s : cS) (kc ks : Nat), C_Rf_config_s35 sa p0 a1 s kc ks Q P35 → P35 a1 s kc ks) → P35 a1 s kc ks
def C_Rf_config_s9 (sa : Nat → Nat) (p0 : Nat) (a1 : Int32) (s : cS) (kc ks : Nat) (Q : (Int32 → cS → Nat → Nat → Prop)) (P9 : (Int32 → cS → Nat → Nat → Prop)) : Prop := ob (gI s 11 7 p0) (fun v1 => (if a1 < v1 then (ob (gP s 11 6 p0) (fun v2 => (ob v2 (fun b3 => (ob (rQ s b3 a1) (fun v4 => (okO s 11 p0 ∧ C_Rf_writeLink sa p0 v4 s kc ks (fun sr5 cr5 dr5 => ((P9 (a1 + (1 : Int32)) sr5 cr5 dr5)))))))))) else (((C_Rf_config_b35 sa p0 (0 : Int32) s kc ks Q)))))
def C_Rf_config_b9 (sa : Nat → Nat) (p0 : Nat) (a1 : Int32) (s : cS) (kc ks : Nat) (Q : (Int32 → cS → Nat → Nat → Prop)) : Prop := ∀ P9 : (Int32 → cS → Nat → Nat → Prop), (∀ (a1 : Int32) (s : cS) (kc ks : Nat), C_Rf_config_s9 sa p0 a1 s kc ks Q P9 → P9 a1 s kc ks) → P9 a1 s kc ks
def C_Rf_config (sa : Nat → Nat) (p0 : Nat) (s : cS) (kc ks : Nat) (Q : (Int32 → cS → Nat → Nat → Prop)) : Prop := ob (gP s 11 2 p0) (fun v1 => (ob v1 (fun b2 => (okO s 0 b2 ∧ C_By_clear sa b2 s kc ks (fun sr3 cr3 dr3 => ((C_Rf_config_b9 sa p0 (0 : Int32) sr3 cr3 dr3 Q)))))))
set_option maxRecDepth 100000 in
set_option maxHeartbeats 4000000 in
theorem kc_Rf_config (base : Nat) (sa : Nat → Nat) {R : pmM} {s : cS} {kc ks : Nat} {Rt : pmR} {p0 : Nat} {Q : (Int32 → cS → Nat → Nat → Prop)} (hw : cW sa R base s) (h : C_Rf_config sa p0 s kc ks Q) (k : ∀ r s' kc' ks', cW sa R base s' → Q r s' kc' ks' → Rt (some (.int r)) (cM R s') kc' ks') : kP_Rf_config base sa [.ref p0] (cM R s) kc ks Rt := by
  refine ⟨Nat.le_of_ble_eq_true rfl, fun G hG => ?_⟩
  have b61 : ∀ (a1 : Int32) (s : cS) (kc ks : Nat), KK sa R base G 61 [(0, va_rf (some p0)), (1, .int a1)] [] s kc ks (C_Rf_config_b61 sa p0 a1 s kc ks Q) := by
    have H : ∀ (P61 : (Int32 → cS → Nat → Nat → Prop)) (hP61 : ∀ (a1 : Int32) (s : cS) (kc ks : Nat), P61 a1 s kc ks → cW sa R base s → G 61 [(0, va_rf (some p0)), (1, .int a1)] [] (cM R s) kc ks) (a1 : Int32) (s : cS) (kc ks : Nat), KK sa R base G 61 [(0, va_rf (some p0)), (1, .int a1)] [] s kc ks (C_Rf_config_s61 sa p0 a1 s kc ks Q P61) := by
      intro P61 hP61
      intro a1 s kc ks
      refine kks hG rfl rfl ?_
      refine kk_aln hG (x := (some p0)) rfl rfl ?_
      refine kk_gi hG (c := 11) (k := 9) (a := p0) rfl rfl rfl rfl (fun v1 => ?_)
      refine kk_ige hG (t := 85) rfl rfl ?_ ?_
      · refine kk_aln hG (x := (some p0)) rfl rfl ?_
        refine kk_gp hG (c := 11) (k := 2) (a := p0) rfl rfl rfl rfl (fun v2 => ?_)
        refine kk_ob (fun b3 eb3 => ?_)
        subst eb3
        refine kk_gi hG (c := 0) (k := 1) (a := b3) rfl rfl rfl rfl (fun v4 => ?_)
        refine kk_ld hG (v := (40000 : Int32)) rfl rfl ?_
        refine kk_ile hG (t := 99) rfl rfl ?_ ?_
        · refine kk_aln hG (x := (some p0)) rfl rfl ?_
          refine kk_gp hG (c := 11) (k := 1) (a := p0) rfl rfl rfl rfl (fun v5 => ?_)
          refine kk_asn hG (x := v5) (L' := [(1, va_rf v5), (0, va_rf (some p0))]) rfl (Nat.le_of_ble_eq_true rfl) rfl ?_
          refine kk_aln hG (x := (some p0)) rfl rfl ?_
          refine kk_aln hG (x := (some p0)) rfl rfl ?_
          refine kk_gp hG (c := 11) (k := 2) (a := p0) rfl rfl rfl rfl (fun v6 => ?_)
          refine kk_pp hG (c := 11) (k := 1) (a := p0) (v := v6) rfl rfl rfl rfl rfl (fun s7 => ?_)
          refine kk_aln hG (x := (some p0)) rfl rfl ?_
          refine kk_aln hG (x := v5) rfl rfl ?_
          refine kk_pp hG (c := 11) (k := 2) (a := p0) (v := v5) rfl rfl rfl rfl rfl (fun s8 => ?_)
          refine kk_aln hG (x := (some p0)) rfl rfl ?_
          refine kk_gp hG (c := 11) (k := 1) (a := p0) rfl rfl rfl rfl (fun v9 => ?_)
          refine kk_ob (fun b10 eb10 => ?_)
          subst eb10
          refine kk_gi hG (c := 0) (k := 1) (a := b10) rfl rfl rfl rfl (fun v11 => ?_)
          exact kk_ri hG rfl rfl rfl k
        refine kk_ic hG rfl cc_im1 ?_
        exact kk_ri hG rfl rfl rfl k
      refine kk_aln hG (x := (some p0)) rfl rfl ?_
      refine kk_aln hG (x := (some p0)) rfl rfl ?_
      refine kk_gp hG (c := 11) (k := 8) (a := p0) rfl rfl rfl rfl (fun v12 => ?_)
      refine kks hG rfl rfl ?_
      refine kk_ob (fun b13 eb13 => ?_)
      subst eb13
      refine kk_aa hG (a := b13) rfl (fun v14 => ?_)
      refine kk_cv hG 0 rfl rfl (Nat.le_of_ble_eq_true rfl) (by decide) rfl (st' := []) rfl (cats_le (Nat.le_of_ble_eq_true rfl)) (fun _ hw h k => kk_rcv h.1 (kc_Rf_writeRouter base sa hw h.2 k)) (fun sr15 cr15 dr15 => ?_)
      refine kk_inc hG (L' := [(1, .int (a1 + (1 : Int32))), (0, va_rf (some p0))]) rfl (Nat.le_of_ble_eq_true rfl) rfl cc_i1 rfl ?_
      refine kk_go hG (t := 61) rfl rfl ?_
      exact kk_wl hG [1, 0] rfl (fun hw h => hP61 _ _ _ _ h hw)
    exact fun a1 s kc ks hw h => h (fun a1 s kc ks => cW sa R base s → G 61 [(0, va_rf (some p0)), (1, .int a1)] [] (cM R s) kc ks) (fun a1 s kc ks hs hw => H _ (fun _ _ _ _ hp hw => hp hw) a1 s kc ks hw hs) hw
  have b35 : ∀ (a1 : Int32) (s : cS) (kc ks : Nat), KK sa R base G 35 [(0, va_rf (some p0)), (1, .int a1)] [] s kc ks (C_Rf_config_b35 sa p0 a1 s kc ks Q) := by
    have H : ∀ (P35 : (Int32 → cS → Nat → Nat → Prop)) (hP35 : ∀ (a1 : Int32) (s : cS) (kc ks : Nat), P35 a1 s kc ks → cW sa R base s → G 35 [(0, va_rf (some p0)), (1, .int a1)] [] (cM R s) kc ks) (a1 : Int32) (s : cS) (kc ks : Nat), KK sa R base G 35 [(0, va_rf (some p0)), (1, .int a1)] [] s kc ks (C_Rf_config_s35 sa p0 a1 s kc ks Q P35) := by
      intro P35 hP35
      intro a1 s kc ks
      refine kks hG rfl rfl ?_
      refine kk_aln hG (x := (some p0)) rfl rfl ?_
      refine kk_gi hG (c := 11) (k := 11) (a := p0) rfl rfl rfl rfl (fun v1 => ?_)
      refine kk_ige hG (t := 59) rfl rfl ?_ ?_
      · refine kk_ic hG rfl cc_i0 ?_
        refine kk_st hG (L' := [(1, .int (0 : Int32)), (0, va_rf (some p0))]) rfl rfl (Nat.le_of_ble_eq_true rfl) rfl ?_
        exact kk_wl hG [1, 0] rfl (b61 _ _ _ _)
      refine kk_aln hG (x := (some p0)) rfl rfl ?_
      refine kk_aln hG (x := (some p0)) rfl rfl ?_
      refine kk_gp hG (c := 11) (k := 10) (a := p0) rfl rfl rfl rfl (fun v2 => ?_)
      refine kks hG rfl rfl ?_
      refine kk_ob (fun b3 eb3 => ?_)
      subst eb3
      refine kk_aa hG (a := b3) rfl (fun v4 => ?_)
      refine kk_cv hG 0 rfl rfl (Nat.le_of_ble_eq_true rfl) (by decide) rfl (st' := []) rfl (cats_le (Nat.le_of_ble_eq_true rfl)) (fun _ hw h k => kk_rcv h.1 (kc_Rf_writeList base sa hw h.2 k)) (fun sr5 cr5 dr5 => ?_)
      refine kk_inc hG (L' := [(1, .int (a1 + (1 : Int32))), (0, va_rf (some p0))]) rfl (Nat.le_of_ble_eq_true rfl) rfl cc_i1 rfl ?_
      refine kk_go hG (t := 35) rfl rfl ?_
      exact kk_wl hG [1, 0] rfl (fun hw h => hP35 _ _ _ _ h hw)
    exact fun a1 s kc ks hw h => h (fun a1 s kc ks => cW sa R base s → G 35 [(0, va_rf (some p0)), (1, .int a1)] [] (cM R s) kc ks) (fun a1 s kc ks hs hw => H _ (fun _ _ _ _ hp hw => hp hw) a1 s kc ks hw hs) hw
  have b9 : ∀ (a1 : Int32) (s : cS) (kc ks : Nat), KK sa R base G 9 [(0, va_rf (some p0)), (1, .int a1)] [] s kc ks (C_Rf_config_b9 sa p0 a1 s kc ks Q) := by
    have H : ∀ (P9 : (Int32 → cS → Nat → Nat → Prop)) (hP9 : ∀ (a1 : Int32) (s : cS) (kc ks : Nat), P9 a1 s kc ks → cW sa R base s → G 9 [(0, va_rf (some p0)), (1, .int a1)] [] (cM R s) kc ks) (a1 : Int32) (s : cS) (kc ks : Nat), KK sa R base G 9 [(0, va_rf (some p0)), (1, .int a1)] [] s kc ks (C_Rf_config_s9 sa p0 a1 s kc ks Q P9) := by
      intro P9 hP9
      intro a1 s kc ks
      refine kks hG rfl rfl ?_
      refine kk_aln hG (x := (some p0)) rfl rfl ?_
      refine kk_gi hG (c := 11) (k := 7) (a := p0) rfl rfl rfl rfl (fun v1 => ?_)
      refine kk_ige hG (t := 33) rfl rfl ?_ ?_
      · refine kk_ic hG rfl cc_i0 ?_
        refine kk_st hG (L' := [(1, .int (0 : Int32)), (0, va_rf (some p0))]) rfl rfl (Nat.le_of_ble_eq_true rfl) rfl ?_
        exact kk_wl hG [1, 0] rfl (b35 _ _ _ _)
      refine kk_aln hG (x := (some p0)) rfl rfl ?_
      refine kk_aln hG (x := (some p0)) rfl rfl ?_
      refine kk_gp hG (c := 11) (k := 6) (a := p0) rfl rfl rfl rfl (fun v2 => ?_)
      refine kks hG rfl rfl ?_
      refine kk_ob (fun b3 eb3 => ?_)
      subst eb3
      refine kk_aa hG (a := b3) rfl (fun v4 => ?_)
      refine kk_cv hG 0 rfl rfl (Nat.le_of_ble_eq_true rfl) (by decide) rfl (st' := []) rfl (cats_le (Nat.le_of_ble_eq_true rfl)) (fun _ hw h k => kk_rcv h.1 (kc_Rf_writeLink base sa hw h.2 k)) (fun sr5 cr5 dr5 => ?_)
      refine kk_inc hG (L' := [(1, .int (a1 + (1 : Int32))), (0, va_rf (some p0))]) rfl (Nat.le_of_ble_eq_true rfl) rfl cc_i1 rfl ?_
      refine kk_go hG (t := 9) rfl rfl ?_
      exact kk_wl hG [1, 0] rfl (fun hw h => hP9 _ _ _ _ h hw)
    exact fun a1 s kc ks hw h => h (fun a1 s kc ks => cW sa R base s → G 9 [(0, va_rf (some p0)), (1, .int a1)] [] (cM R s) kc ks) (fun a1 s kc ks hs hw => H _ (fun _ _ _ _ hp hw => hp hw) a1 s kc ks hw hs) hw
  refine (show KK sa R base G 0 [(0, va_rf (some p0))] [] s kc ks (C_Rf_config sa p0 s kc ks Q) from ?_) hw h
  refine kk_aln hG (x := (some p0)) rfl rfl ?_
  refine kk_gp hG (c := 11) (k := 2) (a := p0) rfl rfl rfl rfl (fun v1 => ?_)
  refine kk_ob (fun b2 eb2 => ?_)
  subst eb2
  refine kk_cv hG 0 rfl rfl (Nat.le_of_ble_eq_true rfl) (by decide) rfl (st' := []) rfl (cats_le (Nat.le_of_ble_eq_true rfl)) (fun _ hw h k => kk_rcv h.1 (kc_By_clear base sa hw h.2 k)) (fun sr3 cr3 dr3 => ?_)
  refine kk_ic hG rfl cc_i0 ?_
  refine kk_st hG (L' := [(1, .int (0 : Int32)), (0, va_rf (some p0))]) rfl rfl (Nat.le_of_ble_eq_true rfl) rfl ?_
  exact kk_wl hG [1, 0] rfl (b9 _ _ _ _)
def C_Pr_hexNumber_b97 (sa : Nat → Nat) (p0 : Option Nat) (p2 : Int32) (a3 : Int32) (a4 : Int32) (a5 : Int32) (s : cS) (kc ks : Nat) (Q : (Int32 → cS → Nat → Nat → Prop)) (P21 : (Int32 → Int32 → cS → Nat → Nat → Prop)) : Prop := (P21 ((a3 <<< ((4 : Int32) &&& 31)) ||| a5) (a4 + (1 : Int32)) s kc ks)
def C_Pr_hexNumber_b75 (sa : Nat → Nat) (p0 : Option Nat) (p2 : Int32) (a3 : Int32) (a4 : Int32) (a5 : Int32) (s : cS) (kc ks : Nat) (Q : (Int32 → cS → Nat → Nat → Prop)) (P21 : (Int32 → Int32 → cS → Nat → Nat → Prop)) : Prop := if a5 < (65 : Int32) then ((Q ((-1) : Int32) s kc ks)) else (if (70 : Int32) < a5 then ((Q ((-1) : Int32) s kc ks)) else ((C_Pr_hexNumber_b97 sa p0 p2 a3 a4 (a5 + ((-55) : Int32)) s kc ks Q P21)))
def C_Pr_hexNumber_b55 (sa : Nat → Nat) (p0 : Option Nat) (p2 : Int32) (a3 : Int32) (a4 : Int32) (a5 : Int32) (s : cS) (kc ks : Nat) (Q : (Int32 → cS → Nat → Nat → Prop)) (P21 : (Int32 → Int32 → cS → Nat → Nat → Prop)) : Prop := if a5 < (97 : Int32) then ((C_Pr_hexNumber_b75 sa p0 p2 a3 a4 a5 s kc ks Q P21)) else (if (102 : Int32) < a5 then ((C_Pr_hexNumber_b75 sa p0 p2 a3 a4 a5 s kc ks Q P21)) else ((C_Pr_hexNumber_b97 sa p0 p2 a3 a4 (a5 + ((-87) : Int32)) s kc ks Q P21)))
def C_Pr_hexNumber_s21 (sa : Nat → Nat) (p0 : Option Nat) (p2 : Int32) (a3 : Int32) (a4 : Int32) (s : cS) (kc ks : Nat) (Q : (Int32 → cS → Nat → Nat → Prop)) (P21 : (Int32 → Int32 → cS → Nat → Nat → Prop)) : Prop := if a4 < p2 then (ob p0 (fun b1 => (okO s 0 b1 ∧ C_By_at sa b1 a4 s kc ks (fun r2 sr2 cr2 dr2 => (if r2 < (48 : Int32) then ((C_Pr_hexNumber_b55 sa (some b1) p2 a3 a4 r2 sr2 cr2 dr2 Q P21)) else (if (57 : Int32) < r2 then ((C_Pr_hexNumber_b55 sa (some b1) p2 a3 a4 r2 sr2 cr2 dr2 Q P21)) else ((C_Pr_hexNumber_b97 sa (some b1) p2 a3 a4 (r2 + ((-48) : Int32)) sr2 cr2 dr2 Q P21)))))))) else ((Q a3 s kc ks))
def C_Pr_hexNumber_b21 (sa : Nat → Nat) (p0 : Option Nat) (p2 : Int32) (a3 : Int32) (a4 : Int32) (s : cS) (kc ks : Nat) (Q : (Int32 → cS → Nat → Nat → Prop)) : Prop := ∀ P21 : (Int32 → Int32 → cS → Nat → Nat → Prop), (∀ (a3 : Int32) (a4 : Int32) (s : cS) (kc ks : Nat), C_Pr_hexNumber_s21 sa p0 p2 a3 a4 s kc ks Q P21 → P21 a3 a4 s kc ks) → P21 a3 a4 s kc ks
def C_Pr_hexNumber (sa : Nat → Nat) (p0 : Option Nat) (p1 : Int32) (p2 : Int32) (s : cS) (kc ks : Nat) (Q : (Int32 → cS → Nat → Nat → Prop)) : Prop := if (p2 - p1) < (1 : Int32) then (Q ((-1) : Int32) s kc ks) else (if (4 : Int32) < (p2 - p1) then (Q ((-1) : Int32) s kc ks) else ((C_Pr_hexNumber_b21 sa p0 p2 (0 : Int32) p1 s kc ks Q)))
set_option maxRecDepth 100000 in
set_option maxHeartbeats 4000000 in
theorem kc_Pr_hexNumber (base : Nat) (sa : Nat → Nat) {R : pmM} {s : cS} {kc ks : Nat} {Rt : pmR} {p0 : Option Nat} {p1 : Int32} {p2 : Int32} {Q : (Int32 → cS → Nat → Nat → Prop)} (hw : cW sa R base s) (h : C_Pr_hexNumber sa p0 p1 p2 s kc ks Q) (k : ∀ r s' kc' ks', cW sa R base s' → Q r s' kc' ks' → Rt (some (.int r)) (cM R s') kc' ks') : kP_Pr_hexNumber base sa [va_rf p0, .int p1, .int p2] (cM R s) kc ks Rt := by
  refine ⟨by cases p0 <;> exact Nat.le_of_ble_eq_true rfl, fun G hG => ?_⟩
  have eL : lv_args 0 [va_rf p0, .int p1, .int p2] = [(0, va_rf p0), (1, .int p1), (2, .int p2)] := by cases p0 <;> rfl
  rw [eL]
  have b21 : ∀ (a3 : Int32) (a4 : Int32) (s : cS) (kc ks : Nat), KK sa R base G 21 [(0, va_rf p0), (2, .int p2), (3, .int a3), (4, .int a4)] [] s kc ks (C_Pr_hexNumber_b21 sa p0 p2 a3 a4 s kc ks Q) := by
    have H : ∀ (P21 : (Int32 → Int32 → cS → Nat → Nat → Prop)) (hP21 : ∀ (a3 : Int32) (a4 : Int32) (s : cS) (kc ks : Nat), P21 a3 a4 s kc ks → cW sa R base s → G 21 [(0, va_rf p0), (2, .int p2), (3, .int a3), (4, .int a4)] [] (cM R s) kc ks) (a3 : Int32) (a4 : Int32) (s : cS) (kc ks : Nat), KK sa R base G 21 [(0, va_rf p0), (2, .int p2), (3, .int a3), (4, .int a4)] [] s kc ks (C_Pr_hexNumber_s21 sa p0 p2 a3 a4 s kc ks Q P21) := by
      intro P21 hP21
      have b97 : ∀ (a3 : Int32) (a4 : Int32) (a5 : Int32) (s : cS) (kc ks : Nat), KK sa R base G 97 [(0, va_rf p0), (2, .int p2), (3, .int a3), (4, .int a4), (5, .int a5)] [] s kc ks (C_Pr_hexNumber_b97 sa p0 p2 a3 a4 a5 s kc ks Q P21) := by
        intro a3 a4 a5 s kc ks
        refine kks hG rfl rfl ?_
        refine kk_ic hG rfl cc_i4 ?_
        refine kks hG rfl rfl ?_
        refine kks hG rfl rfl ?_
        refine kks hG rfl rfl ?_
        refine kk_st hG (L' := [(3, .int ((a3 <<< ((4 : Int32) &&& 31)) ||| a5)), (0, va_rf p0), (2, .int p2), (4, .int a4), (5, .int a5)]) rfl rfl (Nat.le_of_ble_eq_true rfl) rfl ?_
        refine kk_inc hG (L' := [(4, .int (a4 + (1 : Int32))), (3, .int ((a3 <<< ((4 : Int32) &&& 31)) ||| a5)), (0, va_rf p0), (2, .int p2), (5, .int a5)]) rfl (Nat.le_of_ble_eq_true rfl) rfl cc_i1 rfl ?_
        refine kk_go hG (t := 21) rfl rfl ?_
        exact kk_wl hG [2, 3, 1, 0] rfl (fun hw h => hP21 _ _ _ _ _ h hw)
      have b75 : ∀ (a3 : Int32) (a4 : Int32) (a5 : Int32) (s : cS) (kc ks : Nat), KK sa R base G 75 [(0, va_rf p0), (2, .int p2), (3, .int a3), (4, .int a4), (5, .int a5)] [] s kc ks (C_Pr_hexNumber_b75 sa p0 p2 a3 a4 a5 s kc ks Q P21) := by
        intro a3 a4 a5 s kc ks
        refine kks hG rfl rfl ?_
        refine kk_bi hG rfl cc_b65 ?_
        refine kk_ilt hG (t := 95) rfl rfl ?_ ?_
        · refine kk_ic hG rfl cc_im1 ?_
          exact kk_ri hG rfl rfl rfl k
        refine kks hG rfl rfl ?_
        refine kk_bi hG rfl cc_b70 ?_
        refine kk_igt hG (t := 95) rfl rfl ?_ ?_
        · refine kk_ic hG rfl cc_im1 ?_
          exact kk_ri hG rfl rfl rfl k
        refine kk_inc hG (L' := [(5, .int (a5 + ((-55) : Int32))), (0, va_rf p0), (2, .int p2), (3, .int a3), (4, .int a4)]) rfl (Nat.le_of_ble_eq_true rfl) rfl cc_im55 rfl ?_
        refine kk_go hG (t := 97) rfl rfl ?_
        exact kk_wl hG [1, 2, 3, 4, 0] rfl (b97 _ _ _ _ _ _)
      have b55 : ∀ (a3 : Int32) (a4 : Int32) (a5 : Int32) (s : cS) (kc ks : Nat), KK sa R base G 55 [(0, va_rf p0), (2, .int p2), (3, .int a3), (4, .int a4), (5, .int a5)] [] s kc ks (C_Pr_hexNumber_b55 sa p0 p2 a3 a4 a5 s kc ks Q P21) := by
        intro a3 a4 a5 s kc ks
        refine kks hG rfl rfl ?_
        refine kk_bi hG rfl cc_b97 ?_
        refine kk_ilt hG (t := 75) rfl rfl ?_ ?_
        · exact kk_wl hG [0, 1, 2, 3, 4] rfl (b75 _ _ _ _ _ _)
        refine kks hG rfl rfl ?_
        refine kk_bi hG rfl cc_b102 ?_
        refine kk_igt hG (t := 75) rfl rfl ?_ ?_
        · exact kk_wl hG [0, 1, 2, 3, 4] rfl (b75 _ _ _ _ _ _)
        refine kk_inc hG (L' := [(5, .int (a5 + ((-87) : Int32))), (0, va_rf p0), (2, .int p2), (3, .int a3), (4, .int a4)]) rfl (Nat.le_of_ble_eq_true rfl) rfl cc_im87 rfl ?_
        refine kk_go hG (t := 97) rfl rfl ?_
        exact kk_wl hG [1, 2, 3, 4, 0] rfl (b97 _ _ _ _ _ _)
      intro a3 a4 s kc ks
      refine kks hG rfl rfl ?_
      refine kks hG rfl rfl ?_
      refine kk_ige hG (t := 110) rfl rfl ?_ ?_
      · refine kks hG rfl rfl ?_
        exact kk_ri hG rfl rfl rfl k
      refine kk_aln hG (x := p0) rfl rfl ?_
      refine kks hG rfl rfl ?_
      refine kk_ob (fun b1 eb1 => ?_)
      subst eb1
      refine kk_cx (w := .int) hG 0 rfl rfl (Nat.le_of_ble_eq_true rfl) (by decide) rfl (st' := []) rfl (cats_le (Nat.le_of_ble_eq_true rfl)) (fun _ hw h k => kk_rcv h.1 (kc_By_at base sa hw h.2 k)) (fun r2 sr2 cr2 dr2 => ?_)
      refine kk_st hG (L' := [(5, .int r2), (0, va_rf (some b1)), (2, .int p2), (3, .int a3), (4, .int a4)]) rfl rfl (Nat.le_of_ble_eq_true rfl) rfl ?_
      refine kks hG rfl rfl ?_
      refine kk_bi hG rfl cc_b48 ?_
      refine kk_ilt hG (t := 55) rfl rfl ?_ ?_
      · exact kk_wl hG [1, 2, 3, 4, 0] rfl (b55 _ _ _ _ _ _)
      refine kks hG rfl rfl ?_
      refine kk_bi hG rfl cc_b57 ?_
      refine kk_igt hG (t := 55) rfl rfl ?_ ?_
      · exact kk_wl hG [1, 2, 3, 4, 0] rfl (b55 _ _ _ _ _ _)
      refine kk_inc hG (L' := [(5, .int (r2 + ((-48) : Int32))), (0, va_rf (some b1)), (2, .int p2), (3, .int a3), (4, .int a4)]) rfl (Nat.le_of_ble_eq_true rfl) rfl cc_im48 rfl ?_
      refine kk_go hG (t := 97) rfl rfl ?_
      exact kk_wl hG [1, 2, 3, 4, 0] rfl (b97 _ _ _ _ _ _)
    exact fun a3 a4 s kc ks hw h => h (fun a3 a4 s kc ks => cW sa R base s → G 21 [(0, va_rf p0), (2, .int p2), (3, .int a3), (4, .int a4)] [] (cM R s) kc ks) (fun a3 a4 s kc ks hs hw => H _ (fun _ _ _ _ _ hp hw => hp hw) a3 a4 s kc ks hw hs) hw
  refine (show KK sa R base G 0 [(0, va_rf p0), (1, .int p1), (2, .int p2)] [] s kc ks (C_Pr_hexNumber sa p0 p1 p2 s kc ks Q) from ?_) hw h
  refine kks hG rfl rfl ?_
  refine kks hG rfl rfl ?_
  refine kks hG rfl rfl ?_
  refine kk_ic hG rfl cc_i1 ?_
  refine kk_ilt hG (t := 14) rfl rfl ?_ ?_
  · refine kk_ic hG rfl cc_im1 ?_
    exact kk_ri hG rfl rfl rfl k
  refine kks hG rfl rfl ?_
  refine kks hG rfl rfl ?_
  refine kks hG rfl rfl ?_
  refine kk_ic hG rfl cc_i4 ?_
  refine kk_ile hG (t := 16) rfl rfl ?_ ?_
  · refine kk_ic hG rfl cc_i0 ?_
    refine kk_st hG (L' := [(3, .int (0 : Int32)), (0, va_rf p0), (1, .int p1), (2, .int p2)]) rfl rfl (Nat.le_of_ble_eq_true rfl) rfl ?_
    refine kks hG rfl rfl ?_
    refine kk_st hG (L' := [(4, .int p1), (3, .int (0 : Int32)), (0, va_rf p0), (1, .int p1), (2, .int p2)]) rfl rfl (Nat.le_of_ble_eq_true rfl) rfl ?_
    exact kk_wl hG [2, 4, 1, 0] rfl (b21 _ _ _ _ _)
  refine kk_ic hG rfl cc_im1 ?_
  exact kk_ri hG rfl rfl rfl k
def C_Pr_openGap_s67 (sa : Nat → Nat) (p0 : Nat) (p2 : Int32) (a3 : Int64) (a5 : Int64) (a7 : Int32) (s : cS) (kc ks : Nat) (Q : (Int32 → cS → Nat → Nat → Prop)) (P67 : (Int32 → cS → Nat → Nat → Prop)) : Prop := if a7 < p2 then (ob (gJ s 5 1 p0) (fun v5 => (ob (gJ s 5 2 p0) (fun v6 => (ob (pJ s 5 1 p0 ((v5 <<< ((Int32.toInt64 (16 : Int32)) &&& 63)) ||| (ush_L v6 (48 : Int32)))) (fun s7 => (ob (gJ s7 5 2 p0) (fun v8 => (ob (pJ s7 5 2 p0 (v8 <<< ((Int32.toInt64 (16 : Int32)) &&& 63))) (fun s9 => ((P67 (a7 + (1 : Int32)) s9 kc ks)))))))))))) else ((ob (gJ s 5 1 p0) (fun v1 => (ob (pJ s 5 1 p0 (v1 ||| a3)) (fun s2 => (ob (gJ s2 5 2 p0) (fun v3 => (ob (pJ s2 5 2 p0 (v3 ||| a5)) (fun s4 => (Q (1 : Int32) s4 kc ks))))))))))
def C_Pr_openGap_b67 (sa : Nat → Nat) (p0 : Nat) (p2 : Int32) (a3 : Int64) (a5 : Int64) (a7 : Int32) (s : cS) (kc ks : Nat) (Q : (Int32 → cS → Nat → Nat → Prop)) : Prop := ∀ P67 : (Int32 → cS → Nat → Nat → Prop), (∀ (a7 : Int32) (s : cS) (kc ks : Nat), C_Pr_openGap_s67 sa p0 p2 a3 a5 a7 s kc ks Q P67 → P67 a7 s kc ks) → P67 a7 s kc ks
def C_Pr_openGap (sa : Nat → Nat) (p0 : Nat) (p1 : Int32) (p2 : Int32) (s : cS) (kc ks : Nat) (Q : (Int32 → cS → Nat → Nat → Prop)) : Prop := ob (gJ s 5 1 p0) (fun v1 => (C_Pr_maskHigh sa ((128 : Int32) - ((16 : Int32) * p1)) s kc ks (fun r2 sr2 cr2 dr2 => (ob (gJ sr2 5 2 p0) (fun v3 => (C_Pr_maskLow sa ((128 : Int32) - ((16 : Int32) * p1)) sr2 cr2 dr2 (fun r4 sr4 cr4 dr4 => (ob (gJ sr4 5 1 p0) (fun v5 => (ob (pJ sr4 5 1 p0 (v5 ^^^ (v1 &&& (r2 ^^^ ((-1) : Int64))))) (fun s6 => (ob (gJ s6 5 2 p0) (fun v7 => (ob (pJ s6 5 2 p0 (v7 ^^^ (v3 &&& (r4 ^^^ ((-1) : Int64))))) (fun s8 => ((C_Pr_openGap_b67 sa p0 p2 (v1 &&& (r2 ^^^ ((-1) : Int64))) (v3 &&& (r4 ^^^ ((-1) : Int64))) (0 : Int32) s8 cr4 dr4 Q)))))))))))))))))
set_option maxRecDepth 100000 in
set_option maxHeartbeats 4000000 in
theorem kc_Pr_openGap (base : Nat) (sa : Nat → Nat) {R : pmM} {s : cS} {kc ks : Nat} {Rt : pmR} {p0 : Nat} {p1 : Int32} {p2 : Int32} {Q : (Int32 → cS → Nat → Nat → Prop)} (hw : cW sa R base s) (h : C_Pr_openGap sa p0 p1 p2 s kc ks Q) (k : ∀ r s' kc' ks', cW sa R base s' → Q r s' kc' ks' → Rt (some (.int r)) (cM R s') kc' ks') : kP_Pr_openGap base sa [.ref p0, .int p1, .int p2] (cM R s) kc ks Rt := by
  refine ⟨Nat.le_of_ble_eq_true rfl, fun G hG => ?_⟩
  have b67 : ∀ (a3 : Int64) (a5 : Int64) (a7 : Int32) (s : cS) (kc ks : Nat), KK sa R base G 67 [(0, va_rf (some p0)), (2, .int p2), (3, .long a3), (5, .long a5), (7, .int a7)] [] s kc ks (C_Pr_openGap_b67 sa p0 p2 a3 a5 a7 s kc ks Q) := by
    intro a3 a5
    have H : ∀ (P67 : (Int32 → cS → Nat → Nat → Prop)) (hP67 : ∀ (a7 : Int32) (s : cS) (kc ks : Nat), P67 a7 s kc ks → cW sa R base s → G 67 [(0, va_rf (some p0)), (2, .int p2), (3, .long a3), (5, .long a5), (7, .int a7)] [] (cM R s) kc ks) (a7 : Int32) (s : cS) (kc ks : Nat), KK sa R base G 67 [(0, va_rf (some p0)), (2, .int p2), (3, .long a3), (5, .long a5), (7, .int a7)] [] s kc ks (C_Pr_openGap_s67 sa p0 p2 a3 a5 a7 s kc ks Q P67) := by
      intro P67 hP67
      intro a7 s kc ks
      refine kks hG rfl rfl ?_
      refine kks hG rfl rfl ?_
      refine kk_ige hG (t := 109) rfl rfl ?_ ?_
      · refine kk_aln hG (x := (some p0)) rfl rfl ?_
        refine kk_dup hG (x := (some p0)) rfl ?_
        refine kk_gj hG (c := 5) (k := 1) (a := p0) rfl rfl rfl rfl (fun v1 => ?_)
        refine kks hG rfl rfl ?_
        refine kks hG rfl rfl ?_
        refine kk_pj hG (c := 5) (k := 1) (a := p0) rfl rfl rfl rfl (fun s2 => ?_)
        refine kk_aln hG (x := (some p0)) rfl rfl ?_
        refine kk_dup hG (x := (some p0)) rfl ?_
        refine kk_gj hG (c := 5) (k := 2) (a := p0) rfl rfl rfl rfl (fun v3 => ?_)
        refine kks hG rfl rfl ?_
        refine kks hG rfl rfl ?_
        refine kk_pj hG (c := 5) (k := 2) (a := p0) rfl rfl rfl rfl (fun s4 => ?_)
        refine kk_ic hG rfl cc_i1 ?_
        exact kk_ri hG rfl rfl rfl k
      refine kk_aln hG (x := (some p0)) rfl rfl ?_
      refine kk_aln hG (x := (some p0)) rfl rfl ?_
      refine kk_gj hG (c := 5) (k := 1) (a := p0) rfl rfl rfl rfl (fun v5 => ?_)
      refine kk_bi hG rfl cc_b16 ?_
      refine kks hG rfl rfl ?_
      refine kk_aln hG (x := (some p0)) rfl rfl ?_
      refine kk_gj hG (c := 5) (k := 2) (a := p0) rfl rfl rfl rfl (fun v6 => ?_)
      refine kk_bi hG rfl cc_b48 ?_
      refine kks hG rfl rfl ?_
      refine kks hG rfl rfl ?_
      refine kk_pj hG (c := 5) (k := 1) (a := p0) rfl rfl rfl rfl (fun s7 => ?_)
      refine kk_aln hG (x := (some p0)) rfl rfl ?_
      refine kk_dup hG (x := (some p0)) rfl ?_
      refine kk_gj hG (c := 5) (k := 2) (a := p0) rfl rfl rfl rfl (fun v8 => ?_)
      refine kk_bi hG rfl cc_b16 ?_
      refine kks hG rfl rfl ?_
      refine kk_pj hG (c := 5) (k := 2) (a := p0) rfl rfl rfl rfl (fun s9 => ?_)
      refine kk_inc hG (L' := [(7, .int (a7 + (1 : Int32))), (0, va_rf (some p0)), (2, .int p2), (3, .long a3), (5, .long a5)]) rfl (Nat.le_of_ble_eq_true rfl) rfl cc_i1 rfl ?_
      refine kk_go hG (t := 67) rfl rfl ?_
      exact kk_wl hG [1, 2, 3, 4, 0] rfl (fun hw h => hP67 _ _ _ _ h hw)
    exact fun a7 s kc ks hw h => h (fun a7 s kc ks => cW sa R base s → G 67 [(0, va_rf (some p0)), (2, .int p2), (3, .long a3), (5, .long a5), (7, .int a7)] [] (cM R s) kc ks) (fun a7 s kc ks hs hw => H _ (fun _ _ _ _ hp hw => hp hw) a7 s kc ks hw hs) hw
  refine (show KK sa R base G 0 [(0, va_rf (some p0)), (1, .int p1), (2, .int p2)] [] s kc ks (C_Pr_openGap sa p0 p1 p2 s kc ks Q) from ?_) hw h
  refine kk_aln hG (x := (some p0)) rfl rfl ?_
  refine kk_gj hG (c := 5) (k := 1) (a := p0) rfl rfl rfl rfl (fun v1 => ?_)
  refine kk_si hG rfl cc_s128 ?_
  refine kk_bi hG rfl cc_b16 ?_
  refine kks hG rfl rfl ?_
  refine kks hG rfl rfl ?_
  refine kks hG rfl rfl ?_
  refine kk_cx (w := .long) hG 2 rfl rfl (Nat.le_of_ble_eq_true rfl) (by decide) rfl (st' := [.long v1]) rfl (cats_le (Nat.le_of_ble_eq_true rfl)) (fun _ hw h k => kc_Pr_maskHigh base sa hw h k) (fun r2 sr2 cr2 dr2 => ?_)
  refine kk_l2 hG (v := ((-1) : Int64)) rfl rfl ?_
  refine kks hG rfl rfl ?_
  refine kks hG rfl rfl ?_
  refine kk_st hG (L' := [(3, .long (v1 &&& (r2 ^^^ ((-1) : Int64)))), (0, va_rf (some p0)), (1, .int p1), (2, .int p2)]) rfl rfl (Nat.le_of_ble_eq_true rfl) rfl ?_
  refine kk_aln hG (x := (some p0)) rfl rfl ?_
  refine kk_gj hG (c := 5) (k := 2) (a := p0) rfl rfl rfl rfl (fun v3 => ?_)
  refine kk_si hG rfl cc_s128 ?_
  refine kk_bi hG rfl cc_b16 ?_
  refine kks hG rfl rfl ?_
  refine kks hG rfl rfl ?_
  refine kks hG rfl rfl ?_
  refine kk_cx (w := .long) hG 2 rfl rfl (Nat.le_of_ble_eq_true rfl) (by decide) rfl (st' := [.long v3]) rfl (cats_le (Nat.le_of_ble_eq_true rfl)) (fun _ hw h k => kc_Pr_maskLow base sa hw h k) (fun r4 sr4 cr4 dr4 => ?_)
  refine kk_l2 hG (v := ((-1) : Int64)) rfl rfl ?_
  refine kks hG rfl rfl ?_
  refine kks hG rfl rfl ?_
  refine kk_st hG (L' := [(5, .long (v3 &&& (r4 ^^^ ((-1) : Int64)))), (3, .long (v1 &&& (r2 ^^^ ((-1) : Int64)))), (0, va_rf (some p0)), (1, .int p1), (2, .int p2)]) rfl rfl (Nat.le_of_ble_eq_true rfl) rfl ?_
  refine kk_aln hG (x := (some p0)) rfl rfl ?_
  refine kk_dup hG (x := (some p0)) rfl ?_
  refine kk_gj hG (c := 5) (k := 1) (a := p0) rfl rfl rfl rfl (fun v5 => ?_)
  refine kks hG rfl rfl ?_
  refine kks hG rfl rfl ?_
  refine kk_pj hG (c := 5) (k := 1) (a := p0) rfl rfl rfl rfl (fun s6 => ?_)
  refine kk_aln hG (x := (some p0)) rfl rfl ?_
  refine kk_dup hG (x := (some p0)) rfl ?_
  refine kk_gj hG (c := 5) (k := 2) (a := p0) rfl rfl rfl rfl (fun v7 => ?_)
  refine kks hG rfl rfl ?_
  refine kks hG rfl rfl ?_
  refine kk_pj hG (c := 5) (k := 2) (a := p0) rfl rfl rfl rfl (fun s8 => ?_)
  refine kk_ic hG rfl cc_i0 ?_
  refine kk_st hG (L' := [(7, .int (0 : Int32)), (5, .long (v3 &&& (r4 ^^^ ((-1) : Int64)))), (3, .long (v1 &&& (r2 ^^^ ((-1) : Int64)))), (0, va_rf (some p0)), (1, .int p1), (2, .int p2)]) rfl rfl (Nat.le_of_ble_eq_true rfl) rfl ?_
  exact kk_wl hG [3, 5, 2, 1, 0] rfl (b67 _ _ _ _ _ _)
