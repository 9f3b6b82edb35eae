/-! Methods as weakest preconditions, by program: Ch_addKeyEntry .. Ch_begin -/
def C_Ch_addKeyEntry (sa : Nat → Nat) (p0 : Nat) (p1 : Option Nat) (p2 : Int32) (p3 : Int32) (s : cS) (kc ks : Nat) (Q : (cS → Nat → Nat → Prop)) : Prop := ob p1 (fun b1 => (okO s 0 b1 ∧ C_By_addNumber sa b1 (65535 : Int64) (2 : Int32) s kc ks (fun sr2 cr2 dr2 => (okO sr2 0 b1 ∧ C_By_addNumber sa b1 (3 : Int64) (2 : Int32) sr2 cr2 dr2 (fun sr3 cr3 dr3 => (okO sr3 0 b1 ∧ C_By_addNumber sa b1 (0 : Int64) (2 : Int32) sr3 cr3 dr3 (fun sr4 cr4 dr4 => (ob (gP sr4 1 3 p0) (fun v5 => (ob v5 (fun b6 => (ob (rE sr4 .int b6 p2) (fun v7 => (okO sr4 0 b1 ∧ C_By_add sa b1 v7 sr4 cr4 dr4 (fun sr8 cr8 dr8 => (ob (gP sr8 1 4 p0) (fun v9 => (ob v9 (fun b10 => (ob (rE sr8 .int b10 p2) (fun v11 => (okO sr8 0 b1 ∧ C_By_add sa b1 v11 sr8 cr8 dr8 (fun sr12 cr12 dr12 => (okO sr12 0 b1 ∧ C_By_addNumber sa b1 (Int32.toInt64 p3) (4 : Int32) sr12 cr12 dr12 (fun sr13 cr13 dr13 => (okO sr13 0 b1 ∧ C_By_addZeros sa b1 (8 : Int32) sr13 cr13 dr13 (fun sr14 cr14 dr14 => (Q sr14 cr14 dr14))))))))))))))))))))))))))))
set_option maxRecDepth 100000 in
set_option maxHeartbeats 4000000 in
theorem kc_Ch_addKeyEntry (base : Nat) (sa : Nat → Nat) {R : pmM} {s : cS} {kc ks : Nat} {Rt : pmR} {p0 : Nat} {p1 : Option Nat} {p2 : Int32} {p3 : Int32} {Q : (cS → Nat → Nat → Prop)} (hw : cW sa R base s) (h : C_Ch_addKeyEntry sa p0 p1 p2 p3 s kc ks Q) (k : ∀ s' kc' ks', cW sa R base s' → Q s' kc' ks' → Rt none (cM R s') kc' ks') : kP_Ch_addKeyEntry base sa [.ref p0, va_rf p1, .int p2, .int p3] (cM R s) kc ks Rt := by
  refine ⟨by cases p1 <;> exact Nat.le_of_ble_eq_true rfl, fun G hG => ?_⟩
  have eL : lv_args 0 [.ref p0, va_rf p1, .int p2, .int p3] = [(0, va_rf (some p0)), (1, va_rf p1), (2, .int p2), (3, .int p3)] := by cases p1 <;> rfl
  rw [eL]
  refine (show KK sa R base G 0 [(0, va_rf (some p0)), (1, va_rf p1), (2, .int p2), (3, .int p3)] [] s kc ks (C_Ch_addKeyEntry sa p0 p1 p2 p3 s kc ks Q) from ?_) hw h
  refine kk_aln hG (x := p1) rfl rfl ?_
  refine kk_l2 hG (v := (65535 : Int64)) rfl rfl ?_
  refine kk_ic hG rfl cc_i2 ?_
  refine kk_ob (fun b1 eb1 => ?_)
  subst eb1
  refine kk_cv hG 0 rfl rfl (Nat.le_of_ble_eq_true rfl) (by decide) rfl (st' := []) rfl (cats_le (Nat.le_of_ble_eq_true rfl)) (fun _ hw h k => kk_rcv h.1 (kc_By_addNumber base sa hw h.2 k)) (fun sr2 cr2 dr2 => ?_)
  refine kk_aln hG (x := (some b1)) rfl rfl ?_
  refine kk_l2 hG (v := (3 : Int64)) rfl rfl ?_
  refine kk_ic hG rfl cc_i2 ?_
  refine kk_cv hG 0 rfl rfl (Nat.le_of_ble_eq_true rfl) (by decide) rfl (st' := []) rfl (cats_le (Nat.le_of_ble_eq_true rfl)) (fun _ hw h k => kk_rcv h.1 (kc_By_addNumber base sa hw h.2 k)) (fun sr3 cr3 dr3 => ?_)
  refine kk_aln hG (x := (some b1)) rfl rfl ?_
  refine kk_lc hG (c := 0) (v := 0) rfl rfl ?_
  refine kk_ic hG rfl cc_i2 ?_
  refine kk_cv hG 0 rfl rfl (Nat.le_of_ble_eq_true rfl) (by decide) rfl (st' := []) rfl (cats_le (Nat.le_of_ble_eq_true rfl)) (fun _ hw h k => kk_rcv h.1 (kc_By_addNumber base sa hw h.2 k)) (fun sr4 cr4 dr4 => ?_)
  refine kk_aln hG (x := (some b1)) rfl rfl ?_
  refine kk_aln hG (x := (some p0)) rfl rfl ?_
  refine kk_gp hG (c := 1) (k := 3) (a := p0) rfl rfl rfl rfl (fun v5 => ?_)
  refine kks hG rfl rfl ?_
  refine kk_ob (fun b6 eb6 => ?_)
  subst eb6
  refine kk_ia hG (a := b6) rfl (fun v7 => ?_)
  refine kk_cv hG 0 rfl rfl (Nat.le_of_ble_eq_true rfl) (by decide) rfl (st' := []) rfl (cats_le (Nat.le_of_ble_eq_true rfl)) (fun _ hw h k => kk_rcv h.1 (kc_By_add base sa hw h.2 k)) (fun sr8 cr8 dr8 => ?_)
  refine kk_aln hG (x := (some b1)) rfl rfl ?_
  refine kk_aln hG (x := (some p0)) rfl rfl ?_
  refine kk_gp hG (c := 1) (k := 4) (a := p0) rfl rfl rfl rfl (fun v9 => ?_)
  refine kks hG rfl rfl ?_
  refine kk_ob (fun b10 eb10 => ?_)
  subst eb10
  refine kk_ia hG (a := b10) rfl (fun v11 => ?_)
  refine kk_cv hG 0 rfl rfl (Nat.le_of_ble_eq_true rfl) (by decide) rfl (st' := []) rfl (cats_le (Nat.le_of_ble_eq_true rfl)) (fun _ hw h k => kk_rcv h.1 (kc_By_add base sa hw h.2 k)) (fun sr12 cr12 dr12 => ?_)
  refine kk_aln hG (x := (some b1)) rfl rfl ?_
  refine kks hG rfl rfl ?_
  refine kks hG rfl rfl ?_
  refine kk_ic hG rfl cc_i4 ?_
  refine kk_cv hG 0 rfl rfl (Nat.le_of_ble_eq_true rfl) (by decide) rfl (st' := []) rfl (cats_le (Nat.le_of_ble_eq_true rfl)) (fun _ hw h k => kk_rcv h.1 (kc_By_addNumber base sa hw h.2 k)) (fun sr13 cr13 dr13 => ?_)
  refine kk_aln hG (x := (some b1)) rfl rfl ?_
  refine kk_bi hG rfl cc_b8 ?_
  refine kk_cv hG 0 rfl rfl (Nat.le_of_ble_eq_true rfl) (by decide) rfl (st' := []) rfl (cats_le (Nat.le_of_ble_eq_true rfl)) (fun _ hw h k => kk_rcv h.1 (kc_By_addZeros base sa hw h.2 k)) (fun sr14 cr14 dr14 => ?_)
  exact kk_rv hG rfl rfl k
def C_Rr_openDraft_b143 (sa : Nat → Nat) (p1 : Option Nat) (a4 : Int32) (a5 : Option Nat) (s : cS) (kc ks : Nat) (Q : (Int32 → cS → Nat → Nat → Prop)) : Prop := if a4 = ((-1) : Int32) then (Q a4 s kc ks) else (ob p1 (fun b1 => (ob (gP s 4 6 b1) (fun v2 => (ob (gI s 4 15 b1) (fun v3 => (ob v2 (fun b4 => (okO s 1 b4 ∧ C_Ch_addKeyEntry sa b4 a5 a4 v3 s kc ks (fun sr5 cr5 dr5 => (ob (gI sr5 4 15 b1) (fun v6 => (ob (pI sr5 4 15 b1 (v6 + (1 : Int32))) (fun s7 => (Q a4 s7 cr5 dr5)))))))))))))))
def C_Rr_openDraft_b110 (sa : Nat → Nat) (p1 : Option Nat) (p2 : Int32) (a4 : Int32) (a5 : Option Nat) (u0 : Option Nat) (u1 : Int32) (s : cS) (kc ks : Nat) (Q : (Int32 → cS → Nat → Nat → Prop)) : Prop := ob u0 (fun b1 => (okO s 0 b1 ∧ C_By_add sa b1 u1 s kc ks (fun sr2 cr2 dr2 => (ob a5 (fun b3 => (okO sr2 0 b3 ∧ C_By_addZeros sa b3 (2 : Int32) sr2 cr2 dr2 (fun sr4 cr4 dr4 => (if p2 = (4 : Int32) then (ob p1 (fun b5 => (ob (gP sr4 4 6 b5) (fun v6 => (ob v6 (fun b7 => (ob (gI sr4 1 0 b7) (fun v8 => (if v8 = 0 then ((C_Rr_openDraft_b143 sa (some b5) a4 (some b3) sr4 cr4 dr4 Q)) else (ob (gP sr4 4 6 b5) (fun v9 => (ob v9 (fun b10 => (okO sr4 1 b10 ∧ C_Ch_addPasswordEntry sa b10 (some b3) sr4 cr4 dr4 (fun sr11 cr11 dr11 => ((C_Rr_openDraft_b143 sa (some b5) a4 (some b3) sr11 cr11 dr11 Q))))))))))))))))) else ((C_Rr_openDraft_b143 sa p1 a4 (some b3) sr4 cr4 dr4 Q))))))))))
def C_Rr_openDraft_b64 (sa : Nat → Nat) (p0 : Nat) (p1 : Option Nat) (p2 : Int32) (p3 : Int32) (a4 : Int32) (s : cS) (kc ks : Nat) (Q : (Int32 → cS → Nat → Nat → Prop)) : Prop := ob (gP s 9 0 p0) (fun v1 => (ob v1 (fun b2 => (ob (gP s 11 16 b2) (fun v3 => (ob v3 (fun b4 => (ob (gP s 2 0 b4) (fun v5 => (ob (gP s 9 0 p0) (fun v6 => (ob v6 (fun b7 => (ob (gP s 11 16 b7) (fun v8 => (ob v8 (fun b9 => (ob (pI s 2 4 b9 p2) (fun s10 => (ob v5 (fun b11 => (okO s10 0 b11 ∧ C_By_clear sa b11 s10 kc ks (fun sr12 cr12 dr12 => (okO sr12 0 b11 ∧ C_By_add sa b11 p3 sr12 cr12 dr12 (fun sr13 cr13 dr13 => (if p2 = (4 : Int32) then ((C_Rr_openDraft_b110 sa p1 p2 a4 (some b11) (some b11) (2 : Int32) sr13 cr13 dr13 Q)) else ((C_Rr_openDraft_b110 sa p1 p2 a4 (some b11) (some b11) (1 : Int32) sr13 cr13 dr13 Q))))))))))))))))))))))))))))
def C_Rr_openDraft (sa : Nat → Nat) (p0 : Nat) (p1 : Option Nat) (p2 : Int32) (p3 : Int32) (s : cS) (kc ks : Nat) (Q : (Int32 → cS → Nat → Nat → Prop)) : Prop := ob p1 (fun b1 => (ob (gP s 4 0 b1) (fun v2 => (ob v2 (fun b3 => (ob (gI s 3 4 b3) (fun v4 => (if v4 = 0 then (Q ((-2) : Int32) s kc ks) else (okO s 4 b1 ∧ C_Po_addressOf sa b1 p2 s kc ks (fun r5 sr5 cr5 dr5 => (if r5 = none then (Q ((-2) : Int32) sr5 cr5 dr5) else (if p2 = (4 : Int32) then (ob (gP sr5 4 6 b1) (fun v6 => (ob v6 (fun b7 => (ob (gI sr5 1 2 b7) (fun v8 => (if 0 < v8 then (ob (gP sr5 4 6 b1) (fun v9 => (ob (gP sr5 9 0 p0) (fun v10 => (ob v10 (fun b11 => (ob (gI sr5 11 5 b11) (fun v12 => (ob v9 (fun b13 => (okO sr5 1 b13 ∧ C_Ch_bearer sa b13 v12 sr5 cr5 dr5 (fun r14 sr14 cr14 dr14 => (if r14 = ((-1) : Int32) then (Q ((-2) : Int32) sr14 cr14 dr14) else ((C_Rr_openDraft_b64 sa p0 (some b1) p2 p3 r14 sr14 cr14 dr14 Q))))))))))))))) else ((C_Rr_openDraft_b64 sa p0 (some b1) p2 p3 ((-1) : Int32) sr5 cr5 dr5 Q))))))))) else ((C_Rr_openDraft_b64 sa p0 (some b1) p2 p3 ((-1) : Int32) sr5 cr5 dr5 Q))))))))))))))
set_option maxRecDepth 100000 in
set_option maxHeartbeats 4000000 in
theorem kc_Rr_openDraft (base : Nat) (sa : Nat → Nat) {R : pmM} {s : cS} {kc ks : Nat} {Rt : pmR} {p0 : Nat} {p1 : Option Nat} {p2 : Int32} {p3 : Int32} {Q : (Int32 → cS → Nat → Nat → Prop)} (hw : cW sa R base s) (h : C_Rr_openDraft sa p0 p1 p2 p3 s kc ks Q) (k : ∀ r s' kc' ks', cW sa R base s' → Q r s' kc' ks' → Rt (some (.int r)) (cM R s') kc' ks') : kP_Rr_openDraft base sa [.ref p0, va_rf p1, .int p2, .int p3] (cM R s) kc ks Rt := by
  refine ⟨by cases p1 <;> exact Nat.le_of_ble_eq_true rfl, fun G hG => ?_⟩
  have eL : lv_args 0 [.ref p0, va_rf p1, .int p2, .int p3] = [(0, va_rf (some p0)), (1, va_rf p1), (2, .int p2), (3, .int p3)] := by cases p1 <;> rfl
  rw [eL]
  have b143 : ∀ (a4 : Int32) (a5 : Option Nat) (s : cS) (kc ks : Nat), KK sa R base G 143 [(1, va_rf p1), (4, .int a4), (5, va_rf a5)] [] s kc ks (C_Rr_openDraft_b143 sa p1 a4 a5 s kc ks Q) := by
    intro a4 a5 s kc ks
    refine kks hG rfl rfl ?_
    refine kk_ic hG rfl cc_im1 ?_
    refine kk_ieq hG (t := 174) rfl rfl ?_ ?_
    · refine kks hG rfl rfl ?_
      exact kk_ri hG rfl rfl rfl k
    refine kk_aln hG (x := p1) rfl rfl ?_
    refine kk_ob (fun b1 eb1 => ?_)
    subst eb1
    refine kk_gp hG (c := 4) (k := 6) (a := b1) rfl rfl rfl rfl (fun v2 => ?_)
    refine kk_al hG (x := a5) rfl rfl ?_
    refine kks hG rfl rfl ?_
    refine kk_aln hG (x := (some b1)) rfl rfl ?_
    refine kk_gi hG (c := 4) (k := 15) (a := b1) rfl rfl rfl rfl (fun v3 => ?_)
    refine kk_ob (fun b4 eb4 => ?_)
    subst eb4
    refine kk_cv hG 0 rfl rfl (Nat.le_of_ble_eq_true rfl) (by decide) rfl (st' := []) rfl (cats_le (Nat.le_of_ble_eq_true rfl)) (fun _ hw h k => kk_rcv h.1 (kc_Ch_addKeyEntry base sa hw h.2 k)) (fun sr5 cr5 dr5 => ?_)
    refine kk_aln hG (x := (some b1)) rfl rfl ?_
    refine kk_dup hG (x := (some b1)) rfl ?_
    refine kk_gi hG (c := 4) (k := 15) (a := b1) rfl rfl rfl rfl (fun v6 => ?_)
    refine kk_ic hG rfl cc_i1 ?_
    refine kks hG rfl rfl ?_
    refine kk_pi hG (c := 4) (k := 15) (a := b1) rfl rfl rfl rfl (fun s7 => ?_)
    refine kks hG rfl rfl ?_
    exact kk_ri hG rfl rfl rfl k
  have b110 : ∀ (a4 : Int32) (a5 : Option Nat) (u0 : Option Nat) (u1 : Int32) (s : cS) (kc ks : Nat), KK sa R base G 110 [(1, va_rf p1), (2, .int p2), (4, .int a4), (5, va_rf a5)] [.int u1, va_rf u0] s kc ks (C_Rr_openDraft_b110 sa p1 p2 a4 a5 u0 u1 s kc ks Q) := by
    intro a4 a5 u0 u1 s kc ks
    refine kk_ob (fun b1 eb1 => ?_)
    subst eb1
    refine kk_cv hG 0 rfl rfl (Nat.le_of_ble_eq_true rfl) (by decide) rfl (st' := []) rfl (cats_le (Nat.le_of_ble_eq_true rfl)) (fun _ hw h k => kk_rcv h.1 (kc_By_add base sa hw h.2 k)) (fun sr2 cr2 dr2 => ?_)
    refine kk_al hG (x := a5) rfl rfl ?_
    refine kk_ic hG rfl cc_i2 ?_
    refine kk_ob (fun b3 eb3 => ?_)
    subst eb3
    refine kk_cv hG 0 rfl rfl (Nat.le_of_ble_eq_true rfl) (by decide) rfl (st' := []) rfl (cats_le (Nat.le_of_ble_eq_true rfl)) (fun _ hw h k => kk_rcv h.1 (kc_By_addZeros base sa hw h.2 k)) (fun sr4 cr4 dr4 => ?_)
    refine kks hG rfl rfl ?_
    refine kk_ic hG rfl cc_i4 ?_
    refine kk_ine hG (t := 143) rfl rfl ?_ ?_
    · exact kk_wl hG [0, 2, 3] rfl (b143 _ _ _ _ _)
    refine kk_aln hG (x := p1) rfl rfl ?_
    refine kk_ob (fun b5 eb5 => ?_)
    subst eb5
    refine kk_gp hG (c := 4) (k := 6) (a := b5) rfl rfl rfl rfl (fun v6 => ?_)
    refine kk_ob (fun b7 eb7 => ?_)
    subst eb7
    refine kk_gi hG (c := 1) (k := 0) (a := b7) rfl rfl rfl rfl (fun v8 => ?_)
    refine kk_zeq hG (t := 143) rfl rfl ?_ ?_
    · exact kk_wl hG [0, 2, 3] rfl (b143 _ _ _ _ _)
    refine kk_aln hG (x := (some b5)) rfl rfl ?_
    refine kk_gp hG (c := 4) (k := 6) (a := b5) rfl rfl rfl rfl (fun v9 => ?_)
    refine kk_al hG (x := (some b3)) rfl rfl ?_
    refine kk_ob (fun b10 eb10 => ?_)
    subst eb10
    refine kk_cv hG 0 rfl rfl (Nat.le_of_ble_eq_true rfl) (by decide) rfl (st' := []) rfl (cats_le (Nat.le_of_ble_eq_true rfl)) (fun _ hw h k => kk_rcv h.1 (kc_Ch_addPasswordEntry base sa hw h.2 k)) (fun sr11 cr11 dr11 => ?_)
    exact kk_wl hG [0, 2, 3] rfl (b143 _ _ _ _ _)
  have b64 : ∀ (a4 : Int32) (s : cS) (kc ks : Nat), KK sa R base G 64 [(0, va_rf (some p0)), (1, va_rf p1), (2, .int p2), (3, .int p3), (4, .int a4)] [] s kc ks (C_Rr_openDraft_b64 sa p0 p1 p2 p3 a4 s kc ks Q) := by
    intro a4 s kc ks
    refine kk_aln hG (x := (some p0)) rfl rfl ?_
    refine kk_gp hG (c := 9) (k := 0) (a := p0) rfl rfl rfl rfl (fun v1 => ?_)
    refine kk_ob (fun b2 eb2 => ?_)
    subst eb2
    refine kk_gp hG (c := 11) (k := 16) (a := b2) rfl rfl rfl rfl (fun v3 => ?_)
    refine kk_ob (fun b4 eb4 => ?_)
    subst eb4
    refine kk_gp hG (c := 2) (k := 0) (a := b4) rfl rfl rfl rfl (fun v5 => ?_)
    refine kk_as hG (x := v5) (L' := [(5, va_rf v5), (0, va_rf (some p0)), (1, va_rf p1), (2, .int p2), (3, .int p3), (4, .int a4)]) rfl (Nat.le_of_ble_eq_true rfl) rfl ?_
    refine kk_aln hG (x := (some p0)) rfl rfl ?_
    refine kk_gp hG (c := 9) (k := 0) (a := p0) rfl rfl rfl rfl (fun v6 => ?_)
    refine kk_ob (fun b7 eb7 => ?_)
    subst eb7
    refine kk_gp hG (c := 11) (k := 16) (a := b7) rfl rfl rfl rfl (fun v8 => ?_)
    refine kks hG rfl rfl ?_
    refine kk_ob (fun b9 eb9 => ?_)
    subst eb9
    refine kk_pi hG (c := 2) (k := 4) (a := b9) rfl rfl rfl rfl (fun s10 => ?_)
    refine kk_al hG (x := v5) rfl rfl ?_
    refine kk_ob (fun b11 eb11 => ?_)
    subst eb11
    refine kk_cv hG 0 rfl rfl (Nat.le_of_ble_eq_true rfl) (by decide) rfl (st' := []) rfl (cats_le (Nat.le_of_ble_eq_true rfl)) (fun _ hw h k => kk_rcv h.1 (kc_By_clear base sa hw h.2 k)) (fun sr12 cr12 dr12 => ?_)
    refine kk_al hG (x := (some b11)) rfl rfl ?_
    refine kks hG rfl rfl ?_
    refine kk_cv hG 0 rfl rfl (Nat.le_of_ble_eq_true rfl) (by decide) rfl (st' := []) rfl (cats_le (Nat.le_of_ble_eq_true rfl)) (fun _ hw h k => kk_rcv h.1 (kc_By_add base sa hw h.2 k)) (fun sr13 cr13 dr13 => ?_)
    refine kk_al hG (x := (some b11)) rfl rfl ?_
    refine kks hG rfl rfl ?_
    refine kk_ic hG rfl cc_i4 ?_
    refine kk_ine hG (t := 109) rfl rfl ?_ ?_
    · refine kk_ic hG rfl cc_i1 ?_
      exact kk_wl hG [2, 3, 5, 0] rfl (b110 _ _ _ _ _ _ _)
    refine kk_ic hG rfl cc_i2 ?_
    refine kk_go hG (t := 110) rfl rfl ?_
    exact kk_wl hG [2, 3, 5, 0] rfl (b110 _ _ _ _ _ _ _)
  refine (show KK sa R base G 0 [(0, va_rf (some p0)), (1, va_rf p1), (2, .int p2), (3, .int p3)] [] s kc ks (C_Rr_openDraft sa p0 p1 p2 p3 s kc ks Q) from ?_) hw h
  refine kk_ic hG rfl cc_im1 ?_
  refine kk_st hG (L' := [(4, .int ((-1) : Int32)), (0, va_rf (some p0)), (1, va_rf p1), (2, .int p2), (3, .int p3)]) rfl rfl (Nat.le_of_ble_eq_true rfl) rfl ?_
  refine kk_aln hG (x := p1) rfl rfl ?_
  refine kk_ob (fun b1 eb1 => ?_)
  subst eb1
  refine kk_gp hG (c := 4) (k := 0) (a := b1) rfl rfl rfl rfl (fun v2 => ?_)
  refine kk_ob (fun b3 eb3 => ?_)
  subst eb3
  refine kk_gi hG (c := 3) (k := 4) (a := b3) rfl rfl rfl rfl (fun v4 => ?_)
  refine kk_zeq hG (t := 21) rfl rfl ?_ ?_
  · refine kk_bi hG rfl cc_bm2 ?_
    exact kk_ri hG rfl rfl rfl k
  refine kk_aln hG (x := (some b1)) rfl rfl ?_
  refine kks hG rfl rfl ?_
  refine kk_cx (w := va_rf) hG 0 rfl rfl (Nat.le_of_ble_eq_true rfl) (by decide) rfl (st' := []) rfl (cats_le (Nat.le_of_ble_eq_true rfl)) (fun _ hw h k => kk_rcv h.1 (kc_Po_addressOf base sa hw h.2 k)) (fun r5 sr5 cr5 dr5 => ?_)
  refine kk_nnl hG (x := r5) (t := 24) rfl rfl ?_ ?_
  · refine kks hG rfl rfl ?_
    refine kk_ic hG rfl cc_i4 ?_
    refine kk_ine hG (t := 64) rfl rfl ?_ ?_
    · exact kk_wl hG [1, 2, 3, 4, 0] rfl (b64 _ _ _ _)
    refine kk_aln hG (x := (some b1)) rfl rfl ?_
    refine kk_gp hG (c := 4) (k := 6) (a := b1) rfl rfl rfl rfl (fun v6 => ?_)
    refine kk_ob (fun b7 eb7 => ?_)
    subst eb7
    refine kk_gi hG (c := 1) (k := 2) (a := b7) rfl rfl rfl rfl (fun v8 => ?_)
    refine kk_zle hG (t := 64) rfl rfl ?_ ?_
    · exact kk_wl hG [1, 2, 3, 4, 0] rfl (b64 _ _ _ _)
    refine kk_aln hG (x := (some b1)) rfl rfl ?_
    refine kk_gp hG (c := 4) (k := 6) (a := b1) rfl rfl rfl rfl (fun v9 => ?_)
    refine kk_aln hG (x := (some p0)) rfl rfl ?_
    refine kk_gp hG (c := 9) (k := 0) (a := p0) rfl rfl rfl rfl (fun v10 => ?_)
    refine kk_ob (fun b11 eb11 => ?_)
    subst eb11
    refine kk_gi hG (c := 11) (k := 5) (a := b11) rfl rfl rfl rfl (fun v12 => ?_)
    refine kk_ob (fun b13 eb13 => ?_)
    subst eb13
    refine kk_cx (w := .int) hG 0 rfl rfl (Nat.le_of_ble_eq_true rfl) (by decide) rfl (st' := []) rfl (cats_le (Nat.le_of_ble_eq_true rfl)) (fun _ hw h k => kk_rcv h.1 (kc_Ch_bearer base sa hw h.2 k)) (fun r14 sr14 cr14 dr14 => ?_)
    refine kk_st hG (L' := [(4, .int r14), (0, va_rf (some p0)), (1, va_rf (some b1)), (2, .int p2), (3, .int p3)]) rfl rfl (Nat.le_of_ble_eq_true rfl) rfl ?_
    refine kks hG rfl rfl ?_
    refine kk_ic hG rfl cc_im1 ?_
    refine kk_ine hG (t := 64) rfl rfl ?_ ?_
    · exact kk_wl hG [1, 2, 3, 4, 0] rfl (b64 _ _ _ _)
    refine kk_bi hG rfl cc_bm2 ?_
    exact kk_ri hG rfl rfl rfl k
  refine kk_bi hG rfl cc_bm2 ?_
  exact kk_ri hG rfl rfl rfl k
def C_By_setAt (sa : Nat → Nat) (p0 : Nat) (p1 : Int32) (p2 : Int32) (s : cS) (kc ks : Nat) (Q : (cS → Nat → Nat → Prop)) : Prop := if p1 < 0 then (Q s kc ks) else (ob (gI s 0 1 p0) (fun v1 => (if p1 < v1 then (ob (gP s 0 0 p0) (fun v2 => (ob v2 (fun b3 => (ob (wEb s b3 p1 (Int8.toInt32 (Int32.toInt8 p2))) (fun s4 => (Q s4 kc ks))))))) else (Q s kc ks))))
set_option maxRecDepth 100000 in
set_option maxHeartbeats 4000000 in
theorem kc_By_setAt (base : Nat) (sa : Nat → Nat) {R : pmM} {s : cS} {kc ks : Nat} {Rt : pmR} {p0 : Nat} {p1 : Int32} {p2 : Int32} {Q : (cS → Nat → Nat → Prop)} (hw : cW sa R base s) (h : C_By_setAt sa p0 p1 p2 s kc ks Q) (k : ∀ s' kc' ks', cW sa R base s' → Q s' kc' ks' → Rt none (cM R s') kc' ks') : kP_By_setAt base sa [.ref p0, .int p1, .int p2] (cM R s) kc ks Rt := by
  refine ⟨Nat.le_of_ble_eq_true rfl, fun G hG => ?_⟩
  refine (show KK sa R base G 0 [(0, va_rf (some p0)), (1, .int p1), (2, .int p2)] [] s kc ks (C_By_setAt sa p0 p1 p2 s kc ks Q) from ?_) hw h
  refine kks hG rfl rfl ?_
  refine kk_zlt hG (t := 20) rfl rfl ?_ ?_
  · exact kk_rv hG rfl rfl k
  refine kks hG rfl rfl ?_
  refine kk_aln hG (x := (some p0)) rfl rfl ?_
  refine kk_gi hG (c := 0) (k := 1) (a := p0) rfl rfl rfl rfl (fun v1 => ?_)
  refine kk_ige hG (t := 20) rfl rfl ?_ ?_
  · exact kk_rv hG rfl rfl k
  refine kk_aln hG (x := (some p0)) rfl rfl ?_
  refine kk_gp hG (c := 0) (k := 0) (a := p0) rfl rfl rfl rfl (fun v2 => ?_)
  refine kks hG rfl rfl ?_
  refine kks hG rfl rfl ?_
  refine kks hG rfl rfl ?_
  refine kk_ob (fun b3 eb3 => ?_)
  subst eb3
  refine kk_bs hG (a := b3) rfl (fun s4 => ?_)
  exact kk_rv hG rfl rfl k
def C_Ch_addWork (sa : Nat → Nat) (p0 : Nat) (p1 : Option Nat) (p2 : Int32) (s : cS) (kc ks : Nat) (Q : (cS → Nat → Nat → Prop)) : Prop := ob p1 (fun b1 => (ob (aL s b1) (fun v2 => (if v2 < p2 then (Q s kc ks) else (ob (gI s 1 9 p0) (fun v3 => (ob (gP s 1 8 p0) (fun v4 => (ob v4 (fun b5 => (ob (aL s b5) (fun v6 => (if v6 < (v3 + p2) then (Q s kc ks) else (ob (gP s 1 8 p0) (fun v7 => (ob (gI s 1 9 p0) (fun v8 => (ob v7 (fun b9 => (ob (cpE s b1 (0 : Int32) b9 v8 p2) (fun s10 => (ob (gI s10 1 9 p0) (fun v11 => (ob (pI s10 1 9 p0 (v11 + p2)) (fun s12 => (Q s12 kc ks))))))))))))))))))))))))))
set_option maxRecDepth 100000 in
set_option maxHeartbeats 4000000 in
theorem kc_Ch_addWork (base : Nat) (sa : Nat → Nat) {R : pmM} {s : cS} {kc ks : Nat} {Rt : pmR} {p0 : Nat} {p1 : Option Nat} {p2 : Int32} {Q : (cS → Nat → Nat → Prop)} (hw : cW sa R base s) (h : C_Ch_addWork sa p0 p1 p2 s kc ks Q) (k : ∀ s' kc' ks', cW sa R base s' → Q s' kc' ks' → Rt none (cM R s') kc' ks') : kP_Ch_addWork base sa [.ref p0, va_rf p1, .int p2] (cM R s) kc ks Rt := by
  refine ⟨by cases p1 <;> exact Nat.le_of_ble_eq_true rfl, fun G hG => ?_⟩
  have eL : lv_args 0 [.ref p0, va_rf p1, .int p2] = [(0, va_rf (some p0)), (1, va_rf p1), (2, .int p2)] := by cases p1 <;> rfl
  rw [eL]
  refine (show KK sa R base G 0 [(0, va_rf (some p0)), (1, va_rf p1), (2, .int p2)] [] s kc ks (C_Ch_addWork sa p0 p1 p2 s kc ks Q) from ?_) hw h
  refine kks hG rfl rfl ?_
  refine kk_aln hG (x := p1) rfl rfl ?_
  refine kk_ob (fun b1 eb1 => ?_)
  subst eb1
  refine kk_len hG (a := b1) rfl (fun v2 => ?_)
  refine kk_igt hG (t := 44) rfl rfl ?_ ?_
  · exact kk_rv hG rfl rfl k
  refine kk_aln hG (x := (some p0)) rfl rfl ?_
  refine kk_gi hG (c := 1) (k := 9) (a := p0) rfl rfl rfl rfl (fun v3 => ?_)
  refine kks hG rfl rfl ?_
  refine kks hG rfl rfl ?_
  refine kk_aln hG (x := (some p0)) rfl rfl ?_
  refine kk_gp hG (c := 1) (k := 8) (a := p0) rfl rfl rfl rfl (fun v4 => ?_)
  refine kk_ob (fun b5 eb5 => ?_)
  subst eb5
  refine kk_len hG (a := b5) rfl (fun v6 => ?_)
  refine kk_igt hG (t := 44) rfl rfl ?_ ?_
  · exact kk_rv hG rfl rfl k
  refine kk_aln hG (x := (some b1)) rfl rfl ?_
  refine kk_ic hG rfl cc_i0 ?_
  refine kk_aln hG (x := (some p0)) rfl rfl ?_
  refine kk_gp hG (c := 1) (k := 8) (a := p0) rfl rfl rfl rfl (fun v7 => ?_)
  refine kk_aln hG (x := (some p0)) rfl rfl ?_
  refine kk_gi hG (c := 1) (k := 9) (a := p0) rfl rfl rfl rfl (fun v8 => ?_)
  refine kks hG rfl rfl ?_
  refine kk_ob (fun b9 eb9 => ?_)
  subst eb9
  refine kk_acp hG (a := b1) (b := b9) rfl rfl (Nat.le_of_ble_eq_true rfl) (fun s10 => ?_)
  refine kk_aln hG (x := (some p0)) rfl rfl ?_
  refine kk_dup hG (x := (some p0)) rfl ?_
  refine kk_gi hG (c := 1) (k := 9) (a := p0) rfl rfl rfl rfl (fun v11 => ?_)
  refine kks hG rfl rfl ?_
  refine kks hG rfl rfl ?_
  refine kk_pi hG (c := 1) (k := 9) (a := p0) rfl rfl rfl rfl (fun s12 => ?_)
  exact kk_rv hG rfl rfl k
def C_Ch_addSecret_b49 (sa : Nat → Nat) (p0 : Nat) (p1 : Int32) (p2 : Int32) (p3 : Int32) (a4 : Int32) (u0 : Option Nat) (u1 : Int32) (u2 : Int32) (s : cS) (kc ks : Nat) (Q : (cS → Nat → Nat → Prop)) (P3 : (Int32 → cS → Nat → Nat → Prop)) : Prop := ob u0 (fun b1 => (ob (wEb s b1 u1 (Int8.toInt32 (Int32.toInt8 (u2 ^^^ p2)))) (fun s2 => (ob (gI s2 1 9 p0) (fun v3 => (ob (pI s2 1 9 p0 (v3 + (1 : Int32))) (fun s4 => ((P3 (a4 + (1 : Int32)) s4 kc ks)))))))))
def C_Ch_addSecret_s3 (sa : Nat → Nat) (p0 : Nat) (p1 : Int32) (p2 : Int32) (p3 : Int32) (a4 : Int32) (s : cS) (kc ks : Nat) (Q : (cS → Nat → Nat → Prop)) (P3 : (Int32 → cS → Nat → Nat → Prop)) : Prop := if a4 < p3 then (ob (gI s 1 9 p0) (fun v1 => (ob (gP s 1 8 p0) (fun v2 => (ob v2 (fun b3 => (ob (aL s b3) (fun v4 => (if v1 < v4 then (ob (gP s 1 8 p0) (fun v5 => (ob (gI s 1 9 p0) (fun v6 => (if a4 < (16 : Int32) then (ob (gP s 1 7 p0) (fun v7 => (ob v7 (fun b8 => (ob (rQ s b8 p1) (fun v9 => (ob v9 (fun b10 => (ob (rE s .byte b10 a4) (fun v11 => ((C_Ch_addSecret_b49 sa p0 p1 p2 p3 a4 v5 v6 v11 s kc ks Q P3)))))))))))) else ((C_Ch_addSecret_b49 sa p0 p1 p2 p3 a4 v5 v6 (0 : Int32) s kc ks Q P3))))))) else ((Q s kc ks))))))))))) else ((Q s kc ks))
def C_Ch_addSecret_b3 (sa : Nat → Nat) (p0 : Nat) (p1 : Int32) (p2 : Int32) (p3 : Int32) (a4 : Int32) (s : cS) (kc ks : Nat) (Q : (cS → Nat → Nat → Prop)) : Prop := ∀ P3 : (Int32 → cS → Nat → Nat → Prop), (∀ (a4 : Int32) (s : cS) (kc ks : Nat), C_Ch_addSecret_s3 sa p0 p1 p2 p3 a4 s kc ks Q P3 → P3 a4 s kc ks) → P3 a4 s kc ks
def C_Ch_addSecret (sa : Nat → Nat) (p0 : Nat) (p1 : Int32) (p2 : Int32) (p3 : Int32) (s : cS) (kc ks : Nat) (Q : (cS → Nat → Nat → Prop)) : Prop := (C_Ch_addSecret_b3 sa p0 p1 p2 p3 (0 : Int32) s kc ks Q)
set_option maxRecDepth 100000 in
set_option maxHeartbeats 4000000 in
theorem kc_Ch_addSecret (base : Nat) (sa : Nat → Nat) {R : pmM} {s : cS} {kc ks : Nat} {Rt : pmR} {p0 : Nat} {p1 : Int32} {p2 : Int32} {p3 : Int32} {Q : (cS → Nat → Nat → Prop)} (hw : cW sa R base s) (h : C_Ch_addSecret sa p0 p1 p2 p3 s kc ks Q) (k : ∀ s' kc' ks', cW sa R base s' → Q s' kc' ks' → Rt none (cM R s') kc' ks') : kP_Ch_addSecret base sa [.ref p0, .int p1, .int p2, .int p3] (cM R s) kc ks Rt := by
  refine ⟨Nat.le_of_ble_eq_true rfl, fun G hG => ?_⟩
  have b3 : ∀ (a4 : Int32) (s : cS) (kc ks : Nat), KK sa R base G 3 [(0, va_rf (some p0)), (1, .int p1), (2, .int p2), (3, .int p3), (4, .int a4)] [] s kc ks (C_Ch_addSecret_b3 sa p0 p1 p2 p3 a4 s kc ks Q) := by
    have H : ∀ (P3 : (Int32 → cS → Nat → Nat → Prop)) (hP3 : ∀ (a4 : Int32) (s : cS) (kc ks : Nat), P3 a4 s kc ks → cW sa R base s → G 3 [(0, va_rf (some p0)), (1, .int p1), (2, .int p2), (3, .int p3), (4, .int a4)] [] (cM R s) kc ks) (a4 : Int32) (s : cS) (kc ks : Nat), KK sa R base G 3 [(0, va_rf (some p0)), (1, .int p1), (2, .int p2), (3, .int p3), (4, .int a4)] [] s kc ks (C_Ch_addSecret_s3 sa p0 p1 p2 p3 a4 s kc ks Q P3) := by
      intro P3 hP3
      have b49 : ∀ (a4 : Int32) (u0 : Option Nat) (u1 : Int32) (u2 : Int32) (s : cS) (kc ks : Nat), KK sa R base G 49 [(0, va_rf (some p0)), (1, .int p1), (2, .int p2), (3, .int p3), (4, .int a4)] [.int u2, .int u1, va_rf u0] s kc ks (C_Ch_addSecret_b49 sa p0 p1 p2 p3 a4 u0 u1 u2 s kc ks Q P3) := by
        intro a4 u0 u1 u2 s kc ks
        refine kks hG rfl rfl ?_
        refine kks hG rfl rfl ?_
        refine kks hG rfl rfl ?_
        refine kk_ob (fun b1 eb1 => ?_)
        subst eb1
        refine kk_bs hG (a := b1) rfl (fun s2 => ?_)
        refine kk_aln hG (x := (some p0)) rfl rfl ?_
        refine kk_dup hG (x := (some p0)) rfl ?_
        refine kk_gi hG (c := 1) (k := 9) (a := p0) rfl rfl rfl rfl (fun v3 => ?_)
        refine kk_ic hG rfl cc_i1 ?_
        refine kks hG rfl rfl ?_
        refine kk_pi hG (c := 1) (k := 9) (a := p0) rfl rfl rfl rfl (fun s4 => ?_)
        refine kk_inc hG (L' := [(4, .int (a4 + (1 : Int32))), (0, va_rf (some p0)), (1, .int p1), (2, .int p2), (3, .int p3)]) rfl (Nat.le_of_ble_eq_true rfl) rfl cc_i1 rfl ?_
        refine kk_go hG (t := 3) rfl rfl ?_
        exact kk_wl hG [1, 2, 3, 4, 0] rfl (fun hw h => hP3 _ _ _ _ h hw)
      intro a4 s kc ks
      refine kks hG rfl rfl ?_
      refine kks hG rfl rfl ?_
      refine kk_ige hG (t := 69) rfl rfl ?_ ?_
      · exact kk_rv hG rfl rfl k
      refine kk_aln hG (x := (some p0)) rfl rfl ?_
      refine kk_gi hG (c := 1) (k := 9) (a := p0) rfl rfl rfl rfl (fun v1 => ?_)
      refine kk_aln hG (x := (some p0)) rfl rfl ?_
      refine kk_gp hG (c := 1) (k := 8) (a := p0) rfl rfl rfl rfl (fun v2 => ?_)
      refine kk_ob (fun b3 eb3 => ?_)
      subst eb3
      refine kk_len hG (a := b3) rfl (fun v4 => ?_)
      refine kk_ige hG (t := 69) rfl rfl ?_ ?_
      · exact kk_rv hG rfl rfl k
      refine kk_aln hG (x := (some p0)) rfl rfl ?_
      refine kk_gp hG (c := 1) (k := 8) (a := p0) rfl rfl rfl rfl (fun v5 => ?_)
      refine kk_aln hG (x := (some p0)) rfl rfl ?_
      refine kk_gi hG (c := 1) (k := 9) (a := p0) rfl rfl rfl rfl (fun v6 => ?_)
      refine kks hG rfl rfl ?_
      refine kk_bi hG rfl cc_b16 ?_
      refine kk_ige hG (t := 48) rfl rfl ?_ ?_
      · refine kk_ic hG rfl cc_i0 ?_
        exact kk_wl hG [0, 1, 2, 3, 4] rfl (b49 _ _ _ _ _ _ _)
      refine kk_aln hG (x := (some p0)) rfl rfl ?_
      refine kk_gp hG (c := 1) (k := 7) (a := p0) rfl rfl rfl rfl (fun v7 => ?_)
      refine kks hG rfl rfl ?_
      refine kk_ob (fun b8 eb8 => ?_)
      subst eb8
      refine kk_aa hG (a := b8) rfl (fun v9 => ?_)
      refine kks hG rfl rfl ?_
      refine kk_ob (fun b10 eb10 => ?_)
      subst eb10
      refine kk_ba hG (a := b10) rfl (fun v11 => ?_)
      refine kk_go hG (t := 49) rfl rfl ?_
      exact kk_wl hG [0, 1, 2, 3, 4] rfl (b49 _ _ _ _ _ _ _)
    exact fun a4 s kc ks hw h => h (fun a4 s kc ks => cW sa R base s → G 3 [(0, va_rf (some p0)), (1, .int p1), (2, .int p2), (3, .int p3), (4, .int a4)] [] (cM R s) kc ks) (fun a4 s kc ks hs hw => H _ (fun _ _ _ _ hp hw => hp hw) a4 s kc ks hw hs) hw
  refine (show KK sa R base G 0 [(0, va_rf (some p0)), (1, .int p1), (2, .int p2), (3, .int p3)] [] s kc ks (C_Ch_addSecret sa p0 p1 p2 p3 s kc ks Q) from ?_) hw h
  refine kk_ic hG rfl cc_i0 ?_
  refine kk_st hG (L' := [(4, .int (0 : Int32)), (0, va_rf (some p0)), (1, .int p1), (2, .int p2), (3, .int p3)]) rfl rfl (Nat.le_of_ble_eq_true rfl) rfl ?_
  exact kk_wl hG [1, 2, 3, 4, 0] rfl (b3 _ _ _ _)
def C_Ch_fillBlock_b107 (sa : Nat → Nat) (p0 : Nat) (p1 : Int32) (a2 : Int32) (a3 : Int32) (a4 : Int32) (u0 : Option Nat) (u1 : Int32) (s : cS) (kc ks : Nat) (Q : (cS → Nat → Nat → Prop)) (P77 : (Int32 → cS → Nat → Nat → Prop)) : Prop := ob u0 (fun b1 => (ob (wEb s b1 u1 (Int8.toInt32 (Int32.toInt8 (ush_I a2 ((8 : Int32) * a4))))) (fun s2 => ((P77 (a4 + (1 : Int32)) s2 kc ks)))))
def C_Ch_fillBlock_s77 (sa : Nat → Nat) (p0 : Nat) (p1 : Int32) (a2 : Int32) (a3 : Int32) (a4 : Int32) (s : cS) (kc ks : Nat) (Q : (cS → Nat → Nat → Prop)) (P77 : (Int32 → cS → Nat → Nat → Prop)) : Prop := if a4 < (4 : Int32) then (ob (gP s 1 8 p0) (fun v2 => (if p1 = 0 then ((C_Ch_fillBlock_b107 sa p0 p1 a2 a3 a4 v2 ((a3 - (8 : Int32)) + a4) s kc ks Q P77)) else ((C_Ch_fillBlock_b107 sa p0 p1 a2 a3 a4 v2 ((a3 - (1 : Int32)) - a4) s kc ks Q P77))))) else ((ob (pI s 1 9 p0 a3) (fun s1 => (Q s1 kc ks))))
def C_Ch_fillBlock_b77 (sa : Nat → Nat) (p0 : Nat) (p1 : Int32) (a2 : Int32) (a3 : Int32) (a4 : Int32) (s : cS) (kc ks : Nat) (Q : (cS → Nat → Nat → Prop)) : Prop := ∀ P77 : (Int32 → cS → Nat → Nat → Prop), (∀ (a4 : Int32) (s : cS) (kc ks : Nat), C_Ch_fillBlock_s77 sa p0 p1 a2 a3 a4 s kc ks Q P77 → P77 a4 s kc ks) → P77 a4 s kc ks
def C_Ch_fillBlock_s54 (sa : Nat → Nat) (p0 : Nat) (p1 : Int32) (a2 : Int32) (a3 : Int32) (a4 : Int32) (s : cS) (kc ks : Nat) (Q : (cS → Nat → Nat → Prop)) (P54 : (Int32 → cS → Nat → Nat → Prop)) : Prop := if a4 < a3 then (ob (gP s 1 8 p0) (fun v1 => (ob v1 (fun b2 => (ob (wEb s b2 a4 (0 : Int32)) (fun s3 => ((P54 (a4 + (1 : Int32)) s3 kc ks)))))))) else (((C_Ch_fillBlock_b77 sa p0 p1 a2 a3 (0 : Int32) s kc ks Q)))
def C_Ch_fillBlock_b54 (sa : Nat → Nat) (p0 : Nat) (p1 : Int32) (a2 : Int32) (a3 : Int32) (a4 : Int32) (s : cS) (kc ks : Nat) (Q : (cS → Nat → Nat → Prop)) : Prop := ∀ P54 : (Int32 → cS → Nat → Nat → Prop), (∀ (a4 : Int32) (s : cS) (kc ks : Nat), C_Ch_fillBlock_s54 sa p0 p1 a2 a3 a4 s kc ks Q P54 → P54 a4 s kc ks) → P54 a4 s kc ks
def C_Ch_fillBlock (sa : Nat → Nat) (p0 : Nat) (p1 : Int32) (s : cS) (kc ks : Nat) (Q : (cS → Nat → Nat → Prop)) : Prop := ob (gI s 1 9 p0) (fun v1 => (ob (gI s 1 9 p0) (fun v2 => (ob (gP s 1 8 p0) (fun v3 => (ob v3 (fun b4 => (ob (aL s b4) (fun v5 => (if v5 < ((((v2 + (8 : Int32)) / (64 : Int32)) * (64 : Int32)) + (64 : Int32)) then (Q s kc ks) else (ob (gP s 1 8 p0) (fun v6 => (ob (gI s 1 9 p0) (fun v7 => (ob v6 (fun b8 => (ob (wEb s b8 v7 ((-128) : Int32)) (fun s9 => (ob (gI s9 1 9 p0) (fun v10 => ((C_Ch_fillBlock_b54 sa p0 p1 (v1 * (8 : Int32)) ((((v2 + (8 : Int32)) / (64 : Int32)) * (64 : Int32)) + (64 : Int32)) (v10 + (1 : Int32)) s9 kc ks Q))))))))))))))))))))))
set_option maxRecDepth 100000 in
set_option maxHeartbeats 4000000 in
theorem kc_Ch_fillBlock (base : Nat) (sa : Nat → Nat) {R : pmM} {s : cS} {kc ks : Nat} {Rt : pmR} {p0 : Nat} {p1 : Int32} {Q : (cS → Nat → Nat → Prop)} (hw : cW sa R base s) (h : C_Ch_fillBlock sa p0 p1 s kc ks Q) (k : ∀ s' kc' ks', cW sa R base s' → Q s' kc' ks' → Rt none (cM R s') kc' ks') : kP_Ch_fillBlock base sa [.ref p0, .int p1] (cM R s) kc ks Rt := by
  refine ⟨Nat.le_of_ble_eq_true rfl, fun G hG => ?_⟩
  have b77 : ∀ (a2 : Int32) (a3 : Int32) (a4 : Int32) (s : cS) (kc ks : Nat), KK sa R base G 77 [(0, va_rf (some p0)), (1, .int p1), (2, .int a2), (3, .int a3), (4, .int a4)] [] s kc ks (C_Ch_fillBlock_b77 sa p0 p1 a2 a3 a4 s kc ks Q) := by
    intro a2 a3
    have H : ∀ (P77 : (Int32 → cS → Nat → Nat → Prop)) (hP77 : ∀ (a4 : Int32) (s : cS) (kc ks : Nat), P77 a4 s kc ks → cW sa R base s → G 77 [(0, va_rf (some p0)), (1, .int p1), (2, .int a2), (3, .int a3), (4, .int a4)] [] (cM R s) kc ks) (a4 : Int32) (s : cS) (kc ks : Nat), KK sa R base G 77 [(0, va_rf (some p0)), (1, .int p1), (2, .int a2), (3, .int a3), (4, .int a4)] [] s kc ks (C_Ch_fillBlock_s77 sa p0 p1 a2 a3 a4 s kc ks Q P77) := by
      intro P77 hP77
      have b107 : ∀ (a4 : Int32) (u0 : Option Nat) (u1 : Int32) (s : cS) (kc ks : Nat), KK sa R base G 107 [(0, va_rf (some p0)), (1, .int p1), (2, .int a2), (3, .int a3), (4, .int a4)] [.int u1, va_rf u0] s kc ks (C_Ch_fillBlock_b107 sa p0 p1 a2 a3 a4 u0 u1 s kc ks Q P77) := by
        intro a4 u0 u1 s kc ks
        refine kks hG rfl rfl ?_
        refine kk_bi hG rfl cc_b8 ?_
        refine kks hG rfl rfl ?_
        refine kks hG rfl rfl ?_
        refine kks hG rfl rfl ?_
        refine kks hG rfl rfl ?_
        refine kk_ob (fun b1 eb1 => ?_)
        subst eb1
        refine kk_bs hG (a := b1) rfl (fun s2 => ?_)
        refine kk_inc hG (L' := [(4, .int (a4 + (1 : Int32))), (0, va_rf (some p0)), (1, .int p1), (2, .int a2), (3, .int a3)]) rfl (Nat.le_of_ble_eq_true rfl) rfl cc_i1 rfl ?_
        refine kk_go hG (t := 77) rfl rfl ?_
        exact kk_wl hG [1, 2, 3, 4, 0] rfl (fun hw h => hP77 _ _ _ _ h hw)
      intro a4 s kc ks
      refine kks hG rfl rfl ?_
      refine kk_ic hG rfl cc_i4 ?_
      refine kk_ige hG (t := 122) rfl rfl ?_ ?_
      · refine kk_aln hG (x := (some p0)) rfl rfl ?_
        refine kks hG rfl rfl ?_
        refine kk_pi hG (c := 1) (k := 9) (a := p0) rfl rfl rfl rfl (fun s1 => ?_)
        exact kk_rv hG rfl rfl k
      refine kk_aln hG (x := (some p0)) rfl rfl ?_
      refine kk_gp hG (c := 1) (k := 8) (a := p0) rfl rfl rfl rfl (fun v2 => ?_)
      refine kks hG rfl rfl ?_
      refine kk_zeq hG (t := 100) rfl rfl ?_ ?_
      · refine kks hG rfl rfl ?_
        refine kk_bi hG rfl cc_b8 ?_
        refine kks hG rfl rfl ?_
        refine kks hG rfl rfl ?_
        refine kks hG rfl rfl ?_
        exact kk_wl hG [0, 1, 2, 3, 4] rfl (b107 _ _ _ _ _ _)
      refine kks hG rfl rfl ?_
      refine kk_ic hG rfl cc_i1 ?_
      refine kks hG rfl rfl ?_
      refine kks hG rfl rfl ?_
      refine kks hG rfl rfl ?_
      refine kk_go hG (t := 107) rfl rfl ?_
      exact kk_wl hG [0, 1, 2, 3, 4] rfl (b107 _ _ _ _ _ _)
    exact fun a4 s kc ks hw h => h (fun a4 s kc ks => cW sa R base s → G 77 [(0, va_rf (some p0)), (1, .int p1), (2, .int a2), (3, .int a3), (4, .int a4)] [] (cM R s) kc ks) (fun a4 s kc ks hs hw => H _ (fun _ _ _ _ hp hw => hp hw) a4 s kc ks hw hs) hw
  have b54 : ∀ (a2 : Int32) (a3 : Int32) (a4 : Int32) (s : cS) (kc ks : Nat), KK sa R base G 54 [(0, va_rf (some p0)), (1, .int p1), (2, .int a2), (3, .int a3), (4, .int a4)] [] s kc ks (C_Ch_fillBlock_b54 sa p0 p1 a2 a3 a4 s kc ks Q) := by
    intro a2 a3
    have H : ∀ (P54 : (Int32 → cS → Nat → Nat → Prop)) (hP54 : ∀ (a4 : Int32) (s : cS) (kc ks : Nat), P54 a4 s kc ks → cW sa R base s → G 54 [(0, va_rf (some p0)), (1, .int p1), (2, .int a2), (3, .int a3), (4, .int a4)] [] (cM R s) kc ks) (a4 : Int32) (s : cS) (kc ks : Nat), KK sa R base G 54 [(0, va_rf (some p0)), (1, .int p1), (2, .int a2), (3, .int a3), (4, .int a4)] [] s kc ks (C_Ch_fillBlock_s54 sa p0 p1 a2 a3 a4 s kc ks Q P54) := by
      intro P54 hP54
      intro a4 s kc ks
      refine kks hG rfl rfl ?_
      refine kks hG rfl rfl ?_
      refine kk_ige hG (t := 74) rfl rfl ?_ ?_
      · refine kk_ic hG rfl cc_i0 ?_
        refine kk_st hG (L' := [(4, .int (0 : Int32)), (0, va_rf (some p0)), (1, .int p1), (2, .int a2), (3, .int a3)]) rfl rfl (Nat.le_of_ble_eq_true rfl) rfl ?_
        exact kk_wl hG [1, 2, 3, 4, 0] rfl (b77 _ _ _ _ _ _)
      refine kk_aln hG (x := (some p0)) rfl rfl ?_
      refine kk_gp hG (c := 1) (k := 8) (a := p0) rfl rfl rfl rfl (fun v1 => ?_)
      refine kks hG rfl rfl ?_
      refine kk_ic hG rfl cc_i0 ?_
      refine kk_ob (fun b2 eb2 => ?_)
      subst eb2
      refine kk_bs hG (a := b2) rfl (fun s3 => ?_)
      refine kk_inc hG (L' := [(4, .int (a4 + (1 : Int32))), (0, va_rf (some p0)), (1, .int p1), (2, .int a2), (3, .int a3)]) rfl (Nat.le_of_ble_eq_true rfl) rfl cc_i1 rfl ?_
      refine kk_go hG (t := 54) rfl rfl ?_
      exact kk_wl hG [1, 2, 3, 4, 0] rfl (fun hw h => hP54 _ _ _ _ h hw)
    exact fun a4 s kc ks hw h => h (fun a4 s kc ks => cW sa R base s → G 54 [(0, va_rf (some p0)), (1, .int p1), (2, .int a2), (3, .int a3), (4, .int a4)] [] (cM R s) kc ks) (fun a4 s kc ks hs hw => H _ (fun _ _ _ _ hp hw => hp hw) a4 s kc ks hw hs) hw
  refine (show KK sa R base G 0 [(0, va_rf (some p0)), (1, .int p1)] [] s kc ks (C_Ch_fillBlock sa p0 p1 s kc ks Q) from ?_) hw h
  refine kk_aln hG (x := (some p0)) rfl rfl ?_
  refine kk_gi hG (c := 1) (k := 9) (a := p0) rfl rfl rfl rfl (fun v1 => ?_)
  refine kk_bi hG rfl cc_b8 ?_
  refine kks hG rfl rfl ?_
  refine kk_st hG (L' := [(2, .int (v1 * (8 : Int32))), (0, va_rf (some p0)), (1, .int p1)]) rfl rfl (Nat.le_of_ble_eq_true rfl) rfl ?_
  refine kk_aln hG (x := (some p0)) rfl rfl ?_
  refine kk_gi hG (c := 1) (k := 9) (a := p0) rfl rfl rfl rfl (fun v2 => ?_)
  refine kk_bi hG rfl cc_b8 ?_
  refine kks hG rfl rfl ?_
  refine kk_bi hG rfl cc_b64 ?_
  refine kkc hG rfl rfl (by decide) ?_
  refine kk_bi hG rfl cc_b64 ?_
  refine kks hG rfl rfl ?_
  refine kk_bi hG rfl cc_b64 ?_
  refine kks hG rfl rfl ?_
  refine kk_st hG (L' := [(3, .int ((((v2 + (8 : Int32)) / (64 : Int32)) * (64 : Int32)) + (64 : Int32))), (2, .int (v1 * (8 : Int32))), (0, va_rf (some p0)), (1, .int p1)]) rfl rfl (Nat.le_of_ble_eq_true rfl) rfl ?_
  refine kks hG rfl rfl ?_
  refine kk_aln hG (x := (some p0)) rfl rfl ?_
  refine kk_gp hG (c := 1) (k := 8) (a := p0) rfl rfl rfl rfl (fun v3 => ?_)
  refine kk_ob (fun b4 eb4 => ?_)
  subst eb4
  refine kk_len hG (a := b4) rfl (fun v5 => ?_)
  refine kk_ile hG (t := 35) rfl rfl ?_ ?_
  · refine kk_aln hG (x := (some p0)) rfl rfl ?_
    refine kk_gp hG (c := 1) (k := 8) (a := p0) rfl rfl rfl rfl (fun v6 => ?_)
    refine kk_aln hG (x := (some p0)) rfl rfl ?_
    refine kk_gi hG (c := 1) (k := 9) (a := p0) rfl rfl rfl rfl (fun v7 => ?_)
    refine kk_bi hG rfl cc_bm128 ?_
    refine kk_ob (fun b8 eb8 => ?_)
    subst eb8
    refine kk_bs hG (a := b8) rfl (fun s9 => ?_)
    refine kk_aln hG (x := (some p0)) rfl rfl ?_
    refine kk_gi hG (c := 1) (k := 9) (a := p0) rfl rfl rfl rfl (fun v10 => ?_)
    refine kk_ic hG rfl cc_i1 ?_
    refine kks hG rfl rfl ?_
    refine kk_st hG (L' := [(4, .int (v10 + (1 : Int32))), (3, .int ((((v2 + (8 : Int32)) / (64 : Int32)) * (64 : Int32)) + (64 : Int32))), (2, .int (v1 * (8 : Int32))), (0, va_rf (some p0)), (1, .int p1)]) rfl rfl (Nat.le_of_ble_eq_true rfl) rfl ?_
    exact kk_wl hG [3, 4, 2, 1, 0] rfl (b54 _ _ _ _ _ _)
  exact kk_rv hG rfl rfl k
def C_Ch_begin (sa : Nat → Nat) (p0 : Nat) (s : cS) (kc ks : Nat) (Q : (cS → Nat → Nat → Prop)) : Prop := ob (gP s 1 10 p0) (fun v1 => (ob v1 (fun b2 => (ob (wEi s b2 (0 : Int32) (1732584193 : Int32)) (fun s3 => (ob (gP s3 1 10 p0) (fun v4 => (ob v4 (fun b5 => (ob (wEi s3 b5 (1 : Int32) ((-271733879) : Int32)) (fun s6 => (ob (gP s6 1 10 p0) (fun v7 => (ob v7 (fun b8 => (ob (wEi s6 b8 (2 : Int32) ((-1732584194) : Int32)) (fun s9 => (ob (gP s9 1 10 p0) (fun v10 => (ob v10 (fun b11 => (ob (wEi s9 b11 (3 : Int32) (271733878 : Int32)) (fun s12 => (ob (gP s12 1 10 p0) (fun v13 => (ob v13 (fun b14 => (ob (wEi s12 b14 (4 : Int32) ((-1009589776) : Int32)) (fun s15 => (Q s15 kc ks))))))))))))))))))))))))))))))
set_option maxRecDepth 100000 in
set_option maxHeartbeats 4000000 in
theorem kc_Ch_begin (base : Nat) (sa : Nat → Nat) {R : pmM} {s : cS} {kc ks : Nat} {Rt : pmR} {p0 : Nat} {Q : (cS → Nat → Nat → Prop)} (hw : cW sa R base s) (h : C_Ch_begin sa p0 s kc ks Q) (k : ∀ s' kc' ks', cW sa R base s' → Q s' kc' ks' → Rt none (cM R s') kc' ks') : kP_Ch_begin base sa [.ref p0] (cM R s) kc ks Rt := by
  refine ⟨Nat.le_of_ble_eq_true rfl, fun G hG => ?_⟩
  refine (show KK sa R base G 0 [(0, va_rf (some p0))] [] s kc ks (C_Ch_begin sa p0 s kc ks Q) from ?_) hw h
  refine kk_aln hG (x := (some p0)) rfl rfl ?_
  refine kk_gp hG (c := 1) (k := 10) (a := p0) rfl rfl rfl rfl (fun v1 => ?_)
  refine kk_ic hG rfl cc_i0 ?_
  refine kk_ld hG (v := (1732584193 : Int32)) rfl rfl ?_
  refine kk_ob (fun b2 eb2 => ?_)
  subst eb2
  refine kk_is hG (a := b2) rfl (fun s3 => ?_)
  refine kk_aln hG (x := (some p0)) rfl rfl ?_
  refine kk_gp hG (c := 1) (k := 10) (a := p0) rfl rfl rfl rfl (fun v4 => ?_)
  refine kk_ic hG rfl cc_i1 ?_
  refine kk_ld hG (v := ((-271733879) : Int32)) rfl rfl ?_
  refine kk_ob (fun b5 eb5 => ?_)
  subst eb5
  refine kk_is hG (a := b5) rfl (fun s6 => ?_)
  refine kk_aln hG (x := (some p0)) rfl rfl ?_
  refine kk_gp hG (c := 1) (k := 10) (a := p0) rfl rfl rfl rfl (fun v7 => ?_)
  refine kk_ic hG rfl cc_i2 ?_
  refine kk_ld hG (v := ((-1732584194) : Int32)) rfl rfl ?_
  refine kk_ob (fun b8 eb8 => ?_)
  subst eb8
  refine kk_is hG (a := b8) rfl (fun s9 => ?_)
  refine kk_aln hG (x := (some p0)) rfl rfl ?_
  refine kk_gp hG (c := 1) (k := 10) (a := p0) rfl rfl rfl rfl (fun v10 => ?_)
  refine kk_ic hG rfl cc_i3 ?_
  refine kk_ld hG (v := (271733878 : Int32)) rfl rfl ?_
  refine kk_ob (fun b11 eb11 => ?_)
  subst eb11
  refine kk_is hG (a := b11) rfl (fun s12 => ?_)
  refine kk_aln hG (x := (some p0)) rfl rfl ?_
  refine kk_gp hG (c := 1) (k := 10) (a := p0) rfl rfl rfl rfl (fun v13 => ?_)
  refine kk_ic hG rfl cc_i4 ?_
  refine kk_ld hG (v := ((-1009589776) : Int32)) rfl rfl ?_
  refine kk_ob (fun b14 eb14 => ?_)
  subst eb14
  refine kk_is hG (a := b14) rfl (fun s15 => ?_)
  exact kk_rv hG rfl rfl k
