/-! Methods as weakest preconditions, by program: Rr_answerEach .. Rr_take -/
def C_Rr_answerEach_b136 (sa : Nat → Nat) (p0 : Nat) (p1 : Option Nat) (p2 : Option Nat) (a3 : Int32) (a4 : Option Nat) (a5 : Int32) (a6 : Int32) (u0 : Option Nat) (u1 : Int64) (s : cS) (kc ks : Nat) (Q : (cS → Nat → Nat → Prop)) (P51 : (Int32 → cS → Nat → Nat → Prop)) : Prop := ob u0 (fun b1 => (okO s 0 b1 ∧ C_By_addNumber sa b1 u1 a5 s kc ks (fun sr2 cr2 dr2 => ((P51 (a6 + (20 : Int32)) sr2 cr2 dr2)))))
def C_Rr_answerEach_b98 (sa : Nat → Nat) (p0 : Nat) (p1 : Option Nat) (p2 : Option Nat) (a3 : Int32) (a4 : Option Nat) (a5 : Int32) (a6 : Int32) (a7 : Option Nat) (s : cS) (kc ks : Nat) (Q : (cS → Nat → Nat → Prop)) (P51 : (Int32 → cS → Nat → Nat → Prop)) : Prop := ob p1 (fun b1 => (ob (gP s 2 0 b1) (fun v2 => (ob a4 (fun b3 => (okO s 0 b3 ∧ C_By_addPart sa b3 v2 a6 ((a6 + (20 : Int32)) - a5) s kc ks (fun sr4 cr4 dr4 => (if a7 = none then ((C_Rr_answerEach_b136 sa p0 (some b1) p2 a3 (some b3) a5 a6 (some b3) (16 : Int64) sr4 cr4 dr4 Q P51)) else (ob a7 (fun b5 => (ob (gI sr4 8 4 b5) (fun v6 => ((C_Rr_answerEach_b136 sa p0 (some b1) p2 a3 (some b3) a5 a6 (some b3) (Int32.toInt64 v6) sr4 cr4 dr4 Q P51))))))))))))))
def C_Rr_answerEach_b162 (sa : Nat → Nat) (p0 : Nat) (p1 : Option Nat) (p2 : Option Nat) (s : cS) (kc ks : Nat) (Q : (cS → Nat → Nat → Prop)) : Prop := ob p1 (fun b1 => (ob (gP s 2 1 b1) (fun v2 => (okO s 9 p0 ∧ C_Rr_sendDraft sa p0 p2 v2 s kc ks (fun sr3 cr3 dr3 => (Q sr3 cr3 dr3))))))
def C_Rr_answerEach_s51 (sa : Nat → Nat) (p0 : Nat) (p1 : Option Nat) (p2 : Option Nat) (a3 : Int32) (a4 : Option Nat) (a5 : Int32) (a6 : Int32) (s : cS) (kc ks : Nat) (Q : (cS → Nat → Nat → Prop)) (P51 : (Int32 → cS → Nat → Nat → Prop)) : Prop := ob p1 (fun b1 => (ob (gI s 2 11 b1) (fun v2 => (if v2 < (a6 + (20 : Int32)) then ((if a3 = ((-1) : Int32) then ((C_Rr_answerEach_b162 sa p0 (some b1) p2 s kc ks Q)) else (ob p2 (fun b3 => (ob (gP s 4 6 b3) (fun v4 => (ob v4 (fun b5 => (okO s 1 b5 ∧ C_Ch_seal sa b5 a4 a3 s kc ks (fun sr6 cr6 dr6 => ((C_Rr_answerEach_b162 sa p0 (some b1) (some b3) sr6 cr6 dr6 Q)))))))))))) else (ob (gP s 9 0 p0) (fun v7 => (ob v7 (fun b8 => (ob (gP s 11 18 b8) (fun v9 => (okO s 2 b1 ∧ C_Da_takePrefix sa b1 a6 v9 s kc ks (fun r10 sr10 cr10 dr10 => (if r10 = 0 then ((C_Rr_answerEach_b98 sa p0 (some b1) p2 a3 a4 a5 a6 none sr10 cr10 dr10 Q P51)) else (ob (gP sr10 9 6 p0) (fun v11 => (ob (gP sr10 9 0 p0) (fun v12 => (ob v12 (fun b13 => (ob (gP sr10 11 18 b13) (fun v14 => (ob v11 (fun b15 => (okO sr10 10 b15 ∧ C_Ta_find sa b15 v14 sr10 cr10 dr10 (fun r16 sr16 cr16 dr16 => ((C_Rr_answerEach_b98 sa p0 (some b1) p2 a3 a4 a5 a6 r16 sr16 cr16 dr16 Q P51)))))))))))))))))))))))))))
def C_Rr_answerEach_b51 (sa : Nat → Nat) (p0 : Nat) (p1 : Option Nat) (p2 : Option Nat) (a3 : Int32) (a4 : Option Nat) (a5 : Int32) (a6 : Int32) (s : cS) (kc ks : Nat) (Q : (cS → Nat → Nat → Prop)) : Prop := ∀ P51 : (Int32 → cS → Nat → Nat → Prop), (∀ (a6 : Int32) (s : cS) (kc ks : Nat), C_Rr_answerEach_s51 sa p0 p1 p2 a3 a4 a5 a6 s kc ks Q P51 → P51 a6 s kc ks) → P51 a6 s kc ks
def C_Rr_answerEach_b43 (sa : Nat → Nat) (p0 : Nat) (p1 : Option Nat) (p2 : Option Nat) (a3 : Int32) (a4 : Option Nat) (u0 : Int32) (s : cS) (kc ks : Nat) (Q : (cS → Nat → Nat → Prop)) : Prop := ob p1 (fun b1 => (ob (gI s 2 10 b1) (fun v2 => ((C_Rr_answerEach_b51 sa p0 (some b1) p2 a3 a4 u0 v2 s kc ks Q)))))
def C_Rr_answerEach (sa : Nat → Nat) (p0 : Nat) (p1 : Option Nat) (p2 : Option Nat) (s : cS) (kc ks : Nat) (Q : (cS → Nat → Nat → Prop)) : Prop := ob p1 (fun b1 => (ob (gI s 2 4 b1) (fun v2 => (okO s 9 p0 ∧ C_Rr_openDraft sa p0 p2 v2 (2 : Int32) s kc ks (fun r3 sr3 cr3 dr3 => (if r3 = ((-2) : Int32) then (Q sr3 cr3 dr3) else (ob (gP sr3 9 0 p0) (fun v4 => (ob v4 (fun b5 => (ob (gP sr3 11 16 b5) (fun v6 => (ob v6 (fun b7 => (ob (gP sr3 2 0 b7) (fun v8 => (ob (gI sr3 2 4 b1) (fun v9 => (if v9 = (4 : Int32) then ((C_Rr_answerEach_b43 sa p0 (some b1) p2 r3 v8 (4 : Int32) sr3 cr3 dr3 Q)) else ((C_Rr_answerEach_b43 sa p0 (some b1) p2 r3 v8 (1 : Int32) sr3 cr3 dr3 Q)))))))))))))))))))))
set_option maxRecDepth 100000 in
set_option maxHeartbeats 4000000 in
theorem kc_Rr_answerEach (base : Nat) (sa : Nat → Nat) {R : pmM} {s : cS} {kc ks : Nat} {Rt : pmR} {p0 : Nat} {p1 : Option Nat} {p2 : Option Nat} {Q : (cS → Nat → Nat → Prop)} (hw : cW sa R base s) (h : C_Rr_answerEach sa p0 p1 p2 s kc ks Q) (k : ∀ s' kc' ks', cW sa R base s' → Q s' kc' ks' → Rt none (cM R s') kc' ks') : kP_Rr_answerEach base sa [.ref p0, va_rf p1, va_rf p2] (cM R s) kc ks Rt := by
  refine ⟨by cases p1 <;> cases p2 <;> exact Nat.le_of_ble_eq_true rfl, fun G hG => ?_⟩
  have eL : lv_args 0 [.ref p0, va_rf p1, va_rf p2] = [(0, va_rf (some p0)), (1, va_rf p1), (2, va_rf p2)] := by cases p1 <;> cases p2 <;> rfl
  rw [eL]
  have b162 : ∀ (s : cS) (kc ks : Nat), KK sa R base G 162 [(0, va_rf (some p0)), (1, va_rf p1), (2, va_rf p2)] [] s kc ks (C_Rr_answerEach_b162 sa p0 p1 p2 s kc ks Q) := by
    intro s kc ks
    refine kk_aln hG (x := (some p0)) rfl rfl ?_
    refine kk_aln hG (x := p2) rfl rfl ?_
    refine kk_aln hG (x := p1) rfl rfl ?_
    refine kk_ob (fun b1 eb1 => ?_)
    subst eb1
    refine kk_gp hG (c := 2) (k := 1) (a := b1) rfl rfl rfl rfl (fun v2 => ?_)
    refine kk_cv hG 0 rfl rfl (Nat.le_of_ble_eq_true rfl) (by decide) rfl (st' := []) rfl (cats_le (Nat.le_of_ble_eq_true rfl)) (fun _ hw h k => kk_rcv h.1 (kc_Rr_sendDraft base sa hw h.2 k)) (fun sr3 cr3 dr3 => ?_)
    exact kk_rv hG rfl rfl k
  have b51 : ∀ (a3 : Int32) (a4 : Option Nat) (a5 : Int32) (a6 : Int32) (s : cS) (kc ks : Nat), KK sa R base G 51 [(0, va_rf (some p0)), (1, va_rf p1), (2, va_rf p2), (3, .int a3), (4, va_rf a4), (5, .int a5), (6, .int a6)] [] s kc ks (C_Rr_answerEach_b51 sa p0 p1 p2 a3 a4 a5 a6 s kc ks Q) := by
    intro a3 a4 a5
    have H : ∀ (P51 : (Int32 → cS → Nat → Nat → Prop)) (hP51 : ∀ (a6 : Int32) (s : cS) (kc ks : Nat), P51 a6 s kc ks → cW sa R base s → G 51 [(0, va_rf (some p0)), (1, va_rf p1), (2, va_rf p2), (3, .int a3), (4, va_rf a4), (5, .int a5), (6, .int a6)] [] (cM R s) kc ks) (a6 : Int32) (s : cS) (kc ks : Nat), KK sa R base G 51 [(0, va_rf (some p0)), (1, va_rf p1), (2, va_rf p2), (3, .int a3), (4, va_rf a4), (5, .int a5), (6, .int a6)] [] s kc ks (C_Rr_answerEach_s51 sa p0 p1 p2 a3 a4 a5 a6 s kc ks Q P51) := by
      intro P51 hP51
      have b136 : ∀ (a6 : Int32) (u0 : Option Nat) (u1 : Int64) (s : cS) (kc ks : Nat), KK sa R base G 136 [(0, va_rf (some p0)), (1, va_rf p1), (2, va_rf p2), (3, .int a3), (4, va_rf a4), (5, .int a5), (6, .int a6)] [.long u1, va_rf u0] s kc ks (C_Rr_answerEach_b136 sa p0 p1 p2 a3 a4 a5 a6 u0 u1 s kc ks Q P51) := by
        intro a6 u0 u1 s kc ks
        refine kks hG rfl rfl ?_
        refine kk_ob (fun b1 eb1 => ?_)
        subst eb1
        refine kk_cv hG 0 rfl rfl (Nat.le_of_ble_eq_true rfl) (by decide) rfl (st' := []) rfl (cats_le (Nat.le_of_ble_eq_true rfl)) (fun _ hw h k => kk_rcv h.1 (kc_By_addNumber base sa hw h.2 k)) (fun sr2 cr2 dr2 => ?_)
        refine kk_inc hG (L' := [(6, .int (a6 + (20 : Int32))), (0, va_rf (some p0)), (1, va_rf p1), (2, va_rf p2), (3, .int a3), (4, va_rf a4), (5, .int a5)]) rfl (Nat.le_of_ble_eq_true rfl) rfl cc_i20 rfl ?_
        refine kk_go hG (t := 51) rfl rfl ?_
        exact kk_wl hG [1, 2, 3, 4, 5, 6, 0] rfl (fun hw h => hP51 _ _ _ _ h hw)
      have b98 : ∀ (a6 : Int32) (a7 : Option Nat) (s : cS) (kc ks : Nat), KK sa R base G 98 [(0, va_rf (some p0)), (1, va_rf p1), (2, va_rf p2), (3, .int a3), (4, va_rf a4), (5, .int a5), (6, .int a6), (7, va_rf a7)] [] s kc ks (C_Rr_answerEach_b98 sa p0 p1 p2 a3 a4 a5 a6 a7 s kc ks Q P51) := by
        intro a6 a7 s kc ks
        refine kk_al hG (x := a4) rfl rfl ?_
        refine kk_aln hG (x := p1) rfl rfl ?_
        refine kk_ob (fun b1 eb1 => ?_)
        subst eb1
        refine kk_gp hG (c := 2) (k := 0) (a := b1) rfl rfl rfl rfl (fun v2 => ?_)
        refine kks hG rfl rfl ?_
        refine kks hG rfl rfl ?_
        refine kk_bi hG rfl cc_b20 ?_
        refine kks hG rfl rfl ?_
        refine kks hG rfl rfl ?_
        refine kks hG rfl rfl ?_
        refine kk_ob (fun b3 eb3 => ?_)
        subst eb3
        refine kk_cv hG 0 rfl rfl (Nat.le_of_ble_eq_true rfl) (by decide) rfl (st' := []) rfl (cats_le (Nat.le_of_ble_eq_true rfl)) (fun _ hw h k => kk_rcv h.1 (kc_By_addPart base sa hw h.2 k)) (fun sr4 cr4 dr4 => ?_)
        refine kk_al hG (x := (some b3)) rfl rfl ?_
        refine kk_al hG (x := a7) rfl rfl ?_
        refine kk_nnl hG (x := a7) (t := 130) rfl rfl ?_ ?_
        · refine kk_al hG (x := a7) rfl rfl ?_
          refine kk_ob (fun b5 eb5 => ?_)
          subst eb5
          refine kk_gi hG (c := 8) (k := 4) (a := b5) rfl rfl rfl rfl (fun v6 => ?_)
          refine kks hG rfl rfl ?_
          exact kk_wl hG [0, 1, 2, 3, 4, 5, 6] rfl (b136 _ _ _ _ _ _)
        refine kk_l2 hG (v := (16 : Int64)) rfl rfl ?_
        refine kk_go hG (t := 136) rfl rfl ?_
        exact kk_wl hG [0, 1, 2, 3, 4, 5, 6] rfl (b136 _ _ _ _ _ _)
      intro a6 s kc ks
      refine kks hG rfl rfl ?_
      refine kk_bi hG rfl cc_b20 ?_
      refine kks hG rfl rfl ?_
      refine kk_aln hG (x := p1) rfl rfl ?_
      refine kk_ob (fun b1 eb1 => ?_)
      subst eb1
      refine kk_gi hG (c := 2) (k := 11) (a := b1) rfl rfl rfl rfl (fun v2 => ?_)
      refine kk_igt hG (t := 147) rfl rfl ?_ ?_
      · refine kks hG rfl rfl ?_
        refine kk_ic hG rfl cc_im1 ?_
        refine kk_ieq hG (t := 162) rfl rfl ?_ ?_
        · exact kk_wl hG [0, 1, 2] rfl (b162 _ _ _)
        refine kk_aln hG (x := p2) rfl rfl ?_
        refine kk_ob (fun b3 eb3 => ?_)
        subst eb3
        refine kk_gp hG (c := 4) (k := 6) (a := b3) rfl rfl rfl rfl (fun v4 => ?_)
        refine kk_al hG (x := a4) rfl rfl ?_
        refine kks hG rfl rfl ?_
        refine kk_ob (fun b5 eb5 => ?_)
        subst eb5
        refine kk_cv hG 0 rfl rfl (Nat.le_of_ble_eq_true rfl) (by decide) rfl (st' := []) rfl (cats_le (Nat.le_of_ble_eq_true rfl)) (fun _ hw h k => kk_rcv h.1 (kc_Ch_seal base sa hw h.2 k)) (fun sr6 cr6 dr6 => ?_)
        exact kk_wl hG [0, 1, 2] rfl (b162 _ _ _)
      refine kks hG rfl rfl ?_
      refine kk_as hG (x := none) (L' := [(7, va_rf none), (0, va_rf (some p0)), (1, va_rf (some b1)), (2, va_rf p2), (3, .int a3), (4, va_rf a4), (5, .int a5), (6, .int a6)]) rfl (Nat.le_of_ble_eq_true rfl) rfl ?_
      refine kk_aln hG (x := (some b1)) rfl rfl ?_
      refine kks hG rfl rfl ?_
      refine kk_aln hG (x := (some p0)) rfl rfl ?_
      refine kk_gp hG (c := 9) (k := 0) (a := p0) rfl rfl rfl rfl (fun v7 => ?_)
      refine kk_ob (fun b8 eb8 => ?_)
      subst eb8
      refine kk_gp hG (c := 11) (k := 18) (a := b8) rfl rfl rfl rfl (fun v9 => ?_)
      refine kk_cx (w := .int) hG 0 rfl rfl (Nat.le_of_ble_eq_true rfl) (by decide) rfl (st' := []) rfl (cats_le (Nat.le_of_ble_eq_true rfl)) (fun _ hw h k => kk_rcv h.1 (kc_Da_takePrefix base sa hw h.2 k)) (fun r10 sr10 cr10 dr10 => ?_)
      refine kk_zeq hG (t := 98) rfl rfl ?_ ?_
      · exact kk_wl hG [1, 2, 3, 4, 5, 6, 7, 0] rfl (b98 _ _ _ _ _)
      refine kk_aln hG (x := (some p0)) rfl rfl ?_
      refine kk_gp hG (c := 9) (k := 6) (a := p0) rfl rfl rfl rfl (fun v11 => ?_)
      refine kk_aln hG (x := (some p0)) rfl rfl ?_
      refine kk_gp hG (c := 9) (k := 0) (a := p0) rfl rfl rfl rfl (fun v12 => ?_)
      refine kk_ob (fun b13 eb13 => ?_)
      subst eb13
      refine kk_gp hG (c := 11) (k := 18) (a := b13) rfl rfl rfl rfl (fun v14 => ?_)
      refine kk_ob (fun b15 eb15 => ?_)
      subst eb15
      refine kk_cx (w := va_rf) hG 0 rfl rfl (Nat.le_of_ble_eq_true rfl) (by decide) rfl (st' := []) rfl (cats_le (Nat.le_of_ble_eq_true rfl)) (fun _ hw h k => kk_rcv h.1 (kc_Ta_find base sa hw h.2 k)) (fun r16 sr16 cr16 dr16 => ?_)
      refine kk_as hG (x := r16) (L' := [(7, va_rf r16), (0, va_rf (some p0)), (1, va_rf (some b1)), (2, va_rf p2), (3, .int a3), (4, va_rf a4), (5, .int a5), (6, .int a6)]) rfl (Nat.le_of_ble_eq_true rfl) rfl ?_
      exact kk_wl hG [1, 2, 3, 4, 5, 6, 7, 0] rfl (b98 _ _ _ _ _)
    exact fun a6 s kc ks hw h => h (fun a6 s kc ks => cW sa R base s → G 51 [(0, va_rf (some p0)), (1, va_rf p1), (2, va_rf p2), (3, .int a3), (4, va_rf a4), (5, .int a5), (6, .int a6)] [] (cM R s) kc ks) (fun a6 s kc ks hs hw => H _ (fun _ _ _ _ hp hw => hp hw) a6 s kc ks hw hs) hw
  have b43 : ∀ (a3 : Int32) (a4 : Option Nat) (u0 : Int32) (s : cS) (kc ks : Nat), KK sa R base G 43 [(0, va_rf (some p0)), (1, va_rf p1), (2, va_rf p2), (3, .int a3), (4, va_rf a4)] [.int u0] s kc ks (C_Rr_answerEach_b43 sa p0 p1 p2 a3 a4 u0 s kc ks Q) := by
    intro a3 a4 u0 s kc ks
    refine kk_st hG (L' := [(5, .int u0), (0, va_rf (some p0)), (1, va_rf p1), (2, va_rf p2), (3, .int a3), (4, va_rf a4)]) rfl rfl (Nat.le_of_ble_eq_true rfl) (by cases a4 <;> rfl) ?_
    refine kk_aln hG (x := p1) rfl rfl ?_
    refine kk_ob (fun b1 eb1 => ?_)
    subst eb1
    refine kk_gi hG (c := 2) (k := 10) (a := b1) rfl rfl rfl rfl (fun v2 => ?_)
    refine kk_st hG (L' := [(6, .int v2), (5, .int u0), (0, va_rf (some p0)), (1, va_rf (some b1)), (2, va_rf p2), (3, .int a3), (4, va_rf a4)]) rfl rfl (Nat.le_of_ble_eq_true rfl) rfl ?_
    exact kk_wl hG [2, 3, 4, 5, 6, 1, 0] rfl (b51 _ _ _ _ _ _ _)
  refine (show KK sa R base G 0 [(0, va_rf (some p0)), (1, va_rf p1), (2, va_rf p2)] [] s kc ks (C_Rr_answerEach sa p0 p1 p2 s kc ks Q) from ?_) hw h
  refine kk_aln hG (x := (some p0)) rfl rfl ?_
  refine kk_aln hG (x := p2) rfl rfl ?_
  refine kk_aln hG (x := p1) rfl rfl ?_
  refine kk_ob (fun b1 eb1 => ?_)
  subst eb1
  refine kk_gi hG (c := 2) (k := 4) (a := b1) rfl rfl rfl rfl (fun v2 => ?_)
  refine kk_ic hG rfl cc_i2 ?_
  refine kk_cx (w := .int) hG 0 rfl rfl (Nat.le_of_ble_eq_true rfl) (by decide) rfl (st' := []) rfl (cats_le (Nat.le_of_ble_eq_true rfl)) (fun _ hw h k => kk_rcv h.1 (kc_Rr_openDraft base sa hw h.2 k)) (fun r3 sr3 cr3 dr3 => ?_)
  refine kk_st hG (L' := [(3, .int r3), (0, va_rf (some p0)), (1, va_rf (some b1)), (2, va_rf p2)]) rfl rfl (Nat.le_of_ble_eq_true rfl) (by cases p2 <;> rfl) ?_
  refine kks hG rfl rfl ?_
  refine kk_bi hG rfl cc_bm2 ?_
  refine kk_ine hG (t := 18) rfl rfl ?_ ?_
  · refine kk_aln hG (x := (some p0)) rfl rfl ?_
    refine kk_gp hG (c := 9) (k := 0) (a := p0) rfl rfl rfl rfl (fun v4 => ?_)
    refine kk_ob (fun b5 eb5 => ?_)
    subst eb5
    refine kk_gp hG (c := 11) (k := 16) (a := b5) rfl rfl rfl rfl (fun v6 => ?_)
    refine kk_ob (fun b7 eb7 => ?_)
    subst eb7
    refine kk_gp hG (c := 2) (k := 0) (a := b7) rfl rfl rfl rfl (fun v8 => ?_)
    refine kk_as hG (x := v8) (L' := [(4, va_rf v8), (3, .int r3), (0, va_rf (some p0)), (1, va_rf (some b1)), (2, va_rf p2)]) rfl (Nat.le_of_ble_eq_true rfl) rfl ?_
    refine kk_aln hG (x := (some b1)) rfl rfl ?_
    refine kk_gi hG (c := 2) (k := 4) (a := b1) rfl rfl rfl rfl (fun v9 => ?_)
    refine kk_ic hG rfl cc_i4 ?_
    refine kk_ine hG (t := 42) rfl rfl ?_ ?_
    · refine kk_ic hG rfl cc_i1 ?_
      exact kk_wl hG [2, 3, 4, 1, 0] rfl (b43 _ _ _ _ _ _)
    refine kk_ic hG rfl cc_i4 ?_
    refine kk_go hG (t := 43) rfl rfl ?_
    exact kk_wl hG [2, 3, 4, 1, 0] rfl (b43 _ _ _ _ _ _)
  exact kk_rv hG rfl rfl k
def C_Rr_answer (sa : Nat → Nat) (p0 : Nat) (p1 : Option Nat) (p2 : Option Nat) (s : cS) (kc ks : Nat) (Q : (cS → Nat → Nat → Prop)) : Prop := ob p1 (fun b1 => (ob (gI s 2 10 b1) (fun v2 => (ob (gI s 2 11 b1) (fun v3 => (if v2 < v3 then (ob (gP s 9 16 p0) (fun v4 => (ob v4 (fun b5 => (ob (rE s .int b5 (8 : Int32)) (fun v6 => (ob (wEi s b5 (8 : Int32) (v6 + (1 : Int32))) (fun s7 => (okO s7 2 b1 ∧ C_Da_asksForAll sa b1 s7 kc ks (fun r8 sr8 cr8 dr8 => (if r8 = 0 then (okO sr8 9 p0 ∧ C_Rr_answerEach sa p0 (some b1) p2 sr8 cr8 dr8 (fun sr9 cr9 dr9 => (Q sr9 cr9 dr9))) else (ob (gI sr8 2 4 b1) (fun v10 => (okO sr8 9 p0 ∧ C_Rr_gather sa p0 p2 v10 (0 : Int32) sr8 cr8 dr8 (fun sr11 cr11 dr11 => (ob (gI sr11 2 4 b1) (fun v12 => (ob (gP sr11 2 1 b1) (fun v13 => (okO sr11 9 p0 ∧ C_Rr_sendTold sa p0 p2 v12 v13 sr11 cr11 dr11 (fun sr14 cr14 dr14 => (Q sr14 cr14 dr14)))))))))))))))))))))) else (Q s kc ks)))))))
set_option maxRecDepth 100000 in
set_option maxHeartbeats 4000000 in
theorem kc_Rr_answer (base : Nat) (sa : Nat → Nat) {R : pmM} {s : cS} {kc ks : Nat} {Rt : pmR} {p0 : Nat} {p1 : Option Nat} {p2 : Option Nat} {Q : (cS → Nat → Nat → Prop)} (hw : cW sa R base s) (h : C_Rr_answer sa p0 p1 p2 s kc ks Q) (k : ∀ s' kc' ks', cW sa R base s' → Q s' kc' ks' → Rt none (cM R s') kc' ks') : kP_Rr_answer base sa [.ref p0, va_rf p1, va_rf p2] (cM R s) kc ks Rt := by
  refine ⟨by cases p1 <;> cases p2 <;> exact Nat.le_of_ble_eq_true rfl, fun G hG => ?_⟩
  have eL : lv_args 0 [.ref p0, va_rf p1, va_rf p2] = [(0, va_rf (some p0)), (1, va_rf p1), (2, va_rf p2)] := by cases p1 <;> cases p2 <;> rfl
  rw [eL]
  refine (show KK sa R base G 0 [(0, va_rf (some p0)), (1, va_rf p1), (2, va_rf p2)] [] s kc ks (C_Rr_answer sa p0 p1 p2 s kc ks Q) from ?_) hw h
  refine kk_aln hG (x := p1) rfl rfl ?_
  refine kk_ob (fun b1 eb1 => ?_)
  subst eb1
  refine kk_gi hG (c := 2) (k := 10) (a := b1) rfl rfl rfl rfl (fun v2 => ?_)
  refine kk_aln hG (x := (some b1)) rfl rfl ?_
  refine kk_gi hG (c := 2) (k := 11) (a := b1) rfl rfl rfl rfl (fun v3 => ?_)
  refine kk_ilt hG (t := 12) rfl rfl ?_ ?_
  · refine kk_aln hG (x := (some p0)) rfl rfl ?_
    refine kk_gp hG (c := 9) (k := 16) (a := p0) rfl rfl rfl rfl (fun v4 => ?_)
    refine kk_bi hG rfl cc_b8 ?_
    refine kk_dup2 hG (x := v4) rfl ?_
    refine kk_ob (fun b5 eb5 => ?_)
    subst eb5
    refine kk_ia hG (a := b5) rfl (fun v6 => ?_)
    refine kk_ic hG rfl cc_i1 ?_
    refine kks hG rfl rfl ?_
    refine kk_is hG (a := b5) rfl (fun s7 => ?_)
    refine kk_aln hG (x := (some b1)) rfl rfl ?_
    refine kk_cx (w := .int) hG 0 rfl rfl (Nat.le_of_ble_eq_true rfl) (by decide) rfl (st' := []) rfl (cats_le (Nat.le_of_ble_eq_true rfl)) (fun _ hw h k => kk_rcv h.1 (kc_Da_asksForAll base sa hw h.2 k)) (fun r8 sr8 cr8 dr8 => ?_)
    refine kk_zeq hG (t := 56) rfl rfl ?_ ?_
    · refine kk_aln hG (x := (some p0)) rfl rfl ?_
      refine kk_aln hG (x := (some b1)) rfl rfl ?_
      refine kk_aln hG (x := p2) rfl rfl ?_
      refine kk_cv hG 0 rfl rfl (Nat.le_of_ble_eq_true rfl) (by decide) rfl (st' := []) rfl (cats_le (Nat.le_of_ble_eq_true rfl)) (fun _ hw h k => kk_rcv h.1 (kc_Rr_answerEach base sa hw h.2 k)) (fun sr9 cr9 dr9 => ?_)
      exact kk_rv hG rfl rfl k
    refine kk_aln hG (x := (some p0)) rfl rfl ?_
    refine kk_aln hG (x := p2) rfl rfl ?_
    refine kk_aln hG (x := (some b1)) rfl rfl ?_
    refine kk_gi hG (c := 2) (k := 4) (a := b1) rfl rfl rfl rfl (fun v10 => ?_)
    refine kk_ic hG rfl cc_i0 ?_
    refine kk_cv hG 0 rfl rfl (Nat.le_of_ble_eq_true rfl) (by decide) rfl (st' := []) rfl (cats_le (Nat.le_of_ble_eq_true rfl)) (fun _ hw h k => kk_rcv h.1 (kc_Rr_gather base sa hw h.2 k)) (fun sr11 cr11 dr11 => ?_)
    refine kk_aln hG (x := (some p0)) rfl rfl ?_
    refine kk_aln hG (x := p2) rfl rfl ?_
    refine kk_aln hG (x := (some b1)) rfl rfl ?_
    refine kk_gi hG (c := 2) (k := 4) (a := b1) rfl rfl rfl rfl (fun v12 => ?_)
    refine kk_aln hG (x := (some b1)) rfl rfl ?_
    refine kk_gp hG (c := 2) (k := 1) (a := b1) rfl rfl rfl rfl (fun v13 => ?_)
    refine kk_cv hG 0 rfl rfl (Nat.le_of_ble_eq_true rfl) (by decide) rfl (st' := []) rfl (cats_le (Nat.le_of_ble_eq_true rfl)) (fun _ hw h k => kk_rcv h.1 (kc_Rr_sendTold base sa hw h.2 k)) (fun sr14 cr14 dr14 => ?_)
    refine kk_go hG (t := 62) rfl rfl ?_
    exact kk_rv hG rfl rfl k
  exact kk_rv hG rfl rfl k
def C_Rr_takeHop_b77 (sa : Nat → Nat) (p0 : Nat) (p1 : Option Nat) (s : cS) (kc ks : Nat) (Q : (cS → Nat → Nat → Prop)) : Prop := ob (gP s 9 0 p0) (fun v1 => (ob v1 (fun b2 => (ob (gP s 11 19 b2) (fun v3 => (ob p1 (fun b4 => (ob (gP s 2 1 b4) (fun v5 => (ob v3 (fun b6 => (okO s 5 b6 ∧ C_Pr_copy sa b6 v5 s kc ks (fun sr7 cr7 dr7 => (Q sr7 cr7 dr7))))))))))))))
def C_Rr_takeHop (sa : Nat → Nat) (p0 : Nat) (p1 : Option Nat) (p2 : Int32) (p3 : Option Nat) (s : cS) (kc ks : Nat) (Q : (cS → Nat → Nat → Prop)) : Prop := ob p1 (fun b1 => (ob (gI s 2 4 b1) (fun v2 => (ob p3 (fun b3 => (okO s 4 b3 ∧ C_Po_addressOf sa b3 v2 s kc ks (fun r4 sr4 cr4 dr4 => (ob (gP sr4 9 0 p0) (fun v5 => (ob v5 (fun b6 => (ob (gP sr4 11 19 b6) (fun v7 => (ob (gP sr4 2 0 b1) (fun v8 => (ob (gI sr4 2 4 b1) (fun v9 => (ob v7 (fun b10 => (okO sr4 5 b10 ∧ C_Pr_takeBytes sa b10 v8 p2 v9 sr4 cr4 dr4 (fun sr11 cr11 dr11 => (if r4 = none then ((C_Rr_takeHop_b77 sa p0 (some b1) sr11 cr11 dr11 Q)) else (ob (gP sr11 9 0 p0) (fun v12 => (ob v12 (fun b13 => (ob (gP sr11 11 19 b13) (fun v14 => (ob v14 (fun b15 => (okO sr11 5 b15 ∧ C_Pr_isZero sa b15 sr11 cr11 dr11 (fun r16 sr16 cr16 dr16 => (if r16 = 0 then (ob (gP sr16 9 0 p0) (fun v17 => (ob v17 (fun b18 => (ob (gP sr16 11 19 b18) (fun v19 => (ob r4 (fun b20 => (okO sr16 5 b20 ∧ C_Pr_covers sa b20 v19 sr16 cr16 dr16 (fun r21 sr21 cr21 dr21 => (if r21 = 0 then ((C_Rr_takeHop_b77 sa p0 (some b1) sr21 cr21 dr21 Q)) else (ob (gP sr21 9 0 p0) (fun v22 => (ob v22 (fun b23 => (ob (gP sr21 11 19 b23) (fun v24 => (okO sr21 5 b20 ∧ C_Pr_sameAddress sa b20 v24 sr21 cr21 dr21 (fun r25 sr25 cr25 dr25 => (if r25 = 0 then (Q sr25 cr25 dr25) else ((C_Rr_takeHop_b77 sa p0 (some b1) sr25 cr25 dr25 Q)))))))))))))))))))))) else ((C_Rr_takeHop_b77 sa p0 (some b1) sr16 cr16 dr16 Q)))))))))))))))))))))))))))))))))))
set_option maxRecDepth 100000 in
set_option maxHeartbeats 4000000 in
theorem kc_Rr_takeHop (base : Nat) (sa : Nat → Nat) {R : pmM} {s : cS} {kc ks : Nat} {Rt : pmR} {p0 : Nat} {p1 : Option Nat} {p2 : Int32} {p3 : Option Nat} {Q : (cS → Nat → Nat → Prop)} (hw : cW sa R base s) (h : C_Rr_takeHop sa p0 p1 p2 p3 s kc ks Q) (k : ∀ s' kc' ks', cW sa R base s' → Q s' kc' ks' → Rt none (cM R s') kc' ks') : kP_Rr_takeHop base sa [.ref p0, va_rf p1, .int p2, va_rf p3] (cM R s) kc ks Rt := by
  refine ⟨by cases p1 <;> cases p3 <;> exact Nat.le_of_ble_eq_true rfl, fun G hG => ?_⟩
  have eL : lv_args 0 [.ref p0, va_rf p1, .int p2, va_rf p3] = [(0, va_rf (some p0)), (1, va_rf p1), (2, .int p2), (3, va_rf p3)] := by cases p1 <;> cases p3 <;> rfl
  rw [eL]
  have b77 : ∀ (s : cS) (kc ks : Nat), KK sa R base G 77 [(0, va_rf (some p0)), (1, va_rf p1)] [] s kc ks (C_Rr_takeHop_b77 sa p0 p1 s kc ks Q) := by
    intro s kc ks
    refine kk_aln hG (x := (some p0)) rfl rfl ?_
    refine kk_gp hG (c := 9) (k := 0) (a := p0) rfl rfl rfl rfl (fun v1 => ?_)
    refine kk_ob (fun b2 eb2 => ?_)
    subst eb2
    refine kk_gp hG (c := 11) (k := 19) (a := b2) rfl rfl rfl rfl (fun v3 => ?_)
    refine kk_aln hG (x := p1) rfl rfl ?_
    refine kk_ob (fun b4 eb4 => ?_)
    subst eb4
    refine kk_gp hG (c := 2) (k := 1) (a := b4) rfl rfl rfl rfl (fun v5 => ?_)
    refine kk_ob (fun b6 eb6 => ?_)
    subst eb6
    refine kk_cv hG 0 rfl rfl (Nat.le_of_ble_eq_true rfl) (by decide) rfl (st' := []) rfl (cats_le (Nat.le_of_ble_eq_true rfl)) (fun _ hw h k => kk_rcv h.1 (kc_Pr_copy base sa hw h.2 k)) (fun sr7 cr7 dr7 => ?_)
    exact kk_rv hG rfl rfl k
  refine (show KK sa R base G 0 [(0, va_rf (some p0)), (1, va_rf p1), (2, .int p2), (3, va_rf p3)] [] s kc ks (C_Rr_takeHop sa p0 p1 p2 p3 s kc ks Q) from ?_) hw h
  refine kk_aln hG (x := p3) rfl rfl ?_
  refine kk_aln hG (x := p1) rfl rfl ?_
  refine kk_ob (fun b1 eb1 => ?_)
  subst eb1
  refine kk_gi hG (c := 2) (k := 4) (a := b1) rfl rfl rfl rfl (fun v2 => ?_)
  refine kk_ob (fun b3 eb3 => ?_)
  subst eb3
  refine kk_cx (w := va_rf) hG 0 rfl rfl (Nat.le_of_ble_eq_true rfl) (by decide) rfl (st' := []) rfl (cats_le (Nat.le_of_ble_eq_true rfl)) (fun _ hw h k => kk_rcv h.1 (kc_Po_addressOf base sa hw h.2 k)) (fun r4 sr4 cr4 dr4 => ?_)
  refine kk_as hG (x := r4) (L' := [(4, va_rf r4), (0, va_rf (some p0)), (1, va_rf (some b1)), (2, .int p2), (3, va_rf (some b3))]) rfl (Nat.le_of_ble_eq_true rfl) rfl ?_
  refine kk_aln hG (x := (some p0)) rfl rfl ?_
  refine kk_gp hG (c := 9) (k := 0) (a := p0) rfl rfl rfl rfl (fun v5 => ?_)
  refine kk_ob (fun b6 eb6 => ?_)
  subst eb6
  refine kk_gp hG (c := 11) (k := 19) (a := b6) rfl rfl rfl rfl (fun v7 => ?_)
  refine kk_aln hG (x := (some b1)) rfl rfl ?_
  refine kk_gp hG (c := 2) (k := 0) (a := b1) rfl rfl rfl rfl (fun v8 => ?_)
  refine kks hG rfl rfl ?_
  refine kk_aln hG (x := (some b1)) rfl rfl ?_
  refine kk_gi hG (c := 2) (k := 4) (a := b1) rfl rfl rfl rfl (fun v9 => ?_)
  refine kk_ob (fun b10 eb10 => ?_)
  subst eb10
  refine kk_cv hG 0 rfl rfl (Nat.le_of_ble_eq_true rfl) (by decide) rfl (st' := []) rfl (cats_le (Nat.le_of_ble_eq_true rfl)) (fun _ hw h k => kk_rcv h.1 (kc_Pr_takeBytes base sa hw h.2 k)) (fun sr11 cr11 dr11 => ?_)
  refine kk_al hG (x := r4) rfl rfl ?_
  refine kk_nul hG (x := r4) (t := 77) rfl rfl ?_ ?_
  · exact kk_wl hG [1, 2] rfl (b77 _ _ _)
  refine kk_aln hG (x := (some p0)) rfl rfl ?_
  refine kk_gp hG (c := 9) (k := 0) (a := p0) rfl rfl rfl rfl (fun v12 => ?_)
  refine kk_ob (fun b13 eb13 => ?_)
  subst eb13
  refine kk_gp hG (c := 11) (k := 19) (a := b13) rfl rfl rfl rfl (fun v14 => ?_)
  refine kk_ob (fun b15 eb15 => ?_)
  subst eb15
  refine kk_cx (w := .int) hG 0 rfl rfl (Nat.le_of_ble_eq_true rfl) (by decide) rfl (st' := []) rfl (cats_le (Nat.le_of_ble_eq_true rfl)) (fun _ hw h k => kk_rcv h.1 (kc_Pr_isZero base sa hw h.2 k)) (fun r16 sr16 cr16 dr16 => ?_)
  refine kk_zne hG (t := 77) rfl rfl ?_ ?_
  · exact kk_wl hG [1, 2] rfl (b77 _ _ _)
  refine kk_al hG (x := r4) rfl rfl ?_
  refine kk_aln hG (x := (some p0)) rfl rfl ?_
  refine kk_gp hG (c := 9) (k := 0) (a := p0) rfl rfl rfl rfl (fun v17 => ?_)
  refine kk_ob (fun b18 eb18 => ?_)
  subst eb18
  refine kk_gp hG (c := 11) (k := 19) (a := b18) rfl rfl rfl rfl (fun v19 => ?_)
  refine kk_ob (fun b20 eb20 => ?_)
  subst eb20
  refine kk_cx (w := .int) hG 0 rfl rfl (Nat.le_of_ble_eq_true rfl) (by decide) rfl (st' := []) rfl (cats_le (Nat.le_of_ble_eq_true rfl)) (fun _ hw h k => kk_rcv h.1 (kc_Pr_covers base sa hw h.2 k)) (fun r21 sr21 cr21 dr21 => ?_)
  refine kk_zeq hG (t := 77) rfl rfl ?_ ?_
  · exact kk_wl hG [1, 2] rfl (b77 _ _ _)
  refine kk_al hG (x := (some b20)) rfl rfl ?_
  refine kk_aln hG (x := (some p0)) rfl rfl ?_
  refine kk_gp hG (c := 9) (k := 0) (a := p0) rfl rfl rfl rfl (fun v22 => ?_)
  refine kk_ob (fun b23 eb23 => ?_)
  subst eb23
  refine kk_gp hG (c := 11) (k := 19) (a := b23) rfl rfl rfl rfl (fun v24 => ?_)
  refine kk_cx (w := .int) hG 0 rfl rfl (Nat.le_of_ble_eq_true rfl) (by decide) rfl (st' := []) rfl (cats_le (Nat.le_of_ble_eq_true rfl)) (fun _ hw h k => kk_rcv h.1 (kc_Pr_sameAddress base sa hw h.2 k)) (fun r25 sr25 cr25 dr25 => ?_)
  refine kk_zeq hG (t := 91) rfl rfl ?_ ?_
  · exact kk_rv hG rfl rfl k
  exact kk_wl hG [1, 2] rfl (b77 _ _ _)
def C_Pr_isForbidden_b31 (sa : Nat → Nat) (p0 : Nat) (s : cS) (kc ks : Nat) (Q : (Int32 → cS → Nat → Nat → Prop)) : Prop := ob (gI s 5 3 p0) (fun v1 => (if v1 < (3 : Int32) then (Q (0 : Int32) s kc ks) else (ob (gJ s 5 1 p0) (fun v2 => (if (ush_L v2 (61 : Int32)) = (7 : Int64) then (Q (1 : Int32) s kc ks) else (Q (0 : Int32) s kc ks))))))
def C_Pr_isForbidden_b82 (sa : Nat → Nat) (p0 : Nat) (s : cS) (kc ks : Nat) (Q : (Int32 → cS → Nat → Nat → Prop)) : Prop := ob (gI s 5 3 p0) (fun v1 => (if v1 < (8 : Int32) then (Q (0 : Int32) s kc ks) else (ob (gJ s 5 1 p0) (fun v2 => (if (ush_L v2 (56 : Int32)) = (255 : Int64) then (Q (1 : Int32) s kc ks) else (Q (0 : Int32) s kc ks))))))
def C_Pr_isForbidden (sa : Nat → Nat) (p0 : Nat) (s : cS) (kc ks : Nat) (Q : (Int32 → cS → Nat → Nat → Prop)) : Prop := ob (gI s 5 0 p0) (fun v1 => (if v1 = (4 : Int32) then (ob (gI s 5 3 p0) (fun v4 => (if v4 < (8 : Int32) then ((C_Pr_isForbidden_b31 sa p0 s kc ks Q)) else (ob (gJ s 5 1 p0) (fun v5 => (if (ush_L v5 (56 : Int32)) = (127 : Int64) then (Q (1 : Int32) s kc ks) else ((C_Pr_isForbidden_b31 sa p0 s kc ks Q)))))))) else (ob (gI s 5 3 p0) (fun v2 => (if v2 < (10 : Int32) then ((C_Pr_isForbidden_b82 sa p0 s kc ks Q)) else (ob (gJ s 5 1 p0) (fun v3 => (if (ush_L v3 (54 : Int32)) = (1018 : Int64) then (Q (1 : Int32) s kc ks) else ((C_Pr_isForbidden_b82 sa p0 s kc ks Q))))))))))
set_option maxRecDepth 100000 in
set_option maxHeartbeats 4000000 in
theorem kc_Pr_isForbidden (base : Nat) (sa : Nat → Nat) {R : pmM} {s : cS} {kc ks : Nat} {Rt : pmR} {p0 : Nat} {Q : (Int32 → cS → Nat → Nat → Prop)} (hw : cW sa R base s) (h : C_Pr_isForbidden sa p0 s kc ks Q) (k : ∀ r s' kc' ks', cW sa R base s' → Q r s' kc' ks' → Rt (some (.int r)) (cM R s') kc' ks') : kP_Pr_isForbidden base sa [.ref p0] (cM R s) kc ks Rt := by
  refine ⟨Nat.le_of_ble_eq_true rfl, fun G hG => ?_⟩
  have b31 : ∀ (s : cS) (kc ks : Nat), KK sa R base G 31 [(0, va_rf (some p0))] [] s kc ks (C_Pr_isForbidden_b31 sa p0 s kc ks Q) := by
    intro s kc ks
    refine kk_aln hG (x := (some p0)) rfl rfl ?_
    refine kk_gi hG (c := 5) (k := 3) (a := p0) rfl rfl rfl rfl (fun v1 => ?_)
    refine kk_ic hG rfl cc_i3 ?_
    refine kk_ilt hG (t := 57) rfl rfl ?_ ?_
    · refine kk_ic hG rfl cc_i0 ?_
      exact kk_ri hG rfl rfl rfl k
    refine kk_aln hG (x := (some p0)) rfl rfl ?_
    refine kk_gj hG (c := 5) (k := 1) (a := p0) rfl rfl rfl rfl (fun v2 => ?_)
    refine kk_bi hG rfl cc_b61 ?_
    refine kks hG rfl rfl ?_
    refine kk_l2 hG (v := (7 : Int64)) rfl rfl ?_
    refine kks hG rfl rfl ?_
    refine kk_lne hG (t := 57) rfl rfl ?_ ?_
    · refine kk_ic hG rfl cc_i0 ?_
      exact kk_ri hG rfl rfl rfl k
    refine kk_ic hG rfl cc_i1 ?_
    refine kk_go hG (t := 58) rfl rfl ?_
    exact kk_ri hG rfl rfl rfl k
  have b82 : ∀ (s : cS) (kc ks : Nat), KK sa R base G 82 [(0, va_rf (some p0))] [] s kc ks (C_Pr_isForbidden_b82 sa p0 s kc ks Q) := by
    intro s kc ks
    refine kk_aln hG (x := (some p0)) rfl rfl ?_
    refine kk_gi hG (c := 5) (k := 3) (a := p0) rfl rfl rfl rfl (fun v1 => ?_)
    refine kk_bi hG rfl cc_b8 ?_
    refine kk_ilt hG (t := 109) rfl rfl ?_ ?_
    · refine kk_ic hG rfl cc_i0 ?_
      exact kk_ri hG rfl rfl rfl k
    refine kk_aln hG (x := (some p0)) rfl rfl ?_
    refine kk_gj hG (c := 5) (k := 1) (a := p0) rfl rfl rfl rfl (fun v2 => ?_)
    refine kk_bi hG rfl cc_b56 ?_
    refine kks hG rfl rfl ?_
    refine kk_l2 hG (v := (255 : Int64)) rfl rfl ?_
    refine kks hG rfl rfl ?_
    refine kk_lne hG (t := 109) rfl rfl ?_ ?_
    · refine kk_ic hG rfl cc_i0 ?_
      exact kk_ri hG rfl rfl rfl k
    refine kk_ic hG rfl cc_i1 ?_
    refine kk_go hG (t := 110) rfl rfl ?_
    exact kk_ri hG rfl rfl rfl k
  refine (show KK sa R base G 0 [(0, va_rf (some p0))] [] s kc ks (C_Pr_isForbidden sa p0 s kc ks Q) from ?_) hw h
  refine kk_aln hG (x := (some p0)) rfl rfl ?_
  refine kk_gi hG (c := 5) (k := 0) (a := p0) rfl rfl rfl rfl (fun v1 => ?_)
  refine kk_ic hG rfl cc_i4 ?_
  refine kk_ine hG (t := 59) rfl rfl ?_ ?_
  · refine kk_aln hG (x := (some p0)) rfl rfl ?_
    refine kk_gi hG (c := 5) (k := 3) (a := p0) rfl rfl rfl rfl (fun v2 => ?_)
    refine kk_bi hG rfl cc_b10 ?_
    refine kk_ilt hG (t := 82) rfl rfl ?_ ?_
    · exact kk_wl hG [0] rfl (b82 _ _ _)
    refine kk_aln hG (x := (some p0)) rfl rfl ?_
    refine kk_gj hG (c := 5) (k := 1) (a := p0) rfl rfl rfl rfl (fun v3 => ?_)
    refine kk_bi hG rfl cc_b54 ?_
    refine kks hG rfl rfl ?_
    refine kk_l2 hG (v := (1018 : Int64)) rfl rfl ?_
    refine kks hG rfl rfl ?_
    refine kk_leq hG (t := 105) rfl rfl ?_ ?_
    · refine kk_ic hG rfl cc_i1 ?_
      refine kk_go hG (t := 110) rfl rfl ?_
      exact kk_ri hG rfl rfl rfl k
    exact kk_wl hG [0] rfl (b82 _ _ _)
  refine kk_aln hG (x := (some p0)) rfl rfl ?_
  refine kk_gi hG (c := 5) (k := 3) (a := p0) rfl rfl rfl rfl (fun v4 => ?_)
  refine kk_bi hG rfl cc_b8 ?_
  refine kk_ilt hG (t := 31) rfl rfl ?_ ?_
  · exact kk_wl hG [0] rfl (b31 _ _ _)
  refine kk_aln hG (x := (some p0)) rfl rfl ?_
  refine kk_gj hG (c := 5) (k := 1) (a := p0) rfl rfl rfl rfl (fun v5 => ?_)
  refine kk_bi hG rfl cc_b56 ?_
  refine kks hG rfl rfl ?_
  refine kk_l2 hG (v := (127 : Int64)) rfl rfl ?_
  refine kks hG rfl rfl ?_
  refine kk_leq hG (t := 53) rfl rfl ?_ ?_
  · refine kk_ic hG rfl cc_i1 ?_
    refine kk_go hG (t := 58) rfl rfl ?_
    exact kk_ri hG rfl rfl rfl k
  exact kk_wl hG [0] rfl (b31 _ _ _)
def C_Rr_startTimeout (sa : Nat → Nat) (p0 : Nat) (p1 : Option Nat) (s : cS) (kc ks : Nat) (Q : (cS → Nat → Nat → Prop)) : Prop := ob (gP s 9 0 p0) (fun v1 => (ob v1 (fun b2 => (ob (gI s 11 5 b2) (fun v3 => (ob p1 (fun b4 => (ob (pI s 8 8 b4 v3) (fun s5 => (ob (gP s5 9 15 p0) (fun v6 => (ob v6 (fun b7 => (ob (rE s5 .int b7 (1 : Int32)) (fun v8 => (ob (pI s5 8 9 b4 v8) (fun s9 => (ob (gP s9 9 15 p0) (fun v10 => (ob v10 (fun b11 => (ob (rE s9 .int b11 (1 : Int32)) (fun v12 => (okO s9 9 p0 ∧ C_Rr_startDeadline sa p0 (some b4) v12 s9 kc ks (fun sr13 cr13 dr13 => (Q sr13 cr13 dr13))))))))))))))))))))))))))
set_option maxRecDepth 100000 in
set_option maxHeartbeats 4000000 in
theorem kc_Rr_startTimeout (base : Nat) (sa : Nat → Nat) {R : pmM} {s : cS} {kc ks : Nat} {Rt : pmR} {p0 : Nat} {p1 : Option Nat} {Q : (cS → Nat → Nat → Prop)} (hw : cW sa R base s) (h : C_Rr_startTimeout sa p0 p1 s kc ks Q) (k : ∀ s' kc' ks', cW sa R base s' → Q s' kc' ks' → Rt none (cM R s') kc' ks') : kP_Rr_startTimeout base sa [.ref p0, va_rf p1] (cM R s) kc ks Rt := by
  refine ⟨by cases p1 <;> exact Nat.le_of_ble_eq_true rfl, fun G hG => ?_⟩
  have eL : lv_args 0 [.ref p0, va_rf p1] = [(0, va_rf (some p0)), (1, va_rf p1)] := by cases p1 <;> rfl
  rw [eL]
  refine (show KK sa R base G 0 [(0, va_rf (some p0)), (1, va_rf p1)] [] s kc ks (C_Rr_startTimeout sa p0 p1 s kc ks Q) from ?_) hw h
  refine kk_aln hG (x := p1) rfl rfl ?_
  refine kk_aln hG (x := (some p0)) rfl rfl ?_
  refine kk_gp hG (c := 9) (k := 0) (a := p0) rfl rfl rfl rfl (fun v1 => ?_)
  refine kk_ob (fun b2 eb2 => ?_)
  subst eb2
  refine kk_gi hG (c := 11) (k := 5) (a := b2) rfl rfl rfl rfl (fun v3 => ?_)
  refine kk_ob (fun b4 eb4 => ?_)
  subst eb4
  refine kk_pi hG (c := 8) (k := 8) (a := b4) rfl rfl rfl rfl (fun s5 => ?_)
  refine kk_aln hG (x := (some b4)) rfl rfl ?_
  refine kk_aln hG (x := (some p0)) rfl rfl ?_
  refine kk_gp hG (c := 9) (k := 15) (a := p0) rfl rfl rfl rfl (fun v6 => ?_)
  refine kk_ic hG rfl cc_i1 ?_
  refine kk_ob (fun b7 eb7 => ?_)
  subst eb7
  refine kk_ia hG (a := b7) rfl (fun v8 => ?_)
  refine kk_pi hG (c := 8) (k := 9) (a := b4) rfl rfl rfl rfl (fun s9 => ?_)
  refine kk_aln hG (x := (some p0)) rfl rfl ?_
  refine kk_aln hG (x := (some b4)) rfl rfl ?_
  refine kk_aln hG (x := (some p0)) rfl rfl ?_
  refine kk_gp hG (c := 9) (k := 15) (a := p0) rfl rfl rfl rfl (fun v10 => ?_)
  refine kk_ic hG rfl cc_i1 ?_
  refine kk_ob (fun b11 eb11 => ?_)
  subst eb11
  refine kk_ia hG (a := b11) rfl (fun v12 => ?_)
  refine kk_cv hG 0 rfl rfl (Nat.le_of_ble_eq_true rfl) (by decide) rfl (st' := []) rfl (cats_le (Nat.le_of_ble_eq_true rfl)) (fun _ hw h k => kk_rcv h.1 (kc_Rr_startDeadline base sa hw h.2 k)) (fun sr13 cr13 dr13 => ?_)
  exact kk_rv hG rfl rfl k
def C_Da_tagAt_b22 (sa : Nat → Nat) (u0 : Option Nat) (u1 : Int32) (s : cS) (kc ks : Nat) (Q : (Int32 → cS → Nat → Nat → Prop)) : Prop := ob u0 (fun b1 => (okO s 0 b1 ∧ C_By_numberAt sa b1 u1 (2 : Int32) s kc ks (fun r2 sr2 cr2 dr2 => (Q (Int64.toInt32 r2) sr2 cr2 dr2))))
def C_Da_tagAt (sa : Nat → Nat) (p0 : Nat) (p1 : Int32) (s : cS) (kc ks : Nat) (Q : (Int32 → cS → Nat → Nat → Prop)) : Prop := ob (gP s 2 0 p0) (fun v1 => (ob (gI s 2 4 p0) (fun v2 => (if v2 = (4 : Int32) then ((C_Da_tagAt_b22 sa v1 (p1 + (2 : Int32)) s kc ks Q)) else ((C_Da_tagAt_b22 sa v1 (p1 + (16 : Int32)) s kc ks Q))))))
set_option maxRecDepth 100000 in
set_option maxHeartbeats 4000000 in
theorem kc_Da_tagAt (base : Nat) (sa : Nat → Nat) {R : pmM} {s : cS} {kc ks : Nat} {Rt : pmR} {p0 : Nat} {p1 : Int32} {Q : (Int32 → cS → Nat → Nat → Prop)} (hw : cW sa R base s) (h : C_Da_tagAt sa p0 p1 s kc ks Q) (k : ∀ r s' kc' ks', cW sa R base s' → Q r s' kc' ks' → Rt (some (.int r)) (cM R s') kc' ks') : kP_Da_tagAt base sa [.ref p0, .int p1] (cM R s) kc ks Rt := by
  refine ⟨Nat.le_of_ble_eq_true rfl, fun G hG => ?_⟩
  have b22 : ∀ (u0 : Option Nat) (u1 : Int32) (s : cS) (kc ks : Nat), KK sa R base G 22 [] [.int u1, va_rf u0] s kc ks (C_Da_tagAt_b22 sa u0 u1 s kc ks Q) := by
    intro u0 u1 s kc ks
    refine kk_ic hG rfl cc_i2 ?_
    refine kk_ob (fun b1 eb1 => ?_)
    subst eb1
    refine kk_cx (w := .long) hG 0 rfl rfl (Nat.le_of_ble_eq_true rfl) (by decide) rfl (st' := []) rfl (cats_le (Nat.le_of_ble_eq_true rfl)) (fun _ hw h k => kk_rcv h.1 (kc_By_numberAt base sa hw h.2 k)) (fun r2 sr2 cr2 dr2 => ?_)
    refine kks hG rfl rfl ?_
    exact kk_ri hG rfl rfl rfl k
  refine (show KK sa R base G 0 [(0, va_rf (some p0)), (1, .int p1)] [] s kc ks (C_Da_tagAt sa p0 p1 s kc ks Q) from ?_) hw h
  refine kk_aln hG (x := (some p0)) rfl rfl ?_
  refine kk_gp hG (c := 2) (k := 0) (a := p0) rfl rfl rfl rfl (fun v1 => ?_)
  refine kk_aln hG (x := (some p0)) rfl rfl ?_
  refine kk_gi hG (c := 2) (k := 4) (a := p0) rfl rfl rfl rfl (fun v2 => ?_)
  refine kk_ic hG rfl cc_i4 ?_
  refine kk_ine hG (t := 18) rfl rfl ?_ ?_
  · refine kks hG rfl rfl ?_
    refine kk_bi hG rfl cc_b16 ?_
    refine kks hG rfl rfl ?_
    exact kk_wl hG [] rfl (b22 _ _ _ _ _)
  refine kks hG rfl rfl ?_
  refine kk_ic hG rfl cc_i2 ?_
  refine kks hG rfl rfl ?_
  refine kk_go hG (t := 22) rfl rfl ?_
  exact kk_wl hG [] rfl (b22 _ _ _ _ _)
def C_Rr_take_b114 (sa : Nat → Nat) (p0 : Nat) (p1 : Option Nat) (a6 : Int32) (s : cS) (kc ks : Nat) (Q : (cS → Nat → Nat → Prop)) : Prop := if a6 = 0 then (Q s kc ks) else (okO s 9 p0 ∧ C_Rr_markChanged sa p0 p1 s kc ks (fun sr1 cr1 dr1 => (Q sr1 cr1 dr1)))
def C_Rr_take_b40 (sa : Nat → Nat) (p0 : Nat) (p1 : Option Nat) (p2 : Option Nat) (p3 : Int32) (p4 : Option Nat) (p5 : Int32) (u0 : Int32) (s : cS) (kc ks : Nat) (Q : (cS → Nat → Nat → Prop)) : Prop := ob p1 (fun b1 => (ob (pI s 8 4 b1 p5) (fun s2 => (ob (gP s2 8 1 b1) (fun v3 => (ob (gP s2 9 0 p0) (fun v4 => (ob v4 (fun b5 => (ob (gP s2 11 19 b5) (fun v6 => (ob v3 (fun b7 => (okO s2 5 b7 ∧ C_Pr_copy sa b7 v6 s2 kc ks (fun sr8 cr8 dr8 => (ob (gP sr8 8 2 b1) (fun v9 => (ob p2 (fun b10 => (ob (gP sr8 2 1 b10) (fun v11 => (ob v9 (fun b12 => (okO sr8 5 b12 ∧ C_Pr_copy sa b12 v11 sr8 cr8 dr8 (fun sr13 cr13 dr13 => (ob (pP sr13 8 6 b1 p4) (fun s14 => (okO s14 2 b10 ∧ C_Da_tagAt sa b10 p3 s14 cr13 dr13 (fun r15 sr15 cr15 dr15 => (ob (pI sr15 8 5 b1 r15) (fun s16 => (if p5 = (16 : Int32) then (ob (gP s16 9 15 p0) (fun v18 => (ob v18 (fun b19 => (ob (rE s16 .int b19 (2 : Int32)) (fun v20 => (okO s16 9 p0 ∧ C_Rr_startDeadline sa p0 (some b1) v20 s16 cr15 dr15 (fun sr21 cr21 dr21 => ((C_Rr_take_b114 sa p0 (some b1) u0 sr21 cr21 dr21 Q)))))))))) else (okO s16 9 p0 ∧ C_Rr_startTimeout sa p0 (some b1) s16 cr15 dr15 (fun sr17 cr17 dr17 => ((C_Rr_take_b114 sa p0 (some b1) u0 sr17 cr17 dr17 Q))))))))))))))))))))))))))))))))))))
def C_Rr_take (sa : Nat → Nat) (p0 : Nat) (p1 : Option Nat) (p2 : Option Nat) (p3 : Int32) (p4 : Option Nat) (p5 : Int32) (s : cS) (kc ks : Nat) (Q : (cS → Nat → Nat → Prop)) : Prop := ob p1 (fun b1 => (ob (gI s 8 4 b1) (fun v2 => (if p5 = v2 then (ob (gP s 8 6 b1) (fun v3 => (if p4 = v3 then (ob (gP s 8 1 b1) (fun v4 => (ob (gP s 9 0 p0) (fun v5 => (ob v5 (fun b6 => (ob (gP s 11 19 b6) (fun v7 => (ob v4 (fun b8 => (okO s 5 b8 ∧ C_Pr_sameAddress sa b8 v7 s kc ks (fun r9 sr9 cr9 dr9 => (if r9 = 0 then ((C_Rr_take_b40 sa p0 (some b1) p2 p3 p4 p5 (1 : Int32) sr9 cr9 dr9 Q)) else ((C_Rr_take_b40 sa p0 (some b1) p2 p3 p4 p5 (0 : Int32) sr9 cr9 dr9 Q))))))))))))))) else ((C_Rr_take_b40 sa p0 (some b1) p2 p3 p4 p5 (1 : Int32) s kc ks Q))))) else ((C_Rr_take_b40 sa p0 (some b1) p2 p3 p4 p5 (1 : Int32) s kc ks Q))))))
set_option maxRecDepth 100000 in
set_option maxHeartbeats 4000000 in
theorem kc_Rr_take (base : Nat) (sa : Nat → Nat) {R : pmM} {s : cS} {kc ks : Nat} {Rt : pmR} {p0 : Nat} {p1 : Option Nat} {p2 : Option Nat} {p3 : Int32} {p4 : Option Nat} {p5 : Int32} {Q : (cS → Nat → Nat → Prop)} (hw : cW sa R base s) (h : C_Rr_take sa p0 p1 p2 p3 p4 p5 s kc ks Q) (k : ∀ s' kc' ks', cW sa R base s' → Q s' kc' ks' → Rt none (cM R s') kc' ks') : kP_Rr_take base sa [.ref p0, va_rf p1, va_rf p2, .int p3, va_rf p4, .int p5] (cM R s) kc ks Rt := by
  refine ⟨by cases p1 <;> cases p2 <;> cases p4 <;> exact Nat.le_of_ble_eq_true rfl, fun G hG => ?_⟩
  have eL : lv_args 0 [.ref p0, va_rf p1, va_rf p2, .int p3, va_rf p4, .int p5] = [(0, va_rf (some p0)), (1, va_rf p1), (2, va_rf p2), (3, .int p3), (4, va_rf p4), (5, .int p5)] := by cases p1 <;> cases p2 <;> cases p4 <;> rfl
  rw [eL]
  have b114 : ∀ (a6 : Int32) (s : cS) (kc ks : Nat), KK sa R base G 114 [(0, va_rf (some p0)), (1, va_rf p1), (6, .int a6)] [] s kc ks (C_Rr_take_b114 sa p0 p1 a6 s kc ks Q) := by
    intro a6 s kc ks
    refine kks hG rfl rfl ?_
    refine kk_zeq hG (t := 124) rfl rfl ?_ ?_
    · exact kk_rv hG rfl rfl k
    refine kk_aln hG (x := (some p0)) rfl rfl ?_
    refine kk_aln hG (x := p1) rfl rfl ?_
    refine kk_cv hG 0 rfl rfl (Nat.le_of_ble_eq_true rfl) (by decide) rfl (st' := []) rfl (cats_le (Nat.le_of_ble_eq_true rfl)) (fun _ hw h k => kk_rcv h.1 (kc_Rr_markChanged base sa hw h.2 k)) (fun sr1 cr1 dr1 => ?_)
    exact kk_rv hG rfl rfl k
  have b40 : ∀ (u0 : Int32) (s : cS) (kc ks : Nat), KK sa R base G 40 [(0, va_rf (some p0)), (1, va_rf p1), (2, va_rf p2), (3, .int p3), (4, va_rf p4), (5, .int p5)] [.int u0] s kc ks (C_Rr_take_b40 sa p0 p1 p2 p3 p4 p5 u0 s kc ks Q) := by
    intro u0 s kc ks
    refine kk_st hG (L' := [(6, .int u0), (0, va_rf (some p0)), (1, va_rf p1), (2, va_rf p2), (3, .int p3), (4, va_rf p4), (5, .int p5)]) rfl rfl (Nat.le_of_ble_eq_true rfl) rfl ?_
    refine kk_aln hG (x := p1) rfl rfl ?_
    refine kks hG rfl rfl ?_
    refine kk_ob (fun b1 eb1 => ?_)
    subst eb1
    refine kk_pi hG (c := 8) (k := 4) (a := b1) rfl rfl rfl rfl (fun s2 => ?_)
    refine kk_aln hG (x := (some b1)) rfl rfl ?_
    refine kk_gp hG (c := 8) (k := 1) (a := b1) rfl rfl rfl rfl (fun v3 => ?_)
    refine kk_aln hG (x := (some p0)) rfl rfl ?_
    refine kk_gp hG (c := 9) (k := 0) (a := p0) rfl rfl rfl rfl (fun v4 => ?_)
    refine kk_ob (fun b5 eb5 => ?_)
    subst eb5
    refine kk_gp hG (c := 11) (k := 19) (a := b5) rfl rfl rfl rfl (fun v6 => ?_)
    refine kk_ob (fun b7 eb7 => ?_)
    subst eb7
    refine kk_cv hG 0 rfl rfl (Nat.le_of_ble_eq_true rfl) (by decide) rfl (st' := []) rfl (cats_le (Nat.le_of_ble_eq_true rfl)) (fun _ hw h k => kk_rcv h.1 (kc_Pr_copy base sa hw h.2 k)) (fun sr8 cr8 dr8 => ?_)
    refine kk_aln hG (x := (some b1)) rfl rfl ?_
    refine kk_gp hG (c := 8) (k := 2) (a := b1) rfl rfl rfl rfl (fun v9 => ?_)
    refine kk_aln hG (x := p2) rfl rfl ?_
    refine kk_ob (fun b10 eb10 => ?_)
    subst eb10
    refine kk_gp hG (c := 2) (k := 1) (a := b10) rfl rfl rfl rfl (fun v11 => ?_)
    refine kk_ob (fun b12 eb12 => ?_)
    subst eb12
    refine kk_cv hG 0 rfl rfl (Nat.le_of_ble_eq_true rfl) (by decide) rfl (st' := []) rfl (cats_le (Nat.le_of_ble_eq_true rfl)) (fun _ hw h k => kk_rcv h.1 (kc_Pr_copy base sa hw h.2 k)) (fun sr13 cr13 dr13 => ?_)
    refine kk_aln hG (x := (some b1)) rfl rfl ?_
    refine kk_al hG (x := p4) rfl rfl ?_
    refine kk_pp hG (c := 8) (k := 6) (a := b1) (v := p4) rfl rfl rfl rfl rfl (fun s14 => ?_)
    refine kk_aln hG (x := (some b1)) rfl rfl ?_
    refine kk_aln hG (x := (some b10)) rfl rfl ?_
    refine kks hG rfl rfl ?_
    refine kk_cx (w := .int) hG 0 rfl rfl (Nat.le_of_ble_eq_true rfl) (by decide) rfl (st' := [va_rf (some b1)]) rfl (cats_le (Nat.le_of_ble_eq_true rfl)) (fun _ hw h k => kk_rcv h.1 (kc_Da_tagAt base sa hw h.2 k)) (fun r15 sr15 cr15 dr15 => ?_)
    refine kk_pi hG (c := 8) (k := 5) (a := b1) rfl rfl rfl rfl (fun s16 => ?_)
    refine kks hG rfl rfl ?_
    refine kk_bi hG rfl cc_b16 ?_
    refine kk_ine hG (t := 109) rfl rfl ?_ ?_
    · refine kk_aln hG (x := (some p0)) rfl rfl ?_
      refine kk_aln hG (x := (some b1)) rfl rfl ?_
      refine kk_cv hG 0 rfl rfl (Nat.le_of_ble_eq_true rfl) (by decide) rfl (st' := []) rfl (cats_le (Nat.le_of_ble_eq_true rfl)) (fun _ hw h k => kk_rcv h.1 (kc_Rr_startTimeout base sa hw h.2 k)) (fun sr17 cr17 dr17 => ?_)
      exact kk_wl hG [1, 2, 0] rfl (b114 _ _ _ _)
    refine kk_aln hG (x := (some p0)) rfl rfl ?_
    refine kk_aln hG (x := (some b1)) rfl rfl ?_
    refine kk_aln hG (x := (some p0)) rfl rfl ?_
    refine kk_gp hG (c := 9) (k := 15) (a := p0) rfl rfl rfl rfl (fun v18 => ?_)
    refine kk_ic hG rfl cc_i2 ?_
    refine kk_ob (fun b19 eb19 => ?_)
    subst eb19
    refine kk_ia hG (a := b19) rfl (fun v20 => ?_)
    refine kk_cv hG 0 rfl rfl (Nat.le_of_ble_eq_true rfl) (by decide) rfl (st' := []) rfl (cats_le (Nat.le_of_ble_eq_true rfl)) (fun _ hw h k => kk_rcv h.1 (kc_Rr_startDeadline base sa hw h.2 k)) (fun sr21 cr21 dr21 => ?_)
    refine kk_go hG (t := 114) rfl rfl ?_
    exact kk_wl hG [1, 2, 0] rfl (b114 _ _ _ _)
  refine (show KK sa R base G 0 [(0, va_rf (some p0)), (1, va_rf p1), (2, va_rf p2), (3, .int p3), (4, va_rf p4), (5, .int p5)] [] s kc ks (C_Rr_take sa p0 p1 p2 p3 p4 p5 s kc ks Q) from ?_) hw h
  refine kks hG rfl rfl ?_
  refine kk_aln hG (x := p1) rfl rfl ?_
  refine kk_ob (fun b1 eb1 => ?_)
  subst eb1
  refine kk_gi hG (c := 8) (k := 4) (a := b1) rfl rfl rfl rfl (fun v2 => ?_)
  refine kk_ine hG (t := 35) rfl rfl ?_ ?_
  · refine kk_ic hG rfl cc_i1 ?_
    refine kk_go hG (t := 40) rfl rfl ?_
    exact kk_wl hG [0, 1, 2, 3, 4, 5] rfl (b40 _ _ _ _)
  refine kk_al hG (x := p4) rfl rfl ?_
  refine kk_aln hG (x := (some b1)) rfl rfl ?_
  refine kk_gp hG (c := 8) (k := 6) (a := b1) rfl rfl rfl rfl (fun v3 => ?_)
  refine kk_ane hG (x := p4) (y := v3) (t := 35) rfl rfl ?_ ?_
  · refine kk_ic hG rfl cc_i1 ?_
    refine kk_go hG (t := 40) rfl rfl ?_
    exact kk_wl hG [0, 1, 2, 3, 4, 5] rfl (b40 _ _ _ _)
  refine kk_aln hG (x := (some b1)) rfl rfl ?_
  refine kk_gp hG (c := 8) (k := 1) (a := b1) rfl rfl rfl rfl (fun v4 => ?_)
  refine kk_aln hG (x := (some p0)) rfl rfl ?_
  refine kk_gp hG (c := 9) (k := 0) (a := p0) rfl rfl rfl rfl (fun v5 => ?_)
  refine kk_ob (fun b6 eb6 => ?_)
  subst eb6
  refine kk_gp hG (c := 11) (k := 19) (a := b6) rfl rfl rfl rfl (fun v7 => ?_)
  refine kk_ob (fun b8 eb8 => ?_)
  subst eb8
  refine kk_cx (w := .int) hG 0 rfl rfl (Nat.le_of_ble_eq_true rfl) (by decide) rfl (st' := []) rfl (cats_le (Nat.le_of_ble_eq_true rfl)) (fun _ hw h k => kk_rcv h.1 (kc_Pr_sameAddress base sa hw h.2 k)) (fun r9 sr9 cr9 dr9 => ?_)
  refine kk_zne hG (t := 39) rfl rfl ?_ ?_
  · refine kk_ic hG rfl cc_i0 ?_
    exact kk_wl hG [0, 1, 2, 3, 4, 5] rfl (b40 _ _ _ _)
  refine kk_ic hG rfl cc_i1 ?_
  refine kk_go hG (t := 40) rfl rfl ?_
  exact kk_wl hG [0, 1, 2, 3, 4, 5] rfl (b40 _ _ _ _)
