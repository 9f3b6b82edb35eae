/-! Methods as weakest preconditions, by program: Rr_gather .. Rr_openDraft -/
def C_Rr_gather_b280 (sa : Nat → Nat) (p0 : Nat) (p1 : Option Nat) (p2 : Int32) (p3 : Int32) (a4 : Option Nat) (a5 : Int32) (a6 : Int32) (a7 : Int32) (a8 : Int32) (s : cS) (kc ks : Nat) (Q : (cS → Nat → Nat → Prop)) (P71 : (Int32 → cS → Nat → Nat → Prop)) : Prop := (P71 (a8 + (1 : Int32)) s kc ks)
def C_Rr_gather_b265 (sa : Nat → Nat) (p0 : Nat) (p1 : Option Nat) (p2 : Int32) (p3 : Int32) (a4 : Option Nat) (a5 : Int32) (a6 : Int32) (a7 : Int32) (a8 : Int32) (a9 : Option Nat) (a10 : Int32) (a11 : Int32) (s : cS) (kc ks : Nat) (Q : (cS → Nat → Nat → Prop)) (P71 : (Int32 → cS → Nat → Nat → Prop)) : Prop := ob a9 (fun b1 => (ob (gP s 8 0 b1) (fun v2 => (ob a4 (fun b3 => (okO s 10 b3 ∧ C_Ta_add sa b3 v2 a11 a10 s kc ks (fun r4 sr4 cr4 dr4 => ((C_Rr_gather_b280 sa p0 p1 p2 p3 (some b3) a5 a6 a7 a8 sr4 cr4 dr4 Q P71)))))))))
def C_Rr_gather_b193 (sa : Nat → Nat) (p0 : Nat) (p1 : Option Nat) (p2 : Int32) (p3 : Int32) (a4 : Option Nat) (a5 : Int32) (a6 : Int32) (a7 : Int32) (a8 : Int32) (a9 : Option Nat) (a10 : Int32) (a11 : Int32) (a12 : Int32) (u0 : Int32) (s : cS) (kc ks : Nat) (Q : (cS → Nat → Nat → Prop)) (P71 : (Int32 → cS → Nat → Nat → Prop)) : Prop := if a10 = ((-1) : Int32) then ((C_Rr_gather_b280 sa p0 p1 p2 p3 a4 a5 a6 a7 a8 s kc ks Q P71)) else (if a12 = ((-1) : Int32) then (if u0 = 0 then ((C_Rr_gather_b280 sa p0 p1 p2 p3 a4 a5 a6 a7 a8 s kc ks Q P71)) else (if a6 = 0 then ((C_Rr_gather_b265 sa p0 p1 p2 p3 a4 a5 a6 a7 a8 a9 a10 a11 s kc ks Q P71)) else (ob a9 (fun b1 => (ob (gP s 8 0 b1) (fun v2 => (ob v2 (fun b3 => (ob (gI s 5 3 b3) (fun v4 => (if v4 = 0 then ((C_Rr_gather_b280 sa p0 p1 p2 p3 a4 a5 a6 a7 a8 s kc ks Q P71)) else ((C_Rr_gather_b265 sa p0 p1 p2 p3 a4 a5 a6 a7 a8 (some b1) a10 a11 s kc ks Q P71))))))))))))) else (ob p1 (fun b5 => (ob (gP s 4 9 b5) (fun v6 => (ob (gP s 4 9 b5) (fun v7 => (ob v7 (fun b8 => (ob (rE s .int b8 a12) (fun v9 => (ob v6 (fun b10 => (ob (wEi s b10 a12 (mnI v9 a10)) (fun s11 => (ob (gP s11 4 10 b5) (fun v12 => (ob v12 (fun b13 => (ob (rE s11 .boolean b13 a12) (fun v14 => (ob (wEz s11 b13 a12 (v14 ||| u0)) (fun s15 => ((C_Rr_gather_b280 sa p0 (some b5) p2 p3 a4 a5 a6 a7 a8 s15 kc ks Q P71)))))))))))))))))))))))))
def C_Rr_gather_b173 (sa : Nat → Nat) (p0 : Nat) (p1 : Option Nat) (p2 : Int32) (p3 : Int32) (a4 : Option Nat) (a5 : Int32) (a6 : Int32) (a7 : Int32) (a8 : Int32) (a9 : Option Nat) (a10 : Int32) (a11 : Int32) (u0 : Int32) (s : cS) (kc ks : Nat) (Q : (cS → Nat → Nat → Prop)) (P71 : (Int32 → cS → Nat → Nat → Prop)) : Prop := if p3 = (1 : Int32) then (ob a9 (fun b1 => (ob (gI s 8 7 b1) (fun v2 => (if v2 = 0 then ((C_Rr_gather_b193 sa p0 p1 p2 p3 a4 a5 a6 a7 a8 (some b1) a10 a11 u0 (0 : Int32) s kc ks Q P71)) else ((C_Rr_gather_b193 sa p0 p1 p2 p3 a4 a5 a6 a7 a8 (some b1) a10 a11 u0 (1 : Int32) s kc ks Q P71))))))) else ((C_Rr_gather_b193 sa p0 p1 p2 p3 a4 a5 a6 a7 a8 a9 a10 a11 u0 (1 : Int32) s kc ks Q P71))
def C_Rr_gather_b153 (sa : Nat → Nat) (p0 : Nat) (p1 : Option Nat) (p2 : Int32) (p3 : Int32) (a4 : Option Nat) (a5 : Int32) (a6 : Int32) (a7 : Int32) (a8 : Int32) (a9 : Option Nat) (a10 : Int32) (u0 : Int32) (s : cS) (kc ks : Nat) (Q : (cS → Nat → Nat → Prop)) (P71 : (Int32 → cS → Nat → Nat → Prop)) : Prop := if a5 = 0 then (ob a9 (fun b1 => (ob (gP s 8 0 b1) (fun v2 => (ob p1 (fun b3 => (okO s 4 b3 ∧ C_Po_summaryOf sa b3 v2 s kc ks (fun r4 sr4 cr4 dr4 => ((C_Rr_gather_b173 sa p0 (some b3) p2 p3 a4 a5 a6 a7 a8 (some b1) a10 u0 r4 sr4 cr4 dr4 Q P71)))))))))) else ((C_Rr_gather_b173 sa p0 p1 p2 p3 a4 a5 a6 a7 a8 a9 a10 u0 ((-1) : Int32) s kc ks Q P71))
def C_Rr_gather_b132 (sa : Nat → Nat) (p0 : Nat) (p1 : Option Nat) (p2 : Int32) (p3 : Int32) (a4 : Option Nat) (a5 : Int32) (a6 : Int32) (a7 : Int32) (a8 : Int32) (a9 : Option Nat) (u0 : Int32) (s : cS) (kc ks : Nat) (Q : (cS → Nat → Nat → Prop)) (P71 : (Int32 → cS → Nat → Nat → Prop)) : Prop := if a5 = 0 then (okO s 9 p0 ∧ C_Rr_toldTag sa p0 a9 s kc ks (fun r1 sr1 cr1 dr1 => ((C_Rr_gather_b153 sa p0 p1 p2 p3 a4 a5 a6 a7 a8 a9 u0 r1 sr1 cr1 dr1 Q P71)))) else (ob a9 (fun b2 => (ob (gI s 8 5 b2) (fun v3 => ((C_Rr_gather_b153 sa p0 p1 p2 p3 a4 a5 a6 a7 a8 (some b2) u0 v3 s kc ks Q P71))))))
def C_Rr_gather_b286 (sa : Nat → Nat) (p0 : Nat) (p1 : Option Nat) (p2 : Int32) (p3 : Int32) (a4 : Option Nat) (a6 : Int32) (s : cS) (kc ks : Nat) (Q : (cS → Nat → Nat → Prop)) : Prop := okO s 9 p0 ∧ C_Rr_gatherSummaries sa p0 p1 s kc ks (fun sr1 cr1 dr1 => (if a6 = 0 then (Q sr1 cr1 dr1) else (if p3 = 0 then (ob (gP sr1 9 0 p0) (fun v2 => (ob v2 (fun b3 => (ob (gP sr1 11 18 b3) (fun v4 => (ob v4 (fun b5 => (okO sr1 5 b5 ∧ C_Pr_setZero sa b5 p2 (0 : Int32) sr1 cr1 dr1 (fun sr6 cr6 dr6 => (ob (gP sr6 9 0 p0) (fun v7 => (ob v7 (fun b8 => (ob (gP sr6 11 18 b8) (fun v9 => (ob p1 (fun b10 => (ob (gI sr6 4 13 b10) (fun v11 => (ob a4 (fun b12 => (okO sr6 10 b12 ∧ C_Ta_add sa b12 v9 (0 : Int32) v11 sr6 cr6 dr6 (fun r13 sr13 cr13 dr13 => (Q sr13 cr13 dr13))))))))))))))))))))))))) else (Q sr1 cr1 dr1))))
def C_Rr_gather_s71 (sa : Nat → Nat) (p0 : Nat) (p1 : Option Nat) (p2 : Int32) (p3 : Int32) (a4 : Option Nat) (a5 : Int32) (a6 : Int32) (a7 : Int32) (a8 : Int32) (s : cS) (kc ks : Nat) (Q : (cS → Nat → Nat → Prop)) (P71 : (Int32 → cS → Nat → Nat → Prop)) : Prop := ob (gP s 9 6 p0) (fun v1 => (ob v1 (fun b2 => (ob (gI s 10 1 b2) (fun v3 => (if a8 < v3 then (if a7 = 0 then (ob (gP s 9 6 p0) (fun v4 => (ob v4 (fun b5 => (ob (gP s 10 0 b5) (fun v6 => (ob v6 (fun b7 => (ob (rQ s b7 a8) (fun v8 => (ob v8 (fun b9 => (ob (gP s 8 0 b9) (fun v10 => (ob v10 (fun b11 => (ob (gI s 5 0 b11) (fun v12 => (if v12 = p2 then (if a5 = 0 then (okO s 9 p0 ∧ C_Rr_toldMetric sa p0 (some b9) p1 s kc ks (fun r13 sr13 cr13 dr13 => ((C_Rr_gather_b132 sa p0 p1 p2 p3 a4 a5 a6 a7 a8 (some b9) r13 sr13 cr13 dr13 Q P71)))) else ((C_Rr_gather_b132 sa p0 p1 p2 p3 a4 a5 a6 a7 a8 (some b9) (16 : Int32) s kc ks Q P71))) else ((C_Rr_gather_b280 sa p0 p1 p2 p3 a4 a5 a6 a7 a8 s kc ks Q P71))))))))))))))))))))) else ((C_Rr_gather_b286 sa p0 p1 p2 p3 a4 a6 s kc ks Q))) else ((C_Rr_gather_b286 sa p0 p1 p2 p3 a4 a6 s kc ks Q))))))))
def C_Rr_gather_b71 (sa : Nat → Nat) (p0 : Nat) (p1 : Option Nat) (p2 : Int32) (p3 : Int32) (a4 : Option Nat) (a5 : Int32) (a6 : Int32) (a7 : Int32) (a8 : Int32) (s : cS) (kc ks : Nat) (Q : (cS → Nat → Nat → Prop)) : Prop := ∀ P71 : (Int32 → cS → Nat → Nat → Prop), (∀ (a8 : Int32) (s : cS) (kc ks : Nat), C_Rr_gather_s71 sa p0 p1 p2 p3 a4 a5 a6 a7 a8 s kc ks Q P71 → P71 a8 s kc ks) → P71 a8 s kc ks
def C_Rr_gather_b57 (sa : Nat → Nat) (p0 : Nat) (p1 : Option Nat) (p2 : Int32) (p3 : Int32) (a4 : Option Nat) (a5 : Int32) (a6 : Int32) (u0 : Int32) (s : cS) (kc ks : Nat) (Q : (cS → Nat → Nat → Prop)) : Prop := ob a4 (fun b1 => (okO s 10 b1 ∧ C_Ta_clear sa b1 s kc ks (fun sr2 cr2 dr2 => (ob p1 (fun b3 => (okO sr2 4 b3 ∧ C_Po_forgetSummaries sa b3 sr2 cr2 dr2 (fun sr4 cr4 dr4 => ((C_Rr_gather_b71 sa p0 (some b3) p2 p3 (some b1) a5 a6 u0 (0 : Int32) sr4 cr4 dr4 Q)))))))))
def C_Rr_gather_b38 (sa : Nat → Nat) (p0 : Nat) (p1 : Option Nat) (p2 : Int32) (p3 : Int32) (a4 : Option Nat) (a5 : Int32) (u0 : Int32) (s : cS) (kc ks : Nat) (Q : (cS → Nat → Nat → Prop)) : Prop := if u0 = 0 then ((C_Rr_gather_b57 sa p0 p1 p2 p3 a4 a5 u0 (0 : Int32) s kc ks Q)) else (ob p1 (fun b1 => (ob (gI s 4 14 b1) (fun v2 => (if v2 = 0 then ((C_Rr_gather_b57 sa p0 (some b1) p2 p3 a4 a5 u0 (0 : Int32) s kc ks Q)) else ((C_Rr_gather_b57 sa p0 (some b1) p2 p3 a4 a5 u0 (1 : Int32) s kc ks Q)))))))
def C_Rr_gather_b19 (sa : Nat → Nat) (p0 : Nat) (p1 : Option Nat) (p2 : Int32) (p3 : Int32) (a4 : Option Nat) (u0 : Int32) (s : cS) (kc ks : Nat) (Q : (cS → Nat → Nat → Prop)) : Prop := if u0 = 0 then (ob p1 (fun b1 => (ob (gI s 4 13 b1) (fun v2 => (if 0 < v2 then ((C_Rr_gather_b38 sa p0 (some b1) p2 p3 a4 u0 (1 : Int32) s kc ks Q)) else ((C_Rr_gather_b38 sa p0 (some b1) p2 p3 a4 u0 (0 : Int32) s kc ks Q))))))) else ((C_Rr_gather_b38 sa p0 p1 p2 p3 a4 u0 (0 : Int32) s kc ks Q))
def C_Rr_gather (sa : Nat → Nat) (p0 : Nat) (p1 : Option Nat) (p2 : Int32) (p3 : Int32) (s : cS) (kc ks : Nat) (Q : (cS → Nat → Nat → Prop)) : Prop := ob (gP s 9 0 p0) (fun v1 => (ob v1 (fun b2 => (ob (gP s 11 17 b2) (fun v3 => (if p3 = (2 : Int32) then ((C_Rr_gather_b19 sa p0 p1 p2 p3 v3 (1 : Int32) s kc ks Q)) else ((C_Rr_gather_b19 sa p0 p1 p2 p3 v3 (0 : Int32) s kc ks Q))))))))
set_option maxRecDepth 100000 in
set_option maxHeartbeats 4000000 in
theorem kc_Rr_gather (base : Nat) (sa : Nat → Nat) {R : pmM} {s : cS} {kc ks : Nat} {Rt : pmR} {p0 : Nat} {p1 : Option Nat} {p2 : Int32} {p3 : Int32} {Q : (cS → Nat → Nat → Prop)} (hw : cW sa R base s) (h : C_Rr_gather sa p0 p1 p2 p3 s kc ks Q) (k : ∀ s' kc' ks', cW sa R base s' → Q s' kc' ks' → Rt none (cM R s') kc' ks') : kP_Rr_gather base sa [.ref p0, va_rf p1, .int p2, .int p3] (cM R s) kc ks Rt := by
  refine ⟨by cases p1 <;> exact Nat.le_of_ble_eq_true rfl, fun G hG => ?_⟩
  have eL : lv_args 0 [.ref p0, va_rf p1, .int p2, .int p3] = [(0, va_rf (some p0)), (1, va_rf p1), (2, .int p2), (3, .int p3)] := by cases p1 <;> rfl
  rw [eL]
  have b286 : ∀ (a4 : Option Nat) (a6 : Int32) (s : cS) (kc ks : Nat), KK sa R base G 286 [(0, va_rf (some p0)), (1, va_rf p1), (2, .int p2), (3, .int p3), (4, va_rf a4), (6, .int a6)] [] s kc ks (C_Rr_gather_b286 sa p0 p1 p2 p3 a4 a6 s kc ks Q) := by
    intro a4 a6 s kc ks
    refine kk_aln hG (x := (some p0)) rfl rfl ?_
    refine kk_aln hG (x := p1) rfl rfl ?_
    refine kk_cv hG 0 rfl rfl (Nat.le_of_ble_eq_true rfl) (by decide) rfl (st' := []) rfl (cats_le (Nat.le_of_ble_eq_true rfl)) (fun _ hw h k => kk_rcv h.1 (kc_Rr_gatherSummaries base sa hw h.2 k)) (fun sr1 cr1 dr1 => ?_)
    refine kks hG rfl rfl ?_
    refine kk_zeq hG (t := 330) rfl rfl ?_ ?_
    · exact kk_rv hG rfl rfl k
    refine kks hG rfl rfl ?_
    refine kk_zne hG (t := 330) rfl rfl ?_ ?_
    · exact kk_rv hG rfl rfl k
    refine kk_aln hG (x := (some p0)) rfl rfl ?_
    refine kk_gp hG (c := 9) (k := 0) (a := p0) rfl rfl rfl rfl (fun v2 => ?_)
    refine kk_ob (fun b3 eb3 => ?_)
    subst eb3
    refine kk_gp hG (c := 11) (k := 18) (a := b3) rfl rfl rfl rfl (fun v4 => ?_)
    refine kks hG rfl rfl ?_
    refine kk_ic hG rfl cc_i0 ?_
    refine kk_ob (fun b5 eb5 => ?_)
    subst eb5
    refine kk_cv hG 0 rfl rfl (Nat.le_of_ble_eq_true rfl) (by decide) rfl (st' := []) rfl (cats_le (Nat.le_of_ble_eq_true rfl)) (fun _ hw h k => kk_rcv h.1 (kc_Pr_setZero base sa hw h.2 k)) (fun sr6 cr6 dr6 => ?_)
    refine kk_al hG (x := a4) rfl rfl ?_
    refine kk_aln hG (x := (some p0)) rfl rfl ?_
    refine kk_gp hG (c := 9) (k := 0) (a := p0) rfl rfl rfl rfl (fun v7 => ?_)
    refine kk_ob (fun b8 eb8 => ?_)
    subst eb8
    refine kk_gp hG (c := 11) (k := 18) (a := b8) rfl rfl rfl rfl (fun v9 => ?_)
    refine kk_ic hG rfl cc_i0 ?_
    refine kk_aln hG (x := p1) rfl rfl ?_
    refine kk_ob (fun b10 eb10 => ?_)
    subst eb10
    refine kk_gi hG (c := 4) (k := 13) (a := b10) rfl rfl rfl rfl (fun v11 => ?_)
    refine kk_ob (fun b12 eb12 => ?_)
    subst eb12
    refine kk_cx (w := va_rf) hG 0 rfl rfl (Nat.le_of_ble_eq_true rfl) (by decide) rfl (st' := []) rfl (cats_le (Nat.le_of_ble_eq_true rfl)) (fun _ hw h k => kk_rcv h.1 (kc_Ta_add base sa hw h.2 k)) (fun r13 sr13 cr13 dr13 => ?_)
    refine kk_pop hG (x := r13) rfl ?_
    exact kk_rv hG rfl rfl k
  have b71 : ∀ (a4 : Option Nat) (a5 : Int32) (a6 : Int32) (a7 : Int32) (a8 : Int32) (s : cS) (kc ks : Nat), KK sa R base G 71 [(0, va_rf (some p0)), (1, va_rf p1), (2, .int p2), (3, .int p3), (4, va_rf a4), (5, .int a5), (6, .int a6), (7, .int a7), (8, .int a8)] [] s kc ks (C_Rr_gather_b71 sa p0 p1 p2 p3 a4 a5 a6 a7 a8 s kc ks Q) := by
    intro a4 a5 a6 a7
    have H : ∀ (P71 : (Int32 → cS → Nat → Nat → Prop)) (hP71 : ∀ (a8 : Int32) (s : cS) (kc ks : Nat), P71 a8 s kc ks → cW sa R base s → G 71 [(0, va_rf (some p0)), (1, va_rf p1), (2, .int p2), (3, .int p3), (4, va_rf a4), (5, .int a5), (6, .int a6), (7, .int a7), (8, .int a8)] [] (cM R s) kc ks) (a8 : Int32) (s : cS) (kc ks : Nat), KK sa R base G 71 [(0, va_rf (some p0)), (1, va_rf p1), (2, .int p2), (3, .int p3), (4, va_rf a4), (5, .int a5), (6, .int a6), (7, .int a7), (8, .int a8)] [] s kc ks (C_Rr_gather_s71 sa p0 p1 p2 p3 a4 a5 a6 a7 a8 s kc ks Q P71) := by
      intro P71 hP71
      have b280 : ∀ (a8 : Int32) (s : cS) (kc ks : Nat), KK sa R base G 280 [(0, va_rf (some p0)), (1, va_rf p1), (2, .int p2), (3, .int p3), (4, va_rf a4), (5, .int a5), (6, .int a6), (7, .int a7), (8, .int a8)] [] s kc ks (C_Rr_gather_b280 sa p0 p1 p2 p3 a4 a5 a6 a7 a8 s kc ks Q P71) := by
        intro a8 s kc ks
        refine kk_inc hG (L' := [(8, .int (a8 + (1 : Int32))), (0, va_rf (some p0)), (1, va_rf p1), (2, .int p2), (3, .int p3), (4, va_rf a4), (5, .int a5), (6, .int a6), (7, .int a7)]) rfl (Nat.le_of_ble_eq_true rfl) rfl cc_i1 rfl ?_
        refine kk_go hG (t := 71) rfl rfl ?_
        exact kk_wl hG [1, 2, 3, 4, 5, 6, 7, 8, 0] rfl (fun hw h => hP71 _ _ _ _ h hw)
      have b265 : ∀ (a8 : Int32) (a9 : Option Nat) (a10 : Int32) (a11 : Int32) (s : cS) (kc ks : Nat), KK sa R base G 265 [(0, va_rf (some p0)), (1, va_rf p1), (2, .int p2), (3, .int p3), (4, va_rf a4), (5, .int a5), (6, .int a6), (7, .int a7), (8, .int a8), (9, va_rf a9), (10, .int a10), (11, .int a11)] [] s kc ks (C_Rr_gather_b265 sa p0 p1 p2 p3 a4 a5 a6 a7 a8 a9 a10 a11 s kc ks Q P71) := by
        intro a8 a9 a10 a11 s kc ks
        refine kk_al hG (x := a4) rfl rfl ?_
        refine kk_al hG (x := a9) rfl rfl ?_
        refine kk_ob (fun b1 eb1 => ?_)
        subst eb1
        refine kk_gp hG (c := 8) (k := 0) (a := b1) rfl rfl rfl rfl (fun v2 => ?_)
        refine kks hG rfl rfl ?_
        refine kks hG rfl rfl ?_
        refine kk_ob (fun b3 eb3 => ?_)
        subst eb3
        refine kk_cx (w := va_rf) hG 0 rfl rfl (Nat.le_of_ble_eq_true rfl) (by decide) rfl (st' := []) rfl (cats_le (Nat.le_of_ble_eq_true rfl)) (fun _ hw h k => kk_rcv h.1 (kc_Ta_add base sa hw h.2 k)) (fun r4 sr4 cr4 dr4 => ?_)
        refine kk_pop hG (x := r4) rfl ?_
        exact kk_wl hG [0, 1, 2, 3, 4, 5, 6, 7, 8] rfl (b280 _ _ _ _)
      have b193 : ∀ (a8 : Int32) (a9 : Option Nat) (a10 : Int32) (a11 : Int32) (a12 : Int32) (u0 : Int32) (s : cS) (kc ks : Nat), KK sa R base G 193 [(0, va_rf (some p0)), (1, va_rf p1), (2, .int p2), (3, .int p3), (4, va_rf a4), (5, .int a5), (6, .int a6), (7, .int a7), (8, .int a8), (9, va_rf a9), (10, .int a10), (11, .int a11), (12, .int a12)] [.int u0] s kc ks (C_Rr_gather_b193 sa p0 p1 p2 p3 a4 a5 a6 a7 a8 a9 a10 a11 a12 u0 s kc ks Q P71) := by
        intro a8 a9 a10 a11 a12 u0 s kc ks
        refine kk_st hG (L' := [(13, .int u0), (0, va_rf (some p0)), (1, va_rf p1), (2, .int p2), (3, .int p3), (4, va_rf a4), (5, .int a5), (6, .int a6), (7, .int a7), (8, .int a8), (9, va_rf a9), (10, .int a10), (11, .int a11), (12, .int a12)]) rfl rfl (Nat.le_of_ble_eq_true rfl) rfl ?_
        refine kks hG rfl rfl ?_
        refine kk_ic hG rfl cc_im1 ?_
        refine kk_ine hG (t := 204) rfl rfl ?_ ?_
        · refine kks hG rfl rfl ?_
          refine kk_ic hG rfl cc_im1 ?_
          refine kk_ieq hG (t := 244) rfl rfl ?_ ?_
          · refine kks hG rfl rfl ?_
            refine kk_zeq hG (t := 280) rfl rfl ?_ ?_
            · exact kk_wl hG [1, 2, 3, 4, 5, 6, 7, 8, 9] rfl (b280 _ _ _ _)
            refine kks hG rfl rfl ?_
            refine kk_zeq hG (t := 265) rfl rfl ?_ ?_
            · exact kk_wl hG [1, 2, 3, 4, 5, 6, 7, 8, 9, 10, 11, 12] rfl (b265 _ _ _ _ _ _ _)
            refine kk_al hG (x := a9) rfl rfl ?_
            refine kk_ob (fun b1 eb1 => ?_)
            subst eb1
            refine kk_gp hG (c := 8) (k := 0) (a := b1) rfl rfl rfl rfl (fun v2 => ?_)
            refine kk_ob (fun b3 eb3 => ?_)
            subst eb3
            refine kk_gi hG (c := 5) (k := 3) (a := b3) rfl rfl rfl rfl (fun v4 => ?_)
            refine kk_zeq hG (t := 280) rfl rfl ?_ ?_
            · exact kk_wl hG [1, 2, 3, 4, 5, 6, 7, 8, 9] rfl (b280 _ _ _ _)
            exact kk_wl hG [1, 2, 3, 4, 5, 6, 7, 8, 9, 10, 11, 12] rfl (b265 _ _ _ _ _ _ _)
          refine kk_aln hG (x := p1) rfl rfl ?_
          refine kk_ob (fun b5 eb5 => ?_)
          subst eb5
          refine kk_gp hG (c := 4) (k := 9) (a := b5) rfl rfl rfl rfl (fun v6 => ?_)
          refine kks hG rfl rfl ?_
          refine kk_aln hG (x := (some b5)) rfl rfl ?_
          refine kk_gp hG (c := 4) (k := 9) (a := b5) rfl rfl rfl rfl (fun v7 => ?_)
          refine kks hG rfl rfl ?_
          refine kk_ob (fun b8 eb8 => ?_)
          subst eb8
          refine kk_ia hG (a := b8) rfl (fun v9 => ?_)
          refine kks hG rfl rfl ?_
          refine kk_mn hG rfl rfl (Nat.le_of_ble_eq_true rfl) ?_
          refine kk_ob (fun b10 eb10 => ?_)
          subst eb10
          refine kk_is hG (a := b10) rfl (fun s11 => ?_)
          refine kk_aln hG (x := (some b5)) rfl rfl ?_
          refine kk_gp hG (c := 4) (k := 10) (a := b5) rfl rfl rfl rfl (fun v12 => ?_)
          refine kks hG rfl rfl ?_
          refine kk_dup2 hG (x := v12) rfl ?_
          refine kk_ob (fun b13 eb13 => ?_)
          subst eb13
          refine kk_za hG (a := b13) rfl (fun v14 => ?_)
          refine kks hG rfl rfl ?_
          refine kks hG rfl rfl ?_
          refine kk_zs hG (a := b13) rfl (fun s15 => ?_)
          refine kk_go hG (t := 280) rfl rfl ?_
          exact kk_wl hG [1, 2, 3, 4, 5, 6, 7, 8, 9] rfl (b280 _ _ _ _)
        refine kk_go hG (t := 280) rfl rfl ?_
        exact kk_wl hG [1, 2, 3, 4, 5, 6, 7, 8, 9] rfl (b280 _ _ _ _)
      have b173 : ∀ (a8 : Int32) (a9 : Option Nat) (a10 : Int32) (a11 : Int32) (u0 : Int32) (s : cS) (kc ks : Nat), KK sa R base G 173 [(0, va_rf (some p0)), (1, va_rf p1), (2, .int p2), (3, .int p3), (4, va_rf a4), (5, .int a5), (6, .int a6), (7, .int a7), (8, .int a8), (9, va_rf a9), (10, .int a10), (11, .int a11)] [.int u0] s kc ks (C_Rr_gather_b173 sa p0 p1 p2 p3 a4 a5 a6 a7 a8 a9 a10 a11 u0 s kc ks Q P71) := by
        intro a8 a9 a10 a11 u0 s kc ks
        refine kk_st hG (L' := [(12, .int u0), (0, va_rf (some p0)), (1, va_rf p1), (2, .int p2), (3, .int p3), (4, va_rf a4), (5, .int a5), (6, .int a6), (7, .int a7), (8, .int a8), (9, va_rf a9), (10, .int a10), (11, .int a11)]) rfl rfl (Nat.le_of_ble_eq_true rfl) rfl ?_
        refine kks hG rfl rfl ?_
        refine kk_ic hG rfl cc_i1 ?_
        refine kk_ine hG (t := 188) rfl rfl ?_ ?_
        · refine kk_ic hG rfl cc_i1 ?_
          refine kk_go hG (t := 193) rfl rfl ?_
          exact kk_wl hG [1, 2, 3, 4, 5, 6, 7, 8, 9, 10, 11, 12, 0] rfl (b193 _ _ _ _ _ _ _ _ _)
        refine kk_al hG (x := a9) rfl rfl ?_
        refine kk_ob (fun b1 eb1 => ?_)
        subst eb1
        refine kk_gi hG (c := 8) (k := 7) (a := b1) rfl rfl rfl rfl (fun v2 => ?_)
        refine kk_zeq hG (t := 192) rfl rfl ?_ ?_
        · refine kk_ic hG rfl cc_i0 ?_
          exact kk_wl hG [1, 2, 3, 4, 5, 6, 7, 8, 9, 10, 11, 12, 0] rfl (b193 _ _ _ _ _ _ _ _ _)
        refine kk_ic hG rfl cc_i1 ?_
        refine kk_go hG (t := 193) rfl rfl ?_
        exact kk_wl hG [1, 2, 3, 4, 5, 6, 7, 8, 9, 10, 11, 12, 0] rfl (b193 _ _ _ _ _ _ _ _ _)
      have b153 : ∀ (a8 : Int32) (a9 : Option Nat) (a10 : Int32) (u0 : Int32) (s : cS) (kc ks : Nat), KK sa R base G 153 [(0, va_rf (some p0)), (1, va_rf p1), (2, .int p2), (3, .int p3), (4, va_rf a4), (5, .int a5), (6, .int a6), (7, .int a7), (8, .int a8), (9, va_rf a9), (10, .int a10)] [.int u0] s kc ks (C_Rr_gather_b153 sa p0 p1 p2 p3 a4 a5 a6 a7 a8 a9 a10 u0 s kc ks Q P71) := by
        intro a8 a9 a10 u0 s kc ks
        refine kk_st hG (L' := [(11, .int u0), (0, va_rf (some p0)), (1, va_rf p1), (2, .int p2), (3, .int p3), (4, va_rf a4), (5, .int a5), (6, .int a6), (7, .int a7), (8, .int a8), (9, va_rf a9), (10, .int a10)]) rfl rfl (Nat.le_of_ble_eq_true rfl) rfl ?_
        refine kks hG rfl rfl ?_
        refine kk_zeq hG (t := 164) rfl rfl ?_ ?_
        · refine kk_aln hG (x := p1) rfl rfl ?_
          refine kk_al hG (x := a9) rfl rfl ?_
          refine kk_ob (fun b1 eb1 => ?_)
          subst eb1
          refine kk_gp hG (c := 8) (k := 0) (a := b1) rfl rfl rfl rfl (fun v2 => ?_)
          refine kk_ob (fun b3 eb3 => ?_)
          subst eb3
          refine kk_cx (w := .int) hG 0 rfl rfl (Nat.le_of_ble_eq_true rfl) (by decide) rfl (st' := []) rfl (cats_le (Nat.le_of_ble_eq_true rfl)) (fun _ hw h k => kk_rcv h.1 (kc_Po_summaryOf base sa hw h.2 k)) (fun r4 sr4 cr4 dr4 => ?_)
          exact kk_wl hG [1, 2, 3, 4, 5, 6, 7, 8, 9, 10, 11, 0] rfl (b173 _ _ _ _ _ _ _ _)
        refine kk_ic hG rfl cc_im1 ?_
        refine kk_go hG (t := 173) rfl rfl ?_
        exact kk_wl hG [1, 2, 3, 4, 5, 6, 7, 8, 9, 10, 11, 0] rfl (b173 _ _ _ _ _ _ _ _)
      have b132 : ∀ (a8 : Int32) (a9 : Option Nat) (u0 : Int32) (s : cS) (kc ks : Nat), KK sa R base G 132 [(0, va_rf (some p0)), (1, va_rf p1), (2, .int p2), (3, .int p3), (4, va_rf a4), (5, .int a5), (6, .int a6), (7, .int a7), (8, .int a8), (9, va_rf a9)] [.int u0] s kc ks (C_Rr_gather_b132 sa p0 p1 p2 p3 a4 a5 a6 a7 a8 a9 u0 s kc ks Q P71) := by
        intro a8 a9 u0 s kc ks
        refine kk_st hG (L' := [(10, .int u0), (0, va_rf (some p0)), (1, va_rf p1), (2, .int p2), (3, .int p3), (4, va_rf a4), (5, .int a5), (6, .int a6), (7, .int a7), (8, .int a8), (9, va_rf a9)]) rfl rfl (Nat.le_of_ble_eq_true rfl) (by cases a9 <;> rfl) ?_
        refine kks hG rfl rfl ?_
        refine kk_zeq hG (t := 147) rfl rfl ?_ ?_
        · refine kk_aln hG (x := (some p0)) rfl rfl ?_
          refine kk_al hG (x := a9) rfl rfl ?_
          refine kk_cx (w := .int) hG 0 rfl rfl (Nat.le_of_ble_eq_true rfl) (by decide) rfl (st' := []) rfl (cats_le (Nat.le_of_ble_eq_true rfl)) (fun _ hw h k => kk_rcv h.1 (kc_Rr_toldTag base sa hw h.2 k)) (fun r1 sr1 cr1 dr1 => ?_)
          exact kk_wl hG [1, 2, 3, 4, 5, 6, 7, 8, 9, 10, 0] rfl (b153 _ _ _ _ _ _ _)
        refine kk_al hG (x := a9) rfl rfl ?_
        refine kk_ob (fun b2 eb2 => ?_)
        subst eb2
        refine kk_gi hG (c := 8) (k := 5) (a := b2) rfl rfl rfl rfl (fun v3 => ?_)
        refine kk_go hG (t := 153) rfl rfl ?_
        exact kk_wl hG [1, 2, 3, 4, 5, 6, 7, 8, 9, 10, 0] rfl (b153 _ _ _ _ _ _ _)
      intro a8 s kc ks
      refine kks hG rfl rfl ?_
      refine kk_aln hG (x := (some p0)) rfl rfl ?_
      refine kk_gp hG (c := 9) (k := 6) (a := p0) rfl rfl rfl rfl (fun v1 => ?_)
      refine kk_ob (fun b2 eb2 => ?_)
      subst eb2
      refine kk_gi hG (c := 10) (k := 1) (a := b2) rfl rfl rfl rfl (fun v3 => ?_)
      refine kk_ige hG (t := 286) rfl rfl ?_ ?_
      · exact kk_wl hG [0, 1, 2, 3, 4, 6] rfl (b286 _ _ _ _ _)
      refine kks hG rfl rfl ?_
      refine kk_zne hG (t := 286) rfl rfl ?_ ?_
      · exact kk_wl hG [0, 1, 2, 3, 4, 6] rfl (b286 _ _ _ _ _)
      refine kk_aln hG (x := (some p0)) rfl rfl ?_
      refine kk_gp hG (c := 9) (k := 6) (a := p0) rfl rfl rfl rfl (fun v4 => ?_)
      refine kk_ob (fun b5 eb5 => ?_)
      subst eb5
      refine kk_gp hG (c := 10) (k := 0) (a := b5) rfl rfl rfl rfl (fun v6 => ?_)
      refine kks hG rfl rfl ?_
      refine kk_ob (fun b7 eb7 => ?_)
      subst eb7
      refine kk_aa hG (a := b7) rfl (fun v8 => ?_)
      refine kk_as hG (x := v8) (L' := [(9, va_rf v8), (0, va_rf (some p0)), (1, va_rf p1), (2, .int p2), (3, .int p3), (4, va_rf a4), (5, .int a5), (6, .int a6), (7, .int a7), (8, .int a8)]) rfl (Nat.le_of_ble_eq_true rfl) rfl ?_
      refine kk_al hG (x := v8) rfl rfl ?_
      refine kk_ob (fun b9 eb9 => ?_)
      subst eb9
      refine kk_gp hG (c := 8) (k := 0) (a := b9) rfl rfl rfl rfl (fun v10 => ?_)
      refine kk_ob (fun b11 eb11 => ?_)
      subst eb11
      refine kk_gi hG (c := 5) (k := 0) (a := b11) rfl rfl rfl rfl (fun v12 => ?_)
      refine kks hG rfl rfl ?_
      refine kk_ieq hG (t := 115) rfl rfl ?_ ?_
      · refine kks hG rfl rfl ?_
        refine kk_zeq hG (t := 125) rfl rfl ?_ ?_
        · refine kk_aln hG (x := (some p0)) rfl rfl ?_
          refine kk_al hG (x := (some b9)) rfl rfl ?_
          refine kk_aln hG (x := p1) rfl rfl ?_
          refine kk_cx (w := .int) hG 0 rfl rfl (Nat.le_of_ble_eq_true rfl) (by decide) rfl (st' := []) rfl (cats_le (Nat.le_of_ble_eq_true rfl)) (fun _ hw h k => kk_rcv h.1 (kc_Rr_toldMetric base sa hw h.2 k)) (fun r13 sr13 cr13 dr13 => ?_)
          exact kk_wl hG [1, 2, 3, 4, 5, 6, 7, 8, 9, 0] rfl (b132 _ _ _ _ _ _)
        refine kk_bi hG rfl cc_b16 ?_
        refine kk_go hG (t := 132) rfl rfl ?_
        exact kk_wl hG [1, 2, 3, 4, 5, 6, 7, 8, 9, 0] rfl (b132 _ _ _ _ _ _)
      refine kk_go hG (t := 280) rfl rfl ?_
      exact kk_wl hG [1, 2, 3, 4, 5, 6, 7, 8, 9] rfl (b280 _ _ _ _)
    exact fun a8 s kc ks hw h => h (fun a8 s kc ks => cW sa R base s → G 71 [(0, va_rf (some p0)), (1, va_rf p1), (2, .int p2), (3, .int p3), (4, va_rf a4), (5, .int a5), (6, .int a6), (7, .int a7), (8, .int a8)] [] (cM R s) kc ks) (fun a8 s kc ks hs hw => H _ (fun _ _ _ _ hp hw => hp hw) a8 s kc ks hw hs) hw
  have b57 : ∀ (a4 : Option Nat) (a5 : Int32) (a6 : Int32) (u0 : Int32) (s : cS) (kc ks : Nat), KK sa R base G 57 [(0, va_rf (some p0)), (1, va_rf p1), (2, .int p2), (3, .int p3), (4, va_rf a4), (5, .int a5), (6, .int a6)] [.int u0] s kc ks (C_Rr_gather_b57 sa p0 p1 p2 p3 a4 a5 a6 u0 s kc ks Q) := by
    intro a4 a5 a6 u0 s kc ks
    refine kk_st hG (L' := [(7, .int u0), (0, va_rf (some p0)), (1, va_rf p1), (2, .int p2), (3, .int p3), (4, va_rf a4), (5, .int a5), (6, .int a6)]) rfl rfl (Nat.le_of_ble_eq_true rfl) rfl ?_
    refine kk_al hG (x := a4) rfl rfl ?_
    refine kk_ob (fun b1 eb1 => ?_)
    subst eb1
    refine kk_cv hG 0 rfl rfl (Nat.le_of_ble_eq_true rfl) (by decide) rfl (st' := []) rfl (cats_le (Nat.le_of_ble_eq_true rfl)) (fun _ hw h k => kk_rcv h.1 (kc_Ta_clear base sa hw h.2 k)) (fun sr2 cr2 dr2 => ?_)
    refine kk_aln hG (x := p1) rfl rfl ?_
    refine kk_ob (fun b3 eb3 => ?_)
    subst eb3
    refine kk_cv hG 0 rfl rfl (Nat.le_of_ble_eq_true rfl) (by decide) rfl (st' := []) rfl (cats_le (Nat.le_of_ble_eq_true rfl)) (fun _ hw h k => kk_rcv h.1 (kc_Po_forgetSummaries base sa hw h.2 k)) (fun sr4 cr4 dr4 => ?_)
    refine kk_ic hG rfl cc_i0 ?_
    refine kk_st hG (L' := [(8, .int (0 : Int32)), (7, .int u0), (0, va_rf (some p0)), (1, va_rf (some b3)), (2, .int p2), (3, .int p3), (4, va_rf (some b1)), (5, .int a5), (6, .int a6)]) rfl rfl (Nat.le_of_ble_eq_true rfl) rfl ?_
    exact kk_wl hG [2, 3, 4, 5, 6, 7, 8, 1, 0] rfl (b71 _ _ _ _ _ _ _ _)
  have b38 : ∀ (a4 : Option Nat) (a5 : Int32) (u0 : Int32) (s : cS) (kc ks : Nat), KK sa R base G 38 [(0, va_rf (some p0)), (1, va_rf p1), (2, .int p2), (3, .int p3), (4, va_rf a4), (5, .int a5)] [.int u0] s kc ks (C_Rr_gather_b38 sa p0 p1 p2 p3 a4 a5 u0 s kc ks Q) := by
    intro a4 a5 u0 s kc ks
    refine kk_st hG (L' := [(6, .int u0), (0, va_rf (some p0)), (1, va_rf p1), (2, .int p2), (3, .int p3), (4, va_rf a4), (5, .int a5)]) rfl rfl (Nat.le_of_ble_eq_true rfl) rfl ?_
    refine kks hG rfl rfl ?_
    refine kk_zeq hG (t := 56) rfl rfl ?_ ?_
    · refine kk_ic hG rfl cc_i0 ?_
      exact kk_wl hG [1, 2, 3, 4, 5, 6, 0] rfl (b57 _ _ _ _ _ _ _)
    refine kk_aln hG (x := p1) rfl rfl ?_
    refine kk_ob (fun b1 eb1 => ?_)
    subst eb1
    refine kk_gi hG (c := 4) (k := 14) (a := b1) rfl rfl rfl rfl (fun v2 => ?_)
    refine kk_zeq hG (t := 56) rfl rfl ?_ ?_
    · refine kk_ic hG rfl cc_i0 ?_
      exact kk_wl hG [1, 2, 3, 4, 5, 6, 0] rfl (b57 _ _ _ _ _ _ _)
    refine kk_ic hG rfl cc_i1 ?_
    refine kk_go hG (t := 57) rfl rfl ?_
    exact kk_wl hG [1, 2, 3, 4, 5, 6, 0] rfl (b57 _ _ _ _ _ _ _)
  have b19 : ∀ (a4 : Option Nat) (u0 : Int32) (s : cS) (kc ks : Nat), KK sa R base G 19 [(0, va_rf (some p0)), (1, va_rf p1), (2, .int p2), (3, .int p3), (4, va_rf a4)] [.int u0] s kc ks (C_Rr_gather_b19 sa p0 p1 p2 p3 a4 u0 s kc ks Q) := by
    intro a4 u0 s kc ks
    refine kk_st hG (L' := [(5, .int u0), (0, va_rf (some p0)), (1, va_rf p1), (2, .int p2), (3, .int p3), (4, va_rf a4)]) rfl rfl (Nat.le_of_ble_eq_true rfl) (by cases a4 <;> rfl) ?_
    refine kks hG rfl rfl ?_
    refine kk_zne hG (t := 37) rfl rfl ?_ ?_
    · refine kk_ic hG rfl cc_i0 ?_
      exact kk_wl hG [1, 2, 3, 4, 5, 0] rfl (b38 _ _ _ _ _ _)
    refine kk_aln hG (x := p1) rfl rfl ?_
    refine kk_ob (fun b1 eb1 => ?_)
    subst eb1
    refine kk_gi hG (c := 4) (k := 13) (a := b1) rfl rfl rfl rfl (fun v2 => ?_)
    refine kk_zle hG (t := 37) rfl rfl ?_ ?_
    · refine kk_ic hG rfl cc_i0 ?_
      exact kk_wl hG [1, 2, 3, 4, 5, 0] rfl (b38 _ _ _ _ _ _)
    refine kk_ic hG rfl cc_i1 ?_
    refine kk_go hG (t := 38) rfl rfl ?_
    exact kk_wl hG [1, 2, 3, 4, 5, 0] rfl (b38 _ _ _ _ _ _)
  refine (show KK sa R base G 0 [(0, va_rf (some p0)), (1, va_rf p1), (2, .int p2), (3, .int p3)] [] s kc ks (C_Rr_gather sa p0 p1 p2 p3 s kc ks Q) from ?_) hw h
  refine kk_aln hG (x := (some p0)) rfl rfl ?_
  refine kk_gp hG (c := 9) (k := 0) (a := p0) rfl rfl rfl rfl (fun v1 => ?_)
  refine kk_ob (fun b2 eb2 => ?_)
  subst eb2
  refine kk_gp hG (c := 11) (k := 17) (a := b2) rfl rfl rfl rfl (fun v3 => ?_)
  refine kk_as hG (x := v3) (L' := [(4, va_rf v3), (0, va_rf (some p0)), (1, va_rf p1), (2, .int p2), (3, .int p3)]) rfl (Nat.le_of_ble_eq_true rfl) rfl ?_
  refine kks hG rfl rfl ?_
  refine kk_ic hG rfl cc_i2 ?_
  refine kk_ine hG (t := 18) rfl rfl ?_ ?_
  · refine kk_ic hG rfl cc_i0 ?_
    exact kk_wl hG [1, 2, 3, 4, 0] rfl (b19 _ _ _ _ _)
  refine kk_ic hG rfl cc_i1 ?_
  refine kk_go hG (t := 19) rfl rfl ?_
  exact kk_wl hG [1, 2, 3, 4, 0] rfl (b19 _ _ _ _ _)
def C_Ch_bearer_b96 (sa : Nat → Nat) (p0 : Nat) (p1 : Int32) (a2 : Int32) (a3 : Int32) (s : cS) (kc ks : Nat) (Q : (Int32 → cS → Nat → Nat → Prop)) (P4 : (Int32 → Int32 → cS → Nat → Nat → Prop)) : Prop := (P4 a2 (a3 + (1 : Int32)) s kc ks)
def C_Ch_bearer_b94 (sa : Nat → Nat) (p0 : Nat) (p1 : Int32) (a3 : Int32) (s : cS) (kc ks : Nat) (Q : (Int32 → cS → Nat → Nat → Prop)) (P4 : (Int32 → Int32 → cS → Nat → Nat → Prop)) : Prop := (C_Ch_bearer_b96 sa p0 p1 a3 a3 s kc ks Q P4)
def C_Ch_bearer_b37 (sa : Nat → Nat) (p0 : Nat) (p1 : Int32) (a2 : Int32) (a3 : Int32) (u0 : Int32) (s : cS) (kc ks : Nat) (Q : (Int32 → cS → Nat → Nat → Prop)) (P4 : (Int32 → Int32 → cS → Nat → Nat → Prop)) : Prop := if u0 = 0 then ((C_Ch_bearer_b96 sa p0 p1 a2 a3 s kc ks Q P4)) else (if a2 = ((-1) : Int32) then ((C_Ch_bearer_b94 sa p0 p1 a3 s kc ks Q P4)) else (ob (gP s 1 5 p0) (fun v1 => (ob v1 (fun b2 => (ob (rE s .int b2 a3) (fun v3 => (ob (gP s 1 5 p0) (fun v4 => (ob v4 (fun b5 => (ob (rE s .int b5 a2) (fun v6 => (if v6 < v3 then ((C_Ch_bearer_b94 sa p0 p1 a3 s kc ks Q P4)) else (ob (gP s 1 5 p0) (fun v7 => (ob v7 (fun b8 => (ob (rE s .int b8 a3) (fun v9 => (ob (gP s 1 5 p0) (fun v10 => (ob v10 (fun b11 => (ob (rE s .int b11 a2) (fun v12 => (if v9 = v12 then (ob (gP s 1 3 p0) (fun v13 => (ob v13 (fun b14 => (ob (rE s .int b14 a3) (fun v15 => (ob (gP s 1 3 p0) (fun v16 => (ob v16 (fun b17 => (ob (rE s .int b17 a2) (fun v18 => (if v18 < v15 then ((C_Ch_bearer_b94 sa p0 p1 a3 s kc ks Q P4)) else ((C_Ch_bearer_b96 sa p0 p1 a2 a3 s kc ks Q P4))))))))))))))) else ((C_Ch_bearer_b96 sa p0 p1 a2 a3 s kc ks Q P4)))))))))))))))))))))))))))))
def C_Ch_bearer_s4 (sa : Nat → Nat) (p0 : Nat) (p1 : Int32) (a2 : Int32) (a3 : Int32) (s : cS) (kc ks : Nat) (Q : (Int32 → cS → Nat → Nat → Prop)) (P4 : (Int32 → Int32 → cS → Nat → Nat → Prop)) : Prop := ob (gI s 1 2 p0) (fun v1 => (if a3 < v1 then (ob (gP s 1 5 p0) (fun v2 => (ob v2 (fun b3 => (ob (rE s .int b3 a3) (fun v4 => (if p1 < v4 then ((C_Ch_bearer_b37 sa p0 p1 a2 a3 (0 : Int32) s kc ks Q P4)) else (ob (gP s 1 6 p0) (fun v5 => (ob v5 (fun b6 => (ob (rE s .int b6 a3) (fun v7 => (if v7 < p1 then ((C_Ch_bearer_b37 sa p0 p1 a2 a3 (0 : Int32) s kc ks Q P4)) else ((C_Ch_bearer_b37 sa p0 p1 a2 a3 (1 : Int32) s kc ks Q P4)))))))))))))))) else ((Q a2 s kc ks))))
def C_Ch_bearer_b4 (sa : Nat → Nat) (p0 : Nat) (p1 : Int32) (a2 : Int32) (a3 : Int32) (s : cS) (kc ks : Nat) (Q : (Int32 → cS → Nat → Nat → Prop)) : Prop := ∀ P4 : (Int32 → Int32 → cS → Nat → Nat → Prop), (∀ (a2 : Int32) (a3 : Int32) (s : cS) (kc ks : Nat), C_Ch_bearer_s4 sa p0 p1 a2 a3 s kc ks Q P4 → P4 a2 a3 s kc ks) → P4 a2 a3 s kc ks
def C_Ch_bearer (sa : Nat → Nat) (p0 : Nat) (p1 : Int32) (s : cS) (kc ks : Nat) (Q : (Int32 → cS → Nat → Nat → Prop)) : Prop := (C_Ch_bearer_b4 sa p0 p1 ((-1) : Int32) (0 : Int32) s kc ks Q)
set_option maxRecDepth 100000 in
set_option maxHeartbeats 4000000 in
theorem kc_Ch_bearer (base : Nat) (sa : Nat → Nat) {R : pmM} {s : cS} {kc ks : Nat} {Rt : pmR} {p0 : Nat} {p1 : Int32} {Q : (Int32 → cS → Nat → Nat → Prop)} (hw : cW sa R base s) (h : C_Ch_bearer sa p0 p1 s kc ks Q) (k : ∀ r s' kc' ks', cW sa R base s' → Q r s' kc' ks' → Rt (some (.int r)) (cM R s') kc' ks') : kP_Ch_bearer base sa [.ref p0, .int p1] (cM R s) kc ks Rt := by
  refine ⟨Nat.le_of_ble_eq_true rfl, fun G hG => ?_⟩
  have b4 : ∀ (a2 : Int32) (a3 : Int32) (s : cS) (kc ks : Nat), KK sa R base G 4 [(0, va_rf (some p0)), (1, .int p1), (2, .int a2), (3, .int a3)] [] s kc ks (C_Ch_bearer_b4 sa p0 p1 a2 a3 s kc ks Q) := by
    have H : ∀ (P4 : (Int32 → Int32 → cS → Nat → Nat → Prop)) (hP4 : ∀ (a2 : Int32) (a3 : Int32) (s : cS) (kc ks : Nat), P4 a2 a3 s kc ks → cW sa R base s → G 4 [(0, va_rf (some p0)), (1, .int p1), (2, .int a2), (3, .int a3)] [] (cM R s) kc ks) (a2 : Int32) (a3 : Int32) (s : cS) (kc ks : Nat), KK sa R base G 4 [(0, va_rf (some p0)), (1, .int p1), (2, .int a2), (3, .int a3)] [] s kc ks (C_Ch_bearer_s4 sa p0 p1 a2 a3 s kc ks Q P4) := by
      intro P4 hP4
      have b96 : ∀ (a2 : Int32) (a3 : Int32) (s : cS) (kc ks : Nat), KK sa R base G 96 [(0, va_rf (some p0)), (1, .int p1), (2, .int a2), (3, .int a3)] [] s kc ks (C_Ch_bearer_b96 sa p0 p1 a2 a3 s kc ks Q P4) := by
        intro a2 a3 s kc ks
        refine kk_inc hG (L' := [(3, .int (a3 + (1 : Int32))), (0, va_rf (some p0)), (1, .int p1), (2, .int a2)]) rfl (Nat.le_of_ble_eq_true rfl) rfl cc_i1 rfl ?_
        refine kk_go hG (t := 4) rfl rfl ?_
        exact kk_wl hG [1, 2, 3, 0] rfl (fun hw h => hP4 _ _ _ _ _ h hw)
      have b94 : ∀ (a3 : Int32) (s : cS) (kc ks : Nat), KK sa R base G 94 [(0, va_rf (some p0)), (1, .int p1), (3, .int a3)] [] s kc ks (C_Ch_bearer_b94 sa p0 p1 a3 s kc ks Q P4) := by
        intro a3 s kc ks
        refine kks hG rfl rfl ?_
        refine kk_st hG (L' := [(2, .int a3), (0, va_rf (some p0)), (1, .int p1), (3, .int a3)]) rfl rfl (Nat.le_of_ble_eq_true rfl) rfl ?_
        exact kk_wl hG [1, 2, 0, 3] rfl (b96 _ _ _ _ _)
      have b37 : ∀ (a2 : Int32) (a3 : Int32) (u0 : Int32) (s : cS) (kc ks : Nat), KK sa R base G 37 [(0, va_rf (some p0)), (1, .int p1), (2, .int a2), (3, .int a3)] [.int u0] s kc ks (C_Ch_bearer_b37 sa p0 p1 a2 a3 u0 s kc ks Q P4) := by
        intro a2 a3 u0 s kc ks
        refine kk_st hG (L' := [(4, .int u0), (0, va_rf (some p0)), (1, .int p1), (2, .int a2), (3, .int a3)]) rfl rfl (Nat.le_of_ble_eq_true rfl) rfl ?_
        refine kks hG rfl rfl ?_
        refine kk_zeq hG (t := 96) rfl rfl ?_ ?_
        · exact kk_wl hG [1, 2, 3, 4] rfl (b96 _ _ _ _ _)
        refine kks hG rfl rfl ?_
        refine kk_ic hG rfl cc_im1 ?_
        refine kk_ieq hG (t := 94) rfl rfl ?_ ?_
        · exact kk_wl hG [1, 2, 4] rfl (b94 _ _ _ _)
        refine kk_aln hG (x := (some p0)) rfl rfl ?_
        refine kk_gp hG (c := 1) (k := 5) (a := p0) rfl rfl rfl rfl (fun v1 => ?_)
        refine kks hG rfl rfl ?_
        refine kk_ob (fun b2 eb2 => ?_)
        subst eb2
        refine kk_ia hG (a := b2) rfl (fun v3 => ?_)
        refine kk_aln hG (x := (some p0)) rfl rfl ?_
        refine kk_gp hG (c := 1) (k := 5) (a := p0) rfl rfl rfl rfl (fun v4 => ?_)
        refine kks hG rfl rfl ?_
        refine kk_ob (fun b5 eb5 => ?_)
        subst eb5
        refine kk_ia hG (a := b5) rfl (fun v6 => ?_)
        refine kk_igt hG (t := 94) rfl rfl ?_ ?_
        · exact kk_wl hG [1, 2, 4] rfl (b94 _ _ _ _)
        refine kk_aln hG (x := (some p0)) rfl rfl ?_
        refine kk_gp hG (c := 1) (k := 5) (a := p0) rfl rfl rfl rfl (fun v7 => ?_)
        refine kks hG rfl rfl ?_
        refine kk_ob (fun b8 eb8 => ?_)
        subst eb8
        refine kk_ia hG (a := b8) rfl (fun v9 => ?_)
        refine kk_aln hG (x := (some p0)) rfl rfl ?_
        refine kk_gp hG (c := 1) (k := 5) (a := p0) rfl rfl rfl rfl (fun v10 => ?_)
        refine kks hG rfl rfl ?_
        refine kk_ob (fun b11 eb11 => ?_)
        subst eb11
        refine kk_ia hG (a := b11) rfl (fun v12 => ?_)
        refine kk_ine hG (t := 96) rfl rfl ?_ ?_
        · exact kk_wl hG [1, 2, 3, 4] rfl (b96 _ _ _ _ _)
        refine kk_aln hG (x := (some p0)) rfl rfl ?_
        refine kk_gp hG (c := 1) (k := 3) (a := p0) rfl rfl rfl rfl (fun v13 => ?_)
        refine kks hG rfl rfl ?_
        refine kk_ob (fun b14 eb14 => ?_)
        subst eb14
        refine kk_ia hG (a := b14) rfl (fun v15 => ?_)
        refine kk_aln hG (x := (some p0)) rfl rfl ?_
        refine kk_gp hG (c := 1) (k := 3) (a := p0) rfl rfl rfl rfl (fun v16 => ?_)
        refine kks hG rfl rfl ?_
        refine kk_ob (fun b17 eb17 => ?_)
        subst eb17
        refine kk_ia hG (a := b17) rfl (fun v18 => ?_)
        refine kk_ile hG (t := 96) rfl rfl ?_ ?_
        · exact kk_wl hG [1, 2, 3, 4] rfl (b96 _ _ _ _ _)
        exact kk_wl hG [1, 2, 4] rfl (b94 _ _ _ _)
      intro a2 a3 s kc ks
      refine kks hG rfl rfl ?_
      refine kk_aln hG (x := (some p0)) rfl rfl ?_
      refine kk_gi hG (c := 1) (k := 2) (a := p0) rfl rfl rfl rfl (fun v1 => ?_)
      refine kk_ige hG (t := 102) rfl rfl ?_ ?_
      · refine kks hG rfl rfl ?_
        exact kk_ri hG rfl rfl rfl k
      refine kk_aln hG (x := (some p0)) rfl rfl ?_
      refine kk_gp hG (c := 1) (k := 5) (a := p0) rfl rfl rfl rfl (fun v2 => ?_)
      refine kks hG rfl rfl ?_
      refine kk_ob (fun b3 eb3 => ?_)
      subst eb3
      refine kk_ia hG (a := b3) rfl (fun v4 => ?_)
      refine kks hG rfl rfl ?_
      refine kk_igt hG (t := 36) rfl rfl ?_ ?_
      · refine kk_ic hG rfl cc_i0 ?_
        exact kk_wl hG [0, 1, 2, 3] rfl (b37 _ _ _ _ _ _)
      refine kks hG rfl rfl ?_
      refine kk_aln hG (x := (some p0)) rfl rfl ?_
      refine kk_gp hG (c := 1) (k := 6) (a := p0) rfl rfl rfl rfl (fun v5 => ?_)
      refine kks hG rfl rfl ?_
      refine kk_ob (fun b6 eb6 => ?_)
      subst eb6
      refine kk_ia hG (a := b6) rfl (fun v7 => ?_)
      refine kk_igt hG (t := 36) rfl rfl ?_ ?_
      · refine kk_ic hG rfl cc_i0 ?_
        exact kk_wl hG [0, 1, 2, 3] rfl (b37 _ _ _ _ _ _)
      refine kk_ic hG rfl cc_i1 ?_
      refine kk_go hG (t := 37) rfl rfl ?_
      exact kk_wl hG [0, 1, 2, 3] rfl (b37 _ _ _ _ _ _)
    exact fun a2 a3 s kc ks hw h => h (fun a2 a3 s kc ks => cW sa R base s → G 4 [(0, va_rf (some p0)), (1, .int p1), (2, .int a2), (3, .int a3)] [] (cM R s) kc ks) (fun a2 a3 s kc ks hs hw => H _ (fun _ _ _ _ _ hp hw => hp hw) a2 a3 s kc ks hw hs) hw
  refine (show KK sa R base G 0 [(0, va_rf (some p0)), (1, .int p1)] [] s kc ks (C_Ch_bearer sa p0 p1 s kc ks Q) from ?_) hw h
  refine kk_ic hG rfl cc_im1 ?_
  refine kk_st hG (L' := [(2, .int ((-1) : Int32)), (0, va_rf (some p0)), (1, .int p1)]) rfl rfl (Nat.le_of_ble_eq_true rfl) rfl ?_
  refine kk_ic hG rfl cc_i0 ?_
  refine kk_st hG (L' := [(3, .int (0 : Int32)), (2, .int ((-1) : Int32)), (0, va_rf (some p0)), (1, .int p1)]) rfl rfl (Nat.le_of_ble_eq_true rfl) rfl ?_
  exact kk_wl hG [2, 3, 1, 0] rfl (b4 _ _ _ _ _)
def C_By_clear (sa : Nat → Nat) (p0 : Nat) (s : cS) (kc ks : Nat) (Q : (cS → Nat → Nat → Prop)) : Prop := ob (pI s 0 1 p0 (0 : Int32)) (fun s1 => (Q s1 kc ks))
set_option maxRecDepth 100000 in
set_option maxHeartbeats 4000000 in
theorem kc_By_clear (base : Nat) (sa : Nat → Nat) {R : pmM} {s : cS} {kc ks : Nat} {Rt : pmR} {p0 : Nat} {Q : (cS → Nat → Nat → Prop)} (hw : cW sa R base s) (h : C_By_clear sa p0 s kc ks Q) (k : ∀ s' kc' ks', cW sa R base s' → Q s' kc' ks' → Rt none (cM R s') kc' ks') : kP_By_clear base sa [.ref p0] (cM R s) kc ks Rt := by
  refine ⟨Nat.le_of_ble_eq_true rfl, fun G hG => ?_⟩
  refine (show KK sa R base G 0 [(0, va_rf (some p0))] [] s kc ks (C_By_clear sa p0 s kc ks Q) from ?_) hw h
  refine kk_aln hG (x := (some p0)) rfl rfl ?_
  refine kk_ic hG rfl cc_i0 ?_
  refine kk_pi hG (c := 0) (k := 1) (a := p0) rfl rfl rfl rfl (fun s1 => ?_)
  exact kk_rv hG rfl rfl k
def C_By_addZeros_s2 (sa : Nat → Nat) (p0 : Nat) (p1 : Int32) (a2 : Int32) (s : cS) (kc ks : Nat) (Q : (cS → Nat → Nat → Prop)) (P2 : (Int32 → cS → Nat → Nat → Prop)) : Prop := if a2 < p1 then (okO s 0 p0 ∧ C_By_add sa p0 (0 : Int32) s kc ks (fun sr1 cr1 dr1 => ((P2 (a2 + (1 : Int32)) sr1 cr1 dr1)))) else ((Q s kc ks))
def C_By_addZeros_b2 (sa : Nat → Nat) (p0 : Nat) (p1 : Int32) (a2 : Int32) (s : cS) (kc ks : Nat) (Q : (cS → Nat → Nat → Prop)) : Prop := ∀ P2 : (Int32 → cS → Nat → Nat → Prop), (∀ (a2 : Int32) (s : cS) (kc ks : Nat), C_By_addZeros_s2 sa p0 p1 a2 s kc ks Q P2 → P2 a2 s kc ks) → P2 a2 s kc ks
def C_By_addZeros (sa : Nat → Nat) (p0 : Nat) (p1 : Int32) (s : cS) (kc ks : Nat) (Q : (cS → Nat → Nat → Prop)) : Prop := (C_By_addZeros_b2 sa p0 p1 (0 : Int32) s kc ks Q)
set_option maxRecDepth 100000 in
set_option maxHeartbeats 4000000 in
theorem kc_By_addZeros (base : Nat) (sa : Nat → Nat) {R : pmM} {s : cS} {kc ks : Nat} {Rt : pmR} {p0 : Nat} {p1 : Int32} {Q : (cS → Nat → Nat → Prop)} (hw : cW sa R base s) (h : C_By_addZeros sa p0 p1 s kc ks Q) (k : ∀ s' kc' ks', cW sa R base s' → Q s' kc' ks' → Rt none (cM R s') kc' ks') : kP_By_addZeros base sa [.ref p0, .int p1] (cM R s) kc ks Rt := by
  refine ⟨Nat.le_of_ble_eq_true rfl, fun G hG => ?_⟩
  have b2 : ∀ (a2 : Int32) (s : cS) (kc ks : Nat), KK sa R base G 2 [(0, va_rf (some p0)), (1, .int p1), (2, .int a2)] [] s kc ks (C_By_addZeros_b2 sa p0 p1 a2 s kc ks Q) := by
    have H : ∀ (P2 : (Int32 → cS → Nat → Nat → Prop)) (hP2 : ∀ (a2 : Int32) (s : cS) (kc ks : Nat), P2 a2 s kc ks → cW sa R base s → G 2 [(0, va_rf (some p0)), (1, .int p1), (2, .int a2)] [] (cM R s) kc ks) (a2 : Int32) (s : cS) (kc ks : Nat), KK sa R base G 2 [(0, va_rf (some p0)), (1, .int p1), (2, .int a2)] [] s kc ks (C_By_addZeros_s2 sa p0 p1 a2 s kc ks Q P2) := by
      intro P2 hP2
      intro a2 s kc ks
      refine kks hG rfl rfl ?_
      refine kks hG rfl rfl ?_
      refine kk_ige hG (t := 18) rfl rfl ?_ ?_
      · exact kk_rv hG rfl rfl k
      refine kk_aln hG (x := (some p0)) rfl rfl ?_
      refine kk_ic hG rfl cc_i0 ?_
      refine kk_cv hG 0 rfl rfl (Nat.le_of_ble_eq_true rfl) (by decide) rfl (st' := []) rfl (cats_le (Nat.le_of_ble_eq_true rfl)) (fun _ hw h k => kk_rcv h.1 (kc_By_add base sa hw h.2 k)) (fun sr1 cr1 dr1 => ?_)
      refine kk_inc hG (L' := [(2, .int (a2 + (1 : Int32))), (0, va_rf (some p0)), (1, .int p1)]) rfl (Nat.le_of_ble_eq_true rfl) rfl cc_i1 rfl ?_
      refine kk_go hG (t := 2) rfl rfl ?_
      exact kk_wl hG [1, 2, 0] rfl (fun hw h => hP2 _ _ _ _ h hw)
    exact fun a2 s kc ks hw h => h (fun a2 s kc ks => cW sa R base s → G 2 [(0, va_rf (some p0)), (1, .int p1), (2, .int a2)] [] (cM R s) kc ks) (fun a2 s kc ks hs hw => H _ (fun _ _ _ _ hp hw => hp hw) a2 s kc ks hw hs) hw
  refine (show KK sa R base G 0 [(0, va_rf (some p0)), (1, .int p1)] [] s kc ks (C_By_addZeros sa p0 p1 s kc ks Q) from ?_) hw h
  refine kk_ic hG rfl cc_i0 ?_
  refine kk_st hG (L' := [(2, .int (0 : Int32)), (0, va_rf (some p0)), (1, .int p1)]) rfl rfl (Nat.le_of_ble_eq_true rfl) rfl ?_
  exact kk_wl hG [1, 2, 0] rfl (b2 _ _ _ _)
def C_Ch_addPasswordEntry_s18 (sa : Nat → Nat) (p0 : Nat) (p1 : Option Nat) (a2 : Int32) (s : cS) (kc ks : Nat) (Q : (cS → Nat → Nat → Prop)) (P18 : (Int32 → cS → Nat → Nat → Prop)) : Prop := if a2 < (16 : Int32) then (ob (gP s 1 1 p0) (fun v1 => (ob v1 (fun b2 => (ob (rE s .byte b2 a2) (fun v3 => (ob p1 (fun b4 => (okO s 0 b4 ∧ C_By_add sa b4 v3 s kc ks (fun sr5 cr5 dr5 => ((P18 (a2 + (1 : Int32)) sr5 cr5 dr5)))))))))))) else ((Q s kc ks))
def C_Ch_addPasswordEntry_b18 (sa : Nat → Nat) (p0 : Nat) (p1 : Option Nat) (a2 : Int32) (s : cS) (kc ks : Nat) (Q : (cS → Nat → Nat → Prop)) : Prop := ∀ P18 : (Int32 → cS → Nat → Nat → Prop), (∀ (a2 : Int32) (s : cS) (kc ks : Nat), C_Ch_addPasswordEntry_s18 sa p0 p1 a2 s kc ks Q P18 → P18 a2 s kc ks) → P18 a2 s kc ks
def C_Ch_addPasswordEntry (sa : Nat → Nat) (p0 : Nat) (p1 : Option Nat) (s : cS) (kc ks : Nat) (Q : (cS → Nat → Nat → Prop)) : Prop := ob p1 (fun b1 => (okO s 0 b1 ∧ C_By_addNumber sa b1 (65535 : Int64) (2 : Int32) s kc ks (fun sr2 cr2 dr2 => (okO sr2 0 b1 ∧ C_By_addNumber sa b1 (2 : Int64) (2 : Int32) sr2 cr2 dr2 (fun sr3 cr3 dr3 => ((C_Ch_addPasswordEntry_b18 sa p0 (some b1) (0 : Int32) sr3 cr3 dr3 Q)))))))
set_option maxRecDepth 100000 in
set_option maxHeartbeats 4000000 in
theorem kc_Ch_addPasswordEntry (base : Nat) (sa : Nat → Nat) {R : pmM} {s : cS} {kc ks : Nat} {Rt : pmR} {p0 : Nat} {p1 : Option Nat} {Q : (cS → Nat → Nat → Prop)} (hw : cW sa R base s) (h : C_Ch_addPasswordEntry sa p0 p1 s kc ks Q) (k : ∀ s' kc' ks', cW sa R base s' → Q s' kc' ks' → Rt none (cM R s') kc' ks') : kP_Ch_addPasswordEntry base sa [.ref p0, va_rf p1] (cM R s) kc ks Rt := by
  refine ⟨by cases p1 <;> exact Nat.le_of_ble_eq_true rfl, fun G hG => ?_⟩
  have eL : lv_args 0 [.ref p0, va_rf p1] = [(0, va_rf (some p0)), (1, va_rf p1)] := by cases p1 <;> rfl
  rw [eL]
  have b18 : ∀ (a2 : Int32) (s : cS) (kc ks : Nat), KK sa R base G 18 [(0, va_rf (some p0)), (1, va_rf p1), (2, .int a2)] [] s kc ks (C_Ch_addPasswordEntry_b18 sa p0 p1 a2 s kc ks Q) := by
    have H : ∀ (P18 : (Int32 → cS → Nat → Nat → Prop)) (hP18 : ∀ (a2 : Int32) (s : cS) (kc ks : Nat), P18 a2 s kc ks → cW sa R base s → G 18 [(0, va_rf (some p0)), (1, va_rf p1), (2, .int a2)] [] (cM R s) kc ks) (a2 : Int32) (s : cS) (kc ks : Nat), KK sa R base G 18 [(0, va_rf (some p0)), (1, va_rf p1), (2, .int a2)] [] s kc ks (C_Ch_addPasswordEntry_s18 sa p0 p1 a2 s kc ks Q P18) := by
      intro P18 hP18
      intro a2 s kc ks
      refine kks hG rfl rfl ?_
      refine kk_bi hG rfl cc_b16 ?_
      refine kk_ige hG (t := 40) rfl rfl ?_ ?_
      · exact kk_rv hG rfl rfl k
      refine kk_aln hG (x := p1) rfl rfl ?_
      refine kk_aln hG (x := (some p0)) rfl rfl ?_
      refine kk_gp hG (c := 1) (k := 1) (a := p0) rfl rfl rfl rfl (fun v1 => ?_)
      refine kks hG rfl rfl ?_
      refine kk_ob (fun b2 eb2 => ?_)
      subst eb2
      refine kk_ba hG (a := b2) rfl (fun v3 => ?_)
      refine kk_ob (fun b4 eb4 => ?_)
      subst eb4
      refine kk_cv hG 0 rfl rfl (Nat.le_of_ble_eq_true rfl) (by decide) rfl (st' := []) rfl (cats_le (Nat.le_of_ble_eq_true rfl)) (fun _ hw h k => kk_rcv h.1 (kc_By_add base sa hw h.2 k)) (fun sr5 cr5 dr5 => ?_)
      refine kk_inc hG (L' := [(2, .int (a2 + (1 : Int32))), (0, va_rf (some p0)), (1, va_rf (some b4))]) rfl (Nat.le_of_ble_eq_true rfl) rfl cc_i1 rfl ?_
      refine kk_go hG (t := 18) rfl rfl ?_
      exact kk_wl hG [1, 2, 0] rfl (fun hw h => hP18 _ _ _ _ h hw)
    exact fun a2 s kc ks hw h => h (fun a2 s kc ks => cW sa R base s → G 18 [(0, va_rf (some p0)), (1, va_rf p1), (2, .int a2)] [] (cM R s) kc ks) (fun a2 s kc ks hs hw => H _ (fun _ _ _ _ hp hw => hp hw) a2 s kc ks hw hs) hw
  refine (show KK sa R base G 0 [(0, va_rf (some p0)), (1, va_rf p1)] [] s kc ks (C_Ch_addPasswordEntry sa p0 p1 s kc ks Q) from ?_) hw h
  refine kk_aln hG (x := p1) rfl rfl ?_
  refine kk_l2 hG (v := (65535 : Int64)) rfl rfl ?_
  refine kk_ic hG rfl cc_i2 ?_
  refine kk_ob (fun b1 eb1 => ?_)
  subst eb1
  refine kk_cv hG 0 rfl rfl (Nat.le_of_ble_eq_true rfl) (by decide) rfl (st' := []) rfl (cats_le (Nat.le_of_ble_eq_true rfl)) (fun _ hw h k => kk_rcv h.1 (kc_By_addNumber base sa hw h.2 k)) (fun sr2 cr2 dr2 => ?_)
  refine kk_aln hG (x := (some b1)) rfl rfl ?_
  refine kk_l2 hG (v := (2 : Int64)) rfl rfl ?_
  refine kk_ic hG rfl cc_i2 ?_
  refine kk_cv hG 0 rfl rfl (Nat.le_of_ble_eq_true rfl) (by decide) rfl (st' := []) rfl (cats_le (Nat.le_of_ble_eq_true rfl)) (fun _ hw h k => kk_rcv h.1 (kc_By_addNumber base sa hw h.2 k)) (fun sr3 cr3 dr3 => ?_)
  refine kk_ic hG rfl cc_i0 ?_
  refine kk_st hG (L' := [(2, .int (0 : Int32)), (0, va_rf (some p0)), (1, va_rf (some b1))]) rfl rfl (Nat.le_of_ble_eq_true rfl) rfl ?_
  exact kk_wl hG [1, 2, 0] rfl (b18 _ _ _ _)
def C_Ch_addKeyEntry (sa : Nat → Nat) (p0 : Nat) (p1 : Option Nat) (p2 : Int32) (p3 : Int32) (s : cS) (kc ks : Nat) (Q : (cS → Nat → Nat → Prop)) : Prop := ob p1 (fun b1 => (okO s 0 b1 ∧ C_By_addNumber sa b1 (65535 : Int64) (2 : Int32) s kc ks (fun sr2 cr2 dr2 => (okO sr2 0 b1 ∧ C_By_addNumber sa b1 (3 : Int64) (2 : Int32) sr2 cr2 dr2 (fun sr3 cr3 dr3 => (okO sr3 0 b1 ∧ C_By_addNumber sa b1 (0 : Int64) (2 : Int32) sr3 cr3 dr3 (fun sr4 cr4 dr4 => (ob (gP sr4 1 3 p0) (fun v5 => (ob v5 (fun b6 => (ob (rE sr4 .int b6 p2) (fun v7 => (okO sr4 0 b1 ∧ C_By_add sa b1 v7 sr4 cr4 dr4 (fun sr8 cr8 dr8 => (ob (gP sr8 1 4 p0) (fun v9 => (ob v9 (fun b10 => (ob (rE sr8 .int b10 p2) (fun v11 => (okO sr8 0 b1 ∧ C_By_add sa b1 v11 sr8 cr8 dr8 (fun sr12 cr12 dr12 => (okO sr12 0 b1 ∧ C_By_addNumber sa b1 (Int32.toInt64 p3) (4 : Int32) sr12 cr12 dr12 (fun sr13 cr13 dr13 => (okO sr13 0 b1 ∧ C_By_addZeros sa b1 (8 : Int32) sr13 cr13 dr13 (fun sr14 cr14 dr14 => (Q sr14 cr14 dr14))))))))))))))))))))))))))))
set_option maxRecDepth 100000 in
set_option maxHeartbeats 4000000 in
theorem kc_Ch_addKeyEntry (base : Nat) (sa : Nat → Nat) {R : pmM} {s : cS} {kc ks : Nat} {Rt : pmR} {p0 : Nat} {p1 : Option Nat} {p2 : Int32} {p3 : Int32} {Q : (cS → Nat → Nat → Prop)} (hw : cW sa R base s) (h : C_Ch_addKeyEntry sa p0 p1 p2 p3 s kc ks Q) (k : ∀ s' kc' ks', cW sa R base s' → Q s' kc' ks' → Rt none (cM R s') kc' ks') : kP_Ch_addKeyEntry base sa [.ref p0, va_rf p1, .int p2, .int p3] (cM R s) kc ks Rt := by
  refine ⟨by cases p1 <;> exact Nat.le_of_ble_eq_true rfl, fun G hG => ?_⟩
  have eL : lv_args 0 [.ref p0, va_rf p1, .int p2, .int p3] = [(0, va_rf (some p0)), (1, va_rf p1), (2, .int p2), (3, .int p3)] := by cases p1 <;> rfl
  rw [eL]
  refine (show KK sa R base G 0 [(0, va_rf (some p0)), (1, va_rf p1), (2, .int p2), (3, .int p3)] [] s kc ks (C_Ch_addKeyEntry sa p0 p1 p2 p3 s kc ks Q) from ?_) hw h
  refine kk_aln hG (x := p1) rfl rfl ?_
  refine kk_l2 hG (v := (65535 : Int64)) rfl rfl ?_
  refine kk_ic hG rfl cc_i2 ?_
  refine kk_ob (fun b1 eb1 => ?_)
  subst eb1
  refine kk_cv hG 0 rfl rfl (Nat.le_of_ble_eq_true rfl) (by decide) rfl (st' := []) rfl (cats_le (Nat.le_of_ble_eq_true rfl)) (fun _ hw h k => kk_rcv h.1 (kc_By_addNumber base sa hw h.2 k)) (fun sr2 cr2 dr2 => ?_)
  refine kk_aln hG (x := (some b1)) rfl rfl ?_
  refine kk_l2 hG (v := (3 : Int64)) rfl rfl ?_
  refine kk_ic hG rfl cc_i2 ?_
  refine kk_cv hG 0 rfl rfl (Nat.le_of_ble_eq_true rfl) (by decide) rfl (st' := []) rfl (cats_le (Nat.le_of_ble_eq_true rfl)) (fun _ hw h k => kk_rcv h.1 (kc_By_addNumber base sa hw h.2 k)) (fun sr3 cr3 dr3 => ?_)
  refine kk_aln hG (x := (some b1)) rfl rfl ?_
  refine kk_lc hG (c := 0) (v := 0) rfl rfl ?_
  refine kk_ic hG rfl cc_i2 ?_
  refine kk_cv hG 0 rfl rfl (Nat.le_of_ble_eq_true rfl) (by decide) rfl (st' := []) rfl (cats_le (Nat.le_of_ble_eq_true rfl)) (fun _ hw h k => kk_rcv h.1 (kc_By_addNumber base sa hw h.2 k)) (fun sr4 cr4 dr4 => ?_)
  refine kk_aln hG (x := (some b1)) rfl rfl ?_
  refine kk_aln hG (x := (some p0)) rfl rfl ?_
  refine kk_gp hG (c := 1) (k := 3) (a := p0) rfl rfl rfl rfl (fun v5 => ?_)
  refine kks hG rfl rfl ?_
  refine kk_ob (fun b6 eb6 => ?_)
  subst eb6
  refine kk_ia hG (a := b6) rfl (fun v7 => ?_)
  refine kk_cv hG 0 rfl rfl (Nat.le_of_ble_eq_true rfl) (by decide) rfl (st' := []) rfl (cats_le (Nat.le_of_ble_eq_true rfl)) (fun _ hw h k => kk_rcv h.1 (kc_By_add base sa hw h.2 k)) (fun sr8 cr8 dr8 => ?_)
  refine kk_aln hG (x := (some b1)) rfl rfl ?_
  refine kk_aln hG (x := (some p0)) rfl rfl ?_
  refine kk_gp hG (c := 1) (k := 4) (a := p0) rfl rfl rfl rfl (fun v9 => ?_)
  refine kks hG rfl rfl ?_
  refine kk_ob (fun b10 eb10 => ?_)
  subst eb10
  refine kk_ia hG (a := b10) rfl (fun v11 => ?_)
  refine kk_cv hG 0 rfl rfl (Nat.le_of_ble_eq_true rfl) (by decide) rfl (st' := []) rfl (cats_le (Nat.le_of_ble_eq_true rfl)) (fun _ hw h k => kk_rcv h.1 (kc_By_add base sa hw h.2 k)) (fun sr12 cr12 dr12 => ?_)
  refine kk_aln hG (x := (some b1)) rfl rfl ?_
  refine kks hG rfl rfl ?_
  refine kks hG rfl rfl ?_
  refine kk_ic hG rfl cc_i4 ?_
  refine kk_cv hG 0 rfl rfl (Nat.le_of_ble_eq_true rfl) (by decide) rfl (st' := []) rfl (cats_le (Nat.le_of_ble_eq_true rfl)) (fun _ hw h k => kk_rcv h.1 (kc_By_addNumber base sa hw h.2 k)) (fun sr13 cr13 dr13 => ?_)
  refine kk_aln hG (x := (some b1)) rfl rfl ?_
  refine kk_bi hG rfl cc_b8 ?_
  refine kk_cv hG 0 rfl rfl (Nat.le_of_ble_eq_true rfl) (by decide) rfl (st' := []) rfl (cats_le (Nat.le_of_ble_eq_true rfl)) (fun _ hw h k => kk_rcv h.1 (kc_By_addZeros base sa hw h.2 k)) (fun sr14 cr14 dr14 => ?_)
  exact kk_rv hG rfl rfl k
def C_Rr_openDraft_b143 (sa : Nat → Nat) (p1 : Option Nat) (a4 : Int32) (a5 : Option Nat) (s : cS) (kc ks : Nat) (Q : (Int32 → cS → Nat → Nat → Prop)) : Prop := if a4 = ((-1) : Int32) then (Q a4 s kc ks) else (ob p1 (fun b1 => (ob (gP s 4 6 b1) (fun v2 => (ob (gI s 4 15 b1) (fun v3 => (ob v2 (fun b4 => (okO s 1 b4 ∧ C_Ch_addKeyEntry sa b4 a5 a4 v3 s kc ks (fun sr5 cr5 dr5 => (ob (gI sr5 4 15 b1) (fun v6 => (ob (pI sr5 4 15 b1 (v6 + (1 : Int32))) (fun s7 => (Q a4 s7 cr5 dr5)))))))))))))))
def C_Rr_openDraft_b110 (sa : Nat → Nat) (p1 : Option Nat) (p2 : Int32) (a4 : Int32) (a5 : Option Nat) (u0 : Option Nat) (u1 : Int32) (s : cS) (kc ks : Nat) (Q : (Int32 → cS → Nat → Nat → Prop)) : Prop := ob u0 (fun b1 => (okO s 0 b1 ∧ C_By_add sa b1 u1 s kc ks (fun sr2 cr2 dr2 => (ob a5 (fun b3 => (okO sr2 0 b3 ∧ C_By_addZeros sa b3 (2 : Int32) sr2 cr2 dr2 (fun sr4 cr4 dr4 => (if p2 = (4 : Int32) then (ob p1 (fun b5 => (ob (gP sr4 4 6 b5) (fun v6 => (ob v6 (fun b7 => (ob (gI sr4 1 0 b7) (fun v8 => (if v8 = 0 then ((C_Rr_openDraft_b143 sa (some b5) a4 (some b3) sr4 cr4 dr4 Q)) else (ob (gP sr4 4 6 b5) (fun v9 => (ob v9 (fun b10 => (okO sr4 1 b10 ∧ C_Ch_addPasswordEntry sa b10 (some b3) sr4 cr4 dr4 (fun sr11 cr11 dr11 => ((C_Rr_openDraft_b143 sa (some b5) a4 (some b3) sr11 cr11 dr11 Q))))))))))))))))) else ((C_Rr_openDraft_b143 sa p1 a4 (some b3) sr4 cr4 dr4 Q))))))))))
def C_Rr_openDraft_b64 (sa : Nat → Nat) (p0 : Nat) (p1 : Option Nat) (p2 : Int32) (p3 : Int32) (a4 : Int32) (s : cS) (kc ks : Nat) (Q : (Int32 → cS → Nat → Nat → Prop)) : Prop := ob (gP s 9 0 p0) (fun v1 => (ob v1 (fun b2 => (ob (gP s 11 16 b2) (fun v3 => (ob v3 (fun b4 => (ob (gP s 2 0 b4) (fun v5 => (ob (gP s 9 0 p0) (fun v6 => (ob v6 (fun b7 => (ob (gP s 11 16 b7) (fun v8 => (ob v8 (fun b9 => (ob (pI s 2 4 b9 p2) (fun s10 => (ob v5 (fun b11 => (okO s10 0 b11 ∧ C_By_clear sa b11 s10 kc ks (fun sr12 cr12 dr12 => (okO sr12 0 b11 ∧ C_By_add sa b11 p3 sr12 cr12 dr12 (fun sr13 cr13 dr13 => (if p2 = (4 : Int32) then ((C_Rr_openDraft_b110 sa p1 p2 a4 (some b11) (some b11) (2 : Int32) sr13 cr13 dr13 Q)) else ((C_Rr_openDraft_b110 sa p1 p2 a4 (some b11) (some b11) (1 : Int32) sr13 cr13 dr13 Q))))))))))))))))))))))))))))
def C_Rr_openDraft (sa : Nat → Nat) (p0 : Nat) (p1 : Option Nat) (p2 : Int32) (p3 : Int32) (s : cS) (kc ks : Nat) (Q : (Int32 → cS → Nat → Nat → Prop)) : Prop := ob p1 (fun b1 => (ob (gP s 4 0 b1) (fun v2 => (ob v2 (fun b3 => (ob (gI s 3 4 b3) (fun v4 => (if v4 = 0 then (Q ((-2) : Int32) s kc ks) else (okO s 4 b1 ∧ C_Po_addressOf sa b1 p2 s kc ks (fun r5 sr5 cr5 dr5 => (if r5 = none then (Q ((-2) : Int32) sr5 cr5 dr5) else (if p2 = (4 : Int32) then (ob (gP sr5 4 6 b1) (fun v6 => (ob v6 (fun b7 => (ob (gI sr5 1 2 b7) (fun v8 => (if 0 < v8 then (ob (gP sr5 4 6 b1) (fun v9 => (ob (gP sr5 9 0 p0) (fun v10 => (ob v10 (fun b11 => (ob (gI sr5 11 5 b11) (fun v12 => (ob v9 (fun b13 => (okO sr5 1 b13 ∧ C_Ch_bearer sa b13 v12 sr5 cr5 dr5 (fun r14 sr14 cr14 dr14 => (if r14 = ((-1) : Int32) then (Q ((-2) : Int32) sr14 cr14 dr14) else ((C_Rr_openDraft_b64 sa p0 (some b1) p2 p3 r14 sr14 cr14 dr14 Q))))))))))))))) else ((C_Rr_openDraft_b64 sa p0 (some b1) p2 p3 ((-1) : Int32) sr5 cr5 dr5 Q))))))))) else ((C_Rr_openDraft_b64 sa p0 (some b1) p2 p3 ((-1) : Int32) sr5 cr5 dr5 Q))))))))))))))
set_option maxRecDepth 100000 in
set_option maxHeartbeats 4000000 in
theorem kc_Rr_openDraft (base : Nat) (sa : Nat → Nat) {R : pmM} {s : cS} {kc ks : Nat} {Rt : pmR} {p0 : Nat} {p1 : Option Nat} {p2 : Int32} {p3 : Int32} {Q : (Int32 → cS → Nat → Nat → Prop)} (hw : cW sa R base s) (h : C_Rr_openDraft sa p0 p1 p2 p3 s kc ks Q) (k : ∀ r s' kc' ks', cW sa R base s' → Q r s' kc' ks' → Rt (some (.int r)) (cM R s') kc' ks') : kP_Rr_openDraft base sa [.ref p0, va_rf p1, .int p2, .int p3] (cM R s) kc ks Rt := by
  refine ⟨by cases p1 <;> exact Nat.le_of_ble_eq_true rfl, fun G hG => ?_⟩
  have eL : lv_args 0 [.ref p0, va_rf p1, .int p2, .int p3] = [(0, va_rf (some p0)), (1, va_rf p1), (2, .int p2), (3, .int p3)] := by cases p1 <;> rfl
  rw [eL]
  have b143 : ∀ (a4 : Int32) (a5 : Option Nat) (s : cS) (kc ks : Nat), KK sa R base G 143 [(1, va_rf p1), (4, .int a4), (5, va_rf a5)] [] s kc ks (C_Rr_openDraft_b143 sa p1 a4 a5 s kc ks Q) := by
    intro a4 a5 s kc ks
    refine kks hG rfl rfl ?_
    refine kk_ic hG rfl cc_im1 ?_
    refine kk_ieq hG (t := 174) rfl rfl ?_ ?_
    · refine kks hG rfl rfl ?_
      exact kk_ri hG rfl rfl rfl k
    refine kk_aln hG (x := p1) rfl rfl ?_
    refine kk_ob (fun b1 eb1 => ?_)
    subst eb1
    refine kk_gp hG (c := 4) (k := 6) (a := b1) rfl rfl rfl rfl (fun v2 => ?_)
    refine kk_al hG (x := a5) rfl rfl ?_
    refine kks hG rfl rfl ?_
    refine kk_aln hG (x := (some b1)) rfl rfl ?_
    refine kk_gi hG (c := 4) (k := 15) (a := b1) rfl rfl rfl rfl (fun v3 => ?_)
    refine kk_ob (fun b4 eb4 => ?_)
    subst eb4
    refine kk_cv hG 0 rfl rfl (Nat.le_of_ble_eq_true rfl) (by decide) rfl (st' := []) rfl (cats_le (Nat.le_of_ble_eq_true rfl)) (fun _ hw h k => kk_rcv h.1 (kc_Ch_addKeyEntry base sa hw h.2 k)) (fun sr5 cr5 dr5 => ?_)
    refine kk_aln hG (x := (some b1)) rfl rfl ?_
    refine kk_dup hG (x := (some b1)) rfl ?_
    refine kk_gi hG (c := 4) (k := 15) (a := b1) rfl rfl rfl rfl (fun v6 => ?_)
    refine kk_ic hG rfl cc_i1 ?_
    refine kks hG rfl rfl ?_
    refine kk_pi hG (c := 4) (k := 15) (a := b1) rfl rfl rfl rfl (fun s7 => ?_)
    refine kks hG rfl rfl ?_
    exact kk_ri hG rfl rfl rfl k
  have b110 : ∀ (a4 : Int32) (a5 : Option Nat) (u0 : Option Nat) (u1 : Int32) (s : cS) (kc ks : Nat), KK sa R base G 110 [(1, va_rf p1), (2, .int p2), (4, .int a4), (5, va_rf a5)] [.int u1, va_rf u0] s kc ks (C_Rr_openDraft_b110 sa p1 p2 a4 a5 u0 u1 s kc ks Q) := by
    intro a4 a5 u0 u1 s kc ks
    refine kk_ob (fun b1 eb1 => ?_)
    subst eb1
    refine kk_cv hG 0 rfl rfl (Nat.le_of_ble_eq_true rfl) (by decide) rfl (st' := []) rfl (cats_le (Nat.le_of_ble_eq_true rfl)) (fun _ hw h k => kk_rcv h.1 (kc_By_add base sa hw h.2 k)) (fun sr2 cr2 dr2 => ?_)
    refine kk_al hG (x := a5) rfl rfl ?_
    refine kk_ic hG rfl cc_i2 ?_
    refine kk_ob (fun b3 eb3 => ?_)
    subst eb3
    refine kk_cv hG 0 rfl rfl (Nat.le_of_ble_eq_true rfl) (by decide) rfl (st' := []) rfl (cats_le (Nat.le_of_ble_eq_true rfl)) (fun _ hw h k => kk_rcv h.1 (kc_By_addZeros base sa hw h.2 k)) (fun sr4 cr4 dr4 => ?_)
    refine kks hG rfl rfl ?_
    refine kk_ic hG rfl cc_i4 ?_
    refine kk_ine hG (t := 143) rfl rfl ?_ ?_
    · exact kk_wl hG [0, 2, 3] rfl (b143 _ _ _ _ _)
    refine kk_aln hG (x := p1) rfl rfl ?_
    refine kk_ob (fun b5 eb5 => ?_)
    subst eb5
    refine kk_gp hG (c := 4) (k := 6) (a := b5) rfl rfl rfl rfl (fun v6 => ?_)
    refine kk_ob (fun b7 eb7 => ?_)
    subst eb7
    refine kk_gi hG (c := 1) (k := 0) (a := b7) rfl rfl rfl rfl (fun v8 => ?_)
    refine kk_zeq hG (t := 143) rfl rfl ?_ ?_
    · exact kk_wl hG [0, 2, 3] rfl (b143 _ _ _ _ _)
    refine kk_aln hG (x := (some b5)) rfl rfl ?_
    refine kk_gp hG (c := 4) (k := 6) (a := b5) rfl rfl rfl rfl (fun v9 => ?_)
    refine kk_al hG (x := (some b3)) rfl rfl ?_
    refine kk_ob (fun b10 eb10 => ?_)
    subst eb10
    refine kk_cv hG 0 rfl rfl (Nat.le_of_ble_eq_true rfl) (by decide) rfl (st' := []) rfl (cats_le (Nat.le_of_ble_eq_true rfl)) (fun _ hw h k => kk_rcv h.1 (kc_Ch_addPasswordEntry base sa hw h.2 k)) (fun sr11 cr11 dr11 => ?_)
    exact kk_wl hG [0, 2, 3] rfl (b143 _ _ _ _ _)
  have b64 : ∀ (a4 : Int32) (s : cS) (kc ks : Nat), KK sa R base G 64 [(0, va_rf (some p0)), (1, va_rf p1), (2, .int p2), (3, .int p3), (4, .int a4)] [] s kc ks (C_Rr_openDraft_b64 sa p0 p1 p2 p3 a4 s kc ks Q) := by
    intro a4 s kc ks
    refine kk_aln hG (x := (some p0)) rfl rfl ?_
    refine kk_gp hG (c := 9) (k := 0) (a := p0) rfl rfl rfl rfl (fun v1 => ?_)
    refine kk_ob (fun b2 eb2 => ?_)
    subst eb2
    refine kk_gp hG (c := 11) (k := 16) (a := b2) rfl rfl rfl rfl (fun v3 => ?_)
    refine kk_ob (fun b4 eb4 => ?_)
    subst eb4
    refine kk_gp hG (c := 2) (k := 0) (a := b4) rfl rfl rfl rfl (fun v5 => ?_)
    refine kk_as hG (x := v5) (L' := [(5, va_rf v5), (0, va_rf (some p0)), (1, va_rf p1), (2, .int p2), (3, .int p3), (4, .int a4)]) rfl (Nat.le_of_ble_eq_true rfl) rfl ?_
    refine kk_aln hG (x := (some p0)) rfl rfl ?_
    refine kk_gp hG (c := 9) (k := 0) (a := p0) rfl rfl rfl rfl (fun v6 => ?_)
    refine kk_ob (fun b7 eb7 => ?_)
    subst eb7
    refine kk_gp hG (c := 11) (k := 16) (a := b7) rfl rfl rfl rfl (fun v8 => ?_)
    refine kks hG rfl rfl ?_
    refine kk_ob (fun b9 eb9 => ?_)
    subst eb9
    refine kk_pi hG (c := 2) (k := 4) (a := b9) rfl rfl rfl rfl (fun s10 => ?_)
    refine kk_al hG (x := v5) rfl rfl ?_
    refine kk_ob (fun b11 eb11 => ?_)
    subst eb11
    refine kk_cv hG 0 rfl rfl (Nat.le_of_ble_eq_true rfl) (by decide) rfl (st' := []) rfl (cats_le (Nat.le_of_ble_eq_true rfl)) (fun _ hw h k => kk_rcv h.1 (kc_By_clear base sa hw h.2 k)) (fun sr12 cr12 dr12 => ?_)
    refine kk_al hG (x := (some b11)) rfl rfl ?_
    refine kks hG rfl rfl ?_
    refine kk_cv hG 0 rfl rfl (Nat.le_of_ble_eq_true rfl) (by decide) rfl (st' := []) rfl (cats_le (Nat.le_of_ble_eq_true rfl)) (fun _ hw h k => kk_rcv h.1 (kc_By_add base sa hw h.2 k)) (fun sr13 cr13 dr13 => ?_)
    refine kk_al hG (x := (some b11)) rfl rfl ?_
    refine kks hG rfl rfl ?_
    refine kk_ic hG rfl cc_i4 ?_
    refine kk_ine hG (t := 109) rfl rfl ?_ ?_
    · refine kk_ic hG rfl cc_i1 ?_
      exact kk_wl hG [2, 3, 5, 0] rfl (b110 _ _ _ _ _ _ _)
    refine kk_ic hG rfl cc_i2 ?_
    refine kk_go hG (t := 110) rfl rfl ?_
    exact kk_wl hG [2, 3, 5, 0] rfl (b110 _ _ _ _ _ _ _)
  refine (show KK sa R base G 0 [(0, va_rf (some p0)), (1, va_rf p1), (2, .int p2), (3, .int p3)] [] s kc ks (C_Rr_openDraft sa p0 p1 p2 p3 s kc ks Q) from ?_) hw h
  refine kk_ic hG rfl cc_im1 ?_
  refine kk_st hG (L' := [(4, .int ((-1) : Int32)), (0, va_rf (some p0)), (1, va_rf p1), (2, .int p2), (3, .int p3)]) rfl rfl (Nat.le_of_ble_eq_true rfl) rfl ?_
  refine kk_aln hG (x := p1) rfl rfl ?_
  refine kk_ob (fun b1 eb1 => ?_)
  subst eb1
  refine kk_gp hG (c := 4) (k := 0) (a := b1) rfl rfl rfl rfl (fun v2 => ?_)
  refine kk_ob (fun b3 eb3 => ?_)
  subst eb3
  refine kk_gi hG (c := 3) (k := 4) (a := b3) rfl rfl rfl rfl (fun v4 => ?_)
  refine kk_zeq hG (t := 21) rfl rfl ?_ ?_
  · refine kk_bi hG rfl cc_bm2 ?_
    exact kk_ri hG rfl rfl rfl k
  refine kk_aln hG (x := (some b1)) rfl rfl ?_
  refine kks hG rfl rfl ?_
  refine kk_cx (w := va_rf) hG 0 rfl rfl (Nat.le_of_ble_eq_true rfl) (by decide) rfl (st' := []) rfl (cats_le (Nat.le_of_ble_eq_true rfl)) (fun _ hw h k => kk_rcv h.1 (kc_Po_addressOf base sa hw h.2 k)) (fun r5 sr5 cr5 dr5 => ?_)
  refine kk_nnl hG (x := r5) (t := 24) rfl rfl ?_ ?_
  · refine kks hG rfl rfl ?_
    refine kk_ic hG rfl cc_i4 ?_
    refine kk_ine hG (t := 64) rfl rfl ?_ ?_
    · exact kk_wl hG [1, 2, 3, 4, 0] rfl (b64 _ _ _ _)
    refine kk_aln hG (x := (some b1)) rfl rfl ?_
    refine kk_gp hG (c := 4) (k := 6) (a := b1) rfl rfl rfl rfl (fun v6 => ?_)
    refine kk_ob (fun b7 eb7 => ?_)
    subst eb7
    refine kk_gi hG (c := 1) (k := 2) (a := b7) rfl rfl rfl rfl (fun v8 => ?_)
    refine kk_zle hG (t := 64) rfl rfl ?_ ?_
    · exact kk_wl hG [1, 2, 3, 4, 0] rfl (b64 _ _ _ _)
    refine kk_aln hG (x := (some b1)) rfl rfl ?_
    refine kk_gp hG (c := 4) (k := 6) (a := b1) rfl rfl rfl rfl (fun v9 => ?_)
    refine kk_aln hG (x := (some p0)) rfl rfl ?_
    refine kk_gp hG (c := 9) (k := 0) (a := p0) rfl rfl rfl rfl (fun v10 => ?_)
    refine kk_ob (fun b11 eb11 => ?_)
    subst eb11
    refine kk_gi hG (c := 11) (k := 5) (a := b11) rfl rfl rfl rfl (fun v12 => ?_)
    refine kk_ob (fun b13 eb13 => ?_)
    subst eb13
    refine kk_cx (w := .int) hG 0 rfl rfl (Nat.le_of_ble_eq_true rfl) (by decide) rfl (st' := []) rfl (cats_le (Nat.le_of_ble_eq_true rfl)) (fun _ hw h k => kk_rcv h.1 (kc_Ch_bearer base sa hw h.2 k)) (fun r14 sr14 cr14 dr14 => ?_)
    refine kk_st hG (L' := [(4, .int r14), (0, va_rf (some p0)), (1, va_rf (some b1)), (2, .int p2), (3, .int p3)]) rfl rfl (Nat.le_of_ble_eq_true rfl) rfl ?_
    refine kks hG rfl rfl ?_
    refine kk_ic hG rfl cc_im1 ?_
    refine kk_ine hG (t := 64) rfl rfl ?_ ?_
    · exact kk_wl hG [1, 2, 3, 4, 0] rfl (b64 _ _ _ _)
    refine kk_bi hG rfl cc_bm2 ?_
    exact kk_ri hG rfl rfl rfl k
  refine kk_bi hG rfl cc_bm2 ?_
  exact kk_ri hG rfl rfl rfl k
