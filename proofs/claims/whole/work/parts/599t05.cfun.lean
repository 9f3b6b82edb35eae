/-! Methods as weakest preconditions, by program: Re_takeSecret .. Pr_copy -/
def C_Re_takeSecret_b113 (sa : Nat → Nat) (p0 : Nat) (p1 : Int32) (a2 : Int32) (a3 : Int32) (s : cS) (kc ks : Nat) (Q : (Int32 → cS → Nat → Nat → Prop)) (P33 : (Int32 → cS → Nat → Nat → Prop)) : Prop := ob (gP s 7 7 p0) (fun v1 => (ob v1 (fun b2 => (ob (wEb s b2 a2 (Int8.toInt32 (Int32.toInt8 a3))) (fun s3 => ((P33 (a2 + (1 : Int32)) s3 kc ks)))))))
def C_Re_takeSecret_b81 (sa : Nat → Nat) (p0 : Nat) (p1 : Int32) (a2 : Int32) (u0 : Int32) (s : cS) (kc ks : Nat) (Q : (Int32 → cS → Nat → Nat → Prop)) (P33 : (Int32 → cS → Nat → Nat → Prop)) : Prop := ob (gP s 7 1 p0) (fun v1 => (ob v1 (fun b2 => (ob (rE s .int b2 p1) (fun v3 => (ob (gP s 7 2 p0) (fun v4 => (ob v4 (fun b5 => (ob (rE s .int b5 p1) (fun v6 => (if (v3 + a2) < v6 then (if u0 < (33 : Int32) then ((Q (0 : Int32) s kc ks)) else (if (126 : Int32) < u0 then ((Q (0 : Int32) s kc ks)) else ((C_Re_takeSecret_b113 sa p0 p1 a2 u0 s kc ks Q P33)))) else ((C_Re_takeSecret_b113 sa p0 p1 a2 u0 s kc ks Q P33))))))))))))))
def C_Re_takeSecret_s33 (sa : Nat → Nat) (p0 : Nat) (p1 : Int32) (a2 : Int32) (s : cS) (kc ks : Nat) (Q : (Int32 → cS → Nat → Nat → Prop)) (P33 : (Int32 → cS → Nat → Nat → Prop)) : Prop := ob (gP s 7 7 p0) (fun v1 => (ob v1 (fun b2 => (ob (aL s b2) (fun v3 => (if a2 < v3 then (ob (gP s 7 1 p0) (fun v4 => (ob v4 (fun b5 => (ob (rE s .int b5 p1) (fun v6 => (ob (gP s 7 2 p0) (fun v7 => (ob v7 (fun b8 => (ob (rE s .int b8 p1) (fun v9 => (if (v6 + a2) < v9 then (ob (gP s 7 0 p0) (fun v10 => (ob v10 (fun b11 => (ob (gP s 11 0 b11) (fun v12 => (ob (gP s 7 1 p0) (fun v13 => (ob v13 (fun b14 => (ob (rE s .int b14 p1) (fun v15 => (ob v12 (fun b16 => (okO s 0 b16 ∧ C_By_at sa b16 (v15 + a2) s kc ks (fun r17 sr17 cr17 dr17 => ((C_Re_takeSecret_b81 sa p0 p1 a2 r17 sr17 cr17 dr17 Q P33)))))))))))))))))) else ((C_Re_takeSecret_b81 sa p0 p1 a2 (0 : Int32) s kc ks Q P33))))))))))))))) else ((Q (1 : Int32) s kc ks))))))))
def C_Re_takeSecret_b33 (sa : Nat → Nat) (p0 : Nat) (p1 : Int32) (a2 : Int32) (s : cS) (kc ks : Nat) (Q : (Int32 → cS → Nat → Nat → Prop)) : Prop := ∀ P33 : (Int32 → cS → Nat → Nat → Prop), (∀ (a2 : Int32) (s : cS) (kc ks : Nat), C_Re_takeSecret_s33 sa p0 p1 a2 s kc ks Q P33 → P33 a2 s kc ks) → P33 a2 s kc ks
def C_Re_takeSecret (sa : Nat → Nat) (p0 : Nat) (p1 : Int32) (s : cS) (kc ks : Nat) (Q : (Int32 → cS → Nat → Nat → Prop)) : Prop := okO s 7 p0 ∧ C_Re_isWord sa p0 p1 s kc ks (fun r1 sr1 cr1 dr1 => (if r1 = 0 then (Q (0 : Int32) sr1 cr1 dr1) else (ob (gP sr1 7 2 p0) (fun v2 => (ob v2 (fun b3 => (ob (rE sr1 .int b3 p1) (fun v4 => (ob (gP sr1 7 1 p0) (fun v5 => (ob v5 (fun b6 => (ob (rE sr1 .int b6 p1) (fun v7 => (ob (gP sr1 7 7 p0) (fun v8 => (ob v8 (fun b9 => (ob (aL sr1 b9) (fun v10 => (if v10 < (v4 - v7) then (Q (0 : Int32) sr1 cr1 dr1) else ((C_Re_takeSecret_b33 sa p0 p1 (0 : Int32) sr1 cr1 dr1 Q)))))))))))))))))))))))
set_option maxRecDepth 100000 in
set_option maxHeartbeats 4000000 in
theorem kc_Re_takeSecret (base : Nat) (sa : Nat → Nat) {R : pmM} {s : cS} {kc ks : Nat} {Rt : pmR} {p0 : Nat} {p1 : Int32} {Q : (Int32 → cS → Nat → Nat → Prop)} (hw : cW sa R base s) (h : C_Re_takeSecret sa p0 p1 s kc ks Q) (k : ∀ r s' kc' ks', cW sa R base s' → Q r s' kc' ks' → Rt (some (.int r)) (cM R s') kc' ks') : kP_Re_takeSecret base sa [.ref p0, .int p1] (cM R s) kc ks Rt := by
  refine ⟨Nat.le_of_ble_eq_true rfl, fun G hG => ?_⟩
  have b33 : ∀ (a2 : Int32) (s : cS) (kc ks : Nat), KK sa R base G 33 [(0, va_rf (some p0)), (1, .int p1), (2, .int a2)] [] s kc ks (C_Re_takeSecret_b33 sa p0 p1 a2 s kc ks Q) := by
    have H : ∀ (P33 : (Int32 → cS → Nat → Nat → Prop)) (hP33 : ∀ (a2 : Int32) (s : cS) (kc ks : Nat), P33 a2 s kc ks → cW sa R base s → G 33 [(0, va_rf (some p0)), (1, .int p1), (2, .int a2)] [] (cM R s) kc ks) (a2 : Int32) (s : cS) (kc ks : Nat), KK sa R base G 33 [(0, va_rf (some p0)), (1, .int p1), (2, .int a2)] [] s kc ks (C_Re_takeSecret_s33 sa p0 p1 a2 s kc ks Q P33) := by
      intro P33 hP33
      have b113 : ∀ (a2 : Int32) (a3 : Int32) (s : cS) (kc ks : Nat), KK sa R base G 113 [(0, va_rf (some p0)), (1, .int p1), (2, .int a2), (3, .int a3)] [] s kc ks (C_Re_takeSecret_b113 sa p0 p1 a2 a3 s kc ks Q P33) := by
        intro a2 a3 s kc ks
        refine kk_aln hG (x := (some p0)) rfl rfl ?_
        refine kk_gp hG (c := 7) (k := 7) (a := p0) rfl rfl rfl rfl (fun v1 => ?_)
        refine kks hG rfl rfl ?_
        refine kks hG rfl rfl ?_
        refine kks hG rfl rfl ?_
        refine kk_ob (fun b2 eb2 => ?_)
        subst eb2
        refine kk_bs hG (a := b2) rfl (fun s3 => ?_)
        refine kk_inc hG (L' := [(2, .int (a2 + (1 : Int32))), (0, va_rf (some p0)), (1, .int p1), (3, .int a3)]) rfl (Nat.le_of_ble_eq_true rfl) rfl cc_i1 rfl ?_
        refine kk_go hG (t := 33) rfl rfl ?_
        exact kk_wl hG [1, 2, 0] rfl (fun hw h => hP33 _ _ _ _ h hw)
      have b81 : ∀ (a2 : Int32) (u0 : Int32) (s : cS) (kc ks : Nat), KK sa R base G 81 [(0, va_rf (some p0)), (1, .int p1), (2, .int a2)] [.int u0] s kc ks (C_Re_takeSecret_b81 sa p0 p1 a2 u0 s kc ks Q P33) := by
        intro a2 u0 s kc ks
        refine kk_st hG (L' := [(3, .int u0), (0, va_rf (some p0)), (1, .int p1), (2, .int a2)]) rfl rfl (Nat.le_of_ble_eq_true rfl) rfl ?_
        refine kk_aln hG (x := (some p0)) rfl rfl ?_
        refine kk_gp hG (c := 7) (k := 1) (a := p0) rfl rfl rfl rfl (fun v1 => ?_)
        refine kks hG rfl rfl ?_
        refine kk_ob (fun b2 eb2 => ?_)
        subst eb2
        refine kk_ia hG (a := b2) rfl (fun v3 => ?_)
        refine kks hG rfl rfl ?_
        refine kks hG rfl rfl ?_
        refine kk_aln hG (x := (some p0)) rfl rfl ?_
        refine kk_gp hG (c := 7) (k := 2) (a := p0) rfl rfl rfl rfl (fun v4 => ?_)
        refine kks hG rfl rfl ?_
        refine kk_ob (fun b5 eb5 => ?_)
        subst eb5
        refine kk_ia hG (a := b5) rfl (fun v6 => ?_)
        refine kk_ige hG (t := 113) rfl rfl ?_ ?_
        · exact kk_wl hG [1, 2, 3, 0] rfl (b113 _ _ _ _ _)
        refine kks hG rfl rfl ?_
        refine kk_bi hG rfl cc_b33 ?_
        refine kk_ilt hG (t := 111) rfl rfl ?_ ?_
        · refine kk_ic hG rfl cc_i0 ?_
          exact kk_ri hG rfl rfl rfl k
        refine kks hG rfl rfl ?_
        refine kk_bi hG rfl cc_b126 ?_
        refine kk_ile hG (t := 113) rfl rfl ?_ ?_
        · exact kk_wl hG [1, 2, 3, 0] rfl (b113 _ _ _ _ _)
        refine kk_ic hG rfl cc_i0 ?_
        exact kk_ri hG rfl rfl rfl k
      intro a2 s kc ks
      refine kks hG rfl rfl ?_
      refine kk_aln hG (x := (some p0)) rfl rfl ?_
      refine kk_gp hG (c := 7) (k := 7) (a := p0) rfl rfl rfl rfl (fun v1 => ?_)
      refine kk_ob (fun b2 eb2 => ?_)
      subst eb2
      refine kk_len hG (a := b2) rfl (fun v3 => ?_)
      refine kk_ige hG (t := 127) rfl rfl ?_ ?_
      · refine kk_ic hG rfl cc_i1 ?_
        exact kk_ri hG rfl rfl rfl k
      refine kk_aln hG (x := (some p0)) rfl rfl ?_
      refine kk_gp hG (c := 7) (k := 1) (a := p0) rfl rfl rfl rfl (fun v4 => ?_)
      refine kks hG rfl rfl ?_
      refine kk_ob (fun b5 eb5 => ?_)
      subst eb5
      refine kk_ia hG (a := b5) rfl (fun v6 => ?_)
      refine kks hG rfl rfl ?_
      refine kks hG rfl rfl ?_
      refine kk_aln hG (x := (some p0)) rfl rfl ?_
      refine kk_gp hG (c := 7) (k := 2) (a := p0) rfl rfl rfl rfl (fun v7 => ?_)
      refine kks hG rfl rfl ?_
      refine kk_ob (fun b8 eb8 => ?_)
      subst eb8
      refine kk_ia hG (a := b8) rfl (fun v9 => ?_)
      refine kk_ige hG (t := 80) rfl rfl ?_ ?_
      · refine kk_ic hG rfl cc_i0 ?_
        exact kk_wl hG [0, 1, 2] rfl (b81 _ _ _ _ _)
      refine kk_aln hG (x := (some p0)) rfl rfl ?_
      refine kk_gp hG (c := 7) (k := 0) (a := p0) rfl rfl rfl rfl (fun v10 => ?_)
      refine kk_ob (fun b11 eb11 => ?_)
      subst eb11
      refine kk_gp hG (c := 11) (k := 0) (a := b11) rfl rfl rfl rfl (fun v12 => ?_)
      refine kk_aln hG (x := (some p0)) rfl rfl ?_
      refine kk_gp hG (c := 7) (k := 1) (a := p0) rfl rfl rfl rfl (fun v13 => ?_)
      refine kks hG rfl rfl ?_
      refine kk_ob (fun b14 eb14 => ?_)
      subst eb14
      refine kk_ia hG (a := b14) rfl (fun v15 => ?_)
      refine kks hG rfl rfl ?_
      refine kks hG rfl rfl ?_
      refine kk_ob (fun b16 eb16 => ?_)
      subst eb16
      refine kk_cx (w := .int) hG 0 rfl rfl (Nat.le_of_ble_eq_true rfl) (by decide) rfl (st' := []) rfl (cats_le (Nat.le_of_ble_eq_true rfl)) (fun _ hw h k => kk_rcv h.1 (kc_By_at base sa hw h.2 k)) (fun r17 sr17 cr17 dr17 => ?_)
      refine kk_go hG (t := 81) rfl rfl ?_
      exact kk_wl hG [0, 1, 2] rfl (b81 _ _ _ _ _)
    exact fun a2 s kc ks hw h => h (fun a2 s kc ks => cW sa R base s → G 33 [(0, va_rf (some p0)), (1, .int p1), (2, .int a2)] [] (cM R s) kc ks) (fun a2 s kc ks hs hw => H _ (fun _ _ _ _ hp hw => hp hw) a2 s kc ks hw hs) hw
  refine (show KK sa R base G 0 [(0, va_rf (some p0)), (1, .int p1)] [] s kc ks (C_Re_takeSecret sa p0 p1 s kc ks Q) from ?_) hw h
  refine kk_aln hG (x := (some p0)) rfl rfl ?_
  refine kks hG rfl rfl ?_
  refine kk_cx (w := .int) hG 0 rfl rfl (Nat.le_of_ble_eq_true rfl) (by decide) rfl (st' := []) rfl (cats_le (Nat.le_of_ble_eq_true rfl)) (fun _ hw h k => kk_rcv h.1 (kc_Re_isWord base sa hw h.2 k)) (fun r1 sr1 cr1 dr1 => ?_)
  refine kk_zeq hG (t := 29) rfl rfl ?_ ?_
  · refine kk_ic hG rfl cc_i0 ?_
    exact kk_ri hG rfl rfl rfl k
  refine kk_aln hG (x := (some p0)) rfl rfl ?_
  refine kk_gp hG (c := 7) (k := 2) (a := p0) rfl rfl rfl rfl (fun v2 => ?_)
  refine kks hG rfl rfl ?_
  refine kk_ob (fun b3 eb3 => ?_)
  subst eb3
  refine kk_ia hG (a := b3) rfl (fun v4 => ?_)
  refine kk_aln hG (x := (some p0)) rfl rfl ?_
  refine kk_gp hG (c := 7) (k := 1) (a := p0) rfl rfl rfl rfl (fun v5 => ?_)
  refine kks hG rfl rfl ?_
  refine kk_ob (fun b6 eb6 => ?_)
  subst eb6
  refine kk_ia hG (a := b6) rfl (fun v7 => ?_)
  refine kks hG rfl rfl ?_
  refine kk_aln hG (x := (some p0)) rfl rfl ?_
  refine kk_gp hG (c := 7) (k := 7) (a := p0) rfl rfl rfl rfl (fun v8 => ?_)
  refine kk_ob (fun b9 eb9 => ?_)
  subst eb9
  refine kk_len hG (a := b9) rfl (fun v10 => ?_)
  refine kk_ile hG (t := 31) rfl rfl ?_ ?_
  · refine kk_ic hG rfl cc_i0 ?_
    refine kk_st hG (L' := [(2, .int (0 : Int32)), (0, va_rf (some p0)), (1, .int p1)]) rfl rfl (Nat.le_of_ble_eq_true rfl) rfl ?_
    exact kk_wl hG [1, 2, 0] rfl (b33 _ _ _ _)
  refine kk_ic hG rfl cc_i0 ?_
  exact kk_ri hG rfl rfl rfl k
def C_Ch_setPassword (sa : Nat → Nat) (p0 : Nat) (p1 : Option Nat) (s : cS) (kc ks : Nat) (Q : (cS → Nat → Nat → Prop)) : Prop := okO s 1 p0 ∧ C_Ch_clear sa p0 s kc ks (fun sr1 cr1 dr1 => (ob (pZ sr1 1 0 p0 (1 : Int32)) (fun s2 => (ob (gP s2 1 1 p0) (fun v3 => (ob p1 (fun b4 => (ob v3 (fun b5 => (ob (cpE s2 b4 (0 : Int32) b5 (0 : Int32) (16 : Int32)) (fun s6 => (Q s6 cr1 dr1))))))))))))
set_option maxRecDepth 100000 in
set_option maxHeartbeats 4000000 in
theorem kc_Ch_setPassword (base : Nat) (sa : Nat → Nat) {R : pmM} {s : cS} {kc ks : Nat} {Rt : pmR} {p0 : Nat} {p1 : Option Nat} {Q : (cS → Nat → Nat → Prop)} (hw : cW sa R base s) (h : C_Ch_setPassword sa p0 p1 s kc ks Q) (k : ∀ s' kc' ks', cW sa R base s' → Q s' kc' ks' → Rt none (cM R s') kc' ks') : kP_Ch_setPassword base sa [.ref p0, va_rf p1] (cM R s) kc ks Rt := by
  refine ⟨by cases p1 <;> exact Nat.le_of_ble_eq_true rfl, fun G hG => ?_⟩
  have eL : lv_args 0 [.ref p0, va_rf p1] = [(0, va_rf (some p0)), (1, va_rf p1)] := by cases p1 <;> rfl
  rw [eL]
  refine (show KK sa R base G 0 [(0, va_rf (some p0)), (1, va_rf p1)] [] s kc ks (C_Ch_setPassword sa p0 p1 s kc ks Q) from ?_) hw h
  refine kk_aln hG (x := (some p0)) rfl rfl ?_
  refine kk_cv hG 0 rfl rfl (Nat.le_of_ble_eq_true rfl) (by decide) rfl (st' := []) rfl (cats_le (Nat.le_of_ble_eq_true rfl)) (fun _ hw h k => kk_rcv h.1 (kc_Ch_clear base sa hw h.2 k)) (fun sr1 cr1 dr1 => ?_)
  refine kk_aln hG (x := (some p0)) rfl rfl ?_
  refine kk_ic hG rfl cc_i1 ?_
  refine kk_pz hG (c := 1) (k := 0) (a := p0) rfl rfl rfl rfl (fun s2 => ?_)
  refine kk_aln hG (x := p1) rfl rfl ?_
  refine kk_ic hG rfl cc_i0 ?_
  refine kk_aln hG (x := (some p0)) rfl rfl ?_
  refine kk_gp hG (c := 1) (k := 1) (a := p0) rfl rfl rfl rfl (fun v3 => ?_)
  refine kk_ic hG rfl cc_i0 ?_
  refine kk_bi hG rfl cc_b16 ?_
  refine kk_ob (fun b4 eb4 => ?_)
  subst eb4
  refine kk_ob (fun b5 eb5 => ?_)
  subst eb5
  refine kk_acp hG (a := b4) (b := b5) rfl rfl (Nat.le_of_ble_eq_true rfl) (fun s6 => ?_)
  exact kk_rv hG rfl rfl k
def C_Ch_setKey_b29 (sa : Nat → Nat) (p0 : Nat) (p1 : Int32) (p2 : Int32) (p3 : Option Nat) (p4 : Int32) (p5 : Int32) (a6 : Int32) (s : cS) (kc ks : Nat) (Q : (Int32 → cS → Nat → Nat → Prop)) : Prop := if a6 < (4 : Int32) then (ob (pZ s 1 0 p0 (0 : Int32)) (fun s1 => (ob (gI s1 1 2 p0) (fun v2 => (ob (pI s1 1 2 p0 (mxI v2 (a6 + (1 : Int32)))) (fun s3 => (ob (gP s3 1 3 p0) (fun v4 => (ob v4 (fun b5 => (ob (wEi s3 b5 a6 p1) (fun s6 => (ob (gP s6 1 4 p0) (fun v7 => (ob v7 (fun b8 => (ob (wEi s6 b8 a6 p2) (fun s9 => (ob (gP s9 1 5 p0) (fun v10 => (ob v10 (fun b11 => (ob (wEi s9 b11 a6 p4) (fun s12 => (ob (gP s12 1 6 p0) (fun v13 => (ob v13 (fun b14 => (ob (wEi s12 b14 a6 p5) (fun s15 => (ob (gP s15 1 7 p0) (fun v16 => (ob v16 (fun b17 => (ob (rQ s15 b17 a6) (fun v18 => (ob p3 (fun b19 => (ob v18 (fun b20 => (ob (cpE s15 b19 (0 : Int32) b20 (0 : Int32) (16 : Int32)) (fun s21 => (Q (1 : Int32) s21 kc ks))))))))))))))))))))))))))))))))))))))))))) else (Q (0 : Int32) s kc ks)
def C_Ch_setKey_s3 (sa : Nat → Nat) (p0 : Nat) (p1 : Int32) (p2 : Int32) (p3 : Option Nat) (p4 : Int32) (p5 : Int32) (a6 : Int32) (s : cS) (kc ks : Nat) (Q : (Int32 → cS → Nat → Nat → Prop)) (P3 : (Int32 → cS → Nat → Nat → Prop)) : Prop := ob (gI s 1 2 p0) (fun v1 => (if a6 < v1 then (ob (gP s 1 3 p0) (fun v2 => (ob v2 (fun b3 => (ob (rE s .int b3 a6) (fun v4 => (if v4 = p1 then ((C_Ch_setKey_b29 sa p0 p1 p2 p3 p4 p5 a6 s kc ks Q)) else ((P3 (a6 + (1 : Int32)) s kc ks))))))))) else ((C_Ch_setKey_b29 sa p0 p1 p2 p3 p4 p5 a6 s kc ks Q))))
def C_Ch_setKey_b3 (sa : Nat → Nat) (p0 : Nat) (p1 : Int32) (p2 : Int32) (p3 : Option Nat) (p4 : Int32) (p5 : Int32) (a6 : Int32) (s : cS) (kc ks : Nat) (Q : (Int32 → cS → Nat → Nat → Prop)) : Prop := ∀ P3 : (Int32 → cS → Nat → Nat → Prop), (∀ (a6 : Int32) (s : cS) (kc ks : Nat), C_Ch_setKey_s3 sa p0 p1 p2 p3 p4 p5 a6 s kc ks Q P3 → P3 a6 s kc ks) → P3 a6 s kc ks
def C_Ch_setKey (sa : Nat → Nat) (p0 : Nat) (p1 : Int32) (p2 : Int32) (p3 : Option Nat) (p4 : Int32) (p5 : Int32) (s : cS) (kc ks : Nat) (Q : (Int32 → cS → Nat → Nat → Prop)) : Prop := (C_Ch_setKey_b3 sa p0 p1 p2 p3 p4 p5 (0 : Int32) s kc ks Q)
set_option maxRecDepth 100000 in
set_option maxHeartbeats 4000000 in
theorem kc_Ch_setKey (base : Nat) (sa : Nat → Nat) {R : pmM} {s : cS} {kc ks : Nat} {Rt : pmR} {p0 : Nat} {p1 : Int32} {p2 : Int32} {p3 : Option Nat} {p4 : Int32} {p5 : Int32} {Q : (Int32 → cS → Nat → Nat → Prop)} (hw : cW sa R base s) (h : C_Ch_setKey sa p0 p1 p2 p3 p4 p5 s kc ks Q) (k : ∀ r s' kc' ks', cW sa R base s' → Q r s' kc' ks' → Rt (some (.int r)) (cM R s') kc' ks') : kP_Ch_setKey base sa [.ref p0, .int p1, .int p2, va_rf p3, .int p4, .int p5] (cM R s) kc ks Rt := by
  refine ⟨by cases p3 <;> exact Nat.le_of_ble_eq_true rfl, fun G hG => ?_⟩
  have eL : lv_args 0 [.ref p0, .int p1, .int p2, va_rf p3, .int p4, .int p5] = [(0, va_rf (some p0)), (1, .int p1), (2, .int p2), (3, va_rf p3), (4, .int p4), (5, .int p5)] := by cases p3 <;> rfl
  rw [eL]
  have b29 : ∀ (a6 : Int32) (s : cS) (kc ks : Nat), KK sa R base G 29 [(0, va_rf (some p0)), (1, .int p1), (2, .int p2), (3, va_rf p3), (4, .int p4), (5, .int p5), (6, .int a6)] [] s kc ks (C_Ch_setKey_b29 sa p0 p1 p2 p3 p4 p5 a6 s kc ks Q) := by
    intro a6 s kc ks
    refine kks hG rfl rfl ?_
    refine kk_ic hG rfl cc_i4 ?_
    refine kk_ilt hG (t := 37) rfl rfl ?_ ?_
    · refine kk_aln hG (x := (some p0)) rfl rfl ?_
      refine kk_ic hG rfl cc_i0 ?_
      refine kk_pz hG (c := 1) (k := 0) (a := p0) rfl rfl rfl rfl (fun s1 => ?_)
      refine kk_aln hG (x := (some p0)) rfl rfl ?_
      refine kk_aln hG (x := (some p0)) rfl rfl ?_
      refine kk_gi hG (c := 1) (k := 2) (a := p0) rfl rfl rfl rfl (fun v2 => ?_)
      refine kks hG rfl rfl ?_
      refine kk_ic hG rfl cc_i1 ?_
      refine kks hG rfl rfl ?_
      refine kk_mx hG rfl rfl (Nat.le_of_ble_eq_true rfl) ?_
      refine kk_pi hG (c := 1) (k := 2) (a := p0) rfl rfl rfl rfl (fun s3 => ?_)
      refine kk_aln hG (x := (some p0)) rfl rfl ?_
      refine kk_gp hG (c := 1) (k := 3) (a := p0) rfl rfl rfl rfl (fun v4 => ?_)
      refine kks hG rfl rfl ?_
      refine kks hG rfl rfl ?_
      refine kk_ob (fun b5 eb5 => ?_)
      subst eb5
      refine kk_is hG (a := b5) rfl (fun s6 => ?_)
      refine kk_aln hG (x := (some p0)) rfl rfl ?_
      refine kk_gp hG (c := 1) (k := 4) (a := p0) rfl rfl rfl rfl (fun v7 => ?_)
      refine kks hG rfl rfl ?_
      refine kks hG rfl rfl ?_
      refine kk_ob (fun b8 eb8 => ?_)
      subst eb8
      refine kk_is hG (a := b8) rfl (fun s9 => ?_)
      refine kk_aln hG (x := (some p0)) rfl rfl ?_
      refine kk_gp hG (c := 1) (k := 5) (a := p0) rfl rfl rfl rfl (fun v10 => ?_)
      refine kks hG rfl rfl ?_
      refine kks hG rfl rfl ?_
      refine kk_ob (fun b11 eb11 => ?_)
      subst eb11
      refine kk_is hG (a := b11) rfl (fun s12 => ?_)
      refine kk_aln hG (x := (some p0)) rfl rfl ?_
      refine kk_gp hG (c := 1) (k := 6) (a := p0) rfl rfl rfl rfl (fun v13 => ?_)
      refine kks hG rfl rfl ?_
      refine kks hG rfl rfl ?_
      refine kk_ob (fun b14 eb14 => ?_)
      subst eb14
      refine kk_is hG (a := b14) rfl (fun s15 => ?_)
      refine kk_aln hG (x := p3) rfl rfl ?_
      refine kk_ic hG rfl cc_i0 ?_
      refine kk_aln hG (x := (some p0)) rfl rfl ?_
      refine kk_gp hG (c := 1) (k := 7) (a := p0) rfl rfl rfl rfl (fun v16 => ?_)
      refine kks hG rfl rfl ?_
      refine kk_ob (fun b17 eb17 => ?_)
      subst eb17
      refine kk_aa hG (a := b17) rfl (fun v18 => ?_)
      refine kk_ic hG rfl cc_i0 ?_
      refine kk_bi hG rfl cc_b16 ?_
      refine kk_ob (fun b19 eb19 => ?_)
      subst eb19
      refine kk_ob (fun b20 eb20 => ?_)
      subst eb20
      refine kk_acp hG (a := b19) (b := b20) rfl rfl (Nat.le_of_ble_eq_true rfl) (fun s21 => ?_)
      refine kk_ic hG rfl cc_i1 ?_
      exact kk_ri hG rfl rfl rfl k
    refine kk_ic hG rfl cc_i0 ?_
    exact kk_ri hG rfl rfl rfl k
  have b3 : ∀ (a6 : Int32) (s : cS) (kc ks : Nat), KK sa R base G 3 [(0, va_rf (some p0)), (1, .int p1), (2, .int p2), (3, va_rf p3), (4, .int p4), (5, .int p5), (6, .int a6)] [] s kc ks (C_Ch_setKey_b3 sa p0 p1 p2 p3 p4 p5 a6 s kc ks Q) := by
    have H : ∀ (P3 : (Int32 → cS → Nat → Nat → Prop)) (hP3 : ∀ (a6 : Int32) (s : cS) (kc ks : Nat), P3 a6 s kc ks → cW sa R base s → G 3 [(0, va_rf (some p0)), (1, .int p1), (2, .int p2), (3, va_rf p3), (4, .int p4), (5, .int p5), (6, .int a6)] [] (cM R s) kc ks) (a6 : Int32) (s : cS) (kc ks : Nat), KK sa R base G 3 [(0, va_rf (some p0)), (1, .int p1), (2, .int p2), (3, va_rf p3), (4, .int p4), (5, .int p5), (6, .int a6)] [] s kc ks (C_Ch_setKey_s3 sa p0 p1 p2 p3 p4 p5 a6 s kc ks Q P3) := by
      intro P3 hP3
      intro a6 s kc ks
      refine kks hG rfl rfl ?_
      refine kk_aln hG (x := (some p0)) rfl rfl ?_
      refine kk_gi hG (c := 1) (k := 2) (a := p0) rfl rfl rfl rfl (fun v1 => ?_)
      refine kk_ige hG (t := 29) rfl rfl ?_ ?_
      · exact kk_wl hG [0, 1, 2, 3, 4, 5, 6] rfl (b29 _ _ _ _)
      refine kk_aln hG (x := (some p0)) rfl rfl ?_
      refine kk_gp hG (c := 1) (k := 3) (a := p0) rfl rfl rfl rfl (fun v2 => ?_)
      refine kks hG rfl rfl ?_
      refine kk_ob (fun b3 eb3 => ?_)
      subst eb3
      refine kk_ia hG (a := b3) rfl (fun v4 => ?_)
      refine kks hG rfl rfl ?_
      refine kk_ieq hG (t := 29) rfl rfl ?_ ?_
      · exact kk_wl hG [0, 1, 2, 3, 4, 5, 6] rfl (b29 _ _ _ _)
      refine kk_inc hG (L' := [(6, .int (a6 + (1 : Int32))), (0, va_rf (some p0)), (1, .int p1), (2, .int p2), (3, va_rf p3), (4, .int p4), (5, .int p5)]) rfl (Nat.le_of_ble_eq_true rfl) rfl cc_i1 rfl ?_
      refine kk_go hG (t := 3) rfl rfl ?_
      exact kk_wl hG [1, 2, 3, 4, 5, 6, 0] rfl (fun hw h => hP3 _ _ _ _ h hw)
    exact fun a6 s kc ks hw h => h (fun a6 s kc ks => cW sa R base s → G 3 [(0, va_rf (some p0)), (1, .int p1), (2, .int p2), (3, va_rf p3), (4, .int p4), (5, .int p5), (6, .int a6)] [] (cM R s) kc ks) (fun a6 s kc ks hs hw => H _ (fun _ _ _ _ hp hw => hp hw) a6 s kc ks hw hs) hw
  refine (show KK sa R base G 0 [(0, va_rf (some p0)), (1, .int p1), (2, .int p2), (3, va_rf p3), (4, .int p4), (5, .int p5)] [] s kc ks (C_Ch_setKey sa p0 p1 p2 p3 p4 p5 s kc ks Q) from ?_) hw h
  refine kk_ic hG rfl cc_i0 ?_
  refine kk_st hG (L' := [(6, .int (0 : Int32)), (0, va_rf (some p0)), (1, .int p1), (2, .int p2), (3, va_rf p3), (4, .int p4), (5, .int p5)]) rfl rfl (Nat.le_of_ble_eq_true rfl) rfl ?_
  exact kk_wl hG [1, 2, 3, 4, 5, 6, 0] rfl (b3 _ _ _ _)
def C_Re_takeKeyOption_b71 (sa : Nat → Nat) (p0 : Nat) (a3 : Int32) (u0 : Int32) (s : cS) (kc ks : Nat) (Q : (Int32 → cS → Nat → Nat → Prop)) : Prop := ob (gP s 7 11 p0) (fun v1 => (ob (gP s 7 7 p0) (fun v2 => (ob v1 (fun b3 => (okO s 1 b3 ∧ C_Ch_setKey sa b3 a3 u0 v2 (0 : Int32) (99999 : Int32) s kc ks (fun r4 sr4 cr4 dr4 => (if r4 = 0 then (Q (6 : Int32) sr4 cr4 dr4) else (Q (0 : Int32) sr4 cr4 dr4)))))))))
def C_Re_takeKeyOption (sa : Nat → Nat) (p0 : Nat) (p1 : Int32) (p2 : Int32) (s : cS) (kc ks : Nat) (Q : (Int32 → cS → Nat → Nat → Prop)) : Prop := if p1 = (3 : Int32) then (okO s 7 p0 ∧ C_Re_takeSecret sa p0 (p2 + (1 : Int32)) s kc ks (fun r3 sr3 cr3 dr3 => (if r3 = 0 then (Q (4 : Int32) sr3 cr3 dr3) else (ob (gP sr3 7 11 p0) (fun v4 => (ob (gP sr3 7 7 p0) (fun v5 => (ob v4 (fun b6 => (okO sr3 1 b6 ∧ C_Ch_setPassword sa b6 v5 sr3 cr3 dr3 (fun sr7 cr7 dr7 => (Q (0 : Int32) sr7 cr7 dr7)))))))))))) else (okO s 7 p0 ∧ C_Re_number sa p0 (p2 + (1 : Int32)) (0 : Int32) (255 : Int32) s kc ks (fun r1 sr1 cr1 dr1 => (if r1 = ((-1) : Int32) then (Q (4 : Int32) sr1 cr1 dr1) else (okO sr1 7 p0 ∧ C_Re_takeSecret sa p0 (p2 + (2 : Int32)) sr1 cr1 dr1 (fun r2 sr2 cr2 dr2 => (if r2 = 0 then (Q (4 : Int32) sr2 cr2 dr2) else (if p1 = (4 : Int32) then ((C_Re_takeKeyOption_b71 sa p0 r1 (16 : Int32) sr2 cr2 dr2 Q)) else ((C_Re_takeKeyOption_b71 sa p0 r1 (20 : Int32) sr2 cr2 dr2 Q)))))))))
set_option maxRecDepth 100000 in
set_option maxHeartbeats 4000000 in
theorem kc_Re_takeKeyOption (base : Nat) (sa : Nat → Nat) {R : pmM} {s : cS} {kc ks : Nat} {Rt : pmR} {p0 : Nat} {p1 : Int32} {p2 : Int32} {Q : (Int32 → cS → Nat → Nat → Prop)} (hw : cW sa R base s) (h : C_Re_takeKeyOption sa p0 p1 p2 s kc ks Q) (k : ∀ r s' kc' ks', cW sa R base s' → Q r s' kc' ks' → Rt (some (.int r)) (cM R s') kc' ks') : kP_Re_takeKeyOption base sa [.ref p0, .int p1, .int p2] (cM R s) kc ks Rt := by
  refine ⟨Nat.le_of_ble_eq_true rfl, fun G hG => ?_⟩
  have b71 : ∀ (a3 : Int32) (u0 : Int32) (s : cS) (kc ks : Nat), KK sa R base G 71 [(0, va_rf (some p0)), (3, .int a3)] [.int u0] s kc ks (C_Re_takeKeyOption_b71 sa p0 a3 u0 s kc ks Q) := by
    intro a3 u0 s kc ks
    refine kk_st hG (L' := [(4, .int u0), (0, va_rf (some p0)), (3, .int a3)]) rfl rfl (Nat.le_of_ble_eq_true rfl) rfl ?_
    refine kk_aln hG (x := (some p0)) rfl rfl ?_
    refine kk_gp hG (c := 7) (k := 11) (a := p0) rfl rfl rfl rfl (fun v1 => ?_)
    refine kks hG rfl rfl ?_
    refine kks hG rfl rfl ?_
    refine kk_aln hG (x := (some p0)) rfl rfl ?_
    refine kk_gp hG (c := 7) (k := 7) (a := p0) rfl rfl rfl rfl (fun v2 => ?_)
    refine kk_ic hG rfl cc_i0 ?_
    refine kk_lw hG (v := (99999 : Int32)) rfl rfl ?_
    refine kk_ob (fun b3 eb3 => ?_)
    subst eb3
    refine kk_cx (w := .int) hG 0 rfl rfl (Nat.le_of_ble_eq_true rfl) (by decide) rfl (st' := []) rfl (cats_le (Nat.le_of_ble_eq_true rfl)) (fun _ hw h k => kk_rcv h.1 (kc_Ch_setKey base sa hw h.2 k)) (fun r4 sr4 cr4 dr4 => ?_)
    refine kk_zeq hG (t := 98) rfl rfl ?_ ?_
    · refine kk_bi hG rfl cc_b6 ?_
      exact kk_ri hG rfl rfl rfl k
    refine kk_ic hG rfl cc_i0 ?_
    refine kk_go hG (t := 100) rfl rfl ?_
    exact kk_ri hG rfl rfl rfl k
  refine (show KK sa R base G 0 [(0, va_rf (some p0)), (1, .int p1), (2, .int p2)] [] s kc ks (C_Re_takeKeyOption sa p0 p1 p2 s kc ks Q) from ?_) hw h
  refine kks hG rfl rfl ?_
  refine kk_ic hG rfl cc_i3 ?_
  refine kk_ine hG (t := 30) rfl rfl ?_ ?_
  · refine kk_aln hG (x := (some p0)) rfl rfl ?_
    refine kks hG rfl rfl ?_
    refine kk_ic hG rfl cc_i1 ?_
    refine kks hG rfl rfl ?_
    refine kk_ic hG rfl cc_i0 ?_
    refine kk_si hG rfl cc_s255 ?_
    refine kk_cx (w := .int) hG 0 rfl rfl (Nat.le_of_ble_eq_true rfl) (by decide) rfl (st' := []) rfl (cats_le (Nat.le_of_ble_eq_true rfl)) (fun _ hw h k => kk_rcv h.1 (kc_Re_number base sa hw h.2 k)) (fun r1 sr1 cr1 dr1 => ?_)
    refine kk_st hG (L' := [(3, .int r1), (0, va_rf (some p0)), (1, .int p1), (2, .int p2)]) rfl rfl (Nat.le_of_ble_eq_true rfl) rfl ?_
    refine kks hG rfl rfl ?_
    refine kk_ic hG rfl cc_im1 ?_
    refine kk_ieq hG (t := 57) rfl rfl ?_ ?_
    · refine kk_ic hG rfl cc_i4 ?_
      exact kk_ri hG rfl rfl rfl k
    refine kk_aln hG (x := (some p0)) rfl rfl ?_
    refine kks hG rfl rfl ?_
    refine kk_ic hG rfl cc_i2 ?_
    refine kks hG rfl rfl ?_
    refine kk_cx (w := .int) hG 0 rfl rfl (Nat.le_of_ble_eq_true rfl) (by decide) rfl (st' := []) rfl (cats_le (Nat.le_of_ble_eq_true rfl)) (fun _ hw h k => kk_rcv h.1 (kc_Re_takeSecret base sa hw h.2 k)) (fun r2 sr2 cr2 dr2 => ?_)
    refine kk_zne hG (t := 59) rfl rfl ?_ ?_
    · refine kks hG rfl rfl ?_
      refine kk_ic hG rfl cc_i4 ?_
      refine kk_ine hG (t := 69) rfl rfl ?_ ?_
      · refine kk_bi hG rfl cc_b20 ?_
        exact kk_wl hG [1, 0] rfl (b71 _ _ _ _ _)
      refine kk_bi hG rfl cc_b16 ?_
      refine kk_go hG (t := 71) rfl rfl ?_
      exact kk_wl hG [1, 0] rfl (b71 _ _ _ _ _)
    refine kk_ic hG rfl cc_i4 ?_
    exact kk_ri hG rfl rfl rfl k
  refine kk_aln hG (x := (some p0)) rfl rfl ?_
  refine kks hG rfl rfl ?_
  refine kk_ic hG rfl cc_i1 ?_
  refine kks hG rfl rfl ?_
  refine kk_cx (w := .int) hG 0 rfl rfl (Nat.le_of_ble_eq_true rfl) (by decide) rfl (st' := []) rfl (cats_le (Nat.le_of_ble_eq_true rfl)) (fun _ hw h k => kk_rcv h.1 (kc_Re_takeSecret base sa hw h.2 k)) (fun r3 sr3 cr3 dr3 => ?_)
  refine kk_zne hG (t := 17) rfl rfl ?_ ?_
  · refine kk_aln hG (x := (some p0)) rfl rfl ?_
    refine kk_gp hG (c := 7) (k := 11) (a := p0) rfl rfl rfl rfl (fun v4 => ?_)
    refine kk_aln hG (x := (some p0)) rfl rfl ?_
    refine kk_gp hG (c := 7) (k := 7) (a := p0) rfl rfl rfl rfl (fun v5 => ?_)
    refine kk_ob (fun b6 eb6 => ?_)
    subst eb6
    refine kk_cv hG 0 rfl rfl (Nat.le_of_ble_eq_true rfl) (by decide) rfl (st' := []) rfl (cats_le (Nat.le_of_ble_eq_true rfl)) (fun _ hw h k => kk_rcv h.1 (kc_Ch_setPassword base sa hw h.2 k)) (fun sr7 cr7 dr7 => ?_)
    refine kk_ic hG rfl cc_i0 ?_
    exact kk_ri hG rfl rfl rfl k
  refine kk_ic hG rfl cc_i4 ?_
  exact kk_ri hG rfl rfl rfl k
def C_Re_takeJoinOptions_b154 (sa : Nat → Nat) (p0 : Nat) (a2 : Int32) (a3 : Int32) (a4 : Int32) (s : cS) (kc ks : Nat) (Q : (Int32 → cS → Nat → Nat → Prop)) (P41 : (Int32 → Int32 → cS → Nat → Nat → Prop)) : Prop := C_Re_optionSize sa a4 s kc ks (fun r1 sr1 cr1 dr1 => ((P41 a2 (a3 + r1) sr1 cr1 dr1)))
def C_Re_takeJoinOptions_b89 (sa : Nat → Nat) (p0 : Nat) (a3 : Int32) (a4 : Int32) (u0 : Int32) (s : cS) (kc ks : Nat) (Q : (Int32 → cS → Nat → Nat → Prop)) (P41 : (Int32 → Int32 → cS → Nat → Nat → Prop)) : Prop := (C_Re_takeJoinOptions_b154 sa p0 u0 a3 a4 s kc ks Q P41)
def C_Re_takeJoinOptions_b153 (sa : Nat → Nat) (p0 : Nat) (a3 : Int32) (a4 : Int32) (u0 : Int32) (s : cS) (kc ks : Nat) (Q : (Int32 → cS → Nat → Nat → Prop)) (P41 : (Int32 → Int32 → cS → Nat → Nat → Prop)) : Prop := (C_Re_takeJoinOptions_b154 sa p0 u0 a3 a4 s kc ks Q P41)
def C_Re_takeJoinOptions_s41 (sa : Nat → Nat) (p0 : Nat) (a2 : Int32) (a3 : Int32) (s : cS) (kc ks : Nat) (Q : (Int32 → cS → Nat → Nat → Prop)) (P41 : (Int32 → Int32 → cS → Nat → Nat → Prop)) : Prop := ob (gI s 7 3 p0) (fun v1 => (if a3 < v1 then (okO s 7 p0 ∧ C_Re_joinOption sa p0 a3 s kc ks (fun r2 sr2 cr2 dr2 => (if r2 = (1 : Int32) then (okO sr2 7 p0 ∧ C_Re_number sa p0 (a3 + (1 : Int32)) (1 : Int32) (15 : Int32) sr2 cr2 dr2 (fun r7 sr7 cr7 dr7 => (ob (pI sr7 7 8 p0 r7) (fun s8 => (ob (gI s8 7 8 p0) (fun v9 => (if v9 = ((-1) : Int32) then ((C_Re_takeJoinOptions_b89 sa p0 a3 r2 (4 : Int32) s8 cr7 dr7 Q P41)) else ((C_Re_takeJoinOptions_b89 sa p0 a3 r2 a2 s8 cr7 dr7 Q P41))))))))) else (if r2 = (2 : Int32) then (okO sr2 7 p0 ∧ C_Re_splitAt sa p0 (a3 + (1 : Int32)) sr2 cr2 dr2 (fun r5 sr5 cr5 dr5 => (ob (pI sr5 7 9 p0 r5) (fun s6 => ((C_Re_takeJoinOptions_b154 sa p0 a2 a3 r2 s6 cr5 dr5 Q P41)))))) else (if r2 = (6 : Int32) then (ob (pZ sr2 7 10 p0 (1 : Int32)) (fun s4 => ((C_Re_takeJoinOptions_b154 sa p0 a2 a3 r2 s4 cr2 dr2 Q P41)))) else (okO sr2 7 p0 ∧ C_Re_takeKeyOption sa p0 r2 a3 sr2 cr2 dr2 (fun r3 sr3 cr3 dr3 => (if r3 = (4 : Int32) then ((C_Re_takeJoinOptions_b153 sa p0 a3 r2 r3 sr3 cr3 dr3 Q P41)) else (if a2 = 0 then ((C_Re_takeJoinOptions_b153 sa p0 a3 r2 r3 sr3 cr3 dr3 Q P41)) else ((C_Re_takeJoinOptions_b153 sa p0 a3 r2 a2 sr3 cr3 dr3 Q P41))))))))))) else ((Q a2 s kc ks))))
def C_Re_takeJoinOptions_b41 (sa : Nat → Nat) (p0 : Nat) (a2 : Int32) (a3 : Int32) (s : cS) (kc ks : Nat) (Q : (Int32 → cS → Nat → Nat → Prop)) : Prop := ∀ P41 : (Int32 → Int32 → cS → Nat → Nat → Prop), (∀ (a2 : Int32) (a3 : Int32) (s : cS) (kc ks : Nat), C_Re_takeJoinOptions_s41 sa p0 a2 a3 s kc ks Q P41 → P41 a2 a3 s kc ks) → P41 a2 a3 s kc ks
def C_Re_takeJoinOptions_b37 (sa : Nat → Nat) (p0 : Nat) (s : cS) (kc ks : Nat) (Q : (Int32 → cS → Nat → Nat → Prop)) : Prop := (C_Re_takeJoinOptions_b41 sa p0 (0 : Int32) (4 : Int32) s kc ks Q)
def C_Re_takeJoinOptions (sa : Nat → Nat) (p0 : Nat) (p1 : Option Nat) (s : cS) (kc ks : Nat) (Q : (Int32 → cS → Nat → Nat → Prop)) : Prop := ob (pI s 7 8 p0 ((-1) : Int32)) (fun s1 => (ob (pI s1 7 9 p0 ((-1) : Int32)) (fun s2 => (ob (pZ s2 7 10 p0 (0 : Int32)) (fun s3 => (ob (gP s3 7 11 p0) (fun v4 => (ob v4 (fun b5 => (okO s3 1 b5 ∧ C_Ch_clear sa b5 s3 kc ks (fun sr6 cr6 dr6 => (if p1 = none then ((C_Re_takeJoinOptions_b37 sa p0 sr6 cr6 dr6 Q)) else (ob (gP sr6 7 11 p0) (fun v7 => (ob p1 (fun b8 => (ob (gP sr6 4 6 b8) (fun v9 => (ob v7 (fun b10 => (okO sr6 1 b10 ∧ C_Ch_copy sa b10 v9 sr6 cr6 dr6 (fun sr11 cr11 dr11 => ((C_Re_takeJoinOptions_b37 sa p0 sr11 cr11 dr11 Q))))))))))))))))))))))))
set_option maxRecDepth 100000 in
set_option maxHeartbeats 4000000 in
theorem kc_Re_takeJoinOptions (base : Nat) (sa : Nat → Nat) {R : pmM} {s : cS} {kc ks : Nat} {Rt : pmR} {p0 : Nat} {p1 : Option Nat} {Q : (Int32 → cS → Nat → Nat → Prop)} (hw : cW sa R base s) (h : C_Re_takeJoinOptions sa p0 p1 s kc ks Q) (k : ∀ r s' kc' ks', cW sa R base s' → Q r s' kc' ks' → Rt (some (.int r)) (cM R s') kc' ks') : kP_Re_takeJoinOptions base sa [.ref p0, va_rf p1] (cM R s) kc ks Rt := by
  refine ⟨by cases p1 <;> exact Nat.le_of_ble_eq_true rfl, fun G hG => ?_⟩
  have eL : lv_args 0 [.ref p0, va_rf p1] = [(0, va_rf (some p0)), (1, va_rf p1)] := by cases p1 <;> rfl
  rw [eL]
  have b41 : ∀ (a2 : Int32) (a3 : Int32) (s : cS) (kc ks : Nat), KK sa R base G 41 [(0, va_rf (some p0)), (2, .int a2), (3, .int a3)] [] s kc ks (C_Re_takeJoinOptions_b41 sa p0 a2 a3 s kc ks Q) := by
    have H : ∀ (P41 : (Int32 → Int32 → cS → Nat → Nat → Prop)) (hP41 : ∀ (a2 : Int32) (a3 : Int32) (s : cS) (kc ks : Nat), P41 a2 a3 s kc ks → cW sa R base s → G 41 [(0, va_rf (some p0)), (2, .int a2), (3, .int a3)] [] (cM R s) kc ks) (a2 : Int32) (a3 : Int32) (s : cS) (kc ks : Nat), KK sa R base G 41 [(0, va_rf (some p0)), (2, .int a2), (3, .int a3)] [] s kc ks (C_Re_takeJoinOptions_s41 sa p0 a2 a3 s kc ks Q P41) := by
      intro P41 hP41
      have b154 : ∀ (a2 : Int32) (a3 : Int32) (a4 : Int32) (s : cS) (kc ks : Nat), KK sa R base G 154 [(0, va_rf (some p0)), (2, .int a2), (3, .int a3), (4, .int a4)] [] s kc ks (C_Re_takeJoinOptions_b154 sa p0 a2 a3 a4 s kc ks Q P41) := by
        intro a2 a3 a4 s kc ks
        refine kks hG rfl rfl ?_
        refine kks hG rfl rfl ?_
        refine kk_cx (w := .int) hG 2 rfl rfl (Nat.le_of_ble_eq_true rfl) (by decide) rfl (st' := [.int a3]) rfl (cats_le (Nat.le_of_ble_eq_true rfl)) (fun _ hw h k => kc_Re_optionSize base sa hw h k) (fun r1 sr1 cr1 dr1 => ?_)
        refine kks hG rfl rfl ?_
        refine kk_st hG (L' := [(3, .int (a3 + r1)), (0, va_rf (some p0)), (2, .int a2), (4, .int a4)]) rfl rfl (Nat.le_of_ble_eq_true rfl) rfl ?_
        refine kk_go hG (t := 41) rfl rfl ?_
        exact kk_wl hG [1, 2, 0] rfl (fun hw h => hP41 _ _ _ _ _ h hw)
      have b89 : ∀ (a3 : Int32) (a4 : Int32) (u0 : Int32) (s : cS) (kc ks : Nat), KK sa R base G 89 [(0, va_rf (some p0)), (3, .int a3), (4, .int a4)] [.int u0] s kc ks (C_Re_takeJoinOptions_b89 sa p0 a3 a4 u0 s kc ks Q P41) := by
        intro a3 a4 u0 s kc ks
        refine kk_st hG (L' := [(2, .int u0), (0, va_rf (some p0)), (3, .int a3), (4, .int a4)]) rfl rfl (Nat.le_of_ble_eq_true rfl) rfl ?_
        refine kk_go hG (t := 154) rfl rfl ?_
        exact kk_wl hG [1, 0, 2, 3] rfl (b154 _ _ _ _ _ _)
      have b153 : ∀ (a3 : Int32) (a4 : Int32) (u0 : Int32) (s : cS) (kc ks : Nat), KK sa R base G 153 [(0, va_rf (some p0)), (3, .int a3), (4, .int a4)] [.int u0] s kc ks (C_Re_takeJoinOptions_b153 sa p0 a3 a4 u0 s kc ks Q P41) := by
        intro a3 a4 u0 s kc ks
        refine kk_st hG (L' := [(2, .int u0), (0, va_rf (some p0)), (3, .int a3), (4, .int a4)]) rfl rfl (Nat.le_of_ble_eq_true rfl) rfl ?_
        exact kk_wl hG [1, 0, 2, 3] rfl (b154 _ _ _ _ _ _)
      intro a2 a3 s kc ks
      refine kks hG rfl rfl ?_
      refine kk_aln hG (x := (some p0)) rfl rfl ?_
      refine kk_gi hG (c := 7) (k := 3) (a := p0) rfl rfl rfl rfl (fun v1 => ?_)
      refine kk_ige hG (t := 165) rfl rfl ?_ ?_
      · refine kks hG rfl rfl ?_
        exact kk_ri hG rfl rfl rfl k
      refine kk_aln hG (x := (some p0)) rfl rfl ?_
      refine kks hG rfl rfl ?_
      refine kk_cx (w := .int) hG 0 rfl rfl (Nat.le_of_ble_eq_true rfl) (by decide) rfl (st' := []) rfl (cats_le (Nat.le_of_ble_eq_true rfl)) (fun _ hw h k => kk_rcv h.1 (kc_Re_joinOption base sa hw h.2 k)) (fun r2 sr2 cr2 dr2 => ?_)
      refine kk_st hG (L' := [(4, .int r2), (0, va_rf (some p0)), (2, .int a2), (3, .int a3)]) rfl rfl (Nat.le_of_ble_eq_true rfl) rfl ?_
      refine kks hG rfl rfl ?_
      refine kk_ic hG rfl cc_i1 ?_
      refine kk_ine hG (t := 93) rfl rfl ?_ ?_
      · refine kks hG rfl rfl ?_
        refine kk_ic hG rfl cc_i2 ?_
        refine kk_ine hG (t := 113) rfl rfl ?_ ?_
        · refine kks hG rfl rfl ?_
          refine kk_bi hG rfl cc_b6 ?_
          refine kk_ine hG (t := 128) rfl rfl ?_ ?_
          · refine kk_aln hG (x := (some p0)) rfl rfl ?_
            refine kks hG rfl rfl ?_
            refine kks hG rfl rfl ?_
            refine kk_cx (w := .int) hG 0 rfl rfl (Nat.le_of_ble_eq_true rfl) (by decide) rfl (st' := []) rfl (cats_le (Nat.le_of_ble_eq_true rfl)) (fun _ hw h k => kk_rcv h.1 (kc_Re_takeKeyOption base sa hw h.2 k)) (fun r3 sr3 cr3 dr3 => ?_)
            refine kk_st hG (L' := [(5, .int r3), (4, .int r2), (0, va_rf (some p0)), (2, .int a2), (3, .int a3)]) rfl rfl (Nat.le_of_ble_eq_true rfl) rfl ?_
            refine kks hG rfl rfl ?_
            refine kk_ic hG rfl cc_i4 ?_
            refine kk_ieq hG (t := 147) rfl rfl ?_ ?_
            · refine kks hG rfl rfl ?_
              refine kk_go hG (t := 153) rfl rfl ?_
              exact kk_wl hG [2, 4, 1] rfl (b153 _ _ _ _ _ _)
            refine kks hG rfl rfl ?_
            refine kk_zne hG (t := 152) rfl rfl ?_ ?_
            · refine kks hG rfl rfl ?_
              exact kk_wl hG [2, 4, 1] rfl (b153 _ _ _ _ _ _)
            refine kks hG rfl rfl ?_
            refine kk_go hG (t := 153) rfl rfl ?_
            exact kk_wl hG [2, 4, 1] rfl (b153 _ _ _ _ _ _)
          refine kk_aln hG (x := (some p0)) rfl rfl ?_
          refine kk_ic hG rfl cc_i1 ?_
          refine kk_pz hG (c := 7) (k := 10) (a := p0) rfl rfl rfl rfl (fun s4 => ?_)
          refine kk_go hG (t := 154) rfl rfl ?_
          exact kk_wl hG [1, 2, 3, 0] rfl (b154 _ _ _ _ _ _)
        refine kk_aln hG (x := (some p0)) rfl rfl ?_
        refine kk_aln hG (x := (some p0)) rfl rfl ?_
        refine kks hG rfl rfl ?_
        refine kk_ic hG rfl cc_i1 ?_
        refine kks hG rfl rfl ?_
        refine kk_cx (w := .int) hG 0 rfl rfl (Nat.le_of_ble_eq_true rfl) (by decide) rfl (st' := [va_rf (some p0)]) rfl (cats_le (Nat.le_of_ble_eq_true rfl)) (fun _ hw h k => kk_rcv h.1 (kc_Re_splitAt base sa hw h.2 k)) (fun r5 sr5 cr5 dr5 => ?_)
        refine kk_pi hG (c := 7) (k := 9) (a := p0) rfl rfl rfl rfl (fun s6 => ?_)
        refine kk_go hG (t := 154) rfl rfl ?_
        exact kk_wl hG [1, 2, 3, 0] rfl (b154 _ _ _ _ _ _)
      refine kk_aln hG (x := (some p0)) rfl rfl ?_
      refine kk_aln hG (x := (some p0)) rfl rfl ?_
      refine kks hG rfl rfl ?_
      refine kk_ic hG rfl cc_i1 ?_
      refine kks hG rfl rfl ?_
      refine kk_ic hG rfl cc_i1 ?_
      refine kk_bi hG rfl cc_b15 ?_
      refine kk_cx (w := .int) hG 0 rfl rfl (Nat.le_of_ble_eq_true rfl) (by decide) rfl (st' := [va_rf (some p0)]) rfl (cats_le (Nat.le_of_ble_eq_true rfl)) (fun _ hw h k => kk_rcv h.1 (kc_Re_number base sa hw h.2 k)) (fun r7 sr7 cr7 dr7 => ?_)
      refine kk_pi hG (c := 7) (k := 8) (a := p0) rfl rfl rfl rfl (fun s8 => ?_)
      refine kk_aln hG (x := (some p0)) rfl rfl ?_
      refine kk_gi hG (c := 7) (k := 8) (a := p0) rfl rfl rfl rfl (fun v9 => ?_)
      refine kk_ic hG rfl cc_im1 ?_
      refine kk_ine hG (t := 88) rfl rfl ?_ ?_
      · refine kks hG rfl rfl ?_
        exact kk_wl hG [1, 3, 0] rfl (b89 _ _ _ _ _ _)
      refine kk_ic hG rfl cc_i4 ?_
      refine kk_go hG (t := 89) rfl rfl ?_
      exact kk_wl hG [1, 3, 0] rfl (b89 _ _ _ _ _ _)
    exact fun a2 a3 s kc ks hw h => h (fun a2 a3 s kc ks => cW sa R base s → G 41 [(0, va_rf (some p0)), (2, .int a2), (3, .int a3)] [] (cM R s) kc ks) (fun a2 a3 s kc ks hs hw => H _ (fun _ _ _ _ _ hp hw => hp hw) a2 a3 s kc ks hw hs) hw
  have b37 : ∀ (s : cS) (kc ks : Nat), KK sa R base G 37 [(0, va_rf (some p0))] [] s kc ks (C_Re_takeJoinOptions_b37 sa p0 s kc ks Q) := by
    intro s kc ks
    refine kk_ic hG rfl cc_i0 ?_
    refine kk_st hG (L' := [(2, .int (0 : Int32)), (0, va_rf (some p0))]) rfl rfl (Nat.le_of_ble_eq_true rfl) rfl ?_
    refine kk_ic hG rfl cc_i4 ?_
    refine kk_st hG (L' := [(3, .int (4 : Int32)), (2, .int (0 : Int32)), (0, va_rf (some p0))]) rfl rfl (Nat.le_of_ble_eq_true rfl) rfl ?_
    exact kk_wl hG [2, 1, 0] rfl (b41 _ _ _ _ _)
  refine (show KK sa R base G 0 [(0, va_rf (some p0)), (1, va_rf p1)] [] s kc ks (C_Re_takeJoinOptions sa p0 p1 s kc ks Q) from ?_) hw h
  refine kk_aln hG (x := (some p0)) rfl rfl ?_
  refine kk_ic hG rfl cc_im1 ?_
  refine kk_pi hG (c := 7) (k := 8) (a := p0) rfl rfl rfl rfl (fun s1 => ?_)
  refine kk_aln hG (x := (some p0)) rfl rfl ?_
  refine kk_ic hG rfl cc_im1 ?_
  refine kk_pi hG (c := 7) (k := 9) (a := p0) rfl rfl rfl rfl (fun s2 => ?_)
  refine kk_aln hG (x := (some p0)) rfl rfl ?_
  refine kk_ic hG rfl cc_i0 ?_
  refine kk_pz hG (c := 7) (k := 10) (a := p0) rfl rfl rfl rfl (fun s3 => ?_)
  refine kk_aln hG (x := (some p0)) rfl rfl ?_
  refine kk_gp hG (c := 7) (k := 11) (a := p0) rfl rfl rfl rfl (fun v4 => ?_)
  refine kk_ob (fun b5 eb5 => ?_)
  subst eb5
  refine kk_cv hG 0 rfl rfl (Nat.le_of_ble_eq_true rfl) (by decide) rfl (st' := []) rfl (cats_le (Nat.le_of_ble_eq_true rfl)) (fun _ hw h k => kk_rcv h.1 (kc_Ch_clear base sa hw h.2 k)) (fun sr6 cr6 dr6 => ?_)
  refine kk_aln hG (x := p1) rfl rfl ?_
  refine kk_nul hG (x := p1) (t := 37) rfl rfl ?_ ?_
  · exact kk_wl hG [0] rfl (b37 _ _ _)
  refine kk_aln hG (x := (some p0)) rfl rfl ?_
  refine kk_gp hG (c := 7) (k := 11) (a := p0) rfl rfl rfl rfl (fun v7 => ?_)
  refine kk_aln hG (x := p1) rfl rfl ?_
  refine kk_ob (fun b8 eb8 => ?_)
  subst eb8
  refine kk_gp hG (c := 4) (k := 6) (a := b8) rfl rfl rfl rfl (fun v9 => ?_)
  refine kk_ob (fun b10 eb10 => ?_)
  subst eb10
  refine kk_cv hG 0 rfl rfl (Nat.le_of_ble_eq_true rfl) (by decide) rfl (st' := []) rfl (cats_le (Nat.le_of_ble_eq_true rfl)) (fun _ hw h k => kk_rcv h.1 (kc_Ch_copy base sa hw h.2 k)) (fun sr11 cr11 dr11 => ?_)
  exact kk_wl hG [0] rfl (b37 _ _ _)
def C_Po_init (sa : Nat → Nat) (p0 : Nat) (p1 : Option Nat) (s : cS) (kc ks : Nat) (Q : (cS → Nat → Nat → Prop)) : Prop := ob (pP s 4 1 p0 none) (fun s1 => (ob (pP s1 4 2 p0 none) (fun s2 => (ob (pI s2 4 3 p0 (1 : Int32)) (fun s3 => (ob (pI s3 4 4 p0 (2 : Int32)) (fun s4 => (ob (pZ s4 4 5 p0 (0 : Int32)) (fun s5 => (nwO sa s5 kc ks 1 12 (fun q6 sq6 cq6 dq6 => (okO sq6 1 q6 ∧ C_Ch_init sa q6 sq6 cq6 dq6 (fun sr7 cr7 dr7 => (ob (pP sr7 4 6 p0 (some q6)) (fun s8 => (nwQ sa s8 cr7 dr7 "RoutingField$Prefix" (4 : Int32) (fun q9 sq9 cq9 dq9 => (ob (pP sq9 4 7 p0 (some q9)) (fun s10 => (ob (pI s10 4 8 p0 (0 : Int32)) (fun s11 => (nwA sa s11 cq9 dq9 .int (4 : Int32) (fun q12 sq12 cq12 dq12 => (ob (pP sq12 4 9 p0 (some q12)) (fun s13 => (nwA sa s13 cq12 dq12 .boolean (4 : Int32) (fun q14 sq14 cq14 dq14 => (ob (pP sq14 4 10 p0 (some q14)) (fun s15 => (nwQ sa s15 cq14 dq14 "RoutingField$Prefix" (4 : Int32) (fun q16 sq16 cq16 dq16 => (ob (pP sq16 4 11 p0 (some q16)) (fun s17 => (ob (pI s17 4 12 p0 (0 : Int32)) (fun s18 => (ob (pI s18 4 13 p0 (0 : Int32)) (fun s19 => (ob (pZ s19 4 14 p0 (0 : Int32)) (fun s20 => (ob (pI s20 4 15 p0 (0 : Int32)) (fun s21 => (nwA sa s21 cq16 dq16 .int (4 : Int32) (fun q22 sq22 cq22 dq22 => (ob (pP sq22 4 16 p0 (some q22)) (fun s23 => (nwA sa s23 cq22 dq22 .int (4 : Int32) (fun q24 sq24 cq24 dq24 => (ob (pP sq24 4 17 p0 (some q24)) (fun s25 => (ob (pI s25 4 18 p0 (0 : Int32)) (fun s26 => (ob (pP s26 4 0 p0 p1) (fun s27 => (Q s27 cq24 dq24))))))))))))))))))))))))))))))))))))))))))))))))))))))
set_option maxRecDepth 100000 in
set_option maxHeartbeats 4000000 in
theorem kc_Po_init (base : Nat) (sa : Nat → Nat) {R : pmM} {s : cS} {kc ks : Nat} {Rt : pmR} {p0 : Nat} {p1 : Option Nat} {Q : (cS → Nat → Nat → Prop)} (hw : cW sa R base s) (h : C_Po_init sa p0 p1 s kc ks Q) (k : ∀ s' kc' ks', cW sa R base s' → Q s' kc' ks' → Rt none (cM R s') kc' ks') : kP_Po_init base sa [.ref p0, va_rf p1] (cM R s) kc ks Rt := by
  refine ⟨by cases p1 <;> exact Nat.le_of_ble_eq_true rfl, fun G hG => ?_⟩
  have eL : lv_args 0 [.ref p0, va_rf p1] = [(0, va_rf (some p0)), (1, va_rf p1)] := by cases p1 <;> rfl
  rw [eL]
  refine (show KK sa R base G 0 [(0, va_rf (some p0)), (1, va_rf p1)] [] s kc ks (C_Po_init sa p0 p1 s kc ks Q) from ?_) hw h
  refine kk_aln hG (x := (some p0)) rfl rfl ?_
  refine kk_oi hG (a := p0) rfl rfl (Nat.le_of_ble_eq_true rfl) ?_
  refine kk_aln hG (x := (some p0)) rfl rfl ?_
  refine kks hG rfl rfl ?_
  refine kk_pp hG (c := 4) (k := 1) (a := p0) (v := none) rfl rfl rfl rfl rfl (fun s1 => ?_)
  refine kk_aln hG (x := (some p0)) rfl rfl ?_
  refine kks hG rfl rfl ?_
  refine kk_pp hG (c := 4) (k := 2) (a := p0) (v := none) rfl rfl rfl rfl rfl (fun s2 => ?_)
  refine kk_aln hG (x := (some p0)) rfl rfl ?_
  refine kk_ic hG rfl cc_i1 ?_
  refine kk_pi hG (c := 4) (k := 3) (a := p0) rfl rfl rfl rfl (fun s3 => ?_)
  refine kk_aln hG (x := (some p0)) rfl rfl ?_
  refine kk_ic hG rfl cc_i2 ?_
  refine kk_pi hG (c := 4) (k := 4) (a := p0) rfl rfl rfl rfl (fun s4 => ?_)
  refine kk_aln hG (x := (some p0)) rfl rfl ?_
  refine kk_ic hG rfl cc_i0 ?_
  refine kk_pz hG (c := 4) (k := 5) (a := p0) rfl rfl rfl rfl (fun s5 => ?_)
  refine kk_aln hG (x := (some p0)) rfl rfl ?_
  refine kk_new hG (c := 1) (n := 12) rfl rfl rfl rfl (fun q6 sq6 cq6 dq6 => ?_)
  refine kk_dup hG (x := (some q6)) rfl ?_
  refine kk_cv hG 1 rfl rfl (Nat.le_of_ble_eq_true rfl) (by decide) rfl (st' := [va_rf (some q6), va_rf (some p0)]) rfl (cats_le (Nat.le_of_ble_eq_true rfl)) (fun _ hw h k => kk_rcv h.1 (kc_Ch_init base sa hw h.2 k)) (fun sr7 cr7 dr7 => ?_)
  refine kk_pp hG (c := 4) (k := 6) (a := p0) (v := (some q6)) rfl rfl rfl rfl rfl (fun s8 => ?_)
  refine kk_aln hG (x := (some p0)) rfl rfl ?_
  refine kk_ic hG rfl cc_i4 ?_
  refine kk_naq hG (C := "RoutingField$Prefix") rfl rfl (fun q9 sq9 cq9 dq9 => ?_)
  refine kk_pp hG (c := 4) (k := 7) (a := p0) (v := (some q9)) rfl rfl rfl rfl rfl (fun s10 => ?_)
  refine kk_aln hG (x := (some p0)) rfl rfl ?_
  refine kk_ic hG rfl cc_i0 ?_
  refine kk_pi hG (c := 4) (k := 8) (a := p0) rfl rfl rfl rfl (fun s11 => ?_)
  refine kk_aln hG (x := (some p0)) rfl rfl ?_
  refine kk_ic hG rfl cc_i4 ?_
  refine kk_nar hG (ty := .int) rfl rfl rfl rfl (fun q12 sq12 cq12 dq12 => ?_)
  refine kk_pp hG (c := 4) (k := 9) (a := p0) (v := (some q12)) rfl rfl rfl rfl rfl (fun s13 => ?_)
  refine kk_aln hG (x := (some p0)) rfl rfl ?_
  refine kk_ic hG rfl cc_i4 ?_
  refine kk_nar hG (ty := .boolean) rfl rfl rfl rfl (fun q14 sq14 cq14 dq14 => ?_)
  refine kk_pp hG (c := 4) (k := 10) (a := p0) (v := (some q14)) rfl rfl rfl rfl rfl (fun s15 => ?_)
  refine kk_aln hG (x := (some p0)) rfl rfl ?_
  refine kk_ic hG rfl cc_i4 ?_
  refine kk_naq hG (C := "RoutingField$Prefix") rfl rfl (fun q16 sq16 cq16 dq16 => ?_)
  refine kk_pp hG (c := 4) (k := 11) (a := p0) (v := (some q16)) rfl rfl rfl rfl rfl (fun s17 => ?_)
  refine kk_aln hG (x := (some p0)) rfl rfl ?_
  refine kk_ic hG rfl cc_i0 ?_
  refine kk_pi hG (c := 4) (k := 12) (a := p0) rfl rfl rfl rfl (fun s18 => ?_)
  refine kk_aln hG (x := (some p0)) rfl rfl ?_
  refine kk_ic hG rfl cc_i0 ?_
  refine kk_pi hG (c := 4) (k := 13) (a := p0) rfl rfl rfl rfl (fun s19 => ?_)
  refine kk_aln hG (x := (some p0)) rfl rfl ?_
  refine kk_ic hG rfl cc_i0 ?_
  refine kk_pz hG (c := 4) (k := 14) (a := p0) rfl rfl rfl rfl (fun s20 => ?_)
  refine kk_aln hG (x := (some p0)) rfl rfl ?_
  refine kk_ic hG rfl cc_i0 ?_
  refine kk_pi hG (c := 4) (k := 15) (a := p0) rfl rfl rfl rfl (fun s21 => ?_)
  refine kk_aln hG (x := (some p0)) rfl rfl ?_
  refine kk_ic hG rfl cc_i4 ?_
  refine kk_nar hG (ty := .int) rfl rfl rfl rfl (fun q22 sq22 cq22 dq22 => ?_)
  refine kk_pp hG (c := 4) (k := 16) (a := p0) (v := (some q22)) rfl rfl rfl rfl rfl (fun s23 => ?_)
  refine kk_aln hG (x := (some p0)) rfl rfl ?_
  refine kk_ic hG rfl cc_i4 ?_
  refine kk_nar hG (ty := .int) rfl rfl rfl rfl (fun q24 sq24 cq24 dq24 => ?_)
  refine kk_pp hG (c := 4) (k := 17) (a := p0) (v := (some q24)) rfl rfl rfl rfl rfl (fun s25 => ?_)
  refine kk_aln hG (x := (some p0)) rfl rfl ?_
  refine kk_ic hG rfl cc_i0 ?_
  refine kk_pi hG (c := 4) (k := 18) (a := p0) rfl rfl rfl rfl (fun s26 => ?_)
  refine kk_aln hG (x := (some p0)) rfl rfl ?_
  refine kk_aln hG (x := p1) rfl rfl ?_
  refine kk_pp hG (c := 4) (k := 0) (a := p0) (v := p1) rfl rfl rfl rfl rfl (fun s27 => ?_)
  exact kk_rv hG rfl rfl k
def C_Rr_addPort (sa : Nat → Nat) (p0 : Nat) (p1 : Option Nat) (s : cS) (kc ks : Nat) (Q : (Option Nat → cS → Nat → Nat → Prop)) : Prop := nwO sa s kc ks 4 19 (fun q1 sq1 cq1 dq1 => (okO sq1 4 q1 ∧ C_Po_init sa q1 p1 sq1 cq1 dq1 (fun sr2 cr2 dr2 => (ob (gI sr2 9 5 p0) (fun v3 => (ob (gP sr2 9 4 p0) (fun v4 => (ob v4 (fun b5 => (ob (aL sr2 b5) (fun v6 => (if v3 < v6 then (ob (gP sr2 9 4 p0) (fun v7 => (ob (gI sr2 9 5 p0) (fun v8 => (ob v7 (fun b9 => (ob (wQ sr2 b9 v8 (some q1)) (fun s10 => (ob (gI s10 9 5 p0) (fun v11 => (ob (pI s10 9 5 p0 (v11 + (1 : Int32))) (fun s12 => (Q (some q1) s12 cr2 dr2))))))))))))) else (Q (some q1) sr2 cr2 dr2)))))))))))))
set_option maxRecDepth 100000 in
set_option maxHeartbeats 4000000 in
theorem kc_Rr_addPort (base : Nat) (sa : Nat → Nat) {R : pmM} {s : cS} {kc ks : Nat} {Rt : pmR} {p0 : Nat} {p1 : Option Nat} {Q : (Option Nat → cS → Nat → Nat → Prop)} (hw : cW sa R base s) (h : C_Rr_addPort sa p0 p1 s kc ks Q) (k : ∀ r s' kc' ks', cW sa R base s' → Q r s' kc' ks' → Rt (some (va_rf r)) (cM R s') kc' ks') : kP_Rr_addPort base sa [.ref p0, va_rf p1] (cM R s) kc ks Rt := by
  refine ⟨by cases p1 <;> exact Nat.le_of_ble_eq_true rfl, fun G hG => ?_⟩
  have eL : lv_args 0 [.ref p0, va_rf p1] = [(0, va_rf (some p0)), (1, va_rf p1)] := by cases p1 <;> rfl
  rw [eL]
  refine (show KK sa R base G 0 [(0, va_rf (some p0)), (1, va_rf p1)] [] s kc ks (C_Rr_addPort sa p0 p1 s kc ks Q) from ?_) hw h
  refine kk_new hG (c := 4) (n := 19) rfl rfl rfl rfl (fun q1 sq1 cq1 dq1 => ?_)
  refine kk_dup hG (x := (some q1)) rfl ?_
  refine kk_aln hG (x := p1) rfl rfl ?_
  refine kk_cv hG 1 rfl rfl (Nat.le_of_ble_eq_true rfl) (by decide) rfl (st' := [va_rf (some q1)]) rfl (cats_le (Nat.le_of_ble_eq_true rfl)) (fun _ hw h k => kk_rcv h.1 (kc_Po_init base sa hw h.2 k)) (fun sr2 cr2 dr2 => ?_)
  refine kk_asn hG (x := (some q1)) (L' := [(2, va_rf (some q1)), (0, va_rf (some p0)), (1, va_rf p1)]) rfl (Nat.le_of_ble_eq_true rfl) (by cases p1 <;> rfl) ?_
  refine kk_aln hG (x := (some p0)) rfl rfl ?_
  refine kk_gi hG (c := 9) (k := 5) (a := p0) rfl rfl rfl rfl (fun v3 => ?_)
  refine kk_aln hG (x := (some p0)) rfl rfl ?_
  refine kk_gp hG (c := 9) (k := 4) (a := p0) rfl rfl rfl rfl (fun v4 => ?_)
  refine kk_ob (fun b5 eb5 => ?_)
  subst eb5
  refine kk_len hG (a := b5) rfl (fun v6 => ?_)
  refine kk_ige hG (t := 41) rfl rfl ?_ ?_
  · refine kk_aln hG (x := (some q1)) rfl rfl ?_
    exact kk_ra hG (x := (some q1)) rfl rfl rfl k
  refine kk_aln hG (x := (some p0)) rfl rfl ?_
  refine kk_gp hG (c := 9) (k := 4) (a := p0) rfl rfl rfl rfl (fun v7 => ?_)
  refine kk_aln hG (x := (some p0)) rfl rfl ?_
  refine kk_gi hG (c := 9) (k := 5) (a := p0) rfl rfl rfl rfl (fun v8 => ?_)
  refine kk_aln hG (x := (some q1)) rfl rfl ?_
  refine kk_ob (fun b9 eb9 => ?_)
  subst eb9
  refine kk_aas hG (a := b9) (x := (some q1)) rfl (fun s10 => ?_)
  refine kk_aln hG (x := (some p0)) rfl rfl ?_
  refine kk_dup hG (x := (some p0)) rfl ?_
  refine kk_gi hG (c := 9) (k := 5) (a := p0) rfl rfl rfl rfl (fun v11 => ?_)
  refine kk_ic hG rfl cc_i1 ?_
  refine kks hG rfl rfl ?_
  refine kk_pi hG (c := 9) (k := 5) (a := p0) rfl rfl rfl rfl (fun s12 => ?_)
  refine kk_aln hG (x := (some q1)) rfl rfl ?_
  exact kk_ra hG (x := (some q1)) rfl rfl rfl k
def C_Pr_copy (sa : Nat → Nat) (p0 : Nat) (p1 : Option Nat) (s : cS) (kc ks : Nat) (Q : (cS → Nat → Nat → Prop)) : Prop := ob p1 (fun b1 => (ob (gI s 5 0 b1) (fun v2 => (ob (pI s 5 0 p0 v2) (fun s3 => (ob (gJ s3 5 1 b1) (fun v4 => (ob (pJ s3 5 1 p0 v4) (fun s5 => (ob (gJ s5 5 2 b1) (fun v6 => (ob (pJ s5 5 2 p0 v6) (fun s7 => (ob (gI s7 5 3 b1) (fun v8 => (ob (pI s7 5 3 p0 v8) (fun s9 => (Q s9 kc ks))))))))))))))))))
set_option maxRecDepth 100000 in
set_option maxHeartbeats 4000000 in
theorem kc_Pr_copy (base : Nat) (sa : Nat → Nat) {R : pmM} {s : cS} {kc ks : Nat} {Rt : pmR} {p0 : Nat} {p1 : Option Nat} {Q : (cS → Nat → Nat → Prop)} (hw : cW sa R base s) (h : C_Pr_copy sa p0 p1 s kc ks Q) (k : ∀ s' kc' ks', cW sa R base s' → Q s' kc' ks' → Rt none (cM R s') kc' ks') : kP_Pr_copy base sa [.ref p0, va_rf p1] (cM R s) kc ks Rt := by
  refine ⟨by cases p1 <;> exact Nat.le_of_ble_eq_true rfl, fun G hG => ?_⟩
  have eL : lv_args 0 [.ref p0, va_rf p1] = [(0, va_rf (some p0)), (1, va_rf p1)] := by cases p1 <;> rfl
  rw [eL]
  refine (show KK sa R base G 0 [(0, va_rf (some p0)), (1, va_rf p1)] [] s kc ks (C_Pr_copy sa p0 p1 s kc ks Q) from ?_) hw h
  refine kk_aln hG (x := (some p0)) rfl rfl ?_
  refine kk_aln hG (x := p1) rfl rfl ?_
  refine kk_ob (fun b1 eb1 => ?_)
  subst eb1
  refine kk_gi hG (c := 5) (k := 0) (a := b1) rfl rfl rfl rfl (fun v2 => ?_)
  refine kk_pi hG (c := 5) (k := 0) (a := p0) rfl rfl rfl rfl (fun s3 => ?_)
  refine kk_aln hG (x := (some p0)) rfl rfl ?_
  refine kk_aln hG (x := (some b1)) rfl rfl ?_
  refine kk_gj hG (c := 5) (k := 1) (a := b1) rfl rfl rfl rfl (fun v4 => ?_)
  refine kk_pj hG (c := 5) (k := 1) (a := p0) rfl rfl rfl rfl (fun s5 => ?_)
  refine kk_aln hG (x := (some p0)) rfl rfl ?_
  refine kk_aln hG (x := (some b1)) rfl rfl ?_
  refine kk_gj hG (c := 5) (k := 2) (a := b1) rfl rfl rfl rfl (fun v6 => ?_)
  refine kk_pj hG (c := 5) (k := 2) (a := p0) rfl rfl rfl rfl (fun s7 => ?_)
  refine kk_aln hG (x := (some p0)) rfl rfl ?_
  refine kk_aln hG (x := (some b1)) rfl rfl ?_
  refine kk_gi hG (c := 5) (k := 3) (a := b1) rfl rfl rfl rfl (fun v8 => ?_)
  refine kk_pi hG (c := 5) (k := 3) (a := p0) rfl rfl rfl rfl (fun s9 => ?_)
  exact kk_rv hG rfl rfl k
