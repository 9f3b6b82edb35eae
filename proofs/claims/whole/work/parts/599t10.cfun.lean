/-! Methods as weakest preconditions, by program: Ch_sha .. Da_init -/
def C_Ch_sha_s104 (sa : Nat → Nat) (p0 : Nat) (a1 : Int32) (a2 : Int32) (s : cS) (kc ks : Nat) (Q : (cS → Nat → Nat → Prop)) (P6 : (Int32 → cS → Nat → Nat → Prop)) (P104 : (Int32 → cS → Nat → Nat → Prop)) : Prop := if a2 < (80 : Int32) then (ob (gP s 1 11 p0) (fun v2 => (ob v2 (fun b3 => (ob (rE s .int b3 (a2 - (3 : Int32))) (fun v4 => (ob (gP s 1 11 p0) (fun v5 => (ob v5 (fun b6 => (ob (rE s .int b6 (a2 - (8 : Int32))) (fun v7 => (ob (gP s 1 11 p0) (fun v8 => (ob v8 (fun b9 => (ob (rE s .int b9 (a2 - (14 : Int32))) (fun v10 => (ob (gP s 1 11 p0) (fun v11 => (ob v11 (fun b12 => (ob (rE s .int b12 (a2 - (16 : Int32))) (fun v13 => (ob (gP s 1 11 p0) (fun v14 => (ob v14 (fun b15 => (ob (wEi s b15 a2 (((((v4 ^^^ v7) ^^^ v10) ^^^ v13) <<< ((1 : Int32) &&& 31)) ||| (ush_I (((v4 ^^^ v7) ^^^ v10) ^^^ v13) (31 : Int32)))) (fun s16 => ((P104 (a2 + (1 : Int32)) s16 kc ks)))))))))))))))))))))))))))))))) else ((okO s 1 p0 ∧ C_Ch_shaBlock sa p0 s kc ks (fun sr1 cr1 dr1 => ((P6 (a1 + (64 : Int32)) sr1 cr1 dr1)))))
def C_Ch_sha_b104 (sa : Nat → Nat) (p0 : Nat) (a1 : Int32) (a2 : Int32) (s : cS) (kc ks : Nat) (Q : (cS → Nat → Nat → Prop)) (P6 : (Int32 → cS → Nat → Nat → Prop)) : Prop := ∀ P104 : (Int32 → cS → Nat → Nat → Prop), (∀ (a2 : Int32) (s : cS) (kc ks : Nat), C_Ch_sha_s104 sa p0 a1 a2 s kc ks Q P6 P104 → P104 a2 s kc ks) → P104 a2 s kc ks
def C_Ch_sha_s19 (sa : Nat → Nat) (p0 : Nat) (a1 : Int32) (a2 : Int32) (s : cS) (kc ks : Nat) (Q : (cS → Nat → Nat → Prop)) (P6 : (Int32 → cS → Nat → Nat → Prop)) (P19 : (Int32 → cS → Nat → Nat → Prop)) : Prop := if a2 < (16 : Int32) then (ob (gP s 1 11 p0) (fun v1 => (ob (gP s 1 8 p0) (fun v2 => (ob v2 (fun b3 => (ob (rE s .byte b3 (a1 + ((4 : Int32) * a2))) (fun v4 => (ob (gP s 1 8 p0) (fun v5 => (ob v5 (fun b6 => (ob (rE s .byte b6 ((a1 + ((4 : Int32) * a2)) + (1 : Int32))) (fun v7 => (ob (gP s 1 8 p0) (fun v8 => (ob v8 (fun b9 => (ob (rE s .byte b9 ((a1 + ((4 : Int32) * a2)) + (2 : Int32))) (fun v10 => (ob (gP s 1 8 p0) (fun v11 => (ob v11 (fun b12 => (ob (rE s .byte b12 ((a1 + ((4 : Int32) * a2)) + (3 : Int32))) (fun v13 => (ob v1 (fun b14 => (ob (wEi s b14 a2 (((((v4 &&& (255 : Int32)) <<< ((24 : Int32) &&& 31)) ||| ((v7 &&& (255 : Int32)) <<< ((16 : Int32) &&& 31))) ||| ((v10 &&& (255 : Int32)) <<< ((8 : Int32) &&& 31))) ||| (v13 &&& (255 : Int32)))) (fun s15 => ((P19 (a2 + (1 : Int32)) s15 kc ks)))))))))))))))))))))))))))))))) else (((C_Ch_sha_b104 sa p0 a1 (16 : Int32) s kc ks Q P6)))
def C_Ch_sha_b19 (sa : Nat → Nat) (p0 : Nat) (a1 : Int32) (a2 : Int32) (s : cS) (kc ks : Nat) (Q : (cS → Nat → Nat → Prop)) (P6 : (Int32 → cS → Nat → Nat → Prop)) : Prop := ∀ P19 : (Int32 → cS → Nat → Nat → Prop), (∀ (a2 : Int32) (s : cS) (kc ks : Nat), C_Ch_sha_s19 sa p0 a1 a2 s kc ks Q P6 P19 → P19 a2 s kc ks) → P19 a2 s kc ks
def C_Ch_sha_s6 (sa : Nat → Nat) (p0 : Nat) (a1 : Int32) (s : cS) (kc ks : Nat) (Q : (cS → Nat → Nat → Prop)) (P6 : (Int32 → cS → Nat → Nat → Prop)) : Prop := ob (gI s 1 9 p0) (fun v1 => (if v1 < (a1 + (64 : Int32)) then ((Q s kc ks)) else ((C_Ch_sha_b19 sa p0 a1 (0 : Int32) s kc ks Q P6))))
def C_Ch_sha_b6 (sa : Nat → Nat) (p0 : Nat) (a1 : Int32) (s : cS) (kc ks : Nat) (Q : (cS → Nat → Nat → Prop)) : Prop := ∀ P6 : (Int32 → cS → Nat → Nat → Prop), (∀ (a1 : Int32) (s : cS) (kc ks : Nat), C_Ch_sha_s6 sa p0 a1 s kc ks Q P6 → P6 a1 s kc ks) → P6 a1 s kc ks
def C_Ch_sha (sa : Nat → Nat) (p0 : Nat) (s : cS) (kc ks : Nat) (Q : (cS → Nat → Nat → Prop)) : Prop := okO s 1 p0 ∧ C_Ch_begin sa p0 s kc ks (fun sr1 cr1 dr1 => ((C_Ch_sha_b6 sa p0 (0 : Int32) sr1 cr1 dr1 Q)))
set_option maxRecDepth 100000 in
set_option maxHeartbeats 4000000 in
theorem kc_Ch_sha (base : Nat) (sa : Nat → Nat) {R : pmM} {s : cS} {kc ks : Nat} {Rt : pmR} {p0 : Nat} {Q : (cS → Nat → Nat → Prop)} (hw : cW sa R base s) (h : C_Ch_sha sa p0 s kc ks Q) (k : ∀ s' kc' ks', cW sa R base s' → Q s' kc' ks' → Rt none (cM R s') kc' ks') : kP_Ch_sha base sa [.ref p0] (cM R s) kc ks Rt := by
  refine ⟨Nat.le_of_ble_eq_true rfl, fun G hG => ?_⟩
  have b6 : ∀ (a1 : Int32) (s : cS) (kc ks : Nat), KK sa R base G 6 [(0, va_rf (some p0)), (1, .int a1)] [] s kc ks (C_Ch_sha_b6 sa p0 a1 s kc ks Q) := by
    have H : ∀ (P6 : (Int32 → cS → Nat → Nat → Prop)) (hP6 : ∀ (a1 : Int32) (s : cS) (kc ks : Nat), P6 a1 s kc ks → cW sa R base s → G 6 [(0, va_rf (some p0)), (1, .int a1)] [] (cM R s) kc ks) (a1 : Int32) (s : cS) (kc ks : Nat), KK sa R base G 6 [(0, va_rf (some p0)), (1, .int a1)] [] s kc ks (C_Ch_sha_s6 sa p0 a1 s kc ks Q P6) := by
      intro P6 hP6
      have b104 : ∀ (a1 : Int32) (a2 : Int32) (s : cS) (kc ks : Nat), KK sa R base G 104 [(0, va_rf (some p0)), (1, .int a1), (2, .int a2)] [] s kc ks (C_Ch_sha_b104 sa p0 a1 a2 s kc ks Q P6) := by
        intro a1
        have H : ∀ (P104 : (Int32 → cS → Nat → Nat → Prop)) (hP104 : ∀ (a2 : Int32) (s : cS) (kc ks : Nat), P104 a2 s kc ks → cW sa R base s → G 104 [(0, va_rf (some p0)), (1, .int a1), (2, .int a2)] [] (cM R s) kc ks) (a2 : Int32) (s : cS) (kc ks : Nat), KK sa R base G 104 [(0, va_rf (some p0)), (1, .int a1), (2, .int a2)] [] s kc ks (C_Ch_sha_s104 sa p0 a1 a2 s kc ks Q P6 P104) := by
          intro P104 hP104
          intro a2 s kc ks
          refine kks hG rfl rfl ?_
          refine kk_bi hG rfl cc_b80 ?_
          refine kk_ige hG (t := 169) rfl rfl ?_ ?_
          · refine kk_aln hG (x := (some p0)) rfl rfl ?_
            refine kk_cv hG 0 rfl rfl (Nat.le_of_ble_eq_true rfl) (by decide) rfl (st' := []) rfl (cats_le (Nat.le_of_ble_eq_true rfl)) (fun _ hw h k => kk_rcv h.1 (kc_Ch_shaBlock base sa hw h.2 k)) (fun sr1 cr1 dr1 => ?_)
            refine kk_inc hG (L' := [(1, .int (a1 + (64 : Int32))), (0, va_rf (some p0)), (2, .int a2)]) rfl (Nat.le_of_ble_eq_true rfl) rfl cc_i64 rfl ?_
            refine kk_go hG (t := 6) rfl rfl ?_
            exact kk_wl hG [1, 0] rfl (fun hw h => hP6 _ _ _ _ h hw)
          refine kk_aln hG (x := (some p0)) rfl rfl ?_
          refine kk_gp hG (c := 1) (k := 11) (a := p0) rfl rfl rfl rfl (fun v2 => ?_)
          refine kks hG rfl rfl ?_
          refine kk_ic hG rfl cc_i3 ?_
          refine kks hG rfl rfl ?_
          refine kk_ob (fun b3 eb3 => ?_)
          subst eb3
          refine kk_ia hG (a := b3) rfl (fun v4 => ?_)
          refine kk_aln hG (x := (some p0)) rfl rfl ?_
          refine kk_gp hG (c := 1) (k := 11) (a := p0) rfl rfl rfl rfl (fun v5 => ?_)
          refine kks hG rfl rfl ?_
          refine kk_bi hG rfl cc_b8 ?_
          refine kks hG rfl rfl ?_
          refine kk_ob (fun b6 eb6 => ?_)
          subst eb6
          refine kk_ia hG (a := b6) rfl (fun v7 => ?_)
          refine kks hG rfl rfl ?_
          refine kk_aln hG (x := (some p0)) rfl rfl ?_
          refine kk_gp hG (c := 1) (k := 11) (a := p0) rfl rfl rfl rfl (fun v8 => ?_)
          refine kks hG rfl rfl ?_
          refine kk_bi hG rfl cc_b14 ?_
          refine kks hG rfl rfl ?_
          refine kk_ob (fun b9 eb9 => ?_)
          subst eb9
          refine kk_ia hG (a := b9) rfl (fun v10 => ?_)
          refine kks hG rfl rfl ?_
          refine kk_aln hG (x := (some p0)) rfl rfl ?_
          refine kk_gp hG (c := 1) (k := 11) (a := p0) rfl rfl rfl rfl (fun v11 => ?_)
          refine kks hG rfl rfl ?_
          refine kk_bi hG rfl cc_b16 ?_
          refine kks hG rfl rfl ?_
          refine kk_ob (fun b12 eb12 => ?_)
          subst eb12
          refine kk_ia hG (a := b12) rfl (fun v13 => ?_)
          refine kks hG rfl rfl ?_
          refine kk_st hG (L' := [(3, .int (((v4 ^^^ v7) ^^^ v10) ^^^ v13)), (0, va_rf (some p0)), (1, .int a1), (2, .int a2)]) rfl rfl (Nat.le_of_ble_eq_true rfl) rfl ?_
          refine kk_aln hG (x := (some p0)) rfl rfl ?_
          refine kk_gp hG (c := 1) (k := 11) (a := p0) rfl rfl rfl rfl (fun v14 => ?_)
          refine kks hG rfl rfl ?_
          refine kks hG rfl rfl ?_
          refine kk_ic hG rfl cc_i1 ?_
          refine kks hG rfl rfl ?_
          refine kks hG rfl rfl ?_
          refine kk_bi hG rfl cc_b31 ?_
          refine kks hG rfl rfl ?_
          refine kks hG rfl rfl ?_
          refine kk_ob (fun b15 eb15 => ?_)
          subst eb15
          refine kk_is hG (a := b15) rfl (fun s16 => ?_)
          refine kk_inc hG (L' := [(2, .int (a2 + (1 : Int32))), (3, .int (((v4 ^^^ v7) ^^^ v10) ^^^ v13)), (0, va_rf (some p0)), (1, .int a1)]) rfl (Nat.le_of_ble_eq_true rfl) rfl cc_i1 rfl ?_
          refine kk_go hG (t := 104) rfl rfl ?_
          exact kk_wl hG [2, 3, 0] rfl (fun hw h => hP104 _ _ _ _ h hw)
        exact fun a2 s kc ks hw h => h (fun a2 s kc ks => cW sa R base s → G 104 [(0, va_rf (some p0)), (1, .int a1), (2, .int a2)] [] (cM R s) kc ks) (fun a2 s kc ks hs hw => H _ (fun _ _ _ _ hp hw => hp hw) a2 s kc ks hw hs) hw
      have b19 : ∀ (a1 : Int32) (a2 : Int32) (s : cS) (kc ks : Nat), KK sa R base G 19 [(0, va_rf (some p0)), (1, .int a1), (2, .int a2)] [] s kc ks (C_Ch_sha_b19 sa p0 a1 a2 s kc ks Q P6) := by
        intro a1
        have H : ∀ (P19 : (Int32 → cS → Nat → Nat → Prop)) (hP19 : ∀ (a2 : Int32) (s : cS) (kc ks : Nat), P19 a2 s kc ks → cW sa R base s → G 19 [(0, va_rf (some p0)), (1, .int a1), (2, .int a2)] [] (cM R s) kc ks) (a2 : Int32) (s : cS) (kc ks : Nat), KK sa R base G 19 [(0, va_rf (some p0)), (1, .int a1), (2, .int a2)] [] s kc ks (C_Ch_sha_s19 sa p0 a1 a2 s kc ks Q P6 P19) := by
          intro P19 hP19
          intro a2 s kc ks
          refine kks hG rfl rfl ?_
          refine kk_bi hG rfl cc_b16 ?_
          refine kk_ige hG (t := 101) rfl rfl ?_ ?_
          · refine kk_bi hG rfl cc_b16 ?_
            refine kk_st hG (L' := [(2, .int (16 : Int32)), (0, va_rf (some p0)), (1, .int a1)]) rfl rfl (Nat.le_of_ble_eq_true rfl) rfl ?_
            exact kk_wl hG [1, 2, 0] rfl (b104 _ _ _ _ _)
          refine kks hG rfl rfl ?_
          refine kk_ic hG rfl cc_i4 ?_
          refine kks hG rfl rfl ?_
          refine kks hG rfl rfl ?_
          refine kks hG rfl rfl ?_
          refine kk_st hG (L' := [(3, .int (a1 + ((4 : Int32) * a2))), (0, va_rf (some p0)), (1, .int a1), (2, .int a2)]) rfl rfl (Nat.le_of_ble_eq_true rfl) rfl ?_
          refine kk_aln hG (x := (some p0)) rfl rfl ?_
          refine kk_gp hG (c := 1) (k := 11) (a := p0) rfl rfl rfl rfl (fun v1 => ?_)
          refine kks hG rfl rfl ?_
          refine kk_aln hG (x := (some p0)) rfl rfl ?_
          refine kk_gp hG (c := 1) (k := 8) (a := p0) rfl rfl rfl rfl (fun v2 => ?_)
          refine kks hG rfl rfl ?_
          refine kk_ob (fun b3 eb3 => ?_)
          subst eb3
          refine kk_ba hG (a := b3) rfl (fun v4 => ?_)
          refine kk_si hG rfl cc_s255 ?_
          refine kks hG rfl rfl ?_
          refine kk_bi hG rfl cc_b24 ?_
          refine kks hG rfl rfl ?_
          refine kk_aln hG (x := (some p0)) rfl rfl ?_
          refine kk_gp hG (c := 1) (k := 8) (a := p0) rfl rfl rfl rfl (fun v5 => ?_)
          refine kks hG rfl rfl ?_
          refine kk_ic hG rfl cc_i1 ?_
          refine kks hG rfl rfl ?_
          refine kk_ob (fun b6 eb6 => ?_)
          subst eb6
          refine kk_ba hG (a := b6) rfl (fun v7 => ?_)
          refine kk_si hG rfl cc_s255 ?_
          refine kks hG rfl rfl ?_
          refine kk_bi hG rfl cc_b16 ?_
          refine kks hG rfl rfl ?_
          refine kks hG rfl rfl ?_
          refine kk_aln hG (x := (some p0)) rfl rfl ?_
          refine kk_gp hG (c := 1) (k := 8) (a := p0) rfl rfl rfl rfl (fun v8 => ?_)
          refine kks hG rfl rfl ?_
          refine kk_ic hG rfl cc_i2 ?_
          refine kks hG rfl rfl ?_
          refine kk_ob (fun b9 eb9 => ?_)
          subst eb9
          refine kk_ba hG (a := b9) rfl (fun v10 => ?_)
          refine kk_si hG rfl cc_s255 ?_
          refine kks hG rfl rfl ?_
          refine kk_bi hG rfl cc_b8 ?_
          refine kks hG rfl rfl ?_
          refine kks hG rfl rfl ?_
          refine kk_aln hG (x := (some p0)) rfl rfl ?_
          refine kk_gp hG (c := 1) (k := 8) (a := p0) rfl rfl rfl rfl (fun v11 => ?_)
          refine kks hG rfl rfl ?_
          refine kk_ic hG rfl cc_i3 ?_
          refine kks hG rfl rfl ?_
          refine kk_ob (fun b12 eb12 => ?_)
          subst eb12
          refine kk_ba hG (a := b12) rfl (fun v13 => ?_)
          refine kk_si hG rfl cc_s255 ?_
          refine kks hG rfl rfl ?_
          refine kks hG rfl rfl ?_
          refine kk_ob (fun b14 eb14 => ?_)
          subst eb14
          refine kk_is hG (a := b14) rfl (fun s15 => ?_)
          refine kk_inc hG (L' := [(2, .int (a2 + (1 : Int32))), (3, .int (a1 + ((4 : Int32) * a2))), (0, va_rf (some p0)), (1, .int a1)]) rfl (Nat.le_of_ble_eq_true rfl) rfl cc_i1 rfl ?_
          refine kk_go hG (t := 19) rfl rfl ?_
          exact kk_wl hG [2, 3, 0] rfl (fun hw h => hP19 _ _ _ _ h hw)
        exact fun a2 s kc ks hw h => h (fun a2 s kc ks => cW sa R base s → G 19 [(0, va_rf (some p0)), (1, .int a1), (2, .int a2)] [] (cM R s) kc ks) (fun a2 s kc ks hs hw => H _ (fun _ _ _ _ hp hw => hp hw) a2 s kc ks hw hs) hw
      intro a1 s kc ks
      refine kks hG rfl rfl ?_
      refine kk_bi hG rfl cc_b64 ?_
      refine kks hG rfl rfl ?_
      refine kk_aln hG (x := (some p0)) rfl rfl ?_
      refine kk_gi hG (c := 1) (k := 9) (a := p0) rfl rfl rfl rfl (fun v1 => ?_)
      refine kk_igt hG (t := 179) rfl rfl ?_ ?_
      · exact kk_rv hG rfl rfl k
      refine kk_ic hG rfl cc_i0 ?_
      refine kk_st hG (L' := [(2, .int (0 : Int32)), (0, va_rf (some p0)), (1, .int a1)]) rfl rfl (Nat.le_of_ble_eq_true rfl) rfl ?_
      exact kk_wl hG [1, 2, 0] rfl (b19 _ _ _ _ _)
    exact fun a1 s kc ks hw h => h (fun a1 s kc ks => cW sa R base s → G 6 [(0, va_rf (some p0)), (1, .int a1)] [] (cM R s) kc ks) (fun a1 s kc ks hs hw => H _ (fun _ _ _ _ hp hw => hp hw) a1 s kc ks hw hs) hw
  refine (show KK sa R base G 0 [(0, va_rf (some p0))] [] s kc ks (C_Ch_sha sa p0 s kc ks Q) from ?_) hw h
  refine kk_aln hG (x := (some p0)) rfl rfl ?_
  refine kk_cv hG 0 rfl rfl (Nat.le_of_ble_eq_true rfl) (by decide) rfl (st' := []) rfl (cats_le (Nat.le_of_ble_eq_true rfl)) (fun _ hw h k => kk_rcv h.1 (kc_Ch_begin base sa hw h.2 k)) (fun sr1 cr1 dr1 => ?_)
  refine kk_ic hG rfl cc_i0 ?_
  refine kk_st hG (L' := [(1, .int (0 : Int32)), (0, va_rf (some p0))]) rfl rfl (Nat.le_of_ble_eq_true rfl) rfl ?_
  exact kk_wl hG [1, 0] rfl (b6 _ _ _ _)
def C_Ch_sumByte_b29 (sa : Nat → Nat) (p0 : Nat) (p1 : Int32) (u0 : Int32) (s : cS) (kc ks : Nat) (Q : (Int32 → cS → Nat → Nat → Prop)) : Prop := ob (gP s 1 10 p0) (fun v1 => (ob v1 (fun b2 => (ob (rE s .int b2 (p1 >>> ((2 : Int32) &&& 31))) (fun v3 => (Q ((ush_I v3 u0) &&& (255 : Int32)) s kc ks))))))
def C_Ch_sumByte (sa : Nat → Nat) (p0 : Nat) (p1 : Int32) (p2 : Int32) (s : cS) (kc ks : Nat) (Q : (Int32 → cS → Nat → Nat → Prop)) : Prop := ob (gP s 1 4 p0) (fun v1 => (ob v1 (fun b2 => (ob (rE s .int b2 p2) (fun v3 => (if v3 = (16 : Int32) then ((C_Ch_sumByte_b29 sa p0 p1 ((8 : Int32) * (p1 &&& (3 : Int32))) s kc ks Q)) else ((C_Ch_sumByte_b29 sa p0 p1 ((24 : Int32) - ((8 : Int32) * (p1 &&& (3 : Int32)))) s kc ks Q))))))))
set_option maxRecDepth 100000 in
set_option maxHeartbeats 4000000 in
theorem kc_Ch_sumByte (base : Nat) (sa : Nat → Nat) {R : pmM} {s : cS} {kc ks : Nat} {Rt : pmR} {p0 : Nat} {p1 : Int32} {p2 : Int32} {Q : (Int32 → cS → Nat → Nat → Prop)} (hw : cW sa R base s) (h : C_Ch_sumByte sa p0 p1 p2 s kc ks Q) (k : ∀ r s' kc' ks', cW sa R base s' → Q r s' kc' ks' → Rt (some (.int r)) (cM R s') kc' ks') : kP_Ch_sumByte base sa [.ref p0, .int p1, .int p2] (cM R s) kc ks Rt := by
  refine ⟨Nat.le_of_ble_eq_true rfl, fun G hG => ?_⟩
  have b29 : ∀ (u0 : Int32) (s : cS) (kc ks : Nat), KK sa R base G 29 [(0, va_rf (some p0)), (1, .int p1)] [.int u0] s kc ks (C_Ch_sumByte_b29 sa p0 p1 u0 s kc ks Q) := by
    intro u0 s kc ks
    refine kk_st hG (L' := [(3, .int u0), (0, va_rf (some p0)), (1, .int p1)]) rfl rfl (Nat.le_of_ble_eq_true rfl) rfl ?_
    refine kk_aln hG (x := (some p0)) rfl rfl ?_
    refine kk_gp hG (c := 1) (k := 10) (a := p0) rfl rfl rfl rfl (fun v1 => ?_)
    refine kks hG rfl rfl ?_
    refine kk_ic hG rfl cc_i2 ?_
    refine kks hG rfl rfl ?_
    refine kk_ob (fun b2 eb2 => ?_)
    subst eb2
    refine kk_ia hG (a := b2) rfl (fun v3 => ?_)
    refine kks hG rfl rfl ?_
    refine kks hG rfl rfl ?_
    refine kk_si hG rfl cc_s255 ?_
    refine kks hG rfl rfl ?_
    exact kk_ri hG rfl rfl rfl k
  refine (show KK sa R base G 0 [(0, va_rf (some p0)), (1, .int p1), (2, .int p2)] [] s kc ks (C_Ch_sumByte sa p0 p1 p2 s kc ks Q) from ?_) hw h
  refine kk_aln hG (x := (some p0)) rfl rfl ?_
  refine kk_gp hG (c := 1) (k := 4) (a := p0) rfl rfl rfl rfl (fun v1 => ?_)
  refine kks hG rfl rfl ?_
  refine kk_ob (fun b2 eb2 => ?_)
  subst eb2
  refine kk_ia hG (a := b2) rfl (fun v3 => ?_)
  refine kk_bi hG rfl cc_b16 ?_
  refine kk_ine hG (t := 20) rfl rfl ?_ ?_
  · refine kk_bi hG rfl cc_b24 ?_
    refine kk_bi hG rfl cc_b8 ?_
    refine kks hG rfl rfl ?_
    refine kk_ic hG rfl cc_i3 ?_
    refine kks hG rfl rfl ?_
    refine kks hG rfl rfl ?_
    refine kks hG rfl rfl ?_
    exact kk_wl hG [0, 1] rfl (b29 _ _ _ _)
  refine kk_bi hG rfl cc_b8 ?_
  refine kks hG rfl rfl ?_
  refine kk_ic hG rfl cc_i3 ?_
  refine kks hG rfl rfl ?_
  refine kks hG rfl rfl ?_
  refine kk_go hG (t := 29) rfl rfl ?_
  exact kk_wl hG [0, 1] rfl (b29 _ _ _ _)
def C_Ch_sum_s117 (sa : Nat → Nat) (p0 : Nat) (p3 : Int32) (a4 : Int32) (s : cS) (kc ks : Nat) (Q : (cS → Nat → Nat → Prop)) (P117 : (Int32 → cS → Nat → Nat → Prop)) : Prop := if a4 < (20 : Int32) then (ob (gP s 1 8 p0) (fun v3 => (ob (gI s 1 9 p0) (fun v4 => (okO s 1 p0 ∧ C_Ch_sumByte sa p0 a4 p3 s kc ks (fun r5 sr5 cr5 dr5 => (ob v3 (fun b6 => (ob (wEb sr5 b6 v4 (Int8.toInt32 (Int32.toInt8 r5))) (fun s7 => (ob (gI s7 1 9 p0) (fun v8 => (ob (pI s7 1 9 p0 (v8 + (1 : Int32))) (fun s9 => ((P117 (a4 + (1 : Int32)) s9 cr5 dr5)))))))))))))))) else ((okO s 1 p0 ∧ C_Ch_fillBlock sa p0 (1 : Int32) s kc ks (fun sr1 cr1 dr1 => (okO sr1 1 p0 ∧ C_Ch_sha sa p0 sr1 cr1 dr1 (fun sr2 cr2 dr2 => (Q sr2 cr2 dr2))))))
def C_Ch_sum_b117 (sa : Nat → Nat) (p0 : Nat) (p3 : Int32) (a4 : Int32) (s : cS) (kc ks : Nat) (Q : (cS → Nat → Nat → Prop)) : Prop := ∀ P117 : (Int32 → cS → Nat → Nat → Prop), (∀ (a4 : Int32) (s : cS) (kc ks : Nat), C_Ch_sum_s117 sa p0 p3 a4 s kc ks Q P117 → P117 a4 s kc ks) → P117 a4 s kc ks
def C_Ch_sum_b16 (sa : Nat → Nat) (p0 : Nat) (p1 : Option Nat) (p2 : Int32) (p3 : Int32) (s : cS) (kc ks : Nat) (Q : (cS → Nat → Nat → Prop)) : Prop := ob (pI s 1 9 p0 (0 : Int32)) (fun s1 => (ob (gP s1 1 4 p0) (fun v2 => (ob v2 (fun b3 => (ob (rE s1 .int b3 p3) (fun v4 => (if v4 = (16 : Int32) then (ob p1 (fun b14 => (ob (gP s1 0 0 b14) (fun v15 => (ob (gI s1 0 1 b14) (fun v16 => (okO s1 1 p0 ∧ C_Ch_addWork sa p0 v15 (mnI p2 v16) s1 kc ks (fun sr17 cr17 dr17 => (okO sr17 1 p0 ∧ C_Ch_addSecret sa p0 p3 (0 : Int32) (16 : Int32) sr17 cr17 dr17 (fun sr18 cr18 dr18 => (okO sr18 1 p0 ∧ C_Ch_fillBlock sa p0 (0 : Int32) sr18 cr18 dr18 (fun sr19 cr19 dr19 => (okO sr19 1 p0 ∧ C_Ch_md5 sa p0 sr19 cr19 dr19 (fun sr20 cr20 dr20 => (Q sr20 cr20 dr20))))))))))))))) else (okO s1 1 p0 ∧ C_Ch_addSecret sa p0 p3 (54 : Int32) (64 : Int32) s1 kc ks (fun sr5 cr5 dr5 => (ob p1 (fun b6 => (ob (gP sr5 0 0 b6) (fun v7 => (ob (gI sr5 0 1 b6) (fun v8 => (okO sr5 1 p0 ∧ C_Ch_addWork sa p0 v7 (mnI p2 v8) sr5 cr5 dr5 (fun sr9 cr9 dr9 => (okO sr9 1 p0 ∧ C_Ch_fillBlock sa p0 (1 : Int32) sr9 cr9 dr9 (fun sr10 cr10 dr10 => (okO sr10 1 p0 ∧ C_Ch_sha sa p0 sr10 cr10 dr10 (fun sr11 cr11 dr11 => (ob (pI sr11 1 9 p0 (0 : Int32)) (fun s12 => (okO s12 1 p0 ∧ C_Ch_addSecret sa p0 p3 (92 : Int32) (64 : Int32) s12 cr11 dr11 (fun sr13 cr13 dr13 => ((C_Ch_sum_b117 sa p0 p3 (0 : Int32) sr13 cr13 dr13 Q))))))))))))))))))))))))))))
def C_Ch_sum (sa : Nat → Nat) (p0 : Nat) (p1 : Option Nat) (p2 : Int32) (p3 : Int32) (s : cS) (kc ks : Nat) (Q : (cS → Nat → Nat → Prop)) : Prop := ob (gP s 1 8 p0) (fun v1 => (if v1 = none then (nwA sa s kc ks .byte (792 : Int32) (fun q2 sq2 cq2 dq2 => (ob (pP sq2 1 8 p0 (some q2)) (fun s3 => ((C_Ch_sum_b16 sa p0 p1 p2 p3 s3 cq2 dq2 Q)))))) else ((C_Ch_sum_b16 sa p0 p1 p2 p3 s kc ks Q))))
set_option maxRecDepth 100000 in
set_option maxHeartbeats 4000000 in
theorem kc_Ch_sum (base : Nat) (sa : Nat → Nat) {R : pmM} {s : cS} {kc ks : Nat} {Rt : pmR} {p0 : Nat} {p1 : Option Nat} {p2 : Int32} {p3 : Int32} {Q : (cS → Nat → Nat → Prop)} (hw : cW sa R base s) (h : C_Ch_sum sa p0 p1 p2 p3 s kc ks Q) (k : ∀ s' kc' ks', cW sa R base s' → Q s' kc' ks' → Rt none (cM R s') kc' ks') : kP_Ch_sum base sa [.ref p0, va_rf p1, .int p2, .int p3] (cM R s) kc ks Rt := by
  refine ⟨by cases p1 <;> exact Nat.le_of_ble_eq_true rfl, fun G hG => ?_⟩
  have eL : lv_args 0 [.ref p0, va_rf p1, .int p2, .int p3] = [(0, va_rf (some p0)), (1, va_rf p1), (2, .int p2), (3, .int p3)] := by cases p1 <;> rfl
  rw [eL]
  have b117 : ∀ (a4 : Int32) (s : cS) (kc ks : Nat), KK sa R base G 117 [(0, va_rf (some p0)), (3, .int p3), (4, .int a4)] [] s kc ks (C_Ch_sum_b117 sa p0 p3 a4 s kc ks Q) := by
    have H : ∀ (P117 : (Int32 → cS → Nat → Nat → Prop)) (hP117 : ∀ (a4 : Int32) (s : cS) (kc ks : Nat), P117 a4 s kc ks → cW sa R base s → G 117 [(0, va_rf (some p0)), (3, .int p3), (4, .int a4)] [] (cM R s) kc ks) (a4 : Int32) (s : cS) (kc ks : Nat), KK sa R base G 117 [(0, va_rf (some p0)), (3, .int p3), (4, .int a4)] [] s kc ks (C_Ch_sum_s117 sa p0 p3 a4 s kc ks Q P117) := by
      intro P117 hP117
      intro a4 s kc ks
      refine kks hG rfl rfl ?_
      refine kk_bi hG rfl cc_b20 ?_
      refine kk_ige hG (t := 157) rfl rfl ?_ ?_
      · refine kk_aln hG (x := (some p0)) rfl rfl ?_
        refine kk_ic hG rfl cc_i1 ?_
        refine kk_cv hG 0 rfl rfl (Nat.le_of_ble_eq_true rfl) (by decide) rfl (st' := []) rfl (cats_le (Nat.le_of_ble_eq_true rfl)) (fun _ hw h k => kk_rcv h.1 (kc_Ch_fillBlock base sa hw h.2 k)) (fun sr1 cr1 dr1 => ?_)
        refine kk_aln hG (x := (some p0)) rfl rfl ?_
        refine kk_cv hG 0 rfl rfl (Nat.le_of_ble_eq_true rfl) (by decide) rfl (st' := []) rfl (cats_le (Nat.le_of_ble_eq_true rfl)) (fun _ hw h k => kk_rcv h.1 (kc_Ch_sha base sa hw h.2 k)) (fun sr2 cr2 dr2 => ?_)
        exact kk_rv hG rfl rfl k
      refine kk_aln hG (x := (some p0)) rfl rfl ?_
      refine kk_gp hG (c := 1) (k := 8) (a := p0) rfl rfl rfl rfl (fun v3 => ?_)
      refine kk_aln hG (x := (some p0)) rfl rfl ?_
      refine kk_gi hG (c := 1) (k := 9) (a := p0) rfl rfl rfl rfl (fun v4 => ?_)
      refine kk_aln hG (x := (some p0)) rfl rfl ?_
      refine kks hG rfl rfl ?_
      refine kks hG rfl rfl ?_
      refine kk_cx (w := .int) hG 0 rfl rfl (Nat.le_of_ble_eq_true rfl) (by decide) rfl (st' := [.int v4, va_rf v3]) rfl (cats_le (Nat.le_of_ble_eq_true rfl)) (fun _ hw h k => kk_rcv h.1 (kc_Ch_sumByte base sa hw h.2 k)) (fun r5 sr5 cr5 dr5 => ?_)
      refine kks hG rfl rfl ?_
      refine kk_ob (fun b6 eb6 => ?_)
      subst eb6
      refine kk_bs hG (a := b6) rfl (fun s7 => ?_)
      refine kk_aln hG (x := (some p0)) rfl rfl ?_
      refine kk_dup hG (x := (some p0)) rfl ?_
      refine kk_gi hG (c := 1) (k := 9) (a := p0) rfl rfl rfl rfl (fun v8 => ?_)
      refine kk_ic hG rfl cc_i1 ?_
      refine kks hG rfl rfl ?_
      refine kk_pi hG (c := 1) (k := 9) (a := p0) rfl rfl rfl rfl (fun s9 => ?_)
      refine kk_inc hG (L' := [(4, .int (a4 + (1 : Int32))), (0, va_rf (some p0)), (3, .int p3)]) rfl (Nat.le_of_ble_eq_true rfl) rfl cc_i1 rfl ?_
      refine kk_go hG (t := 117) rfl rfl ?_
      exact kk_wl hG [1, 2, 0] rfl (fun hw h => hP117 _ _ _ _ h hw)
    exact fun a4 s kc ks hw h => h (fun a4 s kc ks => cW sa R base s → G 117 [(0, va_rf (some p0)), (3, .int p3), (4, .int a4)] [] (cM R s) kc ks) (fun a4 s kc ks hs hw => H _ (fun _ _ _ _ hp hw => hp hw) a4 s kc ks hw hs) hw
  have b16 : ∀ (s : cS) (kc ks : Nat), KK sa R base G 16 [(0, va_rf (some p0)), (1, va_rf p1), (2, .int p2), (3, .int p3)] [] s kc ks (C_Ch_sum_b16 sa p0 p1 p2 p3 s kc ks Q) := by
    intro s kc ks
    refine kk_aln hG (x := (some p0)) rfl rfl ?_
    refine kk_ic hG rfl cc_i0 ?_
    refine kk_pi hG (c := 1) (k := 9) (a := p0) rfl rfl rfl rfl (fun s1 => ?_)
    refine kk_aln hG (x := (some p0)) rfl rfl ?_
    refine kk_gp hG (c := 1) (k := 4) (a := p0) rfl rfl rfl rfl (fun v2 => ?_)
    refine kks hG rfl rfl ?_
    refine kk_ob (fun b3 eb3 => ?_)
    subst eb3
    refine kk_ia hG (a := b3) rfl (fun v4 => ?_)
    refine kk_bi hG rfl cc_b16 ?_
    refine kk_ine hG (t := 66) rfl rfl ?_ ?_
    · refine kk_aln hG (x := (some p0)) rfl rfl ?_
      refine kks hG rfl rfl ?_
      refine kk_bi hG rfl cc_b54 ?_
      refine kk_bi hG rfl cc_b64 ?_
      refine kk_cv hG 0 rfl rfl (Nat.le_of_ble_eq_true rfl) (by decide) rfl (st' := []) rfl (cats_le (Nat.le_of_ble_eq_true rfl)) (fun _ hw h k => kk_rcv h.1 (kc_Ch_addSecret base sa hw h.2 k)) (fun sr5 cr5 dr5 => ?_)
      refine kk_aln hG (x := (some p0)) rfl rfl ?_
      refine kk_aln hG (x := p1) rfl rfl ?_
      refine kk_ob (fun b6 eb6 => ?_)
      subst eb6
      refine kk_gp hG (c := 0) (k := 0) (a := b6) rfl rfl rfl rfl (fun v7 => ?_)
      refine kks hG rfl rfl ?_
      refine kk_aln hG (x := (some b6)) rfl rfl ?_
      refine kk_gi hG (c := 0) (k := 1) (a := b6) rfl rfl rfl rfl (fun v8 => ?_)
      refine kk_mn hG rfl rfl (Nat.le_of_ble_eq_true rfl) ?_
      refine kk_cv hG 0 rfl rfl (Nat.le_of_ble_eq_true rfl) (by decide) rfl (st' := []) rfl (cats_le (Nat.le_of_ble_eq_true rfl)) (fun _ hw h k => kk_rcv h.1 (kc_Ch_addWork base sa hw h.2 k)) (fun sr9 cr9 dr9 => ?_)
      refine kk_aln hG (x := (some p0)) rfl rfl ?_
      refine kk_ic hG rfl cc_i1 ?_
      refine kk_cv hG 0 rfl rfl (Nat.le_of_ble_eq_true rfl) (by decide) rfl (st' := []) rfl (cats_le (Nat.le_of_ble_eq_true rfl)) (fun _ hw h k => kk_rcv h.1 (kc_Ch_fillBlock base sa hw h.2 k)) (fun sr10 cr10 dr10 => ?_)
      refine kk_aln hG (x := (some p0)) rfl rfl ?_
      refine kk_cv hG 0 rfl rfl (Nat.le_of_ble_eq_true rfl) (by decide) rfl (st' := []) rfl (cats_le (Nat.le_of_ble_eq_true rfl)) (fun _ hw h k => kk_rcv h.1 (kc_Ch_sha base sa hw h.2 k)) (fun sr11 cr11 dr11 => ?_)
      refine kk_aln hG (x := (some p0)) rfl rfl ?_
      refine kk_ic hG rfl cc_i0 ?_
      refine kk_pi hG (c := 1) (k := 9) (a := p0) rfl rfl rfl rfl (fun s12 => ?_)
      refine kk_aln hG (x := (some p0)) rfl rfl ?_
      refine kks hG rfl rfl ?_
      refine kk_bi hG rfl cc_b92 ?_
      refine kk_bi hG rfl cc_b64 ?_
      refine kk_cv hG 0 rfl rfl (Nat.le_of_ble_eq_true rfl) (by decide) rfl (st' := []) rfl (cats_le (Nat.le_of_ble_eq_true rfl)) (fun _ hw h k => kk_rcv h.1 (kc_Ch_addSecret base sa hw h.2 k)) (fun sr13 cr13 dr13 => ?_)
      refine kk_ic hG rfl cc_i0 ?_
      refine kk_st hG (L' := [(4, .int (0 : Int32)), (0, va_rf (some p0)), (1, va_rf (some b6)), (2, .int p2), (3, .int p3)]) rfl rfl (Nat.le_of_ble_eq_true rfl) rfl ?_
      exact kk_wl hG [1, 4, 0] rfl (b117 _ _ _ _)
    refine kk_aln hG (x := (some p0)) rfl rfl ?_
    refine kk_aln hG (x := p1) rfl rfl ?_
    refine kk_ob (fun b14 eb14 => ?_)
    subst eb14
    refine kk_gp hG (c := 0) (k := 0) (a := b14) rfl rfl rfl rfl (fun v15 => ?_)
    refine kks hG rfl rfl ?_
    refine kk_aln hG (x := (some b14)) rfl rfl ?_
    refine kk_gi hG (c := 0) (k := 1) (a := b14) rfl rfl rfl rfl (fun v16 => ?_)
    refine kk_mn hG rfl rfl (Nat.le_of_ble_eq_true rfl) ?_
    refine kk_cv hG 0 rfl rfl (Nat.le_of_ble_eq_true rfl) (by decide) rfl (st' := []) rfl (cats_le (Nat.le_of_ble_eq_true rfl)) (fun _ hw h k => kk_rcv h.1 (kc_Ch_addWork base sa hw h.2 k)) (fun sr17 cr17 dr17 => ?_)
    refine kk_aln hG (x := (some p0)) rfl rfl ?_
    refine kks hG rfl rfl ?_
    refine kk_ic hG rfl cc_i0 ?_
    refine kk_bi hG rfl cc_b16 ?_
    refine kk_cv hG 0 rfl rfl (Nat.le_of_ble_eq_true rfl) (by decide) rfl (st' := []) rfl (cats_le (Nat.le_of_ble_eq_true rfl)) (fun _ hw h k => kk_rcv h.1 (kc_Ch_addSecret base sa hw h.2 k)) (fun sr18 cr18 dr18 => ?_)
    refine kk_aln hG (x := (some p0)) rfl rfl ?_
    refine kk_ic hG rfl cc_i0 ?_
    refine kk_cv hG 0 rfl rfl (Nat.le_of_ble_eq_true rfl) (by decide) rfl (st' := []) rfl (cats_le (Nat.le_of_ble_eq_true rfl)) (fun _ hw h k => kk_rcv h.1 (kc_Ch_fillBlock base sa hw h.2 k)) (fun sr19 cr19 dr19 => ?_)
    refine kk_aln hG (x := (some p0)) rfl rfl ?_
    refine kk_cv hG 0 rfl rfl (Nat.le_of_ble_eq_true rfl) (by decide) rfl (st' := []) rfl (cats_le (Nat.le_of_ble_eq_true rfl)) (fun _ hw h k => kk_rcv h.1 (kc_Ch_md5 base sa hw h.2 k)) (fun sr20 cr20 dr20 => ?_)
    exact kk_rv hG rfl rfl k
  refine (show KK sa R base G 0 [(0, va_rf (some p0)), (1, va_rf p1), (2, .int p2), (3, .int p3)] [] s kc ks (C_Ch_sum sa p0 p1 p2 p3 s kc ks Q) from ?_) hw h
  refine kk_aln hG (x := (some p0)) rfl rfl ?_
  refine kk_gp hG (c := 1) (k := 8) (a := p0) rfl rfl rfl rfl (fun v1 => ?_)
  refine kk_nnl hG (x := v1) (t := 16) rfl rfl ?_ ?_
  · exact kk_wl hG [0, 1, 2, 3] rfl (b16 _ _ _)
  refine kk_aln hG (x := (some p0)) rfl rfl ?_
  refine kk_si hG rfl cc_s792 ?_
  refine kk_nar hG (ty := .byte) rfl rfl rfl rfl (fun q2 sq2 cq2 dq2 => ?_)
  refine kk_pp hG (c := 1) (k := 8) (a := p0) (v := (some q2)) rfl rfl rfl rfl rfl (fun s3 => ?_)
  exact kk_wl hG [0, 1, 2, 3] rfl (b16 _ _ _)
def C_Ch_seal_s43 (sa : Nat → Nat) (p0 : Nat) (p1 : Option Nat) (p2 : Int32) (a3 : Int32) (s : cS) (kc ks : Nat) (Q : (cS → Nat → Nat → Prop)) (P43 : (Int32 → cS → Nat → Nat → Prop)) : Prop := ob (gP s 1 4 p0) (fun v1 => (ob v1 (fun b2 => (ob (rE s .int b2 p2) (fun v3 => (if a3 < v3 then (okO s 1 p0 ∧ C_Ch_sumByte sa p0 a3 p2 s kc ks (fun r9 sr9 cr9 dr9 => (ob p1 (fun b10 => (okO sr9 0 b10 ∧ C_By_add sa b10 r9 sr9 cr9 dr9 (fun sr11 cr11 dr11 => ((P43 (a3 + (1 : Int32)) sr11 cr11 dr11)))))))) else ((ob (gP s 1 4 p0) (fun v4 => (ob v4 (fun b5 => (ob (rE s .int b5 p2) (fun v6 => (if v6 = (20 : Int32) then (ob p1 (fun b7 => (okO s 0 b7 ∧ C_By_addZeros sa b7 (16 : Int32) s kc ks (fun sr8 cr8 dr8 => (Q sr8 cr8 dr8))))) else (Q s kc ks)))))))))))))))
def C_Ch_seal_b43 (sa : Nat → Nat) (p0 : Nat) (p1 : Option Nat) (p2 : Int32) (a3 : Int32) (s : cS) (kc ks : Nat) (Q : (cS → Nat → Nat → Prop)) : Prop := ∀ P43 : (Int32 → cS → Nat → Nat → Prop), (∀ (a3 : Int32) (s : cS) (kc ks : Nat), C_Ch_seal_s43 sa p0 p1 p2 a3 s kc ks Q P43 → P43 a3 s kc ks) → P43 a3 s kc ks
def C_Ch_seal (sa : Nat → Nat) (p0 : Nat) (p1 : Option Nat) (p2 : Int32) (s : cS) (kc ks : Nat) (Q : (cS → Nat → Nat → Prop)) : Prop := ob p1 (fun b1 => (ob (gI s 0 1 b1) (fun v2 => (okO s 0 b1 ∧ C_By_setAt sa b1 (8 : Int32) (v2 >>> ((8 : Int32) &&& 31)) s kc ks (fun sr3 cr3 dr3 => (ob (gI sr3 0 1 b1) (fun v4 => (okO sr3 0 b1 ∧ C_By_setAt sa b1 (9 : Int32) v4 sr3 cr3 dr3 (fun sr5 cr5 dr5 => (okO sr5 0 b1 ∧ C_By_addNumber sa b1 (4294901761 : Int64) (4 : Int32) sr5 cr5 dr5 (fun sr6 cr6 dr6 => (ob (gI sr6 0 1 b1) (fun v7 => (okO sr6 1 p0 ∧ C_Ch_sum sa p0 (some b1) v7 p2 sr6 cr6 dr6 (fun sr8 cr8 dr8 => ((C_Ch_seal_b43 sa p0 (some b1) p2 (0 : Int32) sr8 cr8 dr8 Q)))))))))))))))))
set_option maxRecDepth 100000 in
set_option maxHeartbeats 4000000 in
theorem kc_Ch_seal (base : Nat) (sa : Nat → Nat) {R : pmM} {s : cS} {kc ks : Nat} {Rt : pmR} {p0 : Nat} {p1 : Option Nat} {p2 : Int32} {Q : (cS → Nat → Nat → Prop)} (hw : cW sa R base s) (h : C_Ch_seal sa p0 p1 p2 s kc ks Q) (k : ∀ s' kc' ks', cW sa R base s' → Q s' kc' ks' → Rt none (cM R s') kc' ks') : kP_Ch_seal base sa [.ref p0, va_rf p1, .int p2] (cM R s) kc ks Rt := by
  refine ⟨by cases p1 <;> exact Nat.le_of_ble_eq_true rfl, fun G hG => ?_⟩
  have eL : lv_args 0 [.ref p0, va_rf p1, .int p2] = [(0, va_rf (some p0)), (1, va_rf p1), (2, .int p2)] := by cases p1 <;> rfl
  rw [eL]
  have b43 : ∀ (a3 : Int32) (s : cS) (kc ks : Nat), KK sa R base G 43 [(0, va_rf (some p0)), (1, va_rf p1), (2, .int p2), (3, .int a3)] [] s kc ks (C_Ch_seal_b43 sa p0 p1 p2 a3 s kc ks Q) := by
    have H : ∀ (P43 : (Int32 → cS → Nat → Nat → Prop)) (hP43 : ∀ (a3 : Int32) (s : cS) (kc ks : Nat), P43 a3 s kc ks → cW sa R base s → G 43 [(0, va_rf (some p0)), (1, va_rf p1), (2, .int p2), (3, .int a3)] [] (cM R s) kc ks) (a3 : Int32) (s : cS) (kc ks : Nat), KK sa R base G 43 [(0, va_rf (some p0)), (1, va_rf p1), (2, .int p2), (3, .int a3)] [] s kc ks (C_Ch_seal_s43 sa p0 p1 p2 a3 s kc ks Q P43) := by
      intro P43 hP43
      intro a3 s kc ks
      refine kks hG rfl rfl ?_
      refine kk_aln hG (x := (some p0)) rfl rfl ?_
      refine kk_gp hG (c := 1) (k := 4) (a := p0) rfl rfl rfl rfl (fun v1 => ?_)
      refine kks hG rfl rfl ?_
      refine kk_ob (fun b2 eb2 => ?_)
      subst eb2
      refine kk_ia hG (a := b2) rfl (fun v3 => ?_)
      refine kk_ige hG (t := 69) rfl rfl ?_ ?_
      · refine kk_aln hG (x := (some p0)) rfl rfl ?_
        refine kk_gp hG (c := 1) (k := 4) (a := p0) rfl rfl rfl rfl (fun v4 => ?_)
        refine kks hG rfl rfl ?_
        refine kk_ob (fun b5 eb5 => ?_)
        subst eb5
        refine kk_ia hG (a := b5) rfl (fun v6 => ?_)
        refine kk_bi hG rfl cc_b20 ?_
        refine kk_ine hG (t := 86) rfl rfl ?_ ?_
        · exact kk_rv hG rfl rfl k
        refine kk_aln hG (x := p1) rfl rfl ?_
        refine kk_bi hG rfl cc_b16 ?_
        refine kk_ob (fun b7 eb7 => ?_)
        subst eb7
        refine kk_cv hG 0 rfl rfl (Nat.le_of_ble_eq_true rfl) (by decide) rfl (st' := []) rfl (cats_le (Nat.le_of_ble_eq_true rfl)) (fun _ hw h k => kk_rcv h.1 (kc_By_addZeros base sa hw h.2 k)) (fun sr8 cr8 dr8 => ?_)
        exact kk_rv hG rfl rfl k
      refine kk_aln hG (x := p1) rfl rfl ?_
      refine kk_aln hG (x := (some p0)) rfl rfl ?_
      refine kks hG rfl rfl ?_
      refine kks hG rfl rfl ?_
      refine kk_cx (w := .int) hG 0 rfl rfl (Nat.le_of_ble_eq_true rfl) (by decide) rfl (st' := [va_rf p1]) rfl (cats_le (Nat.le_of_ble_eq_true rfl)) (fun _ hw h k => kk_rcv h.1 (kc_Ch_sumByte base sa hw h.2 k)) (fun r9 sr9 cr9 dr9 => ?_)
      refine kk_ob (fun b10 eb10 => ?_)
      subst eb10
      refine kk_cv hG 0 rfl rfl (Nat.le_of_ble_eq_true rfl) (by decide) rfl (st' := []) rfl (cats_le (Nat.le_of_ble_eq_true rfl)) (fun _ hw h k => kk_rcv h.1 (kc_By_add base sa hw h.2 k)) (fun sr11 cr11 dr11 => ?_)
      refine kk_inc hG (L' := [(3, .int (a3 + (1 : Int32))), (0, va_rf (some p0)), (1, va_rf (some b10)), (2, .int p2)]) rfl (Nat.le_of_ble_eq_true rfl) rfl cc_i1 rfl ?_
      refine kk_go hG (t := 43) rfl rfl ?_
      exact kk_wl hG [1, 2, 3, 0] rfl (fun hw h => hP43 _ _ _ _ h hw)
    exact fun a3 s kc ks hw h => h (fun a3 s kc ks => cW sa R base s → G 43 [(0, va_rf (some p0)), (1, va_rf p1), (2, .int p2), (3, .int a3)] [] (cM R s) kc ks) (fun a3 s kc ks hs hw => H _ (fun _ _ _ _ hp hw => hp hw) a3 s kc ks hw hs) hw
  refine (show KK sa R base G 0 [(0, va_rf (some p0)), (1, va_rf p1), (2, .int p2)] [] s kc ks (C_Ch_seal sa p0 p1 p2 s kc ks Q) from ?_) hw h
  refine kk_aln hG (x := p1) rfl rfl ?_
  refine kk_bi hG rfl cc_b8 ?_
  refine kk_aln hG (x := p1) rfl rfl ?_
  refine kk_ob (fun b1 eb1 => ?_)
  subst eb1
  refine kk_gi hG (c := 0) (k := 1) (a := b1) rfl rfl rfl rfl (fun v2 => ?_)
  refine kk_bi hG rfl cc_b8 ?_
  refine kks hG rfl rfl ?_
  refine kk_cv hG 0 rfl rfl (Nat.le_of_ble_eq_true rfl) (by decide) rfl (st' := []) rfl (cats_le (Nat.le_of_ble_eq_true rfl)) (fun _ hw h k => kk_rcv h.1 (kc_By_setAt base sa hw h.2 k)) (fun sr3 cr3 dr3 => ?_)
  refine kk_aln hG (x := (some b1)) rfl rfl ?_
  refine kk_bi hG rfl cc_b9 ?_
  refine kk_aln hG (x := (some b1)) rfl rfl ?_
  refine kk_gi hG (c := 0) (k := 1) (a := b1) rfl rfl rfl rfl (fun v4 => ?_)
  refine kk_cv hG 0 rfl rfl (Nat.le_of_ble_eq_true rfl) (by decide) rfl (st' := []) rfl (cats_le (Nat.le_of_ble_eq_true rfl)) (fun _ hw h k => kk_rcv h.1 (kc_By_setAt base sa hw h.2 k)) (fun sr5 cr5 dr5 => ?_)
  refine kk_aln hG (x := (some b1)) rfl rfl ?_
  refine kk_l2 hG (v := (4294901761 : Int64)) rfl rfl ?_
  refine kk_ic hG rfl cc_i4 ?_
  refine kk_cv hG 0 rfl rfl (Nat.le_of_ble_eq_true rfl) (by decide) rfl (st' := []) rfl (cats_le (Nat.le_of_ble_eq_true rfl)) (fun _ hw h k => kk_rcv h.1 (kc_By_addNumber base sa hw h.2 k)) (fun sr6 cr6 dr6 => ?_)
  refine kk_aln hG (x := (some p0)) rfl rfl ?_
  refine kk_aln hG (x := (some b1)) rfl rfl ?_
  refine kk_aln hG (x := (some b1)) rfl rfl ?_
  refine kk_gi hG (c := 0) (k := 1) (a := b1) rfl rfl rfl rfl (fun v7 => ?_)
  refine kks hG rfl rfl ?_
  refine kk_cv hG 0 rfl rfl (Nat.le_of_ble_eq_true rfl) (by decide) rfl (st' := []) rfl (cats_le (Nat.le_of_ble_eq_true rfl)) (fun _ hw h k => kk_rcv h.1 (kc_Ch_sum base sa hw h.2 k)) (fun sr8 cr8 dr8 => ?_)
  refine kk_ic hG rfl cc_i0 ?_
  refine kk_st hG (L' := [(3, .int (0 : Int32)), (0, va_rf (some p0)), (1, va_rf (some b1)), (2, .int p2)]) rfl rfl (Nat.le_of_ble_eq_true rfl) rfl ?_
  exact kk_wl hG [1, 2, 3, 0] rfl (b43 _ _ _ _)
def C_Da_portOf (sa : Nat → Nat) (p0 : Int32) (s : cS) (kc ks : Nat) (Q : (Int32 → cS → Nat → Nat → Prop)) : Prop := if p0 = (4 : Int32) then (Q (520 : Int32) s kc ks) else (Q (521 : Int32) s kc ks)
set_option maxRecDepth 100000 in
set_option maxHeartbeats 4000000 in
theorem kc_Da_portOf (base : Nat) (sa : Nat → Nat) {R : pmM} {s : cS} {kc ks : Nat} {Rt : pmR} {p0 : Int32} {Q : (Int32 → cS → Nat → Nat → Prop)} (hw : cW sa R base s) (h : C_Da_portOf sa p0 s kc ks Q) (k : ∀ r s' kc' ks', cW sa R base s' → Q r s' kc' ks' → Rt (some (.int r)) (cM R s') kc' ks') : kP_Da_portOf base sa [.int p0] (cM R s) kc ks Rt := by
  refine ⟨Nat.le_of_ble_eq_true rfl, fun G hG => ?_⟩
  refine (show KK sa R base G 0 [(0, .int p0)] [] s kc ks (C_Da_portOf sa p0 s kc ks Q) from ?_) hw h
  refine kks hG rfl rfl ?_
  refine kk_ic hG rfl cc_i4 ?_
  refine kk_ine hG (t := 11) rfl rfl ?_ ?_
  · refine kk_si hG rfl cc_s521 ?_
    exact kk_ri hG rfl rfl rfl k
  refine kk_si hG rfl cc_s520 ?_
  refine kk_go hG (t := 14) rfl rfl ?_
  exact kk_ri hG rfl rfl rfl k
def C_By_addPart_b80 (sa : Nat → Nat) (p0 : Nat) (p1 : Option Nat) (p2 : Int32) (a4 : Int32) (s : cS) (kc ks : Nat) (Q : (cS → Nat → Nat → Prop)) : Prop := ob p1 (fun b1 => (ob (gP s 0 0 b1) (fun v2 => (ob (gP s 0 0 p0) (fun v3 => (ob (gI s 0 1 p0) (fun v4 => (ob v2 (fun b5 => (ob v3 (fun b6 => (ob (cpE s b5 p2 b6 v4 a4) (fun s7 => (ob (gI s7 0 1 p0) (fun v8 => (ob (pI s7 0 1 p0 (v8 + a4)) (fun s9 => (Q s9 kc ks))))))))))))))))))
def C_By_addPart (sa : Nat → Nat) (p0 : Nat) (p1 : Option Nat) (p2 : Int32) (p3 : Int32) (s : cS) (kc ks : Nat) (Q : (cS → Nat → Nat → Prop)) : Prop := if p2 < 0 then (Q s kc ks) else (if 0 < (p3 - p2) then (ob p1 (fun b1 => (ob (gI s 0 1 b1) (fun v2 => (if v2 < p3 then (Q s kc ks) else (ob (gI s 0 1 p0) (fun v3 => (ob (gP s 0 0 p0) (fun v4 => (ob v4 (fun b5 => (ob (aL s b5) (fun v6 => (if v6 < (v3 + (p3 - p2)) then (ob (gP s 0 0 p0) (fun v7 => (ob v7 (fun b8 => (ob (aL s b8) (fun v9 => (ob (gI s 0 1 p0) (fun v10 => (nwA sa s kc ks .byte (mxI (v9 * (2 : Int32)) (v10 + (p3 - p2))) (fun q11 sq11 cq11 dq11 => (ob (gP sq11 0 0 p0) (fun v12 => (ob (gI sq11 0 1 p0) (fun v13 => (ob v12 (fun b14 => (ob (cpE sq11 b14 (0 : Int32) q11 (0 : Int32) v13) (fun s15 => (ob (pP s15 0 0 p0 (some q11)) (fun s16 => ((C_By_addPart_b80 sa p0 (some b1) p2 (p3 - p2) s16 cq11 dq11 Q)))))))))))))))))))))) else ((C_By_addPart_b80 sa p0 (some b1) p2 (p3 - p2) s kc ks Q)))))))))))))))) else (Q s kc ks))
set_option maxRecDepth 100000 in
set_option maxHeartbeats 4000000 in
theorem kc_By_addPart (base : Nat) (sa : Nat → Nat) {R : pmM} {s : cS} {kc ks : Nat} {Rt : pmR} {p0 : Nat} {p1 : Option Nat} {p2 : Int32} {p3 : Int32} {Q : (cS → Nat → Nat → Prop)} (hw : cW sa R base s) (h : C_By_addPart sa p0 p1 p2 p3 s kc ks Q) (k : ∀ s' kc' ks', cW sa R base s' → Q s' kc' ks' → Rt none (cM R s') kc' ks') : kP_By_addPart base sa [.ref p0, va_rf p1, .int p2, .int p3] (cM R s) kc ks Rt := by
  refine ⟨by cases p1 <;> exact Nat.le_of_ble_eq_true rfl, fun G hG => ?_⟩
  have eL : lv_args 0 [.ref p0, va_rf p1, .int p2, .int p3] = [(0, va_rf (some p0)), (1, va_rf p1), (2, .int p2), (3, .int p3)] := by cases p1 <;> rfl
  rw [eL]
  have b80 : ∀ (a4 : Int32) (s : cS) (kc ks : Nat), KK sa R base G 80 [(0, va_rf (some p0)), (1, va_rf p1), (2, .int p2), (4, .int a4)] [] s kc ks (C_By_addPart_b80 sa p0 p1 p2 a4 s kc ks Q) := by
    intro a4 s kc ks
    refine kk_aln hG (x := p1) rfl rfl ?_
    refine kk_ob (fun b1 eb1 => ?_)
    subst eb1
    refine kk_gp hG (c := 0) (k := 0) (a := b1) rfl rfl rfl rfl (fun v2 => ?_)
    refine kks hG rfl rfl ?_
    refine kk_aln hG (x := (some p0)) rfl rfl ?_
    refine kk_gp hG (c := 0) (k := 0) (a := p0) rfl rfl rfl rfl (fun v3 => ?_)
    refine kk_aln hG (x := (some p0)) rfl rfl ?_
    refine kk_gi hG (c := 0) (k := 1) (a := p0) rfl rfl rfl rfl (fun v4 => ?_)
    refine kks hG rfl rfl ?_
    refine kk_ob (fun b5 eb5 => ?_)
    subst eb5
    refine kk_ob (fun b6 eb6 => ?_)
    subst eb6
    refine kk_acp hG (a := b5) (b := b6) rfl rfl (Nat.le_of_ble_eq_true rfl) (fun s7 => ?_)
    refine kk_aln hG (x := (some p0)) rfl rfl ?_
    refine kk_dup hG (x := (some p0)) rfl ?_
    refine kk_gi hG (c := 0) (k := 1) (a := p0) rfl rfl rfl rfl (fun v8 => ?_)
    refine kks hG rfl rfl ?_
    refine kks hG rfl rfl ?_
    refine kk_pi hG (c := 0) (k := 1) (a := p0) rfl rfl rfl rfl (fun s9 => ?_)
    exact kk_rv hG rfl rfl k
  refine (show KK sa R base G 0 [(0, va_rf (some p0)), (1, va_rf p1), (2, .int p2), (3, .int p3)] [] s kc ks (C_By_addPart sa p0 p1 p2 p3 s kc ks Q) from ?_) hw h
  refine kks hG rfl rfl ?_
  refine kks hG rfl rfl ?_
  refine kks hG rfl rfl ?_
  refine kk_st hG (L' := [(4, .int (p3 - p2)), (0, va_rf (some p0)), (1, va_rf p1), (2, .int p2), (3, .int p3)]) rfl rfl (Nat.le_of_ble_eq_true rfl) rfl ?_
  refine kks hG rfl rfl ?_
  refine kk_zlt hG (t := 22) rfl rfl ?_ ?_
  · exact kk_rv hG rfl rfl k
  refine kks hG rfl rfl ?_
  refine kk_zle hG (t := 22) rfl rfl ?_ ?_
  · exact kk_rv hG rfl rfl k
  refine kks hG rfl rfl ?_
  refine kk_aln hG (x := p1) rfl rfl ?_
  refine kk_ob (fun b1 eb1 => ?_)
  subst eb1
  refine kk_gi hG (c := 0) (k := 1) (a := b1) rfl rfl rfl rfl (fun v2 => ?_)
  refine kk_ile hG (t := 23) rfl rfl ?_ ?_
  · refine kk_aln hG (x := (some p0)) rfl rfl ?_
    refine kk_gi hG (c := 0) (k := 1) (a := p0) rfl rfl rfl rfl (fun v3 => ?_)
    refine kks hG rfl rfl ?_
    refine kks hG rfl rfl ?_
    refine kk_aln hG (x := (some p0)) rfl rfl ?_
    refine kk_gp hG (c := 0) (k := 0) (a := p0) rfl rfl rfl rfl (fun v4 => ?_)
    refine kk_ob (fun b5 eb5 => ?_)
    subst eb5
    refine kk_len hG (a := b5) rfl (fun v6 => ?_)
    refine kk_ile hG (t := 80) rfl rfl ?_ ?_
    · exact kk_wl hG [1, 2, 3, 0] rfl (b80 _ _ _ _)
    refine kk_aln hG (x := (some p0)) rfl rfl ?_
    refine kk_gp hG (c := 0) (k := 0) (a := p0) rfl rfl rfl rfl (fun v7 => ?_)
    refine kk_ob (fun b8 eb8 => ?_)
    subst eb8
    refine kk_len hG (a := b8) rfl (fun v9 => ?_)
    refine kk_ic hG rfl cc_i2 ?_
    refine kks hG rfl rfl ?_
    refine kk_aln hG (x := (some p0)) rfl rfl ?_
    refine kk_gi hG (c := 0) (k := 1) (a := p0) rfl rfl rfl rfl (fun v10 => ?_)
    refine kks hG rfl rfl ?_
    refine kks hG rfl rfl ?_
    refine kk_mx hG rfl rfl (Nat.le_of_ble_eq_true rfl) ?_
    refine kk_nar hG (ty := .byte) rfl rfl rfl rfl (fun q11 sq11 cq11 dq11 => ?_)
    refine kk_as hG (x := (some q11)) (L' := [(5, va_rf (some q11)), (4, .int (p3 - p2)), (0, va_rf (some p0)), (1, va_rf (some b1)), (2, .int p2), (3, .int p3)]) rfl (Nat.le_of_ble_eq_true rfl) rfl ?_
    refine kk_aln hG (x := (some p0)) rfl rfl ?_
    refine kk_gp hG (c := 0) (k := 0) (a := p0) rfl rfl rfl rfl (fun v12 => ?_)
    refine kk_ic hG rfl cc_i0 ?_
    refine kk_al hG (x := (some q11)) rfl rfl ?_
    refine kk_ic hG rfl cc_i0 ?_
    refine kk_aln hG (x := (some p0)) rfl rfl ?_
    refine kk_gi hG (c := 0) (k := 1) (a := p0) rfl rfl rfl rfl (fun v13 => ?_)
    refine kk_ob (fun b14 eb14 => ?_)
    subst eb14
    refine kk_acp hG (a := b14) (b := q11) rfl rfl (Nat.le_of_ble_eq_true rfl) (fun s15 => ?_)
    refine kk_aln hG (x := (some p0)) rfl rfl ?_
    refine kk_al hG (x := (some q11)) rfl rfl ?_
    refine kk_pp hG (c := 0) (k := 0) (a := p0) (v := (some q11)) rfl rfl rfl rfl rfl (fun s16 => ?_)
    exact kk_wl hG [2, 3, 4, 1] rfl (b80 _ _ _ _)
  exact kk_rv hG rfl rfl k
def C_Da_init (sa : Nat → Nat) (p0 : Nat) (s : cS) (kc ks : Nat) (Q : (cS → Nat → Nat → Prop)) : Prop := nwO sa s kc ks 0 2 (fun q1 sq1 cq1 dq1 => (okO sq1 0 q1 ∧ C_By_init sa q1 (600 : Int32) sq1 cq1 dq1 (fun sr2 cr2 dr2 => (ob (pP sr2 2 0 p0 (some q1)) (fun s3 => (nwO sa s3 cr2 dr2 5 4 (fun q4 sq4 cq4 dq4 => (okO sq4 5 q4 ∧ C_Pr_init sa q4 sq4 cq4 dq4 (fun sr5 cr5 dr5 => (ob (pP sr5 2 1 p0 (some q4)) (fun s6 => (nwO sa s6 cr5 dr5 5 4 (fun q7 sq7 cq7 dq7 => (okO sq7 5 q7 ∧ C_Pr_init sa q7 sq7 cq7 dq7 (fun sr8 cr8 dr8 => (ob (pP sr8 2 2 p0 (some q7)) (fun s9 => (ob (pZ s9 2 3 p0 (1 : Int32)) (fun s10 => (ob (pI s10 2 4 p0 (4 : Int32)) (fun s11 => (ob (pI s11 2 5 p0 (0 : Int32)) (fun s12 => (ob (pI s12 2 6 p0 (0 : Int32)) (fun s13 => (ob (pP s13 2 7 p0 none) (fun s14 => (ob (pP s14 2 8 p0 none) (fun s15 => (ob (pI s15 2 9 p0 (0 : Int32)) (fun s16 => (ob (pI s16 2 10 p0 (4 : Int32)) (fun s17 => (ob (pI s17 2 11 p0 (4 : Int32)) (fun s18 => (Q s18 cr8 dr8))))))))))))))))))))))))))))))))))))
set_option maxRecDepth 100000 in
set_option maxHeartbeats 4000000 in
theorem kc_Da_init (base : Nat) (sa : Nat → Nat) {R : pmM} {s : cS} {kc ks : Nat} {Rt : pmR} {p0 : Nat} {Q : (cS → Nat → Nat → Prop)} (hw : cW sa R base s) (h : C_Da_init sa p0 s kc ks Q) (k : ∀ s' kc' ks', cW sa R base s' → Q s' kc' ks' → Rt none (cM R s') kc' ks') : kP_Da_init base sa [.ref p0] (cM R s) kc ks Rt := by
  refine ⟨Nat.le_of_ble_eq_true rfl, fun G hG => ?_⟩
  refine (show KK sa R base G 0 [(0, va_rf (some p0))] [] s kc ks (C_Da_init sa p0 s kc ks Q) from ?_) hw h
  refine kk_aln hG (x := (some p0)) rfl rfl ?_
  refine kk_oi hG (a := p0) rfl rfl (Nat.le_of_ble_eq_true rfl) ?_
  refine kk_aln hG (x := (some p0)) rfl rfl ?_
  refine kk_new hG (c := 0) (n := 2) rfl rfl rfl rfl (fun q1 sq1 cq1 dq1 => ?_)
  refine kk_dup hG (x := (some q1)) rfl ?_
  refine kk_si hG rfl cc_s600 ?_
  refine kk_cv hG 1 rfl rfl (Nat.le_of_ble_eq_true rfl) (by decide) rfl (st' := [va_rf (some q1), va_rf (some p0)]) rfl (cats_le (Nat.le_of_ble_eq_true rfl)) (fun _ hw h k => kk_rcv h.1 (kc_By_init base sa hw h.2 k)) (fun sr2 cr2 dr2 => ?_)
  refine kk_pp hG (c := 2) (k := 0) (a := p0) (v := (some q1)) rfl rfl rfl rfl rfl (fun s3 => ?_)
  refine kk_aln hG (x := (some p0)) rfl rfl ?_
  refine kk_new hG (c := 5) (n := 4) rfl rfl rfl rfl (fun q4 sq4 cq4 dq4 => ?_)
  refine kk_dup hG (x := (some q4)) rfl ?_
  refine kk_cv hG 1 rfl rfl (Nat.le_of_ble_eq_true rfl) (by decide) rfl (st' := [va_rf (some q4), va_rf (some p0)]) rfl (cats_le (Nat.le_of_ble_eq_true rfl)) (fun _ hw h k => kk_rcv h.1 (kc_Pr_init base sa hw h.2 k)) (fun sr5 cr5 dr5 => ?_)
  refine kk_pp hG (c := 2) (k := 1) (a := p0) (v := (some q4)) rfl rfl rfl rfl rfl (fun s6 => ?_)
  refine kk_aln hG (x := (some p0)) rfl rfl ?_
  refine kk_new hG (c := 5) (n := 4) rfl rfl rfl rfl (fun q7 sq7 cq7 dq7 => ?_)
  refine kk_dup hG (x := (some q7)) rfl ?_
  refine kk_cv hG 1 rfl rfl (Nat.le_of_ble_eq_true rfl) (by decide) rfl (st' := [va_rf (some q7), va_rf (some p0)]) rfl (cats_le (Nat.le_of_ble_eq_true rfl)) (fun _ hw h k => kk_rcv h.1 (kc_Pr_init base sa hw h.2 k)) (fun sr8 cr8 dr8 => ?_)
  refine kk_pp hG (c := 2) (k := 2) (a := p0) (v := (some q7)) rfl rfl rfl rfl rfl (fun s9 => ?_)
  refine kk_aln hG (x := (some p0)) rfl rfl ?_
  refine kk_ic hG rfl cc_i1 ?_
  refine kk_pz hG (c := 2) (k := 3) (a := p0) rfl rfl rfl rfl (fun s10 => ?_)
  refine kk_aln hG (x := (some p0)) rfl rfl ?_
  refine kk_ic hG rfl cc_i4 ?_
  refine kk_pi hG (c := 2) (k := 4) (a := p0) rfl rfl rfl rfl (fun s11 => ?_)
  refine kk_aln hG (x := (some p0)) rfl rfl ?_
  refine kk_ic hG rfl cc_i0 ?_
  refine kk_pi hG (c := 2) (k := 5) (a := p0) rfl rfl rfl rfl (fun s12 => ?_)
  refine kk_aln hG (x := (some p0)) rfl rfl ?_
  refine kk_ic hG rfl cc_i0 ?_
  refine kk_pi hG (c := 2) (k := 6) (a := p0) rfl rfl rfl rfl (fun s13 => ?_)
  refine kk_aln hG (x := (some p0)) rfl rfl ?_
  refine kks hG rfl rfl ?_
  refine kk_pp hG (c := 2) (k := 7) (a := p0) (v := none) rfl rfl rfl rfl rfl (fun s14 => ?_)
  refine kk_aln hG (x := (some p0)) rfl rfl ?_
  refine kks hG rfl rfl ?_
  refine kk_pp hG (c := 2) (k := 8) (a := p0) (v := none) rfl rfl rfl rfl rfl (fun s15 => ?_)
  refine kk_aln hG (x := (some p0)) rfl rfl ?_
  refine kk_ic hG rfl cc_i0 ?_
  refine kk_pi hG (c := 2) (k := 9) (a := p0) rfl rfl rfl rfl (fun s16 => ?_)
  refine kk_aln hG (x := (some p0)) rfl rfl ?_
  refine kk_ic hG rfl cc_i4 ?_
  refine kk_pi hG (c := 2) (k := 10) (a := p0) rfl rfl rfl rfl (fun s17 => ?_)
  refine kk_aln hG (x := (some p0)) rfl rfl ?_
  refine kk_ic hG rfl cc_i4 ?_
  refine kk_pi hG (c := 2) (k := 11) (a := p0) rfl rfl rfl rfl (fun s18 => ?_)
  exact kk_rv hG rfl rfl k
