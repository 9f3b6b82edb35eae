/-! Methods as weakest preconditions, by program: Ch_md5 .. Ch_sumByte -/
def C_Ch_md5_s19 (sa : Nat → Nat) (p0 : Nat) (a1 : Int32) (a2 : Int32) (s : cS) (kc ks : Nat) (Q : (cS → Nat → Nat → Prop)) (P6 : (Int32 → cS → Nat → Nat → Prop)) (P19 : (Int32 → cS → Nat → Nat → Prop)) : Prop := if a2 < (16 : Int32) then (ob (gP s 1 11 p0) (fun v2 => (ob (gP s 1 8 p0) (fun v3 => (ob v3 (fun b4 => (ob (rE s .byte b4 (a1 + ((4 : Int32) * a2))) (fun v5 => (ob (gP s 1 8 p0) (fun v6 => (ob v6 (fun b7 => (ob (rE s .byte b7 ((a1 + ((4 : Int32) * a2)) + (1 : Int32))) (fun v8 => (ob (gP s 1 8 p0) (fun v9 => (ob v9 (fun b10 => (ob (rE s .byte b10 ((a1 + ((4 : Int32) * a2)) + (2 : Int32))) (fun v11 => (ob (gP s 1 8 p0) (fun v12 => (ob v12 (fun b13 => (ob (rE s .byte b13 ((a1 + ((4 : Int32) * a2)) + (3 : Int32))) (fun v14 => (ob v2 (fun b15 => (ob (wEi s b15 a2 ((((v5 &&& (255 : Int32)) ||| ((v8 &&& (255 : Int32)) <<< ((8 : Int32) &&& 31))) ||| ((v11 &&& (255 : Int32)) <<< ((16 : Int32) &&& 31))) ||| ((v14 &&& (255 : Int32)) <<< ((24 : Int32) &&& 31)))) (fun s16 => ((P19 (a2 + (1 : Int32)) s16 kc ks)))))))))))))))))))))))))))))))) else ((okO s 1 p0 ∧ C_Ch_md5Block sa p0 s kc ks (fun sr1 cr1 dr1 => ((P6 (a1 + (64 : Int32)) sr1 cr1 dr1)))))
def C_Ch_md5_b19 (sa : Nat → Nat) (p0 : Nat) (a1 : Int32) (a2 : Int32) (s : cS) (kc ks : Nat) (Q : (cS → Nat → Nat → Prop)) (P6 : (Int32 → cS → Nat → Nat → Prop)) : Prop := ∀ P19 : (Int32 → cS → Nat → Nat → Prop), (∀ (a2 : Int32) (s : cS) (kc ks : Nat), C_Ch_md5_s19 sa p0 a1 a2 s kc ks Q P6 P19 → P19 a2 s kc ks) → P19 a2 s kc ks
def C_Ch_md5_s6 (sa : Nat → Nat) (p0 : Nat) (a1 : Int32) (s : cS) (kc ks : Nat) (Q : (cS → Nat → Nat → Prop)) (P6 : (Int32 → cS → Nat → Nat → Prop)) : Prop := ob (gI s 1 9 p0) (fun v1 => (if v1 < (a1 + (64 : Int32)) then ((Q s kc ks)) else ((C_Ch_md5_b19 sa p0 a1 (0 : Int32) s kc ks Q P6))))
def C_Ch_md5_b6 (sa : Nat → Nat) (p0 : Nat) (a1 : Int32) (s : cS) (kc ks : Nat) (Q : (cS → Nat → Nat → Prop)) : Prop := ∀ P6 : (Int32 → cS → Nat → Nat → Prop), (∀ (a1 : Int32) (s : cS) (kc ks : Nat), C_Ch_md5_s6 sa p0 a1 s kc ks Q P6 → P6 a1 s kc ks) → P6 a1 s kc ks
def C_Ch_md5 (sa : Nat → Nat) (p0 : Nat) (s : cS) (kc ks : Nat) (Q : (cS → Nat → Nat → Prop)) : Prop := okO s 1 p0 ∧ C_Ch_begin sa p0 s kc ks (fun sr1 cr1 dr1 => ((C_Ch_md5_b6 sa p0 (0 : Int32) sr1 cr1 dr1 Q)))
set_option maxRecDepth 100000 in
set_option maxHeartbeats 4000000 in
theorem kc_Ch_md5 (base : Nat) (sa : Nat → Nat) {R : pmM} {s : cS} {kc ks : Nat} {Rt : pmR} {p0 : Nat} {Q : (cS → Nat → Nat → Prop)} (hw : cW sa R base s) (h : C_Ch_md5 sa p0 s kc ks Q) (k : ∀ s' kc' ks', cW sa R base s' → Q s' kc' ks' → Rt none (cM R s') kc' ks') : kP_Ch_md5 base sa [.ref p0] (cM R s) kc ks Rt := by
  refine ⟨Nat.le_of_ble_eq_true rfl, fun G hG => ?_⟩
  have b6 : ∀ (a1 : Int32) (s : cS) (kc ks : Nat), KK sa R base G 6 [(0, va_rf (some p0)), (1, .int a1)] [] s kc ks (C_Ch_md5_b6 sa p0 a1 s kc ks Q) := by
    have H : ∀ (P6 : (Int32 → cS → Nat → Nat → Prop)) (hP6 : ∀ (a1 : Int32) (s : cS) (kc ks : Nat), P6 a1 s kc ks → cW sa R base s → G 6 [(0, va_rf (some p0)), (1, .int a1)] [] (cM R s) kc ks) (a1 : Int32) (s : cS) (kc ks : Nat), KK sa R base G 6 [(0, va_rf (some p0)), (1, .int a1)] [] s kc ks (C_Ch_md5_s6 sa p0 a1 s kc ks Q P6) := by
      intro P6 hP6
      have b19 : ∀ (a1 : Int32) (a2 : Int32) (s : cS) (kc ks : Nat), KK sa R base G 19 [(0, va_rf (some p0)), (1, .int a1), (2, .int a2)] [] s kc ks (C_Ch_md5_b19 sa p0 a1 a2 s kc ks Q P6) := by
        intro a1
        have H : ∀ (P19 : (Int32 → cS → Nat → Nat → Prop)) (hP19 : ∀ (a2 : Int32) (s : cS) (kc ks : Nat), P19 a2 s kc ks → cW sa R base s → G 19 [(0, va_rf (some p0)), (1, .int a1), (2, .int a2)] [] (cM R s) kc ks) (a2 : Int32) (s : cS) (kc ks : Nat), KK sa R base G 19 [(0, va_rf (some p0)), (1, .int a1), (2, .int a2)] [] s kc ks (C_Ch_md5_s19 sa p0 a1 a2 s kc ks Q P6 P19) := by
          intro P19 hP19
          intro a2 s kc ks
          refine kks hG rfl rfl ?_
          refine kk_bi hG rfl cc_b16 ?_
          refine kk_ige hG (t := 101) rfl rfl ?_ ?_
          · refine kk_aln hG (x := (some p0)) rfl rfl ?_
            refine kk_cv hG 0 rfl rfl (Nat.le_of_ble_eq_true rfl) (by decide) rfl (st' := []) rfl (cats_le (Nat.le_of_ble_eq_true rfl)) (fun _ hw h k => kk_rcv h.1 (kc_Ch_md5Block base sa hw h.2 k)) (fun sr1 cr1 dr1 => ?_)
            refine kk_inc hG (L' := [(1, .int (a1 + (64 : Int32))), (0, va_rf (some p0)), (2, .int a2)]) rfl (Nat.le_of_ble_eq_true rfl) rfl cc_i64 rfl ?_
            refine kk_go hG (t := 6) rfl rfl ?_
            exact kk_wl hG [1, 0] rfl (fun hw h => hP6 _ _ _ _ h hw)
          refine kks hG rfl rfl ?_
          refine kk_ic hG rfl cc_i4 ?_
          refine kks hG rfl rfl ?_
          refine kks hG rfl rfl ?_
          refine kks hG rfl rfl ?_
          refine kk_st hG (L' := [(3, .int (a1 + ((4 : Int32) * a2))), (0, va_rf (some p0)), (1, .int a1), (2, .int a2)]) rfl rfl (Nat.le_of_ble_eq_true rfl) rfl ?_
          refine kk_aln hG (x := (some p0)) rfl rfl ?_
          refine kk_gp hG (c := 1) (k := 11) (a := p0) rfl rfl rfl rfl (fun v2 => ?_)
          refine kks hG rfl rfl ?_
          refine kk_aln hG (x := (some p0)) rfl rfl ?_
          refine kk_gp hG (c := 1) (k := 8) (a := p0) rfl rfl rfl rfl (fun v3 => ?_)
          refine kks hG rfl rfl ?_
          refine kk_ob (fun b4 eb4 => ?_)
          subst eb4
          refine kk_ba hG (a := b4) rfl (fun v5 => ?_)
          refine kk_si hG rfl cc_s255 ?_
          refine kks hG rfl rfl ?_
          refine kk_aln hG (x := (some p0)) rfl rfl ?_
          refine kk_gp hG (c := 1) (k := 8) (a := p0) rfl rfl rfl rfl (fun v6 => ?_)
          refine kks hG rfl rfl ?_
          refine kk_ic hG rfl cc_i1 ?_
          refine kks hG rfl rfl ?_
          refine kk_ob (fun b7 eb7 => ?_)
          subst eb7
          refine kk_ba hG (a := b7) rfl (fun v8 => ?_)
          refine kk_si hG rfl cc_s255 ?_
          refine kks hG rfl rfl ?_
          refine kk_bi hG rfl cc_b8 ?_
          refine kks hG rfl rfl ?_
          refine kks hG rfl rfl ?_
          refine kk_aln hG (x := (some p0)) rfl rfl ?_
          refine kk_gp hG (c := 1) (k := 8) (a := p0) rfl rfl rfl rfl (fun v9 => ?_)
          refine kks hG rfl rfl ?_
          refine kk_ic hG rfl cc_i2 ?_
          refine kks hG rfl rfl ?_
          refine kk_ob (fun b10 eb10 => ?_)
          subst eb10
          refine kk_ba hG (a := b10) rfl (fun v11 => ?_)
          refine kk_si hG rfl cc_s255 ?_
          refine kks hG rfl rfl ?_
          refine kk_bi hG rfl cc_b16 ?_
          refine kks hG rfl rfl ?_
          refine kks hG rfl rfl ?_
          refine kk_aln hG (x := (some p0)) rfl rfl ?_
          refine kk_gp hG (c := 1) (k := 8) (a := p0) rfl rfl rfl rfl (fun v12 => ?_)
          refine kks hG rfl rfl ?_
          refine kk_ic hG rfl cc_i3 ?_
          refine kks hG rfl rfl ?_
          refine kk_ob (fun b13 eb13 => ?_)
          subst eb13
          refine kk_ba hG (a := b13) rfl (fun v14 => ?_)
          refine kk_si hG rfl cc_s255 ?_
          refine kks hG rfl rfl ?_
          refine kk_bi hG rfl cc_b24 ?_
          refine kks hG rfl rfl ?_
          refine kks hG rfl rfl ?_
          refine kk_ob (fun b15 eb15 => ?_)
          subst eb15
          refine kk_is hG (a := b15) rfl (fun s16 => ?_)
          refine kk_inc hG (L' := [(2, .int (a2 + (1 : Int32))), (3, .int (a1 + ((4 : Int32) * a2))), (0, va_rf (some p0)), (1, .int a1)]) rfl (Nat.le_of_ble_eq_true rfl) rfl cc_i1 rfl ?_
          refine kk_go hG (t := 19) rfl rfl ?_
          exact kk_wl hG [2, 3, 0] rfl (fun hw h => hP19 _ _ _ _ h hw)
        exact fun a2 s kc ks hw h => h (fun a2 s kc ks => cW sa R base s → G 19 [(0, va_rf (some p0)), (1, .int a1), (2, .int a2)] [] (cM R s) kc ks) (fun a2 s kc ks hs hw => H _ (fun _ _ _ _ hp hw => hp hw) a2 s kc ks hw hs) hw
      intro a1 s kc ks
      refine kks hG rfl rfl ?_
      refine kk_bi hG rfl cc_b64 ?_
      refine kks hG rfl rfl ?_
      refine kk_aln hG (x := (some p0)) rfl rfl ?_
      refine kk_gi hG (c := 1) (k := 9) (a := p0) rfl rfl rfl rfl (fun v1 => ?_)
      refine kk_igt hG (t := 111) rfl rfl ?_ ?_
      · exact kk_rv hG rfl rfl k
      refine kk_ic hG rfl cc_i0 ?_
      refine kk_st hG (L' := [(2, .int (0 : Int32)), (0, va_rf (some p0)), (1, .int a1)]) rfl rfl (Nat.le_of_ble_eq_true rfl) rfl ?_
      exact kk_wl hG [1, 2, 0] rfl (b19 _ _ _ _ _)
    exact fun a1 s kc ks hw h => h (fun a1 s kc ks => cW sa R base s → G 6 [(0, va_rf (some p0)), (1, .int a1)] [] (cM R s) kc ks) (fun a1 s kc ks hs hw => H _ (fun _ _ _ _ hp hw => hp hw) a1 s kc ks hw hs) hw
  refine (show KK sa R base G 0 [(0, va_rf (some p0))] [] s kc ks (C_Ch_md5 sa p0 s kc ks Q) from ?_) hw h
  refine kk_aln hG (x := (some p0)) rfl rfl ?_
  refine kk_cv hG 0 rfl rfl (Nat.le_of_ble_eq_true rfl) (by decide) rfl (st' := []) rfl (cats_le (Nat.le_of_ble_eq_true rfl)) (fun _ hw h k => kk_rcv h.1 (kc_Ch_begin base sa hw h.2 k)) (fun sr1 cr1 dr1 => ?_)
  refine kk_ic hG rfl cc_i0 ?_
  refine kk_st hG (L' := [(1, .int (0 : Int32)), (0, va_rf (some p0))]) rfl rfl (Nat.le_of_ble_eq_true rfl) rfl ?_
  exact kk_wl hG [1, 0] rfl (b6 _ _ _ _)
def C_Ch_shaBlock_b132 (sa : Nat → Nat) (p0 : Nat) (a1 : Int32) (a2 : Int32) (a3 : Int32) (a4 : Int32) (a5 : Int32) (a6 : Int32) (a7 : Int32) (s : cS) (kc ks : Nat) (Q : (cS → Nat → Nat → Prop)) (P40 : (Int32 → Int32 → Int32 → Int32 → Int32 → Int32 → cS → Nat → Nat → Prop)) : Prop := ob (gP s 1 11 p0) (fun v1 => (ob v1 (fun b2 => (ob (rE s .int b2 a6) (fun v3 => ((P40 (((((a1 <<< ((5 : Int32) &&& 31)) ||| (ush_I a1 (27 : Int32))) + a7) + a5) + v3) a1 ((a2 <<< ((30 : Int32) &&& 31)) ||| (ush_I a2 (2 : Int32))) a3 a4 (a6 + (1 : Int32)) s kc ks)))))))
def C_Ch_shaBlock_s40 (sa : Nat → Nat) (p0 : Nat) (a1 : Int32) (a2 : Int32) (a3 : Int32) (a4 : Int32) (a5 : Int32) (a6 : Int32) (s : cS) (kc ks : Nat) (Q : (cS → Nat → Nat → Prop)) (P40 : (Int32 → Int32 → Int32 → Int32 → Int32 → Int32 → cS → Nat → Nat → Prop)) : Prop := if a6 < (80 : Int32) then (if a6 < (20 : Int32) then ((C_Ch_shaBlock_b132 sa p0 a1 a2 a3 a4 a5 a6 (((a2 &&& a3) ||| ((a2 ^^^ ((-1) : Int32)) &&& a4)) + (1518500249 : Int32)) s kc ks Q P40)) else (if a6 < (40 : Int32) then ((C_Ch_shaBlock_b132 sa p0 a1 a2 a3 a4 a5 a6 (((a2 ^^^ a3) ^^^ a4) + (1859775393 : Int32)) s kc ks Q P40)) else (if a6 < (60 : Int32) then ((C_Ch_shaBlock_b132 sa p0 a1 a2 a3 a4 a5 a6 ((((a2 &&& a3) ||| (a2 &&& a4)) ||| (a3 &&& a4)) + ((-1894007588) : Int32)) s kc ks Q P40)) else ((C_Ch_shaBlock_b132 sa p0 a1 a2 a3 a4 a5 a6 (((a2 ^^^ a3) ^^^ a4) + ((-899497514) : Int32)) s kc ks Q P40))))) else ((ob (gP s 1 10 p0) (fun v1 => (ob v1 (fun b2 => (ob (rE s .int b2 (0 : Int32)) (fun v3 => (ob (wEi s b2 (0 : Int32) (v3 + a1)) (fun s4 => (ob (gP s4 1 10 p0) (fun v5 => (ob v5 (fun b6 => (ob (rE s4 .int b6 (1 : Int32)) (fun v7 => (ob (wEi s4 b6 (1 : Int32) (v7 + a2)) (fun s8 => (ob (gP s8 1 10 p0) (fun v9 => (ob v9 (fun b10 => (ob (rE s8 .int b10 (2 : Int32)) (fun v11 => (ob (wEi s8 b10 (2 : Int32) (v11 + a3)) (fun s12 => (ob (gP s12 1 10 p0) (fun v13 => (ob v13 (fun b14 => (ob (rE s12 .int b14 (3 : Int32)) (fun v15 => (ob (wEi s12 b14 (3 : Int32) (v15 + a4)) (fun s16 => (ob (gP s16 1 10 p0) (fun v17 => (ob v17 (fun b18 => (ob (rE s16 .int b18 (4 : Int32)) (fun v19 => (ob (wEi s16 b18 (4 : Int32) (v19 + a5)) (fun s20 => (Q s20 kc ks))))))))))))))))))))))))))))))))))))))))))
def C_Ch_shaBlock_b40 (sa : Nat → Nat) (p0 : Nat) (a1 : Int32) (a2 : Int32) (a3 : Int32) (a4 : Int32) (a5 : Int32) (a6 : Int32) (s : cS) (kc ks : Nat) (Q : (cS → Nat → Nat → Prop)) : Prop := ∀ P40 : (Int32 → Int32 → Int32 → Int32 → Int32 → Int32 → cS → Nat → Nat → Prop), (∀ (a1 : Int32) (a2 : Int32) (a3 : Int32) (a4 : Int32) (a5 : Int32) (a6 : Int32) (s : cS) (kc ks : Nat), C_Ch_shaBlock_s40 sa p0 a1 a2 a3 a4 a5 a6 s kc ks Q P40 → P40 a1 a2 a3 a4 a5 a6 s kc ks) → P40 a1 a2 a3 a4 a5 a6 s kc ks
def C_Ch_shaBlock (sa : Nat → Nat) (p0 : Nat) (s : cS) (kc ks : Nat) (Q : (cS → Nat → Nat → Prop)) : Prop := ob (gP s 1 10 p0) (fun v1 => (ob v1 (fun b2 => (ob (rE s .int b2 (0 : Int32)) (fun v3 => (ob (gP s 1 10 p0) (fun v4 => (ob v4 (fun b5 => (ob (rE s .int b5 (1 : Int32)) (fun v6 => (ob (gP s 1 10 p0) (fun v7 => (ob v7 (fun b8 => (ob (rE s .int b8 (2 : Int32)) (fun v9 => (ob (gP s 1 10 p0) (fun v10 => (ob v10 (fun b11 => (ob (rE s .int b11 (3 : Int32)) (fun v12 => (ob (gP s 1 10 p0) (fun v13 => (ob v13 (fun b14 => (ob (rE s .int b14 (4 : Int32)) (fun v15 => ((C_Ch_shaBlock_b40 sa p0 v3 v6 v9 v12 v15 (0 : Int32) s kc ks Q)))))))))))))))))))))))))))))))
set_option maxRecDepth 100000 in
set_option maxHeartbeats 4000000 in
theorem kc_Ch_shaBlock (base : Nat) (sa : Nat → Nat) {R : pmM} {s : cS} {kc ks : Nat} {Rt : pmR} {p0 : Nat} {Q : (cS → Nat → Nat → Prop)} (hw : cW sa R base s) (h : C_Ch_shaBlock sa p0 s kc ks Q) (k : ∀ s' kc' ks', cW sa R base s' → Q s' kc' ks' → Rt none (cM R s') kc' ks') : kP_Ch_shaBlock base sa [.ref p0] (cM R s) kc ks Rt := by
  refine ⟨Nat.le_of_ble_eq_true rfl, fun G hG => ?_⟩
  have b40 : ∀ (a1 : Int32) (a2 : Int32) (a3 : Int32) (a4 : Int32) (a5 : Int32) (a6 : Int32) (s : cS) (kc ks : Nat), KK sa R base G 40 [(0, va_rf (some p0)), (1, .int a1), (2, .int a2), (3, .int a3), (4, .int a4), (5, .int a5), (6, .int a6)] [] s kc ks (C_Ch_shaBlock_b40 sa p0 a1 a2 a3 a4 a5 a6 s kc ks Q) := by
    have H : ∀ (P40 : (Int32 → Int32 → Int32 → Int32 → Int32 → Int32 → cS → Nat → Nat → Prop)) (hP40 : ∀ (a1 : Int32) (a2 : Int32) (a3 : Int32) (a4 : Int32) (a5 : Int32) (a6 : Int32) (s : cS) (kc ks : Nat), P40 a1 a2 a3 a4 a5 a6 s kc ks → cW sa R base s → G 40 [(0, va_rf (some p0)), (1, .int a1), (2, .int a2), (3, .int a3), (4, .int a4), (5, .int a5), (6, .int a6)] [] (cM R s) kc ks) (a1 : Int32) (a2 : Int32) (a3 : Int32) (a4 : Int32) (a5 : Int32) (a6 : Int32) (s : cS) (kc ks : Nat), KK sa R base G 40 [(0, va_rf (some p0)), (1, .int a1), (2, .int a2), (3, .int a3), (4, .int a4), (5, .int a5), (6, .int a6)] [] s kc ks (C_Ch_shaBlock_s40 sa p0 a1 a2 a3 a4 a5 a6 s kc ks Q P40) := by
      intro P40 hP40
      have b132 : ∀ (a1 : Int32) (a2 : Int32) (a3 : Int32) (a4 : Int32) (a5 : Int32) (a6 : Int32) (a7 : Int32) (s : cS) (kc ks : Nat), KK sa R base G 132 [(0, va_rf (some p0)), (1, .int a1), (2, .int a2), (3, .int a3), (4, .int a4), (5, .int a5), (6, .int a6), (7, .int a7)] [] s kc ks (C_Ch_shaBlock_b132 sa p0 a1 a2 a3 a4 a5 a6 a7 s kc ks Q P40) := by
        intro a1 a2 a3 a4 a5 a6 a7 s kc ks
        refine kks hG rfl rfl ?_
        refine kk_ic hG rfl cc_i5 ?_
        refine kks hG rfl rfl ?_
        refine kks hG rfl rfl ?_
        refine kk_bi hG rfl cc_b27 ?_
        refine kks hG rfl rfl ?_
        refine kks hG rfl rfl ?_
        refine kks hG rfl rfl ?_
        refine kks hG rfl rfl ?_
        refine kks hG rfl rfl ?_
        refine kks hG rfl rfl ?_
        refine kk_aln hG (x := (some p0)) rfl rfl ?_
        refine kk_at (pc' := 147) rfl ?_
        refine kk_gp hG (c := 1) (k := 11) (a := p0) rfl rfl rfl rfl (fun v1 => ?_)
        refine kks hG rfl rfl ?_
        refine kk_ob (fun b2 eb2 => ?_)
        subst eb2
        refine kk_ia hG (a := b2) rfl (fun v3 => ?_)
        refine kks hG rfl rfl ?_
        refine kk_st hG (L' := [(8, .int (((((a1 <<< ((5 : Int32) &&& 31)) ||| (ush_I a1 (27 : Int32))) + a7) + a5) + v3)), (0, va_rf (some p0)), (1, .int a1), (2, .int a2), (3, .int a3), (4, .int a4), (5, .int a5), (6, .int a6), (7, .int a7)]) rfl rfl (Nat.le_of_ble_eq_true rfl) rfl ?_
        refine kks hG rfl rfl ?_
        refine kk_st hG (L' := [(5, .int a4), (8, .int (((((a1 <<< ((5 : Int32) &&& 31)) ||| (ush_I a1 (27 : Int32))) + a7) + a5) + v3)), (0, va_rf (some p0)), (1, .int a1), (2, .int a2), (3, .int a3), (4, .int a4), (6, .int a6), (7, .int a7)]) rfl rfl (Nat.le_of_ble_eq_true rfl) rfl ?_
        refine kks hG rfl rfl ?_
        refine kk_st hG (L' := [(4, .int a3), (5, .int a4), (8, .int (((((a1 <<< ((5 : Int32) &&& 31)) ||| (ush_I a1 (27 : Int32))) + a7) + a5) + v3)), (0, va_rf (some p0)), (1, .int a1), (2, .int a2), (3, .int a3), (6, .int a6), (7, .int a7)]) rfl rfl (Nat.le_of_ble_eq_true rfl) rfl ?_
        refine kks hG rfl rfl ?_
        refine kk_bi hG rfl cc_b30 ?_
        refine kks hG rfl rfl ?_
        refine kks hG rfl rfl ?_
        refine kk_ic hG rfl cc_i2 ?_
        refine kks hG rfl rfl ?_
        refine kk_at (pc' := 170) rfl ?_
        refine kks hG rfl rfl ?_
        refine kk_st hG (L' := [(3, .int ((a2 <<< ((30 : Int32) &&& 31)) ||| (ush_I a2 (2 : Int32)))), (4, .int a3), (5, .int a4), (8, .int (((((a1 <<< ((5 : Int32) &&& 31)) ||| (ush_I a1 (27 : Int32))) + a7) + a5) + v3)), (0, va_rf (some p0)), (1, .int a1), (2, .int a2), (6, .int a6), (7, .int a7)]) rfl rfl (Nat.le_of_ble_eq_true rfl) rfl ?_
        refine kks hG rfl rfl ?_
        refine kk_st hG (L' := [(2, .int a1), (3, .int ((a2 <<< ((30 : Int32) &&& 31)) ||| (ush_I a2 (2 : Int32)))), (4, .int a3), (5, .int a4), (8, .int (((((a1 <<< ((5 : Int32) &&& 31)) ||| (ush_I a1 (27 : Int32))) + a7) + a5) + v3)), (0, va_rf (some p0)), (1, .int a1), (6, .int a6), (7, .int a7)]) rfl rfl (Nat.le_of_ble_eq_true rfl) rfl ?_
        refine kks hG rfl rfl ?_
        refine kk_st hG (L' := [(1, .int (((((a1 <<< ((5 : Int32) &&& 31)) ||| (ush_I a1 (27 : Int32))) + a7) + a5) + v3)), (2, .int a1), (3, .int ((a2 <<< ((30 : Int32) &&& 31)) ||| (ush_I a2 (2 : Int32)))), (4, .int a3), (5, .int a4), (8, .int (((((a1 <<< ((5 : Int32) &&& 31)) ||| (ush_I a1 (27 : Int32))) + a7) + a5) + v3)), (0, va_rf (some p0)), (6, .int a6), (7, .int a7)]) rfl rfl (Nat.le_of_ble_eq_true rfl) rfl ?_
        refine kk_inc hG (L' := [(6, .int (a6 + (1 : Int32))), (1, .int (((((a1 <<< ((5 : Int32) &&& 31)) ||| (ush_I a1 (27 : Int32))) + a7) + a5) + v3)), (2, .int a1), (3, .int ((a2 <<< ((30 : Int32) &&& 31)) ||| (ush_I a2 (2 : Int32)))), (4, .int a3), (5, .int a4), (8, .int (((((a1 <<< ((5 : Int32) &&& 31)) ||| (ush_I a1 (27 : Int32))) + a7) + a5) + v3)), (0, va_rf (some p0)), (7, .int a7)]) rfl (Nat.le_of_ble_eq_true rfl) rfl cc_i1 rfl ?_
        refine kk_go hG (t := 40) rfl rfl ?_
        exact kk_wl hG [7, 1, 2, 3, 4, 5, 0] rfl (fun hw h => hP40 _ _ _ _ _ _ _ _ _ h hw)
      intro a1 a2 a3 a4 a5 a6 s kc ks
      refine kks hG rfl rfl ?_
      refine kk_bi hG rfl cc_b80 ?_
      refine kk_ige hG (t := 183) rfl rfl ?_ ?_
      · refine kk_aln hG (x := (some p0)) rfl rfl ?_
        refine kk_gp hG (c := 1) (k := 10) (a := p0) rfl rfl rfl rfl (fun v1 => ?_)
        refine kk_ic hG rfl cc_i0 ?_
        refine kk_dup2 hG (x := v1) rfl ?_
        refine kk_ob (fun b2 eb2 => ?_)
        subst eb2
        refine kk_ia hG (a := b2) rfl (fun v3 => ?_)
        refine kks hG rfl rfl ?_
        refine kks hG rfl rfl ?_
        refine kk_is hG (a := b2) rfl (fun s4 => ?_)
        refine kk_aln hG (x := (some p0)) rfl rfl ?_
        refine kk_gp hG (c := 1) (k := 10) (a := p0) rfl rfl rfl rfl (fun v5 => ?_)
        refine kk_ic hG rfl cc_i1 ?_
        refine kk_dup2 hG (x := v5) rfl ?_
        refine kk_ob (fun b6 eb6 => ?_)
        subst eb6
        refine kk_ia hG (a := b6) rfl (fun v7 => ?_)
        refine kks hG rfl rfl ?_
        refine kks hG rfl rfl ?_
        refine kk_is hG (a := b6) rfl (fun s8 => ?_)
        refine kk_aln hG (x := (some p0)) rfl rfl ?_
        refine kk_gp hG (c := 1) (k := 10) (a := p0) rfl rfl rfl rfl (fun v9 => ?_)
        refine kk_ic hG rfl cc_i2 ?_
        refine kk_dup2 hG (x := v9) rfl ?_
        refine kk_ob (fun b10 eb10 => ?_)
        subst eb10
        refine kk_ia hG (a := b10) rfl (fun v11 => ?_)
        refine kks hG rfl rfl ?_
        refine kks hG rfl rfl ?_
        refine kk_is hG (a := b10) rfl (fun s12 => ?_)
        refine kk_aln hG (x := (some p0)) rfl rfl ?_
        refine kk_gp hG (c := 1) (k := 10) (a := p0) rfl rfl rfl rfl (fun v13 => ?_)
        refine kk_ic hG rfl cc_i3 ?_
        refine kk_dup2 hG (x := v13) rfl ?_
        refine kk_ob (fun b14 eb14 => ?_)
        subst eb14
        refine kk_ia hG (a := b14) rfl (fun v15 => ?_)
        refine kks hG rfl rfl ?_
        refine kks hG rfl rfl ?_
        refine kk_is hG (a := b14) rfl (fun s16 => ?_)
        refine kk_aln hG (x := (some p0)) rfl rfl ?_
        refine kk_gp hG (c := 1) (k := 10) (a := p0) rfl rfl rfl rfl (fun v17 => ?_)
        refine kk_ic hG rfl cc_i4 ?_
        refine kk_dup2 hG (x := v17) rfl ?_
        refine kk_ob (fun b18 eb18 => ?_)
        subst eb18
        refine kk_ia hG (a := b18) rfl (fun v19 => ?_)
        refine kks hG rfl rfl ?_
        refine kks hG rfl rfl ?_
        refine kk_is hG (a := b18) rfl (fun s20 => ?_)
        exact kk_rv hG rfl rfl k
      refine kks hG rfl rfl ?_
      refine kk_bi hG rfl cc_b20 ?_
      refine kk_ige hG (t := 72) rfl rfl ?_ ?_
      · refine kks hG rfl rfl ?_
        refine kk_bi hG rfl cc_b40 ?_
        refine kk_ige hG (t := 93) rfl rfl ?_ ?_
        · refine kks hG rfl rfl ?_
          refine kk_bi hG rfl cc_b60 ?_
          refine kk_ige hG (t := 121) rfl rfl ?_ ?_
          · refine kks hG rfl rfl ?_
            refine kks hG rfl rfl ?_
            refine kks hG rfl rfl ?_
            refine kks hG rfl rfl ?_
            refine kks hG rfl rfl ?_
            refine kk_ld hG (v := ((-899497514) : Int32)) rfl rfl ?_
            refine kks hG rfl rfl ?_
            refine kk_st hG (L' := [(7, .int (((a2 ^^^ a3) ^^^ a4) + ((-899497514) : Int32))), (0, va_rf (some p0)), (1, .int a1), (2, .int a2), (3, .int a3), (4, .int a4), (5, .int a5), (6, .int a6)]) rfl rfl (Nat.le_of_ble_eq_true rfl) rfl ?_
            exact kk_wl hG [1, 2, 3, 4, 5, 6, 7, 0] rfl (b132 _ _ _ _ _ _ _ _ _ _)
          refine kks hG rfl rfl ?_
          refine kks hG rfl rfl ?_
          refine kks hG rfl rfl ?_
          refine kks hG rfl rfl ?_
          refine kks hG rfl rfl ?_
          refine kks hG rfl rfl ?_
          refine kks hG rfl rfl ?_
          refine kks hG rfl rfl ?_
          refine kks hG rfl rfl ?_
          refine kks hG rfl rfl ?_
          refine kks hG rfl rfl ?_
          refine kk_ld hG (v := ((-1894007588) : Int32)) rfl rfl ?_
          refine kk_at (pc' := 115) rfl ?_
          refine kks hG rfl rfl ?_
          refine kk_st hG (L' := [(7, .int ((((a2 &&& a3) ||| (a2 &&& a4)) ||| (a3 &&& a4)) + ((-1894007588) : Int32))), (0, va_rf (some p0)), (1, .int a1), (2, .int a2), (3, .int a3), (4, .int a4), (5, .int a5), (6, .int a6)]) rfl rfl (Nat.le_of_ble_eq_true rfl) rfl ?_
          refine kk_go hG (t := 132) rfl rfl ?_
          exact kk_wl hG [1, 2, 3, 4, 5, 6, 7, 0] rfl (b132 _ _ _ _ _ _ _ _ _ _)
        refine kks hG rfl rfl ?_
        refine kks hG rfl rfl ?_
        refine kks hG rfl rfl ?_
        refine kks hG rfl rfl ?_
        refine kks hG rfl rfl ?_
        refine kk_ld hG (v := (1859775393 : Int32)) rfl rfl ?_
        refine kks hG rfl rfl ?_
        refine kk_st hG (L' := [(7, .int (((a2 ^^^ a3) ^^^ a4) + (1859775393 : Int32))), (0, va_rf (some p0)), (1, .int a1), (2, .int a2), (3, .int a3), (4, .int a4), (5, .int a5), (6, .int a6)]) rfl rfl (Nat.le_of_ble_eq_true rfl) rfl ?_
        refine kk_go hG (t := 132) rfl rfl ?_
        exact kk_wl hG [1, 2, 3, 4, 5, 6, 7, 0] rfl (b132 _ _ _ _ _ _ _ _ _ _)
      refine kks hG rfl rfl ?_
      refine kks hG rfl rfl ?_
      refine kks hG rfl rfl ?_
      refine kks hG rfl rfl ?_
      refine kk_ic hG rfl cc_im1 ?_
      refine kks hG rfl rfl ?_
      refine kks hG rfl rfl ?_
      refine kks hG rfl rfl ?_
      refine kks hG rfl rfl ?_
      refine kk_ld hG (v := (1518500249 : Int32)) rfl rfl ?_
      refine kks hG rfl rfl ?_
      refine kk_st hG (L' := [(7, .int (((a2 &&& a3) ||| ((a2 ^^^ ((-1) : Int32)) &&& a4)) + (1518500249 : Int32))), (0, va_rf (some p0)), (1, .int a1), (2, .int a2), (3, .int a3), (4, .int a4), (5, .int a5), (6, .int a6)]) rfl rfl (Nat.le_of_ble_eq_true rfl) rfl ?_
      refine kk_at (pc' := 69) rfl ?_
      refine kk_go hG (t := 132) rfl rfl ?_
      exact kk_wl hG [1, 2, 3, 4, 5, 6, 7, 0] rfl (b132 _ _ _ _ _ _ _ _ _ _)
    exact fun a1 a2 a3 a4 a5 a6 s kc ks hw h => h (fun a1 a2 a3 a4 a5 a6 s kc ks => cW sa R base s → G 40 [(0, va_rf (some p0)), (1, .int a1), (2, .int a2), (3, .int a3), (4, .int a4), (5, .int a5), (6, .int a6)] [] (cM R s) kc ks) (fun a1 a2 a3 a4 a5 a6 s kc ks hs hw => H _ (fun _ _ _ _ _ _ _ _ _ hp hw => hp hw) a1 a2 a3 a4 a5 a6 s kc ks hw hs) hw
  refine (show KK sa R base G 0 [(0, va_rf (some p0))] [] s kc ks (C_Ch_shaBlock sa p0 s kc ks Q) from ?_) hw h
  refine kk_aln hG (x := (some p0)) rfl rfl ?_
  refine kk_gp hG (c := 1) (k := 10) (a := p0) rfl rfl rfl rfl (fun v1 => ?_)
  refine kk_ic hG rfl cc_i0 ?_
  refine kk_ob (fun b2 eb2 => ?_)
  subst eb2
  refine kk_ia hG (a := b2) rfl (fun v3 => ?_)
  refine kk_st hG (L' := [(1, .int v3), (0, va_rf (some p0))]) rfl rfl (Nat.le_of_ble_eq_true rfl) rfl ?_
  refine kk_aln hG (x := (some p0)) rfl rfl ?_
  refine kk_gp hG (c := 1) (k := 10) (a := p0) rfl rfl rfl rfl (fun v4 => ?_)
  refine kk_ic hG rfl cc_i1 ?_
  refine kk_ob (fun b5 eb5 => ?_)
  subst eb5
  refine kk_ia hG (a := b5) rfl (fun v6 => ?_)
  refine kk_st hG (L' := [(2, .int v6), (1, .int v3), (0, va_rf (some p0))]) rfl rfl (Nat.le_of_ble_eq_true rfl) rfl ?_
  refine kk_aln hG (x := (some p0)) rfl rfl ?_
  refine kk_gp hG (c := 1) (k := 10) (a := p0) rfl rfl rfl rfl (fun v7 => ?_)
  refine kk_ic hG rfl cc_i2 ?_
  refine kk_ob (fun b8 eb8 => ?_)
  subst eb8
  refine kk_ia hG (a := b8) rfl (fun v9 => ?_)
  refine kk_st hG (L' := [(3, .int v9), (2, .int v6), (1, .int v3), (0, va_rf (some p0))]) rfl rfl (Nat.le_of_ble_eq_true rfl) rfl ?_
  refine kk_aln hG (x := (some p0)) rfl rfl ?_
  refine kk_gp hG (c := 1) (k := 10) (a := p0) rfl rfl rfl rfl (fun v10 => ?_)
  refine kk_ic hG rfl cc_i3 ?_
  refine kk_ob (fun b11 eb11 => ?_)
  subst eb11
  refine kk_ia hG (a := b11) rfl (fun v12 => ?_)
  refine kk_st hG (L' := [(4, .int v12), (3, .int v9), (2, .int v6), (1, .int v3), (0, va_rf (some p0))]) rfl rfl (Nat.le_of_ble_eq_true rfl) rfl ?_
  refine kk_aln hG (x := (some p0)) rfl rfl ?_
  refine kk_gp hG (c := 1) (k := 10) (a := p0) rfl rfl rfl rfl (fun v13 => ?_)
  refine kk_ic hG rfl cc_i4 ?_
  refine kk_ob (fun b14 eb14 => ?_)
  subst eb14
  refine kk_ia hG (a := b14) rfl (fun v15 => ?_)
  refine kk_st hG (L' := [(5, .int v15), (4, .int v12), (3, .int v9), (2, .int v6), (1, .int v3), (0, va_rf (some p0))]) rfl rfl (Nat.le_of_ble_eq_true rfl) rfl ?_
  refine kk_ic hG rfl cc_i0 ?_
  refine kk_st hG (L' := [(6, .int (0 : Int32)), (5, .int v15), (4, .int v12), (3, .int v9), (2, .int v6), (1, .int v3), (0, va_rf (some p0))]) rfl rfl (Nat.le_of_ble_eq_true rfl) rfl ?_
  exact kk_wl hG [6, 5, 4, 3, 2, 1, 0] rfl (b40 _ _ _ _ _ _ _ _ _)
def C_Ch_sha_s104 (sa : Nat → Nat) (p0 : Nat) (a1 : Int32) (a2 : Int32) (s : cS) (kc ks : Nat) (Q : (cS → Nat → Nat → Prop)) (P6 : (Int32 → cS → Nat → Nat → Prop)) (P104 : (Int32 → cS → Nat → Nat → Prop)) : Prop := if a2 < (80 : Int32) then (ob (gP s 1 11 p0) (fun v2 => (ob v2 (fun b3 => (ob (rE s .int b3 (a2 - (3 : Int32))) (fun v4 => (ob (gP s 1 11 p0) (fun v5 => (ob v5 (fun b6 => (ob (rE s .int b6 (a2 - (8 : Int32))) (fun v7 => (ob (gP s 1 11 p0) (fun v8 => (ob v8 (fun b9 => (ob (rE s .int b9 (a2 - (14 : Int32))) (fun v10 => (ob (gP s 1 11 p0) (fun v11 => (ob v11 (fun b12 => (ob (rE s .int b12 (a2 - (16 : Int32))) (fun v13 => (ob (gP s 1 11 p0) (fun v14 => (ob v14 (fun b15 => (ob (wEi s b15 a2 (((((v4 ^^^ v7) ^^^ v10) ^^^ v13) <<< ((1 : Int32) &&& 31)) ||| (ush_I (((v4 ^^^ v7) ^^^ v10) ^^^ v13) (31 : Int32)))) (fun s16 => ((P104 (a2 + (1 : Int32)) s16 kc ks)))))))))))))))))))))))))))))))) else ((okO s 1 p0 ∧ C_Ch_shaBlock sa p0 s kc ks (fun sr1 cr1 dr1 => ((P6 (a1 + (64 : Int32)) sr1 cr1 dr1)))))
def C_Ch_sha_b104 (sa : Nat → Nat) (p0 : Nat) (a1 : Int32) (a2 : Int32) (s : cS) (kc ks : Nat) (Q : (cS → Nat → Nat → Prop)) (P6 : (Int32 → cS → Nat → Nat → Prop)) : Prop := ∀ P104 : (Int32 → cS → Nat → Nat → Prop), (∀ (a2 : Int32) (s : cS) (kc ks : Nat), C_Ch_sha_s104 sa p0 a1 a2 s kc ks Q P6 P104 → P104 a2 s kc ks) → P104 a2 s kc ks
def C_Ch_sha_s19 (sa : Nat → Nat) (p0 : Nat) (a1 : Int32) (a2 : Int32) (s : cS) (kc ks : Nat) (Q : (cS → Nat → Nat → Prop)) (P6 : (Int32 → cS → Nat → Nat → Prop)) (P19 : (Int32 → cS → Nat → Nat → Prop)) : Prop := if a2 < (16 : Int32) then (ob (gP s 1 11 p0) (fun v1 => (ob (gP s 1 8 p0) (fun v2 => (ob v2 (fun b3 => (ob (rE s .byte b3 (a1 + ((4 : Int32) * a2))) (fun v4 => (ob (gP s 1 8 p0) (fun v5 => (ob v5 (fun b6 => (ob (rE s .byte b6 ((a1 + ((4 : Int32) * a2)) + (1 : Int32))) (fun v7 => (ob (gP s 1 8 p0) (fun v8 => (ob v8 (fun b9 => (ob (rE s .byte b9 ((a1 + ((4 : Int32) * a2)) + (2 : Int32))) (fun v10 => (ob (gP s 1 8 p0) (fun v11 => (ob v11 (fun b12 => (ob (rE s .byte b12 ((a1 + ((4 : Int32) * a2)) + (3 : Int32))) (fun v13 => (ob v1 (fun b14 => (ob (wEi s b14 a2 (((((v4 &&& (255 : Int32)) <<< ((24 : Int32) &&& 31)) ||| ((v7 &&& (255 : Int32)) <<< ((16 : Int32) &&& 31))) ||| ((v10 &&& (255 : Int32)) <<< ((8 : Int32) &&& 31))) ||| (v13 &&& (255 : Int32)))) (fun s15 => ((P19 (a2 + (1 : Int32)) s15 kc ks)))))))))))))))))))))))))))))))) else (((C_Ch_sha_b104 sa p0 a1 (16 : Int32) s kc ks Q P6)))
def C_Ch_sha_b19 (sa : Nat → Nat) (p0 : Nat) (a1 : Int32) (a2 : Int32) (s : cS) (kc ks : Nat) (Q : (cS → Nat → Nat → Prop)) (P6 : (Int32 → cS → Nat → Nat → Prop)) : Prop := ∀ P19 : (Int32 → cS → Nat → Nat → Prop), (∀ (a2 : Int32) (s : cS) (kc ks : Nat), C_Ch_sha_s19 sa p0 a1 a2 s kc ks Q P6 P19 → P19 a2 s kc ks) → P19 a2 s kc ks
def C_Ch_sha_s6 (sa : Nat → Nat) (p0 : Nat) (a1 : Int32) (s : cS) (kc ks : Nat) (Q : (cS → Nat → Nat → Prop)) (P6 : (Int32 → cS → Nat → Nat → Prop)) : Prop := ob (gI s 1 9 p0) (fun v1 => (if v1 < (a1 + (64 : Int32)) then ((Q s kc ks)) else ((C_Ch_sha_b19 sa p0 a1 (0 : Int32) s kc ks Q P6))))
def C_Ch_sha_b6 (sa : Nat → Nat) (p0 : Nat) (a1 : Int32) (s : cS) (kc ks : Nat) (Q : (cS → Nat → Nat → Prop)) : Prop := ∀ P6 : (Int32 → cS → Nat → Nat → Prop), (∀ (a1 : Int32) (s : cS) (kc ks : Nat), C_Ch_sha_s6 sa p0 a1 s kc ks Q P6 → P6 a1 s kc ks) → P6 a1 s kc ks
def C_Ch_sha (sa : Nat → Nat) (p0 : Nat) (s : cS) (kc ks : Nat) (Q : (cS → Nat → Nat → Prop)) : Prop := okO s 1 p0 ∧ C_Ch_begin sa p0 s kc ks (fun sr1 cr1 dr1 => ((C_Ch_sha_b6 sa p0 (0 : Int32) sr1 cr1 dr1 Q)))
set_option maxRecDepth 100000 in
set_option maxHeartbeats 4000000 in
theorem kc_Ch_sha (base : Nat) (sa : Nat → Nat) {R : pmM} {s : cS} {kc ks : Nat} {Rt : pmR} {p0 : Nat} {Q : (cS → Nat → Nat → Prop)} (hw : cW sa R base s) (h : C_Ch_sha sa p0 s kc ks Q) (k : ∀ s' kc' ks', cW sa R base s' → Q s' kc' ks' → Rt none (cM R s') kc' ks') : kP_Ch_sha base sa [.ref p0] (cM R s) kc ks Rt := by
  refine ⟨Nat.le_of_ble_eq_true rfl, fun G hG => ?_⟩
  have b6 : ∀ (a1 : Int32) (s : cS) (kc ks : Nat), KK sa R base G 6 [(0, va_rf (some p0)), (1, .int a1)] [] s kc ks (C_Ch_sha_b6 sa p0 a1 s kc ks Q) := by
    have H : ∀ (P6 : (Int32 → cS → Nat → Nat → Prop)) (hP6 : ∀ (a1 : Int32) (s : cS) (kc ks : Nat), P6 a1 s kc ks → cW sa R base s → G 6 [(0, va_rf (some p0)), (1, .int a1)] [] (cM R s) kc ks) (a1 : Int32) (s : cS) (kc ks : Nat), KK sa R base G 6 [(0, va_rf (some p0)), (1, .int a1)] [] s kc ks (C_Ch_sha_s6 sa p0 a1 s kc ks Q P6) := by
      intro P6 hP6
      have b104 : ∀ (a1 : Int32) (a2 : Int32) (s : cS) (kc ks : Nat), KK sa R base G 104 [(0, va_rf (some p0)), (1, .int a1), (2, .int a2)] [] s kc ks (C_Ch_sha_b104 sa p0 a1 a2 s kc ks Q P6) := by
        intro a1
        have H : ∀ (P104 : (Int32 → cS → Nat → Nat → Prop)) (hP104 : ∀ (a2 : Int32) (s : cS) (kc ks : Nat), P104 a2 s kc ks → cW sa R base s → G 104 [(0, va_rf (some p0)), (1, .int a1), (2, .int a2)] [] (cM R s) kc ks) (a2 : Int32) (s : cS) (kc ks : Nat), KK sa R base G 104 [(0, va_rf (some p0)), (1, .int a1), (2, .int a2)] [] s kc ks (C_Ch_sha_s104 sa p0 a1 a2 s kc ks Q P6 P104) := by
          intro P104 hP104
          intro a2 s kc ks
          refine kks hG rfl rfl ?_
          refine kk_bi hG rfl cc_b80 ?_
          refine kk_ige hG (t := 169) rfl rfl ?_ ?_
          · refine kk_aln hG (x := (some p0)) rfl rfl ?_
            refine kk_cv hG 0 rfl rfl (Nat.le_of_ble_eq_true rfl) (by decide) rfl (st' := []) rfl (cats_le (Nat.le_of_ble_eq_true rfl)) (fun _ hw h k => kk_rcv h.1 (kc_Ch_shaBlock base sa hw h.2 k)) (fun sr1 cr1 dr1 => ?_)
            refine kk_inc hG (L' := [(1, .int (a1 + (64 : Int32))), (0, va_rf (some p0)), (2, .int a2)]) rfl (Nat.le_of_ble_eq_true rfl) rfl cc_i64 rfl ?_
            refine kk_go hG (t := 6) rfl rfl ?_
            exact kk_wl hG [1, 0] rfl (fun hw h => hP6 _ _ _ _ h hw)
          refine kk_aln hG (x := (some p0)) rfl rfl ?_
          refine kk_gp hG (c := 1) (k := 11) (a := p0) rfl rfl rfl rfl (fun v2 => ?_)
          refine kks hG rfl rfl ?_
          refine kk_ic hG rfl cc_i3 ?_
          refine kks hG rfl rfl ?_
          refine kk_ob (fun b3 eb3 => ?_)
          subst eb3
          refine kk_ia hG (a := b3) rfl (fun v4 => ?_)
          refine kk_aln hG (x := (some p0)) rfl rfl ?_
          refine kk_gp hG (c := 1) (k := 11) (a := p0) rfl rfl rfl rfl (fun v5 => ?_)
          refine kks hG rfl rfl ?_
          refine kk_bi hG rfl cc_b8 ?_
          refine kks hG rfl rfl ?_
          refine kk_ob (fun b6 eb6 => ?_)
          subst eb6
          refine kk_ia hG (a := b6) rfl (fun v7 => ?_)
          refine kks hG rfl rfl ?_
          refine kk_aln hG (x := (some p0)) rfl rfl ?_
          refine kk_gp hG (c := 1) (k := 11) (a := p0) rfl rfl rfl rfl (fun v8 => ?_)
          refine kks hG rfl rfl ?_
          refine kk_bi hG rfl cc_b14 ?_
          refine kks hG rfl rfl ?_
          refine kk_ob (fun b9 eb9 => ?_)
          subst eb9
          refine kk_ia hG (a := b9) rfl (fun v10 => ?_)
          refine kks hG rfl rfl ?_
          refine kk_aln hG (x := (some p0)) rfl rfl ?_
          refine kk_gp hG (c := 1) (k := 11) (a := p0) rfl rfl rfl rfl (fun v11 => ?_)
          refine kks hG rfl rfl ?_
          refine kk_bi hG rfl cc_b16 ?_
          refine kks hG rfl rfl ?_
          refine kk_ob (fun b12 eb12 => ?_)
          subst eb12
          refine kk_ia hG (a := b12) rfl (fun v13 => ?_)
          refine kks hG rfl rfl ?_
          refine kk_st hG (L' := [(3, .int (((v4 ^^^ v7) ^^^ v10) ^^^ v13)), (0, va_rf (some p0)), (1, .int a1), (2, .int a2)]) rfl rfl (Nat.le_of_ble_eq_true rfl) rfl ?_
          refine kk_aln hG (x := (some p0)) rfl rfl ?_
          refine kk_gp hG (c := 1) (k := 11) (a := p0) rfl rfl rfl rfl (fun v14 => ?_)
          refine kks hG rfl rfl ?_
          refine kks hG rfl rfl ?_
          refine kk_ic hG rfl cc_i1 ?_
          refine kks hG rfl rfl ?_
          refine kks hG rfl rfl ?_
          refine kk_bi hG rfl cc_b31 ?_
          refine kks hG rfl rfl ?_
          refine kks hG rfl rfl ?_
          refine kk_ob (fun b15 eb15 => ?_)
          subst eb15
          refine kk_is hG (a := b15) rfl (fun s16 => ?_)
          refine kk_inc hG (L' := [(2, .int (a2 + (1 : Int32))), (3, .int (((v4 ^^^ v7) ^^^ v10) ^^^ v13)), (0, va_rf (some p0)), (1, .int a1)]) rfl (Nat.le_of_ble_eq_true rfl) rfl cc_i1 rfl ?_
          refine kk_go hG (t := 104) rfl rfl ?_
          exact kk_wl hG [2, 3, 0] rfl (fun hw h => hP104 _ _ _ _ h hw)
        exact fun a2 s kc ks hw h => h (fun a2 s kc ks => cW sa R base s → G 104 [(0, va_rf (some p0)), (1, .int a1), (2, .int a2)] [] (cM R s) kc ks) (fun a2 s kc ks hs hw => H _ (fun _ _ _ _ hp hw => hp hw) a2 s kc ks hw hs) hw
      have b19 : ∀ (a1 : Int32) (a2 : Int32) (s : cS) (kc ks : Nat), KK sa R base G 19 [(0, va_rf (some p0)), (1, .int a1), (2, .int a2)] [] s kc ks (C_Ch_sha_b19 sa p0 a1 a2 s kc ks Q P6) := by
        intro a1
        have H : ∀ (P19 : (Int32 → cS → Nat → Nat → Prop)) (hP19 : ∀ (a2 : Int32) (s : cS) (kc ks : Nat), P19 a2 s kc ks → cW sa R base s → G 19 [(0, va_rf (some p0)), (1, .int a1), (2, .int a2)] [] (cM R s) kc ks) (a2 : Int32) (s : cS) (kc ks : Nat), KK sa R base G 19 [(0, va_rf (some p0)), (1, .int a1), (2, .int a2)] [] s kc ks (C_Ch_sha_s19 sa p0 a1 a2 s kc ks Q P6 P19) := by
          intro P19 hP19
          intro a2 s kc ks
          refine kks hG rfl rfl ?_
          refine kk_bi hG rfl cc_b16 ?_
          refine kk_ige hG (t := 101) rfl rfl ?_ ?_
          · refine kk_bi hG rfl cc_b16 ?_
            refine kk_st hG (L' := [(2, .int (16 : Int32)), (0, va_rf (some p0)), (1, .int a1)]) rfl rfl (Nat.le_of_ble_eq_true rfl) rfl ?_
            exact kk_wl hG [1, 2, 0] rfl (b104 _ _ _ _ _)
          refine kks hG rfl rfl ?_
          refine kk_ic hG rfl cc_i4 ?_
          refine kks hG rfl rfl ?_
          refine kks hG rfl rfl ?_
          refine kks hG rfl rfl ?_
          refine kk_st hG (L' := [(3, .int (a1 + ((4 : Int32) * a2))), (0, va_rf (some p0)), (1, .int a1), (2, .int a2)]) rfl rfl (Nat.le_of_ble_eq_true rfl) rfl ?_
          refine kk_aln hG (x := (some p0)) rfl rfl ?_
          refine kk_gp hG (c := 1) (k := 11) (a := p0) rfl rfl rfl rfl (fun v1 => ?_)
          refine kks hG rfl rfl ?_
          refine kk_aln hG (x := (some p0)) rfl rfl ?_
          refine kk_gp hG (c := 1) (k := 8) (a := p0) rfl rfl rfl rfl (fun v2 => ?_)
          refine kks hG rfl rfl ?_
          refine kk_ob (fun b3 eb3 => ?_)
          subst eb3
          refine kk_ba hG (a := b3) rfl (fun v4 => ?_)
          refine kk_si hG rfl cc_s255 ?_
          refine kks hG rfl rfl ?_
          refine kk_bi hG rfl cc_b24 ?_
          refine kks hG rfl rfl ?_
          refine kk_aln hG (x := (some p0)) rfl rfl ?_
          refine kk_gp hG (c := 1) (k := 8) (a := p0) rfl rfl rfl rfl (fun v5 => ?_)
          refine kks hG rfl rfl ?_
          refine kk_ic hG rfl cc_i1 ?_
          refine kks hG rfl rfl ?_
          refine kk_ob (fun b6 eb6 => ?_)
          subst eb6
          refine kk_ba hG (a := b6) rfl (fun v7 => ?_)
          refine kk_si hG rfl cc_s255 ?_
          refine kks hG rfl rfl ?_
          refine kk_bi hG rfl cc_b16 ?_
          refine kks hG rfl rfl ?_
          refine kks hG rfl rfl ?_
          refine kk_aln hG (x := (some p0)) rfl rfl ?_
          refine kk_gp hG (c := 1) (k := 8) (a := p0) rfl rfl rfl rfl (fun v8 => ?_)
          refine kks hG rfl rfl ?_
          refine kk_ic hG rfl cc_i2 ?_
          refine kks hG rfl rfl ?_
          refine kk_ob (fun b9 eb9 => ?_)
          subst eb9
          refine kk_ba hG (a := b9) rfl (fun v10 => ?_)
          refine kk_si hG rfl cc_s255 ?_
          refine kks hG rfl rfl ?_
          refine kk_bi hG rfl cc_b8 ?_
          refine kks hG rfl rfl ?_
          refine kks hG rfl rfl ?_
          refine kk_aln hG (x := (some p0)) rfl rfl ?_
          refine kk_gp hG (c := 1) (k := 8) (a := p0) rfl rfl rfl rfl (fun v11 => ?_)
          refine kks hG rfl rfl ?_
          refine kk_ic hG rfl cc_i3 ?_
          refine kks hG rfl rfl ?_
          refine kk_ob (fun b12 eb12 => ?_)
          subst eb12
          refine kk_ba hG (a := b12) rfl (fun v13 => ?_)
          refine kk_si hG rfl cc_s255 ?_
          refine kks hG rfl rfl ?_
          refine kks hG rfl rfl ?_
          refine kk_ob (fun b14 eb14 => ?_)
          subst eb14
          refine kk_is hG (a := b14) rfl (fun s15 => ?_)
          refine kk_inc hG (L' := [(2, .int (a2 + (1 : Int32))), (3, .int (a1 + ((4 : Int32) * a2))), (0, va_rf (some p0)), (1, .int a1)]) rfl (Nat.le_of_ble_eq_true rfl) rfl cc_i1 rfl ?_
          refine kk_go hG (t := 19) rfl rfl ?_
          exact kk_wl hG [2, 3, 0] rfl (fun hw h => hP19 _ _ _ _ h hw)
        exact fun a2 s kc ks hw h => h (fun a2 s kc ks => cW sa R base s → G 19 [(0, va_rf (some p0)), (1, .int a1), (2, .int a2)] [] (cM R s) kc ks) (fun a2 s kc ks hs hw => H _ (fun _ _ _ _ hp hw => hp hw) a2 s kc ks hw hs) hw
      intro a1 s kc ks
      refine kks hG rfl rfl ?_
      refine kk_bi hG rfl cc_b64 ?_
      refine kks hG rfl rfl ?_
      refine kk_aln hG (x := (some p0)) rfl rfl ?_
      refine kk_gi hG (c := 1) (k := 9) (a := p0) rfl rfl rfl rfl (fun v1 => ?_)
      refine kk_igt hG (t := 179) rfl rfl ?_ ?_
      · exact kk_rv hG rfl rfl k
      refine kk_ic hG rfl cc_i0 ?_
      refine kk_st hG (L' := [(2, .int (0 : Int32)), (0, va_rf (some p0)), (1, .int a1)]) rfl rfl (Nat.le_of_ble_eq_true rfl) rfl ?_
      exact kk_wl hG [1, 2, 0] rfl (b19 _ _ _ _ _)
    exact fun a1 s kc ks hw h => h (fun a1 s kc ks => cW sa R base s → G 6 [(0, va_rf (some p0)), (1, .int a1)] [] (cM R s) kc ks) (fun a1 s kc ks hs hw => H _ (fun _ _ _ _ hp hw => hp hw) a1 s kc ks hw hs) hw
  refine (show KK sa R base G 0 [(0, va_rf (some p0))] [] s kc ks (C_Ch_sha sa p0 s kc ks Q) from ?_) hw h
  refine kk_aln hG (x := (some p0)) rfl rfl ?_
  refine kk_cv hG 0 rfl rfl (Nat.le_of_ble_eq_true rfl) (by decide) rfl (st' := []) rfl (cats_le (Nat.le_of_ble_eq_true rfl)) (fun _ hw h k => kk_rcv h.1 (kc_Ch_begin base sa hw h.2 k)) (fun sr1 cr1 dr1 => ?_)
  refine kk_ic hG rfl cc_i0 ?_
  refine kk_st hG (L' := [(1, .int (0 : Int32)), (0, va_rf (some p0))]) rfl rfl (Nat.le_of_ble_eq_true rfl) rfl ?_
  exact kk_wl hG [1, 0] rfl (b6 _ _ _ _)
def C_Ch_sumByte_b29 (sa : Nat → Nat) (p0 : Nat) (p1 : Int32) (u0 : Int32) (s : cS) (kc ks : Nat) (Q : (Int32 → cS → Nat → Nat → Prop)) : Prop := ob (gP s 1 10 p0) (fun v1 => (ob v1 (fun b2 => (ob (rE s .int b2 (p1 >>> ((2 : Int32) &&& 31))) (fun v3 => (Q ((ush_I v3 u0) &&& (255 : Int32)) s kc ks))))))
def C_Ch_sumByte (sa : Nat → Nat) (p0 : Nat) (p1 : Int32) (p2 : Int32) (s : cS) (kc ks : Nat) (Q : (Int32 → cS → Nat → Nat → Prop)) : Prop := ob (gP s 1 4 p0) (fun v1 => (ob v1 (fun b2 => (ob (rE s .int b2 p2) (fun v3 => (if v3 = (16 : Int32) then ((C_Ch_sumByte_b29 sa p0 p1 ((8 : Int32) * (p1 &&& (3 : Int32))) s kc ks Q)) else ((C_Ch_sumByte_b29 sa p0 p1 ((24 : Int32) - ((8 : Int32) * (p1 &&& (3 : Int32)))) s kc ks Q))))))))
set_option maxRecDepth 100000 in
set_option maxHeartbeats 4000000 in
theorem kc_Ch_sumByte (base : Nat) (sa : Nat → Nat) {R : pmM} {s : cS} {kc ks : Nat} {Rt : pmR} {p0 : Nat} {p1 : Int32} {p2 : Int32} {Q : (Int32 → cS → Nat → Nat → Prop)} (hw : cW sa R base s) (h : C_Ch_sumByte sa p0 p1 p2 s kc ks Q) (k : ∀ r s' kc' ks', cW sa R base s' → Q r s' kc' ks' → Rt (some (.int r)) (cM R s') kc' ks') : kP_Ch_sumByte base sa [.ref p0, .int p1, .int p2] (cM R s) kc ks Rt := by
  refine ⟨Nat.le_of_ble_eq_true rfl, fun G hG => ?_⟩
  have b29 : ∀ (u0 : Int32) (s : cS) (kc ks : Nat), KK sa R base G 29 [(0, va_rf (some p0)), (1, .int p1)] [.int u0] s kc ks (C_Ch_sumByte_b29 sa p0 p1 u0 s kc ks Q) := by
    intro u0 s kc ks
    refine kk_st hG (L' := [(3, .int u0), (0, va_rf (some p0)), (1, .int p1)]) rfl rfl (Nat.le_of_ble_eq_true rfl) rfl ?_
    refine kk_aln hG (x := (some p0)) rfl rfl ?_
    refine kk_gp hG (c := 1) (k := 10) (a := p0) rfl rfl rfl rfl (fun v1 => ?_)
    refine kks hG rfl rfl ?_
    refine kk_ic hG rfl cc_i2 ?_
    refine kks hG rfl rfl ?_
    refine kk_ob (fun b2 eb2 => ?_)
    subst eb2
    refine kk_ia hG (a := b2) rfl (fun v3 => ?_)
    refine kks hG rfl rfl ?_
    refine kks hG rfl rfl ?_
    refine kk_si hG rfl cc_s255 ?_
    refine kks hG rfl rfl ?_
    exact kk_ri hG rfl rfl rfl k
  refine (show KK sa R base G 0 [(0, va_rf (some p0)), (1, .int p1), (2, .int p2)] [] s kc ks (C_Ch_sumByte sa p0 p1 p2 s kc ks Q) from ?_) hw h
  refine kk_aln hG (x := (some p0)) rfl rfl ?_
  refine kk_gp hG (c := 1) (k := 4) (a := p0) rfl rfl rfl rfl (fun v1 => ?_)
  refine kks hG rfl rfl ?_
  refine kk_ob (fun b2 eb2 => ?_)
  subst eb2
  refine kk_ia hG (a := b2) rfl (fun v3 => ?_)
  refine kk_bi hG rfl cc_b16 ?_
  refine kk_ine hG (t := 20) rfl rfl ?_ ?_
  · refine kk_bi hG rfl cc_b24 ?_
    refine kk_bi hG rfl cc_b8 ?_
    refine kks hG rfl rfl ?_
    refine kk_ic hG rfl cc_i3 ?_
    refine kks hG rfl rfl ?_
    refine kks hG rfl rfl ?_
    refine kks hG rfl rfl ?_
    exact kk_wl hG [0, 1] rfl (b29 _ _ _ _)
  refine kk_bi hG rfl cc_b8 ?_
  refine kks hG rfl rfl ?_
  refine kk_ic hG rfl cc_i3 ?_
  refine kks hG rfl rfl ?_
  refine kks hG rfl rfl ?_
  refine kk_go hG (t := 29) rfl rfl ?_
  exact kk_wl hG [0, 1] rfl (b29 _ _ _ _)
