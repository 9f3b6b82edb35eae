/-! Methods as weakest preconditions, by program: Ch_md5Block .. Ch_shaBlock -/
def C_Ch_md5Block_b139 (sa : Nat → Nat) (p0 : Nat) (a1 : Int32) (a2 : Int32) (a3 : Int32) (a4 : Int32) (a5 : Int32) (a6 : Int32) (a7 : Int32) (s : cS) (kc ks : Nat) (Q : (cS → Nat → Nat → Prop)) (P32 : (Int32 → Int32 → Int32 → Int32 → Int32 → cS → Nat → Nat → Prop)) : Prop := ob (rS kSin a5) (fun v1 => (ob (gP s 1 11 p0) (fun v2 => (ob v2 (fun b3 => (ob (rE s .int b3 (a7 &&& (15 : Int32))) (fun v4 => (ob (rS kTur (((a5 >>> ((4 : Int32) &&& 31)) <<< ((2 : Int32) &&& 31)) ||| (a5 &&& (3 : Int32)))) (fun v5 => ((P32 a4 (a2 + (((((a1 + a6) + v1) + v4) <<< (v5 &&& 31)) ||| (ush_I (((a1 + a6) + v1) + v4) ((32 : Int32) - v5)))) a2 a3 (a5 + (1 : Int32)) s kc ks)))))))))))
def C_Ch_md5Block_s32 (sa : Nat → Nat) (p0 : Nat) (a1 : Int32) (a2 : Int32) (a3 : Int32) (a4 : Int32) (a5 : Int32) (s : cS) (kc ks : Nat) (Q : (cS → Nat → Nat → Prop)) (P32 : (Int32 → Int32 → Int32 → Int32 → Int32 → cS → Nat → Nat → Prop)) : Prop := if a5 < (64 : Int32) then (if a5 < (16 : Int32) then ((C_Ch_md5Block_b139 sa p0 a1 a2 a3 a4 a5 ((a2 &&& a3) ||| ((a2 ^^^ ((-1) : Int32)) &&& a4)) a5 s kc ks Q P32)) else (if a5 < (32 : Int32) then ((C_Ch_md5Block_b139 sa p0 a1 a2 a3 a4 a5 ((a4 &&& a2) ||| ((a4 ^^^ ((-1) : Int32)) &&& a3)) (((5 : Int32) * a5) + (1 : Int32)) s kc ks Q P32)) else (if a5 < (48 : Int32) then ((C_Ch_md5Block_b139 sa p0 a1 a2 a3 a4 a5 ((a2 ^^^ a3) ^^^ a4) (((3 : Int32) * a5) + (5 : Int32)) s kc ks Q P32)) else ((C_Ch_md5Block_b139 sa p0 a1 a2 a3 a4 a5 (a3 ^^^ (a2 ||| (a4 ^^^ ((-1) : Int32)))) ((7 : Int32) * a5) s kc ks Q P32))))) else ((ob (gP s 1 10 p0) (fun v1 => (ob v1 (fun b2 => (ob (rE s .int b2 (0 : Int32)) (fun v3 => (ob (wEi s b2 (0 : Int32) (v3 + a1)) (fun s4 => (ob (gP s4 1 10 p0) (fun v5 => (ob v5 (fun b6 => (ob (rE s4 .int b6 (1 : Int32)) (fun v7 => (ob (wEi s4 b6 (1 : Int32) (v7 + a2)) (fun s8 => (ob (gP s8 1 10 p0) (fun v9 => (ob v9 (fun b10 => (ob (rE s8 .int b10 (2 : Int32)) (fun v11 => (ob (wEi s8 b10 (2 : Int32) (v11 + a3)) (fun s12 => (ob (gP s12 1 10 p0) (fun v13 => (ob v13 (fun b14 => (ob (rE s12 .int b14 (3 : Int32)) (fun v15 => (ob (wEi s12 b14 (3 : Int32) (v15 + a4)) (fun s16 => (Q s16 kc ks))))))))))))))))))))))))))))))))))
def C_Ch_md5Block_b32 (sa : Nat → Nat) (p0 : Nat) (a1 : Int32) (a2 : Int32) (a3 : Int32) (a4 : Int32) (a5 : Int32) (s : cS) (kc ks : Nat) (Q : (cS → Nat → Nat → Prop)) : Prop := ∀ P32 : (Int32 → Int32 → Int32 → Int32 → Int32 → cS → Nat → Nat → Prop), (∀ (a1 : Int32) (a2 : Int32) (a3 : Int32) (a4 : Int32) (a5 : Int32) (s : cS) (kc ks : Nat), C_Ch_md5Block_s32 sa p0 a1 a2 a3 a4 a5 s kc ks Q P32 → P32 a1 a2 a3 a4 a5 s kc ks) → P32 a1 a2 a3 a4 a5 s kc ks
def C_Ch_md5Block (sa : Nat → Nat) (p0 : Nat) (s : cS) (kc ks : Nat) (Q : (cS → Nat → Nat → Prop)) : Prop := ob (gP s 1 10 p0) (fun v1 => (ob v1 (fun b2 => (ob (rE s .int b2 (0 : Int32)) (fun v3 => (ob (gP s 1 10 p0) (fun v4 => (ob v4 (fun b5 => (ob (rE s .int b5 (1 : Int32)) (fun v6 => (ob (gP s 1 10 p0) (fun v7 => (ob v7 (fun b8 => (ob (rE s .int b8 (2 : Int32)) (fun v9 => (ob (gP s 1 10 p0) (fun v10 => (ob v10 (fun b11 => (ob (rE s .int b11 (3 : Int32)) (fun v12 => ((C_Ch_md5Block_b32 sa p0 v3 v6 v9 v12 (0 : Int32) s kc ks Q)))))))))))))))))))))))))
set_option maxRecDepth 100000 in
set_option maxHeartbeats 4000000 in
theorem kc_Ch_md5Block (base : Nat) (sa : Nat → Nat) {R : pmM} {s : cS} {kc ks : Nat} {Rt : pmR} {p0 : Nat} {Q : (cS → Nat → Nat → Prop)} (hw : cW sa R base s) (h : C_Ch_md5Block sa p0 s kc ks Q) (k : ∀ s' kc' ks', cW sa R base s' → Q s' kc' ks' → Rt none (cM R s') kc' ks') : kP_Ch_md5Block base sa [.ref p0] (cM R s) kc ks Rt := by
  refine ⟨Nat.le_of_ble_eq_true rfl, fun G hG => ?_⟩
  have b32 : ∀ (a1 : Int32) (a2 : Int32) (a3 : Int32) (a4 : Int32) (a5 : Int32) (s : cS) (kc ks : Nat), KK sa R base G 32 [(0, va_rf (some p0)), (1, .int a1), (2, .int a2), (3, .int a3), (4, .int a4), (5, .int a5)] [] s kc ks (C_Ch_md5Block_b32 sa p0 a1 a2 a3 a4 a5 s kc ks Q) := by
    have H : ∀ (P32 : (Int32 → Int32 → Int32 → Int32 → Int32 → cS → Nat → Nat → Prop)) (hP32 : ∀ (a1 : Int32) (a2 : Int32) (a3 : Int32) (a4 : Int32) (a5 : Int32) (s : cS) (kc ks : Nat), P32 a1 a2 a3 a4 a5 s kc ks → cW sa R base s → G 32 [(0, va_rf (some p0)), (1, .int a1), (2, .int a2), (3, .int a3), (4, .int a4), (5, .int a5)] [] (cM R s) kc ks) (a1 : Int32) (a2 : Int32) (a3 : Int32) (a4 : Int32) (a5 : Int32) (s : cS) (kc ks : Nat), KK sa R base G 32 [(0, va_rf (some p0)), (1, .int a1), (2, .int a2), (3, .int a3), (4, .int a4), (5, .int a5)] [] s kc ks (C_Ch_md5Block_s32 sa p0 a1 a2 a3 a4 a5 s kc ks Q P32) := by
      intro P32 hP32
      have b139 : ∀ (a1 : Int32) (a2 : Int32) (a3 : Int32) (a4 : Int32) (a5 : Int32) (a6 : Int32) (a7 : Int32) (s : cS) (kc ks : Nat), KK sa R base G 139 [(0, va_rf (some p0)), (1, .int a1), (2, .int a2), (3, .int a3), (4, .int a4), (5, .int a5), (6, .int a6), (7, .int a7)] [] s kc ks (C_Ch_md5Block_b139 sa p0 a1 a2 a3 a4 a5 a6 a7 s kc ks Q P32) := by
        intro a1 a2 a3 a4 a5 a6 a7 s kc ks
        refine kks hG rfl rfl ?_
        refine kks hG rfl rfl ?_
        refine kks hG rfl rfl ?_
        refine kks hG rfl rfl ?_
        refine kks hG rfl rfl ?_
        refine kk_sta hG (a := (sa 1000)) (l := kSin) rfl (fun hw => hw.2.2.1) (fun v1 => ?_)
        refine kks hG rfl rfl ?_
        refine kk_aln hG (x := (some p0)) rfl rfl ?_
        refine kk_gp hG (c := 1) (k := 11) (a := p0) rfl rfl rfl rfl (fun v2 => ?_)
        refine kks hG rfl rfl ?_
        refine kk_bi hG rfl cc_b15 ?_
        refine kks hG rfl rfl ?_
        refine kk_ob (fun b3 eb3 => ?_)
        subst eb3
        refine kk_ia hG (a := b3) rfl (fun v4 => ?_)
        refine kks hG rfl rfl ?_
        refine kk_st hG (L' := [(8, .int (((a1 + a6) + v1) + v4)), (0, va_rf (some p0)), (1, .int a1), (2, .int a2), (3, .int a3), (4, .int a4), (5, .int a5), (6, .int a6), (7, .int a7)]) rfl rfl (Nat.le_of_ble_eq_true rfl) rfl ?_
        refine kks hG rfl rfl ?_
        refine kks hG rfl rfl ?_
        refine kk_ic hG rfl cc_i4 ?_
        refine kks hG rfl rfl ?_
        refine kk_ic hG rfl cc_i2 ?_
        refine kks hG rfl rfl ?_
        refine kks hG rfl rfl ?_
        refine kk_ic hG rfl cc_i3 ?_
        refine kks hG rfl rfl ?_
        refine kks hG rfl rfl ?_
        refine kk_at (pc' := 177) rfl ?_
        refine kk_sta hG (a := (sa 1001)) (l := kTur) rfl (fun hw => hw.2.2.2) (fun v5 => ?_)
        refine kk_st hG (L' := [(9, .int v5), (8, .int (((a1 + a6) + v1) + v4)), (0, va_rf (some p0)), (1, .int a1), (2, .int a2), (3, .int a3), (4, .int a4), (5, .int a5), (6, .int a6), (7, .int a7)]) rfl rfl (Nat.le_of_ble_eq_true rfl) rfl ?_
        refine kks hG rfl rfl ?_
        refine kk_st hG (L' := [(1, .int a4), (9, .int v5), (8, .int (((a1 + a6) + v1) + v4)), (0, va_rf (some p0)), (2, .int a2), (3, .int a3), (4, .int a4), (5, .int a5), (6, .int a6), (7, .int a7)]) rfl rfl (Nat.le_of_ble_eq_true rfl) rfl ?_
        refine kks hG rfl rfl ?_
        refine kk_st hG (L' := [(4, .int a3), (1, .int a4), (9, .int v5), (8, .int (((a1 + a6) + v1) + v4)), (0, va_rf (some p0)), (2, .int a2), (3, .int a3), (5, .int a5), (6, .int a6), (7, .int a7)]) rfl rfl (Nat.le_of_ble_eq_true rfl) rfl ?_
        refine kks hG rfl rfl ?_
        refine kk_st hG (L' := [(3, .int a2), (4, .int a3), (1, .int a4), (9, .int v5), (8, .int (((a1 + a6) + v1) + v4)), (0, va_rf (some p0)), (2, .int a2), (5, .int a5), (6, .int a6), (7, .int a7)]) rfl rfl (Nat.le_of_ble_eq_true rfl) rfl ?_
        refine kks hG rfl rfl ?_
        refine kks hG rfl rfl ?_
        refine kks hG rfl rfl ?_
        refine kks hG rfl rfl ?_
        refine kks hG rfl rfl ?_
        refine kk_at (pc' := 196) rfl ?_
        refine kk_bi hG rfl cc_b32 ?_
        refine kks hG rfl rfl ?_
        refine kks hG rfl rfl ?_
        refine kks hG rfl rfl ?_
        refine kks hG rfl rfl ?_
        refine kks hG rfl rfl ?_
        refine kk_st hG (L' := [(2, .int (a2 + (((((a1 + a6) + v1) + v4) <<< (v5 &&& 31)) ||| (ush_I (((a1 + a6) + v1) + v4) ((32 : Int32) - v5))))), (3, .int a2), (4, .int a3), (1, .int a4), (9, .int v5), (8, .int (((a1 + a6) + v1) + v4)), (0, va_rf (some p0)), (5, .int a5), (6, .int a6), (7, .int a7)]) rfl rfl (Nat.le_of_ble_eq_true rfl) rfl ?_
        refine kk_inc hG (L' := [(5, .int (a5 + (1 : Int32))), (2, .int (a2 + (((((a1 + a6) + v1) + v4) <<< (v5 &&& 31)) ||| (ush_I (((a1 + a6) + v1) + v4) ((32 : Int32) - v5))))), (3, .int a2), (4, .int a3), (1, .int a4), (9, .int v5), (8, .int (((a1 + a6) + v1) + v4)), (0, va_rf (some p0)), (6, .int a6), (7, .int a7)]) rfl (Nat.le_of_ble_eq_true rfl) rfl cc_i1 rfl ?_
        refine kk_go hG (t := 32) rfl rfl ?_
        exact kk_wl hG [7, 4, 1, 2, 3, 0] rfl (fun hw h => hP32 _ _ _ _ _ _ _ _ h hw)
      intro a1 a2 a3 a4 a5 s kc ks
      refine kks hG rfl rfl ?_
      refine kk_bi hG rfl cc_b64 ?_
      refine kk_ige hG (t := 211) rfl rfl ?_ ?_
      · refine kk_aln hG (x := (some p0)) rfl rfl ?_
        refine kk_gp hG (c := 1) (k := 10) (a := p0) rfl rfl rfl rfl (fun v1 => ?_)
        refine kk_ic hG rfl cc_i0 ?_
        refine kk_dup2 hG (x := v1) rfl ?_
        refine kk_ob (fun b2 eb2 => ?_)
        subst eb2
        refine kk_ia hG (a := b2) rfl (fun v3 => ?_)
        refine kks hG rfl rfl ?_
        refine kks hG rfl rfl ?_
        refine kk_is hG (a := b2) rfl (fun s4 => ?_)
        refine kk_aln hG (x := (some p0)) rfl rfl ?_
        refine kk_gp hG (c := 1) (k := 10) (a := p0) rfl rfl rfl rfl (fun v5 => ?_)
        refine kk_ic hG rfl cc_i1 ?_
        refine kk_dup2 hG (x := v5) rfl ?_
        refine kk_ob (fun b6 eb6 => ?_)
        subst eb6
        refine kk_ia hG (a := b6) rfl (fun v7 => ?_)
        refine kks hG rfl rfl ?_
        refine kks hG rfl rfl ?_
        refine kk_is hG (a := b6) rfl (fun s8 => ?_)
        refine kk_aln hG (x := (some p0)) rfl rfl ?_
        refine kk_gp hG (c := 1) (k := 10) (a := p0) rfl rfl rfl rfl (fun v9 => ?_)
        refine kk_ic hG rfl cc_i2 ?_
        refine kk_dup2 hG (x := v9) rfl ?_
        refine kk_ob (fun b10 eb10 => ?_)
        subst eb10
        refine kk_ia hG (a := b10) rfl (fun v11 => ?_)
        refine kks hG rfl rfl ?_
        refine kks hG rfl rfl ?_
        refine kk_is hG (a := b10) rfl (fun s12 => ?_)
        refine kk_aln hG (x := (some p0)) rfl rfl ?_
        refine kk_gp hG (c := 1) (k := 10) (a := p0) rfl rfl rfl rfl (fun v13 => ?_)
        refine kk_ic hG rfl cc_i3 ?_
        refine kk_dup2 hG (x := v13) rfl ?_
        refine kk_ob (fun b14 eb14 => ?_)
        subst eb14
        refine kk_ia hG (a := b14) rfl (fun v15 => ?_)
        refine kks hG rfl rfl ?_
        refine kks hG rfl rfl ?_
        refine kk_is hG (a := b14) rfl (fun s16 => ?_)
        exact kk_rv hG rfl rfl k
      refine kks hG rfl rfl ?_
      refine kk_bi hG rfl cc_b16 ?_
      refine kk_ige hG (t := 65) rfl rfl ?_ ?_
      · refine kks hG rfl rfl ?_
        refine kk_bi hG rfl cc_b32 ?_
        refine kk_ige hG (t := 96) rfl rfl ?_ ?_
        · refine kks hG rfl rfl ?_
          refine kk_bi hG rfl cc_b48 ?_
          refine kk_ige hG (t := 122) rfl rfl ?_ ?_
          · refine kks hG rfl rfl ?_
            refine kks hG rfl rfl ?_
            refine kks hG rfl rfl ?_
            refine kk_ic hG rfl cc_im1 ?_
            refine kks hG rfl rfl ?_
            refine kks hG rfl rfl ?_
            refine kks hG rfl rfl ?_
            refine kk_st hG (L' := [(6, .int (a3 ^^^ (a2 ||| (a4 ^^^ ((-1) : Int32))))), (0, va_rf (some p0)), (1, .int a1), (2, .int a2), (3, .int a3), (4, .int a4), (5, .int a5)]) rfl rfl (Nat.le_of_ble_eq_true rfl) rfl ?_
            refine kk_bi hG rfl cc_b7 ?_
            refine kks hG rfl rfl ?_
            refine kks hG rfl rfl ?_
            refine kk_st hG (L' := [(7, .int ((7 : Int32) * a5)), (6, .int (a3 ^^^ (a2 ||| (a4 ^^^ ((-1) : Int32))))), (0, va_rf (some p0)), (1, .int a1), (2, .int a2), (3, .int a3), (4, .int a4), (5, .int a5)]) rfl rfl (Nat.le_of_ble_eq_true rfl) rfl ?_
            exact kk_wl hG [2, 3, 4, 5, 6, 7, 1, 0] rfl (b139 _ _ _ _ _ _ _ _ _ _)
          refine kks hG rfl rfl ?_
          refine kks hG rfl rfl ?_
          refine kks hG rfl rfl ?_
          refine kks hG rfl rfl ?_
          refine kks hG rfl rfl ?_
          refine kk_st hG (L' := [(6, .int ((a2 ^^^ a3) ^^^ a4)), (0, va_rf (some p0)), (1, .int a1), (2, .int a2), (3, .int a3), (4, .int a4), (5, .int a5)]) rfl rfl (Nat.le_of_ble_eq_true rfl) rfl ?_
          refine kk_ic hG rfl cc_i3 ?_
          refine kks hG rfl rfl ?_
          refine kks hG rfl rfl ?_
          refine kk_ic hG rfl cc_i5 ?_
          refine kks hG rfl rfl ?_
          refine kk_st hG (L' := [(7, .int (((3 : Int32) * a5) + (5 : Int32))), (6, .int ((a2 ^^^ a3) ^^^ a4)), (0, va_rf (some p0)), (1, .int a1), (2, .int a2), (3, .int a3), (4, .int a4), (5, .int a5)]) rfl rfl (Nat.le_of_ble_eq_true rfl) rfl ?_
          refine kk_at (pc' := 119) rfl ?_
          refine kk_go hG (t := 139) rfl rfl ?_
          exact kk_wl hG [2, 3, 4, 5, 6, 7, 1, 0] rfl (b139 _ _ _ _ _ _ _ _ _ _)
        refine kks hG rfl rfl ?_
        refine kks hG rfl rfl ?_
        refine kks hG rfl rfl ?_
        refine kks hG rfl rfl ?_
        refine kk_ic hG rfl cc_im1 ?_
        refine kks hG rfl rfl ?_
        refine kks hG rfl rfl ?_
        refine kks hG rfl rfl ?_
        refine kks hG rfl rfl ?_
        refine kk_st hG (L' := [(6, .int ((a4 &&& a2) ||| ((a4 ^^^ ((-1) : Int32)) &&& a3))), (0, va_rf (some p0)), (1, .int a1), (2, .int a2), (3, .int a3), (4, .int a4), (5, .int a5)]) rfl rfl (Nat.le_of_ble_eq_true rfl) rfl ?_
        refine kk_ic hG rfl cc_i5 ?_
        refine kks hG rfl rfl ?_
        refine kk_at (pc' := 88) rfl ?_
        refine kks hG rfl rfl ?_
        refine kk_ic hG rfl cc_i1 ?_
        refine kks hG rfl rfl ?_
        refine kk_st hG (L' := [(7, .int (((5 : Int32) * a5) + (1 : Int32))), (6, .int ((a4 &&& a2) ||| ((a4 ^^^ ((-1) : Int32)) &&& a3))), (0, va_rf (some p0)), (1, .int a1), (2, .int a2), (3, .int a3), (4, .int a4), (5, .int a5)]) rfl rfl (Nat.le_of_ble_eq_true rfl) rfl ?_
        refine kk_go hG (t := 139) rfl rfl ?_
        exact kk_wl hG [2, 3, 4, 5, 6, 7, 1, 0] rfl (b139 _ _ _ _ _ _ _ _ _ _)
      refine kks hG rfl rfl ?_
      refine kks hG rfl rfl ?_
      refine kks hG rfl rfl ?_
      refine kks hG rfl rfl ?_
      refine kk_ic hG rfl cc_im1 ?_
      refine kks hG rfl rfl ?_
      refine kks hG rfl rfl ?_
      refine kks hG rfl rfl ?_
      refine kks hG rfl rfl ?_
      refine kk_st hG (L' := [(6, .int ((a2 &&& a3) ||| ((a2 ^^^ ((-1) : Int32)) &&& a4))), (0, va_rf (some p0)), (1, .int a1), (2, .int a2), (3, .int a3), (4, .int a4), (5, .int a5)]) rfl rfl (Nat.le_of_ble_eq_true rfl) rfl ?_
      refine kks hG rfl rfl ?_
      refine kk_st hG (L' := [(7, .int a5), (6, .int ((a2 &&& a3) ||| ((a2 ^^^ ((-1) : Int32)) &&& a4))), (0, va_rf (some p0)), (1, .int a1), (2, .int a2), (3, .int a3), (4, .int a4), (5, .int a5)]) rfl rfl (Nat.le_of_ble_eq_true rfl) rfl ?_
      refine kk_at (pc' := 62) rfl ?_
      refine kk_go hG (t := 139) rfl rfl ?_
      exact kk_wl hG [2, 3, 4, 5, 6, 7, 1, 0] rfl (b139 _ _ _ _ _ _ _ _ _ _)
    exact fun a1 a2 a3 a4 a5 s kc ks hw h => h (fun a1 a2 a3 a4 a5 s kc ks => cW sa R base s → G 32 [(0, va_rf (some p0)), (1, .int a1), (2, .int a2), (3, .int a3), (4, .int a4), (5, .int a5)] [] (cM R s) kc ks) (fun a1 a2 a3 a4 a5 s kc ks hs hw => H _ (fun _ _ _ _ _ _ _ _ hp hw => hp hw) a1 a2 a3 a4 a5 s kc ks hw hs) hw
  refine (show KK sa R base G 0 [(0, va_rf (some p0))] [] s kc ks (C_Ch_md5Block sa p0 s kc ks Q) from ?_) hw h
  refine kk_aln hG (x := (some p0)) rfl rfl ?_
  refine kk_gp hG (c := 1) (k := 10) (a := p0) rfl rfl rfl rfl (fun v1 => ?_)
  refine kk_ic hG rfl cc_i0 ?_
  refine kk_ob (fun b2 eb2 => ?_)
  subst eb2
  refine kk_ia hG (a := b2) rfl (fun v3 => ?_)
  refine kk_st hG (L' := [(1, .int v3), (0, va_rf (some p0))]) rfl rfl (Nat.le_of_ble_eq_true rfl) rfl ?_
  refine kk_aln hG (x := (some p0)) rfl rfl ?_
  refine kk_gp hG (c := 1) (k := 10) (a := p0) rfl rfl rfl rfl (fun v4 => ?_)
  refine kk_ic hG rfl cc_i1 ?_
  refine kk_ob (fun b5 eb5 => ?_)
  subst eb5
  refine kk_ia hG (a := b5) rfl (fun v6 => ?_)
  refine kk_st hG (L' := [(2, .int v6), (1, .int v3), (0, va_rf (some p0))]) rfl rfl (Nat.le_of_ble_eq_true rfl) rfl ?_
  refine kk_aln hG (x := (some p0)) rfl rfl ?_
  refine kk_gp hG (c := 1) (k := 10) (a := p0) rfl rfl rfl rfl (fun v7 => ?_)
  refine kk_ic hG rfl cc_i2 ?_
  refine kk_ob (fun b8 eb8 => ?_)
  subst eb8
  refine kk_ia hG (a := b8) rfl (fun v9 => ?_)
  refine kk_st hG (L' := [(3, .int v9), (2, .int v6), (1, .int v3), (0, va_rf (some p0))]) rfl rfl (Nat.le_of_ble_eq_true rfl) rfl ?_
  refine kk_aln hG (x := (some p0)) rfl rfl ?_
  refine kk_gp hG (c := 1) (k := 10) (a := p0) rfl rfl rfl rfl (fun v10 => ?_)
  refine kk_ic hG rfl cc_i3 ?_
  refine kk_ob (fun b11 eb11 => ?_)
  subst eb11
  refine kk_ia hG (a := b11) rfl (fun v12 => ?_)
  refine kk_st hG (L' := [(4, .int v12), (3, .int v9), (2, .int v6), (1, .int v3), (0, va_rf (some p0))]) rfl rfl (Nat.le_of_ble_eq_true rfl) rfl ?_
  refine kk_ic hG rfl cc_i0 ?_
  refine kk_st hG (L' := [(5, .int (0 : Int32)), (4, .int v12), (3, .int v9), (2, .int v6), (1, .int v3), (0, va_rf (some p0))]) rfl rfl (Nat.le_of_ble_eq_true rfl) rfl ?_
  exact kk_wl hG [5, 4, 3, 2, 1, 0] rfl (b32 _ _ _ _ _ _ _ _)
def C_Ch_md5_s19 (sa : Nat → Nat) (p0 : Nat) (a1 : Int32) (a2 : Int32) (s : cS) (kc ks : Nat) (Q : (cS → Nat → Nat → Prop)) (P6 : (Int32 → cS → Nat → Nat → Prop)) (P19 : (Int32 → cS → Nat → Nat → Prop)) : Prop := if a2 < (16 : Int32) then (ob (gP s 1 11 p0) (fun v2 => (ob (gP s 1 8 p0) (fun v3 => (ob v3 (fun b4 => (ob (rE s .byte b4 (a1 + ((4 : Int32) * a2))) (fun v5 => (ob (gP s 1 8 p0) (fun v6 => (ob v6 (fun b7 => (ob (rE s .byte b7 ((a1 + ((4 : Int32) * a2)) + (1 : Int32))) (fun v8 => (ob (gP s 1 8 p0) (fun v9 => (ob v9 (fun b10 => (ob (rE s .byte b10 ((a1 + ((4 : Int32) * a2)) + (2 : Int32))) (fun v11 => (ob (gP s 1 8 p0) (fun v12 => (ob v12 (fun b13 => (ob (rE s .byte b13 ((a1 + ((4 : Int32) * a2)) + (3 : Int32))) (fun v14 => (ob v2 (fun b15 => (ob (wEi s b15 a2 ((((v5 &&& (255 : Int32)) ||| ((v8 &&& (255 : Int32)) <<< ((8 : Int32) &&& 31))) ||| ((v11 &&& (255 : Int32)) <<< ((16 : Int32) &&& 31))) ||| ((v14 &&& (255 : Int32)) <<< ((24 : Int32) &&& 31)))) (fun s16 => ((P19 (a2 + (1 : Int32)) s16 kc ks)))))))))))))))))))))))))))))))) else ((okO s 1 p0 ∧ C_Ch_md5Block sa p0 s kc ks (fun sr1 cr1 dr1 => ((P6 (a1 + (64 : Int32)) sr1 cr1 dr1)))))
def C_Ch_md5_b19 (sa : Nat → Nat) (p0 : Nat) (a1 : Int32) (a2 : Int32) (s : cS) (kc ks : Nat) (Q : (cS → Nat → Nat → Prop)) (P6 : (Int32 → cS → Nat → Nat → Prop)) : Prop := ∀ P19 : (Int32 → cS → Nat → Nat → Prop), (∀ (a2 : Int32) (s : cS) (kc ks : Nat), C_Ch_md5_s19 sa p0 a1 a2 s kc ks Q P6 P19 → P19 a2 s kc ks) → P19 a2 s kc ks
def C_Ch_md5_s6 (sa : Nat → Nat) (p0 : Nat) (a1 : Int32) (s : cS) (kc ks : Nat) (Q : (cS → Nat → Nat → Prop)) (P6 : (Int32 → cS → Nat → Nat → Prop)) : Prop := ob (gI s 1 9 p0) (fun v1 => (if v1 < (a1 + (64 : Int32)) then ((Q s kc ks)) else ((C_Ch_md5_b19 sa p0 a1 (0 : Int32) s kc ks Q P6))))
def C_Ch_md5_b6 (sa : Nat → Nat) (p0 : Nat) (a1 : Int32) (s : cS) (kc ks : Nat) (Q : (cS → Nat → Nat → Prop)) : Prop := ∀ P6 : (Int32 → cS → Nat → Nat → Prop), (∀ (a1 : Int32) (s : cS) (kc ks : Nat), C_Ch_md5_s6 sa p0 a1 s kc ks Q P6 → P6 a1 s kc ks) → P6 a1 s kc ks
def C_Ch_md5 (sa : Nat → Nat) (p0 : Nat) (s : cS) (kc ks : Nat) (Q : (cS → Nat → Nat → Prop)) : Prop := okO s 1 p0 ∧ C_Ch_begin sa p0 s kc ks (fun sr1 cr1 dr1 => ((C_Ch_md5_b6 sa p0 (0 : Int32) sr1 cr1 dr1 Q)))
set_option maxRecDepth 100000 in
set_option maxHeartbeats 4000000 in
theorem kc_Ch_md5 (base : Nat) (sa : Nat → Nat) {R : pmM} {s : cS} {kc ks : Nat} {Rt : pmR} {p0 : Nat} {Q : (cS → Nat → Nat → Prop)} (hw : cW sa R base s) (h : C_Ch_md5 sa p0 s kc ks Q) (k : ∀ s' kc' ks', cW sa R base s' → Q s' kc' ks' → Rt none (cM R s') kc' ks') : kP_Ch_md5 base sa [.ref p0] (cM R s) kc ks Rt := by
  refine ⟨Nat.le_of_ble_eq_true rfl, fun G hG => ?_⟩
  have b6 : ∀ (a1 : Int32) (s : cS) (kc ks : Nat), KK sa R base G 6 [(0, va_rf (some p0)), (1, .int a1)] [] s kc ks (C_Ch_md5_b6 sa p0 a1 s kc ks Q) := by
    have H : ∀ (P6 : (Int32 → cS → Nat → Nat → Prop)) (hP6 : ∀ (a1 : Int32) (s : cS) (kc ks : Nat), P6 a1 s kc ks → cW sa R base s → G 6 [(0, va_rf (some p0)), (1, .int a1)] [] (cM R s) kc ks) (a1 : Int32) (s : cS) (kc ks : Nat), KK sa R base G 6 [(0, va_rf (some p0)), (1, .int a1)] [] s kc ks (C_Ch_md5_s6 sa p0 a1 s kc ks Q P6) := by
      intro P6 hP6
      have b19 : ∀ (a1 : Int32) (a2 : Int32) (s : cS) (kc ks : Nat), KK sa R base G 19 [(0, va_rf (some p0)), (1, .int a1), (2, .int a2)] [] s kc ks (C_Ch_md5_b19 sa p0 a1 a2 s kc ks Q P6) := by
        intro a1
        have H : ∀ (P19 : (Int32 → cS → Nat → Nat → Prop)) (hP19 : ∀ (a2 : Int32) (s : cS) (kc ks : Nat), P19 a2 s kc ks → cW sa R base s → G 19 [(0, va_rf (some p0)), (1, .int a1), (2, .int a2)] [] (cM R s) kc ks) (a2 : Int32) (s : cS) (kc ks : Nat), KK sa R base G 19 [(0, va_rf (some p0)), (1, .int a1), (2, .int a2)] [] s kc ks (C_Ch_md5_s19 sa p0 a1 a2 s kc ks Q P6 P19) := by
          intro P19 hP19
          intro a2 s kc ks
          refine kks hG rfl rfl ?_
          refine kk_bi hG rfl cc_b16 ?_
          refine kk_ige hG (t := 101) rfl rfl ?_ ?_
          · refine kk_aln hG (x := (some p0)) rfl rfl ?_
            refine kk_cv hG 0 rfl rfl (Nat.le_of_ble_eq_true rfl) (by decide) rfl (st' := []) rfl (cats_le (Nat.le_of_ble_eq_true rfl)) (fun _ hw h k => kk_rcv h.1 (kc_Ch_md5Block base sa hw h.2 k)) (fun sr1 cr1 dr1 => ?_)
            refine kk_inc hG (L' := [(1, .int (a1 + (64 : Int32))), (0, va_rf (some p0)), (2, .int a2)]) rfl (Nat.le_of_ble_eq_true rfl) rfl cc_i64 rfl ?_
            refine kk_go hG (t := 6) rfl rfl ?_
            exact kk_wl hG [1, 0] rfl (fun hw h => hP6 _ _ _ _ h hw)
          refine kks hG rfl rfl ?_
          refine kk_ic hG rfl cc_i4 ?_
          refine kks hG rfl rfl ?_
          refine kks hG rfl rfl ?_
          refine kks hG rfl rfl ?_
          refine kk_st hG (L' := [(3, .int (a1 + ((4 : Int32) * a2))), (0, va_rf (some p0)), (1, .int a1), (2, .int a2)]) rfl rfl (Nat.le_of_ble_eq_true rfl) rfl ?_
          refine kk_aln hG (x := (some p0)) rfl rfl ?_
          refine kk_gp hG (c := 1) (k := 11) (a := p0) rfl rfl rfl rfl (fun v2 => ?_)
          refine kks hG rfl rfl ?_
          refine kk_aln hG (x := (some p0)) rfl rfl ?_
          refine kk_gp hG (c := 1) (k := 8) (a := p0) rfl rfl rfl rfl (fun v3 => ?_)
          refine kks hG rfl rfl ?_
          refine kk_ob (fun b4 eb4 => ?_)
          subst eb4
          refine kk_ba hG (a := b4) rfl (fun v5 => ?_)
          refine kk_si hG rfl cc_s255 ?_
          refine kks hG rfl rfl ?_
          refine kk_aln hG (x := (some p0)) rfl rfl ?_
          refine kk_gp hG (c := 1) (k := 8) (a := p0) rfl rfl rfl rfl (fun v6 => ?_)
          refine kks hG rfl rfl ?_
          refine kk_ic hG rfl cc_i1 ?_
          refine kks hG rfl rfl ?_
          refine kk_ob (fun b7 eb7 => ?_)
          subst eb7
          refine kk_ba hG (a := b7) rfl (fun v8 => ?_)
          refine kk_si hG rfl cc_s255 ?_
          refine kks hG rfl rfl ?_
          refine kk_bi hG rfl cc_b8 ?_
          refine kks hG rfl rfl ?_
          refine kks hG rfl rfl ?_
          refine kk_aln hG (x := (some p0)) rfl rfl ?_
          refine kk_gp hG (c := 1) (k := 8) (a := p0) rfl rfl rfl rfl (fun v9 => ?_)
          refine kks hG rfl rfl ?_
          refine kk_ic hG rfl cc_i2 ?_
          refine kks hG rfl rfl ?_
          refine kk_ob (fun b10 eb10 => ?_)
          subst eb10
          refine kk_ba hG (a := b10) rfl (fun v11 => ?_)
          refine kk_si hG rfl cc_s255 ?_
          refine kks hG rfl rfl ?_
          refine kk_bi hG rfl cc_b16 ?_
          refine kks hG rfl rfl ?_
          refine kks hG rfl rfl ?_
          refine kk_aln hG (x := (some p0)) rfl rfl ?_
          refine kk_gp hG (c := 1) (k := 8) (a := p0) rfl rfl rfl rfl (fun v12 => ?_)
          refine kks hG rfl rfl ?_
          refine kk_ic hG rfl cc_i3 ?_
          refine kks hG rfl rfl ?_
          refine kk_ob (fun b13 eb13 => ?_)
          subst eb13
          refine kk_ba hG (a := b13) rfl (fun v14 => ?_)
          refine kk_si hG rfl cc_s255 ?_
          refine kks hG rfl rfl ?_
          refine kk_bi hG rfl cc_b24 ?_
          refine kks hG rfl rfl ?_
          refine kks hG rfl rfl ?_
          refine kk_ob (fun b15 eb15 => ?_)
          subst eb15
          refine kk_is hG (a := b15) rfl (fun s16 => ?_)
          refine kk_inc hG (L' := [(2, .int (a2 + (1 : Int32))), (3, .int (a1 + ((4 : Int32) * a2))), (0, va_rf (some p0)), (1, .int a1)]) rfl (Nat.le_of_ble_eq_true rfl) rfl cc_i1 rfl ?_
          refine kk_go hG (t := 19) rfl rfl ?_
          exact kk_wl hG [2, 3, 0] rfl (fun hw h => hP19 _ _ _ _ h hw)
        exact fun a2 s kc ks hw h => h (fun a2 s kc ks => cW sa R base s → G 19 [(0, va_rf (some p0)), (1, .int a1), (2, .int a2)] [] (cM R s) kc ks) (fun a2 s kc ks hs hw => H _ (fun _ _ _ _ hp hw => hp hw) a2 s kc ks hw hs) hw
      intro a1 s kc ks
      refine kks hG rfl rfl ?_
      refine kk_bi hG rfl cc_b64 ?_
      refine kks hG rfl rfl ?_
      refine kk_aln hG (x := (some p0)) rfl rfl ?_
      refine kk_gi hG (c := 1) (k := 9) (a := p0) rfl rfl rfl rfl (fun v1 => ?_)
      refine kk_igt hG (t := 111) rfl rfl ?_ ?_
      · exact kk_rv hG rfl rfl k
      refine kk_ic hG rfl cc_i0 ?_
      refine kk_st hG (L' := [(2, .int (0 : Int32)), (0, va_rf (some p0)), (1, .int a1)]) rfl rfl (Nat.le_of_ble_eq_true rfl) rfl ?_
      exact kk_wl hG [1, 2, 0] rfl (b19 _ _ _ _ _)
    exact fun a1 s kc ks hw h => h (fun a1 s kc ks => cW sa R base s → G 6 [(0, va_rf (some p0)), (1, .int a1)] [] (cM R s) kc ks) (fun a1 s kc ks hs hw => H _ (fun _ _ _ _ hp hw => hp hw) a1 s kc ks hw hs) hw
  refine (show KK sa R base G 0 [(0, va_rf (some p0))] [] s kc ks (C_Ch_md5 sa p0 s kc ks Q) from ?_) hw h
  refine kk_aln hG (x := (some p0)) rfl rfl ?_
  refine kk_cv hG 0 rfl rfl (Nat.le_of_ble_eq_true rfl) (by decide) rfl (st' := []) rfl (cats_le (Nat.le_of_ble_eq_true rfl)) (fun _ hw h k => kk_rcv h.1 (kc_Ch_begin base sa hw h.2 k)) (fun sr1 cr1 dr1 => ?_)
  refine kk_ic hG rfl cc_i0 ?_
  refine kk_st hG (L' := [(1, .int (0 : Int32)), (0, va_rf (some p0))]) rfl rfl (Nat.le_of_ble_eq_true rfl) rfl ?_
  exact kk_wl hG [1, 0] rfl (b6 _ _ _ _)
def C_Ch_shaBlock_b132 (sa : Nat → Nat) (p0 : Nat) (a1 : Int32) (a2 : Int32) (a3 : Int32) (a4 : Int32) (a5 : Int32) (a6 : Int32) (a7 : Int32) (s : cS) (kc ks : Nat) (Q : (cS → Nat → Nat → Prop)) (P40 : (Int32 → Int32 → Int32 → Int32 → Int32 → Int32 → cS → Nat → Nat → Prop)) : Prop := ob (gP s 1 11 p0) (fun v1 => (ob v1 (fun b2 => (ob (rE s .int b2 a6) (fun v3 => ((P40 (((((a1 <<< ((5 : Int32) &&& 31)) ||| (ush_I a1 (27 : Int32))) + a7) + a5) + v3) a1 ((a2 <<< ((30 : Int32) &&& 31)) ||| (ush_I a2 (2 : Int32))) a3 a4 (a6 + (1 : Int32)) s kc ks)))))))
def C_Ch_shaBlock_s40 (sa : Nat → Nat) (p0 : Nat) (a1 : Int32) (a2 : Int32) (a3 : Int32) (a4 : Int32) (a5 : Int32) (a6 : Int32) (s : cS) (kc ks : Nat) (Q : (cS → Nat → Nat → Prop)) (P40 : (Int32 → Int32 → Int32 → Int32 → Int32 → Int32 → cS → Nat → Nat → Prop)) : Prop := if a6 < (80 : Int32) then (if a6 < (20 : Int32) then ((C_Ch_shaBlock_b132 sa p0 a1 a2 a3 a4 a5 a6 (((a2 &&& a3) ||| ((a2 ^^^ ((-1) : Int32)) &&& a4)) + (1518500249 : Int32)) s kc ks Q P40)) else (if a6 < (40 : Int32) then ((C_Ch_shaBlock_b132 sa p0 a1 a2 a3 a4 a5 a6 (((a2 ^^^ a3) ^^^ a4) + (1859775393 : Int32)) s kc ks Q P40)) else (if a6 < (60 : Int32) then ((C_Ch_shaBlock_b132 sa p0 a1 a2 a3 a4 a5 a6 ((((a2 &&& a3) ||| (a2 &&& a4)) ||| (a3 &&& a4)) + ((-1894007588) : Int32)) s kc ks Q P40)) else ((C_Ch_shaBlock_b132 sa p0 a1 a2 a3 a4 a5 a6 (((a2 ^^^ a3) ^^^ a4) + ((-899497514) : Int32)) s kc ks Q P40))))) else ((ob (gP s 1 10 p0) (fun v1 => (ob v1 (fun b2 => (ob (rE s .int b2 (0 : Int32)) (fun v3 => (ob (wEi s b2 (0 : Int32) (v3 + a1)) (fun s4 => (ob (gP s4 1 10 p0) (fun v5 => (ob v5 (fun b6 => (ob (rE s4 .int b6 (1 : Int32)) (fun v7 => (ob (wEi s4 b6 (1 : Int32) (v7 + a2)) (fun s8 => (ob (gP s8 1 10 p0) (fun v9 => (ob v9 (fun b10 => (ob (rE s8 .int b10 (2 : Int32)) (fun v11 => (ob (wEi s8 b10 (2 : Int32) (v11 + a3)) (fun s12 => (ob (gP s12 1 10 p0) (fun v13 => (ob v13 (fun b14 => (ob (rE s12 .int b14 (3 : Int32)) (fun v15 => (ob (wEi s12 b14 (3 : Int32) (v15 + a4)) (fun s16 => (ob (gP s16 1 10 p0) (fun v17 => (ob v17 (fun b18 => (ob (rE s16 .int b18 (4 : Int32)) (fun v19 => (ob (wEi s16 b18 (4 : Int32) (v19 + a5)) (fun s20 => (Q s20 kc ks))))))))))))))))))))))))))))))))))))))))))
def C_Ch_shaBlock_b40 (sa : Nat → Nat) (p0 : Nat) (a1 : Int32) (a2 : Int32) (a3 : Int32) (a4 : Int32) (a5 : Int32) (a6 : Int32) (s : cS) (kc ks : Nat) (Q : (cS → Nat → Nat → Prop)) : Prop := ∀ P40 : (Int32 → Int32 → Int32 → Int32 → Int32 → Int32 → cS → Nat → Nat → Prop), (∀ (a1 : Int32) (a2 : Int32) (a3 : Int32) (a4 : Int32) (a5 : Int32) (a6 : Int32) (s : cS) (kc ks : Nat), C_Ch_shaBlock_s40 sa p0 a1 a2 a3 a4 a5 a6 s kc ks Q P40 → P40 a1 a2 a3 a4 a5 a6 s kc ks) → P40 a1 a2 a3 a4 a5 a6 s kc ks
def C_Ch_shaBlock (sa : Nat → Nat) (p0 : Nat) (s : cS) (kc ks : Nat) (Q : (cS → Nat → Nat → Prop)) : Prop := ob (gP s 1 10 p0) (fun v1 => (ob v1 (fun b2 => (ob (rE s .int b2 (0 : Int32)) (fun v3 => (ob (gP s 1 10 p0) (fun v4 => (ob v4 (fun b5 => (ob (rE s .int b5 (1 : Int32)) (fun v6 => (ob (gP s 1 10 p0) (fun v7 => (ob v7 (fun b8 => (ob (rE s .int b8 (2 : Int32)) (fun v9 => (ob (gP s 1 10 p0) (fun v10 => (ob v10 (fun b11 => (ob (rE s .int b11 (3 : Int32)) (fun v12 => (ob (gP s 1 10 p0) (fun v13 => (ob v13 (fun b14 => (ob (rE s .int b14 (4 : Int32)) (fun v15 => ((C_Ch_shaBlock_b40 sa p0 v3 v6 v9 v12 v15 (0 : Int32) s kc ks Q)))))))))))))))))))))))))))))))
set_option maxRecDepth 100000 in
set_option maxHeartbeats 4000000 in
theorem kc_Ch_shaBlock (base : Nat) (sa : Nat → Nat) {R : pmM} {s : cS} {kc ks : Nat} {Rt : pmR} {p0 : Nat} {Q : (cS → Nat → Nat → Prop)} (hw : cW sa R base s) (h : C_Ch_shaBlock sa p0 s kc ks Q) (k : ∀ s' kc' ks', cW sa R base s' → Q s' kc' ks' → Rt none (cM R s') kc' ks') : kP_Ch_shaBlock base sa [.ref p0] (cM R s) kc ks Rt := by
  refine ⟨Nat.le_of_ble_eq_true rfl, fun G hG => ?_⟩
  have b40 : ∀ (a1 : Int32) (a2 : Int32) (a3 : Int32) (a4 : Int32) (a5 : Int32) (a6 : Int32) (s : cS) (kc ks : Nat), KK sa R base G 40 [(0, va_rf (some p0)), (1, .int a1), (2, .int a2), (3, .int a3), (4, .int a4), (5, .int a5), (6, .int a6)] [] s kc ks (C_Ch_shaBlock_b40 sa p0 a1 a2 a3 a4 a5 a6 s kc ks Q) := by
    have H : ∀ (P40 : (Int32 → Int32 → Int32 → Int32 → Int32 → Int32 → cS → Nat → Nat → Prop)) (hP40 : ∀ (a1 : Int32) (a2 : Int32) (a3 : Int32) (a4 : Int32) (a5 : Int32) (a6 : Int32) (s : cS) (kc ks : Nat), P40 a1 a2 a3 a4 a5 a6 s kc ks → cW sa R base s → G 40 [(0, va_rf (some p0)), (1, .int a1), (2, .int a2), (3, .int a3), (4, .int a4), (5, .int a5), (6, .int a6)] [] (cM R s) kc ks) (a1 : Int32) (a2 : Int32) (a3 : Int32) (a4 : Int32) (a5 : Int32) (a6 : Int32) (s : cS) (kc ks : Nat), KK sa R base G 40 [(0, va_rf (some p0)), (1, .int a1), (2, .int a2), (3, .int a3), (4, .int a4), (5, .int a5), (6, .int a6)] [] s kc ks (C_Ch_shaBlock_s40 sa p0 a1 a2 a3 a4 a5 a6 s kc ks Q P40) := by
      intro P40 hP40
      have b132 : ∀ (a1 : Int32) (a2 : Int32) (a3 : Int32) (a4 : Int32) (a5 : Int32) (a6 : Int32) (a7 : Int32) (s : cS) (kc ks : Nat), KK sa R base G 132 [(0, va_rf (some p0)), (1, .int a1), (2, .int a2), (3, .int a3), (4, .int a4), (5, .int a5), (6, .int a6), (7, .int a7)] [] s kc ks (C_Ch_shaBlock_b132 sa p0 a1 a2 a3 a4 a5 a6 a7 s kc ks Q P40) := by
        intro a1 a2 a3 a4 a5 a6 a7 s kc ks
        refine kks hG rfl rfl ?_
        refine kk_ic hG rfl cc_i5 ?_
        refine kks hG rfl rfl ?_
        refine kks hG rfl rfl ?_
        refine kk_bi hG rfl cc_b27 ?_
        refine kks hG rfl rfl ?_
        refine kks hG rfl rfl ?_
        refine kks hG rfl rfl ?_
        refine kks hG rfl rfl ?_
        refine kks hG rfl rfl ?_
        refine kks hG rfl rfl ?_
        refine kk_aln hG (x := (some p0)) rfl rfl ?_
        refine kk_at (pc' := 147) rfl ?_
        refine kk_gp hG (c := 1) (k := 11) (a := p0) rfl rfl rfl rfl (fun v1 => ?_)
        refine kks hG rfl rfl ?_
        refine kk_ob (fun b2 eb2 => ?_)
        subst eb2
        refine kk_ia hG (a := b2) rfl (fun v3 => ?_)
        refine kks hG rfl rfl ?_
        refine kk_st hG (L' := [(8, .int (((((a1 <<< ((5 : Int32) &&& 31)) ||| (ush_I a1 (27 : Int32))) + a7) + a5) + v3)), (0, va_rf (some p0)), (1, .int a1), (2, .int a2), (3, .int a3), (4, .int a4), (5, .int a5), (6, .int a6), (7, .int a7)]) rfl rfl (Nat.le_of_ble_eq_true rfl) rfl ?_
        refine kks hG rfl rfl ?_
        refine kk_st hG (L' := [(5, .int a4), (8, .int (((((a1 <<< ((5 : Int32) &&& 31)) ||| (ush_I a1 (27 : Int32))) + a7) + a5) + v3)), (0, va_rf (some p0)), (1, .int a1), (2, .int a2), (3, .int a3), (4, .int a4), (6, .int a6), (7, .int a7)]) rfl rfl (Nat.le_of_ble_eq_true rfl) rfl ?_
        refine kks hG rfl rfl ?_
        refine kk_st hG (L' := [(4, .int a3), (5, .int a4), (8, .int (((((a1 <<< ((5 : Int32) &&& 31)) ||| (ush_I a1 (27 : Int32))) + a7) + a5) + v3)), (0, va_rf (some p0)), (1, .int a1), (2, .int a2), (3, .int a3), (6, .int a6), (7, .int a7)]) rfl rfl (Nat.le_of_ble_eq_true rfl) rfl ?_
        refine kks hG rfl rfl ?_
        refine kk_bi hG rfl cc_b30 ?_
        refine kks hG rfl rfl ?_
        refine kks hG rfl rfl ?_
        refine kk_ic hG rfl cc_i2 ?_
        refine kks hG rfl rfl ?_
        refine kk_at (pc' := 170) rfl ?_
        refine kks hG rfl rfl ?_
        refine kk_st hG (L' := [(3, .int ((a2 <<< ((30 : Int32) &&& 31)) ||| (ush_I a2 (2 : Int32)))), (4, .int a3), (5, .int a4), (8, .int (((((a1 <<< ((5 : Int32) &&& 31)) ||| (ush_I a1 (27 : Int32))) + a7) + a5) + v3)), (0, va_rf (some p0)), (1, .int a1), (2, .int a2), (6, .int a6), (7, .int a7)]) rfl rfl (Nat.le_of_ble_eq_true rfl) rfl ?_
        refine kks hG rfl rfl ?_
        refine kk_st hG (L' := [(2, .int a1), (3, .int ((a2 <<< ((30 : Int32) &&& 31)) ||| (ush_I a2 (2 : Int32)))), (4, .int a3), (5, .int a4), (8, .int (((((a1 <<< ((5 : Int32) &&& 31)) ||| (ush_I a1 (27 : Int32))) + a7) + a5) + v3)), (0, va_rf (some p0)), (1, .int a1), (6, .int a6), (7, .int a7)]) rfl rfl (Nat.le_of_ble_eq_true rfl) rfl ?_
        refine kks hG rfl rfl ?_
        refine kk_st hG (L' := [(1, .int (((((a1 <<< ((5 : Int32) &&& 31)) ||| (ush_I a1 (27 : Int32))) + a7) + a5) + v3)), (2, .int a1), (3, .int ((a2 <<< ((30 : Int32) &&& 31)) ||| (ush_I a2 (2 : Int32)))), (4, .int a3), (5, .int a4), (8, .int (((((a1 <<< ((5 : Int32) &&& 31)) ||| (ush_I a1 (27 : Int32))) + a7) + a5) + v3)), (0, va_rf (some p0)), (6, .int a6), (7, .int a7)]) rfl rfl (Nat.le_of_ble_eq_true rfl) rfl ?_
        refine kk_inc hG (L' := [(6, .int (a6 + (1 : Int32))), (1, .int (((((a1 <<< ((5 : Int32) &&& 31)) ||| (ush_I a1 (27 : Int32))) + a7) + a5) + v3)), (2, .int a1), (3, .int ((a2 <<< ((30 : Int32) &&& 31)) ||| (ush_I a2 (2 : Int32)))), (4, .int a3), (5, .int a4), (8, .int (((((a1 <<< ((5 : Int32) &&& 31)) ||| (ush_I a1 (27 : Int32))) + a7) + a5) + v3)), (0, va_rf (some p0)), (7, .int a7)]) rfl (Nat.le_of_ble_eq_true rfl) rfl cc_i1 rfl ?_
        refine kk_go hG (t := 40) rfl rfl ?_
        exact kk_wl hG [7, 1, 2, 3, 4, 5, 0] rfl (fun hw h => hP40 _ _ _ _ _ _ _ _ _ h hw)
      intro a1 a2 a3 a4 a5 a6 s kc ks
      refine kks hG rfl rfl ?_
      refine kk_bi hG rfl cc_b80 ?_
      refine kk_ige hG (t := 183) rfl rfl ?_ ?_
      · refine kk_aln hG (x := (some p0)) rfl rfl ?_
        refine kk_gp hG (c := 1) (k := 10) (a := p0) rfl rfl rfl rfl (fun v1 => ?_)
        refine kk_ic hG rfl cc_i0 ?_
        refine kk_dup2 hG (x := v1) rfl ?_
        refine kk_ob (fun b2 eb2 => ?_)
        subst eb2
        refine kk_ia hG (a := b2) rfl (fun v3 => ?_)
        refine kks hG rfl rfl ?_
        refine kks hG rfl rfl ?_
        refine kk_is hG (a := b2) rfl (fun s4 => ?_)
        refine kk_aln hG (x := (some p0)) rfl rfl ?_
        refine kk_gp hG (c := 1) (k := 10) (a := p0) rfl rfl rfl rfl (fun v5 => ?_)
        refine kk_ic hG rfl cc_i1 ?_
        refine kk_dup2 hG (x := v5) rfl ?_
        refine kk_ob (fun b6 eb6 => ?_)
        subst eb6
        refine kk_ia hG (a := b6) rfl (fun v7 => ?_)
        refine kks hG rfl rfl ?_
        refine kks hG rfl rfl ?_
        refine kk_is hG (a := b6) rfl (fun s8 => ?_)
        refine kk_aln hG (x := (some p0)) rfl rfl ?_
        refine kk_gp hG (c := 1) (k := 10) (a := p0) rfl rfl rfl rfl (fun v9 => ?_)
        refine kk_ic hG rfl cc_i2 ?_
        refine kk_dup2 hG (x := v9) rfl ?_
        refine kk_ob (fun b10 eb10 => ?_)
        subst eb10
        refine kk_ia hG (a := b10) rfl (fun v11 => ?_)
        refine kks hG rfl rfl ?_
        refine kks hG rfl rfl ?_
        refine kk_is hG (a := b10) rfl (fun s12 => ?_)
        refine kk_aln hG (x := (some p0)) rfl rfl ?_
        refine kk_gp hG (c := 1) (k := 10) (a := p0) rfl rfl rfl rfl (fun v13 => ?_)
        refine kk_ic hG rfl cc_i3 ?_
        refine kk_dup2 hG (x := v13) rfl ?_
        refine kk_ob (fun b14 eb14 => ?_)
        subst eb14
        refine kk_ia hG (a := b14) rfl (fun v15 => ?_)
        refine kks hG rfl rfl ?_
        refine kks hG rfl rfl ?_
        refine kk_is hG (a := b14) rfl (fun s16 => ?_)
        refine kk_aln hG (x := (some p0)) rfl rfl ?_
        refine kk_gp hG (c := 1) (k := 10) (a := p0) rfl rfl rfl rfl (fun v17 => ?_)
        refine kk_ic hG rfl cc_i4 ?_
        refine kk_dup2 hG (x := v17) rfl ?_
        refine kk_ob (fun b18 eb18 => ?_)
        subst eb18
        refine kk_ia hG (a := b18) rfl (fun v19 => ?_)
        refine kks hG rfl rfl ?_
        refine kks hG rfl rfl ?_
        refine kk_is hG (a := b18) rfl (fun s20 => ?_)
        exact kk_rv hG rfl rfl k
      refine kks hG rfl rfl ?_
      refine kk_bi hG rfl cc_b20 ?_
      refine kk_ige hG (t := 72) rfl rfl ?_ ?_
      · refine kks hG rfl rfl ?_
        refine kk_bi hG rfl cc_b40 ?_
        refine kk_ige hG (t := 93) rfl rfl ?_ ?_
        · refine kks hG rfl rfl ?_
          refine kk_bi hG rfl cc_b60 ?_
          refine kk_ige hG (t := 121) rfl rfl ?_ ?_
          · refine kks hG rfl rfl ?_
            refine kks hG rfl rfl ?_
            refine kks hG rfl rfl ?_
            refine kks hG rfl rfl ?_
            refine kks hG rfl rfl ?_
            refine kk_ld hG (v := ((-899497514) : Int32)) rfl rfl ?_
            refine kks hG rfl rfl ?_
            refine kk_st hG (L' := [(7, .int (((a2 ^^^ a3) ^^^ a4) + ((-899497514) : Int32))), (0, va_rf (some p0)), (1, .int a1), (2, .int a2), (3, .int a3), (4, .int a4), (5, .int a5), (6, .int a6)]) rfl rfl (Nat.le_of_ble_eq_true rfl) rfl ?_
            exact kk_wl hG [1, 2, 3, 4, 5, 6, 7, 0] rfl (b132 _ _ _ _ _ _ _ _ _ _)
          refine kks hG rfl rfl ?_
          refine kks hG rfl rfl ?_
          refine kks hG rfl rfl ?_
          refine kks hG rfl rfl ?_
          refine kks hG rfl rfl ?_
          refine kks hG rfl rfl ?_
          refine kks hG rfl rfl ?_
          refine kks hG rfl rfl ?_
          refine kks hG rfl rfl ?_
          refine kks hG rfl rfl ?_
          refine kks hG rfl rfl ?_
          refine kk_ld hG (v := ((-1894007588) : Int32)) rfl rfl ?_
          refine kk_at (pc' := 115) rfl ?_
          refine kks hG rfl rfl ?_
          refine kk_st hG (L' := [(7, .int ((((a2 &&& a3) ||| (a2 &&& a4)) ||| (a3 &&& a4)) + ((-1894007588) : Int32))), (0, va_rf (some p0)), (1, .int a1), (2, .int a2), (3, .int a3), (4, .int a4), (5, .int a5), (6, .int a6)]) rfl rfl (Nat.le_of_ble_eq_true rfl) rfl ?_
          refine kk_go hG (t := 132) rfl rfl ?_
          exact kk_wl hG [1, 2, 3, 4, 5, 6, 7, 0] rfl (b132 _ _ _ _ _ _ _ _ _ _)
        refine kks hG rfl rfl ?_
        refine kks hG rfl rfl ?_
        refine kks hG rfl rfl ?_
        refine kks hG rfl rfl ?_
        refine kks hG rfl rfl ?_
        refine kk_ld hG (v := (1859775393 : Int32)) rfl rfl ?_
        refine kks hG rfl rfl ?_
        refine kk_st hG (L' := [(7, .int (((a2 ^^^ a3) ^^^ a4) + (1859775393 : Int32))), (0, va_rf (some p0)), (1, .int a1), (2, .int a2), (3, .int a3), (4, .int a4), (5, .int a5), (6, .int a6)]) rfl rfl (Nat.le_of_ble_eq_true rfl) rfl ?_
        refine kk_go hG (t := 132) rfl rfl ?_
        exact kk_wl hG [1, 2, 3, 4, 5, 6, 7, 0] rfl (b132 _ _ _ _ _ _ _ _ _ _)
      refine kks hG rfl rfl ?_
      refine kks hG rfl rfl ?_
      refine kks hG rfl rfl ?_
      refine kks hG rfl rfl ?_
      refine kk_ic hG rfl cc_im1 ?_
      refine kks hG rfl rfl ?_
      refine kks hG rfl rfl ?_
      refine kks hG rfl rfl ?_
      refine kks hG rfl rfl ?_
      refine kk_ld hG (v := (1518500249 : Int32)) rfl rfl ?_
      refine kks hG rfl rfl ?_
      refine kk_st hG (L' := [(7, .int (((a2 &&& a3) ||| ((a2 ^^^ ((-1) : Int32)) &&& a4)) + (1518500249 : Int32))), (0, va_rf (some p0)), (1, .int a1), (2, .int a2), (3, .int a3), (4, .int a4), (5, .int a5), (6, .int a6)]) rfl rfl (Nat.le_of_ble_eq_true rfl) rfl ?_
      refine kk_at (pc' := 69) rfl ?_
      refine kk_go hG (t := 132) rfl rfl ?_
      exact kk_wl hG [1, 2, 3, 4, 5, 6, 7, 0] rfl (b132 _ _ _ _ _ _ _ _ _ _)
    exact fun a1 a2 a3 a4 a5 a6 s kc ks hw h => h (fun a1 a2 a3 a4 a5 a6 s kc ks => cW sa R base s → G 40 [(0, va_rf (some p0)), (1, .int a1), (2, .int a2), (3, .int a3), (4, .int a4), (5, .int a5), (6, .int a6)] [] (cM R s) kc ks) (fun a1 a2 a3 a4 a5 a6 s kc ks hs hw => H _ (fun _ _ _ _ _ _ _ _ _ hp hw => hp hw) a1 a2 a3 a4 a5 a6 s kc ks hw hs) hw
  refine (show KK sa R base G 0 [(0, va_rf (some p0))] [] s kc ks (C_Ch_shaBlock sa p0 s kc ks Q) from ?_) hw h
  refine kk_aln hG (x := (some p0)) rfl rfl ?_
  refine kk_gp hG (c := 1) (k := 10) (a := p0) rfl rfl rfl rfl (fun v1 => ?_)
  refine kk_ic hG rfl cc_i0 ?_
  refine kk_ob (fun b2 eb2 => ?_)
  subst eb2
  refine kk_ia hG (a := b2) rfl (fun v3 => ?_)
  refine kk_st hG (L' := [(1, .int v3), (0, va_rf (some p0))]) rfl rfl (Nat.le_of_ble_eq_true rfl) rfl ?_
  refine kk_aln hG (x := (some p0)) rfl rfl ?_
  refine kk_gp hG (c := 1) (k := 10) (a := p0) rfl rfl rfl rfl (fun v4 => ?_)
  refine kk_ic hG rfl cc_i1 ?_
  refine kk_ob (fun b5 eb5 => ?_)
  subst eb5
  refine kk_ia hG (a := b5) rfl (fun v6 => ?_)
  refine kk_st hG (L' := [(2, .int v6), (1, .int v3), (0, va_rf (some p0))]) rfl rfl (Nat.le_of_ble_eq_true rfl) rfl ?_
  refine kk_aln hG (x := (some p0)) rfl rfl ?_
  refine kk_gp hG (c := 1) (k := 10) (a := p0) rfl rfl rfl rfl (fun v7 => ?_)
  refine kk_ic hG rfl cc_i2 ?_
  refine kk_ob (fun b8 eb8 => ?_)
  subst eb8
  refine kk_ia hG (a := b8) rfl (fun v9 => ?_)
  refine kk_st hG (L' := [(3, .int v9), (2, .int v6), (1, .int v3), (0, va_rf (some p0))]) rfl rfl (Nat.le_of_ble_eq_true rfl) rfl ?_
  refine kk_aln hG (x := (some p0)) rfl rfl ?_
  refine kk_gp hG (c := 1) (k := 10) (a := p0) rfl rfl rfl rfl (fun v10 => ?_)
  refine kk_ic hG rfl cc_i3 ?_
  refine kk_ob (fun b11 eb11 => ?_)
  subst eb11
  refine kk_ia hG (a := b11) rfl (fun v12 => ?_)
  refine kk_st hG (L' := [(4, .int v12), (3, .int v9), (2, .int v6), (1, .int v3), (0, va_rf (some p0))]) rfl rfl (Nat.le_of_ble_eq_true rfl) rfl ?_
  refine kk_aln hG (x := (some p0)) rfl rfl ?_
  refine kk_gp hG (c := 1) (k := 10) (a := p0) rfl rfl rfl rfl (fun v13 => ?_)
  refine kk_ic hG rfl cc_i4 ?_
  refine kk_ob (fun b14 eb14 => ?_)
  subst eb14
  refine kk_ia hG (a := b14) rfl (fun v15 => ?_)
  refine kk_st hG (L' := [(5, .int v15), (4, .int v12), (3, .int v9), (2, .int v6), (1, .int v3), (0, va_rf (some p0))]) rfl rfl (Nat.le_of_ble_eq_true rfl) rfl ?_
  refine kk_ic hG rfl cc_i0 ?_
  refine kk_st hG (L' := [(6, .int (0 : Int32)), (5, .int v15), (4, .int v12), (3, .int v9), (2, .int v6), (1, .int v3), (0, va_rf (some p0))]) rfl rfl (Nat.le_of_ble_eq_true rfl) rfl ?_
  exact kk_wl hG [6, 5, 4, 3, 2, 1, 0] rfl (b40 _ _ _ _ _ _ _ _ _)
