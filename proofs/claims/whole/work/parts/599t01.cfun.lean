/-! Methods as weakest preconditions, by program: Ch_goodKey .. Ch_md5Block -/
def C_Ch_goodKey_b42 (sa : Nat → Nat) (p0 : Nat) (p1 : Int32) (p2 : Int32) (a3 : Int32) (s : cS) (kc ks : Nat) (Q : (Int32 → cS → Nat → Nat → Prop)) (P2 : (Int32 → cS → Nat → Nat → Prop)) : Prop := (P2 (a3 + (1 : Int32)) s kc ks)
def C_Ch_goodKey_s2 (sa : Nat → Nat) (p0 : Nat) (p1 : Int32) (p2 : Int32) (a3 : Int32) (s : cS) (kc ks : Nat) (Q : (Int32 → cS → Nat → Nat → Prop)) (P2 : (Int32 → cS → Nat → Nat → Prop)) : Prop := ob (gI s 1 2 p0) (fun v1 => (if a3 < v1 then (ob (gP s 1 3 p0) (fun v2 => (ob v2 (fun b3 => (ob (rE s .int b3 a3) (fun v4 => (if v4 = p1 then (ob (gP s 1 5 p0) (fun v5 => (ob v5 (fun b6 => (ob (rE s .int b6 a3) (fun v7 => (if p2 < v7 then ((C_Ch_goodKey_b42 sa p0 p1 p2 a3 s kc ks Q P2)) else (ob (gP s 1 6 p0) (fun v8 => (ob v8 (fun b9 => (ob (rE s .int b9 a3) (fun v10 => (if v10 < p2 then ((C_Ch_goodKey_b42 sa p0 p1 p2 a3 s kc ks Q P2)) else ((Q a3 s kc ks)))))))))))))))) else ((C_Ch_goodKey_b42 sa p0 p1 p2 a3 s kc ks Q P2))))))))) else ((Q ((-1) : Int32) s kc ks))))
def C_Ch_goodKey_b2 (sa : Nat → Nat) (p0 : Nat) (p1 : Int32) (p2 : Int32) (a3 : Int32) (s : cS) (kc ks : Nat) (Q : (Int32 → cS → Nat → Nat → Prop)) : Prop := ∀ P2 : (Int32 → cS → Nat → Nat → Prop), (∀ (a3 : Int32) (s : cS) (kc ks : Nat), C_Ch_goodKey_s2 sa p0 p1 p2 a3 s kc ks Q P2 → P2 a3 s kc ks) → P2 a3 s kc ks
def C_Ch_goodKey (sa : Nat → Nat) (p0 : Nat) (p1 : Int32) (p2 : Int32) (s : cS) (kc ks : Nat) (Q : (Int32 → cS → Nat → Nat → Prop)) : Prop := (C_Ch_goodKey_b2 sa p0 p1 p2 (0 : Int32) s kc ks Q)
set_option maxRecDepth 100000 in
set_option maxHeartbeats 4000000 in
theorem kc_Ch_goodKey (base : Nat) (sa : Nat → Nat) {R : pmM} {s : cS} {kc ks : Nat} {Rt : pmR} {p0 : Nat} {p1 : Int32} {p2 : Int32} {Q : (Int32 → cS → Nat → Nat → Prop)} (hw : cW sa R base s) (h : C_Ch_goodKey sa p0 p1 p2 s kc ks Q) (k : ∀ r s' kc' ks', cW sa R base s' → Q r s' kc' ks' → Rt (some (.int r)) (cM R s') kc' ks') : kP_Ch_goodKey base sa [.ref p0, .int p1, .int p2] (cM R s) kc ks Rt := by
  refine ⟨Nat.le_of_ble_eq_true rfl, fun G hG => ?_⟩
  have b2 : ∀ (a3 : Int32) (s : cS) (kc ks : Nat), KK sa R base G 2 [(0, va_rf (some p0)), (1, .int p1), (2, .int p2), (3, .int a3)] [] s kc ks (C_Ch_goodKey_b2 sa p0 p1 p2 a3 s kc ks Q) := by
    have H : ∀ (P2 : (Int32 → cS → Nat → Nat → Prop)) (hP2 : ∀ (a3 : Int32) (s : cS) (kc ks : Nat), P2 a3 s kc ks → cW sa R base s → G 2 [(0, va_rf (some p0)), (1, .int p1), (2, .int p2), (3, .int a3)] [] (cM R s) kc ks) (a3 : Int32) (s : cS) (kc ks : Nat), KK sa R base G 2 [(0, va_rf (some p0)), (1, .int p1), (2, .int p2), (3, .int a3)] [] s kc ks (C_Ch_goodKey_s2 sa p0 p1 p2 a3 s kc ks Q P2) := by
      intro P2 hP2
      have b42 : ∀ (a3 : Int32) (s : cS) (kc ks : Nat), KK sa R base G 42 [(0, va_rf (some p0)), (1, .int p1), (2, .int p2), (3, .int a3)] [] s kc ks (C_Ch_goodKey_b42 sa p0 p1 p2 a3 s kc ks Q P2) := by
        intro a3 s kc ks
        refine kk_inc hG (L' := [(3, .int (a3 + (1 : Int32))), (0, va_rf (some p0)), (1, .int p1), (2, .int p2)]) rfl (Nat.le_of_ble_eq_true rfl) rfl cc_i1 rfl ?_
        refine kk_go hG (t := 2) rfl rfl ?_
        exact kk_wl hG [1, 2, 3, 0] rfl (fun hw h => hP2 _ _ _ _ h hw)
      intro a3 s kc ks
      refine kks hG rfl rfl ?_
      refine kk_aln hG (x := (some p0)) rfl rfl ?_
      refine kk_gi hG (c := 1) (k := 2) (a := p0) rfl rfl rfl rfl (fun v1 => ?_)
      refine kk_ige hG (t := 48) rfl rfl ?_ ?_
      · refine kk_ic hG rfl cc_im1 ?_
        exact kk_ri hG rfl rfl rfl k
      refine kk_aln hG (x := (some p0)) rfl rfl ?_
      refine kk_gp hG (c := 1) (k := 3) (a := p0) rfl rfl rfl rfl (fun v2 => ?_)
      refine kks hG rfl rfl ?_
      refine kk_ob (fun b3 eb3 => ?_)
      subst eb3
      refine kk_ia hG (a := b3) rfl (fun v4 => ?_)
      refine kks hG rfl rfl ?_
      refine kk_ine hG (t := 42) rfl rfl ?_ ?_
      · exact kk_wl hG [0, 1, 2, 3] rfl (b42 _ _ _ _)
      refine kk_aln hG (x := (some p0)) rfl rfl ?_
      refine kk_gp hG (c := 1) (k := 5) (a := p0) rfl rfl rfl rfl (fun v5 => ?_)
      refine kks hG rfl rfl ?_
      refine kk_ob (fun b6 eb6 => ?_)
      subst eb6
      refine kk_ia hG (a := b6) rfl (fun v7 => ?_)
      refine kks hG rfl rfl ?_
      refine kk_igt hG (t := 42) rfl rfl ?_ ?_
      · exact kk_wl hG [0, 1, 2, 3] rfl (b42 _ _ _ _)
      refine kks hG rfl rfl ?_
      refine kk_aln hG (x := (some p0)) rfl rfl ?_
      refine kk_gp hG (c := 1) (k := 6) (a := p0) rfl rfl rfl rfl (fun v8 => ?_)
      refine kks hG rfl rfl ?_
      refine kk_ob (fun b9 eb9 => ?_)
      subst eb9
      refine kk_ia hG (a := b9) rfl (fun v10 => ?_)
      refine kk_igt hG (t := 42) rfl rfl ?_ ?_
      · exact kk_wl hG [0, 1, 2, 3] rfl (b42 _ _ _ _)
      refine kks hG rfl rfl ?_
      exact kk_ri hG rfl rfl rfl k
    exact fun a3 s kc ks hw h => h (fun a3 s kc ks => cW sa R base s → G 2 [(0, va_rf (some p0)), (1, .int p1), (2, .int p2), (3, .int a3)] [] (cM R s) kc ks) (fun a3 s kc ks hs hw => H _ (fun _ _ _ _ hp hw => hp hw) a3 s kc ks hw hs) hw
  refine (show KK sa R base G 0 [(0, va_rf (some p0)), (1, .int p1), (2, .int p2)] [] s kc ks (C_Ch_goodKey sa p0 p1 p2 s kc ks Q) from ?_) hw h
  refine kk_ic hG rfl cc_i0 ?_
  refine kk_st hG (L' := [(3, .int (0 : Int32)), (0, va_rf (some p0)), (1, .int p1), (2, .int p2)]) rfl rfl (Nat.le_of_ble_eq_true rfl) rfl ?_
  exact kk_wl hG [1, 2, 3, 0] rfl (b2 _ _ _ _)
def C_By_numberAt_b46 (sa : Nat → Nat) (p0 : Nat) (p1 : Int32) (p2 : Int32) (a5 : Int32) (u0 : Int64) (u1 : Int32) (s : cS) (kc ks : Nat) (Q : (Int64 → cS → Nat → Nat → Prop)) (P5 : (Int64 → Int32 → cS → Nat → Nat → Prop)) : Prop := (P5 (u0 ||| (Int32.toInt64 u1)) (a5 + (1 : Int32)) s kc ks)
def C_By_numberAt_s5 (sa : Nat → Nat) (p0 : Nat) (p1 : Int32) (p2 : Int32) (a3 : Int64) (a5 : Int32) (s : cS) (kc ks : Nat) (Q : (Int64 → cS → Nat → Nat → Prop)) (P5 : (Int64 → Int32 → cS → Nat → Nat → Prop)) : Prop := if a5 < (p1 + p2) then (if a5 < 0 then ((C_By_numberAt_b46 sa p0 p1 p2 a5 (a3 <<< ((Int32.toInt64 (8 : Int32)) &&& 63)) (0 : Int32) s kc ks Q P5)) else (ob (gI s 0 1 p0) (fun v1 => (if a5 < v1 then (ob (gP s 0 0 p0) (fun v2 => (ob v2 (fun b3 => (ob (rE s .byte b3 a5) (fun v4 => ((C_By_numberAt_b46 sa p0 p1 p2 a5 (a3 <<< ((Int32.toInt64 (8 : Int32)) &&& 63)) (v4 &&& (255 : Int32)) s kc ks Q P5)))))))) else ((C_By_numberAt_b46 sa p0 p1 p2 a5 (a3 <<< ((Int32.toInt64 (8 : Int32)) &&& 63)) (0 : Int32) s kc ks Q P5)))))) else ((Q a3 s kc ks))
def C_By_numberAt_b5 (sa : Nat → Nat) (p0 : Nat) (p1 : Int32) (p2 : Int32) (a3 : Int64) (a5 : Int32) (s : cS) (kc ks : Nat) (Q : (Int64 → cS → Nat → Nat → Prop)) : Prop := ∀ P5 : (Int64 → Int32 → cS → Nat → Nat → Prop), (∀ (a3 : Int64) (a5 : Int32) (s : cS) (kc ks : Nat), C_By_numberAt_s5 sa p0 p1 p2 a3 a5 s kc ks Q P5 → P5 a3 a5 s kc ks) → P5 a3 a5 s kc ks
def C_By_numberAt (sa : Nat → Nat) (p0 : Nat) (p1 : Int32) (p2 : Int32) (s : cS) (kc ks : Nat) (Q : (Int64 → cS → Nat → Nat → Prop)) : Prop := (C_By_numberAt_b5 sa p0 p1 p2 (0 : Int64) p1 s kc ks Q)
set_option maxRecDepth 100000 in
set_option maxHeartbeats 4000000 in
theorem kc_By_numberAt (base : Nat) (sa : Nat → Nat) {R : pmM} {s : cS} {kc ks : Nat} {Rt : pmR} {p0 : Nat} {p1 : Int32} {p2 : Int32} {Q : (Int64 → cS → Nat → Nat → Prop)} (hw : cW sa R base s) (h : C_By_numberAt sa p0 p1 p2 s kc ks Q) (k : ∀ r s' kc' ks', cW sa R base s' → Q r s' kc' ks' → Rt (some (.long r)) (cM R s') kc' ks') : kP_By_numberAt base sa [.ref p0, .int p1, .int p2] (cM R s) kc ks Rt := by
  refine ⟨Nat.le_of_ble_eq_true rfl, fun G hG => ?_⟩
  have b5 : ∀ (a3 : Int64) (a5 : Int32) (s : cS) (kc ks : Nat), KK sa R base G 5 [(0, va_rf (some p0)), (1, .int p1), (2, .int p2), (3, .long a3), (5, .int a5)] [] s kc ks (C_By_numberAt_b5 sa p0 p1 p2 a3 a5 s kc ks Q) := by
    have H : ∀ (P5 : (Int64 → Int32 → cS → Nat → Nat → Prop)) (hP5 : ∀ (a3 : Int64) (a5 : Int32) (s : cS) (kc ks : Nat), P5 a3 a5 s kc ks → cW sa R base s → G 5 [(0, va_rf (some p0)), (1, .int p1), (2, .int p2), (3, .long a3), (5, .int a5)] [] (cM R s) kc ks) (a3 : Int64) (a5 : Int32) (s : cS) (kc ks : Nat), KK sa R base G 5 [(0, va_rf (some p0)), (1, .int p1), (2, .int p2), (3, .long a3), (5, .int a5)] [] s kc ks (C_By_numberAt_s5 sa p0 p1 p2 a3 a5 s kc ks Q P5) := by
      intro P5 hP5
      have b46 : ∀ (a5 : Int32) (u0 : Int64) (u1 : Int32) (s : cS) (kc ks : Nat), KK sa R base G 46 [(0, va_rf (some p0)), (1, .int p1), (2, .int p2), (5, .int a5)] [.int u1, .long u0] s kc ks (C_By_numberAt_b46 sa p0 p1 p2 a5 u0 u1 s kc ks Q P5) := by
        intro a5 u0 u1 s kc ks
        refine kks hG rfl rfl ?_
        refine kks hG rfl rfl ?_
        refine kk_st hG (L' := [(3, .long (u0 ||| (Int32.toInt64 u1))), (0, va_rf (some p0)), (1, .int p1), (2, .int p2), (5, .int a5)]) rfl rfl (Nat.le_of_ble_eq_true rfl) rfl ?_
        refine kk_inc hG (L' := [(5, .int (a5 + (1 : Int32))), (3, .long (u0 ||| (Int32.toInt64 u1))), (0, va_rf (some p0)), (1, .int p1), (2, .int p2)]) rfl (Nat.le_of_ble_eq_true rfl) rfl cc_i1 rfl ?_
        refine kk_go hG (t := 5) rfl rfl ?_
        exact kk_wl hG [2, 3, 4, 1, 0] rfl (fun hw h => hP5 _ _ _ _ _ h hw)
      intro a3 a5 s kc ks
      refine kks hG rfl rfl ?_
      refine kks hG rfl rfl ?_
      refine kks hG rfl rfl ?_
      refine kks hG rfl rfl ?_
      refine kk_ige hG (t := 55) rfl rfl ?_ ?_
      · refine kks hG rfl rfl ?_
        exact kk_rl hG rfl rfl k
      refine kks hG rfl rfl ?_
      refine kk_bi hG rfl cc_b8 ?_
      refine kks hG rfl rfl ?_
      refine kks hG rfl rfl ?_
      refine kk_zlt hG (t := 45) rfl rfl ?_ ?_
      · refine kk_ic hG rfl cc_i0 ?_
        exact kk_wl hG [0, 1, 2, 4] rfl (b46 _ _ _ _ _ _)
      refine kks hG rfl rfl ?_
      refine kk_aln hG (x := (some p0)) rfl rfl ?_
      refine kk_gi hG (c := 0) (k := 1) (a := p0) rfl rfl rfl rfl (fun v1 => ?_)
      refine kk_ige hG (t := 45) rfl rfl ?_ ?_
      · refine kk_ic hG rfl cc_i0 ?_
        exact kk_wl hG [0, 1, 2, 4] rfl (b46 _ _ _ _ _ _)
      refine kk_aln hG (x := (some p0)) rfl rfl ?_
      refine kk_gp hG (c := 0) (k := 0) (a := p0) rfl rfl rfl rfl (fun v2 => ?_)
      refine kks hG rfl rfl ?_
      refine kk_ob (fun b3 eb3 => ?_)
      subst eb3
      refine kk_ba hG (a := b3) rfl (fun v4 => ?_)
      refine kk_si hG rfl cc_s255 ?_
      refine kks hG rfl rfl ?_
      refine kk_go hG (t := 46) rfl rfl ?_
      exact kk_wl hG [0, 1, 2, 4] rfl (b46 _ _ _ _ _ _)
    exact fun a3 a5 s kc ks hw h => h (fun a3 a5 s kc ks => cW sa R base s → G 5 [(0, va_rf (some p0)), (1, .int p1), (2, .int p2), (3, .long a3), (5, .int a5)] [] (cM R s) kc ks) (fun a3 a5 s kc ks hs hw => H _ (fun _ _ _ _ _ hp hw => hp hw) a3 a5 s kc ks hw hs) hw
  refine (show KK sa R base G 0 [(0, va_rf (some p0)), (1, .int p1), (2, .int p2)] [] s kc ks (C_By_numberAt sa p0 p1 p2 s kc ks Q) from ?_) hw h
  refine kk_lc hG (c := 0) (v := 0) rfl rfl ?_
  refine kk_st hG (L' := [(3, .long (0 : Int64)), (0, va_rf (some p0)), (1, .int p1), (2, .int p2)]) rfl rfl (Nat.le_of_ble_eq_true rfl) rfl ?_
  refine kks hG rfl rfl ?_
  refine kk_st hG (L' := [(5, .int p1), (3, .long (0 : Int64)), (0, va_rf (some p0)), (1, .int p1), (2, .int p2)]) rfl rfl (Nat.le_of_ble_eq_true rfl) rfl ?_
  exact kk_wl hG [2, 3, 4, 1, 0] rfl (b5 _ _ _ _ _)
def C_Ch_endSize (sa : Nat → Nat) (p0 : Nat) (p1 : Int32) (s : cS) (kc ks : Nat) (Q : (Int32 → cS → Nat → Nat → Prop)) : Prop := ob (gP s 1 4 p0) (fun v1 => (ob v1 (fun b2 => (ob (rE s .int b2 p1) (fun v3 => (if v3 = (16 : Int32) then (Q (20 : Int32) s kc ks) else (Q (40 : Int32) s kc ks)))))))
set_option maxRecDepth 100000 in
set_option maxHeartbeats 4000000 in
theorem kc_Ch_endSize (base : Nat) (sa : Nat → Nat) {R : pmM} {s : cS} {kc ks : Nat} {Rt : pmR} {p0 : Nat} {p1 : Int32} {Q : (Int32 → cS → Nat → Nat → Prop)} (hw : cW sa R base s) (h : C_Ch_endSize sa p0 p1 s kc ks Q) (k : ∀ r s' kc' ks', cW sa R base s' → Q r s' kc' ks' → Rt (some (.int r)) (cM R s') kc' ks') : kP_Ch_endSize base sa [.ref p0, .int p1] (cM R s) kc ks Rt := by
  refine ⟨Nat.le_of_ble_eq_true rfl, fun G hG => ?_⟩
  refine (show KK sa R base G 0 [(0, va_rf (some p0)), (1, .int p1)] [] s kc ks (C_Ch_endSize sa p0 p1 s kc ks Q) from ?_) hw h
  refine kk_aln hG (x := (some p0)) rfl rfl ?_
  refine kk_gp hG (c := 1) (k := 4) (a := p0) rfl rfl rfl rfl (fun v1 => ?_)
  refine kks hG rfl rfl ?_
  refine kk_ob (fun b2 eb2 => ?_)
  subst eb2
  refine kk_ia hG (a := b2) rfl (fun v3 => ?_)
  refine kk_bi hG rfl cc_b16 ?_
  refine kk_ine hG (t := 16) rfl rfl ?_ ?_
  · refine kk_bi hG rfl cc_b40 ?_
    exact kk_ri hG rfl rfl rfl k
  refine kk_bi hG rfl cc_b20 ?_
  refine kk_go hG (t := 18) rfl rfl ?_
  exact kk_ri hG rfl rfl rfl k
def C_Ch_addWork (sa : Nat → Nat) (p0 : Nat) (p1 : Option Nat) (p2 : Int32) (s : cS) (kc ks : Nat) (Q : (cS → Nat → Nat → Prop)) : Prop := ob p1 (fun b1 => (ob (aL s b1) (fun v2 => (if v2 < p2 then (Q s kc ks) else (ob (gI s 1 9 p0) (fun v3 => (ob (gP s 1 8 p0) (fun v4 => (ob v4 (fun b5 => (ob (aL s b5) (fun v6 => (if v6 < (v3 + p2) then (Q s kc ks) else (ob (gP s 1 8 p0) (fun v7 => (ob (gI s 1 9 p0) (fun v8 => (ob v7 (fun b9 => (ob (cpE s b1 (0 : Int32) b9 v8 p2) (fun s10 => (ob (gI s10 1 9 p0) (fun v11 => (ob (pI s10 1 9 p0 (v11 + p2)) (fun s12 => (Q s12 kc ks))))))))))))))))))))))))))
set_option maxRecDepth 100000 in
set_option maxHeartbeats 4000000 in
theorem kc_Ch_addWork (base : Nat) (sa : Nat → Nat) {R : pmM} {s : cS} {kc ks : Nat} {Rt : pmR} {p0 : Nat} {p1 : Option Nat} {p2 : Int32} {Q : (cS → Nat → Nat → Prop)} (hw : cW sa R base s) (h : C_Ch_addWork sa p0 p1 p2 s kc ks Q) (k : ∀ s' kc' ks', cW sa R base s' → Q s' kc' ks' → Rt none (cM R s') kc' ks') : kP_Ch_addWork base sa [.ref p0, va_rf p1, .int p2] (cM R s) kc ks Rt := by
  refine ⟨by cases p1 <;> exact Nat.le_of_ble_eq_true rfl, fun G hG => ?_⟩
  have eL : lv_args 0 [.ref p0, va_rf p1, .int p2] = [(0, va_rf (some p0)), (1, va_rf p1), (2, .int p2)] := by cases p1 <;> rfl
  rw [eL]
  refine (show KK sa R base G 0 [(0, va_rf (some p0)), (1, va_rf p1), (2, .int p2)] [] s kc ks (C_Ch_addWork sa p0 p1 p2 s kc ks Q) from ?_) hw h
  refine kks hG rfl rfl ?_
  refine kk_aln hG (x := p1) rfl rfl ?_
  refine kk_ob (fun b1 eb1 => ?_)
  subst eb1
  refine kk_len hG (a := b1) rfl (fun v2 => ?_)
  refine kk_igt hG (t := 44) rfl rfl ?_ ?_
  · exact kk_rv hG rfl rfl k
  refine kk_aln hG (x := (some p0)) rfl rfl ?_
  refine kk_gi hG (c := 1) (k := 9) (a := p0) rfl rfl rfl rfl (fun v3 => ?_)
  refine kks hG rfl rfl ?_
  refine kks hG rfl rfl ?_
  refine kk_aln hG (x := (some p0)) rfl rfl ?_
  refine kk_gp hG (c := 1) (k := 8) (a := p0) rfl rfl rfl rfl (fun v4 => ?_)
  refine kk_ob (fun b5 eb5 => ?_)
  subst eb5
  refine kk_len hG (a := b5) rfl (fun v6 => ?_)
  refine kk_igt hG (t := 44) rfl rfl ?_ ?_
  · exact kk_rv hG rfl rfl k
  refine kk_aln hG (x := (some b1)) rfl rfl ?_
  refine kk_ic hG rfl cc_i0 ?_
  refine kk_aln hG (x := (some p0)) rfl rfl ?_
  refine kk_gp hG (c := 1) (k := 8) (a := p0) rfl rfl rfl rfl (fun v7 => ?_)
  refine kk_aln hG (x := (some p0)) rfl rfl ?_
  refine kk_gi hG (c := 1) (k := 9) (a := p0) rfl rfl rfl rfl (fun v8 => ?_)
  refine kks hG rfl rfl ?_
  refine kk_ob (fun b9 eb9 => ?_)
  subst eb9
  refine kk_acp hG (a := b1) (b := b9) rfl rfl (Nat.le_of_ble_eq_true rfl) (fun s10 => ?_)
  refine kk_aln hG (x := (some p0)) rfl rfl ?_
  refine kk_dup hG (x := (some p0)) rfl ?_
  refine kk_gi hG (c := 1) (k := 9) (a := p0) rfl rfl rfl rfl (fun v11 => ?_)
  refine kks hG rfl rfl ?_
  refine kks hG rfl rfl ?_
  refine kk_pi hG (c := 1) (k := 9) (a := p0) rfl rfl rfl rfl (fun s12 => ?_)
  exact kk_rv hG rfl rfl k
def C_Ch_addSecret_b49 (sa : Nat → Nat) (p0 : Nat) (p1 : Int32) (p2 : Int32) (p3 : Int32) (a4 : Int32) (u0 : Option Nat) (u1 : Int32) (u2 : Int32) (s : cS) (kc ks : Nat) (Q : (cS → Nat → Nat → Prop)) (P3 : (Int32 → cS → Nat → Nat → Prop)) : Prop := ob u0 (fun b1 => (ob (wEb s b1 u1 (Int8.toInt32 (Int32.toInt8 (u2 ^^^ p2)))) (fun s2 => (ob (gI s2 1 9 p0) (fun v3 => (ob (pI s2 1 9 p0 (v3 + (1 : Int32))) (fun s4 => ((P3 (a4 + (1 : Int32)) s4 kc ks)))))))))
def C_Ch_addSecret_s3 (sa : Nat → Nat) (p0 : Nat) (p1 : Int32) (p2 : Int32) (p3 : Int32) (a4 : Int32) (s : cS) (kc ks : Nat) (Q : (cS → Nat → Nat → Prop)) (P3 : (Int32 → cS → Nat → Nat → Prop)) : Prop := if a4 < p3 then (ob (gI s 1 9 p0) (fun v1 => (ob (gP s 1 8 p0) (fun v2 => (ob v2 (fun b3 => (ob (aL s b3) (fun v4 => (if v1 < v4 then (ob (gP s 1 8 p0) (fun v5 => (ob (gI s 1 9 p0) (fun v6 => (if a4 < (16 : Int32) then (ob (gP s 1 7 p0) (fun v7 => (ob v7 (fun b8 => (ob (rQ s b8 p1) (fun v9 => (ob v9 (fun b10 => (ob (rE s .byte b10 a4) (fun v11 => ((C_Ch_addSecret_b49 sa p0 p1 p2 p3 a4 v5 v6 v11 s kc ks Q P3)))))))))))) else ((C_Ch_addSecret_b49 sa p0 p1 p2 p3 a4 v5 v6 (0 : Int32) s kc ks Q P3))))))) else ((Q s kc ks))))))))))) else ((Q s kc ks))
def C_Ch_addSecret_b3 (sa : Nat → Nat) (p0 : Nat) (p1 : Int32) (p2 : Int32) (p3 : Int32) (a4 : Int32) (s : cS) (kc ks : Nat) (Q : (cS → Nat → Nat → Prop)) : Prop := ∀ P3 : (Int32 → cS → Nat → Nat → Prop), (∀ (a4 : Int32) (s : cS) (kc ks : Nat), C_Ch_addSecret_s3 sa p0 p1 p2 p3 a4 s kc ks Q P3 → P3 a4 s kc ks) → P3 a4 s kc ks
def C_Ch_addSecret (sa : Nat → Nat) (p0 : Nat) (p1 : Int32) (p2 : Int32) (p3 : Int32) (s : cS) (kc ks : Nat) (Q : (cS → Nat → Nat → Prop)) : Prop := (C_Ch_addSecret_b3 sa p0 p1 p2 p3 (0 : Int32) s kc ks Q)
set_option maxRecDepth 100000 in
set_option maxHeartbeats 4000000 in
theorem kc_Ch_addSecret (base : Nat) (sa : Nat → Nat) {R : pmM} {s : cS} {kc ks : Nat} {Rt : pmR} {p0 : Nat} {p1 : Int32} {p2 : Int32} {p3 : Int32} {Q : (cS → Nat → Nat → Prop)} (hw : cW sa R base s) (h : C_Ch_addSecret sa p0 p1 p2 p3 s kc ks Q) (k : ∀ s' kc' ks', cW sa R base s' → Q s' kc' ks' → Rt none (cM R s') kc' ks') : kP_Ch_addSecret base sa [.ref p0, .int p1, .int p2, .int p3] (cM R s) kc ks Rt := by
  refine ⟨Nat.le_of_ble_eq_true rfl, fun G hG => ?_⟩
  have b3 : ∀ (a4 : Int32) (s : cS) (kc ks : Nat), KK sa R base G 3 [(0, va_rf (some p0)), (1, .int p1), (2, .int p2), (3, .int p3), (4, .int a4)] [] s kc ks (C_Ch_addSecret_b3 sa p0 p1 p2 p3 a4 s kc ks Q) := by
    have H : ∀ (P3 : (Int32 → cS → Nat → Nat → Prop)) (hP3 : ∀ (a4 : Int32) (s : cS) (kc ks : Nat), P3 a4 s kc ks → cW sa R base s → G 3 [(0, va_rf (some p0)), (1, .int p1), (2, .int p2), (3, .int p3), (4, .int a4)] [] (cM R s) kc ks) (a4 : Int32) (s : cS) (kc ks : Nat), KK sa R base G 3 [(0, va_rf (some p0)), (1, .int p1), (2, .int p2), (3, .int p3), (4, .int a4)] [] s kc ks (C_Ch_addSecret_s3 sa p0 p1 p2 p3 a4 s kc ks Q P3) := by
      intro P3 hP3
      have b49 : ∀ (a4 : Int32) (u0 : Option Nat) (u1 : Int32) (u2 : Int32) (s : cS) (kc ks : Nat), KK sa R base G 49 [(0, va_rf (some p0)), (1, .int p1), (2, .int p2), (3, .int p3), (4, .int a4)] [.int u2, .int u1, va_rf u0] s kc ks (C_Ch_addSecret_b49 sa p0 p1 p2 p3 a4 u0 u1 u2 s kc ks Q P3) := by
        intro a4 u0 u1 u2 s kc ks
        refine kks hG rfl rfl ?_
        refine kks hG rfl rfl ?_
        refine kks hG rfl rfl ?_
        refine kk_ob (fun b1 eb1 => ?_)
        subst eb1
        refine kk_bs hG (a := b1) rfl (fun s2 => ?_)
        refine kk_aln hG (x := (some p0)) rfl rfl ?_
        refine kk_dup hG (x := (some p0)) rfl ?_
        refine kk_gi hG (c := 1) (k := 9) (a := p0) rfl rfl rfl rfl (fun v3 => ?_)
        refine kk_ic hG rfl cc_i1 ?_
        refine kks hG rfl rfl ?_
        refine kk_pi hG (c := 1) (k := 9) (a := p0) rfl rfl rfl rfl (fun s4 => ?_)
        refine kk_inc hG (L' := [(4, .int (a4 + (1 : Int32))), (0, va_rf (some p0)), (1, .int p1), (2, .int p2), (3, .int p3)]) rfl (Nat.le_of_ble_eq_true rfl) rfl cc_i1 rfl ?_
        refine kk_go hG (t := 3) rfl rfl ?_
        exact kk_wl hG [1, 2, 3, 4, 0] rfl (fun hw h => hP3 _ _ _ _ h hw)
      intro a4 s kc ks
      refine kks hG rfl rfl ?_
      refine kks hG rfl rfl ?_
      refine kk_ige hG (t := 69) rfl rfl ?_ ?_
      · exact kk_rv hG rfl rfl k
      refine kk_aln hG (x := (some p0)) rfl rfl ?_
      refine kk_gi hG (c := 1) (k := 9) (a := p0) rfl rfl rfl rfl (fun v1 => ?_)
      refine kk_aln hG (x := (some p0)) rfl rfl ?_
      refine kk_gp hG (c := 1) (k := 8) (a := p0) rfl rfl rfl rfl (fun v2 => ?_)
      refine kk_ob (fun b3 eb3 => ?_)
      subst eb3
      refine kk_len hG (a := b3) rfl (fun v4 => ?_)
      refine kk_ige hG (t := 69) rfl rfl ?_ ?_
      · exact kk_rv hG rfl rfl k
      refine kk_aln hG (x := (some p0)) rfl rfl ?_
      refine kk_gp hG (c := 1) (k := 8) (a := p0) rfl rfl rfl rfl (fun v5 => ?_)
      refine kk_aln hG (x := (some p0)) rfl rfl ?_
      refine kk_gi hG (c := 1) (k := 9) (a := p0) rfl rfl rfl rfl (fun v6 => ?_)
      refine kks hG rfl rfl ?_
      refine kk_bi hG rfl cc_b16 ?_
      refine kk_ige hG (t := 48) rfl rfl ?_ ?_
      · refine kk_ic hG rfl cc_i0 ?_
        exact kk_wl hG [0, 1, 2, 3, 4] rfl (b49 _ _ _ _ _ _ _)
      refine kk_aln hG (x := (some p0)) rfl rfl ?_
      refine kk_gp hG (c := 1) (k := 7) (a := p0) rfl rfl rfl rfl (fun v7 => ?_)
      refine kks hG rfl rfl ?_
      refine kk_ob (fun b8 eb8 => ?_)
      subst eb8
      refine kk_aa hG (a := b8) rfl (fun v9 => ?_)
      refine kks hG rfl rfl ?_
      refine kk_ob (fun b10 eb10 => ?_)
      subst eb10
      refine kk_ba hG (a := b10) rfl (fun v11 => ?_)
      refine kk_go hG (t := 49) rfl rfl ?_
      exact kk_wl hG [0, 1, 2, 3, 4] rfl (b49 _ _ _ _ _ _ _)
    exact fun a4 s kc ks hw h => h (fun a4 s kc ks => cW sa R base s → G 3 [(0, va_rf (some p0)), (1, .int p1), (2, .int p2), (3, .int p3), (4, .int a4)] [] (cM R s) kc ks) (fun a4 s kc ks hs hw => H _ (fun _ _ _ _ hp hw => hp hw) a4 s kc ks hw hs) hw
  refine (show KK sa R base G 0 [(0, va_rf (some p0)), (1, .int p1), (2, .int p2), (3, .int p3)] [] s kc ks (C_Ch_addSecret sa p0 p1 p2 p3 s kc ks Q) from ?_) hw h
  refine kk_ic hG rfl cc_i0 ?_
  refine kk_st hG (L' := [(4, .int (0 : Int32)), (0, va_rf (some p0)), (1, .int p1), (2, .int p2), (3, .int p3)]) rfl rfl (Nat.le_of_ble_eq_true rfl) rfl ?_
  exact kk_wl hG [1, 2, 3, 4, 0] rfl (b3 _ _ _ _)
def C_Ch_fillBlock_b107 (sa : Nat → Nat) (p0 : Nat) (p1 : Int32) (a2 : Int32) (a3 : Int32) (a4 : Int32) (u0 : Option Nat) (u1 : Int32) (s : cS) (kc ks : Nat) (Q : (cS → Nat → Nat → Prop)) (P77 : (Int32 → cS → Nat → Nat → Prop)) : Prop := ob u0 (fun b1 => (ob (wEb s b1 u1 (Int8.toInt32 (Int32.toInt8 (ush_I a2 ((8 : Int32) * a4))))) (fun s2 => ((P77 (a4 + (1 : Int32)) s2 kc ks)))))
def C_Ch_fillBlock_s77 (sa : Nat → Nat) (p0 : Nat) (p1 : Int32) (a2 : Int32) (a3 : Int32) (a4 : Int32) (s : cS) (kc ks : Nat) (Q : (cS → Nat → Nat → Prop)) (P77 : (Int32 → cS → Nat → Nat → Prop)) : Prop := if a4 < (4 : Int32) then (ob (gP s 1 8 p0) (fun v2 => (if p1 = 0 then ((C_Ch_fillBlock_b107 sa p0 p1 a2 a3 a4 v2 ((a3 - (8 : Int32)) + a4) s kc ks Q P77)) else ((C_Ch_fillBlock_b107 sa p0 p1 a2 a3 a4 v2 ((a3 - (1 : Int32)) - a4) s kc ks Q P77))))) else ((ob (pI s 1 9 p0 a3) (fun s1 => (Q s1 kc ks))))
def C_Ch_fillBlock_b77 (sa : Nat → Nat) (p0 : Nat) (p1 : Int32) (a2 : Int32) (a3 : Int32) (a4 : Int32) (s : cS) (kc ks : Nat) (Q : (cS → Nat → Nat → Prop)) : Prop := ∀ P77 : (Int32 → cS → Nat → Nat → Prop), (∀ (a4 : Int32) (s : cS) (kc ks : Nat), C_Ch_fillBlock_s77 sa p0 p1 a2 a3 a4 s kc ks Q P77 → P77 a4 s kc ks) → P77 a4 s kc ks
def C_Ch_fillBlock_s54 (sa : Nat → Nat) (p0 : Nat) (p1 : Int32) (a2 : Int32) (a3 : Int32) (a4 : Int32) (s : cS) (kc ks : Nat) (Q : (cS → Nat → Nat → Prop)) (P54 : (Int32 → cS → Nat → Nat → Prop)) : Prop := if a4 < a3 then (ob (gP s 1 8 p0) (fun v1 => (ob v1 (fun b2 => (ob (wEb s b2 a4 (0 : Int32)) (fun s3 => ((P54 (a4 + (1 : Int32)) s3 kc ks)))))))) else (((C_Ch_fillBlock_b77 sa p0 p1 a2 a3 (0 : Int32) s kc ks Q)))
def C_Ch_fillBlock_b54 (sa : Nat → Nat) (p0 : Nat) (p1 : Int32) (a2 : Int32) (a3 : Int32) (a4 : Int32) (s : cS) (kc ks : Nat) (Q : (cS → Nat → Nat → Prop)) : Prop := ∀ P54 : (Int32 → cS → Nat → Nat → Prop), (∀ (a4 : Int32) (s : cS) (kc ks : Nat), C_Ch_fillBlock_s54 sa p0 p1 a2 a3 a4 s kc ks Q P54 → P54 a4 s kc ks) → P54 a4 s kc ks
def C_Ch_fillBlock (sa : Nat → Nat) (p0 : Nat) (p1 : Int32) (s : cS) (kc ks : Nat) (Q : (cS → Nat → Nat → Prop)) : Prop := ob (gI s 1 9 p0) (fun v1 => (ob (gI s 1 9 p0) (fun v2 => (ob (gP s 1 8 p0) (fun v3 => (ob v3 (fun b4 => (ob (aL s b4) (fun v5 => (if v5 < ((((v2 + (8 : Int32)) / (64 : Int32)) * (64 : Int32)) + (64 : Int32)) then (Q s kc ks) else (ob (gP s 1 8 p0) (fun v6 => (ob (gI s 1 9 p0) (fun v7 => (ob v6 (fun b8 => (ob (wEb s b8 v7 ((-128) : Int32)) (fun s9 => (ob (gI s9 1 9 p0) (fun v10 => ((C_Ch_fillBlock_b54 sa p0 p1 (v1 * (8 : Int32)) ((((v2 + (8 : Int32)) / (64 : Int32)) * (64 : Int32)) + (64 : Int32)) (v10 + (1 : Int32)) s9 kc ks Q))))))))))))))))))))))
set_option maxRecDepth 100000 in
set_option maxHeartbeats 4000000 in
theorem kc_Ch_fillBlock (base : Nat) (sa : Nat → Nat) {R : pmM} {s : cS} {kc ks : Nat} {Rt : pmR} {p0 : Nat} {p1 : Int32} {Q : (cS → Nat → Nat → Prop)} (hw : cW sa R base s) (h : C_Ch_fillBlock sa p0 p1 s kc ks Q) (k : ∀ s' kc' ks', cW sa R base s' → Q s' kc' ks' → Rt none (cM R s') kc' ks') : kP_Ch_fillBlock base sa [.ref p0, .int p1] (cM R s) kc ks Rt := by
  refine ⟨Nat.le_of_ble_eq_true rfl, fun G hG => ?_⟩
  have b77 : ∀ (a2 : Int32) (a3 : Int32) (a4 : Int32) (s : cS) (kc ks : Nat), KK sa R base G 77 [(0, va_rf (some p0)), (1, .int p1), (2, .int a2), (3, .int a3), (4, .int a4)] [] s kc ks (C_Ch_fillBlock_b77 sa p0 p1 a2 a3 a4 s kc ks Q) := by
    intro a2 a3
    have H : ∀ (P77 : (Int32 → cS → Nat → Nat → Prop)) (hP77 : ∀ (a4 : Int32) (s : cS) (kc ks : Nat), P77 a4 s kc ks → cW sa R base s → G 77 [(0, va_rf (some p0)), (1, .int p1), (2, .int a2), (3, .int a3), (4, .int a4)] [] (cM R s) kc ks) (a4 : Int32) (s : cS) (kc ks : Nat), KK sa R base G 77 [(0, va_rf (some p0)), (1, .int p1), (2, .int a2), (3, .int a3), (4, .int a4)] [] s kc ks (C_Ch_fillBlock_s77 sa p0 p1 a2 a3 a4 s kc ks Q P77) := by
      intro P77 hP77
      have b107 : ∀ (a4 : Int32) (u0 : Option Nat) (u1 : Int32) (s : cS) (kc ks : Nat), KK sa R base G 107 [(0, va_rf (some p0)), (1, .int p1), (2, .int a2), (3, .int a3), (4, .int a4)] [.int u1, va_rf u0] s kc ks (C_Ch_fillBlock_b107 sa p0 p1 a2 a3 a4 u0 u1 s kc ks Q P77) := by
        intro a4 u0 u1 s kc ks
        refine kks hG rfl rfl ?_
        refine kk_bi hG rfl cc_b8 ?_
        refine kks hG rfl rfl ?_
        refine kks hG rfl rfl ?_
        refine kks hG rfl rfl ?_
        refine kks hG rfl rfl ?_
        refine kk_ob (fun b1 eb1 => ?_)
        subst eb1
        refine kk_bs hG (a := b1) rfl (fun s2 => ?_)
        refine kk_inc hG (L' := [(4, .int (a4 + (1 : Int32))), (0, va_rf (some p0)), (1, .int p1), (2, .int a2), (3, .int a3)]) rfl (Nat.le_of_ble_eq_true rfl) rfl cc_i1 rfl ?_
        refine kk_go hG (t := 77) rfl rfl ?_
        exact kk_wl hG [1, 2, 3, 4, 0] rfl (fun hw h => hP77 _ _ _ _ h hw)
      intro a4 s kc ks
      refine kks hG rfl rfl ?_
      refine kk_ic hG rfl cc_i4 ?_
      refine kk_ige hG (t := 122) rfl rfl ?_ ?_
      · refine kk_aln hG (x := (some p0)) rfl rfl ?_
        refine kks hG rfl rfl ?_
        refine kk_pi hG (c := 1) (k := 9) (a := p0) rfl rfl rfl rfl (fun s1 => ?_)
        exact kk_rv hG rfl rfl k
      refine kk_aln hG (x := (some p0)) rfl rfl ?_
      refine kk_gp hG (c := 1) (k := 8) (a := p0) rfl rfl rfl rfl (fun v2 => ?_)
      refine kks hG rfl rfl ?_
      refine kk_zeq hG (t := 100) rfl rfl ?_ ?_
      · refine kks hG rfl rfl ?_
        refine kk_bi hG rfl cc_b8 ?_
        refine kks hG rfl rfl ?_
        refine kks hG rfl rfl ?_
        refine kks hG rfl rfl ?_
        exact kk_wl hG [0, 1, 2, 3, 4] rfl (b107 _ _ _ _ _ _)
      refine kks hG rfl rfl ?_
      refine kk_ic hG rfl cc_i1 ?_
      refine kks hG rfl rfl ?_
      refine kks hG rfl rfl ?_
      refine kks hG rfl rfl ?_
      refine kk_go hG (t := 107) rfl rfl ?_
      exact kk_wl hG [0, 1, 2, 3, 4] rfl (b107 _ _ _ _ _ _)
    exact fun a4 s kc ks hw h => h (fun a4 s kc ks => cW sa R base s → G 77 [(0, va_rf (some p0)), (1, .int p1), (2, .int a2), (3, .int a3), (4, .int a4)] [] (cM R s) kc ks) (fun a4 s kc ks hs hw => H _ (fun _ _ _ _ hp hw => hp hw) a4 s kc ks hw hs) hw
  have b54 : ∀ (a2 : Int32) (a3 : Int32) (a4 : Int32) (s : cS) (kc ks : Nat), KK sa R base G 54 [(0, va_rf (some p0)), (1, .int p1), (2, .int a2), (3, .int a3), (4, .int a4)] [] s kc ks (C_Ch_fillBlock_b54 sa p0 p1 a2 a3 a4 s kc ks Q) := by
    intro a2 a3
    have H : ∀ (P54 : (Int32 → cS → Nat → Nat → Prop)) (hP54 : ∀ (a4 : Int32) (s : cS) (kc ks : Nat), P54 a4 s kc ks → cW sa R base s → G 54 [(0, va_rf (some p0)), (1, .int p1), (2, .int a2), (3, .int a3), (4, .int a4)] [] (cM R s) kc ks) (a4 : Int32) (s : cS) (kc ks : Nat), KK sa R base G 54 [(0, va_rf (some p0)), (1, .int p1), (2, .int a2), (3, .int a3), (4, .int a4)] [] s kc ks (C_Ch_fillBlock_s54 sa p0 p1 a2 a3 a4 s kc ks Q P54) := by
      intro P54 hP54
      intro a4 s kc ks
      refine kks hG rfl rfl ?_
      refine kks hG rfl rfl ?_
      refine kk_ige hG (t := 74) rfl rfl ?_ ?_
      · refine kk_ic hG rfl cc_i0 ?_
        refine kk_st hG (L' := [(4, .int (0 : Int32)), (0, va_rf (some p0)), (1, .int p1), (2, .int a2), (3, .int a3)]) rfl rfl (Nat.le_of_ble_eq_true rfl) rfl ?_
        exact kk_wl hG [1, 2, 3, 4, 0] rfl (b77 _ _ _ _ _ _)
      refine kk_aln hG (x := (some p0)) rfl rfl ?_
      refine kk_gp hG (c := 1) (k := 8) (a := p0) rfl rfl rfl rfl (fun v1 => ?_)
      refine kks hG rfl rfl ?_
      refine kk_ic hG rfl cc_i0 ?_
      refine kk_ob (fun b2 eb2 => ?_)
      subst eb2
      refine kk_bs hG (a := b2) rfl (fun s3 => ?_)
      refine kk_inc hG (L' := [(4, .int (a4 + (1 : Int32))), (0, va_rf (some p0)), (1, .int p1), (2, .int a2), (3, .int a3)]) rfl (Nat.le_of_ble_eq_true rfl) rfl cc_i1 rfl ?_
      refine kk_go hG (t := 54) rfl rfl ?_
      exact kk_wl hG [1, 2, 3, 4, 0] rfl (fun hw h => hP54 _ _ _ _ h hw)
    exact fun a4 s kc ks hw h => h (fun a4 s kc ks => cW sa R base s → G 54 [(0, va_rf (some p0)), (1, .int p1), (2, .int a2), (3, .int a3), (4, .int a4)] [] (cM R s) kc ks) (fun a4 s kc ks hs hw => H _ (fun _ _ _ _ hp hw => hp hw) a4 s kc ks hw hs) hw
  refine (show KK sa R base G 0 [(0, va_rf (some p0)), (1, .int p1)] [] s kc ks (C_Ch_fillBlock sa p0 p1 s kc ks Q) from ?_) hw h
  refine kk_aln hG (x := (some p0)) rfl rfl ?_
  refine kk_gi hG (c := 1) (k := 9) (a := p0) rfl rfl rfl rfl (fun v1 => ?_)
  refine kk_bi hG rfl cc_b8 ?_
  refine kks hG rfl rfl ?_
  refine kk_st hG (L' := [(2, .int (v1 * (8 : Int32))), (0, va_rf (some p0)), (1, .int p1)]) rfl rfl (Nat.le_of_ble_eq_true rfl) rfl ?_
  refine kk_aln hG (x := (some p0)) rfl rfl ?_
  refine kk_gi hG (c := 1) (k := 9) (a := p0) rfl rfl rfl rfl (fun v2 => ?_)
  refine kk_bi hG rfl cc_b8 ?_
  refine kks hG rfl rfl ?_
  refine kk_bi hG rfl cc_b64 ?_
  refine kkc hG rfl rfl (by decide) ?_
  refine kk_bi hG rfl cc_b64 ?_
  refine kks hG rfl rfl ?_
  refine kk_bi hG rfl cc_b64 ?_
  refine kks hG rfl rfl ?_
  refine kk_st hG (L' := [(3, .int ((((v2 + (8 : Int32)) / (64 : Int32)) * (64 : Int32)) + (64 : Int32))), (2, .int (v1 * (8 : Int32))), (0, va_rf (some p0)), (1, .int p1)]) rfl rfl (Nat.le_of_ble_eq_true rfl) rfl ?_
  refine kks hG rfl rfl ?_
  refine kk_aln hG (x := (some p0)) rfl rfl ?_
  refine kk_gp hG (c := 1) (k := 8) (a := p0) rfl rfl rfl rfl (fun v3 => ?_)
  refine kk_ob (fun b4 eb4 => ?_)
  subst eb4
  refine kk_len hG (a := b4) rfl (fun v5 => ?_)
  refine kk_ile hG (t := 35) rfl rfl ?_ ?_
  · refine kk_aln hG (x := (some p0)) rfl rfl ?_
    refine kk_gp hG (c := 1) (k := 8) (a := p0) rfl rfl rfl rfl (fun v6 => ?_)
    refine kk_aln hG (x := (some p0)) rfl rfl ?_
    refine kk_gi hG (c := 1) (k := 9) (a := p0) rfl rfl rfl rfl (fun v7 => ?_)
    refine kk_bi hG rfl cc_bm128 ?_
    refine kk_ob (fun b8 eb8 => ?_)
    subst eb8
    refine kk_bs hG (a := b8) rfl (fun s9 => ?_)
    refine kk_aln hG (x := (some p0)) rfl rfl ?_
    refine kk_gi hG (c := 1) (k := 9) (a := p0) rfl rfl rfl rfl (fun v10 => ?_)
    refine kk_ic hG rfl cc_i1 ?_
    refine kks hG rfl rfl ?_
    refine kk_st hG (L' := [(4, .int (v10 + (1 : Int32))), (3, .int ((((v2 + (8 : Int32)) / (64 : Int32)) * (64 : Int32)) + (64 : Int32))), (2, .int (v1 * (8 : Int32))), (0, va_rf (some p0)), (1, .int p1)]) rfl rfl (Nat.le_of_ble_eq_true rfl) rfl ?_
    exact kk_wl hG [3, 4, 2, 1, 0] rfl (b54 _ _ _ _ _ _)
  exact kk_rv hG rfl rfl k
def C_Ch_begin (sa : Nat → Nat) (p0 : Nat) (s : cS) (kc ks : Nat) (Q : (cS → Nat → Nat → Prop)) : Prop := ob (gP s 1 10 p0) (fun v1 => (ob v1 (fun b2 => (ob (wEi s b2 (0 : Int32) (1732584193 : Int32)) (fun s3 => (ob (gP s3 1 10 p0) (fun v4 => (ob v4 (fun b5 => (ob (wEi s3 b5 (1 : Int32) ((-271733879) : Int32)) (fun s6 => (ob (gP s6 1 10 p0) (fun v7 => (ob v7 (fun b8 => (ob (wEi s6 b8 (2 : Int32) ((-1732584194) : Int32)) (fun s9 => (ob (gP s9 1 10 p0) (fun v10 => (ob v10 (fun b11 => (ob (wEi s9 b11 (3 : Int32) (271733878 : Int32)) (fun s12 => (ob (gP s12 1 10 p0) (fun v13 => (ob v13 (fun b14 => (ob (wEi s12 b14 (4 : Int32) ((-1009589776) : Int32)) (fun s15 => (Q s15 kc ks))))))))))))))))))))))))))))))
set_option maxRecDepth 100000 in
set_option maxHeartbeats 4000000 in
theorem kc_Ch_begin (base : Nat) (sa : Nat → Nat) {R : pmM} {s : cS} {kc ks : Nat} {Rt : pmR} {p0 : Nat} {Q : (cS → Nat → Nat → Prop)} (hw : cW sa R base s) (h : C_Ch_begin sa p0 s kc ks Q) (k : ∀ s' kc' ks', cW sa R base s' → Q s' kc' ks' → Rt none (cM R s') kc' ks') : kP_Ch_begin base sa [.ref p0] (cM R s) kc ks Rt := by
  refine ⟨Nat.le_of_ble_eq_true rfl, fun G hG => ?_⟩
  refine (show KK sa R base G 0 [(0, va_rf (some p0))] [] s kc ks (C_Ch_begin sa p0 s kc ks Q) from ?_) hw h
  refine kk_aln hG (x := (some p0)) rfl rfl ?_
  refine kk_gp hG (c := 1) (k := 10) (a := p0) rfl rfl rfl rfl (fun v1 => ?_)
  refine kk_ic hG rfl cc_i0 ?_
  refine kk_ld hG (v := (1732584193 : Int32)) rfl rfl ?_
  refine kk_ob (fun b2 eb2 => ?_)
  subst eb2
  refine kk_is hG (a := b2) rfl (fun s3 => ?_)
  refine kk_aln hG (x := (some p0)) rfl rfl ?_
  refine kk_gp hG (c := 1) (k := 10) (a := p0) rfl rfl rfl rfl (fun v4 => ?_)
  refine kk_ic hG rfl cc_i1 ?_
  refine kk_ld hG (v := ((-271733879) : Int32)) rfl rfl ?_
  refine kk_ob (fun b5 eb5 => ?_)
  subst eb5
  refine kk_is hG (a := b5) rfl (fun s6 => ?_)
  refine kk_aln hG (x := (some p0)) rfl rfl ?_
  refine kk_gp hG (c := 1) (k := 10) (a := p0) rfl rfl rfl rfl (fun v7 => ?_)
  refine kk_ic hG rfl cc_i2 ?_
  refine kk_ld hG (v := ((-1732584194) : Int32)) rfl rfl ?_
  refine kk_ob (fun b8 eb8 => ?_)
  subst eb8
  refine kk_is hG (a := b8) rfl (fun s9 => ?_)
  refine kk_aln hG (x := (some p0)) rfl rfl ?_
  refine kk_gp hG (c := 1) (k := 10) (a := p0) rfl rfl rfl rfl (fun v10 => ?_)
  refine kk_ic hG rfl cc_i3 ?_
  refine kk_ld hG (v := (271733878 : Int32)) rfl rfl ?_
  refine kk_ob (fun b11 eb11 => ?_)
  subst eb11
  refine kk_is hG (a := b11) rfl (fun s12 => ?_)
  refine kk_aln hG (x := (some p0)) rfl rfl ?_
  refine kk_gp hG (c := 1) (k := 10) (a := p0) rfl rfl rfl rfl (fun v13 => ?_)
  refine kk_ic hG rfl cc_i4 ?_
  refine kk_ld hG (v := ((-1009589776) : Int32)) rfl rfl ?_
  refine kk_ob (fun b14 eb14 => ?_)
  subst eb14
  refine kk_is hG (a := b14) rfl (fun s15 => ?_)
  exact kk_rv hG rfl rfl k
def C_Ch_md5Block_b139 (sa : Nat → Nat) (p0 : Nat) (a1 : Int32) (a2 : Int32) (a3 : Int32) (a4 : Int32) (a5 : Int32) (a6 : Int32) (a7 : Int32) (s : cS) (kc ks : Nat) (Q : (cS → Nat → Nat → Prop)) (P32 : (Int32 → Int32 → Int32 → Int32 → Int32 → cS → Nat → Nat → Prop)) : Prop := ob (rS kSin a5) (fun v1 => (ob (gP s 1 11 p0) (fun v2 => (ob v2 (fun b3 => (ob (rE s .int b3 (a7 &&& (15 : Int32))) (fun v4 => (ob (rS kTur (((a5 >>> ((4 : Int32) &&& 31)) <<< ((2 : Int32) &&& 31)) ||| (a5 &&& (3 : Int32)))) (fun v5 => ((P32 a4 (a2 + (((((a1 + a6) + v1) + v4) <<< (v5 &&& 31)) ||| (ush_I (((a1 + a6) + v1) + v4) ((32 : Int32) - v5)))) a2 a3 (a5 + (1 : Int32)) s kc ks)))))))))))
def C_Ch_md5Block_s32 (sa : Nat → Nat) (p0 : Nat) (a1 : Int32) (a2 : Int32) (a3 : Int32) (a4 : Int32) (a5 : Int32) (s : cS) (kc ks : Nat) (Q : (cS → Nat → Nat → Prop)) (P32 : (Int32 → Int32 → Int32 → Int32 → Int32 → cS → Nat → Nat → Prop)) : Prop := if a5 < (64 : Int32) then (if a5 < (16 : Int32) then ((C_Ch_md5Block_b139 sa p0 a1 a2 a3 a4 a5 ((a2 &&& a3) ||| ((a2 ^^^ ((-1) : Int32)) &&& a4)) a5 s kc ks Q P32)) else (if a5 < (32 : Int32) then ((C_Ch_md5Block_b139 sa p0 a1 a2 a3 a4 a5 ((a4 &&& a2) ||| ((a4 ^^^ ((-1) : Int32)) &&& a3)) (((5 : Int32) * a5) + (1 : Int32)) s kc ks Q P32)) else (if a5 < (48 : Int32) then ((C_Ch_md5Block_b139 sa p0 a1 a2 a3 a4 a5 ((a2 ^^^ a3) ^^^ a4) (((3 : Int32) * a5) + (5 : Int32)) s kc ks Q P32)) else ((C_Ch_md5Block_b139 sa p0 a1 a2 a3 a4 a5 (a3 ^^^ (a2 ||| (a4 ^^^ ((-1) : Int32)))) ((7 : Int32) * a5) s kc ks Q P32))))) else ((ob (gP s 1 10 p0) (fun v1 => (ob v1 (fun b2 => (ob (rE s .int b2 (0 : Int32)) (fun v3 => (ob (wEi s b2 (0 : Int32) (v3 + a1)) (fun s4 => (ob (gP s4 1 10 p0) (fun v5 => (ob v5 (fun b6 => (ob (rE s4 .int b6 (1 : Int32)) (fun v7 => (ob (wEi s4 b6 (1 : Int32) (v7 + a2)) (fun s8 => (ob (gP s8 1 10 p0) (fun v9 => (ob v9 (fun b10 => (ob (rE s8 .int b10 (2 : Int32)) (fun v11 => (ob (wEi s8 b10 (2 : Int32) (v11 + a3)) (fun s12 => (ob (gP s12 1 10 p0) (fun v13 => (ob v13 (fun b14 => (ob (rE s12 .int b14 (3 : Int32)) (fun v15 => (ob (wEi s12 b14 (3 : Int32) (v15 + a4)) (fun s16 => (Q s16 kc ks))))))))))))))))))))))))))))))))))
def C_Ch_md5Block_b32 (sa : Nat → Nat) (p0 : Nat) (a1 : Int32) (a2 : Int32) (a3 : Int32) (a4 : Int32) (a5 : Int32) (s : cS) (kc ks : Nat) (Q : (cS → Nat → Nat → Prop)) : Prop := ∀ P32 : (Int32 → Int32 → Int32 → Int32 → Int32 → cS → Nat → Nat → Prop), (∀ (a1 : Int32) (a2 : Int32) (a3 : Int32) (a4 : Int32) (a5 : Int32) (s : cS) (kc ks : Nat), C_Ch_md5Block_s32 sa p0 a1 a2 a3 a4 a5 s kc ks Q P32 → P32 a1 a2 a3 a4 a5 s kc ks) → P32 a1 a2 a3 a4 a5 s kc ks
def C_Ch_md5Block (sa : Nat → Nat) (p0 : Nat) (s : cS) (kc ks : Nat) (Q : (cS → Nat → Nat → Prop)) : Prop := ob (gP s 1 10 p0) (fun v1 => (ob v1 (fun b2 => (ob (rE s .int b2 (0 : Int32)) (fun v3 => (ob (gP s 1 10 p0) (fun v4 => (ob v4 (fun b5 => (ob (rE s .int b5 (1 : Int32)) (fun v6 => (ob (gP s 1 10 p0) (fun v7 => (ob v7 (fun b8 => (ob (rE s .int b8 (2 : Int32)) (fun v9 => (ob (gP s 1 10 p0) (fun v10 => (ob v10 (fun b11 => (ob (rE s .int b11 (3 : Int32)) (fun v12 => ((C_Ch_md5Block_b32 sa p0 v3 v6 v9 v12 (0 : Int32) s kc ks Q)))))))))))))))))))))))))
set_option maxRecDepth 100000 in
set_option maxHeartbeats 4000000 in
theorem kc_Ch_md5Block (base : Nat) (sa : Nat → Nat) {R : pmM} {s : cS} {kc ks : Nat} {Rt : pmR} {p0 : Nat} {Q : (cS → Nat → Nat → Prop)} (hw : cW sa R base s) (h : C_Ch_md5Block sa p0 s kc ks Q) (k : ∀ s' kc' ks', cW sa R base s' → Q s' kc' ks' → Rt none (cM R s') kc' ks') : kP_Ch_md5Block base sa [.ref p0] (cM R s) kc ks Rt := by
  refine ⟨Nat.le_of_ble_eq_true rfl, fun G hG => ?_⟩
  have b32 : ∀ (a1 : Int32) (a2 : Int32) (a3 : Int32) (a4 : Int32) (a5 : Int32) (s : cS) (kc ks : Nat), KK sa R base G 32 [(0, va_rf (some p0)), (1, .int a1), (2, .int a2), (3, .int a3), (4, .int a4), (5, .int a5)] [] s kc ks (C_Ch_md5Block_b32 sa p0 a1 a2 a3 a4 a5 s kc ks Q) := by
    have H : ∀ (P32 : (Int32 → Int32 → Int32 → Int32 → Int32 → cS → Nat → Nat → Prop)) (hP32 : ∀ (a1 : Int32) (a2 : Int32) (a3 : Int32) (a4 : Int32) (a5 : Int32) (s : cS) (kc ks : Nat), P32 a1 a2 a3 a4 a5 s kc ks → cW sa R base s → G 32 [(0, va_rf (some p0)), (1, .int a1), (2, .int a2), (3, .int a3), (4, .int a4), (5, .int a5)] [] (cM R s) kc ks) (a1 : Int32) (a2 : Int32) (a3 : Int32) (a4 : Int32) (a5 : Int32) (s : cS) (kc ks : Nat), KK sa R base G 32 [(0, va_rf (some p0)), (1, .int a1), (2, .int a2), (3, .int a3), (4, .int a4), (5, .int a5)] [] s kc ks (C_Ch_md5Block_s32 sa p0 a1 a2 a3 a4 a5 s kc ks Q P32) := by
      intro P32 hP32
      have b139 : ∀ (a1 : Int32) (a2 : Int32) (a3 : Int32) (a4 : Int32) (a5 : Int32) (a6 : Int32) (a7 : Int32) (s : cS) (kc ks : Nat), KK sa R base G 139 [(0, va_rf (some p0)), (1, .int a1), (2, .int a2), (3, .int a3), (4, .int a4), (5, .int a5), (6, .int a6), (7, .int a7)] [] s kc ks (C_Ch_md5Block_b139 sa p0 a1 a2 a3 a4 a5 a6 a7 s kc ks Q P32) := by
        intro a1 a2 a3 a4 a5 a6 a7 s kc ks
        refine kks hG rfl rfl ?_
        refine kks hG rfl rfl ?_
        refine kks hG rfl rfl ?_
        refine kks hG rfl rfl ?_
        refine kks hG rfl rfl ?_
        refine kk_sta hG (a := (sa 1000)) (l := kSin) rfl (fun hw => hw.2.2.1) (fun v1 => ?_)
        refine kks hG rfl rfl ?_
        refine kk_aln hG (x := (some p0)) rfl rfl ?_
        refine kk_gp hG (c := 1) (k := 11) (a := p0) rfl rfl rfl rfl (fun v2 => ?_)
        refine kks hG rfl rfl ?_
        refine kk_bi hG rfl cc_b15 ?_
        refine kks hG rfl rfl ?_
        refine kk_ob (fun b3 eb3 => ?_)
        subst eb3
        refine kk_ia hG (a := b3) rfl (fun v4 => ?_)
        refine kks hG rfl rfl ?_
        refine kk_st hG (L' := [(8, .int (((a1 + a6) + v1) + v4)), (0, va_rf (some p0)), (1, .int a1), (2, .int a2), (3, .int a3), (4, .int a4), (5, .int a5), (6, .int a6), (7, .int a7)]) rfl rfl (Nat.le_of_ble_eq_true rfl) rfl ?_
        refine kks hG rfl rfl ?_
        refine kks hG rfl rfl ?_
        refine kk_ic hG rfl cc_i4 ?_
        refine kks hG rfl rfl ?_
        refine kk_ic hG rfl cc_i2 ?_
        refine kks hG rfl rfl ?_
        refine kks hG rfl rfl ?_
        refine kk_ic hG rfl cc_i3 ?_
        refine kks hG rfl rfl ?_
        refine kks hG rfl rfl ?_
        refine kk_at (pc' := 177) rfl ?_
        refine kk_sta hG (a := (sa 1001)) (l := kTur) rfl (fun hw => hw.2.2.2) (fun v5 => ?_)
        refine kk_st hG (L' := [(9, .int v5), (8, .int (((a1 + a6) + v1) + v4)), (0, va_rf (some p0)), (1, .int a1), (2, .int a2), (3, .int a3), (4, .int a4), (5, .int a5), (6, .int a6), (7, .int a7)]) rfl rfl (Nat.le_of_ble_eq_true rfl) rfl ?_
        refine kks hG rfl rfl ?_
        refine kk_st hG (L' := [(1, .int a4), (9, .int v5), (8, .int (((a1 + a6) + v1) + v4)), (0, va_rf (some p0)), (2, .int a2), (3, .int a3), (4, .int a4), (5, .int a5), (6, .int a6), (7, .int a7)]) rfl rfl (Nat.le_of_ble_eq_true rfl) rfl ?_
        refine kks hG rfl rfl ?_
        refine kk_st hG (L' := [(4, .int a3), (1, .int a4), (9, .int v5), (8, .int (((a1 + a6) + v1) + v4)), (0, va_rf (some p0)), (2, .int a2), (3, .int a3), (5, .int a5), (6, .int a6), (7, .int a7)]) rfl rfl (Nat.le_of_ble_eq_true rfl) rfl ?_
        refine kks hG rfl rfl ?_
        refine kk_st hG (L' := [(3, .int a2), (4, .int a3), (1, .int a4), (9, .int v5), (8, .int (((a1 + a6) + v1) + v4)), (0, va_rf (some p0)), (2, .int a2), (5, .int a5), (6, .int a6), (7, .int a7)]) rfl rfl (Nat.le_of_ble_eq_true rfl) rfl ?_
        refine kks hG rfl rfl ?_
        refine kks hG rfl rfl ?_
        refine kks hG rfl rfl ?_
        refine kks hG rfl rfl ?_
        refine kks hG rfl rfl ?_
        refine kk_at (pc' := 196) rfl ?_
        refine kk_bi hG rfl cc_b32 ?_
        refine kks hG rfl rfl ?_
        refine kks hG rfl rfl ?_
        refine kks hG rfl rfl ?_
        refine kks hG rfl rfl ?_
        refine kks hG rfl rfl ?_
        refine kk_st hG (L' := [(2, .int (a2 + (((((a1 + a6) + v1) + v4) <<< (v5 &&& 31)) ||| (ush_I (((a1 + a6) + v1) + v4) ((32 : Int32) - v5))))), (3, .int a2), (4, .int a3), (1, .int a4), (9, .int v5), (8, .int (((a1 + a6) + v1) + v4)), (0, va_rf (some p0)), (5, .int a5), (6, .int a6), (7, .int a7)]) rfl rfl (Nat.le_of_ble_eq_true rfl) rfl ?_
        refine kk_inc hG (L' := [(5, .int (a5 + (1 : Int32))), (2, .int (a2 + (((((a1 + a6) + v1) + v4) <<< (v5 &&& 31)) ||| (ush_I (((a1 + a6) + v1) + v4) ((32 : Int32) - v5))))), (3, .int a2), (4, .int a3), (1, .int a4), (9, .int v5), (8, .int (((a1 + a6) + v1) + v4)), (0, va_rf (some p0)), (6, .int a6), (7, .int a7)]) rfl (Nat.le_of_ble_eq_true rfl) rfl cc_i1 rfl ?_
        refine kk_go hG (t := 32) rfl rfl ?_
        exact kk_wl hG [7, 4, 1, 2, 3, 0] rfl (fun hw h => hP32 _ _ _ _ _ _ _ _ h hw)
      intro a1 a2 a3 a4 a5 s kc ks
      refine kks hG rfl rfl ?_
      refine kk_bi hG rfl cc_b64 ?_
      refine kk_ige hG (t := 211) rfl rfl ?_ ?_
      · refine kk_aln hG (x := (some p0)) rfl rfl ?_
        refine kk_gp hG (c := 1) (k := 10) (a := p0) rfl rfl rfl rfl (fun v1 => ?_)
        refine kk_ic hG rfl cc_i0 ?_
        refine kk_dup2 hG (x := v1) rfl ?_
        refine kk_ob (fun b2 eb2 => ?_)
        subst eb2
        refine kk_ia hG (a := b2) rfl (fun v3 => ?_)
        refine kks hG rfl rfl ?_
        refine kks hG rfl rfl ?_
        refine kk_is hG (a := b2) rfl (fun s4 => ?_)
        refine kk_aln hG (x := (some p0)) rfl rfl ?_
        refine kk_gp hG (c := 1) (k := 10) (a := p0) rfl rfl rfl rfl (fun v5 => ?_)
        refine kk_ic hG rfl cc_i1 ?_
        refine kk_dup2 hG (x := v5) rfl ?_
        refine kk_ob (fun b6 eb6 => ?_)
        subst eb6
        refine kk_ia hG (a := b6) rfl (fun v7 => ?_)
        refine kks hG rfl rfl ?_
        refine kks hG rfl rfl ?_
        refine kk_is hG (a := b6) rfl (fun s8 => ?_)
        refine kk_aln hG (x := (some p0)) rfl rfl ?_
        refine kk_gp hG (c := 1) (k := 10) (a := p0) rfl rfl rfl rfl (fun v9 => ?_)
        refine kk_ic hG rfl cc_i2 ?_
        refine kk_dup2 hG (x := v9) rfl ?_
        refine kk_ob (fun b10 eb10 => ?_)
        subst eb10
        refine kk_ia hG (a := b10) rfl (fun v11 => ?_)
        refine kks hG rfl rfl ?_
        refine kks hG rfl rfl ?_
        refine kk_is hG (a := b10) rfl (fun s12 => ?_)
        refine kk_aln hG (x := (some p0)) rfl rfl ?_
        refine kk_gp hG (c := 1) (k := 10) (a := p0) rfl rfl rfl rfl (fun v13 => ?_)
        refine kk_ic hG rfl cc_i3 ?_
        refine kk_dup2 hG (x := v13) rfl ?_
        refine kk_ob (fun b14 eb14 => ?_)
        subst eb14
        refine kk_ia hG (a := b14) rfl (fun v15 => ?_)
        refine kks hG rfl rfl ?_
        refine kks hG rfl rfl ?_
        refine kk_is hG (a := b14) rfl (fun s16 => ?_)
        exact kk_rv hG rfl rfl k
      refine kks hG rfl rfl ?_
      refine kk_bi hG rfl cc_b16 ?_
      refine kk_ige hG (t := 65) rfl rfl ?_ ?_
      · refine kks hG rfl rfl ?_
        refine kk_bi hG rfl cc_b32 ?_
        refine kk_ige hG (t := 96) rfl rfl ?_ ?_
        · refine kks hG rfl rfl ?_
          refine kk_bi hG rfl cc_b48 ?_
          refine kk_ige hG (t := 122) rfl rfl ?_ ?_
          · refine kks hG rfl rfl ?_
            refine kks hG rfl rfl ?_
            refine kks hG rfl rfl ?_
            refine kk_ic hG rfl cc_im1 ?_
            refine kks hG rfl rfl ?_
            refine kks hG rfl rfl ?_
            refine kks hG rfl rfl ?_
            refine kk_st hG (L' := [(6, .int (a3 ^^^ (a2 ||| (a4 ^^^ ((-1) : Int32))))), (0, va_rf (some p0)), (1, .int a1), (2, .int a2), (3, .int a3), (4, .int a4), (5, .int a5)]) rfl rfl (Nat.le_of_ble_eq_true rfl) rfl ?_
            refine kk_bi hG rfl cc_b7 ?_
            refine kks hG rfl rfl ?_
            refine kks hG rfl rfl ?_
            refine kk_st hG (L' := [(7, .int ((7 : Int32) * a5)), (6, .int (a3 ^^^ (a2 ||| (a4 ^^^ ((-1) : Int32))))), (0, va_rf (some p0)), (1, .int a1), (2, .int a2), (3, .int a3), (4, .int a4), (5, .int a5)]) rfl rfl (Nat.le_of_ble_eq_true rfl) rfl ?_
            exact kk_wl hG [2, 3, 4, 5, 6, 7, 1, 0] rfl (b139 _ _ _ _ _ _ _ _ _ _)
          refine kks hG rfl rfl ?_
          refine kks hG rfl rfl ?_
          refine kks hG rfl rfl ?_
          refine kks hG rfl rfl ?_
          refine kks hG rfl rfl ?_
          refine kk_st hG (L' := [(6, .int ((a2 ^^^ a3) ^^^ a4)), (0, va_rf (some p0)), (1, .int a1), (2, .int a2), (3, .int a3), (4, .int a4), (5, .int a5)]) rfl rfl (Nat.le_of_ble_eq_true rfl) rfl ?_
          refine kk_ic hG rfl cc_i3 ?_
          refine kks hG rfl rfl ?_
          refine kks hG rfl rfl ?_
          refine kk_ic hG rfl cc_i5 ?_
          refine kks hG rfl rfl ?_
          refine kk_st hG (L' := [(7, .int (((3 : Int32) * a5) + (5 : Int32))), (6, .int ((a2 ^^^ a3) ^^^ a4)), (0, va_rf (some p0)), (1, .int a1), (2, .int a2), (3, .int a3), (4, .int a4), (5, .int a5)]) rfl rfl (Nat.le_of_ble_eq_true rfl) rfl ?_
          refine kk_at (pc' := 119) rfl ?_
          refine kk_go hG (t := 139) rfl rfl ?_
          exact kk_wl hG [2, 3, 4, 5, 6, 7, 1, 0] rfl (b139 _ _ _ _ _ _ _ _ _ _)
        refine kks hG rfl rfl ?_
        refine kks hG rfl rfl ?_
        refine kks hG rfl rfl ?_
        refine kks hG rfl rfl ?_
        refine kk_ic hG rfl cc_im1 ?_
        refine kks hG rfl rfl ?_
        refine kks hG rfl rfl ?_
        refine kks hG rfl rfl ?_
        refine kks hG rfl rfl ?_
        refine kk_st hG (L' := [(6, .int ((a4 &&& a2) ||| ((a4 ^^^ ((-1) : Int32)) &&& a3))), (0, va_rf (some p0)), (1, .int a1), (2, .int a2), (3, .int a3), (4, .int a4), (5, .int a5)]) rfl rfl (Nat.le_of_ble_eq_true rfl) rfl ?_
        refine kk_ic hG rfl cc_i5 ?_
        refine kks hG rfl rfl ?_
        refine kk_at (pc' := 88) rfl ?_
        refine kks hG rfl rfl ?_
        refine kk_ic hG rfl cc_i1 ?_
        refine kks hG rfl rfl ?_
        refine kk_st hG (L' := [(7, .int (((5 : Int32) * a5) + (1 : Int32))), (6, .int ((a4 &&& a2) ||| ((a4 ^^^ ((-1) : Int32)) &&& a3))), (0, va_rf (some p0)), (1, .int a1), (2, .int a2), (3, .int a3), (4, .int a4), (5, .int a5)]) rfl rfl (Nat.le_of_ble_eq_true rfl) rfl ?_
        refine kk_go hG (t := 139) rfl rfl ?_
        exact kk_wl hG [2, 3, 4, 5, 6, 7, 1, 0] rfl (b139 _ _ _ _ _ _ _ _ _ _)
      refine kks hG rfl rfl ?_
      refine kks hG rfl rfl ?_
      refine kks hG rfl rfl ?_
      refine kks hG rfl rfl ?_
      refine kk_ic hG rfl cc_im1 ?_
      refine kks hG rfl rfl ?_
      refine kks hG rfl rfl ?_
      refine kks hG rfl rfl ?_
      refine kks hG rfl rfl ?_
      refine kk_st hG (L' := [(6, .int ((a2 &&& a3) ||| ((a2 ^^^ ((-1) : Int32)) &&& a4))), (0, va_rf (some p0)), (1, .int a1), (2, .int a2), (3, .int a3), (4, .int a4), (5, .int a5)]) rfl rfl (Nat.le_of_ble_eq_true rfl) rfl ?_
      refine kks hG rfl rfl ?_
      refine kk_st hG (L' := [(7, .int a5), (6, .int ((a2 &&& a3) ||| ((a2 ^^^ ((-1) : Int32)) &&& a4))), (0, va_rf (some p0)), (1, .int a1), (2, .int a2), (3, .int a3), (4, .int a4), (5, .int a5)]) rfl rfl (Nat.le_of_ble_eq_true rfl) rfl ?_
      refine kk_at (pc' := 62) rfl ?_
      refine kk_go hG (t := 139) rfl rfl ?_
      exact kk_wl hG [2, 3, 4, 5, 6, 7, 1, 0] rfl (b139 _ _ _ _ _ _ _ _ _ _)
    exact fun a1 a2 a3 a4 a5 s kc ks hw h => h (fun a1 a2 a3 a4 a5 s kc ks => cW sa R base s → G 32 [(0, va_rf (some p0)), (1, .int a1), (2, .int a2), (3, .int a3), (4, .int a4), (5, .int a5)] [] (cM R s) kc ks) (fun a1 a2 a3 a4 a5 s kc ks hs hw => H _ (fun _ _ _ _ _ _ _ _ hp hw => hp hw) a1 a2 a3 a4 a5 s kc ks hw hs) hw
  refine (show KK sa R base G 0 [(0, va_rf (some p0))] [] s kc ks (C_Ch_md5Block sa p0 s kc ks Q) from ?_) hw h
  refine kk_aln hG (x := (some p0)) rfl rfl ?_
  refine kk_gp hG (c := 1) (k := 10) (a := p0) rfl rfl rfl rfl (fun v1 => ?_)
  refine kk_ic hG rfl cc_i0 ?_
  refine kk_ob (fun b2 eb2 => ?_)
  subst eb2
  refine kk_ia hG (a := b2) rfl (fun v3 => ?_)
  refine kk_st hG (L' := [(1, .int v3), (0, va_rf (some p0))]) rfl rfl (Nat.le_of_ble_eq_true rfl) rfl ?_
  refine kk_aln hG (x := (some p0)) rfl rfl ?_
  refine kk_gp hG (c := 1) (k := 10) (a := p0) rfl rfl rfl rfl (fun v4 => ?_)
  refine kk_ic hG rfl cc_i1 ?_
  refine kk_ob (fun b5 eb5 => ?_)
  subst eb5
  refine kk_ia hG (a := b5) rfl (fun v6 => ?_)
  refine kk_st hG (L' := [(2, .int v6), (1, .int v3), (0, va_rf (some p0))]) rfl rfl (Nat.le_of_ble_eq_true rfl) rfl ?_
  refine kk_aln hG (x := (some p0)) rfl rfl ?_
  refine kk_gp hG (c := 1) (k := 10) (a := p0) rfl rfl rfl rfl (fun v7 => ?_)
  refine kk_ic hG rfl cc_i2 ?_
  refine kk_ob (fun b8 eb8 => ?_)
  subst eb8
  refine kk_ia hG (a := b8) rfl (fun v9 => ?_)
  refine kk_st hG (L' := [(3, .int v9), (2, .int v6), (1, .int v3), (0, va_rf (some p0))]) rfl rfl (Nat.le_of_ble_eq_true rfl) rfl ?_
  refine kk_aln hG (x := (some p0)) rfl rfl ?_
  refine kk_gp hG (c := 1) (k := 10) (a := p0) rfl rfl rfl rfl (fun v10 => ?_)
  refine kk_ic hG rfl cc_i3 ?_
  refine kk_ob (fun b11 eb11 => ?_)
  subst eb11
  refine kk_ia hG (a := b11) rfl (fun v12 => ?_)
  refine kk_st hG (L' := [(4, .int v12), (3, .int v9), (2, .int v6), (1, .int v3), (0, va_rf (some p0))]) rfl rfl (Nat.le_of_ble_eq_true rfl) rfl ?_
  refine kk_ic hG rfl cc_i0 ?_
  refine kk_st hG (L' := [(5, .int (0 : Int32)), (4, .int v12), (3, .int v9), (2, .int v6), (1, .int v3), (0, va_rf (some p0))]) rfl rfl (Nat.le_of_ble_eq_true rfl) rfl ?_
  exact kk_wl hG [5, 4, 3, 2, 1, 0] rfl (b32 _ _ _ _ _ _ _ _)
