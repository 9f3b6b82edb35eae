/-! Methods as weakest preconditions, by program: Rr_age .. Rf_lower -/
def C_Rr_age_b146 (sa : Nat → Nat) (p0 : Nat) (a1 : Int32) (a2 : Int32) (a3 : Int32) (s : cS) (kc ks : Nat) (Q : (cS → Nat → Nat → Prop)) (P34 : (Int32 → Int32 → cS → Nat → Nat → Prop)) : Prop := (P34 a2 (a3 + (1 : Int32)) s kc ks)
def C_Rr_age_b143 (sa : Nat → Nat) (p0 : Nat) (a1 : Int32) (a2 : Int32) (a3 : Int32) (s : cS) (kc ks : Nat) (Q : (cS → Nat → Nat → Prop)) (P34 : (Int32 → Int32 → cS → Nat → Nat → Prop)) : Prop := (C_Rr_age_b146 sa p0 a1 (a2 + (1 : Int32)) a3 s kc ks Q P34)
def C_Rr_age_b118 (sa : Nat → Nat) (p0 : Nat) (a1 : Int32) (a2 : Int32) (a3 : Int32) (a4 : Option Nat) (s : cS) (kc ks : Nat) (Q : (cS → Nat → Nat → Prop)) (P34 : (Int32 → Int32 → cS → Nat → Nat → Prop)) : Prop := ob a4 (fun b1 => (ob (gI s 8 3 b1) (fun v2 => (if v2 = (2 : Int32) then (ob (gI s 9 19 p0) (fun v3 => (ob (gI s 8 10 b1) (fun v4 => (ob (pI s 9 19 p0 (mnI v3 v4)) (fun s5 => ((C_Rr_age_b143 sa p0 a1 a2 a3 s5 kc ks Q P34)))))))) else ((C_Rr_age_b143 sa p0 a1 a2 a3 s kc ks Q P34))))))
def C_Rr_age_b107 (sa : Nat → Nat) (p0 : Nat) (a1 : Int32) (a2 : Int32) (a3 : Int32) (a4 : Option Nat) (a5 : Int32) (s : cS) (kc ks : Nat) (Q : (cS → Nat → Nat → Prop)) (P34 : (Int32 → Int32 → cS → Nat → Nat → Prop)) : Prop := if a5 = 0 then ((C_Rr_age_b118 sa p0 a1 a2 a3 a4 s kc ks Q P34)) else (okO s 9 p0 ∧ C_Rr_die sa p0 a4 s kc ks (fun sr1 cr1 dr1 => ((C_Rr_age_b118 sa p0 a1 a2 a3 a4 sr1 cr1 dr1 Q P34))))
def C_Rr_age_b79 (sa : Nat → Nat) (p0 : Nat) (a1 : Int32) (a2 : Int32) (a3 : Int32) (a4 : Option Nat) (u0 : Int32) (s : cS) (kc ks : Nat) (Q : (cS → Nat → Nat → Prop)) (P34 : (Int32 → Int32 → cS → Nat → Nat → Prop)) : Prop := if u0 = 0 then ((C_Rr_age_b107 sa p0 a1 a2 a3 a4 u0 s kc ks Q P34)) else (ob a4 (fun b1 => (ob (gI s 8 4 b1) (fun v2 => (if v2 = (16 : Int32) then (ob (gP s 9 6 p0) (fun v3 => (ob v3 (fun b4 => (okO s 10 b4 ∧ C_Ta_remove sa b4 a2 s kc ks (fun sr5 cr5 dr5 => ((C_Rr_age_b146 sa p0 a1 a2 a3 sr5 cr5 dr5 Q P34)))))))) else ((C_Rr_age_b107 sa p0 a1 a2 a3 (some b1) u0 s kc ks Q P34)))))))
def C_Rr_age_s34 (sa : Nat → Nat) (p0 : Nat) (a1 : Int32) (a2 : Int32) (a3 : Int32) (s : cS) (kc ks : Nat) (Q : (cS → Nat → Nat → Prop)) (P34 : (Int32 → Int32 → cS → Nat → Nat → Prop)) : Prop := if a3 < a1 then (ob (gP s 9 6 p0) (fun v1 => (ob v1 (fun b2 => (ob (gP s 10 0 b2) (fun v3 => (ob v3 (fun b4 => (ob (rQ s b4 a2) (fun v5 => (ob v5 (fun b6 => (ob (gI s 8 3 b6) (fun v7 => (if v7 = (2 : Int32) then (ob (gP s 9 0 p0) (fun v8 => (ob v8 (fun b9 => (ob (gI s 11 5 b9) (fun v10 => (ob (gI s 8 10 b6) (fun v11 => (if v10 < v11 then ((C_Rr_age_b79 sa p0 a1 a2 a3 (some b6) (0 : Int32) s kc ks Q P34)) else ((C_Rr_age_b79 sa p0 a1 a2 a3 (some b6) (1 : Int32) s kc ks Q P34))))))))))) else ((C_Rr_age_b79 sa p0 a1 a2 a3 (some b6) (0 : Int32) s kc ks Q P34))))))))))))))))) else ((Q s kc ks))
def C_Rr_age_b34 (sa : Nat → Nat) (p0 : Nat) (a1 : Int32) (a2 : Int32) (a3 : Int32) (s : cS) (kc ks : Nat) (Q : (cS → Nat → Nat → Prop)) : Prop := ∀ P34 : (Int32 → Int32 → cS → Nat → Nat → Prop), (∀ (a2 : Int32) (a3 : Int32) (s : cS) (kc ks : Nat), C_Rr_age_s34 sa p0 a1 a2 a3 s kc ks Q P34 → P34 a2 a3 s kc ks) → P34 a2 a3 s kc ks
def C_Rr_age (sa : Nat → Nat) (p0 : Nat) (s : cS) (kc ks : Nat) (Q : (cS → Nat → Nat → Prop)) : Prop := ob (gP s 9 0 p0) (fun v1 => (ob v1 (fun b2 => (ob (gI s 11 5 b2) (fun v3 => (ob (gI s 9 19 p0) (fun v4 => (if v3 < v4 then (Q s kc ks) else (ob (pI s 9 19 p0 (20001 : Int32)) (fun s5 => (ob (gP s5 9 6 p0) (fun v6 => (ob v6 (fun b7 => (ob (gI s5 10 1 b7) (fun v8 => ((C_Rr_age_b34 sa p0 v8 (0 : Int32) (0 : Int32) s5 kc ks Q))))))))))))))))))
set_option maxRecDepth 100000 in
set_option maxHeartbeats 4000000 in
theorem kc_Rr_age (base : Nat) (sa : Nat → Nat) {R : pmM} {s : cS} {kc ks : Nat} {Rt : pmR} {p0 : Nat} {Q : (cS → Nat → Nat → Prop)} (hw : cW sa R base s) (h : C_Rr_age sa p0 s kc ks Q) (k : ∀ s' kc' ks', cW sa R base s' → Q s' kc' ks' → Rt none (cM R s') kc' ks') : kP_Rr_age base sa [.ref p0] (cM R s) kc ks Rt := by
  refine ⟨Nat.le_of_ble_eq_true rfl, fun G hG => ?_⟩
  have b34 : ∀ (a1 : Int32) (a2 : Int32) (a3 : Int32) (s : cS) (kc ks : Nat), KK sa R base G 34 [(0, va_rf (some p0)), (1, .int a1), (2, .int a2), (3, .int a3)] [] s kc ks (C_Rr_age_b34 sa p0 a1 a2 a3 s kc ks Q) := by
    intro a1
    have H : ∀ (P34 : (Int32 → Int32 → cS → Nat → Nat → Prop)) (hP34 : ∀ (a2 : Int32) (a3 : Int32) (s : cS) (kc ks : Nat), P34 a2 a3 s kc ks → cW sa R base s → G 34 [(0, va_rf (some p0)), (1, .int a1), (2, .int a2), (3, .int a3)] [] (cM R s) kc ks) (a2 : Int32) (a3 : Int32) (s : cS) (kc ks : Nat), KK sa R base G 34 [(0, va_rf (some p0)), (1, .int a1), (2, .int a2), (3, .int a3)] [] s kc ks (C_Rr_age_s34 sa p0 a1 a2 a3 s kc ks Q P34) := by
      intro P34 hP34
      have b146 : ∀ (a2 : Int32) (a3 : Int32) (s : cS) (kc ks : Nat), KK sa R base G 146 [(0, va_rf (some p0)), (1, .int a1), (2, .int a2), (3, .int a3)] [] s kc ks (C_Rr_age_b146 sa p0 a1 a2 a3 s kc ks Q P34) := by
        intro a2 a3 s kc ks
        refine kk_inc hG (L' := [(3, .int (a3 + (1 : Int32))), (0, va_rf (some p0)), (1, .int a1), (2, .int a2)]) rfl (Nat.le_of_ble_eq_true rfl) rfl cc_i1 rfl ?_
        refine kk_go hG (t := 34) rfl rfl ?_
        exact kk_wl hG [1, 2, 3, 0] rfl (fun hw h => hP34 _ _ _ _ _ h hw)
      have b143 : ∀ (a2 : Int32) (a3 : Int32) (s : cS) (kc ks : Nat), KK sa R base G 143 [(0, va_rf (some p0)), (1, .int a1), (2, .int a2), (3, .int a3)] [] s kc ks (C_Rr_age_b143 sa p0 a1 a2 a3 s kc ks Q P34) := by
        intro a2 a3 s kc ks
        refine kk_inc hG (L' := [(2, .int (a2 + (1 : Int32))), (0, va_rf (some p0)), (1, .int a1), (3, .int a3)]) rfl (Nat.le_of_ble_eq_true rfl) rfl cc_i1 rfl ?_
        exact kk_wl hG [1, 2, 0, 3] rfl (b146 _ _ _ _ _)
      have b118 : ∀ (a2 : Int32) (a3 : Int32) (a4 : Option Nat) (s : cS) (kc ks : Nat), KK sa R base G 118 [(0, va_rf (some p0)), (1, .int a1), (2, .int a2), (3, .int a3), (4, va_rf a4)] [] s kc ks (C_Rr_age_b118 sa p0 a1 a2 a3 a4 s kc ks Q P34) := by
        intro a2 a3 a4 s kc ks
        refine kk_al hG (x := a4) rfl rfl ?_
        refine kk_ob (fun b1 eb1 => ?_)
        subst eb1
        refine kk_gi hG (c := 8) (k := 3) (a := b1) rfl rfl rfl rfl (fun v2 => ?_)
        refine kk_ic hG rfl cc_i2 ?_
        refine kk_ine hG (t := 143) rfl rfl ?_ ?_
        · exact kk_wl hG [0, 1, 2, 3] rfl (b143 _ _ _ _ _)
        refine kk_aln hG (x := (some p0)) rfl rfl ?_
        refine kk_aln hG (x := (some p0)) rfl rfl ?_
        refine kk_gi hG (c := 9) (k := 19) (a := p0) rfl rfl rfl rfl (fun v3 => ?_)
        refine kk_al hG (x := (some b1)) rfl rfl ?_
        refine kk_gi hG (c := 8) (k := 10) (a := b1) rfl rfl rfl rfl (fun v4 => ?_)
        refine kk_mn hG rfl rfl (Nat.le_of_ble_eq_true rfl) ?_
        refine kk_pi hG (c := 9) (k := 19) (a := p0) rfl rfl rfl rfl (fun s5 => ?_)
        exact kk_wl hG [0, 1, 2, 3] rfl (b143 _ _ _ _ _)
      have b107 : ∀ (a2 : Int32) (a3 : Int32) (a4 : Option Nat) (a5 : Int32) (s : cS) (kc ks : Nat), KK sa R base G 107 [(0, va_rf (some p0)), (1, .int a1), (2, .int a2), (3, .int a3), (4, va_rf a4), (5, .int a5)] [] s kc ks (C_Rr_age_b107 sa p0 a1 a2 a3 a4 a5 s kc ks Q P34) := by
        intro a2 a3 a4 a5 s kc ks
        refine kks hG rfl rfl ?_
        refine kk_zeq hG (t := 118) rfl rfl ?_ ?_
        · exact kk_wl hG [0, 1, 2, 3, 4] rfl (b118 _ _ _ _ _ _)
        refine kk_aln hG (x := (some p0)) rfl rfl ?_
        refine kk_al hG (x := a4) rfl rfl ?_
        refine kk_cv hG 0 rfl rfl (Nat.le_of_ble_eq_true rfl) (by decide) rfl (st' := []) rfl (cats_le (Nat.le_of_ble_eq_true rfl)) (fun _ hw h k => kk_rcv h.1 (kc_Rr_die base sa hw h.2 k)) (fun sr1 cr1 dr1 => ?_)
        exact kk_wl hG [0, 1, 2, 3, 4] rfl (b118 _ _ _ _ _ _)
      have b79 : ∀ (a2 : Int32) (a3 : Int32) (a4 : Option Nat) (u0 : Int32) (s : cS) (kc ks : Nat), KK sa R base G 79 [(0, va_rf (some p0)), (1, .int a1), (2, .int a2), (3, .int a3), (4, va_rf a4)] [.int u0] s kc ks (C_Rr_age_b79 sa p0 a1 a2 a3 a4 u0 s kc ks Q P34) := by
        intro a2 a3 a4 u0 s kc ks
        refine kk_st hG (L' := [(5, .int u0), (0, va_rf (some p0)), (1, .int a1), (2, .int a2), (3, .int a3), (4, va_rf a4)]) rfl rfl (Nat.le_of_ble_eq_true rfl) (by cases a4 <;> rfl) ?_
        refine kks hG rfl rfl ?_
        refine kk_zeq hG (t := 107) rfl rfl ?_ ?_
        · exact kk_wl hG [1, 2, 3, 4, 5, 0] rfl (b107 _ _ _ _ _ _ _)
        refine kk_al hG (x := a4) rfl rfl ?_
        refine kk_ob (fun b1 eb1 => ?_)
        subst eb1
        refine kk_gi hG (c := 8) (k := 4) (a := b1) rfl rfl rfl rfl (fun v2 => ?_)
        refine kk_bi hG rfl cc_b16 ?_
        refine kk_ine hG (t := 107) rfl rfl ?_ ?_
        · exact kk_wl hG [1, 2, 3, 4, 5, 0] rfl (b107 _ _ _ _ _ _ _)
        refine kk_aln hG (x := (some p0)) rfl rfl ?_
        refine kk_gp hG (c := 9) (k := 6) (a := p0) rfl rfl rfl rfl (fun v3 => ?_)
        refine kks hG rfl rfl ?_
        refine kk_ob (fun b4 eb4 => ?_)
        subst eb4
        refine kk_cv hG 0 rfl rfl (Nat.le_of_ble_eq_true rfl) (by decide) rfl (st' := []) rfl (cats_le (Nat.le_of_ble_eq_true rfl)) (fun _ hw h k => kk_rcv h.1 (kc_Ta_remove base sa hw h.2 k)) (fun sr5 cr5 dr5 => ?_)
        refine kk_go hG (t := 146) rfl rfl ?_
        exact kk_wl hG [1, 2, 3, 4] rfl (b146 _ _ _ _ _)
      intro a2 a3 s kc ks
      refine kks hG rfl rfl ?_
      refine kks hG rfl rfl ?_
      refine kk_ige hG (t := 152) rfl rfl ?_ ?_
      · exact kk_rv hG rfl rfl k
      refine kk_aln hG (x := (some p0)) rfl rfl ?_
      refine kk_gp hG (c := 9) (k := 6) (a := p0) rfl rfl rfl rfl (fun v1 => ?_)
      refine kk_ob (fun b2 eb2 => ?_)
      subst eb2
      refine kk_gp hG (c := 10) (k := 0) (a := b2) rfl rfl rfl rfl (fun v3 => ?_)
      refine kks hG rfl rfl ?_
      refine kk_ob (fun b4 eb4 => ?_)
      subst eb4
      refine kk_aa hG (a := b4) rfl (fun v5 => ?_)
      refine kk_as hG (x := v5) (L' := [(4, va_rf v5), (0, va_rf (some p0)), (1, .int a1), (2, .int a2), (3, .int a3)]) rfl (Nat.le_of_ble_eq_true rfl) rfl ?_
      refine kk_al hG (x := v5) rfl rfl ?_
      refine kk_ob (fun b6 eb6 => ?_)
      subst eb6
      refine kk_gi hG (c := 8) (k := 3) (a := b6) rfl rfl rfl rfl (fun v7 => ?_)
      refine kk_ic hG rfl cc_i2 ?_
      refine kk_ine hG (t := 78) rfl rfl ?_ ?_
      · refine kk_ic hG rfl cc_i0 ?_
        exact kk_wl hG [1, 2, 3, 4, 0] rfl (b79 _ _ _ _ _ _ _)
      refine kk_aln hG (x := (some p0)) rfl rfl ?_
      refine kk_gp hG (c := 9) (k := 0) (a := p0) rfl rfl rfl rfl (fun v8 => ?_)
      refine kk_ob (fun b9 eb9 => ?_)
      subst eb9
      refine kk_gi hG (c := 11) (k := 5) (a := b9) rfl rfl rfl rfl (fun v10 => ?_)
      refine kk_al hG (x := (some b6)) rfl rfl ?_
      refine kk_gi hG (c := 8) (k := 10) (a := b6) rfl rfl rfl rfl (fun v11 => ?_)
      refine kk_ilt hG (t := 78) rfl rfl ?_ ?_
      · refine kk_ic hG rfl cc_i0 ?_
        exact kk_wl hG [1, 2, 3, 4, 0] rfl (b79 _ _ _ _ _ _ _)
      refine kk_ic hG rfl cc_i1 ?_
      refine kk_go hG (t := 79) rfl rfl ?_
      exact kk_wl hG [1, 2, 3, 4, 0] rfl (b79 _ _ _ _ _ _ _)
    exact fun a2 a3 s kc ks hw h => h (fun a2 a3 s kc ks => cW sa R base s → G 34 [(0, va_rf (some p0)), (1, .int a1), (2, .int a2), (3, .int a3)] [] (cM R s) kc ks) (fun a2 a3 s kc ks hs hw => H _ (fun _ _ _ _ _ hp hw => hp hw) a2 a3 s kc ks hw hs) hw
  refine (show KK sa R base G 0 [(0, va_rf (some p0))] [] s kc ks (C_Rr_age sa p0 s kc ks Q) from ?_) hw h
  refine kk_aln hG (x := (some p0)) rfl rfl ?_
  refine kk_gp hG (c := 9) (k := 0) (a := p0) rfl rfl rfl rfl (fun v1 => ?_)
  refine kk_ob (fun b2 eb2 => ?_)
  subst eb2
  refine kk_gi hG (c := 11) (k := 5) (a := b2) rfl rfl rfl rfl (fun v3 => ?_)
  refine kk_aln hG (x := (some p0)) rfl rfl ?_
  refine kk_gi hG (c := 9) (k := 19) (a := p0) rfl rfl rfl rfl (fun v4 => ?_)
  refine kk_ige hG (t := 15) rfl rfl ?_ ?_
  · refine kk_aln hG (x := (some p0)) rfl rfl ?_
    refine kk_si hG rfl cc_s20001 ?_
    refine kk_pi hG (c := 9) (k := 19) (a := p0) rfl rfl rfl rfl (fun s5 => ?_)
    refine kk_aln hG (x := (some p0)) rfl rfl ?_
    refine kk_gp hG (c := 9) (k := 6) (a := p0) rfl rfl rfl rfl (fun v6 => ?_)
    refine kk_ob (fun b7 eb7 => ?_)
    subst eb7
    refine kk_gi hG (c := 10) (k := 1) (a := b7) rfl rfl rfl rfl (fun v8 => ?_)
    refine kk_st hG (L' := [(1, .int v8), (0, va_rf (some p0))]) rfl rfl (Nat.le_of_ble_eq_true rfl) rfl ?_
    refine kk_ic hG rfl cc_i0 ?_
    refine kk_st hG (L' := [(2, .int (0 : Int32)), (1, .int v8), (0, va_rf (some p0))]) rfl rfl (Nat.le_of_ble_eq_true rfl) rfl ?_
    refine kk_ic hG rfl cc_i0 ?_
    refine kk_st hG (L' := [(3, .int (0 : Int32)), (2, .int (0 : Int32)), (1, .int v8), (0, va_rf (some p0))]) rfl rfl (Nat.le_of_ble_eq_true rfl) rfl ?_
    exact kk_wl hG [3, 2, 1, 0] rfl (b34 _ _ _ _ _ _)
  exact kk_rv hG rfl rfl k
def C_Rr_tell_b113 (sa : Nat → Nat) (p0 : Nat) (p1 : Int32) (a2 : Int32) (a3 : Option Nat) (a4 : Int32) (a5 : Int32) (s : cS) (kc ks : Nat) (Q : (cS → Nat → Nat → Prop)) (P2 : (Int32 → cS → Nat → Nat → Prop)) (P20 : (Int32 → cS → Nat → Nat → Prop)) (P75 : (Int32 → cS → Nat → Nat → Prop)) : Prop := (P75 (a5 + (1 : Int32)) s kc ks)
def C_Rr_tell_b119 (sa : Nat → Nat) (p0 : Nat) (p1 : Int32) (a2 : Int32) (a3 : Option Nat) (a4 : Int32) (s : cS) (kc ks : Nat) (Q : (cS → Nat → Nat → Prop)) (P2 : (Int32 → cS → Nat → Nat → Prop)) (P20 : (Int32 → cS → Nat → Nat → Prop)) : Prop := (P20 (a4 + (2 : Int32)) s kc ks)
def C_Rr_tell_s75 (sa : Nat → Nat) (p0 : Nat) (p1 : Int32) (a2 : Int32) (a3 : Option Nat) (a4 : Int32) (a5 : Int32) (s : cS) (kc ks : Nat) (Q : (cS → Nat → Nat → Prop)) (P2 : (Int32 → cS → Nat → Nat → Prop)) (P20 : (Int32 → cS → Nat → Nat → Prop)) (P75 : (Int32 → cS → Nat → Nat → Prop)) : Prop := ob a3 (fun b1 => (ob (gI s 4 12 b1) (fun v2 => (if a5 < v2 then (ob (gP s 4 11 b1) (fun v3 => (ob v3 (fun b4 => (ob (rQ s b4 a5) (fun v5 => (ob v5 (fun b6 => (ob (gI s 5 0 b6) (fun v7 => (if v7 = a4 then (ob (gP s 4 11 b1) (fun v8 => (ob v8 (fun b9 => (ob (rQ s b9 a5) (fun v10 => (okO s 9 p0 ∧ C_Rr_sendTold sa p0 (some b1) a4 v10 s kc ks (fun sr11 cr11 dr11 => ((C_Rr_tell_b113 sa p0 p1 a2 (some b1) a4 a5 sr11 cr11 dr11 Q P2 P20 P75)))))))))) else ((C_Rr_tell_b113 sa p0 p1 a2 (some b1) a4 a5 s kc ks Q P2 P20 P75))))))))))))) else ((C_Rr_tell_b119 sa p0 p1 a2 (some b1) a4 s kc ks Q P2 P20))))))
def C_Rr_tell_b75 (sa : Nat → Nat) (p0 : Nat) (p1 : Int32) (a2 : Int32) (a3 : Option Nat) (a4 : Int32) (a5 : Int32) (s : cS) (kc ks : Nat) (Q : (cS → Nat → Nat → Prop)) (P2 : (Int32 → cS → Nat → Nat → Prop)) (P20 : (Int32 → cS → Nat → Nat → Prop)) : Prop := ∀ P75 : (Int32 → cS → Nat → Nat → Prop), (∀ (a5 : Int32) (s : cS) (kc ks : Nat), C_Rr_tell_s75 sa p0 p1 a2 a3 a4 a5 s kc ks Q P2 P20 P75 → P75 a5 s kc ks) → P75 a5 s kc ks
def C_Rr_tell_b72 (sa : Nat → Nat) (p0 : Nat) (p1 : Int32) (a2 : Int32) (a3 : Option Nat) (a4 : Int32) (s : cS) (kc ks : Nat) (Q : (cS → Nat → Nat → Prop)) (P2 : (Int32 → cS → Nat → Nat → Prop)) (P20 : (Int32 → cS → Nat → Nat → Prop)) : Prop := (C_Rr_tell_b75 sa p0 p1 a2 a3 a4 (0 : Int32) s kc ks Q P2 P20)
def C_Rr_tell_s20 (sa : Nat → Nat) (p0 : Nat) (p1 : Int32) (a2 : Int32) (a3 : Option Nat) (a4 : Int32) (s : cS) (kc ks : Nat) (Q : (cS → Nat → Nat → Prop)) (P2 : (Int32 → cS → Nat → Nat → Prop)) (P20 : (Int32 → cS → Nat → Nat → Prop)) : Prop := if (6 : Int32) < a4 then (((P2 (a2 + (1 : Int32)) s kc ks))) else (ob a3 (fun b1 => (okO s 4 b1 ∧ C_Po_addressOf sa b1 a4 s kc ks (fun r2 sr2 cr2 dr2 => (if r2 = none then ((C_Rr_tell_b119 sa p0 p1 a2 (some b1) a4 sr2 cr2 dr2 Q P2 P20)) else (ob (gP sr2 4 0 b1) (fun v3 => (ob v3 (fun b4 => (ob (gI sr2 3 4 b4) (fun v5 => (if v5 = 0 then ((C_Rr_tell_b119 sa p0 p1 a2 (some b1) a4 sr2 cr2 dr2 Q P2 P20)) else (okO sr2 9 p0 ∧ C_Rr_gather sa p0 (some b1) a4 p1 sr2 cr2 dr2 (fun sr6 cr6 dr6 => (ob (gI sr6 4 5 b1) (fun v7 => (if v7 = 0 then (okO sr6 9 p0 ∧ C_Rr_sendTold sa p0 (some b1) a4 none sr6 cr6 dr6 (fun sr8 cr8 dr8 => ((C_Rr_tell_b72 sa p0 p1 a2 (some b1) a4 sr8 cr8 dr8 Q P2 P20)))) else ((C_Rr_tell_b72 sa p0 p1 a2 (some b1) a4 sr6 cr6 dr6 Q P2 P20)))))))))))))))))))
def C_Rr_tell_b20 (sa : Nat → Nat) (p0 : Nat) (p1 : Int32) (a2 : Int32) (a3 : Option Nat) (a4 : Int32) (s : cS) (kc ks : Nat) (Q : (cS → Nat → Nat → Prop)) (P2 : (Int32 → cS → Nat → Nat → Prop)) : Prop := ∀ P20 : (Int32 → cS → Nat → Nat → Prop), (∀ (a4 : Int32) (s : cS) (kc ks : Nat), C_Rr_tell_s20 sa p0 p1 a2 a3 a4 s kc ks Q P2 P20 → P20 a4 s kc ks) → P20 a4 s kc ks
def C_Rr_tell_s2 (sa : Nat → Nat) (p0 : Nat) (p1 : Int32) (a2 : Int32) (s : cS) (kc ks : Nat) (Q : (cS → Nat → Nat → Prop)) (P2 : (Int32 → cS → Nat → Nat → Prop)) : Prop := ob (gI s 9 5 p0) (fun v1 => (if a2 < v1 then (ob (gP s 9 4 p0) (fun v2 => (ob v2 (fun b3 => (ob (rQ s b3 a2) (fun v4 => ((C_Rr_tell_b20 sa p0 p1 a2 v4 (4 : Int32) s kc ks Q P2)))))))) else ((Q s kc ks))))
def C_Rr_tell_b2 (sa : Nat → Nat) (p0 : Nat) (p1 : Int32) (a2 : Int32) (s : cS) (kc ks : Nat) (Q : (cS → Nat → Nat → Prop)) : Prop := ∀ P2 : (Int32 → cS → Nat → Nat → Prop), (∀ (a2 : Int32) (s : cS) (kc ks : Nat), C_Rr_tell_s2 sa p0 p1 a2 s kc ks Q P2 → P2 a2 s kc ks) → P2 a2 s kc ks
def C_Rr_tell (sa : Nat → Nat) (p0 : Nat) (p1 : Int32) (s : cS) (kc ks : Nat) (Q : (cS → Nat → Nat → Prop)) : Prop := (C_Rr_tell_b2 sa p0 p1 (0 : Int32) s kc ks Q)
set_option maxRecDepth 100000 in
set_option maxHeartbeats 4000000 in
theorem kc_Rr_tell (base : Nat) (sa : Nat → Nat) {R : pmM} {s : cS} {kc ks : Nat} {Rt : pmR} {p0 : Nat} {p1 : Int32} {Q : (cS → Nat → Nat → Prop)} (hw : cW sa R base s) (h : C_Rr_tell sa p0 p1 s kc ks Q) (k : ∀ s' kc' ks', cW sa R base s' → Q s' kc' ks' → Rt none (cM R s') kc' ks') : kP_Rr_tell base sa [.ref p0, .int p1] (cM R s) kc ks Rt := by
  refine ⟨Nat.le_of_ble_eq_true rfl, fun G hG => ?_⟩
  have b2 : ∀ (a2 : Int32) (s : cS) (kc ks : Nat), KK sa R base G 2 [(0, va_rf (some p0)), (1, .int p1), (2, .int a2)] [] s kc ks (C_Rr_tell_b2 sa p0 p1 a2 s kc ks Q) := by
    have H : ∀ (P2 : (Int32 → cS → Nat → Nat → Prop)) (hP2 : ∀ (a2 : Int32) (s : cS) (kc ks : Nat), P2 a2 s kc ks → cW sa R base s → G 2 [(0, va_rf (some p0)), (1, .int p1), (2, .int a2)] [] (cM R s) kc ks) (a2 : Int32) (s : cS) (kc ks : Nat), KK sa R base G 2 [(0, va_rf (some p0)), (1, .int p1), (2, .int a2)] [] s kc ks (C_Rr_tell_s2 sa p0 p1 a2 s kc ks Q P2) := by
      intro P2 hP2
      have b20 : ∀ (a2 : Int32) (a3 : Option Nat) (a4 : Int32) (s : cS) (kc ks : Nat), KK sa R base G 20 [(0, va_rf (some p0)), (1, .int p1), (2, .int a2), (3, va_rf a3), (4, .int a4)] [] s kc ks (C_Rr_tell_b20 sa p0 p1 a2 a3 a4 s kc ks Q P2) := by
        intro a2 a3
        have H : ∀ (P20 : (Int32 → cS → Nat → Nat → Prop)) (hP20 : ∀ (a4 : Int32) (s : cS) (kc ks : Nat), P20 a4 s kc ks → cW sa R base s → G 20 [(0, va_rf (some p0)), (1, .int p1), (2, .int a2), (3, va_rf a3), (4, .int a4)] [] (cM R s) kc ks) (a4 : Int32) (s : cS) (kc ks : Nat), KK sa R base G 20 [(0, va_rf (some p0)), (1, .int p1), (2, .int a2), (3, va_rf a3), (4, .int a4)] [] s kc ks (C_Rr_tell_s20 sa p0 p1 a2 a3 a4 s kc ks Q P2 P20) := by
          intro P20 hP20
          have b119 : ∀ (a4 : Int32) (s : cS) (kc ks : Nat), KK sa R base G 119 [(0, va_rf (some p0)), (1, .int p1), (2, .int a2), (3, va_rf a3), (4, .int a4)] [] s kc ks (C_Rr_tell_b119 sa p0 p1 a2 a3 a4 s kc ks Q P2 P20) := by
            intro a4 s kc ks
            refine kk_inc hG (L' := [(4, .int (a4 + (2 : Int32))), (0, va_rf (some p0)), (1, .int p1), (2, .int a2), (3, va_rf a3)]) rfl (Nat.le_of_ble_eq_true rfl) rfl cc_i2 (by cases a3 <;> rfl) ?_
            refine kk_go hG (t := 20) rfl rfl ?_
            exact kk_wl hG [1, 2, 3, 4, 0] rfl (fun hw h => hP20 _ _ _ _ h hw)
          have b75 : ∀ (a4 : Int32) (a5 : Int32) (s : cS) (kc ks : Nat), KK sa R base G 75 [(0, va_rf (some p0)), (1, .int p1), (2, .int a2), (3, va_rf a3), (4, .int a4), (5, .int a5)] [] s kc ks (C_Rr_tell_b75 sa p0 p1 a2 a3 a4 a5 s kc ks Q P2 P20) := by
            intro a4
            have H : ∀ (P75 : (Int32 → cS → Nat → Nat → Prop)) (hP75 : ∀ (a5 : Int32) (s : cS) (kc ks : Nat), P75 a5 s kc ks → cW sa R base s → G 75 [(0, va_rf (some p0)), (1, .int p1), (2, .int a2), (3, va_rf a3), (4, .int a4), (5, .int a5)] [] (cM R s) kc ks) (a5 : Int32) (s : cS) (kc ks : Nat), KK sa R base G 75 [(0, va_rf (some p0)), (1, .int p1), (2, .int a2), (3, va_rf a3), (4, .int a4), (5, .int a5)] [] s kc ks (C_Rr_tell_s75 sa p0 p1 a2 a3 a4 a5 s kc ks Q P2 P20 P75) := by
              intro P75 hP75
              have b113 : ∀ (a5 : Int32) (s : cS) (kc ks : Nat), KK sa R base G 113 [(0, va_rf (some p0)), (1, .int p1), (2, .int a2), (3, va_rf a3), (4, .int a4), (5, .int a5)] [] s kc ks (C_Rr_tell_b113 sa p0 p1 a2 a3 a4 a5 s kc ks Q P2 P20 P75) := by
                intro a5 s kc ks
                refine kk_inc hG (L' := [(5, .int (a5 + (1 : Int32))), (0, va_rf (some p0)), (1, .int p1), (2, .int a2), (3, va_rf a3), (4, .int a4)]) rfl (Nat.le_of_ble_eq_true rfl) rfl cc_i1 rfl ?_
                refine kk_go hG (t := 75) rfl rfl ?_
                exact kk_wl hG [1, 2, 3, 4, 5, 0] rfl (fun hw h => hP75 _ _ _ _ h hw)
              intro a5 s kc ks
              refine kks hG rfl rfl ?_
              refine kk_aln hG (x := a3) rfl rfl ?_
              refine kk_ob (fun b1 eb1 => ?_)
              subst eb1
              refine kk_gi hG (c := 4) (k := 12) (a := b1) rfl rfl rfl rfl (fun v2 => ?_)
              refine kk_ige hG (t := 119) rfl rfl ?_ ?_
              · exact kk_wl hG [0, 1, 2, 3, 4] rfl (b119 _ _ _ _)
              refine kk_aln hG (x := (some b1)) rfl rfl ?_
              refine kk_gp hG (c := 4) (k := 11) (a := b1) rfl rfl rfl rfl (fun v3 => ?_)
              refine kks hG rfl rfl ?_
              refine kk_ob (fun b4 eb4 => ?_)
              subst eb4
              refine kk_aa hG (a := b4) rfl (fun v5 => ?_)
              refine kk_ob (fun b6 eb6 => ?_)
              subst eb6
              refine kk_gi hG (c := 5) (k := 0) (a := b6) rfl rfl rfl rfl (fun v7 => ?_)
              refine kks hG rfl rfl ?_
              refine kk_ine hG (t := 113) rfl rfl ?_ ?_
              · exact kk_wl hG [0, 1, 2, 3, 4, 5] rfl (b113 _ _ _ _)
              refine kk_aln hG (x := (some p0)) rfl rfl ?_
              refine kk_aln hG (x := (some b1)) rfl rfl ?_
              refine kks hG rfl rfl ?_
              refine kk_aln hG (x := (some b1)) rfl rfl ?_
              refine kk_gp hG (c := 4) (k := 11) (a := b1) rfl rfl rfl rfl (fun v8 => ?_)
              refine kks hG rfl rfl ?_
              refine kk_ob (fun b9 eb9 => ?_)
              subst eb9
              refine kk_aa hG (a := b9) rfl (fun v10 => ?_)
              refine kk_cv hG 0 rfl rfl (Nat.le_of_ble_eq_true rfl) (by decide) rfl (st' := []) rfl (cats_le (Nat.le_of_ble_eq_true rfl)) (fun _ hw h k => kk_rcv h.1 (kc_Rr_sendTold base sa hw h.2 k)) (fun sr11 cr11 dr11 => ?_)
              exact kk_wl hG [0, 1, 2, 3, 4, 5] rfl (b113 _ _ _ _)
            exact fun a5 s kc ks hw h => h (fun a5 s kc ks => cW sa R base s → G 75 [(0, va_rf (some p0)), (1, .int p1), (2, .int a2), (3, va_rf a3), (4, .int a4), (5, .int a5)] [] (cM R s) kc ks) (fun a5 s kc ks hs hw => H _ (fun _ _ _ _ hp hw => hp hw) a5 s kc ks hw hs) hw
          have b72 : ∀ (a4 : Int32) (s : cS) (kc ks : Nat), KK sa R base G 72 [(0, va_rf (some p0)), (1, .int p1), (2, .int a2), (3, va_rf a3), (4, .int a4)] [] s kc ks (C_Rr_tell_b72 sa p0 p1 a2 a3 a4 s kc ks Q P2 P20) := by
            intro a4 s kc ks
            refine kk_ic hG rfl cc_i0 ?_
            refine kk_st hG (L' := [(5, .int (0 : Int32)), (0, va_rf (some p0)), (1, .int p1), (2, .int a2), (3, va_rf a3), (4, .int a4)]) rfl rfl (Nat.le_of_ble_eq_true rfl) rfl ?_
            exact kk_wl hG [1, 2, 3, 4, 5, 0] rfl (b75 _ _ _ _ _)
          intro a4 s kc ks
          refine kks hG rfl rfl ?_
          refine kk_bi hG rfl cc_b6 ?_
          refine kk_igt hG (t := 125) rfl rfl ?_ ?_
          · refine kk_inc hG (L' := [(2, .int (a2 + (1 : Int32))), (0, va_rf (some p0)), (1, .int p1), (3, va_rf a3), (4, .int a4)]) rfl (Nat.le_of_ble_eq_true rfl) rfl cc_i1 rfl ?_
            refine kk_go hG (t := 2) rfl rfl ?_
            exact kk_wl hG [1, 2, 0] rfl (fun hw h => hP2 _ _ _ _ h hw)
          refine kk_aln hG (x := a3) rfl rfl ?_
          refine kks hG rfl rfl ?_
          refine kk_ob (fun b1 eb1 => ?_)
          subst eb1
          refine kk_cx (w := va_rf) hG 0 rfl rfl (Nat.le_of_ble_eq_true rfl) (by decide) rfl (st' := []) rfl (cats_le (Nat.le_of_ble_eq_true rfl)) (fun _ hw h k => kk_rcv h.1 (kc_Po_addressOf base sa hw h.2 k)) (fun r2 sr2 cr2 dr2 => ?_)
          refine kk_nul hG (x := r2) (t := 119) rfl rfl ?_ ?_
          · exact kk_wl hG [0, 1, 2, 3, 4] rfl (b119 _ _ _ _)
          refine kk_aln hG (x := (some b1)) rfl rfl ?_
          refine kk_gp hG (c := 4) (k := 0) (a := b1) rfl rfl rfl rfl (fun v3 => ?_)
          refine kk_ob (fun b4 eb4 => ?_)
          subst eb4
          refine kk_gi hG (c := 3) (k := 4) (a := b4) rfl rfl rfl rfl (fun v5 => ?_)
          refine kk_zne hG (t := 49) rfl rfl ?_ ?_
          · refine kk_aln hG (x := (some p0)) rfl rfl ?_
            refine kk_aln hG (x := (some b1)) rfl rfl ?_
            refine kks hG rfl rfl ?_
            refine kks hG rfl rfl ?_
            refine kk_cv hG 0 rfl rfl (Nat.le_of_ble_eq_true rfl) (by decide) rfl (st' := []) rfl (cats_le (Nat.le_of_ble_eq_true rfl)) (fun _ hw h k => kk_rcv h.1 (kc_Rr_gather base sa hw h.2 k)) (fun sr6 cr6 dr6 => ?_)
            refine kk_aln hG (x := (some b1)) rfl rfl ?_
            refine kk_gi hG (c := 4) (k := 5) (a := b1) rfl rfl rfl rfl (fun v7 => ?_)
            refine kk_zne hG (t := 72) rfl rfl ?_ ?_
            · exact kk_wl hG [0, 1, 2, 3, 4] rfl (b72 _ _ _ _)
            refine kk_aln hG (x := (some p0)) rfl rfl ?_
            refine kk_aln hG (x := (some b1)) rfl rfl ?_
            refine kks hG rfl rfl ?_
            refine kks hG rfl rfl ?_
            refine kk_cv hG 0 rfl rfl (Nat.le_of_ble_eq_true rfl) (by decide) rfl (st' := []) rfl (cats_le (Nat.le_of_ble_eq_true rfl)) (fun _ hw h k => kk_rcv h.1 (kc_Rr_sendTold base sa hw h.2 k)) (fun sr8 cr8 dr8 => ?_)
            exact kk_wl hG [0, 1, 2, 3, 4] rfl (b72 _ _ _ _)
          refine kk_go hG (t := 119) rfl rfl ?_
          exact kk_wl hG [0, 1, 2, 3, 4] rfl (b119 _ _ _ _)
        exact fun a4 s kc ks hw h => h (fun a4 s kc ks => cW sa R base s → G 20 [(0, va_rf (some p0)), (1, .int p1), (2, .int a2), (3, va_rf a3), (4, .int a4)] [] (cM R s) kc ks) (fun a4 s kc ks hs hw => H _ (fun _ _ _ _ hp hw => hp hw) a4 s kc ks hw hs) hw
      intro a2 s kc ks
      refine kks hG rfl rfl ?_
      refine kk_aln hG (x := (some p0)) rfl rfl ?_
      refine kk_gi hG (c := 9) (k := 5) (a := p0) rfl rfl rfl rfl (fun v1 => ?_)
      refine kk_ige hG (t := 131) rfl rfl ?_ ?_
      · exact kk_rv hG rfl rfl k
      refine kk_aln hG (x := (some p0)) rfl rfl ?_
      refine kk_gp hG (c := 9) (k := 4) (a := p0) rfl rfl rfl rfl (fun v2 => ?_)
      refine kks hG rfl rfl ?_
      refine kk_ob (fun b3 eb3 => ?_)
      subst eb3
      refine kk_aa hG (a := b3) rfl (fun v4 => ?_)
      refine kk_asn hG (x := v4) (L' := [(3, va_rf v4), (0, va_rf (some p0)), (1, .int p1), (2, .int a2)]) rfl (Nat.le_of_ble_eq_true rfl) rfl ?_
      refine kk_ic hG rfl cc_i4 ?_
      refine kk_st hG (L' := [(4, .int (4 : Int32)), (3, va_rf v4), (0, va_rf (some p0)), (1, .int p1), (2, .int a2)]) rfl rfl (Nat.le_of_ble_eq_true rfl) (by cases v4 <;> rfl) ?_
      exact kk_wl hG [2, 3, 4, 1, 0] rfl (b20 _ _ _ _ _ _)
    exact fun a2 s kc ks hw h => h (fun a2 s kc ks => cW sa R base s → G 2 [(0, va_rf (some p0)), (1, .int p1), (2, .int a2)] [] (cM R s) kc ks) (fun a2 s kc ks hs hw => H _ (fun _ _ _ _ hp hw => hp hw) a2 s kc ks hw hs) hw
  refine (show KK sa R base G 0 [(0, va_rf (some p0)), (1, .int p1)] [] s kc ks (C_Rr_tell sa p0 p1 s kc ks Q) from ?_) hw h
  refine kk_ic hG rfl cc_i0 ?_
  refine kk_st hG (L' := [(2, .int (0 : Int32)), (0, va_rf (some p0)), (1, .int p1)]) rfl rfl (Nat.le_of_ble_eq_true rfl) rfl ?_
  exact kk_wl hG [1, 2, 0] rfl (b2 _ _ _ _)
def C_Rr_forgetChanges_s2 (sa : Nat → Nat) (p0 : Nat) (a1 : Int32) (s : cS) (kc ks : Nat) (Q : (cS → Nat → Nat → Prop)) (P2 : (Int32 → cS → Nat → Nat → Prop)) : Prop := ob (gP s 9 6 p0) (fun v1 => (ob v1 (fun b2 => (ob (gI s 10 1 b2) (fun v3 => (if a1 < v3 then (ob (gP s 9 6 p0) (fun v5 => (ob v5 (fun b6 => (ob (gP s 10 0 b6) (fun v7 => (ob v7 (fun b8 => (ob (rQ s b8 a1) (fun v9 => (ob v9 (fun b10 => (ob (pZ s 8 7 b10 (0 : Int32)) (fun s11 => ((P2 (a1 + (1 : Int32)) s11 kc ks)))))))))))))))) else ((ob (pI s 9 18 p0 ((-1) : Int32)) (fun s4 => (Q s4 kc ks))))))))))
def C_Rr_forgetChanges_b2 (sa : Nat → Nat) (p0 : Nat) (a1 : Int32) (s : cS) (kc ks : Nat) (Q : (cS → Nat → Nat → Prop)) : Prop := ∀ P2 : (Int32 → cS → Nat → Nat → Prop), (∀ (a1 : Int32) (s : cS) (kc ks : Nat), C_Rr_forgetChanges_s2 sa p0 a1 s kc ks Q P2 → P2 a1 s kc ks) → P2 a1 s kc ks
def C_Rr_forgetChanges (sa : Nat → Nat) (p0 : Nat) (s : cS) (kc ks : Nat) (Q : (cS → Nat → Nat → Prop)) : Prop := (C_Rr_forgetChanges_b2 sa p0 (0 : Int32) s kc ks Q)
set_option maxRecDepth 100000 in
set_option maxHeartbeats 4000000 in
theorem kc_Rr_forgetChanges (base : Nat) (sa : Nat → Nat) {R : pmM} {s : cS} {kc ks : Nat} {Rt : pmR} {p0 : Nat} {Q : (cS → Nat → Nat → Prop)} (hw : cW sa R base s) (h : C_Rr_forgetChanges sa p0 s kc ks Q) (k : ∀ s' kc' ks', cW sa R base s' → Q s' kc' ks' → Rt none (cM R s') kc' ks') : kP_Rr_forgetChanges base sa [.ref p0] (cM R s) kc ks Rt := by
  refine ⟨Nat.le_of_ble_eq_true rfl, fun G hG => ?_⟩
  have b2 : ∀ (a1 : Int32) (s : cS) (kc ks : Nat), KK sa R base G 2 [(0, va_rf (some p0)), (1, .int a1)] [] s kc ks (C_Rr_forgetChanges_b2 sa p0 a1 s kc ks Q) := by
    have H : ∀ (P2 : (Int32 → cS → Nat → Nat → Prop)) (hP2 : ∀ (a1 : Int32) (s : cS) (kc ks : Nat), P2 a1 s kc ks → cW sa R base s → G 2 [(0, va_rf (some p0)), (1, .int a1)] [] (cM R s) kc ks) (a1 : Int32) (s : cS) (kc ks : Nat), KK sa R base G 2 [(0, va_rf (some p0)), (1, .int a1)] [] s kc ks (C_Rr_forgetChanges_s2 sa p0 a1 s kc ks Q P2) := by
      intro P2 hP2
      intro a1 s kc ks
      refine kks hG rfl rfl ?_
      refine kk_aln hG (x := (some p0)) rfl rfl ?_
      refine kk_gp hG (c := 9) (k := 6) (a := p0) rfl rfl rfl rfl (fun v1 => ?_)
      refine kk_ob (fun b2 eb2 => ?_)
      subst eb2
      refine kk_gi hG (c := 10) (k := 1) (a := b2) rfl rfl rfl rfl (fun v3 => ?_)
      refine kk_ige hG (t := 32) rfl rfl ?_ ?_
      · refine kk_aln hG (x := (some p0)) rfl rfl ?_
        refine kk_ic hG rfl cc_im1 ?_
        refine kk_pi hG (c := 9) (k := 18) (a := p0) rfl rfl rfl rfl (fun s4 => ?_)
        exact kk_rv hG rfl rfl k
      refine kk_aln hG (x := (some p0)) rfl rfl ?_
      refine kk_gp hG (c := 9) (k := 6) (a := p0) rfl rfl rfl rfl (fun v5 => ?_)
      refine kk_ob (fun b6 eb6 => ?_)
      subst eb6
      refine kk_gp hG (c := 10) (k := 0) (a := b6) rfl rfl rfl rfl (fun v7 => ?_)
      refine kks hG rfl rfl ?_
      refine kk_ob (fun b8 eb8 => ?_)
      subst eb8
      refine kk_aa hG (a := b8) rfl (fun v9 => ?_)
      refine kk_ic hG rfl cc_i0 ?_
      refine kk_ob (fun b10 eb10 => ?_)
      subst eb10
      refine kk_pz hG (c := 8) (k := 7) (a := b10) rfl rfl rfl rfl (fun s11 => ?_)
      refine kk_inc hG (L' := [(1, .int (a1 + (1 : Int32))), (0, va_rf (some p0))]) rfl (Nat.le_of_ble_eq_true rfl) rfl cc_i1 rfl ?_
      refine kk_go hG (t := 2) rfl rfl ?_
      exact kk_wl hG [1, 0] rfl (fun hw h => hP2 _ _ _ _ h hw)
    exact fun a1 s kc ks hw h => h (fun a1 s kc ks => cW sa R base s → G 2 [(0, va_rf (some p0)), (1, .int a1)] [] (cM R s) kc ks) (fun a1 s kc ks hs hw => H _ (fun _ _ _ _ hp hw => hp hw) a1 s kc ks hw hs) hw
  refine (show KK sa R base G 0 [(0, va_rf (some p0))] [] s kc ks (C_Rr_forgetChanges sa p0 s kc ks Q) from ?_) hw h
  refine kk_ic hG rfl cc_i0 ?_
  refine kk_st hG (L' := [(1, .int (0 : Int32)), (0, va_rf (some p0))]) rfl rfl (Nat.le_of_ble_eq_true rfl) rfl ?_
  exact kk_wl hG [1, 0] rfl (b2 _ _ _ _)
def C_Rr_takeTurn (sa : Nat → Nat) (p0 : Nat) (s : cS) (kc ks : Nat) (Q : (cS → Nat → Nat → Prop)) : Prop := okO s 9 p0 ∧ C_Rr_age sa p0 s kc ks (fun sr1 cr1 dr1 => (ob (gP sr1 9 0 p0) (fun v2 => (ob v2 (fun b3 => (ob (gI sr1 11 5 b3) (fun v4 => (ob (gI sr1 9 17 p0) (fun v5 => (if v4 < v5 then (ob (gI sr1 9 18 p0) (fun v6 => (if v6 = ((-1) : Int32) then (Q sr1 cr1 dr1) else (ob (gP sr1 9 0 p0) (fun v7 => (ob v7 (fun b8 => (ob (gI sr1 11 5 b8) (fun v9 => (ob (gI sr1 9 18 p0) (fun v10 => (if v9 < v10 then (Q sr1 cr1 dr1) else (okO sr1 9 p0 ∧ C_Rr_tell sa p0 (1 : Int32) sr1 cr1 dr1 (fun sr11 cr11 dr11 => (ob (gP sr11 9 16 p0) (fun v12 => (ob v12 (fun b13 => (ob (rE sr11 .int b13 (6 : Int32)) (fun v14 => (ob (wEi sr11 b13 (6 : Int32) (v14 + (1 : Int32))) (fun s15 => (okO s15 9 p0 ∧ C_Rr_forgetChanges sa p0 s15 cr11 dr11 (fun sr16 cr16 dr16 => (Q sr16 cr16 dr16))))))))))))))))))))))))) else (okO sr1 9 p0 ∧ C_Rr_tell sa p0 (0 : Int32) sr1 cr1 dr1 (fun sr17 cr17 dr17 => (ob (gP sr17 9 0 p0) (fun v18 => (ob v18 (fun b19 => (ob (gI sr17 11 5 b19) (fun v20 => (ob (gP sr17 9 15 p0) (fun v21 => (ob v21 (fun b22 => (ob (rE sr17 .int b22 (0 : Int32)) (fun v23 => (ob (pI sr17 9 17 p0 (v20 + v23)) (fun s24 => (okO s24 9 p0 ∧ C_Rr_forgetChanges sa p0 s24 cr17 dr17 (fun sr25 cr25 dr25 => (Q sr25 cr25 dr25)))))))))))))))))))))))))))))
set_option maxRecDepth 100000 in
set_option maxHeartbeats 4000000 in
theorem kc_Rr_takeTurn (base : Nat) (sa : Nat → Nat) {R : pmM} {s : cS} {kc ks : Nat} {Rt : pmR} {p0 : Nat} {Q : (cS → Nat → Nat → Prop)} (hw : cW sa R base s) (h : C_Rr_takeTurn sa p0 s kc ks Q) (k : ∀ s' kc' ks', cW sa R base s' → Q s' kc' ks' → Rt none (cM R s') kc' ks') : kP_Rr_takeTurn base sa [.ref p0] (cM R s) kc ks Rt := by
  refine ⟨Nat.le_of_ble_eq_true rfl, fun G hG => ?_⟩
  refine (show KK sa R base G 0 [(0, va_rf (some p0))] [] s kc ks (C_Rr_takeTurn sa p0 s kc ks Q) from ?_) hw h
  refine kk_aln hG (x := (some p0)) rfl rfl ?_
  refine kk_cv hG 0 rfl rfl (Nat.le_of_ble_eq_true rfl) (by decide) rfl (st' := []) rfl (cats_le (Nat.le_of_ble_eq_true rfl)) (fun _ hw h k => kk_rcv h.1 (kc_Rr_age base sa hw h.2 k)) (fun sr1 cr1 dr1 => ?_)
  refine kk_aln hG (x := (some p0)) rfl rfl ?_
  refine kk_gp hG (c := 9) (k := 0) (a := p0) rfl rfl rfl rfl (fun v2 => ?_)
  refine kk_ob (fun b3 eb3 => ?_)
  subst eb3
  refine kk_gi hG (c := 11) (k := 5) (a := b3) rfl rfl rfl rfl (fun v4 => ?_)
  refine kk_aln hG (x := (some p0)) rfl rfl ?_
  refine kk_gi hG (c := 9) (k := 17) (a := p0) rfl rfl rfl rfl (fun v5 => ?_)
  refine kk_ilt hG (t := 48) rfl rfl ?_ ?_
  · refine kk_aln hG (x := (some p0)) rfl rfl ?_
    refine kk_gi hG (c := 9) (k := 18) (a := p0) rfl rfl rfl rfl (fun v6 => ?_)
    refine kk_ic hG rfl cc_im1 ?_
    refine kk_ieq hG (t := 90) rfl rfl ?_ ?_
    · exact kk_rv hG rfl rfl k
    refine kk_aln hG (x := (some p0)) rfl rfl ?_
    refine kk_gp hG (c := 9) (k := 0) (a := p0) rfl rfl rfl rfl (fun v7 => ?_)
    refine kk_ob (fun b8 eb8 => ?_)
    subst eb8
    refine kk_gi hG (c := 11) (k := 5) (a := b8) rfl rfl rfl rfl (fun v9 => ?_)
    refine kk_aln hG (x := (some p0)) rfl rfl ?_
    refine kk_gi hG (c := 9) (k := 18) (a := p0) rfl rfl rfl rfl (fun v10 => ?_)
    refine kk_ilt hG (t := 90) rfl rfl ?_ ?_
    · exact kk_rv hG rfl rfl k
    refine kk_aln hG (x := (some p0)) rfl rfl ?_
    refine kk_ic hG rfl cc_i1 ?_
    refine kk_cv hG 0 rfl rfl (Nat.le_of_ble_eq_true rfl) (by decide) rfl (st' := []) rfl (cats_le (Nat.le_of_ble_eq_true rfl)) (fun _ hw h k => kk_rcv h.1 (kc_Rr_tell base sa hw h.2 k)) (fun sr11 cr11 dr11 => ?_)
    refine kk_aln hG (x := (some p0)) rfl rfl ?_
    refine kk_gp hG (c := 9) (k := 16) (a := p0) rfl rfl rfl rfl (fun v12 => ?_)
    refine kk_bi hG rfl cc_b6 ?_
    refine kk_dup2 hG (x := v12) rfl ?_
    refine kk_ob (fun b13 eb13 => ?_)
    subst eb13
    refine kk_ia hG (a := b13) rfl (fun v14 => ?_)
    refine kk_ic hG rfl cc_i1 ?_
    refine kks hG rfl rfl ?_
    refine kk_is hG (a := b13) rfl (fun s15 => ?_)
    refine kk_aln hG (x := (some p0)) rfl rfl ?_
    refine kk_cv hG 0 rfl rfl (Nat.le_of_ble_eq_true rfl) (by decide) rfl (st' := []) rfl (cats_le (Nat.le_of_ble_eq_true rfl)) (fun _ hw h k => kk_rcv h.1 (kc_Rr_forgetChanges base sa hw h.2 k)) (fun sr16 cr16 dr16 => ?_)
    exact kk_rv hG rfl rfl k
  refine kk_aln hG (x := (some p0)) rfl rfl ?_
  refine kk_ic hG rfl cc_i0 ?_
  refine kk_cv hG 0 rfl rfl (Nat.le_of_ble_eq_true rfl) (by decide) rfl (st' := []) rfl (cats_le (Nat.le_of_ble_eq_true rfl)) (fun _ hw h k => kk_rcv h.1 (kc_Rr_tell base sa hw h.2 k)) (fun sr17 cr17 dr17 => ?_)
  refine kk_aln hG (x := (some p0)) rfl rfl ?_
  refine kk_aln hG (x := (some p0)) rfl rfl ?_
  refine kk_gp hG (c := 9) (k := 0) (a := p0) rfl rfl rfl rfl (fun v18 => ?_)
  refine kk_ob (fun b19 eb19 => ?_)
  subst eb19
  refine kk_gi hG (c := 11) (k := 5) (a := b19) rfl rfl rfl rfl (fun v20 => ?_)
  refine kk_aln hG (x := (some p0)) rfl rfl ?_
  refine kk_gp hG (c := 9) (k := 15) (a := p0) rfl rfl rfl rfl (fun v21 => ?_)
  refine kk_ic hG rfl cc_i0 ?_
  refine kk_ob (fun b22 eb22 => ?_)
  subst eb22
  refine kk_ia hG (a := b22) rfl (fun v23 => ?_)
  refine kks hG rfl rfl ?_
  refine kk_pi hG (c := 9) (k := 17) (a := p0) rfl rfl rfl rfl (fun s24 => ?_)
  refine kk_aln hG (x := (some p0)) rfl rfl ?_
  refine kk_cv hG 0 rfl rfl (Nat.le_of_ble_eq_true rfl) (by decide) rfl (st' := []) rfl (cats_le (Nat.le_of_ble_eq_true rfl)) (fun _ hw h k => kk_rcv h.1 (kc_Rr_forgetChanges base sa hw h.2 k)) (fun sr25 cr25 dr25 => ?_)
  refine kk_go hG (t := 90) rfl rfl ?_
  exact kk_rv hG rfl rfl k
def C_Rf_ticks_b77 (sa : Nat → Nat) (p0 : Nat) (p1 : Int32) (a2 : Int32) (a3 : Int32) (s : cS) (kc ks : Nat) (Q : (Int32 → cS → Nat → Nat → Prop)) (P27 : (Int32 → cS → Nat → Nat → Prop)) (P48 : (Int32 → cS → Nat → Nat → Prop)) : Prop := (P48 (a3 + (1 : Int32)) s kc ks)
def C_Rf_ticks_s48 (sa : Nat → Nat) (p0 : Nat) (p1 : Int32) (a2 : Int32) (a3 : Int32) (s : cS) (kc ks : Nat) (Q : (Int32 → cS → Nat → Nat → Prop)) (P27 : (Int32 → cS → Nat → Nat → Prop)) (P48 : (Int32 → cS → Nat → Nat → Prop)) : Prop := ob (gI s 11 9 p0) (fun v1 => (if a3 < v1 then (ob (gP s 11 8 p0) (fun v2 => (ob v2 (fun b3 => (ob (rQ s b3 a3) (fun v4 => (ob v4 (fun b5 => (ob (gI s 9 3 b5) (fun v6 => (if v6 = 0 then ((C_Rf_ticks_b77 sa p0 p1 a2 a3 s kc ks Q P27 P48)) else (ob (gP s 11 8 p0) (fun v7 => (ob v7 (fun b8 => (ob (rQ s b8 a3) (fun v9 => (ob v9 (fun b10 => (okO s 9 b10 ∧ C_Rr_takeTurn sa b10 s kc ks (fun sr11 cr11 dr11 => ((C_Rf_ticks_b77 sa p0 p1 a2 a3 sr11 cr11 dr11 Q P27 P48))))))))))))))))))))))) else (((P27 (a2 + (1 : Int32)) s kc ks)))))
def C_Rf_ticks_b48 (sa : Nat → Nat) (p0 : Nat) (p1 : Int32) (a2 : Int32) (a3 : Int32) (s : cS) (kc ks : Nat) (Q : (Int32 → cS → Nat → Nat → Prop)) (P27 : (Int32 → cS → Nat → Nat → Prop)) : Prop := ∀ P48 : (Int32 → cS → Nat → Nat → Prop), (∀ (a3 : Int32) (s : cS) (kc ks : Nat), C_Rf_ticks_s48 sa p0 p1 a2 a3 s kc ks Q P27 P48 → P48 a3 s kc ks) → P48 a3 s kc ks
def C_Rf_ticks_s27 (sa : Nat → Nat) (p0 : Nat) (p1 : Int32) (a2 : Int32) (s : cS) (kc ks : Nat) (Q : (Int32 → cS → Nat → Nat → Prop)) (P27 : (Int32 → cS → Nat → Nat → Prop)) : Prop := if a2 < p1 then (ob (gI s 11 5 p0) (fun v2 => (ob (pI s 11 5 p0 (v2 + (1 : Int32))) (fun s3 => (okO s3 11 p0 ∧ C_Rf_bringDue sa p0 s3 kc ks (fun sr4 cr4 dr4 => ((C_Rf_ticks_b48 sa p0 p1 a2 (0 : Int32) sr4 cr4 dr4 Q P27)))))))) else ((ob (gI s 11 5 p0) (fun v1 => (Q v1 s kc ks))))
def C_Rf_ticks_b27 (sa : Nat → Nat) (p0 : Nat) (p1 : Int32) (a2 : Int32) (s : cS) (kc ks : Nat) (Q : (Int32 → cS → Nat → Nat → Prop)) : Prop := ∀ P27 : (Int32 → cS → Nat → Nat → Prop), (∀ (a2 : Int32) (s : cS) (kc ks : Nat), C_Rf_ticks_s27 sa p0 p1 a2 s kc ks Q P27 → P27 a2 s kc ks) → P27 a2 s kc ks
def C_Rf_ticks (sa : Nat → Nat) (p0 : Nat) (p1 : Int32) (s : cS) (kc ks : Nat) (Q : (Int32 → cS → Nat → Nat → Prop)) : Prop := if p1 < 0 then (Q ((-1) : Int32) s kc ks) else (if (2000 : Int32) < p1 then (Q ((-1) : Int32) s kc ks) else (ob (gI s 11 5 p0) (fun v1 => (if (20000 : Int32) < (v1 + p1) then (Q ((-1) : Int32) s kc ks) else ((C_Rf_ticks_b27 sa p0 p1 (0 : Int32) s kc ks Q))))))
set_option maxRecDepth 100000 in
set_option maxHeartbeats 4000000 in
theorem kc_Rf_ticks (base : Nat) (sa : Nat → Nat) {R : pmM} {s : cS} {kc ks : Nat} {Rt : pmR} {p0 : Nat} {p1 : Int32} {Q : (Int32 → cS → Nat → Nat → Prop)} (hw : cW sa R base s) (h : C_Rf_ticks sa p0 p1 s kc ks Q) (k : ∀ r s' kc' ks', cW sa R base s' → Q r s' kc' ks' → Rt (some (.int r)) (cM R s') kc' ks') : kP_Rf_ticks base sa [.ref p0, .int p1] (cM R s) kc ks Rt := by
  refine ⟨Nat.le_of_ble_eq_true rfl, fun G hG => ?_⟩
  have b27 : ∀ (a2 : Int32) (s : cS) (kc ks : Nat), KK sa R base G 27 [(0, va_rf (some p0)), (1, .int p1), (2, .int a2)] [] s kc ks (C_Rf_ticks_b27 sa p0 p1 a2 s kc ks Q) := by
    have H : ∀ (P27 : (Int32 → cS → Nat → Nat → Prop)) (hP27 : ∀ (a2 : Int32) (s : cS) (kc ks : Nat), P27 a2 s kc ks → cW sa R base s → G 27 [(0, va_rf (some p0)), (1, .int p1), (2, .int a2)] [] (cM R s) kc ks) (a2 : Int32) (s : cS) (kc ks : Nat), KK sa R base G 27 [(0, va_rf (some p0)), (1, .int p1), (2, .int a2)] [] s kc ks (C_Rf_ticks_s27 sa p0 p1 a2 s kc ks Q P27) := by
      intro P27 hP27
      have b48 : ∀ (a2 : Int32) (a3 : Int32) (s : cS) (kc ks : Nat), KK sa R base G 48 [(0, va_rf (some p0)), (1, .int p1), (2, .int a2), (3, .int a3)] [] s kc ks (C_Rf_ticks_b48 sa p0 p1 a2 a3 s kc ks Q P27) := by
        intro a2
        have H : ∀ (P48 : (Int32 → cS → Nat → Nat → Prop)) (hP48 : ∀ (a3 : Int32) (s : cS) (kc ks : Nat), P48 a3 s kc ks → cW sa R base s → G 48 [(0, va_rf (some p0)), (1, .int p1), (2, .int a2), (3, .int a3)] [] (cM R s) kc ks) (a3 : Int32) (s : cS) (kc ks : Nat), KK sa R base G 48 [(0, va_rf (some p0)), (1, .int p1), (2, .int a2), (3, .int a3)] [] s kc ks (C_Rf_ticks_s48 sa p0 p1 a2 a3 s kc ks Q P27 P48) := by
          intro P48 hP48
          have b77 : ∀ (a3 : Int32) (s : cS) (kc ks : Nat), KK sa R base G 77 [(0, va_rf (some p0)), (1, .int p1), (2, .int a2), (3, .int a3)] [] s kc ks (C_Rf_ticks_b77 sa p0 p1 a2 a3 s kc ks Q P27 P48) := by
            intro a3 s kc ks
            refine kk_inc hG (L' := [(3, .int (a3 + (1 : Int32))), (0, va_rf (some p0)), (1, .int p1), (2, .int a2)]) rfl (Nat.le_of_ble_eq_true rfl) rfl cc_i1 rfl ?_
            refine kk_go hG (t := 48) rfl rfl ?_
            exact kk_wl hG [1, 2, 3, 0] rfl (fun hw h => hP48 _ _ _ _ h hw)
          intro a3 s kc ks
          refine kks hG rfl rfl ?_
          refine kk_aln hG (x := (some p0)) rfl rfl ?_
          refine kk_gi hG (c := 11) (k := 9) (a := p0) rfl rfl rfl rfl (fun v1 => ?_)
          refine kk_ige hG (t := 83) rfl rfl ?_ ?_
          · refine kk_inc hG (L' := [(2, .int (a2 + (1 : Int32))), (0, va_rf (some p0)), (1, .int p1), (3, .int a3)]) rfl (Nat.le_of_ble_eq_true rfl) rfl cc_i1 rfl ?_
            refine kk_go hG (t := 27) rfl rfl ?_
            exact kk_wl hG [1, 2, 0] rfl (fun hw h => hP27 _ _ _ _ h hw)
          refine kk_aln hG (x := (some p0)) rfl rfl ?_
          refine kk_gp hG (c := 11) (k := 8) (a := p0) rfl rfl rfl rfl (fun v2 => ?_)
          refine kks hG rfl rfl ?_
          refine kk_ob (fun b3 eb3 => ?_)
          subst eb3
          refine kk_aa hG (a := b3) rfl (fun v4 => ?_)
          refine kk_ob (fun b5 eb5 => ?_)
          subst eb5
          refine kk_gi hG (c := 9) (k := 3) (a := b5) rfl rfl rfl rfl (fun v6 => ?_)
          refine kk_zeq hG (t := 77) rfl rfl ?_ ?_
          · exact kk_wl hG [0, 1, 2, 3] rfl (b77 _ _ _ _)
          refine kk_aln hG (x := (some p0)) rfl rfl ?_
          refine kk_gp hG (c := 11) (k := 8) (a := p0) rfl rfl rfl rfl (fun v7 => ?_)
          refine kks hG rfl rfl ?_
          refine kk_ob (fun b8 eb8 => ?_)
          subst eb8
          refine kk_aa hG (a := b8) rfl (fun v9 => ?_)
          refine kk_ob (fun b10 eb10 => ?_)
          subst eb10
          refine kk_cv hG 0 rfl rfl (Nat.le_of_ble_eq_true rfl) (by decide) rfl (st' := []) rfl (cats_le (Nat.le_of_ble_eq_true rfl)) (fun _ hw h k => kk_rcv h.1 (kc_Rr_takeTurn base sa hw h.2 k)) (fun sr11 cr11 dr11 => ?_)
          exact kk_wl hG [0, 1, 2, 3] rfl (b77 _ _ _ _)
        exact fun a3 s kc ks hw h => h (fun a3 s kc ks => cW sa R base s → G 48 [(0, va_rf (some p0)), (1, .int p1), (2, .int a2), (3, .int a3)] [] (cM R s) kc ks) (fun a3 s kc ks hs hw => H _ (fun _ _ _ _ hp hw => hp hw) a3 s kc ks hw hs) hw
      intro a2 s kc ks
      refine kks hG rfl rfl ?_
      refine kks hG rfl rfl ?_
      refine kk_ige hG (t := 89) rfl rfl ?_ ?_
      · refine kk_aln hG (x := (some p0)) rfl rfl ?_
        refine kk_gi hG (c := 11) (k := 5) (a := p0) rfl rfl rfl rfl (fun v1 => ?_)
        exact kk_ri hG rfl rfl rfl k
      refine kk_aln hG (x := (some p0)) rfl rfl ?_
      refine kk_dup hG (x := (some p0)) rfl ?_
      refine kk_gi hG (c := 11) (k := 5) (a := p0) rfl rfl rfl rfl (fun v2 => ?_)
      refine kk_ic hG rfl cc_i1 ?_
      refine kks hG rfl rfl ?_
      refine kk_pi hG (c := 11) (k := 5) (a := p0) rfl rfl rfl rfl (fun s3 => ?_)
      refine kk_aln hG (x := (some p0)) rfl rfl ?_
      refine kk_cv hG 0 rfl rfl (Nat.le_of_ble_eq_true rfl) (by decide) rfl (st' := []) rfl (cats_le (Nat.le_of_ble_eq_true rfl)) (fun _ hw h k => kk_rcv h.1 (kc_Rf_bringDue base sa hw h.2 k)) (fun sr4 cr4 dr4 => ?_)
      refine kk_ic hG rfl cc_i0 ?_
      refine kk_st hG (L' := [(3, .int (0 : Int32)), (0, va_rf (some p0)), (1, .int p1), (2, .int a2)]) rfl rfl (Nat.le_of_ble_eq_true rfl) rfl ?_
      exact kk_wl hG [1, 2, 3, 0] rfl (b48 _ _ _ _ _)
    exact fun a2 s kc ks hw h => h (fun a2 s kc ks => cW sa R base s → G 27 [(0, va_rf (some p0)), (1, .int p1), (2, .int a2)] [] (cM R s) kc ks) (fun a2 s kc ks hs hw => H _ (fun _ _ _ _ hp hw => hp hw) a2 s kc ks hw hs) hw
  refine (show KK sa R base G 0 [(0, va_rf (some p0)), (1, .int p1)] [] s kc ks (C_Rf_ticks sa p0 p1 s kc ks Q) from ?_) hw h
  refine kks hG rfl rfl ?_
  refine kk_zlt hG (t := 23) rfl rfl ?_ ?_
  · refine kk_ic hG rfl cc_im1 ?_
    exact kk_ri hG rfl rfl rfl k
  refine kks hG rfl rfl ?_
  refine kk_si hG rfl cc_s2000 ?_
  refine kk_igt hG (t := 23) rfl rfl ?_ ?_
  · refine kk_ic hG rfl cc_im1 ?_
    exact kk_ri hG rfl rfl rfl k
  refine kk_aln hG (x := (some p0)) rfl rfl ?_
  refine kk_gi hG (c := 11) (k := 5) (a := p0) rfl rfl rfl rfl (fun v1 => ?_)
  refine kks hG rfl rfl ?_
  refine kks hG rfl rfl ?_
  refine kk_si hG rfl cc_s20000 ?_
  refine kk_ile hG (t := 25) rfl rfl ?_ ?_
  · refine kk_ic hG rfl cc_i0 ?_
    refine kk_st hG (L' := [(2, .int (0 : Int32)), (0, va_rf (some p0)), (1, .int p1)]) rfl rfl (Nat.le_of_ble_eq_true rfl) rfl ?_
    exact kk_wl hG [1, 2, 0] rfl (b27 _ _ _ _)
  refine kk_ic hG rfl cc_im1 ?_
  exact kk_ri hG rfl rfl rfl k
def C_Rf_raise_b35 (sa : Nat → Nat) (p0 : Nat) (p1 : Option Nat) (a2 : Int32) (s : cS) (kc ks : Nat) (Q : (cS → Nat → Nat → Prop)) (P2 : (Int32 → cS → Nat → Nat → Prop)) : Prop := (P2 (a2 + (1 : Int32)) s kc ks)
def C_Rf_raise_b101 (sa : Nat → Nat) (p0 : Nat) (p1 : Option Nat) (a2 : Int32) (s : cS) (kc ks : Nat) (Q : (cS → Nat → Nat → Prop)) (P43 : (Int32 → cS → Nat → Nat → Prop)) : Prop := (P43 (a2 + (1 : Int32)) s kc ks)
def C_Rf_raise_s43 (sa : Nat → Nat) (p0 : Nat) (p1 : Option Nat) (a2 : Int32) (s : cS) (kc ks : Nat) (Q : (cS → Nat → Nat → Prop)) (P43 : (Int32 → cS → Nat → Nat → Prop)) : Prop := ob (gI s 11 9 p0) (fun v1 => (if a2 < v1 then (ob (gP s 11 8 p0) (fun v2 => (ob v2 (fun b3 => (ob (rQ s b3 a2) (fun v4 => (ob v4 (fun b5 => (okO s 9 b5 ∧ C_Rr_portOn sa b5 p1 s kc ks (fun r6 sr6 cr6 dr6 => (if r6 = none then ((C_Rf_raise_b101 sa p0 p1 a2 sr6 cr6 dr6 Q P43)) else (ob (gP sr6 11 8 p0) (fun v7 => (ob v7 (fun b8 => (ob (rQ sr6 b8 a2) (fun v9 => (ob v9 (fun b10 => (ob (gI sr6 9 3 b10) (fun v11 => (if v11 = 0 then ((C_Rf_raise_b101 sa p0 p1 a2 sr6 cr6 dr6 Q P43)) else (ob (gP sr6 11 8 p0) (fun v12 => (ob v12 (fun b13 => (ob (rQ sr6 b13 a2) (fun v14 => (ob v14 (fun b15 => (okO sr6 9 b15 ∧ C_Rr_ask sa b15 r6 (4 : Int32) sr6 cr6 dr6 (fun sr16 cr16 dr16 => (ob (gP sr16 11 8 p0) (fun v17 => (ob v17 (fun b18 => (ob (rQ sr16 b18 a2) (fun v19 => (ob v19 (fun b20 => (okO sr16 9 b20 ∧ C_Rr_ask sa b20 r6 (6 : Int32) sr16 cr16 dr16 (fun sr21 cr21 dr21 => ((C_Rf_raise_b101 sa p0 p1 a2 sr21 cr21 dr21 Q P43)))))))))))))))))))))))))))))))))))))))))))) else ((Q s kc ks))))
def C_Rf_raise_b43 (sa : Nat → Nat) (p0 : Nat) (p1 : Option Nat) (a2 : Int32) (s : cS) (kc ks : Nat) (Q : (cS → Nat → Nat → Prop)) : Prop := ∀ P43 : (Int32 → cS → Nat → Nat → Prop), (∀ (a2 : Int32) (s : cS) (kc ks : Nat), C_Rf_raise_s43 sa p0 p1 a2 s kc ks Q P43 → P43 a2 s kc ks) → P43 a2 s kc ks
def C_Rf_raise_s2 (sa : Nat → Nat) (p0 : Nat) (p1 : Option Nat) (a2 : Int32) (s : cS) (kc ks : Nat) (Q : (cS → Nat → Nat → Prop)) (P2 : (Int32 → cS → Nat → Nat → Prop)) : Prop := ob (gI s 11 9 p0) (fun v1 => (if a2 < v1 then (ob (gP s 11 8 p0) (fun v2 => (ob v2 (fun b3 => (ob (rQ s b3 a2) (fun v4 => (ob v4 (fun b5 => (okO s 9 b5 ∧ C_Rr_portOn sa b5 p1 s kc ks (fun r6 sr6 cr6 dr6 => (if r6 = none then ((C_Rf_raise_b35 sa p0 p1 a2 sr6 cr6 dr6 Q P2)) else (ob (gP sr6 11 8 p0) (fun v7 => (ob v7 (fun b8 => (ob (rQ sr6 b8 a2) (fun v9 => (ob v9 (fun b10 => (okO sr6 9 b10 ∧ C_Rr_settlePort sa b10 r6 sr6 cr6 dr6 (fun sr11 cr11 dr11 => ((C_Rf_raise_b35 sa p0 p1 a2 sr11 cr11 dr11 Q P2))))))))))))))))))))))) else (((C_Rf_raise_b43 sa p0 p1 (0 : Int32) s kc ks Q)))))
def C_Rf_raise_b2 (sa : Nat → Nat) (p0 : Nat) (p1 : Option Nat) (a2 : Int32) (s : cS) (kc ks : Nat) (Q : (cS → Nat → Nat → Prop)) : Prop := ∀ P2 : (Int32 → cS → Nat → Nat → Prop), (∀ (a2 : Int32) (s : cS) (kc ks : Nat), C_Rf_raise_s2 sa p0 p1 a2 s kc ks Q P2 → P2 a2 s kc ks) → P2 a2 s kc ks
def C_Rf_raise (sa : Nat → Nat) (p0 : Nat) (p1 : Option Nat) (s : cS) (kc ks : Nat) (Q : (cS → Nat → Nat → Prop)) : Prop := (C_Rf_raise_b2 sa p0 p1 (0 : Int32) s kc ks Q)
set_option maxRecDepth 100000 in
set_option maxHeartbeats 4000000 in
theorem kc_Rf_raise (base : Nat) (sa : Nat → Nat) {R : pmM} {s : cS} {kc ks : Nat} {Rt : pmR} {p0 : Nat} {p1 : Option Nat} {Q : (cS → Nat → Nat → Prop)} (hw : cW sa R base s) (h : C_Rf_raise sa p0 p1 s kc ks Q) (k : ∀ s' kc' ks', cW sa R base s' → Q s' kc' ks' → Rt none (cM R s') kc' ks') : kP_Rf_raise base sa [.ref p0, va_rf p1] (cM R s) kc ks Rt := by
  refine ⟨by cases p1 <;> exact Nat.le_of_ble_eq_true rfl, fun G hG => ?_⟩
  have eL : lv_args 0 [.ref p0, va_rf p1] = [(0, va_rf (some p0)), (1, va_rf p1)] := by cases p1 <;> rfl
  rw [eL]
  have b43 : ∀ (a2 : Int32) (s : cS) (kc ks : Nat), KK sa R base G 43 [(0, va_rf (some p0)), (1, va_rf p1), (2, .int a2)] [] s kc ks (C_Rf_raise_b43 sa p0 p1 a2 s kc ks Q) := by
    have H : ∀ (P43 : (Int32 → cS → Nat → Nat → Prop)) (hP43 : ∀ (a2 : Int32) (s : cS) (kc ks : Nat), P43 a2 s kc ks → cW sa R base s → G 43 [(0, va_rf (some p0)), (1, va_rf p1), (2, .int a2)] [] (cM R s) kc ks) (a2 : Int32) (s : cS) (kc ks : Nat), KK sa R base G 43 [(0, va_rf (some p0)), (1, va_rf p1), (2, .int a2)] [] s kc ks (C_Rf_raise_s43 sa p0 p1 a2 s kc ks Q P43) := by
      intro P43 hP43
      have b101 : ∀ (a2 : Int32) (s : cS) (kc ks : Nat), KK sa R base G 101 [(0, va_rf (some p0)), (1, va_rf p1), (2, .int a2)] [] s kc ks (C_Rf_raise_b101 sa p0 p1 a2 s kc ks Q P43) := by
        intro a2 s kc ks
        refine kk_inc hG (L' := [(2, .int (a2 + (1 : Int32))), (0, va_rf (some p0)), (1, va_rf p1)]) rfl (Nat.le_of_ble_eq_true rfl) rfl cc_i1 (by cases p1 <;> rfl) ?_
        refine kk_go hG (t := 43) rfl rfl ?_
        exact kk_wl hG [1, 2, 0] rfl (fun hw h => hP43 _ _ _ _ h hw)
      intro a2 s kc ks
      refine kks hG rfl rfl ?_
      refine kk_aln hG (x := (some p0)) rfl rfl ?_
      refine kk_gi hG (c := 11) (k := 9) (a := p0) rfl rfl rfl rfl (fun v1 => ?_)
      refine kk_ige hG (t := 107) rfl rfl ?_ ?_
      · exact kk_rv hG rfl rfl k
      refine kk_aln hG (x := (some p0)) rfl rfl ?_
      refine kk_gp hG (c := 11) (k := 8) (a := p0) rfl rfl rfl rfl (fun v2 => ?_)
      refine kks hG rfl rfl ?_
      refine kk_ob (fun b3 eb3 => ?_)
      subst eb3
      refine kk_aa hG (a := b3) rfl (fun v4 => ?_)
      refine kk_aln hG (x := p1) rfl rfl ?_
      refine kk_ob (fun b5 eb5 => ?_)
      subst eb5
      refine kk_cx (w := va_rf) hG 0 rfl rfl (Nat.le_of_ble_eq_true rfl) (by decide) rfl (st' := []) rfl (cats_le (Nat.le_of_ble_eq_true rfl)) (fun _ hw h k => kk_rcv h.1 (kc_Rr_portOn base sa hw h.2 k)) (fun r6 sr6 cr6 dr6 => ?_)
      refine kk_asn hG (x := r6) (L' := [(3, va_rf r6), (0, va_rf (some p0)), (1, va_rf p1), (2, .int a2)]) rfl (Nat.le_of_ble_eq_true rfl) rfl ?_
      refine kk_aln hG (x := r6) rfl rfl ?_
      refine kk_nul hG (x := r6) (t := 101) rfl rfl ?_ ?_
      · exact kk_wl hG [1, 2, 3] rfl (b101 _ _ _ _)
      refine kk_aln hG (x := (some p0)) rfl rfl ?_
      refine kk_gp hG (c := 11) (k := 8) (a := p0) rfl rfl rfl rfl (fun v7 => ?_)
      refine kks hG rfl rfl ?_
      refine kk_ob (fun b8 eb8 => ?_)
      subst eb8
      refine kk_aa hG (a := b8) rfl (fun v9 => ?_)
      refine kk_ob (fun b10 eb10 => ?_)
      subst eb10
      refine kk_gi hG (c := 9) (k := 3) (a := b10) rfl rfl rfl rfl (fun v11 => ?_)
      refine kk_zeq hG (t := 101) rfl rfl ?_ ?_
      · exact kk_wl hG [1, 2, 3] rfl (b101 _ _ _ _)
      refine kk_aln hG (x := (some p0)) rfl rfl ?_
      refine kk_gp hG (c := 11) (k := 8) (a := p0) rfl rfl rfl rfl (fun v12 => ?_)
      refine kks hG rfl rfl ?_
      refine kk_ob (fun b13 eb13 => ?_)
      subst eb13
      refine kk_aa hG (a := b13) rfl (fun v14 => ?_)
      refine kk_aln hG (x := r6) rfl rfl ?_
      refine kk_ic hG rfl cc_i4 ?_
      refine kk_ob (fun b15 eb15 => ?_)
      subst eb15
      refine kk_cv hG 0 rfl rfl (Nat.le_of_ble_eq_true rfl) (by decide) rfl (st' := []) rfl (cats_le (Nat.le_of_ble_eq_true rfl)) (fun _ hw h k => kk_rcv h.1 (kc_Rr_ask base sa hw h.2 k)) (fun sr16 cr16 dr16 => ?_)
      refine kk_aln hG (x := (some p0)) rfl rfl ?_
      refine kk_gp hG (c := 11) (k := 8) (a := p0) rfl rfl rfl rfl (fun v17 => ?_)
      refine kks hG rfl rfl ?_
      refine kk_ob (fun b18 eb18 => ?_)
      subst eb18
      refine kk_aa hG (a := b18) rfl (fun v19 => ?_)
      refine kk_aln hG (x := r6) rfl rfl ?_
      refine kk_bi hG rfl cc_b6 ?_
      refine kk_ob (fun b20 eb20 => ?_)
      subst eb20
      refine kk_cv hG 0 rfl rfl (Nat.le_of_ble_eq_true rfl) (by decide) rfl (st' := []) rfl (cats_le (Nat.le_of_ble_eq_true rfl)) (fun _ hw h k => kk_rcv h.1 (kc_Rr_ask base sa hw h.2 k)) (fun sr21 cr21 dr21 => ?_)
      exact kk_wl hG [1, 2, 3] rfl (b101 _ _ _ _)
    exact fun a2 s kc ks hw h => h (fun a2 s kc ks => cW sa R base s → G 43 [(0, va_rf (some p0)), (1, va_rf p1), (2, .int a2)] [] (cM R s) kc ks) (fun a2 s kc ks hs hw => H _ (fun _ _ _ _ hp hw => hp hw) a2 s kc ks hw hs) hw
  have b2 : ∀ (a2 : Int32) (s : cS) (kc ks : Nat), KK sa R base G 2 [(0, va_rf (some p0)), (1, va_rf p1), (2, .int a2)] [] s kc ks (C_Rf_raise_b2 sa p0 p1 a2 s kc ks Q) := by
    have H : ∀ (P2 : (Int32 → cS → Nat → Nat → Prop)) (hP2 : ∀ (a2 : Int32) (s : cS) (kc ks : Nat), P2 a2 s kc ks → cW sa R base s → G 2 [(0, va_rf (some p0)), (1, va_rf p1), (2, .int a2)] [] (cM R s) kc ks) (a2 : Int32) (s : cS) (kc ks : Nat), KK sa R base G 2 [(0, va_rf (some p0)), (1, va_rf p1), (2, .int a2)] [] s kc ks (C_Rf_raise_s2 sa p0 p1 a2 s kc ks Q P2) := by
      intro P2 hP2
      have b35 : ∀ (a2 : Int32) (s : cS) (kc ks : Nat), KK sa R base G 35 [(0, va_rf (some p0)), (1, va_rf p1), (2, .int a2)] [] s kc ks (C_Rf_raise_b35 sa p0 p1 a2 s kc ks Q P2) := by
        intro a2 s kc ks
        refine kk_inc hG (L' := [(2, .int (a2 + (1 : Int32))), (0, va_rf (some p0)), (1, va_rf p1)]) rfl (Nat.le_of_ble_eq_true rfl) rfl cc_i1 (by cases p1 <;> rfl) ?_
        refine kk_go hG (t := 2) rfl rfl ?_
        exact kk_wl hG [1, 2, 0] rfl (fun hw h => hP2 _ _ _ _ h hw)
      intro a2 s kc ks
      refine kks hG rfl rfl ?_
      refine kk_aln hG (x := (some p0)) rfl rfl ?_
      refine kk_gi hG (c := 11) (k := 9) (a := p0) rfl rfl rfl rfl (fun v1 => ?_)
      refine kk_ige hG (t := 41) rfl rfl ?_ ?_
      · refine kk_ic hG rfl cc_i0 ?_
        refine kk_st hG (L' := [(2, .int (0 : Int32)), (0, va_rf (some p0)), (1, va_rf p1)]) rfl rfl (Nat.le_of_ble_eq_true rfl) (by cases p1 <;> rfl) ?_
        exact kk_wl hG [1, 2, 0] rfl (b43 _ _ _ _)
      refine kk_aln hG (x := (some p0)) rfl rfl ?_
      refine kk_gp hG (c := 11) (k := 8) (a := p0) rfl rfl rfl rfl (fun v2 => ?_)
      refine kks hG rfl rfl ?_
      refine kk_ob (fun b3 eb3 => ?_)
      subst eb3
      refine kk_aa hG (a := b3) rfl (fun v4 => ?_)
      refine kk_aln hG (x := p1) rfl rfl ?_
      refine kk_ob (fun b5 eb5 => ?_)
      subst eb5
      refine kk_cx (w := va_rf) hG 0 rfl rfl (Nat.le_of_ble_eq_true rfl) (by decide) rfl (st' := []) rfl (cats_le (Nat.le_of_ble_eq_true rfl)) (fun _ hw h k => kk_rcv h.1 (kc_Rr_portOn base sa hw h.2 k)) (fun r6 sr6 cr6 dr6 => ?_)
      refine kk_asn hG (x := r6) (L' := [(3, va_rf r6), (0, va_rf (some p0)), (1, va_rf p1), (2, .int a2)]) rfl (Nat.le_of_ble_eq_true rfl) rfl ?_
      refine kk_aln hG (x := r6) rfl rfl ?_
      refine kk_nul hG (x := r6) (t := 35) rfl rfl ?_ ?_
      · exact kk_wl hG [1, 2, 3] rfl (b35 _ _ _ _)
      refine kk_aln hG (x := (some p0)) rfl rfl ?_
      refine kk_gp hG (c := 11) (k := 8) (a := p0) rfl rfl rfl rfl (fun v7 => ?_)
      refine kks hG rfl rfl ?_
      refine kk_ob (fun b8 eb8 => ?_)
      subst eb8
      refine kk_aa hG (a := b8) rfl (fun v9 => ?_)
      refine kk_aln hG (x := r6) rfl rfl ?_
      refine kk_ob (fun b10 eb10 => ?_)
      subst eb10
      refine kk_cv hG 0 rfl rfl (Nat.le_of_ble_eq_true rfl) (by decide) rfl (st' := []) rfl (cats_le (Nat.le_of_ble_eq_true rfl)) (fun _ hw h k => kk_rcv h.1 (kc_Rr_settlePort base sa hw h.2 k)) (fun sr11 cr11 dr11 => ?_)
      exact kk_wl hG [1, 2, 3] rfl (b35 _ _ _ _)
    exact fun a2 s kc ks hw h => h (fun a2 s kc ks => cW sa R base s → G 2 [(0, va_rf (some p0)), (1, va_rf p1), (2, .int a2)] [] (cM R s) kc ks) (fun a2 s kc ks hs hw => H _ (fun _ _ _ _ hp hw => hp hw) a2 s kc ks hw hs) hw
  refine (show KK sa R base G 0 [(0, va_rf (some p0)), (1, va_rf p1)] [] s kc ks (C_Rf_raise sa p0 p1 s kc ks Q) from ?_) hw h
  refine kk_ic hG rfl cc_i0 ?_
  refine kk_st hG (L' := [(2, .int (0 : Int32)), (0, va_rf (some p0)), (1, va_rf p1)]) rfl rfl (Nat.le_of_ble_eq_true rfl) (by cases p1 <;> rfl) ?_
  exact kk_wl hG [1, 2, 0] rfl (b2 _ _ _ _)
def C_Rf_dropFlights_b53 (sa : Nat → Nat) (p0 : Nat) (p1 : Option Nat) (a2 : Int32) (a3 : Int32) (s : cS) (kc ks : Nat) (Q : (cS → Nat → Nat → Prop)) (P4 : (Int32 → Int32 → cS → Nat → Nat → Prop)) : Prop := (P4 a2 (a3 + (1 : Int32)) s kc ks)
def C_Rf_dropFlights_s4 (sa : Nat → Nat) (p0 : Nat) (p1 : Option Nat) (a2 : Int32) (a3 : Int32) (s : cS) (kc ks : Nat) (Q : (cS → Nat → Nat → Prop)) (P4 : (Int32 → Int32 → cS → Nat → Nat → Prop)) : Prop := ob (gI s 11 13 p0) (fun v1 => (if a3 < v1 then (ob (gP s 11 12 p0) (fun v3 => (ob v3 (fun b4 => (ob (rQ s b4 a3) (fun v5 => (ob v5 (fun b6 => (ob (gP s 2 8 b6) (fun v7 => (if v7 = p1 then (ob (gP s 11 12 p0) (fun v14 => (ob v14 (fun b15 => (ob (rQ s b15 a3) (fun v16 => (okO s 11 p0 ∧ C_Rf_giveBack sa p0 v16 s kc ks (fun sr17 cr17 dr17 => ((C_Rf_dropFlights_b53 sa p0 p1 a2 a3 sr17 cr17 dr17 Q P4)))))))))) else (ob (gP s 11 12 p0) (fun v8 => (ob (gP s 11 12 p0) (fun v9 => (ob v9 (fun b10 => (ob (rQ s b10 a3) (fun v11 => (ob v8 (fun b12 => (ob (wQ s b12 a2 v11) (fun s13 => ((C_Rf_dropFlights_b53 sa p0 p1 (a2 + (1 : Int32)) a3 s13 kc ks Q P4))))))))))))))))))))))))) else ((ob (pI s 11 13 p0 a2) (fun s2 => (Q s2 kc ks))))))
def C_Rf_dropFlights_b4 (sa : Nat → Nat) (p0 : Nat) (p1 : Option Nat) (a2 : Int32) (a3 : Int32) (s : cS) (kc ks : Nat) (Q : (cS → Nat → Nat → Prop)) : Prop := ∀ P4 : (Int32 → Int32 → cS → Nat → Nat → Prop), (∀ (a2 : Int32) (a3 : Int32) (s : cS) (kc ks : Nat), C_Rf_dropFlights_s4 sa p0 p1 a2 a3 s kc ks Q P4 → P4 a2 a3 s kc ks) → P4 a2 a3 s kc ks
def C_Rf_dropFlights (sa : Nat → Nat) (p0 : Nat) (p1 : Option Nat) (s : cS) (kc ks : Nat) (Q : (cS → Nat → Nat → Prop)) : Prop := (C_Rf_dropFlights_b4 sa p0 p1 (0 : Int32) (0 : Int32) s kc ks Q)
set_option maxRecDepth 100000 in
set_option maxHeartbeats 4000000 in
theorem kc_Rf_dropFlights (base : Nat) (sa : Nat → Nat) {R : pmM} {s : cS} {kc ks : Nat} {Rt : pmR} {p0 : Nat} {p1 : Option Nat} {Q : (cS → Nat → Nat → Prop)} (hw : cW sa R base s) (h : C_Rf_dropFlights sa p0 p1 s kc ks Q) (k : ∀ s' kc' ks', cW sa R base s' → Q s' kc' ks' → Rt none (cM R s') kc' ks') : kP_Rf_dropFlights base sa [.ref p0, va_rf p1] (cM R s) kc ks Rt := by
  refine ⟨by cases p1 <;> exact Nat.le_of_ble_eq_true rfl, fun G hG => ?_⟩
  have eL : lv_args 0 [.ref p0, va_rf p1] = [(0, va_rf (some p0)), (1, va_rf p1)] := by cases p1 <;> rfl
  rw [eL]
  have b4 : ∀ (a2 : Int32) (a3 : Int32) (s : cS) (kc ks : Nat), KK sa R base G 4 [(0, va_rf (some p0)), (1, va_rf p1), (2, .int a2), (3, .int a3)] [] s kc ks (C_Rf_dropFlights_b4 sa p0 p1 a2 a3 s kc ks Q) := by
    have H : ∀ (P4 : (Int32 → Int32 → cS → Nat → Nat → Prop)) (hP4 : ∀ (a2 : Int32) (a3 : Int32) (s : cS) (kc ks : Nat), P4 a2 a3 s kc ks → cW sa R base s → G 4 [(0, va_rf (some p0)), (1, va_rf p1), (2, .int a2), (3, .int a3)] [] (cM R s) kc ks) (a2 : Int32) (a3 : Int32) (s : cS) (kc ks : Nat), KK sa R base G 4 [(0, va_rf (some p0)), (1, va_rf p1), (2, .int a2), (3, .int a3)] [] s kc ks (C_Rf_dropFlights_s4 sa p0 p1 a2 a3 s kc ks Q P4) := by
      intro P4 hP4
      have b53 : ∀ (a2 : Int32) (a3 : Int32) (s : cS) (kc ks : Nat), KK sa R base G 53 [(0, va_rf (some p0)), (1, va_rf p1), (2, .int a2), (3, .int a3)] [] s kc ks (C_Rf_dropFlights_b53 sa p0 p1 a2 a3 s kc ks Q P4) := by
        intro a2 a3 s kc ks
        refine kk_inc hG (L' := [(3, .int (a3 + (1 : Int32))), (0, va_rf (some p0)), (1, va_rf p1), (2, .int a2)]) rfl (Nat.le_of_ble_eq_true rfl) rfl cc_i1 rfl ?_
        refine kk_go hG (t := 4) rfl rfl ?_
        exact kk_wl hG [1, 2, 3, 0] rfl (fun hw h => hP4 _ _ _ _ _ h hw)
      intro a2 a3 s kc ks
      refine kks hG rfl rfl ?_
      refine kk_aln hG (x := (some p0)) rfl rfl ?_
      refine kk_gi hG (c := 11) (k := 13) (a := p0) rfl rfl rfl rfl (fun v1 => ?_)
      refine kk_ige hG (t := 59) rfl rfl ?_ ?_
      · refine kk_aln hG (x := (some p0)) rfl rfl ?_
        refine kks hG rfl rfl ?_
        refine kk_pi hG (c := 11) (k := 13) (a := p0) rfl rfl rfl rfl (fun s2 => ?_)
        exact kk_rv hG rfl rfl k
      refine kk_aln hG (x := (some p0)) rfl rfl ?_
      refine kk_gp hG (c := 11) (k := 12) (a := p0) rfl rfl rfl rfl (fun v3 => ?_)
      refine kks hG rfl rfl ?_
      refine kk_ob (fun b4 eb4 => ?_)
      subst eb4
      refine kk_aa hG (a := b4) rfl (fun v5 => ?_)
      refine kk_ob (fun b6 eb6 => ?_)
      subst eb6
      refine kk_gp hG (c := 2) (k := 8) (a := b6) rfl rfl rfl rfl (fun v7 => ?_)
      refine kk_aln hG (x := p1) rfl rfl ?_
      refine kk_ane hG (x := v7) (y := p1) (t := 38) rfl rfl ?_ ?_
      · refine kk_aln hG (x := (some p0)) rfl rfl ?_
        refine kk_gp hG (c := 11) (k := 12) (a := p0) rfl rfl rfl rfl (fun v8 => ?_)
        refine kks hG rfl rfl ?_
        refine kk_aln hG (x := (some p0)) rfl rfl ?_
        refine kk_gp hG (c := 11) (k := 12) (a := p0) rfl rfl rfl rfl (fun v9 => ?_)
        refine kks hG rfl rfl ?_
        refine kk_ob (fun b10 eb10 => ?_)
        subst eb10
        refine kk_aa hG (a := b10) rfl (fun v11 => ?_)
        refine kk_ob (fun b12 eb12 => ?_)
        subst eb12
        refine kk_aas hG (a := b12) (x := v11) rfl (fun s13 => ?_)
        refine kk_inc hG (L' := [(2, .int (a2 + (1 : Int32))), (0, va_rf (some p0)), (1, va_rf p1), (3, .int a3)]) rfl (Nat.le_of_ble_eq_true rfl) rfl cc_i1 (by cases p1 <;> rfl) ?_
        exact kk_wl hG [1, 2, 0, 3] rfl (b53 _ _ _ _ _)
      refine kk_aln hG (x := (some p0)) rfl rfl ?_
      refine kk_aln hG (x := (some p0)) rfl rfl ?_
      refine kk_gp hG (c := 11) (k := 12) (a := p0) rfl rfl rfl rfl (fun v14 => ?_)
      refine kks hG rfl rfl ?_
      refine kk_ob (fun b15 eb15 => ?_)
      subst eb15
      refine kk_aa hG (a := b15) rfl (fun v16 => ?_)
      refine kk_cv hG 0 rfl rfl (Nat.le_of_ble_eq_true rfl) (by decide) rfl (st' := []) rfl (cats_le (Nat.le_of_ble_eq_true rfl)) (fun _ hw h k => kk_rcv h.1 (kc_Rf_giveBack base sa hw h.2 k)) (fun sr17 cr17 dr17 => ?_)
      refine kk_go hG (t := 53) rfl rfl ?_
      exact kk_wl hG [0, 1, 2, 3] rfl (b53 _ _ _ _ _)
    exact fun a2 a3 s kc ks hw h => h (fun a2 a3 s kc ks => cW sa R base s → G 4 [(0, va_rf (some p0)), (1, va_rf p1), (2, .int a2), (3, .int a3)] [] (cM R s) kc ks) (fun a2 a3 s kc ks hs hw => H _ (fun _ _ _ _ _ hp hw => hp hw) a2 a3 s kc ks hw hs) hw
  refine (show KK sa R base G 0 [(0, va_rf (some p0)), (1, va_rf p1)] [] s kc ks (C_Rf_dropFlights sa p0 p1 s kc ks Q) from ?_) hw h
  refine kk_ic hG rfl cc_i0 ?_
  refine kk_st hG (L' := [(2, .int (0 : Int32)), (0, va_rf (some p0)), (1, va_rf p1)]) rfl rfl (Nat.le_of_ble_eq_true rfl) (by cases p1 <;> rfl) ?_
  refine kk_ic hG rfl cc_i0 ?_
  refine kk_st hG (L' := [(3, .int (0 : Int32)), (2, .int (0 : Int32)), (0, va_rf (some p0)), (1, va_rf p1)]) rfl rfl (Nat.le_of_ble_eq_true rfl) rfl ?_
  exact kk_wl hG [2, 3, 1, 0] rfl (b4 _ _ _ _ _)
def C_Rr_loseLearned_b44 (sa : Nat → Nat) (p0 : Nat) (p1 : Option Nat) (a2 : Int32) (s : cS) (kc ks : Nat) (Q : (cS → Nat → Nat → Prop)) (P2 : (Int32 → cS → Nat → Nat → Prop)) : Prop := (P2 (a2 + (1 : Int32)) s kc ks)
def C_Rr_loseLearned_s2 (sa : Nat → Nat) (p0 : Nat) (p1 : Option Nat) (a2 : Int32) (s : cS) (kc ks : Nat) (Q : (cS → Nat → Nat → Prop)) (P2 : (Int32 → cS → Nat → Nat → Prop)) : Prop := ob (gP s 9 6 p0) (fun v1 => (ob v1 (fun b2 => (ob (gI s 10 1 b2) (fun v3 => (if a2 < v3 then (ob (gP s 9 6 p0) (fun v4 => (ob v4 (fun b5 => (ob (gP s 10 0 b5) (fun v6 => (ob v6 (fun b7 => (ob (rQ s b7 a2) (fun v8 => (ob v8 (fun b9 => (ob (gI s 8 3 b9) (fun v10 => (if v10 = (2 : Int32) then (ob (gP s 8 6 b9) (fun v11 => (if v11 = p1 then (okO s 9 p0 ∧ C_Rr_die sa p0 (some b9) s kc ks (fun sr12 cr12 dr12 => ((C_Rr_loseLearned_b44 sa p0 p1 a2 sr12 cr12 dr12 Q P2)))) else ((C_Rr_loseLearned_b44 sa p0 p1 a2 s kc ks Q P2))))) else ((C_Rr_loseLearned_b44 sa p0 p1 a2 s kc ks Q P2))))))))))))))))) else ((Q s kc ks))))))))
def C_Rr_loseLearned_b2 (sa : Nat → Nat) (p0 : Nat) (p1 : Option Nat) (a2 : Int32) (s : cS) (kc ks : Nat) (Q : (cS → Nat → Nat → Prop)) : Prop := ∀ P2 : (Int32 → cS → Nat → Nat → Prop), (∀ (a2 : Int32) (s : cS) (kc ks : Nat), C_Rr_loseLearned_s2 sa p0 p1 a2 s kc ks Q P2 → P2 a2 s kc ks) → P2 a2 s kc ks
def C_Rr_loseLearned (sa : Nat → Nat) (p0 : Nat) (p1 : Option Nat) (s : cS) (kc ks : Nat) (Q : (cS → Nat → Nat → Prop)) : Prop := (C_Rr_loseLearned_b2 sa p0 p1 (0 : Int32) s kc ks Q)
set_option maxRecDepth 100000 in
set_option maxHeartbeats 4000000 in
theorem kc_Rr_loseLearned (base : Nat) (sa : Nat → Nat) {R : pmM} {s : cS} {kc ks : Nat} {Rt : pmR} {p0 : Nat} {p1 : Option Nat} {Q : (cS → Nat → Nat → Prop)} (hw : cW sa R base s) (h : C_Rr_loseLearned sa p0 p1 s kc ks Q) (k : ∀ s' kc' ks', cW sa R base s' → Q s' kc' ks' → Rt none (cM R s') kc' ks') : kP_Rr_loseLearned base sa [.ref p0, va_rf p1] (cM R s) kc ks Rt := by
  refine ⟨by cases p1 <;> exact Nat.le_of_ble_eq_true rfl, fun G hG => ?_⟩
  have eL : lv_args 0 [.ref p0, va_rf p1] = [(0, va_rf (some p0)), (1, va_rf p1)] := by cases p1 <;> rfl
  rw [eL]
  have b2 : ∀ (a2 : Int32) (s : cS) (kc ks : Nat), KK sa R base G 2 [(0, va_rf (some p0)), (1, va_rf p1), (2, .int a2)] [] s kc ks (C_Rr_loseLearned_b2 sa p0 p1 a2 s kc ks Q) := by
    have H : ∀ (P2 : (Int32 → cS → Nat → Nat → Prop)) (hP2 : ∀ (a2 : Int32) (s : cS) (kc ks : Nat), P2 a2 s kc ks → cW sa R base s → G 2 [(0, va_rf (some p0)), (1, va_rf p1), (2, .int a2)] [] (cM R s) kc ks) (a2 : Int32) (s : cS) (kc ks : Nat), KK sa R base G 2 [(0, va_rf (some p0)), (1, va_rf p1), (2, .int a2)] [] s kc ks (C_Rr_loseLearned_s2 sa p0 p1 a2 s kc ks Q P2) := by
      intro P2 hP2
      have b44 : ∀ (a2 : Int32) (s : cS) (kc ks : Nat), KK sa R base G 44 [(0, va_rf (some p0)), (1, va_rf p1), (2, .int a2)] [] s kc ks (C_Rr_loseLearned_b44 sa p0 p1 a2 s kc ks Q P2) := by
        intro a2 s kc ks
        refine kk_inc hG (L' := [(2, .int (a2 + (1 : Int32))), (0, va_rf (some p0)), (1, va_rf p1)]) rfl (Nat.le_of_ble_eq_true rfl) rfl cc_i1 (by cases p1 <;> rfl) ?_
        refine kk_go hG (t := 2) rfl rfl ?_
        exact kk_wl hG [1, 2, 0] rfl (fun hw h => hP2 _ _ _ _ h hw)
      intro a2 s kc ks
      refine kks hG rfl rfl ?_
      refine kk_aln hG (x := (some p0)) rfl rfl ?_
      refine kk_gp hG (c := 9) (k := 6) (a := p0) rfl rfl rfl rfl (fun v1 => ?_)
      refine kk_ob (fun b2 eb2 => ?_)
      subst eb2
      refine kk_gi hG (c := 10) (k := 1) (a := b2) rfl rfl rfl rfl (fun v3 => ?_)
      refine kk_ige hG (t := 50) rfl rfl ?_ ?_
      · exact kk_rv hG rfl rfl k
      refine kk_aln hG (x := (some p0)) rfl rfl ?_
      refine kk_gp hG (c := 9) (k := 6) (a := p0) rfl rfl rfl rfl (fun v4 => ?_)
      refine kk_ob (fun b5 eb5 => ?_)
      subst eb5
      refine kk_gp hG (c := 10) (k := 0) (a := b5) rfl rfl rfl rfl (fun v6 => ?_)
      refine kks hG rfl rfl ?_
      refine kk_ob (fun b7 eb7 => ?_)
      subst eb7
      refine kk_aa hG (a := b7) rfl (fun v8 => ?_)
      refine kk_asn hG (x := v8) (L' := [(3, va_rf v8), (0, va_rf (some p0)), (1, va_rf p1), (2, .int a2)]) rfl (Nat.le_of_ble_eq_true rfl) rfl ?_
      refine kk_aln hG (x := v8) rfl rfl ?_
      refine kk_ob (fun b9 eb9 => ?_)
      subst eb9
      refine kk_gi hG (c := 8) (k := 3) (a := b9) rfl rfl rfl rfl (fun v10 => ?_)
      refine kk_ic hG rfl cc_i2 ?_
      refine kk_ine hG (t := 44) rfl rfl ?_ ?_
      · exact kk_wl hG [1, 2, 3] rfl (b44 _ _ _ _)
      refine kk_aln hG (x := (some b9)) rfl rfl ?_
      refine kk_gp hG (c := 8) (k := 6) (a := b9) rfl rfl rfl rfl (fun v11 => ?_)
      refine kk_aln hG (x := p1) rfl rfl ?_
      refine kk_ane hG (x := v11) (y := p1) (t := 44) rfl rfl ?_ ?_
      · exact kk_wl hG [1, 2, 3] rfl (b44 _ _ _ _)
      refine kk_aln hG (x := (some p0)) rfl rfl ?_
      refine kk_aln hG (x := (some b9)) rfl rfl ?_
      refine kk_cv hG 0 rfl rfl (Nat.le_of_ble_eq_true rfl) (by decide) rfl (st' := []) rfl (cats_le (Nat.le_of_ble_eq_true rfl)) (fun _ hw h k => kk_rcv h.1 (kc_Rr_die base sa hw h.2 k)) (fun sr12 cr12 dr12 => ?_)
      exact kk_wl hG [1, 2, 3] rfl (b44 _ _ _ _)
    exact fun a2 s kc ks hw h => h (fun a2 s kc ks => cW sa R base s → G 2 [(0, va_rf (some p0)), (1, va_rf p1), (2, .int a2)] [] (cM R s) kc ks) (fun a2 s kc ks hs hw => H _ (fun _ _ _ _ hp hw => hp hw) a2 s kc ks hw hs) hw
  refine (show KK sa R base G 0 [(0, va_rf (some p0)), (1, va_rf p1)] [] s kc ks (C_Rr_loseLearned sa p0 p1 s kc ks Q) from ?_) hw h
  refine kk_ic hG rfl cc_i0 ?_
  refine kk_st hG (L' := [(2, .int (0 : Int32)), (0, va_rf (some p0)), (1, va_rf p1)]) rfl rfl (Nat.le_of_ble_eq_true rfl) (by cases p1 <;> rfl) ?_
  exact kk_wl hG [1, 2, 0] rfl (b2 _ _ _ _)
def C_Rf_lower_b57 (sa : Nat → Nat) (p0 : Nat) (p1 : Option Nat) (a2 : Int32) (s : cS) (kc ks : Nat) (Q : (cS → Nat → Nat → Prop)) (P2 : (Int32 → cS → Nat → Nat → Prop)) : Prop := (P2 (a2 + (1 : Int32)) s kc ks)
def C_Rf_lower_s2 (sa : Nat → Nat) (p0 : Nat) (p1 : Option Nat) (a2 : Int32) (s : cS) (kc ks : Nat) (Q : (cS → Nat → Nat → Prop)) (P2 : (Int32 → cS → Nat → Nat → Prop)) : Prop := ob (gI s 11 9 p0) (fun v1 => (if a2 < v1 then (ob (gP s 11 8 p0) (fun v2 => (ob v2 (fun b3 => (ob (rQ s b3 a2) (fun v4 => (ob v4 (fun b5 => (okO s 9 b5 ∧ C_Rr_portOn sa b5 p1 s kc ks (fun r6 sr6 cr6 dr6 => (if r6 = none then ((C_Rf_lower_b57 sa p0 p1 a2 sr6 cr6 dr6 Q P2)) else (ob (gP sr6 11 8 p0) (fun v7 => (ob v7 (fun b8 => (ob (rQ sr6 b8 a2) (fun v9 => (ob v9 (fun b10 => (ob (gI sr6 9 3 b10) (fun v11 => (if v11 = 0 then ((C_Rf_lower_b57 sa p0 p1 a2 sr6 cr6 dr6 Q P2)) else (ob (gP sr6 11 8 p0) (fun v12 => (ob v12 (fun b13 => (ob (rQ sr6 b13 a2) (fun v14 => (ob v14 (fun b15 => (okO sr6 9 b15 ∧ C_Rr_loseLearned sa b15 r6 sr6 cr6 dr6 (fun sr16 cr16 dr16 => (ob (gP sr16 11 8 p0) (fun v17 => (ob v17 (fun b18 => (ob (rQ sr16 b18 a2) (fun v19 => (ob v19 (fun b20 => (okO sr16 9 b20 ∧ C_Rr_settlePort sa b20 r6 sr16 cr16 dr16 (fun sr21 cr21 dr21 => ((C_Rf_lower_b57 sa p0 p1 a2 sr21 cr21 dr21 Q P2)))))))))))))))))))))))))))))))))))))))))))) else ((Q s kc ks))))
def C_Rf_lower_b2 (sa : Nat → Nat) (p0 : Nat) (p1 : Option Nat) (a2 : Int32) (s : cS) (kc ks : Nat) (Q : (cS → Nat → Nat → Prop)) : Prop := ∀ P2 : (Int32 → cS → Nat → Nat → Prop), (∀ (a2 : Int32) (s : cS) (kc ks : Nat), C_Rf_lower_s2 sa p0 p1 a2 s kc ks Q P2 → P2 a2 s kc ks) → P2 a2 s kc ks
def C_Rf_lower (sa : Nat → Nat) (p0 : Nat) (p1 : Option Nat) (s : cS) (kc ks : Nat) (Q : (cS → Nat → Nat → Prop)) : Prop := (C_Rf_lower_b2 sa p0 p1 (0 : Int32) s kc ks Q)
set_option maxRecDepth 100000 in
set_option maxHeartbeats 4000000 in
theorem kc_Rf_lower (base : Nat) (sa : Nat → Nat) {R : pmM} {s : cS} {kc ks : Nat} {Rt : pmR} {p0 : Nat} {p1 : Option Nat} {Q : (cS → Nat → Nat → Prop)} (hw : cW sa R base s) (h : C_Rf_lower sa p0 p1 s kc ks Q) (k : ∀ s' kc' ks', cW sa R base s' → Q s' kc' ks' → Rt none (cM R s') kc' ks') : kP_Rf_lower base sa [.ref p0, va_rf p1] (cM R s) kc ks Rt := by
  refine ⟨by cases p1 <;> exact Nat.le_of_ble_eq_true rfl, fun G hG => ?_⟩
  have eL : lv_args 0 [.ref p0, va_rf p1] = [(0, va_rf (some p0)), (1, va_rf p1)] := by cases p1 <;> rfl
  rw [eL]
  have b2 : ∀ (a2 : Int32) (s : cS) (kc ks : Nat), KK sa R base G 2 [(0, va_rf (some p0)), (1, va_rf p1), (2, .int a2)] [] s kc ks (C_Rf_lower_b2 sa p0 p1 a2 s kc ks Q) := by
    have H : ∀ (P2 : (Int32 → cS → Nat → Nat → Prop)) (hP2 : ∀ (a2 : Int32) (s : cS) (kc ks : Nat), P2 a2 s kc ks → cW sa R base s → G 2 [(0, va_rf (some p0)), (1, va_rf p1), (2, .int a2)] [] (cM R s) kc ks) (a2 : Int32) (s : cS) (kc ks : Nat), KK sa R base G 2 [(0, va_rf (some p0)), (1, va_rf p1), (2, .int a2)] [] s kc ks (C_Rf_lower_s2 sa p0 p1 a2 s kc ks Q P2) := by
      intro P2 hP2
      have b57 : ∀ (a2 : Int32) (s : cS) (kc ks : Nat), KK sa R base G 57 [(0, va_rf (some p0)), (1, va_rf p1), (2, .int a2)] [] s kc ks (C_Rf_lower_b57 sa p0 p1 a2 s kc ks Q P2) := by
        intro a2 s kc ks
        refine kk_inc hG (L' := [(2, .int (a2 + (1 : Int32))), (0, va_rf (some p0)), (1, va_rf p1)]) rfl (Nat.le_of_ble_eq_true rfl) rfl cc_i1 (by cases p1 <;> rfl) ?_
        refine kk_go hG (t := 2) rfl rfl ?_
        exact kk_wl hG [1, 2, 0] rfl (fun hw h => hP2 _ _ _ _ h hw)
      intro a2 s kc ks
      refine kks hG rfl rfl ?_
      refine kk_aln hG (x := (some p0)) rfl rfl ?_
      refine kk_gi hG (c := 11) (k := 9) (a := p0) rfl rfl rfl rfl (fun v1 => ?_)
      refine kk_ige hG (t := 63) rfl rfl ?_ ?_
      · exact kk_rv hG rfl rfl k
      refine kk_aln hG (x := (some p0)) rfl rfl ?_
      refine kk_gp hG (c := 11) (k := 8) (a := p0) rfl rfl rfl rfl (fun v2 => ?_)
      refine kks hG rfl rfl ?_
      refine kk_ob (fun b3 eb3 => ?_)
      subst eb3
      refine kk_aa hG (a := b3) rfl (fun v4 => ?_)
      refine kk_aln hG (x := p1) rfl rfl ?_
      refine kk_ob (fun b5 eb5 => ?_)
      subst eb5
      refine kk_cx (w := va_rf) hG 0 rfl rfl (Nat.le_of_ble_eq_true rfl) (by decide) rfl (st' := []) rfl (cats_le (Nat.le_of_ble_eq_true rfl)) (fun _ hw h k => kk_rcv h.1 (kc_Rr_portOn base sa hw h.2 k)) (fun r6 sr6 cr6 dr6 => ?_)
      refine kk_asn hG (x := r6) (L' := [(3, va_rf r6), (0, va_rf (some p0)), (1, va_rf p1), (2, .int a2)]) rfl (Nat.le_of_ble_eq_true rfl) rfl ?_
      refine kk_aln hG (x := r6) rfl rfl ?_
      refine kk_nul hG (x := r6) (t := 57) rfl rfl ?_ ?_
      · exact kk_wl hG [1, 2, 3] rfl (b57 _ _ _ _)
      refine kk_aln hG (x := (some p0)) rfl rfl ?_
      refine kk_gp hG (c := 11) (k := 8) (a := p0) rfl rfl rfl rfl (fun v7 => ?_)
      refine kks hG rfl rfl ?_
      refine kk_ob (fun b8 eb8 => ?_)
      subst eb8
      refine kk_aa hG (a := b8) rfl (fun v9 => ?_)
      refine kk_ob (fun b10 eb10 => ?_)
      subst eb10
      refine kk_gi hG (c := 9) (k := 3) (a := b10) rfl rfl rfl rfl (fun v11 => ?_)
      refine kk_zeq hG (t := 57) rfl rfl ?_ ?_
      · exact kk_wl hG [1, 2, 3] rfl (b57 _ _ _ _)
      refine kk_aln hG (x := (some p0)) rfl rfl ?_
      refine kk_gp hG (c := 11) (k := 8) (a := p0) rfl rfl rfl rfl (fun v12 => ?_)
      refine kks hG rfl rfl ?_
      refine kk_ob (fun b13 eb13 => ?_)
      subst eb13
      refine kk_aa hG (a := b13) rfl (fun v14 => ?_)
      refine kk_aln hG (x := r6) rfl rfl ?_
      refine kk_ob (fun b15 eb15 => ?_)
      subst eb15
      refine kk_cv hG 0 rfl rfl (Nat.le_of_ble_eq_true rfl) (by decide) rfl (st' := []) rfl (cats_le (Nat.le_of_ble_eq_true rfl)) (fun _ hw h k => kk_rcv h.1 (kc_Rr_loseLearned base sa hw h.2 k)) (fun sr16 cr16 dr16 => ?_)
      refine kk_aln hG (x := (some p0)) rfl rfl ?_
      refine kk_gp hG (c := 11) (k := 8) (a := p0) rfl rfl rfl rfl (fun v17 => ?_)
      refine kks hG rfl rfl ?_
      refine kk_ob (fun b18 eb18 => ?_)
      subst eb18
      refine kk_aa hG (a := b18) rfl (fun v19 => ?_)
      refine kk_aln hG (x := r6) rfl rfl ?_
      refine kk_ob (fun b20 eb20 => ?_)
      subst eb20
      refine kk_cv hG 0 rfl rfl (Nat.le_of_ble_eq_true rfl) (by decide) rfl (st' := []) rfl (cats_le (Nat.le_of_ble_eq_true rfl)) (fun _ hw h k => kk_rcv h.1 (kc_Rr_settlePort base sa hw h.2 k)) (fun sr21 cr21 dr21 => ?_)
      exact kk_wl hG [1, 2, 3] rfl (b57 _ _ _ _)
    exact fun a2 s kc ks hw h => h (fun a2 s kc ks => cW sa R base s → G 2 [(0, va_rf (some p0)), (1, va_rf p1), (2, .int a2)] [] (cM R s) kc ks) (fun a2 s kc ks hs hw => H _ (fun _ _ _ _ hp hw => hp hw) a2 s kc ks hw hs) hw
  refine (show KK sa R base G 0 [(0, va_rf (some p0)), (1, va_rf p1)] [] s kc ks (C_Rf_lower sa p0 p1 s kc ks Q) from ?_) hw h
  refine kk_ic hG rfl cc_i0 ?_
  refine kk_st hG (L' := [(2, .int (0 : Int32)), (0, va_rf (some p0)), (1, va_rf p1)]) rfl rfl (Nat.le_of_ble_eq_true rfl) (by cases p1 <;> rfl) ?_
  exact kk_wl hG [1, 2, 0] rfl (b2 _ _ _ _)
