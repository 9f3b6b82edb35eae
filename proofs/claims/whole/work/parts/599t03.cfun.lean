/-! Methods as weakest preconditions, by program: Re_hasJoinOptions .. Pr_parseSix -/
def C_Re_hasJoinOptions_b49 (sa : Nat → Nat) (p0 : Nat) (a1 : Int32) (a2 : Int32) (a3 : Int32) (s : cS) (kc ks : Nat) (Q : (Int32 → cS → Nat → Nat → Prop)) (P4 : (Int32 → Int32 → cS → Nat → Nat → Prop)) : Prop := C_Re_optionSize sa a3 s kc ks (fun r1 sr1 cr1 dr1 => ((P4 (a1 ||| ((1 : Int32) <<< (a3 &&& 31))) (a2 + r1) sr1 cr1 dr1)))
def C_Re_hasJoinOptions_s4 (sa : Nat → Nat) (p0 : Nat) (a1 : Int32) (a2 : Int32) (s : cS) (kc ks : Nat) (Q : (Int32 → cS → Nat → Nat → Prop)) (P4 : (Int32 → Int32 → cS → Nat → Nat → Prop)) : Prop := ob (gI s 7 3 p0) (fun v1 => (if a2 < v1 then (okO s 7 p0 ∧ C_Re_joinOption sa p0 a2 s kc ks (fun r3 sr3 cr3 dr3 => (if r3 = ((-1) : Int32) then ((Q (0 : Int32) sr3 cr3 dr3)) else (if ((a1 >>> (r3 &&& 31)) &&& (1 : Int32)) = 0 then (if r3 = (2 : Int32) then (okO sr3 7 p0 ∧ C_Re_splitAt sa p0 (a2 + (1 : Int32)) sr3 cr3 dr3 (fun r4 sr4 cr4 dr4 => (if r4 = ((-1) : Int32) then ((Q (0 : Int32) sr4 cr4 dr4)) else ((C_Re_hasJoinOptions_b49 sa p0 a1 a2 r3 sr4 cr4 dr4 Q P4))))) else ((C_Re_hasJoinOptions_b49 sa p0 a1 a2 r3 sr3 cr3 dr3 Q P4))) else ((Q (0 : Int32) sr3 cr3 dr3)))))) else ((ob (gI s 7 3 p0) (fun v2 => (if a2 = v2 then (Q (1 : Int32) s kc ks) else (Q (0 : Int32) s kc ks)))))))
def C_Re_hasJoinOptions_b4 (sa : Nat → Nat) (p0 : Nat) (a1 : Int32) (a2 : Int32) (s : cS) (kc ks : Nat) (Q : (Int32 → cS → Nat → Nat → Prop)) : Prop := ∀ P4 : (Int32 → Int32 → cS → Nat → Nat → Prop), (∀ (a1 : Int32) (a2 : Int32) (s : cS) (kc ks : Nat), C_Re_hasJoinOptions_s4 sa p0 a1 a2 s kc ks Q P4 → P4 a1 a2 s kc ks) → P4 a1 a2 s kc ks
def C_Re_hasJoinOptions (sa : Nat → Nat) (p0 : Nat) (s : cS) (kc ks : Nat) (Q : (Int32 → cS → Nat → Nat → Prop)) : Prop := (C_Re_hasJoinOptions_b4 sa p0 (0 : Int32) (4 : Int32) s kc ks Q)
set_option maxRecDepth 100000 in
set_option maxHeartbeats 4000000 in
theorem kc_Re_hasJoinOptions (base : Nat) (sa : Nat → Nat) {R : pmM} {s : cS} {kc ks : Nat} {Rt : pmR} {p0 : Nat} {Q : (Int32 → cS → Nat → Nat → Prop)} (hw : cW sa R base s) (h : C_Re_hasJoinOptions sa p0 s kc ks Q) (k : ∀ r s' kc' ks', cW sa R base s' → Q r s' kc' ks' → Rt (some (.int r)) (cM R s') kc' ks') : kP_Re_hasJoinOptions base sa [.ref p0] (cM R s) kc ks Rt := by
  refine ⟨Nat.le_of_ble_eq_true rfl, fun G hG => ?_⟩
  have b4 : ∀ (a1 : Int32) (a2 : Int32) (s : cS) (kc ks : Nat), KK sa R base G 4 [(0, va_rf (some p0)), (1, .int a1), (2, .int a2)] [] s kc ks (C_Re_hasJoinOptions_b4 sa p0 a1 a2 s kc ks Q) := by
    have H : ∀ (P4 : (Int32 → Int32 → cS → Nat → Nat → Prop)) (hP4 : ∀ (a1 : Int32) (a2 : Int32) (s : cS) (kc ks : Nat), P4 a1 a2 s kc ks → cW sa R base s → G 4 [(0, va_rf (some p0)), (1, .int a1), (2, .int a2)] [] (cM R s) kc ks) (a1 : Int32) (a2 : Int32) (s : cS) (kc ks : Nat), KK sa R base G 4 [(0, va_rf (some p0)), (1, .int a1), (2, .int a2)] [] s kc ks (C_Re_hasJoinOptions_s4 sa p0 a1 a2 s kc ks Q P4) := by
      intro P4 hP4
      have b49 : ∀ (a1 : Int32) (a2 : Int32) (a3 : Int32) (s : cS) (kc ks : Nat), KK sa R base G 49 [(0, va_rf (some p0)), (1, .int a1), (2, .int a2), (3, .int a3)] [] s kc ks (C_Re_hasJoinOptions_b49 sa p0 a1 a2 a3 s kc ks Q P4) := by
        intro a1 a2 a3 s kc ks
        refine kks hG rfl rfl ?_
        refine kk_ic hG rfl cc_i1 ?_
        refine kks hG rfl rfl ?_
        refine kks hG rfl rfl ?_
        refine kks hG rfl rfl ?_
        refine kk_st hG (L' := [(1, .int (a1 ||| ((1 : Int32) <<< (a3 &&& 31)))), (0, va_rf (some p0)), (2, .int a2), (3, .int a3)]) rfl rfl (Nat.le_of_ble_eq_true rfl) rfl ?_
        refine kks hG rfl rfl ?_
        refine kks hG rfl rfl ?_
        refine kk_cx (w := .int) hG 2 rfl rfl (Nat.le_of_ble_eq_true rfl) (by decide) rfl (st' := [.int a2]) rfl (cats_le (Nat.le_of_ble_eq_true rfl)) (fun _ hw h k => kc_Re_optionSize base sa hw h k) (fun r1 sr1 cr1 dr1 => ?_)
        refine kks hG rfl rfl ?_
        refine kk_st hG (L' := [(2, .int (a2 + r1)), (1, .int (a1 ||| ((1 : Int32) <<< (a3 &&& 31)))), (0, va_rf (some p0)), (3, .int a3)]) rfl rfl (Nat.le_of_ble_eq_true rfl) rfl ?_
        refine kk_go hG (t := 4) rfl rfl ?_
        exact kk_wl hG [2, 1, 0] rfl (fun hw h => hP4 _ _ _ _ _ h hw)
      intro a1 a2 s kc ks
      refine kks hG rfl rfl ?_
      refine kk_aln hG (x := (some p0)) rfl rfl ?_
      refine kk_gi hG (c := 7) (k := 3) (a := p0) rfl rfl rfl rfl (fun v1 => ?_)
      refine kk_ige hG (t := 65) rfl rfl ?_ ?_
      · refine kks hG rfl rfl ?_
        refine kk_aln hG (x := (some p0)) rfl rfl ?_
        refine kk_gi hG (c := 7) (k := 3) (a := p0) rfl rfl rfl rfl (fun v2 => ?_)
        refine kk_ine hG (t := 77) rfl rfl ?_ ?_
        · refine kk_ic hG rfl cc_i0 ?_
          exact kk_ri hG rfl rfl rfl k
        refine kk_ic hG rfl cc_i1 ?_
        refine kk_go hG (t := 78) rfl rfl ?_
        exact kk_ri hG rfl rfl rfl k
      refine kk_aln hG (x := (some p0)) rfl rfl ?_
      refine kks hG rfl rfl ?_
      refine kk_cx (w := .int) hG 0 rfl rfl (Nat.le_of_ble_eq_true rfl) (by decide) rfl (st' := []) rfl (cats_le (Nat.le_of_ble_eq_true rfl)) (fun _ hw h k => kk_rcv h.1 (kc_Re_joinOption base sa hw h.2 k)) (fun r3 sr3 cr3 dr3 => ?_)
      refine kk_st hG (L' := [(3, .int r3), (0, va_rf (some p0)), (1, .int a1), (2, .int a2)]) rfl rfl (Nat.le_of_ble_eq_true rfl) rfl ?_
      refine kks hG rfl rfl ?_
      refine kk_ic hG rfl cc_im1 ?_
      refine kk_ieq hG (t := 47) rfl rfl ?_ ?_
      · refine kk_ic hG rfl cc_i0 ?_
        exact kk_ri hG rfl rfl rfl k
      refine kks hG rfl rfl ?_
      refine kks hG rfl rfl ?_
      refine kks hG rfl rfl ?_
      refine kk_ic hG rfl cc_i1 ?_
      refine kks hG rfl rfl ?_
      refine kk_zne hG (t := 47) rfl rfl ?_ ?_
      · refine kk_ic hG rfl cc_i0 ?_
        exact kk_ri hG rfl rfl rfl k
      refine kks hG rfl rfl ?_
      refine kk_ic hG rfl cc_i2 ?_
      refine kk_ine hG (t := 49) rfl rfl ?_ ?_
      · exact kk_wl hG [1, 2, 3, 0] rfl (b49 _ _ _ _ _ _)
      refine kk_aln hG (x := (some p0)) rfl rfl ?_
      refine kks hG rfl rfl ?_
      refine kk_ic hG rfl cc_i1 ?_
      refine kks hG rfl rfl ?_
      refine kk_cx (w := .int) hG 0 rfl rfl (Nat.le_of_ble_eq_true rfl) (by decide) rfl (st' := []) rfl (cats_le (Nat.le_of_ble_eq_true rfl)) (fun _ hw h k => kk_rcv h.1 (kc_Re_splitAt base sa hw h.2 k)) (fun r4 sr4 cr4 dr4 => ?_)
      refine kk_ic hG rfl cc_im1 ?_
      refine kk_ine hG (t := 49) rfl rfl ?_ ?_
      · exact kk_wl hG [1, 2, 3, 0] rfl (b49 _ _ _ _ _ _)
      refine kk_ic hG rfl cc_i0 ?_
      exact kk_ri hG rfl rfl rfl k
    exact fun a1 a2 s kc ks hw h => h (fun a1 a2 s kc ks => cW sa R base s → G 4 [(0, va_rf (some p0)), (1, .int a1), (2, .int a2)] [] (cM R s) kc ks) (fun a1 a2 s kc ks hs hw => H _ (fun _ _ _ _ _ hp hw => hp hw) a1 a2 s kc ks hw hs) hw
  refine (show KK sa R base G 0 [(0, va_rf (some p0))] [] s kc ks (C_Re_hasJoinOptions sa p0 s kc ks Q) from ?_) hw h
  refine kk_ic hG rfl cc_i0 ?_
  refine kk_st hG (L' := [(1, .int (0 : Int32)), (0, va_rf (some p0))]) rfl rfl (Nat.le_of_ble_eq_true rfl) rfl ?_
  refine kk_ic hG rfl cc_i4 ?_
  refine kk_st hG (L' := [(2, .int (4 : Int32)), (1, .int (0 : Int32)), (0, va_rf (some p0))]) rfl rfl (Nat.le_of_ble_eq_true rfl) rfl ?_
  exact kk_wl hG [2, 1, 0] rfl (b4 _ _ _ _ _)
def C_Rf_linkAt (sa : Nat → Nat) (p0 : Nat) (p1 : Int32) (s : cS) (kc ks : Nat) (Q : (Option Nat → cS → Nat → Nat → Prop)) : Prop := if p1 < 0 then (Q none s kc ks) else (ob (gI s 11 7 p0) (fun v1 => (if p1 < v1 then (ob (gP s 11 6 p0) (fun v2 => (ob v2 (fun b3 => (ob (rQ s b3 p1) (fun v4 => (Q v4 s kc ks))))))) else (Q none s kc ks))))
set_option maxRecDepth 100000 in
set_option maxHeartbeats 4000000 in
theorem kc_Rf_linkAt (base : Nat) (sa : Nat → Nat) {R : pmM} {s : cS} {kc ks : Nat} {Rt : pmR} {p0 : Nat} {p1 : Int32} {Q : (Option Nat → cS → Nat → Nat → Prop)} (hw : cW sa R base s) (h : C_Rf_linkAt sa p0 p1 s kc ks Q) (k : ∀ r s' kc' ks', cW sa R base s' → Q r s' kc' ks' → Rt (some (va_rf r)) (cM R s') kc' ks') : kP_Rf_linkAt base sa [.ref p0, .int p1] (cM R s) kc ks Rt := by
  refine ⟨Nat.le_of_ble_eq_true rfl, fun G hG => ?_⟩
  refine (show KK sa R base G 0 [(0, va_rf (some p0)), (1, .int p1)] [] s kc ks (C_Rf_linkAt sa p0 p1 s kc ks Q) from ?_) hw h
  refine kks hG rfl rfl ?_
  refine kk_zlt hG (t := 12) rfl rfl ?_ ?_
  · refine kks hG rfl rfl ?_
    refine kk_go hG (t := 22) rfl rfl ?_
    exact kk_ra hG (x := none) rfl rfl rfl k
  refine kks hG rfl rfl ?_
  refine kk_aln hG (x := (some p0)) rfl rfl ?_
  refine kk_gi hG (c := 11) (k := 7) (a := p0) rfl rfl rfl rfl (fun v1 => ?_)
  refine kk_ilt hG (t := 16) rfl rfl ?_ ?_
  · refine kk_aln hG (x := (some p0)) rfl rfl ?_
    refine kk_gp hG (c := 11) (k := 6) (a := p0) rfl rfl rfl rfl (fun v2 => ?_)
    refine kks hG rfl rfl ?_
    refine kk_ob (fun b3 eb3 => ?_)
    subst eb3
    refine kk_aa hG (a := b3) rfl (fun v4 => ?_)
    exact kk_ra hG (x := v4) rfl rfl rfl k
  refine kks hG rfl rfl ?_
  refine kk_go hG (t := 22) rfl rfl ?_
  exact kk_ra hG (x := none) rfl rfl rfl k
def C_Pr_setZero (sa : Nat → Nat) (p0 : Nat) (p1 : Int32) (p2 : Int32) (s : cS) (kc ks : Nat) (Q : (cS → Nat → Nat → Prop)) : Prop := ob (pI s 5 0 p0 p1) (fun s1 => (ob (pJ s1 5 1 p0 (0 : Int64)) (fun s2 => (ob (pJ s2 5 2 p0 (0 : Int64)) (fun s3 => (ob (pI s3 5 3 p0 p2) (fun s4 => (Q s4 kc ks))))))))
set_option maxRecDepth 100000 in
set_option maxHeartbeats 4000000 in
theorem kc_Pr_setZero (base : Nat) (sa : Nat → Nat) {R : pmM} {s : cS} {kc ks : Nat} {Rt : pmR} {p0 : Nat} {p1 : Int32} {p2 : Int32} {Q : (cS → Nat → Nat → Prop)} (hw : cW sa R base s) (h : C_Pr_setZero sa p0 p1 p2 s kc ks Q) (k : ∀ s' kc' ks', cW sa R base s' → Q s' kc' ks' → Rt none (cM R s') kc' ks') : kP_Pr_setZero base sa [.ref p0, .int p1, .int p2] (cM R s) kc ks Rt := by
  refine ⟨Nat.le_of_ble_eq_true rfl, fun G hG => ?_⟩
  refine (show KK sa R base G 0 [(0, va_rf (some p0)), (1, .int p1), (2, .int p2)] [] s kc ks (C_Pr_setZero sa p0 p1 p2 s kc ks Q) from ?_) hw h
  refine kk_aln hG (x := (some p0)) rfl rfl ?_
  refine kks hG rfl rfl ?_
  refine kk_pi hG (c := 5) (k := 0) (a := p0) rfl rfl rfl rfl (fun s1 => ?_)
  refine kk_aln hG (x := (some p0)) rfl rfl ?_
  refine kk_lc hG (c := 0) (v := 0) rfl rfl ?_
  refine kk_pj hG (c := 5) (k := 1) (a := p0) rfl rfl rfl rfl (fun s2 => ?_)
  refine kk_aln hG (x := (some p0)) rfl rfl ?_
  refine kk_lc hG (c := 0) (v := 0) rfl rfl ?_
  refine kk_pj hG (c := 5) (k := 2) (a := p0) rfl rfl rfl rfl (fun s3 => ?_)
  refine kk_aln hG (x := (some p0)) rfl rfl ?_
  refine kks hG rfl rfl ?_
  refine kk_pi hG (c := 5) (k := 3) (a := p0) rfl rfl rfl rfl (fun s4 => ?_)
  exact kk_rv hG rfl rfl k
def C_Pr_hexNumber_b97 (sa : Nat → Nat) (p0 : Option Nat) (p2 : Int32) (a3 : Int32) (a4 : Int32) (a5 : Int32) (s : cS) (kc ks : Nat) (Q : (Int32 → cS → Nat → Nat → Prop)) (P21 : (Int32 → Int32 → cS → Nat → Nat → Prop)) : Prop := (P21 ((a3 <<< ((4 : Int32) &&& 31)) ||| a5) (a4 + (1 : Int32)) s kc ks)
def C_Pr_hexNumber_b75 (sa : Nat → Nat) (p0 : Option Nat) (p2 : Int32) (a3 : Int32) (a4 : Int32) (a5 : Int32) (s : cS) (kc ks : Nat) (Q : (Int32 → cS → Nat → Nat → Prop)) (P21 : (Int32 → Int32 → cS → Nat → Nat → Prop)) : Prop := if a5 < (65 : Int32) then ((Q ((-1) : Int32) s kc ks)) else (if (70 : Int32) < a5 then ((Q ((-1) : Int32) s kc ks)) else ((C_Pr_hexNumber_b97 sa p0 p2 a3 a4 (a5 + ((-55) : Int32)) s kc ks Q P21)))
def C_Pr_hexNumber_b55 (sa : Nat → Nat) (p0 : Option Nat) (p2 : Int32) (a3 : Int32) (a4 : Int32) (a5 : Int32) (s : cS) (kc ks : Nat) (Q : (Int32 → cS → Nat → Nat → Prop)) (P21 : (Int32 → Int32 → cS → Nat → Nat → Prop)) : Prop := if a5 < (97 : Int32) then ((C_Pr_hexNumber_b75 sa p0 p2 a3 a4 a5 s kc ks Q P21)) else (if (102 : Int32) < a5 then ((C_Pr_hexNumber_b75 sa p0 p2 a3 a4 a5 s kc ks Q P21)) else ((C_Pr_hexNumber_b97 sa p0 p2 a3 a4 (a5 + ((-87) : Int32)) s kc ks Q P21)))
def C_Pr_hexNumber_s21 (sa : Nat → Nat) (p0 : Option Nat) (p2 : Int32) (a3 : Int32) (a4 : Int32) (s : cS) (kc ks : Nat) (Q : (Int32 → cS → Nat → Nat → Prop)) (P21 : (Int32 → Int32 → cS → Nat → Nat → Prop)) : Prop := if a4 < p2 then (ob p0 (fun b1 => (okO s 0 b1 ∧ C_By_at sa b1 a4 s kc ks (fun r2 sr2 cr2 dr2 => (if r2 < (48 : Int32) then ((C_Pr_hexNumber_b55 sa (some b1) p2 a3 a4 r2 sr2 cr2 dr2 Q P21)) else (if (57 : Int32) < r2 then ((C_Pr_hexNumber_b55 sa (some b1) p2 a3 a4 r2 sr2 cr2 dr2 Q P21)) else ((C_Pr_hexNumber_b97 sa (some b1) p2 a3 a4 (r2 + ((-48) : Int32)) sr2 cr2 dr2 Q P21)))))))) else ((Q a3 s kc ks))
def C_Pr_hexNumber_b21 (sa : Nat → Nat) (p0 : Option Nat) (p2 : Int32) (a3 : Int32) (a4 : Int32) (s : cS) (kc ks : Nat) (Q : (Int32 → cS → Nat → Nat → Prop)) : Prop := ∀ P21 : (Int32 → Int32 → cS → Nat → Nat → Prop), (∀ (a3 : Int32) (a4 : Int32) (s : cS) (kc ks : Nat), C_Pr_hexNumber_s21 sa p0 p2 a3 a4 s kc ks Q P21 → P21 a3 a4 s kc ks) → P21 a3 a4 s kc ks
def C_Pr_hexNumber (sa : Nat → Nat) (p0 : Option Nat) (p1 : Int32) (p2 : Int32) (s : cS) (kc ks : Nat) (Q : (Int32 → cS → Nat → Nat → Prop)) : Prop := if (p2 - p1) < (1 : Int32) then (Q ((-1) : Int32) s kc ks) else (if (4 : Int32) < (p2 - p1) then (Q ((-1) : Int32) s kc ks) else ((C_Pr_hexNumber_b21 sa p0 p2 (0 : Int32) p1 s kc ks Q)))
set_option maxRecDepth 100000 in
set_option maxHeartbeats 4000000 in
theorem kc_Pr_hexNumber (base : Nat) (sa : Nat → Nat) {R : pmM} {s : cS} {kc ks : Nat} {Rt : pmR} {p0 : Option Nat} {p1 : Int32} {p2 : Int32} {Q : (Int32 → cS → Nat → Nat → Prop)} (hw : cW sa R base s) (h : C_Pr_hexNumber sa p0 p1 p2 s kc ks Q) (k : ∀ r s' kc' ks', cW sa R base s' → Q r s' kc' ks' → Rt (some (.int r)) (cM R s') kc' ks') : kP_Pr_hexNumber base sa [va_rf p0, .int p1, .int p2] (cM R s) kc ks Rt := by
  refine ⟨by cases p0 <;> exact Nat.le_of_ble_eq_true rfl, fun G hG => ?_⟩
  have eL : lv_args 0 [va_rf p0, .int p1, .int p2] = [(0, va_rf p0), (1, .int p1), (2, .int p2)] := by cases p0 <;> rfl
  rw [eL]
  have b21 : ∀ (a3 : Int32) (a4 : Int32) (s : cS) (kc ks : Nat), KK sa R base G 21 [(0, va_rf p0), (2, .int p2), (3, .int a3), (4, .int a4)] [] s kc ks (C_Pr_hexNumber_b21 sa p0 p2 a3 a4 s kc ks Q) := by
    have H : ∀ (P21 : (Int32 → Int32 → cS → Nat → Nat → Prop)) (hP21 : ∀ (a3 : Int32) (a4 : Int32) (s : cS) (kc ks : Nat), P21 a3 a4 s kc ks → cW sa R base s → G 21 [(0, va_rf p0), (2, .int p2), (3, .int a3), (4, .int a4)] [] (cM R s) kc ks) (a3 : Int32) (a4 : Int32) (s : cS) (kc ks : Nat), KK sa R base G 21 [(0, va_rf p0), (2, .int p2), (3, .int a3), (4, .int a4)] [] s kc ks (C_Pr_hexNumber_s21 sa p0 p2 a3 a4 s kc ks Q P21) := by
      intro P21 hP21
      have b97 : ∀ (a3 : Int32) (a4 : Int32) (a5 : Int32) (s : cS) (kc ks : Nat), KK sa R base G 97 [(0, va_rf p0), (2, .int p2), (3, .int a3), (4, .int a4), (5, .int a5)] [] s kc ks (C_Pr_hexNumber_b97 sa p0 p2 a3 a4 a5 s kc ks Q P21) := by
        intro a3 a4 a5 s kc ks
        refine kks hG rfl rfl ?_
        refine kk_ic hG rfl cc_i4 ?_
        refine kks hG rfl rfl ?_
        refine kks hG rfl rfl ?_
        refine kks hG rfl rfl ?_
        refine kk_st hG (L' := [(3, .int ((a3 <<< ((4 : Int32) &&& 31)) ||| a5)), (0, va_rf p0), (2, .int p2), (4, .int a4), (5, .int a5)]) rfl rfl (Nat.le_of_ble_eq_true rfl) rfl ?_
        refine kk_inc hG (L' := [(4, .int (a4 + (1 : Int32))), (3, .int ((a3 <<< ((4 : Int32) &&& 31)) ||| a5)), (0, va_rf p0), (2, .int p2), (5, .int a5)]) rfl (Nat.le_of_ble_eq_true rfl) rfl cc_i1 rfl ?_
        refine kk_go hG (t := 21) rfl rfl ?_
        exact kk_wl hG [2, 3, 1, 0] rfl (fun hw h => hP21 _ _ _ _ _ h hw)
      have b75 : ∀ (a3 : Int32) (a4 : Int32) (a5 : Int32) (s : cS) (kc ks : Nat), KK sa R base G 75 [(0, va_rf p0), (2, .int p2), (3, .int a3), (4, .int a4), (5, .int a5)] [] s kc ks (C_Pr_hexNumber_b75 sa p0 p2 a3 a4 a5 s kc ks Q P21) := by
        intro a3 a4 a5 s kc ks
        refine kks hG rfl rfl ?_
        refine kk_bi hG rfl cc_b65 ?_
        refine kk_ilt hG (t := 95) rfl rfl ?_ ?_
        · refine kk_ic hG rfl cc_im1 ?_
          exact kk_ri hG rfl rfl rfl k
        refine kks hG rfl rfl ?_
        refine kk_bi hG rfl cc_b70 ?_
        refine kk_igt hG (t := 95) rfl rfl ?_ ?_
        · refine kk_ic hG rfl cc_im1 ?_
          exact kk_ri hG rfl rfl rfl k
        refine kk_inc hG (L' := [(5, .int (a5 + ((-55) : Int32))), (0, va_rf p0), (2, .int p2), (3, .int a3), (4, .int a4)]) rfl (Nat.le_of_ble_eq_true rfl) rfl cc_im55 rfl ?_
        refine kk_go hG (t := 97) rfl rfl ?_
        exact kk_wl hG [1, 2, 3, 4, 0] rfl (b97 _ _ _ _ _ _)
      have b55 : ∀ (a3 : Int32) (a4 : Int32) (a5 : Int32) (s : cS) (kc ks : Nat), KK sa R base G 55 [(0, va_rf p0), (2, .int p2), (3, .int a3), (4, .int a4), (5, .int a5)] [] s kc ks (C_Pr_hexNumber_b55 sa p0 p2 a3 a4 a5 s kc ks Q P21) := by
        intro a3 a4 a5 s kc ks
        refine kks hG rfl rfl ?_
        refine kk_bi hG rfl cc_b97 ?_
        refine kk_ilt hG (t := 75) rfl rfl ?_ ?_
        · exact kk_wl hG [0, 1, 2, 3, 4] rfl (b75 _ _ _ _ _ _)
        refine kks hG rfl rfl ?_
        refine kk_bi hG rfl cc_b102 ?_
        refine kk_igt hG (t := 75) rfl rfl ?_ ?_
        · exact kk_wl hG [0, 1, 2, 3, 4] rfl (b75 _ _ _ _ _ _)
        refine kk_inc hG (L' := [(5, .int (a5 + ((-87) : Int32))), (0, va_rf p0), (2, .int p2), (3, .int a3), (4, .int a4)]) rfl (Nat.le_of_ble_eq_true rfl) rfl cc_im87 rfl ?_
        refine kk_go hG (t := 97) rfl rfl ?_
        exact kk_wl hG [1, 2, 3, 4, 0] rfl (b97 _ _ _ _ _ _)
      intro a3 a4 s kc ks
      refine kks hG rfl rfl ?_
      refine kks hG rfl rfl ?_
      refine kk_ige hG (t := 110) rfl rfl ?_ ?_
      · refine kks hG rfl rfl ?_
        exact kk_ri hG rfl rfl rfl k
      refine kk_aln hG (x := p0) rfl rfl ?_
      refine kks hG rfl rfl ?_
      refine kk_ob (fun b1 eb1 => ?_)
      subst eb1
      refine kk_cx (w := .int) hG 0 rfl rfl (Nat.le_of_ble_eq_true rfl) (by decide) rfl (st' := []) rfl (cats_le (Nat.le_of_ble_eq_true rfl)) (fun _ hw h k => kk_rcv h.1 (kc_By_at base sa hw h.2 k)) (fun r2 sr2 cr2 dr2 => ?_)
      refine kk_st hG (L' := [(5, .int r2), (0, va_rf (some b1)), (2, .int p2), (3, .int a3), (4, .int a4)]) rfl rfl (Nat.le_of_ble_eq_true rfl) rfl ?_
      refine kks hG rfl rfl ?_
      refine kk_bi hG rfl cc_b48 ?_
      refine kk_ilt hG (t := 55) rfl rfl ?_ ?_
      · exact kk_wl hG [1, 2, 3, 4, 0] rfl (b55 _ _ _ _ _ _)
      refine kks hG rfl rfl ?_
      refine kk_bi hG rfl cc_b57 ?_
      refine kk_igt hG (t := 55) rfl rfl ?_ ?_
      · exact kk_wl hG [1, 2, 3, 4, 0] rfl (b55 _ _ _ _ _ _)
      refine kk_inc hG (L' := [(5, .int (r2 + ((-48) : Int32))), (0, va_rf (some b1)), (2, .int p2), (3, .int a3), (4, .int a4)]) rfl (Nat.le_of_ble_eq_true rfl) rfl cc_im48 rfl ?_
      refine kk_go hG (t := 97) rfl rfl ?_
      exact kk_wl hG [1, 2, 3, 4, 0] rfl (b97 _ _ _ _ _ _)
    exact fun a3 a4 s kc ks hw h => h (fun a3 a4 s kc ks => cW sa R base s → G 21 [(0, va_rf p0), (2, .int p2), (3, .int a3), (4, .int a4)] [] (cM R s) kc ks) (fun a3 a4 s kc ks hs hw => H _ (fun _ _ _ _ _ hp hw => hp hw) a3 a4 s kc ks hw hs) hw
  refine (show KK sa R base G 0 [(0, va_rf p0), (1, .int p1), (2, .int p2)] [] s kc ks (C_Pr_hexNumber sa p0 p1 p2 s kc ks Q) from ?_) hw h
  refine kks hG rfl rfl ?_
  refine kks hG rfl rfl ?_
  refine kks hG rfl rfl ?_
  refine kk_ic hG rfl cc_i1 ?_
  refine kk_ilt hG (t := 14) rfl rfl ?_ ?_
  · refine kk_ic hG rfl cc_im1 ?_
    exact kk_ri hG rfl rfl rfl k
  refine kks hG rfl rfl ?_
  refine kks hG rfl rfl ?_
  refine kks hG rfl rfl ?_
  refine kk_ic hG rfl cc_i4 ?_
  refine kk_ile hG (t := 16) rfl rfl ?_ ?_
  · refine kk_ic hG rfl cc_i0 ?_
    refine kk_st hG (L' := [(3, .int (0 : Int32)), (0, va_rf p0), (1, .int p1), (2, .int p2)]) rfl rfl (Nat.le_of_ble_eq_true rfl) rfl ?_
    refine kks hG rfl rfl ?_
    refine kk_st hG (L' := [(4, .int p1), (3, .int (0 : Int32)), (0, va_rf p0), (1, .int p1), (2, .int p2)]) rfl rfl (Nat.le_of_ble_eq_true rfl) rfl ?_
    exact kk_wl hG [2, 4, 1, 0] rfl (b21 _ _ _ _ _)
  refine kk_ic hG rfl cc_im1 ?_
  exact kk_ri hG rfl rfl rfl k
def C_Pr_maskHigh (sa : Nat → Nat) (p0 : Int32) (s : cS) (kc ks : Nat) (Q : (Int64 → cS → Nat → Nat → Prop)) : Prop := if 0 < p0 then (if p0 < (64 : Int32) then (Q (((-1) : Int64) <<< ((Int32.toInt64 ((64 : Int32) - p0)) &&& 63)) s kc ks) else (Q ((-1) : Int64) s kc ks)) else (Q (0 : Int64) s kc ks)
set_option maxRecDepth 100000 in
set_option maxHeartbeats 4000000 in
theorem kc_Pr_maskHigh (base : Nat) (sa : Nat → Nat) {R : pmM} {s : cS} {kc ks : Nat} {Rt : pmR} {p0 : Int32} {Q : (Int64 → cS → Nat → Nat → Prop)} (hw : cW sa R base s) (h : C_Pr_maskHigh sa p0 s kc ks Q) (k : ∀ r s' kc' ks', cW sa R base s' → Q r s' kc' ks' → Rt (some (.long r)) (cM R s') kc' ks') : kP_Pr_maskHigh base sa [.int p0] (cM R s) kc ks Rt := by
  refine ⟨Nat.le_of_ble_eq_true rfl, fun G hG => ?_⟩
  refine (show KK sa R base G 0 [(0, .int p0)] [] s kc ks (C_Pr_maskHigh sa p0 s kc ks Q) from ?_) hw h
  refine kks hG rfl rfl ?_
  refine kk_zgt hG (t := 6) rfl rfl ?_ ?_
  · refine kks hG rfl rfl ?_
    refine kk_bi hG rfl cc_b64 ?_
    refine kk_ilt hG (t := 18) rfl rfl ?_ ?_
    · refine kk_l2 hG (v := ((-1) : Int64)) rfl rfl ?_
      refine kk_bi hG rfl cc_b64 ?_
      refine kks hG rfl rfl ?_
      refine kks hG rfl rfl ?_
      refine kks hG rfl rfl ?_
      exact kk_rl hG rfl rfl k
    refine kk_l2 hG (v := ((-1) : Int64)) rfl rfl ?_
    refine kk_go hG (t := 26) rfl rfl ?_
    exact kk_rl hG rfl rfl k
  refine kk_lc hG (c := 0) (v := 0) rfl rfl ?_
  exact kk_rl hG rfl rfl k
def C_Pr_maskLow (sa : Nat → Nat) (p0 : Int32) (s : cS) (kc ks : Nat) (Q : (Int64 → cS → Nat → Nat → Prop)) : Prop := if (64 : Int32) < p0 then (if p0 < (128 : Int32) then (Q (((-1) : Int64) <<< ((Int32.toInt64 ((128 : Int32) - p0)) &&& 63)) s kc ks) else (Q ((-1) : Int64) s kc ks)) else (Q (0 : Int64) s kc ks)
set_option maxRecDepth 100000 in
set_option maxHeartbeats 4000000 in
theorem kc_Pr_maskLow (base : Nat) (sa : Nat → Nat) {R : pmM} {s : cS} {kc ks : Nat} {Rt : pmR} {p0 : Int32} {Q : (Int64 → cS → Nat → Nat → Prop)} (hw : cW sa R base s) (h : C_Pr_maskLow sa p0 s kc ks Q) (k : ∀ r s' kc' ks', cW sa R base s' → Q r s' kc' ks' → Rt (some (.long r)) (cM R s') kc' ks') : kP_Pr_maskLow base sa [.int p0] (cM R s) kc ks Rt := by
  refine ⟨Nat.le_of_ble_eq_true rfl, fun G hG => ?_⟩
  refine (show KK sa R base G 0 [(0, .int p0)] [] s kc ks (C_Pr_maskLow sa p0 s kc ks Q) from ?_) hw h
  refine kks hG rfl rfl ?_
  refine kk_bi hG rfl cc_b64 ?_
  refine kk_igt hG (t := 8) rfl rfl ?_ ?_
  · refine kks hG rfl rfl ?_
    refine kk_si hG rfl cc_s128 ?_
    refine kk_ilt hG (t := 21) rfl rfl ?_ ?_
    · refine kk_l2 hG (v := ((-1) : Int64)) rfl rfl ?_
      refine kk_si hG rfl cc_s128 ?_
      refine kks hG rfl rfl ?_
      refine kks hG rfl rfl ?_
      refine kks hG rfl rfl ?_
      exact kk_rl hG rfl rfl k
    refine kk_l2 hG (v := ((-1) : Int64)) rfl rfl ?_
    refine kk_go hG (t := 30) rfl rfl ?_
    exact kk_rl hG rfl rfl k
  refine kk_lc hG (c := 0) (v := 0) rfl rfl ?_
  exact kk_rl hG rfl rfl k
def C_Pr_openGap_s67 (sa : Nat → Nat) (p0 : Nat) (p2 : Int32) (a3 : Int64) (a5 : Int64) (a7 : Int32) (s : cS) (kc ks : Nat) (Q : (Int32 → cS → Nat → Nat → Prop)) (P67 : (Int32 → cS → Nat → Nat → Prop)) : Prop := if a7 < p2 then (ob (gJ s 5 1 p0) (fun v5 => (ob (gJ s 5 2 p0) (fun v6 => (ob (pJ s 5 1 p0 ((v5 <<< ((Int32.toInt64 (16 : Int32)) &&& 63)) ||| (ush_L v6 (48 : Int32)))) (fun s7 => (ob (gJ s7 5 2 p0) (fun v8 => (ob (pJ s7 5 2 p0 (v8 <<< ((Int32.toInt64 (16 : Int32)) &&& 63))) (fun s9 => ((P67 (a7 + (1 : Int32)) s9 kc ks)))))))))))) else ((ob (gJ s 5 1 p0) (fun v1 => (ob (pJ s 5 1 p0 (v1 ||| a3)) (fun s2 => (ob (gJ s2 5 2 p0) (fun v3 => (ob (pJ s2 5 2 p0 (v3 ||| a5)) (fun s4 => (Q (1 : Int32) s4 kc ks))))))))))
def C_Pr_openGap_b67 (sa : Nat → Nat) (p0 : Nat) (p2 : Int32) (a3 : Int64) (a5 : Int64) (a7 : Int32) (s : cS) (kc ks : Nat) (Q : (Int32 → cS → Nat → Nat → Prop)) : Prop := ∀ P67 : (Int32 → cS → Nat → Nat → Prop), (∀ (a7 : Int32) (s : cS) (kc ks : Nat), C_Pr_openGap_s67 sa p0 p2 a3 a5 a7 s kc ks Q P67 → P67 a7 s kc ks) → P67 a7 s kc ks
def C_Pr_openGap (sa : Nat → Nat) (p0 : Nat) (p1 : Int32) (p2 : Int32) (s : cS) (kc ks : Nat) (Q : (Int32 → cS → Nat → Nat → Prop)) : Prop := ob (gJ s 5 1 p0) (fun v1 => (C_Pr_maskHigh sa ((128 : Int32) - ((16 : Int32) * p1)) s kc ks (fun r2 sr2 cr2 dr2 => (ob (gJ sr2 5 2 p0) (fun v3 => (C_Pr_maskLow sa ((128 : Int32) - ((16 : Int32) * p1)) sr2 cr2 dr2 (fun r4 sr4 cr4 dr4 => (ob (gJ sr4 5 1 p0) (fun v5 => (ob (pJ sr4 5 1 p0 (v5 ^^^ (v1 &&& (r2 ^^^ ((-1) : Int64))))) (fun s6 => (ob (gJ s6 5 2 p0) (fun v7 => (ob (pJ s6 5 2 p0 (v7 ^^^ (v3 &&& (r4 ^^^ ((-1) : Int64))))) (fun s8 => ((C_Pr_openGap_b67 sa p0 p2 (v1 &&& (r2 ^^^ ((-1) : Int64))) (v3 &&& (r4 ^^^ ((-1) : Int64))) (0 : Int32) s8 cr4 dr4 Q)))))))))))))))))
set_option maxRecDepth 100000 in
set_option maxHeartbeats 4000000 in
theorem kc_Pr_openGap (base : Nat) (sa : Nat → Nat) {R : pmM} {s : cS} {kc ks : Nat} {Rt : pmR} {p0 : Nat} {p1 : Int32} {p2 : Int32} {Q : (Int32 → cS → Nat → Nat → Prop)} (hw : cW sa R base s) (h : C_Pr_openGap sa p0 p1 p2 s kc ks Q) (k : ∀ r s' kc' ks', cW sa R base s' → Q r s' kc' ks' → Rt (some (.int r)) (cM R s') kc' ks') : kP_Pr_openGap base sa [.ref p0, .int p1, .int p2] (cM R s) kc ks Rt := by
  refine ⟨Nat.le_of_ble_eq_true rfl, fun G hG => ?_⟩
  have b67 : ∀ (a3 : Int64) (a5 : Int64) (a7 : Int32) (s : cS) (kc ks : Nat), KK sa R base G 67 [(0, va_rf (some p0)), (2, .int p2), (3, .long a3), (5, .long a5), (7, .int a7)] [] s kc ks (C_Pr_openGap_b67 sa p0 p2 a3 a5 a7 s kc ks Q) := by
    intro a3 a5
    have H : ∀ (P67 : (Int32 → cS → Nat → Nat → Prop)) (hP67 : ∀ (a7 : Int32) (s : cS) (kc ks : Nat), P67 a7 s kc ks → cW sa R base s → G 67 [(0, va_rf (some p0)), (2, .int p2), (3, .long a3), (5, .long a5), (7, .int a7)] [] (cM R s) kc ks) (a7 : Int32) (s : cS) (kc ks : Nat), KK sa R base G 67 [(0, va_rf (some p0)), (2, .int p2), (3, .long a3), (5, .long a5), (7, .int a7)] [] s kc ks (C_Pr_openGap_s67 sa p0 p2 a3 a5 a7 s kc ks Q P67) := by
      intro P67 hP67
      intro a7 s kc ks
      refine kks hG rfl rfl ?_
      refine kks hG rfl rfl ?_
      refine kk_ige hG (t := 109) rfl rfl ?_ ?_
      · refine kk_aln hG (x := (some p0)) rfl rfl ?_
        refine kk_dup hG (x := (some p0)) rfl ?_
        refine kk_gj hG (c := 5) (k := 1) (a := p0) rfl rfl rfl rfl (fun v1 => ?_)
        refine kks hG rfl rfl ?_
        refine kks hG rfl rfl ?_
        refine kk_pj hG (c := 5) (k := 1) (a := p0) rfl rfl rfl rfl (fun s2 => ?_)
        refine kk_aln hG (x := (some p0)) rfl rfl ?_
        refine kk_dup hG (x := (some p0)) rfl ?_
        refine kk_gj hG (c := 5) (k := 2) (a := p0) rfl rfl rfl rfl (fun v3 => ?_)
        refine kks hG rfl rfl ?_
        refine kks hG rfl rfl ?_
        refine kk_pj hG (c := 5) (k := 2) (a := p0) rfl rfl rfl rfl (fun s4 => ?_)
        refine kk_ic hG rfl cc_i1 ?_
        exact kk_ri hG rfl rfl rfl k
      refine kk_aln hG (x := (some p0)) rfl rfl ?_
      refine kk_aln hG (x := (some p0)) rfl rfl ?_
      refine kk_gj hG (c := 5) (k := 1) (a := p0) rfl rfl rfl rfl (fun v5 => ?_)
      refine kk_bi hG rfl cc_b16 ?_
      refine kks hG rfl rfl ?_
      refine kk_aln hG (x := (some p0)) rfl rfl ?_
      refine kk_gj hG (c := 5) (k := 2) (a := p0) rfl rfl rfl rfl (fun v6 => ?_)
      refine kk_bi hG rfl cc_b48 ?_
      refine kks hG rfl rfl ?_
      refine kks hG rfl rfl ?_
      refine kk_pj hG (c := 5) (k := 1) (a := p0) rfl rfl rfl rfl (fun s7 => ?_)
      refine kk_aln hG (x := (some p0)) rfl rfl ?_
      refine kk_dup hG (x := (some p0)) rfl ?_
      refine kk_gj hG (c := 5) (k := 2) (a := p0) rfl rfl rfl rfl (fun v8 => ?_)
      refine kk_bi hG rfl cc_b16 ?_
      refine kks hG rfl rfl ?_
      refine kk_pj hG (c := 5) (k := 2) (a := p0) rfl rfl rfl rfl (fun s9 => ?_)
      refine kk_inc hG (L' := [(7, .int (a7 + (1 : Int32))), (0, va_rf (some p0)), (2, .int p2), (3, .long a3), (5, .long a5)]) rfl (Nat.le_of_ble_eq_true rfl) rfl cc_i1 rfl ?_
      refine kk_go hG (t := 67) rfl rfl ?_
      exact kk_wl hG [1, 2, 3, 4, 0] rfl (fun hw h => hP67 _ _ _ _ h hw)
    exact fun a7 s kc ks hw h => h (fun a7 s kc ks => cW sa R base s → G 67 [(0, va_rf (some p0)), (2, .int p2), (3, .long a3), (5, .long a5), (7, .int a7)] [] (cM R s) kc ks) (fun a7 s kc ks hs hw => H _ (fun _ _ _ _ hp hw => hp hw) a7 s kc ks hw hs) hw
  refine (show KK sa R base G 0 [(0, va_rf (some p0)), (1, .int p1), (2, .int p2)] [] s kc ks (C_Pr_openGap sa p0 p1 p2 s kc ks Q) from ?_) hw h
  refine kk_aln hG (x := (some p0)) rfl rfl ?_
  refine kk_gj hG (c := 5) (k := 1) (a := p0) rfl rfl rfl rfl (fun v1 => ?_)
  refine kk_si hG rfl cc_s128 ?_
  refine kk_bi hG rfl cc_b16 ?_
  refine kks hG rfl rfl ?_
  refine kks hG rfl rfl ?_
  refine kks hG rfl rfl ?_
  refine kk_cx (w := .long) hG 2 rfl rfl (Nat.le_of_ble_eq_true rfl) (by decide) rfl (st' := [.long v1]) rfl (cats_le (Nat.le_of_ble_eq_true rfl)) (fun _ hw h k => kc_Pr_maskHigh base sa hw h k) (fun r2 sr2 cr2 dr2 => ?_)
  refine kk_l2 hG (v := ((-1) : Int64)) rfl rfl ?_
  refine kks hG rfl rfl ?_
  refine kks hG rfl rfl ?_
  refine kk_st hG (L' := [(3, .long (v1 &&& (r2 ^^^ ((-1) : Int64)))), (0, va_rf (some p0)), (1, .int p1), (2, .int p2)]) rfl rfl (Nat.le_of_ble_eq_true rfl) rfl ?_
  refine kk_aln hG (x := (some p0)) rfl rfl ?_
  refine kk_gj hG (c := 5) (k := 2) (a := p0) rfl rfl rfl rfl (fun v3 => ?_)
  refine kk_si hG rfl cc_s128 ?_
  refine kk_bi hG rfl cc_b16 ?_
  refine kks hG rfl rfl ?_
  refine kks hG rfl rfl ?_
  refine kks hG rfl rfl ?_
  refine kk_cx (w := .long) hG 2 rfl rfl (Nat.le_of_ble_eq_true rfl) (by decide) rfl (st' := [.long v3]) rfl (cats_le (Nat.le_of_ble_eq_true rfl)) (fun _ hw h k => kc_Pr_maskLow base sa hw h k) (fun r4 sr4 cr4 dr4 => ?_)
  refine kk_l2 hG (v := ((-1) : Int64)) rfl rfl ?_
  refine kks hG rfl rfl ?_
  refine kks hG rfl rfl ?_
  refine kk_st hG (L' := [(5, .long (v3 &&& (r4 ^^^ ((-1) : Int64)))), (3, .long (v1 &&& (r2 ^^^ ((-1) : Int64)))), (0, va_rf (some p0)), (1, .int p1), (2, .int p2)]) rfl rfl (Nat.le_of_ble_eq_true rfl) rfl ?_
  refine kk_aln hG (x := (some p0)) rfl rfl ?_
  refine kk_dup hG (x := (some p0)) rfl ?_
  refine kk_gj hG (c := 5) (k := 1) (a := p0) rfl rfl rfl rfl (fun v5 => ?_)
  refine kks hG rfl rfl ?_
  refine kks hG rfl rfl ?_
  refine kk_pj hG (c := 5) (k := 1) (a := p0) rfl rfl rfl rfl (fun s6 => ?_)
  refine kk_aln hG (x := (some p0)) rfl rfl ?_
  refine kk_dup hG (x := (some p0)) rfl ?_
  refine kk_gj hG (c := 5) (k := 2) (a := p0) rfl rfl rfl rfl (fun v7 => ?_)
  refine kks hG rfl rfl ?_
  refine kks hG rfl rfl ?_
  refine kk_pj hG (c := 5) (k := 2) (a := p0) rfl rfl rfl rfl (fun s8 => ?_)
  refine kk_ic hG rfl cc_i0 ?_
  refine kk_st hG (L' := [(7, .int (0 : Int32)), (5, .long (v3 &&& (r4 ^^^ ((-1) : Int64)))), (3, .long (v1 &&& (r2 ^^^ ((-1) : Int64)))), (0, va_rf (some p0)), (1, .int p1), (2, .int p2)]) rfl rfl (Nat.le_of_ble_eq_true rfl) rfl ?_
  exact kk_wl hG [3, 5, 2, 1, 0] rfl (b67 _ _ _ _ _ _)
def C_Pr_parseSix_b212 (sa : Nat → Nat) (p0 : Nat) (p1 : Option Nat) (p3 : Int32) (a4 : Int32) (a5 : Int32) (a6 : Int32) (a7 : Int32) (s : cS) (kc ks : Nat) (Q : (Int32 → cS → Nat → Nat → Prop)) (P59 : (Int32 → Int32 → Int32 → Int32 → cS → Nat → Nat → Prop)) : Prop := (P59 a4 a5 a6 (a7 + (1 : Int32)) s kc ks)
def C_Pr_parseSix_b180 (sa : Nat → Nat) (p0 : Nat) (p1 : Option Nat) (p3 : Int32) (a4 : Int32) (a5 : Int32) (a6 : Int32) (a7 : Int32) (s : cS) (kc ks : Nat) (Q : (Int32 → cS → Nat → Nat → Prop)) (P59 : (Int32 → Int32 → Int32 → Int32 → cS → Nat → Nat → Prop)) : Prop := if a4 < p3 then (ob p1 (fun b1 => (okO s 0 b1 ∧ C_By_at sa b1 a4 s kc ks (fun r2 sr2 cr2 dr2 => (if r2 = (58 : Int32) then (if a6 = ((-1) : Int32) then ((C_Pr_parseSix_b212 sa p0 (some b1) p3 (a4 + (1 : Int32)) a5 a5 a7 sr2 cr2 dr2 Q P59)) else ((Q (0 : Int32) sr2 cr2 dr2))) else ((C_Pr_parseSix_b212 sa p0 (some b1) p3 a4 a5 a6 a7 sr2 cr2 dr2 Q P59))))))) else ((C_Pr_parseSix_b212 sa p0 p1 p3 a4 a5 a6 a7 s kc ks Q P59))
def C_Pr_parseSix_b99 (sa : Nat → Nat) (p0 : Nat) (p1 : Option Nat) (p3 : Int32) (a4 : Int32) (a5 : Int32) (a6 : Int32) (a7 : Int32) (a8 : Int32) (s : cS) (kc ks : Nat) (Q : (Int32 → cS → Nat → Nat → Prop)) (P59 : (Int32 → Int32 → Int32 → Int32 → cS → Nat → Nat → Prop)) : Prop := C_Pr_hexNumber sa p1 a4 a8 s kc ks (fun r1 sr1 cr1 dr1 => (if r1 < 0 then ((Q (0 : Int32) sr1 cr1 dr1)) else (if a5 = (8 : Int32) then ((Q (0 : Int32) sr1 cr1 dr1)) else (ob (gJ sr1 5 1 p0) (fun v2 => (ob (gJ sr1 5 2 p0) (fun v3 => (ob (pJ sr1 5 1 p0 ((v2 <<< ((Int32.toInt64 (16 : Int32)) &&& 63)) ||| (ush_L v3 (48 : Int32)))) (fun s4 => (ob (gJ s4 5 2 p0) (fun v5 => (ob (pJ s4 5 2 p0 ((v5 <<< ((Int32.toInt64 (16 : Int32)) &&& 63)) ||| (Int32.toInt64 r1))) (fun s6 => (if a8 < p3 then (if (a8 + (1 : Int32)) = p3 then ((Q (0 : Int32) s6 cr1 dr1)) else ((C_Pr_parseSix_b180 sa p0 p1 p3 (a8 + (1 : Int32)) (a5 + (1 : Int32)) a6 a7 s6 cr1 dr1 Q P59))) else ((C_Pr_parseSix_b180 sa p0 p1 p3 (a8 + (1 : Int32)) (a5 + (1 : Int32)) a6 a7 s6 cr1 dr1 Q P59))))))))))))))))
def C_Pr_parseSix_s76 (sa : Nat → Nat) (p0 : Nat) (p1 : Option Nat) (p3 : Int32) (a4 : Int32) (a5 : Int32) (a6 : Int32) (a7 : Int32) (a8 : Int32) (s : cS) (kc ks : Nat) (Q : (Int32 → cS → Nat → Nat → Prop)) (P59 : (Int32 → Int32 → Int32 → Int32 → cS → Nat → Nat → Prop)) (P76 : (Int32 → cS → Nat → Nat → Prop)) : Prop := if a8 < p3 then (ob p1 (fun b1 => (okO s 0 b1 ∧ C_By_at sa b1 a8 s kc ks (fun r2 sr2 cr2 dr2 => (if r2 = (58 : Int32) then ((C_Pr_parseSix_b99 sa p0 (some b1) p3 a4 a5 a6 a7 a8 sr2 cr2 dr2 Q P59)) else ((P76 (a8 + (1 : Int32)) sr2 cr2 dr2))))))) else ((C_Pr_parseSix_b99 sa p0 p1 p3 a4 a5 a6 a7 a8 s kc ks Q P59))
def C_Pr_parseSix_b76 (sa : Nat → Nat) (p0 : Nat) (p1 : Option Nat) (p3 : Int32) (a4 : Int32) (a5 : Int32) (a6 : Int32) (a7 : Int32) (a8 : Int32) (s : cS) (kc ks : Nat) (Q : (Int32 → cS → Nat → Nat → Prop)) (P59 : (Int32 → Int32 → Int32 → Int32 → cS → Nat → Nat → Prop)) : Prop := ∀ P76 : (Int32 → cS → Nat → Nat → Prop), (∀ (a8 : Int32) (s : cS) (kc ks : Nat), C_Pr_parseSix_s76 sa p0 p1 p3 a4 a5 a6 a7 a8 s kc ks Q P59 P76 → P76 a8 s kc ks) → P76 a8 s kc ks
def C_Pr_parseSix_b218 (sa : Nat → Nat) (p0 : Nat) (a5 : Int32) (a6 : Int32) (s : cS) (kc ks : Nat) (Q : (Int32 → cS → Nat → Nat → Prop)) : Prop := if a6 = ((-1) : Int32) then (if a5 = (8 : Int32) then (Q (1 : Int32) s kc ks) else (Q (0 : Int32) s kc ks)) else (if a5 < (8 : Int32) then (okO s 5 p0 ∧ C_Pr_openGap sa p0 (a5 - a6) ((8 : Int32) - a5) s kc ks (fun r1 sr1 cr1 dr1 => (if r1 = 0 then (Q (0 : Int32) sr1 cr1 dr1) else (Q (1 : Int32) sr1 cr1 dr1)))) else (Q (0 : Int32) s kc ks))
def C_Pr_parseSix_s59 (sa : Nat → Nat) (p0 : Nat) (p1 : Option Nat) (p3 : Int32) (a4 : Int32) (a5 : Int32) (a6 : Int32) (a7 : Int32) (s : cS) (kc ks : Nat) (Q : (Int32 → cS → Nat → Nat → Prop)) (P59 : (Int32 → Int32 → Int32 → Int32 → cS → Nat → Nat → Prop)) : Prop := if a7 < (9 : Int32) then (if a4 < p3 then ((C_Pr_parseSix_b76 sa p0 p1 p3 a4 a5 a6 a7 a4 s kc ks Q P59)) else ((C_Pr_parseSix_b218 sa p0 a5 a6 s kc ks Q))) else ((C_Pr_parseSix_b218 sa p0 a5 a6 s kc ks Q))
def C_Pr_parseSix_b59 (sa : Nat → Nat) (p0 : Nat) (p1 : Option Nat) (p3 : Int32) (a4 : Int32) (a5 : Int32) (a6 : Int32) (a7 : Int32) (s : cS) (kc ks : Nat) (Q : (Int32 → cS → Nat → Nat → Prop)) : Prop := ∀ P59 : (Int32 → Int32 → Int32 → Int32 → cS → Nat → Nat → Prop), (∀ (a4 : Int32) (a5 : Int32) (a6 : Int32) (a7 : Int32) (s : cS) (kc ks : Nat), C_Pr_parseSix_s59 sa p0 p1 p3 a4 a5 a6 a7 s kc ks Q P59 → P59 a4 a5 a6 a7 s kc ks) → P59 a4 a5 a6 a7 s kc ks
def C_Pr_parseSix_b56 (sa : Nat → Nat) (p0 : Nat) (p1 : Option Nat) (p3 : Int32) (a4 : Int32) (a5 : Int32) (a6 : Int32) (s : cS) (kc ks : Nat) (Q : (Int32 → cS → Nat → Nat → Prop)) : Prop := (C_Pr_parseSix_b59 sa p0 p1 p3 a4 a5 a6 (0 : Int32) s kc ks Q)
def C_Pr_parseSix (sa : Nat → Nat) (p0 : Nat) (p1 : Option Nat) (p2 : Int32) (p3 : Int32) (s : cS) (kc ks : Nat) (Q : (Int32 → cS → Nat → Nat → Prop)) : Prop := okO s 5 p0 ∧ C_Pr_setZero sa p0 (6 : Int32) (128 : Int32) s kc ks (fun sr1 cr1 dr1 => (ob p1 (fun b2 => (okO sr1 0 b2 ∧ C_By_at sa b2 p2 sr1 cr1 dr1 (fun r3 sr3 cr3 dr3 => (if r3 = (58 : Int32) then (if (p2 + (1 : Int32)) < p3 then (okO sr3 0 b2 ∧ C_By_at sa b2 (p2 + (1 : Int32)) sr3 cr3 dr3 (fun r4 sr4 cr4 dr4 => (if r4 = (58 : Int32) then ((C_Pr_parseSix_b56 sa p0 (some b2) p3 (p2 + (2 : Int32)) (0 : Int32) (0 : Int32) sr4 cr4 dr4 Q)) else ((C_Pr_parseSix_b56 sa p0 (some b2) p3 p2 (0 : Int32) ((-1) : Int32) sr4 cr4 dr4 Q))))) else ((C_Pr_parseSix_b56 sa p0 (some b2) p3 p2 (0 : Int32) ((-1) : Int32) sr3 cr3 dr3 Q))) else ((C_Pr_parseSix_b56 sa p0 (some b2) p3 p2 (0 : Int32) ((-1) : Int32) sr3 cr3 dr3 Q))))))))
set_option maxRecDepth 100000 in
set_option maxHeartbeats 4000000 in
theorem kc_Pr_parseSix (base : Nat) (sa : Nat → Nat) {R : pmM} {s : cS} {kc ks : Nat} {Rt : pmR} {p0 : Nat} {p1 : Option Nat} {p2 : Int32} {p3 : Int32} {Q : (Int32 → cS → Nat → Nat → Prop)} (hw : cW sa R base s) (h : C_Pr_parseSix sa p0 p1 p2 p3 s kc ks Q) (k : ∀ r s' kc' ks', cW sa R base s' → Q r s' kc' ks' → Rt (some (.int r)) (cM R s') kc' ks') : kP_Pr_parseSix base sa [.ref p0, va_rf p1, .int p2, .int p3] (cM R s) kc ks Rt := by
  refine ⟨by cases p1 <;> exact Nat.le_of_ble_eq_true rfl, fun G hG => ?_⟩
  have eL : lv_args 0 [.ref p0, va_rf p1, .int p2, .int p3] = [(0, va_rf (some p0)), (1, va_rf p1), (2, .int p2), (3, .int p3)] := by cases p1 <;> rfl
  rw [eL]
  have b218 : ∀ (a5 : Int32) (a6 : Int32) (s : cS) (kc ks : Nat), KK sa R base G 218 [(0, va_rf (some p0)), (5, .int a5), (6, .int a6)] [] s kc ks (C_Pr_parseSix_b218 sa p0 a5 a6 s kc ks Q) := by
    intro a5 a6 s kc ks
    refine kks hG rfl rfl ?_
    refine kk_ic hG rfl cc_im1 ?_
    refine kk_ine hG (t := 239) rfl rfl ?_ ?_
    · refine kks hG rfl rfl ?_
      refine kk_bi hG rfl cc_b8 ?_
      refine kk_ige hG (t := 267) rfl rfl ?_ ?_
      · refine kk_ic hG rfl cc_i0 ?_
        exact kk_ri hG rfl rfl rfl k
      refine kk_aln hG (x := (some p0)) rfl rfl ?_
      refine kks hG rfl rfl ?_
      refine kks hG rfl rfl ?_
      refine kks hG rfl rfl ?_
      refine kk_bi hG rfl cc_b8 ?_
      refine kks hG rfl rfl ?_
      refine kks hG rfl rfl ?_
      refine kk_cx (w := .int) hG 0 rfl rfl (Nat.le_of_ble_eq_true rfl) (by decide) rfl (st' := []) rfl (cats_le (Nat.le_of_ble_eq_true rfl)) (fun _ hw h k => kk_rcv h.1 (kc_Pr_openGap base sa hw h.2 k)) (fun r1 sr1 cr1 dr1 => ?_)
      refine kk_zeq hG (t := 267) rfl rfl ?_ ?_
      · refine kk_ic hG rfl cc_i0 ?_
        exact kk_ri hG rfl rfl rfl k
      refine kk_ic hG rfl cc_i1 ?_
      refine kk_go hG (t := 268) rfl rfl ?_
      exact kk_ri hG rfl rfl rfl k
    refine kks hG rfl rfl ?_
    refine kk_bi hG rfl cc_b8 ?_
    refine kk_ine hG (t := 235) rfl rfl ?_ ?_
    · refine kk_ic hG rfl cc_i0 ?_
      refine kk_go hG (t := 268) rfl rfl ?_
      exact kk_ri hG rfl rfl rfl k
    refine kk_ic hG rfl cc_i1 ?_
    refine kk_go hG (t := 268) rfl rfl ?_
    exact kk_ri hG rfl rfl rfl k
  have b59 : ∀ (a4 : Int32) (a5 : Int32) (a6 : Int32) (a7 : Int32) (s : cS) (kc ks : Nat), KK sa R base G 59 [(0, va_rf (some p0)), (1, va_rf p1), (3, .int p3), (4, .int a4), (5, .int a5), (6, .int a6), (7, .int a7)] [] s kc ks (C_Pr_parseSix_b59 sa p0 p1 p3 a4 a5 a6 a7 s kc ks Q) := by
    have H : ∀ (P59 : (Int32 → Int32 → Int32 → Int32 → cS → Nat → Nat → Prop)) (hP59 : ∀ (a4 : Int32) (a5 : Int32) (a6 : Int32) (a7 : Int32) (s : cS) (kc ks : Nat), P59 a4 a5 a6 a7 s kc ks → cW sa R base s → G 59 [(0, va_rf (some p0)), (1, va_rf p1), (3, .int p3), (4, .int a4), (5, .int a5), (6, .int a6), (7, .int a7)] [] (cM R s) kc ks) (a4 : Int32) (a5 : Int32) (a6 : Int32) (a7 : Int32) (s : cS) (kc ks : Nat), KK sa R base G 59 [(0, va_rf (some p0)), (1, va_rf p1), (3, .int p3), (4, .int a4), (5, .int a5), (6, .int a6), (7, .int a7)] [] s kc ks (C_Pr_parseSix_s59 sa p0 p1 p3 a4 a5 a6 a7 s kc ks Q P59) := by
      intro P59 hP59
      have b212 : ∀ (a4 : Int32) (a5 : Int32) (a6 : Int32) (a7 : Int32) (s : cS) (kc ks : Nat), KK sa R base G 212 [(0, va_rf (some p0)), (1, va_rf p1), (3, .int p3), (4, .int a4), (5, .int a5), (6, .int a6), (7, .int a7)] [] s kc ks (C_Pr_parseSix_b212 sa p0 p1 p3 a4 a5 a6 a7 s kc ks Q P59) := by
        intro a4 a5 a6 a7 s kc ks
        refine kk_inc hG (L' := [(7, .int (a7 + (1 : Int32))), (0, va_rf (some p0)), (1, va_rf p1), (3, .int p3), (4, .int a4), (5, .int a5), (6, .int a6)]) rfl (Nat.le_of_ble_eq_true rfl) rfl cc_i1 rfl ?_
        refine kk_go hG (t := 59) rfl rfl ?_
        exact kk_wl hG [1, 2, 3, 4, 5, 6, 0] rfl (fun hw h => hP59 _ _ _ _ _ _ _ h hw)
      have b180 : ∀ (a4 : Int32) (a5 : Int32) (a6 : Int32) (a7 : Int32) (s : cS) (kc ks : Nat), KK sa R base G 180 [(0, va_rf (some p0)), (1, va_rf p1), (3, .int p3), (4, .int a4), (5, .int a5), (6, .int a6), (7, .int a7)] [] s kc ks (C_Pr_parseSix_b180 sa p0 p1 p3 a4 a5 a6 a7 s kc ks Q P59) := by
        intro a4 a5 a6 a7 s kc ks
        refine kks hG rfl rfl ?_
        refine kks hG rfl rfl ?_
        refine kk_ige hG (t := 212) rfl rfl ?_ ?_
        · exact kk_wl hG [0, 1, 2, 3, 4, 5, 6] rfl (b212 _ _ _ _ _ _ _)
        refine kk_aln hG (x := p1) rfl rfl ?_
        refine kks hG rfl rfl ?_
        refine kk_ob (fun b1 eb1 => ?_)
        subst eb1
        refine kk_cx (w := .int) hG 0 rfl rfl (Nat.le_of_ble_eq_true rfl) (by decide) rfl (st' := []) rfl (cats_le (Nat.le_of_ble_eq_true rfl)) (fun _ hw h k => kk_rcv h.1 (kc_By_at base sa hw h.2 k)) (fun r2 sr2 cr2 dr2 => ?_)
        refine kk_bi hG rfl cc_b58 ?_
        refine kk_ine hG (t := 212) rfl rfl ?_ ?_
        · exact kk_wl hG [0, 1, 2, 3, 4, 5, 6] rfl (b212 _ _ _ _ _ _ _)
        refine kks hG rfl rfl ?_
        refine kk_ic hG rfl cc_im1 ?_
        refine kk_ieq hG (t := 205) rfl rfl ?_ ?_
        · refine kks hG rfl rfl ?_
          refine kk_st hG (L' := [(6, .int a5), (0, va_rf (some p0)), (1, va_rf (some b1)), (3, .int p3), (4, .int a4), (5, .int a5), (7, .int a7)]) rfl rfl (Nat.le_of_ble_eq_true rfl) rfl ?_
          refine kk_inc hG (L' := [(4, .int (a4 + (1 : Int32))), (6, .int a5), (0, va_rf (some p0)), (1, va_rf (some b1)), (3, .int p3), (5, .int a5), (7, .int a7)]) rfl (Nat.le_of_ble_eq_true rfl) rfl cc_i1 rfl ?_
          exact kk_wl hG [2, 3, 4, 0, 5, 1, 6] rfl (b212 _ _ _ _ _ _ _)
        refine kk_ic hG rfl cc_i0 ?_
        exact kk_ri hG rfl rfl rfl k
      have b99 : ∀ (a4 : Int32) (a5 : Int32) (a6 : Int32) (a7 : Int32) (a8 : Int32) (s : cS) (kc ks : Nat), KK sa R base G 99 [(0, va_rf (some p0)), (1, va_rf p1), (3, .int p3), (4, .int a4), (5, .int a5), (6, .int a6), (7, .int a7), (8, .int a8)] [] s kc ks (C_Pr_parseSix_b99 sa p0 p1 p3 a4 a5 a6 a7 a8 s kc ks Q P59) := by
        intro a4 a5 a6 a7 a8 s kc ks
        refine kk_aln hG (x := p1) rfl rfl ?_
        refine kks hG rfl rfl ?_
        refine kks hG rfl rfl ?_
        refine kk_cx (w := .int) hG 2 rfl rfl (Nat.le_of_ble_eq_true rfl) (by decide) rfl (st' := []) rfl (cats_le (Nat.le_of_ble_eq_true rfl)) (fun _ hw h k => kc_Pr_hexNumber base sa hw h k) (fun r1 sr1 cr1 dr1 => ?_)
        refine kk_st hG (L' := [(9, .int r1), (0, va_rf (some p0)), (1, va_rf p1), (3, .int p3), (4, .int a4), (5, .int a5), (6, .int a6), (7, .int a7), (8, .int a8)]) rfl rfl (Nat.le_of_ble_eq_true rfl) rfl ?_
        refine kks hG rfl rfl ?_
        refine kk_zlt hG (t := 121) rfl rfl ?_ ?_
        · refine kk_ic hG rfl cc_i0 ?_
          exact kk_ri hG rfl rfl rfl k
        refine kks hG rfl rfl ?_
        refine kk_bi hG rfl cc_b8 ?_
        refine kk_ine hG (t := 123) rfl rfl ?_ ?_
        · refine kk_aln hG (x := (some p0)) rfl rfl ?_
          refine kk_aln hG (x := (some p0)) rfl rfl ?_
          refine kk_gj hG (c := 5) (k := 1) (a := p0) rfl rfl rfl rfl (fun v2 => ?_)
          refine kk_bi hG rfl cc_b16 ?_
          refine kks hG rfl rfl ?_
          refine kk_aln hG (x := (some p0)) rfl rfl ?_
          refine kk_gj hG (c := 5) (k := 2) (a := p0) rfl rfl rfl rfl (fun v3 => ?_)
          refine kk_bi hG rfl cc_b48 ?_
          refine kks hG rfl rfl ?_
          refine kks hG rfl rfl ?_
          refine kk_pj hG (c := 5) (k := 1) (a := p0) rfl rfl rfl rfl (fun s4 => ?_)
          refine kk_aln hG (x := (some p0)) rfl rfl ?_
          refine kk_aln hG (x := (some p0)) rfl rfl ?_
          refine kk_gj hG (c := 5) (k := 2) (a := p0) rfl rfl rfl rfl (fun v5 => ?_)
          refine kk_bi hG rfl cc_b16 ?_
          refine kks hG rfl rfl ?_
          refine kks hG rfl rfl ?_
          refine kks hG rfl rfl ?_
          refine kks hG rfl rfl ?_
          refine kk_pj hG (c := 5) (k := 2) (a := p0) rfl rfl rfl rfl (fun s6 => ?_)
          refine kk_inc hG (L' := [(5, .int (a5 + (1 : Int32))), (9, .int r1), (0, va_rf (some p0)), (1, va_rf p1), (3, .int p3), (4, .int a4), (6, .int a6), (7, .int a7), (8, .int a8)]) rfl (Nat.le_of_ble_eq_true rfl) rfl cc_i1 rfl ?_
          refine kks hG rfl rfl ?_
          refine kk_ic hG rfl cc_i1 ?_
          refine kks hG rfl rfl ?_
          refine kk_st hG (L' := [(4, .int (a8 + (1 : Int32))), (5, .int (a5 + (1 : Int32))), (9, .int r1), (0, va_rf (some p0)), (1, va_rf p1), (3, .int p3), (6, .int a6), (7, .int a7), (8, .int a8)]) rfl rfl (Nat.le_of_ble_eq_true rfl) rfl ?_
          refine kks hG rfl rfl ?_
          refine kks hG rfl rfl ?_
          refine kk_ige hG (t := 180) rfl rfl ?_ ?_
          · exact kk_wl hG [3, 4, 5, 0, 1, 6, 7] rfl (b180 _ _ _ _ _ _ _)
          refine kks hG rfl rfl ?_
          refine kks hG rfl rfl ?_
          refine kk_ine hG (t := 180) rfl rfl ?_ ?_
          · exact kk_wl hG [3, 4, 5, 0, 1, 6, 7] rfl (b180 _ _ _ _ _ _ _)
          refine kk_ic hG rfl cc_i0 ?_
          exact kk_ri hG rfl rfl rfl k
        refine kk_ic hG rfl cc_i0 ?_
        exact kk_ri hG rfl rfl rfl k
      have b76 : ∀ (a4 : Int32) (a5 : Int32) (a6 : Int32) (a7 : Int32) (a8 : Int32) (s : cS) (kc ks : Nat), KK sa R base G 76 [(0, va_rf (some p0)), (1, va_rf p1), (3, .int p3), (4, .int a4), (5, .int a5), (6, .int a6), (7, .int a7), (8, .int a8)] [] s kc ks (C_Pr_parseSix_b76 sa p0 p1 p3 a4 a5 a6 a7 a8 s kc ks Q P59) := by
        intro a4 a5 a6 a7
        have H : ∀ (P76 : (Int32 → cS → Nat → Nat → Prop)) (hP76 : ∀ (a8 : Int32) (s : cS) (kc ks : Nat), P76 a8 s kc ks → cW sa R base s → G 76 [(0, va_rf (some p0)), (1, va_rf p1), (3, .int p3), (4, .int a4), (5, .int a5), (6, .int a6), (7, .int a7), (8, .int a8)] [] (cM R s) kc ks) (a8 : Int32) (s : cS) (kc ks : Nat), KK sa R base G 76 [(0, va_rf (some p0)), (1, va_rf p1), (3, .int p3), (4, .int a4), (5, .int a5), (6, .int a6), (7, .int a7), (8, .int a8)] [] s kc ks (C_Pr_parseSix_s76 sa p0 p1 p3 a4 a5 a6 a7 a8 s kc ks Q P59 P76) := by
          intro P76 hP76
          intro a8 s kc ks
          refine kks hG rfl rfl ?_
          refine kks hG rfl rfl ?_
          refine kk_ige hG (t := 99) rfl rfl ?_ ?_
          · exact kk_wl hG [0, 1, 2, 3, 4, 5, 6, 7] rfl (b99 _ _ _ _ _ _ _ _)
          refine kk_aln hG (x := p1) rfl rfl ?_
          refine kks hG rfl rfl ?_
          refine kk_ob (fun b1 eb1 => ?_)
          subst eb1
          refine kk_cx (w := .int) hG 0 rfl rfl (Nat.le_of_ble_eq_true rfl) (by decide) rfl (st' := []) rfl (cats_le (Nat.le_of_ble_eq_true rfl)) (fun _ hw h k => kk_rcv h.1 (kc_By_at base sa hw h.2 k)) (fun r2 sr2 cr2 dr2 => ?_)
          refine kk_bi hG rfl cc_b58 ?_
          refine kk_ieq hG (t := 99) rfl rfl ?_ ?_
          · exact kk_wl hG [0, 1, 2, 3, 4, 5, 6, 7] rfl (b99 _ _ _ _ _ _ _ _)
          refine kk_inc hG (L' := [(8, .int (a8 + (1 : Int32))), (0, va_rf (some p0)), (1, va_rf (some b1)), (3, .int p3), (4, .int a4), (5, .int a5), (6, .int a6), (7, .int a7)]) rfl (Nat.le_of_ble_eq_true rfl) rfl cc_i1 rfl ?_
          refine kk_go hG (t := 76) rfl rfl ?_
          exact kk_wl hG [1, 2, 3, 4, 5, 6, 7, 0] rfl (fun hw h => hP76 _ _ _ _ h hw)
        exact fun a8 s kc ks hw h => h (fun a8 s kc ks => cW sa R base s → G 76 [(0, va_rf (some p0)), (1, va_rf p1), (3, .int p3), (4, .int a4), (5, .int a5), (6, .int a6), (7, .int a7), (8, .int a8)] [] (cM R s) kc ks) (fun a8 s kc ks hs hw => H _ (fun _ _ _ _ hp hw => hp hw) a8 s kc ks hw hs) hw
      intro a4 a5 a6 a7 s kc ks
      refine kks hG rfl rfl ?_
      refine kk_bi hG rfl cc_b9 ?_
      refine kk_ige hG (t := 218) rfl rfl ?_ ?_
      · exact kk_wl hG [0, 4, 5] rfl (b218 _ _ _ _ _)
      refine kks hG rfl rfl ?_
      refine kks hG rfl rfl ?_
      refine kk_ige hG (t := 218) rfl rfl ?_ ?_
      · exact kk_wl hG [0, 4, 5] rfl (b218 _ _ _ _ _)
      refine kks hG rfl rfl ?_
      refine kk_st hG (L' := [(8, .int a4), (0, va_rf (some p0)), (1, va_rf p1), (3, .int p3), (4, .int a4), (5, .int a5), (6, .int a6), (7, .int a7)]) rfl rfl (Nat.le_of_ble_eq_true rfl) rfl ?_
      exact kk_wl hG [1, 2, 3, 4, 5, 6, 7, 0] rfl (b76 _ _ _ _ _ _ _ _)
    exact fun a4 a5 a6 a7 s kc ks hw h => h (fun a4 a5 a6 a7 s kc ks => cW sa R base s → G 59 [(0, va_rf (some p0)), (1, va_rf p1), (3, .int p3), (4, .int a4), (5, .int a5), (6, .int a6), (7, .int a7)] [] (cM R s) kc ks) (fun a4 a5 a6 a7 s kc ks hs hw => H _ (fun _ _ _ _ _ _ _ hp hw => hp hw) a4 a5 a6 a7 s kc ks hw hs) hw
  have b56 : ∀ (a4 : Int32) (a5 : Int32) (a6 : Int32) (s : cS) (kc ks : Nat), KK sa R base G 56 [(0, va_rf (some p0)), (1, va_rf p1), (3, .int p3), (4, .int a4), (5, .int a5), (6, .int a6)] [] s kc ks (C_Pr_parseSix_b56 sa p0 p1 p3 a4 a5 a6 s kc ks Q) := by
    intro a4 a5 a6 s kc ks
    refine kk_ic hG rfl cc_i0 ?_
    refine kk_st hG (L' := [(7, .int (0 : Int32)), (0, va_rf (some p0)), (1, va_rf p1), (3, .int p3), (4, .int a4), (5, .int a5), (6, .int a6)]) rfl rfl (Nat.le_of_ble_eq_true rfl) rfl ?_
    exact kk_wl hG [1, 2, 3, 4, 5, 6, 0] rfl (b59 _ _ _ _ _ _ _)
  refine (show KK sa R base G 0 [(0, va_rf (some p0)), (1, va_rf p1), (2, .int p2), (3, .int p3)] [] s kc ks (C_Pr_parseSix sa p0 p1 p2 p3 s kc ks Q) from ?_) hw h
  refine kks hG rfl rfl ?_
  refine kk_st hG (L' := [(4, .int p2), (0, va_rf (some p0)), (1, va_rf p1), (2, .int p2), (3, .int p3)]) rfl rfl (Nat.le_of_ble_eq_true rfl) rfl ?_
  refine kk_ic hG rfl cc_i0 ?_
  refine kk_st hG (L' := [(5, .int (0 : Int32)), (4, .int p2), (0, va_rf (some p0)), (1, va_rf p1), (2, .int p2), (3, .int p3)]) rfl rfl (Nat.le_of_ble_eq_true rfl) rfl ?_
  refine kk_ic hG rfl cc_im1 ?_
  refine kk_st hG (L' := [(6, .int ((-1) : Int32)), (5, .int (0 : Int32)), (4, .int p2), (0, va_rf (some p0)), (1, va_rf p1), (2, .int p2), (3, .int p3)]) rfl rfl (Nat.le_of_ble_eq_true rfl) rfl ?_
  refine kk_aln hG (x := (some p0)) rfl rfl ?_
  refine kk_bi hG rfl cc_b6 ?_
  refine kk_si hG rfl cc_s128 ?_
  refine kk_cv hG 0 rfl rfl (Nat.le_of_ble_eq_true rfl) (by decide) rfl (st' := []) rfl (cats_le (Nat.le_of_ble_eq_true rfl)) (fun _ hw h k => kk_rcv h.1 (kc_Pr_setZero base sa hw h.2 k)) (fun sr1 cr1 dr1 => ?_)
  refine kk_aln hG (x := p1) rfl rfl ?_
  refine kks hG rfl rfl ?_
  refine kk_ob (fun b2 eb2 => ?_)
  subst eb2
  refine kk_cx (w := .int) hG 0 rfl rfl (Nat.le_of_ble_eq_true rfl) (by decide) rfl (st' := []) rfl (cats_le (Nat.le_of_ble_eq_true rfl)) (fun _ hw h k => kk_rcv h.1 (kc_By_at base sa hw h.2 k)) (fun r3 sr3 cr3 dr3 => ?_)
  refine kk_bi hG rfl cc_b58 ?_
  refine kk_ine hG (t := 56) rfl rfl ?_ ?_
  · exact kk_wl hG [3, 4, 6, 2, 1, 0] rfl (b56 _ _ _ _ _ _)
  refine kks hG rfl rfl ?_
  refine kk_ic hG rfl cc_i1 ?_
  refine kks hG rfl rfl ?_
  refine kks hG rfl rfl ?_
  refine kk_ige hG (t := 56) rfl rfl ?_ ?_
  · exact kk_wl hG [3, 4, 6, 2, 1, 0] rfl (b56 _ _ _ _ _ _)
  refine kk_aln hG (x := (some b2)) rfl rfl ?_
  refine kks hG rfl rfl ?_
  refine kk_ic hG rfl cc_i1 ?_
  refine kks hG rfl rfl ?_
  refine kk_cx (w := .int) hG 0 rfl rfl (Nat.le_of_ble_eq_true rfl) (by decide) rfl (st' := []) rfl (cats_le (Nat.le_of_ble_eq_true rfl)) (fun _ hw h k => kk_rcv h.1 (kc_By_at base sa hw h.2 k)) (fun r4 sr4 cr4 dr4 => ?_)
  refine kk_bi hG rfl cc_b58 ?_
  refine kk_ine hG (t := 56) rfl rfl ?_ ?_
  · exact kk_wl hG [3, 4, 6, 2, 1, 0] rfl (b56 _ _ _ _ _ _)
  refine kk_ic hG rfl cc_i0 ?_
  refine kk_st hG (L' := [(6, .int (0 : Int32)), (5, .int (0 : Int32)), (4, .int p2), (0, va_rf (some p0)), (1, va_rf (some b2)), (2, .int p2), (3, .int p3)]) rfl rfl (Nat.le_of_ble_eq_true rfl) rfl ?_
  refine kk_inc hG (L' := [(4, .int (p2 + (2 : Int32))), (6, .int (0 : Int32)), (5, .int (0 : Int32)), (0, va_rf (some p0)), (1, va_rf (some b2)), (2, .int p2), (3, .int p3)]) rfl (Nat.le_of_ble_eq_true rfl) rfl cc_i2 rfl ?_
  exact kk_wl hG [3, 4, 6, 0, 2, 1] rfl (b56 _ _ _ _ _ _)
