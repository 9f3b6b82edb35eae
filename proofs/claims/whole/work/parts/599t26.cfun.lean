/-! Methods as weakest preconditions, by program: Rr_findLongestOwn .. Rf_seen -/
def C_Rr_findLongestOwn_b76 (sa : Nat → Nat) (p0 : Nat) (p1 : Option Nat) (p2 : Option Nat) (a3 : Int32) (s : cS) (kc ks : Nat) (Q : (cS → Nat → Nat → Prop)) (P2 : (Int32 → cS → Nat → Nat → Prop)) : Prop := (P2 (a3 + (1 : Int32)) s kc ks)
def C_Rr_findLongestOwn_b136 (sa : Nat → Nat) (p0 : Nat) (p1 : Option Nat) (p2 : Option Nat) (a3 : Int32) (s : cS) (kc ks : Nat) (Q : (cS → Nat → Nat → Prop)) (P84 : (Int32 → cS → Nat → Nat → Prop)) : Prop := (P84 (a3 + (1 : Int32)) s kc ks)
def C_Rr_findLongestOwn_s84 (sa : Nat → Nat) (p0 : Nat) (p1 : Option Nat) (p2 : Option Nat) (a3 : Int32) (s : cS) (kc ks : Nat) (Q : (cS → Nat → Nat → Prop)) (P84 : (Int32 → cS → Nat → Nat → Prop)) : Prop := ob (gP s 9 7 p0) (fun v1 => (ob v1 (fun b2 => (ob (gI s 10 1 b2) (fun v3 => (if a3 < v3 then (ob (gP s 9 7 p0) (fun v4 => (ob v4 (fun b5 => (ob (gP s 10 0 b5) (fun v6 => (ob v6 (fun b7 => (ob (rQ s b7 a3) (fun v8 => (ob v8 (fun b9 => (ob (gP s 8 0 b9) (fun v10 => (ob v10 (fun b11 => (ob (gI s 5 3 b11) (fun v12 => (ob p2 (fun b13 => (ob (gI s 5 3 b13) (fun v14 => (if v14 < v12 then (okO s 5 b11 ∧ C_Pr_covers sa b11 p1 s kc ks (fun r15 sr15 cr15 dr15 => (if r15 = 0 then ((C_Rr_findLongestOwn_b136 sa p0 p1 (some b13) a3 sr15 cr15 dr15 Q P84)) else (okO sr15 5 b13 ∧ C_Pr_copy sa b13 (some b11) sr15 cr15 dr15 (fun sr16 cr16 dr16 => ((C_Rr_findLongestOwn_b136 sa p0 p1 (some b13) a3 sr16 cr16 dr16 Q P84))))))) else ((C_Rr_findLongestOwn_b136 sa p0 p1 (some b13) a3 s kc ks Q P84))))))))))))))))))))))))) else ((Q s kc ks))))))))
def C_Rr_findLongestOwn_b84 (sa : Nat → Nat) (p0 : Nat) (p1 : Option Nat) (p2 : Option Nat) (a3 : Int32) (s : cS) (kc ks : Nat) (Q : (cS → Nat → Nat → Prop)) : Prop := ∀ P84 : (Int32 → cS → Nat → Nat → Prop), (∀ (a3 : Int32) (s : cS) (kc ks : Nat), C_Rr_findLongestOwn_s84 sa p0 p1 p2 a3 s kc ks Q P84 → P84 a3 s kc ks) → P84 a3 s kc ks
def C_Rr_findLongestOwn_s2 (sa : Nat → Nat) (p0 : Nat) (p1 : Option Nat) (p2 : Option Nat) (a3 : Int32) (s : cS) (kc ks : Nat) (Q : (cS → Nat → Nat → Prop)) (P2 : (Int32 → cS → Nat → Nat → Prop)) : Prop := ob (gI s 9 5 p0) (fun v1 => (if a3 < v1 then (ob (gP s 9 4 p0) (fun v2 => (ob v2 (fun b3 => (ob (rQ s b3 a3) (fun v4 => (ob p1 (fun b5 => (ob (gI s 5 0 b5) (fun v6 => (ob v4 (fun b7 => (okO s 4 b7 ∧ C_Po_addressOf sa b7 v6 s kc ks (fun r8 sr8 cr8 dr8 => (if r8 = none then ((C_Rr_findLongestOwn_b76 sa p0 (some b5) p2 a3 sr8 cr8 dr8 Q P2)) else (ob (gP sr8 9 4 p0) (fun v9 => (ob v9 (fun b10 => (ob (rQ sr8 b10 a3) (fun v11 => (ob v11 (fun b12 => (ob (gP sr8 4 0 b12) (fun v13 => (ob v13 (fun b14 => (ob (gI sr8 3 4 b14) (fun v15 => (if v15 = 0 then ((C_Rr_findLongestOwn_b76 sa p0 (some b5) p2 a3 sr8 cr8 dr8 Q P2)) else (ob r8 (fun b16 => (ob (gI sr8 5 3 b16) (fun v17 => (ob p2 (fun b18 => (ob (gI sr8 5 3 b18) (fun v19 => (if v19 < v17 then (okO sr8 5 b16 ∧ C_Pr_covers sa b16 (some b5) sr8 cr8 dr8 (fun r20 sr20 cr20 dr20 => (if r20 = 0 then ((C_Rr_findLongestOwn_b76 sa p0 (some b5) (some b18) a3 sr20 cr20 dr20 Q P2)) else (okO sr20 5 b18 ∧ C_Pr_copy sa b18 (some b16) sr20 cr20 dr20 (fun sr21 cr21 dr21 => (okO sr21 5 b18 ∧ C_Pr_dropBitsBehind sa b18 sr21 cr21 dr21 (fun sr22 cr22 dr22 => ((C_Rr_findLongestOwn_b76 sa p0 (some b5) (some b18) a3 sr22 cr22 dr22 Q P2))))))))) else ((C_Rr_findLongestOwn_b76 sa p0 (some b5) (some b18) a3 sr8 cr8 dr8 Q P2))))))))))))))))))))))))))))))))))))))))) else (((C_Rr_findLongestOwn_b84 sa p0 p1 p2 (0 : Int32) s kc ks Q)))))
def C_Rr_findLongestOwn_b2 (sa : Nat → Nat) (p0 : Nat) (p1 : Option Nat) (p2 : Option Nat) (a3 : Int32) (s : cS) (kc ks : Nat) (Q : (cS → Nat → Nat → Prop)) : Prop := ∀ P2 : (Int32 → cS → Nat → Nat → Prop), (∀ (a3 : Int32) (s : cS) (kc ks : Nat), C_Rr_findLongestOwn_s2 sa p0 p1 p2 a3 s kc ks Q P2 → P2 a3 s kc ks) → P2 a3 s kc ks
def C_Rr_findLongestOwn (sa : Nat → Nat) (p0 : Nat) (p1 : Option Nat) (p2 : Option Nat) (s : cS) (kc ks : Nat) (Q : (cS → Nat → Nat → Prop)) : Prop := (C_Rr_findLongestOwn_b2 sa p0 p1 p2 (0 : Int32) s kc ks Q)
set_option maxRecDepth 100000 in
set_option maxHeartbeats 4000000 in
theorem kc_Rr_findLongestOwn (base : Nat) (sa : Nat → Nat) {R : pmM} {s : cS} {kc ks : Nat} {Rt : pmR} {p0 : Nat} {p1 : Option Nat} {p2 : Option Nat} {Q : (cS → Nat → Nat → Prop)} (hw : cW sa R base s) (h : C_Rr_findLongestOwn sa p0 p1 p2 s kc ks Q) (k : ∀ s' kc' ks', cW sa R base s' → Q s' kc' ks' → Rt none (cM R s') kc' ks') : kP_Rr_findLongestOwn base sa [.ref p0, va_rf p1, va_rf p2] (cM R s) kc ks Rt := by
  refine ⟨by cases p1 <;> cases p2 <;> exact Nat.le_of_ble_eq_true rfl, fun G hG => ?_⟩
  have eL : lv_args 0 [.ref p0, va_rf p1, va_rf p2] = [(0, va_rf (some p0)), (1, va_rf p1), (2, va_rf p2)] := by cases p1 <;> cases p2 <;> rfl
  rw [eL]
  have b84 : ∀ (a3 : Int32) (s : cS) (kc ks : Nat), KK sa R base G 84 [(0, va_rf (some p0)), (1, va_rf p1), (2, va_rf p2), (3, .int a3)] [] s kc ks (C_Rr_findLongestOwn_b84 sa p0 p1 p2 a3 s kc ks Q) := by
    have H : ∀ (P84 : (Int32 → cS → Nat → Nat → Prop)) (hP84 : ∀ (a3 : Int32) (s : cS) (kc ks : Nat), P84 a3 s kc ks → cW sa R base s → G 84 [(0, va_rf (some p0)), (1, va_rf p1), (2, va_rf p2), (3, .int a3)] [] (cM R s) kc ks) (a3 : Int32) (s : cS) (kc ks : Nat), KK sa R base G 84 [(0, va_rf (some p0)), (1, va_rf p1), (2, va_rf p2), (3, .int a3)] [] s kc ks (C_Rr_findLongestOwn_s84 sa p0 p1 p2 a3 s kc ks Q P84) := by
      intro P84 hP84
      have b136 : ∀ (a3 : Int32) (s : cS) (kc ks : Nat), KK sa R base G 136 [(0, va_rf (some p0)), (1, va_rf p1), (2, va_rf p2), (3, .int a3)] [] s kc ks (C_Rr_findLongestOwn_b136 sa p0 p1 p2 a3 s kc ks Q P84) := by
        intro a3 s kc ks
        refine kk_inc hG (L' := [(3, .int (a3 + (1 : Int32))), (0, va_rf (some p0)), (1, va_rf p1), (2, va_rf p2)]) rfl (Nat.le_of_ble_eq_true rfl) rfl cc_i1 (by cases p2 <;> rfl) ?_
        refine kk_go hG (t := 84) rfl rfl ?_
        exact kk_wl hG [1, 2, 3, 0] rfl (fun hw h => hP84 _ _ _ _ h hw)
      intro a3 s kc ks
      refine kks hG rfl rfl ?_
      refine kk_aln hG (x := (some p0)) rfl rfl ?_
      refine kk_gp hG (c := 9) (k := 7) (a := p0) rfl rfl rfl rfl (fun v1 => ?_)
      refine kk_ob (fun b2 eb2 => ?_)
      subst eb2
      refine kk_gi hG (c := 10) (k := 1) (a := b2) rfl rfl rfl rfl (fun v3 => ?_)
      refine kk_ige hG (t := 142) rfl rfl ?_ ?_
      · exact kk_rv hG rfl rfl k
      refine kk_aln hG (x := (some p0)) rfl rfl ?_
      refine kk_gp hG (c := 9) (k := 7) (a := p0) rfl rfl rfl rfl (fun v4 => ?_)
      refine kk_ob (fun b5 eb5 => ?_)
      subst eb5
      refine kk_gp hG (c := 10) (k := 0) (a := b5) rfl rfl rfl rfl (fun v6 => ?_)
      refine kks hG rfl rfl ?_
      refine kk_ob (fun b7 eb7 => ?_)
      subst eb7
      refine kk_aa hG (a := b7) rfl (fun v8 => ?_)
      refine kk_ob (fun b9 eb9 => ?_)
      subst eb9
      refine kk_gp hG (c := 8) (k := 0) (a := b9) rfl rfl rfl rfl (fun v10 => ?_)
      refine kk_as hG (x := v10) (L' := [(4, va_rf v10), (0, va_rf (some p0)), (1, va_rf p1), (2, va_rf p2), (3, .int a3)]) rfl (Nat.le_of_ble_eq_true rfl) rfl ?_
      refine kk_al hG (x := v10) rfl rfl ?_
      refine kk_ob (fun b11 eb11 => ?_)
      subst eb11
      refine kk_gi hG (c := 5) (k := 3) (a := b11) rfl rfl rfl rfl (fun v12 => ?_)
      refine kk_aln hG (x := p2) rfl rfl ?_
      refine kk_ob (fun b13 eb13 => ?_)
      subst eb13
      refine kk_gi hG (c := 5) (k := 3) (a := b13) rfl rfl rfl rfl (fun v14 => ?_)
      refine kk_ile hG (t := 136) rfl rfl ?_ ?_
      · exact kk_wl hG [1, 2, 3, 4] rfl (b136 _ _ _ _)
      refine kk_al hG (x := (some b11)) rfl rfl ?_
      refine kk_aln hG (x := p1) rfl rfl ?_
      refine kk_cx (w := .int) hG 0 rfl rfl (Nat.le_of_ble_eq_true rfl) (by decide) rfl (st' := []) rfl (cats_le (Nat.le_of_ble_eq_true rfl)) (fun _ hw h k => kk_rcv h.1 (kc_Pr_covers base sa hw h.2 k)) (fun r15 sr15 cr15 dr15 => ?_)
      refine kk_zeq hG (t := 136) rfl rfl ?_ ?_
      · exact kk_wl hG [1, 2, 3, 4] rfl (b136 _ _ _ _)
      refine kk_aln hG (x := (some b13)) rfl rfl ?_
      refine kk_al hG (x := (some b11)) rfl rfl ?_
      refine kk_cv hG 0 rfl rfl (Nat.le_of_ble_eq_true rfl) (by decide) rfl (st' := []) rfl (cats_le (Nat.le_of_ble_eq_true rfl)) (fun _ hw h k => kk_rcv h.1 (kc_Pr_copy base sa hw h.2 k)) (fun sr16 cr16 dr16 => ?_)
      exact kk_wl hG [1, 2, 3, 4] rfl (b136 _ _ _ _)
    exact fun a3 s kc ks hw h => h (fun a3 s kc ks => cW sa R base s → G 84 [(0, va_rf (some p0)), (1, va_rf p1), (2, va_rf p2), (3, .int a3)] [] (cM R s) kc ks) (fun a3 s kc ks hs hw => H _ (fun _ _ _ _ hp hw => hp hw) a3 s kc ks hw hs) hw
  have b2 : ∀ (a3 : Int32) (s : cS) (kc ks : Nat), KK sa R base G 2 [(0, va_rf (some p0)), (1, va_rf p1), (2, va_rf p2), (3, .int a3)] [] s kc ks (C_Rr_findLongestOwn_b2 sa p0 p1 p2 a3 s kc ks Q) := by
    have H : ∀ (P2 : (Int32 → cS → Nat → Nat → Prop)) (hP2 : ∀ (a3 : Int32) (s : cS) (kc ks : Nat), P2 a3 s kc ks → cW sa R base s → G 2 [(0, va_rf (some p0)), (1, va_rf p1), (2, va_rf p2), (3, .int a3)] [] (cM R s) kc ks) (a3 : Int32) (s : cS) (kc ks : Nat), KK sa R base G 2 [(0, va_rf (some p0)), (1, va_rf p1), (2, va_rf p2), (3, .int a3)] [] s kc ks (C_Rr_findLongestOwn_s2 sa p0 p1 p2 a3 s kc ks Q P2) := by
      intro P2 hP2
      have b76 : ∀ (a3 : Int32) (s : cS) (kc ks : Nat), KK sa R base G 76 [(0, va_rf (some p0)), (1, va_rf p1), (2, va_rf p2), (3, .int a3)] [] s kc ks (C_Rr_findLongestOwn_b76 sa p0 p1 p2 a3 s kc ks Q P2) := by
        intro a3 s kc ks
        refine kk_inc hG (L' := [(3, .int (a3 + (1 : Int32))), (0, va_rf (some p0)), (1, va_rf p1), (2, va_rf p2)]) rfl (Nat.le_of_ble_eq_true rfl) rfl cc_i1 (by cases p2 <;> rfl) ?_
        refine kk_go hG (t := 2) rfl rfl ?_
        exact kk_wl hG [1, 2, 3, 0] rfl (fun hw h => hP2 _ _ _ _ h hw)
      intro a3 s kc ks
      refine kks hG rfl rfl ?_
      refine kk_aln hG (x := (some p0)) rfl rfl ?_
      refine kk_gi hG (c := 9) (k := 5) (a := p0) rfl rfl rfl rfl (fun v1 => ?_)
      refine kk_ige hG (t := 82) rfl rfl ?_ ?_
      · refine kk_ic hG rfl cc_i0 ?_
        refine kk_st hG (L' := [(3, .int (0 : Int32)), (0, va_rf (some p0)), (1, va_rf p1), (2, va_rf p2)]) rfl rfl (Nat.le_of_ble_eq_true rfl) (by cases p2 <;> rfl) ?_
        exact kk_wl hG [1, 2, 3, 0] rfl (b84 _ _ _ _)
      refine kk_aln hG (x := (some p0)) rfl rfl ?_
      refine kk_gp hG (c := 9) (k := 4) (a := p0) rfl rfl rfl rfl (fun v2 => ?_)
      refine kks hG rfl rfl ?_
      refine kk_ob (fun b3 eb3 => ?_)
      subst eb3
      refine kk_aa hG (a := b3) rfl (fun v4 => ?_)
      refine kk_aln hG (x := p1) rfl rfl ?_
      refine kk_ob (fun b5 eb5 => ?_)
      subst eb5
      refine kk_gi hG (c := 5) (k := 0) (a := b5) rfl rfl rfl rfl (fun v6 => ?_)
      refine kk_ob (fun b7 eb7 => ?_)
      subst eb7
      refine kk_cx (w := va_rf) hG 0 rfl rfl (Nat.le_of_ble_eq_true rfl) (by decide) rfl (st' := []) rfl (cats_le (Nat.le_of_ble_eq_true rfl)) (fun _ hw h k => kk_rcv h.1 (kc_Po_addressOf base sa hw h.2 k)) (fun r8 sr8 cr8 dr8 => ?_)
      refine kk_as hG (x := r8) (L' := [(4, va_rf r8), (0, va_rf (some p0)), (1, va_rf (some b5)), (2, va_rf p2), (3, .int a3)]) rfl (Nat.le_of_ble_eq_true rfl) rfl ?_
      refine kk_al hG (x := r8) rfl rfl ?_
      refine kk_nul hG (x := r8) (t := 76) rfl rfl ?_ ?_
      · exact kk_wl hG [1, 2, 3, 4] rfl (b76 _ _ _ _)
      refine kk_aln hG (x := (some p0)) rfl rfl ?_
      refine kk_gp hG (c := 9) (k := 4) (a := p0) rfl rfl rfl rfl (fun v9 => ?_)
      refine kks hG rfl rfl ?_
      refine kk_ob (fun b10 eb10 => ?_)
      subst eb10
      refine kk_aa hG (a := b10) rfl (fun v11 => ?_)
      refine kk_ob (fun b12 eb12 => ?_)
      subst eb12
      refine kk_gp hG (c := 4) (k := 0) (a := b12) rfl rfl rfl rfl (fun v13 => ?_)
      refine kk_ob (fun b14 eb14 => ?_)
      subst eb14
      refine kk_gi hG (c := 3) (k := 4) (a := b14) rfl rfl rfl rfl (fun v15 => ?_)
      refine kk_zeq hG (t := 76) rfl rfl ?_ ?_
      · exact kk_wl hG [1, 2, 3, 4] rfl (b76 _ _ _ _)
      refine kk_al hG (x := r8) rfl rfl ?_
      refine kk_ob (fun b16 eb16 => ?_)
      subst eb16
      refine kk_gi hG (c := 5) (k := 3) (a := b16) rfl rfl rfl rfl (fun v17 => ?_)
      refine kk_aln hG (x := p2) rfl rfl ?_
      refine kk_ob (fun b18 eb18 => ?_)
      subst eb18
      refine kk_gi hG (c := 5) (k := 3) (a := b18) rfl rfl rfl rfl (fun v19 => ?_)
      refine kk_ile hG (t := 76) rfl rfl ?_ ?_
      · exact kk_wl hG [1, 2, 3, 4] rfl (b76 _ _ _ _)
      refine kk_al hG (x := (some b16)) rfl rfl ?_
      refine kk_aln hG (x := (some b5)) rfl rfl ?_
      refine kk_cx (w := .int) hG 0 rfl rfl (Nat.le_of_ble_eq_true rfl) (by decide) rfl (st' := []) rfl (cats_le (Nat.le_of_ble_eq_true rfl)) (fun _ hw h k => kk_rcv h.1 (kc_Pr_covers base sa hw h.2 k)) (fun r20 sr20 cr20 dr20 => ?_)
      refine kk_zeq hG (t := 76) rfl rfl ?_ ?_
      · exact kk_wl hG [1, 2, 3, 4] rfl (b76 _ _ _ _)
      refine kk_aln hG (x := (some b18)) rfl rfl ?_
      refine kk_al hG (x := (some b16)) rfl rfl ?_
      refine kk_cv hG 0 rfl rfl (Nat.le_of_ble_eq_true rfl) (by decide) rfl (st' := []) rfl (cats_le (Nat.le_of_ble_eq_true rfl)) (fun _ hw h k => kk_rcv h.1 (kc_Pr_copy base sa hw h.2 k)) (fun sr21 cr21 dr21 => ?_)
      refine kk_aln hG (x := (some b18)) rfl rfl ?_
      refine kk_cv hG 0 rfl rfl (Nat.le_of_ble_eq_true rfl) (by decide) rfl (st' := []) rfl (cats_le (Nat.le_of_ble_eq_true rfl)) (fun _ hw h k => kk_rcv h.1 (kc_Pr_dropBitsBehind base sa hw h.2 k)) (fun sr22 cr22 dr22 => ?_)
      exact kk_wl hG [1, 2, 3, 4] rfl (b76 _ _ _ _)
    exact fun a3 s kc ks hw h => h (fun a3 s kc ks => cW sa R base s → G 2 [(0, va_rf (some p0)), (1, va_rf p1), (2, va_rf p2), (3, .int a3)] [] (cM R s) kc ks) (fun a3 s kc ks hs hw => H _ (fun _ _ _ _ hp hw => hp hw) a3 s kc ks hw hs) hw
  refine (show KK sa R base G 0 [(0, va_rf (some p0)), (1, va_rf p1), (2, va_rf p2)] [] s kc ks (C_Rr_findLongestOwn sa p0 p1 p2 s kc ks Q) from ?_) hw h
  refine kk_ic hG rfl cc_i0 ?_
  refine kk_st hG (L' := [(3, .int (0 : Int32)), (0, va_rf (some p0)), (1, va_rf p1), (2, va_rf p2)]) rfl rfl (Nat.le_of_ble_eq_true rfl) (by cases p2 <;> rfl) ?_
  exact kk_wl hG [1, 2, 3, 0] rfl (b2 _ _ _ _)
def C_Rr_ownSum (sa : Nat → Nat) (p0 : Nat) (p1 : Option Nat) (s : cS) (kc ks : Nat) (Q : (Int32 → cS → Nat → Nat → Prop)) : Prop := ob (gI s 9 3 p0) (fun v1 => (if v1 = 0 then (Q (16 : Int32) s kc ks) else (okO s 9 p0 ∧ C_Rr_portOf sa p0 p1 s kc ks (fun r2 sr2 cr2 dr2 => (if r2 = none then (ob (gP sr2 9 7 p0) (fun v3 => (ob v3 (fun b4 => (okO sr2 10 b4 ∧ C_Ta_find sa b4 p1 sr2 cr2 dr2 (fun r5 sr5 cr5 dr5 => (if r5 = none then (Q (16 : Int32) sr5 cr5 dr5) else (ob r5 (fun b6 => (ob (gI sr5 8 4 b6) (fun v7 => (Q v7 sr5 cr5 dr5)))))))))))) else (ob r2 (fun b8 => (ob (gI sr2 4 3 b8) (fun v9 => (Q v9 sr2 cr2 dr2))))))))))
set_option maxRecDepth 100000 in
set_option maxHeartbeats 4000000 in
theorem kc_Rr_ownSum (base : Nat) (sa : Nat → Nat) {R : pmM} {s : cS} {kc ks : Nat} {Rt : pmR} {p0 : Nat} {p1 : Option Nat} {Q : (Int32 → cS → Nat → Nat → Prop)} (hw : cW sa R base s) (h : C_Rr_ownSum sa p0 p1 s kc ks Q) (k : ∀ r s' kc' ks', cW sa R base s' → Q r s' kc' ks' → Rt (some (.int r)) (cM R s') kc' ks') : kP_Rr_ownSum base sa [.ref p0, va_rf p1] (cM R s) kc ks Rt := by
  refine ⟨by cases p1 <;> exact Nat.le_of_ble_eq_true rfl, fun G hG => ?_⟩
  have eL : lv_args 0 [.ref p0, va_rf p1] = [(0, va_rf (some p0)), (1, va_rf p1)] := by cases p1 <;> rfl
  rw [eL]
  refine (show KK sa R base G 0 [(0, va_rf (some p0)), (1, va_rf p1)] [] s kc ks (C_Rr_ownSum sa p0 p1 s kc ks Q) from ?_) hw h
  refine kk_aln hG (x := (some p0)) rfl rfl ?_
  refine kk_gi hG (c := 9) (k := 3) (a := p0) rfl rfl rfl rfl (fun v1 => ?_)
  refine kk_zne hG (t := 10) rfl rfl ?_ ?_
  · refine kk_aln hG (x := (some p0)) rfl rfl ?_
    refine kk_aln hG (x := p1) rfl rfl ?_
    refine kk_cx (w := va_rf) hG 0 rfl rfl (Nat.le_of_ble_eq_true rfl) (by decide) rfl (st' := []) rfl (cats_le (Nat.le_of_ble_eq_true rfl)) (fun _ hw h k => kk_rcv h.1 (kc_Rr_portOf base sa hw h.2 k)) (fun r2 sr2 cr2 dr2 => ?_)
    refine kk_asn hG (x := r2) (L' := [(2, va_rf r2), (0, va_rf (some p0)), (1, va_rf p1)]) rfl (Nat.le_of_ble_eq_true rfl) (by cases p1 <;> rfl) ?_
    refine kk_aln hG (x := r2) rfl rfl ?_
    refine kk_nul hG (x := r2) (t := 25) rfl rfl ?_ ?_
    · refine kk_aln hG (x := (some p0)) rfl rfl ?_
      refine kk_gp hG (c := 9) (k := 7) (a := p0) rfl rfl rfl rfl (fun v3 => ?_)
      refine kk_aln hG (x := p1) rfl rfl ?_
      refine kk_ob (fun b4 eb4 => ?_)
      subst eb4
      refine kk_cx (w := va_rf) hG 0 rfl rfl (Nat.le_of_ble_eq_true rfl) (by decide) rfl (st' := []) rfl (cats_le (Nat.le_of_ble_eq_true rfl)) (fun _ hw h k => kk_rcv h.1 (kc_Ta_find base sa hw h.2 k)) (fun r5 sr5 cr5 dr5 => ?_)
      refine kk_asn hG (x := r5) (L' := [(3, va_rf r5), (2, va_rf r2), (0, va_rf (some p0)), (1, va_rf p1)]) rfl (Nat.le_of_ble_eq_true rfl) (by cases r2 <;> rfl) ?_
      refine kk_aln hG (x := r5) rfl rfl ?_
      refine kk_nnl hG (x := r5) (t := 43) rfl rfl ?_ ?_
      · refine kk_aln hG (x := r5) rfl rfl ?_
        refine kk_ob (fun b6 eb6 => ?_)
        subst eb6
        refine kk_gi hG (c := 8) (k := 4) (a := b6) rfl rfl rfl rfl (fun v7 => ?_)
        exact kk_ri hG rfl rfl rfl k
      refine kk_bi hG rfl cc_b16 ?_
      refine kk_go hG (t := 47) rfl rfl ?_
      exact kk_ri hG rfl rfl rfl k
    refine kk_aln hG (x := r2) rfl rfl ?_
    refine kk_ob (fun b8 eb8 => ?_)
    subst eb8
    refine kk_gi hG (c := 4) (k := 3) (a := b8) rfl rfl rfl rfl (fun v9 => ?_)
    exact kk_ri hG rfl rfl rfl k
  refine kk_bi hG rfl cc_b16 ?_
  exact kk_ri hG rfl rfl rfl k
def C_Rf_sumByNeighbors_b130 (sa : Nat → Nat) (p0 : Nat) (p1 : Option Nat) (p2 : Option Nat) (a3 : Int32) (a4 : Int32) (a5 : Option Nat) (a6 : Int32) (s : cS) (kc ks : Nat) (Q : (Int32 → cS → Nat → Nat → Prop)) (P6 : (Int32 → Int32 → cS → Nat → Nat → Prop)) (P56 : (Int32 → Int32 → cS → Nat → Nat → Prop)) : Prop := (P56 a3 (a6 + (1 : Int32)) s kc ks)
def C_Rf_sumByNeighbors_b136 (sa : Nat → Nat) (p0 : Nat) (p1 : Option Nat) (p2 : Option Nat) (a3 : Int32) (a4 : Int32) (s : cS) (kc ks : Nat) (Q : (Int32 → cS → Nat → Nat → Prop)) (P6 : (Int32 → Int32 → cS → Nat → Nat → Prop)) : Prop := (P6 a3 (a4 + (1 : Int32)) s kc ks)
def C_Rf_sumByNeighbors_s56 (sa : Nat → Nat) (p0 : Nat) (p1 : Option Nat) (p2 : Option Nat) (a4 : Int32) (a5 : Option Nat) (a3 : Int32) (a6 : Int32) (s : cS) (kc ks : Nat) (Q : (Int32 → cS → Nat → Nat → Prop)) (P6 : (Int32 → Int32 → cS → Nat → Nat → Prop)) (P56 : (Int32 → Int32 → cS → Nat → Nat → Prop)) : Prop := ob (gI s 11 9 p0) (fun v1 => (if a6 < v1 then (ob (gP s 11 8 p0) (fun v2 => (ob v2 (fun b3 => (ob (rQ s b3 a6) (fun v4 => (ob a5 (fun b5 => (ob (gP s 4 0 b5) (fun v6 => (ob v4 (fun b7 => (okO s 9 b7 ∧ C_Rr_portOn sa b7 v6 s kc ks (fun r8 sr8 cr8 dr8 => (if r8 = none then ((C_Rf_sumByNeighbors_b130 sa p0 p1 p2 a3 a4 (some b5) a6 sr8 cr8 dr8 Q P6 P56)) else (ob (gP sr8 11 8 p0) (fun v9 => (ob v9 (fun b10 => (ob (rQ sr8 b10 a6) (fun v11 => (ob v11 (fun b12 => (ob (gI sr8 9 3 b12) (fun v13 => (if v13 = 0 then ((C_Rf_sumByNeighbors_b130 sa p0 p1 p2 a3 a4 (some b5) a6 sr8 cr8 dr8 Q P6 P56)) else (ob (gP sr8 11 18 p0) (fun v14 => (ob v14 (fun b15 => (ob (gI sr8 5 0 b15) (fun v16 => (ob r8 (fun b17 => (okO sr8 4 b17 ∧ C_Po_addressOf sa b17 v16 sr8 cr8 dr8 (fun r18 sr18 cr18 dr18 => (if r18 = none then ((C_Rf_sumByNeighbors_b130 sa p0 p1 p2 a3 a4 (some b5) a6 sr18 cr18 dr18 Q P6 P56)) else (ob p2 (fun b19 => (ob (rE sr18 .int b19 a6) (fun v20 => (ob (gI sr18 4 3 b5) (fun v21 => ((C_Rf_sumByNeighbors_b130 sa p0 p1 (some b19) (mnI a3 (v20 + v21)) a4 (some b5) a6 sr18 cr18 dr18 Q P6 P56))))))))))))))))))))))))))))))))))))))))))))) else ((C_Rf_sumByNeighbors_b136 sa p0 p1 p2 a3 a4 s kc ks Q P6))))
def C_Rf_sumByNeighbors_b56 (sa : Nat → Nat) (p0 : Nat) (p1 : Option Nat) (p2 : Option Nat) (a4 : Int32) (a5 : Option Nat) (a3 : Int32) (a6 : Int32) (s : cS) (kc ks : Nat) (Q : (Int32 → cS → Nat → Nat → Prop)) (P6 : (Int32 → Int32 → cS → Nat → Nat → Prop)) : Prop := ∀ P56 : (Int32 → Int32 → cS → Nat → Nat → Prop), (∀ (a3 : Int32) (a6 : Int32) (s : cS) (kc ks : Nat), C_Rf_sumByNeighbors_s56 sa p0 p1 p2 a4 a5 a3 a6 s kc ks Q P6 P56 → P56 a3 a6 s kc ks) → P56 a3 a6 s kc ks
def C_Rf_sumByNeighbors_s6 (sa : Nat → Nat) (p0 : Nat) (p1 : Option Nat) (p2 : Option Nat) (a3 : Int32) (a4 : Int32) (s : cS) (kc ks : Nat) (Q : (Int32 → cS → Nat → Nat → Prop)) (P6 : (Int32 → Int32 → cS → Nat → Nat → Prop)) : Prop := ob p1 (fun b1 => (ob (gI s 9 5 b1) (fun v2 => (if a4 < v2 then (ob (gP s 9 4 b1) (fun v3 => (ob v3 (fun b4 => (ob (rQ s b4 a4) (fun v5 => (ob v5 (fun b6 => (ob (gP s 4 0 b6) (fun v7 => (ob v7 (fun b8 => (ob (gI s 3 4 b8) (fun v9 => (if v9 = 0 then ((C_Rf_sumByNeighbors_b136 sa p0 (some b1) p2 a3 a4 s kc ks Q P6)) else (ob (gP s 11 18 p0) (fun v10 => (ob v10 (fun b11 => (ob (gI s 5 0 b11) (fun v12 => (okO s 4 b6 ∧ C_Po_addressOf sa b6 v12 s kc ks (fun r13 sr13 cr13 dr13 => (if r13 = none then ((C_Rf_sumByNeighbors_b136 sa p0 (some b1) p2 a3 a4 sr13 cr13 dr13 Q P6)) else ((C_Rf_sumByNeighbors_b56 sa p0 (some b1) p2 a4 (some b6) a3 (0 : Int32) sr13 cr13 dr13 Q P6)))))))))))))))))))))))))) else ((Q a3 s kc ks))))))
def C_Rf_sumByNeighbors_b6 (sa : Nat → Nat) (p0 : Nat) (p1 : Option Nat) (p2 : Option Nat) (a3 : Int32) (a4 : Int32) (s : cS) (kc ks : Nat) (Q : (Int32 → cS → Nat → Nat → Prop)) : Prop := ∀ P6 : (Int32 → Int32 → cS → Nat → Nat → Prop), (∀ (a3 : Int32) (a4 : Int32) (s : cS) (kc ks : Nat), C_Rf_sumByNeighbors_s6 sa p0 p1 p2 a3 a4 s kc ks Q P6 → P6 a3 a4 s kc ks) → P6 a3 a4 s kc ks
def C_Rf_sumByNeighbors (sa : Nat → Nat) (p0 : Nat) (p1 : Option Nat) (p2 : Option Nat) (s : cS) (kc ks : Nat) (Q : (Int32 → cS → Nat → Nat → Prop)) : Prop := (C_Rf_sumByNeighbors_b6 sa p0 p1 p2 (16 : Int32) (0 : Int32) s kc ks Q)
set_option maxRecDepth 100000 in
set_option maxHeartbeats 4000000 in
theorem kc_Rf_sumByNeighbors (base : Nat) (sa : Nat → Nat) {R : pmM} {s : cS} {kc ks : Nat} {Rt : pmR} {p0 : Nat} {p1 : Option Nat} {p2 : Option Nat} {Q : (Int32 → cS → Nat → Nat → Prop)} (hw : cW sa R base s) (h : C_Rf_sumByNeighbors sa p0 p1 p2 s kc ks Q) (k : ∀ r s' kc' ks', cW sa R base s' → Q r s' kc' ks' → Rt (some (.int r)) (cM R s') kc' ks') : kP_Rf_sumByNeighbors base sa [.ref p0, va_rf p1, va_rf p2] (cM R s) kc ks Rt := by
  refine ⟨by cases p1 <;> cases p2 <;> exact Nat.le_of_ble_eq_true rfl, fun G hG => ?_⟩
  have eL : lv_args 0 [.ref p0, va_rf p1, va_rf p2] = [(0, va_rf (some p0)), (1, va_rf p1), (2, va_rf p2)] := by cases p1 <;> cases p2 <;> rfl
  rw [eL]
  have b6 : ∀ (a3 : Int32) (a4 : Int32) (s : cS) (kc ks : Nat), KK sa R base G 6 [(0, va_rf (some p0)), (1, va_rf p1), (2, va_rf p2), (3, .int a3), (4, .int a4)] [] s kc ks (C_Rf_sumByNeighbors_b6 sa p0 p1 p2 a3 a4 s kc ks Q) := by
    have H : ∀ (P6 : (Int32 → Int32 → cS → Nat → Nat → Prop)) (hP6 : ∀ (a3 : Int32) (a4 : Int32) (s : cS) (kc ks : Nat), P6 a3 a4 s kc ks → cW sa R base s → G 6 [(0, va_rf (some p0)), (1, va_rf p1), (2, va_rf p2), (3, .int a3), (4, .int a4)] [] (cM R s) kc ks) (a3 : Int32) (a4 : Int32) (s : cS) (kc ks : Nat), KK sa R base G 6 [(0, va_rf (some p0)), (1, va_rf p1), (2, va_rf p2), (3, .int a3), (4, .int a4)] [] s kc ks (C_Rf_sumByNeighbors_s6 sa p0 p1 p2 a3 a4 s kc ks Q P6) := by
      intro P6 hP6
      have b136 : ∀ (a3 : Int32) (a4 : Int32) (s : cS) (kc ks : Nat), KK sa R base G 136 [(0, va_rf (some p0)), (1, va_rf p1), (2, va_rf p2), (3, .int a3), (4, .int a4)] [] s kc ks (C_Rf_sumByNeighbors_b136 sa p0 p1 p2 a3 a4 s kc ks Q P6) := by
        intro a3 a4 s kc ks
        refine kk_inc hG (L' := [(4, .int (a4 + (1 : Int32))), (0, va_rf (some p0)), (1, va_rf p1), (2, va_rf p2), (3, .int a3)]) rfl (Nat.le_of_ble_eq_true rfl) rfl cc_i1 rfl ?_
        refine kk_go hG (t := 6) rfl rfl ?_
        exact kk_wl hG [1, 2, 3, 4, 0] rfl (fun hw h => hP6 _ _ _ _ _ h hw)
      have b56 : ∀ (a4 : Int32) (a5 : Option Nat) (a3 : Int32) (a6 : Int32) (s : cS) (kc ks : Nat), KK sa R base G 56 [(0, va_rf (some p0)), (1, va_rf p1), (2, va_rf p2), (3, .int a3), (4, .int a4), (5, va_rf a5), (6, .int a6)] [] s kc ks (C_Rf_sumByNeighbors_b56 sa p0 p1 p2 a4 a5 a3 a6 s kc ks Q P6) := by
        intro a4 a5
        have H : ∀ (P56 : (Int32 → Int32 → cS → Nat → Nat → Prop)) (hP56 : ∀ (a3 : Int32) (a6 : Int32) (s : cS) (kc ks : Nat), P56 a3 a6 s kc ks → cW sa R base s → G 56 [(0, va_rf (some p0)), (1, va_rf p1), (2, va_rf p2), (3, .int a3), (4, .int a4), (5, va_rf a5), (6, .int a6)] [] (cM R s) kc ks) (a3 : Int32) (a6 : Int32) (s : cS) (kc ks : Nat), KK sa R base G 56 [(0, va_rf (some p0)), (1, va_rf p1), (2, va_rf p2), (3, .int a3), (4, .int a4), (5, va_rf a5), (6, .int a6)] [] s kc ks (C_Rf_sumByNeighbors_s56 sa p0 p1 p2 a4 a5 a3 a6 s kc ks Q P6 P56) := by
          intro P56 hP56
          have b130 : ∀ (a3 : Int32) (a6 : Int32) (s : cS) (kc ks : Nat), KK sa R base G 130 [(0, va_rf (some p0)), (1, va_rf p1), (2, va_rf p2), (3, .int a3), (4, .int a4), (5, va_rf a5), (6, .int a6)] [] s kc ks (C_Rf_sumByNeighbors_b130 sa p0 p1 p2 a3 a4 a5 a6 s kc ks Q P6 P56) := by
            intro a3 a6 s kc ks
            refine kk_inc hG (L' := [(6, .int (a6 + (1 : Int32))), (0, va_rf (some p0)), (1, va_rf p1), (2, va_rf p2), (3, .int a3), (4, .int a4), (5, va_rf a5)]) rfl (Nat.le_of_ble_eq_true rfl) rfl cc_i1 (by cases a5 <;> rfl) ?_
            refine kk_go hG (t := 56) rfl rfl ?_
            exact kk_wl hG [1, 2, 3, 4, 5, 6, 0] rfl (fun hw h => hP56 _ _ _ _ _ h hw)
          intro a3 a6 s kc ks
          refine kks hG rfl rfl ?_
          refine kk_aln hG (x := (some p0)) rfl rfl ?_
          refine kk_gi hG (c := 11) (k := 9) (a := p0) rfl rfl rfl rfl (fun v1 => ?_)
          refine kk_ige hG (t := 136) rfl rfl ?_ ?_
          · exact kk_wl hG [0, 1, 2, 3, 4] rfl (b136 _ _ _ _ _)
          refine kk_aln hG (x := (some p0)) rfl rfl ?_
          refine kk_gp hG (c := 11) (k := 8) (a := p0) rfl rfl rfl rfl (fun v2 => ?_)
          refine kks hG rfl rfl ?_
          refine kk_ob (fun b3 eb3 => ?_)
          subst eb3
          refine kk_aa hG (a := b3) rfl (fun v4 => ?_)
          refine kk_al hG (x := a5) rfl rfl ?_
          refine kk_ob (fun b5 eb5 => ?_)
          subst eb5
          refine kk_gp hG (c := 4) (k := 0) (a := b5) rfl rfl rfl rfl (fun v6 => ?_)
          refine kk_ob (fun b7 eb7 => ?_)
          subst eb7
          refine kk_cx (w := va_rf) hG 0 rfl rfl (Nat.le_of_ble_eq_true rfl) (by decide) rfl (st' := []) rfl (cats_le (Nat.le_of_ble_eq_true rfl)) (fun _ hw h k => kk_rcv h.1 (kc_Rr_portOn base sa hw h.2 k)) (fun r8 sr8 cr8 dr8 => ?_)
          refine kk_as hG (x := r8) (L' := [(7, va_rf r8), (0, va_rf (some p0)), (1, va_rf p1), (2, va_rf p2), (3, .int a3), (4, .int a4), (5, va_rf (some b5)), (6, .int a6)]) rfl (Nat.le_of_ble_eq_true rfl) rfl ?_
          refine kk_al hG (x := r8) rfl rfl ?_
          refine kk_nul hG (x := r8) (t := 130) rfl rfl ?_ ?_
          · exact kk_wl hG [1, 2, 3, 4, 5, 6, 7] rfl (b130 _ _ _ _ _)
          refine kk_aln hG (x := (some p0)) rfl rfl ?_
          refine kk_gp hG (c := 11) (k := 8) (a := p0) rfl rfl rfl rfl (fun v9 => ?_)
          refine kks hG rfl rfl ?_
          refine kk_ob (fun b10 eb10 => ?_)
          subst eb10
          refine kk_aa hG (a := b10) rfl (fun v11 => ?_)
          refine kk_ob (fun b12 eb12 => ?_)
          subst eb12
          refine kk_gi hG (c := 9) (k := 3) (a := b12) rfl rfl rfl rfl (fun v13 => ?_)
          refine kk_zeq hG (t := 130) rfl rfl ?_ ?_
          · exact kk_wl hG [1, 2, 3, 4, 5, 6, 7] rfl (b130 _ _ _ _ _)
          refine kk_al hG (x := r8) rfl rfl ?_
          refine kk_aln hG (x := (some p0)) rfl rfl ?_
          refine kk_gp hG (c := 11) (k := 18) (a := p0) rfl rfl rfl rfl (fun v14 => ?_)
          refine kk_ob (fun b15 eb15 => ?_)
          subst eb15
          refine kk_gi hG (c := 5) (k := 0) (a := b15) rfl rfl rfl rfl (fun v16 => ?_)
          refine kk_ob (fun b17 eb17 => ?_)
          subst eb17
          refine kk_cx (w := va_rf) hG 0 rfl rfl (Nat.le_of_ble_eq_true rfl) (by decide) rfl (st' := []) rfl (cats_le (Nat.le_of_ble_eq_true rfl)) (fun _ hw h k => kk_rcv h.1 (kc_Po_addressOf base sa hw h.2 k)) (fun r18 sr18 cr18 dr18 => ?_)
          refine kk_nul hG (x := r18) (t := 130) rfl rfl ?_ ?_
          · exact kk_wl hG [1, 2, 3, 4, 5, 6, 7] rfl (b130 _ _ _ _ _)
          refine kks hG rfl rfl ?_
          refine kk_aln hG (x := p2) rfl rfl ?_
          refine kks hG rfl rfl ?_
          refine kk_ob (fun b19 eb19 => ?_)
          subst eb19
          refine kk_ia hG (a := b19) rfl (fun v20 => ?_)
          refine kk_al hG (x := (some b5)) rfl rfl ?_
          refine kk_gi hG (c := 4) (k := 3) (a := b5) rfl rfl rfl rfl (fun v21 => ?_)
          refine kks hG rfl rfl ?_
          refine kk_mn hG rfl rfl (Nat.le_of_ble_eq_true rfl) ?_
          refine kk_st hG (L' := [(3, .int (mnI a3 (v20 + v21))), (7, va_rf (some b17)), (0, va_rf (some p0)), (1, va_rf p1), (2, va_rf (some b19)), (4, .int a4), (5, va_rf (some b5)), (6, .int a6)]) rfl rfl (Nat.le_of_ble_eq_true rfl) rfl ?_
          exact kk_wl hG [2, 3, 4, 0, 5, 6, 7] rfl (b130 _ _ _ _ _)
        exact fun a3 a6 s kc ks hw h => h (fun a3 a6 s kc ks => cW sa R base s → G 56 [(0, va_rf (some p0)), (1, va_rf p1), (2, va_rf p2), (3, .int a3), (4, .int a4), (5, va_rf a5), (6, .int a6)] [] (cM R s) kc ks) (fun a3 a6 s kc ks hs hw => H _ (fun _ _ _ _ _ hp hw => hp hw) a3 a6 s kc ks hw hs) hw
      intro a3 a4 s kc ks
      refine kks hG rfl rfl ?_
      refine kk_aln hG (x := p1) rfl rfl ?_
      refine kk_ob (fun b1 eb1 => ?_)
      subst eb1
      refine kk_gi hG (c := 9) (k := 5) (a := b1) rfl rfl rfl rfl (fun v2 => ?_)
      refine kk_ige hG (t := 142) rfl rfl ?_ ?_
      · refine kks hG rfl rfl ?_
        exact kk_ri hG rfl rfl rfl k
      refine kk_aln hG (x := (some b1)) rfl rfl ?_
      refine kk_gp hG (c := 9) (k := 4) (a := b1) rfl rfl rfl rfl (fun v3 => ?_)
      refine kks hG rfl rfl ?_
      refine kk_ob (fun b4 eb4 => ?_)
      subst eb4
      refine kk_aa hG (a := b4) rfl (fun v5 => ?_)
      refine kk_as hG (x := v5) (L' := [(5, va_rf v5), (0, va_rf (some p0)), (1, va_rf (some b1)), (2, va_rf p2), (3, .int a3), (4, .int a4)]) rfl (Nat.le_of_ble_eq_true rfl) rfl ?_
      refine kk_al hG (x := v5) rfl rfl ?_
      refine kk_ob (fun b6 eb6 => ?_)
      subst eb6
      refine kk_gp hG (c := 4) (k := 0) (a := b6) rfl rfl rfl rfl (fun v7 => ?_)
      refine kk_ob (fun b8 eb8 => ?_)
      subst eb8
      refine kk_gi hG (c := 3) (k := 4) (a := b8) rfl rfl rfl rfl (fun v9 => ?_)
      refine kk_zeq hG (t := 136) rfl rfl ?_ ?_
      · exact kk_wl hG [1, 2, 3, 4, 5] rfl (b136 _ _ _ _ _)
      refine kk_al hG (x := (some b6)) rfl rfl ?_
      refine kk_aln hG (x := (some p0)) rfl rfl ?_
      refine kk_gp hG (c := 11) (k := 18) (a := p0) rfl rfl rfl rfl (fun v10 => ?_)
      refine kk_ob (fun b11 eb11 => ?_)
      subst eb11
      refine kk_gi hG (c := 5) (k := 0) (a := b11) rfl rfl rfl rfl (fun v12 => ?_)
      refine kk_cx (w := va_rf) hG 0 rfl rfl (Nat.le_of_ble_eq_true rfl) (by decide) rfl (st' := []) rfl (cats_le (Nat.le_of_ble_eq_true rfl)) (fun _ hw h k => kk_rcv h.1 (kc_Po_addressOf base sa hw h.2 k)) (fun r13 sr13 cr13 dr13 => ?_)
      refine kk_nnl hG (x := r13) (t := 53) rfl rfl ?_ ?_
      · refine kk_ic hG rfl cc_i0 ?_
        refine kk_st hG (L' := [(6, .int (0 : Int32)), (5, va_rf (some b6)), (0, va_rf (some p0)), (1, va_rf (some b1)), (2, va_rf p2), (3, .int a3), (4, .int a4)]) rfl rfl (Nat.le_of_ble_eq_true rfl) rfl ?_
        exact kk_wl hG [2, 3, 4, 5, 6, 1, 0] rfl (b56 _ _ _ _ _ _ _)
      refine kk_go hG (t := 136) rfl rfl ?_
      exact kk_wl hG [1, 2, 3, 4, 5] rfl (b136 _ _ _ _ _)
    exact fun a3 a4 s kc ks hw h => h (fun a3 a4 s kc ks => cW sa R base s → G 6 [(0, va_rf (some p0)), (1, va_rf p1), (2, va_rf p2), (3, .int a3), (4, .int a4)] [] (cM R s) kc ks) (fun a3 a4 s kc ks hs hw => H _ (fun _ _ _ _ _ hp hw => hp hw) a3 a4 s kc ks hw hs) hw
  refine (show KK sa R base G 0 [(0, va_rf (some p0)), (1, va_rf p1), (2, va_rf p2)] [] s kc ks (C_Rf_sumByNeighbors sa p0 p1 p2 s kc ks Q) from ?_) hw h
  refine kk_bi hG rfl cc_b16 ?_
  refine kk_st hG (L' := [(3, .int (16 : Int32)), (0, va_rf (some p0)), (1, va_rf p1), (2, va_rf p2)]) rfl rfl (Nat.le_of_ble_eq_true rfl) (by cases p2 <;> rfl) ?_
  refine kk_ic hG rfl cc_i0 ?_
  refine kk_st hG (L' := [(4, .int (0 : Int32)), (3, .int (16 : Int32)), (0, va_rf (some p0)), (1, va_rf p1), (2, va_rf p2)]) rfl rfl (Nat.le_of_ble_eq_true rfl) rfl ?_
  exact kk_wl hG [2, 3, 4, 1, 0] rfl (b6 _ _ _ _ _)
def C_Rf_leastSum_b114 (sa : Nat → Nat) (p0 : Nat) (p1 : Int32) (a2 : Option Nat) (a3 : Int32) (a4 : Int32) (s : cS) (kc ks : Nat) (Q : (Int32 → cS → Nat → Nat → Prop)) (P39 : (Int32 → cS → Nat → Nat → Prop)) (P50 : (Int32 → cS → Nat → Nat → Prop)) : Prop := (P50 (a4 + (1 : Int32)) s kc ks)
def C_Rf_leastSum_s50 (sa : Nat → Nat) (p0 : Nat) (p1 : Int32) (a2 : Option Nat) (a3 : Int32) (a4 : Int32) (s : cS) (kc ks : Nat) (Q : (Int32 → cS → Nat → Nat → Prop)) (P39 : (Int32 → cS → Nat → Nat → Prop)) (P50 : (Int32 → cS → Nat → Nat → Prop)) : Prop := ob (gI s 11 9 p0) (fun v1 => (if a4 < v1 then (ob (gP s 11 8 p0) (fun v2 => (ob v2 (fun b3 => (ob (rQ s b3 a4) (fun v4 => (ob v4 (fun b5 => (ob (gI s 9 3 b5) (fun v6 => (if v6 = 0 then ((C_Rf_leastSum_b114 sa p0 p1 a2 a3 a4 s kc ks Q P39 P50)) else (ob (gP s 11 8 p0) (fun v7 => (ob v7 (fun b8 => (ob (rQ s b8 a4) (fun v9 => (ob (gP s 11 18 p0) (fun v10 => (ob v9 (fun b11 => (okO s 9 b11 ∧ C_Rr_ownSum sa b11 v10 s kc ks (fun r12 sr12 cr12 dr12 => (if r12 = (16 : Int32) then (ob a2 (fun b13 => (ob (rE sr12 .int b13 a4) (fun v14 => (ob (gP sr12 11 8 p0) (fun v15 => (ob v15 (fun b16 => (ob (rQ sr12 b16 a4) (fun v17 => (okO sr12 11 p0 ∧ C_Rf_sumByNeighbors sa p0 v17 (some b13) sr12 cr12 dr12 (fun r18 sr18 cr18 dr18 => (ob (wEi sr18 b13 a4 (mnI v14 r18)) (fun s19 => ((C_Rf_leastSum_b114 sa p0 p1 (some b13) a3 a4 s19 cr18 dr18 Q P39 P50)))))))))))))))) else ((C_Rf_leastSum_b114 sa p0 p1 a2 a3 a4 sr12 cr12 dr12 Q P39 P50)))))))))))))))))))))))))) else (((P39 (a3 + (1 : Int32)) s kc ks)))))
def C_Rf_leastSum_b50 (sa : Nat → Nat) (p0 : Nat) (p1 : Int32) (a2 : Option Nat) (a3 : Int32) (a4 : Int32) (s : cS) (kc ks : Nat) (Q : (Int32 → cS → Nat → Nat → Prop)) (P39 : (Int32 → cS → Nat → Nat → Prop)) : Prop := ∀ P50 : (Int32 → cS → Nat → Nat → Prop), (∀ (a4 : Int32) (s : cS) (kc ks : Nat), C_Rf_leastSum_s50 sa p0 p1 a2 a3 a4 s kc ks Q P39 P50 → P50 a4 s kc ks) → P50 a4 s kc ks
def C_Rf_leastSum_s39 (sa : Nat → Nat) (p0 : Nat) (p1 : Int32) (a2 : Option Nat) (a3 : Int32) (s : cS) (kc ks : Nat) (Q : (Int32 → cS → Nat → Nat → Prop)) (P39 : (Int32 → cS → Nat → Nat → Prop)) : Prop := ob (gI s 11 9 p0) (fun v1 => (if a3 < v1 then ((C_Rf_leastSum_b50 sa p0 p1 a2 a3 (0 : Int32) s kc ks Q P39)) else ((ob a2 (fun b2 => (ob (rE s .int b2 p1) (fun v3 => (Q (mnI (16 : Int32) v3) s kc ks))))))))
def C_Rf_leastSum_b39 (sa : Nat → Nat) (p0 : Nat) (p1 : Int32) (a2 : Option Nat) (a3 : Int32) (s : cS) (kc ks : Nat) (Q : (Int32 → cS → Nat → Nat → Prop)) : Prop := ∀ P39 : (Int32 → cS → Nat → Nat → Prop), (∀ (a3 : Int32) (s : cS) (kc ks : Nat), C_Rf_leastSum_s39 sa p0 p1 a2 a3 s kc ks Q P39 → P39 a3 s kc ks) → P39 a3 s kc ks
def C_Rf_leastSum_s7 (sa : Nat → Nat) (p0 : Nat) (p1 : Int32) (a2 : Option Nat) (a3 : Int32) (s : cS) (kc ks : Nat) (Q : (Int32 → cS → Nat → Nat → Prop)) (P7 : (Int32 → cS → Nat → Nat → Prop)) : Prop := ob (gI s 11 9 p0) (fun v1 => (if a3 < v1 then (ob (gP s 11 8 p0) (fun v2 => (ob v2 (fun b3 => (ob (rQ s b3 a3) (fun v4 => (ob (gP s 11 18 p0) (fun v5 => (ob v4 (fun b6 => (okO s 9 b6 ∧ C_Rr_ownSum sa b6 v5 s kc ks (fun r7 sr7 cr7 dr7 => (ob a2 (fun b8 => (ob (wEi sr7 b8 a3 r7) (fun s9 => ((P7 (a3 + (1 : Int32)) s9 cr7 dr7)))))))))))))))))) else (((C_Rf_leastSum_b39 sa p0 p1 a2 (0 : Int32) s kc ks Q)))))
def C_Rf_leastSum_b7 (sa : Nat → Nat) (p0 : Nat) (p1 : Int32) (a2 : Option Nat) (a3 : Int32) (s : cS) (kc ks : Nat) (Q : (Int32 → cS → Nat → Nat → Prop)) : Prop := ∀ P7 : (Int32 → cS → Nat → Nat → Prop), (∀ (a3 : Int32) (s : cS) (kc ks : Nat), C_Rf_leastSum_s7 sa p0 p1 a2 a3 s kc ks Q P7 → P7 a3 s kc ks) → P7 a3 s kc ks
def C_Rf_leastSum (sa : Nat → Nat) (p0 : Nat) (p1 : Int32) (s : cS) (kc ks : Nat) (Q : (Int32 → cS → Nat → Nat → Prop)) : Prop := nwA sa s kc ks .int (6 : Int32) (fun q1 sq1 cq1 dq1 => ((C_Rf_leastSum_b7 sa p0 p1 (some q1) (0 : Int32) sq1 cq1 dq1 Q)))
set_option maxRecDepth 100000 in
set_option maxHeartbeats 4000000 in
theorem kc_Rf_leastSum (base : Nat) (sa : Nat → Nat) {R : pmM} {s : cS} {kc ks : Nat} {Rt : pmR} {p0 : Nat} {p1 : Int32} {Q : (Int32 → cS → Nat → Nat → Prop)} (hw : cW sa R base s) (h : C_Rf_leastSum sa p0 p1 s kc ks Q) (k : ∀ r s' kc' ks', cW sa R base s' → Q r s' kc' ks' → Rt (some (.int r)) (cM R s') kc' ks') : kP_Rf_leastSum base sa [.ref p0, .int p1] (cM R s) kc ks Rt := by
  refine ⟨Nat.le_of_ble_eq_true rfl, fun G hG => ?_⟩
  have b39 : ∀ (a2 : Option Nat) (a3 : Int32) (s : cS) (kc ks : Nat), KK sa R base G 39 [(0, va_rf (some p0)), (1, .int p1), (2, va_rf a2), (3, .int a3)] [] s kc ks (C_Rf_leastSum_b39 sa p0 p1 a2 a3 s kc ks Q) := by
    intro a2
    have H : ∀ (P39 : (Int32 → cS → Nat → Nat → Prop)) (hP39 : ∀ (a3 : Int32) (s : cS) (kc ks : Nat), P39 a3 s kc ks → cW sa R base s → G 39 [(0, va_rf (some p0)), (1, .int p1), (2, va_rf a2), (3, .int a3)] [] (cM R s) kc ks) (a3 : Int32) (s : cS) (kc ks : Nat), KK sa R base G 39 [(0, va_rf (some p0)), (1, .int p1), (2, va_rf a2), (3, .int a3)] [] s kc ks (C_Rf_leastSum_s39 sa p0 p1 a2 a3 s kc ks Q P39) := by
      intro P39 hP39
      have b50 : ∀ (a3 : Int32) (a4 : Int32) (s : cS) (kc ks : Nat), KK sa R base G 50 [(0, va_rf (some p0)), (1, .int p1), (2, va_rf a2), (3, .int a3), (4, .int a4)] [] s kc ks (C_Rf_leastSum_b50 sa p0 p1 a2 a3 a4 s kc ks Q P39) := by
        intro a3
        have H : ∀ (P50 : (Int32 → cS → Nat → Nat → Prop)) (hP50 : ∀ (a4 : Int32) (s : cS) (kc ks : Nat), P50 a4 s kc ks → cW sa R base s → G 50 [(0, va_rf (some p0)), (1, .int p1), (2, va_rf a2), (3, .int a3), (4, .int a4)] [] (cM R s) kc ks) (a4 : Int32) (s : cS) (kc ks : Nat), KK sa R base G 50 [(0, va_rf (some p0)), (1, .int p1), (2, va_rf a2), (3, .int a3), (4, .int a4)] [] s kc ks (C_Rf_leastSum_s50 sa p0 p1 a2 a3 a4 s kc ks Q P39 P50) := by
          intro P50 hP50
          have b114 : ∀ (a4 : Int32) (s : cS) (kc ks : Nat), KK sa R base G 114 [(0, va_rf (some p0)), (1, .int p1), (2, va_rf a2), (3, .int a3), (4, .int a4)] [] s kc ks (C_Rf_leastSum_b114 sa p0 p1 a2 a3 a4 s kc ks Q P39 P50) := by
            intro a4 s kc ks
            refine kk_inc hG (L' := [(4, .int (a4 + (1 : Int32))), (0, va_rf (some p0)), (1, .int p1), (2, va_rf a2), (3, .int a3)]) rfl (Nat.le_of_ble_eq_true rfl) rfl cc_i1 rfl ?_
            refine kk_go hG (t := 50) rfl rfl ?_
            exact kk_wl hG [1, 2, 3, 4, 0] rfl (fun hw h => hP50 _ _ _ _ h hw)
          intro a4 s kc ks
          refine kks hG rfl rfl ?_
          refine kk_aln hG (x := (some p0)) rfl rfl ?_
          refine kk_gi hG (c := 11) (k := 9) (a := p0) rfl rfl rfl rfl (fun v1 => ?_)
          refine kk_ige hG (t := 120) rfl rfl ?_ ?_
          · refine kk_inc hG (L' := [(3, .int (a3 + (1 : Int32))), (0, va_rf (some p0)), (1, .int p1), (2, va_rf a2), (4, .int a4)]) rfl (Nat.le_of_ble_eq_true rfl) rfl cc_i1 (by cases a2 <;> rfl) ?_
            refine kk_go hG (t := 39) rfl rfl ?_
            exact kk_wl hG [1, 2, 3, 0] rfl (fun hw h => hP39 _ _ _ _ h hw)
          refine kk_aln hG (x := (some p0)) rfl rfl ?_
          refine kk_gp hG (c := 11) (k := 8) (a := p0) rfl rfl rfl rfl (fun v2 => ?_)
          refine kks hG rfl rfl ?_
          refine kk_ob (fun b3 eb3 => ?_)
          subst eb3
          refine kk_aa hG (a := b3) rfl (fun v4 => ?_)
          refine kk_ob (fun b5 eb5 => ?_)
          subst eb5
          refine kk_gi hG (c := 9) (k := 3) (a := b5) rfl rfl rfl rfl (fun v6 => ?_)
          refine kk_zeq hG (t := 114) rfl rfl ?_ ?_
          · exact kk_wl hG [0, 1, 2, 3, 4] rfl (b114 _ _ _ _)
          refine kk_aln hG (x := (some p0)) rfl rfl ?_
          refine kk_gp hG (c := 11) (k := 8) (a := p0) rfl rfl rfl rfl (fun v7 => ?_)
          refine kks hG rfl rfl ?_
          refine kk_ob (fun b8 eb8 => ?_)
          subst eb8
          refine kk_aa hG (a := b8) rfl (fun v9 => ?_)
          refine kk_aln hG (x := (some p0)) rfl rfl ?_
          refine kk_gp hG (c := 11) (k := 18) (a := p0) rfl rfl rfl rfl (fun v10 => ?_)
          refine kk_ob (fun b11 eb11 => ?_)
          subst eb11
          refine kk_cx (w := .int) hG 0 rfl rfl (Nat.le_of_ble_eq_true rfl) (by decide) rfl (st' := []) rfl (cats_le (Nat.le_of_ble_eq_true rfl)) (fun _ hw h k => kk_rcv h.1 (kc_Rr_ownSum base sa hw h.2 k)) (fun r12 sr12 cr12 dr12 => ?_)
          refine kk_bi hG rfl cc_b16 ?_
          refine kk_ine hG (t := 114) rfl rfl ?_ ?_
          · exact kk_wl hG [0, 1, 2, 3, 4] rfl (b114 _ _ _ _)
          refine kk_aln hG (x := a2) rfl rfl ?_
          refine kks hG rfl rfl ?_
          refine kk_aln hG (x := a2) rfl rfl ?_
          refine kks hG rfl rfl ?_
          refine kk_ob (fun b13 eb13 => ?_)
          subst eb13
          refine kk_ia hG (a := b13) rfl (fun v14 => ?_)
          refine kk_aln hG (x := (some p0)) rfl rfl ?_
          refine kk_aln hG (x := (some p0)) rfl rfl ?_
          refine kk_gp hG (c := 11) (k := 8) (a := p0) rfl rfl rfl rfl (fun v15 => ?_)
          refine kks hG rfl rfl ?_
          refine kk_ob (fun b16 eb16 => ?_)
          subst eb16
          refine kk_aa hG (a := b16) rfl (fun v17 => ?_)
          refine kk_aln hG (x := (some b13)) rfl rfl ?_
          refine kk_cx (w := .int) hG 0 rfl rfl (Nat.le_of_ble_eq_true rfl) (by decide) rfl (st' := [.int v14, .int a4, va_rf (some b13)]) rfl (cats_le (Nat.le_of_ble_eq_true rfl)) (fun _ hw h k => kk_rcv h.1 (kc_Rf_sumByNeighbors base sa hw h.2 k)) (fun r18 sr18 cr18 dr18 => ?_)
          refine kk_mn hG rfl rfl (Nat.le_of_ble_eq_true rfl) ?_
          refine kk_is hG (a := b13) rfl (fun s19 => ?_)
          exact kk_wl hG [0, 1, 2, 3, 4] rfl (b114 _ _ _ _)
        exact fun a4 s kc ks hw h => h (fun a4 s kc ks => cW sa R base s → G 50 [(0, va_rf (some p0)), (1, .int p1), (2, va_rf a2), (3, .int a3), (4, .int a4)] [] (cM R s) kc ks) (fun a4 s kc ks hs hw => H _ (fun _ _ _ _ hp hw => hp hw) a4 s kc ks hw hs) hw
      intro a3 s kc ks
      refine kks hG rfl rfl ?_
      refine kk_aln hG (x := (some p0)) rfl rfl ?_
      refine kk_gi hG (c := 11) (k := 9) (a := p0) rfl rfl rfl rfl (fun v1 => ?_)
      refine kk_ige hG (t := 126) rfl rfl ?_ ?_
      · refine kk_bi hG rfl cc_b16 ?_
        refine kk_aln hG (x := a2) rfl rfl ?_
        refine kks hG rfl rfl ?_
        refine kk_ob (fun b2 eb2 => ?_)
        subst eb2
        refine kk_ia hG (a := b2) rfl (fun v3 => ?_)
        refine kk_mn hG rfl rfl (Nat.le_of_ble_eq_true rfl) ?_
        exact kk_ri hG rfl rfl rfl k
      refine kk_ic hG rfl cc_i0 ?_
      refine kk_st hG (L' := [(4, .int (0 : Int32)), (0, va_rf (some p0)), (1, .int p1), (2, va_rf a2), (3, .int a3)]) rfl rfl (Nat.le_of_ble_eq_true rfl) rfl ?_
      exact kk_wl hG [1, 2, 3, 4, 0] rfl (b50 _ _ _ _ _)
    exact fun a3 s kc ks hw h => h (fun a3 s kc ks => cW sa R base s → G 39 [(0, va_rf (some p0)), (1, .int p1), (2, va_rf a2), (3, .int a3)] [] (cM R s) kc ks) (fun a3 s kc ks hs hw => H _ (fun _ _ _ _ hp hw => hp hw) a3 s kc ks hw hs) hw
  have b7 : ∀ (a2 : Option Nat) (a3 : Int32) (s : cS) (kc ks : Nat), KK sa R base G 7 [(0, va_rf (some p0)), (1, .int p1), (2, va_rf a2), (3, .int a3)] [] s kc ks (C_Rf_leastSum_b7 sa p0 p1 a2 a3 s kc ks Q) := by
    intro a2
    have H : ∀ (P7 : (Int32 → cS → Nat → Nat → Prop)) (hP7 : ∀ (a3 : Int32) (s : cS) (kc ks : Nat), P7 a3 s kc ks → cW sa R base s → G 7 [(0, va_rf (some p0)), (1, .int p1), (2, va_rf a2), (3, .int a3)] [] (cM R s) kc ks) (a3 : Int32) (s : cS) (kc ks : Nat), KK sa R base G 7 [(0, va_rf (some p0)), (1, .int p1), (2, va_rf a2), (3, .int a3)] [] s kc ks (C_Rf_leastSum_s7 sa p0 p1 a2 a3 s kc ks Q P7) := by
      intro P7 hP7
      intro a3 s kc ks
      refine kks hG rfl rfl ?_
      refine kk_aln hG (x := (some p0)) rfl rfl ?_
      refine kk_gi hG (c := 11) (k := 9) (a := p0) rfl rfl rfl rfl (fun v1 => ?_)
      refine kk_ige hG (t := 37) rfl rfl ?_ ?_
      · refine kk_ic hG rfl cc_i0 ?_
        refine kk_st hG (L' := [(3, .int (0 : Int32)), (0, va_rf (some p0)), (1, .int p1), (2, va_rf a2)]) rfl rfl (Nat.le_of_ble_eq_true rfl) (by cases a2 <;> rfl) ?_
        exact kk_wl hG [1, 2, 3, 0] rfl (b39 _ _ _ _ _)
      refine kk_aln hG (x := a2) rfl rfl ?_
      refine kks hG rfl rfl ?_
      refine kk_aln hG (x := (some p0)) rfl rfl ?_
      refine kk_gp hG (c := 11) (k := 8) (a := p0) rfl rfl rfl rfl (fun v2 => ?_)
      refine kks hG rfl rfl ?_
      refine kk_ob (fun b3 eb3 => ?_)
      subst eb3
      refine kk_aa hG (a := b3) rfl (fun v4 => ?_)
      refine kk_aln hG (x := (some p0)) rfl rfl ?_
      refine kk_gp hG (c := 11) (k := 18) (a := p0) rfl rfl rfl rfl (fun v5 => ?_)
      refine kk_ob (fun b6 eb6 => ?_)
      subst eb6
      refine kk_cx (w := .int) hG 0 rfl rfl (Nat.le_of_ble_eq_true rfl) (by decide) rfl (st' := [.int a3, va_rf a2]) rfl (cats_le (Nat.le_of_ble_eq_true rfl)) (fun _ hw h k => kk_rcv h.1 (kc_Rr_ownSum base sa hw h.2 k)) (fun r7 sr7 cr7 dr7 => ?_)
      refine kk_ob (fun b8 eb8 => ?_)
      subst eb8
      refine kk_is hG (a := b8) rfl (fun s9 => ?_)
      refine kk_inc hG (L' := [(3, .int (a3 + (1 : Int32))), (0, va_rf (some p0)), (1, .int p1), (2, va_rf (some b8))]) rfl (Nat.le_of_ble_eq_true rfl) rfl cc_i1 rfl ?_
      refine kk_go hG (t := 7) rfl rfl ?_
      exact kk_wl hG [1, 2, 3, 0] rfl (fun hw h => hP7 _ _ _ _ h hw)
    exact fun a3 s kc ks hw h => h (fun a3 s kc ks => cW sa R base s → G 7 [(0, va_rf (some p0)), (1, .int p1), (2, va_rf a2), (3, .int a3)] [] (cM R s) kc ks) (fun a3 s kc ks hs hw => H _ (fun _ _ _ _ hp hw => hp hw) a3 s kc ks hw hs) hw
  refine (show KK sa R base G 0 [(0, va_rf (some p0)), (1, .int p1)] [] s kc ks (C_Rf_leastSum sa p0 p1 s kc ks Q) from ?_) hw h
  refine kk_bi hG rfl cc_b6 ?_
  refine kk_nar hG (ty := .int) rfl rfl rfl rfl (fun q1 sq1 cq1 dq1 => ?_)
  refine kk_asn hG (x := (some q1)) (L' := [(2, va_rf (some q1)), (0, va_rf (some p0)), (1, .int p1)]) rfl (Nat.le_of_ble_eq_true rfl) rfl ?_
  refine kk_ic hG rfl cc_i0 ?_
  refine kk_st hG (L' := [(3, .int (0 : Int32)), (2, va_rf (some q1)), (0, va_rf (some p0)), (1, .int p1)]) rfl rfl (Nat.le_of_ble_eq_true rfl) rfl ?_
  exact kk_wl hG [2, 3, 1, 0] rfl (b7 _ _ _ _ _)
def C_Rf_oracle_b101 (sa : Nat → Nat) (p0 : Nat) (a2 : Option Nat) (a4 : Int32) (s : cS) (kc ks : Nat) (Q : (Int32 → cS → Nat → Nat → Prop)) (P61 : (Int32 → cS → Nat → Nat → Prop)) : Prop := (P61 (a4 + (1 : Int32)) s kc ks)
def C_Rf_oracle_s61 (sa : Nat → Nat) (p0 : Nat) (a2 : Option Nat) (a4 : Int32) (s : cS) (kc ks : Nat) (Q : (Int32 → cS → Nat → Nat → Prop)) (P61 : (Int32 → cS → Nat → Nat → Prop)) : Prop := ob (gI s 11 9 p0) (fun v1 => (if a4 < v1 then (ob (gP s 11 8 p0) (fun v8 => (ob v8 (fun b9 => (ob (rQ s b9 a4) (fun v10 => (ob v10 (fun b11 => (ob (gI s 9 3 b11) (fun v12 => (if v12 = 0 then ((C_Rf_oracle_b101 sa p0 a2 a4 s kc ks Q P61)) else (ob (gP s 11 8 p0) (fun v13 => (ob v13 (fun b14 => (ob (rQ s b14 a4) (fun v15 => (ob (gP s 11 19 p0) (fun v16 => (ob (gP s 11 18 p0) (fun v17 => (ob v15 (fun b18 => (okO s 9 b18 ∧ C_Rr_findLongestOwn sa b18 v16 v17 s kc ks (fun sr19 cr19 dr19 => ((C_Rf_oracle_b101 sa p0 a2 a4 sr19 cr19 dr19 Q P61))))))))))))))))))))))))))) else ((ob (gP s 11 18 p0) (fun v2 => (ob v2 (fun b3 => (ob (gI s 5 3 b3) (fun v4 => (if v4 = ((-1) : Int32) then (Q ((-1) : Int32) s kc ks) else (ob a2 (fun b5 => (ob (gI s 9 2 b5) (fun v6 => (okO s 11 p0 ∧ C_Rf_leastSum sa p0 v6 s kc ks (fun r7 sr7 cr7 dr7 => (Q r7 sr7 cr7 dr7)))))))))))))))))
def C_Rf_oracle_b61 (sa : Nat → Nat) (p0 : Nat) (a2 : Option Nat) (a4 : Int32) (s : cS) (kc ks : Nat) (Q : (Int32 → cS → Nat → Nat → Prop)) : Prop := ∀ P61 : (Int32 → cS → Nat → Nat → Prop), (∀ (a4 : Int32) (s : cS) (kc ks : Nat), C_Rf_oracle_s61 sa p0 a2 a4 s kc ks Q P61 → P61 a4 s kc ks) → P61 a4 s kc ks
def C_Rf_oracle (sa : Nat → Nat) (p0 : Nat) (p1 : Int32) (s : cS) (kc ks : Nat) (Q : (Int32 → cS → Nat → Nat → Prop)) : Prop := okO s 11 p0 ∧ C_Rf_routerAt sa p0 p1 s kc ks (fun r1 sr1 cr1 dr1 => (ob (gP sr1 11 19 p0) (fun v2 => (ob (gP sr1 11 0 p0) (fun v3 => (ob (gP sr1 11 0 p0) (fun v4 => (ob v4 (fun b5 => (ob (gI sr1 0 1 b5) (fun v6 => (ob v2 (fun b7 => (okO sr1 5 b7 ∧ C_Pr_parseAddress sa b7 v3 (0 : Int32) v6 sr1 cr1 dr1 (fun r8 sr8 cr8 dr8 => (ob (gP sr8 11 0 p0) (fun v9 => (ob v9 (fun b10 => (okO sr8 0 b10 ∧ C_By_clear sa b10 sr8 cr8 dr8 (fun sr11 cr11 dr11 => (if r8 = 0 then (Q ((-1) : Int32) sr11 cr11 dr11) else (if r1 = none then (Q ((-1) : Int32) sr11 cr11 dr11) else (ob r1 (fun b12 => (ob (gI sr11 9 3 b12) (fun v13 => (if v13 = 0 then (Q ((-1) : Int32) sr11 cr11 dr11) else (ob (gP sr11 11 18 p0) (fun v14 => (ob v14 (fun b15 => (ob (pI sr11 5 3 b15 ((-1) : Int32)) (fun s16 => ((C_Rf_oracle_b61 sa p0 (some b12) (0 : Int32) s16 cr11 dr11 Q))))))))))))))))))))))))))))))))))))
set_option maxRecDepth 100000 in
set_option maxHeartbeats 4000000 in
theorem kc_Rf_oracle (base : Nat) (sa : Nat → Nat) {R : pmM} {s : cS} {kc ks : Nat} {Rt : pmR} {p0 : Nat} {p1 : Int32} {Q : (Int32 → cS → Nat → Nat → Prop)} (hw : cW sa R base s) (h : C_Rf_oracle sa p0 p1 s kc ks Q) (k : ∀ r s' kc' ks', cW sa R base s' → Q r s' kc' ks' → Rt (some (.int r)) (cM R s') kc' ks') : kP_Rf_oracle base sa [.ref p0, .int p1] (cM R s) kc ks Rt := by
  refine ⟨Nat.le_of_ble_eq_true rfl, fun G hG => ?_⟩
  have b61 : ∀ (a2 : Option Nat) (a4 : Int32) (s : cS) (kc ks : Nat), KK sa R base G 61 [(0, va_rf (some p0)), (2, va_rf a2), (4, .int a4)] [] s kc ks (C_Rf_oracle_b61 sa p0 a2 a4 s kc ks Q) := by
    intro a2
    have H : ∀ (P61 : (Int32 → cS → Nat → Nat → Prop)) (hP61 : ∀ (a4 : Int32) (s : cS) (kc ks : Nat), P61 a4 s kc ks → cW sa R base s → G 61 [(0, va_rf (some p0)), (2, va_rf a2), (4, .int a4)] [] (cM R s) kc ks) (a4 : Int32) (s : cS) (kc ks : Nat), KK sa R base G 61 [(0, va_rf (some p0)), (2, va_rf a2), (4, .int a4)] [] s kc ks (C_Rf_oracle_s61 sa p0 a2 a4 s kc ks Q P61) := by
      intro P61 hP61
      have b101 : ∀ (a4 : Int32) (s : cS) (kc ks : Nat), KK sa R base G 101 [(0, va_rf (some p0)), (2, va_rf a2), (4, .int a4)] [] s kc ks (C_Rf_oracle_b101 sa p0 a2 a4 s kc ks Q P61) := by
        intro a4 s kc ks
        refine kk_inc hG (L' := [(4, .int (a4 + (1 : Int32))), (0, va_rf (some p0)), (2, va_rf a2)]) rfl (Nat.le_of_ble_eq_true rfl) rfl cc_i1 rfl ?_
        refine kk_go hG (t := 61) rfl rfl ?_
        exact kk_wl hG [1, 2, 0] rfl (fun hw h => hP61 _ _ _ _ h hw)
      intro a4 s kc ks
      refine kks hG rfl rfl ?_
      refine kk_aln hG (x := (some p0)) rfl rfl ?_
      refine kk_gi hG (c := 11) (k := 9) (a := p0) rfl rfl rfl rfl (fun v1 => ?_)
      refine kk_ige hG (t := 107) rfl rfl ?_ ?_
      · refine kk_aln hG (x := (some p0)) rfl rfl ?_
        refine kk_gp hG (c := 11) (k := 18) (a := p0) rfl rfl rfl rfl (fun v2 => ?_)
        refine kk_ob (fun b3 eb3 => ?_)
        subst eb3
        refine kk_gi hG (c := 5) (k := 3) (a := b3) rfl rfl rfl rfl (fun v4 => ?_)
        refine kk_ic hG rfl cc_im1 ?_
        refine kk_ine hG (t := 122) rfl rfl ?_ ?_
        · refine kk_aln hG (x := (some p0)) rfl rfl ?_
          refine kk_aln hG (x := a2) rfl rfl ?_
          refine kk_ob (fun b5 eb5 => ?_)
          subst eb5
          refine kk_gi hG (c := 9) (k := 2) (a := b5) rfl rfl rfl rfl (fun v6 => ?_)
          refine kk_cx (w := .int) hG 0 rfl rfl (Nat.le_of_ble_eq_true rfl) (by decide) rfl (st' := []) rfl (cats_le (Nat.le_of_ble_eq_true rfl)) (fun _ hw h k => kk_rcv h.1 (kc_Rf_leastSum base sa hw h.2 k)) (fun r7 sr7 cr7 dr7 => ?_)
          exact kk_ri hG rfl rfl rfl k
        refine kk_ic hG rfl cc_im1 ?_
        refine kk_go hG (t := 130) rfl rfl ?_
        exact kk_ri hG rfl rfl rfl k
      refine kk_aln hG (x := (some p0)) rfl rfl ?_
      refine kk_gp hG (c := 11) (k := 8) (a := p0) rfl rfl rfl rfl (fun v8 => ?_)
      refine kks hG rfl rfl ?_
      refine kk_ob (fun b9 eb9 => ?_)
      subst eb9
      refine kk_aa hG (a := b9) rfl (fun v10 => ?_)
      refine kk_ob (fun b11 eb11 => ?_)
      subst eb11
      refine kk_gi hG (c := 9) (k := 3) (a := b11) rfl rfl rfl rfl (fun v12 => ?_)
      refine kk_zeq hG (t := 101) rfl rfl ?_ ?_
      · exact kk_wl hG [0, 1, 2] rfl (b101 _ _ _ _)
      refine kk_aln hG (x := (some p0)) rfl rfl ?_
      refine kk_gp hG (c := 11) (k := 8) (a := p0) rfl rfl rfl rfl (fun v13 => ?_)
      refine kks hG rfl rfl ?_
      refine kk_ob (fun b14 eb14 => ?_)
      subst eb14
      refine kk_aa hG (a := b14) rfl (fun v15 => ?_)
      refine kk_aln hG (x := (some p0)) rfl rfl ?_
      refine kk_gp hG (c := 11) (k := 19) (a := p0) rfl rfl rfl rfl (fun v16 => ?_)
      refine kk_aln hG (x := (some p0)) rfl rfl ?_
      refine kk_gp hG (c := 11) (k := 18) (a := p0) rfl rfl rfl rfl (fun v17 => ?_)
      refine kk_ob (fun b18 eb18 => ?_)
      subst eb18
      refine kk_cv hG 0 rfl rfl (Nat.le_of_ble_eq_true rfl) (by decide) rfl (st' := []) rfl (cats_le (Nat.le_of_ble_eq_true rfl)) (fun _ hw h k => kk_rcv h.1 (kc_Rr_findLongestOwn base sa hw h.2 k)) (fun sr19 cr19 dr19 => ?_)
      exact kk_wl hG [0, 1, 2] rfl (b101 _ _ _ _)
    exact fun a4 s kc ks hw h => h (fun a4 s kc ks => cW sa R base s → G 61 [(0, va_rf (some p0)), (2, va_rf a2), (4, .int a4)] [] (cM R s) kc ks) (fun a4 s kc ks hs hw => H _ (fun _ _ _ _ hp hw => hp hw) a4 s kc ks hw hs) hw
  refine (show KK sa R base G 0 [(0, va_rf (some p0)), (1, .int p1)] [] s kc ks (C_Rf_oracle sa p0 p1 s kc ks Q) from ?_) hw h
  refine kk_aln hG (x := (some p0)) rfl rfl ?_
  refine kks hG rfl rfl ?_
  refine kk_cx (w := va_rf) hG 0 rfl rfl (Nat.le_of_ble_eq_true rfl) (by decide) rfl (st' := []) rfl (cats_le (Nat.le_of_ble_eq_true rfl)) (fun _ hw h k => kk_rcv h.1 (kc_Rf_routerAt base sa hw h.2 k)) (fun r1 sr1 cr1 dr1 => ?_)
  refine kk_asn hG (x := r1) (L' := [(2, va_rf r1), (0, va_rf (some p0)), (1, .int p1)]) rfl (Nat.le_of_ble_eq_true rfl) rfl ?_
  refine kk_aln hG (x := (some p0)) rfl rfl ?_
  refine kk_gp hG (c := 11) (k := 19) (a := p0) rfl rfl rfl rfl (fun v2 => ?_)
  refine kk_aln hG (x := (some p0)) rfl rfl ?_
  refine kk_gp hG (c := 11) (k := 0) (a := p0) rfl rfl rfl rfl (fun v3 => ?_)
  refine kk_ic hG rfl cc_i0 ?_
  refine kk_aln hG (x := (some p0)) rfl rfl ?_
  refine kk_gp hG (c := 11) (k := 0) (a := p0) rfl rfl rfl rfl (fun v4 => ?_)
  refine kk_ob (fun b5 eb5 => ?_)
  subst eb5
  refine kk_gi hG (c := 0) (k := 1) (a := b5) rfl rfl rfl rfl (fun v6 => ?_)
  refine kk_ob (fun b7 eb7 => ?_)
  subst eb7
  refine kk_cx (w := .int) hG 0 rfl rfl (Nat.le_of_ble_eq_true rfl) (by decide) rfl (st' := []) rfl (cats_le (Nat.le_of_ble_eq_true rfl)) (fun _ hw h k => kk_rcv h.1 (kc_Pr_parseAddress base sa hw h.2 k)) (fun r8 sr8 cr8 dr8 => ?_)
  refine kk_st hG (L' := [(3, .int r8), (2, va_rf r1), (0, va_rf (some p0)), (1, .int p1)]) rfl rfl (Nat.le_of_ble_eq_true rfl) (by cases r1 <;> rfl) ?_
  refine kk_aln hG (x := (some p0)) rfl rfl ?_
  refine kk_gp hG (c := 11) (k := 0) (a := p0) rfl rfl rfl rfl (fun v9 => ?_)
  refine kk_ob (fun b10 eb10 => ?_)
  subst eb10
  refine kk_cv hG 0 rfl rfl (Nat.le_of_ble_eq_true rfl) (by decide) rfl (st' := []) rfl (cats_le (Nat.le_of_ble_eq_true rfl)) (fun _ hw h k => kk_rcv h.1 (kc_By_clear base sa hw h.2 k)) (fun sr11 cr11 dr11 => ?_)
  refine kks hG rfl rfl ?_
  refine kk_zeq hG (t := 48) rfl rfl ?_ ?_
  · refine kk_ic hG rfl cc_im1 ?_
    exact kk_ri hG rfl rfl rfl k
  refine kk_aln hG (x := r1) rfl rfl ?_
  refine kk_nul hG (x := r1) (t := 48) rfl rfl ?_ ?_
  · refine kk_ic hG rfl cc_im1 ?_
    exact kk_ri hG rfl rfl rfl k
  refine kk_aln hG (x := r1) rfl rfl ?_
  refine kk_ob (fun b12 eb12 => ?_)
  subst eb12
  refine kk_gi hG (c := 9) (k := 3) (a := b12) rfl rfl rfl rfl (fun v13 => ?_)
  refine kk_zne hG (t := 50) rfl rfl ?_ ?_
  · refine kk_aln hG (x := (some p0)) rfl rfl ?_
    refine kk_gp hG (c := 11) (k := 18) (a := p0) rfl rfl rfl rfl (fun v14 => ?_)
    refine kk_ic hG rfl cc_im1 ?_
    refine kk_ob (fun b15 eb15 => ?_)
    subst eb15
    refine kk_pi hG (c := 5) (k := 3) (a := b15) rfl rfl rfl rfl (fun s16 => ?_)
    refine kk_ic hG rfl cc_i0 ?_
    refine kk_st hG (L' := [(4, .int (0 : Int32)), (3, .int r8), (2, va_rf (some b12)), (0, va_rf (some p0)), (1, .int p1)]) rfl rfl (Nat.le_of_ble_eq_true rfl) rfl ?_
    exact kk_wl hG [3, 2, 0] rfl (b61 _ _ _ _ _)
  refine kk_ic hG rfl cc_im1 ?_
  exact kk_ri hG rfl rfl rfl k
def C_Rr_longestAlive_b73 (sa : Nat → Nat) (p0 : Nat) (p1 : Option Nat) (a2 : Option Nat) (a3 : Int32) (s : cS) (kc ks : Nat) (Q : (Option Nat → cS → Nat → Nat → Prop)) (P4 : (Option Nat → Int32 → cS → Nat → Nat → Prop)) : Prop := (P4 a2 (a3 + (1 : Int32)) s kc ks)
def C_Rr_longestAlive_b70 (sa : Nat → Nat) (p0 : Nat) (p1 : Option Nat) (a3 : Int32) (a4 : Option Nat) (s : cS) (kc ks : Nat) (Q : (Option Nat → cS → Nat → Nat → Prop)) (P4 : (Option Nat → Int32 → cS → Nat → Nat → Prop)) : Prop := (C_Rr_longestAlive_b73 sa p0 p1 a4 a3 s kc ks Q P4)
def C_Rr_longestAlive_s4 (sa : Nat → Nat) (p0 : Nat) (p1 : Option Nat) (a2 : Option Nat) (a3 : Int32) (s : cS) (kc ks : Nat) (Q : (Option Nat → cS → Nat → Nat → Prop)) (P4 : (Option Nat → Int32 → cS → Nat → Nat → Prop)) : Prop := ob (gP s 9 6 p0) (fun v1 => (ob v1 (fun b2 => (ob (gI s 10 1 b2) (fun v3 => (if a3 < v3 then (ob (gP s 9 6 p0) (fun v4 => (ob v4 (fun b5 => (ob (gP s 10 0 b5) (fun v6 => (ob v6 (fun b7 => (ob (rQ s b7 a3) (fun v8 => (ob v8 (fun b9 => (ob (gI s 8 4 b9) (fun v10 => (if v10 < (16 : Int32) then (ob (gP s 8 0 b9) (fun v11 => (ob v11 (fun b12 => (okO s 5 b12 ∧ C_Pr_covers sa b12 p1 s kc ks (fun r13 sr13 cr13 dr13 => (if r13 = 0 then ((C_Rr_longestAlive_b73 sa p0 p1 a2 a3 sr13 cr13 dr13 Q P4)) else (if a2 = none then ((C_Rr_longestAlive_b70 sa p0 p1 a3 (some b9) sr13 cr13 dr13 Q P4)) else (ob (gP sr13 8 0 b9) (fun v14 => (ob v14 (fun b15 => (ob (gI sr13 5 3 b15) (fun v16 => (ob a2 (fun b17 => (ob (gP sr13 8 0 b17) (fun v18 => (ob v18 (fun b19 => (ob (gI sr13 5 3 b19) (fun v20 => (if v20 < v16 then ((C_Rr_longestAlive_b70 sa p0 p1 a3 (some b9) sr13 cr13 dr13 Q P4)) else ((C_Rr_longestAlive_b73 sa p0 p1 (some b17) a3 sr13 cr13 dr13 Q P4))))))))))))))))))))))))) else ((C_Rr_longestAlive_b73 sa p0 p1 a2 a3 s kc ks Q P4))))))))))))))))) else ((Q a2 s kc ks))))))))
def C_Rr_longestAlive_b4 (sa : Nat → Nat) (p0 : Nat) (p1 : Option Nat) (a2 : Option Nat) (a3 : Int32) (s : cS) (kc ks : Nat) (Q : (Option Nat → cS → Nat → Nat → Prop)) : Prop := ∀ P4 : (Option Nat → Int32 → cS → Nat → Nat → Prop), (∀ (a2 : Option Nat) (a3 : Int32) (s : cS) (kc ks : Nat), C_Rr_longestAlive_s4 sa p0 p1 a2 a3 s kc ks Q P4 → P4 a2 a3 s kc ks) → P4 a2 a3 s kc ks
def C_Rr_longestAlive (sa : Nat → Nat) (p0 : Nat) (p1 : Option Nat) (s : cS) (kc ks : Nat) (Q : (Option Nat → cS → Nat → Nat → Prop)) : Prop := (C_Rr_longestAlive_b4 sa p0 p1 none (0 : Int32) s kc ks Q)
set_option maxRecDepth 100000 in
set_option maxHeartbeats 4000000 in
theorem kc_Rr_longestAlive (base : Nat) (sa : Nat → Nat) {R : pmM} {s : cS} {kc ks : Nat} {Rt : pmR} {p0 : Nat} {p1 : Option Nat} {Q : (Option Nat → cS → Nat → Nat → Prop)} (hw : cW sa R base s) (h : C_Rr_longestAlive sa p0 p1 s kc ks Q) (k : ∀ r s' kc' ks', cW sa R base s' → Q r s' kc' ks' → Rt (some (va_rf r)) (cM R s') kc' ks') : kP_Rr_longestAlive base sa [.ref p0, va_rf p1] (cM R s) kc ks Rt := by
  refine ⟨by cases p1 <;> exact Nat.le_of_ble_eq_true rfl, fun G hG => ?_⟩
  have eL : lv_args 0 [.ref p0, va_rf p1] = [(0, va_rf (some p0)), (1, va_rf p1)] := by cases p1 <;> rfl
  rw [eL]
  have b4 : ∀ (a2 : Option Nat) (a3 : Int32) (s : cS) (kc ks : Nat), KK sa R base G 4 [(0, va_rf (some p0)), (1, va_rf p1), (2, va_rf a2), (3, .int a3)] [] s kc ks (C_Rr_longestAlive_b4 sa p0 p1 a2 a3 s kc ks Q) := by
    have H : ∀ (P4 : (Option Nat → Int32 → cS → Nat → Nat → Prop)) (hP4 : ∀ (a2 : Option Nat) (a3 : Int32) (s : cS) (kc ks : Nat), P4 a2 a3 s kc ks → cW sa R base s → G 4 [(0, va_rf (some p0)), (1, va_rf p1), (2, va_rf a2), (3, .int a3)] [] (cM R s) kc ks) (a2 : Option Nat) (a3 : Int32) (s : cS) (kc ks : Nat), KK sa R base G 4 [(0, va_rf (some p0)), (1, va_rf p1), (2, va_rf a2), (3, .int a3)] [] s kc ks (C_Rr_longestAlive_s4 sa p0 p1 a2 a3 s kc ks Q P4) := by
      intro P4 hP4
      have b73 : ∀ (a2 : Option Nat) (a3 : Int32) (s : cS) (kc ks : Nat), KK sa R base G 73 [(0, va_rf (some p0)), (1, va_rf p1), (2, va_rf a2), (3, .int a3)] [] s kc ks (C_Rr_longestAlive_b73 sa p0 p1 a2 a3 s kc ks Q P4) := by
        intro a2 a3 s kc ks
        refine kk_inc hG (L' := [(3, .int (a3 + (1 : Int32))), (0, va_rf (some p0)), (1, va_rf p1), (2, va_rf a2)]) rfl (Nat.le_of_ble_eq_true rfl) rfl cc_i1 (by cases a2 <;> rfl) ?_
        refine kk_go hG (t := 4) rfl rfl ?_
        exact kk_wl hG [1, 2, 3, 0] rfl (fun hw h => hP4 _ _ _ _ _ h hw)
      have b70 : ∀ (a3 : Int32) (a4 : Option Nat) (s : cS) (kc ks : Nat), KK sa R base G 70 [(0, va_rf (some p0)), (1, va_rf p1), (3, .int a3), (4, va_rf a4)] [] s kc ks (C_Rr_longestAlive_b70 sa p0 p1 a3 a4 s kc ks Q P4) := by
        intro a3 a4 s kc ks
        refine kk_al hG (x := a4) rfl rfl ?_
        refine kk_asn hG (x := a4) (L' := [(2, va_rf a4), (0, va_rf (some p0)), (1, va_rf p1), (3, .int a3), (4, va_rf a4)]) rfl (Nat.le_of_ble_eq_true rfl) (by cases p1 <;> rfl) ?_
        exact kk_wl hG [1, 2, 0, 3] rfl (b73 _ _ _ _ _)
      intro a2 a3 s kc ks
      refine kks hG rfl rfl ?_
      refine kk_aln hG (x := (some p0)) rfl rfl ?_
      refine kk_gp hG (c := 9) (k := 6) (a := p0) rfl rfl rfl rfl (fun v1 => ?_)
      refine kk_ob (fun b2 eb2 => ?_)
      subst eb2
      refine kk_gi hG (c := 10) (k := 1) (a := b2) rfl rfl rfl rfl (fun v3 => ?_)
      refine kk_ige hG (t := 79) rfl rfl ?_ ?_
      · refine kk_aln hG (x := a2) rfl rfl ?_
        exact kk_ra hG (x := a2) rfl rfl rfl k
      refine kk_aln hG (x := (some p0)) rfl rfl ?_
      refine kk_gp hG (c := 9) (k := 6) (a := p0) rfl rfl rfl rfl (fun v4 => ?_)
      refine kk_ob (fun b5 eb5 => ?_)
      subst eb5
      refine kk_gp hG (c := 10) (k := 0) (a := b5) rfl rfl rfl rfl (fun v6 => ?_)
      refine kks hG rfl rfl ?_
      refine kk_ob (fun b7 eb7 => ?_)
      subst eb7
      refine kk_aa hG (a := b7) rfl (fun v8 => ?_)
      refine kk_as hG (x := v8) (L' := [(4, va_rf v8), (0, va_rf (some p0)), (1, va_rf p1), (2, va_rf a2), (3, .int a3)]) rfl (Nat.le_of_ble_eq_true rfl) rfl ?_
      refine kk_al hG (x := v8) rfl rfl ?_
      refine kk_ob (fun b9 eb9 => ?_)
      subst eb9
      refine kk_gi hG (c := 8) (k := 4) (a := b9) rfl rfl rfl rfl (fun v10 => ?_)
      refine kk_bi hG rfl cc_b16 ?_
      refine kk_ige hG (t := 73) rfl rfl ?_ ?_
      · exact kk_wl hG [1, 2, 3, 4] rfl (b73 _ _ _ _ _)
      refine kk_al hG (x := (some b9)) rfl rfl ?_
      refine kk_gp hG (c := 8) (k := 0) (a := b9) rfl rfl rfl rfl (fun v11 => ?_)
      refine kk_aln hG (x := p1) rfl rfl ?_
      refine kk_ob (fun b12 eb12 => ?_)
      subst eb12
      refine kk_cx (w := .int) hG 0 rfl rfl (Nat.le_of_ble_eq_true rfl) (by decide) rfl (st' := []) rfl (cats_le (Nat.le_of_ble_eq_true rfl)) (fun _ hw h k => kk_rcv h.1 (kc_Pr_covers base sa hw h.2 k)) (fun r13 sr13 cr13 dr13 => ?_)
      refine kk_zeq hG (t := 73) rfl rfl ?_ ?_
      · exact kk_wl hG [1, 2, 3, 4] rfl (b73 _ _ _ _ _)
      refine kk_aln hG (x := a2) rfl rfl ?_
      refine kk_nul hG (x := a2) (t := 70) rfl rfl ?_ ?_
      · exact kk_wl hG [1, 2, 4, 0] rfl (b70 _ _ _ _ _)
      refine kk_al hG (x := (some b9)) rfl rfl ?_
      refine kk_gp hG (c := 8) (k := 0) (a := b9) rfl rfl rfl rfl (fun v14 => ?_)
      refine kk_ob (fun b15 eb15 => ?_)
      subst eb15
      refine kk_gi hG (c := 5) (k := 3) (a := b15) rfl rfl rfl rfl (fun v16 => ?_)
      refine kk_aln hG (x := a2) rfl rfl ?_
      refine kk_ob (fun b17 eb17 => ?_)
      subst eb17
      refine kk_gp hG (c := 8) (k := 0) (a := b17) rfl rfl rfl rfl (fun v18 => ?_)
      refine kk_ob (fun b19 eb19 => ?_)
      subst eb19
      refine kk_gi hG (c := 5) (k := 3) (a := b19) rfl rfl rfl rfl (fun v20 => ?_)
      refine kk_ile hG (t := 73) rfl rfl ?_ ?_
      · exact kk_wl hG [1, 2, 3, 4] rfl (b73 _ _ _ _ _)
      exact kk_wl hG [1, 2, 4, 0] rfl (b70 _ _ _ _ _)
    exact fun a2 a3 s kc ks hw h => h (fun a2 a3 s kc ks => cW sa R base s → G 4 [(0, va_rf (some p0)), (1, va_rf p1), (2, va_rf a2), (3, .int a3)] [] (cM R s) kc ks) (fun a2 a3 s kc ks hs hw => H _ (fun _ _ _ _ _ hp hw => hp hw) a2 a3 s kc ks hw hs) hw
  refine (show KK sa R base G 0 [(0, va_rf (some p0)), (1, va_rf p1)] [] s kc ks (C_Rr_longestAlive sa p0 p1 s kc ks Q) from ?_) hw h
  refine kks hG rfl rfl ?_
  refine kk_asn hG (x := none) (L' := [(2, va_rf none), (0, va_rf (some p0)), (1, va_rf p1)]) rfl (Nat.le_of_ble_eq_true rfl) (by cases p1 <;> rfl) ?_
  refine kk_ic hG rfl cc_i0 ?_
  refine kk_st hG (L' := [(3, .int (0 : Int32)), (2, va_rf none), (0, va_rf (some p0)), (1, va_rf p1)]) rfl rfl (Nat.le_of_ble_eq_true rfl) rfl ?_
  exact kk_wl hG [2, 3, 1, 0] rfl (b4 _ _ _ _ _)
def C_Rf_way_b54 (sa : Nat → Nat) (p0 : Nat) (a4 : Option Nat) (s : cS) (kc ks : Nat) (Q : (Int32 → cS → Nat → Nat → Prop)) : Prop := if a4 = none then (Q ((-1) : Int32) s kc ks) else (ob (gP s 11 1 p0) (fun v1 => (ob v1 (fun b2 => (okO s 0 b2 ∧ C_By_clear sa b2 s kc ks (fun sr3 cr3 dr3 => (okO sr3 11 p0 ∧ C_Rf_writeRoute sa p0 a4 sr3 cr3 dr3 (fun sr4 cr4 dr4 => (ob (gP sr4 11 1 p0) (fun v5 => (ob v5 (fun b6 => (ob (gI sr4 0 1 b6) (fun v7 => (Q v7 sr4 cr4 dr4)))))))))))))))
def C_Rf_way (sa : Nat → Nat) (p0 : Nat) (p1 : Int32) (s : cS) (kc ks : Nat) (Q : (Int32 → cS → Nat → Nat → Prop)) : Prop := okO s 11 p0 ∧ C_Rf_routerAt sa p0 p1 s kc ks (fun r1 sr1 cr1 dr1 => (ob (gP sr1 11 19 p0) (fun v2 => (ob (gP sr1 11 0 p0) (fun v3 => (ob (gP sr1 11 0 p0) (fun v4 => (ob v4 (fun b5 => (ob (gI sr1 0 1 b5) (fun v6 => (ob v2 (fun b7 => (okO sr1 5 b7 ∧ C_Pr_parseAddress sa b7 v3 (0 : Int32) v6 sr1 cr1 dr1 (fun r8 sr8 cr8 dr8 => (ob (gP sr8 11 0 p0) (fun v9 => (ob v9 (fun b10 => (okO sr8 0 b10 ∧ C_By_clear sa b10 sr8 cr8 dr8 (fun sr11 cr11 dr11 => (if r8 = 0 then ((C_Rf_way_b54 sa p0 none sr11 cr11 dr11 Q)) else (if r1 = none then ((C_Rf_way_b54 sa p0 none sr11 cr11 dr11 Q)) else (ob (gP sr11 11 19 p0) (fun v12 => (ob r1 (fun b13 => (okO sr11 9 b13 ∧ C_Rr_longestAlive sa b13 v12 sr11 cr11 dr11 (fun r14 sr14 cr14 dr14 => ((C_Rf_way_b54 sa p0 r14 sr14 cr14 dr14 Q)))))))))))))))))))))))))))))))
set_option maxRecDepth 100000 in
set_option maxHeartbeats 4000000 in
theorem kc_Rf_way (base : Nat) (sa : Nat → Nat) {R : pmM} {s : cS} {kc ks : Nat} {Rt : pmR} {p0 : Nat} {p1 : Int32} {Q : (Int32 → cS → Nat → Nat → Prop)} (hw : cW sa R base s) (h : C_Rf_way sa p0 p1 s kc ks Q) (k : ∀ r s' kc' ks', cW sa R base s' → Q r s' kc' ks' → Rt (some (.int r)) (cM R s') kc' ks') : kP_Rf_way base sa [.ref p0, .int p1] (cM R s) kc ks Rt := by
  refine ⟨Nat.le_of_ble_eq_true rfl, fun G hG => ?_⟩
  have b54 : ∀ (a4 : Option Nat) (s : cS) (kc ks : Nat), KK sa R base G 54 [(0, va_rf (some p0)), (4, va_rf a4)] [] s kc ks (C_Rf_way_b54 sa p0 a4 s kc ks Q) := by
    intro a4 s kc ks
    refine kk_al hG (x := a4) rfl rfl ?_
    refine kk_nnl hG (x := a4) (t := 61) rfl rfl ?_ ?_
    · refine kk_aln hG (x := (some p0)) rfl rfl ?_
      refine kk_gp hG (c := 11) (k := 1) (a := p0) rfl rfl rfl rfl (fun v1 => ?_)
      refine kk_ob (fun b2 eb2 => ?_)
      subst eb2
      refine kk_cv hG 0 rfl rfl (Nat.le_of_ble_eq_true rfl) (by decide) rfl (st' := []) rfl (cats_le (Nat.le_of_ble_eq_true rfl)) (fun _ hw h k => kk_rcv h.1 (kc_By_clear base sa hw h.2 k)) (fun sr3 cr3 dr3 => ?_)
      refine kk_aln hG (x := (some p0)) rfl rfl ?_
      refine kk_al hG (x := a4) rfl rfl ?_
      refine kk_cv hG 0 rfl rfl (Nat.le_of_ble_eq_true rfl) (by decide) rfl (st' := []) rfl (cats_le (Nat.le_of_ble_eq_true rfl)) (fun _ hw h k => kk_rcv h.1 (kc_Rf_writeRoute base sa hw h.2 k)) (fun sr4 cr4 dr4 => ?_)
      refine kk_aln hG (x := (some p0)) rfl rfl ?_
      refine kk_gp hG (c := 11) (k := 1) (a := p0) rfl rfl rfl rfl (fun v5 => ?_)
      refine kk_ob (fun b6 eb6 => ?_)
      subst eb6
      refine kk_gi hG (c := 0) (k := 1) (a := b6) rfl rfl rfl rfl (fun v7 => ?_)
      exact kk_ri hG rfl rfl rfl k
    refine kk_ic hG rfl cc_im1 ?_
    exact kk_ri hG rfl rfl rfl k
  refine (show KK sa R base G 0 [(0, va_rf (some p0)), (1, .int p1)] [] s kc ks (C_Rf_way sa p0 p1 s kc ks Q) from ?_) hw h
  refine kk_aln hG (x := (some p0)) rfl rfl ?_
  refine kks hG rfl rfl ?_
  refine kk_cx (w := va_rf) hG 0 rfl rfl (Nat.le_of_ble_eq_true rfl) (by decide) rfl (st' := []) rfl (cats_le (Nat.le_of_ble_eq_true rfl)) (fun _ hw h k => kk_rcv h.1 (kc_Rf_routerAt base sa hw h.2 k)) (fun r1 sr1 cr1 dr1 => ?_)
  refine kk_asn hG (x := r1) (L' := [(2, va_rf r1), (0, va_rf (some p0)), (1, .int p1)]) rfl (Nat.le_of_ble_eq_true rfl) rfl ?_
  refine kk_aln hG (x := (some p0)) rfl rfl ?_
  refine kk_gp hG (c := 11) (k := 19) (a := p0) rfl rfl rfl rfl (fun v2 => ?_)
  refine kk_aln hG (x := (some p0)) rfl rfl ?_
  refine kk_gp hG (c := 11) (k := 0) (a := p0) rfl rfl rfl rfl (fun v3 => ?_)
  refine kk_ic hG rfl cc_i0 ?_
  refine kk_aln hG (x := (some p0)) rfl rfl ?_
  refine kk_gp hG (c := 11) (k := 0) (a := p0) rfl rfl rfl rfl (fun v4 => ?_)
  refine kk_ob (fun b5 eb5 => ?_)
  subst eb5
  refine kk_gi hG (c := 0) (k := 1) (a := b5) rfl rfl rfl rfl (fun v6 => ?_)
  refine kk_ob (fun b7 eb7 => ?_)
  subst eb7
  refine kk_cx (w := .int) hG 0 rfl rfl (Nat.le_of_ble_eq_true rfl) (by decide) rfl (st' := []) rfl (cats_le (Nat.le_of_ble_eq_true rfl)) (fun _ hw h k => kk_rcv h.1 (kc_Pr_parseAddress base sa hw h.2 k)) (fun r8 sr8 cr8 dr8 => ?_)
  refine kk_st hG (L' := [(3, .int r8), (2, va_rf r1), (0, va_rf (some p0)), (1, .int p1)]) rfl rfl (Nat.le_of_ble_eq_true rfl) (by cases r1 <;> rfl) ?_
  refine kk_aln hG (x := (some p0)) rfl rfl ?_
  refine kk_gp hG (c := 11) (k := 0) (a := p0) rfl rfl rfl rfl (fun v9 => ?_)
  refine kk_ob (fun b10 eb10 => ?_)
  subst eb10
  refine kk_cv hG 0 rfl rfl (Nat.le_of_ble_eq_true rfl) (by decide) rfl (st' := []) rfl (cats_le (Nat.le_of_ble_eq_true rfl)) (fun _ hw h k => kk_rcv h.1 (kc_By_clear base sa hw h.2 k)) (fun sr11 cr11 dr11 => ?_)
  refine kks hG rfl rfl ?_
  refine kk_as hG (x := none) (L' := [(4, va_rf none), (3, .int r8), (2, va_rf r1), (0, va_rf (some p0)), (1, .int p1)]) rfl (Nat.le_of_ble_eq_true rfl) rfl ?_
  refine kks hG rfl rfl ?_
  refine kk_zeq hG (t := 54) rfl rfl ?_ ?_
  · exact kk_wl hG [3, 0] rfl (b54 _ _ _ _)
  refine kk_aln hG (x := r1) rfl rfl ?_
  refine kk_nul hG (x := r1) (t := 54) rfl rfl ?_ ?_
  · exact kk_wl hG [3, 0] rfl (b54 _ _ _ _)
  refine kk_aln hG (x := r1) rfl rfl ?_
  refine kk_aln hG (x := (some p0)) rfl rfl ?_
  refine kk_gp hG (c := 11) (k := 19) (a := p0) rfl rfl rfl rfl (fun v12 => ?_)
  refine kk_ob (fun b13 eb13 => ?_)
  subst eb13
  refine kk_cx (w := va_rf) hG 0 rfl rfl (Nat.le_of_ble_eq_true rfl) (by decide) rfl (st' := []) rfl (cats_le (Nat.le_of_ble_eq_true rfl)) (fun _ hw h k => kk_rcv h.1 (kc_Rr_longestAlive base sa hw h.2 k)) (fun r14 sr14 cr14 dr14 => ?_)
  refine kk_as hG (x := r14) (L' := [(4, va_rf r14), (3, .int r8), (2, va_rf (some b13)), (0, va_rf (some p0)), (1, .int p1)]) rfl (Nat.le_of_ble_eq_true rfl) rfl ?_
  exact kk_wl hG [3, 0] rfl (b54 _ _ _ _)
def C_Rf_seen (sa : Nat → Nat) (p0 : Nat) (p1 : Int32) (s : cS) (kc ks : Nat) (Q : (Int32 → cS → Nat → Nat → Prop)) : Prop := okO s 11 p0 ∧ C_Rf_linkAt sa p0 p1 s kc ks (fun r1 sr1 cr1 dr1 => (if r1 = none then (Q ((-1) : Int32) sr1 cr1 dr1) else (ob (gP sr1 11 1 p0) (fun v2 => (ob v2 (fun b3 => (okO sr1 0 b3 ∧ C_By_clear sa b3 sr1 cr1 dr1 (fun sr4 cr4 dr4 => (ob (gP sr4 11 1 p0) (fun v5 => (ob r1 (fun b6 => (ob (gP sr4 3 7 b6) (fun v7 => (ob (gP sr4 3 7 b6) (fun v8 => (ob v8 (fun b9 => (ob (gI sr4 0 1 b9) (fun v10 => (ob v5 (fun b11 => (okO sr4 0 b11 ∧ C_By_addPart sa b11 v7 (0 : Int32) v10 sr4 cr4 dr4 (fun sr12 cr12 dr12 => (ob (gP sr12 11 1 p0) (fun v13 => (ob v13 (fun b14 => (ob (gI sr12 0 1 b14) (fun v15 => (Q v15 sr12 cr12 dr12)))))))))))))))))))))))))))))))
set_option maxRecDepth 100000 in
set_option maxHeartbeats 4000000 in
theorem kc_Rf_seen (base : Nat) (sa : Nat → Nat) {R : pmM} {s : cS} {kc ks : Nat} {Rt : pmR} {p0 : Nat} {p1 : Int32} {Q : (Int32 → cS → Nat → Nat → Prop)} (hw : cW sa R base s) (h : C_Rf_seen sa p0 p1 s kc ks Q) (k : ∀ r s' kc' ks', cW sa R base s' → Q r s' kc' ks' → Rt (some (.int r)) (cM R s') kc' ks') : kP_Rf_seen base sa [.ref p0, .int p1] (cM R s) kc ks Rt := by
  refine ⟨Nat.le_of_ble_eq_true rfl, fun G hG => ?_⟩
  refine (show KK sa R base G 0 [(0, va_rf (some p0)), (1, .int p1)] [] s kc ks (C_Rf_seen sa p0 p1 s kc ks Q) from ?_) hw h
  refine kk_aln hG (x := (some p0)) rfl rfl ?_
  refine kks hG rfl rfl ?_
  refine kk_cx (w := va_rf) hG 0 rfl rfl (Nat.le_of_ble_eq_true rfl) (by decide) rfl (st' := []) rfl (cats_le (Nat.le_of_ble_eq_true rfl)) (fun _ hw h k => kk_rcv h.1 (kc_Rf_linkAt base sa hw h.2 k)) (fun r1 sr1 cr1 dr1 => ?_)
  refine kk_asn hG (x := r1) (L' := [(2, va_rf r1), (0, va_rf (some p0)), (1, .int p1)]) rfl (Nat.le_of_ble_eq_true rfl) rfl ?_
  refine kk_aln hG (x := r1) rfl rfl ?_
  refine kk_nnl hG (x := r1) (t := 12) rfl rfl ?_ ?_
  · refine kk_aln hG (x := (some p0)) rfl rfl ?_
    refine kk_gp hG (c := 11) (k := 1) (a := p0) rfl rfl rfl rfl (fun v2 => ?_)
    refine kk_ob (fun b3 eb3 => ?_)
    subst eb3
    refine kk_cv hG 0 rfl rfl (Nat.le_of_ble_eq_true rfl) (by decide) rfl (st' := []) rfl (cats_le (Nat.le_of_ble_eq_true rfl)) (fun _ hw h k => kk_rcv h.1 (kc_By_clear base sa hw h.2 k)) (fun sr4 cr4 dr4 => ?_)
    refine kk_aln hG (x := (some p0)) rfl rfl ?_
    refine kk_gp hG (c := 11) (k := 1) (a := p0) rfl rfl rfl rfl (fun v5 => ?_)
    refine kk_aln hG (x := r1) rfl rfl ?_
    refine kk_ob (fun b6 eb6 => ?_)
    subst eb6
    refine kk_gp hG (c := 3) (k := 7) (a := b6) rfl rfl rfl rfl (fun v7 => ?_)
    refine kk_ic hG rfl cc_i0 ?_
    refine kk_aln hG (x := (some b6)) rfl rfl ?_
    refine kk_gp hG (c := 3) (k := 7) (a := b6) rfl rfl rfl rfl (fun v8 => ?_)
    refine kk_ob (fun b9 eb9 => ?_)
    subst eb9
    refine kk_gi hG (c := 0) (k := 1) (a := b9) rfl rfl rfl rfl (fun v10 => ?_)
    refine kk_ob (fun b11 eb11 => ?_)
    subst eb11
    refine kk_cv hG 0 rfl rfl (Nat.le_of_ble_eq_true rfl) (by decide) rfl (st' := []) rfl (cats_le (Nat.le_of_ble_eq_true rfl)) (fun _ hw h k => kk_rcv h.1 (kc_By_addPart base sa hw h.2 k)) (fun sr12 cr12 dr12 => ?_)
    refine kk_aln hG (x := (some p0)) rfl rfl ?_
    refine kk_gp hG (c := 11) (k := 1) (a := p0) rfl rfl rfl rfl (fun v13 => ?_)
    refine kk_ob (fun b14 eb14 => ?_)
    subst eb14
    refine kk_gi hG (c := 0) (k := 1) (a := b14) rfl rfl rfl rfl (fun v15 => ?_)
    exact kk_ri hG rfl rfl rfl k
  refine kk_ic hG rfl cc_im1 ?_
  exact kk_ri hG rfl rfl rfl k
