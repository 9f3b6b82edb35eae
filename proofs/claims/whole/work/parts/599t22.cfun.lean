/-! Methods as weakest preconditions, by program: Re_takePrefix .. Re_hasJoinOptions -/
def C_Re_takePrefix_b49 (sa : Nat → Nat) (p0 : Nat) (p1 : Int32) (p2 : Int32) (a3 : Int32) (s : cS) (kc ks : Nat) (Q : (Int32 → cS → Nat → Nat → Prop)) : Prop := ob (gP s 7 6 p0) (fun v1 => (ob (gP s 7 0 p0) (fun v2 => (ob v2 (fun b3 => (ob (gP s 11 0 b3) (fun v4 => (ob (gP s 7 1 p0) (fun v5 => (ob v5 (fun b6 => (ob (rE s .int b6 p1) (fun v7 => (ob v1 (fun b8 => (okO s 5 b8 ∧ C_Pr_parseAddress sa b8 v4 v7 a3 s kc ks (fun r9 sr9 cr9 dr9 => (if r9 = 0 then (Q (0 : Int32) sr9 cr9 dr9) else (ob (gP sr9 7 6 p0) (fun v10 => (ob (gP sr9 7 0 p0) (fun v11 => (ob v11 (fun b12 => (ob (gP sr9 11 0 b12) (fun v13 => (ob (gP sr9 7 2 p0) (fun v14 => (ob v14 (fun b15 => (ob (rE sr9 .int b15 p1) (fun v16 => (ob v10 (fun b17 => (okO sr9 5 b17 ∧ C_Pr_parseLength sa b17 v13 (a3 + (1 : Int32)) v16 sr9 cr9 dr9 (fun r18 sr18 cr18 dr18 => (if r18 = 0 then (Q (0 : Int32) sr18 cr18 dr18) else (if p2 = 0 then (ob (gP sr18 7 6 p0) (fun v19 => (ob v19 (fun b20 => (okO sr18 5 b20 ∧ C_Pr_hasBitsBehind sa b20 sr18 cr18 dr18 (fun r21 sr21 cr21 dr21 => (if r21 = 0 then (Q (1 : Int32) sr21 cr21 dr21) else (Q (0 : Int32) sr21 cr21 dr21)))))))) else (Q (1 : Int32) sr18 cr18 dr18)))))))))))))))))))))))))))))))))))))))
def C_Re_takePrefix_s17 (sa : Nat → Nat) (p0 : Nat) (p1 : Int32) (p2 : Int32) (a3 : Int32) (s : cS) (kc ks : Nat) (Q : (Int32 → cS → Nat → Nat → Prop)) (P17 : (Int32 → cS → Nat → Nat → Prop)) : Prop := ob (gP s 7 2 p0) (fun v1 => (ob v1 (fun b2 => (ob (rE s .int b2 p1) (fun v3 => (if a3 < v3 then (ob (gP s 7 0 p0) (fun v4 => (ob v4 (fun b5 => (ob (gP s 11 0 b5) (fun v6 => (ob v6 (fun b7 => (okO s 0 b7 ∧ C_By_at sa b7 a3 s kc ks (fun r8 sr8 cr8 dr8 => (if r8 = (47 : Int32) then ((C_Re_takePrefix_b49 sa p0 p1 p2 a3 sr8 cr8 dr8 Q)) else ((P17 (a3 + (1 : Int32)) sr8 cr8 dr8))))))))))))) else ((C_Re_takePrefix_b49 sa p0 p1 p2 a3 s kc ks Q))))))))
def C_Re_takePrefix_b17 (sa : Nat → Nat) (p0 : Nat) (p1 : Int32) (p2 : Int32) (a3 : Int32) (s : cS) (kc ks : Nat) (Q : (Int32 → cS → Nat → Nat → Prop)) : Prop := ∀ P17 : (Int32 → cS → Nat → Nat → Prop), (∀ (a3 : Int32) (s : cS) (kc ks : Nat), C_Re_takePrefix_s17 sa p0 p1 p2 a3 s kc ks Q P17 → P17 a3 s kc ks) → P17 a3 s kc ks
def C_Re_takePrefix (sa : Nat → Nat) (p0 : Nat) (p1 : Int32) (p2 : Int32) (s : cS) (kc ks : Nat) (Q : (Int32 → cS → Nat → Nat → Prop)) : Prop := okO s 7 p0 ∧ C_Re_isWord sa p0 p1 s kc ks (fun r1 sr1 cr1 dr1 => (if r1 = 0 then (Q (0 : Int32) sr1 cr1 dr1) else (ob (gP sr1 7 1 p0) (fun v2 => (ob v2 (fun b3 => (ob (rE sr1 .int b3 p1) (fun v4 => ((C_Re_takePrefix_b17 sa p0 p1 p2 v4 sr1 cr1 dr1 Q))))))))))
set_option maxRecDepth 100000 in
set_option maxHeartbeats 4000000 in
theorem kc_Re_takePrefix (base : Nat) (sa : Nat → Nat) {R : pmM} {s : cS} {kc ks : Nat} {Rt : pmR} {p0 : Nat} {p1 : Int32} {p2 : Int32} {Q : (Int32 → cS → Nat → Nat → Prop)} (hw : cW sa R base s) (h : C_Re_takePrefix sa p0 p1 p2 s kc ks Q) (k : ∀ r s' kc' ks', cW sa R base s' → Q r s' kc' ks' → Rt (some (.int r)) (cM R s') kc' ks') : kP_Re_takePrefix base sa [.ref p0, .int p1, .int p2] (cM R s) kc ks Rt := by
  refine ⟨Nat.le_of_ble_eq_true rfl, fun G hG => ?_⟩
  have b49 : ∀ (a3 : Int32) (s : cS) (kc ks : Nat), KK sa R base G 49 [(0, va_rf (some p0)), (1, .int p1), (2, .int p2), (3, .int a3)] [] s kc ks (C_Re_takePrefix_b49 sa p0 p1 p2 a3 s kc ks Q) := by
    intro a3 s kc ks
    refine kk_aln hG (x := (some p0)) rfl rfl ?_
    refine kk_gp hG (c := 7) (k := 6) (a := p0) rfl rfl rfl rfl (fun v1 => ?_)
    refine kk_aln hG (x := (some p0)) rfl rfl ?_
    refine kk_gp hG (c := 7) (k := 0) (a := p0) rfl rfl rfl rfl (fun v2 => ?_)
    refine kk_ob (fun b3 eb3 => ?_)
    subst eb3
    refine kk_gp hG (c := 11) (k := 0) (a := b3) rfl rfl rfl rfl (fun v4 => ?_)
    refine kk_aln hG (x := (some p0)) rfl rfl ?_
    refine kk_gp hG (c := 7) (k := 1) (a := p0) rfl rfl rfl rfl (fun v5 => ?_)
    refine kks hG rfl rfl ?_
    refine kk_ob (fun b6 eb6 => ?_)
    subst eb6
    refine kk_ia hG (a := b6) rfl (fun v7 => ?_)
    refine kks hG rfl rfl ?_
    refine kk_ob (fun b8 eb8 => ?_)
    subst eb8
    refine kk_cx (w := .int) hG 0 rfl rfl (Nat.le_of_ble_eq_true rfl) (by decide) rfl (st' := []) rfl (cats_le (Nat.le_of_ble_eq_true rfl)) (fun _ hw h k => kk_rcv h.1 (kc_Pr_parseAddress base sa hw h.2 k)) (fun r9 sr9 cr9 dr9 => ?_)
    refine kk_zeq hG (t := 117) rfl rfl ?_ ?_
    · refine kk_ic hG rfl cc_i0 ?_
      exact kk_ri hG rfl rfl rfl k
    refine kk_aln hG (x := (some p0)) rfl rfl ?_
    refine kk_gp hG (c := 7) (k := 6) (a := p0) rfl rfl rfl rfl (fun v10 => ?_)
    refine kk_aln hG (x := (some p0)) rfl rfl ?_
    refine kk_gp hG (c := 7) (k := 0) (a := p0) rfl rfl rfl rfl (fun v11 => ?_)
    refine kk_ob (fun b12 eb12 => ?_)
    subst eb12
    refine kk_gp hG (c := 11) (k := 0) (a := b12) rfl rfl rfl rfl (fun v13 => ?_)
    refine kks hG rfl rfl ?_
    refine kk_ic hG rfl cc_i1 ?_
    refine kks hG rfl rfl ?_
    refine kk_aln hG (x := (some p0)) rfl rfl ?_
    refine kk_gp hG (c := 7) (k := 2) (a := p0) rfl rfl rfl rfl (fun v14 => ?_)
    refine kks hG rfl rfl ?_
    refine kk_ob (fun b15 eb15 => ?_)
    subst eb15
    refine kk_ia hG (a := b15) rfl (fun v16 => ?_)
    refine kk_ob (fun b17 eb17 => ?_)
    subst eb17
    refine kk_cx (w := .int) hG 0 rfl rfl (Nat.le_of_ble_eq_true rfl) (by decide) rfl (st' := []) rfl (cats_le (Nat.le_of_ble_eq_true rfl)) (fun _ hw h k => kk_rcv h.1 (kc_Pr_parseLength base sa hw h.2 k)) (fun r18 sr18 cr18 dr18 => ?_)
    refine kk_zeq hG (t := 117) rfl rfl ?_ ?_
    · refine kk_ic hG rfl cc_i0 ?_
      exact kk_ri hG rfl rfl rfl k
    refine kks hG rfl rfl ?_
    refine kk_zne hG (t := 113) rfl rfl ?_ ?_
    · refine kk_ic hG rfl cc_i1 ?_
      refine kk_go hG (t := 118) rfl rfl ?_
      exact kk_ri hG rfl rfl rfl k
    refine kk_aln hG (x := (some p0)) rfl rfl ?_
    refine kk_gp hG (c := 7) (k := 6) (a := p0) rfl rfl rfl rfl (fun v19 => ?_)
    refine kk_ob (fun b20 eb20 => ?_)
    subst eb20
    refine kk_cx (w := .int) hG 0 rfl rfl (Nat.le_of_ble_eq_true rfl) (by decide) rfl (st' := []) rfl (cats_le (Nat.le_of_ble_eq_true rfl)) (fun _ hw h k => kk_rcv h.1 (kc_Pr_hasBitsBehind base sa hw h.2 k)) (fun r21 sr21 cr21 dr21 => ?_)
    refine kk_zne hG (t := 117) rfl rfl ?_ ?_
    · refine kk_ic hG rfl cc_i0 ?_
      exact kk_ri hG rfl rfl rfl k
    refine kk_ic hG rfl cc_i1 ?_
    refine kk_go hG (t := 118) rfl rfl ?_
    exact kk_ri hG rfl rfl rfl k
  have b17 : ∀ (a3 : Int32) (s : cS) (kc ks : Nat), KK sa R base G 17 [(0, va_rf (some p0)), (1, .int p1), (2, .int p2), (3, .int a3)] [] s kc ks (C_Re_takePrefix_b17 sa p0 p1 p2 a3 s kc ks Q) := by
    have H : ∀ (P17 : (Int32 → cS → Nat → Nat → Prop)) (hP17 : ∀ (a3 : Int32) (s : cS) (kc ks : Nat), P17 a3 s kc ks → cW sa R base s → G 17 [(0, va_rf (some p0)), (1, .int p1), (2, .int p2), (3, .int a3)] [] (cM R s) kc ks) (a3 : Int32) (s : cS) (kc ks : Nat), KK sa R base G 17 [(0, va_rf (some p0)), (1, .int p1), (2, .int p2), (3, .int a3)] [] s kc ks (C_Re_takePrefix_s17 sa p0 p1 p2 a3 s kc ks Q P17) := by
      intro P17 hP17
      intro a3 s kc ks
      refine kks hG rfl rfl ?_
      refine kk_aln hG (x := (some p0)) rfl rfl ?_
      refine kk_gp hG (c := 7) (k := 2) (a := p0) rfl rfl rfl rfl (fun v1 => ?_)
      refine kks hG rfl rfl ?_
      refine kk_ob (fun b2 eb2 => ?_)
      subst eb2
      refine kk_ia hG (a := b2) rfl (fun v3 => ?_)
      refine kk_ige hG (t := 49) rfl rfl ?_ ?_
      · exact kk_wl hG [0, 1, 2, 3] rfl (b49 _ _ _ _)
      refine kk_aln hG (x := (some p0)) rfl rfl ?_
      refine kk_gp hG (c := 7) (k := 0) (a := p0) rfl rfl rfl rfl (fun v4 => ?_)
      refine kk_ob (fun b5 eb5 => ?_)
      subst eb5
      refine kk_gp hG (c := 11) (k := 0) (a := b5) rfl rfl rfl rfl (fun v6 => ?_)
      refine kks hG rfl rfl ?_
      refine kk_ob (fun b7 eb7 => ?_)
      subst eb7
      refine kk_cx (w := .int) hG 0 rfl rfl (Nat.le_of_ble_eq_true rfl) (by decide) rfl (st' := []) rfl (cats_le (Nat.le_of_ble_eq_true rfl)) (fun _ hw h k => kk_rcv h.1 (kc_By_at base sa hw h.2 k)) (fun r8 sr8 cr8 dr8 => ?_)
      refine kk_bi hG rfl cc_b47 ?_
      refine kk_ieq hG (t := 49) rfl rfl ?_ ?_
      · exact kk_wl hG [0, 1, 2, 3] rfl (b49 _ _ _ _)
      refine kk_inc hG (L' := [(3, .int (a3 + (1 : Int32))), (0, va_rf (some p0)), (1, .int p1), (2, .int p2)]) rfl (Nat.le_of_ble_eq_true rfl) rfl cc_i1 rfl ?_
      refine kk_go hG (t := 17) rfl rfl ?_
      exact kk_wl hG [1, 2, 3, 0] rfl (fun hw h => hP17 _ _ _ _ h hw)
    exact fun a3 s kc ks hw h => h (fun a3 s kc ks => cW sa R base s → G 17 [(0, va_rf (some p0)), (1, .int p1), (2, .int p2), (3, .int a3)] [] (cM R s) kc ks) (fun a3 s kc ks hs hw => H _ (fun _ _ _ _ hp hw => hp hw) a3 s kc ks hw hs) hw
  refine (show KK sa R base G 0 [(0, va_rf (some p0)), (1, .int p1), (2, .int p2)] [] s kc ks (C_Re_takePrefix sa p0 p1 p2 s kc ks Q) from ?_) hw h
  refine kk_aln hG (x := (some p0)) rfl rfl ?_
  refine kks hG rfl rfl ?_
  refine kk_cx (w := .int) hG 0 rfl rfl (Nat.le_of_ble_eq_true rfl) (by decide) rfl (st' := []) rfl (cats_le (Nat.le_of_ble_eq_true rfl)) (fun _ hw h k => kk_rcv h.1 (kc_Re_isWord base sa hw h.2 k)) (fun r1 sr1 cr1 dr1 => ?_)
  refine kk_zne hG (t := 10) rfl rfl ?_ ?_
  · refine kk_aln hG (x := (some p0)) rfl rfl ?_
    refine kk_gp hG (c := 7) (k := 1) (a := p0) rfl rfl rfl rfl (fun v2 => ?_)
    refine kks hG rfl rfl ?_
    refine kk_ob (fun b3 eb3 => ?_)
    subst eb3
    refine kk_ia hG (a := b3) rfl (fun v4 => ?_)
    refine kk_st hG (L' := [(3, .int v4), (0, va_rf (some p0)), (1, .int p1), (2, .int p2)]) rfl rfl (Nat.le_of_ble_eq_true rfl) rfl ?_
    exact kk_wl hG [1, 2, 3, 0] rfl (b17 _ _ _ _)
  refine kk_ic hG rfl cc_i0 ?_
  exact kk_ri hG rfl rfl rfl k
def C_Re_linkNamed_s2 (sa : Nat → Nat) (p0 : Nat) (p1 : Int32) (a2 : Int32) (s : cS) (kc ks : Nat) (Q : (Int32 → cS → Nat → Nat → Prop)) (P2 : (Int32 → cS → Nat → Nat → Prop)) : Prop := ob (gP s 7 0 p0) (fun v1 => (ob v1 (fun b2 => (ob (gI s 11 7 b2) (fun v3 => (if a2 < v3 then (ob (gP s 7 0 p0) (fun v4 => (ob v4 (fun b5 => (ob (gP s 11 6 b5) (fun v6 => (ob v6 (fun b7 => (ob (rQ s b7 a2) (fun v8 => (ob v8 (fun b9 => (ob (gP s 3 0 b9) (fun v10 => (okO s 7 p0 ∧ C_Re_is sa p0 p1 v10 s kc ks (fun r11 sr11 cr11 dr11 => (if r11 = 0 then ((P2 (a2 + (1 : Int32)) sr11 cr11 dr11)) else ((Q a2 sr11 cr11 dr11))))))))))))))))))) else ((Q ((-1) : Int32) s kc ks))))))))
def C_Re_linkNamed_b2 (sa : Nat → Nat) (p0 : Nat) (p1 : Int32) (a2 : Int32) (s : cS) (kc ks : Nat) (Q : (Int32 → cS → Nat → Nat → Prop)) : Prop := ∀ P2 : (Int32 → cS → Nat → Nat → Prop), (∀ (a2 : Int32) (s : cS) (kc ks : Nat), C_Re_linkNamed_s2 sa p0 p1 a2 s kc ks Q P2 → P2 a2 s kc ks) → P2 a2 s kc ks
def C_Re_linkNamed (sa : Nat → Nat) (p0 : Nat) (p1 : Int32) (s : cS) (kc ks : Nat) (Q : (Int32 → cS → Nat → Nat → Prop)) : Prop := (C_Re_linkNamed_b2 sa p0 p1 (0 : Int32) s kc ks Q)
set_option maxRecDepth 100000 in
set_option maxHeartbeats 4000000 in
theorem kc_Re_linkNamed (base : Nat) (sa : Nat → Nat) {R : pmM} {s : cS} {kc ks : Nat} {Rt : pmR} {p0 : Nat} {p1 : Int32} {Q : (Int32 → cS → Nat → Nat → Prop)} (hw : cW sa R base s) (h : C_Re_linkNamed sa p0 p1 s kc ks Q) (k : ∀ r s' kc' ks', cW sa R base s' → Q r s' kc' ks' → Rt (some (.int r)) (cM R s') kc' ks') : kP_Re_linkNamed base sa [.ref p0, .int p1] (cM R s) kc ks Rt := by
  refine ⟨Nat.le_of_ble_eq_true rfl, fun G hG => ?_⟩
  have b2 : ∀ (a2 : Int32) (s : cS) (kc ks : Nat), KK sa R base G 2 [(0, va_rf (some p0)), (1, .int p1), (2, .int a2)] [] s kc ks (C_Re_linkNamed_b2 sa p0 p1 a2 s kc ks Q) := by
    have H : ∀ (P2 : (Int32 → cS → Nat → Nat → Prop)) (hP2 : ∀ (a2 : Int32) (s : cS) (kc ks : Nat), P2 a2 s kc ks → cW sa R base s → G 2 [(0, va_rf (some p0)), (1, .int p1), (2, .int a2)] [] (cM R s) kc ks) (a2 : Int32) (s : cS) (kc ks : Nat), KK sa R base G 2 [(0, va_rf (some p0)), (1, .int p1), (2, .int a2)] [] s kc ks (C_Re_linkNamed_s2 sa p0 p1 a2 s kc ks Q P2) := by
      intro P2 hP2
      intro a2 s kc ks
      refine kks hG rfl rfl ?_
      refine kk_aln hG (x := (some p0)) rfl rfl ?_
      refine kk_gp hG (c := 7) (k := 0) (a := p0) rfl rfl rfl rfl (fun v1 => ?_)
      refine kk_ob (fun b2 eb2 => ?_)
      subst eb2
      refine kk_gi hG (c := 11) (k := 7) (a := b2) rfl rfl rfl rfl (fun v3 => ?_)
      refine kk_ige hG (t := 41) rfl rfl ?_ ?_
      · refine kk_ic hG rfl cc_im1 ?_
        exact kk_ri hG rfl rfl rfl k
      refine kk_aln hG (x := (some p0)) rfl rfl ?_
      refine kks hG rfl rfl ?_
      refine kk_aln hG (x := (some p0)) rfl rfl ?_
      refine kk_gp hG (c := 7) (k := 0) (a := p0) rfl rfl rfl rfl (fun v4 => ?_)
      refine kk_ob (fun b5 eb5 => ?_)
      subst eb5
      refine kk_gp hG (c := 11) (k := 6) (a := b5) rfl rfl rfl rfl (fun v6 => ?_)
      refine kks hG rfl rfl ?_
      refine kk_ob (fun b7 eb7 => ?_)
      subst eb7
      refine kk_aa hG (a := b7) rfl (fun v8 => ?_)
      refine kk_ob (fun b9 eb9 => ?_)
      subst eb9
      refine kk_gp hG (c := 3) (k := 0) (a := b9) rfl rfl rfl rfl (fun v10 => ?_)
      refine kk_cx (w := .int) hG 0 rfl rfl (Nat.le_of_ble_eq_true rfl) (by decide) rfl (st' := []) rfl (cats_le (Nat.le_of_ble_eq_true rfl)) (fun _ hw h k => kk_rcv h.1 (kc_Re_is base sa hw h.2 k)) (fun r11 sr11 cr11 dr11 => ?_)
      refine kk_zeq hG (t := 35) rfl rfl ?_ ?_
      · refine kk_inc hG (L' := [(2, .int (a2 + (1 : Int32))), (0, va_rf (some p0)), (1, .int p1)]) rfl (Nat.le_of_ble_eq_true rfl) rfl cc_i1 rfl ?_
        refine kk_go hG (t := 2) rfl rfl ?_
        exact kk_wl hG [1, 2, 0] rfl (fun hw h => hP2 _ _ _ _ h hw)
      refine kks hG rfl rfl ?_
      exact kk_ri hG rfl rfl rfl k
    exact fun a2 s kc ks hw h => h (fun a2 s kc ks => cW sa R base s → G 2 [(0, va_rf (some p0)), (1, .int p1), (2, .int a2)] [] (cM R s) kc ks) (fun a2 s kc ks hs hw => H _ (fun _ _ _ _ hp hw => hp hw) a2 s kc ks hw hs) hw
  refine (show KK sa R base G 0 [(0, va_rf (some p0)), (1, .int p1)] [] s kc ks (C_Re_linkNamed sa p0 p1 s kc ks Q) from ?_) hw h
  refine kk_ic hG rfl cc_i0 ?_
  refine kk_st hG (L' := [(2, .int (0 : Int32)), (0, va_rf (some p0)), (1, .int p1)]) rfl rfl (Nat.le_of_ble_eq_true rfl) rfl ?_
  exact kk_wl hG [1, 2, 0] rfl (b2 _ _ _ _)
def C_Re_routerNamed_s2 (sa : Nat → Nat) (p0 : Nat) (p1 : Int32) (a2 : Int32) (s : cS) (kc ks : Nat) (Q : (Option Nat → cS → Nat → Nat → Prop)) (P2 : (Int32 → cS → Nat → Nat → Prop)) : Prop := ob (gP s 7 0 p0) (fun v1 => (ob v1 (fun b2 => (ob (gI s 11 9 b2) (fun v3 => (if a2 < v3 then (ob (gP s 7 0 p0) (fun v4 => (ob v4 (fun b5 => (ob (gP s 11 8 b5) (fun v6 => (ob v6 (fun b7 => (ob (rQ s b7 a2) (fun v8 => (ob v8 (fun b9 => (ob (gP s 9 1 b9) (fun v10 => (okO s 7 p0 ∧ C_Re_is sa p0 p1 v10 s kc ks (fun r11 sr11 cr11 dr11 => (if r11 = 0 then ((P2 (a2 + (1 : Int32)) sr11 cr11 dr11)) else ((ob (gP sr11 7 0 p0) (fun v12 => (ob v12 (fun b13 => (ob (gP sr11 11 8 b13) (fun v14 => (ob v14 (fun b15 => (ob (rQ sr11 b15 a2) (fun v16 => (Q v16 sr11 cr11 dr11))))))))))))))))))))))))))))) else ((Q none s kc ks))))))))
def C_Re_routerNamed_b2 (sa : Nat → Nat) (p0 : Nat) (p1 : Int32) (a2 : Int32) (s : cS) (kc ks : Nat) (Q : (Option Nat → cS → Nat → Nat → Prop)) : Prop := ∀ P2 : (Int32 → cS → Nat → Nat → Prop), (∀ (a2 : Int32) (s : cS) (kc ks : Nat), C_Re_routerNamed_s2 sa p0 p1 a2 s kc ks Q P2 → P2 a2 s kc ks) → P2 a2 s kc ks
def C_Re_routerNamed (sa : Nat → Nat) (p0 : Nat) (p1 : Int32) (s : cS) (kc ks : Nat) (Q : (Option Nat → cS → Nat → Nat → Prop)) : Prop := (C_Re_routerNamed_b2 sa p0 p1 (0 : Int32) s kc ks Q)
set_option maxRecDepth 100000 in
set_option maxHeartbeats 4000000 in
theorem kc_Re_routerNamed (base : Nat) (sa : Nat → Nat) {R : pmM} {s : cS} {kc ks : Nat} {Rt : pmR} {p0 : Nat} {p1 : Int32} {Q : (Option Nat → cS → Nat → Nat → Prop)} (hw : cW sa R base s) (h : C_Re_routerNamed sa p0 p1 s kc ks Q) (k : ∀ r s' kc' ks', cW sa R base s' → Q r s' kc' ks' → Rt (some (va_rf r)) (cM R s') kc' ks') : kP_Re_routerNamed base sa [.ref p0, .int p1] (cM R s) kc ks Rt := by
  refine ⟨Nat.le_of_ble_eq_true rfl, fun G hG => ?_⟩
  have b2 : ∀ (a2 : Int32) (s : cS) (kc ks : Nat), KK sa R base G 2 [(0, va_rf (some p0)), (1, .int p1), (2, .int a2)] [] s kc ks (C_Re_routerNamed_b2 sa p0 p1 a2 s kc ks Q) := by
    have H : ∀ (P2 : (Int32 → cS → Nat → Nat → Prop)) (hP2 : ∀ (a2 : Int32) (s : cS) (kc ks : Nat), P2 a2 s kc ks → cW sa R base s → G 2 [(0, va_rf (some p0)), (1, .int p1), (2, .int a2)] [] (cM R s) kc ks) (a2 : Int32) (s : cS) (kc ks : Nat), KK sa R base G 2 [(0, va_rf (some p0)), (1, .int p1), (2, .int a2)] [] s kc ks (C_Re_routerNamed_s2 sa p0 p1 a2 s kc ks Q P2) := by
      intro P2 hP2
      intro a2 s kc ks
      refine kks hG rfl rfl ?_
      refine kk_aln hG (x := (some p0)) rfl rfl ?_
      refine kk_gp hG (c := 7) (k := 0) (a := p0) rfl rfl rfl rfl (fun v1 => ?_)
      refine kk_ob (fun b2 eb2 => ?_)
      subst eb2
      refine kk_gi hG (c := 11) (k := 9) (a := b2) rfl rfl rfl rfl (fun v3 => ?_)
      refine kk_ige hG (t := 49) rfl rfl ?_ ?_
      · refine kks hG rfl rfl ?_
        exact kk_ra hG (x := none) rfl rfl rfl k
      refine kk_aln hG (x := (some p0)) rfl rfl ?_
      refine kks hG rfl rfl ?_
      refine kk_aln hG (x := (some p0)) rfl rfl ?_
      refine kk_gp hG (c := 7) (k := 0) (a := p0) rfl rfl rfl rfl (fun v4 => ?_)
      refine kk_ob (fun b5 eb5 => ?_)
      subst eb5
      refine kk_gp hG (c := 11) (k := 8) (a := b5) rfl rfl rfl rfl (fun v6 => ?_)
      refine kks hG rfl rfl ?_
      refine kk_ob (fun b7 eb7 => ?_)
      subst eb7
      refine kk_aa hG (a := b7) rfl (fun v8 => ?_)
      refine kk_ob (fun b9 eb9 => ?_)
      subst eb9
      refine kk_gp hG (c := 9) (k := 1) (a := b9) rfl rfl rfl rfl (fun v10 => ?_)
      refine kk_cx (w := .int) hG 0 rfl rfl (Nat.le_of_ble_eq_true rfl) (by decide) rfl (st' := []) rfl (cats_le (Nat.le_of_ble_eq_true rfl)) (fun _ hw h k => kk_rcv h.1 (kc_Re_is base sa hw h.2 k)) (fun r11 sr11 cr11 dr11 => ?_)
      refine kk_zeq hG (t := 43) rfl rfl ?_ ?_
      · refine kk_inc hG (L' := [(2, .int (a2 + (1 : Int32))), (0, va_rf (some p0)), (1, .int p1)]) rfl (Nat.le_of_ble_eq_true rfl) rfl cc_i1 rfl ?_
        refine kk_go hG (t := 2) rfl rfl ?_
        exact kk_wl hG [1, 2, 0] rfl (fun hw h => hP2 _ _ _ _ h hw)
      refine kk_aln hG (x := (some p0)) rfl rfl ?_
      refine kk_gp hG (c := 7) (k := 0) (a := p0) rfl rfl rfl rfl (fun v12 => ?_)
      refine kk_ob (fun b13 eb13 => ?_)
      subst eb13
      refine kk_gp hG (c := 11) (k := 8) (a := b13) rfl rfl rfl rfl (fun v14 => ?_)
      refine kks hG rfl rfl ?_
      refine kk_ob (fun b15 eb15 => ?_)
      subst eb15
      refine kk_aa hG (a := b15) rfl (fun v16 => ?_)
      exact kk_ra hG (x := v16) rfl rfl rfl k
    exact fun a2 s kc ks hw h => h (fun a2 s kc ks => cW sa R base s → G 2 [(0, va_rf (some p0)), (1, .int p1), (2, .int a2)] [] (cM R s) kc ks) (fun a2 s kc ks hs hw => H _ (fun _ _ _ _ hp hw => hp hw) a2 s kc ks hw hs) hw
  refine (show KK sa R base G 0 [(0, va_rf (some p0)), (1, .int p1)] [] s kc ks (C_Re_routerNamed sa p0 p1 s kc ks Q) from ?_) hw h
  refine kk_ic hG rfl cc_i0 ?_
  refine kk_st hG (L' := [(2, .int (0 : Int32)), (0, va_rf (some p0)), (1, .int p1)]) rfl rfl (Nat.le_of_ble_eq_true rfl) rfl ?_
  exact kk_wl hG [1, 2, 0] rfl (b2 _ _ _ _)
def C_Re_listNamed_s2 (sa : Nat → Nat) (p0 : Nat) (p1 : Int32) (a2 : Int32) (s : cS) (kc ks : Nat) (Q : (Int32 → cS → Nat → Nat → Prop)) (P2 : (Int32 → cS → Nat → Nat → Prop)) : Prop := ob (gP s 7 0 p0) (fun v1 => (ob v1 (fun b2 => (ob (gI s 11 11 b2) (fun v3 => (if a2 < v3 then (ob (gP s 7 0 p0) (fun v4 => (ob v4 (fun b5 => (ob (gP s 11 10 b5) (fun v6 => (ob v6 (fun b7 => (ob (rQ s b7 a2) (fun v8 => (ob v8 (fun b9 => (ob (gP s 6 0 b9) (fun v10 => (okO s 7 p0 ∧ C_Re_is sa p0 p1 v10 s kc ks (fun r11 sr11 cr11 dr11 => (if r11 = 0 then ((P2 (a2 + (1 : Int32)) sr11 cr11 dr11)) else ((Q a2 sr11 cr11 dr11))))))))))))))))))) else ((Q ((-1) : Int32) s kc ks))))))))
def C_Re_listNamed_b2 (sa : Nat → Nat) (p0 : Nat) (p1 : Int32) (a2 : Int32) (s : cS) (kc ks : Nat) (Q : (Int32 → cS → Nat → Nat → Prop)) : Prop := ∀ P2 : (Int32 → cS → Nat → Nat → Prop), (∀ (a2 : Int32) (s : cS) (kc ks : Nat), C_Re_listNamed_s2 sa p0 p1 a2 s kc ks Q P2 → P2 a2 s kc ks) → P2 a2 s kc ks
def C_Re_listNamed (sa : Nat → Nat) (p0 : Nat) (p1 : Int32) (s : cS) (kc ks : Nat) (Q : (Int32 → cS → Nat → Nat → Prop)) : Prop := (C_Re_listNamed_b2 sa p0 p1 (0 : Int32) s kc ks Q)
set_option maxRecDepth 100000 in
set_option maxHeartbeats 4000000 in
theorem kc_Re_listNamed (base : Nat) (sa : Nat → Nat) {R : pmM} {s : cS} {kc ks : Nat} {Rt : pmR} {p0 : Nat} {p1 : Int32} {Q : (Int32 → cS → Nat → Nat → Prop)} (hw : cW sa R base s) (h : C_Re_listNamed sa p0 p1 s kc ks Q) (k : ∀ r s' kc' ks', cW sa R base s' → Q r s' kc' ks' → Rt (some (.int r)) (cM R s') kc' ks') : kP_Re_listNamed base sa [.ref p0, .int p1] (cM R s) kc ks Rt := by
  refine ⟨Nat.le_of_ble_eq_true rfl, fun G hG => ?_⟩
  have b2 : ∀ (a2 : Int32) (s : cS) (kc ks : Nat), KK sa R base G 2 [(0, va_rf (some p0)), (1, .int p1), (2, .int a2)] [] s kc ks (C_Re_listNamed_b2 sa p0 p1 a2 s kc ks Q) := by
    have H : ∀ (P2 : (Int32 → cS → Nat → Nat → Prop)) (hP2 : ∀ (a2 : Int32) (s : cS) (kc ks : Nat), P2 a2 s kc ks → cW sa R base s → G 2 [(0, va_rf (some p0)), (1, .int p1), (2, .int a2)] [] (cM R s) kc ks) (a2 : Int32) (s : cS) (kc ks : Nat), KK sa R base G 2 [(0, va_rf (some p0)), (1, .int p1), (2, .int a2)] [] s kc ks (C_Re_listNamed_s2 sa p0 p1 a2 s kc ks Q P2) := by
      intro P2 hP2
      intro a2 s kc ks
      refine kks hG rfl rfl ?_
      refine kk_aln hG (x := (some p0)) rfl rfl ?_
      refine kk_gp hG (c := 7) (k := 0) (a := p0) rfl rfl rfl rfl (fun v1 => ?_)
      refine kk_ob (fun b2 eb2 => ?_)
      subst eb2
      refine kk_gi hG (c := 11) (k := 11) (a := b2) rfl rfl rfl rfl (fun v3 => ?_)
      refine kk_ige hG (t := 41) rfl rfl ?_ ?_
      · refine kk_ic hG rfl cc_im1 ?_
        exact kk_ri hG rfl rfl rfl k
      refine kk_aln hG (x := (some p0)) rfl rfl ?_
      refine kks hG rfl rfl ?_
      refine kk_aln hG (x := (some p0)) rfl rfl ?_
      refine kk_gp hG (c := 7) (k := 0) (a := p0) rfl rfl rfl rfl (fun v4 => ?_)
      refine kk_ob (fun b5 eb5 => ?_)
      subst eb5
      refine kk_gp hG (c := 11) (k := 10) (a := b5) rfl rfl rfl rfl (fun v6 => ?_)
      refine kks hG rfl rfl ?_
      refine kk_ob (fun b7 eb7 => ?_)
      subst eb7
      refine kk_aa hG (a := b7) rfl (fun v8 => ?_)
      refine kk_ob (fun b9 eb9 => ?_)
      subst eb9
      refine kk_gp hG (c := 6) (k := 0) (a := b9) rfl rfl rfl rfl (fun v10 => ?_)
      refine kk_cx (w := .int) hG 0 rfl rfl (Nat.le_of_ble_eq_true rfl) (by decide) rfl (st' := []) rfl (cats_le (Nat.le_of_ble_eq_true rfl)) (fun _ hw h k => kk_rcv h.1 (kc_Re_is base sa hw h.2 k)) (fun r11 sr11 cr11 dr11 => ?_)
      refine kk_zeq hG (t := 35) rfl rfl ?_ ?_
      · refine kk_inc hG (L' := [(2, .int (a2 + (1 : Int32))), (0, va_rf (some p0)), (1, .int p1)]) rfl (Nat.le_of_ble_eq_true rfl) rfl cc_i1 rfl ?_
        refine kk_go hG (t := 2) rfl rfl ?_
        exact kk_wl hG [1, 2, 0] rfl (fun hw h => hP2 _ _ _ _ h hw)
      refine kks hG rfl rfl ?_
      exact kk_ri hG rfl rfl rfl k
    exact fun a2 s kc ks hw h => h (fun a2 s kc ks => cW sa R base s → G 2 [(0, va_rf (some p0)), (1, .int p1), (2, .int a2)] [] (cM R s) kc ks) (fun a2 s kc ks hs hw => H _ (fun _ _ _ _ hp hw => hp hw) a2 s kc ks hw hs) hw
  refine (show KK sa R base G 0 [(0, va_rf (some p0)), (1, .int p1)] [] s kc ks (C_Re_listNamed sa p0 p1 s kc ks Q) from ?_) hw h
  refine kk_ic hG rfl cc_i0 ?_
  refine kk_st hG (L' := [(2, .int (0 : Int32)), (0, va_rf (some p0)), (1, .int p1)]) rfl rfl (Nat.le_of_ble_eq_true rfl) rfl ?_
  exact kk_wl hG [1, 2, 0] rfl (b2 _ _ _ _)
def C_Re_portNamed (sa : Nat → Nat) (p0 : Nat) (s : cS) (kc ks : Nat) (Q : (Option Nat → cS → Nat → Nat → Prop)) : Prop := okO s 7 p0 ∧ C_Re_routerNamed sa p0 (1 : Int32) s kc ks (fun r1 sr1 cr1 dr1 => (ob (gP sr1 7 0 p0) (fun v2 => (okO sr1 7 p0 ∧ C_Re_linkNamed sa p0 (2 : Int32) sr1 cr1 dr1 (fun r3 sr3 cr3 dr3 => (ob v2 (fun b4 => (okO sr3 11 b4 ∧ C_Rf_linkAt sa b4 r3 sr3 cr3 dr3 (fun r5 sr5 cr5 dr5 => (if r1 = none then (Q none sr5 cr5 dr5) else (if r5 = none then (Q none sr5 cr5 dr5) else (ob r1 (fun b6 => (okO sr5 9 b6 ∧ C_Rr_portOn sa b6 r5 sr5 cr5 dr5 (fun r7 sr7 cr7 dr7 => (Q r7 sr7 cr7 dr7))))))))))))))))
set_option maxRecDepth 100000 in
set_option maxHeartbeats 4000000 in
theorem kc_Re_portNamed (base : Nat) (sa : Nat → Nat) {R : pmM} {s : cS} {kc ks : Nat} {Rt : pmR} {p0 : Nat} {Q : (Option Nat → cS → Nat → Nat → Prop)} (hw : cW sa R base s) (h : C_Re_portNamed sa p0 s kc ks Q) (k : ∀ r s' kc' ks', cW sa R base s' → Q r s' kc' ks' → Rt (some (va_rf r)) (cM R s') kc' ks') : kP_Re_portNamed base sa [.ref p0] (cM R s) kc ks Rt := by
  refine ⟨Nat.le_of_ble_eq_true rfl, fun G hG => ?_⟩
  refine (show KK sa R base G 0 [(0, va_rf (some p0))] [] s kc ks (C_Re_portNamed sa p0 s kc ks Q) from ?_) hw h
  refine kk_aln hG (x := (some p0)) rfl rfl ?_
  refine kk_ic hG rfl cc_i1 ?_
  refine kk_cx (w := va_rf) hG 0 rfl rfl (Nat.le_of_ble_eq_true rfl) (by decide) rfl (st' := []) rfl (cats_le (Nat.le_of_ble_eq_true rfl)) (fun _ hw h k => kk_rcv h.1 (kc_Re_routerNamed base sa hw h.2 k)) (fun r1 sr1 cr1 dr1 => ?_)
  refine kk_asn hG (x := r1) (L' := [(1, va_rf r1), (0, va_rf (some p0))]) rfl (Nat.le_of_ble_eq_true rfl) rfl ?_
  refine kk_aln hG (x := (some p0)) rfl rfl ?_
  refine kk_gp hG (c := 7) (k := 0) (a := p0) rfl rfl rfl rfl (fun v2 => ?_)
  refine kk_aln hG (x := (some p0)) rfl rfl ?_
  refine kk_ic hG rfl cc_i2 ?_
  refine kk_cx (w := .int) hG 0 rfl rfl (Nat.le_of_ble_eq_true rfl) (by decide) rfl (st' := [va_rf v2]) rfl (cats_le (Nat.le_of_ble_eq_true rfl)) (fun _ hw h k => kk_rcv h.1 (kc_Re_linkNamed base sa hw h.2 k)) (fun r3 sr3 cr3 dr3 => ?_)
  refine kk_ob (fun b4 eb4 => ?_)
  subst eb4
  refine kk_cx (w := va_rf) hG 0 rfl rfl (Nat.le_of_ble_eq_true rfl) (by decide) rfl (st' := []) rfl (cats_le (Nat.le_of_ble_eq_true rfl)) (fun _ hw h k => kk_rcv h.1 (kc_Rf_linkAt base sa hw h.2 k)) (fun r5 sr5 cr5 dr5 => ?_)
  refine kk_asn hG (x := r5) (L' := [(2, va_rf r5), (1, va_rf r1), (0, va_rf (some p0))]) rfl (Nat.le_of_ble_eq_true rfl) (by cases r1 <;> rfl) ?_
  refine kk_aln hG (x := r1) rfl rfl ?_
  refine kk_nul hG (x := r1) (t := 27) rfl rfl ?_ ?_
  · refine kks hG rfl rfl ?_
    refine kk_go hG (t := 36) rfl rfl ?_
    exact kk_ra hG (x := none) rfl rfl rfl k
  refine kk_aln hG (x := r5) rfl rfl ?_
  refine kk_nnl hG (x := r5) (t := 31) rfl rfl ?_ ?_
  · refine kk_aln hG (x := r1) rfl rfl ?_
    refine kk_aln hG (x := r5) rfl rfl ?_
    refine kk_ob (fun b6 eb6 => ?_)
    subst eb6
    refine kk_cx (w := va_rf) hG 0 rfl rfl (Nat.le_of_ble_eq_true rfl) (by decide) rfl (st' := []) rfl (cats_le (Nat.le_of_ble_eq_true rfl)) (fun _ hw h k => kk_rcv h.1 (kc_Rr_portOn base sa hw h.2 k)) (fun r7 sr7 cr7 dr7 => ?_)
    exact kk_ra hG (x := r7) rfl rfl rfl k
  refine kks hG rfl rfl ?_
  refine kk_go hG (t := 36) rfl rfl ?_
  exact kk_ra hG (x := none) rfl rfl rfl k
def C_Re_isEither (sa : Nat → Nat) (p0 : Nat) (p1 : Int32) (p2 : Option Nat) (p3 : Option Nat) (s : cS) (kc ks : Nat) (Q : (Int32 → cS → Nat → Nat → Prop)) : Prop := okO s 7 p0 ∧ C_Re_is sa p0 p1 p2 s kc ks (fun r1 sr1 cr1 dr1 => (if r1 = 0 then (okO sr1 7 p0 ∧ C_Re_is sa p0 p1 p3 sr1 cr1 dr1 (fun r2 sr2 cr2 dr2 => (if r2 = 0 then (Q (0 : Int32) sr2 cr2 dr2) else (Q (1 : Int32) sr2 cr2 dr2)))) else (Q (1 : Int32) sr1 cr1 dr1)))
set_option maxRecDepth 100000 in
set_option maxHeartbeats 4000000 in
theorem kc_Re_isEither (base : Nat) (sa : Nat → Nat) {R : pmM} {s : cS} {kc ks : Nat} {Rt : pmR} {p0 : Nat} {p1 : Int32} {p2 : Option Nat} {p3 : Option Nat} {Q : (Int32 → cS → Nat → Nat → Prop)} (hw : cW sa R base s) (h : C_Re_isEither sa p0 p1 p2 p3 s kc ks Q) (k : ∀ r s' kc' ks', cW sa R base s' → Q r s' kc' ks' → Rt (some (.int r)) (cM R s') kc' ks') : kP_Re_isEither base sa [.ref p0, .int p1, va_rf p2, va_rf p3] (cM R s) kc ks Rt := by
  refine ⟨by cases p2 <;> cases p3 <;> exact Nat.le_of_ble_eq_true rfl, fun G hG => ?_⟩
  have eL : lv_args 0 [.ref p0, .int p1, va_rf p2, va_rf p3] = [(0, va_rf (some p0)), (1, .int p1), (2, va_rf p2), (3, va_rf p3)] := by cases p2 <;> cases p3 <;> rfl
  rw [eL]
  refine (show KK sa R base G 0 [(0, va_rf (some p0)), (1, .int p1), (2, va_rf p2), (3, va_rf p3)] [] s kc ks (C_Re_isEither sa p0 p1 p2 p3 s kc ks Q) from ?_) hw h
  refine kk_aln hG (x := (some p0)) rfl rfl ?_
  refine kks hG rfl rfl ?_
  refine kk_aln hG (x := p2) rfl rfl ?_
  refine kk_cx (w := .int) hG 0 rfl rfl (Nat.le_of_ble_eq_true rfl) (by decide) rfl (st' := []) rfl (cats_le (Nat.le_of_ble_eq_true rfl)) (fun _ hw h k => kk_rcv h.1 (kc_Re_is base sa hw h.2 k)) (fun r1 sr1 cr1 dr1 => ?_)
  refine kk_zne hG (t := 18) rfl rfl ?_ ?_
  · refine kk_ic hG rfl cc_i1 ?_
    refine kk_go hG (t := 23) rfl rfl ?_
    exact kk_ri hG rfl rfl rfl k
  refine kk_aln hG (x := (some p0)) rfl rfl ?_
  refine kks hG rfl rfl ?_
  refine kk_aln hG (x := p3) rfl rfl ?_
  refine kk_cx (w := .int) hG 0 rfl rfl (Nat.le_of_ble_eq_true rfl) (by decide) rfl (st' := []) rfl (cats_le (Nat.le_of_ble_eq_true rfl)) (fun _ hw h k => kk_rcv h.1 (kc_Re_is base sa hw h.2 k)) (fun r2 sr2 cr2 dr2 => ?_)
  refine kk_zeq hG (t := 22) rfl rfl ?_ ?_
  · refine kk_ic hG rfl cc_i0 ?_
    exact kk_ri hG rfl rfl rfl k
  refine kk_ic hG rfl cc_i1 ?_
  refine kk_go hG (t := 23) rfl rfl ?_
  exact kk_ri hG rfl rfl rfl k
def C_Re_hasOptions_b111 (sa : Nat → Nat) (p0 : Nat) (p2 : Option Nat) (p3 : Option Nat) (a4 : Int32) (s : cS) (kc ks : Nat) (Q : (Int32 → cS → Nat → Nat → Prop)) (P44 : (Int32 → cS → Nat → Nat → Prop)) : Prop := (P44 (a4 + (2 : Int32)) s kc ks)
def C_Re_hasOptions_b81 (sa : Nat → Nat) (p0 : Nat) (p2 : Option Nat) (p3 : Option Nat) (a4 : Int32) (s : cS) (kc ks : Nat) (Q : (Int32 → cS → Nat → Nat → Prop)) (P44 : (Int32 → cS → Nat → Nat → Prop)) : Prop := okO s 7 p0 ∧ C_Re_is sa p0 a4 p3 s kc ks (fun r1 sr1 cr1 dr1 => (if r1 = 0 then ((Q (0 : Int32) sr1 cr1 dr1)) else (ob (gI sr1 7 5 p0) (fun v2 => (if v2 = 0 then (ob (pI sr1 7 5 p0 (a4 + (1 : Int32))) (fun s3 => ((C_Re_hasOptions_b111 sa p0 p2 p3 a4 s3 cr1 dr1 Q P44)))) else ((Q (0 : Int32) sr1 cr1 dr1)))))))
def C_Re_hasOptions_s44 (sa : Nat → Nat) (p0 : Nat) (p2 : Option Nat) (p3 : Option Nat) (a4 : Int32) (s : cS) (kc ks : Nat) (Q : (Int32 → cS → Nat → Nat → Prop)) (P44 : (Int32 → cS → Nat → Nat → Prop)) : Prop := ob (gI s 7 3 p0) (fun v1 => (if a4 < v1 then (okO s 7 p0 ∧ C_Re_is sa p0 a4 p2 s kc ks (fun r2 sr2 cr2 dr2 => (if r2 = 0 then ((C_Re_hasOptions_b81 sa p0 p2 p3 a4 sr2 cr2 dr2 Q P44)) else (ob (gI sr2 7 4 p0) (fun v3 => (if v3 = 0 then (ob (pI sr2 7 4 p0 (a4 + (1 : Int32))) (fun s4 => ((C_Re_hasOptions_b111 sa p0 p2 p3 a4 s4 cr2 dr2 Q P44)))) else ((C_Re_hasOptions_b81 sa p0 p2 p3 a4 sr2 cr2 dr2 Q P44)))))))) else ((Q (1 : Int32) s kc ks))))
def C_Re_hasOptions_b44 (sa : Nat → Nat) (p0 : Nat) (p2 : Option Nat) (p3 : Option Nat) (a4 : Int32) (s : cS) (kc ks : Nat) (Q : (Int32 → cS → Nat → Nat → Prop)) : Prop := ∀ P44 : (Int32 → cS → Nat → Nat → Prop), (∀ (a4 : Int32) (s : cS) (kc ks : Nat), C_Re_hasOptions_s44 sa p0 p2 p3 a4 s kc ks Q P44 → P44 a4 s kc ks) → P44 a4 s kc ks
def C_Re_hasOptions (sa : Nat → Nat) (p0 : Nat) (p1 : Int32) (p2 : Option Nat) (p3 : Option Nat) (s : cS) (kc ks : Nat) (Q : (Int32 → cS → Nat → Nat → Prop)) : Prop := ob (pI s 7 4 p0 (0 : Int32)) (fun s1 => (ob (pI s1 7 5 p0 (0 : Int32)) (fun s2 => (ob (gI s2 7 3 p0) (fun v3 => (if v3 < p1 then (Q (0 : Int32) s2 kc ks) else (ob (gI s2 7 3 p0) (fun v4 => (if (p1 + (4 : Int32)) < v4 then (Q (0 : Int32) s2 kc ks) else (ob (gI s2 7 3 p0) (fun v5 => (if (rem_I (v5 - p1) (2 : Int32)) = 0 then ((C_Re_hasOptions_b44 sa p0 p2 p3 p1 s2 kc ks Q)) else (Q (0 : Int32) s2 kc ks)))))))))))))
set_option maxRecDepth 100000 in
set_option maxHeartbeats 4000000 in
theorem kc_Re_hasOptions (base : Nat) (sa : Nat → Nat) {R : pmM} {s : cS} {kc ks : Nat} {Rt : pmR} {p0 : Nat} {p1 : Int32} {p2 : Option Nat} {p3 : Option Nat} {Q : (Int32 → cS → Nat → Nat → Prop)} (hw : cW sa R base s) (h : C_Re_hasOptions sa p0 p1 p2 p3 s kc ks Q) (k : ∀ r s' kc' ks', cW sa R base s' → Q r s' kc' ks' → Rt (some (.int r)) (cM R s') kc' ks') : kP_Re_hasOptions base sa [.ref p0, .int p1, va_rf p2, va_rf p3] (cM R s) kc ks Rt := by
  refine ⟨by cases p2 <;> cases p3 <;> exact Nat.le_of_ble_eq_true rfl, fun G hG => ?_⟩
  have eL : lv_args 0 [.ref p0, .int p1, va_rf p2, va_rf p3] = [(0, va_rf (some p0)), (1, .int p1), (2, va_rf p2), (3, va_rf p3)] := by cases p2 <;> cases p3 <;> rfl
  rw [eL]
  have b44 : ∀ (a4 : Int32) (s : cS) (kc ks : Nat), KK sa R base G 44 [(0, va_rf (some p0)), (2, va_rf p2), (3, va_rf p3), (4, .int a4)] [] s kc ks (C_Re_hasOptions_b44 sa p0 p2 p3 a4 s kc ks Q) := by
    have H : ∀ (P44 : (Int32 → cS → Nat → Nat → Prop)) (hP44 : ∀ (a4 : Int32) (s : cS) (kc ks : Nat), P44 a4 s kc ks → cW sa R base s → G 44 [(0, va_rf (some p0)), (2, va_rf p2), (3, va_rf p3), (4, .int a4)] [] (cM R s) kc ks) (a4 : Int32) (s : cS) (kc ks : Nat), KK sa R base G 44 [(0, va_rf (some p0)), (2, va_rf p2), (3, va_rf p3), (4, .int a4)] [] s kc ks (C_Re_hasOptions_s44 sa p0 p2 p3 a4 s kc ks Q P44) := by
      intro P44 hP44
      have b111 : ∀ (a4 : Int32) (s : cS) (kc ks : Nat), KK sa R base G 111 [(0, va_rf (some p0)), (2, va_rf p2), (3, va_rf p3), (4, .int a4)] [] s kc ks (C_Re_hasOptions_b111 sa p0 p2 p3 a4 s kc ks Q P44) := by
        intro a4 s kc ks
        refine kk_inc hG (L' := [(4, .int (a4 + (2 : Int32))), (0, va_rf (some p0)), (2, va_rf p2), (3, va_rf p3)]) rfl (Nat.le_of_ble_eq_true rfl) rfl cc_i2 (by cases p3 <;> rfl) ?_
        refine kk_go hG (t := 44) rfl rfl ?_
        exact kk_wl hG [1, 2, 3, 0] rfl (fun hw h => hP44 _ _ _ _ h hw)
      have b81 : ∀ (a4 : Int32) (s : cS) (kc ks : Nat), KK sa R base G 81 [(0, va_rf (some p0)), (2, va_rf p2), (3, va_rf p3), (4, .int a4)] [] s kc ks (C_Re_hasOptions_b81 sa p0 p2 p3 a4 s kc ks Q P44) := by
        intro a4 s kc ks
        refine kk_aln hG (x := (some p0)) rfl rfl ?_
        refine kks hG rfl rfl ?_
        refine kk_aln hG (x := p3) rfl rfl ?_
        refine kk_cx (w := .int) hG 0 rfl rfl (Nat.le_of_ble_eq_true rfl) (by decide) rfl (st' := []) rfl (cats_le (Nat.le_of_ble_eq_true rfl)) (fun _ hw h k => kk_rcv h.1 (kc_Re_is base sa hw h.2 k)) (fun r1 sr1 cr1 dr1 => ?_)
        refine kk_zeq hG (t := 109) rfl rfl ?_ ?_
        · refine kk_ic hG rfl cc_i0 ?_
          exact kk_ri hG rfl rfl rfl k
        refine kk_aln hG (x := (some p0)) rfl rfl ?_
        refine kk_gi hG (c := 7) (k := 5) (a := p0) rfl rfl rfl rfl (fun v2 => ?_)
        refine kk_zne hG (t := 109) rfl rfl ?_ ?_
        · refine kk_ic hG rfl cc_i0 ?_
          exact kk_ri hG rfl rfl rfl k
        refine kk_aln hG (x := (some p0)) rfl rfl ?_
        refine kks hG rfl rfl ?_
        refine kk_ic hG rfl cc_i1 ?_
        refine kks hG rfl rfl ?_
        refine kk_pi hG (c := 7) (k := 5) (a := p0) rfl rfl rfl rfl (fun s3 => ?_)
        refine kk_go hG (t := 111) rfl rfl ?_
        exact kk_wl hG [0, 1, 2, 3] rfl (b111 _ _ _ _)
      intro a4 s kc ks
      refine kks hG rfl rfl ?_
      refine kk_aln hG (x := (some p0)) rfl rfl ?_
      refine kk_gi hG (c := 7) (k := 3) (a := p0) rfl rfl rfl rfl (fun v1 => ?_)
      refine kk_ige hG (t := 117) rfl rfl ?_ ?_
      · refine kk_ic hG rfl cc_i1 ?_
        exact kk_ri hG rfl rfl rfl k
      refine kk_aln hG (x := (some p0)) rfl rfl ?_
      refine kks hG rfl rfl ?_
      refine kk_aln hG (x := p2) rfl rfl ?_
      refine kk_cx (w := .int) hG 0 rfl rfl (Nat.le_of_ble_eq_true rfl) (by decide) rfl (st' := []) rfl (cats_le (Nat.le_of_ble_eq_true rfl)) (fun _ hw h k => kk_rcv h.1 (kc_Re_is base sa hw h.2 k)) (fun r2 sr2 cr2 dr2 => ?_)
      refine kk_zeq hG (t := 81) rfl rfl ?_ ?_
      · exact kk_wl hG [0, 1, 2, 3] rfl (b81 _ _ _ _)
      refine kk_aln hG (x := (some p0)) rfl rfl ?_
      refine kk_gi hG (c := 7) (k := 4) (a := p0) rfl rfl rfl rfl (fun v3 => ?_)
      refine kk_zne hG (t := 81) rfl rfl ?_ ?_
      · exact kk_wl hG [0, 1, 2, 3] rfl (b81 _ _ _ _)
      refine kk_aln hG (x := (some p0)) rfl rfl ?_
      refine kks hG rfl rfl ?_
      refine kk_ic hG rfl cc_i1 ?_
      refine kks hG rfl rfl ?_
      refine kk_pi hG (c := 7) (k := 4) (a := p0) rfl rfl rfl rfl (fun s4 => ?_)
      refine kk_go hG (t := 111) rfl rfl ?_
      exact kk_wl hG [0, 1, 2, 3] rfl (b111 _ _ _ _)
    exact fun a4 s kc ks hw h => h (fun a4 s kc ks => cW sa R base s → G 44 [(0, va_rf (some p0)), (2, va_rf p2), (3, va_rf p3), (4, .int a4)] [] (cM R s) kc ks) (fun a4 s kc ks hs hw => H _ (fun _ _ _ _ hp hw => hp hw) a4 s kc ks hw hs) hw
  refine (show KK sa R base G 0 [(0, va_rf (some p0)), (1, .int p1), (2, va_rf p2), (3, va_rf p3)] [] s kc ks (C_Re_hasOptions sa p0 p1 p2 p3 s kc ks Q) from ?_) hw h
  refine kk_aln hG (x := (some p0)) rfl rfl ?_
  refine kk_ic hG rfl cc_i0 ?_
  refine kk_pi hG (c := 7) (k := 4) (a := p0) rfl rfl rfl rfl (fun s1 => ?_)
  refine kk_aln hG (x := (some p0)) rfl rfl ?_
  refine kk_ic hG rfl cc_i0 ?_
  refine kk_pi hG (c := 7) (k := 5) (a := p0) rfl rfl rfl rfl (fun s2 => ?_)
  refine kk_aln hG (x := (some p0)) rfl rfl ?_
  refine kk_gi hG (c := 7) (k := 3) (a := p0) rfl rfl rfl rfl (fun v3 => ?_)
  refine kks hG rfl rfl ?_
  refine kk_ilt hG (t := 39) rfl rfl ?_ ?_
  · refine kk_ic hG rfl cc_i0 ?_
    exact kk_ri hG rfl rfl rfl k
  refine kk_aln hG (x := (some p0)) rfl rfl ?_
  refine kk_gi hG (c := 7) (k := 3) (a := p0) rfl rfl rfl rfl (fun v4 => ?_)
  refine kks hG rfl rfl ?_
  refine kk_ic hG rfl cc_i4 ?_
  refine kks hG rfl rfl ?_
  refine kk_igt hG (t := 39) rfl rfl ?_ ?_
  · refine kk_ic hG rfl cc_i0 ?_
    exact kk_ri hG rfl rfl rfl k
  refine kk_aln hG (x := (some p0)) rfl rfl ?_
  refine kk_gi hG (c := 7) (k := 3) (a := p0) rfl rfl rfl rfl (fun v5 => ?_)
  refine kks hG rfl rfl ?_
  refine kks hG rfl rfl ?_
  refine kk_ic hG rfl cc_i2 ?_
  refine kkc hG rfl rfl (by decide) ?_
  refine kk_zeq hG (t := 41) rfl rfl ?_ ?_
  · refine kks hG rfl rfl ?_
    refine kk_st hG (L' := [(4, .int p1), (0, va_rf (some p0)), (1, .int p1), (2, va_rf p2), (3, va_rf p3)]) rfl rfl (Nat.le_of_ble_eq_true rfl) (by cases p3 <;> rfl) ?_
    exact kk_wl hG [1, 3, 4, 0] rfl (b44 _ _ _ _)
  refine kk_ic hG rfl cc_i0 ?_
  exact kk_ri hG rfl rfl rfl k
def C_Re_hasTagOption_b32 (sa : Nat → Nat) (p0 : Nat) (p1 : Int32) (s : cS) (kc ks : Nat) (Q : (Int32 → cS → Nat → Nat → Prop)) : Prop := ob (gI s 7 3 p0) (fun v1 => (if v1 = p1 then (Q (1 : Int32) s kc ks) else (ob (gI s 7 4 p0) (fun v2 => (if 0 < v2 then (Q (1 : Int32) s kc ks) else (Q (0 : Int32) s kc ks))))))
def C_Re_hasTagOption (sa : Nat → Nat) (p0 : Nat) (p1 : Int32) (s : cS) (kc ks : Nat) (Q : (Int32 → cS → Nat → Nat → Prop)) : Prop := ob (pI s 7 4 p0 (0 : Int32)) (fun s1 => (ob (gI s1 7 3 p0) (fun v2 => (if v2 = (p1 + (2 : Int32)) then (okO s1 7 p0 ∧ C_Re_is sa p0 p1 (some (sa 18)) s1 kc ks (fun r3 sr3 cr3 dr3 => (if r3 = 0 then ((C_Re_hasTagOption_b32 sa p0 p1 sr3 cr3 dr3 Q)) else (ob (pI sr3 7 4 p0 (p1 + (1 : Int32))) (fun s4 => ((C_Re_hasTagOption_b32 sa p0 p1 s4 cr3 dr3 Q))))))) else ((C_Re_hasTagOption_b32 sa p0 p1 s1 kc ks Q))))))
set_option maxRecDepth 100000 in
set_option maxHeartbeats 4000000 in
theorem kc_Re_hasTagOption (base : Nat) (sa : Nat → Nat) {R : pmM} {s : cS} {kc ks : Nat} {Rt : pmR} {p0 : Nat} {p1 : Int32} {Q : (Int32 → cS → Nat → Nat → Prop)} (hw : cW sa R base s) (h : C_Re_hasTagOption sa p0 p1 s kc ks Q) (k : ∀ r s' kc' ks', cW sa R base s' → Q r s' kc' ks' → Rt (some (.int r)) (cM R s') kc' ks') : kP_Re_hasTagOption base sa [.ref p0, .int p1] (cM R s) kc ks Rt := by
  refine ⟨Nat.le_of_ble_eq_true rfl, fun G hG => ?_⟩
  have b32 : ∀ (s : cS) (kc ks : Nat), KK sa R base G 32 [(0, va_rf (some p0)), (1, .int p1)] [] s kc ks (C_Re_hasTagOption_b32 sa p0 p1 s kc ks Q) := by
    intro s kc ks
    refine kk_aln hG (x := (some p0)) rfl rfl ?_
    refine kk_gi hG (c := 7) (k := 3) (a := p0) rfl rfl rfl rfl (fun v1 => ?_)
    refine kks hG rfl rfl ?_
    refine kk_ieq hG (t := 47) rfl rfl ?_ ?_
    · refine kk_ic hG rfl cc_i1 ?_
      refine kk_go hG (t := 52) rfl rfl ?_
      exact kk_ri hG rfl rfl rfl k
    refine kk_aln hG (x := (some p0)) rfl rfl ?_
    refine kk_gi hG (c := 7) (k := 4) (a := p0) rfl rfl rfl rfl (fun v2 => ?_)
    refine kk_zle hG (t := 51) rfl rfl ?_ ?_
    · refine kk_ic hG rfl cc_i0 ?_
      exact kk_ri hG rfl rfl rfl k
    refine kk_ic hG rfl cc_i1 ?_
    refine kk_go hG (t := 52) rfl rfl ?_
    exact kk_ri hG rfl rfl rfl k
  refine (show KK sa R base G 0 [(0, va_rf (some p0)), (1, .int p1)] [] s kc ks (C_Re_hasTagOption sa p0 p1 s kc ks Q) from ?_) hw h
  refine kk_aln hG (x := (some p0)) rfl rfl ?_
  refine kk_ic hG rfl cc_i0 ?_
  refine kk_pi hG (c := 7) (k := 4) (a := p0) rfl rfl rfl rfl (fun s1 => ?_)
  refine kk_aln hG (x := (some p0)) rfl rfl ?_
  refine kk_gi hG (c := 7) (k := 3) (a := p0) rfl rfl rfl rfl (fun v2 => ?_)
  refine kks hG rfl rfl ?_
  refine kk_ic hG rfl cc_i2 ?_
  refine kks hG rfl rfl ?_
  refine kk_ine hG (t := 32) rfl rfl ?_ ?_
  · exact kk_wl hG [0, 1] rfl (b32 _ _ _)
  refine kk_aln hG (x := (some p0)) rfl rfl ?_
  refine kks hG rfl rfl ?_
  refine kk_lds hG (a := sa 18) rfl rfl ?_
  refine kk_cx (w := .int) hG 0 rfl rfl (Nat.le_of_ble_eq_true rfl) (by decide) rfl (st' := []) rfl (cats_le (Nat.le_of_ble_eq_true rfl)) (fun _ hw h k => kk_rcv h.1 (kc_Re_is base sa hw h.2 k)) (fun r3 sr3 cr3 dr3 => ?_)
  refine kk_zeq hG (t := 32) rfl rfl ?_ ?_
  · exact kk_wl hG [0, 1] rfl (b32 _ _ _)
  refine kk_aln hG (x := (some p0)) rfl rfl ?_
  refine kks hG rfl rfl ?_
  refine kk_ic hG rfl cc_i1 ?_
  refine kks hG rfl rfl ?_
  refine kk_pi hG (c := 7) (k := 4) (a := p0) rfl rfl rfl rfl (fun s4 => ?_)
  exact kk_wl hG [0, 1] rfl (b32 _ _ _)
def C_Re_joinOption (sa : Nat → Nat) (p0 : Nat) (p1 : Int32) (s : cS) (kc ks : Nat) (Q : (Int32 → cS → Nat → Nat → Prop)) : Prop := okO s 7 p0 ∧ C_Re_is sa p0 p1 (some (sa 6)) s kc ks (fun r1 sr1 cr1 dr1 => (if r1 = 0 then (okO sr1 7 p0 ∧ C_Re_is sa p0 p1 (some (sa 7)) sr1 cr1 dr1 (fun r2 sr2 cr2 dr2 => (if r2 = 0 then (okO sr2 7 p0 ∧ C_Re_is sa p0 p1 (some (sa 8)) sr2 cr2 dr2 (fun r3 sr3 cr3 dr3 => (if r3 = 0 then (okO sr3 7 p0 ∧ C_Re_is sa p0 p1 (some (sa 9)) sr3 cr3 dr3 (fun r4 sr4 cr4 dr4 => (if r4 = 0 then (okO sr4 7 p0 ∧ C_Re_is sa p0 p1 (some (sa 10)) sr4 cr4 dr4 (fun r5 sr5 cr5 dr5 => (if r5 = 0 then (okO sr5 7 p0 ∧ C_Re_is sa p0 p1 (some (sa 11)) sr5 cr5 dr5 (fun r6 sr6 cr6 dr6 => (if r6 = 0 then (Q ((-1) : Int32) sr6 cr6 dr6) else (Q (6 : Int32) sr6 cr6 dr6)))) else (Q (5 : Int32) sr5 cr5 dr5)))) else (Q (4 : Int32) sr4 cr4 dr4)))) else (Q (3 : Int32) sr3 cr3 dr3)))) else (Q (2 : Int32) sr2 cr2 dr2)))) else (Q (1 : Int32) sr1 cr1 dr1)))
set_option maxRecDepth 100000 in
set_option maxHeartbeats 4000000 in
theorem kc_Re_joinOption (base : Nat) (sa : Nat → Nat) {R : pmM} {s : cS} {kc ks : Nat} {Rt : pmR} {p0 : Nat} {p1 : Int32} {Q : (Int32 → cS → Nat → Nat → Prop)} (hw : cW sa R base s) (h : C_Re_joinOption sa p0 p1 s kc ks Q) (k : ∀ r s' kc' ks', cW sa R base s' → Q r s' kc' ks' → Rt (some (.int r)) (cM R s') kc' ks') : kP_Re_joinOption base sa [.ref p0, .int p1] (cM R s) kc ks Rt := by
  refine ⟨Nat.le_of_ble_eq_true rfl, fun G hG => ?_⟩
  refine (show KK sa R base G 0 [(0, va_rf (some p0)), (1, .int p1)] [] s kc ks (C_Re_joinOption sa p0 p1 s kc ks Q) from ?_) hw h
  refine kk_aln hG (x := (some p0)) rfl rfl ?_
  refine kks hG rfl rfl ?_
  refine kk_lws hG (a := sa 6) rfl rfl ?_
  refine kk_cx (w := .int) hG 0 rfl rfl (Nat.le_of_ble_eq_true rfl) (by decide) rfl (st' := []) rfl (cats_le (Nat.le_of_ble_eq_true rfl)) (fun _ hw h k => kk_rcv h.1 (kc_Re_is base sa hw h.2 k)) (fun r1 sr1 cr1 dr1 => ?_)
  refine kk_zeq hG (t := 13) rfl rfl ?_ ?_
  · refine kk_aln hG (x := (some p0)) rfl rfl ?_
    refine kks hG rfl rfl ?_
    refine kk_lws hG (a := sa 7) rfl rfl ?_
    refine kk_cx (w := .int) hG 0 rfl rfl (Nat.le_of_ble_eq_true rfl) (by decide) rfl (st' := []) rfl (cats_le (Nat.le_of_ble_eq_true rfl)) (fun _ hw h k => kk_rcv h.1 (kc_Re_is base sa hw h.2 k)) (fun r2 sr2 cr2 dr2 => ?_)
    refine kk_zeq hG (t := 26) rfl rfl ?_ ?_
    · refine kk_aln hG (x := (some p0)) rfl rfl ?_
      refine kks hG rfl rfl ?_
      refine kk_lws hG (a := sa 8) rfl rfl ?_
      refine kk_cx (w := .int) hG 0 rfl rfl (Nat.le_of_ble_eq_true rfl) (by decide) rfl (st' := []) rfl (cats_le (Nat.le_of_ble_eq_true rfl)) (fun _ hw h k => kk_rcv h.1 (kc_Re_is base sa hw h.2 k)) (fun r3 sr3 cr3 dr3 => ?_)
      refine kk_zeq hG (t := 39) rfl rfl ?_ ?_
      · refine kk_aln hG (x := (some p0)) rfl rfl ?_
        refine kks hG rfl rfl ?_
        refine kk_lws hG (a := sa 9) rfl rfl ?_
        refine kk_cx (w := .int) hG 0 rfl rfl (Nat.le_of_ble_eq_true rfl) (by decide) rfl (st' := []) rfl (cats_le (Nat.le_of_ble_eq_true rfl)) (fun _ hw h k => kk_rcv h.1 (kc_Re_is base sa hw h.2 k)) (fun r4 sr4 cr4 dr4 => ?_)
        refine kk_zeq hG (t := 52) rfl rfl ?_ ?_
        · refine kk_aln hG (x := (some p0)) rfl rfl ?_
          refine kks hG rfl rfl ?_
          refine kk_lws hG (a := sa 10) rfl rfl ?_
          refine kk_cx (w := .int) hG 0 rfl rfl (Nat.le_of_ble_eq_true rfl) (by decide) rfl (st' := []) rfl (cats_le (Nat.le_of_ble_eq_true rfl)) (fun _ hw h k => kk_rcv h.1 (kc_Re_is base sa hw h.2 k)) (fun r5 sr5 cr5 dr5 => ?_)
          refine kk_zeq hG (t := 65) rfl rfl ?_ ?_
          · refine kk_aln hG (x := (some p0)) rfl rfl ?_
            refine kks hG rfl rfl ?_
            refine kk_lws hG (a := sa 11) rfl rfl ?_
            refine kk_cx (w := .int) hG 0 rfl rfl (Nat.le_of_ble_eq_true rfl) (by decide) rfl (st' := []) rfl (cats_le (Nat.le_of_ble_eq_true rfl)) (fun _ hw h k => kk_rcv h.1 (kc_Re_is base sa hw h.2 k)) (fun r6 sr6 cr6 dr6 => ?_)
            refine kk_zeq hG (t := 81) rfl rfl ?_ ?_
            · refine kk_ic hG rfl cc_im1 ?_
              exact kk_ri hG rfl rfl rfl k
            refine kk_bi hG rfl cc_b6 ?_
            refine kk_go hG (t := 82) rfl rfl ?_
            exact kk_ri hG rfl rfl rfl k
          refine kk_ic hG rfl cc_i5 ?_
          exact kk_ri hG rfl rfl rfl k
        refine kk_ic hG rfl cc_i4 ?_
        exact kk_ri hG rfl rfl rfl k
      refine kk_ic hG rfl cc_i3 ?_
      exact kk_ri hG rfl rfl rfl k
    refine kk_ic hG rfl cc_i2 ?_
    exact kk_ri hG rfl rfl rfl k
  refine kk_ic hG rfl cc_i1 ?_
  exact kk_ri hG rfl rfl rfl k
def C_Re_splitAt (sa : Nat → Nat) (p0 : Nat) (p1 : Int32) (s : cS) (kc ks : Nat) (Q : (Int32 → cS → Nat → Nat → Prop)) : Prop := okO s 7 p0 ∧ C_Re_is sa p0 p1 (some (sa 12)) s kc ks (fun r1 sr1 cr1 dr1 => (if r1 = 0 then (okO sr1 7 p0 ∧ C_Re_is sa p0 p1 (some (sa 13)) sr1 cr1 dr1 (fun r2 sr2 cr2 dr2 => (if r2 = 0 then (okO sr2 7 p0 ∧ C_Re_is sa p0 p1 (some (sa 14)) sr2 cr2 dr2 (fun r3 sr3 cr3 dr3 => (if r3 = 0 then (Q ((-1) : Int32) sr3 cr3 dr3) else (Q (2 : Int32) sr3 cr3 dr3)))) else (Q (1 : Int32) sr2 cr2 dr2)))) else (Q (0 : Int32) sr1 cr1 dr1)))
set_option maxRecDepth 100000 in
set_option maxHeartbeats 4000000 in
theorem kc_Re_splitAt (base : Nat) (sa : Nat → Nat) {R : pmM} {s : cS} {kc ks : Nat} {Rt : pmR} {p0 : Nat} {p1 : Int32} {Q : (Int32 → cS → Nat → Nat → Prop)} (hw : cW sa R base s) (h : C_Re_splitAt sa p0 p1 s kc ks Q) (k : ∀ r s' kc' ks', cW sa R base s' → Q r s' kc' ks' → Rt (some (.int r)) (cM R s') kc' ks') : kP_Re_splitAt base sa [.ref p0, .int p1] (cM R s) kc ks Rt := by
  refine ⟨Nat.le_of_ble_eq_true rfl, fun G hG => ?_⟩
  refine (show KK sa R base G 0 [(0, va_rf (some p0)), (1, .int p1)] [] s kc ks (C_Re_splitAt sa p0 p1 s kc ks Q) from ?_) hw h
  refine kk_aln hG (x := (some p0)) rfl rfl ?_
  refine kks hG rfl rfl ?_
  refine kk_lws hG (a := sa 12) rfl rfl ?_
  refine kk_cx (w := .int) hG 0 rfl rfl (Nat.le_of_ble_eq_true rfl) (by decide) rfl (st' := []) rfl (cats_le (Nat.le_of_ble_eq_true rfl)) (fun _ hw h k => kk_rcv h.1 (kc_Re_is base sa hw h.2 k)) (fun r1 sr1 cr1 dr1 => ?_)
  refine kk_zeq hG (t := 13) rfl rfl ?_ ?_
  · refine kk_aln hG (x := (some p0)) rfl rfl ?_
    refine kks hG rfl rfl ?_
    refine kk_lws hG (a := sa 13) rfl rfl ?_
    refine kk_cx (w := .int) hG 0 rfl rfl (Nat.le_of_ble_eq_true rfl) (by decide) rfl (st' := []) rfl (cats_le (Nat.le_of_ble_eq_true rfl)) (fun _ hw h k => kk_rcv h.1 (kc_Re_is base sa hw h.2 k)) (fun r2 sr2 cr2 dr2 => ?_)
    refine kk_zeq hG (t := 26) rfl rfl ?_ ?_
    · refine kk_aln hG (x := (some p0)) rfl rfl ?_
      refine kks hG rfl rfl ?_
      refine kk_lws hG (a := sa 14) rfl rfl ?_
      refine kk_cx (w := .int) hG 0 rfl rfl (Nat.le_of_ble_eq_true rfl) (by decide) rfl (st' := []) rfl (cats_le (Nat.le_of_ble_eq_true rfl)) (fun _ hw h k => kk_rcv h.1 (kc_Re_is base sa hw h.2 k)) (fun r3 sr3 cr3 dr3 => ?_)
      refine kk_zeq hG (t := 41) rfl rfl ?_ ?_
      · refine kk_ic hG rfl cc_im1 ?_
        exact kk_ri hG rfl rfl rfl k
      refine kk_ic hG rfl cc_i2 ?_
      refine kk_go hG (t := 42) rfl rfl ?_
      exact kk_ri hG rfl rfl rfl k
    refine kk_ic hG rfl cc_i1 ?_
    exact kk_ri hG rfl rfl rfl k
  refine kk_ic hG rfl cc_i0 ?_
  exact kk_ri hG rfl rfl rfl k
def C_Re_optionSize (sa : Nat → Nat) (p0 : Int32) (s : cS) (kc ks : Nat) (Q : (Int32 → cS → Nat → Nat → Prop)) : Prop := if p0 = (6 : Int32) then (Q (1 : Int32) s kc ks) else (if p0 = (4 : Int32) then (Q (3 : Int32) s kc ks) else (if p0 = (5 : Int32) then (Q (3 : Int32) s kc ks) else (Q (2 : Int32) s kc ks)))
set_option maxRecDepth 100000 in
set_option maxHeartbeats 4000000 in
theorem kc_Re_optionSize (base : Nat) (sa : Nat → Nat) {R : pmM} {s : cS} {kc ks : Nat} {Rt : pmR} {p0 : Int32} {Q : (Int32 → cS → Nat → Nat → Prop)} (hw : cW sa R base s) (h : C_Re_optionSize sa p0 s kc ks Q) (k : ∀ r s' kc' ks', cW sa R base s' → Q r s' kc' ks' → Rt (some (.int r)) (cM R s') kc' ks') : kP_Re_optionSize base sa [.int p0] (cM R s) kc ks Rt := by
  refine ⟨Nat.le_of_ble_eq_true rfl, fun G hG => ?_⟩
  refine (show KK sa R base G 0 [(0, .int p0)] [] s kc ks (C_Re_optionSize sa p0 s kc ks Q) from ?_) hw h
  refine kks hG rfl rfl ?_
  refine kk_bi hG rfl cc_b6 ?_
  refine kk_ine hG (t := 8) rfl rfl ?_ ?_
  · refine kks hG rfl rfl ?_
    refine kk_ic hG rfl cc_i4 ?_
    refine kk_ieq hG (t := 18) rfl rfl ?_ ?_
    · refine kk_ic hG rfl cc_i3 ?_
      refine kk_go hG (t := 23) rfl rfl ?_
      exact kk_ri hG rfl rfl rfl k
    refine kks hG rfl rfl ?_
    refine kk_ic hG rfl cc_i5 ?_
    refine kk_ine hG (t := 22) rfl rfl ?_ ?_
    · refine kk_ic hG rfl cc_i2 ?_
      exact kk_ri hG rfl rfl rfl k
    refine kk_ic hG rfl cc_i3 ?_
    refine kk_go hG (t := 23) rfl rfl ?_
    exact kk_ri hG rfl rfl rfl k
  refine kk_ic hG rfl cc_i1 ?_
  exact kk_ri hG rfl rfl rfl k
def C_Re_hasJoinOptions_b49 (sa : Nat → Nat) (p0 : Nat) (a1 : Int32) (a2 : Int32) (a3 : Int32) (s : cS) (kc ks : Nat) (Q : (Int32 → cS → Nat → Nat → Prop)) (P4 : (Int32 → Int32 → cS → Nat → Nat → Prop)) : Prop := C_Re_optionSize sa a3 s kc ks (fun r1 sr1 cr1 dr1 => ((P4 (a1 ||| ((1 : Int32) <<< (a3 &&& 31))) (a2 + r1) sr1 cr1 dr1)))
def C_Re_hasJoinOptions_s4 (sa : Nat → Nat) (p0 : Nat) (a1 : Int32) (a2 : Int32) (s : cS) (kc ks : Nat) (Q : (Int32 → cS → Nat → Nat → Prop)) (P4 : (Int32 → Int32 → cS → Nat → Nat → Prop)) : Prop := ob (gI s 7 3 p0) (fun v1 => (if a2 < v1 then (okO s 7 p0 ∧ C_Re_joinOption sa p0 a2 s kc ks (fun r3 sr3 cr3 dr3 => (if r3 = ((-1) : Int32) then ((Q (0 : Int32) sr3 cr3 dr3)) else (if ((a1 >>> (r3 &&& 31)) &&& (1 : Int32)) = 0 then (if r3 = (2 : Int32) then (okO sr3 7 p0 ∧ C_Re_splitAt sa p0 (a2 + (1 : Int32)) sr3 cr3 dr3 (fun r4 sr4 cr4 dr4 => (if r4 = ((-1) : Int32) then ((Q (0 : Int32) sr4 cr4 dr4)) else ((C_Re_hasJoinOptions_b49 sa p0 a1 a2 r3 sr4 cr4 dr4 Q P4))))) else ((C_Re_hasJoinOptions_b49 sa p0 a1 a2 r3 sr3 cr3 dr3 Q P4))) else ((Q (0 : Int32) sr3 cr3 dr3)))))) else ((ob (gI s 7 3 p0) (fun v2 => (if a2 = v2 then (Q (1 : Int32) s kc ks) else (Q (0 : Int32) s kc ks)))))))
def C_Re_hasJoinOptions_b4 (sa : Nat → Nat) (p0 : Nat) (a1 : Int32) (a2 : Int32) (s : cS) (kc ks : Nat) (Q : (Int32 → cS → Nat → Nat → Prop)) : Prop := ∀ P4 : (Int32 → Int32 → cS → Nat → Nat → Prop), (∀ (a1 : Int32) (a2 : Int32) (s : cS) (kc ks : Nat), C_Re_hasJoinOptions_s4 sa p0 a1 a2 s kc ks Q P4 → P4 a1 a2 s kc ks) → P4 a1 a2 s kc ks
def C_Re_hasJoinOptions (sa : Nat → Nat) (p0 : Nat) (s : cS) (kc ks : Nat) (Q : (Int32 → cS → Nat → Nat → Prop)) : Prop := (C_Re_hasJoinOptions_b4 sa p0 (0 : Int32) (4 : Int32) s kc ks Q)
set_option maxRecDepth 100000 in
set_option maxHeartbeats 4000000 in
theorem kc_Re_hasJoinOptions (base : Nat) (sa : Nat → Nat) {R : pmM} {s : cS} {kc ks : Nat} {Rt : pmR} {p0 : Nat} {Q : (Int32 → cS → Nat → Nat → Prop)} (hw : cW sa R base s) (h : C_Re_hasJoinOptions sa p0 s kc ks Q) (k : ∀ r s' kc' ks', cW sa R base s' → Q r s' kc' ks' → Rt (some (.int r)) (cM R s') kc' ks') : kP_Re_hasJoinOptions base sa [.ref p0] (cM R s) kc ks Rt := by
  refine ⟨Nat.le_of_ble_eq_true rfl, fun G hG => ?_⟩
  have b4 : ∀ (a1 : Int32) (a2 : Int32) (s : cS) (kc ks : Nat), KK sa R base G 4 [(0, va_rf (some p0)), (1, .int a1), (2, .int a2)] [] s kc ks (C_Re_hasJoinOptions_b4 sa p0 a1 a2 s kc ks Q) := by
    have H : ∀ (P4 : (Int32 → Int32 → cS → Nat → Nat → Prop)) (hP4 : ∀ (a1 : Int32) (a2 : Int32) (s : cS) (kc ks : Nat), P4 a1 a2 s kc ks → cW sa R base s → G 4 [(0, va_rf (some p0)), (1, .int a1), (2, .int a2)] [] (cM R s) kc ks) (a1 : Int32) (a2 : Int32) (s : cS) (kc ks : Nat), KK sa R base G 4 [(0, va_rf (some p0)), (1, .int a1), (2, .int a2)] [] s kc ks (C_Re_hasJoinOptions_s4 sa p0 a1 a2 s kc ks Q P4) := by
      intro P4 hP4
      have b49 : ∀ (a1 : Int32) (a2 : Int32) (a3 : Int32) (s : cS) (kc ks : Nat), KK sa R base G 49 [(0, va_rf (some p0)), (1, .int a1), (2, .int a2), (3, .int a3)] [] s kc ks (C_Re_hasJoinOptions_b49 sa p0 a1 a2 a3 s kc ks Q P4) := by
        intro a1 a2 a3 s kc ks
        refine kks hG rfl rfl ?_
        refine kk_ic hG rfl cc_i1 ?_
        refine kks hG rfl rfl ?_
        refine kks hG rfl rfl ?_
        refine kks hG rfl rfl ?_
        refine kk_st hG (L' := [(1, .int (a1 ||| ((1 : Int32) <<< (a3 &&& 31)))), (0, va_rf (some p0)), (2, .int a2), (3, .int a3)]) rfl rfl (Nat.le_of_ble_eq_true rfl) rfl ?_
        refine kks hG rfl rfl ?_
        refine kks hG rfl rfl ?_
        refine kk_cx (w := .int) hG 2 rfl rfl (Nat.le_of_ble_eq_true rfl) (by decide) rfl (st' := [.int a2]) rfl (cats_le (Nat.le_of_ble_eq_true rfl)) (fun _ hw h k => kc_Re_optionSize base sa hw h k) (fun r1 sr1 cr1 dr1 => ?_)
        refine kks hG rfl rfl ?_
        refine kk_st hG (L' := [(2, .int (a2 + r1)), (1, .int (a1 ||| ((1 : Int32) <<< (a3 &&& 31)))), (0, va_rf (some p0)), (3, .int a3)]) rfl rfl (Nat.le_of_ble_eq_true rfl) rfl ?_
        refine kk_go hG (t := 4) rfl rfl ?_
        exact kk_wl hG [2, 1, 0] rfl (fun hw h => hP4 _ _ _ _ _ h hw)
      intro a1 a2 s kc ks
      refine kks hG rfl rfl ?_
      refine kk_aln hG (x := (some p0)) rfl rfl ?_
      refine kk_gi hG (c := 7) (k := 3) (a := p0) rfl rfl rfl rfl (fun v1 => ?_)
      refine kk_ige hG (t := 65) rfl rfl ?_ ?_
      · refine kks hG rfl rfl ?_
        refine kk_aln hG (x := (some p0)) rfl rfl ?_
        refine kk_gi hG (c := 7) (k := 3) (a := p0) rfl rfl rfl rfl (fun v2 => ?_)
        refine kk_ine hG (t := 77) rfl rfl ?_ ?_
        · refine kk_ic hG rfl cc_i0 ?_
          exact kk_ri hG rfl rfl rfl k
        refine kk_ic hG rfl cc_i1 ?_
        refine kk_go hG (t := 78) rfl rfl ?_
        exact kk_ri hG rfl rfl rfl k
      refine kk_aln hG (x := (some p0)) rfl rfl ?_
      refine kks hG rfl rfl ?_
      refine kk_cx (w := .int) hG 0 rfl rfl (Nat.le_of_ble_eq_true rfl) (by decide) rfl (st' := []) rfl (cats_le (Nat.le_of_ble_eq_true rfl)) (fun _ hw h k => kk_rcv h.1 (kc_Re_joinOption base sa hw h.2 k)) (fun r3 sr3 cr3 dr3 => ?_)
      refine kk_st hG (L' := [(3, .int r3), (0, va_rf (some p0)), (1, .int a1), (2, .int a2)]) rfl rfl (Nat.le_of_ble_eq_true rfl) rfl ?_
      refine kks hG rfl rfl ?_
      refine kk_ic hG rfl cc_im1 ?_
      refine kk_ieq hG (t := 47) rfl rfl ?_ ?_
      · refine kk_ic hG rfl cc_i0 ?_
        exact kk_ri hG rfl rfl rfl k
      refine kks hG rfl rfl ?_
      refine kks hG rfl rfl ?_
      refine kks hG rfl rfl ?_
      refine kk_ic hG rfl cc_i1 ?_
      refine kks hG rfl rfl ?_
      refine kk_zne hG (t := 47) rfl rfl ?_ ?_
      · refine kk_ic hG rfl cc_i0 ?_
        exact kk_ri hG rfl rfl rfl k
      refine kks hG rfl rfl ?_
      refine kk_ic hG rfl cc_i2 ?_
      refine kk_ine hG (t := 49) rfl rfl ?_ ?_
      · exact kk_wl hG [1, 2, 3, 0] rfl (b49 _ _ _ _ _ _)
      refine kk_aln hG (x := (some p0)) rfl rfl ?_
      refine kks hG rfl rfl ?_
      refine kk_ic hG rfl cc_i1 ?_
      refine kks hG rfl rfl ?_
      refine kk_cx (w := .int) hG 0 rfl rfl (Nat.le_of_ble_eq_true rfl) (by decide) rfl (st' := []) rfl (cats_le (Nat.le_of_ble_eq_true rfl)) (fun _ hw h k => kk_rcv h.1 (kc_Re_splitAt base sa hw h.2 k)) (fun r4 sr4 cr4 dr4 => ?_)
      refine kk_ic hG rfl cc_im1 ?_
      refine kk_ine hG (t := 49) rfl rfl ?_ ?_
      · exact kk_wl hG [1, 2, 3, 0] rfl (b49 _ _ _ _ _ _)
      refine kk_ic hG rfl cc_i0 ?_
      exact kk_ri hG rfl rfl rfl k
    exact fun a1 a2 s kc ks hw h => h (fun a1 a2 s kc ks => cW sa R base s → G 4 [(0, va_rf (some p0)), (1, .int a1), (2, .int a2)] [] (cM R s) kc ks) (fun a1 a2 s kc ks hs hw => H _ (fun _ _ _ _ _ hp hw => hp hw) a1 a2 s kc ks hw hs) hw
  refine (show KK sa R base G 0 [(0, va_rf (some p0))] [] s kc ks (C_Re_hasJoinOptions sa p0 s kc ks Q) from ?_) hw h
  refine kk_ic hG rfl cc_i0 ?_
  refine kk_st hG (L' := [(1, .int (0 : Int32)), (0, va_rf (some p0))]) rfl rfl (Nat.le_of_ble_eq_true rfl) rfl ?_
  refine kk_ic hG rfl cc_i4 ?_
  refine kk_st hG (L' := [(2, .int (4 : Int32)), (1, .int (0 : Int32)), (0, va_rf (some p0))]) rfl rfl (Nat.le_of_ble_eq_true rfl) rfl ?_
  exact kk_wl hG [2, 1, 0] rfl (b4 _ _ _ _ _)
