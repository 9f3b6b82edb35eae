/-! A datagram is heard by a router: both sides. -/
abbrev Wrv : List Nat := 45 :: (Wop ++ (Wle ++ Wan2))
/-- what an answer to a datagram may send -/
def rq1 (L : List Int32) : Nat := if L.getD 0 0 = 1 then 885 else 0
theorem rq1_le {L : List Int32} : rq1 L ≤ 885 := by unfold rq1; split <;> omega
section Rv
variable {G H : Nat → Nat → Nat} {sa : Nat → Nat} {x A kc ks r p f lk : Nat} {s : cS} {t t' : moS} {po ho : Int32} {h l : Int64} {L : List Int32} {E : List (Int32 × Int64)} {Os : Nat → List Pf}
theorem jd_le (hM : MV t) (hr : r < cR t) (hp : p < cI t r) : jdC s G H (4 * r + p) ≤ RcC s G H t ∧ jdS s G H (4 * r + p) ≤ RcS s G H x t := by
  have h6 := hM.nR
  have h4 := hM.nIf hr
  have cq : (4 * r + p) / 4 < cR t ∧ (4 * r + p) % 4 < cI t ((4 * r + p) / 4) := ⟨by omega, by rw [show (4 * r + p) / 4 = r by omega, show (4 * r + p) % 4 = p by omega]; exact hp⟩
  have a := sm_ge (f := fW s G H t) (show 4 * r + p < 24 by omega)
  have b := sm_ge (f := fS s G t) (show 4 * r + p < 24 by omega)
  have c := sm_ge (f := fT s G t) (show 4 * r + p < 24 by omega)
  rw [show fW s G H t (4 * r + p) = wkC s (H 86 (G 2 (4 * r + p))) from if_pos cq] at a
  rw [show fS s G t (4 * r + p) = soC s (G 2 (4 * r + p)) from if_pos cq] at b
  rw [show fT s G t (4 * r + p) = soS s (G 2 (4 * r + p)) from if_pos cq] at c
  unfold jdC jdS RcC RcS PoC PoS
  generalize sm (fA G t) 6 = v1
  generalize sm (fB s G H t) 6 = v2
  generalize sm (fL s G H t) 10 = v3
  generalize dN G t = v4
  generalize sm (fW s G H t) 24 = w2 at a ⊢
  generalize sm (fS s G t) 24 = w4 at b ⊢
  generalize sm (fT s G t) 24 = w6 at c ⊢
  generalize tdC G = v5
  generalize tdS s G H x = v6
  omega
theorem sM_b346 (hS : SRC E t) {q f' : Int32} : aw (M_receive_b346 t q f' h l 0) (SRC E) := by
  unfold M_receive_b346
  exact aw_if (aw_if (aw_bind (sM_answer hS) fun _ h => aw_some h) (aw_some hS)) (aw_bind (sr_f (fM_takeAll (W := wM_takeAll) rfl mfr.rf) hS rfl) fun _ h => aw_some h)
theorem RvK.toTl {Q : cS → Nat → Nat → Prop} {W : List Nat} (k : RvK sa x A G H s t kc ks t' Q) (hR : RR G H sa x s t) (kA : (s.K A).1 = 6) (hF : hFr G t A) (m : mfr W t t') (d : dj [37, 70] W) : TlK sa x G H s t kc ks t' Q := fun G' H' s' kc' ks' R g h f o c1 c2 => by
  obtain ⟨o1, o2⟩ := o A kA hF
  refine k G' H' s' kc' ks' R ⟨g 0 (by decide) (by decide) (by decide) (by decide), g 1 (by decide) (by decide) (by decide) (by decide), g 2 (by decide) (by decide) (by decide) (by decide)⟩ h f.wk (hdX.of o1) o2 ?_ ?_
  · exact c1
  · exact c2
theorem c_rcv {Q : Option Nat → cS → Nat → Nat → Prop} (hR : RR G H sa x s t) (hM : MV t) (hAg : AGs t) (hE : EX Os t) (hO : ∀ r, (Os r).length ≤ 760) (hS : SRC E t) (hE6 : E.length ≤ 600) (hr : r < cR t) (hp : p < cI t r) (hH : HE H s A L f h l po ho) (hF : hFr G t A) (hI : IN t L) (hB : ∀ j, L.getD j 0 = nI (vc L j)) (h75 : t.I 75 (2 * (4 * r + p) + f) ≠ 0) (hin : f = 0 → sIn E t (t.I 71 (4 * r + p)) h) (hlL : lk < cL t) (h71 : t.I 71 (4 * r + p) = nI lk) (hs : ∃ d, t.I 23 lk = nI d ∧ d + 885 < 2 ^ 31) (hkc : RcC s G H t ≤ kc) (hks : RcS s G H x t ≤ ks) (k : ∀ t', M_receive t (nI (4 * r + p)) (nI f) h l po ho = some t' → MV t' → AGs t' → EX Os t' → SRC E t' → mfr Wrv t t' → SB lk (rq1 L) t t' → SD t t' → RvK sa x A G H s t kc ks t' (Q (some A))) : (ob (gP s 9 16 (G 1 r)) (fun v7 => (ob v7 (fun b8 => (ob (rE s .int b8 (0 : Int32)) (fun v9 => (ob (wEi s b8 (0 : Int32) (v9 + (1 : Int32))) (fun s10 => (okO s10 9 (G 1 r) ∧ C_Rr_judge sa (G 1 r) (some A) (some (G 2 (4 * r + p))) s10 kc ks (fun r11 sr11 cr11 dr11 => (if r11 = ((-1) : Int32) then (ob (some A) (fun b12 => (ob (gP sr11 2 0 b12) (fun v13 => (ob v13 (fun b14 => (okO sr11 0 b14 ∧ C_By_at sa b14 (0 : Int32) sr11 cr11 dr11 (fun r15 sr15 cr15 dr15 => (if r15 = (1 : Int32) then (okO sr15 9 (G 1 r) ∧ C_Rr_answer sa (G 1 r) (some b12) (some (G 2 (4 * r + p))) sr15 cr15 dr15 (fun sr17 cr17 dr17 => (Q (some b12) sr17 cr17 dr17))) else (okO sr15 9 (G 1 r) ∧ C_Rr_hearResponse sa (G 1 r) (some b12) (some (G 2 (4 * r + p))) sr15 cr15 dr15 (fun sr16 cr16 dr16 => (Q (some b12) sr16 cr16 dr16)))))))))))) else (ob (gP sr11 9 16 (G 1 r)) (fun v18 => (ob v18 (fun b19 => (ob (rE sr11 .int b19 r11) (fun v20 => (ob (wEi sr11 b19 r11 (v20 + (1 : Int32))) (fun s21 => (Q (some A) s21 cr11 dr11)))))))))))))))))))) := by
  have kA := hH.1
  have kA0 : (s.K A).1 ≠ 0 := by rw [kA]; decide
  have hf := hH.2.2.2.2
  have hq := hR.q.1
  have hT := hq.ty
  have h6 := hM.nR
  have h4 := hM.nIf hr
  have hl6 : L.length ≤ 600 := by obtain ⟨-, -, d, -, -, -, e, -⟩ := hH.2.1; exact e
  have e4 : nI (4 * r + p) / 4 = nI r := by
    have : nI (4 * r + p) / 4 = nI ((4 * r + p) / 4) := pk_div (d := 4) (by omega) (by decide) (by decide)
    rw [this]
    congr 1
    omega
  refine w_tly (i := 0) hq hr (by decide) ?_
  obtain ⟨R1, M1⟩ := rr_cnt (i := 0) (v := t.I 45 (11 * r + 0) + 1) hR hM hr (by decide)
  have R1 : RR G H sa x (tlC s G H t r 0) (tlM t r 0) := R1
  have M1 : MV (tlM t r 0) := M1
  have f1 := tl_fr (i := 0) hq hr
  have m1 := tl_m (t := t) (r := r) (i := 0)
  have K1 : (tlC s G H t r 0).K = s.K := rfl
  have P1 : (tlC s G H t r 0).P = s.P := rfl
  have A1 : AGs (tlM t r 0) := tl_ag hAg
  have E1 : EX Os (tlM t r 0) := tl_ex hE hM M1
  have S1 : SRC E (tlM t r 0) := hS.fr m1 rfl
  have eM1 : M_receive t (nI (4 * r + p)) (nI f) h l po ho = rcR (tlM t r 0) (nI (4 * r + p)) (nI f) h l po ho := by
    rw [rcR_e, e4]
    exact congrArg (fun y => Option.bind y (fun s1 => rcR s1 (nI (4 * r + p)) (nI f) h l po ho)) (m_tly (i := 0) hM hr (by decide))
  have XA : hdF H A s (tlC s G H t r 0) := hdF.fr f1 hT kA rfl (nin6 rfl) (by decide)
  have k1 : ∀ t', rcR (tlM t r 0) (nI (4 * r + p)) (nI f) h l po ho = some t' → MV t' → AGs t' → EX Os t' → SRC E t' → mfr Wrv (tlM t r 0) t' → SB lk (rq1 L) (tlM t r 0) t' → SD (tlM t r 0) t' → RvK sa x A G H (tlC s G H t r 0) (tlM t r 0) kc ks t' (Q (some A)) := fun t' w1 w2 w3 w4 w5 w6 w7 w8 => (k t' (eM1.trans w1) w2 w3 w4 w5 ((m1.wk (by decide)).tr w6) (((SB.fr (l := lk) (n := 0) m1 (by decide)).tr w7).wk (by omega)) ((SD.fr m1 rfl).tr w8)).same K1 P1 kA0 (hdX.of XA) f1.wk m1 rfl
  have z1 := pot_kp (G := G) (H := H) (t := tlM t r 0) K1 P1
  have z2 := pot_t (G := G) (H := H) (s := s) m1 rfl
  have z5 : tdS (tlC s G H t r 0) G H x = tdS s G H x := td_kp K1 P1
  have hkc1 : RcC (tlC s G H t r 0) G H (tlM t r 0) ≤ kc := by unfold RcC at hkc ⊢; rw [z1.1, z2.1]; exact hkc
  have hks1 : RcS (tlC s G H t r 0) G H x (tlM t r 0) ≤ ks := by unfold RcS at hks ⊢; rw [z1.2, z2.2, z5]; exact hks
  clear z1 z2 z5 k eM1
  generalize tlC s G H t r 0 = s1 at *
  generalize tlM t r 0 = t1 at *
  have hr1 : r < cR t1 := by unfold cR; rw [m1.S 37 (by decide)]; exact hr
  have hp1 : p < cI t1 r := by unfold cI; rw [m1.I 70 (by decide)]; exact hp
  have hl1 : lk < cL t1 := by unfold cL; rw [m1.S 17 (by decide)]; exact hlL
  have h711 : t1.I 71 (4 * r + p) = nI lk := by rw [m1.I 71 (by decide)]; exact h71
  have h751 : t1.I 75 (2 * (4 * r + p) + f) ≠ 0 := by rw [m1.I 75 (by decide)]; exact h75
  have kA1 : (s1.K A).1 = 6 := by rw [K1]; exact kA
  have H1 : HE H s1 A L f h l po ho := hH.hx (hdX.of XA) kA1
  have F1 : hFr G t1 A := by unfold hFr cF at hF ⊢; rw [m1.S 123 (by decide)]; exact hF
  have I1 : IN t1 L := hI.fr m1 rfl
  have hin1 : f = 0 → sIn E t1 (t1.I 71 (4 * r + p)) h := fun z => by rw [m1.I 71 (by decide)]; exact (hin z).fr m1 rfl
  have e231 : ∃ d, t1.I 23 lk = nI d ∧ d + 885 < 2 ^ 31 := by rw [m1.I 23 (by decide)]; exact hs
  have o9 : okO s1 9 (G 1 r) := okr (R1.q.1.rt hr1).1.1 9
  obtain ⟨jl1, jl2⟩ := jd_le (G := G) (H := H) (s := s1) (x := x) M1 hr1 hp1
  refine ⟨o9, c_judge R1 M1 S1 hE6 hr1 hp1 H1 I1 hB h751 hin1 (Nat.le_trans jl1 hkc1) (Nat.le_trans jl2 hks1) ⟨fun b s2 t2 kc2 ks2 hb o jb => ?_, fun i n s2 t2 kc2 ks2 o jb i5 s16 hi hn h560 h12 => ?_⟩⟩
  · -- a bad one
    obtain ⟨c1, c2⟩ := pot_jd (x := x) R1 M1 hr1 hp1 jb
    obtain ⟨⟨R2, M2, S2⟩, m2, f2, X2, -⟩ := jb
    have hr2 : r < cR t2 := by unfold cR; rw [m2.S 37 (by decide)]; exact hr1
    have b11 : b < 11 := by omega
    have A2 : AGs t2 := A1.m m2 (by decide)
    have E2 : EX Os t2 := E1.of M1 M2 (by unfold cR; rw [m2.S 37 (by decide)]) (fun _ _ => sEq.m m2 rfl) (fun _ _ z => by rw [m2.I 39 (by decide)] at z; exact z)
    refine ifF (fun z => oI_n1 b (by omega) z) (w_tly (i := b) R2.q.1 hr2 b11 ?_)
    obtain ⟨R3, M3⟩ := rr_cnt (i := b) (v := t2.I 45 (11 * r + b) + 1) R2 M2 hr2 b11
    have f3 := tl_fr (i := b) R2.q.1 hr2
    have m3 := tl_m (t := t2) (r := r) (i := b)
    rw [m_tly M2 hr2 b11] at o
    have kA2 : (s2.K A).1 = 6 := f2.r kA1
    have kk := (k1 (tlM t2 r b) o M3 (tl_ag A2) (tl_ex E2 M2 M3) (S2.fr m3 rfl) ((m2.wk (by decide)).tr (m3.wk (by decide))) (((SB.fr (l := lk) (n := 0) m2 (by decide)).tr (SB.fr (l := lk) (n := 0) m3 (by decide))).wk (Nat.zero_le _)) ((SD.fr m2 rfl).tr (SD.fr m3 rfl))).tr (G1 := G) (H1 := H) ⟨rfl, rfl, rfl⟩ hA.rf f2.wk (by rw [kA1]; decide) X2 c1 c2
    have X3 : hdF H A s2 (tlC s2 G H t2 r b) := hdF.fr f3 R2.q.1.ty kA2 rfl (nin6 rfl) (by decide)
    refine (kk.same (s1 := tlC s2 G H t2 r b) (t1 := tlM t2 r b) rfl rfl (by rw [kA2]; decide) (hdX.of X3) f3.wk m3 rfl) G H _ kc2 ks2 R3 ⟨rfl, rfl, rfl⟩ hA.rf fr.rf hdX.rf ?_ (Nat.le_refl _) (Nat.le_refl _)
    unfold hFr cF at F1 ⊢
    rw [m3.S 123 (by decide), m2.S 123 (by decide)]
    exact F1
  · -- a sound one
    obtain ⟨c1, c2⟩ := pot_jd (x := x) R1 M1 hr1 hp1 jb
    obtain ⟨⟨R2, M2, S2⟩, m2, f2, X2, -⟩ := jb
    have hr2 : r < cR t2 := by unfold cR; rw [m2.S 37 (by decide)]; exact hr1
    have hp2 : p < cI t2 r := by unfold cI; rw [m2.I 70 (by decide)]; exact hp1
    have hl2 : lk < cL t2 := by unfold cL; rw [m2.S 17 (by decide)]; exact hl1
    have h712 : t2.I 71 (4 * r + p) = nI lk := by rw [m2.I 71 (by decide)]; exact h711
    have h752 : t2.I 75 (2 * (4 * r + p) + f) ≠ 0 := by rw [m2.I 75 (by decide)]; exact h751
    have A2 : AGs t2 := A1.m m2 (by decide)
    have E2 : EX Os t2 := E1.of M1 M2 (by unfold cR; rw [m2.S 37 (by decide)]) (fun _ _ => sEq.m m2 rfl) (fun _ _ z => by rw [m2.I 39 (by decide)] at z; exact z)
    have kA2 : (s2.K A).1 = 6 := f2.r kA1
    have H2 : HE H s2 A L f h l po ho := H1.hx X2 kA2
    have F2 : hFr G t2 A := by unfold hFr cF at F1 ⊢; rw [m2.S 123 (by decide)]; exact F1
    have I2 : IN t2 L := I1.fr m2 rfl
    have V2 : mcV t2 (4 * r + p) = mcV t1 (4 * r + p) := by
      unfold mcV
      rw [m2.I 79 (by decide), m2.I 80 (by decide), m2.I 81 (by decide), m2.I 82 (by decide), m2.I 83 (by decide), m2.I 84 (by decide), m2.I 85 (by decide), m2.I 86 (by decide), m2.I 87 (by decide), m2.I 88 (by decide)]
    have o92 : okO s2 9 (G 1 r) := okr (R2.q.1.rt hr2).1.1 9
    have p40 := R2.q.1.ty.p kA2 40 3
    have hkc2 : RcC s2 G H t2 ≤ kc2 := ar_7 c1 hkc1
    have hks2 : RcS s2 G H x t2 ≤ ks2 := ar_7 c2 hks1
    have k2 : ∀ t', M_receive_b346 t2 (nI (4 * r + p)) (nI f) h l (if L.getD 0 0 = 2 then 1 else 0) = some t' → MV t' → AGs t' → EX Os t' → SRC E t' → mfr Wrv t2 t' → SB lk (rq1 L) t2 t' → SD t2 t' → RvK sa x A G H s2 t2 kc2 ks2 t' (Q (some A)) := fun t' w1 w2 w3 w4 w5 w6 w7 w8 => (k1 t' (o.trans w1) w2 w3 w4 w5 ((m2.wk (by decide)).tr w6) (((SB.fr (l := lk) (n := 0) m2 (by decide)).tr w7).wk (by omega)) ((SD.fr m2 rfl).tr w8)).tr ⟨rfl, rfl, rfl⟩ hA.rf f2.wk (by rw [kA1]; decide) X2 c1 c2
    have w0 : 0 < L.length := by omega
    refine ifT rfl ⟨A, rfl, _, gd_to (okr kA2 2), H 40 A, p40.1, okr p40.2 0, w_at (i := 0) H2.2.1 w0 ?_⟩
    rw [← hB 0]
    rcases h12 with c | c
    · -- a request
      rw [if_neg (by rw [c]; decide)] at k2
      refine ifT c ⟨o92, ?_⟩
      refine c_answer R2 M2 hr2 hp2 H2 F2 I2 hB h752 i5.1 i5.2 s16.1 s16.2 hn (by rw [V2]; exact h560) hl2 h712 (by rw [m2.I 23 (by decide)]; exact e231) hkc2 hks2 fun t' w1 w2 w3 w4 w5 => ?_
      exact (k2 t' w1 w2 (A2.m w3 (by decide)) (E2.of M2 w2 (by unfold cR; rw [w3.S 37 (by decide)]) (fun _ _ => sEq.m w3 rfl) (fun _ _ z => by rw [w3.I 39 (by decide)] at z; exact z)) (sM_b346 S2 t' w1) (w3.wk (by decide)) (by rw [show rq1 L = 885 from if_pos c]; exact w4) w5).toTl R2 kA2 F2 w3 rfl
    · -- a response
      rw [if_pos c] at k2
      refine ifF (by rw [c]; decide) ⟨o92, ?_⟩
      have pp := pot_p (G := G) (H := H) (s := s2) M2 hr2 hp2 hl2
      have g1 : potC G r ≤ kc2 := by unfold RcC at hkc2; omega
      have g2 : potS s2 G H r ≤ ks2 := by unfold RcS at hks2; omega
      refine c_hear R2 M2 A2 E2 hO hr2 hp2 H2 I2 hB h752 i5.1 i5.2 s16.1 s16.2 hn g1 g2 ?_
      intro G' H' s' t' kc' ks' b1 b2 b3 b4 b5 b6 b7 b8 b9 b10 b11 b12 b13
      have em : M_receive_b346 t2 (nI (4 * r + p)) (nI f) h l 1 = some t' := by
        unfold M_receive_b346
        rw [if_neg (by decide), b1]
        rfl
      obtain ⟨y1, y2⟩ := pot_set (t' := t2) R2 M2 hr2 mfr.rf b7 b8 b9 b10.wk b11 b12 b13
      have y3 := pot_t (G := G') (H := H') (s := s') b6 rfl
      obtain ⟨y4, y5⟩ := td_same (G' := G') (H' := H') R2.q.1.1 (b7 15 (by decide) (by decide)) b9 b10 (b10.p (R2.q.1.ty.p R2.q.1.1.1 237 29).2 (by decide))
      have X3 : hdF H A s2 s' := hdF.fr b10 R2.q.1.ty kA2 rfl (nin6 rfl) (by decide)
      refine k2 t' em b3 b4 b5 (S2.fr b6 rfl) (b6.wk (by decide)) (SB.fr b6 (by decide)) (SD.fr b6 rfl) G' H' s' kc' ks' b2 ⟨b7 0 (by decide) (by decide), b7 1 (by decide) (by decide), b7 2 (by decide) (by decide)⟩ b9 b10.wk (hdX.of X3) ?_ ?_ ?_
      · unfold hFr cF at F2 ⊢
        rw [b7 11 (by decide) (by decide), b7 12 (by decide) (by decide), b6.S 123 (by decide)]
        exact F2
      · unfold RcC
        rw [y4, y3.1]
        exact ar_v1 y1
      · unfold RcS
        rw [y5, y3.2]
        exact ar_v1 y2
end Rv
