/-! The end of a join, both sides: settled, then asked. -/
/-- tape, text and page stay as long as they are -/
def kb (x : Nat) (s s' : cS) : Prop := (s'.P 220 x = s.P 220 x ∧ s'.P 221 x = s.P 221 x ∧ s'.P 222 x = s.P 222 x) ∧ (∀ a, (s.K a).1 = 1 → s'.P 0 a = s.P 0 a) ∧ (∀ a, (s.K a).1 = 32 → s'.P 0 a = s.P 0 a) ∧ ∀ a, (s.K a).1 ≠ 0 → s'.K a = s.K a
theorem kb.rf {x : Nat} {s : cS} : kb x s s := ⟨⟨rfl, rfl, rfl⟩, fun _ _ => rfl, fun _ _ => rfl, fun _ _ => rfl⟩
theorem kb.tr {x : Nat} {s s1 s2 : cS} (h : kb x s s1) (g : kb x s1 s2) : kb x s s2 := by
  obtain ⟨⟨a1, a2, a3⟩, a4, a5, a6⟩ := h
  obtain ⟨⟨b1, b2, b3⟩, b4, b5, b6⟩ := g
  refine ⟨⟨b1.trans a1, b2.trans a2, b3.trans a3⟩, fun a h => ?_, fun a h => ?_, fun a h => ?_⟩
  · exact (b4 a (by rw [a6 a (by rw [h]; decide)]; exact h)).trans (a4 a h)
  · exact (b5 a (by rw [a6 a (by rw [h]; decide)]; exact h)).trans (a5 a h)
  · exact (b6 a (by rw [a6 a h]; exact h)).trans (a6 a h)
theorem kb.e {x : Nat} {s s1 : cS} (hK : s1.K = s.K) (hP : s1.P = s.P) : kb x s s1 := ⟨⟨by rw [hP], by rw [hP], by rw [hP]⟩, fun a _ => by rw [hP], fun a _ => by rw [hP], fun a _ => by rw [hK]⟩
theorem fr.kb {Rv Rq : List Nat} {Gp : List (Nat × Nat)} {x : Nat} {s s1 : cS} (f : fr Rv Gp Rq s s1) (hx : (s.K x).1 = 30) (d : djp [(220, 30), (221, 30), (222, 30), (0, 1), (0, 32)] Gp) : kb x s s1 := ⟨⟨f.p hx (d.n (220, 30)), f.p hx (d.n (221, 30)), f.p hx (d.n (222, 30))⟩, fun a h => f.p h (d.n (0, 1)), fun a h => f.p h (d.n (0, 32)), fun a h => (f a h).1⟩
/-- told stays, and tape, text and page -/
def tdk (x : Nat) (s s' : cS) : Prop := s'.P 237 x = s.P 237 x ∧ (∀ a, (s.K a).1 = 29 → (s'.K a).1 = 29 ∧ s'.P 200 a = s.P 200 a) ∧ (∀ w, (s.K w).1 = 144 → s'.K w = s.K w ∧ s'.Q w = s.Q w) ∧ kb x s s'
theorem tdk.rf {x : Nat} {s : cS} : tdk x s s := ⟨rfl, fun _ h => ⟨h, rfl⟩, fun _ _ => ⟨rfl, rfl⟩, kb.rf⟩
theorem tdk.tr {x : Nat} {s s1 s2 : cS} (h : tdk x s s1) (g : tdk x s1 s2) : tdk x s s2 := ⟨g.1.trans h.1, fun a ha => ⟨(g.2.1 a (h.2.1 a ha).1).1, ((g.2.1 a (h.2.1 a ha).1).2).trans (h.2.1 a ha).2⟩, fun w hw => by
  obtain ⟨h1, h2⟩ := h.2.2.1 w hw
  obtain ⟨g1, g2⟩ := g.2.2.1 w (by rw [h1]; exact hw)
  exact ⟨g1.trans h1, g2.trans h2⟩, h.2.2.2.tr g.2.2.2⟩
theorem tdk.e {x : Nat} {s s1 : cS} (hK : s1.K = s.K) (hP : s1.P = s.P) (hQ : s1.Q = s.Q) : tdk x s s1 := ⟨by rw [hP], fun a h => ⟨by rw [hK]; exact h, by rw [hP]⟩, fun w _ => ⟨by rw [hK], by rw [hQ]⟩, kb.e hK hP⟩
theorem fr.tdk {Rv Rq : List Nat} {Gp : List (Nat × Nat)} {x : Nat} {s s1 : cS} (f : fr Rv Gp Rq s s1) (hx : (s.K x).1 = 30) (d : djp [(237, 30), (200, 29), (220, 30), (221, 30), (222, 30), (0, 1), (0, 32)] Gp) (dq : dj [144] Rq) : tdk x s s1 := ⟨f.p hx (d.n (237, 30)), fun a h => ⟨f.r h, f.p h (d.n (200, 29))⟩, fun w h => ⟨(f w (by rw [h]; decide)).1, f.q h (dq.n 144)⟩, ⟨⟨f.p hx (d.n (220, 30)), f.p hx (d.n (221, 30)), f.p hx (d.n (222, 30))⟩, fun a h => f.p h (d.n (0, 1)), fun a h => f.p h (d.n (0, 32)), fun a h => (f a h).1⟩⟩
/-- the reader stays -/
def kp0 (x : Nat) (s s' : cS) : Prop := s'.P 223 x = s.P 223 x ∧ (∀ a, (s.K a).1 = 22 → (s'.K a).1 = 22 ∧ s'.P 140 a = s.P 140 a) ∧ kb x s s'
theorem kp0.rf {x : Nat} {s : cS} : kp0 x s s := ⟨rfl, fun _ h => ⟨h, rfl⟩, kb.rf⟩
theorem kp0.tr {x : Nat} {s s1 s2 : cS} (h : kp0 x s s1) (g : kp0 x s1 s2) : kp0 x s s2 := ⟨g.1.trans h.1, fun a ha => ⟨(g.2.1 a (h.2.1 a ha).1).1, ((g.2.1 a (h.2.1 a ha).1).2).trans (h.2.1 a ha).2⟩, h.2.2.tr g.2.2⟩
theorem fr.kp0 {Rv Rq : List Nat} {Gp : List (Nat × Nat)} {x : Nat} {s s1 : cS} (f : fr Rv Gp Rq s s1) (hx : (s.K x).1 = 30) (d : djp [(223, 30), (140, 22), (220, 30), (221, 30), (222, 30), (0, 1), (0, 32)] Gp) : kp0 x s s1 := ⟨f.p hx (d.n (223, 30)), fun a h => ⟨f.r h, f.p h (d.n (140, 22))⟩, ⟨⟨f.p hx (d.n (220, 30)), f.p hx (d.n (221, 30)), f.p hx (d.n (222, 30))⟩, fun a h => f.p h (d.n (0, 1)), fun a h => f.p h (d.n (0, 32)), fun a h => (f a h).1⟩⟩
/-- the reader and told stay -/
def kp (x : Nat) (s s' : cS) : Prop := s'.P 223 x = s.P 223 x ∧ (∀ a, (s.K a).1 = 22 → (s'.K a).1 = 22 ∧ s'.P 140 a = s.P 140 a) ∧ tdk x s s'
theorem kp.rf {x : Nat} {s : cS} : kp x s s := ⟨rfl, fun _ h => ⟨h, rfl⟩, tdk.rf⟩
theorem kp.tr {x : Nat} {s s1 s2 : cS} (h : kp x s s1) (g : kp x s1 s2) : kp x s s2 := ⟨g.1.trans h.1, fun a ha => ⟨(g.2.1 a (h.2.1 a ha).1).1, ((g.2.1 a (h.2.1 a ha).1).2).trans (h.2.1 a ha).2⟩, h.2.2.tr g.2.2⟩
theorem kp.e {x : Nat} {s s1 : cS} (hK : s1.K = s.K) (hP : s1.P = s.P) (hQ : s1.Q = s.Q) : kp x s s1 := ⟨by rw [hP], fun a h => ⟨by rw [hK]; exact h, by rw [hP]⟩, tdk.e hK hP hQ⟩
theorem fr.kp {Rv Rq : List Nat} {Gp : List (Nat × Nat)} {x : Nat} {s s1 : cS} (f : fr Rv Gp Rq s s1) (hx : (s.K x).1 = 30) (d : djp [(223, 30), (140, 22), (237, 30), (200, 29), (220, 30), (221, 30), (222, 30), (0, 1), (0, 32)] Gp) (dq : dj [144] Rq := by exact rfl) : kp x s s1 := ⟨f.p hx (d.n (223, 30)), fun a h => ⟨f.r h, f.p h (d.n (140, 22))⟩, ⟨f.p hx (d.n (237, 30)), fun a h => ⟨f.r h, f.p h (d.n (200, 29))⟩, fun w h => ⟨(f w (by rw [h]; decide)).1, f.q h (dq.n 144)⟩, ⟨⟨f.p hx (d.n (220, 30)), f.p hx (d.n (221, 30)), f.p hx (d.n (222, 30))⟩, fun a h => f.p h (d.n (0, 1)), fun a h => f.p h (d.n (0, 32)), fun a h => (f a h).1⟩⟩⟩
def jRs (sa : Nat → Nat) (rd b2 b4 q : Nat) (s : cS) (kc ks : Nat) (Q : Int32 → cS → Nat → Nat → Prop) : Prop := (ob (some b2) (fun b2 => (ob (gI s 9 3 b2) (fun v3 => (if v3 = 0 then (Q (0 : Int32) s kc ks) else (ob (some b4) (fun b4 => (ob (gI s 3 4 b4) (fun v5 => (if v5 = 0 then (Q (0 : Int32) s kc ks) else (okO s 9 b2 ∧ C_Rr_settlePort sa b2 (some q) s kc ks (fun sr6 cr6 dr6 => (ob (gP sr6 7 6 rd) (fun v7 => (ob v7 (fun b8 => (ob (gI sr6 5 0 b8) (fun v9 => (okO sr6 9 b2 ∧ C_Rr_ask sa b2 (some q) v9 sr6 cr6 dr6 (fun sr10 cr10 dr10 => (Q (0 : Int32) sr10 cr10 dr10)))))))))))))))))))))
abbrev Wje : List Nat := Wrow ++ ([146] ++ Wsd)
section Je
variable {sa : Nat → Nat} {x r p f l rd : Nat} {t t1 : moS} {Os : Nat → List Pf} {V : chV}
theorem j_end (hM : MV t) (hr : r < cR t) (hE : EX Os t) (hM1 : MV t1) (c : jnT r p t t1) (hf : f < 2) (ho : ∀ y, y ≠ 2 * (4 * r + p) + f → eqA t t1 y) (hO : (Os r).length < 760) (hl : l < cL t1) (h71 : t1.I 71 (4 * r + p) = nI l) (h75 : t1.I 75 (2 * (4 * r + p) + f) ≠ 0) (hV : VV V) (hC : MC t1 (4 * r + p) V) (hs : ¬ t1.I 23 l + 1 < 0) : ∃ t', eJ t1 (nI r) (nI l) (nI (4 * r + p)) (nI (2 * (4 * r + p) + f)) = some (0, t') ∧ MV t' ∧ EX (fun r' => if r' = r then neP t1 r (2 * p + f) :: Os r else Os r') t' ∧ mfr Wje t1 t' ∧ (t'.I 23 = t1.I 23 ∨ t'.I 23 = upd (t1.I 23) l (t1.I 23 l + 1)) ∧ ∀ G H s kc ks pr, RR G H sa x s t1 → okO s 7 rd → (s.K rd).1 = 22 → s.P 146 rd = some pr → (s.K pr).1 = 19 → s.I 100 pr = fam (nI f) → PoC s G H t1 ≤ kc → PoS s G H t1 ≤ ks → ∀ Q : Int32 → cS → Nat → Nat → Prop, (∀ G' H' s' kc' ks', RR G' H' sa x s' t' → kp x s s' → kc + PoC s' G' H' t' ≤ kc' + PoC s G H t1 → ks + PoS s' G' H' t' ≤ ks' + PoS s G H t1 → Q 0 s' kc' ks') → jRs sa rd (G 1 r) (G 0 l) (G 2 (4 * r + p)) s kc ks Q := by
  have h6 := hM.nR
  have eR : cR t1 = cR t := by unfold cR; rw [c.1.S 37 (by decide)]
  have hr1 : r < cR t1 := by rw [eR]; exact hr
  have hp1 : p < cI t1 r := c.2.2.1
  have h41 := hM1.nIf hr1
  have h10 : cL t1 ≤ 10 := hM1.1.2.2.2.2.2.1.n.2.2
  have hlc : (t1.I 71 (4 * r + p)).toNatClampNeg = l := by rw [h71, nI_clamp (by omega)]
  obtain ⟨tS, e1, e2, e3, e4, e5, e6⟩ := jn_set (sa := sa) (x := x) hM hr hE hM1 c hf ho hO
  rw [hlc] at e5 e6
  have mS := e4.1
  have r39 : rdI tS 39 (nI r) = some (t1.I 39 r) := by rw [rdI_n (n := 6) (e2.n.n 39 6) (by omega) (by decide), mS.I 39 (by decide)]
  have r22 : rdI tS 22 (nI l) = some (t1.I 22 l) := by rw [rdI_n (n := 10) (e2.n.n 22 10) (by omega) (by decide), mS.I 22 (by decide)]
  have same : ∀ {t' : moS}, mfr Wrow t1 t' → ∀ G H s, PoC s G H t' = PoC s G H t1 ∧ PoS s G H t' = PoS s G H t1 := fun {t'} m' G H s => by
    have eR : cR t' = cR t1 := by unfold cR; rw [m'.S 37 (by decide)]
    have eL : cL t' = cL t1 := by unfold cL; rw [m'.S 17 (by decide)]
    have eI : cI t' = cI t1 := by funext r; unfold cI; rw [m'.I 70 (by decide)]
    have eF : cF t' = cF t1 := by unfold cF; rw [m'.S 123 (by decide)]
    unfold PoC PoS fA fB fL fW fS fT dN
    rw [eR, eL, eF]
    have eI' : ∀ r, cI t' r = cI t1 r := fun r => congrFun eI r
    refine ⟨?_, ?_⟩ <;> simp only [eI']
  by_cases hru : t1.I 39 r ≠ 0 ∧ t1.I 22 l ≠ 0
  · obtain ⟨hrun, hup⟩ := hru
    have hrS : r < cR tS := by unfold cR; rw [mS.S 37 (by decide)]; exact hr1
    have hpS : p < cI tS r := by unfold cI; rw [mS.I 70 (by decide)]; exact hp1
    obtain ⟨te, g1, g2, g3⟩ := m_request (t := tS) e2.n (p1 := nI (4 * r + p)) (p2 := nI (2 * (4 * r + p) + f) - 2 * nI (4 * r + p))
    have ex : nI (2 * (4 * r + p) + f) - 2 * nI (4 * r + p) = nI f := by
      rw [show (2 : Int32) = nI 2 from rfl, pk_mul, Nat.add_comm, ← nI_add, Int32.add_sub_cancel]
    rw [ex] at g1
    have hMe : MV te := e2.fr g2 rfl (e2.1.fr g2 rfl)
    have mse : mfr (Wrow ++ [146]) t1 te := (mS.wk (by decide)).tr (g2.wk (by decide))
    have hf' : f = 0 ∨ f = 1 := by omega
    have hCe : MC te (4 * r + p) V := by
      unfold MC at hC ⊢
      rw [mse.I 79 (by decide), mse.I 80 (by decide), mse.I 81 (by decide), mse.I 82 (by decide), mse.I 83 (by decide), mse.I 84 (by decide), mse.I 85 (by decide), mse.I 86 (by decide), mse.I 87 (by decide), mse.I 88 (by decide)]
      exact hC
    have hre : r < cR te := by unfold cR; rw [g2.S 37 (by decide)]; exact hrS
    have hpe : p < cI te r := by unfold cI; rw [g2.I 70 (by decide)]; exact hpS
    have hle : l < cL te := by unfold cL; rw [mse.S 17 (by decide)]; exact hl
    have h71e : te.I 71 (4 * r + p) = nI l := by rw [mse.I 71 (by decide)]; exact h71
    have h23e : te.I 23 = t1.I 23 := mse.I 23 (by decide)
    obtain ⟨t', q1, q2, q3, q4⟩ := m_sendM (E := askE) (cmd := 1) (m := 1) (ta := 1) (th := 0) (tl := 0) hMe hre hpe hf' hle h71e hV hCe rfl (by decide) g3 (Or.inr rfl) (by rw [h23e]; exact hs)
    refine ⟨t', ?_, q2, ?_, mse.wk (by decide) |>.tr (q3.wk (by decide)), by rw [h23e] at q4; exact q4, fun G H s kc ks pr hR ord krd p146 k19 i100 hkc hks Q k => ?_⟩
    · unfold eJ
      rw [e1]
      simp only [Option.bind_some]
      rw [r39]
      simp only [Option.bind_some]
      rw [if_neg hrun, r22]
      simp only [Option.bind_some]
      rw [if_neg hup, ex, g1, q1]
      rfl
    · have mm : mfr ([146] ++ Wsd) tS t' := (g2.wk (by decide)).tr (q3.wk (by decide))
      refine e3.of e2 q2 (by unfold cR; rw [mm.S 37 (by decide)]) (fun r' _ => sEq.m mm rfl) (fun r' _ z => by rw [mm.I 39 (by decide)] at z; exact z)
    · have hq := hR.q.1
      have k26 := (hq.rt hr1).1.1
      have k7 := (hq.link hl).1.1
      obtain ⟨w1, w2⟩ := pot_p (G := G) (H := H) (s := s) hM1 hr1 hp1 hl
      unfold jRs
      refine ⟨_, rfl, _, gd_to (okr k26 9), ?_⟩
      rw [show s.I (20 * 9 + 3) (G 1 r) = t1.I 39 r from (hq.rt hr1).2.2.1.2.1]
      refine ifF hrun ⟨_, rfl, _, gd_to (okr k7 3), ?_⟩
      rw [show s.I (20 * 3 + 4) (G 0 l) = t1.I 22 l from (hq.link hl).2.2.1.2.2.2.1]
      refine ifF hup ⟨okr k26 9, e5 hrun hup G H s kc ks hR (by omega) (by omega) _ ?_⟩
      intro G2 H2 s2 kc2 ks2 R2 a1 a2 a3 a4 a5 a6 a7
      obtain ⟨b1, b2⟩ := pot_set (kc := kc) (kc' := kc2) (ks := ks) (ks' := ks2) hR hM1 hr1 mS a1 a2 a3 a4 a5 a6 a7
      have R2e : RR G2 H2 sa x s2 te := rr_fr R2 e2 R2.q.1.1 (fr.rf (Rv := []) (Gp := []) (Rq := [])) g2 rfl rfl rfl rfl rfl rfl rfl
      have p2 : s2.P 146 rd = some pr := (a4.p krd (by decide)).trans p146
      have i2 : s2.I 100 pr = fam (nI f) := ((a4.v k19 (by decide)).1 100).trans i100
      have eG1 : G2 1 = G 1 := a1 1 (by decide) (by decide)
      have eG2 : G2 2 = G 2 := a1 2 (by decide) (by decide)
      refine ⟨_, gd_to (okr (a4.r krd) 7), _, p2, _, gd_to (okr (a4.r k19) 5), okr (a4.r k26) 9, ?_⟩
      rw [show s2.I (20 * 5 + 0) pr = fam (nI f) from i2, ← eG1, ← eG2]
      have ec2 : PoC s2 G2 H2 te = PoC s2 G2 H2 tS ∧ PoS s2 G2 H2 te = PoS s2 G2 H2 tS := by
        have z1 : cR te = cR tS := by unfold cR; rw [g2.S 37 (by decide)]
        have z2 : cL te = cL tS := by unfold cL; rw [g2.S 17 (by decide)]
        have z3 : ∀ r, cI te r = cI tS r := fun r => by unfold cI; rw [g2.I 70 (by decide)]
        have z4 : cF te = cF tS := by unfold cF; rw [g2.S 123 (by decide)]
        unfold PoC PoS fA fB fL fW fS fT dN
        rw [z1, z2, z4]
        refine ⟨?_, ?_⟩ <;> simp only [z3]
      obtain ⟨y1, y2⟩ := pot_p (G := G2) (H := H2) (s := s2) hMe hre hpe hle
      rw [ec2.1] at y1
      rw [ec2.2] at y2
      refine c_ask R2e hMe hre hpe hf' (l := l) (by rw [h71e, nI_clamp (by omega)]) rfl (by rw [mse.I 75 (by decide)]; exact h75) g3 (by rw [h23e]; exact hs) (by omega) (by omega) q1 ?_
      intro G3 H3 s3 kc3 ks3 R3 d1 d2 d3 d4 d5 d6 d7 _
      obtain ⟨u1, u2⟩ := pot_ask (kc := kc2) (kc' := kc3) (ks := ks2) (ks' := ks3) R2e hMe hre hpe hle rfl q3 d1 d2 d3 d4 d5 d6 d7
      rw [ec2.1] at u1
      rw [ec2.2] at u2
      have hx := hq.1.1
      exact k G3 H3 s3 kc3 ks3 R3 ((a4.kp hx rfl).tr (d3.kp (a4.r hx) rfl)) (by omega) (by omega)
  · refine ⟨tS, ?_, e2, e3, mS.wk (by decide), Or.inl (mS.I 23 (by decide)), fun G H s kc ks pr hR ord krd p146 k19 i100 hkc hks Q k => ?_⟩
    · unfold eJ
      rw [e1]
      simp only [Option.bind_some]
      rw [r39]
      simp only [Option.bind_some]
      by_cases hrun : t1.I 39 r = 0
      · rw [if_pos hrun]
      · rw [if_neg hrun, r22]
        simp only [Option.bind_some]
        rw [if_pos (by
          by_cases z : t1.I 22 l = 0
          · exact z
          · exact absurd ⟨hrun, z⟩ hru)]
    · have hq := hR.q.1
      have k26 := (hq.rt hr1).1.1
      have k7 := (hq.link hl).1.1
      have fin : Q 0 s kc ks := k G H s kc ks (e6 hru G H s hR) kp.rf (by rw [(same mS G H s).1]; exact Nat.le_refl _) (by rw [(same mS G H s).2]; exact Nat.le_refl _)
      unfold jRs
      refine ⟨_, rfl, _, gd_to (okr k26 9), ?_⟩
      rw [show s.I (20 * 9 + 3) (G 1 r) = t1.I 39 r from (hq.rt hr1).2.2.1.2.1]
      by_cases hrun : t1.I 39 r = 0
      · exact ifT hrun fin
      · refine ifF hrun ⟨_, rfl, _, gd_to (okr k7 3), ?_⟩
        rw [show s.I (20 * 3 + 4) (G 0 l) = t1.I 22 l from (hq.link hl).2.2.1.2.2.2.1]
        exact ifT (by
          by_cases z : t1.I 22 l = 0
          · exact z
          · exact absurd ⟨hrun, z⟩ hru) fin
end Je
