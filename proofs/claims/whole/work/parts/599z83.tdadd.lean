/-! What is told, as the class keeps it: one more entry. -/
/-- the class's entries -/
def TDc (G H : Nat → Nat → Nat) (x : Nat) (s : cS) (f : Int32) (L : List En) : Prop := RTa s (H 237 x) 144 25 L.length (G 15 0) 2800 (fun j => G 16 j) ∧ ∀ j e, L[j]? = some e → PF s (H 160 (G 16 j)) (fam f) e.1 e.2.1 e.2.2.1 ∧ s.I 164 (G 16 j) = e.2.2.2.1 ∧ s.I 165 (G 16 j) = e.2.2.2.2
def cpD (s : cS) (H : Nat → Nat → Nat) (x : Nat) : Nat := (s.K ((s.P 200 (H 237 x)).getD 0)).2
def tdC (G : Nat → Nat → Nat) : Nat := 5 * (2800 - G 15 0)
def tdS (s : cS) (G H : Nat → Nat → Nat) (x : Nat) : Nat := 24 * (2800 - G 15 0) + (4 * 2800 - 2 * cpD s H x)
def tdG (G : Nat → Nat → Nat) (i n a hw : Nat) : Nat → Nat → Nat := fun b y => if b = 16 then (if y < i then G 16 y else if y = i then a else if y ≤ n then G 16 (y - 1) else G 16 y) else if b = 15 ∧ y = 0 then hw else G b y
abbrev Rtd : List Nat := [25, 29, 33, 34, 35]
abbrev Ptd : List (Nat × Nat) := [(166, 25), (200, 29)]
/-- how it goes on behind an entry -/
def TdK (G H : Nat → Nat → Nat) (sa : Nat → Nat) (x : Nat) (s : cS) (t : moS) (f : Int32) (L : List En) (kc ks : Nat) (Q : cS → Nat → Nat → Prop) : Prop := ∀ G' H' s' kc' ks', RR G' H' sa x s' t → (∀ b, b ≠ 15 → b ≠ 16 → G' b = G b) → hA H H' s → fr Rtd Ptd [144] s s' → TDc G' H' x s' f L → kc + tdC G' ≤ kc' + tdC G → ks + tdS s' G' H' x ≤ ks' + tdS s G H x → Q s' kc' ks'
def sKEQ (s s' : cS) : Prop := s'.K = s.K ∧ s'.E = s.E ∧ s'.Q = s.Q
theorem sKEQ.tr {s s1 s2 : cS} (h : sKEQ s s1) (g : sKEQ s1 s2) : sKEQ s s2 := ⟨g.1.trans h.1, g.2.1.trans h.2.1, g.2.2.trans h.2.2⟩
theorem sKEQ.pf {s : cS} {p : Nat} {f m : Int32} {h l : Int64} : sKEQ s (cSpf s p f h l m) ∧ (cSpf s p f h l m).P = s.P := ⟨⟨rfl, rfl, rfl⟩, rfl⟩
theorem sKEQ.si {s : cS} {g a : Nat} {v : Int32} : sKEQ s (cSI s g a v) ∧ (cSI s g a v).P = s.P := ⟨⟨rfl, rfl, rfl⟩, rfl⟩
theorem bg_r {s : cS} {a p p1 p2 p3 : Nat} {tag metric : Int32} : sKEQ s (bgS s a p p1 p2 p3 tag metric) ∧ ∀ g b, (bgS s a p p1 p2 p3 tag metric).P g b = if g = 166 ∧ b = a then none else s.P g b := by
  rw [bgS_e]
  unfold bg1 bg2
  generalize s.I 100 p = F
  generalize s.J 101 p = h
  generalize s.J 102 p = l
  generalize s.I 103 p = n
  generalize bts F = B
  obtain ⟨k1, q1⟩ := sKEQ.pf (s := s) (p := p1) (f := F) (h := h) (l := l) (m := n)
  generalize cSpf s p1 F h l n = u1 at k1 q1 ⊢
  obtain ⟨k2, q2⟩ := sKEQ.pf (s := u1) (p := p2) (f := F) (h := 0) (l := 0) (m := B)
  generalize cSpf u1 p2 F 0 0 B = u2 at k2 q2 ⊢
  obtain ⟨k3, q3⟩ := sKEQ.pf (s := u2) (p := p3) (f := F) (h := 0) (l := 0) (m := B)
  generalize cSpf u2 p3 F 0 0 B = u3 at k3 q3 ⊢
  obtain ⟨k4, q4⟩ := sKEQ.si (s := u3) (g := 163) (a := a) (v := 2)
  generalize cSI u3 163 a 2 = u4 at k4 q4 ⊢
  have k5 : sKEQ u4 (cSP u4 166 a none) := ⟨rfl, rfl, rfl⟩
  have q5 : ∀ g b, (cSP u4 166 a none).P g b = if g = 166 ∧ b = a then none else u4.P g b := fun g b => evP
  generalize cSP u4 166 a none = u5 at k5 q5 ⊢
  obtain ⟨k6, q6⟩ := sKEQ.si (s := u5) (g := 165) (a := a) (v := tag)
  generalize cSI u5 165 a tag = u6 at k6 q6 ⊢
  obtain ⟨k7, q7⟩ := sKEQ.si (s := u6) (g := 164) (a := a) (v := metric)
  generalize cSI u6 164 a metric = u7 at k7 q7 ⊢
  obtain ⟨k8, q8⟩ := sKEQ.si (s := u7) (g := 167) (a := a) (v := 0)
  refine ⟨((((((k1.tr k2).tr k3).tr k4).tr k5).tr k6).tr k7).tr k8, fun g b => ?_⟩
  rw [q8, q7, q6, q5, q4, q3, q2, q1]
section Td
variable {G H G' : Nat → Nat → Nat} {sa : Nat → Nat} {x kc ks p i n a hw hw' cap w : Nat} {s s' sF : cS} {t : moS} {f : Int32} {e : En} {L : List En}
theorem tdG_o {b : Nat} (h6 : b ≠ 15) (h7 : b ≠ 16) : tdG G i n a hw' b = G b := funext fun y => by
  unfold tdG
  rw [if_neg h7, if_neg (fun z => h6 z.1)]
theorem tdG_15 : tdG G i n a hw' 15 0 = hw' := rfl
theorem tdG_16 {y : Nat} : tdG G i n a hw' 16 y = if y < i then G 16 y else if y = i then a else if y ≤ n then G 16 (y - 1) else G 16 y := rfl
theorem td_src {q : Nat → Option Nat} (hi : i ≤ n) (hc : n < hw ∧ hw' = hw ∨ n = hw ∧ hw' = hw + 1) {j : Nat} (hj : j < hw') : (j = i ∧ tdG G i n a hw' 16 j = a ∧ inF q i n a j = some a) ∨ ∃ y, y < hw ∧ y ≠ n ∧ tdG G i n a hw' 16 j = G 16 y ∧ j = (if y < i then y else if y < n then y + 1 else y) ∧ inF q i n a j = q y := by
  rw [tdG_16]
  unfold inF
  by_cases z1 : j < i
  · rw [if_pos z1, if_pos z1]
    exact Or.inr ⟨j, by omega, by omega, rfl, by rw [if_pos z1], rfl⟩
  · rw [if_neg z1, if_neg z1]
    by_cases z2 : j = i
    · rw [if_pos z2, if_pos z2]
      exact Or.inl ⟨z2, rfl, rfl⟩
    · rw [if_neg z2, if_neg z2]
      by_cases z3 : j ≤ n
      · rw [if_pos z3, if_pos z3]
        exact Or.inr ⟨j - 1, by omega, by omega, rfl, by rw [if_neg (by omega), if_pos (by omega)]; omega, rfl⟩
      · rw [if_neg z3, if_neg z3]
        exact Or.inr ⟨j, by omega, by omega, rfl, by rw [if_neg z1, if_neg (by omega)], rfl⟩
theorem td_ta {tb : Nat} (hT : RTa s tb 144 25 n hw 2800 (fun j => G 16 j)) (hP : s.P 200 tb = some w) (hK : s.K w = (144, cap)) (hnc : n < cap) (hi : i ≤ n) (hc : n < hw ∧ hw' = hw ∨ n = hw ∧ hw' = hw + 1) (h27 : n < 2800) (ka : (s.K a).1 = 25) (nota : ∀ y, y < hw → y ≠ n → G 16 y ≠ a) (k1 : sF.K = s.K) (k2 : sF.P 200 tb = s.P 200 tb) (k3 : sF.I 201 tb = nI (n + 1)) (k4 : sF.Q w = inF (s.Q w) i n a) : RTa sF tb 144 25 (n + 1) hw' 2800 (fun j => tdG G i n a hw' 16 j) := by
  obtain ⟨c1, c2, c3, w0, cap0, d1, d2, d3, d4, d5, d6, d7, d8⟩ := hT
  rw [hP] at d1
  cases d1
  rw [hK] at d2
  cases d2
  have hb : n + 1 ≤ hw' ∧ hw' ≤ 2800 ∧ hw' ≤ cap ∧ hw ≤ hw' := by omega
  have src := fun j (hj : j < hw') => td_src (G := G) (a := a) (q := s.Q w) hi hc hj
  refine ⟨k3, hb.1, hb.2.1, w, cap, by rw [k2]; exact hP, by rw [k1]; exact hK, hb.2.2.1, d4, d5, fun j hj => ?_, fun j hj => ?_, fun y1 y2 hy1 hy2 z => ?_⟩
  · show sF.Q w j = some (tdG G i n a hw' 16 j) ∧ (sF.K (tdG G i n a hw' 16 j)).1 = 25
    rw [k4, k1]
    rcases src j hj with ⟨-, z2, z3⟩ | ⟨y, z1, z2, z3, z4, z5⟩
    · rw [z2, z3]
      exact ⟨rfl, ka⟩
    · rw [z3, z5]
      exact d6 y z1
  · rw [k4]
    unfold inF
    rw [if_neg (by omega), if_neg (by omega), if_neg (by omega)]
    exact d7 j (by omega)
  · have z : tdG G i n a hw' 16 y1 = tdG G i n a hw' 16 y2 := z
    rcases src y1 hy1 with ⟨z1, z2, -⟩ | ⟨u1, z1, z2, z3, z4, z5⟩ <;> rcases src y2 hy2 with ⟨x1, x2, -⟩ | ⟨u2, x1, x2, x3, x4, x5⟩
    · rw [z1, x1]
    · rw [z2, x3] at z
      exact absurd z.symm (nota u2 x1 x2)
    · rw [x2, z3] at z
      exact absurd z (nota u1 z1 z2)
    · rw [z3, x3] at z
      have := d8 u1 u2 z1 x1 z
      rw [z4, x4, this]
/-- only what is told is another -/
theorem rr_td (h : RR G H sa x s t) (hM : MV t) (e : ∀ b, b ≠ 15 → b ≠ 16 → G' b = G b) (hK : s'.K = s.K) (hP : ∀ g a, g ≠ 166 → s'.P g a = s.P g a) (f : fr Rtd [(166, 25)] [144] s s') (h5 : ∃ n, RTa s' (H 237 x) 144 25 n (G' 15 0) 2800 (fun j => G' 16 j)) : RR G' H sa x s' t := by
  have hq := h.q.1
  have e200 : ∀ a, s'.P 200 a = s.P 200 a := fun a => hP 200 a (by decide)
  have hg : RGl G' H sa x s' := hq.1.v3 hK (fun g a h1 _ => hP g a h1) f rfl rfl rfl h5 (fun a b d => by rw [e200, e200]; exact hq.1.2.2.2.2.2.2.2.2.1 a b d) (fun a ha => by rw [e200]; exact hq.1.2.2.2.2.2.2.2.2.2.2.2.2.2.2.2.2 a ha)
  have gl : ∀ b, b ∉ Gtb → G' b = G b := fun b hb => e b (fun z => hb (by rw [z]; decide)) (fun z => hb (by rw [z]; decide))
  have hx := hq.1.1
  refine rr_tb h hM gl hg ?_ f.wk (mfr.rf (W := Wtb)) (fun r hr => ?_) fun r hr => ?_
  · have : ∀ b, b < 15 → G' b = G b := fun b hb => e b (by omega) (by omega)
    have hI := hq.2.1
    unfold RIn at hI ⊢
    rw [this 0 (by decide), this 1 (by decide), this 2 (by decide), this 3 (by decide), this 4 (by decide), this 5 (by decide), this 6 (by decide), this 7 (by decide), this 8 (by decide), this 9 (by decide), this 10 (by decide), this 13 (by decide), this 14 (by decide)]
    exact hI
  · have := (f.v (hq.rt hr).1.1 (by decide)).1
    exact ⟨this 190, this 192⟩
  · have k26 := (hq.rt hr).1.1
    have h199 : s'.I 199 (G 1 r) = s.I 199 (G 1 r) := (f.v k26 (by decide)).1 199
    refine ⟨(hq.rt hr).fr hq.ty hx f hg.2.2.1 (mfr.rf (W := [])) rfl rfl rfl rfl, ?_, ?_⟩
    · have := (hq.tb hr).fr hq.ty k26 f h199 (mfr.rf (W := [])) rfl rfl rfl rfl
      unfold RTb RW ifp at this ⊢
      rw [e 13 (by decide) (by decide), e 4 (by decide) (by decide), e 1 (by decide) (by decide), e 2 (by decide) (by decide)]
      exact this
    · have := (hq.st hr).fr hq.ty k26 f (mfr.rf (W := [])) rfl rfl rfl rfl
      unfold RSt at this ⊢
      rw [e 14 (by decide) (by decide), e 6 (by decide) (by decide), e 7 (by decide) (by decide), e 1 (by decide) (by decide)]
      exact this
theorem td_cap (h : TDc G H x s f L) : ∃ w cap, s.P 200 (H 237 x) = some w ∧ s.K w = (144, cap) ∧ cpD s H x = cap := by
  obtain ⟨⟨-, -, -, w, cap, h1, h2, -⟩, -⟩ := h
  refine ⟨w, cap, h1, h2, ?_⟩
  unfold cpD
  rw [h1]
  show (s.K w).2 = cap
  rw [h2]
/-- the table as rows with keys -/
theorem td_tbo (hq : RQ G H sa x s t) (hT : TDc G H x s f L) (hs : eSo f L) (ho : ∀ a, a ∈ L → lnOk f a.2.2.1) (hf : bit f) : ∃ w cap, TbO s (H 237 x) w L.length cap (fun j => G 16 j) (fun j => H 160 (G 16 j)) ∧ s.P 200 (H 237 x) = some w ∧ s.K w = (144, cap) ∧ cpD s H x = cap ∧ ∀ j a, L[j]? = some a → cPk s (H 160 (G 16 j)) = kE f a := by
  obtain ⟨w, cap, h1, h2, h3⟩ := td_cap hT
  obtain ⟨⟨a1, a2, a3, w', cap', b1, b2, b3, b4, b5, b6, b7, b8⟩, hv⟩ := hT
  rw [h1] at b1
  cases b1
  rw [h2] at b2
  cases b2
  have kt := (hq.ty.p hq.1.1 237 29).2
  have ky : ∀ j a, L[j]? = some a → cPk s (H 160 (G 16 j)) = kE f a := fun j a ha => by
    obtain ⟨⟨p1, p2, p3, p4⟩, -⟩ := hv j a ha
    unfold cPk kE kyV
    rw [p1, p2, p3, p4]
  have gt : ∀ j, j < L.length → ∃ a, L[j]? = some a ∧ a ∈ L := fun j hj => ⟨L[j], List.getElem?_eq_getElem hj, List.getElem_mem hj⟩
  refine ⟨w, cap, ⟨okr kt 10, h1, a1, ⟨by rw [h2]; show 130 ≤ 144; decide, by rw [h2]; show 144 < 146; decide, by rw [h2]⟩, by omega, by omega, fun j hj => ?_, fun i j hij hj => ?_⟩, h1, h2, h3, ky⟩
  · obtain ⟨c1, c2⟩ := b6 j (by omega)
    have p160 := hq.ty.p c2 160 33
    obtain ⟨a, ha, hm⟩ := gt j hj
    obtain ⟨⟨p1, p2, p3, p4⟩, -⟩ := hv j a ha
    obtain ⟨m, em, hmm⟩ := (ho a hm).n
    refine ⟨c1, okr c2 8, p160.1, okr p160.2 5, if f = 0 then 4 else 6, m, ?_, ?_, by rw [p4, em], by omega⟩
    · rw [p1]
      rcases hf with rfl | rfl <;> rfl
    · split <;> omega
  · obtain ⟨a, ha, hm⟩ := gt i (by omega)
    obtain ⟨b, hb, hmb⟩ := gt j hj
    show cPk s (H 160 (G 16 i)) < cPk s (H 160 (G 16 j))
    rw [ky i a ha, ky j b hb]
    obtain ⟨hi', ei⟩ := List.getElem?_eq_some_iff.mp ha
    obtain ⟨hj', ej⟩ := List.getElem?_eq_some_iff.mp hb
    have := List.pairwise_iff_getElem.mp hs i j hi' hj' hij
    rw [ei, ej] at this
    exact this
theorem c_tdadd {Q : cS → Nat → Nat → Prop} (hR : RR G H sa x s t) (hM : MV t) (hf : bit f) (hT : TDc G H x s f L) (hL : L.length < 2800) (hs : eSo f L) (ho : ∀ a, a ∈ L → lnOk f a.2.2.1) (he : lnOk f e.2.2.1) (hn : ∀ a, a ∈ L → kE f a ≠ kE f e) (hp : PF s p (fam f) e.1 e.2.1 e.2.2.1) (h5 : okO s 5 p) (hro : (s.K p).1 ≠ 33 ∧ (s.K p).1 ≠ 34) (hkc : tdC G ≤ kc) (hks : tdS s G H x ≤ ks) (k : TdK G H sa x s t f (eIns f e L) kc ks Q) : C_Ta_add sa (H 237 x) (some p) e.2.2.2.2 e.2.2.2.1 s kc ks (fun _ s' kc' ks' => Q s' kc' ks') := by
  have hq := hR.q.1
  obtain ⟨w, cap, tbo, h1, h2, h3, ky⟩ := td_tbo hq hT hs ho hf
  have pok : pOk s p := by
    obtain ⟨p1, p2, p3, p4⟩ := hp
    obtain ⟨m, em, hmm⟩ := he.n
    refine ⟨h5, if f = 0 then 4 else 6, m, ?_, ?_, by rw [p4, em], by omega⟩
    · rw [p1]
      rcases hf with rfl | rfl <;> rfl
    · split <;> omega
  have kp : cPk s p = kE f e := by
    obtain ⟨p1, p2, p3, p4⟩ := hp
    unfold cPk kE kyV
    rw [p1, p2, p3, p4]
  have gt : ∀ j, j < L.length → ∃ a, L[j]? = some a ∧ a ∈ L := fun j hj => ⟨L[j], List.getElem?_eq_getElem hj, List.getElem_mem hj⟩
  refine w_add (u1 := 33) (u2 := 34) (u3 := 35) hR hM (Or.inr (Or.inr ⟨rfl, rfl, rfl, rfl⟩)) (by decide) rfl hT.1 (by decide) hL tbo pok hro hkc (by unfold tdS at hks; rw [h3] at hks; exact hks) ?_
  intro H' a i w' cap' hw' s1 kc' ks' R1 hA1 f1 pp hi lt gt' T1 P1 K1 hnc ka hc b1 b2
  have q1 := R1.q.1
  have hT1 := q1.ty
  have eH : H' 237 x = H 237 x := hA1 237 x (by rw [hq.1.1]; decide)
  have kt := (hq.ty.p hq.1.1 237 29).2
  have kt1 : (s1.K (H 237 x)).1 = 29 := f1.r kt
  have k33 := (hT1.p ka 160 33).2
  have k34 := (hT1.p ka 161 34).2
  have k35 := (hT1.p ka 162 35).2
  generalize hsF : bgS (cSI (cQs s1 w' (inF (s1.Q w') i L.length a)) 201 (H 237 x) (nI (L.length + 1))) a p (H' 160 a) (H' 161 a) (H' 162 a) e.2.2.2.2 e.2.2.2.1 = sF
  have hwp : s1.P 200 (H 237 x) = some w' := P1
  -- values
  have inI : ∀ g b, (cSI (cQs s1 w' (inF (s1.Q w') i L.length a)) 201 (H 237 x) (nI (L.length + 1))).I g b = if g = 201 ∧ b = H 237 x then nI (L.length + 1) else s1.I g b := fun g b => evI
  have inJ : ∀ g b, (cSI (cQs s1 w' (inF (s1.Q w') i L.length a)) 201 (H 237 x) (nI (L.length + 1))).J g b = s1.J g b := fun g b => rfl
  have vI : ∀ b, b ≠ a → b ≠ H 237 x → b ≠ H' 160 a → b ≠ H' 161 a → b ≠ H' 162 a → ∀ g, sF.I g b = s1.I g b := fun b n1 n2 n3 n4 n5 g => by
    rw [← hsF, bgI, if_neg (fun z => n1 z.2), if_neg (fun z => n1 z.2), if_neg (fun z => n1 z.2), if_neg (fun z => n1 z.2), if_neg (fun z => n5 z.2), if_neg (fun z => n5 z.2), if_neg (fun z => n4 z.2), if_neg (fun z => n4 z.2), if_neg (fun z => n3 z.2), if_neg (fun z => n3 z.2), inI, if_neg (fun z => n2 z.2)]
  have vJ : ∀ b, b ≠ H' 160 a → b ≠ H' 161 a → b ≠ H' 162 a → ∀ g, sF.J g b = s1.J g b := fun b n3 n4 n5 g => by
    rw [← hsF, bgJ, if_neg (fun z => n5 z.2), if_neg (fun z => n5 z.2), if_neg (fun z => n4 z.2), if_neg (fun z => n4 z.2), if_neg (fun z => n3 z.2), if_neg (fun z => n3 z.2), inJ]
  have br := bg_r (s := cSI (cQs s1 w' (inF (s1.Q w') i L.length a)) 201 (H 237 x) (nI (L.length + 1))) (a := a) (p := p) (p1 := H' 160 a) (p2 := H' 161 a) (p3 := H' 162 a) (tag := e.2.2.2.2) (metric := e.2.2.2.1)
  rw [hsF] at br
  obtain ⟨⟨br1, br2, br3⟩, br4⟩ := br
  have vK : sF.K = s1.K := br1
  have vE : sF.E = s1.E := br2
  have vP : ∀ g b, ¬ (g = 166 ∧ b = a) → sF.P g b = s1.P g b := fun g b h => by
    rw [br4, if_neg h]
    rfl
  have vQ : ∀ b, b ≠ w' → sF.Q b = s1.Q b := fun b h => by
    rw [br3]
    exact if_neg h
  have vQw : sF.Q w' = inF (s1.Q w') i L.length a := by rw [br3]; exact cQs_s
  clear br1 br2 br3 br4
  have ne_a : ∀ {b u : Nat}, (s1.K b).1 = u → u ≠ 25 → b ≠ a := fun h1 h2 z => h2 (by rw [← h1, z, ka])
  have fF : fr Rtd [(166, 25)] [144] s1 sF := fun b hb => by
    refine ⟨by rw [vK], fun hr => ?_, fun g hg => vP g b (fun z => hg ?_), fun hr => vQ b (fun z => hr ?_)⟩
    · have n1 : b ≠ a := fun z => hr (by rw [z, ka]; decide)
      have n2 : b ≠ H 237 x := fun z => hr (by rw [z, kt1]; decide)
      have n3 : b ≠ H' 160 a := fun z => hr (by rw [z, k33]; decide)
      have n4 : b ≠ H' 161 a := fun z => hr (by rw [z, k34]; decide)
      have n5 : b ≠ H' 162 a := fun z => hr (by rw [z, k35]; decide)
      exact ⟨vI b n1 n2 n3 n4 n5, vJ b n3 n4 n5, by rw [vE]⟩
    · rw [z.1, z.2, ka]; decide
    · rw [z, K1]; show 144 ∈ [144]; decide
  have hn' : L.length ≤ G 15 0 := hT.1.2.1
  have nota : ∀ y, y < G 15 0 → y ≠ L.length → G 16 y ≠ a := fun y hy hne z => by
    obtain ⟨-, -, -, w0, cap0, d1, d2, d3, d4, d5, d6, d7, d8⟩ := hT.1
    rcases hc with ⟨c1, -, c3⟩ | ⟨-, -, c3⟩
    · exact hne (d8 y L.length hy c1 (z.trans c3))
    · have this : (s.K (G 16 y)).1 = 25 := (d6 y hy).2
      rw [z, c3] at this
      exact absurd this (by decide)
  have ta := td_ta (sF := sF) (i := i) (a := a) (hw' := hw') T1 P1 K1 hnc hi (by rcases hc with ⟨c1, c2, -⟩ | ⟨c1, c2, -⟩ <;> omega) hL ka nota vK (vP 200 _ (fun z => absurd z.1 (by decide))) (by
    rw [← hsF]
    simp only [bgI, inI]
    simp) vQw
  have RF : RR (tdG G i L.length a hw') H' sa x sF t := by
    refine rr_td R1 hM (fun b h1 h2 => tdG_o h1 h2) vK (fun g b h => vP g b (fun z => h z.1)) fF ⟨L.length + 1, ?_⟩
    rw [eH]
    exact ta
  have eL : (eIns f e L) = L.take i ++ e :: L.drop i := eIns_at hi (fun j b hj hb => by
    have := lt j hj
    rw [ky j b hb, kp] at this
    exact this) (fun j b hj hb => by
    have hjl := (List.getElem?_eq_some_iff.mp hb).1
    have := gt' j hj hjl
    rw [ky j b hb, kp] at this
    have := hn b (List.mem_of_getElem? hb)
    omega)
  have TF : TDc (tdG G i L.length a hw') H' x sF f (eIns f e L) := by
    refine ⟨?_, fun j b hb => ?_⟩
    · rw [eIns_l, eH]; exact ta
    · rw [eL, ins_get hi] at hb
      show PF sF (H' 160 (tdG G i L.length a hw' 16 j)) _ _ _ _ ∧ sF.I 164 (tdG G i L.length a hw' 16 j) = _ ∧ sF.I 165 (tdG G i L.length a hw' 16 j) = _
      rw [tdG_16]
      have old : ∀ y, y < L.length → L[y]? = some b → PF sF (H' 160 (G 16 y)) (fam f) b.1 b.2.1 b.2.2.1 ∧ sF.I 164 (G 16 y) = b.2.2.2.1 ∧ sF.I 165 (G 16 y) = b.2.2.2.2 := fun y hy hb => by
        obtain ⟨z1, z2, z3⟩ := hT.2 y b hb
        obtain ⟨-, -, -, w0, cap0, d1, d2, d3, d4, d5, d6, d7, d8⟩ := hT.1
        have k25 := (d6 y (by omega)).2
        have k25' : (s1.K (G 16 y)).1 = 25 := f1.r k25
        have na : G 16 y ≠ a := nota y (by omega) (by omega)
        have p160 := hT1.p k25' 160 33
        have e160 : H' 160 (G 16 y) = H 160 (G 16 y) := hA1 160 _ (by rw [k25]; decide)
        have n3 : H' 160 (G 16 y) ≠ H' 160 a := fun z => na (hT1.i k25' ka 160 (by decide) z)
        have kk := p160.2
        have m1 : H' 160 (G 16 y) ≠ a := ne_a kk (by decide)
        have m2 : H' 160 (G 16 y) ≠ H 237 x := ne_ro kk kt1
        have m4 : H' 160 (G 16 y) ≠ H' 161 a := ne_ro kk k34
        have m5 : H' 160 (G 16 y) ≠ H' 162 a := ne_ro kk k35
        have v1 := vI _ m1 m2 n3 m4 m5
        have v2 := vJ _ n3 m4 m5
        have v3 := vI (G 16 y) na (ne_ro k25' kt1) (ne_ro k25' k33) (ne_ro k25' k34) (ne_ro k25' k35)
        have o1 := f1.v k25 (by decide)
        have k33' := (hq.ty.p k25 160 33).2
        have o2 := f1.v k33' (by decide)
        rw [v3, v3, o1.1, o1.1]
        refine ⟨?_, z2, z3⟩
        unfold PF at z1 ⊢
        rw [v1, v2, v2, v1, e160, o2.1, o2.2.1, o2.2.1, o2.1]
        exact z1
      by_cases c1 : j < i
      · rw [if_pos c1] at hb ⊢
        exact old j (List.getElem?_eq_some_iff.mp hb).1 hb
      · rw [if_neg c1] at hb ⊢
        by_cases c2 : j = i
        · rw [if_pos c2] at hb ⊢
          cases hb
          have kp1 : (s1.K p).1 = (s.K p).1 := by rw [(f1 p h5.n0).1]
          have np1 : p ≠ H' 160 a := fun z => hro.1 (by rw [← kp1, z]; exact k33)
          have np2 : p ≠ H' 161 a := fun z => hro.2 (by rw [← kp1, z]; exact k34)
          have o5 : okO s1 5 p := by unfold okO; rw [(f1 p h5.n0).1]; exact h5
          have npt : p ≠ H 237 x := fun z => by
            have := o5.2.2
            rw [z, kt1] at this
            exact absurd this (by decide)
          obtain ⟨p1, p2, p3, p4⟩ := hp
          have o1 := (f1 p h5.n0).2.1 (by simp)
          have e1 : H' 160 a ≠ a := ne_ro k33 ka
          have e12 : H' 160 a ≠ H' 161 a := ne_ro k33 k34
          have e13 : H' 160 a ≠ H' 162 a := ne_ro k33 k35
          have et : H' 160 a ≠ H 237 x := ne_ro k33 kt1
          have at1 : a ≠ H 237 x := ne_ro ka kt1
          rw [← hsF]
          refine ⟨⟨?_, ?_, ?_, ?_⟩, ?_, ?_⟩
          · simp only [bgI, inI]; simp [e1, e12, e13, npt, o1.1, p1]
          · simp only [bgJ, inJ]; simp [e12, e13, o1.2.1, p2]
          · simp only [bgJ, inJ]; simp [e12, e13, o1.2.1, p3]
          · simp only [bgI, inI]; simp [e1, e12, e13, npt, o1.1, p4]
          · simp only [bgI]; simp
          · simp only [bgI]; simp
        · rw [if_neg c2] at hb ⊢
          have := (List.getElem?_eq_some_iff.mp hb).1
          rw [if_pos (by omega)]
          exact old (j - 1) this hb
  have cD : cpD sF H' x = cap' := by
    unfold cpD
    rw [eH, vP 200 _ (fun z => absurd z.1 (by decide)), P1]
    show (sF.K w').2 = cap'
    rw [vK, K1]
  refine k (tdG G i L.length a hw') H' sF kc' ks' RF (fun b h1 h2 => tdG_o h1 h2) hA1 ?_ TF ?_ ?_
  · refine fr.tr (s1 := s1) (fun b hb => ?_) fF.wk
    obtain ⟨c1, c2, c3, c4⟩ := f1 b hb
    refine ⟨c1, fun _ => c2 (by simp), fun g hg => ?_, fun _ => c4 (by simp)⟩
    by_cases z : b = H 237 x
    · refine c3 g (fun y => hg ?_)
      rw [z, kt] at y ⊢
      simp at y
      rw [y]
      decide
    · exact pp b g z hb
  · unfold tdC
    rw [tdG_15]
    exact b1
  · unfold tdS
    rw [tdG_15, cD, h3]
    exact b2
end Td
