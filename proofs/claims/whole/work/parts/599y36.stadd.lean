/-! An own route more, or one of other numbers. -/
def inG6 (G : Nat → Nat → Nat) (r i n a hw : Nat) : Nat → Nat → Nat := fun b y => if b = 6 ∧ 32 * r ≤ y ∧ y < 32 * r + 32 then (if y < 32 * r + i then G 6 y else if y = 32 * r + i then a else if y ≤ 32 * r + n then G 6 (y - 1) else G 6 y) else if b = 7 ∧ 32 * r ≤ y ∧ y < 32 * r + 32 then (if y < 32 * r + i then G 7 y else if y = 32 * r + i then n else if y ≤ 32 * r + n then G 7 (y - 1) else G 7 y) else if b = 14 ∧ y = r then hw else G b y
def adM (t : moS) (r n : Nat) (f : Int32) (h l : Int64) (n' m tg : Int32) : moS := moSI (moSI (moSI (moSJ (moSJ (moSI (moSI t 46 r (nI (n + 1))) 47 (32 * r + n) f) 48 (32 * r + n) h) 49 (32 * r + n) l) 50 (32 * r + n) n') 51 (32 * r + n) m) 52 (32 * r + n) tg
section Sd
variable {G H : Nat → Nat → Nat} {sa : Nat → Nat} {x r w a i j n hw hw' b p cap : Nat} {s sF : cS} {t : moS} {f n' m tg : Int32} {h l : Int64}
theorem inG6_o (h6 : b ≠ 6) (h7 : b ≠ 7) (h14 : b ≠ 14) : inG6 G r i n a hw' b = G b := funext fun y => by
  unfold inG6
  rw [if_neg (fun z => h6 z.1), if_neg (fun z => h7 z.1), if_neg (fun z => h14 z.1)]
theorem inG6_14 {y : Nat} : inG6 G r i n a hw' 14 y = if y = r then hw' else G 14 y := by
  unfold inG6
  rw [if_neg (fun z => absurd z.1 (by decide)), if_neg (fun z => absurd z.1 (by decide))]
  by_cases c : y = r
  · rw [if_pos ⟨rfl, c⟩, if_pos c]
  · rw [if_neg (fun z => c z.2), if_neg c]
theorem inG6_6 (hj : j < 32) : inG6 G r i n a hw' 6 (32 * r + j) = if j < i then G 6 (32 * r + j) else if j = i then a else if j ≤ n then G 6 (32 * r + (j - 1)) else G 6 (32 * r + j) := by
  unfold inG6
  rw [if_pos ⟨rfl, by omega, by omega⟩]
  by_cases c1 : j < i
  · rw [if_pos (by omega), if_pos c1]
  · rw [if_neg (by omega), if_neg c1]
    by_cases c2 : j = i
    · rw [if_pos (by omega), if_pos c2]
    · rw [if_neg (by omega), if_neg c2]
      by_cases c3 : j ≤ n
      · rw [if_pos (by omega), if_pos c3, show 32 * r + j - 1 = 32 * r + (j - 1) by omega]
      · rw [if_neg (by omega), if_neg c3]
theorem inG6_7 (hj : j < 32) : inG6 G r i n a hw' 7 (32 * r + j) = if j < i then G 7 (32 * r + j) else if j = i then n else if j ≤ n then G 7 (32 * r + (j - 1)) else G 7 (32 * r + j) := by
  unfold inG6
  rw [if_neg (fun z => absurd z.1 (by decide)), if_pos ⟨rfl, by omega, by omega⟩]
  by_cases c1 : j < i
  · rw [if_pos (by omega), if_pos c1]
  · rw [if_neg (by omega), if_neg c1]
    by_cases c2 : j = i
    · rw [if_pos (by omega), if_pos c2]
    · rw [if_neg (by omega), if_neg c2]
      by_cases c3 : j ≤ n
      · rw [if_pos (by omega), if_pos c3, show 32 * r + j - 1 = 32 * r + (j - 1) by omega]
      · rw [if_neg (by omega), if_neg c3]
theorem inG6_ne {r' : Nat} (hne : r' ≠ r) (hj : j < 32) : inG6 G r i n a hw' 6 (32 * r' + j) = G 6 (32 * r' + j) ∧ inG6 G r i n a hw' 7 (32 * r' + j) = G 7 (32 * r' + j) := by
  unfold inG6
  constructor
  · rw [if_neg (fun z => by omega), if_neg (fun z => absurd z.1 (by decide)), if_neg (fun z => absurd z.1 (by decide))]
  · rw [if_neg (fun z => absurd z.1 (by decide)), if_neg (fun z => by omega), if_neg (fun z => absurd z.1 (by decide))]
theorem inG6_src {q : Nat → Option Nat} (hi : i ≤ n) (hc : n < hw ∧ hw' = hw ∨ n = hw ∧ hw' = hw + 1) (h27 : hw' ≤ 32) (hj : j < hw') : (j = i ∧ inG6 G r i n a hw' 6 (32 * r + j) = a ∧ inF q i n a j = some a) ∨ ∃ y, y < hw ∧ y ≠ n ∧ inG6 G r i n a hw' 6 (32 * r + j) = G 6 (32 * r + y) ∧ j = (if y < i then y else if y < n then y + 1 else y) ∧ inF q i n a j = q y := by
  rw [inG6_6 (by omega)]
  unfold inF
  by_cases z1 : j < i
  · rw [if_pos z1, if_pos z1]
    exact Or.inr ⟨j, by omega, by omega, rfl, by rw [if_pos z1], rfl⟩
  · rw [if_neg z1, if_neg z1]
    by_cases z2 : j = i
    · rw [if_pos z2, if_pos z2]
      exact Or.inl ⟨z2, rfl, rfl⟩
    · rw [if_neg z2, if_neg z2]
      by_cases z3 : j ≤ n
      · rw [if_pos z3, if_pos z3]
        exact Or.inr ⟨j - 1, by omega, by omega, rfl, by rw [if_neg (by omega), if_pos (by omega)]; omega, rfl⟩
      · rw [if_neg z3, if_neg z3]
        exact Or.inr ⟨j, by omega, by omega, rfl, by rw [if_neg z1, if_neg (by omega)], rfl⟩
theorem st_ta {tb : Nat} (hT : RTa s tb 145 24 n hw 32 (fun j => G 6 (32 * r + j))) (hP : s.P 200 tb = some w) (hK : s.K w = (145, cap)) (hnc : n < cap) (hi : i ≤ n) (hc : n < hw ∧ hw' = hw ∨ n = hw ∧ hw' = hw + 1) (h27 : n < 32) (ka : (s.K a).1 = 24) (nota : ∀ y, y < hw → y ≠ n → G 6 (32 * r + y) ≠ a) (k1 : sF.K = s.K) (k2 : sF.P 200 tb = s.P 200 tb) (k3 : sF.I 201 tb = nI (n + 1)) (k4 : sF.Q w = inF (s.Q w) i n a) : RTa sF tb 145 24 (n + 1) hw' 32 (fun j => inG6 G r i n a hw' 6 (32 * r + j)) := by
  obtain ⟨c1, c2, c3, w0, cap0, d1, d2, d3, d4, d5, d6, d7, d8⟩ := hT
  rw [hP] at d1
  cases d1
  rw [hK] at d2
  cases d2
  have hb : n + 1 ≤ hw' ∧ hw' ≤ 32 ∧ hw' ≤ cap ∧ hw ≤ hw' := by omega
  have src := fun j (hj : j < hw') => inG6_src (G := G) (r := r) (a := a) (q := s.Q w) hi hc hb.2.1 hj
  refine ⟨k3, hb.1, hb.2.1, w, cap, by rw [k2]; exact hP, by rw [k1]; exact hK, hb.2.2.1, d4, d5, fun j hj => ?_, fun j hj => ?_, fun y1 y2 hy1 hy2 z => ?_⟩
  · show sF.Q w j = some (inG6 G r i n a hw' 6 (32 * r + j)) ∧ (sF.K (inG6 G r i n a hw' 6 (32 * r + j))).1 = 24
    rw [k4, k1]
    rcases src j hj with ⟨-, z2, z3⟩ | ⟨y, z1, z2, z3, z4, z5⟩
    · rw [z2, z3]
      exact ⟨rfl, ka⟩
    · rw [z3, z5]
      exact d6 y z1
  · rw [k4]
    unfold inF
    rw [if_neg (by omega), if_neg (by omega), if_neg (by omega)]
    exact d7 j (by omega)
  · have z : inG6 G r i n a hw' 6 (32 * r + y1) = inG6 G r i n a hw' 6 (32 * r + y2) := z
    rcases src y1 hy1 with ⟨z1, z2, -⟩ | ⟨u1, z1, z2, z3, z4, z5⟩ <;> rcases src y2 hy2 with ⟨x1, x2, -⟩ | ⟨u2, x1, x2, x3, x4, x5⟩
    · rw [z1, x1]
    · rw [z2, x3] at z
      exact absurd z.symm (nota u2 x1 x2)
    · rw [x2, z3] at z
      exact absurd z (nota u1 z1 z2)
    · rw [z3, x3] at z
      have := d8 u1 u2 z1 x1 z
      rw [z4, x4, this]
abbrev adC (s : cS) (H : Nat → Nat → Nat) (tb w i n a p : Nat) (m tg : Int32) : cS := cSI (cSI (bgS (cSI (cQs s w (inF (s.Q w) i n a)) 201 tb (nI (n + 1))) a p (H 160 a) (H 161 a) (H 162 a) tg m) 164 a m) 165 a tg
theorem ad_cls (hT : TY cNo H s) (k1 : (s.K (G 1 r)).1 = 26) (ka : (s.K a).1 = 24) (hp : PF s p (fam f) h l n') : stC G H r a w s (adC s H (H 187 (G 1 r)) w i n a p m tg) ∧ (adC s H (H 187 (G 1 r)) w i n a p m tg).I 201 (H 187 (G 1 r)) = nI (n + 1) ∧ PF (adC s H (H 187 (G 1 r)) w i n a p m tg) (H 160 a) (fam f) h l n' ∧ ((adC s H (H 187 (G 1 r)) w i n a p m tg).I 164 a = m ∧ (adC s H (H 187 (G 1 r)) w i n a p m tg).I 165 a = tg) ∧ (adC s H (H 187 (G 1 r)) w i n a p m tg).Q w = inF (s.Q w) i n a := by
  have k9 := (hT.p ka 160 36).2
  have k10 := (hT.p ka 161 37).2
  have k11 := (hT.p ka 162 38).2
  have ktb := (hT.p k1 187 28).2
  have e1 : H 160 a ≠ a := ne_ro k9 ka
  have e12 : H 160 a ≠ H 161 a := ne_ro k9 k10
  have e13 : H 160 a ≠ H 162 a := ne_ro k9 k11
  obtain ⟨p1, p2, p3, p4⟩ := hp
  have inI : ∀ g b, (cSI (cQs s w (inF (s.Q w) i n a)) 201 (H 187 (G 1 r)) (nI (n + 1))).I g b = if g = 201 ∧ b = H 187 (G 1 r) then nI (n + 1) else s.I g b := fun g b => evI
  have inJ : ∀ g b, (cSI (cQs s w (inF (s.Q w) i n a)) 201 (H 187 (G 1 r)) (nI (n + 1))).J g b = s.J g b := fun g b => rfl
  have inQ : (cSI (cQs s w (inF (s.Q w) i n a)) 201 (H 187 (G 1 r)) (nI (n + 1))).Q w = inF (s.Q w) i n a := cQs_s
  have c0 : stC G H r a w s (cSI (cQs s w (inF (s.Q w) i n a)) 201 (H 187 (G 1 r)) (nI (n + 1))) := stC.q.tr (stC.i (Or.inl rfl))
  unfold adC
  generalize cSI (cQs s w (inF (s.Q w) i n a)) 201 (H 187 (G 1 r)) (nI (n + 1)) = s1 at inI inJ inQ c0 ⊢
  refine ⟨((c0.tr stC.bg).tr (stC.i (Or.inr (Or.inl rfl)))).tr (stC.i (Or.inr (Or.inl rfl))), ?_, ⟨?_, ?_, ?_, ?_⟩, ⟨?_, ?_⟩, inQ⟩
  · simp only [evI, bgI, inI]; simp
  · simp only [evI, bgI, inI]; simp [e1, e12, e13, p1]
  · simp only [cJI, bgJ, inJ]; simp [e12, e13, p2]
  · simp only [cJI, bgJ, inJ]; simp [e12, e13, p3]
  · simp only [evI, bgI, inI]; simp [e1, e12, e13, p4]
  · simp only [evI]; simp
  · simp only [evI]; simp
theorem ad_mod (hM : MV t) (hr : r < cR t) (hn : n = cSt t r) (h8 : n < 32) : stT r t (adM t r n f h l n' m tg) ∧ (adM t r n f h l n' m tg).I 46 r = nI (n + 1) ∧ (∀ g, g ∈ [47, 50, 51, 52] → ∀ y, y ≠ 32 * r + n → (adM t r n f h l n' m tg).I g y = t.I g y) ∧ (∀ g, g ∈ [48, 49] → ∀ y, y ≠ 32 * r + n → (adM t r n f h l n' m tg).J g y = t.J g y) ∧ (adM t r n f h l n' m tg).I 47 (32 * r + n) = f ∧ (adM t r n f h l n' m tg).J 48 (32 * r + n) = h ∧ (adM t r n f h l n' m tg).J 49 (32 * r + n) = l ∧ (adM t r n f h l n' m tg).I 50 (32 * r + n) = n' ∧ (adM t r n f h l n' m tg).I 51 (32 * r + n) = m ∧ (adM t r n f h l n' m tg).I 52 (32 * r + n) = tg := by
  have oI : ∀ g, g ∈ [47, 50, 51, 52] → ∀ y, y ≠ 32 * r + n → (adM t r n f h l n' m tg).I g y = t.I g y := fun g hg y hy => by
    unfold adM
    simp only [evMI, evIJ]
    simp only [List.mem_cons, List.not_mem_nil, or_false] at hg
    rcases hg with rfl | rfl | rfl | rfl <;> simp [hy]
  have oJ : ∀ g, g ∈ [48, 49] → ∀ y, y ≠ 32 * r + n → (adM t r n f h l n' m tg).J g y = t.J g y := fun g hg y hy => by
    unfold adM
    simp only [evMJ, evJI]
    simp only [List.mem_cons, List.not_mem_nil, or_false] at hg
    rcases hg with rfl | rfl <;> simp [hy]
  have o46 : ∀ y, (adM t r n f h l n' m tg).I 46 y = if y = r then nI (n + 1) else t.I 46 y := fun y => by
    unfold adM
    simp only [evMI, evIJ]
    simp
  refine ⟨⟨?_, fun j hj => by rw [o46, if_neg hj], fun g hg j hj => oI g hg j (by omega), fun g hg j hj => oJ g hg j (by omega)⟩, by rw [o46, if_pos rfl], oI, oJ, ?_, ?_, ?_, ?_, ?_, ?_⟩
  · unfold adM
    exact ((((((mfr.si (by decide)).tr (mfr.si (by decide))).tr (mfr.sj (by decide))).tr (mfr.sj (by decide))).tr (mfr.si (by decide))).tr (mfr.si (by decide))).tr (mfr.si (by decide))
  all_goals (unfold adM; simp only [evMI, evIJ, evMJ, evJI]; simp)
theorem rr_sta (hR : RR G H sa x s t) (hM : MV t) (hr : r < cR t) (hn : n = cSt t r) (h8 : n < 32) (hi : i ≤ n) (hf : lnOk f n') (hlt : ∀ j, j < i → cPk s (H 160 (G 6 (32 * r + j))) < kyV f h l n') (hgt : ∀ j, i ≤ j → j < n → kyV f h l n' < cPk s (H 160 (G 6 (32 * r + j)))) (hw : s.P 200 (H 187 (G 1 r)) = some w) (hK : s.K w = (145, cap)) (hnc : n < cap) (ka : (s.K a).1 = 24) (hnew : n < G 14 r ∧ hw' = G 14 r ∧ a = G 6 (32 * r + n) ∨ n = G 14 r ∧ hw' = G 14 r + 1 ∧ ∀ r' j, r' < cR t → j < G 14 r' → G 6 (32 * r' + j) ≠ a) (hp : PF s p (fam f) h l n') (hm : rng m 1 15) (htg : rng tg 0 65535) : RR (inG6 G r i n a hw') H sa x (adC s H (H 187 (G 1 r)) w i n a p m tg) (adM t r n f h l n' m tg) ∧ MV (adM t r n f h l n' m tg) := by
  have h6 := hM.nR
  have hq := hR.q.1
  have hT := hq.ty
  obtain ⟨b0, b1, b2⟩ := hq.st hr
  have b0 : RTa s (H 187 (G 1 r)) 145 24 (cSt t r) (G 14 r) 32 (fun j => G 6 (32 * r + j)) := b0
  rw [← hn] at b0
  have k1 := (hq.rt hr).1.1
  have h27 := b0.2.2.1
  have hnw := b0.2.1
  have d8 : ∀ i j, i < G 14 r → j < G 14 r → G 6 (32 * r + i) = G 6 (32 * r + j) → i = j := by
    obtain ⟨-, -, -, w0, cap0, -, -, -, -, -, -, -, d8⟩ := b0
    exact d8
  have d6 : ∀ j, j < G 14 r → (s.K (G 6 (32 * r + j))).1 = 24 := by
    obtain ⟨-, -, -, w0, cap0, -, -, -, -, -, d6, -⟩ := b0
    exact fun j hj => (d6 j hj).2
  have hc : n < G 14 r ∧ hw' = G 14 r ∨ n = G 14 r ∧ hw' = G 14 r + 1 := by
    rcases hnew with ⟨z1, z2, -⟩ | ⟨z1, z2, -⟩
    · exact Or.inl ⟨z1, z2⟩
    · exact Or.inr ⟨z1, z2⟩
  have nota : ∀ y, y < G 14 r → y ≠ n → G 6 (32 * r + y) ≠ a := fun y h1 h2 z => by
    rcases hnew with ⟨w1, -, w3⟩ | ⟨-, -, w3⟩
    · rw [w3] at z
      exact h2 (d8 y n h1 w1 z)
    · exact w3 r y hr h1 z
  have oth : ∀ r' j, r' < cR t → r' ≠ r → j < G 14 r' → G 6 (32 * r' + j) ≠ a := fun r' j hr' hne hj z => by
    rcases hnew with ⟨w1, -, w3⟩ | ⟨-, -, w3⟩
    · rw [w3] at z
      have hb := (hq.st hr').1.2.2.1
      have := hq.2.1.2.2.2.2.2.2.1 r' r j n hr' hr hj w1 z
      omega
    · exact w3 r' j hr' hj z
  obtain ⟨ct, e46, oI, oJ, v1, v2, v3, v4, v5, v6⟩ := ad_mod (f := f) (h := h) (l := l) (n' := n') (m := m) (tg := tg) hM hr hn h8
  generalize adM t r n f h l n' m tg = t3 at *
  obtain ⟨cc, s201, sPF, ⟨a164, a165⟩, hQ⟩ := ad_cls (m := m) (tg := tg) (i := i) (n := n) (w := w) hT k1 ka hp
  generalize adC s H (H 187 (G 1 r)) w i n a p m tg = sF at *
  have hTa := st_ta b0 hw hK hnc hi hc h8 ka nota cc.1 (cc.2.1 200 _ (by decide)) s201 hQ
  have eN : cSt t3 r = n + 1 := by unfold cSt; rw [e46, nI_clamp (by omega)]
  have e14 : inG6 G r i n a hw' 14 r = hw' := by rw [inG6_14]; exact if_pos rfl
  have hw27 : hw' ≤ 32 := by omega
  have ktb := (hT.p k1 187 28).2
  have k160 := (hT.p ka 160 36).2
  have k161 := (hT.p ka 161 37).2
  have k162 := (hT.p ka 162 38).2
  -- a row that was there
  have old : ∀ y, y < n → (∀ g, sF.I g (G 6 (32 * r + y)) = s.I g (G 6 (32 * r + y))) ∧ (∀ g, sF.I g (H 160 (G 6 (32 * r + y))) = s.I g (H 160 (G 6 (32 * r + y)))) ∧ ∀ g, sF.J g (H 160 (G 6 (32 * r + y))) = s.J g (H 160 (G 6 (32 * r + y))) := fun y hy => by
    have kc := d6 y (by omega)
    have hna := nota y (by omega) (by omega)
    have kc36 := (hT.p kc 160 36).2
    exact ⟨cc.2.2.2.2.2.1 _ (ne_ro kc ktb) hna (ne_ro kc k160) (ne_ro kc k161) (ne_ro kc k162), cc.2.2.2.2.2.1 _ (ne_ro kc36 ktb) (ne_ro kc36 ka) (fun z => hna (hT.i kc ka 160 (by decide) z)) (ne_ro kc36 k161) (ne_ro kc36 k162), cc.2.2.2.2.2.2 _ (fun z => hna (hT.i kc ka 160 (by decide) z)) (ne_ro kc36 k161) (ne_ro kc36 k162)⟩
  have ky : ∀ y, y < n → cPk sF (H 160 (G 6 (32 * r + y))) = cPk s (H 160 (G 6 (32 * r + y))) := fun y hy => by
    obtain ⟨-, q1, q2⟩ := old y hy
    unfold cPk
    rw [q1, q1, q2, q2]
  have src : ∀ j, j ≤ n → j ≠ i → inG6 G r i n a hw' 6 (32 * r + j) = G 6 (32 * r + (if i < j then j - 1 else j)) ∧ inG6 G r i n a hw' 7 (32 * r + j) = G 7 (32 * r + (if i < j then j - 1 else j)) := fun j h1 h2 => by
    rw [inG6_6 (by omega), inG6_7 (by omega)]
    by_cases z2 : i < j
    · rw [if_neg (by omega), if_neg h2, if_pos h1, if_pos z2, if_neg (by omega), if_neg h2, if_pos h1]
      exact ⟨rfl, rfl⟩
    · rw [if_pos (by omega), if_neg z2, if_pos (by omega)]
      exact ⟨rfl, rfl⟩
  have at6 : inG6 G r i n a hw' 6 (32 * r + i) = a ∧ inG6 G r i n a hw' 7 (32 * r + i) = n := by
    rw [inG6_6 (by omega), inG6_7 (by omega), if_neg (by omega), if_pos rfl, if_neg (by omega), if_pos rfl]
    exact ⟨rfl, rfl⟩
  have hS : RSt (inG6 G r i n a hw') H sF t3 r := by
    unfold RSt
    rw [inG6_o (b := 1) (by decide) (by decide) (by decide), show (t3.I 46 r).toNatClampNeg = n + 1 from eN, e14]
    refine ⟨hTa, fun j hj => ?_, fun j1 j2 h12 hj2 => ?_⟩
    · by_cases z : j = i
      · rw [z, at6.1, at6.2, v1, v2, v3, v4, v5, v6]
        exact ⟨by omega, sPF, a164, a165⟩
      · obtain ⟨q1, q2⟩ := src j (by omega) z
        have hy : (if i < j then j - 1 else j) < n := by split <;> omega
        rw [q1, q2]
        generalize (if i < j then j - 1 else j) = y at hy
        obtain ⟨w1, w2, w3, w4⟩ := b1 y (by have : y < cSt t r := by omega
                                            exact this)
        have w1' : G 7 (32 * r + y) < cSt t r := w1
        obtain ⟨u1, u2, u3⟩ := old y hy
        rw [oI 47 (by decide) _ (by omega), oI 50 (by decide) _ (by omega), oI 51 (by decide) _ (by omega), oI 52 (by decide) _ (by omega), oJ 48 (by decide) _ (by omega), oJ 49 (by decide) _ (by omega), u1, u1]
        obtain ⟨y1, y2, y3, y4⟩ := w2
        exact ⟨by omega, ⟨by rw [u2]; exact y1, by rw [u3]; exact y2, by rw [u3]; exact y3, by rw [u2]; exact y4⟩, w3, w4⟩
    · have kN : cPk sF (H 160 a) = kyV f h l n' := sPF.key
      by_cases z1 : j1 = i
      · rw [z1, at6.1, kN, (src j2 (by omega) (by omega)).1, if_pos (by omega), ky _ (by omega)]
        exact hgt _ (by omega) (by omega)
      · rw [(src j1 (by omega) z1).1, ky _ (by split <;> omega)]
        by_cases z2 : j2 = i
        · rw [z2, at6.1, kN, if_neg (by omega)]
          exact hlt _ (by omega)
        · rw [(src j2 (by omega) z2).1, ky _ (by split <;> omega)]
          refine b2 _ _ ?_ ?_
          · split <;> split <;> omega
          · have : (if i < j2 then j2 - 1 else j2) < cSt t r := by rw [← hn]; split <;> omega
            exact this
  constructor
  · refine rr_st hR hM hr (fun b h1 h2 h3 => inG6_o h1 h2 h3) (fun r' hr' hne => ⟨by rw [inG6_14]; exact if_neg hne, fun j hj => (inG6_ne hne ?_).1, fun j hj => (inG6_ne hne hj).2⟩) cc ct hw ka hS (fun j1 j2 h1 h2 z => ?_) oth fun j hj => ?_
    · have := (hq.st hr').1.2.2.1
      omega
    · rw [eN] at h1 h2
      have g7 : ∀ y, y < n → G 7 (32 * r + y) < n := fun y hy => by
        have : G 7 (32 * r + y) < cSt t r := (b1 y (by have : y < cSt t r := by omega
                                                       exact this)).1
        omega
      by_cases z1 : j1 = i <;> by_cases z2 : j2 = i
      · omega
      · exfalso
        rw [z1, at6.2, (src j2 (by omega) z2).2] at z
        have := g7 (if i < j2 then j2 - 1 else j2) (by split <;> omega)
        omega
      · exfalso
        rw [z2, at6.2, (src j1 (by omega) z1).2] at z
        have := g7 (if i < j1 then j1 - 1 else j1) (by split <;> omega)
        omega
      · rw [(src j1 (by omega) z1).2, (src j2 (by omega) z2).2] at z
        have q1 : (if i < j1 then j1 - 1 else j1) < cSt t r := by rw [← hn]; split <;> omega
        have q2 : (if i < j2 then j2 - 1 else j2) < cSt t r := by rw [← hn]; split <;> omega
        have := hq.2.1.2.2.2.2.2.2.2.2.2.2 r _ hr q1 _ q2 z
        revert this
        split <;> split <;> omega
    · rw [e14] at hj
      rcases inG6_src (G := G) (r := r) (a := a) (q := s.Q w) hi hc hw27 hj with ⟨z1, z2, -⟩ | ⟨y, z1, z2, z3, -⟩
      · exact Or.inl z2
      · exact Or.inr ⟨y, z1, z3⟩
  · refine mv_st hM hr ct ⟨n + 1, e46, by omega, by omega⟩ fun k hk => ?_
    rw [eN] at hk
    by_cases z : k = n
    · rw [z, v1, v4, v5, v6]
      exact ⟨hf, hm, htg⟩
    · rw [oI 47 (by decide) _ (by omega), oI 50 (by decide) _ (by omega), oI 51 (by decide) _ (by omega), oI 52 (by decide) _ (by omega)]
      exact hM.sl hr (by omega)
end Sd
