/-! An own route less. -/
def rmG6 (G : Nat → Nat → Nat) (r i n m : Nat) : Nat → Nat → Nat := fun b y => if b = 6 ∧ 32 * r ≤ y ∧ y < 32 * r + 32 then (if y < 32 * r + i then G 6 y else if y < 32 * r + n then G 6 (y + 1) else if y = 32 * r + n then G 6 (32 * r + i) else G 6 y) else if b = 7 ∧ 32 * r ≤ y ∧ y < 32 * r + 32 then (if m < (if y < 32 * r + i then G 7 y else G 7 (y + 1)) then (if y < 32 * r + i then G 7 y else G 7 (y + 1)) - 1 else (if y < 32 * r + i then G 7 y else G 7 (y + 1))) else G b y
abbrev fSI : List Nat := [47, 50, 51, 52]
abbrev fSJ : List Nat := [48, 49]
def rwS (t t' : moS) (g : Nat → Nat) : Prop := (∀ k, k ∈ fSI → ∀ y, t'.I k y = t.I k (g y)) ∧ ∀ k, k ∈ fSJ → ∀ y, t'.J k y = t.J k (g y)
def cp6 (t : moS) (a b : Nat) : moS := cpI 52 a b (cpI 51 a b (cpI 50 a b (cpJ 49 a b (cpJ 48 a b (cpI 47 a b t)))))
section Sr
variable {G H : Nat → Nat → Nat} {sa : Nat → Nat} {x r w a i j n m b : Nat} {s : cS} {t t' t1 t2 : moS}
theorem rmG6_o (h6 : b ≠ 6) (h7 : b ≠ 7) : rmG6 G r i n m b = G b := funext fun y => by
  unfold rmG6
  rw [if_neg (fun z => h6 z.1), if_neg (fun z => h7 z.1)]
theorem rmG6_6 (hj : j < 32) : rmG6 G r i n m 6 (32 * r + j) = G 6 (32 * r + (if j < i then j else if j < n then j + 1 else if j = n then i else j)) := by
  unfold rmG6
  rw [if_pos ⟨rfl, by omega, by omega⟩]
  by_cases c1 : j < i
  · rw [if_pos (by omega), if_pos c1]
  · rw [if_neg (by omega), if_neg c1]
    by_cases c2 : j < n
    · rw [if_pos (by omega), if_pos c2]; rfl
    · rw [if_neg (by omega), if_neg c2]
      by_cases c3 : j = n
      · rw [if_pos (by omega), if_pos c3]
      · rw [if_neg (by omega), if_neg c3]
theorem rmG6_7 (hj : j < 32) : rmG6 G r i n m 7 (32 * r + j) = if m < G 7 (32 * r + (if j < i then j else j + 1)) then G 7 (32 * r + (if j < i then j else j + 1)) - 1 else G 7 (32 * r + (if j < i then j else j + 1)) := by
  unfold rmG6
  rw [if_neg (fun z => absurd z.1 (by decide)), if_pos ⟨rfl, by omega, by omega⟩]
  by_cases c1 : j < i
  · rw [if_pos (show 32 * r + j < 32 * r + i by omega), if_pos c1]
  · rw [if_neg (show ¬ 32 * r + j < 32 * r + i by omega), if_neg c1]; rfl
theorem rmG6_ne {r' : Nat} (hne : r' ≠ r) (hj : j < 32) : rmG6 G r i n m 6 (32 * r' + j) = G 6 (32 * r' + j) ∧ rmG6 G r i n m 7 (32 * r' + j) = G 7 (32 * r' + j) := by
  unfold rmG6
  constructor
  · rw [if_neg (fun z => by omega), if_neg (fun z => absurd z.1 (by decide))]
  · rw [if_neg (fun z => absurd z.1 (by decide)), if_neg (fun z => by omega)]
theorem cp6_e (hN : ∀ k, k ∈ [47, 48, 49, 50, 51, 52] → t.N k = 192) (ha : a < 192) (hb : b < 192) {β : Type} {F : moS → Option β} : (Option.bind (rdI t 47 (nI a)) (fun x5 => (Option.bind (wrI t 47 (nI b) x5) (fun s6 => (Option.bind (rdJ s6 48 (nI a)) (fun x7 => (Option.bind (wrJ s6 48 (nI b) x7) (fun s8 => (Option.bind (rdJ s8 49 (nI a)) (fun x9 => (Option.bind (wrJ s8 49 (nI b) x9) (fun s10 => (Option.bind (rdI s10 50 (nI a)) (fun x11 => (Option.bind (wrI s10 50 (nI b) x11) (fun s12 => (Option.bind (rdI s12 51 (nI a)) (fun x13 => (Option.bind (wrI s12 51 (nI b) x13) (fun s14 => (Option.bind (rdI s14 52 (nI a)) (fun x15 => (Option.bind (wrI s14 52 (nI b) x15) F))))))))))))))))))))))) = F (cp6 t a b) := by
  refine (st_I (n := 192) (by exact hN 47 (by decide)) ha hb (by decide)).trans ?_
  refine (st_J (n := 192) (by exact hN 48 (by decide)) ha hb (by decide)).trans ?_
  refine (st_J (n := 192) (by exact hN 49 (by decide)) ha hb (by decide)).trans ?_
  refine (st_I (n := 192) (by exact hN 50 (by decide)) ha hb (by decide)).trans ?_
  refine (st_I (n := 192) (by exact hN 51 (by decide)) ha hb (by decide)).trans ?_
  refine (st_I (n := 192) (by exact hN 52 (by decide)) ha hb (by decide)).trans ?_
  rfl
theorem cp6_r : rwS t (cp6 t a b) (fun y => if y = b then a else y) ∧ mfr [47, 48, 49, 50, 51, 52] t (cp6 t a b) := by
  refine ⟨⟨?_, ?_⟩, ?_⟩
  · intro k hk y
    simp only [List.mem_cons, List.not_mem_nil, or_false] at hk
    unfold cp6
    rcases hk with rfl | rfl | rfl | rfl <;> · by_cases c : y = b <;> simp [cpI_I, cpJ_I, c]
  · intro k hk y
    simp only [List.mem_cons, List.not_mem_nil, or_false] at hk
    unfold cp6
    rcases hk with rfl | rfl <;> · by_cases c : y = b <;> simp [cpI_J, cpJ_J, c]
  · unfold cp6
    exact (((((mfr.si (by decide)).tr (mfr.sj (by decide))).tr (mfr.sj (by decide))).tr (mfr.si (by decide))).tr (mfr.si (by decide))).tr (mfr.si (by decide))
/-- the model takes one out -/
theorem m_rem (hM : MV t) (hr : r < cR t) (hn : cSt t r = n + 1) (hm : m ≤ n) : ∃ t', (∀ o, (Option.bind (M_settle t' (nI r)) fun s4 => some ((0 : Int32), s4)) = some o → M_lineNostatic_b68 t (nI r) (nI (32 * r + m)) = some o) ∧ stT r t t' ∧ t'.I 46 r = nI n ∧ (∀ g, g ∈ fSI → ∀ k, k < n → t'.I g (32 * r + k) = t.I g (32 * r + (if k < m then k else k + 1))) ∧ ∀ g, g ∈ fSJ → ∀ k, k < n → t'.J g (32 * r + k) = t.J g (32 * r + (if k < m then k else k + 1)) := by
  have h6 := hM.nR
  obtain ⟨e46, h32⟩ := hM.st hr
  have e32 : (32 : Int32) * nI r = nI (32 * r) := by rw [show (32 : Int32) = nI 32 from rfl, pk_mul]
  rw [hn] at e46
  have N46 : t.N 46 = 6 := hM.n.n 46 6
  have hN : ∀ k, k ∈ [47, 48, 49, 50, 51, 52] → t.N k = 192 := fun k hk => by
    simp only [List.mem_cons, List.not_mem_nil, or_false] at hk
    rcases hk with rfl | rfl | rfl | rfl | rfl | rfl <;> exact hM.n.n _ 192
  have loop : ∀ q k tk, k + q = n → m ≤ k → mfr [47, 48, 49, 50, 51, 52] t tk → rwS t tk (fun y => if 32 * r + m ≤ y ∧ y < 32 * r + k then y + 1 else y) → ∃ tn, mfr [47, 48, 49, 50, 51, 52] t tn ∧ rwS t tn (fun y => if 32 * r + m ≤ y ∧ y < 32 * r + n then y + 1 else y) ∧ ∀ o, (Option.bind (M_settle (moSI tn 46 r (nI n)) (nI r)) fun s4 => some ((0 : Int32), s4)) = some o → lp (fun x : Int32 × moS => M_lineNostatic_s68 x.2 (nI r) x.1) (nI (32 * r + k), tk) = some o := by
    intro q
    induction q with
    | zero =>
      intro k tk hk hmk mk rk
      have e : k = n := by omega
      subst e
      refine ⟨tk, mk, rk, fun o ho => lp_x ?_⟩
      show M_lineNostatic_s68 tk (nI r) (nI (32 * r + k)) = _
      have Nk : tk.N 46 = 6 := by rw [mk.2 46 (Or.inl (by decide))]; exact N46
      unfold M_lineNostatic_s68
      rw [rdI_n (n := 6) Nk (by omega) (by decide), mk.I 46 (by decide), e46]
      simp only [Option.bind_some]
      rw [show nI (32 * r + k) + 1 = nI (32 * r + k + 1) from nI_add _ 1, e32, nI_add, if_neg (nI_nlt (by omega) (by omega)), show nI (k + 1) - 1 = nI k from by rw [show (1 : Int32) = nI 1 from rfl, pk_sub (by omega)]; rfl, wrI_n (n := 6) Nk (by omega) (by decide)]
      simp only [Option.bind_some]
      rw [ho]
    | succ q ih =>
      intro k tk hk hmk mk rk
      have Nk : tk.N 46 = 6 := by rw [mk.2 46 (Or.inl (by decide))]; exact N46
      have hNk : ∀ k, k ∈ [47, 48, 49, 50, 51, 52] → tk.N k = 192 := fun k hk => by rw [mk.2 k (Or.inr (by revert hk; revert k; decide +kernel))]; exact hN k hk
      obtain ⟨r1, m1⟩ := cp6_r (t := tk) (a := 32 * r + (k + 1)) (b := 32 * r + k)
      have st : M_lineNostatic_s68 tk (nI r) (nI (32 * r + k)) = some (.inl (nI (32 * r + (k + 1)), cp6 tk (32 * r + (k + 1)) (32 * r + k))) := by
        unfold M_lineNostatic_s68
        rw [rdI_n (n := 6) Nk (by omega) (by decide), mk.I 46 (by decide), e46]
        simp only [Option.bind_some]
        rw [show nI (32 * r + k) + 1 = nI (32 * r + (k + 1)) from nI_add _ 1, e32, nI_add, if_pos (nI_lt (by omega) (by omega))]
        exact cp6_e hNk (by omega) (by omega)
      obtain ⟨tn, q1, q2, q3⟩ := ih (k + 1) (cp6 tk (32 * r + (k + 1)) (32 * r + k)) (by omega) (by omega) (mk.tr m1) (by
        constructor
        · intro g hg y
          rw [r1.1 g hg, rk.1 g hg]
          dsimp only
          by_cases c1 : y = 32 * r + k
          · rw [if_pos c1, if_neg (by omega), if_pos (by omega)]; congr 1; omega
          · rw [if_neg c1]
            by_cases c2 : 32 * r + m ≤ y ∧ y < 32 * r + k
            · rw [if_pos c2, if_pos (by omega)]
            · rw [if_neg c2, if_neg (by omega)]
        · intro g hg y
          rw [r1.2 g hg, rk.2 g hg]
          dsimp only
          by_cases c1 : y = 32 * r + k
          · rw [if_pos c1, if_neg (by omega), if_pos (by omega)]; congr 1; omega
          · rw [if_neg c1]
            by_cases c2 : 32 * r + m ≤ y ∧ y < 32 * r + k
            · rw [if_pos c2, if_pos (by omega)]
            · rw [if_neg c2, if_neg (by omega)])
      refine ⟨tn, q1, q2, fun o ho => ?_⟩
      rw [lp_l (show (fun x : Int32 × moS => M_lineNostatic_s68 x.2 (nI r) x.1) (nI (32 * r + k), tk) = _ from st)]
      exact q3 o ho
  obtain ⟨tn, m1, r1, e1⟩ := loop (n - m) m t (by omega) (Nat.le_refl _) mfr.rf ⟨fun k _ y => by dsimp only; rw [if_neg (by omega)], fun k _ y => by dsimp only; rw [if_neg (by omega)]⟩
  have tI : ∀ g, g ∈ fSI → (moSI tn 46 r (nI n)).I g = tn.I g := fun g hg => moSI_n (fun z => by rw [z] at hg; exact absurd hg (by decide))
  refine ⟨moSI tn 46 r (nI n), fun o ho => ?_, ⟨(m1.wk (by decide)).tr (mfr.si (by decide)), fun j hj => ?_, fun g hg j hj => ?_, fun g hg j hj => ?_⟩, ?_, fun g hg k hk => ?_, fun g hg k hk => ?_⟩
  · unfold M_lineNostatic_b68
    exact e1 o ho
  · rw [evMI, if_neg (fun z => hj z.2), m1.I 46 (by decide)]
  · rw [tI g hg, r1.1 g hg]
    dsimp only
    rw [if_neg (by omega)]
  · show tn.J g j = _
    rw [r1.2 g hg]
    dsimp only
    rw [if_neg (by omega)]
  · rw [evMI, if_pos ⟨rfl, rfl⟩]
  · rw [tI g hg, r1.1 g hg]
    dsimp only
    by_cases c : k < m
    · rw [if_neg (by omega), if_pos c]
    · rw [if_pos (by omega), if_neg c]; rfl
  · show tn.J g (32 * r + k) = _
    rw [r1.2 g hg]
    dsimp only
    by_cases c : k < m
    · rw [if_neg (by omega), if_pos c]
    · rw [if_pos (by omega), if_neg c]; rfl
/-- and the class: the relation behind it -/
theorem rr_str (hR : RR G H sa x s t) (hM : MV t) (hr : r < cR t) (hn : cSt t r = n + 1) (hi : i ≤ n) (em : m = G 7 (32 * r + i)) (hw : s.P 200 (H 187 (G 1 r)) = some w) (ct : stT r t t') (e46 : t'.I 46 r = nI n) (oI : ∀ g, g ∈ fSI → ∀ k, k < n → t'.I g (32 * r + k) = t.I g (32 * r + (if k < m then k else k + 1))) (oJ : ∀ g, g ∈ fSJ → ∀ k, k < n → t'.J g (32 * r + k) = t.J g (32 * r + (if k < m then k else k + 1))) : RR (rmG6 G r i n m) H sa x (cQs (cSI s 201 (H 187 (G 1 r)) (nI n)) w (rmF (s.Q w) i n)) t' ∧ MV t' ∧ stC G H r (G 6 (32 * r + i)) w s (cQs (cSI s 201 (H 187 (G 1 r)) (nI n)) w (rmF (s.Q w) i n)) := by
  have h6 := hM.nR
  have h32 := (hM.st hr).2
  have hq := hR.q.1
  have hT := hq.ty
  obtain ⟨b0, b1, b2⟩ := hq.st hr
  have b0 : RTa s (H 187 (G 1 r)) 145 24 (cSt t r) (G 14 r) 32 (fun j => G 6 (32 * r + j)) := b0
  have b1 : ∀ j, j < cSt t r → G 7 (32 * r + j) < cSt t r ∧ PF s (H 160 (G 6 (32 * r + j))) (fam (t.I 47 (32 * r + G 7 (32 * r + j)))) (t.J 48 (32 * r + G 7 (32 * r + j))) (t.J 49 (32 * r + G 7 (32 * r + j))) (t.I 50 (32 * r + G 7 (32 * r + j))) ∧ s.I 164 (G 6 (32 * r + j)) = t.I 51 (32 * r + G 7 (32 * r + j)) ∧ s.I 165 (G 6 (32 * r + j)) = t.I 52 (32 * r + G 7 (32 * r + j)) := b1
  have b2 : ∀ i j, i < j → j < cSt t r → cPk s (H 160 (G 6 (32 * r + i))) < cPk s (H 160 (G 6 (32 * r + j))) := b2
  have i7 : ∀ i j, i < cSt t r → j < cSt t r → G 7 (32 * r + i) = G 7 (32 * r + j) → i = j := fun i j h1 h2 z => hq.2.1.2.2.2.2.2.2.2.2.2.2 r i hr h1 j h2 z
  rw [hn] at b0 b1 b2 i7
  obtain ⟨c1, c2, c3, w0, cap, d1, d2, d3, d4, d5, d6, d7, d8⟩ := id b0
  rw [hw] at d1
  cases d1
  have k1 := (hq.rt hr).1.1
  have ka : (s.K (G 6 (32 * r + i))).1 = 24 := (d6 i (by omega)).2
  have hm : m < n + 1 := by rw [em]; exact (b1 i (by omega)).1
  have cc : stC G H r (G 6 (32 * r + i)) w s (cQs (cSI s 201 (H 187 (G 1 r)) (nI n)) w (rmF (s.Q w) i n)) := (stC.i (Or.inl rfl)).tr stC.q
  have s201 : (cQs (cSI s 201 (H 187 (G 1 r)) (nI n)) w (rmF (s.Q w) i n)).I 201 (H 187 (G 1 r)) = nI n := (cSI_s (s := s) : (cSI s 201 (H 187 (G 1 r)) (nI n)).I 201 (H 187 (G 1 r)) = nI n)
  have sQ : (cQs (cSI s 201 (H 187 (G 1 r)) (nI n)) w (rmF (s.Q w) i n)).Q w = rmF (s.Q w) i n := cQs_s
  have sI : ∀ g b, g ≠ 201 → (cQs (cSI s 201 (H 187 (G 1 r)) (nI n)) w (rmF (s.Q w) i n)).I g b = s.I g b := fun g b hg => cSI_g hg
  have sJ : (cQs (cSI s 201 (H 187 (G 1 r)) (nI n)) w (rmF (s.Q w) i n)).J = s.J := rfl
  refine ⟨?_, ?_, cc⟩
  · generalize cQs (cSI s 201 (H 187 (G 1 r)) (nI n)) w (rmF (s.Q w) i n) = sF at *
    have eN : cSt t' r = n := by unfold cSt; rw [e46, nI_clamp (by omega)]
    have e14 : rmG6 G r i n m 14 = G 14 := rmG6_o (by decide) (by decide)
    have ky : ∀ b, cPk sF b = cPk s b := fun b => by unfold cPk; rw [sI _ _ (by decide), sI _ _ (by decide), sJ]
    have g7 : ∀ j, j < n → rmG6 G r i n m 7 (32 * r + j) < n ∧ (if rmG6 G r i n m 7 (32 * r + j) < m then rmG6 G r i n m 7 (32 * r + j) else rmG6 G r i n m 7 (32 * r + j) + 1) = G 7 (32 * r + (if j < i then j else j + 1)) := fun j hj => by
      rw [rmG6_7 (by omega)]
      have hy : (if j < i then j else j + 1) < n + 1 ∧ (if j < i then j else j + 1) ≠ i := by split <;> omega
      generalize (if j < i then j else j + 1) = y at hy
      have q1 := (b1 y hy.1).1
      have q2 : G 7 (32 * r + y) ≠ m := fun z => hy.2 (i7 y i hy.1 (by omega) (by rw [z]; exact em))
      by_cases c : m < G 7 (32 * r + y)
      · rw [if_pos c]
        refine ⟨by omega, ?_⟩
        rw [if_neg (by omega)]; omega
      · rw [if_neg c]
        refine ⟨by omega, if_pos (by omega)⟩
    have hS : RSt (rmG6 G r i n m) H sF t' r := by
      unfold RSt
      rw [rmG6_o (b := 1) (by decide) (by decide), show (t'.I 46 r).toNatClampNeg = n from eN, e14]
      refine ⟨⟨s201, by omega, c3, w, cap, by rw [cc.2.1 200 _ (by decide)]; exact hw, by rw [cc.1]; exact d2, d3, d4, d5, fun j hj => ?_, fun j hj => ?_, fun y1 y2 hy1 hy2 z => ?_⟩, fun j hj => ?_, fun j1 j2 h12 hj2 => ?_⟩
      · show sF.Q w j = some (rmG6 G r i n m 6 (32 * r + j)) ∧ (sF.K (rmG6 G r i n m 6 (32 * r + j))).1 = 24
        rw [sQ, cc.1, rmG6_6 (by omega)]
        have e : rmF (s.Q w) i n j = s.Q w (if j < i then j else if j < n then j + 1 else if j = n then i else j) := by
          unfold rmF
          by_cases c1 : j < i
          · rw [if_pos c1, if_pos c1]
          · rw [if_neg c1, if_neg c1]
            by_cases c2 : j < n
            · rw [if_pos c2, if_pos c2]
            · rw [if_neg c2, if_neg c2]
              by_cases c3 : j = n
              · rw [if_pos c3, if_pos c3]
              · rw [if_neg c3, if_neg c3]
        rw [e]
        exact d6 _ (by (repeat' split) <;> omega)
      · rw [sQ]
        unfold rmF
        rw [if_neg (by omega), if_neg (by omega), if_neg (by omega)]
        exact d7 j hj
      · have z : rmG6 G r i n m 6 (32 * r + y1) = rmG6 G r i n m 6 (32 * r + y2) := z
        rw [rmG6_6 (by omega), rmG6_6 (by omega)] at z
        have := d8 _ _ (by (repeat' split) <;> omega) (by (repeat' split) <;> omega) z
        revert this
        (repeat' split) <;> omega
      · obtain ⟨q1, q2⟩ := g7 j hj
        rw [rmG6_6 (by omega)]
        have e6 : (if j < i then j else if j < n then j + 1 else if j = n then i else j) = if j < i then j else j + 1 := by
          by_cases c1 : j < i
          · rw [if_pos c1, if_pos c1]
          · rw [if_neg c1, if_neg c1, if_pos hj]
        rw [e6, oI 47 (by decide) _ q1, oI 50 (by decide) _ q1, oI 51 (by decide) _ q1, oI 52 (by decide) _ q1, oJ 48 (by decide) _ q1, oJ 49 (by decide) _ q1, q2, sI _ _ (by decide), sI _ _ (by decide)]
        have hy : (if j < i then j else j + 1) < n + 1 := by split <;> omega
        obtain ⟨w1, w2, w3, w4⟩ := b1 _ hy
        obtain ⟨y1, y2, y3, y4⟩ := w2
        exact ⟨q1, ⟨by rw [sI _ _ (by decide)]; exact y1, by rw [sJ]; exact y2, by rw [sJ]; exact y3, by rw [sI _ _ (by decide)]; exact y4⟩, w3, w4⟩
      · rw [ky, ky, rmG6_6 (by omega), rmG6_6 (by omega)]
        refine b2 _ _ ?_ ?_
        · (repeat' split) <;> omega
        · (repeat' split) <;> omega
    refine rr_st hR hM hr (fun b h1 h2 h3 => rmG6_o h1 h2) (fun r' hr' hne => ⟨by rw [e14], fun j hj => (rmG6_ne hne ?_).1, fun j hj => (rmG6_ne hne hj).2⟩) cc ct hw ka hS (fun j1 j2 h1 h2 z => ?_) (fun r' j hr' hne hj z => ?_) fun j hj => Or.inr ?_
    · have := (hq.st hr').1.2.2.1
      omega
    · rw [eN] at h1 h2
      have q1 := (g7 j1 h1).2
      have q2 := (g7 j2 h2).2
      rw [z, q2] at q1
      have := i7 _ _ (by split <;> omega) (by split <;> omega) q1
      revert this
      split <;> split <;> omega
    · have hb := (hq.st hr').1.2.2.1
      have := hq.2.1.2.2.2.2.2.2.1 r' r j i hr' hr hj (by omega) z
      omega
    · rw [e14] at hj
      refine ⟨_, ?_, rmG6_6 (by omega)⟩
      (repeat' split) <;> omega
  · refine mv_st hM hr ct ⟨n, e46, by omega, by omega⟩ fun k hk => ?_
    have eN : cSt t' r = n := by unfold cSt; rw [e46, nI_clamp (by omega)]
    rw [eN] at hk
    rw [oI 47 (by decide) _ hk, oI 50 (by decide) _ hk, oI 51 (by decide) _ hk, oI 52 (by decide) _ hk]
    exact hM.sl hr (by rw [hn]; split <;> omega)
end Sr
