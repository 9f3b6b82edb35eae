/-! The longest prefix of all routers that covers an address: the model. -/
/-- a is the greatest of S, -1 where there is none -/
def mxP (S : Int32 → Prop) (a : Int32) : Prop := (a = -1 ∧ ∀ n, ¬ S n) ∨ (S a ∧ ∀ n, S n → ¬ a < n)
theorem i_tr {a b c : Int32} (h : a < b) (g : b < c) : a < c := by
  rw [Int32.lt_iff_toInt_lt] at *
  omega
theorem i_ir {a : Int32} : ¬ a < a := by
  rw [Int32.lt_iff_toInt_lt]
  omega
theorem mx_add {S S' : Int32 → Prop} {a v : Int32} {c : Prop} (h : mxP S a) (e : ∀ n, S' n ↔ S n ∨ (c ∧ n = v)) (hv : c → -1 < v) : (c ∧ a < v → mxP S' v) ∧ (¬ (c ∧ a < v) → mxP S' a) := by
  constructor
  · rintro ⟨c1, c2⟩
    refine Or.inr ⟨(e v).2 (Or.inr ⟨c1, rfl⟩), fun n hn z => ?_⟩
    rcases (e n).1 hn with hn | ⟨-, rfl⟩
    · rcases h with ⟨-, h⟩ | ⟨-, h⟩
      · exact h n hn
      · exact h n hn (i_tr c2 z)
    · exact i_ir z
  · intro c0
    rcases h with ⟨rfl, h⟩ | ⟨h1, h2⟩
    · refine Or.inl ⟨rfl, fun n hn => ?_⟩
      rcases (e n).1 hn with hn | ⟨c1, rfl⟩
      · exact h n hn
      · exact c0 ⟨c1, hv c1⟩
    · refine Or.inr ⟨(e a).2 (Or.inl h1), fun n hn z => ?_⟩
      rcases (e n).1 hn with hn | ⟨c1, rfl⟩
      · exact h2 n hn z
      · exact c0 ⟨c1, z⟩
theorem mx_cg {S S' : Int32 → Prop} {a : Int32} (h : mxP S a) (e : ∀ n, S' n ↔ S n) : mxP S' a := by
  rcases h with ⟨h1, h2⟩ | ⟨h1, h2⟩
  · exact Or.inl ⟨h1, fun n hn => h2 n ((e n).1 hn)⟩
  · exact Or.inr ⟨(e a).2 h1, fun n hn => h2 n ((e n).1 hn)⟩
theorem mx_uq {S : Int32 → Prop} {a b : Int32} (h : mxP S a) (g : mxP S b) : a = b := by
  rcases h with ⟨rfl, h⟩ | ⟨h1, h2⟩
  · rcases g with ⟨rfl, -⟩ | ⟨g1, -⟩
    · rfl
    · exact absurd g1 (h b)
  · rcases g with ⟨rfl, g⟩ | ⟨g1, g2⟩
    · exact absurd h1 (g a)
    · have x1 := h2 b g1
      have x2 := g2 a h1
      rw [Int32.lt_iff_toInt_lt] at x1 x2
      exact Int32.toInt_inj.mp (by omega)
/-- a static route of router o, an address of it, of length n, that covers what was read -/
def lgS (t : moS) (o k : Nat) (n : Int32) : Prop := (t.I 47 (32 * o + k) = t.S 12 ∧ mcov (t.J 48 (32 * o + k)) (t.J 49 (32 * o + k)) (t.I 50 (32 * o + k)) (t.Z 13) (t.Z 14)) ∧ n = t.I 50 (32 * o + k)
def lgQ (t : moS) (o j : Nat) : Prop := t.I 75 (8 * o + j) ≠ 0 ∧ t.I 22 (t.I 71 (4 * o + j / 2)).toNatClampNeg ≠ 0 ∧ nI (j % 2) = t.S 12 ∧ mcov (t.J 76 (8 * o + j)) (t.J 77 (8 * o + j)) (t.I 78 (8 * o + j)) (t.Z 13) (t.Z 14)
def lgP (t : moS) (o j : Nat) (n : Int32) : Prop := lgQ t o j ∧ n = t.I 78 (8 * o + j)
/-- of the first o routers -/
def lgA (t : moS) (o : Nat) (n : Int32) : Prop := ∃ o', o' < o ∧ t.I 39 o' ≠ 0 ∧ ((∃ k, k < cSt t o' ∧ lgS t o' k n) ∨ ∃ j, j < 2 * cI t o' ∧ lgP t o' j n)
section Lo
variable {t : moS}
theorem m_isL {f n a : Int32} {h l : Int64} : M_isLonger t f h l n a = 0 ↔ ¬ ((f = t.S 12 ∧ mcov h l n (t.Z 13) (t.Z 14)) ∧ a < n) := by
  unfold M_isLonger M_isLonger_b38
  by_cases c1 : f = t.S 12
  · rw [if_pos c1]
    by_cases c2 : a < n
    · rw [if_pos c2]
      by_cases c3 : M_covers h l n (t.Z 13) (t.Z 14) = 0
      · rw [if_pos c3]
        exact ⟨fun _ z => ((M_cov h l n _ _).1.1 c3) z.1.2, fun _ => rfl⟩
      · rw [if_neg c3]
        exact ⟨fun z => absurd z (by decide), fun z => absurd ⟨⟨c1, Classical.byContradiction fun y => c3 ((M_cov h l n _ _).1.2 y)⟩, c2⟩ z⟩
    · rw [if_neg c2]
      exact ⟨fun _ z => c2 z.2, fun _ => rfl⟩
  · rw [if_neg c1]
    exact ⟨fun _ z => c1 z.1.1, fun _ => rfl⟩
theorem nI_m1 {m : Nat} (h : m ≤ 128) : (-1 : Int32) < nI m := by
  rw [Int32.lt_iff_toInt_lt, show (-1 : Int32).toInt = -1 by decide]
  have : (nI m).toInt = (m : Int) := Int32.toInt_ofNat_of_lt (by omega)
  rw [this]
  omega
theorem m_long (hM : MV t) : ∃ a, M_longestOfAll t = some a ∧ mxP (lgA t (cR t)) a := by
  have h6 := hM.nR
  have hN := hM.n
  have h10 := hM.nL
  have e37 : t.S 37 = nI (cR t) := hM.1.2.2.2.2.2.2.2.n.1
  unfold M_longestOfAll M_longestOfAll_b4
  have loop : ∀ d o a, o + d = cR t → mxP (lgA t o) a → ∃ a', lp (fun y : Int32 × Int32 => M_longestOfAll_s4 t y.1 y.2) (a, nI o) = some a' ∧ mxP (lgA t (cR t)) a' := by
    intro d
    induction d with
    | zero =>
      intro o a ho h
      have : o = cR t := by omega
      subst this
      refine ⟨a, lp_x ?_, h⟩
      show M_longestOfAll_s4 t a (nI (cR t)) = _
      unfold M_longestOfAll_s4
      rw [e37, if_neg (nI_nlt (Nat.le_refl _) (by omega))]
    | succ d ih =>
      intro o a ho h
      have hr : o < cR t := by omega
      have h4 := hM.nIf hr
      obtain ⟨e46, -, h46⟩ := (hM.r hr).2.2.2.1.n
      have ok := (hM.r hr).2.2.2.2.1
      have e70 : t.I 70 o = nI (cI t o) := (hM.r hr).2.2.2.2.2.2.2.2.2.1.n.1
      have e32 : (32 : Int32) * nI o = nI (32 * o) := by rw [show (32 : Int32) = nI 32 from rfl, pk_mul]
      have e8 : (8 : Int32) * nI o = nI (8 * o) := by rw [show (8 : Int32) = nI 8 from rfl, pk_mul]
      have r39 : rdI t 39 (nI o) = some (t.I 39 o) := rdI_n (n := 6) (hN.n 39 6) (by omega) (by decide)
      -- the addresses
      have ports : ∀ d j a, j + d = 2 * cI t o → mxP (fun n => lgA t o n ∨ (t.I 39 o ≠ 0 ∧ ((∃ k, k < cSt t o ∧ lgS t o k n) ∨ ∃ j', j' < j ∧ lgP t o j' n))) a → ∃ a', M_longestOfAll_b91 t (nI o) a (nI (8 * o + j)) = some (.inl (a', nI (o + 1))) ∧ mxP (lgA t (o + 1)) a' := by
        intro d
        induction d with
        | zero =>
          intro j a hj h
          have : j = 2 * cI t o := by omega
          subst this
          refine ⟨a, ?_, mx_cg h fun n => ⟨?_, ?_⟩⟩
          · unfold M_longestOfAll_b91
            refine lp_x ?_
            show M_longestOfAll_s91 t (nI o) a (nI (8 * o + 2 * cI t o)) = _
            unfold M_longestOfAll_s91 M_longestOfAll_b184
            rw [rdI_n (n := 6) (hN.n 70 6) (by omega) (by decide), Option.bind_some, e70, e8, show (2 : Int32) * nI (cI t o) = nI (2 * cI t o) by rw [show (2 : Int32) = nI 2 from rfl, pk_mul], nI_add, if_neg (nI_nlt (Nat.le_refl _) (by omega)), nI_1]
          · rintro ⟨o', h1, h2⟩
            rcases Nat.lt_or_ge o' o with c | c
            · exact Or.inl ⟨o', c, h2⟩
            · have : o' = o := by omega
              subst this
              exact Or.inr h2
          · rintro (⟨o', h1, h2⟩ | h2)
            · exact ⟨o', by omega, h2⟩
            · exact ⟨o, by omega, h2⟩
        | succ d ih2 =>
          intro j a hj h
          have hj' : j < 2 * cI t o := by omega
          by_cases c0 : t.I 39 o = 0
          · -- it stands
            refine ⟨a, ?_, mx_cg h fun n => ⟨?_, ?_⟩⟩
            · unfold M_longestOfAll_b91
              refine lp_x ?_
              show M_longestOfAll_s91 t (nI o) a (nI (8 * o + j)) = _
              unfold M_longestOfAll_s91 M_longestOfAll_b184
              rw [rdI_n (n := 6) (hN.n 70 6) (by omega) (by decide), Option.bind_some, e70, e8, show (2 : Int32) * nI (cI t o) = nI (2 * cI t o) by rw [show (2 : Int32) = nI 2 from rfl, pk_mul], nI_add, if_pos (nI_lt (by omega) (by omega)), r39, Option.bind_some, if_pos c0, nI_1]
            · rintro ⟨o', h1, h2, h3⟩
              rcases Nat.lt_or_ge o' o with c | c
              · exact Or.inl ⟨o', c, h2, h3⟩
              · have : o' = o := by omega
                subst this
                exact absurd c0 h2
            · rintro (⟨o', h1, h2⟩ | h2)
              · exact ⟨o', by omega, h2⟩
              · exact absurd c0 h2.1
          have hp : j / 2 < cI t o := by omega
          have hvi := (hM.r hr).i hp
          obtain ⟨e71, -, e71b⟩ := hvi.1.n
          have hcl := hvi.2.1
          have jx : 2 * (4 * o + j / 2) + j % 2 = 8 * o + j := by omega
          have l78 : t.I 75 (8 * o + j) ≠ 0 → ∃ m, t.I 78 (8 * o + j) = nI m ∧ m ≤ 128 := fun z => by
            obtain ⟨-, -, -, -, -, ⟨b0, b1⟩, b2, b3, -⟩ := hvi
            rcases (show j % 2 = 0 ∨ j % 2 = 1 by omega) with y | y
            · rw [y] at jx
              rw [show 2 * (4 * o + j / 2) = 8 * o + j by omega] at b0 b2
              obtain ⟨m, em, -, hm⟩ := b2 (b0.resolve_left z)
              exact ⟨m, em, by omega⟩
            · rw [y] at jx
              rw [jx] at b1 b3
              obtain ⟨m, em, -, hm⟩ := b3 (b1.resolve_left z)
              exact ⟨m, em, hm⟩
          have key := mx_add (c := lgQ t o j) (v := t.I 78 (8 * o + j)) (S' := fun n => lgA t o n ∨ (t.I 39 o ≠ 0 ∧ ((∃ k, k < cSt t o ∧ lgS t o k n) ∨ ∃ j', j' < j + 1 ∧ lgP t o j' n))) h (fun n => by
            constructor
            · rintro (h1 | ⟨h1, h2 | ⟨j', h3, h4⟩⟩)
              · exact Or.inl (Or.inl h1)
              · exact Or.inl (Or.inr ⟨h1, Or.inl h2⟩)
              · rcases Nat.lt_or_ge j' j with c | c
                · exact Or.inl (Or.inr ⟨h1, Or.inr ⟨j', c, h4⟩⟩)
                · have : j' = j := by omega
                  subst this
                  exact Or.inr h4
            · rintro ((h1 | ⟨h1, h2 | ⟨j', h3, h4⟩⟩) | h1)
              · exact Or.inl h1
              · exact Or.inr ⟨h1, Or.inl h2⟩
              · exact Or.inr ⟨h1, Or.inr ⟨j', by omega, h4⟩⟩
              · exact Or.inr ⟨c0, Or.inr ⟨j, by omega, h1⟩⟩) (fun z => by
            obtain ⟨m, em, hm⟩ := l78 z.1
            rw [em]
            exact nI_m1 hm)
          have step : ∀ a', M_longestOfAll_s91 t (nI o) a (nI (8 * o + j)) = some (.inl (a', nI (8 * o + (j + 1)))) → M_longestOfAll_b91 t (nI o) a (nI (8 * o + j)) = M_longestOfAll_b91 t (nI o) a' (nI (8 * o + (j + 1))) := fun a' e => by
            unfold M_longestOfAll_b91
            exact lp_l (f := fun y : Int32 × Int32 => M_longestOfAll_s91 t (nI o) y.1 y.2) (x := (a, nI (8 * o + j))) (y := (a', nI (8 * o + (j + 1)))) e
          have e2 : nI (8 * o + j) / (2 : Int32) = nI (4 * o + j / 2) := by
            have : nI (8 * o + j) / 2 = nI ((8 * o + j) / 2) := pk_div (d := 2) (by omega) (by decide) (by decide)
            rw [this]
            congr 1
            omega
          have er : rem_I (nI (8 * o + j)) (2 : Int32) = nI (j % 2) := by
            rw [show (2 : Int32) = nI 2 from rfl, rem_n (by omega) (by decide) (by decide)]
            congr 1
            omega
          have st : M_longestOfAll_s91 t (nI o) a (nI (8 * o + j)) = (if t.I 75 (8 * o + j) = 0 then some (.inl (a, nI (8 * o + (j + 1)))) else if t.I 22 (t.I 71 (4 * o + j / 2)).toNatClampNeg = 0 then some (.inl (a, nI (8 * o + (j + 1)))) else if M_isLonger t (nI (j % 2)) (t.J 76 (8 * o + j)) (t.J 77 (8 * o + j)) (t.I 78 (8 * o + j)) a = 0 then some (.inl (a, nI (8 * o + (j + 1)))) else some (.inl (t.I 78 (8 * o + j), nI (8 * o + (j + 1))))) := by
            unfold M_longestOfAll_s91 M_longestOfAll_b178
            rw [rdI_n (n := 6) (hN.n 70 6) (by omega) (by decide), Option.bind_some, e70, e8, show (2 : Int32) * nI (cI t o) = nI (2 * cI t o) by rw [show (2 : Int32) = nI 2 from rfl, pk_mul], nI_add, if_pos (nI_lt (by omega) (by omega)), r39, Option.bind_some, if_neg c0, rdI_n (n := 48) (hN.n 75 48) (by omega) (by decide), Option.bind_some, e2, rdI_n (n := 24) (hN.n 71 24) (by omega) (by decide), Option.bind_some, e71, rdI_n (n := 10) (hN.n 22 10) (by omega) (by decide), Option.bind_some, rdJ_n (n := 48) (hN.n 76 48) (by omega) (by decide), Option.bind_some, rdJ_n (n := 48) (hN.n 77 48) (by omega) (by decide), Option.bind_some, rdI_n (n := 48) (hN.n 78 48) (by omega) (by decide), Option.bind_some, Option.bind_some, er, nI_1, nI_clamp (by omega)]
            rfl
          have no : ∀ a', a' = a → ¬ (lgQ t o j ∧ a < t.I 78 (8 * o + j)) → M_longestOfAll_s91 t (nI o) a (nI (8 * o + j)) = some (.inl (a', nI (8 * o + (j + 1)))) → ∃ a', M_longestOfAll_b91 t (nI o) a (nI (8 * o + j)) = some (.inl (a', nI (o + 1))) ∧ mxP (lgA t (o + 1)) a' := fun a' ea hn e => by
            subst ea
            rw [step _ e]
            exact ih2 (j + 1) _ (by omega) (key.2 hn)
          by_cases c1 : t.I 75 (8 * o + j) = 0
          · rw [if_pos c1] at st
            exact no a rfl (fun z => z.1.1 c1) st
          by_cases c2 : t.I 22 (t.I 71 (4 * o + j / 2)).toNatClampNeg = 0
          · rw [if_neg c1, if_pos c2] at st
            exact no a rfl (fun z => z.1.2.1 c2) st
          by_cases c3 : M_isLonger t (nI (j % 2)) (t.J 76 (8 * o + j)) (t.J 77 (8 * o + j)) (t.I 78 (8 * o + j)) a = 0
          · rw [if_neg c1, if_neg c2, if_pos c3] at st
            exact no a rfl (fun z => m_isL.1 c3 ⟨z.1.2.2, z.2⟩) st
          · rw [if_neg c1, if_neg c2, if_neg c3] at st
            have yes := Classical.byContradiction fun z => c3 (m_isL.2 z)
            rw [step _ st]
            exact ih2 (j + 1) _ (by omega) (key.1 ⟨⟨c1, c2, yes.1⟩, yes.2⟩)
      -- the static routes
      have stats : ∀ d k a, k + d = cSt t o → mxP (fun n => lgA t o n ∨ (t.I 39 o ≠ 0 ∧ ∃ k', k' < k ∧ lgS t o k' n)) a → ∃ a', M_longestOfAll_b17 t (nI o) a (nI (32 * o + k)) = some (.inl (a', nI (o + 1))) ∧ mxP (lgA t (o + 1)) a' := by
        intro d
        have ec : t.I 46 o = nI (cSt t o) := e46
        have hc : cSt t o ≤ 32 := h46
        have goP : ∀ k a, (t.I 39 o = 0 ∨ k = cSt t o) → k ≤ cSt t o → mxP (fun n => lgA t o n ∨ (t.I 39 o ≠ 0 ∧ ∃ k', k' < k ∧ lgS t o k' n)) a → M_longestOfAll_s17 t (nI o) a (nI (32 * o + k)) = xo (M_longestOfAll_b86 t a (nI o)) → ∃ a', M_longestOfAll_b17 t (nI o) a (nI (32 * o + k)) = some (.inl (a', nI (o + 1))) ∧ mxP (lgA t (o + 1)) a' := fun k a hk hkc h e => by
          obtain ⟨a', p1, p2⟩ := ports (2 * cI t o) 0 a (by omega) (mx_cg h fun n => by
            constructor
            · rintro (h1 | ⟨h1, ⟨k', h2, h3⟩ | ⟨j', h2, -⟩⟩)
              · exact Or.inl h1
              · rcases hk with z | z
                · exact absurd z h1
                · exact Or.inr ⟨h1, k', by omega, h3⟩
              · exact absurd h2 (Nat.not_lt_zero _)
            · rintro (h1 | ⟨h1, k', h2, h3⟩)
              · exact Or.inl h1
              · exact Or.inr ⟨h1, Or.inl ⟨k', by omega, h3⟩⟩)
          refine ⟨a', ?_, p2⟩
          unfold M_longestOfAll_b17
          refine Eq.trans (lp_x e) ?_
          unfold M_longestOfAll_b86
          rw [e8]
          exact p1
        induction d with
        | zero =>
          intro k a hk h
          refine goP k a (Or.inr (by omega)) (by omega) h ?_
          unfold M_longestOfAll_s17
          rw [rdI_n (n := 6) (hN.n 46 6) (by omega) (by decide), Option.bind_some, ec, e32, nI_add, if_neg (nI_nlt (by omega) (by omega))]
        | succ d ih2 =>
          intro k a hk h
          have hk' : k < cSt t o := by omega
          by_cases c0 : t.I 39 o = 0
          · refine goP k a (Or.inl c0) (by omega) h ?_
            unfold M_longestOfAll_s17
            rw [rdI_n (n := 6) (hN.n 46 6) (by omega) (by decide), Option.bind_some, ec, e32, nI_add, if_pos (nI_lt (by omega) (by omega)), r39, Option.bind_some, if_pos c0]
          have l50 : ∃ m, t.I 50 (32 * o + k) = nI m ∧ m ≤ 128 := by
            obtain ⟨m, em, hm⟩ := (ok k hk').1.n
            exact ⟨m, em, by omega⟩
          have key := mx_add (c := t.I 47 (32 * o + k) = t.S 12 ∧ mcov (t.J 48 (32 * o + k)) (t.J 49 (32 * o + k)) (t.I 50 (32 * o + k)) (t.Z 13) (t.Z 14)) (v := t.I 50 (32 * o + k)) (S' := fun n => lgA t o n ∨ (t.I 39 o ≠ 0 ∧ ∃ k', k' < k + 1 ∧ lgS t o k' n)) h (fun n => by
            constructor
            · rintro (h1 | ⟨h1, k', h3, h4⟩)
              · exact Or.inl (Or.inl h1)
              · rcases Nat.lt_or_ge k' k with c | c
                · exact Or.inl (Or.inr ⟨h1, k', c, h4⟩)
                · have : k' = k := by omega
                  subst this
                  exact Or.inr h4
            · rintro ((h1 | ⟨h1, k', h3, h4⟩) | h1)
              · exact Or.inl h1
              · exact Or.inr ⟨h1, k', by omega, h4⟩
              · exact Or.inr ⟨c0, k, by omega, h1⟩) (fun _ => by
            obtain ⟨m, em, hm⟩ := l50
            rw [em]
            exact nI_m1 hm)
          have step : ∀ a', M_longestOfAll_s17 t (nI o) a (nI (32 * o + k)) = some (.inl (a', nI (32 * o + (k + 1)))) → M_longestOfAll_b17 t (nI o) a (nI (32 * o + k)) = M_longestOfAll_b17 t (nI o) a' (nI (32 * o + (k + 1))) := fun a' e => by
            unfold M_longestOfAll_b17
            exact lp_l (f := fun y : Int32 × Int32 => M_longestOfAll_s17 t (nI o) y.1 y.2) (x := (a, nI (32 * o + k))) (y := (a', nI (32 * o + (k + 1)))) e
          have st : M_longestOfAll_s17 t (nI o) a (nI (32 * o + k)) = (if M_isLonger t (t.I 47 (32 * o + k)) (t.J 48 (32 * o + k)) (t.J 49 (32 * o + k)) (t.I 50 (32 * o + k)) a = 0 then some (.inl (a, nI (32 * o + (k + 1)))) else some (.inl (t.I 50 (32 * o + k), nI (32 * o + (k + 1))))) := by
            unfold M_longestOfAll_s17 M_longestOfAll_b80
            rw [rdI_n (n := 6) (hN.n 46 6) (by omega) (by decide), Option.bind_some, ec, e32, nI_add, if_pos (nI_lt (by omega) (by omega)), r39, Option.bind_some, if_neg c0, rdI_n (n := 192) (hN.n 47 192) (by omega) (by decide), Option.bind_some, rdJ_n (n := 192) (hN.n 48 192) (by omega) (by decide), Option.bind_some, rdJ_n (n := 192) (hN.n 49 192) (by omega) (by decide), Option.bind_some, rdI_n (n := 192) (hN.n 50 192) (by omega) (by decide), Option.bind_some, Option.bind_some, nI_1]
            rfl
          by_cases c3 : M_isLonger t (t.I 47 (32 * o + k)) (t.J 48 (32 * o + k)) (t.J 49 (32 * o + k)) (t.I 50 (32 * o + k)) a = 0
          · rw [if_pos c3] at st
            rw [step _ st]
            exact ih2 (k + 1) _ (by omega) (key.2 (fun z => m_isL.1 c3 z))
          · rw [if_neg c3] at st
            rw [step _ st]
            exact ih2 (k + 1) _ (by omega) (key.1 (Classical.byContradiction fun z => c3 (m_isL.2 z)))
      obtain ⟨a1, p1, p2⟩ := stats (cSt t o) 0 a (by omega) (mx_cg h fun n => ⟨fun z => z.elim (fun z => z) (fun ⟨_, k', z, _⟩ => absurd z (Nat.not_lt_zero _)), Or.inl⟩)
      obtain ⟨a', q1, q2⟩ := ih (o + 1) a1 (by omega) p2
      refine ⟨a', Eq.trans (lp_l (f := fun y : Int32 × Int32 => M_longestOfAll_s4 t y.1 y.2) (x := (a, nI o)) (y := (a1, nI (o + 1))) ?_) q1, q2⟩
      show M_longestOfAll_s4 t a (nI o) = _
      unfold M_longestOfAll_s4
      rw [e37, if_pos (nI_lt hr (by omega)), e32]
      exact p1
  exact loop (cR t) 0 (-1) (by omega) (Or.inl ⟨rfl, fun n ⟨o', z, _⟩ => absurd z (Nat.not_lt_zero _)⟩)
end Lo
