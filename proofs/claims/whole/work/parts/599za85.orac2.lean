/-! Least sums: neighbors; the model's look at them. -/
/-- router o runs and has an interface to link lk with an address of the family -/
def nbB (t : moS) (lk f o : Nat) : Bool := match ifF' (t.I 71) (nI lk) (cI t o) (4 * o) with
  | none => false
  | some q => decide (t.I 39 o ≠ 0) && decide (t.I 75 (2 * q + f) ≠ 0)
/-- interface q can be left by -/
def okB (t : moS) (f q : Nat) : Bool := decide (t.I 75 (2 * q + f) ≠ 0) && decide (t.I 22 (t.I 71 q).toNatClampNeg ≠ 0)
/-- neighbors on link lk among the first k routers, v told which to pass over -/
def rowE (t : moS) (lk f : Nat) (v : Nat → Bool) (c : Nat) : Nat → List (Nat × Nat)
  | 0 => []
  | k + 1 => rowE t lk f v c k ++ (if v k = false ∧ nbB t lk f k = true then [(k, c)] else [])
/-- neighbors over the first k interfaces of router r -/
def edE (t : moS) (f : Nat) (v : Nat → Bool) (r : Nat) : Nat → List (Nat × Nat)
  | 0 => []
  | k + 1 => edE t f v r k ++ (if okB t f (4 * r + k) = true then rowE t (t.I 71 (4 * r + k)).toNatClampNeg f v (t.I 72 (4 * r + k)).toNatClampNeg (cR t) else [])
theorem rowE_mem {t : moS} {lk f c : Nat} {v : Nat → Bool} {e : Nat × Nat} : ∀ k, e ∈ rowE t lk f v c k ↔ e.1 < k ∧ e.2 = c ∧ v e.1 = false ∧ nbB t lk f e.1 = true
  | 0 => ⟨(fun h => by cases h), fun h => absurd h.1 (Nat.not_lt_zero _)⟩
  | k + 1 => by
    show e ∈ rowE t lk f v c k ++ _ ↔ _
    rw [List.mem_append, rowE_mem k]
    by_cases h : v k = false ∧ nbB t lk f k = true
    · rw [if_pos h, List.mem_singleton]
      constructor
      · rintro (⟨a1, a2⟩ | rfl)
        · exact ⟨by omega, a2⟩
        · exact ⟨by show k < k + 1; omega, rfl, h⟩
      · rintro ⟨a1, a2, a3⟩
        rcases Nat.lt_or_ge e.1 k with c1 | c1
        · exact Or.inl ⟨c1, a2, a3⟩
        · exact Or.inr (Prod.ext (by show e.1 = k; omega) a2)
    · rw [if_neg h]
      constructor
      · rintro (⟨a1, a2⟩ | a)
        · exact ⟨by omega, a2⟩
        · cases a
      · rintro ⟨a1, a2, a3⟩
        rcases Nat.lt_or_ge e.1 k with c1 | c1
        · exact Or.inl ⟨c1, a2, a3⟩
        · have : e.1 = k := by omega
          rw [this] at a3
          exact absurd a3 h
theorem edE_mem {t : moS} {f r : Nat} {v : Nat → Bool} {e : Nat × Nat} : ∀ k, e ∈ edE t f v r k ↔ ∃ p, p < k ∧ okB t f (4 * r + p) = true ∧ e.1 < cR t ∧ e.2 = (t.I 72 (4 * r + p)).toNatClampNeg ∧ v e.1 = false ∧ nbB t (t.I 71 (4 * r + p)).toNatClampNeg f e.1 = true
  | 0 => ⟨(fun h => by cases h), fun ⟨p, h, _⟩ => absurd h (Nat.not_lt_zero _)⟩
  | k + 1 => by
    show e ∈ edE t f v r k ++ _ ↔ _
    rw [List.mem_append, edE_mem k]
    by_cases h : okB t f (4 * r + k) = true
    · rw [if_pos h, rowE_mem]
      constructor
      · rintro (⟨p, a1, a2⟩ | a)
        · exact ⟨p, by omega, a2⟩
        · exact ⟨k, by omega, h, a⟩
      · rintro ⟨p, a1, a2, a3⟩
        rcases Nat.lt_or_ge p k with c1 | c1
        · exact Or.inl ⟨p, c1, a2, a3⟩
        · have : p = k := by omega
          subst this
          exact Or.inr a3
    · rw [if_neg h]
      constructor
      · rintro (⟨p, a1, a2⟩ | a)
        · exact ⟨p, by omega, a2⟩
        · cases a
      · rintro ⟨p, a1, a2, a3⟩
        rcases Nat.lt_or_ge p k with c1 | c1
        · exact Or.inl ⟨p, c1, a2, a3⟩
        · have : p = k := by omega
          subst this
          exact absurd a2 h
/-- the least of a link, and the cost once -/
theorem row_c {t : moS} {lk f c : Nat} {v : Nat → Bool} {x : Nat → Nat} {a k : Nat} (ha : a ≤ 1000) : loE x a (rowE t lk f v c k) = min a (loE x 1000 (rowE t lk f v 0 k) + c) := by
  have g := loE_le (x := x) (rowE t lk f v 0 k) 1000
  refine loE_eq (Nat.min_le_left _ _) (fun e he => ?_) ?_
  · obtain ⟨h1, h2, h3⟩ := (rowE_mem k).1 he
    have := g.2 (e.1, 0) ((rowE_mem k).2 ⟨h1, rfl, h3⟩)
    have : loE x 1000 (rowE t lk f v 0 k) ≤ x e.1 + 0 := this
    have m := Nat.min_le_right a (loE x 1000 (rowE t lk f v 0 k) + c)
    omega
  · rcases Nat.le_total a (loE x 1000 (rowE t lk f v 0 k) + c) with c1 | c1
    · exact Or.inl (Nat.min_eq_left c1)
    · rw [Nat.min_eq_right c1]
      rcases loE_wit (x := x) (rowE t lk f v 0 k) 1000 with h | ⟨e, he, h⟩
      · rw [h] at c1 ⊢
        exact Or.inl (by omega)
      · obtain ⟨h1, h2, h3⟩ := (rowE_mem k).1 he
        refine Or.inr ⟨(e.1, c), (rowE_mem k).2 ⟨h1, rfl, h3⟩, ?_⟩
        rw [h, h2]
        rfl
/-- the class counts no further than 16, and looks at itself too -/
theorem cap_st {x : Nat → Nat} {L L' : List (Nat × Nat)} {r B : Nat} (hB : 16 ≤ B) (h1 : ∀ e, e ∈ L → e ∈ L') (h2 : ∀ e, e ∈ L' → e ∈ L ∨ e.1 = r) : min (min 16 (x r)) (loE (fun o => min 16 (x o)) 16 L') = min 16 (min (x r) (loE x B L)) := by
  obtain ⟨a1, a2⟩ := loE_le (x := fun o => min 16 (x o)) L' 16
  obtain ⟨b1, b2⟩ := loE_le (x := x) L B
  have A : min (min 16 (x r)) (loE (fun o => min 16 (x o)) 16 L') ≤ min 16 (min (x r) (loE x B L)) := by
    refine Nat.le_min.2 ⟨Nat.le_trans (Nat.min_le_left _ _) (Nat.min_le_left _ _), Nat.le_min.2 ⟨Nat.le_trans (Nat.min_le_left _ _) (Nat.min_le_right _ _), ?_⟩⟩
    refine Nat.le_trans (Nat.min_le_right _ _) ?_
    rcases loE_wit (x := x) L B with h | ⟨e, he, h⟩
    · rw [h]; omega
    · rw [h]
      have : loE (fun o => min 16 (x o)) 16 L' ≤ min 16 (x e.1) + e.2 := a2 e (h1 e he)
      have := Nat.min_le_right 16 (x e.1)
      omega
  have C : min 16 (min (x r) (loE x B L)) ≤ min (min 16 (x r)) (loE (fun o => min 16 (x o)) 16 L') := by
    have m1 := Nat.min_le_left 16 (min (x r) (loE x B L))
    have m2 := Nat.le_trans (Nat.min_le_right 16 (min (x r) (loE x B L))) (Nat.min_le_left (x r) (loE x B L))
    have m3 := Nat.le_trans (Nat.min_le_right 16 (min (x r) (loE x B L))) (Nat.min_le_right (x r) (loE x B L))
    refine Nat.le_min.2 ⟨Nat.le_min.2 ⟨m1, m2⟩, ?_⟩
    rcases loE_wit (x := fun o => min 16 (x o)) L' 16 with h | ⟨e, he, h⟩
    · rw [h]; exact m1
    · rw [h]
      show _ ≤ min 16 (x e.1) + e.2
      rcases Nat.le_total 16 (x e.1) with c | c
      · rw [Nat.min_eq_left c]; omega
      · rw [Nat.min_eq_right c]
        rcases h2 e he with h | h
        · have := b2 e h
          omega
        · rw [h]; omega
  omega
section Ml
variable {t : moS} {r lk f : Nat} {x : Nat → Nat}
/-- the sums stand in the model -/
def sumM (t : moS) (x : Nat → Nat) : Prop := ∀ o, o < cR t → t.J 161 o = Int64.ofNat (x o) ∧ x o ≤ 1000
theorem m_leastAt (hM : MV t) (hx : sumM t x) (hr : r < cR t) (hf : f < 2) : M_leastAt t (nI r) (nI lk) (nI f) = some (Int64.ofNat (loE x 1000 (rowE t lk f (fun o => decide (o = r)) 0 (cR t)))) := by
  have h6 := hM.nR
  have hN := hM.n
  have e37 : t.S 37 = nI (cR t) := hM.1.2.2.2.2.2.2.2.n.1
  unfold M_leastAt M_leastAt_b8
  have loop : ∀ d k, k + d = cR t → lp (fun y : Int64 × Int32 => M_leastAt_s8 t (nI r) (nI lk) (nI f) y.1 y.2) (Int64.ofNat (loE x 1000 (rowE t lk f (fun o => decide (o = r)) 0 k)), nI k) = some (Int64.ofNat (loE x 1000 (rowE t lk f (fun o => decide (o = r)) 0 (cR t)))) := by
    intro d
    induction d with
    | zero =>
      intro k hk
      have : k = cR t := by omega
      subst this
      refine lp_x ?_
      show M_leastAt_s8 t (nI r) (nI lk) (nI f) _ (nI (cR t)) = _
      unfold M_leastAt_s8
      rw [e37, if_neg (nI_nlt (Nat.le_refl _) (by omega))]
    | succ d ih =>
      intro k hk
      have hk' : k < cR t := by omega
      have a1000 := (loE_le (x := x) (rowE t lk f (fun o => decide (o = r)) 0 k) 1000).1
      generalize hA : loE x 1000 (rowE t lk f (fun o => decide (o = r)) 0 k) = a at a1000 ih
      have eS : loE x 1000 (rowE t lk f (fun o => decide (o = r)) 0 (k + 1)) = if decide (k = r) = false ∧ nbB t lk f k = true then min a (x k) else a := by
        show loE x 1000 (rowE t lk f (fun o => decide (o = r)) 0 k ++ _) = _
        rw [loE_app, hA]
        split
        · rfl
        · rfl
      refine Eq.trans (lp_l (f := fun y : Int64 × Int32 => M_leastAt_s8 t (nI r) (nI lk) (nI f) y.1 y.2) (x := (Int64.ofNat a, nI k)) (y := (Int64.ofNat (loE x 1000 (rowE t lk f (fun o => decide (o = r)) 0 (k + 1))), nI (k + 1))) ?_) (by
        have := ih (k + 1) (by omega)
        exact this)
      show M_leastAt_s8 t (nI r) (nI lk) (nI f) (Int64.ofNat a) (nI k) = _
      have skip : (¬ (decide (k = r) = false ∧ nbB t lk f k = true)) → M_leastAt_b88 t (nI r) (nI lk) (nI f) (Int64.ofNat a) (nI k) = some (.inl (Int64.ofNat (loE x 1000 (rowE t lk f (fun o => decide (o = r)) 0 (k + 1))), nI (k + 1))) := fun h => by
        unfold M_leastAt_b88
        rw [eS, if_neg h, nI_1]
      unfold M_leastAt_s8 M_leastAt_b33
      rw [e37, if_pos (nI_lt hk' (by omega))]
      by_cases c1 : k = r
      · rw [if_pos (by rw [c1])]
        unfold M_leastAt_b44
        rw [if_pos rfl]
        exact skip (fun z => by have := z.1; rw [decide_eq_false_iff_not] at this; exact this c1)
      · rw [if_neg (fun z => c1 ((nI_eq (by omega) (by omega)).mp z)), rdI_n (n := 6) (hN.n 39 6) (by omega) (by decide), Option.bind_some]
        by_cases c2 : t.I 39 k = 0
        · rw [if_pos c2]
          unfold M_leastAt_b44
          rw [if_pos rfl]
          refine skip (fun z => ?_)
          have z := z.2
          unfold nbB at z
          split at z
          · exact absurd z (by decide)
          · rw [Bool.and_eq_true, decide_eq_true_iff] at z
            exact z.1 c2
        · rw [if_neg c2, m_interfaceTo hM hk', Option.bind_some]
          unfold M_leastAt_b44
          cases hq : ifF' (t.I 71) (nI lk) (cI t k) (4 * k) with
          | none =>
            rw [if_pos (show oI none = -1 from rfl)]
            refine skip (fun z => ?_)
            have z := z.2
            unfold nbB at z
            rw [hq] at z
            exact absurd (show false = true from z) (by decide)
          | some q =>
            have hqb := ifF_s hq
            have h4 := hM.nIf hk'
            rw [if_neg (show ¬ oI (some q) = -1 from oI_n1 q (by omega)), show (2 : Int32) * oI (some q) + nI f = nI (2 * q + f) by
              show (2 : Int32) * nI q + nI f = _
              rw [show (2 : Int32) = nI 2 from rfl, pk_mul, nI_add], rdI_n (n := 48) (hN.n 75 48) (by omega) (by decide), Option.bind_some]
            by_cases c3 : t.I 75 (2 * q + f) = 0
            · rw [if_pos c3]
              refine skip (fun z => ?_)
              have z := z.2
              unfold nbB at z
              rw [hq] at z
              rw [Bool.and_eq_true, decide_eq_true_iff, decide_eq_true_iff] at z
              exact z.2 c3
            · rw [if_neg c3, rdJ_n (n := 6) (hN.n 161 6) (by omega) (by decide), Option.bind_some, (hx k (by omega)).1]
              have yes : decide (k = r) = false ∧ nbB t lk f k = true := by
                refine ⟨by rw [decide_eq_false_iff_not]; exact c1, ?_⟩
                unfold nbB
                rw [hq]
                rw [Bool.and_eq_true, decide_eq_true_iff, decide_eq_true_iff]
                exact ⟨c2, c3⟩
              have xk := (hx k (by omega)).2
              rw [eS, if_pos yes]
              unfold M_leastAt_b88
              by_cases c4 : x k < a
              · rw [if_pos ((L_lt (by omega) (by omega)).2 c4), Option.bind_some, Nat.min_eq_right (by omega), nI_1]
              · rw [if_neg (fun z => c4 ((L_lt (by omega) (by omega)).1 z)), Nat.min_eq_left (by omega), nI_1]
  exact loop (cR t) 0 (by omega)
end Ml
