/-! Least sums: rounds come to an end, and where. -/
/-- the least of a and of what neighbors (o, cost) have -/
def loE (x : Nat → Nat) : Nat → List (Nat × Nat) → Nat
  | a, [] => a
  | a, e :: L => loE x (min a (x e.1 + e.2)) L
theorem loE_app {x : Nat → Nat} : ∀ (L L' : List (Nat × Nat)) (a : Nat), loE x a (L ++ L') = loE x (loE x a L) L'
  | [], _, _ => rfl
  | e :: L, L', a => loE_app L L' (min a (x e.1 + e.2))
theorem loE_le {x : Nat → Nat} : ∀ (L : List (Nat × Nat)) (a : Nat), loE x a L ≤ a ∧ ∀ e, e ∈ L → loE x a L ≤ x e.1 + e.2
  | [], a => ⟨Nat.le_refl _, fun e he => by cases he⟩
  | e :: L, a => by
    obtain ⟨h1, h2⟩ := loE_le (x := x) L (min a (x e.1 + e.2))
    refine ⟨Nat.le_trans h1 (Nat.min_le_left _ _), fun e' he => ?_⟩
    rcases List.mem_cons.1 he with rfl | he
    · exact Nat.le_trans h1 (Nat.min_le_right _ _)
    · exact h2 e' he
theorem loE_wit {x : Nat → Nat} : ∀ (L : List (Nat × Nat)) (a : Nat), loE x a L = a ∨ ∃ e, e ∈ L ∧ loE x a L = x e.1 + e.2
  | [], a => Or.inl rfl
  | e :: L, a => by
    rcases loE_wit (x := x) L (min a (x e.1 + e.2)) with h | ⟨e', he, h⟩
    · rcases Nat.le_total a (x e.1 + e.2) with c | c
      · rw [Nat.min_eq_left c] at h
        exact Or.inl (by show loE x (min a (x e.1 + e.2)) L = a; rw [Nat.min_eq_left c]; exact h)
      · refine Or.inr ⟨e, List.mem_cons_self, ?_⟩
        show loE x (min a (x e.1 + e.2)) L = _
        rw [h, Nat.min_eq_right c]
    · exact Or.inr ⟨e', List.mem_cons_of_mem _ he, h⟩
/-- the least, seen from outside -/
theorem loE_eq {x : Nat → Nat} {L : List (Nat × Nat)} {a v : Nat} (h1 : v ≤ a) (h2 : ∀ e, e ∈ L → v ≤ x e.1 + e.2) (h3 : v = a ∨ ∃ e, e ∈ L ∧ v = x e.1 + e.2) : loE x a L = v := by
  obtain ⟨g1, g2⟩ := loE_le (x := x) L a
  have le : loE x a L ≤ v := by
    rcases h3 with h | ⟨e, he, h⟩
    · rw [h]; exact g1
    · rw [h]; exact g2 e he
  have ge : v ≤ loE x a L := by
    rcases loE_wit (x := x) L a with h | ⟨e, he, h⟩
    · rw [h]; exact h1
    · rw [h]; exact h2 e he
  omega
def uvN (f : Nat → Nat) (k v : Nat) : Nat → Nat := fun o => if o = k then v else f o
section Bf
variable (n B : Nat) (rl : Nat → Bool) (ed : Nat → List (Nat × Nat))
/-- routers 0 .. k - 1 have looked at their neighbors -/
noncomputable def gsV (x : Nat → Nat) : Nat → Nat → Nat
  | 0 => x
  | k + 1 => if rl k = true then uvN (gsV x k) k (min (gsV x k k) (loE (gsV x k) B (ed k))) else gsV x k
noncomputable def itV (x : Nat → Nat) : Nat → Nat → Nat
  | 0 => x
  | k + 1 => gsV B rl ed (itV x k) n
variable {n B rl ed}
theorem gsV_le {x : Nat → Nat} : ∀ k o, gsV B rl ed x k o ≤ x o
  | 0, _ => Nat.le_refl _
  | k + 1, o => by
    have ih := gsV_le (x := x) k
    show (if rl k = true then uvN (gsV B rl ed x k) k (min (gsV B rl ed x k k) (loE (gsV B rl ed x k) B (ed k))) else gsV B rl ed x k) o ≤ x o
    split
    · unfold uvN
      split
      · next h => rw [h]; exact Nat.le_trans (Nat.min_le_left _ _) (ih k)
      · exact ih o
    · exact ih o
theorem gsV_mo {x : Nat → Nat} {k : Nat} : ∀ d o, gsV B rl ed x (k + d) o ≤ gsV B rl ed x k o
  | 0, _ => Nat.le_refl _
  | d + 1, o => by
    have ih := gsV_mo (x := x) (k := k) d
    show (if rl (k + d) = true then uvN (gsV B rl ed x (k + d)) (k + d) (min (gsV B rl ed x (k + d) (k + d)) (loE (gsV B rl ed x (k + d)) B (ed (k + d)))) else gsV B rl ed x (k + d)) o ≤ _
    split
    · unfold uvN
      split
      · next h => rw [h]; exact Nat.le_trans (Nat.min_le_left _ _) (ih (k + d))
      · exact ih o
    · exact ih o
theorem itV_le {x : Nat → Nat} {k : Nat} : ∀ d o, itV n B rl ed x (k + d) o ≤ itV n B rl ed x k o
  | 0, _ => Nat.le_refl _
  | d + 1, o => Nat.le_trans (gsV_le n o) (itV_le d o)
theorem gsV_o {x : Nat → Nat} : ∀ k o, k ≤ o → gsV B rl ed x k o = x o
  | 0, _, _ => rfl
  | k + 1, o, h => by
    have ih := gsV_o (x := x) k o (by omega)
    show (if rl k = true then uvN (gsV B rl ed x k) k (min (gsV B rl ed x k k) (loE (gsV B rl ed x k) B (ed k))) else gsV B rl ed x k) o = x o
    split
    · unfold uvN
      rw [if_neg (by omega)]
      exact ih
    · exact ih
/-- what a router has behind its turn stays in the round -/
theorem gsV_at {x : Nat → Nat} {r : Nat} (hr : r < n) (h : rl r = true) : gsV B rl ed x n r = min (x r) (loE (gsV B rl ed x r) B (ed r)) := by
  have st : ∀ d, gsV B rl ed x (r + 1 + d) r = gsV B rl ed x (r + 1) r := by
    intro d
    induction d with
    | zero => rfl
    | succ d ih =>
      show (if rl (r + 1 + d) = true then uvN (gsV B rl ed x (r + 1 + d)) (r + 1 + d) _ else gsV B rl ed x (r + 1 + d)) r = _
      split
      · unfold uvN
        rw [if_neg (by omega)]
        exact ih
      · exact ih
  have e := st (n - (r + 1))
  rw [show r + 1 + (n - (r + 1)) = n by omega] at e
  rw [e]
  show (if rl r = true then uvN (gsV B rl ed x r) r (min (gsV B rl ed x r r) (loE (gsV B rl ed x r) B (ed r))) else gsV B rl ed x r) r = _
  rw [if_pos h]
  unfold uvN
  rw [if_pos rfl, gsV_o r r (Nat.le_refl _)]
theorem gsV_no {x : Nat → Nat} {r : Nat} (h : ¬ rl r = true) : ∀ k, gsV B rl ed x k r = x r
  | 0 => rfl
  | k + 1 => by
    have ih := gsV_no (x := x) h k
    show (if rl k = true then uvN (gsV B rl ed x k) k _ else gsV B rl ed x k) r = x r
    split
    · next hk =>
      unfold uvN
      rw [if_neg (fun z => h (by rw [z]; exact hk))]
      exact ih
    · exact ih
theorem gsV_ge {x : Nat → Nat} {o : Nat} (h : n ≤ o) : ∀ k, k ≤ n → gsV B rl ed x k o = x o := fun k hk => gsV_o k o (by omega)
/-- a router has what it began with, or no more than its neighbors say -/
def baV (x0 x : Nat → Nat) : Prop := ∀ r, r < n → x r = x0 r ∨ (rl r = true ∧ loE x B (ed r) ≤ x r)
theorem loE_mo {x y : Nat → Nat} (h : ∀ o, x o ≤ y o) {L : List (Nat × Nat)} {a : Nat} : loE x a L ≤ loE y a L := by
  obtain ⟨g1, g2⟩ := loE_le (x := x) L a
  rcases loE_wit (x := y) L a with e | ⟨e, he, e'⟩
  · rw [e]; exact g1
  · rw [e']
    have := g2 e he
    have := h e.1
    omega
theorem baV_gs {x0 x : Nat → Nat} (h : baV (n := n) (B := B) (rl := rl) (ed := ed) x0 x) : baV (n := n) (B := B) (rl := rl) (ed := ed) x0 (gsV B rl ed x n) := by
  intro r hr
  by_cases c : rl r = true
  · rw [gsV_at hr c]
    have mo : loE (gsV B rl ed x n) B (ed r) ≤ loE (gsV B rl ed x r) B (ed r) := loE_mo fun o => by
      have := gsV_mo (B := B) (rl := rl) (ed := ed) (x := x) (k := r) (n - r) o
      rw [show r + (n - r) = n by omega] at this
      exact this
    rcases Nat.le_total (x r) (loE (gsV B rl ed x r) B (ed r)) with c2 | c2
    · rw [Nat.min_eq_left c2]
      rcases h r hr with h | h
      · exact Or.inl h
      · refine Or.inr ⟨c, Nat.le_trans (loE_mo fun o => gsV_le n o) h.2⟩
    · rw [Nat.min_eq_right c2]
      exact Or.inr ⟨c, mo⟩
  · rw [gsV_no c n]
    rcases h r hr with h | h
    · exact Or.inl h
    · exact absurd h.1 c
theorem baV_it {x : Nat → Nat} : ∀ k, baV (n := n) (B := B) (rl := rl) (ed := ed) x (itV n B rl ed x k)
  | 0 => fun _ _ => Or.inl rfl
  | k + 1 => baV_gs (baV_it k)
/-- a round that changes nothing comes some time -/
theorem it_fix {x : Nat → Nat} : ∃ K, itV n B rl ed x (K + 1) = itV n B rl ed x K := by
  have key : ∀ s k, sm (itV n B rl ed x k) n ≤ s → ∃ K, itV n B rl ed x (K + 1) = itV n B rl ed x K := by
    intro s
    induction s with
    | zero =>
      intro k hk
      refine ⟨k, funext fun o => ?_⟩
      by_cases c : o < n
      · have z : itV n B rl ed x k o = 0 := by
          have : ∀ m, sm (itV n B rl ed x k) m = 0 → ∀ i, i < m → itV n B rl ed x k i = 0 := by
            intro m
            induction m with
            | zero => intro _ i hi; omega
            | succ m ih =>
              intro h i hi
              have h : sm (itV n B rl ed x k) m + itV n B rl ed x k m = 0 := h
              rcases Nat.lt_or_ge i m with c | c
              · exact ih (by omega) i c
              · rw [show i = m by omega]; omega
          exact this n (by omega) o c
        have := gsV_le (B := B) (rl := rl) (ed := ed) (x := itV n B rl ed x k) n o
        show gsV B rl ed (itV n B rl ed x k) n o = _
        omega
      · exact gsV_ge (by omega) n (Nat.le_refl _)
    | succ s ih =>
      intro k hk
      by_cases e : itV n B rl ed x (k + 1) = itV n B rl ed x k
      · exact ⟨k, e⟩
      · refine ih (k + 1) ?_
        have lt : sm (itV n B rl ed x (k + 1)) n < sm (itV n B rl ed x k) n := by
          have le := fun o => gsV_le (B := B) (rl := rl) (ed := ed) (x := itV n B rl ed x k) n o
          have aux : ∀ m, m ≤ n → sm (itV n B rl ed x (k + 1)) m ≤ sm (itV n B rl ed x k) m ∧ (sm (itV n B rl ed x (k + 1)) m = sm (itV n B rl ed x k) m → ∀ i, i < m → itV n B rl ed x (k + 1) i = itV n B rl ed x k i) := by
            intro m
            induction m with
            | zero => intro _; exact ⟨Nat.le_refl _, fun _ i hi => by omega⟩
            | succ m ihm =>
              intro hm
              obtain ⟨a1, a2⟩ := ihm (by omega)
              have l : itV n B rl ed x (k + 1) m ≤ itV n B rl ed x k m := le m
              refine ⟨Nat.add_le_add a1 l, fun h i hi => ?_⟩
              have h : sm (itV n B rl ed x (k + 1)) m + itV n B rl ed x (k + 1) m = sm (itV n B rl ed x k) m + itV n B rl ed x k m := h
              rcases Nat.lt_or_ge i m with c | c
              · exact a2 (by omega) i c
              · rw [show i = m by omega]; omega
          obtain ⟨a1, a2⟩ := aux n (Nat.le_refl _)
          rcases Nat.lt_or_ge (sm (itV n B rl ed x (k + 1)) n) (sm (itV n B rl ed x k) n) with c | c
          · exact c
          · exfalso
            refine e (funext fun o => ?_)
            by_cases co : o < n
            · exact a2 (by omega) o co
            · exact gsV_ge (by omega) n (Nat.le_refl _)
        omega
  exact key (sm x n) 0 (Nat.le_refl _)
theorem it_st {x : Nat → Nat} {K : Nat} (h : itV n B rl ed x (K + 1) = itV n B rl ed x K) : ∀ d, itV n B rl ed x (K + d) = itV n B rl ed x K
  | 0 => rfl
  | d + 1 => by
    show gsV B rl ed (itV n B rl ed x (K + d)) n = _
    rw [it_st h d]
    exact h
/-- n rounds are enough -/
theorem it_n {x : Nat → Nat} (hB : ∀ o, x o ≤ B) (he : ∀ r, r < n → ∀ e, e ∈ ed r → e.1 < n ∧ 1 ≤ e.2) : itV n B rl ed x (n + 1) = itV n B rl ed x n := by
  obtain ⟨K, hK⟩ := it_fix (n := n) (B := B) (rl := rl) (ed := ed) (x := x)
  have bX := baV_it (n := n) (B := B) (rl := rl) (ed := ed) (x := x) K
  have lo : ∀ k o, itV n B rl ed x K o ≤ itV n B rl ed x k o := fun k o => by
    rcases Nat.le_total k K with c | c
    · have := itV_le (n := n) (B := B) (rl := rl) (ed := ed) (x := x) (k := k) (K - k) o
      rw [show k + (K - k) = K by omega] at this
      exact this
    · have := it_st hK (k - K)
      rw [show K + (k - K) = k by omega] at this
      rw [this]; exact Nat.le_refl _
  generalize hX : itV n B rl ed x K = X at hK bX lo
  have out : ∀ k o, n ≤ o → itV n B rl ed x k o = x o := by
    intro k o ho
    induction k with
    | zero => rfl
    | succ k ih =>
      show gsV B rl ed (itV n B rl ed x k) n o = _
      rw [gsV_ge ho n (Nat.le_refl _)]
      exact ih
  have key : ∀ k r, r < n → rkA X n (X r) < k → itV n B rl ed x k r = X r := by
    intro k
    induction k with
    | zero => intro r _ h; omega
    | succ k ih =>
      intro r hr hk
      refine Nat.le_antisymm ?_ (lo (k + 1) r)
      rcases bX r hr with e | ⟨c, e⟩
      · rw [e]
        have := itV_le (n := n) (B := B) (rl := rl) (ed := ed) (x := x) (k := 0) (k + 1) r
        rw [Nat.zero_add] at this
        exact this
      · have sv : itV n B rl ed x (k + 1) r ≤ loE (gsV B rl ed (itV n B rl ed x k) r) B (ed r) := by
          show gsV B rl ed (itV n B rl ed x k) n r ≤ _
          rw [gsV_at hr c]
          exact Nat.min_le_right _ _
        rcases loE_wit (x := X) (ed r) B with w | ⟨d, hd, w⟩
        · rw [w] at e
          have h1 := itV_le (n := n) (B := B) (rl := rl) (ed := ed) (x := x) (k := 0) (k + 1) r
          rw [Nat.zero_add] at h1
          have h2 : itV n B rl ed x 0 r = x r := rfl
          have := hB r
          omega
        · obtain ⟨d1, d2⟩ := he r hr d hd
          have lt : X d.1 < X r := by omega
          have rk : rkA X n (X d.1) < rkA X n (X r) := by
            have aux : ∀ m, d.1 < m → rkA X m (X d.1) < rkA X m (X r) := by
              intro m
              induction m with
              | zero => intro h; omega
              | succ m ihm =>
                intro h
                show rkA X m (X d.1) + (if X m < X d.1 then 1 else 0) < rkA X m (X r) + (if X m < X r then 1 else 0)
                by_cases cm : d.1 = m
                · rw [← cm, if_neg (by omega), if_pos lt]
                  have mono : ∀ m, rkA X m (X d.1) ≤ rkA X m (X r) := by
                    intro m
                    induction m with
                    | zero => exact Nat.le_refl _
                    | succ m i2 =>
                      show rkA X m (X d.1) + (if X m < X d.1 then 1 else 0) ≤ rkA X m (X r) + (if X m < X r then 1 else 0)
                      by_cases y1 : X m < X d.1
                      · rw [if_pos y1, if_pos (by omega)]; omega
                      · rw [if_neg y1]; omega
                  have := mono d.1
                  omega
                · have := ihm (by omega)
                  by_cases y1 : X m < X d.1
                  · rw [if_pos y1, if_pos (by omega)]; omega
                  · rw [if_neg y1]; omega
            exact aux n d1
          have fo := ih d.1 d1 (by omega)
          have g := (loE_le (x := gsV B rl ed (itV n B rl ed x k) r) (ed r) B).2 d hd
          have g2 := gsV_le (B := B) (rl := rl) (ed := ed) (x := itV n B rl ed x k) r d.1
          omega
  have all : itV n B rl ed x n = X := funext fun o => by
    by_cases c : o < n
    · refine key n o c ?_
      have : ∀ m, o < m → rkA X m (X o) < m := by
        intro m
        induction m with
        | zero => intro h; omega
        | succ m ihm =>
          intro h
          show rkA X m (X o) + (if X m < X o then 1 else 0) < m + 1
          by_cases cm : o = m
          · rw [← cm, if_neg (by omega)]
            have := rkA_le (K := X) (c := X o) o
            omega
          · have := ihm (by omega)
            split <;> omega
      exact this n c
    · rw [out n o (by omega), ← hX, out K o (by omega)]
  show gsV B rl ed (itV n B rl ed x n) n = itV n B rl ed x n
  rw [all]
  have hK : gsV B rl ed (itV n B rl ed x K) n = X := hK
  rw [hX] at hK
  exact hK
end Bf
