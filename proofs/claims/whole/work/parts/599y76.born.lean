/-! The key that a datagram bears, on both sides. -/
abbrev k0V : kV := (0, 0, [], 0, 0)
abbrev kGood (tm : Int32) (v : kV) : Prop := ¬ tm < v.2.2.2.1 ∧ ¬ v.2.2.2.2 < tm
abbrev kBet (v b : kV) : Prop := b.2.2.2.1 < v.2.2.2.1 ∨ v.2.2.2.1 = b.2.2.2.1 ∧ b.1 < v.1
/-- the best of the first n keys -/
def bkN (tm : Int32) (L : List kV) : Nat → Option Nat
  | 0 => none
  | n + 1 => if kGood tm (L.getD n k0V) then (match bkN tm L n with
    | none => some n
    | some b => if kBet (L.getD n k0V) (L.getD b k0V) then some n else some b) else bkN tm L n
theorem bkN_b (tm : Int32) (L : List kV) : ∀ n b, bkN tm L n = some b → b < n ∧ kGood tm (L.getD b k0V)
  | 0, b, h => by cases h
  | n + 1, b, h => by
    unfold bkN at h
    by_cases g : kGood tm (L.getD n k0V)
    · rw [if_pos g] at h
      cases e : bkN tm L n with
      | none =>
        rw [e] at h
        cases h
        exact ⟨by omega, g⟩
      | some b' =>
        rw [e] at h
        have h : (if kBet (L.getD n k0V) (L.getD b' k0V) then some n else some b') = some b := h
        split at h
        · cases h; exact ⟨by omega, g⟩
        · have hb := Option.some.inj h
          subst hb
          have := bkN_b tm L n _ e
          exact ⟨by omega, this.2⟩
    · rw [if_neg g] at h
      have := bkN_b tm L n b h
      exact ⟨by omega, this.2⟩
def ixO (q : Nat) : Option Nat → Int32
  | none => -1
  | some b => nI (q + b)
theorem gk_D {L : List kV} {k : Nat} (h : k < L.length) : L[k]? = some (L.getD k k0V) := by
  rw [List.getD_eq_getElem?_getD, List.getElem?_eq_getElem h]; rfl
section Bk
variable {G H : Nat → Nat → Nat} {sa : Nat → Nat} {x kc ks c q : Nat} {s : cS} {t : moS} {V : chV} {tm : Int32}
theorem ixO_n {b : Nat} (h : q + b < 2 ^ 31) : ¬ ixO q (some b) = -1 := fun e => by
  have : (nI (q + b)).toInt = -1 := by rw [show nI (q + b) = -1 from e]; rfl
  have h2 := nI_pos (n := q + b) h
  rw [show nI (q + b) = -1 from e] at h2
  exact h2 (by decide)
theorem c_bear {Q : Int32 → cS → Nat → Nat → Prop} (hg : RGl G H sa x s) (hc : okO s 1 c) (hC : CC H s c V) (h4 : V.2.2.length ≤ 4) (k : Q (ixO 0 (bkN tm V.2.2 V.2.2.length)) s kc ks) : C_Ch_bearer sa c tm s kc ks Q := by
  obtain ⟨-, ⟨p3, q3⟩, -, ⟨p5, q5⟩, ⟨p6, q6⟩, -, -⟩ := chK hg hc
  obtain ⟨-, c2, c3, -⟩ := hC
  generalize V.2.2 = L at *
  have ok : ∀ {a u : Nat} (i : Nat), s.K a = (u, 4) → 100 ≤ u ∧ u < 130 ∧ cAT u = .int → i < 4 → okA s .int a (nI i) := fun {a u} i hK hu hi => ⟨by rw [hK]; exact hu.1, by rw [hK]; exact hu.2.1, by rw [hK]; exact hu.2.2, by rw [hK]; exact show vp_in (nI i) 4 from vp_in_nI hi (by decide)⟩
  have v3 : ∀ i, i < L.length → s.E (H 23 c) i = (L.getD i k0V).1 := fun i hi => (c3 i _ (gk_D hi)).1
  have v5 : ∀ i, i < L.length → s.E (H 25 c) i = (L.getD i k0V).2.2.2.1 := fun i hi => (c3 i _ (gk_D hi)).2.2.1
  have v6 : ∀ i, i < L.length → s.E (H 26 c) i = (L.getD i k0V).2.2.2.2 := fun i hi => (c3 i _ (gk_D hi)).2.2.2.1
  have cl : ∀ i, i < 4 → (nI i).toNatClampNeg = i := fun i hi => nI_clamp (by omega)
  unfold C_Ch_bearer C_Ch_bearer_b4
  intro P hP
  have loop : ∀ m j, j + m = L.length → P (ixO 0 (bkN tm L j)) (nI j) s kc ks := by
    intro m
    induction m with
    | zero =>
      intro j hj
      have hj : j = L.length := by omega
      subst hj
      apply hP
      unfold C_Ch_bearer_s4
      refine ⟨_, gd_to hc, ?_⟩
      rw [show s.I (20 * 1 + 2) c = nI L.length from c2]
      exact ifF (nI_nlt (Nat.le_refl _) (by omega)) k
    | succ m ih =>
      intro j hj
      have hj4 : j < L.length := by omega
      have nx := ih (j + 1) (by omega)
      have e1 : (nI j + 1 : Int32) = nI (j + 1) := nI_1 j
      apply hP
      unfold C_Ch_bearer_s4
      refine ⟨_, gd_to hc, ?_⟩
      rw [show s.I (20 * 1 + 2) c = nI L.length from c2]
      refine ifT (nI_lt hj4 (by omega)) ⟨_, gd_to hc, _, p5, _, gd_to (ok j q5 (by decide) (by omega)), ?_⟩
      rw [cl j (by omega), v5 j hj4]
      have bad : ¬ kGood tm (L.getD j k0V) → C_Ch_bearer_b37 sa c tm (ixO 0 (bkN tm L j)) (nI j) 0 s kc ks Q P := fun g => by
        unfold C_Ch_bearer_b37 C_Ch_bearer_b96
        refine ifT rfl ?_
        rw [e1]
        unfold bkN at nx
        rw [if_neg g] at nx
        exact nx
      by_cases g1 : tm < (L.getD j k0V).2.2.2.1
      · exact ifT g1 (bad fun g => g.1 g1)
      refine ifF g1 ⟨_, gd_to hc, _, p6, _, gd_to (ok j q6 (by decide) (by omega)), ?_⟩
      rw [cl j (by omega), v6 j hj4]
      by_cases g2 : (L.getD j k0V).2.2.2.2 < tm
      · exact ifT g2 (bad fun g => g.2 g2)
      refine ifF g2 ?_
      have g : kGood tm (L.getD j k0V) := ⟨g1, g2⟩
      unfold bkN at nx
      rw [if_pos g] at nx
      unfold C_Ch_bearer_b37
      refine ifF (by decide) ?_
      have new : P (nI j) (nI (j + 1)) s kc ks → C_Ch_bearer_b94 sa c tm (nI j) s kc ks Q P := fun h => by
        unfold C_Ch_bearer_b94 C_Ch_bearer_b96
        rw [e1]; exact h
      cases e : bkN tm L j with
      | none =>
        rw [e] at nx
        refine ifT rfl (new ?_)
        have nx : P (nI (0 + j)) (nI (j + 1)) s kc ks := nx
        rw [Nat.zero_add] at nx
        exact nx
      | some b =>
        rw [e] at nx
        obtain ⟨hb, -⟩ := bkN_b tm L j b e
        have nx : P (ixO 0 (if kBet (L.getD j k0V) (L.getD b k0V) then some j else some b)) (nI (j + 1)) s kc ks := nx
        refine ifF (ixO_n (by omega)) ⟨_, gd_to hc, _, p5, _, gd_to (ok j q5 (by decide) (by omega)), _, gd_to hc, _, p5, ?_⟩
        have eb : ixO 0 (some b) = nI b := by show nI (0 + b) = _; rw [Nat.zero_add]
        have yes : kBet (L.getD j k0V) (L.getD b k0V) → C_Ch_bearer_b94 sa c tm (nI j) s kc ks Q P := fun hb' => new (by
          rw [if_pos hb'] at nx
          have nx : P (nI (0 + j)) (nI (j + 1)) s kc ks := nx
          rw [Nat.zero_add] at nx
          exact nx)
        have no : ¬ kBet (L.getD j k0V) (L.getD b k0V) → C_Ch_bearer_b96 sa c tm (nI b) (nI j) s kc ks Q P := fun hb' => by
          unfold C_Ch_bearer_b96
          rw [if_neg hb'] at nx
          have nx : P (nI (0 + b)) (nI (j + 1)) s kc ks := nx
          rw [Nat.zero_add] at nx
          rw [e1]; exact nx
        rw [eb]
        refine ⟨_, gd_to (ok b q5 (by decide) (by omega)), ?_⟩
        rw [cl j (by omega), cl b (by omega), v5 j hj4, v5 b (by omega)]
        by_cases c1 : (L.getD b k0V).2.2.2.1 < (L.getD j k0V).2.2.2.1
        · exact ifT c1 (yes (Or.inl c1))
        refine ifF c1 ⟨_, gd_to hc, _, p5, _, gd_to (ok j q5 (by decide) (by omega)), _, gd_to hc, _, p5, _, gd_to (ok b q5 (by decide) (by omega)), ?_⟩
        rw [cl j (by omega), cl b (by omega), v5 j hj4, v5 b (by omega)]
        by_cases c2' : (L.getD j k0V).2.2.2.1 = (L.getD b k0V).2.2.2.1
        · refine ifT c2' ⟨_, gd_to hc, _, p3, _, gd_to (ok j q3 (by decide) (by omega)), _, gd_to hc, _, p3, _, gd_to (ok b q3 (by decide) (by omega)), ?_⟩
          rw [cl j (by omega), cl b (by omega), v3 j hj4, v3 b (by omega)]
          by_cases c3' : (L.getD b k0V).1 < (L.getD j k0V).1
          · exact ifT c3' (yes (Or.inr ⟨c2', c3'⟩))
          · exact ifF c3' (no fun z => z.elim c1 fun z => c3' z.2)
        · exact ifF c2' (no fun z => z.elim c1 fun z => c2' z.1)
  exact loop L.length 0 (by omega)
/-- the model's -/
theorem m_born (hN : mN t) (hq : q < 24) (hM : MC t q V) (h4 : V.2.2.length ≤ 4) : M_bornKey t (nI q) = some (ixO (4 * q) (bkN (t.S 1) V.2.2 V.2.2.length)) := by
  obtain ⟨-, c2, c3, -⟩ := hM
  generalize V.2.2 = L at *
  have v3 : ∀ i, i < L.length → t.I 83 (4 * q + i) = (L.getD i k0V).1 := fun i hi => (c3 i _ (gk_D hi)).1
  have v5 : ∀ i, i < L.length → t.I 87 (4 * q + i) = (L.getD i k0V).2.2.2.1 := fun i hi => (c3 i _ (gk_D hi)).2.2.2.2.1
  have v6 : ∀ i, i < L.length → t.I 88 (4 * q + i) = (L.getD i k0V).2.2.2.2 := fun i hi => (c3 i _ (gk_D hi)).2.2.2.2.2
  have e4 : (4 : Int32) * nI q = nI (4 * q) := by rw [show (4 : Int32) = nI 4 from rfl, pk_mul]
  unfold M_bornKey M_bornKey_b6
  rw [e4]
  have loop : ∀ m j, j + m = L.length → lp (fun x : Int32 × Int32 => M_bornKey_s6 t (nI q) x.1 x.2) (ixO (4 * q) (bkN (t.S 1) L j), nI (4 * q + j)) = some (ixO (4 * q) (bkN (t.S 1) L L.length)) := by
    intro m
    induction m with
    | zero =>
      intro j hj
      have hj : j = L.length := by omega
      subst hj
      have st : M_bornKey_s6 t (nI q) (ixO (4 * q) (bkN (t.S 1) L L.length)) (nI (4 * q + L.length)) = xo (some (ixO (4 * q) (bkN (t.S 1) L L.length))) := by
        unfold M_bornKey_s6
        refine (sr_I (hN.n 82 24) hq (by decide)).trans ?_
        rw [c2, e4, nI_add, if_neg (nI_nlt (Nat.le_refl _) (by omega))]
      rw [lp_x (show (fun x : Int32 × Int32 => M_bornKey_s6 t (nI q) x.1 x.2) (ixO (4 * q) (bkN (t.S 1) L L.length), nI (4 * q + L.length)) = _ from st)]
    | succ m ih =>
      intro j hj
      have hj4 : j < L.length := by omega
      have st : M_bornKey_s6 t (nI q) (ixO (4 * q) (bkN (t.S 1) L j)) (nI (4 * q + j)) = some (.inl (ixO (4 * q) (bkN (t.S 1) L (j + 1)), nI (4 * q + (j + 1)))) := by
        have gd : M_isGood t (nI (4 * q + j)) = some (if kGood (t.S 1) (L.getD j k0V) then 1 else 0) := by
          unfold M_isGood
          refine (sr_I (hN.n 87 96) (by omega) (by decide)).trans ?_
          rw [v5 j hj4]
          by_cases g1 : t.S 1 < (L.getD j k0V).2.2.2.1
          · rw [if_pos g1, if_neg (fun g => g.1 g1)]; rfl
          rw [if_neg g1]
          refine (sr_I (hN.n 88 96) (by omega) (by decide)).trans ?_
          rw [v6 j hj4]
          by_cases g2 : (L.getD j k0V).2.2.2.2 < t.S 1
          · rw [if_pos g2, if_neg (fun g => g.2 g2)]; rfl
          · rw [if_neg g2, if_pos ⟨g1, g2⟩]
        unfold M_bornKey_s6
        refine (sr_I (hN.n 82 24) hq (by decide)).trans ?_
        rw [c2, e4, nI_add, if_pos (nI_lt (by omega) (by omega)), gd]
        show (if (if kGood (t.S 1) (L.getD j k0V) then (1 : Int32) else 0) = 0 then _ else _) = _
        have e1 : (nI (4 * q + j) + 1 : Int32) = nI (4 * q + (j + 1)) := nI_1 _
        rw [show bkN (t.S 1) L (j + 1) = if kGood (t.S 1) (L.getD j k0V) then (match bkN (t.S 1) L j with | none => some j | some b => if kBet (L.getD j k0V) (L.getD b k0V) then some j else some b) else bkN (t.S 1) L j from rfl]
        by_cases g : kGood (t.S 1) (L.getD j k0V)
        rotate_left
        · rw [if_neg g, if_neg g, if_pos rfl]
          unfold M_bornKey_b99
          rw [e1]
        rw [if_pos g, if_pos g, if_neg (by decide)]
        have yes : ∀ a, M_bornKey_b81 t (nI q) a (nI (4 * q + j)) = some (.inl (nI (4 * q + j), nI (4 * q + (j + 1)))) := fun a => by
          unfold M_bornKey_b81 M_bornKey_b86 M_bornKey_b98 M_bornKey_b99
          rw [if_neg (by decide), e1]
        have no : ∀ a, M_bornKey_b85 t (nI q) a (nI (4 * q + j)) = some (.inl (a, nI (4 * q + (j + 1)))) := fun a => by
          unfold M_bornKey_b85 M_bornKey_b86 M_bornKey_b98 M_bornKey_b99
          rw [if_pos rfl, e1]
        cases e : bkN (t.S 1) L j with
        | none =>
          rw [if_pos (show ixO (4 * q) none = -1 from rfl), yes]
          rfl
        | some b =>
          obtain ⟨hb, -⟩ := bkN_b (t.S 1) L j b e
          rw [if_neg (ixO_n (by omega))]
          show _ = some (Sum.inl (ixO (4 * q) (if kBet (L.getD j k0V) (L.getD b k0V) then some j else some b), _))
          rw [show ixO (4 * q) (some b) = nI (4 * q + b) from rfl]
          refine (sr_I (hN.n 87 96) (by omega) (by decide)).trans ?_
          refine (sr_I (hN.n 87 96) (by omega) (by decide)).trans ?_
          rw [v5 j hj4, v5 b (by omega)]
          by_cases c1 : (L.getD b k0V).2.2.2.1 < (L.getD j k0V).2.2.2.1
          · rw [if_pos c1, if_pos (Or.inl c1), yes]; rfl
          rw [if_neg c1]
          refine (sr_I (hN.n 87 96) (by omega) (by decide)).trans ?_
          refine (sr_I (hN.n 87 96) (by omega) (by decide)).trans ?_
          rw [v5 j hj4, v5 b (by omega)]
          by_cases c2' : (L.getD j k0V).2.2.2.1 = (L.getD b k0V).2.2.2.1
          · rw [if_pos c2']
            refine (sr_I (hN.n 83 96) (by omega) (by decide)).trans ?_
            refine (sr_I (hN.n 83 96) (by omega) (by decide)).trans ?_
            rw [v3 j hj4, v3 b (by omega)]
            by_cases c3' : (L.getD b k0V).1 < (L.getD j k0V).1
            · rw [if_pos c3', if_pos (Or.inr ⟨c2', c3'⟩), yes]; rfl
            · rw [if_neg c3', if_neg (fun z => z.elim c1 fun z => c3' z.2), no]; rfl
          · rw [if_neg c2', if_neg (fun z => z.elim c1 fun z => c2' z.1), no]; rfl
      rw [lp_l (show (fun x : Int32 × Int32 => M_bornKey_s6 t (nI q) x.1 x.2) (ixO (4 * q) (bkN (t.S 1) L j), nI (4 * q + j)) = _ from st)]
      exact ih (j + 1) (by omega)
  exact loop L.length 0 (by omega)
end Bk
