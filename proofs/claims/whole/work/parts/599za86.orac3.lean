/-! Least sums: the model's rounds. -/
abbrev Wor : List Nat := [153, 154, 155, 156, 161]
theorem L_addN {A c : Nat} : Int64.ofNat A + Int64.ofNat c = Int64.ofNat (A + c) := (Int64.ofNat_add A c).symm
theorem nbB_fr {t t' : moS} {W : List Nat} (m : mfr W t t') (d : dj [39, 70, 71, 75] W) {lk f o : Nat} : nbB t' lk f o = nbB t lk f o := by
  unfold nbB cI
  rw [m.I 39 (d.n 39), m.I 70 (d.n 70), m.I 71 (d.n 71), m.I 75 (d.n 75)]
theorem rowE_fr {t t' : moS} {W : List Nat} (m : mfr W t t') (d : dj [39, 70, 71, 75] W) {lk f c : Nat} {v : Nat → Bool} : ∀ k, rowE t' lk f v c k = rowE t lk f v c k
  | 0 => rfl
  | k + 1 => by
    show rowE t' lk f v c k ++ _ = rowE t lk f v c k ++ _
    rw [rowE_fr m d k, nbB_fr m d]
theorem edE_fr {t t' : moS} {W : List Nat} (m : mfr W t t') (d : dj [39, 70, 71, 75] W) (d2 : dj [22, 37, 71, 72, 75] W) {f r : Nat} {v : Nat → Bool} : ∀ k, edE t' f v r k = edE t f v r k
  | 0 => rfl
  | k + 1 => by
    show edE t' f v r k ++ _ = edE t f v r k ++ _
    have e : okB t' f (4 * r + k) = okB t f (4 * r + k) := by
      unfold okB
      rw [m.I 22 (d2.n 22), m.I 71 (d2.n 71), m.I 75 (d2.n 75)]
    have eR : cR t' = cR t := by unfold cR; rw [m.S 37 (d2.n 37)]
    rw [edE_fr m d d2 k, e, rowE_fr m d, m.I 71 (d2.n 71), m.I 72 (d2.n 72), eR]
theorem noDu_fr {t t' : moS} (m : mfr Wor t t') {r : Nat} {f n : Int32} {h l : Int64} : noDu t' r f h l n ↔ noDu t r f h l n := by
  unfold noDu upN kyS cSt cI
  simp only [m.I 22 (by decide), m.I 46 (by decide), m.I 47 (by decide), m.I 50 (by decide), m.I 70 (by decide), m.I 71 (by decide), m.I 75 (by decide), m.I 78 (by decide), m.J 48 (by decide), m.J 49 (by decide), m.J 76 (by decide), m.J 77 (by decide)]
section Mr
variable {t t0 : moS} {r f : Nat} {x y : Nat → Nat} {p1 a3 : Int32} {a4 a6 : Int64}
/-- router r looks at its neighbors -/
theorem m_202 (hM : MV t) (hx : sumM t x) (hr : r < cR t) (hf : f < 2) {a9 : Int32} (ha : a9 = 0 ∨ a9 = 1) : M_oracle_b202 t p1 a3 a4 a6 (nI f) a9 (nI r) 1000 (nI (4 * r)) = some (.inl (if a9 = 0 ∧ ¬ loE x 1000 (edE t f (fun o => decide (o = r)) r (cI t r)) < x r then 0 else 1, nI (r + 1), moSJ t 161 r (Int64.ofNat (min (x r) (loE x 1000 (edE t f (fun o => decide (o = r)) r (cI t r))))))) := by
  have h6 := hM.nR
  have h4 := hM.nIf hr
  have hN := hM.n
  have e70 : t.I 70 r = nI (cI t r) := (hM.r hr).2.2.2.2.2.2.2.2.2.1.n.1
  have e4 : (4 : Int32) * nI r = nI (4 * r) := by rw [show (4 : Int32) = nI 4 from rfl, pk_mul]
  obtain ⟨xr1, xr2⟩ := hx r (by omega)
  unfold M_oracle_b202
  have loop : ∀ d k, k + d = cI t r → lp (fun z : Int64 × Int32 × moS => M_oracle_s202 z.2.2 p1 a3 a4 a6 (nI f) a9 (nI r) z.1 z.2.1) (Int64.ofNat (loE x 1000 (edE t f (fun o => decide (o = r)) r k)), nI (4 * r + k), t) = some (.inl (if a9 = 0 ∧ ¬ loE x 1000 (edE t f (fun o => decide (o = r)) r (cI t r)) < x r then 0 else 1, nI (r + 1), moSJ t 161 r (Int64.ofNat (min (x r) (loE x 1000 (edE t f (fun o => decide (o = r)) r (cI t r))))))) := by
    intro d
    induction d with
    | zero =>
      intro k hk
      have : k = cI t r := by omega
      subst this
      have v1000 := (loE_le (x := x) (edE t f (fun o => decide (o = r)) r (cI t r)) 1000).1
      generalize loE x 1000 (edE t f (fun o => decide (o = r)) r (cI t r)) = v at v1000 ⊢
      refine lp_x ?_
      show M_oracle_s202 t p1 a3 a4 a6 (nI f) a9 (nI r) (Int64.ofNat v) (nI (4 * r + cI t r)) = _
      unfold M_oracle_s202
      rw [rdI_n (n := 6) (hN.n 70 6) (by omega) (by decide), Option.bind_some, e70, e4, nI_add, if_neg (nI_nlt (Nat.le_refl _) (by omega))]
      have b321 : ∀ u : Int32, M_oracle_b321 t p1 a3 a4 a6 (nI f) (nI r) (Int64.ofNat v) u = some (.inl (u, nI (r + 1), moSJ t 161 r (Int64.ofNat (min (x r) v)))) := fun u => by
        unfold M_oracle_b321 M_oracle_b354 M_oracle_b355
        rw [rdJ_n (n := 6) (hN.n 161 6) (by omega) (by decide), Option.bind_some, xr1]
        by_cases c : v < x r
        · rw [if_pos ((L_lt (by omega) (by omega)).2 c), wrJ_n (n := 6) (hN.n 161 6) (by omega) (by decide), Option.bind_some, Nat.min_eq_right (by omega), nI_1]
        · rw [if_neg (fun z => c ((L_lt (by omega) (by omega)).1 z)), Option.bind_some, wrJ_n (n := 6) (hN.n 161 6) (by omega) (by decide), Option.bind_some, Nat.min_eq_left (by omega), nI_1]
      unfold M_oracle_b316
      rcases ha with rfl | rfl
      · rw [if_pos rfl, rdJ_n (n := 6) (hN.n 161 6) (by omega) (by decide), Option.bind_some, xr1]
        by_cases c : v < x r
        · rw [if_pos ((L_lt (by omega) (by omega)).2 c), b321, if_neg (fun z => z.2 c)]
        · rw [if_neg (fun z => c ((L_lt (by omega) (by omega)).1 z)), b321, if_pos ⟨rfl, c⟩]
      · rw [if_neg (by decide), b321, if_neg (fun z => absurd z.1 (by decide))]
    | succ d ih =>
      intro k hk
      have hk' : k < cI t r := by omega
      have hvi := (hM.r hr).i hk'
      obtain ⟨e71, -, e71b⟩ := hvi.1.n
      have hcl := hvi.2.1
      obtain ⟨e72, -, h72⟩ := hvi.2.2.1.n
      have h10 := hM.nL
      have a1000 := (loE_le (x := x) (edE t f (fun o => decide (o = r)) r k) 1000).1
      have eS : loE x 1000 (edE t f (fun o => decide (o = r)) r (k + 1)) = if okB t f (4 * r + k) = true then loE x (loE x 1000 (edE t f (fun o => decide (o = r)) r k)) (rowE t (t.I 71 (4 * r + k)).toNatClampNeg f (fun o => decide (o = r)) (t.I 72 (4 * r + k)).toNatClampNeg (cR t)) else loE x 1000 (edE t f (fun o => decide (o = r)) r k) := by
        show loE x 1000 (edE t f (fun o => decide (o = r)) r k ++ _) = _
        rw [loE_app]
        split
        · rfl
        · rfl
      refine Eq.trans (lp_l (f := fun z : Int64 × Int32 × moS => M_oracle_s202 z.2.2 p1 a3 a4 a6 (nI f) a9 (nI r) z.1 z.2.1) (x := (Int64.ofNat (loE x 1000 (edE t f (fun o => decide (o = r)) r k)), nI (4 * r + k), t)) (y := (Int64.ofNat (loE x 1000 (edE t f (fun o => decide (o = r)) r (k + 1))), nI (4 * r + (k + 1)), t)) ?_) (ih (k + 1) (by omega))
      show M_oracle_s202 t p1 a3 a4 a6 (nI f) a9 (nI r) (Int64.ofNat (loE x 1000 (edE t f (fun o => decide (o = r)) r k))) (nI (4 * r + k)) = _
      rw [eS]
      generalize loE x 1000 (edE t f (fun o => decide (o = r)) r k) = a at a1000 ⊢
      rw [row_c a1000]
      generalize hlk : (t.I 71 (4 * r + k)).toNatClampNeg = lk at *
      generalize hcc : (t.I 72 (4 * r + k)).toNatClampNeg = c at *
      have ll := (loE_le (x := x) (rowE t lk f (fun o => decide (o = r)) 0 (cR t)) 1000).1
      unfold M_oracle_s202
      rw [rdI_n (n := 6) (hN.n 70 6) (by omega) (by decide), Option.bind_some, e70, e4, nI_add, if_pos (nI_lt (by omega) (by omega)), rdI_n (n := 24) (hN.n 71 24) (by omega) (by decide), Option.bind_some, e71, m_leastAt hM hx hr hf, Option.bind_some, rdI_n (n := 24) (hN.n 72 24) (by omega) (by decide), Option.bind_some, e72, show (2 : Int32) * nI (4 * r + k) + nI f = nI (2 * (4 * r + k) + f) by rw [show (2 : Int32) = nI 2 from rfl, pk_mul, nI_add], rdI_n (n := 48) (hN.n 75 48) (by omega) (by decide), Option.bind_some]
      generalize loE x 1000 (rowE t lk f (fun o => decide (o = r)) 0 (cR t)) = w at ll ⊢
      have keep : ¬ okB t f (4 * r + k) = true → M_oracle_b288 t p1 a3 a4 a6 (nI f) a9 (nI r) (Int64.ofNat a) (nI (4 * r + k)) = some (.inl (Int64.ofNat (if okB t f (4 * r + k) = true then min a (w + c) else a), nI (4 * r + (k + 1)), t)) := fun h => by
        unfold M_oracle_b288 M_oracle_b290
        rw [if_neg h, nI_1]
        rfl
      by_cases c1 : t.I 75 (2 * (4 * r + k) + f) = 0
      · rw [if_pos c1]
        refine keep (fun z => ?_)
        unfold okB at z
        rw [Bool.and_eq_true, decide_eq_true_iff] at z
        exact z.1 c1
      · rw [if_neg c1, Option.bind_some, rdI_n (n := 10) (hN.n 22 10) (by omega) (by decide), Option.bind_some]
        by_cases c2 : t.I 22 lk = 0
        · rw [if_pos c2]
          refine keep (fun z => ?_)
          unfold okB at z
          rw [Bool.and_eq_true, decide_eq_true_iff, decide_eq_true_iff, hlk] at z
          exact z.2 c2
        · have yes : okB t f (4 * r + k) = true := by
            unfold okB
            rw [Bool.and_eq_true, decide_eq_true_iff, decide_eq_true_iff, hlk]
            exact ⟨c1, c2⟩
          rw [if_neg c2, nI_L (by omega), L_addN, if_pos yes]
          unfold M_oracle_b288 M_oracle_b290
          by_cases c3 : w + c < a
          · rw [if_pos ((L_lt (by omega) (by omega)).2 c3), Nat.min_eq_right (by omega), nI_1]
            rfl
          · rw [if_neg (fun z => c3 ((L_lt (by omega) (by omega)).1 z)), Nat.min_eq_left (by omega), nI_1]
            rfl
  exact loop (cI t r) 0 (by omega)
end Mr
