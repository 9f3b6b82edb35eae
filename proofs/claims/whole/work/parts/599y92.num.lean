/-! Numbers read from bytes, on both sides. -/
/-- n bytes from a on, behind acc -/
def nbF (g : Nat → Int32) : Nat → Nat → Int64 → Int64
  | _, 0, acc => acc
  | a, n + 1, acc => nbF g (a + 1) n ((acc <<< ((Int32.toInt64 (8 : Int32)) &&& 63)) ||| (Int32.toInt64 (g a)))
theorem nbF_e {g g' : Nat → Int32} : ∀ n a acc, (∀ i, a ≤ i → i < a + n → g i = g' i) → nbF g a n acc = nbF g' a n acc
  | 0, _, _, _ => rfl
  | n + 1, a, acc, h => by
    show nbF g (a + 1) n _ = nbF g' (a + 1) n _
    rw [h a (Nat.le_refl _) (by omega), nbF_e n (a + 1) _ fun i h1 h2 => h i (by omega) (by omega)]
def hiF (g : Nat → Int32) (a f : Nat) : Int64 := if f = 0 then nbF g a 4 0 <<< ((Int32.toInt64 (32 : Int32)) &&& 63) else nbF g a 8 0
def loF (g : Nat → Int32) (a f : Nat) : Int64 := if f = 0 then 0 else nbF g (a + 8) 8 0
section Nb
variable {sa : Nat → Nat} {kc ks b w cap a n k f N : Nat} {s : cS} {t : moS} {l : List Int32}
theorem w_numAt {Q : Int64 → cS → Nat → Nat → Prop} (hb : BL s b w l cap) (ha : a + n < 2 ^ 31) (q : Q (nbF (fun i => l.getD i 0) a n 0) s kc ks) : C_By_numberAt sa b (nI a) (nI n) s kc ks Q := by
  obtain ⟨o, hw, d, b1, b2, b3, b4, b5, b6, b7⟩ := hb
  unfold C_By_numberAt C_By_numberAt_b5
  intro P hP
  have loop : ∀ m j acc, j + m = a + n → nbF (fun i => l.getD i 0) j m acc = nbF (fun i => l.getD i 0) a n 0 → P acc (nI j) s kc ks := by
    intro m
    induction m with
    | zero =>
      intro j acc hj e
      apply hP
      unfold C_By_numberAt_s5
      rw [nI_add]
      refine ifF (nI_nlt (by omega) (by omega)) ?_
      rw [show acc = nbF (fun i => l.getD i 0) a n 0 from e]
      exact q
    | succ m ih =>
      intro j acc hj e
      apply hP
      unfold C_By_numberAt_s5
      rw [nI_add]
      refine ifT (nI_lt (by omega) (by omega)) (ifF (nI_pos (by omega)) ⟨_, gd_to o, ?_⟩)
      rw [show s.I (20 * 0 + 1) b = nI l.length from b3]
      have go : ∀ v : Int32, v = l.getD j 0 → C_By_numberAt_b46 sa b (nI a) (nI n) (nI j) (acc <<< ((Int32.toInt64 (8 : Int32)) &&& 63)) v s kc ks Q P := fun v hv => by
        unfold C_By_numberAt_b46
        rw [nI_1, hv]
        exact ih (j + 1) _ (by omega) e
      by_cases c : j < l.length
      · refine ifT (nI_lt c (by omega)) ⟨_, gd_to o, d, b1, _, gd_to ⟨by rw [b2]; exact hw.1, by rw [b2]; exact hw.2.1, by rw [b2]; exact hw.2.2, by rw [b2]; exact vp_in_nI (show j < cap by omega) (show cap < 2 ^ 31 by omega)⟩, ?_⟩
        rw [nI_clamp (by omega), (b7 j c).1]
        exact go _ (by rw [sb_and]; exact (b7 j c).2)
      · refine ifF (nI_nlt (by omega) (by omega)) (go 0 ?_)
        rw [List.getD_eq_getElem?_getD, List.getElem?_eq_none (by omega)]; rfl
  exact loop n a 0 rfl rfl
theorem m_high (hN : t.N k = N) (hk : a + 16 ≤ N) (hn : N < 2 ^ 31) (hf : f = 0 ∨ f = 1) : M_highOf t k (nI a) (nI f) = some (hiF (t.I k) a f) := by
  have h : ∀ z, z ≤ 8 → (z = if f = 0 then 4 else 8) → M_highOf t k (nI a) (nI f) = some (hiF (t.I k) a f) := by
    intro z hz ez
    have st : ∀ acc j, j ≤ z → M_highOf_s5 t k (nI a) (nI f) acc (nI j) = if j < z then some (.inl ((acc <<< ((Int32.toInt64 (8 : Int32)) &&& 63)) ||| (Int32.toInt64 (t.I k (a + j))), nI (j + 1))) else xo (if f = 0 then some (acc <<< ((Int32.toInt64 (32 : Int32)) &&& 63)) else some acc) := by
      intro acc j hj
      have b17 : M_highOf_b17 t k (nI a) (nI f) acc (nI j) (nI j) (nI z) = if j < z then some (.inl ((acc <<< ((Int32.toInt64 (8 : Int32)) &&& 63)) ||| (Int32.toInt64 (t.I k (a + j))), nI (j + 1))) else xo (if f = 0 then some (acc <<< ((Int32.toInt64 (32 : Int32)) &&& 63)) else some acc) := by
        unfold M_highOf_b17
        by_cases c : j < z
        · rw [if_pos (nI_lt c (by omega)), if_pos c, nI_add, nI_1]
          exact (sr_I hN (by omega) hn).trans rfl
        · rw [if_neg (nI_nlt (by omega) (by omega)), if_neg c]
          rcases hf with rfl | rfl
          · rw [if_pos (show nI 0 = 0 from rfl), if_pos rfl]
          · rw [if_neg (show ¬ nI 1 = 0 by decide), if_neg (by decide)]
      unfold M_highOf_s5
      rcases hf with rfl | rfl
      · rw [if_pos (show nI 0 = 0 from rfl)]
        rw [if_pos rfl] at ez
        rw [ez] at b17 ⊢
        exact b17
      · rw [if_neg (show ¬ nI 1 = 0 by decide)]
        rw [if_neg (by decide)] at ez
        rw [ez] at b17 ⊢
        exact b17
    unfold M_highOf M_highOf_b5
    have loop : ∀ m j acc, j + m = z → nbF (t.I k) (a + j) m acc = nbF (t.I k) a z 0 → lp (fun x : Int64 × Int32 => M_highOf_s5 t k (nI a) (nI f) x.1 x.2) (acc, nI j) = some (hiF (t.I k) a f) := by
      intro m
      induction m with
      | zero =>
        intro j acc hj e
        have hj : j = z := by omega
        subst hj
        have s1 := st acc j (Nat.le_refl _)
        rw [if_neg (Nat.lt_irrefl _)] at s1
        rw [lp_x (show (fun x : Int64 × Int32 => M_highOf_s5 t k (nI a) (nI f) x.1 x.2) (acc, nI j) = _ from s1)]
        have e : acc = nbF (t.I k) a j 0 := e
        unfold hiF
        by_cases c : f = 0
        · rw [if_pos c] at ez
          rw [if_pos c, if_pos c, e, ez]
        · rw [if_neg c] at ez
          rw [if_neg c, if_neg c, e, ez]
      | succ m ih =>
        intro j acc hj e
        have s1 := st acc j (by omega)
        rw [if_pos (by omega)] at s1
        rw [lp_l (show (fun x : Int64 × Int32 => M_highOf_s5 t k (nI a) (nI f) x.1 x.2) (acc, nI j) = _ from s1)]
        exact ih (j + 1) _ (by omega) e
    exact loop z 0 0 (by omega) rfl
  rcases hf with rfl | rfl
  · exact h 4 (by decide) rfl
  · exact h 8 (by decide) rfl
theorem m_low (hN : t.N k = N) (hk : a + 16 ≤ N) (hn : N < 2 ^ 31) (hf : f = 0 ∨ f = 1) : M_lowOf t k (nI a) (nI f) = some (loF (t.I k) a f) := by
  unfold M_lowOf M_lowOf_b6
  rcases hf with rfl | rfl
  · refine lp_x ?_
    show M_lowOf_s6 t k (nI a) (nI 0) 0 8 = _
    unfold M_lowOf_s6
    rw [if_pos (by decide), if_neg (by decide)]
    rfl
  have loop : ∀ m j acc, j + m = 16 → nbF (t.I k) (a + j) m acc = nbF (t.I k) (a + 8) 8 0 → lp (fun x : Int64 × Int32 => M_lowOf_s6 t k (nI a) (nI 1) x.1 x.2) (acc, nI j) = some (loF (t.I k) a 1) := by
    intro m
    induction m with
    | zero =>
      intro j acc hj e
      have hj : j = 16 := by omega
      subst hj
      refine lp_x ?_
      show M_lowOf_s6 t k (nI a) (nI 1) acc (nI 16) = _
      unfold M_lowOf_s6
      rw [if_neg (by decide)]
      have e : acc = nbF (t.I k) (a + 8) 8 0 := e
      rw [e]; rfl
    | succ m ih =>
      intro j acc hj e
      have s1 : M_lowOf_s6 t k (nI a) (nI 1) acc (nI j) = some (.inl ((acc <<< ((Int32.toInt64 (8 : Int32)) &&& 63)) ||| (Int32.toInt64 (t.I k (a + j))), nI (j + 1))) := by
        unfold M_lowOf_s6
        rw [if_pos (show nI j < 16 from nI_lt (b := 16) (by omega) (by decide)), if_pos (show nI 1 = 1 from rfl), nI_add, nI_1]
        exact (sr_I hN (by omega) hn).trans rfl
      rw [lp_l (show (fun x : Int64 × Int32 => M_lowOf_s6 t k (nI a) (nI 1) x.1 x.2) (acc, nI j) = _ from s1)]
      exact ih (j + 1) _ (by omega) e
  exact loop 8 8 0 (by omega) rfl
end Nb
