/-! Which sources may be heard, and how many. -/
/-- the upper half alone -/
def lh0 (h : Int64) : Prop := ∃ n, n < 2 ^ 32 ∧ h = Int64.ofNat (n * 2 ^ 32)
/-- a number of four bytes -/
def nu4 (v : Int64) : Prop := ∃ n, n < 2 ^ 32 ∧ v = Int64.ofNat n
theorem lh_shl (x : Int64) : lh0 (x <<< ((Int32.toInt64 (32 : Int32)) &&& 63)) := by
  refine ⟨x.toBitVec.toNat % 2 ^ 32, by omega, Int64.toBitVec_inj.mp (BitVec.eq_of_toNat_eq ?_)⟩
  have e1 : (x <<< ((32 : Int32).toInt64 &&& 63)).toBitVec = x.toBitVec <<< 32 := rfl
  rw [e1, L_toNat, BitVec.toNat_shiftLeft, Nat.shiftLeft_eq]
  have := x.toBitVec.isLt
  omega
theorem lh_0 : lh0 0 := ⟨0, by decide, rfl⟩
theorem lh_ush {n : Nat} (h : n < 2 ^ 32) : Int64.toInt32 (ush (Int64.ofNat (n * 2 ^ 32)) 32) = nI n := by
  have e : ush (Int64.ofNat (n * 2 ^ 32)) 32 = Int64.ofNat n := by
    refine Int64.toBitVec_inj.mp (BitVec.eq_of_toNat_eq ?_)
    rw [ush_bv _ 32 32 (by decide), BitVec.toNat_ushiftRight, L_toNat, L_toNat, Nat.shiftRight_eq_div_pow]
    omega
  rw [e, L_toI]
theorem lh_inj {h h' : Int64} (a : lh0 h) (b : lh0 h') : Int64.toInt32 (ush h 32) = Int64.toInt32 (ush h' 32) ↔ h = h' := by
  obtain ⟨n, hn, rfl⟩ := a
  obtain ⟨m, hm, rfl⟩ := b
  rw [lh_ush hn, lh_ush hm]
  constructor
  · intro e
    rw [nI_inj32 hn hm e]
  · intro e
    have := congrArg (fun z : Int64 => z.toBitVec.toNat) e
    have this : (Int64.ofNat (n * 2 ^ 32)).toBitVec.toNat = (Int64.ofNat (m * 2 ^ 32)).toBitVec.toNat := this
    rw [L_toNat, L_toNat] at this
    rw [show n = m by omega]
theorem L_lo {N : Nat} (h : N < 2 ^ 32) : (Int32.toInt64 (nI N)) &&& (4294967295 : Int64) = Int64.ofNat N := by
  have e : Int32.toInt64 (nI N) = Int64.ofNat (N + (if N < 2 ^ 31 then 0 else 2 ^ 64 - 2 ^ 32)) := by
    refine Int64.toBitVec_inj.mp (BitVec.eq_of_toNat_eq ?_)
    rw [L_toNat]
    show (BitVec.signExtend 64 (BitVec.ofNat 32 N)).toNat = _
    by_cases c : N < 2 ^ 31
    · rw [if_pos c, BitVec.signExtend_eq_setWidth_of_msb_false (by rw [BitVec.msb_eq_decide, BitVec.toNat_ofNat]; simp; omega), BitVec.toNat_setWidth, BitVec.toNat_ofNat]
      omega
    · rw [if_neg c, BitVec.toNat_signExtend, BitVec.toNat_setWidth, BitVec.toNat_ofNat]
      have hm : (BitVec.ofNat 32 N).msb = true := by rw [BitVec.msb_eq_decide, BitVec.toNat_ofNat]; simp; omega
      rw [hm, if_pos rfl]
      omega
  have h2 := L_and (A := N + (if N < 2 ^ 31 then 0 else 2 ^ 64 - 2 ^ 32)) (by split <;> omega) 32 (by decide)
  rw [e, show (4294967295 : Int64) = Int64.ofNat (2 ^ 32 - 1) from rfl, h2]
  congr 1
  split <;> omega
theorem L_lt {A B : Nat} (hA : A < 2 ^ 63) (hB : B < 2 ^ 63) : Int64.ofNat A < Int64.ofNat B ↔ A < B := by
  rw [Int64.lt_iff_toInt_lt, Int64.toInt_ofNat_of_lt hA, Int64.toInt_ofNat_of_lt hB]
  omega
/-- a source that may be heard on link l -/
def sIn (E : List (Int32 × Int64)) (t : moS) (l : Int32) (h : Int64) : Prop := h = 0 ∨ (l, h) ∈ E ∨ ∃ q, q < 24 ∧ t.I 75 (2 * q) ≠ 0 ∧ l = t.I 71 q ∧ h = t.J 76 (2 * q)
def SRC (E : List (Int32 × Int64)) (t : moS) : Prop := (t.N 70 = 6 ∧ t.N 71 = 24 ∧ t.N 75 = 48 ∧ t.N 76 = 48) ∧ (∀ e, e ∈ E → lh0 e.2) ∧ (∀ q, q < 24 → lh0 (t.J 76 (2 * q)) ∧ (t.I 75 (2 * q) = 0 → t.J 76 (2 * q) = 0)) ∧ (∀ r, r < 6 → rng (t.I 70 r) 0 4 ∧ ∀ p, p < 4 → cI t r ≤ p → t.I 75 (2 * (4 * r + p)) = 0) ∧ (∀ p, t.I 131 p = 0 → sIn E t (t.I 126 p) (t.J 132 p)) ∧ (∀ k, k < (t.S 101).toNatClampNeg → (∃ r p, r < 6 ∧ p < cI t r ∧ t.I 102 k = nI (4 * r + p) ∧ sIn E t (t.I 71 (4 * r + p)) (t.J 103 k)) ∧ nu4 (t.J 104 k)) ∧ ∀ k k', k < (t.S 101).toNatClampNeg → k' < (t.S 101).toNatClampNeg → t.I 102 k = t.I 102 k' → t.J 103 k = t.J 103 k' → k = k'
theorem sIn.lh {E : List (Int32 × Int64)} {t : moS} {l : Int32} {h : Int64} (hS : SRC E t) (i : sIn E t l h) : lh0 h := by
  rcases i with rfl | i | ⟨q, h1, h2, h3, rfl⟩
  · exact lh_0
  · exact hS.2.1 _ i
  · exact (hS.2.2.1 q h1).1
theorem sIn.fr {E : List (Int32 × Int64)} {t t' : moS} {W : List Nat} {l : Int32} {h : Int64} (i : sIn E t l h) (m : mfr W t t') (d : dj [71, 75, 76] W) : sIn E t' l h := by
  unfold sIn at i ⊢
  rw [m.I 71 (d.n 71), m.I 75 (d.n 75), m.J 76 (d.n 76)]
  exact i
theorem SRC.fr {E : List (Int32 × Int64)} {t t' : moS} {W : List Nat} (hS : SRC E t) (m : mfr W t t') (d : dj [70, 71, 75, 76, 101, 102, 103, 104, 126, 131, 132] W) : SRC E t' := by
  unfold SRC sIn cI at hS ⊢
  rw [m.I 70 (d.n 70), m.I 71 (d.n 71), m.I 75 (d.n 75), m.J 76 (d.n 76), m.S 101 (d.n 101), m.I 102 (d.n 102), m.J 103 (d.n 103), m.J 104 (d.n 104), m.I 126 (d.n 126), m.I 131 (d.n 131), m.J 132 (d.n 132), m.2 70 (Or.inr (by decide)), m.2 71 (Or.inr (by decide)), m.2 75 (Or.inr (by decide)), m.2 76 (Or.inr (by decide))]
  exact hS
section Cnt
variable {E : List (Int32 × Int64)} {t : moS}
/-- how many sources there are in all -/
theorem so_n (hS : SRC E t) (hM : MV t) : (t.S 101).toNatClampNeg ≤ 6 * (E.length + 34) := by
  have h6 := hM.nR
  obtain ⟨-, -, -, -, -, s5, s6⟩ := hS
  have bq : ∀ k, k < (t.S 101).toNatClampNeg → ∃ r p, r < cR t ∧ p < cI t r ∧ t.I 102 k = nI (4 * r + p) := hM.2.2.2.2.2.2.2.2.2.2
  have cl : ∀ r p, r < 6 → p < 4 → (nI (4 * r + p)).toNatClampNeg = 4 * r + p := fun r p h1 h2 => nI_clamp (by omega)
  have h4 : ∀ r, r < cR t → cI t r ≤ 4 := fun r hr => (hM.r hr).2.2.2.2.2.2.2.2.2.1.n.2.2
  let O0 : List (Int32 × Int64) := E ++ (List.range 24).map (fun q => (t.I 71 q, t.J 76 (2 * q))) ++ (List.range 10).map (fun l => (nI l, 0))
  let O : List (Nat × Int32 × Int64) := (List.range 6).flatMap (fun r => O0.map (fun e => (r, e)))
  have lO0 : O0.length = E.length + 34 := by
    show (E ++ (List.range 24).map (fun q => (t.I 71 q, t.J 76 (2 * q))) ++ (List.range 10).map (fun l => (nI l, (0 : Int64)))).length = _
    rw [List.length_append, List.length_append, List.length_map, List.length_map, List.length_range, List.length_range]
  have lO : O.length = 6 * (E.length + 34) := by
    show ((List.range 6).flatMap (fun r => O0.map (fun e => (r, e)))).length = _
    simp only [show List.range 6 = [0, 1, 2, 3, 4, 5] from rfl, List.flatMap_cons, List.flatMap_nil, List.length_append, List.length_map, lO0, List.length_nil]
    omega
  let L : List (Nat × Int32 × Int64) := (List.range (t.S 101).toNatClampNeg).map (fun k => ((t.I 102 k).toNatClampNeg / 4, t.I 71 (t.I 102 k).toNatClampNeg, t.J 103 k))
  have lL : L.length = (t.S 101).toNatClampNeg := by
    show ((List.range (t.S 101).toNatClampNeg).map _).length = _
    rw [List.length_map, List.length_range]
  rw [← lL, ← lO]
  refine nd_le L O ?_ ?_
  · refine List.pairwise_map.mpr ?_
    refine List.Pairwise.imp_of_mem (R := fun i j => i < j) ?_ List.pairwise_lt_range
    intro i j hi hj hij z
    have hi := List.mem_range.mp hi
    have hj := List.mem_range.mp hj
    obtain ⟨r, p, a1, a2, a3⟩ := bq i hi
    obtain ⟨r', p', b1, b2, b3⟩ := bq j hj
    have x1 := h4 r a1
    have x2 := h4 r' b1
    have z1 := congrArg Prod.fst z
    have z2 := congrArg (fun y => y.2.1) z
    have z3 := congrArg (fun y => y.2.2) z
    dsimp only at z1 z2 z3
    rw [a3, b3, cl r p (by omega) (by omega), cl r' p' (by omega) (by omega)] at z1 z2
    have er : r = r' := by omega
    subst er
    have ep : p = p' := by
      rcases Nat.lt_trichotomy p p' with c | c | c
      · exact absurd z2 ((hM.r a1).2.2.2.2.2.2.2.2.2.2.2.1 p p' c b2)
      · exact c
      · exact absurd z2.symm ((hM.r a1).2.2.2.2.2.2.2.2.2.2.2.1 p' p c a2)
    subst ep
    have := s6 i j hi hj (a3.trans b3.symm) z3
    omega
  · intro y hy
    obtain ⟨k, hk, rfl⟩ := List.mem_map.mp hy
    have hk := List.mem_range.mp hk
    obtain ⟨r, p, a1, a2, a3⟩ := bq k hk
    obtain ⟨⟨r', p', b1, b2, b3, b4⟩, -⟩ := s5 k hk
    have x1 := h4 r a1
    have x2 : cI t r' ≤ 4 := by
      by_cases c : r' < cR t
      · exact h4 r' c
      · have := ((hM.2.2.2.2.2.2.2.1 r' (by omega) b1).1).2.2.2.2.2.1
        unfold cI
        rw [this]
        decide
    have e1 : 4 * r' + p' = 4 * r + p := by
      have := nI_inj (b3.symm.trans a3) (by omega) (by omega)
      omega
    rw [e1] at b4
    refine List.mem_flatMap.mpr ⟨r, List.mem_range.mpr (by omega), ?_⟩
    rw [a3, cl r p (by omega) (by omega), show (4 * r + p) / 4 = r by omega]
    refine List.mem_map.mpr ⟨(t.I 71 (4 * r + p), t.J 103 k), ?_, rfl⟩
    rcases b4 with c | c | ⟨q, c1, c2, c3, c4⟩
    · refine List.mem_append.mpr (Or.inr (List.mem_map.mpr ?_))
      obtain ⟨n, d1, d2, d3⟩ := ((hM.r a1).2.2.2.2.2.2.2.2.2.2.1 p a2).1
      exact ⟨n, List.mem_range.mpr (by omega), by rw [d1, c]⟩
    · exact List.mem_append.mpr (Or.inl (List.mem_append.mpr (Or.inl c)))
    · refine List.mem_append.mpr (Or.inl (List.mem_append.mpr (Or.inr (List.mem_map.mpr ⟨q, List.mem_range.mpr c1, ?_⟩))))
      rw [c3, c4]
/-- how many an interface has heard -/
theorem so_q (hS : SRC E t) (q : Nat) : (msL t q).length ≤ E.length + 25 := by
  obtain ⟨-, -, -, -, -, s5, s6⟩ := hS
  let O : List Int64 := E.map (fun e : Int32 × Int64 => e.2) ++ (List.range 24).map (fun q => t.J 76 (2 * q)) ++ [0]
  have lO : O.length = E.length + 25 := by
    show (E.map (fun e : Int32 × Int64 => e.2) ++ (List.range 24).map (fun q => t.J 76 (2 * q)) ++ [0]).length = _
    rw [List.length_append, List.length_append, List.length_map, List.length_map, List.length_range]
    rfl
  have lL : ((msL t q).map (fun k => t.J 103 k)).length = (msL t q).length := List.length_map _
  have mem : ∀ k, k ∈ msL t q → k < (t.S 101).toNatClampNeg ∧ t.I 102 k = nI q := fun k hk => by
    unfold msL at hk
    obtain ⟨h1, h2⟩ := List.mem_filter.mp hk
    exact ⟨List.mem_range.mp h1, of_decide_eq_true h2⟩
  rw [← lL, ← lO]
  refine nd_le _ O ?_ ?_
  · refine List.pairwise_map.mpr ?_
    have : (msL t q).Pairwise (fun i j => i < j) := by
      unfold msL
      exact List.Pairwise.sublist List.filter_sublist List.pairwise_lt_range
    refine List.Pairwise.imp_of_mem (R := fun i j => i < j) ?_ this
    intro i j hi hj hij z
    have hi := mem i hi
    have hj := mem j hj
    have := s6 i j hi.1 hj.1 (hi.2.trans hj.2.symm) z
    omega
  · intro y hy
    obtain ⟨k, hk, rfl⟩ := List.mem_map.mp hy
    obtain ⟨⟨r, p, b1, b2, b3, b4⟩, -⟩ := s5 k (mem k hk).1
    rcases b4 with c | c | ⟨q, c1, c2, c3, c4⟩
    · exact List.mem_append.mpr (Or.inr (by rw [c]; exact List.mem_singleton.mpr rfl))
    · exact List.mem_append.mpr (Or.inl (List.mem_append.mpr (Or.inl (List.mem_map.mpr ⟨_, c, rfl⟩))))
    · exact List.mem_append.mpr (Or.inl (List.mem_append.mpr (Or.inr (List.mem_map.mpr ⟨q, List.mem_range.mpr c1, c4.symm⟩))))
end Cnt
