/-! Names as numbers, and said. -/
theorem i64_sub {a b : Nat} (h : b ≤ a) : Int64.ofNat a - Int64.ofNat b = Int64.ofNat (a - b) := by
  have e : Int64.ofNat a = Int64.ofNat (a - b) + Int64.ofNat b := by rw [← Int64.ofNat_add, Nat.sub_add_cancel h]
  rw [e, Int64.add_sub_cancel]
theorem i64_toInt {n : Nat} (h : n < 2 ^ 63) : (Int64.ofNat n).toInt = n := Int64.toInt_ofNat_of_lt h
theorem c40 {u : Nat} (h : u < 2 ^ 64) : ush_L (Int64.ofNat u) 3 / 5 = Int64.ofNat (u / 40) := by
  have e1 : ush_L (Int64.ofNat u) 3 = Int64.ofNat (u / 8) := by
    apply Int64.toBitVec_inj.mp
    apply BitVec.eq_of_toNat_eq
    show ((Int64.ofNat u).toUInt64 >>> ((3 : Int32).toInt64.toUInt64 &&& Int64.toUInt64 63)).toNat = (BitVec.ofNat 64 (u / 8)).toNat
    rw [UInt64.toNat_shiftRight, show ((3 : Int32).toInt64.toUInt64 &&& Int64.toUInt64 63).toNat % 64 = 3 by decide, BitVec.toNat_ofNat]
    show (BitVec.ofNat 64 u).toNat >>> 3 = _
    rw [BitVec.toNat_ofNat, Nat.mod_eq_of_lt h, Nat.shiftRight_eq_div_pow, Nat.mod_eq_of_lt (Nat.lt_of_le_of_lt (Nat.div_le_self _ _) h)]
  rw [e1]
  apply Int64.toInt_inj.mp
  rw [Int64.toInt_div, i64_toInt (by omega), i64_toInt (by omega), show (5 : Int64).toInt = 5 by decide]
  have e2 : Int.tdiv ((u / 8 : Nat) : Int) 5 = ((u / 40 : Nat) : Int) := by
    rw [Int.tdiv_eq_ediv_of_nonneg (by omega)]
    omega
  rw [e2]
  exact Int.bmod_eq_of_le (by omega) (by omega)
theorem c40m {u : Nat} (h : u < 2 ^ 64) : (Int64.ofNat u - 40 * (ush_L (Int64.ofNat u) 3 / 5)).toInt32 = nI (u % 40) := by
  rw [c40 h, show (40 : Int64) = Int64.ofNat 40 from rfl, ← Int64.ofNat_mul, i64_sub (Nat.mul_div_le u 40), show u - 40 * (u / 40) = u % 40 by omega]
  have : ∀ j, j < 40 → (Int64.ofNat j).toInt32 = nI j := by decide +kernel
  exact this _ (Nat.mod_lt _ (by decide))
/-- letters, digits, the star: as numbers -/
def dgN (c : Int32) : Nat := if c = 42 then 37 else if c.toNatClampNeg < 97 then c.toNatClampNeg - 21 else c.toNatClampNeg - 96
def nmC (c : Int32) : Prop := ∃ j, c = nI j ∧ (97 ≤ j ∧ j ≤ 122 ∨ 48 ≤ j ∧ j ≤ 57 ∨ j = 42)
def chN (d : Nat) : Int32 := if 36 < nI d then 42 else if 26 < nI d then 48 + nI d - 27 else 97 + nI d - 1
theorem nmC_k : ∀ j, j < 123 → (97 ≤ j ∧ j ≤ 122 ∨ 48 ≤ j ∧ j ≤ 57 ∨ j = 42) → 1 ≤ dgN (nI j) ∧ dgN (nI j) ≤ 37 ∧ chN (dgN (nI j)) = nI j ∧ nI j &&& 255 = nI j ∧ nI j ≠ 10 := by decide +kernel
theorem nmC.k {c : Int32} (h : nmC c) : 1 ≤ dgN c ∧ dgN c ≤ 37 ∧ chN (dgN c) = c ∧ c &&& 255 = c ∧ c ≠ 10 := by
  obtain ⟨j, rfl, h⟩ := h
  exact nmC_k j (by omega) h
/-- the number of a name, its last letter first -/
def cdR : List Int32 → Nat
  | [] => 0
  | c :: r => 40 * cdR r + dgN c
def cdN (x : List Int32) : Nat := cdR x.reverse
def cdL (x : List Int32) : Int64 := Int64.ofNat (cdN x)
theorem cdR_lt : ∀ y : List Int32, (∀ c ∈ y, nmC c) → cdR y < 40 ^ y.length
  | [], _ => by decide
  | c :: r, h => by
    have h1 := cdR_lt r (fun c hc => h c (List.mem_cons_of_mem _ hc))
    have h2 := (h c List.mem_cons_self).k
    show 40 * cdR r + dgN c < 40 ^ (r.length + 1)
    rw [Nat.pow_succ]
    omega
theorem cdR_64 {y : List Int32} (h : ∀ c ∈ y, nmC c) (hl : y.length ≤ 12) : cdR y < 2 ^ 64 := by
  have h1 := cdR_lt y h
  have h2 : 40 ^ y.length ≤ 40 ^ 12 := Nat.pow_le_pow_right (by decide) hl
  have h3 : (40 : Nat) ^ 12 < 2 ^ 64 := by decide
  omega
section Dd
variable {W : List Nat} {t0 t : moS} {l : List Int32}
theorem dd_s8 {p : Nat} : ∀ y t l, (∀ c ∈ y, nmC c) → y.length ≤ 12 → l.length + y.length < 160000 → DD W t0 t l → ∃ t', DD W t0 t' (l ++ y) ∧ M_sayName_b8 t (nI p) (Int64.ofNat (cdR y)) = M_sayName_b90 t' (nI p) 0 := by
  intro y
  induction y with
  | nil =>
    intro t l _ _ _ h
    refine ⟨t, by rw [List.append_nil]; exact h, ?_⟩
    unfold M_sayName_b8
    refine lp_x ?_
    show M_sayName_s8 t (nI p) (Int64.ofNat 0) = _
    unfold M_sayName_s8
    rw [if_pos (show Int64.ofNat 0 = 0 from rfl)]
  | cons c r ih =>
    intro t l hc hl hn h
    have hu := cdR_64 hc hl
    have hk := (hc c List.mem_cons_self).k
    have em : cdR (c :: r) % 40 = dgN c := by show (40 * cdR r + dgN c) % 40 = _; omega
    have ed : cdR (c :: r) / 40 = cdR r := by show (40 * cdR r + dgN c) / 40 = _; omega
    have h0 : ¬ Int64.ofNat (cdR (c :: r)) = 0 := fun e => by
      have := congrArg (fun x => x.toBitVec.toNat) e
      have e2 : (BitVec.ofNat 64 (cdR (c :: r))).toNat = 0 := this
      rw [BitVec.toNat_ofNat, Nat.mod_eq_of_lt hu] at e2
      omega
    obtain ⟨t1, e1, h1⟩ := dd_say c h (by rw [List.length_cons] at hn; omega)
    obtain ⟨t2, h2, e2⟩ := ih t1 _ (fun c hc' => hc c (List.mem_cons_of_mem _ hc')) (by rw [List.length_cons] at hl; omega) (by rw [List.length_append, List.length_cons, List.length_nil]; rw [List.length_cons] at hn; omega) h1
    refine ⟨t2, by rw [List.append_assoc] at h2; exact h2, ?_⟩
    rw [← e2]
    unfold M_sayName_b8
    rw [lp_l (y := (Int64.ofNat (cdR r), t1))]
    show M_sayName_s8 t (nI p) (Int64.ofNat (cdR (c :: r))) = _
    unfold M_sayName_s8 M_sayName_b71
    rw [if_neg h0, c40m hu, c40 hu, em, ed]
    have hch := hk.2.2.1
    unfold chN at hch
    by_cases g1 : (36 : Int32) < nI (dgN c)
    · rw [if_pos g1] at hch ⊢
      rw [hch, e1]
      rfl
    · rw [if_neg g1] at hch ⊢
      by_cases g2 : (26 : Int32) < nI (dgN c)
      · rw [if_pos g2] at hch ⊢
        rw [hch, e1]
        rfl
      · rw [if_neg g2] at hch ⊢
        rw [hch, e1]
        rfl
/-- turned round in its place -/
theorem dd_s90 {y : List Int32} {p : Nat} (hW : 7 ∈ W ∧ 8 ∈ W) (hp : p = l.length) (hy : p + y.length < 160000) : ∀ n k t, k + n = y.length / 2 → (t.S 8 = nI (p + y.length) ∧ p + y.length ≤ t.N 7 ∧ 4096 ≤ t.N 7 ∧ t.N 7 ≤ 320000) → (∀ i, i < p → t.I 7 i = l.getD i 0) → (∀ i, i < y.length → t.I 7 (p + i) = if i < k ∨ y.length - k ≤ i then y.getD (y.length - 1 - i) 0 else y.getD i 0) → t.N 16 = 8 → mfr W t0 t → ∃ t', M_sayName_b90 t (nI p) (nI k) = some t' ∧ DD W t0 t' (l ++ y.reverse) := by
  intro n
  induction n with
  | zero =>
    intro k t hk h1 h2 h3 h4 h5
    refine ⟨t, ?_, hW, ⟨?_, ?_, h1.2.2.1, h1.2.2.2, fun i hi => ?_⟩, h4, h5⟩
    · unfold M_sayName_b90
      rw [lp_r (z := t)]
      show M_sayName_s90 t (nI p) (nI k) = _
      unfold M_sayName_s90
      rw [if_neg]
      · rfl
      · rw [h1.1, pk_sub (by omega), Nat.add_sub_cancel_left, show (2 : Int32) = nI 2 from rfl, pk_div (by omega) (by decide) (by decide)]
        exact nI_nlt (by omega) (by omega)
    · rw [List.length_append, List.length_reverse, ← hp]; exact h1.1
    · rw [List.length_append, List.length_reverse, ← hp]; exact h1.2.1
    · rw [List.length_append, List.length_reverse] at hi
      by_cases c : i < l.length
      · rw [gd_l c]; exact h2 i (by omega)
      · rw [gd_r (by omega)]
        have e := h3 (i - p) (by omega)
        rw [show p + (i - p) = i by omega] at e
        rw [e, ← hp]
        have hr : ∀ j, j < y.length → y.reverse.getD j 0 = y.getD (y.length - 1 - j) 0 := by
          intro j hj
          rw [List.getD_eq_getElem?_getD, List.getD_eq_getElem?_getD, List.getElem?_reverse hj]
        rw [hr _ (by omega)]
        by_cases c2 : i - p < k ∨ y.length - k ≤ i - p
        · rw [if_pos c2]
        · rw [if_neg c2]
          congr 1
          omega
  | succ n ih =>
    intro k t hk h1 h2 h3 h4 h5
    obtain ⟨g1, g2, g3, g4⟩ := h1
    have hN : t.N 7 < 2 ^ 31 := by omega
    have i1 : rdI t 7 (nI p + nI k) = some (t.I 7 (p + k)) := by rw [nI_add]; exact rdI_n rfl (by omega) hN
    have ej : nI (p + y.length) - 1 - nI k = nI (p + y.length - 1 - k) := by
      rw [show (1 : Int32) = nI 1 from rfl, pk_sub (by omega), pk_sub (by omega)]
    have i2 : rdI t 7 (t.S 8 - 1 - nI k) = some (t.I 7 (p + y.length - 1 - k)) := by rw [g1, ej]; exact rdI_n rfl (by omega) hN
    have i3 : wrI t 7 (nI p + nI k) (t.I 7 (p + y.length - 1 - k)) = some (moSI t 7 (p + k) (t.I 7 (p + y.length - 1 - k))) := by rw [nI_add]; exact wrI_n rfl (by omega) hN
    generalize ht1 : moSI t 7 (p + k) (t.I 7 (p + y.length - 1 - k)) = t1 at i3
    have hS1 : t1.S 8 = nI (p + y.length) := by rw [← ht1]; exact g1
    have hN1 : t1.N = t.N := by rw [← ht1]; rfl
    have i4 : wrI t1 7 (t1.S 8 - 1 - nI k) (t.I 7 (p + k)) = some (moSI t1 7 (p + y.length - 1 - k) (t.I 7 (p + k))) := by rw [hS1, ej]; exact wrI_n rfl (by rw [hN1]; omega) (by rw [hN1]; omega)
    have hI : ∀ i, (moSI t1 7 (p + y.length - 1 - k) (t.I 7 (p + k))).I 7 i = if i = p + y.length - 1 - k then t.I 7 (p + k) else if i = p + k then t.I 7 (p + y.length - 1 - k) else t.I 7 i := by
      intro i
      rw [moSI_s, ← ht1, moSI_s]
      rfl
    have hst : ∀ i, i < y.length → (moSI t1 7 (p + y.length - 1 - k) (t.I 7 (p + k))).I 7 (p + i) = if i < k + 1 ∨ y.length - (k + 1) ≤ i then y.getD (y.length - 1 - i) 0 else y.getD i 0 := by
      intro i hi
      rw [hI]
      have ea := h3 k (by omega)
      have eb := h3 (y.length - 1 - k) (by omega)
      rw [show p + (y.length - 1 - k) = p + y.length - 1 - k by omega] at eb
      rw [if_neg (by omega)] at ea eb
      by_cases c1 : i = y.length - 1 - k
      · rw [if_pos (by omega), ea, if_pos (by omega), c1]
        congr 1
        omega
      · rw [if_neg (by omega)]
        by_cases c2 : i = k
        · rw [if_pos (by omega), eb, if_pos (by omega), c2]
        · rw [if_neg (by omega), h3 i hi]
          by_cases c3 : i < k ∨ y.length - k ≤ i
          · rw [if_pos c3, if_pos (by omega)]
          · rw [if_neg c3, if_neg (by omega)]
    obtain ⟨t', e1, hd⟩ := ih (k + 1) (moSI t1 7 (p + y.length - 1 - k) (t.I 7 (p + k))) (by omega) ⟨hS1, by show _ ≤ t1.N 7; rw [hN1]; exact g2, by show _ ≤ t1.N 7; rw [hN1]; exact g3, by show t1.N 7 ≤ _; rw [hN1]; exact g4⟩ (fun i hi => by rw [hI, if_neg (by omega), if_neg (by omega)]; exact h2 i hi) hst (by show t1.N 16 = 8; rw [hN1]; exact h4) ((h5.tr (by rw [← ht1]; exact mfr.si hW.1)).tr (mfr.si hW.1))
    refine ⟨t', ?_, hd⟩
    unfold M_sayName_b90 at e1 ⊢
    rw [lp_l (y := (nI k + 1, moSI t1 7 (p + y.length - 1 - k) (t.I 7 (p + k)))), nI_1]
    · exact e1
    · show M_sayName_s90 t (nI p) (nI k) = _
      unfold M_sayName_s90
      rw [if_pos, i1]
      · show Option.bind (rdI t 7 (t.S 8 - 1 - nI k)) _ = _
        rw [i2]
        show Option.bind (wrI t 7 (nI p + nI k) (t.I 7 (p + y.length - 1 - k))) _ = _
        rw [i3]
        show Option.bind (wrI t1 7 (t1.S 8 - 1 - nI k) (t.I 7 (p + k))) _ = _
        rw [i4]
        rfl
      · rw [g1, pk_sub (by omega), Nat.add_sub_cancel_left, show (2 : Int32) = nI 2 from rfl, pk_div (by omega) (by decide) (by decide)]
        exact nI_lt (by omega) (by omega)
theorem dd_name {x : List Int32} (hx : ∀ c ∈ x, nmC c) (hl : x.length ≤ 12) (h : DD W t0 t l) (hn : l.length + x.length < 160000) : ∃ t', M_sayName t (cdL x) = some t' ∧ DD W t0 t' (l ++ x) := by
  unfold M_sayName
  have h8 := h.2.1.1
  obtain ⟨t1, h1, e1⟩ := dd_s8 (p := l.length) x.reverse t l (fun c hc => hx c (List.mem_reverse.mp hc)) (by rw [List.length_reverse]; exact hl) (by rw [List.length_reverse]; exact hn) h
  obtain ⟨hW, ⟨a1, a2, a3, a4, a5⟩, a6, a7⟩ := h1
  rw [List.length_append] at a1 a2
  obtain ⟨t2, e2, h2⟩ := dd_s90 (l := l) (y := x.reverse) (p := l.length) hW rfl (by rw [List.length_reverse]; exact hn) (x.reverse.length / 2) 0 t1 (by omega) ⟨a1, a2, a3, a4⟩ (fun i hi => by rw [a5 i (by rw [List.length_append]; omega), gd_l hi]) (fun i hi => by
    rw [if_neg (by omega), a5 _ (by rw [List.length_append]; omega), gd_r (by omega)]
    congr 1
    omega) a6 a7
  rw [List.reverse_reverse] at h2
  refine ⟨t2, ?_, h2⟩
  rw [h8]
  unfold cdL cdN
  rw [e1]
  exact e2
theorem dd_space (h : DD W t0 t l) (hn : l.length < 160000) : ∃ t', M_space t = some t' ∧ DD W t0 t' (l ++ [32]) := wb (dd_say 32 h hn) (fun t1 h1 => ⟨t1, rfl, h1⟩)
theorem dd_word {x : List Int32} (hx : ∀ c ∈ x, nmC c) (hl : x.length ≤ 12) (h : DD W t0 t l) (hn : l.length + x.length + 1 < 160000) : ∃ t', M_word t (cdL x) = some t' ∧ DD W t0 t' (l ++ 32 :: x) := by
  refine wb (dd_space h (by omega)) (fun t1 h1 => wb (dd_name hx hl h1 (by rw [List.length_append]; show l.length + 1 + _ < _; omega)) (fun t2 h2 => ⟨t2, rfl, ?_⟩))
  rw [List.append_assoc] at h2
  exact h2
theorem dd_wnum (v : Int32) (h : DD W t0 t l) (hn : l.length + 12 < 160000) : ∃ t', M_wordNumber t v = some t' ∧ DD W t0 t' (l ++ 32 :: decZ v) := by
  refine wb (dd_space h (by omega)) (fun t1 h1 => wb (dd_num v h1 (by rw [List.length_append]; show l.length + 1 + _ < _; omega)) (fun t2 h2 => ⟨t2, rfl, ?_⟩))
  rw [List.append_assoc] at h2
  exact h2
end Dd
