/-! What is due for a prefix: the model. -/
theorem pig : ∀ (n : Nat) (f : Nat → Nat), (∀ i, i < n + 1 → f i < n) → (∀ i j, i < n + 1 → j < n + 1 → f i = f j → i = j) → False
  | 0, f, h, _ => absurd (h 0 (by omega)) (by omega)
  | n + 1, f, h, hi => by
    have ny : ∀ i, i < n + 1 → f i ≠ f (n + 1) := fun i h1 z => by
      have := hi i (n + 1) (by omega) (by omega) z
      omega
    have hy := h (n + 1) (by omega)
    refine pig n (fun i => if f (n + 1) < f i then f i - 1 else f i) (fun i h1 => ?_) fun i j h1 h2 z => hi i j (by omega) (by omega) ?_
    · have := h i (by omega)
      have := ny i h1
      show (if f (n + 1) < f i then f i - 1 else f i) < n
      split <;> omega
    · have := ny i h1
      have := ny j h2
      have z : (if f (n + 1) < f i then f i - 1 else f i) = if f (n + 1) < f j then f j - 1 else f j := z
      split at z <;> split at z <;> omega
theorem pig_s {n : Nat} {f : Nat → Nat} (h : ∀ i, i < n → f i < n) (hi : ∀ i j, i < n → j < n → f i = f j → i = j) {y : Nat} (hy : y < n) : ∃ i, i < n ∧ f i = y := by
  apply Classical.byContradiction
  intro z
  have ny : ∀ i, i < n → f i ≠ y := fun i h1 h2 => z ⟨i, h1, h2⟩
  obtain ⟨m, rfl⟩ : ∃ m, n = m + 1 := ⟨n - 1, by omega⟩
  refine pig m (fun i => if y < f i then f i - 1 else f i) (fun i h1 => ?_) fun i j h1 h2 z => hi i j h1 h2 ?_
  · have := h i h1
    have := ny i h1
    show (if y < f i then f i - 1 else f i) < m
    split <;> omega
  · have := ny i h1
    have := ny j h2
    have z : (if y < f i then f i - 1 else f i) = if y < f j then f j - 1 else f j := z
    split at z <;> split at z <;> omega
theorem px_eq {a h m : Int64} (hp : h &&& ~~~ m = 0) : (a ^^^ h) &&& m = 0 ↔ a &&& m = h := by
  rw [i64_0, Int64.toBitVec_and, Int64.toBitVec_xor]
  rw [i64_0, Int64.toBitVec_and, Int64.toBitVec_not] at hp
  rw [← Int64.toBitVec_inj, Int64.toBitVec_and]
  have hb : ∀ i, i < 64 → (h.toBitVec.getLsbD i && !m.toBitVec.getLsbD i) = false := fun i hi => by
    have := congrArg (fun y => y.getLsbD i) hp
    simp only [BitVec.getLsbD_and, BitVec.getLsbD_not, BitVec.getLsbD_zero, hi, decide_true, Bool.true_and] at this
    exact this
  constructor
  · intro z
    apply BitVec.eq_of_getLsbD_eq
    intro i hi
    have z1 := congrArg (fun y => y.getLsbD i) z
    have p1 := hb i hi
    simp only [BitVec.getLsbD_and, BitVec.getLsbD_xor, BitVec.getLsbD_zero] at z1 ⊢
    revert z1 p1
    cases a.toBitVec.getLsbD i <;> cases h.toBitVec.getLsbD i <;> cases m.toBitVec.getLsbD i <;> simp
  · intro z
    apply BitVec.eq_of_getLsbD_eq
    intro i hi
    have z1 := congrArg (fun y => y.getLsbD i) z
    have p1 := hb i hi
    simp only [BitVec.getLsbD_and, BitVec.getLsbD_xor, BitVec.getLsbD_zero] at z1 ⊢
    revert z1 p1
    cases a.toBitVec.getLsbD i <;> cases h.toBitVec.getLsbD i <;> cases m.toBitVec.getLsbD i <;> simp
/-- interface p is up, and the prefix its network -/
def upN (t : moS) (r p : Nat) (f : Int32) (h l : Int64) (n : Int32) : Prop := t.I 22 (t.I 71 (4 * r + p)).toNatClampNeg ≠ 0 ∧ t.I 75 (2 * (4 * r + p) + f.toNatClampNeg) ≠ 0 ∧ t.I 78 (2 * (4 * r + p) + f.toNatClampNeg) = n ∧ t.J 76 (2 * (4 * r + p) + f.toNatClampNeg) &&& mskH n = h ∧ t.J 77 (2 * (4 * r + p) + f.toNatClampNeg) &&& mskL n = l
abbrev kyS (t : moS) (k : Nat) : Nat := kyV (t.I 47 k) (t.J 48 k) (t.J 49 k) (t.I 50 k)
abbrev cSt (t : moS) (r : Nat) : Nat := (t.I 46 r).toNatClampNeg
def isDu (t : moS) (r : Nat) (f : Int32) (h l : Int64) (n dk dm di dt : Int32) : Prop := (∃ p, p < cI t r ∧ upN t r p f h l n ∧ (∀ p', p' < p → ¬ upN t r p' f h l n) ∧ dk = 0 ∧ dm = t.I 72 (4 * r + p) ∧ di = nI (4 * r + p) ∧ dt = 0) ∨ ((∀ p, p < cI t r → ¬ upN t r p f h l n) ∧ ∃ k, k < cSt t r ∧ kyS t (32 * r + k) = kyV f h l n ∧ (∀ k', k' < k → kyS t (32 * r + k') ≠ kyV f h l n) ∧ dk = 1 ∧ dm = t.I 51 (32 * r + k) ∧ di = -1 ∧ dt = t.I 52 (32 * r + k))
def noDu (t : moS) (r : Nat) (f : Int32) (h l : Int64) (n : Int32) : Prop := (∀ p, p < cI t r → ¬ upN t r p f h l n) ∧ ∀ k, k < cSt t r → kyS t (32 * r + k) ≠ kyV f h l n
section Du
variable {t t' : moS} {r : Nat} {f n dk dm di dt : Int32} {h l : Int64}
theorem MV.st (hM : MV t) (hr : r < cR t) : t.I 46 r = nI (cSt t r) ∧ cSt t r ≤ 32 := by
  have := (hM.r hr).2.2.2.1.n
  exact ⟨this.1, this.2.2⟩
theorem MV.sl (hM : MV t) (hr : r < cR t) {k : Nat} (hk : k < cSt t r) : lnOk (t.I 47 (32 * r + k)) (t.I 50 (32 * r + k)) ∧ rng (t.I 51 (32 * r + k)) 1 15 ∧ rng (t.I 52 (32 * r + k)) 0 65535 := (hM.r hr).2.2.2.2.1 k hk
theorem m_static (hM : MV t) (hr : r < cR t) (hf : lnOk f n) : ((∀ k, k < cSt t r → kyS t (32 * r + k) ≠ kyV f h l n) ∧ M_staticOf t (nI r) f h l n = some (-1)) ∨ ∃ k, k < cSt t r ∧ kyS t (32 * r + k) = kyV f h l n ∧ (∀ k', k' < k → kyS t (32 * r + k') ≠ kyV f h l n) ∧ M_staticOf t (nI r) f h l n = some (nI (32 * r + k)) := by
  have h6 := hM.nR
  obtain ⟨e46, hn⟩ := hM.st hr
  have e32 : (32 : Int32) * nI r = nI (32 * r) := by rw [show (32 : Int32) = nI 32 from rfl, pk_mul]
  unfold M_staticOf M_staticOf_b6
  rw [e32]
  have rI : ∀ k j, (k ∉ mG ∧ moN0 k = 192) → j < cSt t r → rdI t k (nI (32 * r + j)) = some (t.I k (32 * r + j)) := fun k j hk hj => rdI_n (n := 192) (by rw [hM.n.1 k hk.1]; exact hk.2) (by omega) (by decide)
  have rJ : ∀ k j, (k ∉ mG ∧ moN0 k = 192) → j < cSt t r → rdJ t k (nI (32 * r + j)) = some (t.J k (32 * r + j)) := fun k j hk hj => rdJ_n (n := 192) (by rw [hM.n.1 k hk.1]; exact hk.2) (by omega) (by decide)
  have loop : ∀ q j, j + q = cSt t r → (∀ i, i < j → kyS t (32 * r + i) ≠ kyV f h l n) → ((∀ j, j < cSt t r → kyS t (32 * r + j) ≠ kyV f h l n) ∧ lp (fun y => M_staticOf_s6 t (nI r) f h l n y) (nI (32 * r + j)) = some (-1)) ∨ ∃ i, i < cSt t r ∧ kyS t (32 * r + i) = kyV f h l n ∧ (∀ k', k' < i → kyS t (32 * r + k') ≠ kyV f h l n) ∧ lp (fun y => M_staticOf_s6 t (nI r) f h l n y) (nI (32 * r + j)) = some (nI (32 * r + i)) := by
    intro q
    induction q with
    | zero =>
      intro j hj hb
      refine Or.inl ⟨fun i hi => hb i (by omega), lp_x ?_⟩
      show M_staticOf_s6 t (nI r) f h l n (nI (32 * r + j)) = _
      unfold M_staticOf_s6
      rw [rdI_n (n := 6) (hM.n.n 46 6) (by omega) (by decide), e46]
      show (if nI (32 * r + j) < 32 * nI r + nI (cSt t r) then _ else _) = _
      rw [e32, nI_add, if_neg (nI_nlt (by omega) (by omega))]
    | succ q ih =>
      intro j hj hb
      have hj' : j < cSt t r := by omega
      have hi := kyV_i (h := t.J 48 (32 * r + j)) (l := t.J 49 (32 * r + j)) (h' := h) (l' := l) (hM.sl hr hj').1 hf
      by_cases c : kyS t (32 * r + j) = kyV f h l n
      · obtain ⟨e1, e2, e3, e4⟩ := hi.mp c
        refine Or.inr ⟨j, hj', c, hb, lp_x ?_⟩
        show M_staticOf_s6 t (nI r) f h l n (nI (32 * r + j)) = _
        unfold M_staticOf_s6
        rw [rdI_n (n := 6) (hM.n.n 46 6) (by omega) (by decide), e46]
        show (if nI (32 * r + j) < 32 * nI r + nI (cSt t r) then _ else _) = _
        rw [e32, nI_add, if_pos (nI_lt (by omega) (by omega)), rI 47 j (by decide +kernel) hj']
        show (if t.I 47 (32 * r + j) = f then _ else _) = _
        rw [if_pos e1, rJ 48 j (by decide +kernel) hj']
        show (if t.J 48 (32 * r + j) = h then _ else _) = _
        rw [if_pos e2, rJ 49 j (by decide +kernel) hj']
        show (if t.J 49 (32 * r + j) = l then _ else _) = _
        rw [if_pos e3, rI 50 j (by decide +kernel) hj']
        show (if t.I 50 (32 * r + j) = n then _ else _) = _
        rw [if_pos e4]
      · have st : M_staticOf_s6 t (nI r) f h l n (nI (32 * r + j)) = some (.inl (nI (32 * r + (j + 1)))) := by
          have b75 : M_staticOf_b73 t (nI r) f h l n (nI (32 * r + j)) = some (.inl (nI (32 * r + (j + 1)))) := by
            unfold M_staticOf_b73
            rw [nI_1]
            rfl
          unfold M_staticOf_s6
          rw [rdI_n (n := 6) (hM.n.n 46 6) (by omega) (by decide), e46]
          show (if nI (32 * r + j) < 32 * nI r + nI (cSt t r) then _ else _) = _
          rw [e32, nI_add, if_pos (nI_lt (by omega) (by omega)), rI 47 j (by decide +kernel) hj']
          show (if t.I 47 (32 * r + j) = f then _ else _) = _
          by_cases c1 : t.I 47 (32 * r + j) = f
          · rw [if_pos c1, rJ 48 j (by decide +kernel) hj']
            show (if t.J 48 (32 * r + j) = h then _ else _) = _
            by_cases c2 : t.J 48 (32 * r + j) = h
            · rw [if_pos c2, rJ 49 j (by decide +kernel) hj']
              show (if t.J 49 (32 * r + j) = l then _ else _) = _
              by_cases c3 : t.J 49 (32 * r + j) = l
              · rw [if_pos c3, rI 50 j (by decide +kernel) hj']
                show (if t.I 50 (32 * r + j) = n then _ else _) = _
                rw [if_neg (fun c4 => c (hi.mpr ⟨c1, c2, c3, c4⟩))]
                exact b75
              · rw [if_neg c3]; exact b75
            · rw [if_neg c2]; exact b75
          · rw [if_neg c1]; exact b75
        rw [lp_l (show (fun y => M_staticOf_s6 t (nI r) f h l n y) (nI (32 * r + j)) = _ from st)]
        exact ih (j + 1) (by omega) fun i hi => by
          rcases Nat.lt_or_ge i j with z | z
          · exact hb i z
          · have : i = j := by omega
            exact this ▸ c
  exact loop (cSt t r) 0 (by omega) (fun i hi => absurd hi (Nat.not_lt_zero _))
theorem m_net (hM : MV t) (hr : r < cR t) (hf : bit f) {p : Nat} (hp : p < cI t r) (hup : t.I 22 (t.I 71 (4 * r + p)).toNatClampNeg ≠ 0) : (upN t r p f h l n → M_isNetwork t (2 * nI (4 * r + p) + f) h l n = some 1) ∧ (¬ upN t r p f h l n → M_isNetwork t (2 * nI (4 * r + p) + f) h l n = some 0) := by
  have h6 := hM.nR
  have h4 := hM.nIf hr
  have ef : f = nI f.toNatClampNeg ∧ f.toNatClampNeg < 2 := by
    rcases hf with e | e <;> subst e <;> decide
  have ex : 2 * nI (4 * r + p) + f = nI (2 * (4 * r + p) + f.toNatClampNeg) := by
    rw [show (2 : Int32) = nI 2 from rfl, pk_mul, ef.1, nI_add, nI_clamp (by omega)]
  have rI : ∀ k, (k ∉ mG ∧ moN0 k = 48) → rdI t k (nI (2 * (4 * r + p) + f.toNatClampNeg)) = some (t.I k (2 * (4 * r + p) + f.toNatClampNeg)) := fun k hk => rdI_n (n := 48) (by rw [hM.n.1 k hk.1]; exact hk.2) (by omega) (by decide)
  have rJ : ∀ k, (k ∉ mG ∧ moN0 k = 48) → rdJ t k (nI (2 * (4 * r + p) + f.toNatClampNeg)) = some (t.J k (2 * (4 * r + p) + f.toNatClampNeg)) := fun k hk => rdJ_n (n := 48) (by rw [hM.n.1 k hk.1]; exact hk.2) (by omega) (by decide)
  unfold M_isNetwork M_isNetwork_b59 upN
  rw [ex, rI 75 (by decide +kernel)]
  generalize 2 * (4 * r + p) + f.toNatClampNeg = ix at rI rJ ⊢
  show (_ → (if t.I 75 ix = 0 then _ else _) = _) ∧ (_ → (if t.I 75 ix = 0 then _ else _) = _)
  rw [M_mH, M_mL]
  by_cases c1 : t.I 75 ix = 0
  · rw [if_pos c1]
    exact ⟨fun z => absurd c1 z.2.1, fun _ => rfl⟩
  rw [if_neg c1, rI 78 (by decide +kernel)]
  show (_ → (if t.I 78 ix = n then _ else _) = _) ∧ (_ → (if t.I 78 ix = n then _ else _) = _)
  by_cases c2 : t.I 78 ix = n
  · rw [if_pos c2, rJ 76 (by decide +kernel)]
    show (_ → (if t.J 76 ix &&& mskH n = h then _ else _) = _) ∧ (_ → (if t.J 76 ix &&& mskH n = h then _ else _) = _)
    by_cases c3 : t.J 76 ix &&& mskH n = h
    · rw [if_pos c3, rJ 77 (by decide +kernel)]
      show (_ → (if t.J 77 ix &&& mskL n = l then _ else _) = _) ∧ (_ → (if t.J 77 ix &&& mskL n = l then _ else _) = _)
      by_cases c4 : t.J 77 ix &&& mskL n = l
      · rw [if_pos c4]
        exact ⟨fun _ => rfl, fun z => absurd ⟨hup, c1, c2, c3, c4⟩ z⟩
      · rw [if_neg c4]
        exact ⟨fun z => absurd z.2.2.2.2 c4, fun _ => rfl⟩
    · rw [if_neg c3]
      exact ⟨fun z => absurd z.2.2.2.1 c3, fun _ => rfl⟩
  · rw [if_neg c2]
    exact ⟨fun z => absurd z.2.2.1 c2, fun _ => rfl⟩
theorem upN.m (m : mfr [153, 154, 155, 156] t t') {p : Nat} : upN t' r p f h l n ↔ upN t r p f h l n := by
  unfold upN
  rw [m.I 22 (by decide), m.I 71 (by decide), m.I 75 (by decide), m.I 78 (by decide), m.J 76 (by decide), m.J 77 (by decide)]
theorem m_isDue (hM : MV t) (hr : r < cR t) (hf : lnOk f n) : (∃ dk dm di dt td, isDu t r f h l n dk dm di dt ∧ M_isDue t (nI r) f h l n = some (1, td) ∧ mfr [153, 154, 155, 156] t td ∧ td.S 153 = dk ∧ td.S 154 = dm ∧ td.S 155 = di ∧ td.S 156 = dt) ∨ noDu t r f h l n ∧ ∃ td, M_isDue t (nI r) f h l n = some (0, td) ∧ mfr [153, 154, 155, 156] t td := by
  have h6 := hM.nR
  have h4 := hM.nIf hr
  have e4 : (4 : Int32) * nI r = nI (4 * r) := by rw [show (4 : Int32) = nI 4 from rfl, pk_mul]
  have e70 : t.I 70 r = nI (cI t r) := (hM.r hr).2.2.2.2.2.2.2.2.2.1.n.1
  have m0 : mfr [153, 154, 155, 156] t (moSS t 156 0) := mfr.ss (by decide)
  have hM0 : MV (moSS t 156 0) := hM.fr m0 rfl (hM.1.fr m0 rfl)
  have eq : M_isDue t (nI r) f h l n = M_isDue_b10 (moSS t 156 0) (nI r) f h l n (nI (4 * r)) := by
    unfold M_isDue
    rw [e4]
    rfl
  rw [eq]
  unfold M_isDue_b10
  have S0 : (moSS t 156 0).S 156 = 0 := moSS_s
  generalize moSS t 156 0 = t0 at m0 hM0 S0 ⊢
  have c70 : t0.I 70 r = nI (cI t r) := by rw [m0.I 70 (by decide)]; exact e70
  have cR0 : r < cR t0 := by unfold cR; rw [m0.S 37 (by decide)]; exact hr
  have cI0 : cI t0 r = cI t r := by unfold cI; rw [m0.I 70 (by decide)]
  have loop : ∀ q p, p + q = cI t r → (∀ p', p' < p → ¬ upN t r p' f h l n) → (∃ dk dm di dt td, isDu t r f h l n dk dm di dt ∧ lp (fun x : Int32 × moS => M_isDue_s10 x.2 (nI r) f h l n x.1) (nI (4 * r + p), t0) = some (1, td) ∧ mfr [153, 154, 155, 156] t td ∧ td.S 153 = dk ∧ td.S 154 = dm ∧ td.S 155 = di ∧ td.S 156 = dt) ∨ noDu t r f h l n ∧ ∃ td, lp (fun x : Int32 × moS => M_isDue_s10 x.2 (nI r) f h l n x.1) (nI (4 * r + p), t0) = some (0, td) ∧ mfr [153, 154, 155, 156] t td := by
    intro q
    induction q with
    | zero =>
      intro p hp hb
      have hb' : ∀ p, p < cI t r → ¬ upN t r p f h l n := fun p' h' => hb p' (by omega)
      have st : ∀ o : Option (Int32 × moS), (Option.bind (M_staticOf t0 (nI r) f h l n) (fun x2 => (if x2 = ((-1) : Int32) then ((some ((0 : Int32), t0))) else (letS (moSS t0 153 (1 : Int32)) (fun s3 => (Option.bind (rdI s3 51 x2) (fun x4 => (letS (moSS s3 154 x4) (fun s5 => (letS (moSS s5 155 ((-1) : Int32)) (fun s6 => (Option.bind (rdI s6 52 x2) (fun x7 => (letS (moSS s6 156 x7) (fun s8 => ((some ((1 : Int32), s8)))))))))))))))))) = o → M_isDue_s10 t0 (nI r) f h l n (nI (4 * r + p)) = xo o := by
        intro o ho
        unfold M_isDue_s10
        rw [rdI_n (n := 6) (hM0.n.n 70 6) (by omega) (by decide), c70]
        show (if nI (4 * r + p) < 4 * nI r + nI (cI t r) then _ else _) = _
        rw [e4, nI_add, if_neg (nI_nlt (by omega) (by omega)), ho]
      have sk : ∀ k, kyS t0 k = kyS t k := fun k => by
        unfold kyS
        rw [m0.I 47 (by decide), m0.J 48 (by decide), m0.J 49 (by decide), m0.I 50 (by decide)]
      have cs : cSt t0 r = cSt t r := by unfold cSt; rw [m0.I 46 (by decide)]
      rcases m_static (h := h) (l := l) hM0 cR0 hf with ⟨s1, s2⟩ | ⟨k, s1, s2, s3, s4⟩
      · refine Or.inr ⟨⟨hb', fun k hk => by rw [← sk]; exact s1 k (by rw [cs]; exact hk)⟩, t0, lp_x ?_, m0⟩
        exact st (some (0, t0)) (by rw [s2]; rfl)
      · rw [cs] at s1
        rw [sk] at s2
        have hk32 := (hM.st hr).2
        refine Or.inl ⟨1, t.I 51 (32 * r + k), -1, t.I 52 (32 * r + k), moSS (moSS (moSS (moSS t0 153 1) 154 (t.I 51 (32 * r + k))) 155 (-1)) 156 (t.I 52 (32 * r + k)), Or.inr ⟨hb', k, s1, s2, fun k' hk' => by rw [← sk]; exact s3 k' hk', rfl, rfl, rfl, rfl⟩, lp_x (st (some (1, _)) ?_), ?_, ?_, ?_, ?_, moSS_s⟩
        · rw [s4]
          simp only [Option.bind_some]
          rw [if_neg (show nI (32 * r + k) ≠ -1 from fun z => by
            have : ∀ q, q < 192 → nI q ≠ -1 := by decide +kernel
            exact this _ (by omega) z)]
          unfold letS
          dsimp only
          have N51 : t0.N 51 = 192 := hM0.n.n 51 192
          have N52 : t0.N 52 = 192 := hM0.n.n 52 192
          rw [rdI_n (n := 192) (show (moSS t0 153 1).N 51 = 192 from N51) (by omega) (by decide)]
          simp only [Option.bind_some]
          rw [rdI_n (n := 192) (show (moSS (moSS (moSS t0 153 1) 154 _) 155 (-1)).N 52 = 192 from N52) (by omega) (by decide)]
          simp only [Option.bind_some]
          show some (1, moSS (moSS (moSS (moSS t0 153 1) 154 (t0.I 51 (32 * r + k))) 155 (-1)) 156 (t0.I 52 (32 * r + k))) = _
          rw [m0.I 51 (by decide), m0.I 52 (by decide)]
        · exact (((m0.tr (mfr.ss (by decide))).tr (mfr.ss (by decide))).tr (mfr.ss (by decide))).tr (mfr.ss (by decide))
        · rw [moSS_n (by decide), moSS_n (by decide), moSS_n (by decide), moSS_s]
        · rw [moSS_n (by decide), moSS_n (by decide), moSS_s]
        · rw [moSS_n (by decide), moSS_s]
    | succ q ih =>
      intro p hp hb
      have hp' : p < cI t r := by omega
      have N71 : t0.N 71 = 24 := hM0.n.n 71 24
      have N72 : t0.N 72 = 24 := hM0.n.n 72 24
      have N22 : t0.N 22 = 10 := hM0.n.n 22 10
      obtain ⟨lk, e71, -, l9⟩ := ((hM0.r cR0).i (p := p) (by rw [cI0]; exact hp')).1
      have c0 : (t0.I 71 (4 * r + p)).toNatClampNeg = lk := by rw [e71, nI_clamp (by omega)]
      have go : ∀ o, (if t0.I 22 lk = 0 then M_isDue_b85 t0 (nI r) f h l n (nI (4 * r + p)) else (Option.bind (M_isNetwork t0 (((2 : Int32) * nI (4 * r + p)) + f) h l n) (fun x11 => (if x11 = 0 then ((M_isDue_b85 t0 (nI r) f h l n (nI (4 * r + p)))) else ((xo (letS (moSS t0 153 (0 : Int32)) (fun s12 => (Option.bind (rdI s12 72 (nI (4 * r + p))) (fun x13 => (letS (moSS s12 154 x13) (fun s14 => (letS (moSS s14 155 (nI (4 * r + p))) (fun s15 => ((some ((1 : Int32), s15))))))))))))))))) = o → M_isDue_s10 t0 (nI r) f h l n (nI (4 * r + p)) = o := by
        intro o ho
        unfold M_isDue_s10
        rw [rdI_n (n := 6) (hM0.n.n 70 6) (by omega) (by decide), c70]
        show (if nI (4 * r + p) < 4 * nI r + nI (cI t r) then _ else _) = _
        rw [e4, nI_add, if_pos (nI_lt (by omega) (by omega)), rdI_n (n := 24) N71 (by omega) (by decide), e71]
        simp only [Option.bind_some]
        rw [rdI_n (n := 10) N22 (by omega) (by decide)]
        simp only [Option.bind_some]
        exact ho
      have b85 : M_isDue_b85 t0 (nI r) f h l n (nI (4 * r + p)) = some (.inl (nI (4 * r + (p + 1)), t0)) := by
        unfold M_isDue_b85
        rw [nI_1]
        rfl
      have um : upN t0 r p f h l n ↔ upN t r p f h l n := upN.m m0
      have next : ¬ upN t r p f h l n → M_isDue_s10 t0 (nI r) f h l n (nI (4 * r + p)) = some (.inl (nI (4 * r + (p + 1)), t0)) := fun hu => by
        refine go _ ?_
        by_cases c1 : t0.I 22 lk = 0
        · rw [if_pos c1]; exact b85
        · rw [if_neg c1, (m_net hM0 cR0 hf.1 (by rw [cI0]; exact hp') (by rw [c0]; exact c1)).2 (fun z => hu (um.mp z))]
          simp only [Option.bind_some]
          rw [if_pos trivial]; exact b85
      by_cases c : upN t r p f h l n
      · have c1 : t0.I 22 lk ≠ 0 := by
          have := (um.mpr c).1
          rw [c0] at this
          exact this
        refine Or.inl ⟨0, t.I 72 (4 * r + p), nI (4 * r + p), 0, moSS (moSS (moSS t0 153 0) 154 (t.I 72 (4 * r + p))) 155 (nI (4 * r + p)), Or.inl ⟨p, hp', c, hb, rfl, rfl, rfl, rfl⟩, lp_x (go _ ?_), ?_, ?_, ?_, moSS_s, ?_⟩
        · rw [if_neg c1, (m_net hM0 cR0 hf.1 (by rw [cI0]; exact hp') (by rw [c0]; exact c1)).1 (um.mpr c)]
          simp only [Option.bind_some]
          rw [if_neg (by decide)]
          unfold letS
          dsimp only
          rw [rdI_n (n := 24) (show (moSS t0 153 0).N 72 = 24 from N72) (by omega) (by decide)]
          simp only [Option.bind_some]
          show xo (some (1, moSS (moSS (moSS t0 153 0) 154 (t0.I 72 (4 * r + p))) 155 (nI (4 * r + p)))) = _
          rw [m0.I 72 (by decide)]
        · exact ((m0.tr (mfr.ss (by decide))).tr (mfr.ss (by decide))).tr (mfr.ss (by decide))
        · rw [moSS_n (by decide), moSS_n (by decide), moSS_s]
        · rw [moSS_n (by decide), moSS_s]
        · rw [moSS_n (by decide), moSS_n (by decide), moSS_n (by decide)]; exact S0
      · rw [lp_l (show (fun x : Int32 × moS => M_isDue_s10 x.2 (nI r) f h l n x.1) (nI (4 * r + p), t0) = _ from next c)]
        exact ih (p + 1) (by omega) fun p' h' => by
          rcases Nat.lt_or_ge p' p with z | z
          · exact hb p' z
          · have : p' = p := by omega
            exact this ▸ c
  exact loop (cI t r) 0 (by omega) (fun i hi => absurd hi (Nat.not_lt_zero _))
theorem isDu.ok (hM : MV t) (hr : r < cR t) (hd : isDu t r f h l n dk dm di dt) : dueOk t r dk dm di dt := by
  rcases hd with ⟨p, h1, h2, h3, rfl, rfl, rfl, rfl⟩ | ⟨h1, k, h2, h3, h4, rfl, rfl, rfl, rfl⟩
  · exact ⟨Or.inl rfl, ((hM.r hr).i h1).2.2.1, ⟨0, rfl, by omega, by omega⟩, fun _ => ⟨4 * r + p, rfl, by omega, by omega⟩, fun z => absurd z (by decide)⟩
  · exact ⟨Or.inr rfl, (hM.sl hr h2).2.1, (hM.sl hr h2).2.2, fun z => absurd z (by decide), fun _ => rfl⟩
end Du
