/-! Lists, filters, distributes and offsets: the model. -/
noncomputable def daV (t : moS) (r w : Nat) (lk : Int32) (f : Int32) (h l : Int64) (n : Int32) : Int32 := fsA (fun k => (t.I 60 (8 * r + k) = nI w ∧ (t.I 61 (8 * r + k) = -1 ∨ t.I 61 (8 * r + k) = lk)) ∧ laV t (t.I 62 (8 * r + k)).toNatClampNeg f h l n = 0) (fun _ => 0) 1 (t.I 59 r).toNatClampNeg 0
noncomputable def ofV (t : moS) (r w : Nat) (lk : Int32) (f : Int32) (h l : Int64) (n : Int32) : Int32 := fsA (fun k => (t.I 64 (8 * r + k) = nI w ∧ (t.I 65 (8 * r + k) = -1 ∨ t.I 65 (8 * r + k) = lk)) ∧ ¬ laV t (t.I 66 (8 * r + k)).toNatClampNeg f h l n = 0) (fun k => t.I 67 (8 * r + k)) 0 (t.I 63 r).toNatClampNeg 0
theorem okZ_b {α : Type} {v : Int32} {o : Option α} (h : bit v) : okZ v o = o := if_pos h
section Ml
variable {t : moS} {r w i k : Nat} {f n lk : Int32} {h l : Int64}
theorem bt_of (hf : lnOk f n) : n ≤ M_bitsOf f ∧ n ≤ 128 := by
  obtain ⟨b, m, rfl, -, hm⟩ := hf
  have h128 : nI m ≤ 128 := nI_le (b := 128) (by split at hm <;> omega) (by decide)
  rcases b with rfl | rfl
  · exact ⟨nI_le (b := 32) (by rw [if_pos rfl] at hm; exact hm) (by decide), h128⟩
  · exact ⟨h128, h128⟩
theorem m_fits (hM : MV t) (hk : k < 128) (hf : lnOk f n) : M_fits t (nI k) f h l n = some (@ite _ (lOk f h l n (t.I 31 k) (t.J 32 k) (t.J 33 k) (t.I 34 k) (t.I 35 k) (t.I 36 k)) (Classical.propDecidable _) 1 0) := by
  have rI : ∀ g, (g ∉ mG ∧ moN0 g = 128) → rdI t g (nI k) = some (t.I g k) := fun g hg => rdI_n (n := 128) (by rw [hM.n.1 g hg.1]; exact hg.2) hk (by decide)
  have rJ : ∀ g, (g ∉ mG ∧ moN0 g = 128) → rdJ t g (nI k) = some (t.J g k) := fun g hg => rdJ_n (n := 128) (by rw [hM.n.1 g hg.1]; exact hg.2) hk (by decide)
  obtain ⟨hb1, hb2⟩ := bt_of hf
  have b128 : ∀ u v : Int32, M_fits_b128 t n u v = some (if u ≤ n ∧ n ≤ v then 1 else 0) := by
    intro u v
    unfold M_fits_b128 M_fits_b148
    by_cases c1 : n < u
    · rw [if_pos c1, if_neg (fun z => Int32.not_lt.mpr z.1 c1)]
    · rw [if_neg c1]
      by_cases c2 : v < n
      · rw [if_pos c2, if_neg (fun z => Int32.not_lt.mpr z.2 c2)]
      · rw [if_neg c2, if_pos ⟨Int32.not_lt.mp c1, Int32.not_lt.mp c2⟩]
  have b103 : ∀ u : Int32, u = lfr (t.I 34 k) (t.I 35 k) → ¬ (t.I 35 k = -1 ∧ t.I 36 k = -1) → M_fits_b103 t (nI k) f n u = some (if lfr (t.I 34 k) (t.I 35 k) ≤ n ∧ n ≤ lto (t.I 34 k) (t.I 35 k) (t.I 36 k) then 1 else 0) := by
    intro u eu hne
    unfold M_fits_b103 lto
    rw [rI 36 (by decide +kernel)]
    show (if t.I 36 k = -1 then _ else _) = _
    by_cases c : t.I 36 k = -1
    · rw [if_pos c, if_pos c, if_neg (fun z => hne ⟨z, c⟩), b128, eu]
      by_cases c2 : lfr (t.I 34 k) (t.I 35 k) ≤ n
      · rw [if_pos ⟨c2, hb1⟩, if_pos ⟨c2, hb2⟩]
      · rw [if_neg (fun z => c2 z.1), if_neg (fun z => c2 z.1)]
    · rw [if_neg c, if_neg c]
      show M_fits_b128 t n u (t.I 36 k) = _
      rw [b128, eu]
  have b78 : ¬ (t.I 35 k = -1 ∧ t.I 36 k = -1) → M_fits_b78 t (nI k) f n = some (if lfr (t.I 34 k) (t.I 35 k) ≤ n ∧ n ≤ lto (t.I 34 k) (t.I 35 k) (t.I 36 k) then 1 else 0) := by
    intro hne
    unfold M_fits_b78
    rw [rI 35 (by decide +kernel)]
    show (if t.I 35 k = -1 then _ else _) = _
    by_cases c : t.I 35 k = -1
    · rw [if_pos c, rI 34 (by decide +kernel)]
      show M_fits_b103 t (nI k) f n (t.I 34 k) = _
      exact b103 _ (by unfold lfr; rw [if_pos c]) hne
    · rw [if_neg c]
      show M_fits_b103 t (nI k) f n (t.I 35 k) = _
      exact b103 _ (by unfold lfr; rw [if_neg c]) hne
  unfold M_fits lOk
  rw [rI 31 (by decide +kernel)]
  show (if t.I 31 k = f then _ else _) = _
  by_cases c1' : ¬ t.I 31 k = f
  · rw [if_neg c1', if_neg (fun z => c1' z.1)]
  have c1 := Classical.not_not.mp c1'
  rw [if_pos c1, rJ 32 (by decide +kernel), rJ 33 (by decide +kernel), rI 34 (by decide +kernel)]
  show (if M_coversPrefix (t.J 32 k) (t.J 33 k) (t.I 34 k) h l n = 0 then _ else _) = _
  by_cases c2 : M_coversPrefix (t.J 32 k) (t.J 33 k) (t.I 34 k) h l n = 0
  · rw [if_pos c2, if_neg (fun z => (M_covP _ _ _ _ _ _).mp c2 z.2.1)]
  have c2' : t.I 34 k ≤ n ∧ mcov (t.J 32 k) (t.J 33 k) (t.I 34 k) h l := Classical.byContradiction fun z => c2 ((M_covP _ _ _ _ _ _).mpr z)
  rw [if_neg c2, rI 35 (by decide +kernel)]
  show (if t.I 35 k = -1 then _ else _) = _
  have fin : M_fits_b78 t (nI k) f n = some (if lfr (t.I 34 k) (t.I 35 k) ≤ n ∧ n ≤ lto (t.I 34 k) (t.I 35 k) (t.I 36 k) then 1 else 0) → M_fits_b78 t (nI k) f n = some (@ite _ (t.I 31 k = f ∧ (t.I 34 k ≤ n ∧ mcov (t.J 32 k) (t.J 33 k) (t.I 34 k) h l) ∧ lfr (t.I 34 k) (t.I 35 k) ≤ n ∧ n ≤ lto (t.I 34 k) (t.I 35 k) (t.I 36 k)) (Classical.propDecidable _) 1 0) := by
    intro e
    rw [e]
    by_cases c5 : lfr (t.I 34 k) (t.I 35 k) ≤ n ∧ n ≤ lto (t.I 34 k) (t.I 35 k) (t.I 36 k)
    · rw [if_pos c5, if_pos ⟨c1, c2', c5⟩]
    · rw [if_neg c5, if_neg (fun z => c5 z.2.2)]
  by_cases c3 : t.I 35 k = -1
  · rw [if_pos c3, rI 36 (by decide +kernel)]
    show (if t.I 36 k = -1 then _ else _) = _
    by_cases c4 : t.I 36 k = -1
    · rw [if_pos c4]
      show (if n = t.I 34 k then _ else _) = _
      have e1 : lfr (t.I 34 k) (t.I 35 k) = t.I 34 k := by unfold lfr; rw [if_pos c3]
      have e2 : lto (t.I 34 k) (t.I 35 k) (t.I 36 k) = t.I 34 k := by unfold lto; rw [if_pos c4, if_pos c3]
      rw [e1, e2]
      by_cases c5 : n = t.I 34 k
      · rw [if_pos c5, if_pos ⟨c1, c2', c2'.1, c5 ▸ Int32.le_refl _⟩]
      · rw [if_neg c5, if_neg (fun z => c5 (Int32.le_antisymm z.2.2.2 z.2.2.1))]
    · rw [if_neg c4]
      exact fin (b78 fun z => c4 z.2)
  · rw [if_neg c3]
    exact fin (b78 fun z => c3 z.1)
theorem m_listA (hM : MV t) (hi : i < cS' t) (hf : lnOk f n) : M_listAllows t (nI i) f h l n = some (laV t i f h l n) := by
  have h8 : cS' t ≤ 8 := hM.1.2.2.2.2.2.2.1.n.2.2
  have hs := hM.2.2.1 i hi
  obtain ⟨N, eN, -, hN⟩ := hs.1
  have cN' : (t.I 29 i).toNatClampNeg = N := by rw [eN, nI_clamp (by omega)]
  have e16 : (16 : Int32) * nI i = nI (16 * i) := by rw [show (16 : Int32) = nI 16 from rfl, pk_mul]
  unfold M_listAllows M_listAllows_b6 laV
  rw [e16, cN']
  have loop : ∀ m j, j + m = N → lp (fun y => M_listAllows_s6 t (nI i) f h l n y) (nI (16 * i + j)) = some (fsA (fun k => lOk f h l n (t.I 31 (16 * i + k)) (t.J 32 (16 * i + k)) (t.J 33 (16 * i + k)) (t.I 34 (16 * i + k)) (t.I 35 (16 * i + k)) (t.I 36 (16 * i + k))) (fun k => t.I 30 (16 * i + k)) 0 m j) := by
    intro m
    induction m with
    | zero =>
      intro j hj
      refine lp_x ?_
      unfold M_listAllows_s6
      rw [rdI_n (n := 8) (hM.n.n 29 8) (by omega) (by decide)]
      show (if nI (16 * i + j) < 16 * nI i + t.I 29 i then _ else _) = _
      rw [eN, e16, nI_add, if_neg (nI_nlt (by omega) (by omega))]
      rfl
    | succ m ih =>
      intro j hj
      have hb := (hs.2.2 j (by omega)).1
      have e1 : M_listAllows_s6 t (nI i) f h l n (nI (16 * i + j)) = @ite _ (lOk f h l n (t.I 31 (16 * i + j)) (t.J 32 (16 * i + j)) (t.J 33 (16 * i + j)) (t.I 34 (16 * i + j)) (t.I 35 (16 * i + j)) (t.I 36 (16 * i + j))) (Classical.propDecidable _) (xo (some (t.I 30 (16 * i + j)))) (some (.inl (nI (16 * i + (j + 1))))) := by
        unfold M_listAllows_s6
        rw [rdI_n (n := 8) (hM.n.n 29 8) (by omega) (by decide)]
        show (if nI (16 * i + j) < 16 * nI i + t.I 29 i then _ else _) = _
        rw [eN, e16, nI_add, if_pos (nI_lt (by omega) (by omega)), m_fits hM (by omega) hf]
        by_cases c : lOk f h l n (t.I 31 (16 * i + j)) (t.J 32 (16 * i + j)) (t.J 33 (16 * i + j)) (t.I 34 (16 * i + j)) (t.I 35 (16 * i + j)) (t.I 36 (16 * i + j))
        · rw [if_pos c, if_pos c]
          show (if (1 : Int32) = 0 then some (Sum.inl (nI (16 * i + j) + 1)) else xo (Option.bind (rdI t 30 (nI (16 * i + j))) fun x3 => okZ x3 (some x3))) = _
          rw [if_neg (by decide), rdI_n (n := 128) (hM.n.n 30 128) (by omega) (by decide)]
          show xo (okZ (t.I 30 (16 * i + j)) (some (t.I 30 (16 * i + j)))) = _
          rw [okZ_b hb]
        · rw [if_neg c, if_neg c]
          show (if (0 : Int32) = 0 then some (Sum.inl (nI (16 * i + j) + 1)) else xo (Option.bind (rdI t 30 (nI (16 * i + j))) fun x3 => okZ x3 (some x3))) = _
          rw [if_pos rfl, nI_1]
          rfl
      unfold fsA
      by_cases c : lOk f h l n (t.I 31 (16 * i + j)) (t.J 32 (16 * i + j)) (t.J 33 (16 * i + j)) (t.I 34 (16 * i + j)) (t.I 35 (16 * i + j)) (t.I 36 (16 * i + j))
      · rw [if_pos c] at e1 ⊢
        exact lp_x e1
      · rw [if_neg c] at e1 ⊢
        rw [lp_l e1]
        exact ih (j + 1) (by omega)
  exact loop N 0 (by omega)
theorem m_filtA (hM : MV t) (hr : r < cR t) (hw : w < 2) (hf : lnOk f n) : M_filterAllows t (nI r) (nI w) f h l n = some (faV t r w f h l n) := by
  have h6 := hM.nR
  have hs := (hM.r hr).2.2.2.2.2.1 w hw
  obtain ⟨N, eN, -, hN⟩ := hs.1
  have cN' : (t.I 53 (2 * r + w)).toNatClampNeg = N := by rw [eN, nI_clamp (by omega)]
  have e64 : (64 : Int32) * nI r + (32 : Int32) * nI w = nI (64 * r + 32 * w) := by rw [show (64 : Int32) = nI 64 from rfl, show (32 : Int32) = nI 32 from rfl, pk_mul, pk_mul, nI_add]
  have e2 : (2 : Int32) * nI r + nI w = nI (2 * r + w) := by rw [show (2 : Int32) = nI 2 from rfl, pk_mul, nI_add]
  unfold M_filterAllows M_filterAllows_b11 faV
  rw [e64, cN']
  have loop : ∀ m j, j + m = N → lp (fun y => M_filterAllows_s11 t (nI r) (nI w) f h l n y) (nI (64 * r + 32 * w + j)) = some (fsA (fun k => lOk f h l n (t.I 54 (64 * r + 32 * w + k)) (t.J 55 (64 * r + 32 * w + k)) (t.J 56 (64 * r + 32 * w + k)) (t.I 57 (64 * r + 32 * w + k)) (t.I 57 (64 * r + 32 * w + k)) (-1)) (fun k => t.I 58 (64 * r + 32 * w + k)) 1 m j) := by
    intro m
    induction m with
    | zero =>
      intro j hj
      refine lp_x ?_
      unfold M_filterAllows_s11
      rw [e2, rdI_n (n := 12) (hM.n.n 53 12) (by omega) (by decide)]
      show (if nI (64 * r + 32 * w + j) < 64 * nI r + 32 * nI w + t.I 53 (2 * r + w) then _ else _) = _
      rw [eN, e64, nI_add, if_neg (nI_nlt (by omega) (by omega))]
      rfl
    | succ m ih =>
      intro j hj
      have hb := hs.2 j (by omega)
      have hk : 64 * r + 32 * w + j < 384 := by omega
      have rI : ∀ g, (g ∉ mG ∧ moN0 g = 384) → rdI t g (nI (64 * r + 32 * w + j)) = some (t.I g (64 * r + 32 * w + j)) := fun g hg => rdI_n (n := 384) (by rw [hM.n.1 g hg.1]; exact hg.2) hk (by decide)
      have rJ : ∀ g, (g ∉ mG ∧ moN0 g = 384) → rdJ t g (nI (64 * r + 32 * w + j)) = some (t.J g (64 * r + 32 * w + j)) := fun g hg => rdJ_n (n := 384) (by rw [hM.n.1 g hg.1]; exact hg.2) hk (by decide)
      have iff := lfr_fi (X := t.J 55 (64 * r + 32 * w + j)) (Y := t.J 56 (64 * r + 32 * w + j)) (h' := h) (l' := l) hf hb.1
      have e1 : M_filterAllows_s11 t (nI r) (nI w) f h l n (nI (64 * r + 32 * w + j)) = @ite _ (lOk f h l n (t.I 54 (64 * r + 32 * w + j)) (t.J 55 (64 * r + 32 * w + j)) (t.J 56 (64 * r + 32 * w + j)) (t.I 57 (64 * r + 32 * w + j)) (t.I 57 (64 * r + 32 * w + j)) (-1)) (Classical.propDecidable _) (xo (some (t.I 58 (64 * r + 32 * w + j)))) (some (.inl (nI (64 * r + 32 * w + (j + 1))))) := by
        unfold M_filterAllows_s11 M_filterAllows_b88
        rw [e2, rdI_n (n := 12) (hM.n.n 53 12) (by omega) (by decide)]
        show (if nI (64 * r + 32 * w + j) < 64 * nI r + 32 * nI w + t.I 53 (2 * r + w) then _ else _) = _
        rw [eN, e64, nI_add, if_pos (nI_lt (by omega) (by omega)), rI 54 (by decide +kernel), nI_1]
        show (if t.I 54 (64 * r + 32 * w + j) = f then _ else _) = _
        by_cases c1 : t.I 54 (64 * r + 32 * w + j) = f
        · rw [if_pos c1, rJ 55 (by decide +kernel), rJ 56 (by decide +kernel), rI 57 (by decide +kernel)]
          show (if M_coversPrefix (t.J 55 (64 * r + 32 * w + j)) (t.J 56 (64 * r + 32 * w + j)) (t.I 57 (64 * r + 32 * w + j)) h l n = 0 then _ else _) = _
          by_cases c2 : M_coversPrefix (t.J 55 (64 * r + 32 * w + j)) (t.J 56 (64 * r + 32 * w + j)) (t.I 57 (64 * r + 32 * w + j)) h l n = 0
          · rw [if_pos c2, if_neg (fun z => (M_covP _ _ _ _ _ _).mp c2 (iff.mp z).2)]
            rfl
          · rw [if_neg c2, if_pos (iff.mpr ⟨c1, Classical.byContradiction fun z => c2 ((M_covP _ _ _ _ _ _).mpr z)⟩), rI 58 (by decide +kernel)]
            show xo (okZ (t.I 58 (64 * r + 32 * w + j)) (some (t.I 58 (64 * r + 32 * w + j)))) = _
            rw [okZ_b hb.2]
        · rw [if_neg c1, if_neg (fun z => c1 z.1)]
          rfl
      unfold fsA
      by_cases c : lOk f h l n (t.I 54 (64 * r + 32 * w + j)) (t.J 55 (64 * r + 32 * w + j)) (t.J 56 (64 * r + 32 * w + j)) (t.I 57 (64 * r + 32 * w + j)) (t.I 57 (64 * r + 32 * w + j)) (-1)
      · rw [if_pos c] at e1 ⊢
        exact lp_x e1
      · rw [if_neg c] at e1 ⊢
        rw [lp_l e1]
        exact ih (j + 1) (by omega)
  exact loop N 0 (by omega)
/-- the policies' loops, both sorts -/
theorem m_distA (hM : MV t) (hr : r < cR t) (hf : lnOk f n) : M_distributeAllows t (nI r) (nI w) lk f h l n = some (daV t r w lk f h l n) := by
  have h6 := hM.nR
  have hs := (hM.r hr).2.2.2.2.2.2.1
  obtain ⟨N, eN, -, hN⟩ := hs.1
  have cN' : (t.I 59 r).toNatClampNeg = N := by rw [eN, nI_clamp (by omega)]
  have e8 : (8 : Int32) * nI r = nI (8 * r) := by rw [show (8 : Int32) = nI 8 from rfl, pk_mul]
  unfold M_distributeAllows M_distributeAllows_b6 daV
  rw [e8, cN']
  have loop : ∀ m j, j + m = N → lp (fun y => M_distributeAllows_s6 t (nI r) (nI w) lk f h l n y) (nI (8 * r + j)) = some (fsA (fun k => (t.I 60 (8 * r + k) = nI w ∧ (t.I 61 (8 * r + k) = -1 ∨ t.I 61 (8 * r + k) = lk)) ∧ laV t (t.I 62 (8 * r + k)).toNatClampNeg f h l n = 0) (fun _ => 0) 1 m j) := by
    intro m
    induction m with
    | zero =>
      intro j hj
      refine lp_x ?_
      unfold M_distributeAllows_s6
      rw [rdI_n (n := 6) (hM.n.n 59 6) (by omega) (by decide)]
      show (if nI (8 * r + j) < 8 * nI r + t.I 59 r then _ else _) = _
      rw [eN, e8, nI_add, if_neg (nI_nlt (by omega) (by omega))]
      rfl
    | succ m ih =>
      intro j hj
      obtain ⟨-, -, ls, els, hls⟩ := hs.2 j (by omega)
      have h8 : cS' t ≤ 8 := hM.1.2.2.2.2.2.2.1.n.2.2
      have hk : 8 * r + j < 48 := by omega
      have rI : ∀ g, (g ∉ mG ∧ moN0 g = 48) → rdI t g (nI (8 * r + j)) = some (t.I g (8 * r + j)) := fun g hg => rdI_n (n := 48) (by rw [hM.n.1 g hg.1]; exact hg.2) hk (by decide)
      have cl : (t.I 62 (8 * r + j)).toNatClampNeg = ls := by rw [els, nI_clamp (by omega)]
      have b55 : M_distributeAllows_b60 t (nI r) (nI w) lk f h l n (nI (8 * r + j)) 1 = if laV t ls f h l n = 0 then xo (some 0) else some (.inl (nI (8 * r + (j + 1)))) := by
        unfold M_distributeAllows_b60 M_distributeAllows_b91
        rw [if_neg (by decide), rI 62 (by decide +kernel), els]
        show Option.bind (M_listAllows t (nI ls) f h l n) _ = _
        rw [m_listA hM hls hf, nI_1]
        rfl
      have b59 : M_distributeAllows_b60 t (nI r) (nI w) lk f h l n (nI (8 * r + j)) 0 = some (.inl (nI (8 * r + (j + 1)))) := by
        unfold M_distributeAllows_b60 M_distributeAllows_b91
        rw [if_pos rfl, nI_1]
        rfl
      have e1 : M_distributeAllows_s6 t (nI r) (nI w) lk f h l n (nI (8 * r + j)) = @ite _ ((t.I 60 (8 * r + j) = nI w ∧ (t.I 61 (8 * r + j) = -1 ∨ t.I 61 (8 * r + j) = lk)) ∧ laV t (t.I 62 (8 * r + j)).toNatClampNeg f h l n = 0) (Classical.propDecidable _) (xo (some 0)) (some (.inl (nI (8 * r + (j + 1))))) := by
        unfold M_distributeAllows_s6 M_distributeAllows_b55 M_distributeAllows_b59
        rw [rdI_n (n := 6) (hM.n.n 59 6) (by omega) (by decide), b55, b59, cl]
        show (if nI (8 * r + j) < 8 * nI r + t.I 59 r then _ else _) = _
        rw [eN, e8, nI_add, if_pos (nI_lt (by omega) (by omega)), rI 60 (by decide +kernel)]
        show (if t.I 60 (8 * r + j) = nI w then _ else _) = _
        by_cases c1 : t.I 60 (8 * r + j) = nI w
        · rw [if_pos c1, rI 61 (by decide +kernel)]
          show (if t.I 61 (8 * r + j) = -1 then _ else (if t.I 61 (8 * r + j) = lk then _ else _)) = _
          by_cases c4 : laV t ls f h l n = 0
          · rw [if_pos c4]
            by_cases c2 : t.I 61 (8 * r + j) = -1
            · rw [if_pos c2, if_pos ⟨⟨c1, Or.inl c2⟩, c4⟩]
            · rw [if_neg c2]
              by_cases c3 : t.I 61 (8 * r + j) = lk
              · rw [if_pos c3, if_pos ⟨⟨c1, Or.inr c3⟩, c4⟩]
              · rw [if_neg c3, if_neg (fun z => z.1.2.elim c2 c3)]
          · have no : ¬ ((t.I 60 (8 * r + j) = nI w ∧ (t.I 61 (8 * r + j) = -1 ∨ t.I 61 (8 * r + j) = lk)) ∧ laV t ls f h l n = 0) := fun z => c4 z.2
            rw [if_neg c4]
            by_cases c2 : t.I 61 (8 * r + j) = -1
            · rw [if_pos c2, if_neg no]
            · rw [if_neg c2]
              by_cases c3 : t.I 61 (8 * r + j) = lk
              · rw [if_pos c3, if_neg no]
              · rw [if_neg c3, if_neg no]
        · rw [if_neg c1, if_neg (fun z => c1 z.1.1)]
      unfold fsA
      by_cases c : (t.I 60 (8 * r + j) = nI w ∧ (t.I 61 (8 * r + j) = -1 ∨ t.I 61 (8 * r + j) = lk)) ∧ laV t (t.I 62 (8 * r + j)).toNatClampNeg f h l n = 0
      · rw [if_pos c] at e1 ⊢
        exact lp_x e1
      · rw [if_neg c] at e1 ⊢
        rw [lp_l e1]
        exact ih (j + 1) (by omega)
  exact loop N 0 (by omega)
theorem m_offA (hM : MV t) (hr : r < cR t) (hf : lnOk f n) : M_offsetFor t (nI r) (nI w) lk f h l n = some (ofV t r w lk f h l n) := by
  have h6 := hM.nR
  have hs := (hM.r hr).2.2.2.2.2.2.2.1
  obtain ⟨N, eN, -, hN⟩ := hs.1
  have cN' : (t.I 63 r).toNatClampNeg = N := by rw [eN, nI_clamp (by omega)]
  have e8 : (8 : Int32) * nI r = nI (8 * r) := by rw [show (8 : Int32) = nI 8 from rfl, pk_mul]
  unfold M_offsetFor M_offsetFor_b6 ofV
  rw [e8, cN']
  have loop : ∀ m j, j + m = N → lp (fun y => M_offsetFor_s6 t (nI r) (nI w) lk f h l n y) (nI (8 * r + j)) = some (fsA (fun k => (t.I 64 (8 * r + k) = nI w ∧ (t.I 65 (8 * r + k) = -1 ∨ t.I 65 (8 * r + k) = lk)) ∧ ¬ laV t (t.I 66 (8 * r + k)).toNatClampNeg f h l n = 0) (fun k => t.I 67 (8 * r + k)) 0 m j) := by
    intro m
    induction m with
    | zero =>
      intro j hj
      refine lp_x ?_
      unfold M_offsetFor_s6
      rw [rdI_n (n := 6) (hM.n.n 63 6) (by omega) (by decide)]
      show (if nI (8 * r + j) < 8 * nI r + t.I 63 r then _ else _) = _
      rw [eN, e8, nI_add, if_neg (nI_nlt (by omega) (by omega))]
      rfl
    | succ m ih =>
      intro j hj
      obtain ⟨-, -, ⟨ls, els, hls⟩, -⟩ := hs.2 j (by omega)
      have h8 : cS' t ≤ 8 := hM.1.2.2.2.2.2.2.1.n.2.2
      have hk : 8 * r + j < 48 := by omega
      have rI : ∀ g, (g ∉ mG ∧ moN0 g = 48) → rdI t g (nI (8 * r + j)) = some (t.I g (8 * r + j)) := fun g hg => rdI_n (n := 48) (by rw [hM.n.1 g hg.1]; exact hg.2) hk (by decide)
      have cl : (t.I 66 (8 * r + j)).toNatClampNeg = ls := by rw [els, nI_clamp (by omega)]
      have b55 : M_offsetFor_b60 t (nI r) (nI w) lk f h l n (nI (8 * r + j)) 1 = if laV t ls f h l n = 0 then some (.inl (nI (8 * r + (j + 1)))) else xo (some (t.I 67 (8 * r + j))) := by
        unfold M_offsetFor_b60 M_offsetFor_b97
        rw [if_neg (by decide), rI 66 (by decide +kernel), els]
        show Option.bind (M_listAllows t (nI ls) f h l n) _ = _
        rw [m_listA hM hls hf, nI_1, rI 67 (by decide +kernel)]
        rfl
      have b59 : M_offsetFor_b60 t (nI r) (nI w) lk f h l n (nI (8 * r + j)) 0 = some (.inl (nI (8 * r + (j + 1)))) := by
        unfold M_offsetFor_b60 M_offsetFor_b97
        rw [if_pos rfl, nI_1]
        rfl
      have e1 : M_offsetFor_s6 t (nI r) (nI w) lk f h l n (nI (8 * r + j)) = @ite _ ((t.I 64 (8 * r + j) = nI w ∧ (t.I 65 (8 * r + j) = -1 ∨ t.I 65 (8 * r + j) = lk)) ∧ ¬ laV t (t.I 66 (8 * r + j)).toNatClampNeg f h l n = 0) (Classical.propDecidable _) (xo (some (t.I 67 (8 * r + j)))) (some (.inl (nI (8 * r + (j + 1))))) := by
        unfold M_offsetFor_s6 M_offsetFor_b55 M_offsetFor_b59
        rw [rdI_n (n := 6) (hM.n.n 63 6) (by omega) (by decide), b55, b59, cl]
        show (if nI (8 * r + j) < 8 * nI r + t.I 63 r then _ else _) = _
        rw [eN, e8, nI_add, if_pos (nI_lt (by omega) (by omega)), rI 64 (by decide +kernel)]
        show (if t.I 64 (8 * r + j) = nI w then _ else _) = _
        by_cases c1 : t.I 64 (8 * r + j) = nI w
        · rw [if_pos c1, rI 65 (by decide +kernel)]
          show (if t.I 65 (8 * r + j) = -1 then _ else (if t.I 65 (8 * r + j) = lk then _ else _)) = _
          by_cases c4 : laV t ls f h l n = 0
          · have no : ¬ ((t.I 64 (8 * r + j) = nI w ∧ (t.I 65 (8 * r + j) = -1 ∨ t.I 65 (8 * r + j) = lk)) ∧ ¬ laV t ls f h l n = 0) := fun z => z.2 c4
            rw [if_pos c4]
            by_cases c2 : t.I 65 (8 * r + j) = -1
            · rw [if_pos c2, if_neg no]
            · rw [if_neg c2]
              by_cases c3 : t.I 65 (8 * r + j) = lk
              · rw [if_pos c3, if_neg no]
              · rw [if_neg c3, if_neg no]
          · rw [if_neg c4]
            by_cases c2 : t.I 65 (8 * r + j) = -1
            · rw [if_pos c2, if_pos ⟨⟨c1, Or.inl c2⟩, c4⟩]
            · rw [if_neg c2]
              by_cases c3 : t.I 65 (8 * r + j) = lk
              · rw [if_pos c3, if_pos ⟨⟨c1, Or.inr c3⟩, c4⟩]
              · rw [if_neg c3, if_neg (fun z => z.1.2.elim c2 c3)]
        · rw [if_neg c1, if_neg (fun z => c1 z.1.1)]
      unfold fsA
      by_cases c : (t.I 64 (8 * r + j) = nI w ∧ (t.I 65 (8 * r + j) = -1 ∨ t.I 65 (8 * r + j) = lk)) ∧ ¬ laV t (t.I 66 (8 * r + j)).toNatClampNeg f h l n = 0
      · rw [if_pos c] at e1 ⊢
        exact lp_x e1
      · rw [if_neg c] at e1 ⊢
        rw [lp_l e1]
        exact ih (j + 1) (by omega)
  exact loop N 0 (by omega)
end Ml
