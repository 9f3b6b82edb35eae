/-! The model finds a row, and puts one in. -/
def inS (t : moS) (k : Nat) (f : Int32) (h l : Int64) (n : Int32) : moS := moSI (moSI (moSJ (moSJ (moSI (moSI (moSI (moSJ (moSJ (moSI t 106 k f) 107 k h) 108 k l) 109 k n) 112 k 0) 119 k 0) 114 k 0) 115 k 0) 116 k (-1)) 122 k (-1)
/-- a row more, at its place a -/
def insM (t t' : moS) (r a : Nat) (f : Int32) (h l : Int64) (n : Int32) : Prop := mfr (105 :: fRA) t t' ∧ (∀ j, t'.I 105 j = if j = r then nI (cN t r + 1) else t.I 105 j) ∧ (∀ k, k ∈ fRI → ∀ j, j ≠ 2700 * r + a → t'.I k j = t.I k (if 2700 * r + a < j ∧ j ≤ 2700 * r + cN t r then j - 1 else j)) ∧ (∀ k, k ∈ fRJ → ∀ j, j ≠ 2700 * r + a → t'.J k j = t.J k (if 2700 * r + a < j ∧ j ≤ 2700 * r + cN t r then j - 1 else j)) ∧ (t'.I 106 (2700 * r + a) = f ∧ t'.J 107 (2700 * r + a) = h ∧ t'.J 108 (2700 * r + a) = l ∧ t'.I 109 (2700 * r + a) = n) ∧ t'.I 112 (2700 * r + a) = 0 ∧ t'.I 119 (2700 * r + a) = 0 ∧ t'.J 114 (2700 * r + a) = 0 ∧ t'.J 115 (2700 * r + a) = 0 ∧ t'.I 116 (2700 * r + a) = -1 ∧ t'.I 122 (2700 * r + a) = -1
section Mi
variable {t t' t1 : moS} {r : Nat} {f n : Int32} {h l : Int64}
theorem evMJ {g i k j : Nat} {v : Int64} : (moSJ t g i v).J k j = if k = g ∧ j = i then v else t.J k j := by
  by_cases e : k = g
  · subst e
    rw [moSJ_s]
    show (if j = i then v else t.J k j) = _
    by_cases e2 : j = i
    · rw [if_pos e2, if_pos ⟨rfl, e2⟩]
    · rw [if_neg e2, if_neg (fun z => e2 z.2)]
  · rw [moSJ_n e, if_neg (fun z => e z.1)]
theorem sw_I {k n i : Nat} {v : Int32} {β : Type} {f : moS → Option β} (hN : t.N k = n) (hi : i < n) (hn : n < 2 ^ 31) : Option.bind (wrI t k (nI i) v) f = f (moSI t k i v) := by rw [wrI_n hN hi hn]; rfl
theorem sw_J {k n i : Nat} {v : Int64} {β : Type} {f : moS → Option β} (hN : t.N k = n) (hi : i < n) (hn : n < 2 ^ 31) : Option.bind (wrJ t k (nI i) v) f = f (moSJ t k i v) := by rw [wrJ_n hN hi hn]; rfl
theorem sw_Z {k n i : Nat} {v : Int32} {β : Type} {f : moS → Option β} (hv : bit v) (hN : t.N k = n) (hi : i < n) (hn : n < 2 ^ 31) : Option.bind (wrZ t k (nI i) v) f = f (moSI t k i v) := by
  rw [wrZ_n hN hi hn, show vp_nar .boolean v = v by rcases hv with e | e <;> rw [e] <;> rfl]
  rfl
theorem sr_I {k n i : Nat} {β : Type} {f : Int32 → Option β} (hN : t.N k = n) (hi : i < n) (hn : n < 2 ^ 31) : Option.bind (rdI t k (nI i)) f = f (t.I k i) := by rw [rdI_n hN hi hn]; rfl
theorem sr_J {k n i : Nat} {β : Type} {f : Int64 → Option β} (hN : t.N k = n) (hi : i < n) (hn : n < 2 ^ 31) : Option.bind (rdJ t k (nI i)) f = f (t.J k i) := by rw [rdJ_n hN hi hn]; rfl
theorem evIJ {g i k j : Nat} {v : Int64} : (moSJ t g i v).I k j = t.I k j := rfl
theorem evJI {g i k j : Nat} {v : Int32} : (moSI t g i v).J k j = t.J k j := rfl
theorem MV.row (hM : MV t) : ∀ k, k ∈ fRA → t.N k = 16200 := fun k hk => by
  simp only [List.mem_cons, List.not_mem_nil, or_false] at hk
  rcases hk with rfl | rfl | rfl | rfl | rfl | rfl | rfl | rfl | rfl | rfl | rfl | rfl | rfl | rfl | rfl | rfl | rfl <;> exact hM.n.n _ 16200
theorem MV.c5 (hM : MV t) (hr : r < cR t) : t.I 105 r = nI (cN t r) ∧ cN t r ≤ 880 := by
  have := (hM.r hr).2.2.2.2.2.2.2.2.2.2.2.2.1.n
  exact ⟨this.1, this.2.2⟩
theorem MV.ks (hM : MV t) (hr : r < cR t) {i j : Nat} (hij : i < j) (hj : j < cN t r) : kyR t (2700 * r + i) < kyR t (2700 * r + j) := (hM.r hr).2.2.2.2.2.2.2.2.2.2.2.2.2.2 i j hij hj
theorem MV.kl (hM : MV t) (hr : r < cR t) {j : Nat} (hj : j < cN t r) : lnOk (t.I 106 (2700 * r + j)) (t.I 109 (2700 * r + j)) := ((hM.r hr).w hj).1
theorem m_find (hM : MV t) (hr : r < cR t) (hf : lnOk f n) : ((∀ j, j < cN t r → kyR t (2700 * r + j) ≠ kyV f h l n) ∧ M_find t (nI r) f h l n = some (-1)) ∨ ∃ j, j < cN t r ∧ kyR t (2700 * r + j) = kyV f h l n ∧ M_find t (nI r) f h l n = some (nI (2700 * r + j)) := by
  have h6 := hM.nR
  obtain ⟨e105, hn⟩ := hM.c5 hr
  have e2700 : (2700 : Int32) * nI r = nI (2700 * r) := by rw [show (2700 : Int32) = nI 2700 from rfl, pk_mul]
  unfold M_find M_find_b7
  rw [e2700]
  have rI : ∀ k j, k ∈ fRA → j < cN t r → rdI t k (nI (2700 * r + j)) = some (t.I k (2700 * r + j)) := fun k j hk hj => rdI_n (n := 16200) (hM.row k hk) (by omega) (by decide)
  have rJ : ∀ k j, k ∈ fRA → j < cN t r → rdJ t k (nI (2700 * r + j)) = some (t.J k (2700 * r + j)) := fun k j hk hj => rdJ_n (n := 16200) (hM.row k hk) (by omega) (by decide)
  have loop : ∀ q j, j + q = cN t r → (∀ i, i < j → kyR t (2700 * r + i) ≠ kyV f h l n) → ((∀ j, j < cN t r → kyR t (2700 * r + j) ≠ kyV f h l n) ∧ lp (fun y => M_find_s7 t (nI r) f h l n y) (nI (2700 * r + j)) = some (-1)) ∨ ∃ i, i < cN t r ∧ kyR t (2700 * r + i) = kyV f h l n ∧ lp (fun y => M_find_s7 t (nI r) f h l n y) (nI (2700 * r + j)) = some (nI (2700 * r + i)) := by
    intro q
    induction q with
    | zero =>
      intro j hj hb
      refine Or.inl ⟨fun i hi => hb i (by omega), lp_x ?_⟩
      show M_find_s7 t (nI r) f h l n (nI (2700 * r + j)) = _
      unfold M_find_s7
      rw [rdI_n (n := 6) (hM.n.n 105 6) (by omega) (by decide), e105]
      show (if nI (2700 * r + j) < 2700 * nI r + nI (cN t r) then _ else _) = _
      rw [e2700, nI_add, if_neg (nI_nlt (by omega) (by omega))]
    | succ q ih =>
      intro j hj hb
      have hj' : j < cN t r := by omega
      have hi := kyV_i (h := t.J 107 (2700 * r + j)) (l := t.J 108 (2700 * r + j)) (h' := h) (l' := l) (hM.kl hr hj') hf
      by_cases c : kyR t (2700 * r + j) = kyV f h l n
      · obtain ⟨e1, e2, e3, e4⟩ := hi.mp c
        refine Or.inr ⟨j, hj', c, lp_x ?_⟩
        show M_find_s7 t (nI r) f h l n (nI (2700 * r + j)) = _
        unfold M_find_s7
        rw [rdI_n (n := 6) (hM.n.n 105 6) (by omega) (by decide), e105]
        show (if nI (2700 * r + j) < 2700 * nI r + nI (cN t r) then _ else _) = _
        rw [e2700, nI_add, if_pos (nI_lt (by omega) (by omega)), rI 106 j (by decide) hj']
        show (if t.I 106 (2700 * r + j) = f then _ else _) = _
        rw [if_pos e1, rJ 107 j (by decide) hj']
        show (if t.J 107 (2700 * r + j) = h then _ else _) = _
        rw [if_pos e2, rJ 108 j (by decide) hj']
        show (if t.J 108 (2700 * r + j) = l then _ else _) = _
        rw [if_pos e3, rI 109 j (by decide) hj']
        show (if t.I 109 (2700 * r + j) = n then _ else _) = _
        rw [if_pos e4]
      · have st : M_find_s7 t (nI r) f h l n (nI (2700 * r + j)) = some (.inl (nI (2700 * r + (j + 1)))) := by
          have b75 : M_find_b75 t (nI r) f h l n (nI (2700 * r + j)) = some (.inl (nI (2700 * r + (j + 1)))) := by
            unfold M_find_b75
            rw [nI_1]
            rfl
          unfold M_find_s7
          rw [rdI_n (n := 6) (hM.n.n 105 6) (by omega) (by decide), e105]
          show (if nI (2700 * r + j) < 2700 * nI r + nI (cN t r) then _ else _) = _
          rw [e2700, nI_add, if_pos (nI_lt (by omega) (by omega)), rI 106 j (by decide) hj']
          show (if t.I 106 (2700 * r + j) = f then _ else _) = _
          by_cases c1 : t.I 106 (2700 * r + j) = f
          · rw [if_pos c1, rJ 107 j (by decide) hj']
            show (if t.J 107 (2700 * r + j) = h then _ else _) = _
            by_cases c2 : t.J 107 (2700 * r + j) = h
            · rw [if_pos c2, rJ 108 j (by decide) hj']
              show (if t.J 108 (2700 * r + j) = l then _ else _) = _
              by_cases c3 : t.J 108 (2700 * r + j) = l
              · rw [if_pos c3, rI 109 j (by decide) hj']
                show (if t.I 109 (2700 * r + j) = n then _ else _) = _
                rw [if_neg (fun c4 => c (hi.mpr ⟨c1, c2, c3, c4⟩))]
                exact b75
              · rw [if_neg c3]; exact b75
            · rw [if_neg c2]; exact b75
          · rw [if_neg c1]; exact b75
        rw [lp_l (show (fun y => M_find_s7 t (nI r) f h l n y) (nI (2700 * r + j)) = _ from st)]
        exact ih (j + 1) (by omega) fun i hi => by
          rcases Nat.lt_or_ge i j with z | z
          · exact hb i z
          · have : i = j := by omega
            exact this ▸ c
  have := loop (cN t r) 0 (by omega) (fun i hi => absurd hi (Nat.not_lt_zero _))
  exact this
theorem inS_e {k : Nat} (hN : ∀ k, k ∈ fRA → t.N k = 16200) (hk : k < 16200) : M_insert_b67 t f h l n (nI k) = some (nI k, inS t k f h l n) := by
  unfold M_insert_b67
  refine (sw_I (n := 16200) (by exact hN 106 (by decide)) hk (by decide)).trans ?_
  refine (sw_J (n := 16200) (by exact hN 107 (by decide)) hk (by decide)).trans ?_
  refine (sw_J (n := 16200) (by exact hN 108 (by decide)) hk (by decide)).trans ?_
  refine (sw_I (n := 16200) (by exact hN 109 (by decide)) hk (by decide)).trans ?_
  refine (sw_I (n := 16200) (by exact hN 112 (by decide)) hk (by decide)).trans ?_
  refine (sw_Z (n := 16200) (Or.inl rfl) (by exact hN 119 (by decide)) hk (by decide)).trans ?_
  refine (sw_J (n := 16200) (by exact hN 114 (by decide)) hk (by decide)).trans ?_
  refine (sw_J (n := 16200) (by exact hN 115 (by decide)) hk (by decide)).trans ?_
  refine (sw_I (n := 16200) (by exact hN 116 (by decide)) hk (by decide)).trans ?_
  refine (sw_I (n := 16200) (by exact hN 122 (by decide)) hk (by decide)).trans ?_
  rfl
theorem inS_v {k : Nat} : ((∀ g, g ∈ fRI → ∀ j, j ≠ k → (inS t k f h l n).I g j = t.I g j) ∧ ∀ g, g ∈ fRJ → ∀ j, j ≠ k → (inS t k f h l n).J g j = t.J g j) ∧ ((inS t k f h l n).I 106 k = f ∧ (inS t k f h l n).J 107 k = h ∧ (inS t k f h l n).J 108 k = l ∧ (inS t k f h l n).I 109 k = n) ∧ (inS t k f h l n).I 112 k = 0 ∧ (inS t k f h l n).I 119 k = 0 ∧ (inS t k f h l n).J 114 k = 0 ∧ (inS t k f h l n).J 115 k = 0 ∧ (inS t k f h l n).I 116 k = -1 ∧ (inS t k f h l n).I 122 k = -1 := by
  unfold inS
  refine ⟨⟨fun g _ j hj => ?_, fun g _ j hj => ?_⟩, ⟨?_, ?_, ?_, ?_⟩, ?_, ?_, ?_, ?_, ?_, ?_⟩
  all_goals simp only [evMI, evMJ, evIJ, evJI]
  · simp [hj]
  · simp [hj]
  all_goals simp
theorem m_insert (hM : MV t) (hr : r < cR t) (hf : lnOk f n) (h8 : cN t r < 880) : ∃ a t', M_insert t (nI r) f h l n = some (nI (2700 * r + a), t') ∧ insM t t' r a f h l n ∧ a ≤ cN t r ∧ (∀ i, i < a → kyR t (2700 * r + i) ≤ kyV f h l n) ∧ ∀ i, a ≤ i → i < cN t r → kyV f h l n < kyR t (2700 * r + i) := by
  have h6 := hM.nR
  obtain ⟨e105, hn⟩ := hM.c5 hr
  have e2700 : (2700 : Int32) * nI r = nI (2700 * r) := by rw [show (2700 : Int32) = nI 2700 from rfl, pk_mul]
  have hN := hM.row
  have N5 := hM.n.n 105 6
  have en : M_insert t (nI r) f h l n = M_insert_b24 (moSI t 105 r (nI (cN t r + 1))) (nI r) f h l n (nI (2700 * r + cN t r)) := by
    unfold M_insert
    rw [rdI_n (n := 6) N5 (by omega) (by decide), e105]
    simp only [Option.bind_some]
    rw [show nI (cN t r) + 1 = nI (cN t r + 1) from nI_add _ 1, wrI_n (n := 6) N5 (by omega) (by decide)]
    simp only [Option.bind_some]
    rw [e2700, nI_add]
  rw [en]
  clear en
  generalize hs3 : moSI t 105 r (nI (cN t r + 1)) = s3
  have s3I : ∀ k, k ∈ fRI → ∀ j, s3.I k j = t.I k j := fun k hk j => by
    rw [← hs3, moSI_n (fun e => by subst e; exact absurd hk (by decide))]
  have s3J : ∀ k, k ∈ fRJ → ∀ j, s3.J k j = t.J k j := fun k hk j => by rw [← hs3]; rfl
  have s3N : ∀ k, k ∈ fRA → s3.N k = 16200 := fun k hk => by rw [← hs3]; exact hN k hk
  have s3m : mfr (105 :: fRA) t s3 := by rw [← hs3]; exact mfr.si (by decide)
  have s35 : ∀ j, s3.I 105 j = if j = r then nI (cN t r + 1) else t.I 105 j := fun j => by
    rw [← hs3, evMI]
    by_cases c : j = r
    · rw [if_pos ⟨rfl, c⟩, if_pos c]
    · rw [if_neg (fun z => c z.2), if_neg c]
  clear hs3
  unfold M_insert_b24
  -- the end, at its place
  have fin : ∀ i ti, i ≤ cN t r → mfr fRA s3 ti → rwM s3 ti (fun j => if 2700 * r + i < j ∧ j ≤ 2700 * r + cN t r then j - 1 else j) → insM t (inS ti (2700 * r + i) f h l n) r i f h l n ∧ M_insert_b67 ti f h l n (nI (2700 * r + i)) = some (nI (2700 * r + i), inS ti (2700 * r + i) f h l n) := by
    intro i ti hi m hw
    have e := inS_e (t := ti) (f := f) (h := h) (l := l) (n := n) (k := 2700 * r + i) (fun k hk => by rw [m.2 k (Or.inr (by revert hk; revert k; decide +kernel))]; exact s3N k hk) (by omega)
    obtain ⟨⟨v1, v2⟩, v3⟩ := inS_v (t := ti) (k := 2700 * r + i) (f := f) (h := h) (l := l) (n := n)
    refine ⟨⟨?_, fun j => ?_, fun k hk j hj => ?_, fun k hk j hj => ?_, v3⟩, e⟩
    · have m1 := fM_insert_b67 (W := fRA) rfl m _ e
      exact s3m.tr (m1.wk (by intro k hk; exact List.mem_cons_of_mem _ hk))
    · have m1 := fM_insert_b67 (W := fRA) rfl m _ e
      have m1 : mfr fRA s3 (inS ti (2700 * r + i) f h l n) := m1
      rw [m1.I 105 (by decide)]
      exact s35 j
    · rw [v1 k hk j hj, hw.1 k hk j, s3I k hk]
    · rw [v2 k hk j hj, hw.2 k hk j, s3J k hk]
  have loop : ∀ i ti, i ≤ cN t r → mfr fRA s3 ti → rwM s3 ti (fun j => if 2700 * r + i < j ∧ j ≤ 2700 * r + cN t r then j - 1 else j) → (∀ j, i ≤ j → j < cN t r → kyV f h l n < kyR t (2700 * r + j)) → ∃ a t', lp (fun x : Int32 × moS => M_insert_s24 x.2 (nI r) f h l n x.1) (nI (2700 * r + i), ti) = some (nI (2700 * r + a), t') ∧ insM t t' r a f h l n ∧ a ≤ cN t r ∧ (∀ i, i < a → kyR t (2700 * r + i) ≤ kyV f h l n) ∧ ∀ i, a ≤ i → i < cN t r → kyV f h l n < kyR t (2700 * r + i) := by
    intro i
    induction i with
    | zero =>
      intro ti hi m hw hb
      obtain ⟨f1, f2⟩ := fin 0 ti hi m hw
      refine ⟨0, _, lp_x ?_, f1, by omega, fun i hi => absurd hi (Nat.not_lt_zero _), hb⟩
      show M_insert_s24 ti (nI r) f h l n (nI (2700 * r + 0)) = _
      unfold M_insert_s24
      rw [e2700, if_neg (nI_nlt (by omega) (by omega)), f2]
    | succ i ih =>
      intro ti hi m hw hb
      have tiN : ∀ k, k ∈ fRA → ti.N k = 16200 := fun k hk => by rw [m.2 k (Or.inr (by revert hk; revert k; decide +kernel))]; exact s3N k hk
      have wi : ∀ k, k ∈ fRI → ti.I k (2700 * r + i) = t.I k (2700 * r + i) := fun k hk => by
        rw [hw.1 k hk]
        dsimp only
        rw [if_neg (by omega), s3I k hk]
      have wj : ∀ k, k ∈ fRJ → ti.J k (2700 * r + i) = t.J k (2700 * r + i) := fun k hk => by
        rw [hw.2 k hk]
        dsimp only
        rw [if_neg (by omega), s3J k hk]
      have ek : kyR ti (2700 * r + i) = kyR t (2700 * r + i) := by
        unfold kyR
        rw [wi 106 (by decide), wi 109 (by decide), wj 107 (by decide), wj 108 (by decide)]
      have hi' : i < cN t r := by omega
      have bh := m_behind (t := ti) (k := 2700 * r + i) (f := f) (h := h) (l := l) (n := n) tiN (by omega) hf (by rw [wi 106 (by decide), wi 109 (by decide)]; exact hM.kl hr hi')
      rw [ek] at bh
      have e1 : nI (2700 * r + (i + 1)) - 1 = nI (2700 * r + i) := by rw [show (1 : Int32) = nI 1 from rfl, pk_sub (by omega)]; rfl
      have e2 : nI (2700 * r + (i + 1)) + -1 = nI (2700 * r + i) := by rw [← Int32.sub_eq_add_neg]; exact e1
      by_cases c : kyV f h l n < kyR t (2700 * r + i)
      · rw [if_pos c] at bh
        obtain ⟨t2, y1, y2, y3⟩ := m_copy (t := ti) (a := 2700 * r + i) (b := 2700 * r + (i + 1)) tiN (by omega) (by omega) (by rw [wi 119 (by decide)]; exact ((hM.r hr).w hi').2.2.2.2.2.2.2.2.2.1)
        have st : M_insert_s24 ti (nI r) f h l n (nI (2700 * r + (i + 1))) = some (.inl (nI (2700 * r + i), t2)) := by
          unfold M_insert_s24
          rw [e2700, if_pos (nI_lt (by omega) (by omega)), e1, bh]
          simp only [Option.bind_some]
          rw [if_neg (by decide), y1, e2]
          rfl
        rw [lp_l (show (fun x : Int32 × moS => M_insert_s24 x.2 (nI r) f h l n x.1) (nI (2700 * r + (i + 1)), ti) = _ from st)]
        refine ih t2 (by omega) (m.tr y2) ((hw.tr y3).cg fun j => ?_) fun j h1 h2 => ?_
        · by_cases c1 : j = 2700 * r + (i + 1)
          · rw [if_pos c1, if_neg (by omega), if_pos (by omega)]; omega
          · rw [if_neg c1]
            by_cases c2 : 2700 * r + (i + 1) < j ∧ j ≤ 2700 * r + cN t r
            · rw [if_pos c2, if_pos (by omega)]
            · rw [if_neg c2, if_neg (by omega)]
        · rcases Nat.lt_or_ge i j with z | z
          · exact hb j (by omega) h2
          · have : j = i := by omega
            exact this ▸ c
      · rw [if_neg c] at bh
        obtain ⟨f1, f2⟩ := fin (i + 1) ti hi m hw
        refine ⟨i + 1, _, lp_x ?_, f1, hi, fun j hj => ?_, hb⟩
        · show M_insert_s24 ti (nI r) f h l n (nI (2700 * r + (i + 1))) = _
          unfold M_insert_s24
          rw [e2700, if_pos (nI_lt (by omega) (by omega)), e1, bh]
          simp only [Option.bind_some]
          rw [if_pos trivial, f2]
        · rcases Nat.lt_or_ge j i with z | z
          · have := hM.ks hr z hi'
            omega
          · have : j = i := by omega
            rw [this]; omega
  refine loop (cN t r) s3 (Nat.le_refl _) mfr.rf ?_ fun i h1 h2 => absurd h2 (by omega)
  exact ⟨fun k hk j => by dsimp only; rw [if_neg (by omega)], fun k hk j => by dsimp only; rw [if_neg (by omega)]⟩
end Mi
