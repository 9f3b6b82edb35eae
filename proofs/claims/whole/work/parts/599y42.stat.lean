/-! An own route is told, on both sides. -/
section Sx
variable {G H : Nat → Nat → Nat} {sa : Nat → Nat} {x rd r p kc ks : Nat} {s : cS} {t : moS} {f n mm tt x6 : Int32} {h l : Int64} {Os : Nat → List Pf}
theorem EXr.mono {O O' : List Pf} (hE : EXr O t r) (hs : ∀ P, P ∈ O → P ∈ O') : EXr O' t r := by
  obtain ⟨⟨o1, o2, D0, D1, l0, l1, hr⟩, se, px⟩ := hE
  exact ⟨⟨fun k hk => hs _ (o1 k hk), fun y hy hz => hs _ (o2 y hy hz), D0, D1, l0, l1, fun j hj => (hr j hj).imp_left (hs _)⟩, se, px⟩
/-- the row that the class finds is the one that the model finds -/
theorem st_fnd (hR : RR G H sa x s t) (hM : MV t) (hr : r < cR t) (hf : lnOk f n) {j : Nat} (hj : j < cSt t r) (hk : kyS t (32 * r + G 7 (32 * r + j)) = kyV f h l n) : M_staticOf t (nI r) f h l n = some (nI (32 * r + G 7 (32 * r + j))) := by
  have hq := hR.q.1
  obtain ⟨s1, s2⟩ := st_both hq hM hr
  obtain ⟨-, b1, b2⟩ := hq.st hr
  rcases m_static (h := h) (l := l) hM hr hf with ⟨z, -⟩ | ⟨k, h1, h2, h3, e⟩
  · exact absurd hk (z _ (b1 j hj).1)
  · obtain ⟨j', j1, j2⟩ := s2 k h1
    have : j' = j := by
      have y1 := s1 j' j1
      have y2 := s1 j hj
      rw [j2, h2, ← hk, ← y2] at y1
      rcases Nat.lt_trichotomy j' j with q | q | q
      · have := b2 j' j q hj; omega
      · exact q
      · have := b2 j j' q j1; omega
    rw [← this, j2]
    exact e
theorem m_stat_add (hM : MV t) (hr : r < cR t) (h32 : cSt t r < 32) (i1 : t.S 12 = f) (i2 : t.Z 13 = h) (i3 : t.Z 14 = l) (i4 : t.S 15 = n) (hn3 : ∀ t', mfr Wst t t' → M_number t' 3 = some mm) (hn6 : (0 < x6 → ∀ t', mfr Wst t t' → M_number t' x6 = some tt) ∧ (¬ 0 < x6 → tt = 0)) (hS : M_staticOf t (nI r) f h l n = some (-1)) : M_lineStatic_b91 t (nI r) x6 = Option.bind (M_settle (adM t r (cSt t r) f h l n mm tt) (nI r)) fun s2 => some (0, s2) := by
  have h6 := hM.nR
  have e46 := (hM.st hr).1
  have e32 : (32 : Int32) * nI r = nI (32 * r) := by rw [show (32 : Int32) = nI 32 from rfl, pk_mul]
  have N46 := hM.n.n 46 6
  have NN : ∀ k, (k ∉ mG ∧ moN0 k = 192) → t.N k = 192 := fun k hk => by rw [hM.n.1 k hk.1]; exact hk.2
  have hb : 32 * r + cSt t r < 192 := by omega
  unfold M_lineStatic_b91
  rw [i1, i2, i3, i4, hS]
  simp only [Option.bind_some]
  rw [if_pos trivial, rdI_n (n := 6) N46 (by omega) (by decide), e46]
  simp only [Option.bind_some]
  rw [if_neg (show ¬ nI (cSt t r) = (32 : Int32) from fun z => by have := (nI_eq (b := 32) (by omega) (by decide)).mp z; omega)]
  unfold M_lineStatic_b132
  rw [if_pos rfl]
  refine (sr_I (n := 6) N46 (by omega) (by decide)).trans ?_
  refine (sr_I (n := 6) N46 (by omega) (by decide)).trans ?_
  rw [e46, nI_1, e32, nI_add]
  refine (sw_I (n := 6) (by exact N46) (by omega) (by decide)).trans ?_
  refine (sw_I (n := 192) (by exact NN 47 (by decide +kernel)) hb (by decide)).trans ?_
  refine (sw_J (n := 192) (by exact NN 48 (by decide +kernel)) hb (by decide)).trans ?_
  refine (sw_J (n := 192) (by exact NN 49 (by decide +kernel)) hb (by decide)).trans ?_
  refine (sw_I (n := 192) (by exact NN 50 (by decide +kernel)) hb (by decide)).trans ?_
  show M_lineStatic_b199 (moSI (moSJ (moSJ (moSI (moSI t 46 r (nI (cSt t r + 1))) 47 (32 * r + cSt t r) (t.S 12)) 48 (32 * r + cSt t r) (t.Z 13)) 49 (32 * r + cSt t r) (t.Z 14)) 50 (32 * r + cSt t r) (t.S 15)) (nI r) x6 (nI (32 * r + cSt t r)) = _
  rw [i1, i2, i3, i4]
  have m1 : mfr Wst t (moSI (moSJ (moSJ (moSI (moSI t 46 r (nI (cSt t r + 1))) 47 (32 * r + cSt t r) f) 48 (32 * r + cSt t r) h) 49 (32 * r + cSt t r) l) 50 (32 * r + cSt t r) n) := ((((mfr.si (by decide)).tr (mfr.si (by decide))).tr (mfr.sj (by decide))).tr (mfr.sj (by decide))).tr (mfr.si (by decide))
  unfold M_lineStatic_b199
  rw [hn3 _ m1]
  simp only [Option.bind_some]
  refine (sw_I (n := 192) (by exact NN 51 (by decide +kernel)) hb (by decide)).trans ?_
  have m2 := m1.tr (mfr.si (t := moSI (moSJ (moSJ (moSI (moSI t 46 r (nI (cSt t r + 1))) 47 (32 * r + cSt t r) f) 48 (32 * r + cSt t r) h) 49 (32 * r + cSt t r) l) 50 (32 * r + cSt t r) n) (k := 51) (i := 32 * r + cSt t r) (v := mm) (W := Wst) (by decide))
  have fin : M_lineStatic_b228 (moSI (moSI (moSJ (moSJ (moSI (moSI t 46 r (nI (cSt t r + 1))) 47 (32 * r + cSt t r) f) 48 (32 * r + cSt t r) h) 49 (32 * r + cSt t r) l) 50 (32 * r + cSt t r) n) 51 (32 * r + cSt t r) mm) (nI r) (nI (32 * r + cSt t r)) tt = Option.bind (M_settle (adM t r (cSt t r) f h l n mm tt) (nI r)) fun s2 => some (0, s2) := by
    unfold M_lineStatic_b228
    exact sw_I (n := 192) (by exact NN 52 (by decide +kernel)) hb (by decide)
  by_cases c : 0 < x6
  · rw [if_pos c, hn6.1 c _ m2]
    exact fin
  · rw [if_neg c]
    have e0 := hn6.2 c
    subst e0
    exact fin
theorem m_stat_mod (hM : MV t) (hr : r < cR t) {k : Nat} (hk : k < cSt t r) (i1 : t.S 12 = f) (i2 : t.Z 13 = h) (i3 : t.Z 14 = l) (i4 : t.S 15 = n) (hn3 : ∀ t', mfr Wst t t' → M_number t' 3 = some mm) (hn6 : (0 < x6 → ∀ t', mfr Wst t t' → M_number t' x6 = some tt) ∧ (¬ 0 < x6 → tt = 0)) (hS : M_staticOf t (nI r) f h l n = some (nI (32 * r + k))) : M_lineStatic_b91 t (nI r) x6 = Option.bind (M_settle (moSI (moSI t 51 (32 * r + k) mm) 52 (32 * r + k) tt) (nI r)) fun s2 => some (0, s2) := by
  have h6 := hM.nR
  have h32 := (hM.st hr).2
  have NN : ∀ k, (k ∉ mG ∧ moN0 k = 192) → t.N k = 192 := fun k hk => by rw [hM.n.1 k hk.1]; exact hk.2
  have hb : 32 * r + k < 192 := by omega
  unfold M_lineStatic_b91
  rw [i1, i2, i3, i4, hS]
  simp only [Option.bind_some]
  rw [if_neg (nI_ne (by omega))]
  unfold M_lineStatic_b132
  rw [if_neg (nI_ne (by omega))]
  unfold M_lineStatic_b199
  rw [hn3 t mfr.rf]
  simp only [Option.bind_some]
  refine (sw_I (n := 192) (by exact NN 51 (by decide +kernel)) hb (by decide)).trans ?_
  have m2 : mfr Wst t (moSI t 51 (32 * r + k) mm) := mfr.si (by decide)
  have fin : M_lineStatic_b228 (moSI t 51 (32 * r + k) mm) (nI r) (nI (32 * r + k)) tt = Option.bind (M_settle (moSI (moSI t 51 (32 * r + k) mm) 52 (32 * r + k) tt) (nI r)) fun s2 => some (0, s2) := by
    unfold M_lineStatic_b228
    exact sw_I (n := 192) (by exact NN 52 (by decide +kernel)) hb (by decide)
  by_cases c : 0 < x6
  · rw [if_pos c, hn6.1 c _ m2]
    exact fin
  · rw [if_neg c]
    have e0 := hn6.2 c
    subst e0
    exact fin
end Sx
