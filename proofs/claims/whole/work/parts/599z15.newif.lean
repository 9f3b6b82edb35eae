/-! A new interface: the model. -/
section Ni
variable {r l : Nat} {t : moS}
/-- the model with one interface more -/
def niT (t : moS) (r l : Nat) : moS := moSI (moSJ (moSI (moSI t 71 (4 * r + cI t r) (nI l)) 72 (4 * r + cI t r) 1) 73 (4 * r + cI t r) 1677407014) 70 r (nI (cI t r + 1))
theorem m_newIf (hM : MV t) (hr : r < cR t) (h4 : cI t r < 4) : M_newInterface t (nI r) (nI l) = some (nI (4 * r + cI t r), niT t r l) ∧ mfr [70, 71, 72, 73] t (niT t r l) := by
  have hN := hM.n
  have h6 : r < 6 := Nat.lt_of_lt_of_le hr hM.nR
  have e70 : t.I 70 r = nI (cI t r) := (hM.r hr).2.2.2.2.2.2.2.2.2.1.n.1
  have ex : (4 : Int32) * nI r + nI (cI t r) = nI (4 * r + cI t r) := by rw [show (4 : Int32) = nI 4 from rfl, pk_mul, nI_add]
  refine ⟨?_, (mfr.si (by decide)).tr ((mfr.si (by decide)).tr ((mfr.sj (by decide)).tr (mfr.si (by decide))))⟩
  unfold M_newInterface
  refine (sr_I (hN.n 70 6) h6 (by decide)).trans ?_
  rw [e70, ex]
  refine (sw_I (hN.n 71 24) (by omega) (by decide)).trans ?_
  refine (sw_I (n := 24) (by exact hN.n 72 24) (by omega) (by decide)).trans ?_
  refine (sw_J (n := 24) (by exact hN.n 73 24) (by omega) (by decide)).trans ?_
  refine (sr_I (n := 6) (by exact hN.n 70 6) h6 (by decide)).trans ?_
  rw [show (moSJ (moSI (moSI t 71 (4 * r + cI t r) (nI l)) 72 (4 * r + cI t r) 1) 73 (4 * r + cI t r) 1677407014).I 70 r = nI (cI t r) from e70, nI_1]
  exact (sw_I (n := 6) (by exact hN.n 70 6) h6 (by decide)).trans rfl
theorem ni_70 (r' : Nat) : (niT t r l).I 70 r' = if r' = r then nI (cI t r + 1) else t.I 70 r' := by
  unfold niT
  rw [moSI_s]; rfl
theorem ni_71 (i : Nat) : (niT t r l).I 71 i = if i = 4 * r + cI t r then nI l else t.I 71 i := by
  unfold niT
  rw [moSI_n (by decide)]
  show (moSI (moSI t 71 (4 * r + cI t r) (nI l)) 72 (4 * r + cI t r) 1).I 71 i = _
  rw [moSI_n (by decide), moSI_s]; rfl
theorem ni_72 (i : Nat) : (niT t r l).I 72 i = if i = 4 * r + cI t r then 1 else t.I 72 i := by
  unfold niT
  rw [moSI_n (by decide)]
  show (moSI (moSI t 71 (4 * r + cI t r) (nI l)) 72 (4 * r + cI t r) 1).I 72 i = _
  rw [moSI_s, moSI_n (by decide)]; rfl
theorem ni_73 (i : Nat) : (niT t r l).J 73 i = if i = 4 * r + cI t r then 1677407014 else t.J 73 i := by
  unfold niT
  show (moSJ (moSI (moSI t 71 (4 * r + cI t r) (nI l)) 72 (4 * r + cI t r) 1) 73 (4 * r + cI t r) 1677407014).J 73 i = _
  rw [moSJ_s]; rfl
theorem ni_cI (hM : MV t) (hr : r < cR t) (r' : Nat) : cI (niT t r l) r' = if r' = r then cI t r + 1 else cI t r' := by
  have h4 := (hM.r hr).2.2.2.2.2.2.2.2.2.1.n.2.2
  show ((niT t r l).I 70 r').toNatClampNeg = _
  rw [ni_70]
  by_cases c : r' = r
  · rw [if_pos c, if_pos c, nI_clamp (by have : cI t r ≤ 4 := h4; omega)]
  · rw [if_neg c, if_neg c]
end Ni
