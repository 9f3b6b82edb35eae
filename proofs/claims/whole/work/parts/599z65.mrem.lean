/-! The model takes a row out of a table. -/
/-- row i of router r is gone; n are left -/
def rmT (r i n : Nat) (t t' : moS) : Prop := mfr (105 :: fRA) t t' ∧ t'.I 105 = upd (t.I 105) r (nI n) ∧ (∀ g, g ∈ fRI → ∀ y, t'.I g y = t.I g (if 2700 * r + i ≤ y ∧ y < 2700 * r + n then y + 1 else y)) ∧ ∀ g, g ∈ fRJ → ∀ y, t'.J g y = t.J g (if 2700 * r + i ≤ y ∧ y < 2700 * r + n then y + 1 else y)
theorem sk_ar {B i a y : Nat} (h : i ≤ a) : (if B + i ≤ (if y = B + a then B + (a + 1) else y) ∧ (if y = B + a then B + (a + 1) else y) < B + a then (if y = B + a then B + (a + 1) else y) + 1 else (if y = B + a then B + (a + 1) else y)) = (if B + i ≤ y ∧ y < B + (a + 1) then y + 1 else y) := by
  generalize hz : (if y = B + a then B + (a + 1) else y) = z
  have hc : (y = B + a ∧ z = B + (a + 1)) ∨ (y ≠ B + a ∧ z = y) := by
    rw [← hz]
    by_cases c : y = B + a
    · exact Or.inl ⟨c, if_pos c⟩
    · exact Or.inr ⟨c, if_neg c⟩
  clear hz
  split <;> split <;> omega
section Rm2
variable {t : moS} {r i n : Nat}
theorem m_remove (hM : MV t) (hr : r < cR t) (hn : cN t r = n + 1) (hi : i ≤ n) : ∃ t', M_remove t (nI r) (nI (2700 * r + i)) = some t' ∧ rmT r i n t t' := by
  have h6 := hM.nR
  have h9 := hM.nRo hr
  have e105 : t.I 105 r = nI (n + 1) := by rw [← hn]; exact (hM.r hr).2.2.2.2.2.2.2.2.2.2.2.2.1.n.1
  have N := hM.n
  have loop : ∀ d a u, a + d = n → i ≤ a → mfr fRA t u → (∀ g, g ∈ fRI → ∀ y, u.I g y = t.I g (if 2700 * r + i ≤ y ∧ y < 2700 * r + a then y + 1 else y)) → (∀ g, g ∈ fRJ → ∀ y, u.J g y = t.J g (if 2700 * r + i ≤ y ∧ y < 2700 * r + a then y + 1 else y)) → ∃ v, M_remove_b2 u (nI r) (nI (2700 * r + a)) = some v ∧ rmT r i n t v := by
    intro d
    induction d with
    | zero =>
      intro a u ha hia m hI hJ
      have ea : a = n := by omega
      subst ea
      have nu : u.N 105 = 6 := (m.2 105 (Or.inr (by decide))).trans (N.n 105 6)
      have es : u.I 105 = t.I 105 := m.I 105 (by decide)
      refine ⟨moSI u 105 r (nI a), ?_, (m.wk (fun y hy => List.mem_cons_of_mem _ hy)).tr (mfr.si (by decide)), ?_, fun g hg y => ?_, fun g hg y => hJ g hg y⟩
      · unfold M_remove_b2
        refine lp_x ?_
        show M_remove_s2 u (nI r) (nI (2700 * r + a)) = _
        unfold M_remove_s2
        rw [rdI_n (n := 6) nu (by omega) (by decide), es, e105]
        simp only [Option.bind_some]
        rw [show (2700 : Int32) = nI 2700 from rfl, pk_mul, nI_add, nI_1, if_neg (nI_nlt (by omega) (by omega)), show nI (a + 1) - 1 = nI a by rw [← nI_1, Int32.add_sub_cancel], wrI_n (n := 6) nu (by omega) (by decide)]
        rfl
      · rw [moSI_s, es]
      · rw [moSI_n (by revert hg; revert g; decide)]
        exact hI g hg y
    | succ d ih =>
      intro a u ha hia m hI hJ
      have nu : u.N 105 = 6 := (m.2 105 (Or.inr (by decide))).trans (N.n 105 6)
      have es : u.I 105 = t.I 105 := m.I 105 (by decide)
      have nR : ∀ k, k ∈ fRA → u.N k = 16200 := fun k hk => by
        have : t.N k = 16200 := N.n k 16200 (by revert hk; revert k; decide)
        rw [← this]
        exact m.2 k (Or.inr (by clear this; revert hk; revert k; decide))
      obtain ⟨v, v1, v2, v3⟩ := m_copy (t := u) (a := 2700 * r + (a + 1)) (b := 2700 * r + a) nR (by omega) (by omega) (by
        rw [hI 119 (by decide), if_neg (by omega)]
        exact ((hM.r hr).w (show a + 1 < cN t r by omega)).2.2.2.2.2.2.2.2.2.1)
      obtain ⟨z, z1, z2⟩ := ih (a + 1) v (by omega) (by omega) (m.tr v2) (fun g hg y => by
        rw [v3.1 g hg y, hI g hg]
        exact congrArg _ (sk_ar hia)) (fun g hg y => by
        rw [v3.2 g hg y, hJ g hg]
        exact congrArg _ (sk_ar hia))
      refine ⟨z, ?_, z2⟩
      rw [← z1]
      unfold M_remove_b2
      refine lp_l (f := fun x : Int32 × moS => M_remove_s2 x.2 (nI r) x.1) ?_
      show M_remove_s2 u (nI r) (nI (2700 * r + a)) = _
      unfold M_remove_s2
      rw [rdI_n (n := 6) nu (by omega) (by decide), es, e105]
      simp only [Option.bind_some]
      rw [show (2700 : Int32) = nI 2700 from rfl, pk_mul, nI_add, nI_1, if_pos (nI_lt (by omega) (by omega)), show 2700 * r + a + 1 = 2700 * r + (a + 1) by omega, v1]
      rfl
  unfold M_remove
  exact loop (n - i) i t (by omega) (Nat.le_refl _) mfr.rf (fun g hg y => by rw [if_neg (by omega)]) (fun g hg y => by rw [if_neg (by omega)])
end Rm2
