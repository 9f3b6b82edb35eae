/-! Entries of a datagram: their numbers. -/
theorem mn16_2 {v : Int32} {a : Nat} (h : v = nI a) (h1 : 1 ≤ a) (h2 : a ≤ 60) : rng (mn16 v) 1 16 := by
  rw [h]
  have : ∀ a : Fin 61, 1 ≤ a.1 → ∃ n : Fin 17, mn16 (nI a.1) = nI n.1 ∧ 1 ≤ n.1 := by decide
  obtain ⟨n, e, hn⟩ := this ⟨a, by omega⟩ h1
  exact ⟨n.1, e, hn, by omega⟩
theorem sh8_or {a b : Nat} (ha : a < 256) (hb : b < 256) : (nI a <<< ((8 : Int32) &&& 31)) ||| nI b = nI (a * 256 + b) := by
  have f : ∀ n, (nI n).toBitVec.toNat = n % 2 ^ 32 := fun n => BitVec.toNat_ofNat n 32
  rw [show (8 : Int32) = nI 8 from rfl, nI_sh 8 (by decide) (by omega)]
  refine Int32.toBitVec_inj.mp (BitVec.eq_of_toNat_eq ?_)
  rw [Int32.toBitVec_or, BitVec.toNat_or, f, f, f, Nat.mod_eq_of_lt (by omega), Nat.mod_eq_of_lt (by omega), Nat.mod_eq_of_lt (by omega), ← Nat.shiftLeft_eq, ← Nat.shiftLeft_add_eq_or_of_lt (show b < 2 ^ 8 by omega)]
section Pn
variable {g g' : Nat → Int32} {f i : Nat} {L : List Int32}
/-- the same bytes: the same numbers -/
theorem hi_e (h : ∀ j, j < 700 → g j = g' j) (hi : i + 16 ≤ 700) : hiF g i f = hiF g' i f ∧ loF g i f = loF g' i f := by
  unfold hiF loF
  constructor
  · split
    · rw [nbF_e 4 i 0 fun j _ h2 => h j (by omega)]
    · rw [nbF_e 8 i 0 fun j _ h2 => h j (by omega)]
  · split
    · rfl
    · rw [nbF_e 8 (i + 8) 0 fun j _ h2 => h j (by omega)]
theorem pe_e (h : ∀ j, j < 700 → g j = g' j) (hi : i + 20 ≤ 700) : peN g f i = peN g' f i ∧ peH g f i = peH g' f i ∧ peL g f i = peL g' f i := by
  unfold peN peH peL
  refine ⟨?_, ?_, ?_⟩
  · rw [nbF_e 4 (i + 8) 0 fun j _ h2 => h j (by omega), h (i + 18) (by omega)]
  · rw [(hi_e (i := i + 4) h (by omega)).1, (hi_e (i := i) (f := 1) h (by omega)).1]
  · rw [(hi_e (i := i) (f := 1) h (by omega)).2]
theorem pk_e (h : ∀ j, j < 700 → g j = g' j) (hi : i + 20 ≤ 700) : peK g f i ↔ peK g' f i := by
  obtain ⟨a1, a2, a3⟩ := pe_e (f := 0) h hi
  obtain ⟨b1, b2, b3⟩ := pe_e (f := 1) h hi
  unfold peK
  rw [a1, a2, b2, b3, nbF_e 4 (i + 8) 0 fun j _ h2 => h j (by omega), h i (by omega), h (i + 1) (by omega), h (i + 18) (by omega)]
theorem me_e (h : ∀ j, j < 700 → g j = g' j) (hi : i + 20 ≤ 700) : meF g f i = meF g' f i := by
  unfold meF
  rw [nbF_e 4 (i + 16) 0 fun j _ h2 => h j (by omega), h (i + 19) (by omega)]
theorem nb_L (hB : ∀ j, L.getD j 0 = nI (vc L j)) (a : Nat) : nbF (fun j => L.getD j 0) a 4 0 = Int64.ofNat (N4 (vc L a) (vc L (a + 1)) (vc L (a + 2)) (vc L (a + 3))) := nb_4 (hB _) (hB _) (hB _) (hB _) (vc_b _ _) (vc_b _ _) (vc_b _ _) (vc_b _ _)
theorem n4_lt (L : List Int32) (a : Nat) : N4 (vc L a) (vc L (a + 1)) (vc L (a + 2)) (vc L (a + 3)) < 2 ^ 32 := by
  have h0 := vc_b L a
  have h1 := vc_b L (a + 1)
  have h2 := vc_b L (a + 2)
  have h3 := vc_b L (a + 3)
  rw [n4_e]
  omega
/-- the length of an entry's prefix -/
theorem pe_ok (hB : ∀ j, L.getD j 0 = nI (vc L j)) (hf : f = 0 ∨ f = 1) (k : peK (fun j => L.getD j 0) f i) : lnOk (nI f) (peN (fun j => L.getD j 0) f i) := by
  unfold peK at k
  rcases hf with rfl | rfl
  · rw [if_pos rfl] at k
    have e := k.2.1
    have hX := n4_lt L (i + 8)
    unfold peN at e ⊢
    rw [if_pos rfl, nb_L hB, L_toI] at e
    rw [if_pos rfl, nb_L hB, L_toI]
    obtain ⟨k, hk, hk2⟩ := (mask_c hX).1.mp e
    refine ⟨Or.inl rfl, 32 - k, (mask_c hX).2 k hk hk2, by omega, ?_⟩
    rw [if_pos (show nI 0 = 0 from rfl)]
    omega
  · rw [if_neg (by decide)] at k
    have e := k.1
    unfold peN
    rw [if_neg (by decide)]
    have hb := vc_b L (i + 18)
    have eB : (fun j => L.getD j 0) (i + 18) = nI (vc L (i + 18)) := hB _
    rw [eB] at e ⊢
    refine ⟨Or.inr rfl, vc L (i + 18), rfl, by omega, ?_⟩
    rw [if_neg (show ¬ nI 1 = 0 by decide)]
    apply Classical.byContradiction
    intro z
    exact e (nI_lt (a := 128) (by omega) (by omega))
/-- an entry's metric -/
theorem me_ok (hB : ∀ j, L.getD j 0 = nI (vc L j)) (h1 : ¬ meF (fun j => L.getD j 0) f i < 1) (h2 : ¬ (16 : Int64) < meF (fun j => L.getD j 0) f i) : ∃ m, Int64.toInt32 (meF (fun j => L.getD j 0) f i) = nI m ∧ 1 ≤ m ∧ m ≤ 16 := by
  have ex : ∃ X, X < 2 ^ 32 ∧ meF (fun j => L.getD j 0) f i = Int64.ofNat X := by
    unfold meF
    split
    · exact ⟨_, n4_lt L (i + 16), nb_L hB _⟩
    · have hb := vc_b L (i + 19)
      refine ⟨vc L (i + 19), by omega, ?_⟩
      show Int32.toInt64 (L.getD (i + 19) 0) = _
      rw [hB, nI_L (by omega)]
  obtain ⟨X, hX, e⟩ := ex
  rw [e] at h1 h2 ⊢
  rw [show (1 : Int64) = Int64.ofNat 1 from rfl, L_lt (by omega) (by decide)] at h1
  rw [show (16 : Int64) = Int64.ofNat 16 from rfl, L_lt (by decide) (by omega)] at h2
  exact ⟨X, L_toI X, by omega, by omega⟩
end Pn
