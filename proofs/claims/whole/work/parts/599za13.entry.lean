/-! An entry's prefix, in the model. -/
theorem L_toI (X : Nat) : Int64.toInt32 (Int64.ofNat X) = nI X := by
  refine Int32.toBitVec_inj.mp ?_
  rw [Int64.toBitVec_toInt32]
  show BitVec.signExtend 32 (BitVec.ofNat 64 X) = BitVec.ofNat 32 X
  rw [BitVec.signExtend_eq_setWidth_of_le _ (by decide)]
  apply BitVec.eq_of_toNat_eq
  rw [BitVec.toNat_setWidth, BitVec.toNat_ofNat, BitVec.toNat_ofNat]
  omega
/-- an entry's length, high half, low half -/
def peN (g : Nat → Int32) (f i : Nat) : Int32 := if f = 0 then bcI (Int64.toInt32 (nbF g (i + 8) 4 0)) else g (i + 18)
def peH (g : Nat → Int32) (f i : Nat) : Int64 := if f = 0 then hiF g (i + 4) 0 else hiF g i 1
def peL (g : Nat → Int32) (f i : Nat) : Int64 := if f = 0 then 0 else loF g i 1
/-- it is a prefix -/
def peK (g : Nat → Int32) (f i : Nat) : Prop := if f = 0 then (g i = 0 ∧ g (i + 1) = 2) ∧ Int64.toInt32 (nbF g (i + 8) 4 0) = mkI (peN g 0 i) ∧ mpre (peH g 0 i) 0 (peN g 0 i) else ¬ (128 : Int32) < g (i + 18) ∧ mpre (peH g 1 i) (peL g 1 i) (g (i + 18))
def isB (v : Int32) : Prop := ∃ b, b < 256 ∧ v = nI b
section En2
variable {t : moS} {i f : Nat}
theorem m_entry4 (hN : t.N 149 = 700) (hi : i + 20 ≤ 700) (hb : ∀ j, i ≤ j → j < i + 20 → isB (t.I 149 j)) : (peK (t.I 149) 0 i → ∃ t', M_isEntry t (nI 0) (nI i) = some (1, t') ∧ mfr [12, 13, 14, 15] t t' ∧ t'.S 12 = nI 0 ∧ t'.Z 13 = peH (t.I 149) 0 i ∧ t'.Z 14 = peL (t.I 149) 0 i ∧ t'.S 15 = peN (t.I 149) 0 i) ∧ (¬ peK (t.I 149) 0 i → ∃ t', M_isEntry t (nI 0) (nI i) = some (0, t') ∧ mfr [12, 13, 14, 15] t t') := by
  have eH : peH (t.I 149) 0 i = hiF (t.I 149) (i + 4) 0 := by unfold peH; rw [if_pos rfl]
  have eL : peL (t.I 149) 0 i = 0 := by unfold peL; rw [if_pos rfl]
  have eK0 : peK (t.I 149) 0 i ↔ (t.I 149 i = 0 ∧ t.I 149 (i + 1) = 2) ∧ Int64.toInt32 (nbF (t.I 149) (i + 8) 4 0) = mkI (peN (t.I 149) 0 i) ∧ mpre (hiF (t.I 149) (i + 4) 0) 0 (peN (t.I 149) 0 i) := by
    unfold peK
    rw [if_pos rfl, eH]
  obtain ⟨b0, l0, h0⟩ := hb (i + 8) (by omega) (by omega)
  obtain ⟨b1, l1, h1⟩ := hb (i + 8 + 1) (by omega) (by omega)
  obtain ⟨b2, l2, h2⟩ := hb (i + 8 + 2) (by omega) (by omega)
  obtain ⟨b3, l3, h3⟩ := hb (i + 8 + 3) (by omega) (by omega)
  have eX := nb_4 (g := t.I 149) h0 h1 h2 h3 l0 l1 l2 l3
  have hX : N4 b0 b1 b2 b3 < 2 ^ 32 := by rw [n4_e]; omega
  have m0 : mfr [12, 13, 14, 15] t (moSZ (moSS t 12 (nI 0)) 14 0) := (mfr.ss (by decide)).tr (mfr.sz (by decide))
  have e0 : M_isEntry t (nI 0) (nI i) = Option.bind (rdI (moSZ (moSS t 12 (nI 0)) 14 0) 149 (nI i)) (fun x3 => if x3 = 0 then Option.bind (rdI (moSZ (moSS t 12 (nI 0)) 14 0) 149 (nI i + 1)) (fun x4 => if x4 = 2 then Option.bind (M_highOf (moSZ (moSS t 12 (nI 0)) 14 0) 149 (nI i + 4) 0) (fun x5 => Option.bind (M_number4 (moSZ (moSZ (moSS t 12 (nI 0)) 14 0) 13 x5) 149 (nI i + 8)) (fun x7 => M_isEntry_b155 (moSS (moSZ (moSZ (moSS t 12 (nI 0)) 14 0) 13 x5) 15 32) ((x7 ^^^ ((-1) : Int64)) &&& (4294967295 : Int64)) ((x7 ^^^ ((-1) : Int64)) &&& (4294967295 : Int64)))) else some (0, moSZ (moSS t 12 (nI 0)) 14 0)) else some (0, moSZ (moSS t 12 (nI 0)) 14 0)) := by
    unfold M_isEntry letS
    dsimp only
    rw [if_neg (show ¬ nI 0 = (1 : Int32) by decide)]
  rw [rdI_n (t := moSZ (moSS t 12 (nI 0)) 14 0) (n := 700) hN (by omega) (by decide)] at e0
  have e0 : M_isEntry t (nI 0) (nI i) = if t.I 149 i = 0 then Option.bind (rdI (moSZ (moSS t 12 (nI 0)) 14 0) 149 (nI i + 1)) (fun x4 => if x4 = 2 then Option.bind (M_highOf (moSZ (moSS t 12 (nI 0)) 14 0) 149 (nI i + 4) 0) (fun x5 => Option.bind (M_number4 (moSZ (moSZ (moSS t 12 (nI 0)) 14 0) 13 x5) 149 (nI i + 8)) (fun x7 => M_isEntry_b155 (moSS (moSZ (moSZ (moSS t 12 (nI 0)) 14 0) 13 x5) 15 32) ((x7 ^^^ ((-1) : Int64)) &&& (4294967295 : Int64)) ((x7 ^^^ ((-1) : Int64)) &&& (4294967295 : Int64)))) else some (0, moSZ (moSS t 12 (nI 0)) 14 0)) else some (0, moSZ (moSS t 12 (nI 0)) 14 0) := e0
  by_cases c0 : t.I 149 i = 0
  rotate_left
  · rw [if_neg c0] at e0
    exact ⟨fun z => absurd (eK0.mp z).1.1 c0, fun _ => ⟨_, e0, m0⟩⟩
  rw [if_pos c0, nI_1, rdI_n (t := moSZ (moSS t 12 (nI 0)) 14 0) (i := i + 1) (n := 700) hN (by omega) (by decide)] at e0
  have e0 : M_isEntry t (nI 0) (nI i) = if t.I 149 (i + 1) = 2 then Option.bind (M_highOf (moSZ (moSS t 12 (nI 0)) 14 0) 149 (nI i + 4) 0) (fun x5 => Option.bind (M_number4 (moSZ (moSZ (moSS t 12 (nI 0)) 14 0) 13 x5) 149 (nI i + 8)) (fun x7 => M_isEntry_b155 (moSS (moSZ (moSZ (moSS t 12 (nI 0)) 14 0) 13 x5) 15 32) ((x7 ^^^ ((-1) : Int64)) &&& (4294967295 : Int64)) ((x7 ^^^ ((-1) : Int64)) &&& (4294967295 : Int64)))) else some (0, moSZ (moSS t 12 (nI 0)) 14 0) := e0
  by_cases c1 : t.I 149 (i + 1) = 2
  rotate_left
  · rw [if_neg c1] at e0
    exact ⟨fun z => absurd (eK0.mp z).1.2 c1, fun _ => ⟨_, e0, m0⟩⟩
  have hH := m_high (t := moSZ (moSS t 12 (nI 0)) 14 0) (k := 149) (a := i + 4) (f := 0) (N := 700) hN (by omega) (by decide) (Or.inl rfl)
  have hH : M_highOf (moSZ (moSS t 12 (nI 0)) 14 0) 149 (nI (i + 4)) 0 = some (hiF (t.I 149) (i + 4) 0) := hH
  rw [if_pos c1, show nI i + 4 = nI (i + 4) from nI_add i 4, hH] at e0
  simp only [Option.bind_some] at e0
  have h4 := m_num4 (t := moSZ (moSZ (moSS t 12 (nI 0)) 14 0) 13 (hiF (t.I 149) (i + 4) 0)) (k := 149) (N := 700) (a := i + 8) hN (by omega) (by decide) h0 h1 h2 h3 l0 l1 l2 l3
  rw [show nI i + 8 = nI (i + 8) from nI_add i 8, h4] at e0
  simp only [Option.bind_some] at e0
  rw [m_mask hX moSS_s] at e0
  simp only [moSS_ow] at e0
  have eN : peN (t.I 149) 0 i = bcI (nI (N4 b0 b1 b2 b3)) := by
    unfold peN
    rw [if_pos rfl, eX, L_toI]
  have eK : peK (t.I 149) 0 i ↔ nI (N4 b0 b1 b2 b3) = mkI (bcI (nI (N4 b0 b1 b2 b3))) ∧ mpre (hiF (t.I 149) (i + 4) 0) 0 (bcI (nI (N4 b0 b1 b2 b3))) := by
    rw [eK0, eX, L_toI, eN]
    exact ⟨fun z => z.2, fun z => ⟨⟨c0, c1⟩, z⟩⟩
  have mm : ∀ v, mfr [12, 13, 14, 15] t (moSS (moSZ (moSZ (moSS t 12 (nI 0)) 14 0) 13 (hiF (t.I 149) (i + 4) 0)) 15 v) := fun v => (m0.tr (mfr.sz (by decide))).tr (mfr.ss (by decide))
  by_cases c2 : nI (N4 b0 b1 b2 b3) = mkI (bcI (nI (N4 b0 b1 b2 b3)))
  rotate_left
  · rw [if_neg c2] at e0
    exact ⟨fun z => absurd (eK.mp z).1 c2, fun _ => ⟨_, e0, mm _⟩⟩
  rw [if_pos c2] at e0
  have eZ : (moSS (moSZ (moSZ (moSS t 12 (nI 0)) 14 0) 13 (hiF (t.I 149) (i + 4) 0)) 15 32).Z 13 = hiF (t.I 149) (i + 4) 0 := moSZ_s
  rw [eZ] at e0
  by_cases c3 : M_isPrefix (hiF (t.I 149) (i + 4) 0) 0 (bcI (nI (N4 b0 b1 b2 b3))) = 0
  · rw [if_pos c3] at e0
    exact ⟨fun z => absurd (eK.mp z).2 ((M_isPx _ _ _).mp c3), fun _ => ⟨_, e0, mm _⟩⟩
  · rw [if_neg c3] at e0
    refine ⟨fun _ => ⟨_, e0, mm _, ?_, ?_, ?_, ?_⟩, fun z => absurd (eK.mpr ⟨c2, Classical.byContradiction fun y => c3 ((M_isPx _ _ _).mpr y)⟩) z⟩
    · rw [moSS_n (by decide)]
      exact (moSS_s : (moSS t 12 (nI 0)).S 12 = nI 0)
    · rw [eH]
      exact moSZ_s
    · rw [eL]
      show (moSZ (moSZ (moSS t 12 (nI 0)) 14 0) 13 _).Z 14 = _
      rw [moSZ_n (by decide), moSZ_s]
    · rw [moSS_s, eN]
theorem m_entry6 (hN : t.N 149 = 700) (hi : i + 20 ≤ 700) : (peK (t.I 149) 1 i → ∃ t', M_isEntry t (nI 1) (nI i) = some (1, t') ∧ mfr [12, 13, 14, 15] t t' ∧ t'.S 12 = nI 1 ∧ t'.Z 13 = peH (t.I 149) 1 i ∧ t'.Z 14 = peL (t.I 149) 1 i ∧ t'.S 15 = peN (t.I 149) 1 i) ∧ (¬ peK (t.I 149) 1 i → ∃ t', M_isEntry t (nI 1) (nI i) = some (0, t') ∧ mfr [12, 13, 14, 15] t t') := by
  have q1 : peH (t.I 149) 1 i = hiF (t.I 149) i 1 := by unfold peH; rw [if_neg (by decide)]
  have q2 : peL (t.I 149) 1 i = loF (t.I 149) i 1 := by unfold peL; rw [if_neg (by decide)]
  have q3 : peN (t.I 149) 1 i = t.I 149 (i + 18) := by unfold peN; rw [if_neg (by decide)]
  have m0 : mfr [12, 13, 14, 15] t (moSZ (moSS t 12 (nI 1)) 14 0) := (mfr.ss (by decide)).tr (mfr.sz (by decide))
  have hH : M_highOf (moSZ (moSS t 12 (nI 1)) 14 0) 149 (nI i) 1 = some (hiF (t.I 149) i 1) := m_high (t := moSZ (moSS t 12 (nI 1)) 14 0) (k := 149) (a := i) (f := 1) (N := 700) hN (by omega) (by decide) (Or.inr rfl)
  have hL : M_lowOf (moSZ (moSZ (moSS t 12 (nI 1)) 14 0) 13 (hiF (t.I 149) i 1)) 149 (nI i) 1 = some (loF (t.I 149) i 1) := m_low (t := moSZ (moSZ (moSS t 12 (nI 1)) 14 0) 13 (hiF (t.I 149) i 1)) (k := 149) (a := i) (f := 1) (N := 700) hN (by omega) (by decide) (Or.inr rfl)
  have hR : rdI (moSZ (moSZ (moSZ (moSS t 12 (nI 1)) 14 0) 13 (hiF (t.I 149) i 1)) 14 (loF (t.I 149) i 1)) 149 (nI i + 18) = some (t.I 149 (i + 18)) := by
    rw [show nI i + 18 = nI (i + 18) from nI_add i 18]
    exact rdI_n (t := moSZ (moSZ (moSZ (moSS t 12 (nI 1)) 14 0) 13 (hiF (t.I 149) i 1)) 14 (loF (t.I 149) i 1)) (n := 700) hN (by omega) (by decide)
  have e0 : M_isEntry t (nI 1) (nI i) = Option.bind (M_highOf (moSZ (moSS t 12 (nI 1)) 14 0) 149 (nI i) 1) (fun x9 => Option.bind (M_lowOf (moSZ (moSZ (moSS t 12 (nI 1)) 14 0) 13 x9) 149 (nI i) 1) (fun x11 => Option.bind (rdI (moSZ (moSZ (moSZ (moSS t 12 (nI 1)) 14 0) 13 x9) 14 x11) 149 (nI i + 18)) (fun x13 => if (128 : Int32) < (moSS (moSZ (moSZ (moSZ (moSS t 12 (nI 1)) 14 0) 13 x9) 14 x11) 15 x13).S 15 then some (0, moSS (moSZ (moSZ (moSZ (moSS t 12 (nI 1)) 14 0) 13 x9) 14 x11) 15 x13) else if M_isPrefix ((moSS (moSZ (moSZ (moSZ (moSS t 12 (nI 1)) 14 0) 13 x9) 14 x11) 15 x13).Z 13) ((moSS (moSZ (moSZ (moSZ (moSS t 12 (nI 1)) 14 0) 13 x9) 14 x11) 15 x13).Z 14) ((moSS (moSZ (moSZ (moSZ (moSS t 12 (nI 1)) 14 0) 13 x9) 14 x11) 15 x13).S 15) = 0 then some (0, moSS (moSZ (moSZ (moSZ (moSS t 12 (nI 1)) 14 0) 13 x9) 14 x11) 15 x13) else some (1, moSS (moSZ (moSZ (moSZ (moSS t 12 (nI 1)) 14 0) 13 x9) 14 x11) 15 x13)))) := by
    unfold M_isEntry letS M_isEntry_b86
    dsimp only
    rw [if_pos (show nI 1 = (1 : Int32) by decide)]
  rw [hH] at e0
  simp only [Option.bind_some] at e0
  rw [hL] at e0
  simp only [Option.bind_some] at e0
  rw [hR] at e0
  simp only [Option.bind_some] at e0
  have mm : mfr [12, 13, 14, 15] t (moSS (moSZ (moSZ (moSZ (moSS t 12 (nI 1)) 14 0) 13 (hiF (t.I 149) i 1)) 14 (loF (t.I 149) i 1)) 15 (t.I 149 (i + 18))) := ((m0.tr (mfr.sz (by decide))).tr (mfr.sz (by decide))).tr (mfr.ss (by decide))
  have z12 : (moSS (moSZ (moSZ (moSZ (moSS t 12 (nI 1)) 14 0) 13 (hiF (t.I 149) i 1)) 14 (loF (t.I 149) i 1)) 15 (t.I 149 (i + 18))).S 12 = nI 1 := by
    rw [moSS_n (by decide)]
    exact (moSS_s : (moSS t 12 (nI 1)).S 12 = nI 1)
  have z13 : (moSS (moSZ (moSZ (moSZ (moSS t 12 (nI 1)) 14 0) 13 (hiF (t.I 149) i 1)) 14 (loF (t.I 149) i 1)) 15 (t.I 149 (i + 18))).Z 13 = hiF (t.I 149) i 1 := by
    show (moSZ (moSZ (moSZ (moSS t 12 (nI 1)) 14 0) 13 (hiF (t.I 149) i 1)) 14 (loF (t.I 149) i 1)).Z 13 = _
    rw [moSZ_n (by decide), moSZ_s]
  have z14 : (moSS (moSZ (moSZ (moSZ (moSS t 12 (nI 1)) 14 0) 13 (hiF (t.I 149) i 1)) 14 (loF (t.I 149) i 1)) 15 (t.I 149 (i + 18))).Z 14 = loF (t.I 149) i 1 := moSZ_s
  have z15 : (moSS (moSZ (moSZ (moSZ (moSS t 12 (nI 1)) 14 0) 13 (hiF (t.I 149) i 1)) 14 (loF (t.I 149) i 1)) 15 (t.I 149 (i + 18))).S 15 = t.I 149 (i + 18) := moSS_s
  rw [z13, z14, z15] at e0
  generalize moSS (moSZ (moSZ (moSZ (moSS t 12 (nI 1)) 14 0) 13 (hiF (t.I 149) i 1)) 14 (loF (t.I 149) i 1)) 15 (t.I 149 (i + 18)) = u at e0 mm z12 z13 z14 z15
  have eK : peK (t.I 149) 1 i ↔ ¬ (128 : Int32) < t.I 149 (i + 18) ∧ mpre (hiF (t.I 149) i 1) (loF (t.I 149) i 1) (t.I 149 (i + 18)) := by
    unfold peK peH peL
    rw [if_neg (by decide), if_neg (by decide), if_neg (by decide)]
  by_cases c1 : (128 : Int32) < t.I 149 (i + 18)
  · rw [if_pos c1] at e0
    exact ⟨fun z => absurd c1 (eK.mp z).1, fun _ => ⟨_, e0, mm⟩⟩
  rw [if_neg c1] at e0
  by_cases c3 : M_isPrefix (hiF (t.I 149) i 1) (loF (t.I 149) i 1) (t.I 149 (i + 18)) = 0
  · rw [if_pos c3] at e0
    exact ⟨fun z => absurd (eK.mp z).2 ((M_isPx _ _ _).mp c3), fun _ => ⟨_, e0, mm⟩⟩
  · rw [if_neg c3] at e0
    exact ⟨fun _ => ⟨_, e0, mm, z12, z13.trans q1.symm, z14.trans q2.symm, z15.trans q3.symm⟩, fun z => absurd (eK.mpr ⟨c1, Classical.byContradiction fun y => c3 ((M_isPx _ _ _).mpr y)⟩) z⟩
theorem m_entry (hN : t.N 149 = 700) (hi : i + 20 ≤ 700) (hb : ∀ j, i ≤ j → j < i + 20 → isB (t.I 149 j)) (hf : f = 0 ∨ f = 1) : (peK (t.I 149) f i → ∃ t', M_isEntry t (nI f) (nI i) = some (1, t') ∧ mfr [12, 13, 14, 15] t t' ∧ t'.S 12 = nI f ∧ t'.Z 13 = peH (t.I 149) f i ∧ t'.Z 14 = peL (t.I 149) f i ∧ t'.S 15 = peN (t.I 149) f i) ∧ (¬ peK (t.I 149) f i → ∃ t', M_isEntry t (nI f) (nI i) = some (0, t') ∧ mfr [12, 13, 14, 15] t t') := by
  rcases hf with rfl | rfl
  · exact m_entry4 hN hi hb
  · exact m_entry6 hN hi
end En2
