/-! Whether the keys of a datagram are right: the model, a chain, from its beginning. -/
section Md
variable {t u : moS} {L : List Int32} {V : chV} {q i : Nat} {h : Int64} {v : kV}
theorem m_kMid (hI : IN u L) (hB : ∀ j, L.getD j 0 = nI (vc L j)) (hl : L.length ≤ 600) (hN : mN u) (hq : q < 24) (hi : i < 4) (hvv : kOkV v) (e84 : u.I 84 (4 * q + i) = v.2.1) (e85 : u.I 85 (4 * q + i) = nI v.2.2.1.length) (e86 : ∀ j, j < v.2.2.1.length → u.I 86 (16 * (4 * q + i) + j) = v.2.2.1.getD j 0) : (∀ z, kgB L v z → ∃ u', mfr Wky u u' ∧ u'.S 162 = u.S 162 ∧ u'.S 163 = nI ((z - 24) / 20) ∧ ∀ w t7, M_isNotOlder u' (nI q) h (Int64.ofNat (N4 (vc L 12) (vc L 13) (vc L 14) (vc L 15))) = some (w, t7) → (w = 0 ∨ w = 1) → M_keysAreGood_b273 u (nI q) h (nI (4 * q + i)) (nI (vc L 8 * 256 + vc L 9)) (nI (szN v.2.1)) (nI (enN v.2.1)) = some (w, t7)) ∧ ((∀ z, ¬ kgB L v z) → ∃ u', mfr Wky u u' ∧ M_keysAreGood_b273 u (nI q) h (nI (4 * q + i)) (nI (vc L 8 * 256 + vc L 9)) (nI (szN v.2.1)) (nI (enN v.2.1)) = some (0, u')) := by
  obtain ⟨y1, y2⟩ := enN_b v.2.1
  obtain ⟨sz1, sz2, sz3⟩ := sz_n v.2.1
  have hN' := hN.n 149 700
  have b8 := vc_b L 8
  have b9 := vc_b L 9
  have b4 := m_b4 (t := u) (a := 4) (v0 := 255) (v1 := 255) (v2 := 0) (v3 := 3) hN' hI hB (by decide) (by decide) (by decide) (by decide) (by decide)
  have eg : ∀ a c, c ≤ 700 → (zrF (u.I 149) a c ↔ zrF (fun j => L.getD j 0) a c) := fun a c hc => ⟨fun y j h1 h2 => by show L.getD j 0 = 0; rw [← hI.2 j (by omega)]; exact y j h1 h2, fun y j h1 h2 => by rw [hI.2 j (by omega)]; exact y j h1 h2⟩
  have no : ∀ {o : Option (Int32 × moS)}, o = some (0, u) → (∀ z, ¬ kgB L v z) → (∀ z, kgB L v z → ∃ u', mfr Wky u u' ∧ u'.S 162 = u.S 162 ∧ u'.S 163 = nI ((z - 24) / 20) ∧ ∀ w t7, M_isNotOlder u' (nI q) h (Int64.ofNat (N4 (vc L 12) (vc L 13) (vc L 14) (vc L 15))) = some (w, t7) → (w = 0 ∨ w = 1) → o = some (w, t7)) ∧ ((∀ z, ¬ kgB L v z) → ∃ u', mfr Wky u u' ∧ o = some (0, u')) := fun {o} e n => ⟨fun z hz => absurd hz (n z), fun _ => ⟨u, mfr.rf, e⟩⟩
  unfold M_keysAreGood_b273
  by_cases c1 : is4 L 4 255 255 0 3
  rotate_left
  · rw [show M_bytesAre u 4 255 255 0 3 = some 0 from b4.2 c1]
    exact no (by simp only [Option.bind_some]; first | exact if_pos rfl | exact if_pos trivial) (fun z hz => c1 hz.1.1)
  rw [show M_bytesAre u 4 255 255 0 3 = some 1 from b4.1 c1, show (11 : Int32) = nI 11 from rfl, hI.rd hN' hB (by decide)]
  simp only [Option.bind_some]
  rw [if_neg (show ¬ (1 : Int32) = 0 by decide)]
  by_cases c2 : nI (vc L 11) = nI (szN v.2.1)
  rotate_left
  · rw [if_neg c2]
    exact no rfl (fun z hz => c2 (by rw [← sz1]; exact hz.1.2.1))
  rw [if_pos c2]
  have z16 := m_zer (t := u) (a := 16) (c := 24) hN' (by decide) (by decide)
  by_cases c3 : zrF (fun j => L.getD j 0) 16 24
  rotate_left
  · rw [show M_areZeros u 16 24 = some 0 from z16.2 (fun y => c3 ((eg _ _ (by decide)).mp y))]
    exact no (by simp only [Option.bind_some]; first | exact if_pos rfl | exact if_pos trivial) (fun z hz => c3 hz.2.1.1)
  rw [show M_areZeros u 16 24 = some 1 from z16.1 ((eg _ _ (by decide)).mpr c3)]
  simp only [Option.bind_some]
  rw [if_neg (show ¬ (1 : Int32) = 0 by decide)]
  generalize hZ : vc L 8 * 256 + vc L 9 = Z
  by_cases c4 : Z < 24
  · rw [if_pos (show nI Z < 24 from nI_lt (b := 24) c4 (by decide))]
    exact no rfl (fun z hz => by have := hz.1.2.2.2.1; have := hz.1.2.2.2.2; omega)
  rw [if_neg (show ¬ nI Z < 24 from nI_nlt (b := 24) (by omega) (by omega)), hI.1, nI_add]
  by_cases c5 : L.length = Z + enN v.2.1
  rotate_left
  · rw [if_neg (fun y => c5 (nI_inj y (by omega) (by omega)))]
    exact no rfl (fun z hz => by have := hz.1.2.2.1; have := hz.1.2.2.2.2; omega)
  rw [if_pos (by rw [c5])]
  have eqz : ∀ z, kgB L v z → z = Z := fun z hz => by rw [← hZ]; exact hz.1.2.2.2.2.symm
  have bZ := m_b4 (t := u) (a := Z) (v0 := 255) (v1 := 255) (v2 := 0) (v3 := 1) hN' hI hB (by omega) (by decide) (by decide) (by decide) (by decide)
  by_cases c6 : is4 L Z 255 255 0 1
  rotate_left
  · rw [show M_bytesAre u (nI Z) 255 255 0 1 = some 0 from bZ.2 c6]
    exact no (by simp only [Option.bind_some]; first | exact if_pos rfl | exact if_pos trivial) (fun z hz => c6 (by rw [← eqz z hz]; exact hz.2.1.2.1))
  rw [show M_bytesAre u (nI Z) 255 255 0 1 = some 1 from bZ.1 c6, rdI_n (hN.n 84 96) (show 4 * q + i < 96 by omega) (by decide), e84]
  simp only [Option.bind_some]
  rw [if_neg (show ¬ (1 : Int32) = 0 by decide)]
  obtain ⟨k1, k2⟩ := m_kEnd (h := h) hI hB hl hN hq hi hvv e84 e85 e86 c5.symm (by omega)
  have fin : zrF (fun j => L.getD j 0) (Z + 4 + szN v.2.1) L.length → (∀ z, kgB L v z → ∃ u', mfr Wky u u' ∧ u'.S 162 = u.S 162 ∧ u'.S 163 = nI ((z - 24) / 20) ∧ ∀ w t7, M_isNotOlder u' (nI q) h (Int64.ofNat (N4 (vc L 12) (vc L 13) (vc L 14) (vc L 15))) = some (w, t7) → (w = 0 ∨ w = 1) → M_keysAreGood_b381 u (nI q) h (nI (4 * q + i)) (nI Z) (nI (szN v.2.1)) = some (w, t7)) ∧ ((∀ z, ¬ kgB L v z) → ∃ u', mfr Wky u u' ∧ M_keysAreGood_b381 u (nI q) h (nI (4 * q + i)) (nI Z) (nI (szN v.2.1)) = some (0, u')) := fun c7 => by
    refine ⟨fun z hz => ?_, fun n => k2 fun y => n Z ⟨⟨c1, by rw [sz1]; exact c2, c5.symm, by omega, hZ⟩, ⟨c3, c6, c7⟩, y⟩⟩
    have ez := eqz z hz
    subst ez
    exact k1 hz.2.2
  by_cases cs : v.2.1 = 0
  · rw [if_pos cs]
    refine fin fun j h1 h2 => ?_
    have e1 : szN v.2.1 = 16 := by unfold szN; rw [if_pos cs]
    have e2 : enN v.2.1 = 20 := by unfold enN; rw [if_pos cs]
    omega
  · rw [if_neg cs]
    have e1 : szN v.2.1 = 20 := by unfold szN; rw [if_neg cs]
    have e2 : enN v.2.1 = 40 := by unfold enN; rw [if_neg cs]
    have zz := m_zer (t := u) (a := Z + 24) (c := Z + 40) hN' (by omega) (by omega)
    rw [show nI Z + 24 = nI (Z + 24) from nI_add Z 24, show nI Z + 40 = nI (Z + 40) from nI_add Z 40]
    have hc7 : zrF (fun j => L.getD j 0) (Z + 4 + szN v.2.1) L.length ↔ zrF (u.I 149) (Z + 24) (Z + 40) := by
      rw [eg _ _ (by omega), e1, c5, e2]
    by_cases c7 : zrF (u.I 149) (Z + 24) (Z + 40)
    · rw [zz.1 c7]
      simp only [Option.bind_some]
      rw [if_neg (show ¬ (1 : Int32) = 0 by decide)]
      exact fin (hc7.mpr c7)
    · rw [zz.2 c7]
      exact no (by simp only [Option.bind_some]; first | exact if_pos rfl | exact if_pos trivial) (fun z hz => c7 (hc7.mp (by rw [← eqz z hz]; exact hz.2.1.2.2)))
theorem m_keys2 (hI : IN t L) (hB : ∀ j, L.getD j 0 = nI (vc L j)) (h24 : 24 ≤ L.length) (hl : L.length ≤ 600) (hN : mN t) (hq : q < 24) (hm : MC t q V) (hVV : VV V) (hV : V.1 = 2) : (∀ i v z, kgK V (t.S 1) L i v → kgB L v z → ∃ u', mfr Wky t u' ∧ u'.S 162 = 24 ∧ u'.S 163 = nI ((z - 24) / 20) ∧ ∀ w t7, M_isNotOlder u' (nI q) h (Int64.ofNat (N4 (vc L 12) (vc L 13) (vc L 14) (vc L 15))) = some (w, t7) → (w = 0 ∨ w = 1) → M_keysAreGood t (nI q) h = some (w, t7)) ∧ ((¬ ∃ i v z, kgK V (t.S 1) L i v ∧ kgB L v z) → ∃ u', mfr Wky t u' ∧ M_keysAreGood t (nI q) h = some (0, u')) := by
  rw [(m_keyH (h := h) hI h24 hl hN hq hm (by omega)).2.2 hV]
  have m := kb_fr (t := t) (n := L.length)
  have hI' : IN (kbT t L.length) L := hI.fr m rfl
  have hNN : mN (kbT t L.length) := hN.fr m rfl
  have hm' : MC (kbT t L.length) q V := mc_fr hm m rfl
  have s162 : (kbT t L.length).S 162 = 24 := (moSS_n (by decide)).trans moSS_s
  have s1 : (kbT t L.length).S 1 = t.S 1 := m.S 1 (by decide)
  rw [← s1]
  have mu : ∀ {u'}, mfr Wky (kbT t L.length) u' → mfr Wky t u' := fun z => (m.wk (by decide)).tr z
  generalize kbT t L.length = u at *
  have h4 := hVV.2.1
  obtain ⟨-, e82, ek, -⟩ := hm'
  have b8 := vc_b L 8
  have b9 := vc_b L 9
  have kp : M_keyPlace u (nI q) (nI (vc L 10)) = some (nI (kIx (nI (vc L 10)) V.2.2)) := m_keyPlace hNN hq h4 e82 fun k v hv => (ek k v hv).1
  have eq8 : (nI (vc L 8) <<< ((8 : Int32) &&& 31)) ||| nI (vc L 9) = nI (vc L 8 * 256 + vc L 9) := by
    have f : ∀ n, (nI n).toBitVec.toNat = n % 2 ^ 32 := fun n => BitVec.toNat_ofNat n 32
    rw [show (8 : Int32) = nI 8 from rfl, nI_sh 8 (by decide) (by omega)]
    refine Int32.toBitVec_inj.mp (BitVec.eq_of_toNat_eq ?_)
    rw [Int32.toBitVec_or, BitVec.toNat_or, f, f, f, Nat.mod_eq_of_lt (by omega), Nat.mod_eq_of_lt (by omega), Nat.mod_eq_of_lt (by omega), ← Nat.shiftLeft_eq, ← Nat.shiftLeft_add_eq_or_of_lt (show vc L 9 < 2 ^ 8 by omega)]
  rw [show (10 : Int32) = nI 10 from rfl, show (8 : Int32) = nI 8 from rfl, show (9 : Int32) = nI 9 from rfl, hI'.rd (hNN.n 149 700) hB (by decide), hI'.rd (hNN.n 149 700) hB (by decide), hI'.rd (hNN.n 149 700) hB (by decide), rdI_n (hNN.n 82 24) hq (by decide), e82]
  simp only [Option.bind_some]
  rw [kp]
  simp only [Option.bind_some]
  have kle := kIx_le (nI (vc L 10)) V.2.2
  have ixE : ∀ i v, kgK V (u.S 1) L i v → i = kIx (nI (vc L 10)) V.2.2 ∧ i < V.2.2.length := fun i v hk => by
    have hi : i < V.2.2.length := by
      rcases Nat.lt_or_ge i V.2.2.length with z | z
      · exact z
      · have := hk.1
        rw [List.getElem?_eq_none z] at this
        cases this
    refine ⟨?_, hi⟩
    rcases Nat.lt_trichotomy i (kIx (nI (vc L 10)) V.2.2) with z | z | z
    · exact absurd hk.2.1 (kIx_e _ _ i v hk.1 z)
    · exact z
    · have h1 := gk_D (show kIx (nI (vc L 10)) V.2.2 < V.2.2.length by omega)
      have h2 := kIx_a _ _ _ h1
      exact absurd (h2.trans hk.2.1.symm) (hVV.2.2.2.2.2 i _ v _ hk.1 h1 (by omega))
  by_cases c1 : kIx (nI (vc L 10)) V.2.2 = V.2.2.length
  · rw [if_pos (by rw [c1])]
    exact ⟨fun i v z hk _ => by have := ixE i v hk; omega, fun _ => ⟨u, mu mfr.rf, rfl⟩⟩
  rw [if_neg (fun y => c1 (nI_inj y (by omega) (by omega)))]
  generalize hix : kIx (nI (vc L 10)) V.2.2 = ix at *
  have hil : ix < V.2.2.length := by omega
  have hv := gk_D hil
  generalize V.2.2.getD ix k0V = v at hv
  have e10 : v.1 = nI (vc L 10) := by
    have := hv
    rw [← hix] at this
    exact kIx_a _ _ _ this
  obtain ⟨-, w84, w85, w86, w87, w88⟩ := ek ix v hv
  have e4 : (4 : Int32) * nI q + nI ix = nI (4 * q + ix) := by rw [show (4 : Int32) = nI 4 from rfl, pk_mul, nI_add]
  rw [e4]
  have eg : M_isGood u (nI (4 * q + ix)) = some (if kGood (u.S 1) v then 1 else 0) := by
    unfold M_isGood M_isGood_b30
    rw [rdI_n (hNN.n 87 96) (by omega) (by decide), rdI_n (hNN.n 88 96) (by omega) (by decide), w87, w88]
    simp only [Option.bind_some]
    unfold kGood
    by_cases g1 : u.S 1 < v.2.2.2.1
    · rw [if_pos g1, if_neg (fun y => y.1 g1)]
    · rw [if_neg g1]
      by_cases g2 : v.2.2.2.2 < u.S 1
      · rw [if_pos g2, if_neg (fun y => y.2 g2)]
      · rw [if_neg g2, if_pos ⟨g1, g2⟩]
  rw [eg]
  simp only [Option.bind_some]
  by_cases c2 : kGood (u.S 1) v
  rotate_left
  · rw [if_neg c2, if_pos rfl]
    refine ⟨fun i v' z hk _ => ?_, fun _ => ⟨u, mu mfr.rf, rfl⟩⟩
    have := (ixE i v' hk).1
    subst this
    have := Option.some.inj (hk.1.symm.trans hv)
    subst this
    exact absurd hk.2.2 c2
  rw [if_pos c2, if_neg (show ¬ (1 : Int32) = 0 by decide), rdI_n (hNN.n 84 96) (by omega) (by decide), w84]
  simp only [Option.bind_some]
  have eS : (if v.2.1 = 0 then M_keysAreGood_b254 u (nI q) h (nI (4 * q + ix)) ((nI (vc L 8) <<< ((8 : Int32) &&& 31)) ||| nI (vc L 9)) 16 else M_keysAreGood_b254 u (nI q) h (nI (4 * q + ix)) ((nI (vc L 8) <<< ((8 : Int32) &&& 31)) ||| nI (vc L 9)) 20) = M_keysAreGood_b273 u (nI q) h (nI (4 * q + ix)) (nI (vc L 8 * 256 + vc L 9)) (nI (szN v.2.1)) (nI (enN v.2.1)) := by
    rw [eq8]
    unfold M_keysAreGood_b254
    rw [rdI_n (hNN.n 84 96) (by omega) (by decide), w84]
    simp only [Option.bind_some]
    by_cases cs : v.2.1 = 0
    · rw [if_pos cs, if_pos cs]
      unfold szN enN
      rw [if_pos cs, if_pos cs]
      rfl
    · rw [if_neg cs, if_neg cs]
      unfold szN enN
      rw [if_neg cs, if_neg cs]
      rfl
  obtain ⟨r1, r2⟩ := m_kMid (h := h) hI' hB hl hNN hq (show ix < 4 by omega) (hVV.2.2.2.2.1 ix v hv) w84 w85 w86
  refine ⟨fun i v' z hk hz => ?_, fun n => ?_⟩
  · have := (ixE i v' hk).1
    subst this
    have := Option.some.inj (hk.1.symm.trans hv)
    subst this
    obtain ⟨u', a1, a2, a3, a4⟩ := r1 z hz
    exact ⟨u', mu a1, a2.trans s162, a3, fun w t7 e hw => eS.trans (a4 w t7 e hw)⟩
  · obtain ⟨u', a1, a2⟩ := r2 fun z hz => n ⟨ix, v, z, ⟨hv, e10, c2⟩, hz⟩
    exact ⟨u', mu a1, eS.trans a2⟩
end Md
