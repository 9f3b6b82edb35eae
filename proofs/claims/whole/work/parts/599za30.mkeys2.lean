/-! Whether the keys of a datagram are right: the model, kind by kind. -/
/-- a password's entry -/
def pwP (L y : List Int32) : Prop := is4 L 4 255 255 0 2 ∧ ∀ i, i < 16 → nI (vc L (8 + i)) = y.getD i 0
section Ml
variable {t : moS} {L : List Int32} {V : chV} {q : Nat} {h : Int64}
theorem IN.rd {j : Nat} (hN : t.N 149 = 700) (hI : IN t L) (hB : ∀ j, L.getD j 0 = nI (vc L j)) (hj : j < 700) : rdI t 149 (nI j) = some (nI (vc L j)) := by rw [rdI_n hN hj (by decide), hI.2 j hj, hB]
theorem m_keys0 (hI : IN t L) (hB : ∀ j, L.getD j 0 = nI (vc L j)) (h24 : 24 ≤ L.length) (hl : L.length ≤ 600) (hN : mN t) (hq : q < 24) (hm : MC t q V) (hV : V.1 = 0) : M_keysAreGood t (nI q) h = some (if vc L 4 = 255 ∧ vc L 5 = 255 then 0 else 1, kaT t L.length) := by
  rw [(m_keyH (h := h) hI h24 hl hN hq hm (by omega)).1 hV]
  have hI' : IN (kaT t L.length) L := hI.fr ka_fr rfl
  have hN' : (kaT t L.length).N 149 = 700 := (ka_fr.2 149 (Or.inr (by decide))).trans (hN.n 149 700)
  rw [show (4 : Int32) = nI 4 from rfl, show (5 : Int32) = nI 5 from rfl, hI'.rd hN' hB (by decide), hI'.rd hN' hB (by decide)]
  have iq : ∀ j, nI (vc L j) = 255 ↔ vc L j = 255 := fun j => ⟨fun e => nI_inj (b := 255) e (by have := vc_b L j; omega) (by decide), fun e => by rw [e]; rfl⟩
  simp only [Option.bind_some, iq]
  by_cases c : vc L 4 = 255
  · rw [if_pos c]
    by_cases d : vc L 5 = 255
    · rw [if_pos d, if_pos ⟨c, d⟩]
    · rw [if_neg d, if_neg (fun z => d z.2)]
  · rw [if_neg c, if_neg (fun z => c z.1)]
theorem m_keys1 (hI : IN t L) (hB : ∀ j, L.getD j 0 = nI (vc L j)) (h24 : 24 ≤ L.length) (hl : L.length ≤ 600) (hN : mN t) (hq : q < 24) (hm : MC t q V) (hV : V.1 = 1) (hs : V.2.1.length ≤ 16) : (pwP L V.2.1 → M_keysAreGood t (nI q) h = some (1, kbT t L.length)) ∧ (¬ pwP L V.2.1 → M_keysAreGood t (nI q) h = some (0, kbT t L.length)) := by
  rw [(m_keyH (h := h) hI h24 hl hN hq hm (by omega)).2.1 hV]
  have m := kb_fr (t := t) (n := L.length)
  have hI' : IN (kbT t L.length) L := hI.fr m rfl
  have hNN : mN (kbT t L.length) := hN.fr m rfl
  have hN' : (kbT t L.length).N 149 = 700 := hNN.n 149 700
  obtain ⟨h80, h81⟩ := hm.2.2.2 hV
  rw [← m.I 80 (by decide)] at h80
  rw [← m.I 81 (by decide)] at h81
  generalize kbT t L.length = u at *
  have st : ∀ (v : Int32) (j : Nat), (v = 0 ∨ v = 1) → j < 16 → M_keysAreGood_s101 u (nI q) v (nI j) = some (.inl ((if v = 1 ∧ nI (vc L (8 + j)) = V.2.1.getD j 0 then 1 else 0), nI (j + 1), u)) := fun v j hv hj => by
    unfold M_keysAreGood_s101 M_keysAreGood_b157 M_keysAreGood_b150 M_keysAreGood_b157 M_keysAreGood_b158
    rw [if_pos (show nI j < 16 from nI_lt (b := 16) hj (by decide)), nI_1]
    rcases hv with rfl | rfl
    · rw [if_pos rfl, if_neg (fun z => absurd z.1 (by decide))]
    · rw [if_neg (by decide), show (8 : Int32) + nI j = nI (8 + j) from nI_add 8 j, hI'.rd hN' hB (by omega), rdI_n (hNN.n 80 24) hq (by decide), h80]
      simp only [Option.bind_some]
      by_cases c : j < V.2.1.length
      · rw [if_pos (nI_lt c (by omega)), show (16 : Int32) * nI q + nI j = nI (16 * q + j) by rw [show (16 : Int32) = nI 16 from rfl, pk_mul, nI_add], rdI_n (hNN.n 81 384) (by omega) (by decide), h81 j c]
        simp only [Option.bind_some]
        by_cases d : nI (vc L (8 + j)) = V.2.1.getD j 0
        · rw [if_pos d, if_pos ⟨trivial, d⟩]
        · rw [if_neg d, if_neg (fun z => d z.2)]
      · have e0 : V.2.1.getD j 0 = 0 := by rw [List.getD_eq_getElem?_getD, List.getElem?_eq_none (by omega)]; rfl
        rw [if_neg (nI_nlt (by omega) (by omega)), e0]
        by_cases d : nI (vc L (8 + j)) = 0
        · rw [if_pos d, if_pos ⟨trivial, d⟩]
        · rw [if_neg d, if_neg (fun z => d z.2)]
  have loop : ∀ (m j : Nat) (v : Int32), j + m = 16 → (v = 0 ∨ v = 1) → ((v = 1 ∧ ∀ i, j ≤ i → i < 16 → nI (vc L (8 + i)) = V.2.1.getD i 0) → M_keysAreGood_b101 u (nI q) v (nI j) = some (1, u)) ∧ (¬ (v = 1 ∧ ∀ i, j ≤ i → i < 16 → nI (vc L (8 + i)) = V.2.1.getD i 0) → M_keysAreGood_b101 u (nI q) v (nI j) = some (0, u)) := by
    intro m
    induction m with
    | zero =>
      intro j v hj hv
      have hj : j = 16 := by omega
      subst hj
      have e : M_keysAreGood_b101 u (nI q) v (nI 16) = some (v, u) := by
        unfold M_keysAreGood_b101
        refine lp_x ?_
        show M_keysAreGood_s101 u (nI q) v (nI 16) = _
        unfold M_keysAreGood_s101
        rw [if_neg (show ¬ nI 16 < 16 by decide), okZ_b hv]
      rw [e]
      refine ⟨fun z => by rw [z.1], fun z => ?_⟩
      rcases hv with rfl | rfl
      · rfl
      · exact absurd ⟨rfl, fun i h1 h2 => absurd h2 (by omega)⟩ z
    | succ m ih =>
      intro j v hj hv
      have e : M_keysAreGood_b101 u (nI q) v (nI j) = M_keysAreGood_b101 u (nI q) (if v = 1 ∧ nI (vc L (8 + j)) = V.2.1.getD j 0 then 1 else 0) (nI (j + 1)) := by
        unfold M_keysAreGood_b101
        exact lp_l (st v j hv (by omega))
      rw [e]
      by_cases c : v = 1 ∧ nI (vc L (8 + j)) = V.2.1.getD j 0
      · rw [if_pos c]
        obtain ⟨i1, i2⟩ := ih (j + 1) 1 (by omega) (Or.inr rfl)
        refine ⟨fun z => i1 ⟨rfl, fun i h1 h2 => z.2 i (by omega) h2⟩, fun z => i2 fun y => z ⟨c.1, fun i h1 h2 => ?_⟩⟩
        by_cases w : i = j
        · rw [w]; exact c.2
        · exact y.2 i (by omega) h2
      · rw [if_neg c]
        obtain ⟨i1, i2⟩ := ih (j + 1) 0 (by omega) (Or.inl rfl)
        exact ⟨fun z => absurd ⟨z.1, z.2 j (Nat.le_refl _) (by omega)⟩ c, fun z => i2 fun y => absurd y.1 (by decide)⟩
  have b4 := m_b4 (t := u) (a := 4) (v0 := 255) (v1 := 255) (v2 := 0) (v3 := 2) hN' hI' hB (by decide) (by decide) (by decide) (by decide) (by decide)
  unfold pwP
  by_cases c : is4 L 4 255 255 0 2
  · rw [show M_bytesAre u 4 255 255 0 2 = some 1 from b4.1 c]
    simp only [Option.bind_some]
    obtain ⟨i1, i2⟩ := loop 16 0 1 rfl (Or.inr rfl)
    exact ⟨fun z => i1 ⟨rfl, fun i _ h2 => z.2 i h2⟩, fun z => i2 fun y => z ⟨c, fun i h2 => y.2 i (Nat.zero_le _) h2⟩⟩
  · rw [show M_bytesAre u 4 255 255 0 2 = some 0 from b4.2 c]
    simp only [Option.bind_some]
    obtain ⟨i1, i2⟩ := loop 16 0 0 rfl (Or.inl rfl)
    exact ⟨fun z => absurd z.1 c, fun _ => i2 fun y => absurd y.1 (by decide)⟩
end Ml
