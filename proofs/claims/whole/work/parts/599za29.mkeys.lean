/-! Whether the keys of a datagram are right: the model. -/
section Mk
variable {t : moS} {L : List Int32} {V : chV} {q : Nat} {h : Int64}
theorem m_b4 {a v0 v1 v2 v3 : Nat} (hN : t.N 149 = 700) (hI : IN t L) (hB : ∀ j, L.getD j 0 = nI (vc L j)) (ha : a + 4 ≤ 700) (h0 : v0 < 256) (h1 : v1 < 256) (h2 : v2 < 256) (h3 : v3 < 256) : (is4 L a v0 v1 v2 v3 → M_bytesAre t (nI a) (nI v0) (nI v1) (nI v2) (nI v3) = some 1) ∧ (¬ is4 L a v0 v1 v2 v3 → M_bytesAre t (nI a) (nI v0) (nI v1) (nI v2) (nI v3) = some 0) := by
  have rd : ∀ j, j < 700 → rdI t 149 (nI j) = some (nI (vc L j)) := fun j hj => by rw [rdI_n hN hj (by decide), hI.2 j hj, hB]
  have iq : ∀ {j v : Nat}, v < 256 → (nI (vc L j) = nI v ↔ vc L j = v) := fun {j v} hv => ⟨fun e => nI_inj e (by have := vc_b L j; omega) (by omega), fun e => by rw [e]⟩
  unfold M_bytesAre M_bytesAre_b52
  rw [show nI a + 1 = nI (a + 1) from nI_1 a, show nI a + 2 = nI (a + 2) from nI_add a 2, show nI a + 3 = nI (a + 3) from nI_add a 3, rd a (by omega), rd (a + 1) (by omega), rd (a + 2) (by omega), rd (a + 3) (by omega)]
  simp only [Option.bind_some, iq h0, iq h1, iq h2, iq h3]
  unfold is4
  constructor
  · rintro ⟨e0, e1, e2, e3⟩
    rw [if_pos e0, if_pos e1, if_pos e2, if_pos e3]
  · intro no
    by_cases e0 : vc L a = v0
    · rw [if_pos e0]
      by_cases e1 : vc L (a + 1) = v1
      · rw [if_pos e1]
        by_cases e2 : vc L (a + 2) = v2
        · rw [if_pos e2, if_neg (fun e3 => no ⟨e0, e1, e2, e3⟩)]
        · rw [if_neg e2]
      · rw [if_neg e1]
    · rw [if_neg e0]
/-- the state behind the first words -/
def kaT (t : moS) (n : Nat) : moS := moSS (moSS t 162 4) 163 (nI ((n - 4) / 20))
def kbT (t : moS) (n : Nat) : moS := moSS (moSS (kaT t n) 162 24) 163 (nI ((n - 4) / 20 - 1))
theorem ka_fr {n : Nat} : mfr [162, 163] t (kaT t n) := (mfr.ss (by decide)).tr (mfr.ss (by decide))
theorem kb_fr {n : Nat} : mfr [162, 163] t (kbT t n) := ka_fr.tr ((mfr.ss (by decide)).tr (mfr.ss (by decide)))
theorem m_keyH (hI : IN t L) (h24 : 24 ≤ L.length) (hl : L.length ≤ 600) (hN : mN t) (hq : q < 24) (hm : MC t q V) (hV : V.1 ≤ 2) : (V.1 = 0 → M_keysAreGood t (nI q) h = Option.bind (rdI (kaT t L.length) 149 4) (fun x15 => if x15 = 255 then Option.bind (rdI (kaT t L.length) 149 5) (fun x16 => if x16 = 255 then some (0, kaT t L.length) else some (1, kaT t L.length)) else some (1, kaT t L.length))) ∧ (V.1 = 1 → M_keysAreGood t (nI q) h = Option.bind (M_bytesAre (kbT t L.length) 4 255 255 0 2) (fun x14 => M_keysAreGood_b101 (kbT t L.length) (nI q) x14 0)) ∧ (V.1 = 2 → M_keysAreGood t (nI q) h = Option.bind (rdI (kbT t L.length) 149 10) (fun x7 => Option.bind (M_keyPlace (kbT t L.length) (nI q) x7) (fun x8 => Option.bind (rdI (kbT t L.length) 82 (nI q)) (fun x9 => if x8 = x9 then some (0, kbT t L.length) else Option.bind (M_isGood (kbT t L.length) (4 * nI q + x8)) (fun x10 => if x10 = 0 then some (0, kbT t L.length) else Option.bind (rdI (kbT t L.length) 149 8) (fun x11 => Option.bind (rdI (kbT t L.length) 149 9) (fun x12 => Option.bind (rdI (kbT t L.length) 84 (4 * nI q + x8)) (fun x13 => if x13 = 0 then M_keysAreGood_b254 (kbT t L.length) (nI q) h (4 * nI q + x8) ((x11 <<< ((8 : Int32) &&& 31)) ||| x12) 16 else M_keysAreGood_b254 (kbT t L.length) (nI q) h (4 * nI q + x8) ((x11 <<< ((8 : Int32) &&& 31)) ||| x12) 20)))))))) := by
  have e1 : ((moSS t 162 4).S 150 - 4) / 20 = nI ((L.length - 4) / 20) := by
    rw [show (moSS t 162 4).S 150 = nI L.length from (moSS_n (by decide)).trans hI.1]
    exact wf_d (by omega) (by omega)
  have r79 : ∀ {u : moS}, mfr [162, 163] t u → rdI u 79 (nI q) = some (nI V.1) := fun {u} m => by
    rw [rdI_n (show u.N 79 = 24 by rw [m.2 79 (Or.inl (by decide))]; exact hN.n 79 24) hq (by decide), m.I 79 (by decide), hm.1]
  have e2 : M_keysAreGood t (nI q) h = Option.bind (rdI (kaT t L.length) 79 (nI q)) (fun x3 => if x3 = 0 then Option.bind (rdI (kaT t L.length) 149 4) (fun x15 => if x15 = 255 then Option.bind (rdI (kaT t L.length) 149 5) (fun x16 => if x16 = 255 then some (0, kaT t L.length) else some (1, kaT t L.length)) else some (1, kaT t L.length)) else Option.bind (rdI (kbT t L.length) 79 (nI q)) (fun x6 => if x6 = 1 then Option.bind (M_bytesAre (kbT t L.length) 4 255 255 0 2) (fun x14 => M_keysAreGood_b101 (kbT t L.length) (nI q) x14 0) else Option.bind (rdI (kbT t L.length) 149 10) (fun x7 => Option.bind (M_keyPlace (kbT t L.length) (nI q) x7) (fun x8 => Option.bind (rdI (kbT t L.length) 82 (nI q)) (fun x9 => if x8 = x9 then some (0, kbT t L.length) else Option.bind (M_isGood (kbT t L.length) (4 * nI q + x8)) (fun x10 => if x10 = 0 then some (0, kbT t L.length) else Option.bind (rdI (kbT t L.length) 149 8) (fun x11 => Option.bind (rdI (kbT t L.length) 149 9) (fun x12 => Option.bind (rdI (kbT t L.length) 84 (4 * nI q + x8)) (fun x13 => if x13 = 0 then M_keysAreGood_b254 (kbT t L.length) (nI q) h (4 * nI q + x8) ((x11 <<< ((8 : Int32) &&& 31)) ||| x12) 16 else M_keysAreGood_b254 (kbT t L.length) (nI q) h (4 * nI q + x8) ((x11 <<< ((8 : Int32) &&& 31)) ||| x12) 20))))))))) := by
    have e3 : moSS (moSS (kaT t L.length) 162 24) 163 ((moSS (kaT t L.length) 162 24).S 163 - 1) = kbT t L.length := by
      unfold kbT
      rw [show (moSS (kaT t L.length) 162 24).S 163 = nI ((L.length - 4) / 20) from (moSS_n (by decide)).trans moSS_s, show nI ((L.length - 4) / 20) - 1 = nI ((L.length - 4) / 20 - 1) from pk_sub (b := 1) (by omega)]
    rw [← e3]
    unfold M_keysAreGood M_keysAreGood_b51 letS kaT
    dsimp only
    rw [e1]
  rw [e2, r79 ka_fr, r79 kb_fr]
  simp only [Option.bind_some]
  refine ⟨fun z => ?_, fun z => ?_, fun z => ?_⟩
  · rw [z, if_pos (show nI 0 = 0 from rfl)]
  · rw [z, if_neg (show ¬ nI 1 = 0 by decide), if_pos (show nI 1 = 1 from rfl)]
  · rw [z, if_neg (show ¬ nI 2 = 0 by decide), if_neg (show ¬ nI 2 = 1 by decide)]
end Mk
