/-! Keys of an interface, as a value. -/
abbrev kV : Type := Int32 × Int32 × List Int32 × Int32 × Int32
abbrev chV : Type := Nat × List Int32 × List kV
def secOk (y : List Int32) : Prop := 1 ≤ y.length ∧ y.length ≤ 16 ∧ ∀ i, i < y.length → ∃ j, y.getD i 0 = nI j ∧ 33 ≤ j ∧ j ≤ 126
def kOkV (v : kV) : Prop := rng v.1 0 255 ∧ bit v.2.1 ∧ secOk v.2.2.1 ∧ rng v.2.2.2.1 0 99999 ∧ rng v.2.2.2.2 0 99999
/-- a value that keys may have -/
def VV (V : chV) : Prop := V.1 ≤ 2 ∧ V.2.2.length ≤ 4 ∧ (V.1 = 2 ↔ 1 ≤ V.2.2.length) ∧ (V.1 = 1 → secOk V.2.1) ∧ (∀ (k : Nat) (v : kV), V.2.2[k]? = some v → kOkV v) ∧ ∀ (k k' : Nat) (v v' : kV), V.2.2[k]? = some v → V.2.2[k']? = some v' → k' ≠ k → v'.1 ≠ v.1
/-- a chain of the class has it -/
def CC (H : Nat → Nat → Nat) (s : cS) (ch : Nat) (V : chV) : Prop := s.I 20 ch = (if V.1 = 1 then 1 else 0) ∧ s.I 22 ch = nI V.2.2.length ∧ (∀ (k : Nat) (v : kV), V.2.2[k]? = some v → s.E (H 23 ch) k = v.1 ∧ s.E (H 24 ch) k = (if v.2.1 = 0 then 16 else 20) ∧ s.E (H 25 ch) k = v.2.2.2.1 ∧ s.E (H 26 ch) k = v.2.2.2.2 ∧ ∀ w, s.Q (H 27 ch) k = some w → ∀ i, i < 16 → s.E w i = v.2.2.1.getD i 0) ∧ (V.1 = 1 → ∀ i, i < 16 → s.E (H 21 ch) i = V.2.1.getD i 0)
/-- an interface of the model has it -/
def MC (t : moS) (q : Nat) (V : chV) : Prop := t.I 79 q = nI V.1 ∧ t.I 82 q = nI V.2.2.length ∧ (∀ (k : Nat) (v : kV), V.2.2[k]? = some v → t.I 83 (4 * q + k) = v.1 ∧ t.I 84 (4 * q + k) = v.2.1 ∧ t.I 85 (4 * q + k) = nI v.2.2.1.length ∧ (∀ i, i < v.2.2.1.length → t.I 86 (16 * (4 * q + k) + i) = v.2.2.1.getD i 0) ∧ t.I 87 (4 * q + k) = v.2.2.2.1 ∧ t.I 88 (4 * q + k) = v.2.2.2.2) ∧ (V.1 = 1 → t.I 80 q = nI V.2.1.length ∧ ∀ i, i < V.2.1.length → t.I 81 (16 * q + i) = V.2.1.getD i 0)
/-- what the model has, as a value -/
def mcV (t : moS) (q : Nat) : chV := ((t.I 79 q).toNatClampNeg, tl (fun i => t.I 81 (16 * q + i)) (t.I 80 q).toNatClampNeg, (List.range (t.I 82 q).toNatClampNeg).map fun k => (t.I 83 (4 * q + k), t.I 84 (4 * q + k), tl (fun i => t.I 86 (16 * (4 * q + k) + i)) (t.I 85 (4 * q + k)).toNatClampNeg, t.I 87 (4 * q + k), t.I 88 (4 * q + k)))
section Ch
variable {G H : Nat → Nat → Nat} {sa : Nat → Nat} {x : Nat} {s s' : cS} {t t' : moS} {q : Nat}
theorem mcV_k {k : Nat} {v : kV} (h : (mcV t q).2.2[k]? = some v) : k < (t.I 82 q).toNatClampNeg ∧ v = (t.I 83 (4 * q + k), t.I 84 (4 * q + k), tl (fun i => t.I 86 (16 * (4 * q + k) + i)) (t.I 85 (4 * q + k)).toNatClampNeg, t.I 87 (4 * q + k), t.I 88 (4 * q + k)) := by
  have h : ((List.range (t.I 82 q).toNatClampNeg).map _)[k]? = some v := h
  rw [List.getElem?_map] at h
  by_cases c : k < (t.I 82 q).toNatClampNeg
  · rw [List.getElem?_range c] at h
    exact ⟨c, (Option.some.inj h).symm⟩
  · rw [List.getElem?_eq_none (by rw [List.length_range]; omega)] at h
    cases h
theorem mcV_l : (mcV t q).2.2.length = (t.I 82 q).toNatClampNeg := by
  show ((List.range _).map _).length = _
  rw [List.length_map, List.length_range]
/-- both sides have one value -/
theorem ch_of (h : RCh G H s t q) (hi : mVi t q) : VV (mcV t q) ∧ CC H s (H 86 (G 2 q)) (mcV t q) ∧ MC t q (mcV t q) := by
  obtain ⟨a1, a2, a3, a4, a5, a6⟩ := h
  obtain ⟨b1, b2, b3, b4, b5, b6, b7, b8, b9, b10, b11, b12, b13, b14⟩ := hi
  have n9 := b9.n
  have n11 := b11.n
  have sc : ∀ k, k < (t.I 82 q).toNatClampNeg → secOk (tl (fun i => t.I 86 (16 * (4 * q + k) + i)) (t.I 85 (4 * q + k)).toNatClampNeg) := by
    intro k hk
    have h85 := (b13 k hk).2.2.1.n
    obtain ⟨r1, r2, r3⟩ := (a3 k hk).2.2.2.2
    refine ⟨by rw [tl_len]; exact h85.2.1, by rw [tl_len]; exact h85.2.2, fun i hi => ?_⟩
    rw [tl_len] at hi
    rw [tl_get hi]
    exact (r2 i hi).2
  refine ⟨⟨n9.2.2, by rw [mcV_l]; exact n11.2.2, ?_, fun h1 => ?_, fun k v hv => ?_, fun k k' v v' hv hv' hne => ?_⟩, ⟨?_, by rw [mcV_l]; exact a2.trans n11.1, fun k v hv => ?_, fun h1 => ?_⟩, ⟨n9.1, by rw [mcV_l]; exact n11.1, fun k v hv => ?_, fun h1 => ?_⟩⟩
  · rw [mcV_l, ← b12]
    constructor
    · intro e
      rw [n9.1, show (t.I 79 q).toNatClampNeg = 2 from e]; rfl
    · intro e
      show (t.I 79 q).toNatClampNeg = 2
      rw [e]; rfl
  · have e79 : t.I 79 q = 1 := by rw [n9.1, show (t.I 79 q).toNatClampNeg = 1 from h1]; rfl
    have h80 := (b10 e79).n
    obtain ⟨r1, r2, r3⟩ := a5 e79
    refine ⟨by show 1 ≤ (tl _ _).length; rw [tl_len]; exact h80.2.1, by show (tl _ _).length ≤ 16; rw [tl_len]; exact h80.2.2, fun i hi => ?_⟩
    have hi : i < (tl (fun i => t.I 81 (16 * q + i)) (t.I 80 q).toNatClampNeg).length := hi
    rw [tl_len] at hi
    show ∃ j, (tl (fun i => t.I 81 (16 * q + i)) (t.I 80 q).toNatClampNeg).getD i 0 = nI j ∧ _
    rw [tl_get hi]
    exact (r2 i hi).2
  · obtain ⟨hk, rfl⟩ := mcV_k hv
    obtain ⟨c1, c2, c3, c4, c5, c6⟩ := b13 k hk
    exact ⟨c1, c2, sc k hk, c4, c5⟩
  · obtain ⟨hk, rfl⟩ := mcV_k hv
    obtain ⟨hk', rfl⟩ := mcV_k hv'
    exact (b13 k hk).2.2.2.2.2 k' hk' hne
  · rw [a1]
    by_cases c : t.I 79 q = 1
    · rw [if_pos c, if_pos (show (mcV t q).1 = 1 by show (t.I 79 q).toNatClampNeg = 1; rw [c]; rfl)]
    · rw [if_neg c, if_neg (show ¬ (mcV t q).1 = 1 from fun z : (t.I 79 q).toNatClampNeg = 1 => c (by rw [n9.1, z]; rfl))]
  · obtain ⟨hk, rfl⟩ := mcV_k hv
    obtain ⟨d1, d2, d3, d4, r1, r2, r3⟩ := a3 k hk
    refine ⟨d1, d2, d3, d4, fun w hw i hi => ?_⟩
    have hw' := (a4 k (by omega)).1
    rw [hw] at hw'
    have hw' := Option.some.inj hw'
    subst hw'
    by_cases c : i < (t.I 85 (4 * q + k)).toNatClampNeg
    · show _ = (tl _ _).getD i 0
      rw [tl_get c]; exact (r2 i c).1
    · show _ = (tl _ _).getD i 0
      rw [List.getD_eq_getElem?_getD, List.getElem?_eq_none (by rw [tl_len]; omega)]
      exact r3 i (by omega) hi
  · have e79 : t.I 79 q = 1 := by rw [n9.1, show (t.I 79 q).toNatClampNeg = 1 from h1]; rfl
    obtain ⟨r1, r2, r3⟩ := a5 e79
    intro i hi
    show _ = (tl _ _).getD i 0
    by_cases c : i < (t.I 80 q).toNatClampNeg
    · rw [tl_get c]; exact (r2 i c).1
    · rw [List.getD_eq_getElem?_getD, List.getElem?_eq_none (by rw [tl_len]; omega)]
      exact r3 i (by omega) hi
  · obtain ⟨hk, rfl⟩ := mcV_k hv
    refine ⟨rfl, rfl, ?_, fun i hi => ?_, rfl, rfl⟩
    · show _ = nI (tl _ _).length
      rw [tl_len]; exact (b13 k hk).2.2.1.n.1
    · have hi : i < (tl (fun i => t.I 86 (16 * (4 * q + k) + i)) (t.I 85 (4 * q + k)).toNatClampNeg).length := hi
      rw [tl_len] at hi
      show _ = (tl _ _).getD i 0
      rw [tl_get hi]
  · have e79 : t.I 79 q = 1 := by rw [n9.1, show (t.I 79 q).toNatClampNeg = 1 from h1]; rfl
    refine ⟨?_, fun i hi => ?_⟩
    · show _ = nI (tl _ _).length
      rw [tl_len]; exact (b10 e79).n.1
    · have hi : i < (tl (fun i => t.I 81 (16 * q + i)) (t.I 80 q).toNatClampNeg).length := hi
      rw [tl_len] at hi
      show _ = (tl _ _).getD i 0
      rw [tl_get hi]
theorem gk_some {L : List kV} {k : Nat} (h : k < L.length) : ∃ v, L[k]? = some v := ⟨_, List.getElem?_eq_getElem h⟩
theorem secOk.se {y : List Int32} {f g : Nat → Int32} (h : secOk y) (hf : ∀ i, i < 16 → f i = y.getD i 0) (hg : ∀ i, i < y.length → g i = y.getD i 0) : RSe f g y.length := by
  obtain ⟨h1, h2, h3⟩ := h
  refine ⟨h2, fun i hi => ⟨?_, ?_⟩, fun i hi h16 => ?_⟩
  · rw [hf i (by omega), hg i hi]
  · rw [hg i hi]; exact h3 i hi
  · rw [hf i h16, List.getD_eq_getElem?_getD, List.getElem?_eq_none hi]; rfl
/-- one value on both sides -/
theorem ch_to {V : chV} (hV : VV V) (hC : CC H s (H 86 (G 2 q)) V) (hm : MC t q V) (h4 : ∀ k, k < 4 → s.Q (H 27 (H 86 (G 2 q))) k = some (G 8 (4 * q + k)) ∧ s.K (G 8 (4 * q + k)) = (126, 16)) (h28 : s.P 28 (H 86 (G 2 q)) = none ∨ ∃ w, s.P 28 (H 86 (G 2 q)) = some w ∧ s.K w = (127, 792)) : RCh G H s t q ∧ rng (t.I 79 q) 0 2 ∧ (t.I 79 q = 1 → rng (t.I 80 q) 1 16) ∧ rng (t.I 82 q) 0 4 ∧ (t.I 79 q = 2 ↔ 1 ≤ (t.I 82 q).toNatClampNeg) ∧ ∀ k, k < (t.I 82 q).toNatClampNeg → rng (t.I 83 (4 * q + k)) 0 255 ∧ bit (t.I 84 (4 * q + k)) ∧ rng (t.I 85 (4 * q + k)) 1 16 ∧ rng (t.I 87 (4 * q + k)) 0 99999 ∧ rng (t.I 88 (4 * q + k)) 0 99999 ∧ ∀ k', k' < (t.I 82 q).toNatClampNeg → k' ≠ k → t.I 83 (4 * q + k') ≠ t.I 83 (4 * q + k) := by
  obtain ⟨v1, v2, v3, v4, v5, v6⟩ := hV
  obtain ⟨c1, c2, c3, c4⟩ := hC
  obtain ⟨m1, m2, m3, m4⟩ := hm
  have e82 : (t.I 82 q).toNatClampNeg = V.2.2.length := by rw [m2, nI_clamp (by omega)]
  have k1 : ∀ n, n < 3 → (t.I 79 q = nI n ↔ V.1 = n) := fun n hn => by rw [m1]; exact nI_eq (by omega) (by omega)
  refine ⟨⟨?_, c2.trans m2.symm, fun k hk => ?_, h4, fun h1 => ?_, h28⟩, ⟨V.1, m1, Nat.zero_le _, v1⟩, fun h1 => ?_, ⟨_, m2, Nat.zero_le _, v2⟩, ?_, fun k hk => ?_⟩
  · rw [c1]
    by_cases c : V.1 = 1
    · rw [if_pos c, if_pos (show t.I 79 q = 1 from (k1 1 (by decide)).mpr c)]
    · rw [if_neg c, if_neg (show ¬ t.I 79 q = 1 from fun z => c ((k1 1 (by decide)).mp z))]
  · rw [e82] at hk
    obtain ⟨v, hv⟩ := gk_some hk
    obtain ⟨x1, x2, x3, x4, x5⟩ := c3 k v hv
    obtain ⟨y1, y2, y3, y4, y5, y6⟩ := m3 k v hv
    rw [x1, x2, x3, x4, y1, y2, y3, y5, y6]
    have hs := (v5 k v hv).2.2.1
    refine ⟨rfl, rfl, rfl, rfl, ?_⟩
    rw [nI_clamp (by have := hs.2.1; omega)]
    exact hs.se (x5 _ (h4 k (by omega)).1) y4
  · have e1 := (k1 1 (by decide)).mp h1
    obtain ⟨y1, y2⟩ := m4 e1
    have hs := v4 e1
    rw [y1, nI_clamp (by have := hs.2.1; omega)]
    exact hs.se (c4 e1) y2
  · have e1 := (k1 1 (by decide)).mp h1
    have hs := v4 e1
    exact ⟨_, (m4 e1).1, hs.1, hs.2.1⟩
  · rw [e82, ← v3]; exact k1 2 (by decide)
  · rw [e82] at hk ⊢
    obtain ⟨v, hv⟩ := gk_some hk
    obtain ⟨y1, y2, y3, y4, y5, y6⟩ := m3 k v hv
    obtain ⟨w1, w2, w3, w4, w5⟩ := v5 k v hv
    rw [y1, y2, y3, y5, y6]
    refine ⟨w1, w2, ⟨_, rfl, w3.1, w3.2.1⟩, w4, w5, fun k' hk' hne => ?_⟩
    obtain ⟨v', hv'⟩ := gk_some hk'
    rw [(m3 k' v' hv').1]
    exact v6 k k' v v' hv hv' hne
end Ch
/-- where a key's number stands, or the first place behind -/
def kIx (num : Int32) : List kV → Nat
  | [] => 0
  | v :: r => if v.1 = num then 0 else kIx num r + 1
theorem kIx_le (num : Int32) : ∀ L : List kV, kIx num L ≤ L.length
  | [] => Nat.le_refl _
  | v :: r => by
    show (if v.1 = num then 0 else kIx num r + 1) ≤ r.length + 1
    split
    · omega
    · have := kIx_le num r; omega
theorem kIx_e (num : Int32) : ∀ (L : List kV) k v, L[k]? = some v → k < kIx num L → v.1 ≠ num
  | [], k, v, h, _ => by cases h
  | u :: r, k, v, h, hk => by
    have hk : k < (if u.1 = num then 0 else kIx num r + 1) := hk
    split at hk
    · omega
    · rename_i e
      cases k with
      | zero => cases h; exact e
      | succ k => exact kIx_e num r k v h (by omega)
theorem kIx_a (num : Int32) : ∀ (L : List kV) v, L[kIx num L]? = some v → v.1 = num
  | [], v, h => by cases h
  | u :: r, v, h => by
    by_cases e : u.1 = num
    · have : kIx num (u :: r) = 0 := if_pos e
      rw [this] at h
      cases h; exact e
    · have : kIx num (u :: r) = kIx num r + 1 := if_neg e
      rw [this] at h
      exact kIx_a num r v h
/-- a key is put in -/
def kPut (L : List kV) (v : kV) : List kV := if kIx v.1 L < L.length then L.set (kIx v.1 L) v else L ++ [v]
theorem kPut_len (L : List kV) (v : kV) : (kPut L v).length = if kIx v.1 L < L.length then L.length else L.length + 1 := by
  unfold kPut
  split
  · rw [List.length_set]
  · rw [List.length_append]; rfl
theorem kPut_g (L : List kV) (v : kV) (k : Nat) (u : kV) (h : (kPut L v)[k]? = some u) : k = kIx v.1 L ∧ u = v ∨ k ≠ kIx v.1 L ∧ L[k]? = some u := by
  have hle := kIx_le v.1 L
  unfold kPut at h
  by_cases c : kIx v.1 L < L.length
  · rw [if_pos c] at h
    by_cases e : k = kIx v.1 L
    · subst e
      rw [List.getElem?_set_self c] at h
      exact Or.inl ⟨rfl, (Option.some.inj h).symm⟩
    · rw [List.getElem?_set_ne (fun z => e z.symm)] at h
      exact Or.inr ⟨e, h⟩
  · rw [if_neg c] at h
    have e : kIx v.1 L = L.length := by omega
    rw [e]
    by_cases ck : k < L.length
    · rw [List.getElem?_append_left ck] at h
      exact Or.inr ⟨by omega, h⟩
    · rw [List.getElem?_append_right (by omega)] at h
      by_cases e2 : k = L.length
      · subst e2
        rw [Nat.sub_self] at h
        exact Or.inl ⟨rfl, (Option.some.inj h).symm⟩
      · rw [List.getElem?_eq_none (by show 1 ≤ _; omega)] at h
        cases h
/-- the value with a key more -/
def vKey (V : chV) (v : kV) : chV := (2, V.2.1, kPut V.2.2 v)
theorem VV.key {V : chV} {v : kV} (h : VV V) (hv : kOkV v) (h4 : kIx v.1 V.2.2 < 4) : VV (vKey V v) := by
  obtain ⟨v1, v2, v3, v4, v5, v6⟩ := h
  have hle := kIx_le v.1 V.2.2
  refine ⟨Nat.le_refl _, ?_, ⟨fun _ => ?_, fun _ => rfl⟩, fun z => absurd (show (2 : Nat) = 1 from z) (by decide), fun k u hu => ?_, fun k k' u u' hu hu' hne => ?_⟩
  · show (kPut V.2.2 v).length ≤ 4
    rw [kPut_len]; split <;> omega
  · show 1 ≤ (kPut V.2.2 v).length
    rw [kPut_len]; split <;> omega
  · rcases kPut_g _ _ _ _ hu with ⟨_, rfl⟩ | ⟨_, h2⟩
    · exact hv
    · exact v5 k u h2
  · have old : ∀ k u, V.2.2[k]? = some u → k ≠ kIx v.1 V.2.2 → u.1 ≠ v.1 := by
      intro k u h1 h2 e
      by_cases c : k < kIx v.1 V.2.2
      · exact kIx_e _ _ _ _ h1 c e
      · have hk : k < V.2.2.length := (List.getElem?_eq_some_iff.mp h1).1
        obtain ⟨w, hw⟩ := gk_some (L := V.2.2) (k := kIx v.1 V.2.2) (by omega)
        have e2 := kIx_a _ _ _ hw
        exact v6 (kIx v.1 V.2.2) k w u hw h1 h2 (e.trans e2.symm)
    rcases kPut_g _ _ _ _ hu with ⟨e1, rfl⟩ | ⟨e1, h1⟩ <;> rcases kPut_g _ _ _ _ hu' with ⟨e2, rfl⟩ | ⟨e2, h2⟩
    · omega
    · exact old k' u' h2 e2
    · exact fun e => old k u h1 e1 e.symm
    · exact v6 k k' u u' h1 h2 hne
