/-! Names and their numbers; what is read while a text is written. -/
theorem dgN_inj {c d : Int32} (hc : nmC c) (hd : nmC d) (e : dgN c = dgN d) : c = d := by
  rw [← hc.k.2.2.1, ← hd.k.2.2.1, e]
theorem cdR_inj : ∀ y y' : List Int32, (∀ c ∈ y, nmC c) → (∀ c ∈ y', nmC c) → cdR y = cdR y' → y = y'
  | [], [], _, _, _ => rfl
  | [], c :: r, _, h, e => by
    have := (h c List.mem_cons_self).k
    have e : 0 = 40 * cdR r + dgN c := e
    omega
  | c :: r, [], h, _, e => by
    have := (h c List.mem_cons_self).k
    have e : 40 * cdR r + dgN c = 0 := e
    omega
  | c :: r, d :: q, h, h', e => by
    have h1 := (h c List.mem_cons_self).k
    have h2 := (h' d List.mem_cons_self).k
    have e : 40 * cdR r + dgN c = 40 * cdR q + dgN d := e
    have e1 : dgN c = dgN d := by omega
    have e2 : cdR r = cdR q := by omega
    rw [dgN_inj (h c List.mem_cons_self) (h' d List.mem_cons_self) e1, cdR_inj r q (fun c hc => h c (List.mem_cons_of_mem _ hc)) (fun c hc => h' c (List.mem_cons_of_mem _ hc)) e2]
theorem i64_inj {a b : Nat} (ha : a < 2 ^ 64) (hb : b < 2 ^ 64) (e : Int64.ofNat a = Int64.ofNat b) : a = b := by
  have h : (BitVec.ofNat 64 a).toNat = (BitVec.ofNat 64 b).toNat := congrArg (fun x => x.toBitVec.toNat) e
  rw [BitVec.toNat_ofNat, BitVec.toNat_ofNat, Nat.mod_eq_of_lt ha, Nat.mod_eq_of_lt hb] at h
  exact h
theorem cdL_inj {x y : List Int32} (hx : ∀ c ∈ x, nmC c) (hy : ∀ c ∈ y, nmC c) (lx : x.length ≤ 12) (ly : y.length ≤ 12) (e : cdL x = cdL y) : x = y := by
  have rx : ∀ c ∈ x.reverse, nmC c := fun c hc => hx c (List.mem_reverse.mp hc)
  have ry : ∀ c ∈ y.reverse, nmC c := fun c hc => hy c (List.mem_reverse.mp hc)
  have h := i64_inj (cdR_64 rx (by rw [List.length_reverse]; exact lx)) (cdR_64 ry (by rw [List.length_reverse]; exact ly)) e
  have := cdR_inj _ _ rx ry h
  rw [← List.reverse_reverse x, this, List.reverse_reverse]
theorem nmL.u {x y : List Int32} {c : Int64} (hx : nmL x c) (hy : nmL y c) : x = y := cdL_inj (fun c hc => (hx.2.2.2 c hc).1) (fun c hc => (hy.2.2.2 c hc).1) hx.2.2.1 hy.2.2.1 (hx.1.symm.trans hy.1)
/-- the letters of a name's number -/
noncomputable def nmOf (c : Int64) : List Int32 := @dite _ (∃ x, nmL x c) (Classical.propDecidable _) (fun h => h.choose) (fun _ => [])
theorem nmOf_e {x : List Int32} {c : Int64} (h : nmL x c) : nmOf c = x := by
  have he : ∃ x, nmL x c := ⟨x, h⟩
  unfold nmOf
  rw [dif_pos he]
  exact he.choose_spec.u h
theorem nmL.a {x : List Int32} {c : Int64} (h : nmL x c) : ∀ y ∈ x, nmC y := fun y hy => (h.2.2.2 y hy).1
theorem nmL.m {x : List Int32} {c : Int64} (h : nmL x c) : x.map (· &&& 255) = x := by
  have : ∀ y ∈ x, y &&& 255 = y := fun y hy => (h.a y hy).k.2.2.2.1
  clear h
  induction x with
  | nil => rfl
  | cons y r ih => rw [List.map_cons, this y List.mem_cons_self, ih fun z hz => this z (List.mem_cons_of_mem _ hz)]
/-- behind these no line begins -/
def EW (x : List Int32) : Prop := x ≠ [] ∧ x.getD (x.length - 1) 0 ≠ 10
theorem EW.nl {l x : List Int32} (h : EW x) : ¬ NL (l ++ x) := by
  intro z
  rcases z with z | z
  · exact h.1 (List.append_eq_nil_iff.mp z).2
  · have h1 : 0 < x.length := List.length_pos_iff.mpr h.1
    rw [List.length_append, gd_r (by omega), show l.length + x.length - 1 - l.length = x.length - 1 by omega] at z
    exact h.2 z
theorem EW.ap {x y : List Int32} (h : EW y) : EW (x ++ y) := by
  have h1 : 0 < y.length := List.length_pos_iff.mpr h.1
  refine ⟨fun z => h.1 (List.append_eq_nil_iff.mp z).2, ?_⟩
  rw [List.length_append, gd_r (by omega), show x.length + y.length - 1 - x.length = y.length - 1 by omega]
  exact h.2
theorem EW.cs {c : Int32} {y : List Int32} (h : EW y) : EW (c :: y) := EW.ap (x := [c]) h
theorem EW.nm {x : List Int32} {c : Int64} (h : nmL x c) : EW x := by
  refine ⟨fun z => by have := h.2.1; rw [z] at this; exact absurd this (by decide), ?_⟩
  have h1 := h.2.1
  have : x.getD (x.length - 1) 0 ∈ x := by
    rw [List.getD_eq_getElem?_getD, List.getElem?_eq_getElem (by omega)]
    exact List.getElem_mem _
  exact (h.a _ this).k.2.2.2.2
theorem EW.one {c : Int32} (h : c ≠ 10) : EW [c] := ⟨by simp, h⟩
theorem nI10 {k : Nat} (h : k < 256) (h2 : k ≠ 10) : nI k ≠ 10 := fun e => h2 ((nI_eq (by omega) (by decide)).mp (show nI k = nI 10 from e))
theorem EW.dgT (n : Nat) : ∀ k, EW (dgT n k)
  | 0 => EW.one (nI10 (by omega) (by omega))
  | k + 1 => EW.cs (EW.dgT n k)
theorem EW.dec (v : Int32) : EW (decZ v) := by
  unfold decZ
  split
  · rename_i h
    obtain ⟨k, h1, h2⟩ := rem10 h
    rw [h2]
    refine EW.one ?_
    have h3 := rem_toInt v 10
    have h4 := tmod_bounds (a := v.toInt) (M := 10) (by decide)
    have h5 : (10 : Int32).toInt = 10 := by decide
    rw [h5] at h3
    intro e
    have e2 : k = 10 := (nI_eq (by omega) (by decide)).mp (show nI k = nI 10 from e)
    rw [e2] at h2
    have h6 := congrArg Int32.toInt h2
    have h7 : (rem_I v 10).toInt = v.toInt.tmod 10 := h3
    rw [Int32.toInt_add, h7, show (48 : Int32).toInt = 48 by decide, show (nI 10).toInt = 10 by decide, Int.bmod_eq_of_le (by omega) (by omega)] at h6
    omega
  · exact EW.dgT _ _
theorem EW.pfx (f : Int32) (h l : Int64) (n : Int32) : EW (pfxZ f h l n) := EW.ap (EW.cs (EW.dec n))
theorem EW.mem {x : List Int32} (h0 : x ≠ []) (h : ∀ c ∈ x, c ≠ 10) : EW x := by
  have h1 : 0 < x.length := List.length_pos_iff.mpr h0
  refine ⟨h0, h _ ?_⟩
  rw [List.getD_eq_getElem?_getD, List.getElem?_eq_getElem (by omega)]
  exact List.getElem_mem _
theorem hd_10 {d : Nat} (h : d < 16) : hd16 d ≠ 10 := by
  unfold hd16
  split
  · exact nI10 (by omega) (by omega)
  · exact nI10 (by omega) (by omega)
theorem hxT_10 (n : Nat) : ∀ k, ∀ c ∈ hxT n k, c ≠ 10
  | 0, c, hc => by rw [List.mem_singleton.mp hc]; exact hd_10 (Nat.mod_lt _ (by decide))
  | k + 1, c, hc => by
    rcases List.mem_cons.mp hc with rfl | hc
    · exact hd_10 (Nat.mod_lt _ (by decide))
    · exact hxT_10 n k c hc
theorem sixP_10 (p : Nat → Nat) (g z i : Nat) : ∀ c ∈ sixP p g z i, c ≠ 10 := by
  intro c hc
  unfold sixP at hc
  split at hc
  · rcases List.mem_cons.mp hc with rfl | hc
    · decide
    · rw [List.mem_singleton.mp hc]; decide
  · split at hc
    · rcases List.mem_append.mp hc with hc | hc
      · split at hc
        · rw [List.mem_singleton.mp hc]; decide
        · cases hc
      · exact hxT_10 _ _ c hc
    · cases hc
theorem sixT_10 (p : Nat → Nat) (g z : Nat) : ∀ k, ∀ c ∈ sixT p g z k, c ≠ 10
  | 0, c, hc => by cases hc
  | k + 1, c, hc => by
    rcases List.mem_append.mp (show c ∈ sixP p g z (7 - k) ++ sixT p g z k from hc) with hc | hc
    · exact sixP_10 p g z _ c hc
    · exact sixT_10 p g z k c hc
theorem hxT_0 (n k : Nat) : hxT n k ≠ [] := by cases k <;> exact List.cons_ne_nil _ _
theorem EW_six (p : Nat → Nat) : EW (six p) := by
  refine EW.mem ?_ (sixT_10 p _ _ 8)
  unfold six
  generalize (gpS p 8).1 = g
  generalize (gpS p 8).2 = z
  show sixP p g z 0 ++ sixT p g z 7 ≠ []
  intro h
  have h := (List.append_eq_nil_iff.mp h).1
  unfold sixP at h
  split at h
  · cases h
  · rw [if_pos (by omega)] at h
    exact hxT_0 _ _ (List.append_eq_nil_iff.mp h).2
theorem EW.dot (hi : Int64) : ∀ r, EW (dotT hi r)
  | 0 => EW.dgT _ _
  | r + 1 => EW.ap (EW.dot hi r)
theorem EW_adr (f : Int32) (h l : Int64) : EW (adr f h l) := by
  unfold adr
  split
  · exact EW_six _
  · exact EW.dot h 3
theorem EW.w {l x : List Int32} (h : EW x) : ¬ NL (l ++ 32 :: x) := (EW.cs h).nl
