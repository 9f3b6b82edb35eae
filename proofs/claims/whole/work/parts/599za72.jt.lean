/-! Configuration: what both sides write together. -/
/-- both sides have written the same; f: what the class is ahead by; at most m bytes -/
def JX (sa : Nat → Nat) (pg : Nat) (s0 : cS) (k0 m0 : Nat) (t0 : moS) (f : List Int32 → List Int32) (N : List Int32 → Prop) (m : Nat) (s : cS) (kc ks : Nat) (t : moS) : Prop := ∃ l, AP sa pg 124 131072 262144 s0 k0 m0 (f l) s kc ks ∧ DD [7, 8, 16] t0 t l ∧ l.length ≤ m ∧ N l
abbrev J0 (sa : Nat → Nat) (pg : Nat) (s0 : cS) (k0 m0 : Nat) (t0 : moS) := JX sa pg s0 k0 m0 t0 (fun l => l) NL
abbrev J1 (sa : Nat → Nat) (pg : Nat) (s0 : cS) (k0 m0 : Nat) (t0 : moS) := JX sa pg s0 k0 m0 t0 (fun l => l) (fun l => ¬ NL l)
abbrev JH (sa : Nat → Nat) (pg : Nat) (s0 : cS) (k0 m0 : Nat) (t0 : moS) := JX sa pg s0 k0 m0 t0 (fun l => l ++ [32]) (fun l => ¬ NL l)
section Jt
variable {sa : Nat → Nat} {pg k0 m0 m kc ks x : Nat} {s0 s : cS} {t0 t : moS} {f : List Int32 → List Int32} {N : List Int32 → Prop} {Q : cS → Nat → Nat → Prop}
theorem JX.gI (h : JX sa pg s0 k0 m0 t0 f N m s kc ks t) {c k a : Nat} {F : Int32 → Prop} (ha : okO s0 c a) (hc : c ≠ 0) (kk : F (s0.I (20 * c + k) a)) : ∃ y, gI s c k a = some y ∧ F y := by
  obtain ⟨l, h, -⟩ := h
  exact h.gI ha hc kk
theorem JX.gP (h : JX sa pg s0 k0 m0 t0 f N m s kc ks t) {c k a : Nat} {F : Option Nat → Prop} (ha : okO s0 c a) (hc : c ≠ 0) (kk : F (s0.P (20 * c + k) a)) : ∃ y, gP s c k a = some y ∧ F y := by
  obtain ⟨l, h, -⟩ := h
  exact h.gP ha hc kk
theorem JX.gO (h : JX sa pg s0 k0 m0 t0 f N m s kc ks t) {c a : Nat} (ha : okO s0 c a) (hc : c ≠ 0) : okO s c a := by
  obtain ⟨l, h, -⟩ := h
  exact (h.ob ha (h.nb ha hc)).1
theorem JX.rE (h : JX sa pg s0 k0 m0 t0 f N m s kc ks t) {a i u n : Nat} {ty : FieldType} {F : Int32 → Prop} (ha : s0.K a = (u, n)) (hu : u ≠ 124) (h1 : 100 ≤ u ∧ u < 130 ∧ cAT u = ty) (hi : i < n) (hn : n < 2 ^ 31) (kk : F (s0.E a i)) : ∃ y, rE s ty a (nI i) = some y ∧ F y := by
  obtain ⟨l, h, -⟩ := h
  exact h.rE ha hu h1 hi hn kk
theorem JX.rQ (h : JX sa pg s0 k0 m0 t0 f N m s kc ks t) {a i u n : Nat} {F : Option Nat → Prop} (ha : s0.K a = (u, n)) (hu : u ≠ 124) (h1 : 130 ≤ u ∧ u < 146) (hi : i < n) (hn : n < 2 ^ 31) (kk : F (s0.Q a i)) : ∃ y, rQ s a (nI i) = some y ∧ F y := by
  obtain ⟨l, h, -⟩ := h
  exact h.rQ ha hu h1 hi hn kk
theorem JX.rI (h : JX sa pg s0 k0 m0 t0 f N m s kc ks t) (hN : mN t0) (k n : Nat) {i : Nat} (hi : i < n) (e : k ∉ [7, 8, 16] ∧ k ∉ mG ∧ moN0 k = n := by decide +kernel) (hn : n < 2 ^ 31 := by decide) : rdI t k (nI i) = some (t0.I k i) := by
  obtain ⟨l, -, h, -⟩ := h
  exact h.rI hN k n hi e hn
theorem JX.rJ (h : JX sa pg s0 k0 m0 t0 f N m s kc ks t) (hN : mN t0) (k n : Nat) {i : Nat} (hi : i < n) (e : k ∉ [7, 8, 16] ∧ k ∉ mG ∧ moN0 k = n := by decide +kernel) (hn : n < 2 ^ 31 := by decide) : rdJ t k (nI i) = some (t0.J k i) := by
  obtain ⟨l, -, h, -⟩ := h
  exact h.rJ hN k n hi e hn
theorem JX.S (h : JX sa pg s0 k0 m0 t0 f N m s kc ks t) (k : Nat) (hk : k ∉ [7, 8, 16] := by decide) : t.S k = t0.S k := by
  obtain ⟨l, -, h, -⟩ := h
  exact h.2.2.2.S k hk
theorem JX.wk (h : JX sa pg s0 k0 m0 t0 f N m s kc ks t) {m' : Nat} (hm : m ≤ m') : JX sa pg s0 k0 m0 t0 f N m' s kc ks t := by
  obtain ⟨l, h1, h2, h3, h4⟩ := h
  exact ⟨l, h1, h2, Nat.le_trans h3 hm, h4⟩
/-- the page -/
theorem JX.page (h : JX sa pg s0 k0 m0 t0 f N m s kc ks t) (hx : okO s0 11 x) (h222 : s0.P 222 x = some pg) {F : Option Nat → Prop} (kk : F (some pg)) : ∃ y, Jvm.Pilot.CRoutingFieldLaw_law_r3669_d9cda1.gP s 11 2 x = some y ∧ F y := h.gP hx (by decide) (by rw [show s0.P (20 * 11 + 2) x = some pg from h222]; exact kk)
theorem j0_c (k : Nat) (c : Int64) (hc : k < 48 ∧ k ≠ 39 ∧ k ≠ 42 ∧ cdL (cT k) = c) (h3 : k ≠ 3) (h : J0 sa pg s0 k0 m0 t0 m s kc ks t) (ht : TK sa s0) (hm : m + 20 ≤ 131000) (kk : ∀ s' kc' ks' t', M_sayName t c = some t' → J1 sa pg s0 k0 m0 t0 (m + 12) s' kc' ks' t' → Q s' kc' ks') : okO s 0 pg ∧ C_By_word sa pg (some (sa k)) s kc ks Q := by
  obtain ⟨l, hA, hD, hl, hn⟩ := h
  have hA : AP sa pg 124 131072 262144 s0 k0 m0 l s kc ks := hA
  refine ⟨hA.o, ap_wc k hc.1 hA ht (by decide) (by omega) (by decide) fun s' kc' ks' hA' => ?_⟩
  obtain ⟨t', e, hD'⟩ := dd_nc k c hc hD (by omega)
  have h12 := cT_l k hc.1
  rw [wdL_y hn] at hA'
  exact kk s' kc' ks' t' e ⟨l ++ cT k, hA', hD', by rw [List.length_append]; omega, (EW_cT hc.1 h3).nl⟩
theorem j1_c (k : Nat) (c : Int64) (hc : k < 48 ∧ k ≠ 39 ∧ k ≠ 42 ∧ cdL (cT k) = c) (h3 : k ≠ 3) (h : J1 sa pg s0 k0 m0 t0 m s kc ks t) (ht : TK sa s0) (hm : m + 20 ≤ 131000) (kk : ∀ s' kc' ks' t', M_word t c = some t' → J1 sa pg s0 k0 m0 t0 (m + 13) s' kc' ks' t' → Q s' kc' ks') : okO s 0 pg ∧ C_By_word sa pg (some (sa k)) s kc ks Q := by
  obtain ⟨l, hA, hD, hl, hn⟩ := h
  have hA : AP sa pg 124 131072 262144 s0 k0 m0 l s kc ks := hA
  refine ⟨hA.o, ap_wc k hc.1 hA ht (by decide) (by omega) (by decide) fun s' kc' ks' hA' => ?_⟩
  obtain ⟨t', e, hD'⟩ := dd_wc k c hc hD (by omega)
  have h12 := cT_l k hc.1
  rw [wdL_n hn] at hA'
  exact kk s' kc' ks' t' e ⟨l ++ 32 :: cT k, hA', hD', by rw [List.length_append, List.length_cons]; omega, (EW.cs (EW_cT hc.1 h3)).nl⟩
theorem j1_n {o : Option Nat} {p : Nat} {nm : List Int32} {c : Int64} (ho : o = some p) (hx : isTx sa s0 p nm) (hn : nmL nm c) (h : J1 sa pg s0 k0 m0 t0 m s kc ks t) (hm : m + 20 ≤ 131000) (kk : ∀ s' kc' ks' t', M_word t c = some t' → J1 sa pg s0 k0 m0 t0 (m + 13) s' kc' ks' t' → Q s' kc' ks') : okO s 0 pg ∧ C_By_word sa pg o s kc ks Q := by
  obtain ⟨l, hA, hD, hl, hnl⟩ := h
  have hA : AP sa pg 124 131072 262144 s0 k0 m0 l s kc ks := hA
  refine ⟨hA.o, ap_wn ho hA hx hn (by decide) (by omega) (by decide) fun s' kc' ks' hA' => ?_⟩
  obtain ⟨t', e, hD'⟩ := dd_wn ⟨nm, hn⟩ hD (by omega)
  have h12 := nmOf_l c
  rw [wdL_n hnl] at hA'
  refine kk s' kc' ks' t' e ⟨l ++ 32 :: nmOf c, hA', hD', by rw [List.length_append, List.length_cons]; omega, ?_⟩
  rw [nmOf_e hn]
  exact (EW.cs (EW.nm hn)).nl
theorem j1_u (v : Int32) (h : J1 sa pg s0 k0 m0 t0 m s kc ks t) (ht : TK sa s0) (hm : m + 20 ≤ 131000) (kk : ∀ s' kc' ks' t', M_wordNumber t v = some t' → J1 sa pg s0 k0 m0 t0 (m + 11) s' kc' ks' t' → Q s' kc' ks') : okO s 0 pg ∧ C_By_wordNumber sa pg v s kc ks Q := by
  obtain ⟨l, hA, hD, hl, hnl⟩ := h
  have hA : AP sa pg 124 131072 262144 s0 k0 m0 l s kc ks := hA
  refine ⟨hA.o, ap_wnum v hA ht (by decide) (by omega) (by decide) fun s' kc' ks' hA' => ?_⟩
  obtain ⟨t', e, hD'⟩ := dd_wnum v hD (by omega)
  have h12 := decZ_len v
  rw [wdL_n hnl] at hA'
  exact kk s' kc' ks' t' e ⟨l ++ 32 :: decZ v, hA', hD', by rw [List.length_append, List.length_cons]; omega, (EW.cs (EW.dec v)).nl⟩
/-- a space alone: the class is ahead -/
theorem j1_h (h : J1 sa pg s0 k0 m0 t0 m s kc ks t) (ht : TK sa s0) (hm : m + 20 ≤ 131000) (kk : ∀ s' kc' ks', JH sa pg s0 k0 m0 t0 m s' kc' ks' t → Q s' kc' ks') : okO s 0 pg ∧ C_By_word sa pg (some (sa 3)) s kc ks Q := by
  obtain ⟨l, hA, hD, hl, hnl⟩ := h
  have hA : AP sa pg 124 131072 262144 s0 k0 m0 l s kc ks := hA
  refine ⟨hA.o, ap_wc 3 (by decide) hA ht (by decide) (by omega) (by decide) fun s' kc' ks' hA' => ?_⟩
  rw [wdL_n hnl] at hA'
  exact kk s' kc' ks' ⟨l, hA', hD, hl, hnl⟩
theorem jh_p {o : Option Nat} {p : Nat} {fm : Int32} {hi lo : Int64} {n : Int32} (ho : o = some p) (hx : okO s0 5 p) (hp : PF s0 p (fam fm) hi lo n) (h : JH sa pg s0 k0 m0 t0 m s kc ks t) (ht : TK sa s0) (hm : m + 80 ≤ 131000) (kk : ∀ s' kc' ks' t', M_wordPrefix t fm hi lo n = some t' → J1 sa pg s0 k0 m0 t0 (m + 55) s' kc' ks' t' → Q s' kc' ks') : okO s 0 pg ∧ C_By_addPrefix sa pg o s kc ks Q := by
  obtain ⟨l, hA, hD, hl, hnl⟩ := h
  have hA : AP sa pg 124 131072 262144 s0 k0 m0 (l ++ [32]) s kc ks := hA
  obtain ⟨p1, p2, p3, p4⟩ := hp
  refine ⟨hA.o, ap_pfx ho hx ht (by decide) (by decide) hA (by rw [List.length_append, List.length_singleton]; omega) fun s' kc' ks' hA' => ?_⟩
  obtain ⟨t', e, hD'⟩ := dd_wpfx fm hi lo n hD (by decide) (by omega)
  have h12 := pfxZ_len (fam fm) hi lo n
  rw [p1, p2, p3, p4, List.append_assoc] at hA'
  exact kk s' kc' ks' t' e ⟨l ++ 32 :: pfxZ (fam fm) hi lo n, hA', hD', by rw [List.length_append, List.length_cons]; omega, (EW.cs (EW.pfx _ _ _ _)).nl⟩
theorem jh_a {o : Option Nat} {p : Nat} {fm : Int32} {hi lo : Int64} (ho : o = some p) (hx : okO s0 5 p) (hp : s0.I 100 p = fam fm ∧ s0.J 101 p = hi ∧ s0.J 102 p = lo) (h : JH sa pg s0 k0 m0 t0 m s kc ks t) (ht : TK sa s0) (hm : m + 80 ≤ 131000) (kk : ∀ s' kc' ks' t1 t', M_space t = some t1 → M_sayAddress t1 fm hi lo = some t' → J1 sa pg s0 k0 m0 t0 (m + 55) s' kc' ks' t' → Q s' kc' ks') : okO s 0 pg ∧ C_By_addAddress sa pg o s kc ks Q := by
  obtain ⟨l, hA, hD, hl, hnl⟩ := h
  have hA : AP sa pg 124 131072 262144 s0 k0 m0 (l ++ [32]) s kc ks := hA
  obtain ⟨p1, p2, p3⟩ := hp
  refine ⟨hA.o, ap_addr ho hx ht (by decide) (by decide) hA (by rw [List.length_append, List.length_singleton]; omega) fun s' kc' ks' hA' => ?_⟩
  obtain ⟨t1, e1, hD1⟩ := dd_space hD (by omega)
  obtain ⟨t', e, hD'⟩ := dd_addr fm hi lo hD1 (by decide) (by rw [List.length_append, List.length_singleton]; omega)
  have h12 := adr_len (fam fm) hi lo
  rw [p1, p2, p3] at hA'
  refine kk s' kc' ks' t1 t' e1 e ⟨(l ++ [32]) ++ adr (fam fm) hi lo, hA', hD', by rw [List.length_append, List.length_append, List.length_singleton]; omega, ?_⟩
  exact (EW_adr _ _ _).nl
theorem j1_e (h : J1 sa pg s0 k0 m0 t0 m s kc ks t) (hm : m + 20 ≤ 131000) (kk : ∀ s' kc' ks' t', M_say t 10 = some t' → J0 sa pg s0 k0 m0 t0 (m + 1) s' kc' ks' t' → Q s' kc' ks') : okO s 0 pg ∧ C_By_endLine sa pg s kc ks Q := by
  obtain ⟨l, hA, hD, hl, hnl⟩ := h
  have hA : AP sa pg 124 131072 262144 s0 k0 m0 l s kc ks := hA
  refine ⟨hA.o, ap_endLine hA (by omega) fun s' kc' ks' hA' => ?_⟩
  obtain ⟨t', e, hD'⟩ := dd_say 10 hD (by omega)
  have := NL_10 l []
  exact kk s' kc' ks' t' e ⟨l ++ [10], hA', hD', by rw [List.length_append, List.length_singleton]; omega, this⟩
end Jt
