/-! Configuration: secrets, the head of an interface's line; both sides. -/
/-- the model says g i, .. -/
def sy (t0 : moS) (g : Nat → Int32) : Nat → Nat → moS → moS → Prop
  | _, 0, t, t' => t = t'
  | i, d + 1, t, t' => (∃ l, DD [7, 8, 16] t0 t l) ∧ ∃ u, M_say t (g i) = some u ∧ sy t0 g (i + 1) d u t'
def gsL (g : Nat → Int32) : Nat → Nat → List Int32
  | _, 0 => []
  | i, d + 1 => g i :: gsL g (i + 1) d
theorem gsL_len (g : Nat → Int32) : ∀ d i, (gsL g i d).length = d
  | 0, _ => rfl
  | d + 1, i => by
    show (gsL g (i + 1) d).length + 1 = d + 1
    rw [gsL_len g d]
theorem gsL_get (g : Nat → Int32) : ∀ d i j, j < d → (gsL g i d).getD j 0 = g (i + j)
  | 0, _, j, h => absurd h (Nat.not_lt_zero j)
  | d + 1, i, 0, _ => rfl
  | d + 1, i, j + 1, h => by
    show (gsL g (i + 1) d).getD j 0 = _
    rw [gsL_get g d (i + 1) j (by omega)]
    congr 1
    omega
theorem dd_sy {t0 : moS} {g : Nat → Int32} : ∀ d i t l, l.length + d < 160000 → DD [7, 8, 16] t0 t l → ∃ t', sy t0 g i d t t' ∧ DD [7, 8, 16] t0 t' (l ++ gsL g i d)
  | 0, _, t, l, _, h => ⟨t, rfl, by
    show DD [7, 8, 16] t0 t (l ++ [])
    rw [List.append_nil]; exact h⟩
  | d + 1, i, t, l, hl, h => by
    obtain ⟨u, e, hu⟩ := dd_say (g i) h (by omega)
    obtain ⟨t', y1, y2⟩ := dd_sy (t0 := t0) (g := g) d (i + 1) u (l ++ [g i]) (by rw [List.length_append, List.length_singleton]; omega) hu
    refine ⟨t', ⟨⟨l, h⟩, u, e, y1⟩, ?_⟩
    rw [List.append_assoc] at y2
    exact y2
section C3
variable {G H : Nat → Nat → Nat} {sa : Nat → Nat} {pg k0 m0 m kc ks x : Nat} {s0 s : cS} {t0 t : moS} {Q : cS → Nat → Nat → Prop}
theorem jh_s {o : Option Nat} {p u n : Nat} {g : Nat → Int32} (ho : o = some p) (hp : s0.K p = (u, 16)) (hu : 100 ≤ u ∧ u < 130 ∧ cAT u = .byte ∧ u ≠ 124) (hs : RSe (s0.E p) g n) (h1 : 1 ≤ n) (h : JH sa pg s0 k0 m0 t0 m s kc ks t) (hm : m + 80 ≤ 131000) (kk : ∀ s' kc' ks' t1 t', M_space t = some t1 → sy t0 g 0 n t1 t' → J1 sa pg s0 k0 m0 t0 (m + 17) s' kc' ks' t' → Q s' kc' ks') : okO s 0 pg ∧ C_By_addSecret sa pg o s kc ks Q := by
  obtain ⟨l, hA, hD, hl, hnl⟩ := h
  have hA : AP sa pg 124 131072 262144 s0 k0 m0 (l ++ [32]) s kc ks := hA
  obtain ⟨n16, s1, s2⟩ := hs
  have ln := gsL_len g n 0
  have gt : ∀ i, i < n → (gsL g 0 n).getD i 0 = g i := fun i hi => by rw [gsL_get g n 0 i hi, Nat.zero_add]
  refine ⟨hA.o, ap_secret (x := gsL g 0 n) ho hA u hp hu (by decide) (by rw [ln]; exact n16) (fun i hi => ?_) (fun hi => ?_) (by rw [ln, List.length_append, List.length_singleton]; omega) fun s' kc' ks' hA' => ?_⟩
  · rw [ln] at hi
    rw [gt i hi]
    obtain ⟨e1, j, e2, e3, e4⟩ := s1 i hi
    refine ⟨e1, ?_, ?_⟩
    · rw [e2]; exact fun z => by
        have := (nI_eq (show j < 2 ^ 31 by omega) (show 0 < 2 ^ 31 by decide)).mp z
        omega
    · rw [e2]
      exact (by decide : ∀ j, j < 127 → nI j &&& 255 = nI j) j (by omega)
  · rw [ln] at hi ⊢
    exact s2 n (Nat.le_refl _) hi
  · obtain ⟨t1, e1, hD1⟩ := dd_space hD (by omega)
    obtain ⟨t', y1, y2⟩ := dd_sy (g := g) n 0 t1 (l ++ [32]) (by rw [List.length_append, List.length_singleton]; omega) hD1
    refine kk s' kc' ks' t1 t' e1 y1 ⟨(l ++ [32]) ++ gsL g 0 n, hA', y2, by rw [List.length_append, List.length_append, List.length_singleton, ln]; omega, ?_⟩
    have : EW (gsL g 0 n) := by
      refine ⟨fun z => by rw [z] at ln; exact absurd ln (by show ¬ 0 = n; omega), ?_⟩
      rw [ln, gt (n - 1) (by omega)]
      obtain ⟨-, j, e2, e3, e4⟩ := s1 (n - 1) (by omega)
      rw [e2]
      exact nI10 (by omega) (by omega)
    exact this.nl
/-- the head of an interface's line -/
theorem j_bpl (hq : RQ G H sa x s0 t0) (hM : MV t0) (h222 : s0.P 222 x = some pg) {r p : Nat} (hr : r < cR t0) (hp : p < cI t0 r) (u : Nat) (cd : Int64) (hc : u < 48 ∧ u ≠ 39 ∧ u ≠ 42 ∧ cdL (cT u) = cd) (hu : u ≠ 3) (h : J0 sa pg s0 k0 m0 t0 m s kc ks t) (hm : m + 80 ≤ 131000) (k : ∀ t', M_beginAt t cd (nI (4 * r + p)) = some t' → ∀ s' kc' ks', J1 sa pg s0 k0 m0 t0 (m + 38) s' kc' ks' t' → Q s' kc' ks') : okO s 11 x ∧ C_Rf_beginPortLine sa x (some (sa u)) (some (G 1 r)) (some (G 2 (4 * r + p))) s kc ks Q := by
  have ox := hq.ox
  have ht := hq.tk
  have hN := hM.n
  have h6 := hM.nR
  have h4 := hM.nIf hr
  obtain ⟨⟨k26, -⟩, ⟨nm, p181, tx, nn⟩, -⟩ := hq.rt hr
  obtain ⟨⟨k8, -, e80⟩, -⟩ := hq.po hr hp
  have hvi := (hM.r hr).i hp
  obtain ⟨e71, -, e71b⟩ := hvi.1.n
  have hcl := hvi.2.1
  obtain ⟨⟨k7, -⟩, ⟨nm2, p60, tx2, nn2⟩, -⟩ := hq.link hcl
  have p80 := hq.ty.p k8 80 7
  rw [e80] at p80
  have e4 : nI (4 * r + p) / (4 : Int32) = nI r := by
    have : nI (4 * r + p) / 4 = nI ((4 * r + p) / 4) := pk_div (d := 4) (by omega) (by decide) (by decide)
    rw [this]
    congr 1
    omega
  refine ⟨h.gO ox (by decide), ?_⟩
  unfold M_beginAt M_begin at k
  rw [e4] at k
  unfold C_Rf_beginPortLine
  refine h.page ox h222 ⟨_, rfl, j0_c u cd hc hu h ht (by omega) fun s1 c1 d1 t1 e1 h1 => ?_⟩
  rw [e1, Option.bind_some, h1.rJ hN 38 6 (by omega), Option.bind_some] at k
  refine h1.page ox h222 ⟨_, rfl, h1.gP (okr k26 9) (by decide) ⟨_, rfl, ?_⟩⟩
  refine j1_n (p := H 181 (G 1 r)) p181 tx nn h1 (by omega) fun s2 c2 d2 t2 e2 h2 => ?_
  rw [e2, Option.bind_some, Option.bind_some, h2.rI hN 71 24 (by omega), Option.bind_some] at k
  refine h2.page ox h222 ⟨_, rfl, h2.gP (okr k8 4) (by decide) ⟨_, p80.1, h2.gP (okr k7 3) (by decide) ⟨_, rfl, ?_⟩⟩⟩
  rw [e71] at k
  rw [h2.rJ hN 18 10 (by omega), Option.bind_some] at k
  refine j1_n (p := H 60 (G 0 (t0.I 71 (4 * r + p)).toNatClampNeg)) p60 tx2 nn2 h2 (by omega) fun s3 c3 d3 t3 e3 h3 => ?_
  rw [e3, Option.bind_some] at k
  exact k _ rfl _ _ _ (h3.wk (by omega))
end C3
