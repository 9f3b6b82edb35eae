/-! The model's cells in any picture; the constructors' cells. -/
def mo_has (M : pmM) (m : Nat) (q : Nat → Nat) (s : moS) : Prop := M m = some (.inr (12, moL (moV q s))) ∧ ∀ k ∈ moAr, M (q k) = some (moA s k)
theorem mo_has.eq {M : pmM} {base m : Nat} {q : Nat → Nat} {s : moS} (h : mo_has M m q s) (hq : moQ base m q) : M = moM M m q s := by
  funext a
  by_cases ha : a = m
  · subst ha
    rw [moM_m]
    exact h.1
  · by_cases hk : ∃ k ∈ moAr, q k = a
    · obtain ⟨k, hk, rfl⟩ := hk
      rw [moM_q hq hk]
      exact h.2 k hk
    · exact (moM_o ha (fun k hk' e => hk ⟨k, hk', e⟩)).symm
theorem mo_has_of {R : pmM} {base m : Nat} {q : Nat → Nat} {s : moS} (hq : moQ base m q) : mo_has (moM R m q s) m q s := ⟨moM_m, fun _ hk => moM_q hq hk⟩
/-- a cell that isn't the model's -/
def mo_off (m : Nat) (q : Nat → Nat) (a : Nat) : Prop := a ≠ m ∧ ∀ k ∈ moAr, q k ≠ a
theorem mo_has.keep {M M' : pmM} {m : Nat} {q : Nat → Nat} {s : moS} (h : mo_has M m q s) (h' : ∀ a, M a ≠ none → ¬ mo_off m q a → M' a = M a) : mo_has M' m q s := ⟨(h' m (by rw [h.1]; simp) (fun o => o.1 rfl)).trans h.1, fun k hk => (h' (q k) (by rw [h.2 k hk]; simp) (fun o => o.2 k hk rfl)).trans (h.2 k hk)⟩
theorem nI_inj {a b : Nat} (h : nI a = nI b) (ha : a < 2 ^ 31) (hb : b < 2 ^ 31) : a = b := by
  have e := congrArg Int32.toInt h
  rw [nI_toInt ha, nI_toInt hb] at e
  omega
theorem tk_no {y : Int32} {τ n : Nat} (c : y < 0 ∨ ∃ n, y = nI n ∧ n < 2 ^ 31 ∧ (2000 < n ∨ 20000 < τ + n)) (e : y = nI n) (h1 : n ≤ 2000) (h2 : τ + n ≤ 20000) : False := by
  rcases c with c | ⟨j, ej, hj, hc⟩
  · rw [e, Int32.lt_iff_toInt_lt, nI_toInt (by omega)] at c
    have h0 : (0 : Int32).toInt = 0 := rfl
    omega
  · have := nI_inj (ej.symm.trans e) hj (by omega)
    omega
theorem moQs_none {base m : Nat} {M : pmM} {ws : List Nat} (hl : ws.length = 138) (hf : moFresh base M m [] ws) {k : Nat} (hk : k ∈ moAr) : M (moQs ws k) = none := by
  have har : moAr.length = 138 := by rw [← moTab_ar, List.length_map]; rfl
  have hi : moAr.idxOf k < ws.length := by rw [hl, ← har]; exact List.idxOf_lt_length_of_mem hk
  have hmem : moQs ws k ∈ ws := by
    unfold moQs
    rw [List.getD_eq_getElem?_getD, List.getElem?_eq_getElem hi]
    exact List.getElem_mem _
  exact (hf.1 _ hmem).2.1

def rfL (x qt qta qx qxa qp qpa ql qr qi qf qs qd qd1 qd2 qd3 qd4 qo qoa qe qh : Nat) : List (Nat × pmE) := [(qta, .inl (.byte, 64, .inl fun _ => 0)), (qt, .inr (0, [.ref qta, .int 0])), (qxa, .inl (.byte, 64, .inl fun _ => 0)), (qx, .inr (0, [.ref qxa, .int 0])), (qpa, .inl (.byte, 64, .inl fun _ => 0)), (qp, .inr (0, [.ref qpa, .int 0])), (ql, .inl (.object "RoutingField$Link", 10, .inr (.inr (.inr (.inr fun _ => none))))), (qr, .inl (.object "RoutingField$Router", 6, .inr (.inr (.inr (.inr fun _ => none))))), (qi, .inl (.object "RoutingField$PrefixList", 8, .inr (.inr (.inr (.inr fun _ => none))))), (qf, .inl (.object "RoutingField$Datagram", 256, .inr (.inr (.inr (.inr fun _ => none))))), (qs, .inl (.object "RoutingField$Datagram", 258, .inr (.inr (.inr (.inr fun _ => none))))), (qd2, .inl (.byte, 600, .inl fun _ => 0)), (qd1, .inr (0, [.ref qd2, .int 0])), (qd3, .inr (5, [.int 4, .long 0, .long 0, .int 0])), (qd4, .inr (5, [.int 4, .long 0, .long 0, .int 0])), (qd, .inr (2, daF qd1 qd3 qd4)), (qoa, .inl (.object "RoutingField$Route", 16, .inr (.inr (.inr (.inr fun _ => none))))), (qo, .inr (10, [.ref qoa, .int 0])), (qe, .inr (5, [.int 4, .long 0, .long 0, .int 0])), (qh, .inr (5, [.int 4, .long 0, .long 0, .int 0])), (x, .inr (11, rfF qt qta qx qxa qp qpa ql qr qi qf qs qd qd1 qd2 qd3 qd4 qo qoa qe qh))]
theorem rfM_l (M : pmM) (x qt qta qx qxa qp qpa ql qr qi qf qs qd qd1 qd2 qd3 qd4 qo qoa qe qh : Nat) : rfM M x qt qta qx qxa qp qpa ql qr qi qf qs qd qd1 qd2 qd3 qd4 qo qoa qe qh = pm_ups M (rfL x qt qta qx qxa qp qpa ql qr qi qf qs qd qd1 qd2 qd3 qd4 qo qoa qe qh) := rfl

theorem nd_ne {l : List Nat} (h : l.Nodup) {i j : Nat} (hi : i < l.length) (hj : j < l.length) (hij : i ≠ j) : l.getD i 0 ≠ l.getD j 0 := by
  rw [List.getD_eq_getElem?_getD, List.getD_eq_getElem?_getD, List.getElem?_eq_getElem hi, List.getElem?_eq_getElem hj]
  show l[i] ≠ l[j]
  rcases Nat.lt_or_gt_of_ne hij with g | g
  · exact List.pairwise_iff_getElem.mp h i j hi hj g
  · exact (List.pairwise_iff_getElem.mp h j i hj hi g).symm
set_option maxRecDepth 100000 in
theorem rfL_nd {x qt qta qx qxa qp qpa ql qr qi qf qs qd qd1 qd2 qd3 qd4 qo qoa qe qh : Nat} (h : [x, qt, qta, qx, qxa, qp, qpa, ql, qr, qi, qf, qs, qd, qd1, qd2, qd3, qd4, qo, qoa, qe, qh].Nodup) : ((rfL x qt qta qx qxa qp qpa ql qr qi qf qs qd qd1 qd2 qd3 qd4 qo qoa qe qh).map fun p => p.1).Nodup := by
  have key : ∀ is : List Nat, is.Pairwise (fun a b => a ≠ b ∧ a < 21 ∧ b < 21) → (is.map fun i => ([x, qt, qta, qx, qxa, qp, qpa, ql, qr, qi, qf, qs, qd, qd1, qd2, qd3, qd4, qo, qoa, qe, qh] : List Nat).getD i 0).Nodup := by
    intro is hp
    unfold List.Nodup
    rw [List.pairwise_map]
    exact hp.imp (fun g => nd_ne h g.2.1 g.2.2 g.1)
  exact key [2, 1, 4, 3, 6, 5, 7, 8, 9, 10, 11, 14, 13, 15, 16, 12, 18, 17, 19, 20, 0] (by decide)

