/-! Constants: numbers and texts. -/
section LdRows
variable {cl : List vw_C} {base : Nat} {X : pmX} {Rt : pmR} {G : pmK} {pc : Nat} {L : pmL} {st : List Value} {M : pmM} {kc ks : Nat}
theorem pg_ldi (hG : pm_cl cl base X Rt G) {i : Nat} {v : Int32} (hc : X.code pc = some (.ldc i)) (hv : X.ci i = some v) (h : G (pc + 2) L (.int v :: st) M kc ks) : G pc L st M kc ks := hG.1 _ _ _ _ _ _ _ hc (Or.inl ⟨v, hv, h⟩)
theorem pg_lds (hG : pm_cl cl base X Rt G) {i : Nat} {a : Nat} (hc : X.code pc = some (.ldc i)) (hv : X.str i = some a) (h : G (pc + 2) L (.ref a :: st) M kc ks) : G pc L st M kc ks := hG.1 _ _ _ _ _ _ _ hc (Or.inr ⟨a, hv, h⟩)
theorem pg_lwi (hG : pm_cl cl base X Rt G) {i : Nat} {v : Int32} (hc : X.code pc = some (.ldc_w i)) (hv : X.ci i = some v) (h : G (pc + 3) L (.int v :: st) M kc ks) : G pc L st M kc ks := hG.1 _ _ _ _ _ _ _ hc (Or.inl ⟨v, hv, h⟩)
theorem pg_lws (hG : pm_cl cl base X Rt G) {i : Nat} {a : Nat} (hc : X.code pc = some (.ldc_w i)) (hv : X.str i = some a) (h : G (pc + 3) L (.ref a :: st) M kc ks) : G pc L st M kc ks := hG.1 _ _ _ _ _ _ _ hc (Or.inr ⟨a, hv, h⟩)
end LdRows
/-! Looking rows up by number: links and routers of class and model. -/
/-- entry j below t of a row of things, or null -/
theorem va_rf_none : va_rf none = Value.null := rfl
set_option maxRecDepth 100000 in
theorem s_Rf_linkAt (base : Nat) (sa : Nat → Nat) {x d n t : Nat} {ty : FieldType} {F : Nat → Value} {f : Nat → Option Nat} {y : Int32} {M : pmM} {Rt : pmR} {kc ks : Nat} (hx : M x = some (.inr (11, obL 20 F))) (h7 : F 7 = .int (nI t)) (h6 : F 6 = .ref d) (hd : M d = some (.inl (ty, n, .inr (.inr (.inr (.inr f)))))) (hty : ty.isReference = true) (htn : t ≤ n) (hn : n < 2 ^ 31)
    (k0 : (y < 0 ∨ ∃ j : Nat, j < 2 ^ 31 ∧ y = nI j ∧ t ≤ j) → Rt (some .null) M kc ks) (k1 : ∀ j : Nat, y = nI j → j < t → Rt (some (va_rf (f j))) M kc ks) : kP_Rf_linkAt base sa [.ref x, .int y] M kc ks Rt := by
  refine ⟨Nat.le_of_ble_eq_true rfl, fun G hG => ?_⟩
  refine pgs hG rfl rfl ?_
  refine pz_lt hG (t := 12) rfl rfl (fun c1 => ?_) (fun c1 => ?_)
  · refine pgs hG rfl rfl ?_
    refine pg_go hG (t := 22) rfl rfl ?_
    exact pg_ra (q := none) hG rfl rfl rfl (k0 (Or.inl c1))
  · refine pgs hG rfl rfl ?_
    refine pgs hG rfl rfl ?_
    refine pg_gn hG rfl rfl hx rfl h7 ?_
    obtain ⟨j, hj, rfl⟩ := nI_of c1
    refine pi_lt hG (t := 16) rfl rfl (fun c9 => ?_) (fun c9 => ?_)
    · have hjt : j < t := (nI_ltI hj (by omega)).mp c9
      refine pgs hG rfl rfl ?_
      refine pg_gn hG rfl rfl hx rfl h6 ?_
      refine pgs hG rfl rfl ?_
      refine pg_aa hG rfl hd hty (vp_in_nI (by omega) hn) ?_
      rw [nI_clamp hj]
      exact pg_ra hG rfl rfl rfl (k1 j rfl hjt)
    · have hjt : t ≤ j := by
        rcases Nat.lt_or_ge j t with h | h
        · exact absurd ((nI_ltI hj (by omega)).mpr h) c9
        · exact h
      refine pgs hG rfl rfl ?_
      refine pg_go hG (t := 22) rfl rfl ?_
      exact pg_ra (q := none) hG rfl rfl rfl (k0 (Or.inr ⟨j, hj, rfl, hjt⟩))
set_option maxRecDepth 100000 in
theorem s_Rf_routerAt (base : Nat) (sa : Nat → Nat) {x d n t : Nat} {ty : FieldType} {F : Nat → Value} {f : Nat → Option Nat} {y : Int32} {M : pmM} {Rt : pmR} {kc ks : Nat} (hx : M x = some (.inr (11, obL 20 F))) (h9 : F 9 = .int (nI t)) (h8 : F 8 = .ref d) (hd : M d = some (.inl (ty, n, .inr (.inr (.inr (.inr f)))))) (hty : ty.isReference = true) (htn : t ≤ n) (hn : n < 2 ^ 31)
    (k0 : (y < 0 ∨ ∃ j : Nat, j < 2 ^ 31 ∧ y = nI j ∧ t ≤ j) → Rt (some .null) M kc ks) (k1 : ∀ j : Nat, y = nI j → j < t → Rt (some (va_rf (f j))) M kc ks) : kP_Rf_routerAt base sa [.ref x, .int y] M kc ks Rt := by
  refine ⟨Nat.le_of_ble_eq_true rfl, fun G hG => ?_⟩
  refine pgs hG rfl rfl ?_
  refine pz_lt hG (t := 12) rfl rfl (fun c1 => ?_) (fun c1 => ?_)
  · refine pgs hG rfl rfl ?_
    refine pg_go hG (t := 22) rfl rfl ?_
    exact pg_ra (q := none) hG rfl rfl rfl (k0 (Or.inl c1))
  · refine pgs hG rfl rfl ?_
    refine pgs hG rfl rfl ?_
    refine pg_gn hG rfl rfl hx rfl h9 ?_
    obtain ⟨j, hj, rfl⟩ := nI_of c1
    refine pi_lt hG (t := 16) rfl rfl (fun c9 => ?_) (fun c9 => ?_)
    · have hjt : j < t := (nI_ltI hj (by omega)).mp c9
      refine pgs hG rfl rfl ?_
      refine pg_gn hG rfl rfl hx rfl h8 ?_
      refine pgs hG rfl rfl ?_
      refine pg_aa hG rfl hd hty (vp_in_nI (by omega) hn) ?_
      rw [nI_clamp hj]
      exact pg_ra hG rfl rfl rfl (k1 j rfl hjt)
    · have hjt : t ≤ j := by
        rcases Nat.lt_or_ge j t with h | h
        · exact absurd ((nI_ltI hj (by omega)).mpr h) c9
        · exact h
      refine pgs hG rfl rfl ?_
      refine pg_go hG (t := 22) rfl rfl ?_
      exact pg_ra (q := none) hG rfl rfl rfl (k0 (Or.inr ⟨j, hj, rfl, hjt⟩))
/-- a number outside t rows -/
def outR (y : Int32) (t : Nat) : Prop := y < 0 ∨ ∃ j : Nat, j < 2 ^ 31 ∧ y = nI j ∧ t ≤ j
set_option maxRecDepth 100000 in
/-- lose of the class: the link's number of datagrams to lose is written -/
theorem s_Rf_lose (base : Nat) (sa : Nat → Nat) {x d n t : Nat} {ty : FieldType} {F : Nat → Value} {f : Nat → Option Nat} {y z : Int32} {M : pmM} {Rt : pmR} {kc ks : Nat} (hx : M x = some (.inr (11, obL 20 F))) (h7 : F 7 = .int (nI t)) (h6 : F 6 = .ref d) (hd : M d = some (.inl (ty, n, .inr (.inr (.inr (.inr f)))))) (hty : ty.isReference = true) (htn : t ≤ n) (hn : n < 2 ^ 31)
    (hl : ∀ j, j < t → ∃ a fs, f j = some a ∧ base ≤ a ∧ M a = some (.inr (3, fs)) ∧ 7 ≤ fs.length)
    (k0 : (outR y t ∨ z < 0) → Rt (some (.int 0)) M kc ks) (k1 : ∀ (j a : Nat) (fs : List Value), y = nI j → j < t → ¬ z < 0 → f j = some a → M a = some (.inr (3, fs)) → Rt (some (.int 1)) (pm_up M a (.inr (3, fs.set 6 (.int z)))) kc ks) : kP_Rf_lose base sa [.ref x, .int y, .int z] M kc ks Rt := by
  refine ⟨Nat.le_of_ble_eq_true rfl, fun G hG => ?_⟩
  refine pgs hG rfl rfl ?_
  refine pgs hG rfl rfl ?_
  refine pg_cal hG 0 rfl rfl (Nat.le_of_ble_eq_true rfl) (by decide) (Nat.le_of_ble_eq_true rfl) ?_
  refine pm_rcv_of (As' := [.int y]) hx (s_Rf_linkAt base sa hx h7 h6 hd hty htn hn (fun c => ?_) (fun j hy hj => ?_))
  · refine pgc hG rfl rfl (Nat.le_of_ble_eq_true rfl) ?_
    refine pgs hG rfl rfl ?_
    refine pn_null (q := none) hG (t := 14) rfl rfl (fun c7 => ?_) (fun c7 => absurd rfl c7)
    refine pgs hG rfl rfl ?_
    exact pg_ri hG rfl rfl rfl (k0 (Or.inl c))
  · obtain ⟨a, fs, hfa, hba, hMa, hfl⟩ := hl j hj
    rw [hfa]
    refine pgc hG rfl rfl (Nat.le_of_ble_eq_true rfl) ?_
    refine pgs hG rfl rfl ?_
    refine pn_null (q := some a) hG (t := 14) rfl rfl (fun c7 => absurd c7 (by simp)) (fun c7 => ?_)
    refine pgs hG rfl rfl ?_
    refine pz_ge hG (t := 16) rfl rfl (fun c11 => ?_) (fun c11 => ?_)
    · refine pgs hG rfl rfl ?_
      refine pgs hG rfl rfl ?_
      refine pg_pf hG rfl rfl hMa hba hfl rfl rfl ?_
      refine pgs hG rfl rfl ?_
      exact pg_ri hG rfl rfl rfl (k1 j a fs hy hj (Int32.not_lt.mpr c11) hfa hMa)
    · refine pgs hG rfl rfl ?_
      exact pg_ri hG rfl rfl rfl (k0 (Or.inr (Int32.not_le.mp c11)))
set_option maxRecDepth 100000 in
/-- count of the class -/
theorem s_Rf_count (base : Nat) (sa : Nat → Nat) {x d n t : Nat} {ty : FieldType} {F : Nat → Value} {f : Nat → Option Nat} {y z : Int32} {M : pmM} {Rt : pmR} {kc ks : Nat} (hx : M x = some (.inr (11, obL 20 F))) (h9 : F 9 = .int (nI t)) (h8 : F 8 = .ref d) (hd : M d = some (.inl (ty, n, .inr (.inr (.inr (.inr f)))))) (hty : ty.isReference = true) (htn : t ≤ n) (hn : n < 2 ^ 31)
    (hl : ∀ j, j < t → ∃ a fs c g, f j = some a ∧ M a = some (.inr (9, fs)) ∧ fs[16]? = some (.ref c) ∧ M c = some (.inl (.int, 11, .inl g)))
    (k0 : (outR y t ∨ z < 0 ∨ ¬ z < 11) → Rt (some (.int (-1))) M kc ks) (k1 : ∀ (j i a c : Nat) (fs : List Value) (g : Nat → Int32), y = nI j → j < t → z = nI i → i < 11 → f j = some a → M a = some (.inr (9, fs)) → fs[16]? = some (.ref c) → M c = some (.inl (.int, 11, .inl g)) → Rt (some (.int (g i))) M kc ks) : kP_Rf_count base sa [.ref x, .int y, .int z] M kc ks Rt := by
  refine ⟨Nat.le_of_ble_eq_true rfl, fun G hG => ?_⟩
  refine pgs hG rfl rfl ?_
  refine pgs hG rfl rfl ?_
  refine pg_cal hG 0 rfl rfl (Nat.le_of_ble_eq_true rfl) (by decide) (Nat.le_of_ble_eq_true rfl) ?_
  refine pm_rcv_of (As' := [.int y]) hx (s_Rf_routerAt base sa hx h9 h8 hd hty htn hn (fun c => ?_) (fun j hy hj => ?_))
  · refine pgc hG rfl rfl (Nat.le_of_ble_eq_true rfl) ?_
    refine pgs hG rfl rfl ?_
    refine pn_null (q := none) hG (t := 20) rfl rfl (fun c7 => ?_) (fun c7 => absurd rfl c7)
    refine pgs hG rfl rfl ?_
    exact pg_ri hG rfl rfl rfl (k0 (Or.inl c))
  · obtain ⟨a, fs, c, g, hfa, hMa, hfc, hMc⟩ := hl j hj
    rw [hfa]
    refine pgc hG rfl rfl (Nat.le_of_ble_eq_true rfl) ?_
    refine pgs hG rfl rfl ?_
    refine pn_null (q := some a) hG (t := 20) rfl rfl (fun c7 => absurd c7 (by simp)) (fun c7 => ?_)
    refine pgs hG rfl rfl ?_
    refine pz_lt hG (t := 20) rfl rfl (fun c11 => ?_) (fun c11 => ?_)
    · refine pgs hG rfl rfl ?_
      exact pg_ri hG rfl rfl rfl (k0 (Or.inr (Or.inl c11)))
    · refine pgs hG rfl rfl ?_
      refine pgs hG rfl rfl ?_
      rw [show (Int8.ofInt 11).toInt32 = (11 : Int32) from by decide]
      refine pi_lt hG (t := 22) rfl rfl (fun c17 => ?_) (fun c17 => ?_)
      · obtain ⟨i, hi, rfl⟩ := nI_of c11
        have hi11 : i < 11 := (nI_ltI hi (by decide)).mp (show nI i < nI 11 from c17)
        refine pgs hG rfl rfl ?_
        refine pg_gf hG rfl rfl hMa hfc ?_
        refine pgs hG rfl rfl ?_
        refine pg_ia hG rfl hMc (vp_in_nI hi11 (by decide)) ?_
        rw [nI_clamp hi]
        exact pg_ri hG rfl rfl rfl (k1 j i a c fs g hy hj rfl hi11 hfa hMa hfc hMc)
      · refine pgs hG rfl rfl ?_
        exact pg_ri hG rfl rfl rfl (k0 (Or.inr (Or.inr c17)))
set_option maxRecDepth 100000 in
/-- routes of the class -/
theorem s_Rf_routes (base : Nat) (sa : Nat → Nat) {x d n t : Nat} {ty : FieldType} {F : Nat → Value} {f : Nat → Option Nat} {y : Int32} {M : pmM} {Rt : pmR} {kc ks : Nat} (hx : M x = some (.inr (11, obL 20 F))) (h9 : F 9 = .int (nI t)) (h8 : F 8 = .ref d) (hd : M d = some (.inl (ty, n, .inr (.inr (.inr (.inr f)))))) (hty : ty.isReference = true) (htn : t ≤ n) (hn : n < 2 ^ 31)
    (hl : ∀ j, j < t → ∃ a fs c gs w, f j = some a ∧ M a = some (.inr (9, fs)) ∧ fs[6]? = some (.ref c) ∧ M c = some (.inr (10, gs)) ∧ gs[1]? = some (.int w))
    (k0 : outR y t → Rt (some (.int (-1))) M kc ks) (k1 : ∀ (j a c : Nat) (fs gs : List Value) (w : Int32), y = nI j → j < t → f j = some a → M a = some (.inr (9, fs)) → fs[6]? = some (.ref c) → M c = some (.inr (10, gs)) → gs[1]? = some (.int w) → Rt (some (.int w)) M kc ks) : kP_Rf_routes base sa [.ref x, .int y] M kc ks Rt := by
  refine ⟨Nat.le_of_ble_eq_true rfl, fun G hG => ?_⟩
  refine pgs hG rfl rfl ?_
  refine pgs hG rfl rfl ?_
  refine pg_cal hG 0 rfl rfl (Nat.le_of_ble_eq_true rfl) (by decide) (Nat.le_of_ble_eq_true rfl) ?_
  refine pm_rcv_of (As' := [.int y]) hx (s_Rf_routerAt base sa hx h9 h8 hd hty htn hn (fun c => ?_) (fun j hy hj => ?_))
  · refine pgc hG rfl rfl (Nat.le_of_ble_eq_true rfl) ?_
    refine pgs hG rfl rfl ?_
    refine pn_nonnull (q := none) hG (t := 14) rfl rfl (fun c7 => absurd rfl c7) (fun c7 => ?_)
    refine pgs hG rfl rfl ?_
    refine pg_go hG (t := 21) rfl rfl ?_
    exact pg_ri hG rfl rfl rfl (k0 c)
  · obtain ⟨a, fs, c, gs, w, hfa, hMa, hfc, hMc, hw⟩ := hl j hj
    rw [hfa]
    refine pgc hG rfl rfl (Nat.le_of_ble_eq_true rfl) ?_
    refine pgs hG rfl rfl ?_
    refine pn_nonnull (q := some a) hG (t := 14) rfl rfl (fun c7 => ?_) (fun c7 => absurd c7 (by simp))
    refine pgs hG rfl rfl ?_
    refine pg_gf hG rfl rfl hMa hfc ?_
    refine pg_gf hG rfl rfl hMc hw ?_
    exact pg_ri hG rfl rfl rfl (k1 j a c fs gs w hy hj hfa hMa hfc hMc hw)
set_option maxRecDepth 100000 in
theorem s_Mo_isRouter (base : Nat) (sa : Nat → Nat) {m t : Nat} {F : Nat → Value} {y : Int32} {M : pmM} {Rt : pmR} {kc ks : Nat} (hm : M m = some (.inr (12, moL F))) (h : F 37 = .int (nI t)) (ht : t < 2 ^ 31)
    (k0 : outR y t → Rt (some (.int 0)) M kc ks) (k1 : ∀ j : Nat, y = nI j → j < t → Rt (some (.int 1)) M kc ks) : kP_Mo_isRouter base sa [.ref m, .int y] M kc ks Rt := by
  refine ⟨Nat.le_of_ble_eq_true rfl, fun G hG => ?_⟩
  refine pgs hG rfl rfl ?_
  refine pz_lt hG (t := 16) rfl rfl (fun c1 => ?_) (fun c1 => ?_)
  · refine pgs hG rfl rfl ?_
    exact pg_ri hG rfl rfl rfl (k0 (Or.inl c1))
  · refine pgs hG rfl rfl ?_
    refine pgs hG rfl rfl ?_
    refine pg_gm hG rfl rfl hm rfl h ?_
    obtain ⟨j, hj, rfl⟩ := nI_of c1
    refine pi_ge hG (t := 16) rfl rfl (fun c9 => ?_) (fun c9 => ?_)
    · refine pgs hG rfl rfl ?_
      exact pg_ri hG rfl rfl rfl (k0 (Or.inr ⟨j, hj, rfl, (nI_leI ht hj).mp c9⟩))
    · refine pgs hG rfl rfl ?_
      refine pg_go hG (t := 17) rfl rfl ?_
      refine pg_ri hG rfl rfl rfl (k1 j rfl ?_)
      rcases Nat.lt_or_ge j t with h | h
      · exact h
      · exact absurd ((nI_leI ht hj).mpr h) c9
set_option maxRecDepth 100000 in
/-- lose of the model -/
theorem s_Mo_lose (base : Nat) (sa : Nat → Nat) {m t q n : Nat} {F : Nat → Value} {g : Nat → Int32} {y z : Int32} {M : pmM} {Rt : pmR} {kc ks : Nat} (hm : M m = some (.inr (12, moL F))) (hb : base ≤ m) (h17 : F 17 = .int (nI t)) (h24 : F 24 = .ref q) (hq : M q = some (.inl (.int, n, .inl g))) (hqb : base ≤ q) (htn : t ≤ n) (hn : n < 2 ^ 31)
    (k0 : (outR y t ∨ z < 0) → Rt (some (.int 0)) (pm_up M m (.inr (12, moL (upF F 0 (.int 0))))) kc ks) (k1 : ∀ j : Nat, y = nI j → j < t → ¬ z < 0 → Rt (some (.int 1)) (pm_up (pm_up M m (.inr (12, moL (upF F 0 (.int 0))))) q (.inl (.int, n, .inl (upd g j z)))) kc ks) : kP_Mo_lose base sa [.ref m, .int y, .int z] M kc ks Rt := by
  have hqm : q ≠ m := by
    rintro rfl
    rw [hm] at hq
    exact absurd (Option.some.inj hq) (by simp)
  refine ⟨Nat.le_of_ble_eq_true rfl, fun G hG => ?_⟩
  refine pgs hG rfl rfl ?_
  refine pgs hG rfl rfl ?_
  refine pg_pm hG rfl rfl hm hb rfl rfl rfl ?_
  refine pgs hG rfl rfl ?_
  refine pz_lt hG (t := 21) rfl rfl (fun c6 => ?_) (fun c6 => ?_)
  · refine pgs hG rfl rfl ?_
    exact pg_ri hG rfl rfl rfl (k0 (Or.inl (Or.inl c6)))
  · refine pgs hG rfl rfl ?_
    refine pgs hG rfl rfl ?_
    refine pg_gm hG rfl rfl (pm_up_self _ _ _) rfl ((upF_n F _ (by decide)).trans h17) ?_
    obtain ⟨j, hj, rfl⟩ := nI_of c6
    refine pi_ge hG (t := 21) rfl rfl (fun c14 => ?_) (fun c14 => ?_)
    · refine pgs hG rfl rfl ?_
      exact pg_ri hG rfl rfl rfl (k0 (Or.inl (Or.inr ⟨j, hj, rfl, (nI_leI (by omega) hj).mp c14⟩)))
    · have hjt : j < t := by
        rcases Nat.lt_or_ge j t with h | h
        · exact h
        · exact absurd ((nI_leI (by omega) hj).mpr h) c14
      refine pgs hG rfl rfl ?_
      refine pz_ge hG (t := 23) rfl rfl (fun c18 => ?_) (fun c18 => ?_)
      · refine pgs hG rfl rfl ?_
        refine pg_gm hG rfl rfl (pm_up_self _ _ _) rfl ((upF_n F _ (by decide)).trans h24) ?_
        refine pgs hG rfl rfl ?_
        refine pgs hG rfl rfl ?_
        refine pg_is hG rfl ((pm_up_ne _ _ hqm).trans hq) hqb (vp_in_nI (by omega) hn) ?_
        rw [nI_clamp hj]
        refine pgs hG rfl rfl ?_
        exact pg_ri hG rfl rfl rfl (k1 j rfl hjt (Int32.not_lt.mpr c18))
      · refine pgs hG rfl rfl ?_
        exact pg_ri hG rfl rfl rfl (k0 (Or.inr (Int32.not_le.mp c18)))
set_option maxRecDepth 100000 in
/-- count of the model -/
theorem s_Mo_count (base : Nat) (sa : Nat → Nat) {m t q n : Nat} {F : Nat → Value} {g : Nat → Int32} {y z : Int32} {M : pmM} {Rt : pmR} {kc ks : Nat} (hm : M m = some (.inr (12, moL F))) (hb : base ≤ m) (h37 : F 37 = .int (nI t)) (h45 : F 45 = .ref q) (hq : M q = some (.inl (.int, n, .inl g))) (htn : 11 * t ≤ n) (hn : n < 2 ^ 31)
    (k0 : (outR y t ∨ z < 0 ∨ ¬ z < 11) → Rt (some (.int (-1))) (pm_up M m (.inr (12, moL (upF F 0 (.int 0))))) kc ks) (k1 : ∀ j i : Nat, y = nI j → j < t → z = nI i → i < 11 → Rt (some (.int (g (11 * j + i)))) (pm_up M m (.inr (12, moL (upF F 0 (.int 0))))) kc ks) : kP_Mo_count base sa [.ref m, .int y, .int z] M kc ks Rt := by
  have hqm : q ≠ m := by
    rintro rfl
    rw [hm] at hq
    exact absurd (Option.some.inj hq) (by simp)
  refine ⟨Nat.le_of_ble_eq_true rfl, fun G hG => ?_⟩
  refine pgs hG rfl rfl ?_
  refine pgs hG rfl rfl ?_
  refine pg_pm hG rfl rfl hm hb rfl rfl rfl ?_
  refine pgs hG rfl rfl ?_
  refine pgs hG rfl rfl ?_
  refine pg_cal hG 0 rfl rfl (Nat.le_of_ble_eq_true rfl) (by decide) (Nat.le_of_ble_eq_true rfl) ?_
  refine pm_rcv_of (As' := [.int y]) (pm_up_self _ _ _) (s_Mo_isRouter base sa (pm_up_self _ _ _) ((upF_n F _ (by decide)).trans h37) (by omega) (fun c => ?_) (fun j hy hj => ?_))
  · refine pz_eq hG (t := 37) rfl rfl (fun c10 => ?_) (fun c10 => absurd rfl c10)
    refine pgs hG rfl rfl ?_
    exact pg_ri hG rfl rfl rfl (k0 (Or.inl c))
  · refine pz_eq hG (t := 37) rfl rfl (fun c10 => absurd c10 (by decide)) (fun c10 => ?_)
    refine pgs hG rfl rfl ?_
    refine pz_lt hG (t := 37) rfl rfl (fun c14 => ?_) (fun c14 => ?_)
    · refine pgs hG rfl rfl ?_
      exact pg_ri hG rfl rfl rfl (k0 (Or.inr (Or.inl c14)))
    · refine pgs hG rfl rfl ?_
      refine pgs hG rfl rfl ?_
      rw [show (Int8.ofInt 11).toInt32 = nI 11 from by decide]
      obtain ⟨i, hi, rfl⟩ := nI_of c14
      refine pi_ge hG (t := 37) rfl rfl (fun c20 => ?_) (fun c20 => ?_)
      · refine pgs hG rfl rfl ?_
        exact pg_ri hG rfl rfl rfl (k0 (Or.inr (Or.inr (Int32.not_lt.mpr c20))))
      · have hi11 : i < 11 := by
          rcases Nat.lt_or_ge i 11 with h | h
          · exact h
          · exact absurd ((nI_leI (by decide) hi).mpr h) c20
        subst hy
        refine pgs hG rfl rfl ?_
        refine pg_gm hG rfl rfl (pm_up_self _ _ _) rfl ((upF_n F _ (by decide)).trans h45) ?_
        refine pgs hG rfl rfl ?_
        refine pgs hG rfl rfl ?_
        refine pgs hG rfl rfl ?_
        refine pgs hG rfl rfl ?_
        refine pgs hG rfl rfl ?_
        rw [show (Int8.ofInt 11).toInt32 * nI j + nI i = nI (11 * j + i) from by rw [show (Int8.ofInt 11).toInt32 = nI 11 from by decide, pk_mul, nI_add]]
        refine pg_ia hG rfl ((pm_up_ne _ _ hqm).trans hq) (vp_in_nI (by omega) hn) ?_
        rw [nI_clamp (by omega)]
        refine pg_go hG (t := 38) rfl rfl ?_
        exact pg_ri hG rfl rfl rfl (k1 j i rfl hj rfl hi11)
set_option maxRecDepth 100000 in
/-- routes of the model -/
theorem s_Mo_routes (base : Nat) (sa : Nat → Nat) {m t q n : Nat} {F : Nat → Value} {g : Nat → Int32} {y : Int32} {M : pmM} {Rt : pmR} {kc ks : Nat} (hm : M m = some (.inr (12, moL F))) (hb : base ≤ m) (h37 : F 37 = .int (nI t)) (h105 : F 105 = .ref q) (hq : M q = some (.inl (.int, n, .inl g))) (htn : t ≤ n) (hn : n < 2 ^ 31)
    (k0 : outR y t → Rt (some (.int (-1))) (pm_up M m (.inr (12, moL (upF F 0 (.int 0))))) kc ks) (k1 : ∀ j : Nat, y = nI j → j < t → Rt (some (.int (g j))) (pm_up M m (.inr (12, moL (upF F 0 (.int 0))))) kc ks) : kP_Mo_routes base sa [.ref m, .int y] M kc ks Rt := by
  have hqm : q ≠ m := by
    rintro rfl
    rw [hm] at hq
    exact absurd (Option.some.inj hq) (by simp)
  refine ⟨Nat.le_of_ble_eq_true rfl, fun G hG => ?_⟩
  refine pgs hG rfl rfl ?_
  refine pgs hG rfl rfl ?_
  refine pg_pm hG rfl rfl hm hb rfl rfl rfl ?_
  refine pgs hG rfl rfl ?_
  refine pgs hG rfl rfl ?_
  refine pg_cal hG 0 rfl rfl (Nat.le_of_ble_eq_true rfl) (by decide) (Nat.le_of_ble_eq_true rfl) ?_
  refine pm_rcv_of (As' := [.int y]) (pm_up_self _ _ _) (s_Mo_isRouter base sa (pm_up_self _ _ _) ((upF_n F _ (by decide)).trans h37) (by omega) (fun c => ?_) (fun j hy hj => ?_))
  · refine pz_eq hG (t := 22) rfl rfl (fun c10 => ?_) (fun c10 => absurd rfl c10)
    refine pgs hG rfl rfl ?_
    exact pg_ri hG rfl rfl rfl (k0 c)
  · refine pz_eq hG (t := 22) rfl rfl (fun c10 => absurd c10 (by decide)) (fun c10 => ?_)
    subst hy
    refine pgs hG rfl rfl ?_
    refine pg_gm hG rfl rfl (pm_up_self _ _ _) rfl ((upF_n F _ (by decide)).trans h105) ?_
    refine pgs hG rfl rfl ?_
    refine pg_ia hG rfl ((pm_up_ne _ _ hqm).trans hq) (vp_in_nI (by omega) hn) ?_
    rw [nI_clamp (by omega)]
    refine pg_go hG (t := 23) rfl rfl ?_
    exact pg_ri hG rfl rfl rfl (k1 j rfl hj)
