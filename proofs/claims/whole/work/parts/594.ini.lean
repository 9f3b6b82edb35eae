/-! Objects that are made: what stood before stands. -/
/-- the object a of n fields stands; all that stood ahead stands as it did -/
def ini (M0 M : pmM) (ci n a : Nat) : Prop := (∃ fs : List Value, M a = some (.inr (ci, fs)) ∧ fs.length = n) ∧ ∀ c, M0 c ≠ none → c ≠ a → M c = M0 c
theorem ini_rf {M : pmM} {ci n a : Nat} {fs : List Value} (h : M a = some (.inr (ci, fs))) (hl : fs.length = n) : ini M M ci n a := ⟨⟨fs, h, hl⟩, fun _ _ _ => rfl⟩
theorem ini_new {M0 M : pmM} {ci n a q : Nat} {e : pmE} (h : ini M0 M ci n a) (hq : M q = none) : ini M0 (pm_up M q e) ci n a := by
  obtain ⟨⟨fs, h1, h2⟩, h3⟩ := h
  refine ⟨⟨fs, ?_, h2⟩, fun c hc hca => ?_⟩
  · refine (pm_up_ne _ _ ?_).trans h1
    rintro rfl
    rw [hq] at h1
    cases h1
  · refine (pm_up_ne _ _ ?_).trans (h3 c hc hca)
    rintro rfl
    rw [h3 c hc hca] at hq
    exact hc hq
theorem ini_out {M0 M M' : pmM} {ci n a : Nat} (h : ini M0 M ci n a) (h' : ∀ c, M c ≠ none → M' c = M c) : ini M0 M' ci n a := by
  obtain ⟨⟨fs, h1, h2⟩, h3⟩ := h
  refine ⟨⟨fs, (h' a (by rw [h1]; simp)).trans h1, h2⟩, fun c hc hca => ?_⟩
  rw [h' c (by rw [h3 c hc hca]; exact hc), h3 c hc hca]
theorem pm_mul_old {M : pmM} {q n k c : Nat} {ty : FieldType} (hq : ∀ j, j ≤ n → M (q + j) = none) (hc : M c ≠ none) : pm_mul M q ty n k c = M c := by
  refine if_neg (fun h => hc ?_)
  obtain ⟨j, rfl⟩ : ∃ j, c = q + j := ⟨c - q, by omega⟩
  exact hq j (by omega)
section IniRows
variable {cl : List vw_C} {base : Nat} {X : pmX} {Rt : pmR} {G : pmK} {pc : Nat} {L : pmL} {st : List Value} {M M0 : pmM} {kc ks : Nat}
theorem ini_pf (hG : pm_cl cl base X Rt G) {i ci k a n : Nat} {ty : FieldType} {v : Value} (hc : X.code pc = some (.putfield i)) (hf : X.fld i = some (ci, k, ty, true)) (h : ini M0 M ci n a) (hb : base ≤ a) (hk : Nat.ble (k + 1) n = true) (hn : narrow ty v = v) (hfit : fits ty v = true) (g : ∀ M', ini M0 M' ci n a → G (pc + 3) L st M' kc ks) : G pc L (v :: .ref a :: st) M kc ks := by
  obtain ⟨⟨fs, h1, h2⟩, h3⟩ := h
  refine pg_pf hG hc hf h1 hb (by rw [h2]; exact Nat.le_of_ble_eq_true hk) hn hfit (g _ ⟨⟨_, pm_up_self _ _ _, (List.length_set).trans h2⟩, fun c hc hca => ?_⟩)
  exact (pm_up_ne _ _ hca).trans (h3 c hc hca)
theorem ini_nar (hG : pm_cl cl base X Rt G) {ci a n N : Nat} {t : ArrayType} (hc : X.code pc = some (.newarray t)) (ht : pm_nar t = true) (hn : N ≤ 4000000) (h1 : 1 ≤ kc) (h2 : N ≤ ks) (h : ini M0 M ci n a) (g : ∀ q M', base ≤ q → ini M0 M' ci n a → G (pc + 2) L (.ref q :: st) M' (kc - 1) (ks - N)) : G pc L (.int (nI N) :: st) M kc ks :=
  pg_nar hG hc ht hn h1 h2 (fun q hq hbq => g q _ hbq (ini_new h hq))
theorem ini_mul (hG : pm_cl cl base X Rt G) {ci a n i N K : Nat} {ty : FieldType} (hc : X.code pc = some (.multianewarray i 2)) (hx : X.cal (100000 + i) = some (3, 2, pm_mna base ty)) (hs : pm_cats st ≤ 8) (hN : N ≤ 4000) (hK : K ≤ 4000) (h1 : 1 + N ≤ kc) (h2 : N + N * K ≤ ks) (h : ini M0 M ci n a) (g : ∀ q M', base ≤ q → ini M0 M' ci n a → G (pc + 4) L (.ref q :: st) M' (kc - (1 + N)) (ks - (N + N * K))) : G pc L (.int (nI K) :: .int (nI N) :: st) M kc ks := by
  refine hG.1 _ _ _ _ _ _ _ hc ?_
  show pm_opt (X.cal (100000 + i)) _
  rw [hx]
  have e1 : (nI N).toNatClampNeg = N := nI_clamp (by omega)
  have e2 : (nI K).toNatClampNeg = K := nI_clamp (by omega)
  have z1 : ¬ nI N < 0 := by
    rw [Int32.lt_iff_toInt_lt, nI_toInt (by omega)]
    show ¬ ((N : Int) < 0)
    omega
  have z2 : ¬ nI K < 0 := by
    rw [Int32.lt_iff_toInt_lt, nI_toInt (by omega)]
    show ¬ ((K : Int) < 0)
    omega
  refine And.intro rfl (And.intro rfl (And.intro (by show 2 ≤ st.length + 1 + 1; omega) (And.intro hs ?_)))
  refine Exists.intro (nI N) (Exists.intro (nI K) ⟨rfl, z1, z2, by omega, by omega, by omega, by rw [e1, e2]; exact h2, fun q hbq hq => ?_⟩)
  rw [e1] at hq
  rw [e1, e2]
  exact g q _ hbq (ini_out h (fun c hc => pm_mul_old hq hc))
end IniRows
set_option maxRecDepth 100000 in
/-- a chain is made: eleven cells and all that stood before -/
theorem w_Ch_init (base : Nat) (sa : Nat → Nat) {b : Nat} {M M0 : pmM} {Rt : pmR} {kc ks : Nat} (hbb : base ≤ b) (hI : ini M0 M 1 12 b) (h1 : 20 ≤ kc) (h2 : 300 ≤ ks) (k : ∀ M', ini M0 M' 1 12 b → Rt none M' (kc - 12) (ks - 185)) : kP_Ch_init base sa [.ref b] M kc ks Rt := by
  refine ⟨Nat.le_of_ble_eq_true rfl, fun G hG => ?_⟩
  refine pgs hG rfl rfl ?_
  refine pg_cal hG 1 rfl rfl (Nat.le_of_ble_eq_true rfl) (by decide) (Nat.le_of_ble_eq_true rfl) ⟨b, rfl, ?_⟩
  refine pgs hG rfl rfl ?_
  refine pgs hG rfl rfl ?_
  refine ini_pf hG rfl rfl hI hbb rfl rfl rfl (fun M1 hI => ?_)
  refine pgs hG rfl rfl ?_
  refine pgs hG rfl rfl ?_
  refine ini_nar hG (N := 16) rfl rfl (by decide) (by omega) (by omega) hI (fun q M1 hbq hI => ?_)
  refine ini_pf hG rfl rfl hI hbb rfl rfl rfl (fun M1 hI => ?_)
  refine pgs hG rfl rfl ?_
  refine pgs hG rfl rfl ?_
  refine ini_pf hG rfl rfl hI hbb rfl rfl rfl (fun M1 hI => ?_)
  refine pgs hG rfl rfl ?_
  refine pgs hG rfl rfl ?_
  refine ini_nar hG (N := 4) rfl rfl (by decide) (by omega) (by omega) hI (fun q M1 hbq hI => ?_)
  refine ini_pf hG rfl rfl hI hbb rfl rfl rfl (fun M1 hI => ?_)
  refine pgs hG rfl rfl ?_
  refine pgs hG rfl rfl ?_
  refine ini_nar hG (N := 4) rfl rfl (by decide) (by omega) (by omega) hI (fun q M1 hbq hI => ?_)
  refine ini_pf hG rfl rfl hI hbb rfl rfl rfl (fun M1 hI => ?_)
  refine pgs hG rfl rfl ?_
  refine pgs hG rfl rfl ?_
  refine ini_nar hG (N := 4) rfl rfl (by decide) (by omega) (by omega) hI (fun q M1 hbq hI => ?_)
  refine ini_pf hG rfl rfl hI hbb rfl rfl rfl (fun M1 hI => ?_)
  refine pgs hG rfl rfl ?_
  refine pgs hG rfl rfl ?_
  refine ini_nar hG (N := 4) rfl rfl (by decide) (by omega) (by omega) hI (fun q M1 hbq hI => ?_)
  refine ini_pf hG rfl rfl hI hbb rfl rfl rfl (fun M1 hI => ?_)
  refine pgs hG rfl rfl ?_
  refine pgs hG rfl rfl ?_
  refine pgs hG rfl rfl ?_
  refine ini_mul hG (N := 4) (K := 16) rfl rfl (Nat.le_of_ble_eq_true rfl) (by decide) (by decide) (by omega) (by omega) hI (fun q M1 hbq hI => ?_)
  refine ini_pf hG rfl rfl hI hbb rfl rfl rfl (fun M1 hI => ?_)
  refine pgs hG rfl rfl ?_
  refine pgs hG rfl rfl ?_
  refine ini_pf hG rfl rfl hI hbb rfl rfl rfl (fun M1 hI => ?_)
  refine pgs hG rfl rfl ?_
  refine pgs hG rfl rfl ?_
  refine ini_pf hG rfl rfl hI hbb rfl rfl rfl (fun M1 hI => ?_)
  refine pgs hG rfl rfl ?_
  refine pgs hG rfl rfl ?_
  refine ini_nar hG (N := 5) rfl rfl (by decide) (by omega) (by omega) hI (fun q M1 hbq hI => ?_)
  refine ini_pf hG rfl rfl hI hbb rfl rfl rfl (fun M1 hI => ?_)
  refine pgs hG rfl rfl ?_
  refine pgs hG rfl rfl ?_
  refine ini_nar hG (N := 80) rfl rfl (by decide) (by omega) (by omega) hI (fun q M1 hbq hI => ?_)
  refine ini_pf hG rfl rfl hI hbb rfl rfl rfl (fun M1 hI => ?_)
  refine pg_wb hG (kc' := kc - 12) (ks' := ks - 185) (by omega) (by omega) ?_
  exact pg_rv hG rfl rfl (k _ hI)
set_option maxRecDepth 100000 in
/-- the reader of lines is made: all that stood before stands -/
theorem w_Re_init (base : Nat) (sa : Nat → Nat) {b x : Nat} {M M0 : pmM} {Rt : pmR} {kc ks : Nat} (hbb : base ≤ b) (hI : ini M0 M 7 12 b) (h1 : 100 ≤ kc) (h2 : 1000 ≤ ks) (k : ∀ M', ini M0 M' 7 12 b → Rt none M' (kc - 30) (ks - 400)) : kP_Re_init base sa [.ref b, .ref x] M kc ks Rt := by
  refine ⟨Nat.le_of_ble_eq_true rfl, fun G hG => ?_⟩
  refine pgs hG rfl rfl ?_
  refine pg_cal hG 1 rfl rfl (Nat.le_of_ble_eq_true rfl) (by decide) (Nat.le_of_ble_eq_true rfl) ⟨b, rfl, ?_⟩
  refine pgs hG rfl rfl ?_
  refine pgs hG rfl rfl ?_
  refine ini_nar hG (N := 24) rfl rfl (by decide) (by omega) (by omega) hI (fun q M1 hbq hI => ?_)
  refine ini_pf hG rfl rfl hI hbb rfl rfl rfl (fun M1 hI => ?_)
  refine pgs hG rfl rfl ?_
  refine pgs hG rfl rfl ?_
  refine ini_nar hG (N := 24) rfl rfl (by decide) (by omega) (by omega) hI (fun q M1 hbq hI => ?_)
  refine ini_pf hG rfl rfl hI hbb rfl rfl rfl (fun M1 hI => ?_)
  refine pgs hG rfl rfl ?_
  refine pgs hG rfl rfl ?_
  refine ini_pf hG rfl rfl hI hbb rfl rfl rfl (fun M1 hI => ?_)
  refine pgs hG rfl rfl ?_
  refine pgs hG rfl rfl ?_
  refine ini_pf hG rfl rfl hI hbb rfl rfl rfl (fun M1 hI => ?_)
  refine pgs hG rfl rfl ?_
  refine pgs hG rfl rfl ?_
  refine ini_pf hG rfl rfl hI hbb rfl rfl rfl (fun M1 hI => ?_)
  refine pgs hG rfl rfl ?_
  refine pg_new hG rfl rfl (by omega) (by show 4 ≤ _; omega) (fun q1 hq1 hb1 => ?_)
  refine pg_wb hG (kc' := kc - 3) (ks' := ks - 52) (by omega) (by show ks - 52 ≤ ks - 24 - 24 - 4; omega) ?_
  refine pgc hG rfl rfl rfl ?_
  refine pg_cal hG 1 rfl rfl (Nat.le_of_ble_eq_true rfl) (by decide) (Nat.le_of_ble_eq_true rfl) ?_
  refine pm_rcv_of (As' := []) (pm_up_self _ _ _) (s_Pr_init base sa hb1 ?_)
  replace hI := ini_new (e := .inr (5, [.int 4, .long 0, .long 0, .int 0])) hI hq1
  refine ini_pf hG rfl rfl hI hbb rfl rfl rfl (fun M1 hI => ?_)
  refine pgs hG rfl rfl ?_
  refine pgs hG rfl rfl ?_
  refine ini_nar hG (N := 16) rfl rfl (by decide) (by omega) (by omega) hI (fun q M1 hbq hI => ?_)
  refine ini_pf hG rfl rfl hI hbb rfl rfl rfl (fun M1 hI => ?_)
  refine pgs hG rfl rfl ?_
  refine pgs hG rfl rfl ?_
  refine ini_pf hG rfl rfl hI hbb rfl rfl rfl (fun M1 hI => ?_)
  refine pgs hG rfl rfl ?_
  refine pgs hG rfl rfl ?_
  refine ini_pf hG rfl rfl hI hbb rfl rfl rfl (fun M1 hI => ?_)
  refine pgs hG rfl rfl ?_
  refine pgs hG rfl rfl ?_
  refine ini_pf hG rfl rfl hI hbb rfl rfl rfl (fun M1 hI => ?_)
  refine pgs hG rfl rfl ?_
  refine pg_new hG rfl rfl (by show 1 ≤ _; omega) (by show 12 ≤ _; omega) (fun q2 hq2 hb2 => ?_)
  refine pg_wb hG (kc' := kc - 5) (ks' := ks - 80) (by omega) (by show ks - 80 ≤ ks - 52 - 16 - 12; omega) ?_
  refine pgc hG rfl rfl rfl ?_
  refine pg_cal hG 1 rfl rfl (Nat.le_of_ble_eq_true rfl) (by decide) (Nat.le_of_ble_eq_true rfl) ?_
  refine pm_rcv_of (As' := []) (pm_up_self _ _ _) (w_Ch_init base sa hb2 (ini_rf (n := 12) (pm_up_self _ _ _) rfl) (by show 20 ≤ _; omega) (by show 300 ≤ _; omega) (fun M1 hC => ?_))
  replace hI := ini_out hI (fun c hc => (hC.2 c (by rw [pm_up_ne _ _ (fun e => hc (by rw [e]; exact hq2))]; exact hc) (fun e => hc (by rw [e]; exact hq2))).trans (pm_up_ne _ _ (fun e => hc (by rw [e]; exact hq2))))
  refine ini_pf hG rfl rfl hI hbb rfl rfl rfl (fun M1 hI => ?_)
  refine pgs hG rfl rfl ?_
  refine pgs hG rfl rfl ?_
  refine ini_pf hG rfl rfl hI hbb rfl rfl rfl (fun M1 hI => ?_)
  refine pg_wb hG (kc' := kc - 30) (ks' := ks - 400) (by omega) (by omega) ?_
  exact pg_rv hG rfl rfl (k _ hI)
