/-! Prefixes: family, two halves, length. -/
abbrev pfx (fa : Int32) (hi lo : Int64) (le : Int32) : pmE := .inr (5, [.int fa, .long hi, .long lo, .int le])
theorem cmp0 (x y : Int64) : lg_cmp x y = 0 ↔ x = y := by
  unfold lg_cmp
  constructor
  · intro h
    split at h
    · exact absurd h (by decide)
    · split at h
      · assumption
      · exact absurd h (by decide)
  · rintro rfl
    rw [if_neg (show ¬ x > x from Int64.lt_irrefl), if_pos rfl]
set_option maxRecDepth 100000 in
theorem s_Pr_copy (base : Nat) (sa : Nat → Nat) {x y : Nat} {a1 b1 : Int32} {a2 a3 b2 b3 : Int64} {a4 b4 : Int32} {M : pmM} {Rt : pmR} {kc ks : Nat} (hx : M x = some (pfx a1 a2 a3 a4)) (hxb : base ≤ x) (hy : M y = some (pfx b1 b2 b3 b4)) (k : Rt none (pm_up M x (pfx b1 b2 b3 b4)) kc ks) : kP_Pr_copy base sa [.ref x, .ref y] M kc ks Rt := by
  by_cases e : x = y
  · subst e
    have hh := Option.some.inj (hx.symm.trans hy)
    simp only [pfx, Sum.inr.injEq, Prod.mk.injEq, List.cons.injEq, Value.int.injEq, Value.long.injEq, and_true, true_and] at hh
    obtain ⟨rfl, rfl, rfl, rfl⟩ := hh
    refine ⟨Nat.le_of_ble_eq_true rfl, fun G hG => ?_⟩
    refine pgs hG rfl rfl ?_
    refine pgs hG rfl rfl ?_
    refine pg_gf hG rfl rfl hx rfl ?_
    refine pg_pf hG rfl rfl hx hxb (Nat.le_of_ble_eq_true rfl) rfl rfl ?_
    refine pgs hG rfl rfl ?_
    refine pgs hG rfl rfl ?_
    refine pg_gf hG rfl rfl (pm_up_self _ _ _) rfl ?_
    refine pg_pw hG rfl rfl hxb (Nat.le_of_ble_eq_true rfl) rfl rfl ?_
    refine pgs hG rfl rfl ?_
    refine pgs hG rfl rfl ?_
    refine pg_gf hG rfl rfl (pm_up_self _ _ _) rfl ?_
    refine pg_pw hG rfl rfl hxb (Nat.le_of_ble_eq_true rfl) rfl rfl ?_
    refine pgs hG rfl rfl ?_
    refine pgs hG rfl rfl ?_
    refine pg_gf hG rfl rfl (pm_up_self _ _ _) rfl ?_
    refine pg_pw hG rfl rfl hxb (Nat.le_of_ble_eq_true rfl) rfl rfl ?_
    exact pg_rv hG rfl rfl k
  · have hy' : ∀ E, pm_up M x E y = some (pfx b1 b2 b3 b4) := fun E => (pm_up_ne _ _ (Ne.symm e)).trans hy
    refine ⟨Nat.le_of_ble_eq_true rfl, fun G hG => ?_⟩
    refine pgs hG rfl rfl ?_
    refine pgs hG rfl rfl ?_
    refine pg_gf hG rfl rfl hy rfl ?_
    refine pg_pf hG rfl rfl hx hxb (Nat.le_of_ble_eq_true rfl) rfl rfl ?_
    refine pgs hG rfl rfl ?_
    refine pgs hG rfl rfl ?_
    refine pg_gf hG rfl rfl (hy' _) rfl ?_
    refine pg_pw hG rfl rfl hxb (Nat.le_of_ble_eq_true rfl) rfl rfl ?_
    refine pgs hG rfl rfl ?_
    refine pgs hG rfl rfl ?_
    refine pg_gf hG rfl rfl (hy' _) rfl ?_
    refine pg_pw hG rfl rfl hxb (Nat.le_of_ble_eq_true rfl) rfl rfl ?_
    refine pgs hG rfl rfl ?_
    refine pgs hG rfl rfl ?_
    refine pg_gf hG rfl rfl (hy' _) rfl ?_
    refine pg_pw hG rfl rfl hxb (Nat.le_of_ble_eq_true rfl) rfl rfl ?_
    exact pg_rv hG rfl rfl k
set_option maxRecDepth 100000 in
theorem s_Pr_setZero (base : Nat) (sa : Nat → Nat) {x : Nat} {a1 a4 f n : Int32} {a2 a3 : Int64} {M : pmM} {Rt : pmR} {kc ks : Nat} (hx : M x = some (pfx a1 a2 a3 a4)) (hxb : base ≤ x) (k : Rt none (pm_up M x (pfx f 0 0 n)) kc ks) : kP_Pr_setZero base sa [.ref x, .int f, .int n] M kc ks Rt := by
  refine ⟨Nat.le_of_ble_eq_true rfl, fun G hG => ?_⟩
  refine pgs hG rfl rfl ?_
  refine pgs hG rfl rfl ?_
  refine pg_pf hG rfl rfl hx hxb (Nat.le_of_ble_eq_true rfl) rfl rfl ?_
  refine pgs hG rfl rfl ?_
  refine pgs hG rfl rfl ?_
  refine pg_pw hG rfl rfl hxb (Nat.le_of_ble_eq_true rfl) rfl rfl ?_
  refine pgs hG rfl rfl ?_
  refine pgs hG rfl rfl ?_
  refine pg_pw hG rfl rfl hxb (Nat.le_of_ble_eq_true rfl) rfl rfl ?_
  refine pgs hG rfl rfl ?_
  refine pgs hG rfl rfl ?_
  refine pg_pw hG rfl rfl hxb (Nat.le_of_ble_eq_true rfl) rfl rfl ?_
  exact pg_rv hG rfl rfl k
set_option maxRecDepth 100000 in
theorem s_Pr_isZero (base : Nat) (sa : Nat → Nat) {x : Nat} {a1 a4 : Int32} {a2 a3 : Int64} {M : pmM} {Rt : pmR} {kc ks : Nat} (hx : M x = some (pfx a1 a2 a3 a4)) (k : Rt (some (.int (if a2 = 0 ∧ a3 = 0 then 1 else 0))) M kc ks) : kP_Pr_isZero base sa [.ref x] M kc ks Rt := by
  refine ⟨Nat.le_of_ble_eq_true rfl, fun G hG => ?_⟩
  refine pgs hG rfl rfl ?_
  refine pg_gf hG rfl rfl hx rfl ?_
  refine pgs hG rfl rfl ?_
  refine pgs hG rfl rfl ?_
  refine pz_ne hG (t := 22) rfl rfl (fun c => ?_) (fun c => ?_)
  · rw [if_neg (fun h => c ((cmp0 _ _).mpr h.1))] at k
    refine pgs hG rfl rfl ?_
    exact pg_ri hG rfl rfl rfl k
  · refine pgs hG rfl rfl ?_
    refine pg_gf hG rfl rfl hx rfl ?_
    refine pgs hG rfl rfl ?_
    refine pgs hG rfl rfl ?_
    refine pz_ne hG (t := 22) rfl rfl (fun c2 => ?_) (fun c2 => ?_)
    · rw [if_neg (fun h => c2 ((cmp0 _ _).mpr h.2))] at k
      refine pgs hG rfl rfl ?_
      exact pg_ri hG rfl rfl rfl k
    · rw [if_pos ⟨(cmp0 _ _).mp c, (cmp0 _ _).mp c2⟩] at k
      refine pgs hG rfl rfl ?_
      refine pg_go hG (t := 23) rfl rfl ?_
      exact pg_ri hG rfl rfl rfl k
set_option maxRecDepth 100000 in
theorem s_Pr_sameAddress (base : Nat) (sa : Nat → Nat) {x y : Nat} {a1 a4 b1 b4 : Int32} {a2 a3 b2 b3 : Int64} {M : pmM} {Rt : pmR} {kc ks : Nat} (hx : M x = some (pfx a1 a2 a3 a4)) (hy : M y = some (pfx b1 b2 b3 b4)) (k : Rt (some (.int (if a1 = b1 ∧ a2 = b2 ∧ a3 = b3 then 1 else 0))) M kc ks) : kP_Pr_sameAddress base sa [.ref x, .ref y] M kc ks Rt := by
  refine ⟨Nat.le_of_ble_eq_true rfl, fun G hG => ?_⟩
  refine pgs hG rfl rfl ?_
  refine pg_gf hG rfl rfl hx rfl ?_
  refine pgs hG rfl rfl ?_
  refine pg_gf hG rfl rfl hy rfl ?_
  refine pi_ne hG (t := 39) rfl rfl (fun c => ?_) (fun c => ?_)
  · rw [if_neg (fun h => c h.1)] at k
    refine pgs hG rfl rfl ?_
    exact pg_ri hG rfl rfl rfl k
  · refine pgs hG rfl rfl ?_
    refine pg_gf hG rfl rfl hx rfl ?_
    refine pgs hG rfl rfl ?_
    refine pg_gf hG rfl rfl hy rfl ?_
    refine pgs hG rfl rfl ?_
    refine pz_ne hG (t := 39) rfl rfl (fun c2 => ?_) (fun c2 => ?_)
    · rw [if_neg (fun h => c2 ((cmp0 _ _).mpr h.2.1))] at k
      refine pgs hG rfl rfl ?_
      exact pg_ri hG rfl rfl rfl k
    · refine pgs hG rfl rfl ?_
      refine pg_gf hG rfl rfl hx rfl ?_
      refine pgs hG rfl rfl ?_
      refine pg_gf hG rfl rfl hy rfl ?_
      refine pgs hG rfl rfl ?_
      refine pz_ne hG (t := 39) rfl rfl (fun c3 => ?_) (fun c3 => ?_)
      · rw [if_neg (fun h => c3 ((cmp0 _ _).mpr h.2.2))] at k
        refine pgs hG rfl rfl ?_
        exact pg_ri hG rfl rfl rfl k
      · rw [if_pos ⟨c, (cmp0 _ _).mp c2, (cmp0 _ _).mp c3⟩] at k
        refine pgs hG rfl rfl ?_
        refine pg_go hG (t := 40) rfl rfl ?_
        exact pg_ri hG rfl rfl rfl k
set_option maxRecDepth 100000 in
theorem s_Pr_bitsOf (base : Nat) (sa : Nat → Nat) {f : Int32} {M : pmM} {Rt : pmR} {kc ks : Nat} (k : Rt (some (.int (if f = 4 then 32 else 128))) M kc ks) : kP_Pr_bitsOf base sa [.int f] M kc ks Rt := by
  refine ⟨Nat.le_of_ble_eq_true rfl, fun G hG => ?_⟩
  refine pgs hG rfl rfl ?_
  refine pgs hG rfl rfl ?_
  refine pi_ne hG (t := 10) rfl rfl (fun c => ?_) (fun c => ?_)
  · rw [if_neg (show ¬ f = 4 from c)] at k
    refine pgs hG rfl rfl ?_
    exact pg_ri hG rfl rfl rfl k
  · rw [if_pos (show f = 4 from c)] at k
    refine pgs hG rfl rfl ?_
    refine pg_go hG (t := 13) rfl rfl ?_
    exact pg_ri hG rfl rfl rfl k
