/-! Prefixes: covers, sameNetwork, part. -/
/-- >>> of longs, the machine's -/
def ush (x : Int64) (y : Int32) : Int64 := (x.toUInt64 >>> (y.toInt64.toUInt64 &&& Int64.toUInt64 63)).toInt64
/-- whether the first bits of one prefix are another's -/
def pcov (a1 : Int32) (a2 a3 : Int64) (a4 b1 : Int32) (b2 b3 : Int64) (b4 : Int32) : Prop :=
  a1 = b1 ∧ a4 ≤ b4 ∧ (64 < a4 → a2 ^^^ b2 = 0 ∧ ush (a3 ^^^ b3) (128 - a4) = 0) ∧ (¬ 64 < a4 → a4 ≤ 0 ∨ ush (a2 ^^^ b2) (64 - a4) = 0)
set_option maxRecDepth 100000 in
theorem s_Pr_covers (base : Nat) (sa : Nat → Nat) {x y : Nat} {a1 a4 b1 b4 : Int32} {a2 a3 b2 b3 : Int64} {M : pmM} {Rt : pmR} {kc ks : Nat} (hx : M x = some (pfx a1 a2 a3 a4)) (hy : M y = some (pfx b1 b2 b3 b4)) (k0 : ¬ pcov a1 a2 a3 a4 b1 b2 b3 b4 → Rt (some (.int 0)) M kc ks) (k1 : pcov a1 a2 a3 a4 b1 b2 b3 b4 → Rt (some (.int 1)) M kc ks) : kP_Pr_covers base sa [.ref x, .ref y] M kc ks Rt := by
  have e64 : (Int8.ofInt 64).toInt32 = 64 := by decide
  have e128 : (Int16.ofInt 128).toInt32 = 128 := by decide
  refine ⟨Nat.le_of_ble_eq_true rfl, fun G hG => ?_⟩
  refine pgs hG rfl rfl ?_
  refine pg_gf hG rfl rfl hx rfl ?_
  refine pgs hG rfl rfl ?_
  refine pg_gf hG rfl rfl hy rfl ?_
  refine pi_ne hG (t := 22) rfl rfl (fun c8 => ?_) (fun c8 => ?_)
  · refine pgs hG rfl rfl ?_
    exact pg_ri hG rfl rfl rfl (k0 (fun h => c8 h.1))
  · refine pgs hG rfl rfl ?_
    refine pg_gf hG rfl rfl hx rfl ?_
    refine pgs hG rfl rfl ?_
    refine pg_gf hG rfl rfl hy rfl ?_
    refine pi_le hG (t := 24) rfl rfl (fun c19 => ?_) (fun c19 => ?_)
    · refine pgs hG rfl rfl ?_
      refine pg_gf hG rfl rfl hx rfl ?_
      refine pgs hG rfl rfl ?_
      refine pg_gf hG rfl rfl hy rfl ?_
      refine pgs hG rfl rfl ?_
      refine pgc hG rfl rfl (Nat.le_of_ble_eq_true rfl) ?_
      refine pgs hG rfl rfl ?_
      refine pg_gf hG rfl rfl hx rfl ?_
      refine pgs hG rfl rfl ?_
      refine pg_gf hG rfl rfl hy rfl ?_
      refine pgs hG rfl rfl ?_
      refine pgc hG rfl rfl (Nat.le_of_ble_eq_true rfl) ?_
      refine pgs hG rfl rfl ?_
      refine pg_gf hG rfl rfl hx rfl ?_
      refine pgs hG rfl rfl ?_
      rw [e64]
      refine pi_gt hG (t := 81) rfl rfl (fun c51 => ?_) (fun c51 => ?_)
      · refine pgs hG rfl rfl ?_
        refine pgs hG rfl rfl ?_
        refine pgs hG rfl rfl ?_
        refine pz_ne hG (t := 107) rfl rfl (fun c84 => ?_) (fun c84 => ?_)
        · refine pgs hG rfl rfl ?_
          exact pg_ri hG rfl rfl rfl (k0 (fun h => c84 ((lg_cmp_eq _ _).mpr (h.2.2.1 c51).1)))
        · refine pgs hG rfl rfl ?_
          refine pgs hG rfl rfl ?_
          refine pgs hG rfl rfl ?_
          refine pg_gf hG rfl rfl hx rfl ?_
          refine pgs hG rfl rfl ?_
          refine pgs hG rfl rfl ?_
          refine pgs hG rfl rfl ?_
          refine pgs hG rfl rfl ?_
          rw [e128]
          refine pz_ne hG (t := 107) rfl rfl (fun c100 => ?_) (fun c100 => ?_)
          · refine pgs hG rfl rfl ?_
            exact pg_ri hG rfl rfl rfl (k0 (fun h => c100 ((lg_cmp_eq _ _).mpr (h.2.2.1 c51).2)))
          · refine pgs hG rfl rfl ?_
            refine pg_go hG (t := 108) rfl rfl ?_
            exact pg_ri hG rfl rfl rfl (k1 ⟨c8, c19, fun _ => ⟨(lg_cmp_eq _ _).mp c84, (lg_cmp_eq _ _).mp c100⟩, fun h => absurd c51 h⟩)
      · refine pgs hG rfl rfl ?_
        refine pg_gf hG rfl rfl hx rfl ?_
        refine pz_le hG (t := 75) rfl rfl (fun c58 => ?_) (fun c58 => ?_)
        · refine pgs hG rfl rfl ?_
          refine pg_go hG (t := 80) rfl rfl ?_
          exact pg_ri hG rfl rfl rfl (k1 ⟨c8, c19, fun h => absurd h c51, fun _ => Or.inl c58⟩)
        · refine pgs hG rfl rfl ?_
          refine pgs hG rfl rfl ?_
          refine pgs hG rfl rfl ?_
          refine pg_gf hG rfl rfl hx rfl ?_
          refine pgs hG rfl rfl ?_
          refine pgs hG rfl rfl ?_
          refine pgs hG rfl rfl ?_
          refine pgs hG rfl rfl ?_
          rw [e64]
          refine pz_ne hG (t := 79) rfl rfl (fun c72 => ?_) (fun c72 => ?_)
          · refine pgs hG rfl rfl ?_
            exact pg_ri hG rfl rfl rfl (k0 (fun h => (h.2.2.2 c51).elim c58 (fun h' => c72 ((lg_cmp_eq _ _).mpr h'))))
          · refine pgs hG rfl rfl ?_
            refine pg_go hG (t := 80) rfl rfl ?_
            exact pg_ri hG rfl rfl rfl (k1 ⟨c8, c19, fun h => absurd h c51, fun _ => Or.inr ((lg_cmp_eq _ _).mp c72)⟩)
    · refine pgs hG rfl rfl ?_
      exact pg_ri hG rfl rfl rfl (k0 (fun h => c19 h.2.1))
set_option maxRecDepth 100000 in
theorem s_Pr_sameNetwork (base : Nat) (sa : Nat → Nat) {x y : Nat} {a1 a4 b1 b4 : Int32} {a2 a3 b2 b3 : Int64} {M : pmM} {Rt : pmR} {kc ks : Nat} (hx : M x = some (pfx a1 a2 a3 a4)) (hy : M y = some (pfx b1 b2 b3 b4)) (k0 : ¬ (a4 = b4 ∧ pcov a1 a2 a3 a4 b1 b2 b3 b4) → Rt (some (.int 0)) M kc ks) (k1 : a4 = b4 → pcov a1 a2 a3 a4 b1 b2 b3 b4 → Rt (some (.int 1)) M kc ks) : kP_Pr_sameNetwork base sa [.ref x, .ref y] M kc ks Rt := by
  refine ⟨Nat.le_of_ble_eq_true rfl, fun G hG => ?_⟩
  refine pgs hG rfl rfl ?_
  refine pg_gf hG rfl rfl hx rfl ?_
  refine pgs hG rfl rfl ?_
  refine pg_gf hG rfl rfl hy rfl ?_
  refine pi_ne hG (t := 23) rfl rfl (fun c8 => ?_) (fun c8 => ?_)
  · refine pgs hG rfl rfl ?_
    exact pg_ri hG rfl rfl rfl (k0 (fun h => c8 h.1))
  · refine pgs hG rfl rfl ?_
    refine pgs hG rfl rfl ?_
    refine pg_cal hG 0 rfl rfl (Nat.le_of_ble_eq_true rfl) (by decide) (Nat.le_of_ble_eq_true rfl) ?_
    refine pm_rcv_of (As' := [.ref y]) hx (s_Pr_covers base sa hx hy (fun h => ?_) (fun h => ?_))
    · refine pz_eq hG (t := 23) rfl rfl (fun c => ?_) (fun c => absurd rfl c)
      refine pgs hG rfl rfl ?_
      exact pg_ri hG rfl rfl rfl (k0 (fun h' => h h'.2))
    · refine pz_eq hG (t := 23) rfl rfl (fun c => absurd c (by decide)) (fun c => ?_)
      refine pgs hG rfl rfl ?_
      refine pg_go hG (t := 24) rfl rfl ?_
      exact pg_ri hG rfl rfl rfl (k1 c8 h)
/-- sixteen bits of an address: part i of eight -/
def ppart (hi lo : Int64) (i : Int32) : Int32 := (ush (if i < 4 then hi else lo) (48 - 16 * (i &&& 3))).toInt32 &&& 65535
set_option maxRecDepth 100000 in
theorem s_Pr_part (base : Nat) (sa : Nat → Nat) {x : Nat} {a1 a4 i : Int32} {a2 a3 : Int64} {M : pmM} {Rt : pmR} {kc ks : Nat} (hx : M x = some (pfx a1 a2 a3 a4)) (k : Rt (some (.int (ppart a2 a3 i))) M kc ks) : kP_Pr_part base sa [.ref x, .int i] M kc ks Rt := by
  have e16 : (Int8.ofInt 16).toInt32 = 16 := by decide
  have e48 : (Int8.ofInt 48).toInt32 = 48 := by decide
  refine ⟨Nat.le_of_ble_eq_true rfl, fun G hG => ?_⟩
  have tail : ∀ z : Int64, z = (if i < 4 then a2 else a3) → G 16 [(0, .ref x), (1, .int i)] [.long z] M kc ks := by
    intro z hz
    refine pgs hG rfl rfl ?_
    refine pgs hG rfl rfl ?_
    refine pgs hG rfl rfl ?_
    refine pgs hG rfl rfl ?_
    refine pgs hG rfl rfl ?_
    refine pgs hG rfl rfl ?_
    refine pgs hG rfl rfl ?_
    refine pgs hG rfl rfl ?_
    refine pgs hG rfl rfl ?_
    refine pg_ldi hG rfl rfl ?_
    refine pgs hG rfl rfl ?_
    rw [e16, e48]
    unfold ppart at k
    rw [← hz] at k
    exact pg_ri hG rfl rfl rfl k
  refine pgs hG rfl rfl ?_
  refine pgs hG rfl rfl ?_
  refine pi_ge hG (t := 12) rfl rfl (fun c => ?_) (fun c => ?_)
  · refine pgs hG rfl rfl ?_
    refine pg_gf hG rfl rfl hx rfl ?_
    refine tail a3 ?_
    rw [if_neg (Int32.not_lt.mpr (show (4 : Int32) ≤ i from c))]
  · refine pgs hG rfl rfl ?_
    refine pg_gf hG rfl rfl hx rfl ?_
    refine pg_go hG (t := 16) rfl rfl ?_
    refine tail a2 ?_
    rw [if_pos (Int32.not_le.mp (show ¬ (4 : Int32) ≤ i from c))]
