/-! The model's own small functions. -/
theorem lcmp_ne {x y : Int64} (h : lg_cmp x y ≠ 0) : x ≠ y := fun e => h (by rw [e]; exact lcmp_self _)
set_option maxRecDepth 100000 in
theorem m_maskHigh (base : Nat) (sa : Nat → Nat) {M : pmM} {Rt : pmR} {kc ks : Nat} {n : Int32} (k : Rt (some (.long (mskH n))) M kc ks) : kP_Mo_maskHigh base sa [.int n] M kc ks Rt := by
  refine ⟨Nat.le_of_ble_eq_true rfl, fun G hG => ?_⟩
  have e64 : (Int8.ofInt 64).toInt32 = 64 := by decide
  unfold mskH at k
  refine pgs hG rfl rfl ?_
  refine pz_gt hG (t := 8) rfl rfl (fun c1 => ?_) (fun c1 => ?_)
  · rw [if_pos (show 0 < n from c1)] at k
    refine pgs hG rfl rfl ?_
    refine pgs hG rfl rfl ?_
    rw [e64]
    refine pi_lt hG (t := 20) rfl rfl (fun c9 => ?_) (fun c9 => ?_)
    · rw [if_pos c9] at k
      refine pgs hG rfl rfl ?_
      refine pgs hG rfl rfl ?_
      refine pgs hG rfl rfl ?_
      refine pgs hG rfl rfl ?_
      refine pgs hG rfl rfl ?_
      rw [e64]
      exact pg_rl hG rfl rfl k
    · rw [if_neg c9] at k
      refine pgs hG rfl rfl ?_
      refine pg_go hG (t := 28) rfl rfl ?_
      exact pg_rl hG rfl rfl k
  · rw [if_neg (show ¬ 0 < n from c1)] at k
    refine pgs hG rfl rfl ?_
    refine pg_go hG (t := 28) rfl rfl ?_
    exact pg_rl hG rfl rfl k
set_option maxRecDepth 100000 in
theorem m_maskLow (base : Nat) (sa : Nat → Nat) {M : pmM} {Rt : pmR} {kc ks : Nat} {n : Int32} (k : Rt (some (.long (mskL n))) M kc ks) : kP_Mo_maskLow base sa [.int n] M kc ks Rt := by
  refine ⟨Nat.le_of_ble_eq_true rfl, fun G hG => ?_⟩
  have e64 : (Int8.ofInt 64).toInt32 = 64 := by decide
  have e128 : (Int16.ofInt 128).toInt32 = 128 := by decide
  unfold mskL at k
  refine pgs hG rfl rfl ?_
  refine pgs hG rfl rfl ?_
  rw [e64]
  refine pi_gt hG (t := 10) rfl rfl (fun c1 => ?_) (fun c1 => ?_)
  · rw [if_pos c1] at k
    refine pgs hG rfl rfl ?_
    refine pgs hG rfl rfl ?_
    rw [e128]
    refine pi_lt hG (t := 23) rfl rfl (fun c9 => ?_) (fun c9 => ?_)
    · rw [if_pos c9] at k
      refine pgs hG rfl rfl ?_
      refine pgs hG rfl rfl ?_
      refine pgs hG rfl rfl ?_
      refine pgs hG rfl rfl ?_
      refine pgs hG rfl rfl ?_
      rw [e128]
      exact pg_rl hG rfl rfl k
    · rw [if_neg c9] at k
      refine pgs hG rfl rfl ?_
      refine pg_go hG (t := 32) rfl rfl ?_
      exact pg_rl hG rfl rfl k
  · rw [if_neg c1] at k
    refine pgs hG rfl rfl ?_
    refine pg_go hG (t := 32) rfl rfl ?_
    exact pg_rl hG rfl rfl k
/-- the first n bits of two addresses are the same -/
def mcov (a b : Int64) (n : Int32) (h l : Int64) : Prop := (a ^^^ h) &&& mskH n = 0 ∧ (b ^^^ l) &&& mskL n = 0
set_option maxRecDepth 100000 in
theorem m_covers (base : Nat) (sa : Nat → Nat) {M : pmM} {Rt : pmR} {kc ks : Nat} {a b h l : Int64} {n : Int32} (k0 : ¬ mcov a b n h l → Rt (some (.int 0)) M kc ks) (k1 : mcov a b n h l → Rt (some (.int 1)) M kc ks) : kP_Mo_covers base sa [.long a, .long b, .int n, .long h, .long l] M kc ks Rt := by
  refine ⟨Nat.le_of_ble_eq_true rfl, fun G hG => ?_⟩
  refine pgs hG rfl rfl ?_
  refine pgs hG rfl rfl ?_
  refine pgs hG rfl rfl ?_
  refine pgs hG rfl rfl ?_
  refine pg_cal hG 2 rfl rfl (Nat.le_of_ble_eq_true rfl) (by decide) (Nat.le_of_ble_eq_true rfl) ?_
  refine m_maskHigh base sa ?_
  refine pgs hG rfl rfl ?_
  refine pgs hG rfl rfl ?_
  refine pgs hG rfl rfl ?_
  refine pz_ne hG (t := 34) rfl rfl (fun c => ?_) (fun c => ?_)
  · refine pgs hG rfl rfl ?_
    exact pg_ri hG rfl rfl rfl (k0 (fun e => lcmp_ne c e.1))
  · refine pgs hG rfl rfl ?_
    refine pgs hG rfl rfl ?_
    refine pgs hG rfl rfl ?_
    refine pgs hG rfl rfl ?_
    refine pg_cal hG 2 rfl rfl (Nat.le_of_ble_eq_true rfl) (by decide) (Nat.le_of_ble_eq_true rfl) ?_
    refine m_maskLow base sa ?_
    refine pgs hG rfl rfl ?_
    refine pgs hG rfl rfl ?_
    refine pgs hG rfl rfl ?_
    refine pz_ne hG (t := 34) rfl rfl (fun c2 => ?_) (fun c2 => ?_)
    · refine pgs hG rfl rfl ?_
      exact pg_ri hG rfl rfl rfl (k0 (fun e => lcmp_ne c2 e.2))
    · refine pgs hG rfl rfl ?_
      refine pg_go hG (t := 35) rfl rfl ?_
      exact pg_ri hG rfl rfl rfl (k1 ⟨lcmp_eq c, lcmp_eq c2⟩)
set_option maxRecDepth 100000 in
theorem m_coversPrefix (base : Nat) (sa : Nat → Nat) {M : pmM} {Rt : pmR} {kc ks : Nat} {a b h l : Int64} {n p : Int32} (k0 : ¬ (n ≤ p ∧ mcov a b n h l) → Rt (some (.int 0)) M kc ks) (k1 : n ≤ p → mcov a b n h l → Rt (some (.int 1)) M kc ks) : kP_Mo_coversPrefix base sa [.long a, .long b, .int n, .long h, .long l, .int p] M kc ks Rt := by
  refine ⟨Nat.le_of_ble_eq_true rfl, fun G hG => ?_⟩
  refine pgs hG rfl rfl ?_
  refine pgs hG rfl rfl ?_
  refine pi_gt hG (t := 25) rfl rfl (fun c => ?_) (fun c => ?_)
  · refine pgs hG rfl rfl ?_
    exact pg_ri hG rfl rfl rfl (k0 (fun e => absurd c (Int32.not_lt.mpr e.1)))
  · refine pgs hG rfl rfl ?_
    refine pgs hG rfl rfl ?_
    refine pgs hG rfl rfl ?_
    refine pgs hG rfl rfl ?_
    refine pgs hG rfl rfl ?_
    refine pg_cal hG 2 rfl rfl (Nat.le_of_ble_eq_true rfl) (by decide) (Nat.le_of_ble_eq_true rfl) ?_
    refine m_covers base sa (fun c2 => ?_) (fun c2 => ?_)
    · refine pz_eq hG (t := 25) rfl rfl (fun _ => ?_) (fun e => absurd rfl e)
      refine pgs hG rfl rfl ?_
      exact pg_ri hG rfl rfl rfl (k0 (fun e => c2 e.2))
    · refine pz_eq hG (t := 25) rfl rfl (fun e => absurd e (by decide)) (fun _ => ?_)
      refine pgs hG rfl rfl ?_
      refine pg_go hG (t := 26) rfl rfl ?_
      exact pg_ri hG rfl rfl rfl (k1 (Int32.not_lt.mp c) c2)
def mpre (a b : Int64) (n : Int32) : Prop := a &&& (mskH n ^^^ -1) = 0 ∧ b &&& (mskL n ^^^ -1) = 0
set_option maxRecDepth 100000 in
theorem m_isPrefix (base : Nat) (sa : Nat → Nat) {M : pmM} {Rt : pmR} {kc ks : Nat} {a b : Int64} {n : Int32} (k0 : ¬ mpre a b n → Rt (some (.int 0)) M kc ks) (k1 : mpre a b n → Rt (some (.int 1)) M kc ks) : kP_Mo_isPrefix base sa [.long a, .long b, .int n] M kc ks Rt := by
  refine ⟨Nat.le_of_ble_eq_true rfl, fun G hG => ?_⟩
  refine pgs hG rfl rfl ?_
  refine pgs hG rfl rfl ?_
  refine pg_cal hG 2 rfl rfl (Nat.le_of_ble_eq_true rfl) (by decide) (Nat.le_of_ble_eq_true rfl) ?_
  refine m_maskHigh base sa ?_
  refine pgs hG rfl rfl ?_
  refine pgs hG rfl rfl ?_
  refine pgs hG rfl rfl ?_
  refine pgs hG rfl rfl ?_
  refine pgs hG rfl rfl ?_
  refine pz_ne hG (t := 36) rfl rfl (fun c => ?_) (fun c => ?_)
  · refine pgs hG rfl rfl ?_
    exact pg_ri hG rfl rfl rfl (k0 (fun e => lcmp_ne c e.1))
  · refine pgs hG rfl rfl ?_
    refine pgs hG rfl rfl ?_
    refine pg_cal hG 2 rfl rfl (Nat.le_of_ble_eq_true rfl) (by decide) (Nat.le_of_ble_eq_true rfl) ?_
    refine m_maskLow base sa ?_
    refine pgs hG rfl rfl ?_
    refine pgs hG rfl rfl ?_
    refine pgs hG rfl rfl ?_
    refine pgs hG rfl rfl ?_
    refine pgs hG rfl rfl ?_
    refine pz_ne hG (t := 36) rfl rfl (fun c2 => ?_) (fun c2 => ?_)
    · refine pgs hG rfl rfl ?_
      exact pg_ri hG rfl rfl rfl (k0 (fun e => lcmp_ne c2 e.2))
    · refine pgs hG rfl rfl ?_
      refine pg_go hG (t := 37) rfl rfl ?_
      exact pg_ri hG rfl rfl rfl (k1 ⟨lcmp_eq c, lcmp_eq c2⟩)
theorem lcmp_ge {x y : Int64} : 0 ≤ lg_cmp x y ↔ y ≤ x := lg_cmp_ge x y
set_option maxRecDepth 100000 in
theorem m_isLess (base : Nat) (sa : Nat → Nat) {M : pmM} {Rt : pmR} {kc ks : Nat} {a b : Int64} (k0 : b.toBitVec.toNat ≤ a.toBitVec.toNat → Rt (some (.int 0)) M kc ks) (k1 : a.toBitVec.toNat < b.toBitVec.toNat → Rt (some (.int 1)) M kc ks) : kP_Mo_isLess base sa [.long a, .long b] M kc ks Rt := by
  refine ⟨Nat.le_of_ble_eq_true rfl, fun G hG => ?_⟩
  refine pgs hG rfl rfl ?_
  refine pgs hG rfl rfl ?_
  refine pgs hG rfl rfl ?_
  refine pgs hG rfl rfl ?_
  refine pgs hG rfl rfl ?_
  refine pgs hG rfl rfl ?_
  refine pgs hG rfl rfl ?_
  refine pz_ge hG (t := 18) rfl rfl (fun c => ?_) (fun c => ?_)
  · refine pgs hG rfl rfl ?_
    exact pg_ri hG rfl rfl rfl (k0 ((usg_le a b).mp (lcmp_ge.mp c)))
  · refine pgs hG rfl rfl ?_
    refine pg_go hG (t := 19) rfl rfl ?_
    exact pg_ri hG rfl rfl rfl (k1 (Nat.lt_of_not_le (fun e => c (lcmp_ge.mpr ((usg_le a b).mpr e)))))
set_option maxRecDepth 100000 in
theorem m_isAhead (base : Nat) (sa : Nat → Nat) {M : pmM} {Rt : pmR} {kc ks : Nat} {a b h l : Int64} {n p : Nat} (hn : n < 256) (hp : p < 256) (k0 : pkN 0 h.toBitVec.toNat l.toBitVec.toNat p ≤ pkN 0 a.toBitVec.toNat b.toBitVec.toNat n → Rt (some (.int 0)) M kc ks) (k1 : pkN 0 a.toBitVec.toNat b.toBitVec.toNat n < pkN 0 h.toBitVec.toNat l.toBitVec.toNat p → Rt (some (.int 1)) M kc ks) : kP_Mo_isAhead base sa [.long a, .long b, .int (nI n), .long h, .long l, .int (nI p)] M kc ks Rt := by
  refine ⟨Nat.le_of_ble_eq_true rfl, fun G hG => ?_⟩
  have kk := (pk_lex (f := 0) (f' := 0) (n := n) (n' := p) a.toBitVec.isLt b.toBitVec.isLt (by omega) h.toBitVec.isLt l.toBitVec.isLt (by omega)).1
  refine pgs hG rfl rfl ?_
  refine pgs hG rfl rfl ?_
  refine pgs hG rfl rfl ?_
  refine pz_eq hG (t := 14) rfl rfl (fun c => ?_) (fun c => ?_)
  · have ce := usg_eq.mp (lcmp_eq c)
    refine pgs hG rfl rfl ?_
    refine pgs hG rfl rfl ?_
    refine pgs hG rfl rfl ?_
    refine pz_eq hG (t := 28) rfl rfl (fun c2 => ?_) (fun c2 => ?_)
    · have ce2 := usg_eq.mp (lcmp_eq c2)
      refine pgs hG rfl rfl ?_
      refine pgs hG rfl rfl ?_
      refine pi_ge hG (t := 39) rfl rfl (fun c3 => ?_) (fun c3 => ?_)
      · have := (nI_leI (by omega) (by omega)).mp c3
        refine pgs hG rfl rfl ?_
        exact pg_ri hG rfl rfl rfl (k0 (Nat.le_of_not_lt (fun e => by have := kk.mp e; omega)))
      · have hlt : n < p := Nat.lt_of_not_le (fun e => c3 (nI_le e (by omega)))
        refine pgs hG rfl rfl ?_
        refine pg_go hG (t := 40) rfl rfl ?_
        exact pg_ri hG rfl rfl rfl (k1 (kk.mpr (by omega)))
    · have ce2 : b.toBitVec.toNat ≠ l.toBitVec.toNat := fun e => lcmp_ne c2 (usg_eq.mpr e)
      refine pgs hG rfl rfl ?_
      refine pgs hG rfl rfl ?_
      refine pg_cal hG 2 rfl rfl (Nat.le_of_ble_eq_true rfl) (by decide) (Nat.le_of_ble_eq_true rfl) ?_
      refine m_isLess base sa (fun c3 => ?_) (fun c3 => ?_)
      · exact pg_ri hG rfl rfl rfl (k0 (Nat.le_of_not_lt (fun e => by have := kk.mp e; omega)))
      · exact pg_ri hG rfl rfl rfl (k1 (kk.mpr (by omega)))
  · have ce : a.toBitVec.toNat ≠ h.toBitVec.toNat := fun e => lcmp_ne c (usg_eq.mpr e)
    refine pgs hG rfl rfl ?_
    refine pgs hG rfl rfl ?_
    refine pg_cal hG 2 rfl rfl (Nat.le_of_ble_eq_true rfl) (by decide) (Nat.le_of_ble_eq_true rfl) ?_
    refine m_isLess base sa (fun c3 => ?_) (fun c3 => ?_)
    · exact pg_ri hG rfl rfl rfl (k0 (Nat.le_of_not_lt (fun e => by have := kk.mp e; omega)))
    · exact pg_ri hG rfl rfl rfl (k1 (kk.mpr (by omega)))
set_option maxRecDepth 100000 in
theorem m_bitsOf (base : Nat) (sa : Nat → Nat) {M : pmM} {Rt : pmR} {kc ks : Nat} {f : Int32} (k : Rt (some (.int (if f = 0 then 32 else 128))) M kc ks) : kP_Mo_bitsOf base sa [.int f] M kc ks Rt := by
  refine ⟨Nat.le_of_ble_eq_true rfl, fun G hG => ?_⟩
  refine pgs hG rfl rfl ?_
  refine pz_ne hG (t := 9) rfl rfl (fun c => ?_) (fun c => ?_)
  · rw [if_neg c] at k
    refine pgs hG rfl rfl ?_
    exact pg_ri hG rfl rfl rfl k
  · rw [if_pos c] at k
    refine pgs hG rfl rfl ?_
    refine pg_go hG (t := 12) rfl rfl ?_
    exact pg_ri hG rfl rfl rfl k
set_option maxRecDepth 100000 in
theorem m_isDigit (base : Nat) (sa : Nat → Nat) {M : pmM} {Rt : pmR} {kc ks : Nat} {c : Nat} (hc : c < 2 ^ 31) (k0 : ¬ (48 ≤ c ∧ c ≤ 57) → Rt (some (.int 0)) M kc ks) (k1 : 48 ≤ c → c ≤ 57 → Rt (some (.int 1)) M kc ks) : kP_Mo_isDigit base sa [.int (nI c)] M kc ks Rt := by
  refine ⟨Nat.le_of_ble_eq_true rfl, fun G hG => ?_⟩
  refine pgs hG rfl rfl ?_
  refine pgs hG rfl rfl ?_
  rw [show (Int8.ofInt 48).toInt32 = nI 48 from by decide]
  refine pi_lt hG (t := 16) rfl rfl (fun c3 => ?_) (fun c3 => ?_)
  · have := (nI_ltI hc (by omega)).mp c3
    refine pgs hG rfl rfl ?_
    exact pg_ri hG rfl rfl rfl (k0 (by omega))
  · have h48 : 48 ≤ c := Nat.le_of_not_lt (fun e => c3 ((nI_ltI hc (by omega)).mpr e))
    refine pgs hG rfl rfl ?_
    refine pgs hG rfl rfl ?_
    rw [show (Int8.ofInt 57).toInt32 = nI 57 from by decide]
    refine pi_gt hG (t := 16) rfl rfl (fun c9 => ?_) (fun c9 => ?_)
    · have := (nI_ltI (by omega) hc).mp c9
      refine pgs hG rfl rfl ?_
      exact pg_ri hG rfl rfl rfl (k0 (by omega))
    · refine pgs hG rfl rfl ?_
      refine pg_go hG (t := 17) rfl rfl ?_
      exact pg_ri hG rfl rfl rfl (k1 h48 (Nat.le_of_not_lt (fun e => c9 ((nI_ltI (by omega) hc).mpr e))))
