/-! Tables: prefixes in order, where one stands. -/
theorem usg (x : Int64) : (x + Int64.minValue).toInt = (x.toBitVec.toNat : Int) - 2 ^ 63 := by
  have h1 := x.toBitVec.isLt
  have e0 : x.toInt = x.toBitVec.toInt := rfl
  have e1 : Int64.minValue.toInt = -2 ^ 63 := by decide
  rw [Int64.toInt_add, e0, e1, BitVec.toInt_eq_toNat_cond]
  split
  · rw [Int.bmod_def]
    split <;> omega
  · rw [Int.bmod_def]
    split <;> omega
theorem usg_le (x y : Int64) : (y + Int64.minValue ≤ x + Int64.minValue) ↔ y.toBitVec.toNat ≤ x.toBitVec.toNat := by
  rw [Int64.le_iff_toInt_le, usg, usg]
  omega
theorem usg_eq {x y : Int64} : x = y ↔ x.toBitVec.toNat = y.toBitVec.toNat := by
  constructor
  · intro h
    rw [h]
  · intro h
    have e : x.toBitVec = y.toBitVec := BitVec.eq_of_toNat_eq h
    exact Int64.toBitVec_inj.mp e
/-- a prefix as one number: families first, then addresses, then lengths -/
def pkN (f hi lo n : Nat) : Nat := ((f * 2 ^ 64 + hi) * 2 ^ 64 + lo) * 2 ^ 32 + n
theorem pk_lex {f hi lo n f' hi' lo' n' : Nat} (h1 : hi < 2 ^ 64) (h2 : lo < 2 ^ 64) (h3 : n < 2 ^ 32) (h1' : hi' < 2 ^ 64) (h2' : lo' < 2 ^ 64) (h3' : n' < 2 ^ 32) :
    (pkN f hi lo n < pkN f' hi' lo' n' ↔ f < f' ∨ f = f' ∧ (hi < hi' ∨ hi = hi' ∧ (lo < lo' ∨ lo = lo' ∧ n < n'))) ∧ (pkN f hi lo n = pkN f' hi' lo' n' ↔ f = f' ∧ hi = hi' ∧ lo = lo' ∧ n = n') := by
  unfold pkN
  constructor
  · constructor
    · intro h
      omega
    · intro h
      omega
  · constructor
    · intro h
      omega
    · rintro ⟨rfl, rfl, rfl, rfl⟩
      rfl
theorem pord_key {f n f' n' : Nat} {a2 a3 b2 b3 : Int64} (hf : f < 256) (hn : n < 256) (hf' : f' < 256) (hn' : n' < 256) :
    (pord (nI f) a2 a3 (nI n) (nI f') b2 b3 (nI n') < 0 ↔ pkN f a2.toBitVec.toNat a3.toBitVec.toNat n < pkN f' b2.toBitVec.toNat b3.toBitVec.toNat n') ∧ (pord (nI f) a2 a3 (nI n) (nI f') b2 b3 (nI n') = 0 ↔ pkN f a2.toBitVec.toNat a3.toBitVec.toNat n = pkN f' b2.toBitVec.toNat b3.toBitVec.toNat n') := by
  have k := pk_lex (f := f) (f' := f') (n := n) (n' := n') a2.toBitVec.isLt a3.toBitVec.isLt (by omega) b2.toBitVec.isLt b3.toBitVec.isLt (by omega)
  rw [k.1, k.2]
  clear k
  have sb : ∀ x y : Nat, x < 256 → y < 256 → (nI x - nI y < 0 ↔ x < y) ∧ (nI x - nI y = 0 ↔ x = y) := by
    intro x y hx hy
    have e : (nI x - nI y).toInt = (x : Int) - y := by
      rw [pk_sub_toInt (by omega) (by omega)]
    refine ⟨?_, ?_⟩
    · rw [Int32.lt_iff_toInt_lt, e]
      have h0 : (0 : Int32).toInt = 0 := rfl
      rw [h0]
      omega
    · rw [← Int32.toInt_inj, e]
      have h0 : (0 : Int32).toInt = 0 := rfl
      rw [h0]
      omega
  have d1 : ((1 : Int32) < 0 ↔ False) := by decide
  have d2 : ((-1 : Int32) < 0 ↔ True) := by decide
  have d3 : ((1 : Int32) = 0 ↔ False) := by decide
  have d4 : ((-1 : Int32) = 0 ↔ False) := by decide
  unfold pord
  by_cases c1 : f = f'
  · subst c1
    rw [if_pos rfl]
    by_cases c2 : a2 = b2
    · subst c2
      rw [if_pos rfl]
      by_cases c3 : a3 = b3
      · subst c3
        rw [if_pos rfl]
        have z := sb n n' hn hn'
        rw [z.1, z.2]
        refine ⟨?_, ?_⟩ <;> constructor <;> intro h <;> first | exact h.elim | omega | exact trivial
      · rw [if_neg c3]
        have c3' : a3.toBitVec.toNat ≠ b3.toBitVec.toNat := fun e => c3 (usg_eq.mpr e)
        by_cases c4 : b3 + Int64.minValue ≤ a3 + Int64.minValue
        · rw [if_pos c4, d1, d3]
          have := (usg_le a3 b3).mp c4
          refine ⟨?_, ?_⟩ <;> constructor <;> intro h <;> first | exact h.elim | omega | exact trivial
        · rw [if_neg c4, d2, d4]
          have : ¬ b3.toBitVec.toNat ≤ a3.toBitVec.toNat := fun e => c4 ((usg_le a3 b3).mpr e)
          refine ⟨?_, ?_⟩ <;> constructor <;> intro h <;> first | exact h.elim | omega | exact trivial
    · rw [if_neg c2]
      have c2' : a2.toBitVec.toNat ≠ b2.toBitVec.toNat := fun e => c2 (usg_eq.mpr e)
      by_cases c4 : b2 + Int64.minValue ≤ a2 + Int64.minValue
      · rw [if_pos c4, d1, d3]
        have := (usg_le a2 b2).mp c4
        refine ⟨?_, ?_⟩ <;> constructor <;> intro h <;> first | exact h.elim | omega | exact trivial
      · rw [if_neg c4, d2, d4]
        have : ¬ b2.toBitVec.toNat ≤ a2.toBitVec.toNat := fun e => c4 ((usg_le a2 b2).mpr e)
        refine ⟨?_, ?_⟩ <;> constructor <;> intro h <;> first | exact h.elim | omega | exact trivial
  · rw [if_neg (fun e => c1 (nI_inj e (by omega) (by omega)))]
    have z := sb f f' hf hf'
    rw [z.1, z.2]
    refine ⟨?_, ?_⟩ <;> constructor <;> intro h <;> first | exact h.elim | omega | exact trivial
/-- the object p is a prefix that the class can make -/
def cPf (s : cS) (u p : Nat) : Prop := (Nat.ble 1 u = true ∧ Nat.ble (u + 1) 100 = true ∧ cKn u = 5) ∧ isO s u p ∧ ∃ f n, s.I 100 p = nI f ∧ f < 256 ∧ s.I 103 p = nI n ∧ n < 256
/-- its number -/
def cPk (s : cS) (p : Nat) : Nat := pkN (s.I 100 p).toNatClampNeg (s.J 101 p).toBitVec.toNat (s.J 102 p).toBitVec.toNat (s.I 103 p).toNatClampNeg
/-- the table tb: the routes rs, in the row w of cap places -/
def cTb (s : cS) (u tb : Nat) (rs : List Nat) (w cap : Nat) : Prop := (Nat.ble 1 u = true ∧ Nat.ble (u + 1) 100 = true ∧ cKn u = 10) ∧ isO s u tb ∧ s.P 200 tb = some w ∧ s.I 201 tb = nI rs.length ∧ isA s 135 cap w ∧ rs.length ≤ cap ∧ cap ≤ 1000000 ∧ ∀ i, i < rs.length → s.Q w i = some (rs.getD i 0) ∧ (∃ ur, isO s ur (rs.getD i 0) ∧ Nat.ble 1 ur = true ∧ Nat.ble (ur + 1) 100 = true ∧ cKn ur = 8) ∧ ∃ q, s.P 160 (rs.getD i 0) = some q ∧ cPf s 10 q
/-- the number of row i -/
def cRk (s : cS) (rs : List Nat) (i : Nat) : Nat := cPk s ((s.P 160 (rs.getD i 0)).getD 0)
def cSo (s : cS) (rs : List Nat) : Prop := ∀ i j, i < j → j < rs.length → cRk s rs i < cRk s rs j
section Table
variable {R : pmM} {s : cS} {base u tb up p w cap : Nat} {rs : List Nat} {Rt : pmR} {kc ks : Nat}
theorem cPf.pf (h : cPf s u p) : cM R s p = some (pfx (s.I 100 p) (s.J 101 p) (s.J 102 p) (s.I 103 p)) := cM_pf h.2.1 h.1.1 h.1.2.1 h.1.2.2
theorem cPk_ord {u' p' : Nat} (h : cPf s u p) (h' : cPf s u' p') : (pord (s.I 100 p) (s.J 101 p) (s.J 102 p) (s.I 103 p) (s.I 100 p') (s.J 101 p') (s.J 102 p') (s.I 103 p') < 0 ↔ cPk s p < cPk s p') ∧ (pord (s.I 100 p) (s.J 101 p) (s.J 102 p) (s.I 103 p) (s.I 100 p') (s.J 101 p') (s.J 102 p') (s.I 103 p') = 0 ↔ cPk s p = cPk s p') := by
  obtain ⟨-, -, f, n, e1, h1, e2, h2⟩ := h
  obtain ⟨-, -, f', n', e1', h1', e2', h2'⟩ := h'
  unfold cPk
  rw [e1, e2, e1', e2', nI_clamp (by omega), nI_clamp (by omega), nI_clamp (by omega), nI_clamp (by omega)]
  exact pord_key h1 h2 h1' h2'
set_option maxRecDepth 100000 in
theorem g_placeOf (sa : Nat → Nat) (ht : cTb s u tb rs w cap) (hs : cSo s rs) (hp : cPf s up p) (k : ∀ j, j ≤ rs.length → (∀ i, i < j → cRk s rs i < cPk s p) → (∀ i, j ≤ i → i < rs.length → cPk s p ≤ cRk s rs i) → Rt (some (.int (nI j))) (cM R s) kc ks) : kP_Ta_placeOf base sa [.ref tb, .ref p] (cM R s) kc ks Rt := by
  obtain ⟨⟨t1, t2, t3⟩, hO, hw, hn, hA, hcap, hcap2, hrow⟩ := ht
  refine ⟨Nat.le_of_ble_eq_true rfl, fun G hG => ?_⟩
  have key : ∀ r fr to, r ≤ 32 → fr ≤ to → to ≤ rs.length → to - fr < 2 ^ r → (∀ i, i < fr → cRk s rs i < cPk s p) → (∀ i, to ≤ i → i < rs.length → cPk s p ≤ cRk s rs i) → G 10 [(4, .int (nI (32 - r))), (3, .int (nI to)), (2, .int (nI fr)), (0, .ref tb), (1, .ref p)] [] (cM R s) kc ks := by
    intro r
    induction r with
    | zero =>
      intro fr to _ h1 h2 h3 h4 h5
      have e : fr = to := by omega
      subst e
      refine pgs hG rfl rfl ?_
      refine pgs hG rfl rfl ?_
      refine pi_ge hG (t := 65) rfl rfl (fun _ => ?_) (fun c => absurd (by decide) c)
      refine pgs hG rfl rfl ?_
      exact pg_ri hG rfl rfl rfl (k fr h2 h4 h5)
    | succ r ih =>
      intro fr to hr h1 h2 h3 h4 h5
      refine pgs hG rfl rfl ?_
      refine pgs hG rfl rfl ?_
      refine pi_ge hG (t := 65) rfl rfl (fun c => absurd (show nI 32 ≤ nI (32 - (r + 1)) from c) (nI_ge (by omega) (by omega))) (fun _ => ?_)
      refine pgs hG rfl rfl ?_
      refine pgs hG rfl rfl ?_
      refine pi_ge hG (t := 65) rfl rfl (fun c => ?_) (fun c => ?_)
      · have hle := (nI_leI (by omega) (by omega)).mp c
        have e : fr = to := by omega
        subst e
        refine pgs hG rfl rfl ?_
        exact pg_ri hG rfl rfl rfl (k fr h2 h4 h5)
      · have hlt : fr < to := by
          rcases Nat.lt_or_ge fr to with h | h
          · exact h
          · exact absurd (nI_le h (by omega)) c
        generalize hm : fr + (to - fr) / 2 = mid
        have hmid : fr ≤ mid ∧ mid < to := by omega
        obtain ⟨hq, ⟨ur, o1, o2, o3, o4⟩, q, hP, hqf⟩ := hrow mid (by omega)
        have hrk : cRk s rs mid = cPk s q := by
          unfold cRk
          rw [hP]
          rfl
        refine pgs hG rfl rfl ?_
        refine pgs hG rfl rfl ?_
        refine pgs hG rfl rfl ?_
        refine pgs hG rfl rfl ?_
        refine pgs hG rfl rfl ?_
        refine pgc hG rfl rfl (by decide) ?_
        refine pgs hG rfl rfl ?_
        rw [pk_sub (by omega), show nI (to - fr) / Int32.ofInt 2 = nI ((to - fr) / 2) from pk_div (d := 2) (by omega) (by omega) (by omega), nI_add, hm]
        refine pgc hG rfl rfl (Nat.le_of_ble_eq_true rfl) ?_
        refine pgs hG rfl rfl ?_
        refine c_gr hG rfl rfl hO t1 t2 t3 rfl rfl hw ?_
        refine pgs hG rfl rfl ?_
        refine c_ar hG rfl hA rfl rfl rfl (vp_in_nI (by omega) (by omega)) (b := rs.getD mid 0) (by rw [nI_clamp (by omega)]; exact hq) ?_
        refine c_gr hG rfl rfl o1 o2 o3 o4 rfl rfl hP ?_
        refine pgs hG rfl rfl ?_
        refine pg_cal hG 0 rfl rfl (Nat.le_of_ble_eq_true rfl) (by decide) (Nat.le_of_ble_eq_true rfl) ?_
        refine pm_rcv_of (As' := [.ref p]) (hqf.pf) (s_Pr_order base sa hqf.pf hp.pf ?_)
        have ho := (cPk_ord hqf hp).1
        refine pz_ge hG (t := 56) rfl rfl (fun c2 => ?_) (fun c2 => ?_)
        · have hge : cPk s p ≤ cRk s rs mid := by
            rw [hrk]
            exact Nat.le_of_not_lt (fun e => absurd (ho.mpr e) (Int32.not_lt.mpr c2))
          refine pgs hG rfl rfl ?_
          refine pgc hG rfl rfl (Nat.le_of_ble_eq_true rfl) ?_
          refine pgc hG rfl rfl (Nat.le_of_ble_eq_true rfl) ?_
          refine pg_go hG (t := 10) rfl rfl ?_
          have h6 := ih fr mid (by omega) (by omega) (by omega) (by rw [Nat.pow_succ] at h3; omega) h4 (fun i hi1 hi2 => ?_)
          · have e : nI (32 - (r + 1)) + Int32.ofInt 1 = nI (32 - r) := (nI_add _ 1).trans (congrArg nI (by omega))
            rw [← e] at h6
            exact pg_wl hG [0, 1, 3, 4, 5] rfl h6
          · rcases Nat.lt_or_ge mid i with g | g
            · exact Nat.le_trans hge (Nat.le_of_lt (hs mid i g hi2))
            · have : i = mid := by omega
              exact this ▸ hge
        · have hlt2 : cRk s rs mid < cPk s p := by
            rw [hrk]
            exact ho.mp (Int32.not_le.mp c2)
          refine pgs hG rfl rfl ?_
          refine pgs hG rfl rfl ?_
          refine pgs hG rfl rfl ?_
          refine pgc hG rfl rfl (Nat.le_of_ble_eq_true rfl) ?_
          refine pg_go hG (t := 59) rfl rfl ?_
          refine pgc hG rfl rfl (Nat.le_of_ble_eq_true rfl) ?_
          refine pg_go hG (t := 10) rfl rfl ?_
          have h6 := ih (mid + 1) to (by omega) (by omega) (by omega) (by rw [Nat.pow_succ] at h3; omega) (fun i hi => ?_) h5
          · have e : nI (32 - (r + 1)) + Int32.ofInt 1 = nI (32 - r) := (nI_add _ 1).trans (congrArg nI (by omega))
            have e2 : nI mid + Int32.ofInt 1 = nI (mid + 1) := nI_add mid 1
            rw [← e, ← e2] at h6
            exact pg_wl hG [0, 3, 1, 4, 5] rfl h6
          · rcases Nat.lt_or_ge i mid with g | g
            · exact Nat.lt_trans (hs i mid g (by omega)) hlt2
            · have : i = mid := by omega
              exact this ▸ hlt2
  refine pgs hG rfl rfl ?_
  refine pgc hG rfl rfl (Nat.le_of_ble_eq_true rfl) ?_
  refine pgs hG rfl rfl ?_
  refine c_gi hG rfl rfl hO t1 t2 t3 rfl rfl ?_
  refine pgc hG rfl rfl (Nat.le_of_ble_eq_true rfl) ?_
  refine pgs hG rfl rfl ?_
  refine pgc hG rfl rfl (Nat.le_of_ble_eq_true rfl) ?_
  have h := key 32 0 rs.length (by omega) (by omega) (by omega) (by omega) (fun i hi => absurd hi (Nat.not_lt_zero _)) (fun i h1 h2 => absurd h2 (by omega))
  rw [← hn] at h
  exact h
set_option maxRecDepth 100000 in
/-- find: the row of a prefix, or none -/
theorem g_find (sa : Nat → Nat) (ht : cTb s u tb rs w cap) (hs : cSo s rs) (hp : cPf s up p) (k0 : (∀ i, i < rs.length → cRk s rs i ≠ cPk s p) → Rt (some .null) (cM R s) kc ks) (k1 : ∀ i, i < rs.length → cRk s rs i = cPk s p → Rt (some (.ref (rs.getD i 0))) (cM R s) kc ks) : kP_Ta_find base sa [.ref tb, .ref p] (cM R s) kc ks Rt := by
  have ht0 := ht
  obtain ⟨⟨t1, t2, t3⟩, hO, hw, hn, hA, hcap, hcap2, hrow⟩ := ht
  refine ⟨Nat.le_of_ble_eq_true rfl, fun G hG => ?_⟩
  refine pgs hG rfl rfl ?_
  refine pgs hG rfl rfl ?_
  refine pg_cal hG 0 rfl rfl (Nat.le_of_ble_eq_true rfl) (by decide) (Nat.le_of_ble_eq_true rfl) ?_
  refine pm_rcv_of (As' := [.ref p]) (cM_o hO t1 t2 t3) (g_placeOf sa ht0 hs hp (fun j hj h1 h2 => ?_))
  refine pgc hG rfl rfl (Nat.le_of_ble_eq_true rfl) ?_
  refine pgs hG rfl rfl ?_
  refine pgs hG rfl rfl ?_
  refine c_gi hG rfl rfl hO t1 t2 t3 rfl rfl ?_
  rw [show s.I (20 * 10 + 1) tb = nI rs.length from hn]
  refine pi_ge hG (t := 39) rfl rfl (fun c => ?_) (fun c => ?_)
  · have hle := (nI_leI (by omega) (by omega)).mp c
    refine pgs hG rfl rfl ?_
    refine pg_ra (q := none) hG rfl rfl rfl (k0 (fun i hi e => ?_))
    exact absurd (h1 i (by omega)) (by omega)
  · have hlt : j < rs.length := by
      rcases Nat.lt_or_ge j rs.length with h | h
      · exact h
      · exact absurd (nI_le h (by omega)) c
    obtain ⟨hq, ⟨ur, o1, o2, o3, o4⟩, q, hP, hqf⟩ := hrow j hlt
    have hrk : cRk s rs j = cPk s q := by
      unfold cRk
      rw [hP]
      rfl
    refine pgs hG rfl rfl ?_
    refine c_gr hG rfl rfl hO t1 t2 t3 rfl rfl hw ?_
    refine pgs hG rfl rfl ?_
    refine c_ar hG rfl hA rfl rfl rfl (vp_in_nI (by omega) (by omega)) (b := rs.getD j 0) (by rw [nI_clamp (by omega)]; exact hq) ?_
    refine c_gr hG rfl rfl o1 o2 o3 o4 rfl rfl hP ?_
    refine pgs hG rfl rfl ?_
    refine pg_cal hG 0 rfl rfl (Nat.le_of_ble_eq_true rfl) (by decide) (Nat.le_of_ble_eq_true rfl) ?_
    refine pm_rcv_of (As' := [.ref p]) (hqf.pf) (s_Pr_order base sa hqf.pf hp.pf ?_)
    have ho := (cPk_ord hqf hp).2
    refine pz_ne hG (t := 39) rfl rfl (fun c2 => ?_) (fun c2 => ?_)
    · refine pgs hG rfl rfl ?_
      refine pg_ra (q := none) hG rfl rfl rfl (k0 (fun i hi e => ?_))
      rcases Nat.lt_trichotomy i j with g | g | g
      · exact absurd (h1 i g) (by omega)
      · subst g
        exact c2 (ho.mpr (hrk.symm.trans e))
      · have g1 := h2 j (Nat.le_refl _) hlt
        have g2 := hs j i g hi
        omega
    · refine pgs hG rfl rfl ?_
      refine c_gr hG rfl rfl hO t1 t2 t3 rfl rfl hw ?_
      refine pgs hG rfl rfl ?_
      refine c_ar hG rfl hA rfl rfl rfl (vp_in_nI (by omega) (by omega)) (b := rs.getD j 0) (by rw [nI_clamp (by omega)]; exact hq) ?_
      refine pg_go hG (t := 40) rfl rfl ?_
      exact pg_ra (q := some (rs.getD j 0)) hG rfl rfl rfl (k1 j hlt (hrk.trans (ho.mp c2)))
end Table
