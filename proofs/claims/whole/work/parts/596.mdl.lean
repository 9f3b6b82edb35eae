/-! The model: calls that are refused; calls without links and routers. -/
theorem outR_ge {y : Int32} {t : Nat} (ho : outR y t) (h0 : ¬ y < 0) : nI t ≤ y := by
  rcases ho with h | ⟨j, hj, rfl, htj⟩
  · exact absurd h h0
  · exact nI_le htj hj
set_option maxRecDepth 100000 in
theorem m_link0 (base : Nat) (sa : Nat → Nat) {R : pmM} {m t : Nat} {q : Nat → Nat} {s : moS} {y : Int32} {Rt : pmR} {kc ks : Nat} (hq : moQ base m q) {z : Int32} (h : s.S 17 = nI t) (ho : outR y t) (k : Rt (some (.int 0)) (moM R m q (moSS s 0 0)) kc ks) : kP_Mo_link base sa [.ref m, .int y, .int z] (moM R m q s) kc ks Rt := by
  refine ⟨Nat.le_of_ble_eq_true rfl, fun G hG => ?_⟩
  refine pgs hG rfl rfl ?_
  refine pgs hG rfl rfl ?_
  refine mo_pi hG hq rfl rfl rfl rfl ?_
  refine pgs hG rfl rfl ?_
  refine pz_lt hG (t := 27) rfl rfl (fun _ => ?_) (fun c => ?_)
  · refine pgs hG rfl rfl ?_
    exact pg_ri hG rfl rfl rfl k
  · refine pgs hG rfl rfl ?_
    refine pgs hG rfl rfl ?_
    refine mo_gi hG rfl rfl rfl rfl ?_
    refine pi_ge hG (t := 27) rfl rfl (fun _ => ?_) (fun c9 => ?_)
    · refine pgs hG rfl rfl ?_
      exact pg_ri hG rfl rfl rfl k
    · exact absurd (show s.S 17 ≤ y from by rw [h]; exact outR_ge ho c) c9
set_option maxRecDepth 100000 in
theorem m_run0 (base : Nat) (sa : Nat → Nat) {R : pmM} {m t : Nat} {q : Nat → Nat} {s : moS} {y : Int32} {Rt : pmR} {kc ks : Nat} (hq : moQ base m q) {z : Int32} (h : s.S 37 = nI t) (ho : outR y t) (k : Rt (some (.int 0)) (moM R m q (moSS s 0 0)) kc ks) : kP_Mo_run base sa [.ref m, .int y, .int z] (moM R m q s) kc ks Rt := by
  refine ⟨Nat.le_of_ble_eq_true rfl, fun G hG => ?_⟩
  refine pgs hG rfl rfl ?_
  refine pgs hG rfl rfl ?_
  refine mo_pi hG hq rfl rfl rfl rfl ?_
  refine pgs hG rfl rfl ?_
  refine pz_lt hG (t := 27) rfl rfl (fun _ => ?_) (fun c => ?_)
  · refine pgs hG rfl rfl ?_
    exact pg_ri hG rfl rfl rfl k
  · refine pgs hG rfl rfl ?_
    refine pgs hG rfl rfl ?_
    refine mo_gi hG rfl rfl rfl rfl ?_
    refine pi_ge hG (t := 27) rfl rfl (fun _ => ?_) (fun c9 => ?_)
    · refine pgs hG rfl rfl ?_
      exact pg_ri hG rfl rfl rfl k
    · exact absurd (show s.S 37 ≤ y from by rw [h]; exact outR_ge ho c) c9
set_option maxRecDepth 100000 in
theorem m_seen0 (base : Nat) (sa : Nat → Nat) {R : pmM} {m t : Nat} {q : Nat → Nat} {s : moS} {y : Int32} {Rt : pmR} {kc ks : Nat} (hq : moQ base m q) (h : s.S 17 = nI t) (ho : outR y t) (k : Rt (some (.int (-1))) (moM R m q (moSS s 0 0)) kc ks) : kP_Mo_seen base sa [.ref m, .int y] (moM R m q s) kc ks Rt := by
  refine ⟨Nat.le_of_ble_eq_true rfl, fun G hG => ?_⟩
  refine pgs hG rfl rfl ?_
  refine pgs hG rfl rfl ?_
  refine mo_pi hG hq rfl rfl rfl rfl ?_
  refine pgs hG rfl rfl ?_
  refine pz_lt hG (t := 17) rfl rfl (fun _ => ?_) (fun c => ?_)
  · refine pgs hG rfl rfl ?_
    exact pg_ri hG rfl rfl rfl k
  · refine pgs hG rfl rfl ?_
    refine pgs hG rfl rfl ?_
    refine mo_gi hG rfl rfl rfl rfl ?_
    refine pi_lt hG (t := 19) rfl rfl (fun c9 => ?_) (fun _ => ?_)
    · exact absurd c9 (Int32.not_lt.mpr (show s.S 17 ≤ y from by rw [h]; exact outR_ge ho c))
    · refine pgs hG rfl rfl ?_
      exact pg_ri hG rfl rfl rfl k
set_option maxRecDepth 100000 in
theorem m_put0 (base : Nat) (sa : Nat → Nat) {R : pmM} {m t : Nat} {q : Nat → Nat} {s : moS} {y : Int32} {Rt : pmR} {kc ks : Nat} (hq : moQ base m q) {z2 z3 z4 : Int32} (h : s.S 17 = nI t) (ho : outR y t) (k : Rt (some (.int 0)) (moM R m q (moSS (moSS s 0 0) 3 0)) kc ks) : kP_Mo_put base sa [.ref m, .int y, .int z2, .int z3, .int z4] (moM R m q s) kc ks Rt := by
  refine ⟨Nat.le_of_ble_eq_true rfl, fun G hG => ?_⟩
  refine pgs hG rfl rfl ?_
  refine pgs hG rfl rfl ?_
  refine mo_pi hG hq rfl rfl rfl rfl ?_
  refine pgs hG rfl rfl ?_
  refine mo_gi hG rfl rfl rfl rfl ?_
  refine pgc hG rfl rfl (Nat.le_of_ble_eq_true rfl) ?_
  refine pgs hG rfl rfl ?_
  refine pgs hG rfl rfl ?_
  refine mo_pi hG hq rfl rfl rfl rfl ?_
  refine pgs hG rfl rfl ?_
  refine pgs hG rfl rfl ?_
  refine pi_eq hG (t := 27) rfl rfl (fun _ => ?_) (fun _ => ?_)
  · refine pgs hG rfl rfl ?_
    refine pz_lt hG (t := 48) rfl rfl (fun _ => ?_) (fun c => ?_)
    · refine pgs hG rfl rfl ?_
      exact pg_ri hG rfl rfl rfl k
    · refine pgs hG rfl rfl ?_
      refine pgs hG rfl rfl ?_
      refine mo_gi hG rfl rfl rfl rfl ?_
      refine pi_ge hG (t := 48) rfl rfl (fun _ => ?_) (fun c9 => ?_)
      · refine pgs hG rfl rfl ?_
        exact pg_ri hG rfl rfl rfl k
      · exact absurd (show s.S 17 ≤ y from by rw [h]; exact outR_ge ho c) c9
  · refine pgs hG rfl rfl ?_
    refine pgs hG rfl rfl ?_
    refine pi_ne hG (t := 48) rfl rfl (fun _ => ?_) (fun _ => ?_)
    · refine pgs hG rfl rfl ?_
      exact pg_ri hG rfl rfl rfl k
    · refine pgs hG rfl rfl ?_
      refine pz_lt hG (t := 48) rfl rfl (fun _ => ?_) (fun c => ?_)
      · refine pgs hG rfl rfl ?_
        exact pg_ri hG rfl rfl rfl k
      · refine pgs hG rfl rfl ?_
        refine pgs hG rfl rfl ?_
        refine mo_gi hG rfl rfl rfl rfl ?_
        refine pi_ge hG (t := 48) rfl rfl (fun _ => ?_) (fun c9 => ?_)
        · refine pgs hG rfl rfl ?_
          exact pg_ri hG rfl rfl rfl k
        · exact absurd (show s.S 17 ≤ y from by rw [h]; exact outR_ge ho c) c9
set_option maxRecDepth 100000 in
theorem m_show0 (base : Nat) (sa : Nat → Nat) {R : pmM} {m t : Nat} {q : Nat → Nat} {s : moS} {y : Int32} {Rt : pmR} {kc ks : Nat} (hq : moQ base m q) {z : Int32} (h : s.S 37 = nI t) (ht : t < 2 ^ 31) (ho : outR y t) (k : Rt (some (.int (-1))) (moM R m q (moSS s 0 0)) kc ks) : kP_Mo_show base sa [.ref m, .int y, .int z] (moM R m q s) kc ks Rt := by
  refine ⟨Nat.le_of_ble_eq_true rfl, fun G hG => ?_⟩
  refine pgs hG rfl rfl ?_
  refine pgs hG rfl rfl ?_
  refine mo_pi hG hq rfl rfl rfl rfl ?_
  refine pgs hG rfl rfl ?_
  refine pgs hG rfl rfl ?_
  refine pg_cal hG 0 rfl rfl (Nat.le_of_ble_eq_true rfl) (by decide) (Nat.le_of_ble_eq_true rfl) ?_
  refine pm_rcv_of (As' := [.int y]) moM_m (s_Mo_isRouter base sa moM_m (show moV q (moSS s 0 0) 37 = .int (nI t) from congrArg Value.int h) ht (fun _ => ?_) (fun j hy hj => (outR_no ho hy hj ht).elim))
  refine pz_eq hG (t := 22) rfl rfl (fun _ => ?_) (fun c => absurd rfl c)
  refine pgs hG rfl rfl ?_
  exact pg_ri hG rfl rfl rfl k
def moW (k : Nat) : Nat := if k = 5 then 7 else if k = 7 then 5 else k
theorem moW_w (k : Nat) : moW (moW k) = k := by
  unfold moW
  repeat' split
  all_goals omega
theorem moW_mem {k : Nat} (h : k ∈ moAr) : moW k ∈ moAr := by
  unfold moW
  split
  · exact mo_mem rfl rfl
  · split
    · exact mo_mem rfl rfl
    · exact h
/-- draft and text have changed places -/
def moShn (s : moS) : moS := (fun j => if j = 6 then s.S 8 else s.S j, s.Z, fun k => s.I (moW k), s.J, fun k => s.N (moW k))
theorem moQ_w {base m : Nat} {q : Nat → Nat} (h : moQ base m q) : moQ base m (fun k => q (moW k)) := by
  refine ⟨h.1, fun k hk => ⟨(h.2 _ (moW_mem hk)).1, (h.2 _ (moW_mem hk)).2.1, fun j hj e => ?_⟩⟩
  have e2 := (h.2 _ (moW_mem hk)).2.2 _ (moW_mem hj) e
  rw [← moW_w j, e2, moW_w]
theorem moA_w {s : moS} {k : Nat} (_ : k ∈ moAr) : moA (moShn s) (moW k) = moA s k := by
  by_cases h5 : k = 5
  · subst h5
    rfl
  · by_cases h7 : k = 7
    · subst h7
      rfl
    · have e : moW k = k := by
        unfold moW
        rw [if_neg h5, if_neg h7]
      rw [e]
      have eI : (moShn s).I k = s.I k := congrArg s.I e
      have eN : (moShn s).N k = s.N k := congrArg s.N e
      unfold moA
      rw [eI, eN]
      rfl
theorem moM_w {R : pmM} {base m : Nat} {q : Nat → Nat} {s : moS} (hq : moQ base m q) : pm_up (moM R m q s) m (.inr (12, moL (moV (fun k => q (moW k)) (moShn s)))) = moM R m (fun k => q (moW k)) (moShn s) := by
  funext a
  by_cases ha : a = m
  · subst ha
    rw [pm_up_self, moM_m]
  · rw [pm_up_ne _ _ ha]
    by_cases h : ∃ k ∈ moAr, q k = a
    · obtain ⟨k, hk, rfl⟩ := h
      rw [moM_q hq hk]
      have e : moM R m (fun k => q (moW k)) (moShn s) (q (moW (moW k))) = some (moA (moShn s) (moW k)) := moM_q (R := R) (s := moShn s) (moQ_w hq) (moW_mem hk)
      rw [moW_w] at e
      rw [e, moA_w hk]
    · have h1 : ∀ k ∈ moAr, q k ≠ a := fun k hk e => h ⟨k, hk, e⟩
      rw [moM_o ha h1, moM_o ha (fun k hk => h1 _ (moW_mem hk))]
set_option maxRecDepth 100000 in
theorem moV_w {q : Nat → Nat} {s : moS} : moL (upF (upF (upF (moV q s) 5 (.ref (q 7))) 6 (.int (s.S 8))) 7 (.ref (q 5))) = moL (moV (fun k => q (moW k)) (moShn s)) := by
  unfold moL
  refine List.map_congr_left (fun k _ => ?_)
  by_cases h7 : k = 7
  · subst h7
    rw [upF_s]
    rfl
  · rw [upF_n _ _ h7]
    by_cases h6 : k = 6
    · subst h6
      rw [upF_s]
      rfl
    · rw [upF_n _ _ h6]
      by_cases h5 : k = 5
      · subst h5
        rw [upF_s]
        rfl
      · rw [upF_n _ _ h5]
        have e : moW k = k := by
          unfold moW
          rw [if_neg h5, if_neg h7]
        have eS : (moShn s).S k = s.S k := if_neg h6
        unfold moV
        rw [eS]
        show (match moKd k with | 0 => Value.int (s.S k) | 1 => Value.long (s.Z k) | _ => Value.ref (q k)) = (match moKd k with | 0 => Value.int (s.S k) | 1 => Value.long (s.Z k) | _ => Value.ref (q (moW k)))
        rw [e]
set_option maxRecDepth 100000 in
theorem m_shown (base : Nat) (sa : Nat → Nat) {R : pmM} {m : Nat} {q : Nat → Nat} {s : moS} {Rt : pmR} {kc ks : Nat} (hq : moQ base m q) (k : Rt (some (.int (s.S 8))) (moM R m (fun k => q (moW k)) (moShn s)) kc ks) : kP_Mo_shown base sa [.ref m] (moM R m q s) kc ks Rt := by
  refine ⟨Nat.le_of_ble_eq_true rfl, fun G hG => ?_⟩
  refine pgs hG rfl rfl ?_
  refine mo_gr hG rfl rfl rfl rfl ?_
  refine pgc hG rfl rfl (Nat.le_of_ble_eq_true rfl) ?_
  refine pgs hG rfl rfl ?_
  refine pgs hG rfl rfl ?_
  refine mo_gr hG rfl rfl rfl rfl ?_
  refine pg_pm hG rfl rfl moM_m hq.1 rfl rfl rfl ?_
  refine pgs hG rfl rfl ?_
  refine pgs hG rfl rfl ?_
  refine pg_gm hG rfl rfl (pm_up_self _ _ _) rfl ((upF_n _ _ (by decide)).trans (show moV q s 8 = .int (s.S 8) from rfl)) ?_
  refine pg_pm hG rfl rfl (pm_up_self _ _ _) hq.1 rfl rfl rfl ?_
  refine pgs hG rfl rfl ?_
  refine pgs hG rfl rfl ?_
  refine pg_pm hG rfl rfl (pm_up_self _ _ _) hq.1 rfl rfl rfl ?_
  refine pgs hG rfl rfl ?_
  refine pg_gm hG rfl rfl (pm_up_self _ _ _) rfl ((upF_n _ _ (by decide)).trans (upF_s _ _ _)) ?_
  rw [pm_uu, pm_uu]
  rw [← moM_w hq, ← moV_w] at k
  exact pg_ri hG rfl rfl rfl k
set_option maxRecDepth 100000 in
theorem m_config0 (base : Nat) (sa : Nat → Nat) {R : pmM} {m : Nat} {q : Nat → Nat} {s : moS} {Rt : pmR} {kc ks : Nat} (hq : moQ base m q) (h17 : s.S 17 = 0) (h27 : s.S 27 = 0) (h37 : s.S 37 = 0) (k : Rt (some (.int 0)) (moM R m (fun k => q (moW k)) (moShn (moSS (moSS s 0 0) 8 0))) kc ks) : kP_Mo_config base sa [.ref m] (moM R m q s) kc ks Rt := by
  refine ⟨Nat.le_of_ble_eq_true rfl, fun G hG => ?_⟩
  refine pgs hG rfl rfl ?_
  refine pgs hG rfl rfl ?_
  refine mo_pi hG hq rfl rfl rfl rfl ?_
  refine pgs hG rfl rfl ?_
  refine pgs hG rfl rfl ?_
  refine mo_pi hG hq rfl rfl rfl rfl ?_
  refine pgs hG rfl rfl ?_
  refine pgc hG rfl rfl (Nat.le_of_ble_eq_true rfl) ?_
  refine pgs hG rfl rfl ?_
  refine pgs hG rfl rfl ?_
  refine mo_gi hG rfl rfl rfl rfl ?_
  refine pi_ge hG (t := 31) rfl rfl (fun _ => ?_) (fun c => absurd (show s.S 17 ≤ 0 from by rw [h17]; decide) c)
  refine pgs hG rfl rfl ?_
  refine pgc hG rfl rfl (Nat.le_of_ble_eq_true rfl) ?_
  refine pgs hG rfl rfl ?_
  refine pgs hG rfl rfl ?_
  refine mo_gi hG rfl rfl rfl rfl ?_
  refine pi_ge hG (t := 79) rfl rfl (fun _ => ?_) (fun c => absurd (show s.S 27 ≤ 0 from by rw [h27]; decide) c)
  refine pgs hG rfl rfl ?_
  refine pgc hG rfl rfl (Nat.le_of_ble_eq_true rfl) ?_
  refine pgs hG rfl rfl ?_
  refine pgs hG rfl rfl ?_
  refine mo_gi hG rfl rfl rfl rfl ?_
  refine pi_ge hG (t := 100) rfl rfl (fun _ => ?_) (fun c => absurd (show s.S 37 ≤ 0 from by rw [h37]; decide) c)
  refine pgs hG rfl rfl ?_
  refine mo_gi hG rfl rfl rfl rfl ?_
  refine pg_lwi hG rfl rfl ?_
  refine pi_le hG (t := 114) rfl rfl (fun _ => ?_) (fun c => absurd (show (0 : Int32) ≤ 40000 from by decide) c)
  refine pgs hG rfl rfl ?_
  refine pg_cal hG 0 rfl rfl (Nat.le_of_ble_eq_true rfl) (by decide) (Nat.le_of_ble_eq_true rfl) ?_
  refine pm_rcv_of (As' := []) moM_m (m_shown base sa hq ?_)
  exact pg_ri hG rfl rfl rfl k
set_option maxRecDepth 100000 in
theorem m_plain0 (base : Nat) (sa : Nat → Nat) {R : pmM} {m : Nat} {q : Nat → Nat} {s : moS} {Rt : pmR} {kc ks : Nat} (hq : moQ base m q) (k : Rt (some (.int (-1))) (moM R m q s) kc ks) : kP_Mo_plain base sa [.ref m, .int 0, .int 0, .int (Int16.ofInt 255).toInt32] (moM R m q s) kc ks Rt := by
  refine ⟨Nat.le_of_ble_eq_true rfl, fun G hG => ?_⟩
  refine pgs hG rfl rfl ?_
  refine pgs hG rfl rfl ?_
  refine pgs hG rfl rfl ?_
  refine pgc hG rfl rfl (Nat.le_of_ble_eq_true rfl) ?_
  refine pgs hG rfl rfl ?_
  refine pgs hG rfl rfl ?_
  refine pi_lt hG (t := 34) rfl rfl (fun _ => ?_) (fun c => absurd (by decide) c)
  refine pgs hG rfl rfl ?_
  exact pg_ri hG rfl rfl rfl k
set_option maxRecDepth 100000 in
theorem m_four0 (base : Nat) (sa : Nat → Nat) {R : pmM} {m : Nat} {q : Nat → Nat} {s : moS} {Rt : pmR} {kc ks : Nat} (hq : moQ base m q) (k : Rt (some (.int 0)) (moM R m q s) kc ks) : kP_Mo_readFour base sa [.ref m, .int 0, .int 0] (moM R m q s) kc ks Rt := by
  refine ⟨Nat.le_of_ble_eq_true rfl, fun G hG => ?_⟩
  refine pgs hG rfl rfl ?_
  refine pgc hG rfl rfl (Nat.le_of_ble_eq_true rfl) ?_
  refine pgs hG rfl rfl ?_
  refine pgc hG rfl rfl (Nat.le_of_ble_eq_true rfl) ?_
  refine pgs hG rfl rfl ?_
  refine pgc hG rfl rfl (Nat.le_of_ble_eq_true rfl) ?_
  refine pgs hG rfl rfl ?_
  refine pgs hG rfl rfl ?_
  refine pi_ge hG (t := 109) rfl rfl (fun c => absurd c (by decide)) (fun _ => ?_)
  refine pgs hG rfl rfl ?_
  refine pgc hG rfl rfl (Nat.le_of_ble_eq_true rfl) ?_
  refine pgs hG rfl rfl ?_
  refine pgs hG rfl rfl ?_
  refine pi_ge hG (t := 42) rfl rfl (fun _ => ?_) (fun c => absurd (by decide) c)
  refine pgs hG rfl rfl ?_
  refine pgs hG rfl rfl ?_
  refine pgs hG rfl rfl ?_
  refine pgs hG rfl rfl ?_
  refine pg_cal hG 0 rfl rfl (Nat.le_of_ble_eq_true rfl) (by decide) (Nat.le_of_ble_eq_true rfl) ?_
  refine pm_rcv_of (As' := [.int 0, .int 0, .int (Int16.ofInt 255).toInt32]) moM_m (m_plain0 base sa hq ?_)
  refine pgc hG rfl rfl (Nat.le_of_ble_eq_true rfl) ?_
  refine pgs hG rfl rfl ?_
  refine pgs hG rfl rfl ?_
  refine pi_eq hG (t := 86) rfl rfl (fun _ => ?_) (fun c => absurd rfl c)
  refine pgs hG rfl rfl ?_
  exact pg_ri hG rfl rfl rfl k
set_option maxRecDepth 100000 in
theorem m_six0 (base : Nat) (sa : Nat → Nat) {R : pmM} {m : Nat} {q : Nat → Nat} {s : moS} {Rt : pmR} {kc ks : Nat} (hq : moQ base m q) (k : Rt (some (.int 0)) (moM R m q s) kc ks) : kP_Mo_readSix base sa [.ref m, .int 0, .int 0] (moM R m q s) kc ks Rt := by
  refine ⟨Nat.le_of_ble_eq_true rfl, fun G hG => ?_⟩
  refine pgs hG rfl rfl ?_
  refine pgc hG rfl rfl (Nat.le_of_ble_eq_true rfl) ?_
  refine pgs hG rfl rfl ?_
  refine pgc hG rfl rfl (Nat.le_of_ble_eq_true rfl) ?_
  refine pgs hG rfl rfl ?_
  refine pgc hG rfl rfl (Nat.le_of_ble_eq_true rfl) ?_
  refine pgs hG rfl rfl ?_
  refine pgs hG rfl rfl ?_
  refine pgs hG rfl rfl ?_
  refine pgs hG rfl rfl ?_
  refine pi_le hG (t := 47) rfl rfl (fun _ => ?_) (fun c => absurd (by decide) c)
  refine pgs hG rfl rfl ?_
  refine pgs hG rfl rfl ?_
  refine pi_ge hG (t := 57) rfl rfl (fun _ => ?_) (fun c => absurd (by decide) c)
  refine pgs hG rfl rfl ?_
  refine pgc hG rfl rfl (Nat.le_of_ble_eq_true rfl) ?_
  refine pgs hG rfl rfl ?_
  refine pz_ne hG (t := 73) rfl rfl (fun c => absurd rfl c) (fun _ => ?_)
  refine pgs hG rfl rfl ?_
  refine pgs hG rfl rfl ?_
  refine pi_ne hG (t := 73) rfl rfl (fun c => absurd rfl c) (fun _ => ?_)
  refine pgs hG rfl rfl ?_
  exact pg_ri hG rfl rfl rfl k
set_option maxRecDepth 100000 in
theorem m_addr0 (base : Nat) (sa : Nat → Nat) {R : pmM} {m : Nat} {q : Nat → Nat} {s : moS} {Rt : pmR} {kc ks : Nat} (hq : moQ base m q) (k : Rt (some (.int 0)) (moM R m q s) kc ks) : kP_Mo_readAddress base sa [.ref m, .int 0, .int 0] (moM R m q s) kc ks Rt := by
  refine ⟨Nat.le_of_ble_eq_true rfl, fun G hG => ?_⟩
  refine pgs hG rfl rfl ?_
  refine pgs hG rfl rfl ?_
  refine pgs hG rfl rfl ?_
  refine pg_cal hG 0 rfl rfl (Nat.le_of_ble_eq_true rfl) (by decide) (Nat.le_of_ble_eq_true rfl) ?_
  refine pm_rcv_of (As' := [.int 0, .int 0]) moM_m (m_four0 base sa hq ?_)
  refine pz_ne hG (t := 18) rfl rfl (fun c => absurd rfl c) (fun _ => ?_)
  refine pgs hG rfl rfl ?_
  refine pgs hG rfl rfl ?_
  refine pgs hG rfl rfl ?_
  refine pg_cal hG 0 rfl rfl (Nat.le_of_ble_eq_true rfl) (by decide) (Nat.le_of_ble_eq_true rfl) ?_
  refine pm_rcv_of (As' := [.int 0, .int 0]) moM_m (m_six0 base sa hq ?_)
  refine pz_eq hG (t := 22) rfl rfl (fun _ => ?_) (fun c => absurd rfl c)
  refine pgs hG rfl rfl ?_
  exact pg_ri hG rfl rfl rfl k
set_option maxRecDepth 100000 in
theorem m_take0 (base : Nat) (sa : Nat → Nat) {R : pmM} {m : Nat} {q : Nat → Nat} {s : moS} {Rt : pmR} {kc ks : Nat} (hq : moQ base m q) (h : s.S 3 = 0) (k : Rt (some (.int 0)) (moM R m q (moSS s 3 0)) kc ks) : kP_Mo_takeAddress base sa [.ref m] (moM R m q s) kc ks Rt := by
  refine ⟨Nat.le_of_ble_eq_true rfl, fun G hG => ?_⟩
  refine pgs hG rfl rfl ?_
  refine mo_gi hG rfl rfl rfl rfl ?_
  rw [h]
  refine pgc hG rfl rfl (Nat.le_of_ble_eq_true rfl) ?_
  refine pgs hG rfl rfl ?_
  refine pgs hG rfl rfl ?_
  refine mo_pi hG hq rfl rfl rfl rfl ?_
  refine pgs hG rfl rfl ?_
  refine pgs hG rfl rfl ?_
  refine pgs hG rfl rfl ?_
  refine pg_cal hG 0 rfl rfl (Nat.le_of_ble_eq_true rfl) (by decide) (Nat.le_of_ble_eq_true rfl) ?_
  refine pm_rcv_of (As' := [.int 0, .int 0]) moM_m (m_addr0 base sa hq ?_)
  exact pg_ri hG rfl rfl rfl k
set_option maxRecDepth 100000 in
theorem m_oracle0 (base : Nat) (sa : Nat → Nat) {R : pmM} {m : Nat} {q : Nat → Nat} {s : moS} {Rt : pmR} {kc ks : Nat} (hq : moQ base m q) {y : Int32} (h : s.S 3 = 0) (k : Rt (some (.int (-1))) (moM R m q (moSS (moSS s 0 0) 3 0)) kc ks) : kP_Mo_oracle base sa [.ref m, .int y] (moM R m q s) kc ks Rt := by
  refine ⟨Nat.le_of_ble_eq_true rfl, fun G hG => ?_⟩
  refine pgs hG rfl rfl ?_
  refine pgs hG rfl rfl ?_
  refine mo_pi hG hq rfl rfl rfl rfl ?_
  refine pgs hG rfl rfl ?_
  refine pg_cal hG 0 rfl rfl (Nat.le_of_ble_eq_true rfl) (by decide) (Nat.le_of_ble_eq_true rfl) ?_
  refine pm_rcv_of (As' := []) moM_m (m_take0 base sa hq (show (moSS s 0 0).S 3 = 0 from h) ?_)
  refine pgc hG rfl rfl (Nat.le_of_ble_eq_true rfl) ?_
  refine pgs hG rfl rfl ?_
  refine pz_eq hG (t := 31) rfl rfl (fun _ => ?_) (fun c => absurd rfl c)
  refine pgs hG rfl rfl ?_
  exact pg_ri hG rfl rfl rfl k
set_option maxRecDepth 100000 in
theorem m_way0 (base : Nat) (sa : Nat → Nat) {R : pmM} {m : Nat} {q : Nat → Nat} {s : moS} {Rt : pmR} {kc ks : Nat} (hq : moQ base m q) {y : Int32} (h : s.S 3 = 0) (k : Rt (some (.int (-1))) (moM R m q (moSS (moSS s 0 0) 3 0)) kc ks) : kP_Mo_way base sa [.ref m, .int y] (moM R m q s) kc ks Rt := by
  refine ⟨Nat.le_of_ble_eq_true rfl, fun G hG => ?_⟩
  refine pgs hG rfl rfl ?_
  refine pgs hG rfl rfl ?_
  refine mo_pi hG hq rfl rfl rfl rfl ?_
  refine pgs hG rfl rfl ?_
  refine pg_cal hG 0 rfl rfl (Nat.le_of_ble_eq_true rfl) (by decide) (Nat.le_of_ble_eq_true rfl) ?_
  refine pm_rcv_of (As' := []) moM_m (m_take0 base sa hq (show (moSS s 0 0).S 3 = 0 from h) ?_)
  refine pgc hG rfl rfl (Nat.le_of_ble_eq_true rfl) ?_
  refine pgs hG rfl rfl ?_
  refine pz_eq hG (t := 22) rfl rfl (fun _ => ?_) (fun c => absurd rfl c)
  refine pgs hG rfl rfl ?_
  exact pg_ri hG rfl rfl rfl k
set_option maxRecDepth 100000 in
theorem m_textAt0 (base : Nat) (sa : Nat → Nat) {R : pmM} {m t : Nat} {q : Nat → Nat} {s : moS} {y : Int32} {Rt : pmR} {kc ks : Nat} (hq : moQ base m q) (h : s.S 6 = nI t) (ho : outR y t) (k : Rt (some (.int 0)) (moM R m q (moSS s 0 1)) kc ks) : kP_Mo_textAt base sa [.ref m, .int y] (moM R m q s) kc ks Rt := by
  refine ⟨Nat.le_of_ble_eq_true rfl, fun G hG => ?_⟩
  refine pgs hG rfl rfl ?_
  refine pgs hG rfl rfl ?_
  refine pz_lt hG (t := 13) rfl rfl (fun _ => ?_) (fun c => ?_)
  · refine pgs hG rfl rfl ?_
    refine pg_go hG (t := 18) rfl rfl ?_
    refine mo_pi hG hq rfl rfl rfl rfl ?_
    refine pgs hG rfl rfl ?_
    refine mo_gi hG rfl rfl rfl rfl ?_
    refine pz_ne hG (t := 37) rfl rfl (fun _ => ?_) (fun c => absurd (show (1 : Int32) = 0 from c) (by decide))
    refine pgs hG rfl rfl ?_
    exact pg_ri hG rfl rfl rfl k
  · refine pgs hG rfl rfl ?_
    refine pgs hG rfl rfl ?_
    refine mo_gi hG rfl rfl rfl rfl ?_
    refine pi_lt hG (t := 17) rfl rfl (fun c9 => ?_) (fun _ => ?_)
    · exact absurd c9 (Int32.not_lt.mpr (show s.S 6 ≤ y from by rw [h]; exact outR_ge ho c))
    · refine pgs hG rfl rfl ?_
      refine pg_go hG (t := 18) rfl rfl ?_
      refine mo_pi hG hq rfl rfl rfl rfl ?_
      refine pgs hG rfl rfl ?_
      refine mo_gi hG rfl rfl rfl rfl ?_
      refine pz_ne hG (t := 37) rfl rfl (fun _ => ?_) (fun c => absurd (show (1 : Int32) = 0 from c) (by decide))
      refine pgs hG rfl rfl ?_
      exact pg_ri hG rfl rfl rfl k
set_option maxRecDepth 100000 in
theorem m_thrown (base : Nat) (sa : Nat → Nat) {R : pmM} {m : Nat} {q : Nat → Nat} {s : moS} {Rt : pmR} {kc ks : Nat} (k : Rt (some (.int (s.S 0))) (moM R m q s) kc ks) : kP_Mo_thrown base sa [.ref m] (moM R m q s) kc ks Rt := by
  refine ⟨Nat.le_of_ble_eq_true rfl, fun G hG => ?_⟩
  refine pgs hG rfl rfl ?_
  refine mo_gi hG rfl rfl rfl rfl ?_
  exact pg_ri hG rfl rfl rfl k
set_option maxRecDepth 100000 in
theorem m_now (base : Nat) (sa : Nat → Nat) {R : pmM} {m : Nat} {q : Nat → Nat} {s : moS} {Rt : pmR} {kc ks : Nat} (hq : moQ base m q) (k : Rt (some (.int (s.S 1))) (moM R m q (moSS s 0 0)) kc ks) : kP_Mo_now base sa [.ref m] (moM R m q s) kc ks Rt := by
  refine ⟨Nat.le_of_ble_eq_true rfl, fun G hG => ?_⟩
  refine pgs hG rfl rfl ?_
  refine pgs hG rfl rfl ?_
  refine mo_pi hG hq rfl rfl rfl rfl ?_
  refine pgs hG rfl rfl ?_
  refine mo_gi hG rfl rfl rfl rfl ?_
  exact pg_ri hG rfl rfl rfl k
set_option maxRecDepth 100000 in
theorem m_fault (base : Nat) (sa : Nat → Nat) {R : pmM} {m : Nat} {q : Nat → Nat} {s : moS} {Rt : pmR} {kc ks : Nat} (hq : moQ base m q) (k : Rt (some (.int (s.S 4))) (moM R m q (moSS s 0 0)) kc ks) : kP_Mo_fault base sa [.ref m] (moM R m q s) kc ks Rt := by
  refine ⟨Nat.le_of_ble_eq_true rfl, fun G hG => ?_⟩
  refine pgs hG rfl rfl ?_
  refine pgs hG rfl rfl ?_
  refine mo_pi hG hq rfl rfl rfl rfl ?_
  refine pgs hG rfl rfl ?_
  refine mo_gi hG rfl rfl rfl rfl ?_
  exact pg_ri hG rfl rfl rfl k
set_option maxRecDepth 100000 in
theorem m_flying (base : Nat) (sa : Nat → Nat) {R : pmM} {m : Nat} {q : Nat → Nat} {s : moS} {Rt : pmR} {kc ks : Nat} (hq : moQ base m q) (k : Rt (some (.int (s.S 123))) (moM R m q (moSS s 0 0)) kc ks) : kP_Mo_flying base sa [.ref m] (moM R m q s) kc ks Rt := by
  refine ⟨Nat.le_of_ble_eq_true rfl, fun G hG => ?_⟩
  refine pgs hG rfl rfl ?_
  refine pgs hG rfl rfl ?_
  refine mo_pi hG hq rfl rfl rfl rfl ?_
  refine pgs hG rfl rfl ?_
  refine mo_gi hG rfl rfl rfl rfl ?_
  exact pg_ri hG rfl rfl rfl k
set_option maxRecDepth 100000 in
theorem m_read0 (base : Nat) (sa : Nat → Nat) {R : pmM} {m : Nat} {q : Nat → Nat} {s : moS} {Rt : pmR} {kc ks : Nat} (hq : moQ base m q) (h : s.S 3 = 0) (k : Rt (some (.int 0)) (moM R m q (moSS (moSS (moSS s 0 0) 4 0) 3 0)) kc ks) : kP_Mo_read base sa [.ref m] (moM R m q s) kc ks Rt := by
  refine ⟨Nat.le_of_ble_eq_true rfl, fun G hG => ?_⟩
  refine pgs hG rfl rfl ?_
  refine pgs hG rfl rfl ?_
  refine mo_pi hG hq rfl rfl rfl rfl ?_
  refine pgs hG rfl rfl ?_
  refine pgs hG rfl rfl ?_
  refine mo_pi hG hq rfl rfl rfl rfl ?_
  refine pgs hG rfl rfl ?_
  refine pgc hG rfl rfl (Nat.le_of_ble_eq_true rfl) ?_
  refine pgs hG rfl rfl ?_
  refine pgc hG rfl rfl (Nat.le_of_ble_eq_true rfl) ?_
  refine pgs hG rfl rfl ?_
  refine pgs hG rfl rfl ?_
  refine mo_gi hG rfl rfl rfl rfl ?_
  refine pi_ge hG (t := 103) rfl rfl (fun _ => ?_) (fun c => absurd (show s.S 3 ≤ 0 from by rw [h]; decide) c)
  refine pgs hG rfl rfl ?_
  refine pgs hG rfl rfl ?_
  refine mo_pi hG hq rfl rfl rfl rfl ?_
  refine pgs hG rfl rfl ?_
  refine mo_gi hG rfl rfl rfl rfl ?_
  refine pz_ne hG (t := 119) rfl rfl (fun c => absurd rfl c) (fun _ => ?_)
  refine pgs hG rfl rfl ?_
  refine pg_go hG (t := 122) rfl rfl ?_
  exact pg_ri hG rfl rfl rfl k
set_option maxRecDepth 100000 in
theorem m_tick0 (base : Nat) (sa : Nat → Nat) {R : pmM} {m : Nat} {q : Nat → Nat} {s : moS} {Rt : pmR} {kc ks : Nat} (hq : moQ base m q) (h37 : s.S 37 = 0) (h123 : s.S 123 = 0) (k : Rt none (moM R m q (moSS s 1 (s.S 1 + 1))) kc ks) : kP_Mo_tick base sa [.ref m] (moM R m q s) kc ks Rt := by
  refine ⟨Nat.le_of_ble_eq_true rfl, fun G hG => ?_⟩
  refine pgs hG rfl rfl ?_
  refine pgc hG rfl rfl rfl ?_
  refine mo_gi hG rfl rfl rfl rfl ?_
  refine pgs hG rfl rfl ?_
  refine pgs hG rfl rfl ?_
  refine mo_pi hG hq rfl rfl rfl rfl ?_
  refine pgs hG rfl rfl ?_
  refine pgc hG rfl rfl (Nat.le_of_ble_eq_true rfl) ?_
  refine pgs hG rfl rfl ?_
  refine pgs hG rfl rfl ?_
  refine mo_gi hG rfl rfl rfl rfl ?_
  refine pi_ge hG (t := 52) rfl rfl (fun _ => ?_) (fun c => absurd (show s.S 123 ≤ 0 from by rw [h123]; decide) c)
  refine pgs hG rfl rfl ?_
  refine pgc hG rfl rfl (Nat.le_of_ble_eq_true rfl) ?_
  refine pgs hG rfl rfl ?_
  refine pgs hG rfl rfl ?_
  refine mo_gi hG rfl rfl rfl rfl ?_
  refine pi_ge hG (t := 171) rfl rfl (fun _ => ?_) (fun c => absurd (show s.S 37 ≤ 0 from by rw [h37]; decide) c)
  exact pg_rv hG rfl rfl k
set_option maxRecDepth 100000 in
theorem m_ticks0 (base : Nat) (sa : Nat → Nat) {R : pmM} {m τ : Nat} {q : Nat → Nat} {s : moS} {y : Int32} {Rt : pmR} {kc ks : Nat} (hq : moQ base m q) (h1 : s.S 1 = nI τ) (hτ : τ ≤ 20000) (h37 : s.S 37 = 0) (h123 : s.S 123 = 0)
    (k0 : (y < 0 ∨ ∃ n, y = nI n ∧ n < 2 ^ 31 ∧ (2000 < n ∨ 20000 < τ + n)) → Rt (some (.int (-1))) (moM R m q (moSS s 0 0)) kc ks) (k1 : ∀ n, y = nI n → n ≤ 2000 → τ + n ≤ 20000 → Rt (some (.int (nI (τ + n)))) (moM R m q (moSS (moSS s 0 0) 1 (nI (τ + n)))) kc ks) : kP_Mo_ticks base sa [.ref m, .int y] (moM R m q s) kc ks Rt := by
  refine ⟨Nat.le_of_ble_eq_true rfl, fun G hG => ?_⟩
  have e2000 : (Int16.ofInt 2000).toInt32 = nI 2000 := by decide
  have e20000 : (Int16.ofInt 20000).toInt32 = nI 20000 := by decide
  have ess : ∀ (s : moS) (v w : Int32), moSS (moSS s 1 v) 1 w = moSS s 1 w := fun s v w => by
    unfold moSS
    refine Prod.ext (funext fun j => ?_) rfl
    by_cases hj : j = 1
    · simp [hj]
    · simp [hj, moS.S]
  refine pgs hG rfl rfl ?_
  refine pgs hG rfl rfl ?_
  refine mo_pi hG hq rfl rfl rfl rfl ?_
  refine pgs hG rfl rfl ?_
  refine pz_lt hG (t := 28) rfl rfl (fun c1 => ?_) (fun c1 => ?_)
  · refine pgs hG rfl rfl ?_
    exact pg_ri hG rfl rfl rfl (k0 (Or.inl c1))
  obtain ⟨n, hn, rfl⟩ := nI_of c1
  refine pgs hG rfl rfl ?_
  refine pgs hG rfl rfl ?_
  rw [e2000]
  refine pi_gt hG (t := 28) rfl rfl (fun c8 => ?_) (fun c8 => ?_)
  · refine pgs hG rfl rfl ?_
    refine pg_ri hG rfl rfl rfl (k0 (Or.inr ⟨n, rfl, hn, Or.inl ?_⟩))
    rcases Nat.lt_or_ge 2000 n with h | h
    · exact h
    · exact absurd c8 (Int32.not_lt.mpr (nI_le h (by omega)))
  have hn2 : n ≤ 2000 := by
    rcases Nat.lt_or_ge 2000 n with h | h
    · exact absurd (Int32.not_lt.mp c8) (nI_ge h hn)
    · exact h
  refine pgs hG rfl rfl ?_
  refine mo_gi hG rfl rfl rfl rfl ?_
  refine pgs hG rfl rfl ?_
  refine pgs hG rfl rfl ?_
  refine pgs hG rfl rfl ?_
  rw [e20000, show (moSS s 0 (Int32.ofInt 0)).S 1 = nI τ from h1, nI_add]
  refine pi_le hG (t := 30) rfl rfl (fun c20 => ?_) (fun c20 => ?_)
  rotate_left
  · refine pgs hG rfl rfl ?_
    refine pg_ri hG rfl rfl rfl (k0 (Or.inr ⟨n, rfl, hn, Or.inr ?_⟩))
    rcases Nat.lt_or_ge 20000 (τ + n) with h | h
    · exact h
    · exact absurd (nI_le h (by omega)) c20
  have hn3 : τ + n ≤ 20000 := by
    rcases Nat.lt_or_ge 20000 (τ + n) with h | h
    · exact absurd c20 (nI_ge h (by omega))
    · exact h
  refine pgs hG rfl rfl ?_
  refine pgc hG rfl rfl (Nat.le_of_ble_eq_true rfl) ?_
  have key : ∀ r i, i + r = n → G 32 [(2, .int (nI i)), (0, .ref m), (1, .int (nI n))] [] (moM R m q (moSS (moSS s 0 0) 1 (nI (τ + i)))) kc ks := by
    intro r
    induction r with
    | zero =>
      intro i hi
      have hi : i = n := hi
      subst hi
      refine pgs hG rfl rfl ?_
      refine pgs hG rfl rfl ?_
      refine pi_ge hG (t := 47) rfl rfl (fun _ => ?_) (fun c => absurd (Int32.le_refl _) c)
      refine pgs hG rfl rfl ?_
      refine mo_gi hG rfl rfl rfl rfl ?_
      exact pg_ri hG rfl rfl rfl (k1 i rfl hn2 hn3)
    | succ r ih =>
      intro i hi
      refine pgs hG rfl rfl ?_
      refine pgs hG rfl rfl ?_
      refine pi_ge hG (t := 47) rfl rfl (fun c => absurd c (nI_ge (by omega) (by omega))) (fun _ => ?_)
      refine pgs hG rfl rfl ?_
      refine pg_cal hG 0 rfl rfl (Nat.le_of_ble_eq_true rfl) (by decide) (Nat.le_of_ble_eq_true rfl) ?_
      refine pm_rcv_of (As' := []) moM_m (m_tick0 base sa hq (show (moSS (moSS s 0 0) 1 (nI (τ + i))).S 37 = 0 from h37) (show (moSS (moSS s 0 0) 1 (nI (τ + i))).S 123 = 0 from h123) ?_)
      rw [ess, show (moSS (moSS s 0 0) 1 (nI (τ + i))).S 1 + 1 = nI (τ + (i + 1)) from (nI_add (τ + i) 1).trans (congrArg nI (by omega))]
      refine pgc hG rfl rfl (Nat.le_of_ble_eq_true rfl) ?_
      refine pg_go hG (t := 32) rfl rfl ?_
      have e : nI i + Int32.ofInt 1 = nI (i + 1) := nI_add i 1
      have h4 := ih (i + 1) (by omega)
      rw [← e] at h4
      exact h4
  have h4 := key n 0 (by omega)
  have e0 : moSS (moSS s 0 0) 1 (nI (τ + 0)) = moSS s 0 0 := by
    refine Prod.ext (funext fun j => ?_) rfl
    by_cases hj : j = 1
    · subst hj
      exact h1.symm
    · exact if_neg hj
  rw [e0] at h4
  exact h4
