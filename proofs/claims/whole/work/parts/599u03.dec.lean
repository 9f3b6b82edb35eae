/-! Rows of bytes: numbers in words, addresses, prefixes, secrets behind. -/
theorem m255 {n : Nat} (h : n < 256) : nI n &&& 255 = nI n := by
  rw [pk_andN (by omega) 8 (by decide), Nat.mod_eq_of_lt h]
/-- a number in words; one below 0 as the class writes it -/
def decZ (v : Int32) : List Int32 := if v < 0 then [48 + rem_I v 10] else dec v.toNatClampNeg
theorem decZ_n {n : Nat} (h : n < 2 ^ 31) : decZ (nI n) = dec n := by
  unfold decZ
  rw [if_neg (nI_pos h), nI_clamp h]
theorem rem10 {v : Int32} (h : v < 0) : ∃ k, k < 256 ∧ 48 + rem_I v 10 = nI k := by
  have h1 := rem_toInt v 10
  have h2 := tmod_bounds (a := v.toInt) (M := 10) (by decide)
  have h3 : (10 : Int32).toInt = 10 := by decide
  rw [h3] at h1
  have h4 : (rem_I v 10).toInt = v.toInt.tmod 10 := h1
  refine ⟨(48 + v.toInt.tmod 10).toNat, by omega, ?_⟩
  apply Int32.toInt_inj.mp
  rw [nI_toInt (by omega), Int32.toInt_add, h4]
  have e : (48 : Int32).toInt = 48 := by decide
  rw [e, Int.bmod_eq_of_le (by omega) (by omega)]
  omega
theorem dgT_255 (n : Nat) : ∀ k, ∀ x ∈ dgT n k, x &&& 255 = x := by
  intro k
  induction k with
  | zero => intro x hx; rw [List.mem_singleton.mp hx]; exact m255 (by omega)
  | succ k ih =>
    intro x hx
    rcases List.mem_cons.mp hx with rfl | hx
    · exact m255 (by omega)
    · exact ih x hx
theorem decZ_len (v : Int32) : (decZ v).length ≤ 10 := by
  unfold decZ
  split
  · exact Nat.le_of_ble_eq_true rfl
  · exact dec_len _
section Ap
variable {sa : Nat → Nat} {b w F L k0 m0 : Nat} {s0 s : cS} {l : List Int32} {kc ks : Nat} {Q : cS → Nat → Nat → Prop}
theorem ap_dec31 {n : Nat} (hn : n < 2 ^ 31) : ∀ r i l (s : cS) (kc ks : Nat), i + r ≤ 9 → l.length + r + 1 ≤ F → AP sa b w F L s0 k0 m0 l s kc ks → (∀ s' kc' ks', AP sa b w F L s0 k0 m0 (l ++ dgT n r) s' kc' ks' → Q s' kc' ks') → ∀ P : Int32 → Int32 → cS → Nat → Nat → Prop, (∀ (a2 a3 : Int32) (s : cS) (kc ks : Nat), C_By_addDecimal_s31 sa b (nI n) a2 a3 s kc ks Q P → P a2 a3 s kc ks) → P (nI (10 ^ r)) (nI i) s kc ks := by
  intro r
  induction r with
  | zero =>
    intro i l s kc ks hi hl h k P hP
    apply hP
    unfold C_By_addDecimal_s31
    refine ifT (show nI i < nI 10 from nI_lt (by omega) (by decide)) (ifT (by decide) ?_)
    refine ⟨by decide, h.o, ap_add h (by omega) (fun s' kc' ks' h' => ?_)⟩
    rw [show nI (10 ^ 0) / 10 = 0 by decide, nI_1]
    apply hP
    unfold C_By_addDecimal_s31
    have e : (48 + rem_I (nI n / nI (10 ^ 0)) 10) &&& 255 = nI (48 + n % 10) := by
      rw [pk_div hn (by decide) (by decide), Nat.pow_zero, Nat.div_one, show (10 : Int32) = nI 10 from rfl]
      show (48 + (nI n - nI n / nI 10 * nI 10)) &&& 255 = _
      rw [pk_rem hn (by decide) (by decide), show (48 : Int32) = nI 48 from rfl, nI_add, m255 (by omega)]
    rw [e] at h'
    have hq := k s' kc' ks' h'
    by_cases c : nI (i + 1) < 10
    · exact ifT c (ifF (by decide) hq)
    · exact ifF c hq
  | succ r ih =>
    intro i l s kc ks hi hl h k P hP
    have hr9 : 10 ^ (r + 1) ≤ 1000000000 := pw10 (by omega)
    apply hP
    unfold C_By_addDecimal_s31
    refine ifT (show nI i < nI 10 from nI_lt (by omega) (by decide)) (ifT (show nI 0 < _ from nI_lt (pw10p _) (by omega)) ?_)
    refine ⟨nI_ne0 (pw10p _) (by omega), h.o, ap_add h (by omega) (fun s' kc' ks' h' => ?_)⟩
    have e : (48 + rem_I (nI n / nI (10 ^ (r + 1))) 10) &&& 255 = nI (48 + n / 10 ^ (r + 1) % 10) := by
      rw [pk_div hn (pw10p _) (by omega), show (10 : Int32) = nI 10 from rfl]
      show (48 + (nI (n / 10 ^ (r + 1)) - nI (n / 10 ^ (r + 1)) / nI 10 * nI 10)) &&& 255 = _
      rw [pk_rem (Nat.lt_of_le_of_lt (Nat.div_le_self _ _) hn) (by decide) (by decide), show (48 : Int32) = nI 48 from rfl, nI_add, m255 (by omega)]
    rw [e] at h'
    have e2 : nI (10 ^ (r + 1)) / 10 = nI (10 ^ r) := by
      rw [show (10 : Int32) = nI 10 from rfl, pk_div (by omega) (by decide) (by decide), Nat.pow_succ, Nat.mul_div_cancel _ (by decide)]
    rw [e2, nI_1]
    refine ih (i + 1) _ s' kc' ks' (by omega) (by rw [List.length_append]; show l.length + 1 + r + 1 ≤ F; omega) h' (fun s2 kc2 ks2 h2 => k s2 kc2 ks2 ?_) P hP
    rw [List.append_assoc] at h2
    exact h2
theorem ap_dec (v : Int32) (h : AP sa b w F L s0 k0 m0 l s kc ks) (hl : l.length + 10 ≤ F) (k : ∀ s' kc' ks', AP sa b w F L s0 k0 m0 (l ++ decZ v) s' kc' ks' → Q s' kc' ks') : C_By_addDecimal sa b v s kc ks Q := by
  unfold C_By_addDecimal C_By_addDecimal_b4
  intro P hP
  by_cases hv : v < 0
  · have hd1 : v / 1 = v := by
      apply Int32.toInt_inj.mp
      rw [Int32.toInt_div]
      have e : (1 : Int32).toInt = 1 := by decide
      rw [e, Int.tdiv_one]
      have h1 := Int32.le_toInt v
      have h2 := Int32.toInt_lt v
      exact Int.bmod_eq_of_le (by omega) (by omega)
    apply hP
    unfold C_By_addDecimal_s4
    refine ifT (by decide) ⟨by decide, ?_⟩
    rw [hd1]
    refine ifT (Int32.lt_trans hv (by decide)) ?_
    unfold C_By_addDecimal_b29 C_By_addDecimal_b31
    intro P2 hP2
    apply hP2
    unfold C_By_addDecimal_s31
    refine ifT (by decide) (ifT (by decide) ?_)
    refine ⟨by decide, h.o, ap_add h (by omega) (fun s' kc' ks' h' => ?_)⟩
    apply hP2
    unfold C_By_addDecimal_s31
    refine ifT (by decide) (ifF (by decide) ?_)
    refine k s' kc' ks' ?_
    obtain ⟨j, hj, ej⟩ := rem10 hv
    unfold decZ
    rw [if_pos hv]
    rw [hd1, ej, m255 hj] at h'
    rw [ej]
    exact h'
  · obtain ⟨n, hn, rfl⟩ := nI_of hv
    rw [decZ_n hn] at k
    have key : ∀ f i, i + f = 9 → dlF 9 n = dlF f (n / 10 ^ i) + i → P (nI (10 ^ i)) (nI i) s kc ks := by
      intro f
      induction f with
      | zero =>
        intro i hi hd
        apply hP
        unfold C_By_addDecimal_s4
        refine ifF (show ¬ nI i < nI 9 from nI_nlt (by omega) (by omega)) ?_
        unfold C_By_addDecimal_b29 C_By_addDecimal_b31
        intro P2 hP2
        have hd2 : dlF 9 n = i := by rw [hd]; show 0 + i = i; omega
        refine ap_dec31 hn i 0 l s kc ks (by omega) (by omega) h (fun s' kc' ks' h' => k s' kc' ks' ?_) P2 hP2
        unfold dec
        rw [hd2]
        exact h'
      | succ f ih =>
        intro i hi hd
        have hi9 : 10 ^ i ≤ 1000000000 := pw10 (by omega)
        apply hP
        unfold C_By_addDecimal_s4
        refine ifT (show nI i < nI 9 from nI_lt (by omega) (by decide)) ⟨nI_ne0 (pw10p _) (by omega), ?_⟩
        rw [pk_div hn (pw10p _) (by omega)]
        by_cases hc : n / 10 ^ i < 10
        · refine ifT (show _ < nI 10 from nI_lt hc (by decide)) ?_
          unfold C_By_addDecimal_b29 C_By_addDecimal_b31
          intro P2 hP2
          have hd2 : dlF 9 n = i := by
            rw [hd]
            unfold dlF
            rw [if_pos hc]
            omega
          refine ap_dec31 hn i 0 l s kc ks (by omega) (by omega) h (fun s' kc' ks' h' => k s' kc' ks' ?_) P2 hP2
          unfold dec
          rw [hd2]
          exact h'
        · refine ifF (show ¬ _ < nI 10 from nI_nlt (by omega) (Nat.lt_of_le_of_lt (Nat.div_le_self _ _) hn)) ?_
          have e : nI (10 ^ i) * 10 = nI (10 ^ (i + 1)) := by rw [show (10 : Int32) = nI 10 from rfl, pk_mul, Nat.pow_succ]
          rw [e, nI_1]
          refine ih (i + 1) (by omega) ?_
          have e3 : dlF (f + 1) (n / 10 ^ i) = dlF f (n / 10 ^ (i + 1)) + 1 := by
            show (if n / 10 ^ i < 10 then 0 else dlF f (n / 10 ^ i / 10) + 1) = _
            rw [if_neg hc, Nat.div_div_eq_div_mul, ← Nat.pow_succ]
          rw [hd, e3]
          omega
    exact key 9 0 (by omega) (by rw [Nat.pow_zero, Nat.div_one]; rfl)
theorem ap_wnum (v : Int32) (h : AP sa b w F L s0 k0 m0 l s kc ks) (ht : TK sa s0) (hw : w ≠ 118) (hl : l.length + 11 ≤ F) (hF : F < 2 ^ 31) (k : ∀ s' kc' ks', AP sa b w F L s0 k0 m0 (wdL l (decZ v)) s' kc' ks' → Q s' kc' ks') : C_By_wordNumber sa b v s kc ks Q := by
  unfold C_By_wordNumber
  have hx : isTx sa s0 (sa 3) [] := Or.inr ⟨ht 3 (by decide), 3, by decide, rfl, rfl⟩
  refine ⟨h.o, ap_word rfl h hx hw (by show l.length + 0 + 1 ≤ F; omega) hF (fun s1 kc1 ks1 h1 => ⟨h1.o, ap_dec v h1 ?_ (fun s' kc' ks' h' => k s' kc' ks' ?_)⟩)⟩
  · by_cases c : NL l
    · rw [wdL_y c]; show (l ++ []).length + 10 ≤ F; rw [List.append_nil]; omega
    · rw [wdL_n c, List.length_append]; show l.length + 1 + 10 ≤ F; omega
  · by_cases c : NL l
    · rw [wdL_y c] at h' ⊢; rw [List.append_assoc] at h'; exact h'
    · rw [wdL_n c] at h' ⊢; rw [List.append_assoc] at h'; exact h'
theorem ap_secret {p : Nat} {o : Option Nat} {n : Nat} (ho : o = some p) (h : AP sa b w F L s0 k0 m0 l s kc ks) (r : Nat) (hp : s0.K p = (r, n)) (hr : 100 ≤ r ∧ r < 130 ∧ cAT r = .byte ∧ r ≠ w) (hn : n < 2 ^ 31) {x : List Int32} (hx : x.length ≤ n) (hx1 : ∀ i, i < x.length → s0.E p i = x.getD i 0 ∧ x.getD i 0 ≠ 0 ∧ x.getD i 0 &&& 255 = x.getD i 0) (hx2 : x.length < n → s0.E p x.length = 0) (hl : l.length + x.length ≤ F) (k : ∀ s' kc' ks', AP sa b w F L s0 k0 m0 (l ++ x) s' kc' ks' → Q s' kc' ks') : C_By_addSecret sa b o s kc ks Q := by
  subst ho
  unfold C_By_addSecret C_By_addSecret_b2
  intro P hP
  have key : ∀ r' j l (s : cS) (kc ks : Nat), j + r' = x.length → l.length + r' ≤ F → AP sa b w F L s0 k0 m0 l s kc ks → (∀ s' kc' ks', AP sa b w F L s0 k0 m0 (l ++ x.drop j) s' kc' ks' → Q s' kc' ks') → P (nI j) s kc ks := by
    intro r'
    induction r' with
    | zero =>
      intro j l s kc ks hj hl h k
      have hj : j = x.length := by omega
      subst hj
      obtain ⟨g1, g2, g3⟩ := h.arr (a := p) (by rw [hp]; exact hr.1) (by rw [hp]; exact hr.2.2.2)
      rw [hp] at g1
      have hq := k s kc ks (by rw [List.drop_length, List.append_nil]; exact h)
      apply hP
      unfold C_By_addSecret_s2
      refine ⟨p, rfl, _, gd_to (by rw [g1]; exact ⟨hr.1, by have := hr.2.1; show r < 160; omega⟩), ?_⟩
      rw [g1]
      by_cases c : x.length < n
      · refine ifT (nI_lt c hn) ?_
        refine ⟨_, gd_to ⟨by rw [g1]; exact hr.1, by rw [g1]; exact hr.2.1, by rw [g1]; exact hr.2.2.1, by rw [g1]; exact vp_in_nI c hn⟩, ?_⟩
        refine ifT (by rw [nI_clamp (by omega), g2, hx2 c]) hq
      · exact ifF (nI_nlt (by show n ≤ x.length; omega) (by omega)) hq
    | succ r' ih =>
      intro j l s kc ks hj hl h k
      obtain ⟨g1, g2, g3⟩ := h.arr (a := p) (by rw [hp]; exact hr.1) (by rw [hp]; exact hr.2.2.2)
      rw [hp] at g1
      obtain ⟨c1, c2, c3⟩ := hx1 j (by omega)
      apply hP
      unfold C_By_addSecret_s2
      refine ⟨p, rfl, _, gd_to (by rw [g1]; exact ⟨hr.1, by have := hr.2.1; show r < 160; omega⟩), ?_⟩
      rw [g1]
      refine ifT (nI_lt (by show j < n; omega) hn) ?_
      have hg := gd_to (P := okA s .byte p (nI j)) (x := s.E p (nI j).toNatClampNeg) ⟨by rw [g1]; exact hr.1, by rw [g1]; exact hr.2.1, by rw [g1]; exact hr.2.2.1, by rw [g1]; exact vp_in_nI (by show j < n; omega) hn⟩
      refine ⟨_, hg, ?_⟩
      refine ifF (by rw [nI_clamp (by omega), g2, c1]; exact c2) ?_
      refine ⟨_, hg, h.o, ?_⟩
      rw [nI_clamp (by omega), g2, c1]
      refine ap_add h (by omega) (fun s' kc' ks' h' => ?_)
      rw [nI_1]
      refine ih (j + 1) _ s' kc' ks' (by omega) (by rw [List.length_append]; show l.length + 1 + r' ≤ F; omega) h' (fun s2 kc2 ks2 h2 => k s2 kc2 ks2 ?_)
      rw [List.append_assoc, c3] at h2
      rw [List.drop_eq_getElem_cons (by omega : j < x.length)]
      have e : x.getD j 0 = x[j]'(by omega) := by rw [List.getD_eq_getElem?_getD, List.getElem?_eq_getElem (by omega : j < x.length)]; rfl
      rw [e] at h2
      exact h2
  exact key x.length 0 l s kc ks (by omega) hl h k
end Ap
