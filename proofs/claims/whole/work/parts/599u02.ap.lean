/-! Rows of bytes: numbers, zeros, parts, texts behind. -/
/-- the last n bytes of a number, highest first -/
def bnL (v : Int64) : Nat → List Int32
  | 0 => []
  | n + 1 => ((ush_L v (nI (8 * n))).toInt32 &&& 255) :: bnL v n
theorem bnL_len (v : Int64) (n : Nat) : (bnL v n).length = n := by
  induction n with
  | zero => rfl
  | succ n ih => show (bnL v n).length + 1 = _; rw [ih]
theorem nI_8m (n : Nat) : nI (8 * (n + 1)) - 8 = nI (8 * n) := by
  rw [show 8 * (n + 1) = 8 * n + 8 by omega, ← nI_add, show nI 8 = (8 : Int32) from rfl, Int32.add_sub_cancel]
theorem m8_lt : nI (8 * 0) - 8 < 0 := by decide
section Ap
variable {sa : Nat → Nat} {b w F L k0 m0 : Nat} {s0 s : cS} {l : List Int32} {kc ks : Nat} {Q : cS → Nat → Nat → Prop}
theorem AP.o (h : AP sa b w F L s0 k0 m0 l s kc ks) : okO s 0 b := by
  obtain ⟨cap, d, ⟨a1, -⟩, -⟩ := h
  exact a1
theorem AP.x (h : AP sa b w F L s0 k0 m0 l s kc ks) : fx (fun a => a = b ∨ s0.P 0 b = some a) s0 s := by
  obtain ⟨cap, d, hr, hF, hL, hk, h1, h2, ht, hx, hd, -⟩ := h
  exact hx
theorem ap_number {v : Int64} (n : Nat) {a : Int32} (ha : a = nI n) (h : AP sa b w F L s0 k0 m0 l s kc ks) (hn : n ≤ 8) (hl : l.length + n ≤ F) (k : ∀ s' kc' ks', AP sa b w F L s0 k0 m0 (l ++ bnL v n) s' kc' ks' → Q s' kc' ks') : C_By_addNumber sa b v a s kc ks Q := by
  subst ha
  unfold C_By_addNumber C_By_addNumber_b9
  intro P hP
  have key : ∀ n l (s : cS) (kc ks : Nat), n ≤ 8 → l.length + n ≤ F → AP sa b w F L s0 k0 m0 l s kc ks → (∀ s' kc' ks', AP sa b w F L s0 k0 m0 (l ++ bnL v n) s' kc' ks' → Q s' kc' ks') → P (nI (8 * n) - 8) s kc ks := by
    intro n
    induction n with
    | zero =>
      intro l s kc ks _ hl h k
      apply hP
      unfold C_By_addNumber_s9
      rw [if_pos m8_lt]
      exact k s kc ks (by rw [show l ++ bnL v 0 = l from List.append_nil l]; exact h)
    | succ n ih =>
      intro l s kc ks hn hl h k
      apply hP
      unfold C_By_addNumber_s9
      rw [nI_8m, if_neg (nI_pos (by omega))]
      refine ⟨h.o, ap_add h (by omega) (fun s' kc' ks' h' => ?_)⟩
      have e : nI (8 * n) + (-8) = nI (8 * n) - 8 := (Int32.sub_eq_add_neg _ _).symm
      rw [e]
      refine ih _ s' kc' ks' (by omega) (by rw [List.length_append]; show l.length + 1 + n ≤ F; omega) h' (fun s2 kc2 ks2 h2 => k s2 kc2 ks2 ?_)
      rw [List.append_assoc] at h2
      exact h2
  have e : nI n * 8 - 8 = nI (8 * n) - 8 := by rw [show (8 : Int32) = nI 8 from rfl, nI_mul, Nat.mul_comm]
  rw [e]
  exact key n l s kc ks hn hl h k
theorem ap_zeros (n : Nat) {a : Int32} (ha : a = nI n) (h : AP sa b w F L s0 k0 m0 l s kc ks) (hn : n < 2 ^ 31) (hl : l.length + n ≤ F) (k : ∀ s' kc' ks', AP sa b w F L s0 k0 m0 (l ++ List.replicate n 0) s' kc' ks' → Q s' kc' ks') : C_By_addZeros sa b a s kc ks Q := by
  subst ha
  unfold C_By_addZeros C_By_addZeros_b2
  intro P hP
  have key : ∀ r j l (s : cS) (kc ks : Nat), j + r = n → l.length + r ≤ F → AP sa b w F L s0 k0 m0 l s kc ks → (∀ s' kc' ks', AP sa b w F L s0 k0 m0 (l ++ List.replicate r 0) s' kc' ks' → Q s' kc' ks') → P (nI j) s kc ks := by
    intro r
    induction r with
    | zero =>
      intro j l s kc ks hj hl h k
      apply hP
      unfold C_By_addZeros_s2
      rw [if_neg (nI_nlt (by omega) (by omega))]
      exact k s kc ks (by rw [show l ++ List.replicate 0 (0 : Int32) = l from List.append_nil l]; exact h)
    | succ r ih =>
      intro j l s kc ks hj hl h k
      apply hP
      unfold C_By_addZeros_s2
      rw [if_pos (nI_lt (by omega) (by omega))]
      refine ⟨h.o, ap_add h (by omega) (fun s' kc' ks' h' => ?_)⟩
      rw [nI_1]
      refine ih (j + 1) _ s' kc' ks' (by omega) (by rw [List.length_append]; show l.length + 1 + r ≤ F; omega) h' (fun s2 kc2 ks2 h2 => k s2 kc2 ks2 ?_)
      rw [List.append_assoc] at h2
      exact h2
  exact key n 0 l s kc ks (by omega) hl h k
/-- what isn't b's stays -/
theorem AP.ob (h : AP sa b w F L s0 k0 m0 l s kc ks) {c a : Nat} (ha : okO s0 c a) (hb : a ≠ b) : okO s c a ∧ s.K a = s0.K a ∧ (∀ g, s.I g a = s0.I g a) ∧ (∀ g, s.J g a = s0.J g a) ∧ (∀ g, s.P g a = s0.P g a) := by
  obtain ⟨cap, d, ⟨-, hw, -⟩, -, -, -, -, -, -, hx, -, ⟨-, d0, h1, h2⟩, -⟩ := h
  obtain ⟨g1, g2⟩ := hx a ha.n0
  obtain ⟨b1, b2, b3, b4, b5⟩ := g2 (fun z => by
    rcases z with z | z
    · exact hb z
    · rw [h1] at z
      cases z
      have := ha.2.1
      omega)
  exact ⟨hx.o ha, g1, b1, b2, b3⟩
theorem AP.arr (h : AP sa b w F L s0 k0 m0 l s kc ks) {a : Nat} (ha : 100 ≤ (s0.K a).1) (hw : (s0.K a).1 ≠ w) : s.K a = s0.K a ∧ s.E a = s0.E a ∧ s.Q a = s0.Q a := by
  obtain ⟨cap, d, ⟨-, -⟩, -, -, -, -, -, -, hx, -, ⟨h0, d0, h1, h2⟩, -⟩ := h
  obtain ⟨g1, g2⟩ := hx a (by omega)
  obtain ⟨b1, b2, b3, b4, b5⟩ := g2 (fun z => by
    rcases z with z | z
    · subst z
      have := h0.2.1
      omega
    · rw [h1] at z
      cases z
      exact hw h2)
  exact ⟨g1, b4, b5⟩
theorem AP.tx (h : AP sa b w F L s0 k0 m0 l s kc ks) {a : Nat} {x : List Int32} (ha : isTx sa s0 a x) (hw : w ≠ 118) : isTx sa s a x := by
  have ht : TK sa s := by
    obtain ⟨cap, d, -, -, -, -, -, -, ht, -⟩ := h
    exact ht
  rcases ha with ⟨e1, e2, v, e3, e4, e5, e6⟩ | ⟨e1, k, e2, e3, e4⟩
  · have ho : okO s0 13 a := by unfold okO; rw [e1]; decide
    have hb : a ≠ b := fun z => by
      obtain ⟨cap, d, -, -, -, -, -, -, -, -, -, ⟨h0, -⟩, -⟩ := h
      have := h0.2.2
      rw [← z, e1] at this
      exact absurd this (by decide)
    obtain ⟨-, g1, g2, g3, g4⟩ := h.ob ho hb
    obtain ⟨f1, f2, f3⟩ := h.arr (a := v) (by rw [e4]; exact Nat.le_of_ble_eq_true rfl) (by rw [e4]; exact fun z => hw z.symm)
    exact Or.inl ⟨by rw [g1]; exact e1, by rw [g2]; exact e2, v, by rw [g4]; exact e3, by rw [f1]; exact e4, e5, fun i hi => by rw [f2]; exact e6 i hi⟩
  · exact Or.inr ⟨by rw [← e3]; exact ht k e2, k, e2, e3, e4⟩
/-- a text behind -/
theorem ap_text {p : Nat} {x : List Int32} {o : Option Nat} (ho : o = some p) (h : AP sa b w F L s0 k0 m0 l s kc ks) (hx : isTx sa s0 p x) (hw : w ≠ 118) (hl : l.length + x.length ≤ F) (hF : F < 2 ^ 31) (k : ∀ s' kc' ks', AP sa b w F L s0 k0 m0 (l ++ x.map (· &&& 255)) s' kc' ks' → Q s' kc' ks') : C_By_addText sa b o s kc ks Q := by
  subst ho
  unfold C_By_addText C_By_addText_b2
  intro P hP
  have key : ∀ r j l (s : cS) (kc ks : Nat), j + r = x.length → l.length + r ≤ F → AP sa b w F L s0 k0 m0 l s kc ks → (∀ s' kc' ks', AP sa b w F L s0 k0 m0 (l ++ (x.drop j).map (· &&& 255)) s' kc' ks' → Q s' kc' ks') → P (nI j) s kc ks := by
    intro r
    induction r with
    | zero =>
      intro j l s kc ks hj hl h k
      apply hP
      unfold C_By_addText_s2
      refine ⟨p, rfl, x, h.tx hx hw, ?_⟩
      refine ifF (nI_nlt (by omega) (by omega)) ?_
      refine k s kc ks ?_
      rw [List.drop_eq_nil_of_le (by omega)]
      simpa using h
    | succ r ih =>
      intro j l s kc ks hj hl h k
      apply hP
      unfold C_By_addText_s2
      refine ⟨p, rfl, x, h.tx hx hw, ?_⟩
      refine ifT (nI_lt (by omega) (by omega)) ?_
      refine ⟨x, j, h.tx hx hw, rfl, by omega, h.o, ap_add h (by omega) (fun s' kc' ks' h' => ?_)⟩
      rw [nI_1]
      refine ih (j + 1) _ s' kc' ks' (by omega) (by rw [List.length_append]; show l.length + 1 + r ≤ F; omega) h' (fun s2 kc2 ks2 h2 => k s2 kc2 ks2 ?_)
      rw [List.append_assoc] at h2
      rw [List.drop_eq_getElem_cons (by omega : j < x.length), List.map_cons]
      have e : x.getD j 0 = x[j]'(by omega) := by rw [List.getD_eq_getElem?_getD, List.getElem?_eq_getElem (by omega : j < x.length)]; rfl
      rw [and_255, e] at h2
      exact h2
  exact key x.length 0 l s kc ks (by omega) hl h k
/-- a line begins here -/
def NL (l : List Int32) : Prop := l = [] ∨ l.getD (l.length - 1) 0 = 10
/-- a word, a blank ahead of it -/
noncomputable def wdL (l x : List Int32) : List Int32 := @ite _ (NL l) (Classical.propDecidable _) (l ++ x) (l ++ 32 :: x)
theorem wdL_y {l x : List Int32} (h : NL l) : wdL l x = l ++ x := by unfold wdL; rw [if_pos h]
theorem wdL_n {l x : List Int32} (h : ¬ NL l) : wdL l x = l ++ 32 :: x := by unfold wdL; rw [if_neg h]
theorem sb10 {x : Int32} (h : x &&& 255 = x) : sb x = 10 ↔ x = 10 := by
  constructor
  · intro e
    have := sb_and x
    rw [e, h] at this
    exact this.symm
  · intro e; subst e; decide
theorem ap_word {p : Nat} {x : List Int32} {o : Option Nat} (ho : o = some p) (h : AP sa b w F L s0 k0 m0 l s kc ks) (hx : isTx sa s0 p x) (hw : w ≠ 118) (hl : l.length + x.length + 1 ≤ F) (hF : F < 2 ^ 31) (k : ∀ s' kc' ks', AP sa b w F L s0 k0 m0 (wdL l (x.map (· &&& 255))) s' kc' ks' → Q s' kc' ks') : C_By_word sa b o s kc ks Q := by
  have ho2 := h.o
  have h' := h
  obtain ⟨cap, d, ⟨a1, a2, a3, a4, a5, a6, a7, a8, a9⟩, -, hL', -⟩ := h'
  unfold C_By_word
  refine ⟨_, gd_to a1, ?_⟩
  show if 0 < s.I 1 b then _ else _
  rw [a5]
  by_cases h0 : l.length = 0
  · have hl0 : l = [] := List.length_eq_zero_iff.mp h0
    refine ifF (by rw [h0]; decide) ?_
    unfold C_By_word_b29
    refine ⟨ho2, ap_text ho h hx hw (by omega) hF (fun s' kc' ks' h2 => k s' kc' ks' ?_)⟩
    rw [wdL_y (Or.inl hl0)]
    exact h2
  · refine ifT (by rw [← nI_0]; exact nI_lt (by omega) (by omega)) ?_
    refine ⟨_, gd_to a1, _, gd_to a1, d, a3, ?_⟩
    obtain ⟨m, hm⟩ : ∃ m, l.length = m + 1 := ⟨l.length - 1, by omega⟩
    have e1 : s.I 1 b - 1 = nI m := by rw [a5, hm, nI_pred]
    refine ⟨_, gd_to ⟨by rw [a4]; exact a2.1, by rw [a4]; exact a2.2.1, by rw [a4]; exact a2.2.2, by rw [a4]; show vp_in (s.I 1 b - 1) cap; rw [e1]; exact vp_in_nI (by omega) (by omega)⟩, ?_⟩
    show if s.E d (s.I 1 b - 1).toNatClampNeg = 10 then _ else _
    rw [e1, nI_clamp (by omega)]
    obtain ⟨c1, c2⟩ := a9 m (by omega)
    by_cases hn : l.getD m 0 = 10
    · refine ifT (by rw [c1]; exact (sb10 c2).mpr hn) ?_
      unfold C_By_word_b29
      refine ⟨ho2, ap_text ho h hx hw (by omega) hF (fun s' kc' ks' h2 => k s' kc' ks' ?_)⟩
      rw [wdL_y (Or.inr (by rw [hm]; exact hn))]
      exact h2
    · refine ifF (by rw [c1]; exact fun z => hn ((sb10 c2).mp z)) ?_
      refine ⟨ho2, ap_add h (by omega) (fun s1 kc1 ks1 h1 => ?_)⟩
      unfold C_By_word_b29
      refine ⟨h1.o, ap_text ho h1 hx hw (by rw [List.length_append]; show l.length + 1 + x.length ≤ F; omega) hF (fun s' kc' ks' h2 => k s' kc' ks' ?_)⟩
      rw [wdL_n (fun z => by rcases z with z | z; (exact h0 (by rw [z]; rfl)); (rw [hm] at z; exact hn z))]
      rw [List.append_assoc] at h2
      exact h2
theorem ap_endLine (h : AP sa b w F L s0 k0 m0 l s kc ks) (hl : l.length + 1 ≤ F) (k : ∀ s' kc' ks', AP sa b w F L s0 k0 m0 (l ++ [10]) s' kc' ks' → Q s' kc' ks') : C_By_endLine sa b s kc ks Q := ⟨h.o, ap_add h hl (fun s' kc' ks' h' => k s' kc' ks' h')⟩
end Ap
