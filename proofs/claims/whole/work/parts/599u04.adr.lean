/-! Rows of bytes: addresses and prefixes behind. -/
def pfxZ (f : Int32) (hi lo : Int64) (n : Int32) : List Int32 := adr f hi lo ++ 47 :: decZ n
theorem pfxZ_len (f : Int32) (hi lo : Int64) (n : Int32) : (pfxZ f hi lo n).length ≤ 54 := by
  have h1 := adr_len f hi lo
  have h2 := decZ_len n
  unfold pfxZ
  rw [List.length_append, List.length_cons]
  omega
theorem hd_255 : ∀ j, j < 16 → hd16 j &&& 255 = hd16 j := by decide +kernel
theorem nI_m4' : ∀ k, k < 4 → nI (4 * (k + 1)) + (-4) = nI (4 * k) := by decide +kernel
section Ap
variable {sa : Nat → Nat} {b w F L k0 m0 : Nat} {s0 s : cS} {l : List Int32} {kc ks : Nat} {Q : cS → Nat → Nat → Prop}
theorem ap_hex19 {n : Nat} (hn : n < 65536) : ∀ j l (s : cS) (kc ks : Nat), j ≤ 3 → l.length + j + 1 ≤ F → AP sa b w F L s0 k0 m0 l s kc ks → (∀ s' kc' ks', AP sa b w F L s0 k0 m0 (l ++ hxT n j) s' kc' ks' → Q s' kc' ks') → ∀ P : Int32 → cS → Nat → Nat → Prop, (∀ (a2 : Int32) (s : cS) (kc ks : Nat), C_By_addHex_s19 sa b (nI n) a2 s kc ks Q P → P a2 s kc ks) → P (nI (4 * j)) s kc ks := by
  have dig : ∀ (m : Nat) l (s : cS) (kc ks : Nat) (R : cS → Nat → Nat → Prop), m < 2 ^ 31 → l.length + 1 ≤ F → AP sa b w F L s0 k0 m0 l s kc ks → (∀ s' kc' ks', AP sa b w F L s0 k0 m0 (l ++ [hd16 (m % 16)]) s' kc' ks' → R s' kc' ks') → (if (nI m &&& 15) < 10 then C_By_add sa b (48 + (nI m &&& 15)) s kc ks R else C_By_add sa b ((97 + (nI m &&& 15)) - 10) s kc ks R) := by
    intro m l s kc ks R hm hl h k
    have e : nI m &&& 15 = nI (m % 16) := pk_andN (by omega) 4 (by decide)
    rw [e]
    have h16 : m % 16 < 16 := Nat.mod_lt _ (by decide)
    by_cases c : m % 16 < 10
    · refine ifT (show _ < nI 10 from nI_lt c (by decide)) (ap_add h hl (fun s' kc' ks' h' => k s' kc' ks' ?_))
      rw [show (48 : Int32) = nI 48 from rfl, nI_add, m255 (by omega)] at h'
      unfold hd16
      rw [if_pos c]
      exact h'
    · refine ifF (show ¬ _ < nI 10 from nI_nlt (by omega) (by omega)) (ap_add h hl (fun s' kc' ks' h' => k s' kc' ks' ?_))
      rw [show (97 : Int32) = nI 97 from rfl, nI_add, show (10 : Int32) = nI 10 from rfl, pk_sub (by omega), m255 (by omega)] at h'
      unfold hd16
      rw [if_neg c, show 87 + m % 16 = 97 + m % 16 - 10 by omega]
      exact h'
  intro j
  induction j with
  | zero =>
    intro l s kc ks hj hl h k P hP
    apply hP
    unfold C_By_addHex_s19
    refine ifF (by decide) ?_
    rw [nI_sh4 (by omega) (by decide), Nat.pow_zero, Nat.div_one]
    have hd := dig n l s kc ks (fun s' kc' ks' => P (nI (4 * 0) + (-4)) s' kc' ks') (by omega) (by omega) h (fun s' kc' ks' h' => by
      apply hP
      unfold C_By_addHex_s19
      exact ifT (by decide) (k s' kc' ks' h'))
    by_cases c : (nI n &&& 15) < 10
    · refine ifT c ⟨b, rfl, h.o, ?_⟩
      rw [if_pos c] at hd
      exact hd
    · refine ifF c ⟨b, rfl, h.o, ?_⟩
      rw [if_neg c] at hd
      exact hd
  | succ j ih =>
    intro l s kc ks hj hl h k P hP
    apply hP
    unfold C_By_addHex_s19
    refine ifF (nI_pos (by omega)) ?_
    rw [nI_sh4 (by omega) (by omega)]
    have hd := dig (n / 16 ^ (j + 1)) l s kc ks (fun s' kc' ks' => P (nI (4 * (j + 1)) + (-4)) s' kc' ks') (Nat.lt_of_le_of_lt (Nat.div_le_self _ _) (by omega)) (by omega) h (fun s' kc' ks' h' => by
      rw [nI_m4' j (by omega)]
      refine ih _ s' kc' ks' (by omega) (by rw [List.length_append]; show l.length + 1 + j + 1 ≤ F; omega) h' (fun s2 kc2 ks2 h2 => k s2 kc2 ks2 ?_) P hP
      rw [List.append_assoc] at h2
      exact h2)
    by_cases c : (nI (n / 16 ^ (j + 1)) &&& 15) < 10
    · refine ifT c ⟨b, rfl, h.o, ?_⟩
      rw [if_pos c] at hd
      exact hd
    · refine ifF c ⟨b, rfl, h.o, ?_⟩
      rw [if_neg c] at hd
      exact hd
theorem ap_hex {n : Nat} (hn : n < 65536) (h : AP sa b w F L s0 k0 m0 l s kc ks) (hl : l.length + 4 ≤ F) (k : ∀ s' kc' ks', AP sa b w F L s0 k0 m0 (l ++ hex n) s' kc' ks' → Q s' kc' ks') : C_By_addHex sa b (nI n) s kc ks Q := by
  unfold C_By_addHex C_By_addHex_b3
  intro P hP
  have go : ∀ j, j ≤ 3 → hxK n = j → C_By_addHex_b19 sa b (nI n) (nI (4 * j)) s kc ks Q := by
    intro j hj e
    unfold C_By_addHex_b19
    intro P2 hP2
    refine ap_hex19 hn j l s kc ks hj (by omega) h (fun s' kc' ks' h' => k s' kc' ks' ?_) P2 hP2
    unfold hex
    rw [e]
    exact h'
  have key : ∀ j, j ≤ 3 → hxK n ≤ j → P (nI (4 * j)) s kc ks := by
    intro j
    induction j with
    | zero =>
      intro hj h1
      apply hP
      unfold C_By_addHex_s3
      exact ifF (by decide) (go 0 (by omega) (by omega))
    | succ j ih =>
      intro hj h1
      apply hP
      unfold C_By_addHex_s3
      refine ifT (show nI 0 < _ from nI_lt (by omega) (by omega)) ?_
      rw [nI_sh4 (by omega) (by omega)]
      by_cases c : n / 16 ^ (j + 1) = 0
      · refine ifT (by rw [c]; rfl) ?_
        rw [nI_m4' j (by omega)]
        exact ih (by omega) (hxK_lo (by omega) c)
      · refine ifF (nI_ne0 (Nat.pos_of_ne_zero c) (Nat.lt_of_le_of_lt (Nat.div_le_self _ _) (by omega))) (go (j + 1) hj ?_)
        have := hxK_hi (by omega) c
        omega
  exact key 3 (by omega) (hxK_le n)
/-- a part of an address -/
theorem w_part {x : Nat} (hx : okO s 5 x) (i : Nat) {Q : Int32 → cS → Nat → Nat → Prop} (k : Q (nI (prt (s.J 101 x) (s.J 102 x) i)) s kc ks) : C_Pr_part sa x (nI i) s kc ks Q := by
  have e := prt_e (s.J 101 x) (s.J 102 x) i
  unfold ppart at e
  rw [← e] at k
  unfold C_Pr_part
  by_cases c : nI i < 4
  · refine ifT c ⟨_, gd_to hx, ?_⟩
    rw [if_pos c] at k
    exact k
  · refine ifF c ⟨_, gd_to hx, ?_⟩
    rw [if_neg c] at k
    exact k
theorem ap_six67 {x : Nat} (hx : okO s0 5 x) (ht : TK sa s0) (hw : w ≠ 118) (hF : F < 2 ^ 31) {p : Nat → Nat} (hp : p = prt (s0.J 101 x) (s0.J 102 x)) {g z : Nat} (hg : g ≤ 8) (hz : z ≤ 8) : ∀ r l (s : cS) (kc ks : Nat), r ≤ 8 → l.length + 5 * r ≤ F → AP sa b w F L s0 k0 m0 l s kc ks → (∀ s' kc' ks', AP sa b w F L s0 k0 m0 (l ++ sixT p g z r) s' kc' ks' → Q s' kc' ks') → ∀ P : Int32 → cS → Nat → Nat → Prop, (∀ (a4 : Int32) (s : cS) (kc ks : Nat), C_By_addSix_s67 sa b (some x) (nI g) (nI z) a4 s kc ks Q P → P a4 s kc ks) → P (nI (8 - r)) s kc ks := by
  intro r
  induction r with
  | zero =>
    intro l s kc ks hr hl h k P hP
    apply hP
    unfold C_By_addSix_s67
    exact ifF (by decide) (k s kc ks (by rw [show l ++ sixT p g z 0 = l from List.append_nil l]; exact h))
  | succ r ih =>
    intro l s kc ks hr hl h k P hP
    have e8 : 8 - (r + 1) = 7 - r := by omega
    have e9 : 7 - r + 1 = 8 - r := by omega
    have nx : ∀ l' (s' : cS) (kc' ks' : Nat), l' = l ++ sixP p g z (7 - r) → AP sa b w F L s0 k0 m0 l' s' kc' ks' → P (nI (7 - r) + 1) s' kc' ks' := by
      intro l' s' kc' ks' e h'
      subst e
      rw [nI_1, e9]
      have hlen := sixP_len p g z (7 - r)
      refine ih _ s' kc' ks' (by omega) (by rw [List.length_append]; omega) h' (fun s2 kc2 ks2 h2 => k s2 kc2 ks2 ?_) P hP
      rw [List.append_assoc] at h2
      exact h2
    have hb : x ≠ b := fun z => by
      obtain ⟨cap, d, -, -, -, -, -, -, -, -, -, ⟨h0, -⟩, -⟩ := h
      have h1 := h0.2.2
      have h2 := hx.2.2
      rw [z, h1] at h2
      exact absurd h2 (by decide)
    have hexx : ∀ l' (s' : cS) (kc' ks' : Nat), l'.length + 4 ≤ F → l' ++ hex (p (7 - r)) = l ++ sixP p g z (7 - r) → AP sa b w F L s0 k0 m0 l' s' kc' ks' → C_By_addSix_b122 sa b (some x) (nI g) (nI z) (nI (7 - r)) s' kc' ks' Q P := by
      intro l' s' kc' ks' hl' e h'
      obtain ⟨o1, o2, o3, o4, o5⟩ := h'.ob hx hb
      unfold C_By_addSix_b122
      refine ⟨x, rfl, o1, w_part o1 (7 - r) ?_⟩
      refine ⟨h'.o, ?_⟩
      rw [o4, o4, ← hp]
      refine ap_hex (by rw [hp]; exact prt_lt _ _ _) h' hl' (fun s2 kc2 ks2 h2 => ?_)
      unfold C_By_addSix_b132
      exact nx _ s2 kc2 ks2 e h2
    apply hP
    rw [e8]
    unfold C_By_addSix_s67
    refine ifT (show _ < nI 8 from nI_lt (by omega) (by decide)) ?_
    by_cases c1 : 7 - r = g
    · refine ifT (by rw [c1]) ⟨h.o, ?_⟩
      refine ap_text rfl h (x := [58, 58]) (Or.inr ⟨ht 39 (by decide), 39, by decide, rfl, rfl⟩) hw (by show l.length + 2 ≤ F; omega) hF (fun s' kc' ks' h' => ?_)
      unfold C_By_addSix_b132
      refine nx _ s' kc' ks' ?_ h'
      unfold sixP
      rw [if_pos c1]
      rfl
    · have hs : ∀ q, (7 - r < g ∨ g + z ≤ 7 - r) → q = C_By_addSix_b103 sa b (some x) (nI g) (nI z) (nI (7 - r)) s kc ks Q P → q := by
        intro q hc e
        subst e
        have e3 : sixP p g z (7 - r) = (if 0 < 7 - r ∧ 7 - r ≠ g + z then [58] else []) ++ hex (p (7 - r)) := by
          unfold sixP
          rw [if_neg c1, if_pos hc]
        unfold C_By_addSix_b103
        by_cases c2 : 0 < 7 - r
        · refine ifT (show nI 0 < _ from nI_lt c2 (by omega)) ?_
          by_cases c3 : 7 - r = g + z
          · refine ifT (by rw [c3, nI_add]) (hexx l s kc ks (by omega) ?_ h)
            rw [e3, if_neg (fun z => z.2 c3)]
            rfl
          · refine ifF (by rw [nI_add, nI_eq (by omega) (by omega)]; exact c3) ⟨h.o, ap_add h (by omega) (fun s' kc' ks' h' => hexx _ s' kc' ks' (by rw [List.length_append]; show l.length + 1 + 4 ≤ F; omega) ?_ h')⟩
            rw [e3, if_pos ⟨c2, c3⟩, List.append_assoc]
            rfl
        · refine ifF (show ¬ nI 0 < _ from nI_nlt (by omega) (by omega)) (hexx l s kc ks (by omega) ?_ h)
          rw [e3, if_neg (fun z => c2 z.1)]
          rfl
      refine ifF (by rw [nI_eq (by omega) (by omega)]; exact c1) ?_
      by_cases c2 : 7 - r < g
      · exact ifT (nI_lt c2 (by omega)) (hs _ (Or.inl c2) rfl)
      · refine ifF (nI_nlt (by omega) (by omega)) ?_
        rw [nI_add]
        by_cases c3 : 7 - r < g + z
        · refine ifT (nI_lt c3 (by omega)) ?_
          unfold C_By_addSix_b132
          refine nx l s kc ks ?_ h
          unfold sixP
          rw [if_neg c1, if_neg (by omega), List.append_nil]
        · exact ifF (nI_nlt (by omega) (by omega)) (hs _ (Or.inr (by omega)) rfl)
theorem ap_six {x : Nat} (hx : okO s0 5 x) (ht : TK sa s0) (hw : w ≠ 118) (hF : F < 2 ^ 31) (h : AP sa b w F L s0 k0 m0 l s kc ks) (hl : l.length + 40 ≤ F) (k : ∀ s' kc' ks', AP sa b w F L s0 k0 m0 (l ++ six (prt (s0.J 101 x) (s0.J 102 x))) s' kc' ks' → Q s' kc' ks') : C_By_addSix sa b (some x) s kc ks Q := by
  have hb : x ≠ b := fun z => by
    obtain ⟨cap, d, -, -, -, -, -, -, -, -, -, ⟨h0, -⟩, -⟩ := h
    have h1 := h0.2.2
    have h2 := hx.2.2
    rw [z, h1] at h2
    exact absurd h2 (by decide)
  obtain ⟨o1, o2, o3, o4, o5⟩ := h.ob hx hb
  unfold C_By_addSix C_By_addSix_b8
  intro P hP
  generalize hp : prt (s0.J 101 x) (s0.J 102 x) = p at k
  have key : ∀ r, r ≤ 8 → P (nI (gpS p (8 - r)).1) (nI (gpS p (8 - r)).2) (nI (8 - r)) s kc ks := by
    intro r
    induction r with
    | zero =>
      intro _
      apply hP
      unfold C_By_addSix_s8
      refine ifF (by decide) ?_
      unfold C_By_addSix_b67
      intro P2 hP2
      have hle := gpS_le p 8 (Nat.le_refl _)
      exact ap_six67 hx ht hw hF hp.symm hle.1 hle.2 8 l s kc ks (Nat.le_refl _) (by omega) h k P2 hP2
    | succ r ih =>
      intro hr
      obtain ⟨i, hi⟩ : ∃ i, 8 - (r + 1) = i := ⟨_, rfl⟩
      have hi2 : 8 - r = i + 1 := by omega
      rw [hi]
      have ih := ih (by omega)
      rw [hi2] at ih
      have hle := gpS_le p i (by omega)
      apply hP
      unfold C_By_addSix_s8
      refine ifT (show _ < nI 8 from nI_lt (by omega) (by decide)) ?_
      unfold C_By_addSix_b18
      intro P2 hP2
      have fin : ∀ j, j ≤ 8 → zrT p (8 - i) = j → C_By_addSix_b46 sa b (some x) (nI (gpS p i).1) (nI (gpS p i).2) (nI i) (nI j) s kc ks Q P := by
        intro j hj e
        have eg : gpS p (i + 1) = if (gpS p i).2 < zrT p (8 - i) then (i, zrT p (8 - i)) else gpS p i := rfl
        unfold C_By_addSix_b46
        by_cases c : (gpS p i).2 < j
        · refine ifT (nI_lt c (by omega)) ?_
          unfold C_By_addSix_b58
          rw [eg, e, if_pos c] at ih
          rw [nI_1]
          exact ih
        · refine ifF (nI_nlt (by omega) (by omega)) ?_
          unfold C_By_addSix_b58
          rw [eg, e, if_neg c] at ih
          rw [nI_1]
          exact ih
      have inner : ∀ n j, i + j + n = 8 → zrT p (8 - i) = zrT p n + j → P2 (nI j) s kc ks := by
        intro n
        induction n with
        | zero =>
          intro j hj e
          apply hP2
          unfold C_By_addSix_s18
          rw [nI_add]
          exact ifF (show ¬ _ < nI 8 from nI_nlt (by omega) (by omega)) (fin j (by omega) (by rw [e]; show 0 + j = j; omega))
        | succ n ih2 =>
          intro j hj e
          apply hP2
          unfold C_By_addSix_s18
          rw [nI_add]
          refine ifT (show _ < nI 8 from nI_lt (by omega) (by decide)) ⟨x, rfl, o1, w_part o1 (i + j) ?_⟩
          rw [o4, o4, hp]
          have ez : zrT p (n + 1) = if p (7 - n) = 0 then zrT p n + 1 else 0 := rfl
          have e7 : 7 - n = i + j := by omega
          rw [e7] at ez
          by_cases c : p (i + j) = 0
          · refine ifT (by rw [c]; rfl) ?_
            rw [nI_1]
            refine ih2 (j + 1) (by omega) ?_
            rw [e, ez, if_pos c]
            omega
          · refine ifF (nI_ne0 (by omega) (by have := prt_lt (s0.J 101 x) (s0.J 102 x) (i + j); rw [hp] at this; omega)) (fin j (by omega) ?_)
            rw [e, ez, if_neg c]
            omega
      exact inner (8 - i) 0 (by omega) (by omega)
  exact key 8 (Nat.le_refl _)
theorem ap_addr {x : Nat} {o : Option Nat} (ho : o = some x) (hx : okO s0 5 x) (ht : TK sa s0) (hw : w ≠ 118) (hF : F < 2 ^ 31) (h : AP sa b w F L s0 k0 m0 l s kc ks) (hl : l.length + 44 ≤ F) (k : ∀ s' kc' ks', AP sa b w F L s0 k0 m0 (l ++ adr (s0.I 100 x) (s0.J 101 x) (s0.J 102 x)) s' kc' ks' → Q s' kc' ks') : C_By_addAddress sa b o s kc ks Q := by
  subst ho
  have hb : x ≠ b := fun z => by
    obtain ⟨cap, d, -, -, -, -, -, -, -, -, -, ⟨h0, -⟩, -⟩ := h
    have h1 := h0.2.2
    have h2 := hx.2.2
    rw [z, h1] at h2
    exact absurd h2 (by decide)
  obtain ⟨o1, o2, o3, o4, o5⟩ := h.ob hx hb
  unfold C_By_addAddress
  refine ⟨x, rfl, _, gd_to o1, ?_⟩
  show if s.I 100 x = 6 then _ else _
  rw [o3]
  by_cases c6 : s0.I 100 x = 6
  · refine ifT c6 ⟨h.o, ap_six hx ht hw hF h (by omega) (fun s' kc' ks' h' => k s' kc' ks' ?_)⟩
    unfold adr
    rw [if_pos c6]
    exact h'
  · refine ifF c6 ?_
    unfold adr at k
    rw [if_neg c6] at k
    unfold C_By_addAddress_b18
    intro P hP
    have fin : ∀ (s' : cS) (kc' ks' : Nat), Q s' kc' ks' → P (nI (8 * 0 + 32) + (-8)) s' kc' ks' := by
      intro s' kc' ks' hq
      apply hP
      unfold C_By_addAddress_s18
      exact ifT (by decide) hq
    have n8 : ∀ r, r < 4 → nI (8 * (r + 1) + 32) + (-8) = nI (8 * r + 32) := by decide +kernel
    have key : ∀ r l (s : cS) (kc ks : Nat), r ≤ 3 → l.length + 11 * r + 10 ≤ F → AP sa b w F L s0 k0 m0 l s kc ks → (∀ s' kc' ks', AP sa b w F L s0 k0 m0 (l ++ dotT (s0.J 101 x) r) s' kc' ks' → Q s' kc' ks') → P (nI (8 * r + 32)) s kc ks := by
      intro r
      induction r with
      | zero =>
        intro l s kc ks hr hl h k
        obtain ⟨o1, o2, o3, o4, o5⟩ := h.ob hx hb
        apply hP
        unfold C_By_addAddress_s18
        refine ifF (by decide) ⟨x, rfl, _, gd_to o1, h.o, ?_⟩
        show C_By_addDecimal sa b ((ush (s.J 101 x) (nI (8 * 0 + 32)) &&& 255).toInt32) s kc ks _
        rw [o4, oct4_e]
        refine ap_dec _ h (by omega) (fun s' kc' ks' h' => ?_)
        rw [decZ_n (Nat.lt_trans (oct4_lt _ _) (by decide))] at h'
        exact ifF (by decide) (fin s' kc' ks' (k s' kc' ks' h'))
      | succ r ih =>
        intro l s kc ks hr hl h k
        obtain ⟨o1, o2, o3, o4, o5⟩ := h.ob hx hb
        apply hP
        unfold C_By_addAddress_s18
        refine ifF (show ¬ _ < nI 32 from nI_nlt (by omega) (by omega)) ⟨x, rfl, _, gd_to o1, h.o, ?_⟩
        show C_By_addDecimal sa b ((ush (s.J 101 x) (nI (8 * (r + 1) + 32)) &&& 255).toInt32) s kc ks _
        rw [o4, oct4_e]
        refine ap_dec _ h (by omega) (fun s' kc' ks' h' => ?_)
        rw [decZ_n (Nat.lt_trans (oct4_lt _ _) (by decide))] at h'
        have hdl := dec_len (oct4 (s0.J 101 x) (nI (8 * (r + 1) + 32)))
        refine ifT (show nI 32 < _ from nI_lt (by omega) (by omega)) ⟨h'.o, ap_add h' (by rw [List.length_append]; omega) (fun s2 kc2 ks2 h2 => ?_)⟩
        unfold C_By_addAddress_b51
        rw [n8 r (by omega)]
        refine ih _ s2 kc2 ks2 (by omega) (by rw [List.length_append, List.length_append]; show l.length + _ + 1 + 11 * r + 10 ≤ F; omega) h2 (fun s3 kc3 ks3 h3 => k s3 kc3 ks3 ?_)
        have e : l ++ dotT (s0.J 101 x) (r + 1) = l ++ dec (oct4 (s0.J 101 x) (nI (8 * (r + 1) + 32))) ++ [46 &&& 255] ++ dotT (s0.J 101 x) r := by
          show l ++ ((dec _ ++ [46]) ++ dotT _ r) = _
          simp only [List.append_assoc]
          rfl
        rw [e]
        exact h3
    exact key 3 l s kc ks (Nat.le_refl _) (by omega) h k
theorem ap_pfx {x : Nat} {o : Option Nat} (ho : o = some x) (hx : okO s0 5 x) (ht : TK sa s0) (hw : w ≠ 118) (hF : F < 2 ^ 31) (h : AP sa b w F L s0 k0 m0 l s kc ks) (hl : l.length + 55 ≤ F) (k : ∀ s' kc' ks', AP sa b w F L s0 k0 m0 (l ++ pfxZ (s0.I 100 x) (s0.J 101 x) (s0.J 102 x) (s0.I 103 x)) s' kc' ks' → Q s' kc' ks') : C_By_addPrefix sa b o s kc ks Q := by
  have hb : x ≠ b := fun z => by
    obtain ⟨cap, d, -, -, -, -, -, -, -, -, -, ⟨h0, -⟩, -⟩ := h
    have h1 := h0.2.2
    have h2 := hx.2.2
    rw [z, h1] at h2
    exact absurd h2 (by decide)
  have hal := adr_len (s0.I 100 x) (s0.J 101 x) (s0.J 102 x)
  unfold C_By_addPrefix
  refine ⟨h.o, ap_addr ho hx ht hw hF h (by omega) (fun s1 kc1 ks1 h1 => ⟨h1.o, ap_add h1 (by rw [List.length_append]; omega) (fun s2 kc2 ks2 h2 => ?_)⟩)⟩
  obtain ⟨o1, o2, o3, o4, o5⟩ := h2.ob hx hb
  refine ⟨x, ho, _, gd_to o1, h2.o, ?_⟩
  show C_By_addDecimal sa b (s2.I 103 x) s2 kc2 ks2 _
  rw [o3]
  refine ap_dec _ h2 (by rw [List.length_append, List.length_append]; show l.length + _ + 1 + 10 ≤ F; omega) (fun s3 kc3 ks3 h3 => k s3 kc3 ks3 ?_)
  rw [List.append_assoc, List.append_assoc] at h3
  exact h3
end Ap
