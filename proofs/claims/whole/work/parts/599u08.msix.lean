/-! The model's draft: addresses of eight parts. -/
def gbS (g : Nat × Nat) : Nat := if g.2 = 1 then 0 else g.1
theorem gpS_1 (p : Nat → Nat) : ∀ i, 1 ≤ (gpS p i).2 ∧ ((gpS p i).2 = 1 → (gpS p i).1 = 8) ∧ ((gpS p i).2 ≠ 1 → (gpS p i).1 < i ∧ (gpS p i).1 + (gpS p i).2 ≤ 8 ∨ 8 < i)
  | 0 => ⟨Nat.le_refl _, fun _ => rfl, fun h => absurd rfl h⟩
  | i + 1 => by
    have h1 := gpS_1 p i
    have h2 := zrT_le p (8 - i)
    show 1 ≤ (if (gpS p i).2 < zrT p (8 - i) then (i, zrT p (8 - i)) else gpS p i).2 ∧ ((if (gpS p i).2 < zrT p (8 - i) then (i, zrT p (8 - i)) else gpS p i).2 = 1 → (if (gpS p i).2 < zrT p (8 - i) then (i, zrT p (8 - i)) else gpS p i).1 = 8) ∧ ((if (gpS p i).2 < zrT p (8 - i) then (i, zrT p (8 - i)) else gpS p i).2 ≠ 1 → (if (gpS p i).2 < zrT p (8 - i) then (i, zrT p (8 - i)) else gpS p i).1 < i + 1 ∧ (if (gpS p i).2 < zrT p (8 - i) then (i, zrT p (8 - i)) else gpS p i).1 + (if (gpS p i).2 < zrT p (8 - i) then (i, zrT p (8 - i)) else gpS p i).2 ≤ 8 ∨ 8 < i + 1)
    by_cases c : (gpS p i).2 < zrT p (8 - i)
    · rw [if_pos c]
      exact ⟨by show 1 ≤ zrT p (8 - i); omega, fun h => by have h : zrT p (8 - i) = 1 := h; omega, fun _ => by show i < i + 1 ∧ i + zrT p (8 - i) ≤ 8 ∨ 8 < i + 1; omega⟩
    · rw [if_neg c]
      refine ⟨h1.1, h1.2.1, fun h => ?_⟩
      have := h1.2.2 h
      omega
section Dd
variable {W : List Nat} {t0 t : moS} {l : List Int32}
theorem dd_six186 {p : Nat → Nat} (hp : ∀ k, k < 8 → t0.I 16 k = nI (p k)) (hp2 : ∀ k, p k < 65536) (hN : t0.N 16 = 8) (h16 : 16 ∉ W) {g z : Nat} (hg : g ≤ 8) (hz : 1 ≤ z ∧ z ≤ 8) (h1 : z = 1 → g = 8) (h2 : z ≠ 1 → g + z ≤ 8) : ∀ r t l, r ≤ 8 → l.length + 5 * r + 5 < 160000 → DD W t0 t l → ∃ t', M_sayAddress_b186 t (nI (gbS (g, z))) (nI z) (if z = 1 then 0 else 1) (nI (8 - r)) = some t' ∧ DD W t0 t' (l ++ sixT p g z r) := by
  intro r
  induction r with
  | zero =>
    intro t l _ _ h
    refine ⟨t, ?_, by rw [show l ++ sixT p g z 0 = l from List.append_nil l]; exact h⟩
    unfold M_sayAddress_b186
    refine lp_r ?_
    show M_sayAddress_s186 t _ _ _ (nI 8) = _
    unfold M_sayAddress_s186
    rw [if_neg (by decide)]
    rfl
  | succ r ih =>
    intro t l hr hl h
    have e8 : 8 - (r + 1) = 7 - r := by omega
    rw [e8]
    obtain ⟨i, hi⟩ : ∃ i, i = 7 - r := ⟨_, rfl⟩
    rw [← hi]
    have e9 : 8 - r = i + 1 := by omega
    have hi8 : i < 8 := by omega
    have hlt : nI i < 8 := by rw [show (8 : Int32) = nI 8 from rfl]; exact nI_lt hi8 (by decide)
    have hsp := sixP_len p g z i
    -- behind a step
    have nx : ∀ t1 l1, DD W t0 t1 l1 → l1 = l ++ sixP p g z i → ∃ t', (M_sayAddress_b339 t1 (nI (gbS (g, z))) (nI z) (if z = 1 then 0 else 1) (nI i)).bind (Sum.elim (lp fun x => M_sayAddress_s186 x.2 (nI (gbS (g, z))) (nI z) (if z = 1 then 0 else 1) x.1) some) = some t' ∧ DD W t0 t' (l ++ sixT p g z (r + 1)) := by
      intro t1 l1 hd e
      subst e
      obtain ⟨t', e1, hd1⟩ := ih t1 _ (by omega) (by rw [List.length_append]; omega) hd
      refine ⟨t', ?_, ?_⟩
      · unfold M_sayAddress_b339
        show M_sayAddress_b186 t1 _ _ _ (nI i + 1) = _
        rw [nI_1, ← e9]
        exact e1
      · rw [List.append_assoc] at hd1
        rw [hi] at hd1
        exact hd1
    have hex1 : ∀ t1 l1, DD W t0 t1 l1 → l1.length + 4 < 160000 → l1 ++ hex (p i) = l ++ sixP p g z i → ∃ t', (M_sayAddress_b270 t1 (nI (gbS (g, z))) (nI z) (if z = 1 then 0 else 1) (nI i)).bind (Sum.elim (lp fun x => M_sayAddress_s186 x.2 (nI (gbS (g, z))) (nI z) (if z = 1 then 0 else 1) x.1) some) = some t' ∧ DD W t0 t' (l ++ sixT p g z (r + 1)) := by
      intro t1 l1 hd hl1 e
      obtain ⟨t2, e2, h2⟩ := dd_hex hp hp2 hN h16 (nI (gbS (g, z))) (nI z) (if z = 1 then 0 else 1) i hi8 3 0 t1 l1 (by omega) (by omega) hd (Or.inl ⟨rfl, hxK_le _⟩)
      unfold M_sayAddress_b270
      rw [show (12 : Int32) = nI (4 * 3) from rfl, e2]
      rw [if_pos rfl] at h2
      exact nx t2 _ h2 e
    have colon : ∀ t1 l1, DD W t0 t1 l1 → l1.length + 5 < 160000 → (l1 ++ [58]) ++ hex (p i) = l ++ sixP p g z i → ∃ t', (M_sayAddress_b264 t1 (nI (gbS (g, z))) (nI z) (if z = 1 then 0 else 1) (nI i)).bind (Sum.elim (lp fun x => M_sayAddress_s186 x.2 (nI (gbS (g, z))) (nI z) (if z = 1 then 0 else 1) x.1) some) = some t' ∧ DD W t0 t' (l ++ sixT p g z (r + 1)) := by
      intro t1 l1 hd hl1 e
      obtain ⟨t2, e2, h2⟩ := dd_say 58 hd (by omega)
      unfold M_sayAddress_b264
      rw [e2]
      exact hex1 t2 _ h2 (by rw [List.length_append]; show l1.length + 1 + 4 < _; omega) e
    have b244 : (i < g ∨ g + z ≤ i) → i ≠ g → ∃ t', (M_sayAddress_b244 t (nI (gbS (g, z))) (nI z) (if z = 1 then 0 else 1) (nI i)).bind (Sum.elim (lp fun x => M_sayAddress_s186 x.2 (nI (gbS (g, z))) (nI z) (if z = 1 then 0 else 1) x.1) some) = some t' ∧ DD W t0 t' (l ++ sixT p g z (r + 1)) := by
      intro hc hne
      have e3 : sixP p g z i = (if 0 < i ∧ i ≠ g + z then [58] else []) ++ hex (p i) := by
        unfold sixP
        rw [if_neg hne, if_pos hc]
      unfold M_sayAddress_b244
      by_cases c1 : 0 < i
      · rw [if_pos (show (0 : Int32) < nI i from nI_lt (a := 0) c1 (by omega))]
        by_cases c2 : z = 1
        · have := h1 c2
          rw [if_pos c2, if_pos rfl]
          have hcol := colon t l h (by omega) (by rw [e3, if_pos ⟨c1, by omega⟩, List.append_assoc])
          rw [if_pos c2] at hcol
          exact hcol
        · rw [if_neg c2, if_neg (by decide)]
          have hgb : gbS (g, z) = g := by unfold gbS; rw [if_neg c2]
          rw [hgb, nI_add]
          by_cases c3 : i = g + z
          · rw [if_pos (by rw [c3])]
            have hh := hex1 t l h (by omega) (by rw [e3, if_neg (fun q => q.2 c3)]; rfl)
            rw [if_neg c2, hgb] at hh
            exact hh
          · rw [if_neg (by rw [nI_eq (by omega) (by omega)]; exact c3)]
            have hcol := colon t l h (by omega) (by rw [e3, if_pos ⟨c1, c3⟩, List.append_assoc])
            rw [if_neg c2, hgb] at hcol
            exact hcol
      · rw [if_neg (show ¬ (0 : Int32) < nI i from nI_nlt (b := i) (a := 0) (by omega) (by decide))]
        exact hex1 t l h (by omega) (by rw [e3, if_neg (fun q => c1 q.1)]; rfl)
    unfold M_sayAddress_b186
    rw [lp_eq]
    show ∃ t', (M_sayAddress_s186 t (nI (gbS (g, z))) (nI z) (if z = 1 then 0 else 1) (nI i)).bind _ = some t' ∧ _
    generalize (Sum.elim (lp fun x => M_sayAddress_s186 x.2 (nI (gbS (g, z))) (nI z) (if z = 1 then 0 else 1) x.1) some) = K at nx hex1 colon b244 ⊢
    unfold M_sayAddress_s186
    rw [if_pos hlt]
    by_cases c2 : z = 1
    · have hg8 := h1 c2
      have hb := b244 (Or.inl (by omega)) (by omega)
      rw [if_pos c2] at hb ⊢
      rw [if_pos rfl]
      exact hb
    · have hgb : gbS (g, z) = g := by unfold gbS; rw [if_neg c2]
      have hgz := h2 c2
      rw [if_neg c2, if_neg (by decide), hgb, nI_add]
      rw [if_neg c2, hgb] at b244 nx
      by_cases c3 : i < g
      · rw [if_pos (nI_lt c3 (by omega))]
        exact b244 (Or.inl c3) (by omega)
      · rw [if_neg (nI_nlt (by omega) (by omega))]
        by_cases c4 : i < g + z
        · rw [if_pos (nI_lt c4 (by omega))]
          by_cases c5 : i = g
          · rw [if_pos (by rw [c5])]
            obtain ⟨t1, e1, hd1⟩ := dd_say 58 h (by omega)
            obtain ⟨t2, e2, hd2⟩ := dd_say 58 hd1 (by rw [List.length_append]; show l.length + 1 < _; omega)
            rw [e1]
            show ∃ t', (M_sayAddress_b228 t1 _ _ _ _).bind _ = some t' ∧ _
            unfold M_sayAddress_b228
            rw [if_pos (by rw [c5]), e2]
            refine nx t2 _ hd2 ?_
            unfold sixP
            rw [if_pos c5, List.append_assoc]
            rfl
          · rw [if_neg (by rw [nI_eq (by omega) (by omega)]; exact c5)]
            unfold M_sayAddress_b228
            rw [if_neg (by rw [nI_eq (by omega) (by omega)]; exact c5)]
            refine nx t _ h ?_
            unfold sixP
            rw [if_neg c5, if_neg (by omega), List.append_nil]
        · rw [if_neg (nI_nlt (by omega) (by omega))]
          exact b244 (Or.inr (by omega)) (by omega)
theorem dd_six110 {p : Nat → Nat} (hp : ∀ k, k < 8 → t0.I 16 k = nI (p k)) (hp2 : ∀ k, p k < 65536) (hN : t0.N 16 = 8) (h16 : 16 ∉ W) (h : DD W t0 t l) (hl : l.length + 45 < 160000) : ∀ n i, i + n = 8 → ∃ t', M_sayAddress_b110 t (nI (gbS (gpS p i))) (nI (gpS p i).2) (nI i) = some t' ∧ DD W t0 t' (l ++ six p) := by
  intro n
  induction n with
  | zero =>
    intro i hi
    have hi : i = 8 := by omega
    subst hi
    have g1 := gpS_1 p 8
    have g2 := gpS_le p 8 (Nat.le_refl _)
    obtain ⟨t', e, hd⟩ := dd_six186 hp hp2 hN h16 (g := (gpS p 8).1) (z := (gpS p 8).2) g2.1 ⟨g1.1, g2.2⟩ g1.2.1 (fun c => by have := g1.2.2 c; omega) 8 t l (Nat.le_refl _) (by omega) h
    refine ⟨t', ?_, hd⟩
    unfold M_sayAddress_b110
    refine lp_x ?_
    show M_sayAddress_s110 t (nI (gbS (gpS p 8))) (nI (gpS p 8).2) (nI 8) = _
    unfold M_sayAddress_s110 M_sayAddress_b181
    rw [if_neg (by decide)]
    rw [← e]
    by_cases c : (gpS p 8).2 = 1
    · rw [if_neg (by rw [c]; decide), if_pos c]
      rfl
    · rw [if_pos (show (1 : Int32) < nI _ from nI_lt (a := 1) (by omega) (by omega)), if_neg c]
      rfl
  | succ n ih =>
    intro i hi
    obtain ⟨t', e, hd⟩ := ih (i + 1) (by omega)
    refine ⟨t', ?_, hd⟩
    have hN2 : t.N 16 = 8 := h.2.2.1
    have hI : t.I 16 = t0.I 16 := (h.2.2.2.1 16 h16).2.2.1
    have eg : gpS p (i + 1) = if (gpS p i).2 < zrT p (8 - i) then (i, zrT p (8 - i)) else gpS p i := rfl
    have g1 := gpS_1 p i
    have g2 := gpS_le p i (by omega)
    have fin : ∀ j, j ≤ 8 → zrT p (8 - i) = j → M_sayAddress_b149 t (nI (gbS (gpS p i))) (nI (gpS p i).2) (nI i) (nI j) = some (.inl (nI (gbS (gpS p (i + 1))), nI (gpS p (i + 1)).2, nI (i + 1), t)) := by
      intro j hj ej
      unfold M_sayAddress_b149 M_sayAddress_b164
      rw [eg, ej, nI_1]
      by_cases c : (gpS p i).2 < j
      · rw [if_pos (nI_lt c (by omega)), if_pos c]
        have : gbS (i, j) = i := by unfold gbS; rw [if_neg (by show ¬ j = 1; omega)]
        rw [this]
      · rw [if_neg (nI_nlt (by omega) (by omega)), if_neg c]
    have inner : ∀ m j, i + j + m = 8 → zrT p (8 - i) = zrT p m + j → M_sayAddress_b120 t (nI (gbS (gpS p i))) (nI (gpS p i).2) (nI i) (nI j) = some (.inl (nI (gbS (gpS p (i + 1))), nI (gpS p (i + 1)).2, nI (i + 1), t)) := by
      intro m
      induction m with
      | zero =>
        intro j hj ej
        unfold M_sayAddress_b120
        refine lp_x ?_
        show M_sayAddress_s120 t _ _ _ (nI j) = _
        unfold M_sayAddress_s120
        rw [nI_add, if_neg (show ¬ nI (i + j) < 8 from nI_nlt (b := 8) (by omega) (by omega)), fin j (by omega) (by rw [ej]; show 0 + j = j; omega)]
      | succ m ih2 =>
        intro j hj ej
        have ez : zrT p (m + 1) = if p (7 - m) = 0 then zrT p m + 1 else 0 := rfl
        have e7 : 7 - m = i + j := by omega
        rw [e7] at ez
        have hr : rdI t 16 (nI (i + j)) = some (nI (p (i + j))) := by rw [rdI_n hN2 (by omega) (by decide), hI, hp _ (by omega)]
        by_cases c : p (i + j) = 0
        · have e2 := ih2 (j + 1) (by omega) (by rw [ej, ez, if_pos c]; omega)
          unfold M_sayAddress_b120 at e2 ⊢
          rw [lp_l (y := (nI (j + 1), t))]
          · exact e2
          · show M_sayAddress_s120 t _ _ _ (nI j) = _
            unfold M_sayAddress_s120
            rw [nI_add, if_pos (show nI (i + j) < 8 from nI_lt (b := 8) (by omega) (by decide)), hr]
            show (if nI (p (i + j)) = 0 then _ else _) = _
            rw [if_pos (by rw [c]; rfl), nI_1]
        · unfold M_sayAddress_b120
          refine lp_x ?_
          show M_sayAddress_s120 t _ _ _ (nI j) = _
          unfold M_sayAddress_s120
          rw [nI_add, if_pos (show nI (i + j) < 8 from nI_lt (b := 8) (by omega) (by decide)), hr]
          show (if nI (p (i + j)) = 0 then _ else _) = _
          rw [if_neg (nI_ne0 (Nat.pos_of_ne_zero c) (Nat.lt_trans (hp2 _) (by decide))), fin j (by omega) (by rw [ej, ez, if_neg c]; omega)]
    unfold M_sayAddress_b110 at e ⊢
    rw [lp_l (y := (nI (gbS (gpS p (i + 1))), nI (gpS p (i + 1)).2, nI (i + 1), t))]
    · exact e
    · show M_sayAddress_s110 t (nI (gbS (gpS p i))) (nI (gpS p i).2) (nI i) = _
      unfold M_sayAddress_s110
      rw [if_pos (show nI i < 8 from nI_lt (b := 8) (by omega) (by decide))]
      exact inner (8 - i) 0 (by omega) (by omega)
theorem dd_addr (f : Int32) (hi lo : Int64) (h : DD W t0 t l) (h16 : 16 ∈ W) (hl : l.length + 60 < 160000) : ∃ t', M_sayAddress t f hi lo = some t' ∧ DD W t0 t' (l ++ adr (fam f) hi lo) := by
  unfold M_sayAddress
  by_cases c : f = 0
  · rw [if_pos c]
    obtain ⟨t', e, hd⟩ := dd_dots hi 4 0 t l (by omega) (by omega) h
    refine ⟨t', e, ?_⟩
    rw [if_neg (by omega), if_pos rfl] at hd
    have : adr (fam f) hi lo = dotT hi 3 := by unfold adr fam; rw [if_pos c, if_neg (by decide)]
    rw [this]
    exact hd
  · rw [if_neg c]
    have ea : adr (fam f) hi lo = six (prt hi lo) := by unfold adr fam; rw [if_neg c, if_pos rfl]
    rw [ea]
    have key : ∀ n k t, k + n = 8 → DD W t0 t l → (∀ j, j < k → t.I 16 j = nI (prt hi lo j)) → ∃ t', M_sayAddress_b53 t hi lo (nI k) = some t' ∧ DD W t0 t' (l ++ six (prt hi lo)) := by
      intro n
      induction n with
      | zero =>
        intro k t hk h hI
        have hk : k = 8 := by omega
        subst hk
        have h' : DD [7, 8] t t l := ⟨⟨by decide, by decide⟩, h.2.1, h.2.2.1, mfr.rf⟩
        obtain ⟨t', e, hd⟩ := dd_six110 (W := [7, 8]) (t0 := t) (t := t) (p := prt hi lo) hI (prt_lt hi lo) h.2.2.1 (by decide) h' (by omega) 8 0 (by omega)
        refine ⟨t', ?_, h.1, hd.2.1, hd.2.2.1, h.2.2.2.tr (hd.2.2.2.wk fun k hk => ?_)⟩
        · unfold M_sayAddress_b53
          refine lp_x ?_
          show M_sayAddress_s53 t hi lo (nI 8) = _
          unfold M_sayAddress_s53
          rw [if_neg (by decide)]
          rw [← e]
          rfl
        · rcases List.mem_cons.mp hk with rfl | hk
          · exact h.1.1
          · rw [List.mem_singleton.mp hk]; exact h.1.2
      | succ n ih =>
        intro k t hk h hI
        have hw : wrI t 16 (nI k) (nI (prt hi lo k)) = some (moSI t 16 k (nI (prt hi lo k))) := wrI_n h.2.2.1 (by omega) (by decide)
        obtain ⟨t', e, hd⟩ := ih (k + 1) (moSI t 16 k (nI (prt hi lo k))) (by omega) ⟨h.1, h.2.1, h.2.2.1, h.2.2.2.tr (mfr.si h16)⟩ (fun j hj => by
          rw [moSI_s]
          by_cases c : j = k
          · subst c; exact pk_us
          · rw [pk_un c]; exact hI j (by omega))
        refine ⟨t', ?_, hd⟩
        unfold M_sayAddress_b53 at e ⊢
        rw [lp_l (y := (nI (k + 1), moSI t 16 k (nI (prt hi lo k))))]
        · exact e
        · show M_sayAddress_s53 t hi lo (nI k) = _
          unfold M_sayAddress_s53 M_sayAddress_b78
          rw [if_pos (show nI k < 8 from nI_lt (b := 8) (by omega) (by decide))]
          have hs := sr_prt hi lo k (by omega)
          by_cases c4 : nI k < 4
          · rw [if_pos c4] at hs ⊢
            rw [hs, hw, nI_1]
            rfl
          · rw [if_neg c4] at hs ⊢
            rw [hs, hw, nI_1]
            rfl
    exact key 8 0 t (by omega) h (fun j hj => absurd hj (Nat.not_lt_zero _))
theorem dd_pfx (f : Int32) (hi lo : Int64) (n : Int32) (h : DD W t0 t l) (h16 : 16 ∈ W) (hl : l.length + 75 < 160000) : ∃ t', M_sayPrefix t f hi lo n = some t' ∧ DD W t0 t' (l ++ pfxZ (fam f) hi lo n) := by
  have hal := adr_len (fam f) hi lo
  refine wb (dd_addr f hi lo h h16 (by omega)) (fun t1 h1 => wb (dd_say 47 h1 (by rw [List.length_append]; omega)) (fun t2 h2 => wb (dd_num n h2 (by rw [List.length_append, List.length_append]; show l.length + _ + 1 + _ < _; omega)) (fun t3 h3 => ⟨t3, rfl, ?_⟩)))
  rw [List.append_assoc, List.append_assoc] at h3
  exact h3
theorem dd_wpfx (f : Int32) (hi lo : Int64) (n : Int32) (h : DD W t0 t l) (h16 : 16 ∈ W) (hl : l.length + 76 < 160000) : ∃ t', M_wordPrefix t f hi lo n = some t' ∧ DD W t0 t' (l ++ 32 :: pfxZ (fam f) hi lo n) := by
  refine wb (dd_space h (by omega)) (fun t1 h1 => wb (dd_pfx f hi lo n h1 h16 (by rw [List.length_append]; show l.length + 1 + _ < _; omega)) (fun t2 h2 => ⟨t2, rfl, ?_⟩))
  rw [List.append_assoc] at h2
  exact h2
end Dd
