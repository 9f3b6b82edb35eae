/-! The model's draft: what is said stands behind. -/
section Wb
variable {α β : Type}
theorem wb {o : Option α} {f : α → Option β} {P : α → Prop} {R : β → Prop} (h : ∃ y, o = some y ∧ P y) (k : ∀ y, P y → ∃ z, f y = some z ∧ R z) : ∃ z, o.bind f = some z ∧ R z := by
  obtain ⟨y, e, hp⟩ := h
  subst e
  exact k y hp
theorem wi {P : Prop} {d : Decidable P} {a b : Option β} {R : β → Prop} (h1 : P → ∃ z, a = some z ∧ R z) (h2 : ¬ P → ∃ z, b = some z ∧ R z) : ∃ z, (@ite _ P d a b) = some z ∧ R z := by
  by_cases c : P
  · rw [if_pos c]; exact h1 c
  · rw [if_neg c]; exact h2 c
theorem lp_l {f : α → Option (α ⊕ β)} {x y : α} (h : f x = some (.inl y)) : lp f x = lp f y := by
  rw [lp_eq, h]; rfl
theorem lp_r {f : α → Option (α ⊕ β)} {x : α} {z : β} (h : f x = some (.inr z)) : lp f x = some z := by
  rw [lp_eq, h]; rfl
theorem xo_e {o : Option β} {g : α → Option β} : Option.bind (xo o) (Sum.elim g some) = o := by cases o <;> rfl
theorem lp_x {f : α → Option (α ⊕ β)} {x : α} {o : Option β} (h : f x = xo o) : lp f x = o := by
  rw [lp_eq, h, xo_e]
end Wb
def mG : List Nat := [5, 7, 102, 103, 104]
/-- what stays of the model: all fields but those of W -/
def mfr (W : List Nat) (t t' : moS) : Prop := (∀ k, k ∉ W → t'.S k = t.S k ∧ t'.Z k = t.Z k ∧ t'.I k = t.I k ∧ t'.J k = t.J k) ∧ ∀ k, (k ∉ W ∨ k ∉ mG) → t'.N k = t.N k
section Mfr
variable {W V : List Nat} {t t1 t2 : moS}
theorem mfr.rf : mfr W t t := ⟨fun _ _ => ⟨rfl, rfl, rfl, rfl⟩, fun _ _ => rfl⟩
theorem mfr.tr (h : mfr W t t1) (g : mfr W t1 t2) : mfr W t t2 := ⟨fun k hk => by
  obtain ⟨a1, a2, a3, a4⟩ := h.1 k hk
  obtain ⟨b1, b2, b3, b4⟩ := g.1 k hk
  exact ⟨b1.trans a1, b2.trans a2, b3.trans a3, b4.trans a4⟩, fun k hk => (g.2 k hk).trans (h.2 k hk)⟩
theorem mfr.wk (h : mfr W t t1) (hs : ∀ k, k ∈ W → k ∈ V) : mfr V t t1 := ⟨fun k hk => h.1 k (fun z => hk (hs k z)), fun k hk => h.2 k (hk.imp_left fun z w => z (hs k w))⟩
theorem mfr.ss {k : Nat} {v : Int32} (h : k ∈ W) : mfr W t (moSS t k v) := ⟨fun j hj => ⟨moSS_n (fun e => hj (e ▸ h)), rfl, rfl, rfl⟩, fun _ _ => rfl⟩
theorem mfr.sz {k : Nat} {v : Int64} (h : k ∈ W) : mfr W t (moSZ t k v) := ⟨fun j hj => ⟨rfl, moSZ_n (fun e => hj (e ▸ h)), rfl, rfl⟩, fun _ _ => rfl⟩
theorem mfr.si {k i : Nat} {v : Int32} (h : k ∈ W) : mfr W t (moSI t k i v) := ⟨fun j hj => ⟨rfl, rfl, moSI_n (fun e => hj (e ▸ h)), rfl⟩, fun _ _ => rfl⟩
theorem mfr.sj {k i : Nat} {v : Int64} (h : k ∈ W) : mfr W t (moSJ t k i v) := ⟨fun j hj => ⟨rfl, rfl, rfl, moSJ_n (fun e => hj (e ▸ h))⟩, fun _ _ => rfl⟩
end Mfr
theorem rdI_n {t : moS} {k i n : Nat} (hn : t.N k = n) (h : i < n) (h2 : n < 2 ^ 31) : rdI t k (nI i) = some (t.I k i) := by
  unfold rdI
  rw [if_neg (by rw [hn]; exact nI_in h h2), nI_clamp (by omega)]
theorem rdJ_n {t : moS} {k i n : Nat} (hn : t.N k = n) (h : i < n) (h2 : n < 2 ^ 31) : rdJ t k (nI i) = some (t.J k i) := by
  unfold rdJ
  rw [if_neg (by rw [hn]; exact nI_in h h2), nI_clamp (by omega)]
theorem wrI_n {t : moS} {k i n : Nat} {v : Int32} (hn : t.N k = n) (h : i < n) (h2 : n < 2 ^ 31) : wrI t k (nI i) v = some (moSI t k i v) := by
  unfold wrI
  rw [if_neg (by rw [hn]; exact nI_in h h2), nI_clamp (by omega)]
theorem wrJ_n {t : moS} {k i n : Nat} {v : Int64} (hn : t.N k = n) (h : i < n) (h2 : n < 2 ^ 31) : wrJ t k (nI i) v = some (moSJ t k i v) := by
  unfold wrJ
  rw [if_neg (by rw [hn]; exact nI_in h h2), nI_clamp (by omega)]
theorem wrZ_n {t : moS} {k i n : Nat} {v : Int32} (hn : t.N k = n) (h : i < n) (h2 : n < 2 ^ 31) : wrZ t k (nI i) v = some (moSI t k i (vp_nar .boolean v)) := by
  unfold wrZ
  rw [if_neg (by rw [hn]; exact nI_in h h2), nI_clamp (by omega)]
/-- the draft holds l, the rest is t0's -/
def DD (W : List Nat) (t0 t : moS) (l : List Int32) : Prop := (7 ∈ W ∧ 8 ∈ W) ∧ (t.S 8 = nI l.length ∧ l.length ≤ t.N 7 ∧ 4096 ≤ t.N 7 ∧ t.N 7 ≤ 320000 ∧ ∀ i, i < l.length → t.I 7 i = l.getD i 0) ∧ t.N 16 = 8 ∧ mfr W t0 t
section Dd
variable {W : List Nat} {t0 t : moS} {l : List Int32}
theorem dd_say (c : Int32) (h : DD W t0 t l) (hl : l.length < 160000) : ∃ t', M_say t c = some t' ∧ DD W t0 t' (l ++ [c]) := by
  obtain ⟨hW, ⟨h1, h2, h3, h4, h5⟩, h6, h7⟩ := h
  have ec : (t.S 8).toNatClampNeg = l.length := by rw [h1, nI_clamp (by omega)]
  unfold M_say
  rw [if_neg (by rw [ec, h1]; intro z; rcases z with z | z | z; (exact nI_pos (by omega) z); omega; omega), ec]
  refine ⟨_, rfl, ?_⟩
  have hg : mfr W t (mgD t l.length) ∧ (mgD t l.length).S = t.S ∧ l.length < (mgD t l.length).N 7 ∧ (mgD t l.length).N 7 ≤ 320000 ∧ 4096 ≤ (mgD t l.length).N 7 ∧ (mgD t l.length).N 16 = t.N 16 ∧ ∀ i, i < l.length → (mgD t l.length).I 7 i = t.I 7 i := by
    unfold mgD
    by_cases c : l.length = t.N 7
    · rw [if_pos c]
      refine ⟨⟨fun k hk => ⟨rfl, rfl, ?_, rfl⟩, fun k hk => ?_⟩, rfl, ?_, ?_, ?_, rfl, fun i hi => ?_⟩
      · have : k ≠ 7 := fun e => hk (by rw [e]; exact hW.1)
        exact if_neg this
      · have : k ≠ 7 := fun e => by rw [e] at hk; exact hk.elim (fun z => z hW.1) (fun z => z (by decide))
        exact if_neg this
      · show l.length < 2 * l.length; omega
      · show 2 * l.length ≤ _; omega
      · show _ ≤ 2 * l.length; omega
      · show (if i < l.length then t.I 7 i else 0) = _
        rw [if_pos hi]
    · rw [if_neg c]
      exact ⟨mfr.rf, rfl, by omega, h4, h3, rfl, fun _ _ => rfl⟩
  obtain ⟨g1, g2, g3, g4, g5, g6, g7⟩ := hg
  refine ⟨hW, ⟨?_, ?_, g5, g4, fun i hi => ?_⟩, g6.trans h6, ((h7.tr g1).tr (mfr.si hW.1)).tr (mfr.ss hW.2)⟩
  · rw [List.length_append]
    show (moSS (moSI (mgD t l.length) 7 l.length c) 8 (t.S 8 + 1)).S 8 = _
    rw [moSS_s, h1, nI_1]
    rfl
  · rw [List.length_append]; exact g3
  · rw [List.length_append] at hi
    show (moSI (mgD t l.length) 7 l.length c).I 7 i = _
    rw [moSI_s]
    by_cases c2 : i = l.length
    · subst c2
      rw [gd_r (Nat.le_refl _), Nat.sub_self]
      exact pk_us
    · have : i < l.length := by simp only [List.length_cons, List.length_nil] at hi; omega
      rw [gd_l this, pk_un c2, g7 i this, h5 i this]
theorem dlF_fu : ∀ f n, n < 10 ^ (f + 1) → dlF (f + 1) n = dlF f n := by
  intro f
  induction f with
  | zero => intro n h; show (if n < 10 then 0 else _) = 0; rw [if_pos (by simpa using h)]
  | succ f ih =>
    intro n h
    show (if n < 10 then 0 else dlF (f + 1) (n / 10) + 1) = if n < 10 then 0 else dlF f (n / 10) + 1
    rw [ih (n / 10) (Nat.div_lt_of_lt_mul (by rw [Nat.mul_comm, ← Nat.pow_succ]; exact h))]
theorem dd_n18 {n : Nat} (hn : n < 2 ^ 31) : ∀ r t l, r ≤ 9 → l.length + r < 160000 → DD W t0 t l → ∃ t', M_sayNumber10_b18 t (nI n) (nI (10 ^ r)) = some t' ∧ DD W t0 t' (l ++ dgT n r) := by
  intro r
  induction r with
  | zero =>
    intro t l hr hl h
    obtain ⟨t1, e1, h1⟩ := dd_say (48 + rem_I (nI n / nI (10 ^ 0)) 10) h (by omega)
    have e : 48 + rem_I (nI n / nI (10 ^ 0)) 10 = nI (48 + n % 10) := by
      rw [pk_div hn (by decide) (by decide), Nat.pow_zero, Nat.div_one, show (10 : Int32) = nI 10 from rfl]
      show 48 + (nI n - nI n / nI 10 * nI 10) = _
      rw [pk_rem hn (by decide) (by decide), show (48 : Int32) = nI 48 from rfl, nI_add]
    refine ⟨t1, ?_, by rw [e] at h1; exact h1⟩
    unfold M_sayNumber10_b18
    rw [lp_l (y := (nI (10 ^ 0) / 10, t1)), lp_r]
    · show M_sayNumber10_s18 t1 (nI n) (nI (10 ^ 0) / 10) = _
      unfold M_sayNumber10_s18
      rw [if_neg (by decide)]
      rfl
    · show M_sayNumber10_s18 t (nI n) (nI (10 ^ 0)) = _
      unfold M_sayNumber10_s18 nz
      rw [if_pos (by decide), if_neg (by decide), e1]
      rfl
  | succ r ih =>
    intro t l hr hl h
    have hr9 : 10 ^ (r + 1) ≤ 1000000000 := pw10 (by omega)
    obtain ⟨t1, e1, h1⟩ := dd_say (48 + rem_I (nI n / nI (10 ^ (r + 1))) 10) h (by omega)
    have e : 48 + rem_I (nI n / nI (10 ^ (r + 1))) 10 = nI (48 + n / 10 ^ (r + 1) % 10) := by
      rw [pk_div hn (pw10p _) (by omega), show (10 : Int32) = nI 10 from rfl]
      show 48 + (nI (n / 10 ^ (r + 1)) - nI (n / 10 ^ (r + 1)) / nI 10 * nI 10) = _
      rw [pk_rem (Nat.lt_of_le_of_lt (Nat.div_le_self _ _) hn) (by decide) (by decide), show (48 : Int32) = nI 48 from rfl, nI_add]
    have e2 : nI (10 ^ (r + 1)) / 10 = nI (10 ^ r) := by
      rw [show (10 : Int32) = nI 10 from rfl, pk_div (by omega) (by decide) (by decide), Nat.pow_succ, Nat.mul_div_cancel _ (by decide)]
    obtain ⟨t2, e3, h2⟩ := ih t1 _ (by omega) (by rw [List.length_append]; show l.length + 1 + r < _; omega) h1
    refine ⟨t2, ?_, by rw [e, List.append_assoc] at h2; exact h2⟩
    unfold M_sayNumber10_b18
    rw [lp_l (y := (nI (10 ^ r), t1))]
    · exact e3
    · show M_sayNumber10_s18 t (nI n) (nI (10 ^ (r + 1))) = _
      unfold M_sayNumber10_s18 nz
      rw [if_pos (show (0 : Int32) < nI (10 ^ (r + 1)) from nI_lt (a := 0) (pw10p _) (by omega)), if_neg (nI_ne0 (pw10p _) (by omega)), e1, ← e2]
      rfl
theorem dd_n10 {n : Nat} (hn : n < 2 ^ 31) (h : DD W t0 t l) (hl : l.length + 10 < 160000) : ∃ t', M_sayNumber10 t (nI n) = some t' ∧ DD W t0 t' (l ++ dec n) := by
  have key : ∀ f i, i + f = 9 → dlF 9 n = dlF f (n / 10 ^ i) + i → n / 10 ^ 9 < 10 → ∃ t', M_sayNumber10_b2 t (nI n) (nI (10 ^ i)) = some t' ∧ DD W t0 t' (l ++ dec n) := by
    intro f
    induction f with
    | zero =>
      intro i hi hd h9
      have hi : i = 9 := by omega
      subst hi
      have hd2 : dlF 9 n = 9 := by rw [hd]; rfl
      obtain ⟨t', e1, h1⟩ := dd_n18 hn 9 t l (by omega) (by omega) h
      refine ⟨t', ?_, by unfold dec; rw [hd2]; exact h1⟩
      unfold M_sayNumber10_b2
      rw [lp_r (z := t')]
      show M_sayNumber10_s2 t (nI n) (nI (10 ^ 9)) = _
      unfold M_sayNumber10_s2 nz
      rw [if_neg (nI_ne0 (pw10p _) (by decide)), if_neg (by rw [pk_div hn (pw10p _) (by decide)]; exact nI_nlt (show n / 10 ^ 9 ≤ 9 by omega) (by decide)), e1]
      rfl
    | succ f ih =>
      intro i hi hd h9
      have hi9 : 10 ^ i ≤ 1000000000 := pw10 (by omega)
      by_cases c : n / 10 ^ i < 10
      · have hd2 : dlF 9 n = i := by
          rw [hd]
          unfold dlF
          rw [if_pos c]
          omega
        obtain ⟨t', e1, h1⟩ := dd_n18 hn i t l (by omega) (by omega) h
        refine ⟨t', ?_, by unfold dec; rw [hd2]; exact h1⟩
        unfold M_sayNumber10_b2
        rw [lp_r (z := t')]
        show M_sayNumber10_s2 t (nI n) (nI (10 ^ i)) = _
        unfold M_sayNumber10_s2 nz
        rw [if_neg (nI_ne0 (pw10p _) (by omega)), if_neg (by rw [pk_div hn (pw10p _) (by omega)]; exact nI_nlt (show n / 10 ^ i ≤ 9 by omega) (by decide)), e1]
        rfl
      · have e3 : dlF (f + 1) (n / 10 ^ i) = dlF f (n / 10 ^ (i + 1)) + 1 := by
          show (if n / 10 ^ i < 10 then 0 else dlF f (n / 10 ^ i / 10) + 1) = _
          rw [if_neg c, Nat.div_div_eq_div_mul, ← Nat.pow_succ]
        obtain ⟨t', e1, h1⟩ := ih (i + 1) (by omega) (by rw [hd, e3]; omega) h9
        refine ⟨t', ?_, h1⟩
        unfold M_sayNumber10_b2 at e1 ⊢
        rw [lp_l (y := (nI (10 ^ (i + 1)), t))]
        · exact e1
        · show M_sayNumber10_s2 t (nI n) (nI (10 ^ i)) = _
          unfold M_sayNumber10_s2 nz
          rw [if_neg (nI_ne0 (pw10p _) (by omega)), if_pos (by rw [pk_div hn (pw10p _) (by omega)]; exact nI_lt (show 9 < n / 10 ^ i by omega) (Nat.lt_of_le_of_lt (Nat.div_le_self _ _) hn)), show (10 : Int32) = nI 10 from rfl, pk_mul, Nat.mul_comm, ← Nat.pow_succ]
  have := key 9 0 (by omega) (by rw [Nat.pow_zero, Nat.div_one]; rfl) (Nat.div_lt_of_lt_mul (by omega))
  exact this
theorem dd_num (v : Int32) (h : DD W t0 t l) (hl : l.length + 11 < 160000) : ∃ t', M_sayNumber t v = some t' ∧ DD W t0 t' (l ++ decZ v) := by
  unfold M_sayNumber M_sayNumber_b14
  by_cases hv : v < 0
  · rw [if_neg (by intro z; exact absurd (Int32.lt_trans z hv) (by decide))]
    refine wb (dd_say _ h (by omega)) (fun t1 h1 => ⟨t1, rfl, ?_⟩)
    unfold decZ
    rw [if_pos hv]
    exact h1
  · obtain ⟨n, hn, rfl⟩ := nI_of hv
    rw [decZ_n hn]
    have er : 48 + rem_I (nI n) 10 = nI (48 + n % 10) := by
      rw [show (10 : Int32) = nI 10 from rfl]
      show 48 + (nI n - nI n / nI 10 * nI 10) = _
      rw [pk_rem hn (by decide) (by decide), show (48 : Int32) = nI 48 from rfl, nI_add]
    rw [er]
    by_cases c : n < 10
    · rw [if_neg (show ¬ (9 : Int32) < nI n from nI_nlt (a := 9) (by omega) (by decide))]
      refine wb (dd_say _ h (by omega)) (fun t1 h1 => ⟨t1, rfl, ?_⟩)
      have e : dec n = [nI (48 + n % 10)] := by
        unfold dec
        rw [show dlF 9 n = 0 by unfold dlF; rw [if_pos c]]
        rfl
      rw [e]
      exact h1
    · rw [if_pos (show (9 : Int32) < nI n from nI_lt (a := 9) (by omega) hn), show (10 : Int32) = nI 10 from rfl, pk_div hn (by decide) (by decide)]
      have hq : n / 10 < 10 ^ 9 := Nat.div_lt_of_lt_mul (by omega)
      have hdl := dec_len (n / 10)
      refine wb (dd_n10 (Nat.lt_of_le_of_lt (Nat.div_le_self _ _) hn) h (by omega)) (fun t1 h1 => wb (dd_say _ h1 (by rw [List.length_append]; omega)) (fun t2 h2 => ⟨t2, rfl, ?_⟩))
      have e : dec n = dec (n / 10) ++ [nI (48 + n % 10)] := by
        unfold dec
        have e1 : dlF 9 n = dlF 8 (n / 10) + 1 := by
          show (if n < 10 then 0 else dlF 8 (n / 10) + 1) = _
          rw [if_neg c]
        rw [e1, dgT_app, dlF_fu 8 (n / 10) hq]
      rw [e, ← List.append_assoc]
      exact h2
end Dd
