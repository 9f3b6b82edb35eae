/-! The picture: the class's memory, the model's memory, the rest. -/
/-- the class's memory is apart from the model's and from the rest -/
def aptC (R : pmM) (base m : Nat) (q : Nat → Nat) (s : cS) : Prop := ∀ a, (s.K a).1 ≠ 0 → base ≤ a ∧ R a = none ∧ (s.K a).1 < 160 ∧ a ≠ m ∧ ∀ k ∈ moAr, q k ≠ a
/-- the constants stand -/
def cstR (sa : Nat → Nat) (R : pmM) : Prop := (∀ k, k < kTx.length → ∃ v, vSt R (sa k) v (kTx.getD k [])) ∧ R (sa 1000) = some (.inl (.int, kSin.length, .inl fun i => kSin.getD i 0)) ∧ R (sa 1001) = some (.inl (.int, kTur.length, .inl fun i => kTur.getD i 0))
/-- a picture's parts: model, class, constants, the script, the law's row -/
def picP (base : Nat) (sa : Nat → Nat) (b L : Nat) (xs : Nat → Int32) (m o : Nat) (R : pmM) (q : Nat → Nat) (s : cS) : Prop := moQ base m q ∧ moD R m q ∧ aptC R base m q s ∧ cstR sa R ∧ R b = some (.inl (.int, L, .inl xs)) ∧ base ≤ o ∧ ∃ f : Nat → Int64, R o = some (.inl (.long, 1, .inr (.inl f)))
section Pi
variable {base b L : Nat} {sa : Nat → Nat} {R : pmM} {m o : Nat} {q q' : Nat → Nat} {s s' : cS} {t : moS} {xs : Nat → Int32}
theorem moM_k {a : Nat} (hD : moD R m q) (h : R a ≠ none) : moM R m q t a = R a := moM_o (fun e => h (by rw [e]; exact hD.1)) (fun k hk e => h (by rw [← e]; exact hD.2 k hk))
theorem pic_cm (hq : moQ base m q) (h : aptC R base m q s) : cM (moM R m q t) s = moM (cM R s) m q t := by
  funext a
  by_cases c : (s.K a).1 = 0
  · rw [cM_r c]
    by_cases c1 : a = m
    · subst c1
      rw [moM_m, moM_m]
    · by_cases c2 : ∃ k, k ∈ moAr ∧ q k = a
      · obtain ⟨k, hk, rfl⟩ := c2
        rw [moM_q hq hk, moM_q hq hk]
      · have c2' : ∀ k ∈ moAr, q k ≠ a := fun k hk e => c2 ⟨k, hk, e⟩
        rw [moM_o c1 c2', moM_o c1 c2', cM_r c]
  · obtain ⟨-, -, -, n1, n2⟩ := h a c
    rw [moM_o n1 n2]
    unfold cM
    rw [if_neg c, if_neg c]
theorem pic_cW (hD : moD R m q) (hA : aptC R base m q s) (hC : cstR sa R) : cW sa (moM R m q t) base s := by
  refine ⟨fun a ha => ?_, fun k hk => ?_, ?_, ?_⟩
  · obtain ⟨a1, a2, a3, a4, a5⟩ := hA a ha
    exact ⟨a1, by rw [moM_o a4 a5]; exact a2, a3⟩
  · obtain ⟨v, h, z, f, b1, b2, b3⟩ := hC.1 k hk
    exact ⟨v, h, z, f, by rw [moM_k hD (by rw [b1]; simp)]; exact b1, by rw [moM_k hD (by rw [b2]; simp)]; exact b2, b3⟩
  · rw [moM_k hD (by rw [hC.2.1]; simp)]; exact hC.2.1
  · rw [moM_k hD (by rw [hC.2.2]; simp)]; exact hC.2.2
theorem pic_ap (hq : moQ base m q) (hw : cW sa (moM R m q t) base s) : aptC R base m q s := fun a ha => by
  obtain ⟨h1, h2, h3⟩ := hw.1 a ha
  have n1 : a ≠ m := fun e => by rw [e, moM_m] at h2; cases h2
  have n2 : ∀ k ∈ moAr, q k ≠ a := fun k hk e => by rw [← e, moM_q hq hk] at h2; cases h2
  exact ⟨h1, by rw [moM_o n1 n2] at h2; exact h2, h3, n1, n2⟩
theorem cM_some {a : Nat} (h0 : (s.K a).1 ≠ 0) (h : (s.K a).1 < 160) : cM R s a ≠ none := by
  unfold cM
  rw [if_neg h0]
  unfold cEt
  by_cases c1 : (s.K a).1 < 100
  · rw [if_pos c1]; simp
  · rw [if_neg c1]
    by_cases c2 : (s.K a).1 < 130
    · rw [if_pos c2]; simp
    · rw [if_neg c2, if_pos h]; simp
theorem pic_D (hD : moD R m q) (hA : aptC R base m q s) : moD (cM R s) m q := by
  have key : ∀ a, R a = none → (s.K a).1 = 0 → cM R s a = none := fun a h c => (cM_r c).trans h
  refine ⟨key m hD.1 ?_, fun k hk => key _ (hD.2 k hk) ?_⟩
  · exact Classical.byContradiction fun c => (hA m c).2.2.2.1 rfl
  · exact Classical.byContradiction fun c => (hA (q k) c).2.2.2.2 k hk rfl
theorem pic_D' (hA : aptC R base m q s) (hD : moD (cM R s) m q') : moD R m q' ∧ aptC R base m q' s := by
  have z : ∀ a, cM R s a = none → (s.K a).1 = 0 := fun a h => Classical.byContradiction fun c => cM_some c (hA a c).2.2.1 h
  have y : ∀ a, cM R s a = none → R a = none := fun a h => by rw [cM_r (z a h)] at h; exact h
  refine ⟨⟨y m hD.1, fun k hk => y _ (hD.2 k hk)⟩, fun a ha => ?_⟩
  obtain ⟨a1, a2, a3, a4, -⟩ := hA a ha
  exact ⟨a1, a2, a3, a4, fun k hk e => ha (by rw [← e]; exact z _ (hD.2 k hk))⟩
/-- what the rest holds stands in the picture -/
theorem pic_R {a : Nat} (hD : moD R m q) (hA : aptC R base m q s) (h : R a ≠ none) : cM (moM R m q t) s a = R a := by
  have c : (s.K a).1 = 0 := Classical.byContradiction fun c => h (hA a c).2.1
  rw [cM_r c, moM_k hD h]
/-- the law's row is written -/
theorem pic_u {e : pmE} (hq : moQ base m q) (c0 : (s.K o).1 = 0) (n1 : o ≠ m) (n2 : ∀ k ∈ moAr, q k ≠ o) : pm_up (cM (moM R m q t) s) o e = cM (moM (pm_up R o e) m q t) s := by
  funext a
  by_cases c : a = o
  · subst c
    rw [pm_up_self, cM_r c0, moM_o n1 n2, pm_up_self]
  · rw [pm_up_ne _ _ c]
    unfold cM
    split
    · by_cases c1 : a = m
      · subst c1
        rw [moM_m, moM_m]
      · by_cases c2 : ∃ k, k ∈ moAr ∧ q k = a
        · obtain ⟨k, hk, rfl⟩ := c2
          rw [moM_q hq hk, moM_q hq hk]
        · have c2' : ∀ k ∈ moAr, q k ≠ a := fun k hk e => c2 ⟨k, hk, e⟩
          rw [moM_o c1 c2', moM_o c1 c2', pm_up_ne _ _ c]
    · rfl
theorem pic_up {e : pmE} (hq : moQ base m q) (hD : moD R m q) (hA : aptC R base m q s) (h : R o ≠ none) : pm_up (cM (moM R m q t) s) o e = cM (moM (pm_up R o e) m q t) s := pic_u hq (Classical.byContradiction fun c => h (hA o c).2.1) (fun z => h (by rw [z]; exact hD.1)) (fun k hk z => h (by rw [← z]; exact hD.2 k hk))
theorem picP.up {v : Int64} {i : Nat} (h : picP base sa b L xs m o R q s) : ∃ f : Nat → Int64, R o = some (.inl (.long, 1, .inr (.inl f))) ∧ picP base sa b L xs m o (pm_up R o (.inl (.long, 1, .inr (.inl (vp_updL f i v))))) q s := by
  obtain ⟨hq, hD, hA, hC, hb, ho, f, hf⟩ := h
  have ne : ∀ a, R a = none → a ≠ o := fun a h e => by rw [e, hf] at h; cases h
  have up : ∀ a, a ≠ o → pm_up R o (.inl (.long, 1, .inr (.inl (vp_updL f i v)))) a = R a := fun a h => pm_up_ne _ _ h
  refine ⟨f, hf, hq, ⟨by rw [up m (ne m hD.1)]; exact hD.1, fun k hk => by rw [up _ (ne _ (hD.2 k hk))]; exact hD.2 k hk⟩, fun a ha => ?_, ⟨fun k hk => ?_, ?_, ?_⟩, ?_, ho, _, pm_up_self _ _ _⟩
  · obtain ⟨a1, a2, a3⟩ := hA a ha
    exact ⟨a1, by rw [up a (ne a a2)]; exact a2, a3⟩
  · obtain ⟨v', h', z, g, b1, b2, b3⟩ := hC.1 k hk
    refine ⟨v', h', z, g, ?_, ?_, b3⟩
    · rw [up _ (fun e => by rw [e, hf] at b1; cases b1)]; exact b1
    · rw [up _ (fun e => by rw [e, hf] at b2; cases b2)]; exact b2
  · rw [up _ (fun e => by have := hC.2.1; rw [e, hf] at this; cases this)]; exact hC.2.1
  · rw [up _ (fun e => by have := hC.2.2; rw [e, hf] at this; cases this)]; exact hC.2.2
  · rw [up _ (fun e => by rw [e, hf] at hb; cases hb)]; exact hb
end Pi
