/-! Numbers and addresses of four, read on both sides. -/
/-- only the numbers of x are others -/
def fp (x : Nat) (s s' : cS) : Prop := s'.K = s.K ∧ s'.P = s.P ∧ s'.E = s.E ∧ s'.Q = s.Q ∧ ∀ g a, a ≠ x → s'.I g a = s.I g a ∧ s'.J g a = s.J g a
section Fp
variable {x : Nat} {s s1 s2 : cS}
theorem fp.rf : fp x s s := ⟨rfl, rfl, rfl, rfl, fun _ _ _ => ⟨rfl, rfl⟩⟩
theorem fp.tr (h : fp x s s1) (g : fp x s1 s2) : fp x s s2 := by
  obtain ⟨a1, a2, a3, a4, a5⟩ := h
  obtain ⟨b1, b2, b3, b4, b5⟩ := g
  exact ⟨b1.trans a1, b2.trans a2, b3.trans a3, b4.trans a4, fun k a ha => ⟨((b5 k a ha).1).trans (a5 k a ha).1, ((b5 k a ha).2).trans (a5 k a ha).2⟩⟩
theorem fp.si {g : Nat} {v : Int32} : fp x s (cSI s g x v) := ⟨rfl, rfl, rfl, rfl, fun k a ha => ⟨by
  by_cases e : k = g
  · subst e; exact cSI_a ha
  · exact cSI_g e, rfl⟩⟩
theorem fp.sj {g : Nat} {v : Int64} : fp x s (cSJ s g x v) := ⟨rfl, rfl, rfl, rfl, fun k a ha => ⟨rfl, by
  by_cases e : k = g
  · subst e; exact cSJ_a ha
  · exact cSJ_g e⟩⟩
theorem fp.o (h : fp x s s1) {c a : Nat} (ha : okO s c a) : okO s1 c a := by unfold okO at ha ⊢; rw [h.1]; exact ha
theorem fp.b (h : fp x s s1) {b w cap : Nat} {l : List Int32} (hb : BL s b w l cap) (hne : b ≠ x) : BL s1 b w l cap := by
  obtain ⟨a1, a2, d, a3, a4, a5, a6⟩ := hb
  refine ⟨h.o a1, a2, d, by rw [h.2.1]; exact a3, by rw [h.1]; exact a4, by rw [(h.2.2.2.2 1 b hne).1]; exact a5, by rw [h.2.2.1]; exact a6⟩
end Fp
section Rd
variable {sa : Nat → Nat} {b w cap kc ks f t : Nat} {s : cS} {l : List Int32} {Q : Int32 → cS → Nat → Nat → Prop}
theorem BL.gv (hb : BL s b w l cap) {i : Nat} (hi : i < l.length) : l.getD i 0 = nI (vc l i) := by
  obtain ⟨-, -, d, -, -, -, -, -, -, h⟩ := hb
  rw [← (h i hi).2, pk_and _ 8 (by decide)]
  rfl
theorem BL.sm (hb : BL s b w l cap) : l.length ≤ 262144 := by
  obtain ⟨-, -, d, -, -, -, h1, -, h2, -⟩ := hb
  omega
/-- byte i -/
theorem w_at {i : Nat} (hb : BL s b w l cap) (hi : i < l.length) (k : Q (nI (vc l i)) s kc ks) : C_By_at sa b (nI i) s kc ks Q := by
  have e := hb.gv hi
  have hs := hb.sm
  obtain ⟨a1, a2, d, a3, a4, a5, a6, a7, a8, a9⟩ := hb
  unfold C_By_at
  refine ifF (nI_pos (by omega)) ⟨_, gd_to a1, ?_⟩
  show if nI i < s.I 1 b then _ else _
  rw [a5]
  refine ifT (nI_lt hi (by omega)) ⟨_, gd_to a1, d, a3, _, gd_to ⟨by rw [a4]; exact a2.1, by rw [a4]; exact a2.2.1, by rw [a4]; exact a2.2.2, by rw [a4]; exact vp_in_nI (by omega) (by omega)⟩, ?_⟩
  rw [nI_clamp (by omega), (a9 i hi).1]
  show Q (sb (l.getD i 0) &&& 255) s kc ks
  rw [sb_and, (a9 i hi).2, e]
  exact k
theorem w_plain (hb : BL s b w l cap) (ht : t ≤ l.length + 1) (hft : f + 1 ≤ t → t ≤ l.length) (hf : f ≤ l.length + 1) (k : Q (oI (plain (vc l) f t)) s kc ks) : C_Pr_plainNumber sa (some b) (nI f) (nI t) s kc ks Q := by
  have hs := hb.sm
  have hd : (nI t - nI f).toInt = (t : Int) - f := pk_sub_toInt (by omega) (by omega)
  have o1 : (1 : Int32).toInt = 1 := by decide
  have o3 : (3 : Int32).toInt = 3 := by decide
  have no : plain (vc l) f t = none → Q (-1) s kc ks := fun h => by rw [h] at k; exact k
  have ob := hb.1
  have loop : ∀ P : Int32 → Int32 → cS → Nat → Nat → Prop, (∀ a4 a5 s kc ks, C_Pr_plainNumber_s37 sa (some b) (nI t) a4 a5 s kc ks Q P → P a4 a5 s kc ks) → ∀ (q i a : Nat), t ≤ l.length → i + q = t → q ≤ 3 → a < 10 ^ (3 - q) → dgs (vc l) q i a = plain (vc l) f t → P (nI a) (nI i) s kc ks := by
    intro P hP q
    induction q with
    | zero =>
      intro i a htl hi _ ha hp
      have hp : some a = plain (vc l) f t := hp
      rw [← hp] at k
      apply hP
      unfold C_Pr_plainNumber_s37
      exact ifF (nI_nlt (by omega) (by omega)) k
    | succ q ih =>
      intro i a htl hi hq ha hp
      have e3 : 10 ^ (3 - q) = 10 * 10 ^ (3 - (q + 1)) := by rw [show 3 - q = (3 - (q + 1)) + 1 by omega, Nat.pow_succ, Nat.mul_comm]
      have hp : (if 48 ≤ vc l i ∧ vc l i ≤ 57 then dgs (vc l) q (i + 1) (10 * a + (vc l i - 48)) else none) = plain (vc l) f t := hp
      have hvl := vc_lt l i
      apply hP
      unfold C_Pr_plainNumber_s37
      refine ifT (nI_lt (by omega) (by omega)) ⟨_, rfl, ob, w_at hb (by omega) ?_⟩
      by_cases c1 : vc l i < 48
      · rw [if_neg (by omega)] at hp
        exact ifT (pk_sneg (b := 48) (by decide) c1) (no hp.symm)
      rw [show nI (vc l i) - 48 = nI (vc l i - 48) from pk_sub (b := 48) (by omega)]
      refine ifF (nI_pos (by omega)) ?_
      by_cases c2 : 57 < vc l i
      · rw [if_neg (by omega)] at hp
        exact ifT (nI_lt (a := 9) (by omega) (by omega)) (no hp.symm)
      · rw [if_pos (by omega)] at hp
        refine ifF (nI_nlt (a := 9) (by omega) (by omega)) ?_
        rw [show nI a * 10 = nI (10 * a) by rw [Nat.mul_comm]; exact pk_mul a 10, nI_add, nI_1]
        exact ih (i + 1) _ htl (by omega) (by omega) (by omega) hp
  have b31 : f + 1 ≤ t → t ≤ f + 3 → ¬ (f + 1 < t ∧ vc l f = 48) → C_Pr_plainNumber_b31 sa (some b) (nI f) (nI t) s kc ks Q := by
    intro c1 c2 c3
    unfold C_Pr_plainNumber_b31 C_Pr_plainNumber_b37
    intro P hP
    refine loop P hP (t - f) f 0 (hft c1) (by omega) (by omega) (Nat.pow_pos (by decide)) ?_
    unfold plain
    rw [if_pos ⟨c1, c2, c3⟩]
  unfold C_Pr_plainNumber
  by_cases c : nI t - nI f < 1
  · refine ifT c (no (if_neg ?_))
    rw [Int32.lt_iff_toInt_lt, hd, o1] at c
    omega
  refine ifF c ?_
  rw [Int32.lt_iff_toInt_lt, hd, o1] at c
  by_cases c2 : 3 < nI t - nI f
  · refine ifT c2 (no (if_neg ?_))
    rw [Int32.lt_iff_toInt_lt, hd, o3] at c2
    omega
  refine ifF c2 ?_
  rw [Int32.lt_iff_toInt_lt, hd, o3] at c2
  by_cases c3 : 1 < nI t - nI f
  · refine ifT c3 ⟨_, rfl, ob, ?_⟩
    rw [Int32.lt_iff_toInt_lt, hd, o1] at c3
    have hfl : f < l.length := by have := hft (by omega); omega
    refine w_at hb hfl ?_
    have hvl := vc_lt l f
    by_cases c4 : vc l f = 48
    · refine ifT (by rw [c4]; rfl) (no (if_neg ?_))
      omega
    · exact ifF (fun h => c4 ((nI_eq (b := 48) (by omega) (by omega)).mp h)) (b31 (by omega) (by omega) (by omega))
  · refine ifF c3 ?_
    rw [Int32.lt_iff_toInt_lt, hd, o1] at c3
    exact b31 (by omega) (by omega) (by omega)
theorem w_four {x : Nat} (hb : BL s b w l cap) (hx : okO s 5 x) (ht : t ≤ l.length) (hf : f ≤ t + 1) (k0 : four (vc l) t 4 f 0 = none → Q 0 s kc ks) (k1 : ∀ v, four (vc l) t 4 f 0 = some v → ∀ s', fp x s s' → PF s' x 4 (v <<< ((32 : Int32).toInt64 &&& 63)) 0 32 → Q 1 s' kc ks) : C_Pr_parseFour sa x (some b) (nI f) (nI t) s kc ks Q := by
  have hs := hb.sm
  have ob := hb.1
  unfold C_Pr_parseFour C_Pr_parseFour_b9
  intro P9 hP9
  have loop : ∀ (r i at_ : Nat) (a : Int64), i + r = 4 → at_ ≤ t + 1 → four (vc l) t r at_ a = four (vc l) t 4 f 0 → P9 a (nI at_) (nI i) s kc ks := by
    intro r
    induction r with
    | zero =>
      intro i at_ a hi hat hp
      have hi4 : i = 4 := by omega
      subst hi4
      have hp : some a = four (vc l) t 4 f 0 := hp
      apply hP9
      unfold C_Pr_parseFour_s9
      refine ifF (by decide) ⟨hx, w_setZero hx ⟨_, gd_to hx, ?_⟩⟩
      have f1 : fp x s (cSpf s x 4 0 0 32) := ((fp.si.tr fp.sj).tr fp.sj).tr fp.si
      refine k1 a hp.symm _ (f1.tr fp.sj) ⟨?_, ?_, ?_, ?_⟩
      · show (cSpf s x 4 0 0 32).I 100 x = 4
        unfold cSpf
        rw [cSI_g (by decide)]
        show (cSI s 100 x 4).I 100 x = 4
        exact cSI_s
      · exact cSJ_s
      · rw [cSJ_g (by decide)]
        show (cSJ (cSJ (cSI s 100 x 4) 101 x 0) 102 x 0).J 102 x = 0
        exact cSJ_s
      · show (cSpf s x 4 0 0 32).I 103 x = 32
        exact cSI_s
    | succ r ih =>
      intro i at_ a hi hat hp
      have hE := fnd_le (vc l) 46 (t - at_) at_
      generalize hEe : fnd (vc l) 46 (t - at_) at_ = E at hE
      have hp : (match plain (vc l) at_ (fnd (vc l) 46 (t - at_) at_) with
        | some n => if n ≤ 255 ∧ (r = 0 ↔ fnd (vc l) 46 (t - at_) at_ = t) then four (vc l) t r (fnd (vc l) 46 (t - at_) at_ + 1) (sh8 a n) else none
        | none => none) = four (vc l) t 4 f 0 := hp
      rw [hEe] at hp
      have h42 : C_Pr_parseFour_b42 sa x (some b) (nI t) a (nI at_) (nI i) (nI E) s kc ks Q P9 := by
        unfold C_Pr_parseFour_b42
        refine w_plain hb (by omega) (by omega) (by omega) ?_
        cases hn : plain (vc l) at_ E with
        | none =>
          rw [hn] at hp
          exact ifT (show (-1 : Int32) < 0 by decide) (k0 hp.symm)
        | some n =>
          rw [hn] at hp
          have hp : (if n ≤ 255 ∧ (r = 0 ↔ E = t) then four (vc l) t r (E + 1) (sh8 a n) else none) = four (vc l) t 4 f 0 := hp
          have hn1 := plain_lt hn
          have hn2 := plain_ge hn
          show if nI n < 0 then _ else _
          refine ifF (nI_pos (by omega)) ?_
          by_cases c : 255 < n
          · rw [if_neg (by omega)] at hp
            exact ifT (nI_lt (a := 255) c (by omega)) (k0 hp.symm)
          refine ifF (nI_nlt (a := 255) (by omega) (by omega)) ?_
          have h91 : (r = 0 ↔ E = t) → C_Pr_parseFour_b91 sa x (some b) (nI t) a (nI i) (nI E) (nI n) s kc ks Q P9 := by
            intro hc
            rw [if_pos ⟨by omega, hc⟩] at hp
            unfold C_Pr_parseFour_b91
            rw [nI_1, nI_1]
            exact ih (i + 1) (E + 1) (sh8 a n) (by omega) (by omega) hp
          have h77 : (r ≠ 0 → E ≠ t) → C_Pr_parseFour_b77 sa x (some b) (nI t) a (nI i) (nI E) (nI n) s kc ks Q P9 := by
            intro hc
            unfold C_Pr_parseFour_b77
            by_cases c3 : i = 3
            · refine ifT (by rw [c3]; rfl) ?_
              by_cases c4 : E < t
              · rw [if_neg (fun h => by have := h.2.mp (by omega); omega)] at hp
                exact ifT (nI_lt c4 (by omega)) (k0 hp.symm)
              · exact ifF (nI_nlt (by omega) (by omega)) (h91 ⟨fun _ => by omega, fun _ => by omega⟩)
            · exact ifF (fun h => c3 ((nI_eq (b := 3) (by omega) (by omega)).mp h)) (h91 ⟨fun h => by omega, fun h => absurd h (hc (by omega))⟩)
          by_cases c2 : i < 3
          · refine ifT (nI_lt (b := 3) c2 (by omega)) ?_
            by_cases c4 : E = t
            · rw [if_neg (fun h => by have := h.2.mpr c4; omega)] at hp
              exact ifT (by rw [c4]) (k0 hp.symm)
            · exact ifF (fun h => c4 ((nI_eq (by omega) (by omega)).mp h)) (h77 (fun _ => c4))
          · exact ifF (nI_nlt (b := 3) (by omega) (by omega)) (h77 (fun h => by omega))
      apply hP9
      unfold C_Pr_parseFour_s9
      refine ifT (nI_lt (b := 4) (by omega) (by omega)) ?_
      unfold C_Pr_parseFour_b19
      intro P19 hP19
      have inner : ∀ (q e : Nat), (e + q = t ∨ (q = 0 ∧ t ≤ e)) → fnd (vc l) 46 q e = E → e ≤ t + 1 → P19 (nI e) s kc ks := by
        intro q
        induction q with
        | zero =>
          intro e he hfe hle
          have hfe : e = E := hfe
          apply hP19
          unfold C_Pr_parseFour_s19
          refine ifF (nI_nlt (by omega) (by omega)) ?_
          rw [hfe]
          exact h42
        | succ q ihq =>
          intro e he hfe hle
          have hfe : (if vc l e = 46 then e else fnd (vc l) 46 q (e + 1)) = E := hfe
          have hvl := vc_lt l e
          apply hP19
          unfold C_Pr_parseFour_s19
          refine ifT (nI_lt (by omega) (by omega)) ⟨_, rfl, ob, w_at hb (by omega) ?_⟩
          by_cases c : vc l e = 46
          · rw [if_pos c] at hfe
            refine ifT (by rw [c]; rfl) ?_
            rw [hfe]; exact h42
          · rw [if_neg c] at hfe
            refine ifF (fun h => c ((nI_eq (b := 46) (by omega) (by omega)).mp h)) ?_
            rw [nI_1]
            exact ihq (e + 1) (by omega) hfe (by omega)
      exact inner (t - at_) at_ (by omega) hEe hat
  exact loop 4 0 f 0 rfl hf rfl
end Rd
