/-! New objects as values: what the class makes is a list of addresses and of what stands there. -/
/-- what stands at an address -/
abbrev Ov : Type := (Nat × Nat) × (Nat → Int32) × (Nat → Int64) × (Nat → Option Nat) × (Nat → Int32) × (Nat → Option Nat)
def ov (s : cS) (a : Nat) : Ov := (s.K a, fun g => s.I g a, fun g => s.J g a, fun g => s.P g a, s.E a, s.Q a)
def ov0 (u : Nat × Nat) : Ov := (u, fun _ => 0, fun _ => 0, fun _ => none, fun _ => 0, fun _ => none)
def ovI (v : Ov) (g : Nat) (i : Int32) : Ov := (v.1, fun k => if k = g then i else v.2.1 k, v.2.2)
def ovP (v : Ov) (g : Nat) (p : Option Nat) : Ov := (v.1, v.2.1, v.2.2.1, fun k => if k = g then p else v.2.2.2.1 k, v.2.2.2.2)
def ovE (v : Ov) (i : Nat) (y : Int32) : Ov := (v.1, v.2.1, v.2.2.1, v.2.2.2.1, fun k => if k = i then y else v.2.2.2.2.1 k, v.2.2.2.2.2)
def ovQ (v : Ov) (i : Nat) (p : Option Nat) : Ov := (v.1, v.2.1, v.2.2.1, v.2.2.2.1, v.2.2.2.2.1, fun k => if k = i then p else v.2.2.2.2.2 k)
/-- no address twice -/
def ndp : List (Nat × Ov) → Prop
  | [] => True
  | p :: L => (∀ p', p' ∈ L → p'.1 ≠ p.1) ∧ ndp L
/-- since s0 the objects of L are new, and nothing else is another -/
def HP (sa : Nat → Nat) (s0 : cS) (L : List (Nat × Ov)) (s : cS) : Prop := (∀ a, (∀ p, p ∈ L → p.1 ≠ a) → ov s a = ov s0 a) ∧ (∀ p, p ∈ L → ov s p.1 = p.2 ∧ cFr sa s0 p.1 ∧ p.2.1.1 ≠ 0) ∧ ndp L
section Hp
variable {sa : Nat → Nat} {s0 s s' : cS} {a : Nat} {v w : Ov} {L L1 L2 : List (Nat × Ov)}
theorem ndp_up : ∀ {L1 : List (Nat × Ov)}, ndp (L1 ++ (a, v) :: L2) → ndp (L1 ++ (a, w) :: L2) ∧ (∀ p, p ∈ L1 → p.1 ≠ a) ∧ ∀ p, p ∈ L2 → p.1 ≠ a
  | [], h => ⟨⟨h.1, h.2⟩, fun p hp => absurd hp (by simp), h.1⟩
  | q :: L1, h => by
    obtain ⟨h1, h2⟩ : (∀ p', p' ∈ L1 ++ (a, v) :: L2 → p'.1 ≠ q.1) ∧ ndp (L1 ++ (a, v) :: L2) := h
    obtain ⟨i1, i2, i3⟩ := ndp_up h2
    have hqa : q.1 ≠ a := fun e => h1 (a, v) (by simp) e.symm
    refine ⟨⟨fun p' hp' => ?_, i1⟩, fun p hp => ?_, i3⟩
    · rcases List.mem_append.mp hp' with z | z
      · exact h1 p' (List.mem_append.mpr (Or.inl z))
      · rcases List.mem_cons.mp z with z | z
        · rw [z]; exact fun e => hqa e.symm
        · exact h1 p' (List.mem_append.mpr (Or.inr (List.mem_cons.mpr (Or.inr z))))
    · rcases List.mem_cons.mp hp with z | z
      · rw [z]; exact hqa
      · exact i2 p z
theorem hp_up (h : HP sa s0 (L1 ++ (a, v) :: L2) s) (e : ∀ b, b ≠ a → ov s' b = ov s b) (hv : ov s' a = w) (hw : w.1.1 ≠ 0) : HP sa s0 (L1 ++ (a, w) :: L2) s' := by
  obtain ⟨h1, h2, h3⟩ := h
  obtain ⟨i1, i2, i3⟩ := ndp_up (w := w) h3
  refine ⟨fun b hb => ?_, fun p hp => ?_, i1⟩
  · have hba : b ≠ a := fun z => hb (a, w) (by simp) z.symm
    rw [e b hba]
    refine h1 b fun p hp => ?_
    rcases List.mem_append.mp hp with z | z
    · exact hb p (List.mem_append.mpr (Or.inl z))
    · rcases List.mem_cons.mp z with z | z
      · rw [z]; exact fun e => hba e.symm
      · exact hb p (List.mem_append.mpr (Or.inr (List.mem_cons.mpr (Or.inr z))))
  · rcases List.mem_append.mp hp with z | z
    · rw [e _ (i2 p z)]; exact h2 p (List.mem_append.mpr (Or.inl z))
    · rcases List.mem_cons.mp z with z | z
      · have := h2 (a, v) (by simp)
        rw [z]
        exact ⟨hv, this.2.1, hw⟩
      · rw [e _ (i3 p z)]; exact h2 p (List.mem_append.mpr (Or.inr (List.mem_cons.mpr (Or.inr z))))
theorem hp_at (h : HP sa s0 (L1 ++ (a, v) :: L2) s) : ov s a = v ∧ cFr sa s0 a ∧ v.1.1 ≠ 0 := h.2.1 (a, v) (by simp)
theorem ov_K (h : ov s a = v) : s.K a = v.1 := by rw [← h]; rfl
theorem ov_I (h : ov s a = v) (g : Nat) : s.I g a = v.2.1 g := by rw [← h]; rfl
theorem ov_P (h : ov s a = v) (g : Nat) : s.P g a = v.2.2.2.1 g := by rw [← h]; rfl
theorem ov_E (h : ov s a = v) : s.E a = v.2.2.2.2.1 := by rw [← h]; rfl
theorem ov_Q (h : ov s a = v) : s.Q a = v.2.2.2.2.2 := by rw [← h]; rfl
theorem ov_eq (h1 : s'.K a = s.K a) (h2 : ∀ g, s'.I g a = s.I g a) (h3 : ∀ g, s'.J g a = s.J g a) (h4 : ∀ g, s'.P g a = s.P g a) (h5 : s'.E a = s.E a) (h6 : s'.Q a = s.Q a) : ov s' a = ov s a := by
  unfold ov
  rw [h1, h5, h6, funext h2, funext h3, funext h4]
/-- what is fresh now was fresh, and is none of the new ones -/
theorem hp_fresh (h : HP sa s0 L s) (ha : cFr sa s a) : cFr sa s0 a ∧ ∀ p, p ∈ L → p.1 ≠ a := by
  have hn : ∀ p, p ∈ L → p.1 ≠ a := fun p hp e => by
    obtain ⟨x1, -, x3⟩ := h.2.1 p hp
    have := ha.1
    rw [← e, ov_K x1] at this
    exact x3 this
  refine ⟨⟨?_, ha.2⟩, hn⟩
  have e : s.K a = s0.K a := ov_K (h.1 a hn)
  rw [← e]
  exact ha.1
theorem hp_nw (h : HP sa s0 L s) {u : Nat × Nat} (ha : cFr sa s a) (hu : u.1 ≠ 0) : HP sa s0 ((a, ov0 u) :: L) (cNw s a u) := by
  obtain ⟨f1, f2⟩ := hp_fresh h ha
  have ex : ∀ b, b ≠ a → ov (cNw s a u) b = ov s b := fun b hb => ov_eq (cNw_kn hb) (fun _ => cNw_in hb) (fun _ => cNw_jn hb) (fun _ => cNw_pn hb) (cNw_en hb) (cNw_qn hb)
  refine ⟨fun b hb => ?_, fun p hp => ?_, ⟨f2, h.2.2⟩⟩
  · rw [ex b (fun e => hb (a, ov0 u) (by simp) e.symm)]
    exact h.1 b fun p hp => hb p (List.mem_cons.mpr (Or.inr hp))
  · rcases List.mem_cons.mp hp with z | z
    · rw [z]
      refine ⟨?_, f1, hu⟩
      show ((if a = a then u else s.K a), (fun g => if a = a then 0 else s.I g a), (fun g => if a = a then (0 : Int64) else s.J g a), (fun g => if a = a then none else s.P g a), (if a = a then (fun _ => 0) else s.E a), (if a = a then (fun _ => none) else s.Q a)) = ov0 u
      simp only [if_true]
      rfl
    · rw [ex _ (f2 p z)]
      exact h.2.1 p z
theorem hp_rf : HP sa s [] s := ⟨fun _ _ => rfl, fun p hp => absurd hp (by simp), trivial⟩
theorem hp_ex (h : HP sa s0 L s) : exA (L.map Prod.fst) s0 s := fun a ha => by
  have := h.1 a (fun p hp e => ha (List.mem_map.mpr ⟨p, hp, e⟩))
  unfold ov at this
  simp only [Prod.mk.injEq] at this
  obtain ⟨x1, x2, x3, x4, x5, x6⟩ := this
  exact ⟨x1, fun g => congrFun x2 g, fun g => congrFun x3 g, fun g => congrFun x4 g, x5, x6⟩
/-! The steps of a constructor. -/
theorem hp_o (h : HP sa s0 (L1 ++ (a, v) :: L2) s) {c : Nat} (hc : 1 ≤ v.1.1 ∧ v.1.1 < 100 ∧ cKn v.1.1 = c) : okO s c a := by
  unfold okO
  rw [ov_K (hp_at h).1]
  exact hc
theorem hp_si (h : HP sa s0 (L1 ++ (a, v) :: L2) s) {g : Nat} {i : Int32} : HP sa s0 (L1 ++ (a, ovI v g i) :: L2) (cSI s g a i) := by
  refine hp_up h (fun b hb => ov_eq rfl (fun _ => cSI_o hb) (fun _ => rfl) (fun _ => rfl) rfl rfl) ?_ (hp_at h).2.2
  have := (hp_at h).1
  rw [← this]
  refine Prod.ext rfl (Prod.ext (funext fun k => ?_) rfl)
  show (cSI s g a i).I k a = if k = g then i else s.I k a
  rw [evI]
  by_cases c : k = g
  · rw [if_pos ⟨c, rfl⟩, if_pos c]
  · rw [if_neg (fun z => c z.1), if_neg c]
theorem hp_sp (h : HP sa s0 (L1 ++ (a, v) :: L2) s) {g : Nat} {r : Option Nat} : HP sa s0 (L1 ++ (a, ovP v g r) :: L2) (cSP s g a r) := by
  refine hp_up h (fun b hb => ov_eq rfl (fun _ => rfl) (fun _ => rfl) (fun _ => cSP_o hb) rfl rfl) ?_ (hp_at h).2.2
  have := (hp_at h).1
  rw [← this]
  refine Prod.ext rfl (Prod.ext rfl (Prod.ext rfl (Prod.ext (funext fun k => ?_) rfl)))
  show (cSP s g a r).P k a = if k = g then r else s.P k a
  rw [evP]
  by_cases c : k = g
  · rw [if_pos ⟨c, rfl⟩, if_pos c]
  · rw [if_neg (fun z => c z.1), if_neg c]
theorem hp_se (h : HP sa s0 (L1 ++ (a, v) :: L2) s) {i : Nat} {y : Int32} : HP sa s0 (L1 ++ (a, ovE v i y) :: L2) (cSE s a i y) := by
  refine hp_up h (fun b hb => ov_eq rfl (fun _ => rfl) (fun _ => rfl) (fun _ => rfl) (cSE_a hb) rfl) ?_ (hp_at h).2.2
  have := (hp_at h).1
  rw [← this]
  refine Prod.ext rfl (Prod.ext rfl (Prod.ext rfl (Prod.ext rfl (Prod.ext (funext fun k => ?_) rfl))))
  show (cSE s a i y).E a k = if k = i then y else s.E a k
  by_cases c : k = i
  · rw [if_pos c, c]; exact cSE_v
  · rw [if_neg c]; exact cSE_i c
theorem hp_sq (h : HP sa s0 (L1 ++ (a, v) :: L2) s) {i : Nat} {r : Option Nat} : HP sa s0 (L1 ++ (a, ovQ v i r) :: L2) (cSQ s a i r) := by
  refine hp_up h (fun b hb => ov_eq rfl (fun _ => rfl) (fun _ => rfl) (fun _ => rfl) rfl (cSQ_a hb)) ?_ (hp_at h).2.2
  have := (hp_at h).1
  rw [← this]
  refine Prod.ext rfl (Prod.ext rfl (Prod.ext rfl (Prod.ext rfl (Prod.ext rfl (funext fun k => ?_)))))
  show (cSQ s a i r).Q a k = if k = i then r else s.Q a k
  rw [cSQ_s]; rfl
theorem hq_pI {c k : Nat} {i : Int32} {f : cS → Prop} (h : HP sa s0 (L1 ++ (a, v) :: L2) s) (kk : ∀ s', HP sa s0 (L1 ++ (a, ovI v (20 * c + k) i) :: L2) s' → f s') (hc : 1 ≤ v.1.1 ∧ v.1.1 < 100 ∧ cKn v.1.1 = c := by decide) : ob (pI s c k a i) f := ⟨_, gd_to (hp_o h hc), kk _ (hp_si h)⟩
theorem hq_pZ {c k : Nat} {i : Int32} {f : cS → Prop} (h : HP sa s0 (L1 ++ (a, v) :: L2) s) (kk : ∀ s', HP sa s0 (L1 ++ (a, ovI v (20 * c + k) i) :: L2) s' → f s') (hi : i = 0 ∨ i = 1 := by decide) (hc : 1 ≤ v.1.1 ∧ v.1.1 < 100 ∧ cKn v.1.1 = c := by decide) : ob (pZ s c k a i) f := ⟨_, gd_to ⟨hp_o h hc, hi⟩, kk _ (hp_si h)⟩
theorem hq_pP {c k : Nat} {r : Option Nat} {f : cS → Prop} (h : HP sa s0 (L1 ++ (a, v) :: L2) s) (kk : ∀ s', HP sa s0 (L1 ++ (a, ovP v (20 * c + k) r) :: L2) s' → f s') (hc : 1 ≤ v.1.1 ∧ v.1.1 < 100 ∧ cKn v.1.1 = c := by decide) : ob (pP s c k a r) f := ⟨_, gd_to (hp_o h hc), kk _ (hp_sp h)⟩
theorem hq_nwO {kc ks c n u : Nat} {f : Nat → cS → Nat → Nat → Prop} (h : HP sa s0 L s) (hkc : 1 ≤ kc) (hks : n ≤ ks) (kk : ∀ b s', HP sa s0 ((b, ov0 (u, 0)) :: L) s' → f b s' (kc - 1) (ks - n)) (hu : 1 ≤ u ∧ u < 100 ∧ cKn u = c := by decide) : nwO sa s kc ks c n f := ⟨hkc, hks, u, hu, fun b hb => kk b _ (hp_nw h hb (by show u ≠ 0; omega))⟩
theorem hq_nwA {kc ks n u : Nat} {ty : FieldType} {f : Nat → cS → Nat → Nat → Prop} (h : HP sa s0 L s) (hn : n ≤ 4000000) (hkc : 1 ≤ kc) (hks : n ≤ ks) (kk : ∀ b s', HP sa s0 ((b, ov0 (u, n)) :: L) s' → f b s' (kc - 1) (ks - n)) (hu : 100 ≤ u ∧ u < 130 ∧ cAT u = ty := by decide) : nwA sa s kc ks ty (nI n) f := ⟨n, rfl, hn, hkc, hks, u, hu, fun b hb => kk b _ (hp_nw h hb (by show u ≠ 0; omega))⟩
theorem hq_nwQ {kc ks n u : Nat} {C : String} {f : Nat → cS → Nat → Nat → Prop} (h : HP sa s0 L s) (hn : n ≤ 4000000) (hkc : 1 ≤ kc) (hks : n ≤ ks) (kk : ∀ b s', HP sa s0 ((b, ov0 (u, n)) :: L) s' → f b s' (kc - 1) (ks - n)) (hu : 130 ≤ u ∧ u < 146 ∧ cAT u = .object C := by decide) : nwQ sa s kc ks C (nI n) f := ⟨n, rfl, hn, hkc, hks, u, hu, fun b hb => kk b _ (hp_nw h hb (by show u ≠ 0; omega))⟩
theorem hq_wE {i n : Nat} {y : Int32} {f : cS → Prop} (h : HP sa s0 (L1 ++ (a, v) :: L2) s) (hi : i < n) (hn : n < 2 ^ 31) (he : v.1.2 = n) (kk : ∀ s', HP sa s0 (L1 ++ (a, ovE v i y) :: L2) s' → f s') (hu : 100 ≤ v.1.1 ∧ v.1.1 < 130 ∧ cAT v.1.1 = .int := by decide) : ob (wEi s a (nI i) y) f := by
  have hK := ov_K (hp_at h).1
  refine ⟨_, gd_to ⟨by rw [hK]; exact hu.1, by rw [hK]; exact hu.2.1, by rw [hK]; exact hu.2.2, by rw [hK, he]; exact vp_in_nI hi hn⟩, ?_⟩
  rw [nI_clamp (by omega)]
  exact kk _ (hp_se h)
theorem hq_wQ {i n b c : Nat} {f : cS → Prop} (h : HP sa s0 (L1 ++ (a, v) :: L2) s) (ho : okO s c b) (hi : i < n) (hn : n < 2 ^ 31) (he : v.1.2 = n) (kk : ∀ s', HP sa s0 (L1 ++ (a, ovQ v i (some b)) :: L2) s' → f s') (hu : 130 ≤ v.1.1 ∧ v.1.1 < 146 ∧ cAk v.1.1 < 99 ∧ cAk v.1.1 = c := by decide) : ob (wQ s a (nI i) (some b)) f := by
  have hK := ov_K (hp_at h).1
  refine ⟨_, gd_to ⟨⟨by rw [hK]; exact hu.1, by rw [hK]; exact hu.2.1, by rw [hK, he]; exact vp_in_nI hi hn⟩, by rw [hK]; exact hu.2.2.1, fun b' hb' => by cases hb'; rw [hK, hu.2.2.2]; exact ho⟩, ?_⟩
  rw [nI_clamp (by omega)]
  exact kk _ (hp_sq h)
theorem hq_gP {c k : Nat} {f : Option Nat → Prop} (h : HP sa s0 (L1 ++ (a, v) :: L2) s) (kk : f (v.2.2.2.1 (20 * c + k))) (hc : 1 ≤ v.1.1 ∧ v.1.1 < 100 ∧ cKn v.1.1 = c := by decide) : ob (gP s c k a) f := ⟨_, gd_to (hp_o h hc), by rw [ov_P (hp_at h).1]; exact kk⟩
end Hp
