/-! Digests in the class: blocks. -/
/-- what a chain works with -/
def DWo (c W S V : Nat) (s0 : cS) : Prop := okO s0 1 c ∧ s0.P 28 c = some W ∧ s0.P 30 c = some S ∧ s0.P 31 c = some V ∧ s0.K W = (127, 792) ∧ s0.K S = (113, 5) ∧ s0.K V = (119, 80)
/-- only that is another -/
def DW (c W S V : Nat) (s0 s : cS) : Prop := DWo c W S V s0 ∧ (s.K = s0.K ∧ s.P = s0.P ∧ s.Q = s0.Q ∧ s.J = s0.J) ∧ (∀ g a, ¬ (g = 29 ∧ a = c) → s.I g a = s0.I g a) ∧ ∀ a, a ≠ W → a ≠ S → a ≠ V → s.E a = s0.E a
def cst (s : cS) (S : Nat) : q5 := (s.E S 0, s.E S 1, s.E S 2, s.E S 3, s.E S 4)
theorem k_sin : ∀ i, i < 64 → kSin.getD i 0 = M_constant (nI i) := by decide +kernel
theorem k_tur : ∀ i, i < 64 → (((nI i) >>> ((4 : Int32) &&& 31)) <<< ((2 : Int32) &&& 31)) ||| (nI i &&& (3 : Int32)) = nI (i / 16 * 4 + i % 4) ∧ kTur.getD (i / 16 * 4 + i % 4) 0 = M_turn (nI i) ∧ i / 16 * 4 + i % 4 < 16 := by decide +kernel
theorem c5_g1 : ∀ i, i < 16 → nI i &&& 15 = nI (m5G i) := by decide +kernel
theorem c5_g2 : ∀ i, i < 32 → 16 ≤ i → (5 * nI i + 1) &&& 15 = nI (m5G i) := by decide +kernel
theorem c5_g3 : ∀ i, i < 48 → 32 ≤ i → (3 * nI i + 5) &&& 15 = nI (m5G i) := by decide +kernel
theorem c5_g4 : ∀ i, i < 64 → 48 ≤ i → (7 * nI i) &&& 15 = nI (m5G i) := by decide +kernel
section Cd
variable {sa : Nat → Nat} {c W S V kc ks : Nat} {s0 s : cS} {Q : cS → Nat → Nat → Prop}
theorem DW.rf (h : DWo c W S V s0) : DW c W S V s0 s0 := ⟨h, ⟨rfl, rfl, rfl, rfl⟩, fun _ _ _ => rfl, fun _ _ _ _ => rfl⟩
theorem DW.o (h : DW c W S V s0 s) : DWo c W S V s := by
  obtain ⟨⟨a1, a2, a3, a4, a5, a6, a7⟩, ⟨b1, b2, -, -⟩, -⟩ := h
  unfold DWo okO at *
  rw [b1, b2]
  exact ⟨a1, a2, a3, a4, a5, a6, a7⟩
theorem DW.se {a i : Nat} {v : Int32} (h : DW c W S V s0 s) (ha : a = W ∨ a = S ∨ a = V) : DW c W S V s0 (cSE s a i v) := by
  obtain ⟨o, k, i1, e⟩ := h
  refine ⟨o, k, i1, fun b h1 h2 h3 => ?_⟩
  rw [cSE_a (by rcases ha with rfl | rfl | rfl <;> assumption)]
  exact e b h1 h2 h3
theorem DW.si {v : Int32} (h : DW c W S V s0 s) : DW c W S V s0 (cSI s 29 c v) := by
  obtain ⟨o, k, i1, e⟩ := h
  refine ⟨o, k, fun g a hg => ?_, e⟩
  rw [evI, if_neg hg]
  exact i1 g a hg
theorem DWo.ne (h : DWo c W S V s0) : W ≠ S ∧ W ≠ V ∧ S ≠ V := by
  obtain ⟨-, -, -, -, a5, a6, a7⟩ := h
  refine ⟨fun e => ?_, fun e => ?_, fun e => ?_⟩
  · rw [e, a6] at a5; exact absurd (congrArg Prod.fst a5) (by decide)
  · rw [e, a7] at a5; exact absurd (congrArg Prod.fst a5) (by decide)
  · rw [e, a7] at a6; exact absurd (congrArg Prod.fst a6) (by decide)
theorem DWo.aS (h : DWo c W S V s0) {i : Nat} (hi : i < 5) : okA s0 .int S (nI i) := by
  obtain ⟨-, -, -, -, -, a6, -⟩ := h
  exact ⟨by rw [a6]; decide, by rw [a6]; decide, by rw [a6]; decide, by rw [a6]; exact vp_in_nI hi (by decide)⟩
theorem DWo.aV (h : DWo c W S V s0) {i : Nat} (hi : i < 80) : okA s0 .int V (nI i) := by
  obtain ⟨-, -, -, -, -, -, a7⟩ := h
  exact ⟨by rw [a7]; decide, by rw [a7]; decide, by rw [a7]; decide, by rw [a7]; exact vp_in_nI hi (by decide)⟩
theorem DWo.aW (h : DWo c W S V s0) {i : Nat} (hi : i < 792) : okA s0 .byte W (nI i) := by
  obtain ⟨-, -, -, -, a5, -⟩ := h
  exact ⟨by rw [a5]; decide, by rw [a5]; decide, by rw [a5]; decide, by rw [a5]; exact vp_in_nI hi (by decide)⟩
/-- the state plus q -/
def addS (s : cS) (S : Nat) (q : q4) : cS := cSE (cSE (cSE (cSE s S 0 (s.E S 0 + q.1)) S 1 (s.E S 1 + q.2.1)) S 2 (s.E S 2 + q.2.2.1)) S 3 (s.E S 3 + q.2.2.2)
theorem c_m5 (h : DW c W S V s0 s) (k : ∀ s', DW c W S V s0 s' → cst s' S = m5B (s.E V) (cst s S) → s'.E W = s.E W → s'.I = s.I → Q s' kc ks) : C_Ch_md5Block sa c s kc ks Q := by
  have ho := h.o
  obtain ⟨n1, n2, n3⟩ := ho.ne
  have o1 := ho.1
  have p30 := ho.2.2.1
  have p31 := ho.2.2.2.1
  unfold C_Ch_md5Block
  refine ⟨_, gd_to o1, S, p30, _, gd_to (ho.aS (i := 0) (by decide)), _, gd_to o1, S, p30, _, gd_to (ho.aS (i := 1) (by decide)), _, gd_to o1, S, p30, _, gd_to (ho.aS (i := 2) (by decide)), _, gd_to o1, S, p30, _, gd_to (ho.aS (i := 3) (by decide)), ?_⟩
  unfold C_Ch_md5Block_b32
  intro P hP
  have step : ∀ i, i < 64 → ∀ a b c' d, P (m5S (s.E V) i (a, b, c', d)).1 (m5S (s.E V) i (a, b, c', d)).2.1 (m5S (s.E V) i (a, b, c', d)).2.2.1 (m5S (s.E V) i (a, b, c', d)).2.2.2 (nI (i + 1)) s kc ks → P a b c' d (nI i) s kc ks := by
    intro i hi a b c' d hh
    apply hP
    obtain ⟨t1, t2, t3⟩ := k_tur i hi
    have kg := m5G_lt i
    have common : ∀ f g : Int32, f = m5F i b c' d → g &&& 15 = nI (m5G i) → C_Ch_md5Block_b139 sa c a b c' d (nI i) f g s kc ks Q P := by
      intro f g hf hg
      unfold C_Ch_md5Block_b139
      refine ⟨_, gd_to (vp_in_nI (N := kSin.length) hi (by decide)), _, gd_to o1, V, p31, ?_⟩
      rw [hg]
      refine ⟨_, gd_to (ho.aV (by omega)), ?_⟩
      rw [t1]
      refine ⟨_, gd_to (vp_in_nI (N := kTur.length) t3 (by decide)), ?_⟩
      rw [nI_clamp (show i < 2 ^ 31 by omega), nI_clamp (show m5G i < 2 ^ 31 by omega), nI_clamp (show i / 16 * 4 + i % 4 < 2 ^ 31 by omega), k_sin i hi, t2, nI_1, hf]
      exact hh
    unfold C_Ch_md5Block_s32
    refine ifT (nI_lt (b := 64) hi (by decide)) ?_
    by_cases c1 : i < 16
    · exact ifT (nI_lt (b := 16) c1 (by decide)) (common _ _ (by unfold m5F; rw [if_pos c1]) (c5_g1 i c1))
    refine ifF (nI_nlt (b := 16) (by omega) (by omega)) ?_
    by_cases c2 : i < 32
    · exact ifT (nI_lt (b := 32) c2 (by decide)) (common _ _ (by unfold m5F; rw [if_neg c1, if_pos c2]) (c5_g2 i c2 (by omega)))
    refine ifF (nI_nlt (b := 32) (by omega) (by omega)) ?_
    by_cases c3 : i < 48
    · exact ifT (nI_lt (b := 48) c3 (by decide)) (common _ _ (by unfold m5F; rw [if_neg c1, if_neg c2, if_pos c3]) (c5_g3 i c3 (by omega)))
    · exact ifF (nI_nlt (b := 48) (by omega) (by omega)) (common _ _ (by unfold m5F; rw [if_neg c1, if_neg c2, if_neg c3]) (c5_g4 i hi (by omega)))
  have all : ∀ n i (q : q4), i + n = 64 → P (m5N (s.E V) n i q).1 (m5N (s.E V) n i q).2.1 (m5N (s.E V) n i q).2.2.1 (m5N (s.E V) n i q).2.2.2 (nI 64) s kc ks → P q.1 q.2.1 q.2.2.1 q.2.2.2 (nI i) s kc ks := by
    intro n
    induction n with
    | zero =>
      intro i q hi hh
      have : i = 64 := by omega
      rw [this]
      exact hh
    | succ n ih =>
      intro i q hi hh
      exact step i (by omega) _ _ _ _ (ih (i + 1) (m5S (s.E V) i q) (by omega) hh)
  refine all 64 0 (s.E S 0, s.E S 1, s.E S 2, s.E S 3) rfl ?_
  generalize hq : m5N (s.E V) 64 0 (s.E S 0, s.E S 1, s.E S 2, s.E S 3) = q
  apply hP
  unfold C_Ch_md5Block_s32
  refine ifF (by decide) ?_
  refine ⟨_, gd_to o1, S, p30, _, gd_to (ho.aS (i := 0) (by decide)), _, gd_to (ho.aS (i := 0) (by decide)), _, gd_to (o1.se), S, p30, _, gd_to (show okA (cSE s S _ _) .int S 1 from ho.aS (i := 1) (by decide)), _, gd_to (show okA (cSE s S _ _) .int S 1 from ho.aS (i := 1) (by decide)), _, gd_to (o1.se.se), S, p30, _, gd_to (show okA (cSE (cSE s S _ _) S _ _) .int S 2 from ho.aS (i := 2) (by decide)), _, gd_to (show okA (cSE (cSE s S _ _) S _ _) .int S 2 from ho.aS (i := 2) (by decide)), _, gd_to (o1.se.se.se), S, p30, _, gd_to (show okA (cSE (cSE (cSE s S _ _) S _ _) S _ _) .int S 3 from ho.aS (i := 3) (by decide)), _, gd_to (show okA (cSE (cSE (cSE s S _ _) S _ _) S _ _) .int S 3 from ho.aS (i := 3) (by decide)), ?_⟩
  have e1 : ∀ v, (cSE s S 0 v).E S 1 = s.E S 1 := fun v => cSE_i (by decide)
  have e2 : ∀ v v', (cSE (cSE s S 0 v) S 1 v').E S 2 = s.E S 2 := fun v v' => by rw [cSE_i (by decide), cSE_i (by decide)]
  have e3 : ∀ v v' v'', (cSE (cSE (cSE s S 0 v) S 1 v') S 2 v'').E S 3 = s.E S 3 := fun v v' v'' => by rw [cSE_i (by decide), cSE_i (by decide), cSE_i (by decide)]
  have kk := k (addS s S q) (((h.se (Or.inr (Or.inl rfl))).se (Or.inr (Or.inl rfl))).se (Or.inr (Or.inl rfl)) |>.se (Or.inr (Or.inl rfl))) (by
    unfold cst m5B addS
    rw [hq]
    refine Prod.ext ?_ (Prod.ext ?_ (Prod.ext ?_ (Prod.ext ?_ ?_)))
    · show (cSE _ S 3 _).E S 0 = _
      rw [cSE_i (by decide), cSE_i (by decide), cSE_i (by decide), cSE_v]
    · show (cSE _ S 3 _).E S 1 = _
      rw [cSE_i (by decide), cSE_i (by decide), cSE_v]
    · show (cSE _ S 3 _).E S 2 = _
      rw [cSE_i (by decide), cSE_v]
    · show (cSE _ S 3 _).E S 3 = _
      rw [cSE_v]
    · show (cSE _ S 3 _).E S 4 = _
      rw [cSE_i (by decide), cSE_i (by decide), cSE_i (by decide), cSE_i (by decide)]) (by
    unfold addS
    rw [cSE_a n1, cSE_a n1, cSE_a n1, cSE_a n1]) rfl
  unfold addS at kk
  rw [← e1 (s.E S 0 + q.1), ← e2 (s.E S 0 + q.1) ((cSE s S 0 (s.E S 0 + q.1)).E S 1 + q.2.1), ← e3 (s.E S 0 + q.1) ((cSE s S 0 (s.E S 0 + q.1)).E S 1 + q.2.1) ((cSE (cSE s S 0 (s.E S 0 + q.1)) S 1 ((cSE s S 0 (s.E S 0 + q.1)).E S 1 + q.2.1)).E S 2 + q.2.2.1)] at kk
  exact kk
end Cd
