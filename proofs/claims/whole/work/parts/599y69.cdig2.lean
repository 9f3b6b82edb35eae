/-! Digests in the class: sha's block, and all blocks. -/
section Ce
variable {sa : Nat → Nat} {c W S V kc ks : Nat} {s0 s : cS} {Q : cS → Nat → Nat → Prop} {B : Nat → Int32}
theorem sh_mix (i : Nat) (a b c d e x : Int32) : (((((a <<< ((5 : Int32) &&& 31)) ||| (ush_I a (27 : Int32))) + (shaF i b c d + shaK i)) + e) + x) = ((((M_turned a 5 + shaF i b c d) + e) + shaK i) + x) := by
  rw [show M_turned a 5 = ((a <<< ((5 : Int32) &&& 31)) ||| (ush_I a (27 : Int32))) from rfl]
  generalize ((a <<< ((5 : Int32) &&& 31)) ||| (ush_I a (27 : Int32))) = y
  generalize shaF i b c d = f
  generalize shaK i = k
  rw [← Int32.add_assoc, Int32.add_assoc (y + f) k e, Int32.add_comm k e, ← Int32.add_assoc]
theorem c_sh (h : DW c W S V s0 s) (k : ∀ s', DW c W S V s0 s' → cst s' S = shB (s.E V) (cst s S) → s'.E W = s.E W → s'.I = s.I → Q s' kc ks) : C_Ch_shaBlock sa c s kc ks Q := by
  have ho := h.o
  obtain ⟨n1, n2, n3⟩ := ho.ne
  have o1 := ho.1
  have p30 := ho.2.2.1
  have p31 := ho.2.2.2.1
  unfold C_Ch_shaBlock
  refine ⟨_, gd_to o1, S, p30, _, gd_to (ho.aS (i := 0) (by decide)), _, gd_to o1, S, p30, _, gd_to (ho.aS (i := 1) (by decide)), _, gd_to o1, S, p30, _, gd_to (ho.aS (i := 2) (by decide)), _, gd_to o1, S, p30, _, gd_to (ho.aS (i := 3) (by decide)), _, gd_to o1, S, p30, _, gd_to (ho.aS (i := 4) (by decide)), ?_⟩
  unfold C_Ch_shaBlock_b40
  intro P hP
  have step : ∀ i, i < 80 → ∀ a b c' d e, P (shS (s.E V) i (a, b, c', d, e)).1 (shS (s.E V) i (a, b, c', d, e)).2.1 (shS (s.E V) i (a, b, c', d, e)).2.2.1 (shS (s.E V) i (a, b, c', d, e)).2.2.2.1 (shS (s.E V) i (a, b, c', d, e)).2.2.2.2 (nI (i + 1)) s kc ks → P a b c' d e (nI i) s kc ks := by
    intro i hi a b c' d e hh
    apply hP
    have common : ∀ m : Int32, m = shaF i b c' d + shaK i → C_Ch_shaBlock_b132 sa c a b c' d e (nI i) m s kc ks Q P := by
      intro m hm
      unfold C_Ch_shaBlock_b132
      refine ⟨_, gd_to o1, V, p31, _, gd_to (ho.aV hi), ?_⟩
      rw [nI_clamp (show i < 2 ^ 31 by omega), hm, nI_1]
      show P (_ + (shaF i b c' d + shaK i) + e + s.E V i) _ _ _ _ _ _ _ _
      rw [sh_mix]
      exact hh
    unfold C_Ch_shaBlock_s40
    refine ifT (nI_lt (b := 80) hi (by decide)) ?_
    by_cases c1 : i < 20
    · exact ifT (nI_lt (b := 20) c1 (by decide)) (common _ (by unfold shaF shaK; rw [if_pos c1, if_pos c1]))
    refine ifF (nI_nlt (b := 20) (by omega) (by omega)) ?_
    by_cases c2 : i < 40
    · exact ifT (nI_lt (b := 40) c2 (by decide)) (common _ (by unfold shaF shaK; rw [if_neg c1, if_pos c2, if_neg c1, if_pos c2]))
    refine ifF (nI_nlt (b := 40) (by omega) (by omega)) ?_
    by_cases c3 : i < 60
    · exact ifT (nI_lt (b := 60) c3 (by decide)) (common _ (by unfold shaF shaK; rw [if_neg c1, if_neg c2, if_pos c3, if_neg c1, if_neg c2, if_pos c3]))
    · exact ifF (nI_nlt (b := 60) (by omega) (by omega)) (common _ (by unfold shaF shaK; rw [if_neg c1, if_neg c2, if_neg c3, if_neg c1, if_neg c2, if_neg c3]))
  have all : ∀ n i (q : q5), i + n = 80 → P (shN (s.E V) n i q).1 (shN (s.E V) n i q).2.1 (shN (s.E V) n i q).2.2.1 (shN (s.E V) n i q).2.2.2.1 (shN (s.E V) n i q).2.2.2.2 (nI 80) s kc ks → P q.1 q.2.1 q.2.2.1 q.2.2.2.1 q.2.2.2.2 (nI i) s kc ks := by
    intro n
    induction n with
    | zero =>
      intro i q hi hh
      have : i = 80 := by omega
      rw [this]
      exact hh
    | succ n ih =>
      intro i q hi hh
      exact step i (by omega) _ _ _ _ _ (ih (i + 1) (shS (s.E V) i q) (by omega) hh)
  refine all 80 0 (s.E S 0, s.E S 1, s.E S 2, s.E S 3, s.E S 4) rfl ?_
  generalize hq : shN (s.E V) 80 0 (s.E S 0, s.E S 1, s.E S 2, s.E S 3, s.E S 4) = q
  apply hP
  unfold C_Ch_shaBlock_s40
  refine ifF (by decide) ?_
  refine ⟨_, gd_to o1, S, p30, _, gd_to (ho.aS (i := 0) (by decide)), _, gd_to (ho.aS (i := 0) (by decide)), _, gd_to (o1.se), S, p30, _, gd_to (show okA (cSE s S _ _) .int S 1 from ho.aS (i := 1) (by decide)), _, gd_to (show okA (cSE s S _ _) .int S 1 from ho.aS (i := 1) (by decide)), _, gd_to (o1.se.se), S, p30, _, gd_to (show okA (cSE (cSE s S _ _) S _ _) .int S 2 from ho.aS (i := 2) (by decide)), _, gd_to (show okA (cSE (cSE s S _ _) S _ _) .int S 2 from ho.aS (i := 2) (by decide)), _, gd_to (o1.se.se.se), S, p30, _, gd_to (show okA (cSE (cSE (cSE s S _ _) S _ _) S _ _) .int S 3 from ho.aS (i := 3) (by decide)), _, gd_to (show okA (cSE (cSE (cSE s S _ _) S _ _) S _ _) .int S 3 from ho.aS (i := 3) (by decide)), _, gd_to (o1.se.se.se.se), S, p30, _, gd_to (show okA (cSE (cSE (cSE (cSE s S _ _) S _ _) S _ _) S _ _) .int S 4 from ho.aS (i := 4) (by decide)), _, gd_to (show okA (cSE (cSE (cSE (cSE s S _ _) S _ _) S _ _) S _ _) .int S 4 from ho.aS (i := 4) (by decide)), ?_⟩
  apply k
  · exact ((((h.se (Or.inr (Or.inl rfl))).se (Or.inr (Or.inl rfl))).se (Or.inr (Or.inl rfl))).se (Or.inr (Or.inl rfl))).se (Or.inr (Or.inl rfl))
  · unfold cst shB
    rw [hq]
    refine Prod.ext ?_ (Prod.ext ?_ (Prod.ext ?_ (Prod.ext ?_ ?_)))
    · show (cSE (cSE (cSE (cSE (cSE s S 0 _) S 1 _) S 2 _) S 3 _) S 4 _).E S 0 = _
      rw [cSE_i (by decide), cSE_i (by decide), cSE_i (by decide), cSE_i (by decide), cSE_v]
      rfl
    · show (cSE (cSE (cSE (cSE (cSE s S 0 _) S 1 _) S 2 _) S 3 _) S 4 _).E S 1 = _
      rw [cSE_i (by decide), cSE_i (by decide), cSE_i (by decide), cSE_v]
      show (cSE s S 0 _).E S 1 + _ = _
      rw [cSE_i (by decide)]
    · show (cSE (cSE (cSE (cSE (cSE s S 0 _) S 1 _) S 2 _) S 3 _) S 4 _).E S 2 = _
      rw [cSE_i (by decide), cSE_i (by decide), cSE_v]
      show (cSE (cSE s S 0 _) S 1 _).E S 2 + _ = _
      rw [cSE_i (by decide), cSE_i (by decide)]
    · show (cSE (cSE (cSE (cSE (cSE s S 0 _) S 1 _) S 2 _) S 3 _) S 4 _).E S 3 = _
      rw [cSE_i (by decide), cSE_v]
      show (cSE (cSE (cSE s S 0 _) S 1 _) S 2 _).E S 3 + _ = _
      rw [cSE_i (by decide), cSE_i (by decide), cSE_i (by decide)]
    · show (cSE (cSE (cSE (cSE (cSE s S 0 _) S 1 _) S 2 _) S 3 _) S 4 _).E S 4 = _
      rw [cSE_v]
      show (cSE (cSE (cSE (cSE s S 0 _) S 1 _) S 2 _) S 3 _).E S 4 + _ = _
      rw [cSE_i (by decide), cSE_i (by decide), cSE_i (by decide), cSE_i (by decide)]
  · rw [cSE_a n1, cSE_a n1, cSE_a n1, cSE_a n1, cSE_a n1]
  · rfl
/-- the state at the beginning -/
theorem c_begin (h : DW c W S V s0 s) (k : ∀ s', DW c W S V s0 s' → cst s' S = (1732584193, -271733879, -1732584194, 271733878, -1009589776) → s'.E W = s.E W → s'.I = s.I → Q s' kc ks) : C_Ch_begin sa c s kc ks Q := by
  have ho := h.o
  obtain ⟨n1, n2, n3⟩ := ho.ne
  have o1 := ho.1
  have p30 := ho.2.2.1
  unfold C_Ch_begin
  refine ⟨_, gd_to o1, S, p30, _, gd_to (ho.aS (i := 0) (by decide)), _, gd_to (o1.se), S, p30, _, gd_to (show okA (cSE s S _ _) .int S 1 from ho.aS (i := 1) (by decide)), _, gd_to (o1.se.se), S, p30, _, gd_to (show okA (cSE (cSE s S _ _) S _ _) .int S 2 from ho.aS (i := 2) (by decide)), _, gd_to (o1.se.se.se), S, p30, _, gd_to (show okA (cSE (cSE (cSE s S _ _) S _ _) S _ _) .int S 3 from ho.aS (i := 3) (by decide)), _, gd_to (o1.se.se.se.se), S, p30, _, gd_to (show okA (cSE (cSE (cSE (cSE s S _ _) S _ _) S _ _) S _ _) .int S 4 from ho.aS (i := 4) (by decide)), ?_⟩
  apply k
  · exact ((((h.se (Or.inr (Or.inl rfl))).se (Or.inr (Or.inl rfl))).se (Or.inr (Or.inl rfl))).se (Or.inr (Or.inl rfl))).se (Or.inr (Or.inl rfl))
  · unfold cst
    refine Prod.ext ?_ (Prod.ext ?_ (Prod.ext ?_ (Prod.ext ?_ ?_)))
    · show (cSE (cSE (cSE (cSE (cSE s S 0 _) S 1 _) S 2 _) S 3 _) S 4 _).E S 0 = _
      rw [cSE_i (by decide), cSE_i (by decide), cSE_i (by decide), cSE_i (by decide), cSE_v]
    · show (cSE (cSE (cSE (cSE (cSE s S 0 _) S 1 _) S 2 _) S 3 _) S 4 _).E S 1 = _
      rw [cSE_i (by decide), cSE_i (by decide), cSE_i (by decide), cSE_v]
    · show (cSE (cSE (cSE (cSE (cSE s S 0 _) S 1 _) S 2 _) S 3 _) S 4 _).E S 2 = _
      rw [cSE_i (by decide), cSE_i (by decide), cSE_v]
    · show (cSE (cSE (cSE (cSE (cSE s S 0 _) S 1 _) S 2 _) S 3 _) S 4 _).E S 3 = _
      rw [cSE_i (by decide), cSE_v]
    · show (cSE (cSE (cSE (cSE (cSE s S 0 _) S 1 _) S 2 _) S 3 _) S 4 _).E S 4 = _
      rw [cSE_v]
  · rw [cSE_a n1, cSE_a n1, cSE_a n1, cSE_a n1, cSE_a n1]
  · rfl
theorem sb_bb {x : Int32} (h : x &&& 255 = x) : sb x &&& 255 = x := by rw [sb_and]; exact h
/-- all blocks of md5 -/
theorem c_md5 {n : Nat} (h : DW c W S V s0 s) (hn : n % 64 = 0) (h792 : n ≤ 792) (h29 : s.I 29 c = nI n) (hB : ∀ i, i < n → s.E W i = sb (B i) ∧ B i &&& 255 = B i) (k : ∀ s', DW c W S V s0 s' → cst s' S = dg5 B (n / 64) → s'.E W = s.E W → s'.I = s.I → Q s' kc ks) : C_Ch_md5 sa c s kc ks Q := by
  unfold C_Ch_md5
  refine ⟨h.o.1, c_begin h fun s1 h1 b1 b2 b3 => ?_⟩
  unfold C_Ch_md5_b6
  intro P hP
  have loop : ∀ m j s2, j + m = n / 64 → DW c W S V s0 s2 → cst s2 S = dg5 B j → s2.E W = s.E W → s2.I = s.I → P (nI (64 * j)) s2 kc ks := by
    intro m
    induction m with
    | zero =>
      intro j s2 hj h2 d1 d2 d3
      apply hP
      unfold C_Ch_md5_s6
      refine ⟨_, gd_to h2.o.1, ?_⟩
      rw [show s2.I (20 * 1 + 9) c = nI n by rw [d3]; exact h29, show nI (64 * j) + 64 = nI (64 * j + 64) from nI_add _ 64]
      refine ifT (nI_lt (by omega) (by omega)) (k s2 h2 ?_ d2 d3)
      rw [d1, show j = n / 64 by omega]
    | succ m ih =>
      intro j s2 hj h2 d1 d2 d3
      apply hP
      unfold C_Ch_md5_s6
      refine ⟨_, gd_to h2.o.1, ?_⟩
      rw [show s2.I (20 * 1 + 9) c = nI n by rw [d3]; exact h29, show nI (64 * j) + 64 = nI (64 * j + 64) from nI_add _ 64]
      refine ifF (nI_nlt (by omega) (by omega)) ?_
      unfold C_Ch_md5_b19
      intro P2 hP2
      have inn : ∀ q i s3, i + q = 16 → DW c W S V s0 s3 → cst s3 S = dg5 B j → s3.E W = s.E W → s3.I = s.I → (∀ i', i' < i → s3.E V i' = w5 B (64 * j) i') → P2 (nI i) s3 kc ks := by
        intro q
        induction q with
        | zero =>
          intro i s3 hi h3 e1 e2 e3 e4
          have hi : i = 16 := by omega
          subst hi
          apply hP2
          unfold C_Ch_md5_s19
          refine ifF (by decide) ⟨h3.o.1, c_m5 h3 fun s4 h4 f1 f2 f3 => ?_⟩
          rw [show nI (64 * j) + 64 = nI (64 * (j + 1)) from nI_add _ 64]
          refine ih (j + 1) s4 (by omega) h4 ?_ (f2.trans e2) (f3.trans e3)
          rw [f1, e1]
          exact m5B_e (fun i' hi' => e4 i' hi') _
        | succ q ih2 =>
          intro i s3 hi h3 e1 e2 e3 e4
          have ho := h3.o
          obtain ⟨n1, n2, n3⟩ := ho.ne
          apply hP2
          unfold C_Ch_md5_s19
          refine ifT (nI_lt (b := 16) (by omega) (by decide)) ?_
          have ea : nI (64 * j) + 4 * nI i = nI (64 * j + 4 * i) := by rw [show (4 : Int32) = nI 4 from rfl, pk_mul, nI_add]
          rw [ea, show nI (64 * j + 4 * i) + 2 = nI (64 * j + 4 * i + 2) from nI_add _ 2, show nI (64 * j + 4 * i) + 3 = nI (64 * j + 4 * i + 3) from nI_add _ 3, nI_1, nI_1]
          refine ⟨_, gd_to ho.1, _, gd_to ho.1, W, ho.2.1, _, gd_to (ho.aW (by omega)), _, gd_to ho.1, W, ho.2.1, _, gd_to (ho.aW (by omega)), _, gd_to ho.1, W, ho.2.1, _, gd_to (ho.aW (by omega)), _, gd_to ho.1, W, ho.2.1, _, gd_to (ho.aW (by omega)), V, ho.2.2.2.1, _, gd_to (ho.aV (by omega)), ?_⟩
          rw [nI_clamp (show 64 * j + 4 * i < 2 ^ 31 by omega), nI_clamp (show 64 * j + 4 * i + 1 < 2 ^ 31 by omega), nI_clamp (show 64 * j + 4 * i + 2 < 2 ^ 31 by omega), nI_clamp (show 64 * j + 4 * i + 3 < 2 ^ 31 by omega), nI_clamp (show i < 2 ^ 31 by omega), e2, (hB (64 * j + 4 * i) (by omega)).1, (hB (64 * j + 4 * i + 1) (by omega)).1, (hB (64 * j + 4 * i + 2) (by omega)).1, (hB (64 * j + 4 * i + 3) (by omega)).1, sb_bb (hB (64 * j + 4 * i) (by omega)).2, sb_bb (hB (64 * j + 4 * i + 1) (by omega)).2, sb_bb (hB (64 * j + 4 * i + 2) (by omega)).2, sb_bb (hB (64 * j + 4 * i + 3) (by omega)).2]
          refine ih2 (i + 1) _ (by omega) (h3.se (Or.inr (Or.inr rfl))) ?_ ?_ e3 fun i' hi' => ?_
          · unfold cst at e1 ⊢
            rw [cSE_a n3]; exact e1
          · rw [cSE_a n2]; exact e2
          · by_cases z : i' = i
            · rw [z, cSE_v]; rfl
            · rw [cSE_i z]; exact e4 i' (by omega)
      exact inn 16 0 s2 rfl h2 d1 d2 d3 (fun i' hi' => absurd hi' (Nat.not_lt_zero i'))
  exact loop (n / 64) 0 s1 (by omega) h1 b1 b2 b3
end Ce
