/-! Digests in the class: all blocks of sha; the work filled up. -/
section Cf
variable {sa : Nat → Nat} {c W S V kc ks : Nat} {s0 s : cS} {Q : cS → Nat → Nat → Prop} {B : Nat → Int32}
/-- a block's words behind the sixteenth -/
theorem c_sha1 {a : Nat} {P : Int32 → cS → Nat → Nat → Prop} {q : q5} {wd : Nat → Int32} {I0 : Nat → Nat → Int32} (h : DW c W S V s0 s) (hq : cst s S = q) (hw : s.E W = wd) (hI : s.I = I0) (hV : ∀ i, i < 16 → s.E V i = wH B a i) (k : ∀ s', DW c W S V s0 s' → cst s' S = shB (wX B a 64) q → s'.E W = wd → s'.I = I0 → P (nI a + 64) s' kc ks) : C_Ch_sha_b104 sa c (nI a) 16 s kc ks Q P := by
  unfold C_Ch_sha_b104
  intro P3 hP3
  have mid : ∀ m n s3, n + m = 64 → DW c W S V s0 s3 → cst s3 S = q → s3.E W = wd → s3.I = I0 → (∀ i, i < 16 + n → s3.E V i = wX B a n i) → P3 (nI (16 + n)) s3 kc ks := by
    intro m
    induction m with
    | zero =>
      intro n s3 hn h3 e1 e2 e3 e4
      have hn : n = 64 := by omega
      subst hn
      apply hP3
      unfold C_Ch_sha_s104
      refine ifF (by decide) ⟨h3.o.1, c_sh h3 fun s4 h4 f1 f2 f3 => ?_⟩
      refine k s4 h4 ?_ (f2.trans e2) (f3.trans e3)
      rw [f1, e1]
      exact shB_e (fun i hi => e4 i hi) _
    | succ m ih =>
      intro n s3 hn h3 e1 e2 e3 e4
      have ho := h3.o
      obtain ⟨n1, n2, n3⟩ := ho.ne
      have o1 := ho.1
      have p31 := ho.2.2.2.1
      have sub : ∀ b, b ≤ 16 → nI (16 + n) - nI b = nI (16 + n - b) := fun b hb => by
        rw [show nI (16 + n) = nI (16 + n - b) + nI b by rw [nI_add]; congr 1; omega, Int32.add_sub_cancel]
      apply hP3
      unfold C_Ch_sha_s104
      refine ifT (nI_lt (b := 80) (by omega) (by decide)) ?_
      rw [show nI (16 + n) - 3 = nI (16 + n - 3) from sub 3 (by decide), show nI (16 + n) - 8 = nI (16 + n - 8) from sub 8 (by decide), show nI (16 + n) - 14 = nI (16 + n - 14) from sub 14 (by decide), show nI (16 + n) - 16 = nI (16 + n - 16) from sub 16 (by decide)]
      refine ⟨_, gd_to o1, V, p31, _, gd_to (ho.aV (by omega)), _, gd_to o1, V, p31, _, gd_to (ho.aV (by omega)), _, gd_to o1, V, p31, _, gd_to (ho.aV (by omega)), _, gd_to o1, V, p31, _, gd_to (ho.aV (by omega)), _, gd_to o1, V, p31, _, gd_to (ho.aV (by omega)), ?_⟩
      rw [nI_clamp (show 16 + n - 3 < 2 ^ 31 by omega), nI_clamp (show 16 + n - 8 < 2 ^ 31 by omega), nI_clamp (show 16 + n - 14 < 2 ^ 31 by omega), nI_clamp (show 16 + n - 16 < 2 ^ 31 by omega), nI_clamp (show 16 + n < 2 ^ 31 by omega), e4 _ (by omega), e4 _ (by omega), e4 _ (by omega), e4 _ (by omega), nI_1]
      refine ih (n + 1) _ (by omega) (h3.se (Or.inr (Or.inr rfl))) ?_ ?_ e3 fun i hi => ?_
      · unfold cst at e1 ⊢
        rw [cSE_a n3]; exact e1
      · rw [cSE_a n2]; exact e2
      · show _ = upd (wX B a n) (16 + n) _ i
        by_cases z : i = 16 + n
        · rw [z, cSE_v, upd_s]; rfl
        · rw [cSE_i z, upd_n z]; exact e4 i (by omega)
  exact mid 64 0 s rfl h hq hw hI hV
/-- all blocks of sha -/
theorem c_sha {n : Nat} (h : DW c W S V s0 s) (hn : n % 64 = 0) (h792 : n ≤ 792) (h29 : s.I 29 c = nI n) (hB : ∀ i, i < n → s.E W i = sb (B i) ∧ B i &&& 255 = B i) (k : ∀ s', DW c W S V s0 s' → cst s' S = dgH B (n / 64) → s'.E W = s.E W → s'.I = s.I → Q s' kc ks) : C_Ch_sha sa c s kc ks Q := by
  unfold C_Ch_sha
  refine ⟨h.o.1, c_begin h fun s1 h1 b1 b2 b3 => ?_⟩
  unfold C_Ch_sha_b6
  intro P hP
  have loop : ∀ m j s2, j + m = n / 64 → DW c W S V s0 s2 → cst s2 S = dgH B j → s2.E W = s.E W → s2.I = s.I → P (nI (64 * j)) s2 kc ks := by
    intro m
    induction m with
    | zero =>
      intro j s2 hj h2 d1 d2 d3
      apply hP
      unfold C_Ch_sha_s6
      refine ⟨_, gd_to h2.o.1, ?_⟩
      rw [show s2.I (20 * 1 + 9) c = nI n by rw [d3]; exact h29, show nI (64 * j) + 64 = nI (64 * j + 64) from nI_add _ 64]
      refine ifT (nI_lt (by omega) (by omega)) (k s2 h2 ?_ d2 d3)
      rw [d1, show j = n / 64 by omega]
    | succ m ih =>
      intro j s2 hj h2 d1 d2 d3
      apply hP
      unfold C_Ch_sha_s6
      refine ⟨_, gd_to h2.o.1, ?_⟩
      rw [show s2.I (20 * 1 + 9) c = nI n by rw [d3]; exact h29, show nI (64 * j) + 64 = nI (64 * j + 64) from nI_add _ 64]
      refine ifF (nI_nlt (by omega) (by omega)) ?_
      unfold C_Ch_sha_b19
      intro P2 hP2
      have inn : ∀ q i s3, i + q = 16 → DW c W S V s0 s3 → cst s3 S = dgH B j → s3.E W = s.E W → s3.I = s.I → (∀ i', i' < i → s3.E V i' = wH B (64 * j) i') → P2 (nI i) s3 kc ks := by
        intro q
        induction q with
        | zero =>
          intro i s3 hi h3 e1 e2 e3 e4
          have hi : i = 16 := by omega
          subst hi
          apply hP2
          unfold C_Ch_sha_s19
          refine ifF (by decide) (c_sha1 h3 e1 e2 e3 e4 fun s4 h4 f1 f2 f3 => ?_)
          rw [show nI (64 * j) + 64 = nI (64 * (j + 1)) from nI_add _ 64]
          exact ih (j + 1) s4 (by omega) h4 f1 f2 f3
        | succ q ih2 =>
          intro i s3 hi h3 e1 e2 e3 e4
          have ho := h3.o
          obtain ⟨n1, n2, n3⟩ := ho.ne
          apply hP2
          unfold C_Ch_sha_s19
          refine ifT (nI_lt (b := 16) (by omega) (by decide)) ?_
          have ea : nI (64 * j) + 4 * nI i = nI (64 * j + 4 * i) := by rw [show (4 : Int32) = nI 4 from rfl, pk_mul, nI_add]
          rw [ea, show nI (64 * j + 4 * i) + 2 = nI (64 * j + 4 * i + 2) from nI_add _ 2, show nI (64 * j + 4 * i) + 3 = nI (64 * j + 4 * i + 3) from nI_add _ 3, nI_1, nI_1]
          refine ⟨_, gd_to ho.1, _, gd_to ho.1, W, ho.2.1, _, gd_to (ho.aW (by omega)), _, gd_to ho.1, W, ho.2.1, _, gd_to (ho.aW (by omega)), _, gd_to ho.1, W, ho.2.1, _, gd_to (ho.aW (by omega)), _, gd_to ho.1, W, ho.2.1, _, gd_to (ho.aW (by omega)), V, ho.2.2.2.1, _, gd_to (ho.aV (by omega)), ?_⟩
          rw [nI_clamp (show 64 * j + 4 * i < 2 ^ 31 by omega), nI_clamp (show 64 * j + 4 * i + 1 < 2 ^ 31 by omega), nI_clamp (show 64 * j + 4 * i + 2 < 2 ^ 31 by omega), nI_clamp (show 64 * j + 4 * i + 3 < 2 ^ 31 by omega), nI_clamp (show i < 2 ^ 31 by omega), e2, (hB (64 * j + 4 * i) (by omega)).1, (hB (64 * j + 4 * i + 1) (by omega)).1, (hB (64 * j + 4 * i + 2) (by omega)).1, (hB (64 * j + 4 * i + 3) (by omega)).1, sb_bb (hB (64 * j + 4 * i) (by omega)).2, sb_bb (hB (64 * j + 4 * i + 1) (by omega)).2, sb_bb (hB (64 * j + 4 * i + 2) (by omega)).2, sb_bb (hB (64 * j + 4 * i + 3) (by omega)).2]
          refine ih2 (i + 1) _ (by omega) (h3.se (Or.inr (Or.inr rfl))) ?_ ?_ e3 fun i' hi' => ?_
          · unfold cst at e1 ⊢
            rw [cSE_a n3]; exact e1
          · rw [cSE_a n2]; exact e2
          · by_cases z : i' = i
            · rw [z, cSE_v]; rfl
            · rw [cSE_i z]; exact e4 i' (by omega)
      exact inn 16 0 s2 rfl h2 d1 d2 d3 (fun i' hi' => absurd hi' (Nat.not_lt_zero i'))
  exact loop (n / 64) 0 s1 (by omega) h1 b1 b2 b3
end Cf
