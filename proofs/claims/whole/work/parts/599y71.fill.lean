/-! Digests in the class: the work is filled up. -/
theorem fu64 : ∀ n, n < 704 → ((nI n + 8) / 64) * 64 + 64 = nI (fulN n) := by decide +kernel
/-- which byte of the number of bits stands at i -/
def psN (hi : Int32) (n i : Nat) : Nat := if hi = 0 then i - (fulN n - 8) else 7 - (i - (fulN n - 8))
section Cg
variable {sa : Nat → Nat} {c W S V kc ks n : Nat} {s0 s : cS} {Q : cS → Nat → Nat → Prop} {B : Nat → Int32} {hi : Int32}
theorem pdf_p {i : Nat} (h : fulN n - 8 ≤ i) : pdF B n hi i = nI (8 * n / 256 ^ psN hi n i % 256) := by
  have e : i = fulN n - 8 + (i - (fulN n - 8)) := by omega
  have e2 := pdf_l (B := B) (n := n) (j := i - (fulN n - 8)) (hi := hi)
  rw [← e] at e2
  rw [e2]
  unfold psN
  by_cases z : hi = 0
  · rw [if_pos z, if_pos z]
  · rw [if_neg z, if_neg z]
theorem pdf_b (hB : ∀ i, i < n → B i &&& 255 = B i) (i : Nat) : pdF B n hi i &&& 255 = pdF B n hi i := by
  by_cases c : fulN n - 8 ≤ i
  · rw [pdf_p c]
    exact m255 (Nat.mod_lt _ (by decide))
  unfold pdF
  by_cases c1 : i < n
  · rw [if_pos c1]; exact hB i c1
  by_cases c2 : i = n
  · rw [if_neg c1, if_pos c2]; decide
  · rw [if_neg c1, if_neg c2, if_pos (by omega)]; decide
/-- what stands there after k bytes of the number -/
def pdK (B : Nat → Int32) (n : Nat) (hi : Int32) (k i : Nat) : Int32 := if fulN n - 8 ≤ i ∧ k ≤ psN hi n i then 0 else pdF B n hi i
theorem c_fill4 (h : DW c W S V s0 s) (hn : n < 704) (hf : fulN n ≤ 792) (hh : hi = 0 ∨ hi = 1) (hB : ∀ i, i < fulN n → s.E W i = sb (pdK B n hi 0 i)) (k : ∀ s', DW c W S V s0 s' → s'.E S = s.E S → s'.I 29 c = nI (fulN n) → (∀ i, i < fulN n → s'.E W i = sb (pdF B n hi i)) → Q s' kc ks) : C_Ch_fillBlock_b77 sa c hi (nI n * 8) (nI (fulN n)) 0 s kc ks Q := by
  obtain ⟨f1, f2, f3⟩ := ful_b (n := n)
  unfold C_Ch_fillBlock_b77
  intro P hP
  have loop : ∀ m j s2, j + m = 4 → DW c W S V s0 s2 → s2.E S = s.E S → (∀ i, i < fulN n → s2.E W i = sb (pdK B n hi j i)) → P (nI j) s2 kc ks := by
    intro m
    induction m with
    | zero =>
      intro j s2 hj h2 d1 d2
      have hj : j = 4 := by omega
      subst hj
      apply hP
      unfold C_Ch_fillBlock_s77
      refine ifF (by decide) ⟨_, gd_to h2.o.1, k _ h2.si d1 cSI_s fun i hi' => ?_⟩
      rw [show (cSI s2 29 c (nI (fulN n))).E W i = s2.E W i from rfl, d2 i hi']
      unfold pdK
      by_cases z : fulN n - 8 ≤ i ∧ 4 ≤ psN hi n i
      · rw [if_pos z, pdf_p z.1, Nat.div_eq_of_lt]
        · rfl
        · refine Nat.lt_of_lt_of_le (m := 256 ^ 4) ?_ (Nat.pow_le_pow_right (by decide) z.2)
          rw [show (256 : Nat) ^ 4 = 4294967296 from rfl]; omega
      · rw [if_neg z]
    | succ m ih =>
      intro j s2 hj h2 d1 d2
      have ho := h2.o
      obtain ⟨n1, n2, n3⟩ := ho.ne
      have key : ∀ p, p < fulN n → fulN n - 8 ≤ p → (∀ i, fulN n - 8 ≤ i → i < fulN n → (psN hi n i = j ↔ i = p)) → C_Ch_fillBlock_b107 sa c hi (nI n * 8) (nI (fulN n)) (nI j) (s2.P (20 * 1 + 8) c) (nI p) s2 kc ks Q P := by
        intro p hp1 hp2 hp3
        unfold C_Ch_fillBlock_b107
        refine ⟨W, ho.2.1, _, gd_to (ho.aW (by omega)), ?_⟩
        rw [nI_clamp (show p < 2 ^ 31 by omega), nI_1]
        refine ih (j + 1) _ (by omega) (h2.se (Or.inl rfl)) ?_ fun i hi' => ?_
        · rw [cSE_a (fun e => n1 e.symm)]; exact d1
        by_cases z : i = p
        · rw [z, cSE_v]
          show sb (sb (ush_I (nI n * 8) (8 * nI j))) = _
          rw [sb_sb, ← sb_255, ln_c n hn j (by omega)]
          unfold pdK
          have ep := (hp3 p hp2 hp1).mpr rfl
          rw [if_neg (by omega), pdf_p hp2, ep]
        · rw [cSE_i z, d2 i hi']
          unfold pdK
          by_cases z8 : fulN n - 8 ≤ i
          · have := hp3 i z8 hi'
            by_cases z9 : j ≤ psN hi n i
            · rw [if_pos ⟨z8, z9⟩, if_pos ⟨z8, by omega⟩]
            · rw [if_neg (by omega), if_neg (by omega)]
          · rw [if_neg (fun e => z8 e.1), if_neg (fun e => z8 e.1)]
      apply hP
      unfold C_Ch_fillBlock_s77
      refine ifT (nI_lt (b := 4) (by omega) (by decide)) ⟨_, gd_to ho.1, ?_⟩
      rcases hh with rfl | rfl
      · refine ifT rfl ?_
        rw [show nI (fulN n) - 8 + nI j = nI (fulN n - 8 + j) by rw [show nI (fulN n) = nI (fulN n - 8) + 8 by rw [show (8 : Int32) = nI 8 from rfl, nI_add, Nat.sub_add_cancel (show 8 ≤ fulN n by omega)], Int32.add_sub_cancel, nI_add]]
        refine key _ (by omega) (by omega) fun i h1 h2 => ?_
        unfold psN; rw [if_pos rfl]; omega
      · refine ifF (by decide) ?_
        rw [show nI (fulN n) - 1 - nI j = nI (fulN n - 1 - j) by rw [show nI (fulN n) = nI (fulN n - 1 - j) + nI j + 1 by rw [nI_add, nI_1]; congr 1; omega, Int32.add_sub_cancel, Int32.add_sub_cancel]]
        refine key _ (by omega) (by omega) fun i h1 h2 => ?_
        unfold psN; rw [if_neg (by decide)]; omega
  exact loop 4 0 s rfl h rfl hB
/-- the work is filled up to full blocks -/
theorem c_fill (h : DW c W S V s0 s) (hn : n < 704) (hf : fulN n ≤ 792) (hh : hi = 0 ∨ hi = 1) (h29 : s.I 29 c = nI n) (hB : ∀ i, i < n → s.E W i = sb (B i) ∧ B i &&& 255 = B i) (k : ∀ s', DW c W S V s0 s' → s'.E S = s.E S → s'.I 29 c = nI (fulN n) → (∀ i, i < fulN n → s'.E W i = sb (pdF B n hi i) ∧ pdF B n hi i &&& 255 = pdF B n hi i) → Q s' kc ks) : C_Ch_fillBlock sa c hi s kc ks Q := by
  obtain ⟨f1, f2, f3⟩ := ful_b (n := n)
  have ho := h.o
  obtain ⟨n1, n2, n3⟩ := ho.ne
  have o1 := ho.1
  have p28 := ho.2.1
  unfold C_Ch_fillBlock
  refine ⟨_, gd_to o1, _, gd_to o1, _, gd_to o1, W, p28, _, gd_to ⟨by rw [ho.2.2.2.2.1]; decide, by rw [ho.2.2.2.2.1]; decide⟩, ?_⟩
  rw [show s.I (20 * 1 + 9) c = nI n from h29, fu64 n hn, ho.2.2.2.2.1]
  refine ifF (nI_nlt (a := 792) hf (by decide)) ⟨_, gd_to o1, _, gd_to o1, W, p28, ?_⟩
  rw [show s.I (20 * 1 + 9) c = nI n from h29]
  refine ⟨_, gd_to (ho.aW (by omega)), _, gd_to o1.se, ?_⟩
  rw [nI_clamp (show n < 2 ^ 31 by omega), show (cSE s W n _).I (20 * 1 + 9) c = nI n from h29]
  show C_Ch_fillBlock_b54 sa c hi (nI n * 8) (nI (fulN n)) (nI n + 1) _ kc ks Q
  rw [nI_1]
  unfold C_Ch_fillBlock_b54
  intro P hP
  have loop : ∀ m i s2, i + m = fulN n → n < i → DW c W S V s0 s2 → s2.E S = s.E S → (∀ i', i' < i → s2.E W i' = sb (if i' < n then B i' else if i' = n then 128 else 0)) → P (nI i) s2 kc ks := by
    intro m
    induction m with
    | zero =>
      intro i s2 hi' hni h2 d1 d2
      apply hP
      unfold C_Ch_fillBlock_s54
      refine ifF (nI_nlt (by omega) (by omega)) (c_fill4 h2 hn hf hh (fun i' hi'' => ?_) fun s' a1 a2 a3 a4 => k s' a1 (a2.trans d1) a3 fun i' hi'' => ⟨a4 i' hi'', pdf_b (fun j hj => (hB j hj).2) i'⟩)
      rw [d2 i' (by omega)]
      unfold pdK
      by_cases z8 : fulN n - 8 ≤ i'
      · rw [if_neg (show ¬ i' < n by omega), if_neg (show ¬ i' = n by omega), if_pos (show fulN n - 8 ≤ i' ∧ 0 ≤ psN hi n i' from ⟨z8, Nat.zero_le _⟩)]
      · rw [if_neg (show ¬ (fulN n - 8 ≤ i' ∧ 0 ≤ psN hi n i') from fun e => z8 e.1)]
        unfold pdF
        by_cases c1 : i' < n
        · rw [if_pos c1, if_pos c1]
        by_cases c2 : i' = n
        · rw [if_neg c1, if_neg c1, if_pos c2, if_pos c2]
        · rw [if_neg c1, if_neg c1, if_neg c2, if_neg c2, if_pos (by omega)]
    | succ m ih =>
      intro i s2 hi' hni h2 d1 d2
      have ho2 := h2.o
      apply hP
      unfold C_Ch_fillBlock_s54
      refine ifT (nI_lt (by omega) (by omega)) ⟨_, gd_to ho2.1, W, ho2.2.1, _, gd_to (ho2.aW (by omega)), ?_⟩
      rw [nI_clamp (show i < 2 ^ 31 by omega), nI_1]
      refine ih (i + 1) _ (by omega) (by omega) (h2.se (Or.inl rfl)) ?_ fun i' hi'' => ?_
      · rw [cSE_a (fun e => n1 e.symm)]; exact d1
      by_cases z : i' = i
      · rw [z, cSE_v, if_neg (by omega), if_neg (by omega)]; rfl
      · rw [cSE_i z]; exact d2 i' (by omega)
  refine loop (fulN n - (n + 1)) (n + 1) _ (by omega) (by omega) (h.se (Or.inl rfl)) ?_ fun i' hi' => ?_
  · rw [cSE_a (fun e => n1 e.symm)]
  by_cases z : i' = n
  · rw [z, cSE_v, if_neg (by omega), if_pos rfl]; rfl
  · rw [cSE_i z, if_pos (by omega)]; exact (hB i' (by omega)).1
end Cg
