/-! The options of a join, as a list; the model. -/
def cdO : Nat → Int64
  | 1 => 216780
  | 2 => 49683580
  | 3 => 2627531736724
  | 4 => 20992
  | 5 => 30721
  | 6 => 65688271285
  | _ => 0
def kOp (c : Int64) : Nat := if c = 216780 then 1 else if c = 49683580 then 2 else if c = 2627531736724 then 3 else if c = 20992 then 4 else if c = 30721 then 5 else if c = 65688271285 then 6 else 0
def szO (k : Nat) : Nat := if k = 6 then 1 else if k = 4 then 3 else if k = 5 then 3 else 2
theorem kOp_le (c : Int64) : kOp c ≤ 6 := by
  unfold kOp
  repeat' split
  all_goals decide
theorem kOp_cd {c : Int64} (h : kOp c ≠ 0) : c = cdO (kOp c) := by
  unfold kOp at h ⊢
  repeat' split
  all_goals first | assumption | skip
  all_goals simp_all
theorem cd_kOp : ∀ k, k < 7 → 1 ≤ k → kOp (cdO k) = k := by decide +kernel
/-- option by option: its kind, its place; m: which were there -/
def jP (C : Nat → Int64) (n : Nat) : Nat → Nat → Nat → Option (List (Nat × Nat))
  | 0, _, _ => none
  | u + 1, w, m => if w < n then (if kOp (C w) = 0 then none else if m.testBit (kOp (C w) - 1) = true then none else (jP C n u (w + szO (kOp (C w))) (m ||| 2 ^ (kOp (C w) - 1))).map fun P => (kOp (C w), w) :: P) else if w = n then some [] else none
/-- where a kind's words begin; 0: it isn't there -/
def jW (k : Nat) : List (Nat × Nat) → Nat
  | [] => 0
  | e :: r => if e.1 = k then e.2 + 1 else jW k r
theorem jbit : ∀ m, m < 64 → ∀ k, k < 7 → 1 ≤ k → (nI m &&& nI (2 ^ (k - 1)) = 0 ↔ m.testBit (k - 1) = false) ∧ nI m ||| nI (2 ^ (k - 1)) = nI (m ||| 2 ^ (k - 1)) ∧ m ||| 2 ^ (k - 1) < 64 ∧ ((nI (2 * m) >>> (nI k &&& 31)) &&& 1 = 0 ↔ m.testBit (k - 1) = false) ∧ nI (2 * m) ||| ((1 : Int32) <<< (nI k &&& 31)) = nI (2 * (m ||| 2 ^ (k - 1))) := by decide +kernel
theorem own_sz : ∀ k, 1 ≤ k → k < 7 → (1 : Int32) + M_own (cdO k) = nI (szO k) := by
  intro k h1 h7
  rcases (show k = 1 ∨ k = 2 ∨ k = 3 ∨ k = 4 ∨ k = 5 ∨ k = 6 by omega) with rfl | rfl | rfl | rfl | rfl | rfl <;> unfold M_own cdO <;> first | decide | (unfold M_own_b34; decide)
theorem szO_b (k : Nat) : 1 ≤ szO k ∧ szO k ≤ 3 := by
  unfold szO
  repeat' split
  all_goals decide
/-- how many words these options take -/
def msz (m : Nat) : Nat := (if m.testBit 0 = true then 2 else 0) + (if m.testBit 1 = true then 2 else 0) + (if m.testBit 2 = true then 2 else 0) + (if m.testBit 3 = true then 3 else 0) + (if m.testBit 4 = true then 3 else 0) + (if m.testBit 5 = true then 1 else 0)
theorem jsz : ∀ m, m < 64 → ∀ k, k < 7 → 1 ≤ k → msz m ≤ 13 ∧ (m.testBit (k - 1) = false → msz (m ||| 2 ^ (k - 1)) = msz m + szO k) := by decide +kernel
section Jm
variable {G H : Nat → Nat → Nat} {sa : Nat → Nat} {x rd : Nat} {s : cS} {t : moS} {l : List Int32} {ws : List (Nat × Nat)}
/-- the kind of a word -/
theorem m_kO {F : Int32 → Option ((Int32 × Int32) ⊕ Int32)} (c : Int64) : (if c = 0 then F 0 else if c = 216780 then F 1 else if c = 49683580 then F 2 else if c = 2627531736724 then F 4 else if c = 20992 then F 8 else if c = 30721 then F 16 else if c = 65688271285 then F 32 else F 0) = if kOp c = 0 then F 0 else F (nI (2 ^ (kOp c - 1))) := by
  by_cases c0 : kOp c = 0
  · rw [if_pos c0]
    have ne : ∀ k, 1 ≤ k → k < 7 → c ≠ cdO k := fun k h1 h7 z => by
      rw [z, cd_kOp k h7 h1] at c0
      omega
    have n1 : ¬ c = 216780 := ne 1 (by decide) (by decide)
    have n2 : ¬ c = 49683580 := ne 2 (by decide) (by decide)
    have n3 : ¬ c = 2627531736724 := ne 3 (by decide) (by decide)
    have n4 : ¬ c = 20992 := ne 4 (by decide) (by decide)
    have n5 : ¬ c = 30721 := ne 5 (by decide) (by decide)
    have n6 : ¬ c = 65688271285 := ne 6 (by decide) (by decide)
    rw [if_neg n1, if_neg n2, if_neg n3, if_neg n4, if_neg n5, if_neg n6, ite_self]
  · rw [if_neg c0]
    have e := kOp_cd c0
    have hl := kOp_le c
    generalize kOp c = k at e hl c0
    subst e
    rcases (show k = 1 ∨ k = 2 ∨ k = 3 ∨ k = 4 ∨ k = 5 ∨ k = 6 by omega) with rfl | rfl | rfl | rfl | rfl | rfl <;> rfl
theorem m_areS (h : LX G H sa x rd s t l ws) {w m : Nat} (hw : w < ws.length) (hm : m < 64) : M_areOptions_s6 t 216780 49683580 2627531736724 20992 30721 65688271285 (nI w) (nI m) = if kOp (wC l ws w) = 0 then xo (some 0) else if m.testBit (kOp (wC l ws w) - 1) = true then xo (some 0) else some (.inl (nI (w + szO (kOp (wC l ws w))), nI (m ||| 2 ^ (kOp (wC l ws w) - 1)))) := by
  have hn := h.nw
  unfold M_areOptions_s6
  rw [h.ww, if_pos (nI_lt hw (by omega)), h.code hw]
  refine (m_kO (F := fun u => M_areOptions_b109 t 216780 49683580 2627531736724 20992 30721 65688271285 (nI w) (nI m) (wC l ws w) u) (wC l ws w)).trans ?_
  by_cases c0 : kOp (wC l ws w) = 0
  · rw [if_pos c0, if_pos c0]
    unfold M_areOptions_b109
    exact if_pos rfl
  rw [if_neg c0, if_neg c0]
  have e := kOp_cd c0
  have hl := kOp_le (wC l ws w)
  generalize kOp (wC l ws w) = k at e hl c0 ⊢
  obtain ⟨b1, b2, b3, -, -⟩ := jbit m hm k (by omega) (by omega)
  unfold M_areOptions_b109
  rw [if_neg (show ¬ nI (2 ^ (k - 1)) = 0 by
    rcases (show k = 1 ∨ k = 2 ∨ k = 3 ∨ k = 4 ∨ k = 5 ∨ k = 6 by omega) with rfl | rfl | rfl | rfl | rfl | rfl <;> decide), e, own_sz k (by omega) (by omega), nI_add, b2]
  by_cases c1 : m.testBit (k - 1) = true
  · rw [if_pos c1, if_neg (fun z => by rw [b1.mp z] at c1; cases c1)]
  · rw [if_neg c1, if_pos (b1.mpr (by cases q : m.testBit (k - 1) with | false => rfl | true => exact absurd q c1))]
theorem m_areJ (h : LX G H sa x rd s t l ws) : ∀ u w m, m < 64 → w ≤ ws.length + 3 → ws.length < w + u → lp (fun y : Int32 × Int32 => M_areOptions_s6 t 216780 49683580 2627531736724 20992 30721 65688271285 y.1 y.2) (nI w, nI m) = some (if (jP (wC l ws) ws.length u w m).isSome = true then 1 else 0) := by
  have hn := h.nw
  intro u
  induction u with
  | zero =>
    intro w m hm h3 hw
    have hw : ws.length < w := by omega
    refine lp_x ?_
    show M_areOptions_s6 t 216780 49683580 2627531736724 20992 30721 65688271285 (nI w) (nI m) = _
    unfold M_areOptions_s6
    rw [h.ww, if_neg (nI_nlt (by omega) (by omega)), if_neg (fun z => absurd ((nI_eq (by omega) (by omega)).mp z) (by omega))]
    rfl
  | succ u ih =>
    intro w m hm h3 hw
    by_cases c : w < ws.length
    · have st := m_areS h c hm
      rw [show jP (wC l ws) ws.length (u + 1) w m = (if kOp (wC l ws w) = 0 then none else if m.testBit (kOp (wC l ws w) - 1) = true then none else (jP (wC l ws) ws.length u (w + szO (kOp (wC l ws w))) (m ||| 2 ^ (kOp (wC l ws w) - 1))).map fun P => (kOp (wC l ws w), w) :: P) from if_pos c]
      by_cases c0 : kOp (wC l ws w) = 0
      · rw [if_pos c0] at st ⊢
        exact lp_x (show (fun y : Int32 × Int32 => M_areOptions_s6 t 216780 49683580 2627531736724 20992 30721 65688271285 y.1 y.2) (nI w, nI m) = _ from st)
      rw [if_neg c0] at st ⊢
      by_cases c1 : m.testBit (kOp (wC l ws w) - 1) = true
      · rw [if_pos c1] at st ⊢
        exact lp_x (show (fun y : Int32 × Int32 => M_areOptions_s6 t 216780 49683580 2627531736724 20992 30721 65688271285 y.1 y.2) (nI w, nI m) = _ from st)
      rw [if_neg c1] at st ⊢
      have hl := kOp_le (wC l ws w)
      obtain ⟨-, -, b3, -, -⟩ := jbit m hm (kOp (wC l ws w)) (by omega) (by omega)
      have hb := szO_b (kOp (wC l ws w))
      rw [lp_l (show (fun y : Int32 × Int32 => M_areOptions_s6 t 216780 49683580 2627531736724 20992 30721 65688271285 y.1 y.2) (nI w, nI m) = _ from st)]
      rw [ih _ _ b3 (by omega) (by omega), Option.isSome_map]
    · refine lp_x ?_
      show M_areOptions_s6 t 216780 49683580 2627531736724 20992 30721 65688271285 (nI w) (nI m) = _
      unfold M_areOptions_s6
      rw [h.ww, if_neg (nI_nlt (by omega) (by omega)), show jP (wC l ws) ws.length (u + 1) w m = (if w = ws.length then some [] else none) from if_neg c]
      by_cases c2 : w = ws.length
      · rw [if_pos c2, if_pos (by rw [c2])]; rfl
      · rw [if_neg c2, if_neg (fun z => c2 ((nI_eq (by omega) (by omega)).mp z))]; rfl
/-- the words that are options -/
theorem jP_k {C : Nat → Int64} {n : Nat} : ∀ u w m P, m < 64 → jP C n u w m = some P → w ≤ n ∧ n ≤ w + 13 - msz m ∧ ∀ e, e ∈ P → w ≤ e.2 ∧ e.2 + szO e.1 ≤ n ∧ e.1 = kOp (C e.2) ∧ 1 ≤ e.1 ∧ e.1 ≤ 6 ∧ m.testBit (e.1 - 1) = false
  | 0, _, _, _, _, h => by cases h
  | u + 1, w, m, P, hm, h => by
    unfold jP at h
    by_cases c : w < n
    · rw [if_pos c] at h
      by_cases c0 : kOp (C w) = 0
      · rw [if_pos c0] at h; cases h
      rw [if_neg c0] at h
      by_cases c1 : m.testBit (kOp (C w) - 1) = true
      · rw [if_pos c1] at h; cases h
      rw [if_neg c1] at h
      have c1 : m.testBit (kOp (C w) - 1) = false := by cases q : m.testBit (kOp (C w) - 1) with | false => rfl | true => exact absurd q c1
      have hl := kOp_le (C w)
      obtain ⟨-, -, b3, -, -⟩ := jbit m hm (kOp (C w)) (by omega) (by omega)
      obtain ⟨z1, z2⟩ := jsz m hm (kOp (C w)) (by omega) (by omega)
      obtain ⟨z3, -⟩ := jsz _ b3 (kOp (C w)) (by omega) (by omega)
      have z2 := z2 c1
      cases e : jP C n u (w + szO (kOp (C w))) (m ||| 2 ^ (kOp (C w) - 1)) with
      | none => rw [e] at h; cases h
      | some P' =>
        rw [e] at h
        cases h
        obtain ⟨i1, i2, i3⟩ := jP_k u _ _ P' b3 e
        refine ⟨by omega, by omega, fun e' he => ?_⟩
        rcases List.mem_cons.mp he with rfl | he
        · exact ⟨Nat.le_refl _, i1, rfl, by show 1 ≤ kOp (C w); omega, hl, c1⟩
        · obtain ⟨j1, j2, j3, j4, j5, j6⟩ := i3 e' he
          refine ⟨by omega, j2, j3, j4, j5, ?_⟩
          rw [Nat.testBit_or, Bool.or_eq_false_iff] at j6
          exact j6.1
    · rw [if_neg c] at h
      by_cases c2 : w = n
      · rw [if_pos c2] at h
        cases h
        have := (jsz m hm 1 (by decide) (by decide)).1
        exact ⟨by omega, by omega, fun e he => by cases he⟩
      · rw [if_neg c2] at h; cases h
theorem m_optJ (h : LX G H sa x rd s t l ws) {k : Nat} (hk : 1 ≤ k) (hk7 : k < 7) : ∀ u w m P, m < 64 → jP (wC l ws) ws.length u w m = some P → lp (fun y : Int32 => M_option_s3 t (cdO k) y) (nI w) = some (nI (jW k P))
  | 0, _, _, _, _, h' => by cases h'
  | u + 1, w, m, P, hm, h' => by
    have hn := h.nw
    have hb := (jP_k (u + 1) w m P hm h').1
    unfold jP at h'
    by_cases c : w < ws.length
    · rw [if_pos c] at h'
      by_cases c0 : kOp (wC l ws w) = 0
      · rw [if_pos c0] at h'; cases h'
      rw [if_neg c0] at h'
      by_cases c1 : m.testBit (kOp (wC l ws w) - 1) = true
      · rw [if_pos c1] at h'; cases h'
      rw [if_neg c1] at h'
      have hl := kOp_le (wC l ws w)
      obtain ⟨-, -, b3, -, -⟩ := jbit m hm (kOp (wC l ws w)) (by omega) (by omega)
      cases e : jP (wC l ws) ws.length u (w + szO (kOp (wC l ws w))) (m ||| 2 ^ (kOp (wC l ws w) - 1)) with
      | none => rw [e] at h'; cases h'
      | some P' =>
        rw [e] at h'
        cases h'
        have ec := kOp_cd c0
        by_cases ck : kOp (wC l ws w) = k
        · show _ = some (nI (if kOp (wC l ws w) = k then w + 1 else jW k P'))
          rw [if_pos ck]
          refine lp_x ?_
          show M_option_s3 t (cdO k) (nI w) = _
          unfold M_option_s3
          rw [h.ww, if_pos (nI_lt c (by omega)), h.code c]
          show (if wC l ws w = cdO k then _ else _) = _
          rw [if_pos (by rw [ec, ck]), nI_1]
        · show _ = some (nI (if kOp (wC l ws w) = k then w + 1 else jW k P'))
          rw [if_neg ck]
          have st : M_option_s3 t (cdO k) (nI w) = some (.inl (nI (w + szO (kOp (wC l ws w))))) := by
            unfold M_option_s3
            rw [h.ww, if_pos (nI_lt c (by omega)), h.code c]
            show (if wC l ws w = cdO k then _ else Option.bind (some (wC l ws w)) _) = _
            rw [if_neg (fun z => ck (by rw [z]; exact cd_kOp k hk7 hk))]
            show some (Sum.inl (nI w + (1 + M_own (wC l ws w)))) = _
            rw [show M_own (wC l ws w) = M_own (cdO (kOp (wC l ws w))) by rw [← ec], own_sz _ (by omega) (by omega), nI_add]
          rw [lp_l (show (fun y : Int32 => M_option_s3 t (cdO k) y) (nI w) = _ from st)]
          exact m_optJ h hk hk7 u _ _ P' b3 e
    · rw [if_neg c] at h'
      by_cases c2 : w = ws.length
      · rw [if_pos c2] at h'
        cases h'
        refine lp_x ?_
        show M_option_s3 t (cdO k) (nI w) = _
        unfold M_option_s3
        rw [h.ww, if_neg (nI_nlt (by omega) (by omega))]
        rfl
      · rw [if_neg c2] at h'; cases h'
end Jm
