/-! How long a line is, at least. -/
theorem adP_2 {u : Nat → Nat} {a p : Nat} (h : adP u a p ≠ none) : a + 2 ≤ p := by
  by_cases c : a + 2 ≤ p
  · exact c
  exfalso
  apply h
  unfold adP
  have hf := fnd_le u 58 (p - a) a
  by_cases c1 : fnd u 58 (p - a) a < p
  · rw [if_pos c1]
    have ep : p = a + 1 := by omega
    have ef : fnd u 58 (p - a) a = a := by omega
    have : sixQ u a p = none := by
      unfold sixQ
      rw [if_neg (by omega)]
      have : sx6 u p 9 a [] none = none := by
        show (if a < p then _ else _) = none
        rw [if_pos (by omega), ef, show hexN u a a = none from if_neg (by omega)]
      rw [this]
      rfl
    rw [this]
  · rw [if_neg c1]
    have : four u p 4 a 0 = none := by
      show (match plain u a (fnd u 46 (p - a) a) with
        | some n => if n ≤ 255 ∧ (3 = 0 ↔ fnd u 46 (p - a) a = p) then four u p 3 (fnd u 46 (p - a) a + 1) (sh8 0 n) else none
        | none => none) = none
      have hg := fnd_le u 46 (p - a) a
      cases e : plain u a (fnd u 46 (p - a) a) with
      | none => rfl
      | some n =>
        have : a + 1 ≤ fnd u 46 (p - a) a := by
          unfold plain at e
          split at e
          · rename_i z; exact z.1
          · cases e
        show (if n ≤ 255 ∧ (3 = 0 ↔ fnd u 46 (p - a) a = p) then _ else none) = none
        rw [if_neg]
        intro z
        have := z.2.mpr (by omega)
        omega
    rw [this]
theorem pxP_4 {u : Nat → Nat} {a b : Nat} (hab : a ≤ b) (h : pxP u a b ≠ none) : a + 4 ≤ b := by
  have hf := fnd_le u 47 (b - a) a
  unfold pxP at h
  by_cases c : fnd u 47 (b - a) a = b
  · rw [if_pos c] at h
    exact absurd rfl h
  rw [if_neg c] at h
  generalize fnd u 47 (b - a) a = p at h hf c
  cases e1 : adP u a p with
  | none => rw [e1] at h; exact absurd rfl h
  | some y =>
    have h2 := adP_2 (u := u) (a := a) (p := p) (by rw [e1]; simp)
    rw [e1] at h
    obtain ⟨a1, a2, a3⟩ := y
    by_cases c2 : b < p + 1 + 1
    · have : plM u (p + 1) b (if a1 = 4 then 32 else 128) = none := plM_no c2
      have h : (match plM u (p + 1) b (if a1 = 4 then 32 else 128) with
        | none => none
        | some n => some (a1, a2, a3, n)) ≠ none := h
      rw [this] at h
      exact absurd rfl h
    · omega
section Le
variable {G H : Nat → Nat → Nat} {sa : Nat → Nat} {rd x : Nat} {s : cS} {t t1 : moS} {l : List Int32} {ws : List (Nat × Nat)}
theorem awl_4 (h : LX G H sa x rd s t l ws) {i : Nat} (hi : i < ws.length) {r : Int32} (e : M_isAddressWithLength t (nI i) = some (r, t1)) (hr : r ≠ 0) : (ws.getD i (0, 0)).1 + 4 ≤ (ws.getD i (0, 0)).2 := by
  obtain ⟨r', t', e1, -, e3⟩ := m_awl h.2.2.2.2.2 h.n9.2.2 h.n9.1 h.n9.2.1 h.2.2.2.2.1 hi (by have := h.nw; omega) (show ws.getD i (0, 0) = ((ws.getD i (0, 0)).1, (ws.getD i (0, 0)).2) from rfl) (h.b hi).1 (h.b hi).2
  rw [e] at e1
  cases e1
  refine pxP_4 (u := vc l) (Nat.le_of_lt (h.b hi).1) fun z => ?_
  rw [z] at e3
  exact hr e3
theorem pw_4 (h : LX G H sa x rd s t l ws) {i : Nat} (hi : i < ws.length) {r : Int32} (e : M_isPrefixWord t (nI i) = some (r, t1)) (hr : r ≠ 0) : (ws.getD i (0, 0)).1 + 4 ≤ (ws.getD i (0, 0)).2 := by
  obtain ⟨r', t', e1, -, e3⟩ := m_pword h.2.2.2.2.2 h.n9.2.2 h.n9.1 h.n9.2.1 h.2.2.2.2.1 hi (by have := h.nw; omega) (show ws.getD i (0, 0) = ((ws.getD i (0, 0)).1, (ws.getD i (0, 0)).2) from rfl) (h.b hi).1 (h.b hi).2
  rw [e] at e1
  cases e1
  rcases e3 with ⟨z, -⟩ | ⟨-, a1, a2, a3, m, z, -⟩
  · exact absurd z hr
  · exact pxP_4 (u := vc l) (Nat.le_of_lt (h.b hi).1) (by rw [z]; simp)
theorem st_g (h : LX G H sa x rd s t l ws) : aw (M_lineStatic t) (fun z => z.1 = 0 → 4 ≤ ws.length ∧ (ws.getD 2 (0, 0)).1 + 4 ≤ (ws.getD 2 (0, 0)).2) := by
  have no : ∀ {c : Int32} {t' : moS} {P : Prop}, c ≠ 0 → aw (some (c, t')) (fun z => z.1 = 0 → P) := fun hc => aw_some fun z => absurd z hc
  unfold M_lineStatic
  by_cases c4 : t.S 11 < 4
  · rw [if_pos c4]; exact no (by decide)
  rw [if_neg c4]
  have h4 : 4 ≤ ws.length := by
    by_cases z : 4 ≤ ws.length
    · exact z
    · exact absurd (by rw [h.ww]; exact nI_lt (b := 4) (by omega) (by decide)) c4
  refine aw_bind aw_t fun _ _ => aw_if (no (by decide)) (aw_bind aw_t fun _ _ => aw_bind aw_t fun _ _ => aw_if (no (by decide)) (aw_bn2 (P := fun z => z.1 ≠ 0 → (ws.getD 2 (0, 0)).1 + 4 ≤ (ws.getD 2 (0, 0)).2) (fun z e hz => pw_4 h (i := 2) (by omega) (show M_isPrefixWord t (nI 2) = some (z.1, z.2) from e) hz) fun x5 s4 hP => ?_))
  by_cases c : x5 = 0
  · rw [if_pos c]; exact no (by decide)
  · exact fun _ _ _ => ⟨h4, hP c⟩
theorem ns_g (h : LX G H sa x rd s t l ws) : aw (M_lineNostatic t) (fun z => z.1 = 0 → 3 ≤ ws.length ∧ (ws.getD 2 (0, 0)).1 + 4 ≤ (ws.getD 2 (0, 0)).2) := by
  have no : ∀ {c : Int32} {t' : moS} {P : Prop}, c ≠ 0 → aw (some (c, t')) (fun z => z.1 = 0 → P) := fun hc => aw_some fun z => absurd z hc
  unfold M_lineNostatic
  by_cases c3 : t.S 11 = 3
  rotate_left
  · rw [if_neg c3]; exact no (by decide)
  rw [if_pos c3]
  have h3 : ws.length = 3 := by
    rw [h.ww] at c3
    exact (nI_eq (b := 3) (by have := h.nw; omega) (by decide)).mp c3
  refine aw_bind aw_t fun _ _ => aw_bind aw_t fun _ _ => aw_if (no (by decide)) (aw_bn2 (P := fun z => z.1 ≠ 0 → (ws.getD 2 (0, 0)).1 + 4 ≤ (ws.getD 2 (0, 0)).2) (fun z e hz => pw_4 h (i := 2) (by omega) (show M_isPrefixWord t (nI 2) = some (z.1, z.2) from e) hz) fun x5 s4 hP => ?_)
  by_cases c : x5 = 0
  · rw [if_pos c]; exact no (by decide)
  · exact fun _ _ _ => ⟨by omega, hP c⟩
end Le
