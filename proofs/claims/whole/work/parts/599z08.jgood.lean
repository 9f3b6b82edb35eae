/-! Whether a join's numbers are good: the model. -/
section Jg
variable {G H : Nat → Nat → Nat} {sa : Nat → Nat} {x rd : Nat} {s : cS} {t : moS} {l : List Int32} {ws : List (Nat × Nat)} {P : List (Nat × Nat)} {a2 a6 a7 a8 : Int32}
theorem jW_lt (hP : jP (wC l ws) ws.length ws.length 4 0 = some P) {k : Nat} (h : jW k P ≠ 0) : jW k P + szO k - 1 ≤ ws.length ∧ 5 ≤ jW k P ∧ jW k P < ws.length + 1 := by
  obtain ⟨-, -, j3⟩ := jP_k ws.length 4 0 P (by decide) hP
  obtain ⟨e, h1, h2, h3⟩ := jW_m h
  obtain ⟨q1, q2, -⟩ := j3 e h1
  rw [h2] at q2
  have := szO_b k
  omega
theorem gd_all (hP : jP (wC l ws) ws.length ws.length 4 0 = some P) : (∀ e, e ∈ P → gdE l ws e) ↔ (jW 1 P ≠ 0 → (nmR (wN l ws (jW 1 P)) 1 15).isSome = true) ∧ (jW 3 P ≠ 0 → sOK l ws (jW 3 P)) ∧ (jW 4 P ≠ 0 → (nmR (wN l ws (jW 4 P)) 0 255).isSome = true ∧ sOK l ws (jW 4 P + 1)) ∧ (jW 5 P ≠ 0 → (nmR (wN l ws (jW 5 P)) 0 255).isSome = true ∧ sOK l ws (jW 5 P + 1)) := by
  have nd := jP_nd ws.length 4 0 P (by decide) hP
  constructor
  · intro h
    refine ⟨fun z => ?_, fun z => ?_, fun z => ?_, fun z => ?_⟩
    · obtain ⟨e, h1, h2, h3⟩ := jW_m z
      rw [h3]; exact (h e h1).1 h2
    · obtain ⟨e, h1, h2, h3⟩ := jW_m z
      rw [h3]; exact (h e h1).2.1 h2
    · obtain ⟨e, h1, h2, h3⟩ := jW_m z
      rw [h3]; exact (h e h1).2.2 (Or.inl h2)
    · obtain ⟨e, h1, h2, h3⟩ := jW_m z
      rw [h3]; exact (h e h1).2.2 (Or.inr h2)
  · rintro ⟨g1, g3, g4, g5⟩ e he
    refine ⟨fun z => ?_, fun z => ?_, fun z => ?_⟩
    · have := jW_i nd he z
      rw [this] at g1
      exact g1 (by omega)
    · have := jW_i nd he z
      rw [this] at g3
      exact g3 (by omega)
    · rcases z with z | z
      · have := jW_i nd he z
        rw [this] at g4
        exact g4 (by omega)
      · have := jW_i nd he z
        rw [this] at g5
        exact g5 (by omega)
theorem m_keyO (h : LX G H sa x rd s t l ws) {w : Nat} (hw : w = 0 ∨ w + 1 < ws.length) : M_isKeyOption t (nI w) = some (if w ≠ 0 → (nmR (wN l ws w) 0 255).isSome = true ∧ sOK l ws (w + 1) then 1 else 0) := by
  have hn := h.nw
  unfold M_isKeyOption M_isKeyOption_b26 M_isKeyOption_b30
  by_cases c : w = 0
  · rw [if_pos (by rw [c]; rfl), if_pos (fun z => absurd c z)]
  have hw : w + 1 < ws.length := hw.resolve_left c
  rw [if_neg (show ¬ nI w = 0 from fun z => c ((nI_eq (b := 0) (by omega) (by decide)).mp z))]
  have e1 : M_isNumber t (nI w) 0 255 = some (if (nmR (wN l ws w) 0 255).isSome then 1 else 0) := h.isn (lo := 0) (hi := 255) (by omega) (by decide) (by decide)
  rw [e1]
  show (if (if (nmR (wN l ws w) 0 255).isSome = true then (1 : Int32) else 0) = 0 then some 0 else Option.bind (M_isSecret t (nI w + 1)) _) = _
  by_cases c1 : (nmR (wN l ws w) 0 255).isSome = true
  · rw [if_pos c1, if_neg (by decide), nI_1, m_secret h hw]
    show (if (if sOK l ws (w + 1) then (1 : Int32) else 0) = 0 then some 0 else some 1) = _
    by_cases c2 : sOK l ws (w + 1)
    · rw [if_pos c2, if_neg (by decide), if_pos (fun _ => ⟨c1, c2⟩)]
    · rw [if_neg c2, if_pos rfl, if_neg (fun z => c2 (z c).2)]
  · rw [if_neg c1, if_pos rfl, if_neg (fun z => c1 (z c).1)]
theorem m_good (h : LX G H sa x rd s t l ws) (hP : jP (wC l ws) ws.length ws.length 4 0 = some P) : ((∀ e, e ∈ P → gdE l ws e) → M_lineJoin_b206 t (nI (jW 1 P)) a2 (nI (jW 3 P)) (nI (jW 4 P)) (nI (jW 5 P)) a6 a7 a8 = M_lineJoin_b256 t (nI (jW 1 P)) a2 (nI (jW 3 P)) (nI (jW 4 P)) (nI (jW 5 P)) a6 a7 a8 1) ∧ (¬ (∀ e, e ∈ P → gdE l ws e) → M_lineJoin_b206 t (nI (jW 1 P)) a2 (nI (jW 3 P)) (nI (jW 4 P)) (nI (jW 5 P)) a6 a7 a8 = M_lineJoin_b256 t (nI (jW 1 P)) a2 (nI (jW 3 P)) (nI (jW 4 P)) (nI (jW 5 P)) a6 a7 a8 0) := by
  have hn := h.nw
  rw [gd_all hP]
  have lt := fun {k : Nat} (z : jW k P ≠ 0) => jW_lt (k := k) hP z
  have n0 : ∀ {w : Nat}, w < 2 ^ 31 → (nI w = 0 ↔ w = 0) := fun {w} hw => nI_eq (b := 0) hw (by decide)
  have b31 : ∀ k, jW k P < 2 ^ 31 := fun k => by
    by_cases z : jW k P = 0
    · rw [z]; decide
    · have := lt z; omega
  have k4 := m_keyO h (w := jW 4 P) (by
    by_cases z : jW 4 P = 0
    · exact Or.inl z
    · have := lt z; rw [show szO 4 = 3 from rfl] at this; exact Or.inr (by omega))
  have k5 := m_keyO h (w := jW 5 P) (by
    by_cases z : jW 5 P = 0
    · exact Or.inl z
    · have := lt z; rw [show szO 5 = 3 from rfl] at this; exact Or.inr (by omega))
  have b233 : M_lineJoin_b233 t (nI (jW 1 P)) a2 (nI (jW 3 P)) (nI (jW 4 P)) (nI (jW 5 P)) a6 a7 a8 = M_lineJoin_b256 t (nI (jW 1 P)) a2 (nI (jW 3 P)) (nI (jW 4 P)) (nI (jW 5 P)) a6 a7 a8 (if (jW 4 P ≠ 0 → (nmR (wN l ws (jW 4 P)) 0 255).isSome = true ∧ sOK l ws (jW 4 P + 1)) ∧ (jW 5 P ≠ 0 → (nmR (wN l ws (jW 5 P)) 0 255).isSome = true ∧ sOK l ws (jW 5 P + 1)) then 1 else 0) := by
    unfold M_lineJoin_b233 M_lineJoin_b255
    rw [k4]
    show (if (if jW 4 P ≠ 0 → (nmR (wN l ws (jW 4 P)) 0 255).isSome = true ∧ sOK l ws (jW 4 P + 1) then (1 : Int32) else 0) = 0 then M_lineJoin_b256 t (nI (jW 1 P)) a2 (nI (jW 3 P)) (nI (jW 4 P)) (nI (jW 5 P)) a6 a7 a8 0 else Option.bind (M_isKeyOption t (nI (jW 5 P))) _) = _
    by_cases c4 : jW 4 P ≠ 0 → (nmR (wN l ws (jW 4 P)) 0 255).isSome = true ∧ sOK l ws (jW 4 P + 1)
    · rw [if_pos c4, if_neg (by decide), k5]
      show (if (if jW 5 P ≠ 0 → (nmR (wN l ws (jW 5 P)) 0 255).isSome = true ∧ sOK l ws (jW 5 P + 1) then (1 : Int32) else 0) = 0 then M_lineJoin_b256 t (nI (jW 1 P)) a2 (nI (jW 3 P)) (nI (jW 4 P)) (nI (jW 5 P)) a6 a7 a8 0 else M_lineJoin_b256 t (nI (jW 1 P)) a2 (nI (jW 3 P)) (nI (jW 4 P)) (nI (jW 5 P)) a6 a7 a8 1) = _
      by_cases c5 : jW 5 P ≠ 0 → (nmR (wN l ws (jW 5 P)) 0 255).isSome = true ∧ sOK l ws (jW 5 P + 1)
      · rw [if_pos c5, if_neg (by decide), if_pos ⟨c4, c5⟩]
      · rw [if_neg c5, if_pos rfl, if_neg (fun z => c5 z.2)]
    · rw [if_neg c4, if_pos rfl, if_neg (fun z => c4 z.1)]
  generalize hY : (if (jW 4 P ≠ 0 → (nmR (wN l ws (jW 4 P)) 0 255).isSome = true ∧ sOK l ws (jW 4 P + 1)) ∧ (jW 5 P ≠ 0 → (nmR (wN l ws (jW 5 P)) 0 255).isSome = true ∧ sOK l ws (jW 5 P + 1)) then (1 : Int32) else 0) = y at b233
  have y1 : ((jW 4 P ≠ 0 → (nmR (wN l ws (jW 4 P)) 0 255).isSome = true ∧ sOK l ws (jW 4 P + 1)) ∧ (jW 5 P ≠ 0 → (nmR (wN l ws (jW 5 P)) 0 255).isSome = true ∧ sOK l ws (jW 5 P + 1))) → y = 1 := fun z => by rw [← hY, if_pos z]
  have y0 : ¬ ((jW 4 P ≠ 0 → (nmR (wN l ws (jW 4 P)) 0 255).isSome = true ∧ sOK l ws (jW 4 P + 1)) ∧ (jW 5 P ≠ 0 → (nmR (wN l ws (jW 5 P)) 0 255).isSome = true ∧ sOK l ws (jW 5 P + 1))) → y = 0 := fun z => by rw [← hY, if_neg z]
  have b221 : M_lineJoin_b221 t (nI (jW 1 P)) a2 (nI (jW 3 P)) (nI (jW 4 P)) (nI (jW 5 P)) a6 a7 a8 = M_lineJoin_b256 t (nI (jW 1 P)) a2 (nI (jW 3 P)) (nI (jW 4 P)) (nI (jW 5 P)) a6 a7 a8 (if jW 3 P ≠ 0 → sOK l ws (jW 3 P) then y else 0) := by
    unfold M_lineJoin_b221 M_lineJoin_b255
    rw [b233]
    by_cases c : jW 3 P = 0
    · rw [if_pos ((n0 (b31 3)).mpr c), if_pos (fun z => absurd c z)]
    · have hw : jW 3 P < ws.length := by have := lt c; rw [show szO 3 = 2 from rfl] at this; omega
      rw [if_neg (fun z => c ((n0 (b31 3)).mp z)), m_secret h hw]
      show (if (if sOK l ws (jW 3 P) then (1 : Int32) else 0) = 0 then _ else _) = _
      by_cases c3 : sOK l ws (jW 3 P)
      · rw [if_pos c3, if_neg (by decide), if_pos (fun _ => c3)]
      · rw [if_neg c3, if_pos rfl, if_neg (fun z => c3 (z c))]
  have b206 : M_lineJoin_b206 t (nI (jW 1 P)) a2 (nI (jW 3 P)) (nI (jW 4 P)) (nI (jW 5 P)) a6 a7 a8 = M_lineJoin_b256 t (nI (jW 1 P)) a2 (nI (jW 3 P)) (nI (jW 4 P)) (nI (jW 5 P)) a6 a7 a8 (if jW 1 P ≠ 0 → (nmR (wN l ws (jW 1 P)) 1 15).isSome = true then (if jW 3 P ≠ 0 → sOK l ws (jW 3 P) then y else 0) else 0) := by
    unfold M_lineJoin_b206 M_lineJoin_b255
    rw [b221]
    by_cases c : jW 1 P = 0
    · rw [if_pos ((n0 (b31 1)).mpr c), if_pos (fun z => absurd c z)]
    · have hw : jW 1 P < ws.length := by have := lt c; rw [show szO 1 = 2 from rfl] at this; omega
      have e1 : M_isNumber t (nI (jW 1 P)) 1 15 = some (if (nmR (wN l ws (jW 1 P)) 1 15).isSome then 1 else 0) := h.isn (lo := 1) (hi := 15) hw (by decide) (by decide)
      rw [if_neg (fun z => c ((n0 (b31 1)).mp z)), e1]
      show (if (if (nmR (wN l ws (jW 1 P)) 1 15).isSome = true then (1 : Int32) else 0) = 0 then _ else _) = _
      by_cases c3 : (nmR (wN l ws (jW 1 P)) 1 15).isSome = true
      · rw [if_pos c3, if_neg (by decide), if_pos (fun _ => c3)]
      · rw [if_neg c3, if_pos rfl, if_neg (fun z => c3 (z c))]
  rw [b206]
  refine ⟨fun ⟨z1, z3, z4⟩ => by rw [if_pos z1, if_pos z3, y1 z4], fun z => ?_⟩
  by_cases q1 : jW 1 P ≠ 0 → (nmR (wN l ws (jW 1 P)) 1 15).isSome = true
  · rw [if_pos q1]
    by_cases q3 : jW 3 P ≠ 0 → sOK l ws (jW 3 P)
    · rw [if_pos q3, y0 fun q4 => z ⟨q1, q3, q4⟩]
    · rw [if_neg q3]
  · rw [if_neg q1]
end Jg
