/-! The shape of a join: the model. -/
section Ms2
variable {G H : Nat → Nat → Nat} {sa : Nat → Nat} {x rd : Nat} {s : cS} {t : moS} {l : List Int32} {ws : List (Nat × Nat)} {P : List (Nat × Nat)}
theorem jOk_w (hP : jP (wC l ws) ws.length ws.length 4 0 = some P) : jOk (wC l ws) P ↔ (jW 2 P ≠ 0 → spV (wC l ws (jW 2 P)) ≠ -1) := by
  have nd := jP_nd ws.length 4 0 P (by decide) hP
  constructor
  · intro h z
    obtain ⟨e, q1, q2, q3⟩ := jW_m z
    rw [q3]; exact h e q1 q2
  · intro h e he e2
    have := jW_i nd he e2
    rw [this] at h
    exact h (by omega)
theorem m_shapeJ (h : LX G H sa x rd s t l ws) : (ws.length < 4 → M_lineJoin t = some (2, t)) ∧ (4 ≤ ws.length → (∀ P, jP (wC l ws) ws.length ws.length 4 0 = some P → ¬ jOk (wC l ws) P) → M_lineJoin t = some (2, t)) ∧ (4 ≤ ws.length → ∀ P, jP (wC l ws) ws.length ws.length 4 0 = some P → jOk (wC l ws) P → M_lineJoin t = M_lineJoin_b125 t (nI (jW 1 P)) (nI (jW 2 P)) (nI (jW 3 P)) (nI (jW 4 P)) (nI (jW 5 P))) := by
  have hn := h.nw
  have ar : 4 ≤ ws.length → M_areOptions t 4 216780 49683580 2627531736724 20992 30721 65688271285 = some (if (jP (wC l ws) ws.length ws.length 4 0).isSome = true then 1 else 0) := fun h4 => m_areJ h ws.length 4 0 (by decide) (by omega) (by omega)
  have main : 4 ≤ ws.length → ∀ P, jP (wC l ws) ws.length ws.length 4 0 = some P → (jOk (wC l ws) P → M_lineJoin t = M_lineJoin_b125 t (nI (jW 1 P)) (nI (jW 2 P)) (nI (jW 3 P)) (nI (jW 4 P)) (nI (jW 5 P))) ∧ (¬ jOk (wC l ws) P → M_lineJoin t = some (2, t)) := fun h4 P hP => by
    have op := fun k (h1 : 1 ≤ k) (h7 : k < 7) => m_optJ h h1 h7 ws.length 4 0 P (by decide) hP
    have o1 : M_option t 216780 4 = some (nI (jW 1 P)) := op 1 (by decide) (by decide)
    have o2 : M_option t 49683580 4 = some (nI (jW 2 P)) := op 2 (by decide) (by decide)
    have o3 : M_option t 2627531736724 4 = some (nI (jW 3 P)) := op 3 (by decide) (by decide)
    have o4 : M_option t 20992 4 = some (nI (jW 4 P)) := op 4 (by decide) (by decide)
    have o5 : M_option t 30721 4 = some (nI (jW 5 P)) := op 5 (by decide) (by decide)
    have a1 := ar h4
    rw [hP] at a1
    have e : M_lineJoin t = if (0 : Int32) < nI (jW 2 P) then Option.bind (M_code t (nI (jW 2 P))) (fun x7 => if x7 = 24246 then M_lineJoin_b125 t (nI (jW 1 P)) (nI (jW 2 P)) (nI (jW 3 P)) (nI (jW 4 P)) (nI (jW 5 P)) else Option.bind (M_code t (nI (jW 2 P))) (fun x8 => if x8 = 1969498085 then M_lineJoin_b125 t (nI (jW 1 P)) (nI (jW 2 P)) (nI (jW 3 P)) (nI (jW 4 P)) (nI (jW 5 P)) else Option.bind (M_code t (nI (jW 2 P))) (fun x9 => if x9 = 1677407014 then M_lineJoin_b125 t (nI (jW 1 P)) (nI (jW 2 P)) (nI (jW 3 P)) (nI (jW 4 P)) (nI (jW 5 P)) else some (2, t)))) else M_lineJoin_b125 t (nI (jW 1 P)) (nI (jW 2 P)) (nI (jW 3 P)) (nI (jW 4 P)) (nI (jW 5 P)) := by
      unfold M_lineJoin
      rw [h.ww, if_neg (show ¬ nI ws.length < 4 from nI_nlt (b := 4) h4 (by omega)), a1]
      show (if (if (some P).isSome = true then (1 : Int32) else 0) = 0 then some (2, t) else Option.bind (M_option t 216780 4) _) = _
      rw [if_neg (show ¬ (if (some P).isSome = true then (1 : Int32) else 0) = 0 by rw [if_pos (show (some P).isSome = true from rfl)]; decide), o1]
      show Option.bind (M_option t 49683580 4) _ = _
      rw [o2]
      show Option.bind (M_option t 2627531736724 4) _ = _
      rw [o3]
      show Option.bind (M_option t 20992 4) _ = _
      rw [o4]
      show Option.bind (M_option t 30721 4) _ = _
      rw [o5]
      rfl
    rw [jOk_w hP, e]
    by_cases z : jW 2 P = 0
    · rw [if_neg (by rw [z]; decide)]
      exact ⟨fun _ => rfl, fun y => absurd (fun q => absurd z q) y⟩
    · have lt := jW_lt hP z
      have hw : jW 2 P < ws.length := by rw [show szO 2 = 2 from rfl] at lt; omega
      rw [if_pos (show (0 : Int32) < nI (jW 2 P) from nI_lt (a := 0) (by omega) (by omega)), h.code hw]
      show (_ → (if wC l ws (jW 2 P) = 24246 then M_lineJoin_b125 t (nI (jW 1 P)) (nI (jW 2 P)) (nI (jW 3 P)) (nI (jW 4 P)) (nI (jW 5 P)) else if wC l ws (jW 2 P) = 1969498085 then M_lineJoin_b125 t (nI (jW 1 P)) (nI (jW 2 P)) (nI (jW 3 P)) (nI (jW 4 P)) (nI (jW 5 P)) else if wC l ws (jW 2 P) = 1677407014 then M_lineJoin_b125 t (nI (jW 1 P)) (nI (jW 2 P)) (nI (jW 3 P)) (nI (jW 4 P)) (nI (jW 5 P)) else some (2, t)) = _) ∧ (_ → (if wC l ws (jW 2 P) = 24246 then M_lineJoin_b125 t (nI (jW 1 P)) (nI (jW 2 P)) (nI (jW 3 P)) (nI (jW 4 P)) (nI (jW 5 P)) else if wC l ws (jW 2 P) = 1969498085 then M_lineJoin_b125 t (nI (jW 1 P)) (nI (jW 2 P)) (nI (jW 3 P)) (nI (jW 4 P)) (nI (jW 5 P)) else if wC l ws (jW 2 P) = 1677407014 then M_lineJoin_b125 t (nI (jW 1 P)) (nI (jW 2 P)) (nI (jW 3 P)) (nI (jW 4 P)) (nI (jW 5 P)) else some (2, t)) = _)
      unfold spV
      by_cases c1 : wC l ws (jW 2 P) = 24246
      · rw [if_pos c1, if_pos c1]
        exact ⟨fun _ => rfl, fun y => absurd (fun _ => by decide) y⟩
      rw [if_neg c1, if_neg c1]
      by_cases c2 : wC l ws (jW 2 P) = 1969498085
      · rw [if_pos c2, if_pos c2]
        exact ⟨fun _ => rfl, fun y => absurd (fun _ => by decide) y⟩
      rw [if_neg c2, if_neg c2]
      by_cases c3 : wC l ws (jW 2 P) = 1677407014
      · rw [if_pos c3, if_pos c3]
        exact ⟨fun _ => rfl, fun y => absurd (fun _ => by decide) y⟩
      rw [if_neg c3, if_neg c3]
      exact ⟨fun y => absurd rfl (y z), fun _ => rfl⟩
  refine ⟨fun h4 => ?_, fun h4 no => ?_, fun h4 P hP ok => (main h4 P hP).1 ok⟩
  · unfold M_lineJoin
    rw [h.ww]
    exact if_pos (nI_lt (b := 4) h4 (by decide))
  · cases hp : jP (wC l ws) ws.length ws.length 4 0 with
    | some P => exact (main h4 P hp).2 (no P hp)
    | none =>
      have a1 := ar h4
      rw [hp] at a1
      unfold M_lineJoin
      rw [h.ww, if_neg (show ¬ nI ws.length < 4 from nI_nlt (b := 4) h4 (by omega)), a1]
      rfl
end Ms2
