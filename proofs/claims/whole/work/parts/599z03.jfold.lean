/-! A join's options: what all of them come to. -/
/-- kinds that are all others -/
def kND : List (Nat × Nat) → Prop
  | [] => True
  | e :: r => (∀ e', e' ∈ r → e'.1 ≠ e.1) ∧ kND r
theorem jP_nd {C : Nat → Int64} {n : Nat} : ∀ u w m P, m < 64 → jP C n u w m = some P → kND P
  | 0, _, _, _, _, h => by cases h
  | u + 1, w, m, P, hm, h => by
    unfold jP at h
    by_cases c : w < n
    · rw [if_pos c] at h
      by_cases c0 : kOp (C w) = 0
      · rw [if_pos c0] at h; cases h
      rw [if_neg c0] at h
      by_cases c1 : m.testBit (kOp (C w) - 1) = true
      · rw [if_pos c1] at h; cases h
      rw [if_neg c1] at h
      have hl := kOp_le (C w)
      obtain ⟨-, -, b3, -, -⟩ := jbit m hm (kOp (C w)) (by omega) (by omega)
      cases e : jP C n u (w + szO (kOp (C w))) (m ||| 2 ^ (kOp (C w) - 1)) with
      | none => rw [e] at h; cases h
      | some P' =>
        rw [e] at h
        cases h
        obtain ⟨-, -, i3⟩ := jP_k u _ _ P' b3 e
        refine ⟨fun e' he z => ?_, jP_nd u _ _ P' b3 e⟩
        have z : e'.1 = kOp (C w) := z
        have j6 := (i3 e' he).2.2.2.2.2
        rw [z, Nat.testBit_or, Bool.or_eq_false_iff, Nat.testBit_two_pow_self] at j6
        exact absurd j6.2 (by decide)
    · rw [if_neg c] at h
      by_cases c2 : w = n
      · rw [if_pos c2] at h; cases h; exact trivial
      · rw [if_neg c2] at h; cases h
theorem jW_0 {k : Nat} : ∀ {P : List (Nat × Nat)}, (∀ e, e ∈ P → e.1 ≠ k) → jW k P = 0
  | [], _ => rfl
  | e :: r, h => by
    show (if e.1 = k then e.2 + 1 else jW k r) = 0
    rw [if_neg (h e (List.mem_cons_self ..)), jW_0 fun e' he => h e' (List.mem_cons_of_mem _ he)]
theorem jW_m {k : Nat} : ∀ {P : List (Nat × Nat)}, jW k P ≠ 0 → ∃ e, e ∈ P ∧ e.1 = k ∧ jW k P = e.2 + 1
  | [], h => absurd rfl h
  | e :: r, h => by
    by_cases c : e.1 = k
    · exact ⟨e, List.mem_cons_self .., c, if_pos c⟩
    · have e0 : jW k (e :: r) = jW k r := if_neg c
      rw [e0] at h ⊢
      obtain ⟨e', h1, h2, h3⟩ := jW_m h
      exact ⟨e', List.mem_cons_of_mem _ h1, h2, h3⟩
theorem jW_i {k : Nat} : ∀ {P : List (Nat × Nat)} {e : Nat × Nat}, kND P → e ∈ P → e.1 = k → jW k P = e.2 + 1
  | [], _, _, h, _ => by cases h
  | a :: r, e, nd, h, hk => by
    rcases List.mem_cons.mp h with rfl | h
    · exact if_pos hk
    · have : a.1 ≠ k := fun z => nd.1 e h (hk.trans z.symm)
      show (if a.1 = k then a.2 + 1 else jW k r) = _
      rw [if_neg this]
      exact jW_i nd.2 h hk
section Jf
variable {l : List Int32} {ws : List (Nat × Nat)}
/-- its numbers and secrets are good -/
def gdE (l : List Int32) (ws : List (Nat × Nat)) (e : Nat × Nat) : Prop := (e.1 = 1 → (nmR (wN l ws (e.2 + 1)) 1 15).isSome = true) ∧ (e.1 = 3 → sOK l ws (e.2 + 1)) ∧ (e.1 = 4 ∨ e.1 = 5 → (nmR (wN l ws (e.2 + 1)) 0 255).isSome = true ∧ sOK l ws (e.2 + 2))
noncomputable def vS (l : List Int32) (ws : List (Nat × Nat)) (V : chV) (e : Nat × Nat) : chV := if e.1 = 3 ∨ e.1 = 4 ∨ e.1 = 5 then (kyO l ws e.1 e.2 V).2 else V
/-- there is room for all keys -/
def rmO (l : List Int32) (ws : List (Nat × Nat)) : List (Nat × Nat) → chV → Prop
  | [], _ => True
  | e :: r, V => (e.1 = 3 ∨ e.1 = 4 ∨ e.1 = 5 → (kyO l ws e.1 e.2 V).1 ≠ 6) ∧ rmO l ws r (vS l ws V e)
theorem oI_s {o : Option Nat} {lo hi : Nat} (hhi : hi < 2 ^ 31) : oI (nmR o lo hi) = -1 ↔ ¬ (nmR o lo hi).isSome = true := by
  cases e : nmR o lo hi with
  | none => exact ⟨(fun _ z => by cases z), fun _ => rfl⟩
  | some n => exact ⟨fun z => absurd z (oI_n1 n (by have := nmR_b e; omega)), fun z => absurd rfl z⟩
theorem ky_4 {k w : Nat} {V : chV} (hk : k = 3 ∨ k = 4 ∨ k = 5) : ((kyO l ws k w V).1 = 4 ↔ ¬ gdE l ws (k, w)) ∧ ((kyO l ws k w V).1 = 0 ∨ (kyO l ws k w V).1 = 4 ∨ (kyO l ws k w V).1 = 6) ∧ ((kyO l ws k w V).1 ≠ 0 → (kyO l ws k w V).2 = V) := by
  unfold kyO gdE
  by_cases c3 : k = 3
  · rw [if_pos c3]
    by_cases c : sOK l ws (w + 1)
    · rw [if_pos c]
      refine ⟨⟨fun z => absurd (show (0 : Int32) = 4 from z) (by decide), fun z => absurd ⟨fun y => ?_, fun _ => c, fun y => ?_⟩ z⟩, Or.inl rfl, fun z => absurd rfl z⟩
      · have y : k = 1 := y; omega
      · have y : k = 4 ∨ k = 5 := y; omega
    · rw [if_neg c]
      exact ⟨⟨fun _ z => c (z.2.1 c3), fun _ => rfl⟩, Or.inr (Or.inl rfl), fun _ => rfl⟩
  · rw [if_neg c3]
    have k45 : k = 4 ∨ k = 5 := by omega
    cases e : nmR (wN l ws (w + 1)) 0 255 with
    | none =>
      refine ⟨⟨fun _ z => ?_, fun _ => rfl⟩, Or.inr (Or.inl rfl), fun _ => rfl⟩
      have := (z.2.2 k45).1
      cases this
    | some n =>
      show ((if sOK l ws (w + 2) then (if kIx (nI n) V.2.2 < 4 then ((0 : Int32), vKey V (nI n, if k = 4 then 0 else 1, wS l ws (w + 2), 0, 99999)) else (6, V)) else (4, V)).1 = 4 ↔ _) ∧ ((if sOK l ws (w + 2) then (if kIx (nI n) V.2.2 < 4 then ((0 : Int32), vKey V (nI n, if k = 4 then 0 else 1, wS l ws (w + 2), 0, 99999)) else (6, V)) else (4, V)).1 = 0 ∨ (if sOK l ws (w + 2) then (if kIx (nI n) V.2.2 < 4 then ((0 : Int32), vKey V (nI n, if k = 4 then 0 else 1, wS l ws (w + 2), 0, 99999)) else (6, V)) else (4, V)).1 = 4 ∨ (if sOK l ws (w + 2) then (if kIx (nI n) V.2.2 < 4 then ((0 : Int32), vKey V (nI n, if k = 4 then 0 else 1, wS l ws (w + 2), 0, 99999)) else (6, V)) else (4, V)).1 = 6) ∧ ((if sOK l ws (w + 2) then (if kIx (nI n) V.2.2 < 4 then ((0 : Int32), vKey V (nI n, if k = 4 then 0 else 1, wS l ws (w + 2), 0, 99999)) else (6, V)) else (4, V)).1 ≠ 0 → (if sOK l ws (w + 2) then (if kIx (nI n) V.2.2 < 4 then ((0 : Int32), vKey V (nI n, if k = 4 then 0 else 1, wS l ws (w + 2), 0, 99999)) else (6, V)) else (4, V)).2 = V)
      by_cases c : sOK l ws (w + 2)
      · have good : (k = 1 → (nmR (wN l ws (w + 1)) 1 15).isSome = true) ∧ (k = 3 → sOK l ws (w + 1)) ∧ (k = 4 ∨ k = 5 → (some n).isSome = true ∧ sOK l ws (w + 2)) := ⟨fun z => by omega, fun z => absurd z c3, fun _ => ⟨rfl, c⟩⟩
        rw [if_pos c]
        by_cases c4 : kIx (nI n) V.2.2 < 4
        · rw [if_pos c4]
          exact ⟨⟨fun z => absurd (show (0 : Int32) = 4 from z) (by decide), fun z => absurd good z⟩, Or.inl rfl, fun z => absurd rfl z⟩
        · rw [if_neg c4]
          exact ⟨⟨fun z => absurd (show (6 : Int32) = 4 from z) (by decide), fun z => absurd good z⟩, Or.inr (Or.inr rfl), fun _ => rfl⟩
      · rw [if_neg c]
        exact ⟨⟨fun _ z => c (z.2.2 k45).2, fun _ => rfl⟩, Or.inr (Or.inl rfl), fun _ => rfl⟩
theorem jf_4 : ∀ (P : List (Nat × Nat)) (z : jT), (∀ e, e ∈ P → 1 ≤ e.1 ∧ e.1 ≤ 6) → ((P.foldl (jS l ws) z).2.2.2.2 = 4 ↔ z.2.2.2.2 = 4 ∨ ∃ e, e ∈ P ∧ ¬ gdE l ws e)
  | [], z, _ => ⟨Or.inl, fun h => h.elim id fun ⟨_, h, _⟩ => by cases h⟩
  | e :: r, z, hr => by
    show (r.foldl (jS l ws) (jS l ws z e)).2.2.2.2 = 4 ↔ _
    rw [jf_4 r (jS l ws z e) fun e' he => hr e' (List.mem_cons_of_mem _ he)]
    have key : (jS l ws z e).2.2.2.2 = 4 ↔ z.2.2.2.2 = 4 ∨ ¬ gdE l ws e := by
      unfold jS
      by_cases c1 : e.1 = 1
      · rw [if_pos c1]
        show (if oI (nmR (wN l ws (e.2 + 1)) 1 15) = -1 then (4 : Int32) else z.2.2.2.2) = 4 ↔ _
        by_cases c : (nmR (wN l ws (e.2 + 1)) 1 15).isSome = true
        · rw [if_neg (fun y => (oI_s (by decide)).mp y c)]
          exact ⟨Or.inl, fun h => h.elim id fun y => absurd ⟨fun _ => c, fun q => by omega, fun q => by omega⟩ y⟩
        · rw [if_pos ((oI_s (by decide)).mpr c)]
          exact ⟨fun _ => Or.inr fun y => c (y.1 c1), fun _ => rfl⟩
      rw [if_neg c1]
      by_cases c2 : e.1 = 2
      · rw [if_pos c2]
        exact ⟨Or.inl, fun h => h.elim id fun y => absurd ⟨fun q => by omega, fun q => by omega, fun q => by omega⟩ y⟩
      rw [if_neg c2]
      by_cases c6 : e.1 = 6
      · rw [if_pos c6]
        exact ⟨Or.inl, fun h => h.elim id fun y => absurd ⟨fun q => by omega, fun q => by omega, fun q => by omega⟩ y⟩
      rw [if_neg c6]
      have h16 := hr e (List.mem_cons_self ..)
      obtain ⟨k4, -, -⟩ := ky_4 (l := l) (ws := ws) (k := e.1) (w := e.2) (V := z.2.2.2.1) (by omega)
      show (if (kyO l ws e.1 e.2 z.2.2.2.1).1 = 4 then (kyO l ws e.1 e.2 z.2.2.2.1).1 else if z.2.2.2.2 = 0 then (kyO l ws e.1 e.2 z.2.2.2.1).1 else z.2.2.2.2) = 4 ↔ _
      by_cases q4 : (kyO l ws e.1 e.2 z.2.2.2.1).1 = 4
      · rw [if_pos q4]
        exact ⟨fun _ => Or.inr (k4.mp q4), fun _ => q4⟩
      rw [if_neg q4]
      by_cases f0 : z.2.2.2.2 = 0
      · rw [if_pos f0, f0]
        exact ⟨fun h => absurd h q4, fun h => h.elim (fun y => absurd y (by decide)) fun y => absurd (k4.mpr y) q4⟩
      · rw [if_neg f0]
        exact ⟨Or.inl, fun h => h.elim id fun y => absurd (k4.mpr y) q4⟩
    rw [key]
    constructor
    · rintro ((h | h) | ⟨e', h1, h2⟩)
      · exact Or.inl h
      · exact Or.inr ⟨e, List.mem_cons_self .., h⟩
      · exact Or.inr ⟨e', List.mem_cons_of_mem _ h1, h2⟩
    · rintro (h | ⟨e', h1, h2⟩)
      · exact Or.inl (Or.inl h)
      · rcases List.mem_cons.mp h1 with rfl | h1
        · exact Or.inl (Or.inr h2)
        · exact Or.inr ⟨e', h1, h2⟩
/-- where all are good -/
theorem jf_6 : ∀ (P : List (Nat × Nat)) (z : jT), (∀ e, e ∈ P → 1 ≤ e.1 ∧ e.1 ≤ 6) → (∀ e, e ∈ P → gdE l ws e) → (z.2.2.2.2 = 6 → (P.foldl (jS l ws) z).2.2.2.2 = 6) ∧ (z.2.2.2.2 = 0 → (rmO l ws P z.2.2.2.1 → (P.foldl (jS l ws) z).2.2.2.2 = 0 ∧ (P.foldl (jS l ws) z).2.2.2.1 = P.foldl (vS l ws) z.2.2.2.1) ∧ (¬ rmO l ws P z.2.2.2.1 → (P.foldl (jS l ws) z).2.2.2.2 = 6))
  | [], z, _, _ => ⟨id, fun h => ⟨fun _ => ⟨h, rfl⟩, fun y => absurd trivial y⟩⟩
  | e :: r, z, hr, hg => by
    obtain ⟨i6, i0⟩ := jf_6 r (jS l ws z e) (fun e' he => hr e' (List.mem_cons_of_mem _ he)) fun e' he => hg e' (List.mem_cons_of_mem _ he)
    have g := hg e (List.mem_cons_self ..)
    have h16 := hr e (List.mem_cons_self ..)
    by_cases ck : e.1 = 3 ∨ e.1 = 4 ∨ e.1 = 5
    · obtain ⟨k4, k06, k2⟩ := ky_4 (l := l) (ws := ws) (k := e.1) (w := e.2) (V := z.2.2.2.1) ck
      have n4 : ¬ (kyO l ws e.1 e.2 z.2.2.2.1).1 = 4 := fun y => k4.mp y g
      have ez : jS l ws z e = (z.1, z.2.1, z.2.2.1, (kyO l ws e.1 e.2 z.2.2.2.1).2, if z.2.2.2.2 = 0 then (kyO l ws e.1 e.2 z.2.2.2.1).1 else z.2.2.2.2) := by
        unfold jS
        rw [if_neg (by omega), if_neg (by omega), if_neg (by omega), if_neg n4]
      have ev : vS l ws z.2.2.2.1 e = (kyO l ws e.1 e.2 z.2.2.2.1).2 := if_pos ck
      rw [ez] at i6 i0
      refine ⟨fun h6 => ?_, fun h0 => ?_⟩
      · show (r.foldl (jS l ws) (jS l ws z e)).2.2.2.2 = 6
        rw [ez]
        exact i6 (by show (if z.2.2.2.2 = 0 then _ else z.2.2.2.2) = 6; rw [if_neg (by rw [h6]; decide)]; exact h6)
      · rw [h0, if_pos rfl] at ez i6 i0
        show (rmO l ws (e :: r) z.2.2.2.1 → (r.foldl (jS l ws) (jS l ws z e)).2.2.2.2 = 0 ∧ (r.foldl (jS l ws) (jS l ws z e)).2.2.2.1 = r.foldl (vS l ws) (vS l ws z.2.2.2.1 e)) ∧ (¬ rmO l ws (e :: r) z.2.2.2.1 → (r.foldl (jS l ws) (jS l ws z e)).2.2.2.2 = 6)
        rw [ez, ev]
        rcases k06 with q | q | q
        · obtain ⟨a1, a2⟩ := i0 q
          refine ⟨fun hm => a1 (by have := hm.2; rw [ev] at this; exact this), fun hm => a2 fun y => hm ⟨fun _ => by rw [q]; decide, by rw [ev]; exact y⟩⟩
        · exact absurd q n4
        · refine ⟨fun hm => absurd q (hm.1 ck), fun _ => i6 q⟩
    · have ev : vS l ws z.2.2.2.1 e = z.2.2.2.1 := if_neg ck
      have e4 : (jS l ws z e).2.2.2.2 = z.2.2.2.2 ∧ (jS l ws z e).2.2.2.1 = z.2.2.2.1 := by
        unfold jS
        by_cases c1 : e.1 = 1
        · rw [if_pos c1, if_neg (fun y => (oI_s (by decide)).mp y (g.1 c1))]
          exact ⟨rfl, rfl⟩
        rw [if_neg c1]
        by_cases c2 : e.1 = 2
        · rw [if_pos c2]; exact ⟨rfl, rfl⟩
        rw [if_neg c2, if_pos (by omega)]
        exact ⟨rfl, rfl⟩
      rw [e4.1, e4.2] at i0
      rw [e4.1] at i6
      refine ⟨i6, fun h0 => ?_⟩
      obtain ⟨a1, a2⟩ := i0 h0
      show (rmO l ws (e :: r) z.2.2.2.1 → (r.foldl (jS l ws) (jS l ws z e)).2.2.2.2 = 0 ∧ (r.foldl (jS l ws) (jS l ws z e)).2.2.2.1 = r.foldl (vS l ws) (vS l ws z.2.2.2.1 e)) ∧ (¬ rmO l ws (e :: r) z.2.2.2.1 → (r.foldl (jS l ws) (jS l ws z e)).2.2.2.2 = 6)
      rw [ev]
      exact ⟨fun hm => a1 (by have := hm.2; rw [ev] at this; exact this), fun hm => a2 fun y => hm ⟨fun q => absurd q ck, by rw [ev]; exact y⟩⟩
/-- cost, split, passive -/
theorem jf_o : ∀ (P : List (Nat × Nat)) (z : jT), kND P → (P.foldl (jS l ws) z).1 = (if jW 1 P = 0 then z.1 else oI (nmR (wN l ws (jW 1 P)) 1 15)) ∧ (P.foldl (jS l ws) z).2.1 = (if jW 2 P = 0 then z.2.1 else spV (wC l ws (jW 2 P))) ∧ (P.foldl (jS l ws) z).2.2.1 = (if jW 6 P = 0 then z.2.2.1 else 1)
  | [], z, _ => ⟨rfl, rfl, rfl⟩
  | e :: r, z, nd => by
    obtain ⟨i1, i2, i3⟩ := jf_o r (jS l ws z e) nd.2
    have w : ∀ k, jW k (e :: r) = if e.1 = k then e.2 + 1 else jW k r := fun _ => rfl
    have z0 : ∀ k, e.1 = k → jW k r = 0 := fun k hk => jW_0 fun e' he q => nd.1 e' he (q.trans hk.symm)
    show (r.foldl (jS l ws) (jS l ws z e)).1 = _ ∧ (r.foldl (jS l ws) (jS l ws z e)).2.1 = _ ∧ (r.foldl (jS l ws) (jS l ws z e)).2.2.1 = _
    rw [i1, i2, i3, w 1, w 2, w 6]
    unfold jS
    by_cases c1 : e.1 = 1
    · rw [z0 1 c1, if_pos rfl, if_pos c1, if_pos c1, if_neg (show ¬ e.1 = 2 by omega), if_neg (show ¬ e.1 = 6 by omega)]
      exact ⟨(if_neg (by omega)).symm, rfl, rfl⟩
    rw [if_neg c1, if_neg c1]
    by_cases c2 : e.1 = 2
    · rw [z0 2 c2, if_pos c2, if_pos c2, if_neg (show ¬ e.1 = 6 by omega)]
      exact ⟨rfl, (if_pos rfl).trans (if_neg (by omega)).symm, rfl⟩
    rw [if_neg c2, if_neg c2]
    by_cases c6 : e.1 = 6
    · rw [z0 6 c6, if_pos c6, if_pos c6]
      exact ⟨rfl, rfl, (if_pos rfl).trans (if_neg (by omega)).symm⟩
    · rw [if_neg c6, if_neg c6]
      exact ⟨rfl, rfl, rfl⟩
end Jf
