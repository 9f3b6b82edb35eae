/-! The options of a join in the class. -/
def joO (k : Nat) : Int32 := if k = 0 then -1 else nI k
def spV (c : Int64) : Int32 := if c = 24246 then 0 else if c = 1969498085 then 1 else if c = 1677407014 then 2 else -1
def jOk (C : Nat → Int64) (P : List (Nat × Nat)) : Prop := ∀ e, e ∈ P → e.1 = 2 → spV (C (e.2 + 1)) ≠ -1
section Jc
variable {G H : Nat → Nat → Nat} {sa : Nat → Nat} {x rd kc ks : Nat} {s : cS} {t : moS} {l : List Int32} {ws : List (Nat × Nat)} {Q : Int32 → cS → Nat → Nat → Prop}
theorem w_jOpt (h : RdC H x rd s l ws) (ht : TK sa s) (o7 : okO s 7 rd) {i : Nat} (hi : i < ws.length) (h24 : i < 24) (q : Q (joO (kOp (wC l ws i))) s kc ks) : C_Re_joinOption sa rd (nI i) s kc ks Q := by
  unfold C_Re_joinOption
  have e : ∀ k, k = kOp (wC l ws i) → Q (joO k) s kc ks := fun k z => by rw [z]; exact q
  unfold kOp at e
  refine ⟨o7, w_isK (k := 6) h ht 216780 hi h24 (fun c => ifF (by decide) ?_) fun c1 => ifT rfl ⟨o7, w_isK (k := 7) h ht 49683580 hi h24 (fun c => ifF (by decide) ?_) fun c2 => ifT rfl ⟨o7, w_isK (k := 8) h ht 2627531736724 hi h24 (fun c => ifF (by decide) ?_) fun c3 => ifT rfl ⟨o7, w_isK (k := 9) h ht 20992 hi h24 (fun c => ifF (by decide) ?_) fun c4 => ifT rfl ⟨o7, w_isK (k := 10) h ht 30721 hi h24 (fun c => ifF (by decide) ?_) fun c5 => ifT rfl ⟨o7, w_isK (k := 11) h ht 65688271285 hi h24 (fun c => ifF (by decide) ?_) fun c6 => ifT rfl ?_⟩⟩⟩⟩⟩⟩
  · exact e 1 (by rw [if_pos c])
  · exact e 2 (by rw [if_neg c1, if_pos c])
  · exact e 3 (by rw [if_neg c1, if_neg c2, if_pos c])
  · exact e 4 (by rw [if_neg c1, if_neg c2, if_neg c3, if_pos c])
  · exact e 5 (by rw [if_neg c1, if_neg c2, if_neg c3, if_neg c4, if_pos c])
  · exact e 6 (by rw [if_neg c1, if_neg c2, if_neg c3, if_neg c4, if_neg c5, if_pos c])
  · exact e 0 (by rw [if_neg c1, if_neg c2, if_neg c3, if_neg c4, if_neg c5, if_neg c6])
theorem w_spAt (h : RdC H x rd s l ws) (ht : TK sa s) (o7 : okO s 7 rd) {i : Nat} (hi : i < ws.length) (h24 : i < 24) (q : Q (spV (wC l ws i)) s kc ks) : C_Re_splitAt sa rd (nI i) s kc ks Q := by
  unfold C_Re_splitAt
  unfold spV at q
  refine ⟨o7, w_isK (k := 12) h ht 24246 hi h24 (fun c => ifF (by decide) ?_) fun c1 => ifT rfl ⟨o7, w_isK (k := 13) h ht 1969498085 hi h24 (fun c => ifF (by decide) ?_) fun c2 => ifT rfl ⟨o7, w_isK (k := 14) h ht 1677407014 hi h24 (fun c => ifF (by decide) ?_) fun c3 => ifT rfl ?_⟩⟩⟩
  · rw [if_pos c] at q; exact q
  · rw [if_neg c1, if_pos c] at q; exact q
  · rw [if_neg c1, if_neg c2, if_pos c] at q; exact q
  · rw [if_neg c1, if_neg c2, if_neg c3] at q; exact q
theorem w_spNo (h : RdC H x rd s l ws) (ht : TK sa s) (o7 : okO s 7 rd) {i : Nat} (h31 : i < 2 ^ 31) (hi : ¬ i < ws.length) (q : Q (-1) s kc ks) : C_Re_splitAt sa rd (nI i) s kc ks Q := by
  unfold C_Re_splitAt
  exact ⟨o7, w_isO h ht h31 (fun z => hi z.1) (ifT rfl ⟨o7, w_isO h ht h31 (fun z => hi z.1) (ifT rfl ⟨o7, w_isO h ht h31 (fun z => hi z.1) (ifT rfl q)⟩)⟩)⟩
theorem w_osz {k : Nat} (hk : 1 ≤ k) (h7 : k < 7) (q : Q (nI (szO k)) s kc ks) : C_Re_optionSize sa (nI k) s kc ks Q := by
  unfold C_Re_optionSize
  rcases (show k = 1 ∨ k = 2 ∨ k = 3 ∨ k = 4 ∨ k = 5 ∨ k = 6 by omega) with rfl | rfl | rfl | rfl | rfl | rfl
  · exact ifF (by decide) (ifF (by decide) (ifF (by decide) q))
  · exact ifF (by decide) (ifF (by decide) (ifF (by decide) q))
  · exact ifF (by decide) (ifF (by decide) (ifF (by decide) q))
  · exact ifF (by decide) (ifT rfl q)
  · exact ifF (by decide) (ifF (by decide) (ifT rfl q))
  · exact ifT rfl q
theorem w_hasJ (h : LX G H sa x rd s t l ws) (h4 : 4 ≤ ws.length) (k1 : ∀ P, jP (wC l ws) ws.length ws.length 4 0 = some P → jOk (wC l ws) P → Q 1 s kc ks) (k0 : (∀ P, jP (wC l ws) ws.length ws.length 4 0 = some P → ¬ jOk (wC l ws) P) → Q 0 s kc ks) : C_Re_hasJoinOptions sa rd s kc ks Q := by
  have hr := h.2.2.2.1
  have ht : TK sa s := h.1.q.1.tk
  have o7 : okO s 7 rd := okr h.2.2.1.2 7
  have hn := h.nw
  have wt : s.I (20 * 7 + 3) rd = nI ws.length := h.wt
  unfold C_Re_hasJoinOptions C_Re_hasJoinOptions_b4
  intro P4 hP
  have loop : ∀ u w m, m < 64 → ws.length < w + u → w ≤ 4 + msz m → (∀ P, jP (wC l ws) ws.length u w m = some P → jOk (wC l ws) P → Q 1 s kc ks) → ((∀ P, jP (wC l ws) ws.length u w m = some P → ¬ jOk (wC l ws) P) → Q 0 s kc ks) → P4 (nI (2 * m)) (nI w) s kc ks := by
    intro u
    induction u with
    | zero =>
      intro w m hm hw hb q1 q0
      apply hP
      unfold C_Re_hasJoinOptions_s4
      refine ⟨_, gd_to o7, ?_⟩
      rw [wt]
      refine ifF (nI_nlt (by omega) (by have := (jsz m hm 1 (by decide) (by decide)).1; omega)) ⟨_, gd_to o7, ?_⟩
      rw [wt]
      refine ifF (fun z => ?_) (q0 fun P hp => by cases hp)
      have := (nI_eq (by have := (jsz m hm 1 (by decide) (by decide)).1; omega) (by omega)).mp z
      omega
    | succ u ih =>
      intro w m hm hw hb q1 q0
      have m13 := (jsz m hm 1 (by decide) (by decide)).1
      apply hP
      unfold C_Re_hasJoinOptions_s4
      refine ⟨_, gd_to o7, ?_⟩
      rw [wt]
      by_cases c : w < ws.length
      rotate_left
      · have ej : jP (wC l ws) ws.length (u + 1) w m = (if w = ws.length then some [] else none) := if_neg c
        rw [ej] at q1 q0
        refine ifF (nI_nlt (by omega) (by omega)) ⟨_, gd_to o7, ?_⟩
        rw [wt]
        by_cases c2 : w = ws.length
        · rw [if_pos c2] at q1
          exact ifT (by rw [c2]) (q1 [] rfl fun e he => by cases he)
        · rw [if_neg c2] at q0
          exact ifF (fun z => c2 ((nI_eq (by omega) (by omega)).mp z)) (q0 fun P hp => by cases hp)
      have ej : jP (wC l ws) ws.length (u + 1) w m = (if kOp (wC l ws w) = 0 then none else if m.testBit (kOp (wC l ws w) - 1) = true then none else (jP (wC l ws) ws.length u (w + szO (kOp (wC l ws w))) (m ||| 2 ^ (kOp (wC l ws w) - 1))).map fun P => (kOp (wC l ws w), w) :: P) := if_pos c
      have hJ := fun P => jP_k (C := wC l ws) (n := ws.length) (u + 1) w m P hm
      rw [ej] at q1 q0 hJ
      refine ifT (nI_lt c (by omega)) ⟨o7, w_jOpt hr ht o7 c (by omega) ?_⟩
      have hl := kOp_le (wC l ws w)
      generalize hk : kOp (wC l ws w) = k at q1 q0 hl hJ ⊢
      unfold joO
      by_cases c0 : k = 0
      · rw [if_pos c0] at q0 ⊢
        exact ifT rfl (q0 fun P hp => by cases hp)
      rw [if_neg c0] at q1 q0 ⊢
      rw [if_neg c0] at hJ
      have nk : ¬ nI k = -1 := by
        rcases (show k = 1 ∨ k = 2 ∨ k = 3 ∨ k = 4 ∨ k = 5 ∨ k = 6 by omega) with rfl | rfl | rfl | rfl | rfl | rfl <;> decide
      obtain ⟨-, -, b3, b4, b5⟩ := jbit m hm k (by omega) (by omega)
      obtain ⟨-, z2⟩ := jsz m hm k (by omega) (by omega)
      refine ifF nk ?_
      by_cases c1 : m.testBit (k - 1) = true
      · rw [if_pos c1] at q0
        exact ifF (fun z => by rw [b4.mp z] at c1; cases c1) (q0 fun P hp => by cases hp)
      have c1' : m.testBit (k - 1) = false := by cases q : m.testBit (k - 1) with | false => rfl | true => exact absurd q c1
      rw [if_neg c1] at q1 q0 hJ
      have z2 := z2 c1'
      refine ifT (b4.mpr c1') ?_
      have go : (k = 2 → spV (wC l ws (w + 1)) ≠ -1) → C_Re_hasJoinOptions_b49 sa rd (nI (2 * m)) (nI w) (nI k) s kc ks Q P4 := fun hs => by
        unfold C_Re_hasJoinOptions_b49
        refine w_osz (by omega) (by omega) ?_
        rw [b5, nI_add]
        have sz := szO_b k
        refine ih (w + szO k) (m ||| 2 ^ (k - 1)) b3 (by omega) (by omega) (fun P hp ok => q1 ((k, w) :: P) (by rw [hp]; rfl) fun e he e2 => ?_) fun no => q0 fun P hp ok => ?_
        · rcases List.mem_cons.mp he with rfl | he
          · exact hs e2
          · exact ok e he e2
        · cases e : jP (wC l ws) ws.length u (w + szO k) (m ||| 2 ^ (k - 1)) with
          | none => rw [e] at hp; cases hp
          | some P' =>
            rw [e] at hp
            cases hp
            exact no P' e fun e' he e2 => ok e' (List.mem_cons_of_mem _ he) e2
      by_cases c2 : k = 2
      rotate_left
      · exact ifF (fun z => c2 ((nI_eq (b := 2) (by omega) (by decide)).mp z)) (go fun z => absurd z c2)
      refine ifT (by rw [c2]; rfl) ⟨o7, ?_⟩
      rw [nI_1]
      by_cases c3 : w + 1 < ws.length
      rotate_left
      · refine w_spNo hr ht o7 (by omega) c3 (ifT rfl (q0 fun P hp _ => ?_))
        cases e : jP (wC l ws) ws.length u (w + szO k) (m ||| 2 ^ (k - 1)) with
        | none => rw [e] at hp; cases hp
        | some P' =>
          rw [e] at hp
          cases hp
          obtain ⟨-, -, j3⟩ := hJ ((k, w) :: P') (by rw [e]; rfl)
          have j4 : w + szO k ≤ ws.length := (j3 (k, w) (List.mem_cons_self ..)).2.1
          rw [c2, show szO 2 = 2 from rfl] at j4
          omega
      · refine w_spAt hr ht o7 c3 (by omega) ?_
        by_cases c4 : spV (wC l ws (w + 1)) = -1
        · refine ifT c4 (q0 fun P hp ok => ?_)
          cases e : jP (wC l ws) ws.length u (w + szO k) (m ||| 2 ^ (k - 1)) with
          | none => rw [e] at hp; cases hp
          | some P' =>
            rw [e] at hp
            cases hp
            exact ok (k, w) (List.mem_cons_self ..) c2 c4
        · exact ifF c4 (go fun _ => c4)
  exact loop ws.length 4 0 (by decide) (by omega) (by decide) k1 k0
end Jc
