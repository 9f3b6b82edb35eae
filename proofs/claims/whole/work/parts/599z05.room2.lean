/-! The model's haveRoom: all options. -/
theorem jb34 : ∀ m, m < 64 → ∀ k, k < 7 → ∀ k', k' < 6 → (k' ≠ k - 1 → (m ||| 2 ^ (k - 1)).testBit k' = m.testBit k') ∧ (k' = k - 1 → (m ||| 2 ^ (k - 1)).testBit k' = true) := by decide +kernel
theorem kHas_put {L : List kV} {v : kV} {u : Int32} : kHas (kPut L v) u ↔ u = v.1 ∨ kHas L u := by
  have hle := kIx_le v.1 L
  constructor
  · rintro ⟨k, w, h1, h2⟩
    rcases kPut_g L v k w h1 with ⟨-, rfl⟩ | ⟨-, h⟩
    · exact Or.inl h2.symm
    · exact Or.inr ⟨k, w, h, h2⟩
  · have hv : kHas (kPut L v) v.1 := by
      unfold kPut
      by_cases c : kIx v.1 L < L.length
      · rw [if_pos c]
        exact ⟨kIx v.1 L, v, by rw [List.getElem?_set_self c], rfl⟩
      · rw [if_neg c]
        exact ⟨L.length, v, by rw [List.getElem?_append_right (Nat.le_refl _), Nat.sub_self]; rfl, rfl⟩
    rintro (rfl | ⟨k, w, h1, h2⟩)
    · exact hv
    · by_cases ck : k = kIx v.1 L
      · have : w.1 = v.1 := kIx_a v.1 L w (by rw [← ck]; exact h1)
        rw [← h2, this]; exact hv
      · refine ⟨k, w, ?_, h2⟩
        have hk := (List.getElem?_eq_some_iff.mp h1).1
        unfold kPut
        split
        · rw [List.getElem?_set_ne (fun z => ck z.symm)]; exact h1
        · rw [List.getElem?_append_left hk]; exact h1
/-- where the kinds stand that were there, and those that come -/
def cA (Pt : List (Nat × Nat)) (m w : Nat) (P : List (Nat × Nat)) : Prop := ∀ k, k = 3 ∨ k = 4 ∨ k = 5 → (m.testBit (k - 1) = true → jW k Pt < w) ∧ (m.testBit (k - 1) = false → jW k Pt = jW k P)
theorem cA_c {Pt P : List (Nat × Nat)} {m w k : Nat} (h : cA Pt m w ((k, w) :: P)) (hm : m < 64) (hk : 1 ≤ k ∧ k < 7) : cA Pt (m ||| 2 ^ (k - 1)) (w + szO k) P := by
  intro k' hk'
  obtain ⟨h1, h2⟩ := h k' hk'
  obtain ⟨b1, b2⟩ := jb34 m hm k hk.2 (k' - 1) (by omega)
  have sz := szO_b k
  by_cases c : k' = k
  · rw [b2 (by omega)]
    refine ⟨fun _ => ?_, fun z => by cases z⟩
    have s2 : 2 ≤ szO k := by rw [← c]; rcases hk' with rfl | rfl | rfl <;> decide
    cases e : m.testBit (k' - 1) with
    | true => have := h1 e; omega
    | false =>
      rw [h2 e, show jW k' ((k, w) :: P) = w + 1 from if_pos c.symm]
      omega
  · rw [b1 (by omega)]
    exact ⟨fun z => by have := h1 z; omega, fun z => (h2 z).trans (if_neg fun q => c q.symm)⟩
/-- which words tell keys -/
theorem cA_n {C : Nat → Int64} {n u m w k i : Nat} {Pt P : List (Nat × Nat)} (h : cA Pt m w ((k, w) :: P)) (hm : m < 64) (hk : 1 ≤ k ∧ k < 7) (hP : jP C n u (w + szO k) (m ||| 2 ^ (k - 1)) = some P) (hw : 1 ≤ w) (hi : w ≤ i ∧ i < w + szO k) (hn : n ≤ 2100) (k' : Nat) (hk' : k' = 3 ∨ k' = 4 ∨ k' = 5) (hc : m.testBit (k - 1) = false) : (nI i = nI (jW k' Pt) ↔ i = w + 1 ∧ k' = k) := by
  obtain ⟨h1, h2⟩ := h k' hk'
  obtain ⟨-, -, b3, -, -⟩ := jbit m hm k hk.2 hk.1
  obtain ⟨j1, -, j3⟩ := jP_k u _ _ P b3 hP
  have val : jW k' Pt < w ∨ (k' = k ∧ jW k' Pt = w + 1) ∨ (k' ≠ k ∧ jW k' Pt = 0) ∨ (k' ≠ k ∧ w + szO k + 1 ≤ jW k' Pt ∧ jW k' Pt ≤ n) := by
    cases e : m.testBit (k' - 1) with
    | true => exact Or.inl (h1 e)
    | false =>
      rw [h2 e]
      by_cases c : k' = k
      · exact Or.inr (Or.inl ⟨c, if_pos c.symm⟩)
      · have e0 : jW k' ((k, w) :: P) = jW k' P := if_neg fun q => c q.symm
        rw [e0]
        by_cases z : jW k' P = 0
        · exact Or.inr (Or.inr (Or.inl ⟨c, z⟩))
        · obtain ⟨e', q1, -, q3⟩ := jW_m z
          obtain ⟨r1, r2, -⟩ := j3 e' q1
          have := szO_b e'.1
          exact Or.inr (Or.inr (Or.inr ⟨c, by omega, by omega⟩))
  have kb : k' = k → ¬ jW k' Pt < w := fun z y => by
    have := h2 (by rw [z]; exact hc)
    rw [show jW k' ((k, w) :: P) = w + 1 from if_pos z.symm] at this
    omega
  constructor
  · intro z
    have := (nI_eq (by omega) (by omega)).mp z
    rcases val with v | ⟨v1, v2⟩ | ⟨v1, v2⟩ | ⟨v1, v2, v3⟩
    · omega
    · exact ⟨by omega, v1⟩
    · omega
    · omega
  · rintro ⟨z1, z2⟩
    rcases val with v | ⟨v1, v2⟩ | ⟨v1, v2⟩ | ⟨v1, v2, v3⟩
    · exact absurd v (kb z2)
    · rw [v2, z1]
    · exact absurd z2 v1
    · exact absurd z2 v1
section Hs
variable {G H : Nat → Nat → Nat} {sa : Nat → Nat} {x rd : Nat} {s : cS} {t : moS} {l : List Int32} {ws : List (Nat × Nat)} {p1 : Int32} {Pt : List (Nat × Nat)} {L0 : List kV} {A5 : Int32 → Prop}
theorem m_hrL (h : LX G H sa x rd s t l ws) (a0 : A5 0) (K : ∀ a5 a6 a7 a8 v n, A5 a5 → M_number t a8 = some v → a6 = nI n → n ≤ 4 → ∃ b : Bool, (b = true ↔ v = a7 ∨ a5 ≠ 0 ∧ kHas L0 v) ∧ M_haveRoom_b85 t p1 (nI (jW 3 Pt)) (nI (jW 4 Pt)) (nI (jW 5 Pt)) a5 a6 a7 a8 = if 4 < n + (if b = true then 0 else 1) then xo (some 0) else some (.inl (a5, nI (n + (if b = true then 0 else 1)), (if a7 = -1 then v else a7), a8 + 1))) : ∀ u w m P (V : chV) a5 a7, m < 64 → 4 ≤ w → jP (wC l ws) ws.length u w m = some P → cA Pt m w P → (∀ e, e ∈ P → gdE l ws e) → A5 a5 → V.2.2.length ≤ 4 → (m.testBit 3 = false → m.testBit 4 = false → a7 = -1) → (¬ (m.testBit 3 = true ∧ m.testBit 4 = true) → ∀ n, n ≤ 255 → ((nI n = a7 ∨ a5 ≠ 0 ∧ kHas L0 (nI n)) ↔ kHas V.2.2 (nI n))) → ∃ b : Bool, (b = true ↔ rmO l ws P V) ∧ lp (fun y : Int32 × Int32 × Int32 × Int32 => M_haveRoom_s45 t p1 (nI (jW 3 Pt)) (nI (jW 4 Pt)) (nI (jW 5 Pt)) y.1 y.2.1 y.2.2.1 y.2.2.2) (a5, nI V.2.2.length, a7, nI w) = some (if b = true then 1 else 0)
  | 0, _, _, _, _, _, _, _, _, hp, _, _, _, _, _, _ => by cases hp
  | u + 1, w, m, P, V, a5, a7, hm, h4, hp, ca, hg, hA, hL, i1, i2 => by
    have hn := h.nw
    have jk := jP_k (u + 1) w m P hm hp
    by_cases c : w < ws.length
    rotate_left
    · have ej : jP (wC l ws) ws.length (u + 1) w m = (if w = ws.length then some [] else none) := if_neg c
      rw [ej] at hp
      have c2 : w = ws.length := Classical.byContradiction fun y => by rw [if_neg y] at hp; cases hp
      rw [if_pos c2] at hp
      cases hp
      refine ⟨true, ⟨fun _ => trivial, fun _ => rfl⟩, lp_x ?_⟩
      show M_haveRoom_s45 t p1 _ _ _ a5 (nI V.2.2.length) a7 (nI w) = _
      unfold M_haveRoom_s45
      rw [h.ww, if_neg (nI_nlt (by omega) (by omega))]
      rfl
    have ej : jP (wC l ws) ws.length (u + 1) w m = (if kOp (wC l ws w) = 0 then none else if m.testBit (kOp (wC l ws w) - 1) = true then none else (jP (wC l ws) ws.length u (w + szO (kOp (wC l ws w))) (m ||| 2 ^ (kOp (wC l ws w) - 1))).map fun P => (kOp (wC l ws w), w) :: P) := if_pos c
    rw [ej] at hp
    have hl := kOp_le (wC l ws w)
    generalize hk : kOp (wC l ws w) = k at hp hl
    by_cases c0 : k = 0
    · rw [if_pos c0] at hp; cases hp
    rw [if_neg c0] at hp
    by_cases c1 : m.testBit (k - 1) = true
    · rw [if_pos c1] at hp; cases hp
    rw [if_neg c1] at hp
    have c1 : m.testBit (k - 1) = false := by cases q : m.testBit (k - 1) with | false => rfl | true => exact absurd q c1
    obtain ⟨-, -, b3, -, -⟩ := jbit m hm k (by omega) (by omega)
    cases e : jP (wC l ws) ws.length u (w + szO k) (m ||| 2 ^ (k - 1)) with
    | none => rw [e] at hp; cases hp
    | some P' =>
      rw [e] at hp
      cases hp
      have sz := szO_b k
      have j2 : w + szO k ≤ ws.length := (jk.2.2 (k, w) (List.mem_cons_self ..)).2.1
      have g := hg (k, w) (List.mem_cons_self ..)
      have hg' : ∀ e, e ∈ P' → gdE l ws e := fun e' he => hg e' (List.mem_cons_of_mem _ he)
      have ca' := cA_c ca hm ⟨by omega, by omega⟩
      have ev := fun i hi k' hk' => cA_n (i := i) ca hm ⟨by omega, by omega⟩ e (by omega) hi hn k' hk' c1
      have b34 := fun k' hk' => jb34 m hm k (by omega) k' hk'
      -- a word that tells no key
      have no : ∀ i a5 a6 a7, w ≤ i → i < w + szO k → (i = w + 1 → ¬ (k = 3 ∨ k = 4 ∨ k = 5)) → M_haveRoom_s45 t p1 (nI (jW 3 Pt)) (nI (jW 4 Pt)) (nI (jW 5 Pt)) a5 a6 a7 (nI i) = some (.inl (a5, a6, a7, nI (i + 1))) := fun i a5 a6 a7 h1 h2 h3 => by
        unfold M_haveRoom_s45 M_haveRoom_b69 M_haveRoom_b198
        rw [h.ww, if_pos (nI_lt (by omega) (by omega)), if_neg (fun z => by obtain ⟨y1, y2⟩ := (ev i ⟨h1, h2⟩ 3 (Or.inl rfl)).mp z; exact h3 y1 (Or.inl y2.symm)), if_neg (fun z => by obtain ⟨y1, y2⟩ := (ev i ⟨h1, h2⟩ 4 (Or.inr (Or.inl rfl))).mp z; exact h3 y1 (Or.inr (Or.inl y2.symm))), if_neg (fun z => by obtain ⟨y1, y2⟩ := (ev i ⟨h1, h2⟩ 5 (Or.inr (Or.inr rfl))).mp z; exact h3 y1 (Or.inr (Or.inr y2.symm))), nI_1]
      have n0 := no w a5 (nI V.2.2.length) a7 (Nat.le_refl _) (by omega) (fun z => by omega)
      have goN : ∀ i a5 a6 a7, w ≤ i → i < w + szO k → (i = w + 1 → ¬ (k = 3 ∨ k = 4 ∨ k = 5)) → lp (fun y : Int32 × Int32 × Int32 × Int32 => M_haveRoom_s45 t p1 (nI (jW 3 Pt)) (nI (jW 4 Pt)) (nI (jW 5 Pt)) y.1 y.2.1 y.2.2.1 y.2.2.2) (a5, a6, a7, nI i) = lp (fun y : Int32 × Int32 × Int32 × Int32 => M_haveRoom_s45 t p1 (nI (jW 3 Pt)) (nI (jW 4 Pt)) (nI (jW 5 Pt)) y.1 y.2.1 y.2.2.1 y.2.2.2) (a5, a6, a7, nI (i + 1)) := fun i a5 a6 a7 h1 h2 h3 => lp_l (show (fun y : Int32 × Int32 × Int32 × Int32 => M_haveRoom_s45 t p1 (nI (jW 3 Pt)) (nI (jW 4 Pt)) (nI (jW 5 Pt)) y.1 y.2.1 y.2.2.1 y.2.2.2) (a5, a6, a7, nI i) = _ from no i a5 a6 a7 h1 h2 h3)
      rw [goN w a5 _ a7 (Nat.le_refl _) (by omega) (fun z => by omega)]
      by_cases kk : k = 3 ∨ k = 4 ∨ k = 5
      rotate_left
      · -- no key here
        have eV : vS l ws V (k, w) = V := if_neg kk
        have er : rmO l ws ((k, w) :: P') V ↔ rmO l ws P' V := by
          show (_ → _) ∧ rmO l ws P' (vS l ws V (k, w)) ↔ _
          rw [eV]
          exact ⟨fun y => y.2, fun y => ⟨fun q => absurd q kk, y⟩⟩
        have t3 := (b34 3 (by decide)).1 (by omega)
        have t4 := (b34 4 (by decide)).1 (by omega)
        obtain ⟨b, r1, r2⟩ := m_hrL h a0 K u (w + szO k) (m ||| 2 ^ (k - 1)) P' V a5 a7 b3 (by omega) e ca' hg' hA hL (by rw [t3, t4]; exact i1) (by rw [t3, t4]; exact i2)
        refine ⟨b, by rw [er]; exact r1, ?_⟩
        by_cases k6 : k = 6
        · rw [k6, show szO 6 = 1 from rfl] at r2
          exact r2
        · have s2 : szO k = 2 := by unfold szO; rw [if_neg k6, if_neg (by omega), if_neg (by omega)]
          rw [goN (w + 1) a5 _ a7 (by omega) (by omega) (fun _ => kk)]
          rw [s2] at r2
          exact r2
      have hw1 : w + 1 < ws.length := by
        have : 2 ≤ szO k := by rcases kk with rfl | rfl | rfl <;> decide
        omega
      have eV : vS l ws V (k, w) = (kyO l ws k w V).2 := if_pos kk
      have er : rmO l ws ((k, w) :: P') V ↔ (kyO l ws k w V).1 ≠ 6 ∧ rmO l ws P' (kyO l ws k w V).2 := by
        show (_ → _) ∧ rmO l ws P' (vS l ws V (k, w)) ↔ _
        rw [eV]
        exact ⟨fun y => ⟨y.1 kk, y.2⟩, fun y => ⟨fun _ => y.1, y.2⟩⟩
      have nm1 : ∀ n, n ≤ 255 → nI n ≠ -1 := fun n hn z => by
        have h2 := nI_pos (n := n) (by omega)
        rw [z] at h2
        exact h2 (by decide)
      by_cases k3 : k = 3
      · -- a password
        have ok : sOK l ws (w + 1) := g.2.1 k3
        have ey : kyO l ws k w V = (0, (1, wS l ws (w + 1), [])) := (if_pos k3).trans (if_pos ok)
        have t3 := (b34 3 (by decide)).1 (by omega)
        have t4 := (b34 4 (by decide)).1 (by omega)
        rw [ey] at er
        obtain ⟨b, r1, r2⟩ := m_hrL h a0 K u (w + szO k) (m ||| 2 ^ (k - 1)) P' (1, wS l ws (w + 1), []) 0 (-1) b3 (by omega) e ca' hg' a0 (Nat.zero_le _) (fun _ _ => rfl) (fun _ n hn => ⟨fun y => y.elim (fun z => absurd z (nm1 n hn)) fun z => absurd rfl z.1, fun ⟨k, u, q, _⟩ => by cases q⟩)
        refine ⟨b, by rw [er]; exact ⟨fun y => ⟨(show (0 : Int32) ≠ 6 by decide), r1.mp y⟩, fun y => r1.mpr y.2⟩, ?_⟩
        have st : M_haveRoom_s45 t p1 (nI (jW 3 Pt)) (nI (jW 4 Pt)) (nI (jW 5 Pt)) a5 (nI V.2.2.length) a7 (nI (w + 1)) = some (.inl (0, 0, -1, nI (w + 2))) := by
          unfold M_haveRoom_s45 M_haveRoom_b69 M_haveRoom_b198
          rw [h.ww, if_pos (nI_lt hw1 (by omega)), if_pos ((ev (w + 1) ⟨by omega, by rw [k3, show szO 3 = 2 from rfl]; omega⟩ 3 (Or.inl rfl)).mpr ⟨rfl, k3.symm⟩), if_neg (fun z => by have := ((ev (w + 1) ⟨by omega, by rw [k3, show szO 3 = 2 from rfl]; omega⟩ 4 (Or.inr (Or.inl rfl))).mp z).2; omega), if_neg (fun z => by have := ((ev (w + 1) ⟨by omega, by rw [k3, show szO 3 = 2 from rfl]; omega⟩ 5 (Or.inr (Or.inr rfl))).mp z).2; omega), nI_1]
        rw [lp_l (show (fun y : Int32 × Int32 × Int32 × Int32 => M_haveRoom_s45 t p1 (nI (jW 3 Pt)) (nI (jW 4 Pt)) (nI (jW 5 Pt)) y.1 y.2.1 y.2.2.1 y.2.2.2) (a5, nI V.2.2.length, a7, nI (w + 1)) = _ from st)]
        rw [k3, show szO 3 = 2 from rfl] at r2
        exact r2
      -- a key
      have k45 : k = 4 ∨ k = 5 := by omega
      have s3 : szO k = 3 := by rcases k45 with rfl | rfl <;> rfl
      obtain ⟨gn, gs⟩ := g.2.2 k45
      obtain ⟨n, en⟩ := Option.isSome_iff_exists.mp gn
      have gs : sOK l ws (w + 2) := gs
      have en : nmR (wN l ws (w + 1)) 0 255 = some n := en
      have hb := nmR_b en
      have ewn : wN l ws (w + 1) = some n := by
        unfold nmR at en
        split at en
        · rename_i v hv
          split at en
          · cases en; exact hv
          · cases en
        · cases en
      have num : M_number t (nI (w + 1)) = some (nI n) := by rw [h.num hw1, ewn]; rfl
      have nb : ¬ (m.testBit 3 = true ∧ m.testBit 4 = true) := fun y => by
        rcases k45 with rfl | rfl
        · rw [show (4 - 1) = 3 from rfl, y.1] at c1; cases c1
        · rw [show (5 - 1) = 4 from rfl, y.2] at c1; cases c1
      obtain ⟨b, q1, q2⟩ := K a5 (nI V.2.2.length) a7 (nI (w + 1)) (nI n) V.2.2.length hA num rfl hL
      have mem := (i2 nb n hb.2)
      rw [mem, kHas_ix] at q1
      have hle := kIx_le (nI n) V.2.2
      have ey : kyO l ws k w V = if kIx (nI n) V.2.2 < 4 then (0, vKey V (nI n, if k = 4 then 0 else 1, wS l ws (w + 2), 0, 99999)) else (6, V) := by
        refine (if_neg k3).trans ?_
        rw [en]
        exact if_pos gs
      have st : M_haveRoom_s45 t p1 (nI (jW 3 Pt)) (nI (jW 4 Pt)) (nI (jW 5 Pt)) a5 (nI V.2.2.length) a7 (nI (w + 1)) = M_haveRoom_b85 t p1 (nI (jW 3 Pt)) (nI (jW 4 Pt)) (nI (jW 5 Pt)) a5 (nI V.2.2.length) a7 (nI (w + 1)) := by
        unfold M_haveRoom_s45 M_haveRoom_b69
        rw [h.ww, if_pos (nI_lt hw1 (by omega)), if_neg (fun z => by have := ((ev (w + 1) ⟨by omega, by omega⟩ 3 (Or.inl rfl)).mp z).2; omega)]
        rcases k45 with z | z
        · rw [if_pos ((ev (w + 1) ⟨by omega, by omega⟩ 4 (Or.inr (Or.inl rfl))).mpr ⟨rfl, z.symm⟩)]
        · rw [if_neg (fun y => by have := ((ev (w + 1) ⟨by omega, by omega⟩ 4 (Or.inr (Or.inl rfl))).mp y).2; omega), if_pos ((ev (w + 1) ⟨by omega, by omega⟩ 5 (Or.inr (Or.inr rfl))).mpr ⟨rfl, z.symm⟩)]
      rw [q2] at st
      by_cases c4 : kIx (nI n) V.2.2 < 4
      rotate_left
      · -- one too many
        rw [if_neg c4] at ey
        have bf : b = false := by cases hb' : b with | false => rfl | true => (have := q1.mp hb'; omega)
        rw [bf] at st
        rw [if_pos (show 4 < V.2.2.length + (if false = true then 0 else 1) by show 4 < V.2.2.length + 1; omega)] at st
        rw [ey] at er
        exact ⟨false, ⟨(fun y => by cases y), fun y => absurd rfl (er.mp y).1⟩, lp_x (show (fun y : Int32 × Int32 × Int32 × Int32 => M_haveRoom_s45 t p1 (nI (jW 3 Pt)) (nI (jW 4 Pt)) (nI (jW 5 Pt)) y.1 y.2.1 y.2.2.1 y.2.2.2) (a5, nI V.2.2.length, a7, nI (w + 1)) = _ from st)⟩
      rw [if_pos c4] at ey
      rw [ey] at er
      generalize hv : ((nI n, if k = 4 then 0 else 1, wS l ws (w + 2), 0, 99999) : kV) = v at er ey
      have v1 : v.1 = nI n := by rw [← hv]
      have lp' : (vKey V v).2.2.length = V.2.2.length + (if b = true then 0 else 1) := by
        show (kPut V.2.2 v).length = _
        rw [kPut_len, v1]
        cases hb' : b with
        | true => rw [if_pos (q1.mp hb')]; rfl
        | false => rw [if_neg (fun y => by have := q1.mpr y; rw [hb'] at this; cases this)]; rfl
      have le4 : (vKey V v).2.2.length ≤ 4 := by
        rw [lp']
        cases hb' : b with
        | true => exact hL
        | false =>
          have : ¬ kIx (nI n) V.2.2 < V.2.2.length := fun y => by have := q1.mpr y; rw [hb'] at this; cases this
          show V.2.2.length + 1 ≤ 4
          omega
      rw [if_neg (by rw [← lp']; omega), ← lp', nI_1] at st
      obtain ⟨b', r1, r2⟩ := m_hrL h a0 K u (w + szO k) (m ||| 2 ^ (k - 1)) P' (vKey V v) a5 (if a7 = -1 then nI n else a7) b3 (by omega) e ca' hg' hA le4 (fun y1 y2 => by
          rcases k45 with z | z
          · rw [(b34 3 (by decide)).2 (by omega)] at y1; cases y1
          · rw [(b34 4 (by decide)).2 (by omega)] at y2; cases y2) (fun nb' n' hn' => by
          have a71 : a7 = -1 := by
            rcases k45 with z | z
            · have t4 := (b34 4 (by decide)).1 (by omega)
              have t3 := (b34 3 (by decide)).2 (by omega)
              refine i1 (by rw [z] at c1; exact c1) ?_
              cases y : m.testBit 4 with
              | false => rfl
              | true => exact absurd ⟨t3, t4.trans y⟩ nb'
            · have t3 := (b34 3 (by decide)).1 (by omega)
              have t4 := (b34 4 (by decide)).2 (by omega)
              refine i1 ?_ (by rw [z] at c1; exact c1)
              cases y : m.testBit 3 with
              | false => rfl
              | true => exact absurd ⟨t3.trans y, t4⟩ nb'
          have old := i2 nb n' hn'
          rw [if_pos a71, show (vKey V v).2.2 = kPut V.2.2 v from rfl, kHas_put, v1, ← old, a71]
          constructor
          · rintro (y | y)
            · exact Or.inl y
            · exact Or.inr (Or.inr y)
          · rintro (y | y | y)
            · exact Or.inl y
            · exact absurd y (nm1 n' hn')
            · exact Or.inr y)
      refine ⟨b', by rw [er]; exact ⟨fun y => ⟨(show (0 : Int32) ≠ 6 by decide), r1.mp y⟩, fun y => r1.mpr y.2⟩, ?_⟩
      rw [lp_l (show (fun y : Int32 × Int32 × Int32 × Int32 => M_haveRoom_s45 t p1 (nI (jW 3 Pt)) (nI (jW 4 Pt)) (nI (jW 5 Pt)) y.1 y.2.1 y.2.2.1 y.2.2.2) (a5, nI V.2.2.length, a7, nI (w + 1)) = _ from st), goN (w + 1 + 1) a5 _ _ (by omega) (by omega) (fun z => by omega)]
      rw [s3] at r2
      exact r2
end Hs
