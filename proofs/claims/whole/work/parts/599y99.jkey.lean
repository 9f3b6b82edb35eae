/-! A join's keys, in the class. -/
abbrev Rjo : List Nat := [4, 5, 22, 103, 109, 110, 111, 112, 126, 127]
/-- what a key's option tells: its fault, and the keys behind it -/
noncomputable def kyO (l : List Int32) (ws : List (Nat × Nat)) (k w : Nat) (V : chV) : Int32 × chV := if k = 3 then (if sOK l ws (w + 1) then (0, (1, wS l ws (w + 1), [])) else (4, V)) else match nmR (wN l ws (w + 1)) 0 255 with
  | none => (4, V)
  | some n => if sOK l ws (w + 2) then (if kIx (nI n) V.2.2 < 4 then (0, vKey V (nI n, if k = 4 then 0 else 1, wS l ws (w + 2), 0, 99999)) else (6, V)) else (4, V)
section Jk
variable {G H : Nat → Nat → Nat} {sa : Nat → Nat} {x rd kc ks : Nat} {s s1 : cS} {t : moS} {l : List Int32} {ws : List (Nat × Nat)} {Q : Int32 → cS → Nat → Nat → Prop} {V : chV}
theorem LX.c5 (h : LX G H sa x rd s t l ws) : s.P 151 rd = some (H 151 rd) ∧ (s.K (H 151 rd)).1 = 5 ∧ okO s 1 (H 151 rd) := by
  have p := h.q.ty.p h.2.2.1.2 151 5
  exact ⟨p.1, p.2, okr p.2 1⟩
/-- only the reader's keys are others -/
theorem lx_fc (h : LX G H sa x rd s t l ws) (f : fch H (H 151 rd) s s1) (hfit : ∀ i, i < 16 → fits .byte (.int (s1.E (H 21 (H 151 rd)) i)) = true) : LX G H sa x rd s1 t l ws ∧ fr Rjo [] [] s s1 := by
  obtain ⟨c1, c2, c3⟩ := h.c5
  have hg := h.q.1
  have hM := h.mv
  have ff := f.fr hg c3
  have np : ∀ r p, r < cR t → p < cI t r → H 86 (G 2 (4 * r + p)) ≠ H 151 rd := fun r p hr hp z => by
    have := (h.q.ty.p (h.q.po hr hp).1.1 86 4).2
    rw [z, c2] at this
    exact absurd this (by decide)
  obtain ⟨hR, -⟩ := ch_rr h.1 hM c3 f hfit (mfr.rf (W := [79, 80, 81, 82, 83, 84, 85, 86, 87, 88])) (fun r p hr hp => by
    obtain ⟨v1, v2, v3⟩ := ch_of (h.q.po hr hp).2.2.2.2.2.2.1 ((hM.r hr).i hp)
    exact ⟨_, v1, v2.fch f hg c3 (okr (h.q.ty.p (h.q.po hr hp).1.1 86 4).2 1) (np r p hr hp) v1.2.1, v3⟩) (fun r p h6 hp h4 => by
    obtain ⟨-, -, z3, z4, -⟩ := hM.2.2.2.2.2.2.2.2.1 r p h6 hp h4
    exact ⟨z3, z4⟩)
  refine ⟨⟨hR, hM, ?_, ?_, h.2.2.2.2⟩, ff.wk⟩
  · rw [f.1, f.2.1]; exact h.2.2.1
  · obtain ⟨⟨cap, hb⟩, ⟨o1, o2⟩, ⟨p1, p2⟩, ⟨p3, k3⟩, ⟨p4, k4⟩, hw, r7⟩ := h.rc
    have h220 := h.q.ty.p h.q.1.1 220 1
    have nrd : rd ≠ H 151 rd := fun z => by
      have := h.2.2.1.2
      rw [z, c2] at this
      exact absurd this (by decide)
    refine ⟨⟨cap, hb.fr ff h220.2 (by decide) (by decide) (by decide)⟩, ⟨f.o o1, f.o o2⟩, ⟨by rw [f.2.1]; exact p1, by rw [f.2.1]; exact p2⟩, ⟨by rw [f.2.1]; exact p3, by rw [f.1]; exact k3⟩, ⟨by rw [f.2.1]; exact p4, by rw [f.1]; exact k4⟩, ?_, r7⟩
    unfold RWw at hw ⊢
    rw [f.2.2.2.2.1 143 rd nrd, (ff.v (a := H 141 rd) (u := 107) (by rw [k3]) (by decide)).2.2, (ff.v (a := H 142 rd) (u := 108) (by rw [k4]) (by decide)).2.2]
    exact hw
theorem fe_fr (h : LX G H sa x rd s t l ws) (f : fe (H 147 rd) s s1) : fr Rjo [] [] s s1 := by
  obtain ⟨a1, a2, a3, a4, a5, a6⟩ := f
  have k := h.sr.2
  intro b _
  exact ⟨by rw [a1], fun hn => ⟨fun g => by rw [a5], fun g => by rw [a3], a6 b (fun z => hn (by rw [z, k]; decide))⟩, fun g _ => by rw [a2], fun _ => by rw [a4]⟩
theorem CC.fe5 (h : LX G H sa x rd s t l ws) (hC : CC H s (H 151 rd) V) (h4 : V.2.2.length ≤ 4) (f : fe (H 147 rd) s s1) : CC H s1 (H 151 rd) V := by
  obtain ⟨a1, a2, a3, a4, a5, a6⟩ := f
  obtain ⟨-, -, c3⟩ := h.c5
  obtain ⟨⟨-, q1⟩, ⟨-, q3⟩, ⟨-, q4⟩, ⟨-, q5⟩, ⟨-, q6⟩, -, w7⟩ := chK h.q.1 c3
  have k := h.sr.2
  have ne : ∀ {a u n : Nat}, s.K a = (u, n) → u ≠ 127 → s1.E a = s.E a := fun {a u n} hk hu => a6 a fun z => hu (by
    rw [z, k] at hk
    exact (congrArg Prod.fst hk).symm)
  obtain ⟨e1, e2, e3, e4⟩ := hC
  refine ⟨by rw [a5]; exact e1, by rw [a5]; exact e2, fun k v hk => ?_, fun hv => ?_⟩
  · obtain ⟨g1, g2, g3, g4, g5⟩ := e3 k v hk
    rw [ne q3 (by decide), ne q4 (by decide), ne q5 (by decide), ne q6 (by decide), a4]
    refine ⟨g1, g2, g3, g4, fun w hw i hi => ?_⟩
    have hk4 : k < 4 := Nat.lt_of_lt_of_le (List.getElem?_eq_some_iff.mp hk).1 h4
    obtain ⟨w', f1, f2⟩ := w7 k hk4
    rw [hw] at f1
    cases f1
    rw [ne f2 (by decide)]
    exact g5 w hw i hi
  · rw [ne q1 (by decide)]
    exact e4 hv
theorem nmR_b {o : Option Nat} {lo hi n : Nat} (h : nmR o lo hi = some n) : lo ≤ n ∧ n ≤ hi := by
  unfold nmR at h
  split at h
  · split at h
    · cases h; assumption
    · cases h
  · cases h
theorem kyO_v (hV : VV V) (h : LX G H sa x rd s t l ws) {k w : Nat} (hk : k = 3 ∨ k = 4 ∨ k = 5) (hw : w + szO k ≤ ws.length) : VV (kyO l ws k w V).2 := by
  unfold kyO
  by_cases c3 : k = 3
  · rw [if_pos c3]
    by_cases c : sOK l ws (w + 1)
    · rw [if_pos c]
      have hs := wS_ok c (h.b (by rw [c3, show szO 3 = 2 from rfl] at hw; omega)).1
      exact ⟨show 1 ≤ 2 by decide, show 0 ≤ 4 by decide, ⟨fun z : 1 = 2 => absurd z (by decide), fun z : 1 ≤ 0 => absurd z (by decide)⟩, fun _ => hs, fun k v hk => (by cases hk), fun k k' v v' hk _ _ => (by cases hk)⟩
    · rw [if_neg c]; exact hV
  · rw [if_neg c3]
    have sz : szO k = 3 := by rcases hk with rfl | rfl | rfl <;> first | exact absurd rfl c3 | rfl
    cases e : nmR (wN l ws (w + 1)) 0 255 with
    | none => exact hV
    | some n =>
      have hn := nmR_b e
      show VV (if sOK l ws (w + 2) then (if kIx (nI n) V.2.2 < 4 then ((0 : Int32), vKey V (nI n, if k = 4 then 0 else 1, wS l ws (w + 2), 0, 99999)) else (6, V)) else (4, V)).2
      by_cases c : sOK l ws (w + 2)
      · rw [if_pos c]
        by_cases c4 : kIx (nI n) V.2.2 < 4
        · rw [if_pos c4]
          refine hV.key (v := (nI n, if k = 4 then 0 else 1, wS l ws (w + 2), 0, 99999)) ⟨⟨n, rfl, hn.1, hn.2⟩, ?_, wS_ok c (h.b (by omega)).1, ⟨0, rfl, Nat.le_refl _, by decide⟩, ⟨99999, rfl, by decide, Nat.le_refl _⟩⟩ c4
          show bit (if k = 4 then 0 else 1)
          split
          · exact Or.inl rfl
          · exact Or.inr rfl
        · rw [if_neg c4]; exact hV
      · rw [if_neg c]; exact hV
/-- a key's option is taken -/
theorem w_keyO (h : LX G H sa x rd s t l ws) (hV : VV V) (hC : CC H s (H 151 rd) V) {k w : Nat} (hk : k = 3 ∨ k = 4 ∨ k = 5) (hw : w + szO k ≤ ws.length) (h20 : w < 20) (q : ∀ s', LX G H sa x rd s' t l ws → CC H s' (H 151 rd) (kyO l ws k w V).2 → fr Rjo [] [] s s' → s'.K = s.K ∧ s'.P = s.P → (∀ g, s'.I g rd = s.I g rd) → Q (kyO l ws k w V).1 s' kc ks) : C_Re_takeKeyOption sa rd (nI k) (nI w) s kc ks Q := by
  obtain ⟨c1, c2, c3⟩ := h.c5
  obtain ⟨sr1, sr2⟩ := h.sr
  have nrd : rd ≠ H 151 rd := fun z => by
    have := h.2.2.1.2
    rw [z, c2] at this
    exact absurd this (by decide)
  unfold C_Re_takeKeyOption
  by_cases k3 : k = 3
  · have hw1 : w + 1 < ws.length := by rw [k3, show szO 3 = 2 from rfl] at hw; omega
    have e : kyO l ws k w V = if sOK l ws (w + 1) then (0, (1, wS l ws (w + 1), [])) else (4, V) := if_pos k3
    rw [e] at q
    refine ifT (by rw [k3]; rfl) ⟨h.or, ?_⟩
    rw [nI_1]
    refine w_secret h hw1 (by omega) (fun z s1 f1 => ifT rfl ?_) fun z s1 f1 he => ifF (by decide) ?_
    · rw [if_neg z] at q
      exact q s1 (h.fe f1) (CC.fe5 h hC hV.2.1 f1) (fe_fr h f1) ⟨f1.1, f1.2.1⟩ fun g => by rw [f1.2.2.2.2.1]
    · rw [if_pos z] at q
      have h1 := h.fe f1
      have hys := wS_ok z (h.b hw1).1
      refine ⟨_, gd_to h1.or, _, gd_to h1.or, H 151 rd, by show s1.P 151 rd = _; rw [f1.2.1]; exact c1, h1.c5.2.2, ?_⟩
      rw [show s1.P (20 * 7 + 7) rd = some (H 147 rd) by show s1.P 147 rd = _; rw [f1.2.1]; exact sr1]
      refine w_setPw h1.q.1 h1.c5.2.2 (y := wS l ws (w + 1)) h1.sr.2 (fun i hi => (he i hi).trans wS_e.symm) hys fun s2 f2 C2 => ?_
      obtain ⟨h2, ff2⟩ := lx_fc h1 f2 fun i hi => by rw [C2.2.2.2 rfl i hi]; exact hys.fit i hi
      exact q s2 h2 C2 ((fe_fr h f1).tr ff2) ⟨f2.1.trans f1.1, f2.2.1.trans f1.2.1⟩ fun g => by rw [f2.2.2.2.2.1 g rd nrd, f1.2.2.2.2.1]
  · have sz : szO k = 3 := by rcases hk with rfl | rfl | rfl <;> first | exact absurd rfl k3 | rfl
    refine ifF (fun z => k3 ((nI_eq (b := 3) (by omega) (by decide)).mp z)) ⟨h.or, ?_⟩
    have e : kyO l ws k w V = match nmR (wN l ws (w + 1)) 0 255 with
      | none => (4, V)
      | some n => if sOK l ws (w + 2) then (if kIx (nI n) V.2.2 < 4 then (0, vKey V (nI n, if k = 4 then 0 else 1, wS l ws (w + 2), 0, 99999)) else (6, V)) else (4, V) := if_neg k3
    rw [e] at q
    rw [nI_1]
    refine w_number (lo := 0) (hi := 255) h.rc (by omega) (by decide) (by decide) (fun _ _ => ?_) fun z => absurd ⟨by omega, by omega⟩ z
    show (if oI (nmR (wN l ws (w + 1)) 0 255) = -1 then _ else _)
    cases en : nmR (wN l ws (w + 1)) 0 255 with
    | none =>
      rw [en] at q
      exact ifT rfl (q s h hC fr.rf ⟨rfl, rfl⟩ fun _ => rfl)
    | some n =>
      rw [en] at q
      have hn := nmR_b en
      refine ifF (oI_n1 n (by omega)) ⟨h.or, ?_⟩
      rw [show nI w + 2 = nI (w + 2) from nI_add _ 2]
      have q : ∀ s', LX G H sa x rd s' t l ws → CC H s' (H 151 rd) (if sOK l ws (w + 2) then (if kIx (nI n) V.2.2 < 4 then ((0 : Int32), vKey V (nI n, if k = 4 then 0 else 1, wS l ws (w + 2), 0, 99999)) else (6, V)) else (4, V)).2 → fr Rjo [] [] s s' → s'.K = s.K ∧ s'.P = s.P → (∀ g, s'.I g rd = s.I g rd) → Q (if sOK l ws (w + 2) then (if kIx (nI n) V.2.2 < 4 then ((0 : Int32), vKey V (nI n, if k = 4 then 0 else 1, wS l ws (w + 2), 0, 99999)) else (6, V)) else (4, V)).1 s' kc ks := q
      refine w_secret h (by omega) (by omega) (fun z s1 f1 => ifT rfl ?_) fun z s1 f1 he => ifF (by decide) ?_
      · rw [if_neg z] at q
        exact q s1 (h.fe f1) (CC.fe5 h hC hV.2.1 f1) (fe_fr h f1) ⟨f1.1, f1.2.1⟩ fun g => by rw [f1.2.2.2.2.1]
      · rw [if_pos z] at q
        have h1 := h.fe f1
        have hys := wS_ok z (h.b (show w + 2 < ws.length by omega)).1
        have C1 := CC.fe5 h hC hV.2.1 f1
        have b71 : ∀ sz : Int32, sz = (if (if k = 4 then (0 : Int32) else 1) = 0 then 16 else 20) → C_Re_takeKeyOption_b71 sa rd (nI n) sz s1 kc ks Q := fun sz hsz => by
          unfold C_Re_takeKeyOption_b71
          refine ⟨_, gd_to h1.or, _, gd_to h1.or, H 151 rd, by show s1.P 151 rd = _; rw [f1.2.1]; exact c1, h1.c5.2.2, ?_⟩
          rw [show s1.P (20 * 7 + 7) rd = some (H 147 rd) by show s1.P 147 rd = _; rw [f1.2.1]; exact sr1]
          refine w_setKey h1.q.1 h1.c5.2.2 hV C1 (y := wS l ws (w + 2)) (sha := if k = 4 then 0 else 1) h1.sr.2 (fun i hi => (he i hi).trans wS_e.symm) hys hsz (fun c4 => ifT rfl ?_) fun c4 s2 f2 C2 e21 => ifF (by decide) ?_
          · rw [if_neg c4] at q
            exact q s1 h1 C1 (fe_fr h f1) ⟨f1.1, f1.2.1⟩ fun g => by rw [f1.2.2.2.2.1]
          · rw [if_pos c4] at q
            have k21 := (chK h1.q.1 h1.c5.2.2).1.2
            obtain ⟨h2, ff2⟩ := lx_fc h1 f2 fun i hi => by
              rw [e21]
              exact h1.q.1.2.2.2.2.2.2.2.2.2.2.2.2.2.2.1 _ i (by rw [k21]) hi
            exact q s2 h2 C2 ((fe_fr h f1).tr ff2) ⟨f2.1.trans f1.1, f2.2.1.trans f1.2.1⟩ fun g => by rw [f2.2.2.2.2.1 g rd nrd, f1.2.2.2.2.1]
        have er : oI (nmR (nmb (vc l) (ws.getD (w + 1) (0, 0)).1 ((ws.getD (w + 1) (0, 0)).2 - (ws.getD (w + 1) (0, 0)).1)) 0 255) = nI n := by
          rw [show nmb (vc l) (ws.getD (w + 1) (0, 0)).1 ((ws.getD (w + 1) (0, 0)).2 - (ws.getD (w + 1) (0, 0)).1) = wN l ws (w + 1) from rfl, en]; rfl
        rw [er]
        rcases hk with rfl | rfl | rfl
        · exact absurd rfl k3
        · exact ifT rfl (b71 16 rfl)
        · exact ifF (by decide) (b71 20 rfl)
end Jk
