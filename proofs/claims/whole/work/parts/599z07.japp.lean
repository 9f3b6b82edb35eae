/-! A join's keys are set in the model. -/
/-- the end of a join -/
noncomputable def eJ (t : moS) (a6 a7 a8 a10 : Int32) : Option (Int32 × moS) := Option.bind (M_settle t a6) (fun s1 => Option.bind (rdI s1 39 a6) (fun x2 => if x2 = 0 then some (0, s1) else Option.bind (rdI s1 22 a7) (fun x3 => if x3 = 0 then some (0, s1) else Option.bind (M_request s1 a8 (a10 - ((2 : Int32) * a8))) (fun s4 => some (0, s4)))))
section Ja
variable {l : List Int32} {ws : List (Nat × Nat)} {Pt : List (Nat × Nat)} {q : Nat} {a6 a7 a10 : Int32}
theorem m_app (hq : q < 24) : ∀ u w m P (V : chV) t, WX t l ws → mN t → m < 64 → 4 ≤ w → jP (wC l ws) ws.length u w m = some P → cA Pt m w P → (∀ e, e ∈ P → gdE l ws e) → rmO l ws P V → VV V → MC t q V → ∃ t', lp (fun y : Int32 × moS => M_lineJoin_s421 y.2 (nI (jW 3 Pt)) (nI (jW 4 Pt)) (nI (jW 5 Pt)) a6 a7 (nI q) a10 y.1) (nI w, t) = eJ t' a6 a7 (nI q) a10 ∧ fq q t t' ∧ MC t' q (P.foldl (vS l ws) V) ∧ VV (P.foldl (vS l ws) V)
  | 0, _, _, _, _, _, _, _, _, _, hp, _, _, _, _, _ => by cases hp
  | u + 1, w, m, P, V, t, hW, hN, hm, h4, hp, ca, hg, hr, hV, hC => by
    have hn : ws.length ≤ 2100 := hW.2.2.2.2
    have ww : t.S 11 = nI ws.length := hW.1.1
    have jk := jP_k (u + 1) w m P hm hp
    by_cases c : w < ws.length
    rotate_left
    · have ej : jP (wC l ws) ws.length (u + 1) w m = (if w = ws.length then some [] else none) := if_neg c
      rw [ej] at hp
      have c2 : w = ws.length := Classical.byContradiction fun y => by rw [if_neg y] at hp; cases hp
      rw [if_pos c2] at hp
      cases hp
      refine ⟨t, lp_x ?_, fq.rf, hC, hV⟩
      show M_lineJoin_s421 t _ _ _ a6 a7 (nI q) a10 (nI w) = _
      unfold M_lineJoin_s421
      rw [ww, if_neg (nI_nlt (by omega) (by omega))]
      rfl
    have ej : jP (wC l ws) ws.length (u + 1) w m = (if kOp (wC l ws w) = 0 then none else if m.testBit (kOp (wC l ws w) - 1) = true then none else (jP (wC l ws) ws.length u (w + szO (kOp (wC l ws w))) (m ||| 2 ^ (kOp (wC l ws w) - 1))).map fun P => (kOp (wC l ws w), w) :: P) := if_pos c
    rw [ej] at hp
    have hl := kOp_le (wC l ws w)
    generalize hk : kOp (wC l ws w) = k at hp hl
    by_cases c0 : k = 0
    · rw [if_pos c0] at hp; cases hp
    rw [if_neg c0] at hp
    by_cases c1 : m.testBit (k - 1) = true
    · rw [if_pos c1] at hp; cases hp
    rw [if_neg c1] at hp
    have c1 : m.testBit (k - 1) = false := by cases q : m.testBit (k - 1) with | false => rfl | true => exact absurd q c1
    obtain ⟨-, -, b3, -, -⟩ := jbit m hm k (by omega) (by omega)
    cases e : jP (wC l ws) ws.length u (w + szO k) (m ||| 2 ^ (k - 1)) with
    | none => rw [e] at hp; cases hp
    | some P' =>
      rw [e] at hp
      cases hp
      have sz := szO_b k
      have j2 : w + szO k ≤ ws.length := (jk.2.2 (k, w) (List.mem_cons_self ..)).2.1
      have g := hg (k, w) (List.mem_cons_self ..)
      have hg' : ∀ e, e ∈ P' → gdE l ws e := fun e' he => hg e' (List.mem_cons_of_mem _ he)
      have ca' := cA_c ca hm ⟨by omega, by omega⟩
      have ev := fun i hi k' hk' => cA_n (i := i) ca hm ⟨by omega, by omega⟩ e (by omega) hi hn k' hk' c1
      have hr2 : rmO l ws P' (vS l ws V (k, w)) := hr.2
      have goN : ∀ i t1, t1.S 11 = nI ws.length → w ≤ i → i < w + szO k → (i = w + 1 → ¬ (k = 3 ∨ k = 4 ∨ k = 5)) → lp (fun y : Int32 × moS => M_lineJoin_s421 y.2 (nI (jW 3 Pt)) (nI (jW 4 Pt)) (nI (jW 5 Pt)) a6 a7 (nI q) a10 y.1) (nI i, t1) = lp (fun y : Int32 × moS => M_lineJoin_s421 y.2 (nI (jW 3 Pt)) (nI (jW 4 Pt)) (nI (jW 5 Pt)) a6 a7 (nI q) a10 y.1) (nI (i + 1), t1) := fun i t1 w1 h1 h2 h3 => lp_l (by
        show M_lineJoin_s421 t1 (nI (jW 3 Pt)) (nI (jW 4 Pt)) (nI (jW 5 Pt)) a6 a7 (nI q) a10 (nI i) = _
        unfold M_lineJoin_s421 M_lineJoin_b444 M_lineJoin_b490
        rw [w1, if_pos (nI_lt (by omega) (by omega)), if_neg (fun z => by obtain ⟨y1, y2⟩ := (ev i ⟨h1, h2⟩ 3 (Or.inl rfl)).mp z; exact h3 y1 (Or.inl y2.symm)), if_neg (fun z => by obtain ⟨y1, y2⟩ := (ev i ⟨h1, h2⟩ 4 (Or.inr (Or.inl rfl))).mp z; exact h3 y1 (Or.inr (Or.inl y2.symm))), if_neg (fun z => by obtain ⟨y1, y2⟩ := (ev i ⟨h1, h2⟩ 5 (Or.inr (Or.inr rfl))).mp z; exact h3 y1 (Or.inr (Or.inr y2.symm))), nI_1])
      rw [goN w t ww (Nat.le_refl _) (by omega) (fun z => by omega)]
      by_cases kk : k = 3 ∨ k = 4 ∨ k = 5
      rotate_left
      · have eV : vS l ws V (k, w) = V := if_neg kk
        rw [eV] at hr2
        obtain ⟨t', r1, r2, r3, r4⟩ := m_app hq u (w + szO k) (m ||| 2 ^ (k - 1)) P' V t hW hN b3 (by omega) e ca' hg' hr2 hV hC
        refine ⟨t', ?_, r2, by show MC t' q (P'.foldl (vS l ws) (vS l ws V (k, w))); rw [eV]; exact r3, by show VV (P'.foldl (vS l ws) (vS l ws V (k, w))); rw [eV]; exact r4⟩
        by_cases k6 : k = 6
        · rw [k6, show szO 6 = 1 from rfl] at r1
          exact r1
        · have s2 : szO k = 2 := by unfold szO; rw [if_neg k6, if_neg (by omega), if_neg (by omega)]
          rw [goN (w + 1) t ww (by omega) (by omega) (fun _ => kk)]
          rw [s2] at r1
          exact r1
      have hw1 : w + 1 < ws.length := by
        have : 2 ≤ szO k := by rcases kk with rfl | rfl | rfl <;> decide
        omega
      have eV : vS l ws V (k, w) = (kyO l ws k w V).2 := if_pos kk
      rw [eV] at hr2
      have n6 : (kyO l ws k w V).1 ≠ 6 := hr.1 kk
      by_cases k3 : k = 3
      · have ok : sOK l ws (w + 1) := g.2.1 k3
        have ey : kyO l ws k w V = (0, (1, wS l ws (w + 1), [])) := (if_pos k3).trans (if_pos ok)
        rw [ey] at hr2
        have hs := wS_ok ok (hW.2.2.2.1 (w + 1) hw1).1
        have hV2 : VV (1, wS l ws (w + 1), []) := ⟨show 1 ≤ 2 by decide, show 0 ≤ 4 by decide, ⟨fun z : 1 = 2 => absurd z (by decide), fun z : 1 ≤ 0 => absurd z (by decide)⟩, fun _ => hs, fun k v hk => (by cases hk), fun k k' v v' hk _ _ => (by cases hk)⟩
        obtain ⟨t2, p1, p2, p3⟩ := m_pw hW hN hq hw1 ok
        obtain ⟨t', r1, r2, r3, r4⟩ := m_app hq u (w + szO k) (m ||| 2 ^ (k - 1)) P' (1, wS l ws (w + 1), []) t2 (hW.mf p2.1 rfl) (hN.fr p2.1 rfl) b3 (by omega) e ca' hg' hr2 hV2 p3
        refine ⟨t', ?_, p2.tr r2, by show MC t' q (P'.foldl (vS l ws) (vS l ws V (k, w))); rw [eV, ey]; exact r3, by show VV (P'.foldl (vS l ws) (vS l ws V (k, w))); rw [eV, ey]; exact r4⟩
        have s2 : szO k = 2 := by rw [k3]; rfl
        have st : M_lineJoin_s421 t (nI (jW 3 Pt)) (nI (jW 4 Pt)) (nI (jW 5 Pt)) a6 a7 (nI q) a10 (nI (w + 1)) = some (.inl (nI (w + 2), t2)) := by
          unfold M_lineJoin_s421
          rw [ww, if_pos (nI_lt hw1 (by omega)), if_pos ((ev (w + 1) ⟨by omega, by omega⟩ 3 (Or.inl rfl)).mpr ⟨rfl, k3.symm⟩), p1]
          show M_lineJoin_b444 t2 (nI (jW 3 Pt)) (nI (jW 4 Pt)) (nI (jW 5 Pt)) a6 a7 (nI q) a10 (nI (w + 1)) = _
          unfold M_lineJoin_b444 M_lineJoin_b490
          rw [if_neg (fun z => by have := ((ev (w + 1) ⟨by omega, by omega⟩ 4 (Or.inr (Or.inl rfl))).mp z).2; omega), if_neg (fun z => by have := ((ev (w + 1) ⟨by omega, by omega⟩ 5 (Or.inr (Or.inr rfl))).mp z).2; omega), nI_1]
        rw [lp_l (show (fun y : Int32 × moS => M_lineJoin_s421 y.2 (nI (jW 3 Pt)) (nI (jW 4 Pt)) (nI (jW 5 Pt)) a6 a7 (nI q) a10 y.1) (nI (w + 1), t) = _ from st)]
        rw [s2] at r1
        exact r1
      have k45 : k = 4 ∨ k = 5 := by omega
      have s3 : szO k = 3 := by rcases k45 with rfl | rfl <;> rfl
      obtain ⟨gn, gs⟩ := g.2.2 k45
      obtain ⟨n, en⟩ := Option.isSome_iff_exists.mp gn
      have gs : sOK l ws (w + 2) := gs
      have en : nmR (wN l ws (w + 1)) 0 255 = some n := en
      have hb := nmR_b en
      have ewn : wN l ws (w + 1) = some n := by
        unfold nmR at en
        split at en
        · rename_i v hv
          split at en
          · cases en; exact hv
          · cases en
        · cases en
      have ey : kyO l ws k w V = if kIx (nI n) V.2.2 < 4 then (0, vKey V (nI n, if k = 4 then 0 else 1, wS l ws (w + 2), 0, 99999)) else (6, V) := by
        refine (if_neg k3).trans ?_
        rw [en]
        exact if_pos gs
      have c4 : kIx (nI n) V.2.2 < 4 := Classical.byContradiction fun y => n6 (by rw [ey, if_neg y])
      rw [if_pos c4] at ey
      rw [ey] at hr2
      have hsha : bit (if k = 4 then (0 : Int32) else 1) := by
        split
        · exact Or.inl rfl
        · exact Or.inr rfl
      have hs := wS_ok gs (hW.2.2.2.1 (w + 2) (by omega)).1
      have hV2 : VV (vKey V (nI n, if k = 4 then 0 else 1, wS l ws (w + 2), 0, 99999)) := hV.key (v := (nI n, if k = 4 then 0 else 1, wS l ws (w + 2), 0, 99999)) ⟨⟨n, rfl, hb.1, hb.2⟩, hsha, hs, ⟨0, rfl, Nat.le_refl _, by decide⟩, ⟨99999, rfl, by decide, Nat.le_refl _⟩⟩ c4
      have num : M_number t (nI (w + 1)) = some (nI n) := by
        rw [m_number hW.2.1 hW.2.2.1.1 hW.2.2.1.2 hW.1 hw1 (by omega) rfl (hW.2.2.2.1 (w + 1) hw1).1 (hW.2.2.2.1 (w + 1) hw1).2]
        show some (oI (wN l ws (w + 1))) = _
        rw [ewn]; rfl
      obtain ⟨t2, p1, p2, p3⟩ := m_key (num := nI n) (sha := if k = 4 then 0 else 1) (fr' := 0) (to := 99999) (w := w + 2) hW hN hq (by omega) gs hV hC hsha c4
      obtain ⟨t', r1, r2, r3, r4⟩ := m_app hq u (w + szO k) (m ||| 2 ^ (k - 1)) P' _ t2 (hW.mf p2.1 rfl) (hN.fr p2.1 rfl) b3 (by omega) e ca' hg' hr2 hV2 p3
      refine ⟨t', ?_, p2.tr r2, by show MC t' q (P'.foldl (vS l ws) (vS l ws V (k, w))); rw [eV, ey]; exact r3, by show VV (P'.foldl (vS l ws) (vS l ws V (k, w))); rw [eV, ey]; exact r4⟩
      have st : M_lineJoin_s421 t (nI (jW 3 Pt)) (nI (jW 4 Pt)) (nI (jW 5 Pt)) a6 a7 (nI q) a10 (nI (w + 1)) = some (.inl (nI (w + 2), t2)) := by
        have b458 : M_lineJoin_b458 t (nI (jW 3 Pt)) (nI (jW 4 Pt)) (nI (jW 5 Pt)) a6 a7 (nI q) a10 (nI (w + 1)) = some (.inl (nI (w + 2), t2)) := by
          unfold M_lineJoin_b458 M_lineJoin_b479 M_lineJoin_b490
          rw [num, nI_1]
          have ev5 := ev (w + 1) ⟨by omega, by omega⟩ 5 (Or.inr (Or.inr rfl))
          rcases k45 with z | z
          · rw [if_pos z] at p1
            show (if nI (w + 1) = nI (jW 5 Pt) then _ else Option.bind (M_takeKey t (nI q) (nI n) 0 (nI (w + 2)) 0 99999) _) = _
            rw [if_neg (fun y => by have := (ev5.mp y).2; omega), p1]
            rfl
          · rw [if_neg (by omega)] at p1
            show (if nI (w + 1) = nI (jW 5 Pt) then Option.bind (M_takeKey t (nI q) (nI n) 1 (nI (w + 2)) 0 99999) _ else _) = _
            rw [if_pos (ev5.mpr ⟨rfl, z.symm⟩), p1]
            rfl
        unfold M_lineJoin_s421 M_lineJoin_b444
        rw [ww, if_pos (nI_lt hw1 (by omega)), if_neg (fun z => by have := ((ev (w + 1) ⟨by omega, by omega⟩ 3 (Or.inl rfl)).mp z).2; omega)]
        rcases k45 with z | z
        · rw [if_pos ((ev (w + 1) ⟨by omega, by omega⟩ 4 (Or.inr (Or.inl rfl))).mpr ⟨rfl, z.symm⟩)]
          exact b458
        · rw [if_neg (fun y => by have := ((ev (w + 1) ⟨by omega, by omega⟩ 4 (Or.inr (Or.inl rfl))).mp y).2; omega), if_pos ((ev (w + 1) ⟨by omega, by omega⟩ 5 (Or.inr (Or.inr rfl))).mpr ⟨rfl, z.symm⟩)]
          exact b458
      rw [lp_l (show (fun y : Int32 × moS => M_lineJoin_s421 y.2 (nI (jW 3 Pt)) (nI (jW 4 Pt)) (nI (jW 5 Pt)) a6 a7 (nI q) a10 y.1) (nI (w + 1), t) = _ from st), goN (w + 2) t2 ((hW.mf p2.1 rfl).1.1) (by omega) (by omega) (fun z => by omega)]
      rw [s3] at r1
      exact r1
end Ja
