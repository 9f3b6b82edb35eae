/-! Options of two sorts: the model, the class. -/
section Op
variable {G H : Nat → Nat → Nat} {sa : Nat → Nat} {rd x kc ks : Nat} {s : cS} {t : moS} {l : List Int32} {ws : List (Nat × Nat)} {Q : Int32 → cS → Nat → Nat → Prop}
theorem m_are2 (h : LX G H sa x rd s t l ws) {f : Nat} (a b : Int64) (hf : f ≤ ws.length) (hab : a ≠ b ∧ a ≠ 0 ∧ M_own a = 1 ∧ (b = 0 ∨ M_own b = 1)) : M_areOptions t (nI f) a b 0 0 0 0 = some (if b = 0 then (if ws.length = f ∨ ws.length = f + 2 ∧ wC l ws f = a then 1 else 0) else if (oP (wC l ws) a b ws.length f).isSome then 1 else 0) := by
  obtain ⟨h1, h2, h3, h4⟩ := hab
  have hn := h.nw
  unfold M_areOptions M_areOptions_b6
  generalize hF : (fun y : Int32 × Int32 => M_areOptions_s6 t a b 0 0 0 0 y.1 y.2) = F
  have en : ∀ i m, ws.length ≤ i → i < 3000 → F (nI i, m) = xo (some (if i = ws.length then 1 else 0)) := by
    intro i m hi h3
    rw [← hF]
    show M_areOptions_s6 t a b 0 0 0 0 (nI i) m = _
    unfold M_areOptions_s6
    rw [h.ww, if_neg (nI_nlt hi (by omega))]
    by_cases c : i = ws.length
    · rw [if_pos (by rw [c]), if_pos c]
    · rw [if_neg (fun z => c ((nI_eq (by omega) (by omega)).mp z)), if_neg c]
  have sa' : ∀ i m, i < ws.length → wC l ws i = a → F (nI i, m) = if m &&& 1 = 0 then some (.inl (nI (i + 2), m ||| 1)) else xo (some 0) := by
    intro i m hi hc
    rw [← hF]
    show M_areOptions_s6 t a b 0 0 0 0 (nI i) m = _
    unfold M_areOptions_s6 M_areOptions_b109
    rw [h.ww, if_pos (nI_lt hi (by omega)), h.code hi]
    show (if wC l ws i = 0 then _ else _) = _
    rw [if_neg (by rw [hc]; exact h2), if_pos hc, if_neg (by decide), hc, h3, show (1 : Int32) + 1 = nI 2 from rfl, nI_add]
  have sb : ∀ i m, i < ws.length → wC l ws i = b → b ≠ 0 → F (nI i, m) = if m &&& 2 = 0 then some (.inl (nI (i + 2), m ||| 2)) else xo (some 0) := by
    intro i m hi hc hb
    rw [← hF]
    show M_areOptions_s6 t a b 0 0 0 0 (nI i) m = _
    unfold M_areOptions_s6 M_areOptions_b109
    rw [h.ww, if_pos (nI_lt hi (by omega)), h.code hi]
    show (if wC l ws i = 0 then _ else _) = _
    rw [if_neg (by rw [hc]; exact hb), if_neg (by rw [hc]; exact fun z => h1 z.symm), if_pos hc, if_neg (by decide), hc, h4.resolve_left hb, show (1 : Int32) + 1 = nI 2 from rfl, nI_add]
  have so : ∀ i m, i < ws.length → wC l ws i ≠ a → (wC l ws i ≠ b ∨ b = 0) → F (nI i, m) = xo (some 0) := by
    intro i m hi hc hb
    rw [← hF]
    show M_areOptions_s6 t a b 0 0 0 0 (nI i) m = _
    unfold M_areOptions_s6 M_areOptions_b109
    rw [h.ww, if_pos (nI_lt hi (by omega)), h.code hi]
    show (if wC l ws i = 0 then _ else _) = _
    by_cases c0 : wC l ws i = 0
    · rw [if_pos c0, if_pos rfl]
    · have hb : wC l ws i ≠ b := hb.elim id (fun z => by rw [z]; exact c0)
      rw [if_neg c0, if_neg hc, if_neg hb, if_neg c0, if_neg c0, if_neg c0, if_neg c0, if_pos rfl]
  have st : ∀ {y z : Int32 × Int32} {o : Option Int32}, F y = some (.inl z) → lp F z = o → lp F y = o := fun e e2 => (lp_l e).trans e2
  by_cases b0 : b = 0
  · rw [if_pos b0]
    by_cases c : ws.length = f
    · rw [if_pos (Or.inl c), lp_x (en f 0 (by omega) (by omega)), if_pos c.symm]
    by_cases ca : wC l ws f = a
    · refine st ((sa' f 0 (by omega) ca).trans (if_pos rfl)) ?_
      by_cases c2 : ws.length ≤ f + 2
      · rw [lp_x (en (f + 2) _ c2 (by omega))]
        by_cases c3 : ws.length = f + 2
        · rw [if_pos c3.symm, if_pos (Or.inr ⟨c3, ca⟩)]
        · rw [if_neg (fun z => c3 z.symm), if_neg (fun z => z.elim c (fun w => c3 w.1))]
      · rw [if_neg (fun z => z.elim c (fun w => c2 (by omega)))]
        by_cases ca2 : wC l ws (f + 2) = a
        · exact lp_x ((sa' _ _ (by omega) ca2).trans (if_neg (by decide)))
        · exact lp_x (so _ _ (by omega) ca2 (Or.inr b0))
    · rw [if_neg (fun z => z.elim c (fun w => ca w.2))]
      exact lp_x (so _ _ (by omega) ca (Or.inr b0))
  rw [if_neg b0]
  have no : ∀ {o : Option Int32}, o = some 0 → oP (wC l ws) a b ws.length f = none → o = some (if (oP (wC l ws) a b ws.length f).isSome then 1 else 0) := fun e1 e2 => by rw [e1, e2]; rfl
  have ye : ∀ {o : Option Int32} {p : Nat × Nat}, o = some 1 → oP (wC l ws) a b ws.length f = some p → o = some (if (oP (wC l ws) a b ws.length f).isSome then 1 else 0) := fun e1 e2 => by rw [e1, e2]; rfl
  have z0 : ws.length ≠ f → ws.length ≠ f + 2 → ws.length ≠ f + 4 → oP (wC l ws) a b ws.length f = none := fun e1 e2 e3 => by unfold oP; rw [if_neg e1, if_neg e2, if_neg e3]
  have z4 : ws.length = f + 4 → ¬ (wC l ws f = a ∧ wC l ws (f + 2) = b) → ¬ (wC l ws f = b ∧ wC l ws (f + 2) = a) → oP (wC l ws) a b ws.length f = none := fun e1 e2 e3 => by unfold oP; rw [if_neg (by omega), if_neg (by omega), if_pos e1, if_neg e2, if_neg e3]
  have zz : ws.length ≠ f → ws.length ≠ f + 2 → ¬ (wC l ws f = a ∧ wC l ws (f + 2) = b) → ¬ (wC l ws f = b ∧ wC l ws (f + 2) = a) → oP (wC l ws) a b ws.length f = none := fun e1 e2 e3 e4 => by
    by_cases e5 : ws.length = f + 4
    · exact z4 e5 e3 e4
    · exact z0 e1 e2 e5
  by_cases c : ws.length = f
  · exact ye ((lp_x (en f 0 (by omega) (by omega))).trans (by rw [if_pos c.symm])) (by unfold oP; rw [if_pos c])
  by_cases ca : wC l ws f = a
  · have cb : ¬ wC l ws f = b := fun z => h1 (ca.symm.trans z)
    refine st ((sa' f 0 (by omega) ca).trans (if_pos rfl)) ?_
    by_cases c2 : ws.length ≤ f + 2
    · have el := lp_x (en (f + 2) (0 ||| 1) c2 (by omega))
      by_cases c3 : ws.length = f + 2
      · exact ye (el.trans (by rw [if_pos c3.symm])) (by unfold oP; rw [if_neg c, if_pos c3, if_pos ca])
      · exact no (el.trans (by rw [if_neg (fun z => c3 z.symm)])) (z0 c c3 (by omega))
    · by_cases ca2 : wC l ws (f + 2) = a
      · exact no (lp_x ((sa' _ _ (by omega) ca2).trans (if_neg (by decide)))) (zz c (by omega) (fun z => h1 (ca2.symm.trans z.2)) (fun z => cb z.1))
      by_cases cb2 : wC l ws (f + 2) = b
      · refine st ((sb (f + 2) _ (by omega) cb2 b0).trans (if_pos (by decide))) ?_
        by_cases c4 : ws.length ≤ f + 2 + 2
        · have el := lp_x (en (f + 2 + 2) (0 ||| 1 ||| 2) c4 (by omega))
          by_cases c5 : ws.length = f + 4
          · exact ye (el.trans (by rw [if_pos (by omega)])) (by unfold oP; rw [if_neg c, if_neg (by omega), if_pos c5, if_pos ⟨ca, cb2⟩])
          · exact no (el.trans (by rw [if_neg (by omega)])) (z0 c (by omega) c5)
        · by_cases ca4 : wC l ws (f + 2 + 2) = a
          · exact no (lp_x ((sa' _ _ (by omega) ca4).trans (if_neg (by decide)))) (z0 c (by omega) (by omega))
          by_cases cb4 : wC l ws (f + 2 + 2) = b
          · exact no (lp_x ((sb _ _ (by omega) cb4 b0).trans (if_neg (by decide)))) (z0 c (by omega) (by omega))
          · exact no (lp_x (so _ _ (by omega) ca4 (Or.inl cb4))) (z0 c (by omega) (by omega))
      · exact no (lp_x (so _ _ (by omega) ca2 (Or.inl cb2))) (zz c (by omega) (fun z => cb2 z.2) (fun z => cb z.1))
  by_cases cb : wC l ws f = b
  · refine st ((sb f 0 (by omega) cb b0).trans (if_pos rfl)) ?_
    by_cases c2 : ws.length ≤ f + 2
    · have el := lp_x (en (f + 2) (0 ||| 2) c2 (by omega))
      by_cases c3 : ws.length = f + 2
      · exact ye (el.trans (by rw [if_pos c3.symm])) (by unfold oP; rw [if_neg c, if_pos c3, if_neg ca, if_pos cb])
      · exact no (el.trans (by rw [if_neg (fun z => c3 z.symm)])) (z0 c c3 (by omega))
    · by_cases cb2 : wC l ws (f + 2) = b
      · exact no (lp_x ((sb _ _ (by omega) cb2 b0).trans (if_neg (by decide)))) (zz c (by omega) (fun z => ca z.1) (fun z => h1 (z.2.symm.trans cb2)))
      by_cases ca2 : wC l ws (f + 2) = a
      · refine st ((sa' (f + 2) _ (by omega) ca2).trans (if_pos (by decide))) ?_
        by_cases c4 : ws.length ≤ f + 2 + 2
        · have el := lp_x (en (f + 2 + 2) (0 ||| 2 ||| 1) c4 (by omega))
          by_cases c5 : ws.length = f + 4
          · exact ye (el.trans (by rw [if_pos (by omega)])) (by unfold oP; rw [if_neg c, if_neg (by omega), if_pos c5, if_neg (fun z => ca z.1), if_pos ⟨cb, ca2⟩])
          · exact no (el.trans (by rw [if_neg (by omega)])) (z0 c (by omega) c5)
        · by_cases ca4 : wC l ws (f + 2 + 2) = a
          · exact no (lp_x ((sa' _ _ (by omega) ca4).trans (if_neg (by decide)))) (z0 c (by omega) (by omega))
          by_cases cb4 : wC l ws (f + 2 + 2) = b
          · exact no (lp_x ((sb _ _ (by omega) cb4 b0).trans (if_neg (by decide)))) (z0 c (by omega) (by omega))
          · exact no (lp_x (so _ _ (by omega) ca4 (Or.inl cb4))) (z0 c (by omega) (by omega))
      · exact no (lp_x (so _ _ (by omega) ca2 (Or.inl cb2))) (zz c (by omega) (fun z => ca z.1) (fun z => ca2 z.2))
  · refine no (lp_x (so _ _ (by omega) ca (Or.inl cb))) ?_
    by_cases c2 : ws.length = f + 2
    · unfold oP; rw [if_neg c, if_pos c2, if_neg ca, if_neg cb]
    · exact zz c c2 (fun z => ca z.1) (fun z => cb z.1)
/-- where the number of an option stands -/
theorem m_opt (h : LX G H sa x rd s t l ws) (F : Int32 → Option (Int32 ⊕ Int32)) {f i : Nat} {c : Int64} (hF : F = fun y => M_option_s3 t c y) (hi : i < 3000) : (ws.length ≤ i → F (nI i) = xo (some 0)) ∧ (i < ws.length → wC l ws i = c → F (nI i) = xo (some (nI (i + 1)))) ∧ (i < ws.length → wC l ws i ≠ c → M_own (wC l ws i) = 1 → F (nI i) = some (.inl (nI (i + 2)))) := by
  have hn := h.nw
  rw [hF]
  refine ⟨fun h1 => ?_, fun h1 h2 => ?_, fun h1 h2 h3 => ?_⟩
  · show M_option_s3 t c (nI i) = _
    unfold M_option_s3
    rw [h.ww, if_neg (nI_nlt h1 (by omega))]
  · show M_option_s3 t c (nI i) = _
    unfold M_option_s3
    rw [h.ww, if_pos (nI_lt h1 (by omega)), h.code h1]
    show (if wC l ws i = c then _ else _) = _
    rw [if_pos h2, nI_1]
  · show M_option_s3 t c (nI i) = _
    unfold M_option_s3
    rw [h.ww, if_pos (nI_lt h1 (by omega)), h.code h1]
    show (if wC l ws i = c then _ else _) = _
    rw [if_neg h2]
    show some (Sum.inl (nI i + (1 + M_own (wC l ws i)))) = _
    rw [h3, show (1 : Int32) + 1 = nI 2 from rfl, nI_add]
theorem m_opt2 (h : LX G H sa x rd s t l ws) {f p q : Nat} (a b : Int64) (hab : a ≠ b ∧ M_own a = 1 ∧ M_own b = 1) (ho : oP (wC l ws) a b ws.length f = some (p, q)) : M_option t a (nI f) = some (nI p) ∧ M_option t b (nI f) = some (nI q) := by
  obtain ⟨h1, h2, h3⟩ := hab
  have hn := h.nw
  have hs := oP_s ho
  unfold M_option M_option_b3
  generalize hA : (fun y : Int32 => M_option_s3 t a y) = A
  generalize hB : (fun y : Int32 => M_option_s3 t b y) = B
  have mA := fun i hi => m_opt h A (f := f) (i := i) (c := a) hA.symm hi
  have mB := fun i hi => m_opt h B (f := f) (i := i) (c := b) hB.symm hi
  unfold oP at ho
  by_cases c : ws.length = f
  · rw [if_pos c] at ho
    cases ho
    exact ⟨lp_x ((mA f (by omega)).1 (by omega)), lp_x ((mB f (by omega)).1 (by omega))⟩
  rw [if_neg c] at ho
  by_cases c2 : ws.length = f + 2
  · rw [if_pos c2] at ho
    by_cases ca : wC l ws f = a
    · rw [if_pos ca] at ho
      cases ho
      exact ⟨lp_x ((mA f (by omega)).2.1 (by omega) ca), (lp_l ((mB f (by omega)).2.2 (by omega) (by rw [ca]; exact h1) (by rw [ca]; exact h2))).trans (lp_x ((mB (f + 2) (by omega)).1 (by omega)))⟩
    rw [if_neg ca] at ho
    by_cases cb : wC l ws f = b
    · rw [if_pos cb] at ho
      cases ho
      exact ⟨(lp_l ((mA f (by omega)).2.2 (by omega) ca (by rw [cb]; exact h3))).trans (lp_x ((mA (f + 2) (by omega)).1 (by omega))), lp_x ((mB f (by omega)).2.1 (by omega) cb)⟩
    · rw [if_neg cb] at ho; cases ho
  rw [if_neg c2] at ho
  by_cases c4 : ws.length = f + 4
  · rw [if_pos c4] at ho
    by_cases ca : wC l ws f = a ∧ wC l ws (f + 2) = b
    · rw [if_pos ca] at ho
      cases ho
      exact ⟨lp_x ((mA f (by omega)).2.1 (by omega) ca.1), (lp_l ((mB f (by omega)).2.2 (by omega) (by rw [ca.1]; exact h1) (by rw [ca.1]; exact h2))).trans (lp_x ((mB (f + 2) (by omega)).2.1 (by omega) ca.2))⟩
    rw [if_neg ca] at ho
    by_cases cb : wC l ws f = b ∧ wC l ws (f + 2) = a
    · rw [if_pos cb] at ho
      cases ho
      exact ⟨(lp_l ((mA f (by omega)).2.2 (by omega) (by rw [cb.1]; exact fun z => h1 z.symm) (by rw [cb.1]; exact h3))).trans (lp_x ((mA (f + 2) (by omega)).2.1 (by omega) cb.2)), lp_x ((mB f (by omega)).2.1 (by omega) cb.1)⟩
    · rw [if_neg cb] at ho; cases ho
  · rw [if_neg c4] at ho; cases ho
end Op
