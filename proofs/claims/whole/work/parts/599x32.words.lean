/-! The words of a line, in the class. -/
/-- a blank -/
def blk (v : Nat) : Prop := v = 32 ∨ v = 9
noncomputable def isBlk (v : Nat) : Decidable (blk v) := Classical.propDecidable _
/-- the words of k bytes from i on; where one is open it began at b -/
noncomputable def wdS (u : Nat → Nat) : Nat → Nat → Option Nat → List (Nat × Nat)
  | 0, _, none => []
  | 0, i, some b => [(b, i)]
  | k + 1, i, none => @ite _ (blk (u i)) (isBlk _) (wdS u k (i + 1) none) (wdS u k (i + 1) (some i))
  | k + 1, i, some b => @ite _ (blk (u i)) (isBlk _) ((b, i) :: wdS u k (i + 1) none) (wdS u k (i + 1) (some b))
/-- the reader's words -/
def RWw (H : Nat → Nat → Nat) (s : cS) (rd : Nat) (ws : List (Nat × Nat)) : Prop := s.I 143 rd = nI ws.length ∧ ∀ j, j < ws.length → j < 24 → s.E (H 141 rd) j = nI (ws.getD j (0, 0)).1 ∧ s.E (H 142 rd) j = nI (ws.getD j (0, 0)).2
/-- what the reading of words changes -/
def fw (H : Nat → Nat → Nat) (rd : Nat) (s s' : cS) : Prop := s'.K = s.K ∧ s'.P = s.P ∧ s'.J = s.J ∧ s'.Q = s.Q ∧ (∀ g a, ¬ (g = 143 ∧ a = rd) → s'.I g a = s.I g a) ∧ ∀ a, a ≠ H 141 rd → a ≠ H 142 rd → s'.E a = s.E a
section Fw
variable {H : Nat → Nat → Nat} {rd : Nat} {s s1 s2 : cS}
theorem fw.rf : fw H rd s s := ⟨rfl, rfl, rfl, rfl, fun _ _ _ => rfl, fun _ _ _ => rfl⟩
theorem fw.tr (h : fw H rd s s1) (g : fw H rd s1 s2) : fw H rd s s2 := by
  obtain ⟨a1, a2, a3, a4, a5, a6⟩ := h
  obtain ⟨b1, b2, b3, b4, b5, b6⟩ := g
  exact ⟨b1.trans a1, b2.trans a2, b3.trans a3, b4.trans a4, fun k a ha => (b5 k a ha).trans (a5 k a ha), fun a h1 h2 => (b6 a h1 h2).trans (a6 a h1 h2)⟩
theorem fw.si {v : Int32} : fw H rd s (cSI s 143 rd v) := ⟨rfl, rfl, rfl, rfl, fun g a h => by
  by_cases e : g = 143
  · subst e; exact cSI_a (fun z => h ⟨rfl, z⟩)
  · exact cSI_g e, fun _ _ _ => rfl⟩
theorem fw.ea {i : Nat} {v : Int32} : fw H rd s (cSE s (H 141 rd) i v) := ⟨rfl, rfl, rfl, rfl, fun _ _ _ => rfl, fun a h1 _ => cSE_a h1⟩
theorem fw.eb {i : Nat} {v : Int32} : fw H rd s (cSE s (H 142 rd) i v) := ⟨rfl, rfl, rfl, rfl, fun _ _ _ => rfl, fun a _ h2 => cSE_a h2⟩
theorem fw.o (h : fw H rd s s1) {c a : Nat} (ha : okO s c a) : okO s1 c a := by unfold okO at ha ⊢; rw [h.1]; exact ha
theorem fw.b (h : fw H rd s s1) {b w cap : Nat} {l : List Int32} (hb : BL s b w l cap) (hw : w ≠ 107 ∧ w ≠ 108) (h1 : s.K (H 141 rd) = (107, 24)) (h2 : s.K (H 142 rd) = (108, 24)) : BL s1 b w l cap := by
  obtain ⟨a1, a2, d, a3, a4, a5, a6⟩ := hb
  have d1 : d ≠ H 141 rd := fun e => by rw [e, h1] at a4; exact hw.1 (Prod.mk.inj a4).1.symm
  have d2 : d ≠ H 142 rd := fun e => by rw [e, h2] at a4; exact hw.2 (Prod.mk.inj a4).1.symm
  refine ⟨h.o a1, a2, d, by rw [h.2.1]; exact a3, by rw [h.1]; exact a4, by rw [h.2.2.2.2.1 1 b (by omega)]; exact a5, by rw [h.2.2.2.2.2 d d1 d2]; exact a6⟩
end Fw
theorem pd_l {l m : List (Nat × Nat)} {i : Nat} (h : i < l.length) : (l ++ m).getD i (0, 0) = l.getD i (0, 0) := by
  rw [List.getD_eq_getElem?_getD, List.getD_eq_getElem?_getD, List.getElem?_append_left h]
theorem pd_s {l : List (Nat × Nat)} {p : Nat × Nat} : (l ++ [p]).getD l.length (0, 0) = p := by
  rw [List.getD_eq_getElem?_getD, List.getElem?_append_right (Nat.le_refl _), Nat.sub_self]
  rfl
section Wd
variable {H : Nat → Nat → Nat} {sa : Nat → Nat} {rd x kc ks f e cap : Nat} {s : cS} {l : List Int32} {Q : cS → Nat → Nat → Prop}
theorem w_parse (hb : BL s (H 220 x) 101 l cap) (ho : okO s 7 rd) (hxo : okO s 11 x) (h140 : s.P 140 rd = some x) (h220 : s.P 220 x = some (H 220 x)) (h141 : s.P 141 rd = some (H 141 rd) ∧ s.K (H 141 rd) = (107, 24)) (h142 : s.P 142 rd = some (H 142 rd) ∧ s.K (H 142 rd) = (108, 24)) (hfe : f ≤ e) (he : e ≤ l.length) (k : ∀ s', fw H rd s s' → RWw H s' rd (wdS (vc l) (e - f) f none) → Q s' kc ks) : C_Re_parse sa rd (nI f) (nI e) s kc ks Q := by
  have hs := hb.sm
  have hne : H 141 rd ≠ H 142 rd := fun z => by have := h141.2; rw [z, h142.2] at this; exact absurd (Prod.mk.inj this).1 (by decide)
  unfold C_Re_parse
  refine ⟨_, gd_to ho, ?_⟩
  unfold C_Re_parse_b10
  intro P hP
  have loop : ∀ (q i : Nat) (ws : List (Nat × Nat)) (cur : Option Nat) (s' : cS), i + q = e → ws.length + (if cur = none then 0 else 1) ≤ i → fw H rd s s' → RWw H s' rd (ws ++ (match cur with
      | none => []
      | some b => [(b, i)])) → ws ++ wdS (vc l) q i cur = wdS (vc l) (e - f) f none → P (if cur = none then 0 else 1) (nI i) s' kc ks := by
    intro q
    induction q with
    | zero =>
      intro i ws cur s' hi hl f' hw hR
      apply hP
      unfold C_Re_parse_s10
      refine ifF (nI_nlt (by omega) (by omega)) (k s' f' ?_)
      rw [← hR]
      cases cur <;> exact hw
    | succ q ih =>
      intro i ws cur s' hi hl f' hw hR
      have hb' := f'.b hb (by decide) h141.2 h142.2
      have ho' := f'.o ho
      have p140 : s'.P (20 * 7 + 0) rd = some x := by rw [f'.2.1]; exact h140
      have p220 : s'.P (20 * 11 + 0) x = some (H 220 x) := by rw [f'.2.1]; exact h220
      have hvl := vc_lt l i
      apply hP
      unfold C_Re_parse_s10
      refine ifT (nI_lt (by omega) (by omega)) ⟨_, gd_to ho', _, p140, _, gd_to (f'.o hxo), _, p220, hb'.1, w_at hb' (by omega) ?_⟩
      have blank : blk (vc l i) → C_Re_parse_b49 sa rd (nI e) (if cur = none then 0 else 1) (nI i) 1 s' kc ks Q P := by
        intro hbk
        unfold C_Re_parse_b49 C_Re_parse_b92 C_Re_parse_b102 C_Re_parse_b131
        refine ifF (by decide) (ifF (by decide) (ifT rfl ?_))
        rw [nI_1]
        cases cur with
        | none =>
          have hR : ws ++ (@ite _ (blk (vc l i)) (isBlk _) (wdS (vc l) q (i + 1) none) (wdS (vc l) q (i + 1) (some i))) = _ := hR
          rw [if_pos hbk] at hR
          exact ih (i + 1) ws none s' (by omega) (by rw [if_pos rfl] at hl ⊢; omega) f' hw hR
        | some b =>
          have hR : ws ++ (@ite _ (blk (vc l i)) (isBlk _) ((b, i) :: wdS (vc l) q (i + 1) none) (wdS (vc l) q (i + 1) (some b))) = _ := hR
          rw [if_pos hbk] at hR
          refine ih (i + 1) (ws ++ [(b, i)]) none s' (by omega) ?_ f' ?_ ?_
          · rw [if_neg (by simp)] at hl
            rw [if_pos rfl, List.length_append]; show ws.length + 1 + 0 ≤ i + 1; omega
          · show RWw H s' rd ((ws ++ [(b, i)]) ++ [])
            rw [List.append_nil]; exact hw
          · rw [List.append_assoc]; exact hR
      have word : ¬ blk (vc l i) → C_Re_parse_b49 sa rd (nI e) (if cur = none then 0 else 1) (nI i) 0 s' kc ks Q P := by
        intro hbk
        -- the end of the word that is open, set
        have b92 : ∀ (b : Nat) (s2 : cS), ws.length + 1 ≤ i + 1 → fw H rd s s2 → s2.I 143 rd = nI (ws.length + 1) → (∀ j, j < ws.length → j < 24 → s2.E (H 141 rd) j = nI (ws.getD j (0, 0)).1 ∧ s2.E (H 142 rd) j = nI (ws.getD j (0, 0)).2) → (ws.length < 24 → s2.E (H 141 rd) ws.length = nI b) → ws ++ wdS (vc l) q (i + 1) (some b) = wdS (vc l) (e - f) f none → C_Re_parse_b92 sa rd (nI e) (nI i) 0 s2 kc ks Q P := by
          intro b s2 hl2 f2 c1 c2 c3 hR2
          have ho2 := f2.o ho
          have fin : ∀ s3, fw H rd s s3 → RWw H s3 rd (ws ++ [(b, i + 1)]) → C_Re_parse_b131 sa rd (nI e) 1 (nI i) s3 kc ks Q P := by
            intro s3 f3 hw3
            unfold C_Re_parse_b131
            rw [nI_1]
            exact ih (i + 1) ws (some b) s3 (by omega) (by rw [if_neg (by simp)]; omega) f3 hw3 hR2
          unfold C_Re_parse_b92 C_Re_parse_b102
          refine ifT rfl (ifF (by decide) ⟨_, gd_to ho2, ?_⟩)
          rw [show s2.I (20 * 7 + 3) rd = nI (ws.length + 1) from c1]
          by_cases c24 : ws.length < 24
          · refine ifF (nI_nlt (a := 24) (by omega) (by omega)) ⟨_, gd_to ho2, _, gd_to ho2, _, (by rw [f2.2.1]; exact h142.1 : s2.P (20 * 7 + 2) rd = some (H 142 rd)), _, gd_to ⟨by rw [f2.1, h142.2]; decide, by rw [f2.1, h142.2]; decide, by rw [f2.1, h142.2]; rfl, ?_⟩, ?_⟩
            · rw [show s2.I (20 * 7 + 3) rd = nI (ws.length + 1) from c1, show nI (ws.length + 1) - 1 = nI ws.length from nI_pred _, f2.1, h142.2]
              exact vp_in_nI c24 (by decide)
            · rw [show s2.I (20 * 7 + 3) rd = nI (ws.length + 1) from c1, show nI (ws.length + 1) - 1 = nI ws.length from nI_pred _, nI_clamp (by omega), nI_1]
              refine fin _ (f2.tr fw.eb) ⟨?_, fun j hj hj24 => ?_⟩
              · rw [List.length_append]; exact c1
              · rw [List.length_append] at hj
                have hj : j < ws.length + 1 := hj
                rw [cSE_a hne, cSE_s]
                by_cases ej : j = ws.length
                · subst ej
                  rw [pd_s]
                  exact ⟨c3 c24, pk_us⟩
                · rw [pd_l (by omega), pk_un ej]
                  exact c2 j (by omega) hj24
          · refine ifT (nI_lt (a := 24) (by omega) (by omega)) (fin s2 f2 ⟨?_, fun j hj hj24 => ?_⟩)
            · rw [List.length_append]; exact c1
            · rw [pd_l (by omega)]; exact c2 j (by omega) hj24
        unfold C_Re_parse_b49
        refine ifT rfl ?_
        cases cur with
        | none =>
          have hR : ws ++ (@ite _ (blk (vc l i)) (isBlk _) (wdS (vc l) q (i + 1) none) (wdS (vc l) q (i + 1) (some i))) = _ := hR
          rw [if_neg hbk] at hR
          have hw : RWw H s' rd (ws ++ []) := hw
          rw [List.append_nil] at hw
          rw [if_pos rfl] at hl
          have e1 : s'.I (20 * 7 + 3) rd + 1 = nI (ws.length + 1) := by rw [show s'.I (20 * 7 + 3) rd = nI ws.length from hw.1, nI_1]
          have e2 : (cSI s' 143 rd (s'.I (20 * 7 + 3) rd + 1)).I (20 * 7 + 3) rd = nI (ws.length + 1) := cSI_s.trans e1
          refine ifT rfl ⟨_, gd_to ho', _, gd_to ho', _, gd_to ho', ?_⟩
          show if 24 < (cSI s' 143 rd (s'.I (20 * 7 + 3) rd + 1)).I (20 * 7 + 3) rd then _ else _
          rw [e2]
          have f2 : fw H rd s (cSI s' 143 rd (s'.I (20 * 7 + 3) rd + 1)) := f'.tr fw.si
          by_cases c24 : ws.length < 24
          · refine ifF (nI_nlt (a := 24) (by omega) (by omega)) ⟨_, gd_to ho', _, gd_to ho', _, (by rw [show (cSI s' (20 * 7 + 3) rd (s'.I (20 * 7 + 3) rd + 1)).P = s'.P from rfl, f'.2.1]; exact h141.1 : (cSI s' (20 * 7 + 3) rd (s'.I (20 * 7 + 3) rd + 1)).P (20 * 7 + 1) rd = some (H 141 rd)), _, gd_to ⟨by rw [f2.1, h141.2]; decide, by rw [f2.1, h141.2]; decide, by rw [f2.1, h141.2]; rfl, ?_⟩, ?_⟩
            · rw [e2, show nI (ws.length + 1) - 1 = nI ws.length from nI_pred _, f2.1, h141.2]
              exact vp_in_nI c24 (by decide)
            · rw [e2, show nI (ws.length + 1) - 1 = nI ws.length from nI_pred _, nI_clamp (by omega)]
              refine b92 i _ (by omega) (f2.tr fw.ea) e2 (fun j hj hj24 => ?_) (fun _ => ?_) hR
              · rw [cSE_s, cSE_a (fun z => hne z.symm), pk_un (show j ≠ ws.length by omega)]
                exact hw.2 j hj hj24
              · rw [cSE_s]; exact pk_us
          · exact ifT (nI_lt (a := 24) (by omega) (by omega)) (b92 i _ (by omega) f2 e2 (fun j hj hj24 => hw.2 j hj hj24) (fun h => absurd h c24) hR)
        | some b =>
          have hR : ws ++ (@ite _ (blk (vc l i)) (isBlk _) ((b, i) :: wdS (vc l) q (i + 1) none) (wdS (vc l) q (i + 1) (some b))) = _ := hR
          rw [if_neg hbk] at hR
          have hw : RWw H s' rd (ws ++ [(b, i)]) := hw
          rw [if_neg (by simp)] at hl
          refine ifF (by simp) (b92 b s' (by omega) f' (by have := hw.1; rw [List.length_append] at this; exact this) (fun j hj hj24 => ?_) (fun h24 => ?_) hR)
          · have := hw.2 j (by rw [List.length_append]; show j < ws.length + 1; omega) hj24
            rw [pd_l hj] at this; exact this
          · have := (hw.2 ws.length (by rw [List.length_append]; show ws.length < ws.length + 1; omega) h24).1
            rw [pd_s] at this; exact this
      by_cases c1 : vc l i = 32
      · exact ifT (by rw [c1]; rfl) (blank (Or.inl c1))
      refine ifF (fun h => c1 ((nI_eq (b := 32) (by omega) (by omega)).mp h)) ?_
      by_cases c2 : vc l i = 9
      · exact ifT (by rw [c2]; rfl) (blank (Or.inr c2))
      · exact ifF (fun h => c2 ((nI_eq (b := 9) (by omega) (by omega)).mp h)) (word (fun h => h.elim c1 c2))
  refine loop (e - f) f [] none _ (by omega) (Nat.zero_le _) fw.si ⟨cSI_s, fun j hj => absurd hj (Nat.not_lt_zero _)⟩ rfl
end Wd
