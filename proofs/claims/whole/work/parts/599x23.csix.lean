/-! Addresses of six, read by the class. -/
def gpI : Option Nat → Int32
  | some g => nI g
  | none => -1
/-- the eight groups from f to t -/
def sixQ (u : Nat → Nat) (f t : Nat) : Option (List Nat) := sixE (if u f = 58 ∧ f + 1 < t ∧ u (f + 1) = 58 then sx6 u t 9 (f + 2) [] (some 0) else sx6 u t 9 f [] none)
theorem nv_ex {gs : List Nat} {g z : Nat} (h : ∀ a, a ∈ gs → a < 65536) (hg : g ≤ gs.length) : nv (gs.take g ++ List.replicate z 0 ++ gs.drop g) = 65536 ^ z * (nv gs - nv gs % 65536 ^ (gs.length - g)) + nv gs % 65536 ^ (gs.length - g) := by
  have e := nv_ap (gs.drop g) (gs.take g)
  rw [List.take_append_drop, List.length_drop] at e
  have hl := nv_lt (gs.drop g) (fun a ha => h a (List.mem_of_mem_drop ha))
  rw [List.length_drop] at hl
  rw [nv_ap, nv_ap, nv_rep, List.length_replicate, List.length_drop, e]
  have e2 : (65536 ^ (gs.length - g) * nv (gs.take g) + nv (gs.drop g)) % 65536 ^ (gs.length - g) = nv (gs.drop g) := by
    rw [Nat.mul_add_mod, Nat.mod_eq_of_lt hl]
  rw [e2, Nat.add_sub_cancel, Nat.add_zero, ← Nat.mul_assoc, ← Nat.mul_assoc, Nat.mul_comm (65536 ^ (gs.length - g))]
section Cs
variable {sa : Nat → Nat} {b w cap kc ks f t x : Nat} {s : cS} {l : List Int32} {Q : Int32 → cS → Nat → Nat → Prop}
theorem w_b218 {gs : List Nat} {gap : Option Nat} (hx : okO s 5 x) (hv : HV s x (nv gs)) (hg : ∀ a, a ∈ gs → a < 65536) (hl : gs.length ≤ 9) (hgap : ∀ g, gap = some g → g ≤ gs.length) (k0 : exp8 gs gap = none → ∀ s', fp x s s' → Q 0 s' kc ks) (k1 : ∀ es, exp8 gs gap = some es → ∀ s', fp x s s' → HV s' x (nv es) → Q 1 s' kc ks) : C_Pr_parseSix_b218 sa x (nI gs.length) (gpI gap) s kc ks Q := by
  unfold C_Pr_parseSix_b218
  cases gap with
  | none =>
    refine ifT rfl ?_
    by_cases c : gs.length = 8
    · refine ifT (by rw [c]; rfl) (k1 gs ?_ s fp.rf hv)
      show (if gs.length = 8 then some gs else none) = some gs
      rw [if_pos c]
    · refine ifF (fun h => c ((nI_eq (b := 8) (by omega) (by omega)).mp h)) (k0 ?_ s fp.rf)
      show (if gs.length = 8 then some gs else none) = none
      rw [if_neg c]
  | some g =>
    have hgl := hgap g rfl
    refine ifF (fun h => nI_pos (show g < 2 ^ 31 by omega) (by rw [show nI g = -1 from h]; decide)) ?_
    by_cases c : gs.length < 8
    · refine ifT (nI_lt (b := 8) c (by omega)) ⟨hx, ?_⟩
      show C_Pr_openGap sa x (nI gs.length - nI g) (nI 8 - nI gs.length) s kc ks _
      rw [pk_sub hgl, pk_sub (show gs.length ≤ 8 by omega)]
      refine w_gap hx hv (by omega) (by omega) ?_ fun s' f h' => ?_
      · rw [show 8 - (8 - gs.length) = gs.length by omega]; exact nv_lt gs hg
      · refine ifF (by decide) (k1 (gs.take g ++ List.replicate (8 - gs.length) 0 ++ gs.drop g) ?_ s' f ?_)
        · show (if gs.length < 8 then _ else none) = _
          rw [if_pos c]
        · rw [nv_ex hg hgl]; exact h'
    · refine ifF (nI_nlt (b := 8) (by omega) (by omega)) (k0 ?_ s fp.rf)
      show (if gs.length < 8 then _ else none) = none
      rw [if_neg c]
theorem w_six (hb : BL s b w l cap) (hx : okO s 5 x) (hbx : b ≠ x) (ht : t ≤ l.length) (hf : f < t) (k0 : sixQ (vc l) f t = none → ∀ s', fp x s s' → Q 0 s' kc ks) (k1 : ∀ gs, sixQ (vc l) f t = some gs → ∀ s', fp x s s' → HV s' x (nv gs) → Q 1 s' kc ks) : C_Pr_parseSix sa x (some b) (nI f) (nI t) s kc ks Q := by
  have hs := hb.sm
  have main : ∀ (R : Option (List Nat × Option Nat)), sixE R = sixQ (vc l) f t → ∀ (i : Nat) (gap : Option Nat) (s1 : cS), i ≤ t + 1 → (∀ g, gap = some g → g = 0) → fp x s s1 → HV s1 x 0 → sx6 (vc l) t 9 i [] gap = R → C_Pr_parseSix_b56 sa x (some b) (nI t) (nI i) 0 (gpI gap) s1 kc ks Q := by
    intro R hR i gap s1 hi hgp f1 hv1 hsx
    have no : R = none → ∀ s', fp x s s' → Q 0 s' kc ks := fun h => k0 (by rw [← hR, h]; rfl)
    unfold C_Pr_parseSix_b56 C_Pr_parseSix_b59
    intro P59 hP59
    have loop : ∀ (r i : Nat) (gs : List Nat) (gap : Option Nat) (s' : cS), r + gs.length = 9 → i ≤ t + 1 → (∀ a, a ∈ gs → a < 65536) → (∀ g, gap = some g → g ≤ gs.length) → fp x s s' → HV s' x (nv gs) → sx6 (vc l) t r i gs gap = R → P59 (nI i) (nI gs.length) (gpI gap) (nI (9 - r)) s' kc ks := by
      intro r
      induction r with
      | zero =>
        intro i gs gap s' hr hi hg hgap f' hv' hp
        have hp : some (gs, gap) = R := hp
        apply hP59
        unfold C_Pr_parseSix_s59
        refine ifF (by decide) (w_b218 (f'.o hx) hv' hg (by omega) hgap (fun e s2 f2 => k0 ?_ s2 (f'.tr f2)) (fun es e s2 f2 h2 => k1 es ?_ s2 (f'.tr f2) h2))
        · rw [← hR, ← hp]; exact e
        · rw [← hR, ← hp]; exact e
      | succ r ih =>
        intro i gs gap s' hr hi hg hgap f' hv' hp
        have hb' := f'.b hb hbx
        have hx' := f'.o hx
        apply hP59
        unfold C_Pr_parseSix_s59
        refine ifT (nI_lt (b := 9) (by omega) (by omega)) ?_
        by_cases ci : i < t
        · refine ifT (nI_lt ci (by omega)) ?_
          have hE := fnd_le (vc l) 58 (t - i) i
          have hp : (if i < t then
              match hexN (vc l) i (fnd (vc l) 58 (t - i) i) with
              | none => none
              | some v => if gs.length = 8 then none else
                  if fnd (vc l) 58 (t - i) i < t then
                    if fnd (vc l) 58 (t - i) i + 1 = t then none else
                    if vc l (fnd (vc l) 58 (t - i) i + 1) = 58 then (if gap = none then sx6 (vc l) t r (fnd (vc l) 58 (t - i) i + 2) (gs ++ [v]) (some (gs.length + 1)) else none)
                    else sx6 (vc l) t r (fnd (vc l) 58 (t - i) i + 1) (gs ++ [v]) gap
                  else sx6 (vc l) t r (fnd (vc l) 58 (t - i) i + 1) (gs ++ [v]) gap
              else some (gs, gap)) = R := hp
          rw [if_pos ci] at hp
          generalize hEe : fnd (vc l) 58 (t - i) i = E at hE hp
          have b99 : C_Pr_parseSix_b99 sa x (some b) (nI t) (nI i) (nI gs.length) (gpI gap) (nI (9 - (r + 1))) (nI E) s' kc ks Q P59 := by
            unfold C_Pr_parseSix_b99
            refine w_hex hb' (by omega) (by omega) (by omega) ?_
            cases hn : hexN (vc l) i E with
            | none =>
              rw [hn] at hp
              exact ifT (show (-1 : Int32) < 0 by decide) (no hp.symm s' f')
            | some v =>
              rw [hn] at hp
              have hv := hexN_lt hn
              have hp : (if gs.length = 8 then none else
                  if E < t then
                    if E + 1 = t then none else
                    if vc l (E + 1) = 58 then (if gap = none then sx6 (vc l) t r (E + 2) (gs ++ [v]) (some (gs.length + 1)) else none)
                    else sx6 (vc l) t r (E + 1) (gs ++ [v]) gap
                  else sx6 (vc l) t r (E + 1) (gs ++ [v]) gap) = R := hp
              show if nI v < 0 then _ else _
              refine ifF (nI_pos (by omega)) ?_
              by_cases c8 : gs.length = 8
              · rw [if_pos c8] at hp
                exact ifT (by rw [c8]; rfl) (no hp.symm s' f')
              rw [if_neg c8] at hp
              refine ifF (fun h => c8 ((nI_eq (b := 8) (by omega) (by omega)).mp h)) ⟨_, gd_to hx', _, gd_to hx', _, gd_to hx', _, gd_to hx', _, gd_to hx', ?_⟩
              have hV : nv gs < 2 ^ 112 := by
                have a1 := nv_lt gs hg
                have a2 : 65536 ^ gs.length ≤ 65536 ^ 7 := Nat.pow_le_pow_right (by decide) (by omega)
                exact Nat.lt_of_lt_of_le a1 (Nat.le_trans a2 (by decide))
              have hv2 := hv'.sh hV hv
              rw [← nv_sn, ← L_ofNat (show v < 2 ^ 31 by omega)] at hv2
              have f2 := (f'.tr (fp.sj (g := 101) (v := (s'.J 101 x <<< ((16 : Int32).toInt64 &&& 63)) ||| ush_L (s'.J 102 x) 48))).tr (fp.sj (g := 102) (v := (s'.J 102 x <<< ((16 : Int32).toInt64 &&& 63)) ||| (nI v).toInt64))
              show if nI E < nI t then (if nI E + 1 = nI t then Q 0 (cSJ (cSJ s' 101 x ((s'.J 101 x <<< ((16 : Int32).toInt64 &&& 63)) ||| ush_L (s'.J 102 x) 48)) 102 x ((s'.J 102 x <<< ((16 : Int32).toInt64 &&& 63)) ||| (nI v).toInt64)) kc ks else C_Pr_parseSix_b180 sa x (some b) (nI t) (nI E + 1) (nI gs.length + 1) (gpI gap) (nI (9 - (r + 1))) (cSJ (cSJ s' 101 x ((s'.J 101 x <<< ((16 : Int32).toInt64 &&& 63)) ||| ush_L (s'.J 102 x) 48)) 102 x ((s'.J 102 x <<< ((16 : Int32).toInt64 &&& 63)) ||| (nI v).toInt64)) kc ks Q P59) else C_Pr_parseSix_b180 sa x (some b) (nI t) (nI E + 1) (nI gs.length + 1) (gpI gap) (nI (9 - (r + 1))) (cSJ (cSJ s' 101 x ((s'.J 101 x <<< ((16 : Int32).toInt64 &&& 63)) ||| ush_L (s'.J 102 x) 48)) 102 x ((s'.J 102 x <<< ((16 : Int32).toInt64 &&& 63)) ||| (nI v).toInt64)) kc ks Q P59
              generalize cSJ (cSJ s' 101 x ((s'.J 101 x <<< ((16 : Int32).toInt64 &&& 63)) ||| ush_L (s'.J 102 x) 48)) 102 x ((s'.J 102 x <<< ((16 : Int32).toInt64 &&& 63)) ||| (nI v).toInt64) = s2 at hv2 f2
              have hg2 : ∀ a, a ∈ gs ++ [v] → a < 65536 := fun a ha => by
                rcases List.mem_append.mp ha with ha | ha
                · exact hg a ha
                · rw [List.mem_singleton.mp ha]; exact hv
              have hl2 : (gs ++ [v]).length = gs.length + 1 := by rw [List.length_append]; rfl
              have go : ∀ (i' : Nat) (gap' : Option Nat), i' ≤ t + 1 → (∀ g, gap' = some g → g ≤ gs.length + 1) → sx6 (vc l) t r i' (gs ++ [v]) gap' = R → C_Pr_parseSix_b212 sa x (some b) (nI t) (nI i') (nI (gs.length + 1)) (gpI gap') (nI (9 - (r + 1))) s2 kc ks Q P59 := by
                intro i' gap' hi' hgap' hp'
                unfold C_Pr_parseSix_b212
                rw [nI_1, show 9 - (r + 1) + 1 = 9 - r by omega]
                have := ih i' (gs ++ [v]) gap' s2 (by rw [hl2]; omega) hi' hg2 (by rw [hl2]; exact hgap') f2 hv2 hp'
                rw [hl2] at this
                exact this
              rw [nI_1, nI_1]
              have hgs : ∀ g, gap = some g → g ≤ gs.length + 1 := fun g e => by have := hgap g e; omega
              by_cases cE : E < t
              · rw [if_pos cE] at hp
                refine ifT (nI_lt cE (by omega)) ?_
                by_cases cE1 : E + 1 = t
                · rw [if_pos cE1] at hp
                  exact ifT (by rw [cE1]) (no hp.symm s2 f2)
                rw [if_neg cE1] at hp
                refine ifF (fun h => cE1 ((nI_eq (by omega) (by omega)).mp h)) ?_
                unfold C_Pr_parseSix_b180
                have hvl := vc_lt l (E + 1)
                refine ifT (nI_lt (by omega) (by omega)) ⟨_, rfl, f2.o hb.1, w_at (f2.b hb hbx) (by omega) ?_⟩
                by_cases c58 : vc l (E + 1) = 58
                · rw [if_pos c58] at hp
                  refine ifT (by rw [c58]; rfl) ?_
                  cases gap with
                  | none =>
                    rw [if_pos rfl] at hp
                    refine ifT rfl ?_
                    rw [nI_1]
                    exact go (E + 2) (some (gs.length + 1)) (by omega) (fun g e => by cases e; exact Nat.le_refl _) hp
                  | some g =>
                    rw [if_neg (by simp)] at hp
                    have := hgap g rfl
                    exact ifF (fun h => nI_pos (show g < 2 ^ 31 by omega) (by rw [show nI g = -1 from h]; decide)) (no hp.symm s2 f2)
                · rw [if_neg c58] at hp
                  exact ifF (fun h => c58 ((nI_eq (b := 58) (by omega) (by omega)).mp h)) (go (E + 1) gap (by omega) hgs hp)
              · rw [if_neg cE] at hp
                refine ifF (nI_nlt (by omega) (by omega)) ?_
                unfold C_Pr_parseSix_b180
                exact ifF (nI_nlt (by omega) (by omega)) (go (E + 1) gap (by omega) hgs hp)
          unfold C_Pr_parseSix_b76
          intro P76 hP76
          have inner : ∀ (q e : Nat), e + q = t → fnd (vc l) 58 q e = E → P76 (nI e) s' kc ks := by
            intro q
            induction q with
            | zero =>
              intro e he hfe
              have hfe : e = E := hfe
              apply hP76
              unfold C_Pr_parseSix_s76
              refine ifF (nI_nlt (by omega) (by omega)) ?_
              rw [hfe]
              exact b99
            | succ q ihq =>
              intro e he hfe
              have hfe : (if vc l e = 58 then e else fnd (vc l) 58 q (e + 1)) = E := hfe
              have hvl := vc_lt l e
              apply hP76
              unfold C_Pr_parseSix_s76
              refine ifT (nI_lt (by omega) (by omega)) ⟨_, rfl, hb'.1, w_at hb' (by omega) ?_⟩
              by_cases c : vc l e = 58
              · rw [if_pos c] at hfe
                refine ifT (by rw [c]; rfl) ?_
                rw [hfe]; exact b99
              · rw [if_neg c] at hfe
                refine ifF (fun h => c ((nI_eq (b := 58) (by omega) (by omega)).mp h)) ?_
                rw [nI_1]
                exact ihq (e + 1) (by omega) hfe
          exact inner (t - i) i (by omega) hEe
        · have hp : some (gs, gap) = R := by rw [← hp]; exact (if_neg ci).symm
          refine ifF (nI_nlt (by omega) (by omega)) (w_b218 (f'.o hx) hv' hg (by omega) hgap (fun e s2 f2 => k0 ?_ s2 (f'.tr f2)) (fun es e s2 f2 h2 => k1 es ?_ s2 (f'.tr f2) h2))
          · rw [← hR, ← hp]; exact e
          · rw [← hR, ← hp]; exact e
    exact loop 9 i [] gap s1 rfl hi (fun a ha => by cases ha) (fun g e => by rw [hgp g e]; exact Nat.zero_le _) f1 hv1 hsx
  unfold C_Pr_parseSix
  refine ⟨hx, w_setZero hx ⟨_, rfl, ?_⟩⟩
  have f1 : fp x s (cSpf s x 6 0 0 128) := ((fp.si.tr fp.sj).tr fp.sj).tr fp.si
  have hv1 : HV (cSpf s x 6 0 0 128) x 0 := by
    refine ⟨by decide, ?_, ?_, ?_, cSI_s⟩
    · show (cSJ (cSJ (cSI s 100 x 6) 101 x 0) 102 x 0).J 101 x = 0
      rw [cSJ_g (by decide)]
      exact cSJ_s
    · show (cSJ (cSJ (cSI s 100 x 6) 101 x 0) 102 x 0).J 102 x = 0
      exact cSJ_s
    · show (cSpf s x 6 0 0 128).I 100 x = 6
      unfold cSpf
      rw [cSI_g (by decide)]
      show (cSI s 100 x 6).I 100 x = 6
      exact cSI_s
  have hb1 := f1.b hb hbx
  refine ⟨hb1.1, w_at hb1 (by omega) ?_⟩
  have hvl := vc_lt l f
  have hvl1 := vc_lt l (f + 1)
  by_cases c1 : vc l f = 58
  · refine ifT (by rw [c1]; rfl) ?_
    rw [nI_1]
    by_cases c2 : f + 1 < t
    · refine ifT (nI_lt c2 (by omega)) ⟨hb1.1, w_at hb1 (by omega) ?_⟩
      by_cases c3 : vc l (f + 1) = 58
      · refine ifT (by rw [c3]; rfl) ?_
        rw [show nI f + 2 = nI (f + 2) from nI_add f 2]
        refine main _ ?_ (f + 2) (some 0) _ (by omega) (fun g e => by cases e; rfl) f1 hv1 rfl
        unfold sixQ
        rw [if_pos ⟨c1, c2, c3⟩]
      · refine ifF (fun h => c3 ((nI_eq (b := 58) (by omega) (by omega)).mp h)) (main _ ?_ f none _ (by omega) (fun g e => by cases e) f1 hv1 rfl)
        unfold sixQ
        rw [if_neg (fun h => c3 h.2.2)]
    · refine ifF (nI_nlt (by omega) (by omega)) (main _ ?_ f none _ (by omega) (fun g e => by cases e) f1 hv1 rfl)
      unfold sixQ
      rw [if_neg (fun h => c2 h.2.1)]
  · refine ifF (fun h => c1 ((nI_eq (b := 58) (by omega) (by omega)).mp h)) (main _ ?_ f none _ (by omega) (fun g e => by cases e) f1 hv1 rfl)
    unfold sixQ
    rw [if_neg (fun h => c1 h.1)]
end Cs
