/-! The datagram's row of bytes is written: it never grows. -/
def FW (b d : Nat) (s0 : cS) (l : List Int32) (s : cS) : Prop := (s.K = s0.K ∧ s.P = s0.P ∧ s.Q = s0.Q ∧ s.J = s0.J) ∧ (∀ g a, ¬ (g = 1 ∧ a = b) → s.I g a = s0.I g a) ∧ (∀ a, a ≠ d → s.E a = s0.E a) ∧ (okO s0 0 b ∧ s0.P 0 b = some d ∧ s0.K d = (129, 600)) ∧ s.I 1 b = nI l.length ∧ l.length ≤ 600 ∧ ∀ i, i < l.length → s.E d i = sb (l.getD i 0) ∧ l.getD i 0 &&& 255 = l.getD i 0
section Fw
variable {sa : Nat → Nat} {b d kc ks : Nat} {s0 s : cS} {l : List Int32} {Q : cS → Nat → Nat → Prop}
theorem BL.fw (h : BL s b 129 l 600) : ∃ d, FW b d s l s := by
  obtain ⟨h1, h2, d, h3, h4, h5, h6, h7, h8, h9⟩ := h
  exact ⟨d, ⟨rfl, rfl, rfl, rfl⟩, fun _ _ _ => rfl, fun _ _ => rfl, ⟨h1, h3, h4⟩, h5, h6, h9⟩
theorem FW.bl (h : FW b d s0 l s) : BL s b 129 l 600 := by
  obtain ⟨⟨k1, k2, k3, k4⟩, i1, e1, ⟨o1, o2, o3⟩, l1, l2, l3⟩ := h
  exact ⟨by unfold okO at o1 ⊢; rw [k1]; exact o1, by decide, d, by rw [k2]; exact o2, by rw [k1]; exact o3, l1, l2, by decide, by decide, l3⟩
theorem FW.o (h : FW b d s0 l s) : okO s 0 b := h.bl.1
theorem FW.db (h : FW b d s0 l s) : d ≠ b := fun e => by
  obtain ⟨-, -, -, ⟨o1, o2, o3⟩, -⟩ := h
  have := o1.2.1
  rw [← e, o3] at this
  exact absurd this (by decide)
theorem FW.ok (h : FW b d s0 l s) {c a : Nat} (ha : okO s0 c a) : okO s c a := by unfold okO at ha ⊢; rw [h.1.1]; exact ha
theorem FW.fr (h : FW b d s0 l s) {u : Nat} (hb : (s0.K b).1 = u) : fr [u, 129] [] [] s0 s := fun a _ => by
  obtain ⟨⟨k1, k2, k3, k4⟩, i1, e1, ⟨o1, o2, o3⟩, -⟩ := h
  refine ⟨by rw [k1], fun hv => ⟨fun g => i1 g a (fun z => hv ?_), fun g => by rw [k4], e1 a (fun z => hv ?_)⟩, fun g _ => by rw [k2], fun _ => by rw [k3]⟩
  · rw [z.2, hb]; exact List.mem_cons_self
  · rw [z, o3]; exact List.mem_cons_of_mem _ List.mem_cons_self
/-- where another field of another object is another -/
theorem FW.rb (h : FW b d s0 l s) : FW b d s l s := by
  obtain ⟨⟨k1, k2, k3, k4⟩, i1, e1, ⟨o1, o2, o3⟩, l1, l2, l3⟩ := h
  exact ⟨⟨rfl, rfl, rfl, rfl⟩, fun _ _ _ => rfl, fun _ _ => rfl, ⟨by unfold okO at o1 ⊢; rw [k1]; exact o1, by rw [k2]; exact o2, by rw [k1]; exact o3⟩, l1, l2, l3⟩
theorem fw_clear (h : FW b d s0 l s) (k : ∀ s', FW b d s0 [] s' → Q s' kc ks) : C_By_clear sa b s kc ks Q := by
  have ho := h.o
  obtain ⟨⟨k1, k2, k3, k4⟩, i1, e1, o, l1, l2, l3⟩ := h
  unfold C_By_clear
  refine ⟨_, gd_to ho, k _ ⟨⟨k1, k2, k3, k4⟩, fun g a hg => ?_, e1, o, cSI_s, by decide, fun i hi => absurd hi (Nat.not_lt_zero i)⟩⟩
  rw [evI, if_neg (by exact hg)]
  exact i1 g a hg
theorem fw_add {v : Int32} (h : FW b d s0 l s) (hl : l.length + 1 ≤ 600) (k : ∀ s', FW b d s0 (l ++ [v &&& 255]) s' → Q s' kc ks) : C_By_add sa b v s kc ks Q := by
  have ho := h.o
  have hdb := h.db
  obtain ⟨⟨k1, k2, k3, k4⟩, i1, e1, ⟨o1, o2, o3⟩, l1, l2, l3⟩ := h
  have hp : s.P 0 b = some d := by rw [k2]; exact o2
  have hk : s.K d = (129, 600) := by rw [k1]; exact o3
  have haL : aL s d = some (nI 600) := gd_to (by rw [hk]; decide) |>.trans (by rw [hk])
  have hlen : (nI l.length).toNatClampNeg = l.length := nI_clamp (by omega)
  unfold C_By_add
  refine ⟨_, gd_to ho, _, gd_to ho, d, hp, _, haL, ifT (by show s.I 1 b < nI 600; rw [l1]; exact nI_lt (by omega) (by decide)) ?_⟩
  unfold C_By_add_b53
  refine ⟨_, gd_to ho, _, gd_to ho, d, hp, _, gd_to ⟨by rw [hk]; decide, by rw [hk]; decide, by rw [hk]; decide, by rw [hk]; show vp_in (s.I 1 b) 600; rw [l1]; exact vp_in_nI (by omega) (by decide)⟩, _, gd_to ho.se, _, gd_to ho.se, ?_⟩
  apply k
  show FW b d s0 (l ++ [v &&& 255]) (cSI (cSE s d (s.I 1 b).toNatClampNeg (sb (sb v))) 1 b (s.I 1 b + 1))
  rw [l1, hlen, sb_sb, nI_1]
  refine ⟨⟨k1, k2, k3, k4⟩, fun g a hg => ?_, fun a ha => ?_, ⟨o1, o2, o3⟩, ?_, ?_, fun i hi => ?_⟩
  · rw [evI, if_neg hg]
    exact i1 g a hg
  · show (cSE s d l.length (sb v)).E a = _
    rw [cSE_a ha]
    exact e1 a ha
  · rw [List.length_append]; exact cSI_s
  · rw [List.length_append]; exact hl
  · rw [List.length_append] at hi
    have hi : i < l.length + 1 := hi
    show (cSE s d l.length (sb v)).E d i = _ ∧ _
    by_cases c : i < l.length
    · rw [cSE_i (by omega), gd_l c]
      exact l3 i c
    · have : i = l.length := by omega
      subst this
      rw [cSE_v, gd_r (Nat.le_refl _), Nat.sub_self]
      exact ⟨(sb_255 v).symm, and_255 v⟩
theorem fw_number {v : Int64} (n : Nat) {a : Int32} (ha : a = nI n) (h : FW b d s0 l s) (hn : n ≤ 8) (hl : l.length + n ≤ 600) (k : ∀ s', FW b d s0 (l ++ bnL v n) s' → Q s' kc ks) : C_By_addNumber sa b v a s kc ks Q := by
  subst ha
  unfold C_By_addNumber C_By_addNumber_b9
  intro P hP
  have key : ∀ n l (s : cS), n ≤ 8 → l.length + n ≤ 600 → FW b d s0 l s → (∀ s', FW b d s0 (l ++ bnL v n) s' → Q s' kc ks) → P (nI (8 * n) - 8) s kc ks := by
    intro n
    induction n with
    | zero =>
      intro l s _ hl h k
      apply hP
      unfold C_By_addNumber_s9
      rw [if_pos m8_lt]
      exact k s (by rw [show l ++ bnL v 0 = l from List.append_nil l]; exact h)
    | succ n ih =>
      intro l s hn hl h k
      apply hP
      unfold C_By_addNumber_s9
      rw [nI_8m, if_neg (nI_pos (by omega))]
      refine ⟨h.o, fw_add h (by omega) (fun s' h' => ?_)⟩
      have e : nI (8 * n) + (-8) = nI (8 * n) - 8 := (Int32.sub_eq_add_neg _ _).symm
      rw [e]
      refine ih _ s' (by omega) (by rw [List.length_append]; show l.length + 1 + n ≤ 600; omega) h' (fun s2 h2 => k s2 ?_)
      rw [List.append_assoc] at h2
      exact h2
  have e : nI n * 8 - 8 = nI (8 * n) - 8 := by rw [show (8 : Int32) = nI 8 from rfl, nI_mul, Nat.mul_comm]
  rw [e]
  exact key n l s hn hl h k
theorem fw_zeros (n : Nat) {a : Int32} (ha : a = nI n) (h : FW b d s0 l s) (hn : n < 2 ^ 31) (hl : l.length + n ≤ 600) (k : ∀ s', FW b d s0 (l ++ List.replicate n 0) s' → Q s' kc ks) : C_By_addZeros sa b a s kc ks Q := by
  subst ha
  unfold C_By_addZeros C_By_addZeros_b2
  intro P hP
  have key : ∀ r j l (s : cS), j + r = n → l.length + r ≤ 600 → FW b d s0 l s → (∀ s', FW b d s0 (l ++ List.replicate r 0) s' → Q s' kc ks) → P (nI j) s kc ks := by
    intro r
    induction r with
    | zero =>
      intro j l s hj hl h k
      apply hP
      unfold C_By_addZeros_s2
      rw [if_neg (nI_nlt (by omega) (by omega))]
      exact k s (by rw [show l ++ List.replicate 0 (0 : Int32) = l from List.append_nil l]; exact h)
    | succ r ih =>
      intro j l s hj hl h k
      apply hP
      unfold C_By_addZeros_s2
      rw [if_pos (nI_lt (by omega) (by omega))]
      refine ⟨h.o, fw_add h (by omega) (fun s' h' => ?_)⟩
      rw [nI_1]
      refine ih (j + 1) _ s' (by omega) (by rw [List.length_append]; show l.length + 1 + r ≤ 600; omega) h' (fun s2 h2 => k s2 ?_)
      rw [List.append_assoc] at h2
      exact h2
  exact key n 0 l s (by omega) hl h k
/-- one byte is another -/
theorem fw_set {v : Int32} {j : Nat} (h : FW b d s0 l s) (hj : j < l.length) (k : ∀ s', FW b d s0 (l.set j (v &&& 255)) s' → Q s' kc ks) : C_By_setAt sa b (nI j) v s kc ks Q := by
  have ho := h.o
  obtain ⟨⟨k1, k2, k3, k4⟩, i1, e1, ⟨o1, o2, o3⟩, l1, l2, l3⟩ := h
  have hp : s.P 0 b = some d := by rw [k2]; exact o2
  have hk : s.K d = (129, 600) := by rw [k1]; exact o3
  unfold C_By_setAt
  refine ifF (nI_pos (by omega)) ⟨_, gd_to ho, ?_⟩
  refine ifT (by show nI j < s.I 1 b; rw [l1]; exact nI_lt hj (by omega)) ?_
  refine ⟨_, gd_to ho, d, hp, _, gd_to ⟨by rw [hk]; decide, by rw [hk]; decide, by rw [hk]; decide, by rw [hk]; exact vp_in_nI (by omega) (by decide)⟩, ?_⟩
  rw [nI_clamp (show j < 2 ^ 31 by omega)]
  apply k
  show FW b d s0 _ (cSE s d j (sb (sb v)))
  rw [sb_sb]
  refine ⟨⟨k1, k2, k3, k4⟩, i1, fun a ha => ?_, ⟨o1, o2, o3⟩, ?_, ?_, fun i hi => ?_⟩
  · rw [cSE_a ha]; exact e1 a ha
  · rw [List.length_set]; exact l1
  · rw [List.length_set]; exact l2
  · rw [List.length_set] at hi
    have hg : (l.set j (v &&& 255)).getD i 0 = if j = i then v &&& 255 else l.getD i 0 := by
      rw [List.getD_eq_getElem?_getD, List.getD_eq_getElem?_getD, List.getElem?_set]
      by_cases c : j = i
      · rw [if_pos c, if_pos c, if_pos (by omega)]; rfl
      · rw [if_neg c, if_neg c]
    rw [hg]
    by_cases c : j = i
    · subst c
      rw [if_pos rfl, cSE_v]
      exact ⟨(sb_255 v).symm, and_255 v⟩
    · rw [if_neg c, cSE_i (fun z => c z.symm)]
      exact l3 i hi
/-- a piece of another row behind -/
theorem fw_part {o w2 c2 i j : Nat} {l2 : List Int32} (h : FW b d s0 l s) (ho : BL s o w2 l2 c2) (hne : o ≠ b) (hnd : ∀ e, s.P 0 o = some e → e ≠ d) (hi : i ≤ j) (hj : j ≤ l2.length) (hl : l.length + (j - i) ≤ 600) (k : ∀ s', FW b d s0 (l ++ (l2.drop i).take (j - i)) s' → Q s' kc ks) : C_By_addPart sa b (some o) (nI i) (nI j) s kc ks Q := by
  have hob := h.o
  have hdb := h.db
  obtain ⟨b1, b2, e, b3, b4, b5, b6, b7, b8, b9⟩ := ho
  have hed := hnd e b3
  have es : nI j - nI i = nI (j - i) := by
    rw [show nI j = nI (j - i) + nI i by rw [nI_add, Nat.sub_add_cancel hi], Int32.add_sub_cancel]
  unfold C_By_addPart
  refine ifF (nI_pos (by omega)) ?_
  rw [es]
  by_cases c0 : j - i = 0
  · refine ifF (by rw [c0]; decide) (k s ?_)
    rw [c0, List.take_zero, List.append_nil]
    exact h
  obtain ⟨⟨k1, k2, k3, k4⟩, i1, e1, ⟨o1, o2, o3⟩, l1, l2', l3⟩ := h
  have hp : s.P 0 b = some d := by rw [k2]; exact o2
  have hk : s.K d = (129, 600) := by rw [k1]; exact o3
  have haL : aL s d = some (nI 600) := gd_to (by rw [hk]; decide) |>.trans (by rw [hk])
  refine ifT (show (0 : Int32) < nI (j - i) from nI_lt (a := 0) (by omega) (by omega)) ⟨_, rfl, _, gd_to b1, ?_⟩
  show if s.I 1 o < nI j then _ else _
  rw [b5]
  refine ifF (nI_nlt hj (by omega)) ⟨_, gd_to hob, _, gd_to hob, d, hp, _, haL, ?_⟩
  show if nI 600 < s.I 1 b + nI (j - i) then _ else _
  rw [l1, nI_add]
  refine ifF (nI_nlt (by omega) (by omega)) ?_
  have len : ((l2.drop i).take (j - i)).length = j - i := by rw [List.length_take, List.length_drop]; omega
  unfold C_By_addPart_b80
  refine ⟨_, rfl, _, gd_to b1, _, gd_to hob, _, gd_to hob, e, b3, d, hp, cSa s d (va_cpy (s.E e) (s.E d) i l.length (j - i)), ?_, ?_⟩
  · have g : _ := gd_to (α := cS) (x := (s.1, s.2.1, s.2.2.1, s.2.2.2.1, fun x => if x = d then va_cpy (s.E e) (s.E d) (nI i).toNatClampNeg (s.I 1 b).toNatClampNeg (nI (j - i)).toNatClampNeg else s.E x, s.2.2.2.2.2)) (P := (100 ≤ (s.K e).1 ∧ (s.K e).1 < 130) ∧ (100 ≤ (s.K d).1 ∧ (s.K d).1 < 130) ∧ cAT (s.K d).1 = cAT (s.K e).1 ∧ ¬ nI i < 0 ∧ ¬ s.I 1 b < 0 ∧ ¬ nI (j - i) < 0 ∧ (nI i).toNatClampNeg + (nI (j - i)).toNatClampNeg ≤ (s.K e).2 ∧ (s.I 1 b).toNatClampNeg + (nI (j - i)).toNatClampNeg ≤ (s.K d).2 ∧ ∀ k, k < (nI (j - i)).toNatClampNeg → fits (cAT (s.K e).1) (.int (s.E e ((nI i).toNatClampNeg + k))) = true) ?_
    · refine g.trans ?_
      rw [l1, nI_clamp (show i < 2 ^ 31 by omega), nI_clamp (show l.length < 2 ^ 31 by omega), nI_clamp (show j - i < 2 ^ 31 by omega)]
      rfl
    · rw [hk, b4, l1, nI_clamp (show i < 2 ^ 31 by omega), nI_clamp (show l.length < 2 ^ 31 by omega), nI_clamp (show j - i < 2 ^ 31 by omega)]
      refine ⟨⟨b2.1, b2.2.1⟩, by decide, (show cAT 129 = cAT w2 by rw [b2.2.2]; decide), nI_pos (by omega), nI_pos (by omega), nI_pos (by omega), by show i + (j - i) ≤ c2; omega, by show l.length + (j - i) ≤ 600; omega, fun q hq => ?_⟩
      show fits (cAT w2) _ = true
      rw [b2.2.2, (b9 (i + q) (by omega)).1]
      exact sb_fit _
  · refine ⟨_, gd_to hob, _, gd_to hob, ?_⟩
    apply k
    show FW b d s0 _ (cSI (cSa s d _) 1 b (s.I 1 b + nI (j - i)))
    rw [l1, nI_add]
    refine ⟨⟨k1, k2, k3, k4⟩, fun g a hg => ?_, fun a ha => ?_, ⟨o1, o2, o3⟩, ?_, ?_, fun q hq => ?_⟩
    · rw [evI, if_neg hg]; exact i1 g a hg
    · show (cSa s d _).E a = _
      rw [cSa_en ha]; exact e1 a ha
    · rw [List.length_append, len]; exact cSI_s
    · rw [List.length_append, len]; exact hl
    · rw [List.length_append, len] at hq
      show (cSa s d _).E d q = _ ∧ _
      rw [cSa_es]
      show (if l.length ≤ q ∧ q < l.length + (j - i) then s.E e (i + (q - l.length)) else s.E d q) = _ ∧ _
      by_cases c : q < l.length
      · rw [if_neg (by omega), gd_l c]; exact l3 q c
      · have hg2 : (l ++ (l2.drop i).take (j - i)).getD q 0 = l2.getD (i + (q - l.length)) 0 := by
          rw [gd_r (by omega)]
          rw [List.getD_eq_getElem?_getD, List.getD_eq_getElem?_getD, List.getElem?_take, if_pos (by omega), List.getElem?_drop]
        rw [if_pos (by omega), hg2]
        exact b9 _ (by omega)
end Fw
