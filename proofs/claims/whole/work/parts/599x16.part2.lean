/-! A piece behind, and seen. -/
section Pt
variable {sa : Nat → Nat} {b w F L k0 m0 : Nat} {s0 s : cS} {l : List Int32} {kc ks : Nat} {Q : cS → Nat → Nat → Prop}
theorem mxI_n (x y : Nat) (hx : x < 2 ^ 31) (hy : y < 2 ^ 31) : mxI (nI x) (nI y) = nI (max x y) := by
  unfold mxI
  by_cases c : x < y
  · rw [if_pos (nI_lt c hy), Nat.max_eq_right (by omega)]
  · rw [if_neg (nI_nlt (by omega) hx), Nat.max_eq_left (by omega)]
theorem ap_part {o w2 c2 i j : Nat} {l2 : List Int32} (h : AP sa b w F L s0 k0 m0 l s kc ks) (ho : BL s o w2 l2 c2) (hne : o ≠ b) (hnd : ∀ d, s.P 0 o = some d → s.P 0 b ≠ some d) (hi : i ≤ j) (hj : j ≤ l2.length) (hl : l.length + (j - i) ≤ F) (hF' : F < 2 ^ 30) (k : ∀ s' kc' ks', AP sa b w F L s0 k0 m0 (l ++ (l2.drop i).take (j - i)) s' kc' ks' → Q s' kc' ks') : C_By_addPart sa b (some o) (nI i) (nI j) s kc ks Q := by
  have ho' := ho
  obtain ⟨b1, b2, e, b3, b4, b5, b6, b7, b8, b9⟩ := ho'
  have es : nI j - nI i = nI (j - i) := by
    rw [show nI j = nI (j - i) + nI i by rw [nI_add, Nat.sub_add_cancel hi], Int32.add_sub_cancel]
  unfold C_By_addPart
  refine ifF (nI_pos (by omega)) ?_
  rw [es]
  by_cases c0 : j - i = 0
  · refine ifF (by rw [c0]; decide) (k s kc ks ?_)
    rw [c0, List.take_zero, List.append_nil]
    exact h
  refine ifT (show (0 : Int32) < nI (j - i) from nI_lt (a := 0) (by omega) (by omega)) ⟨_, rfl, _, gd_to b1, ?_⟩
  show if s.I 1 o < nI j then _ else _
  rw [b5]
  have h' := h
  obtain ⟨cap, d, ⟨a1, a2, a3, a4, a5, a6, a7, a8, a9⟩, hF, hL, hk, h1, h2, ht, hx, hd, h0, hg⟩ := h'
  have haL : aL s d = some (nI cap) := gd_to (by rw [a4]; show 100 ≤ w ∧ w < 160; omega) |>.trans (by rw [a4])
  refine ifF (nI_nlt hj (by omega)) ⟨_, gd_to a1, _, gd_to a1, d, a3, _, haL, ?_⟩
  show if nI cap < s.I 1 b + nI (j - i) then _ else _
  rw [a5, nI_add]
  by_cases c1 : cap < l.length + (j - i)
  · have hn : 2 * cap ≤ max (2 * cap) (l.length + (j - i)) := Nat.le_max_left _ _
    have hnL : max (2 * cap) (l.length + (j - i)) ≤ L := Nat.max_le.mpr ⟨by omega, by omega⟩
    have hnr : l.length + (j - i) ≤ max (2 * cap) (l.length + (j - i)) := Nat.le_max_right _ _
    refine ifT (nI_lt c1 (by omega)) ⟨_, gd_to a1, d, a3, _, haL, _, gd_to a1, max (2 * cap) (l.length + (j - i)), ?_, by omega, by omega, by omega, w, a2, fun q hq => ?_⟩
    · show mxI (nI cap * 2) (s.I 1 b + nI (j - i)) = _
      rw [a5, nI_add, show nI cap * 2 = nI (2 * cap) by rw [show (2 : Int32) = nI 2 from rfl, nI_mul, Nat.mul_comm], mxI_n _ _ (by omega) (by omega)]
    generalize max (2 * cap) (l.length + (j - i)) = n at hn hnL hnr
    have hq0 := hq.1
    have hqd : d ≠ q := fun e => by rw [← e, a4] at hq0; exact absurd hq0 (by omega)
    have hqb : b ≠ q := fun e => a1.n0 (e ▸ hq0)
    have hqo : o ≠ q := fun e => b1.n0 (e ▸ hq0)
    have hqe : e ≠ q := fun z => by rw [← z, b4] at hq0; exact absurd hq0 (by show w2 ≠ 0; omega)
    have o1 : okO (cNw s q (w, n)) 0 b := a1.nw hq0
    have p1 : (cNw s q (w, n)).P 0 b = some d := (cNw_pn hqb).trans a3
    have i1 : (cNw s q (w, n)).I 1 b = nI l.length := (cNw_in hqb).trans a5
    have k1 : (cNw s q (w, n)).K d = (w, cap) := (cNw_kn hqd).trans a4
    have k2 : (cNw s q (w, n)).K q = (w, n) := cNw_ks
    have E1 : (cNw s q (w, n)).E d = s.E d := cNw_en hqd
    refine ⟨_, gd_to o1, _, gd_to o1, d, p1, cSa (cNw s q (w, n)) q (va_cpy (s.E d) (fun _ => 0) 0 0 l.length), ?_, ?_⟩
    · refine (gd_to ?_).trans ?_
      · show _ ∧ _ ∧ _ ∧ _ ∧ _ ∧ ¬ (cNw s q (w, n)).I 1 b < 0 ∧ _ + ((cNw s q (w, n)).I 1 b).toNatClampNeg ≤ _ ∧ _ + ((cNw s q (w, n)).I 1 b).toNatClampNeg ≤ _ ∧ ∀ i, i < ((cNw s q (w, n)).I 1 b).toNatClampNeg → _
        rw [i1, nI_clamp (show l.length < 2 ^ 31 by omega), k1, k2]
        refine ⟨⟨a2.1, a2.2.1⟩, ⟨a2.1, a2.2.1⟩, rfl, by decide, by decide, nI_pos (by omega), by show 0 + l.length ≤ cap; omega, by show 0 + l.length ≤ n; omega, fun i hi => ?_⟩
        rw [E1, show (0 : Int32).toNatClampNeg + i = i from Nat.zero_add i, (a9 i hi).1, a2.2.2]
        exact sb_fit _
      · show some (_, _, _, _, fun x => if x = q then va_cpy ((cNw s q (w, n)).E d) ((cNw s q (w, n)).E q) 0 0 ((cNw s q (w, n)).I 1 b).toNatClampNeg else _, _) = _
        rw [i1, nI_clamp (show l.length < 2 ^ 31 by omega), E1, cNw_es]
        rfl
    refine ⟨_, gd_to o1, ?_⟩
    have A := ap_grow (n := n) (q := q) (f := va_cpy (s.E d) (fun _ => 0) 0 0 l.length) ⟨a1, a2, a3, a4, a5, a6, a7, a8, a9⟩ hF hL hk h1 h2 ht hx h0 hg hq hn hnL (fun i hi => by
      show (if 0 ≤ i ∧ i < 0 + l.length then s.E d (0 + (i - 0)) else 0) = _
      rw [if_pos (by omega)]
      congr 1
      omega)
    have ho2 : BL (cSP (cSa (cNw s q (w, n)) q (va_cpy (s.E d) (fun _ => 0) 0 0 l.length)) 0 b (some q)) o w2 l2 c2 := by
      refine ⟨b1.nw hq0, b2, e, ?_, (cNw_kn hqe).trans b4, (cNw_in (t := (w, n)) hqo).trans b5, b6, b7, b8, fun i hi => ?_⟩
      · rw [cSP_a hne]; exact (cNw_pn (t := (w, n)) hqo).trans b3
      · show (cSa (cNw s q (w, n)) q _).E e i = _ ∧ _
        rw [cSa_en hqe, cNw_en hqe]; exact b9 i hi
    refine ap_b80 (cap := n) A (fun d' hd' => ?_) ho2 hne (fun d' hd' => ?_) (by omega) hnr (fun s' h' => k s' _ _ h')
    · rw [cSP_s] at hd'
      cases hd'
      show ((cNw s q (w, n)).K q).2 = n
      rw [k2]
    · rw [cSP_a hne] at hd'
      rw [cSP_s]
      intro z
      cases z
      have z : (cNw s q (w, n)).P 0 o = some q := hd'
      rw [cNw_pn hqo, b3] at z
      exact hqe (Option.some.inj z)
  · refine ifF (nI_nlt (by omega) (by omega)) ?_
    exact ap_b80 (cap := cap) h (fun d' hd' => by rw [a3] at hd'; cases hd'; rw [a4]) ho hne hnd (by omega) (by omega) (fun s' h' => k s' _ _ h')
end Pt
