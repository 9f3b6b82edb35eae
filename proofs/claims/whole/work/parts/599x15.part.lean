/-! A piece of a row of bytes behind another. -/
theorem sb_fit (x : Int32) : fits .byte (.int (sb x)) = true := by
  show (decide (-128 ≤ sb x) && decide (sb x ≤ 127)) = true
  have h1 := Int8.le_toInt x.toInt8
  have h2 := Int8.toInt_lt x.toInt8
  have e : (sb x).toInt = x.toInt8.toInt := Int8.toInt_toInt32 _
  rw [Bool.and_eq_true, decide_eq_true_iff, decide_eq_true_iff, Int32.le_iff_toInt_le, Int32.le_iff_toInt_le, e]
  exact ⟨by show (-128 : Int) ≤ _; omega, by show _ ≤ (127 : Int); omega⟩
section Pt
variable {sa : Nat → Nat} {b w F L k0 m0 : Nat} {s0 s : cS} {l : List Int32} {kc ks : Nat} {Q : cS → Nat → Nat → Prop}
/-- the row in a larger array -/
theorem ap_grow {cap d n q : Nat} {f : Nat → Int32} (hR : okO s 0 b ∧ (100 ≤ w ∧ w < 130 ∧ cAT w = .byte) ∧ s.P 0 b = some d ∧ s.K d = (w, cap) ∧ s.I 1 b = nI l.length ∧ l.length ≤ cap ∧ 16 ≤ cap ∧ cap ≤ L ∧ ∀ i, i < l.length → s.E d i = sb (l.getD i 0) ∧ l.getD i 0 &&& 255 = l.getD i 0) (hF : F ≤ cap ∨ 2 * F ≤ L) (hL : L ≤ 262144) (hk : (L ≤ k0 ∧ 2 * L ≤ m0) ∧ capOf s0 b ≤ cap) (h1 : k0 ≤ 16 * kc + cap) (h2 : m0 ≤ ks + 2 * cap) (ht : TK sa s) (hx : fx (fun a => a = b ∨ s0.P 0 b = some a) s0 s) (h0 : okO s0 0 b ∧ ∃ d0, s0.P 0 b = some d0 ∧ (s0.K d0).1 = w) (hg : (∀ a, (s0.K a).1 ≠ 0 → s.Q a = s0.Q a ∧ ∀ g, ¬ (g = 0 ∧ a = b) → s.P g a = s0.P g a) ∧ ∀ a, (s0.K a).1 = 0 → (s.K a).1 = 0 ∨ (s.K a).1 = w) (hq : cFr sa s q) (hn : 2 * cap ≤ n) (hnL : n ≤ L) (hf : ∀ i, i < l.length → f i = s.E d i) : AP sa b w F L s0 k0 m0 l (cSP (cSa (cNw s q (w, n)) q f) 0 b (some q)) (kc - 1) (ks - n) := by
  obtain ⟨a1, a2, a3, a4, a5, a6, a7, a8, a9⟩ := hR
  have hq0 := hq.1
  have hqd : d ≠ q := fun e => by rw [← e, a4] at hq0; exact absurd hq0 (by omega)
  have hqb : b ≠ q := fun e => a1.n0 (e ▸ hq0)
  have o1 : okO (cSa (cNw s q (w, n)) q f) 0 b := a1.nw hq0
  refine ⟨n, q, ⟨o1.sp, a2, cSP_s, cNw_ks, ?_, by omega, by omega, hnL, ?_⟩, by omega, hL, ⟨hk.1, by omega⟩, by omega, by omega, ?_, ?_, ?_, h0, ⟨fun a ha => ?_, fun a ha => ?_⟩⟩
  · show (cNw s q (w, n)).I 1 b = _
    rw [cNw_in hqb, a5]
  · intro i hi
    show (cSa (cNw s q (w, n)) q f).E q i = _ ∧ _
    rw [cSa_es, hf i hi]
    exact a9 i hi
  · exact ht.nw hq
  · have f1 : fx (fun a => a = b ∨ s0.P 0 b = some a) s (cNw s q (w, n)) := fx.nw hq0
    have f2 : fx (fun a => a = q) (cNw s q (w, n)) (cSa (cNw s q (w, n)) q f) := fx.sa rfl
    have f3 : fx (fun a => a = b) (cSa (cNw s q (w, n)) q f) (cSP (cSa (cNw s q (w, n)) q f) 0 b (some q)) := fx.sp rfl
    refine ((hx.tr f1).or f2 ?_).or f3 (fun a _ e => Or.inl e)
    intro a ha e
    subst e
    have := (hx a ha).1
    rw [this] at hq0
    exact absurd hq0 ha
  · refine Or.inr (Classical.byContradiction fun z => ?_)
    have := (hx q z).1
    rw [this] at hq0
    exact z hq0
  · have haq : a ≠ q := fun e => ha (by rw [← (hx a ha).1, e]; exact hq0)
    obtain ⟨q1, q2⟩ := hg.1 a ha
    refine ⟨(cNw_qn (t := (w, n)) haq).trans q1, fun g hgn => ?_⟩
    by_cases hg0 : g = 0
    · subst hg0
      rw [cSP_a (fun e => hgn ⟨rfl, e⟩)]
      exact (cNw_pn (t := (w, n)) haq).trans (q2 0 hgn)
    · rw [cSP_g hg0]
      exact (cNw_pn (t := (w, n)) haq).trans (q2 g hgn)
  · by_cases haq : a = q
    · rw [haq]; exact Or.inr (by show (if q = q then (w, n) else s.K q).1 = w; rw [if_pos rfl])
    · show ((cNw s q (w, n)).K a).1 = 0 ∨ ((cNw s q (w, n)).K a).1 = w
      rw [cNw_kn haq]; exact hg.2 a ha
/-- the piece from i on, n long, where there is room -/
theorem ap_b80 {o w2 c2 i n cap : Nat} {l2 : List Int32} (h : AP sa b w F L s0 k0 m0 l s kc ks) (hcap : ∀ d, s.P 0 b = some d → (s.K d).2 = cap) (ho : BL s o w2 l2 c2) (hne : o ≠ b) (hnd : ∀ d, s.P 0 o = some d → s.P 0 b ≠ some d) (hi : i + n ≤ l2.length) (hr : l.length + n ≤ cap) (k : ∀ s', AP sa b w F L s0 k0 m0 (l ++ (l2.drop i).take n) s' kc ks → Q s' kc ks) : C_By_addPart_b80 sa b (some o) (nI i) (nI n) s kc ks Q := by
  obtain ⟨cap', d, ⟨a1, a2, a3, a4, a5, a6, a7, a8, a9⟩, hF, hL, hk, h1, h2, ht, hx, hd, h0, hg⟩ := h
  have := hcap d a3
  rw [a4] at this
  have this : cap' = cap := this
  subst this
  obtain ⟨b1, b2, e, b3, b4, b5, b6, b7, b8, b9⟩ := ho
  have hed : e ≠ d := fun z => hnd e b3 (by rw [z]; exact a3)
  have hdb : d ≠ b := fun e => by
    subst e
    have := a1.2.1
    rw [a4] at this
    omega
  have len : ((l2.drop i).take n).length = n := by rw [List.length_take, List.length_drop]; omega
  unfold C_By_addPart_b80
  refine ⟨_, rfl, _, gd_to b1, _, gd_to a1, _, gd_to a1, e, b3, d, a3, cSa s d (va_cpy (s.E e) (s.E d) i l.length n), ?_, ?_⟩
  · have g : _ := gd_to (α := cS) (x := (s.1, s.2.1, s.2.2.1, s.2.2.2.1, fun x => if x = d then va_cpy (s.E e) (s.E d) (nI i).toNatClampNeg (s.I 1 b).toNatClampNeg (nI n).toNatClampNeg else s.E x, s.2.2.2.2.2)) (P := (100 ≤ (s.K e).1 ∧ (s.K e).1 < 130) ∧ (100 ≤ (s.K d).1 ∧ (s.K d).1 < 130) ∧ cAT (s.K d).1 = cAT (s.K e).1 ∧ ¬ nI i < 0 ∧ ¬ s.I 1 b < 0 ∧ ¬ nI n < 0 ∧ (nI i).toNatClampNeg + (nI n).toNatClampNeg ≤ (s.K e).2 ∧ (s.I 1 b).toNatClampNeg + (nI n).toNatClampNeg ≤ (s.K d).2 ∧ ∀ j, j < (nI n).toNatClampNeg → fits (cAT (s.K e).1) (.int (s.E e ((nI i).toNatClampNeg + j))) = true) ?_
    · refine g.trans ?_
      rw [a5, nI_clamp (show i < 2 ^ 31 by omega), nI_clamp (show l.length < 2 ^ 31 by omega), nI_clamp (show n < 2 ^ 31 by omega)]
      rfl
    · rw [a4, b4, a5, nI_clamp (show i < 2 ^ 31 by omega), nI_clamp (show l.length < 2 ^ 31 by omega), nI_clamp (show n < 2 ^ 31 by omega)]
      refine ⟨⟨b2.1, b2.2.1⟩, ⟨a2.1, a2.2.1⟩, a2.2.2.trans b2.2.2.symm, nI_pos (by omega), nI_pos (by omega), nI_pos (by omega), by show i + n ≤ c2; omega, hr, fun j hj => ?_⟩
      show fits (cAT w2) _ = true
      rw [b2.2.2, (b9 (i + j) (by omega)).1]
      exact sb_fit _
  · refine ⟨_, gd_to a1, _, gd_to a1, ?_⟩
    apply k
    show AP sa b w F L s0 k0 m0 _ (cSI (cSa s d _) 1 b (s.I 1 b + nI n)) kc ks
    rw [a5, nI_add]
    refine ⟨cap', d, ⟨a1, a2, a3, a4, ?_, ?_, a7, a8, ?_⟩, hF, hL, hk, h1, h2, ht, ?_, hd, h0, hg⟩
    · rw [List.length_append, len]; exact cSI_s
    · rw [List.length_append, len]; exact hr
    · intro j hj
      rw [List.length_append, len] at hj
      show (cSa s d _).E d j = _ ∧ _
      rw [cSa_es]
      show (if l.length ≤ j ∧ j < l.length + n then s.E e (i + (j - l.length)) else s.E d j) = _ ∧ _
      by_cases c : j < l.length
      · rw [if_neg (by omega), gd_l c]; exact a9 j c
      · have hg2 : (l ++ (l2.drop i).take n).getD j 0 = l2.getD (i + (j - l.length)) 0 := by
          rw [gd_r (by omega)]
          rw [List.getD_eq_getElem?_getD, List.getD_eq_getElem?_getD, List.getElem?_take, if_pos (by omega), List.getElem?_drop]
        rw [if_pos (by omega), hg2]
        exact b9 _ (by omega)
    · have f1 : fx (fun a => a = d) s (cSa s d (va_cpy (s.E e) (s.E d) i l.length n)) := fx.sa rfl
      have f2 : fx (fun a => a = b) (cSa s d (va_cpy (s.E e) (s.E d) i l.length n)) (cSI (cSa s d (va_cpy (s.E e) (s.E d) i l.length n)) 1 b (nI (l.length + n))) := fx.si rfl
      refine (hx.or f1 ?_).or f2 (fun a _ e => Or.inl e)
      intro a ha e
      subst e
      rcases hd with hd | hd
      · exact Or.inr hd
      · exact absurd hd ha
end Pt
