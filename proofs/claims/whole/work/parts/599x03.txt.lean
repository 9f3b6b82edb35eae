/-! Texts of the class: routes. -/
/-- class and model side by side, but for the texts -/
def RQ (G H : Nat → Nat → Nat) (sa : Nat → Nat) (x : Nat) (s : cS) (t : moS) : Prop := RGl G H sa x s ∧ RIn G t ∧ (s.I 224 x = t.S 4 ∧ s.I 225 x = t.S 1 ∧ s.I 227 x = t.S 17 ∧ s.I 229 x = t.S 37 ∧ s.I 231 x = t.S 27) ∧ (∀ i, i < cL t → RLk G H sa x s t i) ∧ (∀ i, i < cS' t → RLs G H sa x s t i) ∧ (∀ r, r < cR t → RRt G H sa x s t r ∧ RTb G H s t r ∧ RSt G H s t r ∧ RFi G H s t r 0 ∧ RFi G H s t r 1 ∧ RPy G H s t r ∧ ∀ p, p < cI t r → RPo G H s t r p) ∧ RFl G H x s t
theorem RR.q {G H : Nat → Nat → Nat} {sa : Nat → Nat} {x : Nat} {s : cS} {t : moS} (h : RR G H sa x s t) : RQ G H sa x s t ∧ RTx H x s t := by
  obtain ⟨a, b, c, d, e, f, g, k⟩ := h
  exact ⟨⟨a, b, c, e, f, g, k⟩, d⟩
theorem RQ.r {G H : Nat → Nat → Nat} {sa : Nat → Nat} {x : Nat} {s : cS} {t : moS} (h : RQ G H sa x s t) (h2 : RTx H x s t) : RR G H sa x s t := by
  obtain ⟨a, b, c, e, f, g, k⟩ := h
  exact ⟨a, b, c, h2, e, f, g, k⟩
noncomputable def ifN (t : moS) (k : Nat) : List Int32 := if t.I 113 k = -1 then [45] else nmOf (t.J 18 (t.I 71 (t.I 113 k).toNatClampNeg).toNatClampNeg)
abbrev cT (k : Nat) : List Int32 := kTx.getD k []
noncomputable def rtL (t : moS) (k : Nat) : List Int32 := pfxZ (fam (t.I 106 k)) (t.J 107 k) (t.J 108 k) (t.I 109 k) ++ (32 :: decZ (t.I 111 k) ++ 32 :: (if t.I 110 k = 1 then cT 17 else (if t.I 110 k = 0 then cT 40 else cT 41 ++ 32 :: adr (fam (t.I 106 k)) (t.J 114 k) (t.J 115 k)) ++ 32 :: ifN t k))
section Ap
variable {sa : Nat → Nat} {b w F L k0 m0 : Nat} {s0 s : cS} {l : List Int32} {kc ks : Nat}
theorem AP.nb (h : AP sa b w F L s0 k0 m0 l s kc ks) {c a : Nat} (ha : okO s0 c a) (hc : c ≠ 0) : a ≠ b := fun z => by
  obtain ⟨cap, d, -, -, -, -, -, -, -, -, -, ⟨h0, -⟩, -⟩ := h
  have h1 := h0.2.2
  have h2 := ha.2.2
  rw [z, h1] at h2
  exact hc h2.symm
theorem AP.gI (h : AP sa b w F L s0 k0 m0 l s kc ks) {c k a : Nat} {f : Int32 → Prop} (ha : okO s0 c a) (hc : c ≠ 0) (kk : f (s0.I (20 * c + k) a)) : ∃ x, gI s c k a = some x ∧ f x := by
  obtain ⟨o1, o2, o3, o4, o5⟩ := h.ob ha (h.nb ha hc)
  exact ⟨_, gd_to o1, by rw [o3]; exact kk⟩
theorem AP.gP (h : AP sa b w F L s0 k0 m0 l s kc ks) {c k a : Nat} {f : Option Nat → Prop} (ha : okO s0 c a) (hc : c ≠ 0) (kk : f (s0.P (20 * c + k) a)) : ∃ x, gP s c k a = some x ∧ f x := by
  obtain ⟨o1, o2, o3, o4, o5⟩ := h.ob ha (h.nb ha hc)
  exact ⟨_, gd_to o1, by rw [o5]; exact kk⟩
theorem AP.rE (h : AP sa b w F L s0 k0 m0 l s kc ks) {a i u n : Nat} {ty : FieldType} {f : Int32 → Prop} (ha : s0.K a = (u, n)) (hu : u ≠ w) (h1 : 100 ≤ u ∧ u < 130 ∧ cAT u = ty) (hi : i < n) (hn : n < 2 ^ 31) (kk : f (s0.E a i)) : ∃ x, rE s ty a (nI i) = some x ∧ f x := by
  obtain ⟨g1, g2, g3⟩ := h.arr (a := a) (by rw [ha]; exact h1.1) (by rw [ha]; exact hu)
  refine ⟨_, gd_to ⟨by rw [g1, ha]; exact h1.1, by rw [g1, ha]; exact h1.2.1, by rw [g1, ha]; exact h1.2.2, by rw [g1, ha]; exact vp_in_nI hi hn⟩, ?_⟩
  rw [nI_clamp (by omega), g2]
  exact kk
theorem AP.rQ (h : AP sa b w F L s0 k0 m0 l s kc ks) {a i u n : Nat} {f : Option Nat → Prop} (ha : s0.K a = (u, n)) (hu : u ≠ w) (h1 : 130 ≤ u ∧ u < 146) (hi : i < n) (hn : n < 2 ^ 31) (kk : f (s0.Q a i)) : ∃ x, rQ s a (nI i) = some x ∧ f x := by
  obtain ⟨g1, g2, g3⟩ := h.arr (a := a) (by rw [ha]; show 100 ≤ u; omega) (by rw [ha]; exact hu)
  refine ⟨_, gd_to ⟨by rw [g1, ha]; exact h1.1, by rw [g1, ha]; exact h1.2, by rw [g1, ha]; exact vp_in_nI hi hn⟩, ?_⟩
  rw [nI_clamp (by omega), g3]
  exact kk
theorem cT_m : ∀ k, k < 49 → (cT k).map (· &&& 255) = cT k := by decide +kernel
theorem cT_l : ∀ k, k < 48 → (cT k).length ≤ 12 := by decide +kernel
theorem cT_e : ∀ k, k < 48 → k ≠ 3 → cT k ≠ [] ∧ ∀ c ∈ cT k, c ≠ 10 := by decide +kernel
theorem EW_cT {k : Nat} (h : k < 48) (h3 : k ≠ 3) : EW (cT k) := EW.mem (cT_e k h h3).1 (cT_e k h h3).2
theorem isTx_c (ht : TK sa s) {k : Nat} (hk : k < 49) : isTx sa s (sa k) (cT k) := Or.inr ⟨ht k hk, k, hk, rfl, rfl⟩
/-- a constant word -/
theorem ap_wc {Q : cS → Nat → Nat → Prop} (k : Nat) (hk : k < 48) (h : AP sa b w F L s0 k0 m0 l s kc ks) (ht : TK sa s0) (hw : w ≠ 118) (hl : l.length + 13 ≤ F) (hF : F < 2 ^ 31) (kk : ∀ s' kc' ks', AP sa b w F L s0 k0 m0 (wdL l (cT k)) s' kc' ks' → Q s' kc' ks') : C_By_word sa b (some (sa k)) s kc ks Q := by
  have h12 := cT_l k hk
  refine ap_word rfl h (isTx_c ht (by omega)) hw (by omega) hF (fun s' kc' ks' h' => kk s' kc' ks' ?_)
  rw [cT_m k (by omega)] at h'
  exact h'
theorem ap_wn {Q : cS → Nat → Nat → Prop} {p : Nat} {x : List Int32} {c : Int64} {o : Option Nat} (ho : o = some p) (h : AP sa b w F L s0 k0 m0 l s kc ks) (hx : isTx sa s0 p x) (hn : nmL x c) (hw : w ≠ 118) (hl : l.length + 13 ≤ F) (hF : F < 2 ^ 31) (kk : ∀ s' kc' ks', AP sa b w F L s0 k0 m0 (wdL l (nmOf c)) s' kc' ks' → Q s' kc' ks') : C_By_word sa b o s kc ks Q := by
  have h12 := hn.2.2.1
  refine ap_word ho h hx hw (by omega) hF (fun s' kc' ks' h' => kk s' kc' ks' ?_)
  rw [hn.m] at h'
  rw [nmOf_e hn]
  exact h'
end Ap
theorem nmOf_l (c : Int64) : (nmOf c).length ≤ 12 := by
  unfold nmOf
  split
  · rename_i h
    exact h.choose_spec.2.2.1
  · exact Nat.zero_le _
theorem ifN_l (t : moS) (k : Nat) : (ifN t k).length ≤ 12 := by
  unfold ifN
  split
  · exact Nat.le_of_ble_eq_true rfl
  · exact nmOf_l _
section Tx
variable {G H : Nat → Nat → Nat} {sa : Nat → Nat} {x F L k0 m0 kc ks tx : Nat} {s0 s : cS} {t : moS} {l : List Int32} {Q : cS → Nat → Nat → Prop}
theorem RQ.ox (h : RQ G H sa x s0 t) : okO s0 11 x := okr h.1.1 11
theorem RQ.ty (h : RQ G H sa x s0 t) : TY cNo H s0 := h.1.2.1
theorem RQ.tk (h : RQ G H sa x s0 t) : TK sa s0 := h.1.2.2.1
theorem RQ.link (h : RQ G H sa x s0 t) {i : Nat} (hi : i < cL t) : RLk G H sa x s0 t i := h.2.2.2.1 i hi
theorem RQ.rt (h : RQ G H sa x s0 t) {r : Nat} (hr : r < cR t) : RRt G H sa x s0 t r := (h.2.2.2.2.2.1 r hr).1
theorem RQ.tb (h : RQ G H sa x s0 t) {r : Nat} (hr : r < cR t) : RTb G H s0 t r := (h.2.2.2.2.2.1 r hr).2.1
theorem RQ.st (h : RQ G H sa x s0 t) {r : Nat} (hr : r < cR t) : RSt G H s0 t r := (h.2.2.2.2.2.1 r hr).2.2.1
theorem RQ.po (h : RQ G H sa x s0 t) {r p : Nat} (hr : r < cR t) (hp : p < cI t r) : RPo G H s0 t r p := (h.2.2.2.2.2.1 r hr).2.2.2.2.2.2 p hp
theorem RQ.row (h : RQ G H sa x s0 t) {r j : Nat} (hr : r < cR t) (hj : j < cN t r) : (s0.K (G 4 (2700 * r + j))).1 = 23 ∧ RW G H s0 t (G 4 (2700 * r + j)) (2700 * r + j) := by
  obtain ⟨⟨-, hn, -, w, cap, -, -, -, -, -, b6, -, -⟩, h2, -⟩ := h.tb hr
  exact ⟨(b6 j (by omega)).2, h2 j hj⟩
theorem MV.r (h : MV t) {r : Nat} (hr : r < cR t) : mVr t r := h.2.2.2.1 r hr
theorem mVr.i {r p : Nat} (h : mVr t r) (hp : p < cI t r) : mVi t (4 * r + p) := h.2.2.2.2.2.2.2.2.2.2.1 p hp
theorem mVr.w {r j : Nat} (h : mVr t r) (hj : j < cN t r) : mRw t r (2700 * r + j) := h.2.2.2.2.2.2.2.2.2.2.2.2.2.1 j hj
/-- the interface of a route: its name -/
theorem ap_if {r j : Nat} (hq : RQ G H sa x s0 t) (hM : MV t) (hr : r < cR t) (hj : j < cN t r) (htx : s0.P 221 x = some tx) (h : AP sa tx 124 F L s0 k0 m0 l s kc ks) (hnl : ¬ NL l) (hl : l.length + 13 ≤ F) (hF : F < 2 ^ 31) (k : ∀ s' kc' ks', AP sa tx 124 F L s0 k0 m0 (l ++ 32 :: ifN t (2700 * r + j)) s' kc' ks' → Q s' kc' ks') : C_Rf_writeRoute_b102 sa x (some (G 4 (2700 * r + j))) s kc ks Q := by
  obtain ⟨ha, hw⟩ := hq.row hr hj
  have hp := hw.2.2.1
  unfold C_Rf_writeRoute_b102
  refine h.gP hq.ox (by decide) ⟨_, rfl, h.gP (okr ha 8) (by decide) ?_⟩
  show if s0.P 166 _ = none then _ else _
  unfold ifN at k
  unfold ifp at hp
  by_cases c : t.I 113 (2700 * r + j) = -1
  · rw [if_pos c] at k hp
    refine ifT hp ⟨tx, htx, h.o, ap_wc 42 (by decide) h hq.tk (by decide) hl hF (fun s' kc' ks' h' => k s' kc' ks' ?_)⟩
    rw [wdL_n hnl] at h'
    exact h'
  · rw [if_neg c] at k hp
    obtain ⟨q, hq1, hq2, hq3⟩ := (((hM.r hr).w hj).2.2.2.2.2.1).resolve_left c
    obtain ⟨p, rfl⟩ : ∃ p, q = 4 * r + p := ⟨q - 4 * r, by omega⟩
    have hp4 : p < cI t r := by omega
    have h4 : cI t r ≤ 4 := (hM.r hr).2.2.2.2.2.2.2.2.2.1.n.2.2
    have hr6 : cR t ≤ 6 := hM.1.2.2.2.2.2.2.2.n.2.2
    have hcl : (t.I 113 (2700 * r + j)).toNatClampNeg = 4 * r + p := by rw [hq1, nI_clamp (by omega)]
    rw [hcl] at hp k
    obtain ⟨⟨p1, p2, p3⟩, -⟩ := hq.po hr hp4
    have hvi := (hM.r hr).i hp4
    obtain ⟨⟨l1, l2⟩, ⟨nm, n1, n2, n3⟩, -⟩ := hq.link hvi.2.1
    have h80 := (hq.ty.p p1 80 7).1
    refine ifF (by rw [hp]; exact fun z => by cases z) ?_
    refine h.gP (okr ha 8) (by decide) ⟨_, hp, h.gP (okr p1 4) (by decide) ⟨_, h80, ?_⟩⟩
    rw [p3]
    refine h.gP (okr l1 3) (by decide) ⟨tx, htx, h.o, ap_wn n1 h n2 n3 (by decide) hl hF (fun s' kc' ks' h' => k s' kc' ks' ?_)⟩
    rw [wdL_n hnl] at h'
    exact h'
theorem ap_route {r j : Nat} (hq : RQ G H sa x s0 t) (hM : MV t) (hr : r < cR t) (hj : j < cN t r) (htx : s0.P 221 x = some tx) (h : AP sa tx 124 F L s0 k0 m0 l s kc ks) (hnl : NL l) (hl : l.length + 160 ≤ F) (hF : F < 2 ^ 31) (k : ∀ s' kc' ks', AP sa tx 124 F L s0 k0 m0 (l ++ rtL t (2700 * r + j)) s' kc' ks' → Q s' kc' ks') : C_Rf_writeRoute sa x (some (G 4 (2700 * r + j))) s kc ks Q := by
  obtain ⟨ha, hw⟩ := hq.row hr hj
  obtain ⟨w1, w2, w3, w4, -⟩ := hw
  have hp := hq.ty.p ha 160 9
  have hg := hq.ty.p ha 161 10
  have b1 := pfxZ_len (fam (t.I 106 (2700 * r + j))) (t.J 107 (2700 * r + j)) (t.J 108 (2700 * r + j)) (t.I 109 (2700 * r + j))
  have b2 := decZ_len (t.I 111 (2700 * r + j))
  have b3 := adr_len (fam (t.I 106 (2700 * r + j))) (t.J 114 (2700 * r + j)) (t.J 115 (2700 * r + j))
  unfold C_Rf_writeRoute
  refine h.gP hq.ox (by decide) ⟨tx, htx, h.o, ap_wc 3 (by decide) h hq.tk (by decide) (by omega) hF (fun s1 kc1 ks1 h1 => ?_)⟩
  rw [wdL_y hnl, show l ++ cT 3 = l from List.append_nil l] at h1
  refine h1.gP hq.ox (by decide) ⟨_, rfl, h1.gP (okr ha 8) (by decide) ⟨tx, htx, h1.o, ap_pfx hp.1 (okr hp.2 5) hq.tk (by decide) hF h1 (by omega) (fun s2 kc2 ks2 h2 => ?_)⟩⟩
  rw [w1.1, w1.2.1, w1.2.2.1, w1.2.2.2] at h2
  refine h2.gP hq.ox (by decide) (h2.gI (okr ha 8) (by decide) ⟨tx, htx, h2.o, ap_wnum _ h2 hq.tk (by decide) (by rw [List.length_append]; omega) hF (fun s3 kc3 ks3 h3 => ?_)⟩)
  rw [wdL_n ((EW.pfx _ _ _ _).nl), show s0.I (20 * 8 + 4) (G 4 (2700 * r + j)) = _ from w2.2.1] at h3
  have e3 : ∀ X : List Int32, EW X → ¬ NL (l ++ pfxZ (fam (t.I 106 (2700 * r + j))) (t.J 107 (2700 * r + j)) (t.J 108 (2700 * r + j)) (t.I 109 (2700 * r + j)) ++ 32 :: X) := fun X hX => EW.w hX
  have hlen : (l ++ pfxZ (fam (t.I 106 (2700 * r + j))) (t.J 107 (2700 * r + j)) (t.J 108 (2700 * r + j)) (t.I 109 (2700 * r + j)) ++ 32 :: decZ (t.I 111 (2700 * r + j))).length ≤ l.length + 65 := by
    rw [List.length_append, List.length_append, List.length_cons]; omega
  have hk1 : s0.I (20 * 8 + 3) (G 4 (2700 * r + j)) = t.I 110 (2700 * r + j) := w2.1
  unfold rtL at k
  refine h3.gI (okr ha 8) (by decide) ?_
  show if s0.I (20 * 8 + 3) _ = 1 then _ else _
  rw [hk1]
  by_cases c1 : t.I 110 (2700 * r + j) = 1
  · rw [if_pos c1] at k
    refine ifT c1 (h3.gP hq.ox (by decide) ⟨tx, htx, h3.o, ap_wc 17 (by decide) h3 hq.tk (by decide) (by omega) hF (fun s4 kc4 ks4 h4 => k s4 kc4 ks4 ?_)⟩)
    rw [wdL_n (e3 _ (EW.dec _))] at h4
    simp only [List.append_assoc, List.cons_append] at h4 ⊢
    exact h4
  · rw [if_neg c1] at k
    refine ifF c1 (h3.gI (okr ha 8) (by decide) ?_)
    show if s0.I (20 * 8 + 3) _ = 0 then _ else _
    rw [hk1]
    by_cases c2 : t.I 110 (2700 * r + j) = 0
    · rw [if_pos c2] at k
      refine ifT c2 (h3.gP hq.ox (by decide) ⟨tx, htx, h3.o, ap_wc 40 (by decide) h3 hq.tk (by decide) (by omega) hF (fun s4 kc4 ks4 h4 => ?_)⟩)
      rw [wdL_n (e3 _ (EW.dec _))] at h4
      refine ap_if hq hM hr hj htx h4 (EW.w (EW_cT (by decide) (by decide))) (by rw [List.length_append]; show _ + (6 + 1) + 13 ≤ F; omega) hF (fun s5 kc5 ks5 h5 => k s5 kc5 ks5 ?_)
      simp only [List.append_assoc, List.cons_append] at h5 ⊢
      exact h5
    · rw [if_neg c2] at k
      refine ifF c2 (h3.gP hq.ox (by decide) ⟨tx, htx, h3.o, ap_wc 41 (by decide) h3 hq.tk (by decide) (by omega) hF (fun s4 kc4 ks4 h4 => ?_)⟩)
      rw [wdL_n (e3 _ (EW.dec _))] at h4
      refine h4.gP hq.ox (by decide) ⟨tx, htx, h4.o, ap_wc 3 (by decide) h4 hq.tk (by decide) (by rw [List.length_append]; show _ + (3 + 1) + 13 ≤ F; omega) hF (fun s5 kc5 ks5 h5 => ?_)⟩
      rw [wdL_n (EW.w (EW_cT (by decide) (by decide)))] at h5
      refine h5.gP hq.ox (by decide) (h5.gP (okr ha 8) (by decide) ⟨tx, htx, h5.o, ap_addr hg.1 (okr hg.2 5) hq.tk (by decide) hF h5 (by rw [List.length_append, List.length_append]; show _ + (3 + 1) + (0 + 1) + 44 ≤ F; omega) (fun s6 kc6 ks6 h6 => ?_)⟩)
      rw [w4.1, w4.2.1, w4.2.2] at h6
      refine ap_if hq hM hr hj htx h6 (EW_adr _ _ _).nl (by rw [List.length_append, List.length_append, List.length_append]; show _ + (3 + 1) + (0 + 1) + _ + 13 ≤ F; omega) hF (fun s7 kc7 ks7 h7 => k s7 kc7 ks7 ?_)
      have e0 : cT 3 = [] := rfl
      simp only [List.append_assoc, List.cons_append, e0, List.nil_append] at h7 ⊢
      exact h7
end Tx
