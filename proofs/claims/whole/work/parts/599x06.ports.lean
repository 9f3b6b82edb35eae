/-! Texts: interfaces, both sides. -/
section Tx
variable {G H : Nat → Nat → Nat} {sa : Nat → Nat} {x F L k0 m0 kc ks tx : Nat} {s0 s : cS} {t : moS} {l : List Int32} {Q : cS → Nat → Nat → Prop}
theorem w_split {c : Int32} {m : Int64} {Q : Option Nat → cS → Nat → Nat → Prop} (h : spl c m) (k : ∀ n, n < 48 → spL m = cT n → Q (some (sa n)) s kc ks) : C_Rf_splitWord sa c s kc ks Q := by
  unfold C_Rf_splitWord
  rcases h with ⟨rfl, rfl⟩ | ⟨rfl, rfl⟩ | ⟨rfl, rfl⟩
  · exact ifT rfl (k 12 (by decide) rfl)
  · exact ifF (by decide) (ifT rfl (k 13 (by decide) rfl))
  · exact ifF (by decide) (ifF (by decide) (k 14 (by decide) rfl))
/-- an interface's address, while a text is written -/
theorem ap_ad {q f : Nat} (hf : f < 2) (hq : RQ G H sa x s0 t) (hp : (s0.K (G 2 q)).1 = 8) (ha : RAd G s0 t q f) (h : AP sa tx 124 F L s0 k0 m0 l s kc ks) {Q : Option Nat → cS → Nat → Nat → Prop} (k0' : t.I 75 (2 * q + f) = 0 → Q none s kc ks) (k1 : ∀ p, t.I 75 (2 * q + f) = 1 → (s0.K p).1 = 14 → PF s0 p (fam (nI f)) (t.J 76 (2 * q + f)) (t.J 77 (2 * q + f)) (t.I 78 (2 * q + f)) → Q (some p) s kc ks) : C_Po_addressOf sa (G 2 q) (nI (4 + 2 * f)) s kc ks Q := by
  unfold C_Po_addressOf
  have fin : ∀ v, v = s0.P (81 + f) (G 2 q) → Q v s kc ks := by
    intro v e
    rcases ha with ⟨h1, h2⟩ | ⟨h1, p, h2, h3, h4⟩
    · rw [e, h2]; exact k0' h1
    · rw [e, h2]; exact k1 p h1 h3 h4
  rcases (show f = 0 ∨ f = 1 by omega) with rfl | rfl
  · exact ifT rfl (h.gP (okr hp 4) (by decide) (fin _ rfl))
  · exact ifF (by decide) (h.gP (okr hp 4) (by decide) (fin _ rfl))
theorem ap_ports {r : Nat} (hq : RQ G H sa x s0 t) (hM : MV t) (hr : r < cR t) (htx : s0.P 221 x = some tx) (h : AP sa tx 124 F L s0 k0 m0 [] s kc ks) (hl : 1200 ≤ F) (hF : F < 2 ^ 31) (k : ∀ s' kc' ks', AP sa tx 124 F L s0 k0 m0 (lnS (fun p => itL t (4 * r + p)) (cI t r)) s' kc' ks' → Q s' kc' ks') : C_Rf_writePorts sa x (some (G 1 r)) s kc ks Q := by
  have h4 := hM.nIf hr
  obtain ⟨⟨a1, -, -⟩, -, ⟨-, -, a3, -⟩, -⟩ := hq.rt hr
  have hi : t.I 70 r = nI (cI t r) := (hM.r hr).2.2.2.2.2.2.2.2.2.1.n.1
  have hp4 := hq.ty.r a1 184 139 4
  unfold C_Rf_writePorts C_Rf_writePorts_b2
  intro P hP
  have key : ∀ n j (s : cS) (kc ks : Nat), j + n = cI t r → AP sa tx 124 F L s0 k0 m0 (lnS (fun p => itL t (4 * r + p)) j) s kc ks → P (nI j) s kc ks := by
    intro n
    induction n with
    | zero =>
      intro j s kc ks hj h
      apply hP
      unfold C_Rf_writePorts_s2
      refine ⟨_, rfl, h.gI (okr a1 9) (by decide) ?_⟩
      rw [show s0.I (20 * 9 + 5) (G 1 r) = nI (cI t r) from a3.trans hi]
      refine ifF (nI_nlt (by omega) (by omega)) (k s kc ks ?_)
      rw [show cI t r = j by omega]
      exact h
    | succ n ih =>
      intro j s kc ks hj h
      have hjn : j < cI t r := by omega
      have hlen := lnS_len (f := fun p => itL t (4 * r + p)) (B := 200) j (fun i _ => itL_len _ _)
      obtain ⟨⟨p1, p2, p3⟩, pa0, pa1, ⟨c1, c2, c3, -⟩, -, -, ⟨g1, g2, -⟩, -⟩ := hq.po hr hjn
      have hvi := (hM.r hr).i hjn
      obtain ⟨⟨l1, l2⟩, ⟨nm, n1, n2, n3⟩, ⟨-, -, -, lu, -⟩, -⟩ := hq.link hvi.2.1
      have h80 := (hq.ty.p p1 80 7).1
      have h86 := hq.ty.p p1 86 4
      have e0 : lnS (fun p => itL t (4 * r + p)) j ++ itL t (4 * r + j) = lnS (fun p => itL t (4 * r + p)) j ++ itL t (4 * r + j) := rfl
      have hil := itL_len t (4 * r + j)
      -- the addresses and the line's end
      have b123 : ∀ Y (s : cS) (kc ks : Nat), ¬ NL Y → Y.length + 120 ≤ F → Y ++ (adL t (4 * r + j) 0 ++ adL t (4 * r + j) 1) = lnS (fun p => itL t (4 * r + p)) j ++ itL t (4 * r + j) → AP sa tx 124 F L s0 k0 m0 Y s kc ks → C_Rf_writePorts_b123 sa x (some (G 1 r)) (nI j) (some (G 2 (4 * r + j))) s kc ks Q P := by
        intro Y s1 kc1 ks1 hY hYl eY h1
        unfold C_Rf_writePorts_b123 C_Rf_writePorts_b126
        intro P2 hP2
        have last : ∀ Z (s : cS) (kc ks : Nat), Z = lnS (fun p => itL t (4 * r + p)) j ++ itL t (4 * r + j) → AP sa tx 124 F L s0 k0 m0 Z s kc ks → P2 (nI 8) s kc ks := by
          intro Z s2 kc2 ks2 eZ h2
          apply hP2
          unfold C_Rf_writePorts_s126
          refine ifT (by decide) (h2.gP hq.ox (by decide) ⟨tx, htx, h2.o, ap_endLine h2 (by rw [eZ, List.length_append]; omega) (fun s3 kc3 ks3 h3 => ?_)⟩)
          rw [nI_1]
          refine ih (j + 1) s3 kc3 ks3 (by omega) ?_
          rw [eZ, List.append_assoc] at h3
          exact h3
        have one : ∀ f Z (s : cS) (kc ks : Nat), f < 2 → RAd G s0 t (4 * r + j) f → ¬ NL Z → Z.length + 60 ≤ F → (∀ (s : cS) (kc ks : Nat), AP sa tx 124 F L s0 k0 m0 (Z ++ adL t (4 * r + j) f) s kc ks → P2 (nI (4 + 2 * f) + 2) s kc ks) → AP sa tx 124 F L s0 k0 m0 Z s kc ks → P2 (nI (4 + 2 * f)) s kc ks := by
          intro f Z s2 kc2 ks2 hf had hZ hZl kz h2
          apply hP2
          unfold C_Rf_writePorts_s126
          refine ifF (show ¬ nI 6 < nI (4 + 2 * f) from nI_nlt (by omega) (by decide)) ⟨_, rfl, (h2.ob (okr p1 4) (h2.nb (okr p1 4) (by decide))).1, ap_ad hf hq p1 had h2 (fun c => ?_) (fun p c cp cf => ?_)⟩
          · refine ifT rfl ?_
            unfold C_Rf_writePorts_b165
            refine kz s2 kc2 ks2 ?_
            unfold adL
            rw [if_pos c, List.append_nil]
            exact h2
          · refine ifF (by simp) (h2.gP hq.ox (by decide) ⟨tx, htx, h2.o, ap_wc 3 (by decide) h2 hq.tk (by decide) (by omega) hF (fun s3 kc3 ks3 h3 => ?_)⟩)
            rw [wdL_n hZ] at h3
            refine h3.gP hq.ox (by decide) ⟨tx, htx, h3.o, ap_pfx rfl (okr cp 5) hq.tk (by decide) hF h3 (by rw [List.length_append]; show Z.length + (0 + 1) + 55 ≤ F; omega) (fun s4 kc4 ks4 h4 => ?_)⟩
            unfold C_Rf_writePorts_b165
            refine kz s4 kc4 ks4 ?_
            rw [cf.1, cf.2.1, cf.2.2.1, cf.2.2.2, List.append_assoc] at h4
            unfold adL
            rw [if_neg (by rw [c]; decide)]
            exact h4
        have ha0 := adL_len t (4 * r + j) 0
        refine one 0 Y s1 kc1 ks1 (by decide) pa0 hY (by omega) (fun s2 kc2 ks2 h2 => ?_) h1
        have hY2 : ¬ NL (Y ++ adL t (4 * r + j) 0) := by
          unfold adL
          by_cases c : t.I 75 (2 * (4 * r + j) + 0) = 0
          · rw [if_pos c, List.append_nil]; exact hY
          · rw [if_neg c]; exact EW.w (EW.pfx _ _ _ _)
        refine one 1 _ s2 kc2 ks2 (by decide) pa1 hY2 (by rw [List.length_append]; omega) (fun s3 kc3 ks3 h3 => last _ s3 kc3 ks3 ?_ h3) h2
        rw [← eY, List.append_assoc]
      apply hP
      unfold C_Rf_writePorts_s2
      refine ⟨_, rfl, h.gI (okr a1 9) (by decide) ?_⟩
      rw [show s0.I (20 * 9 + 5) (G 1 r) = nI (cI t r) from a3.trans hi]
      refine ifT (nI_lt (by omega) (by omega)) (h.gP (okr a1 9) (by decide) ⟨_, hp4.1, h.rQ hp4.2 (by decide) (by decide) (by omega) (by decide) (h.gP hq.ox (by decide) ⟨_, p2, h.gP (okr p1 4) (by decide) ⟨_, h80, ?_⟩⟩)⟩)
      rw [p3]
      refine h.gP (okr l1 3) (by decide) ⟨tx, htx, h.o, ap_wn n1 h n2 n3 (by decide) (by omega) hF (fun s1 kc1 ks1 h1 => ?_)⟩
      rw [wdL_y (NL_ln _ j)] at h1
      have en := nmOf_e n3
      have hw1 : ¬ NL (lnS (fun p => itL t (4 * r + p)) j ++ nmOf (t.J 18 (t.I 71 (4 * r + j)).toNatClampNeg)) := by rw [en]; exact (EW.nm n3).nl
      have hn12 := nmOf_l (t.J 18 (t.I 71 (4 * r + j)).toNatClampNeg)
      refine h1.gP hq.ox (by decide) (h1.gP (okr p1 4) (by decide) ⟨_, h80, ?_⟩)
      rw [p3]
      refine h1.gI (okr l1 3) (by decide) ?_
      rw [show s0.I (20 * 3 + 4) (G 0 (t.I 71 (4 * r + j)).toNatClampNeg) = _ from lu]
      have b54 : ∀ u, u < 48 → u ≠ 3 → (if t.I 22 (t.I 71 (4 * r + j)).toNatClampNeg = 0 then cT 44 else cT 43) = cT u → C_Rf_writePorts_b54 sa x (some (G 1 r)) (nI j) (some (G 2 (4 * r + j))) (s0.P (20 * 11 + 1) x) (some (sa u)) s1 kc1 ks1 Q P := by
        intro u hu hu3 eu
        have hul := cT_l u hu
        unfold C_Rf_writePorts_b54
        refine ⟨tx, htx, h1.o, ap_wc u hu h1 hq.tk (by decide) (by rw [List.length_append]; omega) hF (fun s2 kc2 ks2 h2 => ?_)⟩
        rw [wdL_n hw1] at h2
        refine h2.gP hq.ox (by decide) ⟨tx, htx, h2.o, ap_wc 6 (by decide) h2 hq.tk (by decide) (by simp only [List.length_append, List.length_cons]; omega) hF (fun s3 kc3 ks3 h3 => ?_)⟩
        rw [wdL_n (EW.w (EW_cT hu hu3))] at h3
        have c6 : (cT 6).length = 4 := rfl
        refine h3.gP hq.ox (by decide) ⟨_, rfl, h3.gI (okr p1 4) (by decide) ⟨tx, htx, h3.o, ap_wnum _ h3 hq.tk (by decide) (by simp only [List.length_append, List.length_cons]; omega) hF (fun s4 kc4 ks4 h4 => ?_)⟩⟩
        rw [wdL_n (EW.w (EW_cT (by decide) (by decide))), show s0.I (20 * 4 + 3) (G 2 (4 * r + j)) = _ from c1] at h4
        have d1 := decZ_len (t.I 72 (4 * r + j))
        refine h4.gP hq.ox (by decide) (h4.gI (okr p1 4) (by decide) (w_split c2 (fun v hv ev => ⟨tx, htx, h4.o, ap_wc v hv h4 hq.tk (by decide) (by simp only [List.length_append, List.length_cons]; omega) hF (fun s5 kc5 ks5 h5 => ?_)⟩)))
        rw [wdL_n (EW.w (EW.dec _)), ← ev] at h5
        have d2 := spL_k (t.J 73 (4 * r + j))
        refine h5.gP hq.ox (by decide) (h5.gP (okr p1 4) (by decide) ⟨_, h86.1, (h5.ob (okr h86.2 1) (h5.nb (okr h86.2 1) (by decide))).1, ?_⟩)
        have kd : ∀ v, v < 48 → v ≠ 3 → (if t.I 79 (4 * r + j) = 0 then cT 46 else if t.I 79 (4 * r + j) = 1 then cT 8 else cT 45) = cT v → ob (s0.P (20 * 11 + 1) x) fun b20 => okO s5 0 b20 ∧ C_By_word sa b20 (some (sa v)) s5 kc5 ks5 fun sr21 cr21 dr21 => ob (gI sr21 4 5 (G 2 (4 * r + j))) fun v22 => if v22 = 0 then C_Rf_writePorts_b123 sa x (some (G 1 r)) (nI j) (some (G 2 (4 * r + j))) sr21 cr21 dr21 Q P else ob (gP sr21 11 1 x) fun v23 => ob v23 fun b24 => okO sr21 0 b24 ∧ C_By_word sa b24 (some (sa 11)) sr21 cr21 dr21 fun sr25 cr25 dr25 => C_Rf_writePorts_b123 sa x (some (G 1 r)) (nI j) (some (G 2 (4 * r + j))) sr25 cr25 dr25 Q P := by
          intro v hv hv3 ev
          have hvl := cT_l v hv
          refine ⟨tx, htx, h5.o, ap_wc v hv h5 hq.tk (by decide) (by simp only [List.length_append, List.length_cons]; omega) hF (fun s6 kc6 ks6 h6 => ?_)⟩
          rw [wdL_n (EW.w d2.2)] at h6
          refine h6.gI (okr p1 4) (by decide) ?_
          rw [show s0.I (20 * 4 + 5) (G 2 (4 * r + j)) = _ from c3]
          by_cases cp : t.I 74 (4 * r + j) = 0
          · refine ifT cp (b123 _ s6 kc6 ks6 (EW.w (EW_cT hv hv3)) (by simp only [List.length_append, List.length_cons]; omega) ?_ h6)
            unfold itL
            rw [if_pos cp, eu, ev]
            simp only [List.append_assoc, List.cons_append, List.nil_append]
          · refine ifF cp (h6.gP hq.ox (by decide) ⟨tx, htx, h6.o, ap_wc 11 (by decide) h6 hq.tk (by decide) (by simp only [List.length_append, List.length_cons]; omega) hF (fun s7 kc7 ks7 h7 => ?_)⟩)
            rw [wdL_n (EW.w (EW_cT hv hv3))] at h7
            have c11 : (cT 11).length = 7 := rfl
            refine b123 _ s7 kc7 ks7 (EW.w (EW_cT (by decide) (by decide))) (by simp only [List.length_append, List.length_cons]; omega) ?_ h7
            unfold itL
            rw [if_neg cp, eu, ev]
            simp only [List.append_assoc, List.cons_append, List.nil_append]
        unfold C_Ch_kindWord
        refine h5.gI (okr h86.2 1) (by decide) ?_
        rw [show s0.I (20 * 1 + 0) (H 86 (G 2 (4 * r + j))) = _ from g1]
        obtain ⟨-, -, -, -, -, -, -, -, m79, -, m82, miff, -⟩ := hvi
        by_cases k1 : t.I 79 (4 * r + j) = 1
        · rw [if_pos k1]
          exact ifF (by decide) (kd 8 (by decide) (by decide) (by rw [k1]; rfl))
        · rw [if_neg k1]
          refine ifT rfl (h5.gI (okr h86.2 1) (by decide) ?_)
          rw [show s0.I (20 * 1 + 2) (H 86 (G 2 (4 * r + j))) = _ from g2, m82.n.1]
          have m4 := m82.n.2.2
          by_cases k2 : 1 ≤ (t.I 82 (4 * r + j)).toNatClampNeg
          · refine ifT (show nI 0 < _ from nI_lt (by omega) (by omega)) (kd 45 (by decide) (by decide) ?_)
            rw [miff.mpr k2]
            rfl
          · refine ifF (show ¬ nI 0 < _ from nI_nlt (by omega) (by omega)) (kd 46 (by decide) (by decide) ?_)
            have z79 : t.I 79 (4 * r + j) = 0 := by
              obtain ⟨n, e, -, hn⟩ := m79
              rw [e] at k1 ⊢
              have : n ≠ 1 := fun z => k1 (by rw [z]; rfl)
              have : n ≠ 2 := fun z => k2 (miff.mp (by rw [e, z]; rfl))
              rw [show n = 0 by omega]
              rfl
            rw [z79]
            rfl
      by_cases cu : t.I 22 (t.I 71 (4 * r + j)).toNatClampNeg = 0
      · exact ifT cu (b54 44 (by decide) (by decide) (by rw [if_pos cu]))
      · exact ifF cu (b54 43 (by decide) (by decide) (by rw [if_neg cu]))
  exact key (cI t r) 0 s kc ks (by omega) h
end Tx
