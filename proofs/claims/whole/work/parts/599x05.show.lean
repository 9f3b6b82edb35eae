/-! Texts of the class: times, interfaces, counts, in lines. -/
/-- lines -/
def lnS (f : Nat → List Int32) : Nat → List Int32
  | 0 => []
  | n + 1 => lnS f n ++ (f n ++ [10])
theorem NL_10 (l x : List Int32) : NL (l ++ (x ++ [10])) := by
  refine Or.inr ?_
  rw [List.length_append, List.length_append, List.length_singleton, gd_r (by omega), gd_r (by omega)]
  have : l.length + (x.length + 1) - 1 - l.length - x.length = 0 := by omega
  rw [this]
  rfl
theorem NL_ln (f : Nat → List Int32) : ∀ n, NL (lnS f n)
  | 0 => Or.inl rfl
  | n + 1 => NL_10 _ _
theorem lnS_len {f : Nat → List Int32} {B : Nat} : ∀ n, (∀ j, j < n → (f j).length ≤ B) → (lnS f n).length ≤ n * (B + 1)
  | 0, _ => Nat.zero_le _
  | n + 1, h => by
    have h1 := lnS_len n (fun j hj => h j (by omega))
    have h2 := h n (by omega)
    show (lnS f n ++ (f n ++ [10])).length ≤ _
    rw [List.length_append, List.length_append, Nat.succ_mul]
    show _ + (_ + 1) ≤ _
    omega
theorem rtL_len (t : moS) (k : Nat) : (rtL t k).length ≤ 130 := by
  have b1 := pfxZ_len (fam (t.I 106 k)) (t.J 107 k) (t.J 108 k) (t.I 109 k)
  have b2 := decZ_len (t.I 111 k)
  have b3 := adr_len (fam (t.I 106 k)) (t.J 114 k) (t.J 115 k)
  have b4 := ifN_l t k
  unfold rtL
  split
  · simp only [List.length_append, List.length_cons]
    have : (cT 17).length = 6 := rfl
    omega
  · split
    · simp only [List.length_append, List.length_cons]
      have : (cT 40).length = 6 := rfl
      omega
    · simp only [List.length_append, List.length_cons]
      have : (cT 41).length = 3 := rfl
      omega
theorem tmL_len (t : moS) (k : Nat) : (tmL t k).length ≤ 80 := by
  have b1 := pfxZ_len (fam (t.I 106 k)) (t.J 107 k) (t.J 108 k) (t.I 109 k)
  have b2 := decZ_len (t.I 122 k - t.S 1)
  have b3 := decZ_len (t.I 120 k + t.I 121 k - t.S 1)
  have b4 : (cT 47).length = 7 := rfl
  unfold tmL
  simp only [List.length_append, List.length_cons]
  split <;> split <;> (try split) <;> simp only [List.length_cons, List.length_nil] <;> omega
/-- an interface's line -/
def spL (m : Int64) : List Int32 := if m = 24246 then cT 12 else if m = 1969498085 then cT 13 else cT 14
noncomputable def adL (t : moS) (q f : Nat) : List Int32 := if t.I 75 (2 * q + f) = 0 then [] else 32 :: pfxZ (fam (nI f)) (t.J 76 (2 * q + f)) (t.J 77 (2 * q + f)) (t.I 78 (2 * q + f))
noncomputable def itL (t : moS) (q : Nat) : List Int32 := nmOf (t.J 18 (t.I 71 q).toNatClampNeg) ++ (32 :: (if t.I 22 (t.I 71 q).toNatClampNeg = 0 then cT 44 else cT 43) ++ (32 :: cT 6 ++ (32 :: decZ (t.I 72 q) ++ (32 :: spL (t.J 73 q) ++ (32 :: (if t.I 79 q = 0 then cT 46 else if t.I 79 q = 1 then cT 8 else cT 45) ++ ((if t.I 74 q = 0 then [] else 32 :: cT 11) ++ (adL t q 0 ++ adL t q 1)))))))
theorem spL_k (m : Int64) : (spL m).length ≤ 6 ∧ EW (spL m) := by
  unfold spL
  split
  · exact ⟨by decide, EW_cT (by decide) (by decide)⟩
  · split
    · exact ⟨by decide, EW_cT (by decide) (by decide)⟩
    · exact ⟨by decide, EW_cT (by decide) (by decide)⟩
theorem adL_len (t : moS) (q f : Nat) : (adL t q f).length ≤ 55 := by
  have b1 := pfxZ_len (fam (nI f)) (t.J 76 (2 * q + f)) (t.J 77 (2 * q + f)) (t.I 78 (2 * q + f))
  unfold adL
  split
  · exact Nat.zero_le _
  · rw [List.length_cons]; omega
theorem kdL_k (m : Int32) : (if m = 0 then cT 46 else if m = 1 then cT 8 else cT 45).length ≤ 8 ∧ EW (if m = 0 then cT 46 else if m = 1 then cT 8 else cT 45) := by
  split
  · exact ⟨by decide, EW_cT (by decide) (by decide)⟩
  · split
    · exact ⟨by decide, EW_cT (by decide) (by decide)⟩
    · exact ⟨by decide, EW_cT (by decide) (by decide)⟩
theorem itL_len (t : moS) (q : Nat) : (itL t q).length ≤ 200 := by
  have b1 := nmOf_l (t.J 18 (t.I 71 q).toNatClampNeg)
  have b2 := decZ_len (t.I 72 q)
  have b3 := (spL_k (t.J 73 q)).1
  have b4 := (kdL_k (t.I 79 q)).1
  have b5 := adL_len t q 0
  have b6 := adL_len t q 1
  have c1 : (cT 44).length = 4 := rfl
  have c2 : (cT 43).length = 2 := rfl
  have c3 : (cT 6).length = 4 := rfl
  have c4 : (cT 11).length = 7 := rfl
  unfold itL
  simp only [List.length_append, List.length_cons]
  have d1 : (if t.I 22 (t.I 71 q).toNatClampNeg = 0 then cT 44 else cT 43).length ≤ 4 := by split <;> omega
  have d2 : (if t.I 74 q = 0 then [] else 32 :: cT 11).length ≤ 8 := by
    split
    · exact Nat.zero_le _
    · rw [List.length_cons]; omega
  omega
section Tx
variable {G H : Nat → Nat → Nat} {sa : Nat → Nat} {x F L k0 m0 kc ks tx : Nat} {s0 s : cS} {t : moS} {l : List Int32} {Q : cS → Nat → Nat → Prop}
/-- the table's head, while a text is written -/
theorem ap_tot {r : Nat} {f : Nat → Int32 → Prop} (hq : RQ G H sa x s0 t) (hM : MV t) (hr : r < cR t) (h : AP sa tx 124 F L s0 k0 m0 l s kc ks) (k : f (G 1 r) (nI (cN t r))) : ob (some (G 1 r)) fun b1 => ob (gP s 9 6 b1) fun v2 => ob v2 fun b3 => ob (gI s 10 1 b3) fun v4 => f b1 v4 := by
  obtain ⟨⟨a1, -, -⟩, -⟩ := hq.rt hr
  have ht := hq.ty.p a1 186 27
  refine ⟨_, rfl, h.gP (okr a1 9) (by decide) ⟨_, ht.1, h.gI (okr ht.2 10) (by decide) ?_⟩⟩
  have e := (hq.tb hr).1.1
  rw [show s0.I (20 * 10 + 1) (H 186 (G 1 r)) = _ from e]
  exact k
theorem ap_row {r j : Nat} {f : Option Nat → Prop} (hq : RQ G H sa x s0 t) (hM : MV t) (hr : r < cR t) (hj : j < cN t r) (h : AP sa tx 124 F L s0 k0 m0 l s kc ks) (k : f (some (G 4 (2700 * r + j)))) : ob (gP s 9 6 (G 1 r)) fun v5 => ob v5 fun b6 => ob (gP s 10 0 b6) fun v7 => ob v7 fun b8 => ob (rQ s b8 (nI j)) f := by
  obtain ⟨⟨a1, -, -⟩, -⟩ := hq.rt hr
  have ht := hq.ty.p a1 186 27
  obtain ⟨⟨-, hn, -, w, cap, b1, b2, b3, b4, b5, b6, -, -⟩, -⟩ := hq.tb hr
  refine h.gP (okr a1 9) (by decide) ⟨_, ht.1, h.gP (okr ht.2 10) (by decide) ⟨w, b1, h.rQ b2 (by decide) (by decide) (by omega) (by omega) ?_⟩⟩
  rw [(b6 j (by omega)).1]
  exact k
theorem ap_routes {r : Nat} (hq : RQ G H sa x s0 t) (hM : MV t) (hr : r < cR t) (htx : s0.P 221 x = some tx) (h : AP sa tx 124 F L s0 k0 m0 [] s kc ks) (hl : 880 * 131 + 200 ≤ F) (hF : F < 2 ^ 31) (k : ∀ s' kc' ks', AP sa tx 124 F L s0 k0 m0 (lnS (fun j => rtL t (2700 * r + j)) (cN t r)) s' kc' ks' → Q s' kc' ks') : C_Rf_writeRoutes sa x (some (G 1 r)) s kc ks Q := by
  have hn := hM.nRo hr
  unfold C_Rf_writeRoutes C_Rf_writeRoutes_b2
  intro P hP
  have key : ∀ n j (s : cS) (kc ks : Nat), j + n = cN t r → AP sa tx 124 F L s0 k0 m0 (lnS (fun j => rtL t (2700 * r + j)) j) s kc ks → P (nI j) s kc ks := by
    intro n
    induction n with
    | zero =>
      intro j s kc ks hj h
      apply hP
      unfold C_Rf_writeRoutes_s2
      refine ap_tot hq hM hr h ?_
      refine ifF (nI_nlt (by omega) (by omega)) (k s kc ks ?_)
      rw [show cN t r = j by omega]
      exact h
    | succ n ih =>
      intro j s kc ks hj h
      have hlen := lnS_len (f := fun j => rtL t (2700 * r + j)) (B := 130) j (fun i _ => rtL_len _ _)
      apply hP
      unfold C_Rf_writeRoutes_s2
      refine ap_tot hq hM hr h ?_
      refine ifT (nI_lt (by omega) (by omega)) ?_
      refine ap_row hq hM hr (j := j) (by omega) h ?_
      refine ⟨h.x.o hq.ox, ap_route hq hM hr (by omega) htx h (NL_ln _ j) (by omega) hF (fun s1 kc1 ks1 h1 => h1.gP hq.ox (by decide) ⟨tx, htx, h1.o, ap_endLine h1 (by rw [List.length_append]; have := rtL_len t (2700 * r + j); omega) (fun s2 kc2 ks2 h2 => ?_)⟩)⟩
      rw [nI_1]
      refine ih (j + 1) s2 kc2 ks2 (by omega) ?_
      rw [List.append_assoc] at h2
      exact h2
  exact key (cN t r) 0 s kc ks (by omega) h
theorem ap_times {r : Nat} (hq : RQ G H sa x s0 t) (hM : MV t) (hr : r < cR t) (htx : s0.P 221 x = some tx) (h : AP sa tx 124 F L s0 k0 m0 [] s kc ks) (hl : 880 * 131 + 200 ≤ F) (hF : F < 2 ^ 31) (k : ∀ s' kc' ks', AP sa tx 124 F L s0 k0 m0 (lnS (fun j => tmL t (2700 * r + j)) (cN t r)) s' kc' ks' → Q s' kc' ks') : C_Rf_writeTimes sa x (some (G 1 r)) s kc ks Q := by
  have hn := hM.nRo hr
  unfold C_Rf_writeTimes C_Rf_writeTimes_b2
  intro P hP
  have key : ∀ n j (s : cS) (kc ks : Nat), j + n = cN t r → AP sa tx 124 F L s0 k0 m0 (lnS (fun j => tmL t (2700 * r + j)) j) s kc ks → P (nI j) s kc ks := by
    intro n
    induction n with
    | zero =>
      intro j s kc ks hj h
      apply hP
      unfold C_Rf_writeTimes_s2
      refine ap_tot hq hM hr h ?_
      refine ifF (nI_nlt (by omega) (by omega)) (k s kc ks ?_)
      rw [show cN t r = j by omega]
      exact h
    | succ n ih =>
      intro j s kc ks hj h
      have hjn : j < cN t r := by omega
      have hlen := lnS_len (f := fun j => tmL t (2700 * r + j)) (B := 80) j (fun i _ => tmL_len _ _)
      obtain ⟨ha, w1, w2, w3, w4, w5, w6, -⟩ := hq.row hr hjn
      have hp := hq.ty.p ha 160 9
      obtain ⟨-, hk2, -, hm2, -⟩ := (hM.r hr).w hjn
      have b1 := pfxZ_len (fam (t.I 106 (2700 * r + j))) (t.J 107 (2700 * r + j)) (t.J 108 (2700 * r + j)) (t.I 109 (2700 * r + j))
      -- the end of a line
      have fin : ∀ X (s : cS) (kc ks : Nat), EW X → X.length ≤ 10 → lnS (fun j => tmL t (2700 * r + j)) j ++ (pfxZ (fam (t.I 106 (2700 * r + j))) (t.J 107 (2700 * r + j)) (t.J 108 (2700 * r + j)) (t.I 109 (2700 * r + j)) ++ (32 :: X ++ (if t.I 119 (2700 * r + j) = 0 then [] else 32 :: cT 47))) = lnS (fun j => tmL t (2700 * r + j)) j ++ tmL t (2700 * r + j) → AP sa tx 124 F L s0 k0 m0 (lnS (fun j => tmL t (2700 * r + j)) j ++ pfxZ (fam (t.I 106 (2700 * r + j))) (t.J 107 (2700 * r + j)) (t.J 108 (2700 * r + j)) (t.I 109 (2700 * r + j)) ++ 32 :: X) s kc ks → C_Rf_writeTimes_b81 sa x (some (G 1 r)) (nI j) (some (G 4 (2700 * r + j))) s kc ks Q P := by
        intro X s1 kc1 ks1 hX hX2 e h1
        have hl1 : (lnS (fun j => tmL t (2700 * r + j)) j ++ pfxZ (fam (t.I 106 (2700 * r + j))) (t.J 107 (2700 * r + j)) (t.J 108 (2700 * r + j)) (t.I 109 (2700 * r + j)) ++ 32 :: X).length ≤ (lnS (fun j => tmL t (2700 * r + j)) j).length + 65 := by
          rw [List.length_append, List.length_append, List.length_cons]; omega
        have b98 : ∀ Y (s : cS) (kc ks : Nat), Y.length + 1 ≤ F → Y = lnS (fun j => tmL t (2700 * r + j)) j ++ tmL t (2700 * r + j) → AP sa tx 124 F L s0 k0 m0 Y s kc ks → C_Rf_writeTimes_b98 sa x (some (G 1 r)) (nI j) s kc ks Q P := by
          intro Y s2 kc2 ks2 hY eY h2
          unfold C_Rf_writeTimes_b98
          refine h2.gP hq.ox (by decide) ⟨tx, htx, h2.o, ap_endLine h2 hY (fun s3 kc3 ks3 h3 => ?_)⟩
          rw [nI_1]
          refine ih (j + 1) s3 kc3 ks3 (by omega) ?_
          rw [eY, List.append_assoc] at h3
          exact h3
        unfold C_Rf_writeTimes_b81
        refine ⟨_, rfl, h1.gI (okr ha 8) (by decide) ?_⟩
        rw [show s0.I (20 * 8 + 7) (G 4 (2700 * r + j)) = _ from w2.2.2.2]
        by_cases c : t.I 119 (2700 * r + j) = 0
        · refine ifT c (b98 _ s1 kc1 ks1 (by omega) ?_ h1)
          rw [if_pos c] at e
          rw [← e]
          simp only [List.append_assoc, List.cons_append, List.append_nil]
        · refine ifF c (h1.gP hq.ox (by decide) ⟨tx, htx, h1.o, ap_wc 47 (by decide) h1 hq.tk (by decide) (by omega) hF (fun s2 kc2 ks2 h2 => ?_)⟩)
          rw [wdL_n (EW.w hX)] at h2
          refine b98 _ s2 kc2 ks2 (by rw [List.length_append, List.length_cons]; have : (cT 47).length = 7 := rfl; omega) ?_ h2
          rw [if_neg c] at e
          rw [← e]
          simp only [List.append_assoc, List.cons_append]
      apply hP
      unfold C_Rf_writeTimes_s2
      refine ap_tot hq hM hr h ?_
      refine ifT (nI_lt (by omega) (by omega)) ?_
      refine ap_row hq hM hr hjn h ?_
      refine h.gP hq.ox (by decide) ⟨tx, htx, h.o, ap_wc 3 (by decide) h hq.tk (by decide) (by omega) hF (fun s1 kc1 ks1 h1 => ?_)⟩
      rw [wdL_y (NL_ln _ j), show lnS (fun j => tmL t (2700 * r + j)) j ++ cT 3 = lnS (fun j => tmL t (2700 * r + j)) j from List.append_nil _] at h1
      refine h1.gP hq.ox (by decide) ⟨_, rfl, h1.gP (okr ha 8) (by decide) ⟨tx, htx, h1.o, ap_pfx hp.1 (okr hp.2 5) hq.tk (by decide) hF h1 (by omega) (fun s2 kc2 ks2 h2 => ?_)⟩⟩
      rw [w1.1, w1.2.1, w1.2.2.1, w1.2.2.2] at h2
      refine h2.gI (okr ha 8) (by decide) ?_
      rw [show s0.I (20 * 8 + 3) (G 4 (2700 * r + j)) = _ from w2.1]
      by_cases c : t.I 110 (2700 * r + j) = 2
      · refine ifT c (h2.gP hq.ox (by decide) (h2.gI (okr ha 8) (by decide) (h2.gI hq.ox (by decide) ⟨tx, htx, h2.o, ap_wnum _ h2 hq.tk (by decide) (by rw [List.length_append]; omega) hF (fun s3 kc3 ks3 h3 => ?_)⟩)))
        rw [wdL_n ((EW.pfx _ _ _ _).nl), show s0.I (20 * 11 + 5) x = _ from hq.2.2.1.2.1] at h3
        refine fin _ s3 kc3 ks3 (EW.dec _) (decZ_len _) ?_ h3
        unfold tmL
        rw [if_pos c]
        by_cases c2 : t.I 111 (2700 * r + j) = 16
        · rw [if_pos c2, show s0.I (20 * 8 + 10) (G 4 (2700 * r + j)) = _ from w6 c c2]
        · rw [if_neg c2, show s0.I (20 * 8 + 10) (G 4 (2700 * r + j)) = _ from (w5 c c2).2.2]
      · refine ifF c (h2.gP hq.ox (by decide) ⟨tx, htx, h2.o, ap_wc 42 (by decide) h2 hq.tk (by decide) (by rw [List.length_append]; omega) hF (fun s3 kc3 ks3 h3 => ?_)⟩)
        rw [wdL_n ((EW.pfx _ _ _ _).nl)] at h3
        refine fin _ s3 kc3 ks3 (EW_cT (by decide) (by decide)) (by decide) ?_ h3
        unfold tmL
        rw [if_neg c]
        rfl
  exact key (cN t r) 0 s kc ks (by omega) h
def ctL (t : moS) (r i : Nat) : List Int32 := dec i ++ 32 :: decZ (t.I 45 (11 * r + i))
theorem ctL_len (t : moS) (r i : Nat) : (ctL t r i).length ≤ 21 := by
  have b1 := dec_len i
  have b2 := decZ_len (t.I 45 (11 * r + i))
  unfold ctL
  rw [List.length_append, List.length_cons]; omega
theorem ap_counts {r : Nat} (hq : RQ G H sa x s0 t) (hr : r < cR t) (htx : s0.P 221 x = some tx) (h : AP sa tx 124 F L s0 k0 m0 [] s kc ks) (hl : 400 ≤ F) (hF : F < 2 ^ 31) (k : ∀ s' kc' ks', AP sa tx 124 F L s0 k0 m0 (lnS (fun i => ctL t r i) 11) s' kc' ks' → Q s' kc' ks') : C_Rf_writeCounts sa x (some (G 1 r)) s kc ks Q := by
  obtain ⟨⟨a1, -, -⟩, -, -, -, a5⟩ := hq.rt hr
  have hc := hq.ty.r a1 196 104 11
  unfold C_Rf_writeCounts C_Rf_writeCounts_b2
  intro P hP
  have key : ∀ n j (s : cS) (kc ks : Nat), j + n = 11 → AP sa tx 124 F L s0 k0 m0 (lnS (fun i => ctL t r i) j) s kc ks → P (nI j) s kc ks := by
    intro n
    induction n with
    | zero =>
      intro j s kc ks hj h
      apply hP
      unfold C_Rf_writeCounts_s2
      have : j = 11 := by omega
      subst this
      exact ifF (by decide) (k s kc ks h)
    | succ n ih =>
      intro j s kc ks hj h
      have hlen := lnS_len (f := fun i => ctL t r i) (B := 21) j (fun i _ => ctL_len _ _ _)
      have b1 := dec_len j
      apply hP
      unfold C_Rf_writeCounts_s2
      refine ifT (show nI j < nI 11 from nI_lt (by omega) (by decide)) (h.gP hq.ox (by decide) ⟨tx, htx, h.o, ap_wnum _ h hq.tk (by decide) (by omega) hF (fun s1 kc1 ks1 h1 => ?_)⟩)
      rw [wdL_y (NL_ln _ j), decZ_n (by omega)] at h1
      refine h1.gP hq.ox (by decide) ⟨_, rfl, h1.gP (okr a1 9) (by decide) ⟨_, hc.1, h1.rE hc.2 (by decide) (by decide) (by omega) (by decide) ⟨tx, htx, h1.o, ap_wnum _ h1 hq.tk (by decide) (by rw [List.length_append]; omega) hF (fun s2 kc2 ks2 h2 => ?_)⟩⟩⟩
      rw [wdL_n (show ¬ NL (lnS (fun i => ctL t r i) j ++ dec j) from (EW.dgT _ _).nl), a5 j (by omega)] at h2
      refine h2.gP hq.ox (by decide) ⟨tx, htx, h2.o, ap_endLine h2 (by rw [List.length_append, List.length_append, List.length_cons]; have := decZ_len (t.I 45 (11 * r + j)); omega) (fun s3 kc3 ks3 h3 => ?_)⟩
      rw [nI_1]
      refine ih (j + 1) s3 kc3 ks3 (by omega) ?_
      show AP sa tx 124 F L s0 k0 m0 (lnS (fun i => ctL t r i) j ++ ((dec j ++ 32 :: decZ (t.I 45 (11 * r + j))) ++ [10])) s3 kc3 ks3
      simp only [List.append_assoc] at h3 ⊢
      exact h3
  exact key 11 0 s kc ks (by omega) h
end Tx
