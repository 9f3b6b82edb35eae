/-! Texts: an object of kind 13 over an array of bytes, coder 0. -/
def vSt (M : pmM) (s v : Nat) (l : List Int32) : Prop := ∃ (h z : Value) (f : Nat → Int32), M s = some (.inr (13, [.ref v, .int 0, h, z])) ∧ M v = some (.inl (.byte, l.length, .inl f)) ∧ l.length ≤ 1000000 ∧ ∀ i, i < l.length → f i = l.getD i 0
set_option maxRecDepth 100000 in
theorem s_St_coder (base : Nat) (sa : Nat → Nat) {s v : Nat} {h z : Value} {M : pmM} {Rt : pmR} {kc ks : Nat} (hs : M s = some (.inr (13, [.ref v, .int 0, h, z]))) (k : Rt (some (.int 0)) M kc ks) : kP_St_coder base sa [.ref s] M kc ks Rt := by
  refine ⟨Nat.le_of_ble_eq_true rfl, fun G hG => ?_⟩
  refine pgs hG rfl rfl ?_
  refine pz_eq hG (t := 13) rfl rfl (fun c => absurd c (by decide)) (fun _ => ?_)
  refine pgs hG rfl rfl ?_
  refine pg_gf hG rfl rfl hs rfl ?_
  refine pg_go hG (t := 14) rfl rfl ?_
  exact pg_ri hG rfl rfl rfl k
set_option maxRecDepth 100000 in
theorem s_St_isLatin1 (base : Nat) (sa : Nat → Nat) {s v : Nat} {h z : Value} {M : pmM} {Rt : pmR} {kc ks : Nat} (hs : M s = some (.inr (13, [.ref v, .int 0, h, z]))) (k : Rt (some (.int 1)) M kc ks) : kP_St_isLatin1 base sa [.ref s] M kc ks Rt := by
  refine ⟨Nat.le_of_ble_eq_true rfl, fun G hG => ?_⟩
  refine pgs hG rfl rfl ?_
  refine pz_eq hG (t := 17) rfl rfl (fun c => absurd c (by decide)) (fun _ => ?_)
  refine pgs hG rfl rfl ?_
  refine pg_gf hG rfl rfl hs rfl ?_
  refine pz_ne hG (t := 17) rfl rfl (fun c => absurd rfl c) (fun _ => ?_)
  refine pgs hG rfl rfl ?_
  refine pg_go hG (t := 18) rfl rfl ?_
  exact pg_ri hG rfl rfl rfl k
set_option maxRecDepth 100000 in
theorem v_St_length (base : Nat) (sa : Nat → Nat) {s v : Nat} {l : List Int32} {M : pmM} {Rt : pmR} {kc ks : Nat} (hs : vSt M s v l) (k : Rt (some (.int (nI l.length))) M kc ks) : kP_St_length base sa [.ref s] M kc ks Rt := by
  obtain ⟨h, z, f, h1, h2, h3, h4⟩ := hs
  refine ⟨Nat.le_of_ble_eq_true rfl, fun G hG => ?_⟩
  refine pgs hG rfl rfl ?_
  refine pg_gf hG rfl rfl h1 rfl ?_
  refine pg_al hG rfl h2 ?_
  refine pgs hG rfl rfl ?_
  refine pg_cal hG 0 rfl rfl (Nat.le_of_ble_eq_true rfl) (by decide) (Nat.le_of_ble_eq_true rfl) ?_
  refine pm_rcv_of (As' := []) h1 (s_St_coder base sa h1 ?_)
  refine pgs hG rfl rfl ?_
  refine pg_ri hG rfl rfl rfl ?_
  rw [sb_shr0]
  exact k
set_option maxRecDepth 100000 in
theorem s_Pc_checkIndex (base : Nat) (sa : Nat → Nat) {i n : Nat} {q : Option Nat} {M : pmM} {Rt : pmR} {kc ks : Nat} (hi : i < n) (hn : n < 2 ^ 31) (k : Rt (some (.int (nI i))) M kc ks) : kP_Pc_checkIndex base sa [.int (nI i), .int (nI n), va_rf q] M kc ks Rt := by
  refine ⟨by cases q <;> exact Nat.le_of_ble_eq_true rfl, fun G hG => ?_⟩
  have e : lv_args 0 [.int (nI i), .int (nI n), va_rf q] = [(0, .int (nI i)), (1, .int (nI n)), (2, va_rf q)] := rfl
  rw [e]
  refine pgs hG rfl rfl ?_
  refine pz_lt hG (t := 9) rfl rfl (fun c => absurd c (nI_pos (by omega))) (fun _ => ?_)
  refine pgs hG rfl rfl ?_
  refine pgs hG rfl rfl ?_
  refine pi_lt hG (t := 16) rfl rfl (fun _ => ?_) (fun c => absurd (nI_lt hi hn) c)
  refine pgs hG rfl rfl ?_
  exact pg_ri hG rfl rfl rfl k
set_option maxRecDepth 100000 in
theorem s_St_checkIndex (base : Nat) (sa : Nat → Nat) {i n : Nat} {M : pmM} {Rt : pmR} {kc ks : Nat} (hi : i < n) (hn : n < 2 ^ 31) (k : Rt none M kc ks) : kP_St_checkIndex base sa [.int (nI i), .int (nI n)] M kc ks Rt := by
  refine ⟨Nat.le_of_ble_eq_true rfl, fun G hG => ?_⟩
  refine pgs hG rfl rfl ?_
  refine pgs hG rfl rfl ?_
  refine pgs hG rfl rfl ?_
  refine pg_cal hG 2 rfl rfl (Nat.le_of_ble_eq_true rfl) (by decide) (Nat.le_of_ble_eq_true rfl) ?_
  refine s_Pc_checkIndex base sa (q := kso sa) hi hn ?_
  refine pgc hG rfl rfl rfl ?_
  exact pg_rv hG rfl rfl k
set_option maxRecDepth 100000 in
theorem s_S1_charAt (base : Nat) (sa : Nat → Nat) {v i n : Nat} {f : Nat → Int32} {M : pmM} {Rt : pmR} {kc ks : Nat} (hv : M v = some (.inl (.byte, n, .inl f))) (hi : i < n) (hn : n < 2 ^ 31) (k : Rt (some (.int (f i &&& 255))) M kc ks) : kP_S1_charAt base sa [.ref v, .int (nI i)] M kc ks Rt := by
  refine ⟨Nat.le_of_ble_eq_true rfl, fun G hG => ?_⟩
  refine pgs hG rfl rfl ?_
  refine pgs hG rfl rfl ?_
  refine pg_al hG rfl hv ?_
  refine pg_cal hG 2 rfl rfl (Nat.le_of_ble_eq_true rfl) (by decide) (Nat.le_of_ble_eq_true rfl) ?_
  refine s_St_checkIndex base sa hi hn ?_
  refine pgs hG rfl rfl ?_
  refine pgs hG rfl rfl ?_
  refine pg_ba hG rfl hv (vp_in_nI hi hn) ?_
  rw [nI_clamp (by omega)]
  refine pgs hG rfl rfl ?_
  refine pgs hG rfl rfl ?_
  refine pgs hG rfl rfl ?_
  have e : ((f i &&& (Int16.ofInt 255).toInt32).toUInt32 % 65536).toInt32 = f i &&& 255 := sc_c2 (f i)
  rw [e]
  exact pg_ri hG rfl rfl (sc_nar (f i)) k
set_option maxRecDepth 100000 in
theorem v_St_charAt (base : Nat) (sa : Nat → Nat) {s v i : Nat} {l : List Int32} {M : pmM} {Rt : pmR} {kc ks : Nat} (hs : vSt M s v l) (hi : i < l.length) (k : Rt (some (.int (l.getD i 0 &&& 255))) M kc ks) : kP_St_charAt base sa [.ref s, .int (nI i)] M kc ks Rt := by
  obtain ⟨h, z, f, h1, h2, h3, h4⟩ := hs
  refine ⟨Nat.le_of_ble_eq_true rfl, fun G hG => ?_⟩
  refine pgs hG rfl rfl ?_
  refine pg_cal hG 0 rfl rfl (Nat.le_of_ble_eq_true rfl) (by decide) (Nat.le_of_ble_eq_true rfl) ?_
  refine pm_rcv_of (As' := []) h1 (s_St_isLatin1 base sa h1 ?_)
  refine pz_eq hG (t := 16) rfl rfl (fun c => absurd c (by decide)) (fun _ => ?_)
  refine pgs hG rfl rfl ?_
  refine pg_gf hG rfl rfl h1 rfl ?_
  refine pgs hG rfl rfl ?_
  refine pg_cal hG 2 rfl rfl (Nat.le_of_ble_eq_true rfl) (by decide) (Nat.le_of_ble_eq_true rfl) ?_
  refine s_S1_charAt base sa h2 hi (by omega) ?_
  rw [h4 i hi]
  exact pg_ri hG rfl rfl (sc_nar _) k
theorem vSt.grw {M M' : pmM} {b d cap kc ks d' cap' kc' ks' s v : Nat} {t : List Int32} (h : vSt M s v t) (g : grw M b d cap kc ks M' d' cap' kc' ks') (n1 : s ≠ b) (n2 : s ≠ d) (n3 : v ≠ b) (n4 : v ≠ d) : vSt M' s v t := by
  obtain ⟨h, z, f, h1, h2, h3, h4⟩ := h
  exact ⟨h, z, f, grw_old g n1 n2 h1, grw_old g n3 n4 h2, h3, h4⟩
theorem by_255 (x : Int32) : (x &&& 255).toInt8.toInt32 = x.toInt8.toInt32 := by
  have h : (x &&& 255).toInt8 = x.toInt8 := by
    apply Int8.toBitVec_inj.mp
    rw [Int32.toBitVec_toInt8, Int32.toBitVec_toInt8, Int32.toBitVec_and]
    apply BitVec.eq_of_getLsbD_eq
    intro i hi
    have h255 : (255 : Int32).toBitVec.getLsbD i = true := by
      have : ∀ j, j < 8 → (255 : Int32).toBitVec.getLsbD j = true := by decide
      exact this i hi
    rw [BitVec.getLsbD_signExtend, BitVec.getLsbD_signExtend, if_pos (by omega), if_pos (by omega), BitVec.getLsbD_and, h255, Bool.and_true]
  rw [h]
set_option maxRecDepth 100000 in
/-- addText: the bytes of a text more -/
theorem v_By_addText (base : Nat) (sa : Nat → Nat) {b d cap B s v : Nat} {l t : List Int32} {M : pmM} {Rt : pmR} {kc ks : Nat} (hv : vBy base M b l d cap) (hs : vSt M s v t) (h8 : ∀ x ∈ t, x.toInt8.toInt32 = x) (n1 : s ≠ b) (n2 : s ≠ d) (n3 : v ≠ b) (n4 : v ≠ d) (hB : l.length + t.length ≤ B) (hb : bud B kc ks cap)
    (k : ∀ (M' : pmM) (d' cap' kc' ks' : Nat), vBy base M' b (l ++ t) d' cap' → grw M b d cap kc ks M' d' cap' kc' ks' → Rt none M' kc' ks') : kP_By_addText base sa [.ref b, .ref s] M kc ks Rt := by
  have hB2 := hb.2.2
  refine ⟨Nat.le_of_ble_eq_true rfl, fun G hG => ?_⟩
  refine pgs hG rfl rfl ?_
  refine pgc hG rfl rfl (Nat.le_of_ble_eq_true rfl) ?_
  have loop : ∀ (m i : Nat) (M1 : pmM) (d1 cap1 kc1 ks1 : Nat), i + m = t.length → vBy base M1 b (l ++ t.take i) d1 cap1 → grw M b d cap kc ks M1 d1 cap1 kc1 ks1 → G 2 [(2, .int (nI i)), (0, .ref b), (1, .ref s)] [] M1 kc1 ks1 := by
    intro m
    induction m with
    | zero =>
      intro i M1 d1 cap1 kc1 ks1 hi hv1 hg1
      have hs1 := hs.grw hg1 n1 n2 n3 n4
      have ho1 := hs1
      obtain ⟨o1, o2, o3, o4, -⟩ := ho1
      refine pgs hG rfl rfl ?_
      refine pgs hG rfl rfl ?_
      refine pg_cal hG 0 rfl rfl (Nat.le_of_ble_eq_true rfl) (by decide) (Nat.le_of_ble_eq_true rfl) ?_
      refine pm_rcv_of (As' := []) o4 (v_St_length base sa hs1 ?_)
      refine pi_ge hG (t := 25) rfl rfl (fun _ => ?_) (fun c => absurd (show nI t.length ≤ nI i from nI_le (by omega) (by omega)) c)
      refine pg_rv hG rfl rfl ?_
      rw [List.take_of_length_le (by omega)] at hv1
      exact k M1 d1 cap1 kc1 ks1 hv1 hg1
    | succ m ih =>
      intro i M1 d1 cap1 kc1 ks1 hi hv1 hg1
      have hs1 := hs.grw hg1 n1 n2 n3 n4
      have ho1 := hs1
      obtain ⟨o1, o2, o3, o4, -⟩ := ho1
      have hit : i < t.length := by omega
      have hx : (t.getD i 0 &&& 255).toInt8.toInt32 = t.getD i 0 := by
        rw [by_255]
        apply h8
        rw [List.getD_eq_getElem?_getD, List.getElem?_eq_getElem hit]
        exact List.getElem_mem hit
      refine pgs hG rfl rfl ?_
      refine pgs hG rfl rfl ?_
      refine pg_cal hG 0 rfl rfl (Nat.le_of_ble_eq_true rfl) (by decide) (Nat.le_of_ble_eq_true rfl) ?_
      refine pm_rcv_of (As' := []) o4 (v_St_length base sa hs1 ?_)
      refine pi_ge hG (t := 25) rfl rfl (fun c => absurd c (nI_ge hit (by omega))) (fun _ => ?_)
      refine pgs hG rfl rfl ?_
      refine pgs hG rfl rfl ?_
      refine pgs hG rfl rfl ?_
      refine pg_cal hG 0 rfl rfl (Nat.le_of_ble_eq_true rfl) (by decide) (Nat.le_of_ble_eq_true rfl) ?_
      refine pm_rcv_of (As' := [.int (nI i)]) o4 (v_St_charAt base sa hs1 hit ?_)
      refine pg_cal hG 0 rfl rfl (Nat.le_of_ble_eq_true rfl) (by decide) (Nat.le_of_ble_eq_true rfl) ?_
      refine pm_rcv_of (As' := [.int (t.getD i 0 &&& 255)]) hv1.ob (v_By_add base sa (B := B) hv1 (by rw [List.length_append, List.length_take, Nat.min_eq_left (by omega)]; omega) (bud_tr hb hg1) ?_)
      intro M2 d2 cap2 kc2 ks2 hv2 hg2
      refine pgc hG rfl rfl (Nat.le_of_ble_eq_true rfl) ?_
      refine pg_go hG (t := 2) rfl rfl ?_
      have e1 : nI i + Int32.ofInt 1 = nI (i + 1) := nI_1 i
      show G 2 [(2, .int (nI i + Int32.ofInt 1)), (0, .ref b), (1, .ref s)] [] _ _ _
      rw [e1]
      refine ih (i + 1) M2 d2 cap2 kc2 ks2 (by omega) ?_ (grw_tr hg1 hg2)
      have e2 : t.take (i + 1) = t.take i ++ [t.getD i 0] := by
        rw [List.take_succ, List.getD_eq_getElem?_getD, List.getElem?_eq_getElem hit]
        rfl
      rw [e2, ← List.append_assoc]
      rw [hx] at hv2
      exact hv2
  exact loop t.length 0 M d cap kc ks (by omega) (by simpa using hv) grw_rf
/-- what stands between words -/
def sep (l : List Int32) : List Int32 := if l.length = 0 then [] else if l.getD (l.length - 1) 0 = 10 then [] else [32]
set_option maxRecDepth 100000 in
/-- word: a blank unless it is the first of its line, then the text -/
theorem v_By_word (base : Nat) (sa : Nat → Nat) {b d cap B s v : Nat} {l t : List Int32} {M : pmM} {Rt : pmR} {kc ks : Nat} (hv : vBy base M b l d cap) (hs : vSt M s v t) (h8 : ∀ x ∈ t, x.toInt8.toInt32 = x) (n1 : s ≠ b) (n2 : s ≠ d) (n3 : v ≠ b) (n4 : v ≠ d) (hB : l.length + 1 + t.length ≤ B) (hb : bud B kc ks cap)
    (k : ∀ (M' : pmM) (d' cap' kc' ks' : Nat), vBy base M' b (l ++ (sep l ++ t)) d' cap' → grw M b d cap kc ks M' d' cap' kc' ks' → Rt none M' kc' ks') : kP_By_word base sa [.ref b, .ref s] M kc ks Rt := by
  have hB2 := hb.2.2
  have hob := hv.ob
  refine ⟨Nat.le_of_ble_eq_true rfl, fun G hG => ?_⟩
  have tail : ∀ (M1 : pmM) (d1 cap1 kc1 ks1 : Nat), vBy base M1 b (l ++ sep l) d1 cap1 → (sep l).length ≤ 1 → grw M b d cap kc ks M1 d1 cap1 kc1 ks1 → G 29 [(0, .ref b), (1, .ref s)] [] M1 kc1 ks1 := by
    intro M1 d1 cap1 kc1 ks1 hv1 hl1 hg1
    have m2 : s ≠ d1 := by
      rcases hg1.2.2.1 with e | e
      · rw [e]; exact n2
      · intro q; subst q
        obtain ⟨o1, o2, o3, o4, -⟩ := hs
        rw [o4] at e; cases e
    have m4 : v ≠ d1 := by
      rcases hg1.2.2.1 with e | e
      · rw [e]; exact n4
      · intro q; subst q
        obtain ⟨o1, o2, o3, -, o5, -⟩ := hs
        rw [o5] at e; cases e
    refine pgs hG rfl rfl ?_
    refine pgs hG rfl rfl ?_
    refine pg_cal hG 0 rfl rfl (Nat.le_of_ble_eq_true rfl) (by decide) (Nat.le_of_ble_eq_true rfl) ?_
    refine pm_rcv_of (As' := [.ref s]) hv1.ob (v_By_addText base sa (B := B) hv1 (hs.grw hg1 n1 n2 n3 n4) h8 n1 m2 n3 m4 (by rw [List.length_append]; omega) (bud_tr hb hg1) ?_)
    intro M2 d2 cap2 kc2 ks2 hv2 hg2
    refine pg_rv hG rfl rfl ?_
    rw [List.append_assoc] at hv2
    exact k M2 d2 cap2 kc2 ks2 hv2 (grw_tr hg1 hg2)
  refine pgs hG rfl rfl ?_
  refine pg_gf hG rfl rfl hob rfl ?_
  have hsm := hv.small
  refine pz_le hG (t := 29) rfl rfl (fun c1 => ?_) (fun c1 => ?_)
  · have h0 : l.length = 0 := by
      rcases Nat.eq_zero_or_pos l.length with h | h
      · exact h
      · exact absurd c1 (nI_nle h (by omega))
    have es : sep l = [] := if_pos h0
    refine tail M d cap kc ks ?_ (by rw [es]; decide) grw_rf
    rw [es, List.append_nil]
    exact hv
  · have h0 : 0 < l.length := by
      rcases Nat.eq_zero_or_pos l.length with h | h
      · rw [h] at c1; exact absurd (by decide) c1
      · exact h
    obtain ⟨f, hr, hf, -⟩ := id hv
    obtain ⟨r1, r2, r3, r4, r5⟩ := hr
    refine pgs hG rfl rfl ?_
    refine pg_gf hG rfl rfl hob rfl ?_
    refine pgs hG rfl rfl ?_
    refine pg_gf hG rfl rfl hob rfl ?_
    refine pgs hG rfl rfl ?_
    refine pgs hG rfl rfl ?_
    have e1 : nI l.length - Int32.ofInt 1 = nI (l.length - 1) := by rw [show Int32.ofInt 1 = nI 1 from rfl, pk_sub (by omega)]
    rw [e1]
    refine pg_ba hG rfl r2 (vp_in_nI (by omega) (by omega)) ?_
    rw [nI_clamp (by omega), hf _ (by omega)]
    refine pgs hG rfl rfl ?_
    refine pi_eq hG (t := 29) rfl rfl (fun c2 => ?_) (fun c2 => ?_)
    · have es : sep l = [] := by
        unfold sep
        rw [if_neg (by omega), if_pos (show l.getD (l.length - 1) 0 = 10 from c2)]
      refine tail M d cap kc ks ?_ (by rw [es]; decide) grw_rf
      rw [es, List.append_nil]
      exact hv
    · have es : sep l = [32] := by
        unfold sep
        rw [if_neg (by omega), if_neg (show ¬ l.getD (l.length - 1) 0 = 10 from c2)]
      refine pgs hG rfl rfl ?_
      refine pgs hG rfl rfl ?_
      refine pg_cal hG 0 rfl rfl (Nat.le_of_ble_eq_true rfl) (by decide) (Nat.le_of_ble_eq_true rfl) ?_
      refine pm_rcv_of (As' := [.int 32]) hob (v_By_add base sa (B := B) (v := 32) hv (by omega) hb ?_)
      intro M1 d1 cap1 kc1 ks1 hv1 hg1
      refine tail M1 d1 cap1 kc1 ks1 ?_ (by rw [es]; decide) hg1
      rw [es]
      exact hv1
