/-! The bytes of an entry: the model lays them, the class adds them. -/
theorem lay_l (x : Int64) (c : Int64) (d : Int32) (k : Nat) (hk : k + 8 ≤ 64) (hd : (d.toInt64.toUInt64 &&& Int64.toUInt64 63).toNat % 64 = k) (hc : (c.toBitVec.smod 64).toNat = k) : (ush x d).toInt32 &&& 255 = ((x >>> c) &&& 255).toInt32 := by
  have e1 : (x >>> c).toBitVec = x.toBitVec.sshiftRight k := by
    rw [Int64.toBitVec_shiftRight, ← hc]; rfl
  have e2 := ush_bv x d k hd
  have e3 : (ush x d).toInt32.toBitVec = (ush x d).toBitVec.signExtend 32 := rfl
  have e4 : (((x >>> c) &&& 255).toInt32).toBitVec = ((x >>> c) &&& 255).toBitVec.signExtend 32 := rfl
  have e5 : ∀ i, i < 32 → (255#32).getLsbD i = decide (i < 8) := by decide
  have e6 : ∀ i, i < 64 → (255#64).getLsbD i = decide (i < 8) := by decide
  refine Int32.toBitVec_inj.mp (BitVec.eq_of_getLsbD_eq fun i hi => ?_)
  rw [Int32.toBitVec_and, e3, e2, e4, Int64.toBitVec_and, e1, BitVec.signExtend_eq_setWidth_of_le _ (by decide), BitVec.signExtend_eq_setWidth_of_le _ (by decide)]
  show (_ &&& 255#32).getLsbD i = (BitVec.setWidth 32 (_ &&& 255#64)).getLsbD i
  rw [BitVec.getLsbD_and, BitVec.getLsbD_setWidth, BitVec.getLsbD_setWidth, BitVec.getLsbD_and, e5 i hi, e6 i (by omega)]
  by_cases c8 : i < 8
  · rw [BitVec.getLsbD_ushiftRight, BitVec.getLsbD_sshiftRight]
    have a1 : i < 32 := hi
    have a2 : k + i < 64 := by omega
    have a4 : ¬ 64 ≤ i := by omega
    simp [a1, a2, a4]
  · simp [c8]
/-- byte j of a number, from the lowest -/
abbrev abB (x : Int64) (j : Nat) : Int32 := (ush_L x (nI (8 * j))).toInt32 &&& 255
theorem ab_m (x : Int64) : ∀ k, k < 16 → Int64.toInt32 ((x >>> ((Int32.toInt64 ((56 : Int32) - ((8 : Int32) * (rem_I (nI k) (8 : Int32))))) &&& 63)) &&& (255 : Int64)) = abB x (7 - k % 8) := by
  intro k hk
  have hd : ∀ k : Fin 16, ((nI (8 * (7 - k.1 % 8))).toInt64.toUInt64 &&& Int64.toUInt64 63).toNat % 64 = 8 * (7 - k.1 % 8) := by decide
  have hc : ∀ k : Fin 16, (((Int32.toInt64 ((56 : Int32) - ((8 : Int32) * (rem_I (nI k.1) (8 : Int32))))) &&& 63).toBitVec.smod 64).toNat = 8 * (7 - k.1 % 8) := by decide +kernel
  exact (lay_l x _ _ (8 * (7 - k % 8)) (by omega) (hd ⟨k, hk⟩) (hc ⟨k, hk⟩)).symm
theorem ab_32 (x : Int64) : ∀ j, j < 4 → abB (ush_L x 32) j = abB x (4 + j) := by
  intro j hj
  have h1 : ∀ j : Fin 8, ((nI (8 * j.1)).toInt64.toUInt64 &&& Int64.toUInt64 63).toNat % 64 = 8 * j.1 := by decide
  have e1 : (ush_L (ush_L x 32) (nI (8 * j))).toBitVec = (ush_L x (nI (8 * (4 + j)))).toBitVec := by
    show (ush (ush x 32) (nI (8 * j))).toBitVec = (ush x (nI (8 * (4 + j)))).toBitVec
    rw [ush_bv _ _ (8 * j) (h1 ⟨j, by omega⟩), ush_bv x 32 32 (by decide), ush_bv x _ (8 * (4 + j)) (h1 ⟨4 + j, by omega⟩), ← BitVec.shiftRight_add]
    congr 1
    omega
  show (ush_L (ush_L x 32) (nI (8 * j))).toInt32 &&& 255 = (ush_L x (nI (8 * (4 + j)))).toInt32 &&& 255
  rw [Int64.toBitVec_inj.mp e1]
theorem bn_2 (p : Int32) : bnL p.toInt64 2 = [(p >>> ((8 : Int32) &&& 31)) &&& 255, p &&& 255] := by
  show [(ush_L p.toInt64 (nI (8 * 1))).toInt32 &&& 255, (ush_L p.toInt64 (nI (8 * 0))).toInt32 &&& 255] = _
  rw [lay_b p 1 (by decide), lay_b p 0 (by decide)]
  have e0 : p >>> (nI (8 * 0) &&& 31) = p := by
    apply Int32.toBitVec_inj.mp
    rw [Int32.toBitVec_shiftRight]
    exact BitVec.sshiftRight_zero ..
  rw [e0]
  rfl
/-- an entry's bytes -/
def eB (f : Int32) (e : En) : List Int32 := if f = 0 then bnL 2 2 ++ bnL e.2.2.2.2.toInt64 2 ++ bnL (ush_L e.1 32) 4 ++ bnL (ush_L (mskH e.2.2.1) 32) 4 ++ bnL e.2.2.2.1.toInt64 8 else bnL e.1 8 ++ bnL e.2.1 8 ++ bnL e.2.2.2.2.toInt64 2 ++ [e.2.2.1 &&& 255] ++ [e.2.2.2.1 &&& 255]
theorem eB_l {f : Int32} {e : En} : (eB f e).length = 20 := by
  unfold eB
  split <;> simp [bnL_len]
/-- the model's body: F, and L from a on -/
def LB (t0 t : moS) (F : Nat → Int32) (a : Nat) (L : List Int32) : Prop := mfr [146] t0 t ∧ t.N 146 = 700 ∧ ∀ i, i < 700 → t.I 146 i = cpF F a L i
/-- n values put in from j on -/
def stF (L : List Int32) (j : Nat) (v : Nat → Int32) : Nat → List Int32
  | 0 => L
  | n + 1 => (stF L j v n).set (j + n) (v n)
theorem stF_l {L : List Int32} {j : Nat} {v : Nat → Int32} : ∀ n, (stF L j v n).length = L.length
  | 0 => rfl
  | n + 1 => by
    show ((stF L j v n).set (j + n) (v n)).length = _
    rw [List.length_set, stF_l n]
theorem st_16 (v : Nat → Int32) (a b c d : Int32) : ((((stF (List.replicate 20 (0 : Int32)) 0 v 16).set 16 a).set 17 b).set 18 c).set 19 d = [v 0, v 1, v 2, v 3, v 4, v 5, v 6, v 7, v 8, v 9, v 10, v 11, v 12, v 13, v 14, v 15, a, b, c, d] := by simp [stF, List.replicate]
theorem st_04 (v w : Nat → Int32) (a b c d e f : Int32) : ((((stF (stF ((((List.replicate 20 (0 : Int32)).set 1 2).set 2 a).set 3 b) 4 v 4) 8 w 4).set 16 c).set 17 d).set 18 e).set 19 f = [0, 2, a, b, v 0, v 1, v 2, v 3, w 0, w 1, w 2, w 3, 0, 0, 0, 0, c, d, e, f] := rfl
theorem bn_8 (x : Int64) : bnL x 8 = [abB x 7, abB x 6, abB x 5, abB x 4, abB x 3, abB x 2, abB x 1, abB x 0] := rfl
def adV (h l : Int64) (k : Nat) : Int32 := abB (if k < 8 then h else l) (7 - k % 8)
theorem adV_l (h l : Int64) : [adV h l 0, adV h l 1, adV h l 2, adV h l 3, adV h l 4, adV h l 5, adV h l 6, adV h l 7] = [abB h 7, abB h 6, abB h 5, abB h 4, abB h 3, abB h 2, abB h 1, abB h 0] := rfl
theorem adV_r (h l : Int64) : [adV h l 8, adV h l 9, adV h l 10, adV h l 11, adV h l 12, adV h l 13, adV h l 14, adV h l 15] = [abB l 7, abB l 6, abB l 5, abB l 4, abB l 3, abB l 2, abB l 1, abB l 0] := rfl
theorem eB_1 {e : En} (h1 : e.2.2.1 &&& 255 = e.2.2.1) (h2 : e.2.2.2.1 &&& 255 = e.2.2.2.1) : eB 1 e = ((((stF (List.replicate 20 (0 : Int32)) 0 (adV e.1 e.2.1) 16).set 16 ((e.2.2.2.2 >>> ((8 : Int32) &&& 31)) &&& 255)).set 17 (e.2.2.2.2 &&& 255)).set 18 e.2.2.1).set 19 e.2.2.2.1 := by
  rw [st_16]
  unfold eB
  rw [if_neg (by decide), bn_2, h1, h2, bn_8, bn_8, ← adV_l e.1 e.2.1, ← adV_r e.1 e.2.1]
  rfl
theorem b_4 (y : Int64) : bnL (ush_L y 32) 4 = [adV y 0 0, adV y 0 1, adV y 0 2, adV y 0 3] := by
  have e : bnL (ush_L y 32) 4 = [abB y 7, abB y 6, abB y 5, abB y 4] := by
    show [abB (ush_L y 32) 3, abB (ush_L y 32) 2, abB (ush_L y 32) 1, abB (ush_L y 32) 0] = _
    rw [ab_32 y 3 (by decide), ab_32 y 2 (by decide), ab_32 y 1 (by decide), ab_32 y 0 (by decide)]
  rw [e]
  rfl
theorem eB_0 {e : En} {mt : Nat} (hm : e.2.2.2.1 = nI mt) (h16 : mt ≤ 16) : eB 0 e = ((((stF (stF ((((List.replicate 20 (0 : Int32)).set 1 2).set 2 ((e.2.2.2.2 >>> ((8 : Int32) &&& 31)) &&& 255)).set 3 (e.2.2.2.2 &&& 255)) 4 (adV e.1 0) 4) 8 (adV (mskH e.2.2.1) 0) 4).set 16 (((e.2.2.2.1 >>> ((16 : Int32) &&& 31)) >>> ((8 : Int32) &&& 31)) &&& 255)).set 17 ((e.2.2.2.1 >>> ((16 : Int32) &&& 31)) &&& 255)).set 18 ((e.2.2.2.1 >>> ((8 : Int32) &&& 31)) &&& 255)).set 19 (e.2.2.2.1 &&& 255) := by
  have e8 : ∀ m : Fin 17, bnL (nI m.1).toInt64 8 = [0, 0, 0, 0, ((nI m.1 >>> ((16 : Int32) &&& 31)) >>> ((8 : Int32) &&& 31)) &&& 255, (nI m.1 >>> ((16 : Int32) &&& 31)) &&& 255, (nI m.1 >>> ((8 : Int32) &&& 31)) &&& 255, nI m.1 &&& 255] := by decide +kernel
  rw [st_04]
  unfold eB
  rw [if_pos rfl, bn_2, b_4, b_4, hm, e8 ⟨mt, by omega⟩, show bnL 2 2 = [0, 2] by decide]
  rfl
section Le
variable {t0 t : moS} {F : Nat → Int32} {a j : Nat} {L : List Int32}
theorem lb_w {v : Int32} (h : LB t0 t F a L) (hj : j < L.length) (ha : a + L.length ≤ 700) : ∃ t', wrI t 146 (nI (a + j)) v = some t' ∧ LB t0 t' F a (L.set j v) := by
  obtain ⟨h1, h2, h3⟩ := h
  refine ⟨moSI t 146 (a + j) v, wrI_n h2 (by omega) (by decide), h1.tr (mfr.si (by decide)), h2, fun i hi => ?_⟩
  rw [moSI_s]
  unfold cpF
  rw [List.length_set]
  by_cases c : i = a + j
  · rw [c, upd_s, if_pos (by omega), show a + j - a = j by omega, List.getD_eq_getElem?_getD, List.getElem?_set_self hj]
    rfl
  · rw [upd_n c, h3 i hi]
    unfold cpF
    by_cases c2 : a ≤ i ∧ i < a + L.length
    · rw [if_pos c2, if_pos c2, List.getD_eq_getElem?_getD, List.getD_eq_getElem?_getD, List.getElem?_set_ne (by omega)]
    · rw [if_neg c2, if_neg c2]
theorem lb_2 {v : Int32} (h : LB t0 t F a L) (hj : j + 1 < L.length) (ha : a + L.length ≤ 700) : ∃ t', M_put2 t 146 (nI (a + j)) v = some t' ∧ LB t0 t' F a ((L.set j ((v >>> ((8 : Int32) &&& 31)) &&& 255)).set (j + 1) (v &&& 255)) := by
  obtain ⟨t1, e1, l1⟩ := lb_w (v := (v >>> ((8 : Int32) &&& 31)) &&& 255) h (show j < L.length by omega) ha
  obtain ⟨t2, e2, l2⟩ := lb_w (v := v &&& 255) (j := j + 1) l1 (by rw [List.length_set]; exact hj) (by rw [List.length_set]; exact ha)
  refine ⟨t2, ?_, l2⟩
  unfold M_put2
  rw [e1]
  show Option.bind (wrI t1 146 (nI (a + j) + 1) (v &&& 255)) _ = _
  rw [nI_1, show a + j + 1 = a + (j + 1) by omega, e2]
  rfl
theorem lb_4 {v : Int32} (h : LB t0 t F a L) (hj : j + 3 < L.length) (ha : a + L.length ≤ 700) : ∃ t', M_put4 t 146 (nI (a + j)) v = some t' ∧ LB t0 t' F a ((((L.set j (((v >>> ((16 : Int32) &&& 31)) >>> ((8 : Int32) &&& 31)) &&& 255)).set (j + 1) ((v >>> ((16 : Int32) &&& 31)) &&& 255)).set (j + 2) ((v >>> ((8 : Int32) &&& 31)) &&& 255)).set (j + 3) (v &&& 255)) := by
  obtain ⟨t1, e1, l1⟩ := lb_2 (v := v >>> ((16 : Int32) &&& 31)) (j := j) h (by omega) ha
  obtain ⟨t2, e2, l2⟩ := lb_2 (v := v) (j := j + 2) l1 (by rw [List.length_set, List.length_set]; omega) (by rw [List.length_set, List.length_set]; exact ha)
  refine ⟨t2, ?_, l2⟩
  unfold M_put4
  rw [e1]
  show Option.bind (M_put2 t1 146 (nI (a + j) + 2) v) _ = _
  rw [show nI (a + j) + 2 = nI (a + (j + 2)) by rw [show (2 : Int32) = nI 2 from rfl, nI_add]; congr 1, e2]
  rfl
theorem lb_A {f : Int32} {h' l' : Int64} (h : LB t0 t F a L) (hf : bit f) (hj : j + (if f = 0 then 4 else 16) ≤ L.length) (ha : a + L.length ≤ 700) : ∃ t', M_putAddress t 146 (nI (a + j)) f h' l' = some t' ∧ LB t0 t' F a (stF L j (adV h' l') (if f = 0 then 4 else 16)) := by
  generalize hn : (if f = 0 then 4 else 16) = n at hj
  have hn16 : n ≤ 16 := by rw [← hn]; split <;> omega
  have loop : ∀ m k, k + m = n → ∀ t1, LB t0 t1 F a (stF L j (adV h' l') k) → ∃ t', lp (fun x : Int32 × moS => M_putAddress_s3 x.2 146 (nI (a + j)) f h' l' x.1) (nI k, t1) = some t' ∧ LB t0 t' F a (stF L j (adV h' l') n) := by
    intro m
    induction m with
    | zero =>
      intro k hk t1 l1
      have hk : k = n := by omega
      subst hk
      refine ⟨t1, lp_x ?_, l1⟩
      show M_putAddress_s3 t1 146 (nI (a + j)) f h' l' (nI k) = _
      unfold M_putAddress_s3 M_putAddress_b15
      rcases hf with rfl | rfl
      · rw [if_pos rfl] at hn ⊢
        rw [← hn, if_neg (by decide)]
      · rw [if_neg (by decide)] at hn ⊢
        rw [← hn, if_neg (by decide)]
    | succ m ih =>
      intro k hk t1 l1
      obtain ⟨t2, e2, l2⟩ := lb_w (v := adV h' l' k) (j := j + k) l1 (by rw [stF_l]; omega) (by rw [stF_l]; exact ha)
      have b37 : ∀ u, u = (if k < 8 then h' else l') → M_putAddress_b37 t1 146 (nI (a + j)) f h' l' (nI k) (nI (a + j) + nI k) u = some (.inl (nI (k + 1), t2)) := by
        intro u hu
        unfold M_putAddress_b37
        rw [ab_m u k (by omega), hu, show abB (if k < 8 then h' else l') (7 - k % 8) = adV h' l' k from rfl, nI_add, show a + j + k = a + (j + k) by omega, e2, nI_1]
        rfl
      have st : M_putAddress_s3 t1 146 (nI (a + j)) f h' l' (nI k) = some (.inl (nI (k + 1), t2)) := by
        unfold M_putAddress_s3 M_putAddress_b15
        have go : ∀ y, n = y → y ≤ 16 → (if nI k < nI y then (if nI k < (8 : Int32) then ((M_putAddress_b37 t1 146 (nI (a + j)) f h' l' (nI k) (nI (a + j) + nI k) h')) else ((M_putAddress_b37 t1 146 (nI (a + j)) f h' l' (nI k) (nI (a + j) + nI k) l'))) else ((xo ((some t1))))) = some (.inl (nI (k + 1), t2)) := by
          intro y hy hy2
          rw [if_pos (nI_lt (by omega) (by omega))]
          by_cases c8 : k < 8
          · rw [if_pos (show nI k < 8 from nI_lt (b := 8) c8 (by decide))]
            exact b37 _ (if_pos c8).symm
          · rw [if_neg (show ¬ nI k < 8 from nI_nlt (b := 8) (by omega) (by omega))]
            exact b37 _ (if_neg c8).symm
        rcases hf with rfl | rfl
        · rw [if_pos rfl] at hn ⊢
          exact go 4 hn.symm (by decide)
        · rw [if_neg (by decide)] at hn ⊢
          exact go 16 hn.symm (by decide)
      obtain ⟨t', q1, q2⟩ := ih (k + 1) (by omega) t2 l2
      exact ⟨t', (lp_l (f := fun x : Int32 × moS => M_putAddress_s3 x.2 146 (nI (a + j)) f h' l' x.1) (x := (nI k, t1)) st).trans q1, q2⟩
  exact loop n 0 (by omega) t h
theorem lb_r {t1 : moS} (h : LB t0 t1 F a L) {k : Nat} (hk : k ≠ 146) : t1.I k = t0.I k ∧ t1.J k = t0.J k := ⟨h.1.I k (by simpa using hk), h.1.J k (by simpa using hk)⟩
theorem m_lay {f : Int32} {k : Nat} {e : En} (hN : mN t) (hf : bit f) (ha : a + 20 ≤ 700) (hk : k < 2800) (he : enV t k = e) (ho : eOk f e) : ∃ t', M_layEntry t f (nI a) (nI k) = some t' ∧ LB t t' (t.I 146) a (eB f e) := by
  have n6 : t.N 146 = 700 := n146 hN
  have e140 : t.J 140 k = e.1 := by rw [← he]; rfl
  have e141 : t.J 141 k = e.2.1 := by rw [← he]; rfl
  have e142 : t.I 142 k = e.2.2.1 := by rw [← he]; rfl
  have e143 : t.I 143 k = e.2.2.2.1 := by rw [← he]; rfl
  have e144 : t.I 144 k = e.2.2.2.2 := by rw [← he]; rfl
  obtain ⟨ho1, ⟨mt, emt, hm1, hm2⟩, -⟩ := ho
  have rd : ∀ {t1 : moS} {L : List Int32}, LB t t1 (t.I 146) a L → (∀ g v, g ∈ [142, 143, 144] → t.I g k = v → rdI t1 g (nI k) = some v) ∧ ∀ g v, g ∈ [140, 141] → t.J g k = v → rdJ t1 g (nI k) = some v := fun {t1 L} h1 => by
    have hN1 : mN t1 := hN.fr h1.1 rfl
    refine ⟨fun g v hg hv => ?_, fun g v hg hv => ?_⟩
    · have : g ≠ 146 := fun z => by rw [z] at hg; exact absurd hg (by decide)
      rw [← hv, ← (lb_r h1 this).1]
      refine rdI_n (n := 2800) (n14 hN1 g ?_) hk (by decide)
      revert hg
      simp only [List.mem_cons, List.not_mem_nil, or_false]
      omega
    · have : g ≠ 146 := fun z => by rw [z] at hg; exact absurd hg (by decide)
      rw [← hv, ← (lb_r h1 this).2]
      refine rdJ_n (n := 2800) (n14 hN1 g ?_) hk (by decide)
      revert hg
      simp only [List.mem_cons, List.not_mem_nil, or_false]
      omega
  -- what stands behind the zeros
  have fin : ∀ t1, LB t t1 (t.I 146) a (List.replicate 20 0) → ∃ t', M_layEntry_s3 t1 f (nI a) (nI k) (nI 20) = xo (some t') ∧ LB t t' (t.I 146) a (eB f e) := by
    intro t1 l1
    rcases hf with rfl | rfl
    · obtain ⟨t2, q2, l2⟩ := lb_w (v := 2) (j := 1) l1 (by decide) (by exact ha)
      obtain ⟨t3, q3, l3⟩ := lb_2 (v := e.2.2.2.2) (j := 2) l2 (by simp) (by simpa using ha)
      obtain ⟨t4, q4, l4⟩ := lb_A (f := 0) (h' := e.1) (l' := 0) (j := 4) l3 (Or.inl rfl) (by simp) (by simpa using ha)
      obtain ⟨t5, q5, l5⟩ := lb_A (f := 0) (h' := mskH e.2.2.1) (l' := 0) (j := 8) l4 (Or.inl rfl) (by simp [stF_l]) (by simpa [stF_l] using ha)
      obtain ⟨t6, q6, l6⟩ := lb_4 (v := e.2.2.2.1) (j := 16) l5 (by simp [stF_l]) (by simpa [stF_l] using ha)
      refine ⟨t6, ?_, ?_⟩
      · unfold M_layEntry_s3
        rw [if_neg (by decide)]
        refine congrArg xo ?_
        rw [if_neg (by decide)]
        rw [show nI a + 1 = nI (a + 1) from nI_1 a, q2]
        simp only [Option.bind_some]
        rw [(rd l2).1 144 _ (by decide) e144]
        simp only [Option.bind_some]
        rw [show nI a + 2 = nI (a + 2) from nI_add a 2, q3]
        simp only [Option.bind_some]
        rw [(rd l3).2 140 _ (by decide) e140]
        simp only [Option.bind_some]
        rw [show nI a + 4 = nI (a + 4) from nI_add a 4, q4]
        simp only [Option.bind_some]
        rw [(rd l4).1 142 _ (by decide) e142]
        simp only [Option.bind_some]
        rw [show nI a + 8 = nI (a + 8) from nI_add a 8, show M_maskHigh e.2.2.1 = mskH e.2.2.1 from rfl, q5]
        simp only [Option.bind_some]
        rw [(rd l5).1 143 _ (by decide) e143]
        simp only [Option.bind_some]
        rw [show nI a + 16 = nI (a + 16) from nI_add a 16, q6]
        rfl
      · rw [eB_0 emt hm2]
        exact l6
    · obtain ⟨t2, q2, l2⟩ := lb_A (f := 1) (h' := e.1) (l' := e.2.1) (j := 0) l1 (Or.inr rfl) (by decide) (by exact ha)
      obtain ⟨t3, q3, l3⟩ := lb_2 (v := e.2.2.2.2) (j := 16) l2 (by simp [stF_l]) (by simpa [stF_l] using ha)
      obtain ⟨t4, q4, l4⟩ := lb_w (v := e.2.2.1) (j := 18) l3 (by simp [stF_l]) (by simpa [stF_l] using ha)
      obtain ⟨t5, q5, l5⟩ := lb_w (v := e.2.2.2.1) (j := 19) l4 (by simp [stF_l]) (by simpa [stF_l] using ha)
      refine ⟨t5, ?_, ?_⟩
      · unfold M_layEntry_s3
        rw [if_neg (by decide)]
        refine congrArg xo ?_
        rw [if_pos rfl]
        rw [(rd l1).2 140 _ (by decide) e140, (rd l1).2 141 _ (by decide) e141]
        simp only [Option.bind_some]
        rw [show nI a = nI (a + 0) from rfl, q2]
        simp only [Option.bind_some]
        rw [(rd l2).1 144 _ (by decide) e144]
        simp only [Option.bind_some]
        rw [show nI (a + 0) + 16 = nI (a + 16) from nI_add a 16, q3]
        simp only [Option.bind_some]
        rw [(rd l3).1 142 _ (by decide) e142]
        simp only [Option.bind_some]
        rw [show nI (a + 0) + 18 = nI (a + 18) from nI_add a 18, q4]
        simp only [Option.bind_some]
        rw [(rd l4).1 143 _ (by decide) e143]
        simp only [Option.bind_some]
        rw [show nI (a + 0) + 19 = nI (a + 19) from nI_add a 19, q5]
        rfl
      · obtain ⟨ln, eln, hln⟩ := ho1.n
        have m8 : ∀ m : Fin 129, nI m.1 &&& 255 = nI m.1 := by decide +kernel
        rw [eB_1 (by rw [eln]; exact m8 ⟨ln, by omega⟩) (by rw [emt]; exact m8 ⟨mt, by omega⟩)]
        exact l5
  have loop : ∀ m j, j + m = 20 → ∀ t1, mfr [146] t t1 → (∀ i, i < 700 → t1.I 146 i = cpF (t.I 146) a (List.replicate j 0) i) → ∃ t', lp (fun x : Int32 × moS => M_layEntry_s3 x.2 f (nI a) (nI k) x.1) (nI j, t1) = some t' ∧ LB t t' (t.I 146) a (eB f e) := by
    intro m
    induction m with
    | zero =>
      intro j hj t1 m1 h1
      have hj : j = 20 := by omega
      subst hj
      have n61 : t1.N 146 = 700 := n146 (hN.fr m1 rfl)
      obtain ⟨t', q1, q2⟩ := fin t1 ⟨m1, n61, h1⟩
      exact ⟨t', lp_x (f := fun x : Int32 × moS => M_layEntry_s3 x.2 f (nI a) (nI k) x.1) (x := (nI 20, t1)) q1, q2⟩
    | succ m ih =>
      intro j hj t1 m1 h1
      have n61 : t1.N 146 = 700 := n146 (hN.fr m1 rfl)
      have st : M_layEntry_s3 t1 f (nI a) (nI k) (nI j) = some (.inl (nI (j + 1), moSI t1 146 (a + j) 0)) := by
        unfold M_layEntry_s3
        rw [if_pos (show nI j < 20 from nI_lt (b := 20) (by omega) (by decide)), nI_add, nI_1]
        exact (sw_I n61 (by omega) (by decide)).trans rfl
      obtain ⟨t', q1, q2⟩ := ih (j + 1) (by omega) (moSI t1 146 (a + j) 0) (m1.tr (mfr.si (by decide))) fun i hi => by
        rw [moSI_s]
        unfold cpF
        rw [List.length_replicate]
        by_cases c : i = a + j
        · rw [c, upd_s, if_pos (by omega), List.getD_eq_getElem?_getD, List.getElem?_replicate_of_lt (by omega)]
          rfl
        · rw [upd_n c, h1 i hi]
          unfold cpF
          rw [List.length_replicate]
          by_cases c2 : a ≤ i ∧ i < a + j
          · rw [if_pos c2, if_pos (by omega), List.getD_eq_getElem?_getD, List.getElem?_replicate_of_lt (by omega), List.getD_eq_getElem?_getD, List.getElem?_replicate_of_lt (by omega)]
          · rw [if_neg c2, if_neg (by omega)]
      exact ⟨t', (lp_l (f := fun x : Int32 × moS => M_layEntry_s3 x.2 f (nI a) (nI k) x.1) (x := (nI j, t1)) st).trans q1, q2⟩
  refine loop 20 0 rfl t mfr.rf fun i hi => ?_
  unfold cpF
  rw [if_neg]
  rintro ⟨h1, h2⟩
  have : (List.replicate 0 (0 : Int32)).length = 0 := rfl
  omega
end Le
