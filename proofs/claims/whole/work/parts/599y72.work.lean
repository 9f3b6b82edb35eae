/-! Digests in the class: bytes and secrets come into the work; the sum's bytes. -/
theorem xor54 : ∀ j, j < 128 → (nI j ^^^ 54) &&& 255 = nI j ^^^ 54 ∧ (nI j ^^^ 92) &&& 255 = nI j ^^^ 92 ∧ nI j ^^^ 0 = nI j := by decide +kernel
theorem sh_ix : ∀ k, k < 20 → nI k >>> ((2 : Int32) &&& 31) = nI (k / 4) ∧ nI k &&& 3 = nI (k % 4) := by decide +kernel
/-- a logical shift and an arithmetical one have the same low byte -/
theorem ush_k (p c d : Int32) (k : Nat) (hk : k + 8 ≤ 32) (hd : (d.toUInt32 &&& Int32.toUInt32 31).toNat % 32 = k) (hc : (c.toBitVec.smod 32).toNat = k) : ush_I p d &&& 255 = (p >>> c) &&& 255 := by
  have e1 : (p >>> c).toBitVec = p.toBitVec.sshiftRight k := by
    rw [Int32.toBitVec_shiftRight, ← hc]; rfl
  have e2 : (ush_I p d).toBitVec = p.toBitVec >>> k := by
    apply BitVec.eq_of_toNat_eq
    show (p.toUInt32 >>> (d.toUInt32 &&& Int32.toUInt32 31)).toNat = _
    rw [UInt32.toNat_shiftRight, hd, BitVec.toNat_ushiftRight]
    rfl
  have e5 : ∀ i, i < 32 → (255#32).getLsbD i = decide (i < 8) := by decide
  refine Int32.toBitVec_inj.mp (BitVec.eq_of_getLsbD_eq fun i hi => ?_)
  rw [Int32.toBitVec_and, Int32.toBitVec_and, e1, e2]
  show (_ &&& 255#32).getLsbD i = (_ &&& 255#32).getLsbD i
  rw [BitVec.getLsbD_and, BitVec.getLsbD_and, e5 i hi]
  by_cases c8 : i < 8
  · rw [BitVec.getLsbD_ushiftRight, BitVec.getLsbD_sshiftRight]
    have a1 : i < 32 := hi
    have a3 : k + i < 32 := by omega
    have a4 : ¬ 32 ≤ i := by omega
    simp [a1, a3, a4]
  · simp [c8]
theorem ush_b (x : Int32) : ∀ j, j < 4 → ush_I x (8 * nI j) &&& 255 = (x >>> ((8 * nI j) &&& 31)) &&& 255 := by
  intro j hj
  rcases (show j = 0 ∨ j = 1 ∨ j = 2 ∨ j = 3 by omega) with rfl | rfl | rfl | rfl
  · exact ush_k x _ _ 0 (by decide) (by decide) (by decide)
  · exact ush_k x _ _ 8 (by decide) (by decide) (by decide)
  · exact ush_k x _ _ 16 (by decide) (by decide) (by decide)
  · exact ush_k x _ _ 24 (by decide) (by decide) (by decide)
theorem ush_b4 (x : Int32) : ∀ j, j < 4 → ush_I x (24 - 8 * nI j) &&& 255 = (x >>> ((24 - 8 * nI j) &&& 31)) &&& 255 := by
  intro j hj
  rcases (show j = 0 ∨ j = 1 ∨ j = 2 ∨ j = 3 by omega) with rfl | rfl | rfl | rfl
  · exact ush_k x _ _ 24 (by decide) (by decide) (by decide)
  · exact ush_k x _ _ 16 (by decide) (by decide) (by decide)
  · exact ush_k x _ _ 8 (by decide) (by decide) (by decide)
  · exact ush_k x _ _ 0 (by decide) (by decide) (by decide)
/-- a key of a chain -/
def KY (c kx : Nat) (sha : Int32) (y : List Int32) (s : cS) : Prop := (kx < 4 ∧ secOk y ∧ bit sha) ∧ ∃ T4 T7 w, (s.P 24 c = some T4 ∧ s.K T4 = (110, 4) ∧ s.E T4 kx = if sha = 0 then 16 else 20) ∧ s.P 27 c = some T7 ∧ s.K T7 = (142, 4) ∧ s.Q T7 kx = some w ∧ s.K w = (126, 16) ∧ ∀ i, i < 16 → s.E w i = y.getD i 0
section Cj
variable {sa : Nat → Nat} {c W S V kc ks n kx : Nat} {s0 s : cS} {Q : cS → Nat → Nat → Prop} {B : Nat → Int32} {sha : Int32} {y : List Int32}
theorem DW.e {a : Nat} (h : DW c W S V s0 s) (ha : (s0.K a).1 ≠ 127 ∧ (s0.K a).1 ≠ 113 ∧ (s0.K a).1 ≠ 119) : s.E a = s0.E a := by
  obtain ⟨o, k, i, e⟩ := h
  refine e a (fun z => ha.1 ?_) (fun z => ha.2.1 ?_) (fun z => ha.2.2 ?_)
  · rw [z, o.2.2.2.2.1]
  · rw [z, o.2.2.2.2.2.1]
  · rw [z, o.2.2.2.2.2.2]
theorem KY.dw (hk : KY c kx sha y s0) (h : DW c W S V s0 s) : KY c kx sha y s := by
  obtain ⟨h0, T4, T7, w, ⟨a1, a2, a3⟩, b1, b2, b3, b4, b5⟩ := hk
  obtain ⟨k1, k2, k3, k4⟩ := h.2.1
  refine ⟨h0, T4, T7, w, ⟨by rw [k2]; exact a1, by rw [k1]; exact a2, ?_⟩, by rw [k2]; exact b1, by rw [k1]; exact b2, by rw [k3]; exact b3, by rw [k1]; exact b4, fun i hi => ?_⟩
  · rw [h.e (by rw [a2]; decide)]; exact a3
  · rw [h.e (by rw [b4]; decide)]; exact b5 i hi
/-- only the work's bytes are others -/
theorem DW.w {s' : cS} (h : DW c W S V s0 s) (f : fe W s s') : DW c W S V s0 s' := by
  obtain ⟨o, ⟨k1, k2, k3, k4⟩, i, e⟩ := h
  obtain ⟨g1, g2, g3, g4, g5, g6⟩ := f
  exact ⟨o, ⟨g1.trans k1, g2.trans k2, g4.trans k3, g3.trans k4⟩, fun g a z => by rw [g5]; exact i g a z, fun a z1 z2 z3 => (g6 a z1).trans (e a z1 z2 z3)⟩
/-- a row's beginning comes into another -/
theorem cpG {a b u v ca cb m dp : Nat} {f : cS → Prop} (ha : s.K a = (u, ca)) (hb : s.K b = (v, cb)) (hu : 100 ≤ u ∧ u < 130 ∧ cAT u = .byte) (hv : 100 ≤ v ∧ v < 130 ∧ cAT v = .byte) (h1 : m ≤ ca) (h2 : dp + m ≤ cb) (h3 : cb < 2 ^ 31) (hf : ∀ i, i < m → fits .byte (.int (s.E a i)) = true) (k : ∀ s', fe b s s' → (∀ i, i < m → s'.E b (dp + i) = s.E a i) → (∀ i, i < dp → s'.E b i = s.E b i) → f s') : ob (cpE s a 0 b (nI dp) (nI m)) f := by
  have en : (nI dp).toNatClampNeg = dp := nI_clamp (by omega)
  have em : (nI m).toNatClampNeg = m := nI_clamp (by omega)
  refine ⟨_, gd_to ⟨by rw [ha]; exact ⟨hu.1, hu.2.1⟩, by rw [hb]; exact ⟨hv.1, hv.2.1⟩, by rw [ha, hb]; exact hv.2.2.trans hu.2.2.symm, by decide, nI_pos (by omega), nI_pos (by omega), by rw [em, ha]; show 0 + m ≤ ca; omega, by rw [em, en, hb]; exact h2, fun i hi => ?_⟩, k _ ⟨rfl, rfl, rfl, rfl, rfl, fun c hc => if_neg hc⟩ (fun i hi => ?_) fun i hi => ?_⟩
  · rw [em] at hi
    rw [ha, hu.2.2]
    show fits .byte (.int (s.E a (0 + i))) = true
    rw [Nat.zero_add]; exact hf i hi
  · show (if b = b then va_cpy (s.E a) (s.E b) 0 (nI dp).toNatClampNeg (nI m).toNatClampNeg else s.E b) (dp + i) = _
    rw [if_pos rfl, en, em]
    show (if dp ≤ dp + i ∧ dp + i < dp + m then s.E a (0 + (dp + i - dp)) else _) = _
    rw [if_pos (by omega), show 0 + (dp + i - dp) = i by omega]
  · show (if b = b then va_cpy (s.E a) (s.E b) 0 (nI dp).toNatClampNeg (nI m).toNatClampNeg else s.E b) i = _
    rw [if_pos rfl, en, em]
    show (if dp ≤ i ∧ i < dp + m then _ else s.E b i) = _
    rw [if_neg (by omega)]
theorem c_addW {d w cap m : Nat} {L : List Int32} (h : DW c W S V s0 s) (h29 : s.I 29 c = nI n) (hw : 100 ≤ w ∧ w < 130 ∧ cAT w = .byte) (hd : s.K d = (w, cap)) (hm : m ≤ cap ∧ cap ≤ 8192) (hnm : n + m ≤ 792) (hL : ∀ i, i < m → s.E d i = sb (L.getD i 0)) (k : ∀ s', DW c W S V s0 s' → s'.E S = s.E S → s'.I 29 c = nI (n + m) → (∀ i, i < n → s'.E W i = s.E W i) → (∀ i, i < m → s'.E W (n + i) = sb (L.getD i 0)) → Q s' kc ks) : C_Ch_addWork sa c (some d) (nI m) s kc ks Q := by
  have ho := h.o
  have o1 := ho.1
  obtain ⟨n1, n2, n3⟩ := ho.ne
  have hK := ho.2.2.2.2.1
  unfold C_Ch_addWork
  refine ⟨d, rfl, _, gd_to ⟨by rw [hd]; exact hw.1, by rw [hd]; exact Nat.lt_trans hw.2.1 (by decide)⟩, ?_⟩
  rw [hd]
  refine ifF (nI_nlt hm.1 (by omega)) ⟨_, gd_to o1, _, gd_to o1, W, ho.2.1, _, gd_to ⟨by rw [hK]; decide, by rw [hK]; decide⟩, ?_⟩
  rw [show s.I (20 * 1 + 9) c = nI n from h29, nI_add, hK]
  refine ifF (nI_nlt (a := 792) hnm (by decide)) ⟨_, gd_to o1, _, gd_to o1, W, ho.2.1, ?_⟩
  rw [show s.I (20 * 1 + 9) c = nI n from h29]
  refine cpG hd hK hw (by decide) hm.1 hnm (by decide) (fun i hi => by rw [hL i hi]; exact sb_fit _) fun s1 f1 e1 e2 => ?_
  have h1 := h.w f1
  have e29 : s1.I (20 * 1 + 9) c = nI n := by rw [f1.2.2.2.2.1]; exact h29
  refine ⟨_, gd_to h1.o.1, _, gd_to h1.o.1, ?_⟩
  rw [e29, nI_add]
  refine k _ h1.si ?_ cSI_s (fun i hi => e2 i hi) fun i hi => (e1 i hi).trans (hL i hi)
  exact f1.2.2.2.2.2 S (fun e => n1 e.symm)
/-- a key's secret, changed, comes into the work -/
theorem c_addS {ch : Int32} {m : Nat} (h : DW c W S V s0 s) (hk : KY c kx sha y s0) (h29 : s.I 29 c = nI n) (hm : n + m ≤ 792) (k : ∀ s', DW c W S V s0 s' → s'.E S = s.E S → s'.I 29 c = nI (n + m) → (∀ i, i < n → s'.E W i = s.E W i) → (∀ i, i < m → s'.E W (n + i) = sb (y.getD i 0 ^^^ ch)) → Q s' kc ks) : C_Ch_addSecret sa c (nI kx) ch (nI m) s kc ks Q := by
  unfold C_Ch_addSecret C_Ch_addSecret_b3
  intro P hP
  have loop : ∀ m' j s2, j + m' = m → DW c W S V s0 s2 → s2.E S = s.E S → s2.I 29 c = nI (n + j) → (∀ i, i < n → s2.E W i = s.E W i) → (∀ i, i < j → s2.E W (n + i) = sb (y.getD i 0 ^^^ ch)) → P (nI j) s2 kc ks := by
    intro m'
    induction m' with
    | zero =>
      intro j s2 hj h2 d1 d2 d3 d4
      have hj : j = m := by omega
      subst hj
      apply hP
      unfold C_Ch_addSecret_s3
      exact ifF (nI_nlt (Nat.le_refl _) (by omega)) (k s2 h2 d1 d2 d3 d4)
    | succ m' ih =>
      intro j s2 hj h2 d1 d2 d3 d4
      have ho := h2.o
      have o1 := ho.1
      obtain ⟨n1, n2, n3⟩ := ho.ne
      have hK := ho.2.2.2.2.1
      obtain ⟨⟨hk4, hsy, -⟩, T4, T7, w, -, b1, b2, b3, b4, b5⟩ := hk.dw h2
      have last : ∀ u : Int32, u = y.getD j 0 → C_Ch_addSecret_b49 sa c (nI kx) ch (nI m) (nI j) (s2.P (20 * 1 + 8) c) (nI (n + j)) u s2 kc ks Q P := by
        intro u hu
        unfold C_Ch_addSecret_b49
        refine ⟨W, ho.2.1, _, gd_to (ho.aW (by omega)), _, gd_to o1.se, ?_⟩
        rw [nI_clamp (show n + j < 2 ^ 31 by omega), show ∀ v, (cSE s2 W (n + j) v).I (20 * 1 + 9) c = nI (n + j) from fun _ => d2]
        refine ⟨_, gd_to o1.se, ?_⟩
        rw [nI_1, nI_1]
        refine ih (j + 1) _ (by omega) (h2.se (Or.inl rfl)).si ?_ cSI_s (fun i hi => ?_) fun i hi => ?_
        · show (cSE s2 W _ _).E S = _
          rw [cSE_a (fun e => n1 e.symm)]; exact d1
        · show (cSE s2 W (n + j) _).E W i = _
          rw [cSE_i (by omega)]; exact d3 i hi
        · show (cSE s2 W (n + j) _).E W (n + i) = _
          by_cases z : i = j
          · rw [z, cSE_v, hu]
            show sb (sb _) = _
            rw [sb_sb]
          · rw [cSE_i (by omega)]; exact d4 i (by omega)
      apply hP
      unfold C_Ch_addSecret_s3
      refine ifT (nI_lt (by omega) (by omega)) ⟨_, gd_to o1, _, gd_to o1, W, ho.2.1, _, gd_to ⟨by rw [hK]; decide, by rw [hK]; decide⟩, ?_⟩
      rw [show s2.I (20 * 1 + 9) c = nI (n + j) from d2, hK]
      refine ifT (nI_lt (b := 792) (by omega) (by decide)) ⟨_, gd_to o1, _, gd_to o1, ?_⟩
      rw [show s2.I (20 * 1 + 9) c = nI (n + j) from d2]
      by_cases c16 : j < 16
      · refine ifT (nI_lt (b := 16) c16 (by decide)) ⟨_, gd_to o1, T7, b1, _, gd_to ⟨by rw [b2]; decide, by rw [b2]; decide, by rw [b2]; exact vp_in_nI hk4 (by decide)⟩, w, by rw [nI_clamp (by omega)]; exact b3, _, gd_to ⟨by rw [b4]; decide, by rw [b4]; decide, by rw [b4]; decide, by rw [b4]; exact vp_in_nI c16 (by decide)⟩, ?_⟩
        rw [nI_clamp (show j < 2 ^ 31 by omega)]
        exact last _ (b5 j c16)
      · refine ifF (nI_nlt (b := 16) (by omega) (by omega)) (last 0 ?_)
        rw [List.getD_eq_getElem?_getD, List.getElem?_eq_none (by have := hsy.2.1; omega)]; rfl
  exact loop m 0 s (by omega) h rfl h29 (fun _ _ => rfl) fun i hi => absurd hi (Nat.not_lt_zero i)
theorem c_sby {k : Nat} {Q : Int32 → cS → Nat → Nat → Prop} (h : DW c W S V s0 s) (hk : KY c kx sha y s0) (hk' : k < 20) (q : Q (sbB sha (cst s S) k) s kc ks) : C_Ch_sumByte sa c (nI k) (nI kx) s kc ks Q := by
  have ho := h.o
  have o1 := ho.1
  obtain ⟨⟨hk4, hsy, hb⟩, T4, T7, w, ⟨a1, a2, a3⟩, -⟩ := hk.dw h
  obtain ⟨x1, x2⟩ := sh_ix k hk'
  have m4 : k % 4 < 4 := Nat.mod_lt _ (by decide)
  have d5 : k / 4 < 5 := by omega
  have eq : ∀ j, j < 5 → q5g (cst s S) j = s.E S j := fun j hj => by
    rcases (show j = 0 ∨ j = 1 ∨ j = 2 ∨ j = 3 ∨ j = 4 by omega) with rfl | rfl | rfl | rfl | rfl <;> rfl
  have last : ∀ u : Int32, ush_I (s.E S (k / 4)) u &&& 255 = sbB sha (cst s S) k → C_Ch_sumByte_b29 sa c (nI k) u s kc ks Q := by
    intro u hu
    unfold C_Ch_sumByte_b29
    refine ⟨_, gd_to o1, S, ho.2.2.1, ?_⟩
    rw [x1]
    refine ⟨_, gd_to (ho.aS d5), ?_⟩
    rw [nI_clamp (show k / 4 < 2 ^ 31 by omega)]
    show Q (ush_I (s.E S (k / 4)) u &&& 255) s kc ks
    rw [hu]
    exact q
  unfold C_Ch_sumByte
  refine ⟨_, gd_to o1, T4, a1, _, gd_to ⟨by rw [a2]; decide, by rw [a2]; decide, by rw [a2]; decide, by rw [a2]; exact vp_in_nI hk4 (by decide)⟩, ?_⟩
  rw [nI_clamp (show kx < 2 ^ 31 by omega), a3]
  by_cases z : sha = 0
  · rw [if_pos z, x2]
    refine ifT rfl (last _ ?_)
    unfold sbB
    rw [if_pos z, eq _ d5]
    exact ush_b _ _ m4
  · rw [if_neg z, x2]
    refine ifF (by decide) (last _ ?_)
    unfold sbB
    rw [if_neg z, eq _ d5]
    exact ush_b4 _ _ m4
end Cj
