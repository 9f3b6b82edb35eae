/-! feed and end. -/
theorem lay_k (p : Int32) (b : Int64) (c : Int32) (k : Nat) (hk : k + 8 ≤ 32) (h1 : b = p.toInt64) (d : Int32) (hd : (d.toInt64.toUInt64 &&& Int64.toUInt64 63).toNat % 64 = k) (hc : (c.toBitVec.smod 32).toNat = k) : (ush b d).toInt32 &&& 255 = (p >>> c) &&& 255 := by
  subst h1
  have e1 : (p >>> c).toBitVec = p.toBitVec.sshiftRight k := by
    rw [Int32.toBitVec_shiftRight, ← hc]; rfl
  have e2 : (ush p.toInt64 d).toBitVec = p.toInt64.toBitVec >>> k := by
    apply BitVec.eq_of_toNat_eq
    show (p.toInt64.toUInt64 >>> (d.toInt64.toUInt64 &&& Int64.toUInt64 63)).toNat = _
    rw [UInt64.toNat_shiftRight, hd, BitVec.toNat_ushiftRight]
    rfl
  have e3 : (ush p.toInt64 d).toInt32.toBitVec = (ush p.toInt64 d).toBitVec.signExtend 32 := rfl
  have e4 : p.toInt64.toBitVec = p.toBitVec.signExtend 64 := rfl
  have e5 : ∀ i, i < 32 → (255#32).getLsbD i = decide (i < 8) := by decide
  refine Int32.toBitVec_inj.mp (BitVec.eq_of_getLsbD_eq fun i hi => ?_)
  rw [Int32.toBitVec_and, Int32.toBitVec_and, e1, e3, e2, e4, BitVec.signExtend_eq_setWidth_of_le _ (by decide)]
  show (_ &&& 255#32).getLsbD i = (_ &&& 255#32).getLsbD i
  rw [BitVec.getLsbD_and, BitVec.getLsbD_and, e5 i hi]
  by_cases c8 : i < 8
  · rw [BitVec.getLsbD_setWidth, BitVec.getLsbD_ushiftRight, BitVec.getLsbD_signExtend, BitVec.getLsbD_sshiftRight]
    have a1 : i < 32 := hi
    have a2 : k + i < 64 := by omega
    have a3 : k + i < 32 := by omega
    have a4 : ¬ 32 ≤ i := by omega
    simp [a1, a2, a3, a4]
  · simp [c8]
theorem lay_b (p : Int32) : ∀ j, j < 4 → (ush_L p.toInt64 (nI (8 * j))).toInt32 &&& 255 = (p >>> (nI (8 * j) &&& 31)) &&& 255 := by
  intro j hj
  rcases (show j = 0 ∨ j = 1 ∨ j = 2 ∨ j = 3 by omega) with rfl | rfl | rfl | rfl
  · exact lay_k p _ _ 0 (by decide) rfl _ (by decide) (by decide)
  · exact lay_k p _ _ 8 (by decide) rfl _ (by decide) (by decide)
  · exact lay_k p _ _ 16 (by decide) rfl _ (by decide) (by decide)
  · exact lay_k p _ _ 24 (by decide) rfl _ (by decide) (by decide)
/-- the model's tape holds l -/
def TD (t0 t : moS) (l : List Int32) : Prop := t.S 3 = nI l.length ∧ l.length ≤ 4096 ∧ t.N 2 = 4096 ∧ (∀ i, i < l.length → t.I 2 i = l.getD i 0) ∧ mfr [0, 2, 3] t0 t
theorem td_lay {t0 t : moS} {l : List Int32} (p : Int32) (h : TD t0 t l) (hl : l.length + 4 ≤ 4096) : ∃ t', M_lay t p = some t' ∧ TD t0 t' (l ++ bnL p.toInt64 4) := by
  unfold M_lay M_lay_b3
  have key : ∀ n (t : moS) (l : List Int32) (a : Int32), n ≤ 4 → l.length + n ≤ 4096 → a = nI (8 * n) - 8 → TD t0 t l → ∃ t', lp (fun x : Int32 × moS => M_lay_s3 x.2 p x.1) (a, t) = some t' ∧ TD t0 t' (l ++ bnL p.toInt64 n) := by
    intro n
    induction n with
    | zero =>
      intro t l a h4 hl ha h
      subst ha
      refine ⟨t, lp_x ?_, by rw [show l ++ bnL p.toInt64 0 = l from List.append_nil l]; exact h⟩
      show M_lay_s3 t p _ = _
      unfold M_lay_s3
      rw [if_pos (show nI (8 * 0) - 8 < 0 by decide)]
    | succ n ih =>
      intro t l a h4 hl ha h
      rw [nI_8m] at ha
      subst ha
      obtain ⟨h1, h2, h3, h4', h5⟩ := h
      have hn : ¬ nI (8 * n) < 0 := nI_pos (by omega)
      have st : M_lay_s3 t p (nI (8 * n)) = some (.inl (nI (8 * n) + (-8), moSS (moSI t 2 l.length ((p >>> (nI (8 * n) &&& 31)) &&& 255)) 3 (nI l.length + 1))) := by
        unfold M_lay_s3
        rw [if_neg hn, h1, wrI_n (n := 4096) h3 (by omega) (by decide)]
        show some _ = some _
        show some (Sum.inl (_, moSS _ 3 (t.S 3 + 1))) = _
        rw [h1]
      rw [lp_l (show (fun x : Int32 × moS => M_lay_s3 x.2 p x.1) (nI (8 * n), t) = _ from st)]
      rw [show l ++ bnL p.toInt64 (n + 1) = (l ++ [(ush_L p.toInt64 (nI (8 * n))).toInt32 &&& 255]) ++ bnL p.toInt64 n by rw [List.append_assoc]; rfl]
      refine ih _ _ _ (by omega) (by rw [List.length_append]; show l.length + 1 + n ≤ 4096; omega) (Int32.sub_eq_add_neg _ _).symm ?_
      rw [lay_b p n (by omega)]
      refine ⟨?_, by rw [List.length_append]; show l.length + 1 ≤ 4096; omega, h3, fun i hi => ?_, (h5.tr (mfr.si (by decide))).tr (mfr.ss (by decide))⟩
      · rw [moSS_s, List.length_append, nI_1]; rfl
      · rw [List.length_append] at hi
        show (moSI t 2 l.length _).I 2 i = _
        rw [moSI_s]
        by_cases c2 : i = l.length
        · subst c2
          rw [gd_r (Nat.le_refl _), Nat.sub_self]
          exact pk_us
        · have : i < l.length := by simp only [List.length_cons, List.length_nil] at hi; omega
          rw [gd_l this, pk_un c2, h4' i this]
  exact key 4 t l 24 (by decide) hl (by decide) h
section Fe
variable {G H : Nat → Nat → Nat} {sa : Nat → Nat} {x kc ks : Nat} {s s' : cS} {t t' : moS} {W : List Nat}
theorem mVa.tp (h : mVa t) (m : mfr [0, 2, 3] t t') {n : Nat} (h3 : t'.S 3 = nI n) (hn : n ≤ 4096) : mVa t' := by
  obtain ⟨⟨a1, a2, a3, a4⟩, b1, b2, b3, b4, b5⟩ := h
  refine ⟨⟨fun k hk => (m.2 k (Or.inr hk)).trans (a1 k hk), ?_, ?_, ?_⟩, ?_, ⟨n, h3, Nat.zero_le _, hn⟩, ?_, ?_, ?_⟩
  · rw [m.2 7 (Or.inl (by decide))]; exact a2
  · rw [m.2 5 (Or.inl (by decide))]; exact a3
  · rw [m.2 102 (Or.inl (by decide)), m.2 103 (Or.inl (by decide)), m.2 104 (Or.inl (by decide))]; exact a4
  · rw [m.S 1 (by decide)]; exact b1
  · rw [m.S 6 (by decide)]; exact b3
  · rw [m.S 6 (by decide), m.2 5 (Or.inl (by decide))]; exact b4
  · rw [m.S 17 (by decide), m.S 27 (by decide), m.S 37 (by decide)]; exact b5
/-- the tape, written anew -/
theorem tp_end (hR : RR G H sa x s t) (hM : MV t) (g2 : RGl G H sa x s') (f : fr [1, 101] [(0, 1)] [] s s') (m : mfr [0, 2, 3] t t') {cap : Nat} (hc : cap ≤ 8192) (hb : BL s' (H 220 x) 101 (tl (t'.I 2) (t'.S 3).toNatClampNeg) cap) : RR G H sa x s' t' := by
  obtain ⟨hq, -, tx, pg, c1, c2, b1, b2, b3, b4, b5, b6, b7, b8, lp, b9⟩ := hR.q
  have hx := hq.1.1
  refine RQ.r (hq.fr hM g2 f m rfl rfl rfl rfl) ⟨⟨cap, hc, hb⟩, tx, pg, c1, c2, ?_, ?_, f.r b3, f.r b4, b5, b6, b7, ?_, lp, b9.fr f b4 (by decide) (by decide) (by decide)⟩
  · rw [f.p hx (by decide)]; exact b1
  · rw [f.p hx (by decide)]; exact b2
  · rw [m.I 5 (by decide), m.S 6 (by decide)]; exact b8.fr f b3 (by decide) (by decide) (by decide)
/-- what a tape's writing leaves -/
def XF (s : cS) (b kc ks : Nat) (s' : cS) (kc' ks' : Nat) : Prop := fr [1, 101] [(0, 1)] [] s s' ∧ 16 * kc + capOf s b ≤ 16 * kc' + capOf s' b ∧ ks + 2 * capOf s b ≤ ks' + 2 * capOf s' b
theorem P_end (hR : RR G H sa x s t) (hM : MV t) (y : Int32) : SO G H sa x t [0, 2, 3] (M_end t y) (C_Rf_end sa x y s kc ks) (XF s (H 220 x) kc ks) := by
  obtain ⟨hq, ⟨cap, hc, hb⟩, -⟩ := hR.q
  have h220 := hq.ty.p hq.1.1 220 1
  have hob := okr h220.2 0
  obtain ⟨n, e3, -, hn⟩ := hM.1.2.2.1
  have ec : (t.S 3).toNatClampNeg = n := by rw [e3, nI_clamp (by omega)]
  have es : s.I (20 * 0 + 1) (H 220 x) = t.S 3 := by
    obtain ⟨-, -, d, -, -, z, -⟩ := hb
    rw [tl_len, ec, ← e3] at z; exact z
  have no : M_end t y = some (0, moSS t 0 0) → (∀ Q : Int32 → cS → Nat → Nat → Prop, Q 0 s kc ks → C_Rf_end sa x y s kc ks Q) → SO G H sa x t [0, 2, 3] (M_end t y) (C_Rf_end sa x y s kc ks) (XF s (H 220 x) kc ks) := by
    intro e k
    have m0 : mfr [0] t (moSS t 0 0) := mfr.ss (by decide)
    exact ⟨0, _, e, hM.m0 m0, mfr.ss (by decide), fun Q h => k Q (h s kc ks (hR.mf hM m0 rfl rfl) ⟨fr.rf, Nat.le_refl _, Nat.le_refl _⟩)⟩
  by_cases c0 : y < 0
  · exact no (if_pos c0) fun Q k => ifT c0 k
  by_cases c1 : t.S 3 < y
  · refine no ((if_neg c0).trans (if_pos c1)) fun Q k => ifF c0 ⟨_, gd_to hq.ox, _, h220.1, _, gd_to hob, ?_⟩
    rw [es]; exact ifT c1 k
  obtain ⟨j, hj, rfl⟩ := nI_of c0
  have hjn : j ≤ n := Nat.le_of_not_lt fun h => c1 (by rw [e3]; exact nI_lt h hj)
  have m : mfr [0, 2, 3] t (moSS (moSS t 0 0) 3 (nI j)) := (mfr.ss (by decide)).tr (mfr.ss (by decide))
  refine ⟨1, moSS (moSS t 0 0) 3 (nI j), (if_neg c0).trans (if_neg c1), hM.fr m rfl (hM.1.tp m moSS_s (by omega)), m, fun Q k => ifF c0 ⟨_, gd_to hq.ox, _, h220.1, _, gd_to hob, ?_⟩⟩
  rw [es]
  refine ifF c1 ⟨_, gd_to hq.ox, _, h220.1, _, gd_to hob, ?_⟩
  have f : fr [1, 101] [(0, 1)] [] s (cSI s 1 (H 220 x) (nI j)) := fr.si (by rw [h220.2]; decide)
  refine k _ _ _ (tp_end hR hM (hq.1.v rfl rfl f rfl rfl rfl) f m hc ?_) ⟨f, Nat.le_refl _, Nat.le_refl _⟩
  obtain ⟨a1, a2, d, a3, a4, a5, a6, a7, a8, a9⟩ := hb
  rw [tl_len, ec] at a6
  rw [tl_len, ec] at a9
  refine ⟨a1, a2, d, a3, a4, ?_, ?_, a7, a8, fun i hi => ?_⟩
  · rw [cSI_s, moSS_s, tl_len, nI_clamp hj]
  · rw [moSS_s, tl_len, nI_clamp hj]; omega
  · rw [moSS_s, nI_clamp hj] at hi ⊢
    rw [tl_len] at hi
    have := a9 i (by omega)
    rw [tl_get (by omega)] at this
    rw [tl_get hi]
    exact this
/-- the tape's room -/
def BF (s : cS) (b kc ks : Nat) : Prop := 8192 ≤ 16 * kc + capOf s b ∧ 16384 ≤ ks + 2 * capOf s b
theorem P_feed (hR : RR G H sa x s t) (hM : MV t) (hB : BF s (H 220 x) kc ks) (y1 y2 y3 y4 y5 : Int32) : SO G H sa x t [0, 2, 3] (M_feed t y1 y2 y3 y4 y5) (C_Rf_feed sa x y1 y2 y3 y4 y5 s kc ks) (XF s (H 220 x) kc ks) := by
  obtain ⟨hq, ⟨cap, hc, hb⟩, -⟩ := hR.q
  have hx := hq.1.1
  have h220 := hq.ty.p hx 220 1
  have hob := okr h220.2 0
  obtain ⟨n, e3, -, hn⟩ := hM.1.2.2.1
  have ec : (t.S 3).toNatClampNeg = n := by rw [e3, nI_clamp (by omega)]
  have es : s.I (20 * 0 + 1) (H 220 x) = nI n := by
    obtain ⟨-, -, d, -, -, z, -⟩ := hb
    rw [tl_len, ec] at z; exact z
  have e20 : nI n + 20 = nI (n + 20) := nI_add n 20
  have m0 : mfr [0] t (moSS t 0 0) := mfr.ss (by decide)
  by_cases c : (4096 : Int32) < nI n + 20
  · refine ⟨0, moSS t 0 0, if_pos (show (4096 : Int32) < t.S 3 + 20 by rw [e3]; exact c), hM.m0 m0, mfr.ss (by decide), fun Q k => ⟨_, gd_to hq.ox, _, h220.1, _, gd_to hob, ?_⟩⟩
    rw [es]
    exact ifT c (k s kc ks (hR.mf hM m0 rfl rfl) ⟨fr.rf, Nat.le_refl _, Nat.le_refl _⟩)
  have hn20 : n + 20 ≤ 4096 := Nat.le_of_not_lt fun h => c (by rw [e20]; exact nI_lt (a := 4096) h (by omega))
  have d0 : TD t (moSS t 0 0) (tl (t.I 2) n) := ⟨by rw [tl_len]; exact e3, by rw [tl_len]; exact hn, hM.n.n 2 4096, fun i hi => by rw [tl_len] at hi; rw [tl_get hi]; rfl, mfr.ss (by decide)⟩
  have l0 : (tl (t.I 2) n).length = n := tl_len _ _
  generalize hl : tl (t.I 2) n = l at d0 l0
  have lb : ∀ (a : List Int32) (v : Int64), (a ++ bnL v 4).length = a.length + 4 := fun a v => by rw [List.length_append, bnL_len]
  obtain ⟨t1, q1, d1⟩ := td_lay y1 d0 (by omega)
  obtain ⟨t2, q2, d2⟩ := td_lay y2 d1 (by rw [lb]; omega)
  obtain ⟨t3, q3, d3⟩ := td_lay y3 d2 (by rw [lb, lb]; omega)
  obtain ⟨t4, q4, d4⟩ := td_lay y4 d3 (by rw [lb, lb, lb]; omega)
  obtain ⟨t5, q5, d5⟩ := td_lay y5 d4 (by rw [lb, lb, lb, lb]; omega)
  have m := d5.2.2.2.2
  refine ⟨1, t5, (if_neg (show ¬ (4096 : Int32) < t.S 3 + 20 by rw [e3]; exact c)).trans ?_, hM.fr m rfl (hM.1.tp m d5.1 d5.2.1), m, fun Q k => ⟨_, gd_to hq.ox, _, h220.1, _, gd_to hob, ?_⟩⟩
  · rw [q1]; show Option.bind (M_lay t1 y2) _ = _
    rw [q2]; show Option.bind (M_lay t2 y3) _ = _
    rw [q3]; show Option.bind (M_lay t3 y4) _ = _
    rw [q4]; show Option.bind (M_lay t4 y5) _ = _
    rw [q5]; rfl
  rw [es]
  refine ifF c ?_
  rw [ec, hl] at hb
  have hcap := hb.cap
  obtain ⟨B1, B2⟩ := hB
  rw [hcap] at B1 B2
  have A0 : AP sa (H 220 x) 101 4096 8192 s (16 * kc + cap) (ks + 2 * cap) l s kc ks := hb.ap (Or.inr (by decide)) (by decide) hc B1 B2 hq.tk
  have gp : ∀ {l' : List Int32} {s' : cS} {kc' ks' : Nat} {f : Option Nat → Prop}, AP sa (H 220 x) 101 4096 8192 s (16 * kc + cap) (ks + 2 * cap) l' s' kc' ks' → f (some (H 220 x)) → ob (gP s' 11 0 x) f := by
    intro l' s' kc' ks' f hA hf
    refine hA.gP hq.ox (by decide) ?_
    rw [show s.P (20 * 11 + 0) x = _ from h220.1]; exact hf
  refine gp A0 ⟨_, rfl, A0.o, ap_number 4 rfl A0 (by decide) (by omega) fun s1 kc1 ks1 A1 => ?_⟩
  refine gp A1 ⟨_, rfl, A1.o, ap_number 4 rfl A1 (by decide) (by rw [lb]; omega) fun s2 kc2 ks2 A2 => ?_⟩
  refine gp A2 ⟨_, rfl, A2.o, ap_number 4 rfl A2 (by decide) (by rw [lb, lb]; omega) fun s3 kc3 ks3 A3 => ?_⟩
  refine gp A3 ⟨_, rfl, A3.o, ap_number 4 rfl A3 (by decide) (by rw [lb, lb, lb]; omega) fun s4 kc4 ks4 A4 => ?_⟩
  refine gp A4 ⟨_, rfl, A4.o, ap_number 4 rfl A4 (by decide) (by rw [lb, lb, lb, lb]; omega) fun s5 kc5 ks5 A5 => ?_⟩
  obtain ⟨cap5, ⟨hb5, hc5⟩, k5, m5, -⟩ := A5.bl
  have f := A5.fr h220.2
  refine k s5 kc5 ks5 (tp_end hR hM (hq.1.ap A5 h220.2 (by decide) (by decide)) f m hc5 ?_) ⟨f, ?_, ?_⟩
  · rw [d5.1, nI_clamp (by have := d5.2.1; omega), ← tl_of rfl (fun i hi => (d5.2.2.2.1 i hi).symm)]
    exact hb5
  · rw [hcap, hb5.cap]; exact k5
  · rw [hcap, hb5.cap]; exact m5
end Fe
