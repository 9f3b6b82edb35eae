/-! Texts; rows of rows. -/
theorem isTx.v {sa : Nat → Nat} {R : pmM} {base a : Nat} {s : cS} {l : List Int32} (hw : cW sa R base s) (h : isTx sa s a l) : ∃ v, vSt (cM R s) a v l := by
  cases h with
  | inl h =>
    obtain ⟨h1, h2, v, h3, h4, h5, h6⟩ := h
    refine ⟨v, .int (s.I 262 a), .int (s.I 263 a), s.E v, ?_, ?_, h5, h6⟩
    · rw [cM_o (u := 31) (c := 13) (R := R) h1 rfl rfl rfl]
      show some (Sum.inr (13, [va_rf (s.P 260 a), Value.int (s.I 261 a), Value.int (s.I 262 a), Value.int (s.I 263 a)])) = _
      rw [h2, h3]
      rfl
    · rw [cM_i (t := 118) (n := l.length) (R := R) h4 rfl rfl]
      rfl
  | inr h =>
    obtain ⟨h1, k, hk, rfl, rfl⟩ := h
    obtain ⟨v, x, z, f, g1, g2, g3, g4⟩ := hw.2.1 k hk
    exact ⟨v, x, z, f, by rw [cM_r h1, g1], by rw [cM_r (hw.r g2), g2], g3, g4⟩
def C_St_length (sa : Nat → Nat) (a : Nat) (s : cS) (kc ks : Nat) (Q : Int32 → cS → Nat → Nat → Prop) : Prop := ∃ l, isTx sa s a l ∧ Q (nI l.length) s kc ks
def C_St_charAt (sa : Nat → Nat) (a : Nat) (i : Int32) (s : cS) (kc ks : Nat) (Q : Int32 → cS → Nat → Nat → Prop) : Prop := ∃ l j, isTx sa s a l ∧ i = nI j ∧ j < l.length ∧ Q (l.getD j 0 &&& 255) s kc ks
theorem kr_St_length (base : Nat) (sa : Nat → Nat) {R : pmM} {s : cS} {kc ks a : Nat} {Rt : pmR} {Q : Int32 → cS → Nat → Nat → Prop} (hw : cW sa R base s) (h : C_St_length sa a s kc ks Q) (k : ∀ r s' kc' ks', cW sa R base s' → Q r s' kc' ks' → Rt (some (.int r)) (cM R s') kc' ks') : pm_rcv 13 (kP_St_length base sa) [.ref a] (cM R s) kc ks Rt := by
  obtain ⟨l, h1, h2⟩ := h
  obtain ⟨v, hv⟩ := h1.v hw
  obtain ⟨x, z, f, g1, -⟩ := id hv
  exact pm_rcv_of g1 (v_St_length base sa hv (k _ _ _ _ hw h2))
theorem kr_St_charAt (base : Nat) (sa : Nat → Nat) {R : pmM} {s : cS} {kc ks a : Nat} {i : Int32} {Rt : pmR} {Q : Int32 → cS → Nat → Nat → Prop} (hw : cW sa R base s) (h : C_St_charAt sa a i s kc ks Q) (k : ∀ r s' kc' ks', cW sa R base s' → Q r s' kc' ks' → Rt (some (.int r)) (cM R s') kc' ks') : pm_rcv 13 (kP_St_charAt base sa) [.ref a, .int i] (cM R s) kc ks Rt := by
  obtain ⟨l, j, h1, rfl, hj, h2⟩ := h
  obtain ⟨v, hv⟩ := h1.v hw
  obtain ⟨x, z, f, g1, -⟩ := id hv
  exact pm_rcv_of g1 (v_St_charAt base sa hv hj (k _ _ _ _ hw h2))
theorem cNm_m {R : pmM} {s : cS} {q u v n k : Nat} {ty : FieldType} (u1 : 130 ≤ u) (u2 : u < 146) (u3 : cAT u = .array ty) (v1 : 100 ≤ v) (v2 : v < 130) (v3 : cAT v = ty) : pm_mul (cM R s) q ty n k = cM R (cNm s q u v n k) := by
  funext b
  unfold pm_mul
  by_cases hb : q ≤ b ∧ b ≤ q + n
  · rw [if_pos hb]
    by_cases he : b = q
    · subst he
      rw [if_pos rfl]
      have hK : (cNm s b u v n k).K b = (u, n) := if_pos rfl
      have hQ : (cNm s b u v n k).Q b = fun j => if j < n then some (b + 1 + j) else none := if_pos rfl
      unfold cM
      rw [hK, if_neg (show ¬ u = 0 by omega)]
      unfold cEt
      rw [if_neg (show ¬ u < 100 by omega), if_neg (show ¬ u < 130 by omega), if_pos (show u < 160 by omega), hQ, u3]
    · rw [if_neg he]
      have hK : (cNm s q u v n k).K b = (v, k) := by
        show (if b = q then (u, n) else if q < b ∧ b ≤ q + n then (v, k) else s.K b) = _
        rw [if_neg he, if_pos ⟨by omega, hb.2⟩]
      have hE : (cNm s q u v n k).E b = fun _ => 0 := if_pos hb
      unfold cM
      rw [hK, if_neg (show ¬ v = 0 by omega)]
      unfold cEt
      rw [if_neg (show ¬ v < 100 by omega), if_pos (show v < 130 by omega), hE, v3]
  · rw [if_neg hb]
    have hK : (cNm s q u v n k).K b = s.K b := by
      show (if b = q then (u, n) else if q < b ∧ b ≤ q + n then (v, k) else s.K b) = _
      rw [if_neg (by omega), if_neg (by omega)]
    have hI : ∀ g, (cNm s q u v n k).I g b = s.I g b := fun g => if_neg hb
    have hJ : ∀ g, (cNm s q u v n k).J g b = s.J g b := fun g => if_neg hb
    have hP : ∀ g, (cNm s q u v n k).P g b = s.P g b := fun g => if_neg hb
    have hE : (cNm s q u v n k).E b = s.E b := if_neg hb
    have hQ : (cNm s q u v n k).Q b = s.Q b := if_neg (by omega)
    have hV : ∀ g, cV (cNm s q u v n k) g b = cV s g b := fun g => by
      unfold cV
      rw [hI, hJ, hP]
    unfold cM
    rw [hK]
    unfold cEt
    rw [hE, hQ]
    have e : (fun j => cV (cNm s q u v n k) (20 * cKn (s.K b).1 + j) b) = fun j => cV s (20 * cKn (s.K b).1 + j) b := funext fun j => hV _
    rw [e]
theorem kk_mul {sa : Nat → Nat} {base : Nat} {X : pmX} {Rt : pmR} {G : pmK} {pc : Nat} {L : pmL} {st : List Value} {R : pmM} {s : cS} {kc ks : Nat} (hG : pm_cl kcl base X Rt G) {i n k : Nat} {n0 k0 : Int32} {ty : FieldType} {f : Nat → cS → Nat → Nat → Prop} (hc : X.code pc = some (.multianewarray i 2)) (hy : X.cal (100000 + i) = some (3, 2, pm_mna base ty)) (hn : n0 = nI n) (hk : k0 = nI k) (h8 : st.length ≤ 4) (nx : ∀ q s' kc' ks', KK sa R base G (pc + 4) L (va_rf (some q) :: st) s' kc' ks' (f q s' kc' ks')) : KK sa R base G pc L (.int k0 :: .int n0 :: st) s kc ks (nwM sa s kc ks ty n k f) := fun hw h => by
  obtain ⟨h1, h2, h3, h4, u, v, ⟨u1, u2, u3⟩, ⟨v1, v2, v3⟩, h⟩ := h
  subst hn hk
  refine pg hG hc ?_
  show pm_opt (X.cal (100000 + i)) _
  rw [hy]
  refine ⟨rfl, rfl, Nat.le_add_left 2 st.length, cats_le h8, ?_⟩
  have en : (nI n).toNatClampNeg = n := nI_clamp (by omega)
  have ek : (nI k).toNatClampNeg = k := nI_clamp (by omega)
  refine ⟨nI n, nI k, rfl, nI_pos (by omega), nI_pos (by omega), by rw [en]; exact h1, by rw [ek]; exact h2, by rw [en]; exact h3, by rw [en, ek]; exact h4, fun q hq hf => ?_⟩
  rw [en] at hf
  rw [en, ek, cNm_m u1 u2 u3 v1 v2 v3]
  refine nx q _ _ _ ⟨fun a ha => ?_, hw.2⟩ (h q fun j hj => (hw.f (hf j hj)).1)
  by_cases e : q ≤ a ∧ a ≤ q + n
  · obtain ⟨j, rfl⟩ : ∃ j, a = q + j := ⟨a - q, by omega⟩
    refine ⟨by omega, (hw.f (hf j (by omega))).2, ?_⟩
    show ((if q + j = q then (u, n) else if q < q + j ∧ q + j ≤ q + n then (v, k) else s.K (q + j)) : Nat × Nat).1 < 160
    split
    · show u < 160; omega
    · rw [if_pos (by omega)]; show v < 160; omega
  · have hK : (cNm s q u v n k).K a = s.K a := by
      show (if a = q then (u, n) else if q < a ∧ a ≤ q + n then (v, k) else s.K a) = _
      rw [if_neg (by omega), if_neg (by omega)]
    rw [hK] at ha ⊢
    exact hw.1 a ha
/-- never called -/
def C_S2_toBytes (_ : Nat → Nat) (_ : Option Nat) (_ _ : Int32) (_ : cS) (_ _ : Nat) (_ : Option Nat → cS → Nat → Nat → Prop) : Prop := False
theorem kc_S2_toBytes (base : Nat) (sa : Nat → Nat) {R : pmM} {s : cS} {kc ks : Nat} {Rt : pmR} {p0 : Option Nat} {p1 p2 : Int32} {Q : Option Nat → cS → Nat → Nat → Prop} (_ : cW sa R base s) (h : C_S2_toBytes sa p0 p1 p2 s kc ks Q) (_ : ∀ r s' kc' ks', cW sa R base s' → Q r s' kc' ks' → Rt (some (va_rf r)) (cM R s') kc' ks') : kP_S2_toBytes base sa [va_rf p0, .int p1, .int p2] (cM R s) kc ks Rt := False.elim h
def C_S2_getChar (_ : Nat → Nat) (_ : Option Nat) (_ : Int32) (_ : cS) (_ _ : Nat) (_ : Int32 → cS → Nat → Nat → Prop) : Prop := False
theorem kc_S2_getChar (base : Nat) (sa : Nat → Nat) {R : pmM} {s : cS} {kc ks : Nat} {Rt : pmR} {p0 : Option Nat} {p1 : Int32} {Q : Int32 → cS → Nat → Nat → Prop} (_ : cW sa R base s) (h : C_S2_getChar sa p0 p1 s kc ks Q) (_ : ∀ r s' kc' ks', cW sa R base s' → Q r s' kc' ks' → Rt (some (.int r)) (cM R s') kc' ks') : kP_S2_getChar base sa [va_rf p0, .int p1] (cM R s) kc ks Rt := False.elim h
def C_S2_compress3 (_ : Nat → Nat) (_ : Option Nat) (_ : Int32) (_ : Option Nat) (_ _ : Int32) (_ : cS) (_ _ : Nat) (_ : Int32 → cS → Nat → Nat → Prop) : Prop := False
theorem kc_S2_compress3 (base : Nat) (sa : Nat → Nat) {R : pmM} {s : cS} {kc ks : Nat} {Rt : pmR} {p0 p2 : Option Nat} {p1 p3 p4 : Int32} {Q : Int32 → cS → Nat → Nat → Prop} (_ : cW sa R base s) (h : C_S2_compress3 sa p0 p1 p2 p3 p4 s kc ks Q) (_ : ∀ r s' kc' ks', cW sa R base s' → Q r s' kc' ks' → Rt (some (.int r)) (cM R s') kc' ks') : kP_S2_compress3 base sa [va_rf p0, .int p1, va_rf p2, .int p3, .int p4] (cM R s) kc ks Rt := False.elim h
