/-! Keys in the model. -/
/-- only the keys of interface q are others -/
def fq (q : Nat) (t t' : moS) : Prop := mfr [79, 80, 81, 82, 83, 84, 85, 86, 87, 88] t t' ∧ (∀ i, i ≠ q → t'.I 79 i = t.I 79 i ∧ t'.I 80 i = t.I 80 i ∧ t'.I 82 i = t.I 82 i) ∧ (∀ i, ¬ (4 * q ≤ i ∧ i < 4 * q + 4) → t'.I 83 i = t.I 83 i ∧ t'.I 84 i = t.I 84 i ∧ t'.I 85 i = t.I 85 i ∧ t'.I 87 i = t.I 87 i ∧ t'.I 88 i = t.I 88 i) ∧ (∀ i, ¬ (16 * q ≤ i ∧ i < 16 * q + 16) → t'.I 81 i = t.I 81 i) ∧ ∀ i, ¬ (64 * q ≤ i ∧ i < 64 * q + 64) → t'.I 86 i = t.I 86 i
section Mk
variable {t t1 t2 : moS} {l : List Int32} {ws : List (Nat × Nat)} {q : Nat} {V : chV}
theorem fq.rf : fq q t t := ⟨mfr.rf, fun _ _ => ⟨rfl, rfl, rfl⟩, fun _ _ => ⟨rfl, rfl, rfl, rfl, rfl⟩, fun _ _ => rfl, fun _ _ => rfl⟩
theorem fq.tr (h : fq q t t1) (g : fq q t1 t2) : fq q t t2 := by
  obtain ⟨a1, a2, a3, a4, a5⟩ := h
  obtain ⟨b1, b2, b3, b4, b5⟩ := g
  refine ⟨a1.tr b1, fun i hi => ?_, fun i hi => ?_, fun i hi => (b4 i hi).trans (a4 i hi), fun i hi => (b5 i hi).trans (a5 i hi)⟩
  · obtain ⟨x1, x2, x3⟩ := a2 i hi
    obtain ⟨y1, y2, y3⟩ := b2 i hi
    exact ⟨y1.trans x1, y2.trans x2, y3.trans x3⟩
  · obtain ⟨x1, x2, x3, x4, x5⟩ := a3 i hi
    obtain ⟨y1, y2, y3, y4, y5⟩ := b3 i hi
    exact ⟨y1.trans x1, y2.trans x2, y3.trans x3, y4.trans x4, y5.trans x5⟩
theorem fq.si {k i : Nat} {v : Int32} (h : (k = 79 ∨ k = 80 ∨ k = 82) ∧ i = q ∨ (k = 83 ∨ k = 84 ∨ k = 85 ∨ k = 87 ∨ k = 88) ∧ 4 * q ≤ i ∧ i < 4 * q + 4 ∨ k = 81 ∧ 16 * q ≤ i ∧ i < 16 * q + 16 ∨ k = 86 ∧ 64 * q ≤ i ∧ i < 64 * q + 64) : fq q t (moSI t k i v) := by
  have e : ∀ n j, (moSI t k i v).I n j = if n = k ∧ j = i then v else t.I n j := by
    intro n j
    by_cases c : n = k
    · subst c
      rw [moSI_s]
      show (if j = i then v else t.I n j) = _
      by_cases c2 : j = i
      · rw [if_pos c2, if_pos ⟨rfl, c2⟩]
      · rw [if_neg c2, if_neg (fun z => c2 z.2)]
    · rw [moSI_n c, if_neg (fun z => c z.1)]
  refine ⟨mfr.si (by rcases h with ⟨h | h | h, _⟩ | ⟨h | h | h | h | h, _⟩ | ⟨h, _⟩ | ⟨h, _⟩ <;> rw [h] <;> decide), fun j hj => ?_, fun j hj => ?_, fun j hj => ?_, fun j hj => ?_⟩
  · rw [e, e, e, if_neg (by omega), if_neg (by omega), if_neg (by omega)]
    exact ⟨rfl, rfl, rfl⟩
  · rw [e, e, e, e, e, if_neg (by omega), if_neg (by omega), if_neg (by omega), if_neg (by omega), if_neg (by omega)]
    exact ⟨rfl, rfl, rfl, rfl, rfl⟩
  · rw [e, if_neg (by omega)]
  · rw [e, if_neg (by omega)]
theorem MC.fq {q' : Nat} (h : MC t q' V) (hV : VV V) (f : fq q t t1) (hne : q' ≠ q) : MC t1 q' V := by
  obtain ⟨a1, a2, a3, a4, a5⟩ := f
  obtain ⟨m1, m2, m3, m4⟩ := h
  have h4 := hV.2.1
  obtain ⟨x1, x2, x3⟩ := a2 q' hne
  refine ⟨x1.trans m1, x3.trans m2, fun k v hv => ?_, fun h1 => ?_⟩
  · have hk := (List.getElem?_eq_some_iff.mp hv).1
    obtain ⟨y1, y2, y3, y4, y5⟩ := a3 (4 * q' + k) (by omega)
    obtain ⟨z1, z2, z3, z4, z5, z6⟩ := m3 k v hv
    refine ⟨y1.trans z1, y2.trans z2, y3.trans z3, fun i hi => ?_, y4.trans z5, y5.trans z6⟩
    have := (hV.2.2.2.2.1 k v hv).2.2.1.2.1
    rw [a5 _ (by omega)]
    exact z4 i hi
  · obtain ⟨z1, z2⟩ := m4 h1
    refine ⟨x2.trans z1, fun i hi => ?_⟩
    have := (hV.2.2.2.1 h1).2.1
    rw [a4 _ (by omega)]
    exact z2 i hi
/-- the secret that word w is -/
def wS (l : List Int32) (ws : List (Nat × Nat)) (w : Nat) : List Int32 := wU (vc l) (ws.getD w (0, 0)).1 ((ws.getD w (0, 0)).2 - (ws.getD w (0, 0)).1)
theorem wS_ok {w : Nat} (h : sOK l ws w) (hb : (ws.getD w (0, 0)).1 < (ws.getD w (0, 0)).2) : secOk (wS l ws w) := by
  refine ⟨by unfold wS; rw [wU_len]; omega, by unfold wS; rw [wU_len]; exact h.1, fun i hi => ?_⟩
  unfold wS at hi ⊢
  rw [wU_len] at hi
  rw [wU_get hi]
  exact ⟨_, rfl, scB_t _ _ _ h.2 _ (by omega) (by omega)⟩
theorem wS_e {w i : Nat} : (wS l ws w).getD i 0 = if (ws.getD w (0, 0)).1 + i < (ws.getD w (0, 0)).2 then nI (vc l ((ws.getD w (0, 0)).1 + i)) else 0 := by
  unfold wS
  by_cases c : (ws.getD w (0, 0)).1 + i < (ws.getD w (0, 0)).2
  · rw [if_pos c, wU_get (by omega)]
  · rw [if_neg c, List.getD_eq_getElem?_getD, List.getElem?_eq_none (by rw [wU_len]; omega)]; rfl
theorem m_keyPlace {num : Int32} {L : List kV} (hN : mN t) (hq : q < 24) (h4 : L.length ≤ 4) (h82 : t.I 82 q = nI L.length) (h83 : ∀ k v, L[k]? = some v → t.I 83 (4 * q + k) = v.1) : M_keyPlace t (nI q) num = some (nI (kIx num L)) := by
  unfold M_keyPlace M_keyPlace_b2
  have loop : ∀ n j, j + n = L.length → (∀ k v, k < j → L[k]? = some v → v.1 ≠ num) → lp (fun y : Int32 => M_keyPlace_s2 t (nI q) num y) (nI j) = some (nI (kIx num L)) := by
    intro n
    induction n with
    | zero =>
      intro j hj hb
      refine lp_x ?_
      show M_keyPlace_s2 t (nI q) num (nI j) = _
      unfold M_keyPlace_s2
      rw [rdI_n (n := 24) (hN.n 82 24) hq (by decide), h82]
      simp only [Option.bind_some]
      rw [if_neg (nI_nlt (by omega) (by omega)), kIx_c hb (Or.inl (by omega))]
    | succ n ih =>
      intro j hj hb
      obtain ⟨v, hv⟩ := gk_some (L := L) (k := j) (by omega)
      have st : M_keyPlace_s2 t (nI q) num (nI j) = if v.1 = num then xo (some (nI j)) else some (.inl (nI (j + 1))) := by
        unfold M_keyPlace_s2
        rw [rdI_n (n := 24) (hN.n 82 24) hq (by decide), h82]
        simp only [Option.bind_some]
        rw [if_pos (nI_lt (by omega) (by omega)), show (4 : Int32) = nI 4 from rfl, pk_mul, nI_add, rdI_n (n := 96) (hN.n 83 96) (by omega) (by decide), h83 j v hv, nI_1]
        simp only [Option.bind_some]
      by_cases e : v.1 = num
      · rw [if_pos e] at st
        rw [lp_x st, kIx_c hb (Or.inr ⟨v, hv, e⟩)]
      · rw [if_neg e] at st
        rw [lp_l (show (fun y : Int32 => M_keyPlace_s2 t (nI q) num y) (nI j) = _ from st)]
        refine ih (j + 1) (by omega) (fun k u hk hu => ?_)
        by_cases ek : k = j
        · subst ek
          rw [hv] at hu
          cases hu
          exact e
        · exact hb k u (by omega) hu
  exact loop L.length 0 (by omega) (fun k v hk => absurd hk (Nat.not_lt_zero _))
/-- a word's bytes are laid into a row of the model from B on -/
def lyT (t : moS) (n B : Nat) (u : Nat → Int32) : Nat → moS
  | 0 => t
  | k + 1 => moSI (lyT t n B u k) n (B + k) (u k)
theorem lyT_m {n B : Nat} {u : Nat → Int32} : ∀ k, mfr [n] t (lyT t n B u k)
  | 0 => mfr.rf
  | k + 1 => (lyT_m k).tr (mfr.si (List.mem_singleton.mpr rfl))
theorem lyT_e {n B : Nat} {u : Nat → Int32} : ∀ k i, (lyT t n B u k).I n i = if B ≤ i ∧ i < B + k then u (i - B) else t.I n i
  | 0, i => by rw [if_neg (by omega)]; rfl
  | k + 1, i => by
    show (moSI (lyT t n B u k) n (B + k) (u k)).I n i = _
    rw [moSI_s]
    show (if i = B + k then u k else (lyT t n B u k).I n i) = _
    by_cases c : i = B + k
    · rw [if_pos c, if_pos (by omega), c, Nat.add_sub_cancel_left]
    · rw [if_neg c, lyT_e k i]
      by_cases c2 : B ≤ i ∧ i < B + k
      · rw [if_pos c2, if_pos (by omega)]
      · rw [if_neg c2, if_neg (by omega)]
theorem lyT_q {n B : Nat} {u : Nat → Int32} (h : n = 81 ∧ 16 * q ≤ B ∨ n = 86 ∧ 64 * q ≤ B) : ∀ k, (n = 81 → B + k ≤ 16 * q + 16) → (n = 86 → B + k ≤ 64 * q + 64) → fq q t (lyT t n B u k)
  | 0, _, _ => fq.rf
  | k + 1, h1, h2 => (lyT_q h k (fun e => by have := h1 e; omega) (fun e => by have := h2 e; omega)).tr (fq.si (by
    rcases h with ⟨e, e2⟩ | ⟨e, e2⟩
    · have := h1 e; exact Or.inr (Or.inr (Or.inl ⟨e, by omega, by omega⟩))
    · have := h2 e; exact Or.inr (Or.inr (Or.inr ⟨e, by omega, by omega⟩))))
theorem m_pw {w : Nat} (hW : WX t l ws) (hN : mN t) (hq : q < 24) (hw : w < ws.length) (h16 : sOK l ws w) : ∃ t', M_takePassword t (nI q) (nI w) = some t' ∧ fq q t t' ∧ MC t' q (1, wS l ws w, []) := by
  have hb := hW.2.2.2.1 w hw
  have hn := hW.2.2.2.2
  have hl := hW.2.1.1
  have h16' := h16.1
  have e1 : wrI t 79 (nI q) 1 = some (moSI t 79 q 1) := wrI_n (n := 24) (hN.n 79 24) hq (by decide)
  have e2 : wrI (moSI t 79 q 1) 82 (nI q) 0 = some (moSI (moSI t 79 q 1) 82 q 0) := wrI_n (n := 24) (hN.n 82 24) hq (by decide)
  have m2 : mfr [79, 82] t (moSI (moSI t 79 q 1) 82 q 0) := (mfr.si (by decide)).tr (mfr.si (by decide))
  have W2 := hW.mf m2 rfl
  have e3 : rdI (moSI (moSI t 79 q 1) 82 q 0) 10 (nI w) = some (nI ((ws.getD w (0, 0)).2 - (ws.getD w (0, 0)).1)) := by rw [rdI_n W2.2.2.1.2 (by omega) (by decide), (W2.1.2 w hw).2]
  have e4 : ∀ v, wrI (moSI (moSI t 79 q 1) 82 q 0) 80 (nI q) v = some (moSI (moSI (moSI t 79 q 1) 82 q 0) 80 q v) := fun v => wrI_n (n := 24) (hN.n 80 24) hq (by decide)
  unfold M_takePassword
  rw [e1]
  simp only [Option.bind_some]
  rw [e2]
  simp only [Option.bind_some]
  rw [e3]
  simp only [Option.bind_some]
  rw [e4]
  simp only [Option.bind_some]
  generalize hts : moSI (moSI (moSI t 79 q 1) 82 q 0) 80 q (nI ((ws.getD w (0, 0)).2 - (ws.getD w (0, 0)).1)) = ts
  have m3 : mfr [79, 80, 82] t ts := by rw [← hts]; exact (m2.wk (by decide)).tr (mfr.si (by decide))
  have W3 := hW.mf m3 rfl
  have f3 : fq q t ts := by rw [← hts]; exact ((fq.si (Or.inl ⟨Or.inl rfl, rfl⟩)).tr (fq.si (Or.inl ⟨Or.inr (Or.inr rfl), rfl⟩))).tr (fq.si (Or.inl ⟨Or.inr (Or.inl rfl), rfl⟩))
  have loop : ∀ n j, j + n = (ws.getD w (0, 0)).2 - (ws.getD w (0, 0)).1 → lp (fun y : Int32 × moS => M_takePassword_s28 y.2 (nI q) (nI w) y.1) (nI j, lyT ts 81 (16 * q) (fun i => nI (vc l ((ws.getD w (0, 0)).1 + i))) j) = some (lyT ts 81 (16 * q) (fun i => nI (vc l ((ws.getD w (0, 0)).1 + i))) (j + n)) := by
    intro n
    induction n with
    | zero =>
      intro j hj
      have W4 := W3.mf (lyT_m (t := ts) (n := 81) (B := 16 * q) (u := fun i => nI (vc l ((ws.getD w (0, 0)).1 + i))) j) rfl
      refine lp_x ?_
      show M_takePassword_s28 (lyT ts 81 (16 * q) (fun i => nI (vc l ((ws.getD w (0, 0)).1 + i))) j) (nI q) (nI w) (nI j) = _
      unfold M_takePassword_s28
      rw [rdI_n W4.2.2.1.2 (by omega) (by decide), (W4.1.2 w hw).2]
      simp only [Option.bind_some]
      rw [if_neg (nI_nlt (by omega) (by omega))]
      rfl
    | succ n ih =>
      intro j hj
      have mm := lyT_m (t := ts) (n := 81) (B := 16 * q) (u := fun i => nI (vc l ((ws.getD w (0, 0)).1 + i))) j
      have W4 := W3.mf mm rfl
      rw [lp_l (y := (nI (j + 1), lyT ts 81 (16 * q) (fun i => nI (vc l ((ws.getD w (0, 0)).1 + i))) (j + 1))), ih (j + 1) (by omega), show j + 1 + n = j + (n + 1) by omega]
      show M_takePassword_s28 (lyT ts 81 (16 * q) (fun i => nI (vc l ((ws.getD w (0, 0)).1 + i))) j) (nI q) (nI w) (nI j) = _
      unfold M_takePassword_s28
      have N81 : (lyT ts 81 (16 * q) (fun i => nI (vc l ((ws.getD w (0, 0)).1 + i))) j).N 81 = 384 := by
        rw [mm.2 81 (Or.inr (by decide)), m3.2 81 (Or.inr (by decide))]; exact hN.n 81 384
      rw [rdI_n W4.2.2.1.2 (by omega) (by decide), (W4.1.2 w hw).2]
      simp only [Option.bind_some]
      rw [if_pos (nI_lt (by omega) (by omega)), rdI_n W4.2.2.1.1 (by omega) (by decide), (W4.1.2 w hw).1]
      simp only [Option.bind_some]
      rw [nI_add, W4.2.1.2.2 _ (by omega), show (16 : Int32) = nI 16 from rfl, pk_mul, nI_add]
      simp only [Option.bind_some]
      rw [wrI_n N81 (by omega) (by decide), nI_1]
      rfl
  have hlp := loop ((ws.getD w (0, 0)).2 - (ws.getD w (0, 0)).1) 0 (by omega)
  rw [Nat.zero_add] at hlp
  have m4 := lyT_m (t := ts) (n := 81) (B := 16 * q) (u := fun i => nI (vc l ((ws.getD w (0, 0)).1 + i))) ((ws.getD w (0, 0)).2 - (ws.getD w (0, 0)).1)
  refine ⟨_, hlp, f3.tr (lyT_q (Or.inl ⟨rfl, Nat.le_refl _⟩) _ (fun _ => by omega) (fun e => absurd e (by decide))), ⟨?_, ?_, fun k v hv => (by cases hv), fun _ => ⟨?_, fun i hi => ?_⟩⟩⟩
  · rw [m4.I 79 (by decide), ← hts, moSI_n (by decide), moSI_n (by decide), moSI_s]
    exact if_pos rfl
  · rw [m4.I 82 (by decide), ← hts, moSI_n (by decide), moSI_s]
    exact if_pos rfl
  · rw [m4.I 80 (by decide), ← hts, moSI_s]
    show (if q = q then _ else _) = nI (wS l ws w).length
    rw [if_pos rfl]
    unfold wS
    rw [wU_len]
  · have hi : i < (wS l ws w).length := hi
    show _ = (wS l ws w).getD i 0
    unfold wS at hi ⊢
    rw [wU_len] at hi
    rw [lyT_e, if_pos (by omega), wU_get hi, Nat.add_sub_cancel_left]
end Mk
