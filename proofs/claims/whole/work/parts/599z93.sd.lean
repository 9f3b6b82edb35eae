/-! What a sending adds to what is on its way. -/
abbrev pl (t : moS) (i : Nat) : Nat := (t.I 124 i).toNatClampNeg
/-- how many of the first n on their way are requests -/
noncomputable def rqC (t : moS) : Nat → Nat
  | 0 => 0
  | n + 1 => rqC t n + if t.I 138 (700 * pl t n) = 1 then 1 else 0
noncomputable def rqN (t : moS) : Nat := rqC t (cF t)
/-- only answers are more on their way, and later than now -/
def SD (t t' : moS) : Prop := t'.S 1 = t.S 1 ∧ cF t ≤ cF t' ∧ (∀ i, i < cF t → t'.I 124 i = t.I 124 i ∧ t'.I 136 (pl t i) = t.I 136 (pl t i) ∧ t'.I 138 (700 * pl t i) = t.I 138 (700 * pl t i)) ∧ ∀ i, cF t ≤ i → i < cF t' → t.S 1 < t'.I 136 (pl t' i) ∧ t'.I 138 (700 * pl t' i) ≠ 1
/-- on link l at most n more were sent, on others none -/
def SB (l n : Nat) (t t' : moS) : Prop := (∀ j, j ≠ l → t'.I 23 j = t.I 23 j) ∧ ∃ d, d ≤ n ∧ t'.I 23 l = t.I 23 l + nI d
section Sd
variable {t t1 t2 t' : moS} {r p l f m n n' : Nat} {V : chV} {E L : List Int32} {ta : Int32} {th tl : Int64} {W : List Nat}
theorem rqC_le {t t' : moS} : ∀ {n : Nat}, (∀ i, i < n → t'.I 138 (700 * pl t' i) = t.I 138 (700 * pl t i)) → rqC t' n = rqC t n
  | 0, _ => rfl
  | n + 1, h => by
    unfold rqC
    rw [rqC_le fun i hi => h i (by omega), h n (by omega)]
theorem SD.rq (h : SD t t') : rqN t' ≤ rqN t := by
  obtain ⟨-, h1, h2, h3⟩ := h
  unfold rqN
  have base : rqC t' (cF t) = rqC t (cF t) := rqC_le fun i hi => by
    unfold pl
    rw [(h2 i hi).1]
    exact (h2 i hi).2.2
  have more : ∀ k, cF t + k ≤ cF t' → rqC t' (cF t + k) = rqC t' (cF t) := by
    intro k
    induction k with
    | zero => intro _; rfl
    | succ k ih =>
      intro hk
      have e : rqC t' (cF t + (k + 1)) = rqC t' (cF t + k) + (if t'.I 138 (700 * pl t' (cF t + k)) = 1 then 1 else 0) := rfl
      rw [e, ih (by omega), if_neg (h3 (cF t + k) (by omega) (by omega)).2]
      rfl
  have := more (cF t' - cF t) (by omega)
  rw [show cF t + (cF t' - cF t) = cF t' by omega] at this
  rw [this, base]
  exact Nat.le_refl _
theorem SD.fr (m : mfr W t t') (d : dj [1, 123, 124, 136, 138] W) : SD t t' := by
  have e : cF t' = cF t := by unfold cF; rw [m.S 123 (d.n 123)]
  refine ⟨m.S 1 (d.n 1), by rw [e]; exact Nat.le_refl _, fun i _ => ⟨by rw [m.I 124 (d.n 124)], by rw [m.I 136 (d.n 136)], by rw [m.I 138 (d.n 138)]⟩, fun i h1 h2 => ?_⟩
  rw [e] at h2
  omega
theorem SD.rf : SD t t := SD.fr (mfr.rf (W := [])) rfl
theorem SD.tr (h : SD t t1) (g : SD t1 t2) : SD t t2 := by
  obtain ⟨a1, a2, a3, a4⟩ := h
  obtain ⟨b1, b2, b3, b4⟩ := g
  refine ⟨b1.trans a1, by omega, fun i hi => ?_, fun i h1 h2 => ?_⟩
  · obtain ⟨x1, x2, x3⟩ := a3 i hi
    obtain ⟨y1, y2, y3⟩ := b3 i (by omega)
    have e : pl t1 i = pl t i := by unfold pl; rw [x1]
    rw [e] at y2 y3
    exact ⟨y1.trans x1, y2.trans x2, y3.trans x3⟩
  · by_cases c : i < cF t1
    · obtain ⟨x1, x2⟩ := a4 i h1 c
      obtain ⟨y1, y2, y3⟩ := b3 i c
      have e : pl t2 i = pl t1 i := by unfold pl; rw [y1]
      rw [e, y2, y3]
      exact ⟨x1, x2⟩
    · have := b4 i (by omega) h2
      rw [a1] at this
      exact this
theorem SB.rf : SB l n t t := ⟨fun _ _ => rfl, 0, Nat.zero_le _, by rw [show nI 0 = 0 from rfl, Int32.add_zero]⟩
theorem SB.fr (m : mfr W t t') (d : 23 ∉ W) : SB l n t t' := ⟨fun _ _ => by rw [m.I 23 d], 0, Nat.zero_le _, by rw [show nI 0 = 0 from rfl, Int32.add_zero, m.I 23 d]⟩
theorem SB.tr (h : SB l n t t1) (g : SB l n' t1 t2) : SB l (n + n') t t2 := by
  obtain ⟨a1, d, a2, a3⟩ := h
  obtain ⟨b1, d', b2, b3⟩ := g
  exact ⟨fun j hj => (b1 j hj).trans (a1 j hj), d + d', by omega, by rw [b3, a3, Int32.add_assoc, nI_add]⟩
theorem SB.wk (h : SB l n t t1) (hn : n ≤ n') : SB l n' t t1 := by
  obtain ⟨a1, d, a2, a3⟩ := h
  exact ⟨a1, d, by omega, a3⟩
theorem wrL_0 {fa tm nn cmd : Int32} (h : wrL V fa tm nn cmd E = some L) : L.getD 0 0 = cmd ∧ 1 ≤ L.length := by
  unfold wrL at h
  split at h
  · split at h
    · cases h; exact ⟨rfl, by show 1 ≤ (hdL cmd 2 ++ E).length; rw [List.length_append]; show 1 ≤ 4 + E.length; omega⟩
    · split at h
      · cases h; exact ⟨rfl, by show 1 ≤ (hdL cmd 2 ++ pwL V.2.1 ++ E).length; rw [List.length_append]; show 1 ≤ 24 + E.length; omega⟩
      · cases e : bkN tm V.2.2 V.2.2.length with
        | none => rw [e] at h; cases h
        | some b =>
          rw [e] at h
          cases h
          refine ⟨rfl, ?_⟩
          show 1 ≤ (krL cmd (V.2.2.getD b k0V) nn E ++ seL (V.2.2.getD b k0V) (krL cmd (V.2.2.getD b k0V) nn E)).length
          rw [List.length_append, krL_l]
          omega
  · cases h; exact ⟨rfl, by show 1 ≤ (hdL cmd 1 ++ E).length; rw [List.length_append]; show 1 ≤ 4 + E.length; omega⟩
theorem due_rem {k j : Nat} (hk : k < 2 ^ 31) (hj : j ≤ 4) : ∃ d, d ≤ 4 ∧ Int64.toInt32 (rem_L ((3 : Int64) * (Int32.toInt64 (nI k))) (Int32.toInt64 (nI j + 1))) = nI d := by
  have e1 : (nI k).toInt64 = lN k := Int64.toInt_inj.mp (by rw [Int32.toInt_toInt64, nI_toInt hk, pk_lT (by omega)])
  have e2 : (nI j + 1).toInt64 = lN (j + 1) := by
    rw [nI_1]
    exact Int64.toInt_inj.mp (by rw [Int32.toInt_toInt64, nI_toInt (by omega), pk_lT (by omega)])
  rw [e1, e2, show (3 : Int64) = lN 3 from rfl, lN_mul]
  show ∃ d, d ≤ 4 ∧ Int64.toInt32 (lN (3 * k) - lN (3 * k) / lN (j + 1) * lN (j + 1)) = nI d
  rw [pk_lRem (by omega) (by omega) (by omega)]
  have hlt : 3 * k % (j + 1) < 5 := Nat.lt_of_lt_of_le (Nat.mod_lt _ (by omega)) (by omega)
  have : ∀ d : Fin 5, (lN d.1).toInt32 = nI d.1 := by decide
  exact ⟨3 * k % (j + 1), by omega, this ⟨_, hlt⟩⟩
theorem due_gt (hM : MV t) (hl : l < cL t) : t.S 1 < dueT t l (t.I 23 l) := by
  obtain ⟨tm, etm, -, htm⟩ := hM.1.2.1
  obtain ⟨⟨dl, edl, hd1, hd2⟩, ⟨j, ej, -, hj⟩, -, -, hs, -⟩ := hM.2.1 l hl
  obtain ⟨k, hk, ek⟩ := nI_of hs
  unfold dueT
  rw [etm, edl, ej, ek]
  obtain ⟨d, hd, ed⟩ := due_rem hk hj
  rw [ed, nI_add, nI_add]
  exact nI_lt (by omega) (by omega)
/-- one more is on its way, an answer -/
theorem sd_fl {fm ta' f' po ho du : Int32} {th' tl' h lo : Int64} (hM : MV t) (h2 : cF t < 256) (hp : p < 256) (h0 : t.I 125 p = 0) (hdu : t.S 1 < du) (hL : L.getD 0 0 ≠ 1) (h1 : 1 ≤ L.length) (h6 : L.length ≤ 600) : SD t (flT t p l fm ta' th' tl' f' h lo po ho du L) := by
  obtain ⟨f1, f2, f3, f4, f5, f6⟩ := hM.2.2.2.2.1
  obtain ⟨u1, u2⟩ := cF_up f1 h2
  have eF : cF (flT t p l fm ta' th' tl' f' h lo po ho du L) = cF t + 1 := by unfold cF; rw [flT_S]; exact u2
  obtain ⟨i1, -, -, -, -, -, -, -, i9, -⟩ := flT_I (t := t) (p := p) (l := l) (fm := fm) (ta := ta') (th := th') (tl := tl') (f := f') (h := h) (lo := lo) (po := po) (ho := ho) (du := du) (L := L)
  have nt : ∀ i, i < cF t → pl t i ≠ p := fun i hi e => by
    have := (f3 i hi).2
    rw [show (t.I 124 i).toNatClampNeg = p from e, h0] at this
    exact absurd this (by decide)
  refine ⟨flT_m.S 1 (by decide), by omega, fun i hi => ⟨?_, ?_, ?_⟩, fun i ha hb => ?_⟩
  · rw [i1, upd_n (by omega)]
  · rw [i9, upd_n (nt i hi)]
  · rw [flT_138, if_neg]
    have := nt i hi
    omega
  · have : i = cF t := by omega
    subst this
    have ep : pl (flT t p l fm ta' th' tl' f' h lo po ho du L) (cF t) = p := by
      unfold pl
      rw [i1, upd_s, nI_clamp (by omega)]
    rw [ep, i9, upd_s, flT_138, if_pos (by omega), Nat.sub_self]
    exact ⟨hdu, hL⟩
/-- an answer is sent -/
theorem m_send2 (hM : MV t) (hr : r < cR t) (hp : p < cI t r) (hf : f = 0 ∨ f = 1) (hl : l < cL t) (h71 : t.I 71 (4 * r + p) = nI l) (hV : VV V) (hC : MC t (4 * r + p) V) (hm : E.length = 20 * m) (h5 : E.length ≤ 560) (h5k : V.1 = 2 → E.length ≤ 520) (hE : ∀ i, i < E.length → t.I 146 i = E.getD i 0) (hta : bit ta) (hs : ¬ t.I 23 l + 1 < 0) : ∃ t', M_send t (nI (4 * r + p)) (nI f) 2 (nI m) ta th tl = some t' ∧ MV t' ∧ mfr Wsd t t' ∧ SB l 1 t t' ∧ SD t t' := by
  obtain ⟨t', q1, q2, q3, q4⟩ := m_sendM (cmd := 2) (th := th) (tl := tl) hM hr hp hf hl h71 hV hC hm h5 hE hta hs h5k
  refine ⟨t', q1, q2, q3, ⟨fun j hj => ?_, ?_⟩, ?_⟩
  · rcases q4 with z | z
    · rw [z]
    · rw [z, upd_n hj]
  · rcases q4 with z | z
    · exact ⟨0, by omega, by rw [z, show nI 0 = 0 from rfl, Int32.add_zero]⟩
    · exact ⟨1, by omega, by rw [z, upd_s]; rfl⟩
  obtain ⟨g1, g2, g3⟩ := m_send (cmd := 2) (ta := ta) (th := th) (tl := tl) hM hr hp hf hl h71 hV hC hm h5 hE h5k
  by_cases h0 : t.I 22 l = 0
  · rw [g1 h0] at q1
    cases q1
    exact SD.rf
  cases hw : wrL V (nI f) (t.S 1) (t.I 89 (4 * r + p)) 2 E with
  | none =>
    obtain ⟨t1, e1, m1⟩ := g2 h0 hw
    rw [e1] at q1
    cases q1
    exact SD.fr m1 rfl
  | some L =>
    obtain ⟨tw, o1, m1, e1⟩ := g3 h0 L hw
    have base : MV tw ∧ mfr Wwr t tw := by
      by_cases c : nI f = 0 ∧ V.1 = 2
      · rw [if_pos c] at m1
        have n2 := mv_num (v := t.I 89 (4 * r + p) + 1) hM hr hp
        exact ⟨n2.fr m1 rfl (n2.1.fr m1 rfl), (mfr.si (by decide)).tr (m1.wk (by decide))⟩
      · rw [if_neg c] at m1
        exact ⟨hM.fr m1 rfl (hM.1.fr m1 rfl), m1.wk (by decide)⟩
    obtain ⟨hM', mw⟩ := base
    have hrw : r < cR tw := by unfold cR; rw [mw.S 37 (by decide)]; exact hr
    have hM6 : MV (moSI tw 45 (11 * r + 5) (tw.I 45 (11 * r + 5) + 1)) := mv_cnt hM' hrw (by decide)
    have m6 : mfr [45] tw (moSI tw 45 (11 * r + 5) (tw.I 45 (11 * r + 5) + 1)) := mfr.si (by decide)
    have e1 : M_send t (nI (4 * r + p)) (nI f) 2 (nI m) ta th tl = M_go (moSI tw 45 (11 * r + 5) (tw.I 45 (11 * r + 5) + 1)) (nI l) (nI (4 * r + p)) ta th tl (nI f) (tw.J 76 (2 * (4 * r + p) + f)) (tw.J 77 (2 * (4 * r + p) + f)) (ptN f) 255 1 := e1
    generalize moSI tw 45 (11 * r + 5) (tw.I 45 (11 * r + 5) + 1) = t6 at hM6 m6 e1
    have hl6 : l < cL t6 := by unfold cL; rw [m6.S 17 (by decide), mw.S 17 (by decide)]; exact hl
    have hO6 : OU t6 L := by
      obtain ⟨a1, a2, a3⟩ := o1
      exact ⟨by rw [m6.S 148 (by decide)]; exact a1, a2, fun i hi => by rw [m6.I 147 (by decide)]; exact a3 i hi⟩
    have hs6 : ¬ t6.I 23 l + 1 < 0 := by rw [m6.I 23 (by decide), mw.I 23 (by decide)]; exact hs
    have d6 : SD t t6 := (SD.fr mw rfl).tr (SD.fr m6 rfl)
    have hM1 := mv_se hM6 hl6 hO6.2.1 hs6
    have ms := seT_m (t := t6) (l := l) (L := L)
    have d7 : SD t (seT t6 l L) := d6.tr (SD.fr ms rfl)
    obtain ⟨w1, w2⟩ := wrL_0 hw
    have q1' := e1.symm.trans q1
    rcases m_go (fm := nI (4 * r + p)) (ta := ta) (th := th) (tl := tl) (f := nI f) (h := tw.J 76 (2 * (4 * r + p) + f)) (lo := tw.J 77 (2 * (4 * r + p) + f)) (po := ptN f) (ho := 255) (tld := 1) hM6 hl6 hO6 hta with ⟨c1, g⟩ | ⟨c1, c2, c3, g⟩ | ⟨c1, c2, pp, p1, p2, g⟩
    · rw [show M_go t6 (nI l) (nI (4 * r + p)) ta th tl (nI f) (tw.J 76 (2 * (4 * r + p) + f)) (tw.J 77 (2 * (4 * r + p) + f)) (ptN f) 255 1 = some t' from q1'] at g
      cases g
      exact d7
    · rw [show M_go t6 (nI l) (nI (4 * r + p)) ta th tl (nI f) (tw.J 76 (2 * (4 * r + p) + f)) (tw.J 77 (2 * (4 * r + p) + f)) (ptN f) 255 1 = some t' from q1'] at g
      cases g
      exact d7.tr (SD.fr (mfr.si (W := [24]) (by decide)) rfl)
    · rw [show M_go t6 (nI l) (nI (4 * r + p)) ta th tl (nI f) (tw.J 76 (2 * (4 * r + p) + f)) (tw.J 77 (2 * (4 * r + p) + f)) (ptN f) 255 1 = some t' from q1'] at g
      cases g
      have eF : cF (seT t6 l L) = cF t6 := by unfold cF; rw [ms.S 123 (by decide)]
      refine d7.tr (sd_fl hM1 (by rw [eF]; exact c1) p1 (by rw [ms.I 125 (by decide)]; exact p2) ?_ (by rw [w1]; decide) w2 hO6.2.1)
      rw [ms.S 1 (by decide)]
      exact due_gt hM6 hl6
end Sd
