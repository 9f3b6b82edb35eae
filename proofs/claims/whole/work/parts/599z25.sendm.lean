/-! A datagram is sent: the model alone. -/
section Sm
variable {r p l f m : Nat} {t : moS} {V : chV} {E : List Int32} {ta cmd : Int32} {th tl : Int64}
theorem mv_num {v : Int32} (hM : MV t) (hr : r < cR t) (hp : p < cI t r) : MV (moSI t 89 (4 * r + p) v) := by
  have m : mfr [89] t (moSI t 89 (4 * r + p) v) := mfr.si (by decide)
  have e89 : ∀ i, (moSI t 89 (4 * r + p) v).I 89 i = if i = 4 * r + p then v else t.I 89 i := fun i => by rw [moSI_s]; rfl
  refine hM.po (m.wk (by decide)) (fun r' p' hr' hp' => (hM.r hr').i hp') (fun r' p' h6 hp' h4 => ?_)
  have := hM.2.2.2.2.2.2.2.2.1 r' p' h6 hp' h4
  unfold mZi at this ⊢
  have ne : 4 * r' + p' ≠ 4 * r + p := fun z => by
    have hc : cI t r ≤ 4 := hM.nIf hr
    have e : r' = r := by omega
    subst e
    omega
  rw [e89, if_neg ne]
  exact this
theorem mv_cnt {i : Nat} {v : Int32} (hM : MV t) (hr : r < cR t) (hi : i < 11) : MV (moSI t 45 (11 * r + i) v) := by
  have m : mfr [45] t (moSI t 45 (11 * r + i) v) := mfr.si (by decide)
  refine hM.tb (m.wk (by decide)) (fun r' hr' => (hM.r hr').fr m rfl) fun r' h1 h2 => ?_
  obtain ⟨⟨w1, -, -, -, -, -, w7⟩, w8⟩ := hM.2.2.2.2.2.2.2.1 r' h1 h2
  rw [m.I 46 (by decide), m.I 105 (by decide), moSI_s]
  exact ⟨w1, w7, fun j hj => by rw [upd_n (by omega)]; exact w8 j hj⟩
theorem m_sendM (hM : MV t) (hr : r < cR t) (hp : p < cI t r) (hf : f = 0 ∨ f = 1) (hl : l < cL t) (h71 : t.I 71 (4 * r + p) = nI l) (hV : VV V) (hC : MC t (4 * r + p) V) (hm : E.length = 20 * m) (h5 : E.length ≤ 560) (hE : ∀ i, i < E.length → t.I 146 i = E.getD i 0) (hta : bit ta) (hs : ¬ t.I 23 l + 1 < 0) (h5k : V.1 = 2 → E.length ≤ 520 := by exact fun _ => by decide) : ∃ t', M_send t (nI (4 * r + p)) (nI f) cmd (nI m) ta th tl = some t' ∧ MV t' ∧ mfr Wsd t t' ∧ (t'.I 23 = t.I 23 ∨ t'.I 23 = upd (t.I 23) l (t.I 23 l + 1)) := by
  obtain ⟨g1, g2, g3⟩ := m_send (cmd := cmd) (ta := ta) (th := th) (tl := tl) hM hr hp hf hl h71 hV hC hm h5 hE h5k
  by_cases h0 : t.I 22 l = 0
  · exact ⟨t, g1 h0, hM, mfr.rf, Or.inl rfl⟩
  cases hw : wrL V (nI f) (t.S 1) (t.I 89 (4 * r + p)) cmd E with
  | none =>
    obtain ⟨t1, e1, m1⟩ := g2 h0 hw
    exact ⟨t1, e1, hM.fr m1 rfl (hM.1.fr m1 rfl), m1.wk (by decide), Or.inl (m1.I 23 (by decide))⟩
  | some L =>
    obtain ⟨tw, o1, m1, e1⟩ := g3 h0 L hw
    have base : MV tw ∧ mfr Wwr t tw := by
      by_cases c : nI f = 0 ∧ V.1 = 2
      · rw [if_pos c] at m1
        have n2 := mv_num (v := t.I 89 (4 * r + p) + 1) hM hr hp
        exact ⟨n2.fr m1 rfl (n2.1.fr m1 rfl), (mfr.si (by decide)).tr (m1.wk (by decide))⟩
      · rw [if_neg c] at m1
        exact ⟨hM.fr m1 rfl (hM.1.fr m1 rfl), m1.wk (by decide)⟩
    obtain ⟨hM', mw⟩ := base
    have hrw : r < cR tw := by unfold cR; rw [mw.S 37 (by decide)]; exact hr
    have hpw : p < cI tw r := by unfold cI; rw [mw.I 70 (by decide)]; exact hp
    have hM6 : MV (moSI tw 45 (11 * r + 5) (tw.I 45 (11 * r + 5) + 1)) := mv_cnt hM' hrw (by decide)
    have hfa : bit (nI f) := by
      rcases hf with rfl | rfl
      · exact Or.inl rfl
      · exact Or.inr rfl
    have e23 : (moSI tw 45 (11 * r + 5) (tw.I 45 (11 * r + 5) + 1)).I 23 = t.I 23 := by rw [moSI_n (by decide), mw.I 23 (by decide)]
    obtain ⟨t', q1, q2, q3, q4⟩ := m_goX (l := l) (L := L) (ta := ta) (th := th) (tl := tl) (fm := nI (4 * r + p)) (f' := nI f) (po := ptN f) (ho := 255) (tld := 1) (h := tw.J 76 (2 * (4 * r + p) + f)) (lo := tw.J 77 (2 * (4 * r + p) + f)) hM6 (by unfold cL; rw [show (moSI tw 45 (11 * r + 5) (tw.I 45 (11 * r + 5) + 1)).S 17 = tw.S 17 from rfl, mw.S 17 (by decide)]; exact hl) ⟨o1.1, o1.2.1, o1.2.2⟩ hta hfa (Or.inr ⟨r, p, hrw, by unfold cI; rw [moSI_n (by decide)]; exact hpw, rfl, by rw [moSI_n (by decide), mw.I 71 (by decide)]; exact h71⟩) (by rw [e23]; exact hs)
    refine ⟨t', e1.trans q1, q2, (mw.wk (by decide)).tr ((mfr.si (by decide)).tr (q3.wk (by decide))), Or.inr ?_⟩
    rw [q4, e23]
end Sm
