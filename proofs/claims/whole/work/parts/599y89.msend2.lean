/-! The model's send answers; what a draft's head becomes. -/
section Mx
variable {G H : Nat → Nat → Nat} {sa : Nat → Nat} {x kc ks r p l c D b f m : Nat} {s : cS} {t t' : moS} {V : chV} {L E hd : List Int32} {ta cmd fa tm nn : Int32} {th tl : Int64} {ky : Option Nat}
theorem op_no (h : opH V fa tm nn cmd = none) : wrL V fa tm nn cmd E = none := by
  unfold opH at h
  unfold wrL
  by_cases c0 : fa = 0
  · rw [if_pos c0] at h ⊢
    by_cases c1 : V.1 = 0
    · rw [if_pos c1] at h; cases h
    rw [if_neg c1] at h ⊢
    by_cases c2 : V.1 = 1
    · rw [if_pos c2] at h; cases h
    rw [if_neg c2] at h ⊢
    cases e : bkN tm V.2.2 V.2.2.length with
    | none => rfl
    | some b => rw [e] at h; cases h
  · rw [if_neg c0] at h; cases h
theorem op_wr (hV : VV V) (h : opH V fa tm nn cmd = some (ky, hd)) : (ky = none → wrL V fa tm nn cmd E = some (hd ++ E) ∧ ¬ (fa = 0 ∧ V.1 = 2) ∧ hd.length ≤ 24) ∧ ∀ kx, ky = some kx → kx < V.2.2.length ∧ hd = hdL cmd 2 ++ keL 0 (V.2.2.getD kx k0V) nn ∧ wrL V fa tm nn cmd E = some (krL cmd (V.2.2.getD kx k0V) nn E ++ seL (V.2.2.getD kx k0V) (krL cmd (V.2.2.getD kx k0V) nn E)) ∧ fa = 0 ∧ V.1 = 2 := by
  have v1 := hV.1
  unfold opH at h
  unfold wrL
  by_cases c0 : fa = 0
  · rw [if_pos c0] at h ⊢
    by_cases c1 : V.1 = 0
    · rw [if_pos c1] at h ⊢
      cases h
      exact ⟨fun _ => ⟨rfl, by omega, by show 4 ≤ 24; decide⟩, fun _ z => by cases z⟩
    rw [if_neg c1] at h ⊢
    by_cases c2 : V.1 = 1
    · rw [if_pos c2] at h ⊢
      cases h
      exact ⟨fun _ => ⟨rfl, by omega, by show 24 ≤ 24; decide⟩, fun _ z => by cases z⟩
    rw [if_neg c2] at h ⊢
    cases e : bkN tm V.2.2 V.2.2.length with
    | none => rw [e] at h; cases h
    | some b =>
      rw [e] at h
      cases h
      refine ⟨(fun z => by cases z), fun kx z => ?_⟩
      cases z
      exact ⟨(bkN_b _ _ _ _ e).1, rfl, rfl, c0, by omega⟩
  · rw [if_neg c0] at h ⊢
    cases h
    exact ⟨fun _ => ⟨rfl, fun z => c0 z.1, by show 4 ≤ 24; decide⟩, fun _ z => by cases z⟩
/-- what a send changes in the model -/
abbrev Wsd : List Nat := [45, 89, 147, 148, 157, 158, 159, 160] ++ Wgo
/-- after the wrap: the relation -/
theorem rr_tw {b : Bool} {tw : moS} {q : Nat} {v : Int32} (hR : RR G H sa x s (if b = true then moSI t 89 q v else t)) (hM : MV (if b = true then moSI t 89 q v else t)) (m : mfr Wsm (if b = true then moSI t 89 q v else t) tw) : RR G H sa x s tw ∧ MV tw := by
  exact ⟨rr_fr hR hM hR.q.1.1 (fr.rf (Rv := []) (Gp := []) (Rq := [])) m rfl rfl rfl rfl rfl rfl rfl, hM.fr m rfl (hM.1.fr m rfl)⟩
theorem m_sendE (hR : RR G H sa x s t) (hM : MV t) (hr : r < cR t) (hp : p < cI t r) (hf : f = 0 ∨ f = 1) (hl : l < cL t) (h71 : t.I 71 (4 * r + p) = nI l) (hV : VV V) (hC : MC t (4 * r + p) V) (hm : E.length = 20 * m) (h5 : E.length ≤ 560) (hE : ∀ i, i < E.length → t.I 146 i = E.getD i 0) (hta : bit ta) (hs : ¬ t.I 23 l + 1 < 0) (h5k : V.1 = 2 → E.length ≤ 520 := by exact fun _ => by decide) : ∃ t', M_send t (nI (4 * r + p)) (nI f) cmd (nI m) ta th tl = some t' ∧ MV t' ∧ mfr Wsd t t' ∧ (t'.I 23 = t.I 23 ∨ t'.I 23 = upd (t.I 23) l (t.I 23 l + 1)) := by
  obtain ⟨g1, g2, g3⟩ := m_send (cmd := cmd) (ta := ta) (th := th) (tl := tl) hM hr hp hf hl h71 hV hC hm h5 hE h5k
  by_cases h0 : t.I 22 l = 0
  · exact ⟨t, g1 h0, hM, mfr.rf, Or.inl rfl⟩
  cases hw : wrL V (nI f) (t.S 1) (t.I 89 (4 * r + p)) cmd E with
  | none =>
    obtain ⟨t1, e1, m1⟩ := g2 h0 hw
    exact ⟨t1, e1, hM.fr m1 rfl (hM.1.fr m1 rfl), m1.wk (by decide), Or.inl (m1.I 23 (by decide))⟩
  | some L =>
    obtain ⟨tw, o1, m1, e1⟩ := g3 h0 L hw
    have base : ∃ s', RR G H sa x s' tw ∧ MV tw ∧ mfr Wwr t tw := by
      by_cases c : nI f = 0 ∧ V.1 = 2
      · rw [if_pos c] at m1
        obtain ⟨n1, n2, -⟩ := rr_num (v := t.I 89 (4 * r + p) + 1) hR hM hr hp
        obtain ⟨a1, a2⟩ := rr_tw (b := true) (q := 4 * r + p) (v := t.I 89 (4 * r + p) + 1) (t := t) n1 n2 m1
        exact ⟨_, a1, a2, (mfr.si (by decide)).tr (m1.wk (by decide))⟩
      · rw [if_neg c] at m1
        obtain ⟨a1, a2⟩ := rr_tw (b := false) (q := 0) (v := 0) (t := t) hR hM m1
        exact ⟨_, a1, a2, m1.wk (by decide)⟩
    obtain ⟨s', hR', hM', mw⟩ := base
    have hS : Snd G tw l (nI (4 * r + p)) 1 (some (G 1 r)) (moSI tw 45 (11 * r + 5) (tw.I 45 (11 * r + 5) + 1)) := Or.inr ⟨r, p, by unfold cR; rw [mw.S 37 (by decide)]; exact hr, by unfold cI; rw [mw.I 70 (by decide)]; exact hp, rfl, by rw [mw.I 71 (by decide)]; exact h71, rfl, rfl, by decide⟩
    obtain ⟨hM6, hfm⟩ := hS.mv hR' hM'
    have hfa : bit (nI f) := by
      rcases hf with rfl | rfl
      · exact Or.inl rfl
      · exact Or.inr rfl
    have e23 : (moSI tw 45 (11 * r + 5) (tw.I 45 (11 * r + 5) + 1)).I 23 = t.I 23 := by rw [moSI_n (by decide), mw.I 23 (by decide)]
    obtain ⟨t', q1, q2, q3, q4⟩ := m_goX (l := l) (L := L) (ta := ta) (th := th) (tl := tl) (fm := nI (4 * r + p)) (f' := nI f) (po := ptN f) (ho := 255) (tld := 1) (h := tw.J 76 (2 * (4 * r + p) + f)) (lo := tw.J 77 (2 * (4 * r + p) + f)) hM6 (by unfold cL; rw [show (moSI tw 45 (11 * r + 5) (tw.I 45 (11 * r + 5) + 1)).S 17 = tw.S 17 from rfl, mw.S 17 (by decide)]; exact hl) ⟨o1.1, o1.2.1, o1.2.2⟩ hta hfa hfm (by rw [e23]; exact hs)
    refine ⟨t', e1.trans q1, q2, (mw.wk (by decide)).tr ((mfr.si (by decide)).tr (q3.wk (by decide))), Or.inr ?_⟩
    rw [q4, e23]
def askE : List Int32 := List.replicate 19 0 ++ [16]
theorem m_request (hN : mN t) {p1 p2 : Int32} : ∃ te, M_request t p1 p2 = M_send te p1 p2 1 (nI 1) 1 0 0 ∧ mfr [146] t te ∧ ∀ i, i < 20 → te.I 146 i = askE.getD i 0 := by
  have loop : ∀ k j, j + k = 20 → ∀ t1, mfr [146] t t1 → (∀ i, i < j → t1.I 146 i = 0) → ∃ te, lp (fun x : Int32 × moS => M_request_s2 x.2 p1 p2 x.1) (nI j, t1) = M_send te p1 p2 1 (nI 1) 1 0 0 ∧ mfr [146] t te ∧ ∀ i, i < 20 → te.I 146 i = askE.getD i 0 := by
    intro k
    induction k with
    | zero =>
      intro j hj t1 m1 hz
      have hj : j = 20 := by omega
      subst hj
      have n6 : t1.N 146 = 700 := n146 (hN.fr m1 rfl)
      refine ⟨moSI t1 146 19 16, lp_x ?_, m1.tr (mfr.si (by decide)), fun i hi => ?_⟩
      · show M_request_s2 t1 p1 p2 (nI 20) = _
        unfold M_request_s2
        rw [if_neg (by decide)]
        refine congrArg xo ?_
        refine (sw_I (i := 19) n6 (by decide) (by decide)).trans ?_
        have fin : ∀ o : Option moS, Option.bind o (fun s1 => some s1) = o := fun o => by cases o <;> rfl
        exact fin _
      · rw [moSI_s]
        by_cases c : i = 19
        · rw [c, upd_s]; rfl
        · rw [upd_n c, hz i (by omega)]
          unfold askE
          rw [gd_l (by rw [List.length_replicate]; omega), List.getD_eq_getElem?_getD, List.getElem?_replicate_of_lt (by omega)]; rfl
    | succ k ih =>
      intro j hj t1 m1 hz
      have n6 : t1.N 146 = 700 := n146 (hN.fr m1 rfl)
      have st : M_request_s2 t1 p1 p2 (nI j) = some (.inl (nI (j + 1), moSI t1 146 j 0)) := by
        unfold M_request_s2
        rw [if_pos (show nI j < 20 from nI_lt (b := 20) (by omega) (by decide)), nI_1]
        exact (sw_I n6 (by omega) (by decide)).trans rfl
      obtain ⟨te, e, a, b⟩ := ih (j + 1) (by omega) (moSI t1 146 j 0) (m1.tr (mfr.si (by decide))) fun i hi => by
        rw [moSI_s]
        by_cases c : i = j
        · rw [c, upd_s]
        · rw [upd_n c]; exact hz i (by omega)
      refine ⟨te, ?_, a, b⟩
      rw [lp_l (show (fun x : Int32 × moS => M_request_s2 x.2 p1 p2 x.1) (nI j, t1) = _ from st)]
      exact e
  exact loop 20 0 rfl t mfr.rf (fun i hi => absurd hi (Nat.not_lt_zero i))
end Mx
