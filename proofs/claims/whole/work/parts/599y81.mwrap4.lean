/-! The model's wrap, all of it. -/
section Wu
variable {t0 t : moS} {n q b m : Nat} {f : Nat → Int32} {V : chV} {E L y : List Int32} {v : kV} {cmd fa : Int32}
theorem MC.mf {W : List Nat} {t' : moS} (h : MC t q V) (c : mfr W t t') (d : dj [79, 80, 81, 82, 83, 84, 85, 86, 87, 88] W) : MC t' q V := by
  unfold MC
  rw [c.I 79 (d.n 79), c.I 80 (d.n 80), c.I 81 (d.n 81), c.I 82 (d.n 82), c.I 83 (d.n 83), c.I 84 (d.n 84), c.I 85 (d.n 85), c.I 86 (d.n 86), c.I 87 (d.n 87), c.I 88 (d.n 88)]
  exact h
/-- the password's bytes -/
theorem wf_P {p4 a5 a6 : Int32} (h : WF [147, 148] t0 t n f) (hN : mN t0) (hq : q < 24) (hl : y.length ≤ 16) (h80 : t0.I 80 q = nI y.length) (h81 : ∀ i, i < y.length → t0.I 81 (16 * q + i) = y.getD i 0) : ∃ t', WF [147, 148] t0 t' n (cpF f 8 y) ∧ M_wrap_b152 t (nI q) p4 a5 a6 0 = M_wrap_b191 t' (nI q) p4 a5 a6 := by
  have loop : ∀ k j, j + k = y.length → ∀ t1, WF [147, 148] t0 t1 n (fun i => if 8 ≤ i ∧ i < 8 + j then y.getD (i - 8) 0 else f i) → ∃ t', WF [147, 148] t0 t' n (cpF f 8 y) ∧ lp (fun x : Int32 × moS => M_wrap_s152 x.2 (nI q) p4 a5 a6 x.1) (nI j, t1) = M_wrap_b191 t' (nI q) p4 a5 a6 := by
    intro k
    induction k with
    | zero =>
      intro j hj t1 w1
      have hj : j = y.length := by omega
      subst hj
      have N1 : mN t1 := hN.fr w1.1 rfl
      refine ⟨t1, w1, lp_x ?_⟩
      show M_wrap_s152 t1 (nI q) p4 a5 a6 (nI y.length) = _
      unfold M_wrap_s152
      refine (sr_I (N1.n 80 24) hq (by decide)).trans ?_
      rw [w1.1.I 80 (by decide), h80, if_neg (nI_nlt (Nat.le_refl _) (by omega))]
    | succ k ih =>
      intro j hj t1 w1
      have N1 : mN t1 := hN.fr w1.1 rfl
      obtain ⟨t2, e2, w2⟩ := wf_w (v := y.getD j 0) w1 (show 8 + j < 700 by omega)
      have st : M_wrap_s152 t1 (nI q) p4 a5 a6 (nI j) = some (.inl (nI (j + 1), t2)) := by
        unfold M_wrap_s152
        refine (sr_I (N1.n 80 24) hq (by decide)).trans ?_
        rw [w1.1.I 80 (by decide), h80, if_pos (nI_lt (by omega) (by omega)), nI_1, show (16 : Int32) * nI q + nI j = nI (16 * q + j) by rw [show (16 : Int32) = nI 16 from rfl, pk_mul, nI_add]]
        refine (sr_I (N1.n 81 384) (by omega) (by decide)).trans ?_
        rw [w1.1.I 81 (by decide), h81 j (by omega), show (8 : Int32) + nI j = nI (8 + j) from nI_add 8 j, e2]
        rfl
      obtain ⟨t', w, e⟩ := ih (j + 1) (by omega) t2 (wf_e w2 fun i hi => by
        by_cases c : i = 8 + j
        · rw [c, upd_s]
          show _ = if 8 ≤ 8 + j ∧ 8 + j < 8 + (j + 1) then y.getD (8 + j - 8) 0 else f (8 + j)
          rw [if_pos (by omega), Nat.add_sub_cancel_left]
        · rw [upd_n c]
          show (if 8 ≤ i ∧ i < 8 + j then y.getD (i - 8) 0 else f i) = if 8 ≤ i ∧ i < 8 + (j + 1) then y.getD (i - 8) 0 else f i
          by_cases c2 : 8 ≤ i ∧ i < 8 + j
          · rw [if_pos c2, if_pos (by omega)]
          · rw [if_neg c2, if_neg (by omega)])
      refine ⟨t', w, ?_⟩
      rw [lp_l (show (fun x : Int32 × moS => M_wrap_s152 x.2 (nI q) p4 a5 a6 x.1) (nI j, t1) = _ from st)]
      exact e
  obtain ⟨t', w, e⟩ := loop y.length 0 (by omega) t (wf_e h fun i hi => (if_neg (by omega)).symm)
  exact ⟨t', w, e⟩
/-- a head, and entries behind -/
theorem wf_o {K : List Int32} (h : WF [147, 148] t0 t (K.length + E.length) (cpF f K.length E)) (hf : ∀ i, i < K.length → f i = K.getD i 0) (hl : K.length + E.length ≤ 600) : OU t (K ++ E) := by
  have ll : (K ++ E).length = K.length + E.length := List.length_append
  refine ⟨by rw [h.2.1, ll], by omega, fun i hi => ?_⟩
  rw [h.2.2.2 i (by omega)]
  by_cases c : i < K.length
  · rw [cpF_l c, gd_l c, hf i c]
  · rw [gd_r (by omega)]
    have e := cpF_m (f := f) (p := K.length) (E := E) (i := i - K.length) (by omega)
    rw [show K.length + (i - K.length) = i by omega] at e
    exact e
theorem pw_24 {cmd : Int32} (hl : y.length ≤ 16) : ∀ i, i < 24 → cpF (p2F (p2F (upd (upd (fun _ => 0) 0 cmd) 1 2) 4 65535) 6 2) 8 y i = (hdL cmd 2 ++ pwL y).getD i 0 := by
  intro i hi
  by_cases c : i < 8
  · have e : tl (p2F (p2F (upd (upd (fun _ => 0) 0 cmd) 1 2) 4 65535) 6 2) 8 = hdL cmd 2 ++ [255, 255, 0, 2] := rfl
    unfold pwL
    rw [cpF_l c, ← List.append_assoc, gd_l (show i < (hdL cmd 2 ++ [255, 255, 0, 2]).length from c), ← e, tl_get c]
  · unfold pwL
    rw [← List.append_assoc, gd_r (show (hdL cmd 2 ++ [255, 255, 0, 2]).length ≤ i by show 8 ≤ i; omega), show (hdL cmd 2 ++ ([255, 255, 0, 2] : List Int32)).length = 8 from rfl, tl_get (by omega)]
    by_cases c2 : i < 8 + y.length
    · have e := cpF_m (f := p2F (p2F (upd (upd (fun _ => 0) 0 cmd) 1 2) 4 65535) 6 2) (p := 8) (E := y) (i := i - 8) (by omega)
      rw [show 8 + (i - 8) = i by omega] at e
      exact e
    · rw [cpF_r (by omega), p2F_n (by omega), p2F_n (by omega), upd_n (by omega), upd_n (by omega), List.getD_eq_getElem?_getD, List.getElem?_eq_none (by omega)]
      rfl
theorem m_wrap (hN : mN t) (hq : q < 24) (hV : VV V) (hM : MC t q V) (hfa : bit fa) (hm : E.length = 20 * m) (h5 : E.length ≤ 560) (h5k : V.1 = 2 → E.length ≤ 520) (hE : ∀ i, i < E.length → t.I 146 i = E.getD i 0) : (wrL V fa (t.S 1) (t.I 89 q) cmd E = none → ∃ t', M_wrap t (nI q) fa cmd (nI m) = some (0, t') ∧ mfr [147, 148] t t') ∧ ∀ L, wrL V fa (t.S 1) (t.I 89 q) cmd E = some L → ∃ t', M_wrap t (nI q) fa cmd (nI m) = some (1, t') ∧ OU t' L ∧ mfr Wsm (if fa = 0 ∧ V.1 = 2 then moSI t 89 q (t.I 89 q + 1) else t) t' := by
  obtain ⟨t1, n1, w1, e1⟩ := wf_0 (p1 := nI q) (p2 := fa) (p3 := cmd) (p4 := nI m) (n147 hN)
  obtain ⟨t2, e2, w2⟩ := wf_w (i := 0) (v := cmd) w1 (by decide)
  have h6 := n146 hN
  obtain ⟨hv1, hv2, hv3, hv4, hv5, -⟩ := hV
  -- without keys
  have plain : ∀ u : Int32, ∀ t4, WF [147, 148] t t4 4 (upd (upd (fun _ => 0) 0 cmd) 1 u) → ∃ t', M_wrap_b66 t4 (nI q) (nI m) 0 = some (1, t') ∧ OU t' (hdL cmd u ++ E) ∧ mfr Wsm t t' := by
    intro u t4 w4
    obtain ⟨t5, w5, e5⟩ := wf_E (p1 := nI q) (a5 := 0) (a6 := -1) w4 h6 hm h5 hE (by omega)
    refine ⟨t5, ?_, wf_o (K := hdL cmd u) w5 ?_ (by show 4 + E.length ≤ 600; omega), w5.1.wk (by decide)⟩
    · unfold M_wrap_b66 M_wrap_b83 M_wrap_b99 M_wrap_b143
      rw [if_neg (by decide), if_neg (by decide), if_neg (by decide), if_neg (by decide), e5, if_pos (by decide)]
    · intro i hi
      have hi : i < 4 := hi
      rw [← show tl (upd (upd (fun _ => 0) 0 cmd) 1 u) 4 = hdL cmd u from rfl, tl_get hi]
  rw [e1, show (0 : Int32) = nI 0 from rfl, e2]
  show (wrL V fa (t.S 1) (t.I 89 q) cmd E = none → ∃ t', (if fa = 0 then M_wrap_b46 t2 (nI q) fa (nI m) 1 2 else M_wrap_b46 t2 (nI q) fa (nI m) 1 1) = _ ∧ _) ∧ ∀ L, wrL V fa (t.S 1) (t.I 89 q) cmd E = some L → ∃ t', (if fa = 0 then M_wrap_b46 t2 (nI q) fa (nI m) 1 2 else M_wrap_b46 t2 (nI q) fa (nI m) 1 1) = _ ∧ _
  rcases hfa with rfl | rfl
  rotate_left
  · obtain ⟨t3, e3, w3⟩ := wf_w (i := 1) (v := 1) w2 (by decide)
    obtain ⟨t', r1, r2, r3⟩ := plain 1 _ (wf_n (m := 4) w3)
    have ew : wrL V 1 (t.S 1) (t.I 89 q) cmd E = some (hdL cmd 1 ++ E) := if_neg (by decide)
    rw [ew]
    refine ⟨(fun z => by cases z), fun L hL => ?_⟩
    cases hL
    refine ⟨t', ?_, r2, by rw [if_neg (fun z => absurd z.1 (by decide))]; exact r3⟩
    rw [if_neg (by decide)]
    unfold M_wrap_b46
    show Option.bind (wrI t2 147 (nI 1) 1) _ = _
    rw [e3]
    exact r1
  obtain ⟨t3, e3, w3⟩ := wf_w (i := 1) (v := 2) w2 (by decide)
  have w4 := wf_n (m := 4) w3
  generalize ht4 : moSS t3 148 (nI 4) = t4 at w4
  have N4 : mN t4 := hN.fr w4.1 rfl
  have hM4 : MC t4 q V := hM.mf w4.1 rfl
  rw [if_pos rfl]
  have eb : M_wrap_b46 t2 (nI q) 0 (nI m) 1 2 = M_wrap_b66 t4 (nI q) (nI m) (nI V.1) := by
    unfold M_wrap_b46
    rw [show (1 : Int32) = nI 1 from rfl, e3]
    refine (show _ = Option.bind (rdI t4 79 (nI q)) (fun x3 => M_wrap_b66 t4 (nI q) (nI m) x3) from ?_).trans ?_
    · rw [← ht4]; rfl
    refine (sr_I (N4.n 79 24) hq (by decide)).trans ?_
    rw [hM4.1]
  rw [eb]
  unfold wrL
  rw [if_pos rfl]
  rcases (show V.1 = 0 ∨ V.1 = 1 ∨ V.1 = 2 by omega) with z | z | z
  · obtain ⟨t', r1, r2, r3⟩ := plain 2 t4 w4
    rw [if_pos z, z]
    refine ⟨(fun z => by cases z), fun L hL => ?_⟩
    cases hL
    exact ⟨t', r1, r2, by rw [if_neg (fun z => absurd z.2 (by decide))]; exact r3⟩
  · rw [z, if_neg (by decide), if_pos rfl]
    refine ⟨(fun z => by cases z), fun L hL => ?_⟩
    cases hL
    obtain ⟨sy1, sy2, -⟩ := hv4 z
    obtain ⟨p80, p81⟩ := hM.2.2.2 z
    obtain ⟨t5, e5, w5⟩ := wf_2 (i := 4) (v := 65535) w4 (by decide)
    obtain ⟨t6, e6, w6⟩ := wf_2 (i := 6) (v := 2) w5 (by decide)
    obtain ⟨t7, w7, e7⟩ := wf_P (p4 := nI m) (a5 := 1) (a6 := -1) (wf_n (m := 24) w6) hN hq sy2 p80 p81
    obtain ⟨t8, w8, e8⟩ := wf_E (p1 := nI q) (a5 := 1) (a6 := -1) w7 h6 hm h5 hE (by omega)
    refine ⟨t8, ?_, wf_o (K := hdL cmd 2 ++ pwL V.2.1) w8 (pw_24 sy2) (by show 24 + E.length ≤ 600; omega), by rw [if_neg (fun z => absurd z.2 (by decide))]; exact w8.1.wk (by decide)⟩
    unfold M_wrap_b66 M_wrap_b83 M_wrap_b99
    rw [if_neg (by decide), if_neg (by decide), if_pos (by decide), show (4 : Int32) = nI 4 from rfl, e5]
    show (if (nI 1) = 1 then M_wrap_b134 t5 (nI q) (nI m) (nI 1) (-1) 6 2 else M_wrap_b134 t5 (nI q) (nI m) (nI 1) (-1) 6 3) = _
    rw [if_pos (show nI 1 = 1 from rfl)]
    unfold M_wrap_b134
    show Option.bind (M_put2 t5 147 (nI 6) 2) _ = _
    rw [e6]
    show M_wrap_b143 (moSS t6 148 (nI 24)) (nI q) (nI m) 1 (-1) = _
    unfold M_wrap_b143
    rw [if_pos rfl, e7, e8, if_pos (by decide)]
  · rw [z, if_neg (by decide), if_neg (by decide)]
    have eB := m_born N4 hq hM4 hv2
    rw [w4.1.S 1 (by decide)] at eB
    have e66 : ∀ o, M_bornKey t4 (nI q) = some o → M_wrap_b66 t4 (nI q) (nI m) (nI 2) = M_wrap_b83 t4 (nI q) (nI m) 2 o := fun o ho => by
      unfold M_wrap_b66
      rw [if_pos (by decide), ho]
      rfl
    rw [e66 _ eB]
    cases ek : bkN (t.S 1) V.2.2 V.2.2.length with
    | none =>
      refine ⟨fun _ => ⟨t4, ?_, w4.1⟩, fun L hL => by cases hL⟩
      unfold M_wrap_b83
      rw [if_pos rfl]
      show (if (-1 : Int32) = -1 then _ else _) = _
      rw [if_pos rfl]
      rfl
    | some b =>
      refine ⟨(fun z => by cases z), fun L hL => ?_⟩
      cases hL
      obtain ⟨hb, -⟩ := bkN_b _ _ _ _ ek
      have hgk := gk_D hb
      generalize hv : V.2.2.getD b k0V = v at hgk
      obtain ⟨q1, q2, q3, q4, -⟩ := hM.2.2.1 b v hgk
      obtain ⟨t5, e5, w5⟩ := wf_2 (i := 4) (v := 65535) w4 (by decide)
      obtain ⟨t6, e6, w6⟩ := wf_2 (i := 6) (v := 3) w5 (by decide)
      obtain ⟨t7, w7, e7⟩ := wf_E (p1 := nI q) (a5 := 2) (a6 := nI (4 * q + b)) (wf_n (m := 24) w6) h6 hm h5 hE (by omega)
      obtain ⟨t8, r1, r2, r3⟩ := m_wk (cmd := cmd) w7 hN hq (by omega) ⟨q1, q2, q3, q4⟩ (hv5 b v hgk) (h5k z)
      refine ⟨t8, ?_, (by show OU t8 (krL cmd (V.2.2.getD b k0V) (t.I 89 q) E ++ seL (V.2.2.getD b k0V) (krL cmd (V.2.2.getD b k0V) (t.I 89 q) E)); rw [hv]; exact r2), by rw [if_pos ⟨rfl, rfl⟩]; exact r3⟩
      have N7 : mN t7 := hN.fr w7.1 rfl
      unfold M_wrap_b83
      rw [if_pos rfl, if_neg (ixO_n (by omega))]
      show M_wrap_b99 t4 (nI q) (nI m) 2 (nI (4 * q + b)) = _
      unfold M_wrap_b99
      rw [if_pos (by decide), show (4 : Int32) = nI 4 from rfl, e5]
      show (if (2 : Int32) = 1 then M_wrap_b134 t5 (nI q) (nI m) 2 (nI (4 * q + b)) 6 2 else M_wrap_b134 t5 (nI q) (nI m) 2 (nI (4 * q + b)) 6 3) = _
      rw [if_neg (by decide)]
      unfold M_wrap_b134
      show Option.bind (M_put2 t5 147 (nI 6) 3) _ = _
      rw [e6]
      show M_wrap_b143 (moSS t6 148 (nI 24)) (nI q) (nI m) 2 (nI (4 * q + b)) = _
      unfold M_wrap_b143
      rw [if_neg (by decide), e7, if_neg (by decide)]
      refine (sr_I (N7.n 84 96) (by omega) (by decide)).trans ?_
      rw [w7.1.I 84 (by decide), q2, ← r1]
      unfold szK
      by_cases c : v.2.1 = 0
      · rw [if_pos c, if_pos c]
      · rw [if_neg c, if_neg c]
end Wu
