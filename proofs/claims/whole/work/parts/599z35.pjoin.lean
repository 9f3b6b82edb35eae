/-! Lines: join, both sides. -/
section Pj
variable {G H : Nat → Nat → Nat} {sa : Nat → Nat} {rd x kc ks : Nat} {s : cS} {t : moS} {l : List Int32} {ws : List (Nat × Nat)} {Os : Nat → List Pf} {B : Int32 → Prop}
theorem ifF_none {f : Nat → Int32} {v : Int32} : ∀ {k j : Nat}, ifF' f v k j = none → ∀ i, j ≤ i → i < j + k → f i ≠ v
  | 0, j, _, i, h1, h2 => absurd h1 (by omega)
  | k + 1, j, h, i, h1, h2 => by
    have h : (if f j = v then some j else ifF' f v k (j + 1)) = none := h
    split at h
    · cases h
    · rename_i e
      by_cases c : i = j
      · rw [c]; exact e
      · exact ifF_none h i (by omega) (by omega)
theorem P_join (h : LX G H sa x rd s t l ws) (hE : EX Os t) (hO : ∀ r, (Os r).length < 760) (hs : ∀ i, i < cL t → ¬ t.I 23 i + 1 < 0) (hkc : PoC s G H t + 64 ≤ kc) (hks : PoS s G H t + 1200 ≤ ks) (hB : 4 ≤ ws.length → (ws.getD 3 (0, 0)).1 + 4 ≤ (ws.getD 3 (0, 0)).2 → ∀ c, B c) : LU G H sa x s t kc ks Os B (M_lineJoin t) (C_Re_joinLine sa rd s kc ks) := by
  have hn := h.nw
  have h6 := h.mv.nR
  have h10 : cL t ≤ 10 := h.mv.1.2.2.2.2.2.1.n.2.2
  obtain ⟨sh1, sh2, sh3⟩ := m_shapeJ h
  by_cases n4 : ws.length < 4
  · refine LU.no h hE mfr.rf 2 (sh1 n4) fun Q kq => ?_
    unfold C_Re_joinLine
    refine ⟨_, gd_to h.or, ?_⟩
    rw [w_tot h]
    exact ifT (nI_lt (b := 4) n4 (by decide)) (kq s fp.rf)
  have n4' : ¬ nI ws.length < (4 : Int32) := nI_nlt (b := 4) (by omega) (by omega)
  by_cases sh : ∃ P, jP (wC l ws) ws.length ws.length 4 0 = some P ∧ jOk (wC l ws) P
  rotate_left
  · refine LU.no h hE mfr.rf 2 (sh2 (by omega) fun P hP ok => sh ⟨P, hP, ok⟩) fun Q kq => ?_
    unfold C_Re_joinLine
    refine ⟨_, gd_to h.or, ?_⟩
    rw [w_tot h]
    exact ifF n4' ⟨h.or, w_hasJ h (by omega) (fun P hP ok => absurd ⟨P, hP, ok⟩ sh) fun _ => ifT rfl (kq s fp.rf)⟩
  obtain ⟨P, hP, ok⟩ := sh
  have em := sh3 (by omega) P hP ok
  obtain ⟨-, ⟨o1, o2⟩, ⟨p1, p2⟩, -⟩ := id h.rc
  -- the names
  have cls : ∀ Q : Int32 → cS → Nat → Nat → Prop, (if (nmF (t.J 38) (wM l ws 1) (cR t) 0).map (G 1) = none then Q 3 s kc ks else if (nmF (t.J 18) (wM l ws 2) (cL t) 0).map (G 0) = none then Q 3 s kc ks else C_Re_takePrefix sa rd (nI 3) 1 s kc ks (fun r8 sr8 cr8 dr8 => (if r8 = 0 then (Q (5 : Int32) sr8 cr8 dr8) else (ob ((nmF (t.J 38) (wM l ws 1) (cR t) 0).map (G 1)) (fun b9 => (okO sr8 9 b9 ∧ C_Rr_portOn sa b9 ((nmF (t.J 18) (wM l ws 2) (cL t) 0).map (G 0)) sr8 cr8 dr8 (fun r10 sr10 cr10 dr10 => (if r10 = none then ((C_Re_joinLine_b83 sa rd (some b9) ((nmF (t.J 18) (wM l ws 2) (cL t) 0).map (G 0)) r10 sr10 cr10 dr10 Q)) else (ob (gP sr10 7 6 rd) (fun v11 => (ob v11 (fun b12 => (ob (gI sr10 5 0 b12) (fun v13 => (ob r10 (fun b14 => (okO sr10 4 b14 ∧ C_Po_addressOf sa b14 v13 sr10 cr10 dr10 (fun r15 sr15 cr15 dr15 => (if r15 = none then ((C_Re_joinLine_b83 sa rd (some b9) ((nmF (t.J 18) (wM l ws 2) (cL t) 0).map (G 0)) (some b14) sr15 cr15 dr15 Q)) else (Q (3 : Int32) sr15 cr15 dr15)))))))))))))))))))) → C_Re_joinLine sa rd s kc ks Q := by
    intro Q k
    unfold C_Re_joinLine
    refine ⟨_, gd_to h.or, ?_⟩
    rw [w_tot h]
    refine ifF n4' ⟨h.or, w_hasJ h (by omega) (fun _ _ _ => ifF (by decide) ⟨h.or, w_routerNamed h.q h.mv h.rc (i := 1) (by omega) (by decide) ?_⟩) (fun z => absurd ok (z P hP))⟩
    refine ⟨_, gd_to o1, o1, w_linkNamed h.q h.mv h.rc (i := 2) (by omega) (by decide) ⟨_, p1, o2, ?_⟩⟩
    have fin : ∀ r7, r7 = (nmF (t.J 18) (wM l ws 2) (cL t) 0).map (G 0) → (if Option.map (G 1) (nmF (t.J 38) (wM l ws 1) (cR t) 0) = none then (Q (3 : Int32) s kc ks) else (if r7 = none then (Q (3 : Int32) s kc ks) else (okO s 7 rd ∧ C_Re_takePrefix sa rd (3 : Int32) (1 : Int32) s kc ks (fun r8 sr8 cr8 dr8 => (if r8 = 0 then (Q (5 : Int32) sr8 cr8 dr8) else (ob (Option.map (G 1) (nmF (t.J 38) (wM l ws 1) (cR t) 0)) (fun b9 => (okO sr8 9 b9 ∧ C_Rr_portOn sa b9 r7 sr8 cr8 dr8 (fun r10 sr10 cr10 dr10 => (if r10 = none then ((C_Re_joinLine_b83 sa rd (some b9) r7 r10 sr10 cr10 dr10 Q)) else (ob (gP sr10 7 6 rd) (fun v11 => (ob v11 (fun b12 => (ob (gI sr10 5 0 b12) (fun v13 => (ob r10 (fun b14 => (okO sr10 4 b14 ∧ C_Po_addressOf sa b14 v13 sr10 cr10 dr10 (fun r15 sr15 cr15 dr15 => (if r15 = none then ((C_Re_joinLine_b83 sa rd (some b9) r7 (some b14) sr15 cr15 dr15 Q)) else (Q (3 : Int32) sr15 cr15 dr15)))))))))))))))))))))) := by
      intro r7 e7
      rw [e7]
      by_cases en : Option.map (G 1) (nmF (t.J 38) (wM l ws 1) (cR t) 0) = none
      · rw [if_pos en] at k
        exact ifT en k
      · rw [if_neg en] at k
        refine ifF en ?_
        by_cases el : Option.map (G 0) (nmF (t.J 18) (wM l ws 2) (cL t) 0) = none
        · rw [if_pos el] at k
          exact ifT el k
        · rw [if_neg el] at k
          exact ifF el ⟨o1, k⟩
    cases el : nmF (t.J 18) (wM l ws 2) (cL t) 0 with
    | none =>
      have el' : nmF (t.J 18) (nmW (vc l) (ws.getD 2 (0, 0)).1 ((ws.getD 2 (0, 0)).2 - (ws.getD 2 (0, 0)).1)) (cL t) 0 = none := el
      rw [el']
      exact w_linkAt h.q h.mv (fun _ => fin none (by rw [el]; rfl)) fun i hi z => absurd z.symm (oI_n1 i (by omega))
    | some i =>
      have el' : nmF (t.J 18) (nmW (vc l) (ws.getD 2 (0, 0)).1 ((ws.getD 2 (0, 0)).2 - (ws.getD 2 (0, 0)).1)) (cL t) 0 = some i := el
      rw [el']
      exact w_la h.q h.mv (show i < cL t by have := nmF_s el; omega) (fin _ (by rw [el]; rfl))
  have em2 : M_lineJoin t = if oI (nmF (t.J 38) (wM l ws 1) (cR t) 0) = ((-1) : Int32) then ((some ((3 : Int32), t))) else (if oI (nmF (t.J 18) (wM l ws 2) (cL t) 0) = ((-1) : Int32) then ((some ((3 : Int32), t))) else (bn2 (M_isAddressWithLength t (3 : Int32)) (fun x6 s5 => (if x6 = 0 then ((some ((5 : Int32), s5))) else (Option.bind (M_interfaceTo s5 (oI (nmF (t.J 38) (wM l ws 1) (cR t) 0)) (oI (nmF (t.J 18) (wM l ws 2) (cL t) 0))) (fun x7 => (if x7 = ((-1) : Int32) then ((M_lineJoin_b206 s5 (nI (jW 1 P)) (nI (jW 2 P)) (nI (jW 3 P)) (nI (jW 4 P)) (nI (jW 5 P)) (oI (nmF (t.J 38) (wM l ws 1) (cR t) 0)) (oI (nmF (t.J 18) (wM l ws 2) (cL t) 0)) x7)) else (Option.bind (rdI s5 75 (((2 : Int32) * x7) + (moS.S s5 12))) (fun x8 => (if x8 = 0 then ((M_lineJoin_b206 s5 (nI (jW 1 P)) (nI (jW 2 P)) (nI (jW 3 P)) (nI (jW 4 P)) (nI (jW 5 P)) (oI (nmF (t.J 38) (wM l ws 1) (cR t) 0)) (oI (nmF (t.J 18) (wM l ws 2) (cL t) 0)) x7)) else ((some ((3 : Int32), s5))))))))))))) := by
    rw [em]
    unfold M_lineJoin_b125
    rw [show M_name t 1 = some (wM l ws 1) from h.name (i := 1) (by omega)]
    simp only [Option.bind_some, m_routerNamed h.mv]
    rw [show M_name t 2 = some (wM l ws 2) from h.name (i := 2) (by omega)]
    simp only [Option.bind_some, m_linkNamed h.mv]
  cases er : nmF (t.J 38) (wM l ws 1) (cR t) 0 with
  | none =>
    rw [er] at em2 cls
    rw [if_pos (show oI none = -1 from rfl)] at em2
    exact LU.no h hE mfr.rf 3 em2 fun Q kq => cls Q (by rw [if_pos (show Option.map (G 1) none = none from rfl)]; exact kq s fp.rf)
  | some r =>
  have hr : r < cR t := by have := nmF_s er; omega
  rw [er] at em2 cls
  rw [if_neg (oI_n1 r (by omega))] at em2
  simp only [if_neg (show ¬ Option.map (G 1) (some r) = none by simp)] at cls
  cases el : nmF (t.J 18) (wM l ws 2) (cL t) 0 with
  | none =>
    rw [el] at em2 cls
    rw [if_pos (show oI none = -1 from rfl)] at em2
    exact LU.no h hE mfr.rf 3 em2 fun Q kq => cls Q (by rw [if_pos (show Option.map (G 0) none = none from rfl)]; exact kq s fp.rf)
  | some lk =>
  have hl : lk < cL t := by have := nmF_s el; omega
  rw [el] at em2 cls
  rw [if_neg (oI_n1 lk (by omega))] at em2
  simp only [if_neg (show ¬ Option.map (G 0) (some lk) = none by simp)] at cls
  have em2 : M_lineJoin t = (bn2 (M_isAddressWithLength t (nI 3)) (fun x6 s5 => (if x6 = 0 then ((some ((5 : Int32), s5))) else (Option.bind (M_interfaceTo s5 (nI r) (nI lk)) (fun x7 => (if x7 = ((-1) : Int32) then ((M_lineJoin_b206 s5 (nI (jW 1 P)) (nI (jW 2 P)) (nI (jW 3 P)) (nI (jW 4 P)) (nI (jW 5 P)) (nI r) (nI lk) x7)) else (Option.bind (rdI s5 75 (((2 : Int32) * x7) + (moS.S s5 12))) (fun x8 => (if x8 = 0 then ((M_lineJoin_b206 s5 (nI (jW 1 P)) (nI (jW 2 P)) (nI (jW 3 P)) (nI (jW 4 P)) (nI (jW 5 P)) (nI r) (nI lk) x7)) else ((some ((3 : Int32), s5)))))))))))) := em2
  clear em sh1 sh2 sh3
  rcases aw_both h (i := 3) (by omega) (by decide) with ⟨t1, e1, m1, c1⟩ | ⟨t1, f, a, b, m, e1, m1, hPx, c1⟩
  · refine LU.no h hE m1 5 ?_ fun Q kq => cls Q (c1 kc ks _ fun s1 f1 => ifT rfl (kq s1 f1))
    rw [em2, e1]
    rfl
  have hBc := hB (by omega) (awl_4 h (i := 3) (by omega) e1 (by decide))
  obtain ⟨i1, i0, i2, i3, i4, i5⟩ := hPx
  obtain ⟨f', hf', ef⟩ : ∃ f', (f' = 0 ∨ f' = 1) ∧ f = nI f' := by
    rcases i0 with e | e
    · exact ⟨0, Or.inl rfl, e⟩
    · exact ⟨1, Or.inr rfl, e⟩
  subst ef
  have L0 := lx_fm h fp.rf m1
  have hM1 := L0.mv
  have hE1 := hE.lo h.mv hM1 m1
  have hr1 : r < cR t1 := by unfold cR; rw [m1.S 37 (by decide)]; exact hr
  have hl1 : lk < cL t1 := by unfold cL; rw [m1.S 17 (by decide)]; exact hl
  have h4 := hM1.nIf hr1
  have hnn : rng (nI m) 0 (if f' = 0 then 32 else 128) := by
    refine ⟨m, rfl, Nat.zero_le _, ?_⟩
    rcases hf' with rfl | rfl <;> exact i5
  have hs1 : ¬ t1.I 23 lk + 1 < 0 := by rw [m1.I 23 (by decide)]; exact hs lk hl
  have zt := fun (s : cS) => pot_t (G := G) (H := H) (s := s) m1 rfl
  rw [e1, bn2_s, if_neg (by decide), m_interfaceTo hM1 hr1] at em2
  -- the class from the address on
  have cls2 : ∀ Q : Int32 → cS → Nat → Nat → Prop, (∀ s1, LX G H sa x rd s1 t1 l ws → PF s1 (H 146 rd) (fam (nI f')) a b (nI m) → kp x s s1 → PoC s1 G H t1 = PoC s G H t → PoS s1 G H t1 = PoS s G H t → (if (ifF' (t1.I 71) (nI lk) (cI t1 r) (4 * r)).map (G 2) = none then C_Re_joinLine_b83 sa rd (some (G 1 r)) (some (G 0 lk)) ((ifF' (t1.I 71) (nI lk) (cI t1 r) (4 * r)).map (G 2)) s1 kc ks Q else ob ((ifF' (t1.I 71) (nI lk) (cI t1 r) (4 * r)).map (G 2)) (fun b14 => (okO s1 4 b14 ∧ C_Po_addressOf sa b14 (fam (nI f')) s1 kc ks (fun r15 sr15 cr15 dr15 => (if r15 = none then ((C_Re_joinLine_b83 sa rd (some (G 1 r)) (some (G 0 lk)) (some b14) sr15 cr15 dr15 Q)) else (Q (3 : Int32) sr15 cr15 dr15))))))) → C_Re_joinLine sa rd s kc ks Q := by
    intro Q k
    refine cls Q (c1 kc ks _ fun s1 f1 hpf => ifF (by decide) ⟨_, rfl, ?_⟩)
    have L1 := lx_fm h f1 m1
    have zk := pot_kp (G := G) (H := H) (t := t1) f1.1 f1.2.1
    have q2 := k s1 L1 hpf (kp.e f1.1 f1.2.1 f1.2.2.2.1) (by rw [zk.1, (zt s).1]) (by rw [zk.2, (zt s).2])
    refine ⟨okr (L1.q.rt hr1).1.1 9, w_portOn L1.q hM1 hr1 hl1 ?_⟩
    by_cases en : (ifF' (t1.I 71) (nI lk) (cI t1 r) (4 * r)).map (G 2) = none
    · rw [if_pos en] at q2
      exact ifT en q2
    · rw [if_neg en] at q2
      obtain ⟨y1, y2, y3, -⟩ := L1.px
      refine ifF en ⟨_, gd_to L1.or, _, y1, _, gd_to y3, ?_⟩
      rw [show s1.I (20 * 5 + 0) (H 146 rd) = fam (nI f') from hpf.1]
      exact q2
  clear cls
  cases ei : ifF' (t1.I 71) (nI lk) (cI t1 r) (4 * r) with
  | none =>
    rw [ei] at cls2 em2
    have hno : ∀ p, p < cI t1 r → t1.I 71 (4 * r + p) ≠ nI lk := fun p hp => ifF_none ei _ (by omega) (by omega)
    obtain ⟨c, t', Os', z1, z2, z3, z4, z5, z6, z7⟩ := j_new (sa := sa) (x := x) (rd := rd) L0 hE1 hO hr1 hl1 hno hf' i1 i2 i3 i4 hnn hP ok hs1
    refine ⟨c, t', Os', ?_, z2, z3, Or.inr ⟨hBc c, z4⟩, (m1.wk (by decide)).tr (z5.wk (by decide)), fun i => by have := z6 i; rw [m1.I 23 (by decide)] at this; exact this, fun Q k => cls2 Q fun s1 L1 hpf eP k1 k2 => ?_⟩
    · rw [em2]
      exact z1
    · rw [if_pos (show Option.map (G 2) none = none from rfl)]
      exact z7 s1 kc ks L1 hpf (by rw [k1]; exact hkc) (by rw [k2]; exact hks) Q fun G' H' s' kc' ks' w1 w2 w3 w4 => k G' H' s' kc' ks' w1 (eP.tr w2) (by rw [k1] at w3; exact w3) (by rw [k2] at w4; exact w4)
  | some q =>
    rw [ei] at cls2 em2
    obtain ⟨y1, y2, y3⟩ := ifF_s ei
    obtain ⟨p, hp, eq⟩ : ∃ p, p < cI t1 r ∧ q = 4 * r + p := ⟨q - 4 * r, by omega, by omega⟩
    subst eq
    have q1 : ¬ oI (some (4 * r + p)) = -1 := oI_n1 (4 * r + p) (by omega)
    have ex : (2 : Int32) * oI (some (4 * r + p)) + t1.S 12 = nI (2 * (4 * r + p) + f') := by
      rw [i1, show (2 : Int32) = nI 2 from rfl]
      show nI 2 * nI (4 * r + p) + nI f' = _
      rw [pk_mul, nI_add]
    simp only [Option.bind_some] at em2
    rw [if_neg q1, ex, rdI_n (n := 48) (hM1.n.n 75 48) (by omega) (by decide)] at em2
    simp only [Option.bind_some] at em2
    have cls3 : ∀ Q : Int32 → cS → Nat → Nat → Prop, (∀ s1, LX G H sa x rd s1 t1 l ws → PF s1 (H 146 rd) (fam (nI f')) a b (nI m) → kp x s s1 → PoC s1 G H t1 = PoC s G H t → PoS s1 G H t1 = PoS s G H t → (if t1.I 75 (2 * (4 * r + p) + f') = 0 then C_Re_joinLine_b83 sa rd (some (G 1 r)) (some (G 0 lk)) (some (G 2 (4 * r + p))) s1 kc ks Q else Q 3 s1 kc ks)) → C_Re_joinLine sa rd s kc ks Q := by
      intro Q k
      refine cls2 Q fun s1 L1 hpf eP k1 k2 => ?_
      rw [if_neg (show ¬ Option.map (G 2) (some (4 * r + p)) = none by simp)]
      have q2 := k s1 L1 hpf eP k1 k2
      have hPo := L1.q.po hr1 hp
      have hra : RAd G s1 t1 (4 * r + p) f' := by
        rcases hf' with rfl | rfl
        · exact hPo.2.1
        · exact hPo.2.2.1
      have o8 : okO s1 4 (G 2 (4 * r + p)) := okr hPo.1.1 4
      refine ⟨_, rfl, o8, w_adOf hf' o8 ?_⟩
      by_cases z : t1.I 75 (2 * (4 * r + p) + f') = 0
      · rw [if_pos z] at q2
        exact ifT ((rad_n hra).mpr z) q2
      · rw [if_neg z] at q2
        exact ifF (fun y => z ((rad_n hra).mp y)) q2
    by_cases h75 : t1.I 75 (2 * (4 * r + p) + f') = 0
    · rw [if_pos h75] at em2
      obtain ⟨c, t', Os', z1, z2, z3, z4, z5, z6, z7⟩ := j_old (sa := sa) (x := x) (rd := rd) L0 hE1 hO hr1 hp hl1 y3 hf' h75 i1 i2 i3 i4 hnn hP ok hs1
      refine ⟨c, t', Os', ?_, z2, z3, Or.inr ⟨hBc c, z4⟩, (m1.wk (by decide)).tr (z5.wk (by decide)), fun i => by have := z6 i; rw [m1.I 23 (by decide)] at this; exact this, fun Q k => cls3 Q fun s1 L1 hpf eP k1 k2 => ?_⟩
      · rw [em2]
        exact z1
      · rw [if_pos h75]
        exact z7 s1 kc ks L1 hpf (by rw [k1]; exact hkc) (by rw [k2]; exact hks) Q fun G' H' s' kc' ks' w1 w2 w3 w4 => k G' H' s' kc' ks' w1 (eP.tr w2) (by rw [k1] at w3; exact w3) (by rw [k2] at w4; exact w4)
    · rw [if_neg h75] at em2
      refine ⟨3, t1, Os, em2, hM1, hE1, Or.inl rfl, m1.wk (by decide), fun i => Or.inl (by rw [m1.I 23 (by decide)]), fun Q k => cls3 Q fun s1 L1 hpf eP k1 k2 => ?_⟩
      rw [if_neg h75]
      exact k G H s1 kc ks L1.1 eP (by omega) (by omega)
end Pj
