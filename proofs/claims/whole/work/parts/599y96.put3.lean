/-! put: the whole. -/
section Pw
variable {G H : Nat → Nat → Nat} {sa : Nat → Nat} {x kc ks : Nat} {s : cS} {t : moS}
theorem cl_rs {t3 : moS} (m : mfr [147, 148] (clT t) t3) : ∃ tA, clT tA = t3 ∧ mfr [147, 148] t tA ∧ tA.I = t3.I ∧ tA.S 148 = t3.S 148 := by
  refine ⟨moSS (moSS t3 0 (t.S 0)) 3 (t.S 3), ?_, ?_, rfl, rfl⟩
  · refine Prod.ext (funext fun j => ?_) rfl
    show (if j = 3 then (0 : Int32) else if j = 0 then 0 else if j = 3 then t.S 3 else if j = 0 then t.S 0 else t3.S j) = t3.S j
    by_cases c3 : j = 3
    · rw [if_pos c3, c3, m.S 3 (by decide)]; rfl
    by_cases c0 : j = 0
    · rw [if_neg c3, if_pos c0, c0, m.S 0 (by decide)]; rfl
    · rw [if_neg c3, if_neg c0, if_neg c3, if_neg c0]
  · refine ⟨fun k hk => ⟨?_, (m.1 k hk).2.1, (m.1 k hk).2.2.1, (m.1 k hk).2.2.2⟩, m.2⟩
    show (if k = 3 then t.S 3 else if k = 0 then t.S 0 else t3.S k) = t.S k
    by_cases c3 : k = 3
    · rw [if_pos c3, c3]
    by_cases c0 : k = 0
    · rw [if_neg c3, if_pos c0, c0]
    · rw [if_neg c3, if_neg c0, m.S k hk]
      show (if k = 3 then (0 : Int32) else if k = 0 then 0 else t.S k) = t.S k
      rw [if_neg c3, if_neg c0]
theorem P_put (hR : RR G H sa x s t) (hM : MV t) (hs : ∀ l, l < cL t → ¬ t.I 23 l + 1 < 0) (hkc : plT s G H (cL t) + 5 * dN G t ≤ kc) (hks : 2 * plT s G H (cL t) + 622 * dN G t ≤ ks) (y1 y2 y3 y4 : Int32) : ∃ r t', M_put t y1 y2 y3 y4 = some (r, t') ∧ MV t' ∧ mfr ([0, 3, 147, 148] ++ Wgo) t t' ∧ (t'.I 23 = t.I 23 ∨ ∃ l, l < cL t ∧ t'.I 23 = upd (t.I 23) l (t.I 23 l + 1)) ∧ ∀ Q : Int32 → cS → Nat → Nat → Prop, PuK G H sa x s t t' kc ks (Q r) → C_Rf_put sa x y1 y2 y3 y4 s kc ks Q := by
  have hq := hR.q.1
  have hT := hq.ty
  have hx := hq.1.1
  have ox := okr hx 11
  have h220 := hT.p hx 220 1
  have otp := okr h220.2 0
  obtain ⟨n, h3, -, hn⟩ := hM.1.2.2.1
  obtain ⟨g1, g2, g3⟩ := m_put (po := y3) (ho := y4) hM hn h3
  obtain ⟨M0, R0, F0⟩ := tp_clr hR hM
  have i1 : s.I (20 * 0 + 1) (H 220 x) = nI n := by
    obtain ⟨cap, -, -, -, d, -, -, z, -⟩ := hR.q.2.1
    rw [tl_len, h3, nI_clamp (by omega)] at z
    exact z
  -- nothing goes
  have b187 : ∀ {Q : Int32 → cS → Nat → Nat → Prop}, PuK G H sa x s t (clT t) kc ks (Q 0) → C_Rf_put_b187 sa x 0 s kc ks Q := fun {Q} k => by
    unfold C_Rf_put_b187
    exact ⟨_, gd_to ox, _, h220.1, otp, c_clear otp ⟨Or.inl rfl, k G H _ kc ks R0 (fun _ _ _ => rfl) (fun _ _ _ => rfl) F0.wk (Nat.le_refl _) (Nat.le_refl _)⟩⟩
  have b84 : ∀ {Q : Int32 → cS → Nat → Nat → Prop} {a5 : Option Nat} {a6 : Int32}, PuK G H sa x s t (clT t) kc ks (Q 0) → C_Rf_put_b84 sa x y2 y3 y4 a5 a6 0 s kc ks Q := fun {Q a5 a6} k => by
    unfold C_Rf_put_b84
    exact ifT rfl (b187 k)
  have no : M_put t y1 y2 y3 y4 = some (0, clT t) → (∀ Q : Int32 → cS → Nat → Nat → Prop, PuK G H sa x s t (clT t) kc ks (Q 0) → C_Rf_put sa x y1 y2 y3 y4 s kc ks Q) → ∃ r t', M_put t y1 y2 y3 y4 = some (r, t') ∧ MV t' ∧ mfr ([0, 3, 147, 148] ++ Wgo) t t' ∧ (t'.I 23 = t.I 23 ∨ ∃ l, l < cL t ∧ t'.I 23 = upd (t.I 23) l (t.I 23 l + 1)) ∧ ∀ Q : Int32 → cS → Nat → Nat → Prop, PuK G H sa x s t t' kc ks (Q r) → C_Rf_put sa x y1 y2 y3 y4 s kc ks Q := fun e h => ⟨0, clT t, e, M0, (mfr.ss (by decide)).tr (mfr.ss (by decide)), Or.inl rfl, h⟩
  by_cases cf : y2 ≠ 4 ∧ y2 ≠ 6
  · refine no (g1 y2 cf y1) fun Q k => ?_
    unfold C_Rf_put
    refine ⟨ox, ?_⟩
    have b18 : ∀ {a5 : Option Nat} {u : Int32}, C_Rf_put_b18 sa x y2 y3 y4 a5 u s kc ks Q := fun {a5 u} => by
      unfold C_Rf_put_b18
      exact ⟨_, gd_to ox, _, h220.1, _, gd_to otp, ifF cf.1 (ifF cf.2 (b84 k))⟩
    by_cases ex : ∃ l, l < cL t ∧ y1 = nI l
    · obtain ⟨l, hl, rfl⟩ := ex
      exact w_la hq hM hl (ifF cf.1 b18)
    · exact w_ln hq hM (fun l hl z => ex ⟨l, hl, z⟩) (ifF cf.1 b18)
  have cf : ∃ f, (f = 0 ∨ f = 1) ∧ y2 = fam (nI f) := by
    by_cases c4 : y2 = 4
    · exact ⟨0, Or.inl rfl, c4⟩
    · have c6 : y2 = 6 := Classical.byContradiction fun z => cf ⟨c4, z⟩
      exact ⟨1, Or.inr rfl, c6⟩
  obtain ⟨f, hf, rfl⟩ := cf
  have hs16 : skN f ≤ 16 := by unfold skN; split <;> omega
  -- the length without the address
  have c18 : ∀ {Q : Int32 → cS → Nat → Nat → Prop} {a5 : Option Nat}, C_Rf_put_b43 sa x (fam (nI f)) y3 y4 a5 (nI (skN f)) (nI n - nI (skN f)) s kc ks Q → (if fam (nI f) = 4 then C_Rf_put_b18 sa x (fam (nI f)) y3 y4 a5 4 s kc ks Q else C_Rf_put_b18 sa x (fam (nI f)) y3 y4 a5 16 s kc ks Q) := fun {Q a5} h => by
    rcases hf with rfl | rfl
    · refine ifT rfl ?_
      unfold C_Rf_put_b18
      refine ⟨_, gd_to ox, _, h220.1, _, gd_to otp, ifT rfl ?_⟩
      rw [i1]; exact h
    · refine ifF (by decide) ?_
      unfold C_Rf_put_b18
      refine ⟨_, gd_to ox, _, h220.1, _, gd_to otp, ifF (by decide) (ifT rfl ?_)⟩
      rw [i1]; exact h
  by_cases ex : ∃ l, l < cL t ∧ y1 = nI l
  rotate_left
  · have hno : ∀ l, l < cL t → y1 ≠ nI l := fun l hl z => ex ⟨l, hl, z⟩
    refine no (g2 y1 hno _) fun Q k => ?_
    unfold C_Rf_put
    refine ⟨ox, w_ln hq hM hno (c18 ?_)⟩
    unfold C_Rf_put_b43
    exact ifT rfl (b84 k)
  obtain ⟨l, hl, rfl⟩ := ex
  obtain ⟨p1, p2⟩ := g3 l f hl hf
  have k7 := (hq.link hl).1.1
  have o3 := okr k7 3
  obtain ⟨-, -, ⟨-, -, e63, e64, -, -⟩, -⟩ := hq.link hl
  by_cases ok : puOk t l f n
  rotate_left
  · refine no (p1 ok) fun Q k => ?_
    unfold C_Rf_put
    refine ⟨ox, w_la hq hM hl (c18 ?_)⟩
    unfold C_Rf_put_b43
    refine ifF (by intro z; cases z) ⟨_, rfl, _, gd_to o3, ?_⟩
    rw [show s.I (20 * 3 + 4) (G 0 l) = t.I 22 l from e64]
    by_cases c0 : t.I 22 l = 0
    · exact ifT c0 (b84 k)
    refine ifF c0 ?_
    by_cases c1 : skN f ≤ n
    rotate_left
    · exact ifT (sb16 n (by omega) (skN f) (by omega) (by omega)) (b84 k)
    rw [nI_subn c1]
    refine ifF (nI_pos (by omega)) ?_
    by_cases c2 : n - skN f ≤ 564
    rotate_left
    · exact ifT (nI_lt (a := 564) (by omega) (by omega)) (b84 k)
    refine ifF (nI_nlt (a := 564) c2 (by decide)) ⟨_, gd_to o3, ?_⟩
    rw [show s.I (20 * 3 + 3) (G 0 l) = t.I 21 l from e63]
    exact ifT (Classical.byContradiction fun z => ok ⟨c0, c1, c2, z⟩) (b84 k)
  obtain ⟨t3, m3, o1, e1⟩ := p2 ok
  obtain ⟨tA, eA, mA, iA, sA⟩ := cl_rs m3
  have hMA : MV tA := hM.fr mA rfl (hM.1.fr mA rfl)
  have hOA : OU tA ((tl (t.I 2) n).drop (skN f)) := ⟨by rw [sA]; exact o1.1, o1.2.1, fun i hi => by rw [iA]; exact o1.2.2 i hi⟩
  have hRA : RR G H sa x s tA := hR.mf hM mA rfl rfl
  have hfa : bit (nI f) := by
    rcases hf with rfl | rfl
    · exact Or.inl rfl
    · exact Or.inr rfl
  have eL : cL tA = cL t := by unfold cL; rw [mA.S 17 (by decide)]
  have e23 : tA.I 23 = t.I 23 := mA.I 23 (by decide)
  obtain ⟨t', q1, q2, q3, q4⟩ := m_goX (fm := -1) (ta := 1) (th := 0) (tl := 0) (f' := nI f) (h := hiF (t.I 2) 0 f) (lo := loF (t.I 2) 0 f) (po := y3) (ho := y4) (tld := 0) hMA (by rw [eL]; exact hl) hOA (Or.inr rfl) hfa (Or.inl rfl) (by rw [e23]; exact hs l hl)
  have hMc : MV (clT tA) := (tp_clr hRA hMA).1
  obtain ⟨t'', r1, r2⟩ := m_goC (fm := -1) (ta := 1) (th := 0) (tl := 0) (f := nI f) (h := hiF (t.I 2) 0 f) (lo := loF (t.I 2) 0 f) (po := y3) (ho := y4) hMA hMc (by rw [eL]; exact hl) hOA (Or.inr rfl)
  have et : t'' = t' := Option.some.inj (r1.symm.trans q1)
  subst et
  rw [eA] at r2
  rw [r2] at e1
  have mc : mfr [0, 2, 3] t'' (clT t'') := (mfr.ss (by decide)).tr (mfr.ss (by decide))
  have mc' : mfr ([0, 3, 147, 148] ++ Wgo) t'' (clT t'') := (mfr.ss (by decide)).tr (mfr.ss (by decide))
  have hM'' : MV (clT t'') := q2.fr mc rfl (q2.1.tp mc (show (clT t'').S 3 = nI 0 from moSS_s) (by decide))
  refine ⟨1, clT t'', e1, hM'', (mA.wk (by decide)).tr ((q3.wk (by decide)).tr mc'), Or.inr ⟨l, hl, ?_⟩, fun Q k => ?_⟩
  · show t''.I 23 = _
    rw [q4, e23]
  obtain ⟨c0, c1, c2, c3⟩ := ok
  unfold C_Rf_put
  refine ⟨ox, w_la hq hM hl (c18 ?_)⟩
  unfold C_Rf_put_b43
  refine ifF (by intro z; cases z) ⟨_, rfl, _, gd_to o3, ?_⟩
  rw [show s.I (20 * 3 + 4) (G 0 l) = t.I 22 l from e64]
  refine ifF c0 ?_
  rw [nI_subn c1]
  refine ifF (nI_pos (by omega)) (ifF (nI_nlt (a := 564) c2 (by decide)) ⟨_, gd_to o3, ?_⟩)
  rw [show s.I (20 * 3 + 3) (G 0 l) = t.I 21 l from e63]
  exact ifF c3 (c_put84 hR hM hl hf hn h3 c1 c2 mA hMA hOA (hs l hl) hkc hks q1 q2 k)
end Pw
