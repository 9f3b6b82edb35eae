/-! An entry of a response: the model. -/
abbrev Ten : Type := Option ((Int64 × Int64 × Int32 × moS) ⊕ moS)
theorem gt_fr {W : List Nat} {t t' : moS} {X : Nat} {a b h : Int64} (m : mfr W t t') (d : dj [76, 77, 78] W) : gtH t' X a b h = gtH t X a b h ∧ gtL t' X a b h = gtL t X a b h := by
  unfold gtH gtL hpN
  rw [m.J 76 (d.n 76), m.J 77 (d.n 77), m.I 78 (d.n 78)]
  exact ⟨rfl, rfl⟩
section Me
variable {t : moS} {r p f e : Nat} {q lk X n' e' : Int32} {h l ha la me : Int64} {L : List Int32}
/-- an entry that is ignored -/
noncomputable def tlO (t : moS) (r : Nat) (ha la : Int64) (n : Int32) : Ten := Option.bind (M_tally t (nI r) (nI 4) 1) (fun s4 => some (.inl (ha, la, n + 1, s4)))
theorem m_e235 : M_takeAll_b235 t q (nI f) h l (nI r) lk X ha la n' e' me = tlO t r ha la n' := by
  unfold M_takeAll_b235 M_takeAll_b236
  rw [if_pos rfl]
  rfl
theorem m_eA : M_takeAll_b175 t q (nI f) h l (nI r) lk X ha la n' e' me = tlO t r ha la n' := by
  unfold M_takeAll_b175 M_takeAll_b176
  rw [if_pos rfl]
  exact m_e235
theorem m_eB (hM : MV t) (hr : r < cR t) (hl' : lnOk (nI f) (t.S 15)) : M_takeAll_b176 t q (nI f) h l (nI r) lk X ha la n' e' me 1 = if faV t r 0 (nI f) (t.Z 13) (t.Z 14) (t.S 15) = 0 ∨ daV t r 0 lk (nI f) (t.Z 13) (t.Z 14) (t.S 15) = 0 then tlO t r ha la n' else M_takeAll_b236 t q (nI f) h l (nI r) lk X ha la n' e' me 1 := by
  have eF : M_filterAllows t (nI r) 0 (nI f) (t.Z 13) (t.Z 14) (t.S 15) = some (faV t r 0 (nI f) (t.Z 13) (t.Z 14) (t.S 15)) := m_filtA (w := 0) hM hr (by decide) hl'
  have eD : M_distributeAllows t (nI r) 0 lk (nI f) (t.Z 13) (t.Z 14) (t.S 15) = some (daV t r 0 lk (nI f) (t.Z 13) (t.Z 14) (t.S 15)) := m_distA (w := 0) hM hr hl'
  unfold M_takeAll_b176
  rw [if_neg (by decide), eF, eD]
  simp only [Option.bind_some]
  by_cases c1 : faV t r 0 (nI f) (t.Z 13) (t.Z 14) (t.S 15) = 0
  · rw [if_pos c1, if_pos (Or.inl c1)]
    exact m_e235
  · rw [if_neg c1]
    by_cases c2 : daV t r 0 lk (nI f) (t.Z 13) (t.Z 14) (t.S 15) = 0
    · rw [if_pos c2, if_pos (Or.inr c2)]
      exact m_e235
    · rw [if_neg c2, if_neg (fun z => z.elim c1 c2)]
/-- an entry that is learned -/
noncomputable def lnO (t : moS) (r p f : Nat) (metric tag : Int32) (gh gl h l ha la : Int64) (n : Int32) : Ten := Option.bind (M_learn (moSZ (moSZ t 164 gh) 165 gl) (nI r) (nI (4 * r + p)) (nI f) metric tag h l) (fun s1 => some (.inl (ha, la, n + 1, s1)))
theorem m_eC (hM : MV t) (hr : r < cR t) (hp : p < cI t r) (hI : IN t L) (hB : ∀ j, L.getD j 0 = nI (vc L j)) (he : e + 20 ≤ 600) (hf : f = 0 ∨ f = 1) (hl' : lnOk (nI f) (t.S 15)) : M_takeAll_b236 t (nI (4 * r + p)) (nI f) h l (nI r) lk (nI (2 * (4 * r + p) + f)) ha la n' (nI e) me 1 = lnO t r p f (mn16 (Int64.toInt32 me + t.I 72 (4 * r + p) + ofV t r 0 lk (nI f) (t.Z 13) (t.Z 14) (t.S 15))) (tgF (fun j => L.getD j 0) f e) (gtH t (2 * (4 * r + p) + f) (if f = 0 then hiF (fun j => L.getD j 0) (e + 12) 0 else ha) la h) (gtL t (2 * (4 * r + p) + f) (if f = 0 then hiF (fun j => L.getD j 0) (e + 12) 0 else ha) la l) h l (if f = 0 then hiF (fun j => L.getD j 0) (e + 12) 0 else ha) la n' := by
  have h6 := hM.nR
  have h4 := hM.nIf hr
  have hN := hM.1.1
  have r72 : rdI t 72 (nI (4 * r + p)) = some (t.I 72 (4 * r + p)) := rdI_n (n := 24) (hN.n 72 24) (by omega) (by decide)
  have hx : 2 * (4 * r + p) + f < 48 := by omega
  have r76 : rdJ t 76 (nI (2 * (4 * r + p) + f)) = some (t.J 76 (2 * (4 * r + p) + f)) := rdJ_n (n := 48) (hN.n 76 48) hx (by decide)
  have r77 : rdJ t 77 (nI (2 * (4 * r + p) + f)) = some (t.J 77 (2 * (4 * r + p) + f)) := rdJ_n (n := 48) (hN.n 77 48) hx (by decide)
  have r78 : rdI t 78 (nI (2 * (4 * r + p) + f)) = some (t.I 78 (2 * (4 * r + p) + f)) := rdI_n (n := 48) (hN.n 78 48) hx (by decide)
  have eO : M_offsetFor t (nI r) 0 lk (nI f) (t.Z 13) (t.Z 14) (t.S 15) = some (ofV t r 0 lk (nI f) (t.Z 13) (t.Z 14) (t.S 15)) := m_offA (w := 0) hM hr hl'
  have rd : ∀ j, j < 700 → rdI t 149 (nI j) = some (nI (vc L j)) := fun j hj => hI.rd (hN.n 149 700) hB hj
  generalize hX : 2 * (4 * r + p) + f = X at *
  generalize hv : Int64.toInt32 me + t.I 72 (4 * r + p) + ofV t r 0 lk (nI f) (t.Z 13) (t.Z 14) (t.S 15) = v
  -- the end
  have e439 : ∀ (a : Int64) (u tag : Int32), M_takeAll_b439 t (nI (4 * r + p)) (nI f) h l (nI r) lk (nI X) a la n' v u tag = lnO t r p f (mn16 v) tag (if u = 0 then a else h) (if u = 0 then la else l) h l a la n' := fun a u tag => by
    have e469 : ∀ (t' : moS) (u1 : Int64), M_takeAll_b469 t' (nI (4 * r + p)) (nI f) h l (nI r) lk (nI X) a la n' v tag u1 = Option.bind (M_learn (moSZ t' 165 u1) (nI r) (nI (4 * r + p)) (nI f) (mn16 v) tag h l) (fun s1 => some (.inl (a, la, n' + 1, s1))) := fun t' u1 => by
      unfold M_takeAll_b469 letS M_takeAll_b491 M_takeAll_b499
      rw [mn16_m]
      by_cases c : (16 : Int32) < v
      · rw [if_pos c]
        dsimp only
        rw [if_pos c]
      · rw [if_neg c]
        dsimp only
        rw [if_neg c]
    unfold M_takeAll_b439 M_takeAll_b453 letS lnO
    by_cases c : u = 0
    · rw [if_pos c, if_pos c, if_pos c]
      dsimp only
      rw [if_pos c, e469]
    · rw [if_neg c, if_neg c, if_neg c]
      dsimp only
      rw [if_neg c, e469]
  have e384 : ∀ (a : Int64) (u : Int32), M_takeAll_b384 t (nI (4 * r + p)) (nI f) h l (nI r) lk (nI X) a la n' (nI e) v u = lnO t r p f (mn16 v) (tgF (fun j => L.getD j 0) f e) (if u = 0 then a else h) (if u = 0 then la else l) h l a la n' := fun a u => by
    have tg := (tg_rng (i := e) hB hf).2 _ rfl
    unfold M_takeAll_b384
    rw [show (2 : Int32) = nI 2 from rfl, show (3 : Int32) = nI 3 from rfl, show (16 : Int32) = nI 16 from rfl, show (17 : Int32) = nI 17 from rfl, nI_add, nI_add, nI_add, nI_add, rd (e + 2) (by omega), rd (e + 3) (by omega), rd (e + 16) (by omega), rd (e + 17) (by omega)]
    simp only [Option.bind_some]
    rw [sh8_or (vc_b _ _) (vc_b _ _), sh8_or (vc_b _ _) (vc_b _ _), e439, e439]
    rcases hf with rfl | rfl
    · rw [if_pos (show nI 0 = 0 from rfl), tg]
      rfl
    · rw [if_neg (show ¬ nI 1 = 0 by decide), tg]
      rfl
  have e308 : ∀ a : Int64, M_takeAll_b308 t (nI (4 * r + p)) (nI f) h l (nI r) lk (nI X) a la n' (nI e) v = lnO t r p f (mn16 v) (tgF (fun j => L.getD j 0) f e) (gtH t X a la h) (gtL t X a la l) h l a la n' := fun a => by
    have y379 : hpN t X a la → M_takeAll_b379 t (nI (4 * r + p)) (nI f) h l (nI r) lk (nI X) a la n' (nI e) v = lnO t r p f (mn16 v) (tgF (fun j => L.getD j 0) f e) (gtH t X a la h) (gtL t X a la l) h l a la n' := fun c => by
      unfold M_takeAll_b379
      rw [e384, if_neg (by decide), if_neg (by decide), gtH_p c, gtL_p c]
    have y348 : ¬ (a = 0 ∧ la = 0) → ¬ (a = t.J 76 X ∧ la = t.J 77 X) → M_takeAll_b348 t (nI (4 * r + p)) (nI f) h l (nI r) lk (nI X) a la n' (nI e) v = lnO t r p f (mn16 v) (tgF (fun j => L.getD j 0) f e) (gtH t X a la h) (gtL t X a la l) h l a la n' := fun c1 c2 => by
      unfold M_takeAll_b348
      rw [r76, r77, r78]
      simp only [Option.bind_some]
      have mc := (M_cov (t.J 76 X) (t.J 77 X) (t.I 78 X) a la).1
      by_cases c : M_covers (t.J 76 X) (t.J 77 X) (t.I 78 X) a la = 0
      · rw [if_pos c]
        exact y379 (Or.inr (Or.inr (mc.mp c)))
      · have no : ¬ hpN t X a la := fun y => y.elim c1 fun y => y.elim c2 fun y => c (mc.mpr y)
        rw [if_neg c, e384, if_pos rfl, if_pos rfl, gtH_n no, gtL_n no]
    have y322 : ¬ (a = 0 ∧ la = 0) → M_takeAll_b322 t (nI (4 * r + p)) (nI f) h l (nI r) lk (nI X) a la n' (nI e) v = lnO t r p f (mn16 v) (tgF (fun j => L.getD j 0) f e) (gtH t X a la h) (gtL t X a la l) h l a la n' := fun c1 => by
      unfold M_takeAll_b322
      rw [r76, r77]
      simp only [Option.bind_some]
      by_cases c : a = t.J 76 X
      · rw [if_pos c]
        by_cases d : la = t.J 77 X
        · rw [if_pos d]
          exact y379 (Or.inr (Or.inl ⟨c, d⟩))
        · rw [if_neg d]
          exact y348 c1 (fun z => d z.2)
      · rw [if_neg c]
        exact y348 c1 (fun z => c z.1)
    unfold M_takeAll_b308
    by_cases c : a = 0
    · rw [if_pos c]
      by_cases d : la = 0
      · rw [if_pos d]
        exact y379 (Or.inl ⟨c, d⟩)
      · rw [if_neg d]
        exact y322 (fun z => d z.2)
    · rw [if_neg c]
      exact y322 (fun z => c z.1)
  unfold M_takeAll_b236
  rw [if_neg (by decide), r72, eO]
  simp only [Option.bind_some]
  rw [hv]
  rcases hf with rfl | rfl
  · have eH : M_highOf t 149 (nI (e + 12)) (nI 0) = some (hiF (t.I 149) (e + 12) 0) := m_high (N := 700) (hN.n 149 700) (by omega) (by decide) (Or.inl rfl)
    rw [if_pos (show nI 0 = 0 from rfl), if_pos rfl, show (12 : Int32) = nI 12 from rfl, nI_add]
    refine (congrArg (fun y => Option.bind y _) eH).trans ?_
    simp only [Option.bind_some]
    rw [e308, (hi_e (g' := fun j => L.getD j 0) (f := 0) (i := e + 12) (fun j hj => hI.2 j hj) (by omega)).1]
  · rw [if_neg (show ¬ nI 1 = 0 by decide), if_neg (by decide), e308]
end Me
