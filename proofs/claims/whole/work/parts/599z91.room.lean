/-! How many entries a datagram has room for: the model, the class. -/
/-- keys' bytes, and the most entries beside them -/
def roK (V : chV) (f : Nat) (ky : Option Nat) : Nat × Nat := if f = 0 then (if V.1 = 1 then (20, 24) else match ky with
  | none => (0, 25)
  | some k => if (V.2.2.getD k k0V).2.1 = 0 then (40, 24) else (60, 23)) else (0, 25)
def roN (V : chV) (f : Nat) (ky : Option Nat) (mt : Nat) : Nat := min (roK V f ky).2 ((mt - 4 - (roK V f ky).1) / 20)
theorem roK_b {V : chV} {f : Nat} {ky : Option Nat} : (roK V f ky).1 ≤ 60 ∧ (roK V f ky).2 ≤ 25 ∧ 23 ≤ (roK V f ky).2 := by
  have h1 : ∀ {a : Nat × Nat} {n m : Nat}, a = (n, m) → n ≤ 60 → m ≤ 25 → 23 ≤ m → a.1 ≤ 60 ∧ a.2 ≤ 25 ∧ 23 ≤ a.2 := fun e a1 a2 a3 => by rw [e]; exact ⟨a1, a2, a3⟩
  unfold roK
  by_cases c : f = 0
  · rw [if_pos c]
    by_cases d : V.1 = 1
    · rw [if_pos d]
      exact h1 rfl (by decide) (by decide) (by decide)
    · rw [if_neg d]
      cases ky with
      | none => exact h1 rfl (by decide) (by decide) (by decide)
      | some k =>
        by_cases e : (V.2.2.getD k k0V).2.1 = 0
        · exact h1 (if_pos e) (by decide) (by decide) (by decide)
        · exact h1 (if_neg e) (by decide) (by decide) (by decide)
  · rw [if_neg c]
    exact h1 rfl (by decide) (by decide) (by decide)
theorem roN_b {V : chV} {f : Nat} {ky : Option Nat} {mt : Nat} (h : 84 ≤ mt) : 1 ≤ roN V f ky mt ∧ roN V f ky mt ≤ 25 := by
  have := roK_b (V := V) (f := f) (ky := ky)
  unfold roN
  omega
section Rm
variable {G H : Nat → Nat → Nat} {sa : Nat → Nat} {x kc ks r p l c D b f : Nat} {s : cS} {t : moS} {V : chV} {ky : Option Nat} {hd : List Int32} {cmd : Int32}
theorem rm_m {q mt more most : Nat} (hM : MV t) (hq : q < 24) (hl : l < cL t) (h71 : t.I 71 q = nI l) (hmt : t.I 21 l = nI mt) (h84 : 84 ≤ mt) (h576 : mt ≤ 576) (hmo : more ≤ 60) (hms : most ≤ 25) : M_mostEntries_b112 t (nI q) (nI more) (nI most) = some (nI (min most ((mt - 4 - more) / 20))) := by
  have h10 := hM.nL
  unfold M_mostEntries_b112
  rw [rdI_n (n := 24) (hM.n.n 71 24) hq (by decide), h71]
  simp only [Option.bind_some]
  rw [rdI_n (n := 10) (hM.n.n 21 10) (by omega) (by decide), hmt]
  simp only [Option.bind_some]
  have e : (nI mt - 4 - nI more) / 20 = nI ((mt - 4 - more) / 20) := by
    rw [show (4 : Int32) = nI 4 from rfl, pk_sub (by omega), pk_sub (by omega)]
    exact pk_div (d := 20) (by omega) (by omega) (by omega)
  rw [e]
  by_cases c : (mt - 4 - more) / 20 < most
  · rw [if_pos (nI_lt c (by omega)), Nat.min_eq_right (by omega)]
  · rw [if_neg (nI_nlt (by omega) (by omega)), Nat.min_eq_left (by omega)]
theorem m_most {nn : Int32} (hM : MV t) (hr : r < cR t) (hp : p < cI t r) (hf : f = 0 ∨ f = 1) (hl : l < cL t) (h71 : t.I 71 (4 * r + p) = nI l) (hV : VV V) (hC : MC t (4 * r + p) V) : (∃ n, n ≤ 25 ∧ M_mostEntries t (nI (4 * r + p)) (nI f) = some (nI n)) ∧ ∀ ky hd, opH V (nI f) (t.S 1) nn cmd = some (ky, hd) → M_mostEntries t (nI (4 * r + p)) (nI f) = some (nI (roN V f ky (t.I 21 l).toNatClampNeg)) := by
  have h6 := hM.nR
  have h4 := hM.nIf hr
  have hq : 4 * r + p < 24 := by omega
  obtain ⟨mt, hmt, h84, h576⟩ := (hM.2.1 l hl).2.2.1
  have cm : (t.I 21 l).toNatClampNeg = mt := by rw [hmt, nI_clamp (by omega)]
  rw [cm]
  have rm := fun more most (h1 : more ≤ 60) (h2 : most ≤ 25) => rm_m hM hq hl h71 hmt h84 h576 h1 h2
  have b25 : ∀ most a, min most a ≤ most := fun _ _ => Nat.min_le_left _ _
  unfold M_mostEntries
  have b84 : M_mostEntries_b14 t (nI (4 * r + p)) 0 = some (nI (min 25 ((mt - 4 - 0) / 20))) := by
    unfold M_mostEntries_b14 M_mostEntries_b29 M_mostEntries_b51 M_mostEntries_b52 M_mostEntries_b84
    rw [if_neg (by decide), if_pos rfl, if_pos rfl, if_pos rfl]
    exact rm 0 25 (by decide) (by decide)
  rcases hf with rfl | rfl
  rotate_left
  · rw [if_neg (show ¬ nI 1 = 0 by decide), b84]
    refine ⟨⟨_, b25 25 _, rfl⟩, fun ky hd ho => ?_⟩
    unfold roN roK
    rw [if_neg (by decide)]
  rw [if_pos (show nI 0 = 0 from rfl), rdI_n (n := 24) (hM.n.n 79 24) hq (by decide), hC.1]
  simp only [Option.bind_some]
  obtain ⟨v1, v2, v3, v4, v5, -⟩ := hV
  rcases (show V.1 = 0 ∨ V.1 = 1 ∨ V.1 = 2 by omega) with z | z | z
  · rw [z, show nI 0 = (0 : Int32) from rfl, b84]
    refine ⟨⟨_, b25 25 _, rfl⟩, fun ky hd ho => ?_⟩
    have ek : ky = none := by
      unfold opH at ho
      rw [if_pos rfl, if_pos z] at ho
      cases ho
      rfl
    unfold roN roK
    rw [if_pos rfl, if_neg (by omega), ek]
  · rw [z]
    have : M_mostEntries_b14 t (nI (4 * r + p)) (nI 1) = some (nI (min 24 ((mt - 4 - 20) / 20))) := by
      unfold M_mostEntries_b14 M_mostEntries_b29 M_mostEntries_b51 M_mostEntries_b52 M_mostEntries_b84 M_mostEntries_b105
      rw [if_neg (by decide), if_pos rfl, if_neg (by decide), if_pos (show nI 1 = 1 from rfl), if_neg (by decide), if_pos (show nI 1 = 1 from rfl)]
      exact rm 20 24 (by decide) (by decide)
    rw [this]
    refine ⟨⟨_, by have := b25 24 ((mt - 4 - 20) / 20); omega, rfl⟩, fun ky hd ho => ?_⟩
    unfold roN roK
    rw [if_pos rfl, if_pos z]
  · rw [z]
    have eB := m_born hM.n hq hC v2
    have b52 : ∀ u, (u = 0 ∨ u = 1) → M_mostEntries_b52 t (nI (4 * r + p)) (nI 2) u = some (nI (if u = 0 then min 24 ((mt - 4 - 40) / 20) else min 23 ((mt - 4 - 60) / 20))) := by
      intro u hu
      unfold M_mostEntries_b52 M_mostEntries_b84 M_mostEntries_b105
      rw [if_neg (show ¬ nI 2 = 0 by decide), if_neg (show ¬ nI 2 = 1 by decide)]
      rcases hu with rfl | rfl
      · rw [if_pos rfl, if_neg (show ¬ nI 2 = 0 by decide), if_neg (show ¬ nI 2 = 1 by decide), if_pos rfl, if_pos rfl]
        exact rm 40 24 (by decide) (by decide)
      · rw [if_neg (by decide), if_neg (show ¬ nI 2 = 0 by decide), if_neg (show ¬ nI 2 = 1 by decide), if_neg (by decide), if_neg (by decide)]
        exact rm 60 23 (by decide) (by decide)
    have eo : ∀ nn cmd, opH V (nI 0) (t.S 1) nn cmd = (bkN (t.S 1) V.2.2 V.2.2.length).map fun b => (some b, hdL cmd 2 ++ keL 0 (V.2.2.getD b k0V) nn) := fun nn cmd => by
      unfold opH; rw [if_pos (show nI 0 = 0 from rfl), if_neg (by omega), if_neg (by omega)]
    unfold M_mostEntries_b14 M_mostEntries_b29 M_mostEntries_b51
    rw [if_pos (show nI 2 = 2 from rfl), eB]
    simp only [Option.bind_some]
    cases ek : bkN (t.S 1) V.2.2 V.2.2.length with
    | none =>
      rw [show ixO (4 * (4 * r + p)) (none : Option Nat) = -1 from rfl, if_pos rfl, b52 0 (Or.inl rfl), if_pos rfl]
      refine ⟨⟨_, by have := b25 24 ((mt - 4 - 40) / 20); omega, rfl⟩, fun ky hd ho => ?_⟩
      rw [eo, ek] at ho
      cases ho
    | some kx =>
      obtain ⟨hb, -⟩ := bkN_b _ _ _ _ ek
      have hgk := gk_D hb
      obtain ⟨-, q2, -⟩ := hC.2.2.1 kx _ hgk
      have hbit := (v5 kx _ hgk).2.1
      rw [if_neg (ixO_n (by omega)), show ixO (4 * (4 * r + p)) (some kx) = nI (4 * (4 * r + p) + kx) from rfl, rdI_n (n := 96) (hM.n.n 84 96) (by omega) (by decide), q2]
      simp only [Option.bind_some]
      by_cases c : (V.2.2.getD kx k0V).2.1 = 0
      · rw [if_pos c, b52 0 (Or.inl rfl), if_pos rfl]
        refine ⟨⟨_, by have := b25 24 ((mt - 4 - 40) / 20); omega, rfl⟩, fun ky hd ho => ?_⟩
        rw [eo, ek] at ho
        cases ho
        unfold roN roK
        rw [if_pos rfl, if_neg (by omega)]
        show some (nI _) = some (nI (min (if (V.2.2.getD kx k0V).2.1 = 0 then ((40, 24) : Nat × Nat) else (60, 23)).2 ((mt - 4 - (if (V.2.2.getD kx k0V).2.1 = 0 then ((40, 24) : Nat × Nat) else (60, 23)).1) / 20)))
        rw [if_pos c]
      · rw [if_neg c, b52 1 (Or.inr rfl), if_neg (by decide)]
        refine ⟨⟨_, by have := b25 23 ((mt - 4 - 60) / 20); omega, rfl⟩, fun ky hd ho => ?_⟩
        rw [eo, ek] at ho
        cases ho
        unfold roN roK
        rw [if_pos rfl, if_neg (by omega)]
        show some (nI _) = some (nI (min (if (V.2.2.getD kx k0V).2.1 = 0 then ((40, 24) : Nat × Nat) else (60, 23)).2 ((mt - 4 - (if (V.2.2.getD kx k0V).2.1 = 0 then ((40, 24) : Nat × Nat) else (60, 23)).1) / 20)))
        rw [if_neg c]
theorem w_room {Q : Int32 → cS → Nat → Nat → Prop} {mt : Nat} {nn : Int32} (hg : RGl G H sa x s) (hX : PX G H x s t r p l c D b V) (hf : f = 0 ∨ f = 1) (hmt : s.I 63 (G 0 l) = nI mt) (h84 : 84 ≤ mt) (h576 : mt ≤ 576) (ho : opH V (nI f) (t.S 1) nn cmd = some (ky, hd)) (k : Q (nI (roN V f ky mt)) s kc ks) : C_Po_entryRoom sa (G 2 (4 * r + p)) (fam (nI f)) (ixO 0 ky) s kc ks Q := by
  obtain ⟨-, ⟨y1, y2, y3, y4, y5, y6, y7, y8⟩, ⟨z1, z2, z3, z4, z5, z6⟩, -⟩ := hX
  have hVV := z4
  obtain ⟨v1, v2, v3, v4, v5, -⟩ := z4
  have b77 : ∀ more most, more ≤ 60 → 23 ≤ most → most ≤ 25 → roK V f ky = (more, most) → C_Po_entryRoom_b77 sa (nI most) (nI (mt - 4 - more)) s kc ks Q := by
    intro more most h1 h2 h3 e
    unfold C_Po_entryRoom_b77
    unfold roN at k
    rw [e] at k
    have ed : nI (mt - 4 - more) / 20 = nI ((mt - 4 - more) / 20) := pk_div (d := 20) (by omega) (by omega) (by omega)
    rw [ed]
    have em : mnI (nI most) (nI ((mt - 4 - more) / 20)) = nI (min most ((mt - 4 - more) / 20)) := by
      unfold mnI
      by_cases c : (mt - 4 - more) / 20 < most
      · rw [if_pos (nI_lt c (by omega)), Nat.min_eq_right (by omega)]
      · rw [if_neg (nI_nlt (by omega) (by omega)), Nat.min_eq_left (by omega)]
    rw [em]
    have ex : mxI (1 : Int32) (nI (min most ((mt - 4 - more) / 20))) = nI (min most ((mt - 4 - more) / 20)) := by
      unfold mxI
      by_cases c : 1 < min most ((mt - 4 - more) / 20)
      · rw [if_pos (show (1 : Int32) < nI _ from nI_lt (a := 1) c (by omega))]
      · have : min most ((mt - 4 - more) / 20) = 1 := by omega
        rw [this, if_neg (by decide)]
        rfl
    rw [ex]
    exact k
  have em : s.I 63 (G 0 l) - 4 = nI (mt - 4) := by rw [hmt, show (4 : Int32) = nI 4 from rfl, pk_sub (by omega)]
  unfold C_Po_entryRoom
  refine ⟨_, gd_to y1, G 0 l, y3, _, gd_to y6, ?_⟩
  show (if fam (nI f) = (4 : Int32) then (ob (gP s 4 6 (G 2 (4 * r + p))) (fun v4 => (ob v4 (fun b5 => (ob (gI s 1 0 b5) (fun v6 => (if v6 = 0 then (C_Po_entryRoom_b38 sa (G 2 (4 * r + p)) (fam (nI f)) (ixO 0 ky) 25 (s.I 63 (G 0 l) - 4) s kc ks Q) else (C_Po_entryRoom_b77 sa (25 + (-1)) ((s.I 63 (G 0 l) - 4) + (-20)) s kc ks Q)))))))) else (C_Po_entryRoom_b38 sa (G 2 (4 * r + p)) (fam (nI f)) (ixO 0 ky) 25 (s.I 63 (G 0 l) - 4) s kc ks Q))
  rw [em]
  unfold C_Po_entryRoom_b38
  rcases hf with rfl | rfl
  rotate_left
  · refine ifF (by decide) (ifF (by decide) ?_)
    exact b77 0 25 (by decide) (by decide) (by decide) (by unfold roK; rw [if_neg (by decide)])
  refine ifT rfl ⟨_, gd_to y1, c, z1, _, gd_to z3, ?_⟩
  rw [show s.I (20 * 1 + 0) c = (if V.1 = 1 then 1 else 0) from z5.1]
  by_cases z : V.1 = 1
  · rw [if_pos z]
    refine ifF (by decide) ?_
    have := b77 20 24 (by decide) (by decide) (by decide) (by unfold roK; rw [if_pos rfl, if_pos z])
    rw [show nI (mt - 4) + (-20) = nI (mt - 4 - 20) by rw [← Int32.sub_eq_add_neg, show (20 : Int32) = nI 20 from rfl, pk_sub (by omega)]]
    exact this
  rw [if_neg z]
  refine ifT rfl (ifT rfl ?_)
  cases ky with
  | none =>
    refine ifT (by decide) (b77 0 25 (by decide) (by decide) (by decide) ?_)
    unfold roK
    rw [if_pos rfl, if_neg z]
  | some kx =>
    have hk : kx < V.2.2.length ∧ V.1 = 2 := by
      have := (op_wr (E := []) hVV ho).2 kx rfl
      exact ⟨this.1, this.2.2.2.2⟩
    have hgk := gk_D hk.1
    obtain ⟨-, q24, -⟩ := z5.2.2.1 kx _ hgk
    have p24 := (chK hg z3).2.2.1
    rw [show ixO 0 (some kx) = nI kx by show nI (0 + kx) = _; rw [Nat.zero_add]]
    have es : ∀ Q', (∀ n, n = (if (V.2.2.getD kx k0V).2.1 = 0 then 20 else 40) → Q' (nI n) s kc ks) → C_Ch_endSize sa c (nI kx) s kc ks Q' := fun Q' h => by
      unfold C_Ch_endSize
      refine ⟨_, gd_to z3, _, p24.1, _, rd_E p24.2 ⟨by decide, by decide, rfl⟩ (show kx < 4 by omega) (by decide) q24, ?_⟩
      by_cases c : (V.2.2.getD kx k0V).2.1 = 0
      · rw [if_pos c]
        exact ifT rfl (h 20 (if_pos c).symm)
      · rw [if_neg c]
        exact ifF (by decide) (h 40 (if_neg c).symm)
    refine ifF (show ¬ nI kx < 0 from nI_pos (by omega)) ⟨_, gd_to y1, c, z1, z3, es _ fun n hn => ⟨_, gd_to y1, c, z1, z3, es _ fun n' hn' => ?_⟩⟩
    have en : n' = n := hn'.trans hn.symm
    subst en
    have e1 : (25 : Int32) - nI n' / 20 = nI (25 - n' / 20) := by
      rw [show nI n' / 20 = nI (n' / 20) from pk_div (d := 20) (by split at hn <;> omega) (by omega) (by omega), show (25 : Int32) = nI 25 from rfl, pk_sub (by split at hn <;> omega)]
    have e2 : nI (mt - 4) - (20 + nI n') = nI (mt - 4 - (20 + n')) := by
      rw [show (20 : Int32) = nI 20 from rfl, nI_add, pk_sub (by split at hn <;> omega)]
    rw [e1, e2]
    by_cases c : (V.2.2.getD kx k0V).2.1 = 0
    · rw [if_pos c] at hn
      subst hn
      refine b77 40 24 (by decide) (by decide) (by decide) ?_
      unfold roK
      rw [if_pos rfl, if_neg z]
      exact if_pos c
    · rw [if_neg c] at hn
      subst hn
      refine b77 60 23 (by decide) (by decide) (by decide) ?_
      unfold roK
      rw [if_pos rfl, if_neg z]
      exact if_neg c
end Rm
