/-! The class's addPort. -/
section Ap
variable {G H : Nat → Nat → Nat} {sa : Nat → Nat} {x r n l kc ks : Nat} {s : cS} {t : moS} {Q : Option Nat → cS → Nat → Nat → Prop}
theorem c_addP (h : RR G H sa x s t) (hM : MV t) (hr : r < cR t) (hn : n = cI t r) (h4 : n < 4) (hl : l < cL t) (hkc : 21 ≤ kc) (hks : 260 ≤ ks) (kk : ∀ G' H' s' kc' ks', RR G' H' sa x s' (niT t r l) → gA G G' t → hA H H' s → fr [26] [] [139] s s' → kc ≤ kc' + 21 → ks ≤ ks' + 260 → Q (some (G' 2 (4 * r + n))) s' kc' ks') : C_Rr_addPort sa (G 1 r) (some (G 0 l)) s kc ks Q := by
  have hq := h.q.1
  have hr26 := (hq.rt hr).1.1
  have hlk : (s.K (G 0 l)).1 = 7 := (hq.2.2.2.1 l hl).1.1
  have p184 := hq.ty.r hr26 184 139 4
  have i185 : s.I 185 (G 1 r) = nI n := by
    rw [(hq.rt hr).2.2.1.2.2.1, hn]
    exact (hM.r hr).2.2.2.2.2.2.2.2.2.1.n.1
  unfold C_Rr_addPort
  refine hq_nwO (u := 8) hp_rf (by omega) (by omega) fun q sq h0 => ?_
  refine ⟨hp_o (L1 := []) h0 (by decide), hq_Po h0 (by omega) (by omega) fun A C y LA sN kc' ks' hp hm hk1 hk2 => ?_⟩
  obtain ⟨R, f, hh, hN, kq0, kr0⟩ := po_made h hM hr hn h4 hlk hp hm
  have g := gA_po (G := G) (q := q) (w := C 27) hM hn h4
  have eG2 : poG G (4 * r + n) q (C 27) 2 (4 * r + n) = q := if_pos ⟨rfl, rfl⟩
  have eG8 : ∀ k, k < 4 → poG G (4 * r + n) q (C 27) 8 (4 * (4 * r + n) + k) = C 27 + 1 + k := fun k hk => by
    unfold poG
    rw [if_neg (by omega), if_pos (by omega)]
    omega
  have hN' : PoN (poH H q (G 0 l) A C) sN (poG G (4 * r + n) q (C 27) 2 (4 * r + n)) (poG G (4 * r + n) q (C 27) 0 l) (fun k => poG G (4 * r + n) q (C 27) 8 (4 * (4 * r + n) + k)) := by
    rw [eG2, g.1 l hl]
    obtain ⟨N1, N2, ⟨N3, N4, N5, N6⟩, N7⟩ := hN
    exact ⟨N1, N2, ⟨N3, N4, N5, fun k hk => by dsimp only; rw [eG8 k hk]; exact N6 k hk⟩, N7⟩
  have hIr := hq.2.2.2.2.2.1
  obtain ⟨R2, f2⟩ := po_rr R hM hr hn h4 hl hN' (fun r' p' hr' hp' e => by
    rw [eG2, ((g.2.1 r' hr').2.1 p' hp').1] at e
    have := (hq.po hr' hp').1.1
    rw [e, kq0] at this
    exact absurd this (by decide)) (fun r' p' k k' hr' hp' hk hk' e => by
    rw [eG8 k' hk', ((g.2.1 r' hr').2.1 p' hp').2 k hk] at e
    have := ((hq.po hr' hp').2.2.2.2.2.2.1.2.2.2.1 k hk).2
    rw [e] at this
    have := congrArg Prod.fst this
    rw [kr0 k' hk'] at this
    exact absurd this (show ¬ (0 : Nat) = 126 by decide)) (fun k k' hk hk' e => by
    rw [eG8 k hk, eG8 k' hk'] at e
    omega)
  rw [(g.2.1 r hr).1, hh 184 (G 1 r) (by rw [hr26]; decide)] at R2 f2
  have o9 : okO sN 9 (G 1 r) := okr (f.r hr26) 9
  have i185' : sN.I (20 * 9 + 5) (G 1 r) = nI n := ((f.v hr26 (by decide)).1 185).trans i185
  have k184 : sN.K (H 184 (G 1 r)) = (139, 4) := f.k p184.2
  have P184 : sN.P (20 * 9 + 4) (G 1 r) = some (H 184 (G 1 r)) := (f.p hr26 (by decide)).trans p184.1
  refine ⟨_, gd_to o9, _, gd_to o9, _, P184, _, gd_to ⟨by rw [k184]; decide, by rw [k184]; decide⟩, ?_⟩
  rw [i185', k184]
  refine ifT (nI_lt (b := 4) h4 (by decide)) ⟨_, gd_to o9, _, gd_to o9, _, P184, ?_⟩
  rw [i185']
  have kq' : sN.K q = (8, 0) := ov_K (hp.2.1 (q, poNv A (some (G 0 l))) (by simp)).1
  refine ⟨_, gd_to ⟨⟨by rw [k184]; decide, by rw [k184]; decide, by rw [k184]; exact vp_in_nI h4 (by decide)⟩, by rw [k184]; decide, fun b' hb' => by cases hb'; rw [k184]; exact (show okO sN 4 q by unfold okO; rw [kq']; decide)⟩, ?_⟩
  rw [nI_clamp (by omega)]
  refine ⟨_, gd_to o9, ?_⟩
  rw [show (cSQ sN (H 184 (G 1 r)) n (some q)).I (20 * 9 + 5) (G 1 r) = nI n from i185']
  dsimp only
  rw [nI_1]
  rw [eG2] at R2 f2
  have := kk _ _ _ kc' ks' R2 g hh (f.wk.tr f2) (by omega) (by omega)
  rw [eG2] at this
  exact ⟨_, gd_to o9, this⟩
end Ap
