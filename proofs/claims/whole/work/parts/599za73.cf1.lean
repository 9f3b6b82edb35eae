/-! Configuration: links and lists, both sides. -/
section C1
variable {G H : Nat → Nat → Nat} {sa : Nat → Nat} {pg k0 m0 m kc ks x : Nat} {s0 s : cS} {t0 t : moS} {Q : cS → Nat → Nat → Prop}
theorem j_link (hq : RQ G H sa x s0 t0) (hM : MV t0) (h222 : s0.P 222 x = some pg) {i : Nat} (hi : i < cL t0) (h : J0 sa pg s0 k0 m0 t0 m s kc ks t) (hm : m + 150 ≤ 131000) (k : ∀ t', M_sayLink t (nI i) = some t' → ∀ s' kc' ks', J0 sa pg s0 k0 m0 t0 (m + 100) s' kc' ks' t' → Q s' kc' ks') : C_Rf_writeLink sa x (some (G 0 i)) s kc ks Q := by
  have ox := hq.ox
  have ht := hq.tk
  have hN := hM.n
  have h10 := hM.nL
  obtain ⟨⟨k7, -⟩, ⟨nm, p60, tx60, n60⟩, ⟨i61, i62, i63, -⟩, -⟩ := hq.link hi
  have o3 := okr k7 3
  unfold M_sayLink at k
  unfold C_Rf_writeLink
  refine h.page ox h222 ⟨_, rfl, j0_c 0 782971 (by decide +kernel) (by decide) h ht (by omega) fun s1 c1 d1 t1 e1 h1 => ?_⟩
  rw [e1, Option.bind_some] at k
  rw [h1.rJ hN 18 10 (by omega), Option.bind_some] at k
  refine h1.page ox h222 ⟨_, rfl, h1.gP o3 (by decide) ⟨_, rfl, ?_⟩⟩
  refine j1_n (p := H 60 (G 0 i)) p60 tx60 n60 h1 (by omega) fun s2 c2 d2 t2 e2 h2 => ?_
  rw [e2, Option.bind_some] at k
  refine h2.page ox h222 (h2.gI o3 (by decide) ⟨_, rfl, ?_⟩)
  rw [show s0.I (20 * 3 + 1) (G 0 i) = t0.I 19 i from i61]
  rw [h2.rI hN 19 10 (by omega), Option.bind_some] at k
  refine j1_u (t0.I 19 i) h2 ht (by omega) fun s3 c3 d3 t3 e3 h3 => ?_
  rw [e3, Option.bind_some] at k
  refine h3.page ox h222 ⟨_, rfl, j1_c 1 1048352218 (by decide +kernel) (by decide) h3 ht (by omega) fun s4 c4 d4 t4 e4 h4 => ?_⟩
  rw [e4, Option.bind_some] at k
  refine h4.page ox h222 (h4.gI o3 (by decide) ⟨_, rfl, ?_⟩)
  rw [show s0.I (20 * 3 + 2) (G 0 i) = t0.I 20 i from i62]
  rw [h4.rI hN 20 10 (by omega), Option.bind_some] at k
  refine j1_u (t0.I 20 i) h4 ht (by omega) fun s5 c5 d5 t5 e5 h5 => ?_
  rw [e5, Option.bind_some] at k
  refine h5.page ox h222 ⟨_, rfl, j1_c 2 21621 (by decide +kernel) (by decide) h5 ht (by omega) fun s6 c6 d6 t6 e6 h6 => ?_⟩
  rw [e6, Option.bind_some] at k
  refine h6.page ox h222 (h6.gI o3 (by decide) ⟨_, rfl, ?_⟩)
  rw [show s0.I (20 * 3 + 3) (G 0 i) = t0.I 21 i from i63]
  rw [h6.rI hN 21 10 (by omega), Option.bind_some] at k
  refine j1_u (t0.I 21 i) h6 ht (by omega) fun s7 c7 d7 t7 e7 h7 => ?_
  rw [e7, Option.bind_some] at k
  refine h7.page ox h222 ⟨_, rfl, j1_e h7 (by omega) fun s8 c8 d8 t8 e8 h8 => ?_⟩
  rw [e8, Option.bind_some] at k
  exact k _ rfl _ _ _ (h8.wk (by omega))
end C1
